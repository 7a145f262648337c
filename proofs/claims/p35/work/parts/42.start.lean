/-! ===== the law's start ===== -/
theorem PIC.sz {D : va_G} {F : Nat → Nat → (Nat → Int32) → (Nat → Int64) → va_E} {n : Nat → Nat} {ad : Nat → Nat → Nat} {d : Dt} {H : Heap} (h : PIC D F n ad d H) {q : Nat} (hq : adS n ad q) : q < H.size := by
  obtain ⟨k, i, hk, e⟩ := hq
  rw [e]
  exact h.lt hk
theorem arrTI {A : Array Value} {s : State} (h : (Cond.arrayClass .int).before A s = true) : ∃ cA, ArrOfT s cA .int ∧ va_RA s cA .int := by
  obtain ⟨c, k, comp, h1, h2, h3⟩ := Cond.arrayClass_spec h
  exact ⟨c, fun n z => ⟨fun k h => (by cases h), k, h2, comp, h3⟩, h1⟩
theorem arrTL {A : Array Value} {s : State} (h : (Cond.arrayClass .long).before A s = true) : ∃ cA, ArrOfT s cA .long ∧ va_RA s cA .long := by
  obtain ⟨c, k, comp, h1, h2, h3⟩ := Cond.arrayClass_spec h
  exact ⟨c, fun n z => ⟨fun k h => (by cases h), k, h2, comp, h3⟩, h1⟩
theorem arrTO {C : String} {s : State} (h : va_AO C s) : ∃ cA, ArrOfT s cA (.object C) ∧ va_RA s cA (.object C) := by
  obtain ⟨comp, c, k, h1, h2, h3, h4, h5⟩ := Cond.arrayOver_spec h
  exact ⟨c, fun n z => ⟨fun k h => (by cases h), k, h3, comp, h4⟩, k, comp, h3, h4, h1, h5⟩
theorem law_K {s : State} {A : Array Value} (hts : ∀ w ∈ lw_tbl, w.before A s = true) : ∃ (D : va_G) (G : Gc), va_K D vwCl (tysG G) s := by
  have ht : ∀ w ∈ wsL_law, w.before A s = true := fun w h => hts w (wsL_law_in w h)
  obtain ⟨c0, i0, k0⟩ := u_known (C := RX0) (T := TX0) (N := 7) (n := 7) ht inlX0 (ht _ wIS_RX0)
  obtain ⟨c1, i1, k1⟩ := u_known (C := RX1) (T := TX1) (N := 6) (n := 6) ht inlX1 (ht _ wIS_RX1)
  obtain ⟨c2, i2, k2⟩ := u_known (C := RX2) (T := TX2) (N := 4) (n := 4) ht inlX2 (ht _ wIS_RX2)
  obtain ⟨c3, i3, k3⟩ := u_known (C := RX3) (T := TX3) (N := 8) (n := 8) ht inlX3 (ht _ wIS_RX3)
  obtain ⟨c4, i4, k4⟩ := u_known (C := RX4) (T := TX4) (N := 9) (n := 9) ht inlX4 (ht _ wIS_RX4)
  obtain ⟨c5, i5, k5⟩ := u_known (C := RX5) (T := TX5) (N := 33) (n := 33) ht inlX5 (ht _ wIS_RX5)
  obtain ⟨a0, x0, y0⟩ := arrTI (ht _ wAC_int)
  obtain ⟨a1, x1, y1⟩ := arrTL (ht _ wAC_long)
  obtain ⟨a2, x2, y2⟩ := arrTO (va_AO.of (hts _ wAO_RX0))
  obtain ⟨a3, x3, y3⟩ := arrTO (va_AO.of (hts _ wAO_RX2))
  obtain ⟨a4, x4, y4⟩ := arrTO (va_AO.of (hts _ wAO_RX3))
  refine ⟨(fun k => match k with | 0 => c0 | 1 => c1 | 2 => c2 | 3 => c3 | 4 => c4 | _ => c5, fun k => match k with | 0 => i0 | 1 => i1 | 2 => i2 | 3 => i3 | 4 => i4 | _ => i5), (a0, a1, a2, a3, a4), fun k q hq => ?_, fun k q hq => ?_⟩
  · match k, hq with
    | 0, hq => cases hq; exact k0
    | 1, hq => cases hq; exact k1
    | 2, hq => cases hq; exact k2
    | 3, hq => cases hq; exact k3
    | 4, hq => cases hq; exact k4
    | 5, hq => cases hq; exact k5
    | n + 6, hq => exact absurd hq (by simp [vwCl])
  · match k, hq with
    | 0, hq => cases hq; exact ⟨x0, y0⟩
    | 1, hq => cases hq; exact ⟨x1, y1⟩
    | 2, hq => cases hq; exact ⟨x2, y2⟩
    | 3, hq => cases hq; exact ⟨x3, y3⟩
    | 4, hq => cases hq; exact ⟨x4, y4⟩
    | n + 5, hq => exact absurd hq (by simp [tysG])
set_option maxRecDepth 100000 in
set_option maxHeartbeats 8000000 in
theorem law_start {p : Program} {e : Env} {s : State} {m : MethodId} {below : List Frame} {meth : Method} {c : Code} (l : Launch) {b : Nat} (S : CallFix p m c cL_law 4 s #[Value.ref b] wsL_law RL) (hts : ∀ w ∈ lw_tbl, w.before #[Value.ref b] s = true) {Q : State → Prop} (kk : ∀ (D : va_G) (G : Gc) (aX aM : Nat → Nat → Nat) (H : Heap) (locs : List Loc) (ls : Array Slot), va_K D vwCl (tysG G) s → NW s → PIC D (XF G 0 0 aX) (XN 0 0) aX d0X H → PIC D (MF G aM) MN aM d0M H → (∀ q, adS (XN 0 0) aX q → s.heap.size ≤ q) → (∀ q, adS MN aM q → s.heap.size ≤ q) → (∀ q, adS (XN 0 0) aX q → ¬ adS MN aM q) → va_S (fun q => s.heap.size ≤ q) s.heap H locs → lv_has ls 4 [(3, .int 0), (2, .ref (aM 0 0)), (1, .ref (aX 0 0)), (0, .ref b)] → W p l e room_1 s m #[Value.ref b] below meth c H locs 38 1303 Q (F0 m 18 ls [])) : W p l e room_1 s m #[Value.ref b] below meth c s.heap [] 0 0 Q (entryFrame m ([Value.ref b] : List Value).toArray 4) := by
  obtain ⟨D, G, hK⟩ := law_K hts
  have hN : NW s := NW.of hts
  have hA0 : va_AO RX0 s := va_AO.of (hts _ wAO_RX0)
  have hA2 : va_AO RX2 s := va_AO.of (hts _ wAO_RX2)
  have hA3 : va_AO RX3 s := va_AO.of (hts _ wAO_RX3)
  have hl := lv_entry ([.ref b]) (n := 4) (Nat.le_of_ble_eq_true rfl)
  rw [lg_entry_eq]
  generalize (lg_sl ([.ref b]) ++ List.replicate (4 - (lg_sl ([.ref b])).length) Slot.unset).toArray = ls at hl ⊢
  have hl : lv_has ls 4 [(0, .ref b)] := hl
  have hS : va_S (fun q => s.heap.size ≤ q) s.heap s.heap [] := va_S.rf
  refine xnew S inlX4 tyX4 tyX4_ok wCL_RL_7 wIS_RX4 wIN_RX4 hK (ci := 4) rfl (fs := [.null, .int 0, .null, .null, .int 0, .int 0, .null, .int 0, .int 0]) (fun j hj => by rcases (show j = 0 ∨ j = 1 ∨ j = 2 ∨ j = 3 ∨ j = 4 ∨ j = 5 ∨ j = 6 ∨ j = 7 ∨ j = 8 by omega) with rfl | rfl | rfl | rfl | rfl | rfl | rfl | rfl | rfl <;> rfl) (Nat.le_of_ble_eq_true rfl) (Nat.le_of_ble_eq_true rfl) dL_law_0 (fun HX4 hcX4 zX4 oX4 => ?_)
  refine W.widen (k := 1) (n := 9) (Nat.le_of_ble_eq_true rfl) (Nat.le_of_ble_eq_true rfl) ?_
  refine lv_dup S.1 S.2.1 dL_law_3 rfl ?_
  have hPc : va_P D vwCl [(s.heap.size, .inr (4, [.null, .int 0, .null, .null, .int 0, .int 0, .null, .int 0, .int 0]))] HX4 := fun j q hq => by
    have hz : j < 1 := (List.getElem?_eq_some_iff.mp hq).1
    rw [show j = 0 by omega] at hq
    cases hq
    exact hcX4
  have hDc : va_D (fun _ => True) [(s.heap.size, .inr (4, [.null, .int 0, .null, .null, .int 0, .int 0, .null, .int 0, .int 0]))] := ⟨fun i j x y hx hy _ => by
    have h1 : i < 1 := (List.getElem?_eq_some_iff.mp hx).1
    have h2 : j < 1 := (List.getElem?_eq_some_iff.mp hy).1
    omega, fun _ _ _ => trivial⟩
  have hSX4 : va_S (fun q => s.heap.size ≤ q) s.heap HX4 [] := ⟨by have := hS.1; omega, fun q g1 g2 => (oX4 q (Nat.lt_of_lt_of_le g1 hS.1)).trans (hS.2.1 q g1 g2), hS.2.2⟩
  have hFX4 : ∀ q, va_A [(s.heap.size, .inr (4, [.null, .int 0, .null, .null, .int 0, .int 0, .null, .int 0, .int 0]))] HX4.size q → s.heap.size ≤ q := fun q h => by
    rcases h with ⟨k, e, h⟩ | h
    · have hz : k < 1 := (List.getElem?_eq_some_iff.mp h).1
      rw [show k = 0 by omega] at h
      cases h
      exact Nat.le_refl _
    · omega
  refine va_callv (va_runI (As := []) (rest := [.ref s.heap.size]) S (c_X4_init l D G s.heap.size HX4.size) (cwI 0 S.2.2.2.2 (goodUL wCO_X4_init) rfl rfl rfl (S.2.2.2.2 _ wIN_RX4) (S.2.2.2.2 _ wML_RL_9) (S.2.2.2.2 _ wIM_X4_init) rfl ds_X4_init.2 ⟨Nat.le_of_ble_eq_true rfl, Nat.le_of_ble_eq_true rfl⟩)
    ⟨fun a U gg mk q => ⟨q.1, q.2.1, q.2.2.1, va_K.moved (u := U) (U := U.calling gg mk a) (Vm.Alike.refl U.vm) q.2.2.2.1, NW.same (u := U) (U := U.calling gg mk a) rfl q.2.2.2.2.1, q.2.2.2.2.2.1, va_AO.moved (u := U) (U := U.calling gg mk a) (Vm.Alike.refl U.vm) q.2.2.2.2.2.2.1, va_AO.moved (u := U) (U := U.calling gg mk a) (Vm.Alike.refl U.vm) q.2.2.2.2.2.2.2.1, va_AO.moved (u := U) (U := U.calling gg mk a) (Vm.Alike.refl U.vm) q.2.2.2.2.2.2.2.2⟩, fun U hU hW => ⟨rfl, by rw [hU], by rw [hU]; exact hPc, va_K.moved hW.alike hK, NW.warm hW hN, hDc, va_AO.moved hW.alike hA0, va_AO.moved hW.alike hA3, va_AO.moved hW.alike hA2⟩⟩ rfl rfl hl.1 rfl (lv_room (Nat.le_of_ble_eq_true rfl)) dL_law_4 ⟨Nat.le_of_ble_eq_true rfl, Nat.le_of_ble_eq_true rfl⟩) hSX4 (fun q _ h => Nat.le_trans hS.1 (hFX4 q h)) (fun q h => Nat.le_trans hS.1 (hFX4 q h)) (fun u t GX4 locsX4 ht hvm hw hB hz hkX4 hSX4 => ?_)
  obtain ⟨u1, u2, u3, u4, u5, u6, u7, u8, u9, u10, u11, u12, u13⟩ := u
  obtain ⟨hP2, hD2⟩ := hB
  rw [ht] at hP2
  refine W.widen (k := 14) (n := 333) (Nat.le_of_ble_eq_true rfl) (Nat.le_of_ble_eq_true rfl) ?_
  obtain ⟨aX4, h0X4, hX4, hAX4⟩ := initX (A := fun q => s.heap.size ≤ q) hP2 (hD2.weaken (fun k q _ h => hFX4 q.1 h))
  refine lv_astore_n (lv' := [(1, .ref s.heap.size), (0, .ref b)]) S.1 S.2.1 dL_law_7 rfl hl (by decide) rfl (fun ls hl => ?_)
  have hS := hSX4
  generalize locsX4 = locs at hS ⊢
  refine xnew S inlX5 tyX5 tyX5_ok wCL_RL_10 wIS_RX5 wIN_RX5 hK (ci := 5) rfl (fs := [.int 0, .int 0, .null, .null, .null, .null, .null, .null, .int 0, .null, .null, .null, .int 0, .int 0, .int 0, .int 0, .null, .int 0, .null, .null, .null, .null, .null, .null, .null, .null, .int 0, .null, .null, .null, .null, .null, .int 0]) (fun j hj => by rcases (show j = 0 ∨ j = 1 ∨ j = 2 ∨ j = 3 ∨ j = 4 ∨ j = 5 ∨ j = 6 ∨ j = 7 ∨ j = 8 ∨ j = 9 ∨ j = 10 ∨ j = 11 ∨ j = 12 ∨ j = 13 ∨ j = 14 ∨ j = 15 ∨ j = 16 ∨ j = 17 ∨ j = 18 ∨ j = 19 ∨ j = 20 ∨ j = 21 ∨ j = 22 ∨ j = 23 ∨ j = 24 ∨ j = 25 ∨ j = 26 ∨ j = 27 ∨ j = 28 ∨ j = 29 ∨ j = 30 ∨ j = 31 ∨ j = 32 by omega) with rfl | rfl | rfl | rfl | rfl | rfl | rfl | rfl | rfl | rfl | rfl | rfl | rfl | rfl | rfl | rfl | rfl | rfl | rfl | rfl | rfl | rfl | rfl | rfl | rfl | rfl | rfl | rfl | rfl | rfl | rfl | rfl | rfl <;> rfl) (Nat.le_of_ble_eq_true rfl) (Nat.le_of_ble_eq_true rfl) dL_law_8 (fun HX5 hcX5 zX5 oX5 => ?_)
  refine W.widen (k := 15) (n := 366) (Nat.le_of_ble_eq_true rfl) (Nat.le_of_ble_eq_true rfl) ?_
  refine lv_dup S.1 S.2.1 dL_law_11 rfl ?_
  have hPc : va_P D vwCl [(GX4.size, .inr (5, [.int 0, .int 0, .null, .null, .null, .null, .null, .null, .int 0, .null, .null, .null, .int 0, .int 0, .int 0, .int 0, .null, .int 0, .null, .null, .null, .null, .null, .null, .null, .null, .int 0, .null, .null, .null, .null, .null, .int 0]))] HX5 := fun j q hq => by
    have hz : j < 1 := (List.getElem?_eq_some_iff.mp hq).1
    rw [show j = 0 by omega] at hq
    cases hq
    exact hcX5
  have hDc : va_D (fun _ => True) [(GX4.size, .inr (5, [.int 0, .int 0, .null, .null, .null, .null, .null, .null, .int 0, .null, .null, .null, .int 0, .int 0, .int 0, .int 0, .null, .int 0, .null, .null, .null, .null, .null, .null, .null, .null, .int 0, .null, .null, .null, .null, .null, .int 0]))] := ⟨fun i j x y hx hy _ => by
    have h1 : i < 1 := (List.getElem?_eq_some_iff.mp hx).1
    have h2 : j < 1 := (List.getElem?_eq_some_iff.mp hy).1
    omega, fun _ _ _ => trivial⟩
  have hSX5 : va_S (fun q => s.heap.size ≤ q) s.heap HX5 locs := ⟨by have := hS.1; omega, fun q g1 g2 => (oX5 q (Nat.lt_of_lt_of_le g1 hS.1)).trans (hS.2.1 q g1 g2), hS.2.2⟩
  have hFX5 : ∀ q, va_A [(GX4.size, .inr (5, [.int 0, .int 0, .null, .null, .null, .null, .null, .null, .int 0, .null, .null, .null, .int 0, .int 0, .int 0, .int 0, .null, .int 0, .null, .null, .null, .null, .null, .null, .null, .null, .int 0, .null, .null, .null, .null, .null, .int 0]))] HX5.size q → GX4.size ≤ q := fun q h => by
    rcases h with ⟨k, e, h⟩ | h
    · have hz : k < 1 := (List.getElem?_eq_some_iff.mp h).1
      rw [show k = 0 by omega] at h
      cases h
      exact Nat.le_refl _
    · omega
  refine va_callv (va_runI (As := []) (rest := [.ref GX4.size]) S (c_X5_init l D G GX4.size HX5.size) (cwI 0 S.2.2.2.2 (goodUL wCO_X5_init) rfl rfl rfl (S.2.2.2.2 _ wIN_RX5) (S.2.2.2.2 _ wML_RL_12) (S.2.2.2.2 _ wIM_X5_init) rfl ds_X5_init.2 ⟨Nat.le_of_ble_eq_true rfl, Nat.le_of_ble_eq_true rfl⟩)
    ⟨fun a U gg mk q => ⟨q.1, q.2.1, q.2.2.1, va_K.moved (u := U) (U := U.calling gg mk a) (Vm.Alike.refl U.vm) q.2.2.2.1, NW.same (u := U) (U := U.calling gg mk a) rfl q.2.2.2.2.1, q.2.2.2.2.2⟩, fun U hU hW => ⟨rfl, by rw [hU], by rw [hU]; exact hPc, va_K.moved hW.alike hK, NW.warm hW hN, hDc⟩⟩ rfl rfl hl.1 rfl (lv_room (Nat.le_of_ble_eq_true rfl)) dL_law_12 ⟨Nat.le_of_ble_eq_true rfl, Nat.le_of_ble_eq_true rfl⟩) hSX5 (fun q _ h => Nat.le_trans hS.1 (hFX5 q h)) (fun q h => Nat.le_trans hS.1 (hFX5 q h)) (fun u t GX5 locsX5 ht hvm hw hB hz hkX5 hSX5 => ?_)
  obtain ⟨u1, u2, u3, u4, u5, u6, u7, u8, u9, u10, u11, u12, u13, u14, u15, u16, u17, u18, u19, u20, u21, u22, u23⟩ := u
  obtain ⟨hP2, hD2⟩ := hB
  rw [ht] at hP2
  refine W.widen (k := 38) (n := 1303) (Nat.le_of_ble_eq_true rfl) (Nat.le_of_ble_eq_true rfl) ?_
  obtain ⟨aX5, h0X5, hX5, hAX5⟩ := initM (A := fun q => GX4.size ≤ q) hP2 (hD2.weaken (fun k q _ h => hFX5 q.1 h))
  refine lv_astore_n (lv' := [(2, .ref GX4.size), (1, .ref s.heap.size), (0, .ref b)]) S.1 S.2.1 dL_law_15 rfl hl (by decide) rfl (fun ls hl => ?_)
  have o2 : ∀ q, q < GX4.size → GX5[q]? = GX4[q]? := fun q hq => by
    rw [hkX5 q (by omega) (fun z => by have := hFX5 q z; omega)]
    exact oX5 q hq
  have hX := hX4.kept (fun q hq => o2 q (hX4.sz hq))
  refine lv_iconst (v := 0) S.1 S.2.1 dL_law_16 (by decide) ?_
  refine lv_istore_n (lv' := [(3, .int 0), (2, .ref GX4.size), (1, .ref s.heap.size), (0, .ref b)]) S.1 S.2.1 dL_law_17 rfl hl (by decide) rfl (fun ls hl => ?_)
  exact kk D G aX4 aX5 GX5 locsX5 ls hK hN hX hX5 hAX4 (fun q h => Nat.le_trans hS.1 (hAX5 q h)) (fun q h1 h2 => Nat.not_le_of_lt (hX4.sz h1) (hAX5 q h2)) hSX5 (by rw [h0X4, h0X5]; exact hl)
