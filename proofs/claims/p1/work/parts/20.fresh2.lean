/-! ===== fresh objects: nothing to remake, to put right or to ticket ===== -/
set_option maxRecDepth 100000 in
set_option maxHeartbeats 8000000 in
theorem c0_X4_ticket (l : Launch) (D : va_G) (G : Gc) (ad : Nat → Nat → Nat) (p1 : Int32) (p2 : Int32) (p3 : Int32) (p4 : Int32) : Met l yX4_ticket (wsU yX4_ticket cX4_ticket 5 (some .int)) ({ frames := 2, cells := 0, slots := 0, locals := 43 } : Room) (va_Pc [.ref (ad 0 0), .int p1, .int p2, .int p3, .int p4] (XPre D (tysG G) (XF G 0 0 ad) (XN 0 0) ad d0X)) (qV (some (.int (-1)))) 0 0 (fun _ => False) := by
  refine ent (by decide +kernel) (Nat.le_of_ble_eq_true rfl) ?_
  intro p e s m below meth c S hr hlk hpre ls hl
  have S : CallFix p m c cX4_ticket 5 s [.ref (ad 0 0), .int p1, .int p2, .int p3, .int p4].toArray wsL_law RX4 := S
  obtain ⟨hK, hN, hX⟩ := hpre
  have hl : lv_has ls 5 [(0, .ref (ad 0 0)), (1, .int p1), (2, .int p2), (3, .int p3), (4, .int p4)] := hl
  refine lv_aload_n S.1 S.2.1 dX4_ticket_0 rfl (lv_at hl 0 rfl) ?_
  refine lv_iload_n S.1 S.2.1 dX4_ticket_1 rfl (lv_at hl 1 rfl) ?_
  refine cPV (rest := []) S (c_X4_isMeter l D G 0 0 ad d0X p1) gV_RX4_61 ds_X4_isMeter ⟨rfl, rfl⟩ ⟨Nat.le_of_ble_eq_true rfl, Nat.le_of_ble_eq_true rfl⟩ ⟨blindX, recvX hK hX (k := 0) (i := 0) Nat.zero_lt_one rfl rfl, preX hK hN hX _⟩ rfl hl.1 rfl (Nat.le_of_ble_eq_true rfl) ⟨Nat.le_of_ble_eq_true rfl, Nat.le_of_ble_eq_true rfl⟩ dX4_ticket_2 ?_
  refine q_if_ne_b (tgt := 10) S dX4_ticket_5 (by decide) (fun c1 => absurd c1 (of_eq_false (nm0 p1))) (fun c1 => ?_)
  refine lv_iconst (v := (-1)) S.1 S.2.1 dX4_ticket_8 (by decide) ?_
  exact rI S hr hlk rfl dX4_ticket_9
set_option maxRecDepth 100000 in
set_option maxHeartbeats 8000000 in
theorem c0_X4_right (l : Launch) (D : va_G) (G : Gc) (ad : Nat → Nat → Nat) (p1 : Int32) (p2 : Int32) : Met l yX4_right (wsU yX4_right cX4_right 3 (some .int)) ({ frames := 2, cells := 0, slots := 0, locals := 43 } : Room) (va_Pc [.ref (ad 0 0), .int p1, .int p2] (XPre D (tysG G) (XF G 0 0 ad) (XN 0 0) ad d0X)) (qV (some (.int (-1)))) 0 0 (fun _ => False) := by
  refine ent (by decide +kernel) (Nat.le_of_ble_eq_true rfl) ?_
  intro p e s m below meth c S hr hlk hpre ls hl
  have S : CallFix p m c cX4_right 3 s [.ref (ad 0 0), .int p1, .int p2].toArray wsL_law RX4 := S
  obtain ⟨hK, hN, hX⟩ := hpre
  have hl : lv_has ls 3 [(0, .ref (ad 0 0)), (1, .int p1), (2, .int p2)] := hl
  refine lv_aload_n S.1 S.2.1 dX4_right_0 rfl (lv_at hl 0 rfl) ?_
  refine lv_iload_n S.1 S.2.1 dX4_right_1 rfl (lv_at hl 1 rfl) ?_
  refine cPV (rest := []) S (c_X4_isTicket l D G 0 0 ad d0X p1) gV_RX4_152 ds_X4_isTicket ⟨rfl, rfl⟩ ⟨Nat.le_of_ble_eq_true rfl, Nat.le_of_ble_eq_true rfl⟩ ⟨blindX, recvX hK hX (k := 0) (i := 0) Nat.zero_lt_one rfl rfl, preX hK hN hX _⟩ rfl hl.1 rfl (Nat.le_of_ble_eq_true rfl) ⟨Nat.le_of_ble_eq_true rfl, Nat.le_of_ble_eq_true rfl⟩ dX4_right_2 ?_
  refine q_if_ne_b (tgt := 10) S dX4_right_5 (by decide) (fun c1 => absurd c1 (of_eq_false (nt0 p1))) (fun c1 => ?_)
  refine lv_iconst (v := (-1)) S.1 S.2.1 dX4_right_8 (by decide) ?_
  exact rI S hr hlk rfl dX4_right_9
set_option maxRecDepth 100000 in
set_option maxHeartbeats 8000000 in
theorem c0_X4_remake (l : Launch) (D : va_G) (G : Gc) (ad : Nat → Nat → Nat) (p1 : Int32) (p2 : Int32) (p3 : Int32) : Met l yX4_remake (wsU yX4_remake cX4_remake 7 (some .int)) ({ frames := 2, cells := 0, slots := 0, locals := 43 } : Room) (va_Pc [.ref (ad 0 0), .int p1, .int p2, .int p3] (XPre D (tysG G) (XF G 0 0 ad) (XN 0 0) ad d0X)) (qV (some (.int (-1)))) 0 0 (fun _ => False) := by
  refine ent (by decide +kernel) (Nat.le_of_ble_eq_true rfl) ?_
  intro p e s m below meth c S hr hlk hpre ls hl
  have S : CallFix p m c cX4_remake 7 s [.ref (ad 0 0), .int p1, .int p2, .int p3].toArray wsL_law RX4 := S
  obtain ⟨hK, hN, hX⟩ := hpre
  have hl : lv_has ls 7 [(0, .ref (ad 0 0)), (1, .int p1), (2, .int p2), (3, .int p3)] := hl
  refine lv_aload_n S.1 S.2.1 dX4_remake_0 rfl (lv_at hl 0 rfl) ?_
  refine lv_iload_n S.1 S.2.1 dX4_remake_1 rfl (lv_at hl 1 rfl) ?_
  refine cPV (rest := []) S (c_X4_isMeter l D G 0 0 ad d0X p1) gV_RX4_61 ds_X4_isMeter ⟨rfl, rfl⟩ ⟨Nat.le_of_ble_eq_true rfl, Nat.le_of_ble_eq_true rfl⟩ ⟨blindX, recvX hK hX (k := 0) (i := 0) Nat.zero_lt_one rfl rfl, preX hK hN hX _⟩ rfl hl.1 rfl (Nat.le_of_ble_eq_true rfl) ⟨Nat.le_of_ble_eq_true rfl, Nat.le_of_ble_eq_true rfl⟩ dX4_remake_2 ?_
  refine q_if_ne_b (tgt := 10) S dX4_remake_5 (by decide) (fun c1 => absurd c1 (of_eq_false (nm0 p1))) (fun c1 => ?_)
  refine lv_iconst (v := (-1)) S.1 S.2.1 dX4_remake_8 (by decide) ?_
  exact rI S hr hlk rfl dX4_remake_9
set_option maxRecDepth 100000 in
set_option maxHeartbeats 8000000 in
theorem c0_X5_remake (l : Launch) (D : va_G) (G : Gc) (ad : Nat → Nat → Nat) (p1 : Int32) (p2 : Int32) (p3 : Int32) : Met l yX5_remake (wsU yX5_remake cX5_remake 8 (some .int)) ({ frames := 2, cells := 0, slots := 0, locals := 46 } : Room) (va_Pc [.ref (ad 0 0), .int p1, .int p2, .int p3] (XPre D (tysG G) (MF G ad) MN ad d0M)) (qV (some (.int (-1)))) 0 0 (fun _ => False) := by
  refine ent (by decide +kernel) (Nat.le_of_ble_eq_true rfl) ?_
  intro p e s m below meth c S hr hlk hpre ls hl
  have S : CallFix p m c cX5_remake 8 s [.ref (ad 0 0), .int p1, .int p2, .int p3].toArray wsL_law RX5 := S
  obtain ⟨hK, hN, hX⟩ := hpre
  have hl : lv_has ls 8 [(0, .ref (ad 0 0)), (1, .int p1), (2, .int p2), (3, .int p3)] := hl
  refine lv_aload_n S.1 S.2.1 dX5_remake_0 rfl (lv_at hl 0 rfl) ?_
  refine lv_iload_n S.1 S.2.1 dX5_remake_1 rfl (lv_at hl 1 rfl) ?_
  refine cPV (rest := []) S (c_X5_noMeter l D G ad d0M p1) gV_RX5_115 ds_X5_noMeter ⟨rfl, rfl⟩ ⟨Nat.le_of_ble_eq_true rfl, Nat.le_of_ble_eq_true rfl⟩ ⟨blindX, recvX hK hX (k := 0) (i := 0) Nat.zero_lt_one rfl rfl, preX hK hN hX _⟩ rfl hl.1 rfl (Nat.le_of_ble_eq_true rfl) ⟨Nat.le_of_ble_eq_true rfl, Nat.le_of_ble_eq_true rfl⟩ dX5_remake_2 ?_
  refine q_if_eq_b (tgt := 10) S dX5_remake_5 (by decide) (fun c1 => absurd (of_eq_true (mm0 p1)) c1) (fun c1 => ?_)
  refine lv_iconst (v := (-1)) S.1 S.2.1 dX5_remake_8 (by decide) ?_
  exact rI S hr hlk rfl dX5_remake_9
section CAV
variable {p : Program} {l : Launch} {e : Env} {R : Room} {s : State} {m : MethodId} {args : Array Value} {below : List Frame} {meth : Method} {c : Code} {H : Heap} {locs : List Loc} {cells slots : Nat} {Q : State → Prop}
variable {cc : ByteArray} {nL pc : Nat} {ls : Array Slot} {rest : List Value} {D : va_G} {A : Nat → Prop} {G : Gc} {H0 : Heap} {own : String} {M T : Nat} {ad : Nat → Nat → Nat} {d d' : Dt}
theorem cont_A {g : JFrame} {v : Value} {a : Array Value} {mc ms : Nat} (hr : CallRun p l e R s m args below meth c H locs cells slots mc ms g rest (qA v D G ad M T d' a) (fun q => adS (XN M T) ad q ∨ H.size ≤ q)) (hS : va_S A H0 H locs) (hA : ∀ q, adS (XN M T) ad q → A q) (hA2 : ∀ q, H0.size ≤ q → A q)
    (kk : ∀ (H1 : Heap) (locs1 : List Loc) (M' T' : Nat) (ad' : Nat → Nat → Nat), PIC D (XF G M' T' ad') (XN M' T') ad' d' H1 → XI M' T' d' → ad' 0 0 = ad 0 0 → (∀ q, adS (XN M' T') ad' q → adS (XN M T) ad q ∨ H.size ≤ q) → va_S A H0 H1 locs1 → (∀ q : Nat, q < H.size → ¬ adS (XN M T) ad q → H1[q]? = H[q]?) → W p l e R s m args below meth c H1 locs1 (cells + mc) (slots + ms) Q { g with pc := g.pc + 3, stack := v :: rest }) : W p l e R s m args below meth c H locs cells slots Q g := by
  intro T1 hT X
  obtain ⟨v', st₀, t, T', L, h0, X', hL, e1, ⟨hv, ⟨M', T2, ad', hp, hi, h00, hsub⟩, hz, hk⟩, st⟩ := hr T1 hT X
  cases hv
  rw [h0] at hz hk hsub
  obtain ⟨t2, a1, b1⟩ := kk T'.heap (locs ++ L) M' T2 ad' (by rw [e1]; exact hp) hi h00 hsub ⟨Nat.le_trans hS.1 (by rw [e1]; exact hz), fun q g1 g2 => by
      rw [e1, hk q (Nat.lt_of_lt_of_le g1 hS.1) (fun z => by
        rcases z with z | z
        · exact g2 (hA q z)
        · have := hS.1; omega)]
      exact hS.2.1 q g1 g2, fun q hq => by
      rcases List.mem_append.mp hq with h | h
      · exact hS.2.2 q h
      · rcases hL q h with z | z
        · exact hA _ z
        · exact hA2 _ (Nat.le_trans hS.1 z)⟩ (fun q g1 g2 => by
      rw [e1]
      refine hk q g1 (fun z => ?_)
      rcases z with z | z
      · exact g2 z
      · omega) T' rfl X'
  exact ⟨t2, st t2 a1, b1⟩
theorem cAV (S : CallFix p m c cc nL s args wsL_law own) {y : MethodName} {C : String} {bz : ByteArray} {mL idx nA b mc ms : Nat} {r : Option FieldType} {rm : Room} {As st : List Value} {Pre : State → Prop} {v : Value} (hM : Met l y (wsU y bz mL r) rm (va_Pc (.ref b :: As) Pre) (qA v D G ad M T d') mc ms (fun q => adS (XN M T) ad q ∨ H.size ≤ q)) (hg : GoodIn wsL_law (wsV own idx C y (wsU y bz mL r)))
    (hd : y.cls = C ∧ y.cls ≠ "java/lang/invoke/MethodHandle" ∧ y.cls ≠ "java/lang/invoke/VarHandle" ∧ (parseMethodDescriptor y.desc).map (fun d => d.parameters.length) = some nA) (hrm : rm.cells = mc ∧ rm.slots = ms) (hR : rm.frames + 1 ≤ R.frames ∧ 8 + (mL + 11) + rm.locals ≤ R.locals) (hp : PreV s H C b (va_Pc (.ref b :: As) Pre) As)
    (hn : As.length = nA) (hsz : ls.size = nL) (hst : st = As.reverse ++ .ref b :: rest) (hw : (rest.map fun v => v.category).sum ≤ 8) (hf : cells + mc ≤ R.cells ∧ slots + ms ≤ R.slots) (hdg : decode cc pc = .ok (.invokevirtual idx, 3)) (hS : va_S A H0 H locs) (hA : ∀ q, adS (XN M T) ad q → A q) (hA2 : ∀ q, H0.size ≤ q → A q)
    (kk : ∀ (H1 : Heap) (locs1 : List Loc) (M' T' : Nat) (ad' : Nat → Nat → Nat), PIC D (XF G M' T' ad') (XN M' T') ad' d' H1 → XI M' T' d' → ad' 0 0 = ad 0 0 → (∀ q, adS (XN M' T') ad' q → adS (XN M T) ad q ∨ H.size ≤ q) → va_S A H0 H1 locs1 → (∀ q : Nat, q < H.size → ¬ adS (XN M T) ad q → H1[q]? = H[q]?) → W p l e R s m args below meth c H1 locs1 (cells + mc) (slots + ms) Q (F0 m (pc + 3) ls (v :: rest))) : W p l e R s m args below meth c H locs cells slots Q (F0 m pc ls st) :=
  cont_A (W.runV S hM (cwV nA S.2.2.2.2 hg rfl hrm.1 hrm.2 hd hR) hp rfl hn hsz hst (lv_room hw) hdg hf) hS hA hA2 kk
theorem blindA {As : List Value} {tys : List (ClassId × FieldType)} {F : Nat → Nat → (Nat → Int32) → (Nat → Int64) → va_E} {n : Nat → Nat} {sz : Nat} : FrameBlind (va_Pc As (fun U => U.heap.size = sz ∧ XPre D tys F n ad d U)) := fun a U g mk q => ⟨q.1, q.2.1, va_K.moved (u := U) (U := U.calling g mk a) (Vm.Alike.refl U.vm) q.2.2.1, NW.same (u := U) (U := U.calling g mk a) rfl q.2.2.2.1, q.2.2.2.2⟩
theorem preA {tys : List (ClassId × FieldType)} {F : Nat → Nat → (Nat → Int32) → (Nat → Int64) → va_E} {n : Nat → Nat} (hK : va_K D vwCl tys s) (hN : NW s) (hX : PIC D F n ad d H) (As : List Value) : ∀ U : State, U.heap = H → s.WarmedH U.vm → va_Pc As (fun U => U.heap.size = H.size ∧ XPre D tys F n ad d U) As.toArray U := fun U hU hW => ⟨rfl, by rw [hU], va_K.moved hW.alike hK, NW.warm hW hN, by rw [hU]; exact hX⟩
end CAV
