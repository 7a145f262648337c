/-! ===== ticket and right ===== -/
section BI
variable {p : Program} {l : Launch} {e : Env} {R : Room} {s : State} {m : MethodId} {args : Array Value} {below : List Frame} {meth : Method} {c : Code} {H : Heap} {locs : List Loc} {cells slots : Nat} {Q : State → Prop}
variable {cc : ByteArray} {nL pc : Nat} {ls : Array Slot} {rest : List Value} {D : va_G} {A : Nat → Prop} {G : Gc} {H0 : Heap} {Ts : List Cond} {own : String} {M T : Nat} {ad : Nat → Nat → Nat} {d d' : Dt}
theorem q_stk {st st' : List Value} (h : st = st') (kk : W p l e R s m args below meth c H locs cells slots Q (F0 m pc ls st')) : W p l e R s m args below meth c H locs cells slots Q (F0 m pc ls st) := h ▸ kk
theorem bI (S : CallFix p m c cc nL s args Ts own) (hr : meth.sig.returnType = some .int) (hlk : meth.locks = false) {sp : Int32 × Dt} {v : Int32} {d1 : Dt} (hs : sp = (v, d1)) {M' T' : Nat} {ad' : Nat → Nat → Nat} (hX : PIC D (XF G M' T' ad') (XN M' T') ad' d1 H) (hI : XI M' T' d1) (h0 : ad' 0 0 = ad 0 0) (hA : ∀ q, adS (XN M' T') ad' q → adS (XN M T) ad q ∨ s.heap.size ≤ q) (hS : va_S (fun q => adS (XN M T) ad q ∨ s.heap.size ≤ q) s.heap H locs) (hdg : decode cc pc = .ok (.ireturn, 1)) :
    W p l e R s m args below meth c H locs cells slots (MQ below (qB (some (.int sp.1)) D G ad M T sp.2) args s cells slots (fun q => adS (XN M T) ad q ∨ s.heap.size ≤ q)) (F0 m pc ls [.int v]) :=
  W.iret S.1 S.2.1 hr (fun t ht _ => ⟨by rw [hs], ⟨M', T', ad', by rw [hs, ht]; exact hX, by rw [hs]; exact hI, h0, hA⟩, hS.F ht⟩) hS.2.2 hdg hlk
theorem cont_B {g : JFrame} {v : Option Value} {a : Array Value} {mc ms : Nat} (hr : CallRun p l e R s m args below meth c H locs cells slots mc ms g rest (qB v D G ad M T d' a) (fun q => adS (XN M T) ad q ∨ H.size ≤ q)) (hS : va_S A H0 H locs) (hA : ∀ q, adS (XN M T) ad q → A q) (hA2 : ∀ q, H0.size ≤ q → A q)
    (kk : ∀ (H1 : Heap) (locs1 : List Loc) (M' T' : Nat) (ad' : Nat → Nat → Nat), PIC D (XF G M' T' ad') (XN M' T') ad' d' H1 → XI M' T' d' → ad' 0 0 = ad 0 0 → (∀ q, adS (XN M' T') ad' q → adS (XN M T) ad q ∨ H.size ≤ q) → va_S A H0 H1 locs1 → (∀ q : Nat, q < H.size → ¬ adS (XN M T) ad q → H1[q]? = H[q]?) → W p l e R s m args below meth c H1 locs1 (cells + mc) (slots + ms) Q { g with pc := g.pc + 3, stack := v.toList ++ rest }) : W p l e R s m args below meth c H locs cells slots Q g := by
  intro T1 hT X
  obtain ⟨v', st₀, t, T', L, h0, X', hL, e1, ⟨hv, ⟨M', T2, ad', hp, hi, h00, hsub⟩, hz, hk⟩, st⟩ := hr T1 hT X
  cases hv
  rw [h0] at hz hk hsub
  obtain ⟨t2, a1, b1⟩ := kk T'.heap (locs ++ L) M' T2 ad' (by rw [e1]; exact hp) hi h00 hsub ⟨Nat.le_trans hS.1 (by rw [e1]; exact hz), fun q g1 g2 => by
      rw [e1, hk q (Nat.lt_of_lt_of_le g1 hS.1) (fun z => by
        rcases z with z | z
        · exact g2 (hA q z)
        · have := hS.1; omega)]
      exact hS.2.1 q g1 g2, fun q hq => by
      rcases List.mem_append.mp hq with h | h
      · exact hS.2.2 q h
      · rcases hL q h with z | z
        · exact hA _ z
        · exact hA2 _ (Nat.le_trans hS.1 z)⟩ (fun q g1 g2 => by
      rw [e1]
      refine hk q g1 (fun z => ?_)
      rcases z with z | z
      · exact g2 z
      · omega) T' rfl X'
  exact ⟨t2, st t2 a1, b1⟩
theorem cBV (S : CallFix p m c cc nL s args wsL_law own) {y : MethodName} {C : String} {bz : ByteArray} {mL idx nA b mc ms : Nat} {r : Option FieldType} {rm : Room} {As st : List Value} {Pre : State → Prop} {v : Option Value} (hM : Met l y (wsU y bz mL r) rm (va_Pc (.ref b :: As) Pre) (qB v D G ad M T d') mc ms (fun q => adS (XN M T) ad q ∨ H.size ≤ q)) (hg : GoodIn wsL_law (wsV own idx C y (wsU y bz mL r)))
    (hd : y.cls = C ∧ y.cls ≠ "java/lang/invoke/MethodHandle" ∧ y.cls ≠ "java/lang/invoke/VarHandle" ∧ (parseMethodDescriptor y.desc).map (fun d => d.parameters.length) = some nA) (hrm : rm.cells = mc ∧ rm.slots = ms) (hR : rm.frames + 1 ≤ R.frames ∧ 8 + (mL + 11) + rm.locals ≤ R.locals) (hp : PreV s H C b (va_Pc (.ref b :: As) Pre) As)
    (hn : As.length = nA) (hsz : ls.size = nL) (hst : st = As.reverse ++ .ref b :: rest) (hw : (rest.map fun v => v.category).sum ≤ 8) (hf : cells + mc ≤ R.cells ∧ slots + ms ≤ R.slots) (hdg : decode cc pc = .ok (.invokevirtual idx, 3)) (hS : va_S A H0 H locs) (hA : ∀ q, adS (XN M T) ad q → A q) (hA2 : ∀ q, H0.size ≤ q → A q)
    (kk : ∀ (H1 : Heap) (locs1 : List Loc) (M' T' : Nat) (ad' : Nat → Nat → Nat), PIC D (XF G M' T' ad') (XN M' T') ad' d' H1 → XI M' T' d' → ad' 0 0 = ad 0 0 → (∀ q, adS (XN M' T') ad' q → adS (XN M T) ad q ∨ H.size ≤ q) → va_S A H0 H1 locs1 → (∀ q : Nat, q < H.size → ¬ adS (XN M T) ad q → H1[q]? = H[q]?) → W p l e R s m args below meth c H1 locs1 (cells + mc) (slots + ms) Q (F0 m (pc + 3) ls (v.toList ++ rest))) : W p l e R s m args below meth c H locs cells slots Q (F0 m pc ls st) :=
  cont_B (W.runV S hM (cwV nA S.2.2.2.2 hg rfl hrm.1 hrm.2 hd hR) hp rfl hn hsz hst (lv_room hw) hdg hf) hS hA hA2 kk
theorem blindB {As : List Value} {tys : List (ClassId × FieldType)} {F : Nat → Nat → (Nat → Int32) → (Nat → Int64) → va_E} {n : Nat → Nat} {sz : Nat} : FrameBlind (va_Pc As (fun U => U.heap.size = sz ∧ XPre D tys F n ad d U)) := fun a U g mk q => ⟨q.1, q.2.1, va_K.moved (u := U) (U := U.calling g mk a) (Vm.Alike.refl U.vm) q.2.2.1, NW.same (u := U) (U := U.calling g mk a) rfl q.2.2.2.1, q.2.2.2.2⟩
theorem preB {tys : List (ClassId × FieldType)} {F : Nat → Nat → (Nat → Int32) → (Nat → Int64) → va_E} {n : Nat → Nat} (hK : va_K D vwCl tys s) (hN : NW s) (hX : PIC D F n ad d H) (As : List Value) : ∀ U : State, U.heap = H → s.WarmedH U.vm → va_Pc As (fun U => U.heap.size = H.size ∧ XPre D tys F n ad d U) As.toArray U := fun U hU hW => ⟨rfl, by rw [hU], va_K.moved hW.alike hK, NW.warm hW hN, by rw [hU]; exact hX⟩
end BI
noncomputable def sp_X4_ticket (d : Dt) (p1 p2 p3 p4 : Int32) : Int32 × Dt :=
  cif (sp_X4_isMeter d p1) (cif (sp_X4_isDay p2) (cif (sp_X4_isWithin p3 0 10000000) (cif (sp_X4_isFlow p4) (cif (sp_X4_isShut d p2) (-3, d) (cif ((d.1 0 0 4).toInt < 40) (((d.1 0 0 4) + 1) - 1, sp_X4_keep (tN d (ix (d.1 0 0 4)) p1 p2 p3 p4 (sp_X0_factorAt d (ix p1) p4 p2))) (-4, d))) (-2, d)) (-2, d)) (-2, d)) (-1, d)
noncomputable def sp_X4_right (d : Dt) (p1 p2 : Int32) : Int32 × Dt :=
  cif (sp_X4_isTicket d p1) (cif (sp_X4_isWithin p2 0 10000000) (cif (sp_X3_isReplaced d (ix p1)) (-3, d) (cif (sp_X4_isShut d (d.1 13 (ix p1) 1)) (-3, d) (cif ((d.1 0 0 4).toInt < 40) (((d.1 0 0 4) + 1) - 1, sp_X4_replace d p1 1 p2) (-4, d)))) (-2, d)) (-1, d)
theorem XI.tic {M T : Nat} {d : Dt} (h : XI M T d) {x0 x1 x2 x3 x4 : Int32} (h0 : 0 ≤ x0.toInt) (h1 : x0.toInt < (M : Int)) (hT : T < 40) : XI M (T + 1) (sp_X4_keep (tN d T x0 x1 x2 x3 x4)) := (h.addL h0 h1).keep hT
set_option maxRecDepth 100000 in
set_option maxHeartbeats 8000000 in
theorem c_X4_ticket (l : Launch) (D : va_G) (G : Gc) (M T : Nat) (ad : Nat → Nat → Nat) (d : Dt) (sz : Nat) (p1 p2 p3 p4 : Int32) (hI : XI M T d) : Met l yX4_ticket (wsU yX4_ticket cX4_ticket 5 (some .int)) ({ frames := 2, cells := 1, slots := 8, locals := 49 } : Room) (va_Pc [.ref (ad 0 0), .int p1, .int p2, .int p3, .int p4] (fun U => U.heap.size = sz ∧ XPre D (tysG G) (XF G M T ad) (XN M T) ad d U)) (qB (some (.int (sp_X4_ticket d p1 p2 p3 p4).1)) D G ad M T (sp_X4_ticket d p1 p2 p3 p4).2) 1 8 (fun q => adS (XN M T) ad q ∨ sz ≤ q) := by
  refine ent (by decide +kernel) (Nat.le_of_ble_eq_true rfl) ?_
  intro p e s m below meth c S hr hlk hpre ls hl
  have S : CallFix p m c cX4_ticket 5 s [.ref (ad 0 0), .int p1, .int p2, .int p3, .int p4].toArray wsL_law RX4 := S
  obtain ⟨hsz, hK, hN, hX⟩ := hpre
  subst hsz
  have hl : lv_has ls 5 [(0, .ref (ad 0 0)), (1, .int p1), (2, .int p2), (3, .int p3), (4, .int p4)] := hl
  have hs := sp_X4_ticket.eq_1 d p1 p2 p3 p4
  have hS0 : va_S (fun q => adS (XN M T) ad q ∨ s.heap.size ≤ q) s.heap s.heap [] := va_S.rf
  have hT : ix (d.1 0 0 4) = T := ix_of hI.2.2.1
  have q3 := hI.2.2.1
  have bX : ∀ q, adS (XN M T) ad q → q < s.heap.size := fun q h => hX.szB h
  have two : (sp_X4_ticket d p1 p2 p3 p4) = (-2, d) → W p l e ({ frames := 2, cells := 1, slots := 8, locals := 49 } : Room) s m [.ref (ad 0 0), .int p1, .int p2, .int p3, .int p4].toArray below meth c s.heap [] 0 0 (MQ below (qB (some (.int (sp_X4_ticket d p1 p2 p3 p4).1)) D G ad M T (sp_X4_ticket d p1 p2 p3 p4).2) [.ref (ad 0 0), .int p1, .int p2, .int p3, .int p4].toArray s 1 8 (fun q => adS (XN M T) ad q ∨ s.heap.size ≤ q)) (F0 m 35 ls []) := fun hs => by
    refine lv_bipush (v := (-2)) S.1 S.2.1 dX4_ticket_35 (by decide) ?_
    refine W.widen (k := 1) (n := 8) (Nat.le_of_ble_eq_true rfl) (Nat.le_of_ble_eq_true rfl) ?_
    exact bI S hr hlk hs hX hI rfl (fun q h => Or.inl h) hS0 dX4_ticket_37
  refine lv_aload_n S.1 S.2.1 dX4_ticket_0 rfl (lv_at hl 0 rfl) ?_
  refine lv_iload_n S.1 S.2.1 dX4_ticket_1 rfl (lv_at hl 1 rfl) ?_
  refine cPV (rest := []) S (c_X4_isMeter l D G M T ad d p1) gV_RX4_61 ds_X4_isMeter ⟨rfl, rfl⟩ ⟨Nat.le_of_ble_eq_true rfl, Nat.le_of_ble_eq_true rfl⟩ ⟨blindX, recvX hK hX (k := 0) (i := 0) Nat.zero_lt_one rfl rfl, preX hK hN hX _⟩ rfl hl.1 rfl (Nat.le_of_ble_eq_true rfl) ⟨Nat.le_of_ble_eq_true rfl, Nat.le_of_ble_eq_true rfl⟩ dX4_ticket_2 ?_
  refine q_if_ne_b (tgt := 10) S dX4_ticket_5 (by decide) (fun c1 => ?_) (fun c1 => ?_)
  · have hs := hs.trans (cif_t c1)
    have f1 := im_of hI c1
    refine lv_iload_n S.1 S.2.1 dX4_ticket_10 rfl (lv_at hl 2 rfl) ?_
    refine cPS (rest := []) S (c_X4_isDay l p2) gS_RX4_68 ds_X4_isDay.2 ⟨rfl, rfl⟩ ⟨Nat.le_of_ble_eq_true rfl, Nat.le_of_ble_eq_true rfl⟩ rfl hl.1 rfl (Nat.le_of_ble_eq_true rfl) ⟨Nat.le_of_ble_eq_true rfl, Nat.le_of_ble_eq_true rfl⟩ dX4_ticket_11 ?_
    refine q_if_eq_b (tgt := 35) S dX4_ticket_14 (by decide) (fun c2 => two (hs.trans (cif_f c2))) (fun c2 => ?_)
    have hs := hs.trans (cif_t c2)
    refine lv_iload_n S.1 S.2.1 dX4_ticket_17 rfl (lv_at hl 3 rfl) ?_
    refine lv_iconst (v := 0) S.1 S.2.1 dX4_ticket_18 (by decide) ?_
    refine lv_ldc S.1 S.2.1 S.2.2.2.1 (S.2.2.2.2 _ wKI_RX4_141) dX4_ticket_19 ?_
    refine cPS (rest := []) S (c_X4_isWithin l p3 0 10000000) gS_RX4_54 ds_X4_isWithin.2 ⟨rfl, rfl⟩ ⟨Nat.le_of_ble_eq_true rfl, Nat.le_of_ble_eq_true rfl⟩ rfl hl.1 rfl (Nat.le_of_ble_eq_true rfl) ⟨Nat.le_of_ble_eq_true rfl, Nat.le_of_ble_eq_true rfl⟩ dX4_ticket_21 ?_
    refine q_if_eq_b (tgt := 35) S dX4_ticket_24 (by decide) (fun c3 => two (hs.trans (cif_f c3))) (fun c3 => ?_)
    have hs := hs.trans (cif_t c3)
    refine lv_iload S.1 S.2.1 dX4_ticket_27 (lv_at hl 4 rfl) ?_
    refine cPS (rest := []) S (c_X4_isFlow l p4) gS_RX4_65 ds_X4_isFlow.2 ⟨rfl, rfl⟩ ⟨Nat.le_of_ble_eq_true rfl, Nat.le_of_ble_eq_true rfl⟩ rfl hl.1 rfl (Nat.le_of_ble_eq_true rfl) ⟨Nat.le_of_ble_eq_true rfl, Nat.le_of_ble_eq_true rfl⟩ dX4_ticket_29 ?_
    refine q_if_ne_b (tgt := 38) S dX4_ticket_32 (by decide) (fun c4 => ?_) (fun c4 => two (hs.trans (cif_f c4)))
    have hs := hs.trans (cif_t c4)
    refine lv_aload_n S.1 S.2.1 dX4_ticket_38 rfl (lv_at hl 0 rfl) ?_
    refine lv_iload_n S.1 S.2.1 dX4_ticket_39 rfl (lv_at hl 2 rfl) ?_
    refine cPV (rest := []) S (c_X4_isShut l D G M T ad d p2) gV_RX4_142 ds_X4_isShut ⟨rfl, rfl⟩ ⟨Nat.le_of_ble_eq_true rfl, Nat.le_of_ble_eq_true rfl⟩ ⟨blindX, recvX hK hX (k := 0) (i := 0) Nat.zero_lt_one rfl rfl, preX hK hN hX _⟩ rfl hl.1 rfl (Nat.le_of_ble_eq_true rfl) ⟨Nat.le_of_ble_eq_true rfl, Nat.le_of_ble_eq_true rfl⟩ dX4_ticket_40 ?_
    refine q_if_eq_b (tgt := 49) S dX4_ticket_43 (by decide) (fun c5 => ?_) (fun c5 => ?_)
    · have hs := hs.trans (cif_f c5)
      refine lv_aload_n S.1 S.2.1 dX4_ticket_49 rfl (lv_at hl 0 rfl) ?_
      refine gf_RX4_34 S hK hX (v := d.1 0 0 4) rfl dX4_ticket_50 ?_
      refine lv_bipush (v := 40) S.1 S.2.1 dX4_ticket_53 (by decide) ?_
      refine q_icmp_lt (tgt := 61) (xi := (d.1 0 0 4).toInt) (yi := 40) S rfl rfl dX4_ticket_55 (by decide) (fun c6 => ?_) (fun c6 => ?_)
      · have hs := hs.trans (cif_t c6)
        have hx1 : ix p1 < M := ix_lt f1.1 f1.2
        have hM6 := hI.2.1
        have ffc := hI.fc hx1
        refine lv_aload_n S.1 S.2.1 dX4_ticket_61 rfl (lv_at hl 0 rfl) ?_
        refine xnew S inlX3 tyX3 tyX3_ok wCL_RX4_28 wIS_RX3 wIN_RX3 hK (ci := 3) rfl (fs := [.int 0, .int 0, .int 0, .int 0, .int 0, .int 0, .int 0, .int 0]) (fun j hj => by rcases (show j = 0 ∨ j = 1 ∨ j = 2 ∨ j = 3 ∨ j = 4 ∨ j = 5 ∨ j = 6 ∨ j = 7 by omega) with rfl | rfl | rfl | rfl | rfl | rfl | rfl | rfl <;> rfl) (Nat.le_of_ble_eq_true rfl) (Nat.le_of_ble_eq_true rfl) dX4_ticket_62 (fun H1 hc1 z1 o1 => ?_)
        refine W.widen (k := 1) (n := 8) (Nat.le_of_ble_eq_true rfl) (Nat.le_of_ble_eq_true rfl) ?_
        have hX1 := hX.kept (H1 := H1) (fun q hq => o1 q (bX q hq))
        refine lv_dup S.1 S.2.1 dX4_ticket_65 rfl ?_
        refine lv_iload_n S.1 S.2.1 dX4_ticket_66 rfl (lv_at hl 1 rfl) ?_
        refine lv_iload_n S.1 S.2.1 dX4_ticket_67 rfl (lv_at hl 2 rfl) ?_
        refine lv_iload_n S.1 S.2.1 dX4_ticket_68 rfl (lv_at hl 3 rfl) ?_
        refine lv_iload S.1 S.2.1 dX4_ticket_69 (lv_at hl 4 rfl) ?_
        refine lv_aload_n S.1 S.2.1 dX4_ticket_71 rfl (lv_at hl 0 rfl) ?_
        refine gf_RX4_13 S hK hX1 dX4_ticket_72 ?_
        refine lv_iload_n S.1 S.2.1 dX4_ticket_75 rfl (lv_at hl 1 rfl) ?_
        refine al_X1 S hK hX1 f1.1 (by omega) hx1 dX4_ticket_76 ?_
        refine lv_iload S.1 S.2.1 dX4_ticket_77 (lv_at hl 4 rfl) ?_
        refine lv_iload_n S.1 S.2.1 dX4_ticket_79 rfl (lv_at hl 2 rfl) ?_
        refine cPV (rest := [.int p4, .int p3, .int p2, .int p1, .ref s.heap.size, .ref s.heap.size, .ref (ad 0 0)]) S (c_X0_factorAt l D G M T ad d (ix p1) p4 p2 hx1 ffc.1 ffc.2) gV_RX4_84 ds_X0_factorAt ⟨rfl, rfl⟩ ⟨Nat.le_of_ble_eq_true rfl, Nat.le_of_ble_eq_true rfl⟩ ⟨blindX, recvX hK hX1 (k := 8) (i := ix p1) hx1 rfl rfl, preX hK hN hX1 _⟩ rfl hl.1 rfl (Nat.le_of_ble_eq_true rfl) ⟨Nat.le_of_ble_eq_true rfl, Nat.le_of_ble_eq_true rfl⟩ dX4_ticket_80 ?_
        have hPc : va_P D vwCl [(s.heap.size, .inr (3, [.int 0, .int 0, .int 0, .int 0, .int 0, .int 0, .int 0, .int 0]))] H1 := fun j q hq => by
          have hz : j < 1 := (List.getElem?_eq_some_iff.mp hq).1
          rw [show j = 0 by omega] at hq
          cases hq
          exact hc1
        have hDc : va_D (fun _ => True) [(s.heap.size, .inr (3, [.int 0, .int 0, .int 0, .int 0, .int 0, .int 0, .int 0, .int 0]))] := ⟨fun i j x y hx hy _ => by
          have h1 : i < 1 := (List.getElem?_eq_some_iff.mp hx).1
          have h2 : j < 1 := (List.getElem?_eq_some_iff.mp hy).1
          omega, fun _ _ _ => trivial⟩
        have hS1 : va_S (fun q => adS (XN M T) ad q ∨ s.heap.size ≤ q) s.heap H1 [] := ⟨by omega, fun q g1 _ => o1 q g1, fun _ h => by cases h⟩
        have hA1 : ∀ q, va_A [(s.heap.size, .inr (3, [.int 0, .int 0, .int 0, .int 0, .int 0, .int 0, .int 0, .int 0]))] H1.size q → s.heap.size ≤ q := fun q h => by
          rcases h with ⟨k, e, h⟩ | h
          · have hz : k < 1 := (List.getElem?_eq_some_iff.mp h).1
            rw [show k = 0 by omega] at h
            cases h
            exact Nat.le_refl _
          · omega
        refine va_callv (va_runI (As := [.int p1, .int p2, .int p3, .int p4, .int (sp_X0_factorAt d (ix p1) p4 p2)]) (rest := [.ref s.heap.size, .ref (ad 0 0)]) S (c_X3_init l D G s.heap.size H1.size p1 p2 p3 p4 (sp_X0_factorAt d (ix p1) p4 p2)) (cwI 5 S.2.2.2.2 (goodUL wCO_X3_init) rfl rfl rfl (S.2.2.2.2 _ wIN_RX3) (S.2.2.2.2 _ wML_RX4_145) (S.2.2.2.2 _ wIM_X3_init) rfl ds_X3_init.2 ⟨Nat.le_of_ble_eq_true rfl, Nat.le_of_ble_eq_true rfl⟩)
          ⟨fun a U gg mk q => ⟨q.1, q.2.1, q.2.2.1, va_K.moved (u := U) (U := U.calling gg mk a) (Vm.Alike.refl U.vm) q.2.2.2.1, NW.same (u := U) (U := U.calling gg mk a) rfl q.2.2.2.2.1, q.2.2.2.2.2⟩, fun U hU hW => ⟨rfl, by rw [hU], by rw [hU]; exact hPc, va_K.moved hW.alike hK, NW.warm hW hN, hDc⟩⟩ rfl rfl hl.1 rfl (lv_room (Nat.le_of_ble_eq_true rfl)) dX4_ticket_83 ⟨Nat.le_of_ble_eq_true rfl, Nat.le_of_ble_eq_true rfl⟩) hS1 (fun q _ h => Or.inr (hA1 q h)) (fun q h => Or.inr (hA1 q h)) (fun u t H2 locs ht hvm hw hB hz2 hk2 hS => ?_)
        obtain ⟨hP2, hD2⟩ := hB
        rw [ht] at hP2
        refine W.widen (k := 1) (n := 8) (Nat.le_of_ble_eq_true rfl) (Nat.le_of_ble_eq_true rfl) ?_
        have o2 : ∀ q, adS (XN M T) ad q → H2[q]? = s.heap[q]? := fun q hq => by
          have b := bX q hq
          rw [hk2 q (by omega) (fun z => by have := hA1 q z; omega)]
          exact o1 q b
        obtain ⟨hX3, hA3⟩ := (hX.kept o2).addL bX (Nat.le_refl _) (hP2 0 _ rfl)
        have g00 : adT ad T s.heap.size 0 0 = ad 0 0 := rfl
        have g13 : adT ad T s.heap.size 13 T = s.heap.size := if_pos rfl
        refine q_stk (st' := [.ref (adT ad T s.heap.size 13 T), .ref (adT ad T s.heap.size 0 0)]) (by rw [g13, g00]) ?_
        have hl : lv_has ls 5 [(0, .ref (adT ad T s.heap.size 0 0)), (1, .int p1), (2, .int p2), (3, .int p3), (4, .int p4)] := hl
        generalize adT ad T s.heap.size = ad' at hX3 hA3 hl g00 g13 ⊢
        have hI' := hI.tic (x1 := p2) (x2 := p3) (x3 := p4) (x4 := sp_X0_factorAt d (ix p1) p4 p2) f1.1 f1.2 (by omega)
        have hA : ∀ q, adS (XN M (T + 1)) ad' q → adS (XN M T) ad q ∨ s.heap.size ≤ q := fun q h => by
          obtain ⟨k, i, hk, e⟩ := h
          exact hA3 q ⟨k, i, by rw [← XNl_s]; exact hk, e⟩
        rw [hT] at hs
        refine cWV (rest := []) S (c_X4_keep l D G M T ad' (tN d T p1 p2 p3 p4 (sp_X0_factorAt d (ix p1) p4 p2)) hI.2.2.1 (by omega)) gV_RX4_148 ds_X4_keep ⟨rfl, rfl⟩ ⟨Nat.le_of_ble_eq_true rfl, Nat.le_of_ble_eq_true rfl⟩ ⟨blindX, recvX hK hX3 (k := 0) (i := 0) Nat.zero_lt_one rfl rfl, preX hK hN hX3 _⟩ rfl hl.1 rfl (Nat.le_of_ble_eq_true rfl) ⟨Nat.le_of_ble_eq_true rfl, Nat.le_of_ble_eq_true rfl⟩ dX4_ticket_86 hS hA (fun H locs hX hS hfr => ?_)
        refine lv_aload_n S.1 S.2.1 dX4_ticket_89 rfl (lv_at hl 0 rfl) ?_
        refine gf_RX4_34 S hK hX (v := (d.1 0 0 4) + 1) rfl dX4_ticket_90 ?_
        refine lv_iconst (v := 1) S.1 S.2.1 dX4_ticket_93 (by decide) ?_
        refine lv_isub S.1 S.2.1 dX4_ticket_94 ?_
        exact bI S hr hlk hs hX hI' g00 hA hS dX4_ticket_95
      · have hs := hs.trans (cif_f c6)
        refine lv_bipush (v := (-4)) S.1 S.2.1 dX4_ticket_58 (by decide) ?_
        refine W.widen (k := 1) (n := 8) (Nat.le_of_ble_eq_true rfl) (Nat.le_of_ble_eq_true rfl) ?_
        exact bI S hr hlk hs hX hI rfl (fun q h => Or.inl h) hS0 dX4_ticket_60
    · have hs := hs.trans (cif_t c5)
      refine lv_bipush (v := (-3)) S.1 S.2.1 dX4_ticket_46 (by decide) ?_
      refine W.widen (k := 1) (n := 8) (Nat.le_of_ble_eq_true rfl) (Nat.le_of_ble_eq_true rfl) ?_
      exact bI S hr hlk hs hX hI rfl (fun q h => Or.inl h) hS0 dX4_ticket_48
  · have hs := hs.trans (cif_f c1)
    refine lv_iconst (v := (-1)) S.1 S.2.1 dX4_ticket_8 (by decide) ?_
    refine W.widen (k := 1) (n := 8) (Nat.le_of_ble_eq_true rfl) (Nat.le_of_ble_eq_true rfl) ?_
    exact bI S hr hlk hs hX hI rfl (fun q h => Or.inl h) hS0 dX4_ticket_9
set_option maxRecDepth 100000 in
set_option maxHeartbeats 8000000 in
theorem c_X4_right (l : Launch) (D : va_G) (G : Gc) (M T : Nat) (ad : Nat → Nat → Nat) (d : Dt) (sz : Nat) (p1 p2 : Int32) (hI : XI M T d) : Met l yX4_right (wsU yX4_right cX4_right 3 (some .int)) ({ frames := 4, cells := 1, slots := 8, locals := 95 } : Room) (va_Pc [.ref (ad 0 0), .int p1, .int p2] (fun U => U.heap.size = sz ∧ XPre D (tysG G) (XF G M T ad) (XN M T) ad d U)) (qB (some (.int (sp_X4_right d p1 p2).1)) D G ad M T (sp_X4_right d p1 p2).2) 1 8 (fun q => adS (XN M T) ad q ∨ sz ≤ q) := by
  refine ent (by decide +kernel) (Nat.le_of_ble_eq_true rfl) ?_
  intro p e s m below meth c S hr hlk hpre ls hl
  have S : CallFix p m c cX4_right 3 s [.ref (ad 0 0), .int p1, .int p2].toArray wsL_law RX4 := S
  obtain ⟨hsz, hK, hN, hX⟩ := hpre
  subst hsz
  have hl : lv_has ls 3 [(0, .ref (ad 0 0)), (1, .int p1), (2, .int p2)] := hl
  have hs := sp_X4_right.eq_1 d p1 p2
  have hS0 : va_S (fun q => adS (XN M T) ad q ∨ s.heap.size ≤ q) s.heap s.heap [] := va_S.rf
  have hT : ix (d.1 0 0 4) = T := ix_of hI.2.2.1
  have q3 := hI.2.2.1
  have q4 := hI.2.2.2.1
  have three : (sp_X4_right d p1 p2) = (-3, d) → W p l e ({ frames := 4, cells := 1, slots := 8, locals := 95 } : Room) s m [.ref (ad 0 0), .int p1, .int p2].toArray below meth c s.heap [] 0 0 (MQ below (qB (some (.int (sp_X4_right d p1 p2).1)) D G ad M T (sp_X4_right d p1 p2).2) [.ref (ad 0 0), .int p1, .int p2].toArray s 1 8 (fun q => adS (XN M T) ad q ∨ s.heap.size ≤ q)) (F0 m 51 ls []) := fun hs => by
    refine lv_bipush (v := (-3)) S.1 S.2.1 dX4_right_51 (by decide) ?_
    refine W.widen (k := 1) (n := 8) (Nat.le_of_ble_eq_true rfl) (Nat.le_of_ble_eq_true rfl) ?_
    exact bI S hr hlk hs hX hI rfl (fun q h => Or.inl h) hS0 dX4_right_53
  refine lv_aload_n S.1 S.2.1 dX4_right_0 rfl (lv_at hl 0 rfl) ?_
  refine lv_iload_n S.1 S.2.1 dX4_right_1 rfl (lv_at hl 1 rfl) ?_
  refine cPV (rest := []) S (c_X4_isTicket l D G M T ad d p1) gV_RX4_152 ds_X4_isTicket ⟨rfl, rfl⟩ ⟨Nat.le_of_ble_eq_true rfl, Nat.le_of_ble_eq_true rfl⟩ ⟨blindX, recvX hK hX (k := 0) (i := 0) Nat.zero_lt_one rfl rfl, preX hK hN hX _⟩ rfl hl.1 rfl (Nat.le_of_ble_eq_true rfl) ⟨Nat.le_of_ble_eq_true rfl, Nat.le_of_ble_eq_true rfl⟩ dX4_right_2 ?_
  refine q_if_ne_b (tgt := 10) S dX4_right_5 (by decide) (fun c1 => ?_) (fun c1 => ?_)
  · have hs := hs.trans (cif_t c1)
    have f1 := it_of hI c1
    have hx1 : ix p1 < T := ix_lt f1.1 f1.2
    refine lv_iload_n S.1 S.2.1 dX4_right_10 rfl (lv_at hl 2 rfl) ?_
    refine lv_iconst (v := 0) S.1 S.2.1 dX4_right_11 (by decide) ?_
    refine lv_ldc S.1 S.2.1 S.2.2.2.1 (S.2.2.2.2 _ wKI_RX4_141) dX4_right_12 ?_
    refine cPS (rest := []) S (c_X4_isWithin l p2 0 10000000) gS_RX4_54 ds_X4_isWithin.2 ⟨rfl, rfl⟩ ⟨Nat.le_of_ble_eq_true rfl, Nat.le_of_ble_eq_true rfl⟩ rfl hl.1 rfl (Nat.le_of_ble_eq_true rfl) ⟨Nat.le_of_ble_eq_true rfl, Nat.le_of_ble_eq_true rfl⟩ dX4_right_14 ?_
    refine q_if_ne_b (tgt := 23) S dX4_right_17 (by decide) (fun c2 => ?_) (fun c2 => ?_)
    · have hs := hs.trans (cif_t c2)
      refine lv_aload_n S.1 S.2.1 dX4_right_23 rfl (lv_at hl 0 rfl) ?_
      refine gf_RX4_30 S hK hX dX4_right_24 ?_
      refine lv_iload_n S.1 S.2.1 dX4_right_27 rfl (lv_at hl 1 rfl) ?_
      refine al_X4 S hK hX f1.1 (by omega) hx1 dX4_right_28 ?_
      refine cPV (rest := []) S (c_X3_isReplaced l D G M T ad d (ix p1) hx1) gV_RX4_155 ds_X3_isReplaced ⟨rfl, rfl⟩ ⟨Nat.le_of_ble_eq_true rfl, Nat.le_of_ble_eq_true rfl⟩ ⟨blindX, recvX hK hX (k := 13) (i := ix p1) hx1 rfl rfl, preX hK hN hX _⟩ rfl hl.1 rfl (Nat.le_of_ble_eq_true rfl) ⟨Nat.le_of_ble_eq_true rfl, Nat.le_of_ble_eq_true rfl⟩ dX4_right_29 ?_
      refine q_if_ne_b (tgt := 51) S dX4_right_32 (by decide) (fun c3 => three (hs.trans (cif_t c3))) (fun c3 => ?_)
      have hs := hs.trans (cif_f c3)
      refine lv_aload_n S.1 S.2.1 dX4_right_35 rfl (lv_at hl 0 rfl) ?_
      refine lv_aload_n S.1 S.2.1 dX4_right_36 rfl (lv_at hl 0 rfl) ?_
      refine gf_RX4_30 S hK hX dX4_right_37 ?_
      refine lv_iload_n S.1 S.2.1 dX4_right_40 rfl (lv_at hl 1 rfl) ?_
      refine al_X4 S hK hX f1.1 (by omega) hx1 dX4_right_41 ?_
      refine gf_RX4_158 S hK hX hx1 (v := d.1 13 (ix p1) 1) rfl dX4_right_42 ?_
      refine cPV (rest := []) S (c_X4_isShut l D G M T ad d (d.1 13 (ix p1) 1)) gV_RX4_142 ds_X4_isShut ⟨rfl, rfl⟩ ⟨Nat.le_of_ble_eq_true rfl, Nat.le_of_ble_eq_true rfl⟩ ⟨blindX, recvX hK hX (k := 0) (i := 0) Nat.zero_lt_one rfl rfl, preX hK hN hX _⟩ rfl hl.1 rfl (Nat.le_of_ble_eq_true rfl) ⟨Nat.le_of_ble_eq_true rfl, Nat.le_of_ble_eq_true rfl⟩ dX4_right_45 ?_
      refine q_if_eq_b (tgt := 54) S dX4_right_48 (by decide) (fun c4 => ?_) (fun c4 => three (hs.trans (cif_t c4)))
      have hs := hs.trans (cif_f c4)
      refine lv_aload_n S.1 S.2.1 dX4_right_54 rfl (lv_at hl 0 rfl) ?_
      refine gf_RX4_34 S hK hX (v := d.1 0 0 4) rfl dX4_right_55 ?_
      refine lv_bipush (v := 40) S.1 S.2.1 dX4_right_58 (by decide) ?_
      refine q_icmp_lt (tgt := 66) (xi := (d.1 0 0 4).toInt) (yi := 40) S rfl rfl dX4_right_60 (by decide) (fun c6 => ?_) (fun c6 => ?_)
      · have hs := hs.trans (cif_t c6)
        refine lv_aload_n S.1 S.2.1 dX4_right_66 rfl (lv_at hl 0 rfl) ?_
        refine lv_iload_n S.1 S.2.1 dX4_right_67 rfl (lv_at hl 1 rfl) ?_
        refine lv_iconst (v := 1) S.1 S.2.1 dX4_right_68 (by decide) ?_
        refine lv_iload_n S.1 S.2.1 dX4_right_69 rfl (lv_at hl 2 rfl) ?_
        refine cBV (rest := []) (A := fun q => adS (XN M T) ad q ∨ s.heap.size ≤ q) S (c_X4_replace l D G M T ad d s.heap.size p1 1 p2 hI f1.1 f1.2 (by omega)) gV_RX4_161 ds_X4_replace ⟨rfl, rfl⟩ ⟨Nat.le_of_ble_eq_true rfl, Nat.le_of_ble_eq_true rfl⟩ ⟨blindB, recvX hK hX (k := 0) (i := 0) Nat.zero_lt_one rfl rfl, preB hK hN hX _⟩ rfl hl.1 rfl (Nat.le_of_ble_eq_true rfl) ⟨Nat.le_of_ble_eq_true rfl, Nat.le_of_ble_eq_true rfl⟩ dX4_right_70 hS0 (fun _ h => Or.inl h) (fun _ h => Or.inr h) (fun H1 locs1 M1 T1 ad1 hX1 hI1 h01 hA1 hS1 hk1 => ?_)
        refine W.widen (k := 1) (n := 8) (Nat.le_of_ble_eq_true rfl) (Nat.le_of_ble_eq_true rfl) ?_
        have hl : lv_has ls 3 [(0, .ref (ad1 0 0)), (1, .int p1), (2, .int p2)] := by rw [h01]; exact hl
        refine lv_aload_n S.1 S.2.1 dX4_right_73 rfl (lv_at hl 0 rfl) ?_
        refine gf_RX4_34 S hK hX1 (v := (d.1 0 0 4) + 1) rfl dX4_right_74 ?_
        refine lv_iconst (v := 1) S.1 S.2.1 dX4_right_77 (by decide) ?_
        refine lv_isub S.1 S.2.1 dX4_right_78 ?_
        exact bI S hr hlk hs hX1 hI1 h01 hA1 hS1 dX4_right_79
      · have hs := hs.trans (cif_f c6)
        refine lv_bipush (v := (-4)) S.1 S.2.1 dX4_right_63 (by decide) ?_
        refine W.widen (k := 1) (n := 8) (Nat.le_of_ble_eq_true rfl) (Nat.le_of_ble_eq_true rfl) ?_
        exact bI S hr hlk hs hX hI rfl (fun q h => Or.inl h) hS0 dX4_right_65
    · have hs := hs.trans (cif_f c2)
      refine lv_bipush (v := (-2)) S.1 S.2.1 dX4_right_20 (by decide) ?_
      refine W.widen (k := 1) (n := 8) (Nat.le_of_ble_eq_true rfl) (Nat.le_of_ble_eq_true rfl) ?_
      exact bI S hr hlk hs hX hI rfl (fun q h => Or.inl h) hS0 dX4_right_22
  · have hs := hs.trans (cif_f c1)
    refine lv_iconst (v := (-1)) S.1 S.2.1 dX4_right_8 (by decide) ?_
    refine W.widen (k := 1) (n := 8) (Nat.le_of_ble_eq_true rfl) (Nat.le_of_ble_eq_true rfl) ?_
    exact bI S hr hlk hs hX hI rfl (fun q h => Or.inl h) hS0 dX4_right_9
