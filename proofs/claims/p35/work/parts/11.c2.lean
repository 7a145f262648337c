set_option maxRecDepth 100000 in
set_option maxHeartbeats 8000000 in
theorem c_X4_isMeter (l : Launch) (D : va_G) (G : Gc) (M T : Nat) (ad : Nat → Nat → Nat) (d : Dt) (p1 : Int32) : Met l yX4_isMeter (wsU yX4_isMeter cX4_isMeter 2 (some .boolean)) ({ frames := 1, cells := 0, slots := 0, locals := 22 } : Room) (va_Pc [.ref (ad 0 0), .int p1] (XPre D (tysG G) (XF G M T ad) (XN M T) ad d)) (qV (some (.int (b2i (sp_X4_isMeter d p1))))) 0 0 (fun _ => False) := by
  refine ent (by decide +kernel) (Nat.le_of_ble_eq_true rfl) ?_
  intro p e s m below meth c S hr hlk hpre ls hl
  have S : CallFix p m c cX4_isMeter 2 s [.ref (ad 0 0), .int p1].toArray wsL_law RX4 := S
  obtain ⟨hK, hN, hX⟩ := hpre
  have hl : lv_has ls 2 [(0, .ref (ad 0 0)), (1, .int p1)] := hl
  have hs := sp_X4_isMeter.eq_1 d p1
  refine lv_iload_n S.1 S.2.1 dX4_isMeter_0 rfl (lv_at hl 1 rfl) ?_
  refine lv_iconst (v := 0) S.1 S.2.1 dX4_isMeter_1 (by decide) ?_
  refine lv_aload_n S.1 S.2.1 dX4_isMeter_2 rfl (lv_at hl 0 rfl) ?_
  refine gf_RX4_17 S hK hX (v := d.1 0 0 1) rfl dX4_isMeter_3 ?_
  refine lv_iconst (v := 1) S.1 S.2.1 dX4_isMeter_6 (by decide) ?_
  refine lv_isub S.1 S.2.1 dX4_isMeter_7 ?_
  refine cPS (rest := []) S (c_X4_isWithin l p1 0 ((d.1 0 0 1) - 1)) gS_RX4_54 ds_X4_isWithin.2 ⟨rfl, rfl⟩ ⟨Nat.le_of_ble_eq_true rfl, Nat.le_of_ble_eq_true rfl⟩ rfl hl.1 rfl (Nat.le_of_ble_eq_true rfl) ⟨Nat.le_of_ble_eq_true rfl, Nat.le_of_ble_eq_true rfl⟩ dX4_isMeter_8 ?_
  exact rZ S hr hlk hs rfl dX4_isMeter_11
set_option maxRecDepth 100000 in
set_option maxHeartbeats 8000000 in
theorem c_X4_isTicket (l : Launch) (D : va_G) (G : Gc) (M T : Nat) (ad : Nat → Nat → Nat) (d : Dt) (p1 : Int32) : Met l yX4_isTicket (wsU yX4_isTicket cX4_isTicket 2 (some .boolean)) ({ frames := 1, cells := 0, slots := 0, locals := 22 } : Room) (va_Pc [.ref (ad 0 0), .int p1] (XPre D (tysG G) (XF G M T ad) (XN M T) ad d)) (qV (some (.int (b2i (sp_X4_isTicket d p1))))) 0 0 (fun _ => False) := by
  refine ent (by decide +kernel) (Nat.le_of_ble_eq_true rfl) ?_
  intro p e s m below meth c S hr hlk hpre ls hl
  have S : CallFix p m c cX4_isTicket 2 s [.ref (ad 0 0), .int p1].toArray wsL_law RX4 := S
  obtain ⟨hK, hN, hX⟩ := hpre
  have hl : lv_has ls 2 [(0, .ref (ad 0 0)), (1, .int p1)] := hl
  have hs := sp_X4_isTicket.eq_1 d p1
  refine lv_iload_n S.1 S.2.1 dX4_isTicket_0 rfl (lv_at hl 1 rfl) ?_
  refine lv_iconst (v := 0) S.1 S.2.1 dX4_isTicket_1 (by decide) ?_
  refine lv_aload_n S.1 S.2.1 dX4_isTicket_2 rfl (lv_at hl 0 rfl) ?_
  refine gf_RX4_34 S hK hX (v := d.1 0 0 4) rfl dX4_isTicket_3 ?_
  refine lv_iconst (v := 1) S.1 S.2.1 dX4_isTicket_6 (by decide) ?_
  refine lv_isub S.1 S.2.1 dX4_isTicket_7 ?_
  refine cPS (rest := []) S (c_X4_isWithin l p1 0 ((d.1 0 0 4) - 1)) gS_RX4_54 ds_X4_isWithin.2 ⟨rfl, rfl⟩ ⟨Nat.le_of_ble_eq_true rfl, Nat.le_of_ble_eq_true rfl⟩ rfl hl.1 rfl (Nat.le_of_ble_eq_true rfl) ⟨Nat.le_of_ble_eq_true rfl, Nat.le_of_ble_eq_true rfl⟩ dX4_isTicket_8 ?_
  exact rZ S hr hlk hs rfl dX4_isTicket_11
set_option maxRecDepth 100000 in
set_option maxHeartbeats 8000000 in
theorem c_X4_isShut (l : Launch) (D : va_G) (G : Gc) (M T : Nat) (ad : Nat → Nat → Nat) (d : Dt) (p1 : Int32) : Met l yX4_isShut (wsU yX4_isShut cX4_isShut 2 (some .boolean)) ({ frames := 0, cells := 0, slots := 0, locals := 0 } : Room) (va_Pc [.ref (ad 0 0), .int p1] (XPre D (tysG G) (XF G M T ad) (XN M T) ad d)) (qV (some (.int (b2i (sp_X4_isShut d p1))))) 0 0 (fun _ => False) := by
  refine ent (by decide +kernel) (Nat.le_of_ble_eq_true rfl) ?_
  intro p e s m below meth c S hr hlk hpre ls hl
  have S : CallFix p m c cX4_isShut 2 s [.ref (ad 0 0), .int p1].toArray wsL_law RX4 := S
  obtain ⟨hK, hN, hX⟩ := hpre
  have hl : lv_has ls 2 [(0, .ref (ad 0 0)), (1, .int p1)] := hl
  have hs := sp_X4_isShut.eq_1 d p1
  refine lv_iload_n S.1 S.2.1 dX4_isShut_0 rfl (lv_at hl 1 rfl) ?_
  refine lv_aload_n S.1 S.2.1 dX4_isShut_1 rfl (lv_at hl 0 rfl) ?_
  refine gf_RX4_37 S hK hX (v := d.1 0 0 5) rfl dX4_isShut_2 ?_
  refine q_icmp_gt (tgt := 12) (xi := p1.toInt) (yi := (d.1 0 0 5).toInt) S rfl rfl dX4_isShut_5 (by decide) (fun c1 => ?_) (fun c1 => ?_)
  · have hs := hs.trans (cif_t c1)
    refine lv_iconst (v := 0) S.1 S.2.1 dX4_isShut_12 (by decide) ?_
    exact rZ S hr hlk hs b2i_F.symm dX4_isShut_13
  · have hs := hs.trans (cif_f c1)
    refine lv_iconst (v := 1) S.1 S.2.1 dX4_isShut_8 (by decide) ?_
    refine lv_goto (tgt := 13) S.1 S.2.1 dX4_isShut_9 (by decide) ?_
    exact rZ S hr hlk hs b2i_T.symm dX4_isShut_13
set_option maxRecDepth 100000 in
set_option maxHeartbeats 8000000 in
theorem c_X4_fail (l : Launch) (D : va_G) (G : Gc) (M T : Nat) (ad : Nat → Nat → Nat) (d : Dt) (p1 : Int32) : Met l yX4_fail (wsU yX4_fail cX4_fail 2 (some .int)) ({ frames := 0, cells := 0, slots := 0, locals := 0 } : Room) (va_Pc [.ref (ad 0 0), .int p1] (XPre D (tysG G) (XF G M T ad) (XN M T) ad d)) (qW (some (.int (sp_X4_fail d p1).1)) D (XF G M T ad) (XN M T) ad (sp_X4_fail d p1).2) 0 0 (adS (XN M T) ad) := by
  refine ent (by decide +kernel) (Nat.le_of_ble_eq_true rfl) ?_
  intro p e s m below meth c S hr hlk hpre ls hl
  have S : CallFix p m c cX4_fail 2 s [.ref (ad 0 0), .int p1].toArray wsL_law RX4 := S
  obtain ⟨hK, hN, hX⟩ := hpre
  have hl : lv_has ls 2 [(0, .ref (ad 0 0)), (1, .int p1)] := hl
  have hs := sp_X4_fail.eq_1 d p1
  have hS : va_S (adS (XN M T) ad) s.heap s.heap [] := va_S.rf
  refine lv_aload_n S.1 S.2.1 dX4_fail_0 rfl (lv_at hl 0 rfl) ?_
  refine lv_iload_n S.1 S.2.1 dX4_fail_1 rfl (lv_at hl 1 rfl) ?_
  refine pf_RX4_49 S hK hX hS dX4_fail_2 (fun H locs hX hS => ?_)
  refine lv_bipush (v := (-10)) S.1 S.2.1 dX4_fail_5 (by decide) ?_
  refine lv_iload_n S.1 S.2.1 dX4_fail_7 rfl (lv_at hl 1 rfl) ?_
  refine lv_isub S.1 S.2.1 dX4_fail_8 ?_
  exact wI S hr hlk hs hX hS dX4_fail_9
set_option maxRecDepth 100000 in
set_option maxHeartbeats 8000000 in
theorem c_X4_leave (l : Launch) (D : va_G) (G : Gc) (M T : Nat) (ad : Nat → Nat → Nat) (d : Dt) (p1 : Int32) : Met l yX4_leave (wsU yX4_leave cX4_leave 2 none) ({ frames := 0, cells := 0, slots := 0, locals := 0 } : Room) (va_Pc [.ref (ad 0 0), .int p1] (XPre D (tysG G) (XF G M T ad) (XN M T) ad d)) (qW none D (XF G M T ad) (XN M T) ad (sp_X4_leave d p1)) 0 0 (adS (XN M T) ad) := by
  refine ent (by decide +kernel) (Nat.le_of_ble_eq_true rfl) ?_
  intro p e s m below meth c S hr hlk hpre ls hl
  have S : CallFix p m c cX4_leave 2 s [.ref (ad 0 0), .int p1].toArray wsL_law RX4 := S
  obtain ⟨hK, hN, hX⟩ := hpre
  have hl : lv_has ls 2 [(0, .ref (ad 0 0)), (1, .int p1)] := hl
  have hs := sp_X4_leave.eq_1 d p1
  have hS : va_S (adS (XN M T) ad) s.heap s.heap [] := va_S.rf
  refine lv_aload_n S.1 S.2.1 dX4_leave_0 rfl (lv_at hl 0 rfl) ?_
  refine lv_bipush (v := 31) S.1 S.2.1 dX4_leave_1 (by decide) ?_
  refine lv_aload_n S.1 S.2.1 dX4_leave_3 rfl (lv_at hl 0 rfl) ?_
  refine gf_RX4_46 S hK hX (v := d.1 0 0 7) rfl dX4_leave_4 ?_
  refine lv_imul S.1 S.2.1 dX4_leave_7 ?_
  refine lv_iload_n S.1 S.2.1 dX4_leave_8 rfl (lv_at hl 1 rfl) ?_
  refine lv_iadd S.1 S.2.1 dX4_leave_9 ?_
  refine pf_RX4_46 S hK hX hS dX4_leave_10 (fun H locs hX hS => ?_)
  exact wV S hr hlk hs hX hS dX4_leave_13
set_option maxRecDepth 100000 in
set_option maxHeartbeats 8000000 in
theorem c_X4_tellTicket (l : Launch) (D : va_G) (G : Gc) (M T : Nat) (ad : Nat → Nat → Nat) (d : Dt) (t1 : Nat) (ht1 : t1 < T) : Met l yX4_tellTicket (wsU yX4_tellTicket cX4_tellTicket 2 (some .int)) ({ frames := 1, cells := 0, slots := 0, locals := 21 } : Room) (va_Pc [.ref (ad 0 0), .ref (ad 13 t1)] (XPre D (tysG G) (XF G M T ad) (XN M T) ad d)) (qW (some (.int (sp_X4_tellTicket d t1).1)) D (XF G M T ad) (XN M T) ad (sp_X4_tellTicket d t1).2) 0 0 (adS (XN M T) ad) := by
  refine ent (by decide +kernel) (Nat.le_of_ble_eq_true rfl) ?_
  intro p e s m below meth c S hr hlk hpre ls hl
  have S : CallFix p m c cX4_tellTicket 2 s [.ref (ad 0 0), .ref (ad 13 t1)].toArray wsL_law RX4 := S
  obtain ⟨hK, hN, hX⟩ := hpre
  have hl : lv_has ls 2 [(0, .ref (ad 0 0)), (1, .ref (ad 13 t1))] := hl
  have hs := sp_X4_tellTicket.eq_1 d t1
  have hS : va_S (adS (XN M T) ad) s.heap s.heap [] := va_S.rf
  refine lv_aload_n S.1 S.2.1 dX4_tellTicket_0 rfl (lv_at hl 0 rfl) ?_
  refine lv_iconst (v := 1) S.1 S.2.1 dX4_tellTicket_1 (by decide) ?_
  refine cWV (rest := []) S (c_X4_leave l D G M T ad d 1) gV_RX4_272 ds_X4_leave ⟨rfl, rfl⟩ ⟨Nat.le_of_ble_eq_true rfl, Nat.le_of_ble_eq_true rfl⟩ ⟨blindX, recvX hK hX (k := 0) (i := 0) Nat.zero_lt_one rfl rfl, preX hK hN hX _⟩ rfl hl.1 rfl (Nat.le_of_ble_eq_true rfl) ⟨Nat.le_of_ble_eq_true rfl, Nat.le_of_ble_eq_true rfl⟩ dX4_tellTicket_2 hS (fun _ h => h) (fun H locs hX hS hfr => ?_)
  refine lv_aload_n S.1 S.2.1 dX4_tellTicket_5 rfl (lv_at hl 1 rfl) ?_
  refine gf_RX4_158 S hK hX ht1 (v := (sp_X4_leave d 1).1 13 t1 1) rfl dX4_tellTicket_6 ?_
  exact wI S hr hlk hs hX hS dX4_tellTicket_9
set_option maxRecDepth 100000 in
set_option maxHeartbeats 8000000 in
theorem c_X4_factor (l : Launch) (D : va_G) (G : Gc) (M T : Nat) (ad : Nat → Nat → Nat) (d : Dt) (p1 : Int32) (p2 : Int32) (p3 : Int32) (p4 : Int32) (hI : XI M T d) : Met l yX4_factor (wsU yX4_factor cX4_factor 6 (some .int)) ({ frames := 2, cells := 0, slots := 0, locals := 47 } : Room) (va_Pc [.ref (ad 0 0), .int p1, .int p2, .int p3, .int p4] (XPre D (tysG G) (XF G M T ad) (XN M T) ad d)) (qW (some (.int (sp_X4_factor d p1 p2 p3 p4).1)) D (XF G M T ad) (XN M T) ad (sp_X4_factor d p1 p2 p3 p4).2) 0 0 (adS (XN M T) ad) := by
  refine ent (by decide +kernel) (Nat.le_of_ble_eq_true rfl) ?_
  intro p e s m below meth c S hr hlk hpre ls hl
  have S : CallFix p m c cX4_factor 6 s [.ref (ad 0 0), .int p1, .int p2, .int p3, .int p4].toArray wsL_law RX4 := S
  obtain ⟨hK, hN, hX⟩ := hpre
  have hl : lv_has ls 6 [(0, .ref (ad 0 0)), (1, .int p1), (2, .int p2), (3, .int p3), (4, .int p4)] := hl
  have hs := sp_X4_factor.eq_1 d p1 p2 p3 p4
  have hS : va_S (adS (XN M T) ad) s.heap s.heap [] := va_S.rf
  have q1 := hI.1
  have q2 := hI.2.1
  have q3 := hI.2.2.1
  have q4 := hI.2.2.2.1
  have q5 := hI.rc
  refine lv_aload_n S.1 S.2.1 dX4_factor_0 rfl (lv_at hl 0 rfl) ?_
  refine lv_iload_n S.1 S.2.1 dX4_factor_1 rfl (lv_at hl 1 rfl) ?_
  refine cPV (rest := []) S (c_X4_isMeter l D G M T ad d p1) gV_RX4_61 ds_X4_isMeter ⟨rfl, rfl⟩ ⟨Nat.le_of_ble_eq_true rfl, Nat.le_of_ble_eq_true rfl⟩ ⟨blindX, recvX hK hX (k := 0) (i := 0) Nat.zero_lt_one rfl rfl, preX hK hN hX _⟩ rfl hl.1 rfl (Nat.le_of_ble_eq_true rfl) ⟨Nat.le_of_ble_eq_true rfl, Nat.le_of_ble_eq_true rfl⟩ dX4_factor_2 ?_
  refine q_if_ne_b (tgt := 10) S dX4_factor_5 (by decide) (fun c1 => ?_) (fun c1 => ?_)
  · have hs := hs.trans (cif_t c1)
    have f2 := im_of hI c1
    refine lv_iload_n S.1 S.2.1 dX4_factor_10 rfl (lv_at hl 2 rfl) ?_
    refine cPS (rest := []) S (c_X4_isFlow l p2) gS_RX4_65 ds_X4_isFlow.2 ⟨rfl, rfl⟩ ⟨Nat.le_of_ble_eq_true rfl, Nat.le_of_ble_eq_true rfl⟩ rfl hl.1 rfl (Nat.le_of_ble_eq_true rfl) ⟨Nat.le_of_ble_eq_true rfl, Nat.le_of_ble_eq_true rfl⟩ dX4_factor_11 ?_
    refine q_if_eq_b (tgt := 36) S dX4_factor_14 (by decide) (fun c3 => ?_) (fun c3 => ?_)
    · have hs := hs.trans (cif_f c3)
      refine lv_bipush (v := (-2)) S.1 S.2.1 dX4_factor_36 (by decide) ?_
      exact wI S hr hlk hs hX hS dX4_factor_38
    · have hs := hs.trans (cif_t c3)
      refine lv_iload_n S.1 S.2.1 dX4_factor_17 rfl (lv_at hl 3 rfl) ?_
      refine cPS (rest := []) S (c_X4_isDay l p3) gS_RX4_68 ds_X4_isDay.2 ⟨rfl, rfl⟩ ⟨Nat.le_of_ble_eq_true rfl, Nat.le_of_ble_eq_true rfl⟩ rfl hl.1 rfl (Nat.le_of_ble_eq_true rfl) ⟨Nat.le_of_ble_eq_true rfl, Nat.le_of_ble_eq_true rfl⟩ dX4_factor_18 ?_
      refine q_if_eq_b (tgt := 36) S dX4_factor_21 (by decide) (fun c4 => ?_) (fun c4 => ?_)
      · have hs := hs.trans (cif_f c4)
        refine lv_bipush (v := (-2)) S.1 S.2.1 dX4_factor_36 (by decide) ?_
        exact wI S hr hlk hs hX hS dX4_factor_38
      · have hs := hs.trans (cif_t c4)
        refine lv_iload S.1 S.2.1 dX4_factor_24 (lv_at hl 4 rfl) ?_
        refine lv_ldc S.1 S.2.1 S.2.2.2.1 (S.2.2.2.2 _ wKI_RX4_71) dX4_factor_26 ?_
        refine lv_ldc S.1 S.2.1 S.2.2.2.1 (S.2.2.2.2 _ wKI_RX4_72) dX4_factor_28 ?_
        refine cPS (rest := []) S (c_X4_isWithin l p4 95000 105000) gS_RX4_54 ds_X4_isWithin.2 ⟨rfl, rfl⟩ ⟨Nat.le_of_ble_eq_true rfl, Nat.le_of_ble_eq_true rfl⟩ rfl hl.1 rfl (Nat.le_of_ble_eq_true rfl) ⟨Nat.le_of_ble_eq_true rfl, Nat.le_of_ble_eq_true rfl⟩ dX4_factor_30 ?_
        refine q_if_ne_b (tgt := 39) S dX4_factor_33 (by decide) (fun c5 => ?_) (fun c5 => ?_)
        · have hs := hs.trans (cif_t c5)
          refine lv_aload_n S.1 S.2.1 dX4_factor_39 rfl (lv_at hl 0 rfl) ?_
          refine gf_RX4_13 S hK hX dX4_factor_40 ?_
          refine lv_iload_n S.1 S.2.1 dX4_factor_43 rfl (lv_at hl 1 rfl) ?_
          have hx6 : ix p1 < M := ix_lt (by omega) (by omega)
          refine al_X1 S hK hX (by omega) (by omega) hx6 dX4_factor_44 ?_
          have f6 := hI.fc hx6
          refine lv_astore (lv' := [(5, .ref (ad 8 (ix p1))), (0, .ref (ad 0 0)), (1, .int p1), (2, .int p2), (3, .int p3), (4, .int p4)]) S.1 S.2.1 dX4_factor_45 hl (by decide) rfl (fun ls hl => ?_)
          refine lv_aload S.1 S.2.1 dX4_factor_47 (lv_at hl 0 rfl) ?_
          refine cPV (rest := []) S (c_X0_isFull l D G M T ad d (ix p1) hx6) gV_RX4_73 ds_X0_isFull ⟨rfl, rfl⟩ ⟨Nat.le_of_ble_eq_true rfl, Nat.le_of_ble_eq_true rfl⟩ ⟨blindX, recvX hK hX (k := 8) (i := ix p1) hx6 rfl rfl, preX hK hN hX _⟩ rfl hl.1 rfl (Nat.le_of_ble_eq_true rfl) ⟨Nat.le_of_ble_eq_true rfl, Nat.le_of_ble_eq_true rfl⟩ dX4_factor_49 ?_
          refine q_if_eq_b (tgt := 58) S dX4_factor_52 (by decide) (fun c7 => ?_) (fun c7 => ?_)
          · have hs := hs.trans (cif_f c7)
            have f8 := nf_of c7
            refine lv_aload S.1 S.2.1 dX4_factor_58 (lv_at hl 0 rfl) ?_
            refine lv_iload_n S.1 S.2.1 dX4_factor_60 rfl (lv_at hl 3 rfl) ?_
            refine lv_iload_n S.1 S.2.1 dX4_factor_61 rfl (lv_at hl 4 rfl) ?_
            refine lv_iload S.1 S.2.1 dX4_factor_62 (lv_at hl 5 rfl) ?_
            refine cWV (rest := []) S (c_X0_takeFactor l D G M T ad d (ix p1) p2 p3 p4 hx6 (by omega) (by omega)) gV_RX4_77 ds_X0_takeFactor ⟨rfl, rfl⟩ ⟨Nat.le_of_ble_eq_true rfl, Nat.le_of_ble_eq_true rfl⟩ ⟨blindX, recvX hK hX (k := 8) (i := ix p1) hx6 rfl rfl, preX hK hN hX _⟩ rfl hl.1 rfl (Nat.le_of_ble_eq_true rfl) ⟨Nat.le_of_ble_eq_true rfl, Nat.le_of_ble_eq_true rfl⟩ dX4_factor_64 hS (fun _ h => h) (fun H locs hX hS hfr => ?_)
            refine lv_aload S.1 S.2.1 dX4_factor_67 (lv_at hl 0 rfl) ?_
            refine gf_RX4_81 S hK hX hx6 (v := (sp_X0_takeFactor d (ix p1) p2 p3 p4).1 8 (ix p1) 6) rfl dX4_factor_69 ?_
            exact wI S hr hlk hs hX hS dX4_factor_72
          · have hs := hs.trans (cif_t c7)
            refine lv_bipush (v := (-4)) S.1 S.2.1 dX4_factor_55 (by decide) ?_
            exact wI S hr hlk hs hX hS dX4_factor_57
        · have hs := hs.trans (cif_f c5)
          refine lv_bipush (v := (-2)) S.1 S.2.1 dX4_factor_36 (by decide) ?_
          exact wI S hr hlk hs hX hS dX4_factor_38
  · have hs := hs.trans (cif_f c1)
    refine lv_iconst (v := (-1)) S.1 S.2.1 dX4_factor_8 (by decide) ?_
    exact wI S hr hlk hs hX hS dX4_factor_9
set_option maxRecDepth 100000 in
set_option maxHeartbeats 8000000 in
theorem c_X4_at (l : Launch) (D : va_G) (G : Gc) (M T : Nat) (ad : Nat → Nat → Nat) (d : Dt) (p1 : Int32) (p2 : Int32) (p3 : Int32) (hI : XI M T d) : Met l yX4_at (wsU yX4_at cX4_at 4 (some .int)) ({ frames := 2, cells := 0, slots := 0, locals := 49 } : Room) (va_Pc [.ref (ad 0 0), .int p1, .int p2, .int p3] (XPre D (tysG G) (XF G M T ad) (XN M T) ad d)) (qV (some (.int (sp_X4_at d p1 p2 p3)))) 0 0 (fun _ => False) := by
  refine ent (by decide +kernel) (Nat.le_of_ble_eq_true rfl) ?_
  intro p e s m below meth c S hr hlk hpre ls hl
  have S : CallFix p m c cX4_at 4 s [.ref (ad 0 0), .int p1, .int p2, .int p3].toArray wsL_law RX4 := S
  obtain ⟨hK, hN, hX⟩ := hpre
  have hl : lv_has ls 4 [(0, .ref (ad 0 0)), (1, .int p1), (2, .int p2), (3, .int p3)] := hl
  have hs := sp_X4_at.eq_1 d p1 p2 p3
  have q1 := hI.1
  have q2 := hI.2.1
  have q3 := hI.2.2.1
  have q4 := hI.2.2.2.1
  have q5 := hI.rc
  refine lv_aload_n S.1 S.2.1 dX4_at_0 rfl (lv_at hl 0 rfl) ?_
  refine lv_iload_n S.1 S.2.1 dX4_at_1 rfl (lv_at hl 1 rfl) ?_
  refine cPV (rest := []) S (c_X4_isMeter l D G M T ad d p1) gV_RX4_61 ds_X4_isMeter ⟨rfl, rfl⟩ ⟨Nat.le_of_ble_eq_true rfl, Nat.le_of_ble_eq_true rfl⟩ ⟨blindX, recvX hK hX (k := 0) (i := 0) Nat.zero_lt_one rfl rfl, preX hK hN hX _⟩ rfl hl.1 rfl (Nat.le_of_ble_eq_true rfl) ⟨Nat.le_of_ble_eq_true rfl, Nat.le_of_ble_eq_true rfl⟩ dX4_at_2 ?_
  refine q_if_ne_b (tgt := 10) S dX4_at_5 (by decide) (fun c1 => ?_) (fun c1 => ?_)
  · have hs := hs.trans (cif_t c1)
    have f2 := im_of hI c1
    refine lv_iload_n S.1 S.2.1 dX4_at_10 rfl (lv_at hl 2 rfl) ?_
    refine cPS (rest := []) S (c_X4_isFlow l p2) gS_RX4_65 ds_X4_isFlow.2 ⟨rfl, rfl⟩ ⟨Nat.le_of_ble_eq_true rfl, Nat.le_of_ble_eq_true rfl⟩ rfl hl.1 rfl (Nat.le_of_ble_eq_true rfl) ⟨Nat.le_of_ble_eq_true rfl, Nat.le_of_ble_eq_true rfl⟩ dX4_at_11 ?_
    refine q_if_eq_b (tgt := 24) S dX4_at_14 (by decide) (fun c3 => ?_) (fun c3 => ?_)
    · have hs := hs.trans (cif_f c3)
      refine lv_bipush (v := (-2)) S.1 S.2.1 dX4_at_24 (by decide) ?_
      exact rI S hr hlk hs dX4_at_26
    · have hs := hs.trans (cif_t c3)
      refine lv_iload_n S.1 S.2.1 dX4_at_17 rfl (lv_at hl 3 rfl) ?_
      refine cPS (rest := []) S (c_X4_isDay l p3) gS_RX4_68 ds_X4_isDay.2 ⟨rfl, rfl⟩ ⟨Nat.le_of_ble_eq_true rfl, Nat.le_of_ble_eq_true rfl⟩ rfl hl.1 rfl (Nat.le_of_ble_eq_true rfl) ⟨Nat.le_of_ble_eq_true rfl, Nat.le_of_ble_eq_true rfl⟩ dX4_at_18 ?_
      refine q_if_ne_b (tgt := 27) S dX4_at_21 (by decide) (fun c4 => ?_) (fun c4 => ?_)
      · have hs := hs.trans (cif_t c4)
        refine lv_aload_n S.1 S.2.1 dX4_at_27 rfl (lv_at hl 0 rfl) ?_
        refine gf_RX4_13 S hK hX dX4_at_28 ?_
        refine lv_iload_n S.1 S.2.1 dX4_at_31 rfl (lv_at hl 1 rfl) ?_
        have hx5 : ix p1 < M := ix_lt (by omega) (by omega)
        refine al_X1 S hK hX (by omega) (by omega) hx5 dX4_at_32 ?_
        have f5 := hI.fc hx5
        refine lv_iload_n S.1 S.2.1 dX4_at_33 rfl (lv_at hl 2 rfl) ?_
        refine lv_iload_n S.1 S.2.1 dX4_at_34 rfl (lv_at hl 3 rfl) ?_
        refine cPV (rest := []) S (c_X0_factorAt l D G M T ad d (ix p1) p2 p3 hx5 (by omega) (by omega)) gV_RX4_84 ds_X0_factorAt ⟨rfl, rfl⟩ ⟨Nat.le_of_ble_eq_true rfl, Nat.le_of_ble_eq_true rfl⟩ ⟨blindX, recvX hK hX (k := 8) (i := ix p1) hx5 rfl rfl, preX hK hN hX _⟩ rfl hl.1 rfl (Nat.le_of_ble_eq_true rfl) ⟨Nat.le_of_ble_eq_true rfl, Nat.le_of_ble_eq_true rfl⟩ dX4_at_35 ?_
        exact rI S hr hlk hs dX4_at_38
      · have hs := hs.trans (cif_f c4)
        refine lv_bipush (v := (-2)) S.1 S.2.1 dX4_at_24 (by decide) ?_
        exact rI S hr hlk hs dX4_at_26
  · have hs := hs.trans (cif_f c1)
    refine lv_iconst (v := (-1)) S.1 S.2.1 dX4_at_8 (by decide) ?_
    exact rI S hr hlk hs dX4_at_9
set_option maxRecDepth 100000 in
set_option maxHeartbeats 8000000 in
theorem c_X4_points (l : Launch) (D : va_G) (G : Gc) (M T : Nat) (ad : Nat → Nat → Nat) (d : Dt) (p1 : Int32) (p2 : Int32) (hI : XI M T d) : Met l yX4_points (wsU yX4_points cX4_points 3 (some .int)) ({ frames := 2, cells := 0, slots := 0, locals := 46 } : Room) (va_Pc [.ref (ad 0 0), .int p1, .int p2] (XPre D (tysG G) (XF G M T ad) (XN M T) ad d)) (qV (some (.int (sp_X4_points d p1 p2)))) 0 0 (fun _ => False) := by
  refine ent (by decide +kernel) (Nat.le_of_ble_eq_true rfl) ?_
  intro p e s m below meth c S hr hlk hpre ls hl
  have S : CallFix p m c cX4_points 3 s [.ref (ad 0 0), .int p1, .int p2].toArray wsL_law RX4 := S
  obtain ⟨hK, hN, hX⟩ := hpre
  have hl : lv_has ls 3 [(0, .ref (ad 0 0)), (1, .int p1), (2, .int p2)] := hl
  have hs := sp_X4_points.eq_1 d p1 p2
  have q1 := hI.1
  have q2 := hI.2.1
  have q3 := hI.2.2.1
  have q4 := hI.2.2.2.1
  have q5 := hI.rc
  refine lv_aload_n S.1 S.2.1 dX4_points_0 rfl (lv_at hl 0 rfl) ?_
  refine lv_iload_n S.1 S.2.1 dX4_points_1 rfl (lv_at hl 1 rfl) ?_
  refine cPV (rest := []) S (c_X4_isMeter l D G M T ad d p1) gV_RX4_61 ds_X4_isMeter ⟨rfl, rfl⟩ ⟨Nat.le_of_ble_eq_true rfl, Nat.le_of_ble_eq_true rfl⟩ ⟨blindX, recvX hK hX (k := 0) (i := 0) Nat.zero_lt_one rfl rfl, preX hK hN hX _⟩ rfl hl.1 rfl (Nat.le_of_ble_eq_true rfl) ⟨Nat.le_of_ble_eq_true rfl, Nat.le_of_ble_eq_true rfl⟩ dX4_points_2 ?_
  refine q_if_ne_b (tgt := 10) S dX4_points_5 (by decide) (fun c1 => ?_) (fun c1 => ?_)
  · have hs := hs.trans (cif_t c1)
    have f2 := im_of hI c1
    refine lv_iload_n S.1 S.2.1 dX4_points_10 rfl (lv_at hl 2 rfl) ?_
    refine cPS (rest := []) S (c_X4_isDay l p2) gS_RX4_68 ds_X4_isDay.2 ⟨rfl, rfl⟩ ⟨Nat.le_of_ble_eq_true rfl, Nat.le_of_ble_eq_true rfl⟩ rfl hl.1 rfl (Nat.le_of_ble_eq_true rfl) ⟨Nat.le_of_ble_eq_true rfl, Nat.le_of_ble_eq_true rfl⟩ dX4_points_11 ?_
    refine q_if_ne_b (tgt := 20) S dX4_points_14 (by decide) (fun c3 => ?_) (fun c3 => ?_)
    · have hs := hs.trans (cif_t c3)
      refine lv_aload_n S.1 S.2.1 dX4_points_20 rfl (lv_at hl 0 rfl) ?_
      refine gf_RX4_13 S hK hX dX4_points_21 ?_
      refine lv_iload_n S.1 S.2.1 dX4_points_24 rfl (lv_at hl 1 rfl) ?_
      have hx4 : ix p1 < M := ix_lt (by omega) (by omega)
      refine al_X1 S hK hX (by omega) (by omega) hx4 dX4_points_25 ?_
      have f4 := hI.fc hx4
      refine lv_iload_n S.1 S.2.1 dX4_points_26 rfl (lv_at hl 2 rfl) ?_
      refine cPV (rest := []) S (c_X0_curveSize l D G M T ad d (ix p1) p2 hx4 (by omega) (by omega)) gV_RX4_88 ds_X0_curveSize ⟨rfl, rfl⟩ ⟨Nat.le_of_ble_eq_true rfl, Nat.le_of_ble_eq_true rfl⟩ ⟨blindX, recvX hK hX (k := 8) (i := ix p1) hx4 rfl rfl, preX hK hN hX _⟩ rfl hl.1 rfl (Nat.le_of_ble_eq_true rfl) ⟨Nat.le_of_ble_eq_true rfl, Nat.le_of_ble_eq_true rfl⟩ dX4_points_27 ?_
      exact rI S hr hlk hs dX4_points_30
    · have hs := hs.trans (cif_f c3)
      refine lv_bipush (v := (-2)) S.1 S.2.1 dX4_points_17 (by decide) ?_
      exact rI S hr hlk hs dX4_points_19
  · have hs := hs.trans (cif_f c1)
    refine lv_iconst (v := (-1)) S.1 S.2.1 dX4_points_8 (by decide) ?_
    exact rI S hr hlk hs dX4_points_9
set_option maxRecDepth 100000 in
set_option maxHeartbeats 8000000 in
theorem c_X4_point (l : Launch) (D : va_G) (G : Gc) (M T : Nat) (ad : Nat → Nat → Nat) (d : Dt) (p1 : Int32) (p2 : Int32) (p3 : Int32) (p4 : Int32) (hI : XI M T d) : Met l yX4_point (wsU yX4_point cX4_point 6 (some .int)) ({ frames := 2, cells := 0, slots := 0, locals := 47 } : Room) (va_Pc [.ref (ad 0 0), .int p1, .int p2, .int p3, .int p4] (XPre D (tysG G) (XF G M T ad) (XN M T) ad d)) (qV (some (.int (sp_X4_point d p1 p2 p3 p4)))) 0 0 (fun _ => False) := by
  refine ent (by decide +kernel) (Nat.le_of_ble_eq_true rfl) ?_
  intro p e s m below meth c S hr hlk hpre ls hl
  have S : CallFix p m c cX4_point 6 s [.ref (ad 0 0), .int p1, .int p2, .int p3, .int p4].toArray wsL_law RX4 := S
  obtain ⟨hK, hN, hX⟩ := hpre
  have hl : lv_has ls 6 [(0, .ref (ad 0 0)), (1, .int p1), (2, .int p2), (3, .int p3), (4, .int p4)] := hl
  have hs := sp_X4_point.eq_1 d p1 p2 p3 p4
  have q1 := hI.1
  have q2 := hI.2.1
  have q3 := hI.2.2.1
  have q4 := hI.2.2.2.1
  have q5 := hI.rc
  refine lv_aload_n S.1 S.2.1 dX4_point_0 rfl (lv_at hl 0 rfl) ?_
  refine lv_iload_n S.1 S.2.1 dX4_point_1 rfl (lv_at hl 1 rfl) ?_
  refine cPV (rest := []) S (c_X4_isMeter l D G M T ad d p1) gV_RX4_61 ds_X4_isMeter ⟨rfl, rfl⟩ ⟨Nat.le_of_ble_eq_true rfl, Nat.le_of_ble_eq_true rfl⟩ ⟨blindX, recvX hK hX (k := 0) (i := 0) Nat.zero_lt_one rfl rfl, preX hK hN hX _⟩ rfl hl.1 rfl (Nat.le_of_ble_eq_true rfl) ⟨Nat.le_of_ble_eq_true rfl, Nat.le_of_ble_eq_true rfl⟩ dX4_point_2 ?_
  refine q_if_ne_b (tgt := 10) S dX4_point_5 (by decide) (fun c1 => ?_) (fun c1 => ?_)
  · have hs := hs.trans (cif_t c1)
    have f2 := im_of hI c1
    refine lv_aload_n S.1 S.2.1 dX4_point_10 rfl (lv_at hl 0 rfl) ?_
    refine gf_RX4_13 S hK hX dX4_point_11 ?_
    refine lv_iload_n S.1 S.2.1 dX4_point_14 rfl (lv_at hl 1 rfl) ?_
    have hx3 : ix p1 < M := ix_lt (by omega) (by omega)
    refine al_X1 S hK hX (by omega) (by omega) hx3 dX4_point_15 ?_
    have f3 := hI.fc hx3
    refine lv_iload_n S.1 S.2.1 dX4_point_16 rfl (lv_at hl 2 rfl) ?_
    refine lv_iload_n S.1 S.2.1 dX4_point_17 rfl (lv_at hl 3 rfl) ?_
    refine cPV (rest := []) S (c_X0_curvePlace l D G M T ad d (ix p1) p2 p3 hx3 (by omega) (by omega)) gV_RX4_92 ds_X0_curvePlace ⟨rfl, rfl⟩ ⟨Nat.le_of_ble_eq_true rfl, Nat.le_of_ble_eq_true rfl⟩ ⟨blindX, recvX hK hX (k := 8) (i := ix p1) hx3 rfl rfl, preX hK hN hX _⟩ rfl hl.1 rfl (Nat.le_of_ble_eq_true rfl) ⟨Nat.le_of_ble_eq_true rfl, Nat.le_of_ble_eq_true rfl⟩ dX4_point_18 ?_
    refine lv_istore (lv' := [(5, .int (sp_X0_curvePlace d (ix p1) p2 p3)), (0, .ref (ad 0 0)), (1, .int p1), (2, .int p2), (3, .int p3), (4, .int p4)]) S.1 S.2.1 dX4_point_21 hl (by decide) rfl (fun ls hl => ?_)
    refine lv_iload S.1 S.2.1 dX4_point_23 (lv_at hl 0 rfl) ?_
    refine lv_bipush (v := (-9)) S.1 S.2.1 dX4_point_25 (by decide) ?_
    refine q_icmp_ne (tgt := 32) (xi := (sp_X0_curvePlace d (ix p1) p2 p3).toInt) (yi := (-9)) S rfl rfl dX4_point_27 (by decide) (fun c4 => ?_) (fun c4 => ?_)
    · have hs := hs.trans (cif_f c4)
      refine lv_iload_n S.1 S.2.1 dX4_point_32 rfl (lv_at hl 3 rfl) ?_
      refine cPS (rest := []) S (c_X4_isDay l p2) gS_RX4_68 ds_X4_isDay.2 ⟨rfl, rfl⟩ ⟨Nat.le_of_ble_eq_true rfl, Nat.le_of_ble_eq_true rfl⟩ rfl hl.1 rfl (Nat.le_of_ble_eq_true rfl) ⟨Nat.le_of_ble_eq_true rfl, Nat.le_of_ble_eq_true rfl⟩ dX4_point_33 ?_
      refine q_if_eq_b (tgt := 49) S dX4_point_36 (by decide) (fun c5 => ?_) (fun c5 => ?_)
      · have hs := hs.trans (cif_f c5)
        refine lv_bipush (v := (-2)) S.1 S.2.1 dX4_point_49 (by decide) ?_
        exact rI S hr hlk hs dX4_point_51
      · have hs := hs.trans (cif_t c5)
        refine lv_iload S.1 S.2.1 dX4_point_39 (lv_at hl 5 rfl) ?_
        refine lv_iconst (v := 0) S.1 S.2.1 dX4_point_41 (by decide) ?_
        refine lv_iconst (v := 1) S.1 S.2.1 dX4_point_42 (by decide) ?_
        refine cPS (rest := []) S (c_X4_isWithin l p4 0 1) gS_RX4_54 ds_X4_isWithin.2 ⟨rfl, rfl⟩ ⟨Nat.le_of_ble_eq_true rfl, Nat.le_of_ble_eq_true rfl⟩ rfl hl.1 rfl (Nat.le_of_ble_eq_true rfl) ⟨Nat.le_of_ble_eq_true rfl, Nat.le_of_ble_eq_true rfl⟩ dX4_point_43 ?_
        refine q_if_ne_b (tgt := 52) S dX4_point_46 (by decide) (fun c6 => ?_) (fun c6 => ?_)
        · have hs := hs.trans (cif_t c6)
          have q9 := cp_of (d := d) (i := ix p1) (p1 := p2) (p2 := p3) (by omega) (by omega)
          refine lv_iload S.1 S.2.1 dX4_point_52 (lv_at hl 5 rfl) ?_
          refine q_if_ne (tgt := 72) (xi := p4.toInt) S rfl dX4_point_54 (by decide) (fun c7 => ?_) (fun c7 => ?_)
          · have hs := hs.trans (cif_f c7)
            refine lv_aload_n S.1 S.2.1 dX4_point_72 rfl (lv_at hl 1 rfl) ?_
            refine gf_RX4_13 S hK hX dX4_point_73 ?_
            refine lv_iload_n S.1 S.2.1 dX4_point_76 rfl (lv_at hl 2 rfl) ?_
            have hx8 : ix p1 < M := ix_lt (by omega) (by omega)
            refine al_X1 S hK hX (by omega) (by omega) hx8 dX4_point_77 ?_
            have f8 := hI.fc hx8
            refine gf_RX4_99 S hK hX hx8 dX4_point_78 ?_
            refine lv_iload S.1 S.2.1 dX4_point_81 (lv_at hl 0 rfl) ?_
            refine al_X12 S hK hX hx8 (by omega) (by omega) (z := d.1 12 (ix p1) (ix (sp_X0_curvePlace d (ix p1) p2 p3))) rfl dX4_point_83 ?_
            exact rI S hr hlk hs dX4_point_84
          · have hs := hs.trans (cif_t c7)
            refine lv_aload_n S.1 S.2.1 dX4_point_57 rfl (lv_at hl 1 rfl) ?_
            refine gf_RX4_13 S hK hX dX4_point_58 ?_
            refine lv_iload_n S.1 S.2.1 dX4_point_61 rfl (lv_at hl 2 rfl) ?_
            have hx9 : ix p1 < M := ix_lt (by omega) (by omega)
            refine al_X1 S hK hX (by omega) (by omega) hx9 dX4_point_62 ?_
            have f9 := hI.fc hx9
            refine gf_RX4_95 S hK hX hx9 dX4_point_63 ?_
            refine lv_iload S.1 S.2.1 dX4_point_66 (lv_at hl 0 rfl) ?_
            refine al_X10 S hK hX hx9 (by omega) (by omega) (z := d.1 10 (ix p1) (ix (sp_X0_curvePlace d (ix p1) p2 p3))) rfl dX4_point_68 ?_
            refine lv_goto (tgt := 84) S.1 S.2.1 dX4_point_69 (by decide) ?_
            exact rI S hr hlk hs dX4_point_84
        · have hs := hs.trans (cif_f c6)
          refine lv_bipush (v := (-2)) S.1 S.2.1 dX4_point_49 (by decide) ?_
          exact rI S hr hlk hs dX4_point_51
    · have hs := hs.trans (cif_t c4)
      refine lv_iconst (v := (-1)) S.1 S.2.1 dX4_point_30 (by decide) ?_
      exact rI S hr hlk hs dX4_point_31
  · have hs := hs.trans (cif_f c1)
    refine lv_iconst (v := (-1)) S.1 S.2.1 dX4_point_8 (by decide) ?_
    exact rI S hr hlk hs dX4_point_9
set_option maxRecDepth 100000 in
set_option maxHeartbeats 8000000 in
theorem c_X4_proof (l : Launch) (D : va_G) (G : Gc) (M T : Nat) (ad : Nat → Nat → Nat) (d : Dt) (p1 : Int32) (p2 : Int32) (p3 : Int32) (hI : XI M T d) : Met l yX4_proof (wsU yX4_proof cX4_proof 4 (some .int)) ({ frames := 2, cells := 0, slots := 0, locals := 43 } : Room) (va_Pc [.ref (ad 0 0), .int p1, .int p2, .int p3] (XPre D (tysG G) (XF G M T ad) (XN M T) ad d)) (qW (some (.int (sp_X4_proof d p1 p2 p3).1)) D (XF G M T ad) (XN M T) ad (sp_X4_proof d p1 p2 p3).2) 0 0 (adS (XN M T) ad) := by
  refine ent (by decide +kernel) (Nat.le_of_ble_eq_true rfl) ?_
  intro p e s m below meth c S hr hlk hpre ls hl
  have S : CallFix p m c cX4_proof 4 s [.ref (ad 0 0), .int p1, .int p2, .int p3].toArray wsL_law RX4 := S
  obtain ⟨hK, hN, hX⟩ := hpre
  have hl : lv_has ls 4 [(0, .ref (ad 0 0)), (1, .int p1), (2, .int p2), (3, .int p3)] := hl
  have hs := sp_X4_proof.eq_1 d p1 p2 p3
  have hS : va_S (adS (XN M T) ad) s.heap s.heap [] := va_S.rf
  have q1 := hI.1
  have q2 := hI.2.1
  have q3 := hI.2.2.1
  have q4 := hI.2.2.2.1
  have q5 := hI.rc
  refine lv_aload_n S.1 S.2.1 dX4_proof_0 rfl (lv_at hl 0 rfl) ?_
  refine lv_iload_n S.1 S.2.1 dX4_proof_1 rfl (lv_at hl 1 rfl) ?_
  refine cPV (rest := []) S (c_X4_isMeter l D G M T ad d p1) gV_RX4_61 ds_X4_isMeter ⟨rfl, rfl⟩ ⟨Nat.le_of_ble_eq_true rfl, Nat.le_of_ble_eq_true rfl⟩ ⟨blindX, recvX hK hX (k := 0) (i := 0) Nat.zero_lt_one rfl rfl, preX hK hN hX _⟩ rfl hl.1 rfl (Nat.le_of_ble_eq_true rfl) ⟨Nat.le_of_ble_eq_true rfl, Nat.le_of_ble_eq_true rfl⟩ dX4_proof_2 ?_
  refine q_if_ne_b (tgt := 10) S dX4_proof_5 (by decide) (fun c1 => ?_) (fun c1 => ?_)
  · have hs := hs.trans (cif_t c1)
    have f2 := im_of hI c1
    refine lv_iload_n S.1 S.2.1 dX4_proof_10 rfl (lv_at hl 2 rfl) ?_
    refine cPS (rest := []) S (c_X4_isFlow l p2) gS_RX4_65 ds_X4_isFlow.2 ⟨rfl, rfl⟩ ⟨Nat.le_of_ble_eq_true rfl, Nat.le_of_ble_eq_true rfl⟩ rfl hl.1 rfl (Nat.le_of_ble_eq_true rfl) ⟨Nat.le_of_ble_eq_true rfl, Nat.le_of_ble_eq_true rfl⟩ dX4_proof_11 ?_
    refine q_if_eq_b (tgt := 29) S dX4_proof_14 (by decide) (fun c3 => ?_) (fun c3 => ?_)
    · have hs := hs.trans (cif_f c3)
      refine lv_bipush (v := (-2)) S.1 S.2.1 dX4_proof_29 (by decide) ?_
      exact wI S hr hlk hs hX hS dX4_proof_31
    · have hs := hs.trans (cif_t c3)
      refine lv_iload_n S.1 S.2.1 dX4_proof_17 rfl (lv_at hl 3 rfl) ?_
      refine lv_sipush (v := 1000) S.1 S.2.1 dX4_proof_18 (by decide) ?_
      refine lv_ldc S.1 S.2.1 S.2.2.2.1 (S.2.2.2.2 _ wKI_RX4_102) dX4_proof_21 ?_
      refine cPS (rest := []) S (c_X4_isWithin l p3 1000 1000000) gS_RX4_54 ds_X4_isWithin.2 ⟨rfl, rfl⟩ ⟨Nat.le_of_ble_eq_true rfl, Nat.le_of_ble_eq_true rfl⟩ rfl hl.1 rfl (Nat.le_of_ble_eq_true rfl) ⟨Nat.le_of_ble_eq_true rfl, Nat.le_of_ble_eq_true rfl⟩ dX4_proof_23 ?_
      refine q_if_ne_b (tgt := 32) S dX4_proof_26 (by decide) (fun c4 => ?_) (fun c4 => ?_)
      · have hs := hs.trans (cif_t c4)
        refine lv_aload_n S.1 S.2.1 dX4_proof_32 rfl (lv_at hl 0 rfl) ?_
        refine gf_RX4_24 S hK hX dX4_proof_33 ?_
        refine lv_iload_n S.1 S.2.1 dX4_proof_36 rfl (lv_at hl 1 rfl) ?_
        refine lv_iload_n S.1 S.2.1 dX4_proof_37 rfl (lv_at hl 2 rfl) ?_
        refine lv_iload_n S.1 S.2.1 dX4_proof_38 rfl (lv_at hl 3 rfl) ?_
        refine cWV (rest := []) S (c_X1_begin l D G M T ad d p1 p2 p3) gV_RX4_103 ds_X1_begin ⟨rfl, rfl⟩ ⟨Nat.le_of_ble_eq_true rfl, Nat.le_of_ble_eq_true rfl⟩ ⟨blindX, recvX hK hX (k := 2) (i := 0) Nat.zero_lt_one rfl rfl, preX hK hN hX _⟩ rfl hl.1 rfl (Nat.le_of_ble_eq_true rfl) ⟨Nat.le_of_ble_eq_true rfl, Nat.le_of_ble_eq_true rfl⟩ dX4_proof_39 hS (fun _ h => h) (fun H locs hX hS hfr => ?_)
        refine lv_iconst (v := 1) S.1 S.2.1 dX4_proof_42 (by decide) ?_
        exact wI S hr hlk hs hX hS dX4_proof_43
      · have hs := hs.trans (cif_f c4)
        refine lv_bipush (v := (-2)) S.1 S.2.1 dX4_proof_29 (by decide) ?_
        exact wI S hr hlk hs hX hS dX4_proof_31
  · have hs := hs.trans (cif_f c1)
    refine lv_iconst (v := (-1)) S.1 S.2.1 dX4_proof_8 (by decide) ?_
    exact wI S hr hlk hs hX hS dX4_proof_9
set_option maxRecDepth 100000 in
set_option maxHeartbeats 8000000 in
theorem c_X4_run (l : Launch) (D : va_G) (G : Gc) (M T : Nat) (ad : Nat → Nat → Nat) (d : Dt) (p1 : Int32) (p2 : Int32) (p3 : Int32) (hI : XI M T d) : Met l yX4_run (wsU yX4_run cX4_run 6 (some .long)) ({ frames := 1, cells := 0, slots := 0, locals := 22 } : Room) (va_Pc [.ref (ad 0 0), .int p1, .int p2, .int p3] (XPre D (tysG G) (XF G M T ad) (XN M T) ad d)) (qW (some (.long (sp_X4_run d p1 p2 p3).1)) D (XF G M T ad) (XN M T) ad (sp_X4_run d p1 p2 p3).2) 0 0 (adS (XN M T) ad) := by
  refine ent (by decide +kernel) (Nat.le_of_ble_eq_true rfl) ?_
  intro p e s m below meth c S hr hlk hpre ls hl
  have S : CallFix p m c cX4_run 6 s [.ref (ad 0 0), .int p1, .int p2, .int p3].toArray wsL_law RX4 := S
  obtain ⟨hK, hN, hX⟩ := hpre
  have hl : lv_has ls 6 [(0, .ref (ad 0 0)), (1, .int p1), (2, .int p2), (3, .int p3)] := hl
  have hs := sp_X4_run.eq_1 d p1 p2 p3
  have hS : va_S (adS (XN M T) ad) s.heap s.heap [] := va_S.rf
  have q1 := hI.1
  have q2 := hI.2.1
  have q3 := hI.2.2.1
  have q4 := hI.2.2.2.1
  have q5 := hI.rc
  refine lv_iload_n S.1 S.2.1 dX4_run_0 rfl (lv_at hl 1 rfl) ?_
  refine lv_iconst (v := 1) S.1 S.2.1 dX4_run_1 (by decide) ?_
  refine lv_ldc S.1 S.2.1 S.2.2.2.1 (S.2.2.2.2 _ wKI_RX4_53) dX4_run_2 ?_
  refine cPS (rest := []) S (c_X4_isWithin l p1 1 100000) gS_RX4_54 ds_X4_isWithin.2 ⟨rfl, rfl⟩ ⟨Nat.le_of_ble_eq_true rfl, Nat.le_of_ble_eq_true rfl⟩ rfl hl.1 rfl (Nat.le_of_ble_eq_true rfl) ⟨Nat.le_of_ble_eq_true rfl, Nat.le_of_ble_eq_true rfl⟩ dX4_run_4 ?_
  refine q_if_eq_b (tgt := 30) S dX4_run_7 (by decide) (fun c1 => ?_) (fun c1 => ?_)
  · have hs := hs.trans (cif_f c1)
    refine lv_ldc2 S.1 S.2.1 S.2.2.2.1 (S.2.2.2.2 _ wKL_RX4_106) dX4_run_30 ?_
    exact wL S hr hlk hs hX hS dX4_run_33
  · have hs := hs.trans (cif_t c1)
    refine lv_iload_n S.1 S.2.1 dX4_run_10 rfl (lv_at hl 2 rfl) ?_
    refine lv_iconst (v := 1) S.1 S.2.1 dX4_run_11 (by decide) ?_
    refine lv_ldc S.1 S.2.1 S.2.2.2.1 (S.2.2.2.2 _ wKI_RX4_102) dX4_run_12 ?_
    refine cPS (rest := []) S (c_X4_isWithin l p2 1 1000000) gS_RX4_54 ds_X4_isWithin.2 ⟨rfl, rfl⟩ ⟨Nat.le_of_ble_eq_true rfl, Nat.le_of_ble_eq_true rfl⟩ rfl hl.1 rfl (Nat.le_of_ble_eq_true rfl) ⟨Nat.le_of_ble_eq_true rfl, Nat.le_of_ble_eq_true rfl⟩ dX4_run_14 ?_
    refine q_if_eq_b (tgt := 30) S dX4_run_17 (by decide) (fun c2 => ?_) (fun c2 => ?_)
    · have hs := hs.trans (cif_f c2)
      refine lv_ldc2 S.1 S.2.1 S.2.2.2.1 (S.2.2.2.2 _ wKL_RX4_106) dX4_run_30 ?_
      exact wL S hr hlk hs hX hS dX4_run_33
    · have hs := hs.trans (cif_t c2)
      refine lv_iload_n S.1 S.2.1 dX4_run_20 rfl (lv_at hl 3 rfl) ?_
      refine lv_iconst (v := 1) S.1 S.2.1 dX4_run_21 (by decide) ?_
      refine lv_ldc S.1 S.2.1 S.2.2.2.1 (S.2.2.2.2 _ wKI_RX4_102) dX4_run_22 ?_
      refine cPS (rest := []) S (c_X4_isWithin l p3 1 1000000) gS_RX4_54 ds_X4_isWithin.2 ⟨rfl, rfl⟩ ⟨Nat.le_of_ble_eq_true rfl, Nat.le_of_ble_eq_true rfl⟩ rfl hl.1 rfl (Nat.le_of_ble_eq_true rfl) ⟨Nat.le_of_ble_eq_true rfl, Nat.le_of_ble_eq_true rfl⟩ dX4_run_24 ?_
      refine q_if_ne_b (tgt := 34) S dX4_run_27 (by decide) (fun c3 => ?_) (fun c3 => ?_)
      · have hs := hs.trans (cif_t c3)
        refine lv_aload_n S.1 S.2.1 dX4_run_34 rfl (lv_at hl 0 rfl) ?_
        refine gf_RX4_24 S hK hX dX4_run_35 ?_
        refine gf_RX4_108 S hK hX (v := d.1 2 0 0) rfl dX4_run_38 ?_
        refine q_if_eq (tgt := 56) (xi := (d.1 2 0 0).toInt) S rfl dX4_run_41 (by decide) (fun c4 => ?_) (fun c4 => ?_)
        · have hs := hs.trans (cif_t c4)
          refine lv_ldc2 S.1 S.2.1 S.2.2.2.1 (S.2.2.2.2 _ wKL_RX4_106) dX4_run_56 ?_
          exact wL S hr hlk hs hX hS dX4_run_59
        · have hs := hs.trans (cif_f c4)
          refine lv_aload_n S.1 S.2.1 dX4_run_44 rfl (lv_at hl 0 rfl) ?_
          refine gf_RX4_24 S hK hX dX4_run_45 ?_
          refine gf_RX4_112 S hK hX (v := d.1 2 0 5) rfl dX4_run_48 ?_
          refine lv_bipush (v := 12) S.1 S.2.1 dX4_run_51 (by decide) ?_
          refine q_icmp_lt (tgt := 60) (xi := (d.1 2 0 5).toInt) (yi := 12) S rfl rfl dX4_run_53 (by decide) (fun c5 => ?_) (fun c5 => ?_)
          · have hs := hs.trans (cif_t c5)
            refine lv_ldc2 S.1 S.2.1 S.2.2.2.1 (S.2.2.2.2 _ wKL_RX4_115) dX4_run_60 ?_
            refine lv_iload_n S.1 S.2.1 dX4_run_63 rfl (lv_at hl 1 rfl) ?_
            refine lv_i2l S.1 S.2.1 dX4_run_64 rfl ?_
            refine lv_lmul S.1 S.2.1 dX4_run_65 ?_
            refine lv_iload_n S.1 S.2.1 dX4_run_66 rfl (lv_at hl 3 rfl) ?_
            refine lv_i2l S.1 S.2.1 dX4_run_67 rfl ?_
            refine lv_lmul S.1 S.2.1 dX4_run_68 ?_
            refine lv_iload_n S.1 S.2.1 dX4_run_69 rfl (lv_at hl 2 rfl) ?_
            refine lv_i2l S.1 S.2.1 dX4_run_70 rfl ?_
            refine lv_ldiv S.1 S.2.1 dX4_run_71 (nzL (by have h9 := iw_of (by assumption : sp_X4_isWithin p2 1 1000000); exact Int.lt_of_lt_of_le (by decide) h9.1)) ?_
            refine lv_lstore (lv' := [(4, .long (((1000 * p1.toInt64) * p3.toInt64) / p2.toInt64)), (0, .ref (ad 0 0)), (1, .int p1), (2, .int p2), (3, .int p3)]) S.1 S.2.1 dX4_run_72 hl (by decide) rfl (fun ls hl => ?_)
            refine lv_aload_n S.1 S.2.1 dX4_run_74 rfl (lv_at hl 1 rfl) ?_
            refine gf_RX4_24 S hK hX dX4_run_75 ?_
            refine gf_RX4_117 S hK hX dX4_run_78 ?_
            refine lv_aload_n S.1 S.2.1 dX4_run_81 rfl (lv_at hl 1 rfl) ?_
            refine gf_RX4_24 S hK hX dX4_run_82 ?_
            refine gf_RX4_112 S hK hX (v := d.1 2 0 5) rfl dX4_run_85 ?_
            refine lv_lload S.1 S.2.1 dX4_run_88 (lv_at hl 0 rfl) ?_
            refine as_X3 S hK hX hS (by omega) (by omega) dX4_run_90 (fun H locs hX hS => ?_)
            refine lv_aload_n S.1 S.2.1 dX4_run_91 rfl (lv_at hl 1 rfl) ?_
            refine gf_RX4_24 S hK hX dX4_run_92 ?_
            refine lv_dup S.1 S.2.1 dX4_run_95 rfl ?_
            refine gf_RX4_112 S hK hX (v := d.1 2 0 5) rfl dX4_run_96 ?_
            refine lv_iconst (v := 1) S.1 S.2.1 dX4_run_99 (by decide) ?_
            refine lv_iadd S.1 S.2.1 dX4_run_100 ?_
            refine pf_RX4_112 S hK hX hS dX4_run_101 (fun H locs hX hS => ?_)
            refine lv_lload S.1 S.2.1 dX4_run_104 (lv_at hl 0 rfl) ?_
            exact wL S hr hlk hs hX hS dX4_run_106
          · have hs := hs.trans (cif_f c5)
            refine lv_ldc2 S.1 S.2.1 S.2.2.2.1 (S.2.2.2.2 _ wKL_RX4_106) dX4_run_56 ?_
            exact wL S hr hlk hs hX hS dX4_run_59
      · have hs := hs.trans (cif_f c3)
        refine lv_ldc2 S.1 S.2.1 S.2.2.2.1 (S.2.2.2.2 _ wKL_RX4_106) dX4_run_30 ?_
        exact wL S hr hlk hs hX hS dX4_run_33
set_option maxRecDepth 100000 in
set_option maxHeartbeats 8000000 in
theorem c_X4_proving (l : Launch) (D : va_G) (G : Gc) (M T : Nat) (ad : Nat → Nat → Nat) (d : Dt) (p1 : Int32) (hI : XI M T d) : Met l yX4_proving (wsU yX4_proving cX4_proving 2 (some .int)) ({ frames := 2, cells := 0, slots := 0, locals := 49 } : Room) (va_Pc [.ref (ad 0 0), .int p1] (XPre D (tysG G) (XF G M T ad) (XN M T) ad d)) (qV (some (.int (sp_X4_proving d p1)))) 0 0 (fun _ => False) := by
  refine ent (by decide +kernel) (Nat.le_of_ble_eq_true rfl) ?_
  intro p e s m below meth c S hr hlk hpre ls hl
  have S : CallFix p m c cX4_proving 2 s [.ref (ad 0 0), .int p1].toArray wsL_law RX4 := S
  obtain ⟨hK, hN, hX⟩ := hpre
  have hl : lv_has ls 2 [(0, .ref (ad 0 0)), (1, .int p1)] := hl
  have hs := sp_X4_proving.eq_1 d p1
  have q1 := hI.1
  have q2 := hI.2.1
  have q3 := hI.2.2.1
  have q4 := hI.2.2.2.1
  have q5 := hI.rc
  refine lv_iload_n S.1 S.2.1 dX4_proving_0 rfl (lv_at hl 1 rfl) ?_
  refine lv_iconst (v := 0) S.1 S.2.1 dX4_proving_1 (by decide) ?_
  refine lv_iconst (v := 3) S.1 S.2.1 dX4_proving_2 (by decide) ?_
  refine cPS (rest := []) S (c_X4_isWithin l p1 0 3) gS_RX4_54 ds_X4_isWithin.2 ⟨rfl, rfl⟩ ⟨Nat.le_of_ble_eq_true rfl, Nat.le_of_ble_eq_true rfl⟩ rfl hl.1 rfl (Nat.le_of_ble_eq_true rfl) ⟨Nat.le_of_ble_eq_true rfl, Nat.le_of_ble_eq_true rfl⟩ dX4_proving_3 ?_
  refine q_if_ne_b (tgt := 12) S dX4_proving_6 (by decide) (fun c1 => ?_) (fun c1 => ?_)
  · have hs := hs.trans (cif_t c1)
    refine lv_aload_n S.1 S.2.1 dX4_proving_12 rfl (lv_at hl 0 rfl) ?_
    refine gf_RX4_24 S hK hX dX4_proving_13 ?_
    refine gf_RX4_108 S hK hX (v := d.1 2 0 0) rfl dX4_proving_16 ?_
    refine q_if_ne (tgt := 25) (xi := (d.1 2 0 0).toInt) S rfl dX4_proving_19 (by decide) (fun c2 => ?_) (fun c2 => ?_)
    · have hs := hs.trans (cif_f c2)
      refine lv_iload_n S.1 S.2.1 dX4_proving_25 rfl (lv_at hl 1 rfl) ?_
      by_cases c3 : p1.toInt = 0
      · have hs := hs.trans (cif_t c3)
        refine lv_tableIn (tgt := 52) (off := 26) S.1 S.2.1 dX4_proving_26 (by show ¬ p1.toInt < (0 : Int); omega) (by show ¬ (2 : Int) < p1.toInt; omega) (by rw [c3]; rfl) (by decide) ?_
        refine lv_aload_n S.1 S.2.1 dX4_proving_52 rfl (lv_at hl 0 rfl) ?_
        refine gf_RX4_24 S hK hX dX4_proving_53 ?_
        refine gf_RX4_112 S hK hX (v := d.1 2 0 5) rfl dX4_proving_56 ?_
        exact rI S hr hlk hs dX4_proving_59
      · have hs := hs.trans (cif_f c3)
        by_cases c4 : p1.toInt = 1
        · have hs := hs.trans (cif_t c4)
          refine lv_tableIn (tgt := 60) (off := 34) S.1 S.2.1 dX4_proving_26 (by show ¬ p1.toInt < (0 : Int); omega) (by show ¬ (2 : Int) < p1.toInt; omega) (by rw [c4]; rfl) (by decide) ?_
          refine lv_aload_n S.1 S.2.1 dX4_proving_60 rfl (lv_at hl 0 rfl) ?_
          refine gf_RX4_24 S hK hX dX4_proving_61 ?_
          refine cPV (rest := []) S (c_X1_isGood l D G M T ad d (by omega) (by omega)) gV_RX4_121 ds_X1_isGood ⟨rfl, rfl⟩ ⟨Nat.le_of_ble_eq_true rfl, Nat.le_of_ble_eq_true rfl⟩ ⟨blindX, recvX hK hX (k := 2) (i := 0) Nat.zero_lt_one rfl rfl, preX hK hN hX _⟩ rfl hl.1 rfl (Nat.le_of_ble_eq_true rfl) ⟨Nat.le_of_ble_eq_true rfl, Nat.le_of_ble_eq_true rfl⟩ dX4_proving_64 ?_
          refine q_if_eq_b (tgt := 74) S dX4_proving_67 (by decide) (fun c5 => ?_) (fun c5 => ?_)
          · have hs := hs.trans (cif_f c5)
            refine lv_iconst (v := 0) S.1 S.2.1 dX4_proving_74 (by decide) ?_
            exact rI S hr hlk hs dX4_proving_75
          · have hs := hs.trans (cif_t c5)
            have f6 := gd_of c5
            refine lv_iconst (v := 1) S.1 S.2.1 dX4_proving_70 (by decide) ?_
            refine lv_goto (tgt := 75) S.1 S.2.1 dX4_proving_71 (by decide) ?_
            exact rI S hr hlk hs dX4_proving_75
        · have hs := hs.trans (cif_f c4)
          by_cases c7 : p1.toInt = 2
          · have hs := hs.trans (cif_t c7)
            refine lv_tableIn (tgt := 76) (off := 50) S.1 S.2.1 dX4_proving_26 (by show ¬ p1.toInt < (0 : Int); omega) (by show ¬ (2 : Int) < p1.toInt; omega) (by rw [c7]; rfl) (by decide) ?_
            refine lv_aload_n S.1 S.2.1 dX4_proving_76 rfl (lv_at hl 0 rfl) ?_
            refine gf_RX4_24 S hK hX dX4_proving_77 ?_
            refine gf_RX4_124 S hK hX (v := d.1 2 0 1) rfl dX4_proving_80 ?_
            exact rI S hr hlk hs dX4_proving_83
          · have hs := hs.trans (cif_f c7)
            refine lv_tableOut (tgt := 84) S.1 S.2.1 dX4_proving_26 (by show p1.toInt < (0 : Int) ∨ (2 : Int) < p1.toInt; omega) (by decide) ?_
            refine lv_aload_n S.1 S.2.1 dX4_proving_84 rfl (lv_at hl 0 rfl) ?_
            refine gf_RX4_24 S hK hX dX4_proving_85 ?_
            refine gf_RX4_127 S hK hX (v := d.1 2 0 2) rfl dX4_proving_88 ?_
            exact rI S hr hlk hs dX4_proving_91
    · have hs := hs.trans (cif_t c2)
      refine lv_bipush (v := (-3)) S.1 S.2.1 dX4_proving_22 (by decide) ?_
      exact rI S hr hlk hs dX4_proving_24
  · have hs := hs.trans (cif_f c1)
    refine lv_bipush (v := (-2)) S.1 S.2.1 dX4_proving_9 (by decide) ?_
    exact rI S hr hlk hs dX4_proving_11
set_option maxRecDepth 100000 in
set_option maxHeartbeats 8000000 in
theorem c_X4_accept (l : Launch) (D : va_G) (G : Gc) (M T : Nat) (ad : Nat → Nat → Nat) (d : Dt) (p1 : Int32) (hI : XI M T d) : Met l yX4_accept (wsU yX4_accept cX4_accept 5 (some .int)) ({ frames := 2, cells := 0, slots := 0, locals := 49 } : Room) (va_Pc [.ref (ad 0 0), .int p1] (XPre D (tysG G) (XF G M T ad) (XN M T) ad d)) (qW (some (.int (sp_X4_accept d p1).1)) D (XF G M T ad) (XN M T) ad (sp_X4_accept d p1).2) 0 0 (adS (XN M T) ad) := by
  refine ent (by decide +kernel) (Nat.le_of_ble_eq_true rfl) ?_
  intro p e s m below meth c S hr hlk hpre ls hl
  have S : CallFix p m c cX4_accept 5 s [.ref (ad 0 0), .int p1].toArray wsL_law RX4 := S
  obtain ⟨hK, hN, hX⟩ := hpre
  have hl : lv_has ls 5 [(0, .ref (ad 0 0)), (1, .int p1)] := hl
  have hs := sp_X4_accept.eq_1 d p1
  have hS : va_S (adS (XN M T) ad) s.heap s.heap [] := va_S.rf
  have q1 := hI.1
  have q2 := hI.2.1
  have q3 := hI.2.2.1
  have q4 := hI.2.2.2.1
  have q5 := hI.rc
  refine lv_iload_n S.1 S.2.1 dX4_accept_0 rfl (lv_at hl 1 rfl) ?_
  refine cPS (rest := []) S (c_X4_isDay l p1) gS_RX4_68 ds_X4_isDay.2 ⟨rfl, rfl⟩ ⟨Nat.le_of_ble_eq_true rfl, Nat.le_of_ble_eq_true rfl⟩ rfl hl.1 rfl (Nat.le_of_ble_eq_true rfl) ⟨Nat.le_of_ble_eq_true rfl, Nat.le_of_ble_eq_true rfl⟩ dX4_accept_1 ?_
  refine q_if_ne_b (tgt := 10) S dX4_accept_4 (by decide) (fun c1 => ?_) (fun c1 => ?_)
  · have hs := hs.trans (cif_t c1)
    refine lv_aload_n S.1 S.2.1 dX4_accept_10 rfl (lv_at hl 0 rfl) ?_
    refine gf_RX4_24 S hK hX dX4_accept_11 ?_
    refine gf_RX4_108 S hK hX (v := d.1 2 0 0) rfl dX4_accept_14 ?_
    refine q_if_eq (tgt := 30) (xi := (d.1 2 0 0).toInt) S rfl dX4_accept_17 (by decide) (fun c2 => ?_) (fun c2 => ?_)
    · have hs := hs.trans (cif_t c2)
      refine lv_bipush (v := (-3)) S.1 S.2.1 dX4_accept_30 (by decide) ?_
      exact wI S hr hlk hs hX hS dX4_accept_32
    · have hs := hs.trans (cif_f c2)
      refine lv_aload_n S.1 S.2.1 dX4_accept_20 rfl (lv_at hl 0 rfl) ?_
      refine gf_RX4_24 S hK hX dX4_accept_21 ?_
      refine cPV (rest := []) S (c_X1_isGood l D G M T ad d (by omega) (by omega)) gV_RX4_121 ds_X1_isGood ⟨rfl, rfl⟩ ⟨Nat.le_of_ble_eq_true rfl, Nat.le_of_ble_eq_true rfl⟩ ⟨blindX, recvX hK hX (k := 2) (i := 0) Nat.zero_lt_one rfl rfl, preX hK hN hX _⟩ rfl hl.1 rfl (Nat.le_of_ble_eq_true rfl) ⟨Nat.le_of_ble_eq_true rfl, Nat.le_of_ble_eq_true rfl⟩ dX4_accept_24 ?_
      refine q_if_ne_b (tgt := 33) S dX4_accept_27 (by decide) (fun c3 => ?_) (fun c3 => ?_)
      · have hs := hs.trans (cif_t c3)
        have f4 := gd_of c3
        have q6 := hI.pm (by assumption)
        refine lv_aload_n S.1 S.2.1 dX4_accept_33 rfl (lv_at hl 0 rfl) ?_
        refine gf_RX4_13 S hK hX dX4_accept_34 ?_
        refine lv_aload_n S.1 S.2.1 dX4_accept_37 rfl (lv_at hl 0 rfl) ?_
        refine gf_RX4_24 S hK hX dX4_accept_38 ?_
        refine gf_RX4_124 S hK hX (v := d.1 2 0 1) rfl dX4_accept_41 ?_
        have hx5 : ix (d.1 2 0 1) < M := ix_lt (by omega) (by omega)
        refine al_X1 S hK hX (by omega) (by omega) hx5 dX4_accept_44 ?_
        have f5 := hI.fc hx5
        refine lv_astore_n (lv' := [(2, .ref (ad 8 (ix (d.1 2 0 1)))), (0, .ref (ad 0 0)), (1, .int p1)]) S.1 S.2.1 dX4_accept_45 rfl hl (by decide) rfl (fun ls hl => ?_)
        refine lv_aload_n S.1 S.2.1 dX4_accept_46 rfl (lv_at hl 1 rfl) ?_
        refine gf_RX4_24 S hK hX dX4_accept_47 ?_
        refine lv_aload_n S.1 S.2.1 dX4_accept_50 rfl (lv_at hl 0 rfl) ?_
        refine gf_RX4_130 S hK hX hx5 (v := d.1 8 (ix (d.1 2 0 1)) 0) rfl dX4_accept_51 ?_
        refine cPV (rest := []) S (c_X1_factorOf l D G M T ad d (d.1 8 (ix (d.1 2 0 1)) 0) (by omega) (by omega)) gV_RX4_133 ds_X1_factorOf ⟨rfl, rfl⟩ ⟨Nat.le_of_ble_eq_true rfl, Nat.le_of_ble_eq_true rfl⟩ ⟨blindX, recvX hK hX (k := 2) (i := 0) Nat.zero_lt_one rfl rfl, preX hK hN hX _⟩ rfl hl.1 rfl (Nat.le_of_ble_eq_true rfl) ⟨Nat.le_of_ble_eq_true rfl, Nat.le_of_ble_eq_true rfl⟩ dX4_accept_54 ?_
        refine lv_lstore_n (lv' := [(3, .long (sp_X1_factorOf d (d.1 8 (ix (d.1 2 0 1)) 0))), (2, .ref (ad 8 (ix (d.1 2 0 1)))), (0, .ref (ad 0 0)), (1, .int p1)]) S.1 S.2.1 dX4_accept_57 rfl hl (by decide) rfl (fun ls hl => ?_)
        refine lv_lload_n S.1 S.2.1 dX4_accept_58 rfl (lv_at hl 0 rfl) ?_
        refine lv_ldc2 S.1 S.2.1 S.2.2.2.1 (S.2.2.2.2 _ wKL_RX4_137) dX4_accept_59 ?_
        refine q_lcmp_lt (tgt := 74) (xi := (sp_X1_factorOf d (d.1 8 (ix (d.1 2 0 1)) 0)).toInt) (yi := 95000) S rfl rfl dX4_accept_62 dX4_accept_63 (by decide) (fun c6 => ?_) (fun c6 => ?_)
        · have hs := hs.trans (cif_t c6)
          refine lv_bipush (v := (-9)) S.1 S.2.1 dX4_accept_74 (by decide) ?_
          exact wI S hr hlk hs hX hS dX4_accept_76
        · have hs := hs.trans (cif_f c6)
          refine lv_lload_n S.1 S.2.1 dX4_accept_66 rfl (lv_at hl 0 rfl) ?_
          refine lv_ldc2 S.1 S.2.1 S.2.2.2.1 (S.2.2.2.2 _ wKL_RX4_139) dX4_accept_67 ?_
          refine q_lcmp_le (tgt := 77) (xi := (sp_X1_factorOf d (d.1 8 (ix (d.1 2 0 1)) 0)).toInt) (yi := 105000) S rfl rfl dX4_accept_70 dX4_accept_71 (by decide) (fun c7 => ?_) (fun c7 => ?_)
          · have hs := hs.trans (cif_t c7)
            refine lv_aload_n S.1 S.2.1 dX4_accept_77 rfl (lv_at hl 1 rfl) ?_
            refine cPV (rest := []) S (c_X0_isFull l D G M T ad d (ix (d.1 2 0 1)) hx5) gV_RX4_73 ds_X0_isFull ⟨rfl, rfl⟩ ⟨Nat.le_of_ble_eq_true rfl, Nat.le_of_ble_eq_true rfl⟩ ⟨blindX, recvX hK hX (k := 8) (i := ix (d.1 2 0 1)) hx5 rfl rfl, preX hK hN hX _⟩ rfl hl.1 rfl (Nat.le_of_ble_eq_true rfl) ⟨Nat.le_of_ble_eq_true rfl, Nat.le_of_ble_eq_true rfl⟩ dX4_accept_78 ?_
            refine q_if_eq_b (tgt := 87) S dX4_accept_81 (by decide) (fun c8 => ?_) (fun c8 => ?_)
            · have hs := hs.trans (cif_f c8)
              have f9 := nf_of c8
              refine lv_aload_n S.1 S.2.1 dX4_accept_87 rfl (lv_at hl 1 rfl) ?_
              refine lv_aload_n S.1 S.2.1 dX4_accept_88 rfl (lv_at hl 2 rfl) ?_
              refine gf_RX4_24 S hK hX dX4_accept_89 ?_
              refine gf_RX4_127 S hK hX (v := d.1 2 0 2) rfl dX4_accept_92 ?_
              refine lv_iload_n S.1 S.2.1 dX4_accept_95 rfl (lv_at hl 3 rfl) ?_
              refine lv_lload_n S.1 S.2.1 dX4_accept_96 rfl (lv_at hl 0 rfl) ?_
              refine lv_l2i S.1 S.2.1 dX4_accept_97 rfl ?_
              refine cWV (rest := []) S (c_X0_takeFactor l D G M T ad d (ix (d.1 2 0 1)) (d.1 2 0 2) p1 ((sp_X1_factorOf d (d.1 8 (ix (d.1 2 0 1)) 0)).toInt32) hx5 (by omega) (by omega)) gV_RX4_77 ds_X0_takeFactor ⟨rfl, rfl⟩ ⟨Nat.le_of_ble_eq_true rfl, Nat.le_of_ble_eq_true rfl⟩ ⟨blindX, recvX hK hX (k := 8) (i := ix (d.1 2 0 1)) hx5 rfl rfl, preX hK hN hX _⟩ rfl hl.1 rfl (Nat.le_of_ble_eq_true rfl) ⟨Nat.le_of_ble_eq_true rfl, Nat.le_of_ble_eq_true rfl⟩ dX4_accept_98 hS (fun _ h => h) (fun H locs hX hS hfr => ?_)
              refine lv_aload_n S.1 S.2.1 dX4_accept_101 rfl (lv_at hl 2 rfl) ?_
              refine gf_RX4_24 S hK hX dX4_accept_102 ?_
              refine lv_iconst (v := 0) S.1 S.2.1 dX4_accept_105 (by decide) ?_
              refine pf_RX4_108 S hK hX hS rfl rfl dX4_accept_106 (fun H locs hX hS => ?_)
              refine lv_lload_n S.1 S.2.1 dX4_accept_109 rfl (lv_at hl 0 rfl) ?_
              refine lv_l2i S.1 S.2.1 dX4_accept_110 rfl ?_
              exact wI S hr hlk hs hX hS dX4_accept_111
            · have hs := hs.trans (cif_t c8)
              refine lv_bipush (v := (-4)) S.1 S.2.1 dX4_accept_84 (by decide) ?_
              exact wI S hr hlk hs hX hS dX4_accept_86
          · have hs := hs.trans (cif_f c7)
            refine lv_bipush (v := (-9)) S.1 S.2.1 dX4_accept_74 (by decide) ?_
            exact wI S hr hlk hs hX hS dX4_accept_76
      · have hs := hs.trans (cif_f c3)
        refine lv_bipush (v := (-3)) S.1 S.2.1 dX4_accept_30 (by decide) ?_
        exact wI S hr hlk hs hX hS dX4_accept_32
  · have hs := hs.trans (cif_f c1)
    refine lv_bipush (v := (-2)) S.1 S.2.1 dX4_accept_7 (by decide) ?_
    exact wI S hr hlk hs hX hS dX4_accept_9
set_option maxRecDepth 100000 in
set_option maxHeartbeats 8000000 in
theorem c_X4_factorNow (l : Launch) (D : va_G) (G : Gc) (M T : Nat) (ad : Nat → Nat → Nat) (d : Dt) (t1 : Nat) (ht1 : t1 < T) (hI : XI M T d) : Met l yX4_factorNow (wsU yX4_factorNow cX4_factorNow 2 (some .int)) ({ frames := 2, cells := 0, slots := 0, locals := 49 } : Room) (va_Pc [.ref (ad 0 0), .ref (ad 13 t1)] (XPre D (tysG G) (XF G M T ad) (XN M T) ad d)) (qV (some (.int (sp_X4_factorNow d t1)))) 0 0 (fun _ => False) := by
  refine ent (by decide +kernel) (Nat.le_of_ble_eq_true rfl) ?_
  intro p e s m below meth c S hr hlk hpre ls hl
  have S : CallFix p m c cX4_factorNow 2 s [.ref (ad 0 0), .ref (ad 13 t1)].toArray wsL_law RX4 := S
  obtain ⟨hK, hN, hX⟩ := hpre
  have hl : lv_has ls 2 [(0, .ref (ad 0 0)), (1, .ref (ad 13 t1))] := hl
  have hs := sp_X4_factorNow.eq_1 d t1
  have q1 := hI.1
  have q2 := hI.2.1
  have q3 := hI.2.2.1
  have q4 := hI.2.2.2.1
  have q5 := hI.rc
  refine lv_aload_n S.1 S.2.1 dX4_factorNow_0 rfl (lv_at hl 0 rfl) ?_
  refine gf_RX4_13 S hK hX dX4_factorNow_1 ?_
  refine lv_aload_n S.1 S.2.1 dX4_factorNow_4 rfl (lv_at hl 1 rfl) ?_
  refine gf_RX4_178 S hK hX ht1 (v := d.1 13 t1 0) rfl dX4_factorNow_5 ?_
  have f1 := hI.tm ht1
  have hx2 : ix (d.1 13 t1 0) < M := ix_lt (by omega) (by omega)
  refine al_X1 S hK hX (by omega) (by omega) hx2 dX4_factorNow_8 ?_
  have f2 := hI.fc hx2
  refine lv_aload_n S.1 S.2.1 dX4_factorNow_9 rfl (lv_at hl 1 rfl) ?_
  refine gf_RX4_179 S hK hX ht1 (v := d.1 13 t1 3) rfl dX4_factorNow_10 ?_
  refine lv_aload_n S.1 S.2.1 dX4_factorNow_13 rfl (lv_at hl 1 rfl) ?_
  refine gf_RX4_158 S hK hX ht1 (v := d.1 13 t1 1) rfl dX4_factorNow_14 ?_
  refine cPV (rest := []) S (c_X0_factorAt l D G M T ad d (ix (d.1 13 t1 0)) (d.1 13 t1 3) (d.1 13 t1 1) hx2 (by omega) (by omega)) gV_RX4_84 ds_X0_factorAt ⟨rfl, rfl⟩ ⟨Nat.le_of_ble_eq_true rfl, Nat.le_of_ble_eq_true rfl⟩ ⟨blindX, recvX hK hX (k := 8) (i := ix (d.1 13 t1 0)) hx2 rfl rfl, preX hK hN hX _⟩ rfl hl.1 rfl (Nat.le_of_ble_eq_true rfl) ⟨Nat.le_of_ble_eq_true rfl, Nat.le_of_ble_eq_true rfl⟩ dX4_factorNow_17 ?_
  exact rI S hr hlk hs dX4_factorNow_20
set_option maxRecDepth 100000 in
set_option maxHeartbeats 8000000 in
theorem c_X4_isToRemake (l : Launch) (D : va_G) (G : Gc) (M T : Nat) (ad : Nat → Nat → Nat) (d : Dt) (t1 : Nat) (p2 : Int32) (p3 : Int32) (p4 : Int32) (ht1 : t1 < T) (hI : XI M T d) : Met l yX4_isToRemake (wsU yX4_isToRemake cX4_isToRemake 5 (some .boolean)) ({ frames := 3, cells := 0, slots := 0, locals := 70 } : Room) (va_Pc [.ref (ad 0 0), .ref (ad 13 t1), .int p2, .int p3, .int p4] (XPre D (tysG G) (XF G M T ad) (XN M T) ad d)) (qV (some (.int (b2i (sp_X4_isToRemake d t1 p2 p3 p4))))) 0 0 (fun _ => False) := by
  refine ent (by decide +kernel) (Nat.le_of_ble_eq_true rfl) ?_
  intro p e s m below meth c S hr hlk hpre ls hl
  have S : CallFix p m c cX4_isToRemake 5 s [.ref (ad 0 0), .ref (ad 13 t1), .int p2, .int p3, .int p4].toArray wsL_law RX4 := S
  obtain ⟨hK, hN, hX⟩ := hpre
  have hl : lv_has ls 5 [(0, .ref (ad 0 0)), (1, .ref (ad 13 t1)), (2, .int p2), (3, .int p3), (4, .int p4)] := hl
  have hs := sp_X4_isToRemake.eq_1 d t1 p2 p3 p4
  have q1 := hI.1
  have q2 := hI.2.1
  have q3 := hI.2.2.1
  have q4 := hI.2.2.2.1
  have q5 := hI.rc
  refine lv_aload_n S.1 S.2.1 dX4_isToRemake_0 rfl (lv_at hl 1 rfl) ?_
  refine lv_iload_n S.1 S.2.1 dX4_isToRemake_1 rfl (lv_at hl 2 rfl) ?_
  refine lv_iload_n S.1 S.2.1 dX4_isToRemake_2 rfl (lv_at hl 3 rfl) ?_
  refine lv_iload S.1 S.2.1 dX4_isToRemake_3 (lv_at hl 4 rfl) ?_
  refine cPV (rest := []) S (c_X3_counts l D G M T ad d t1 p2 p3 p4 ht1) gV_RX4_290 ds_X3_counts ⟨rfl, rfl⟩ ⟨Nat.le_of_ble_eq_true rfl, Nat.le_of_ble_eq_true rfl⟩ ⟨blindX, recvX hK hX (k := 13) (i := t1) ht1 rfl rfl, preX hK hN hX _⟩ rfl hl.1 rfl (Nat.le_of_ble_eq_true rfl) ⟨Nat.le_of_ble_eq_true rfl, Nat.le_of_ble_eq_true rfl⟩ dX4_isToRemake_5 ?_
  refine q_if_eq_b (tgt := 27) S dX4_isToRemake_8 (by decide) (fun c1 => ?_) (fun c1 => ?_)
  · have hs := hs.trans (cif_f c1)
    refine lv_iconst (v := 0) S.1 S.2.1 dX4_isToRemake_27 (by decide) ?_
    exact rZ S hr hlk hs b2i_F.symm dX4_isToRemake_28
  · have hs := hs.trans (cif_t c1)
    refine lv_aload_n S.1 S.2.1 dX4_isToRemake_11 rfl (lv_at hl 1 rfl) ?_
    refine gf_RX4_180 S hK hX ht1 (v := d.1 13 t1 4) rfl dX4_isToRemake_12 ?_
    refine lv_aload_n S.1 S.2.1 dX4_isToRemake_15 rfl (lv_at hl 0 rfl) ?_
    refine lv_aload_n S.1 S.2.1 dX4_isToRemake_16 rfl (lv_at hl 1 rfl) ?_
    refine cPV (rest := [.int (d.1 13 t1 4)]) S (c_X4_factorNow l D G M T ad d t1 ht1 hI) gV_RX4_287 ds_X4_factorNow ⟨rfl, rfl⟩ ⟨Nat.le_of_ble_eq_true rfl, Nat.le_of_ble_eq_true rfl⟩ ⟨blindX, recvX hK hX (k := 0) (i := 0) Nat.zero_lt_one rfl rfl, preX hK hN hX _⟩ rfl hl.1 rfl (Nat.le_of_ble_eq_true rfl) ⟨Nat.le_of_ble_eq_true rfl, Nat.le_of_ble_eq_true rfl⟩ dX4_isToRemake_17 ?_
    refine q_icmp_eq (tgt := 27) (xi := (d.1 13 t1 4).toInt) (yi := (sp_X4_factorNow d t1).toInt) S rfl rfl dX4_isToRemake_20 (by decide) (fun c2 => ?_) (fun c2 => ?_)
    · have hs := hs.trans (cif_t c2)
      refine lv_iconst (v := 0) S.1 S.2.1 dX4_isToRemake_27 (by decide) ?_
      exact rZ S hr hlk hs b2i_F.symm dX4_isToRemake_28
    · have hs := hs.trans (cif_f c2)
      refine lv_iconst (v := 1) S.1 S.2.1 dX4_isToRemake_23 (by decide) ?_
      refine lv_goto (tgt := 28) S.1 S.2.1 dX4_isToRemake_24 (by decide) ?_
      exact rZ S hr hlk hs b2i_T.symm dX4_isToRemake_28
set_option maxRecDepth 100000 in
set_option maxHeartbeats 8000000 in
theorem c_X4_ticketed (l : Launch) (D : va_G) (G : Gc) (M T : Nat) (ad : Nat → Nat → Nat) (d : Dt) (p1 : Int32) (p2 : Int32) (hI : XI M T d) : Met l yX4_ticketed (wsU yX4_ticketed cX4_ticketed 4 (some .int)) ({ frames := 2, cells := 0, slots := 0, locals := 43 } : Room) (va_Pc [.ref (ad 0 0), .int p1, .int p2] (XPre D (tysG G) (XF G M T ad) (XN M T) ad d)) (qV (some (.int (sp_X4_ticketed d p1 p2)))) 0 0 (fun _ => False) := by
  refine ent (by decide +kernel) (Nat.le_of_ble_eq_true rfl) ?_
  intro p e s m below meth c S hr hlk hpre ls hl
  have S : CallFix p m c cX4_ticketed 4 s [.ref (ad 0 0), .int p1, .int p2].toArray wsL_law RX4 := S
  obtain ⟨hK, hN, hX⟩ := hpre
  have hl : lv_has ls 4 [(0, .ref (ad 0 0)), (1, .int p1), (2, .int p2)] := hl
  have hs := sp_X4_ticketed.eq_1 d p1 p2
  have q1 := hI.1
  have q2 := hI.2.1
  have q3 := hI.2.2.1
  have q4 := hI.2.2.2.1
  have q5 := hI.rc
  refine lv_aload_n S.1 S.2.1 dX4_ticketed_0 rfl (lv_at hl 0 rfl) ?_
  refine lv_iload_n S.1 S.2.1 dX4_ticketed_1 rfl (lv_at hl 1 rfl) ?_
  refine cPV (rest := []) S (c_X4_isTicket l D G M T ad d p1) gV_RX4_152 ds_X4_isTicket ⟨rfl, rfl⟩ ⟨Nat.le_of_ble_eq_true rfl, Nat.le_of_ble_eq_true rfl⟩ ⟨blindX, recvX hK hX (k := 0) (i := 0) Nat.zero_lt_one rfl rfl, preX hK hN hX _⟩ rfl hl.1 rfl (Nat.le_of_ble_eq_true rfl) ⟨Nat.le_of_ble_eq_true rfl, Nat.le_of_ble_eq_true rfl⟩ dX4_ticketed_2 ?_
  refine q_if_ne_b (tgt := 10) S dX4_ticketed_5 (by decide) (fun c1 => ?_) (fun c1 => ?_)
  · have hs := hs.trans (cif_t c1)
    have f2 := it_of hI c1
    refine lv_aload_n S.1 S.2.1 dX4_ticketed_10 rfl (lv_at hl 0 rfl) ?_
    refine gf_RX4_30 S hK hX dX4_ticketed_11 ?_
    refine lv_iload_n S.1 S.2.1 dX4_ticketed_14 rfl (lv_at hl 1 rfl) ?_
    have hx3 : ix p1 < T := ix_lt (by omega) (by omega)
    refine al_X4 S hK hX (by omega) (by omega) hx3 dX4_ticketed_15 ?_
    refine lv_astore_n (lv' := [(3, .ref (ad 13 (ix p1))), (0, .ref (ad 0 0)), (1, .int p1), (2, .int p2)]) S.1 S.2.1 dX4_ticketed_16 rfl hl (by decide) rfl (fun ls hl => ?_)
    refine lv_iload_n S.1 S.2.1 dX4_ticketed_17 rfl (lv_at hl 3 rfl) ?_
    by_cases c4 : p2.toInt = 0
    · have hs := hs.trans (cif_t c4)
      refine lv_tableIn (tgt := 64) (off := 46) S.1 S.2.1 dX4_ticketed_18 (by show ¬ p2.toInt < (0 : Int); omega) (by show ¬ (7 : Int) < p2.toInt; omega) (by rw [c4]; rfl) (by decide) ?_
      refine lv_aload_n S.1 S.2.1 dX4_ticketed_64 rfl (lv_at hl 0 rfl) ?_
      refine gf_RX4_175 S hK hX hx3 (v := d.1 13 (ix p1) 5) rfl dX4_ticketed_65 ?_
      exact rI S hr hlk hs dX4_ticketed_68
    · have hs := hs.trans (cif_f c4)
      by_cases c5 : p2.toInt = 1
      · have hs := hs.trans (cif_t c5)
        refine lv_tableIn (tgt := 69) (off := 51) S.1 S.2.1 dX4_ticketed_18 (by show ¬ p2.toInt < (0 : Int); omega) (by show ¬ (7 : Int) < p2.toInt; omega) (by rw [c5]; rfl) (by decide) ?_
        refine lv_aload_n S.1 S.2.1 dX4_ticketed_69 rfl (lv_at hl 0 rfl) ?_
        refine gf_RX4_178 S hK hX hx3 (v := d.1 13 (ix p1) 0) rfl dX4_ticketed_70 ?_
        have f6 := hI.tm hx3
        exact rI S hr hlk hs dX4_ticketed_73
      · have hs := hs.trans (cif_f c5)
        by_cases c7 : p2.toInt = 2
        · have hs := hs.trans (cif_t c7)
          refine lv_tableIn (tgt := 74) (off := 56) S.1 S.2.1 dX4_ticketed_18 (by show ¬ p2.toInt < (0 : Int); omega) (by show ¬ (7 : Int) < p2.toInt; omega) (by rw [c7]; rfl) (by decide) ?_
          refine lv_aload_n S.1 S.2.1 dX4_ticketed_74 rfl (lv_at hl 0 rfl) ?_
          refine gf_RX4_158 S hK hX hx3 (v := d.1 13 (ix p1) 1) rfl dX4_ticketed_75 ?_
          exact rI S hr hlk hs dX4_ticketed_78
        · have hs := hs.trans (cif_f c7)
          by_cases c8 : p2.toInt = 3
          · have hs := hs.trans (cif_t c8)
            refine lv_tableIn (tgt := 79) (off := 61) S.1 S.2.1 dX4_ticketed_18 (by show ¬ p2.toInt < (0 : Int); omega) (by show ¬ (7 : Int) < p2.toInt; omega) (by rw [c8]; rfl) (by decide) ?_
            refine lv_aload_n S.1 S.2.1 dX4_ticketed_79 rfl (lv_at hl 0 rfl) ?_
            refine gf_RX4_172 S hK hX hx3 (v := d.1 13 (ix p1) 2) rfl dX4_ticketed_80 ?_
            exact rI S hr hlk hs dX4_ticketed_83
          · have hs := hs.trans (cif_f c8)
            by_cases c9 : p2.toInt = 4
            · have hs := hs.trans (cif_t c9)
              refine lv_tableIn (tgt := 84) (off := 66) S.1 S.2.1 dX4_ticketed_18 (by show ¬ p2.toInt < (0 : Int); omega) (by show ¬ (7 : Int) < p2.toInt; omega) (by rw [c9]; rfl) (by decide) ?_
              refine lv_aload_n S.1 S.2.1 dX4_ticketed_84 rfl (lv_at hl 0 rfl) ?_
              refine gf_RX4_179 S hK hX hx3 (v := d.1 13 (ix p1) 3) rfl dX4_ticketed_85 ?_
              exact rI S hr hlk hs dX4_ticketed_88
            · have hs := hs.trans (cif_f c9)
              by_cases c10 : p2.toInt = 5
              · have hs := hs.trans (cif_t c10)
                refine lv_tableIn (tgt := 89) (off := 71) S.1 S.2.1 dX4_ticketed_18 (by show ¬ p2.toInt < (0 : Int); omega) (by show ¬ (7 : Int) < p2.toInt; omega) (by rw [c10]; rfl) (by decide) ?_
                refine lv_aload_n S.1 S.2.1 dX4_ticketed_89 rfl (lv_at hl 0 rfl) ?_
                refine gf_RX4_180 S hK hX hx3 (v := d.1 13 (ix p1) 4) rfl dX4_ticketed_90 ?_
                exact rI S hr hlk hs dX4_ticketed_93
              · have hs := hs.trans (cif_f c10)
                by_cases c11 : p2.toInt = 6
                · have hs := hs.trans (cif_t c11)
                  refine lv_tableIn (tgt := 94) (off := 76) S.1 S.2.1 dX4_ticketed_18 (by show ¬ p2.toInt < (0 : Int); omega) (by show ¬ (7 : Int) < p2.toInt; omega) (by rw [c11]; rfl) (by decide) ?_
                  refine lv_aload_n S.1 S.2.1 dX4_ticketed_94 rfl (lv_at hl 0 rfl) ?_
                  refine gf_RX4_183 S hK hX hx3 (v := d.1 13 (ix p1) 6) rfl dX4_ticketed_95 ?_
                  exact rI S hr hlk hs dX4_ticketed_98
                · have hs := hs.trans (cif_f c11)
                  by_cases c12 : p2.toInt = 7
                  · have hs := hs.trans (cif_t c12)
                    refine lv_tableIn (tgt := 99) (off := 81) S.1 S.2.1 dX4_ticketed_18 (by show ¬ p2.toInt < (0 : Int); omega) (by show ¬ (7 : Int) < p2.toInt; omega) (by rw [c12]; rfl) (by decide) ?_
                    refine lv_aload_n S.1 S.2.1 dX4_ticketed_99 rfl (lv_at hl 0 rfl) ?_
                    refine gf_RX4_186 S hK hX hx3 (v := d.1 13 (ix p1) 7) rfl dX4_ticketed_100 ?_
                    exact rI S hr hlk hs dX4_ticketed_103
                  · have hs := hs.trans (cif_f c12)
                    refine lv_tableOut (tgt := 104) S.1 S.2.1 dX4_ticketed_18 (by show p2.toInt < (0 : Int) ∨ (7 : Int) < p2.toInt; omega) (by decide) ?_
                    refine lv_bipush (v := (-2)) S.1 S.2.1 dX4_ticketed_104 (by decide) ?_
                    exact rI S hr hlk hs dX4_ticketed_106
  · have hs := hs.trans (cif_f c1)
    refine lv_iconst (v := (-1)) S.1 S.2.1 dX4_ticketed_8 (by decide) ?_
    exact rI S hr hlk hs dX4_ticketed_9
set_option maxRecDepth 100000 in
set_option maxHeartbeats 8000000 in
theorem c_X4_volumeOf (l : Launch) (D : va_G) (G : Gc) (M T : Nat) (ad : Nat → Nat → Nat) (d : Dt) (t1 : Nat) (ht1 : t1 < T) (hI : XI M T d) : Met l yX4_volumeOf (wsU yX4_volumeOf cX4_volumeOf 2 (some .long)) ({ frames := 1, cells := 0, slots := 0, locals := 23 } : Room) (va_Pc [.ref (ad 0 0), .ref (ad 13 t1)] (XPre D (tysG G) (XF G M T ad) (XN M T) ad d)) (qV (some (.long (sp_X4_volumeOf d t1)))) 0 0 (fun _ => False) := by
  refine ent (by decide +kernel) (Nat.le_of_ble_eq_true rfl) ?_
  intro p e s m below meth c S hr hlk hpre ls hl
  have S : CallFix p m c cX4_volumeOf 2 s [.ref (ad 0 0), .ref (ad 13 t1)].toArray wsL_law RX4 := S
  obtain ⟨hK, hN, hX⟩ := hpre
  have hl : lv_has ls 2 [(0, .ref (ad 0 0)), (1, .ref (ad 13 t1))] := hl
  have hs := sp_X4_volumeOf.eq_1 d t1
  have q1 := hI.1
  have q2 := hI.2.1
  have q3 := hI.2.2.1
  have q4 := hI.2.2.2.1
  have q5 := hI.rc
  refine lv_ldc2 S.1 S.2.1 S.2.2.2.1 (S.2.2.2.2 _ wKL_RX4_292) dX4_volumeOf_0 ?_
  refine lv_aload_n S.1 S.2.1 dX4_volumeOf_3 rfl (lv_at hl 1 rfl) ?_
  refine gf_RX4_172 S hK hX ht1 (v := d.1 13 t1 2) rfl dX4_volumeOf_4 ?_
  refine lv_i2l S.1 S.2.1 dX4_volumeOf_7 rfl ?_
  refine lv_lmul S.1 S.2.1 dX4_volumeOf_8 ?_
  refine lv_aload_n S.1 S.2.1 dX4_volumeOf_9 rfl (lv_at hl 1 rfl) ?_
  refine gf_RX4_180 S hK hX ht1 (v := d.1 13 t1 4) rfl dX4_volumeOf_10 ?_
  refine lv_i2l S.1 S.2.1 dX4_volumeOf_13 rfl ?_
  refine lv_lmul S.1 S.2.1 dX4_volumeOf_14 ?_
  refine lv_aload_n S.1 S.2.1 dX4_volumeOf_15 rfl (lv_at hl 0 rfl) ?_
  refine gf_RX4_13 S hK hX dX4_volumeOf_16 ?_
  refine lv_aload_n S.1 S.2.1 dX4_volumeOf_19 rfl (lv_at hl 1 rfl) ?_
  refine gf_RX4_178 S hK hX ht1 (v := d.1 13 t1 0) rfl dX4_volumeOf_20 ?_
  have f1 := hI.tm ht1
  have hx2 : ix (d.1 13 t1 0) < M := ix_lt (by omega) (by omega)
  refine al_X1 S hK hX (by omega) (by omega) hx2 dX4_volumeOf_23 ?_
  have f2 := hI.fc hx2
  refine gf_RX4_130 S hK hX hx2 (v := d.1 8 (ix (d.1 13 t1 0)) 0) rfl dX4_volumeOf_24 ?_
  refine lv_i2l S.1 S.2.1 dX4_volumeOf_27 rfl ?_
  refine cPS (rest := []) S (c_X4_rounded l ((10 * ((d.1 13 t1 2).toInt64)) * ((d.1 13 t1 4).toInt64)) ((d.1 8 (ix (d.1 13 t1 0)) 0).toInt64)) gS_RX4_294 ds_X4_rounded.2 ⟨rfl, rfl⟩ ⟨Nat.le_of_ble_eq_true rfl, Nat.le_of_ble_eq_true rfl⟩ rfl hl.1 rfl (Nat.le_of_ble_eq_true rfl) ⟨Nat.le_of_ble_eq_true rfl, Nat.le_of_ble_eq_true rfl⟩ dX4_volumeOf_28 ?_
  exact rL S hr hlk hs dX4_volumeOf_31
set_option maxRecDepth 100000 in
set_option maxHeartbeats 8000000 in
theorem c_X4_volume (l : Launch) (D : va_G) (G : Gc) (M T : Nat) (ad : Nat → Nat → Nat) (d : Dt) (p1 : Int32) (hI : XI M T d) : Met l yX4_volume (wsU yX4_volume cX4_volume 2 (some .long)) ({ frames := 2, cells := 0, slots := 0, locals := 44 } : Room) (va_Pc [.ref (ad 0 0), .int p1] (XPre D (tysG G) (XF G M T ad) (XN M T) ad d)) (qV (some (.long (sp_X4_volume d p1)))) 0 0 (fun _ => False) := by
  refine ent (by decide +kernel) (Nat.le_of_ble_eq_true rfl) ?_
  intro p e s m below meth c S hr hlk hpre ls hl
  have S : CallFix p m c cX4_volume 2 s [.ref (ad 0 0), .int p1].toArray wsL_law RX4 := S
  obtain ⟨hK, hN, hX⟩ := hpre
  have hl : lv_has ls 2 [(0, .ref (ad 0 0)), (1, .int p1)] := hl
  have hs := sp_X4_volume.eq_1 d p1
  have q1 := hI.1
  have q2 := hI.2.1
  have q3 := hI.2.2.1
  have q4 := hI.2.2.2.1
  have q5 := hI.rc
  refine lv_aload_n S.1 S.2.1 dX4_volume_0 rfl (lv_at hl 0 rfl) ?_
  refine lv_iload_n S.1 S.2.1 dX4_volume_1 rfl (lv_at hl 1 rfl) ?_
  refine cPV (rest := []) S (c_X4_isTicket l D G M T ad d p1) gV_RX4_152 ds_X4_isTicket ⟨rfl, rfl⟩ ⟨Nat.le_of_ble_eq_true rfl, Nat.le_of_ble_eq_true rfl⟩ ⟨blindX, recvX hK hX (k := 0) (i := 0) Nat.zero_lt_one rfl rfl, preX hK hN hX _⟩ rfl hl.1 rfl (Nat.le_of_ble_eq_true rfl) ⟨Nat.le_of_ble_eq_true rfl, Nat.le_of_ble_eq_true rfl⟩ dX4_volume_2 ?_
  refine q_if_eq_b (tgt := 21) S dX4_volume_5 (by decide) (fun c1 => ?_) (fun c1 => ?_)
  · have hs := hs.trans (cif_f c1)
    refine lv_ldc2 S.1 S.2.1 S.2.2.2.1 (S.2.2.2.2 _ wKL_RX4_106) dX4_volume_21 ?_
    exact rL S hr hlk hs dX4_volume_24
  · have hs := hs.trans (cif_t c1)
    have f2 := it_of hI c1
    refine lv_aload_n S.1 S.2.1 dX4_volume_8 rfl (lv_at hl 0 rfl) ?_
    refine lv_aload_n S.1 S.2.1 dX4_volume_9 rfl (lv_at hl 0 rfl) ?_
    refine gf_RX4_30 S hK hX dX4_volume_10 ?_
    refine lv_iload_n S.1 S.2.1 dX4_volume_13 rfl (lv_at hl 1 rfl) ?_
    have hx3 : ix p1 < T := ix_lt (by omega) (by omega)
    refine al_X4 S hK hX (by omega) (by omega) hx3 dX4_volume_14 ?_
    refine cPV (rest := []) S (c_X4_volumeOf l D G M T ad d (ix p1) hx3 hI) gV_RX4_189 ds_X4_volumeOf ⟨rfl, rfl⟩ ⟨Nat.le_of_ble_eq_true rfl, Nat.le_of_ble_eq_true rfl⟩ ⟨blindX, recvX hK hX (k := 0) (i := 0) Nat.zero_lt_one rfl rfl, preX hK hN hX _⟩ rfl hl.1 rfl (Nat.le_of_ble_eq_true rfl) ⟨Nat.le_of_ble_eq_true rfl, Nat.le_of_ble_eq_true rfl⟩ dX4_volume_15 ?_
    refine lv_goto (tgt := 24) S.1 S.2.1 dX4_volume_18 (by decide) ?_
    exact rL S hr hlk hs dX4_volume_24
set_option maxRecDepth 100000 in
set_option maxHeartbeats 8000000 in
theorem c_X4_sumOf (l : Launch) (D : va_G) (G : Gc) (M T : Nat) (ad : Nat → Nat → Nat) (d : Dt) (p1 : Int32) (p2 : Int32) (p3 : Int32) (hI : XI M T d) : Met l yX4_sumOf (wsU yX4_sumOf cX4_sumOf 7 (some .long)) ({ frames := 2, cells := 0, slots := 0, locals := 45 } : Room) (va_Pc [.ref (ad 0 0), .int p1, .int p2, .int p3] (XPre D (tysG G) (XF G M T ad) (XN M T) ad d)) (qV (some (.long (sp_X4_sumOf d p1 p2 p3)))) 0 0 (fun _ => False) := by
  refine ent (by decide +kernel) (Nat.le_of_ble_eq_true rfl) ?_
  intro p e s m below meth c S hr hlk hpre ls hl
  have S : CallFix p m c cX4_sumOf 7 s [.ref (ad 0 0), .int p1, .int p2, .int p3].toArray wsL_law RX4 := S
  obtain ⟨hK, hN, hX⟩ := hpre
  have hl : lv_has ls 7 [(0, .ref (ad 0 0)), (1, .int p1), (2, .int p2), (3, .int p3)] := hl
  have hs := sp_X4_sumOf.eq_1 d p1 p2 p3
  have q1 := hI.1
  have q2 := hI.2.1
  have q3 := hI.2.2.1
  have q4 := hI.2.2.2.1
  have q5 := hI.rc
  refine lv_lconst (v := 0) S.1 S.2.1 dX4_sumOf_0 (by decide) ?_
  refine lv_lstore (lv' := [(4, .long 0), (0, .ref (ad 0 0)), (1, .int p1), (2, .int p2), (3, .int p3)]) S.1 S.2.1 dX4_sumOf_1 hl (by decide) rfl (fun ls hl => ?_)
  refine lv_iconst (v := 0) S.1 S.2.1 dX4_sumOf_3 (by decide) ?_
  refine lv_istore (lv' := [(6, .int 0), (4, .long 0), (0, .ref (ad 0 0)), (1, .int p1), (2, .int p2), (3, .int p3)]) S.1 S.2.1 dX4_sumOf_4 hl (by decide) rfl (fun ls hl => ?_)
  have L6 : ∀ (n : Nat), ∀ (x6 : Int32) (x4 : Int64), (d.1 0 0 4).toInt - x6.toInt < (n : Int) → 0 ≤ x6.toInt → x6.toInt ≤ (d.1 0 0 4).toInt → sp_X4_sumOf d p1 p2 p3 = lp_X4_sumOf_6 d p1 p2 p3 n x6 x4 → ∀ ls : Array Slot, lv_has ls 7 [(6, .int x6), (4, .long x4), (0, .ref (ad 0 0)), (1, .int p1), (2, .int p2), (3, .int p3)] → W p l e ({ frames := 2, cells := 0, slots := 0, locals := 45 } : Room) s m [.ref (ad 0 0), .int p1, .int p2, .int p3].toArray below meth c s.heap [] 0 0 (MQ below (qV (some (.long (sp_X4_sumOf d p1 p2 p3)))) [.ref (ad 0 0), .int p1, .int p2, .int p3].toArray s 0 0 (fun _ => False)) (F0 m 6 ls []) := by
    intro n
    induction n with
    | zero => intro x6 x4 hms v6_0 v6_1 hs ls hl; omega
    | succ n ih6 =>
      intro x6 x4 hms v6_0 v6_1 hs ls hl
      have hs := hs.trans (st_X4_sumOf_6.eq_1 d p1 p2 p3 (lp_X4_sumOf_6 d p1 p2 p3 n) x6 x4)
      refine lv_iload S.1 S.2.1 dX4_sumOf_6 (lv_at hl 0 rfl) ?_
      refine lv_aload_n S.1 S.2.1 dX4_sumOf_8 rfl (lv_at hl 2 rfl) ?_
      refine gf_RX4_34 S hK hX (v := d.1 0 0 4) rfl dX4_sumOf_9 ?_
      refine q_icmp_ge (tgt := 53) (xi := x6.toInt) (yi := (d.1 0 0 4).toInt) S rfl rfl dX4_sumOf_12 (by decide) (fun c1 => ?_) (fun c1 => ?_)
      · have hs := hs.trans (cif_t c1)
        refine lv_lload S.1 S.2.1 dX4_sumOf_53 (lv_at hl 1 rfl) ?_
        exact rL S hr hlk hs dX4_sumOf_55
      · have hs := hs.trans (cif_f c1)
        refine lv_aload_n S.1 S.2.1 dX4_sumOf_15 rfl (lv_at hl 2 rfl) ?_
        refine gf_RX4_30 S hK hX dX4_sumOf_16 ?_
        refine lv_iload S.1 S.2.1 dX4_sumOf_19 (lv_at hl 0 rfl) ?_
        have hx2 : ix x6 < T := ix_lt (by omega) (by omega)
        refine al_X4 S hK hX (by omega) (by omega) hx2 dX4_sumOf_21 ?_
        refine lv_iload_n S.1 S.2.1 dX4_sumOf_22 rfl (lv_at hl 3 rfl) ?_
        refine lv_iload_n S.1 S.2.1 dX4_sumOf_23 rfl (lv_at hl 4 rfl) ?_
        refine lv_iload_n S.1 S.2.1 dX4_sumOf_24 rfl (lv_at hl 5 rfl) ?_
        refine cPV (rest := []) S (c_X3_counts l D G M T ad d (ix x6) p1 p2 p3 hx2) gV_RX4_290 ds_X3_counts ⟨rfl, rfl⟩ ⟨Nat.le_of_ble_eq_true rfl, Nat.le_of_ble_eq_true rfl⟩ ⟨blindX, recvX hK hX (k := 13) (i := ix x6) hx2 rfl rfl, preX hK hN hX _⟩ rfl hl.1 rfl (Nat.le_of_ble_eq_true rfl) ⟨Nat.le_of_ble_eq_true rfl, Nat.le_of_ble_eq_true rfl⟩ dX4_sumOf_25 ?_
        refine q_if_eq_b (tgt := 47) S dX4_sumOf_28 (by decide) (fun c3 => ?_) (fun c3 => ?_)
        · have hs := hs.trans (cif_f c3)
          refine lv_iinc (v := x6 + 1) (lv' := [(6, .int (x6 + 1)), (4, .long x4), (0, .ref (ad 0 0)), (1, .int p1), (2, .int p2), (3, .int p3)]) S.1 S.2.1 dX4_sumOf_47 hl (k := 0) rfl (by rfl) (by decide) rfl (fun ls hl => ?_)
          refine lv_goto (tgt := 6) S.1 S.2.1 dX4_sumOf_50 (by decide) ?_
          have e9 : ((x6 + 1)).toInt = x6.toInt + 1 := ti1 (by omega)
          exact ih6 (x6 + 1) x4 (by omega) (by omega) (by omega) hs _ (lv_sub hl [0, 1, 2, 3, 4, 5] rfl)
        · have hs := hs.trans (cif_t c3)
          refine lv_lload S.1 S.2.1 dX4_sumOf_31 (lv_at hl 1 rfl) ?_
          refine lv_aload_n S.1 S.2.1 dX4_sumOf_33 rfl (lv_at hl 2 rfl) ?_
          refine lv_aload_n S.1 S.2.1 dX4_sumOf_34 rfl (lv_at hl 2 rfl) ?_
          refine gf_RX4_30 S hK hX dX4_sumOf_35 ?_
          refine lv_iload S.1 S.2.1 dX4_sumOf_38 (lv_at hl 0 rfl) ?_
          have hx4 : ix x6 < T := ix_lt (by omega) (by omega)
          refine al_X4 S hK hX (by omega) (by omega) hx4 dX4_sumOf_40 ?_
          refine cPV (rest := [.long x4]) S (c_X4_volumeOf l D G M T ad d (ix x6) hx4 hI) gV_RX4_189 ds_X4_volumeOf ⟨rfl, rfl⟩ ⟨Nat.le_of_ble_eq_true rfl, Nat.le_of_ble_eq_true rfl⟩ ⟨blindX, recvX hK hX (k := 0) (i := 0) Nat.zero_lt_one rfl rfl, preX hK hN hX _⟩ rfl hl.1 rfl (Nat.le_of_ble_eq_true rfl) ⟨Nat.le_of_ble_eq_true rfl, Nat.le_of_ble_eq_true rfl⟩ dX4_sumOf_41 ?_
          refine lv_ladd S.1 S.2.1 dX4_sumOf_44 ?_
          refine lv_lstore (lv' := [(4, .long (x4 + (sp_X4_volumeOf d (ix x6)))), (6, .int x6), (0, .ref (ad 0 0)), (1, .int p1), (2, .int p2), (3, .int p3)]) S.1 S.2.1 dX4_sumOf_45 hl (by decide) rfl (fun ls hl => ?_)
          refine lv_iinc (v := x6 + 1) (lv' := [(6, .int (x6 + 1)), (4, .long (x4 + (sp_X4_volumeOf d (ix x6)))), (0, .ref (ad 0 0)), (1, .int p1), (2, .int p2), (3, .int p3)]) S.1 S.2.1 dX4_sumOf_47 hl (k := 1) rfl (by rfl) (by decide) rfl (fun ls hl => ?_)
          refine lv_goto (tgt := 6) S.1 S.2.1 dX4_sumOf_50 (by decide) ?_
          have e9 : ((x6 + 1)).toInt = x6.toInt + 1 := ti1 (by omega)
          exact ih6 (x6 + 1) (x4 + (sp_X4_volumeOf d (ix x6))) (by omega) (by omega) (by omega) hs _ (lv_sub hl [0, 1, 2, 3, 4, 5] rfl)
  exact L6 64 0 0 (by first | omega | (simp only [Int32.toInt_zero]; omega)) (by first | omega | (simp only [Int32.toInt_zero]; omega)) (by first | omega | (simp only [Int32.toInt_zero]; omega)) hs _ (lv_sub hl [0, 1, 2, 3, 4, 5] rfl)
set_option maxRecDepth 100000 in
set_option maxHeartbeats 8000000 in
theorem c_X4_sum (l : Launch) (D : va_G) (G : Gc) (M T : Nat) (ad : Nat → Nat → Nat) (d : Dt) (p1 : Int32) (p2 : Int32) (p3 : Int32) (hI : XI M T d) : Met l yX4_sum (wsU yX4_sum cX4_sum 4 (some .long)) ({ frames := 3, cells := 0, slots := 0, locals := 71 } : Room) (va_Pc [.ref (ad 0 0), .int p1, .int p2, .int p3] (XPre D (tysG G) (XF G M T ad) (XN M T) ad d)) (qV (some (.long (sp_X4_sum d p1 p2 p3)))) 0 0 (fun _ => False) := by
  refine ent (by decide +kernel) (Nat.le_of_ble_eq_true rfl) ?_
  intro p e s m below meth c S hr hlk hpre ls hl
  have S : CallFix p m c cX4_sum 4 s [.ref (ad 0 0), .int p1, .int p2, .int p3].toArray wsL_law RX4 := S
  obtain ⟨hK, hN, hX⟩ := hpre
  have hl : lv_has ls 4 [(0, .ref (ad 0 0)), (1, .int p1), (2, .int p2), (3, .int p3)] := hl
  have hs := sp_X4_sum.eq_1 d p1 p2 p3
  have q1 := hI.1
  have q2 := hI.2.1
  have q3 := hI.2.2.1
  have q4 := hI.2.2.2.1
  have q5 := hI.rc
  refine lv_aload_n S.1 S.2.1 dX4_sum_0 rfl (lv_at hl 0 rfl) ?_
  refine lv_iload_n S.1 S.2.1 dX4_sum_1 rfl (lv_at hl 1 rfl) ?_
  refine cPV (rest := []) S (c_X4_isMeter l D G M T ad d p1) gV_RX4_61 ds_X4_isMeter ⟨rfl, rfl⟩ ⟨Nat.le_of_ble_eq_true rfl, Nat.le_of_ble_eq_true rfl⟩ ⟨blindX, recvX hK hX (k := 0) (i := 0) Nat.zero_lt_one rfl rfl, preX hK hN hX _⟩ rfl hl.1 rfl (Nat.le_of_ble_eq_true rfl) ⟨Nat.le_of_ble_eq_true rfl, Nat.le_of_ble_eq_true rfl⟩ dX4_sum_2 ?_
  refine q_if_eq_b (tgt := 26) S dX4_sum_5 (by decide) (fun c1 => ?_) (fun c1 => ?_)
  · have hs := hs.trans (cif_f c1)
    refine lv_ldc2 S.1 S.2.1 S.2.2.2.1 (S.2.2.2.2 _ wKL_RX4_106) dX4_sum_26 ?_
    exact rL S hr hlk hs dX4_sum_29
  · have hs := hs.trans (cif_t c1)
    have f2 := im_of hI c1
    refine lv_iload_n S.1 S.2.1 dX4_sum_8 rfl (lv_at hl 2 rfl) ?_
    refine lv_iload_n S.1 S.2.1 dX4_sum_9 rfl (lv_at hl 3 rfl) ?_
    refine cPS (rest := []) S (c_X4_areDays l p2 p3) gS_RX4_164 ds_X4_areDays.2 ⟨rfl, rfl⟩ ⟨Nat.le_of_ble_eq_true rfl, Nat.le_of_ble_eq_true rfl⟩ rfl hl.1 rfl (Nat.le_of_ble_eq_true rfl) ⟨Nat.le_of_ble_eq_true rfl, Nat.le_of_ble_eq_true rfl⟩ dX4_sum_10 ?_
    refine q_if_eq_b (tgt := 26) S dX4_sum_13 (by decide) (fun c3 => ?_) (fun c3 => ?_)
    · have hs := hs.trans (cif_f c3)
      refine lv_ldc2 S.1 S.2.1 S.2.2.2.1 (S.2.2.2.2 _ wKL_RX4_106) dX4_sum_26 ?_
      exact rL S hr hlk hs dX4_sum_29
    · have hs := hs.trans (cif_t c3)
      refine lv_aload_n S.1 S.2.1 dX4_sum_16 rfl (lv_at hl 0 rfl) ?_
      refine lv_iload_n S.1 S.2.1 dX4_sum_17 rfl (lv_at hl 1 rfl) ?_
      refine lv_iload_n S.1 S.2.1 dX4_sum_18 rfl (lv_at hl 2 rfl) ?_
      refine lv_iload_n S.1 S.2.1 dX4_sum_19 rfl (lv_at hl 3 rfl) ?_
      refine cPV (rest := []) S (c_X4_sumOf l D G M T ad d p1 p2 p3 hI) gV_RX4_193 ds_X4_sumOf ⟨rfl, rfl⟩ ⟨Nat.le_of_ble_eq_true rfl, Nat.le_of_ble_eq_true rfl⟩ ⟨blindX, recvX hK hX (k := 0) (i := 0) Nat.zero_lt_one rfl rfl, preX hK hN hX _⟩ rfl hl.1 rfl (Nat.le_of_ble_eq_true rfl) ⟨Nat.le_of_ble_eq_true rfl, Nat.le_of_ble_eq_true rfl⟩ dX4_sum_20 ?_
      refine lv_goto (tgt := 29) S.1 S.2.1 dX4_sum_23 (by decide) ?_
      exact rL S hr hlk hs dX4_sum_29
set_option maxRecDepth 100000 in
set_option maxHeartbeats 8000000 in
theorem c_X4_shut (l : Launch) (D : va_G) (G : Gc) (M T : Nat) (ad : Nat → Nat → Nat) (d : Dt) (p1 : Int32) (hI : XI M T d) : Met l yX4_shut (wsU yX4_shut cX4_shut 3 (some .int)) ({ frames := 2, cells := 0, slots := 0, locals := 42 } : Room) (va_Pc [.ref (ad 0 0), .int p1] (XPre D (tysG G) (XF G M T ad) (XN M T) ad d)) (qW (some (.int (sp_X4_shut d p1).1)) D (XF G M T ad) (XN M T) ad (sp_X4_shut d p1).2) 0 0 (adS (XN M T) ad) := by
  refine ent (by decide +kernel) (Nat.le_of_ble_eq_true rfl) ?_
  intro p e s m below meth c S hr hlk hpre ls hl
  have S : CallFix p m c cX4_shut 3 s [.ref (ad 0 0), .int p1].toArray wsL_law RX4 := S
  obtain ⟨hK, hN, hX⟩ := hpre
  have hl : lv_has ls 3 [(0, .ref (ad 0 0)), (1, .int p1)] := hl
  have hs := sp_X4_shut.eq_1 d p1
  have hS : va_S (adS (XN M T) ad) s.heap s.heap [] := va_S.rf
  have q1 := hI.1
  have q2 := hI.2.1
  have q3 := hI.2.2.1
  have q4 := hI.2.2.2.1
  have q5 := hI.rc
  refine lv_iload_n S.1 S.2.1 dX4_shut_0 rfl (lv_at hl 1 rfl) ?_
  refine cPS (rest := []) S (c_X4_isDay l p1) gS_RX4_68 ds_X4_isDay.2 ⟨rfl, rfl⟩ ⟨Nat.le_of_ble_eq_true rfl, Nat.le_of_ble_eq_true rfl⟩ rfl hl.1 rfl (Nat.le_of_ble_eq_true rfl) ⟨Nat.le_of_ble_eq_true rfl, Nat.le_of_ble_eq_true rfl⟩ dX4_shut_1 ?_
  refine q_if_eq_b (tgt := 15) S dX4_shut_4 (by decide) (fun c1 => ?_) (fun c1 => ?_)
  · have hs := hs.trans (cif_f c1)
    refine lv_bipush (v := (-2)) S.1 S.2.1 dX4_shut_15 (by decide) ?_
    exact wI S hr hlk hs hX hS dX4_shut_17
  · have hs := hs.trans (cif_t c1)
    refine lv_iload_n S.1 S.2.1 dX4_shut_7 rfl (lv_at hl 1 rfl) ?_
    refine lv_aload_n S.1 S.2.1 dX4_shut_8 rfl (lv_at hl 0 rfl) ?_
    refine gf_RX4_37 S hK hX (v := d.1 0 0 5) rfl dX4_shut_9 ?_
    refine q_icmp_ge (tgt := 18) (xi := p1.toInt) (yi := (d.1 0 0 5).toInt) S rfl rfl dX4_shut_12 (by decide) (fun c2 => ?_) (fun c2 => ?_)
    · have hs := hs.trans (cif_t c2)
      refine lv_aload_n S.1 S.2.1 dX4_shut_18 rfl (lv_at hl 0 rfl) ?_
      refine gf_RX4_37 S hK hX (v := d.1 0 0 5) rfl dX4_shut_19 ?_
      refine lv_istore_n (lv' := [(2, .int (d.1 0 0 5)), (0, .ref (ad 0 0)), (1, .int p1)]) S.1 S.2.1 dX4_shut_22 rfl hl (by decide) rfl (fun ls hl => ?_)
      refine lv_aload_n S.1 S.2.1 dX4_shut_23 rfl (lv_at hl 1 rfl) ?_
      refine lv_iload_n S.1 S.2.1 dX4_shut_24 rfl (lv_at hl 2 rfl) ?_
      refine pf_RX4_37 S hK hX hS dX4_shut_25 (fun H locs hX hS => ?_)
      refine lv_iload_n S.1 S.2.1 dX4_shut_28 rfl (lv_at hl 0 rfl) ?_
      exact wI S hr hlk hs hX hS dX4_shut_29
    · have hs := hs.trans (cif_f c2)
      refine lv_bipush (v := (-2)) S.1 S.2.1 dX4_shut_15 (by decide) ?_
      exact wI S hr hlk hs hX hS dX4_shut_17
set_option maxRecDepth 100000 in
set_option maxHeartbeats 8000000 in
theorem c_X4_line (l : Launch) (D : va_G) (G : Gc) (M T : Nat) (ad : Nat → Nat → Nat) (d : Dt) (p1 : Int32) (p2 : Int32) (p3 : Int32) (hI : XI M T d) : Met l yX4_line (wsU yX4_line cX4_line 5 (some .int)) ({ frames := 2, cells := 0, slots := 0, locals := 43 } : Room) (va_Pc [.ref (ad 0 0), .int p1, .int p2, .int p3] (XPre D (tysG G) (XF G M T ad) (XN M T) ad d)) (qW (some (.int (sp_X4_line d p1 p2 p3).1)) D (XF G M T ad) (XN M T) ad (sp_X4_line d p1 p2 p3).2) 0 0 (adS (XN M T) ad) := by
  refine ent (by decide +kernel) (Nat.le_of_ble_eq_true rfl) ?_
  intro p e s m below meth c S hr hlk hpre ls hl
  have S : CallFix p m c cX4_line 5 s [.ref (ad 0 0), .int p1, .int p2, .int p3].toArray wsL_law RX4 := S
  obtain ⟨hK, hN, hX⟩ := hpre
  have hl : lv_has ls 5 [(0, .ref (ad 0 0)), (1, .int p1), (2, .int p2), (3, .int p3)] := hl
  have hs := sp_X4_line.eq_1 d p1 p2 p3
  have hS : va_S (adS (XN M T) ad) s.heap s.heap [] := va_S.rf
  have q1 := hI.1
  have q2 := hI.2.1
  have q3 := hI.2.2.1
  have q4 := hI.2.2.2.1
  have q5 := hI.rc
  refine lv_iload_n S.1 S.2.1 dX4_line_0 rfl (lv_at hl 1 rfl) ?_
  refine cPS (rest := []) S (c_X4_isLine l p1) gS_RX4_197 ds_X4_isLine.2 ⟨rfl, rfl⟩ ⟨Nat.le_of_ble_eq_true rfl, Nat.le_of_ble_eq_true rfl⟩ rfl hl.1 rfl (Nat.le_of_ble_eq_true rfl) ⟨Nat.le_of_ble_eq_true rfl, Nat.le_of_ble_eq_true rfl⟩ dX4_line_1 ?_
  refine q_if_eq_b (tgt := 15) S dX4_line_4 (by decide) (fun c1 => ?_) (fun c1 => ?_)
  · have hs := hs.trans (cif_f c1)
    refine lv_iconst (v := (-1)) S.1 S.2.1 dX4_line_15 (by decide) ?_
    exact wI S hr hlk hs hX hS dX4_line_16
  · have hs := hs.trans (cif_t c1)
    have f2 := il_of c1
    refine lv_aload_n S.1 S.2.1 dX4_line_7 rfl (lv_at hl 0 rfl) ?_
    refine lv_iload_n S.1 S.2.1 dX4_line_8 rfl (lv_at hl 2 rfl) ?_
    refine cPV (rest := []) S (c_X4_isMeter l D G M T ad d p2) gV_RX4_61 ds_X4_isMeter ⟨rfl, rfl⟩ ⟨Nat.le_of_ble_eq_true rfl, Nat.le_of_ble_eq_true rfl⟩ ⟨blindX, recvX hK hX (k := 0) (i := 0) Nat.zero_lt_one rfl rfl, preX hK hN hX _⟩ rfl hl.1 rfl (Nat.le_of_ble_eq_true rfl) ⟨Nat.le_of_ble_eq_true rfl, Nat.le_of_ble_eq_true rfl⟩ dX4_line_9 ?_
    refine q_if_ne_b (tgt := 17) S dX4_line_12 (by decide) (fun c3 => ?_) (fun c3 => ?_)
    · have hs := hs.trans (cif_t c3)
      have f4 := im_of hI c3
      refine lv_iload_n S.1 S.2.1 dX4_line_17 rfl (lv_at hl 3 rfl) ?_
      refine lv_iconst (v := (-1)) S.1 S.2.1 dX4_line_18 (by decide) ?_
      refine lv_iconst (v := 1) S.1 S.2.1 dX4_line_19 (by decide) ?_
      refine cPS (rest := []) S (c_X4_isWithin l p3 (-1) 1) gS_RX4_54 ds_X4_isWithin.2 ⟨rfl, rfl⟩ ⟨Nat.le_of_ble_eq_true rfl, Nat.le_of_ble_eq_true rfl⟩ rfl hl.1 rfl (Nat.le_of_ble_eq_true rfl) ⟨Nat.le_of_ble_eq_true rfl, Nat.le_of_ble_eq_true rfl⟩ dX4_line_20 ?_
      refine q_if_ne_b (tgt := 29) S dX4_line_23 (by decide) (fun c5 => ?_) (fun c5 => ?_)
      · have hs := hs.trans (cif_t c5)
        refine lv_aload_n S.1 S.2.1 dX4_line_29 rfl (lv_at hl 0 rfl) ?_
        refine gf_RX4_13 S hK hX dX4_line_30 ?_
        refine lv_iload_n S.1 S.2.1 dX4_line_33 rfl (lv_at hl 2 rfl) ?_
        have hx6 : ix p2 < M := ix_lt (by omega) (by omega)
        refine al_X1 S hK hX (by omega) (by omega) hx6 dX4_line_34 ?_
        have f6 := hI.fc hx6
        refine gf_RX4_200 S hK hX hx6 dX4_line_35 ?_
        refine lv_iload_n S.1 S.2.1 dX4_line_38 rfl (lv_at hl 1 rfl) ?_
        refine al_X9 S hK hX hx6 (by omega) (by omega) (z := d.1 9 (ix p2) (ix p1)) rfl dX4_line_39 ?_
        refine lv_istore (lv' := [(4, .int (d.1 9 (ix p2) (ix p1))), (0, .ref (ad 0 0)), (1, .int p1), (2, .int p2), (3, .int p3)]) S.1 S.2.1 dX4_line_40 hl (by decide) rfl (fun ls hl => ?_)
        refine lv_aload_n S.1 S.2.1 dX4_line_42 rfl (lv_at hl 1 rfl) ?_
        refine gf_RX4_13 S hK hX dX4_line_43 ?_
        refine lv_iload_n S.1 S.2.1 dX4_line_46 rfl (lv_at hl 3 rfl) ?_
        have hx7 : ix p2 < M := ix_lt (by omega) (by omega)
        refine al_X1 S hK hX (by omega) (by omega) hx7 dX4_line_47 ?_
        have f7 := hI.fc hx7
        refine gf_RX4_200 S hK hX hx7 dX4_line_48 ?_
        refine lv_iload_n S.1 S.2.1 dX4_line_51 rfl (lv_at hl 2 rfl) ?_
        refine lv_iload_n S.1 S.2.1 dX4_line_52 rfl (lv_at hl 4 rfl) ?_
        refine as_X9 S hK hX hS hx7 (by omega) (by omega) dX4_line_53 (fun H locs hX hS => ?_)
        refine lv_iload S.1 S.2.1 dX4_line_54 (lv_at hl 0 rfl) ?_
        refine lv_iload_n S.1 S.2.1 dX4_line_56 rfl (lv_at hl 4 rfl) ?_
        refine q_icmp_ne (tgt := 64) (xi := (d.1 9 (ix p2) (ix p1)).toInt) (yi := p3.toInt) S rfl rfl dX4_line_57 (by decide) (fun c8 => ?_) (fun c8 => ?_)
        · have hs := hs.trans (cif_f c8)
          refine lv_iconst (v := 1) S.1 S.2.1 dX4_line_64 (by decide) ?_
          exact wI S hr hlk hs hX hS dX4_line_65
        · have hs := hs.trans (cif_t c8)
          refine lv_iconst (v := 0) S.1 S.2.1 dX4_line_60 (by decide) ?_
          refine lv_goto (tgt := 65) S.1 S.2.1 dX4_line_61 (by decide) ?_
          exact wI S hr hlk hs hX hS dX4_line_65
      · have hs := hs.trans (cif_f c5)
        refine lv_bipush (v := (-2)) S.1 S.2.1 dX4_line_26 (by decide) ?_
        exact wI S hr hlk hs hX hS dX4_line_28
    · have hs := hs.trans (cif_f c3)
      refine lv_iconst (v := (-1)) S.1 S.2.1 dX4_line_15 (by decide) ?_
      exact wI S hr hlk hs hX hS dX4_line_16
set_option maxRecDepth 100000 in
set_option maxHeartbeats 8000000 in
theorem c_X4_lined (l : Launch) (D : va_G) (G : Gc) (M T : Nat) (ad : Nat → Nat → Nat) (d : Dt) (p1 : Int32) (p2 : Int32) (hI : XI M T d) : Met l yX4_lined (wsU yX4_lined cX4_lined 3 (some .int)) ({ frames := 2, cells := 0, slots := 0, locals := 43 } : Room) (va_Pc [.ref (ad 0 0), .int p1, .int p2] (XPre D (tysG G) (XF G M T ad) (XN M T) ad d)) (qV (some (.int (sp_X4_lined d p1 p2)))) 0 0 (fun _ => False) := by
  refine ent (by decide +kernel) (Nat.le_of_ble_eq_true rfl) ?_
  intro p e s m below meth c S hr hlk hpre ls hl
  have S : CallFix p m c cX4_lined 3 s [.ref (ad 0 0), .int p1, .int p2].toArray wsL_law RX4 := S
  obtain ⟨hK, hN, hX⟩ := hpre
  have hl : lv_has ls 3 [(0, .ref (ad 0 0)), (1, .int p1), (2, .int p2)] := hl
  have hs := sp_X4_lined.eq_1 d p1 p2
  have q1 := hI.1
  have q2 := hI.2.1
  have q3 := hI.2.2.1
  have q4 := hI.2.2.2.1
  have q5 := hI.rc
  refine lv_iload_n S.1 S.2.1 dX4_lined_0 rfl (lv_at hl 1 rfl) ?_
  refine cPS (rest := []) S (c_X4_isLine l p1) gS_RX4_197 ds_X4_isLine.2 ⟨rfl, rfl⟩ ⟨Nat.le_of_ble_eq_true rfl, Nat.le_of_ble_eq_true rfl⟩ rfl hl.1 rfl (Nat.le_of_ble_eq_true rfl) ⟨Nat.le_of_ble_eq_true rfl, Nat.le_of_ble_eq_true rfl⟩ dX4_lined_1 ?_
  refine q_if_eq_b (tgt := 32) S dX4_lined_4 (by decide) (fun c1 => ?_) (fun c1 => ?_)
  · have hs := hs.trans (cif_f c1)
    refine lv_iconst (v := (-1)) S.1 S.2.1 dX4_lined_32 (by decide) ?_
    exact rI S hr hlk hs dX4_lined_33
  · have hs := hs.trans (cif_t c1)
    have f2 := il_of c1
    refine lv_aload_n S.1 S.2.1 dX4_lined_7 rfl (lv_at hl 0 rfl) ?_
    refine lv_iload_n S.1 S.2.1 dX4_lined_8 rfl (lv_at hl 2 rfl) ?_
    refine cPV (rest := []) S (c_X4_isMeter l D G M T ad d p2) gV_RX4_61 ds_X4_isMeter ⟨rfl, rfl⟩ ⟨Nat.le_of_ble_eq_true rfl, Nat.le_of_ble_eq_true rfl⟩ ⟨blindX, recvX hK hX (k := 0) (i := 0) Nat.zero_lt_one rfl rfl, preX hK hN hX _⟩ rfl hl.1 rfl (Nat.le_of_ble_eq_true rfl) ⟨Nat.le_of_ble_eq_true rfl, Nat.le_of_ble_eq_true rfl⟩ dX4_lined_9 ?_
    refine q_if_eq_b (tgt := 32) S dX4_lined_12 (by decide) (fun c3 => ?_) (fun c3 => ?_)
    · have hs := hs.trans (cif_f c3)
      refine lv_iconst (v := (-1)) S.1 S.2.1 dX4_lined_32 (by decide) ?_
      exact rI S hr hlk hs dX4_lined_33
    · have hs := hs.trans (cif_t c3)
      have f4 := im_of hI c3
      refine lv_bipush (v := 10) S.1 S.2.1 dX4_lined_15 (by decide) ?_
      refine lv_aload_n S.1 S.2.1 dX4_lined_17 rfl (lv_at hl 0 rfl) ?_
      refine gf_RX4_13 S hK hX dX4_lined_18 ?_
      refine lv_iload_n S.1 S.2.1 dX4_lined_21 rfl (lv_at hl 2 rfl) ?_
      have hx5 : ix p2 < M := ix_lt (by omega) (by omega)
      refine al_X1 S hK hX (by omega) (by omega) hx5 dX4_lined_22 ?_
      have f5 := hI.fc hx5
      refine gf_RX4_200 S hK hX hx5 dX4_lined_23 ?_
      refine lv_iload_n S.1 S.2.1 dX4_lined_26 rfl (lv_at hl 1 rfl) ?_
      refine al_X9 S hK hX hx5 (by omega) (by omega) (z := d.1 9 (ix p2) (ix p1)) rfl dX4_lined_27 ?_
      refine lv_iadd S.1 S.2.1 dX4_lined_28 ?_
      refine lv_goto (tgt := 33) S.1 S.2.1 dX4_lined_29 (by decide) ?_
      exact rI S hr hlk hs dX4_lined_33
set_option maxRecDepth 100000 in
set_option maxHeartbeats 8000000 in
theorem c_X4_end (l : Launch) (D : va_G) (G : Gc) (M T : Nat) (ad : Nat → Nat → Nat) (d : Dt) (p1 : Int32) (p2 : Int32) (hI : XI M T d) : Met l yX4_end (wsU yX4_end cX4_end 4 (some .int)) ({ frames := 2, cells := 0, slots := 0, locals := 43 } : Room) (va_Pc [.ref (ad 0 0), .int p1, .int p2] (XPre D (tysG G) (XF G M T ad) (XN M T) ad d)) (qW (some (.int (sp_X4_end d p1 p2).1)) D (XF G M T ad) (XN M T) ad (sp_X4_end d p1 p2).2) 0 0 (adS (XN M T) ad) := by
  refine ent (by decide +kernel) (Nat.le_of_ble_eq_true rfl) ?_
  intro p e s m below meth c S hr hlk hpre ls hl
  have S : CallFix p m c cX4_end 4 s [.ref (ad 0 0), .int p1, .int p2].toArray wsL_law RX4 := S
  obtain ⟨hK, hN, hX⟩ := hpre
  have hl : lv_has ls 4 [(0, .ref (ad 0 0)), (1, .int p1), (2, .int p2)] := hl
  have hs := sp_X4_end.eq_1 d p1 p2
  have hS : va_S (adS (XN M T) ad) s.heap s.heap [] := va_S.rf
  have q1 := hI.1
  have q2 := hI.2.1
  have q3 := hI.2.2.1
  have q4 := hI.2.2.2.1
  have q5 := hI.rc
  refine lv_aload_n S.1 S.2.1 dX4_end_0 rfl (lv_at hl 0 rfl) ?_
  refine lv_iload_n S.1 S.2.1 dX4_end_1 rfl (lv_at hl 1 rfl) ?_
  refine cPV (rest := []) S (c_X4_isMeter l D G M T ad d p1) gV_RX4_61 ds_X4_isMeter ⟨rfl, rfl⟩ ⟨Nat.le_of_ble_eq_true rfl, Nat.le_of_ble_eq_true rfl⟩ ⟨blindX, recvX hK hX (k := 0) (i := 0) Nat.zero_lt_one rfl rfl, preX hK hN hX _⟩ rfl hl.1 rfl (Nat.le_of_ble_eq_true rfl) ⟨Nat.le_of_ble_eq_true rfl, Nat.le_of_ble_eq_true rfl⟩ dX4_end_2 ?_
  refine q_if_ne_b (tgt := 10) S dX4_end_5 (by decide) (fun c1 => ?_) (fun c1 => ?_)
  · have hs := hs.trans (cif_t c1)
    have f2 := im_of hI c1
    refine lv_iload_n S.1 S.2.1 dX4_end_10 rfl (lv_at hl 2 rfl) ?_
    refine lv_iconst (v := 0) S.1 S.2.1 dX4_end_11 (by decide) ?_
    refine lv_sipush (v := 5000) S.1 S.2.1 dX4_end_12 (by decide) ?_
    refine cPS (rest := []) S (c_X4_isWithin l p2 0 5000) gS_RX4_54 ds_X4_isWithin.2 ⟨rfl, rfl⟩ ⟨Nat.le_of_ble_eq_true rfl, Nat.le_of_ble_eq_true rfl⟩ rfl hl.1 rfl (Nat.le_of_ble_eq_true rfl) ⟨Nat.le_of_ble_eq_true rfl, Nat.le_of_ble_eq_true rfl⟩ dX4_end_15 ?_
    refine q_if_ne_b (tgt := 24) S dX4_end_18 (by decide) (fun c3 => ?_) (fun c3 => ?_)
    · have hs := hs.trans (cif_t c3)
      refine lv_aload_n S.1 S.2.1 dX4_end_24 rfl (lv_at hl 0 rfl) ?_
      refine gf_RX4_13 S hK hX dX4_end_25 ?_
      refine lv_iload_n S.1 S.2.1 dX4_end_28 rfl (lv_at hl 1 rfl) ?_
      have hx4 : ix p1 < M := ix_lt (by omega) (by omega)
      refine al_X1 S hK hX (by omega) (by omega) hx4 dX4_end_29 ?_
      have f4 := hI.fc hx4
      refine gf_RX4_203 S hK hX hx4 (v := d.1 8 (ix p1) 1) rfl dX4_end_30 ?_
      refine lv_istore_n (lv' := [(3, .int (d.1 8 (ix p1) 1)), (0, .ref (ad 0 0)), (1, .int p1), (2, .int p2)]) S.1 S.2.1 dX4_end_33 rfl hl (by decide) rfl (fun ls hl => ?_)
      refine lv_aload_n S.1 S.2.1 dX4_end_34 rfl (lv_at hl 1 rfl) ?_
      refine gf_RX4_13 S hK hX dX4_end_35 ?_
      refine lv_iload_n S.1 S.2.1 dX4_end_38 rfl (lv_at hl 2 rfl) ?_
      have hx5 : ix p1 < M := ix_lt (by omega) (by omega)
      refine al_X1 S hK hX (by omega) (by omega) hx5 dX4_end_39 ?_
      have f5 := hI.fc hx5
      refine lv_iload_n S.1 S.2.1 dX4_end_40 rfl (lv_at hl 3 rfl) ?_
      refine pf_RX4_203 S hK hX hS hx5 dX4_end_41 (fun H locs hX hS => ?_)
      refine lv_iload_n S.1 S.2.1 dX4_end_44 rfl (lv_at hl 0 rfl) ?_
      exact wI S hr hlk hs hX hS dX4_end_45
    · have hs := hs.trans (cif_f c3)
      refine lv_bipush (v := (-2)) S.1 S.2.1 dX4_end_21 (by decide) ?_
      exact wI S hr hlk hs hX hS dX4_end_23
  · have hs := hs.trans (cif_f c1)
    refine lv_iconst (v := (-1)) S.1 S.2.1 dX4_end_8 (by decide) ?_
    exact wI S hr hlk hs hX hS dX4_end_9
set_option maxRecDepth 100000 in
set_option maxHeartbeats 8000000 in
theorem c_X4_endsOf (l : Launch) (D : va_G) (G : Gc) (M T : Nat) (ad : Nat → Nat → Nat) (d : Dt) (p1 : Int32) (p2 : Int32) (p3 : Int32) (hI : XI M T d) (hl0 : 0 ≤ p1.toInt) (hl1 : p1.toInt < 4) : Met l yX4_endsOf (wsU yX4_endsOf cX4_endsOf 7 (some .long)) ({ frames := 3, cells := 0, slots := 0, locals := 71 } : Room) (va_Pc [.ref (ad 0 0), .int p1, .int p2, .int p3] (XPre D (tysG G) (XF G M T ad) (XN M T) ad d)) (qV (some (.long (sp_X4_endsOf d p1 p2 p3)))) 0 0 (fun _ => False) := by
  refine ent (by decide +kernel) (Nat.le_of_ble_eq_true rfl) ?_
  intro p e s m below meth c S hr hlk hpre ls hl
  have S : CallFix p m c cX4_endsOf 7 s [.ref (ad 0 0), .int p1, .int p2, .int p3].toArray wsL_law RX4 := S
  obtain ⟨hK, hN, hX⟩ := hpre
  have hl : lv_has ls 7 [(0, .ref (ad 0 0)), (1, .int p1), (2, .int p2), (3, .int p3)] := hl
  have hs := sp_X4_endsOf.eq_1 d p1 p2 p3
  have q1 := hI.1
  have q2 := hI.2.1
  have q3 := hI.2.2.1
  have q4 := hI.2.2.2.1
  have q5 := hI.rc
  refine lv_lconst (v := 0) S.1 S.2.1 dX4_endsOf_0 (by decide) ?_
  refine lv_lstore (lv' := [(4, .long 0), (0, .ref (ad 0 0)), (1, .int p1), (2, .int p2), (3, .int p3)]) S.1 S.2.1 dX4_endsOf_1 hl (by decide) rfl (fun ls hl => ?_)
  refine lv_iconst (v := 0) S.1 S.2.1 dX4_endsOf_3 (by decide) ?_
  refine lv_istore (lv' := [(6, .int 0), (4, .long 0), (0, .ref (ad 0 0)), (1, .int p1), (2, .int p2), (3, .int p3)]) S.1 S.2.1 dX4_endsOf_4 hl (by decide) rfl (fun ls hl => ?_)
  have L6 : ∀ (n : Nat), ∀ (x6 : Int32) (x4 : Int64), (d.1 0 0 1).toInt - x6.toInt < (n : Int) → 0 ≤ x6.toInt → x6.toInt ≤ (d.1 0 0 1).toInt → sp_X4_endsOf d p1 p2 p3 = lp_X4_endsOf_6 d p1 p2 p3 n x6 x4 → ∀ ls : Array Slot, lv_has ls 7 [(6, .int x6), (4, .long x4), (0, .ref (ad 0 0)), (1, .int p1), (2, .int p2), (3, .int p3)] → W p l e ({ frames := 3, cells := 0, slots := 0, locals := 71 } : Room) s m [.ref (ad 0 0), .int p1, .int p2, .int p3].toArray below meth c s.heap [] 0 0 (MQ below (qV (some (.long (sp_X4_endsOf d p1 p2 p3)))) [.ref (ad 0 0), .int p1, .int p2, .int p3].toArray s 0 0 (fun _ => False)) (F0 m 6 ls []) := by
    intro n
    induction n with
    | zero => intro x6 x4 hms v6_0 v6_1 hs ls hl; omega
    | succ n ih6 =>
      intro x6 x4 hms v6_0 v6_1 hs ls hl
      have hs := hs.trans (st_X4_endsOf_6.eq_1 d p1 p2 p3 (lp_X4_endsOf_6 d p1 p2 p3 n) x6 x4)
      refine lv_iload S.1 S.2.1 dX4_endsOf_6 (lv_at hl 0 rfl) ?_
      refine lv_aload_n S.1 S.2.1 dX4_endsOf_8 rfl (lv_at hl 2 rfl) ?_
      refine gf_RX4_17 S hK hX (v := d.1 0 0 1) rfl dX4_endsOf_9 ?_
      refine q_icmp_ge (tgt := 65) (xi := x6.toInt) (yi := (d.1 0 0 1).toInt) S rfl rfl dX4_endsOf_12 (by decide) (fun c1 => ?_) (fun c1 => ?_)
      · have hs := hs.trans (cif_t c1)
        refine lv_lload S.1 S.2.1 dX4_endsOf_65 (lv_at hl 1 rfl) ?_
        exact rL S hr hlk hs dX4_endsOf_67
      · have hs := hs.trans (cif_f c1)
        refine lv_aload_n S.1 S.2.1 dX4_endsOf_15 rfl (lv_at hl 2 rfl) ?_
        refine gf_RX4_13 S hK hX dX4_endsOf_16 ?_
        refine lv_iload S.1 S.2.1 dX4_endsOf_19 (lv_at hl 0 rfl) ?_
        have hx2 : ix x6 < M := ix_lt (by omega) (by omega)
        refine al_X1 S hK hX (by omega) (by omega) hx2 dX4_endsOf_21 ?_
        have f2 := hI.fc hx2
        refine gf_RX4_200 S hK hX hx2 dX4_endsOf_22 ?_
        refine lv_iload_n S.1 S.2.1 dX4_endsOf_25 rfl (lv_at hl 3 rfl) ?_
        refine al_X9 S hK hX hx2 (by omega) (by omega) (z := d.1 9 (ix x6) (ix p1)) rfl dX4_endsOf_26 ?_
        refine q_if_eq (tgt := 59) (xi := (d.1 9 (ix x6) (ix p1)).toInt) S rfl dX4_endsOf_27 (by decide) (fun c3 => ?_) (fun c3 => ?_)
        · have hs := hs.trans (cif_t c3)
          refine lv_iinc (v := x6 + 1) (lv' := [(6, .int (x6 + 1)), (4, .long x4), (0, .ref (ad 0 0)), (1, .int p1), (2, .int p2), (3, .int p3)]) S.1 S.2.1 dX4_endsOf_59 hl (k := 0) rfl (by rfl) (by decide) rfl (fun ls hl => ?_)
          refine lv_goto (tgt := 6) S.1 S.2.1 dX4_endsOf_62 (by decide) ?_
          have e9 : ((x6 + 1)).toInt = x6.toInt + 1 := ti1 (by omega)
          exact ih6 (x6 + 1) x4 (by omega) (by omega) (by omega) hs _ (lv_sub hl [0, 1, 2, 3, 4, 5] rfl)
        · have hs := hs.trans (cif_f c3)
          refine lv_lload S.1 S.2.1 dX4_endsOf_30 (lv_at hl 1 rfl) ?_
          refine lv_aload_n S.1 S.2.1 dX4_endsOf_32 rfl (lv_at hl 2 rfl) ?_
          refine lv_iload S.1 S.2.1 dX4_endsOf_33 (lv_at hl 0 rfl) ?_
          refine lv_iload_n S.1 S.2.1 dX4_endsOf_35 rfl (lv_at hl 4 rfl) ?_
          refine lv_iload_n S.1 S.2.1 dX4_endsOf_36 rfl (lv_at hl 5 rfl) ?_
          refine cPV (rest := [.long x4]) S (c_X4_sumOf l D G M T ad d x6 p2 p3 hI) gV_RX4_193 ds_X4_sumOf ⟨rfl, rfl⟩ ⟨Nat.le_of_ble_eq_true rfl, Nat.le_of_ble_eq_true rfl⟩ ⟨blindX, recvX hK hX (k := 0) (i := 0) Nat.zero_lt_one rfl rfl, preX hK hN hX _⟩ rfl hl.1 rfl (Nat.le_of_ble_eq_true rfl) ⟨Nat.le_of_ble_eq_true rfl, Nat.le_of_ble_eq_true rfl⟩ dX4_endsOf_37 ?_
          refine lv_aload_n S.1 S.2.1 dX4_endsOf_40 rfl (lv_at hl 2 rfl) ?_
          refine gf_RX4_13 S hK hX dX4_endsOf_41 ?_
          refine lv_iload S.1 S.2.1 dX4_endsOf_44 (lv_at hl 0 rfl) ?_
          have hx4 : ix x6 < M := ix_lt (by omega) (by omega)
          refine al_X1 S hK hX (by omega) (by omega) hx4 dX4_endsOf_46 ?_
          have f4 := hI.fc hx4
          refine gf_RX4_203 S hK hX hx4 (v := d.1 8 (ix x6) 1) rfl dX4_endsOf_47 ?_
          refine lv_i2l S.1 S.2.1 dX4_endsOf_50 rfl ?_
          refine lv_lmul S.1 S.2.1 dX4_endsOf_51 ?_
          refine lv_ldc2 S.1 S.2.1 S.2.2.2.1 (S.2.2.2.2 _ wKL_RX4_297) dX4_endsOf_52 ?_
          refine lv_ldiv S.1 S.2.1 dX4_endsOf_55 (by decide) ?_
          refine lv_ladd S.1 S.2.1 dX4_endsOf_56 ?_
          refine lv_lstore (lv' := [(4, .long (x4 + (((sp_X4_sumOf d x6 p2 p3) * ((d.1 8 (ix x6) 1).toInt64)) / 100000))), (6, .int x6), (0, .ref (ad 0 0)), (1, .int p1), (2, .int p2), (3, .int p3)]) S.1 S.2.1 dX4_endsOf_57 hl (by decide) rfl (fun ls hl => ?_)
          refine lv_iinc (v := x6 + 1) (lv' := [(6, .int (x6 + 1)), (4, .long (x4 + (((sp_X4_sumOf d x6 p2 p3) * ((d.1 8 (ix x6) 1).toInt64)) / 100000))), (0, .ref (ad 0 0)), (1, .int p1), (2, .int p2), (3, .int p3)]) S.1 S.2.1 dX4_endsOf_59 hl (k := 1) rfl (by rfl) (by decide) rfl (fun ls hl => ?_)
          refine lv_goto (tgt := 6) S.1 S.2.1 dX4_endsOf_62 (by decide) ?_
          have e9 : ((x6 + 1)).toInt = x6.toInt + 1 := ti1 (by omega)
          exact ih6 (x6 + 1) (x4 + (((sp_X4_sumOf d x6 p2 p3) * ((d.1 8 (ix x6) 1).toInt64)) / 100000)) (by omega) (by omega) (by omega) hs _ (lv_sub hl [0, 1, 2, 3, 4, 5] rfl)
  exact L6 16 0 0 (by first | omega | (simp only [Int32.toInt_zero]; omega)) (by first | omega | (simp only [Int32.toInt_zero]; omega)) (by first | omega | (simp only [Int32.toInt_zero]; omega)) hs _ (lv_sub hl [0, 1, 2, 3, 4, 5] rfl)
set_option maxRecDepth 100000 in
set_option maxHeartbeats 8000000 in
theorem c_X4_imbalanceOf (l : Launch) (D : va_G) (G : Gc) (M T : Nat) (ad : Nat → Nat → Nat) (d : Dt) (p1 : Int32) (p2 : Int32) (p3 : Int32) (hI : XI M T d) (hl0 : 0 ≤ p1.toInt) (hl1 : p1.toInt < 4) : Met l yX4_imbalanceOf (wsU yX4_imbalanceOf cX4_imbalanceOf 7 (some .long)) ({ frames := 3, cells := 0, slots := 0, locals := 71 } : Room) (va_Pc [.ref (ad 0 0), .int p1, .int p2, .int p3] (XPre D (tysG G) (XF G M T ad) (XN M T) ad d)) (qV (some (.long (sp_X4_imbalanceOf d p1 p2 p3)))) 0 0 (fun _ => False) := by
  refine ent (by decide +kernel) (Nat.le_of_ble_eq_true rfl) ?_
  intro p e s m below meth c S hr hlk hpre ls hl
  have S : CallFix p m c cX4_imbalanceOf 7 s [.ref (ad 0 0), .int p1, .int p2, .int p3].toArray wsL_law RX4 := S
  obtain ⟨hK, hN, hX⟩ := hpre
  have hl : lv_has ls 7 [(0, .ref (ad 0 0)), (1, .int p1), (2, .int p2), (3, .int p3)] := hl
  have hs := sp_X4_imbalanceOf.eq_1 d p1 p2 p3
  have q1 := hI.1
  have q2 := hI.2.1
  have q3 := hI.2.2.1
  have q4 := hI.2.2.2.1
  have q5 := hI.rc
  refine lv_lconst (v := 0) S.1 S.2.1 dX4_imbalanceOf_0 (by decide) ?_
  refine lv_lstore (lv' := [(4, .long 0), (0, .ref (ad 0 0)), (1, .int p1), (2, .int p2), (3, .int p3)]) S.1 S.2.1 dX4_imbalanceOf_1 hl (by decide) rfl (fun ls hl => ?_)
  refine lv_iconst (v := 0) S.1 S.2.1 dX4_imbalanceOf_3 (by decide) ?_
  refine lv_istore (lv' := [(6, .int 0), (4, .long 0), (0, .ref (ad 0 0)), (1, .int p1), (2, .int p2), (3, .int p3)]) S.1 S.2.1 dX4_imbalanceOf_4 hl (by decide) rfl (fun ls hl => ?_)
  have L6 : ∀ (n : Nat), ∀ (x6 : Int32) (x4 : Int64), (d.1 0 0 1).toInt - x6.toInt < (n : Int) → 0 ≤ x6.toInt → x6.toInt ≤ (d.1 0 0 1).toInt → sp_X4_imbalanceOf d p1 p2 p3 = lp_X4_imbalanceOf_6 d p1 p2 p3 n x6 x4 → ∀ ls : Array Slot, lv_has ls 7 [(6, .int x6), (4, .long x4), (0, .ref (ad 0 0)), (1, .int p1), (2, .int p2), (3, .int p3)] → W p l e ({ frames := 3, cells := 0, slots := 0, locals := 71 } : Room) s m [.ref (ad 0 0), .int p1, .int p2, .int p3].toArray below meth c s.heap [] 0 0 (MQ below (qV (some (.long (sp_X4_imbalanceOf d p1 p2 p3)))) [.ref (ad 0 0), .int p1, .int p2, .int p3].toArray s 0 0 (fun _ => False)) (F0 m 6 ls []) := by
    intro n
    induction n with
    | zero => intro x6 x4 hms v6_0 v6_1 hs ls hl; omega
    | succ n ih6 =>
      intro x6 x4 hms v6_0 v6_1 hs ls hl
      have hs := hs.trans (st_X4_imbalanceOf_6.eq_1 d p1 p2 p3 (lp_X4_imbalanceOf_6 d p1 p2 p3 n) x6 x4)
      refine lv_iload S.1 S.2.1 dX4_imbalanceOf_6 (lv_at hl 0 rfl) ?_
      refine lv_aload_n S.1 S.2.1 dX4_imbalanceOf_8 rfl (lv_at hl 2 rfl) ?_
      refine gf_RX4_17 S hK hX (v := d.1 0 0 1) rfl dX4_imbalanceOf_9 ?_
      refine q_icmp_ge (tgt := 48) (xi := x6.toInt) (yi := (d.1 0 0 1).toInt) S rfl rfl dX4_imbalanceOf_12 (by decide) (fun c1 => ?_) (fun c1 => ?_)
      · have hs := hs.trans (cif_t c1)
        refine lv_lload S.1 S.2.1 dX4_imbalanceOf_48 (lv_at hl 1 rfl) ?_
        exact rL S hr hlk hs dX4_imbalanceOf_50
      · have hs := hs.trans (cif_f c1)
        refine lv_lload S.1 S.2.1 dX4_imbalanceOf_15 (lv_at hl 1 rfl) ?_
        refine lv_aload_n S.1 S.2.1 dX4_imbalanceOf_17 rfl (lv_at hl 2 rfl) ?_
        refine gf_RX4_13 S hK hX dX4_imbalanceOf_18 ?_
        refine lv_iload S.1 S.2.1 dX4_imbalanceOf_21 (lv_at hl 0 rfl) ?_
        have hx2 : ix x6 < M := ix_lt (by omega) (by omega)
        refine al_X1 S hK hX (by omega) (by omega) hx2 dX4_imbalanceOf_23 ?_
        have f2 := hI.fc hx2
        refine gf_RX4_200 S hK hX hx2 dX4_imbalanceOf_24 ?_
        refine lv_iload_n S.1 S.2.1 dX4_imbalanceOf_27 rfl (lv_at hl 3 rfl) ?_
        refine al_X9 S hK hX hx2 (by omega) (by omega) (z := d.1 9 (ix x6) (ix p1)) rfl dX4_imbalanceOf_28 ?_
        refine lv_i2l S.1 S.2.1 dX4_imbalanceOf_29 rfl ?_
        refine lv_aload_n S.1 S.2.1 dX4_imbalanceOf_30 rfl (lv_at hl 2 rfl) ?_
        refine lv_iload S.1 S.2.1 dX4_imbalanceOf_31 (lv_at hl 0 rfl) ?_
        refine lv_iload_n S.1 S.2.1 dX4_imbalanceOf_33 rfl (lv_at hl 4 rfl) ?_
        refine lv_iload_n S.1 S.2.1 dX4_imbalanceOf_34 rfl (lv_at hl 5 rfl) ?_
        refine cPV (rest := [.long ((d.1 9 (ix x6) (ix p1)).toInt64), .long x4]) S (c_X4_sumOf l D G M T ad d x6 p2 p3 hI) gV_RX4_193 ds_X4_sumOf ⟨rfl, rfl⟩ ⟨Nat.le_of_ble_eq_true rfl, Nat.le_of_ble_eq_true rfl⟩ ⟨blindX, recvX hK hX (k := 0) (i := 0) Nat.zero_lt_one rfl rfl, preX hK hN hX _⟩ rfl hl.1 rfl (Nat.le_of_ble_eq_true rfl) ⟨Nat.le_of_ble_eq_true rfl, Nat.le_of_ble_eq_true rfl⟩ dX4_imbalanceOf_35 ?_
        refine lv_lmul S.1 S.2.1 dX4_imbalanceOf_38 ?_
        refine lv_ladd S.1 S.2.1 dX4_imbalanceOf_39 ?_
        refine lv_lstore (lv' := [(4, .long (x4 + (((d.1 9 (ix x6) (ix p1)).toInt64) * (sp_X4_sumOf d x6 p2 p3)))), (6, .int x6), (0, .ref (ad 0 0)), (1, .int p1), (2, .int p2), (3, .int p3)]) S.1 S.2.1 dX4_imbalanceOf_40 hl (by decide) rfl (fun ls hl => ?_)
        refine lv_iinc (v := x6 + 1) (lv' := [(6, .int (x6 + 1)), (4, .long (x4 + (((d.1 9 (ix x6) (ix p1)).toInt64) * (sp_X4_sumOf d x6 p2 p3)))), (0, .ref (ad 0 0)), (1, .int p1), (2, .int p2), (3, .int p3)]) S.1 S.2.1 dX4_imbalanceOf_42 hl (k := 1) rfl (by rfl) (by decide) rfl (fun ls hl => ?_)
        refine lv_goto (tgt := 6) S.1 S.2.1 dX4_imbalanceOf_45 (by decide) ?_
        have e9 : ((x6 + 1)).toInt = x6.toInt + 1 := ti1 (by omega)
        exact ih6 (x6 + 1) (x4 + (((d.1 9 (ix x6) (ix p1)).toInt64) * (sp_X4_sumOf d x6 p2 p3))) (by omega) (by omega) (by omega) hs _ (lv_sub hl [0, 1, 2, 3, 4, 5] rfl)
  exact L6 16 0 0 (by first | omega | (simp only [Int32.toInt_zero]; omega)) (by first | omega | (simp only [Int32.toInt_zero]; omega)) (by first | omega | (simp only [Int32.toInt_zero]; omega)) hs _ (lv_sub hl [0, 1, 2, 3, 4, 5] rfl)
set_option maxRecDepth 100000 in
set_option maxHeartbeats 8000000 in
theorem c_X4_balance (l : Launch) (D : va_G) (G : Gc) (M T : Nat) (ad : Nat → Nat → Nat) (d : Dt) (p1 : Int32) (p2 : Int32) (p3 : Int32) (p4 : Int32) (hI : XI M T d) : Met l yX4_balance (wsU yX4_balance cX4_balance 5 (some .long)) ({ frames := 4, cells := 0, slots := 0, locals := 97 } : Room) (va_Pc [.ref (ad 0 0), .int p1, .int p2, .int p3, .int p4] (XPre D (tysG G) (XF G M T ad) (XN M T) ad d)) (qV (some (.long (sp_X4_balance d p1 p2 p3 p4)))) 0 0 (fun _ => False) := by
  refine ent (by decide +kernel) (Nat.le_of_ble_eq_true rfl) ?_
  intro p e s m below meth c S hr hlk hpre ls hl
  have S : CallFix p m c cX4_balance 5 s [.ref (ad 0 0), .int p1, .int p2, .int p3, .int p4].toArray wsL_law RX4 := S
  obtain ⟨hK, hN, hX⟩ := hpre
  have hl : lv_has ls 5 [(0, .ref (ad 0 0)), (1, .int p1), (2, .int p2), (3, .int p3), (4, .int p4)] := hl
  have hs := sp_X4_balance.eq_1 d p1 p2 p3 p4
  have q1 := hI.1
  have q2 := hI.2.1
  have q3 := hI.2.2.1
  have q4 := hI.2.2.2.1
  have q5 := hI.rc
  refine lv_iload_n S.1 S.2.1 dX4_balance_0 rfl (lv_at hl 1 rfl) ?_
  refine cPS (rest := []) S (c_X4_isLine l p1) gS_RX4_197 ds_X4_isLine.2 ⟨rfl, rfl⟩ ⟨Nat.le_of_ble_eq_true rfl, Nat.le_of_ble_eq_true rfl⟩ rfl hl.1 rfl (Nat.le_of_ble_eq_true rfl) ⟨Nat.le_of_ble_eq_true rfl, Nat.le_of_ble_eq_true rfl⟩ dX4_balance_1 ?_
  refine q_if_eq_b (tgt := 25) S dX4_balance_4 (by decide) (fun c1 => ?_) (fun c1 => ?_)
  · have hs := hs.trans (cif_f c1)
    refine lv_ldc2 S.1 S.2.1 S.2.2.2.1 (S.2.2.2.2 _ wKL_RX4_106) dX4_balance_25 ?_
    exact rL S hr hlk hs dX4_balance_28
  · have hs := hs.trans (cif_t c1)
    have f2 := il_of c1
    refine lv_iload S.1 S.2.1 dX4_balance_7 (lv_at hl 4 rfl) ?_
    refine lv_iconst (v := 0) S.1 S.2.1 dX4_balance_9 (by decide) ?_
    refine lv_iconst (v := 1) S.1 S.2.1 dX4_balance_10 (by decide) ?_
    refine cPS (rest := []) S (c_X4_isWithin l p4 0 1) gS_RX4_54 ds_X4_isWithin.2 ⟨rfl, rfl⟩ ⟨Nat.le_of_ble_eq_true rfl, Nat.le_of_ble_eq_true rfl⟩ rfl hl.1 rfl (Nat.le_of_ble_eq_true rfl) ⟨Nat.le_of_ble_eq_true rfl, Nat.le_of_ble_eq_true rfl⟩ dX4_balance_11 ?_
    refine q_if_eq_b (tgt := 25) S dX4_balance_14 (by decide) (fun c3 => ?_) (fun c3 => ?_)
    · have hs := hs.trans (cif_f c3)
      refine lv_ldc2 S.1 S.2.1 S.2.2.2.1 (S.2.2.2.2 _ wKL_RX4_106) dX4_balance_25 ?_
      exact rL S hr hlk hs dX4_balance_28
    · have hs := hs.trans (cif_t c3)
      refine lv_iload_n S.1 S.2.1 dX4_balance_17 rfl (lv_at hl 2 rfl) ?_
      refine lv_iload_n S.1 S.2.1 dX4_balance_18 rfl (lv_at hl 3 rfl) ?_
      refine cPS (rest := []) S (c_X4_areDays l p2 p3) gS_RX4_164 ds_X4_areDays.2 ⟨rfl, rfl⟩ ⟨Nat.le_of_ble_eq_true rfl, Nat.le_of_ble_eq_true rfl⟩ rfl hl.1 rfl (Nat.le_of_ble_eq_true rfl) ⟨Nat.le_of_ble_eq_true rfl, Nat.le_of_ble_eq_true rfl⟩ dX4_balance_19 ?_
      refine q_if_ne_b (tgt := 29) S dX4_balance_22 (by decide) (fun c4 => ?_) (fun c4 => ?_)
      · have hs := hs.trans (cif_t c4)
        refine lv_iload S.1 S.2.1 dX4_balance_29 (lv_at hl 4 rfl) ?_
        refine q_if_ne (tgt := 44) (xi := p4.toInt) S rfl dX4_balance_31 (by decide) (fun c5 => ?_) (fun c5 => ?_)
        · have hs := hs.trans (cif_f c5)
          refine lv_aload_n S.1 S.2.1 dX4_balance_44 rfl (lv_at hl 0 rfl) ?_
          refine lv_iload_n S.1 S.2.1 dX4_balance_45 rfl (lv_at hl 1 rfl) ?_
          refine lv_iload_n S.1 S.2.1 dX4_balance_46 rfl (lv_at hl 2 rfl) ?_
          refine lv_iload_n S.1 S.2.1 dX4_balance_47 rfl (lv_at hl 3 rfl) ?_
          refine cPV (rest := []) S (c_X4_endsOf l D G M T ad d p1 p2 p3 hI (by omega) (by omega)) gV_RX4_209 ds_X4_endsOf ⟨rfl, rfl⟩ ⟨Nat.le_of_ble_eq_true rfl, Nat.le_of_ble_eq_true rfl⟩ ⟨blindX, recvX hK hX (k := 0) (i := 0) Nat.zero_lt_one rfl rfl, preX hK hN hX _⟩ rfl hl.1 rfl (Nat.le_of_ble_eq_true rfl) ⟨Nat.le_of_ble_eq_true rfl, Nat.le_of_ble_eq_true rfl⟩ dX4_balance_48 ?_
          exact rL S hr hlk hs dX4_balance_51
        · have hs := hs.trans (cif_t c5)
          refine lv_aload_n S.1 S.2.1 dX4_balance_34 rfl (lv_at hl 0 rfl) ?_
          refine lv_iload_n S.1 S.2.1 dX4_balance_35 rfl (lv_at hl 1 rfl) ?_
          refine lv_iload_n S.1 S.2.1 dX4_balance_36 rfl (lv_at hl 2 rfl) ?_
          refine lv_iload_n S.1 S.2.1 dX4_balance_37 rfl (lv_at hl 3 rfl) ?_
          refine cPV (rest := []) S (c_X4_imbalanceOf l D G M T ad d p1 p2 p3 hI (by omega) (by omega)) gV_RX4_206 ds_X4_imbalanceOf ⟨rfl, rfl⟩ ⟨Nat.le_of_ble_eq_true rfl, Nat.le_of_ble_eq_true rfl⟩ ⟨blindX, recvX hK hX (k := 0) (i := 0) Nat.zero_lt_one rfl rfl, preX hK hN hX _⟩ rfl hl.1 rfl (Nat.le_of_ble_eq_true rfl) ⟨Nat.le_of_ble_eq_true rfl, Nat.le_of_ble_eq_true rfl⟩ dX4_balance_38 ?_
          refine lv_goto (tgt := 51) S.1 S.2.1 dX4_balance_41 (by decide) ?_
          exact rL S hr hlk hs dX4_balance_51
      · have hs := hs.trans (cif_f c4)
        refine lv_ldc2 S.1 S.2.1 S.2.2.2.1 (S.2.2.2.2 _ wKL_RX4_106) dX4_balance_25 ?_
        exact rL S hr hlk hs dX4_balance_28
set_option maxRecDepth 100000 in
set_option maxHeartbeats 8000000 in
theorem c_X4_linesBeyond (l : Launch) (D : va_G) (G : Gc) (M T : Nat) (ad : Nat → Nat → Nat) (d : Dt) (p1 : Int32) (p2 : Int32) (hI : XI M T d) : Met l yX4_linesBeyond (wsU yX4_linesBeyond cX4_linesBeyond 5 (some .int)) ({ frames := 4, cells := 0, slots := 0, locals := 97 } : Room) (va_Pc [.ref (ad 0 0), .int p1, .int p2] (XPre D (tysG G) (XF G M T ad) (XN M T) ad d)) (qV (some (.int (sp_X4_linesBeyond d p1 p2)))) 0 0 (fun _ => False) := by
  refine ent (by decide +kernel) (Nat.le_of_ble_eq_true rfl) ?_
  intro p e s m below meth c S hr hlk hpre ls hl
  have S : CallFix p m c cX4_linesBeyond 5 s [.ref (ad 0 0), .int p1, .int p2].toArray wsL_law RX4 := S
  obtain ⟨hK, hN, hX⟩ := hpre
  have hl : lv_has ls 5 [(0, .ref (ad 0 0)), (1, .int p1), (2, .int p2)] := hl
  have hs := sp_X4_linesBeyond.eq_1 d p1 p2
  have q1 := hI.1
  have q2 := hI.2.1
  have q3 := hI.2.2.1
  have q4 := hI.2.2.2.1
  have q5 := hI.rc
  refine lv_iconst (v := 0) S.1 S.2.1 dX4_linesBeyond_0 (by decide) ?_
  refine lv_istore_n (lv' := [(3, .int 0), (0, .ref (ad 0 0)), (1, .int p1), (2, .int p2)]) S.1 S.2.1 dX4_linesBeyond_1 rfl hl (by decide) rfl (fun ls hl => ?_)
  refine lv_iconst (v := 0) S.1 S.2.1 dX4_linesBeyond_2 (by decide) ?_
  refine lv_istore (lv' := [(4, .int 0), (3, .int 0), (0, .ref (ad 0 0)), (1, .int p1), (2, .int p2)]) S.1 S.2.1 dX4_linesBeyond_3 hl (by decide) rfl (fun ls hl => ?_)
  have L5 : ∀ (n : Nat), ∀ (x4 : Int32) (x3 : Int32), 4 - x4.toInt < (n : Int) → 0 ≤ x4.toInt → x4.toInt ≤ 4 → sp_X4_linesBeyond d p1 p2 = lp_X4_linesBeyond_5 d p1 p2 n x4 x3 → ∀ ls : Array Slot, lv_has ls 5 [(4, .int x4), (3, .int x3), (0, .ref (ad 0 0)), (1, .int p1), (2, .int p2)] → W p l e ({ frames := 4, cells := 0, slots := 0, locals := 97 } : Room) s m [.ref (ad 0 0), .int p1, .int p2].toArray below meth c s.heap [] 0 0 (MQ below (qV (some (.int (sp_X4_linesBeyond d p1 p2)))) [.ref (ad 0 0), .int p1, .int p2].toArray s 0 0 (fun _ => False)) (F0 m 5 ls []) := by
    intro n
    induction n with
    | zero => intro x4 x3 hms v5_0 v5_1 hs ls hl; omega
    | succ n ih5 =>
      intro x4 x3 hms v5_0 v5_1 hs ls hl
      have hs := hs.trans (st_X4_linesBeyond_5.eq_1 d p1 p2 (lp_X4_linesBeyond_5 d p1 p2 n) x4 x3)
      refine lv_iload S.1 S.2.1 dX4_linesBeyond_5 (lv_at hl 0 rfl) ?_
      refine lv_iconst (v := 4) S.1 S.2.1 dX4_linesBeyond_7 (by decide) ?_
      refine q_icmp_ge (tgt := 47) (xi := x4.toInt) (yi := 4) S rfl rfl dX4_linesBeyond_8 (by decide) (fun c1 => ?_) (fun c1 => ?_)
      · have hs := hs.trans (cif_t c1)
        refine lv_iload_n S.1 S.2.1 dX4_linesBeyond_47 rfl (lv_at hl 1 rfl) ?_
        exact rI S hr hlk hs dX4_linesBeyond_48
      · have hs := hs.trans (cif_f c1)
        refine lv_aload_n S.1 S.2.1 dX4_linesBeyond_11 rfl (lv_at hl 2 rfl) ?_
        refine lv_iload S.1 S.2.1 dX4_linesBeyond_12 (lv_at hl 0 rfl) ?_
        refine lv_iload_n S.1 S.2.1 dX4_linesBeyond_14 rfl (lv_at hl 3 rfl) ?_
        refine lv_iload_n S.1 S.2.1 dX4_linesBeyond_15 rfl (lv_at hl 4 rfl) ?_
        refine cPV (rest := []) S (c_X4_imbalanceOf l D G M T ad d x4 p1 p2 hI (by omega) (by omega)) gV_RX4_206 ds_X4_imbalanceOf ⟨rfl, rfl⟩ ⟨Nat.le_of_ble_eq_true rfl, Nat.le_of_ble_eq_true rfl⟩ ⟨blindX, recvX hK hX (k := 0) (i := 0) Nat.zero_lt_one rfl rfl, preX hK hN hX _⟩ rfl hl.1 rfl (Nat.le_of_ble_eq_true rfl) ⟨Nat.le_of_ble_eq_true rfl, Nat.le_of_ble_eq_true rfl⟩ dX4_linesBeyond_16 ?_
        refine va_mabs_long S.1 S.2.1 (S.2.2.1.trans hl.1.symm) S.2.2.2.1 (S.2.2.2.2 _ wML_RX4_299) (S.2.2.2.2 _ wST_J9_abs_067f4) (S.2.2.2.2 _ wIN_RJ9) (S.2.2.2.2 _ wCO_J9_abs_067f4) (Nat.le_of_ble_eq_true rfl) (Nat.le_of_ble_eq_true rfl) (Nat.le_of_ble_eq_true rfl) (Nat.le_of_ble_eq_true rfl) dX4_linesBeyond_19 ?_
        refine lv_aload_n S.1 S.2.1 dX4_linesBeyond_22 rfl (lv_at hl 2 rfl) ?_
        refine lv_iload S.1 S.2.1 dX4_linesBeyond_23 (lv_at hl 0 rfl) ?_
        refine lv_iload_n S.1 S.2.1 dX4_linesBeyond_25 rfl (lv_at hl 3 rfl) ?_
        refine lv_iload_n S.1 S.2.1 dX4_linesBeyond_26 rfl (lv_at hl 4 rfl) ?_
        refine cPV (rest := [.long (if 0 < (sp_X4_imbalanceOf d x4 p1 p2) then (sp_X4_imbalanceOf d x4 p1 p2) else -(sp_X4_imbalanceOf d x4 p1 p2))]) S (c_X4_endsOf l D G M T ad d x4 p1 p2 hI (by omega) (by omega)) gV_RX4_209 ds_X4_endsOf ⟨rfl, rfl⟩ ⟨Nat.le_of_ble_eq_true rfl, Nat.le_of_ble_eq_true rfl⟩ ⟨blindX, recvX hK hX (k := 0) (i := 0) Nat.zero_lt_one rfl rfl, preX hK hN hX _⟩ rfl hl.1 rfl (Nat.le_of_ble_eq_true rfl) ⟨Nat.le_of_ble_eq_true rfl, Nat.le_of_ble_eq_true rfl⟩ dX4_linesBeyond_27 ?_
        refine q_lcmp_le (tgt := 41) (xi := (if 0 < (sp_X4_imbalanceOf d x4 p1 p2) then (sp_X4_imbalanceOf d x4 p1 p2) else -(sp_X4_imbalanceOf d x4 p1 p2)).toInt) (yi := (sp_X4_endsOf d x4 p1 p2).toInt) S rfl rfl dX4_linesBeyond_30 dX4_linesBeyond_31 (by decide) (fun c2 => ?_) (fun c2 => ?_)
        · have hs := hs.trans (cif_t c2)
          refine lv_iinc (v := x4 + 1) (lv' := [(4, .int (x4 + 1)), (3, .int x3), (0, .ref (ad 0 0)), (1, .int p1), (2, .int p2)]) S.1 S.2.1 dX4_linesBeyond_41 hl (k := 0) rfl (by rfl) (by decide) rfl (fun ls hl => ?_)
          refine lv_goto (tgt := 5) S.1 S.2.1 dX4_linesBeyond_44 (by decide) ?_
          have e9 : ((x4 + 1)).toInt = x4.toInt + 1 := ti1 (by omega)
          exact ih5 (x4 + 1) x3 (by omega) (by omega) (by omega) hs _ (lv_sub hl [0, 1, 2, 3, 4] rfl)
        · have hs := hs.trans (cif_f c2)
          refine lv_iload_n S.1 S.2.1 dX4_linesBeyond_34 rfl (lv_at hl 1 rfl) ?_
          refine lv_iconst (v := 1) S.1 S.2.1 dX4_linesBeyond_35 (by decide) ?_
          refine lv_iload S.1 S.2.1 dX4_linesBeyond_36 (lv_at hl 0 rfl) ?_
          refine lv_ishl S.1 S.2.1 dX4_linesBeyond_38 ?_
          refine lv_ior S.1 S.2.1 dX4_linesBeyond_39 ?_
          refine lv_istore_n (lv' := [(3, .int (x3 ||| (1 <<< (x4 &&& 31)))), (4, .int x4), (0, .ref (ad 0 0)), (1, .int p1), (2, .int p2)]) S.1 S.2.1 dX4_linesBeyond_40 rfl hl (by decide) rfl (fun ls hl => ?_)
          refine lv_iinc (v := x4 + 1) (lv' := [(4, .int (x4 + 1)), (3, .int (x3 ||| (1 <<< (x4 &&& 31)))), (0, .ref (ad 0 0)), (1, .int p1), (2, .int p2)]) S.1 S.2.1 dX4_linesBeyond_41 hl (k := 1) rfl (by rfl) (by decide) rfl (fun ls hl => ?_)
          refine lv_goto (tgt := 5) S.1 S.2.1 dX4_linesBeyond_44 (by decide) ?_
          have e9 : ((x4 + 1)).toInt = x4.toInt + 1 := ti1 (by omega)
          exact ih5 (x4 + 1) (x3 ||| (1 <<< (x4 &&& 31))) (by omega) (by omega) (by omega) hs _ (lv_sub hl [0, 1, 2, 3, 4] rfl)
  exact L5 16 0 0 (by first | omega | (simp only [Int32.toInt_zero]; omega)) (by first | omega | (simp only [Int32.toInt_zero]; omega)) (by first | omega | (simp only [Int32.toInt_zero]; omega)) hs _ (lv_sub hl [0, 1, 2, 3, 4] rfl)
set_option maxRecDepth 100000 in
set_option maxHeartbeats 8000000 in
theorem c_X4_beyond (l : Launch) (D : va_G) (G : Gc) (M T : Nat) (ad : Nat → Nat → Nat) (d : Dt) (p1 : Int32) (p2 : Int32) (hI : XI M T d) : Met l yX4_beyond (wsU yX4_beyond cX4_beyond 3 (some .int)) ({ frames := 5, cells := 0, slots := 0, locals := 121 } : Room) (va_Pc [.ref (ad 0 0), .int p1, .int p2] (XPre D (tysG G) (XF G M T ad) (XN M T) ad d)) (qV (some (.int (sp_X4_beyond d p1 p2)))) 0 0 (fun _ => False) := by
  refine ent (by decide +kernel) (Nat.le_of_ble_eq_true rfl) ?_
  intro p e s m below meth c S hr hlk hpre ls hl
  have S : CallFix p m c cX4_beyond 3 s [.ref (ad 0 0), .int p1, .int p2].toArray wsL_law RX4 := S
  obtain ⟨hK, hN, hX⟩ := hpre
  have hl : lv_has ls 3 [(0, .ref (ad 0 0)), (1, .int p1), (2, .int p2)] := hl
  have hs := sp_X4_beyond.eq_1 d p1 p2
  have q1 := hI.1
  have q2 := hI.2.1
  have q3 := hI.2.2.1
  have q4 := hI.2.2.2.1
  have q5 := hI.rc
  refine lv_iload_n S.1 S.2.1 dX4_beyond_0 rfl (lv_at hl 1 rfl) ?_
  refine lv_iload_n S.1 S.2.1 dX4_beyond_1 rfl (lv_at hl 2 rfl) ?_
  refine cPS (rest := []) S (c_X4_areDays l p1 p2) gS_RX4_164 ds_X4_areDays.2 ⟨rfl, rfl⟩ ⟨Nat.le_of_ble_eq_true rfl, Nat.le_of_ble_eq_true rfl⟩ rfl hl.1 rfl (Nat.le_of_ble_eq_true rfl) ⟨Nat.le_of_ble_eq_true rfl, Nat.le_of_ble_eq_true rfl⟩ dX4_beyond_2 ?_
  refine q_if_eq_b (tgt := 17) S dX4_beyond_5 (by decide) (fun c1 => ?_) (fun c1 => ?_)
  · have hs := hs.trans (cif_f c1)
    refine lv_bipush (v := (-2)) S.1 S.2.1 dX4_beyond_17 (by decide) ?_
    exact rI S hr hlk hs dX4_beyond_19
  · have hs := hs.trans (cif_t c1)
    refine lv_aload_n S.1 S.2.1 dX4_beyond_8 rfl (lv_at hl 0 rfl) ?_
    refine lv_iload_n S.1 S.2.1 dX4_beyond_9 rfl (lv_at hl 1 rfl) ?_
    refine lv_iload_n S.1 S.2.1 dX4_beyond_10 rfl (lv_at hl 2 rfl) ?_
    refine cPV (rest := []) S (c_X4_linesBeyond l D G M T ad d p1 p2 hI) gV_RX4_212 ds_X4_linesBeyond ⟨rfl, rfl⟩ ⟨Nat.le_of_ble_eq_true rfl, Nat.le_of_ble_eq_true rfl⟩ ⟨blindX, recvX hK hX (k := 0) (i := 0) Nat.zero_lt_one rfl rfl, preX hK hN hX _⟩ rfl hl.1 rfl (Nat.le_of_ble_eq_true rfl) ⟨Nat.le_of_ble_eq_true rfl, Nat.le_of_ble_eq_true rfl⟩ dX4_beyond_11 ?_
    refine lv_goto (tgt := 19) S.1 S.2.1 dX4_beyond_14 (by decide) ?_
    exact rI S hr hlk hs dX4_beyond_19
set_option maxRecDepth 100000 in
set_option maxHeartbeats 8000000 in
theorem c_X4_explains (l : Launch) (D : va_G) (G : Gc) (M T : Nat) (ad : Nat → Nat → Nat) (d : Dt) (p1 : Int32) (p2 : Int32) (p3 : Int32) (hI : XI M T d) : Met l yX4_explains (wsU yX4_explains cX4_explains 15 (some .long)) ({ frames := 5, cells := 0, slots := 0, locals := 121 } : Room) (va_Pc [.ref (ad 0 0), .int p1, .int p2, .int p3] (XPre D (tysG G) (XF G M T ad) (XN M T) ad d)) (qV (some (.long (sp_X4_explains d p1 p2 p3)))) 0 0 (fun _ => False) := by
  refine ent (by decide +kernel) (Nat.le_of_ble_eq_true rfl) ?_
  intro p e s m below meth c S hr hlk hpre ls hl
  have S : CallFix p m c cX4_explains 15 s [.ref (ad 0 0), .int p1, .int p2, .int p3].toArray wsL_law RX4 := S
  obtain ⟨hK, hN, hX⟩ := hpre
  have hl : lv_has ls 15 [(0, .ref (ad 0 0)), (1, .int p1), (2, .int p2), (3, .int p3)] := hl
  have hs := sp_X4_explains.eq_1 d p1 p2 p3
  have q1 := hI.1
  have q2 := hI.2.1
  have q3 := hI.2.2.1
  have q4 := hI.2.2.2.1
  have q5 := hI.rc
  refine lv_aload_n S.1 S.2.1 dX4_explains_0 rfl (lv_at hl 0 rfl) ?_
  refine lv_iload_n S.1 S.2.1 dX4_explains_1 rfl (lv_at hl 1 rfl) ?_
  refine cPV (rest := []) S (c_X4_isMeter l D G M T ad d p1) gV_RX4_61 ds_X4_isMeter ⟨rfl, rfl⟩ ⟨Nat.le_of_ble_eq_true rfl, Nat.le_of_ble_eq_true rfl⟩ ⟨blindX, recvX hK hX (k := 0) (i := 0) Nat.zero_lt_one rfl rfl, preX hK hN hX _⟩ rfl hl.1 rfl (Nat.le_of_ble_eq_true rfl) ⟨Nat.le_of_ble_eq_true rfl, Nat.le_of_ble_eq_true rfl⟩ dX4_explains_2 ?_
  refine q_if_eq_b (tgt := 16) S dX4_explains_5 (by decide) (fun c1 => ?_) (fun c1 => ?_)
  · have hs := hs.trans (cif_f c1)
    refine lv_ldc2 S.1 S.2.1 S.2.2.2.1 (S.2.2.2.2 _ wKL_RX4_106) dX4_explains_16 ?_
    exact rL S hr hlk hs dX4_explains_19
  · have hs := hs.trans (cif_t c1)
    have f2 := im_of hI c1
    refine lv_iload_n S.1 S.2.1 dX4_explains_8 rfl (lv_at hl 2 rfl) ?_
    refine lv_iload_n S.1 S.2.1 dX4_explains_9 rfl (lv_at hl 3 rfl) ?_
    refine cPS (rest := []) S (c_X4_areDays l p2 p3) gS_RX4_164 ds_X4_areDays.2 ⟨rfl, rfl⟩ ⟨Nat.le_of_ble_eq_true rfl, Nat.le_of_ble_eq_true rfl⟩ rfl hl.1 rfl (Nat.le_of_ble_eq_true rfl) ⟨Nat.le_of_ble_eq_true rfl, Nat.le_of_ble_eq_true rfl⟩ dX4_explains_10 ?_
    refine q_if_ne_b (tgt := 20) S dX4_explains_13 (by decide) (fun c3 => ?_) (fun c3 => ?_)
    · have hs := hs.trans (cif_t c3)
      refine lv_aload_n S.1 S.2.1 dX4_explains_20 rfl (lv_at hl 0 rfl) ?_
      refine lv_iload_n S.1 S.2.1 dX4_explains_21 rfl (lv_at hl 2 rfl) ?_
      refine lv_iload_n S.1 S.2.1 dX4_explains_22 rfl (lv_at hl 3 rfl) ?_
      refine cPV (rest := []) S (c_X4_linesBeyond l D G M T ad d p2 p3 hI) gV_RX4_212 ds_X4_linesBeyond ⟨rfl, rfl⟩ ⟨Nat.le_of_ble_eq_true rfl, Nat.le_of_ble_eq_true rfl⟩ ⟨blindX, recvX hK hX (k := 0) (i := 0) Nat.zero_lt_one rfl rfl, preX hK hN hX _⟩ rfl hl.1 rfl (Nat.le_of_ble_eq_true rfl) ⟨Nat.le_of_ble_eq_true rfl, Nat.le_of_ble_eq_true rfl⟩ dX4_explains_23 ?_
      refine lv_istore (lv' := [(4, .int (sp_X4_linesBeyond d p2 p3)), (0, .ref (ad 0 0)), (1, .int p1), (2, .int p2), (3, .int p3)]) S.1 S.2.1 dX4_explains_26 hl (by decide) rfl (fun ls hl => ?_)
      refine lv_ldc2 S.1 S.2.1 S.2.2.2.1 (S.2.2.2.2 _ wKL_RX4_215) dX4_explains_28 ?_
      refine lv_lstore (lv' := [(5, .long (-1152921504606846976)), (4, .int (sp_X4_linesBeyond d p2 p3)), (0, .ref (ad 0 0)), (1, .int p1), (2, .int p2), (3, .int p3)]) S.1 S.2.1 dX4_explains_31 hl (by decide) rfl (fun ls hl => ?_)
      refine lv_ldc2 S.1 S.2.1 S.2.2.2.1 (S.2.2.2.2 _ wKL_RX4_217) dX4_explains_33 ?_
      refine lv_lstore (lv' := [(7, .long 1152921504606846976), (5, .long (-1152921504606846976)), (4, .int (sp_X4_linesBeyond d p2 p3)), (0, .ref (ad 0 0)), (1, .int p1), (2, .int p2), (3, .int p3)]) S.1 S.2.1 dX4_explains_36 hl (by decide) rfl (fun ls hl => ?_)
      refine lv_iconst (v := 0) S.1 S.2.1 dX4_explains_38 (by decide) ?_
      refine lv_istore (lv' := [(9, .int 0), (7, .long 1152921504606846976), (5, .long (-1152921504606846976)), (4, .int (sp_X4_linesBeyond d p2 p3)), (0, .ref (ad 0 0)), (1, .int p1), (2, .int p2), (3, .int p3)]) S.1 S.2.1 dX4_explains_39 hl (by decide) rfl (fun ls hl => ?_)
      obtain ⟨x4, ex4⟩ : ∃ z : Int32, z = sp_X4_linesBeyond d p2 p3 := ⟨_, rfl⟩
      have L41 : ∀ (n : Nat), ∀ (x9 : Int32) (x7 : Int64) (x5 : Int64), 4 - x9.toInt < (n : Int) → 0 ≤ x9.toInt → x9.toInt ≤ 4 → sp_X4_explains d p1 p2 p3 = lp_X4_explains_41 d p1 p2 p3 x4 n x9 x7 x5 → ∀ ls : Array Slot, lv_has ls 15 [(9, .int x9), (7, .long x7), (5, .long x5), (4, .int x4), (0, .ref (ad 0 0)), (1, .int p1), (2, .int p2), (3, .int p3)] → W p l e ({ frames := 5, cells := 0, slots := 0, locals := 121 } : Room) s m [.ref (ad 0 0), .int p1, .int p2, .int p3].toArray below meth c s.heap [] 0 0 (MQ below (qV (some (.long (sp_X4_explains d p1 p2 p3)))) [.ref (ad 0 0), .int p1, .int p2, .int p3].toArray s 0 0 (fun _ => False)) (F0 m 41 ls []) := by
        intro n
        induction n with
        | zero => intro x9 x7 x5 hms v41_0 v41_1 hs ls hl; omega
        | succ n ih41 =>
          intro x9 x7 x5 hms v41_0 v41_1 hs ls hl
          have hs := hs.trans (st_X4_explains_41.eq_1 d p1 p2 p3 x4 (lp_X4_explains_41 d p1 p2 p3 x4 n) x9 x7 x5)
          refine lv_iload S.1 S.2.1 dX4_explains_41 (lv_at hl 0 rfl) ?_
          refine lv_iconst (v := 4) S.1 S.2.1 dX4_explains_43 (by decide) ?_
          refine q_icmp_ge (tgt := 137) (xi := x9.toInt) (yi := 4) S rfl rfl dX4_explains_44 (by decide) (fun c4 => ?_) (fun c4 => ?_)
          · have hs := hs.trans (cif_t c4)
            refine lv_iload S.1 S.2.1 dX4_explains_137 (lv_at hl 3 rfl) ?_
            refine q_if_eq (tgt := 150) (xi := x4.toInt) S rfl dX4_explains_139 (by decide) (fun c5 => ?_) (fun c5 => ?_)
            · have hs := hs.trans (cif_t c5)
              refine lv_lconst (v := 0) S.1 S.2.1 dX4_explains_150 (by decide) ?_
              exact rL S hr hlk hs dX4_explains_151
            · have hs := hs.trans (cif_f c5)
              refine lv_lload S.1 S.2.1 dX4_explains_142 (lv_at hl 2 rfl) ?_
              refine lv_lload S.1 S.2.1 dX4_explains_144 (lv_at hl 1 rfl) ?_
              refine q_lcmp_le (tgt := 152) (xi := x5.toInt) (yi := x7.toInt) S rfl rfl dX4_explains_146 dX4_explains_147 (by decide) (fun c6 => ?_) (fun c6 => ?_)
              · have hs := hs.trans (cif_t c6)
                refine lv_lload S.1 S.2.1 dX4_explains_152 (lv_at hl 2 rfl) ?_
                refine lv_lconst (v := 0) S.1 S.2.1 dX4_explains_154 (by decide) ?_
                refine q_lcmp_le (tgt := 164) (xi := x5.toInt) (yi := 0) S rfl rfl dX4_explains_155 dX4_explains_156 (by decide) (fun c7 => ?_) (fun c7 => ?_)
                · have hs := hs.trans (cif_t c7)
                  refine lv_lload S.1 S.2.1 dX4_explains_164 (lv_at hl 1 rfl) ?_
                  exact rL S hr hlk hs dX4_explains_166
                · have hs := hs.trans (cif_f c7)
                  refine lv_lload S.1 S.2.1 dX4_explains_159 (lv_at hl 2 rfl) ?_
                  refine lv_goto (tgt := 166) S.1 S.2.1 dX4_explains_161 (by decide) ?_
                  exact rL S hr hlk hs dX4_explains_166
              · have hs := hs.trans (cif_f c6)
                refine lv_lconst (v := 0) S.1 S.2.1 dX4_explains_150 (by decide) ?_
                exact rL S hr hlk hs dX4_explains_151
          · have hs := hs.trans (cif_f c4)
            refine lv_aload_n S.1 S.2.1 dX4_explains_47 rfl (lv_at hl 4 rfl) ?_
            refine gf_RX4_13 S hK hX dX4_explains_48 ?_
            refine lv_iload_n S.1 S.2.1 dX4_explains_51 rfl (lv_at hl 5 rfl) ?_
            have hx8 : ix p1 < M := ix_lt (by omega) (by omega)
            refine al_X1 S hK hX (by omega) (by omega) hx8 dX4_explains_52 ?_
            have f8 := hI.fc hx8
            refine gf_RX4_200 S hK hX hx8 dX4_explains_53 ?_
            refine lv_iload S.1 S.2.1 dX4_explains_56 (lv_at hl 0 rfl) ?_
            refine al_X9 S hK hX hx8 (by omega) (by omega) (z := d.1 9 (ix p1) (ix x9)) rfl dX4_explains_58 ?_
            refine lv_istore (lv' := [(10, .int (d.1 9 (ix p1) (ix x9))), (9, .int x9), (7, .long x7), (5, .long x5), (4, .int x4), (0, .ref (ad 0 0)), (1, .int p1), (2, .int p2), (3, .int p3)]) S.1 S.2.1 dX4_explains_59 hl (by decide) rfl (fun ls hl => ?_)
            refine lv_iload S.1 S.2.1 dX4_explains_61 (lv_at hl 0 rfl) ?_
            refine q_if_eq (tgt := 118) (xi := (d.1 9 (ix p1) (ix x9)).toInt) S rfl dX4_explains_63 (by decide) (fun c9 => ?_) (fun c9 => ?_)
            · have hs := hs.trans (cif_t c9)
              refine lv_iload S.1 S.2.1 dX4_explains_118 (lv_at hl 4 rfl) ?_
              refine lv_iload S.1 S.2.1 dX4_explains_120 (lv_at hl 1 rfl) ?_
              refine lv_ishr S.1 S.2.1 dX4_explains_122 ?_
              refine lv_iconst (v := 1) S.1 S.2.1 dX4_explains_123 (by decide) ?_
              refine lv_iand S.1 S.2.1 dX4_explains_124 ?_
              refine lv_iconst (v := 1) S.1 S.2.1 dX4_explains_125 (by decide) ?_
              refine q_icmp_ne (tgt := 131) (xi := ((x4 >>> (x9 &&& 31)) &&& 1).toInt) (yi := 1) S rfl rfl dX4_explains_126 (by decide) (fun c10 => ?_) (fun c10 => ?_)
              · have hs := hs.trans (cif_f c10)
                refine lv_iinc (v := x9 + 1) (lv' := [(9, .int (x9 + 1)), (10, .int (d.1 9 (ix p1) (ix x9))), (7, .long x7), (5, .long x5), (4, .int x4), (0, .ref (ad 0 0)), (1, .int p1), (2, .int p2), (3, .int p3)]) S.1 S.2.1 dX4_explains_131 hl (k := 1) rfl (by rfl) (by decide) rfl (fun ls hl => ?_)
                refine lv_goto (tgt := 41) S.1 S.2.1 dX4_explains_134 (by decide) ?_
                have e9 : ((x9 + 1)).toInt = x9.toInt + 1 := ti1 (by omega)
                exact ih41 (x9 + 1) x7 x5 (by omega) (by omega) (by omega) hs _ (lv_sub hl [0, 2, 3, 4, 5, 6, 7, 8] rfl)
              · have hs := hs.trans (cif_t c10)
                refine lv_lconst (v := 0) S.1 S.2.1 dX4_explains_129 (by decide) ?_
                exact rL S hr hlk hs dX4_explains_130
            · have hs := hs.trans (cif_f c9)
              refine lv_iload S.1 S.2.1 dX4_explains_66 (lv_at hl 0 rfl) ?_
              refine lv_ineg S.1 S.2.1 dX4_explains_68 ?_
              refine lv_i2l S.1 S.2.1 dX4_explains_69 rfl ?_
              refine lv_aload_n S.1 S.2.1 dX4_explains_70 rfl (lv_at hl 5 rfl) ?_
              refine lv_iload S.1 S.2.1 dX4_explains_71 (lv_at hl 1 rfl) ?_
              refine lv_iload_n S.1 S.2.1 dX4_explains_73 rfl (lv_at hl 7 rfl) ?_
              refine lv_iload_n S.1 S.2.1 dX4_explains_74 rfl (lv_at hl 8 rfl) ?_
              refine cPV (rest := [.long ((-(d.1 9 (ix p1) (ix x9))).toInt64)]) S (c_X4_imbalanceOf l D G M T ad d x9 p2 p3 hI (by omega) (by omega)) gV_RX4_206 ds_X4_imbalanceOf ⟨rfl, rfl⟩ ⟨Nat.le_of_ble_eq_true rfl, Nat.le_of_ble_eq_true rfl⟩ ⟨blindX, recvX hK hX (k := 0) (i := 0) Nat.zero_lt_one rfl rfl, preX hK hN hX _⟩ rfl hl.1 rfl (Nat.le_of_ble_eq_true rfl) ⟨Nat.le_of_ble_eq_true rfl, Nat.le_of_ble_eq_true rfl⟩ dX4_explains_75 ?_
              refine lv_lmul S.1 S.2.1 dX4_explains_78 ?_
              refine lv_lstore (lv' := [(11, .long (((-(d.1 9 (ix p1) (ix x9))).toInt64) * (sp_X4_imbalanceOf d x9 p2 p3))), (10, .int (d.1 9 (ix p1) (ix x9))), (9, .int x9), (7, .long x7), (5, .long x5), (4, .int x4), (0, .ref (ad 0 0)), (1, .int p1), (2, .int p2), (3, .int p3)]) S.1 S.2.1 dX4_explains_79 hl (by decide) rfl (fun ls hl => ?_)
              refine lv_aload_n S.1 S.2.1 dX4_explains_81 rfl (lv_at hl 6 rfl) ?_
              refine lv_iload S.1 S.2.1 dX4_explains_82 (lv_at hl 2 rfl) ?_
              refine lv_iload_n S.1 S.2.1 dX4_explains_84 rfl (lv_at hl 8 rfl) ?_
              refine lv_iload_n S.1 S.2.1 dX4_explains_85 rfl (lv_at hl 9 rfl) ?_
              refine cPV (rest := []) S (c_X4_endsOf l D G M T ad d x9 p2 p3 hI (by omega) (by omega)) gV_RX4_209 ds_X4_endsOf ⟨rfl, rfl⟩ ⟨Nat.le_of_ble_eq_true rfl, Nat.le_of_ble_eq_true rfl⟩ ⟨blindX, recvX hK hX (k := 0) (i := 0) Nat.zero_lt_one rfl rfl, preX hK hN hX _⟩ rfl hl.1 rfl (Nat.le_of_ble_eq_true rfl) ⟨Nat.le_of_ble_eq_true rfl, Nat.le_of_ble_eq_true rfl⟩ dX4_explains_86 ?_
              refine lv_lstore (lv' := [(13, .long (sp_X4_endsOf d x9 p2 p3)), (11, .long (((-(d.1 9 (ix p1) (ix x9))).toInt64) * (sp_X4_imbalanceOf d x9 p2 p3))), (10, .int (d.1 9 (ix p1) (ix x9))), (9, .int x9), (7, .long x7), (5, .long x5), (4, .int x4), (0, .ref (ad 0 0)), (1, .int p1), (2, .int p2), (3, .int p3)]) S.1 S.2.1 dX4_explains_89 hl (by decide) rfl (fun ls hl => ?_)
              refine lv_lload S.1 S.2.1 dX4_explains_91 (lv_at hl 5 rfl) ?_
              refine lv_lload S.1 S.2.1 dX4_explains_93 (lv_at hl 1 rfl) ?_
              refine lv_lload S.1 S.2.1 dX4_explains_95 (lv_at hl 0 rfl) ?_
              refine lv_lsub S.1 S.2.1 dX4_explains_97 ?_
              refine va_mmax_long S.1 S.2.1 (S.2.2.1.trans hl.1.symm) S.2.2.2.1 (S.2.2.2.2 _ wML_RX4_219) (S.2.2.2.2 _ wST_J9_max_f86c9) (S.2.2.2.2 _ wIN_RJ9) (S.2.2.2.2 _ wCO_J9_max_f86c9) (Nat.le_of_ble_eq_true rfl) (Nat.le_of_ble_eq_true rfl) (Nat.le_of_ble_eq_true rfl) (Nat.le_of_ble_eq_true rfl) dX4_explains_98 ?_
              refine lv_lstore (lv' := [(5, .long (if ((((-(d.1 9 (ix p1) (ix x9))).toInt64) * (sp_X4_imbalanceOf d x9 p2 p3)) - (sp_X4_endsOf d x9 p2 p3)) < x5 then x5 else ((((-(d.1 9 (ix p1) (ix x9))).toInt64) * (sp_X4_imbalanceOf d x9 p2 p3)) - (sp_X4_endsOf d x9 p2 p3)))), (13, .long (sp_X4_endsOf d x9 p2 p3)), (11, .long (((-(d.1 9 (ix p1) (ix x9))).toInt64) * (sp_X4_imbalanceOf d x9 p2 p3))), (10, .int (d.1 9 (ix p1) (ix x9))), (9, .int x9), (7, .long x7), (4, .int x4), (0, .ref (ad 0 0)), (1, .int p1), (2, .int p2), (3, .int p3)]) S.1 S.2.1 dX4_explains_101 hl (by decide) rfl (fun ls hl => ?_)
              refine lv_lload S.1 S.2.1 dX4_explains_103 (lv_at hl 5 rfl) ?_
              refine lv_lload S.1 S.2.1 dX4_explains_105 (lv_at hl 2 rfl) ?_
              refine lv_lload S.1 S.2.1 dX4_explains_107 (lv_at hl 1 rfl) ?_
              refine lv_ladd S.1 S.2.1 dX4_explains_109 ?_
              refine va_mmin_long S.1 S.2.1 (S.2.2.1.trans hl.1.symm) S.2.2.2.1 (S.2.2.2.2 _ wML_RX4_225) (S.2.2.2.2 _ wST_J9_min_f86c9) (S.2.2.2.2 _ wIN_RJ9) (S.2.2.2.2 _ wCO_J9_min_f86c9) (Nat.le_of_ble_eq_true rfl) (Nat.le_of_ble_eq_true rfl) (Nat.le_of_ble_eq_true rfl) (Nat.le_of_ble_eq_true rfl) dX4_explains_110 ?_
              refine lv_lstore (lv' := [(7, .long (if ((((-(d.1 9 (ix p1) (ix x9))).toInt64) * (sp_X4_imbalanceOf d x9 p2 p3)) + (sp_X4_endsOf d x9 p2 p3)) < x7 then ((((-(d.1 9 (ix p1) (ix x9))).toInt64) * (sp_X4_imbalanceOf d x9 p2 p3)) + (sp_X4_endsOf d x9 p2 p3)) else x7)), (5, .long (if ((((-(d.1 9 (ix p1) (ix x9))).toInt64) * (sp_X4_imbalanceOf d x9 p2 p3)) - (sp_X4_endsOf d x9 p2 p3)) < x5 then x5 else ((((-(d.1 9 (ix p1) (ix x9))).toInt64) * (sp_X4_imbalanceOf d x9 p2 p3)) - (sp_X4_endsOf d x9 p2 p3)))), (13, .long (sp_X4_endsOf d x9 p2 p3)), (11, .long (((-(d.1 9 (ix p1) (ix x9))).toInt64) * (sp_X4_imbalanceOf d x9 p2 p3))), (10, .int (d.1 9 (ix p1) (ix x9))), (9, .int x9), (4, .int x4), (0, .ref (ad 0 0)), (1, .int p1), (2, .int p2), (3, .int p3)]) S.1 S.2.1 dX4_explains_113 hl (by decide) rfl (fun ls hl => ?_)
              refine lv_goto (tgt := 131) S.1 S.2.1 dX4_explains_115 (by decide) ?_
              refine lv_iinc (v := x9 + 1) (lv' := [(9, .int (x9 + 1)), (7, .long (if ((((-(d.1 9 (ix p1) (ix x9))).toInt64) * (sp_X4_imbalanceOf d x9 p2 p3)) + (sp_X4_endsOf d x9 p2 p3)) < x7 then ((((-(d.1 9 (ix p1) (ix x9))).toInt64) * (sp_X4_imbalanceOf d x9 p2 p3)) + (sp_X4_endsOf d x9 p2 p3)) else x7)), (5, .long (if ((((-(d.1 9 (ix p1) (ix x9))).toInt64) * (sp_X4_imbalanceOf d x9 p2 p3)) - (sp_X4_endsOf d x9 p2 p3)) < x5 then x5 else ((((-(d.1 9 (ix p1) (ix x9))).toInt64) * (sp_X4_imbalanceOf d x9 p2 p3)) - (sp_X4_endsOf d x9 p2 p3)))), (13, .long (sp_X4_endsOf d x9 p2 p3)), (11, .long (((-(d.1 9 (ix p1) (ix x9))).toInt64) * (sp_X4_imbalanceOf d x9 p2 p3))), (10, .int (d.1 9 (ix p1) (ix x9))), (4, .int x4), (0, .ref (ad 0 0)), (1, .int p1), (2, .int p2), (3, .int p3)]) S.1 S.2.1 dX4_explains_131 hl (k := 5) rfl (by rfl) (by decide) rfl (fun ls hl => ?_)
              refine lv_goto (tgt := 41) S.1 S.2.1 dX4_explains_134 (by decide) ?_
              have e9 : ((x9 + 1)).toInt = x9.toInt + 1 := ti1 (by omega)
              exact ih41 (x9 + 1) (if ((((-(d.1 9 (ix p1) (ix x9))).toInt64) * (sp_X4_imbalanceOf d x9 p2 p3)) + (sp_X4_endsOf d x9 p2 p3)) < x7 then ((((-(d.1 9 (ix p1) (ix x9))).toInt64) * (sp_X4_imbalanceOf d x9 p2 p3)) + (sp_X4_endsOf d x9 p2 p3)) else x7) (if ((((-(d.1 9 (ix p1) (ix x9))).toInt64) * (sp_X4_imbalanceOf d x9 p2 p3)) - (sp_X4_endsOf d x9 p2 p3)) < x5 then x5 else ((((-(d.1 9 (ix p1) (ix x9))).toInt64) * (sp_X4_imbalanceOf d x9 p2 p3)) - (sp_X4_endsOf d x9 p2 p3))) (by omega) (by omega) (by omega) hs _ (lv_sub hl [0, 1, 2, 6, 7, 8, 9, 10] rfl)
      subst ex4
      exact L41 16 0 1152921504606846976 (-1152921504606846976) (by first | omega | (simp only [Int32.toInt_zero]; omega)) (by first | omega | (simp only [Int32.toInt_zero]; omega)) (by first | omega | (simp only [Int32.toInt_zero]; omega)) hs _ (lv_sub hl [0, 1, 2, 3, 4, 5, 6, 7] rfl)
    · have hs := hs.trans (cif_f c3)
      refine lv_ldc2 S.1 S.2.1 S.2.2.2.1 (S.2.2.2.2 _ wKL_RX4_106) dX4_explains_16 ?_
      exact rL S hr hlk hs dX4_explains_19
set_option maxRecDepth 100000 in
set_option maxHeartbeats 8000000 in
theorem c_X4_sheet (l : Launch) (D : va_G) (G : Gc) (M T : Nat) (ad : Nat → Nat → Nat) (d : Dt) (p1 : Int32) (p2 : Int32) (p3 : Int32) (hI : XI M T d) : Met l yX4_sheet (wsU yX4_sheet cX4_sheet 4 (some .int)) ({ frames := 2, cells := 0, slots := 0, locals := 45 } : Room) (va_Pc [.ref (ad 0 0), .int p1, .int p2, .int p3] (XPre D (tysG G) (XF G M T ad) (XN M T) ad d)) (qW (some (.int (sp_X4_sheet d p1 p2 p3).1)) D (XF G M T ad) (XN M T) ad (sp_X4_sheet d p1 p2 p3).2) 0 0 (adS (XN M T) ad) := by
  refine ent (by decide +kernel) (Nat.le_of_ble_eq_true rfl) ?_
  intro p e s m below meth c S hr hlk hpre ls hl
  have S : CallFix p m c cX4_sheet 4 s [.ref (ad 0 0), .int p1, .int p2, .int p3].toArray wsL_law RX4 := S
  obtain ⟨hK, hN, hX⟩ := hpre
  have hl : lv_has ls 4 [(0, .ref (ad 0 0)), (1, .int p1), (2, .int p2), (3, .int p3)] := hl
  have hs := sp_X4_sheet.eq_1 d p1 p2 p3
  have hS : va_S (adS (XN M T) ad) s.heap s.heap [] := va_S.rf
  have q1 := hI.1
  have q2 := hI.2.1
  have q3 := hI.2.2.1
  have q4 := hI.2.2.2.1
  have q5 := hI.rc
  refine lv_aload_n S.1 S.2.1 dX4_sheet_0 rfl (lv_at hl 0 rfl) ?_
  refine lv_iconst (v := 0) S.1 S.2.1 dX4_sheet_1 (by decide) ?_
  refine pf_RX4_49 S hK hX hS dX4_sheet_2 (fun H locs hX hS => ?_)
  refine lv_iload_n S.1 S.2.1 dX4_sheet_5 rfl (lv_at hl 1 rfl) ?_
  refine cPS (rest := []) S (c_X4_isSheet l p1) gS_RX4_228 ds_X4_isSheet.2 ⟨rfl, rfl⟩ ⟨Nat.le_of_ble_eq_true rfl, Nat.le_of_ble_eq_true rfl⟩ rfl hl.1 rfl (Nat.le_of_ble_eq_true rfl) ⟨Nat.le_of_ble_eq_true rfl, Nat.le_of_ble_eq_true rfl⟩ dX4_sheet_6 ?_
  refine q_if_ne_b (tgt := 14) S dX4_sheet_9 (by decide) (fun c1 => ?_) (fun c1 => ?_)
  · have hs := hs.trans (cif_t c1)
    have f2 := is_of c1
    refine lv_iload_n S.1 S.2.1 dX4_sheet_14 rfl (lv_at hl 2 rfl) ?_
    refine cPS (rest := []) S (c_X4_isLane l p2) gS_RX4_231 ds_X4_isLane.2 ⟨rfl, rfl⟩ ⟨Nat.le_of_ble_eq_true rfl, Nat.le_of_ble_eq_true rfl⟩ rfl hl.1 rfl (Nat.le_of_ble_eq_true rfl) ⟨Nat.le_of_ble_eq_true rfl, Nat.le_of_ble_eq_true rfl⟩ dX4_sheet_15 ?_
    refine q_if_eq_b (tgt := 27) S dX4_sheet_18 (by decide) (fun c3 => ?_) (fun c3 => ?_)
    · have hs := hs.trans (cif_f c3)
      refine lv_bipush (v := (-2)) S.1 S.2.1 dX4_sheet_27 (by decide) ?_
      exact wI S hr hlk hs hX hS dX4_sheet_29
    · have hs := hs.trans (cif_t c3)
      refine lv_iload_n S.1 S.2.1 dX4_sheet_21 rfl (lv_at hl 3 rfl) ?_
      refine lv_bipush (v := 60) S.1 S.2.1 dX4_sheet_22 (by decide) ?_
      refine q_icmp_le (tgt := 30) (xi := p3.toInt) (yi := 60) S rfl rfl dX4_sheet_24 (by decide) (fun c4 => ?_) (fun c4 => ?_)
      · have hs := hs.trans (cif_t c4)
        refine lv_iload_n S.1 S.2.1 dX4_sheet_30 rfl (lv_at hl 3 rfl) ?_
        refine q_if_ge (tgt := 40) (xi := p3.toInt) S rfl dX4_sheet_31 (by decide) (fun c5 => ?_) (fun c5 => ?_)
        · have hs := hs.trans (cif_t c5)
          refine lv_aload_n S.1 S.2.1 dX4_sheet_40 rfl (lv_at hl 0 rfl) ?_
          refine gf_RX4_42 S hK hX dX4_sheet_41 ?_
          refine lv_iload_n S.1 S.2.1 dX4_sheet_44 rfl (lv_at hl 1 rfl) ?_
          have hx6 : ix p1 < 4 := ix_lt (by omega) (by omega)
          refine al_X5 S hK hX (by omega) (by omega) hx6 dX4_sheet_45 ?_
          have f6 := hI.sl hx6
          refine lv_iload_n S.1 S.2.1 dX4_sheet_46 rfl (lv_at hl 2 rfl) ?_
          refine lv_iload_n S.1 S.2.1 dX4_sheet_47 rfl (lv_at hl 3 rfl) ?_
          refine cWV (rest := []) S (c_X2_renew l D G M T ad (uv d 0 0 8 0) (ix p1) p2 p3 hx6) gV_RX4_237 ds_X2_renew ⟨rfl, rfl⟩ ⟨Nat.le_of_ble_eq_true rfl, Nat.le_of_ble_eq_true rfl⟩ ⟨blindX, recvX hK hX (k := 6) (i := ix p1) hx6 rfl rfl, preX hK hN hX _⟩ rfl hl.1 rfl (Nat.le_of_ble_eq_true rfl) ⟨Nat.le_of_ble_eq_true rfl, Nat.le_of_ble_eq_true rfl⟩ dX4_sheet_48 hS (fun _ h => h) (fun H locs hX hS hfr => ?_)
          refine lv_iconst (v := 1) S.1 S.2.1 dX4_sheet_51 (by decide) ?_
          exact wI S hr hlk hs hX hS dX4_sheet_52
        · have hs := hs.trans (cif_f c5)
          refine lv_aload_n S.1 S.2.1 dX4_sheet_34 rfl (lv_at hl 0 rfl) ?_
          refine lv_iconst (v := 4) S.1 S.2.1 dX4_sheet_35 (by decide) ?_
          refine cWV (rest := []) S (c_X4_fail l D G M T ad (uv d 0 0 8 0) 4) gV_RX4_234 ds_X4_fail ⟨rfl, rfl⟩ ⟨Nat.le_of_ble_eq_true rfl, Nat.le_of_ble_eq_true rfl⟩ ⟨blindX, recvX hK hX (k := 0) (i := 0) Nat.zero_lt_one rfl rfl, preX hK hN hX _⟩ rfl hl.1 rfl (Nat.le_of_ble_eq_true rfl) ⟨Nat.le_of_ble_eq_true rfl, Nat.le_of_ble_eq_true rfl⟩ dX4_sheet_36 hS (fun _ h => h) (fun H locs hX hS hfr => ?_)
          exact wI S hr hlk hs hX hS dX4_sheet_39
      · have hs := hs.trans (cif_f c4)
        refine lv_bipush (v := (-2)) S.1 S.2.1 dX4_sheet_27 (by decide) ?_
        exact wI S hr hlk hs hX hS dX4_sheet_29
  · have hs := hs.trans (cif_f c1)
    refine lv_iconst (v := (-1)) S.1 S.2.1 dX4_sheet_12 (by decide) ?_
    exact wI S hr hlk hs hX hS dX4_sheet_13
set_option maxRecDepth 100000 in
set_option maxHeartbeats 8000000 in
theorem c_X4_lose (l : Launch) (D : va_G) (G : Gc) (M T : Nat) (ad : Nat → Nat → Nat) (d : Dt) (p1 : Int32) (hI : XI M T d) : Met l yX4_lose (wsU yX4_lose cX4_lose 3 (some .int)) ({ frames := 2, cells := 0, slots := 0, locals := 42 } : Room) (va_Pc [.ref (ad 0 0), .int p1] (XPre D (tysG G) (XF G M T ad) (XN M T) ad d)) (qW (some (.int (sp_X4_lose d p1).1)) D (XF G M T ad) (XN M T) ad (sp_X4_lose d p1).2) 0 0 (adS (XN M T) ad) := by
  refine ent (by decide +kernel) (Nat.le_of_ble_eq_true rfl) ?_
  intro p e s m below meth c S hr hlk hpre ls hl
  have S : CallFix p m c cX4_lose 3 s [.ref (ad 0 0), .int p1].toArray wsL_law RX4 := S
  obtain ⟨hK, hN, hX⟩ := hpre
  have hl : lv_has ls 3 [(0, .ref (ad 0 0)), (1, .int p1)] := hl
  have hs := sp_X4_lose.eq_1 d p1
  have hS : va_S (adS (XN M T) ad) s.heap s.heap [] := va_S.rf
  have q1 := hI.1
  have q2 := hI.2.1
  have q3 := hI.2.2.1
  have q4 := hI.2.2.2.1
  have q5 := hI.rc
  refine lv_iload_n S.1 S.2.1 dX4_lose_0 rfl (lv_at hl 1 rfl) ?_
  refine cPS (rest := []) S (c_X4_isSheet l p1) gS_RX4_228 ds_X4_isSheet.2 ⟨rfl, rfl⟩ ⟨Nat.le_of_ble_eq_true rfl, Nat.le_of_ble_eq_true rfl⟩ rfl hl.1 rfl (Nat.le_of_ble_eq_true rfl) ⟨Nat.le_of_ble_eq_true rfl, Nat.le_of_ble_eq_true rfl⟩ dX4_lose_1 ?_
  refine q_if_ne_b (tgt := 9) S dX4_lose_4 (by decide) (fun c1 => ?_) (fun c1 => ?_)
  · have hs := hs.trans (cif_t c1)
    have f2 := is_of c1
    refine lv_aload_n S.1 S.2.1 dX4_lose_9 rfl (lv_at hl 0 rfl) ?_
    refine gf_RX4_42 S hK hX dX4_lose_10 ?_
    refine lv_iload_n S.1 S.2.1 dX4_lose_13 rfl (lv_at hl 1 rfl) ?_
    have hx3 : ix p1 < 4 := ix_lt (by omega) (by omega)
    refine al_X5 S hK hX (by omega) (by omega) hx3 dX4_lose_14 ?_
    have f3 := hI.sl hx3
    refine gf_RX4_241 S hK hX hx3 (v := d.1 6 (ix p1) 1) rfl dX4_lose_15 ?_
    refine q_if_eq (tgt := 25) (xi := (d.1 6 (ix p1) 1).toInt) S rfl dX4_lose_18 (by decide) (fun c4 => ?_) (fun c4 => ?_)
    · have hs := hs.trans (cif_t c4)
      refine lv_iconst (v := 0) S.1 S.2.1 dX4_lose_25 (by decide) ?_
      refine lv_istore_n (lv' := [(2, .int 0), (0, .ref (ad 0 0)), (1, .int p1)]) S.1 S.2.1 dX4_lose_26 rfl hl (by decide) rfl (fun ls hl => ?_)
      refine lv_aload_n S.1 S.2.1 dX4_lose_27 rfl (lv_at hl 1 rfl) ?_
      refine gf_RX4_42 S hK hX dX4_lose_28 ?_
      refine lv_iload_n S.1 S.2.1 dX4_lose_31 rfl (lv_at hl 2 rfl) ?_
      have hx5 : ix p1 < 4 := ix_lt (by omega) (by omega)
      refine al_X5 S hK hX (by omega) (by omega) hx5 dX4_lose_32 ?_
      have f5 := hI.sl hx5
      refine lv_iconst (v := 0) S.1 S.2.1 dX4_lose_33 (by decide) ?_
      refine pf_RX4_241 S hK hX hS hx5 rfl rfl dX4_lose_34 (fun H locs hX hS => ?_)
      refine lv_iload_n S.1 S.2.1 dX4_lose_37 rfl (lv_at hl 0 rfl) ?_
      exact wI S hr hlk hs hX hS dX4_lose_38
    · have hs := hs.trans (cif_f c4)
      refine lv_iconst (v := 1) S.1 S.2.1 dX4_lose_21 (by decide) ?_
      refine lv_goto (tgt := 26) S.1 S.2.1 dX4_lose_22 (by decide) ?_
      refine lv_istore_n (lv' := [(2, .int 1), (0, .ref (ad 0 0)), (1, .int p1)]) S.1 S.2.1 dX4_lose_26 rfl hl (by decide) rfl (fun ls hl => ?_)
      refine lv_aload_n S.1 S.2.1 dX4_lose_27 rfl (lv_at hl 1 rfl) ?_
      refine gf_RX4_42 S hK hX dX4_lose_28 ?_
      refine lv_iload_n S.1 S.2.1 dX4_lose_31 rfl (lv_at hl 2 rfl) ?_
      have hx6 : ix p1 < 4 := ix_lt (by omega) (by omega)
      refine al_X5 S hK hX (by omega) (by omega) hx6 dX4_lose_32 ?_
      have f6 := hI.sl hx6
      refine lv_iconst (v := 0) S.1 S.2.1 dX4_lose_33 (by decide) ?_
      refine pf_RX4_241 S hK hX hS hx6 rfl rfl dX4_lose_34 (fun H locs hX hS => ?_)
      refine lv_iload_n S.1 S.2.1 dX4_lose_37 rfl (lv_at hl 0 rfl) ?_
      exact wI S hr hlk hs hX hS dX4_lose_38
  · have hs := hs.trans (cif_f c1)
    refine lv_iconst (v := (-1)) S.1 S.2.1 dX4_lose_7 (by decide) ?_
    exact wI S hr hlk hs hX hS dX4_lose_8
set_option maxRecDepth 100000 in
set_option maxHeartbeats 8000000 in
theorem c_X4_put (l : Launch) (D : va_G) (G : Gc) (M T : Nat) (ad : Nat → Nat → Nat) (d : Dt) (p1 : Int32) (p2 : Int32) (p3 : Int32) (hI : XI M T d) : Met l yX4_put (wsU yX4_put cX4_put 4 (some .int)) ({ frames := 2, cells := 0, slots := 0, locals := 43 } : Room) (va_Pc [.ref (ad 0 0), .int p1, .int p2, .int p3] (XPre D (tysG G) (XF G M T ad) (XN M T) ad d)) (qW (some (.int (sp_X4_put d p1 p2 p3).1)) D (XF G M T ad) (XN M T) ad (sp_X4_put d p1 p2 p3).2) 0 0 (adS (XN M T) ad) := by
  refine ent (by decide +kernel) (Nat.le_of_ble_eq_true rfl) ?_
  intro p e s m below meth c S hr hlk hpre ls hl
  have S : CallFix p m c cX4_put 4 s [.ref (ad 0 0), .int p1, .int p2, .int p3].toArray wsL_law RX4 := S
  obtain ⟨hK, hN, hX⟩ := hpre
  have hl : lv_has ls 4 [(0, .ref (ad 0 0)), (1, .int p1), (2, .int p2), (3, .int p3)] := hl
  have hs := sp_X4_put.eq_1 d p1 p2 p3
  have hS : va_S (adS (XN M T) ad) s.heap s.heap [] := va_S.rf
  have q1 := hI.1
  have q2 := hI.2.1
  have q3 := hI.2.2.1
  have q4 := hI.2.2.2.1
  have q5 := hI.rc
  refine lv_aload_n S.1 S.2.1 dX4_put_0 rfl (lv_at hl 0 rfl) ?_
  refine lv_iconst (v := 0) S.1 S.2.1 dX4_put_1 (by decide) ?_
  refine pf_RX4_49 S hK hX hS dX4_put_2 (fun H locs hX hS => ?_)
  refine lv_iload_n S.1 S.2.1 dX4_put_5 rfl (lv_at hl 1 rfl) ?_
  refine cPS (rest := []) S (c_X4_isSheet l p1) gS_RX4_228 ds_X4_isSheet.2 ⟨rfl, rfl⟩ ⟨Nat.le_of_ble_eq_true rfl, Nat.le_of_ble_eq_true rfl⟩ rfl hl.1 rfl (Nat.le_of_ble_eq_true rfl) ⟨Nat.le_of_ble_eq_true rfl, Nat.le_of_ble_eq_true rfl⟩ dX4_put_6 ?_
  refine q_if_ne_b (tgt := 14) S dX4_put_9 (by decide) (fun c1 => ?_) (fun c1 => ?_)
  · have hs := hs.trans (cif_t c1)
    have f2 := is_of c1
    refine lv_aload_n S.1 S.2.1 dX4_put_14 rfl (lv_at hl 0 rfl) ?_
    refine gf_RX4_42 S hK hX dX4_put_15 ?_
    refine lv_iload_n S.1 S.2.1 dX4_put_18 rfl (lv_at hl 1 rfl) ?_
    have hx3 : ix p1 < 4 := ix_lt (by omega) (by omega)
    refine al_X5 S hK hX (by omega) (by omega) hx3 dX4_put_19 ?_
    have f3 := hI.sl hx3
    refine gf_RX4_241 S hK hX hx3 (v := d.1 6 (ix p1) 1) rfl dX4_put_20 ?_
    refine q_if_ne (tgt := 32) (xi := (d.1 6 (ix p1) 1).toInt) S rfl dX4_put_23 (by decide) (fun c4 => ?_) (fun c4 => ?_)
    · have hs := hs.trans (cif_f c4)
      refine lv_aload_n S.1 S.2.1 dX4_put_32 rfl (lv_at hl 0 rfl) ?_
      refine gf_RX4_42 S hK hX dX4_put_33 ?_
      refine lv_iload_n S.1 S.2.1 dX4_put_36 rfl (lv_at hl 1 rfl) ?_
      have hx5 : ix p1 < 4 := ix_lt (by omega) (by omega)
      refine al_X5 S hK hX (by omega) (by omega) hx5 dX4_put_37 ?_
      have f5 := hI.sl hx5
      refine lv_iload_n S.1 S.2.1 dX4_put_38 rfl (lv_at hl 2 rfl) ?_
      refine cPV (rest := []) S (c_X2_hasCell l D G M T ad (uv d 0 0 8 0) (ix p1) p2 hx5) gV_RX4_244 ds_X2_hasCell ⟨rfl, rfl⟩ ⟨Nat.le_of_ble_eq_true rfl, Nat.le_of_ble_eq_true rfl⟩ ⟨blindX, recvX hK hX (k := 6) (i := ix p1) hx5 rfl rfl, preX hK hN hX _⟩ rfl hl.1 rfl (Nat.le_of_ble_eq_true rfl) ⟨Nat.le_of_ble_eq_true rfl, Nat.le_of_ble_eq_true rfl⟩ dX4_put_39 ?_
      refine q_if_ne_b (tgt := 51) S dX4_put_42 (by decide) (fun c6 => ?_) (fun c6 => ?_)
      · have hs := hs.trans (cif_t c6)
        have f7 := hc_of (by assumption) (XI.s8 (x := 0) hI) c6
        refine lv_aload_n S.1 S.2.1 dX4_put_51 rfl (lv_at hl 0 rfl) ?_
        refine gf_RX4_42 S hK hX dX4_put_52 ?_
        refine lv_iload_n S.1 S.2.1 dX4_put_55 rfl (lv_at hl 1 rfl) ?_
        have hx8 : ix p1 < 4 := ix_lt (by omega) (by omega)
        refine al_X5 S hK hX (by omega) (by omega) hx8 dX4_put_56 ?_
        have f8 := hI.sl hx8
        refine lv_iload_n S.1 S.2.1 dX4_put_57 rfl (lv_at hl 2 rfl) ?_
        refine lv_iload_n S.1 S.2.1 dX4_put_58 rfl (lv_at hl 3 rfl) ?_
        refine cWV (rest := []) S (c_X2_fillIn l D G M T ad (uv d 0 0 8 0) (ix p1) p2 p3 hx8 (by omega) (by omega)) gV_RX4_247 ds_X2_fillIn ⟨rfl, rfl⟩ ⟨Nat.le_of_ble_eq_true rfl, Nat.le_of_ble_eq_true rfl⟩ ⟨blindX, recvX hK hX (k := 6) (i := ix p1) hx8 rfl rfl, preX hK hN hX _⟩ rfl hl.1 rfl (Nat.le_of_ble_eq_true rfl) ⟨Nat.le_of_ble_eq_true rfl, Nat.le_of_ble_eq_true rfl⟩ dX4_put_59 hS (fun _ h => h) (fun H locs hX hS hfr => ?_)
        refine lv_iconst (v := 1) S.1 S.2.1 dX4_put_62 (by decide) ?_
        exact wI S hr hlk hs hX hS dX4_put_63
      · have hs := hs.trans (cif_f c6)
        refine lv_aload_n S.1 S.2.1 dX4_put_45 rfl (lv_at hl 0 rfl) ?_
        refine lv_iconst (v := 3) S.1 S.2.1 dX4_put_46 (by decide) ?_
        refine cWV (rest := []) S (c_X4_fail l D G M T ad (uv d 0 0 8 0) 3) gV_RX4_234 ds_X4_fail ⟨rfl, rfl⟩ ⟨Nat.le_of_ble_eq_true rfl, Nat.le_of_ble_eq_true rfl⟩ ⟨blindX, recvX hK hX (k := 0) (i := 0) Nat.zero_lt_one rfl rfl, preX hK hN hX _⟩ rfl hl.1 rfl (Nat.le_of_ble_eq_true rfl) ⟨Nat.le_of_ble_eq_true rfl, Nat.le_of_ble_eq_true rfl⟩ dX4_put_47 hS (fun _ h => h) (fun H locs hX hS hfr => ?_)
        exact wI S hr hlk hs hX hS dX4_put_50
    · have hs := hs.trans (cif_t c4)
      refine lv_aload_n S.1 S.2.1 dX4_put_26 rfl (lv_at hl 0 rfl) ?_
      refine lv_iconst (v := 1) S.1 S.2.1 dX4_put_27 (by decide) ?_
      refine cWV (rest := []) S (c_X4_fail l D G M T ad (uv d 0 0 8 0) 1) gV_RX4_234 ds_X4_fail ⟨rfl, rfl⟩ ⟨Nat.le_of_ble_eq_true rfl, Nat.le_of_ble_eq_true rfl⟩ ⟨blindX, recvX hK hX (k := 0) (i := 0) Nat.zero_lt_one rfl rfl, preX hK hN hX _⟩ rfl hl.1 rfl (Nat.le_of_ble_eq_true rfl) ⟨Nat.le_of_ble_eq_true rfl, Nat.le_of_ble_eq_true rfl⟩ dX4_put_28 hS (fun _ h => h) (fun H locs hX hS hfr => ?_)
      exact wI S hr hlk hs hX hS dX4_put_31
  · have hs := hs.trans (cif_f c1)
    refine lv_iconst (v := (-1)) S.1 S.2.1 dX4_put_12 (by decide) ?_
    exact wI S hr hlk hs hX hS dX4_put_13
set_option maxRecDepth 100000 in
set_option maxHeartbeats 8000000 in
theorem c_X4_cell (l : Launch) (D : va_G) (G : Gc) (M T : Nat) (ad : Nat → Nat → Nat) (d : Dt) (p1 : Int32) (p2 : Int32) (p3 : Int32) (hI : XI M T d) : Met l yX4_cell (wsU yX4_cell cX4_cell 4 (some .long)) ({ frames := 2, cells := 0, slots := 0, locals := 43 } : Room) (va_Pc [.ref (ad 0 0), .int p1, .int p2, .int p3] (XPre D (tysG G) (XF G M T ad) (XN M T) ad d)) (qW (some (.long (sp_X4_cell d p1 p2 p3).1)) D (XF G M T ad) (XN M T) ad (sp_X4_cell d p1 p2 p3).2) 0 0 (adS (XN M T) ad) := by
  refine ent (by decide +kernel) (Nat.le_of_ble_eq_true rfl) ?_
  intro p e s m below meth c S hr hlk hpre ls hl
  have S : CallFix p m c cX4_cell 4 s [.ref (ad 0 0), .int p1, .int p2, .int p3].toArray wsL_law RX4 := S
  obtain ⟨hK, hN, hX⟩ := hpre
  have hl : lv_has ls 4 [(0, .ref (ad 0 0)), (1, .int p1), (2, .int p2), (3, .int p3)] := hl
  have hs := sp_X4_cell.eq_1 d p1 p2 p3
  have hS : va_S (adS (XN M T) ad) s.heap s.heap [] := va_S.rf
  have q1 := hI.1
  have q2 := hI.2.1
  have q3 := hI.2.2.1
  have q4 := hI.2.2.2.1
  have q5 := hI.rc
  refine lv_aload_n S.1 S.2.1 dX4_cell_0 rfl (lv_at hl 0 rfl) ?_
  refine lv_iconst (v := 0) S.1 S.2.1 dX4_cell_1 (by decide) ?_
  refine pf_RX4_49 S hK hX hS dX4_cell_2 (fun H locs hX hS => ?_)
  refine lv_iload_n S.1 S.2.1 dX4_cell_5 rfl (lv_at hl 1 rfl) ?_
  refine cPS (rest := []) S (c_X4_isSheet l p1) gS_RX4_228 ds_X4_isSheet.2 ⟨rfl, rfl⟩ ⟨Nat.le_of_ble_eq_true rfl, Nat.le_of_ble_eq_true rfl⟩ rfl hl.1 rfl (Nat.le_of_ble_eq_true rfl) ⟨Nat.le_of_ble_eq_true rfl, Nat.le_of_ble_eq_true rfl⟩ dX4_cell_6 ?_
  refine q_if_eq_b (tgt := 19) S dX4_cell_9 (by decide) (fun c1 => ?_) (fun c1 => ?_)
  · have hs := hs.trans (cif_f c1)
    refine lv_ldc2 S.1 S.2.1 S.2.2.2.1 (S.2.2.2.2 _ wKL_RX4_106) dX4_cell_19 ?_
    exact wL S hr hlk hs hX hS dX4_cell_22
  · have hs := hs.trans (cif_t c1)
    have f2 := is_of c1
    refine lv_iload_n S.1 S.2.1 dX4_cell_12 rfl (lv_at hl 3 rfl) ?_
    refine cPS (rest := []) S (c_X4_isLane l p3) gS_RX4_231 ds_X4_isLane.2 ⟨rfl, rfl⟩ ⟨Nat.le_of_ble_eq_true rfl, Nat.le_of_ble_eq_true rfl⟩ rfl hl.1 rfl (Nat.le_of_ble_eq_true rfl) ⟨Nat.le_of_ble_eq_true rfl, Nat.le_of_ble_eq_true rfl⟩ dX4_cell_13 ?_
    refine q_if_ne_b (tgt := 23) S dX4_cell_16 (by decide) (fun c3 => ?_) (fun c3 => ?_)
    · have hs := hs.trans (cif_t c3)
      refine lv_aload_n S.1 S.2.1 dX4_cell_23 rfl (lv_at hl 0 rfl) ?_
      refine lv_aload_n S.1 S.2.1 dX4_cell_24 rfl (lv_at hl 0 rfl) ?_
      refine gf_RX4_42 S hK hX dX4_cell_25 ?_
      refine lv_iload_n S.1 S.2.1 dX4_cell_28 rfl (lv_at hl 1 rfl) ?_
      have hx4 : ix p1 < 4 := ix_lt (by omega) (by omega)
      refine al_X5 S hK hX (by omega) (by omega) hx4 dX4_cell_29 ?_
      have f4 := hI.sl hx4
      refine lv_iload_n S.1 S.2.1 dX4_cell_30 rfl (lv_at hl 3 rfl) ?_
      refine cPV (rest := [.ref (ad 0 0)]) S (c_X2_faultAs l D G M T ad (uv d 0 0 8 0) (ix p1) p3 hx4) gV_RX4_250 ds_X2_faultAs ⟨rfl, rfl⟩ ⟨Nat.le_of_ble_eq_true rfl, Nat.le_of_ble_eq_true rfl⟩ ⟨blindX, recvX hK hX (k := 6) (i := ix p1) hx4 rfl rfl, preX hK hN hX _⟩ rfl hl.1 rfl (Nat.le_of_ble_eq_true rfl) ⟨Nat.le_of_ble_eq_true rfl, Nat.le_of_ble_eq_true rfl⟩ dX4_cell_31 ?_
      refine pf_RX4_49 S hK hX hS dX4_cell_34 (fun H locs hX hS => ?_)
      refine lv_aload_n S.1 S.2.1 dX4_cell_37 rfl (lv_at hl 0 rfl) ?_
      refine gf_RX4_49 S hK hX (v := sp_X2_faultAs (uv d 0 0 8 0) (ix p1) p3) rfl dX4_cell_38 ?_
      refine q_if_ne (tgt := 62) (xi := (sp_X2_faultAs (uv d 0 0 8 0) (ix p1) p3).toInt) S rfl dX4_cell_41 (by decide) (fun c5 => ?_) (fun c5 => ?_)
      · have hs := hs.trans (cif_f c5)
        refine lv_aload_n S.1 S.2.1 dX4_cell_62 rfl (lv_at hl 0 rfl) ?_
        refine gf_RX4_49 S hK hX (v := sp_X2_faultAs (uv d 0 0 8 0) (ix p1) p3) rfl dX4_cell_63 ?_
        refine q_if_ne (tgt := 84) (xi := (sp_X2_faultAs (uv d 0 0 8 0) (ix p1) p3).toInt) S rfl dX4_cell_66 (by decide) (fun c6 => ?_) (fun c6 => absurd c6 (by assumption))
        refine lv_ldc2 S.1 S.2.1 S.2.2.2.1 (S.2.2.2.2 _ wKL_RX4_106) dX4_cell_84 ?_
        exact wL S hr hlk hs hX hS dX4_cell_87
      · have hs := hs.trans (cif_t c5)
        refine lv_aload_n S.1 S.2.1 dX4_cell_44 rfl (lv_at hl 0 rfl) ?_
        refine gf_RX4_42 S hK hX dX4_cell_45 ?_
        refine lv_iload_n S.1 S.2.1 dX4_cell_48 rfl (lv_at hl 1 rfl) ?_
        have hx7 : ix p1 < 4 := ix_lt (by omega) (by omega)
        refine al_X5 S hK hX (by omega) (by omega) hx7 dX4_cell_49 ?_
        have f7 := hI.sl hx7
        refine lv_iload_n S.1 S.2.1 dX4_cell_50 rfl (lv_at hl 2 rfl) ?_
        refine cPV (rest := []) S (c_X2_hasCell l D G M T ad (uv (uv d 0 0 8 0) 0 0 8 (sp_X2_faultAs (uv d 0 0 8 0) (ix p1) p3)) (ix p1) p2 hx7) gV_RX4_244 ds_X2_hasCell ⟨rfl, rfl⟩ ⟨Nat.le_of_ble_eq_true rfl, Nat.le_of_ble_eq_true rfl⟩ ⟨blindX, recvX hK hX (k := 6) (i := ix p1) hx7 rfl rfl, preX hK hN hX _⟩ rfl hl.1 rfl (Nat.le_of_ble_eq_true rfl) ⟨Nat.le_of_ble_eq_true rfl, Nat.le_of_ble_eq_true rfl⟩ dX4_cell_51 ?_
        refine q_if_ne_b (tgt := 62) S dX4_cell_54 (by decide) (fun c8 => ?_) (fun c8 => ?_)
        · have hs := hs.trans (cif_t c8)
          have f9 := hc_of (by assumption) (XI.s8 (x := sp_X2_faultAs (uv d 0 0 8 0) (ix p1) p3) (XI.s8 (x := 0) hI)) c8
          refine lv_aload_n S.1 S.2.1 dX4_cell_62 rfl (lv_at hl 0 rfl) ?_
          refine gf_RX4_49 S hK hX (v := sp_X2_faultAs (uv d 0 0 8 0) (ix p1) p3) rfl dX4_cell_63 ?_
          refine q_if_ne (tgt := 84) (xi := (sp_X2_faultAs (uv d 0 0 8 0) (ix p1) p3).toInt) S rfl dX4_cell_66 (by decide) (fun c10 => absurd (by assumption) c10) (fun c10 => ?_)
          refine lv_aload_n S.1 S.2.1 dX4_cell_69 rfl (lv_at hl 0 rfl) ?_
          refine gf_RX4_42 S hK hX dX4_cell_70 ?_
          refine lv_iload_n S.1 S.2.1 dX4_cell_73 rfl (lv_at hl 1 rfl) ?_
          have hx11 : ix p1 < 4 := ix_lt (by omega) (by omega)
          refine al_X5 S hK hX (by omega) (by omega) hx11 dX4_cell_74 ?_
          have f11 := hI.sl hx11
          refine gf_RX4_253 S hK hX hx11 dX4_cell_75 ?_
          refine lv_iload_n S.1 S.2.1 dX4_cell_78 rfl (lv_at hl 2 rfl) ?_
          refine al_X7 S hK hX hx11 (by omega) (by omega) (z := d.1 7 (ix p1) (ix p2)) rfl dX4_cell_79 ?_
          refine lv_i2l S.1 S.2.1 dX4_cell_80 rfl ?_
          refine lv_goto (tgt := 87) S.1 S.2.1 dX4_cell_81 (by decide) ?_
          exact wL S hr hlk hs hX hS dX4_cell_87
        · have hs := hs.trans (cif_f c8)
          refine lv_aload_n S.1 S.2.1 dX4_cell_57 rfl (lv_at hl 0 rfl) ?_
          refine lv_iconst (v := 3) S.1 S.2.1 dX4_cell_58 (by decide) ?_
          refine pf_RX4_49 S hK hX hS dX4_cell_59 (fun H locs hX hS => ?_)
          refine lv_aload_n S.1 S.2.1 dX4_cell_62 rfl (lv_at hl 0 rfl) ?_
          refine gf_RX4_49 S hK hX (v := 3) rfl dX4_cell_63 ?_
          refine q_if_ne (tgt := 84) (xi := 3) S rfl dX4_cell_66 (by decide) (fun c12 => ?_) (fun c12 => absurd c12 (by omega))
          refine lv_ldc2 S.1 S.2.1 S.2.2.2.1 (S.2.2.2.2 _ wKL_RX4_106) dX4_cell_84 ?_
          exact wL S hr hlk hs hX hS dX4_cell_87
    · have hs := hs.trans (cif_f c3)
      refine lv_ldc2 S.1 S.2.1 S.2.2.2.1 (S.2.2.2.2 _ wKL_RX4_106) dX4_cell_19 ?_
      exact wL S hr hlk hs hX hS dX4_cell_22
set_option maxRecDepth 100000 in
set_option maxHeartbeats 8000000 in
theorem c_X4_copy (l : Launch) (D : va_G) (G : Gc) (M T : Nat) (ad : Nat → Nat → Nat) (d : Dt) (p1 : Int32) (p2 : Int32) (p3 : Int32) (p4 : Int32) (p5 : Int32) (hI : XI M T d) : Met l yX4_copy (wsU yX4_copy cX4_copy 8 (some .int)) ({ frames := 2, cells := 0, slots := 0, locals := 64 } : Room) (va_Pc [.ref (ad 0 0), .int p1, .int p2, .int p3, .int p4, .int p5] (XPre D (tysG G) (XF G M T ad) (XN M T) ad d)) (qW (some (.int (sp_X4_copy d p1 p2 p3 p4 p5).1)) D (XF G M T ad) (XN M T) ad (sp_X4_copy d p1 p2 p3 p4 p5).2) 0 0 (adS (XN M T) ad) := by
  refine ent (by decide +kernel) (Nat.le_of_ble_eq_true rfl) ?_
  intro p e s m below meth c S hr hlk hpre ls hl
  have S : CallFix p m c cX4_copy 8 s [.ref (ad 0 0), .int p1, .int p2, .int p3, .int p4, .int p5].toArray wsL_law RX4 := S
  obtain ⟨hK, hN, hX⟩ := hpre
  have hl : lv_has ls 8 [(0, .ref (ad 0 0)), (1, .int p1), (2, .int p2), (3, .int p3), (4, .int p4), (5, .int p5)] := hl
  have hs := sp_X4_copy.eq_1 d p1 p2 p3 p4 p5
  have hS : va_S (adS (XN M T) ad) s.heap s.heap [] := va_S.rf
  have q1 := hI.1
  have q2 := hI.2.1
  have q3 := hI.2.2.1
  have q4 := hI.2.2.2.1
  have q5 := hI.rc
  refine lv_aload_n S.1 S.2.1 dX4_copy_0 rfl (lv_at hl 0 rfl) ?_
  refine lv_iconst (v := 0) S.1 S.2.1 dX4_copy_1 (by decide) ?_
  refine pf_RX4_49 S hK hX hS dX4_copy_2 (fun H locs hX hS => ?_)
  refine lv_iload_n S.1 S.2.1 dX4_copy_5 rfl (lv_at hl 1 rfl) ?_
  refine cPS (rest := []) S (c_X4_isSheet l p1) gS_RX4_228 ds_X4_isSheet.2 ⟨rfl, rfl⟩ ⟨Nat.le_of_ble_eq_true rfl, Nat.le_of_ble_eq_true rfl⟩ rfl hl.1 rfl (Nat.le_of_ble_eq_true rfl) ⟨Nat.le_of_ble_eq_true rfl, Nat.le_of_ble_eq_true rfl⟩ dX4_copy_6 ?_
  refine q_if_eq_b (tgt := 19) S dX4_copy_9 (by decide) (fun c1 => ?_) (fun c1 => ?_)
  · have hs := hs.trans (cif_f c1)
    refine lv_iconst (v := (-1)) S.1 S.2.1 dX4_copy_19 (by decide) ?_
    exact wI S hr hlk hs hX hS dX4_copy_20
  · have hs := hs.trans (cif_t c1)
    have f2 := is_of c1
    refine lv_iload_n S.1 S.2.1 dX4_copy_12 rfl (lv_at hl 3 rfl) ?_
    refine cPS (rest := []) S (c_X4_isSheet l p3) gS_RX4_228 ds_X4_isSheet.2 ⟨rfl, rfl⟩ ⟨Nat.le_of_ble_eq_true rfl, Nat.le_of_ble_eq_true rfl⟩ rfl hl.1 rfl (Nat.le_of_ble_eq_true rfl) ⟨Nat.le_of_ble_eq_true rfl, Nat.le_of_ble_eq_true rfl⟩ dX4_copy_13 ?_
    refine q_if_ne_b (tgt := 21) S dX4_copy_16 (by decide) (fun c3 => ?_) (fun c3 => ?_)
    · have hs := hs.trans (cif_t c3)
      have f4 := is_of c3
      refine lv_aload_n S.1 S.2.1 dX4_copy_21 rfl (lv_at hl 0 rfl) ?_
      refine gf_RX4_42 S hK hX dX4_copy_22 ?_
      refine lv_iload_n S.1 S.2.1 dX4_copy_25 rfl (lv_at hl 1 rfl) ?_
      have hx5 : ix p1 < 4 := ix_lt (by omega) (by omega)
      refine al_X5 S hK hX (by omega) (by omega) hx5 dX4_copy_26 ?_
      have f5 := hI.sl hx5
      refine lv_astore (lv' := [(6, .ref (ad 6 (ix p1))), (0, .ref (ad 0 0)), (1, .int p1), (2, .int p2), (3, .int p3), (4, .int p4), (5, .int p5)]) S.1 S.2.1 dX4_copy_27 hl (by decide) rfl (fun ls hl => ?_)
      refine lv_aload_n S.1 S.2.1 dX4_copy_29 rfl (lv_at hl 1 rfl) ?_
      refine gf_RX4_42 S hK hX dX4_copy_30 ?_
      refine lv_iload_n S.1 S.2.1 dX4_copy_33 rfl (lv_at hl 4 rfl) ?_
      have hx6 : ix p3 < 4 := ix_lt (by omega) (by omega)
      refine al_X5 S hK hX (by omega) (by omega) hx6 dX4_copy_34 ?_
      have f6 := hI.sl hx6
      refine lv_astore (lv' := [(7, .ref (ad 6 (ix p3))), (6, .ref (ad 6 (ix p1))), (0, .ref (ad 0 0)), (1, .int p1), (2, .int p2), (3, .int p3), (4, .int p4), (5, .int p5)]) S.1 S.2.1 dX4_copy_35 hl (by decide) rfl (fun ls hl => ?_)
      refine lv_aload S.1 S.2.1 dX4_copy_37 (lv_at hl 1 rfl) ?_
      refine gf_RX4_241 S hK hX hx5 (v := d.1 6 (ix p1) 1) rfl dX4_copy_39 ?_
      refine q_if_eq (tgt := 53) (xi := (d.1 6 (ix p1) 1).toInt) S rfl dX4_copy_42 (by decide) (fun c7 => ?_) (fun c7 => ?_)
      · have hs := hs.trans (cif_t c7)
        refine lv_aload_n S.1 S.2.1 dX4_copy_53 rfl (lv_at hl 2 rfl) ?_
        refine lv_iconst (v := 1) S.1 S.2.1 dX4_copy_54 (by decide) ?_
        refine cWV (rest := []) S (c_X4_fail l D G M T ad (uv d 0 0 8 0) 1) gV_RX4_234 ds_X4_fail ⟨rfl, rfl⟩ ⟨Nat.le_of_ble_eq_true rfl, Nat.le_of_ble_eq_true rfl⟩ ⟨blindX, recvX hK hX (k := 0) (i := 0) Nat.zero_lt_one rfl rfl, preX hK hN hX _⟩ rfl hl.1 rfl (Nat.le_of_ble_eq_true rfl) ⟨Nat.le_of_ble_eq_true rfl, Nat.le_of_ble_eq_true rfl⟩ dX4_copy_55 hS (fun _ h => h) (fun H locs hX hS hfr => ?_)
        exact wI S hr hlk hs hX hS dX4_copy_58
      · have hs := hs.trans (cif_f c7)
        refine lv_aload S.1 S.2.1 dX4_copy_45 (lv_at hl 0 rfl) ?_
        refine gf_RX4_241 S hK hX hx6 (v := d.1 6 (ix p3) 1) rfl dX4_copy_47 ?_
        refine q_if_ne (tgt := 59) (xi := (d.1 6 (ix p3) 1).toInt) S rfl dX4_copy_50 (by decide) (fun c8 => ?_) (fun c8 => ?_)
        · have hs := hs.trans (cif_f c8)
          refine lv_aload S.1 S.2.1 dX4_copy_59 (lv_at hl 1 rfl) ?_
          refine gf_RX4_256 S hK hX hx5 (v := d.1 6 (ix p1) 2) rfl dX4_copy_61 ?_
          refine lv_aload S.1 S.2.1 dX4_copy_64 (lv_at hl 0 rfl) ?_
          refine gf_RX4_256 S hK hX hx6 (v := d.1 6 (ix p3) 2) rfl dX4_copy_66 ?_
          refine q_icmp_eq (tgt := 78) (xi := (d.1 6 (ix p1) 2).toInt) (yi := (d.1 6 (ix p3) 2).toInt) S rfl rfl dX4_copy_69 (by decide) (fun c9 => ?_) (fun c9 => ?_)
          · have hs := hs.trans (cif_t c9)
            refine lv_aload S.1 S.2.1 dX4_copy_78 (lv_at hl 1 rfl) ?_
            refine lv_iload_n S.1 S.2.1 dX4_copy_80 rfl (lv_at hl 4 rfl) ?_
            refine lv_iload S.1 S.2.1 dX4_copy_81 (lv_at hl 7 rfl) ?_
            refine cPV (rest := []) S (c_X2_hasCells l D G M T ad (uv d 0 0 8 0) (ix p1) p2 p5 hx5) gV_RX4_259 ds_X2_hasCells ⟨rfl, rfl⟩ ⟨Nat.le_of_ble_eq_true rfl, Nat.le_of_ble_eq_true rfl⟩ ⟨blindX, recvX hK hX (k := 6) (i := ix p1) hx5 rfl rfl, preX hK hN hX _⟩ rfl hl.1 rfl (Nat.le_of_ble_eq_true rfl) ⟨Nat.le_of_ble_eq_true rfl, Nat.le_of_ble_eq_true rfl⟩ dX4_copy_83 ?_
            refine q_if_eq_b (tgt := 101) S dX4_copy_86 (by decide) (fun c10 => ?_) (fun c10 => ?_)
            · have hs := hs.trans (cif_f c10)
              refine lv_aload_n S.1 S.2.1 dX4_copy_101 rfl (lv_at hl 2 rfl) ?_
              refine lv_iconst (v := 3) S.1 S.2.1 dX4_copy_102 (by decide) ?_
              refine cWV (rest := []) S (c_X4_fail l D G M T ad (uv d 0 0 8 0) 3) gV_RX4_234 ds_X4_fail ⟨rfl, rfl⟩ ⟨Nat.le_of_ble_eq_true rfl, Nat.le_of_ble_eq_true rfl⟩ ⟨blindX, recvX hK hX (k := 0) (i := 0) Nat.zero_lt_one rfl rfl, preX hK hN hX _⟩ rfl hl.1 rfl (Nat.le_of_ble_eq_true rfl) ⟨Nat.le_of_ble_eq_true rfl, Nat.le_of_ble_eq_true rfl⟩ dX4_copy_103 hS (fun _ h => h) (fun H locs hX hS hfr => ?_)
              exact wI S hr hlk hs hX hS dX4_copy_106
            · have hs := hs.trans (cif_t c10)
              have f11 := hcs_of (by assumption) (XI.s8 (x := 0) hI) c10
              refine lv_aload S.1 S.2.1 dX4_copy_89 (lv_at hl 0 rfl) ?_
              refine lv_iload S.1 S.2.1 dX4_copy_91 (lv_at hl 6 rfl) ?_
              refine lv_iload S.1 S.2.1 dX4_copy_93 (lv_at hl 7 rfl) ?_
              refine cPV (rest := []) S (c_X2_hasCells l D G M T ad (uv d 0 0 8 0) (ix p3) p4 p5 hx6) gV_RX4_259 ds_X2_hasCells ⟨rfl, rfl⟩ ⟨Nat.le_of_ble_eq_true rfl, Nat.le_of_ble_eq_true rfl⟩ ⟨blindX, recvX hK hX (k := 6) (i := ix p3) hx6 rfl rfl, preX hK hN hX _⟩ rfl hl.1 rfl (Nat.le_of_ble_eq_true rfl) ⟨Nat.le_of_ble_eq_true rfl, Nat.le_of_ble_eq_true rfl⟩ dX4_copy_95 ?_
              refine q_if_ne_b (tgt := 107) S dX4_copy_98 (by decide) (fun c12 => ?_) (fun c12 => ?_)
              · have hs := hs.trans (cif_t c12)
                have f13 := hcs_of (by assumption) (XI.s8 (x := 0) hI) c12
                refine lv_aload S.1 S.2.1 dX4_copy_107 (lv_at hl 1 rfl) ?_
                refine gf_RX4_253 S hK hX hx5 dX4_copy_109 ?_
                refine lv_iload_n S.1 S.2.1 dX4_copy_112 rfl (lv_at hl 4 rfl) ?_
                refine lv_aload S.1 S.2.1 dX4_copy_113 (lv_at hl 0 rfl) ?_
                refine gf_RX4_253 S hK hX hx6 dX4_copy_115 ?_
                refine lv_iload S.1 S.2.1 dX4_copy_118 (lv_at hl 6 rfl) ?_
                refine lv_iload S.1 S.2.1 dX4_copy_120 (lv_at hl 7 rfl) ?_
                refine xcopy S hl.1 wML_RX4_262 wNA_arraycopy wST_arraycopy (wIN_RJ10) hK hX hS (k := 7) (i := ix p1) (k1 := 7) (i1 := ix p3) hx5 hx6 (adS_in (k := 7) hx6) 0 rfl (fun _ => rfl) rfl (by omega) (by omega) (by omega) (by omega) (by omega) (Nat.le_of_ble_eq_true rfl) (by decide) dX4_copy_122 (fun H locs hX hS => ?_)
                refine lv_iload S.1 S.2.1 dX4_copy_125 (lv_at hl 7 rfl) ?_
                exact wI S hr hlk hs hX hS dX4_copy_127
              · have hs := hs.trans (cif_f c12)
                refine lv_aload_n S.1 S.2.1 dX4_copy_101 rfl (lv_at hl 2 rfl) ?_
                refine lv_iconst (v := 3) S.1 S.2.1 dX4_copy_102 (by decide) ?_
                refine cWV (rest := []) S (c_X4_fail l D G M T ad (uv d 0 0 8 0) 3) gV_RX4_234 ds_X4_fail ⟨rfl, rfl⟩ ⟨Nat.le_of_ble_eq_true rfl, Nat.le_of_ble_eq_true rfl⟩ ⟨blindX, recvX hK hX (k := 0) (i := 0) Nat.zero_lt_one rfl rfl, preX hK hN hX _⟩ rfl hl.1 rfl (Nat.le_of_ble_eq_true rfl) ⟨Nat.le_of_ble_eq_true rfl, Nat.le_of_ble_eq_true rfl⟩ dX4_copy_103 hS (fun _ h => h) (fun H locs hX hS hfr => ?_)
                exact wI S hr hlk hs hX hS dX4_copy_106
          · have hs := hs.trans (cif_f c9)
            refine lv_aload_n S.1 S.2.1 dX4_copy_72 rfl (lv_at hl 2 rfl) ?_
            refine lv_iconst (v := 2) S.1 S.2.1 dX4_copy_73 (by decide) ?_
            refine cWV (rest := []) S (c_X4_fail l D G M T ad (uv d 0 0 8 0) 2) gV_RX4_234 ds_X4_fail ⟨rfl, rfl⟩ ⟨Nat.le_of_ble_eq_true rfl, Nat.le_of_ble_eq_true rfl⟩ ⟨blindX, recvX hK hX (k := 0) (i := 0) Nat.zero_lt_one rfl rfl, preX hK hN hX _⟩ rfl hl.1 rfl (Nat.le_of_ble_eq_true rfl) ⟨Nat.le_of_ble_eq_true rfl, Nat.le_of_ble_eq_true rfl⟩ dX4_copy_74 hS (fun _ h => h) (fun H locs hX hS hfr => ?_)
            exact wI S hr hlk hs hX hS dX4_copy_77
        · have hs := hs.trans (cif_t c8)
          refine lv_aload_n S.1 S.2.1 dX4_copy_53 rfl (lv_at hl 2 rfl) ?_
          refine lv_iconst (v := 1) S.1 S.2.1 dX4_copy_54 (by decide) ?_
          refine cWV (rest := []) S (c_X4_fail l D G M T ad (uv d 0 0 8 0) 1) gV_RX4_234 ds_X4_fail ⟨rfl, rfl⟩ ⟨Nat.le_of_ble_eq_true rfl, Nat.le_of_ble_eq_true rfl⟩ ⟨blindX, recvX hK hX (k := 0) (i := 0) Nat.zero_lt_one rfl rfl, preX hK hN hX _⟩ rfl hl.1 rfl (Nat.le_of_ble_eq_true rfl) ⟨Nat.le_of_ble_eq_true rfl, Nat.le_of_ble_eq_true rfl⟩ dX4_copy_55 hS (fun _ h => h) (fun H locs hX hS hfr => ?_)
          exact wI S hr hlk hs hX hS dX4_copy_58
    · have hs := hs.trans (cif_f c3)
      refine lv_iconst (v := (-1)) S.1 S.2.1 dX4_copy_19 (by decide) ?_
      exact wI S hr hlk hs hX hS dX4_copy_20
set_option maxRecDepth 100000 in
set_option maxHeartbeats 8000000 in
theorem c_X4_watch (l : Launch) (D : va_G) (G : Gc) (M T : Nat) (ad : Nat → Nat → Nat) (d : Dt) (p1 : Int32) (p2 : Int32) (p3 : Int32) (p4 : Int32) (p5 : Int32) (hI : XI M T d) : Met l yX4_watch (wsU yX4_watch cX4_watch 7 (some .int)) ({ frames := 2, cells := 0, slots := 0, locals := 44 } : Room) (va_Pc [.ref (ad 0 0), .int p1, .int p2, .int p3, .int p4, .int p5] (XPre D (tysG G) (XF G M T ad) (XN M T) ad d)) (qW (some (.int (sp_X4_watch d p1 p2 p3 p4 p5).1)) D (XF G M T ad) (XN M T) ad (sp_X4_watch d p1 p2 p3 p4 p5).2) 0 0 (adS (XN M T) ad) := by
  refine ent (by decide +kernel) (Nat.le_of_ble_eq_true rfl) ?_
  intro p e s m below meth c S hr hlk hpre ls hl
  have S : CallFix p m c cX4_watch 7 s [.ref (ad 0 0), .int p1, .int p2, .int p3, .int p4, .int p5].toArray wsL_law RX4 := S
  obtain ⟨hK, hN, hX⟩ := hpre
  have hl : lv_has ls 7 [(0, .ref (ad 0 0)), (1, .int p1), (2, .int p2), (3, .int p3), (4, .int p4), (5, .int p5)] := hl
  have hs := sp_X4_watch.eq_1 d p1 p2 p3 p4 p5
  have hS : va_S (adS (XN M T) ad) s.heap s.heap [] := va_S.rf
  have q1 := hI.1
  have q2 := hI.2.1
  have q3 := hI.2.2.1
  have q4 := hI.2.2.2.1
  have q5 := hI.rc
  refine lv_aload_n S.1 S.2.1 dX4_watch_0 rfl (lv_at hl 0 rfl) ?_
  refine lv_iconst (v := 0) S.1 S.2.1 dX4_watch_1 (by decide) ?_
  refine pf_RX4_49 S hK hX hS dX4_watch_2 (fun H locs hX hS => ?_)
  refine lv_iload_n S.1 S.2.1 dX4_watch_5 rfl (lv_at hl 1 rfl) ?_
  refine cPS (rest := []) S (c_X4_isSheet l p1) gS_RX4_228 ds_X4_isSheet.2 ⟨rfl, rfl⟩ ⟨Nat.le_of_ble_eq_true rfl, Nat.le_of_ble_eq_true rfl⟩ rfl hl.1 rfl (Nat.le_of_ble_eq_true rfl) ⟨Nat.le_of_ble_eq_true rfl, Nat.le_of_ble_eq_true rfl⟩ dX4_watch_6 ?_
  refine q_if_ne_b (tgt := 14) S dX4_watch_9 (by decide) (fun c1 => ?_) (fun c1 => ?_)
  · have hs := hs.trans (cif_t c1)
    have f2 := is_of c1
    refine lv_iload_n S.1 S.2.1 dX4_watch_14 rfl (lv_at hl 2 rfl) ?_
    refine cPS (rest := []) S (c_X4_isLane l p2) gS_RX4_231 ds_X4_isLane.2 ⟨rfl, rfl⟩ ⟨Nat.le_of_ble_eq_true rfl, Nat.le_of_ble_eq_true rfl⟩ rfl hl.1 rfl (Nat.le_of_ble_eq_true rfl) ⟨Nat.le_of_ble_eq_true rfl, Nat.le_of_ble_eq_true rfl⟩ dX4_watch_15 ?_
    refine q_if_eq_b (tgt := 31) S dX4_watch_18 (by decide) (fun c3 => ?_) (fun c3 => ?_)
    · have hs := hs.trans (cif_f c3)
      refine lv_bipush (v := (-2)) S.1 S.2.1 dX4_watch_31 (by decide) ?_
      exact wI S hr hlk hs hX hS dX4_watch_33
    · have hs := hs.trans (cif_t c3)
      refine lv_iload S.1 S.2.1 dX4_watch_21 (lv_at hl 5 rfl) ?_
      refine lv_iconst (v := 0) S.1 S.2.1 dX4_watch_23 (by decide) ?_
      refine lv_iconst (v := 3) S.1 S.2.1 dX4_watch_24 (by decide) ?_
      refine cPS (rest := []) S (c_X4_isWithin l p5 0 3) gS_RX4_54 ds_X4_isWithin.2 ⟨rfl, rfl⟩ ⟨Nat.le_of_ble_eq_true rfl, Nat.le_of_ble_eq_true rfl⟩ rfl hl.1 rfl (Nat.le_of_ble_eq_true rfl) ⟨Nat.le_of_ble_eq_true rfl, Nat.le_of_ble_eq_true rfl⟩ dX4_watch_25 ?_
      refine q_if_ne_b (tgt := 34) S dX4_watch_28 (by decide) (fun c4 => ?_) (fun c4 => ?_)
      · have hs := hs.trans (cif_t c4)
        refine lv_aload_n S.1 S.2.1 dX4_watch_34 rfl (lv_at hl 0 rfl) ?_
        refine gf_RX4_42 S hK hX dX4_watch_35 ?_
        refine lv_iload_n S.1 S.2.1 dX4_watch_38 rfl (lv_at hl 1 rfl) ?_
        have hx5 : ix p1 < 4 := ix_lt (by omega) (by omega)
        refine al_X5 S hK hX (by omega) (by omega) hx5 dX4_watch_39 ?_
        have f5 := hI.sl hx5
        refine lv_iload_n S.1 S.2.1 dX4_watch_40 rfl (lv_at hl 2 rfl) ?_
        refine cPV (rest := []) S (c_X2_faultAs l D G M T ad (uv d 0 0 8 0) (ix p1) p2 hx5) gV_RX4_250 ds_X2_faultAs ⟨rfl, rfl⟩ ⟨Nat.le_of_ble_eq_true rfl, Nat.le_of_ble_eq_true rfl⟩ ⟨blindX, recvX hK hX (k := 6) (i := ix p1) hx5 rfl rfl, preX hK hN hX _⟩ rfl hl.1 rfl (Nat.le_of_ble_eq_true rfl) ⟨Nat.le_of_ble_eq_true rfl, Nat.le_of_ble_eq_true rfl⟩ dX4_watch_41 ?_
        refine lv_istore (lv' := [(6, .int (sp_X2_faultAs (uv d 0 0 8 0) (ix p1) p2)), (0, .ref (ad 0 0)), (1, .int p1), (2, .int p2), (3, .int p3), (4, .int p4), (5, .int p5)]) S.1 S.2.1 dX4_watch_44 hl (by decide) rfl (fun ls hl => ?_)
        refine lv_iload S.1 S.2.1 dX4_watch_46 (lv_at hl 0 rfl) ?_
        refine q_if_eq (tgt := 58) (xi := (sp_X2_faultAs (uv d 0 0 8 0) (ix p1) p2).toInt) S rfl dX4_watch_48 (by decide) (fun c6 => ?_) (fun c6 => ?_)
        · have hs := hs.trans (cif_t c6)
          refine lv_iload S.1 S.2.1 dX4_watch_58 (lv_at hl 5 rfl) ?_
          refine q_if_ge (tgt := 69) (xi := p4.toInt) S rfl dX4_watch_60 (by decide) (fun c7 => ?_) (fun c7 => ?_)
          · have hs := hs.trans (cif_t c7)
            refine lv_aload_n S.1 S.2.1 dX4_watch_69 rfl (lv_at hl 1 rfl) ?_
            refine gf_RX4_42 S hK hX dX4_watch_70 ?_
            refine lv_iload_n S.1 S.2.1 dX4_watch_73 rfl (lv_at hl 2 rfl) ?_
            have hx8 : ix p1 < 4 := ix_lt (by omega) (by omega)
            refine al_X5 S hK hX (by omega) (by omega) hx8 dX4_watch_74 ?_
            have f8 := hI.sl hx8
            refine lv_iload_n S.1 S.2.1 dX4_watch_75 rfl (lv_at hl 4 rfl) ?_
            refine lv_iload S.1 S.2.1 dX4_watch_76 (lv_at hl 5 rfl) ?_
            refine cPV (rest := []) S (c_X2_hasCells l D G M T ad (uv d 0 0 8 0) (ix p1) p3 p4 hx8) gV_RX4_259 ds_X2_hasCells ⟨rfl, rfl⟩ ⟨Nat.le_of_ble_eq_true rfl, Nat.le_of_ble_eq_true rfl⟩ ⟨blindX, recvX hK hX (k := 6) (i := ix p1) hx8 rfl rfl, preX hK hN hX _⟩ rfl hl.1 rfl (Nat.le_of_ble_eq_true rfl) ⟨Nat.le_of_ble_eq_true rfl, Nat.le_of_ble_eq_true rfl⟩ dX4_watch_78 ?_
            refine q_if_ne_b (tgt := 90) S dX4_watch_81 (by decide) (fun c9 => ?_) (fun c9 => ?_)
            · have hs := hs.trans (cif_t c9)
              have f10 := hcs_of (by assumption) (XI.s8 (x := 0) hI) c9
              refine lv_aload_n S.1 S.2.1 dX4_watch_90 rfl (lv_at hl 1 rfl) ?_
              refine gf_RX4_42 S hK hX dX4_watch_91 ?_
              refine lv_iload_n S.1 S.2.1 dX4_watch_94 rfl (lv_at hl 2 rfl) ?_
              have hx11 : ix p1 < 4 := ix_lt (by omega) (by omega)
              refine al_X5 S hK hX (by omega) (by omega) hx11 dX4_watch_95 ?_
              have f11 := hI.sl hx11
              refine lv_iload_n S.1 S.2.1 dX4_watch_96 rfl (lv_at hl 4 rfl) ?_
              refine lv_iload S.1 S.2.1 dX4_watch_97 (lv_at hl 5 rfl) ?_
              refine lv_iload S.1 S.2.1 dX4_watch_99 (lv_at hl 6 rfl) ?_
              refine cPV (rest := []) S (c_X2_watched l D G M T ad (uv d 0 0 8 0) (ix p1) p3 p4 p5 hx11 (by omega) (by omega) (by omega)) gV_RX4_268 ds_X2_watched ⟨rfl, rfl⟩ ⟨Nat.le_of_ble_eq_true rfl, Nat.le_of_ble_eq_true rfl⟩ ⟨blindX, recvX hK hX (k := 6) (i := ix p1) hx11 rfl rfl, preX hK hN hX _⟩ rfl hl.1 rfl (Nat.le_of_ble_eq_true rfl) ⟨Nat.le_of_ble_eq_true rfl, Nat.le_of_ble_eq_true rfl⟩ dX4_watch_101 ?_
              exact wI S hr hlk hs hX hS dX4_watch_104
            · have hs := hs.trans (cif_f c9)
              refine lv_aload_n S.1 S.2.1 dX4_watch_84 rfl (lv_at hl 1 rfl) ?_
              refine lv_iconst (v := 3) S.1 S.2.1 dX4_watch_85 (by decide) ?_
              refine cWV (rest := []) S (c_X4_fail l D G M T ad (uv d 0 0 8 0) 3) gV_RX4_234 ds_X4_fail ⟨rfl, rfl⟩ ⟨Nat.le_of_ble_eq_true rfl, Nat.le_of_ble_eq_true rfl⟩ ⟨blindX, recvX hK hX (k := 0) (i := 0) Nat.zero_lt_one rfl rfl, preX hK hN hX _⟩ rfl hl.1 rfl (Nat.le_of_ble_eq_true rfl) ⟨Nat.le_of_ble_eq_true rfl, Nat.le_of_ble_eq_true rfl⟩ dX4_watch_86 hS (fun _ h => h) (fun H locs hX hS hfr => ?_)
              exact wI S hr hlk hs hX hS dX4_watch_89
          · have hs := hs.trans (cif_f c7)
            refine lv_aload_n S.1 S.2.1 dX4_watch_63 rfl (lv_at hl 1 rfl) ?_
            refine lv_iconst (v := 4) S.1 S.2.1 dX4_watch_64 (by decide) ?_
            refine cWV (rest := []) S (c_X4_fail l D G M T ad (uv d 0 0 8 0) 4) gV_RX4_234 ds_X4_fail ⟨rfl, rfl⟩ ⟨Nat.le_of_ble_eq_true rfl, Nat.le_of_ble_eq_true rfl⟩ ⟨blindX, recvX hK hX (k := 0) (i := 0) Nat.zero_lt_one rfl rfl, preX hK hN hX _⟩ rfl hl.1 rfl (Nat.le_of_ble_eq_true rfl) ⟨Nat.le_of_ble_eq_true rfl, Nat.le_of_ble_eq_true rfl⟩ dX4_watch_65 hS (fun _ h => h) (fun H locs hX hS hfr => ?_)
            exact wI S hr hlk hs hX hS dX4_watch_68
        · have hs := hs.trans (cif_f c6)
          refine lv_aload_n S.1 S.2.1 dX4_watch_51 rfl (lv_at hl 1 rfl) ?_
          refine lv_iload S.1 S.2.1 dX4_watch_52 (lv_at hl 0 rfl) ?_
          refine cWV (rest := []) S (c_X4_fail l D G M T ad (uv d 0 0 8 0) (sp_X2_faultAs (uv d 0 0 8 0) (ix p1) p2)) gV_RX4_234 ds_X4_fail ⟨rfl, rfl⟩ ⟨Nat.le_of_ble_eq_true rfl, Nat.le_of_ble_eq_true rfl⟩ ⟨blindX, recvX hK hX (k := 0) (i := 0) Nat.zero_lt_one rfl rfl, preX hK hN hX _⟩ rfl hl.1 rfl (Nat.le_of_ble_eq_true rfl) ⟨Nat.le_of_ble_eq_true rfl, Nat.le_of_ble_eq_true rfl⟩ dX4_watch_54 hS (fun _ h => h) (fun H locs hX hS hfr => ?_)
          exact wI S hr hlk hs hX hS dX4_watch_57
      · have hs := hs.trans (cif_f c4)
        refine lv_bipush (v := (-2)) S.1 S.2.1 dX4_watch_31 (by decide) ?_
        exact wI S hr hlk hs hX hS dX4_watch_33
  · have hs := hs.trans (cif_f c1)
    refine lv_iconst (v := (-1)) S.1 S.2.1 dX4_watch_12 (by decide) ?_
    exact wI S hr hlk hs hX hS dX4_watch_13
set_option maxRecDepth 100000 in
set_option maxHeartbeats 8000000 in
theorem c_X4_tell (l : Launch) (D : va_G) (G : Gc) (M T : Nat) (ad : Nat → Nat → Nat) (d : Dt) (p1 : Int32) (hI : XI M T d) : Met l yX4_tell (wsU yX4_tell cX4_tell 2 (some .int)) ({ frames := 2, cells := 0, slots := 0, locals := 43 } : Room) (va_Pc [.ref (ad 0 0), .int p1] (XPre D (tysG G) (XF G M T ad) (XN M T) ad d)) (qW (some (.int (sp_X4_tell d p1).1)) D (XF G M T ad) (XN M T) ad (sp_X4_tell d p1).2) 0 0 (adS (XN M T) ad) := by
  refine ent (by decide +kernel) (Nat.le_of_ble_eq_true rfl) ?_
  intro p e s m below meth c S hr hlk hpre ls hl
  have S : CallFix p m c cX4_tell 2 s [.ref (ad 0 0), .int p1].toArray wsL_law RX4 := S
  obtain ⟨hK, hN, hX⟩ := hpre
  have hl : lv_has ls 2 [(0, .ref (ad 0 0)), (1, .int p1)] := hl
  have hs := sp_X4_tell.eq_1 d p1
  have hS : va_S (adS (XN M T) ad) s.heap s.heap [] := va_S.rf
  have q1 := hI.1
  have q2 := hI.2.1
  have q3 := hI.2.2.1
  have q4 := hI.2.2.2.1
  have q5 := hI.rc
  refine lv_aload_n S.1 S.2.1 dX4_tell_0 rfl (lv_at hl 0 rfl) ?_
  refine lv_iload_n S.1 S.2.1 dX4_tell_1 rfl (lv_at hl 1 rfl) ?_
  refine cPV (rest := []) S (c_X4_isTicket l D G M T ad d p1) gV_RX4_152 ds_X4_isTicket ⟨rfl, rfl⟩ ⟨Nat.le_of_ble_eq_true rfl, Nat.le_of_ble_eq_true rfl⟩ ⟨blindX, recvX hK hX (k := 0) (i := 0) Nat.zero_lt_one rfl rfl, preX hK hN hX _⟩ rfl hl.1 rfl (Nat.le_of_ble_eq_true rfl) ⟨Nat.le_of_ble_eq_true rfl, Nat.le_of_ble_eq_true rfl⟩ dX4_tell_2 ?_
  refine q_if_ne_b (tgt := 10) S dX4_tell_5 (by decide) (fun c1 => ?_) (fun c1 => ?_)
  · have hs := hs.trans (cif_t c1)
    have f2 := it_of hI c1
    refine lv_aload_n S.1 S.2.1 dX4_tell_10 rfl (lv_at hl 0 rfl) ?_
    refine gf_RX4_30 S hK hX dX4_tell_11 ?_
    refine lv_iload_n S.1 S.2.1 dX4_tell_14 rfl (lv_at hl 1 rfl) ?_
    have hx3 : ix p1 < T := ix_lt (by omega) (by omega)
    refine al_X4 S hK hX (by omega) (by omega) hx3 dX4_tell_15 ?_
    refine gf_RX4_175 S hK hX hx3 (v := d.1 13 (ix p1) 5) rfl dX4_tell_16 ?_
    by_cases c4 : (d.1 13 (ix p1) 5).toInt = 1
    · have hs := hs.trans (cif_t c4)
      refine lv_lookup (tgt := 44) (off := 25) S.1 S.2.1 dX4_tell_19 (by decide) (by rw [c4]; rfl) (by decide) ?_
      refine lv_aload_n S.1 S.2.1 dX4_tell_44 rfl (lv_at hl 0 rfl) ?_
      refine lv_iconst (v := 2) S.1 S.2.1 dX4_tell_45 (by decide) ?_
      refine cWV (rest := []) S (c_X4_leave l D G M T ad d 2) gV_RX4_272 ds_X4_leave ⟨rfl, rfl⟩ ⟨Nat.le_of_ble_eq_true rfl, Nat.le_of_ble_eq_true rfl⟩ ⟨blindX, recvX hK hX (k := 0) (i := 0) Nat.zero_lt_one rfl rfl, preX hK hN hX _⟩ rfl hl.1 rfl (Nat.le_of_ble_eq_true rfl) ⟨Nat.le_of_ble_eq_true rfl, Nat.le_of_ble_eq_true rfl⟩ dX4_tell_46 hS (fun _ h => h) (fun H locs hX hS hfr => ?_)
      refine lv_sipush (v := 1000) S.1 S.2.1 dX4_tell_49 (by decide) ?_
      refine lv_aload_n S.1 S.2.1 dX4_tell_52 rfl (lv_at hl 0 rfl) ?_
      refine lv_aload_n S.1 S.2.1 dX4_tell_53 rfl (lv_at hl 0 rfl) ?_
      refine gf_RX4_30 S hK hX dX4_tell_54 ?_
      refine lv_iload_n S.1 S.2.1 dX4_tell_57 rfl (lv_at hl 1 rfl) ?_
      have hx5 : ix p1 < T := ix_lt (by omega) (by omega)
      refine al_X4 S hK hX (by omega) (by omega) hx5 dX4_tell_58 ?_
      refine cWV (rest := [.int 1000]) S (c_X4_tellTicket l D G M T ad (sp_X4_leave d 2) (ix p1) hx5) gV_RX4_275 ds_X4_tellTicket ⟨rfl, rfl⟩ ⟨Nat.le_of_ble_eq_true rfl, Nat.le_of_ble_eq_true rfl⟩ ⟨blindX, recvX hK hX (k := 0) (i := 0) Nat.zero_lt_one rfl rfl, preX hK hN hX _⟩ rfl hl.1 rfl (Nat.le_of_ble_eq_true rfl) ⟨Nat.le_of_ble_eq_true rfl, Nat.le_of_ble_eq_true rfl⟩ dX4_tell_59 hS (fun _ h => h) (fun H locs hX hS hfr => ?_)
      refine lv_iadd S.1 S.2.1 dX4_tell_62 ?_
      exact wI S hr hlk hs hX hS dX4_tell_63
    · have hs := hs.trans (cif_f c4)
      by_cases c6 : (d.1 13 (ix p1) 5).toInt = 2
      · have hs := hs.trans (cif_t c6)
        refine lv_lookup (tgt := 64) (off := 45) S.1 S.2.1 dX4_tell_19 (by decide) (by rw [c6]; rfl) (by decide) ?_
        refine lv_aload_n S.1 S.2.1 dX4_tell_64 rfl (lv_at hl 0 rfl) ?_
        refine lv_iconst (v := 3) S.1 S.2.1 dX4_tell_65 (by decide) ?_
        refine cWV (rest := []) S (c_X4_leave l D G M T ad d 3) gV_RX4_272 ds_X4_leave ⟨rfl, rfl⟩ ⟨Nat.le_of_ble_eq_true rfl, Nat.le_of_ble_eq_true rfl⟩ ⟨blindX, recvX hK hX (k := 0) (i := 0) Nat.zero_lt_one rfl rfl, preX hK hN hX _⟩ rfl hl.1 rfl (Nat.le_of_ble_eq_true rfl) ⟨Nat.le_of_ble_eq_true rfl, Nat.le_of_ble_eq_true rfl⟩ dX4_tell_66 hS (fun _ h => h) (fun H locs hX hS hfr => ?_)
        refine lv_aload_n S.1 S.2.1 dX4_tell_69 rfl (lv_at hl 0 rfl) ?_
        refine lv_aload_n S.1 S.2.1 dX4_tell_70 rfl (lv_at hl 0 rfl) ?_
        refine gf_RX4_30 S hK hX dX4_tell_71 ?_
        refine lv_iload_n S.1 S.2.1 dX4_tell_74 rfl (lv_at hl 1 rfl) ?_
        have hx7 : ix p1 < T := ix_lt (by omega) (by omega)
        refine al_X4 S hK hX (by omega) (by omega) hx7 dX4_tell_75 ?_
        refine cWV (rest := []) S (c_X4_tellTicket l D G M T ad (sp_X4_leave d 3) (ix p1) hx7) gV_RX4_275 ds_X4_tellTicket ⟨rfl, rfl⟩ ⟨Nat.le_of_ble_eq_true rfl, Nat.le_of_ble_eq_true rfl⟩ ⟨blindX, recvX hK hX (k := 0) (i := 0) Nat.zero_lt_one rfl rfl, preX hK hN hX _⟩ rfl hl.1 rfl (Nat.le_of_ble_eq_true rfl) ⟨Nat.le_of_ble_eq_true rfl, Nat.le_of_ble_eq_true rfl⟩ dX4_tell_76 hS (fun _ h => h) (fun H locs hX hS hfr => ?_)
        refine lv_ineg S.1 S.2.1 dX4_tell_79 ?_
        refine lv_iconst (v := 1) S.1 S.2.1 dX4_tell_80 (by decide) ?_
        refine lv_isub S.1 S.2.1 dX4_tell_81 ?_
        exact wI S hr hlk hs hX hS dX4_tell_82
      · have hs := hs.trans (cif_f c6)
        refine lv_lookup (tgt := 83) (off := 64) S.1 S.2.1 dX4_tell_19 (by decide) ((lv_osw (x := d.1 13 (ix p1) 5) (k := 1) (fun h => absurd (congrArg Int32.toInt h) c4) rfl).trans ((lv_osw (x := d.1 13 (ix p1) 5) (k := 2) (fun h => absurd (congrArg Int32.toInt h) c6) rfl).trans rfl)) (by decide) ?_
        refine lv_aload_n S.1 S.2.1 dX4_tell_83 rfl (lv_at hl 0 rfl) ?_
        refine lv_aload_n S.1 S.2.1 dX4_tell_84 rfl (lv_at hl 0 rfl) ?_
        refine gf_RX4_30 S hK hX dX4_tell_85 ?_
        refine lv_iload_n S.1 S.2.1 dX4_tell_88 rfl (lv_at hl 1 rfl) ?_
        have hx9 : ix p1 < T := ix_lt (by omega) (by omega)
        refine al_X4 S hK hX (by omega) (by omega) hx9 dX4_tell_89 ?_
        refine cWV (rest := []) S (c_X4_tellTicket l D G M T ad d (ix p1) hx9) gV_RX4_275 ds_X4_tellTicket ⟨rfl, rfl⟩ ⟨Nat.le_of_ble_eq_true rfl, Nat.le_of_ble_eq_true rfl⟩ ⟨blindX, recvX hK hX (k := 0) (i := 0) Nat.zero_lt_one rfl rfl, preX hK hN hX _⟩ rfl hl.1 rfl (Nat.le_of_ble_eq_true rfl) ⟨Nat.le_of_ble_eq_true rfl, Nat.le_of_ble_eq_true rfl⟩ dX4_tell_90 hS (fun _ h => h) (fun H locs hX hS hfr => ?_)
        exact wI S hr hlk hs hX hS dX4_tell_93
  · have hs := hs.trans (cif_f c1)
    refine lv_iconst (v := (-1)) S.1 S.2.1 dX4_tell_8 (by decide) ?_
    exact wI S hr hlk hs hX hS dX4_tell_9
set_option maxRecDepth 100000 in
set_option maxHeartbeats 8000000 in
theorem c_X4_worth (l : Launch) (D : va_G) (G : Gc) (M T : Nat) (ad : Nat → Nat → Nat) (d : Dt) (p1 : Int32) (hI : XI M T d) : Met l yX4_worth (wsU yX4_worth cX4_worth 2 (some .int)) ({ frames := 2, cells := 0, slots := 0, locals := 44 } : Room) (va_Pc [.ref (ad 0 0), .int p1] (XPre D (tysG G) (XF G M T ad) (XN M T) ad d)) (qW (some (.int (sp_X4_worth d p1).1)) D (XF G M T ad) (XN M T) ad (sp_X4_worth d p1).2) 0 0 (adS (XN M T) ad) := by
  refine ent (by decide +kernel) (Nat.le_of_ble_eq_true rfl) ?_
  intro p e s m below meth c S hr hlk hpre ls hl
  have S : CallFix p m c cX4_worth 2 s [.ref (ad 0 0), .int p1].toArray wsL_law RX4 := S
  obtain ⟨hK, hN, hX⟩ := hpre
  have hl : lv_has ls 2 [(0, .ref (ad 0 0)), (1, .int p1)] := hl
  have hs := sp_X4_worth.eq_1 d p1
  have hS : va_S (adS (XN M T) ad) s.heap s.heap [] := va_S.rf
  have q1 := hI.1
  have q2 := hI.2.1
  have q3 := hI.2.2.1
  have q4 := hI.2.2.2.1
  have q5 := hI.rc
  refine lv_aload_n S.1 S.2.1 dX4_worth_0 rfl (lv_at hl 0 rfl) ?_
  refine lv_iload_n S.1 S.2.1 dX4_worth_1 rfl (lv_at hl 1 rfl) ?_
  refine cPV (rest := []) S (c_X4_isTicket l D G M T ad d p1) gV_RX4_152 ds_X4_isTicket ⟨rfl, rfl⟩ ⟨Nat.le_of_ble_eq_true rfl, Nat.le_of_ble_eq_true rfl⟩ ⟨blindX, recvX hK hX (k := 0) (i := 0) Nat.zero_lt_one rfl rfl, preX hK hN hX _⟩ rfl hl.1 rfl (Nat.le_of_ble_eq_true rfl) ⟨Nat.le_of_ble_eq_true rfl, Nat.le_of_ble_eq_true rfl⟩ dX4_worth_2 ?_
  refine q_if_ne_b (tgt := 10) S dX4_worth_5 (by decide) (fun c1 => ?_) (fun c1 => ?_)
  · have hs := hs.trans (cif_t c1)
    have f2 := it_of hI c1
    refine lv_aload_n S.1 S.2.1 dX4_worth_10 rfl (lv_at hl 0 rfl) ?_
    refine gf_RX4_30 S hK hX dX4_worth_11 ?_
    refine lv_iload_n S.1 S.2.1 dX4_worth_14 rfl (lv_at hl 1 rfl) ?_
    have hx3 : ix p1 < T := ix_lt (by omega) (by omega)
    refine al_X4 S hK hX (by omega) (by omega) hx3 dX4_worth_15 ?_
    refine gf_RX4_175 S hK hX hx3 (v := d.1 13 (ix p1) 5) rfl dX4_worth_16 ?_
    refine lv_iconst (v := 2) S.1 S.2.1 dX4_worth_19 (by decide) ?_
    refine q_icmp_ne (tgt := 30) (xi := (d.1 13 (ix p1) 5).toInt) (yi := 2) S rfl rfl dX4_worth_20 (by decide) (fun c4 => ?_) (fun c4 => ?_)
    · have hs := hs.trans (cif_f c4)
      refine lv_aload_n S.1 S.2.1 dX4_worth_30 rfl (lv_at hl 0 rfl) ?_
      refine lv_iconst (v := 4) S.1 S.2.1 dX4_worth_31 (by decide) ?_
      refine cWV (rest := []) S (c_X4_leave l D G M T ad d 4) gV_RX4_272 ds_X4_leave ⟨rfl, rfl⟩ ⟨Nat.le_of_ble_eq_true rfl, Nat.le_of_ble_eq_true rfl⟩ ⟨blindX, recvX hK hX (k := 0) (i := 0) Nat.zero_lt_one rfl rfl, preX hK hN hX _⟩ rfl hl.1 rfl (Nat.le_of_ble_eq_true rfl) ⟨Nat.le_of_ble_eq_true rfl, Nat.le_of_ble_eq_true rfl⟩ dX4_worth_32 hS (fun _ h => h) (fun H locs hX hS hfr => ?_)
      refine lv_aload_n S.1 S.2.1 dX4_worth_35 rfl (lv_at hl 0 rfl) ?_
      refine lv_aload_n S.1 S.2.1 dX4_worth_36 rfl (lv_at hl 0 rfl) ?_
      refine gf_RX4_30 S hK hX dX4_worth_37 ?_
      refine lv_iload_n S.1 S.2.1 dX4_worth_40 rfl (lv_at hl 1 rfl) ?_
      have hx5 : ix p1 < T := ix_lt (by omega) (by omega)
      refine al_X4 S hK hX (by omega) (by omega) hx5 dX4_worth_41 ?_
      refine cPV (rest := []) S (c_X4_volumeOf l D G M T ad (sp_X4_leave d 4) (ix p1) hx5 hI) gV_RX4_189 ds_X4_volumeOf ⟨rfl, rfl⟩ ⟨Nat.le_of_ble_eq_true rfl, Nat.le_of_ble_eq_true rfl⟩ ⟨blindX, recvX hK hX (k := 0) (i := 0) Nat.zero_lt_one rfl rfl, preX hK hN hX _⟩ rfl hl.1 rfl (Nat.le_of_ble_eq_true rfl) ⟨Nat.le_of_ble_eq_true rfl, Nat.le_of_ble_eq_true rfl⟩ dX4_worth_42 ?_
      refine lv_ldc2 S.1 S.2.1 S.2.2.2.1 (S.2.2.2.2 _ wKL_RX4_115) dX4_worth_45 ?_
      refine lv_ldiv S.1 S.2.1 dX4_worth_48 (by decide) ?_
      refine lv_ldc2 S.1 S.2.1 S.2.2.2.1 (S.2.2.2.2 _ wKL_RX4_279) dX4_worth_49 ?_
      refine va_mmin_long S.1 S.2.1 (S.2.2.1.trans hl.1.symm) S.2.2.2.1 (S.2.2.2.2 _ wML_RX4_225) (S.2.2.2.2 _ wST_J9_min_f86c9) (S.2.2.2.2 _ wIN_RJ9) (S.2.2.2.2 _ wCO_J9_min_f86c9) (Nat.le_of_ble_eq_true rfl) (Nat.le_of_ble_eq_true rfl) (Nat.le_of_ble_eq_true rfl) (Nat.le_of_ble_eq_true rfl) dX4_worth_52 ?_
      refine lv_l2i S.1 S.2.1 dX4_worth_55 rfl ?_
      exact wI S hr hlk hs hX hS dX4_worth_56
    · have hs := hs.trans (cif_t c4)
      refine lv_aload_n S.1 S.2.1 dX4_worth_23 rfl (lv_at hl 0 rfl) ?_
      refine lv_iconst (v := 5) S.1 S.2.1 dX4_worth_24 (by decide) ?_
      refine cWV (rest := []) S (c_X4_leave l D G M T ad d 5) gV_RX4_272 ds_X4_leave ⟨rfl, rfl⟩ ⟨Nat.le_of_ble_eq_true rfl, Nat.le_of_ble_eq_true rfl⟩ ⟨blindX, recvX hK hX (k := 0) (i := 0) Nat.zero_lt_one rfl rfl, preX hK hN hX _⟩ rfl hl.1 rfl (Nat.le_of_ble_eq_true rfl) ⟨Nat.le_of_ble_eq_true rfl, Nat.le_of_ble_eq_true rfl⟩ dX4_worth_25 hS (fun _ h => h) (fun H locs hX hS hfr => ?_)
      refine lv_iconst (v := 1) S.1 S.2.1 dX4_worth_28 (by decide) ?_
      exact wI S hr hlk hs hX hS dX4_worth_29
  · have hs := hs.trans (cif_f c1)
    refine lv_iconst (v := (-1)) S.1 S.2.1 dX4_worth_8 (by decide) ?_
    exact wI S hr hlk hs hX hS dX4_worth_9
set_option maxRecDepth 100000 in
set_option maxHeartbeats 8000000 in
theorem c_X4_as (l : Launch) (D : va_G) (G : Gc) (M T : Nat) (ad : Nat → Nat → Nat) (d : Dt) (p1 : Int32) (p2 : Int32) (hI : XI M T d) : Met l yX4_as (wsU yX4_as cX4_as 3 (some .int)) ({ frames := 2, cells := 0, slots := 0, locals := 43 } : Room) (va_Pc [.ref (ad 0 0), .int p1, .int p2] (XPre D (tysG G) (XF G M T ad) (XN M T) ad d)) (qW (some (.int (sp_X4_as d p1 p2).1)) D (XF G M T ad) (XN M T) ad (sp_X4_as d p1 p2).2) 0 0 (adS (XN M T) ad) := by
  refine ent (by decide +kernel) (Nat.le_of_ble_eq_true rfl) ?_
  intro p e s m below meth c S hr hlk hpre ls hl
  have S : CallFix p m c cX4_as 3 s [.ref (ad 0 0), .int p1, .int p2].toArray wsL_law RX4 := S
  obtain ⟨hK, hN, hX⟩ := hpre
  have hl : lv_has ls 3 [(0, .ref (ad 0 0)), (1, .int p1), (2, .int p2)] := hl
  have hs := sp_X4_as.eq_1 d p1 p2
  have hS : va_S (adS (XN M T) ad) s.heap s.heap [] := va_S.rf
  have q1 := hI.1
  have q2 := hI.2.1
  have q3 := hI.2.2.1
  have q4 := hI.2.2.2.1
  have q5 := hI.rc
  refine lv_aload_n S.1 S.2.1 dX4_as_0 rfl (lv_at hl 0 rfl) ?_
  refine lv_iconst (v := 0) S.1 S.2.1 dX4_as_1 (by decide) ?_
  refine pf_RX4_49 S hK hX hS dX4_as_2 (fun H locs hX hS => ?_)
  refine lv_aload_n S.1 S.2.1 dX4_as_5 rfl (lv_at hl 0 rfl) ?_
  refine lv_iload_n S.1 S.2.1 dX4_as_6 rfl (lv_at hl 1 rfl) ?_
  refine cPV (rest := []) S (c_X4_isTicket l D G M T ad (uv d 0 0 8 0) p1) gV_RX4_152 ds_X4_isTicket ⟨rfl, rfl⟩ ⟨Nat.le_of_ble_eq_true rfl, Nat.le_of_ble_eq_true rfl⟩ ⟨blindX, recvX hK hX (k := 0) (i := 0) Nat.zero_lt_one rfl rfl, preX hK hN hX _⟩ rfl hl.1 rfl (Nat.le_of_ble_eq_true rfl) ⟨Nat.le_of_ble_eq_true rfl, Nat.le_of_ble_eq_true rfl⟩ dX4_as_7 ?_
  refine q_if_ne_b (tgt := 15) S dX4_as_10 (by decide) (fun c1 => ?_) (fun c1 => ?_)
  · have hs := hs.trans (cif_t c1)
    have f2 := it_of (XI.s8 (x := 0) hI) c1
    refine lv_iload_n S.1 S.2.1 dX4_as_15 rfl (lv_at hl 2 rfl) ?_
    refine lv_iconst (v := 0) S.1 S.2.1 dX4_as_16 (by decide) ?_
    refine lv_iconst (v := 2) S.1 S.2.1 dX4_as_17 (by decide) ?_
    refine cPS (rest := []) S (c_X4_isWithin l p2 0 2) gS_RX4_54 ds_X4_isWithin.2 ⟨rfl, rfl⟩ ⟨Nat.le_of_ble_eq_true rfl, Nat.le_of_ble_eq_true rfl⟩ rfl hl.1 rfl (Nat.le_of_ble_eq_true rfl) ⟨Nat.le_of_ble_eq_true rfl, Nat.le_of_ble_eq_true rfl⟩ dX4_as_18 ?_
    refine q_if_ne_b (tgt := 27) S dX4_as_21 (by decide) (fun c3 => ?_) (fun c3 => ?_)
    · have hs := hs.trans (cif_t c3)
      refine lv_aload_n S.1 S.2.1 dX4_as_27 rfl (lv_at hl 0 rfl) ?_
      refine gf_RX4_30 S hK hX dX4_as_28 ?_
      refine lv_iload_n S.1 S.2.1 dX4_as_31 rfl (lv_at hl 1 rfl) ?_
      have hx4 : ix p1 < T := ix_lt (by omega) (by omega)
      refine al_X4 S hK hX (by omega) (by omega) hx4 dX4_as_32 ?_
      refine gf_RX4_175 S hK hX hx4 (v := d.1 13 (ix p1) 5) rfl dX4_as_33 ?_
      refine lv_iload_n S.1 S.2.1 dX4_as_36 rfl (lv_at hl 2 rfl) ?_
      refine q_icmp_lt (tgt := 44) (xi := (d.1 13 (ix p1) 5).toInt) (yi := p2.toInt) S rfl rfl dX4_as_37 (by decide) (fun c5 => ?_) (fun c5 => ?_)
      · have hs := hs.trans (cif_t c5)
        refine lv_aload_n S.1 S.2.1 dX4_as_44 rfl (lv_at hl 0 rfl) ?_
        refine lv_iconst (v := 2) S.1 S.2.1 dX4_as_45 (by decide) ?_
        refine cWV (rest := []) S (c_X4_fail l D G M T ad (uv d 0 0 8 0) 2) gV_RX4_234 ds_X4_fail ⟨rfl, rfl⟩ ⟨Nat.le_of_ble_eq_true rfl, Nat.le_of_ble_eq_true rfl⟩ ⟨blindX, recvX hK hX (k := 0) (i := 0) Nat.zero_lt_one rfl rfl, preX hK hN hX _⟩ rfl hl.1 rfl (Nat.le_of_ble_eq_true rfl) ⟨Nat.le_of_ble_eq_true rfl, Nat.le_of_ble_eq_true rfl⟩ dX4_as_46 hS (fun _ h => h) (fun H locs hX hS hfr => ?_)
        exact wI S hr hlk hs hX hS dX4_as_49
      · have hs := hs.trans (cif_f c5)
        refine lv_iconst (v := 1) S.1 S.2.1 dX4_as_40 (by decide) ?_
        refine lv_goto (tgt := 49) S.1 S.2.1 dX4_as_41 (by decide) ?_
        exact wI S hr hlk hs hX hS dX4_as_49
    · have hs := hs.trans (cif_f c3)
      refine lv_bipush (v := (-2)) S.1 S.2.1 dX4_as_24 (by decide) ?_
      exact wI S hr hlk hs hX hS dX4_as_26
  · have hs := hs.trans (cif_f c1)
    refine lv_iconst (v := (-1)) S.1 S.2.1 dX4_as_13 (by decide) ?_
    exact wI S hr hlk hs hX hS dX4_as_14
set_option maxRecDepth 100000 in
set_option maxHeartbeats 8000000 in
theorem c_X4_countNotReplaced (l : Launch) (D : va_G) (G : Gc) (M T : Nat) (ad : Nat → Nat → Nat) (d : Dt) (hI : XI M T d) : Met l yX4_countNotReplaced (wsU yX4_countNotReplaced cX4_countNotReplaced 3 (some .int)) ({ frames := 1, cells := 0, slots := 0, locals := 20 } : Room) (va_Pc [.ref (ad 0 0)] (XPre D (tysG G) (XF G M T ad) (XN M T) ad d)) (qV (some (.int (sp_X4_countNotReplaced d)))) 0 0 (fun _ => False) := by
  refine ent (by decide +kernel) (Nat.le_of_ble_eq_true rfl) ?_
  intro p e s m below meth c S hr hlk hpre ls hl
  have S : CallFix p m c cX4_countNotReplaced 3 s [.ref (ad 0 0)].toArray wsL_law RX4 := S
  obtain ⟨hK, hN, hX⟩ := hpre
  have hl : lv_has ls 3 [(0, .ref (ad 0 0))] := hl
  have hs := sp_X4_countNotReplaced.eq_1 d
  have q1 := hI.1
  have q2 := hI.2.1
  have q3 := hI.2.2.1
  have q4 := hI.2.2.2.1
  have q5 := hI.rc
  refine lv_iconst (v := 0) S.1 S.2.1 dX4_countNotReplaced_0 (by decide) ?_
  refine lv_istore_n (lv' := [(1, .int 0), (0, .ref (ad 0 0))]) S.1 S.2.1 dX4_countNotReplaced_1 rfl hl (by decide) rfl (fun ls hl => ?_)
  refine lv_iconst (v := 0) S.1 S.2.1 dX4_countNotReplaced_2 (by decide) ?_
  refine lv_istore_n (lv' := [(2, .int 0), (1, .int 0), (0, .ref (ad 0 0))]) S.1 S.2.1 dX4_countNotReplaced_3 rfl hl (by decide) rfl (fun ls hl => ?_)
  have L4 : ∀ (n : Nat), ∀ (x2 : Int32) (x1 : Int32), (d.1 0 0 4).toInt - x2.toInt < (n : Int) → 0 ≤ x2.toInt → x2.toInt ≤ (d.1 0 0 4).toInt → sp_X4_countNotReplaced d = lp_X4_countNotReplaced_4 d n x2 x1 → ∀ ls : Array Slot, lv_has ls 3 [(2, .int x2), (1, .int x1), (0, .ref (ad 0 0))] → W p l e ({ frames := 1, cells := 0, slots := 0, locals := 20 } : Room) s m [.ref (ad 0 0)].toArray below meth c s.heap [] 0 0 (MQ below (qV (some (.int (sp_X4_countNotReplaced d)))) [.ref (ad 0 0)].toArray s 0 0 (fun _ => False)) (F0 m 4 ls []) := by
    intro n
    induction n with
    | zero => intro x2 x1 hms v4_0 v4_1 hs ls hl; omega
    | succ n ih4 =>
      intro x2 x1 hms v4_0 v4_1 hs ls hl
      have hs := hs.trans (st_X4_countNotReplaced_4.eq_1 d (lp_X4_countNotReplaced_4 d n) x2 x1)
      refine lv_iload_n S.1 S.2.1 dX4_countNotReplaced_4 rfl (lv_at hl 0 rfl) ?_
      refine lv_aload_n S.1 S.2.1 dX4_countNotReplaced_5 rfl (lv_at hl 2 rfl) ?_
      refine gf_RX4_34 S hK hX (v := d.1 0 0 4) rfl dX4_countNotReplaced_6 ?_
      refine q_icmp_ge (tgt := 38) (xi := x2.toInt) (yi := (d.1 0 0 4).toInt) S rfl rfl dX4_countNotReplaced_9 (by decide) (fun c1 => ?_) (fun c1 => ?_)
      · have hs := hs.trans (cif_t c1)
        refine lv_iload_n S.1 S.2.1 dX4_countNotReplaced_38 rfl (lv_at hl 1 rfl) ?_
        exact rI S hr hlk hs dX4_countNotReplaced_39
      · have hs := hs.trans (cif_f c1)
        refine lv_iload_n S.1 S.2.1 dX4_countNotReplaced_12 rfl (lv_at hl 1 rfl) ?_
        refine lv_aload_n S.1 S.2.1 dX4_countNotReplaced_13 rfl (lv_at hl 2 rfl) ?_
        refine gf_RX4_30 S hK hX dX4_countNotReplaced_14 ?_
        refine lv_iload_n S.1 S.2.1 dX4_countNotReplaced_17 rfl (lv_at hl 0 rfl) ?_
        have hx2 : ix x2 < T := ix_lt (by omega) (by omega)
        refine al_X4 S hK hX (by omega) (by omega) hx2 dX4_countNotReplaced_18 ?_
        refine cPV (rest := [.int x1]) S (c_X3_isReplaced l D G M T ad d (ix x2) hx2) gV_RX4_155 ds_X3_isReplaced ⟨rfl, rfl⟩ ⟨Nat.le_of_ble_eq_true rfl, Nat.le_of_ble_eq_true rfl⟩ ⟨blindX, recvX hK hX (k := 13) (i := ix x2) hx2 rfl rfl, preX hK hN hX _⟩ rfl hl.1 rfl (Nat.le_of_ble_eq_true rfl) ⟨Nat.le_of_ble_eq_true rfl, Nat.le_of_ble_eq_true rfl⟩ dX4_countNotReplaced_19 ?_
        refine q_if_eq_b (tgt := 29) S dX4_countNotReplaced_22 (by decide) (fun c3 => ?_) (fun c3 => ?_)
        · have hs := hs.trans (cif_f c3)
          refine lv_iconst (v := 1) S.1 S.2.1 dX4_countNotReplaced_29 (by decide) ?_
          refine lv_iadd S.1 S.2.1 dX4_countNotReplaced_30 ?_
          refine lv_istore_n (lv' := [(1, .int (x1 + 1)), (2, .int x2), (0, .ref (ad 0 0))]) S.1 S.2.1 dX4_countNotReplaced_31 rfl hl (by decide) rfl (fun ls hl => ?_)
          refine lv_iinc (v := x2 + 1) (lv' := [(2, .int (x2 + 1)), (1, .int (x1 + 1)), (0, .ref (ad 0 0))]) S.1 S.2.1 dX4_countNotReplaced_32 hl (k := 1) rfl (by rfl) (by decide) rfl (fun ls hl => ?_)
          refine lv_goto (tgt := 4) S.1 S.2.1 dX4_countNotReplaced_35 (by decide) ?_
          have e9 : ((x2 + 1)).toInt = x2.toInt + 1 := ti1 (by omega)
          exact ih4 (x2 + 1) (x1 + 1) (by omega) (by omega) (by omega) hs _ (lv_sub hl [0, 1, 2] rfl)
        · have hs := hs.trans (cif_t c3)
          refine lv_iconst (v := 0) S.1 S.2.1 dX4_countNotReplaced_25 (by decide) ?_
          refine lv_goto (tgt := 30) S.1 S.2.1 dX4_countNotReplaced_26 (by decide) ?_
          refine lv_iadd S.1 S.2.1 dX4_countNotReplaced_30 ?_
          refine lv_istore_n (lv' := [(1, .int (x1 + 0)), (2, .int x2), (0, .ref (ad 0 0))]) S.1 S.2.1 dX4_countNotReplaced_31 rfl hl (by decide) rfl (fun ls hl => ?_)
          refine lv_iinc (v := x2 + 1) (lv' := [(2, .int (x2 + 1)), (1, .int (x1 + 0)), (0, .ref (ad 0 0))]) S.1 S.2.1 dX4_countNotReplaced_32 hl (k := 1) rfl (by rfl) (by decide) rfl (fun ls hl => ?_)
          refine lv_goto (tgt := 4) S.1 S.2.1 dX4_countNotReplaced_35 (by decide) ?_
          have e9 : ((x2 + 1)).toInt = x2.toInt + 1 := ti1 (by omega)
          exact ih4 (x2 + 1) (x1 + 0) (by omega) (by omega) (by omega) hs _ (lv_sub hl [0, 1, 2] rfl)
  exact L4 64 0 0 (by first | omega | (simp only [Int32.toInt_zero]; omega)) (by first | omega | (simp only [Int32.toInt_zero]; omega)) (by first | omega | (simp only [Int32.toInt_zero]; omega)) hs _ (lv_sub hl [0, 1, 2] rfl)
set_option maxRecDepth 100000 in
set_option maxHeartbeats 8000000 in
theorem c_X4_told (l : Launch) (D : va_G) (G : Gc) (M T : Nat) (ad : Nat → Nat → Nat) (d : Dt) (p1 : Int32) (hI : XI M T d) : Met l yX4_told (wsU yX4_told cX4_told 2 (some .int)) ({ frames := 2, cells := 0, slots := 0, locals := 43 } : Room) (va_Pc [.ref (ad 0 0), .int p1] (XPre D (tysG G) (XF G M T ad) (XN M T) ad d)) (qV (some (.int (sp_X4_told d p1)))) 0 0 (fun _ => False) := by
  refine ent (by decide +kernel) (Nat.le_of_ble_eq_true rfl) ?_
  intro p e s m below meth c S hr hlk hpre ls hl
  have S : CallFix p m c cX4_told 2 s [.ref (ad 0 0), .int p1].toArray wsL_law RX4 := S
  obtain ⟨hK, hN, hX⟩ := hpre
  have hl : lv_has ls 2 [(0, .ref (ad 0 0)), (1, .int p1)] := hl
  have hs := sp_X4_told.eq_1 d p1
  have q1 := hI.1
  have q2 := hI.2.1
  have q3 := hI.2.2.1
  have q4 := hI.2.2.2.1
  have q5 := hI.rc
  refine lv_iload_n S.1 S.2.1 dX4_told_0 rfl (lv_at hl 1 rfl) ?_
  by_cases c1 : p1.toInt = 0
  · have hs := hs.trans (cif_t c1)
    refine lv_tableIn (tgt := 32) (off := 31) S.1 S.2.1 dX4_told_1 (by show ¬ p1.toInt < (0 : Int); omega) (by show ¬ (3 : Int) < p1.toInt; omega) (by rw [c1]; rfl) (by decide) ?_
    refine lv_aload_n S.1 S.2.1 dX4_told_32 rfl (lv_at hl 0 rfl) ?_
    refine gf_RX4_17 S hK hX (v := d.1 0 0 1) rfl dX4_told_33 ?_
    exact rI S hr hlk hs dX4_told_36
  · have hs := hs.trans (cif_f c1)
    by_cases c2 : p1.toInt = 1
    · have hs := hs.trans (cif_t c2)
      refine lv_tableIn (tgt := 37) (off := 36) S.1 S.2.1 dX4_told_1 (by show ¬ p1.toInt < (0 : Int); omega) (by show ¬ (3 : Int) < p1.toInt; omega) (by rw [c2]; rfl) (by decide) ?_
      refine lv_aload_n S.1 S.2.1 dX4_told_37 rfl (lv_at hl 0 rfl) ?_
      refine gf_RX4_34 S hK hX (v := d.1 0 0 4) rfl dX4_told_38 ?_
      exact rI S hr hlk hs dX4_told_41
    · have hs := hs.trans (cif_f c2)
      by_cases c3 : p1.toInt = 2
      · have hs := hs.trans (cif_t c3)
        refine lv_tableIn (tgt := 42) (off := 41) S.1 S.2.1 dX4_told_1 (by show ¬ p1.toInt < (0 : Int); omega) (by show ¬ (3 : Int) < p1.toInt; omega) (by rw [c3]; rfl) (by decide) ?_
        refine lv_aload_n S.1 S.2.1 dX4_told_42 rfl (lv_at hl 0 rfl) ?_
        refine cPV (rest := []) S (c_X4_countNotReplaced l D G M T ad d hI) gV_RX4_281 ds_X4_countNotReplaced ⟨rfl, rfl⟩ ⟨Nat.le_of_ble_eq_true rfl, Nat.le_of_ble_eq_true rfl⟩ ⟨blindX, recvX hK hX (k := 0) (i := 0) Nat.zero_lt_one rfl rfl, preX hK hN hX _⟩ rfl hl.1 rfl (Nat.le_of_ble_eq_true rfl) ⟨Nat.le_of_ble_eq_true rfl, Nat.le_of_ble_eq_true rfl⟩ dX4_told_43 ?_
        exact rI S hr hlk hs dX4_told_46
      · have hs := hs.trans (cif_f c3)
        by_cases c4 : p1.toInt = 3
        · have hs := hs.trans (cif_t c4)
          refine lv_tableIn (tgt := 47) (off := 46) S.1 S.2.1 dX4_told_1 (by show ¬ p1.toInt < (0 : Int); omega) (by show ¬ (3 : Int) < p1.toInt; omega) (by rw [c4]; rfl) (by decide) ?_
          refine lv_aload_n S.1 S.2.1 dX4_told_47 rfl (lv_at hl 0 rfl) ?_
          refine gf_RX4_37 S hK hX (v := d.1 0 0 5) rfl dX4_told_48 ?_
          exact rI S hr hlk hs dX4_told_51
        · have hs := hs.trans (cif_f c4)
          refine lv_tableOut (tgt := 52) S.1 S.2.1 dX4_told_1 (by show p1.toInt < (0 : Int) ∨ (3 : Int) < p1.toInt; omega) (by decide) ?_
          refine lv_aload_n S.1 S.2.1 dX4_told_52 rfl (lv_at hl 0 rfl) ?_
          refine lv_iload_n S.1 S.2.1 dX4_told_53 rfl (lv_at hl 1 rfl) ?_
          refine lv_bipush (v := 10) S.1 S.2.1 dX4_told_54 (by decide) ?_
          refine lv_isub S.1 S.2.1 dX4_told_56 ?_
          refine cPV (rest := []) S (c_X4_isMeter l D G M T ad d (p1 - 10)) gV_RX4_61 ds_X4_isMeter ⟨rfl, rfl⟩ ⟨Nat.le_of_ble_eq_true rfl, Nat.le_of_ble_eq_true rfl⟩ ⟨blindX, recvX hK hX (k := 0) (i := 0) Nat.zero_lt_one rfl rfl, preX hK hN hX _⟩ rfl hl.1 rfl (Nat.le_of_ble_eq_true rfl) ⟨Nat.le_of_ble_eq_true rfl, Nat.le_of_ble_eq_true rfl⟩ dX4_told_57 ?_
          refine q_if_eq_b (tgt := 78) S dX4_told_60 (by decide) (fun c6 => ?_) (fun c6 => ?_)
          · have hs := hs.trans (cif_f c6)
            refine lv_bipush (v := (-2)) S.1 S.2.1 dX4_told_78 (by decide) ?_
            exact rI S hr hlk hs dX4_told_80
          · have hs := hs.trans (cif_t c6)
            have f7 := im_of hI c6
            have q6 := im_of hI (by assumption)
            refine lv_aload_n S.1 S.2.1 dX4_told_63 rfl (lv_at hl 0 rfl) ?_
            refine gf_RX4_13 S hK hX dX4_told_64 ?_
            refine lv_iload_n S.1 S.2.1 dX4_told_67 rfl (lv_at hl 1 rfl) ?_
            refine lv_bipush (v := 10) S.1 S.2.1 dX4_told_68 (by decide) ?_
            refine lv_isub S.1 S.2.1 dX4_told_70 ?_
            have hx8 : ix (p1 - 10) < M := ix_lt (by omega) (by omega)
            refine al_X1 S hK hX (by omega) (by omega) hx8 dX4_told_71 ?_
            have f8 := hI.fc hx8
            refine gf_RX4_81 S hK hX hx8 (v := d.1 8 (ix (p1 - 10)) 6) rfl dX4_told_72 ?_
            refine lv_goto (tgt := 80) S.1 S.2.1 dX4_told_75 (by decide) ?_
            exact rI S hr hlk hs dX4_told_80
set_option maxRecDepth 100000 in
set_option maxHeartbeats 8000000 in
theorem c_X4_trace (l : Launch) (D : va_G) (G : Gc) (M T : Nat) (ad : Nat → Nat → Nat) (d : Dt) : Met l yX4_trace (wsU yX4_trace cX4_trace 1 (some .int)) ({ frames := 0, cells := 0, slots := 0, locals := 0 } : Room) (va_Pc [.ref (ad 0 0)] (XPre D (tysG G) (XF G M T ad) (XN M T) ad d)) (qV (some (.int (sp_X4_trace d)))) 0 0 (fun _ => False) := by
  refine ent (by decide +kernel) (Nat.le_of_ble_eq_true rfl) ?_
  intro p e s m below meth c S hr hlk hpre ls hl
  have S : CallFix p m c cX4_trace 1 s [.ref (ad 0 0)].toArray wsL_law RX4 := S
  obtain ⟨hK, hN, hX⟩ := hpre
  have hl : lv_has ls 1 [(0, .ref (ad 0 0))] := hl
  have hs := sp_X4_trace.eq_1 d
  refine lv_aload_n S.1 S.2.1 dX4_trace_0 rfl (lv_at hl 0 rfl) ?_
  refine gf_RX4_46 S hK hX (v := d.1 0 0 7) rfl dX4_trace_1 ?_
  exact rI S hr hlk hs dX4_trace_4
set_option maxRecDepth 100000 in
set_option maxHeartbeats 8000000 in
theorem c_X4_fault (l : Launch) (D : va_G) (G : Gc) (M T : Nat) (ad : Nat → Nat → Nat) (d : Dt) : Met l yX4_fault (wsU yX4_fault cX4_fault 1 (some .int)) ({ frames := 0, cells := 0, slots := 0, locals := 0 } : Room) (va_Pc [.ref (ad 0 0)] (XPre D (tysG G) (XF G M T ad) (XN M T) ad d)) (qV (some (.int (sp_X4_fault d)))) 0 0 (fun _ => False) := by
  refine ent (by decide +kernel) (Nat.le_of_ble_eq_true rfl) ?_
  intro p e s m below meth c S hr hlk hpre ls hl
  have S : CallFix p m c cX4_fault 1 s [.ref (ad 0 0)].toArray wsL_law RX4 := S
  obtain ⟨hK, hN, hX⟩ := hpre
  have hl : lv_has ls 1 [(0, .ref (ad 0 0))] := hl
  have hs := sp_X4_fault.eq_1 d
  refine lv_aload_n S.1 S.2.1 dX4_fault_0 rfl (lv_at hl 0 rfl) ?_
  refine gf_RX4_49 S hK hX (v := d.1 0 0 8) rfl dX4_fault_1 ?_
  exact rI S hr hlk hs dX4_fault_4
