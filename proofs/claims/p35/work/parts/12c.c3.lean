set_option maxRecDepth 100000 in
set_option maxHeartbeats 8000000 in
theorem c_X5_at (l : Launch) (D : va_G) (G : Gc) (ad : Nat → Nat → Nat) (d : Dt) (p1 : Int32) (p2 : Int32) (p3 : Int32) (hI : MI d) : Met l yX5_at (wsU yX5_at cX5_at 4 (some .int)) ({ frames := 3, cells := 0, slots := 0, locals := 75 } : Room) (va_Pc [.ref (ad 0 0), .int p1, .int p2, .int p3] (XPre D (tysG G) (MF G ad) MN ad d)) (qW (some (.int (sp_X5_at d p1 p2 p3).1)) D (MF G ad) MN ad (sp_X5_at d p1 p2 p3).2) 0 0 (adS MN ad) := by
  refine ent (by decide +kernel) (Nat.le_of_ble_eq_true rfl) ?_
  intro p e s m below meth c S hr hlk hpre ls hl
  have S : CallFix p m c cX5_at 4 s [.ref (ad 0 0), .int p1, .int p2, .int p3].toArray wsL_law RX5 := S
  obtain ⟨hK, hN, hX⟩ := hpre
  have hl : lv_has ls 4 [(0, .ref (ad 0 0)), (1, .int p1), (2, .int p2), (3, .int p3)] := hl
  have hs := sp_X5_at.eq_1 d p1 p2 p3
  have hS : va_S (adS MN ad) s.heap s.heap [] := va_S.rf
  have q1 := hI.1
  have q2 := hI.2.2.1
  have q3 := hI.2.2.2.1
  have q4 := hI.2.2.2.2.1
  refine lv_aload_n S.1 S.2.1 dX5_at_0 rfl (lv_at hl 0 rfl) ?_
  refine lv_iload_n S.1 S.2.1 dX5_at_1 rfl (lv_at hl 1 rfl) ?_
  refine cPV (rest := []) S (c_X5_noMeter l D G ad d p1) gV_RX5_115 ds_X5_noMeter ⟨rfl, rfl⟩ ⟨Nat.le_of_ble_eq_true rfl, Nat.le_of_ble_eq_true rfl⟩ ⟨blindX, recvX hK hX (k := 0) (i := 0) Nat.zero_lt_one rfl rfl, preX hK hN hX _⟩ rfl hl.1 rfl (Nat.le_of_ble_eq_true rfl) ⟨Nat.le_of_ble_eq_true rfl, Nat.le_of_ble_eq_true rfl⟩ dX5_at_2 ?_
  refine q_if_eq_b (tgt := 10) S dX5_at_5 (by decide) (fun c1 => ?_) (fun c1 => ?_)
  · have hs := hs.trans (cif_f c1)
    have f2 := nm_of hI c1
    refine lv_iload_n S.1 S.2.1 dX5_at_10 rfl (lv_at hl 2 rfl) ?_
    refine cPS (rest := []) S (c_X5_isFlow l p2) gS_RX5_119 ds_X5_isFlow.2 ⟨rfl, rfl⟩ ⟨Nat.le_of_ble_eq_true rfl, Nat.le_of_ble_eq_true rfl⟩ rfl hl.1 rfl (Nat.le_of_ble_eq_true rfl) ⟨Nat.le_of_ble_eq_true rfl, Nat.le_of_ble_eq_true rfl⟩ dX5_at_11 ?_
    refine q_if_eq_b (tgt := 34) S dX5_at_14 (by decide) (fun c3 => ?_) (fun c3 => ?_)
    · have hs := hs.trans (cif_f c3)
      refine lv_bipush (v := (-2)) S.1 S.2.1 dX5_at_34 (by decide) ?_
      exact wI S hr hlk hs hX hS dX5_at_36
    · have hs := hs.trans (cif_t c3)
      refine lv_iload_n S.1 S.2.1 dX5_at_17 rfl (lv_at hl 3 rfl) ?_
      refine cPS (rest := []) S (c_X5_isDay l p3) gS_RX5_122 ds_X5_isDay.2 ⟨rfl, rfl⟩ ⟨Nat.le_of_ble_eq_true rfl, Nat.le_of_ble_eq_true rfl⟩ rfl hl.1 rfl (Nat.le_of_ble_eq_true rfl) ⟨Nat.le_of_ble_eq_true rfl, Nat.le_of_ble_eq_true rfl⟩ dX5_at_18 ?_
      refine q_if_eq_b (tgt := 34) S dX5_at_21 (by decide) (fun c4 => ?_) (fun c4 => ?_)
      · have hs := hs.trans (cif_f c4)
        refine lv_bipush (v := (-2)) S.1 S.2.1 dX5_at_34 (by decide) ?_
        exact wI S hr hlk hs hX hS dX5_at_36
      · have hs := hs.trans (cif_t c4)
        refine lv_aload_n S.1 S.2.1 dX5_at_24 rfl (lv_at hl 0 rfl) ?_
        refine lv_iload_n S.1 S.2.1 dX5_at_25 rfl (lv_at hl 1 rfl) ?_
        refine lv_iload_n S.1 S.2.1 dX5_at_26 rfl (lv_at hl 2 rfl) ?_
        refine lv_iload_n S.1 S.2.1 dX5_at_27 rfl (lv_at hl 3 rfl) ?_
        have g1 := hI.mn (x := p1) (by omega) (by omega)
        refine cWV (rest := []) S (c_X5_factorAt l D G ad d p1 p2 p3 (by omega) (by omega) (by omega) (by omega)) gV_RX5_145 ds_X5_factorAt ⟨rfl, rfl⟩ ⟨Nat.le_of_ble_eq_true rfl, Nat.le_of_ble_eq_true rfl⟩ ⟨blindX, recvX hK hX (k := 0) (i := 0) Nat.zero_lt_one rfl rfl, preX hK hN hX _⟩ rfl hl.1 rfl (Nat.le_of_ble_eq_true rfl) ⟨Nat.le_of_ble_eq_true rfl, Nat.le_of_ble_eq_true rfl⟩ dX5_at_28 hS (fun _ h => h) (fun H locs hX hS hfr => ?_)
        refine lv_goto (tgt := 36) S.1 S.2.1 dX5_at_31 (by decide) ?_
        exact wI S hr hlk hs hX hS dX5_at_36
  · have hs := hs.trans (cif_t c1)
    refine lv_iconst (v := (-1)) S.1 S.2.1 dX5_at_8 (by decide) ?_
    exact wI S hr hlk hs hX hS dX5_at_9
set_option maxRecDepth 100000 in
set_option maxHeartbeats 8000000 in
theorem c_X5_points (l : Launch) (D : va_G) (G : Gc) (ad : Nat → Nat → Nat) (d : Dt) (p1 : Int32) (p2 : Int32) (hI : MI d) : Met l yX5_points (wsU yX5_points cX5_points 3 (some .int)) ({ frames := 2, cells := 0, slots := 0, locals := 47 } : Room) (va_Pc [.ref (ad 0 0), .int p1, .int p2] (XPre D (tysG G) (MF G ad) MN ad d)) (qW (some (.int (sp_X5_points d p1 p2).1)) D (MF G ad) MN ad (sp_X5_points d p1 p2).2) 0 0 (adS MN ad) := by
  refine ent (by decide +kernel) (Nat.le_of_ble_eq_true rfl) ?_
  intro p e s m below meth c S hr hlk hpre ls hl
  have S : CallFix p m c cX5_points 3 s [.ref (ad 0 0), .int p1, .int p2].toArray wsL_law RX5 := S
  obtain ⟨hK, hN, hX⟩ := hpre
  have hl : lv_has ls 3 [(0, .ref (ad 0 0)), (1, .int p1), (2, .int p2)] := hl
  have hs := sp_X5_points.eq_1 d p1 p2
  have hS : va_S (adS MN ad) s.heap s.heap [] := va_S.rf
  have q1 := hI.1
  have q2 := hI.2.2.1
  have q3 := hI.2.2.2.1
  have q4 := hI.2.2.2.2.1
  refine lv_aload_n S.1 S.2.1 dX5_points_0 rfl (lv_at hl 0 rfl) ?_
  refine lv_iload_n S.1 S.2.1 dX5_points_1 rfl (lv_at hl 1 rfl) ?_
  refine cPV (rest := []) S (c_X5_noMeter l D G ad d p1) gV_RX5_115 ds_X5_noMeter ⟨rfl, rfl⟩ ⟨Nat.le_of_ble_eq_true rfl, Nat.le_of_ble_eq_true rfl⟩ ⟨blindX, recvX hK hX (k := 0) (i := 0) Nat.zero_lt_one rfl rfl, preX hK hN hX _⟩ rfl hl.1 rfl (Nat.le_of_ble_eq_true rfl) ⟨Nat.le_of_ble_eq_true rfl, Nat.le_of_ble_eq_true rfl⟩ dX5_points_2 ?_
  refine q_if_eq_b (tgt := 10) S dX5_points_5 (by decide) (fun c1 => ?_) (fun c1 => ?_)
  · have hs := hs.trans (cif_f c1)
    have f2 := nm_of hI c1
    refine lv_iload_n S.1 S.2.1 dX5_points_10 rfl (lv_at hl 2 rfl) ?_
    refine cPS (rest := []) S (c_X5_isDay l p2) gS_RX5_122 ds_X5_isDay.2 ⟨rfl, rfl⟩ ⟨Nat.le_of_ble_eq_true rfl, Nat.le_of_ble_eq_true rfl⟩ rfl hl.1 rfl (Nat.le_of_ble_eq_true rfl) ⟨Nat.le_of_ble_eq_true rfl, Nat.le_of_ble_eq_true rfl⟩ dX5_points_11 ?_
    refine q_if_ne_b (tgt := 20) S dX5_points_14 (by decide) (fun c3 => ?_) (fun c3 => ?_)
    · have hs := hs.trans (cif_t c3)
      refine lv_aload_n S.1 S.2.1 dX5_points_20 rfl (lv_at hl 0 rfl) ?_
      refine lv_iload_n S.1 S.2.1 dX5_points_21 rfl (lv_at hl 1 rfl) ?_
      refine lv_iload_n S.1 S.2.1 dX5_points_22 rfl (lv_at hl 2 rfl) ?_
      have g1 := hI.mn (x := p1) (by omega) (by omega)
      refine cWV (rest := []) S (c_X5_findCurve l D G ad d p1 p2 (by omega) (by omega) (by omega) (by omega)) gV_RX5_140 ds_X5_findCurve ⟨rfl, rfl⟩ ⟨Nat.le_of_ble_eq_true rfl, Nat.le_of_ble_eq_true rfl⟩ ⟨blindX, recvX hK hX (k := 0) (i := 0) Nat.zero_lt_one rfl rfl, preX hK hN hX _⟩ rfl hl.1 rfl (Nat.le_of_ble_eq_true rfl) ⟨Nat.le_of_ble_eq_true rfl, Nat.le_of_ble_eq_true rfl⟩ dX5_points_23 hS (fun _ h => h) (fun H locs hX hS hfr => ?_)
      refine lv_aload_n S.1 S.2.1 dX5_points_26 rfl (lv_at hl 0 rfl) ?_
      refine gf_RX5_133 S hK hX (v := (sp_X5_findCurve d p1 p2).1 0 0 8) rfl dX5_points_27 ?_
      exact wI S hr hlk hs hX hS dX5_points_30
    · have hs := hs.trans (cif_f c3)
      refine lv_bipush (v := (-2)) S.1 S.2.1 dX5_points_17 (by decide) ?_
      exact wI S hr hlk hs hX hS dX5_points_19
  · have hs := hs.trans (cif_t c1)
    refine lv_iconst (v := (-1)) S.1 S.2.1 dX5_points_8 (by decide) ?_
    exact wI S hr hlk hs hX hS dX5_points_9
set_option maxRecDepth 100000 in
set_option maxHeartbeats 8000000 in
theorem c_X5_point (l : Launch) (D : va_G) (G : Gc) (ad : Nat → Nat → Nat) (d : Dt) (p1 : Int32) (p2 : Int32) (p3 : Int32) (p4 : Int32) (hI : MI d) : Met l yX5_point (wsU yX5_point cX5_point 5 (some .int)) ({ frames := 2, cells := 0, slots := 0, locals := 47 } : Room) (va_Pc [.ref (ad 0 0), .int p1, .int p2, .int p3, .int p4] (XPre D (tysG G) (MF G ad) MN ad d)) (qW (some (.int (sp_X5_point d p1 p2 p3 p4).1)) D (MF G ad) MN ad (sp_X5_point d p1 p2 p3 p4).2) 0 0 (adS MN ad) := by
  refine ent (by decide +kernel) (Nat.le_of_ble_eq_true rfl) ?_
  intro p e s m below meth c S hr hlk hpre ls hl
  have S : CallFix p m c cX5_point 5 s [.ref (ad 0 0), .int p1, .int p2, .int p3, .int p4].toArray wsL_law RX5 := S
  obtain ⟨hK, hN, hX⟩ := hpre
  have hl : lv_has ls 5 [(0, .ref (ad 0 0)), (1, .int p1), (2, .int p2), (3, .int p3), (4, .int p4)] := hl
  have hs := sp_X5_point.eq_1 d p1 p2 p3 p4
  have hS : va_S (adS MN ad) s.heap s.heap [] := va_S.rf
  have q1 := hI.1
  have q2 := hI.2.2.1
  have q3 := hI.2.2.2.1
  have q4 := hI.2.2.2.2.1
  refine lv_aload_n S.1 S.2.1 dX5_point_0 rfl (lv_at hl 0 rfl) ?_
  refine lv_iload_n S.1 S.2.1 dX5_point_1 rfl (lv_at hl 1 rfl) ?_
  refine cPV (rest := []) S (c_X5_noMeter l D G ad d p1) gV_RX5_115 ds_X5_noMeter ⟨rfl, rfl⟩ ⟨Nat.le_of_ble_eq_true rfl, Nat.le_of_ble_eq_true rfl⟩ ⟨blindX, recvX hK hX (k := 0) (i := 0) Nat.zero_lt_one rfl rfl, preX hK hN hX _⟩ rfl hl.1 rfl (Nat.le_of_ble_eq_true rfl) ⟨Nat.le_of_ble_eq_true rfl, Nat.le_of_ble_eq_true rfl⟩ dX5_point_2 ?_
  refine q_if_eq_b (tgt := 10) S dX5_point_5 (by decide) (fun c1 => ?_) (fun c1 => ?_)
  · have hs := hs.trans (cif_f c1)
    have f2 := nm_of hI c1
    refine lv_iload_n S.1 S.2.1 dX5_point_10 rfl (lv_at hl 2 rfl) ?_
    refine cPS (rest := []) S (c_X5_isDay l p2) gS_RX5_122 ds_X5_isDay.2 ⟨rfl, rfl⟩ ⟨Nat.le_of_ble_eq_true rfl, Nat.le_of_ble_eq_true rfl⟩ rfl hl.1 rfl (Nat.le_of_ble_eq_true rfl) ⟨Nat.le_of_ble_eq_true rfl, Nat.le_of_ble_eq_true rfl⟩ dX5_point_11 ?_
    refine q_if_ne_b (tgt := 20) S dX5_point_14 (by decide) (fun c3 => ?_) (fun c3 => ?_)
    · have hs := hs.trans (cif_t c3)
      refine lv_aload_n S.1 S.2.1 dX5_point_20 rfl (lv_at hl 0 rfl) ?_
      refine lv_iload_n S.1 S.2.1 dX5_point_21 rfl (lv_at hl 1 rfl) ?_
      refine lv_iload_n S.1 S.2.1 dX5_point_22 rfl (lv_at hl 2 rfl) ?_
      have g1 := hI.mn (x := p1) (by omega) (by omega)
      refine cWV (rest := []) S (c_X5_findCurve l D G ad d p1 p2 (by omega) (by omega) (by omega) (by omega)) gV_RX5_140 ds_X5_findCurve ⟨rfl, rfl⟩ ⟨Nat.le_of_ble_eq_true rfl, Nat.le_of_ble_eq_true rfl⟩ ⟨blindX, recvX hK hX (k := 0) (i := 0) Nat.zero_lt_one rfl rfl, preX hK hN hX _⟩ rfl hl.1 rfl (Nat.le_of_ble_eq_true rfl) ⟨Nat.le_of_ble_eq_true rfl, Nat.le_of_ble_eq_true rfl⟩ dX5_point_23 hS (fun _ h => h) (fun H locs hX hS hfr => ?_)
      have g9 := fc_pt (d := d) (x := p1) (y := p2) (by omega) (by omega)
      refine lv_iload_n S.1 S.2.1 dX5_point_26 rfl (lv_at hl 3 rfl) ?_
      refine lv_i2l S.1 S.2.1 dX5_point_27 rfl ?_
      refine lv_lconst (v := 0) S.1 S.2.1 dX5_point_28 (by decide) ?_
      refine lv_aload_n S.1 S.2.1 dX5_point_29 rfl (lv_at hl 0 rfl) ?_
      refine gf_RX5_133 S hK hX (v := (sp_X5_findCurve d p1 p2).1 0 0 8) rfl dX5_point_30 ?_
      refine lv_i2l S.1 S.2.1 dX5_point_33 rfl ?_
      refine lv_lconst (v := 1) S.1 S.2.1 dX5_point_34 (by decide) ?_
      refine lv_lsub S.1 S.2.1 dX5_point_35 ?_
      refine cPS (rest := []) S (c_X5_in l p3.toInt64 0 ((((sp_X5_findCurve d p1 p2).1 0 0 8).toInt64) - 1)) gS_RX5_101 ds_X5_in.2 ⟨rfl, rfl⟩ ⟨Nat.le_of_ble_eq_true rfl, Nat.le_of_ble_eq_true rfl⟩ rfl hl.1 rfl (Nat.le_of_ble_eq_true rfl) ⟨Nat.le_of_ble_eq_true rfl, Nat.le_of_ble_eq_true rfl⟩ dX5_point_36 ?_
      refine q_if_ne_b (tgt := 44) S dX5_point_39 (by decide) (fun c4 => ?_) (fun c4 => ?_)
      · have hs := hs.trans (cif_t c4)
        have g8 := in_iff.mp (by assumption : sp_X5_in p3.toInt64 0 (((sp_X5_findCurve d p1 p2).1 0 0 8).toInt64 - 1))
        rw [tls1, t64, Int64.toInt_zero] at g8
        refine lv_iload S.1 S.2.1 dX5_point_44 (lv_at hl 4 rfl) ?_
        refine q_if_ne (tgt := 58) (xi := p4.toInt) S rfl dX5_point_46 (by decide) (fun c5 => ?_) (fun c5 => ?_)
        · have hs := hs.trans (cif_f c5)
          refine lv_iload S.1 S.2.1 dX5_point_58 (lv_at hl 4 rfl) ?_
          refine lv_iconst (v := 1) S.1 S.2.1 dX5_point_60 (by decide) ?_
          refine q_icmp_ne (tgt := 73) (xi := p4.toInt) (yi := 1) S rfl rfl dX5_point_61 (by decide) (fun c6 => ?_) (fun c6 => ?_)
          · have hs := hs.trans (cif_f c6)
            refine lv_bipush (v := (-2)) S.1 S.2.1 dX5_point_73 (by decide) ?_
            exact wI S hr hlk hs hX hS dX5_point_75
          · have hs := hs.trans (cif_t c6)
            refine lv_aload_n S.1 S.2.1 dX5_point_64 rfl (lv_at hl 0 rfl) ?_
            refine gf_RX5_31 S hK hX dX5_point_65 ?_
            refine lv_iload_n S.1 S.2.1 dX5_point_68 rfl (lv_at hl 3 rfl) ?_
            refine al_M10 S hK hX (by omega) (by omega) (z := (sp_X5_findCurve d p1 p2).1 10 0 (ix p3)) rfl dX5_point_69 ?_
            refine lv_goto (tgt := 75) S.1 S.2.1 dX5_point_70 (by decide) ?_
            exact wI S hr hlk hs hX hS dX5_point_75
        · have hs := hs.trans (cif_t c5)
          refine lv_aload_n S.1 S.2.1 dX5_point_49 rfl (lv_at hl 0 rfl) ?_
          refine gf_RX5_28 S hK hX dX5_point_50 ?_
          refine lv_iload_n S.1 S.2.1 dX5_point_53 rfl (lv_at hl 3 rfl) ?_
          refine al_M9 S hK hX (by omega) (by omega) (z := (sp_X5_findCurve d p1 p2).1 9 0 (ix p3)) rfl dX5_point_54 ?_
          refine lv_goto (tgt := 75) S.1 S.2.1 dX5_point_55 (by decide) ?_
          exact wI S hr hlk hs hX hS dX5_point_75
      · have hs := hs.trans (cif_f c4)
        refine lv_iconst (v := (-1)) S.1 S.2.1 dX5_point_42 (by decide) ?_
        exact wI S hr hlk hs hX hS dX5_point_43
    · have hs := hs.trans (cif_f c3)
      refine lv_bipush (v := (-2)) S.1 S.2.1 dX5_point_17 (by decide) ?_
      exact wI S hr hlk hs hX hS dX5_point_19
  · have hs := hs.trans (cif_t c1)
    refine lv_iconst (v := (-1)) S.1 S.2.1 dX5_point_8 (by decide) ?_
    exact wI S hr hlk hs hX hS dX5_point_9
set_option maxRecDepth 100000 in
set_option maxHeartbeats 8000000 in
theorem c_X5_proof (l : Launch) (D : va_G) (G : Gc) (ad : Nat → Nat → Nat) (d : Dt) (p1 : Int32) (p2 : Int32) (p3 : Int32) (hI : MI d) : Met l yX5_proof (wsU yX5_proof cX5_proof 4 (some .int)) ({ frames := 2, cells := 0, slots := 0, locals := 46 } : Room) (va_Pc [.ref (ad 0 0), .int p1, .int p2, .int p3] (XPre D (tysG G) (MF G ad) MN ad d)) (qW (some (.int (sp_X5_proof d p1 p2 p3).1)) D (MF G ad) MN ad (sp_X5_proof d p1 p2 p3).2) 0 0 (adS MN ad) := by
  refine ent (by decide +kernel) (Nat.le_of_ble_eq_true rfl) ?_
  intro p e s m below meth c S hr hlk hpre ls hl
  have S : CallFix p m c cX5_proof 4 s [.ref (ad 0 0), .int p1, .int p2, .int p3].toArray wsL_law RX5 := S
  obtain ⟨hK, hN, hX⟩ := hpre
  have hl : lv_has ls 4 [(0, .ref (ad 0 0)), (1, .int p1), (2, .int p2), (3, .int p3)] := hl
  have hs := sp_X5_proof.eq_1 d p1 p2 p3
  have hS : va_S (adS MN ad) s.heap s.heap [] := va_S.rf
  have q1 := hI.1
  have q2 := hI.2.2.1
  have q3 := hI.2.2.2.1
  have q4 := hI.2.2.2.2.1
  refine lv_aload_n S.1 S.2.1 dX5_proof_0 rfl (lv_at hl 0 rfl) ?_
  refine lv_iload_n S.1 S.2.1 dX5_proof_1 rfl (lv_at hl 1 rfl) ?_
  refine cPV (rest := []) S (c_X5_noMeter l D G ad d p1) gV_RX5_115 ds_X5_noMeter ⟨rfl, rfl⟩ ⟨Nat.le_of_ble_eq_true rfl, Nat.le_of_ble_eq_true rfl⟩ ⟨blindX, recvX hK hX (k := 0) (i := 0) Nat.zero_lt_one rfl rfl, preX hK hN hX _⟩ rfl hl.1 rfl (Nat.le_of_ble_eq_true rfl) ⟨Nat.le_of_ble_eq_true rfl, Nat.le_of_ble_eq_true rfl⟩ dX5_proof_2 ?_
  refine q_if_eq_b (tgt := 10) S dX5_proof_5 (by decide) (fun c1 => ?_) (fun c1 => ?_)
  · have hs := hs.trans (cif_f c1)
    have f2 := nm_of hI c1
    refine lv_iload_n S.1 S.2.1 dX5_proof_10 rfl (lv_at hl 2 rfl) ?_
    refine cPS (rest := []) S (c_X5_isFlow l p2) gS_RX5_119 ds_X5_isFlow.2 ⟨rfl, rfl⟩ ⟨Nat.le_of_ble_eq_true rfl, Nat.le_of_ble_eq_true rfl⟩ rfl hl.1 rfl (Nat.le_of_ble_eq_true rfl) ⟨Nat.le_of_ble_eq_true rfl, Nat.le_of_ble_eq_true rfl⟩ dX5_proof_11 ?_
    refine q_if_eq_b (tgt := 31) S dX5_proof_14 (by decide) (fun c3 => ?_) (fun c3 => ?_)
    · have hs := hs.trans (cif_f c3)
      refine lv_bipush (v := (-2)) S.1 S.2.1 dX5_proof_31 (by decide) ?_
      exact wI S hr hlk hs hX hS dX5_proof_33
    · have hs := hs.trans (cif_t c3)
      refine lv_iload_n S.1 S.2.1 dX5_proof_17 rfl (lv_at hl 3 rfl) ?_
      refine lv_i2l S.1 S.2.1 dX5_proof_18 rfl ?_
      refine lv_ldc2 S.1 S.2.1 S.2.2.2.1 (S.2.2.2.2 _ wKL_RX5_149) dX5_proof_19 ?_
      refine lv_ldc2 S.1 S.2.1 S.2.2.2.1 (S.2.2.2.2 _ wKL_RX5_151) dX5_proof_22 ?_
      refine cPS (rest := []) S (c_X5_in l p3.toInt64 1000 1000000) gS_RX5_101 ds_X5_in.2 ⟨rfl, rfl⟩ ⟨Nat.le_of_ble_eq_true rfl, Nat.le_of_ble_eq_true rfl⟩ rfl hl.1 rfl (Nat.le_of_ble_eq_true rfl) ⟨Nat.le_of_ble_eq_true rfl, Nat.le_of_ble_eq_true rfl⟩ dX5_proof_25 ?_
      refine q_if_ne_b (tgt := 34) S dX5_proof_28 (by decide) (fun c4 => ?_) (fun c4 => ?_)
      · have hs := hs.trans (cif_t c4)
        refine lv_aload_n S.1 S.2.1 dX5_proof_34 rfl (lv_at hl 0 rfl) ?_
        refine lv_iload_n S.1 S.2.1 dX5_proof_35 rfl (lv_at hl 1 rfl) ?_
        refine pf_RX5_84 S hK hX hS dX5_proof_36 (fun H locs hX hS => ?_)
        refine lv_aload_n S.1 S.2.1 dX5_proof_39 rfl (lv_at hl 0 rfl) ?_
        refine lv_iload_n S.1 S.2.1 dX5_proof_40 rfl (lv_at hl 2 rfl) ?_
        refine pf_RX5_153 S hK hX hS dX5_proof_41 (fun H locs hX hS => ?_)
        refine lv_aload_n S.1 S.2.1 dX5_proof_44 rfl (lv_at hl 0 rfl) ?_
        refine lv_iload_n S.1 S.2.1 dX5_proof_45 rfl (lv_at hl 3 rfl) ?_
        refine pf_RX5_156 S hK hX hS dX5_proof_46 (fun H locs hX hS => ?_)
        refine lv_aload_n S.1 S.2.1 dX5_proof_49 rfl (lv_at hl 0 rfl) ?_
        refine lv_iconst (v := 0) S.1 S.2.1 dX5_proof_50 (by decide) ?_
        refine pf_RX5_159 S hK hX hS dX5_proof_51 (fun H locs hX hS => ?_)
        refine lv_iconst (v := 1) S.1 S.2.1 dX5_proof_54 (by decide) ?_
        exact wI S hr hlk hs hX hS dX5_proof_55
      · have hs := hs.trans (cif_f c4)
        refine lv_bipush (v := (-2)) S.1 S.2.1 dX5_proof_31 (by decide) ?_
        exact wI S hr hlk hs hX hS dX5_proof_33
  · have hs := hs.trans (cif_t c1)
    refine lv_iconst (v := (-1)) S.1 S.2.1 dX5_proof_8 (by decide) ?_
    exact wI S hr hlk hs hX hS dX5_proof_9
set_option maxRecDepth 100000 in
set_option maxHeartbeats 8000000 in
theorem c_X5_run (l : Launch) (D : va_G) (G : Gc) (ad : Nat → Nat → Nat) (d : Dt) (p1 : Int32) (p2 : Int32) (p3 : Int32) (hI : MI d) : Met l yX5_run (wsU yX5_run cX5_run 4 (some .long)) ({ frames := 1, cells := 0, slots := 0, locals := 25 } : Room) (va_Pc [.ref (ad 0 0), .int p1, .int p2, .int p3] (XPre D (tysG G) (MF G ad) MN ad d)) (qW (some (.long (sp_X5_run d p1 p2 p3).1)) D (MF G ad) MN ad (sp_X5_run d p1 p2 p3).2) 0 0 (adS MN ad) := by
  refine ent (by decide +kernel) (Nat.le_of_ble_eq_true rfl) ?_
  intro p e s m below meth c S hr hlk hpre ls hl
  have S : CallFix p m c cX5_run 4 s [.ref (ad 0 0), .int p1, .int p2, .int p3].toArray wsL_law RX5 := S
  obtain ⟨hK, hN, hX⟩ := hpre
  have hl : lv_has ls 4 [(0, .ref (ad 0 0)), (1, .int p1), (2, .int p2), (3, .int p3)] := hl
  have hs := sp_X5_run.eq_1 d p1 p2 p3
  have hS : va_S (adS MN ad) s.heap s.heap [] := va_S.rf
  have q1 := hI.1
  have q2 := hI.2.2.1
  have q3 := hI.2.2.2.1
  have q4 := hI.2.2.2.2.1
  refine lv_iload_n S.1 S.2.1 dX5_run_0 rfl (lv_at hl 1 rfl) ?_
  refine lv_i2l S.1 S.2.1 dX5_run_1 rfl ?_
  refine lv_lconst (v := 1) S.1 S.2.1 dX5_run_2 (by decide) ?_
  refine lv_ldc2 S.1 S.2.1 S.2.2.2.1 (S.2.2.2.2 _ wKL_RX5_113) dX5_run_3 ?_
  refine cPS (rest := []) S (c_X5_in l p1.toInt64 1 100000) gS_RX5_101 ds_X5_in.2 ⟨rfl, rfl⟩ ⟨Nat.le_of_ble_eq_true rfl, Nat.le_of_ble_eq_true rfl⟩ rfl hl.1 rfl (Nat.le_of_ble_eq_true rfl) ⟨Nat.le_of_ble_eq_true rfl, Nat.le_of_ble_eq_true rfl⟩ dX5_run_6 ?_
  refine q_if_eq_b (tgt := 52) S dX5_run_9 (by decide) (fun c1 => ?_) (fun c1 => ?_)
  · have hs := hs.trans (cif_f c1)
    refine cPS (rest := []) S (c_X5_lost l) gS_RX5_92 ds_X5_lost.2 ⟨rfl, rfl⟩ ⟨Nat.le_of_ble_eq_true rfl, Nat.le_of_ble_eq_true rfl⟩ rfl hl.1 rfl (Nat.le_of_ble_eq_true rfl) ⟨Nat.le_of_ble_eq_true rfl, Nat.le_of_ble_eq_true rfl⟩ dX5_run_52 ?_
    exact wL S hr hlk hs hX hS dX5_run_55
  · have hs := hs.trans (cif_t c1)
    refine lv_iload_n S.1 S.2.1 dX5_run_12 rfl (lv_at hl 2 rfl) ?_
    refine lv_i2l S.1 S.2.1 dX5_run_13 rfl ?_
    refine lv_lconst (v := 1) S.1 S.2.1 dX5_run_14 (by decide) ?_
    refine lv_ldc2 S.1 S.2.1 S.2.2.2.1 (S.2.2.2.2 _ wKL_RX5_151) dX5_run_15 ?_
    refine cPS (rest := []) S (c_X5_in l p2.toInt64 1 1000000) gS_RX5_101 ds_X5_in.2 ⟨rfl, rfl⟩ ⟨Nat.le_of_ble_eq_true rfl, Nat.le_of_ble_eq_true rfl⟩ rfl hl.1 rfl (Nat.le_of_ble_eq_true rfl) ⟨Nat.le_of_ble_eq_true rfl, Nat.le_of_ble_eq_true rfl⟩ dX5_run_18 ?_
    refine q_if_eq_b (tgt := 52) S dX5_run_21 (by decide) (fun c2 => ?_) (fun c2 => ?_)
    · have hs := hs.trans (cif_f c2)
      refine cPS (rest := []) S (c_X5_lost l) gS_RX5_92 ds_X5_lost.2 ⟨rfl, rfl⟩ ⟨Nat.le_of_ble_eq_true rfl, Nat.le_of_ble_eq_true rfl⟩ rfl hl.1 rfl (Nat.le_of_ble_eq_true rfl) ⟨Nat.le_of_ble_eq_true rfl, Nat.le_of_ble_eq_true rfl⟩ dX5_run_52 ?_
      exact wL S hr hlk hs hX hS dX5_run_55
    · have hs := hs.trans (cif_t c2)
      refine lv_iload_n S.1 S.2.1 dX5_run_24 rfl (lv_at hl 3 rfl) ?_
      refine lv_i2l S.1 S.2.1 dX5_run_25 rfl ?_
      refine lv_lconst (v := 1) S.1 S.2.1 dX5_run_26 (by decide) ?_
      refine lv_ldc2 S.1 S.2.1 S.2.2.2.1 (S.2.2.2.2 _ wKL_RX5_151) dX5_run_27 ?_
      refine cPS (rest := []) S (c_X5_in l p3.toInt64 1 1000000) gS_RX5_101 ds_X5_in.2 ⟨rfl, rfl⟩ ⟨Nat.le_of_ble_eq_true rfl, Nat.le_of_ble_eq_true rfl⟩ rfl hl.1 rfl (Nat.le_of_ble_eq_true rfl) ⟨Nat.le_of_ble_eq_true rfl, Nat.le_of_ble_eq_true rfl⟩ dX5_run_30 ?_
      refine q_if_eq_b (tgt := 52) S dX5_run_33 (by decide) (fun c3 => ?_) (fun c3 => ?_)
      · have hs := hs.trans (cif_f c3)
        refine cPS (rest := []) S (c_X5_lost l) gS_RX5_92 ds_X5_lost.2 ⟨rfl, rfl⟩ ⟨Nat.le_of_ble_eq_true rfl, Nat.le_of_ble_eq_true rfl⟩ rfl hl.1 rfl (Nat.le_of_ble_eq_true rfl) ⟨Nat.le_of_ble_eq_true rfl, Nat.le_of_ble_eq_true rfl⟩ dX5_run_52 ?_
        exact wL S hr hlk hs hX hS dX5_run_55
      · have hs := hs.trans (cif_t c3)
        refine lv_aload_n S.1 S.2.1 dX5_run_36 rfl (lv_at hl 0 rfl) ?_
        refine gf_RX5_84 S hK hX (v := d.1 0 0 12) rfl dX5_run_37 ?_
        refine q_if_lt (tgt := 52) (xi := (d.1 0 0 12).toInt) S rfl dX5_run_40 (by decide) (fun c4 => ?_) (fun c4 => ?_)
        · have hs := hs.trans (cif_t c4)
          refine cPS (rest := []) S (c_X5_lost l) gS_RX5_92 ds_X5_lost.2 ⟨rfl, rfl⟩ ⟨Nat.le_of_ble_eq_true rfl, Nat.le_of_ble_eq_true rfl⟩ rfl hl.1 rfl (Nat.le_of_ble_eq_true rfl) ⟨Nat.le_of_ble_eq_true rfl, Nat.le_of_ble_eq_true rfl⟩ dX5_run_52 ?_
          exact wL S hr hlk hs hX hS dX5_run_55
        · have hs := hs.trans (cif_f c4)
          refine lv_aload_n S.1 S.2.1 dX5_run_43 rfl (lv_at hl 0 rfl) ?_
          refine gf_RX5_159 S hK hX (v := d.1 0 0 15) rfl dX5_run_44 ?_
          refine lv_bipush (v := 12) S.1 S.2.1 dX5_run_47 (by decide) ?_
          refine q_icmp_ne (tgt := 56) (xi := (d.1 0 0 15).toInt) (yi := 12) S rfl rfl dX5_run_49 (by decide) (fun c5 => ?_) (fun c5 => ?_)
          · have hs := hs.trans (cif_f c5)
            refine lv_aload_n S.1 S.2.1 dX5_run_56 rfl (lv_at hl 0 rfl) ?_
            refine gf_RX5_37 S hK hX dX5_run_57 ?_
            refine lv_aload_n S.1 S.2.1 dX5_run_60 rfl (lv_at hl 0 rfl) ?_
            refine gf_RX5_159 S hK hX (v := d.1 0 0 15) rfl dX5_run_61 ?_
            refine lv_iload_n S.1 S.2.1 dX5_run_64 rfl (lv_at hl 1 rfl) ?_
            refine lv_i2l S.1 S.2.1 dX5_run_65 rfl ?_
            refine lv_ldc2 S.1 S.2.1 S.2.2.2.1 (S.2.2.2.2 _ wKL_RX5_149) dX5_run_66 ?_
            refine lv_lmul S.1 S.2.1 dX5_run_69 ?_
            refine lv_iload_n S.1 S.2.1 dX5_run_70 rfl (lv_at hl 3 rfl) ?_
            refine lv_i2l S.1 S.2.1 dX5_run_71 rfl ?_
            refine lv_lmul S.1 S.2.1 dX5_run_72 ?_
            refine lv_iload_n S.1 S.2.1 dX5_run_73 rfl (lv_at hl 2 rfl) ?_
            refine lv_i2l S.1 S.2.1 dX5_run_74 rfl ?_
            refine lv_ldiv S.1 S.2.1 dX5_run_75 (nzL (by have h9 := (in_iff.mp (by assumption : sp_X5_in p2.toInt64 1 1000000)).1; rw [t64] at h9; exact Int.lt_of_lt_of_le (by decide) h9)) ?_
            refine as_M16 S hK hX hS (by omega) (by omega) dX5_run_76 (fun H locs hX hS => ?_)
            refine lv_aload_n S.1 S.2.1 dX5_run_77 rfl (lv_at hl 0 rfl) ?_
            refine lv_dup S.1 S.2.1 dX5_run_78 rfl ?_
            refine gf_RX5_159 S hK hX (v := d.1 0 0 15) rfl dX5_run_79 ?_
            refine lv_iconst (v := 1) S.1 S.2.1 dX5_run_82 (by decide) ?_
            refine lv_iadd S.1 S.2.1 dX5_run_83 ?_
            refine pf_RX5_159 S hK hX hS dX5_run_84 (fun H locs hX hS => ?_)
            refine lv_aload_n S.1 S.2.1 dX5_run_87 rfl (lv_at hl 0 rfl) ?_
            refine gf_RX5_37 S hK hX dX5_run_88 ?_
            refine lv_aload_n S.1 S.2.1 dX5_run_91 rfl (lv_at hl 0 rfl) ?_
            refine gf_RX5_159 S hK hX (v := (d.1 0 0 15) + 1) rfl dX5_run_92 ?_
            refine lv_iconst (v := 1) S.1 S.2.1 dX5_run_95 (by decide) ?_
            refine lv_isub S.1 S.2.1 dX5_run_96 ?_
            refine al_M16 S hK hX (by rw [a1s]; omega) (by rw [a1s]; omega) (z := (uw d 16 0 (ix (d.1 0 0 15)) (((p1.toInt64 * 1000) * p3.toInt64) / p2.toInt64)).2 16 0 (ix (((d.1 0 0 15) + 1) - 1))) rfl dX5_run_97 ?_
            exact wL S hr hlk hs hX hS dX5_run_98
          · have hs := hs.trans (cif_t c5)
            refine cPS (rest := []) S (c_X5_lost l) gS_RX5_92 ds_X5_lost.2 ⟨rfl, rfl⟩ ⟨Nat.le_of_ble_eq_true rfl, Nat.le_of_ble_eq_true rfl⟩ rfl hl.1 rfl (Nat.le_of_ble_eq_true rfl) ⟨Nat.le_of_ble_eq_true rfl, Nat.le_of_ble_eq_true rfl⟩ dX5_run_52 ?_
            exact wL S hr hlk hs hX hS dX5_run_55
set_option maxRecDepth 100000 in
set_option maxHeartbeats 8000000 in
theorem c_X5_isGood (l : Launch) (D : va_G) (G : Gc) (ad : Nat → Nat → Nat) (d : Dt) (h0 : 0 ≤ (d.1 0 0 15).toInt) (h1 : (d.1 0 0 15).toInt ≤ 12) : Met l yX5_isGood (wsU yX5_isGood cX5_isGood 6 (some .boolean)) ({ frames := 0, cells := 0, slots := 0, locals := 0 } : Room) (va_Pc [.ref (ad 0 0)] (XPre D (tysG G) (MF G ad) MN ad d)) (qV (some (.int (b2i (sp_X5_isGood d))))) 0 0 (fun _ => False) := by
  refine ent (by decide +kernel) (Nat.le_of_ble_eq_true rfl) ?_
  intro p e s m below meth c S hr hlk hpre ls hl
  have S : CallFix p m c cX5_isGood 6 s [.ref (ad 0 0)].toArray wsL_law RX5 := S
  obtain ⟨hK, hN, hX⟩ := hpre
  have hl : lv_has ls 6 [(0, .ref (ad 0 0))] := hl
  have hs := sp_X5_isGood.eq_1 d
  refine lv_aload_n S.1 S.2.1 dX5_isGood_0 rfl (lv_at hl 0 rfl) ?_
  refine gf_RX5_159 S hK hX (v := d.1 0 0 15) rfl dX5_isGood_1 ?_
  refine lv_iconst (v := 5) S.1 S.2.1 dX5_isGood_4 (by decide) ?_
  refine q_icmp_ge (tgt := 10) (xi := (d.1 0 0 15).toInt) (yi := 5) S rfl rfl dX5_isGood_5 (by decide) (fun c1 => ?_) (fun c1 => ?_)
  · have hs := hs.trans (cif_t c1)
    have e1 := ts1 (x := d.1 0 0 15) (by omega)
    have e2 : (d.1 0 0 15 - 5).toInt = (d.1 0 0 15).toInt - 5 := ti_sub (by rw [show (5 : Int32).toInt = 5 from rfl]; omega) (by rw [show (5 : Int32).toInt = 5 from rfl]; omega)
    refine lv_aload_n S.1 S.2.1 dX5_isGood_10 rfl (lv_at hl 0 rfl) ?_
    refine gf_RX5_37 S hK hX dX5_isGood_11 ?_
    refine lv_aload_n S.1 S.2.1 dX5_isGood_14 rfl (lv_at hl 0 rfl) ?_
    refine gf_RX5_159 S hK hX (v := d.1 0 0 15) rfl dX5_isGood_15 ?_
    refine lv_iconst (v := 1) S.1 S.2.1 dX5_isGood_18 (by decide) ?_
    refine lv_isub S.1 S.2.1 dX5_isGood_19 ?_
    refine al_M16 S hK hX (by omega) (by omega) (z := d.2 16 0 (ix ((d.1 0 0 15) - 1))) rfl dX5_isGood_20 ?_
    refine lv_lstore_n (lv' := [(1, .long (d.2 16 0 (ix ((d.1 0 0 15) - 1)))), (0, .ref (ad 0 0))]) S.1 S.2.1 dX5_isGood_21 rfl hl (by decide) rfl (fun ls hl => ?_)
    refine lv_lload_n S.1 S.2.1 dX5_isGood_22 rfl (lv_at hl 0 rfl) ?_
    refine lv_lstore_n (lv' := [(3, .long (d.2 16 0 (ix ((d.1 0 0 15) - 1)))), (1, .long (d.2 16 0 (ix ((d.1 0 0 15) - 1)))), (0, .ref (ad 0 0))]) S.1 S.2.1 dX5_isGood_23 rfl hl (by decide) rfl (fun ls hl => ?_)
    refine lv_aload_n S.1 S.2.1 dX5_isGood_24 rfl (lv_at hl 2 rfl) ?_
    refine gf_RX5_159 S hK hX (v := d.1 0 0 15) rfl dX5_isGood_25 ?_
    refine lv_iconst (v := 5) S.1 S.2.1 dX5_isGood_28 (by decide) ?_
    refine lv_isub S.1 S.2.1 dX5_isGood_29 ?_
    refine lv_istore (lv' := [(5, .int ((d.1 0 0 15) - 5)), (3, .long (d.2 16 0 (ix ((d.1 0 0 15) - 1)))), (1, .long (d.2 16 0 (ix ((d.1 0 0 15) - 1)))), (0, .ref (ad 0 0))]) S.1 S.2.1 dX5_isGood_30 hl (by decide) rfl (fun ls hl => ?_)
    have L32 : ∀ (n : Nat), ∀ (x5 : Int32) (x3 : Int64) (x1 : Int64), (d.1 0 0 15).toInt - x5.toInt < (n : Int) → 0 ≤ x5.toInt → x5.toInt ≤ (d.1 0 0 15).toInt → sp_X5_isGood d = lp_X5_isGood_32 d n x5 x3 x1 → ∀ ls : Array Slot, lv_has ls 6 [(5, .int x5), (3, .long x3), (1, .long x1), (0, .ref (ad 0 0))] → W p l e ({ frames := 0, cells := 0, slots := 0, locals := 0 } : Room) s m [.ref (ad 0 0)].toArray below meth c s.heap [] 0 0 (MQ below (qV (some (.int (b2i (sp_X5_isGood d))))) [.ref (ad 0 0)].toArray s 0 0 (fun _ => False)) (F0 m 32 ls []) := by
      intro n
      induction n with
      | zero => intro x5 x3 x1 hms v32_0 v32_1 hs ls hl; omega
      | succ n ih32 =>
        intro x5 x3 x1 hms v32_0 v32_1 hs ls hl
        have hs := hs.trans (st_X5_isGood_32.eq_1 d (lp_X5_isGood_32 d n) x5 x3 x1)
        refine lv_iload S.1 S.2.1 dX5_isGood_32 (lv_at hl 0 rfl) ?_
        refine lv_aload_n S.1 S.2.1 dX5_isGood_34 rfl (lv_at hl 3 rfl) ?_
        refine gf_RX5_159 S hK hX (v := d.1 0 0 15) rfl dX5_isGood_35 ?_
        refine q_icmp_ge (tgt := 95) (xi := x5.toInt) (yi := (d.1 0 0 15).toInt) S rfl rfl dX5_isGood_38 (by decide) (fun c2 => ?_) (fun c2 => ?_)
        · have hs := hs.trans (cif_t c2)
          refine lv_lload_n S.1 S.2.1 dX5_isGood_95 rfl (lv_at hl 2 rfl) ?_
          refine lv_lconst (v := 0) S.1 S.2.1 dX5_isGood_96 (by decide) ?_
          refine q_lcmp_le (tgt := 117) (xi := x1.toInt) (yi := 0) S rfl rfl dX5_isGood_97 dX5_isGood_98 (by decide) (fun c3 => ?_) (fun c3 => ?_)
          · have hs := hs.trans (cif_t c3)
            refine lv_iconst (v := 0) S.1 S.2.1 dX5_isGood_117 (by decide) ?_
            exact rZ S hr hlk hs b2i_F.symm dX5_isGood_118
          · have hs := hs.trans (cif_f c3)
            refine lv_ldc2 S.1 S.2.1 S.2.2.2.1 (S.2.2.2.2 _ wKL_RX5_162) dX5_isGood_101 ?_
            refine lv_lload_n S.1 S.2.1 dX5_isGood_104 rfl (lv_at hl 1 rfl) ?_
            refine lv_lload_n S.1 S.2.1 dX5_isGood_105 rfl (lv_at hl 2 rfl) ?_
            refine lv_lsub S.1 S.2.1 dX5_isGood_106 ?_
            refine lv_lmul S.1 S.2.1 dX5_isGood_107 ?_
            refine lv_lload_n S.1 S.2.1 dX5_isGood_108 rfl (lv_at hl 2 rfl) ?_
            refine q_lcmp_gt (tgt := 117) (xi := (2000 * (x3 - x1)).toInt) (yi := x1.toInt) S rfl rfl dX5_isGood_109 dX5_isGood_110 (by decide) (fun c4 => ?_) (fun c4 => ?_)
            · have hs := hs.trans (cif_t c4)
              refine lv_iconst (v := 0) S.1 S.2.1 dX5_isGood_117 (by decide) ?_
              exact rZ S hr hlk hs b2i_F.symm dX5_isGood_118
            · have hs := hs.trans (cif_f c4)
              refine lv_iconst (v := 1) S.1 S.2.1 dX5_isGood_113 (by decide) ?_
              refine lv_goto (tgt := 118) S.1 S.2.1 dX5_isGood_114 (by decide) ?_
              exact rZ S hr hlk hs b2i_T.symm dX5_isGood_118
        · have hs := hs.trans (cif_f c2)
          refine lv_aload_n S.1 S.2.1 dX5_isGood_41 rfl (lv_at hl 3 rfl) ?_
          refine gf_RX5_37 S hK hX dX5_isGood_42 ?_
          refine lv_iload S.1 S.2.1 dX5_isGood_45 (lv_at hl 0 rfl) ?_
          refine al_M16 S hK hX (by omega) (by omega) (z := d.2 16 0 (ix x5)) rfl dX5_isGood_47 ?_
          refine lv_lload_n S.1 S.2.1 dX5_isGood_48 rfl (lv_at hl 2 rfl) ?_
          refine q_lcmp_ge (tgt := 63) (xi := (d.2 16 0 (ix x5)).toInt) (yi := x1.toInt) S rfl rfl dX5_isGood_49 dX5_isGood_50 (by decide) (fun c5 => ?_) (fun c5 => ?_)
          · have hs := hs.trans (cif_t c5)
            refine lv_lload_n S.1 S.2.1 dX5_isGood_63 rfl (lv_at hl 2 rfl) ?_
            refine lv_lstore_n (lv' := [(1, .long x1), (5, .int x5), (3, .long x3), (0, .ref (ad 0 0))]) S.1 S.2.1 dX5_isGood_64 rfl hl (by decide) rfl (fun ls hl => ?_)
            refine lv_aload_n S.1 S.2.1 dX5_isGood_65 rfl (lv_at hl 3 rfl) ?_
            refine gf_RX5_37 S hK hX dX5_isGood_66 ?_
            refine lv_iload S.1 S.2.1 dX5_isGood_69 (lv_at hl 1 rfl) ?_
            refine al_M16 S hK hX (by omega) (by omega) (z := d.2 16 0 (ix x5)) rfl dX5_isGood_71 ?_
            refine lv_lload_n S.1 S.2.1 dX5_isGood_72 rfl (lv_at hl 2 rfl) ?_
            refine q_lcmp_le (tgt := 87) (xi := (d.2 16 0 (ix x5)).toInt) (yi := x3.toInt) S rfl rfl dX5_isGood_73 dX5_isGood_74 (by decide) (fun c6 => ?_) (fun c6 => ?_)
            · have hs := hs.trans (cif_t c6)
              refine lv_lload_n S.1 S.2.1 dX5_isGood_87 rfl (lv_at hl 2 rfl) ?_
              refine lv_lstore_n (lv' := [(3, .long x3), (1, .long x1), (5, .int x5), (0, .ref (ad 0 0))]) S.1 S.2.1 dX5_isGood_88 rfl hl (by decide) rfl (fun ls hl => ?_)
              refine lv_iinc (v := x5 + 1) (lv' := [(5, .int (x5 + 1)), (3, .long x3), (1, .long x1), (0, .ref (ad 0 0))]) S.1 S.2.1 dX5_isGood_89 hl (k := 2) rfl (by rfl) (by decide) rfl (fun ls hl => ?_)
              refine lv_goto (tgt := 32) S.1 S.2.1 dX5_isGood_92 (by decide) ?_
              have e9 : ((x5 + 1)).toInt = x5.toInt + 1 := ti1 (by omega)
              exact ih32 (x5 + 1) x3 x1 (by omega) (by omega) (by omega) hs _ (lv_sub hl [0, 1, 2, 3] rfl)
            · have hs := hs.trans (cif_f c6)
              refine lv_aload_n S.1 S.2.1 dX5_isGood_77 rfl (lv_at hl 3 rfl) ?_
              refine gf_RX5_37 S hK hX dX5_isGood_78 ?_
              refine lv_iload S.1 S.2.1 dX5_isGood_81 (lv_at hl 1 rfl) ?_
              refine al_M16 S hK hX (by omega) (by omega) (z := d.2 16 0 (ix x5)) rfl dX5_isGood_83 ?_
              refine lv_goto (tgt := 88) S.1 S.2.1 dX5_isGood_84 (by decide) ?_
              refine lv_lstore_n (lv' := [(3, .long (d.2 16 0 (ix x5))), (1, .long x1), (5, .int x5), (0, .ref (ad 0 0))]) S.1 S.2.1 dX5_isGood_88 rfl hl (by decide) rfl (fun ls hl => ?_)
              refine lv_iinc (v := x5 + 1) (lv' := [(5, .int (x5 + 1)), (3, .long (d.2 16 0 (ix x5))), (1, .long x1), (0, .ref (ad 0 0))]) S.1 S.2.1 dX5_isGood_89 hl (k := 2) rfl (by rfl) (by decide) rfl (fun ls hl => ?_)
              refine lv_goto (tgt := 32) S.1 S.2.1 dX5_isGood_92 (by decide) ?_
              have e9 : ((x5 + 1)).toInt = x5.toInt + 1 := ti1 (by omega)
              exact ih32 (x5 + 1) (d.2 16 0 (ix x5)) x1 (by omega) (by omega) (by omega) hs _ (lv_sub hl [0, 1, 2, 3] rfl)
          · have hs := hs.trans (cif_f c5)
            refine lv_aload_n S.1 S.2.1 dX5_isGood_53 rfl (lv_at hl 3 rfl) ?_
            refine gf_RX5_37 S hK hX dX5_isGood_54 ?_
            refine lv_iload S.1 S.2.1 dX5_isGood_57 (lv_at hl 0 rfl) ?_
            refine al_M16 S hK hX (by omega) (by omega) (z := d.2 16 0 (ix x5)) rfl dX5_isGood_59 ?_
            refine lv_goto (tgt := 64) S.1 S.2.1 dX5_isGood_60 (by decide) ?_
            refine lv_lstore_n (lv' := [(1, .long (d.2 16 0 (ix x5))), (5, .int x5), (3, .long x3), (0, .ref (ad 0 0))]) S.1 S.2.1 dX5_isGood_64 rfl hl (by decide) rfl (fun ls hl => ?_)
            refine lv_aload_n S.1 S.2.1 dX5_isGood_65 rfl (lv_at hl 3 rfl) ?_
            refine gf_RX5_37 S hK hX dX5_isGood_66 ?_
            refine lv_iload S.1 S.2.1 dX5_isGood_69 (lv_at hl 1 rfl) ?_
            refine al_M16 S hK hX (by omega) (by omega) (z := d.2 16 0 (ix x5)) rfl dX5_isGood_71 ?_
            refine lv_lload_n S.1 S.2.1 dX5_isGood_72 rfl (lv_at hl 2 rfl) ?_
            refine q_lcmp_le (tgt := 87) (xi := (d.2 16 0 (ix x5)).toInt) (yi := x3.toInt) S rfl rfl dX5_isGood_73 dX5_isGood_74 (by decide) (fun c7 => ?_) (fun c7 => ?_)
            · have hs := hs.trans (cif_t c7)
              refine lv_lload_n S.1 S.2.1 dX5_isGood_87 rfl (lv_at hl 2 rfl) ?_
              refine lv_lstore_n (lv' := [(3, .long x3), (1, .long (d.2 16 0 (ix x5))), (5, .int x5), (0, .ref (ad 0 0))]) S.1 S.2.1 dX5_isGood_88 rfl hl (by decide) rfl (fun ls hl => ?_)
              refine lv_iinc (v := x5 + 1) (lv' := [(5, .int (x5 + 1)), (3, .long x3), (1, .long (d.2 16 0 (ix x5))), (0, .ref (ad 0 0))]) S.1 S.2.1 dX5_isGood_89 hl (k := 2) rfl (by rfl) (by decide) rfl (fun ls hl => ?_)
              refine lv_goto (tgt := 32) S.1 S.2.1 dX5_isGood_92 (by decide) ?_
              have e9 : ((x5 + 1)).toInt = x5.toInt + 1 := ti1 (by omega)
              exact ih32 (x5 + 1) x3 (d.2 16 0 (ix x5)) (by omega) (by omega) (by omega) hs _ (lv_sub hl [0, 1, 2, 3] rfl)
            · have hs := hs.trans (cif_f c7)
              refine lv_aload_n S.1 S.2.1 dX5_isGood_77 rfl (lv_at hl 3 rfl) ?_
              refine gf_RX5_37 S hK hX dX5_isGood_78 ?_
              refine lv_iload S.1 S.2.1 dX5_isGood_81 (lv_at hl 1 rfl) ?_
              refine al_M16 S hK hX (by omega) (by omega) (z := d.2 16 0 (ix x5)) rfl dX5_isGood_83 ?_
              refine lv_goto (tgt := 88) S.1 S.2.1 dX5_isGood_84 (by decide) ?_
              refine lv_lstore_n (lv' := [(3, .long (d.2 16 0 (ix x5))), (1, .long (d.2 16 0 (ix x5))), (5, .int x5), (0, .ref (ad 0 0))]) S.1 S.2.1 dX5_isGood_88 rfl hl (by decide) rfl (fun ls hl => ?_)
              refine lv_iinc (v := x5 + 1) (lv' := [(5, .int (x5 + 1)), (3, .long (d.2 16 0 (ix x5))), (1, .long (d.2 16 0 (ix x5))), (0, .ref (ad 0 0))]) S.1 S.2.1 dX5_isGood_89 hl (k := 2) rfl (by rfl) (by decide) rfl (fun ls hl => ?_)
              refine lv_goto (tgt := 32) S.1 S.2.1 dX5_isGood_92 (by decide) ?_
              have e9 : ((x5 + 1)).toInt = x5.toInt + 1 := ti1 (by omega)
              exact ih32 (x5 + 1) (d.2 16 0 (ix x5)) (d.2 16 0 (ix x5)) (by omega) (by omega) (by omega) hs _ (lv_sub hl [0, 1, 2, 3] rfl)
    exact L32 16 ((d.1 0 0 15) - 5) (d.2 16 0 (ix ((d.1 0 0 15) - 1))) (d.2 16 0 (ix ((d.1 0 0 15) - 1))) (by first | omega | (simp only [Int32.toInt_zero]; omega)) (by first | omega | (simp only [Int32.toInt_zero]; omega)) (by first | omega | (simp only [Int32.toInt_zero]; omega)) hs _ (lv_sub hl [0, 1, 2, 3] rfl)
  · have hs := hs.trans (cif_f c1)
    refine lv_iconst (v := 0) S.1 S.2.1 dX5_isGood_8 (by decide) ?_
    exact rZ S hr hlk hs b2i_F.symm dX5_isGood_9
set_option maxRecDepth 100000 in
set_option maxHeartbeats 8000000 in
theorem c_X5_proving (l : Launch) (D : va_G) (G : Gc) (ad : Nat → Nat → Nat) (d : Dt) (p1 : Int32) (hI : MI d) : Met l yX5_proving (wsU yX5_proving cX5_proving 2 (some .int)) ({ frames := 1, cells := 0, slots := 0, locals := 25 } : Room) (va_Pc [.ref (ad 0 0), .int p1] (XPre D (tysG G) (MF G ad) MN ad d)) (qV (some (.int (sp_X5_proving d p1)))) 0 0 (fun _ => False) := by
  refine ent (by decide +kernel) (Nat.le_of_ble_eq_true rfl) ?_
  intro p e s m below meth c S hr hlk hpre ls hl
  have S : CallFix p m c cX5_proving 2 s [.ref (ad 0 0), .int p1].toArray wsL_law RX5 := S
  obtain ⟨hK, hN, hX⟩ := hpre
  have hl : lv_has ls 2 [(0, .ref (ad 0 0)), (1, .int p1)] := hl
  have hs := sp_X5_proving.eq_1 d p1
  have q1 := hI.1
  have q2 := hI.2.2.1
  have q3 := hI.2.2.2.1
  have q4 := hI.2.2.2.2.1
  refine lv_iload_n S.1 S.2.1 dX5_proving_0 rfl (lv_at hl 1 rfl) ?_
  refine lv_i2l S.1 S.2.1 dX5_proving_1 rfl ?_
  refine lv_lconst (v := 0) S.1 S.2.1 dX5_proving_2 (by decide) ?_
  refine lv_ldc2 S.1 S.2.1 S.2.2.2.1 (S.2.2.2.2 _ wKL_RX5_164) dX5_proving_3 ?_
  refine cPS (rest := []) S (c_X5_in l p1.toInt64 0 3) gS_RX5_101 ds_X5_in.2 ⟨rfl, rfl⟩ ⟨Nat.le_of_ble_eq_true rfl, Nat.le_of_ble_eq_true rfl⟩ rfl hl.1 rfl (Nat.le_of_ble_eq_true rfl) ⟨Nat.le_of_ble_eq_true rfl, Nat.le_of_ble_eq_true rfl⟩ dX5_proving_6 ?_
  refine q_if_ne_b (tgt := 15) S dX5_proving_9 (by decide) (fun c1 => ?_) (fun c1 => ?_)
  · have hs := hs.trans (cif_t c1)
    refine lv_aload_n S.1 S.2.1 dX5_proving_15 rfl (lv_at hl 0 rfl) ?_
    refine gf_RX5_84 S hK hX (v := d.1 0 0 12) rfl dX5_proving_16 ?_
    refine q_if_ge (tgt := 25) (xi := (d.1 0 0 12).toInt) S rfl dX5_proving_19 (by decide) (fun c2 => ?_) (fun c2 => ?_)
    · have hs := hs.trans (cif_t c2)
      refine lv_iload_n S.1 S.2.1 dX5_proving_25 rfl (lv_at hl 1 rfl) ?_
      refine q_if_ne (tgt := 36) (xi := p1.toInt) S rfl dX5_proving_26 (by decide) (fun c3 => ?_) (fun c3 => ?_)
      · have hs := hs.trans (cif_f c3)
        refine lv_iload_n S.1 S.2.1 dX5_proving_36 rfl (lv_at hl 1 rfl) ?_
        refine lv_iconst (v := 1) S.1 S.2.1 dX5_proving_37 (by decide) ?_
        refine q_icmp_ne (tgt := 56) (xi := p1.toInt) (yi := 1) S rfl rfl dX5_proving_38 (by decide) (fun c4 => ?_) (fun c4 => ?_)
        · have hs := hs.trans (cif_f c4)
          refine lv_iload_n S.1 S.2.1 dX5_proving_56 rfl (lv_at hl 1 rfl) ?_
          refine lv_iconst (v := 2) S.1 S.2.1 dX5_proving_57 (by decide) ?_
          refine q_icmp_ne (tgt := 68) (xi := p1.toInt) (yi := 2) S rfl rfl dX5_proving_58 (by decide) (fun c5 => ?_) (fun c5 => ?_)
          · have hs := hs.trans (cif_f c5)
            refine lv_aload_n S.1 S.2.1 dX5_proving_68 rfl (lv_at hl 0 rfl) ?_
            refine gf_RX5_153 S hK hX (v := d.1 0 0 13) rfl dX5_proving_69 ?_
            exact rI S hr hlk hs dX5_proving_72
          · have hs := hs.trans (cif_t c5)
            refine lv_aload_n S.1 S.2.1 dX5_proving_61 rfl (lv_at hl 0 rfl) ?_
            refine gf_RX5_84 S hK hX (v := d.1 0 0 12) rfl dX5_proving_62 ?_
            refine lv_goto (tgt := 72) S.1 S.2.1 dX5_proving_65 (by decide) ?_
            exact rI S hr hlk hs dX5_proving_72
        · have hs := hs.trans (cif_t c4)
          refine lv_aload_n S.1 S.2.1 dX5_proving_41 rfl (lv_at hl 0 rfl) ?_
          refine cPV (rest := []) S (c_X5_isGood l D G ad d (by omega) (by omega)) gV_RX5_166 ds_X5_isGood ⟨rfl, rfl⟩ ⟨Nat.le_of_ble_eq_true rfl, Nat.le_of_ble_eq_true rfl⟩ ⟨blindX, recvX hK hX (k := 0) (i := 0) Nat.zero_lt_one rfl rfl, preX hK hN hX _⟩ rfl hl.1 rfl (Nat.le_of_ble_eq_true rfl) ⟨Nat.le_of_ble_eq_true rfl, Nat.le_of_ble_eq_true rfl⟩ dX5_proving_42 ?_
          refine q_if_eq_b (tgt := 52) S dX5_proving_45 (by decide) (fun c6 => ?_) (fun c6 => ?_)
          · have hs := hs.trans (cif_f c6)
            refine lv_iconst (v := 0) S.1 S.2.1 dX5_proving_52 (by decide) ?_
            refine lv_goto (tgt := 72) S.1 S.2.1 dX5_proving_53 (by decide) ?_
            exact rI S hr hlk hs dX5_proving_72
          · have hs := hs.trans (cif_t c6)
            have f7 := gdm_of c6
            refine lv_iconst (v := 1) S.1 S.2.1 dX5_proving_48 (by decide) ?_
            refine lv_goto (tgt := 72) S.1 S.2.1 dX5_proving_49 (by decide) ?_
            exact rI S hr hlk hs dX5_proving_72
      · have hs := hs.trans (cif_t c3)
        refine lv_aload_n S.1 S.2.1 dX5_proving_29 rfl (lv_at hl 0 rfl) ?_
        refine gf_RX5_159 S hK hX (v := d.1 0 0 15) rfl dX5_proving_30 ?_
        refine lv_goto (tgt := 72) S.1 S.2.1 dX5_proving_33 (by decide) ?_
        exact rI S hr hlk hs dX5_proving_72
    · have hs := hs.trans (cif_f c2)
      refine lv_bipush (v := (-3)) S.1 S.2.1 dX5_proving_22 (by decide) ?_
      exact rI S hr hlk hs dX5_proving_24
  · have hs := hs.trans (cif_f c1)
    refine lv_bipush (v := (-2)) S.1 S.2.1 dX5_proving_12 (by decide) ?_
    exact rI S hr hlk hs dX5_proving_14
set_option maxRecDepth 100000 in
set_option maxHeartbeats 8000000 in
theorem c_X5_accept (l : Launch) (D : va_G) (G : Gc) (ad : Nat → Nat → Nat) (d : Dt) (p1 : Int32) (hI : MI d) : Met l yX5_accept (wsU yX5_accept cX5_accept 6 (some .int)) ({ frames := 2, cells := 0, slots := 0, locals := 46 } : Room) (va_Pc [.ref (ad 0 0), .int p1] (XPre D (tysG G) (MF G ad) MN ad d)) (qW (some (.int (sp_X5_accept d p1).1)) D (MF G ad) MN ad (sp_X5_accept d p1).2) 0 0 (adS MN ad) := by
  refine ent (by decide +kernel) (Nat.le_of_ble_eq_true rfl) ?_
  intro p e s m below meth c S hr hlk hpre ls hl
  have S : CallFix p m c cX5_accept 6 s [.ref (ad 0 0), .int p1].toArray wsL_law RX5 := S
  obtain ⟨hK, hN, hX⟩ := hpre
  have hl : lv_has ls 6 [(0, .ref (ad 0 0)), (1, .int p1)] := hl
  have hs := sp_X5_accept.eq_1 d p1
  have hS : va_S (adS MN ad) s.heap s.heap [] := va_S.rf
  have q1 := hI.1
  have q2 := hI.2.2.1
  have q3 := hI.2.2.2.1
  have q4 := hI.2.2.2.2.1
  refine lv_iload_n S.1 S.2.1 dX5_accept_0 rfl (lv_at hl 1 rfl) ?_
  refine cPS (rest := []) S (c_X5_isDay l p1) gS_RX5_122 ds_X5_isDay.2 ⟨rfl, rfl⟩ ⟨Nat.le_of_ble_eq_true rfl, Nat.le_of_ble_eq_true rfl⟩ rfl hl.1 rfl (Nat.le_of_ble_eq_true rfl) ⟨Nat.le_of_ble_eq_true rfl, Nat.le_of_ble_eq_true rfl⟩ dX5_accept_1 ?_
  refine q_if_ne_b (tgt := 10) S dX5_accept_4 (by decide) (fun c1 => ?_) (fun c1 => ?_)
  · have hs := hs.trans (cif_t c1)
    refine lv_aload_n S.1 S.2.1 dX5_accept_10 rfl (lv_at hl 0 rfl) ?_
    refine gf_RX5_84 S hK hX (v := d.1 0 0 12) rfl dX5_accept_11 ?_
    refine q_if_lt (tgt := 24) (xi := (d.1 0 0 12).toInt) S rfl dX5_accept_14 (by decide) (fun c2 => ?_) (fun c2 => ?_)
    · have hs := hs.trans (cif_t c2)
      refine lv_bipush (v := (-3)) S.1 S.2.1 dX5_accept_24 (by decide) ?_
      exact wI S hr hlk hs hX hS dX5_accept_26
    · have hs := hs.trans (cif_f c2)
      refine lv_aload_n S.1 S.2.1 dX5_accept_17 rfl (lv_at hl 0 rfl) ?_
      refine cPV (rest := []) S (c_X5_isGood l D G ad d (by omega) (by omega)) gV_RX5_166 ds_X5_isGood ⟨rfl, rfl⟩ ⟨Nat.le_of_ble_eq_true rfl, Nat.le_of_ble_eq_true rfl⟩ ⟨blindX, recvX hK hX (k := 0) (i := 0) Nat.zero_lt_one rfl rfl, preX hK hN hX _⟩ rfl hl.1 rfl (Nat.le_of_ble_eq_true rfl) ⟨Nat.le_of_ble_eq_true rfl, Nat.le_of_ble_eq_true rfl⟩ dX5_accept_18 ?_
      refine q_if_ne_b (tgt := 27) S dX5_accept_21 (by decide) (fun c3 => ?_) (fun c3 => ?_)
      · have hs := hs.trans (cif_t c3)
        have f4 := gdm_of c3
        have e2 : (d.1 0 0 15 - 5).toInt = (d.1 0 0 15).toInt - 5 := ti_sub (by rw [show (5 : Int32).toInt = 5 from rfl]; omega) (by rw [show (5 : Int32).toInt = 5 from rfl]; omega)
        refine lv_lconst (v := 0) S.1 S.2.1 dX5_accept_27 (by decide) ?_
        refine lv_lstore_n (lv' := [(2, .long 0), (0, .ref (ad 0 0)), (1, .int p1)]) S.1 S.2.1 dX5_accept_28 rfl hl (by decide) rfl (fun ls hl => ?_)
        refine lv_aload_n S.1 S.2.1 dX5_accept_29 rfl (lv_at hl 1 rfl) ?_
        refine gf_RX5_159 S hK hX (v := d.1 0 0 15) rfl dX5_accept_30 ?_
        refine lv_iconst (v := 5) S.1 S.2.1 dX5_accept_33 (by decide) ?_
        refine lv_isub S.1 S.2.1 dX5_accept_34 ?_
        refine lv_istore (lv' := [(4, .int ((d.1 0 0 15) - 5)), (2, .long 0), (0, .ref (ad 0 0)), (1, .int p1)]) S.1 S.2.1 dX5_accept_35 hl (by decide) rfl (fun ls hl => ?_)
        have L37 : ∀ (n : Nat), ∀ (x4 : Int32) (x2 : Int64), (d.1 0 0 15).toInt - x4.toInt < (n : Int) → (d.1 0 0 15).toInt - 5 ≤ x4.toInt → x4.toInt ≤ (d.1 0 0 15).toInt → 0 ≤ x2.toInt → x2.toInt ≤ 100000000000000 * (x4.toInt - ((d.1 0 0 15).toInt - 5)) → ((d.1 0 0 15).toInt - 5 < x4.toInt → 0 < x2.toInt) → sp_X5_accept d p1 = lp_X5_accept_37 d p1 n x4 x2 → ∀ (H : Heap) (locs : List Loc), PIC D (MF G ad) MN ad d H → va_S (adS MN ad) s.heap H locs → ∀ ls : Array Slot, lv_has ls 6 [(4, .int x4), (2, .long x2), (0, .ref (ad 0 0)), (1, .int p1)] → W p l e ({ frames := 2, cells := 0, slots := 0, locals := 46 } : Room) s m [.ref (ad 0 0), .int p1].toArray below meth c H locs 0 0 (MQ below (qW (some (.int (sp_X5_accept d p1).1)) D (MF G ad) MN ad (sp_X5_accept d p1).2) [.ref (ad 0 0), .int p1].toArray s 0 0 (adS MN ad)) (F0 m 37 ls []) := by
          intro n
          induction n with
          | zero => intro x4 x2 hms v37_0 v37_1 v37_2 v37_3 v37_4 hs H locs hX hS ls hl; omega
          | succ n ih37 =>
            intro x4 x2 hms v37_0 v37_1 v37_2 v37_3 v37_4 hs H locs hX hS ls hl
            have hs := hs.trans (st_X5_accept_37.eq_1 d p1 (lp_X5_accept_37 d p1 n) x4 x2)
            refine lv_iload S.1 S.2.1 dX5_accept_37 (lv_at hl 0 rfl) ?_
            refine lv_aload_n S.1 S.2.1 dX5_accept_39 rfl (lv_at hl 2 rfl) ?_
            refine gf_RX5_159 S hK hX (v := d.1 0 0 15) rfl dX5_accept_40 ?_
            refine q_icmp_ge (tgt := 62) (xi := x4.toInt) (yi := (d.1 0 0 15).toInt) S rfl rfl dX5_accept_43 (by decide) (fun c5 => ?_) (fun c5 => ?_)
            · have hs := hs.trans (cif_t c5)
              refine lv_ldc2 S.1 S.2.1 S.2.2.2.1 (S.2.2.2.2 _ wKL_RX5_170) dX5_accept_62 ?_
              refine lv_aload_n S.1 S.2.1 dX5_accept_65 rfl (lv_at hl 2 rfl) ?_
              refine gf_RX5_156 S hK hX (v := d.1 0 0 14) rfl dX5_accept_66 ?_
              refine lv_i2l S.1 S.2.1 dX5_accept_69 rfl ?_
              refine lv_lmul S.1 S.2.1 dX5_accept_70 ?_
              refine lv_aload_n S.1 S.2.1 dX5_accept_71 rfl (lv_at hl 2 rfl) ?_
              refine gf_RX5_7 S hK hX dX5_accept_72 ?_
              refine lv_aload_n S.1 S.2.1 dX5_accept_75 rfl (lv_at hl 2 rfl) ?_
              refine gf_RX5_84 S hK hX (v := d.1 0 0 12) rfl dX5_accept_76 ?_
              refine al_M2 S hK hX (by omega) (by omega) (z := d.1 2 0 (ix (d.1 0 0 12))) rfl dX5_accept_79 ?_
              refine lv_i2l S.1 S.2.1 dX5_accept_80 rfl ?_
              refine lv_lmul S.1 S.2.1 dX5_accept_81 ?_
              refine lv_lload_n S.1 S.2.1 dX5_accept_82 rfl (lv_at hl 1 rfl) ?_
              refine cPS (rest := []) S (c_X5_rounded l ((500 * ((d.1 0 0 14).toInt64)) * ((d.1 2 0 (ix (d.1 0 0 12))).toInt64)) x2 (by omega)) gS_RX5_172 ds_X5_rounded.2 ⟨rfl, rfl⟩ ⟨Nat.le_of_ble_eq_true rfl, Nat.le_of_ble_eq_true rfl⟩ rfl hl.1 rfl (Nat.le_of_ble_eq_true rfl) ⟨Nat.le_of_ble_eq_true rfl, Nat.le_of_ble_eq_true rfl⟩ dX5_accept_83 ?_
              refine lv_lstore (lv' := [(4, .long (sp_X5_rounded ((500 * ((d.1 0 0 14).toInt64)) * ((d.1 2 0 (ix (d.1 0 0 12))).toInt64)) x2)), (2, .long x2), (0, .ref (ad 0 0)), (1, .int p1)]) S.1 S.2.1 dX5_accept_86 hl (by decide) rfl (fun ls hl => ?_)
              refine lv_lload S.1 S.2.1 dX5_accept_88 (lv_at hl 0 rfl) ?_
              refine cPS (rest := []) S (c_X5_isNumber l (sp_X5_rounded ((500 * ((d.1 0 0 14).toInt64)) * ((d.1 2 0 (ix (d.1 0 0 12))).toInt64)) x2)) gS_RX5_125 ds_X5_isNumber.2 ⟨rfl, rfl⟩ ⟨Nat.le_of_ble_eq_true rfl, Nat.le_of_ble_eq_true rfl⟩ rfl hl.1 rfl (Nat.le_of_ble_eq_true rfl) ⟨Nat.le_of_ble_eq_true rfl, Nat.le_of_ble_eq_true rfl⟩ dX5_accept_90 ?_
              refine q_if_ne_b (tgt := 99) S dX5_accept_93 (by decide) (fun c6 => ?_) (fun c6 => ?_)
              · have hs := hs.trans (cif_t c6)
                refine lv_aload_n S.1 S.2.1 dX5_accept_99 rfl (lv_at hl 2 rfl) ?_
                refine gf_RX5_13 S hK hX dX5_accept_100 ?_
                refine lv_aload_n S.1 S.2.1 dX5_accept_103 rfl (lv_at hl 2 rfl) ?_
                refine gf_RX5_84 S hK hX (v := d.1 0 0 12) rfl dX5_accept_104 ?_
                refine al_M3 S hK hX (by omega) (by omega) (z := d.1 3 0 (ix (d.1 0 0 12))) rfl dX5_accept_107 ?_
                have f7 := hI.mn (x := (d.1 0 0 12)) (by omega) (by omega)
                refine lv_bipush (v := 12) S.1 S.2.1 dX5_accept_108 (by decide) ?_
                refine q_icmp_ne (tgt := 116) (xi := (d.1 3 0 (ix (d.1 0 0 12))).toInt) (yi := 12) S rfl rfl dX5_accept_110 (by decide) (fun c8 => ?_) (fun c8 => ?_)
                · have hs := hs.trans (cif_f c8)
                  refine lv_aload_n S.1 S.2.1 dX5_accept_116 rfl (lv_at hl 2 rfl) ?_
                  refine lv_aload_n S.1 S.2.1 dX5_accept_117 rfl (lv_at hl 2 rfl) ?_
                  refine gf_RX5_84 S hK hX (v := d.1 0 0 12) rfl dX5_accept_118 ?_
                  refine lv_aload_n S.1 S.2.1 dX5_accept_121 rfl (lv_at hl 2 rfl) ?_
                  refine gf_RX5_153 S hK hX (v := d.1 0 0 13) rfl dX5_accept_122 ?_
                  refine lv_iload_n S.1 S.2.1 dX5_accept_125 rfl (lv_at hl 3 rfl) ?_
                  refine lv_lload S.1 S.2.1 dX5_accept_126 (lv_at hl 0 rfl) ?_
                  refine lv_l2i S.1 S.2.1 dX5_accept_128 rfl ?_
                  refine cWV (rest := []) S (c_X5_addFactor l D G ad d (d.1 0 0 12) (d.1 0 0 13) p1 ((sp_X5_rounded ((500 * ((d.1 0 0 14).toInt64)) * ((d.1 2 0 (ix (d.1 0 0 12))).toInt64)) x2).toInt32) (by omega) (by omega) (by omega) (by omega)) gV_RX5_129 ds_X5_addFactor ⟨rfl, rfl⟩ ⟨Nat.le_of_ble_eq_true rfl, Nat.le_of_ble_eq_true rfl⟩ ⟨blindX, recvX hK hX (k := 0) (i := 0) Nat.zero_lt_one rfl rfl, preX hK hN hX _⟩ rfl hl.1 rfl (Nat.le_of_ble_eq_true rfl) ⟨Nat.le_of_ble_eq_true rfl, Nat.le_of_ble_eq_true rfl⟩ dX5_accept_129 hS (fun _ h => h) (fun H locs hX hS hfr => ?_)
                  refine lv_aload_n S.1 S.2.1 dX5_accept_132 rfl (lv_at hl 2 rfl) ?_
                  refine lv_iconst (v := (-1)) S.1 S.2.1 dX5_accept_133 (by decide) ?_
                  refine pf_RX5_84 S hK hX hS dX5_accept_134 (fun H locs hX hS => ?_)
                  refine lv_lload S.1 S.2.1 dX5_accept_137 (lv_at hl 0 rfl) ?_
                  refine lv_l2i S.1 S.2.1 dX5_accept_139 rfl ?_
                  exact wI S hr hlk hs hX hS dX5_accept_140
                · have hs := hs.trans (cif_t c8)
                  refine lv_bipush (v := (-4)) S.1 S.2.1 dX5_accept_113 (by decide) ?_
                  exact wI S hr hlk hs hX hS dX5_accept_115
              · have hs := hs.trans (cif_f c6)
                refine lv_bipush (v := (-9)) S.1 S.2.1 dX5_accept_96 (by decide) ?_
                exact wI S hr hlk hs hX hS dX5_accept_98
            · have hs := hs.trans (cif_f c5)
              refine lv_lload_n S.1 S.2.1 dX5_accept_46 rfl (lv_at hl 1 rfl) ?_
              refine lv_aload_n S.1 S.2.1 dX5_accept_47 rfl (lv_at hl 2 rfl) ?_
              refine gf_RX5_37 S hK hX dX5_accept_48 ?_
              refine lv_iload S.1 S.2.1 dX5_accept_51 (lv_at hl 0 rfl) ?_
              refine al_M16 S hK hX (by omega) (by omega) (z := d.2 16 0 (ix x4)) rfl dX5_accept_53 ?_
              have g1 := (gdm_of (by assumption)).2 (ix x4) (by rw [ix_int (by omega)]; omega) (by rw [ix_int (by omega)]; omega)
              have g2 := hI.2.2.2.2.2.2.2.2 (ix x4) (by rw [ix_int (by omega)]; omega)
              have g3 : (x2 + d.2 16 0 (ix x4)).toInt = x2.toInt + (d.2 16 0 (ix x4)).toInt := tl_add (by omega) (by omega)
              refine lv_ladd S.1 S.2.1 dX5_accept_54 ?_
              refine lv_lstore_n (lv' := [(2, .long (x2 + (d.2 16 0 (ix x4)))), (4, .int x4), (0, .ref (ad 0 0)), (1, .int p1)]) S.1 S.2.1 dX5_accept_55 rfl hl (by decide) rfl (fun ls hl => ?_)
              refine lv_iinc (v := x4 + 1) (lv' := [(4, .int (x4 + 1)), (2, .long (x2 + (d.2 16 0 (ix x4)))), (0, .ref (ad 0 0)), (1, .int p1)]) S.1 S.2.1 dX5_accept_56 hl (k := 1) rfl (by rfl) (by decide) rfl (fun ls hl => ?_)
              refine lv_goto (tgt := 37) S.1 S.2.1 dX5_accept_59 (by decide) ?_
              have e9 : ((x4 + 1)).toInt = x4.toInt + 1 := ti1 (by omega)
              exact ih37 (x4 + 1) (x2 + (d.2 16 0 (ix x4))) (by omega) (by omega) (by omega) (by omega) (by omega) (by omega) hs _ _ hX hS _ (lv_sub hl [0, 1, 2, 3] rfl)
        exact L37 16 ((d.1 0 0 15) - 5) 0 (by omega) (by omega) (by omega) (by decide) (by rw [Int64.toInt_zero]; omega) (by intro; omega) hs _ _ hX hS _ (lv_sub hl [0, 1, 2, 3] rfl)
      · have hs := hs.trans (cif_f c3)
        refine lv_bipush (v := (-3)) S.1 S.2.1 dX5_accept_24 (by decide) ?_
        exact wI S hr hlk hs hX hS dX5_accept_26
  · have hs := hs.trans (cif_f c1)
    refine lv_bipush (v := (-2)) S.1 S.2.1 dX5_accept_7 (by decide) ?_
    exact wI S hr hlk hs hX hS dX5_accept_9
set_option maxRecDepth 100000 in
set_option maxHeartbeats 8000000 in
theorem c_X5_noTicket (l : Launch) (D : va_G) (G : Gc) (ad : Nat → Nat → Nat) (d : Dt) (p1 : Int32) : Met l yX5_noTicket (wsU yX5_noTicket cX5_noTicket 2 (some .boolean)) ({ frames := 1, cells := 0, slots := 0, locals := 25 } : Room) (va_Pc [.ref (ad 0 0), .int p1] (XPre D (tysG G) (MF G ad) MN ad d)) (qV (some (.int (b2i (sp_X5_noTicket d p1))))) 0 0 (fun _ => False) := by
  refine ent (by decide +kernel) (Nat.le_of_ble_eq_true rfl) ?_
  intro p e s m below meth c S hr hlk hpre ls hl
  have S : CallFix p m c cX5_noTicket 2 s [.ref (ad 0 0), .int p1].toArray wsL_law RX5 := S
  obtain ⟨hK, hN, hX⟩ := hpre
  have hl : lv_has ls 2 [(0, .ref (ad 0 0)), (1, .int p1)] := hl
  have hs := sp_X5_noTicket.eq_1 d p1
  refine lv_iload_n S.1 S.2.1 dX5_noTicket_0 rfl (lv_at hl 1 rfl) ?_
  refine lv_i2l S.1 S.2.1 dX5_noTicket_1 rfl ?_
  refine lv_lconst (v := 0) S.1 S.2.1 dX5_noTicket_2 (by decide) ?_
  refine lv_aload_n S.1 S.2.1 dX5_noTicket_3 rfl (lv_at hl 0 rfl) ?_
  refine gf_RX5_176 S hK hX (v := d.1 0 0 17) rfl dX5_noTicket_4 ?_
  refine lv_i2l S.1 S.2.1 dX5_noTicket_7 rfl ?_
  refine lv_lconst (v := 1) S.1 S.2.1 dX5_noTicket_8 (by decide) ?_
  refine lv_lsub S.1 S.2.1 dX5_noTicket_9 ?_
  refine cPS (rest := []) S (c_X5_in l p1.toInt64 0 (((d.1 0 0 17).toInt64) - 1)) gS_RX5_101 ds_X5_in.2 ⟨rfl, rfl⟩ ⟨Nat.le_of_ble_eq_true rfl, Nat.le_of_ble_eq_true rfl⟩ rfl hl.1 rfl (Nat.le_of_ble_eq_true rfl) ⟨Nat.le_of_ble_eq_true rfl, Nat.le_of_ble_eq_true rfl⟩ dX5_noTicket_10 ?_
  refine q_if_ne_b (tgt := 20) S dX5_noTicket_13 (by decide) (fun c1 => ?_) (fun c1 => ?_)
  · have hs := hs.trans (cif_t c1)
    refine lv_iconst (v := 0) S.1 S.2.1 dX5_noTicket_20 (by decide) ?_
    exact rZ S hr hlk hs b2i_F.symm dX5_noTicket_21
  · have hs := hs.trans (cif_f c1)
    refine lv_iconst (v := 1) S.1 S.2.1 dX5_noTicket_16 (by decide) ?_
    refine lv_goto (tgt := 21) S.1 S.2.1 dX5_noTicket_17 (by decide) ?_
    exact rZ S hr hlk hs b2i_T.symm dX5_noTicket_21
set_option maxRecDepth 100000 in
set_option maxHeartbeats 8000000 in
theorem c_X5_isShut (l : Launch) (D : va_G) (G : Gc) (ad : Nat → Nat → Nat) (d : Dt) (p1 : Int32) : Met l yX5_isShut (wsU yX5_isShut cX5_isShut 2 (some .boolean)) ({ frames := 0, cells := 0, slots := 0, locals := 0 } : Room) (va_Pc [.ref (ad 0 0), .int p1] (XPre D (tysG G) (MF G ad) MN ad d)) (qV (some (.int (b2i (sp_X5_isShut d p1))))) 0 0 (fun _ => False) := by
  refine ent (by decide +kernel) (Nat.le_of_ble_eq_true rfl) ?_
  intro p e s m below meth c S hr hlk hpre ls hl
  have S : CallFix p m c cX5_isShut 2 s [.ref (ad 0 0), .int p1].toArray wsL_law RX5 := S
  obtain ⟨hK, hN, hX⟩ := hpre
  have hl : lv_has ls 2 [(0, .ref (ad 0 0)), (1, .int p1)] := hl
  have hs := sp_X5_isShut.eq_1 d p1
  refine lv_aload_n S.1 S.2.1 dX5_isShut_0 rfl (lv_at hl 0 rfl) ?_
  refine gf_RX5_80 S hK hX (v := d.1 0 0 26) rfl dX5_isShut_1 ?_
  refine q_if_lt (tgt := 19) (xi := (d.1 0 0 26).toInt) S rfl dX5_isShut_4 (by decide) (fun c1 => ?_) (fun c1 => ?_)
  · have hs := hs.trans (cif_t c1)
    refine lv_iconst (v := 0) S.1 S.2.1 dX5_isShut_19 (by decide) ?_
    exact rZ S hr hlk hs b2i_F.symm dX5_isShut_20
  · have hs := hs.trans (cif_f c1)
    refine lv_iload_n S.1 S.2.1 dX5_isShut_7 rfl (lv_at hl 1 rfl) ?_
    refine lv_aload_n S.1 S.2.1 dX5_isShut_8 rfl (lv_at hl 0 rfl) ?_
    refine gf_RX5_80 S hK hX (v := d.1 0 0 26) rfl dX5_isShut_9 ?_
    refine q_icmp_gt (tgt := 19) (xi := p1.toInt) (yi := (d.1 0 0 26).toInt) S rfl rfl dX5_isShut_12 (by decide) (fun c2 => ?_) (fun c2 => ?_)
    · have hs := hs.trans (cif_t c2)
      refine lv_iconst (v := 0) S.1 S.2.1 dX5_isShut_19 (by decide) ?_
      exact rZ S hr hlk hs b2i_F.symm dX5_isShut_20
    · have hs := hs.trans (cif_f c2)
      refine lv_iconst (v := 1) S.1 S.2.1 dX5_isShut_15 (by decide) ?_
      refine lv_goto (tgt := 20) S.1 S.2.1 dX5_isShut_16 (by decide) ?_
      exact rZ S hr hlk hs b2i_T.symm dX5_isShut_20
set_option maxRecDepth 100000 in
set_option maxHeartbeats 8000000 in
theorem c_X5_add (l : Launch) (D : va_G) (G : Gc) (ad : Nat → Nat → Nat) (d : Dt) (p1 : Int32) (p2 : Int32) (p3 : Int32) (p4 : Int32) (p5 : Int32) (p6 : Int32) (h0 : 0 ≤ (d.1 0 0 17).toInt) (h1 : (d.1 0 0 17).toInt ≤ 39) (h2 : 0 ≤ p2.toInt) (h3 : p2.toInt < 6) (h4 : 0 ≤ (d.1 3 0 (ix p2)).toInt) (h5 : (d.1 3 0 (ix p2)).toInt ≤ 12) : Met l yX5_add (wsU yX5_add cX5_add 7 (some .int)) ({ frames := 3, cells := 0, slots := 0, locals := 75 } : Room) (va_Pc [.ref (ad 0 0), .int p1, .int p2, .int p3, .int p4, .int p5, .int p6] (XPre D (tysG G) (MF G ad) MN ad d)) (qW (some (.int (sp_X5_add d p1 p2 p3 p4 p5 p6).1)) D (MF G ad) MN ad (sp_X5_add d p1 p2 p3 p4 p5 p6).2) 0 0 (adS MN ad) := by
  refine ent (by decide +kernel) (Nat.le_of_ble_eq_true rfl) ?_
  intro p e s m below meth c S hr hlk hpre ls hl
  have S : CallFix p m c cX5_add 7 s [.ref (ad 0 0), .int p1, .int p2, .int p3, .int p4, .int p5, .int p6].toArray wsL_law RX5 := S
  obtain ⟨hK, hN, hX⟩ := hpre
  have hl : lv_has ls 7 [(0, .ref (ad 0 0)), (1, .int p1), (2, .int p2), (3, .int p3), (4, .int p4), (5, .int p5), (6, .int p6)] := hl
  have hs := sp_X5_add.eq_1 d p1 p2 p3 p4 p5 p6
  have hS : va_S (adS MN ad) s.heap s.heap [] := va_S.rf
  refine lv_aload_n S.1 S.2.1 dX5_add_0 rfl (lv_at hl 0 rfl) ?_
  refine gf_RX5_41 S hK hX dX5_add_1 ?_
  refine lv_aload_n S.1 S.2.1 dX5_add_4 rfl (lv_at hl 0 rfl) ?_
  refine gf_RX5_176 S hK hX (v := d.1 0 0 17) rfl dX5_add_5 ?_
  refine lv_iload_n S.1 S.2.1 dX5_add_8 rfl (lv_at hl 1 rfl) ?_
  refine as_M18 S hK hX hS (by omega) (by omega) dX5_add_9 (fun H locs hX hS => ?_)
  refine lv_aload_n S.1 S.2.1 dX5_add_10 rfl (lv_at hl 0 rfl) ?_
  refine gf_RX5_44 S hK hX dX5_add_11 ?_
  refine lv_aload_n S.1 S.2.1 dX5_add_14 rfl (lv_at hl 0 rfl) ?_
  refine gf_RX5_176 S hK hX (v := d.1 0 0 17) rfl dX5_add_15 ?_
  refine lv_iload_n S.1 S.2.1 dX5_add_18 rfl (lv_at hl 2 rfl) ?_
  refine as_M19 S hK hX hS (by omega) (by omega) dX5_add_19 (fun H locs hX hS => ?_)
  refine lv_aload_n S.1 S.2.1 dX5_add_20 rfl (lv_at hl 0 rfl) ?_
  refine gf_RX5_47 S hK hX dX5_add_21 ?_
  refine lv_aload_n S.1 S.2.1 dX5_add_24 rfl (lv_at hl 0 rfl) ?_
  refine gf_RX5_176 S hK hX (v := d.1 0 0 17) rfl dX5_add_25 ?_
  refine lv_iload_n S.1 S.2.1 dX5_add_28 rfl (lv_at hl 3 rfl) ?_
  refine as_M20 S hK hX hS (by omega) (by omega) dX5_add_29 (fun H locs hX hS => ?_)
  refine lv_aload_n S.1 S.2.1 dX5_add_30 rfl (lv_at hl 0 rfl) ?_
  refine gf_RX5_50 S hK hX dX5_add_31 ?_
  refine lv_aload_n S.1 S.2.1 dX5_add_34 rfl (lv_at hl 0 rfl) ?_
  refine gf_RX5_176 S hK hX (v := d.1 0 0 17) rfl dX5_add_35 ?_
  refine lv_iload S.1 S.2.1 dX5_add_38 (lv_at hl 4 rfl) ?_
  refine as_M21 S hK hX hS (by omega) (by omega) dX5_add_40 (fun H locs hX hS => ?_)
  refine lv_aload_n S.1 S.2.1 dX5_add_41 rfl (lv_at hl 0 rfl) ?_
  refine gf_RX5_53 S hK hX dX5_add_42 ?_
  refine lv_aload_n S.1 S.2.1 dX5_add_45 rfl (lv_at hl 0 rfl) ?_
  refine gf_RX5_176 S hK hX (v := d.1 0 0 17) rfl dX5_add_46 ?_
  refine lv_iload S.1 S.2.1 dX5_add_49 (lv_at hl 5 rfl) ?_
  refine as_M22 S hK hX hS (by omega) (by omega) dX5_add_51 (fun H locs hX hS => ?_)
  refine lv_aload_n S.1 S.2.1 dX5_add_52 rfl (lv_at hl 0 rfl) ?_
  refine gf_RX5_56 S hK hX dX5_add_53 ?_
  refine lv_aload_n S.1 S.2.1 dX5_add_56 rfl (lv_at hl 0 rfl) ?_
  refine gf_RX5_176 S hK hX (v := d.1 0 0 17) rfl dX5_add_57 ?_
  refine lv_aload_n S.1 S.2.1 dX5_add_60 rfl (lv_at hl 0 rfl) ?_
  refine lv_iload_n S.1 S.2.1 dX5_add_61 rfl (lv_at hl 2 rfl) ?_
  refine lv_iload S.1 S.2.1 dX5_add_62 (lv_at hl 5 rfl) ?_
  refine lv_iload_n S.1 S.2.1 dX5_add_64 rfl (lv_at hl 3 rfl) ?_
  refine cWV (rest := [.int (d.1 0 0 17), .ref (ad 23 0)]) S (c_X5_factorAt l D G ad (uv (uv (uv (uv (uv d 18 0 (ix (d.1 0 0 17)) p1) 19 0 (ix (d.1 0 0 17)) p2) 20 0 (ix (d.1 0 0 17)) p3) 21 0 (ix (d.1 0 0 17)) p4) 22 0 (ix (d.1 0 0 17)) p5) p2 p5 p3 (by omega) (by omega) h4 h5) gV_RX5_145 ds_X5_factorAt ⟨rfl, rfl⟩ ⟨Nat.le_of_ble_eq_true rfl, Nat.le_of_ble_eq_true rfl⟩ ⟨blindX, recvX hK hX (k := 0) (i := 0) Nat.zero_lt_one rfl rfl, preX hK hN hX _⟩ rfl hl.1 rfl (Nat.le_of_ble_eq_true rfl) ⟨Nat.le_of_ble_eq_true rfl, Nat.le_of_ble_eq_true rfl⟩ dX5_add_65 hS (fun _ h => h) (fun H locs hX hS hfr => ?_)
  have g8 : (((sp_X5_factorAt (uv (uv (uv (uv (uv d 18 0 (ix (d.1 0 0 17)) p1) 19 0 (ix (d.1 0 0 17)) p2) 20 0 (ix (d.1 0 0 17)) p3) 21 0 (ix (d.1 0 0 17)) p4) 22 0 (ix (d.1 0 0 17)) p5) p2 p5 p3).2).1 0 0 17) = d.1 0 0 17 := (fa_cf _ _ _).f0
  have g7 : (((sp_X5_factorAt (uv (uv (uv (uv (uv d 18 0 (ix (d.1 0 0 17)) p1) 19 0 (ix (d.1 0 0 17)) p2) 20 0 (ix (d.1 0 0 17)) p3) 21 0 (ix (d.1 0 0 17)) p4) 22 0 (ix (d.1 0 0 17)) p5) p2 p5 p3).2).1 0 0 17).toInt = (d.1 0 0 17).toInt := by rw [g8]
  refine as_M23 S hK hX hS (by omega) (by omega) dX5_add_68 (fun H locs hX hS => ?_)
  refine lv_aload_n S.1 S.2.1 dX5_add_69 rfl (lv_at hl 0 rfl) ?_
  refine gf_RX5_59 S hK hX dX5_add_70 ?_
  refine lv_aload_n S.1 S.2.1 dX5_add_73 rfl (lv_at hl 0 rfl) ?_
  refine gf_RX5_176 S hK hX (v := ((sp_X5_factorAt (uv (uv (uv (uv (uv d 18 0 (ix (d.1 0 0 17)) p1) 19 0 (ix (d.1 0 0 17)) p2) 20 0 (ix (d.1 0 0 17)) p3) 21 0 (ix (d.1 0 0 17)) p4) 22 0 (ix (d.1 0 0 17)) p5) p2 p5 p3).2).1 0 0 17) rfl dX5_add_74 ?_
  refine lv_bipush (v := (-9)) S.1 S.2.1 dX5_add_77 (by decide) ?_
  refine as_M24 S hK hX hS (by omega) (by omega) dX5_add_79 (fun H locs hX hS => ?_)
  refine lv_aload_n S.1 S.2.1 dX5_add_80 rfl (lv_at hl 0 rfl) ?_
  refine gf_RX5_62 S hK hX dX5_add_81 ?_
  refine lv_aload_n S.1 S.2.1 dX5_add_84 rfl (lv_at hl 0 rfl) ?_
  refine gf_RX5_176 S hK hX (v := ((sp_X5_factorAt (uv (uv (uv (uv (uv d 18 0 (ix (d.1 0 0 17)) p1) 19 0 (ix (d.1 0 0 17)) p2) 20 0 (ix (d.1 0 0 17)) p3) 21 0 (ix (d.1 0 0 17)) p4) 22 0 (ix (d.1 0 0 17)) p5) p2 p5 p3).2).1 0 0 17) rfl dX5_add_85 ?_
  refine lv_iload S.1 S.2.1 dX5_add_88 (lv_at hl 6 rfl) ?_
  refine as_M25 S hK hX hS (by omega) (by omega) dX5_add_90 (fun H locs hX hS => ?_)
  refine lv_aload_n S.1 S.2.1 dX5_add_91 rfl (lv_at hl 0 rfl) ?_
  refine lv_dup S.1 S.2.1 dX5_add_92 rfl ?_
  refine gf_RX5_176 S hK hX (v := ((sp_X5_factorAt (uv (uv (uv (uv (uv d 18 0 (ix (d.1 0 0 17)) p1) 19 0 (ix (d.1 0 0 17)) p2) 20 0 (ix (d.1 0 0 17)) p3) 21 0 (ix (d.1 0 0 17)) p4) 22 0 (ix (d.1 0 0 17)) p5) p2 p5 p3).2).1 0 0 17) rfl dX5_add_93 ?_
  refine lv_iconst (v := 1) S.1 S.2.1 dX5_add_96 (by decide) ?_
  refine lv_iadd S.1 S.2.1 dX5_add_97 ?_
  refine pf_RX5_176 S hK hX hS dX5_add_98 (fun H locs hX hS => ?_)
  refine lv_aload_n S.1 S.2.1 dX5_add_101 rfl (lv_at hl 0 rfl) ?_
  refine gf_RX5_176 S hK hX (v := (((sp_X5_factorAt (uv (uv (uv (uv (uv d 18 0 (ix (d.1 0 0 17)) p1) 19 0 (ix (d.1 0 0 17)) p2) 20 0 (ix (d.1 0 0 17)) p3) 21 0 (ix (d.1 0 0 17)) p4) 22 0 (ix (d.1 0 0 17)) p5) p2 p5 p3).2).1 0 0 17) + 1) rfl dX5_add_102 ?_
  refine lv_iconst (v := 1) S.1 S.2.1 dX5_add_105 (by decide) ?_
  refine lv_isub S.1 S.2.1 dX5_add_106 ?_
  exact wI S hr hlk hs hX hS dX5_add_107
set_option maxRecDepth 100000 in
set_option maxHeartbeats 8000000 in
theorem c_X5_ticket (l : Launch) (D : va_G) (G : Gc) (ad : Nat → Nat → Nat) (d : Dt) (p1 : Int32) (p2 : Int32) (p3 : Int32) (p4 : Int32) (hI : MI d) : Met l yX5_ticket (wsU yX5_ticket cX5_ticket 5 (some .int)) ({ frames := 4, cells := 0, slots := 0, locals := 101 } : Room) (va_Pc [.ref (ad 0 0), .int p1, .int p2, .int p3, .int p4] (XPre D (tysG G) (MF G ad) MN ad d)) (qW (some (.int (sp_X5_ticket d p1 p2 p3 p4).1)) D (MF G ad) MN ad (sp_X5_ticket d p1 p2 p3 p4).2) 0 0 (adS MN ad) := by
  refine ent (by decide +kernel) (Nat.le_of_ble_eq_true rfl) ?_
  intro p e s m below meth c S hr hlk hpre ls hl
  have S : CallFix p m c cX5_ticket 5 s [.ref (ad 0 0), .int p1, .int p2, .int p3, .int p4].toArray wsL_law RX5 := S
  obtain ⟨hK, hN, hX⟩ := hpre
  have hl : lv_has ls 5 [(0, .ref (ad 0 0)), (1, .int p1), (2, .int p2), (3, .int p3), (4, .int p4)] := hl
  have hs := sp_X5_ticket.eq_1 d p1 p2 p3 p4
  have hS : va_S (adS MN ad) s.heap s.heap [] := va_S.rf
  have q1 := hI.1
  have q2 := hI.2.2.1
  have q3 := hI.2.2.2.1
  have q4 := hI.2.2.2.2.1
  refine lv_aload_n S.1 S.2.1 dX5_ticket_0 rfl (lv_at hl 0 rfl) ?_
  refine lv_iload_n S.1 S.2.1 dX5_ticket_1 rfl (lv_at hl 1 rfl) ?_
  refine cPV (rest := []) S (c_X5_noMeter l D G ad d p1) gV_RX5_115 ds_X5_noMeter ⟨rfl, rfl⟩ ⟨Nat.le_of_ble_eq_true rfl, Nat.le_of_ble_eq_true rfl⟩ ⟨blindX, recvX hK hX (k := 0) (i := 0) Nat.zero_lt_one rfl rfl, preX hK hN hX _⟩ rfl hl.1 rfl (Nat.le_of_ble_eq_true rfl) ⟨Nat.le_of_ble_eq_true rfl, Nat.le_of_ble_eq_true rfl⟩ dX5_ticket_2 ?_
  refine q_if_eq_b (tgt := 10) S dX5_ticket_5 (by decide) (fun c1 => ?_) (fun c1 => ?_)
  · have hs := hs.trans (cif_f c1)
    have f2 := nm_of hI c1
    refine lv_iload_n S.1 S.2.1 dX5_ticket_10 rfl (lv_at hl 2 rfl) ?_
    refine cPS (rest := []) S (c_X5_isDay l p2) gS_RX5_122 ds_X5_isDay.2 ⟨rfl, rfl⟩ ⟨Nat.le_of_ble_eq_true rfl, Nat.le_of_ble_eq_true rfl⟩ rfl hl.1 rfl (Nat.le_of_ble_eq_true rfl) ⟨Nat.le_of_ble_eq_true rfl, Nat.le_of_ble_eq_true rfl⟩ dX5_ticket_11 ?_
    refine q_if_eq_b (tgt := 37) S dX5_ticket_14 (by decide) (fun c3 => ?_) (fun c3 => ?_)
    · have hs := hs.trans (cif_f c3)
      refine lv_bipush (v := (-2)) S.1 S.2.1 dX5_ticket_37 (by decide) ?_
      exact wI S hr hlk hs hX hS dX5_ticket_39
    · have hs := hs.trans (cif_t c3)
      refine lv_iload_n S.1 S.2.1 dX5_ticket_17 rfl (lv_at hl 3 rfl) ?_
      refine lv_i2l S.1 S.2.1 dX5_ticket_18 rfl ?_
      refine lv_lconst (v := 0) S.1 S.2.1 dX5_ticket_19 (by decide) ?_
      refine lv_ldc2 S.1 S.2.1 S.2.2.2.1 (S.2.2.2.2 _ wKL_RX5_179) dX5_ticket_20 ?_
      refine cPS (rest := []) S (c_X5_in l p3.toInt64 0 10000000) gS_RX5_101 ds_X5_in.2 ⟨rfl, rfl⟩ ⟨Nat.le_of_ble_eq_true rfl, Nat.le_of_ble_eq_true rfl⟩ rfl hl.1 rfl (Nat.le_of_ble_eq_true rfl) ⟨Nat.le_of_ble_eq_true rfl, Nat.le_of_ble_eq_true rfl⟩ dX5_ticket_23 ?_
      refine q_if_eq_b (tgt := 37) S dX5_ticket_26 (by decide) (fun c4 => ?_) (fun c4 => ?_)
      · have hs := hs.trans (cif_f c4)
        refine lv_bipush (v := (-2)) S.1 S.2.1 dX5_ticket_37 (by decide) ?_
        exact wI S hr hlk hs hX hS dX5_ticket_39
      · have hs := hs.trans (cif_t c4)
        refine lv_iload S.1 S.2.1 dX5_ticket_29 (lv_at hl 4 rfl) ?_
        refine cPS (rest := []) S (c_X5_isFlow l p4) gS_RX5_119 ds_X5_isFlow.2 ⟨rfl, rfl⟩ ⟨Nat.le_of_ble_eq_true rfl, Nat.le_of_ble_eq_true rfl⟩ rfl hl.1 rfl (Nat.le_of_ble_eq_true rfl) ⟨Nat.le_of_ble_eq_true rfl, Nat.le_of_ble_eq_true rfl⟩ dX5_ticket_31 ?_
        refine q_if_ne_b (tgt := 40) S dX5_ticket_34 (by decide) (fun c5 => ?_) (fun c5 => ?_)
        · have hs := hs.trans (cif_t c5)
          refine lv_aload_n S.1 S.2.1 dX5_ticket_40 rfl (lv_at hl 0 rfl) ?_
          refine lv_iload_n S.1 S.2.1 dX5_ticket_41 rfl (lv_at hl 2 rfl) ?_
          refine cPV (rest := []) S (c_X5_isShut l D G ad d p2) gV_RX5_181 ds_X5_isShut ⟨rfl, rfl⟩ ⟨Nat.le_of_ble_eq_true rfl, Nat.le_of_ble_eq_true rfl⟩ ⟨blindX, recvX hK hX (k := 0) (i := 0) Nat.zero_lt_one rfl rfl, preX hK hN hX _⟩ rfl hl.1 rfl (Nat.le_of_ble_eq_true rfl) ⟨Nat.le_of_ble_eq_true rfl, Nat.le_of_ble_eq_true rfl⟩ dX5_ticket_42 ?_
          refine q_if_eq_b (tgt := 51) S dX5_ticket_45 (by decide) (fun c6 => ?_) (fun c6 => ?_)
          · have hs := hs.trans (cif_f c6)
            refine lv_aload_n S.1 S.2.1 dX5_ticket_51 rfl (lv_at hl 0 rfl) ?_
            refine gf_RX5_176 S hK hX (v := d.1 0 0 17) rfl dX5_ticket_52 ?_
            refine lv_bipush (v := 40) S.1 S.2.1 dX5_ticket_55 (by decide) ?_
            refine q_icmp_ne (tgt := 65) (xi := (d.1 0 0 17).toInt) (yi := 40) S rfl rfl dX5_ticket_57 (by decide) (fun c7 => ?_) (fun c7 => ?_)
            · have hs := hs.trans (cif_f c7)
              refine lv_aload_n S.1 S.2.1 dX5_ticket_65 rfl (lv_at hl 0 rfl) ?_
              refine lv_iconst (v := 0) S.1 S.2.1 dX5_ticket_66 (by decide) ?_
              refine lv_iload_n S.1 S.2.1 dX5_ticket_67 rfl (lv_at hl 1 rfl) ?_
              refine lv_iload_n S.1 S.2.1 dX5_ticket_68 rfl (lv_at hl 2 rfl) ?_
              refine lv_iload_n S.1 S.2.1 dX5_ticket_69 rfl (lv_at hl 3 rfl) ?_
              refine lv_iload S.1 S.2.1 dX5_ticket_70 (lv_at hl 4 rfl) ?_
              refine lv_bipush (v := (-9)) S.1 S.2.1 dX5_ticket_72 (by decide) ?_
              have g1 := hI.mn (x := p1) (by omega) (by omega)
              refine cWV (rest := []) S (c_X5_add l D G ad d 0 p1 p2 p3 p4 (-9) (by omega) (by omega) (by omega) (by omega) (by omega) (by omega)) gV_RX5_184 ds_X5_add ⟨rfl, rfl⟩ ⟨Nat.le_of_ble_eq_true rfl, Nat.le_of_ble_eq_true rfl⟩ ⟨blindX, recvX hK hX (k := 0) (i := 0) Nat.zero_lt_one rfl rfl, preX hK hN hX _⟩ rfl hl.1 rfl (Nat.le_of_ble_eq_true rfl) ⟨Nat.le_of_ble_eq_true rfl, Nat.le_of_ble_eq_true rfl⟩ dX5_ticket_74 hS (fun _ h => h) (fun H locs hX hS hfr => ?_)
              exact wI S hr hlk hs hX hS dX5_ticket_77
            · have hs := hs.trans (cif_t c7)
              refine lv_bipush (v := (-4)) S.1 S.2.1 dX5_ticket_60 (by decide) ?_
              refine lv_goto (tgt := 77) S.1 S.2.1 dX5_ticket_62 (by decide) ?_
              exact wI S hr hlk hs hX hS dX5_ticket_77
          · have hs := hs.trans (cif_t c6)
            refine lv_bipush (v := (-3)) S.1 S.2.1 dX5_ticket_48 (by decide) ?_
            exact wI S hr hlk hs hX hS dX5_ticket_50
        · have hs := hs.trans (cif_f c5)
          refine lv_bipush (v := (-2)) S.1 S.2.1 dX5_ticket_37 (by decide) ?_
          exact wI S hr hlk hs hX hS dX5_ticket_39
  · have hs := hs.trans (cif_t c1)
    refine lv_iconst (v := (-1)) S.1 S.2.1 dX5_ticket_8 (by decide) ?_
    exact wI S hr hlk hs hX hS dX5_ticket_9
set_option maxRecDepth 100000 in
set_option maxHeartbeats 8000000 in
theorem c_X5_right (l : Launch) (D : va_G) (G : Gc) (ad : Nat → Nat → Nat) (d : Dt) (p1 : Int32) (p2 : Int32) (hI : MI d) : Met l yX5_right (wsU yX5_right cX5_right 3 (some .int)) ({ frames := 4, cells := 0, slots := 0, locals := 101 } : Room) (va_Pc [.ref (ad 0 0), .int p1, .int p2] (XPre D (tysG G) (MF G ad) MN ad d)) (qW (some (.int (sp_X5_right d p1 p2).1)) D (MF G ad) MN ad (sp_X5_right d p1 p2).2) 0 0 (adS MN ad) := by
  refine ent (by decide +kernel) (Nat.le_of_ble_eq_true rfl) ?_
  intro p e s m below meth c S hr hlk hpre ls hl
  have S : CallFix p m c cX5_right 3 s [.ref (ad 0 0), .int p1, .int p2].toArray wsL_law RX5 := S
  obtain ⟨hK, hN, hX⟩ := hpre
  have hl : lv_has ls 3 [(0, .ref (ad 0 0)), (1, .int p1), (2, .int p2)] := hl
  have hs := sp_X5_right.eq_1 d p1 p2
  have hS : va_S (adS MN ad) s.heap s.heap [] := va_S.rf
  have q1 := hI.1
  have q2 := hI.2.2.1
  have q3 := hI.2.2.2.1
  have q4 := hI.2.2.2.2.1
  refine lv_aload_n S.1 S.2.1 dX5_right_0 rfl (lv_at hl 0 rfl) ?_
  refine lv_iload_n S.1 S.2.1 dX5_right_1 rfl (lv_at hl 1 rfl) ?_
  refine cPV (rest := []) S (c_X5_noTicket l D G ad d p1) gV_RX5_188 ds_X5_noTicket ⟨rfl, rfl⟩ ⟨Nat.le_of_ble_eq_true rfl, Nat.le_of_ble_eq_true rfl⟩ ⟨blindX, recvX hK hX (k := 0) (i := 0) Nat.zero_lt_one rfl rfl, preX hK hN hX _⟩ rfl hl.1 rfl (Nat.le_of_ble_eq_true rfl) ⟨Nat.le_of_ble_eq_true rfl, Nat.le_of_ble_eq_true rfl⟩ dX5_right_2 ?_
  refine q_if_eq_b (tgt := 10) S dX5_right_5 (by decide) (fun c1 => ?_) (fun c1 => ?_)
  · have hs := hs.trans (cif_f c1)
    have f2 := nt_of hI c1
    refine lv_iload_n S.1 S.2.1 dX5_right_10 rfl (lv_at hl 2 rfl) ?_
    refine lv_i2l S.1 S.2.1 dX5_right_11 rfl ?_
    refine lv_lconst (v := 0) S.1 S.2.1 dX5_right_12 (by decide) ?_
    refine lv_ldc2 S.1 S.2.1 S.2.2.2.1 (S.2.2.2.2 _ wKL_RX5_179) dX5_right_13 ?_
    refine cPS (rest := []) S (c_X5_in l p2.toInt64 0 10000000) gS_RX5_101 ds_X5_in.2 ⟨rfl, rfl⟩ ⟨Nat.le_of_ble_eq_true rfl, Nat.le_of_ble_eq_true rfl⟩ rfl hl.1 rfl (Nat.le_of_ble_eq_true rfl) ⟨Nat.le_of_ble_eq_true rfl, Nat.le_of_ble_eq_true rfl⟩ dX5_right_16 ?_
    refine q_if_ne_b (tgt := 25) S dX5_right_19 (by decide) (fun c3 => ?_) (fun c3 => ?_)
    · have hs := hs.trans (cif_t c3)
      refine lv_aload_n S.1 S.2.1 dX5_right_25 rfl (lv_at hl 0 rfl) ?_
      refine gf_RX5_59 S hK hX dX5_right_26 ?_
      refine lv_iload_n S.1 S.2.1 dX5_right_29 rfl (lv_at hl 1 rfl) ?_
      refine al_M24 S hK hX (by omega) (by omega) (z := d.1 24 0 (ix p1)) rfl dX5_right_30 ?_
      refine q_if_ge (tgt := 47) (xi := (d.1 24 0 (ix p1)).toInt) S rfl dX5_right_31 (by decide) (fun c4 => ?_) (fun c4 => ?_)
      · have hs := hs.trans (cif_t c4)
        refine lv_bipush (v := (-3)) S.1 S.2.1 dX5_right_47 (by decide) ?_
        exact wI S hr hlk hs hX hS dX5_right_49
      · have hs := hs.trans (cif_f c4)
        refine lv_aload_n S.1 S.2.1 dX5_right_34 rfl (lv_at hl 0 rfl) ?_
        refine lv_aload_n S.1 S.2.1 dX5_right_35 rfl (lv_at hl 0 rfl) ?_
        refine gf_RX5_47 S hK hX dX5_right_36 ?_
        refine lv_iload_n S.1 S.2.1 dX5_right_39 rfl (lv_at hl 1 rfl) ?_
        refine al_M20 S hK hX (by omega) (by omega) (z := d.1 20 0 (ix p1)) rfl dX5_right_40 ?_
        refine cPV (rest := []) S (c_X5_isShut l D G ad d (d.1 20 0 (ix p1))) gV_RX5_181 ds_X5_isShut ⟨rfl, rfl⟩ ⟨Nat.le_of_ble_eq_true rfl, Nat.le_of_ble_eq_true rfl⟩ ⟨blindX, recvX hK hX (k := 0) (i := 0) Nat.zero_lt_one rfl rfl, preX hK hN hX _⟩ rfl hl.1 rfl (Nat.le_of_ble_eq_true rfl) ⟨Nat.le_of_ble_eq_true rfl, Nat.le_of_ble_eq_true rfl⟩ dX5_right_41 ?_
        refine q_if_eq_b (tgt := 50) S dX5_right_44 (by decide) (fun c5 => ?_) (fun c5 => ?_)
        · have hs := hs.trans (cif_f c5)
          refine lv_aload_n S.1 S.2.1 dX5_right_50 rfl (lv_at hl 0 rfl) ?_
          refine gf_RX5_176 S hK hX (v := d.1 0 0 17) rfl dX5_right_51 ?_
          refine lv_bipush (v := 40) S.1 S.2.1 dX5_right_54 (by decide) ?_
          refine q_icmp_ne (tgt := 62) (xi := (d.1 0 0 17).toInt) (yi := 40) S rfl rfl dX5_right_56 (by decide) (fun c6 => ?_) (fun c6 => ?_)
          · have hs := hs.trans (cif_f c6)
            have g1 := hI.mt (x := p1) (by omega) (by omega)
            have g2 := hI.mn (x := d.1 19 0 (ix p1)) (by omega) (by omega)
            refine lv_aload_n S.1 S.2.1 dX5_right_62 rfl (lv_at hl 0 rfl) ?_
            refine gf_RX5_59 S hK hX dX5_right_63 ?_
            refine lv_iload_n S.1 S.2.1 dX5_right_66 rfl (lv_at hl 1 rfl) ?_
            refine lv_aload_n S.1 S.2.1 dX5_right_67 rfl (lv_at hl 0 rfl) ?_
            refine gf_RX5_176 S hK hX (v := d.1 0 0 17) rfl dX5_right_68 ?_
            refine as_M24 S hK hX hS (by omega) (by omega) dX5_right_71 (fun H locs hX hS => ?_)
            refine lv_aload_n S.1 S.2.1 dX5_right_72 rfl (lv_at hl 0 rfl) ?_
            refine lv_iconst (v := 1) S.1 S.2.1 dX5_right_73 (by decide) ?_
            refine lv_aload_n S.1 S.2.1 dX5_right_74 rfl (lv_at hl 0 rfl) ?_
            refine gf_RX5_44 S hK hX dX5_right_75 ?_
            refine lv_iload_n S.1 S.2.1 dX5_right_78 rfl (lv_at hl 1 rfl) ?_
            refine al_M19 S hK hX (by omega) (by omega) (z := d.1 19 0 (ix p1)) rfl dX5_right_79 ?_
            refine lv_aload_n S.1 S.2.1 dX5_right_80 rfl (lv_at hl 0 rfl) ?_
            refine gf_RX5_47 S hK hX dX5_right_81 ?_
            refine lv_iload_n S.1 S.2.1 dX5_right_84 rfl (lv_at hl 1 rfl) ?_
            refine al_M20 S hK hX (by omega) (by omega) (z := d.1 20 0 (ix p1)) rfl dX5_right_85 ?_
            refine lv_iload_n S.1 S.2.1 dX5_right_86 rfl (lv_at hl 2 rfl) ?_
            refine lv_aload_n S.1 S.2.1 dX5_right_87 rfl (lv_at hl 0 rfl) ?_
            refine gf_RX5_53 S hK hX dX5_right_88 ?_
            refine lv_iload_n S.1 S.2.1 dX5_right_91 rfl (lv_at hl 1 rfl) ?_
            refine al_M22 S hK hX (by omega) (by omega) (z := d.1 22 0 (ix p1)) rfl dX5_right_92 ?_
            refine lv_iload_n S.1 S.2.1 dX5_right_93 rfl (lv_at hl 1 rfl) ?_
            refine cWV (rest := []) S (c_X5_add l D G ad (uv d 24 0 (ix p1) (d.1 0 0 17)) 1 (d.1 19 0 (ix p1)) (d.1 20 0 (ix p1)) p2 (d.1 22 0 (ix p1)) p1 q4.1 (by show (d.1 0 0 17).toInt ≤ 39; omega) (by omega) (by omega) g2.1 g2.2) gV_RX5_184 ds_X5_add ⟨rfl, rfl⟩ ⟨Nat.le_of_ble_eq_true rfl, Nat.le_of_ble_eq_true rfl⟩ ⟨blindX, recvX hK hX (k := 0) (i := 0) Nat.zero_lt_one rfl rfl, preX hK hN hX _⟩ rfl hl.1 rfl (Nat.le_of_ble_eq_true rfl) ⟨Nat.le_of_ble_eq_true rfl, Nat.le_of_ble_eq_true rfl⟩ dX5_right_94 hS (fun _ h => h) (fun H locs hX hS hfr => ?_)
            exact wI S hr hlk hs hX hS dX5_right_97
          · have hs := hs.trans (cif_t c6)
            refine lv_bipush (v := (-4)) S.1 S.2.1 dX5_right_59 (by decide) ?_
            exact wI S hr hlk hs hX hS dX5_right_61
        · have hs := hs.trans (cif_t c5)
          refine lv_bipush (v := (-3)) S.1 S.2.1 dX5_right_47 (by decide) ?_
          exact wI S hr hlk hs hX hS dX5_right_49
    · have hs := hs.trans (cif_f c3)
      refine lv_bipush (v := (-2)) S.1 S.2.1 dX5_right_22 (by decide) ?_
      exact wI S hr hlk hs hX hS dX5_right_24
  · have hs := hs.trans (cif_t c1)
    refine lv_iconst (v := (-1)) S.1 S.2.1 dX5_right_8 (by decide) ?_
    exact wI S hr hlk hs hX hS dX5_right_9
set_option maxRecDepth 100000 in
set_option maxHeartbeats 8000000 in
theorem c_X5_areDays (l : Launch) (p0 : Int32) (p1 : Int32) : Met l yX5_areDays (wsU yX5_areDays cX5_areDays 2 (some .boolean)) ({ frames := 2, cells := 0, slots := 0, locals := 45 } : Room) (va_Pc [.int p0, .int p1] (fun _ => True)) (qV (some (.int (b2i (sp_X5_areDays p0 p1))))) 0 0 (fun _ => False) := by
  refine ent (by decide +kernel) (Nat.le_of_ble_eq_true rfl) ?_
  intro p e s m below meth c S hr hlk hpre ls hl
  have S : CallFix p m c cX5_areDays 2 s [.int p0, .int p1].toArray wsL_law RX5 := S
  have hl : lv_has ls 2 [(0, .int p0), (1, .int p1)] := hl
  have hs := sp_X5_areDays.eq_1 p0 p1
  refine lv_iload_n S.1 S.2.1 dX5_areDays_0 rfl (lv_at hl 0 rfl) ?_
  refine cPS (rest := []) S (c_X5_isDay l p0) gS_RX5_122 ds_X5_isDay.2 ⟨rfl, rfl⟩ ⟨Nat.le_of_ble_eq_true rfl, Nat.le_of_ble_eq_true rfl⟩ rfl hl.1 rfl (Nat.le_of_ble_eq_true rfl) ⟨Nat.le_of_ble_eq_true rfl, Nat.le_of_ble_eq_true rfl⟩ dX5_areDays_1 ?_
  refine q_if_eq_b (tgt := 23) S dX5_areDays_4 (by decide) (fun c1 => ?_) (fun c1 => ?_)
  · have hs := hs.trans (cif_f c1)
    refine lv_iconst (v := 0) S.1 S.2.1 dX5_areDays_23 (by decide) ?_
    exact rZ S hr hlk hs b2i_F.symm dX5_areDays_24
  · have hs := hs.trans (cif_t c1)
    refine lv_iload_n S.1 S.2.1 dX5_areDays_7 rfl (lv_at hl 1 rfl) ?_
    refine cPS (rest := []) S (c_X5_isDay l p1) gS_RX5_122 ds_X5_isDay.2 ⟨rfl, rfl⟩ ⟨Nat.le_of_ble_eq_true rfl, Nat.le_of_ble_eq_true rfl⟩ rfl hl.1 rfl (Nat.le_of_ble_eq_true rfl) ⟨Nat.le_of_ble_eq_true rfl, Nat.le_of_ble_eq_true rfl⟩ dX5_areDays_8 ?_
    refine q_if_eq_b (tgt := 23) S dX5_areDays_11 (by decide) (fun c2 => ?_) (fun c2 => ?_)
    · have hs := hs.trans (cif_f c2)
      refine lv_iconst (v := 0) S.1 S.2.1 dX5_areDays_23 (by decide) ?_
      exact rZ S hr hlk hs b2i_F.symm dX5_areDays_24
    · have hs := hs.trans (cif_t c2)
      refine lv_iload_n S.1 S.2.1 dX5_areDays_14 rfl (lv_at hl 0 rfl) ?_
      refine lv_iload_n S.1 S.2.1 dX5_areDays_15 rfl (lv_at hl 1 rfl) ?_
      refine q_icmp_gt (tgt := 23) (xi := p0.toInt) (yi := p1.toInt) S rfl rfl dX5_areDays_16 (by decide) (fun c3 => ?_) (fun c3 => ?_)
      · have hs := hs.trans (cif_t c3)
        refine lv_iconst (v := 0) S.1 S.2.1 dX5_areDays_23 (by decide) ?_
        exact rZ S hr hlk hs b2i_F.symm dX5_areDays_24
      · have hs := hs.trans (cif_f c3)
        refine lv_iconst (v := 1) S.1 S.2.1 dX5_areDays_19 (by decide) ?_
        refine lv_goto (tgt := 24) S.1 S.2.1 dX5_areDays_20 (by decide) ?_
        exact rZ S hr hlk hs b2i_T.symm dX5_areDays_24
set_option maxRecDepth 100000 in
set_option maxHeartbeats 8000000 in
theorem c_X5_isStale (l : Launch) (D : va_G) (G : Gc) (ad : Nat → Nat → Nat) (d : Dt) (p1 : Int32) (p2 : Int32) (p3 : Int32) (p4 : Int32) (hI : MI d) (h0 : 0 ≤ p1.toInt) (h1 : p1.toInt < (d.1 0 0 17).toInt) (h2 : 0 ≤ p2.toInt) (h3 : p2.toInt < (d.1 0 0 1).toInt) : Met l yX5_isStale (wsU yX5_isStale cX5_isStale 5 (some .boolean)) ({ frames := 3, cells := 0, slots := 0, locals := 75 } : Room) (va_Pc [.ref (ad 0 0), .int p1, .int p2, .int p3, .int p4] (XPre D (tysG G) (MF G ad) MN ad d)) (qW (some (.int (b2i (sp_X5_isStale d p1 p2 p3 p4).1))) D (MF G ad) MN ad (sp_X5_isStale d p1 p2 p3 p4).2) 0 0 (adS MN ad) := by
  refine ent (by decide +kernel) (Nat.le_of_ble_eq_true rfl) ?_
  intro p e s m below meth c S hr hlk hpre ls hl
  have S : CallFix p m c cX5_isStale 5 s [.ref (ad 0 0), .int p1, .int p2, .int p3, .int p4].toArray wsL_law RX5 := S
  obtain ⟨hK, hN, hX⟩ := hpre
  have hl : lv_has ls 5 [(0, .ref (ad 0 0)), (1, .int p1), (2, .int p2), (3, .int p3), (4, .int p4)] := hl
  have hs := sp_X5_isStale.eq_1 d p1 p2 p3 p4
  have hS : va_S (adS MN ad) s.heap s.heap [] := va_S.rf
  have q1 := hI.1
  have q2 := hI.2.2.1
  have q3 := hI.2.2.2.1
  have q4 := hI.2.2.2.2.1
  refine lv_aload_n S.1 S.2.1 dX5_isStale_0 rfl (lv_at hl 0 rfl) ?_
  refine gf_RX5_44 S hK hX dX5_isStale_1 ?_
  refine lv_iload_n S.1 S.2.1 dX5_isStale_4 rfl (lv_at hl 1 rfl) ?_
  refine al_M19 S hK hX (by omega) (by omega) (z := d.1 19 0 (ix p1)) rfl dX5_isStale_5 ?_
  refine lv_iload_n S.1 S.2.1 dX5_isStale_6 rfl (lv_at hl 2 rfl) ?_
  refine q_icmp_ne (tgt := 67) (xi := (d.1 19 0 (ix p1)).toInt) (yi := p2.toInt) S rfl rfl dX5_isStale_7 (by decide) (fun c1 => ?_) (fun c1 => ?_)
  · have hs := hs.trans (cif_f c1)
    refine lv_iconst (v := 0) S.1 S.2.1 dX5_isStale_67 (by decide) ?_
    exact wZ S hr hlk hs b2i_F.symm hX hS dX5_isStale_68
  · have hs := hs.trans (cif_t c1)
    refine lv_aload_n S.1 S.2.1 dX5_isStale_10 rfl (lv_at hl 0 rfl) ?_
    refine gf_RX5_47 S hK hX dX5_isStale_11 ?_
    refine lv_iload_n S.1 S.2.1 dX5_isStale_14 rfl (lv_at hl 1 rfl) ?_
    refine al_M20 S hK hX (by omega) (by omega) (z := d.1 20 0 (ix p1)) rfl dX5_isStale_15 ?_
    refine lv_i2l S.1 S.2.1 dX5_isStale_16 rfl ?_
    refine lv_iload_n S.1 S.2.1 dX5_isStale_17 rfl (lv_at hl 3 rfl) ?_
    refine lv_i2l S.1 S.2.1 dX5_isStale_18 rfl ?_
    refine lv_iload S.1 S.2.1 dX5_isStale_19 (lv_at hl 4 rfl) ?_
    refine lv_i2l S.1 S.2.1 dX5_isStale_21 rfl ?_
    refine cPS (rest := []) S (c_X5_in l ((d.1 20 0 (ix p1)).toInt64) p3.toInt64 p4.toInt64) gS_RX5_101 ds_X5_in.2 ⟨rfl, rfl⟩ ⟨Nat.le_of_ble_eq_true rfl, Nat.le_of_ble_eq_true rfl⟩ rfl hl.1 rfl (Nat.le_of_ble_eq_true rfl) ⟨Nat.le_of_ble_eq_true rfl, Nat.le_of_ble_eq_true rfl⟩ dX5_isStale_22 ?_
    refine q_if_eq_b (tgt := 67) S dX5_isStale_25 (by decide) (fun c2 => ?_) (fun c2 => ?_)
    · have hs := hs.trans (cif_f c2)
      refine lv_iconst (v := 0) S.1 S.2.1 dX5_isStale_67 (by decide) ?_
      exact wZ S hr hlk hs b2i_F.symm hX hS dX5_isStale_68
    · have hs := hs.trans (cif_t c2)
      refine lv_aload_n S.1 S.2.1 dX5_isStale_28 rfl (lv_at hl 0 rfl) ?_
      refine gf_RX5_59 S hK hX dX5_isStale_29 ?_
      refine lv_iload_n S.1 S.2.1 dX5_isStale_32 rfl (lv_at hl 1 rfl) ?_
      refine al_M24 S hK hX (by omega) (by omega) (z := d.1 24 0 (ix p1)) rfl dX5_isStale_33 ?_
      refine q_if_ge (tgt := 67) (xi := (d.1 24 0 (ix p1)).toInt) S rfl dX5_isStale_34 (by decide) (fun c3 => ?_) (fun c3 => ?_)
      · have hs := hs.trans (cif_t c3)
        refine lv_iconst (v := 0) S.1 S.2.1 dX5_isStale_67 (by decide) ?_
        exact wZ S hr hlk hs b2i_F.symm hX hS dX5_isStale_68
      · have hs := hs.trans (cif_f c3)
        refine lv_aload_n S.1 S.2.1 dX5_isStale_37 rfl (lv_at hl 0 rfl) ?_
        refine gf_RX5_56 S hK hX dX5_isStale_38 ?_
        refine lv_iload_n S.1 S.2.1 dX5_isStale_41 rfl (lv_at hl 1 rfl) ?_
        refine al_M23 S hK hX (by omega) (by omega) (z := d.1 23 0 (ix p1)) rfl dX5_isStale_42 ?_
        refine lv_aload_n S.1 S.2.1 dX5_isStale_43 rfl (lv_at hl 0 rfl) ?_
        refine lv_iload_n S.1 S.2.1 dX5_isStale_44 rfl (lv_at hl 2 rfl) ?_
        refine lv_aload_n S.1 S.2.1 dX5_isStale_45 rfl (lv_at hl 0 rfl) ?_
        refine gf_RX5_53 S hK hX dX5_isStale_46 ?_
        refine lv_iload_n S.1 S.2.1 dX5_isStale_49 rfl (lv_at hl 1 rfl) ?_
        refine al_M22 S hK hX (by omega) (by omega) (z := d.1 22 0 (ix p1)) rfl dX5_isStale_50 ?_
        refine lv_aload_n S.1 S.2.1 dX5_isStale_51 rfl (lv_at hl 0 rfl) ?_
        refine gf_RX5_47 S hK hX dX5_isStale_52 ?_
        refine lv_iload_n S.1 S.2.1 dX5_isStale_55 rfl (lv_at hl 1 rfl) ?_
        refine al_M20 S hK hX (by omega) (by omega) (z := d.1 20 0 (ix p1)) rfl dX5_isStale_56 ?_
        have g1 := hI.mn (x := p2) (by omega) (by omega)
        refine cWV (rest := [.int (d.1 23 0 (ix p1))]) S (c_X5_factorAt l D G ad d p2 (d.1 22 0 (ix p1)) (d.1 20 0 (ix p1)) (by omega) (by omega) (by omega) (by omega)) gV_RX5_145 ds_X5_factorAt ⟨rfl, rfl⟩ ⟨Nat.le_of_ble_eq_true rfl, Nat.le_of_ble_eq_true rfl⟩ ⟨blindX, recvX hK hX (k := 0) (i := 0) Nat.zero_lt_one rfl rfl, preX hK hN hX _⟩ rfl hl.1 rfl (Nat.le_of_ble_eq_true rfl) ⟨Nat.le_of_ble_eq_true rfl, Nat.le_of_ble_eq_true rfl⟩ dX5_isStale_57 hS (fun _ h => h) (fun H locs hX hS hfr => ?_)
        refine q_icmp_eq (tgt := 67) (xi := (d.1 23 0 (ix p1)).toInt) (yi := ((sp_X5_factorAt d p2 (d.1 22 0 (ix p1)) (d.1 20 0 (ix p1))).1).toInt) S rfl rfl dX5_isStale_60 (by decide) (fun c4 => ?_) (fun c4 => ?_)
        · have hs := hs.trans (cif_t c4)
          refine lv_iconst (v := 0) S.1 S.2.1 dX5_isStale_67 (by decide) ?_
          exact wZ S hr hlk hs b2i_F.symm hX hS dX5_isStale_68
        · have hs := hs.trans (cif_f c4)
          refine lv_iconst (v := 1) S.1 S.2.1 dX5_isStale_63 (by decide) ?_
          refine lv_goto (tgt := 68) S.1 S.2.1 dX5_isStale_64 (by decide) ?_
          exact wZ S hr hlk hs b2i_T.symm hX hS dX5_isStale_68
set_option maxRecDepth 100000 in
set_option maxHeartbeats 8000000 in
theorem c_X5_ticketed (l : Launch) (D : va_G) (G : Gc) (ad : Nat → Nat → Nat) (d : Dt) (p1 : Int32) (p2 : Int32) (hI : MI d) : Met l yX5_ticketed (wsU yX5_ticketed cX5_ticketed 3 (some .int)) ({ frames := 2, cells := 0, slots := 0, locals := 46 } : Room) (va_Pc [.ref (ad 0 0), .int p1, .int p2] (XPre D (tysG G) (MF G ad) MN ad d)) (qV (some (.int (sp_X5_ticketed d p1 p2)))) 0 0 (fun _ => False) := by
  refine ent (by decide +kernel) (Nat.le_of_ble_eq_true rfl) ?_
  intro p e s m below meth c S hr hlk hpre ls hl
  have S : CallFix p m c cX5_ticketed 3 s [.ref (ad 0 0), .int p1, .int p2].toArray wsL_law RX5 := S
  obtain ⟨hK, hN, hX⟩ := hpre
  have hl : lv_has ls 3 [(0, .ref (ad 0 0)), (1, .int p1), (2, .int p2)] := hl
  have hs := sp_X5_ticketed.eq_1 d p1 p2
  have q1 := hI.1
  have q2 := hI.2.2.1
  have q3 := hI.2.2.2.1
  have q4 := hI.2.2.2.2.1
  refine lv_aload_n S.1 S.2.1 dX5_ticketed_0 rfl (lv_at hl 0 rfl) ?_
  refine lv_iload_n S.1 S.2.1 dX5_ticketed_1 rfl (lv_at hl 1 rfl) ?_
  refine cPV (rest := []) S (c_X5_noTicket l D G ad d p1) gV_RX5_188 ds_X5_noTicket ⟨rfl, rfl⟩ ⟨Nat.le_of_ble_eq_true rfl, Nat.le_of_ble_eq_true rfl⟩ ⟨blindX, recvX hK hX (k := 0) (i := 0) Nat.zero_lt_one rfl rfl, preX hK hN hX _⟩ rfl hl.1 rfl (Nat.le_of_ble_eq_true rfl) ⟨Nat.le_of_ble_eq_true rfl, Nat.le_of_ble_eq_true rfl⟩ dX5_ticketed_2 ?_
  refine q_if_eq_b (tgt := 10) S dX5_ticketed_5 (by decide) (fun c1 => ?_) (fun c1 => ?_)
  · have hs := hs.trans (cif_f c1)
    have f2 := nt_of hI c1
    refine lv_iload_n S.1 S.2.1 dX5_ticketed_10 rfl (lv_at hl 2 rfl) ?_
    by_cases c3 : p2.toInt = 0
    · have hs := hs.trans (cif_t c3)
      refine lv_tableIn (tgt := 56) (off := 45) S.1 S.2.1 dX5_ticketed_11 (by show ¬ p2.toInt < (0 : Int); omega) (by show ¬ (7 : Int) < p2.toInt; omega) (by rw [c3]; rfl) (by decide) ?_
      refine lv_aload_n S.1 S.2.1 dX5_ticketed_56 rfl (lv_at hl 0 rfl) ?_
      refine gf_RX5_41 S hK hX dX5_ticketed_57 ?_
      refine lv_iload_n S.1 S.2.1 dX5_ticketed_60 rfl (lv_at hl 1 rfl) ?_
      refine al_M18 S hK hX (by omega) (by omega) (z := d.1 18 0 (ix p1)) rfl dX5_ticketed_61 ?_
      exact rI S hr hlk hs dX5_ticketed_62
    · have hs := hs.trans (cif_f c3)
      by_cases c4 : p2.toInt = 1
      · have hs := hs.trans (cif_t c4)
        refine lv_tableIn (tgt := 63) (off := 52) S.1 S.2.1 dX5_ticketed_11 (by show ¬ p2.toInt < (0 : Int); omega) (by show ¬ (7 : Int) < p2.toInt; omega) (by rw [c4]; rfl) (by decide) ?_
        refine lv_aload_n S.1 S.2.1 dX5_ticketed_63 rfl (lv_at hl 0 rfl) ?_
        refine gf_RX5_44 S hK hX dX5_ticketed_64 ?_
        refine lv_iload_n S.1 S.2.1 dX5_ticketed_67 rfl (lv_at hl 1 rfl) ?_
        refine al_M19 S hK hX (by omega) (by omega) (z := d.1 19 0 (ix p1)) rfl dX5_ticketed_68 ?_
        exact rI S hr hlk hs dX5_ticketed_69
      · have hs := hs.trans (cif_f c4)
        by_cases c5 : p2.toInt = 2
        · have hs := hs.trans (cif_t c5)
          refine lv_tableIn (tgt := 70) (off := 59) S.1 S.2.1 dX5_ticketed_11 (by show ¬ p2.toInt < (0 : Int); omega) (by show ¬ (7 : Int) < p2.toInt; omega) (by rw [c5]; rfl) (by decide) ?_
          refine lv_aload_n S.1 S.2.1 dX5_ticketed_70 rfl (lv_at hl 0 rfl) ?_
          refine gf_RX5_47 S hK hX dX5_ticketed_71 ?_
          refine lv_iload_n S.1 S.2.1 dX5_ticketed_74 rfl (lv_at hl 1 rfl) ?_
          refine al_M20 S hK hX (by omega) (by omega) (z := d.1 20 0 (ix p1)) rfl dX5_ticketed_75 ?_
          exact rI S hr hlk hs dX5_ticketed_76
        · have hs := hs.trans (cif_f c5)
          by_cases c6 : p2.toInt = 3
          · have hs := hs.trans (cif_t c6)
            refine lv_tableIn (tgt := 77) (off := 66) S.1 S.2.1 dX5_ticketed_11 (by show ¬ p2.toInt < (0 : Int); omega) (by show ¬ (7 : Int) < p2.toInt; omega) (by rw [c6]; rfl) (by decide) ?_
            refine lv_aload_n S.1 S.2.1 dX5_ticketed_77 rfl (lv_at hl 0 rfl) ?_
            refine gf_RX5_50 S hK hX dX5_ticketed_78 ?_
            refine lv_iload_n S.1 S.2.1 dX5_ticketed_81 rfl (lv_at hl 1 rfl) ?_
            refine al_M21 S hK hX (by omega) (by omega) (z := d.1 21 0 (ix p1)) rfl dX5_ticketed_82 ?_
            exact rI S hr hlk hs dX5_ticketed_83
          · have hs := hs.trans (cif_f c6)
            by_cases c7 : p2.toInt = 4
            · have hs := hs.trans (cif_t c7)
              refine lv_tableIn (tgt := 84) (off := 73) S.1 S.2.1 dX5_ticketed_11 (by show ¬ p2.toInt < (0 : Int); omega) (by show ¬ (7 : Int) < p2.toInt; omega) (by rw [c7]; rfl) (by decide) ?_
              refine lv_aload_n S.1 S.2.1 dX5_ticketed_84 rfl (lv_at hl 0 rfl) ?_
              refine gf_RX5_53 S hK hX dX5_ticketed_85 ?_
              refine lv_iload_n S.1 S.2.1 dX5_ticketed_88 rfl (lv_at hl 1 rfl) ?_
              refine al_M22 S hK hX (by omega) (by omega) (z := d.1 22 0 (ix p1)) rfl dX5_ticketed_89 ?_
              exact rI S hr hlk hs dX5_ticketed_90
            · have hs := hs.trans (cif_f c7)
              by_cases c8 : p2.toInt = 5
              · have hs := hs.trans (cif_t c8)
                refine lv_tableIn (tgt := 91) (off := 80) S.1 S.2.1 dX5_ticketed_11 (by show ¬ p2.toInt < (0 : Int); omega) (by show ¬ (7 : Int) < p2.toInt; omega) (by rw [c8]; rfl) (by decide) ?_
                refine lv_aload_n S.1 S.2.1 dX5_ticketed_91 rfl (lv_at hl 0 rfl) ?_
                refine gf_RX5_56 S hK hX dX5_ticketed_92 ?_
                refine lv_iload_n S.1 S.2.1 dX5_ticketed_95 rfl (lv_at hl 1 rfl) ?_
                refine al_M23 S hK hX (by omega) (by omega) (z := d.1 23 0 (ix p1)) rfl dX5_ticketed_96 ?_
                exact rI S hr hlk hs dX5_ticketed_97
              · have hs := hs.trans (cif_f c8)
                by_cases c9 : p2.toInt = 6
                · have hs := hs.trans (cif_t c9)
                  refine lv_tableIn (tgt := 98) (off := 87) S.1 S.2.1 dX5_ticketed_11 (by show ¬ p2.toInt < (0 : Int); omega) (by show ¬ (7 : Int) < p2.toInt; omega) (by rw [c9]; rfl) (by decide) ?_
                  refine lv_aload_n S.1 S.2.1 dX5_ticketed_98 rfl (lv_at hl 0 rfl) ?_
                  refine gf_RX5_59 S hK hX dX5_ticketed_99 ?_
                  refine lv_iload_n S.1 S.2.1 dX5_ticketed_102 rfl (lv_at hl 1 rfl) ?_
                  refine al_M24 S hK hX (by omega) (by omega) (z := d.1 24 0 (ix p1)) rfl dX5_ticketed_103 ?_
                  exact rI S hr hlk hs dX5_ticketed_104
                · have hs := hs.trans (cif_f c9)
                  by_cases c10 : p2.toInt = 7
                  · have hs := hs.trans (cif_t c10)
                    refine lv_tableIn (tgt := 105) (off := 94) S.1 S.2.1 dX5_ticketed_11 (by show ¬ p2.toInt < (0 : Int); omega) (by show ¬ (7 : Int) < p2.toInt; omega) (by rw [c10]; rfl) (by decide) ?_
                    refine lv_aload_n S.1 S.2.1 dX5_ticketed_105 rfl (lv_at hl 0 rfl) ?_
                    refine gf_RX5_62 S hK hX dX5_ticketed_106 ?_
                    refine lv_iload_n S.1 S.2.1 dX5_ticketed_109 rfl (lv_at hl 1 rfl) ?_
                    refine al_M25 S hK hX (by omega) (by omega) (z := d.1 25 0 (ix p1)) rfl dX5_ticketed_110 ?_
                    exact rI S hr hlk hs dX5_ticketed_111
                  · have hs := hs.trans (cif_f c10)
                    refine lv_tableOut (tgt := 112) S.1 S.2.1 dX5_ticketed_11 (by show p2.toInt < (0 : Int) ∨ (7 : Int) < p2.toInt; omega) (by decide) ?_
                    refine lv_bipush (v := (-2)) S.1 S.2.1 dX5_ticketed_112 (by decide) ?_
                    exact rI S hr hlk hs dX5_ticketed_114
  · have hs := hs.trans (cif_t c1)
    refine lv_iconst (v := (-1)) S.1 S.2.1 dX5_ticketed_8 (by decide) ?_
    exact rI S hr hlk hs dX5_ticketed_9
set_option maxRecDepth 100000 in
set_option maxHeartbeats 8000000 in
theorem c_X5_volumeOf (l : Launch) (D : va_G) (G : Gc) (ad : Nat → Nat → Nat) (d : Dt) (p1 : Int32) (hI : MI d) (h0 : 0 ≤ p1.toInt) (h1 : p1.toInt < (d.1 0 0 17).toInt) : Met l yX5_volumeOf (wsU yX5_volumeOf cX5_volumeOf 2 (some .long)) ({ frames := 1, cells := 0, slots := 0, locals := 23 } : Room) (va_Pc [.ref (ad 0 0), .int p1] (XPre D (tysG G) (MF G ad) MN ad d)) (qV (some (.long (sp_X5_volumeOf d p1)))) 0 0 (fun _ => False) := by
  refine ent (by decide +kernel) (Nat.le_of_ble_eq_true rfl) ?_
  intro p e s m below meth c S hr hlk hpre ls hl
  have S : CallFix p m c cX5_volumeOf 2 s [.ref (ad 0 0), .int p1].toArray wsL_law RX5 := S
  obtain ⟨hK, hN, hX⟩ := hpre
  have hl : lv_has ls 2 [(0, .ref (ad 0 0)), (1, .int p1)] := hl
  have hs := sp_X5_volumeOf.eq_1 d p1
  have q1 := hI.1
  have q2 := hI.2.2.1
  have q3 := hI.2.2.2.1
  have q4 := hI.2.2.2.2.1
  refine lv_ldc2 S.1 S.2.1 S.2.2.2.1 (S.2.2.2.2 _ wKL_RX5_199) dX5_volumeOf_0 ?_
  refine lv_aload_n S.1 S.2.1 dX5_volumeOf_3 rfl (lv_at hl 0 rfl) ?_
  refine gf_RX5_50 S hK hX dX5_volumeOf_4 ?_
  refine lv_iload_n S.1 S.2.1 dX5_volumeOf_7 rfl (lv_at hl 1 rfl) ?_
  refine al_M21 S hK hX (by omega) (by omega) (z := d.1 21 0 (ix p1)) rfl dX5_volumeOf_8 ?_
  refine lv_i2l S.1 S.2.1 dX5_volumeOf_9 rfl ?_
  refine lv_lmul S.1 S.2.1 dX5_volumeOf_10 ?_
  refine lv_aload_n S.1 S.2.1 dX5_volumeOf_11 rfl (lv_at hl 0 rfl) ?_
  refine gf_RX5_56 S hK hX dX5_volumeOf_12 ?_
  refine lv_iload_n S.1 S.2.1 dX5_volumeOf_15 rfl (lv_at hl 1 rfl) ?_
  refine al_M23 S hK hX (by omega) (by omega) (z := d.1 23 0 (ix p1)) rfl dX5_volumeOf_16 ?_
  refine lv_i2l S.1 S.2.1 dX5_volumeOf_17 rfl ?_
  refine lv_lmul S.1 S.2.1 dX5_volumeOf_18 ?_
  have g1 := hI.mt h0 h1
  have g2 := hI.mk g1.1 g1.2
  refine lv_aload_n S.1 S.2.1 dX5_volumeOf_19 rfl (lv_at hl 0 rfl) ?_
  refine gf_RX5_7 S hK hX dX5_volumeOf_20 ?_
  refine lv_aload_n S.1 S.2.1 dX5_volumeOf_23 rfl (lv_at hl 0 rfl) ?_
  refine gf_RX5_44 S hK hX dX5_volumeOf_24 ?_
  refine lv_iload_n S.1 S.2.1 dX5_volumeOf_27 rfl (lv_at hl 1 rfl) ?_
  refine al_M19 S hK hX (by omega) (by omega) (z := d.1 19 0 (ix p1)) rfl dX5_volumeOf_28 ?_
  refine al_M2 S hK hX (by omega) (by omega) (z := d.1 2 0 (ix (d.1 19 0 (ix p1)))) rfl dX5_volumeOf_29 ?_
  refine lv_i2l S.1 S.2.1 dX5_volumeOf_30 rfl ?_
  have g3 : 0 < (d.1 2 0 (ix (d.1 19 0 (ix p1)))).toInt64.toInt := by rw [t64]; omega
  refine cPS (rest := []) S (c_X5_rounded l ((10 * ((d.1 21 0 (ix p1)).toInt64)) * ((d.1 23 0 (ix p1)).toInt64)) ((d.1 2 0 (ix (d.1 19 0 (ix p1)))).toInt64) (by omega)) gS_RX5_172 ds_X5_rounded.2 ⟨rfl, rfl⟩ ⟨Nat.le_of_ble_eq_true rfl, Nat.le_of_ble_eq_true rfl⟩ rfl hl.1 rfl (Nat.le_of_ble_eq_true rfl) ⟨Nat.le_of_ble_eq_true rfl, Nat.le_of_ble_eq_true rfl⟩ dX5_volumeOf_31 ?_
  exact rL S hr hlk hs dX5_volumeOf_34
set_option maxRecDepth 100000 in
set_option maxHeartbeats 8000000 in
theorem c_X5_volume (l : Launch) (D : va_G) (G : Gc) (ad : Nat → Nat → Nat) (d : Dt) (p1 : Int32) (hI : MI d) : Met l yX5_volume (wsU yX5_volume cX5_volume 2 (some .long)) ({ frames := 2, cells := 0, slots := 0, locals := 46 } : Room) (va_Pc [.ref (ad 0 0), .int p1] (XPre D (tysG G) (MF G ad) MN ad d)) (qV (some (.long (sp_X5_volume d p1)))) 0 0 (fun _ => False) := by
  refine ent (by decide +kernel) (Nat.le_of_ble_eq_true rfl) ?_
  intro p e s m below meth c S hr hlk hpre ls hl
  have S : CallFix p m c cX5_volume 2 s [.ref (ad 0 0), .int p1].toArray wsL_law RX5 := S
  obtain ⟨hK, hN, hX⟩ := hpre
  have hl : lv_has ls 2 [(0, .ref (ad 0 0)), (1, .int p1)] := hl
  have hs := sp_X5_volume.eq_1 d p1
  have q1 := hI.1
  have q2 := hI.2.2.1
  have q3 := hI.2.2.2.1
  have q4 := hI.2.2.2.2.1
  refine lv_aload_n S.1 S.2.1 dX5_volume_0 rfl (lv_at hl 0 rfl) ?_
  refine lv_iload_n S.1 S.2.1 dX5_volume_1 rfl (lv_at hl 1 rfl) ?_
  refine cPV (rest := []) S (c_X5_noTicket l D G ad d p1) gV_RX5_188 ds_X5_noTicket ⟨rfl, rfl⟩ ⟨Nat.le_of_ble_eq_true rfl, Nat.le_of_ble_eq_true rfl⟩ ⟨blindX, recvX hK hX (k := 0) (i := 0) Nat.zero_lt_one rfl rfl, preX hK hN hX _⟩ rfl hl.1 rfl (Nat.le_of_ble_eq_true rfl) ⟨Nat.le_of_ble_eq_true rfl, Nat.le_of_ble_eq_true rfl⟩ dX5_volume_2 ?_
  refine q_if_eq_b (tgt := 14) S dX5_volume_5 (by decide) (fun c1 => ?_) (fun c1 => ?_)
  · have hs := hs.trans (cif_f c1)
    have f2 := nt_of hI c1
    refine lv_aload_n S.1 S.2.1 dX5_volume_14 rfl (lv_at hl 0 rfl) ?_
    refine lv_iload_n S.1 S.2.1 dX5_volume_15 rfl (lv_at hl 1 rfl) ?_
    refine cPV (rest := []) S (c_X5_volumeOf l D G ad d p1 hI (by omega) (by omega)) gV_RX5_201 ds_X5_volumeOf ⟨rfl, rfl⟩ ⟨Nat.le_of_ble_eq_true rfl, Nat.le_of_ble_eq_true rfl⟩ ⟨blindX, recvX hK hX (k := 0) (i := 0) Nat.zero_lt_one rfl rfl, preX hK hN hX _⟩ rfl hl.1 rfl (Nat.le_of_ble_eq_true rfl) ⟨Nat.le_of_ble_eq_true rfl, Nat.le_of_ble_eq_true rfl⟩ dX5_volume_16 ?_
    exact rL S hr hlk hs dX5_volume_19
  · have hs := hs.trans (cif_t c1)
    refine cPS (rest := []) S (c_X5_lost l) gS_RX5_92 ds_X5_lost.2 ⟨rfl, rfl⟩ ⟨Nat.le_of_ble_eq_true rfl, Nat.le_of_ble_eq_true rfl⟩ rfl hl.1 rfl (Nat.le_of_ble_eq_true rfl) ⟨Nat.le_of_ble_eq_true rfl, Nat.le_of_ble_eq_true rfl⟩ dX5_volume_8 ?_
    refine lv_goto (tgt := 19) S.1 S.2.1 dX5_volume_11 (by decide) ?_
    exact rL S hr hlk hs dX5_volume_19
set_option maxRecDepth 100000 in
set_option maxHeartbeats 8000000 in
theorem c_X5_sumOf (l : Launch) (D : va_G) (G : Gc) (ad : Nat → Nat → Nat) (d : Dt) (p1 : Int32) (p2 : Int32) (p3 : Int32) (hI : MI d) : Met l yX5_sumOf (wsU yX5_sumOf cX5_sumOf 7 (some .long)) ({ frames := 2, cells := 0, slots := 0, locals := 44 } : Room) (va_Pc [.ref (ad 0 0), .int p1, .int p2, .int p3] (XPre D (tysG G) (MF G ad) MN ad d)) (qV (some (.long (sp_X5_sumOf d p1 p2 p3)))) 0 0 (fun _ => False) := by
  refine ent (by decide +kernel) (Nat.le_of_ble_eq_true rfl) ?_
  intro p e s m below meth c S hr hlk hpre ls hl
  have S : CallFix p m c cX5_sumOf 7 s [.ref (ad 0 0), .int p1, .int p2, .int p3].toArray wsL_law RX5 := S
  obtain ⟨hK, hN, hX⟩ := hpre
  have hl : lv_has ls 7 [(0, .ref (ad 0 0)), (1, .int p1), (2, .int p2), (3, .int p3)] := hl
  have hs := sp_X5_sumOf.eq_1 d p1 p2 p3
  have q1 := hI.1
  have q2 := hI.2.2.1
  have q3 := hI.2.2.2.1
  have q4 := hI.2.2.2.2.1
  refine lv_lconst (v := 0) S.1 S.2.1 dX5_sumOf_0 (by decide) ?_
  refine lv_lstore (lv' := [(4, .long 0), (0, .ref (ad 0 0)), (1, .int p1), (2, .int p2), (3, .int p3)]) S.1 S.2.1 dX5_sumOf_1 hl (by decide) rfl (fun ls hl => ?_)
  refine lv_iconst (v := 0) S.1 S.2.1 dX5_sumOf_3 (by decide) ?_
  refine lv_istore (lv' := [(6, .int 0), (4, .long 0), (0, .ref (ad 0 0)), (1, .int p1), (2, .int p2), (3, .int p3)]) S.1 S.2.1 dX5_sumOf_4 hl (by decide) rfl (fun ls hl => ?_)
  have L6 : ∀ (n : Nat), ∀ (x6 : Int32) (x4 : Int64), (d.1 0 0 17).toInt - x6.toInt < (n : Int) → 0 ≤ x6.toInt → x6.toInt ≤ (d.1 0 0 17).toInt → sp_X5_sumOf d p1 p2 p3 = lp_X5_sumOf_6 d p1 p2 p3 n x6 x4 → ∀ ls : Array Slot, lv_has ls 7 [(6, .int x6), (4, .long x4), (0, .ref (ad 0 0)), (1, .int p1), (2, .int p2), (3, .int p3)] → W p l e ({ frames := 2, cells := 0, slots := 0, locals := 44 } : Room) s m [.ref (ad 0 0), .int p1, .int p2, .int p3].toArray below meth c s.heap [] 0 0 (MQ below (qV (some (.long (sp_X5_sumOf d p1 p2 p3)))) [.ref (ad 0 0), .int p1, .int p2, .int p3].toArray s 0 0 (fun _ => False)) (F0 m 6 ls []) := by
    intro n
    induction n with
    | zero => intro x6 x4 hms v6_0 v6_1 hs ls hl; omega
    | succ n ih6 =>
      intro x6 x4 hms v6_0 v6_1 hs ls hl
      have hs := hs.trans (st_X5_sumOf_6.eq_1 d p1 p2 p3 (lp_X5_sumOf_6 d p1 p2 p3 n) x6 x4)
      refine lv_iload S.1 S.2.1 dX5_sumOf_6 (lv_at hl 0 rfl) ?_
      refine lv_aload_n S.1 S.2.1 dX5_sumOf_8 rfl (lv_at hl 2 rfl) ?_
      refine gf_RX5_176 S hK hX (v := d.1 0 0 17) rfl dX5_sumOf_9 ?_
      refine q_icmp_ge (tgt := 75) (xi := x6.toInt) (yi := (d.1 0 0 17).toInt) S rfl rfl dX5_sumOf_12 (by decide) (fun c1 => ?_) (fun c1 => ?_)
      · have hs := hs.trans (cif_t c1)
        refine lv_lload S.1 S.2.1 dX5_sumOf_75 (lv_at hl 1 rfl) ?_
        exact rL S hr hlk hs dX5_sumOf_77
      · have hs := hs.trans (cif_f c1)
        refine lv_lload S.1 S.2.1 dX5_sumOf_15 (lv_at hl 1 rfl) ?_
        refine lv_aload_n S.1 S.2.1 dX5_sumOf_17 rfl (lv_at hl 2 rfl) ?_
        refine gf_RX5_44 S hK hX dX5_sumOf_18 ?_
        refine lv_iload S.1 S.2.1 dX5_sumOf_21 (lv_at hl 0 rfl) ?_
        refine al_M19 S hK hX (by omega) (by omega) (z := d.1 19 0 (ix x6)) rfl dX5_sumOf_23 ?_
        refine lv_iload_n S.1 S.2.1 dX5_sumOf_24 rfl (lv_at hl 3 rfl) ?_
        refine q_icmp_ne (tgt := 65) (xi := (d.1 19 0 (ix x6)).toInt) (yi := p1.toInt) S rfl rfl dX5_sumOf_25 (by decide) (fun c2 => ?_) (fun c2 => ?_)
        · have hs := hs.trans (cif_f c2)
          refine lv_lconst (v := 0) S.1 S.2.1 dX5_sumOf_65 (by decide) ?_
          refine lv_ladd S.1 S.2.1 dX5_sumOf_66 ?_
          refine lv_lstore (lv' := [(4, .long (x4 + 0)), (6, .int x6), (0, .ref (ad 0 0)), (1, .int p1), (2, .int p2), (3, .int p3)]) S.1 S.2.1 dX5_sumOf_67 hl (by decide) rfl (fun ls hl => ?_)
          refine lv_iinc (v := x6 + 1) (lv' := [(6, .int (x6 + 1)), (4, .long (x4 + 0)), (0, .ref (ad 0 0)), (1, .int p1), (2, .int p2), (3, .int p3)]) S.1 S.2.1 dX5_sumOf_69 hl (k := 1) rfl (by rfl) (by decide) rfl (fun ls hl => ?_)
          refine lv_goto (tgt := 6) S.1 S.2.1 dX5_sumOf_72 (by decide) ?_
          have e9 : ((x6 + 1)).toInt = x6.toInt + 1 := ti1 (by omega)
          exact ih6 (x6 + 1) (x4 + 0) (by omega) (by omega) (by omega) hs _ (lv_sub hl [0, 1, 2, 3, 4, 5] rfl)
        · have hs := hs.trans (cif_t c2)
          refine lv_aload_n S.1 S.2.1 dX5_sumOf_28 rfl (lv_at hl 2 rfl) ?_
          refine gf_RX5_47 S hK hX dX5_sumOf_29 ?_
          refine lv_iload S.1 S.2.1 dX5_sumOf_32 (lv_at hl 0 rfl) ?_
          refine al_M20 S hK hX (by omega) (by omega) (z := d.1 20 0 (ix x6)) rfl dX5_sumOf_34 ?_
          refine lv_i2l S.1 S.2.1 dX5_sumOf_35 rfl ?_
          refine lv_iload_n S.1 S.2.1 dX5_sumOf_36 rfl (lv_at hl 4 rfl) ?_
          refine lv_i2l S.1 S.2.1 dX5_sumOf_37 rfl ?_
          refine lv_iload_n S.1 S.2.1 dX5_sumOf_38 rfl (lv_at hl 5 rfl) ?_
          refine lv_i2l S.1 S.2.1 dX5_sumOf_39 rfl ?_
          refine cPS (rest := [.long x4]) S (c_X5_in l ((d.1 20 0 (ix x6)).toInt64) p2.toInt64 p3.toInt64) gS_RX5_101 ds_X5_in.2 ⟨rfl, rfl⟩ ⟨Nat.le_of_ble_eq_true rfl, Nat.le_of_ble_eq_true rfl⟩ rfl hl.1 rfl (Nat.le_of_ble_eq_true rfl) ⟨Nat.le_of_ble_eq_true rfl, Nat.le_of_ble_eq_true rfl⟩ dX5_sumOf_40 ?_
          refine q_if_eq_b (tgt := 65) S dX5_sumOf_43 (by decide) (fun c3 => ?_) (fun c3 => ?_)
          · have hs := hs.trans (cif_f c3)
            refine lv_lconst (v := 0) S.1 S.2.1 dX5_sumOf_65 (by decide) ?_
            refine lv_ladd S.1 S.2.1 dX5_sumOf_66 ?_
            refine lv_lstore (lv' := [(4, .long (x4 + 0)), (6, .int x6), (0, .ref (ad 0 0)), (1, .int p1), (2, .int p2), (3, .int p3)]) S.1 S.2.1 dX5_sumOf_67 hl (by decide) rfl (fun ls hl => ?_)
            refine lv_iinc (v := x6 + 1) (lv' := [(6, .int (x6 + 1)), (4, .long (x4 + 0)), (0, .ref (ad 0 0)), (1, .int p1), (2, .int p2), (3, .int p3)]) S.1 S.2.1 dX5_sumOf_69 hl (k := 1) rfl (by rfl) (by decide) rfl (fun ls hl => ?_)
            refine lv_goto (tgt := 6) S.1 S.2.1 dX5_sumOf_72 (by decide) ?_
            have e9 : ((x6 + 1)).toInt = x6.toInt + 1 := ti1 (by omega)
            exact ih6 (x6 + 1) (x4 + 0) (by omega) (by omega) (by omega) hs _ (lv_sub hl [0, 1, 2, 3, 4, 5] rfl)
          · have hs := hs.trans (cif_t c3)
            refine lv_aload_n S.1 S.2.1 dX5_sumOf_46 rfl (lv_at hl 2 rfl) ?_
            refine gf_RX5_59 S hK hX dX5_sumOf_47 ?_
            refine lv_iload S.1 S.2.1 dX5_sumOf_50 (lv_at hl 0 rfl) ?_
            refine al_M24 S hK hX (by omega) (by omega) (z := d.1 24 0 (ix x6)) rfl dX5_sumOf_52 ?_
            refine q_if_ge (tgt := 65) (xi := (d.1 24 0 (ix x6)).toInt) S rfl dX5_sumOf_53 (by decide) (fun c4 => ?_) (fun c4 => ?_)
            · have hs := hs.trans (cif_t c4)
              refine lv_lconst (v := 0) S.1 S.2.1 dX5_sumOf_65 (by decide) ?_
              refine lv_ladd S.1 S.2.1 dX5_sumOf_66 ?_
              refine lv_lstore (lv' := [(4, .long (x4 + 0)), (6, .int x6), (0, .ref (ad 0 0)), (1, .int p1), (2, .int p2), (3, .int p3)]) S.1 S.2.1 dX5_sumOf_67 hl (by decide) rfl (fun ls hl => ?_)
              refine lv_iinc (v := x6 + 1) (lv' := [(6, .int (x6 + 1)), (4, .long (x4 + 0)), (0, .ref (ad 0 0)), (1, .int p1), (2, .int p2), (3, .int p3)]) S.1 S.2.1 dX5_sumOf_69 hl (k := 1) rfl (by rfl) (by decide) rfl (fun ls hl => ?_)
              refine lv_goto (tgt := 6) S.1 S.2.1 dX5_sumOf_72 (by decide) ?_
              have e9 : ((x6 + 1)).toInt = x6.toInt + 1 := ti1 (by omega)
              exact ih6 (x6 + 1) (x4 + 0) (by omega) (by omega) (by omega) hs _ (lv_sub hl [0, 1, 2, 3, 4, 5] rfl)
            · have hs := hs.trans (cif_f c4)
              refine lv_aload_n S.1 S.2.1 dX5_sumOf_56 rfl (lv_at hl 2 rfl) ?_
              refine lv_iload S.1 S.2.1 dX5_sumOf_57 (lv_at hl 0 rfl) ?_
              refine cPV (rest := [.long x4]) S (c_X5_volumeOf l D G ad d x6 hI (by omega) (by omega)) gV_RX5_201 ds_X5_volumeOf ⟨rfl, rfl⟩ ⟨Nat.le_of_ble_eq_true rfl, Nat.le_of_ble_eq_true rfl⟩ ⟨blindX, recvX hK hX (k := 0) (i := 0) Nat.zero_lt_one rfl rfl, preX hK hN hX _⟩ rfl hl.1 rfl (Nat.le_of_ble_eq_true rfl) ⟨Nat.le_of_ble_eq_true rfl, Nat.le_of_ble_eq_true rfl⟩ dX5_sumOf_59 ?_
              refine lv_goto (tgt := 66) S.1 S.2.1 dX5_sumOf_62 (by decide) ?_
              refine lv_ladd S.1 S.2.1 dX5_sumOf_66 ?_
              refine lv_lstore (lv' := [(4, .long (x4 + (sp_X5_volumeOf d x6))), (6, .int x6), (0, .ref (ad 0 0)), (1, .int p1), (2, .int p2), (3, .int p3)]) S.1 S.2.1 dX5_sumOf_67 hl (by decide) rfl (fun ls hl => ?_)
              refine lv_iinc (v := x6 + 1) (lv' := [(6, .int (x6 + 1)), (4, .long (x4 + (sp_X5_volumeOf d x6))), (0, .ref (ad 0 0)), (1, .int p1), (2, .int p2), (3, .int p3)]) S.1 S.2.1 dX5_sumOf_69 hl (k := 1) rfl (by rfl) (by decide) rfl (fun ls hl => ?_)
              refine lv_goto (tgt := 6) S.1 S.2.1 dX5_sumOf_72 (by decide) ?_
              have e9 : ((x6 + 1)).toInt = x6.toInt + 1 := ti1 (by omega)
              exact ih6 (x6 + 1) (x4 + (sp_X5_volumeOf d x6)) (by omega) (by omega) (by omega) hs _ (lv_sub hl [0, 1, 2, 3, 4, 5] rfl)
  exact L6 64 0 0 (by first | omega | (simp only [Int32.toInt_zero]; omega)) (by first | omega | (simp only [Int32.toInt_zero]; omega)) (by first | omega | (simp only [Int32.toInt_zero]; omega)) hs _ (lv_sub hl [0, 1, 2, 3, 4, 5] rfl)
set_option maxRecDepth 100000 in
set_option maxHeartbeats 8000000 in
theorem c_X5_sum (l : Launch) (D : va_G) (G : Gc) (ad : Nat → Nat → Nat) (d : Dt) (p1 : Int32) (p2 : Int32) (p3 : Int32) (hI : MI d) : Met l yX5_sum (wsU yX5_sum cX5_sum 4 (some .long)) ({ frames := 3, cells := 0, slots := 0, locals := 70 } : Room) (va_Pc [.ref (ad 0 0), .int p1, .int p2, .int p3] (XPre D (tysG G) (MF G ad) MN ad d)) (qV (some (.long (sp_X5_sum d p1 p2 p3)))) 0 0 (fun _ => False) := by
  refine ent (by decide +kernel) (Nat.le_of_ble_eq_true rfl) ?_
  intro p e s m below meth c S hr hlk hpre ls hl
  have S : CallFix p m c cX5_sum 4 s [.ref (ad 0 0), .int p1, .int p2, .int p3].toArray wsL_law RX5 := S
  obtain ⟨hK, hN, hX⟩ := hpre
  have hl : lv_has ls 4 [(0, .ref (ad 0 0)), (1, .int p1), (2, .int p2), (3, .int p3)] := hl
  have hs := sp_X5_sum.eq_1 d p1 p2 p3
  have q1 := hI.1
  have q2 := hI.2.2.1
  have q3 := hI.2.2.2.1
  have q4 := hI.2.2.2.2.1
  refine lv_aload_n S.1 S.2.1 dX5_sum_0 rfl (lv_at hl 0 rfl) ?_
  refine lv_iload_n S.1 S.2.1 dX5_sum_1 rfl (lv_at hl 1 rfl) ?_
  refine cPV (rest := []) S (c_X5_noMeter l D G ad d p1) gV_RX5_115 ds_X5_noMeter ⟨rfl, rfl⟩ ⟨Nat.le_of_ble_eq_true rfl, Nat.le_of_ble_eq_true rfl⟩ ⟨blindX, recvX hK hX (k := 0) (i := 0) Nat.zero_lt_one rfl rfl, preX hK hN hX _⟩ rfl hl.1 rfl (Nat.le_of_ble_eq_true rfl) ⟨Nat.le_of_ble_eq_true rfl, Nat.le_of_ble_eq_true rfl⟩ dX5_sum_2 ?_
  refine q_if_ne_b (tgt := 16) S dX5_sum_5 (by decide) (fun c1 => ?_) (fun c1 => ?_)
  · have hs := hs.trans (cif_t c1)
    refine cPS (rest := []) S (c_X5_lost l) gS_RX5_92 ds_X5_lost.2 ⟨rfl, rfl⟩ ⟨Nat.le_of_ble_eq_true rfl, Nat.le_of_ble_eq_true rfl⟩ rfl hl.1 rfl (Nat.le_of_ble_eq_true rfl) ⟨Nat.le_of_ble_eq_true rfl, Nat.le_of_ble_eq_true rfl⟩ dX5_sum_16 ?_
    refine lv_goto (tgt := 29) S.1 S.2.1 dX5_sum_19 (by decide) ?_
    exact rL S hr hlk hs dX5_sum_29
  · have hs := hs.trans (cif_f c1)
    have f2 := nm_of hI c1
    refine lv_iload_n S.1 S.2.1 dX5_sum_8 rfl (lv_at hl 2 rfl) ?_
    refine lv_iload_n S.1 S.2.1 dX5_sum_9 rfl (lv_at hl 3 rfl) ?_
    refine cPS (rest := []) S (c_X5_areDays l p2 p3) gS_RX5_191 ds_X5_areDays.2 ⟨rfl, rfl⟩ ⟨Nat.le_of_ble_eq_true rfl, Nat.le_of_ble_eq_true rfl⟩ rfl hl.1 rfl (Nat.le_of_ble_eq_true rfl) ⟨Nat.le_of_ble_eq_true rfl, Nat.le_of_ble_eq_true rfl⟩ dX5_sum_10 ?_
    refine q_if_ne_b (tgt := 22) S dX5_sum_13 (by decide) (fun c3 => ?_) (fun c3 => ?_)
    · have hs := hs.trans (cif_t c3)
      refine lv_aload_n S.1 S.2.1 dX5_sum_22 rfl (lv_at hl 0 rfl) ?_
      refine lv_iload_n S.1 S.2.1 dX5_sum_23 rfl (lv_at hl 1 rfl) ?_
      refine lv_iload_n S.1 S.2.1 dX5_sum_24 rfl (lv_at hl 2 rfl) ?_
      refine lv_iload_n S.1 S.2.1 dX5_sum_25 rfl (lv_at hl 3 rfl) ?_
      refine cPV (rest := []) S (c_X5_sumOf l D G ad d p1 p2 p3 hI) gV_RX5_205 ds_X5_sumOf ⟨rfl, rfl⟩ ⟨Nat.le_of_ble_eq_true rfl, Nat.le_of_ble_eq_true rfl⟩ ⟨blindX, recvX hK hX (k := 0) (i := 0) Nat.zero_lt_one rfl rfl, preX hK hN hX _⟩ rfl hl.1 rfl (Nat.le_of_ble_eq_true rfl) ⟨Nat.le_of_ble_eq_true rfl, Nat.le_of_ble_eq_true rfl⟩ dX5_sum_26 ?_
      exact rL S hr hlk hs dX5_sum_29
    · have hs := hs.trans (cif_f c3)
      refine cPS (rest := []) S (c_X5_lost l) gS_RX5_92 ds_X5_lost.2 ⟨rfl, rfl⟩ ⟨Nat.le_of_ble_eq_true rfl, Nat.le_of_ble_eq_true rfl⟩ rfl hl.1 rfl (Nat.le_of_ble_eq_true rfl) ⟨Nat.le_of_ble_eq_true rfl, Nat.le_of_ble_eq_true rfl⟩ dX5_sum_16 ?_
      refine lv_goto (tgt := 29) S.1 S.2.1 dX5_sum_19 (by decide) ?_
      exact rL S hr hlk hs dX5_sum_29
set_option maxRecDepth 100000 in
set_option maxHeartbeats 8000000 in
theorem c_X5_shut (l : Launch) (D : va_G) (G : Gc) (ad : Nat → Nat → Nat) (d : Dt) (p1 : Int32) (hI : MI d) : Met l yX5_shut (wsU yX5_shut cX5_shut 3 (some .int)) ({ frames := 2, cells := 0, slots := 0, locals := 45 } : Room) (va_Pc [.ref (ad 0 0), .int p1] (XPre D (tysG G) (MF G ad) MN ad d)) (qW (some (.int (sp_X5_shut d p1).1)) D (MF G ad) MN ad (sp_X5_shut d p1).2) 0 0 (adS MN ad) := by
  refine ent (by decide +kernel) (Nat.le_of_ble_eq_true rfl) ?_
  intro p e s m below meth c S hr hlk hpre ls hl
  have S : CallFix p m c cX5_shut 3 s [.ref (ad 0 0), .int p1].toArray wsL_law RX5 := S
  obtain ⟨hK, hN, hX⟩ := hpre
  have hl : lv_has ls 3 [(0, .ref (ad 0 0)), (1, .int p1)] := hl
  have hs := sp_X5_shut.eq_1 d p1
  have hS : va_S (adS MN ad) s.heap s.heap [] := va_S.rf
  have q1 := hI.1
  have q2 := hI.2.2.1
  have q3 := hI.2.2.2.1
  have q4 := hI.2.2.2.2.1
  refine lv_iload_n S.1 S.2.1 dX5_shut_0 rfl (lv_at hl 1 rfl) ?_
  refine cPS (rest := []) S (c_X5_isDay l p1) gS_RX5_122 ds_X5_isDay.2 ⟨rfl, rfl⟩ ⟨Nat.le_of_ble_eq_true rfl, Nat.le_of_ble_eq_true rfl⟩ rfl hl.1 rfl (Nat.le_of_ble_eq_true rfl) ⟨Nat.le_of_ble_eq_true rfl, Nat.le_of_ble_eq_true rfl⟩ dX5_shut_1 ?_
  refine q_if_eq_b (tgt := 15) S dX5_shut_4 (by decide) (fun c1 => ?_) (fun c1 => ?_)
  · have hs := hs.trans (cif_f c1)
    refine lv_bipush (v := (-2)) S.1 S.2.1 dX5_shut_15 (by decide) ?_
    exact wI S hr hlk hs hX hS dX5_shut_17
  · have hs := hs.trans (cif_t c1)
    refine lv_iload_n S.1 S.2.1 dX5_shut_7 rfl (lv_at hl 1 rfl) ?_
    refine lv_aload_n S.1 S.2.1 dX5_shut_8 rfl (lv_at hl 0 rfl) ?_
    refine gf_RX5_80 S hK hX (v := d.1 0 0 26) rfl dX5_shut_9 ?_
    refine q_icmp_ge (tgt := 18) (xi := p1.toInt) (yi := (d.1 0 0 26).toInt) S rfl rfl dX5_shut_12 (by decide) (fun c2 => ?_) (fun c2 => ?_)
    · have hs := hs.trans (cif_t c2)
      refine lv_aload_n S.1 S.2.1 dX5_shut_18 rfl (lv_at hl 0 rfl) ?_
      refine gf_RX5_80 S hK hX (v := d.1 0 0 26) rfl dX5_shut_19 ?_
      refine lv_istore_n (lv' := [(2, .int (d.1 0 0 26)), (0, .ref (ad 0 0)), (1, .int p1)]) S.1 S.2.1 dX5_shut_22 rfl hl (by decide) rfl (fun ls hl => ?_)
      refine lv_aload_n S.1 S.2.1 dX5_shut_23 rfl (lv_at hl 1 rfl) ?_
      refine lv_iload_n S.1 S.2.1 dX5_shut_24 rfl (lv_at hl 2 rfl) ?_
      refine pf_RX5_80 S hK hX hS dX5_shut_25 (fun H locs hX hS => ?_)
      refine lv_iload_n S.1 S.2.1 dX5_shut_28 rfl (lv_at hl 0 rfl) ?_
      exact wI S hr hlk hs hX hS dX5_shut_29
    · have hs := hs.trans (cif_f c2)
      refine lv_bipush (v := (-2)) S.1 S.2.1 dX5_shut_15 (by decide) ?_
      exact wI S hr hlk hs hX hS dX5_shut_17
set_option maxRecDepth 100000 in
set_option maxHeartbeats 8000000 in
theorem c_X5_noLine (l : Launch) (p0 : Int32) : Met l yX5_noLine (wsU yX5_noLine cX5_noLine 1 (some .boolean)) ({ frames := 1, cells := 0, slots := 0, locals := 25 } : Room) (va_Pc [.int p0] (fun _ => True)) (qV (some (.int (b2i (sp_X5_noLine p0))))) 0 0 (fun _ => False) := by
  refine ent (by decide +kernel) (Nat.le_of_ble_eq_true rfl) ?_
  intro p e s m below meth c S hr hlk hpre ls hl
  have S : CallFix p m c cX5_noLine 1 s [.int p0].toArray wsL_law RX5 := S
  have hl : lv_has ls 1 [(0, .int p0)] := hl
  have hs := sp_X5_noLine.eq_1 p0
  refine lv_iload_n S.1 S.2.1 dX5_noLine_0 rfl (lv_at hl 0 rfl) ?_
  refine lv_i2l S.1 S.2.1 dX5_noLine_1 rfl ?_
  refine lv_lconst (v := 0) S.1 S.2.1 dX5_noLine_2 (by decide) ?_
  refine lv_ldc2 S.1 S.2.1 S.2.2.2.1 (S.2.2.2.2 _ wKL_RX5_164) dX5_noLine_3 ?_
  refine cPS (rest := []) S (c_X5_in l p0.toInt64 0 3) gS_RX5_101 ds_X5_in.2 ⟨rfl, rfl⟩ ⟨Nat.le_of_ble_eq_true rfl, Nat.le_of_ble_eq_true rfl⟩ rfl hl.1 rfl (Nat.le_of_ble_eq_true rfl) ⟨Nat.le_of_ble_eq_true rfl, Nat.le_of_ble_eq_true rfl⟩ dX5_noLine_6 ?_
  refine q_if_ne_b (tgt := 16) S dX5_noLine_9 (by decide) (fun c1 => ?_) (fun c1 => ?_)
  · have hs := hs.trans (cif_t c1)
    refine lv_iconst (v := 0) S.1 S.2.1 dX5_noLine_16 (by decide) ?_
    exact rZ S hr hlk hs b2i_F.symm dX5_noLine_17
  · have hs := hs.trans (cif_f c1)
    refine lv_iconst (v := 1) S.1 S.2.1 dX5_noLine_12 (by decide) ?_
    refine lv_goto (tgt := 17) S.1 S.2.1 dX5_noLine_13 (by decide) ?_
    exact rZ S hr hlk hs b2i_T.symm dX5_noLine_17
set_option maxRecDepth 100000 in
set_option maxHeartbeats 8000000 in
theorem c_X5_line (l : Launch) (D : va_G) (G : Gc) (ad : Nat → Nat → Nat) (d : Dt) (p1 : Int32) (p2 : Int32) (p3 : Int32) (hI : MI d) : Met l yX5_line (wsU yX5_line cX5_line 5 (some .int)) ({ frames := 2, cells := 0, slots := 0, locals := 46 } : Room) (va_Pc [.ref (ad 0 0), .int p1, .int p2, .int p3] (XPre D (tysG G) (MF G ad) MN ad d)) (qW (some (.int (sp_X5_line d p1 p2 p3).1)) D (MF G ad) MN ad (sp_X5_line d p1 p2 p3).2) 0 0 (adS MN ad) := by
  refine ent (by decide +kernel) (Nat.le_of_ble_eq_true rfl) ?_
  intro p e s m below meth c S hr hlk hpre ls hl
  have S : CallFix p m c cX5_line 5 s [.ref (ad 0 0), .int p1, .int p2, .int p3].toArray wsL_law RX5 := S
  obtain ⟨hK, hN, hX⟩ := hpre
  have hl : lv_has ls 5 [(0, .ref (ad 0 0)), (1, .int p1), (2, .int p2), (3, .int p3)] := hl
  have hs := sp_X5_line.eq_1 d p1 p2 p3
  have hS : va_S (adS MN ad) s.heap s.heap [] := va_S.rf
  have q1 := hI.1
  have q2 := hI.2.2.1
  have q3 := hI.2.2.2.1
  have q4 := hI.2.2.2.2.1
  refine lv_iload_n S.1 S.2.1 dX5_line_0 rfl (lv_at hl 1 rfl) ?_
  refine cPS (rest := []) S (c_X5_noLine l p1) gS_RX5_209 ds_X5_noLine.2 ⟨rfl, rfl⟩ ⟨Nat.le_of_ble_eq_true rfl, Nat.le_of_ble_eq_true rfl⟩ rfl hl.1 rfl (Nat.le_of_ble_eq_true rfl) ⟨Nat.le_of_ble_eq_true rfl, Nat.le_of_ble_eq_true rfl⟩ dX5_line_1 ?_
  refine q_if_ne_b (tgt := 15) S dX5_line_4 (by decide) (fun c1 => ?_) (fun c1 => ?_)
  · have hs := hs.trans (cif_t c1)
    refine lv_iconst (v := (-1)) S.1 S.2.1 dX5_line_15 (by decide) ?_
    exact wI S hr hlk hs hX hS dX5_line_16
  · have hs := hs.trans (cif_f c1)
    have f2 := nl_of c1
    refine lv_aload_n S.1 S.2.1 dX5_line_7 rfl (lv_at hl 0 rfl) ?_
    refine lv_iload_n S.1 S.2.1 dX5_line_8 rfl (lv_at hl 2 rfl) ?_
    refine cPV (rest := []) S (c_X5_noMeter l D G ad d p2) gV_RX5_115 ds_X5_noMeter ⟨rfl, rfl⟩ ⟨Nat.le_of_ble_eq_true rfl, Nat.le_of_ble_eq_true rfl⟩ ⟨blindX, recvX hK hX (k := 0) (i := 0) Nat.zero_lt_one rfl rfl, preX hK hN hX _⟩ rfl hl.1 rfl (Nat.le_of_ble_eq_true rfl) ⟨Nat.le_of_ble_eq_true rfl, Nat.le_of_ble_eq_true rfl⟩ dX5_line_9 ?_
    refine q_if_eq_b (tgt := 17) S dX5_line_12 (by decide) (fun c3 => ?_) (fun c3 => ?_)
    · have hs := hs.trans (cif_f c3)
      have f4 := nm_of hI c3
      refine lv_iload_n S.1 S.2.1 dX5_line_17 rfl (lv_at hl 3 rfl) ?_
      refine lv_i2l S.1 S.2.1 dX5_line_18 rfl ?_
      refine lv_ldc2 S.1 S.2.1 S.2.2.2.1 (S.2.2.2.2 _ wKL_RX5_212) dX5_line_19 ?_
      refine lv_lconst (v := 1) S.1 S.2.1 dX5_line_22 (by decide) ?_
      refine cPS (rest := []) S (c_X5_in l p3.toInt64 (-1) 1) gS_RX5_101 ds_X5_in.2 ⟨rfl, rfl⟩ ⟨Nat.le_of_ble_eq_true rfl, Nat.le_of_ble_eq_true rfl⟩ rfl hl.1 rfl (Nat.le_of_ble_eq_true rfl) ⟨Nat.le_of_ble_eq_true rfl, Nat.le_of_ble_eq_true rfl⟩ dX5_line_23 ?_
      refine q_if_ne_b (tgt := 32) S dX5_line_26 (by decide) (fun c5 => ?_) (fun c5 => ?_)
      · have hs := hs.trans (cif_t c5)
        refine lv_aload_n S.1 S.2.1 dX5_line_32 rfl (lv_at hl 0 rfl) ?_
        refine gf_RX5_65 S hK hX dX5_line_33 ?_
        have e8 := lin (a := 6) (z := 6) (x := p1) (y := p2) rfl (by omega) (by omega) (by omega)
        refine lv_bipush (v := 6) S.1 S.2.1 dX5_line_36 (by decide) ?_
        refine lv_iload_n S.1 S.2.1 dX5_line_38 rfl (lv_at hl 1 rfl) ?_
        refine lv_imul S.1 S.2.1 dX5_line_39 ?_
        refine lv_iload_n S.1 S.2.1 dX5_line_40 rfl (lv_at hl 2 rfl) ?_
        refine lv_iadd S.1 S.2.1 dX5_line_41 ?_
        refine al_M27 S hK hX (by omega) (by omega) (z := d.1 27 0 (ix ((6 * p1) + p2))) rfl dX5_line_42 ?_
        refine lv_iload_n S.1 S.2.1 dX5_line_43 rfl (lv_at hl 3 rfl) ?_
        refine q_icmp_eq (tgt := 51) (xi := (d.1 27 0 (ix ((6 * p1) + p2))).toInt) (yi := p3.toInt) S rfl rfl dX5_line_44 (by decide) (fun c6 => ?_) (fun c6 => ?_)
        · have hs := hs.trans (cif_t c6)
          refine lv_iconst (v := 0) S.1 S.2.1 dX5_line_51 (by decide) ?_
          refine lv_istore (lv' := [(4, .int 0), (0, .ref (ad 0 0)), (1, .int p1), (2, .int p2), (3, .int p3)]) S.1 S.2.1 dX5_line_52 hl (by decide) rfl (fun ls hl => ?_)
          refine lv_aload_n S.1 S.2.1 dX5_line_54 rfl (lv_at hl 1 rfl) ?_
          refine gf_RX5_65 S hK hX dX5_line_55 ?_
          refine lv_bipush (v := 6) S.1 S.2.1 dX5_line_58 (by decide) ?_
          refine lv_iload_n S.1 S.2.1 dX5_line_60 rfl (lv_at hl 2 rfl) ?_
          refine lv_imul S.1 S.2.1 dX5_line_61 ?_
          refine lv_iload_n S.1 S.2.1 dX5_line_62 rfl (lv_at hl 3 rfl) ?_
          refine lv_iadd S.1 S.2.1 dX5_line_63 ?_
          refine lv_iload_n S.1 S.2.1 dX5_line_64 rfl (lv_at hl 4 rfl) ?_
          refine as_M27 S hK hX hS (by omega) (by omega) dX5_line_65 (fun H locs hX hS => ?_)
          refine lv_iload S.1 S.2.1 dX5_line_66 (lv_at hl 0 rfl) ?_
          refine q_if_eq (tgt := 75) (xi := 0) S rfl dX5_line_68 (by decide) (fun c7 => ?_) (fun c7 => absurd (by omega) c7)
          refine lv_iconst (v := 0) S.1 S.2.1 dX5_line_75 (by decide) ?_
          exact wI S hr hlk hs hX hS dX5_line_76
        · have hs := hs.trans (cif_f c6)
          refine lv_iconst (v := 1) S.1 S.2.1 dX5_line_47 (by decide) ?_
          refine lv_goto (tgt := 52) S.1 S.2.1 dX5_line_48 (by decide) ?_
          refine lv_istore (lv' := [(4, .int 1), (0, .ref (ad 0 0)), (1, .int p1), (2, .int p2), (3, .int p3)]) S.1 S.2.1 dX5_line_52 hl (by decide) rfl (fun ls hl => ?_)
          refine lv_aload_n S.1 S.2.1 dX5_line_54 rfl (lv_at hl 1 rfl) ?_
          refine gf_RX5_65 S hK hX dX5_line_55 ?_
          refine lv_bipush (v := 6) S.1 S.2.1 dX5_line_58 (by decide) ?_
          refine lv_iload_n S.1 S.2.1 dX5_line_60 rfl (lv_at hl 2 rfl) ?_
          refine lv_imul S.1 S.2.1 dX5_line_61 ?_
          refine lv_iload_n S.1 S.2.1 dX5_line_62 rfl (lv_at hl 3 rfl) ?_
          refine lv_iadd S.1 S.2.1 dX5_line_63 ?_
          refine lv_iload_n S.1 S.2.1 dX5_line_64 rfl (lv_at hl 4 rfl) ?_
          refine as_M27 S hK hX hS (by omega) (by omega) dX5_line_65 (fun H locs hX hS => ?_)
          refine lv_iload S.1 S.2.1 dX5_line_66 (lv_at hl 0 rfl) ?_
          refine q_if_eq (tgt := 75) (xi := 1) S rfl dX5_line_68 (by decide) (fun c8 => absurd c8 (by omega)) (fun c8 => ?_)
          refine lv_iconst (v := 1) S.1 S.2.1 dX5_line_71 (by decide) ?_
          refine lv_goto (tgt := 76) S.1 S.2.1 dX5_line_72 (by decide) ?_
          exact wI S hr hlk hs hX hS dX5_line_76
      · have hs := hs.trans (cif_f c5)
        refine lv_bipush (v := (-2)) S.1 S.2.1 dX5_line_29 (by decide) ?_
        exact wI S hr hlk hs hX hS dX5_line_31
    · have hs := hs.trans (cif_t c3)
      refine lv_iconst (v := (-1)) S.1 S.2.1 dX5_line_15 (by decide) ?_
      exact wI S hr hlk hs hX hS dX5_line_16
set_option maxRecDepth 100000 in
set_option maxHeartbeats 8000000 in
theorem c_X5_lined (l : Launch) (D : va_G) (G : Gc) (ad : Nat → Nat → Nat) (d : Dt) (p1 : Int32) (p2 : Int32) (hI : MI d) : Met l yX5_lined (wsU yX5_lined cX5_lined 3 (some .int)) ({ frames := 2, cells := 0, slots := 0, locals := 46 } : Room) (va_Pc [.ref (ad 0 0), .int p1, .int p2] (XPre D (tysG G) (MF G ad) MN ad d)) (qV (some (.int (sp_X5_lined d p1 p2)))) 0 0 (fun _ => False) := by
  refine ent (by decide +kernel) (Nat.le_of_ble_eq_true rfl) ?_
  intro p e s m below meth c S hr hlk hpre ls hl
  have S : CallFix p m c cX5_lined 3 s [.ref (ad 0 0), .int p1, .int p2].toArray wsL_law RX5 := S
  obtain ⟨hK, hN, hX⟩ := hpre
  have hl : lv_has ls 3 [(0, .ref (ad 0 0)), (1, .int p1), (2, .int p2)] := hl
  have hs := sp_X5_lined.eq_1 d p1 p2
  have q1 := hI.1
  have q2 := hI.2.2.1
  have q3 := hI.2.2.2.1
  have q4 := hI.2.2.2.2.1
  refine lv_iload_n S.1 S.2.1 dX5_lined_0 rfl (lv_at hl 1 rfl) ?_
  refine cPS (rest := []) S (c_X5_noLine l p1) gS_RX5_209 ds_X5_noLine.2 ⟨rfl, rfl⟩ ⟨Nat.le_of_ble_eq_true rfl, Nat.le_of_ble_eq_true rfl⟩ rfl hl.1 rfl (Nat.le_of_ble_eq_true rfl) ⟨Nat.le_of_ble_eq_true rfl, Nat.le_of_ble_eq_true rfl⟩ dX5_lined_1 ?_
  refine q_if_ne_b (tgt := 15) S dX5_lined_4 (by decide) (fun c1 => ?_) (fun c1 => ?_)
  · have hs := hs.trans (cif_t c1)
    refine lv_iconst (v := (-1)) S.1 S.2.1 dX5_lined_15 (by decide) ?_
    refine lv_goto (tgt := 33) S.1 S.2.1 dX5_lined_16 (by decide) ?_
    exact rI S hr hlk hs dX5_lined_33
  · have hs := hs.trans (cif_f c1)
    have f2 := nl_of c1
    refine lv_aload_n S.1 S.2.1 dX5_lined_7 rfl (lv_at hl 0 rfl) ?_
    refine lv_iload_n S.1 S.2.1 dX5_lined_8 rfl (lv_at hl 2 rfl) ?_
    refine cPV (rest := []) S (c_X5_noMeter l D G ad d p2) gV_RX5_115 ds_X5_noMeter ⟨rfl, rfl⟩ ⟨Nat.le_of_ble_eq_true rfl, Nat.le_of_ble_eq_true rfl⟩ ⟨blindX, recvX hK hX (k := 0) (i := 0) Nat.zero_lt_one rfl rfl, preX hK hN hX _⟩ rfl hl.1 rfl (Nat.le_of_ble_eq_true rfl) ⟨Nat.le_of_ble_eq_true rfl, Nat.le_of_ble_eq_true rfl⟩ dX5_lined_9 ?_
    refine q_if_eq_b (tgt := 19) S dX5_lined_12 (by decide) (fun c3 => ?_) (fun c3 => ?_)
    · have hs := hs.trans (cif_f c3)
      have f4 := nm_of hI c3
      refine lv_bipush (v := 10) S.1 S.2.1 dX5_lined_19 (by decide) ?_
      refine lv_aload_n S.1 S.2.1 dX5_lined_21 rfl (lv_at hl 0 rfl) ?_
      refine gf_RX5_65 S hK hX dX5_lined_22 ?_
      have e8 := lin (a := 6) (z := 6) (x := p1) (y := p2) rfl (by omega) (by omega) (by omega)
      refine lv_bipush (v := 6) S.1 S.2.1 dX5_lined_25 (by decide) ?_
      refine lv_iload_n S.1 S.2.1 dX5_lined_27 rfl (lv_at hl 1 rfl) ?_
      refine lv_imul S.1 S.2.1 dX5_lined_28 ?_
      refine lv_iload_n S.1 S.2.1 dX5_lined_29 rfl (lv_at hl 2 rfl) ?_
      refine lv_iadd S.1 S.2.1 dX5_lined_30 ?_
      refine al_M27 S hK hX (by omega) (by omega) (z := d.1 27 0 (ix ((6 * p1) + p2))) rfl dX5_lined_31 ?_
      refine lv_iadd S.1 S.2.1 dX5_lined_32 ?_
      exact rI S hr hlk hs dX5_lined_33
    · have hs := hs.trans (cif_t c3)
      refine lv_iconst (v := (-1)) S.1 S.2.1 dX5_lined_15 (by decide) ?_
      refine lv_goto (tgt := 33) S.1 S.2.1 dX5_lined_16 (by decide) ?_
      exact rI S hr hlk hs dX5_lined_33
set_option maxRecDepth 100000 in
set_option maxHeartbeats 8000000 in
theorem c_X5_end (l : Launch) (D : va_G) (G : Gc) (ad : Nat → Nat → Nat) (d : Dt) (p1 : Int32) (p2 : Int32) (hI : MI d) : Met l yX5_end (wsU yX5_end cX5_end 4 (some .int)) ({ frames := 2, cells := 0, slots := 0, locals := 46 } : Room) (va_Pc [.ref (ad 0 0), .int p1, .int p2] (XPre D (tysG G) (MF G ad) MN ad d)) (qW (some (.int (sp_X5_end d p1 p2).1)) D (MF G ad) MN ad (sp_X5_end d p1 p2).2) 0 0 (adS MN ad) := by
  refine ent (by decide +kernel) (Nat.le_of_ble_eq_true rfl) ?_
  intro p e s m below meth c S hr hlk hpre ls hl
  have S : CallFix p m c cX5_end 4 s [.ref (ad 0 0), .int p1, .int p2].toArray wsL_law RX5 := S
  obtain ⟨hK, hN, hX⟩ := hpre
  have hl : lv_has ls 4 [(0, .ref (ad 0 0)), (1, .int p1), (2, .int p2)] := hl
  have hs := sp_X5_end.eq_1 d p1 p2
  have hS : va_S (adS MN ad) s.heap s.heap [] := va_S.rf
  have q1 := hI.1
  have q2 := hI.2.2.1
  have q3 := hI.2.2.2.1
  have q4 := hI.2.2.2.2.1
  refine lv_aload_n S.1 S.2.1 dX5_end_0 rfl (lv_at hl 0 rfl) ?_
  refine lv_iload_n S.1 S.2.1 dX5_end_1 rfl (lv_at hl 1 rfl) ?_
  refine cPV (rest := []) S (c_X5_noMeter l D G ad d p1) gV_RX5_115 ds_X5_noMeter ⟨rfl, rfl⟩ ⟨Nat.le_of_ble_eq_true rfl, Nat.le_of_ble_eq_true rfl⟩ ⟨blindX, recvX hK hX (k := 0) (i := 0) Nat.zero_lt_one rfl rfl, preX hK hN hX _⟩ rfl hl.1 rfl (Nat.le_of_ble_eq_true rfl) ⟨Nat.le_of_ble_eq_true rfl, Nat.le_of_ble_eq_true rfl⟩ dX5_end_2 ?_
  refine q_if_eq_b (tgt := 10) S dX5_end_5 (by decide) (fun c1 => ?_) (fun c1 => ?_)
  · have hs := hs.trans (cif_f c1)
    have f2 := nm_of hI c1
    refine lv_iload_n S.1 S.2.1 dX5_end_10 rfl (lv_at hl 2 rfl) ?_
    refine lv_i2l S.1 S.2.1 dX5_end_11 rfl ?_
    refine lv_lconst (v := 0) S.1 S.2.1 dX5_end_12 (by decide) ?_
    refine lv_ldc2 S.1 S.2.1 S.2.2.2.1 (S.2.2.2.2 _ wKL_RX5_214) dX5_end_13 ?_
    refine cPS (rest := []) S (c_X5_in l p2.toInt64 0 5000) gS_RX5_101 ds_X5_in.2 ⟨rfl, rfl⟩ ⟨Nat.le_of_ble_eq_true rfl, Nat.le_of_ble_eq_true rfl⟩ rfl hl.1 rfl (Nat.le_of_ble_eq_true rfl) ⟨Nat.le_of_ble_eq_true rfl, Nat.le_of_ble_eq_true rfl⟩ dX5_end_16 ?_
    refine q_if_ne_b (tgt := 25) S dX5_end_19 (by decide) (fun c3 => ?_) (fun c3 => ?_)
    · have hs := hs.trans (cif_t c3)
      refine lv_aload_n S.1 S.2.1 dX5_end_25 rfl (lv_at hl 0 rfl) ?_
      refine gf_RX5_25 S hK hX dX5_end_26 ?_
      refine lv_iload_n S.1 S.2.1 dX5_end_29 rfl (lv_at hl 1 rfl) ?_
      refine al_M7 S hK hX (by omega) (by omega) (z := d.1 7 0 (ix p1)) rfl dX5_end_30 ?_
      refine lv_istore_n (lv' := [(3, .int (d.1 7 0 (ix p1))), (0, .ref (ad 0 0)), (1, .int p1), (2, .int p2)]) S.1 S.2.1 dX5_end_31 rfl hl (by decide) rfl (fun ls hl => ?_)
      refine lv_aload_n S.1 S.2.1 dX5_end_32 rfl (lv_at hl 1 rfl) ?_
      refine gf_RX5_25 S hK hX dX5_end_33 ?_
      refine lv_iload_n S.1 S.2.1 dX5_end_36 rfl (lv_at hl 2 rfl) ?_
      refine lv_iload_n S.1 S.2.1 dX5_end_37 rfl (lv_at hl 3 rfl) ?_
      refine as_M7 S hK hX hS (by omega) (by omega) dX5_end_38 (fun H locs hX hS => ?_)
      refine lv_iload_n S.1 S.2.1 dX5_end_39 rfl (lv_at hl 0 rfl) ?_
      exact wI S hr hlk hs hX hS dX5_end_40
    · have hs := hs.trans (cif_f c3)
      refine lv_bipush (v := (-2)) S.1 S.2.1 dX5_end_22 (by decide) ?_
      exact wI S hr hlk hs hX hS dX5_end_24
  · have hs := hs.trans (cif_t c1)
    refine lv_iconst (v := (-1)) S.1 S.2.1 dX5_end_8 (by decide) ?_
    exact wI S hr hlk hs hX hS dX5_end_9
set_option maxRecDepth 100000 in
set_option maxHeartbeats 8000000 in
theorem c_X5_imbalance (l : Launch) (D : va_G) (G : Gc) (ad : Nat → Nat → Nat) (d : Dt) (p1 : Int32) (p2 : Int32) (p3 : Int32) (hI : MI d) (h0 : 0 ≤ p1.toInt) (h1 : p1.toInt < 4) : Met l yX5_imbalance (wsU yX5_imbalance cX5_imbalance 7 (some .long)) ({ frames := 3, cells := 0, slots := 0, locals := 70 } : Room) (va_Pc [.ref (ad 0 0), .int p1, .int p2, .int p3] (XPre D (tysG G) (MF G ad) MN ad d)) (qV (some (.long (sp_X5_imbalance d p1 p2 p3)))) 0 0 (fun _ => False) := by
  refine ent (by decide +kernel) (Nat.le_of_ble_eq_true rfl) ?_
  intro p e s m below meth c S hr hlk hpre ls hl
  have S : CallFix p m c cX5_imbalance 7 s [.ref (ad 0 0), .int p1, .int p2, .int p3].toArray wsL_law RX5 := S
  obtain ⟨hK, hN, hX⟩ := hpre
  have hl : lv_has ls 7 [(0, .ref (ad 0 0)), (1, .int p1), (2, .int p2), (3, .int p3)] := hl
  have hs := sp_X5_imbalance.eq_1 d p1 p2 p3
  have q1 := hI.1
  have q2 := hI.2.2.1
  have q3 := hI.2.2.2.1
  have q4 := hI.2.2.2.2.1
  refine lv_lconst (v := 0) S.1 S.2.1 dX5_imbalance_0 (by decide) ?_
  refine lv_lstore (lv' := [(4, .long 0), (0, .ref (ad 0 0)), (1, .int p1), (2, .int p2), (3, .int p3)]) S.1 S.2.1 dX5_imbalance_1 hl (by decide) rfl (fun ls hl => ?_)
  refine lv_iconst (v := 0) S.1 S.2.1 dX5_imbalance_3 (by decide) ?_
  refine lv_istore (lv' := [(6, .int 0), (4, .long 0), (0, .ref (ad 0 0)), (1, .int p1), (2, .int p2), (3, .int p3)]) S.1 S.2.1 dX5_imbalance_4 hl (by decide) rfl (fun ls hl => ?_)
  have L6 : ∀ (n : Nat), ∀ (x6 : Int32) (x4 : Int64), (d.1 0 0 1).toInt - x6.toInt < (n : Int) → 0 ≤ x6.toInt → x6.toInt ≤ (d.1 0 0 1).toInt → sp_X5_imbalance d p1 p2 p3 = lp_X5_imbalance_6 d p1 p2 p3 n x6 x4 → ∀ ls : Array Slot, lv_has ls 7 [(6, .int x6), (4, .long x4), (0, .ref (ad 0 0)), (1, .int p1), (2, .int p2), (3, .int p3)] → W p l e ({ frames := 3, cells := 0, slots := 0, locals := 70 } : Room) s m [.ref (ad 0 0), .int p1, .int p2, .int p3].toArray below meth c s.heap [] 0 0 (MQ below (qV (some (.long (sp_X5_imbalance d p1 p2 p3)))) [.ref (ad 0 0), .int p1, .int p2, .int p3].toArray s 0 0 (fun _ => False)) (F0 m 6 ls []) := by
    intro n
    induction n with
    | zero => intro x6 x4 hms v6_0 v6_1 hs ls hl; omega
    | succ n ih6 =>
      intro x6 x4 hms v6_0 v6_1 hs ls hl
      have hs := hs.trans (st_X5_imbalance_6.eq_1 d p1 p2 p3 (lp_X5_imbalance_6 d p1 p2 p3 n) x6 x4)
      refine lv_iload S.1 S.2.1 dX5_imbalance_6 (lv_at hl 0 rfl) ?_
      refine lv_aload_n S.1 S.2.1 dX5_imbalance_8 rfl (lv_at hl 2 rfl) ?_
      refine gf_RX5_98 S hK hX (v := d.1 0 0 1) rfl dX5_imbalance_9 ?_
      refine q_icmp_ge (tgt := 48) (xi := x6.toInt) (yi := (d.1 0 0 1).toInt) S rfl rfl dX5_imbalance_12 (by decide) (fun c1 => ?_) (fun c1 => ?_)
      · have hs := hs.trans (cif_t c1)
        refine lv_lload S.1 S.2.1 dX5_imbalance_48 (lv_at hl 1 rfl) ?_
        exact rL S hr hlk hs dX5_imbalance_50
      · have hs := hs.trans (cif_f c1)
        refine lv_lload S.1 S.2.1 dX5_imbalance_15 (lv_at hl 1 rfl) ?_
        refine lv_aload_n S.1 S.2.1 dX5_imbalance_17 rfl (lv_at hl 2 rfl) ?_
        refine gf_RX5_65 S hK hX dX5_imbalance_18 ?_
        have e8 := lin (a := 6) (z := 6) (x := p1) (y := x6) rfl (by omega) (by omega) (by omega)
        refine lv_bipush (v := 6) S.1 S.2.1 dX5_imbalance_21 (by decide) ?_
        refine lv_iload_n S.1 S.2.1 dX5_imbalance_23 rfl (lv_at hl 3 rfl) ?_
        refine lv_imul S.1 S.2.1 dX5_imbalance_24 ?_
        refine lv_iload S.1 S.2.1 dX5_imbalance_25 (lv_at hl 0 rfl) ?_
        refine lv_iadd S.1 S.2.1 dX5_imbalance_27 ?_
        refine al_M27 S hK hX (by omega) (by omega) (z := d.1 27 0 (ix ((6 * p1) + x6))) rfl dX5_imbalance_28 ?_
        refine lv_i2l S.1 S.2.1 dX5_imbalance_29 rfl ?_
        refine lv_aload_n S.1 S.2.1 dX5_imbalance_30 rfl (lv_at hl 2 rfl) ?_
        refine lv_iload S.1 S.2.1 dX5_imbalance_31 (lv_at hl 0 rfl) ?_
        refine lv_iload_n S.1 S.2.1 dX5_imbalance_33 rfl (lv_at hl 4 rfl) ?_
        refine lv_iload_n S.1 S.2.1 dX5_imbalance_34 rfl (lv_at hl 5 rfl) ?_
        refine cPV (rest := [.long ((d.1 27 0 (ix ((6 * p1) + x6))).toInt64), .long x4]) S (c_X5_sumOf l D G ad d x6 p2 p3 hI) gV_RX5_205 ds_X5_sumOf ⟨rfl, rfl⟩ ⟨Nat.le_of_ble_eq_true rfl, Nat.le_of_ble_eq_true rfl⟩ ⟨blindX, recvX hK hX (k := 0) (i := 0) Nat.zero_lt_one rfl rfl, preX hK hN hX _⟩ rfl hl.1 rfl (Nat.le_of_ble_eq_true rfl) ⟨Nat.le_of_ble_eq_true rfl, Nat.le_of_ble_eq_true rfl⟩ dX5_imbalance_35 ?_
        refine lv_lmul S.1 S.2.1 dX5_imbalance_38 ?_
        refine lv_ladd S.1 S.2.1 dX5_imbalance_39 ?_
        refine lv_lstore (lv' := [(4, .long (x4 + (((d.1 27 0 (ix ((6 * p1) + x6))).toInt64) * (sp_X5_sumOf d x6 p2 p3)))), (6, .int x6), (0, .ref (ad 0 0)), (1, .int p1), (2, .int p2), (3, .int p3)]) S.1 S.2.1 dX5_imbalance_40 hl (by decide) rfl (fun ls hl => ?_)
        refine lv_iinc (v := x6 + 1) (lv' := [(6, .int (x6 + 1)), (4, .long (x4 + (((d.1 27 0 (ix ((6 * p1) + x6))).toInt64) * (sp_X5_sumOf d x6 p2 p3)))), (0, .ref (ad 0 0)), (1, .int p1), (2, .int p2), (3, .int p3)]) S.1 S.2.1 dX5_imbalance_42 hl (k := 1) rfl (by rfl) (by decide) rfl (fun ls hl => ?_)
        refine lv_goto (tgt := 6) S.1 S.2.1 dX5_imbalance_45 (by decide) ?_
        have e9 : ((x6 + 1)).toInt = x6.toInt + 1 := ti1 (by omega)
        exact ih6 (x6 + 1) (x4 + (((d.1 27 0 (ix ((6 * p1) + x6))).toInt64) * (sp_X5_sumOf d x6 p2 p3))) (by omega) (by omega) (by omega) hs _ (lv_sub hl [0, 1, 2, 3, 4, 5] rfl)
  exact L6 16 0 0 (by first | omega | (simp only [Int32.toInt_zero]; omega)) (by first | omega | (simp only [Int32.toInt_zero]; omega)) (by first | omega | (simp only [Int32.toInt_zero]; omega)) hs _ (lv_sub hl [0, 1, 2, 3, 4, 5] rfl)
set_option maxRecDepth 100000 in
set_option maxHeartbeats 8000000 in
theorem c_X5_endsOf (l : Launch) (D : va_G) (G : Gc) (ad : Nat → Nat → Nat) (d : Dt) (p1 : Int32) (p2 : Int32) (p3 : Int32) (hI : MI d) (h0 : 0 ≤ p1.toInt) (h1 : p1.toInt < 4) : Met l yX5_endsOf (wsU yX5_endsOf cX5_endsOf 7 (some .long)) ({ frames := 3, cells := 0, slots := 0, locals := 70 } : Room) (va_Pc [.ref (ad 0 0), .int p1, .int p2, .int p3] (XPre D (tysG G) (MF G ad) MN ad d)) (qV (some (.long (sp_X5_endsOf d p1 p2 p3)))) 0 0 (fun _ => False) := by
  refine ent (by decide +kernel) (Nat.le_of_ble_eq_true rfl) ?_
  intro p e s m below meth c S hr hlk hpre ls hl
  have S : CallFix p m c cX5_endsOf 7 s [.ref (ad 0 0), .int p1, .int p2, .int p3].toArray wsL_law RX5 := S
  obtain ⟨hK, hN, hX⟩ := hpre
  have hl : lv_has ls 7 [(0, .ref (ad 0 0)), (1, .int p1), (2, .int p2), (3, .int p3)] := hl
  have hs := sp_X5_endsOf.eq_1 d p1 p2 p3
  have q1 := hI.1
  have q2 := hI.2.2.1
  have q3 := hI.2.2.2.1
  have q4 := hI.2.2.2.2.1
  refine lv_lconst (v := 0) S.1 S.2.1 dX5_endsOf_0 (by decide) ?_
  refine lv_lstore (lv' := [(4, .long 0), (0, .ref (ad 0 0)), (1, .int p1), (2, .int p2), (3, .int p3)]) S.1 S.2.1 dX5_endsOf_1 hl (by decide) rfl (fun ls hl => ?_)
  refine lv_iconst (v := 0) S.1 S.2.1 dX5_endsOf_3 (by decide) ?_
  refine lv_istore (lv' := [(6, .int 0), (4, .long 0), (0, .ref (ad 0 0)), (1, .int p1), (2, .int p2), (3, .int p3)]) S.1 S.2.1 dX5_endsOf_4 hl (by decide) rfl (fun ls hl => ?_)
  have L6 : ∀ (n : Nat), ∀ (x6 : Int32) (x4 : Int64), (d.1 0 0 1).toInt - x6.toInt < (n : Int) → 0 ≤ x6.toInt → x6.toInt ≤ (d.1 0 0 1).toInt → sp_X5_endsOf d p1 p2 p3 = lp_X5_endsOf_6 d p1 p2 p3 n x6 x4 → ∀ ls : Array Slot, lv_has ls 7 [(6, .int x6), (4, .long x4), (0, .ref (ad 0 0)), (1, .int p1), (2, .int p2), (3, .int p3)] → W p l e ({ frames := 3, cells := 0, slots := 0, locals := 70 } : Room) s m [.ref (ad 0 0), .int p1, .int p2, .int p3].toArray below meth c s.heap [] 0 0 (MQ below (qV (some (.long (sp_X5_endsOf d p1 p2 p3)))) [.ref (ad 0 0), .int p1, .int p2, .int p3].toArray s 0 0 (fun _ => False)) (F0 m 6 ls []) := by
    intro n
    induction n with
    | zero => intro x6 x4 hms v6_0 v6_1 hs ls hl; omega
    | succ n ih6 =>
      intro x6 x4 hms v6_0 v6_1 hs ls hl
      have hs := hs.trans (st_X5_endsOf_6.eq_1 d p1 p2 p3 (lp_X5_endsOf_6 d p1 p2 p3 n) x6 x4)
      refine lv_iload S.1 S.2.1 dX5_endsOf_6 (lv_at hl 0 rfl) ?_
      refine lv_aload_n S.1 S.2.1 dX5_endsOf_8 rfl (lv_at hl 2 rfl) ?_
      refine gf_RX5_98 S hK hX (v := d.1 0 0 1) rfl dX5_endsOf_9 ?_
      refine q_icmp_ge (tgt := 66) (xi := x6.toInt) (yi := (d.1 0 0 1).toInt) S rfl rfl dX5_endsOf_12 (by decide) (fun c1 => ?_) (fun c1 => ?_)
      · have hs := hs.trans (cif_t c1)
        refine lv_lload S.1 S.2.1 dX5_endsOf_66 (lv_at hl 1 rfl) ?_
        exact rL S hr hlk hs dX5_endsOf_68
      · have hs := hs.trans (cif_f c1)
        refine lv_lload S.1 S.2.1 dX5_endsOf_15 (lv_at hl 1 rfl) ?_
        refine lv_aload_n S.1 S.2.1 dX5_endsOf_17 rfl (lv_at hl 2 rfl) ?_
        refine gf_RX5_65 S hK hX dX5_endsOf_18 ?_
        have e8 := lin (a := 6) (z := 6) (x := p1) (y := x6) rfl (by omega) (by omega) (by omega)
        refine lv_bipush (v := 6) S.1 S.2.1 dX5_endsOf_21 (by decide) ?_
        refine lv_iload_n S.1 S.2.1 dX5_endsOf_23 rfl (lv_at hl 3 rfl) ?_
        refine lv_imul S.1 S.2.1 dX5_endsOf_24 ?_
        refine lv_iload S.1 S.2.1 dX5_endsOf_25 (lv_at hl 0 rfl) ?_
        refine lv_iadd S.1 S.2.1 dX5_endsOf_27 ?_
        refine al_M27 S hK hX (by omega) (by omega) (z := d.1 27 0 (ix ((6 * p1) + x6))) rfl dX5_endsOf_28 ?_
        refine q_if_ne (tgt := 36) (xi := (d.1 27 0 (ix ((6 * p1) + x6))).toInt) S rfl dX5_endsOf_29 (by decide) (fun c2 => ?_) (fun c2 => ?_)
        · have hs := hs.trans (cif_f c2)
          refine lv_aload_n S.1 S.2.1 dX5_endsOf_36 rfl (lv_at hl 2 rfl) ?_
          refine lv_iload S.1 S.2.1 dX5_endsOf_37 (lv_at hl 0 rfl) ?_
          refine lv_iload_n S.1 S.2.1 dX5_endsOf_39 rfl (lv_at hl 4 rfl) ?_
          refine lv_iload_n S.1 S.2.1 dX5_endsOf_40 rfl (lv_at hl 5 rfl) ?_
          refine cPV (rest := [.long x4]) S (c_X5_sumOf l D G ad d x6 p2 p3 hI) gV_RX5_205 ds_X5_sumOf ⟨rfl, rfl⟩ ⟨Nat.le_of_ble_eq_true rfl, Nat.le_of_ble_eq_true rfl⟩ ⟨blindX, recvX hK hX (k := 0) (i := 0) Nat.zero_lt_one rfl rfl, preX hK hN hX _⟩ rfl hl.1 rfl (Nat.le_of_ble_eq_true rfl) ⟨Nat.le_of_ble_eq_true rfl, Nat.le_of_ble_eq_true rfl⟩ dX5_endsOf_41 ?_
          refine lv_aload_n S.1 S.2.1 dX5_endsOf_44 rfl (lv_at hl 2 rfl) ?_
          refine gf_RX5_25 S hK hX dX5_endsOf_45 ?_
          refine lv_iload S.1 S.2.1 dX5_endsOf_48 (lv_at hl 0 rfl) ?_
          refine al_M7 S hK hX (by omega) (by omega) (z := d.1 7 0 (ix x6)) rfl dX5_endsOf_50 ?_
          refine lv_i2l S.1 S.2.1 dX5_endsOf_51 rfl ?_
          refine lv_lmul S.1 S.2.1 dX5_endsOf_52 ?_
          refine lv_ldc2 S.1 S.2.1 S.2.2.2.1 (S.2.2.2.2 _ wKL_RX5_113) dX5_endsOf_53 ?_
          refine lv_ldiv S.1 S.2.1 dX5_endsOf_56 (by decide) ?_
          refine lv_ladd S.1 S.2.1 dX5_endsOf_57 ?_
          refine lv_lstore (lv' := [(4, .long (x4 + (((sp_X5_sumOf d x6 p2 p3) * ((d.1 7 0 (ix x6)).toInt64)) / 100000))), (6, .int x6), (0, .ref (ad 0 0)), (1, .int p1), (2, .int p2), (3, .int p3)]) S.1 S.2.1 dX5_endsOf_58 hl (by decide) rfl (fun ls hl => ?_)
          refine lv_iinc (v := x6 + 1) (lv' := [(6, .int (x6 + 1)), (4, .long (x4 + (((sp_X5_sumOf d x6 p2 p3) * ((d.1 7 0 (ix x6)).toInt64)) / 100000))), (0, .ref (ad 0 0)), (1, .int p1), (2, .int p2), (3, .int p3)]) S.1 S.2.1 dX5_endsOf_60 hl (k := 1) rfl (by rfl) (by decide) rfl (fun ls hl => ?_)
          refine lv_goto (tgt := 6) S.1 S.2.1 dX5_endsOf_63 (by decide) ?_
          have e9 : ((x6 + 1)).toInt = x6.toInt + 1 := ti1 (by omega)
          exact ih6 (x6 + 1) (x4 + (((sp_X5_sumOf d x6 p2 p3) * ((d.1 7 0 (ix x6)).toInt64)) / 100000)) (by omega) (by omega) (by omega) hs _ (lv_sub hl [0, 1, 2, 3, 4, 5] rfl)
        · have hs := hs.trans (cif_t c2)
          refine lv_lconst (v := 0) S.1 S.2.1 dX5_endsOf_32 (by decide) ?_
          refine lv_goto (tgt := 57) S.1 S.2.1 dX5_endsOf_33 (by decide) ?_
          refine lv_ladd S.1 S.2.1 dX5_endsOf_57 ?_
          refine lv_lstore (lv' := [(4, .long (x4 + 0)), (6, .int x6), (0, .ref (ad 0 0)), (1, .int p1), (2, .int p2), (3, .int p3)]) S.1 S.2.1 dX5_endsOf_58 hl (by decide) rfl (fun ls hl => ?_)
          refine lv_iinc (v := x6 + 1) (lv' := [(6, .int (x6 + 1)), (4, .long (x4 + 0)), (0, .ref (ad 0 0)), (1, .int p1), (2, .int p2), (3, .int p3)]) S.1 S.2.1 dX5_endsOf_60 hl (k := 1) rfl (by rfl) (by decide) rfl (fun ls hl => ?_)
          refine lv_goto (tgt := 6) S.1 S.2.1 dX5_endsOf_63 (by decide) ?_
          have e9 : ((x6 + 1)).toInt = x6.toInt + 1 := ti1 (by omega)
          exact ih6 (x6 + 1) (x4 + 0) (by omega) (by omega) (by omega) hs _ (lv_sub hl [0, 1, 2, 3, 4, 5] rfl)
  exact L6 16 0 0 (by first | omega | (simp only [Int32.toInt_zero]; omega)) (by first | omega | (simp only [Int32.toInt_zero]; omega)) (by first | omega | (simp only [Int32.toInt_zero]; omega)) hs _ (lv_sub hl [0, 1, 2, 3, 4, 5] rfl)
set_option maxRecDepth 100000 in
set_option maxHeartbeats 8000000 in
theorem c_X5_balance (l : Launch) (D : va_G) (G : Gc) (ad : Nat → Nat → Nat) (d : Dt) (p1 : Int32) (p2 : Int32) (p3 : Int32) (p4 : Int32) (hI : MI d) : Met l yX5_balance (wsU yX5_balance cX5_balance 5 (some .long)) ({ frames := 4, cells := 0, slots := 0, locals := 96 } : Room) (va_Pc [.ref (ad 0 0), .int p1, .int p2, .int p3, .int p4] (XPre D (tysG G) (MF G ad) MN ad d)) (qV (some (.long (sp_X5_balance d p1 p2 p3 p4)))) 0 0 (fun _ => False) := by
  refine ent (by decide +kernel) (Nat.le_of_ble_eq_true rfl) ?_
  intro p e s m below meth c S hr hlk hpre ls hl
  have S : CallFix p m c cX5_balance 5 s [.ref (ad 0 0), .int p1, .int p2, .int p3, .int p4].toArray wsL_law RX5 := S
  obtain ⟨hK, hN, hX⟩ := hpre
  have hl : lv_has ls 5 [(0, .ref (ad 0 0)), (1, .int p1), (2, .int p2), (3, .int p3), (4, .int p4)] := hl
  have hs := sp_X5_balance.eq_1 d p1 p2 p3 p4
  have q1 := hI.1
  have q2 := hI.2.2.1
  have q3 := hI.2.2.2.1
  have q4 := hI.2.2.2.2.1
  refine lv_iload_n S.1 S.2.1 dX5_balance_0 rfl (lv_at hl 1 rfl) ?_
  refine cPS (rest := []) S (c_X5_noLine l p1) gS_RX5_209 ds_X5_noLine.2 ⟨rfl, rfl⟩ ⟨Nat.le_of_ble_eq_true rfl, Nat.le_of_ble_eq_true rfl⟩ rfl hl.1 rfl (Nat.le_of_ble_eq_true rfl) ⟨Nat.le_of_ble_eq_true rfl, Nat.le_of_ble_eq_true rfl⟩ dX5_balance_1 ?_
  refine q_if_ne_b (tgt := 26) S dX5_balance_4 (by decide) (fun c1 => ?_) (fun c1 => ?_)
  · have hs := hs.trans (cif_t c1)
    refine cPS (rest := []) S (c_X5_lost l) gS_RX5_92 ds_X5_lost.2 ⟨rfl, rfl⟩ ⟨Nat.le_of_ble_eq_true rfl, Nat.le_of_ble_eq_true rfl⟩ rfl hl.1 rfl (Nat.le_of_ble_eq_true rfl) ⟨Nat.le_of_ble_eq_true rfl, Nat.le_of_ble_eq_true rfl⟩ dX5_balance_26 ?_
    exact rL S hr hlk hs dX5_balance_29
  · have hs := hs.trans (cif_f c1)
    have f2 := nl_of c1
    refine lv_iload S.1 S.2.1 dX5_balance_7 (lv_at hl 4 rfl) ?_
    refine lv_i2l S.1 S.2.1 dX5_balance_9 rfl ?_
    refine lv_lconst (v := 0) S.1 S.2.1 dX5_balance_10 (by decide) ?_
    refine lv_lconst (v := 1) S.1 S.2.1 dX5_balance_11 (by decide) ?_
    refine cPS (rest := []) S (c_X5_in l p4.toInt64 0 1) gS_RX5_101 ds_X5_in.2 ⟨rfl, rfl⟩ ⟨Nat.le_of_ble_eq_true rfl, Nat.le_of_ble_eq_true rfl⟩ rfl hl.1 rfl (Nat.le_of_ble_eq_true rfl) ⟨Nat.le_of_ble_eq_true rfl, Nat.le_of_ble_eq_true rfl⟩ dX5_balance_12 ?_
    refine q_if_eq_b (tgt := 26) S dX5_balance_15 (by decide) (fun c3 => ?_) (fun c3 => ?_)
    · have hs := hs.trans (cif_f c3)
      refine cPS (rest := []) S (c_X5_lost l) gS_RX5_92 ds_X5_lost.2 ⟨rfl, rfl⟩ ⟨Nat.le_of_ble_eq_true rfl, Nat.le_of_ble_eq_true rfl⟩ rfl hl.1 rfl (Nat.le_of_ble_eq_true rfl) ⟨Nat.le_of_ble_eq_true rfl, Nat.le_of_ble_eq_true rfl⟩ dX5_balance_26 ?_
      exact rL S hr hlk hs dX5_balance_29
    · have hs := hs.trans (cif_t c3)
      refine lv_iload_n S.1 S.2.1 dX5_balance_18 rfl (lv_at hl 2 rfl) ?_
      refine lv_iload_n S.1 S.2.1 dX5_balance_19 rfl (lv_at hl 3 rfl) ?_
      refine cPS (rest := []) S (c_X5_areDays l p2 p3) gS_RX5_191 ds_X5_areDays.2 ⟨rfl, rfl⟩ ⟨Nat.le_of_ble_eq_true rfl, Nat.le_of_ble_eq_true rfl⟩ rfl hl.1 rfl (Nat.le_of_ble_eq_true rfl) ⟨Nat.le_of_ble_eq_true rfl, Nat.le_of_ble_eq_true rfl⟩ dX5_balance_20 ?_
      refine q_if_ne_b (tgt := 30) S dX5_balance_23 (by decide) (fun c4 => ?_) (fun c4 => ?_)
      · have hs := hs.trans (cif_t c4)
        refine lv_iload S.1 S.2.1 dX5_balance_30 (lv_at hl 4 rfl) ?_
        refine q_if_ne (tgt := 45) (xi := p4.toInt) S rfl dX5_balance_32 (by decide) (fun c5 => ?_) (fun c5 => ?_)
        · have hs := hs.trans (cif_f c5)
          refine lv_aload_n S.1 S.2.1 dX5_balance_45 rfl (lv_at hl 0 rfl) ?_
          refine lv_iload_n S.1 S.2.1 dX5_balance_46 rfl (lv_at hl 1 rfl) ?_
          refine lv_iload_n S.1 S.2.1 dX5_balance_47 rfl (lv_at hl 2 rfl) ?_
          refine lv_iload_n S.1 S.2.1 dX5_balance_48 rfl (lv_at hl 3 rfl) ?_
          refine cPV (rest := []) S (c_X5_endsOf l D G ad d p1 p2 p3 hI (by omega) (by omega)) gV_RX5_219 ds_X5_endsOf ⟨rfl, rfl⟩ ⟨Nat.le_of_ble_eq_true rfl, Nat.le_of_ble_eq_true rfl⟩ ⟨blindX, recvX hK hX (k := 0) (i := 0) Nat.zero_lt_one rfl rfl, preX hK hN hX _⟩ rfl hl.1 rfl (Nat.le_of_ble_eq_true rfl) ⟨Nat.le_of_ble_eq_true rfl, Nat.le_of_ble_eq_true rfl⟩ dX5_balance_49 ?_
          exact rL S hr hlk hs dX5_balance_52
        · have hs := hs.trans (cif_t c5)
          refine lv_aload_n S.1 S.2.1 dX5_balance_35 rfl (lv_at hl 0 rfl) ?_
          refine lv_iload_n S.1 S.2.1 dX5_balance_36 rfl (lv_at hl 1 rfl) ?_
          refine lv_iload_n S.1 S.2.1 dX5_balance_37 rfl (lv_at hl 2 rfl) ?_
          refine lv_iload_n S.1 S.2.1 dX5_balance_38 rfl (lv_at hl 3 rfl) ?_
          refine cPV (rest := []) S (c_X5_imbalance l D G ad d p1 p2 p3 hI (by omega) (by omega)) gV_RX5_216 ds_X5_imbalance ⟨rfl, rfl⟩ ⟨Nat.le_of_ble_eq_true rfl, Nat.le_of_ble_eq_true rfl⟩ ⟨blindX, recvX hK hX (k := 0) (i := 0) Nat.zero_lt_one rfl rfl, preX hK hN hX _⟩ rfl hl.1 rfl (Nat.le_of_ble_eq_true rfl) ⟨Nat.le_of_ble_eq_true rfl, Nat.le_of_ble_eq_true rfl⟩ dX5_balance_39 ?_
          refine lv_goto (tgt := 52) S.1 S.2.1 dX5_balance_42 (by decide) ?_
          exact rL S hr hlk hs dX5_balance_52
      · have hs := hs.trans (cif_f c4)
        refine cPS (rest := []) S (c_X5_lost l) gS_RX5_92 ds_X5_lost.2 ⟨rfl, rfl⟩ ⟨Nat.le_of_ble_eq_true rfl, Nat.le_of_ble_eq_true rfl⟩ rfl hl.1 rfl (Nat.le_of_ble_eq_true rfl) ⟨Nat.le_of_ble_eq_true rfl, Nat.le_of_ble_eq_true rfl⟩ dX5_balance_26 ?_
        exact rL S hr hlk hs dX5_balance_29
set_option maxRecDepth 100000 in
set_option maxHeartbeats 8000000 in
theorem c_X5_beyondOf (l : Launch) (D : va_G) (G : Gc) (ad : Nat → Nat → Nat) (d : Dt) (p1 : Int32) (p2 : Int32) (hI : MI d) : Met l yX5_beyondOf (wsU yX5_beyondOf cX5_beyondOf 7 (some .int)) ({ frames := 4, cells := 0, slots := 0, locals := 96 } : Room) (va_Pc [.ref (ad 0 0), .int p1, .int p2] (XPre D (tysG G) (MF G ad) MN ad d)) (qV (some (.int (sp_X5_beyondOf d p1 p2)))) 0 0 (fun _ => False) := by
  refine ent (by decide +kernel) (Nat.le_of_ble_eq_true rfl) ?_
  intro p e s m below meth c S hr hlk hpre ls hl
  have S : CallFix p m c cX5_beyondOf 7 s [.ref (ad 0 0), .int p1, .int p2].toArray wsL_law RX5 := S
  obtain ⟨hK, hN, hX⟩ := hpre
  have hl : lv_has ls 7 [(0, .ref (ad 0 0)), (1, .int p1), (2, .int p2)] := hl
  have hs := sp_X5_beyondOf.eq_1 d p1 p2
  have q1 := hI.1
  have q2 := hI.2.2.1
  have q3 := hI.2.2.2.1
  have q4 := hI.2.2.2.2.1
  refine lv_iconst (v := 0) S.1 S.2.1 dX5_beyondOf_0 (by decide) ?_
  refine lv_istore_n (lv' := [(3, .int 0), (0, .ref (ad 0 0)), (1, .int p1), (2, .int p2)]) S.1 S.2.1 dX5_beyondOf_1 rfl hl (by decide) rfl (fun ls hl => ?_)
  refine lv_iconst (v := 0) S.1 S.2.1 dX5_beyondOf_2 (by decide) ?_
  refine lv_istore (lv' := [(4, .int 0), (3, .int 0), (0, .ref (ad 0 0)), (1, .int p1), (2, .int p2)]) S.1 S.2.1 dX5_beyondOf_3 hl (by decide) rfl (fun ls hl => ?_)
  have L5 : ∀ (n : Nat), ∀ (x4 : Int32) (x3 : Int32), 4 - x4.toInt < (n : Int) → 0 ≤ x4.toInt → x4.toInt ≤ 4 → sp_X5_beyondOf d p1 p2 = lp_X5_beyondOf_5 d p1 p2 n x4 x3 → ∀ ls : Array Slot, lv_has ls 7 [(4, .int x4), (3, .int x3), (0, .ref (ad 0 0)), (1, .int p1), (2, .int p2)] → W p l e ({ frames := 4, cells := 0, slots := 0, locals := 96 } : Room) s m [.ref (ad 0 0), .int p1, .int p2].toArray below meth c s.heap [] 0 0 (MQ below (qV (some (.int (sp_X5_beyondOf d p1 p2)))) [.ref (ad 0 0), .int p1, .int p2].toArray s 0 0 (fun _ => False)) (F0 m 5 ls []) := by
    intro n
    induction n with
    | zero => intro x4 x3 hms v5_0 v5_1 hs ls hl; omega
    | succ n ih5 =>
      intro x4 x3 hms v5_0 v5_1 hs ls hl
      have hs := hs.trans (st_X5_beyondOf_5.eq_1 d p1 p2 (lp_X5_beyondOf_5 d p1 p2 n) x4 x3)
      refine lv_iload S.1 S.2.1 dX5_beyondOf_5 (lv_at hl 0 rfl) ?_
      refine lv_iconst (v := 4) S.1 S.2.1 dX5_beyondOf_7 (by decide) ?_
      refine q_icmp_ge (tgt := 57) (xi := x4.toInt) (yi := 4) S rfl rfl dX5_beyondOf_8 (by decide) (fun c1 => ?_) (fun c1 => ?_)
      · have hs := hs.trans (cif_t c1)
        refine lv_iload_n S.1 S.2.1 dX5_beyondOf_57 rfl (lv_at hl 1 rfl) ?_
        exact rI S hr hlk hs dX5_beyondOf_58
      · have hs := hs.trans (cif_f c1)
        refine lv_aload_n S.1 S.2.1 dX5_beyondOf_11 rfl (lv_at hl 2 rfl) ?_
        refine lv_iload S.1 S.2.1 dX5_beyondOf_12 (lv_at hl 0 rfl) ?_
        refine lv_iload_n S.1 S.2.1 dX5_beyondOf_14 rfl (lv_at hl 3 rfl) ?_
        refine lv_iload_n S.1 S.2.1 dX5_beyondOf_15 rfl (lv_at hl 4 rfl) ?_
        refine cPV (rest := []) S (c_X5_endsOf l D G ad d x4 p1 p2 hI (by omega) (by omega)) gV_RX5_219 ds_X5_endsOf ⟨rfl, rfl⟩ ⟨Nat.le_of_ble_eq_true rfl, Nat.le_of_ble_eq_true rfl⟩ ⟨blindX, recvX hK hX (k := 0) (i := 0) Nat.zero_lt_one rfl rfl, preX hK hN hX _⟩ rfl hl.1 rfl (Nat.le_of_ble_eq_true rfl) ⟨Nat.le_of_ble_eq_true rfl, Nat.le_of_ble_eq_true rfl⟩ dX5_beyondOf_16 ?_
        refine lv_lstore (lv' := [(5, .long (sp_X5_endsOf d x4 p1 p2)), (4, .int x4), (3, .int x3), (0, .ref (ad 0 0)), (1, .int p1), (2, .int p2)]) S.1 S.2.1 dX5_beyondOf_19 hl (by decide) rfl (fun ls hl => ?_)
        refine lv_iload_n S.1 S.2.1 dX5_beyondOf_21 rfl (lv_at hl 2 rfl) ?_
        refine lv_aload_n S.1 S.2.1 dX5_beyondOf_22 rfl (lv_at hl 3 rfl) ?_
        refine lv_iload S.1 S.2.1 dX5_beyondOf_23 (lv_at hl 1 rfl) ?_
        refine lv_iload_n S.1 S.2.1 dX5_beyondOf_25 rfl (lv_at hl 4 rfl) ?_
        refine lv_iload_n S.1 S.2.1 dX5_beyondOf_26 rfl (lv_at hl 5 rfl) ?_
        refine cPV (rest := [.int x3]) S (c_X5_imbalance l D G ad d x4 p1 p2 hI (by omega) (by omega)) gV_RX5_216 ds_X5_imbalance ⟨rfl, rfl⟩ ⟨Nat.le_of_ble_eq_true rfl, Nat.le_of_ble_eq_true rfl⟩ ⟨blindX, recvX hK hX (k := 0) (i := 0) Nat.zero_lt_one rfl rfl, preX hK hN hX _⟩ rfl hl.1 rfl (Nat.le_of_ble_eq_true rfl) ⟨Nat.le_of_ble_eq_true rfl, Nat.le_of_ble_eq_true rfl⟩ dX5_beyondOf_27 ?_
        refine lv_lload S.1 S.2.1 dX5_beyondOf_30 (lv_at hl 0 rfl) ?_
        refine lv_lneg S.1 S.2.1 dX5_beyondOf_32 ?_
        refine lv_lload S.1 S.2.1 dX5_beyondOf_33 (lv_at hl 0 rfl) ?_
        refine cPS (rest := [.int x3]) S (c_X5_in l (sp_X5_imbalance d x4 p1 p2) (-(sp_X5_endsOf d x4 p1 p2)) (sp_X5_endsOf d x4 p1 p2)) gS_RX5_101 ds_X5_in.2 ⟨rfl, rfl⟩ ⟨Nat.le_of_ble_eq_true rfl, Nat.le_of_ble_eq_true rfl⟩ rfl hl.1 rfl (Nat.le_of_ble_eq_true rfl) ⟨Nat.le_of_ble_eq_true rfl, Nat.le_of_ble_eq_true rfl⟩ dX5_beyondOf_35 ?_
        refine q_if_eq_b (tgt := 45) S dX5_beyondOf_38 (by decide) (fun c2 => ?_) (fun c2 => ?_)
        · have hs := hs.trans (cif_f c2)
          refine lv_iconst (v := 1) S.1 S.2.1 dX5_beyondOf_45 (by decide) ?_
          refine lv_iload S.1 S.2.1 dX5_beyondOf_46 (lv_at hl 1 rfl) ?_
          refine lv_ishl S.1 S.2.1 dX5_beyondOf_48 ?_
          refine lv_ior S.1 S.2.1 dX5_beyondOf_49 ?_
          refine lv_istore_n (lv' := [(3, .int (x3 ||| (1 <<< (x4 &&& 31)))), (5, .long (sp_X5_endsOf d x4 p1 p2)), (4, .int x4), (0, .ref (ad 0 0)), (1, .int p1), (2, .int p2)]) S.1 S.2.1 dX5_beyondOf_50 rfl hl (by decide) rfl (fun ls hl => ?_)
          refine lv_iinc (v := x4 + 1) (lv' := [(4, .int (x4 + 1)), (3, .int (x3 ||| (1 <<< (x4 &&& 31)))), (5, .long (sp_X5_endsOf d x4 p1 p2)), (0, .ref (ad 0 0)), (1, .int p1), (2, .int p2)]) S.1 S.2.1 dX5_beyondOf_51 hl (k := 2) rfl (by rfl) (by decide) rfl (fun ls hl => ?_)
          refine lv_goto (tgt := 5) S.1 S.2.1 dX5_beyondOf_54 (by decide) ?_
          have e9 : ((x4 + 1)).toInt = x4.toInt + 1 := ti1 (by omega)
          exact ih5 (x4 + 1) (x3 ||| (1 <<< (x4 &&& 31))) (by omega) (by omega) (by omega) hs _ (lv_sub hl [0, 1, 3, 4, 5] rfl)
        · have hs := hs.trans (cif_t c2)
          refine lv_iconst (v := 0) S.1 S.2.1 dX5_beyondOf_41 (by decide) ?_
          refine lv_goto (tgt := 49) S.1 S.2.1 dX5_beyondOf_42 (by decide) ?_
          refine lv_ior S.1 S.2.1 dX5_beyondOf_49 ?_
          refine lv_istore_n (lv' := [(3, .int (x3 ||| 0)), (5, .long (sp_X5_endsOf d x4 p1 p2)), (4, .int x4), (0, .ref (ad 0 0)), (1, .int p1), (2, .int p2)]) S.1 S.2.1 dX5_beyondOf_50 rfl hl (by decide) rfl (fun ls hl => ?_)
          refine lv_iinc (v := x4 + 1) (lv' := [(4, .int (x4 + 1)), (3, .int (x3 ||| 0)), (5, .long (sp_X5_endsOf d x4 p1 p2)), (0, .ref (ad 0 0)), (1, .int p1), (2, .int p2)]) S.1 S.2.1 dX5_beyondOf_51 hl (k := 2) rfl (by rfl) (by decide) rfl (fun ls hl => ?_)
          refine lv_goto (tgt := 5) S.1 S.2.1 dX5_beyondOf_54 (by decide) ?_
          have e9 : ((x4 + 1)).toInt = x4.toInt + 1 := ti1 (by omega)
          exact ih5 (x4 + 1) (x3 ||| 0) (by omega) (by omega) (by omega) hs _ (lv_sub hl [0, 1, 3, 4, 5] rfl)
  exact L5 16 0 0 (by first | omega | (simp only [Int32.toInt_zero]; omega)) (by first | omega | (simp only [Int32.toInt_zero]; omega)) (by first | omega | (simp only [Int32.toInt_zero]; omega)) hs _ (lv_sub hl [0, 1, 2, 3, 4] rfl)
set_option maxRecDepth 100000 in
set_option maxHeartbeats 8000000 in
theorem c_X5_beyond (l : Launch) (D : va_G) (G : Gc) (ad : Nat → Nat → Nat) (d : Dt) (p1 : Int32) (p2 : Int32) (hI : MI d) : Met l yX5_beyond (wsU yX5_beyond cX5_beyond 3 (some .int)) ({ frames := 5, cells := 0, slots := 0, locals := 122 } : Room) (va_Pc [.ref (ad 0 0), .int p1, .int p2] (XPre D (tysG G) (MF G ad) MN ad d)) (qV (some (.int (sp_X5_beyond d p1 p2)))) 0 0 (fun _ => False) := by
  refine ent (by decide +kernel) (Nat.le_of_ble_eq_true rfl) ?_
  intro p e s m below meth c S hr hlk hpre ls hl
  have S : CallFix p m c cX5_beyond 3 s [.ref (ad 0 0), .int p1, .int p2].toArray wsL_law RX5 := S
  obtain ⟨hK, hN, hX⟩ := hpre
  have hl : lv_has ls 3 [(0, .ref (ad 0 0)), (1, .int p1), (2, .int p2)] := hl
  have hs := sp_X5_beyond.eq_1 d p1 p2
  have q1 := hI.1
  have q2 := hI.2.2.1
  have q3 := hI.2.2.2.1
  have q4 := hI.2.2.2.2.1
  refine lv_iload_n S.1 S.2.1 dX5_beyond_0 rfl (lv_at hl 1 rfl) ?_
  refine lv_iload_n S.1 S.2.1 dX5_beyond_1 rfl (lv_at hl 2 rfl) ?_
  refine cPS (rest := []) S (c_X5_areDays l p1 p2) gS_RX5_191 ds_X5_areDays.2 ⟨rfl, rfl⟩ ⟨Nat.le_of_ble_eq_true rfl, Nat.le_of_ble_eq_true rfl⟩ rfl hl.1 rfl (Nat.le_of_ble_eq_true rfl) ⟨Nat.le_of_ble_eq_true rfl, Nat.le_of_ble_eq_true rfl⟩ dX5_beyond_2 ?_
  refine q_if_eq_b (tgt := 17) S dX5_beyond_5 (by decide) (fun c1 => ?_) (fun c1 => ?_)
  · have hs := hs.trans (cif_f c1)
    refine lv_bipush (v := (-2)) S.1 S.2.1 dX5_beyond_17 (by decide) ?_
    exact rI S hr hlk hs dX5_beyond_19
  · have hs := hs.trans (cif_t c1)
    refine lv_aload_n S.1 S.2.1 dX5_beyond_8 rfl (lv_at hl 0 rfl) ?_
    refine lv_iload_n S.1 S.2.1 dX5_beyond_9 rfl (lv_at hl 1 rfl) ?_
    refine lv_iload_n S.1 S.2.1 dX5_beyond_10 rfl (lv_at hl 2 rfl) ?_
    refine cPV (rest := []) S (c_X5_beyondOf l D G ad d p1 p2 hI) gV_RX5_222 ds_X5_beyondOf ⟨rfl, rfl⟩ ⟨Nat.le_of_ble_eq_true rfl, Nat.le_of_ble_eq_true rfl⟩ ⟨blindX, recvX hK hX (k := 0) (i := 0) Nat.zero_lt_one rfl rfl, preX hK hN hX _⟩ rfl hl.1 rfl (Nat.le_of_ble_eq_true rfl) ⟨Nat.le_of_ble_eq_true rfl, Nat.le_of_ble_eq_true rfl⟩ dX5_beyond_11 ?_
    refine lv_goto (tgt := 19) S.1 S.2.1 dX5_beyond_14 (by decide) ?_
    exact rI S hr hlk hs dX5_beyond_19
set_option maxRecDepth 100000 in
set_option maxHeartbeats 8000000 in
theorem c_X5_explains (l : Launch) (D : va_G) (G : Gc) (ad : Nat → Nat → Nat) (d : Dt) (p1 : Int32) (p2 : Int32) (p3 : Int32) (hI : MI d) : Met l yX5_explains (wsU yX5_explains cX5_explains 18 (some .long)) ({ frames := 5, cells := 0, slots := 0, locals := 122 } : Room) (va_Pc [.ref (ad 0 0), .int p1, .int p2, .int p3] (XPre D (tysG G) (MF G ad) MN ad d)) (qV (some (.long (sp_X5_explains d p1 p2 p3)))) 0 0 (fun _ => False) := by
  refine ent (by decide +kernel) (Nat.le_of_ble_eq_true rfl) ?_
  intro p e s m below meth c S hr hlk hpre ls hl
  have S : CallFix p m c cX5_explains 18 s [.ref (ad 0 0), .int p1, .int p2, .int p3].toArray wsL_law RX5 := S
  obtain ⟨hK, hN, hX⟩ := hpre
  have hl : lv_has ls 18 [(0, .ref (ad 0 0)), (1, .int p1), (2, .int p2), (3, .int p3)] := hl
  have hs := sp_X5_explains.eq_1 d p1 p2 p3
  have q1 := hI.1
  have q2 := hI.2.2.1
  have q3 := hI.2.2.2.1
  have q4 := hI.2.2.2.2.1
  refine lv_aload_n S.1 S.2.1 dX5_explains_0 rfl (lv_at hl 0 rfl) ?_
  refine lv_iload_n S.1 S.2.1 dX5_explains_1 rfl (lv_at hl 1 rfl) ?_
  refine cPV (rest := []) S (c_X5_noMeter l D G ad d p1) gV_RX5_115 ds_X5_noMeter ⟨rfl, rfl⟩ ⟨Nat.le_of_ble_eq_true rfl, Nat.le_of_ble_eq_true rfl⟩ ⟨blindX, recvX hK hX (k := 0) (i := 0) Nat.zero_lt_one rfl rfl, preX hK hN hX _⟩ rfl hl.1 rfl (Nat.le_of_ble_eq_true rfl) ⟨Nat.le_of_ble_eq_true rfl, Nat.le_of_ble_eq_true rfl⟩ dX5_explains_2 ?_
  refine q_if_ne_b (tgt := 16) S dX5_explains_5 (by decide) (fun c1 => ?_) (fun c1 => ?_)
  · have hs := hs.trans (cif_t c1)
    refine cPS (rest := []) S (c_X5_lost l) gS_RX5_92 ds_X5_lost.2 ⟨rfl, rfl⟩ ⟨Nat.le_of_ble_eq_true rfl, Nat.le_of_ble_eq_true rfl⟩ rfl hl.1 rfl (Nat.le_of_ble_eq_true rfl) ⟨Nat.le_of_ble_eq_true rfl, Nat.le_of_ble_eq_true rfl⟩ dX5_explains_16 ?_
    exact rL S hr hlk hs dX5_explains_19
  · have hs := hs.trans (cif_f c1)
    have f2 := nm_of hI c1
    refine lv_iload_n S.1 S.2.1 dX5_explains_8 rfl (lv_at hl 2 rfl) ?_
    refine lv_iload_n S.1 S.2.1 dX5_explains_9 rfl (lv_at hl 3 rfl) ?_
    refine cPS (rest := []) S (c_X5_areDays l p2 p3) gS_RX5_191 ds_X5_areDays.2 ⟨rfl, rfl⟩ ⟨Nat.le_of_ble_eq_true rfl, Nat.le_of_ble_eq_true rfl⟩ rfl hl.1 rfl (Nat.le_of_ble_eq_true rfl) ⟨Nat.le_of_ble_eq_true rfl, Nat.le_of_ble_eq_true rfl⟩ dX5_explains_10 ?_
    refine q_if_ne_b (tgt := 20) S dX5_explains_13 (by decide) (fun c3 => ?_) (fun c3 => ?_)
    · have hs := hs.trans (cif_t c3)
      refine lv_aload_n S.1 S.2.1 dX5_explains_20 rfl (lv_at hl 0 rfl) ?_
      refine lv_iload_n S.1 S.2.1 dX5_explains_21 rfl (lv_at hl 2 rfl) ?_
      refine lv_iload_n S.1 S.2.1 dX5_explains_22 rfl (lv_at hl 3 rfl) ?_
      refine cPV (rest := []) S (c_X5_beyondOf l D G ad d p2 p3 hI) gV_RX5_222 ds_X5_beyondOf ⟨rfl, rfl⟩ ⟨Nat.le_of_ble_eq_true rfl, Nat.le_of_ble_eq_true rfl⟩ ⟨blindX, recvX hK hX (k := 0) (i := 0) Nat.zero_lt_one rfl rfl, preX hK hN hX _⟩ rfl hl.1 rfl (Nat.le_of_ble_eq_true rfl) ⟨Nat.le_of_ble_eq_true rfl, Nat.le_of_ble_eq_true rfl⟩ dX5_explains_23 ?_
      refine q_if_ne (tgt := 31) (xi := (sp_X5_beyondOf d p2 p3).toInt) S rfl dX5_explains_26 (by decide) (fun c4 => ?_) (fun c4 => ?_)
      · have hs := hs.trans (cif_f c4)
        refine lv_ldc2 S.1 S.2.1 S.2.2.2.1 (S.2.2.2.2 _ wKL_RX5_226) dX5_explains_31 ?_
        refine lv_lstore (lv' := [(4, .long (-4000000000000000000)), (0, .ref (ad 0 0)), (1, .int p1), (2, .int p2), (3, .int p3)]) S.1 S.2.1 dX5_explains_34 hl (by decide) rfl (fun ls hl => ?_)
        refine lv_ldc2 S.1 S.2.1 S.2.2.2.1 (S.2.2.2.2 _ wKL_RX5_228) dX5_explains_36 ?_
        refine lv_lstore (lv' := [(6, .long 4000000000000000000), (4, .long (-4000000000000000000)), (0, .ref (ad 0 0)), (1, .int p1), (2, .int p2), (3, .int p3)]) S.1 S.2.1 dX5_explains_39 hl (by decide) rfl (fun ls hl => ?_)
        refine lv_iconst (v := 0) S.1 S.2.1 dX5_explains_41 (by decide) ?_
        refine lv_istore (lv' := [(8, .int 0), (6, .long 4000000000000000000), (4, .long (-4000000000000000000)), (0, .ref (ad 0 0)), (1, .int p1), (2, .int p2), (3, .int p3)]) S.1 S.2.1 dX5_explains_42 hl (by decide) rfl (fun ls hl => ?_)
        have L44 : ∀ (n : Nat), ∀ (x8 : Int32) (x6 : Int64) (x4 : Int64), 4 - x8.toInt < (n : Int) → 0 ≤ x8.toInt → x8.toInt ≤ 4 → sp_X5_explains d p1 p2 p3 = lp_X5_explains_44 d p1 p2 p3 n x8 x6 x4 → ∀ ls : Array Slot, lv_has ls 18 [(8, .int x8), (6, .long x6), (4, .long x4), (0, .ref (ad 0 0)), (1, .int p1), (2, .int p2), (3, .int p3)] → W p l e ({ frames := 5, cells := 0, slots := 0, locals := 122 } : Room) s m [.ref (ad 0 0), .int p1, .int p2, .int p3].toArray below meth c s.heap [] 0 0 (MQ below (qV (some (.long (sp_X5_explains d p1 p2 p3)))) [.ref (ad 0 0), .int p1, .int p2, .int p3].toArray s 0 0 (fun _ => False)) (F0 m 44 ls []) := by
          intro n
          induction n with
          | zero => intro x8 x6 x4 hms v44_0 v44_1 hs ls hl; omega
          | succ n ih44 =>
            intro x8 x6 x4 hms v44_0 v44_1 hs ls hl
            have hs := hs.trans (st_X5_explains_44.eq_1 d p1 p2 p3 (lp_X5_explains_44 d p1 p2 p3 n) x8 x6 x4)
            refine lv_iload S.1 S.2.1 dX5_explains_44 (lv_at hl 0 rfl) ?_
            refine lv_iconst (v := 4) S.1 S.2.1 dX5_explains_46 (by decide) ?_
            refine q_icmp_ge (tgt := 195) (xi := x8.toInt) (yi := 4) S rfl rfl dX5_explains_47 (by decide) (fun c5 => ?_) (fun c5 => ?_)
            · have hs := hs.trans (cif_t c5)
              refine lv_lload S.1 S.2.1 dX5_explains_195 (lv_at hl 2 rfl) ?_
              refine lv_lload S.1 S.2.1 dX5_explains_197 (lv_at hl 1 rfl) ?_
              refine q_lcmp_le (tgt := 207) (xi := x4.toInt) (yi := x6.toInt) S rfl rfl dX5_explains_199 dX5_explains_200 (by decide) (fun c6 => ?_) (fun c6 => ?_)
              · have hs := hs.trans (cif_t c6)
                refine lv_lload S.1 S.2.1 dX5_explains_207 (lv_at hl 2 rfl) ?_
                refine lv_lconst (v := 0) S.1 S.2.1 dX5_explains_209 (by decide) ?_
                refine q_lcmp_le (tgt := 219) (xi := x4.toInt) (yi := 0) S rfl rfl dX5_explains_210 dX5_explains_211 (by decide) (fun c7 => ?_) (fun c7 => ?_)
                · have hs := hs.trans (cif_t c7)
                  refine lv_lload S.1 S.2.1 dX5_explains_219 (lv_at hl 1 rfl) ?_
                  refine lv_lconst (v := 0) S.1 S.2.1 dX5_explains_221 (by decide) ?_
                  refine q_lcmp_ge (tgt := 231) (xi := x6.toInt) (yi := 0) S rfl rfl dX5_explains_222 dX5_explains_223 (by decide) (fun c8 => ?_) (fun c8 => ?_)
                  · have hs := hs.trans (cif_t c8)
                    refine lv_lconst (v := 0) S.1 S.2.1 dX5_explains_231 (by decide) ?_
                    exact rL S hr hlk hs dX5_explains_232
                  · have hs := hs.trans (cif_f c8)
                    refine lv_lload S.1 S.2.1 dX5_explains_226 (lv_at hl 1 rfl) ?_
                    refine lv_goto (tgt := 232) S.1 S.2.1 dX5_explains_228 (by decide) ?_
                    exact rL S hr hlk hs dX5_explains_232
                · have hs := hs.trans (cif_f c7)
                  refine lv_lload S.1 S.2.1 dX5_explains_214 (lv_at hl 2 rfl) ?_
                  refine lv_goto (tgt := 232) S.1 S.2.1 dX5_explains_216 (by decide) ?_
                  exact rL S hr hlk hs dX5_explains_232
              · have hs := hs.trans (cif_f c6)
                refine lv_lconst (v := 0) S.1 S.2.1 dX5_explains_203 (by decide) ?_
                refine lv_goto (tgt := 232) S.1 S.2.1 dX5_explains_204 (by decide) ?_
                exact rL S hr hlk hs dX5_explains_232
            · have hs := hs.trans (cif_f c5)
              refine lv_aload_n S.1 S.2.1 dX5_explains_50 rfl (lv_at hl 3 rfl) ?_
              refine lv_iload S.1 S.2.1 dX5_explains_51 (lv_at hl 0 rfl) ?_
              refine lv_iload_n S.1 S.2.1 dX5_explains_53 rfl (lv_at hl 5 rfl) ?_
              refine lv_iload_n S.1 S.2.1 dX5_explains_54 rfl (lv_at hl 6 rfl) ?_
              refine cPV (rest := []) S (c_X5_imbalance l D G ad d x8 p2 p3 hI (by omega) (by omega)) gV_RX5_216 ds_X5_imbalance ⟨rfl, rfl⟩ ⟨Nat.le_of_ble_eq_true rfl, Nat.le_of_ble_eq_true rfl⟩ ⟨blindX, recvX hK hX (k := 0) (i := 0) Nat.zero_lt_one rfl rfl, preX hK hN hX _⟩ rfl hl.1 rfl (Nat.le_of_ble_eq_true rfl) ⟨Nat.le_of_ble_eq_true rfl, Nat.le_of_ble_eq_true rfl⟩ dX5_explains_55 ?_
              refine lv_lstore (lv' := [(9, .long (sp_X5_imbalance d x8 p2 p3)), (8, .int x8), (6, .long x6), (4, .long x4), (0, .ref (ad 0 0)), (1, .int p1), (2, .int p2), (3, .int p3)]) S.1 S.2.1 dX5_explains_58 hl (by decide) rfl (fun ls hl => ?_)
              refine lv_aload_n S.1 S.2.1 dX5_explains_60 rfl (lv_at hl 4 rfl) ?_
              refine lv_iload S.1 S.2.1 dX5_explains_61 (lv_at hl 1 rfl) ?_
              refine lv_iload_n S.1 S.2.1 dX5_explains_63 rfl (lv_at hl 6 rfl) ?_
              refine lv_iload_n S.1 S.2.1 dX5_explains_64 rfl (lv_at hl 7 rfl) ?_
              refine cPV (rest := []) S (c_X5_endsOf l D G ad d x8 p2 p3 hI (by omega) (by omega)) gV_RX5_219 ds_X5_endsOf ⟨rfl, rfl⟩ ⟨Nat.le_of_ble_eq_true rfl, Nat.le_of_ble_eq_true rfl⟩ ⟨blindX, recvX hK hX (k := 0) (i := 0) Nat.zero_lt_one rfl rfl, preX hK hN hX _⟩ rfl hl.1 rfl (Nat.le_of_ble_eq_true rfl) ⟨Nat.le_of_ble_eq_true rfl, Nat.le_of_ble_eq_true rfl⟩ dX5_explains_65 ?_
              refine lv_lstore (lv' := [(11, .long (sp_X5_endsOf d x8 p2 p3)), (9, .long (sp_X5_imbalance d x8 p2 p3)), (8, .int x8), (6, .long x6), (4, .long x4), (0, .ref (ad 0 0)), (1, .int p1), (2, .int p2), (3, .int p3)]) S.1 S.2.1 dX5_explains_68 hl (by decide) rfl (fun ls hl => ?_)
              refine lv_aload_n S.1 S.2.1 dX5_explains_70 rfl (lv_at hl 5 rfl) ?_
              refine gf_RX5_65 S hK hX dX5_explains_71 ?_
              have e8 := lin (a := 6) (z := 6) (x := x8) (y := p1) rfl (by omega) (by omega) (by omega)
              refine lv_bipush (v := 6) S.1 S.2.1 dX5_explains_74 (by decide) ?_
              refine lv_iload S.1 S.2.1 dX5_explains_76 (lv_at hl 2 rfl) ?_
              refine lv_imul S.1 S.2.1 dX5_explains_78 ?_
              refine lv_iload_n S.1 S.2.1 dX5_explains_79 rfl (lv_at hl 6 rfl) ?_
              refine lv_iadd S.1 S.2.1 dX5_explains_80 ?_
              refine al_M27 S hK hX (by omega) (by omega) (z := d.1 27 0 (ix ((6 * x8) + p1))) rfl dX5_explains_81 ?_
              refine lv_istore (lv' := [(13, .int (d.1 27 0 (ix ((6 * x8) + p1)))), (11, .long (sp_X5_endsOf d x8 p2 p3)), (9, .long (sp_X5_imbalance d x8 p2 p3)), (8, .int x8), (6, .long x6), (4, .long x4), (0, .ref (ad 0 0)), (1, .int p1), (2, .int p2), (3, .int p3)]) S.1 S.2.1 dX5_explains_82 hl (by decide) rfl (fun ls hl => ?_)
              refine lv_iload S.1 S.2.1 dX5_explains_84 (lv_at hl 0 rfl) ?_
              refine q_if_ne (tgt := 104) (xi := (d.1 27 0 (ix ((6 * x8) + p1))).toInt) S rfl dX5_explains_86 (by decide) (fun c9 => ?_) (fun c9 => ?_)
              · have hs := hs.trans (cif_f c9)
                refine lv_iload S.1 S.2.1 dX5_explains_104 (lv_at hl 0 rfl) ?_
                refine q_if_le (tgt := 118) (xi := (d.1 27 0 (ix ((6 * x8) + p1))).toInt) S rfl dX5_explains_106 (by decide) (fun c10 => ?_) (fun c10 => ?_)
                · have hs := hs.trans (cif_t c10)
                  refine lv_lload S.1 S.2.1 dX5_explains_118 (lv_at hl 2 rfl) ?_
                  refine lv_lload S.1 S.2.1 dX5_explains_120 (lv_at hl 1 rfl) ?_
                  refine lv_lsub S.1 S.2.1 dX5_explains_122 ?_
                  refine lv_lstore (lv' := [(14, .long ((sp_X5_imbalance d x8 p2 p3) - (sp_X5_endsOf d x8 p2 p3))), (13, .int (d.1 27 0 (ix ((6 * x8) + p1)))), (11, .long (sp_X5_endsOf d x8 p2 p3)), (9, .long (sp_X5_imbalance d x8 p2 p3)), (8, .int x8), (6, .long x6), (4, .long x4), (0, .ref (ad 0 0)), (1, .int p1), (2, .int p2), (3, .int p3)]) S.1 S.2.1 dX5_explains_123 hl (by decide) rfl (fun ls hl => ?_)
                  refine lv_iload S.1 S.2.1 dX5_explains_125 (lv_at hl 1 rfl) ?_
                  refine q_if_le (tgt := 138) (xi := (d.1 27 0 (ix ((6 * x8) + p1))).toInt) S rfl dX5_explains_127 (by decide) (fun c11 => ?_) (fun c11 => absurd (by assumption) c11)
                  refine lv_lload S.1 S.2.1 dX5_explains_138 (lv_at hl 3 rfl) ?_
                  refine lv_lload S.1 S.2.1 dX5_explains_140 (lv_at hl 2 rfl) ?_
                  refine lv_ladd S.1 S.2.1 dX5_explains_142 ?_
                  refine lv_lstore (lv' := [(16, .long ((sp_X5_imbalance d x8 p2 p3) + (sp_X5_endsOf d x8 p2 p3))), (14, .long ((sp_X5_imbalance d x8 p2 p3) - (sp_X5_endsOf d x8 p2 p3))), (13, .int (d.1 27 0 (ix ((6 * x8) + p1)))), (11, .long (sp_X5_endsOf d x8 p2 p3)), (9, .long (sp_X5_imbalance d x8 p2 p3)), (8, .int x8), (6, .long x6), (4, .long x4), (0, .ref (ad 0 0)), (1, .int p1), (2, .int p2), (3, .int p3)]) S.1 S.2.1 dX5_explains_143 hl (by decide) rfl (fun ls hl => ?_)
                  refine lv_iload S.1 S.2.1 dX5_explains_145 (lv_at hl 2 rfl) ?_
                  refine q_if_eq (tgt := 163) (xi := (d.1 27 0 (ix ((6 * x8) + p1))).toInt) S rfl dX5_explains_147 (by decide) (fun c12 => absurd c12 (by assumption)) (fun c12 => ?_)
                  refine lv_lload S.1 S.2.1 dX5_explains_150 (lv_at hl 1 rfl) ?_
                  refine lv_lload S.1 S.2.1 dX5_explains_152 (lv_at hl 7 rfl) ?_
                  refine q_lcmp_le (tgt := 163) (xi := ((sp_X5_imbalance d x8 p2 p3) - (sp_X5_endsOf d x8 p2 p3)).toInt) (yi := x4.toInt) S rfl rfl dX5_explains_154 dX5_explains_155 (by decide) (fun c13 => ?_) (fun c13 => ?_)
                  · have hs := hs.trans (cif_t c13)
                    refine lv_lload S.1 S.2.1 dX5_explains_163 (lv_at hl 7 rfl) ?_
                    refine lv_lstore (lv' := [(4, .long x4), (16, .long ((sp_X5_imbalance d x8 p2 p3) + (sp_X5_endsOf d x8 p2 p3))), (14, .long ((sp_X5_imbalance d x8 p2 p3) - (sp_X5_endsOf d x8 p2 p3))), (13, .int (d.1 27 0 (ix ((6 * x8) + p1)))), (11, .long (sp_X5_endsOf d x8 p2 p3)), (9, .long (sp_X5_imbalance d x8 p2 p3)), (8, .int x8), (6, .long x6), (0, .ref (ad 0 0)), (1, .int p1), (2, .int p2), (3, .int p3)]) S.1 S.2.1 dX5_explains_165 hl (by decide) rfl (fun ls hl => ?_)
                    refine lv_iload S.1 S.2.1 dX5_explains_167 (lv_at hl 3 rfl) ?_
                    refine q_if_eq (tgt := 185) (xi := (d.1 27 0 (ix ((6 * x8) + p1))).toInt) S rfl dX5_explains_169 (by decide) (fun c14 => absurd c14 (by assumption)) (fun c14 => ?_)
                    refine lv_lload S.1 S.2.1 dX5_explains_172 (lv_at hl 1 rfl) ?_
                    refine lv_lload S.1 S.2.1 dX5_explains_174 (lv_at hl 7 rfl) ?_
                    refine q_lcmp_ge (tgt := 185) (xi := ((sp_X5_imbalance d x8 p2 p3) + (sp_X5_endsOf d x8 p2 p3)).toInt) (yi := x6.toInt) S rfl rfl dX5_explains_176 dX5_explains_177 (by decide) (fun c15 => ?_) (fun c15 => ?_)
                    · have hs := hs.trans (cif_t c15)
                      refine lv_lload S.1 S.2.1 dX5_explains_185 (lv_at hl 7 rfl) ?_
                      refine lv_lstore (lv' := [(6, .long x6), (4, .long x4), (16, .long ((sp_X5_imbalance d x8 p2 p3) + (sp_X5_endsOf d x8 p2 p3))), (14, .long ((sp_X5_imbalance d x8 p2 p3) - (sp_X5_endsOf d x8 p2 p3))), (13, .int (d.1 27 0 (ix ((6 * x8) + p1)))), (11, .long (sp_X5_endsOf d x8 p2 p3)), (9, .long (sp_X5_imbalance d x8 p2 p3)), (8, .int x8), (0, .ref (ad 0 0)), (1, .int p1), (2, .int p2), (3, .int p3)]) S.1 S.2.1 dX5_explains_187 hl (by decide) rfl (fun ls hl => ?_)
                      refine lv_iinc (v := x8 + 1) (lv' := [(8, .int (x8 + 1)), (6, .long x6), (4, .long x4), (16, .long ((sp_X5_imbalance d x8 p2 p3) + (sp_X5_endsOf d x8 p2 p3))), (14, .long ((sp_X5_imbalance d x8 p2 p3) - (sp_X5_endsOf d x8 p2 p3))), (13, .int (d.1 27 0 (ix ((6 * x8) + p1)))), (11, .long (sp_X5_endsOf d x8 p2 p3)), (9, .long (sp_X5_imbalance d x8 p2 p3)), (0, .ref (ad 0 0)), (1, .int p1), (2, .int p2), (3, .int p3)]) S.1 S.2.1 dX5_explains_189 hl (k := 7) rfl (by rfl) (by decide) rfl (fun ls hl => ?_)
                      refine lv_goto (tgt := 44) S.1 S.2.1 dX5_explains_192 (by decide) ?_
                      have e9 : ((x8 + 1)).toInt = x8.toInt + 1 := ti1 (by omega)
                      exact ih44 (x8 + 1) x6 x4 (by omega) (by omega) (by omega) hs _ (lv_sub hl [0, 1, 2, 8, 9, 10, 11] rfl)
                    · have hs := hs.trans (cif_f c15)
                      refine lv_lload S.1 S.2.1 dX5_explains_180 (lv_at hl 1 rfl) ?_
                      refine lv_goto (tgt := 187) S.1 S.2.1 dX5_explains_182 (by decide) ?_
                      refine lv_lstore (lv' := [(6, .long ((sp_X5_imbalance d x8 p2 p3) + (sp_X5_endsOf d x8 p2 p3))), (4, .long x4), (16, .long ((sp_X5_imbalance d x8 p2 p3) + (sp_X5_endsOf d x8 p2 p3))), (14, .long ((sp_X5_imbalance d x8 p2 p3) - (sp_X5_endsOf d x8 p2 p3))), (13, .int (d.1 27 0 (ix ((6 * x8) + p1)))), (11, .long (sp_X5_endsOf d x8 p2 p3)), (9, .long (sp_X5_imbalance d x8 p2 p3)), (8, .int x8), (0, .ref (ad 0 0)), (1, .int p1), (2, .int p2), (3, .int p3)]) S.1 S.2.1 dX5_explains_187 hl (by decide) rfl (fun ls hl => ?_)
                      refine lv_iinc (v := x8 + 1) (lv' := [(8, .int (x8 + 1)), (6, .long ((sp_X5_imbalance d x8 p2 p3) + (sp_X5_endsOf d x8 p2 p3))), (4, .long x4), (16, .long ((sp_X5_imbalance d x8 p2 p3) + (sp_X5_endsOf d x8 p2 p3))), (14, .long ((sp_X5_imbalance d x8 p2 p3) - (sp_X5_endsOf d x8 p2 p3))), (13, .int (d.1 27 0 (ix ((6 * x8) + p1)))), (11, .long (sp_X5_endsOf d x8 p2 p3)), (9, .long (sp_X5_imbalance d x8 p2 p3)), (0, .ref (ad 0 0)), (1, .int p1), (2, .int p2), (3, .int p3)]) S.1 S.2.1 dX5_explains_189 hl (k := 7) rfl (by rfl) (by decide) rfl (fun ls hl => ?_)
                      refine lv_goto (tgt := 44) S.1 S.2.1 dX5_explains_192 (by decide) ?_
                      have e9 : ((x8 + 1)).toInt = x8.toInt + 1 := ti1 (by omega)
                      exact ih44 (x8 + 1) ((sp_X5_imbalance d x8 p2 p3) + (sp_X5_endsOf d x8 p2 p3)) x4 (by omega) (by omega) (by omega) hs _ (lv_sub hl [0, 1, 2, 8, 9, 10, 11] rfl)
                  · have hs := hs.trans (cif_f c13)
                    refine lv_lload S.1 S.2.1 dX5_explains_158 (lv_at hl 1 rfl) ?_
                    refine lv_goto (tgt := 165) S.1 S.2.1 dX5_explains_160 (by decide) ?_
                    refine lv_lstore (lv' := [(4, .long ((sp_X5_imbalance d x8 p2 p3) - (sp_X5_endsOf d x8 p2 p3))), (16, .long ((sp_X5_imbalance d x8 p2 p3) + (sp_X5_endsOf d x8 p2 p3))), (14, .long ((sp_X5_imbalance d x8 p2 p3) - (sp_X5_endsOf d x8 p2 p3))), (13, .int (d.1 27 0 (ix ((6 * x8) + p1)))), (11, .long (sp_X5_endsOf d x8 p2 p3)), (9, .long (sp_X5_imbalance d x8 p2 p3)), (8, .int x8), (6, .long x6), (0, .ref (ad 0 0)), (1, .int p1), (2, .int p2), (3, .int p3)]) S.1 S.2.1 dX5_explains_165 hl (by decide) rfl (fun ls hl => ?_)
                    refine lv_iload S.1 S.2.1 dX5_explains_167 (lv_at hl 3 rfl) ?_
                    refine q_if_eq (tgt := 185) (xi := (d.1 27 0 (ix ((6 * x8) + p1))).toInt) S rfl dX5_explains_169 (by decide) (fun c16 => absurd c16 (by assumption)) (fun c16 => ?_)
                    refine lv_lload S.1 S.2.1 dX5_explains_172 (lv_at hl 1 rfl) ?_
                    refine lv_lload S.1 S.2.1 dX5_explains_174 (lv_at hl 7 rfl) ?_
                    refine q_lcmp_ge (tgt := 185) (xi := ((sp_X5_imbalance d x8 p2 p3) + (sp_X5_endsOf d x8 p2 p3)).toInt) (yi := x6.toInt) S rfl rfl dX5_explains_176 dX5_explains_177 (by decide) (fun c17 => ?_) (fun c17 => ?_)
                    · have hs := hs.trans (cif_t c17)
                      refine lv_lload S.1 S.2.1 dX5_explains_185 (lv_at hl 7 rfl) ?_
                      refine lv_lstore (lv' := [(6, .long x6), (4, .long ((sp_X5_imbalance d x8 p2 p3) - (sp_X5_endsOf d x8 p2 p3))), (16, .long ((sp_X5_imbalance d x8 p2 p3) + (sp_X5_endsOf d x8 p2 p3))), (14, .long ((sp_X5_imbalance d x8 p2 p3) - (sp_X5_endsOf d x8 p2 p3))), (13, .int (d.1 27 0 (ix ((6 * x8) + p1)))), (11, .long (sp_X5_endsOf d x8 p2 p3)), (9, .long (sp_X5_imbalance d x8 p2 p3)), (8, .int x8), (0, .ref (ad 0 0)), (1, .int p1), (2, .int p2), (3, .int p3)]) S.1 S.2.1 dX5_explains_187 hl (by decide) rfl (fun ls hl => ?_)
                      refine lv_iinc (v := x8 + 1) (lv' := [(8, .int (x8 + 1)), (6, .long x6), (4, .long ((sp_X5_imbalance d x8 p2 p3) - (sp_X5_endsOf d x8 p2 p3))), (16, .long ((sp_X5_imbalance d x8 p2 p3) + (sp_X5_endsOf d x8 p2 p3))), (14, .long ((sp_X5_imbalance d x8 p2 p3) - (sp_X5_endsOf d x8 p2 p3))), (13, .int (d.1 27 0 (ix ((6 * x8) + p1)))), (11, .long (sp_X5_endsOf d x8 p2 p3)), (9, .long (sp_X5_imbalance d x8 p2 p3)), (0, .ref (ad 0 0)), (1, .int p1), (2, .int p2), (3, .int p3)]) S.1 S.2.1 dX5_explains_189 hl (k := 7) rfl (by rfl) (by decide) rfl (fun ls hl => ?_)
                      refine lv_goto (tgt := 44) S.1 S.2.1 dX5_explains_192 (by decide) ?_
                      have e9 : ((x8 + 1)).toInt = x8.toInt + 1 := ti1 (by omega)
                      exact ih44 (x8 + 1) x6 ((sp_X5_imbalance d x8 p2 p3) - (sp_X5_endsOf d x8 p2 p3)) (by omega) (by omega) (by omega) hs _ (lv_sub hl [0, 1, 2, 8, 9, 10, 11] rfl)
                    · have hs := hs.trans (cif_f c17)
                      refine lv_lload S.1 S.2.1 dX5_explains_180 (lv_at hl 1 rfl) ?_
                      refine lv_goto (tgt := 187) S.1 S.2.1 dX5_explains_182 (by decide) ?_
                      refine lv_lstore (lv' := [(6, .long ((sp_X5_imbalance d x8 p2 p3) + (sp_X5_endsOf d x8 p2 p3))), (4, .long ((sp_X5_imbalance d x8 p2 p3) - (sp_X5_endsOf d x8 p2 p3))), (16, .long ((sp_X5_imbalance d x8 p2 p3) + (sp_X5_endsOf d x8 p2 p3))), (14, .long ((sp_X5_imbalance d x8 p2 p3) - (sp_X5_endsOf d x8 p2 p3))), (13, .int (d.1 27 0 (ix ((6 * x8) + p1)))), (11, .long (sp_X5_endsOf d x8 p2 p3)), (9, .long (sp_X5_imbalance d x8 p2 p3)), (8, .int x8), (0, .ref (ad 0 0)), (1, .int p1), (2, .int p2), (3, .int p3)]) S.1 S.2.1 dX5_explains_187 hl (by decide) rfl (fun ls hl => ?_)
                      refine lv_iinc (v := x8 + 1) (lv' := [(8, .int (x8 + 1)), (6, .long ((sp_X5_imbalance d x8 p2 p3) + (sp_X5_endsOf d x8 p2 p3))), (4, .long ((sp_X5_imbalance d x8 p2 p3) - (sp_X5_endsOf d x8 p2 p3))), (16, .long ((sp_X5_imbalance d x8 p2 p3) + (sp_X5_endsOf d x8 p2 p3))), (14, .long ((sp_X5_imbalance d x8 p2 p3) - (sp_X5_endsOf d x8 p2 p3))), (13, .int (d.1 27 0 (ix ((6 * x8) + p1)))), (11, .long (sp_X5_endsOf d x8 p2 p3)), (9, .long (sp_X5_imbalance d x8 p2 p3)), (0, .ref (ad 0 0)), (1, .int p1), (2, .int p2), (3, .int p3)]) S.1 S.2.1 dX5_explains_189 hl (k := 7) rfl (by rfl) (by decide) rfl (fun ls hl => ?_)
                      refine lv_goto (tgt := 44) S.1 S.2.1 dX5_explains_192 (by decide) ?_
                      have e9 : ((x8 + 1)).toInt = x8.toInt + 1 := ti1 (by omega)
                      exact ih44 (x8 + 1) ((sp_X5_imbalance d x8 p2 p3) + (sp_X5_endsOf d x8 p2 p3)) ((sp_X5_imbalance d x8 p2 p3) - (sp_X5_endsOf d x8 p2 p3)) (by omega) (by omega) (by omega) hs _ (lv_sub hl [0, 1, 2, 8, 9, 10, 11] rfl)
                · have hs := hs.trans (cif_f c10)
                  refine lv_lload S.1 S.2.1 dX5_explains_109 (lv_at hl 1 rfl) ?_
                  refine lv_lneg S.1 S.2.1 dX5_explains_111 ?_
                  refine lv_lload S.1 S.2.1 dX5_explains_112 (lv_at hl 2 rfl) ?_
                  refine lv_lsub S.1 S.2.1 dX5_explains_114 ?_
                  refine lv_goto (tgt := 123) S.1 S.2.1 dX5_explains_115 (by decide) ?_
                  refine lv_lstore (lv' := [(14, .long ((-(sp_X5_endsOf d x8 p2 p3)) - (sp_X5_imbalance d x8 p2 p3))), (13, .int (d.1 27 0 (ix ((6 * x8) + p1)))), (11, .long (sp_X5_endsOf d x8 p2 p3)), (9, .long (sp_X5_imbalance d x8 p2 p3)), (8, .int x8), (6, .long x6), (4, .long x4), (0, .ref (ad 0 0)), (1, .int p1), (2, .int p2), (3, .int p3)]) S.1 S.2.1 dX5_explains_123 hl (by decide) rfl (fun ls hl => ?_)
                  refine lv_iload S.1 S.2.1 dX5_explains_125 (lv_at hl 1 rfl) ?_
                  refine q_if_le (tgt := 138) (xi := (d.1 27 0 (ix ((6 * x8) + p1))).toInt) S rfl dX5_explains_127 (by decide) (fun c18 => absurd c18 (by assumption)) (fun c18 => ?_)
                  refine lv_lload S.1 S.2.1 dX5_explains_130 (lv_at hl 2 rfl) ?_
                  refine lv_lload S.1 S.2.1 dX5_explains_132 (lv_at hl 3 rfl) ?_
                  refine lv_lsub S.1 S.2.1 dX5_explains_134 ?_
                  refine lv_goto (tgt := 143) S.1 S.2.1 dX5_explains_135 (by decide) ?_
                  refine lv_lstore (lv' := [(16, .long ((sp_X5_endsOf d x8 p2 p3) - (sp_X5_imbalance d x8 p2 p3))), (14, .long ((-(sp_X5_endsOf d x8 p2 p3)) - (sp_X5_imbalance d x8 p2 p3))), (13, .int (d.1 27 0 (ix ((6 * x8) + p1)))), (11, .long (sp_X5_endsOf d x8 p2 p3)), (9, .long (sp_X5_imbalance d x8 p2 p3)), (8, .int x8), (6, .long x6), (4, .long x4), (0, .ref (ad 0 0)), (1, .int p1), (2, .int p2), (3, .int p3)]) S.1 S.2.1 dX5_explains_143 hl (by decide) rfl (fun ls hl => ?_)
                  refine lv_iload S.1 S.2.1 dX5_explains_145 (lv_at hl 2 rfl) ?_
                  refine q_if_eq (tgt := 163) (xi := (d.1 27 0 (ix ((6 * x8) + p1))).toInt) S rfl dX5_explains_147 (by decide) (fun c19 => absurd c19 (by assumption)) (fun c19 => ?_)
                  refine lv_lload S.1 S.2.1 dX5_explains_150 (lv_at hl 1 rfl) ?_
                  refine lv_lload S.1 S.2.1 dX5_explains_152 (lv_at hl 7 rfl) ?_
                  refine q_lcmp_le (tgt := 163) (xi := ((-(sp_X5_endsOf d x8 p2 p3)) - (sp_X5_imbalance d x8 p2 p3)).toInt) (yi := x4.toInt) S rfl rfl dX5_explains_154 dX5_explains_155 (by decide) (fun c20 => ?_) (fun c20 => ?_)
                  · have hs := hs.trans (cif_t c20)
                    refine lv_lload S.1 S.2.1 dX5_explains_163 (lv_at hl 7 rfl) ?_
                    refine lv_lstore (lv' := [(4, .long x4), (16, .long ((sp_X5_endsOf d x8 p2 p3) - (sp_X5_imbalance d x8 p2 p3))), (14, .long ((-(sp_X5_endsOf d x8 p2 p3)) - (sp_X5_imbalance d x8 p2 p3))), (13, .int (d.1 27 0 (ix ((6 * x8) + p1)))), (11, .long (sp_X5_endsOf d x8 p2 p3)), (9, .long (sp_X5_imbalance d x8 p2 p3)), (8, .int x8), (6, .long x6), (0, .ref (ad 0 0)), (1, .int p1), (2, .int p2), (3, .int p3)]) S.1 S.2.1 dX5_explains_165 hl (by decide) rfl (fun ls hl => ?_)
                    refine lv_iload S.1 S.2.1 dX5_explains_167 (lv_at hl 3 rfl) ?_
                    refine q_if_eq (tgt := 185) (xi := (d.1 27 0 (ix ((6 * x8) + p1))).toInt) S rfl dX5_explains_169 (by decide) (fun c21 => absurd c21 (by assumption)) (fun c21 => ?_)
                    refine lv_lload S.1 S.2.1 dX5_explains_172 (lv_at hl 1 rfl) ?_
                    refine lv_lload S.1 S.2.1 dX5_explains_174 (lv_at hl 7 rfl) ?_
                    refine q_lcmp_ge (tgt := 185) (xi := ((sp_X5_endsOf d x8 p2 p3) - (sp_X5_imbalance d x8 p2 p3)).toInt) (yi := x6.toInt) S rfl rfl dX5_explains_176 dX5_explains_177 (by decide) (fun c22 => ?_) (fun c22 => ?_)
                    · have hs := hs.trans (cif_t c22)
                      refine lv_lload S.1 S.2.1 dX5_explains_185 (lv_at hl 7 rfl) ?_
                      refine lv_lstore (lv' := [(6, .long x6), (4, .long x4), (16, .long ((sp_X5_endsOf d x8 p2 p3) - (sp_X5_imbalance d x8 p2 p3))), (14, .long ((-(sp_X5_endsOf d x8 p2 p3)) - (sp_X5_imbalance d x8 p2 p3))), (13, .int (d.1 27 0 (ix ((6 * x8) + p1)))), (11, .long (sp_X5_endsOf d x8 p2 p3)), (9, .long (sp_X5_imbalance d x8 p2 p3)), (8, .int x8), (0, .ref (ad 0 0)), (1, .int p1), (2, .int p2), (3, .int p3)]) S.1 S.2.1 dX5_explains_187 hl (by decide) rfl (fun ls hl => ?_)
                      refine lv_iinc (v := x8 + 1) (lv' := [(8, .int (x8 + 1)), (6, .long x6), (4, .long x4), (16, .long ((sp_X5_endsOf d x8 p2 p3) - (sp_X5_imbalance d x8 p2 p3))), (14, .long ((-(sp_X5_endsOf d x8 p2 p3)) - (sp_X5_imbalance d x8 p2 p3))), (13, .int (d.1 27 0 (ix ((6 * x8) + p1)))), (11, .long (sp_X5_endsOf d x8 p2 p3)), (9, .long (sp_X5_imbalance d x8 p2 p3)), (0, .ref (ad 0 0)), (1, .int p1), (2, .int p2), (3, .int p3)]) S.1 S.2.1 dX5_explains_189 hl (k := 7) rfl (by rfl) (by decide) rfl (fun ls hl => ?_)
                      refine lv_goto (tgt := 44) S.1 S.2.1 dX5_explains_192 (by decide) ?_
                      have e9 : ((x8 + 1)).toInt = x8.toInt + 1 := ti1 (by omega)
                      exact ih44 (x8 + 1) x6 x4 (by omega) (by omega) (by omega) hs _ (lv_sub hl [0, 1, 2, 8, 9, 10, 11] rfl)
                    · have hs := hs.trans (cif_f c22)
                      refine lv_lload S.1 S.2.1 dX5_explains_180 (lv_at hl 1 rfl) ?_
                      refine lv_goto (tgt := 187) S.1 S.2.1 dX5_explains_182 (by decide) ?_
                      refine lv_lstore (lv' := [(6, .long ((sp_X5_endsOf d x8 p2 p3) - (sp_X5_imbalance d x8 p2 p3))), (4, .long x4), (16, .long ((sp_X5_endsOf d x8 p2 p3) - (sp_X5_imbalance d x8 p2 p3))), (14, .long ((-(sp_X5_endsOf d x8 p2 p3)) - (sp_X5_imbalance d x8 p2 p3))), (13, .int (d.1 27 0 (ix ((6 * x8) + p1)))), (11, .long (sp_X5_endsOf d x8 p2 p3)), (9, .long (sp_X5_imbalance d x8 p2 p3)), (8, .int x8), (0, .ref (ad 0 0)), (1, .int p1), (2, .int p2), (3, .int p3)]) S.1 S.2.1 dX5_explains_187 hl (by decide) rfl (fun ls hl => ?_)
                      refine lv_iinc (v := x8 + 1) (lv' := [(8, .int (x8 + 1)), (6, .long ((sp_X5_endsOf d x8 p2 p3) - (sp_X5_imbalance d x8 p2 p3))), (4, .long x4), (16, .long ((sp_X5_endsOf d x8 p2 p3) - (sp_X5_imbalance d x8 p2 p3))), (14, .long ((-(sp_X5_endsOf d x8 p2 p3)) - (sp_X5_imbalance d x8 p2 p3))), (13, .int (d.1 27 0 (ix ((6 * x8) + p1)))), (11, .long (sp_X5_endsOf d x8 p2 p3)), (9, .long (sp_X5_imbalance d x8 p2 p3)), (0, .ref (ad 0 0)), (1, .int p1), (2, .int p2), (3, .int p3)]) S.1 S.2.1 dX5_explains_189 hl (k := 7) rfl (by rfl) (by decide) rfl (fun ls hl => ?_)
                      refine lv_goto (tgt := 44) S.1 S.2.1 dX5_explains_192 (by decide) ?_
                      have e9 : ((x8 + 1)).toInt = x8.toInt + 1 := ti1 (by omega)
                      exact ih44 (x8 + 1) ((sp_X5_endsOf d x8 p2 p3) - (sp_X5_imbalance d x8 p2 p3)) x4 (by omega) (by omega) (by omega) hs _ (lv_sub hl [0, 1, 2, 8, 9, 10, 11] rfl)
                  · have hs := hs.trans (cif_f c20)
                    refine lv_lload S.1 S.2.1 dX5_explains_158 (lv_at hl 1 rfl) ?_
                    refine lv_goto (tgt := 165) S.1 S.2.1 dX5_explains_160 (by decide) ?_
                    refine lv_lstore (lv' := [(4, .long ((-(sp_X5_endsOf d x8 p2 p3)) - (sp_X5_imbalance d x8 p2 p3))), (16, .long ((sp_X5_endsOf d x8 p2 p3) - (sp_X5_imbalance d x8 p2 p3))), (14, .long ((-(sp_X5_endsOf d x8 p2 p3)) - (sp_X5_imbalance d x8 p2 p3))), (13, .int (d.1 27 0 (ix ((6 * x8) + p1)))), (11, .long (sp_X5_endsOf d x8 p2 p3)), (9, .long (sp_X5_imbalance d x8 p2 p3)), (8, .int x8), (6, .long x6), (0, .ref (ad 0 0)), (1, .int p1), (2, .int p2), (3, .int p3)]) S.1 S.2.1 dX5_explains_165 hl (by decide) rfl (fun ls hl => ?_)
                    refine lv_iload S.1 S.2.1 dX5_explains_167 (lv_at hl 3 rfl) ?_
                    refine q_if_eq (tgt := 185) (xi := (d.1 27 0 (ix ((6 * x8) + p1))).toInt) S rfl dX5_explains_169 (by decide) (fun c23 => absurd c23 (by assumption)) (fun c23 => ?_)
                    refine lv_lload S.1 S.2.1 dX5_explains_172 (lv_at hl 1 rfl) ?_
                    refine lv_lload S.1 S.2.1 dX5_explains_174 (lv_at hl 7 rfl) ?_
                    refine q_lcmp_ge (tgt := 185) (xi := ((sp_X5_endsOf d x8 p2 p3) - (sp_X5_imbalance d x8 p2 p3)).toInt) (yi := x6.toInt) S rfl rfl dX5_explains_176 dX5_explains_177 (by decide) (fun c24 => ?_) (fun c24 => ?_)
                    · have hs := hs.trans (cif_t c24)
                      refine lv_lload S.1 S.2.1 dX5_explains_185 (lv_at hl 7 rfl) ?_
                      refine lv_lstore (lv' := [(6, .long x6), (4, .long ((-(sp_X5_endsOf d x8 p2 p3)) - (sp_X5_imbalance d x8 p2 p3))), (16, .long ((sp_X5_endsOf d x8 p2 p3) - (sp_X5_imbalance d x8 p2 p3))), (14, .long ((-(sp_X5_endsOf d x8 p2 p3)) - (sp_X5_imbalance d x8 p2 p3))), (13, .int (d.1 27 0 (ix ((6 * x8) + p1)))), (11, .long (sp_X5_endsOf d x8 p2 p3)), (9, .long (sp_X5_imbalance d x8 p2 p3)), (8, .int x8), (0, .ref (ad 0 0)), (1, .int p1), (2, .int p2), (3, .int p3)]) S.1 S.2.1 dX5_explains_187 hl (by decide) rfl (fun ls hl => ?_)
                      refine lv_iinc (v := x8 + 1) (lv' := [(8, .int (x8 + 1)), (6, .long x6), (4, .long ((-(sp_X5_endsOf d x8 p2 p3)) - (sp_X5_imbalance d x8 p2 p3))), (16, .long ((sp_X5_endsOf d x8 p2 p3) - (sp_X5_imbalance d x8 p2 p3))), (14, .long ((-(sp_X5_endsOf d x8 p2 p3)) - (sp_X5_imbalance d x8 p2 p3))), (13, .int (d.1 27 0 (ix ((6 * x8) + p1)))), (11, .long (sp_X5_endsOf d x8 p2 p3)), (9, .long (sp_X5_imbalance d x8 p2 p3)), (0, .ref (ad 0 0)), (1, .int p1), (2, .int p2), (3, .int p3)]) S.1 S.2.1 dX5_explains_189 hl (k := 7) rfl (by rfl) (by decide) rfl (fun ls hl => ?_)
                      refine lv_goto (tgt := 44) S.1 S.2.1 dX5_explains_192 (by decide) ?_
                      have e9 : ((x8 + 1)).toInt = x8.toInt + 1 := ti1 (by omega)
                      exact ih44 (x8 + 1) x6 ((-(sp_X5_endsOf d x8 p2 p3)) - (sp_X5_imbalance d x8 p2 p3)) (by omega) (by omega) (by omega) hs _ (lv_sub hl [0, 1, 2, 8, 9, 10, 11] rfl)
                    · have hs := hs.trans (cif_f c24)
                      refine lv_lload S.1 S.2.1 dX5_explains_180 (lv_at hl 1 rfl) ?_
                      refine lv_goto (tgt := 187) S.1 S.2.1 dX5_explains_182 (by decide) ?_
                      refine lv_lstore (lv' := [(6, .long ((sp_X5_endsOf d x8 p2 p3) - (sp_X5_imbalance d x8 p2 p3))), (4, .long ((-(sp_X5_endsOf d x8 p2 p3)) - (sp_X5_imbalance d x8 p2 p3))), (16, .long ((sp_X5_endsOf d x8 p2 p3) - (sp_X5_imbalance d x8 p2 p3))), (14, .long ((-(sp_X5_endsOf d x8 p2 p3)) - (sp_X5_imbalance d x8 p2 p3))), (13, .int (d.1 27 0 (ix ((6 * x8) + p1)))), (11, .long (sp_X5_endsOf d x8 p2 p3)), (9, .long (sp_X5_imbalance d x8 p2 p3)), (8, .int x8), (0, .ref (ad 0 0)), (1, .int p1), (2, .int p2), (3, .int p3)]) S.1 S.2.1 dX5_explains_187 hl (by decide) rfl (fun ls hl => ?_)
                      refine lv_iinc (v := x8 + 1) (lv' := [(8, .int (x8 + 1)), (6, .long ((sp_X5_endsOf d x8 p2 p3) - (sp_X5_imbalance d x8 p2 p3))), (4, .long ((-(sp_X5_endsOf d x8 p2 p3)) - (sp_X5_imbalance d x8 p2 p3))), (16, .long ((sp_X5_endsOf d x8 p2 p3) - (sp_X5_imbalance d x8 p2 p3))), (14, .long ((-(sp_X5_endsOf d x8 p2 p3)) - (sp_X5_imbalance d x8 p2 p3))), (13, .int (d.1 27 0 (ix ((6 * x8) + p1)))), (11, .long (sp_X5_endsOf d x8 p2 p3)), (9, .long (sp_X5_imbalance d x8 p2 p3)), (0, .ref (ad 0 0)), (1, .int p1), (2, .int p2), (3, .int p3)]) S.1 S.2.1 dX5_explains_189 hl (k := 7) rfl (by rfl) (by decide) rfl (fun ls hl => ?_)
                      refine lv_goto (tgt := 44) S.1 S.2.1 dX5_explains_192 (by decide) ?_
                      have e9 : ((x8 + 1)).toInt = x8.toInt + 1 := ti1 (by omega)
                      exact ih44 (x8 + 1) ((sp_X5_endsOf d x8 p2 p3) - (sp_X5_imbalance d x8 p2 p3)) ((-(sp_X5_endsOf d x8 p2 p3)) - (sp_X5_imbalance d x8 p2 p3)) (by omega) (by omega) (by omega) hs _ (lv_sub hl [0, 1, 2, 8, 9, 10, 11] rfl)
              · have hs := hs.trans (cif_t c9)
                refine lv_lload S.1 S.2.1 dX5_explains_89 (lv_at hl 2 rfl) ?_
                refine lv_lload S.1 S.2.1 dX5_explains_91 (lv_at hl 1 rfl) ?_
                refine lv_lneg S.1 S.2.1 dX5_explains_93 ?_
                refine lv_lload S.1 S.2.1 dX5_explains_94 (lv_at hl 1 rfl) ?_
                refine cPS (rest := []) S (c_X5_in l (sp_X5_imbalance d x8 p2 p3) (-(sp_X5_endsOf d x8 p2 p3)) (sp_X5_endsOf d x8 p2 p3)) gS_RX5_101 ds_X5_in.2 ⟨rfl, rfl⟩ ⟨Nat.le_of_ble_eq_true rfl, Nat.le_of_ble_eq_true rfl⟩ rfl hl.1 rfl (Nat.le_of_ble_eq_true rfl) ⟨Nat.le_of_ble_eq_true rfl, Nat.le_of_ble_eq_true rfl⟩ dX5_explains_96 ?_
                refine q_if_ne_b (tgt := 104) S dX5_explains_99 (by decide) (fun c25 => ?_) (fun c25 => ?_)
                · have hs := hs.trans (cif_t c25)
                  refine lv_iload S.1 S.2.1 dX5_explains_104 (lv_at hl 0 rfl) ?_
                  refine q_if_le (tgt := 118) (xi := (d.1 27 0 (ix ((6 * x8) + p1))).toInt) S rfl dX5_explains_106 (by decide) (fun c26 => ?_) (fun c26 => absurd (by omega) c26)
                  refine lv_lload S.1 S.2.1 dX5_explains_118 (lv_at hl 2 rfl) ?_
                  refine lv_lload S.1 S.2.1 dX5_explains_120 (lv_at hl 1 rfl) ?_
                  refine lv_lsub S.1 S.2.1 dX5_explains_122 ?_
                  refine lv_lstore (lv' := [(14, .long ((sp_X5_imbalance d x8 p2 p3) - (sp_X5_endsOf d x8 p2 p3))), (13, .int (d.1 27 0 (ix ((6 * x8) + p1)))), (11, .long (sp_X5_endsOf d x8 p2 p3)), (9, .long (sp_X5_imbalance d x8 p2 p3)), (8, .int x8), (6, .long x6), (4, .long x4), (0, .ref (ad 0 0)), (1, .int p1), (2, .int p2), (3, .int p3)]) S.1 S.2.1 dX5_explains_123 hl (by decide) rfl (fun ls hl => ?_)
                  refine lv_iload S.1 S.2.1 dX5_explains_125 (lv_at hl 1 rfl) ?_
                  refine q_if_le (tgt := 138) (xi := (d.1 27 0 (ix ((6 * x8) + p1))).toInt) S rfl dX5_explains_127 (by decide) (fun c27 => ?_) (fun c27 => absurd (by assumption) c27)
                  refine lv_lload S.1 S.2.1 dX5_explains_138 (lv_at hl 3 rfl) ?_
                  refine lv_lload S.1 S.2.1 dX5_explains_140 (lv_at hl 2 rfl) ?_
                  refine lv_ladd S.1 S.2.1 dX5_explains_142 ?_
                  refine lv_lstore (lv' := [(16, .long ((sp_X5_imbalance d x8 p2 p3) + (sp_X5_endsOf d x8 p2 p3))), (14, .long ((sp_X5_imbalance d x8 p2 p3) - (sp_X5_endsOf d x8 p2 p3))), (13, .int (d.1 27 0 (ix ((6 * x8) + p1)))), (11, .long (sp_X5_endsOf d x8 p2 p3)), (9, .long (sp_X5_imbalance d x8 p2 p3)), (8, .int x8), (6, .long x6), (4, .long x4), (0, .ref (ad 0 0)), (1, .int p1), (2, .int p2), (3, .int p3)]) S.1 S.2.1 dX5_explains_143 hl (by decide) rfl (fun ls hl => ?_)
                  refine lv_iload S.1 S.2.1 dX5_explains_145 (lv_at hl 2 rfl) ?_
                  refine q_if_eq (tgt := 163) (xi := (d.1 27 0 (ix ((6 * x8) + p1))).toInt) S rfl dX5_explains_147 (by decide) (fun c28 => ?_) (fun c28 => absurd (by assumption) c28)
                  refine lv_lload S.1 S.2.1 dX5_explains_163 (lv_at hl 7 rfl) ?_
                  refine lv_lstore (lv' := [(4, .long x4), (16, .long ((sp_X5_imbalance d x8 p2 p3) + (sp_X5_endsOf d x8 p2 p3))), (14, .long ((sp_X5_imbalance d x8 p2 p3) - (sp_X5_endsOf d x8 p2 p3))), (13, .int (d.1 27 0 (ix ((6 * x8) + p1)))), (11, .long (sp_X5_endsOf d x8 p2 p3)), (9, .long (sp_X5_imbalance d x8 p2 p3)), (8, .int x8), (6, .long x6), (0, .ref (ad 0 0)), (1, .int p1), (2, .int p2), (3, .int p3)]) S.1 S.2.1 dX5_explains_165 hl (by decide) rfl (fun ls hl => ?_)
                  refine lv_iload S.1 S.2.1 dX5_explains_167 (lv_at hl 3 rfl) ?_
                  refine q_if_eq (tgt := 185) (xi := (d.1 27 0 (ix ((6 * x8) + p1))).toInt) S rfl dX5_explains_169 (by decide) (fun c29 => ?_) (fun c29 => absurd (by assumption) c29)
                  refine lv_lload S.1 S.2.1 dX5_explains_185 (lv_at hl 7 rfl) ?_
                  refine lv_lstore (lv' := [(6, .long x6), (4, .long x4), (16, .long ((sp_X5_imbalance d x8 p2 p3) + (sp_X5_endsOf d x8 p2 p3))), (14, .long ((sp_X5_imbalance d x8 p2 p3) - (sp_X5_endsOf d x8 p2 p3))), (13, .int (d.1 27 0 (ix ((6 * x8) + p1)))), (11, .long (sp_X5_endsOf d x8 p2 p3)), (9, .long (sp_X5_imbalance d x8 p2 p3)), (8, .int x8), (0, .ref (ad 0 0)), (1, .int p1), (2, .int p2), (3, .int p3)]) S.1 S.2.1 dX5_explains_187 hl (by decide) rfl (fun ls hl => ?_)
                  refine lv_iinc (v := x8 + 1) (lv' := [(8, .int (x8 + 1)), (6, .long x6), (4, .long x4), (16, .long ((sp_X5_imbalance d x8 p2 p3) + (sp_X5_endsOf d x8 p2 p3))), (14, .long ((sp_X5_imbalance d x8 p2 p3) - (sp_X5_endsOf d x8 p2 p3))), (13, .int (d.1 27 0 (ix ((6 * x8) + p1)))), (11, .long (sp_X5_endsOf d x8 p2 p3)), (9, .long (sp_X5_imbalance d x8 p2 p3)), (0, .ref (ad 0 0)), (1, .int p1), (2, .int p2), (3, .int p3)]) S.1 S.2.1 dX5_explains_189 hl (k := 7) rfl (by rfl) (by decide) rfl (fun ls hl => ?_)
                  refine lv_goto (tgt := 44) S.1 S.2.1 dX5_explains_192 (by decide) ?_
                  have e9 : ((x8 + 1)).toInt = x8.toInt + 1 := ti1 (by omega)
                  exact ih44 (x8 + 1) x6 x4 (by omega) (by omega) (by omega) hs _ (lv_sub hl [0, 1, 2, 8, 9, 10, 11] rfl)
                · have hs := hs.trans (cif_f c25)
                  refine lv_lconst (v := 0) S.1 S.2.1 dX5_explains_102 (by decide) ?_
                  exact rL S hr hlk hs dX5_explains_103
        exact L44 16 0 4000000000000000000 (-4000000000000000000) (by first | omega | (simp only [Int32.toInt_zero]; omega)) (by first | omega | (simp only [Int32.toInt_zero]; omega)) (by first | omega | (simp only [Int32.toInt_zero]; omega)) hs _ (lv_sub hl [0, 1, 2, 3, 4, 5, 6] rfl)
      · have hs := hs.trans (cif_t c4)
        refine lv_lconst (v := 0) S.1 S.2.1 dX5_explains_29 (by decide) ?_
        exact rL S hr hlk hs dX5_explains_30
    · have hs := hs.trans (cif_f c3)
      refine cPS (rest := []) S (c_X5_lost l) gS_RX5_92 ds_X5_lost.2 ⟨rfl, rfl⟩ ⟨Nat.le_of_ble_eq_true rfl, Nat.le_of_ble_eq_true rfl⟩ rfl hl.1 rfl (Nat.le_of_ble_eq_true rfl) ⟨Nat.le_of_ble_eq_true rfl, Nat.le_of_ble_eq_true rfl⟩ dX5_explains_16 ?_
      exact rL S hr hlk hs dX5_explains_19
set_option maxRecDepth 100000 in
set_option maxHeartbeats 8000000 in
theorem c_X5_noSheet (l : Launch) (p0 : Int32) : Met l yX5_noSheet (wsU yX5_noSheet cX5_noSheet 1 (some .boolean)) ({ frames := 1, cells := 0, slots := 0, locals := 25 } : Room) (va_Pc [.int p0] (fun _ => True)) (qV (some (.int (b2i (sp_X5_noSheet p0))))) 0 0 (fun _ => False) := by
  refine ent (by decide +kernel) (Nat.le_of_ble_eq_true rfl) ?_
  intro p e s m below meth c S hr hlk hpre ls hl
  have S : CallFix p m c cX5_noSheet 1 s [.int p0].toArray wsL_law RX5 := S
  have hl : lv_has ls 1 [(0, .int p0)] := hl
  have hs := sp_X5_noSheet.eq_1 p0
  refine lv_iload_n S.1 S.2.1 dX5_noSheet_0 rfl (lv_at hl 0 rfl) ?_
  refine lv_i2l S.1 S.2.1 dX5_noSheet_1 rfl ?_
  refine lv_lconst (v := 0) S.1 S.2.1 dX5_noSheet_2 (by decide) ?_
  refine lv_ldc2 S.1 S.2.1 S.2.2.2.1 (S.2.2.2.2 _ wKL_RX5_164) dX5_noSheet_3 ?_
  refine cPS (rest := []) S (c_X5_in l p0.toInt64 0 3) gS_RX5_101 ds_X5_in.2 ⟨rfl, rfl⟩ ⟨Nat.le_of_ble_eq_true rfl, Nat.le_of_ble_eq_true rfl⟩ rfl hl.1 rfl (Nat.le_of_ble_eq_true rfl) ⟨Nat.le_of_ble_eq_true rfl, Nat.le_of_ble_eq_true rfl⟩ dX5_noSheet_6 ?_
  refine q_if_ne_b (tgt := 16) S dX5_noSheet_9 (by decide) (fun c1 => ?_) (fun c1 => ?_)
  · have hs := hs.trans (cif_t c1)
    refine lv_iconst (v := 0) S.1 S.2.1 dX5_noSheet_16 (by decide) ?_
    exact rZ S hr hlk hs b2i_F.symm dX5_noSheet_17
  · have hs := hs.trans (cif_f c1)
    refine lv_iconst (v := 1) S.1 S.2.1 dX5_noSheet_12 (by decide) ?_
    refine lv_goto (tgt := 17) S.1 S.2.1 dX5_noSheet_13 (by decide) ?_
    exact rZ S hr hlk hs b2i_T.symm dX5_noSheet_17
set_option maxRecDepth 100000 in
set_option maxHeartbeats 8000000 in
theorem c_X5_sheet (l : Launch) (D : va_G) (G : Gc) (ad : Nat → Nat → Nat) (d : Dt) (p1 : Int32) (p2 : Int32) (p3 : Int32) (hI : MI d) : Met l yX5_sheet (wsU yX5_sheet cX5_sheet 5 (some .int)) ({ frames := 2, cells := 0, slots := 0, locals := 45 } : Room) (va_Pc [.ref (ad 0 0), .int p1, .int p2, .int p3] (XPre D (tysG G) (MF G ad) MN ad d)) (qW (some (.int (sp_X5_sheet d p1 p2 p3).1)) D (MF G ad) MN ad (sp_X5_sheet d p1 p2 p3).2) 0 0 (adS MN ad) := by
  refine ent (by decide +kernel) (Nat.le_of_ble_eq_true rfl) ?_
  intro p e s m below meth c S hr hlk hpre ls hl
  have S : CallFix p m c cX5_sheet 5 s [.ref (ad 0 0), .int p1, .int p2, .int p3].toArray wsL_law RX5 := S
  obtain ⟨hK, hN, hX⟩ := hpre
  have hl : lv_has ls 5 [(0, .ref (ad 0 0)), (1, .int p1), (2, .int p2), (3, .int p3)] := hl
  have hs := sp_X5_sheet.eq_1 d p1 p2 p3
  have hS : va_S (adS MN ad) s.heap s.heap [] := va_S.rf
  have q1 := hI.1
  have q2 := hI.2.2.1
  have q3 := hI.2.2.2.1
  have q4 := hI.2.2.2.2.1
  refine lv_iload_n S.1 S.2.1 dX5_sheet_0 rfl (lv_at hl 1 rfl) ?_
  refine cPS (rest := []) S (c_X5_noSheet l p1) gS_RX5_230 ds_X5_noSheet.2 ⟨rfl, rfl⟩ ⟨Nat.le_of_ble_eq_true rfl, Nat.le_of_ble_eq_true rfl⟩ rfl hl.1 rfl (Nat.le_of_ble_eq_true rfl) ⟨Nat.le_of_ble_eq_true rfl, Nat.le_of_ble_eq_true rfl⟩ dX5_sheet_1 ?_
  refine q_if_eq_b (tgt := 13) S dX5_sheet_4 (by decide) (fun c1 => ?_) (fun c1 => ?_)
  · have hs := hs.trans (cif_f c1)
    have f2 := ns_of c1
    refine lv_iload_n S.1 S.2.1 dX5_sheet_13 rfl (lv_at hl 2 rfl) ?_
    refine lv_i2l S.1 S.2.1 dX5_sheet_14 rfl ?_
    refine lv_lconst (v := 0) S.1 S.2.1 dX5_sheet_15 (by decide) ?_
    refine lv_ldc2 S.1 S.2.1 S.2.2.2.1 (S.2.2.2.2 _ wKL_RX5_96) dX5_sheet_16 ?_
    refine cPS (rest := []) S (c_X5_in l p2.toInt64 0 2) gS_RX5_101 ds_X5_in.2 ⟨rfl, rfl⟩ ⟨Nat.le_of_ble_eq_true rfl, Nat.le_of_ble_eq_true rfl⟩ rfl hl.1 rfl (Nat.le_of_ble_eq_true rfl) ⟨Nat.le_of_ble_eq_true rfl, Nat.le_of_ble_eq_true rfl⟩ dX5_sheet_19 ?_
    refine q_if_eq_b (tgt := 31) S dX5_sheet_22 (by decide) (fun c3 => ?_) (fun c3 => ?_)
    · have hs := hs.trans (cif_f c3)
      refine lv_aload_n S.1 S.2.1 dX5_sheet_31 rfl (lv_at hl 0 rfl) ?_
      refine lv_bipush (v := (-2)) S.1 S.2.1 dX5_sheet_32 (by decide) ?_
      refine cWV (rest := []) S (c_X5_refused l D G ad d (-2)) gV_RX5_233 ds_X5_refused ⟨rfl, rfl⟩ ⟨Nat.le_of_ble_eq_true rfl, Nat.le_of_ble_eq_true rfl⟩ ⟨blindX, recvX hK hX (k := 0) (i := 0) Nat.zero_lt_one rfl rfl, preX hK hN hX _⟩ rfl hl.1 rfl (Nat.le_of_ble_eq_true rfl) ⟨Nat.le_of_ble_eq_true rfl, Nat.le_of_ble_eq_true rfl⟩ dX5_sheet_34 hS (fun _ h => h) (fun H locs hX hS hfr => ?_)
      exact wI S hr hlk hs hX hS dX5_sheet_37
    · have hs := hs.trans (cif_t c3)
      refine lv_iload_n S.1 S.2.1 dX5_sheet_25 rfl (lv_at hl 3 rfl) ?_
      refine lv_bipush (v := 60) S.1 S.2.1 dX5_sheet_26 (by decide) ?_
      refine q_icmp_le (tgt := 38) (xi := p3.toInt) (yi := 60) S rfl rfl dX5_sheet_28 (by decide) (fun c4 => ?_) (fun c4 => ?_)
      · have hs := hs.trans (cif_t c4)
        refine lv_iload_n S.1 S.2.1 dX5_sheet_38 rfl (lv_at hl 3 rfl) ?_
        refine q_if_ge (tgt := 48) (xi := p3.toInt) S rfl dX5_sheet_39 (by decide) (fun c5 => ?_) (fun c5 => ?_)
        · have hs := hs.trans (cif_t c5)
          refine lv_aload_n S.1 S.2.1 dX5_sheet_48 rfl (lv_at hl 0 rfl) ?_
          refine gf_RX5_68 S hK hX dX5_sheet_49 ?_
          refine lv_iload_n S.1 S.2.1 dX5_sheet_52 rfl (lv_at hl 1 rfl) ?_
          refine lv_iload_n S.1 S.2.1 dX5_sheet_53 rfl (lv_at hl 3 rfl) ?_
          refine as_M28 S hK hX hS (by omega) (by omega) dX5_sheet_54 (fun H locs hX hS => ?_)
          refine lv_aload_n S.1 S.2.1 dX5_sheet_55 rfl (lv_at hl 0 rfl) ?_
          refine gf_RX5_71 S hK hX dX5_sheet_56 ?_
          refine lv_iload_n S.1 S.2.1 dX5_sheet_59 rfl (lv_at hl 1 rfl) ?_
          refine lv_iload_n S.1 S.2.1 dX5_sheet_60 rfl (lv_at hl 2 rfl) ?_
          refine as_M29 S hK hX hS (by omega) (by omega) dX5_sheet_61 (fun H locs hX hS => ?_)
          refine lv_iconst (v := 0) S.1 S.2.1 dX5_sheet_62 (by decide) ?_
          refine lv_istore (lv' := [(4, .int 0), (0, .ref (ad 0 0)), (1, .int p1), (2, .int p2), (3, .int p3)]) S.1 S.2.1 dX5_sheet_63 hl (by decide) rfl (fun ls hl => ?_)
          have L65 : ∀ (n : Nat), ∀ (x4 : Int32) (e65 : Dt), p3.toInt - x4.toInt < (n : Int) → 0 ≤ x4.toInt → x4.toInt ≤ p3.toInt → sp_X5_sheet d p1 p2 p3 = lp_X5_sheet_65 d p1 p2 p3 n x4 e65 → ∀ (H : Heap) (locs : List Loc), PIC D (MF G ad) MN ad e65 H → va_S (adS MN ad) s.heap H locs → ∀ ls : Array Slot, lv_has ls 5 [(4, .int x4), (0, .ref (ad 0 0)), (1, .int p1), (2, .int p2), (3, .int p3)] → W p l e ({ frames := 2, cells := 0, slots := 0, locals := 45 } : Room) s m [.ref (ad 0 0), .int p1, .int p2, .int p3].toArray below meth c H locs 0 0 (MQ below (qW (some (.int (sp_X5_sheet d p1 p2 p3).1)) D (MF G ad) MN ad (sp_X5_sheet d p1 p2 p3).2) [.ref (ad 0 0), .int p1, .int p2, .int p3].toArray s 0 0 (adS MN ad)) (F0 m 65 ls []) := by
            intro n
            induction n with
            | zero => intro x4 e65 hms v65_0 v65_1 hs H locs hX hS ls hl; omega
            | succ n ih65 =>
              intro x4 e65 hms v65_0 v65_1 hs H locs hX hS ls hl
              have hs := hs.trans (st_X5_sheet_65.eq_1 d p1 p2 p3 (lp_X5_sheet_65 d p1 p2 p3 n) x4 e65)
              refine lv_iload S.1 S.2.1 dX5_sheet_65 (lv_at hl 0 rfl) ?_
              refine lv_iload_n S.1 S.2.1 dX5_sheet_67 rfl (lv_at hl 4 rfl) ?_
              refine q_icmp_ge (tgt := 90) (xi := x4.toInt) (yi := p3.toInt) S rfl rfl dX5_sheet_68 (by decide) (fun c6 => ?_) (fun c6 => ?_)
              · have hs := hs.trans (cif_t c6)
                refine lv_aload_n S.1 S.2.1 dX5_sheet_90 rfl (lv_at hl 1 rfl) ?_
                refine lv_iconst (v := 1) S.1 S.2.1 dX5_sheet_91 (by decide) ?_
                refine cWV (rest := []) S (c_X5_refused l D G ad e65 1) gV_RX5_233 ds_X5_refused ⟨rfl, rfl⟩ ⟨Nat.le_of_ble_eq_true rfl, Nat.le_of_ble_eq_true rfl⟩ ⟨blindX, recvX hK hX (k := 0) (i := 0) Nat.zero_lt_one rfl rfl, preX hK hN hX _⟩ rfl hl.1 rfl (Nat.le_of_ble_eq_true rfl) ⟨Nat.le_of_ble_eq_true rfl, Nat.le_of_ble_eq_true rfl⟩ dX5_sheet_92 hS (fun _ h => h) (fun H locs hX hS hfr => ?_)
                exact wI S hr hlk hs hX hS dX5_sheet_95
              · have hs := hs.trans (cif_f c6)
                refine lv_aload_n S.1 S.2.1 dX5_sheet_71 rfl (lv_at hl 1 rfl) ?_
                refine gf_RX5_74 S hK hX dX5_sheet_72 ?_
                have e8 := lin (a := 60) (z := 60) (x := p1) (y := x4) rfl (by omega) (by omega) (by omega)
                refine lv_bipush (v := 60) S.1 S.2.1 dX5_sheet_75 (by decide) ?_
                refine lv_iload_n S.1 S.2.1 dX5_sheet_77 rfl (lv_at hl 2 rfl) ?_
                refine lv_imul S.1 S.2.1 dX5_sheet_78 ?_
                refine lv_iload S.1 S.2.1 dX5_sheet_79 (lv_at hl 0 rfl) ?_
                refine lv_iadd S.1 S.2.1 dX5_sheet_81 ?_
                refine lv_iconst (v := 0) S.1 S.2.1 dX5_sheet_82 (by decide) ?_
                refine as_M30 S hK hX hS (by omega) (by omega) dX5_sheet_83 (fun H locs hX hS => ?_)
                refine lv_iinc (v := x4 + 1) (lv' := [(4, .int (x4 + 1)), (0, .ref (ad 0 0)), (1, .int p1), (2, .int p2), (3, .int p3)]) S.1 S.2.1 dX5_sheet_84 hl (k := 0) rfl (by rfl) (by decide) rfl (fun ls hl => ?_)
                refine lv_goto (tgt := 65) S.1 S.2.1 dX5_sheet_87 (by decide) ?_
                have e9 : ((x4 + 1)).toInt = x4.toInt + 1 := ti1 (by omega)
                exact ih65 (x4 + 1) (uv e65 30 0 (ix ((60 * p1) + x4)) 0) (by omega) (by omega) (by omega) hs _ _ hX hS _ (lv_sub hl [0, 1, 2, 3, 4] rfl)
          exact L65 64 0 (uv (uv d 28 0 (ix p1) p3) 29 0 (ix p1) p2) (by first | omega | (simp only [Int32.toInt_zero]; omega)) (by first | omega | (simp only [Int32.toInt_zero]; omega)) (by first | omega | (simp only [Int32.toInt_zero]; omega)) hs _ _ hX hS _ (lv_sub hl [0, 1, 2, 3, 4] rfl)
        · have hs := hs.trans (cif_f c5)
          refine lv_aload_n S.1 S.2.1 dX5_sheet_42 rfl (lv_at hl 0 rfl) ?_
          refine lv_iconst (v := 4) S.1 S.2.1 dX5_sheet_43 (by decide) ?_
          refine cWV (rest := []) S (c_X5_failed l D G ad d 4) gV_RX5_237 ds_X5_failed ⟨rfl, rfl⟩ ⟨Nat.le_of_ble_eq_true rfl, Nat.le_of_ble_eq_true rfl⟩ ⟨blindX, recvX hK hX (k := 0) (i := 0) Nat.zero_lt_one rfl rfl, preX hK hN hX _⟩ rfl hl.1 rfl (Nat.le_of_ble_eq_true rfl) ⟨Nat.le_of_ble_eq_true rfl, Nat.le_of_ble_eq_true rfl⟩ dX5_sheet_44 hS (fun _ h => h) (fun H locs hX hS hfr => ?_)
          exact wI S hr hlk hs hX hS dX5_sheet_47
      · have hs := hs.trans (cif_f c4)
        refine lv_aload_n S.1 S.2.1 dX5_sheet_31 rfl (lv_at hl 0 rfl) ?_
        refine lv_bipush (v := (-2)) S.1 S.2.1 dX5_sheet_32 (by decide) ?_
        refine cWV (rest := []) S (c_X5_refused l D G ad d (-2)) gV_RX5_233 ds_X5_refused ⟨rfl, rfl⟩ ⟨Nat.le_of_ble_eq_true rfl, Nat.le_of_ble_eq_true rfl⟩ ⟨blindX, recvX hK hX (k := 0) (i := 0) Nat.zero_lt_one rfl rfl, preX hK hN hX _⟩ rfl hl.1 rfl (Nat.le_of_ble_eq_true rfl) ⟨Nat.le_of_ble_eq_true rfl, Nat.le_of_ble_eq_true rfl⟩ dX5_sheet_34 hS (fun _ h => h) (fun H locs hX hS hfr => ?_)
        exact wI S hr hlk hs hX hS dX5_sheet_37
  · have hs := hs.trans (cif_t c1)
    refine lv_aload_n S.1 S.2.1 dX5_sheet_7 rfl (lv_at hl 0 rfl) ?_
    refine lv_iconst (v := (-1)) S.1 S.2.1 dX5_sheet_8 (by decide) ?_
    refine cWV (rest := []) S (c_X5_refused l D G ad d (-1)) gV_RX5_233 ds_X5_refused ⟨rfl, rfl⟩ ⟨Nat.le_of_ble_eq_true rfl, Nat.le_of_ble_eq_true rfl⟩ ⟨blindX, recvX hK hX (k := 0) (i := 0) Nat.zero_lt_one rfl rfl, preX hK hN hX _⟩ rfl hl.1 rfl (Nat.le_of_ble_eq_true rfl) ⟨Nat.le_of_ble_eq_true rfl, Nat.le_of_ble_eq_true rfl⟩ dX5_sheet_9 hS (fun _ h => h) (fun H locs hX hS hfr => ?_)
    exact wI S hr hlk hs hX hS dX5_sheet_12
set_option maxRecDepth 100000 in
set_option maxHeartbeats 8000000 in
theorem c_X5_lose (l : Launch) (D : va_G) (G : Gc) (ad : Nat → Nat → Nat) (d : Dt) (p1 : Int32) (hI : MI d) : Met l yX5_lose (wsU yX5_lose cX5_lose 3 (some .int)) ({ frames := 2, cells := 0, slots := 0, locals := 45 } : Room) (va_Pc [.ref (ad 0 0), .int p1] (XPre D (tysG G) (MF G ad) MN ad d)) (qW (some (.int (sp_X5_lose d p1).1)) D (MF G ad) MN ad (sp_X5_lose d p1).2) 0 0 (adS MN ad) := by
  refine ent (by decide +kernel) (Nat.le_of_ble_eq_true rfl) ?_
  intro p e s m below meth c S hr hlk hpre ls hl
  have S : CallFix p m c cX5_lose 3 s [.ref (ad 0 0), .int p1].toArray wsL_law RX5 := S
  obtain ⟨hK, hN, hX⟩ := hpre
  have hl : lv_has ls 3 [(0, .ref (ad 0 0)), (1, .int p1)] := hl
  have hs := sp_X5_lose.eq_1 d p1
  have hS : va_S (adS MN ad) s.heap s.heap [] := va_S.rf
  have q1 := hI.1
  have q2 := hI.2.2.1
  have q3 := hI.2.2.2.1
  have q4 := hI.2.2.2.2.1
  refine lv_iload_n S.1 S.2.1 dX5_lose_0 rfl (lv_at hl 1 rfl) ?_
  refine cPS (rest := []) S (c_X5_noSheet l p1) gS_RX5_230 ds_X5_noSheet.2 ⟨rfl, rfl⟩ ⟨Nat.le_of_ble_eq_true rfl, Nat.le_of_ble_eq_true rfl⟩ rfl hl.1 rfl (Nat.le_of_ble_eq_true rfl) ⟨Nat.le_of_ble_eq_true rfl, Nat.le_of_ble_eq_true rfl⟩ dX5_lose_1 ?_
  refine q_if_eq_b (tgt := 9) S dX5_lose_4 (by decide) (fun c1 => ?_) (fun c1 => ?_)
  · have hs := hs.trans (cif_f c1)
    have f2 := ns_of c1
    refine lv_aload_n S.1 S.2.1 dX5_lose_9 rfl (lv_at hl 0 rfl) ?_
    refine gf_RX5_68 S hK hX dX5_lose_10 ?_
    refine lv_iload_n S.1 S.2.1 dX5_lose_13 rfl (lv_at hl 1 rfl) ?_
    refine al_M28 S hK hX (by omega) (by omega) (z := d.1 28 0 (ix p1)) rfl dX5_lose_14 ?_
    have f3 := hI.sz (x := p1) (by omega) (by omega)
    refine q_if_ge (tgt := 22) (xi := (d.1 28 0 (ix p1)).toInt) S rfl dX5_lose_15 (by decide) (fun c4 => ?_) (fun c4 => ?_)
    · have hs := hs.trans (cif_t c4)
      refine lv_iconst (v := 1) S.1 S.2.1 dX5_lose_22 (by decide) ?_
      refine lv_istore_n (lv' := [(2, .int 1), (0, .ref (ad 0 0)), (1, .int p1)]) S.1 S.2.1 dX5_lose_23 rfl hl (by decide) rfl (fun ls hl => ?_)
      refine lv_aload_n S.1 S.2.1 dX5_lose_24 rfl (lv_at hl 1 rfl) ?_
      refine gf_RX5_68 S hK hX dX5_lose_25 ?_
      refine lv_iload_n S.1 S.2.1 dX5_lose_28 rfl (lv_at hl 2 rfl) ?_
      refine lv_iconst (v := (-1)) S.1 S.2.1 dX5_lose_29 (by decide) ?_
      refine as_M28 S hK hX hS (by omega) (by omega) dX5_lose_30 (fun H locs hX hS => ?_)
      refine lv_iload_n S.1 S.2.1 dX5_lose_31 rfl (lv_at hl 0 rfl) ?_
      exact wI S hr hlk hs hX hS dX5_lose_32
    · have hs := hs.trans (cif_f c4)
      refine lv_iconst (v := 0) S.1 S.2.1 dX5_lose_18 (by decide) ?_
      refine lv_goto (tgt := 23) S.1 S.2.1 dX5_lose_19 (by decide) ?_
      refine lv_istore_n (lv' := [(2, .int 0), (0, .ref (ad 0 0)), (1, .int p1)]) S.1 S.2.1 dX5_lose_23 rfl hl (by decide) rfl (fun ls hl => ?_)
      refine lv_aload_n S.1 S.2.1 dX5_lose_24 rfl (lv_at hl 1 rfl) ?_
      refine gf_RX5_68 S hK hX dX5_lose_25 ?_
      refine lv_iload_n S.1 S.2.1 dX5_lose_28 rfl (lv_at hl 2 rfl) ?_
      refine lv_iconst (v := (-1)) S.1 S.2.1 dX5_lose_29 (by decide) ?_
      refine as_M28 S hK hX hS (by omega) (by omega) dX5_lose_30 (fun H locs hX hS => ?_)
      refine lv_iload_n S.1 S.2.1 dX5_lose_31 rfl (lv_at hl 0 rfl) ?_
      exact wI S hr hlk hs hX hS dX5_lose_32
  · have hs := hs.trans (cif_t c1)
    refine lv_iconst (v := (-1)) S.1 S.2.1 dX5_lose_7 (by decide) ?_
    exact wI S hr hlk hs hX hS dX5_lose_8
set_option maxRecDepth 100000 in
set_option maxHeartbeats 8000000 in
theorem c_X5_noCell (l : Launch) (D : va_G) (G : Gc) (ad : Nat → Nat → Nat) (d : Dt) (p1 : Int32) (p2 : Int32) (hI : MI d) (h0 : 0 ≤ p1.toInt) (h1 : p1.toInt < 4) : Met l yX5_noCell (wsU yX5_noCell cX5_noCell 3 (some .int)) ({ frames := 1, cells := 0, slots := 0, locals := 25 } : Room) (va_Pc [.ref (ad 0 0), .int p1, .int p2] (XPre D (tysG G) (MF G ad) MN ad d)) (qV (some (.int (sp_X5_noCell d p1 p2)))) 0 0 (fun _ => False) := by
  refine ent (by decide +kernel) (Nat.le_of_ble_eq_true rfl) ?_
  intro p e s m below meth c S hr hlk hpre ls hl
  have S : CallFix p m c cX5_noCell 3 s [.ref (ad 0 0), .int p1, .int p2].toArray wsL_law RX5 := S
  obtain ⟨hK, hN, hX⟩ := hpre
  have hl : lv_has ls 3 [(0, .ref (ad 0 0)), (1, .int p1), (2, .int p2)] := hl
  have hs := sp_X5_noCell.eq_1 d p1 p2
  have q1 := hI.1
  have q2 := hI.2.2.1
  have q3 := hI.2.2.2.1
  have q4 := hI.2.2.2.2.1
  refine lv_aload_n S.1 S.2.1 dX5_noCell_0 rfl (lv_at hl 0 rfl) ?_
  refine gf_RX5_68 S hK hX dX5_noCell_1 ?_
  refine lv_iload_n S.1 S.2.1 dX5_noCell_4 rfl (lv_at hl 1 rfl) ?_
  refine al_M28 S hK hX (by omega) (by omega) (z := d.1 28 0 (ix p1)) rfl dX5_noCell_5 ?_
  have f1 := hI.sz (x := p1) (by omega) (by omega)
  refine q_if_ge (tgt := 13) (xi := (d.1 28 0 (ix p1)).toInt) S rfl dX5_noCell_6 (by decide) (fun c2 => ?_) (fun c2 => ?_)
  · have hs := hs.trans (cif_t c2)
    refine lv_iload_n S.1 S.2.1 dX5_noCell_13 rfl (lv_at hl 2 rfl) ?_
    refine lv_i2l S.1 S.2.1 dX5_noCell_14 rfl ?_
    refine lv_lconst (v := 0) S.1 S.2.1 dX5_noCell_15 (by decide) ?_
    refine lv_aload_n S.1 S.2.1 dX5_noCell_16 rfl (lv_at hl 0 rfl) ?_
    refine gf_RX5_68 S hK hX dX5_noCell_17 ?_
    refine lv_iload_n S.1 S.2.1 dX5_noCell_20 rfl (lv_at hl 1 rfl) ?_
    refine al_M28 S hK hX (by omega) (by omega) (z := d.1 28 0 (ix p1)) rfl dX5_noCell_21 ?_
    have f3 := hI.sz (x := p1) (by omega) (by omega)
    refine lv_i2l S.1 S.2.1 dX5_noCell_22 rfl ?_
    refine lv_lconst (v := 1) S.1 S.2.1 dX5_noCell_23 (by decide) ?_
    refine lv_lsub S.1 S.2.1 dX5_noCell_24 ?_
    refine cPS (rest := []) S (c_X5_in l p2.toInt64 0 (((d.1 28 0 (ix p1)).toInt64) - 1)) gS_RX5_101 ds_X5_in.2 ⟨rfl, rfl⟩ ⟨Nat.le_of_ble_eq_true rfl, Nat.le_of_ble_eq_true rfl⟩ rfl hl.1 rfl (Nat.le_of_ble_eq_true rfl) ⟨Nat.le_of_ble_eq_true rfl, Nat.le_of_ble_eq_true rfl⟩ dX5_noCell_25 ?_
    refine q_if_eq_b (tgt := 35) S dX5_noCell_28 (by decide) (fun c4 => ?_) (fun c4 => ?_)
    · have hs := hs.trans (cif_f c4)
      refine lv_iconst (v := 3) S.1 S.2.1 dX5_noCell_35 (by decide) ?_
      exact rI S hr hlk hs dX5_noCell_36
    · have hs := hs.trans (cif_t c4)
      refine lv_iconst (v := 0) S.1 S.2.1 dX5_noCell_31 (by decide) ?_
      refine lv_goto (tgt := 36) S.1 S.2.1 dX5_noCell_32 (by decide) ?_
      exact rI S hr hlk hs dX5_noCell_36
  · have hs := hs.trans (cif_f c2)
    refine lv_iconst (v := 1) S.1 S.2.1 dX5_noCell_9 (by decide) ?_
    refine lv_goto (tgt := 36) S.1 S.2.1 dX5_noCell_10 (by decide) ?_
    exact rI S hr hlk hs dX5_noCell_36
set_option maxRecDepth 100000 in
set_option maxHeartbeats 8000000 in
theorem c_X5_put (l : Launch) (D : va_G) (G : Gc) (ad : Nat → Nat → Nat) (d : Dt) (p1 : Int32) (p2 : Int32) (p3 : Int32) (hI : MI d) : Met l yX5_put (wsU yX5_put cX5_put 4 (some .int)) ({ frames := 2, cells := 0, slots := 0, locals := 47 } : Room) (va_Pc [.ref (ad 0 0), .int p1, .int p2, .int p3] (XPre D (tysG G) (MF G ad) MN ad d)) (qW (some (.int (sp_X5_put d p1 p2 p3).1)) D (MF G ad) MN ad (sp_X5_put d p1 p2 p3).2) 0 0 (adS MN ad) := by
  refine ent (by decide +kernel) (Nat.le_of_ble_eq_true rfl) ?_
  intro p e s m below meth c S hr hlk hpre ls hl
  have S : CallFix p m c cX5_put 4 s [.ref (ad 0 0), .int p1, .int p2, .int p3].toArray wsL_law RX5 := S
  obtain ⟨hK, hN, hX⟩ := hpre
  have hl : lv_has ls 4 [(0, .ref (ad 0 0)), (1, .int p1), (2, .int p2), (3, .int p3)] := hl
  have hs := sp_X5_put.eq_1 d p1 p2 p3
  have hS : va_S (adS MN ad) s.heap s.heap [] := va_S.rf
  have q1 := hI.1
  have q2 := hI.2.2.1
  have q3 := hI.2.2.2.1
  have q4 := hI.2.2.2.2.1
  refine lv_iload_n S.1 S.2.1 dX5_put_0 rfl (lv_at hl 1 rfl) ?_
  refine cPS (rest := []) S (c_X5_noSheet l p1) gS_RX5_230 ds_X5_noSheet.2 ⟨rfl, rfl⟩ ⟨Nat.le_of_ble_eq_true rfl, Nat.le_of_ble_eq_true rfl⟩ rfl hl.1 rfl (Nat.le_of_ble_eq_true rfl) ⟨Nat.le_of_ble_eq_true rfl, Nat.le_of_ble_eq_true rfl⟩ dX5_put_1 ?_
  refine q_if_eq_b (tgt := 13) S dX5_put_4 (by decide) (fun c1 => ?_) (fun c1 => ?_)
  · have hs := hs.trans (cif_f c1)
    have f2 := ns_of c1
    refine lv_aload_n S.1 S.2.1 dX5_put_13 rfl (lv_at hl 0 rfl) ?_
    refine lv_iload_n S.1 S.2.1 dX5_put_14 rfl (lv_at hl 1 rfl) ?_
    refine lv_iload_n S.1 S.2.1 dX5_put_15 rfl (lv_at hl 2 rfl) ?_
    refine cPV (rest := []) S (c_X5_noCell l D G ad d p1 p2 hI (by omega) (by omega)) gV_RX5_240 ds_X5_noCell ⟨rfl, rfl⟩ ⟨Nat.le_of_ble_eq_true rfl, Nat.le_of_ble_eq_true rfl⟩ ⟨blindX, recvX hK hX (k := 0) (i := 0) Nat.zero_lt_one rfl rfl, preX hK hN hX _⟩ rfl hl.1 rfl (Nat.le_of_ble_eq_true rfl) ⟨Nat.le_of_ble_eq_true rfl, Nat.le_of_ble_eq_true rfl⟩ dX5_put_16 ?_
    refine q_if_le (tgt := 33) (xi := (sp_X5_noCell d p1 p2).toInt) S rfl dX5_put_19 (by decide) (fun c3 => ?_) (fun c3 => ?_)
    · have hs := hs.trans (cif_t c3)
      refine lv_aload_n S.1 S.2.1 dX5_put_33 rfl (lv_at hl 0 rfl) ?_
      refine gf_RX5_74 S hK hX dX5_put_34 ?_
      have g1 := nc_of (k := p1) (i := p2) hI (by omega) (by omega) (by assumption)
      have e8 := lin (a := 60) (z := 60) (x := p1) (y := p2) rfl (by omega) (by omega) (by omega)
      refine lv_bipush (v := 60) S.1 S.2.1 dX5_put_37 (by decide) ?_
      refine lv_iload_n S.1 S.2.1 dX5_put_39 rfl (lv_at hl 1 rfl) ?_
      refine lv_imul S.1 S.2.1 dX5_put_40 ?_
      refine lv_iload_n S.1 S.2.1 dX5_put_41 rfl (lv_at hl 2 rfl) ?_
      refine lv_iadd S.1 S.2.1 dX5_put_42 ?_
      refine lv_aload_n S.1 S.2.1 dX5_put_43 rfl (lv_at hl 0 rfl) ?_
      refine gf_RX5_71 S hK hX dX5_put_44 ?_
      refine lv_iload_n S.1 S.2.1 dX5_put_47 rfl (lv_at hl 1 rfl) ?_
      refine al_M29 S hK hX (by omega) (by omega) (z := d.1 29 0 (ix p1)) rfl dX5_put_48 ?_
      refine q_if_ne (tgt := 57) (xi := (d.1 29 0 (ix p1)).toInt) S rfl dX5_put_49 (by decide) (fun c4 => ?_) (fun c4 => ?_)
      · have hs := hs.trans (cif_f c4)
        refine lv_aload_n S.1 S.2.1 dX5_put_57 rfl (lv_at hl 0 rfl) ?_
        refine gf_RX5_71 S hK hX dX5_put_58 ?_
        refine lv_iload_n S.1 S.2.1 dX5_put_61 rfl (lv_at hl 1 rfl) ?_
        refine al_M29 S hK hX (by omega) (by omega) (z := d.1 29 0 (ix p1)) rfl dX5_put_62 ?_
        refine lv_iconst (v := 1) S.1 S.2.1 dX5_put_63 (by decide) ?_
        refine q_icmp_ne (tgt := 72) (xi := (d.1 29 0 (ix p1)).toInt) (yi := 1) S rfl rfl dX5_put_64 (by decide) (fun c5 => ?_) (fun c5 => ?_)
        · have hs := hs.trans (cif_f c5)
          refine lv_iload_n S.1 S.2.1 dX5_put_72 rfl (lv_at hl 3 rfl) ?_
          refine as_M30 S hK hX hS (by omega) (by omega) dX5_put_73 (fun H locs hX hS => ?_)
          refine lv_aload_n S.1 S.2.1 dX5_put_74 rfl (lv_at hl 0 rfl) ?_
          refine lv_iconst (v := 1) S.1 S.2.1 dX5_put_75 (by decide) ?_
          refine cWV (rest := []) S (c_X5_refused l D G ad (uv d 30 0 (ix ((60 * p1) + p2)) p3) 1) gV_RX5_233 ds_X5_refused ⟨rfl, rfl⟩ ⟨Nat.le_of_ble_eq_true rfl, Nat.le_of_ble_eq_true rfl⟩ ⟨blindX, recvX hK hX (k := 0) (i := 0) Nat.zero_lt_one rfl rfl, preX hK hN hX _⟩ rfl hl.1 rfl (Nat.le_of_ble_eq_true rfl) ⟨Nat.le_of_ble_eq_true rfl, Nat.le_of_ble_eq_true rfl⟩ dX5_put_76 hS (fun _ h => h) (fun H locs hX hS hfr => ?_)
          exact wI S hr hlk hs hX hS dX5_put_79
        · have hs := hs.trans (cif_t c5)
          refine lv_iload_n S.1 S.2.1 dX5_put_67 rfl (lv_at hl 3 rfl) ?_
          refine lv_i2s S.1 S.2.1 dX5_put_68 rfl ?_
          refine lv_goto (tgt := 73) S.1 S.2.1 dX5_put_69 (by decide) ?_
          refine as_M30 S hK hX hS (by omega) (by omega) dX5_put_73 (fun H locs hX hS => ?_)
          refine lv_aload_n S.1 S.2.1 dX5_put_74 rfl (lv_at hl 0 rfl) ?_
          refine lv_iconst (v := 1) S.1 S.2.1 dX5_put_75 (by decide) ?_
          refine cWV (rest := []) S (c_X5_refused l D G ad (uv d 30 0 (ix ((60 * p1) + p2)) p3.toInt16.toInt32) 1) gV_RX5_233 ds_X5_refused ⟨rfl, rfl⟩ ⟨Nat.le_of_ble_eq_true rfl, Nat.le_of_ble_eq_true rfl⟩ ⟨blindX, recvX hK hX (k := 0) (i := 0) Nat.zero_lt_one rfl rfl, preX hK hN hX _⟩ rfl hl.1 rfl (Nat.le_of_ble_eq_true rfl) ⟨Nat.le_of_ble_eq_true rfl, Nat.le_of_ble_eq_true rfl⟩ dX5_put_76 hS (fun _ h => h) (fun H locs hX hS hfr => ?_)
          exact wI S hr hlk hs hX hS dX5_put_79
      · have hs := hs.trans (cif_t c4)
        refine lv_iload_n S.1 S.2.1 dX5_put_52 rfl (lv_at hl 3 rfl) ?_
        refine lv_i2b S.1 S.2.1 dX5_put_53 rfl ?_
        refine lv_goto (tgt := 73) S.1 S.2.1 dX5_put_54 (by decide) ?_
        refine as_M30 S hK hX hS (by omega) (by omega) dX5_put_73 (fun H locs hX hS => ?_)
        refine lv_aload_n S.1 S.2.1 dX5_put_74 rfl (lv_at hl 0 rfl) ?_
        refine lv_iconst (v := 1) S.1 S.2.1 dX5_put_75 (by decide) ?_
        refine cWV (rest := []) S (c_X5_refused l D G ad (uv d 30 0 (ix ((60 * p1) + p2)) p3.toInt8.toInt32) 1) gV_RX5_233 ds_X5_refused ⟨rfl, rfl⟩ ⟨Nat.le_of_ble_eq_true rfl, Nat.le_of_ble_eq_true rfl⟩ ⟨blindX, recvX hK hX (k := 0) (i := 0) Nat.zero_lt_one rfl rfl, preX hK hN hX _⟩ rfl hl.1 rfl (Nat.le_of_ble_eq_true rfl) ⟨Nat.le_of_ble_eq_true rfl, Nat.le_of_ble_eq_true rfl⟩ dX5_put_76 hS (fun _ h => h) (fun H locs hX hS hfr => ?_)
        exact wI S hr hlk hs hX hS dX5_put_79
    · have hs := hs.trans (cif_f c3)
      refine lv_aload_n S.1 S.2.1 dX5_put_22 rfl (lv_at hl 0 rfl) ?_
      refine lv_aload_n S.1 S.2.1 dX5_put_23 rfl (lv_at hl 0 rfl) ?_
      refine lv_iload_n S.1 S.2.1 dX5_put_24 rfl (lv_at hl 1 rfl) ?_
      refine lv_iload_n S.1 S.2.1 dX5_put_25 rfl (lv_at hl 2 rfl) ?_
      refine cPV (rest := [.ref (ad 0 0)]) S (c_X5_noCell l D G ad d p1 p2 hI (by omega) (by omega)) gV_RX5_240 ds_X5_noCell ⟨rfl, rfl⟩ ⟨Nat.le_of_ble_eq_true rfl, Nat.le_of_ble_eq_true rfl⟩ ⟨blindX, recvX hK hX (k := 0) (i := 0) Nat.zero_lt_one rfl rfl, preX hK hN hX _⟩ rfl hl.1 rfl (Nat.le_of_ble_eq_true rfl) ⟨Nat.le_of_ble_eq_true rfl, Nat.le_of_ble_eq_true rfl⟩ dX5_put_26 ?_
      refine cWV (rest := []) S (c_X5_failed l D G ad d (sp_X5_noCell d p1 p2)) gV_RX5_237 ds_X5_failed ⟨rfl, rfl⟩ ⟨Nat.le_of_ble_eq_true rfl, Nat.le_of_ble_eq_true rfl⟩ ⟨blindX, recvX hK hX (k := 0) (i := 0) Nat.zero_lt_one rfl rfl, preX hK hN hX _⟩ rfl hl.1 rfl (Nat.le_of_ble_eq_true rfl) ⟨Nat.le_of_ble_eq_true rfl, Nat.le_of_ble_eq_true rfl⟩ dX5_put_29 hS (fun _ h => h) (fun H locs hX hS hfr => ?_)
      exact wI S hr hlk hs hX hS dX5_put_32
  · have hs := hs.trans (cif_t c1)
    refine lv_aload_n S.1 S.2.1 dX5_put_7 rfl (lv_at hl 0 rfl) ?_
    refine lv_iconst (v := (-1)) S.1 S.2.1 dX5_put_8 (by decide) ?_
    refine cWV (rest := []) S (c_X5_refused l D G ad d (-1)) gV_RX5_233 ds_X5_refused ⟨rfl, rfl⟩ ⟨Nat.le_of_ble_eq_true rfl, Nat.le_of_ble_eq_true rfl⟩ ⟨blindX, recvX hK hX (k := 0) (i := 0) Nat.zero_lt_one rfl rfl, preX hK hN hX _⟩ rfl hl.1 rfl (Nat.le_of_ble_eq_true rfl) ⟨Nat.le_of_ble_eq_true rfl, Nat.le_of_ble_eq_true rfl⟩ dX5_put_9 hS (fun _ h => h) (fun H locs hX hS hfr => ?_)
    exact wI S hr hlk hs hX hS dX5_put_12
set_option maxRecDepth 100000 in
set_option maxHeartbeats 8000000 in
theorem c_X5_cell (l : Launch) (D : va_G) (G : Gc) (ad : Nat → Nat → Nat) (d : Dt) (p1 : Int32) (p2 : Int32) (p3 : Int32) (hI : MI d) : Met l yX5_cell (wsU yX5_cell cX5_cell 4 (some .long)) ({ frames := 2, cells := 0, slots := 0, locals := 47 } : Room) (va_Pc [.ref (ad 0 0), .int p1, .int p2, .int p3] (XPre D (tysG G) (MF G ad) MN ad d)) (qW (some (.long (sp_X5_cell d p1 p2 p3).1)) D (MF G ad) MN ad (sp_X5_cell d p1 p2 p3).2) 0 0 (adS MN ad) := by
  refine ent (by decide +kernel) (Nat.le_of_ble_eq_true rfl) ?_
  intro p e s m below meth c S hr hlk hpre ls hl
  have S : CallFix p m c cX5_cell 4 s [.ref (ad 0 0), .int p1, .int p2, .int p3].toArray wsL_law RX5 := S
  obtain ⟨hK, hN, hX⟩ := hpre
  have hl : lv_has ls 4 [(0, .ref (ad 0 0)), (1, .int p1), (2, .int p2), (3, .int p3)] := hl
  have hs := sp_X5_cell.eq_1 d p1 p2 p3
  have hS : va_S (adS MN ad) s.heap s.heap [] := va_S.rf
  have q1 := hI.1
  have q2 := hI.2.2.1
  have q3 := hI.2.2.2.1
  have q4 := hI.2.2.2.2.1
  refine lv_aload_n S.1 S.2.1 dX5_cell_0 rfl (lv_at hl 0 rfl) ?_
  refine lv_iconst (v := 0) S.1 S.2.1 dX5_cell_1 (by decide) ?_
  refine pf_RX5_89 S hK hX hS dX5_cell_2 (fun H locs hX hS => ?_)
  refine lv_iload_n S.1 S.2.1 dX5_cell_5 rfl (lv_at hl 1 rfl) ?_
  refine cPS (rest := []) S (c_X5_noSheet l p1) gS_RX5_230 ds_X5_noSheet.2 ⟨rfl, rfl⟩ ⟨Nat.le_of_ble_eq_true rfl, Nat.le_of_ble_eq_true rfl⟩ rfl hl.1 rfl (Nat.le_of_ble_eq_true rfl) ⟨Nat.le_of_ble_eq_true rfl, Nat.le_of_ble_eq_true rfl⟩ dX5_cell_6 ?_
  refine q_if_ne_b (tgt := 24) S dX5_cell_9 (by decide) (fun c1 => ?_) (fun c1 => ?_)
  · have hs := hs.trans (cif_t c1)
    refine cPS (rest := []) S (c_X5_lost l) gS_RX5_92 ds_X5_lost.2 ⟨rfl, rfl⟩ ⟨Nat.le_of_ble_eq_true rfl, Nat.le_of_ble_eq_true rfl⟩ rfl hl.1 rfl (Nat.le_of_ble_eq_true rfl) ⟨Nat.le_of_ble_eq_true rfl, Nat.le_of_ble_eq_true rfl⟩ dX5_cell_24 ?_
    exact wL S hr hlk hs hX hS dX5_cell_27
  · have hs := hs.trans (cif_f c1)
    have f2 := ns_of c1
    refine lv_iload_n S.1 S.2.1 dX5_cell_12 rfl (lv_at hl 3 rfl) ?_
    refine lv_i2l S.1 S.2.1 dX5_cell_13 rfl ?_
    refine lv_lconst (v := 0) S.1 S.2.1 dX5_cell_14 (by decide) ?_
    refine lv_ldc2 S.1 S.2.1 S.2.2.2.1 (S.2.2.2.2 _ wKL_RX5_96) dX5_cell_15 ?_
    refine cPS (rest := []) S (c_X5_in l p3.toInt64 0 2) gS_RX5_101 ds_X5_in.2 ⟨rfl, rfl⟩ ⟨Nat.le_of_ble_eq_true rfl, Nat.le_of_ble_eq_true rfl⟩ rfl hl.1 rfl (Nat.le_of_ble_eq_true rfl) ⟨Nat.le_of_ble_eq_true rfl, Nat.le_of_ble_eq_true rfl⟩ dX5_cell_18 ?_
    refine q_if_ne_b (tgt := 28) S dX5_cell_21 (by decide) (fun c3 => ?_) (fun c3 => ?_)
    · have hs := hs.trans (cif_t c3)
      refine lv_aload_n S.1 S.2.1 dX5_cell_28 rfl (lv_at hl 0 rfl) ?_
      refine gf_RX5_68 S hK hX dX5_cell_29 ?_
      refine lv_iload_n S.1 S.2.1 dX5_cell_32 rfl (lv_at hl 1 rfl) ?_
      refine al_M28 S hK hX (by omega) (by omega) (z := d.1 28 0 (ix p1)) rfl dX5_cell_33 ?_
      have f4 := hI.sz (x := p1) (by omega) (by omega)
      refine q_if_lt (tgt := 53) (xi := (d.1 28 0 (ix p1)).toInt) S rfl dX5_cell_34 (by decide) (fun c5 => ?_) (fun c5 => ?_)
      · have hs := hs.trans (cif_t c5)
        refine lv_aload_n S.1 S.2.1 dX5_cell_53 rfl (lv_at hl 0 rfl) ?_
        refine lv_iload_n S.1 S.2.1 dX5_cell_54 rfl (lv_at hl 1 rfl) ?_
        refine lv_iload_n S.1 S.2.1 dX5_cell_55 rfl (lv_at hl 2 rfl) ?_
        refine cPV (rest := []) S (c_X5_noCell l D G ad (uv d 0 0 0 0) p1 p2 (MI.s0 (x := 0) hI) (by omega) (by omega)) gV_RX5_240 ds_X5_noCell ⟨rfl, rfl⟩ ⟨Nat.le_of_ble_eq_true rfl, Nat.le_of_ble_eq_true rfl⟩ ⟨blindX, recvX hK hX (k := 0) (i := 0) Nat.zero_lt_one rfl rfl, preX hK hN hX _⟩ rfl hl.1 rfl (Nat.le_of_ble_eq_true rfl) ⟨Nat.le_of_ble_eq_true rfl, Nat.le_of_ble_eq_true rfl⟩ dX5_cell_56 ?_
        refine q_if_le (tgt := 75) (xi := (sp_X5_noCell (uv d 0 0 0 0) p1 p2).toInt) S rfl dX5_cell_59 (by decide) (fun c6 => ?_) (fun c6 => ?_)
        · have hs := hs.trans (cif_t c6)
          refine lv_aload_n S.1 S.2.1 dX5_cell_75 rfl (lv_at hl 0 rfl) ?_
          refine gf_RX5_74 S hK hX dX5_cell_76 ?_
          have g1 := nc_of (k := p1) (i := p2) (MI.s0 (x := 0) hI) (by omega) (by omega) (by assumption)
          have e8 := lin (a := 60) (z := 60) (x := p1) (y := p2) rfl (by omega) (by omega) (by omega)
          refine lv_bipush (v := 60) S.1 S.2.1 dX5_cell_79 (by decide) ?_
          refine lv_iload_n S.1 S.2.1 dX5_cell_81 rfl (lv_at hl 1 rfl) ?_
          refine lv_imul S.1 S.2.1 dX5_cell_82 ?_
          refine lv_iload_n S.1 S.2.1 dX5_cell_83 rfl (lv_at hl 2 rfl) ?_
          refine lv_iadd S.1 S.2.1 dX5_cell_84 ?_
          refine al_M30 S hK hX (by omega) (by omega) (z := d.1 30 0 (ix ((60 * p1) + p2))) rfl dX5_cell_85 ?_
          refine lv_i2l S.1 S.2.1 dX5_cell_86 rfl ?_
          exact wL S hr hlk hs hX hS dX5_cell_87
        · have hs := hs.trans (cif_f c6)
          refine lv_aload_n S.1 S.2.1 dX5_cell_62 rfl (lv_at hl 0 rfl) ?_
          refine lv_aload_n S.1 S.2.1 dX5_cell_63 rfl (lv_at hl 0 rfl) ?_
          refine lv_iload_n S.1 S.2.1 dX5_cell_64 rfl (lv_at hl 1 rfl) ?_
          refine lv_iload_n S.1 S.2.1 dX5_cell_65 rfl (lv_at hl 2 rfl) ?_
          refine cPV (rest := [.ref (ad 0 0)]) S (c_X5_noCell l D G ad (uv d 0 0 0 0) p1 p2 (MI.s0 (x := 0) hI) (by omega) (by omega)) gV_RX5_240 ds_X5_noCell ⟨rfl, rfl⟩ ⟨Nat.le_of_ble_eq_true rfl, Nat.le_of_ble_eq_true rfl⟩ ⟨blindX, recvX hK hX (k := 0) (i := 0) Nat.zero_lt_one rfl rfl, preX hK hN hX _⟩ rfl hl.1 rfl (Nat.le_of_ble_eq_true rfl) ⟨Nat.le_of_ble_eq_true rfl, Nat.le_of_ble_eq_true rfl⟩ dX5_cell_66 ?_
          refine cWV (rest := []) S (c_X5_failedLong l D G ad (uv d 0 0 0 0) (sp_X5_noCell (uv d 0 0 0 0) p1 p2)) gV_RX5_243 ds_X5_failedLong ⟨rfl, rfl⟩ ⟨Nat.le_of_ble_eq_true rfl, Nat.le_of_ble_eq_true rfl⟩ ⟨blindX, recvX hK hX (k := 0) (i := 0) Nat.zero_lt_one rfl rfl, preX hK hN hX _⟩ rfl hl.1 rfl (Nat.le_of_ble_eq_true rfl) ⟨Nat.le_of_ble_eq_true rfl, Nat.le_of_ble_eq_true rfl⟩ dX5_cell_69 hS (fun _ h => h) (fun H locs hX hS hfr => ?_)
          refine lv_goto (tgt := 87) S.1 S.2.1 dX5_cell_72 (by decide) ?_
          exact wL S hr hlk hs hX hS dX5_cell_87
      · have hs := hs.trans (cif_f c5)
        refine lv_aload_n S.1 S.2.1 dX5_cell_37 rfl (lv_at hl 0 rfl) ?_
        refine gf_RX5_71 S hK hX dX5_cell_38 ?_
        refine lv_iload_n S.1 S.2.1 dX5_cell_41 rfl (lv_at hl 1 rfl) ?_
        refine al_M29 S hK hX (by omega) (by omega) (z := d.1 29 0 (ix p1)) rfl dX5_cell_42 ?_
        refine lv_iload_n S.1 S.2.1 dX5_cell_43 rfl (lv_at hl 3 rfl) ?_
        refine q_icmp_eq (tgt := 53) (xi := (d.1 29 0 (ix p1)).toInt) (yi := p3.toInt) S rfl rfl dX5_cell_44 (by decide) (fun c7 => ?_) (fun c7 => ?_)
        · have hs := hs.trans (cif_t c7)
          refine lv_aload_n S.1 S.2.1 dX5_cell_53 rfl (lv_at hl 0 rfl) ?_
          refine lv_iload_n S.1 S.2.1 dX5_cell_54 rfl (lv_at hl 1 rfl) ?_
          refine lv_iload_n S.1 S.2.1 dX5_cell_55 rfl (lv_at hl 2 rfl) ?_
          refine cPV (rest := []) S (c_X5_noCell l D G ad (uv d 0 0 0 0) p1 p2 (MI.s0 (x := 0) hI) (by omega) (by omega)) gV_RX5_240 ds_X5_noCell ⟨rfl, rfl⟩ ⟨Nat.le_of_ble_eq_true rfl, Nat.le_of_ble_eq_true rfl⟩ ⟨blindX, recvX hK hX (k := 0) (i := 0) Nat.zero_lt_one rfl rfl, preX hK hN hX _⟩ rfl hl.1 rfl (Nat.le_of_ble_eq_true rfl) ⟨Nat.le_of_ble_eq_true rfl, Nat.le_of_ble_eq_true rfl⟩ dX5_cell_56 ?_
          refine q_if_le (tgt := 75) (xi := (sp_X5_noCell (uv d 0 0 0 0) p1 p2).toInt) S rfl dX5_cell_59 (by decide) (fun c8 => ?_) (fun c8 => ?_)
          · have hs := hs.trans (cif_t c8)
            refine lv_aload_n S.1 S.2.1 dX5_cell_75 rfl (lv_at hl 0 rfl) ?_
            refine gf_RX5_74 S hK hX dX5_cell_76 ?_
            have g1 := nc_of (k := p1) (i := p2) (MI.s0 (x := 0) hI) (by omega) (by omega) (by assumption)
            have e8 := lin (a := 60) (z := 60) (x := p1) (y := p2) rfl (by omega) (by omega) (by omega)
            refine lv_bipush (v := 60) S.1 S.2.1 dX5_cell_79 (by decide) ?_
            refine lv_iload_n S.1 S.2.1 dX5_cell_81 rfl (lv_at hl 1 rfl) ?_
            refine lv_imul S.1 S.2.1 dX5_cell_82 ?_
            refine lv_iload_n S.1 S.2.1 dX5_cell_83 rfl (lv_at hl 2 rfl) ?_
            refine lv_iadd S.1 S.2.1 dX5_cell_84 ?_
            refine al_M30 S hK hX (by omega) (by omega) (z := d.1 30 0 (ix ((60 * p1) + p2))) rfl dX5_cell_85 ?_
            refine lv_i2l S.1 S.2.1 dX5_cell_86 rfl ?_
            exact wL S hr hlk hs hX hS dX5_cell_87
          · have hs := hs.trans (cif_f c8)
            refine lv_aload_n S.1 S.2.1 dX5_cell_62 rfl (lv_at hl 0 rfl) ?_
            refine lv_aload_n S.1 S.2.1 dX5_cell_63 rfl (lv_at hl 0 rfl) ?_
            refine lv_iload_n S.1 S.2.1 dX5_cell_64 rfl (lv_at hl 1 rfl) ?_
            refine lv_iload_n S.1 S.2.1 dX5_cell_65 rfl (lv_at hl 2 rfl) ?_
            refine cPV (rest := [.ref (ad 0 0)]) S (c_X5_noCell l D G ad (uv d 0 0 0 0) p1 p2 (MI.s0 (x := 0) hI) (by omega) (by omega)) gV_RX5_240 ds_X5_noCell ⟨rfl, rfl⟩ ⟨Nat.le_of_ble_eq_true rfl, Nat.le_of_ble_eq_true rfl⟩ ⟨blindX, recvX hK hX (k := 0) (i := 0) Nat.zero_lt_one rfl rfl, preX hK hN hX _⟩ rfl hl.1 rfl (Nat.le_of_ble_eq_true rfl) ⟨Nat.le_of_ble_eq_true rfl, Nat.le_of_ble_eq_true rfl⟩ dX5_cell_66 ?_
            refine cWV (rest := []) S (c_X5_failedLong l D G ad (uv d 0 0 0 0) (sp_X5_noCell (uv d 0 0 0 0) p1 p2)) gV_RX5_243 ds_X5_failedLong ⟨rfl, rfl⟩ ⟨Nat.le_of_ble_eq_true rfl, Nat.le_of_ble_eq_true rfl⟩ ⟨blindX, recvX hK hX (k := 0) (i := 0) Nat.zero_lt_one rfl rfl, preX hK hN hX _⟩ rfl hl.1 rfl (Nat.le_of_ble_eq_true rfl) ⟨Nat.le_of_ble_eq_true rfl, Nat.le_of_ble_eq_true rfl⟩ dX5_cell_69 hS (fun _ h => h) (fun H locs hX hS hfr => ?_)
            refine lv_goto (tgt := 87) S.1 S.2.1 dX5_cell_72 (by decide) ?_
            exact wL S hr hlk hs hX hS dX5_cell_87
        · have hs := hs.trans (cif_f c7)
          refine lv_aload_n S.1 S.2.1 dX5_cell_47 rfl (lv_at hl 0 rfl) ?_
          refine lv_iconst (v := 2) S.1 S.2.1 dX5_cell_48 (by decide) ?_
          refine cWV (rest := []) S (c_X5_failedLong l D G ad (uv d 0 0 0 0) 2) gV_RX5_243 ds_X5_failedLong ⟨rfl, rfl⟩ ⟨Nat.le_of_ble_eq_true rfl, Nat.le_of_ble_eq_true rfl⟩ ⟨blindX, recvX hK hX (k := 0) (i := 0) Nat.zero_lt_one rfl rfl, preX hK hN hX _⟩ rfl hl.1 rfl (Nat.le_of_ble_eq_true rfl) ⟨Nat.le_of_ble_eq_true rfl, Nat.le_of_ble_eq_true rfl⟩ dX5_cell_49 hS (fun _ h => h) (fun H locs hX hS hfr => ?_)
          exact wL S hr hlk hs hX hS dX5_cell_52
    · have hs := hs.trans (cif_f c3)
      refine cPS (rest := []) S (c_X5_lost l) gS_RX5_92 ds_X5_lost.2 ⟨rfl, rfl⟩ ⟨Nat.le_of_ble_eq_true rfl, Nat.le_of_ble_eq_true rfl⟩ rfl hl.1 rfl (Nat.le_of_ble_eq_true rfl) ⟨Nat.le_of_ble_eq_true rfl, Nat.le_of_ble_eq_true rfl⟩ dX5_cell_24 ?_
      exact wL S hr hlk hs hX hS dX5_cell_27
set_option maxRecDepth 100000 in
set_option maxHeartbeats 8000000 in
theorem c_X5_isBeyond (l : Launch) (p0 : Int32) (p1 : Int32) (p2 : Int32) : Met l yX5_isBeyond (wsU yX5_isBeyond cX5_isBeyond 3 (some .boolean)) ({ frames := 0, cells := 0, slots := 0, locals := 0 } : Room) (va_Pc [.int p0, .int p1, .int p2] (fun _ => True)) (qV (some (.int (b2i (sp_X5_isBeyond p0 p1 p2))))) 0 0 (fun _ => False) := by
  refine ent (by decide +kernel) (Nat.le_of_ble_eq_true rfl) ?_
  intro p e s m below meth c S hr hlk hpre ls hl
  have S : CallFix p m c cX5_isBeyond 3 s [.int p0, .int p1, .int p2].toArray wsL_law RX5 := S
  have hl : lv_has ls 3 [(0, .int p0), (1, .int p1), (2, .int p2)] := hl
  have hs := sp_X5_isBeyond.eq_1 p0 p1 p2
  refine lv_iload_n S.1 S.2.1 dX5_isBeyond_0 rfl (lv_at hl 0 rfl) ?_
  refine q_if_lt (tgt := 19) (xi := p0.toInt) S rfl dX5_isBeyond_1 (by decide) (fun c1 => ?_) (fun c1 => ?_)
  · have hs := hs.trans (cif_t c1)
    refine lv_iconst (v := 1) S.1 S.2.1 dX5_isBeyond_19 (by decide) ?_
    refine lv_goto (tgt := 24) S.1 S.2.1 dX5_isBeyond_20 (by decide) ?_
    exact rZ S hr hlk hs b2i_T.symm dX5_isBeyond_24
  · have hs := hs.trans (cif_f c1)
    refine lv_iload_n S.1 S.2.1 dX5_isBeyond_4 rfl (lv_at hl 1 rfl) ?_
    refine q_if_lt (tgt := 19) (xi := p1.toInt) S rfl dX5_isBeyond_5 (by decide) (fun c2 => ?_) (fun c2 => ?_)
    · have hs := hs.trans (cif_t c2)
      refine lv_iconst (v := 1) S.1 S.2.1 dX5_isBeyond_19 (by decide) ?_
      refine lv_goto (tgt := 24) S.1 S.2.1 dX5_isBeyond_20 (by decide) ?_
      exact rZ S hr hlk hs b2i_T.symm dX5_isBeyond_24
    · have hs := hs.trans (cif_f c2)
      refine lv_iload_n S.1 S.2.1 dX5_isBeyond_8 rfl (lv_at hl 0 rfl) ?_
      refine lv_i2l S.1 S.2.1 dX5_isBeyond_9 rfl ?_
      refine lv_iload_n S.1 S.2.1 dX5_isBeyond_10 rfl (lv_at hl 1 rfl) ?_
      refine lv_i2l S.1 S.2.1 dX5_isBeyond_11 rfl ?_
      refine lv_ladd S.1 S.2.1 dX5_isBeyond_12 ?_
      refine lv_iload_n S.1 S.2.1 dX5_isBeyond_13 rfl (lv_at hl 2 rfl) ?_
      refine lv_i2l S.1 S.2.1 dX5_isBeyond_14 rfl ?_
      refine q_lcmp_le (tgt := 23) (xi := (p0.toInt64 + p1.toInt64).toInt) (yi := p2.toInt64.toInt) S rfl rfl dX5_isBeyond_15 dX5_isBeyond_16 (by decide) (fun c3 => ?_) (fun c3 => ?_)
      · have hs := hs.trans (cif_t c3)
        refine lv_iconst (v := 0) S.1 S.2.1 dX5_isBeyond_23 (by decide) ?_
        exact rZ S hr hlk hs b2i_F.symm dX5_isBeyond_24
      · have hs := hs.trans (cif_f c3)
        refine lv_iconst (v := 1) S.1 S.2.1 dX5_isBeyond_19 (by decide) ?_
        refine lv_goto (tgt := 24) S.1 S.2.1 dX5_isBeyond_20 (by decide) ?_
        exact rZ S hr hlk hs b2i_T.symm dX5_isBeyond_24
set_option maxRecDepth 100000 in
set_option maxHeartbeats 8000000 in
theorem c_X5_copy (l : Launch) (D : va_G) (G : Gc) (ad : Nat → Nat → Nat) (d : Dt) (p1 : Int32) (p2 : Int32) (p3 : Int32) (p4 : Int32) (p5 : Int32) (hI : MI d) : Met l yX5_copy (wsU yX5_copy cX5_copy 7 (some .int)) ({ frames := 2, cells := 0, slots := 0, locals := 45 } : Room) (va_Pc [.ref (ad 0 0), .int p1, .int p2, .int p3, .int p4, .int p5] (XPre D (tysG G) (MF G ad) MN ad d)) (qW (some (.int (sp_X5_copy d p1 p2 p3 p4 p5).1)) D (MF G ad) MN ad (sp_X5_copy d p1 p2 p3 p4 p5).2) 0 0 (adS MN ad) := by
  refine ent (by decide +kernel) (Nat.le_of_ble_eq_true rfl) ?_
  intro p e s m below meth c S hr hlk hpre ls hl
  have S : CallFix p m c cX5_copy 7 s [.ref (ad 0 0), .int p1, .int p2, .int p3, .int p4, .int p5].toArray wsL_law RX5 := S
  obtain ⟨hK, hN, hX⟩ := hpre
  have hl : lv_has ls 7 [(0, .ref (ad 0 0)), (1, .int p1), (2, .int p2), (3, .int p3), (4, .int p4), (5, .int p5)] := hl
  have hs := sp_X5_copy.eq_1 d p1 p2 p3 p4 p5
  have hS : va_S (adS MN ad) s.heap s.heap [] := va_S.rf
  have q1 := hI.1
  have q2 := hI.2.2.1
  have q3 := hI.2.2.2.1
  have q4 := hI.2.2.2.2.1
  refine lv_iload_n S.1 S.2.1 dX5_copy_0 rfl (lv_at hl 1 rfl) ?_
  refine cPS (rest := []) S (c_X5_noSheet l p1) gS_RX5_230 ds_X5_noSheet.2 ⟨rfl, rfl⟩ ⟨Nat.le_of_ble_eq_true rfl, Nat.le_of_ble_eq_true rfl⟩ rfl hl.1 rfl (Nat.le_of_ble_eq_true rfl) ⟨Nat.le_of_ble_eq_true rfl, Nat.le_of_ble_eq_true rfl⟩ dX5_copy_1 ?_
  refine q_if_ne_b (tgt := 14) S dX5_copy_4 (by decide) (fun c1 => ?_) (fun c1 => ?_)
  · have hs := hs.trans (cif_t c1)
    refine lv_aload_n S.1 S.2.1 dX5_copy_14 rfl (lv_at hl 0 rfl) ?_
    refine lv_iconst (v := (-1)) S.1 S.2.1 dX5_copy_15 (by decide) ?_
    refine cWV (rest := []) S (c_X5_refused l D G ad d (-1)) gV_RX5_233 ds_X5_refused ⟨rfl, rfl⟩ ⟨Nat.le_of_ble_eq_true rfl, Nat.le_of_ble_eq_true rfl⟩ ⟨blindX, recvX hK hX (k := 0) (i := 0) Nat.zero_lt_one rfl rfl, preX hK hN hX _⟩ rfl hl.1 rfl (Nat.le_of_ble_eq_true rfl) ⟨Nat.le_of_ble_eq_true rfl, Nat.le_of_ble_eq_true rfl⟩ dX5_copy_16 hS (fun _ h => h) (fun H locs hX hS hfr => ?_)
    exact wI S hr hlk hs hX hS dX5_copy_19
  · have hs := hs.trans (cif_f c1)
    have f2 := ns_of c1
    refine lv_iload_n S.1 S.2.1 dX5_copy_7 rfl (lv_at hl 3 rfl) ?_
    refine cPS (rest := []) S (c_X5_noSheet l p3) gS_RX5_230 ds_X5_noSheet.2 ⟨rfl, rfl⟩ ⟨Nat.le_of_ble_eq_true rfl, Nat.le_of_ble_eq_true rfl⟩ rfl hl.1 rfl (Nat.le_of_ble_eq_true rfl) ⟨Nat.le_of_ble_eq_true rfl, Nat.le_of_ble_eq_true rfl⟩ dX5_copy_8 ?_
    refine q_if_eq_b (tgt := 20) S dX5_copy_11 (by decide) (fun c3 => ?_) (fun c3 => ?_)
    · have hs := hs.trans (cif_f c3)
      have f4 := ns_of c3
      refine lv_aload_n S.1 S.2.1 dX5_copy_20 rfl (lv_at hl 0 rfl) ?_
      refine gf_RX5_68 S hK hX dX5_copy_21 ?_
      refine lv_iload_n S.1 S.2.1 dX5_copy_24 rfl (lv_at hl 1 rfl) ?_
      refine al_M28 S hK hX (by omega) (by omega) (z := d.1 28 0 (ix p1)) rfl dX5_copy_25 ?_
      have f5 := hI.sz (x := p1) (by omega) (by omega)
      refine q_if_lt (tgt := 38) (xi := (d.1 28 0 (ix p1)).toInt) S rfl dX5_copy_26 (by decide) (fun c6 => ?_) (fun c6 => ?_)
      · have hs := hs.trans (cif_t c6)
        refine lv_aload_n S.1 S.2.1 dX5_copy_38 rfl (lv_at hl 0 rfl) ?_
        refine lv_iconst (v := 1) S.1 S.2.1 dX5_copy_39 (by decide) ?_
        refine cWV (rest := []) S (c_X5_failed l D G ad d 1) gV_RX5_237 ds_X5_failed ⟨rfl, rfl⟩ ⟨Nat.le_of_ble_eq_true rfl, Nat.le_of_ble_eq_true rfl⟩ ⟨blindX, recvX hK hX (k := 0) (i := 0) Nat.zero_lt_one rfl rfl, preX hK hN hX _⟩ rfl hl.1 rfl (Nat.le_of_ble_eq_true rfl) ⟨Nat.le_of_ble_eq_true rfl, Nat.le_of_ble_eq_true rfl⟩ dX5_copy_40 hS (fun _ h => h) (fun H locs hX hS hfr => ?_)
        exact wI S hr hlk hs hX hS dX5_copy_43
      · have hs := hs.trans (cif_f c6)
        refine lv_aload_n S.1 S.2.1 dX5_copy_29 rfl (lv_at hl 0 rfl) ?_
        refine gf_RX5_68 S hK hX dX5_copy_30 ?_
        refine lv_iload_n S.1 S.2.1 dX5_copy_33 rfl (lv_at hl 3 rfl) ?_
        refine al_M28 S hK hX (by omega) (by omega) (z := d.1 28 0 (ix p3)) rfl dX5_copy_34 ?_
        have f7 := hI.sz (x := p3) (by omega) (by omega)
        refine q_if_ge (tgt := 44) (xi := (d.1 28 0 (ix p3)).toInt) S rfl dX5_copy_35 (by decide) (fun c8 => ?_) (fun c8 => ?_)
        · have hs := hs.trans (cif_t c8)
          refine lv_aload_n S.1 S.2.1 dX5_copy_44 rfl (lv_at hl 0 rfl) ?_
          refine gf_RX5_71 S hK hX dX5_copy_45 ?_
          refine lv_iload_n S.1 S.2.1 dX5_copy_48 rfl (lv_at hl 1 rfl) ?_
          refine al_M29 S hK hX (by omega) (by omega) (z := d.1 29 0 (ix p1)) rfl dX5_copy_49 ?_
          refine lv_aload_n S.1 S.2.1 dX5_copy_50 rfl (lv_at hl 0 rfl) ?_
          refine gf_RX5_71 S hK hX dX5_copy_51 ?_
          refine lv_iload_n S.1 S.2.1 dX5_copy_54 rfl (lv_at hl 3 rfl) ?_
          refine al_M29 S hK hX (by omega) (by omega) (z := d.1 29 0 (ix p3)) rfl dX5_copy_55 ?_
          refine q_icmp_eq (tgt := 65) (xi := (d.1 29 0 (ix p1)).toInt) (yi := (d.1 29 0 (ix p3)).toInt) S rfl rfl dX5_copy_56 (by decide) (fun c9 => ?_) (fun c9 => ?_)
          · have hs := hs.trans (cif_t c9)
            refine lv_iload_n S.1 S.2.1 dX5_copy_65 rfl (lv_at hl 2 rfl) ?_
            refine lv_iload S.1 S.2.1 dX5_copy_66 (lv_at hl 5 rfl) ?_
            refine lv_aload_n S.1 S.2.1 dX5_copy_68 rfl (lv_at hl 0 rfl) ?_
            refine gf_RX5_68 S hK hX dX5_copy_69 ?_
            refine lv_iload_n S.1 S.2.1 dX5_copy_72 rfl (lv_at hl 1 rfl) ?_
            refine al_M28 S hK hX (by omega) (by omega) (z := d.1 28 0 (ix p1)) rfl dX5_copy_73 ?_
            have f10 := hI.sz (x := p1) (by omega) (by omega)
            refine cPS (rest := []) S (c_X5_isBeyond l p2 p5 (d.1 28 0 (ix p1))) gS_RX5_246 ds_X5_isBeyond.2 ⟨rfl, rfl⟩ ⟨Nat.le_of_ble_eq_true rfl, Nat.le_of_ble_eq_true rfl⟩ rfl hl.1 rfl (Nat.le_of_ble_eq_true rfl) ⟨Nat.le_of_ble_eq_true rfl, Nat.le_of_ble_eq_true rfl⟩ dX5_copy_74 ?_
            refine q_if_ne_b (tgt := 96) S dX5_copy_77 (by decide) (fun c11 => ?_) (fun c11 => ?_)
            · have hs := hs.trans (cif_t c11)
              refine lv_aload_n S.1 S.2.1 dX5_copy_96 rfl (lv_at hl 0 rfl) ?_
              refine lv_iconst (v := 3) S.1 S.2.1 dX5_copy_97 (by decide) ?_
              refine cWV (rest := []) S (c_X5_failed l D G ad d 3) gV_RX5_237 ds_X5_failed ⟨rfl, rfl⟩ ⟨Nat.le_of_ble_eq_true rfl, Nat.le_of_ble_eq_true rfl⟩ ⟨blindX, recvX hK hX (k := 0) (i := 0) Nat.zero_lt_one rfl rfl, preX hK hN hX _⟩ rfl hl.1 rfl (Nat.le_of_ble_eq_true rfl) ⟨Nat.le_of_ble_eq_true rfl, Nat.le_of_ble_eq_true rfl⟩ dX5_copy_98 hS (fun _ h => h) (fun H locs hX hS hfr => ?_)
              exact wI S hr hlk hs hX hS dX5_copy_101
            · have hs := hs.trans (cif_f c11)
              have f12 := nb_of c11
              refine lv_iload S.1 S.2.1 dX5_copy_80 (lv_at hl 4 rfl) ?_
              refine lv_iload S.1 S.2.1 dX5_copy_82 (lv_at hl 5 rfl) ?_
              refine lv_aload_n S.1 S.2.1 dX5_copy_84 rfl (lv_at hl 0 rfl) ?_
              refine gf_RX5_68 S hK hX dX5_copy_85 ?_
              refine lv_iload_n S.1 S.2.1 dX5_copy_88 rfl (lv_at hl 3 rfl) ?_
              refine al_M28 S hK hX (by omega) (by omega) (z := d.1 28 0 (ix p3)) rfl dX5_copy_89 ?_
              have f13 := hI.sz (x := p3) (by omega) (by omega)
              refine cPS (rest := []) S (c_X5_isBeyond l p4 p5 (d.1 28 0 (ix p3))) gS_RX5_246 ds_X5_isBeyond.2 ⟨rfl, rfl⟩ ⟨Nat.le_of_ble_eq_true rfl, Nat.le_of_ble_eq_true rfl⟩ rfl hl.1 rfl (Nat.le_of_ble_eq_true rfl) ⟨Nat.le_of_ble_eq_true rfl, Nat.le_of_ble_eq_true rfl⟩ dX5_copy_90 ?_
              refine q_if_eq_b (tgt := 102) S dX5_copy_93 (by decide) (fun c14 => ?_) (fun c14 => ?_)
              · have hs := hs.trans (cif_f c14)
                have f15 := nb_of c14
                refine lv_iconst (v := 0) S.1 S.2.1 dX5_copy_102 (by decide) ?_
                refine lv_istore (lv' := [(6, .int 0), (0, .ref (ad 0 0)), (1, .int p1), (2, .int p2), (3, .int p3), (4, .int p4), (5, .int p5)]) S.1 S.2.1 dX5_copy_103 hl (by decide) rfl (fun ls hl => ?_)
                have L105 : ∀ (n : Nat), ∀ (x6 : Int32) (e105 : Dt), p5.toInt - x6.toInt < (n : Int) → 0 ≤ x6.toInt → x6.toInt ≤ p5.toInt → sp_X5_copy d p1 p2 p3 p4 p5 = lp_X5_copy_105 d p1 p2 p3 p4 p5 n x6 e105 → ∀ (H : Heap) (locs : List Loc), PIC D (MF G ad) MN ad e105 H → va_S (adS MN ad) s.heap H locs → ∀ ls : Array Slot, lv_has ls 7 [(6, .int x6), (0, .ref (ad 0 0)), (1, .int p1), (2, .int p2), (3, .int p3), (4, .int p4), (5, .int p5)] → W p l e ({ frames := 2, cells := 0, slots := 0, locals := 45 } : Room) s m [.ref (ad 0 0), .int p1, .int p2, .int p3, .int p4, .int p5].toArray below meth c H locs 0 0 (MQ below (qW (some (.int (sp_X5_copy d p1 p2 p3 p4 p5).1)) D (MF G ad) MN ad (sp_X5_copy d p1 p2 p3 p4 p5).2) [.ref (ad 0 0), .int p1, .int p2, .int p3, .int p4, .int p5].toArray s 0 0 (adS MN ad)) (F0 m 105 ls []) := by
                  intro n
                  induction n with
                  | zero => intro x6 e105 hms v105_0 v105_1 hs H locs hX hS ls hl; omega
                  | succ n ih105 =>
                    intro x6 e105 hms v105_0 v105_1 hs H locs hX hS ls hl
                    have hs := hs.trans (st_X5_copy_105.eq_1 d p1 p2 p3 p4 p5 (lp_X5_copy_105 d p1 p2 p3 p4 p5 n) x6 e105)
                    refine lv_iload S.1 S.2.1 dX5_copy_105 (lv_at hl 0 rfl) ?_
                    refine lv_iload S.1 S.2.1 dX5_copy_107 (lv_at hl 6 rfl) ?_
                    refine q_icmp_ge (tgt := 139) (xi := x6.toInt) (yi := p5.toInt) S rfl rfl dX5_copy_109 (by decide) (fun c16 => ?_) (fun c16 => ?_)
                    · have hs := hs.trans (cif_t c16)
                      refine lv_iconst (v := 0) S.1 S.2.1 dX5_copy_139 (by decide) ?_
                      refine lv_istore (lv' := [(6, .int 0), (0, .ref (ad 0 0)), (1, .int p1), (2, .int p2), (3, .int p3), (4, .int p4), (5, .int p5)]) S.1 S.2.1 dX5_copy_140 hl (by decide) rfl (fun ls hl => ?_)
                      have L142 : ∀ (n : Nat), ∀ (x6 : Int32) (e142 : Dt), p5.toInt - x6.toInt < (n : Int) → 0 ≤ x6.toInt → x6.toInt ≤ p5.toInt → sp_X5_copy d p1 p2 p3 p4 p5 = lp_X5_copy_142 d p1 p2 p3 p4 p5 n x6 e142 → ∀ (H : Heap) (locs : List Loc), PIC D (MF G ad) MN ad e142 H → va_S (adS MN ad) s.heap H locs → ∀ ls : Array Slot, lv_has ls 7 [(6, .int x6), (0, .ref (ad 0 0)), (1, .int p1), (2, .int p2), (3, .int p3), (4, .int p4), (5, .int p5)] → W p l e ({ frames := 2, cells := 0, slots := 0, locals := 45 } : Room) s m [.ref (ad 0 0), .int p1, .int p2, .int p3, .int p4, .int p5].toArray below meth c H locs 0 0 (MQ below (qW (some (.int (sp_X5_copy d p1 p2 p3 p4 p5).1)) D (MF G ad) MN ad (sp_X5_copy d p1 p2 p3 p4 p5).2) [.ref (ad 0 0), .int p1, .int p2, .int p3, .int p4, .int p5].toArray s 0 0 (adS MN ad)) (F0 m 142 ls []) := by
                        intro n
                        induction n with
                        | zero => intro x6 e142 hms v142_0 v142_1 hs H locs hX hS ls hl; omega
                        | succ n ih142 =>
                          intro x6 e142 hms v142_0 v142_1 hs H locs hX hS ls hl
                          have hs := hs.trans (st_X5_copy_142.eq_1 d p1 p2 p3 p4 p5 (lp_X5_copy_142 d p1 p2 p3 p4 p5 n) x6 e142)
                          refine lv_iload S.1 S.2.1 dX5_copy_142 (lv_at hl 0 rfl) ?_
                          refine lv_iload S.1 S.2.1 dX5_copy_144 (lv_at hl 6 rfl) ?_
                          refine q_icmp_ge (tgt := 177) (xi := x6.toInt) (yi := p5.toInt) S rfl rfl dX5_copy_146 (by decide) (fun c17 => ?_) (fun c17 => ?_)
                          · have hs := hs.trans (cif_t c17)
                            refine lv_aload_n S.1 S.2.1 dX5_copy_177 rfl (lv_at hl 1 rfl) ?_
                            refine lv_iload S.1 S.2.1 dX5_copy_178 (lv_at hl 6 rfl) ?_
                            refine cWV (rest := []) S (c_X5_refused l D G ad e142 p5) gV_RX5_233 ds_X5_refused ⟨rfl, rfl⟩ ⟨Nat.le_of_ble_eq_true rfl, Nat.le_of_ble_eq_true rfl⟩ ⟨blindX, recvX hK hX (k := 0) (i := 0) Nat.zero_lt_one rfl rfl, preX hK hN hX _⟩ rfl hl.1 rfl (Nat.le_of_ble_eq_true rfl) ⟨Nat.le_of_ble_eq_true rfl, Nat.le_of_ble_eq_true rfl⟩ dX5_copy_180 hS (fun _ h => h) (fun H locs hX hS hfr => ?_)
                            exact wI S hr hlk hs hX hS dX5_copy_183
                          · have hs := hs.trans (cif_f c17)
                            refine lv_aload_n S.1 S.2.1 dX5_copy_149 rfl (lv_at hl 1 rfl) ?_
                            refine gf_RX5_74 S hK hX dX5_copy_150 ?_
                            have e8 := lin (a := 60) (z := 60) (x := p3) (y := p4) rfl (by omega) (by omega) (by omega)
                            have e7 : ((60 * p3 + p4) + x6).toInt = 60 * p3.toInt + p4.toInt + x6.toInt := by rw [ti_add (by omega) (by omega), e8.1]
                            refine lv_bipush (v := 60) S.1 S.2.1 dX5_copy_153 (by decide) ?_
                            refine lv_iload_n S.1 S.2.1 dX5_copy_155 rfl (lv_at hl 4 rfl) ?_
                            refine lv_imul S.1 S.2.1 dX5_copy_156 ?_
                            refine lv_iload S.1 S.2.1 dX5_copy_157 (lv_at hl 5 rfl) ?_
                            refine lv_iadd S.1 S.2.1 dX5_copy_159 ?_
                            refine lv_iload S.1 S.2.1 dX5_copy_160 (lv_at hl 0 rfl) ?_
                            refine lv_iadd S.1 S.2.1 dX5_copy_162 ?_
                            refine lv_aload_n S.1 S.2.1 dX5_copy_163 rfl (lv_at hl 1 rfl) ?_
                            refine gf_RX5_77 S hK hX dX5_copy_164 ?_
                            refine lv_iload S.1 S.2.1 dX5_copy_167 (lv_at hl 0 rfl) ?_
                            refine al_M31 S hK hX (by omega) (by omega) (z := e142.1 31 0 (ix x6)) rfl dX5_copy_169 ?_
                            refine as_M30 S hK hX hS (by omega) (by omega) dX5_copy_170 (fun H locs hX hS => ?_)
                            refine lv_iinc (v := x6 + 1) (lv' := [(6, .int (x6 + 1)), (0, .ref (ad 0 0)), (1, .int p1), (2, .int p2), (3, .int p3), (4, .int p4), (5, .int p5)]) S.1 S.2.1 dX5_copy_171 hl (k := 0) rfl (by rfl) (by decide) rfl (fun ls hl => ?_)
                            refine lv_goto (tgt := 142) S.1 S.2.1 dX5_copy_174 (by decide) ?_
                            have e9 : ((x6 + 1)).toInt = x6.toInt + 1 := ti1 (by omega)
                            exact ih142 (x6 + 1) (uv e142 30 0 (ix (((60 * p3) + p4) + x6)) (e142.1 31 0 (ix x6))) (by omega) (by omega) (by omega) hs _ _ hX hS _ (lv_sub hl [0, 1, 2, 3, 4, 5, 6] rfl)
                      exact L142 64 0 e105 (by first | omega | (simp only [Int32.toInt_zero]; omega)) (by first | omega | (simp only [Int32.toInt_zero]; omega)) (by first | omega | (simp only [Int32.toInt_zero]; omega)) hs _ _ hX hS _ (lv_sub hl [0, 1, 2, 3, 4, 5, 6] rfl)
                    · have hs := hs.trans (cif_f c16)
                      refine lv_aload_n S.1 S.2.1 dX5_copy_112 rfl (lv_at hl 1 rfl) ?_
                      refine gf_RX5_77 S hK hX dX5_copy_113 ?_
                      refine lv_iload S.1 S.2.1 dX5_copy_116 (lv_at hl 0 rfl) ?_
                      refine lv_aload_n S.1 S.2.1 dX5_copy_118 rfl (lv_at hl 1 rfl) ?_
                      refine gf_RX5_74 S hK hX dX5_copy_119 ?_
                      have e8 := lin (a := 60) (z := 60) (x := p1) (y := p2) rfl (by omega) (by omega) (by omega)
                      have e7 : ((60 * p1 + p2) + x6).toInt = 60 * p1.toInt + p2.toInt + x6.toInt := by rw [ti_add (by omega) (by omega), e8.1]
                      refine lv_bipush (v := 60) S.1 S.2.1 dX5_copy_122 (by decide) ?_
                      refine lv_iload_n S.1 S.2.1 dX5_copy_124 rfl (lv_at hl 2 rfl) ?_
                      refine lv_imul S.1 S.2.1 dX5_copy_125 ?_
                      refine lv_iload_n S.1 S.2.1 dX5_copy_126 rfl (lv_at hl 3 rfl) ?_
                      refine lv_iadd S.1 S.2.1 dX5_copy_127 ?_
                      refine lv_iload S.1 S.2.1 dX5_copy_128 (lv_at hl 0 rfl) ?_
                      refine lv_iadd S.1 S.2.1 dX5_copy_130 ?_
                      refine al_M30 S hK hX (by omega) (by omega) (z := e105.1 30 0 (ix (((60 * p1) + p2) + x6))) rfl dX5_copy_131 ?_
                      refine as_M31 S hK hX hS (by omega) (by omega) dX5_copy_132 (fun H locs hX hS => ?_)
                      refine lv_iinc (v := x6 + 1) (lv' := [(6, .int (x6 + 1)), (0, .ref (ad 0 0)), (1, .int p1), (2, .int p2), (3, .int p3), (4, .int p4), (5, .int p5)]) S.1 S.2.1 dX5_copy_133 hl (k := 0) rfl (by rfl) (by decide) rfl (fun ls hl => ?_)
                      refine lv_goto (tgt := 105) S.1 S.2.1 dX5_copy_136 (by decide) ?_
                      have e9 : ((x6 + 1)).toInt = x6.toInt + 1 := ti1 (by omega)
                      exact ih105 (x6 + 1) (uv e105 31 0 (ix x6) (e105.1 30 0 (ix (((60 * p1) + p2) + x6)))) (by omega) (by omega) (by omega) hs _ _ hX hS _ (lv_sub hl [0, 1, 2, 3, 4, 5, 6] rfl)
                exact L105 64 0 d (by first | omega | (simp only [Int32.toInt_zero]; omega)) (by first | omega | (simp only [Int32.toInt_zero]; omega)) (by first | omega | (simp only [Int32.toInt_zero]; omega)) hs _ _ hX hS _ (lv_sub hl [0, 1, 2, 3, 4, 5, 6] rfl)
              · have hs := hs.trans (cif_t c14)
                refine lv_aload_n S.1 S.2.1 dX5_copy_96 rfl (lv_at hl 0 rfl) ?_
                refine lv_iconst (v := 3) S.1 S.2.1 dX5_copy_97 (by decide) ?_
                refine cWV (rest := []) S (c_X5_failed l D G ad d 3) gV_RX5_237 ds_X5_failed ⟨rfl, rfl⟩ ⟨Nat.le_of_ble_eq_true rfl, Nat.le_of_ble_eq_true rfl⟩ ⟨blindX, recvX hK hX (k := 0) (i := 0) Nat.zero_lt_one rfl rfl, preX hK hN hX _⟩ rfl hl.1 rfl (Nat.le_of_ble_eq_true rfl) ⟨Nat.le_of_ble_eq_true rfl, Nat.le_of_ble_eq_true rfl⟩ dX5_copy_98 hS (fun _ h => h) (fun H locs hX hS hfr => ?_)
                exact wI S hr hlk hs hX hS dX5_copy_101
          · have hs := hs.trans (cif_f c9)
            refine lv_aload_n S.1 S.2.1 dX5_copy_59 rfl (lv_at hl 0 rfl) ?_
            refine lv_iconst (v := 2) S.1 S.2.1 dX5_copy_60 (by decide) ?_
            refine cWV (rest := []) S (c_X5_failed l D G ad d 2) gV_RX5_237 ds_X5_failed ⟨rfl, rfl⟩ ⟨Nat.le_of_ble_eq_true rfl, Nat.le_of_ble_eq_true rfl⟩ ⟨blindX, recvX hK hX (k := 0) (i := 0) Nat.zero_lt_one rfl rfl, preX hK hN hX _⟩ rfl hl.1 rfl (Nat.le_of_ble_eq_true rfl) ⟨Nat.le_of_ble_eq_true rfl, Nat.le_of_ble_eq_true rfl⟩ dX5_copy_61 hS (fun _ h => h) (fun H locs hX hS hfr => ?_)
            exact wI S hr hlk hs hX hS dX5_copy_64
        · have hs := hs.trans (cif_f c8)
          refine lv_aload_n S.1 S.2.1 dX5_copy_38 rfl (lv_at hl 0 rfl) ?_
          refine lv_iconst (v := 1) S.1 S.2.1 dX5_copy_39 (by decide) ?_
          refine cWV (rest := []) S (c_X5_failed l D G ad d 1) gV_RX5_237 ds_X5_failed ⟨rfl, rfl⟩ ⟨Nat.le_of_ble_eq_true rfl, Nat.le_of_ble_eq_true rfl⟩ ⟨blindX, recvX hK hX (k := 0) (i := 0) Nat.zero_lt_one rfl rfl, preX hK hN hX _⟩ rfl hl.1 rfl (Nat.le_of_ble_eq_true rfl) ⟨Nat.le_of_ble_eq_true rfl, Nat.le_of_ble_eq_true rfl⟩ dX5_copy_40 hS (fun _ h => h) (fun H locs hX hS hfr => ?_)
          exact wI S hr hlk hs hX hS dX5_copy_43
    · have hs := hs.trans (cif_t c3)
      refine lv_aload_n S.1 S.2.1 dX5_copy_14 rfl (lv_at hl 0 rfl) ?_
      refine lv_iconst (v := (-1)) S.1 S.2.1 dX5_copy_15 (by decide) ?_
      refine cWV (rest := []) S (c_X5_refused l D G ad d (-1)) gV_RX5_233 ds_X5_refused ⟨rfl, rfl⟩ ⟨Nat.le_of_ble_eq_true rfl, Nat.le_of_ble_eq_true rfl⟩ ⟨blindX, recvX hK hX (k := 0) (i := 0) Nat.zero_lt_one rfl rfl, preX hK hN hX _⟩ rfl hl.1 rfl (Nat.le_of_ble_eq_true rfl) ⟨Nat.le_of_ble_eq_true rfl, Nat.le_of_ble_eq_true rfl⟩ dX5_copy_16 hS (fun _ h => h) (fun H locs hX hS hfr => ?_)
      exact wI S hr hlk hs hX hS dX5_copy_19
set_option maxRecDepth 100000 in
set_option maxHeartbeats 8000000 in
theorem c_X5_watch (l : Launch) (D : va_G) (G : Gc) (ad : Nat → Nat → Nat) (d : Dt) (p1 : Int32) (p2 : Int32) (p3 : Int32) (p4 : Int32) (p5 : Int32) (hI : MI d) : Met l yX5_watch (wsU yX5_watch cX5_watch 14 (some .int)) ({ frames := 2, cells := 0, slots := 0, locals := 45 } : Room) (va_Pc [.ref (ad 0 0), .int p1, .int p2, .int p3, .int p4, .int p5] (XPre D (tysG G) (MF G ad) MN ad d)) (qW (some (.int (sp_X5_watch d p1 p2 p3 p4 p5).1)) D (MF G ad) MN ad (sp_X5_watch d p1 p2 p3 p4 p5).2) 0 0 (adS MN ad) := by
  refine ent (by decide +kernel) (Nat.le_of_ble_eq_true rfl) ?_
  intro p e s m below meth c S hr hlk hpre ls hl
  have S : CallFix p m c cX5_watch 14 s [.ref (ad 0 0), .int p1, .int p2, .int p3, .int p4, .int p5].toArray wsL_law RX5 := S
  obtain ⟨hK, hN, hX⟩ := hpre
  have hl : lv_has ls 14 [(0, .ref (ad 0 0)), (1, .int p1), (2, .int p2), (3, .int p3), (4, .int p4), (5, .int p5)] := hl
  have hs := sp_X5_watch.eq_1 d p1 p2 p3 p4 p5
  have hS : va_S (adS MN ad) s.heap s.heap [] := va_S.rf
  have q1 := hI.1
  have q2 := hI.2.2.1
  have q3 := hI.2.2.2.1
  have q4 := hI.2.2.2.2.1
  refine lv_iload_n S.1 S.2.1 dX5_watch_0 rfl (lv_at hl 1 rfl) ?_
  refine cPS (rest := []) S (c_X5_noSheet l p1) gS_RX5_230 ds_X5_noSheet.2 ⟨rfl, rfl⟩ ⟨Nat.le_of_ble_eq_true rfl, Nat.le_of_ble_eq_true rfl⟩ rfl hl.1 rfl (Nat.le_of_ble_eq_true rfl) ⟨Nat.le_of_ble_eq_true rfl, Nat.le_of_ble_eq_true rfl⟩ dX5_watch_1 ?_
  refine q_if_eq_b (tgt := 13) S dX5_watch_4 (by decide) (fun c1 => ?_) (fun c1 => ?_)
  · have hs := hs.trans (cif_f c1)
    have f2 := ns_of c1
    refine lv_iload_n S.1 S.2.1 dX5_watch_13 rfl (lv_at hl 2 rfl) ?_
    refine lv_i2l S.1 S.2.1 dX5_watch_14 rfl ?_
    refine lv_lconst (v := 0) S.1 S.2.1 dX5_watch_15 (by decide) ?_
    refine lv_ldc2 S.1 S.2.1 S.2.2.2.1 (S.2.2.2.2 _ wKL_RX5_96) dX5_watch_16 ?_
    refine cPS (rest := []) S (c_X5_in l p2.toInt64 0 2) gS_RX5_101 ds_X5_in.2 ⟨rfl, rfl⟩ ⟨Nat.le_of_ble_eq_true rfl, Nat.le_of_ble_eq_true rfl⟩ rfl hl.1 rfl (Nat.le_of_ble_eq_true rfl) ⟨Nat.le_of_ble_eq_true rfl, Nat.le_of_ble_eq_true rfl⟩ dX5_watch_19 ?_
    refine q_if_eq_b (tgt := 38) S dX5_watch_22 (by decide) (fun c3 => ?_) (fun c3 => ?_)
    · have hs := hs.trans (cif_f c3)
      refine lv_aload_n S.1 S.2.1 dX5_watch_38 rfl (lv_at hl 0 rfl) ?_
      refine lv_bipush (v := (-2)) S.1 S.2.1 dX5_watch_39 (by decide) ?_
      refine cWV (rest := []) S (c_X5_refused l D G ad d (-2)) gV_RX5_233 ds_X5_refused ⟨rfl, rfl⟩ ⟨Nat.le_of_ble_eq_true rfl, Nat.le_of_ble_eq_true rfl⟩ ⟨blindX, recvX hK hX (k := 0) (i := 0) Nat.zero_lt_one rfl rfl, preX hK hN hX _⟩ rfl hl.1 rfl (Nat.le_of_ble_eq_true rfl) ⟨Nat.le_of_ble_eq_true rfl, Nat.le_of_ble_eq_true rfl⟩ dX5_watch_41 hS (fun _ h => h) (fun H locs hX hS hfr => ?_)
      exact wI S hr hlk hs hX hS dX5_watch_44
    · have hs := hs.trans (cif_t c3)
      refine lv_iload S.1 S.2.1 dX5_watch_25 (lv_at hl 5 rfl) ?_
      refine lv_i2l S.1 S.2.1 dX5_watch_27 rfl ?_
      refine lv_lconst (v := 0) S.1 S.2.1 dX5_watch_28 (by decide) ?_
      refine lv_ldc2 S.1 S.2.1 S.2.2.2.1 (S.2.2.2.2 _ wKL_RX5_164) dX5_watch_29 ?_
      refine cPS (rest := []) S (c_X5_in l p5.toInt64 0 3) gS_RX5_101 ds_X5_in.2 ⟨rfl, rfl⟩ ⟨Nat.le_of_ble_eq_true rfl, Nat.le_of_ble_eq_true rfl⟩ rfl hl.1 rfl (Nat.le_of_ble_eq_true rfl) ⟨Nat.le_of_ble_eq_true rfl, Nat.le_of_ble_eq_true rfl⟩ dX5_watch_32 ?_
      refine q_if_ne_b (tgt := 45) S dX5_watch_35 (by decide) (fun c4 => ?_) (fun c4 => ?_)
      · have hs := hs.trans (cif_t c4)
        refine lv_aload_n S.1 S.2.1 dX5_watch_45 rfl (lv_at hl 0 rfl) ?_
        refine gf_RX5_68 S hK hX dX5_watch_46 ?_
        refine lv_iload_n S.1 S.2.1 dX5_watch_49 rfl (lv_at hl 1 rfl) ?_
        refine al_M28 S hK hX (by omega) (by omega) (z := d.1 28 0 (ix p1)) rfl dX5_watch_50 ?_
        have f5 := hI.sz (x := p1) (by omega) (by omega)
        refine q_if_lt (tgt := 70) (xi := (d.1 28 0 (ix p1)).toInt) S rfl dX5_watch_51 (by decide) (fun c6 => ?_) (fun c6 => ?_)
        · have hs := hs.trans (cif_t c6)
          refine lv_aload_n S.1 S.2.1 dX5_watch_70 rfl (lv_at hl 0 rfl) ?_
          refine gf_RX5_68 S hK hX dX5_watch_71 ?_
          refine lv_iload_n S.1 S.2.1 dX5_watch_74 rfl (lv_at hl 1 rfl) ?_
          refine al_M28 S hK hX (by omega) (by omega) (z := d.1 28 0 (ix p1)) rfl dX5_watch_75 ?_
          have f7 := hI.sz (x := p1) (by omega) (by omega)
          refine q_if_ge (tgt := 85) (xi := (d.1 28 0 (ix p1)).toInt) S rfl dX5_watch_76 (by decide) (fun c8 => absurd c8 (by omega)) (fun c8 => ?_)
          refine lv_aload_n S.1 S.2.1 dX5_watch_79 rfl (lv_at hl 0 rfl) ?_
          refine lv_iconst (v := 1) S.1 S.2.1 dX5_watch_80 (by decide) ?_
          refine cWV (rest := []) S (c_X5_failed l D G ad d 1) gV_RX5_237 ds_X5_failed ⟨rfl, rfl⟩ ⟨Nat.le_of_ble_eq_true rfl, Nat.le_of_ble_eq_true rfl⟩ ⟨blindX, recvX hK hX (k := 0) (i := 0) Nat.zero_lt_one rfl rfl, preX hK hN hX _⟩ rfl hl.1 rfl (Nat.le_of_ble_eq_true rfl) ⟨Nat.le_of_ble_eq_true rfl, Nat.le_of_ble_eq_true rfl⟩ dX5_watch_81 hS (fun _ h => h) (fun H locs hX hS hfr => ?_)
          exact wI S hr hlk hs hX hS dX5_watch_84
        · have hs := hs.trans (cif_f c6)
          refine lv_aload_n S.1 S.2.1 dX5_watch_54 rfl (lv_at hl 0 rfl) ?_
          refine gf_RX5_71 S hK hX dX5_watch_55 ?_
          refine lv_iload_n S.1 S.2.1 dX5_watch_58 rfl (lv_at hl 1 rfl) ?_
          refine al_M29 S hK hX (by omega) (by omega) (z := d.1 29 0 (ix p1)) rfl dX5_watch_59 ?_
          refine lv_iload_n S.1 S.2.1 dX5_watch_60 rfl (lv_at hl 2 rfl) ?_
          refine q_icmp_eq (tgt := 70) (xi := (d.1 29 0 (ix p1)).toInt) (yi := p2.toInt) S rfl rfl dX5_watch_61 (by decide) (fun c9 => ?_) (fun c9 => ?_)
          · have hs := hs.trans (cif_t c9)
            refine lv_aload_n S.1 S.2.1 dX5_watch_70 rfl (lv_at hl 0 rfl) ?_
            refine gf_RX5_68 S hK hX dX5_watch_71 ?_
            refine lv_iload_n S.1 S.2.1 dX5_watch_74 rfl (lv_at hl 1 rfl) ?_
            refine al_M28 S hK hX (by omega) (by omega) (z := d.1 28 0 (ix p1)) rfl dX5_watch_75 ?_
            have f10 := hI.sz (x := p1) (by omega) (by omega)
            refine q_if_ge (tgt := 85) (xi := (d.1 28 0 (ix p1)).toInt) S rfl dX5_watch_76 (by decide) (fun c11 => ?_) (fun c11 => absurd (by omega) c11)
            refine lv_iload S.1 S.2.1 dX5_watch_85 (lv_at hl 4 rfl) ?_
            refine q_if_ge (tgt := 96) (xi := p4.toInt) S rfl dX5_watch_87 (by decide) (fun c12 => ?_) (fun c12 => ?_)
            · have hs := hs.trans (cif_t c12)
              refine lv_iload_n S.1 S.2.1 dX5_watch_96 rfl (lv_at hl 3 rfl) ?_
              refine lv_iload S.1 S.2.1 dX5_watch_97 (lv_at hl 4 rfl) ?_
              refine lv_aload_n S.1 S.2.1 dX5_watch_99 rfl (lv_at hl 0 rfl) ?_
              refine gf_RX5_68 S hK hX dX5_watch_100 ?_
              refine lv_iload_n S.1 S.2.1 dX5_watch_103 rfl (lv_at hl 1 rfl) ?_
              refine al_M28 S hK hX (by omega) (by omega) (z := d.1 28 0 (ix p1)) rfl dX5_watch_104 ?_
              have f13 := hI.sz (x := p1) (by omega) (by omega)
              refine cPS (rest := []) S (c_X5_isBeyond l p3 p4 (d.1 28 0 (ix p1))) gS_RX5_246 ds_X5_isBeyond.2 ⟨rfl, rfl⟩ ⟨Nat.le_of_ble_eq_true rfl, Nat.le_of_ble_eq_true rfl⟩ rfl hl.1 rfl (Nat.le_of_ble_eq_true rfl) ⟨Nat.le_of_ble_eq_true rfl, Nat.le_of_ble_eq_true rfl⟩ dX5_watch_105 ?_
              refine q_if_eq_b (tgt := 117) S dX5_watch_108 (by decide) (fun c14 => ?_) (fun c14 => ?_)
              · have hs := hs.trans (cif_f c14)
                have f15 := nb_of c14
                refine lv_iconst (v := 0) S.1 S.2.1 dX5_watch_117 (by decide) ?_
                refine lv_istore (lv' := [(6, .int 0), (0, .ref (ad 0 0)), (1, .int p1), (2, .int p2), (3, .int p3), (4, .int p4), (5, .int p5)]) S.1 S.2.1 dX5_watch_118 hl (by decide) rfl (fun ls hl => ?_)
                refine lv_iconst (v := 0) S.1 S.2.1 dX5_watch_120 (by decide) ?_
                refine lv_istore (lv' := [(7, .int 0), (6, .int 0), (0, .ref (ad 0 0)), (1, .int p1), (2, .int p2), (3, .int p3), (4, .int p4), (5, .int p5)]) S.1 S.2.1 dX5_watch_121 hl (by decide) rfl (fun ls hl => ?_)
                refine lv_iconst (v := 0) S.1 S.2.1 dX5_watch_123 (by decide) ?_
                refine lv_istore (lv' := [(8, .int 0), (7, .int 0), (6, .int 0), (0, .ref (ad 0 0)), (1, .int p1), (2, .int p2), (3, .int p3), (4, .int p4), (5, .int p5)]) S.1 S.2.1 dX5_watch_124 hl (by decide) rfl (fun ls hl => ?_)
                refine lv_iconst (v := 0) S.1 S.2.1 dX5_watch_126 (by decide) ?_
                refine lv_istore (lv' := [(9, .int 0), (8, .int 0), (7, .int 0), (6, .int 0), (0, .ref (ad 0 0)), (1, .int p1), (2, .int p2), (3, .int p3), (4, .int p4), (5, .int p5)]) S.1 S.2.1 dX5_watch_127 hl (by decide) rfl (fun ls hl => ?_)
                refine lv_iconst (v := 1) S.1 S.2.1 dX5_watch_129 (by decide) ?_
                refine lv_istore (lv' := [(10, .int 1), (9, .int 0), (8, .int 0), (7, .int 0), (6, .int 0), (0, .ref (ad 0 0)), (1, .int p1), (2, .int p2), (3, .int p3), (4, .int p4), (5, .int p5)]) S.1 S.2.1 dX5_watch_130 hl (by decide) rfl (fun ls hl => ?_)
                have e1 : (p3 + p4).toInt = p3.toInt + p4.toInt := ti_add (by omega) (by omega)
                refine lv_iload_n S.1 S.2.1 dX5_watch_132 rfl (lv_at hl 8 rfl) ?_
                refine lv_istore (lv' := [(11, .int p3), (10, .int 1), (9, .int 0), (8, .int 0), (7, .int 0), (6, .int 0), (0, .ref (ad 0 0)), (1, .int p1), (2, .int p2), (3, .int p3), (4, .int p4), (5, .int p5)]) S.1 S.2.1 dX5_watch_133 hl (by decide) rfl (fun ls hl => ?_)
                have L135 : ∀ (n : Nat), ∀ (x11 : Int32) (x10 : Int32) (x9 : Int32) (x8 : Int32) (x7 : Int32) (x6 : Int32), (p3 + p4).toInt - x11.toInt < (n : Int) → 0 ≤ x11.toInt → x11.toInt ≤ (p3 + p4).toInt → sp_X5_watch d p1 p2 p3 p4 p5 = lp_X5_watch_135 d p1 p2 p3 p4 p5 n x11 x10 x9 x8 x7 x6 → ∀ (H : Heap) (locs : List Loc), PIC D (MF G ad) MN ad d H → va_S (adS MN ad) s.heap H locs → ∀ ls : Array Slot, lv_has ls 14 [(11, .int x11), (10, .int x10), (9, .int x9), (8, .int x8), (7, .int x7), (6, .int x6), (0, .ref (ad 0 0)), (1, .int p1), (2, .int p2), (3, .int p3), (4, .int p4), (5, .int p5)] → W p l e ({ frames := 2, cells := 0, slots := 0, locals := 45 } : Room) s m [.ref (ad 0 0), .int p1, .int p2, .int p3, .int p4, .int p5].toArray below meth c H locs 0 0 (MQ below (qW (some (.int (sp_X5_watch d p1 p2 p3 p4 p5).1)) D (MF G ad) MN ad (sp_X5_watch d p1 p2 p3 p4 p5).2) [.ref (ad 0 0), .int p1, .int p2, .int p3, .int p4, .int p5].toArray s 0 0 (adS MN ad)) (F0 m 135 ls []) := by
                  intro n
                  induction n with
                  | zero => intro x11 x10 x9 x8 x7 x6 hms v135_0 v135_1 hs H locs hX hS ls hl; omega
                  | succ n ih135 =>
                    intro x11 x10 x9 x8 x7 x6 hms v135_0 v135_1 hs H locs hX hS ls hl
                    have hs := hs.trans (st_X5_watch_135.eq_1 d p1 p2 p3 p4 p5 (lp_X5_watch_135 d p1 p2 p3 p4 p5 n) x11 x10 x9 x8 x7 x6)
                    refine lv_iload S.1 S.2.1 dX5_watch_135 (lv_at hl 0 rfl) ?_
                    refine lv_iload_n S.1 S.2.1 dX5_watch_137 rfl (lv_at hl 9 rfl) ?_
                    refine lv_iload S.1 S.2.1 dX5_watch_138 (lv_at hl 10 rfl) ?_
                    refine lv_iadd S.1 S.2.1 dX5_watch_140 ?_
                    refine q_icmp_ge (tgt := 254) (xi := x11.toInt) (yi := (p3 + p4).toInt) S rfl rfl dX5_watch_141 (by decide) (fun c16 => ?_) (fun c16 => ?_)
                    · have hs := hs.trans (cif_t c16)
                      refine lv_aload_n S.1 S.2.1 dX5_watch_254 rfl (lv_at hl 6 rfl) ?_
                      refine lv_iload S.1 S.2.1 dX5_watch_255 (lv_at hl 11 rfl) ?_
                      refine q_if_ne (tgt := 265) (xi := p5.toInt) S rfl dX5_watch_257 (by decide) (fun c17 => ?_) (fun c17 => ?_)
                      · have hs := hs.trans (cif_f c17)
                        refine lv_iload S.1 S.2.1 dX5_watch_265 (lv_at hl 11 rfl) ?_
                        refine lv_iconst (v := 1) S.1 S.2.1 dX5_watch_267 (by decide) ?_
                        refine q_icmp_ne (tgt := 276) (xi := p5.toInt) (yi := 1) S rfl rfl dX5_watch_268 (by decide) (fun c18 => ?_) (fun c18 => ?_)
                        · have hs := hs.trans (cif_f c18)
                          refine lv_iload S.1 S.2.1 dX5_watch_276 (lv_at hl 11 rfl) ?_
                          refine lv_iconst (v := 2) S.1 S.2.1 dX5_watch_278 (by decide) ?_
                          refine q_icmp_ne (tgt := 287) (xi := p5.toInt) (yi := 2) S rfl rfl dX5_watch_279 (by decide) (fun c19 => ?_) (fun c19 => ?_)
                          · have hs := hs.trans (cif_f c19)
                            refine lv_iload S.1 S.2.1 dX5_watch_287 (lv_at hl 5 rfl) ?_
                            refine lv_iload S.1 S.2.1 dX5_watch_289 (lv_at hl 4 rfl) ?_
                            refine lv_iadd S.1 S.2.1 dX5_watch_291 ?_
                            refine lv_iload S.1 S.2.1 dX5_watch_292 (lv_at hl 3 rfl) ?_
                            refine lv_isub S.1 S.2.1 dX5_watch_294 ?_
                            refine cWV (rest := []) S (c_X5_refused l D G ad d ((x6 + x7) - x8)) gV_RX5_233 ds_X5_refused ⟨rfl, rfl⟩ ⟨Nat.le_of_ble_eq_true rfl, Nat.le_of_ble_eq_true rfl⟩ ⟨blindX, recvX hK hX (k := 0) (i := 0) Nat.zero_lt_one rfl rfl, preX hK hN hX _⟩ rfl hl.1 rfl (Nat.le_of_ble_eq_true rfl) ⟨Nat.le_of_ble_eq_true rfl, Nat.le_of_ble_eq_true rfl⟩ dX5_watch_295 hS (fun _ h => h) (fun H locs hX hS hfr => ?_)
                            exact wI S hr hlk hs hX hS dX5_watch_298
                          · have hs := hs.trans (cif_t c19)
                            refine lv_iload S.1 S.2.1 dX5_watch_282 (lv_at hl 3 rfl) ?_
                            refine lv_goto (tgt := 295) S.1 S.2.1 dX5_watch_284 (by decide) ?_
                            refine cWV (rest := []) S (c_X5_refused l D G ad d x8) gV_RX5_233 ds_X5_refused ⟨rfl, rfl⟩ ⟨Nat.le_of_ble_eq_true rfl, Nat.le_of_ble_eq_true rfl⟩ ⟨blindX, recvX hK hX (k := 0) (i := 0) Nat.zero_lt_one rfl rfl, preX hK hN hX _⟩ rfl hl.1 rfl (Nat.le_of_ble_eq_true rfl) ⟨Nat.le_of_ble_eq_true rfl, Nat.le_of_ble_eq_true rfl⟩ dX5_watch_295 hS (fun _ h => h) (fun H locs hX hS hfr => ?_)
                            exact wI S hr hlk hs hX hS dX5_watch_298
                        · have hs := hs.trans (cif_t c18)
                          refine lv_iload S.1 S.2.1 dX5_watch_271 (lv_at hl 4 rfl) ?_
                          refine lv_goto (tgt := 295) S.1 S.2.1 dX5_watch_273 (by decide) ?_
                          refine cWV (rest := []) S (c_X5_refused l D G ad d x7) gV_RX5_233 ds_X5_refused ⟨rfl, rfl⟩ ⟨Nat.le_of_ble_eq_true rfl, Nat.le_of_ble_eq_true rfl⟩ ⟨blindX, recvX hK hX (k := 0) (i := 0) Nat.zero_lt_one rfl rfl, preX hK hN hX _⟩ rfl hl.1 rfl (Nat.le_of_ble_eq_true rfl) ⟨Nat.le_of_ble_eq_true rfl, Nat.le_of_ble_eq_true rfl⟩ dX5_watch_295 hS (fun _ h => h) (fun H locs hX hS hfr => ?_)
                          exact wI S hr hlk hs hX hS dX5_watch_298
                      · have hs := hs.trans (cif_t c17)
                        refine lv_iload S.1 S.2.1 dX5_watch_260 (lv_at hl 5 rfl) ?_
                        refine lv_goto (tgt := 295) S.1 S.2.1 dX5_watch_262 (by decide) ?_
                        refine cWV (rest := []) S (c_X5_refused l D G ad d x6) gV_RX5_233 ds_X5_refused ⟨rfl, rfl⟩ ⟨Nat.le_of_ble_eq_true rfl, Nat.le_of_ble_eq_true rfl⟩ ⟨blindX, recvX hK hX (k := 0) (i := 0) Nat.zero_lt_one rfl rfl, preX hK hN hX _⟩ rfl hl.1 rfl (Nat.le_of_ble_eq_true rfl) ⟨Nat.le_of_ble_eq_true rfl, Nat.le_of_ble_eq_true rfl⟩ dX5_watch_295 hS (fun _ h => h) (fun H locs hX hS hfr => ?_)
                        exact wI S hr hlk hs hX hS dX5_watch_298
                    · have hs := hs.trans (cif_f c16)
                      refine lv_aload_n S.1 S.2.1 dX5_watch_144 rfl (lv_at hl 6 rfl) ?_
                      refine gf_RX5_74 S hK hX dX5_watch_145 ?_
                      have e8 := lin (a := 60) (z := 60) (x := p1) (y := x11) rfl (by omega) (by omega) (by omega)
                      refine lv_bipush (v := 60) S.1 S.2.1 dX5_watch_148 (by decide) ?_
                      refine lv_iload_n S.1 S.2.1 dX5_watch_150 rfl (lv_at hl 7 rfl) ?_
                      refine lv_imul S.1 S.2.1 dX5_watch_151 ?_
                      refine lv_iload S.1 S.2.1 dX5_watch_152 (lv_at hl 0 rfl) ?_
                      refine lv_iadd S.1 S.2.1 dX5_watch_154 ?_
                      refine al_M30 S hK hX (by omega) (by omega) (z := d.1 30 0 (ix ((60 * p1) + x11))) rfl dX5_watch_155 ?_
                      refine lv_istore (lv' := [(12, .int (d.1 30 0 (ix ((60 * p1) + x11)))), (11, .int x11), (10, .int x10), (9, .int x9), (8, .int x8), (7, .int x7), (6, .int x6), (0, .ref (ad 0 0)), (1, .int p1), (2, .int p2), (3, .int p3), (4, .int p4), (5, .int p5)]) S.1 S.2.1 dX5_watch_156 hl (by decide) rfl (fun ls hl => ?_)
                      refine lv_iload S.1 S.2.1 dX5_watch_158 (lv_at hl 0 rfl) ?_
                      refine lv_iconst (v := 1) S.1 S.2.1 dX5_watch_160 (by decide) ?_
                      refine q_icmp_eq (tgt := 170) (xi := (d.1 30 0 (ix ((60 * p1) + x11))).toInt) (yi := 1) S rfl rfl dX5_watch_161 (by decide) (fun c20 => ?_) (fun c20 => ?_)
                      · have hs := hs.trans (cif_t c20)
                        refine lv_iload S.1 S.2.1 dX5_watch_170 (lv_at hl 0 rfl) ?_
                        refine lv_iload S.1 S.2.1 dX5_watch_172 (lv_at hl 3 rfl) ?_
                        refine q_icmp_ne (tgt := 181) (xi := (d.1 30 0 (ix ((60 * p1) + x11))).toInt) (yi := x9.toInt) S rfl rfl dX5_watch_174 (by decide) (fun c21 => ?_) (fun c21 => ?_)
                        · have hs := hs.trans (cif_f c21)
                          refine lv_iconst (v := 0) S.1 S.2.1 dX5_watch_181 (by decide) ?_
                          refine lv_istore (lv' := [(13, .int 0), (12, .int (d.1 30 0 (ix ((60 * p1) + x11)))), (11, .int x11), (10, .int x10), (9, .int x9), (8, .int x8), (7, .int x7), (6, .int x6), (0, .ref (ad 0 0)), (1, .int p1), (2, .int p2), (3, .int p3), (4, .int p4), (5, .int p5)]) S.1 S.2.1 dX5_watch_182 hl (by decide) rfl (fun ls hl => ?_)
                          refine lv_iinc (v := x6 + 1) (lv' := [(6, .int (x6 + 1)), (13, .int 0), (12, .int (d.1 30 0 (ix ((60 * p1) + x11)))), (11, .int x11), (10, .int x10), (9, .int x9), (8, .int x8), (7, .int x7), (0, .ref (ad 0 0)), (1, .int p1), (2, .int p2), (3, .int p3), (4, .int p4), (5, .int p5)]) S.1 S.2.1 dX5_watch_184 hl (k := 7) rfl (by rfl) (by decide) rfl (fun ls hl => ?_)
                          refine lv_iload S.1 S.2.1 dX5_watch_187 (lv_at hl 7 rfl) ?_
                          refine lv_iload S.1 S.2.1 dX5_watch_189 (lv_at hl 1 rfl) ?_
                          refine q_if_eq (tgt := 203) (xi := 0) S rfl dX5_watch_191 (by decide) (fun c22 => ?_) (fun c22 => absurd (by omega) c22)
                          refine lv_iconst (v := 0) S.1 S.2.1 dX5_watch_203 (by decide) ?_
                          refine lv_iadd S.1 S.2.1 dX5_watch_204 ?_
                          refine lv_istore (lv' := [(7, .int (x7 + 0)), (6, .int (x6 + 1)), (13, .int 0), (12, .int (d.1 30 0 (ix ((60 * p1) + x11)))), (11, .int x11), (10, .int x10), (9, .int x9), (8, .int x8), (0, .ref (ad 0 0)), (1, .int p1), (2, .int p2), (3, .int p3), (4, .int p4), (5, .int p5)]) S.1 S.2.1 dX5_watch_205 hl (by decide) rfl (fun ls hl => ?_)
                          refine lv_iload S.1 S.2.1 dX5_watch_207 (lv_at hl 7 rfl) ?_
                          refine lv_iload S.1 S.2.1 dX5_watch_209 (lv_at hl 2 rfl) ?_
                          refine q_if_eq (tgt := 223) (xi := 0) S rfl dX5_watch_211 (by decide) (fun c23 => ?_) (fun c23 => absurd (by assumption) c23)
                          refine lv_iconst (v := 0) S.1 S.2.1 dX5_watch_223 (by decide) ?_
                          refine lv_iadd S.1 S.2.1 dX5_watch_224 ?_
                          refine lv_istore (lv' := [(8, .int (x8 + 0)), (7, .int (x7 + 0)), (6, .int (x6 + 1)), (13, .int 0), (12, .int (d.1 30 0 (ix ((60 * p1) + x11)))), (11, .int x11), (10, .int x10), (9, .int x9), (0, .ref (ad 0 0)), (1, .int p1), (2, .int p2), (3, .int p3), (4, .int p4), (5, .int p5)]) S.1 S.2.1 dX5_watch_225 hl (by decide) rfl (fun ls hl => ?_)
                          refine lv_iload S.1 S.2.1 dX5_watch_227 (lv_at hl 3 rfl) ?_
                          refine q_if_eq (tgt := 237) (xi := 0) S rfl dX5_watch_229 (by decide) (fun c24 => ?_) (fun c24 => absurd (by assumption) c24)
                          refine lv_iconst (v := 1) S.1 S.2.1 dX5_watch_237 (by decide) ?_
                          refine lv_goto (tgt := 242) S.1 S.2.1 dX5_watch_238 (by decide) ?_
                          refine lv_istore (lv' := [(10, .int 1), (8, .int (x8 + 0)), (7, .int (x7 + 0)), (6, .int (x6 + 1)), (13, .int 0), (12, .int (d.1 30 0 (ix ((60 * p1) + x11)))), (11, .int x11), (9, .int x9), (0, .ref (ad 0 0)), (1, .int p1), (2, .int p2), (3, .int p3), (4, .int p4), (5, .int p5)]) S.1 S.2.1 dX5_watch_242 hl (by decide) rfl (fun ls hl => ?_)
                          refine lv_iload S.1 S.2.1 dX5_watch_244 (lv_at hl 5 rfl) ?_
                          refine lv_istore (lv' := [(9, .int (d.1 30 0 (ix ((60 * p1) + x11)))), (10, .int 1), (8, .int (x8 + 0)), (7, .int (x7 + 0)), (6, .int (x6 + 1)), (13, .int 0), (12, .int (d.1 30 0 (ix ((60 * p1) + x11)))), (11, .int x11), (0, .ref (ad 0 0)), (1, .int p1), (2, .int p2), (3, .int p3), (4, .int p4), (5, .int p5)]) S.1 S.2.1 dX5_watch_246 hl (by decide) rfl (fun ls hl => ?_)
                          refine lv_iinc (v := x11 + 1) (lv' := [(11, .int (x11 + 1)), (9, .int (d.1 30 0 (ix ((60 * p1) + x11)))), (10, .int 1), (8, .int (x8 + 0)), (7, .int (x7 + 0)), (6, .int (x6 + 1)), (13, .int 0), (12, .int (d.1 30 0 (ix ((60 * p1) + x11)))), (0, .ref (ad 0 0)), (1, .int p1), (2, .int p2), (3, .int p3), (4, .int p4), (5, .int p5)]) S.1 S.2.1 dX5_watch_248 hl (k := 7) rfl (by rfl) (by decide) rfl (fun ls hl => ?_)
                          refine lv_goto (tgt := 135) S.1 S.2.1 dX5_watch_251 (by decide) ?_
                          have e9 : ((x11 + 1)).toInt = x11.toInt + 1 := ti1 (by omega)
                          exact ih135 (x11 + 1) 1 (d.1 30 0 (ix ((60 * p1) + x11))) (x8 + 0) (x7 + 0) (x6 + 1) (by omega) (by omega) (by omega) hs _ _ hX hS _ (lv_sub hl [0, 2, 1, 3, 4, 5, 8, 9, 10, 11, 12, 13] rfl)
                        · have hs := hs.trans (cif_t c21)
                          refine lv_iconst (v := 1) S.1 S.2.1 dX5_watch_177 (by decide) ?_
                          refine lv_goto (tgt := 182) S.1 S.2.1 dX5_watch_178 (by decide) ?_
                          refine lv_istore (lv' := [(13, .int 1), (12, .int (d.1 30 0 (ix ((60 * p1) + x11)))), (11, .int x11), (10, .int x10), (9, .int x9), (8, .int x8), (7, .int x7), (6, .int x6), (0, .ref (ad 0 0)), (1, .int p1), (2, .int p2), (3, .int p3), (4, .int p4), (5, .int p5)]) S.1 S.2.1 dX5_watch_182 hl (by decide) rfl (fun ls hl => ?_)
                          refine lv_iinc (v := x6 + 1) (lv' := [(6, .int (x6 + 1)), (13, .int 1), (12, .int (d.1 30 0 (ix ((60 * p1) + x11)))), (11, .int x11), (10, .int x10), (9, .int x9), (8, .int x8), (7, .int x7), (0, .ref (ad 0 0)), (1, .int p1), (2, .int p2), (3, .int p3), (4, .int p4), (5, .int p5)]) S.1 S.2.1 dX5_watch_184 hl (k := 7) rfl (by rfl) (by decide) rfl (fun ls hl => ?_)
                          refine lv_iload S.1 S.2.1 dX5_watch_187 (lv_at hl 7 rfl) ?_
                          refine lv_iload S.1 S.2.1 dX5_watch_189 (lv_at hl 1 rfl) ?_
                          refine q_if_eq (tgt := 203) (xi := 1) S rfl dX5_watch_191 (by decide) (fun c25 => absurd c25 (by omega)) (fun c25 => ?_)
                          refine lv_iload S.1 S.2.1 dX5_watch_194 (lv_at hl 4 rfl) ?_
                          refine q_if_eq (tgt := 203) (xi := x10.toInt) S rfl dX5_watch_196 (by decide) (fun c26 => ?_) (fun c26 => ?_)
                          · have hs := hs.trans (cif_t c26)
                            refine lv_iconst (v := 0) S.1 S.2.1 dX5_watch_203 (by decide) ?_
                            refine lv_iadd S.1 S.2.1 dX5_watch_204 ?_
                            refine lv_istore (lv' := [(7, .int (x7 + 0)), (6, .int (x6 + 1)), (13, .int 1), (12, .int (d.1 30 0 (ix ((60 * p1) + x11)))), (11, .int x11), (10, .int x10), (9, .int x9), (8, .int x8), (0, .ref (ad 0 0)), (1, .int p1), (2, .int p2), (3, .int p3), (4, .int p4), (5, .int p5)]) S.1 S.2.1 dX5_watch_205 hl (by decide) rfl (fun ls hl => ?_)
                            refine lv_iload S.1 S.2.1 dX5_watch_207 (lv_at hl 7 rfl) ?_
                            refine lv_iload S.1 S.2.1 dX5_watch_209 (lv_at hl 2 rfl) ?_
                            refine q_if_eq (tgt := 223) (xi := 1) S rfl dX5_watch_211 (by decide) (fun c27 => absurd c27 (by assumption)) (fun c27 => ?_)
                            refine lv_iload S.1 S.2.1 dX5_watch_214 (lv_at hl 5 rfl) ?_
                            refine q_if_ne (tgt := 223) (xi := x10.toInt) S rfl dX5_watch_216 (by decide) (fun c28 => absurd (by assumption) c28) (fun c28 => ?_)
                            refine lv_iconst (v := 1) S.1 S.2.1 dX5_watch_219 (by decide) ?_
                            refine lv_goto (tgt := 224) S.1 S.2.1 dX5_watch_220 (by decide) ?_
                            refine lv_iadd S.1 S.2.1 dX5_watch_224 ?_
                            refine lv_istore (lv' := [(8, .int (x8 + 1)), (7, .int (x7 + 0)), (6, .int (x6 + 1)), (13, .int 1), (12, .int (d.1 30 0 (ix ((60 * p1) + x11)))), (11, .int x11), (10, .int x10), (9, .int x9), (0, .ref (ad 0 0)), (1, .int p1), (2, .int p2), (3, .int p3), (4, .int p4), (5, .int p5)]) S.1 S.2.1 dX5_watch_225 hl (by decide) rfl (fun ls hl => ?_)
                            refine lv_iload S.1 S.2.1 dX5_watch_227 (lv_at hl 3 rfl) ?_
                            refine q_if_eq (tgt := 237) (xi := 1) S rfl dX5_watch_229 (by decide) (fun c29 => absurd c29 (by assumption)) (fun c29 => ?_)
                            refine lv_iload S.1 S.2.1 dX5_watch_232 (lv_at hl 6 rfl) ?_
                            refine q_if_ne (tgt := 241) (xi := x10.toInt) S rfl dX5_watch_234 (by decide) (fun c30 => absurd (by assumption) c30) (fun c30 => ?_)
                            refine lv_iconst (v := 1) S.1 S.2.1 dX5_watch_237 (by decide) ?_
                            refine lv_goto (tgt := 242) S.1 S.2.1 dX5_watch_238 (by decide) ?_
                            refine lv_istore (lv' := [(10, .int 1), (8, .int (x8 + 1)), (7, .int (x7 + 0)), (6, .int (x6 + 1)), (13, .int 1), (12, .int (d.1 30 0 (ix ((60 * p1) + x11)))), (11, .int x11), (9, .int x9), (0, .ref (ad 0 0)), (1, .int p1), (2, .int p2), (3, .int p3), (4, .int p4), (5, .int p5)]) S.1 S.2.1 dX5_watch_242 hl (by decide) rfl (fun ls hl => ?_)
                            refine lv_iload S.1 S.2.1 dX5_watch_244 (lv_at hl 5 rfl) ?_
                            refine lv_istore (lv' := [(9, .int (d.1 30 0 (ix ((60 * p1) + x11)))), (10, .int 1), (8, .int (x8 + 1)), (7, .int (x7 + 0)), (6, .int (x6 + 1)), (13, .int 1), (12, .int (d.1 30 0 (ix ((60 * p1) + x11)))), (11, .int x11), (0, .ref (ad 0 0)), (1, .int p1), (2, .int p2), (3, .int p3), (4, .int p4), (5, .int p5)]) S.1 S.2.1 dX5_watch_246 hl (by decide) rfl (fun ls hl => ?_)
                            refine lv_iinc (v := x11 + 1) (lv' := [(11, .int (x11 + 1)), (9, .int (d.1 30 0 (ix ((60 * p1) + x11)))), (10, .int 1), (8, .int (x8 + 1)), (7, .int (x7 + 0)), (6, .int (x6 + 1)), (13, .int 1), (12, .int (d.1 30 0 (ix ((60 * p1) + x11)))), (0, .ref (ad 0 0)), (1, .int p1), (2, .int p2), (3, .int p3), (4, .int p4), (5, .int p5)]) S.1 S.2.1 dX5_watch_248 hl (k := 7) rfl (by rfl) (by decide) rfl (fun ls hl => ?_)
                            refine lv_goto (tgt := 135) S.1 S.2.1 dX5_watch_251 (by decide) ?_
                            have e9 : ((x11 + 1)).toInt = x11.toInt + 1 := ti1 (by omega)
                            exact ih135 (x11 + 1) 1 (d.1 30 0 (ix ((60 * p1) + x11))) (x8 + 1) (x7 + 0) (x6 + 1) (by omega) (by omega) (by omega) hs _ _ hX hS _ (lv_sub hl [0, 2, 1, 3, 4, 5, 8, 9, 10, 11, 12, 13] rfl)
                          · have hs := hs.trans (cif_f c26)
                            refine lv_iconst (v := 1) S.1 S.2.1 dX5_watch_199 (by decide) ?_
                            refine lv_goto (tgt := 204) S.1 S.2.1 dX5_watch_200 (by decide) ?_
                            refine lv_iadd S.1 S.2.1 dX5_watch_204 ?_
                            refine lv_istore (lv' := [(7, .int (x7 + 1)), (6, .int (x6 + 1)), (13, .int 1), (12, .int (d.1 30 0 (ix ((60 * p1) + x11)))), (11, .int x11), (10, .int x10), (9, .int x9), (8, .int x8), (0, .ref (ad 0 0)), (1, .int p1), (2, .int p2), (3, .int p3), (4, .int p4), (5, .int p5)]) S.1 S.2.1 dX5_watch_205 hl (by decide) rfl (fun ls hl => ?_)
                            refine lv_iload S.1 S.2.1 dX5_watch_207 (lv_at hl 7 rfl) ?_
                            refine lv_iload S.1 S.2.1 dX5_watch_209 (lv_at hl 2 rfl) ?_
                            refine q_if_eq (tgt := 223) (xi := 1) S rfl dX5_watch_211 (by decide) (fun c31 => absurd c31 (by assumption)) (fun c31 => ?_)
                            refine lv_iload S.1 S.2.1 dX5_watch_214 (lv_at hl 5 rfl) ?_
                            refine q_if_ne (tgt := 223) (xi := x10.toInt) S rfl dX5_watch_216 (by decide) (fun c32 => ?_) (fun c32 => absurd c32 (by assumption))
                            refine lv_iconst (v := 0) S.1 S.2.1 dX5_watch_223 (by decide) ?_
                            refine lv_iadd S.1 S.2.1 dX5_watch_224 ?_
                            refine lv_istore (lv' := [(8, .int (x8 + 0)), (7, .int (x7 + 1)), (6, .int (x6 + 1)), (13, .int 1), (12, .int (d.1 30 0 (ix ((60 * p1) + x11)))), (11, .int x11), (10, .int x10), (9, .int x9), (0, .ref (ad 0 0)), (1, .int p1), (2, .int p2), (3, .int p3), (4, .int p4), (5, .int p5)]) S.1 S.2.1 dX5_watch_225 hl (by decide) rfl (fun ls hl => ?_)
                            refine lv_iload S.1 S.2.1 dX5_watch_227 (lv_at hl 3 rfl) ?_
                            refine q_if_eq (tgt := 237) (xi := 1) S rfl dX5_watch_229 (by decide) (fun c33 => absurd c33 (by assumption)) (fun c33 => ?_)
                            refine lv_iload S.1 S.2.1 dX5_watch_232 (lv_at hl 6 rfl) ?_
                            refine q_if_ne (tgt := 241) (xi := x10.toInt) S rfl dX5_watch_234 (by decide) (fun c34 => ?_) (fun c34 => absurd c34 (by assumption))
                            refine lv_iconst (v := 0) S.1 S.2.1 dX5_watch_241 (by decide) ?_
                            refine lv_istore (lv' := [(10, .int 0), (8, .int (x8 + 0)), (7, .int (x7 + 1)), (6, .int (x6 + 1)), (13, .int 1), (12, .int (d.1 30 0 (ix ((60 * p1) + x11)))), (11, .int x11), (9, .int x9), (0, .ref (ad 0 0)), (1, .int p1), (2, .int p2), (3, .int p3), (4, .int p4), (5, .int p5)]) S.1 S.2.1 dX5_watch_242 hl (by decide) rfl (fun ls hl => ?_)
                            refine lv_iload S.1 S.2.1 dX5_watch_244 (lv_at hl 5 rfl) ?_
                            refine lv_istore (lv' := [(9, .int (d.1 30 0 (ix ((60 * p1) + x11)))), (10, .int 0), (8, .int (x8 + 0)), (7, .int (x7 + 1)), (6, .int (x6 + 1)), (13, .int 1), (12, .int (d.1 30 0 (ix ((60 * p1) + x11)))), (11, .int x11), (0, .ref (ad 0 0)), (1, .int p1), (2, .int p2), (3, .int p3), (4, .int p4), (5, .int p5)]) S.1 S.2.1 dX5_watch_246 hl (by decide) rfl (fun ls hl => ?_)
                            refine lv_iinc (v := x11 + 1) (lv' := [(11, .int (x11 + 1)), (9, .int (d.1 30 0 (ix ((60 * p1) + x11)))), (10, .int 0), (8, .int (x8 + 0)), (7, .int (x7 + 1)), (6, .int (x6 + 1)), (13, .int 1), (12, .int (d.1 30 0 (ix ((60 * p1) + x11)))), (0, .ref (ad 0 0)), (1, .int p1), (2, .int p2), (3, .int p3), (4, .int p4), (5, .int p5)]) S.1 S.2.1 dX5_watch_248 hl (k := 7) rfl (by rfl) (by decide) rfl (fun ls hl => ?_)
                            refine lv_goto (tgt := 135) S.1 S.2.1 dX5_watch_251 (by decide) ?_
                            have e9 : ((x11 + 1)).toInt = x11.toInt + 1 := ti1 (by omega)
                            exact ih135 (x11 + 1) 0 (d.1 30 0 (ix ((60 * p1) + x11))) (x8 + 0) (x7 + 1) (x6 + 1) (by omega) (by omega) (by omega) hs _ _ hX hS _ (lv_sub hl [0, 2, 1, 3, 4, 5, 8, 9, 10, 11, 12, 13] rfl)
                      · have hs := hs.trans (cif_f c20)
                        refine lv_iload S.1 S.2.1 dX5_watch_164 (lv_at hl 0 rfl) ?_
                        refine lv_iconst (v := 2) S.1 S.2.1 dX5_watch_166 (by decide) ?_
                        refine q_icmp_ne (tgt := 248) (xi := (d.1 30 0 (ix ((60 * p1) + x11))).toInt) (yi := 2) S rfl rfl dX5_watch_167 (by decide) (fun c35 => ?_) (fun c35 => ?_)
                        · have hs := hs.trans (cif_f c35)
                          refine lv_iinc (v := x11 + 1) (lv' := [(11, .int (x11 + 1)), (12, .int (d.1 30 0 (ix ((60 * p1) + x11)))), (10, .int x10), (9, .int x9), (8, .int x8), (7, .int x7), (6, .int x6), (0, .ref (ad 0 0)), (1, .int p1), (2, .int p2), (3, .int p3), (4, .int p4), (5, .int p5)]) S.1 S.2.1 dX5_watch_248 hl (k := 1) rfl (by rfl) (by decide) rfl (fun ls hl => ?_)
                          refine lv_goto (tgt := 135) S.1 S.2.1 dX5_watch_251 (by decide) ?_
                          have e9 : ((x11 + 1)).toInt = x11.toInt + 1 := ti1 (by omega)
                          exact ih135 (x11 + 1) x10 x9 x8 x7 x6 (by omega) (by omega) (by omega) hs _ _ hX hS _ (lv_sub hl [0, 2, 3, 4, 5, 6, 7, 8, 9, 10, 11, 12] rfl)
                        · have hs := hs.trans (cif_t c35)
                          refine lv_iload S.1 S.2.1 dX5_watch_170 (lv_at hl 0 rfl) ?_
                          refine lv_iload S.1 S.2.1 dX5_watch_172 (lv_at hl 3 rfl) ?_
                          refine q_icmp_ne (tgt := 181) (xi := (d.1 30 0 (ix ((60 * p1) + x11))).toInt) (yi := x9.toInt) S rfl rfl dX5_watch_174 (by decide) (fun c36 => ?_) (fun c36 => ?_)
                          · have hs := hs.trans (cif_f c36)
                            refine lv_iconst (v := 0) S.1 S.2.1 dX5_watch_181 (by decide) ?_
                            refine lv_istore (lv' := [(13, .int 0), (12, .int (d.1 30 0 (ix ((60 * p1) + x11)))), (11, .int x11), (10, .int x10), (9, .int x9), (8, .int x8), (7, .int x7), (6, .int x6), (0, .ref (ad 0 0)), (1, .int p1), (2, .int p2), (3, .int p3), (4, .int p4), (5, .int p5)]) S.1 S.2.1 dX5_watch_182 hl (by decide) rfl (fun ls hl => ?_)
                            refine lv_iinc (v := x6 + 1) (lv' := [(6, .int (x6 + 1)), (13, .int 0), (12, .int (d.1 30 0 (ix ((60 * p1) + x11)))), (11, .int x11), (10, .int x10), (9, .int x9), (8, .int x8), (7, .int x7), (0, .ref (ad 0 0)), (1, .int p1), (2, .int p2), (3, .int p3), (4, .int p4), (5, .int p5)]) S.1 S.2.1 dX5_watch_184 hl (k := 7) rfl (by rfl) (by decide) rfl (fun ls hl => ?_)
                            refine lv_iload S.1 S.2.1 dX5_watch_187 (lv_at hl 7 rfl) ?_
                            refine lv_iload S.1 S.2.1 dX5_watch_189 (lv_at hl 1 rfl) ?_
                            refine q_if_eq (tgt := 203) (xi := 0) S rfl dX5_watch_191 (by decide) (fun c37 => ?_) (fun c37 => absurd (by omega) c37)
                            refine lv_iconst (v := 0) S.1 S.2.1 dX5_watch_203 (by decide) ?_
                            refine lv_iadd S.1 S.2.1 dX5_watch_204 ?_
                            refine lv_istore (lv' := [(7, .int (x7 + 0)), (6, .int (x6 + 1)), (13, .int 0), (12, .int (d.1 30 0 (ix ((60 * p1) + x11)))), (11, .int x11), (10, .int x10), (9, .int x9), (8, .int x8), (0, .ref (ad 0 0)), (1, .int p1), (2, .int p2), (3, .int p3), (4, .int p4), (5, .int p5)]) S.1 S.2.1 dX5_watch_205 hl (by decide) rfl (fun ls hl => ?_)
                            refine lv_iload S.1 S.2.1 dX5_watch_207 (lv_at hl 7 rfl) ?_
                            refine lv_iload S.1 S.2.1 dX5_watch_209 (lv_at hl 2 rfl) ?_
                            refine q_if_eq (tgt := 223) (xi := 0) S rfl dX5_watch_211 (by decide) (fun c38 => ?_) (fun c38 => absurd (by assumption) c38)
                            refine lv_iconst (v := 0) S.1 S.2.1 dX5_watch_223 (by decide) ?_
                            refine lv_iadd S.1 S.2.1 dX5_watch_224 ?_
                            refine lv_istore (lv' := [(8, .int (x8 + 0)), (7, .int (x7 + 0)), (6, .int (x6 + 1)), (13, .int 0), (12, .int (d.1 30 0 (ix ((60 * p1) + x11)))), (11, .int x11), (10, .int x10), (9, .int x9), (0, .ref (ad 0 0)), (1, .int p1), (2, .int p2), (3, .int p3), (4, .int p4), (5, .int p5)]) S.1 S.2.1 dX5_watch_225 hl (by decide) rfl (fun ls hl => ?_)
                            refine lv_iload S.1 S.2.1 dX5_watch_227 (lv_at hl 3 rfl) ?_
                            refine q_if_eq (tgt := 237) (xi := 0) S rfl dX5_watch_229 (by decide) (fun c39 => ?_) (fun c39 => absurd (by assumption) c39)
                            refine lv_iconst (v := 1) S.1 S.2.1 dX5_watch_237 (by decide) ?_
                            refine lv_goto (tgt := 242) S.1 S.2.1 dX5_watch_238 (by decide) ?_
                            refine lv_istore (lv' := [(10, .int 1), (8, .int (x8 + 0)), (7, .int (x7 + 0)), (6, .int (x6 + 1)), (13, .int 0), (12, .int (d.1 30 0 (ix ((60 * p1) + x11)))), (11, .int x11), (9, .int x9), (0, .ref (ad 0 0)), (1, .int p1), (2, .int p2), (3, .int p3), (4, .int p4), (5, .int p5)]) S.1 S.2.1 dX5_watch_242 hl (by decide) rfl (fun ls hl => ?_)
                            refine lv_iload S.1 S.2.1 dX5_watch_244 (lv_at hl 5 rfl) ?_
                            refine lv_istore (lv' := [(9, .int (d.1 30 0 (ix ((60 * p1) + x11)))), (10, .int 1), (8, .int (x8 + 0)), (7, .int (x7 + 0)), (6, .int (x6 + 1)), (13, .int 0), (12, .int (d.1 30 0 (ix ((60 * p1) + x11)))), (11, .int x11), (0, .ref (ad 0 0)), (1, .int p1), (2, .int p2), (3, .int p3), (4, .int p4), (5, .int p5)]) S.1 S.2.1 dX5_watch_246 hl (by decide) rfl (fun ls hl => ?_)
                            refine lv_iinc (v := x11 + 1) (lv' := [(11, .int (x11 + 1)), (9, .int (d.1 30 0 (ix ((60 * p1) + x11)))), (10, .int 1), (8, .int (x8 + 0)), (7, .int (x7 + 0)), (6, .int (x6 + 1)), (13, .int 0), (12, .int (d.1 30 0 (ix ((60 * p1) + x11)))), (0, .ref (ad 0 0)), (1, .int p1), (2, .int p2), (3, .int p3), (4, .int p4), (5, .int p5)]) S.1 S.2.1 dX5_watch_248 hl (k := 7) rfl (by rfl) (by decide) rfl (fun ls hl => ?_)
                            refine lv_goto (tgt := 135) S.1 S.2.1 dX5_watch_251 (by decide) ?_
                            have e9 : ((x11 + 1)).toInt = x11.toInt + 1 := ti1 (by omega)
                            exact ih135 (x11 + 1) 1 (d.1 30 0 (ix ((60 * p1) + x11))) (x8 + 0) (x7 + 0) (x6 + 1) (by omega) (by omega) (by omega) hs _ _ hX hS _ (lv_sub hl [0, 2, 1, 3, 4, 5, 8, 9, 10, 11, 12, 13] rfl)
                          · have hs := hs.trans (cif_t c36)
                            refine lv_iconst (v := 1) S.1 S.2.1 dX5_watch_177 (by decide) ?_
                            refine lv_goto (tgt := 182) S.1 S.2.1 dX5_watch_178 (by decide) ?_
                            refine lv_istore (lv' := [(13, .int 1), (12, .int (d.1 30 0 (ix ((60 * p1) + x11)))), (11, .int x11), (10, .int x10), (9, .int x9), (8, .int x8), (7, .int x7), (6, .int x6), (0, .ref (ad 0 0)), (1, .int p1), (2, .int p2), (3, .int p3), (4, .int p4), (5, .int p5)]) S.1 S.2.1 dX5_watch_182 hl (by decide) rfl (fun ls hl => ?_)
                            refine lv_iinc (v := x6 + 1) (lv' := [(6, .int (x6 + 1)), (13, .int 1), (12, .int (d.1 30 0 (ix ((60 * p1) + x11)))), (11, .int x11), (10, .int x10), (9, .int x9), (8, .int x8), (7, .int x7), (0, .ref (ad 0 0)), (1, .int p1), (2, .int p2), (3, .int p3), (4, .int p4), (5, .int p5)]) S.1 S.2.1 dX5_watch_184 hl (k := 7) rfl (by rfl) (by decide) rfl (fun ls hl => ?_)
                            refine lv_iload S.1 S.2.1 dX5_watch_187 (lv_at hl 7 rfl) ?_
                            refine lv_iload S.1 S.2.1 dX5_watch_189 (lv_at hl 1 rfl) ?_
                            refine q_if_eq (tgt := 203) (xi := 1) S rfl dX5_watch_191 (by decide) (fun c40 => absurd c40 (by omega)) (fun c40 => ?_)
                            refine lv_iload S.1 S.2.1 dX5_watch_194 (lv_at hl 4 rfl) ?_
                            refine q_if_eq (tgt := 203) (xi := x10.toInt) S rfl dX5_watch_196 (by decide) (fun c41 => ?_) (fun c41 => ?_)
                            · have hs := hs.trans (cif_t c41)
                              refine lv_iconst (v := 0) S.1 S.2.1 dX5_watch_203 (by decide) ?_
                              refine lv_iadd S.1 S.2.1 dX5_watch_204 ?_
                              refine lv_istore (lv' := [(7, .int (x7 + 0)), (6, .int (x6 + 1)), (13, .int 1), (12, .int (d.1 30 0 (ix ((60 * p1) + x11)))), (11, .int x11), (10, .int x10), (9, .int x9), (8, .int x8), (0, .ref (ad 0 0)), (1, .int p1), (2, .int p2), (3, .int p3), (4, .int p4), (5, .int p5)]) S.1 S.2.1 dX5_watch_205 hl (by decide) rfl (fun ls hl => ?_)
                              refine lv_iload S.1 S.2.1 dX5_watch_207 (lv_at hl 7 rfl) ?_
                              refine lv_iload S.1 S.2.1 dX5_watch_209 (lv_at hl 2 rfl) ?_
                              refine q_if_eq (tgt := 223) (xi := 1) S rfl dX5_watch_211 (by decide) (fun c42 => absurd c42 (by assumption)) (fun c42 => ?_)
                              refine lv_iload S.1 S.2.1 dX5_watch_214 (lv_at hl 5 rfl) ?_
                              refine q_if_ne (tgt := 223) (xi := x10.toInt) S rfl dX5_watch_216 (by decide) (fun c43 => absurd (by assumption) c43) (fun c43 => ?_)
                              refine lv_iconst (v := 1) S.1 S.2.1 dX5_watch_219 (by decide) ?_
                              refine lv_goto (tgt := 224) S.1 S.2.1 dX5_watch_220 (by decide) ?_
                              refine lv_iadd S.1 S.2.1 dX5_watch_224 ?_
                              refine lv_istore (lv' := [(8, .int (x8 + 1)), (7, .int (x7 + 0)), (6, .int (x6 + 1)), (13, .int 1), (12, .int (d.1 30 0 (ix ((60 * p1) + x11)))), (11, .int x11), (10, .int x10), (9, .int x9), (0, .ref (ad 0 0)), (1, .int p1), (2, .int p2), (3, .int p3), (4, .int p4), (5, .int p5)]) S.1 S.2.1 dX5_watch_225 hl (by decide) rfl (fun ls hl => ?_)
                              refine lv_iload S.1 S.2.1 dX5_watch_227 (lv_at hl 3 rfl) ?_
                              refine q_if_eq (tgt := 237) (xi := 1) S rfl dX5_watch_229 (by decide) (fun c44 => absurd c44 (by assumption)) (fun c44 => ?_)
                              refine lv_iload S.1 S.2.1 dX5_watch_232 (lv_at hl 6 rfl) ?_
                              refine q_if_ne (tgt := 241) (xi := x10.toInt) S rfl dX5_watch_234 (by decide) (fun c45 => absurd (by assumption) c45) (fun c45 => ?_)
                              refine lv_iconst (v := 1) S.1 S.2.1 dX5_watch_237 (by decide) ?_
                              refine lv_goto (tgt := 242) S.1 S.2.1 dX5_watch_238 (by decide) ?_
                              refine lv_istore (lv' := [(10, .int 1), (8, .int (x8 + 1)), (7, .int (x7 + 0)), (6, .int (x6 + 1)), (13, .int 1), (12, .int (d.1 30 0 (ix ((60 * p1) + x11)))), (11, .int x11), (9, .int x9), (0, .ref (ad 0 0)), (1, .int p1), (2, .int p2), (3, .int p3), (4, .int p4), (5, .int p5)]) S.1 S.2.1 dX5_watch_242 hl (by decide) rfl (fun ls hl => ?_)
                              refine lv_iload S.1 S.2.1 dX5_watch_244 (lv_at hl 5 rfl) ?_
                              refine lv_istore (lv' := [(9, .int (d.1 30 0 (ix ((60 * p1) + x11)))), (10, .int 1), (8, .int (x8 + 1)), (7, .int (x7 + 0)), (6, .int (x6 + 1)), (13, .int 1), (12, .int (d.1 30 0 (ix ((60 * p1) + x11)))), (11, .int x11), (0, .ref (ad 0 0)), (1, .int p1), (2, .int p2), (3, .int p3), (4, .int p4), (5, .int p5)]) S.1 S.2.1 dX5_watch_246 hl (by decide) rfl (fun ls hl => ?_)
                              refine lv_iinc (v := x11 + 1) (lv' := [(11, .int (x11 + 1)), (9, .int (d.1 30 0 (ix ((60 * p1) + x11)))), (10, .int 1), (8, .int (x8 + 1)), (7, .int (x7 + 0)), (6, .int (x6 + 1)), (13, .int 1), (12, .int (d.1 30 0 (ix ((60 * p1) + x11)))), (0, .ref (ad 0 0)), (1, .int p1), (2, .int p2), (3, .int p3), (4, .int p4), (5, .int p5)]) S.1 S.2.1 dX5_watch_248 hl (k := 7) rfl (by rfl) (by decide) rfl (fun ls hl => ?_)
                              refine lv_goto (tgt := 135) S.1 S.2.1 dX5_watch_251 (by decide) ?_
                              have e9 : ((x11 + 1)).toInt = x11.toInt + 1 := ti1 (by omega)
                              exact ih135 (x11 + 1) 1 (d.1 30 0 (ix ((60 * p1) + x11))) (x8 + 1) (x7 + 0) (x6 + 1) (by omega) (by omega) (by omega) hs _ _ hX hS _ (lv_sub hl [0, 2, 1, 3, 4, 5, 8, 9, 10, 11, 12, 13] rfl)
                            · have hs := hs.trans (cif_f c41)
                              refine lv_iconst (v := 1) S.1 S.2.1 dX5_watch_199 (by decide) ?_
                              refine lv_goto (tgt := 204) S.1 S.2.1 dX5_watch_200 (by decide) ?_
                              refine lv_iadd S.1 S.2.1 dX5_watch_204 ?_
                              refine lv_istore (lv' := [(7, .int (x7 + 1)), (6, .int (x6 + 1)), (13, .int 1), (12, .int (d.1 30 0 (ix ((60 * p1) + x11)))), (11, .int x11), (10, .int x10), (9, .int x9), (8, .int x8), (0, .ref (ad 0 0)), (1, .int p1), (2, .int p2), (3, .int p3), (4, .int p4), (5, .int p5)]) S.1 S.2.1 dX5_watch_205 hl (by decide) rfl (fun ls hl => ?_)
                              refine lv_iload S.1 S.2.1 dX5_watch_207 (lv_at hl 7 rfl) ?_
                              refine lv_iload S.1 S.2.1 dX5_watch_209 (lv_at hl 2 rfl) ?_
                              refine q_if_eq (tgt := 223) (xi := 1) S rfl dX5_watch_211 (by decide) (fun c46 => absurd c46 (by assumption)) (fun c46 => ?_)
                              refine lv_iload S.1 S.2.1 dX5_watch_214 (lv_at hl 5 rfl) ?_
                              refine q_if_ne (tgt := 223) (xi := x10.toInt) S rfl dX5_watch_216 (by decide) (fun c47 => ?_) (fun c47 => absurd c47 (by assumption))
                              refine lv_iconst (v := 0) S.1 S.2.1 dX5_watch_223 (by decide) ?_
                              refine lv_iadd S.1 S.2.1 dX5_watch_224 ?_
                              refine lv_istore (lv' := [(8, .int (x8 + 0)), (7, .int (x7 + 1)), (6, .int (x6 + 1)), (13, .int 1), (12, .int (d.1 30 0 (ix ((60 * p1) + x11)))), (11, .int x11), (10, .int x10), (9, .int x9), (0, .ref (ad 0 0)), (1, .int p1), (2, .int p2), (3, .int p3), (4, .int p4), (5, .int p5)]) S.1 S.2.1 dX5_watch_225 hl (by decide) rfl (fun ls hl => ?_)
                              refine lv_iload S.1 S.2.1 dX5_watch_227 (lv_at hl 3 rfl) ?_
                              refine q_if_eq (tgt := 237) (xi := 1) S rfl dX5_watch_229 (by decide) (fun c48 => absurd c48 (by assumption)) (fun c48 => ?_)
                              refine lv_iload S.1 S.2.1 dX5_watch_232 (lv_at hl 6 rfl) ?_
                              refine q_if_ne (tgt := 241) (xi := x10.toInt) S rfl dX5_watch_234 (by decide) (fun c49 => ?_) (fun c49 => absurd c49 (by assumption))
                              refine lv_iconst (v := 0) S.1 S.2.1 dX5_watch_241 (by decide) ?_
                              refine lv_istore (lv' := [(10, .int 0), (8, .int (x8 + 0)), (7, .int (x7 + 1)), (6, .int (x6 + 1)), (13, .int 1), (12, .int (d.1 30 0 (ix ((60 * p1) + x11)))), (11, .int x11), (9, .int x9), (0, .ref (ad 0 0)), (1, .int p1), (2, .int p2), (3, .int p3), (4, .int p4), (5, .int p5)]) S.1 S.2.1 dX5_watch_242 hl (by decide) rfl (fun ls hl => ?_)
                              refine lv_iload S.1 S.2.1 dX5_watch_244 (lv_at hl 5 rfl) ?_
                              refine lv_istore (lv' := [(9, .int (d.1 30 0 (ix ((60 * p1) + x11)))), (10, .int 0), (8, .int (x8 + 0)), (7, .int (x7 + 1)), (6, .int (x6 + 1)), (13, .int 1), (12, .int (d.1 30 0 (ix ((60 * p1) + x11)))), (11, .int x11), (0, .ref (ad 0 0)), (1, .int p1), (2, .int p2), (3, .int p3), (4, .int p4), (5, .int p5)]) S.1 S.2.1 dX5_watch_246 hl (by decide) rfl (fun ls hl => ?_)
                              refine lv_iinc (v := x11 + 1) (lv' := [(11, .int (x11 + 1)), (9, .int (d.1 30 0 (ix ((60 * p1) + x11)))), (10, .int 0), (8, .int (x8 + 0)), (7, .int (x7 + 1)), (6, .int (x6 + 1)), (13, .int 1), (12, .int (d.1 30 0 (ix ((60 * p1) + x11)))), (0, .ref (ad 0 0)), (1, .int p1), (2, .int p2), (3, .int p3), (4, .int p4), (5, .int p5)]) S.1 S.2.1 dX5_watch_248 hl (k := 7) rfl (by rfl) (by decide) rfl (fun ls hl => ?_)
                              refine lv_goto (tgt := 135) S.1 S.2.1 dX5_watch_251 (by decide) ?_
                              have e9 : ((x11 + 1)).toInt = x11.toInt + 1 := ti1 (by omega)
                              exact ih135 (x11 + 1) 0 (d.1 30 0 (ix ((60 * p1) + x11))) (x8 + 0) (x7 + 1) (x6 + 1) (by omega) (by omega) (by omega) hs _ _ hX hS _ (lv_sub hl [0, 2, 1, 3, 4, 5, 8, 9, 10, 11, 12, 13] rfl)
                exact L135 64 p3 1 0 0 0 0 (by first | omega | (simp only [Int32.toInt_zero]; omega)) (by first | omega | (simp only [Int32.toInt_zero]; omega)) (by first | omega | (simp only [Int32.toInt_zero]; omega)) hs _ _ hX hS _ (lv_sub hl [0, 1, 2, 3, 4, 5, 6, 7, 8, 9, 10, 11] rfl)
              · have hs := hs.trans (cif_t c14)
                refine lv_aload_n S.1 S.2.1 dX5_watch_111 rfl (lv_at hl 0 rfl) ?_
                refine lv_iconst (v := 3) S.1 S.2.1 dX5_watch_112 (by decide) ?_
                refine cWV (rest := []) S (c_X5_failed l D G ad d 3) gV_RX5_237 ds_X5_failed ⟨rfl, rfl⟩ ⟨Nat.le_of_ble_eq_true rfl, Nat.le_of_ble_eq_true rfl⟩ ⟨blindX, recvX hK hX (k := 0) (i := 0) Nat.zero_lt_one rfl rfl, preX hK hN hX _⟩ rfl hl.1 rfl (Nat.le_of_ble_eq_true rfl) ⟨Nat.le_of_ble_eq_true rfl, Nat.le_of_ble_eq_true rfl⟩ dX5_watch_113 hS (fun _ h => h) (fun H locs hX hS hfr => ?_)
                exact wI S hr hlk hs hX hS dX5_watch_116
            · have hs := hs.trans (cif_f c12)
              refine lv_aload_n S.1 S.2.1 dX5_watch_90 rfl (lv_at hl 0 rfl) ?_
              refine lv_iconst (v := 4) S.1 S.2.1 dX5_watch_91 (by decide) ?_
              refine cWV (rest := []) S (c_X5_failed l D G ad d 4) gV_RX5_237 ds_X5_failed ⟨rfl, rfl⟩ ⟨Nat.le_of_ble_eq_true rfl, Nat.le_of_ble_eq_true rfl⟩ ⟨blindX, recvX hK hX (k := 0) (i := 0) Nat.zero_lt_one rfl rfl, preX hK hN hX _⟩ rfl hl.1 rfl (Nat.le_of_ble_eq_true rfl) ⟨Nat.le_of_ble_eq_true rfl, Nat.le_of_ble_eq_true rfl⟩ dX5_watch_92 hS (fun _ h => h) (fun H locs hX hS hfr => ?_)
              exact wI S hr hlk hs hX hS dX5_watch_95
          · have hs := hs.trans (cif_f c9)
            refine lv_aload_n S.1 S.2.1 dX5_watch_64 rfl (lv_at hl 0 rfl) ?_
            refine lv_iconst (v := 2) S.1 S.2.1 dX5_watch_65 (by decide) ?_
            refine cWV (rest := []) S (c_X5_failed l D G ad d 2) gV_RX5_237 ds_X5_failed ⟨rfl, rfl⟩ ⟨Nat.le_of_ble_eq_true rfl, Nat.le_of_ble_eq_true rfl⟩ ⟨blindX, recvX hK hX (k := 0) (i := 0) Nat.zero_lt_one rfl rfl, preX hK hN hX _⟩ rfl hl.1 rfl (Nat.le_of_ble_eq_true rfl) ⟨Nat.le_of_ble_eq_true rfl, Nat.le_of_ble_eq_true rfl⟩ dX5_watch_66 hS (fun _ h => h) (fun H locs hX hS hfr => ?_)
            exact wI S hr hlk hs hX hS dX5_watch_69
      · have hs := hs.trans (cif_f c4)
        refine lv_aload_n S.1 S.2.1 dX5_watch_38 rfl (lv_at hl 0 rfl) ?_
        refine lv_bipush (v := (-2)) S.1 S.2.1 dX5_watch_39 (by decide) ?_
        refine cWV (rest := []) S (c_X5_refused l D G ad d (-2)) gV_RX5_233 ds_X5_refused ⟨rfl, rfl⟩ ⟨Nat.le_of_ble_eq_true rfl, Nat.le_of_ble_eq_true rfl⟩ ⟨blindX, recvX hK hX (k := 0) (i := 0) Nat.zero_lt_one rfl rfl, preX hK hN hX _⟩ rfl hl.1 rfl (Nat.le_of_ble_eq_true rfl) ⟨Nat.le_of_ble_eq_true rfl, Nat.le_of_ble_eq_true rfl⟩ dX5_watch_41 hS (fun _ h => h) (fun H locs hX hS hfr => ?_)
        exact wI S hr hlk hs hX hS dX5_watch_44
  · have hs := hs.trans (cif_t c1)
    refine lv_aload_n S.1 S.2.1 dX5_watch_7 rfl (lv_at hl 0 rfl) ?_
    refine lv_iconst (v := (-1)) S.1 S.2.1 dX5_watch_8 (by decide) ?_
    refine cWV (rest := []) S (c_X5_refused l D G ad d (-1)) gV_RX5_233 ds_X5_refused ⟨rfl, rfl⟩ ⟨Nat.le_of_ble_eq_true rfl, Nat.le_of_ble_eq_true rfl⟩ ⟨blindX, recvX hK hX (k := 0) (i := 0) Nat.zero_lt_one rfl rfl, preX hK hN hX _⟩ rfl hl.1 rfl (Nat.le_of_ble_eq_true rfl) ⟨Nat.le_of_ble_eq_true rfl, Nat.le_of_ble_eq_true rfl⟩ dX5_watch_9 hS (fun _ h => h) (fun H locs hX hS hfr => ?_)
    exact wI S hr hlk hs hX hS dX5_watch_12
set_option maxRecDepth 100000 in
set_option maxHeartbeats 8000000 in
theorem c_X5_traced (l : Launch) (D : va_G) (G : Gc) (ad : Nat → Nat → Nat) (d : Dt) (p1 : Int32) : Met l yX5_traced (wsU yX5_traced cX5_traced 2 none) ({ frames := 0, cells := 0, slots := 0, locals := 0 } : Room) (va_Pc [.ref (ad 0 0), .int p1] (XPre D (tysG G) (MF G ad) MN ad d)) (qW none D (MF G ad) MN ad (sp_X5_traced d p1)) 0 0 (adS MN ad) := by
  refine ent (by decide +kernel) (Nat.le_of_ble_eq_true rfl) ?_
  intro p e s m below meth c S hr hlk hpre ls hl
  have S : CallFix p m c cX5_traced 2 s [.ref (ad 0 0), .int p1].toArray wsL_law RX5 := S
  obtain ⟨hK, hN, hX⟩ := hpre
  have hl : lv_has ls 2 [(0, .ref (ad 0 0)), (1, .int p1)] := hl
  have hs := sp_X5_traced.eq_1 d p1
  have hS : va_S (adS MN ad) s.heap s.heap [] := va_S.rf
  refine lv_aload_n S.1 S.2.1 dX5_traced_0 rfl (lv_at hl 0 rfl) ?_
  refine lv_bipush (v := 31) S.1 S.2.1 dX5_traced_1 (by decide) ?_
  refine lv_aload_n S.1 S.2.1 dX5_traced_3 rfl (lv_at hl 0 rfl) ?_
  refine gf_RX5_250 S hK hX (v := d.1 0 0 32) rfl dX5_traced_4 ?_
  refine lv_imul S.1 S.2.1 dX5_traced_7 ?_
  refine lv_iload_n S.1 S.2.1 dX5_traced_8 rfl (lv_at hl 1 rfl) ?_
  refine lv_iadd S.1 S.2.1 dX5_traced_9 ?_
  refine pf_RX5_250 S hK hX hS dX5_traced_10 (fun H locs hX hS => ?_)
  exact wV S hr hlk hs hX hS dX5_traced_13
set_option maxRecDepth 100000 in
set_option maxHeartbeats 8000000 in
theorem c_X5_tell (l : Launch) (D : va_G) (G : Gc) (ad : Nat → Nat → Nat) (d : Dt) (p1 : Int32) (hI : MI d) : Met l yX5_tell (wsU yX5_tell cX5_tell 2 (some .int)) ({ frames := 2, cells := 0, slots := 0, locals := 46 } : Room) (va_Pc [.ref (ad 0 0), .int p1] (XPre D (tysG G) (MF G ad) MN ad d)) (qW (some (.int (sp_X5_tell d p1).1)) D (MF G ad) MN ad (sp_X5_tell d p1).2) 0 0 (adS MN ad) := by
  refine ent (by decide +kernel) (Nat.le_of_ble_eq_true rfl) ?_
  intro p e s m below meth c S hr hlk hpre ls hl
  have S : CallFix p m c cX5_tell 2 s [.ref (ad 0 0), .int p1].toArray wsL_law RX5 := S
  obtain ⟨hK, hN, hX⟩ := hpre
  have hl : lv_has ls 2 [(0, .ref (ad 0 0)), (1, .int p1)] := hl
  have hs := sp_X5_tell.eq_1 d p1
  have hS : va_S (adS MN ad) s.heap s.heap [] := va_S.rf
  have q1 := hI.1
  have q2 := hI.2.2.1
  have q3 := hI.2.2.2.1
  have q4 := hI.2.2.2.2.1
  refine lv_aload_n S.1 S.2.1 dX5_tell_0 rfl (lv_at hl 0 rfl) ?_
  refine lv_iload_n S.1 S.2.1 dX5_tell_1 rfl (lv_at hl 1 rfl) ?_
  refine cPV (rest := []) S (c_X5_noTicket l D G ad d p1) gV_RX5_188 ds_X5_noTicket ⟨rfl, rfl⟩ ⟨Nat.le_of_ble_eq_true rfl, Nat.le_of_ble_eq_true rfl⟩ ⟨blindX, recvX hK hX (k := 0) (i := 0) Nat.zero_lt_one rfl rfl, preX hK hN hX _⟩ rfl hl.1 rfl (Nat.le_of_ble_eq_true rfl) ⟨Nat.le_of_ble_eq_true rfl, Nat.le_of_ble_eq_true rfl⟩ dX5_tell_2 ?_
  refine q_if_eq_b (tgt := 10) S dX5_tell_5 (by decide) (fun c1 => ?_) (fun c1 => ?_)
  · have hs := hs.trans (cif_f c1)
    have f2 := nt_of hI c1
    refine lv_aload_n S.1 S.2.1 dX5_tell_10 rfl (lv_at hl 0 rfl) ?_
    refine gf_RX5_41 S hK hX dX5_tell_11 ?_
    refine lv_iload_n S.1 S.2.1 dX5_tell_14 rfl (lv_at hl 1 rfl) ?_
    refine al_M18 S hK hX (by omega) (by omega) (z := d.1 18 0 (ix p1)) rfl dX5_tell_15 ?_
    refine q_if_eq (tgt := 38) (xi := (d.1 18 0 (ix p1)).toInt) S rfl dX5_tell_16 (by decide) (fun c3 => ?_) (fun c3 => ?_)
    · have hs := hs.trans (cif_t c3)
      refine lv_aload_n S.1 S.2.1 dX5_tell_38 rfl (lv_at hl 0 rfl) ?_
      refine lv_iconst (v := 1) S.1 S.2.1 dX5_tell_39 (by decide) ?_
      refine cWV (rest := []) S (c_X5_traced l D G ad d 1) gV_RX5_253 ds_X5_traced ⟨rfl, rfl⟩ ⟨Nat.le_of_ble_eq_true rfl, Nat.le_of_ble_eq_true rfl⟩ ⟨blindX, recvX hK hX (k := 0) (i := 0) Nat.zero_lt_one rfl rfl, preX hK hN hX _⟩ rfl hl.1 rfl (Nat.le_of_ble_eq_true rfl) ⟨Nat.le_of_ble_eq_true rfl, Nat.le_of_ble_eq_true rfl⟩ dX5_tell_40 hS (fun _ h => h) (fun H locs hX hS hfr => ?_)
      refine lv_aload_n S.1 S.2.1 dX5_tell_43 rfl (lv_at hl 0 rfl) ?_
      refine gf_RX5_41 S hK hX dX5_tell_44 ?_
      refine lv_iload_n S.1 S.2.1 dX5_tell_47 rfl (lv_at hl 1 rfl) ?_
      refine al_M18 S hK hX (by omega) (by omega) (z := (sp_X5_traced d 1).1 18 0 (ix p1)) rfl dX5_tell_48 ?_
      refine q_if_ne (tgt := 61) (xi := ((sp_X5_traced d 1).1 18 0 (ix p1)).toInt) S rfl dX5_tell_49 (by decide) (fun c4 => ?_) (fun c4 => ?_)
      · have hs := hs.trans (cif_f c4)
        refine lv_aload_n S.1 S.2.1 dX5_tell_61 rfl (lv_at hl 0 rfl) ?_
        refine gf_RX5_41 S hK hX dX5_tell_62 ?_
        refine lv_iload_n S.1 S.2.1 dX5_tell_65 rfl (lv_at hl 1 rfl) ?_
        refine al_M18 S hK hX (by omega) (by omega) (z := (sp_X5_traced d 1).1 18 0 (ix p1)) rfl dX5_tell_66 ?_
        refine lv_iconst (v := 1) S.1 S.2.1 dX5_tell_67 (by decide) ?_
        refine q_icmp_ne (tgt := 84) (xi := ((sp_X5_traced d 1).1 18 0 (ix p1)).toInt) (yi := 1) S rfl rfl dX5_tell_68 (by decide) (fun c5 => ?_) (fun c5 => ?_)
        · have hs := hs.trans (cif_f c5)
          refine lv_aload_n S.1 S.2.1 dX5_tell_84 rfl (lv_at hl 0 rfl) ?_
          refine gf_RX5_47 S hK hX dX5_tell_85 ?_
          refine lv_iload_n S.1 S.2.1 dX5_tell_88 rfl (lv_at hl 1 rfl) ?_
          refine al_M20 S hK hX (by omega) (by omega) (z := (sp_X5_traced d 1).1 20 0 (ix p1)) rfl dX5_tell_89 ?_
          refine lv_ineg S.1 S.2.1 dX5_tell_90 ?_
          refine lv_iconst (v := 1) S.1 S.2.1 dX5_tell_91 (by decide) ?_
          refine lv_isub S.1 S.2.1 dX5_tell_92 ?_
          exact wI S hr hlk hs hX hS dX5_tell_93
        · have hs := hs.trans (cif_t c5)
          refine lv_sipush (v := 1000) S.1 S.2.1 dX5_tell_71 (by decide) ?_
          refine lv_aload_n S.1 S.2.1 dX5_tell_74 rfl (lv_at hl 0 rfl) ?_
          refine gf_RX5_47 S hK hX dX5_tell_75 ?_
          refine lv_iload_n S.1 S.2.1 dX5_tell_78 rfl (lv_at hl 1 rfl) ?_
          refine al_M20 S hK hX (by omega) (by omega) (z := (sp_X5_traced d 1).1 20 0 (ix p1)) rfl dX5_tell_79 ?_
          refine lv_iadd S.1 S.2.1 dX5_tell_80 ?_
          refine lv_goto (tgt := 93) S.1 S.2.1 dX5_tell_81 (by decide) ?_
          exact wI S hr hlk hs hX hS dX5_tell_93
      · have hs := hs.trans (cif_t c4)
        refine lv_aload_n S.1 S.2.1 dX5_tell_52 rfl (lv_at hl 0 rfl) ?_
        refine gf_RX5_47 S hK hX dX5_tell_53 ?_
        refine lv_iload_n S.1 S.2.1 dX5_tell_56 rfl (lv_at hl 1 rfl) ?_
        refine al_M20 S hK hX (by omega) (by omega) (z := (sp_X5_traced d 1).1 20 0 (ix p1)) rfl dX5_tell_57 ?_
        refine lv_goto (tgt := 93) S.1 S.2.1 dX5_tell_58 (by decide) ?_
        exact wI S hr hlk hs hX hS dX5_tell_93
    · have hs := hs.trans (cif_f c3)
      refine lv_aload_n S.1 S.2.1 dX5_tell_19 rfl (lv_at hl 0 rfl) ?_
      refine lv_aload_n S.1 S.2.1 dX5_tell_20 rfl (lv_at hl 0 rfl) ?_
      refine gf_RX5_41 S hK hX dX5_tell_21 ?_
      refine lv_iload_n S.1 S.2.1 dX5_tell_24 rfl (lv_at hl 1 rfl) ?_
      refine al_M18 S hK hX (by omega) (by omega) (z := d.1 18 0 (ix p1)) rfl dX5_tell_25 ?_
      refine lv_iconst (v := 1) S.1 S.2.1 dX5_tell_26 (by decide) ?_
      refine q_icmp_ne (tgt := 34) (xi := (d.1 18 0 (ix p1)).toInt) (yi := 1) S rfl rfl dX5_tell_27 (by decide) (fun c6 => ?_) (fun c6 => ?_)
      · have hs := hs.trans (cif_f c6)
        refine lv_iconst (v := 3) S.1 S.2.1 dX5_tell_34 (by decide) ?_
        refine cWV (rest := []) S (c_X5_traced l D G ad d 3) gV_RX5_253 ds_X5_traced ⟨rfl, rfl⟩ ⟨Nat.le_of_ble_eq_true rfl, Nat.le_of_ble_eq_true rfl⟩ ⟨blindX, recvX hK hX (k := 0) (i := 0) Nat.zero_lt_one rfl rfl, preX hK hN hX _⟩ rfl hl.1 rfl (Nat.le_of_ble_eq_true rfl) ⟨Nat.le_of_ble_eq_true rfl, Nat.le_of_ble_eq_true rfl⟩ dX5_tell_35 hS (fun _ h => h) (fun H locs hX hS hfr => ?_)
        refine lv_aload_n S.1 S.2.1 dX5_tell_38 rfl (lv_at hl 0 rfl) ?_
        refine lv_iconst (v := 1) S.1 S.2.1 dX5_tell_39 (by decide) ?_
        refine cWV (rest := []) S (c_X5_traced l D G ad (sp_X5_traced d 3) 1) gV_RX5_253 ds_X5_traced ⟨rfl, rfl⟩ ⟨Nat.le_of_ble_eq_true rfl, Nat.le_of_ble_eq_true rfl⟩ ⟨blindX, recvX hK hX (k := 0) (i := 0) Nat.zero_lt_one rfl rfl, preX hK hN hX _⟩ rfl hl.1 rfl (Nat.le_of_ble_eq_true rfl) ⟨Nat.le_of_ble_eq_true rfl, Nat.le_of_ble_eq_true rfl⟩ dX5_tell_40 hS (fun _ h => h) (fun H locs hX hS hfr => ?_)
        refine lv_aload_n S.1 S.2.1 dX5_tell_43 rfl (lv_at hl 0 rfl) ?_
        refine gf_RX5_41 S hK hX dX5_tell_44 ?_
        refine lv_iload_n S.1 S.2.1 dX5_tell_47 rfl (lv_at hl 1 rfl) ?_
        refine al_M18 S hK hX (by omega) (by omega) (z := (sp_X5_traced (sp_X5_traced d 3) 1).1 18 0 (ix p1)) rfl dX5_tell_48 ?_
        refine q_if_ne (tgt := 61) (xi := ((sp_X5_traced (sp_X5_traced d 3) 1).1 18 0 (ix p1)).toInt) S rfl dX5_tell_49 (by decide) (fun c7 => ?_) (fun c7 => ?_)
        · have hs := hs.trans (cif_f c7)
          refine lv_aload_n S.1 S.2.1 dX5_tell_61 rfl (lv_at hl 0 rfl) ?_
          refine gf_RX5_41 S hK hX dX5_tell_62 ?_
          refine lv_iload_n S.1 S.2.1 dX5_tell_65 rfl (lv_at hl 1 rfl) ?_
          refine al_M18 S hK hX (by omega) (by omega) (z := (sp_X5_traced (sp_X5_traced d 3) 1).1 18 0 (ix p1)) rfl dX5_tell_66 ?_
          refine lv_iconst (v := 1) S.1 S.2.1 dX5_tell_67 (by decide) ?_
          refine q_icmp_ne (tgt := 84) (xi := ((sp_X5_traced (sp_X5_traced d 3) 1).1 18 0 (ix p1)).toInt) (yi := 1) S rfl rfl dX5_tell_68 (by decide) (fun c8 => ?_) (fun c8 => ?_)
          · have hs := hs.trans (cif_f c8)
            refine lv_aload_n S.1 S.2.1 dX5_tell_84 rfl (lv_at hl 0 rfl) ?_
            refine gf_RX5_47 S hK hX dX5_tell_85 ?_
            refine lv_iload_n S.1 S.2.1 dX5_tell_88 rfl (lv_at hl 1 rfl) ?_
            refine al_M20 S hK hX (by omega) (by omega) (z := (sp_X5_traced (sp_X5_traced d 3) 1).1 20 0 (ix p1)) rfl dX5_tell_89 ?_
            refine lv_ineg S.1 S.2.1 dX5_tell_90 ?_
            refine lv_iconst (v := 1) S.1 S.2.1 dX5_tell_91 (by decide) ?_
            refine lv_isub S.1 S.2.1 dX5_tell_92 ?_
            exact wI S hr hlk hs hX hS dX5_tell_93
          · have hs := hs.trans (cif_t c8)
            refine lv_sipush (v := 1000) S.1 S.2.1 dX5_tell_71 (by decide) ?_
            refine lv_aload_n S.1 S.2.1 dX5_tell_74 rfl (lv_at hl 0 rfl) ?_
            refine gf_RX5_47 S hK hX dX5_tell_75 ?_
            refine lv_iload_n S.1 S.2.1 dX5_tell_78 rfl (lv_at hl 1 rfl) ?_
            refine al_M20 S hK hX (by omega) (by omega) (z := (sp_X5_traced (sp_X5_traced d 3) 1).1 20 0 (ix p1)) rfl dX5_tell_79 ?_
            refine lv_iadd S.1 S.2.1 dX5_tell_80 ?_
            refine lv_goto (tgt := 93) S.1 S.2.1 dX5_tell_81 (by decide) ?_
            exact wI S hr hlk hs hX hS dX5_tell_93
        · have hs := hs.trans (cif_t c7)
          refine lv_aload_n S.1 S.2.1 dX5_tell_52 rfl (lv_at hl 0 rfl) ?_
          refine gf_RX5_47 S hK hX dX5_tell_53 ?_
          refine lv_iload_n S.1 S.2.1 dX5_tell_56 rfl (lv_at hl 1 rfl) ?_
          refine al_M20 S hK hX (by omega) (by omega) (z := (sp_X5_traced (sp_X5_traced d 3) 1).1 20 0 (ix p1)) rfl dX5_tell_57 ?_
          refine lv_goto (tgt := 93) S.1 S.2.1 dX5_tell_58 (by decide) ?_
          exact wI S hr hlk hs hX hS dX5_tell_93
      · have hs := hs.trans (cif_t c6)
        refine lv_iconst (v := 2) S.1 S.2.1 dX5_tell_30 (by decide) ?_
        refine lv_goto (tgt := 35) S.1 S.2.1 dX5_tell_31 (by decide) ?_
        refine cWV (rest := []) S (c_X5_traced l D G ad d 2) gV_RX5_253 ds_X5_traced ⟨rfl, rfl⟩ ⟨Nat.le_of_ble_eq_true rfl, Nat.le_of_ble_eq_true rfl⟩ ⟨blindX, recvX hK hX (k := 0) (i := 0) Nat.zero_lt_one rfl rfl, preX hK hN hX _⟩ rfl hl.1 rfl (Nat.le_of_ble_eq_true rfl) ⟨Nat.le_of_ble_eq_true rfl, Nat.le_of_ble_eq_true rfl⟩ dX5_tell_35 hS (fun _ h => h) (fun H locs hX hS hfr => ?_)
        refine lv_aload_n S.1 S.2.1 dX5_tell_38 rfl (lv_at hl 0 rfl) ?_
        refine lv_iconst (v := 1) S.1 S.2.1 dX5_tell_39 (by decide) ?_
        refine cWV (rest := []) S (c_X5_traced l D G ad (sp_X5_traced d 2) 1) gV_RX5_253 ds_X5_traced ⟨rfl, rfl⟩ ⟨Nat.le_of_ble_eq_true rfl, Nat.le_of_ble_eq_true rfl⟩ ⟨blindX, recvX hK hX (k := 0) (i := 0) Nat.zero_lt_one rfl rfl, preX hK hN hX _⟩ rfl hl.1 rfl (Nat.le_of_ble_eq_true rfl) ⟨Nat.le_of_ble_eq_true rfl, Nat.le_of_ble_eq_true rfl⟩ dX5_tell_40 hS (fun _ h => h) (fun H locs hX hS hfr => ?_)
        refine lv_aload_n S.1 S.2.1 dX5_tell_43 rfl (lv_at hl 0 rfl) ?_
        refine gf_RX5_41 S hK hX dX5_tell_44 ?_
        refine lv_iload_n S.1 S.2.1 dX5_tell_47 rfl (lv_at hl 1 rfl) ?_
        refine al_M18 S hK hX (by omega) (by omega) (z := (sp_X5_traced (sp_X5_traced d 2) 1).1 18 0 (ix p1)) rfl dX5_tell_48 ?_
        refine q_if_ne (tgt := 61) (xi := ((sp_X5_traced (sp_X5_traced d 2) 1).1 18 0 (ix p1)).toInt) S rfl dX5_tell_49 (by decide) (fun c9 => ?_) (fun c9 => ?_)
        · have hs := hs.trans (cif_f c9)
          refine lv_aload_n S.1 S.2.1 dX5_tell_61 rfl (lv_at hl 0 rfl) ?_
          refine gf_RX5_41 S hK hX dX5_tell_62 ?_
          refine lv_iload_n S.1 S.2.1 dX5_tell_65 rfl (lv_at hl 1 rfl) ?_
          refine al_M18 S hK hX (by omega) (by omega) (z := (sp_X5_traced (sp_X5_traced d 2) 1).1 18 0 (ix p1)) rfl dX5_tell_66 ?_
          refine lv_iconst (v := 1) S.1 S.2.1 dX5_tell_67 (by decide) ?_
          refine q_icmp_ne (tgt := 84) (xi := ((sp_X5_traced (sp_X5_traced d 2) 1).1 18 0 (ix p1)).toInt) (yi := 1) S rfl rfl dX5_tell_68 (by decide) (fun c10 => ?_) (fun c10 => ?_)
          · have hs := hs.trans (cif_f c10)
            refine lv_aload_n S.1 S.2.1 dX5_tell_84 rfl (lv_at hl 0 rfl) ?_
            refine gf_RX5_47 S hK hX dX5_tell_85 ?_
            refine lv_iload_n S.1 S.2.1 dX5_tell_88 rfl (lv_at hl 1 rfl) ?_
            refine al_M20 S hK hX (by omega) (by omega) (z := (sp_X5_traced (sp_X5_traced d 2) 1).1 20 0 (ix p1)) rfl dX5_tell_89 ?_
            refine lv_ineg S.1 S.2.1 dX5_tell_90 ?_
            refine lv_iconst (v := 1) S.1 S.2.1 dX5_tell_91 (by decide) ?_
            refine lv_isub S.1 S.2.1 dX5_tell_92 ?_
            exact wI S hr hlk hs hX hS dX5_tell_93
          · have hs := hs.trans (cif_t c10)
            refine lv_sipush (v := 1000) S.1 S.2.1 dX5_tell_71 (by decide) ?_
            refine lv_aload_n S.1 S.2.1 dX5_tell_74 rfl (lv_at hl 0 rfl) ?_
            refine gf_RX5_47 S hK hX dX5_tell_75 ?_
            refine lv_iload_n S.1 S.2.1 dX5_tell_78 rfl (lv_at hl 1 rfl) ?_
            refine al_M20 S hK hX (by omega) (by omega) (z := (sp_X5_traced (sp_X5_traced d 2) 1).1 20 0 (ix p1)) rfl dX5_tell_79 ?_
            refine lv_iadd S.1 S.2.1 dX5_tell_80 ?_
            refine lv_goto (tgt := 93) S.1 S.2.1 dX5_tell_81 (by decide) ?_
            exact wI S hr hlk hs hX hS dX5_tell_93
        · have hs := hs.trans (cif_t c9)
          refine lv_aload_n S.1 S.2.1 dX5_tell_52 rfl (lv_at hl 0 rfl) ?_
          refine gf_RX5_47 S hK hX dX5_tell_53 ?_
          refine lv_iload_n S.1 S.2.1 dX5_tell_56 rfl (lv_at hl 1 rfl) ?_
          refine al_M20 S hK hX (by omega) (by omega) (z := (sp_X5_traced (sp_X5_traced d 2) 1).1 20 0 (ix p1)) rfl dX5_tell_57 ?_
          refine lv_goto (tgt := 93) S.1 S.2.1 dX5_tell_58 (by decide) ?_
          exact wI S hr hlk hs hX hS dX5_tell_93
  · have hs := hs.trans (cif_t c1)
    refine lv_iconst (v := (-1)) S.1 S.2.1 dX5_tell_8 (by decide) ?_
    exact wI S hr hlk hs hX hS dX5_tell_9
set_option maxRecDepth 100000 in
set_option maxHeartbeats 8000000 in
theorem c_X5_worth (l : Launch) (D : va_G) (G : Gc) (ad : Nat → Nat → Nat) (d : Dt) (p1 : Int32) (hI : MI d) : Met l yX5_worth (wsU yX5_worth cX5_worth 4 (some .int)) ({ frames := 2, cells := 0, slots := 0, locals := 46 } : Room) (va_Pc [.ref (ad 0 0), .int p1] (XPre D (tysG G) (MF G ad) MN ad d)) (qW (some (.int (sp_X5_worth d p1).1)) D (MF G ad) MN ad (sp_X5_worth d p1).2) 0 0 (adS MN ad) := by
  refine ent (by decide +kernel) (Nat.le_of_ble_eq_true rfl) ?_
  intro p e s m below meth c S hr hlk hpre ls hl
  have S : CallFix p m c cX5_worth 4 s [.ref (ad 0 0), .int p1].toArray wsL_law RX5 := S
  obtain ⟨hK, hN, hX⟩ := hpre
  have hl : lv_has ls 4 [(0, .ref (ad 0 0)), (1, .int p1)] := hl
  have hs := sp_X5_worth.eq_1 d p1
  have hS : va_S (adS MN ad) s.heap s.heap [] := va_S.rf
  have q1 := hI.1
  have q2 := hI.2.2.1
  have q3 := hI.2.2.2.1
  have q4 := hI.2.2.2.2.1
  refine lv_aload_n S.1 S.2.1 dX5_worth_0 rfl (lv_at hl 0 rfl) ?_
  refine lv_iload_n S.1 S.2.1 dX5_worth_1 rfl (lv_at hl 1 rfl) ?_
  refine cPV (rest := []) S (c_X5_noTicket l D G ad d p1) gV_RX5_188 ds_X5_noTicket ⟨rfl, rfl⟩ ⟨Nat.le_of_ble_eq_true rfl, Nat.le_of_ble_eq_true rfl⟩ ⟨blindX, recvX hK hX (k := 0) (i := 0) Nat.zero_lt_one rfl rfl, preX hK hN hX _⟩ rfl hl.1 rfl (Nat.le_of_ble_eq_true rfl) ⟨Nat.le_of_ble_eq_true rfl, Nat.le_of_ble_eq_true rfl⟩ dX5_worth_2 ?_
  refine q_if_eq_b (tgt := 10) S dX5_worth_5 (by decide) (fun c1 => ?_) (fun c1 => ?_)
  · have hs := hs.trans (cif_f c1)
    have f2 := nt_of hI c1
    refine lv_aload_n S.1 S.2.1 dX5_worth_10 rfl (lv_at hl 0 rfl) ?_
    refine lv_aload_n S.1 S.2.1 dX5_worth_11 rfl (lv_at hl 0 rfl) ?_
    refine gf_RX5_41 S hK hX dX5_worth_12 ?_
    refine lv_iload_n S.1 S.2.1 dX5_worth_15 rfl (lv_at hl 1 rfl) ?_
    refine al_M18 S hK hX (by omega) (by omega) (z := d.1 18 0 (ix p1)) rfl dX5_worth_16 ?_
    refine lv_iconst (v := 2) S.1 S.2.1 dX5_worth_17 (by decide) ?_
    refine q_icmp_ne (tgt := 25) (xi := (d.1 18 0 (ix p1)).toInt) (yi := 2) S rfl rfl dX5_worth_18 (by decide) (fun c3 => ?_) (fun c3 => ?_)
    · have hs := hs.trans (cif_f c3)
      refine lv_iconst (v := 4) S.1 S.2.1 dX5_worth_25 (by decide) ?_
      refine cWV (rest := []) S (c_X5_traced l D G ad d 4) gV_RX5_253 ds_X5_traced ⟨rfl, rfl⟩ ⟨Nat.le_of_ble_eq_true rfl, Nat.le_of_ble_eq_true rfl⟩ ⟨blindX, recvX hK hX (k := 0) (i := 0) Nat.zero_lt_one rfl rfl, preX hK hN hX _⟩ rfl hl.1 rfl (Nat.le_of_ble_eq_true rfl) ⟨Nat.le_of_ble_eq_true rfl, Nat.le_of_ble_eq_true rfl⟩ dX5_worth_26 hS (fun _ h => h) (fun H locs hX hS hfr => ?_)
      refine lv_aload_n S.1 S.2.1 dX5_worth_29 rfl (lv_at hl 0 rfl) ?_
      refine lv_iload_n S.1 S.2.1 dX5_worth_30 rfl (lv_at hl 1 rfl) ?_
      refine cPV (rest := []) S (c_X5_volumeOf l D G ad (sp_X5_traced d 4) p1 hI (by omega) (by show p1.toInt < (d.1 0 0 17).toInt; omega)) gV_RX5_201 ds_X5_volumeOf ⟨rfl, rfl⟩ ⟨Nat.le_of_ble_eq_true rfl, Nat.le_of_ble_eq_true rfl⟩ ⟨blindX, recvX hK hX (k := 0) (i := 0) Nat.zero_lt_one rfl rfl, preX hK hN hX _⟩ rfl hl.1 rfl (Nat.le_of_ble_eq_true rfl) ⟨Nat.le_of_ble_eq_true rfl, Nat.le_of_ble_eq_true rfl⟩ dX5_worth_31 ?_
      refine lv_ldc2 S.1 S.2.1 S.2.2.2.1 (S.2.2.2.2 _ wKL_RX5_149) dX5_worth_34 ?_
      refine lv_ldiv S.1 S.2.1 dX5_worth_37 (by decide) ?_
      refine lv_lstore_n (lv' := [(2, .long ((sp_X5_volumeOf (sp_X5_traced d 4) p1) / 1000)), (0, .ref (ad 0 0)), (1, .int p1)]) S.1 S.2.1 dX5_worth_38 rfl hl (by decide) rfl (fun ls hl => ?_)
      refine lv_aload_n S.1 S.2.1 dX5_worth_39 rfl (lv_at hl 1 rfl) ?_
      refine gf_RX5_41 S hK hX dX5_worth_40 ?_
      refine lv_iload_n S.1 S.2.1 dX5_worth_43 rfl (lv_at hl 2 rfl) ?_
      refine al_M18 S hK hX (by omega) (by omega) (z := (sp_X5_traced d 4).1 18 0 (ix p1)) rfl dX5_worth_44 ?_
      refine lv_iconst (v := 2) S.1 S.2.1 dX5_worth_45 (by decide) ?_
      refine q_icmp_ne (tgt := 53) (xi := ((sp_X5_traced d 4).1 18 0 (ix p1)).toInt) (yi := 2) S rfl rfl dX5_worth_46 (by decide) (fun c4 => ?_) (fun c4 => ?_)
      · have hs := hs.trans (cif_f c4)
        refine lv_lload_n S.1 S.2.1 dX5_worth_53 rfl (lv_at hl 0 rfl) ?_
        refine lv_ldc2 S.1 S.2.1 S.2.2.2.1 (S.2.2.2.2 _ wKL_RX5_256) dX5_worth_54 ?_
        refine q_lcmp_le (tgt := 67) (xi := ((sp_X5_volumeOf (sp_X5_traced d 4) p1) / 1000).toInt) (yi := 2147483647) S rfl rfl dX5_worth_57 dX5_worth_58 (by decide) (fun c5 => ?_) (fun c5 => ?_)
        · have hs := hs.trans (cif_t c5)
          refine lv_lload_n S.1 S.2.1 dX5_worth_67 rfl (lv_at hl 0 rfl) ?_
          refine lv_l2i S.1 S.2.1 dX5_worth_68 rfl ?_
          exact wI S hr hlk hs hX hS dX5_worth_69
        · have hs := hs.trans (cif_f c5)
          refine lv_ldcw S.1 S.2.1 S.2.2.2.1 (S.2.2.2.2 _ wKI_RX5_258) dX5_worth_61 ?_
          refine lv_goto (tgt := 69) S.1 S.2.1 dX5_worth_64 (by decide) ?_
          exact wI S hr hlk hs hX hS dX5_worth_69
      · have hs := hs.trans (cif_t c4)
        refine lv_iconst (v := 1) S.1 S.2.1 dX5_worth_49 (by decide) ?_
        refine lv_goto (tgt := 69) S.1 S.2.1 dX5_worth_50 (by decide) ?_
        exact wI S hr hlk hs hX hS dX5_worth_69
    · have hs := hs.trans (cif_t c3)
      refine lv_iconst (v := 5) S.1 S.2.1 dX5_worth_21 (by decide) ?_
      refine lv_goto (tgt := 26) S.1 S.2.1 dX5_worth_22 (by decide) ?_
      refine cWV (rest := []) S (c_X5_traced l D G ad d 5) gV_RX5_253 ds_X5_traced ⟨rfl, rfl⟩ ⟨Nat.le_of_ble_eq_true rfl, Nat.le_of_ble_eq_true rfl⟩ ⟨blindX, recvX hK hX (k := 0) (i := 0) Nat.zero_lt_one rfl rfl, preX hK hN hX _⟩ rfl hl.1 rfl (Nat.le_of_ble_eq_true rfl) ⟨Nat.le_of_ble_eq_true rfl, Nat.le_of_ble_eq_true rfl⟩ dX5_worth_26 hS (fun _ h => h) (fun H locs hX hS hfr => ?_)
      refine lv_aload_n S.1 S.2.1 dX5_worth_29 rfl (lv_at hl 0 rfl) ?_
      refine lv_iload_n S.1 S.2.1 dX5_worth_30 rfl (lv_at hl 1 rfl) ?_
      refine cPV (rest := []) S (c_X5_volumeOf l D G ad (sp_X5_traced d 5) p1 hI (by omega) (by show p1.toInt < (d.1 0 0 17).toInt; omega)) gV_RX5_201 ds_X5_volumeOf ⟨rfl, rfl⟩ ⟨Nat.le_of_ble_eq_true rfl, Nat.le_of_ble_eq_true rfl⟩ ⟨blindX, recvX hK hX (k := 0) (i := 0) Nat.zero_lt_one rfl rfl, preX hK hN hX _⟩ rfl hl.1 rfl (Nat.le_of_ble_eq_true rfl) ⟨Nat.le_of_ble_eq_true rfl, Nat.le_of_ble_eq_true rfl⟩ dX5_worth_31 ?_
      refine lv_ldc2 S.1 S.2.1 S.2.2.2.1 (S.2.2.2.2 _ wKL_RX5_149) dX5_worth_34 ?_
      refine lv_ldiv S.1 S.2.1 dX5_worth_37 (by decide) ?_
      refine lv_lstore_n (lv' := [(2, .long ((sp_X5_volumeOf (sp_X5_traced d 5) p1) / 1000)), (0, .ref (ad 0 0)), (1, .int p1)]) S.1 S.2.1 dX5_worth_38 rfl hl (by decide) rfl (fun ls hl => ?_)
      refine lv_aload_n S.1 S.2.1 dX5_worth_39 rfl (lv_at hl 1 rfl) ?_
      refine gf_RX5_41 S hK hX dX5_worth_40 ?_
      refine lv_iload_n S.1 S.2.1 dX5_worth_43 rfl (lv_at hl 2 rfl) ?_
      refine al_M18 S hK hX (by omega) (by omega) (z := (sp_X5_traced d 5).1 18 0 (ix p1)) rfl dX5_worth_44 ?_
      refine lv_iconst (v := 2) S.1 S.2.1 dX5_worth_45 (by decide) ?_
      refine q_icmp_ne (tgt := 53) (xi := ((sp_X5_traced d 5).1 18 0 (ix p1)).toInt) (yi := 2) S rfl rfl dX5_worth_46 (by decide) (fun c6 => ?_) (fun c6 => ?_)
      · have hs := hs.trans (cif_f c6)
        refine lv_lload_n S.1 S.2.1 dX5_worth_53 rfl (lv_at hl 0 rfl) ?_
        refine lv_ldc2 S.1 S.2.1 S.2.2.2.1 (S.2.2.2.2 _ wKL_RX5_256) dX5_worth_54 ?_
        refine q_lcmp_le (tgt := 67) (xi := ((sp_X5_volumeOf (sp_X5_traced d 5) p1) / 1000).toInt) (yi := 2147483647) S rfl rfl dX5_worth_57 dX5_worth_58 (by decide) (fun c7 => ?_) (fun c7 => ?_)
        · have hs := hs.trans (cif_t c7)
          refine lv_lload_n S.1 S.2.1 dX5_worth_67 rfl (lv_at hl 0 rfl) ?_
          refine lv_l2i S.1 S.2.1 dX5_worth_68 rfl ?_
          exact wI S hr hlk hs hX hS dX5_worth_69
        · have hs := hs.trans (cif_f c7)
          refine lv_ldcw S.1 S.2.1 S.2.2.2.1 (S.2.2.2.2 _ wKI_RX5_258) dX5_worth_61 ?_
          refine lv_goto (tgt := 69) S.1 S.2.1 dX5_worth_64 (by decide) ?_
          exact wI S hr hlk hs hX hS dX5_worth_69
      · have hs := hs.trans (cif_t c6)
        refine lv_iconst (v := 1) S.1 S.2.1 dX5_worth_49 (by decide) ?_
        refine lv_goto (tgt := 69) S.1 S.2.1 dX5_worth_50 (by decide) ?_
        exact wI S hr hlk hs hX hS dX5_worth_69
  · have hs := hs.trans (cif_t c1)
    refine lv_iconst (v := (-1)) S.1 S.2.1 dX5_worth_8 (by decide) ?_
    exact wI S hr hlk hs hX hS dX5_worth_9
set_option maxRecDepth 100000 in
set_option maxHeartbeats 8000000 in
theorem c_X5_as (l : Launch) (D : va_G) (G : Gc) (ad : Nat → Nat → Nat) (d : Dt) (p1 : Int32) (p2 : Int32) (hI : MI d) : Met l yX5_as (wsU yX5_as cX5_as 3 (some .int)) ({ frames := 2, cells := 0, slots := 0, locals := 46 } : Room) (va_Pc [.ref (ad 0 0), .int p1, .int p2] (XPre D (tysG G) (MF G ad) MN ad d)) (qW (some (.int (sp_X5_as d p1 p2).1)) D (MF G ad) MN ad (sp_X5_as d p1 p2).2) 0 0 (adS MN ad) := by
  refine ent (by decide +kernel) (Nat.le_of_ble_eq_true rfl) ?_
  intro p e s m below meth c S hr hlk hpre ls hl
  have S : CallFix p m c cX5_as 3 s [.ref (ad 0 0), .int p1, .int p2].toArray wsL_law RX5 := S
  obtain ⟨hK, hN, hX⟩ := hpre
  have hl : lv_has ls 3 [(0, .ref (ad 0 0)), (1, .int p1), (2, .int p2)] := hl
  have hs := sp_X5_as.eq_1 d p1 p2
  have hS : va_S (adS MN ad) s.heap s.heap [] := va_S.rf
  have q1 := hI.1
  have q2 := hI.2.2.1
  have q3 := hI.2.2.2.1
  have q4 := hI.2.2.2.2.1
  refine lv_aload_n S.1 S.2.1 dX5_as_0 rfl (lv_at hl 0 rfl) ?_
  refine lv_iload_n S.1 S.2.1 dX5_as_1 rfl (lv_at hl 1 rfl) ?_
  refine cPV (rest := []) S (c_X5_noTicket l D G ad d p1) gV_RX5_188 ds_X5_noTicket ⟨rfl, rfl⟩ ⟨Nat.le_of_ble_eq_true rfl, Nat.le_of_ble_eq_true rfl⟩ ⟨blindX, recvX hK hX (k := 0) (i := 0) Nat.zero_lt_one rfl rfl, preX hK hN hX _⟩ rfl hl.1 rfl (Nat.le_of_ble_eq_true rfl) ⟨Nat.le_of_ble_eq_true rfl, Nat.le_of_ble_eq_true rfl⟩ dX5_as_2 ?_
  refine q_if_eq_b (tgt := 14) S dX5_as_5 (by decide) (fun c1 => ?_) (fun c1 => ?_)
  · have hs := hs.trans (cif_f c1)
    have f2 := nt_of hI c1
    refine lv_iload_n S.1 S.2.1 dX5_as_14 rfl (lv_at hl 2 rfl) ?_
    refine lv_i2l S.1 S.2.1 dX5_as_15 rfl ?_
    refine lv_lconst (v := 0) S.1 S.2.1 dX5_as_16 (by decide) ?_
    refine lv_ldc2 S.1 S.2.1 S.2.2.2.1 (S.2.2.2.2 _ wKL_RX5_96) dX5_as_17 ?_
    refine cPS (rest := []) S (c_X5_in l p2.toInt64 0 2) gS_RX5_101 ds_X5_in.2 ⟨rfl, rfl⟩ ⟨Nat.le_of_ble_eq_true rfl, Nat.le_of_ble_eq_true rfl⟩ rfl hl.1 rfl (Nat.le_of_ble_eq_true rfl) ⟨Nat.le_of_ble_eq_true rfl, Nat.le_of_ble_eq_true rfl⟩ dX5_as_20 ?_
    refine q_if_ne_b (tgt := 33) S dX5_as_23 (by decide) (fun c3 => ?_) (fun c3 => ?_)
    · have hs := hs.trans (cif_t c3)
      refine lv_aload_n S.1 S.2.1 dX5_as_33 rfl (lv_at hl 0 rfl) ?_
      refine gf_RX5_41 S hK hX dX5_as_34 ?_
      refine lv_iload_n S.1 S.2.1 dX5_as_37 rfl (lv_at hl 1 rfl) ?_
      refine al_M18 S hK hX (by omega) (by omega) (z := d.1 18 0 (ix p1)) rfl dX5_as_38 ?_
      refine lv_iload_n S.1 S.2.1 dX5_as_39 rfl (lv_at hl 2 rfl) ?_
      refine q_icmp_lt (tgt := 51) (xi := (d.1 18 0 (ix p1)).toInt) (yi := p2.toInt) S rfl rfl dX5_as_40 (by decide) (fun c4 => ?_) (fun c4 => ?_)
      · have hs := hs.trans (cif_t c4)
        refine lv_aload_n S.1 S.2.1 dX5_as_51 rfl (lv_at hl 0 rfl) ?_
        refine lv_iconst (v := 2) S.1 S.2.1 dX5_as_52 (by decide) ?_
        refine cWV (rest := []) S (c_X5_failed l D G ad d 2) gV_RX5_237 ds_X5_failed ⟨rfl, rfl⟩ ⟨Nat.le_of_ble_eq_true rfl, Nat.le_of_ble_eq_true rfl⟩ ⟨blindX, recvX hK hX (k := 0) (i := 0) Nat.zero_lt_one rfl rfl, preX hK hN hX _⟩ rfl hl.1 rfl (Nat.le_of_ble_eq_true rfl) ⟨Nat.le_of_ble_eq_true rfl, Nat.le_of_ble_eq_true rfl⟩ dX5_as_53 hS (fun _ h => h) (fun H locs hX hS hfr => ?_)
        exact wI S hr hlk hs hX hS dX5_as_56
      · have hs := hs.trans (cif_f c4)
        refine lv_aload_n S.1 S.2.1 dX5_as_43 rfl (lv_at hl 0 rfl) ?_
        refine lv_iconst (v := 1) S.1 S.2.1 dX5_as_44 (by decide) ?_
        refine cWV (rest := []) S (c_X5_refused l D G ad d 1) gV_RX5_233 ds_X5_refused ⟨rfl, rfl⟩ ⟨Nat.le_of_ble_eq_true rfl, Nat.le_of_ble_eq_true rfl⟩ ⟨blindX, recvX hK hX (k := 0) (i := 0) Nat.zero_lt_one rfl rfl, preX hK hN hX _⟩ rfl hl.1 rfl (Nat.le_of_ble_eq_true rfl) ⟨Nat.le_of_ble_eq_true rfl, Nat.le_of_ble_eq_true rfl⟩ dX5_as_45 hS (fun _ h => h) (fun H locs hX hS hfr => ?_)
        refine lv_goto (tgt := 56) S.1 S.2.1 dX5_as_48 (by decide) ?_
        exact wI S hr hlk hs hX hS dX5_as_56
    · have hs := hs.trans (cif_f c3)
      refine lv_aload_n S.1 S.2.1 dX5_as_26 rfl (lv_at hl 0 rfl) ?_
      refine lv_bipush (v := (-2)) S.1 S.2.1 dX5_as_27 (by decide) ?_
      refine cWV (rest := []) S (c_X5_refused l D G ad d (-2)) gV_RX5_233 ds_X5_refused ⟨rfl, rfl⟩ ⟨Nat.le_of_ble_eq_true rfl, Nat.le_of_ble_eq_true rfl⟩ ⟨blindX, recvX hK hX (k := 0) (i := 0) Nat.zero_lt_one rfl rfl, preX hK hN hX _⟩ rfl hl.1 rfl (Nat.le_of_ble_eq_true rfl) ⟨Nat.le_of_ble_eq_true rfl, Nat.le_of_ble_eq_true rfl⟩ dX5_as_29 hS (fun _ h => h) (fun H locs hX hS hfr => ?_)
      exact wI S hr hlk hs hX hS dX5_as_32
  · have hs := hs.trans (cif_t c1)
    refine lv_aload_n S.1 S.2.1 dX5_as_8 rfl (lv_at hl 0 rfl) ?_
    refine lv_iconst (v := (-1)) S.1 S.2.1 dX5_as_9 (by decide) ?_
    refine cWV (rest := []) S (c_X5_refused l D G ad d (-1)) gV_RX5_233 ds_X5_refused ⟨rfl, rfl⟩ ⟨Nat.le_of_ble_eq_true rfl, Nat.le_of_ble_eq_true rfl⟩ ⟨blindX, recvX hK hX (k := 0) (i := 0) Nat.zero_lt_one rfl rfl, preX hK hN hX _⟩ rfl hl.1 rfl (Nat.le_of_ble_eq_true rfl) ⟨Nat.le_of_ble_eq_true rfl, Nat.le_of_ble_eq_true rfl⟩ dX5_as_10 hS (fun _ h => h) (fun H locs hX hS hfr => ?_)
    exact wI S hr hlk hs hX hS dX5_as_13
set_option maxRecDepth 100000 in
set_option maxHeartbeats 8000000 in
theorem c_X5_trace (l : Launch) (D : va_G) (G : Gc) (ad : Nat → Nat → Nat) (d : Dt) : Met l yX5_trace (wsU yX5_trace cX5_trace 1 (some .int)) ({ frames := 0, cells := 0, slots := 0, locals := 0 } : Room) (va_Pc [.ref (ad 0 0)] (XPre D (tysG G) (MF G ad) MN ad d)) (qV (some (.int (sp_X5_trace d)))) 0 0 (fun _ => False) := by
  refine ent (by decide +kernel) (Nat.le_of_ble_eq_true rfl) ?_
  intro p e s m below meth c S hr hlk hpre ls hl
  have S : CallFix p m c cX5_trace 1 s [.ref (ad 0 0)].toArray wsL_law RX5 := S
  obtain ⟨hK, hN, hX⟩ := hpre
  have hl : lv_has ls 1 [(0, .ref (ad 0 0))] := hl
  have hs := sp_X5_trace.eq_1 d
  refine lv_aload_n S.1 S.2.1 dX5_trace_0 rfl (lv_at hl 0 rfl) ?_
  refine gf_RX5_250 S hK hX (v := d.1 0 0 32) rfl dX5_trace_1 ?_
  exact rI S hr hlk hs dX5_trace_4
set_option maxRecDepth 100000 in
set_option maxHeartbeats 8000000 in
theorem c_X5_fault (l : Launch) (D : va_G) (G : Gc) (ad : Nat → Nat → Nat) (d : Dt) : Met l yX5_fault (wsU yX5_fault cX5_fault 1 (some .int)) ({ frames := 0, cells := 0, slots := 0, locals := 0 } : Room) (va_Pc [.ref (ad 0 0)] (XPre D (tysG G) (MF G ad) MN ad d)) (qV (some (.int (sp_X5_fault d)))) 0 0 (fun _ => False) := by
  refine ent (by decide +kernel) (Nat.le_of_ble_eq_true rfl) ?_
  intro p e s m below meth c S hr hlk hpre ls hl
  have S : CallFix p m c cX5_fault 1 s [.ref (ad 0 0)].toArray wsL_law RX5 := S
  obtain ⟨hK, hN, hX⟩ := hpre
  have hl : lv_has ls 1 [(0, .ref (ad 0 0))] := hl
  have hs := sp_X5_fault.eq_1 d
  refine lv_aload_n S.1 S.2.1 dX5_fault_0 rfl (lv_at hl 0 rfl) ?_
  refine gf_RX5_89 S hK hX (v := d.1 0 0 0) rfl dX5_fault_1 ?_
  exact rI S hr hlk hs dX5_fault_4
set_option maxRecDepth 100000 in
set_option maxHeartbeats 8000000 in
theorem c_X5_told (l : Launch) (D : va_G) (G : Gc) (ad : Nat → Nat → Nat) (d : Dt) (p1 : Int32) (hI : MI d) : Met l yX5_told (wsU yX5_told cX5_told 4 (some .int)) ({ frames := 1, cells := 0, slots := 0, locals := 25 } : Room) (va_Pc [.ref (ad 0 0), .int p1] (XPre D (tysG G) (MF G ad) MN ad d)) (qV (some (.int (sp_X5_told d p1)))) 0 0 (fun _ => False) := by
  refine ent (by decide +kernel) (Nat.le_of_ble_eq_true rfl) ?_
  intro p e s m below meth c S hr hlk hpre ls hl
  have S : CallFix p m c cX5_told 4 s [.ref (ad 0 0), .int p1].toArray wsL_law RX5 := S
  obtain ⟨hK, hN, hX⟩ := hpre
  have hl : lv_has ls 4 [(0, .ref (ad 0 0)), (1, .int p1)] := hl
  have hs := sp_X5_told.eq_1 d p1
  have q1 := hI.1
  have q2 := hI.2.2.1
  have q3 := hI.2.2.2.1
  have q4 := hI.2.2.2.2.1
  refine lv_iconst (v := 0) S.1 S.2.1 dX5_told_0 (by decide) ?_
  refine lv_istore_n (lv' := [(2, .int 0), (0, .ref (ad 0 0)), (1, .int p1)]) S.1 S.2.1 dX5_told_1 rfl hl (by decide) rfl (fun ls hl => ?_)
  refine lv_iload_n S.1 S.2.1 dX5_told_2 rfl (lv_at hl 2 rfl) ?_
  by_cases c1 : p1.toInt = 0
  · have hs := hs.trans (cif_t c1)
    refine lv_tableIn (tgt := 32) (off := 29) S.1 S.2.1 dX5_told_3 (by show ¬ p1.toInt < (0 : Int); omega) (by show ¬ (3 : Int) < p1.toInt; omega) (by rw [c1]; rfl) (by decide) ?_
    refine lv_aload_n S.1 S.2.1 dX5_told_32 rfl (lv_at hl 1 rfl) ?_
    refine gf_RX5_98 S hK hX (v := d.1 0 0 1) rfl dX5_told_33 ?_
    exact rI S hr hlk hs dX5_told_36
  · have hs := hs.trans (cif_f c1)
    by_cases c2 : p1.toInt = 1
    · have hs := hs.trans (cif_t c2)
      refine lv_tableIn (tgt := 37) (off := 34) S.1 S.2.1 dX5_told_3 (by show ¬ p1.toInt < (0 : Int); omega) (by show ¬ (3 : Int) < p1.toInt; omega) (by rw [c2]; rfl) (by decide) ?_
      refine lv_aload_n S.1 S.2.1 dX5_told_37 rfl (lv_at hl 1 rfl) ?_
      refine gf_RX5_176 S hK hX (v := d.1 0 0 17) rfl dX5_told_38 ?_
      exact rI S hr hlk hs dX5_told_41
    · have hs := hs.trans (cif_f c2)
      by_cases c3 : p1.toInt = 2
      · have hs := hs.trans (cif_t c3)
        refine lv_tableIn (tgt := 42) (off := 39) S.1 S.2.1 dX5_told_3 (by show ¬ p1.toInt < (0 : Int); omega) (by show ¬ (3 : Int) < p1.toInt; omega) (by rw [c3]; rfl) (by decide) ?_
        refine lv_iconst (v := 0) S.1 S.2.1 dX5_told_42 (by decide) ?_
        refine lv_istore_n (lv' := [(3, .int 0), (2, .int 0), (0, .ref (ad 0 0)), (1, .int p1)]) S.1 S.2.1 dX5_told_43 rfl hl (by decide) rfl (fun ls hl => ?_)
        have L44 : ∀ (n : Nat), ∀ (x3 : Int32) (x2 : Int32), (d.1 0 0 17).toInt - x3.toInt < (n : Int) → 0 ≤ x3.toInt → x3.toInt ≤ (d.1 0 0 17).toInt → sp_X5_told d p1 = lp_X5_told_44 d p1 n x3 x2 → ∀ ls : Array Slot, lv_has ls 4 [(3, .int x3), (2, .int x2), (0, .ref (ad 0 0)), (1, .int p1)] → W p l e ({ frames := 1, cells := 0, slots := 0, locals := 25 } : Room) s m [.ref (ad 0 0), .int p1].toArray below meth c s.heap [] 0 0 (MQ below (qV (some (.int (sp_X5_told d p1)))) [.ref (ad 0 0), .int p1].toArray s 0 0 (fun _ => False)) (F0 m 44 ls []) := by
          intro n
          induction n with
          | zero => intro x3 x2 hms v44_0 v44_1 hs ls hl; omega
          | succ n ih44 =>
            intro x3 x2 hms v44_0 v44_1 hs ls hl
            have hs := hs.trans (st_X5_told_44.eq_1 d p1 (lp_X5_told_44 d p1 n) x3 x2)
            refine lv_iload_n S.1 S.2.1 dX5_told_44 rfl (lv_at hl 0 rfl) ?_
            refine lv_aload_n S.1 S.2.1 dX5_told_45 rfl (lv_at hl 2 rfl) ?_
            refine gf_RX5_176 S hK hX (v := d.1 0 0 17) rfl dX5_told_46 ?_
            refine q_icmp_ge (tgt := 75) (xi := x3.toInt) (yi := (d.1 0 0 17).toInt) S rfl rfl dX5_told_49 (by decide) (fun c4 => ?_) (fun c4 => ?_)
            · have hs := hs.trans (cif_t c4)
              refine lv_iload_n S.1 S.2.1 dX5_told_75 rfl (lv_at hl 1 rfl) ?_
              exact rI S hr hlk hs dX5_told_76
            · have hs := hs.trans (cif_f c4)
              refine lv_iload_n S.1 S.2.1 dX5_told_52 rfl (lv_at hl 1 rfl) ?_
              refine lv_aload_n S.1 S.2.1 dX5_told_53 rfl (lv_at hl 2 rfl) ?_
              refine gf_RX5_59 S hK hX dX5_told_54 ?_
              refine lv_iload_n S.1 S.2.1 dX5_told_57 rfl (lv_at hl 0 rfl) ?_
              refine al_M24 S hK hX (by omega) (by omega) (z := d.1 24 0 (ix x3)) rfl dX5_told_58 ?_
              refine q_if_ge (tgt := 66) (xi := (d.1 24 0 (ix x3)).toInt) S rfl dX5_told_59 (by decide) (fun c5 => ?_) (fun c5 => ?_)
              · have hs := hs.trans (cif_t c5)
                refine lv_iconst (v := 0) S.1 S.2.1 dX5_told_66 (by decide) ?_
                refine lv_iadd S.1 S.2.1 dX5_told_67 ?_
                refine lv_istore_n (lv' := [(2, .int (x2 + 0)), (3, .int x3), (0, .ref (ad 0 0)), (1, .int p1)]) S.1 S.2.1 dX5_told_68 rfl hl (by decide) rfl (fun ls hl => ?_)
                refine lv_iinc (v := x3 + 1) (lv' := [(3, .int (x3 + 1)), (2, .int (x2 + 0)), (0, .ref (ad 0 0)), (1, .int p1)]) S.1 S.2.1 dX5_told_69 hl (k := 1) rfl (by rfl) (by decide) rfl (fun ls hl => ?_)
                refine lv_goto (tgt := 44) S.1 S.2.1 dX5_told_72 (by decide) ?_
                have e9 : ((x3 + 1)).toInt = x3.toInt + 1 := ti1 (by omega)
                exact ih44 (x3 + 1) (x2 + 0) (by omega) (by omega) (by omega) hs _ (lv_sub hl [0, 1, 2, 3] rfl)
              · have hs := hs.trans (cif_f c5)
                refine lv_iconst (v := 1) S.1 S.2.1 dX5_told_62 (by decide) ?_
                refine lv_goto (tgt := 67) S.1 S.2.1 dX5_told_63 (by decide) ?_
                refine lv_iadd S.1 S.2.1 dX5_told_67 ?_
                refine lv_istore_n (lv' := [(2, .int (x2 + 1)), (3, .int x3), (0, .ref (ad 0 0)), (1, .int p1)]) S.1 S.2.1 dX5_told_68 rfl hl (by decide) rfl (fun ls hl => ?_)
                refine lv_iinc (v := x3 + 1) (lv' := [(3, .int (x3 + 1)), (2, .int (x2 + 1)), (0, .ref (ad 0 0)), (1, .int p1)]) S.1 S.2.1 dX5_told_69 hl (k := 1) rfl (by rfl) (by decide) rfl (fun ls hl => ?_)
                refine lv_goto (tgt := 44) S.1 S.2.1 dX5_told_72 (by decide) ?_
                have e9 : ((x3 + 1)).toInt = x3.toInt + 1 := ti1 (by omega)
                exact ih44 (x3 + 1) (x2 + 1) (by omega) (by omega) (by omega) hs _ (lv_sub hl [0, 1, 2, 3] rfl)
        exact L44 64 0 0 (by first | omega | (simp only [Int32.toInt_zero]; omega)) (by first | omega | (simp only [Int32.toInt_zero]; omega)) (by first | omega | (simp only [Int32.toInt_zero]; omega)) hs _ (lv_sub hl [0, 1, 2, 3] rfl)
      · have hs := hs.trans (cif_f c3)
        by_cases c6 : p1.toInt = 3
        · have hs := hs.trans (cif_t c6)
          refine lv_tableIn (tgt := 77) (off := 74) S.1 S.2.1 dX5_told_3 (by show ¬ p1.toInt < (0 : Int); omega) (by show ¬ (3 : Int) < p1.toInt; omega) (by rw [c6]; rfl) (by decide) ?_
          refine lv_aload_n S.1 S.2.1 dX5_told_77 rfl (lv_at hl 1 rfl) ?_
          refine gf_RX5_80 S hK hX (v := d.1 0 0 26) rfl dX5_told_78 ?_
          exact rI S hr hlk hs dX5_told_81
        · have hs := hs.trans (cif_f c6)
          refine lv_tableOut (tgt := 82) S.1 S.2.1 dX5_told_3 (by show p1.toInt < (0 : Int) ∨ (3 : Int) < p1.toInt; omega) (by decide) ?_
          refine lv_iload_n S.1 S.2.1 dX5_told_82 rfl (lv_at hl 2 rfl) ?_
          refine lv_i2l S.1 S.2.1 dX5_told_83 rfl ?_
          refine lv_ldc2 S.1 S.2.1 S.2.2.2.1 (S.2.2.2.2 _ wKL_RX5_199) dX5_told_84 ?_
          refine lv_ldc2 S.1 S.2.1 S.2.2.2.1 (S.2.2.2.2 _ wKL_RX5_259) dX5_told_87 ?_
          refine lv_aload_n S.1 S.2.1 dX5_told_90 rfl (lv_at hl 1 rfl) ?_
          refine gf_RX5_98 S hK hX (v := d.1 0 0 1) rfl dX5_told_91 ?_
          refine lv_i2l S.1 S.2.1 dX5_told_94 rfl ?_
          refine lv_ladd S.1 S.2.1 dX5_told_95 ?_
          refine cPS (rest := []) S (c_X5_in l p1.toInt64 10 (9 + ((d.1 0 0 1).toInt64))) gS_RX5_101 ds_X5_in.2 ⟨rfl, rfl⟩ ⟨Nat.le_of_ble_eq_true rfl, Nat.le_of_ble_eq_true rfl⟩ rfl hl.1 rfl (Nat.le_of_ble_eq_true rfl) ⟨Nat.le_of_ble_eq_true rfl, Nat.le_of_ble_eq_true rfl⟩ dX5_told_96 ?_
          refine q_if_eq_b (tgt := 114) S dX5_told_99 (by decide) (fun c8 => ?_) (fun c8 => ?_)
          · have hs := hs.trans (cif_f c8)
            refine lv_bipush (v := (-2)) S.1 S.2.1 dX5_told_114 (by decide) ?_
            exact rI S hr hlk hs dX5_told_116
          · have hs := hs.trans (cif_t c8)
            have g1 := td_of (m := p1) hI (by assumption)
            refine lv_aload_n S.1 S.2.1 dX5_told_102 rfl (lv_at hl 1 rfl) ?_
            refine gf_RX5_13 S hK hX dX5_told_103 ?_
            refine lv_iload_n S.1 S.2.1 dX5_told_106 rfl (lv_at hl 2 rfl) ?_
            refine lv_bipush (v := 10) S.1 S.2.1 dX5_told_107 (by decide) ?_
            refine lv_isub S.1 S.2.1 dX5_told_109 ?_
            refine al_M3 S hK hX (by omega) (by omega) (z := d.1 3 0 (ix (p1 - 10))) rfl dX5_told_110 ?_
            have f9 := hI.mn (x := (p1 - 10)) (by omega) (by omega)
            refine lv_goto (tgt := 116) S.1 S.2.1 dX5_told_111 (by decide) ?_
            exact rI S hr hlk hs dX5_told_116
