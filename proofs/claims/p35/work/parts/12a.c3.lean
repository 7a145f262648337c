set_option maxRecDepth 100000 in
set_option maxHeartbeats 8000000 in
theorem c_X5_in (l : Launch) (p0 : Int64) (p2 : Int64) (p4 : Int64) : Met l yX5_in (wsU yX5_in cX5_in 6 (some .boolean)) ({ frames := 0, cells := 0, slots := 0, locals := 0 } : Room) (va_Pc [.long p0, .long p2, .long p4] (fun _ => True)) (qV (some (.int (b2i (sp_X5_in p0 p2 p4))))) 0 0 (fun _ => False) := by
  refine ent (by decide +kernel) (Nat.le_of_ble_eq_true rfl) ?_
  intro p e s m below meth c S hr hlk hpre ls hl
  have S : CallFix p m c cX5_in 6 s [.long p0, .long p2, .long p4].toArray wsL_law RX5 := S
  have hl : lv_has ls 6 [(0, .long p0), (2, .long p2), (4, .long p4)] := hl
  have hs := sp_X5_in.eq_1 p0 p2 p4
  refine lv_lload_n S.1 S.2.1 dX5_in_0 rfl (lv_at hl 0 rfl) ?_
  refine lv_lload_n S.1 S.2.1 dX5_in_1 rfl (lv_at hl 1 rfl) ?_
  refine q_lcmp_lt (tgt := 17) (xi := p0.toInt) (yi := p2.toInt) S rfl rfl dX5_in_2 dX5_in_3 (by decide) (fun c1 => ?_) (fun c1 => ?_)
  · have hs := hs.trans (cif_t c1)
    refine lv_iconst (v := 0) S.1 S.2.1 dX5_in_17 (by decide) ?_
    exact rZ S hr hlk hs b2i_F.symm dX5_in_18
  · have hs := hs.trans (cif_f c1)
    refine lv_lload_n S.1 S.2.1 dX5_in_6 rfl (lv_at hl 0 rfl) ?_
    refine lv_lload S.1 S.2.1 dX5_in_7 (lv_at hl 2 rfl) ?_
    refine q_lcmp_gt (tgt := 17) (xi := p0.toInt) (yi := p4.toInt) S rfl rfl dX5_in_9 dX5_in_10 (by decide) (fun c2 => ?_) (fun c2 => ?_)
    · have hs := hs.trans (cif_t c2)
      refine lv_iconst (v := 0) S.1 S.2.1 dX5_in_17 (by decide) ?_
      exact rZ S hr hlk hs b2i_F.symm dX5_in_18
    · have hs := hs.trans (cif_f c2)
      refine lv_iconst (v := 1) S.1 S.2.1 dX5_in_13 (by decide) ?_
      refine lv_goto (tgt := 18) S.1 S.2.1 dX5_in_14 (by decide) ?_
      exact rZ S hr hlk hs b2i_T.symm dX5_in_18
set_option maxRecDepth 100000 in
set_option maxHeartbeats 8000000 in
theorem c_X5_lost (l : Launch) : Met l yX5_lost (wsU yX5_lost cX5_lost 0 (some .long)) ({ frames := 0, cells := 0, slots := 0, locals := 0 } : Room) (va_Pc [] (fun _ => True)) (qV (some (.long sp_X5_lost))) 0 0 (fun _ => False) := by
  refine ent (by decide +kernel) (Nat.le_of_ble_eq_true rfl) ?_
  intro p e s m below meth c S hr hlk hpre ls hl
  have S : CallFix p m c cX5_lost 0 s [].toArray wsL_law RX5 := S
  have hl : lv_has ls 0 [] := hl
  have hs := sp_X5_lost.eq_1
  refine lv_ldc2 S.1 S.2.1 S.2.2.2.1 (S.2.2.2.2 _ wKL_RX5_87) dX5_lost_0 ?_
  exact rL S hr hlk hs dX5_lost_3
set_option maxRecDepth 100000 in
set_option maxHeartbeats 8000000 in
theorem c_X5_refused (l : Launch) (D : va_G) (G : Gc) (ad : Nat → Nat → Nat) (d : Dt) (p1 : Int32) : Met l yX5_refused (wsU yX5_refused cX5_refused 2 (some .int)) ({ frames := 0, cells := 0, slots := 0, locals := 0 } : Room) (va_Pc [.ref (ad 0 0), .int p1] (XPre D (tysG G) (MF G ad) MN ad d)) (qW (some (.int (sp_X5_refused d p1).1)) D (MF G ad) MN ad (sp_X5_refused d p1).2) 0 0 (adS MN ad) := by
  refine ent (by decide +kernel) (Nat.le_of_ble_eq_true rfl) ?_
  intro p e s m below meth c S hr hlk hpre ls hl
  have S : CallFix p m c cX5_refused 2 s [.ref (ad 0 0), .int p1].toArray wsL_law RX5 := S
  obtain ⟨hK, hN, hX⟩ := hpre
  have hl : lv_has ls 2 [(0, .ref (ad 0 0)), (1, .int p1)] := hl
  have hs := sp_X5_refused.eq_1 d p1
  have hS : va_S (adS MN ad) s.heap s.heap [] := va_S.rf
  refine lv_aload_n S.1 S.2.1 dX5_refused_0 rfl (lv_at hl 0 rfl) ?_
  refine lv_iconst (v := 0) S.1 S.2.1 dX5_refused_1 (by decide) ?_
  refine pf_RX5_89 S hK hX hS dX5_refused_2 (fun H locs hX hS => ?_)
  refine lv_iload_n S.1 S.2.1 dX5_refused_5 rfl (lv_at hl 1 rfl) ?_
  exact wI S hr hlk hs hX hS dX5_refused_6
set_option maxRecDepth 100000 in
set_option maxHeartbeats 8000000 in
theorem c_X5_failed (l : Launch) (D : va_G) (G : Gc) (ad : Nat → Nat → Nat) (d : Dt) (p1 : Int32) : Met l yX5_failed (wsU yX5_failed cX5_failed 2 (some .int)) ({ frames := 0, cells := 0, slots := 0, locals := 0 } : Room) (va_Pc [.ref (ad 0 0), .int p1] (XPre D (tysG G) (MF G ad) MN ad d)) (qW (some (.int (sp_X5_failed d p1).1)) D (MF G ad) MN ad (sp_X5_failed d p1).2) 0 0 (adS MN ad) := by
  refine ent (by decide +kernel) (Nat.le_of_ble_eq_true rfl) ?_
  intro p e s m below meth c S hr hlk hpre ls hl
  have S : CallFix p m c cX5_failed 2 s [.ref (ad 0 0), .int p1].toArray wsL_law RX5 := S
  obtain ⟨hK, hN, hX⟩ := hpre
  have hl : lv_has ls 2 [(0, .ref (ad 0 0)), (1, .int p1)] := hl
  have hs := sp_X5_failed.eq_1 d p1
  have hS : va_S (adS MN ad) s.heap s.heap [] := va_S.rf
  refine lv_aload_n S.1 S.2.1 dX5_failed_0 rfl (lv_at hl 0 rfl) ?_
  refine lv_iload_n S.1 S.2.1 dX5_failed_1 rfl (lv_at hl 1 rfl) ?_
  refine pf_RX5_89 S hK hX hS dX5_failed_2 (fun H locs hX hS => ?_)
  refine lv_bipush (v := (-10)) S.1 S.2.1 dX5_failed_5 (by decide) ?_
  refine lv_iload_n S.1 S.2.1 dX5_failed_7 rfl (lv_at hl 1 rfl) ?_
  refine lv_isub S.1 S.2.1 dX5_failed_8 ?_
  exact wI S hr hlk hs hX hS dX5_failed_9
set_option maxRecDepth 100000 in
set_option maxHeartbeats 8000000 in
theorem c_X5_failedLong (l : Launch) (D : va_G) (G : Gc) (ad : Nat → Nat → Nat) (d : Dt) (p1 : Int32) : Met l yX5_failedLong (wsU yX5_failedLong cX5_failedLong 2 (some .long)) ({ frames := 1, cells := 0, slots := 0, locals := 19 } : Room) (va_Pc [.ref (ad 0 0), .int p1] (XPre D (tysG G) (MF G ad) MN ad d)) (qW (some (.long (sp_X5_failedLong d p1).1)) D (MF G ad) MN ad (sp_X5_failedLong d p1).2) 0 0 (adS MN ad) := by
  refine ent (by decide +kernel) (Nat.le_of_ble_eq_true rfl) ?_
  intro p e s m below meth c S hr hlk hpre ls hl
  have S : CallFix p m c cX5_failedLong 2 s [.ref (ad 0 0), .int p1].toArray wsL_law RX5 := S
  obtain ⟨hK, hN, hX⟩ := hpre
  have hl : lv_has ls 2 [(0, .ref (ad 0 0)), (1, .int p1)] := hl
  have hs := sp_X5_failedLong.eq_1 d p1
  have hS : va_S (adS MN ad) s.heap s.heap [] := va_S.rf
  refine lv_aload_n S.1 S.2.1 dX5_failedLong_0 rfl (lv_at hl 0 rfl) ?_
  refine lv_iload_n S.1 S.2.1 dX5_failedLong_1 rfl (lv_at hl 1 rfl) ?_
  refine pf_RX5_89 S hK hX hS dX5_failedLong_2 (fun H locs hX hS => ?_)
  refine cPS (rest := []) S (c_X5_lost l) gS_RX5_92 ds_X5_lost.2 ⟨rfl, rfl⟩ ⟨Nat.le_of_ble_eq_true rfl, Nat.le_of_ble_eq_true rfl⟩ rfl hl.1 rfl (Nat.le_of_ble_eq_true rfl) ⟨Nat.le_of_ble_eq_true rfl, Nat.le_of_ble_eq_true rfl⟩ dX5_failedLong_5 ?_
  exact wL S hr hlk hs hX hS dX5_failedLong_8
set_option maxRecDepth 100000 in
set_option maxHeartbeats 8000000 in
theorem c_X5_rounded (l : Launch) (p0 : Int64) (p2 : Int64) (hd : 0 < p2.toInt) : Met l yX5_rounded (wsU yX5_rounded cX5_rounded 4 (some .long)) ({ frames := 0, cells := 0, slots := 0, locals := 0 } : Room) (va_Pc [.long p0, .long p2] (fun _ => True)) (qV (some (.long (sp_X5_rounded p0 p2)))) 0 0 (fun _ => False) := by
  refine ent (by decide +kernel) (Nat.le_of_ble_eq_true rfl) ?_
  intro p e s m below meth c S hr hlk hpre ls hl
  have S : CallFix p m c cX5_rounded 4 s [.long p0, .long p2].toArray wsL_law RX5 := S
  have hl : lv_has ls 4 [(0, .long p0), (2, .long p2)] := hl
  have hs := sp_X5_rounded.eq_1 p0 p2
  refine lv_ldc2 S.1 S.2.1 S.2.2.2.1 (S.2.2.2.2 _ wKL_RX5_96) dX5_rounded_0 ?_
  refine lv_lload_n S.1 S.2.1 dX5_rounded_3 rfl (lv_at hl 0 rfl) ?_
  refine lv_lmul S.1 S.2.1 dX5_rounded_4 ?_
  refine lv_lload_n S.1 S.2.1 dX5_rounded_5 rfl (lv_at hl 1 rfl) ?_
  refine lv_ladd S.1 S.2.1 dX5_rounded_6 ?_
  refine lv_ldc2 S.1 S.2.1 S.2.2.2.1 (S.2.2.2.2 _ wKL_RX5_96) dX5_rounded_7 ?_
  refine lv_lload_n S.1 S.2.1 dX5_rounded_10 rfl (lv_at hl 1 rfl) ?_
  refine lv_lmul S.1 S.2.1 dX5_rounded_11 ?_
  refine lv_ldiv S.1 S.2.1 dX5_rounded_12 (nz2 hd) ?_
  exact rL S hr hlk hs dX5_rounded_13
set_option maxRecDepth 100000 in
set_option maxHeartbeats 8000000 in
theorem c_X5_noMeter (l : Launch) (D : va_G) (G : Gc) (ad : Nat → Nat → Nat) (d : Dt) (p1 : Int32) : Met l yX5_noMeter (wsU yX5_noMeter cX5_noMeter 2 (some .boolean)) ({ frames := 1, cells := 0, slots := 0, locals := 25 } : Room) (va_Pc [.ref (ad 0 0), .int p1] (XPre D (tysG G) (MF G ad) MN ad d)) (qV (some (.int (b2i (sp_X5_noMeter d p1))))) 0 0 (fun _ => False) := by
  refine ent (by decide +kernel) (Nat.le_of_ble_eq_true rfl) ?_
  intro p e s m below meth c S hr hlk hpre ls hl
  have S : CallFix p m c cX5_noMeter 2 s [.ref (ad 0 0), .int p1].toArray wsL_law RX5 := S
  obtain ⟨hK, hN, hX⟩ := hpre
  have hl : lv_has ls 2 [(0, .ref (ad 0 0)), (1, .int p1)] := hl
  have hs := sp_X5_noMeter.eq_1 d p1
  refine lv_iload_n S.1 S.2.1 dX5_noMeter_0 rfl (lv_at hl 1 rfl) ?_
  refine lv_i2l S.1 S.2.1 dX5_noMeter_1 rfl ?_
  refine lv_lconst (v := 0) S.1 S.2.1 dX5_noMeter_2 (by decide) ?_
  refine lv_aload_n S.1 S.2.1 dX5_noMeter_3 rfl (lv_at hl 0 rfl) ?_
  refine gf_RX5_98 S hK hX (v := d.1 0 0 1) rfl dX5_noMeter_4 ?_
  refine lv_i2l S.1 S.2.1 dX5_noMeter_7 rfl ?_
  refine lv_lconst (v := 1) S.1 S.2.1 dX5_noMeter_8 (by decide) ?_
  refine lv_lsub S.1 S.2.1 dX5_noMeter_9 ?_
  refine cPS (rest := []) S (c_X5_in l p1.toInt64 0 (((d.1 0 0 1).toInt64) - 1)) gS_RX5_101 ds_X5_in.2 ⟨rfl, rfl⟩ ⟨Nat.le_of_ble_eq_true rfl, Nat.le_of_ble_eq_true rfl⟩ rfl hl.1 rfl (Nat.le_of_ble_eq_true rfl) ⟨Nat.le_of_ble_eq_true rfl, Nat.le_of_ble_eq_true rfl⟩ dX5_noMeter_10 ?_
  refine q_if_ne_b (tgt := 20) S dX5_noMeter_13 (by decide) (fun c1 => ?_) (fun c1 => ?_)
  · have hs := hs.trans (cif_t c1)
    refine lv_iconst (v := 0) S.1 S.2.1 dX5_noMeter_20 (by decide) ?_
    exact rZ S hr hlk hs b2i_F.symm dX5_noMeter_21
  · have hs := hs.trans (cif_f c1)
    refine lv_iconst (v := 1) S.1 S.2.1 dX5_noMeter_16 (by decide) ?_
    refine lv_goto (tgt := 21) S.1 S.2.1 dX5_noMeter_17 (by decide) ?_
    exact rZ S hr hlk hs b2i_T.symm dX5_noMeter_21
set_option maxRecDepth 100000 in
set_option maxHeartbeats 8000000 in
theorem c_X5_isDay (l : Launch) (p0 : Int32) : Met l yX5_isDay (wsU yX5_isDay cX5_isDay 1 (some .boolean)) ({ frames := 1, cells := 0, slots := 0, locals := 25 } : Room) (va_Pc [.int p0] (fun _ => True)) (qV (some (.int (b2i (sp_X5_isDay p0))))) 0 0 (fun _ => False) := by
  refine ent (by decide +kernel) (Nat.le_of_ble_eq_true rfl) ?_
  intro p e s m below meth c S hr hlk hpre ls hl
  have S : CallFix p m c cX5_isDay 1 s [.int p0].toArray wsL_law RX5 := S
  have hl : lv_has ls 1 [(0, .int p0)] := hl
  have hs := sp_X5_isDay.eq_1 p0
  refine lv_iload_n S.1 S.2.1 dX5_isDay_0 rfl (lv_at hl 0 rfl) ?_
  refine lv_i2l S.1 S.2.1 dX5_isDay_1 rfl ?_
  refine lv_lconst (v := 0) S.1 S.2.1 dX5_isDay_2 (by decide) ?_
  refine lv_ldc2 S.1 S.2.1 S.2.2.2.1 (S.2.2.2.2 _ wKL_RX5_105) dX5_isDay_3 ?_
  refine cPS (rest := []) S (c_X5_in l p0.toInt64 0 400) gS_RX5_101 ds_X5_in.2 ⟨rfl, rfl⟩ ⟨Nat.le_of_ble_eq_true rfl, Nat.le_of_ble_eq_true rfl⟩ rfl hl.1 rfl (Nat.le_of_ble_eq_true rfl) ⟨Nat.le_of_ble_eq_true rfl, Nat.le_of_ble_eq_true rfl⟩ dX5_isDay_6 ?_
  exact rZ S hr hlk hs rfl dX5_isDay_9
set_option maxRecDepth 100000 in
set_option maxHeartbeats 8000000 in
theorem c_X5_isFlow (l : Launch) (p0 : Int32) : Met l yX5_isFlow (wsU yX5_isFlow cX5_isFlow 1 (some .boolean)) ({ frames := 1, cells := 0, slots := 0, locals := 25 } : Room) (va_Pc [.int p0] (fun _ => True)) (qV (some (.int (b2i (sp_X5_isFlow p0))))) 0 0 (fun _ => False) := by
  refine ent (by decide +kernel) (Nat.le_of_ble_eq_true rfl) ?_
  intro p e s m below meth c S hr hlk hpre ls hl
  have S : CallFix p m c cX5_isFlow 1 s [.int p0].toArray wsL_law RX5 := S
  have hl : lv_has ls 1 [(0, .int p0)] := hl
  have hs := sp_X5_isFlow.eq_1 p0
  refine lv_iload_n S.1 S.2.1 dX5_isFlow_0 rfl (lv_at hl 0 rfl) ?_
  refine lv_i2l S.1 S.2.1 dX5_isFlow_1 rfl ?_
  refine lv_lconst (v := 1) S.1 S.2.1 dX5_isFlow_2 (by decide) ?_
  refine lv_ldc2 S.1 S.2.1 S.2.2.2.1 (S.2.2.2.2 _ wKL_RX5_107) dX5_isFlow_3 ?_
  refine cPS (rest := []) S (c_X5_in l p0.toInt64 1 10000) gS_RX5_101 ds_X5_in.2 ⟨rfl, rfl⟩ ⟨Nat.le_of_ble_eq_true rfl, Nat.le_of_ble_eq_true rfl⟩ rfl hl.1 rfl (Nat.le_of_ble_eq_true rfl) ⟨Nat.le_of_ble_eq_true rfl, Nat.le_of_ble_eq_true rfl⟩ dX5_isFlow_6 ?_
  exact rZ S hr hlk hs rfl dX5_isFlow_9
set_option maxRecDepth 100000 in
set_option maxHeartbeats 8000000 in
theorem c_X5_isNumber (l : Launch) (p0 : Int64) : Met l yX5_isNumber (wsU yX5_isNumber cX5_isNumber 2 (some .boolean)) ({ frames := 1, cells := 0, slots := 0, locals := 25 } : Room) (va_Pc [.long p0] (fun _ => True)) (qV (some (.int (b2i (sp_X5_isNumber p0))))) 0 0 (fun _ => False) := by
  refine ent (by decide +kernel) (Nat.le_of_ble_eq_true rfl) ?_
  intro p e s m below meth c S hr hlk hpre ls hl
  have S : CallFix p m c cX5_isNumber 2 s [.long p0].toArray wsL_law RX5 := S
  have hl : lv_has ls 2 [(0, .long p0)] := hl
  have hs := sp_X5_isNumber.eq_1 p0
  refine lv_lload_n S.1 S.2.1 dX5_isNumber_0 rfl (lv_at hl 0 rfl) ?_
  refine lv_ldc2 S.1 S.2.1 S.2.2.2.1 (S.2.2.2.2 _ wKL_RX5_109) dX5_isNumber_1 ?_
  refine lv_ldc2 S.1 S.2.1 S.2.2.2.1 (S.2.2.2.2 _ wKL_RX5_111) dX5_isNumber_4 ?_
  refine cPS (rest := []) S (c_X5_in l p0 95000 105000) gS_RX5_101 ds_X5_in.2 ⟨rfl, rfl⟩ ⟨Nat.le_of_ble_eq_true rfl, Nat.le_of_ble_eq_true rfl⟩ rfl hl.1 rfl (Nat.le_of_ble_eq_true rfl) ⟨Nat.le_of_ble_eq_true rfl, Nat.le_of_ble_eq_true rfl⟩ dX5_isNumber_7 ?_
  exact rZ S hr hlk hs rfl dX5_isNumber_10
set_option maxRecDepth 100000 in
set_option maxHeartbeats 8000000 in
theorem c_X5_meter (l : Launch) (D : va_G) (G : Gc) (ad : Nat → Nat → Nat) (d : Dt) (p1 : Int32) (hI : MI d) : Met l yX5_meter (wsU yX5_meter cX5_meter 2 (some .int)) ({ frames := 1, cells := 0, slots := 0, locals := 25 } : Room) (va_Pc [.ref (ad 0 0), .int p1] (XPre D (tysG G) (MF G ad) MN ad d)) (qW (some (.int (sp_X5_meter d p1).1)) D (MF G ad) MN ad (sp_X5_meter d p1).2) 0 0 (adS MN ad) := by
  refine ent (by decide +kernel) (Nat.le_of_ble_eq_true rfl) ?_
  intro p e s m below meth c S hr hlk hpre ls hl
  have S : CallFix p m c cX5_meter 2 s [.ref (ad 0 0), .int p1].toArray wsL_law RX5 := S
  obtain ⟨hK, hN, hX⟩ := hpre
  have hl : lv_has ls 2 [(0, .ref (ad 0 0)), (1, .int p1)] := hl
  have hs := sp_X5_meter.eq_1 d p1
  have hS : va_S (adS MN ad) s.heap s.heap [] := va_S.rf
  have q1 := hI.1
  have q2 := hI.2.2.1
  have q3 := hI.2.2.2.1
  have q4 := hI.2.2.2.2.1
  refine lv_iload_n S.1 S.2.1 dX5_meter_0 rfl (lv_at hl 1 rfl) ?_
  refine lv_i2l S.1 S.2.1 dX5_meter_1 rfl ?_
  refine lv_lconst (v := 1) S.1 S.2.1 dX5_meter_2 (by decide) ?_
  refine lv_ldc2 S.1 S.2.1 S.2.2.2.1 (S.2.2.2.2 _ wKL_RX5_113) dX5_meter_3 ?_
  refine cPS (rest := []) S (c_X5_in l p1.toInt64 1 100000) gS_RX5_101 ds_X5_in.2 ⟨rfl, rfl⟩ ⟨Nat.le_of_ble_eq_true rfl, Nat.le_of_ble_eq_true rfl⟩ rfl hl.1 rfl (Nat.le_of_ble_eq_true rfl) ⟨Nat.le_of_ble_eq_true rfl, Nat.le_of_ble_eq_true rfl⟩ dX5_meter_6 ?_
  refine q_if_ne_b (tgt := 15) S dX5_meter_9 (by decide) (fun c1 => ?_) (fun c1 => ?_)
  · have hs := hs.trans (cif_t c1)
    refine lv_aload_n S.1 S.2.1 dX5_meter_15 rfl (lv_at hl 0 rfl) ?_
    refine gf_RX5_98 S hK hX (v := d.1 0 0 1) rfl dX5_meter_16 ?_
    refine lv_bipush (v := 6) S.1 S.2.1 dX5_meter_19 (by decide) ?_
    refine q_icmp_ne (tgt := 27) (xi := (d.1 0 0 1).toInt) (yi := 6) S rfl rfl dX5_meter_21 (by decide) (fun c2 => ?_) (fun c2 => ?_)
    · have hs := hs.trans (cif_f c2)
      refine lv_aload_n S.1 S.2.1 dX5_meter_27 rfl (lv_at hl 0 rfl) ?_
      refine gf_RX5_7 S hK hX dX5_meter_28 ?_
      refine lv_aload_n S.1 S.2.1 dX5_meter_31 rfl (lv_at hl 0 rfl) ?_
      refine gf_RX5_98 S hK hX (v := d.1 0 0 1) rfl dX5_meter_32 ?_
      refine lv_iload_n S.1 S.2.1 dX5_meter_35 rfl (lv_at hl 1 rfl) ?_
      refine as_M2 S hK hX hS (by omega) (by omega) dX5_meter_36 (fun H locs hX hS => ?_)
      refine lv_aload_n S.1 S.2.1 dX5_meter_37 rfl (lv_at hl 0 rfl) ?_
      refine lv_dup S.1 S.2.1 dX5_meter_38 rfl ?_
      refine gf_RX5_98 S hK hX (v := d.1 0 0 1) rfl dX5_meter_39 ?_
      refine lv_iconst (v := 1) S.1 S.2.1 dX5_meter_42 (by decide) ?_
      refine lv_iadd S.1 S.2.1 dX5_meter_43 ?_
      refine pf_RX5_98 S hK hX hS dX5_meter_44 (fun H locs hX hS => ?_)
      refine lv_aload_n S.1 S.2.1 dX5_meter_47 rfl (lv_at hl 0 rfl) ?_
      refine gf_RX5_98 S hK hX (v := (d.1 0 0 1) + 1) rfl dX5_meter_48 ?_
      refine lv_iconst (v := 1) S.1 S.2.1 dX5_meter_51 (by decide) ?_
      refine lv_isub S.1 S.2.1 dX5_meter_52 ?_
      exact wI S hr hlk hs hX hS dX5_meter_53
    · have hs := hs.trans (cif_t c2)
      refine lv_bipush (v := (-4)) S.1 S.2.1 dX5_meter_24 (by decide) ?_
      exact wI S hr hlk hs hX hS dX5_meter_26
  · have hs := hs.trans (cif_f c1)
    refine lv_bipush (v := (-2)) S.1 S.2.1 dX5_meter_12 (by decide) ?_
    exact wI S hr hlk hs hX hS dX5_meter_14
set_option maxRecDepth 100000 in
set_option maxHeartbeats 8000000 in
theorem c_X5_addFactor (l : Launch) (D : va_G) (G : Gc) (ad : Nat → Nat → Nat) (d : Dt) (p1 : Int32) (p2 : Int32) (p3 : Int32) (p4 : Int32) (h0 : 0 ≤ p1.toInt) (h1 : p1.toInt < 6) (h2 : 0 ≤ (d.1 3 0 (ix p1)).toInt) (h3 : (d.1 3 0 (ix p1)).toInt ≤ 11) : Met l yX5_addFactor (wsU yX5_addFactor cX5_addFactor 6 none) ({ frames := 0, cells := 0, slots := 0, locals := 0 } : Room) (va_Pc [.ref (ad 0 0), .int p1, .int p2, .int p3, .int p4] (XPre D (tysG G) (MF G ad) MN ad d)) (qW none D (MF G ad) MN ad (sp_X5_addFactor d p1 p2 p3 p4)) 0 0 (adS MN ad) := by
  refine ent (by decide +kernel) (Nat.le_of_ble_eq_true rfl) ?_
  intro p e s m below meth c S hr hlk hpre ls hl
  have S : CallFix p m c cX5_addFactor 6 s [.ref (ad 0 0), .int p1, .int p2, .int p3, .int p4].toArray wsL_law RX5 := S
  obtain ⟨hK, hN, hX⟩ := hpre
  have hl : lv_has ls 6 [(0, .ref (ad 0 0)), (1, .int p1), (2, .int p2), (3, .int p3), (4, .int p4)] := hl
  have hs := sp_X5_addFactor.eq_1 d p1 p2 p3 p4
  have hS : va_S (adS MN ad) s.heap s.heap [] := va_S.rf
  have e1 := lin (a := 12) (z := 12) (x := p1) (y := d.1 3 0 (ix p1)) rfl (by omega) (by omega) (by omega)
  refine lv_bipush (v := 12) S.1 S.2.1 dX5_addFactor_0 (by decide) ?_
  refine lv_iload_n S.1 S.2.1 dX5_addFactor_2 rfl (lv_at hl 1 rfl) ?_
  refine lv_imul S.1 S.2.1 dX5_addFactor_3 ?_
  refine lv_aload_n S.1 S.2.1 dX5_addFactor_4 rfl (lv_at hl 0 rfl) ?_
  refine gf_RX5_13 S hK hX dX5_addFactor_5 ?_
  refine lv_iload_n S.1 S.2.1 dX5_addFactor_8 rfl (lv_at hl 1 rfl) ?_
  refine al_M3 S hK hX (by omega) (by omega) (z := d.1 3 0 (ix p1)) rfl dX5_addFactor_9 ?_
  refine lv_iadd S.1 S.2.1 dX5_addFactor_10 ?_
  refine lv_istore (lv' := [(5, .int ((12 * p1) + (d.1 3 0 (ix p1)))), (0, .ref (ad 0 0)), (1, .int p1), (2, .int p2), (3, .int p3), (4, .int p4)]) S.1 S.2.1 dX5_addFactor_11 hl (by decide) rfl (fun ls hl => ?_)
  refine lv_aload_n S.1 S.2.1 dX5_addFactor_13 rfl (lv_at hl 1 rfl) ?_
  refine gf_RX5_16 S hK hX dX5_addFactor_14 ?_
  refine lv_iload S.1 S.2.1 dX5_addFactor_17 (lv_at hl 0 rfl) ?_
  refine lv_iload_n S.1 S.2.1 dX5_addFactor_19 rfl (lv_at hl 3 rfl) ?_
  refine as_M4 S hK hX hS (by omega) (by omega) dX5_addFactor_20 (fun H locs hX hS => ?_)
  refine lv_aload_n S.1 S.2.1 dX5_addFactor_21 rfl (lv_at hl 1 rfl) ?_
  refine gf_RX5_19 S hK hX dX5_addFactor_22 ?_
  refine lv_iload S.1 S.2.1 dX5_addFactor_25 (lv_at hl 0 rfl) ?_
  refine lv_iload_n S.1 S.2.1 dX5_addFactor_27 rfl (lv_at hl 4 rfl) ?_
  refine as_M5 S hK hX hS (by omega) (by omega) dX5_addFactor_28 (fun H locs hX hS => ?_)
  refine lv_aload_n S.1 S.2.1 dX5_addFactor_29 rfl (lv_at hl 1 rfl) ?_
  refine gf_RX5_22 S hK hX dX5_addFactor_30 ?_
  refine lv_iload S.1 S.2.1 dX5_addFactor_33 (lv_at hl 0 rfl) ?_
  refine lv_iload S.1 S.2.1 dX5_addFactor_35 (lv_at hl 5 rfl) ?_
  refine as_M6 S hK hX hS (by omega) (by omega) dX5_addFactor_37 (fun H locs hX hS => ?_)
  refine lv_aload_n S.1 S.2.1 dX5_addFactor_38 rfl (lv_at hl 1 rfl) ?_
  refine gf_RX5_13 S hK hX dX5_addFactor_39 ?_
  refine lv_iload_n S.1 S.2.1 dX5_addFactor_42 rfl (lv_at hl 2 rfl) ?_
  refine lv_dup2_11 S.1 S.2.1 dX5_addFactor_43 rfl rfl ?_
  refine al_M3 S hK hX (by omega) (by omega) (z := d.1 3 0 (ix p1)) rfl dX5_addFactor_44 ?_
  refine lv_iconst (v := 1) S.1 S.2.1 dX5_addFactor_45 (by decide) ?_
  refine lv_iadd S.1 S.2.1 dX5_addFactor_46 ?_
  refine as_M3 S hK hX hS (by omega) (by omega) dX5_addFactor_47 (fun H locs hX hS => ?_)
  exact wV S hr hlk hs hX hS dX5_addFactor_48
set_option maxRecDepth 100000 in
set_option maxHeartbeats 8000000 in
theorem c_X5_factor (l : Launch) (D : va_G) (G : Gc) (ad : Nat → Nat → Nat) (d : Dt) (p1 : Int32) (p2 : Int32) (p3 : Int32) (p4 : Int32) (hI : MI d) : Met l yX5_factor (wsU yX5_factor cX5_factor 5 (some .int)) ({ frames := 2, cells := 0, slots := 0, locals := 46 } : Room) (va_Pc [.ref (ad 0 0), .int p1, .int p2, .int p3, .int p4] (XPre D (tysG G) (MF G ad) MN ad d)) (qW (some (.int (sp_X5_factor d p1 p2 p3 p4).1)) D (MF G ad) MN ad (sp_X5_factor d p1 p2 p3 p4).2) 0 0 (adS MN ad) := by
  refine ent (by decide +kernel) (Nat.le_of_ble_eq_true rfl) ?_
  intro p e s m below meth c S hr hlk hpre ls hl
  have S : CallFix p m c cX5_factor 5 s [.ref (ad 0 0), .int p1, .int p2, .int p3, .int p4].toArray wsL_law RX5 := S
  obtain ⟨hK, hN, hX⟩ := hpre
  have hl : lv_has ls 5 [(0, .ref (ad 0 0)), (1, .int p1), (2, .int p2), (3, .int p3), (4, .int p4)] := hl
  have hs := sp_X5_factor.eq_1 d p1 p2 p3 p4
  have hS : va_S (adS MN ad) s.heap s.heap [] := va_S.rf
  have q1 := hI.1
  have q2 := hI.2.2.1
  have q3 := hI.2.2.2.1
  have q4 := hI.2.2.2.2.1
  refine lv_aload_n S.1 S.2.1 dX5_factor_0 rfl (lv_at hl 0 rfl) ?_
  refine lv_iload_n S.1 S.2.1 dX5_factor_1 rfl (lv_at hl 1 rfl) ?_
  refine cPV (rest := []) S (c_X5_noMeter l D G ad d p1) gV_RX5_115 ds_X5_noMeter ⟨rfl, rfl⟩ ⟨Nat.le_of_ble_eq_true rfl, Nat.le_of_ble_eq_true rfl⟩ ⟨blindX, recvX hK hX (k := 0) (i := 0) Nat.zero_lt_one rfl rfl, preX hK hN hX _⟩ rfl hl.1 rfl (Nat.le_of_ble_eq_true rfl) ⟨Nat.le_of_ble_eq_true rfl, Nat.le_of_ble_eq_true rfl⟩ dX5_factor_2 ?_
  refine q_if_eq_b (tgt := 10) S dX5_factor_5 (by decide) (fun c1 => ?_) (fun c1 => ?_)
  · have hs := hs.trans (cif_f c1)
    have f2 := nm_of hI c1
    refine lv_iload_n S.1 S.2.1 dX5_factor_10 rfl (lv_at hl 2 rfl) ?_
    refine cPS (rest := []) S (c_X5_isFlow l p2) gS_RX5_119 ds_X5_isFlow.2 ⟨rfl, rfl⟩ ⟨Nat.le_of_ble_eq_true rfl, Nat.le_of_ble_eq_true rfl⟩ rfl hl.1 rfl (Nat.le_of_ble_eq_true rfl) ⟨Nat.le_of_ble_eq_true rfl, Nat.le_of_ble_eq_true rfl⟩ dX5_factor_11 ?_
    refine q_if_eq_b (tgt := 33) S dX5_factor_14 (by decide) (fun c3 => ?_) (fun c3 => ?_)
    · have hs := hs.trans (cif_f c3)
      refine lv_bipush (v := (-2)) S.1 S.2.1 dX5_factor_33 (by decide) ?_
      exact wI S hr hlk hs hX hS dX5_factor_35
    · have hs := hs.trans (cif_t c3)
      refine lv_iload_n S.1 S.2.1 dX5_factor_17 rfl (lv_at hl 3 rfl) ?_
      refine cPS (rest := []) S (c_X5_isDay l p3) gS_RX5_122 ds_X5_isDay.2 ⟨rfl, rfl⟩ ⟨Nat.le_of_ble_eq_true rfl, Nat.le_of_ble_eq_true rfl⟩ rfl hl.1 rfl (Nat.le_of_ble_eq_true rfl) ⟨Nat.le_of_ble_eq_true rfl, Nat.le_of_ble_eq_true rfl⟩ dX5_factor_18 ?_
      refine q_if_eq_b (tgt := 33) S dX5_factor_21 (by decide) (fun c4 => ?_) (fun c4 => ?_)
      · have hs := hs.trans (cif_f c4)
        refine lv_bipush (v := (-2)) S.1 S.2.1 dX5_factor_33 (by decide) ?_
        exact wI S hr hlk hs hX hS dX5_factor_35
      · have hs := hs.trans (cif_t c4)
        refine lv_iload S.1 S.2.1 dX5_factor_24 (lv_at hl 4 rfl) ?_
        refine lv_i2l S.1 S.2.1 dX5_factor_26 rfl ?_
        refine cPS (rest := []) S (c_X5_isNumber l p4.toInt64) gS_RX5_125 ds_X5_isNumber.2 ⟨rfl, rfl⟩ ⟨Nat.le_of_ble_eq_true rfl, Nat.le_of_ble_eq_true rfl⟩ rfl hl.1 rfl (Nat.le_of_ble_eq_true rfl) ⟨Nat.le_of_ble_eq_true rfl, Nat.le_of_ble_eq_true rfl⟩ dX5_factor_27 ?_
        refine q_if_ne_b (tgt := 36) S dX5_factor_30 (by decide) (fun c5 => ?_) (fun c5 => ?_)
        · have hs := hs.trans (cif_t c5)
          refine lv_aload_n S.1 S.2.1 dX5_factor_36 rfl (lv_at hl 0 rfl) ?_
          refine gf_RX5_13 S hK hX dX5_factor_37 ?_
          refine lv_iload_n S.1 S.2.1 dX5_factor_40 rfl (lv_at hl 1 rfl) ?_
          refine al_M3 S hK hX (by omega) (by omega) (z := d.1 3 0 (ix p1)) rfl dX5_factor_41 ?_
          have f6 := hI.mn (x := p1) (by omega) (by omega)
          refine lv_bipush (v := 12) S.1 S.2.1 dX5_factor_42 (by decide) ?_
          refine q_icmp_ne (tgt := 50) (xi := (d.1 3 0 (ix p1)).toInt) (yi := 12) S rfl rfl dX5_factor_44 (by decide) (fun c7 => ?_) (fun c7 => ?_)
          · have hs := hs.trans (cif_f c7)
            refine lv_aload_n S.1 S.2.1 dX5_factor_50 rfl (lv_at hl 0 rfl) ?_
            refine lv_iload_n S.1 S.2.1 dX5_factor_51 rfl (lv_at hl 1 rfl) ?_
            refine lv_iload_n S.1 S.2.1 dX5_factor_52 rfl (lv_at hl 2 rfl) ?_
            refine lv_iload_n S.1 S.2.1 dX5_factor_53 rfl (lv_at hl 3 rfl) ?_
            refine lv_iload S.1 S.2.1 dX5_factor_54 (lv_at hl 4 rfl) ?_
            refine cWV (rest := []) S (c_X5_addFactor l D G ad d p1 p2 p3 p4 (by omega) (by omega) (by omega) (by omega)) gV_RX5_129 ds_X5_addFactor ⟨rfl, rfl⟩ ⟨Nat.le_of_ble_eq_true rfl, Nat.le_of_ble_eq_true rfl⟩ ⟨blindX, recvX hK hX (k := 0) (i := 0) Nat.zero_lt_one rfl rfl, preX hK hN hX _⟩ rfl hl.1 rfl (Nat.le_of_ble_eq_true rfl) ⟨Nat.le_of_ble_eq_true rfl, Nat.le_of_ble_eq_true rfl⟩ dX5_factor_56 hS (fun _ h => h) (fun H locs hX hS hfr => ?_)
            refine lv_aload_n S.1 S.2.1 dX5_factor_59 rfl (lv_at hl 0 rfl) ?_
            refine gf_RX5_13 S hK hX dX5_factor_60 ?_
            refine lv_iload_n S.1 S.2.1 dX5_factor_63 rfl (lv_at hl 1 rfl) ?_
            refine al_M3 S hK hX (by omega) (by omega) (z := (sp_X5_addFactor d p1 p2 p3 p4).1 3 0 (ix p1)) rfl dX5_factor_64 ?_
            have f8 := hI.mn (x := p1) (by omega) (by omega)
            exact wI S hr hlk hs hX hS dX5_factor_65
          · have hs := hs.trans (cif_t c7)
            refine lv_bipush (v := (-4)) S.1 S.2.1 dX5_factor_47 (by decide) ?_
            exact wI S hr hlk hs hX hS dX5_factor_49
        · have hs := hs.trans (cif_f c5)
          refine lv_bipush (v := (-2)) S.1 S.2.1 dX5_factor_33 (by decide) ?_
          exact wI S hr hlk hs hX hS dX5_factor_35
  · have hs := hs.trans (cif_t c1)
    refine lv_iconst (v := (-1)) S.1 S.2.1 dX5_factor_8 (by decide) ?_
    exact wI S hr hlk hs hX hS dX5_factor_9
