set_option maxRecDepth 100000 in
set_option maxHeartbeats 8000000 in
theorem c_X4_isWithin (l : Launch) (p0 : Int32) (p1 : Int32) (p2 : Int32) : Met l yX4_isWithin (wsU yX4_isWithin cX4_isWithin 3 (some .boolean)) ({ frames := 0, cells := 0, slots := 0, locals := 0 } : Room) (va_Pc [.int p0, .int p1, .int p2] (fun _ => True)) (qV (some (.int (b2i (sp_X4_isWithin p0 p1 p2))))) 0 0 (fun _ => False) := by
  refine ent (by decide +kernel) (Nat.le_of_ble_eq_true rfl) ?_
  intro p e s m below meth c S hr hlk hpre ls hl
  have S : CallFix p m c cX4_isWithin 3 s [.int p0, .int p1, .int p2].toArray wsL_law RX4 := S
  have hl : lv_has ls 3 [(0, .int p0), (1, .int p1), (2, .int p2)] := hl
  have hs := sp_X4_isWithin.eq_1 p0 p1 p2
  refine lv_iload_n S.1 S.2.1 dX4_isWithin_0 rfl (lv_at hl 0 rfl) ?_
  refine lv_iload_n S.1 S.2.1 dX4_isWithin_1 rfl (lv_at hl 1 rfl) ?_
  refine q_icmp_lt (tgt := 14) (xi := p0.toInt) (yi := p1.toInt) S rfl rfl dX4_isWithin_2 (by decide) (fun c1 => ?_) (fun c1 => ?_)
  · have hs := hs.trans (cif_t c1)
    refine lv_iconst (v := 0) S.1 S.2.1 dX4_isWithin_14 (by decide) ?_
    exact rZ S hr hlk hs b2i_F.symm dX4_isWithin_15
  · have hs := hs.trans (cif_f c1)
    refine lv_iload_n S.1 S.2.1 dX4_isWithin_5 rfl (lv_at hl 0 rfl) ?_
    refine lv_iload_n S.1 S.2.1 dX4_isWithin_6 rfl (lv_at hl 2 rfl) ?_
    refine q_icmp_gt (tgt := 14) (xi := p0.toInt) (yi := p2.toInt) S rfl rfl dX4_isWithin_7 (by decide) (fun c2 => ?_) (fun c2 => ?_)
    · have hs := hs.trans (cif_t c2)
      refine lv_iconst (v := 0) S.1 S.2.1 dX4_isWithin_14 (by decide) ?_
      exact rZ S hr hlk hs b2i_F.symm dX4_isWithin_15
    · have hs := hs.trans (cif_f c2)
      refine lv_iconst (v := 1) S.1 S.2.1 dX4_isWithin_10 (by decide) ?_
      refine lv_goto (tgt := 15) S.1 S.2.1 dX4_isWithin_11 (by decide) ?_
      exact rZ S hr hlk hs b2i_T.symm dX4_isWithin_15
set_option maxRecDepth 100000 in
set_option maxHeartbeats 8000000 in
theorem c_X4_isDay (l : Launch) (p0 : Int32) : Met l yX4_isDay (wsU yX4_isDay cX4_isDay 1 (some .boolean)) ({ frames := 1, cells := 0, slots := 0, locals := 22 } : Room) (va_Pc [.int p0] (fun _ => True)) (qV (some (.int (b2i (sp_X4_isDay p0))))) 0 0 (fun _ => False) := by
  refine ent (by decide +kernel) (Nat.le_of_ble_eq_true rfl) ?_
  intro p e s m below meth c S hr hlk hpre ls hl
  have S : CallFix p m c cX4_isDay 1 s [.int p0].toArray wsL_law RX4 := S
  have hl : lv_has ls 1 [(0, .int p0)] := hl
  have hs := sp_X4_isDay.eq_1 p0
  refine lv_iload_n S.1 S.2.1 dX4_isDay_0 rfl (lv_at hl 0 rfl) ?_
  refine lv_iconst (v := 0) S.1 S.2.1 dX4_isDay_1 (by decide) ?_
  refine lv_sipush (v := 400) S.1 S.2.1 dX4_isDay_2 (by decide) ?_
  refine cPS (rest := []) S (c_X4_isWithin l p0 0 400) gS_RX4_54 ds_X4_isWithin.2 ⟨rfl, rfl⟩ ⟨Nat.le_of_ble_eq_true rfl, Nat.le_of_ble_eq_true rfl⟩ rfl hl.1 rfl (Nat.le_of_ble_eq_true rfl) ⟨Nat.le_of_ble_eq_true rfl, Nat.le_of_ble_eq_true rfl⟩ dX4_isDay_5 ?_
  exact rZ S hr hlk hs rfl dX4_isDay_8
set_option maxRecDepth 100000 in
set_option maxHeartbeats 8000000 in
theorem c_X4_isFlow (l : Launch) (p0 : Int32) : Met l yX4_isFlow (wsU yX4_isFlow cX4_isFlow 1 (some .boolean)) ({ frames := 1, cells := 0, slots := 0, locals := 22 } : Room) (va_Pc [.int p0] (fun _ => True)) (qV (some (.int (b2i (sp_X4_isFlow p0))))) 0 0 (fun _ => False) := by
  refine ent (by decide +kernel) (Nat.le_of_ble_eq_true rfl) ?_
  intro p e s m below meth c S hr hlk hpre ls hl
  have S : CallFix p m c cX4_isFlow 1 s [.int p0].toArray wsL_law RX4 := S
  have hl : lv_has ls 1 [(0, .int p0)] := hl
  have hs := sp_X4_isFlow.eq_1 p0
  refine lv_iload_n S.1 S.2.1 dX4_isFlow_0 rfl (lv_at hl 0 rfl) ?_
  refine lv_iconst (v := 1) S.1 S.2.1 dX4_isFlow_1 (by decide) ?_
  refine lv_sipush (v := 10000) S.1 S.2.1 dX4_isFlow_2 (by decide) ?_
  refine cPS (rest := []) S (c_X4_isWithin l p0 1 10000) gS_RX4_54 ds_X4_isWithin.2 ⟨rfl, rfl⟩ ⟨Nat.le_of_ble_eq_true rfl, Nat.le_of_ble_eq_true rfl⟩ rfl hl.1 rfl (Nat.le_of_ble_eq_true rfl) ⟨Nat.le_of_ble_eq_true rfl, Nat.le_of_ble_eq_true rfl⟩ dX4_isFlow_5 ?_
  exact rZ S hr hlk hs rfl dX4_isFlow_8
set_option maxRecDepth 100000 in
set_option maxHeartbeats 8000000 in
theorem c_X4_isLine (l : Launch) (p0 : Int32) : Met l yX4_isLine (wsU yX4_isLine cX4_isLine 1 (some .boolean)) ({ frames := 1, cells := 0, slots := 0, locals := 22 } : Room) (va_Pc [.int p0] (fun _ => True)) (qV (some (.int (b2i (sp_X4_isLine p0))))) 0 0 (fun _ => False) := by
  refine ent (by decide +kernel) (Nat.le_of_ble_eq_true rfl) ?_
  intro p e s m below meth c S hr hlk hpre ls hl
  have S : CallFix p m c cX4_isLine 1 s [.int p0].toArray wsL_law RX4 := S
  have hl : lv_has ls 1 [(0, .int p0)] := hl
  have hs := sp_X4_isLine.eq_1 p0
  refine lv_iload_n S.1 S.2.1 dX4_isLine_0 rfl (lv_at hl 0 rfl) ?_
  refine lv_iconst (v := 0) S.1 S.2.1 dX4_isLine_1 (by decide) ?_
  refine lv_iconst (v := 3) S.1 S.2.1 dX4_isLine_2 (by decide) ?_
  refine cPS (rest := []) S (c_X4_isWithin l p0 0 3) gS_RX4_54 ds_X4_isWithin.2 ⟨rfl, rfl⟩ ⟨Nat.le_of_ble_eq_true rfl, Nat.le_of_ble_eq_true rfl⟩ rfl hl.1 rfl (Nat.le_of_ble_eq_true rfl) ⟨Nat.le_of_ble_eq_true rfl, Nat.le_of_ble_eq_true rfl⟩ dX4_isLine_3 ?_
  exact rZ S hr hlk hs rfl dX4_isLine_6
set_option maxRecDepth 100000 in
set_option maxHeartbeats 8000000 in
theorem c_X4_isSheet (l : Launch) (p0 : Int32) : Met l yX4_isSheet (wsU yX4_isSheet cX4_isSheet 1 (some .boolean)) ({ frames := 1, cells := 0, slots := 0, locals := 22 } : Room) (va_Pc [.int p0] (fun _ => True)) (qV (some (.int (b2i (sp_X4_isSheet p0))))) 0 0 (fun _ => False) := by
  refine ent (by decide +kernel) (Nat.le_of_ble_eq_true rfl) ?_
  intro p e s m below meth c S hr hlk hpre ls hl
  have S : CallFix p m c cX4_isSheet 1 s [.int p0].toArray wsL_law RX4 := S
  have hl : lv_has ls 1 [(0, .int p0)] := hl
  have hs := sp_X4_isSheet.eq_1 p0
  refine lv_iload_n S.1 S.2.1 dX4_isSheet_0 rfl (lv_at hl 0 rfl) ?_
  refine lv_iconst (v := 0) S.1 S.2.1 dX4_isSheet_1 (by decide) ?_
  refine lv_iconst (v := 3) S.1 S.2.1 dX4_isSheet_2 (by decide) ?_
  refine cPS (rest := []) S (c_X4_isWithin l p0 0 3) gS_RX4_54 ds_X4_isWithin.2 ⟨rfl, rfl⟩ ⟨Nat.le_of_ble_eq_true rfl, Nat.le_of_ble_eq_true rfl⟩ rfl hl.1 rfl (Nat.le_of_ble_eq_true rfl) ⟨Nat.le_of_ble_eq_true rfl, Nat.le_of_ble_eq_true rfl⟩ dX4_isSheet_3 ?_
  exact rZ S hr hlk hs rfl dX4_isSheet_6
set_option maxRecDepth 100000 in
set_option maxHeartbeats 8000000 in
theorem c_X4_isLane (l : Launch) (p0 : Int32) : Met l yX4_isLane (wsU yX4_isLane cX4_isLane 1 (some .boolean)) ({ frames := 1, cells := 0, slots := 0, locals := 22 } : Room) (va_Pc [.int p0] (fun _ => True)) (qV (some (.int (b2i (sp_X4_isLane p0))))) 0 0 (fun _ => False) := by
  refine ent (by decide +kernel) (Nat.le_of_ble_eq_true rfl) ?_
  intro p e s m below meth c S hr hlk hpre ls hl
  have S : CallFix p m c cX4_isLane 1 s [.int p0].toArray wsL_law RX4 := S
  have hl : lv_has ls 1 [(0, .int p0)] := hl
  have hs := sp_X4_isLane.eq_1 p0
  refine lv_iload_n S.1 S.2.1 dX4_isLane_0 rfl (lv_at hl 0 rfl) ?_
  refine lv_iconst (v := 0) S.1 S.2.1 dX4_isLane_1 (by decide) ?_
  refine lv_iconst (v := 2) S.1 S.2.1 dX4_isLane_2 (by decide) ?_
  refine cPS (rest := []) S (c_X4_isWithin l p0 0 2) gS_RX4_54 ds_X4_isWithin.2 ⟨rfl, rfl⟩ ⟨Nat.le_of_ble_eq_true rfl, Nat.le_of_ble_eq_true rfl⟩ rfl hl.1 rfl (Nat.le_of_ble_eq_true rfl) ⟨Nat.le_of_ble_eq_true rfl, Nat.le_of_ble_eq_true rfl⟩ dX4_isLane_3 ?_
  exact rZ S hr hlk hs rfl dX4_isLane_6
set_option maxRecDepth 100000 in
set_option maxHeartbeats 8000000 in
theorem c_X4_areDays (l : Launch) (p0 : Int32) (p1 : Int32) : Met l yX4_areDays (wsU yX4_areDays cX4_areDays 2 (some .boolean)) ({ frames := 2, cells := 0, slots := 0, locals := 42 } : Room) (va_Pc [.int p0, .int p1] (fun _ => True)) (qV (some (.int (b2i (sp_X4_areDays p0 p1))))) 0 0 (fun _ => False) := by
  refine ent (by decide +kernel) (Nat.le_of_ble_eq_true rfl) ?_
  intro p e s m below meth c S hr hlk hpre ls hl
  have S : CallFix p m c cX4_areDays 2 s [.int p0, .int p1].toArray wsL_law RX4 := S
  have hl : lv_has ls 2 [(0, .int p0), (1, .int p1)] := hl
  have hs := sp_X4_areDays.eq_1 p0 p1
  refine lv_iload_n S.1 S.2.1 dX4_areDays_0 rfl (lv_at hl 0 rfl) ?_
  refine cPS (rest := []) S (c_X4_isDay l p0) gS_RX4_68 ds_X4_isDay.2 ⟨rfl, rfl⟩ ⟨Nat.le_of_ble_eq_true rfl, Nat.le_of_ble_eq_true rfl⟩ rfl hl.1 rfl (Nat.le_of_ble_eq_true rfl) ⟨Nat.le_of_ble_eq_true rfl, Nat.le_of_ble_eq_true rfl⟩ dX4_areDays_1 ?_
  refine q_if_eq_b (tgt := 23) S dX4_areDays_4 (by decide) (fun c1 => ?_) (fun c1 => ?_)
  · have hs := hs.trans (cif_f c1)
    refine lv_iconst (v := 0) S.1 S.2.1 dX4_areDays_23 (by decide) ?_
    exact rZ S hr hlk hs b2i_F.symm dX4_areDays_24
  · have hs := hs.trans (cif_t c1)
    refine lv_iload_n S.1 S.2.1 dX4_areDays_7 rfl (lv_at hl 1 rfl) ?_
    refine cPS (rest := []) S (c_X4_isDay l p1) gS_RX4_68 ds_X4_isDay.2 ⟨rfl, rfl⟩ ⟨Nat.le_of_ble_eq_true rfl, Nat.le_of_ble_eq_true rfl⟩ rfl hl.1 rfl (Nat.le_of_ble_eq_true rfl) ⟨Nat.le_of_ble_eq_true rfl, Nat.le_of_ble_eq_true rfl⟩ dX4_areDays_8 ?_
    refine q_if_eq_b (tgt := 23) S dX4_areDays_11 (by decide) (fun c2 => ?_) (fun c2 => ?_)
    · have hs := hs.trans (cif_f c2)
      refine lv_iconst (v := 0) S.1 S.2.1 dX4_areDays_23 (by decide) ?_
      exact rZ S hr hlk hs b2i_F.symm dX4_areDays_24
    · have hs := hs.trans (cif_t c2)
      refine lv_iload_n S.1 S.2.1 dX4_areDays_14 rfl (lv_at hl 0 rfl) ?_
      refine lv_iload_n S.1 S.2.1 dX4_areDays_15 rfl (lv_at hl 1 rfl) ?_
      refine q_icmp_gt (tgt := 23) (xi := p0.toInt) (yi := p1.toInt) S rfl rfl dX4_areDays_16 (by decide) (fun c3 => ?_) (fun c3 => ?_)
      · have hs := hs.trans (cif_t c3)
        refine lv_iconst (v := 0) S.1 S.2.1 dX4_areDays_23 (by decide) ?_
        exact rZ S hr hlk hs b2i_F.symm dX4_areDays_24
      · have hs := hs.trans (cif_f c3)
        refine lv_iconst (v := 1) S.1 S.2.1 dX4_areDays_19 (by decide) ?_
        refine lv_goto (tgt := 24) S.1 S.2.1 dX4_areDays_20 (by decide) ?_
        exact rZ S hr hlk hs b2i_T.symm dX4_areDays_24
set_option maxRecDepth 100000 in
set_option maxHeartbeats 8000000 in
theorem c_X4_rounded (l : Launch) (p0 : Int64) (p2 : Int64) : Met l yX4_rounded (wsU yX4_rounded cX4_rounded 4 (some .long)) ({ frames := 0, cells := 0, slots := 0, locals := 0 } : Room) (va_Pc [.long p0, .long p2] (fun _ => True)) (qV (some (.long (sp_X4_rounded p0 p2)))) 0 0 (fun _ => False) := by
  refine ent (by decide +kernel) (Nat.le_of_ble_eq_true rfl) ?_
  intro p e s m below meth c S hr hlk hpre ls hl
  have S : CallFix p m c cX4_rounded 4 s [.long p0, .long p2].toArray wsL_law RX4 := S
  have hl : lv_has ls 4 [(0, .long p0), (2, .long p2)] := hl
  have hs := sp_X4_rounded.eq_1 p0 p2
  refine lv_lload_n S.1 S.2.1 dX4_rounded_0 rfl (lv_at hl 1 rfl) ?_
  refine lv_lconst (v := 0) S.1 S.2.1 dX4_rounded_1 (by decide) ?_
  refine q_lcmp_gt (tgt := 8) (xi := p2.toInt) (yi := 0) S rfl rfl dX4_rounded_2 dX4_rounded_3 (by decide) (fun c1 => ?_) (fun c1 => ?_)
  · have hs := hs.trans (cif_t c1)
    refine lv_ldc2 S.1 S.2.1 S.2.2.2.1 (S.2.2.2.2 _ wKL_RX4_285) dX4_rounded_8 ?_
    refine lv_lload_n S.1 S.2.1 dX4_rounded_11 rfl (lv_at hl 0 rfl) ?_
    refine lv_lmul S.1 S.2.1 dX4_rounded_12 ?_
    refine lv_lload_n S.1 S.2.1 dX4_rounded_13 rfl (lv_at hl 1 rfl) ?_
    refine lv_ladd S.1 S.2.1 dX4_rounded_14 ?_
    refine lv_ldc2 S.1 S.2.1 S.2.2.2.1 (S.2.2.2.2 _ wKL_RX4_285) dX4_rounded_15 ?_
    refine lv_lload_n S.1 S.2.1 dX4_rounded_18 rfl (lv_at hl 1 rfl) ?_
    refine lv_lmul S.1 S.2.1 dX4_rounded_19 ?_
    refine lv_ldiv S.1 S.2.1 dX4_rounded_20 (nz2 (by omega)) ?_
    exact rL S hr hlk hs dX4_rounded_21
  · have hs := hs.trans (cif_f c1)
    refine lv_lconst (v := 0) S.1 S.2.1 dX4_rounded_6 (by decide) ?_
    exact rL S hr hlk hs dX4_rounded_7
set_option maxRecDepth 100000 in
set_option maxHeartbeats 8000000 in
theorem c_X0_isFull (l : Launch) (D : va_G) (G : Gc) (M T : Nat) (ad : Nat → Nat → Nat) (d : Dt) (i : Nat) (hi : i < M) : Met l yX0_isFull (wsU yX0_isFull cX0_isFull 1 (some .boolean)) ({ frames := 0, cells := 0, slots := 0, locals := 0 } : Room) (va_Pc [.ref (ad 8 i)] (XPre D (tysG G) (XF G M T ad) (XN M T) ad d)) (qV (some (.int (b2i (sp_X0_isFull d i))))) 0 0 (fun _ => False) := by
  refine ent (by decide +kernel) (Nat.le_of_ble_eq_true rfl) ?_
  intro p e s m below meth c S hr hlk hpre ls hl
  have S : CallFix p m c cX0_isFull 1 s [.ref (ad 8 i)].toArray wsL_law RX0 := S
  obtain ⟨hK, hN, hX⟩ := hpre
  have hl : lv_has ls 1 [(0, .ref (ad 8 i))] := hl
  have hs := sp_X0_isFull.eq_1 d i
  refine lv_aload_n S.1 S.2.1 dX0_isFull_0 rfl (lv_at hl 0 rfl) ?_
  refine gf_RX0_28 S hK hX hi (v := d.1 8 i 6) rfl dX0_isFull_1 ?_
  refine lv_bipush (v := 12) S.1 S.2.1 dX0_isFull_4 (by decide) ?_
  refine q_icmp_lt (tgt := 13) (xi := (d.1 8 i 6).toInt) (yi := 12) S rfl rfl dX0_isFull_6 (by decide) (fun c1 => ?_) (fun c1 => ?_)
  · have hs := hs.trans (cif_t c1)
    refine lv_iconst (v := 0) S.1 S.2.1 dX0_isFull_13 (by decide) ?_
    exact rZ S hr hlk hs b2i_F.symm dX0_isFull_14
  · have hs := hs.trans (cif_f c1)
    refine lv_iconst (v := 1) S.1 S.2.1 dX0_isFull_9 (by decide) ?_
    refine lv_goto (tgt := 14) S.1 S.2.1 dX0_isFull_10 (by decide) ?_
    exact rZ S hr hlk hs b2i_T.symm dX0_isFull_14
set_option maxRecDepth 100000 in
set_option maxHeartbeats 8000000 in
theorem c_X0_standsBehind (l : Launch) (D : va_G) (G : Gc) (M T : Nat) (ad : Nat → Nat → Nat) (d : Dt) (i : Nat) (p1 : Int32) (p2 : Int32) (p3 : Int32) (hi : i < M) (h0 : 0 ≤ p1.toInt) (h1 : p1.toInt < 12) : Met l yX0_standsBehind (wsU yX0_standsBehind cX0_standsBehind 4 (some .boolean)) ({ frames := 0, cells := 0, slots := 0, locals := 0 } : Room) (va_Pc [.ref (ad 8 i), .int p1, .int p2, .int p3] (XPre D (tysG G) (XF G M T ad) (XN M T) ad d)) (qV (some (.int (b2i (sp_X0_standsBehind d i p1 p2 p3))))) 0 0 (fun _ => False) := by
  refine ent (by decide +kernel) (Nat.le_of_ble_eq_true rfl) ?_
  intro p e s m below meth c S hr hlk hpre ls hl
  have S : CallFix p m c cX0_standsBehind 4 s [.ref (ad 8 i), .int p1, .int p2, .int p3].toArray wsL_law RX0 := S
  obtain ⟨hK, hN, hX⟩ := hpre
  have hl : lv_has ls 4 [(0, .ref (ad 8 i)), (1, .int p1), (2, .int p2), (3, .int p3)] := hl
  have hs := sp_X0_standsBehind.eq_1 d i p1 p2 p3
  refine lv_aload_n S.1 S.2.1 dX0_standsBehind_0 rfl (lv_at hl 0 rfl) ?_
  refine gf_RX0_19 S hK hX hi dX0_standsBehind_1 ?_
  refine lv_iload_n S.1 S.2.1 dX0_standsBehind_4 rfl (lv_at hl 1 rfl) ?_
  refine al_X10 S hK hX hi (by omega) (by omega) (z := d.1 10 i (ix p1)) rfl dX0_standsBehind_5 ?_
  refine lv_iload_n S.1 S.2.1 dX0_standsBehind_6 rfl (lv_at hl 2 rfl) ?_
  refine q_icmp_gt (tgt := 30) (xi := (d.1 10 i (ix p1)).toInt) (yi := p2.toInt) S rfl rfl dX0_standsBehind_7 (by decide) (fun c1 => ?_) (fun c1 => ?_)
  · have hs := hs.trans (cif_t c1)
    refine lv_iconst (v := 1) S.1 S.2.1 dX0_standsBehind_30 (by decide) ?_
    refine lv_goto (tgt := 35) S.1 S.2.1 dX0_standsBehind_31 (by decide) ?_
    exact rZ S hr hlk hs b2i_T.symm dX0_standsBehind_35
  · have hs := hs.trans (cif_f c1)
    refine lv_aload_n S.1 S.2.1 dX0_standsBehind_10 rfl (lv_at hl 0 rfl) ?_
    refine gf_RX0_19 S hK hX hi dX0_standsBehind_11 ?_
    refine lv_iload_n S.1 S.2.1 dX0_standsBehind_14 rfl (lv_at hl 1 rfl) ?_
    refine al_X10 S hK hX hi (by omega) (by omega) (z := d.1 10 i (ix p1)) rfl dX0_standsBehind_15 ?_
    refine lv_iload_n S.1 S.2.1 dX0_standsBehind_16 rfl (lv_at hl 2 rfl) ?_
    refine q_icmp_ne (tgt := 34) (xi := (d.1 10 i (ix p1)).toInt) (yi := p2.toInt) S rfl rfl dX0_standsBehind_17 (by decide) (fun c2 => ?_) (fun c2 => ?_)
    · have hs := hs.trans (cif_f c2)
      refine lv_iconst (v := 0) S.1 S.2.1 dX0_standsBehind_34 (by decide) ?_
      exact rZ S hr hlk hs b2i_F.symm dX0_standsBehind_35
    · have hs := hs.trans (cif_t c2)
      refine lv_aload_n S.1 S.2.1 dX0_standsBehind_20 rfl (lv_at hl 0 rfl) ?_
      refine gf_RX0_22 S hK hX hi dX0_standsBehind_21 ?_
      refine lv_iload_n S.1 S.2.1 dX0_standsBehind_24 rfl (lv_at hl 1 rfl) ?_
      refine al_X11 S hK hX hi (by omega) (by omega) (z := d.1 11 i (ix p1)) rfl dX0_standsBehind_25 ?_
      refine lv_iload_n S.1 S.2.1 dX0_standsBehind_26 rfl (lv_at hl 3 rfl) ?_
      refine q_icmp_le (tgt := 34) (xi := (d.1 11 i (ix p1)).toInt) (yi := p3.toInt) S rfl rfl dX0_standsBehind_27 (by decide) (fun c3 => ?_) (fun c3 => ?_)
      · have hs := hs.trans (cif_t c3)
        refine lv_iconst (v := 0) S.1 S.2.1 dX0_standsBehind_34 (by decide) ?_
        exact rZ S hr hlk hs b2i_F.symm dX0_standsBehind_35
      · have hs := hs.trans (cif_f c3)
        refine lv_iconst (v := 1) S.1 S.2.1 dX0_standsBehind_30 (by decide) ?_
        refine lv_goto (tgt := 35) S.1 S.2.1 dX0_standsBehind_31 (by decide) ?_
        exact rZ S hr hlk hs b2i_T.symm dX0_standsBehind_35
set_option maxRecDepth 100000 in
set_option maxHeartbeats 8000000 in
theorem c_X0_isOnCurve (l : Launch) (D : va_G) (G : Gc) (M T : Nat) (ad : Nat → Nat → Nat) (d : Dt) (i : Nat) (p1 : Int32) (p2 : Int32) (hi : i < M) (h0 : 0 ≤ p1.toInt) (h1 : p1.toInt < 12) (h2 : (d.1 8 i 6).toInt ≤ 12) : Met l yX0_isOnCurve (wsU yX0_isOnCurve cX0_isOnCurve 4 (some .boolean)) ({ frames := 0, cells := 0, slots := 0, locals := 0 } : Room) (va_Pc [.ref (ad 8 i), .int p1, .int p2] (XPre D (tysG G) (XF G M T ad) (XN M T) ad d)) (qV (some (.int (b2i (sp_X0_isOnCurve d i p1 p2))))) 0 0 (fun _ => False) := by
  refine ent (by decide +kernel) (Nat.le_of_ble_eq_true rfl) ?_
  intro p e s m below meth c S hr hlk hpre ls hl
  have S : CallFix p m c cX0_isOnCurve 4 s [.ref (ad 8 i), .int p1, .int p2].toArray wsL_law RX0 := S
  obtain ⟨hK, hN, hX⟩ := hpre
  have hl : lv_has ls 4 [(0, .ref (ad 8 i)), (1, .int p1), (2, .int p2)] := hl
  have hs := sp_X0_isOnCurve.eq_1 d i p1 p2
  have e1 := ti1 (x := p1) (by omega)
  refine lv_aload_n S.1 S.2.1 dX0_isOnCurve_0 rfl (lv_at hl 0 rfl) ?_
  refine gf_RX0_22 S hK hX hi dX0_isOnCurve_1 ?_
  refine lv_iload_n S.1 S.2.1 dX0_isOnCurve_4 rfl (lv_at hl 1 rfl) ?_
  refine al_X11 S hK hX hi (by omega) (by omega) (z := d.1 11 i (ix p1)) rfl dX0_isOnCurve_5 ?_
  refine lv_iload_n S.1 S.2.1 dX0_isOnCurve_6 rfl (lv_at hl 2 rfl) ?_
  refine q_icmp_le (tgt := 12) (xi := (d.1 11 i (ix p1)).toInt) (yi := p2.toInt) S rfl rfl dX0_isOnCurve_7 (by decide) (fun c1 => ?_) (fun c1 => ?_)
  · have hs := hs.trans (cif_t c1)
    refine lv_iload_n S.1 S.2.1 dX0_isOnCurve_12 rfl (lv_at hl 1 rfl) ?_
    refine lv_iconst (v := 1) S.1 S.2.1 dX0_isOnCurve_13 (by decide) ?_
    refine lv_iadd S.1 S.2.1 dX0_isOnCurve_14 ?_
    refine lv_istore_n (lv' := [(3, .int (p1 + 1)), (0, .ref (ad 8 i)), (1, .int p1), (2, .int p2)]) S.1 S.2.1 dX0_isOnCurve_15 rfl hl (by decide) rfl (fun ls hl => ?_)
    refine lv_iload_n S.1 S.2.1 dX0_isOnCurve_16 rfl (lv_at hl 0 rfl) ?_
    refine lv_aload_n S.1 S.2.1 dX0_isOnCurve_17 rfl (lv_at hl 1 rfl) ?_
    refine gf_RX0_28 S hK hX hi (v := d.1 8 i 6) rfl dX0_isOnCurve_18 ?_
    refine q_icmp_ge (tgt := 49) (xi := (p1 + 1).toInt) (yi := (d.1 8 i 6).toInt) S rfl rfl dX0_isOnCurve_21 (by decide) (fun c2 => ?_) (fun c2 => ?_)
    · have hs := hs.trans (cif_t c2)
      refine lv_iconst (v := 1) S.1 S.2.1 dX0_isOnCurve_49 (by decide) ?_
      refine lv_goto (tgt := 54) S.1 S.2.1 dX0_isOnCurve_50 (by decide) ?_
      exact rZ S hr hlk hs b2i_T.symm dX0_isOnCurve_54
    · have hs := hs.trans (cif_f c2)
      refine lv_aload_n S.1 S.2.1 dX0_isOnCurve_24 rfl (lv_at hl 1 rfl) ?_
      refine gf_RX0_19 S hK hX hi dX0_isOnCurve_25 ?_
      refine lv_iload_n S.1 S.2.1 dX0_isOnCurve_28 rfl (lv_at hl 0 rfl) ?_
      refine al_X10 S hK hX hi (by omega) (by omega) (z := d.1 10 i (ix (p1 + 1))) rfl dX0_isOnCurve_29 ?_
      refine lv_aload_n S.1 S.2.1 dX0_isOnCurve_30 rfl (lv_at hl 1 rfl) ?_
      refine gf_RX0_19 S hK hX hi dX0_isOnCurve_31 ?_
      refine lv_iload_n S.1 S.2.1 dX0_isOnCurve_34 rfl (lv_at hl 2 rfl) ?_
      refine al_X10 S hK hX hi (by omega) (by omega) (z := d.1 10 i (ix p1)) rfl dX0_isOnCurve_35 ?_
      refine q_icmp_ne (tgt := 49) (xi := (d.1 10 i (ix (p1 + 1))).toInt) (yi := (d.1 10 i (ix p1)).toInt) S rfl rfl dX0_isOnCurve_36 (by decide) (fun c3 => ?_) (fun c3 => ?_)
      · have hs := hs.trans (cif_f c3)
        refine lv_iconst (v := 1) S.1 S.2.1 dX0_isOnCurve_49 (by decide) ?_
        refine lv_goto (tgt := 54) S.1 S.2.1 dX0_isOnCurve_50 (by decide) ?_
        exact rZ S hr hlk hs b2i_T.symm dX0_isOnCurve_54
      · have hs := hs.trans (cif_t c3)
        refine lv_aload_n S.1 S.2.1 dX0_isOnCurve_39 rfl (lv_at hl 1 rfl) ?_
        refine gf_RX0_22 S hK hX hi dX0_isOnCurve_40 ?_
        refine lv_iload_n S.1 S.2.1 dX0_isOnCurve_43 rfl (lv_at hl 0 rfl) ?_
        refine al_X11 S hK hX hi (by omega) (by omega) (z := d.1 11 i (ix (p1 + 1))) rfl dX0_isOnCurve_44 ?_
        refine lv_iload_n S.1 S.2.1 dX0_isOnCurve_45 rfl (lv_at hl 3 rfl) ?_
        refine q_icmp_le (tgt := 53) (xi := (d.1 11 i (ix (p1 + 1))).toInt) (yi := p2.toInt) S rfl rfl dX0_isOnCurve_46 (by decide) (fun c4 => ?_) (fun c4 => ?_)
        · have hs := hs.trans (cif_t c4)
          refine lv_iconst (v := 0) S.1 S.2.1 dX0_isOnCurve_53 (by decide) ?_
          exact rZ S hr hlk hs b2i_F.symm dX0_isOnCurve_54
        · have hs := hs.trans (cif_f c4)
          refine lv_iconst (v := 1) S.1 S.2.1 dX0_isOnCurve_49 (by decide) ?_
          refine lv_goto (tgt := 54) S.1 S.2.1 dX0_isOnCurve_50 (by decide) ?_
          exact rZ S hr hlk hs b2i_T.symm dX0_isOnCurve_54
  · have hs := hs.trans (cif_f c1)
    refine lv_iconst (v := 0) S.1 S.2.1 dX0_isOnCurve_10 (by decide) ?_
    exact rZ S hr hlk hs b2i_F.symm dX0_isOnCurve_11
set_option maxRecDepth 100000 in
set_option maxHeartbeats 8000000 in
theorem c_X0_between (l : Launch) (D : va_G) (G : Gc) (M T : Nat) (ad : Nat → Nat → Nat) (d : Dt) (i : Nat) (p1 : Int32) (p2 : Int32) (p3 : Int32) (hi : i < M) (h0 : 0 ≤ p1.toInt) (h1 : p1.toInt < 12) (h2 : 0 ≤ p2.toInt) (h3 : p2.toInt < 12) : Met l yX0_between (wsU yX0_between cX0_between 5 (some .int)) ({ frames := 0, cells := 0, slots := 0, locals := 0 } : Room) (va_Pc [.ref (ad 8 i), .int p1, .int p2, .int p3] (XPre D (tysG G) (XF G M T ad) (XN M T) ad d)) (qV (some (.int (sp_X0_between d i p1 p2 p3)))) 0 0 (fun _ => False) := by
  refine ent (by decide +kernel) (Nat.le_of_ble_eq_true rfl) ?_
  intro p e s m below meth c S hr hlk hpre ls hl
  have S : CallFix p m c cX0_between 5 s [.ref (ad 8 i), .int p1, .int p2, .int p3].toArray wsL_law RX0 := S
  obtain ⟨hK, hN, hX⟩ := hpre
  have hl : lv_has ls 5 [(0, .ref (ad 8 i)), (1, .int p1), (2, .int p2), (3, .int p3)] := hl
  have hs := sp_X0_between.eq_1 d i p1 p2 p3
  refine lv_aload_n S.1 S.2.1 dX0_between_0 rfl (lv_at hl 0 rfl) ?_
  refine gf_RX0_19 S hK hX hi dX0_between_1 ?_
  refine lv_iload_n S.1 S.2.1 dX0_between_4 rfl (lv_at hl 2 rfl) ?_
  refine al_X10 S hK hX hi (by omega) (by omega) (z := d.1 10 i (ix p2)) rfl dX0_between_5 ?_
  refine lv_aload_n S.1 S.2.1 dX0_between_6 rfl (lv_at hl 0 rfl) ?_
  refine gf_RX0_19 S hK hX hi dX0_between_7 ?_
  refine lv_iload_n S.1 S.2.1 dX0_between_10 rfl (lv_at hl 1 rfl) ?_
  refine al_X10 S hK hX hi (by omega) (by omega) (z := d.1 10 i (ix p1)) rfl dX0_between_11 ?_
  refine lv_isub S.1 S.2.1 dX0_between_12 ?_
  refine lv_istore (lv' := [(4, .int ((d.1 10 i (ix p2)) - (d.1 10 i (ix p1)))), (0, .ref (ad 8 i)), (1, .int p1), (2, .int p2), (3, .int p3)]) S.1 S.2.1 dX0_between_13 hl (by decide) rfl (fun ls hl => ?_)
  refine lv_iload S.1 S.2.1 dX0_between_15 (lv_at hl 0 rfl) ?_
  refine q_if_ne (tgt := 27) (xi := ((d.1 10 i (ix p2)) - (d.1 10 i (ix p1))).toInt) S rfl dX0_between_17 (by decide) (fun c1 => ?_) (fun c1 => ?_)
  · have hs := hs.trans (cif_f c1)
    refine lv_aload_n S.1 S.2.1 dX0_between_27 rfl (lv_at hl 1 rfl) ?_
    refine gf_RX0_25 S hK hX hi dX0_between_28 ?_
    refine lv_iload_n S.1 S.2.1 dX0_between_31 rfl (lv_at hl 2 rfl) ?_
    refine al_X12 S hK hX hi (by omega) (by omega) (z := d.1 12 i (ix p1)) rfl dX0_between_32 ?_
    refine lv_aload_n S.1 S.2.1 dX0_between_33 rfl (lv_at hl 1 rfl) ?_
    refine gf_RX0_25 S hK hX hi dX0_between_34 ?_
    refine lv_iload_n S.1 S.2.1 dX0_between_37 rfl (lv_at hl 3 rfl) ?_
    refine al_X12 S hK hX hi (by omega) (by omega) (z := d.1 12 i (ix p2)) rfl dX0_between_38 ?_
    refine lv_aload_n S.1 S.2.1 dX0_between_39 rfl (lv_at hl 1 rfl) ?_
    refine gf_RX0_25 S hK hX hi dX0_between_40 ?_
    refine lv_iload_n S.1 S.2.1 dX0_between_43 rfl (lv_at hl 2 rfl) ?_
    refine al_X12 S hK hX hi (by omega) (by omega) (z := d.1 12 i (ix p1)) rfl dX0_between_44 ?_
    refine lv_isub S.1 S.2.1 dX0_between_45 ?_
    refine lv_iload_n S.1 S.2.1 dX0_between_46 rfl (lv_at hl 4 rfl) ?_
    refine lv_aload_n S.1 S.2.1 dX0_between_47 rfl (lv_at hl 1 rfl) ?_
    refine gf_RX0_19 S hK hX hi dX0_between_48 ?_
    refine lv_iload_n S.1 S.2.1 dX0_between_51 rfl (lv_at hl 2 rfl) ?_
    refine al_X10 S hK hX hi (by omega) (by omega) (z := d.1 10 i (ix p1)) rfl dX0_between_52 ?_
    refine lv_isub S.1 S.2.1 dX0_between_53 ?_
    refine lv_imul S.1 S.2.1 dX0_between_54 ?_
    refine lv_iload S.1 S.2.1 dX0_between_55 (lv_at hl 0 rfl) ?_
    refine lv_idiv S.1 S.2.1 dX0_between_57 (by intro h; have h2 := congrArg Int32.toInt h; rw [Int32.toInt_zero] at h2; omega) ?_
    refine lv_iadd S.1 S.2.1 dX0_between_58 ?_
    exact rI S hr hlk hs dX0_between_59
  · have hs := hs.trans (cif_t c1)
    refine lv_aload_n S.1 S.2.1 dX0_between_20 rfl (lv_at hl 1 rfl) ?_
    refine gf_RX0_25 S hK hX hi dX0_between_21 ?_
    refine lv_iload_n S.1 S.2.1 dX0_between_24 rfl (lv_at hl 2 rfl) ?_
    refine al_X12 S hK hX hi (by omega) (by omega) (z := d.1 12 i (ix p1)) rfl dX0_between_25 ?_
    exact rI S hr hlk hs dX0_between_26
set_option maxRecDepth 100000 in
set_option maxHeartbeats 8000000 in
theorem c_X0_curveSize (l : Launch) (D : va_G) (G : Gc) (M T : Nat) (ad : Nat → Nat → Nat) (d : Dt) (i : Nat) (p1 : Int32) (hi : i < M) (h0 : 0 ≤ (d.1 8 i 6).toInt) (h1 : (d.1 8 i 6).toInt ≤ 12) : Met l yX0_curveSize (wsU yX0_curveSize cX0_curveSize 4 (some .int)) ({ frames := 1, cells := 0, slots := 0, locals := 23 } : Room) (va_Pc [.ref (ad 8 i), .int p1] (XPre D (tysG G) (XF G M T ad) (XN M T) ad d)) (qV (some (.int (sp_X0_curveSize d i p1)))) 0 0 (fun _ => False) := by
  refine ent (by decide +kernel) (Nat.le_of_ble_eq_true rfl) ?_
  intro p e s m below meth c S hr hlk hpre ls hl
  have S : CallFix p m c cX0_curveSize 4 s [.ref (ad 8 i), .int p1].toArray wsL_law RX0 := S
  obtain ⟨hK, hN, hX⟩ := hpre
  have hl : lv_has ls 4 [(0, .ref (ad 8 i)), (1, .int p1)] := hl
  have hs := sp_X0_curveSize.eq_1 d i p1
  refine lv_iconst (v := 0) S.1 S.2.1 dX0_curveSize_0 (by decide) ?_
  refine lv_istore_n (lv' := [(2, .int 0), (0, .ref (ad 8 i)), (1, .int p1)]) S.1 S.2.1 dX0_curveSize_1 rfl hl (by decide) rfl (fun ls hl => ?_)
  refine lv_iconst (v := 0) S.1 S.2.1 dX0_curveSize_2 (by decide) ?_
  refine lv_istore_n (lv' := [(3, .int 0), (2, .int 0), (0, .ref (ad 8 i)), (1, .int p1)]) S.1 S.2.1 dX0_curveSize_3 rfl hl (by decide) rfl (fun ls hl => ?_)
  have L4 : ∀ (n : Nat), ∀ (x3 : Int32) (x2 : Int32), (d.1 8 i 6).toInt - x3.toInt < (n : Int) → 0 ≤ x3.toInt → x3.toInt ≤ (d.1 8 i 6).toInt → sp_X0_curveSize d i p1 = lp_X0_curveSize_4 d i p1 n x3 x2 → ∀ ls : Array Slot, lv_has ls 4 [(3, .int x3), (2, .int x2), (0, .ref (ad 8 i)), (1, .int p1)] → W p l e ({ frames := 1, cells := 0, slots := 0, locals := 23 } : Room) s m [.ref (ad 8 i), .int p1].toArray below meth c s.heap [] 0 0 (MQ below (qV (some (.int (sp_X0_curveSize d i p1)))) [.ref (ad 8 i), .int p1].toArray s 0 0 (fun _ => False)) (F0 m 4 ls []) := by
    intro n
    induction n with
    | zero => intro x3 x2 hms v4_0 v4_1 hs ls hl; omega
    | succ n ih4 =>
      intro x3 x2 hms v4_0 v4_1 hs ls hl
      have hs := hs.trans (st_X0_curveSize_4.eq_1 d i p1 (lp_X0_curveSize_4 d i p1 n) x3 x2)
      refine lv_iload_n S.1 S.2.1 dX0_curveSize_4 rfl (lv_at hl 0 rfl) ?_
      refine lv_aload_n S.1 S.2.1 dX0_curveSize_5 rfl (lv_at hl 2 rfl) ?_
      refine gf_RX0_28 S hK hX hi (v := d.1 8 i 6) rfl dX0_curveSize_6 ?_
      refine q_icmp_ge (tgt := 35) (xi := x3.toInt) (yi := (d.1 8 i 6).toInt) S rfl rfl dX0_curveSize_9 (by decide) (fun c1 => ?_) (fun c1 => ?_)
      · have hs := hs.trans (cif_t c1)
        refine lv_iload_n S.1 S.2.1 dX0_curveSize_35 rfl (lv_at hl 1 rfl) ?_
        exact rI S hr hlk hs dX0_curveSize_36
      · have hs := hs.trans (cif_f c1)
        refine lv_iload_n S.1 S.2.1 dX0_curveSize_12 rfl (lv_at hl 1 rfl) ?_
        refine lv_aload_n S.1 S.2.1 dX0_curveSize_13 rfl (lv_at hl 2 rfl) ?_
        refine lv_iload_n S.1 S.2.1 dX0_curveSize_14 rfl (lv_at hl 0 rfl) ?_
        refine lv_iload_n S.1 S.2.1 dX0_curveSize_15 rfl (lv_at hl 3 rfl) ?_
        refine cPV (rest := [.int x2]) S (c_X0_isOnCurve l D G M T ad d i x3 p1 hi (by omega) (by omega) (by omega)) gV_RX0_38 ds_X0_isOnCurve ⟨rfl, rfl⟩ ⟨Nat.le_of_ble_eq_true rfl, Nat.le_of_ble_eq_true rfl⟩ ⟨blindX, recvX hK hX (k := 8) (i := i) hi rfl rfl, preX hK hN hX _⟩ rfl hl.1 rfl (Nat.le_of_ble_eq_true rfl) ⟨Nat.le_of_ble_eq_true rfl, Nat.le_of_ble_eq_true rfl⟩ dX0_curveSize_16 ?_
        refine q_if_eq_b (tgt := 26) S dX0_curveSize_19 (by decide) (fun c2 => ?_) (fun c2 => ?_)
        · have hs := hs.trans (cif_f c2)
          refine lv_iconst (v := 0) S.1 S.2.1 dX0_curveSize_26 (by decide) ?_
          refine lv_iadd S.1 S.2.1 dX0_curveSize_27 ?_
          refine lv_istore_n (lv' := [(2, .int (x2 + 0)), (3, .int x3), (0, .ref (ad 8 i)), (1, .int p1)]) S.1 S.2.1 dX0_curveSize_28 rfl hl (by decide) rfl (fun ls hl => ?_)
          refine lv_iinc (v := x3 + 1) (lv' := [(3, .int (x3 + 1)), (2, .int (x2 + 0)), (0, .ref (ad 8 i)), (1, .int p1)]) S.1 S.2.1 dX0_curveSize_29 hl (k := 1) rfl (by rfl) (by decide) rfl (fun ls hl => ?_)
          refine lv_goto (tgt := 4) S.1 S.2.1 dX0_curveSize_32 (by decide) ?_
          have e9 : ((x3 + 1)).toInt = x3.toInt + 1 := ti1 (by omega)
          exact ih4 (x3 + 1) (x2 + 0) (by omega) (by omega) (by omega) hs _ (lv_sub hl [0, 1, 2, 3] rfl)
        · have hs := hs.trans (cif_t c2)
          refine lv_iconst (v := 1) S.1 S.2.1 dX0_curveSize_22 (by decide) ?_
          refine lv_goto (tgt := 27) S.1 S.2.1 dX0_curveSize_23 (by decide) ?_
          refine lv_iadd S.1 S.2.1 dX0_curveSize_27 ?_
          refine lv_istore_n (lv' := [(2, .int (x2 + 1)), (3, .int x3), (0, .ref (ad 8 i)), (1, .int p1)]) S.1 S.2.1 dX0_curveSize_28 rfl hl (by decide) rfl (fun ls hl => ?_)
          refine lv_iinc (v := x3 + 1) (lv' := [(3, .int (x3 + 1)), (2, .int (x2 + 1)), (0, .ref (ad 8 i)), (1, .int p1)]) S.1 S.2.1 dX0_curveSize_29 hl (k := 1) rfl (by rfl) (by decide) rfl (fun ls hl => ?_)
          refine lv_goto (tgt := 4) S.1 S.2.1 dX0_curveSize_32 (by decide) ?_
          have e9 : ((x3 + 1)).toInt = x3.toInt + 1 := ti1 (by omega)
          exact ih4 (x3 + 1) (x2 + 1) (by omega) (by omega) (by omega) hs _ (lv_sub hl [0, 1, 2, 3] rfl)
  exact L4 16 0 0 (by first | omega | (simp only [Int32.toInt_zero]; omega)) (by first | omega | (simp only [Int32.toInt_zero]; omega)) (by first | omega | (simp only [Int32.toInt_zero]; omega)) hs _ (lv_sub hl [0, 1, 2, 3] rfl)
set_option maxRecDepth 100000 in
set_option maxHeartbeats 8000000 in
theorem c_X3_isReplaced (l : Launch) (D : va_G) (G : Gc) (M T : Nat) (ad : Nat → Nat → Nat) (d : Dt) (i : Nat) (hi : i < T) : Met l yX3_isReplaced (wsU yX3_isReplaced cX3_isReplaced 1 (some .boolean)) ({ frames := 0, cells := 0, slots := 0, locals := 0 } : Room) (va_Pc [.ref (ad 13 i)] (XPre D (tysG G) (XF G M T ad) (XN M T) ad d)) (qV (some (.int (b2i (sp_X3_isReplaced d i))))) 0 0 (fun _ => False) := by
  refine ent (by decide +kernel) (Nat.le_of_ble_eq_true rfl) ?_
  intro p e s m below meth c S hr hlk hpre ls hl
  have S : CallFix p m c cX3_isReplaced 1 s [.ref (ad 13 i)].toArray wsL_law RX3 := S
  obtain ⟨hK, hN, hX⟩ := hpre
  have hl : lv_has ls 1 [(0, .ref (ad 13 i))] := hl
  have hs := sp_X3_isReplaced.eq_1 d i
  refine lv_aload_n S.1 S.2.1 dX3_isReplaced_0 rfl (lv_at hl 0 rfl) ?_
  refine gf_RX3_15 S hK hX hi (v := d.1 13 i 6) rfl dX3_isReplaced_1 ?_
  refine lv_bipush (v := (-9)) S.1 S.2.1 dX3_isReplaced_4 (by decide) ?_
  refine q_icmp_eq (tgt := 13) (xi := (d.1 13 i 6).toInt) (yi := (-9)) S rfl rfl dX3_isReplaced_6 (by decide) (fun c1 => ?_) (fun c1 => ?_)
  · have hs := hs.trans (cif_t c1)
    refine lv_iconst (v := 0) S.1 S.2.1 dX3_isReplaced_13 (by decide) ?_
    exact rZ S hr hlk hs b2i_F.symm dX3_isReplaced_14
  · have hs := hs.trans (cif_f c1)
    refine lv_iconst (v := 1) S.1 S.2.1 dX3_isReplaced_9 (by decide) ?_
    refine lv_goto (tgt := 14) S.1 S.2.1 dX3_isReplaced_10 (by decide) ?_
    exact rZ S hr hlk hs b2i_T.symm dX3_isReplaced_14
set_option maxRecDepth 100000 in
set_option maxHeartbeats 8000000 in
theorem c_X0_curvePlace (l : Launch) (D : va_G) (G : Gc) (M T : Nat) (ad : Nat → Nat → Nat) (d : Dt) (i : Nat) (p1 : Int32) (p2 : Int32) (hi : i < M) (h0 : 0 ≤ (d.1 8 i 6).toInt) (h1 : (d.1 8 i 6).toInt ≤ 12) : Met l yX0_curvePlace (wsU yX0_curvePlace cX0_curvePlace 5 (some .int)) ({ frames := 1, cells := 0, slots := 0, locals := 23 } : Room) (va_Pc [.ref (ad 8 i), .int p1, .int p2] (XPre D (tysG G) (XF G M T ad) (XN M T) ad d)) (qV (some (.int (sp_X0_curvePlace d i p1 p2)))) 0 0 (fun _ => False) := by
  refine ent (by decide +kernel) (Nat.le_of_ble_eq_true rfl) ?_
  intro p e s m below meth c S hr hlk hpre ls hl
  have S : CallFix p m c cX0_curvePlace 5 s [.ref (ad 8 i), .int p1, .int p2].toArray wsL_law RX0 := S
  obtain ⟨hK, hN, hX⟩ := hpre
  have hl : lv_has ls 5 [(0, .ref (ad 8 i)), (1, .int p1), (2, .int p2)] := hl
  have hs := sp_X0_curvePlace.eq_1 d i p1 p2
  refine lv_iconst (v := 0) S.1 S.2.1 dX0_curvePlace_0 (by decide) ?_
  refine lv_istore_n (lv' := [(3, .int 0), (0, .ref (ad 8 i)), (1, .int p1), (2, .int p2)]) S.1 S.2.1 dX0_curvePlace_1 rfl hl (by decide) rfl (fun ls hl => ?_)
  refine lv_iconst (v := 0) S.1 S.2.1 dX0_curvePlace_2 (by decide) ?_
  refine lv_istore (lv' := [(4, .int 0), (3, .int 0), (0, .ref (ad 8 i)), (1, .int p1), (2, .int p2)]) S.1 S.2.1 dX0_curvePlace_3 hl (by decide) rfl (fun ls hl => ?_)
  have L5 : ∀ (n : Nat), ∀ (x4 : Int32) (x3 : Int32), (d.1 8 i 6).toInt - x4.toInt < (n : Int) → 0 ≤ x4.toInt → x4.toInt ≤ (d.1 8 i 6).toInt → sp_X0_curvePlace d i p1 p2 = lp_X0_curvePlace_5 d i p1 p2 n x4 x3 → ∀ ls : Array Slot, lv_has ls 5 [(4, .int x4), (3, .int x3), (0, .ref (ad 8 i)), (1, .int p1), (2, .int p2)] → W p l e ({ frames := 1, cells := 0, slots := 0, locals := 23 } : Room) s m [.ref (ad 8 i), .int p1, .int p2].toArray below meth c s.heap [] 0 0 (MQ below (qV (some (.int (sp_X0_curvePlace d i p1 p2)))) [.ref (ad 8 i), .int p1, .int p2].toArray s 0 0 (fun _ => False)) (F0 m 5 ls []) := by
    intro n
    induction n with
    | zero => intro x4 x3 hms v5_0 v5_1 hs ls hl; omega
    | succ n ih5 =>
      intro x4 x3 hms v5_0 v5_1 hs ls hl
      have hs := hs.trans (st_X0_curvePlace_5.eq_1 d i p1 p2 (lp_X0_curvePlace_5 d i p1 p2 n) x4 x3)
      refine lv_iload S.1 S.2.1 dX0_curvePlace_5 (lv_at hl 0 rfl) ?_
      refine lv_aload_n S.1 S.2.1 dX0_curvePlace_7 rfl (lv_at hl 2 rfl) ?_
      refine gf_RX0_28 S hK hX hi (v := d.1 8 i 6) rfl dX0_curvePlace_8 ?_
      refine q_icmp_ge (tgt := 41) (xi := x4.toInt) (yi := (d.1 8 i 6).toInt) S rfl rfl dX0_curvePlace_11 (by decide) (fun c1 => ?_) (fun c1 => ?_)
      · have hs := hs.trans (cif_t c1)
        refine lv_bipush (v := (-9)) S.1 S.2.1 dX0_curvePlace_41 (by decide) ?_
        exact rI S hr hlk hs dX0_curvePlace_43
      · have hs := hs.trans (cif_f c1)
        refine lv_aload_n S.1 S.2.1 dX0_curvePlace_14 rfl (lv_at hl 2 rfl) ?_
        refine lv_iload S.1 S.2.1 dX0_curvePlace_15 (lv_at hl 0 rfl) ?_
        refine lv_iload_n S.1 S.2.1 dX0_curvePlace_17 rfl (lv_at hl 3 rfl) ?_
        refine cPV (rest := []) S (c_X0_isOnCurve l D G M T ad d i x4 p1 hi (by omega) (by omega) (by omega)) gV_RX0_38 ds_X0_isOnCurve ⟨rfl, rfl⟩ ⟨Nat.le_of_ble_eq_true rfl, Nat.le_of_ble_eq_true rfl⟩ ⟨blindX, recvX hK hX (k := 8) (i := i) hi rfl rfl, preX hK hN hX _⟩ rfl hl.1 rfl (Nat.le_of_ble_eq_true rfl) ⟨Nat.le_of_ble_eq_true rfl, Nat.le_of_ble_eq_true rfl⟩ dX0_curvePlace_18 ?_
        refine q_if_eq_b (tgt := 35) S dX0_curvePlace_21 (by decide) (fun c2 => ?_) (fun c2 => ?_)
        · have hs := hs.trans (cif_f c2)
          refine lv_iinc (v := x4 + 1) (lv' := [(4, .int (x4 + 1)), (3, .int x3), (0, .ref (ad 8 i)), (1, .int p1), (2, .int p2)]) S.1 S.2.1 dX0_curvePlace_35 hl (k := 0) rfl (by rfl) (by decide) rfl (fun ls hl => ?_)
          refine lv_goto (tgt := 5) S.1 S.2.1 dX0_curvePlace_38 (by decide) ?_
          have e9 : ((x4 + 1)).toInt = x4.toInt + 1 := ti1 (by omega)
          exact ih5 (x4 + 1) x3 (by omega) (by omega) (by omega) hs _ (lv_sub hl [0, 1, 2, 3, 4] rfl)
        · have hs := hs.trans (cif_t c2)
          refine lv_iload_n S.1 S.2.1 dX0_curvePlace_24 rfl (lv_at hl 1 rfl) ?_
          refine lv_iload_n S.1 S.2.1 dX0_curvePlace_25 rfl (lv_at hl 4 rfl) ?_
          refine q_icmp_ne (tgt := 32) (xi := x3.toInt) (yi := p2.toInt) S rfl rfl dX0_curvePlace_26 (by decide) (fun c3 => ?_) (fun c3 => ?_)
          · have hs := hs.trans (cif_f c3)
            refine lv_iinc (v := x3 + 1) (lv' := [(3, .int (x3 + 1)), (4, .int x4), (0, .ref (ad 8 i)), (1, .int p1), (2, .int p2)]) S.1 S.2.1 dX0_curvePlace_32 hl (k := 1) rfl (by rfl) (by decide) rfl (fun ls hl => ?_)
            refine lv_iinc (v := x4 + 1) (lv' := [(4, .int (x4 + 1)), (3, .int (x3 + 1)), (0, .ref (ad 8 i)), (1, .int p1), (2, .int p2)]) S.1 S.2.1 dX0_curvePlace_35 hl (k := 1) rfl (by rfl) (by decide) rfl (fun ls hl => ?_)
            refine lv_goto (tgt := 5) S.1 S.2.1 dX0_curvePlace_38 (by decide) ?_
            have e9 : ((x4 + 1)).toInt = x4.toInt + 1 := ti1 (by omega)
            exact ih5 (x4 + 1) (x3 + 1) (by omega) (by omega) (by omega) hs _ (lv_sub hl [0, 1, 2, 3, 4] rfl)
          · have hs := hs.trans (cif_t c3)
            refine lv_iload S.1 S.2.1 dX0_curvePlace_29 (lv_at hl 0 rfl) ?_
            exact rI S hr hlk hs dX0_curvePlace_31
  exact L5 16 0 0 (by first | omega | (simp only [Int32.toInt_zero]; omega)) (by first | omega | (simp only [Int32.toInt_zero]; omega)) (by first | omega | (simp only [Int32.toInt_zero]; omega)) hs _ (lv_sub hl [0, 1, 2, 3, 4] rfl)
set_option maxRecDepth 100000 in
set_option maxHeartbeats 8000000 in
theorem c_X0_factorAt (l : Launch) (D : va_G) (G : Gc) (M T : Nat) (ad : Nat → Nat → Nat) (d : Dt) (i : Nat) (p1 : Int32) (p2 : Int32) (hi : i < M) (h0 : 0 ≤ (d.1 8 i 6).toInt) (h1 : (d.1 8 i 6).toInt ≤ 12) : Met l yX0_factorAt (wsU yX0_factorAt cX0_factorAt 6 (some .int)) ({ frames := 1, cells := 0, slots := 0, locals := 24 } : Room) (va_Pc [.ref (ad 8 i), .int p1, .int p2] (XPre D (tysG G) (XF G M T ad) (XN M T) ad d)) (qV (some (.int (sp_X0_factorAt d i p1 p2)))) 0 0 (fun _ => False) := by
  refine ent (by decide +kernel) (Nat.le_of_ble_eq_true rfl) ?_
  intro p e s m below meth c S hr hlk hpre ls hl
  have S : CallFix p m c cX0_factorAt 6 s [.ref (ad 8 i), .int p1, .int p2].toArray wsL_law RX0 := S
  obtain ⟨hK, hN, hX⟩ := hpre
  have hl : lv_has ls 6 [(0, .ref (ad 8 i)), (1, .int p1), (2, .int p2)] := hl
  have hs := sp_X0_factorAt.eq_1 d i p1 p2
  refine lv_bipush (v := (-9)) S.1 S.2.1 dX0_factorAt_0 (by decide) ?_
  refine lv_istore_n (lv' := [(3, .int (-9)), (0, .ref (ad 8 i)), (1, .int p1), (2, .int p2)]) S.1 S.2.1 dX0_factorAt_2 rfl hl (by decide) rfl (fun ls hl => ?_)
  refine lv_bipush (v := (-9)) S.1 S.2.1 dX0_factorAt_3 (by decide) ?_
  refine lv_istore (lv' := [(4, .int (-9)), (3, .int (-9)), (0, .ref (ad 8 i)), (1, .int p1), (2, .int p2)]) S.1 S.2.1 dX0_factorAt_5 hl (by decide) rfl (fun ls hl => ?_)
  refine lv_iconst (v := 0) S.1 S.2.1 dX0_factorAt_7 (by decide) ?_
  refine lv_istore (lv' := [(5, .int 0), (4, .int (-9)), (3, .int (-9)), (0, .ref (ad 8 i)), (1, .int p1), (2, .int p2)]) S.1 S.2.1 dX0_factorAt_8 hl (by decide) rfl (fun ls hl => ?_)
  have L10 : ∀ (n : Nat), ∀ (x5 : Int32) (x4 : Int32) (x3 : Int32), (d.1 8 i 6).toInt - x5.toInt < (n : Int) → 0 ≤ x5.toInt → x5.toInt ≤ (d.1 8 i 6).toInt → (x3.toInt = -9 ∨ (0 ≤ x3.toInt ∧ x3.toInt < 12)) → (x4.toInt = -9 ∨ (0 ≤ x4.toInt ∧ x4.toInt < 12)) → sp_X0_factorAt d i p1 p2 = lp_X0_factorAt_10 d i p1 p2 n x5 x4 x3 → ∀ ls : Array Slot, lv_has ls 6 [(5, .int x5), (4, .int x4), (3, .int x3), (0, .ref (ad 8 i)), (1, .int p1), (2, .int p2)] → W p l e ({ frames := 1, cells := 0, slots := 0, locals := 24 } : Room) s m [.ref (ad 8 i), .int p1, .int p2].toArray below meth c s.heap [] 0 0 (MQ below (qV (some (.int (sp_X0_factorAt d i p1 p2)))) [.ref (ad 8 i), .int p1, .int p2].toArray s 0 0 (fun _ => False)) (F0 m 10 ls []) := by
    intro n
    induction n with
    | zero => intro x5 x4 x3 hms v10_0 v10_1 v10_2 v10_3 hs ls hl; omega
    | succ n ih10 =>
      intro x5 x4 x3 hms v10_0 v10_1 v10_2 v10_3 hs ls hl
      have hs := hs.trans (st_X0_factorAt_10.eq_1 d i p1 p2 (lp_X0_factorAt_10 d i p1 p2 n) x5 x4 x3)
      refine lv_iload S.1 S.2.1 dX0_factorAt_10 (lv_at hl 0 rfl) ?_
      refine lv_aload_n S.1 S.2.1 dX0_factorAt_12 rfl (lv_at hl 3 rfl) ?_
      refine gf_RX0_28 S hK hX hi (v := d.1 8 i 6) rfl dX0_factorAt_13 ?_
      refine q_icmp_ge (tgt := 71) (xi := x5.toInt) (yi := (d.1 8 i 6).toInt) S rfl rfl dX0_factorAt_16 (by decide) (fun c1 => ?_) (fun c1 => ?_)
      · have hs := hs.trans (cif_t c1)
        refine lv_iload_n S.1 S.2.1 dX0_factorAt_71 rfl (lv_at hl 2 rfl) ?_
        refine lv_bipush (v := (-9)) S.1 S.2.1 dX0_factorAt_72 (by decide) ?_
        refine q_icmp_ne (tgt := 97) (xi := x3.toInt) (yi := (-9)) S rfl rfl dX0_factorAt_74 (by decide) (fun c2 => ?_) (fun c2 => ?_)
        · have hs := hs.trans (cif_f c2)
          refine lv_iload S.1 S.2.1 dX0_factorAt_97 (lv_at hl 1 rfl) ?_
          refine lv_bipush (v := (-9)) S.1 S.2.1 dX0_factorAt_99 (by decide) ?_
          refine q_icmp_ne (tgt := 113) (xi := x4.toInt) (yi := (-9)) S rfl rfl dX0_factorAt_101 (by decide) (fun c3 => ?_) (fun c3 => ?_)
          · have hs := hs.trans (cif_f c3)
            refine lv_aload_n S.1 S.2.1 dX0_factorAt_113 rfl (lv_at hl 3 rfl) ?_
            refine lv_iload_n S.1 S.2.1 dX0_factorAt_114 rfl (lv_at hl 2 rfl) ?_
            refine lv_iload S.1 S.2.1 dX0_factorAt_115 (lv_at hl 1 rfl) ?_
            refine lv_iload_n S.1 S.2.1 dX0_factorAt_117 rfl (lv_at hl 4 rfl) ?_
            refine cPV (rest := []) S (c_X0_between l D G M T ad d i x3 x4 p1 hi (by omega) (by omega) (by omega) (by omega)) gV_RX0_43 ds_X0_between ⟨rfl, rfl⟩ ⟨Nat.le_of_ble_eq_true rfl, Nat.le_of_ble_eq_true rfl⟩ ⟨blindX, recvX hK hX (k := 8) (i := i) hi rfl rfl, preX hK hN hX _⟩ rfl hl.1 rfl (Nat.le_of_ble_eq_true rfl) ⟨Nat.le_of_ble_eq_true rfl, Nat.le_of_ble_eq_true rfl⟩ dX0_factorAt_118 ?_
            exact rI S hr hlk hs dX0_factorAt_121
          · have hs := hs.trans (cif_t c3)
            refine lv_aload_n S.1 S.2.1 dX0_factorAt_104 rfl (lv_at hl 3 rfl) ?_
            refine gf_RX0_25 S hK hX hi dX0_factorAt_105 ?_
            refine lv_iload_n S.1 S.2.1 dX0_factorAt_108 rfl (lv_at hl 2 rfl) ?_
            refine al_X12 S hK hX hi (by omega) (by omega) (z := d.1 12 i (ix x3)) rfl dX0_factorAt_109 ?_
            refine lv_goto (tgt := 121) S.1 S.2.1 dX0_factorAt_110 (by decide) ?_
            exact rI S hr hlk hs dX0_factorAt_121
        · have hs := hs.trans (cif_t c2)
          refine lv_iload S.1 S.2.1 dX0_factorAt_77 (lv_at hl 1 rfl) ?_
          refine lv_bipush (v := (-9)) S.1 S.2.1 dX0_factorAt_79 (by decide) ?_
          refine q_icmp_ne (tgt := 89) (xi := x4.toInt) (yi := (-9)) S rfl rfl dX0_factorAt_81 (by decide) (fun c4 => ?_) (fun c4 => ?_)
          · have hs := hs.trans (cif_f c4)
            refine lv_aload_n S.1 S.2.1 dX0_factorAt_89 rfl (lv_at hl 3 rfl) ?_
            refine gf_RX0_25 S hK hX hi dX0_factorAt_90 ?_
            refine lv_iload S.1 S.2.1 dX0_factorAt_93 (lv_at hl 1 rfl) ?_
            refine al_X12 S hK hX hi (by omega) (by omega) (z := d.1 12 i (ix x4)) rfl dX0_factorAt_95 ?_
            exact rI S hr hlk hs dX0_factorAt_96
          · have hs := hs.trans (cif_t c4)
            refine lv_ldc S.1 S.2.1 S.2.2.2.1 (S.2.2.2.2 _ wKI_RX0_42) dX0_factorAt_84 ?_
            refine lv_goto (tgt := 96) S.1 S.2.1 dX0_factorAt_86 (by decide) ?_
            exact rI S hr hlk hs dX0_factorAt_96
      · have hs := hs.trans (cif_f c1)
        refine lv_aload_n S.1 S.2.1 dX0_factorAt_19 rfl (lv_at hl 3 rfl) ?_
        refine lv_iload S.1 S.2.1 dX0_factorAt_20 (lv_at hl 0 rfl) ?_
        refine lv_iload_n S.1 S.2.1 dX0_factorAt_22 rfl (lv_at hl 5 rfl) ?_
        refine cPV (rest := []) S (c_X0_isOnCurve l D G M T ad d i x5 p2 hi (by omega) (by omega) (by omega)) gV_RX0_38 ds_X0_isOnCurve ⟨rfl, rfl⟩ ⟨Nat.le_of_ble_eq_true rfl, Nat.le_of_ble_eq_true rfl⟩ ⟨blindX, recvX hK hX (k := 8) (i := i) hi rfl rfl, preX hK hN hX _⟩ rfl hl.1 rfl (Nat.le_of_ble_eq_true rfl) ⟨Nat.le_of_ble_eq_true rfl, Nat.le_of_ble_eq_true rfl⟩ dX0_factorAt_23 ?_
        refine q_if_eq_b (tgt := 65) S dX0_factorAt_26 (by decide) (fun c5 => ?_) (fun c5 => ?_)
        · have hs := hs.trans (cif_f c5)
          refine lv_iinc (v := x5 + 1) (lv' := [(5, .int (x5 + 1)), (4, .int x4), (3, .int x3), (0, .ref (ad 8 i)), (1, .int p1), (2, .int p2)]) S.1 S.2.1 dX0_factorAt_65 hl (k := 0) rfl (by rfl) (by decide) rfl (fun ls hl => ?_)
          refine lv_goto (tgt := 10) S.1 S.2.1 dX0_factorAt_68 (by decide) ?_
          have e9 : ((x5 + 1)).toInt = x5.toInt + 1 := ti1 (by omega)
          exact ih10 (x5 + 1) x4 x3 (by omega) (by omega) (by omega) (by omega) (by omega) hs _ (lv_sub hl [0, 1, 2, 3, 4, 5] rfl)
        · have hs := hs.trans (cif_t c5)
          refine lv_aload_n S.1 S.2.1 dX0_factorAt_29 rfl (lv_at hl 3 rfl) ?_
          refine gf_RX0_19 S hK hX hi dX0_factorAt_30 ?_
          refine lv_iload S.1 S.2.1 dX0_factorAt_33 (lv_at hl 0 rfl) ?_
          refine al_X10 S hK hX hi (by omega) (by omega) (z := d.1 10 i (ix x5)) rfl dX0_factorAt_35 ?_
          refine lv_iload_n S.1 S.2.1 dX0_factorAt_36 rfl (lv_at hl 4 rfl) ?_
          refine q_icmp_gt (tgt := 43) (xi := (d.1 10 i (ix x5)).toInt) (yi := p1.toInt) S rfl rfl dX0_factorAt_37 (by decide) (fun c6 => ?_) (fun c6 => ?_)
          · have hs := hs.trans (cif_t c6)
            refine lv_aload_n S.1 S.2.1 dX0_factorAt_43 rfl (lv_at hl 3 rfl) ?_
            refine gf_RX0_19 S hK hX hi dX0_factorAt_44 ?_
            refine lv_iload S.1 S.2.1 dX0_factorAt_47 (lv_at hl 0 rfl) ?_
            refine al_X10 S hK hX hi (by omega) (by omega) (z := d.1 10 i (ix x5)) rfl dX0_factorAt_49 ?_
            refine lv_iload_n S.1 S.2.1 dX0_factorAt_50 rfl (lv_at hl 4 rfl) ?_
            refine q_icmp_lt (tgt := 65) (xi := (d.1 10 i (ix x5)).toInt) (yi := p1.toInt) S rfl rfl dX0_factorAt_51 (by decide) (fun c7 => ?_) (fun c7 => ?_)
            · have hs := hs.trans (cif_t c7)
              refine lv_iinc (v := x5 + 1) (lv' := [(5, .int (x5 + 1)), (4, .int x4), (3, .int x3), (0, .ref (ad 8 i)), (1, .int p1), (2, .int p2)]) S.1 S.2.1 dX0_factorAt_65 hl (k := 0) rfl (by rfl) (by decide) rfl (fun ls hl => ?_)
              refine lv_goto (tgt := 10) S.1 S.2.1 dX0_factorAt_68 (by decide) ?_
              have e9 : ((x5 + 1)).toInt = x5.toInt + 1 := ti1 (by omega)
              exact ih10 (x5 + 1) x4 x3 (by omega) (by omega) (by omega) (by omega) (by omega) hs _ (lv_sub hl [0, 1, 2, 3, 4, 5] rfl)
            · have hs := hs.trans (cif_f c7)
              refine lv_iload S.1 S.2.1 dX0_factorAt_54 (lv_at hl 1 rfl) ?_
              refine lv_bipush (v := (-9)) S.1 S.2.1 dX0_factorAt_56 (by decide) ?_
              refine q_icmp_ne (tgt := 65) (xi := x4.toInt) (yi := (-9)) S rfl rfl dX0_factorAt_58 (by decide) (fun c8 => ?_) (fun c8 => ?_)
              · have hs := hs.trans (cif_f c8)
                refine lv_iinc (v := x5 + 1) (lv' := [(5, .int (x5 + 1)), (4, .int x4), (3, .int x3), (0, .ref (ad 8 i)), (1, .int p1), (2, .int p2)]) S.1 S.2.1 dX0_factorAt_65 hl (k := 0) rfl (by rfl) (by decide) rfl (fun ls hl => ?_)
                refine lv_goto (tgt := 10) S.1 S.2.1 dX0_factorAt_68 (by decide) ?_
                have e9 : ((x5 + 1)).toInt = x5.toInt + 1 := ti1 (by omega)
                exact ih10 (x5 + 1) x4 x3 (by omega) (by omega) (by omega) (by omega) (by omega) hs _ (lv_sub hl [0, 1, 2, 3, 4, 5] rfl)
              · have hs := hs.trans (cif_t c8)
                refine lv_iload S.1 S.2.1 dX0_factorAt_61 (lv_at hl 0 rfl) ?_
                refine lv_istore (lv' := [(4, .int x5), (5, .int x5), (3, .int x3), (0, .ref (ad 8 i)), (1, .int p1), (2, .int p2)]) S.1 S.2.1 dX0_factorAt_63 hl (by decide) rfl (fun ls hl => ?_)
                refine lv_iinc (v := x5 + 1) (lv' := [(5, .int (x5 + 1)), (4, .int x5), (3, .int x3), (0, .ref (ad 8 i)), (1, .int p1), (2, .int p2)]) S.1 S.2.1 dX0_factorAt_65 hl (k := 1) rfl (by rfl) (by decide) rfl (fun ls hl => ?_)
                refine lv_goto (tgt := 10) S.1 S.2.1 dX0_factorAt_68 (by decide) ?_
                have e9 : ((x5 + 1)).toInt = x5.toInt + 1 := ti1 (by omega)
                exact ih10 (x5 + 1) x5 x3 (by omega) (by omega) (by omega) (by omega) (by omega) hs _ (lv_sub hl [0, 1, 2, 3, 4, 5] rfl)
          · have hs := hs.trans (cif_f c6)
            refine lv_iload S.1 S.2.1 dX0_factorAt_40 (lv_at hl 0 rfl) ?_
            refine lv_istore_n (lv' := [(3, .int x5), (5, .int x5), (4, .int x4), (0, .ref (ad 8 i)), (1, .int p1), (2, .int p2)]) S.1 S.2.1 dX0_factorAt_42 rfl hl (by decide) rfl (fun ls hl => ?_)
            refine lv_aload_n S.1 S.2.1 dX0_factorAt_43 rfl (lv_at hl 3 rfl) ?_
            refine gf_RX0_19 S hK hX hi dX0_factorAt_44 ?_
            refine lv_iload S.1 S.2.1 dX0_factorAt_47 (lv_at hl 1 rfl) ?_
            refine al_X10 S hK hX hi (by omega) (by omega) (z := d.1 10 i (ix x5)) rfl dX0_factorAt_49 ?_
            refine lv_iload_n S.1 S.2.1 dX0_factorAt_50 rfl (lv_at hl 4 rfl) ?_
            refine q_icmp_lt (tgt := 65) (xi := (d.1 10 i (ix x5)).toInt) (yi := p1.toInt) S rfl rfl dX0_factorAt_51 (by decide) (fun c9 => ?_) (fun c9 => ?_)
            · have hs := hs.trans (cif_t c9)
              refine lv_iinc (v := x5 + 1) (lv' := [(5, .int (x5 + 1)), (3, .int x5), (4, .int x4), (0, .ref (ad 8 i)), (1, .int p1), (2, .int p2)]) S.1 S.2.1 dX0_factorAt_65 hl (k := 1) rfl (by rfl) (by decide) rfl (fun ls hl => ?_)
              refine lv_goto (tgt := 10) S.1 S.2.1 dX0_factorAt_68 (by decide) ?_
              have e9 : ((x5 + 1)).toInt = x5.toInt + 1 := ti1 (by omega)
              exact ih10 (x5 + 1) x4 x5 (by omega) (by omega) (by omega) (by omega) (by omega) hs _ (lv_sub hl [0, 2, 1, 3, 4, 5] rfl)
            · have hs := hs.trans (cif_f c9)
              refine lv_iload S.1 S.2.1 dX0_factorAt_54 (lv_at hl 2 rfl) ?_
              refine lv_bipush (v := (-9)) S.1 S.2.1 dX0_factorAt_56 (by decide) ?_
              refine q_icmp_ne (tgt := 65) (xi := x4.toInt) (yi := (-9)) S rfl rfl dX0_factorAt_58 (by decide) (fun c10 => ?_) (fun c10 => ?_)
              · have hs := hs.trans (cif_f c10)
                refine lv_iinc (v := x5 + 1) (lv' := [(5, .int (x5 + 1)), (3, .int x5), (4, .int x4), (0, .ref (ad 8 i)), (1, .int p1), (2, .int p2)]) S.1 S.2.1 dX0_factorAt_65 hl (k := 1) rfl (by rfl) (by decide) rfl (fun ls hl => ?_)
                refine lv_goto (tgt := 10) S.1 S.2.1 dX0_factorAt_68 (by decide) ?_
                have e9 : ((x5 + 1)).toInt = x5.toInt + 1 := ti1 (by omega)
                exact ih10 (x5 + 1) x4 x5 (by omega) (by omega) (by omega) (by omega) (by omega) hs _ (lv_sub hl [0, 2, 1, 3, 4, 5] rfl)
              · have hs := hs.trans (cif_t c10)
                refine lv_iload S.1 S.2.1 dX0_factorAt_61 (lv_at hl 1 rfl) ?_
                refine lv_istore (lv' := [(4, .int x5), (3, .int x5), (5, .int x5), (0, .ref (ad 8 i)), (1, .int p1), (2, .int p2)]) S.1 S.2.1 dX0_factorAt_63 hl (by decide) rfl (fun ls hl => ?_)
                refine lv_iinc (v := x5 + 1) (lv' := [(5, .int (x5 + 1)), (4, .int x5), (3, .int x5), (0, .ref (ad 8 i)), (1, .int p1), (2, .int p2)]) S.1 S.2.1 dX0_factorAt_65 hl (k := 2) rfl (by rfl) (by decide) rfl (fun ls hl => ?_)
                refine lv_goto (tgt := 10) S.1 S.2.1 dX0_factorAt_68 (by decide) ?_
                have e9 : ((x5 + 1)).toInt = x5.toInt + 1 := ti1 (by omega)
                exact ih10 (x5 + 1) x5 x5 (by omega) (by omega) (by omega) (by omega) (by omega) hs _ (lv_sub hl [0, 1, 2, 3, 4, 5] rfl)
  exact L10 16 0 (-9) (-9) (by first | omega | (simp only [Int32.toInt_zero]; omega)) (by first | omega | (simp only [Int32.toInt_zero]; omega)) (by first | omega | (simp only [Int32.toInt_zero]; omega)) (Or.inl rfl) (Or.inl rfl) hs _ (lv_sub hl [0, 1, 2, 3, 4, 5] rfl)
set_option maxRecDepth 100000 in
set_option maxHeartbeats 8000000 in
theorem c_X1_isGood (l : Launch) (D : va_G) (G : Gc) (M T : Nat) (ad : Nat → Nat → Nat) (d : Dt) (h0 : 0 ≤ (d.1 2 0 5).toInt) (h1 : (d.1 2 0 5).toInt ≤ 12) : Met l yX1_isGood (wsU yX1_isGood cX1_isGood 6 (some .boolean)) ({ frames := 1, cells := 0, slots := 0, locals := 24 } : Room) (va_Pc [.ref (ad 2 0)] (XPre D (tysG G) (XF G M T ad) (XN M T) ad d)) (qV (some (.int (b2i (sp_X1_isGood d))))) 0 0 (fun _ => False) := by
  refine ent (by decide +kernel) (Nat.le_of_ble_eq_true rfl) ?_
  intro p e s m below meth c S hr hlk hpre ls hl
  have S : CallFix p m c cX1_isGood 6 s [.ref (ad 2 0)].toArray wsL_law RX1 := S
  obtain ⟨hK, hN, hX⟩ := hpre
  have hl : lv_has ls 6 [(0, .ref (ad 2 0))] := hl
  have hs := sp_X1_isGood.eq_1 d
  refine lv_aload_n S.1 S.2.1 dX1_isGood_0 rfl (lv_at hl 0 rfl) ?_
  refine gf_RX1_29 S hK hX (v := d.1 2 0 5) rfl dX1_isGood_1 ?_
  refine lv_iconst (v := 5) S.1 S.2.1 dX1_isGood_4 (by decide) ?_
  refine q_icmp_ge (tgt := 10) (xi := (d.1 2 0 5).toInt) (yi := 5) S rfl rfl dX1_isGood_5 (by decide) (fun c1 => ?_) (fun c1 => ?_)
  · have hs := hs.trans (cif_t c1)
    have e1 := ts1 (x := d.1 2 0 5) (by omega)
    have e2 : (d.1 2 0 5 - 5).toInt = (d.1 2 0 5).toInt - 5 := ti_sub (by rw [show (5 : Int32).toInt = 5 from rfl]; omega) (by rw [show (5 : Int32).toInt = 5 from rfl]; omega)
    refine lv_aload_n S.1 S.2.1 dX1_isGood_10 rfl (lv_at hl 0 rfl) ?_
    refine gf_RX1_25 S hK hX dX1_isGood_11 ?_
    refine lv_aload_n S.1 S.2.1 dX1_isGood_14 rfl (lv_at hl 0 rfl) ?_
    refine gf_RX1_29 S hK hX (v := d.1 2 0 5) rfl dX1_isGood_15 ?_
    refine lv_iconst (v := 1) S.1 S.2.1 dX1_isGood_18 (by decide) ?_
    refine lv_isub S.1 S.2.1 dX1_isGood_19 ?_
    refine al_X3 S hK hX (by omega) (by omega) (z := d.2 3 0 (ix ((d.1 2 0 5) - 1))) rfl dX1_isGood_20 ?_
    refine lv_lstore_n (lv' := [(1, .long (d.2 3 0 (ix ((d.1 2 0 5) - 1)))), (0, .ref (ad 2 0))]) S.1 S.2.1 dX1_isGood_21 rfl hl (by decide) rfl (fun ls hl => ?_)
    refine lv_lload_n S.1 S.2.1 dX1_isGood_22 rfl (lv_at hl 0 rfl) ?_
    refine lv_lstore_n (lv' := [(3, .long (d.2 3 0 (ix ((d.1 2 0 5) - 1)))), (1, .long (d.2 3 0 (ix ((d.1 2 0 5) - 1)))), (0, .ref (ad 2 0))]) S.1 S.2.1 dX1_isGood_23 rfl hl (by decide) rfl (fun ls hl => ?_)
    refine lv_aload_n S.1 S.2.1 dX1_isGood_24 rfl (lv_at hl 2 rfl) ?_
    refine gf_RX1_29 S hK hX (v := d.1 2 0 5) rfl dX1_isGood_25 ?_
    refine lv_iconst (v := 5) S.1 S.2.1 dX1_isGood_28 (by decide) ?_
    refine lv_isub S.1 S.2.1 dX1_isGood_29 ?_
    refine lv_istore (lv' := [(5, .int ((d.1 2 0 5) - 5)), (3, .long (d.2 3 0 (ix ((d.1 2 0 5) - 1)))), (1, .long (d.2 3 0 (ix ((d.1 2 0 5) - 1)))), (0, .ref (ad 2 0))]) S.1 S.2.1 dX1_isGood_30 hl (by decide) rfl (fun ls hl => ?_)
    have L32 : ∀ (n : Nat), ∀ (x5 : Int32) (x3 : Int64) (x1 : Int64), (d.1 2 0 5).toInt - x5.toInt < (n : Int) → 0 ≤ x5.toInt → x5.toInt ≤ (d.1 2 0 5).toInt → sp_X1_isGood d = lp_X1_isGood_32 d n x5 x3 x1 → ∀ ls : Array Slot, lv_has ls 6 [(5, .int x5), (3, .long x3), (1, .long x1), (0, .ref (ad 2 0))] → W p l e ({ frames := 1, cells := 0, slots := 0, locals := 24 } : Room) s m [.ref (ad 2 0)].toArray below meth c s.heap [] 0 0 (MQ below (qV (some (.int (b2i (sp_X1_isGood d))))) [.ref (ad 2 0)].toArray s 0 0 (fun _ => False)) (F0 m 32 ls []) := by
      intro n
      induction n with
      | zero => intro x5 x3 x1 hms v32_0 v32_1 hs ls hl; omega
      | succ n ih32 =>
        intro x5 x3 x1 hms v32_0 v32_1 hs ls hl
        have hs := hs.trans (st_X1_isGood_32.eq_1 d (lp_X1_isGood_32 d n) x5 x3 x1)
        refine lv_iload S.1 S.2.1 dX1_isGood_32 (lv_at hl 0 rfl) ?_
        refine lv_aload_n S.1 S.2.1 dX1_isGood_34 rfl (lv_at hl 3 rfl) ?_
        refine gf_RX1_29 S hK hX (v := d.1 2 0 5) rfl dX1_isGood_35 ?_
        refine q_icmp_ge (tgt := 71) (xi := x5.toInt) (yi := (d.1 2 0 5).toInt) S rfl rfl dX1_isGood_38 (by decide) (fun c2 => ?_) (fun c2 => ?_)
        · have hs := hs.trans (cif_t c2)
          refine lv_lload_n S.1 S.2.1 dX1_isGood_71 rfl (lv_at hl 2 rfl) ?_
          refine lv_lconst (v := 0) S.1 S.2.1 dX1_isGood_72 (by decide) ?_
          refine q_lcmp_le (tgt := 93) (xi := x1.toInt) (yi := 0) S rfl rfl dX1_isGood_73 dX1_isGood_74 (by decide) (fun c3 => ?_) (fun c3 => ?_)
          · have hs := hs.trans (cif_t c3)
            refine lv_iconst (v := 0) S.1 S.2.1 dX1_isGood_93 (by decide) ?_
            exact rZ S hr hlk hs b2i_F.symm dX1_isGood_94
          · have hs := hs.trans (cif_f c3)
            refine lv_ldc2 S.1 S.2.1 S.2.2.2.1 (S.2.2.2.2 _ wKL_RX1_41) dX1_isGood_77 ?_
            refine lv_lload_n S.1 S.2.1 dX1_isGood_80 rfl (lv_at hl 1 rfl) ?_
            refine lv_lload_n S.1 S.2.1 dX1_isGood_81 rfl (lv_at hl 2 rfl) ?_
            refine lv_lsub S.1 S.2.1 dX1_isGood_82 ?_
            refine lv_lmul S.1 S.2.1 dX1_isGood_83 ?_
            refine lv_lload_n S.1 S.2.1 dX1_isGood_84 rfl (lv_at hl 2 rfl) ?_
            refine q_lcmp_gt (tgt := 93) (xi := (2000 * (x3 - x1)).toInt) (yi := x1.toInt) S rfl rfl dX1_isGood_85 dX1_isGood_86 (by decide) (fun c4 => ?_) (fun c4 => ?_)
            · have hs := hs.trans (cif_t c4)
              refine lv_iconst (v := 0) S.1 S.2.1 dX1_isGood_93 (by decide) ?_
              exact rZ S hr hlk hs b2i_F.symm dX1_isGood_94
            · have hs := hs.trans (cif_f c4)
              refine lv_iconst (v := 1) S.1 S.2.1 dX1_isGood_89 (by decide) ?_
              refine lv_goto (tgt := 94) S.1 S.2.1 dX1_isGood_90 (by decide) ?_
              exact rZ S hr hlk hs b2i_T.symm dX1_isGood_94
        · have hs := hs.trans (cif_f c2)
          refine lv_lload_n S.1 S.2.1 dX1_isGood_41 rfl (lv_at hl 2 rfl) ?_
          refine lv_aload_n S.1 S.2.1 dX1_isGood_42 rfl (lv_at hl 3 rfl) ?_
          refine gf_RX1_25 S hK hX dX1_isGood_43 ?_
          refine lv_iload S.1 S.2.1 dX1_isGood_46 (lv_at hl 0 rfl) ?_
          refine al_X3 S hK hX (by omega) (by omega) (z := d.2 3 0 (ix x5)) rfl dX1_isGood_48 ?_
          refine va_mmin_long S.1 S.2.1 (S.2.2.1.trans hl.1.symm) S.2.2.2.1 (S.2.2.2.2 _ wML_RX1_32) (S.2.2.2.2 _ wST_J9_min_f86c9) (S.2.2.2.2 _ wIN_RJ9) (S.2.2.2.2 _ wCO_J9_min_f86c9) (Nat.le_of_ble_eq_true rfl) (Nat.le_of_ble_eq_true rfl) (Nat.le_of_ble_eq_true rfl) (Nat.le_of_ble_eq_true rfl) dX1_isGood_49 ?_
          refine lv_lstore_n (lv' := [(1, .long (if (d.2 3 0 (ix x5)) < x1 then (d.2 3 0 (ix x5)) else x1)), (5, .int x5), (3, .long x3), (0, .ref (ad 2 0))]) S.1 S.2.1 dX1_isGood_52 rfl hl (by decide) rfl (fun ls hl => ?_)
          refine lv_lload_n S.1 S.2.1 dX1_isGood_53 rfl (lv_at hl 2 rfl) ?_
          refine lv_aload_n S.1 S.2.1 dX1_isGood_54 rfl (lv_at hl 3 rfl) ?_
          refine gf_RX1_25 S hK hX dX1_isGood_55 ?_
          refine lv_iload S.1 S.2.1 dX1_isGood_58 (lv_at hl 1 rfl) ?_
          refine al_X3 S hK hX (by omega) (by omega) (z := d.2 3 0 (ix x5)) rfl dX1_isGood_60 ?_
          refine va_mmax_long S.1 S.2.1 (S.2.2.1.trans hl.1.symm) S.2.2.2.1 (S.2.2.2.2 _ wML_RX1_38) (S.2.2.2.2 _ wST_J9_max_f86c9) (S.2.2.2.2 _ wIN_RJ9) (S.2.2.2.2 _ wCO_J9_max_f86c9) (Nat.le_of_ble_eq_true rfl) (Nat.le_of_ble_eq_true rfl) (Nat.le_of_ble_eq_true rfl) (Nat.le_of_ble_eq_true rfl) dX1_isGood_61 ?_
          refine lv_lstore_n (lv' := [(3, .long (if (d.2 3 0 (ix x5)) < x3 then x3 else (d.2 3 0 (ix x5)))), (1, .long (if (d.2 3 0 (ix x5)) < x1 then (d.2 3 0 (ix x5)) else x1)), (5, .int x5), (0, .ref (ad 2 0))]) S.1 S.2.1 dX1_isGood_64 rfl hl (by decide) rfl (fun ls hl => ?_)
          refine lv_iinc (v := x5 + 1) (lv' := [(5, .int (x5 + 1)), (3, .long (if (d.2 3 0 (ix x5)) < x3 then x3 else (d.2 3 0 (ix x5)))), (1, .long (if (d.2 3 0 (ix x5)) < x1 then (d.2 3 0 (ix x5)) else x1)), (0, .ref (ad 2 0))]) S.1 S.2.1 dX1_isGood_65 hl (k := 2) rfl (by rfl) (by decide) rfl (fun ls hl => ?_)
          refine lv_goto (tgt := 32) S.1 S.2.1 dX1_isGood_68 (by decide) ?_
          have e9 : ((x5 + 1)).toInt = x5.toInt + 1 := ti1 (by omega)
          exact ih32 (x5 + 1) (if (d.2 3 0 (ix x5)) < x3 then x3 else (d.2 3 0 (ix x5))) (if (d.2 3 0 (ix x5)) < x1 then (d.2 3 0 (ix x5)) else x1) (by omega) (by omega) (by omega) hs _ (lv_sub hl [0, 1, 2, 3] rfl)
    exact L32 16 ((d.1 2 0 5) - 5) (d.2 3 0 (ix ((d.1 2 0 5) - 1))) (d.2 3 0 (ix ((d.1 2 0 5) - 1))) (by first | omega | (simp only [Int32.toInt_zero]; omega)) (by first | omega | (simp only [Int32.toInt_zero]; omega)) (by first | omega | (simp only [Int32.toInt_zero]; omega)) hs _ (lv_sub hl [0, 1, 2, 3] rfl)
  · have hs := hs.trans (cif_f c1)
    refine lv_iconst (v := 0) S.1 S.2.1 dX1_isGood_8 (by decide) ?_
    exact rZ S hr hlk hs b2i_F.symm dX1_isGood_9
set_option maxRecDepth 100000 in
set_option maxHeartbeats 8000000 in
theorem c_X1_factorOf (l : Launch) (D : va_G) (G : Gc) (M T : Nat) (ad : Nat → Nat → Nat) (d : Dt) (p1 : Int32) (h0 : 5 ≤ (d.1 2 0 5).toInt) (h1 : (d.1 2 0 5).toInt ≤ 12) : Met l yX1_factorOf (wsU yX1_factorOf cX1_factorOf 5 (some .long)) ({ frames := 1, cells := 0, slots := 0, locals := 24 } : Room) (va_Pc [.ref (ad 2 0), .int p1] (XPre D (tysG G) (XF G M T ad) (XN M T) ad d)) (qV (some (.long (sp_X1_factorOf d p1)))) 0 0 (fun _ => False) := by
  refine ent (by decide +kernel) (Nat.le_of_ble_eq_true rfl) ?_
  intro p e s m below meth c S hr hlk hpre ls hl
  have S : CallFix p m c cX1_factorOf 5 s [.ref (ad 2 0), .int p1].toArray wsL_law RX1 := S
  obtain ⟨hK, hN, hX⟩ := hpre
  have hl : lv_has ls 5 [(0, .ref (ad 2 0)), (1, .int p1)] := hl
  have hs := sp_X1_factorOf.eq_1 d p1
  refine lv_lconst (v := 0) S.1 S.2.1 dX1_factorOf_0 (by decide) ?_
  refine lv_lstore_n (lv' := [(2, .long 0), (0, .ref (ad 2 0)), (1, .int p1)]) S.1 S.2.1 dX1_factorOf_1 rfl hl (by decide) rfl (fun ls hl => ?_)
  refine lv_iconst (v := 0) S.1 S.2.1 dX1_factorOf_2 (by decide) ?_
  refine lv_aload_n S.1 S.2.1 dX1_factorOf_3 rfl (lv_at hl 1 rfl) ?_
  refine gf_RX1_29 S hK hX (v := d.1 2 0 5) rfl dX1_factorOf_4 ?_
  refine lv_iconst (v := 5) S.1 S.2.1 dX1_factorOf_7 (by decide) ?_
  refine lv_isub S.1 S.2.1 dX1_factorOf_8 ?_
  refine va_mmax S.1 S.2.1 (S.2.2.1.trans hl.1.symm) S.2.2.2.1 (S.2.2.2.2 _ wML_RX1_43) (S.2.2.2.2 _ wST_J9_max_7cf53) (S.2.2.2.2 _ wIN_RJ9) (S.2.2.2.2 _ wCO_J9_max_7cf53) (Nat.le_of_ble_eq_true rfl) (Nat.le_of_ble_eq_true rfl) (Nat.le_of_ble_eq_true rfl) (Nat.le_of_ble_eq_true rfl) dX1_factorOf_9 ?_
  have e2 : (d.1 2 0 5 - 5).toInt = (d.1 2 0 5).toInt - 5 := ti_sub (by rw [show (5 : Int32).toInt = 5 from rfl]; omega) (by rw [show (5 : Int32).toInt = 5 from rfl]; omega)
  have e3 := mx0 (x := d.1 2 0 5 - 5) (by omega)
  refine lv_istore (lv' := [(4, .int (if (0 : Int32) < ((d.1 2 0 5) - 5) then ((d.1 2 0 5) - 5) else 0)), (2, .long 0), (0, .ref (ad 2 0)), (1, .int p1)]) S.1 S.2.1 dX1_factorOf_12 hl (by decide) rfl (fun ls hl => ?_)
  have L14 : ∀ (n : Nat), ∀ (x4 : Int32) (x2 : Int64), (d.1 2 0 5).toInt - x4.toInt < (n : Int) → 0 ≤ x4.toInt → x4.toInt ≤ (d.1 2 0 5).toInt → sp_X1_factorOf d p1 = lp_X1_factorOf_14 d p1 n x4 x2 → ∀ ls : Array Slot, lv_has ls 5 [(4, .int x4), (2, .long x2), (0, .ref (ad 2 0)), (1, .int p1)] → W p l e ({ frames := 1, cells := 0, slots := 0, locals := 24 } : Room) s m [.ref (ad 2 0), .int p1].toArray below meth c s.heap [] 0 0 (MQ below (qV (some (.long (sp_X1_factorOf d p1)))) [.ref (ad 2 0), .int p1].toArray s 0 0 (fun _ => False)) (F0 m 14 ls []) := by
    intro n
    induction n with
    | zero => intro x4 x2 hms v14_0 v14_1 hs ls hl; omega
    | succ n ih14 =>
      intro x4 x2 hms v14_0 v14_1 hs ls hl
      have hs := hs.trans (st_X1_factorOf_14.eq_1 d p1 (lp_X1_factorOf_14 d p1 n) x4 x2)
      refine lv_iload S.1 S.2.1 dX1_factorOf_14 (lv_at hl 0 rfl) ?_
      refine lv_aload_n S.1 S.2.1 dX1_factorOf_16 rfl (lv_at hl 2 rfl) ?_
      refine gf_RX1_29 S hK hX (v := d.1 2 0 5) rfl dX1_factorOf_17 ?_
      refine q_icmp_ge (tgt := 39) (xi := x4.toInt) (yi := (d.1 2 0 5).toInt) S rfl rfl dX1_factorOf_20 (by decide) (fun c1 => ?_) (fun c1 => ?_)
      · have hs := hs.trans (cif_t c1)
        refine lv_ldc2 S.1 S.2.1 S.2.2.2.1 (S.2.2.2.2 _ wKL_RX1_46) dX1_factorOf_39 ?_
        refine lv_aload_n S.1 S.2.1 dX1_factorOf_42 rfl (lv_at hl 2 rfl) ?_
        refine gf_RX1_22 S hK hX (v := d.1 2 0 3) rfl dX1_factorOf_43 ?_
        refine lv_i2l S.1 S.2.1 dX1_factorOf_46 rfl ?_
        refine lv_lmul S.1 S.2.1 dX1_factorOf_47 ?_
        refine lv_iload_n S.1 S.2.1 dX1_factorOf_48 rfl (lv_at hl 3 rfl) ?_
        refine lv_i2l S.1 S.2.1 dX1_factorOf_49 rfl ?_
        refine lv_lmul S.1 S.2.1 dX1_factorOf_50 ?_
        refine lv_lload_n S.1 S.2.1 dX1_factorOf_51 rfl (lv_at hl 1 rfl) ?_
        refine cPSN (rest := []) S (c_X4_rounded l ((500 * ((d.1 2 0 3).toInt64)) * p1.toInt64) x2) (NW.l_RX1_48 hN) wST_X4_rounded wIN_RX4 wCO_X4_rounded ds_X4_rounded.2 ⟨rfl, rfl⟩ ⟨Nat.le_of_ble_eq_true rfl, Nat.le_of_ble_eq_true rfl⟩ rfl hl.1 rfl (Nat.le_of_ble_eq_true rfl) ⟨Nat.le_of_ble_eq_true rfl, Nat.le_of_ble_eq_true rfl⟩ dX1_factorOf_52 ?_
        exact rL S hr hlk hs dX1_factorOf_55
      · have hs := hs.trans (cif_f c1)
        refine lv_lload_n S.1 S.2.1 dX1_factorOf_23 rfl (lv_at hl 1 rfl) ?_
        refine lv_aload_n S.1 S.2.1 dX1_factorOf_24 rfl (lv_at hl 2 rfl) ?_
        refine gf_RX1_25 S hK hX dX1_factorOf_25 ?_
        refine lv_iload S.1 S.2.1 dX1_factorOf_28 (lv_at hl 0 rfl) ?_
        refine al_X3 S hK hX (by omega) (by omega) (z := d.2 3 0 (ix x4)) rfl dX1_factorOf_30 ?_
        refine lv_ladd S.1 S.2.1 dX1_factorOf_31 ?_
        refine lv_lstore_n (lv' := [(2, .long (x2 + (d.2 3 0 (ix x4)))), (4, .int x4), (0, .ref (ad 2 0)), (1, .int p1)]) S.1 S.2.1 dX1_factorOf_32 rfl hl (by decide) rfl (fun ls hl => ?_)
        refine lv_iinc (v := x4 + 1) (lv' := [(4, .int (x4 + 1)), (2, .long (x2 + (d.2 3 0 (ix x4)))), (0, .ref (ad 2 0)), (1, .int p1)]) S.1 S.2.1 dX1_factorOf_33 hl (k := 1) rfl (by rfl) (by decide) rfl (fun ls hl => ?_)
        refine lv_goto (tgt := 14) S.1 S.2.1 dX1_factorOf_36 (by decide) ?_
        have e9 : ((x4 + 1)).toInt = x4.toInt + 1 := ti1 (by omega)
        exact ih14 (x4 + 1) (x2 + (d.2 3 0 (ix x4))) (by omega) (by omega) (by omega) hs _ (lv_sub hl [0, 1, 2, 3] rfl)
  exact L14 16 (if (0 : Int32) < ((d.1 2 0 5) - 5) then ((d.1 2 0 5) - 5) else 0) 0 (by first | omega | (simp only [Int32.toInt_zero]; omega)) (by first | omega | (simp only [Int32.toInt_zero]; omega)) (by first | omega | (simp only [Int32.toInt_zero]; omega)) hs _ (lv_sub hl [0, 1, 2, 3] rfl)
set_option maxRecDepth 100000 in
set_option maxHeartbeats 8000000 in
theorem c_X2_hasCell (l : Launch) (D : va_G) (G : Gc) (M T : Nat) (ad : Nat → Nat → Nat) (d : Dt) (i : Nat) (p1 : Int32) (hi : i < 4) : Met l yX2_hasCell (wsU yX2_hasCell cX2_hasCell 2 (some .boolean)) ({ frames := 1, cells := 0, slots := 0, locals := 22 } : Room) (va_Pc [.ref (ad 6 i), .int p1] (XPre D (tysG G) (XF G M T ad) (XN M T) ad d)) (qV (some (.int (b2i (sp_X2_hasCell d i p1))))) 0 0 (fun _ => False) := by
  refine ent (by decide +kernel) (Nat.le_of_ble_eq_true rfl) ?_
  intro p e s m below meth c S hr hlk hpre ls hl
  have S : CallFix p m c cX2_hasCell 2 s [.ref (ad 6 i), .int p1].toArray wsL_law RX2 := S
  obtain ⟨hK, hN, hX⟩ := hpre
  have hl : lv_has ls 2 [(0, .ref (ad 6 i)), (1, .int p1)] := hl
  have hs := sp_X2_hasCell.eq_1 d i p1
  refine lv_iload_n S.1 S.2.1 dX2_hasCell_0 rfl (lv_at hl 1 rfl) ?_
  refine lv_iconst (v := 0) S.1 S.2.1 dX2_hasCell_1 (by decide) ?_
  refine lv_aload_n S.1 S.2.1 dX2_hasCell_2 rfl (lv_at hl 0 rfl) ?_
  refine gf_RX2_23 S hK hX hi (v := d.1 6 i 3) rfl dX2_hasCell_3 ?_
  refine lv_iconst (v := 1) S.1 S.2.1 dX2_hasCell_6 (by decide) ?_
  refine lv_isub S.1 S.2.1 dX2_hasCell_7 ?_
  refine cPSN (rest := []) S (c_X4_isWithin l p1 0 ((d.1 6 i 3) - 1)) (NW.l_RX2_32 hN) wST_X4_isWithin wIN_RX4 wCO_X4_isWithin ds_X4_isWithin.2 ⟨rfl, rfl⟩ ⟨Nat.le_of_ble_eq_true rfl, Nat.le_of_ble_eq_true rfl⟩ rfl hl.1 rfl (Nat.le_of_ble_eq_true rfl) ⟨Nat.le_of_ble_eq_true rfl, Nat.le_of_ble_eq_true rfl⟩ dX2_hasCell_8 ?_
  exact rZ S hr hlk hs rfl dX2_hasCell_11
set_option maxRecDepth 100000 in
set_option maxHeartbeats 8000000 in
theorem c_X2_hasCells (l : Launch) (D : va_G) (G : Gc) (M T : Nat) (ad : Nat → Nat → Nat) (d : Dt) (i : Nat) (p1 : Int32) (p2 : Int32) (hi : i < 4) : Met l yX2_hasCells (wsU yX2_hasCells cX2_hasCells 3 (some .boolean)) ({ frames := 1, cells := 0, slots := 0, locals := 22 } : Room) (va_Pc [.ref (ad 6 i), .int p1, .int p2] (XPre D (tysG G) (XF G M T ad) (XN M T) ad d)) (qV (some (.int (b2i (sp_X2_hasCells d i p1 p2))))) 0 0 (fun _ => False) := by
  refine ent (by decide +kernel) (Nat.le_of_ble_eq_true rfl) ?_
  intro p e s m below meth c S hr hlk hpre ls hl
  have S : CallFix p m c cX2_hasCells 3 s [.ref (ad 6 i), .int p1, .int p2].toArray wsL_law RX2 := S
  obtain ⟨hK, hN, hX⟩ := hpre
  have hl : lv_has ls 3 [(0, .ref (ad 6 i)), (1, .int p1), (2, .int p2)] := hl
  have hs := sp_X2_hasCells.eq_1 d i p1 p2
  refine lv_iload_n S.1 S.2.1 dX2_hasCells_0 rfl (lv_at hl 1 rfl) ?_
  refine lv_iconst (v := 0) S.1 S.2.1 dX2_hasCells_1 (by decide) ?_
  refine lv_aload_n S.1 S.2.1 dX2_hasCells_2 rfl (lv_at hl 0 rfl) ?_
  refine gf_RX2_23 S hK hX hi (v := d.1 6 i 3) rfl dX2_hasCells_3 ?_
  refine cPSN (rest := []) S (c_X4_isWithin l p1 0 (d.1 6 i 3)) (NW.l_RX2_32 hN) wST_X4_isWithin wIN_RX4 wCO_X4_isWithin ds_X4_isWithin.2 ⟨rfl, rfl⟩ ⟨Nat.le_of_ble_eq_true rfl, Nat.le_of_ble_eq_true rfl⟩ rfl hl.1 rfl (Nat.le_of_ble_eq_true rfl) ⟨Nat.le_of_ble_eq_true rfl, Nat.le_of_ble_eq_true rfl⟩ dX2_hasCells_6 ?_
  refine q_if_eq_b (tgt := 30) S dX2_hasCells_9 (by decide) (fun c1 => ?_) (fun c1 => ?_)
  · have hs := hs.trans (cif_f c1)
    refine lv_iconst (v := 0) S.1 S.2.1 dX2_hasCells_30 (by decide) ?_
    exact rZ S hr hlk hs b2i_F.symm dX2_hasCells_31
  · have hs := hs.trans (cif_t c1)
    refine lv_iload_n S.1 S.2.1 dX2_hasCells_12 rfl (lv_at hl 2 rfl) ?_
    refine lv_iconst (v := 0) S.1 S.2.1 dX2_hasCells_13 (by decide) ?_
    refine lv_aload_n S.1 S.2.1 dX2_hasCells_14 rfl (lv_at hl 0 rfl) ?_
    refine gf_RX2_23 S hK hX hi (v := d.1 6 i 3) rfl dX2_hasCells_15 ?_
    refine lv_iload_n S.1 S.2.1 dX2_hasCells_18 rfl (lv_at hl 1 rfl) ?_
    refine lv_isub S.1 S.2.1 dX2_hasCells_19 ?_
    refine cPSN (rest := []) S (c_X4_isWithin l p2 0 ((d.1 6 i 3) - p1)) (NW.l_RX2_32 hN) wST_X4_isWithin wIN_RX4 wCO_X4_isWithin ds_X4_isWithin.2 ⟨rfl, rfl⟩ ⟨Nat.le_of_ble_eq_true rfl, Nat.le_of_ble_eq_true rfl⟩ rfl hl.1 rfl (Nat.le_of_ble_eq_true rfl) ⟨Nat.le_of_ble_eq_true rfl, Nat.le_of_ble_eq_true rfl⟩ dX2_hasCells_20 ?_
    refine q_if_eq_b (tgt := 30) S dX2_hasCells_23 (by decide) (fun c2 => ?_) (fun c2 => ?_)
    · have hs := hs.trans (cif_f c2)
      refine lv_iconst (v := 0) S.1 S.2.1 dX2_hasCells_30 (by decide) ?_
      exact rZ S hr hlk hs b2i_F.symm dX2_hasCells_31
    · have hs := hs.trans (cif_t c2)
      refine lv_iconst (v := 1) S.1 S.2.1 dX2_hasCells_26 (by decide) ?_
      refine lv_goto (tgt := 31) S.1 S.2.1 dX2_hasCells_27 (by decide) ?_
      exact rZ S hr hlk hs b2i_T.symm dX2_hasCells_31
set_option maxRecDepth 100000 in
set_option maxHeartbeats 8000000 in
theorem c_X3_counts (l : Launch) (D : va_G) (G : Gc) (M T : Nat) (ad : Nat → Nat → Nat) (d : Dt) (i : Nat) (p1 : Int32) (p2 : Int32) (p3 : Int32) (hi : i < T) : Met l yX3_counts (wsU yX3_counts cX3_counts 4 (some .boolean)) ({ frames := 1, cells := 0, slots := 0, locals := 22 } : Room) (va_Pc [.ref (ad 13 i), .int p1, .int p2, .int p3] (XPre D (tysG G) (XF G M T ad) (XN M T) ad d)) (qV (some (.int (b2i (sp_X3_counts d i p1 p2 p3))))) 0 0 (fun _ => False) := by
  refine ent (by decide +kernel) (Nat.le_of_ble_eq_true rfl) ?_
  intro p e s m below meth c S hr hlk hpre ls hl
  have S : CallFix p m c cX3_counts 4 s [.ref (ad 13 i), .int p1, .int p2, .int p3].toArray wsL_law RX3 := S
  obtain ⟨hK, hN, hX⟩ := hpre
  have hl : lv_has ls 4 [(0, .ref (ad 13 i)), (1, .int p1), (2, .int p2), (3, .int p3)] := hl
  have hs := sp_X3_counts.eq_1 d i p1 p2 p3
  refine lv_aload_n S.1 S.2.1 dX3_counts_0 rfl (lv_at hl 0 rfl) ?_
  refine gf_RX3_21 S hK hX hi (v := d.1 13 i 0) rfl dX3_counts_1 ?_
  refine lv_iload_n S.1 S.2.1 dX3_counts_4 rfl (lv_at hl 1 rfl) ?_
  refine q_icmp_ne (tgt := 31) (xi := (d.1 13 i 0).toInt) (yi := p1.toInt) S rfl rfl dX3_counts_5 (by decide) (fun c1 => ?_) (fun c1 => ?_)
  · have hs := hs.trans (cif_f c1)
    refine lv_iconst (v := 0) S.1 S.2.1 dX3_counts_31 (by decide) ?_
    exact rZ S hr hlk hs b2i_F.symm dX3_counts_32
  · have hs := hs.trans (cif_t c1)
    refine lv_aload_n S.1 S.2.1 dX3_counts_8 rfl (lv_at hl 0 rfl) ?_
    refine gf_RX3_24 S hK hX hi (v := d.1 13 i 1) rfl dX3_counts_9 ?_
    refine lv_iload_n S.1 S.2.1 dX3_counts_12 rfl (lv_at hl 2 rfl) ?_
    refine lv_iload_n S.1 S.2.1 dX3_counts_13 rfl (lv_at hl 3 rfl) ?_
    refine cPSN (rest := []) S (c_X4_isWithin l (d.1 13 i 1) p2 p3) (NW.l_RX3_36 hN) wST_X4_isWithin wIN_RX4 wCO_X4_isWithin ds_X4_isWithin.2 ⟨rfl, rfl⟩ ⟨Nat.le_of_ble_eq_true rfl, Nat.le_of_ble_eq_true rfl⟩ rfl hl.1 rfl (Nat.le_of_ble_eq_true rfl) ⟨Nat.le_of_ble_eq_true rfl, Nat.le_of_ble_eq_true rfl⟩ dX3_counts_14 ?_
    refine q_if_eq_b (tgt := 31) S dX3_counts_17 (by decide) (fun c2 => ?_) (fun c2 => ?_)
    · have hs := hs.trans (cif_f c2)
      refine lv_iconst (v := 0) S.1 S.2.1 dX3_counts_31 (by decide) ?_
      exact rZ S hr hlk hs b2i_F.symm dX3_counts_32
    · have hs := hs.trans (cif_t c2)
      refine lv_aload_n S.1 S.2.1 dX3_counts_20 rfl (lv_at hl 0 rfl) ?_
      refine cPV (rest := []) S (c_X3_isReplaced l D G M T ad d i hi) gV_RX3_40 ds_X3_isReplaced ⟨rfl, rfl⟩ ⟨Nat.le_of_ble_eq_true rfl, Nat.le_of_ble_eq_true rfl⟩ ⟨blindX, recvX hK hX (k := 13) (i := i) hi rfl rfl, preX hK hN hX _⟩ rfl hl.1 rfl (Nat.le_of_ble_eq_true rfl) ⟨Nat.le_of_ble_eq_true rfl, Nat.le_of_ble_eq_true rfl⟩ dX3_counts_21 ?_
      refine q_if_ne_b (tgt := 31) S dX3_counts_24 (by decide) (fun c3 => ?_) (fun c3 => ?_)
      · have hs := hs.trans (cif_t c3)
        refine lv_iconst (v := 0) S.1 S.2.1 dX3_counts_31 (by decide) ?_
        exact rZ S hr hlk hs b2i_F.symm dX3_counts_32
      · have hs := hs.trans (cif_f c3)
        refine lv_iconst (v := 1) S.1 S.2.1 dX3_counts_27 (by decide) ?_
        refine lv_goto (tgt := 32) S.1 S.2.1 dX3_counts_28 (by decide) ?_
        exact rZ S hr hlk hs b2i_T.symm dX3_counts_32
set_option maxRecDepth 100000 in
set_option maxHeartbeats 8000000 in
theorem c_X2_watched (l : Launch) (D : va_G) (G : Gc) (M T : Nat) (ad : Nat → Nat → Nat) (d : Dt) (i : Nat) (p1 : Int32) (p2 : Int32) (p3 : Int32) (hi : i < 4) (h0 : 0 ≤ p1.toInt) (h1 : 0 ≤ p2.toInt) (h2 : p1.toInt + p2.toInt ≤ 60) : Met l yX2_watched (wsU yX2_watched cX2_watched 11 (some .int)) ({ frames := 0, cells := 0, slots := 0, locals := 0 } : Room) (va_Pc [.ref (ad 6 i), .int p1, .int p2, .int p3] (XPre D (tysG G) (XF G M T ad) (XN M T) ad d)) (qV (some (.int (sp_X2_watched d i p1 p2 p3)))) 0 0 (fun _ => False) := by
  refine ent (by decide +kernel) (Nat.le_of_ble_eq_true rfl) ?_
  intro p e s m below meth c S hr hlk hpre ls hl
  have S : CallFix p m c cX2_watched 11 s [.ref (ad 6 i), .int p1, .int p2, .int p3].toArray wsL_law RX2 := S
  obtain ⟨hK, hN, hX⟩ := hpre
  have hl : lv_has ls 11 [(0, .ref (ad 6 i)), (1, .int p1), (2, .int p2), (3, .int p3)] := hl
  have hs := sp_X2_watched.eq_1 d i p1 p2 p3
  have e1 : (p1 + p2).toInt = p1.toInt + p2.toInt := ti_add (by omega) (by omega)
  refine lv_iconst (v := 0) S.1 S.2.1 dX2_watched_0 (by decide) ?_
  refine lv_istore (lv' := [(4, .int 0), (0, .ref (ad 6 i)), (1, .int p1), (2, .int p2), (3, .int p3)]) S.1 S.2.1 dX2_watched_1 hl (by decide) rfl (fun ls hl => ?_)
  refine lv_iconst (v := 0) S.1 S.2.1 dX2_watched_3 (by decide) ?_
  refine lv_istore (lv' := [(5, .int 0), (4, .int 0), (0, .ref (ad 6 i)), (1, .int p1), (2, .int p2), (3, .int p3)]) S.1 S.2.1 dX2_watched_4 hl (by decide) rfl (fun ls hl => ?_)
  refine lv_iconst (v := 0) S.1 S.2.1 dX2_watched_6 (by decide) ?_
  refine lv_istore (lv' := [(6, .int 0), (5, .int 0), (4, .int 0), (0, .ref (ad 6 i)), (1, .int p1), (2, .int p2), (3, .int p3)]) S.1 S.2.1 dX2_watched_7 hl (by decide) rfl (fun ls hl => ?_)
  refine lv_iconst (v := 0) S.1 S.2.1 dX2_watched_9 (by decide) ?_
  refine lv_istore (lv' := [(7, .int 0), (6, .int 0), (5, .int 0), (4, .int 0), (0, .ref (ad 6 i)), (1, .int p1), (2, .int p2), (3, .int p3)]) S.1 S.2.1 dX2_watched_10 hl (by decide) rfl (fun ls hl => ?_)
  refine lv_iconst (v := 0) S.1 S.2.1 dX2_watched_12 (by decide) ?_
  refine lv_istore (lv' := [(8, .int 0), (7, .int 0), (6, .int 0), (5, .int 0), (4, .int 0), (0, .ref (ad 6 i)), (1, .int p1), (2, .int p2), (3, .int p3)]) S.1 S.2.1 dX2_watched_13 hl (by decide) rfl (fun ls hl => ?_)
  refine lv_iload_n S.1 S.2.1 dX2_watched_15 rfl (lv_at hl 6 rfl) ?_
  refine lv_istore (lv' := [(9, .int p1), (8, .int 0), (7, .int 0), (6, .int 0), (5, .int 0), (4, .int 0), (0, .ref (ad 6 i)), (1, .int p1), (2, .int p2), (3, .int p3)]) S.1 S.2.1 dX2_watched_16 hl (by decide) rfl (fun ls hl => ?_)
  have L18 : ∀ (n : Nat), ∀ (x9 : Int32) (x8 : Int32) (x7 : Int32) (x6 : Int32) (x5 : Int32) (x4 : Int32), (p1 + p2).toInt - x9.toInt < (n : Int) → 0 ≤ x9.toInt → x9.toInt ≤ (p1 + p2).toInt → sp_X2_watched d i p1 p2 p3 = lp_X2_watched_18 d i p1 p2 p3 n x9 x8 x7 x6 x5 x4 → ∀ ls : Array Slot, lv_has ls 11 [(9, .int x9), (8, .int x8), (7, .int x7), (6, .int x6), (5, .int x5), (4, .int x4), (0, .ref (ad 6 i)), (1, .int p1), (2, .int p2), (3, .int p3)] → W p l e ({ frames := 0, cells := 0, slots := 0, locals := 0 } : Room) s m [.ref (ad 6 i), .int p1, .int p2, .int p3].toArray below meth c s.heap [] 0 0 (MQ below (qV (some (.int (sp_X2_watched d i p1 p2 p3)))) [.ref (ad 6 i), .int p1, .int p2, .int p3].toArray s 0 0 (fun _ => False)) (F0 m 18 ls []) := by
    intro n
    induction n with
    | zero => intro x9 x8 x7 x6 x5 x4 hms v18_0 v18_1 hs ls hl; omega
    | succ n ih18 =>
      intro x9 x8 x7 x6 x5 x4 hms v18_0 v18_1 hs ls hl
      have hs := hs.trans (st_X2_watched_18.eq_1 d i p1 p2 p3 (lp_X2_watched_18 d i p1 p2 p3 n) x9 x8 x7 x6 x5 x4)
      refine lv_iload S.1 S.2.1 dX2_watched_18 (lv_at hl 0 rfl) ?_
      refine lv_iload_n S.1 S.2.1 dX2_watched_20 rfl (lv_at hl 7 rfl) ?_
      refine lv_iload_n S.1 S.2.1 dX2_watched_21 rfl (lv_at hl 8 rfl) ?_
      refine lv_iadd S.1 S.2.1 dX2_watched_22 ?_
      refine q_icmp_ge (tgt := 99) (xi := x9.toInt) (yi := (p1 + p2).toInt) S rfl rfl dX2_watched_23 (by decide) (fun c1 => ?_) (fun c1 => ?_)
      · have hs := hs.trans (cif_t c1)
        refine lv_iload_n S.1 S.2.1 dX2_watched_99 rfl (lv_at hl 9 rfl) ?_
        by_cases c2 : p3.toInt = 0
        · have hs := hs.trans (cif_t c2)
          refine lv_tableIn (tgt := 128) (off := 28) S.1 S.2.1 dX2_watched_100 (by show ¬ p3.toInt < (0 : Int); omega) (by show ¬ (2 : Int) < p3.toInt; omega) (by rw [c2]; rfl) (by decide) ?_
          refine lv_iload S.1 S.2.1 dX2_watched_128 (lv_at hl 5 rfl) ?_
          exact rI S hr hlk hs dX2_watched_130
        · have hs := hs.trans (cif_f c2)
          by_cases c3 : p3.toInt = 1
          · have hs := hs.trans (cif_t c3)
            refine lv_tableIn (tgt := 131) (off := 31) S.1 S.2.1 dX2_watched_100 (by show ¬ p3.toInt < (0 : Int); omega) (by show ¬ (2 : Int) < p3.toInt; omega) (by rw [c3]; rfl) (by decide) ?_
            refine lv_iload S.1 S.2.1 dX2_watched_131 (lv_at hl 4 rfl) ?_
            exact rI S hr hlk hs dX2_watched_133
          · have hs := hs.trans (cif_f c3)
            by_cases c4 : p3.toInt = 2
            · have hs := hs.trans (cif_t c4)
              refine lv_tableIn (tgt := 134) (off := 34) S.1 S.2.1 dX2_watched_100 (by show ¬ p3.toInt < (0 : Int); omega) (by show ¬ (2 : Int) < p3.toInt; omega) (by rw [c4]; rfl) (by decide) ?_
              refine lv_iload S.1 S.2.1 dX2_watched_134 (lv_at hl 3 rfl) ?_
              exact rI S hr hlk hs dX2_watched_136
            · have hs := hs.trans (cif_f c4)
              refine lv_tableOut (tgt := 137) S.1 S.2.1 dX2_watched_100 (by show p3.toInt < (0 : Int) ∨ (2 : Int) < p3.toInt; omega) (by decide) ?_
              refine lv_iload S.1 S.2.1 dX2_watched_137 (lv_at hl 5 rfl) ?_
              refine lv_iload S.1 S.2.1 dX2_watched_139 (lv_at hl 4 rfl) ?_
              refine lv_iadd S.1 S.2.1 dX2_watched_141 ?_
              refine lv_iload S.1 S.2.1 dX2_watched_142 (lv_at hl 3 rfl) ?_
              refine lv_isub S.1 S.2.1 dX2_watched_144 ?_
              exact rI S hr hlk hs dX2_watched_145
      · have hs := hs.trans (cif_f c1)
        refine lv_aload_n S.1 S.2.1 dX2_watched_26 rfl (lv_at hl 6 rfl) ?_
        refine gf_RX2_9 S hK hX hi dX2_watched_27 ?_
        refine lv_iload S.1 S.2.1 dX2_watched_30 (lv_at hl 0 rfl) ?_
        refine al_X7 S hK hX hi (by omega) (by omega) (z := d.1 7 i (ix x9)) rfl dX2_watched_32 ?_
        refine lv_istore (lv' := [(10, .int (d.1 7 i (ix x9))), (9, .int x9), (8, .int x8), (7, .int x7), (6, .int x6), (5, .int x5), (4, .int x4), (0, .ref (ad 6 i)), (1, .int p1), (2, .int p2), (3, .int p3)]) S.1 S.2.1 dX2_watched_33 hl (by decide) rfl (fun ls hl => ?_)
        refine lv_iload S.1 S.2.1 dX2_watched_35 (lv_at hl 0 rfl) ?_
        refine lv_iconst (v := 1) S.1 S.2.1 dX2_watched_37 (by decide) ?_
        refine q_icmp_eq (tgt := 47) (xi := (d.1 7 i (ix x9)).toInt) (yi := 1) S rfl rfl dX2_watched_38 (by decide) (fun c6 => ?_) (fun c6 => ?_)
        · have hs := hs.trans (cif_t c6)
          refine lv_iinc (v := x4 + 1) (lv' := [(4, .int (x4 + 1)), (10, .int (d.1 7 i (ix x9))), (9, .int x9), (8, .int x8), (7, .int x7), (6, .int x6), (5, .int x5), (0, .ref (ad 6 i)), (1, .int p1), (2, .int p2), (3, .int p3)]) S.1 S.2.1 dX2_watched_47 hl (k := 6) rfl (by rfl) (by decide) rfl (fun ls hl => ?_)
          refine lv_iload S.1 S.2.1 dX2_watched_50 (lv_at hl 1 rfl) ?_
          refine lv_iload S.1 S.2.1 dX2_watched_52 (lv_at hl 3 rfl) ?_
          refine q_icmp_ne (tgt := 64) (xi := (d.1 7 i (ix x9)).toInt) (yi := x8.toInt) S rfl rfl dX2_watched_54 (by decide) (fun c7 => ?_) (fun c7 => ?_)
          · have hs := hs.trans (cif_f c7)
            refine lv_iconst (v := 0) S.1 S.2.1 dX2_watched_64 (by decide) ?_
            refine lv_istore (lv' := [(7, .int 0), (4, .int (x4 + 1)), (10, .int (d.1 7 i (ix x9))), (9, .int x9), (8, .int x8), (6, .int x6), (5, .int x5), (0, .ref (ad 6 i)), (1, .int p1), (2, .int p2), (3, .int p3)]) S.1 S.2.1 dX2_watched_65 hl (by decide) rfl (fun ls hl => ?_)
            refine lv_iload S.1 S.2.1 dX2_watched_67 (lv_at hl 2 rfl) ?_
            refine lv_istore (lv' := [(8, .int (d.1 7 i (ix x9))), (7, .int 0), (4, .int (x4 + 1)), (10, .int (d.1 7 i (ix x9))), (9, .int x9), (6, .int x6), (5, .int x5), (0, .ref (ad 6 i)), (1, .int p1), (2, .int p2), (3, .int p3)]) S.1 S.2.1 dX2_watched_69 hl (by decide) rfl (fun ls hl => ?_)
            refine lv_iload S.1 S.2.1 dX2_watched_71 (lv_at hl 1 rfl) ?_
            refine lv_iconst (v := 2) S.1 S.2.1 dX2_watched_73 (by decide) ?_
            refine lv_irem S.1 S.2.1 dX2_watched_74 (by decide) (q_to (by decide : (0 - 0 / 2 * 2 : Int32) = 0) ?_)
            refine lv_iconst (v := 1) S.1 S.2.1 dX2_watched_75 (by decide) ?_
            refine q_icmp_ne (tgt := 85) (xi := 0) (yi := 1) S rfl rfl dX2_watched_76 (by decide) (fun c8 => ?_) (fun c8 => absurd c8 (by omega))
            refine lv_iload S.1 S.2.1 dX2_watched_85 (lv_at hl 1 rfl) ?_
            refine q_if_le (tgt := 93) (xi := 0) S rfl dX2_watched_87 (by decide) (fun c9 => ?_) (fun c9 => absurd (by omega) c9)
            refine lv_iinc (v := x9 + 1) (lv' := [(9, .int (x9 + 1)), (8, .int (d.1 7 i (ix x9))), (7, .int 0), (4, .int (x4 + 1)), (10, .int (d.1 7 i (ix x9))), (6, .int x6), (5, .int x5), (0, .ref (ad 6 i)), (1, .int p1), (2, .int p2), (3, .int p3)]) S.1 S.2.1 dX2_watched_93 hl (k := 4) rfl (by rfl) (by decide) rfl (fun ls hl => ?_)
            refine lv_goto (tgt := 18) S.1 S.2.1 dX2_watched_96 (by decide) ?_
            have e9 : ((x9 + 1)).toInt = x9.toInt + 1 := ti1 (by omega)
            exact ih18 (x9 + 1) (d.1 7 i (ix x9)) 0 x6 x5 (x4 + 1) (by omega) (by omega) (by omega) hs _ (lv_sub hl [0, 1, 2, 5, 6, 3, 7, 8, 9, 10] rfl)
          · have hs := hs.trans (cif_t c7)
            refine lv_iload S.1 S.2.1 dX2_watched_57 (lv_at hl 4 rfl) ?_
            refine lv_iconst (v := 1) S.1 S.2.1 dX2_watched_59 (by decide) ?_
            refine lv_iadd S.1 S.2.1 dX2_watched_60 ?_
            refine lv_goto (tgt := 65) S.1 S.2.1 dX2_watched_61 (by decide) ?_
            refine lv_istore (lv' := [(7, .int (x7 + 1)), (4, .int (x4 + 1)), (10, .int (d.1 7 i (ix x9))), (9, .int x9), (8, .int x8), (6, .int x6), (5, .int x5), (0, .ref (ad 6 i)), (1, .int p1), (2, .int p2), (3, .int p3)]) S.1 S.2.1 dX2_watched_65 hl (by decide) rfl (fun ls hl => ?_)
            refine lv_iload S.1 S.2.1 dX2_watched_67 (lv_at hl 2 rfl) ?_
            refine lv_istore (lv' := [(8, .int (d.1 7 i (ix x9))), (7, .int (x7 + 1)), (4, .int (x4 + 1)), (10, .int (d.1 7 i (ix x9))), (9, .int x9), (6, .int x6), (5, .int x5), (0, .ref (ad 6 i)), (1, .int p1), (2, .int p2), (3, .int p3)]) S.1 S.2.1 dX2_watched_69 hl (by decide) rfl (fun ls hl => ?_)
            refine lv_iload S.1 S.2.1 dX2_watched_71 (lv_at hl 1 rfl) ?_
            refine lv_iconst (v := 2) S.1 S.2.1 dX2_watched_73 (by decide) ?_
            refine lv_irem S.1 S.2.1 dX2_watched_74 (by decide) ?_
            refine lv_iconst (v := 1) S.1 S.2.1 dX2_watched_75 (by decide) ?_
            refine q_icmp_ne (tgt := 85) (xi := ((x7 + 1) - (x7 + 1) / 2 * 2).toInt) (yi := 1) S rfl rfl dX2_watched_76 (by decide) (fun c10 => ?_) (fun c10 => ?_)
            · have hs := hs.trans (cif_f c10)
              refine lv_iload S.1 S.2.1 dX2_watched_85 (lv_at hl 1 rfl) ?_
              refine q_if_le (tgt := 93) (xi := (x7 + 1).toInt) S rfl dX2_watched_87 (by decide) (fun c11 => ?_) (fun c11 => ?_)
              · have hs := hs.trans (cif_t c11)
                refine lv_iinc (v := x9 + 1) (lv' := [(9, .int (x9 + 1)), (8, .int (d.1 7 i (ix x9))), (7, .int (x7 + 1)), (4, .int (x4 + 1)), (10, .int (d.1 7 i (ix x9))), (6, .int x6), (5, .int x5), (0, .ref (ad 6 i)), (1, .int p1), (2, .int p2), (3, .int p3)]) S.1 S.2.1 dX2_watched_93 hl (k := 4) rfl (by rfl) (by decide) rfl (fun ls hl => ?_)
                refine lv_goto (tgt := 18) S.1 S.2.1 dX2_watched_96 (by decide) ?_
                have e9 : ((x9 + 1)).toInt = x9.toInt + 1 := ti1 (by omega)
                exact ih18 (x9 + 1) (d.1 7 i (ix x9)) (x7 + 1) x6 x5 (x4 + 1) (by omega) (by omega) (by omega) hs _ (lv_sub hl [0, 1, 2, 5, 6, 3, 7, 8, 9, 10] rfl)
              · have hs := hs.trans (cif_f c11)
                refine lv_iinc (v := x6 + 1) (lv' := [(6, .int (x6 + 1)), (8, .int (d.1 7 i (ix x9))), (7, .int (x7 + 1)), (4, .int (x4 + 1)), (10, .int (d.1 7 i (ix x9))), (9, .int x9), (5, .int x5), (0, .ref (ad 6 i)), (1, .int p1), (2, .int p2), (3, .int p3)]) S.1 S.2.1 dX2_watched_90 hl (k := 5) rfl (by rfl) (by decide) rfl (fun ls hl => ?_)
                refine lv_iinc (v := x9 + 1) (lv' := [(9, .int (x9 + 1)), (6, .int (x6 + 1)), (8, .int (d.1 7 i (ix x9))), (7, .int (x7 + 1)), (4, .int (x4 + 1)), (10, .int (d.1 7 i (ix x9))), (5, .int x5), (0, .ref (ad 6 i)), (1, .int p1), (2, .int p2), (3, .int p3)]) S.1 S.2.1 dX2_watched_93 hl (k := 5) rfl (by rfl) (by decide) rfl (fun ls hl => ?_)
                refine lv_goto (tgt := 18) S.1 S.2.1 dX2_watched_96 (by decide) ?_
                have e9 : ((x9 + 1)).toInt = x9.toInt + 1 := ti1 (by omega)
                exact ih18 (x9 + 1) (d.1 7 i (ix x9)) (x7 + 1) (x6 + 1) x5 (x4 + 1) (by omega) (by omega) (by omega) hs _ (lv_sub hl [0, 2, 3, 1, 6, 4, 7, 8, 9, 10] rfl)
            · have hs := hs.trans (cif_t c10)
              refine lv_iinc (v := x5 + 1) (lv' := [(5, .int (x5 + 1)), (8, .int (d.1 7 i (ix x9))), (7, .int (x7 + 1)), (4, .int (x4 + 1)), (10, .int (d.1 7 i (ix x9))), (9, .int x9), (6, .int x6), (0, .ref (ad 6 i)), (1, .int p1), (2, .int p2), (3, .int p3)]) S.1 S.2.1 dX2_watched_79 hl (k := 6) rfl (by rfl) (by decide) rfl (fun ls hl => ?_)
              refine lv_goto (tgt := 93) S.1 S.2.1 dX2_watched_82 (by decide) ?_
              refine lv_iinc (v := x9 + 1) (lv' := [(9, .int (x9 + 1)), (5, .int (x5 + 1)), (8, .int (d.1 7 i (ix x9))), (7, .int (x7 + 1)), (4, .int (x4 + 1)), (10, .int (d.1 7 i (ix x9))), (6, .int x6), (0, .ref (ad 6 i)), (1, .int p1), (2, .int p2), (3, .int p3)]) S.1 S.2.1 dX2_watched_93 hl (k := 5) rfl (by rfl) (by decide) rfl (fun ls hl => ?_)
              refine lv_goto (tgt := 18) S.1 S.2.1 dX2_watched_96 (by decide) ?_
              have e9 : ((x9 + 1)).toInt = x9.toInt + 1 := ti1 (by omega)
              exact ih18 (x9 + 1) (d.1 7 i (ix x9)) (x7 + 1) x6 (x5 + 1) (x4 + 1) (by omega) (by omega) (by omega) hs _ (lv_sub hl [0, 2, 3, 6, 1, 4, 7, 8, 9, 10] rfl)
        · have hs := hs.trans (cif_f c6)
          refine lv_iload S.1 S.2.1 dX2_watched_41 (lv_at hl 0 rfl) ?_
          refine lv_iconst (v := 2) S.1 S.2.1 dX2_watched_43 (by decide) ?_
          refine q_icmp_ne (tgt := 93) (xi := (d.1 7 i (ix x9)).toInt) (yi := 2) S rfl rfl dX2_watched_44 (by decide) (fun c12 => ?_) (fun c12 => ?_)
          · have hs := hs.trans (cif_f c12)
            refine lv_iinc (v := x9 + 1) (lv' := [(9, .int (x9 + 1)), (10, .int (d.1 7 i (ix x9))), (8, .int x8), (7, .int x7), (6, .int x6), (5, .int x5), (4, .int x4), (0, .ref (ad 6 i)), (1, .int p1), (2, .int p2), (3, .int p3)]) S.1 S.2.1 dX2_watched_93 hl (k := 1) rfl (by rfl) (by decide) rfl (fun ls hl => ?_)
            refine lv_goto (tgt := 18) S.1 S.2.1 dX2_watched_96 (by decide) ?_
            have e9 : ((x9 + 1)).toInt = x9.toInt + 1 := ti1 (by omega)
            exact ih18 (x9 + 1) x8 x7 x6 x5 x4 (by omega) (by omega) (by omega) hs _ (lv_sub hl [0, 2, 3, 4, 5, 6, 7, 8, 9, 10] rfl)
          · have hs := hs.trans (cif_t c12)
            refine lv_iinc (v := x4 + 1) (lv' := [(4, .int (x4 + 1)), (10, .int (d.1 7 i (ix x9))), (9, .int x9), (8, .int x8), (7, .int x7), (6, .int x6), (5, .int x5), (0, .ref (ad 6 i)), (1, .int p1), (2, .int p2), (3, .int p3)]) S.1 S.2.1 dX2_watched_47 hl (k := 6) rfl (by rfl) (by decide) rfl (fun ls hl => ?_)
            refine lv_iload S.1 S.2.1 dX2_watched_50 (lv_at hl 1 rfl) ?_
            refine lv_iload S.1 S.2.1 dX2_watched_52 (lv_at hl 3 rfl) ?_
            refine q_icmp_ne (tgt := 64) (xi := (d.1 7 i (ix x9)).toInt) (yi := x8.toInt) S rfl rfl dX2_watched_54 (by decide) (fun c13 => ?_) (fun c13 => ?_)
            · have hs := hs.trans (cif_f c13)
              refine lv_iconst (v := 0) S.1 S.2.1 dX2_watched_64 (by decide) ?_
              refine lv_istore (lv' := [(7, .int 0), (4, .int (x4 + 1)), (10, .int (d.1 7 i (ix x9))), (9, .int x9), (8, .int x8), (6, .int x6), (5, .int x5), (0, .ref (ad 6 i)), (1, .int p1), (2, .int p2), (3, .int p3)]) S.1 S.2.1 dX2_watched_65 hl (by decide) rfl (fun ls hl => ?_)
              refine lv_iload S.1 S.2.1 dX2_watched_67 (lv_at hl 2 rfl) ?_
              refine lv_istore (lv' := [(8, .int (d.1 7 i (ix x9))), (7, .int 0), (4, .int (x4 + 1)), (10, .int (d.1 7 i (ix x9))), (9, .int x9), (6, .int x6), (5, .int x5), (0, .ref (ad 6 i)), (1, .int p1), (2, .int p2), (3, .int p3)]) S.1 S.2.1 dX2_watched_69 hl (by decide) rfl (fun ls hl => ?_)
              refine lv_iload S.1 S.2.1 dX2_watched_71 (lv_at hl 1 rfl) ?_
              refine lv_iconst (v := 2) S.1 S.2.1 dX2_watched_73 (by decide) ?_
              refine lv_irem S.1 S.2.1 dX2_watched_74 (by decide) (q_to (by decide : (0 - 0 / 2 * 2 : Int32) = 0) ?_)
              refine lv_iconst (v := 1) S.1 S.2.1 dX2_watched_75 (by decide) ?_
              refine q_icmp_ne (tgt := 85) (xi := 0) (yi := 1) S rfl rfl dX2_watched_76 (by decide) (fun c14 => ?_) (fun c14 => absurd c14 (by omega))
              refine lv_iload S.1 S.2.1 dX2_watched_85 (lv_at hl 1 rfl) ?_
              refine q_if_le (tgt := 93) (xi := 0) S rfl dX2_watched_87 (by decide) (fun c15 => ?_) (fun c15 => absurd (by omega) c15)
              refine lv_iinc (v := x9 + 1) (lv' := [(9, .int (x9 + 1)), (8, .int (d.1 7 i (ix x9))), (7, .int 0), (4, .int (x4 + 1)), (10, .int (d.1 7 i (ix x9))), (6, .int x6), (5, .int x5), (0, .ref (ad 6 i)), (1, .int p1), (2, .int p2), (3, .int p3)]) S.1 S.2.1 dX2_watched_93 hl (k := 4) rfl (by rfl) (by decide) rfl (fun ls hl => ?_)
              refine lv_goto (tgt := 18) S.1 S.2.1 dX2_watched_96 (by decide) ?_
              have e9 : ((x9 + 1)).toInt = x9.toInt + 1 := ti1 (by omega)
              exact ih18 (x9 + 1) (d.1 7 i (ix x9)) 0 x6 x5 (x4 + 1) (by omega) (by omega) (by omega) hs _ (lv_sub hl [0, 1, 2, 5, 6, 3, 7, 8, 9, 10] rfl)
            · have hs := hs.trans (cif_t c13)
              refine lv_iload S.1 S.2.1 dX2_watched_57 (lv_at hl 4 rfl) ?_
              refine lv_iconst (v := 1) S.1 S.2.1 dX2_watched_59 (by decide) ?_
              refine lv_iadd S.1 S.2.1 dX2_watched_60 ?_
              refine lv_goto (tgt := 65) S.1 S.2.1 dX2_watched_61 (by decide) ?_
              refine lv_istore (lv' := [(7, .int (x7 + 1)), (4, .int (x4 + 1)), (10, .int (d.1 7 i (ix x9))), (9, .int x9), (8, .int x8), (6, .int x6), (5, .int x5), (0, .ref (ad 6 i)), (1, .int p1), (2, .int p2), (3, .int p3)]) S.1 S.2.1 dX2_watched_65 hl (by decide) rfl (fun ls hl => ?_)
              refine lv_iload S.1 S.2.1 dX2_watched_67 (lv_at hl 2 rfl) ?_
              refine lv_istore (lv' := [(8, .int (d.1 7 i (ix x9))), (7, .int (x7 + 1)), (4, .int (x4 + 1)), (10, .int (d.1 7 i (ix x9))), (9, .int x9), (6, .int x6), (5, .int x5), (0, .ref (ad 6 i)), (1, .int p1), (2, .int p2), (3, .int p3)]) S.1 S.2.1 dX2_watched_69 hl (by decide) rfl (fun ls hl => ?_)
              refine lv_iload S.1 S.2.1 dX2_watched_71 (lv_at hl 1 rfl) ?_
              refine lv_iconst (v := 2) S.1 S.2.1 dX2_watched_73 (by decide) ?_
              refine lv_irem S.1 S.2.1 dX2_watched_74 (by decide) ?_
              refine lv_iconst (v := 1) S.1 S.2.1 dX2_watched_75 (by decide) ?_
              refine q_icmp_ne (tgt := 85) (xi := ((x7 + 1) - (x7 + 1) / 2 * 2).toInt) (yi := 1) S rfl rfl dX2_watched_76 (by decide) (fun c16 => ?_) (fun c16 => ?_)
              · have hs := hs.trans (cif_f c16)
                refine lv_iload S.1 S.2.1 dX2_watched_85 (lv_at hl 1 rfl) ?_
                refine q_if_le (tgt := 93) (xi := (x7 + 1).toInt) S rfl dX2_watched_87 (by decide) (fun c17 => ?_) (fun c17 => ?_)
                · have hs := hs.trans (cif_t c17)
                  refine lv_iinc (v := x9 + 1) (lv' := [(9, .int (x9 + 1)), (8, .int (d.1 7 i (ix x9))), (7, .int (x7 + 1)), (4, .int (x4 + 1)), (10, .int (d.1 7 i (ix x9))), (6, .int x6), (5, .int x5), (0, .ref (ad 6 i)), (1, .int p1), (2, .int p2), (3, .int p3)]) S.1 S.2.1 dX2_watched_93 hl (k := 4) rfl (by rfl) (by decide) rfl (fun ls hl => ?_)
                  refine lv_goto (tgt := 18) S.1 S.2.1 dX2_watched_96 (by decide) ?_
                  have e9 : ((x9 + 1)).toInt = x9.toInt + 1 := ti1 (by omega)
                  exact ih18 (x9 + 1) (d.1 7 i (ix x9)) (x7 + 1) x6 x5 (x4 + 1) (by omega) (by omega) (by omega) hs _ (lv_sub hl [0, 1, 2, 5, 6, 3, 7, 8, 9, 10] rfl)
                · have hs := hs.trans (cif_f c17)
                  refine lv_iinc (v := x6 + 1) (lv' := [(6, .int (x6 + 1)), (8, .int (d.1 7 i (ix x9))), (7, .int (x7 + 1)), (4, .int (x4 + 1)), (10, .int (d.1 7 i (ix x9))), (9, .int x9), (5, .int x5), (0, .ref (ad 6 i)), (1, .int p1), (2, .int p2), (3, .int p3)]) S.1 S.2.1 dX2_watched_90 hl (k := 5) rfl (by rfl) (by decide) rfl (fun ls hl => ?_)
                  refine lv_iinc (v := x9 + 1) (lv' := [(9, .int (x9 + 1)), (6, .int (x6 + 1)), (8, .int (d.1 7 i (ix x9))), (7, .int (x7 + 1)), (4, .int (x4 + 1)), (10, .int (d.1 7 i (ix x9))), (5, .int x5), (0, .ref (ad 6 i)), (1, .int p1), (2, .int p2), (3, .int p3)]) S.1 S.2.1 dX2_watched_93 hl (k := 5) rfl (by rfl) (by decide) rfl (fun ls hl => ?_)
                  refine lv_goto (tgt := 18) S.1 S.2.1 dX2_watched_96 (by decide) ?_
                  have e9 : ((x9 + 1)).toInt = x9.toInt + 1 := ti1 (by omega)
                  exact ih18 (x9 + 1) (d.1 7 i (ix x9)) (x7 + 1) (x6 + 1) x5 (x4 + 1) (by omega) (by omega) (by omega) hs _ (lv_sub hl [0, 2, 3, 1, 6, 4, 7, 8, 9, 10] rfl)
              · have hs := hs.trans (cif_t c16)
                refine lv_iinc (v := x5 + 1) (lv' := [(5, .int (x5 + 1)), (8, .int (d.1 7 i (ix x9))), (7, .int (x7 + 1)), (4, .int (x4 + 1)), (10, .int (d.1 7 i (ix x9))), (9, .int x9), (6, .int x6), (0, .ref (ad 6 i)), (1, .int p1), (2, .int p2), (3, .int p3)]) S.1 S.2.1 dX2_watched_79 hl (k := 6) rfl (by rfl) (by decide) rfl (fun ls hl => ?_)
                refine lv_goto (tgt := 93) S.1 S.2.1 dX2_watched_82 (by decide) ?_
                refine lv_iinc (v := x9 + 1) (lv' := [(9, .int (x9 + 1)), (5, .int (x5 + 1)), (8, .int (d.1 7 i (ix x9))), (7, .int (x7 + 1)), (4, .int (x4 + 1)), (10, .int (d.1 7 i (ix x9))), (6, .int x6), (0, .ref (ad 6 i)), (1, .int p1), (2, .int p2), (3, .int p3)]) S.1 S.2.1 dX2_watched_93 hl (k := 5) rfl (by rfl) (by decide) rfl (fun ls hl => ?_)
                refine lv_goto (tgt := 18) S.1 S.2.1 dX2_watched_96 (by decide) ?_
                have e9 : ((x9 + 1)).toInt = x9.toInt + 1 := ti1 (by omega)
                exact ih18 (x9 + 1) (d.1 7 i (ix x9)) (x7 + 1) x6 (x5 + 1) (x4 + 1) (by omega) (by omega) (by omega) hs _ (lv_sub hl [0, 2, 3, 6, 1, 4, 7, 8, 9, 10] rfl)
  exact L18 64 p1 0 0 0 0 0 (by first | omega | (simp only [Int32.toInt_zero]; omega)) (by first | omega | (simp only [Int32.toInt_zero]; omega)) (by first | omega | (simp only [Int32.toInt_zero]; omega)) hs _ (lv_sub hl [0, 1, 2, 3, 4, 5, 6, 7, 8, 9] rfl)
set_option maxRecDepth 100000 in
set_option maxHeartbeats 8000000 in
theorem c_X0_takeFactor (l : Launch) (D : va_G) (G : Gc) (M T : Nat) (ad : Nat → Nat → Nat) (d : Dt) (i : Nat) (p1 : Int32) (p2 : Int32) (p3 : Int32) (hi : i < M) (h0 : 0 ≤ (d.1 8 i 6).toInt) (h1 : (d.1 8 i 6).toInt ≤ 11) : Met l yX0_takeFactor (wsU yX0_takeFactor cX0_takeFactor 5 none) ({ frames := 1, cells := 0, slots := 0, locals := 23 } : Room) (va_Pc [.ref (ad 8 i), .int p1, .int p2, .int p3] (XPre D (tysG G) (XF G M T ad) (XN M T) ad d)) (qW none D (XF G M T ad) (XN M T) ad (sp_X0_takeFactor d i p1 p2 p3)) 0 0 (adS (XN M T) ad) := by
  refine ent (by decide +kernel) (Nat.le_of_ble_eq_true rfl) ?_
  intro p e s m below meth c S hr hlk hpre ls hl
  have S : CallFix p m c cX0_takeFactor 5 s [.ref (ad 8 i), .int p1, .int p2, .int p3].toArray wsL_law RX0 := S
  obtain ⟨hK, hN, hX⟩ := hpre
  have hl : lv_has ls 5 [(0, .ref (ad 8 i)), (1, .int p1), (2, .int p2), (3, .int p3)] := hl
  have hs := sp_X0_takeFactor.eq_1 d i p1 p2 p3
  have hS : va_S (adS (XN M T) ad) s.heap s.heap [] := va_S.rf
  refine lv_aload_n S.1 S.2.1 dX0_takeFactor_0 rfl (lv_at hl 0 rfl) ?_
  refine gf_RX0_28 S hK hX hi (v := d.1 8 i 6) rfl dX0_takeFactor_1 ?_
  refine lv_istore (lv' := [(4, .int (d.1 8 i 6)), (0, .ref (ad 8 i)), (1, .int p1), (2, .int p2), (3, .int p3)]) S.1 S.2.1 dX0_takeFactor_4 hl (by decide) rfl (fun ls hl => ?_)
  have L6 : ∀ (n : Nat), ∀ (x4 : Int32) (e6 : Dt), x4.toInt < (n : Int) → 0 ≤ x4.toInt → x4.toInt ≤ 11 → sp_X0_takeFactor d i p1 p2 p3 = lp_X0_takeFactor_6 d i p1 p2 p3 n x4 e6 → ∀ (H : Heap) (locs : List Loc), PIC D (XF G M T ad) (XN M T) ad e6 H → va_S (adS (XN M T) ad) s.heap H locs → ∀ ls : Array Slot, lv_has ls 5 [(4, .int x4), (0, .ref (ad 8 i)), (1, .int p1), (2, .int p2), (3, .int p3)] → W p l e ({ frames := 1, cells := 0, slots := 0, locals := 23 } : Room) s m [.ref (ad 8 i), .int p1, .int p2, .int p3].toArray below meth c H locs 0 0 (MQ below (qW none D (XF G M T ad) (XN M T) ad (sp_X0_takeFactor d i p1 p2 p3)) [.ref (ad 8 i), .int p1, .int p2, .int p3].toArray s 0 0 (adS (XN M T) ad)) (F0 m 6 ls []) := by
    intro n
    induction n with
    | zero => intro x4 e6 hms v6_0 v6_1 hs H locs hX hS ls hl; omega
    | succ n ih6 =>
      intro x4 e6 hms v6_0 v6_1 hs H locs hX hS ls hl
      have hs := hs.trans (st_X0_takeFactor_6.eq_1 d i p1 p2 p3 (lp_X0_takeFactor_6 d i p1 p2 p3 n) x4 e6)
      refine lv_iload S.1 S.2.1 dX0_takeFactor_6 (lv_at hl 0 rfl) ?_
      refine q_if_le (tgt := 78) (xi := x4.toInt) S rfl dX0_takeFactor_8 (by decide) (fun c1 => ?_) (fun c1 => ?_)
      · have hs := hs.trans (cif_t c1)
        refine lv_aload_n S.1 S.2.1 dX0_takeFactor_78 rfl (lv_at hl 1 rfl) ?_
        refine gf_RX0_19 S hK hX hi dX0_takeFactor_79 ?_
        refine lv_iload S.1 S.2.1 dX0_takeFactor_82 (lv_at hl 0 rfl) ?_
        refine lv_iload_n S.1 S.2.1 dX0_takeFactor_84 rfl (lv_at hl 2 rfl) ?_
        refine as_X10 S hK hX hS hi (by omega) (by omega) dX0_takeFactor_85 (fun H locs hX hS => ?_)
        refine lv_aload_n S.1 S.2.1 dX0_takeFactor_86 rfl (lv_at hl 1 rfl) ?_
        refine gf_RX0_22 S hK hX hi dX0_takeFactor_87 ?_
        refine lv_iload S.1 S.2.1 dX0_takeFactor_90 (lv_at hl 0 rfl) ?_
        refine lv_iload_n S.1 S.2.1 dX0_takeFactor_92 rfl (lv_at hl 3 rfl) ?_
        refine as_X11 S hK hX hS hi (by omega) (by omega) dX0_takeFactor_93 (fun H locs hX hS => ?_)
        refine lv_aload_n S.1 S.2.1 dX0_takeFactor_94 rfl (lv_at hl 1 rfl) ?_
        refine gf_RX0_25 S hK hX hi dX0_takeFactor_95 ?_
        refine lv_iload S.1 S.2.1 dX0_takeFactor_98 (lv_at hl 0 rfl) ?_
        refine lv_iload_n S.1 S.2.1 dX0_takeFactor_100 rfl (lv_at hl 4 rfl) ?_
        refine as_X12 S hK hX hS hi (by omega) (by omega) dX0_takeFactor_101 (fun H locs hX hS => ?_)
        refine lv_aload_n S.1 S.2.1 dX0_takeFactor_102 rfl (lv_at hl 1 rfl) ?_
        refine lv_dup S.1 S.2.1 dX0_takeFactor_103 rfl ?_
        refine gf_RX0_28 S hK hX hi (v := e6.1 8 i 6) rfl dX0_takeFactor_104 ?_
        refine lv_iconst (v := 1) S.1 S.2.1 dX0_takeFactor_107 (by decide) ?_
        refine lv_iadd S.1 S.2.1 dX0_takeFactor_108 ?_
        refine pf_RX0_28 S hK hX hS hi dX0_takeFactor_109 (fun H locs hX hS => ?_)
        exact wV S hr hlk hs hX hS dX0_takeFactor_112
      · have hs := hs.trans (cif_f c1)
        have e8 := ts1 (x := x4) (by omega)
        refine lv_aload_n S.1 S.2.1 dX0_takeFactor_11 rfl (lv_at hl 1 rfl) ?_
        refine lv_iload S.1 S.2.1 dX0_takeFactor_12 (lv_at hl 0 rfl) ?_
        refine lv_iconst (v := 1) S.1 S.2.1 dX0_takeFactor_14 (by decide) ?_
        refine lv_isub S.1 S.2.1 dX0_takeFactor_15 ?_
        refine lv_iload_n S.1 S.2.1 dX0_takeFactor_16 rfl (lv_at hl 2 rfl) ?_
        refine lv_iload_n S.1 S.2.1 dX0_takeFactor_17 rfl (lv_at hl 3 rfl) ?_
        refine cPV (rest := []) S (c_X0_standsBehind l D G M T ad e6 i (x4 - 1) p1 p2 hi (by omega) (by omega)) gV_RX0_34 ds_X0_standsBehind ⟨rfl, rfl⟩ ⟨Nat.le_of_ble_eq_true rfl, Nat.le_of_ble_eq_true rfl⟩ ⟨blindX, recvX hK hX (k := 8) (i := i) hi rfl rfl, preX hK hN hX _⟩ rfl hl.1 rfl (Nat.le_of_ble_eq_true rfl) ⟨Nat.le_of_ble_eq_true rfl, Nat.le_of_ble_eq_true rfl⟩ dX0_takeFactor_18 ?_
        refine q_if_eq_b (tgt := 78) S dX0_takeFactor_21 (by decide) (fun c2 => ?_) (fun c2 => ?_)
        · have hs := hs.trans (cif_f c2)
          refine lv_aload_n S.1 S.2.1 dX0_takeFactor_78 rfl (lv_at hl 1 rfl) ?_
          refine gf_RX0_19 S hK hX hi dX0_takeFactor_79 ?_
          refine lv_iload S.1 S.2.1 dX0_takeFactor_82 (lv_at hl 0 rfl) ?_
          refine lv_iload_n S.1 S.2.1 dX0_takeFactor_84 rfl (lv_at hl 2 rfl) ?_
          refine as_X10 S hK hX hS hi (by omega) (by omega) dX0_takeFactor_85 (fun H locs hX hS => ?_)
          refine lv_aload_n S.1 S.2.1 dX0_takeFactor_86 rfl (lv_at hl 1 rfl) ?_
          refine gf_RX0_22 S hK hX hi dX0_takeFactor_87 ?_
          refine lv_iload S.1 S.2.1 dX0_takeFactor_90 (lv_at hl 0 rfl) ?_
          refine lv_iload_n S.1 S.2.1 dX0_takeFactor_92 rfl (lv_at hl 3 rfl) ?_
          refine as_X11 S hK hX hS hi (by omega) (by omega) dX0_takeFactor_93 (fun H locs hX hS => ?_)
          refine lv_aload_n S.1 S.2.1 dX0_takeFactor_94 rfl (lv_at hl 1 rfl) ?_
          refine gf_RX0_25 S hK hX hi dX0_takeFactor_95 ?_
          refine lv_iload S.1 S.2.1 dX0_takeFactor_98 (lv_at hl 0 rfl) ?_
          refine lv_iload_n S.1 S.2.1 dX0_takeFactor_100 rfl (lv_at hl 4 rfl) ?_
          refine as_X12 S hK hX hS hi (by omega) (by omega) dX0_takeFactor_101 (fun H locs hX hS => ?_)
          refine lv_aload_n S.1 S.2.1 dX0_takeFactor_102 rfl (lv_at hl 1 rfl) ?_
          refine lv_dup S.1 S.2.1 dX0_takeFactor_103 rfl ?_
          refine gf_RX0_28 S hK hX hi (v := e6.1 8 i 6) rfl dX0_takeFactor_104 ?_
          refine lv_iconst (v := 1) S.1 S.2.1 dX0_takeFactor_107 (by decide) ?_
          refine lv_iadd S.1 S.2.1 dX0_takeFactor_108 ?_
          refine pf_RX0_28 S hK hX hS hi dX0_takeFactor_109 (fun H locs hX hS => ?_)
          exact wV S hr hlk hs hX hS dX0_takeFactor_112
        · have hs := hs.trans (cif_t c2)
          refine lv_aload_n S.1 S.2.1 dX0_takeFactor_24 rfl (lv_at hl 1 rfl) ?_
          refine gf_RX0_19 S hK hX hi dX0_takeFactor_25 ?_
          refine lv_iload S.1 S.2.1 dX0_takeFactor_28 (lv_at hl 0 rfl) ?_
          refine lv_aload_n S.1 S.2.1 dX0_takeFactor_30 rfl (lv_at hl 1 rfl) ?_
          refine gf_RX0_19 S hK hX hi dX0_takeFactor_31 ?_
          refine lv_iload S.1 S.2.1 dX0_takeFactor_34 (lv_at hl 0 rfl) ?_
          refine lv_iconst (v := 1) S.1 S.2.1 dX0_takeFactor_36 (by decide) ?_
          refine lv_isub S.1 S.2.1 dX0_takeFactor_37 ?_
          refine al_X10 S hK hX hi (by omega) (by omega) (z := e6.1 10 i (ix (x4 - 1))) rfl dX0_takeFactor_38 ?_
          refine as_X10 S hK hX hS hi (by omega) (by omega) dX0_takeFactor_39 (fun H locs hX hS => ?_)
          refine lv_aload_n S.1 S.2.1 dX0_takeFactor_40 rfl (lv_at hl 1 rfl) ?_
          refine gf_RX0_22 S hK hX hi dX0_takeFactor_41 ?_
          refine lv_iload S.1 S.2.1 dX0_takeFactor_44 (lv_at hl 0 rfl) ?_
          refine lv_aload_n S.1 S.2.1 dX0_takeFactor_46 rfl (lv_at hl 1 rfl) ?_
          refine gf_RX0_22 S hK hX hi dX0_takeFactor_47 ?_
          refine lv_iload S.1 S.2.1 dX0_takeFactor_50 (lv_at hl 0 rfl) ?_
          refine lv_iconst (v := 1) S.1 S.2.1 dX0_takeFactor_52 (by decide) ?_
          refine lv_isub S.1 S.2.1 dX0_takeFactor_53 ?_
          refine al_X11 S hK hX hi (by omega) (by omega) (z := e6.1 11 i (ix (x4 - 1))) rfl dX0_takeFactor_54 ?_
          refine as_X11 S hK hX hS hi (by omega) (by omega) dX0_takeFactor_55 (fun H locs hX hS => ?_)
          refine lv_aload_n S.1 S.2.1 dX0_takeFactor_56 rfl (lv_at hl 1 rfl) ?_
          refine gf_RX0_25 S hK hX hi dX0_takeFactor_57 ?_
          refine lv_iload S.1 S.2.1 dX0_takeFactor_60 (lv_at hl 0 rfl) ?_
          refine lv_aload_n S.1 S.2.1 dX0_takeFactor_62 rfl (lv_at hl 1 rfl) ?_
          refine gf_RX0_25 S hK hX hi dX0_takeFactor_63 ?_
          refine lv_iload S.1 S.2.1 dX0_takeFactor_66 (lv_at hl 0 rfl) ?_
          refine lv_iconst (v := 1) S.1 S.2.1 dX0_takeFactor_68 (by decide) ?_
          refine lv_isub S.1 S.2.1 dX0_takeFactor_69 ?_
          refine al_X12 S hK hX hi (by omega) (by omega) (z := e6.1 12 i (ix (x4 - 1))) rfl dX0_takeFactor_70 ?_
          refine as_X12 S hK hX hS hi (by omega) (by omega) dX0_takeFactor_71 (fun H locs hX hS => ?_)
          refine lv_iinc (v := x4 + (-1)) (lv' := [(4, .int (x4 + (-1))), (0, .ref (ad 8 i)), (1, .int p1), (2, .int p2), (3, .int p3)]) S.1 S.2.1 dX0_takeFactor_72 hl (k := 0) rfl (by rfl) (by decide) rfl (fun ls hl => ?_)
          refine lv_goto (tgt := 6) S.1 S.2.1 dX0_takeFactor_75 (by decide) ?_
          have e9 : ((x4 + (-1))).toInt = x4.toInt - 1 := tim1 (by omega)
          exact ih6 (x4 + (-1)) (uv (uv (uv e6 10 i (ix x4) (e6.1 10 i (ix (x4 - 1)))) 11 i (ix x4) (e6.1 11 i (ix (x4 - 1)))) 12 i (ix x4) (e6.1 12 i (ix (x4 - 1)))) (by omega) (by omega) (by omega) hs _ _ hX hS _ (lv_sub hl [0, 1, 2, 3, 4] rfl)
  exact L6 16 (d.1 8 i 6) d (by omega) (by omega) (by omega) hs _ _ hX hS _ (lv_sub hl [0, 1, 2, 3, 4] rfl)
set_option maxRecDepth 100000 in
set_option maxHeartbeats 8000000 in
theorem c_X2_faultAs (l : Launch) (D : va_G) (G : Gc) (M T : Nat) (ad : Nat → Nat → Nat) (d : Dt) (i : Nat) (p1 : Int32) (hi : i < 4) : Met l yX2_faultAs (wsU yX2_faultAs cX2_faultAs 2 (some .int)) ({ frames := 0, cells := 0, slots := 0, locals := 0 } : Room) (va_Pc [.ref (ad 6 i), .int p1] (XPre D (tysG G) (XF G M T ad) (XN M T) ad d)) (qV (some (.int (sp_X2_faultAs d i p1)))) 0 0 (fun _ => False) := by
  refine ent (by decide +kernel) (Nat.le_of_ble_eq_true rfl) ?_
  intro p e s m below meth c S hr hlk hpre ls hl
  have S : CallFix p m c cX2_faultAs 2 s [.ref (ad 6 i), .int p1].toArray wsL_law RX2 := S
  obtain ⟨hK, hN, hX⟩ := hpre
  have hl : lv_has ls 2 [(0, .ref (ad 6 i)), (1, .int p1)] := hl
  have hs := sp_X2_faultAs.eq_1 d i p1
  refine lv_aload_n S.1 S.2.1 dX2_faultAs_0 rfl (lv_at hl 0 rfl) ?_
  refine gf_RX2_15 S hK hX hi (v := d.1 6 i 1) rfl dX2_faultAs_1 ?_
  refine q_if_ne (tgt := 9) (xi := (d.1 6 i 1).toInt) S rfl dX2_faultAs_4 (by decide) (fun c1 => ?_) (fun c1 => ?_)
  · have hs := hs.trans (cif_f c1)
    refine lv_aload_n S.1 S.2.1 dX2_faultAs_9 rfl (lv_at hl 0 rfl) ?_
    refine gf_RX2_19 S hK hX hi (v := d.1 6 i 2) rfl dX2_faultAs_10 ?_
    refine lv_iload_n S.1 S.2.1 dX2_faultAs_13 rfl (lv_at hl 1 rfl) ?_
    refine q_icmp_ne (tgt := 21) (xi := (d.1 6 i 2).toInt) (yi := p1.toInt) S rfl rfl dX2_faultAs_14 (by decide) (fun c2 => ?_) (fun c2 => ?_)
    · have hs := hs.trans (cif_f c2)
      refine lv_iconst (v := 2) S.1 S.2.1 dX2_faultAs_21 (by decide) ?_
      exact rI S hr hlk hs dX2_faultAs_22
    · have hs := hs.trans (cif_t c2)
      refine lv_iconst (v := 0) S.1 S.2.1 dX2_faultAs_17 (by decide) ?_
      refine lv_goto (tgt := 22) S.1 S.2.1 dX2_faultAs_18 (by decide) ?_
      exact rI S hr hlk hs dX2_faultAs_22
  · have hs := hs.trans (cif_t c1)
    refine lv_iconst (v := 1) S.1 S.2.1 dX2_faultAs_7 (by decide) ?_
    exact rI S hr hlk hs dX2_faultAs_8
set_option maxRecDepth 100000 in
set_option maxHeartbeats 8000000 in
theorem c_X2_fillIn (l : Launch) (D : va_G) (G : Gc) (M T : Nat) (ad : Nat → Nat → Nat) (d : Dt) (i : Nat) (p1 : Int32) (p2 : Int32) (hi : i < 4) (h0 : 0 ≤ p1.toInt) (h1 : p1.toInt < 60) : Met l yX2_fillIn (wsU yX2_fillIn cX2_fillIn 3 none) ({ frames := 0, cells := 0, slots := 0, locals := 0 } : Room) (va_Pc [.ref (ad 6 i), .int p1, .int p2] (XPre D (tysG G) (XF G M T ad) (XN M T) ad d)) (qW none D (XF G M T ad) (XN M T) ad (sp_X2_fillIn d i p1 p2)) 0 0 (adS (XN M T) ad) := by
  refine ent (by decide +kernel) (Nat.le_of_ble_eq_true rfl) ?_
  intro p e s m below meth c S hr hlk hpre ls hl
  have S : CallFix p m c cX2_fillIn 3 s [.ref (ad 6 i), .int p1, .int p2].toArray wsL_law RX2 := S
  obtain ⟨hK, hN, hX⟩ := hpre
  have hl : lv_has ls 3 [(0, .ref (ad 6 i)), (1, .int p1), (2, .int p2)] := hl
  have hs := sp_X2_fillIn.eq_1 d i p1 p2
  have hS : va_S (adS (XN M T) ad) s.heap s.heap [] := va_S.rf
  refine lv_aload_n S.1 S.2.1 dX2_fillIn_0 rfl (lv_at hl 0 rfl) ?_
  refine gf_RX2_19 S hK hX hi (v := d.1 6 i 2) rfl dX2_fillIn_1 ?_
  by_cases c1 : (d.1 6 i 2).toInt = 0
  · have hs := hs.trans (cif_t c1)
    refine lv_lookup (tgt := 32) (off := 28) S.1 S.2.1 dX2_fillIn_4 (by decide) (by rw [c1]; rfl) (by decide) ?_
    refine lv_aload_n S.1 S.2.1 dX2_fillIn_32 rfl (lv_at hl 0 rfl) ?_
    refine gf_RX2_9 S hK hX hi dX2_fillIn_33 ?_
    refine lv_iload_n S.1 S.2.1 dX2_fillIn_36 rfl (lv_at hl 1 rfl) ?_
    refine lv_iload_n S.1 S.2.1 dX2_fillIn_37 rfl (lv_at hl 2 rfl) ?_
    refine lv_i2b S.1 S.2.1 dX2_fillIn_38 rfl ?_
    refine as_X7 S hK hX hS hi (by omega) (by omega) dX2_fillIn_39 (fun H locs hX hS => ?_)
    refine lv_goto (tgt := 61) S.1 S.2.1 dX2_fillIn_40 (by decide) ?_
    exact wV S hr hlk hs hX hS dX2_fillIn_61
  · have hs := hs.trans (cif_f c1)
    by_cases c2 : (d.1 6 i 2).toInt = 1
    · have hs := hs.trans (cif_t c2)
      refine lv_lookup (tgt := 43) (off := 39) S.1 S.2.1 dX2_fillIn_4 (by decide) (by rw [c2]; rfl) (by decide) ?_
      refine lv_aload_n S.1 S.2.1 dX2_fillIn_43 rfl (lv_at hl 0 rfl) ?_
      refine gf_RX2_9 S hK hX hi dX2_fillIn_44 ?_
      refine lv_iload_n S.1 S.2.1 dX2_fillIn_47 rfl (lv_at hl 1 rfl) ?_
      refine lv_iload_n S.1 S.2.1 dX2_fillIn_48 rfl (lv_at hl 2 rfl) ?_
      refine lv_i2s S.1 S.2.1 dX2_fillIn_49 rfl ?_
      refine as_X7 S hK hX hS hi (by omega) (by omega) dX2_fillIn_50 (fun H locs hX hS => ?_)
      refine lv_goto (tgt := 61) S.1 S.2.1 dX2_fillIn_51 (by decide) ?_
      exact wV S hr hlk hs hX hS dX2_fillIn_61
    · have hs := hs.trans (cif_f c2)
      refine lv_lookup (tgt := 54) (off := 50) S.1 S.2.1 dX2_fillIn_4 (by decide) ((lv_osw (x := d.1 6 i 2) (k := 0) (fun h => absurd (congrArg Int32.toInt h) c1) rfl).trans ((lv_osw (x := d.1 6 i 2) (k := 1) (fun h => absurd (congrArg Int32.toInt h) c2) rfl).trans rfl)) (by decide) ?_
      refine lv_aload_n S.1 S.2.1 dX2_fillIn_54 rfl (lv_at hl 0 rfl) ?_
      refine gf_RX2_9 S hK hX hi dX2_fillIn_55 ?_
      refine lv_iload_n S.1 S.2.1 dX2_fillIn_58 rfl (lv_at hl 1 rfl) ?_
      refine lv_iload_n S.1 S.2.1 dX2_fillIn_59 rfl (lv_at hl 2 rfl) ?_
      refine as_X7 S hK hX hS hi (by omega) (by omega) dX2_fillIn_60 (fun H locs hX hS => ?_)
      exact wV S hr hlk hs hX hS dX2_fillIn_61
set_option maxRecDepth 100000 in
set_option maxHeartbeats 8000000 in
theorem c_X1_begin (l : Launch) (D : va_G) (G : Gc) (M T : Nat) (ad : Nat → Nat → Nat) (d : Dt) (p1 : Int32) (p2 : Int32) (p3 : Int32) : Met l yX1_begin (wsU yX1_begin cX1_begin 4 none) ({ frames := 0, cells := 0, slots := 0, locals := 0 } : Room) (va_Pc [.ref (ad 2 0), .int p1, .int p2, .int p3] (XPre D (tysG G) (XF G M T ad) (XN M T) ad d)) (qW none D (XF G M T ad) (XN M T) ad (sp_X1_begin d p1 p2 p3)) 0 0 (adS (XN M T) ad) := by
  refine ent (by decide +kernel) (Nat.le_of_ble_eq_true rfl) ?_
  intro p e s m below meth c S hr hlk hpre ls hl
  have S : CallFix p m c cX1_begin 4 s [.ref (ad 2 0), .int p1, .int p2, .int p3].toArray wsL_law RX1 := S
  obtain ⟨hK, hN, hX⟩ := hpre
  have hl : lv_has ls 4 [(0, .ref (ad 2 0)), (1, .int p1), (2, .int p2), (3, .int p3)] := hl
  have hs := sp_X1_begin.eq_1 d p1 p2 p3
  have hS : va_S (adS (XN M T) ad) s.heap s.heap [] := va_S.rf
  refine lv_aload_n S.1 S.2.1 dX1_begin_0 rfl (lv_at hl 0 rfl) ?_
  refine lv_iconst (v := 1) S.1 S.2.1 dX1_begin_1 (by decide) ?_
  refine pf_RX1_9 S hK hX hS rfl rfl dX1_begin_2 (fun H locs hX hS => ?_)
  refine lv_aload_n S.1 S.2.1 dX1_begin_5 rfl (lv_at hl 0 rfl) ?_
  refine lv_iload_n S.1 S.2.1 dX1_begin_6 rfl (lv_at hl 1 rfl) ?_
  refine pf_RX1_15 S hK hX hS dX1_begin_7 (fun H locs hX hS => ?_)
  refine lv_aload_n S.1 S.2.1 dX1_begin_10 rfl (lv_at hl 0 rfl) ?_
  refine lv_iload_n S.1 S.2.1 dX1_begin_11 rfl (lv_at hl 2 rfl) ?_
  refine pf_RX1_19 S hK hX hS dX1_begin_12 (fun H locs hX hS => ?_)
  refine lv_aload_n S.1 S.2.1 dX1_begin_15 rfl (lv_at hl 0 rfl) ?_
  refine lv_iload_n S.1 S.2.1 dX1_begin_16 rfl (lv_at hl 3 rfl) ?_
  refine pf_RX1_22 S hK hX hS dX1_begin_17 (fun H locs hX hS => ?_)
  refine lv_aload_n S.1 S.2.1 dX1_begin_20 rfl (lv_at hl 0 rfl) ?_
  refine lv_iconst (v := 0) S.1 S.2.1 dX1_begin_21 (by decide) ?_
  refine pf_RX1_29 S hK hX hS dX1_begin_22 (fun H locs hX hS => ?_)
  exact wV S hr hlk hs hX hS dX1_begin_25
set_option maxRecDepth 100000 in
set_option maxHeartbeats 8000000 in
theorem c_J7_fill_53178 (l : Launch) (D : va_G) (G : Gc) (M T : Nat) (ad : Nat → Nat → Nat) (d : Dt) (t0 : Nat) (p1 : Int32) (ht0 : t0 < 4) : Met l yJ7_fill_53178 (wsU yJ7_fill_53178 cJ7_fill_53178 4 none) ({ frames := 0, cells := 0, slots := 0, locals := 0 } : Room) (va_Pc [.ref (ad 7 t0), .int p1] (XPre D (tysG G) (XF G M T ad) (XN M T) ad d)) (qW none D (XF G M T ad) (XN M T) ad (sp_J7_fill_53178 d t0 p1)) 0 0 (adS (XN M T) ad) := by
  refine ent (by decide +kernel) (Nat.le_of_ble_eq_true rfl) ?_
  intro p e s m below meth c S hr hlk hpre ls hl
  have S : CallFix p m c cJ7_fill_53178 4 s [.ref (ad 7 t0), .int p1].toArray wsL_law RJ7 := S
  obtain ⟨hK, hN, hX⟩ := hpre
  have hl : lv_has ls 4 [(0, .ref (ad 7 t0)), (1, .int p1)] := hl
  have hs := sp_J7_fill_53178.eq_1 d t0 p1
  have hS : va_S (adS (XN M T) ad) s.heap s.heap [] := va_S.rf
  refine lv_iconst (v := 0) S.1 S.2.1 dJ7_fill_53178_0 (by decide) ?_
  refine lv_istore_n (lv' := [(2, .int 0), (0, .ref (ad 7 t0)), (1, .int p1)]) S.1 S.2.1 dJ7_fill_53178_1 rfl hl (by decide) rfl (fun ls hl => ?_)
  refine lv_aload_n S.1 S.2.1 dJ7_fill_53178_2 rfl (lv_at hl 1 rfl) ?_
  refine xlen7 S hK hX ht0 dJ7_fill_53178_3 ?_
  refine lv_istore_n (lv' := [(3, .int 60), (2, .int 0), (0, .ref (ad 7 t0)), (1, .int p1)]) S.1 S.2.1 dJ7_fill_53178_4 rfl hl (by decide) rfl (fun ls hl => ?_)
  have L5 : ∀ (n : Nat), ∀ (x2 : Int32) (e5 : Dt), 60 - x2.toInt < (n : Int) → 0 ≤ x2.toInt → x2.toInt ≤ 60 → sp_J7_fill_53178 d t0 p1 = lp_J7_fill_53178_5 d t0 p1 n x2 e5 → ∀ (H : Heap) (locs : List Loc), PIC D (XF G M T ad) (XN M T) ad e5 H → va_S (adS (XN M T) ad) s.heap H locs → ∀ ls : Array Slot, lv_has ls 4 [(3, .int 60), (2, .int x2), (0, .ref (ad 7 t0)), (1, .int p1)] → W p l e ({ frames := 0, cells := 0, slots := 0, locals := 0 } : Room) s m [.ref (ad 7 t0), .int p1].toArray below meth c H locs 0 0 (MQ below (qW none D (XF G M T ad) (XN M T) ad (sp_J7_fill_53178 d t0 p1)) [.ref (ad 7 t0), .int p1].toArray s 0 0 (adS (XN M T) ad)) (F0 m 5 ls []) := by
    intro n
    induction n with
    | zero => intro x2 e5 hms v5_0 v5_1 hs H locs hX hS ls hl; omega
    | succ n ih5 =>
      intro x2 e5 hms v5_0 v5_1 hs H locs hX hS ls hl
      have hs := hs.trans (st_J7_fill_53178_5.eq_1 d t0 p1 (lp_J7_fill_53178_5 d t0 p1 n) x2 e5)
      refine lv_iload_n S.1 S.2.1 dJ7_fill_53178_5 rfl (lv_at hl 1 rfl) ?_
      refine lv_iload_n S.1 S.2.1 dJ7_fill_53178_6 rfl (lv_at hl 0 rfl) ?_
      refine q_icmp_ge (tgt := 20) (xi := x2.toInt) (yi := 60) S rfl rfl dJ7_fill_53178_7 (by decide) (fun c1 => ?_) (fun c1 => ?_)
      · have hs := hs.trans (cif_t c1)
        exact wV S hr hlk hs hX hS dJ7_fill_53178_20
      · have hs := hs.trans (cif_f c1)
        refine lv_aload_n S.1 S.2.1 dJ7_fill_53178_10 rfl (lv_at hl 2 rfl) ?_
        refine lv_iload_n S.1 S.2.1 dJ7_fill_53178_11 rfl (lv_at hl 1 rfl) ?_
        refine lv_iload_n S.1 S.2.1 dJ7_fill_53178_12 rfl (lv_at hl 3 rfl) ?_
        refine as_X7 S hK hX hS ht0 (by omega) (by omega) dJ7_fill_53178_13 (fun H locs hX hS => ?_)
        refine lv_iinc (v := x2 + 1) (lv' := [(2, .int (x2 + 1)), (3, .int 60), (0, .ref (ad 7 t0)), (1, .int p1)]) S.1 S.2.1 dJ7_fill_53178_14 hl (k := 1) rfl (by rfl) (by decide) rfl (fun ls hl => ?_)
        refine lv_goto (tgt := 5) S.1 S.2.1 dJ7_fill_53178_17 (by decide) ?_
        have e9 : ((x2 + 1)).toInt = x2.toInt + 1 := ti1 (by omega)
        exact ih5 (x2 + 1) (uv e5 7 t0 (ix x2) p1) (by omega) (by omega) (by omega) hs _ _ hX hS _ (lv_sub hl [1, 0, 2, 3] rfl)
  exact L5 64 0 d (by first | omega | (simp only [Int32.toInt_zero]; omega)) (by first | omega | (simp only [Int32.toInt_zero]; omega)) (by first | omega | (simp only [Int32.toInt_zero]; omega)) hs _ _ hX hS _ (lv_sub hl [0, 1, 2, 3] rfl)
set_option maxRecDepth 100000 in
set_option maxHeartbeats 8000000 in
theorem c_X2_renew (l : Launch) (D : va_G) (G : Gc) (M T : Nat) (ad : Nat → Nat → Nat) (d : Dt) (i : Nat) (p1 : Int32) (p2 : Int32) (hi : i < 4) : Met l yX2_renew (wsU yX2_renew cX2_renew 3 none) ({ frames := 1, cells := 0, slots := 0, locals := 23 } : Room) (va_Pc [.ref (ad 6 i), .int p1, .int p2] (XPre D (tysG G) (XF G M T ad) (XN M T) ad d)) (qW none D (XF G M T ad) (XN M T) ad (sp_X2_renew d i p1 p2)) 0 0 (adS (XN M T) ad) := by
  refine ent (by decide +kernel) (Nat.le_of_ble_eq_true rfl) ?_
  intro p e s m below meth c S hr hlk hpre ls hl
  have S : CallFix p m c cX2_renew 3 s [.ref (ad 6 i), .int p1, .int p2].toArray wsL_law RX2 := S
  obtain ⟨hK, hN, hX⟩ := hpre
  have hl : lv_has ls 3 [(0, .ref (ad 6 i)), (1, .int p1), (2, .int p2)] := hl
  have hs := sp_X2_renew.eq_1 d i p1 p2
  have hS : va_S (adS (XN M T) ad) s.heap s.heap [] := va_S.rf
  refine lv_aload_n S.1 S.2.1 dX2_renew_0 rfl (lv_at hl 0 rfl) ?_
  refine gf_RX2_9 S hK hX hi dX2_renew_1 ?_
  refine lv_iconst (v := 0) S.1 S.2.1 dX2_renew_4 (by decide) ?_
  refine cWS (rest := []) S (c_J7_fill_53178 l D G M T ad d i 0 hi) gS_RX2_26 ds_J7_fill_53178.2 ⟨rfl, rfl⟩ ⟨Nat.le_of_ble_eq_true rfl, Nat.le_of_ble_eq_true rfl⟩ ⟨blindX, preX hK hN hX _⟩ rfl hl.1 rfl (Nat.le_of_ble_eq_true rfl) ⟨Nat.le_of_ble_eq_true rfl, Nat.le_of_ble_eq_true rfl⟩ dX2_renew_5 hS (fun _ h => h) (fun H locs hX hS hfr => ?_)
  refine lv_aload_n S.1 S.2.1 dX2_renew_8 rfl (lv_at hl 0 rfl) ?_
  refine lv_iconst (v := 1) S.1 S.2.1 dX2_renew_9 (by decide) ?_
  refine pf_RX2_15 S hK hX hS hi rfl rfl dX2_renew_10 (fun H locs hX hS => ?_)
  refine lv_aload_n S.1 S.2.1 dX2_renew_13 rfl (lv_at hl 0 rfl) ?_
  refine lv_iload_n S.1 S.2.1 dX2_renew_14 rfl (lv_at hl 1 rfl) ?_
  refine pf_RX2_19 S hK hX hS hi dX2_renew_15 (fun H locs hX hS => ?_)
  refine lv_aload_n S.1 S.2.1 dX2_renew_18 rfl (lv_at hl 0 rfl) ?_
  refine lv_iload_n S.1 S.2.1 dX2_renew_19 rfl (lv_at hl 2 rfl) ?_
  refine pf_RX2_23 S hK hX hS hi dX2_renew_20 (fun H locs hX hS => ?_)
  exact wV S hr hlk hs hX hS dX2_renew_23
