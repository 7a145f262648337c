/-! ===== remake ===== -/
theorem fA_c {d e : Dt} (h8 : e.1 8 = d.1 8) (h10 : e.1 10 = d.1 10) (h11 : e.1 11 = d.1 11) (h12 : e.1 12 = d.1 12) (i : Nat) (a b : Int32) : sp_X0_factorAt e i a b = sp_X0_factorAt d i a b := by
  have on : ∀ i x y, sp_X0_isOnCurve e i x y = sp_X0_isOnCurve d i x y := fun i x y => by unfold sp_X0_isOnCurve; rw [h8, h10, h11]
  have be : ∀ i x y z, sp_X0_between e i x y z = sp_X0_between d i x y z := fun i x y z => by unfold sp_X0_between; rw [h10, h12]
  have lp : ∀ (n : Nat) (x y z : Int32), lp_X0_factorAt_10 e i a b n x y z = lp_X0_factorAt_10 d i a b n x y z := by
    intro n
    induction n with
    | zero => intro x y z; rfl
    | succ n ih =>
      intro x y z
      show st_X0_factorAt_10 e i a b (lp_X0_factorAt_10 e i a b n) x y z = st_X0_factorAt_10 d i a b (lp_X0_factorAt_10 d i a b n) x y z
      unfold st_X0_factorAt_10
      simp only [on, be, h8, h10, h12, ih]
  exact lp 16 0 (-9) (-9)
theorem tR_c {d e : Dt} (h8 : e.1 8 = d.1 8) (h10 : e.1 10 = d.1 10) (h11 : e.1 11 = d.1 11) (h12 : e.1 12 = d.1 12) {t : Nat} (ht : e.1 13 t = d.1 13 t) (m f to : Int32) : sp_X4_isToRemake e t m f to = sp_X4_isToRemake d t m f to := by
  unfold sp_X4_isToRemake sp_X3_counts sp_X3_isReplaced sp_X4_factorNow
  rw [ht, fA_c h8 h10 h11 h12]
theorem rep_13 {d : Dt} {p1 p2 p3 : Int32} {u : Nat} (h1 : u ≠ ix p1) (h2 : u ≠ ix (d.1 0 0 4)) : (sp_X4_replace d p1 p2 p3).1 13 u = d.1 13 u := by
  unfold sp_X4_replace sp_X4_keep
  simp [uv, tN, h1, h2]
theorem rep_tR {d : Dt} {p1 p2 p3 : Int32} {u : Nat} (h1 : u ≠ ix p1) (h2 : u ≠ ix (d.1 0 0 4)) (m f to : Int32) : sp_X4_isToRemake (sp_X4_replace d p1 p2 p3) u m f to = sp_X4_isToRemake d u m f to :=
  tR_c (d := d) (e := sp_X4_replace d p1 p2 p3) rfl rfl rfl rfl (rep_13 h1 h2) m f to
/-- how many of the Tickets a .. a + n - 1 are to be remade -/
noncomputable def due (d : Dt) (m f to : Int32) : Nat → Nat → Nat
  | 0, _ => 0
  | n + 1, a => cif (sp_X4_isToRemake d a m f to) 1 0 + due d m f to n (a + 1)
theorem due_c {d e : Dt} {m f to : Int32} : ∀ (n a : Nat), (∀ u, a ≤ u → u < a + n → sp_X4_isToRemake e u m f to = sp_X4_isToRemake d u m f to) → due e m f to n a = due d m f to n a := by
  intro n
  induction n with
  | zero => intro a _; rfl
  | succ n ih =>
    intro a h
    show cif (sp_X4_isToRemake e a m f to) 1 0 + due e m f to n (a + 1) = cif (sp_X4_isToRemake d a m f to) 1 0 + due d m f to n (a + 1)
    rw [h a (Nat.le_refl _) (by omega), ih (a + 1) (fun u h1 h2 => h u (by omega) (by omega))]
theorem due_le {d : Dt} {m f to : Int32} : ∀ (n a : Nat), due d m f to n a ≤ n := by
  intro n
  induction n with
  | zero => intro a; exact Nat.le_refl _
  | succ n ih =>
    intro a
    show cif (sp_X4_isToRemake d a m f to) 1 0 + due d m f to n (a + 1) ≤ n + 1
    have h := ih (a + 1)
    by_cases c : sp_X4_isToRemake d a m f to
    · rw [cif_t c]; omega
    · rw [cif_f c]; omega
noncomputable def rmk (m f to : Int32) : Nat → Nat → Dt → Dt
  | 0, _, e => e
  | n + 1, a, e => rmk m f to n (a + 1) (cif (sp_X4_isToRemake e a m f to) (sp_X4_replace e (nI a) 2 (e.1 13 a 2)) e)
noncomputable def sp_X4_remake (d : Dt) (m f to : Int32) : Int32 × Dt :=
  cif (sp_X4_isMeter d m) (cif (sp_X4_areDays f to) (cif (sp_X4_isShut d f) (-3, d) (cif ((due d m f to (ix (d.1 0 0 4)) 0 : Int) ≤ 40 - (d.1 0 0 4).toInt) (nI (due d m f to (ix (d.1 0 0 4)) 0), rmk m f to (ix (d.1 0 0 4)) 0 d) (-4, d))) (-2, d)) (-1, d)
abbrev RMR : Room := { frames := 4, cells := 40, slots := 320, locals := 95 }
set_option maxRecDepth 100000 in
set_option maxHeartbeats 16000000 in
theorem c_X4_remake (l : Launch) (D : va_G) (G : Gc) (M T : Nat) (ad : Nat → Nat → Nat) (d : Dt) (sz : Nat) (p1 p2 p3 : Int32) (hI : XI M T d) : Met l yX4_remake (wsU yX4_remake cX4_remake 7 (some .int)) RMR (va_Pc [.ref (ad 0 0), .int p1, .int p2, .int p3] (fun U => U.heap.size = sz ∧ XPre D (tysG G) (XF G M T ad) (XN M T) ad d U)) (qB (some (.int (sp_X4_remake d p1 p2 p3).1)) D G ad M T (sp_X4_remake d p1 p2 p3).2) 40 320 (fun q => adS (XN M T) ad q ∨ sz ≤ q) := by
  refine ent (by decide +kernel) (Nat.le_of_ble_eq_true rfl) ?_
  intro p e s m below meth c S hr hlk hpre ls hl
  have S : CallFix p m c cX4_remake 7 s [.ref (ad 0 0), .int p1, .int p2, .int p3].toArray wsL_law RX4 := S
  obtain ⟨hsz, hK, hN, hX⟩ := hpre
  subst hsz
  have hl : lv_has ls 7 [(0, .ref (ad 0 0)), (1, .int p1), (2, .int p2), (3, .int p3)] := hl
  have hs := sp_X4_remake.eq_1 d p1 p2 p3
  have hS0 : va_S (fun q => adS (XN M T) ad q ∨ s.heap.size ≤ q) s.heap s.heap [] := va_S.rf
  have hT : ix (d.1 0 0 4) = T := ix_of hI.2.2.1
  have q3 := hI.2.2.1
  have q4 := hI.2.2.2.1
  refine lv_aload_n S.1 S.2.1 dX4_remake_0 rfl (lv_at hl 0 rfl) ?_
  refine lv_iload_n S.1 S.2.1 dX4_remake_1 rfl (lv_at hl 1 rfl) ?_
  refine cPV (rest := []) S (c_X4_isMeter l D G M T ad d p1) gV_RX4_61 ds_X4_isMeter ⟨rfl, rfl⟩ ⟨Nat.le_of_ble_eq_true rfl, Nat.le_of_ble_eq_true rfl⟩ ⟨blindX, recvX hK hX (k := 0) (i := 0) Nat.zero_lt_one rfl rfl, preX hK hN hX _⟩ rfl hl.1 rfl (Nat.le_of_ble_eq_true rfl) ⟨Nat.le_of_ble_eq_true rfl, Nat.le_of_ble_eq_true rfl⟩ dX4_remake_2 ?_
  refine q_if_ne_b (tgt := 10) S dX4_remake_5 (by decide) (fun c1 => ?_) (fun c1 => ?_)
  rotate_left
  · have hs := hs.trans (cif_f c1)
    refine lv_iconst (v := (-1)) S.1 S.2.1 dX4_remake_8 (by decide) ?_
    refine W.widen (k := 40) (n := 320) (Nat.le_of_ble_eq_true rfl) (Nat.le_of_ble_eq_true rfl) ?_
    exact bI S hr hlk hs hX hI rfl (fun q h => Or.inl h) hS0 dX4_remake_9
  have hs := hs.trans (cif_t c1)
  refine lv_iload_n S.1 S.2.1 dX4_remake_10 rfl (lv_at hl 2 rfl) ?_
  refine lv_iload_n S.1 S.2.1 dX4_remake_11 rfl (lv_at hl 3 rfl) ?_
  refine cPS (rest := []) S (c_X4_areDays l p2 p3) gS_RX4_164 ds_X4_areDays.2 ⟨rfl, rfl⟩ ⟨Nat.le_of_ble_eq_true rfl, Nat.le_of_ble_eq_true rfl⟩ rfl hl.1 rfl (Nat.le_of_ble_eq_true rfl) ⟨Nat.le_of_ble_eq_true rfl, Nat.le_of_ble_eq_true rfl⟩ dX4_remake_12 ?_
  refine q_if_ne_b (tgt := 21) S dX4_remake_15 (by decide) (fun c2 => ?_) (fun c2 => ?_)
  rotate_left
  · have hs := hs.trans (cif_f c2)
    refine lv_bipush (v := (-2)) S.1 S.2.1 dX4_remake_18 (by decide) ?_
    refine W.widen (k := 40) (n := 320) (Nat.le_of_ble_eq_true rfl) (Nat.le_of_ble_eq_true rfl) ?_
    exact bI S hr hlk hs hX hI rfl (fun q h => Or.inl h) hS0 dX4_remake_20
  have hs := hs.trans (cif_t c2)
  refine lv_aload_n S.1 S.2.1 dX4_remake_21 rfl (lv_at hl 0 rfl) ?_
  refine lv_iload_n S.1 S.2.1 dX4_remake_22 rfl (lv_at hl 2 rfl) ?_
  refine cPV (rest := []) S (c_X4_isShut l D G M T ad d p2) gV_RX4_142 ds_X4_isShut ⟨rfl, rfl⟩ ⟨Nat.le_of_ble_eq_true rfl, Nat.le_of_ble_eq_true rfl⟩ ⟨blindX, recvX hK hX (k := 0) (i := 0) Nat.zero_lt_one rfl rfl, preX hK hN hX _⟩ rfl hl.1 rfl (Nat.le_of_ble_eq_true rfl) ⟨Nat.le_of_ble_eq_true rfl, Nat.le_of_ble_eq_true rfl⟩ dX4_remake_23 ?_
  refine q_if_eq_b (tgt := 32) S dX4_remake_26 (by decide) (fun c3 => ?_) (fun c3 => ?_)
  rotate_left
  · have hs := hs.trans (cif_t c3)
    refine lv_bipush (v := (-3)) S.1 S.2.1 dX4_remake_29 (by decide) ?_
    refine W.widen (k := 40) (n := 320) (Nat.le_of_ble_eq_true rfl) (Nat.le_of_ble_eq_true rfl) ?_
    exact bI S hr hlk hs hX hI rfl (fun q h => Or.inl h) hS0 dX4_remake_31
  have hs := hs.trans (cif_f c3)
  rw [hT] at hs
  obtain ⟨N, eN⟩ : ∃ z, z = due d p1 p2 p3 T 0 := ⟨_, rfl⟩
  rw [← eN] at hs
  have hNT : N ≤ T := by rw [eN]; exact due_le T 0
  -- the second loop
  have L2 : ∀ (n a k : Nat) (e2 : Dt) (ad' : Nat → Nat → Nat) (H : Heap) (locs : List Loc), a + n = T → XI M (T + k) e2 → T + k + due e2 p1 p2 p3 n a ≤ 40 → PIC D (XF G M (T + k) ad') (XN M (T + k)) ad' e2 H → ad' 0 0 = ad 0 0 → (∀ q, adS (XN M (T + k)) ad' q → adS (XN M T) ad q ∨ s.heap.size ≤ q) → va_S (fun q => adS (XN M T) ad q ∨ s.heap.size ≤ q) s.heap H locs → sp_X4_remake d p1 p2 p3 = (nI N, rmk p1 p2 p3 n a e2) → ∀ ls : Array Slot, lv_has ls 7 [(6, .int (nI a)), (5, .int (nI N)), (4, .int (d.1 0 0 4)), (0, .ref (ad 0 0)), (1, .int p1), (2, .int p2), (3, .int p3)] →
      W p l e RMR s m [.ref (ad 0 0), .int p1, .int p2, .int p3].toArray below meth c H locs k (8 * k) (MQ below (qB (some (.int (sp_X4_remake d p1 p2 p3).1)) D G ad M T (sp_X4_remake d p1 p2 p3).2) [.ref (ad 0 0), .int p1, .int p2, .int p3].toArray s 40 320 (fun q => adS (XN M T) ad q ∨ s.heap.size ≤ q)) (F0 m 100 ls []) := by
    intro n
    induction n with
    | zero =>
      intro a k e2 ad' H locs ha hI2 hd2 hX2 h02 hA2 hS2 hs2 ls hl
      have ha : a = T := by omega
      subst ha
      refine lv_iload S.1 S.2.1 dX4_remake_100 (lv_at hl 0 rfl) ?_
      refine lv_iload S.1 S.2.1 dX4_remake_102 (lv_at hl 2 rfl) ?_
      refine q_icmp_ge (tgt := 147) (xi := (a : Int)) (yi := (a : Int)) S (nI_toInt (by omega)) q3 dX4_remake_104 (by decide) (fun _ => ?_) (fun z => absurd (Int.le_refl _) z)
      refine lv_iload S.1 S.2.1 dX4_remake_147 (lv_at hl 1 rfl) ?_
      refine W.widen (k := 40) (n := 320) (by omega) (by omega) ?_
      exact bI S hr hlk hs2 hX2 hI2 h02 hA2 hS2 dX4_remake_149
    | succ n ih =>
      intro a k e2 ad' H locs ha hI2 hd2 hX2 h02 hA2 hS2 hs ls hl
      have hia : ix (nI a) = a := ix_of (nI_toInt (by omega))
      have hit : (nI a).toInt = (a : Int) := nI_toInt (by omega)
      have hl' : lv_has ls 7 [(6, .int (nI a)), (5, .int (nI N)), (4, .int (d.1 0 0 4)), (0, .ref (ad' 0 0)), (1, .int p1), (2, .int p2), (3, .int p3)] := by rw [h02]; exact hl
      have hxa : ix (nI a) < T + k := by omega
      refine lv_iload S.1 S.2.1 dX4_remake_100 (lv_at hl 0 rfl) ?_
      refine lv_iload S.1 S.2.1 dX4_remake_102 (lv_at hl 2 rfl) ?_
      refine q_icmp_ge (tgt := 147) (xi := (a : Int)) (yi := (T : Int)) S hit q3 dX4_remake_104 (by decide) (fun z => absurd z (by omega)) (fun _ => ?_)
      refine lv_aload_n S.1 S.2.1 dX4_remake_107 rfl (lv_at hl' 3 rfl) ?_
      refine lv_aload_n S.1 S.2.1 dX4_remake_108 rfl (lv_at hl' 3 rfl) ?_
      refine gf_RX4_30 S hK hX2 dX4_remake_109 ?_
      refine lv_iload S.1 S.2.1 dX4_remake_112 (lv_at hl' 0 rfl) ?_
      refine al_X4 S hK hX2 (by omega) (by omega) hxa dX4_remake_114 ?_
      refine lv_iload_n S.1 S.2.1 dX4_remake_115 rfl (lv_at hl' 4 rfl) ?_
      refine lv_iload_n S.1 S.2.1 dX4_remake_116 rfl (lv_at hl' 5 rfl) ?_
      refine lv_iload_n S.1 S.2.1 dX4_remake_117 rfl (lv_at hl' 6 rfl) ?_
      refine cPV (rest := []) S (c_X4_isToRemake l D G M (T + k) ad' e2 (ix (nI a)) p1 p2 p3 hxa hI2) gV_RX4_168 ds_X4_isToRemake ⟨rfl, rfl⟩ ⟨Nat.le_of_ble_eq_true rfl, Nat.le_of_ble_eq_true rfl⟩ ⟨blindX, recvX hK hX2 (k := 0) (i := 0) Nat.zero_lt_one rfl rfl, preX hK hN hX2 _⟩ rfl hl.1 rfl (Nat.le_of_ble_eq_true rfl) ⟨by show k ≤ 40; omega, by show 8 * k ≤ 320; omega⟩ dX4_remake_118 ?_
      have hs : sp_X4_remake d p1 p2 p3 = (nI N, rmk p1 p2 p3 n (a + 1) (cif (sp_X4_isToRemake e2 a p1 p2 p3) (sp_X4_replace e2 (nI a) 2 (e2.1 13 a 2)) e2)) := hs
      have hd2 : T + k + (cif (sp_X4_isToRemake e2 a p1 p2 p3) 1 0 + due e2 p1 p2 p3 n (a + 1)) ≤ 40 := hd2
      rw [hia]
      -- the step at pc 141
      have step : ∀ (k1 : Nat) (e3 : Dt) (ad3 : Nat → Nat → Nat) (H3 : Heap) (locs3 : List Loc), XI M (T + k1) e3 → T + k1 + due e3 p1 p2 p3 n (a + 1) ≤ 40 → PIC D (XF G M (T + k1) ad3) (XN M (T + k1)) ad3 e3 H3 → ad3 0 0 = ad 0 0 → (∀ q, adS (XN M (T + k1)) ad3 q → adS (XN M T) ad q ∨ s.heap.size ≤ q) → va_S (fun q => adS (XN M T) ad q ∨ s.heap.size ≤ q) s.heap H3 locs3 → sp_X4_remake d p1 p2 p3 = (nI N, rmk p1 p2 p3 n (a + 1) e3) → W p l e RMR s m [.ref (ad 0 0), .int p1, .int p2, .int p3].toArray below meth c H3 locs3 k1 (8 * k1) (MQ below (qB (some (.int (sp_X4_remake d p1 p2 p3).1)) D G ad M T (sp_X4_remake d p1 p2 p3).2) [.ref (ad 0 0), .int p1, .int p2, .int p3].toArray s 40 320 (fun q => adS (XN M T) ad q ∨ s.heap.size ≤ q)) (F0 m 141 ls []) := fun k1 e3 ad3 H3 locs3 g1 g2 g3 g4 g5 g6 g7 => by
        refine lv_iinc (v := nI (a + 1)) (lv' := [(6, .int (nI (a + 1))), (5, .int (nI N)), (4, .int (d.1 0 0 4)), (0, .ref (ad 0 0)), (1, .int p1), (2, .int p2), (3, .int p3)]) S.1 S.2.1 dX4_remake_141 hl (k := 0) rfl (nI_1 a) (by decide) rfl (fun ls hl => ?_)
        refine lv_goto (tgt := 100) S.1 S.2.1 dX4_remake_144 (by decide) ?_
        exact ih (a + 1) k1 e3 ad3 H3 locs3 (by omega) g1 g2 g3 g4 g5 g6 g7 ls hl
      refine q_if_eq_b (tgt := 141) S dX4_remake_121 (by decide) (fun c5 => ?_) (fun c5 => ?_)
      · rw [cif_f c5] at hs hd2
        exact step k e2 ad' H locs hI2 (by omega) hX2 h02 hA2 hS2 hs
      · rw [cif_t c5] at hs hd2
        refine lv_aload_n S.1 S.2.1 dX4_remake_124 rfl (lv_at hl' 3 rfl) ?_
        refine lv_iload S.1 S.2.1 dX4_remake_125 (lv_at hl' 0 rfl) ?_
        refine lv_iconst (v := 2) S.1 S.2.1 dX4_remake_127 (by decide) ?_
        refine lv_aload_n S.1 S.2.1 dX4_remake_128 rfl (lv_at hl' 3 rfl) ?_
        refine gf_RX4_30 S hK hX2 dX4_remake_129 ?_
        refine lv_iload S.1 S.2.1 dX4_remake_132 (lv_at hl' 0 rfl) ?_
        refine al_X4 S hK hX2 (by omega) (by omega) hxa dX4_remake_134 ?_
        refine gf_RX4_172 S hK hX2 hxa (v := e2.1 13 a 2) (by rw [hia]) dX4_remake_135 ?_
        refine cBV (rest := []) (A := fun q => adS (XN M T) ad q ∨ s.heap.size ≤ q) S (c_X4_replace l D G M (T + k) ad' e2 H.size (nI a) 2 (e2.1 13 a 2) hI2 (by omega) (by omega) (by omega)) gV_RX4_161 ds_X4_replace ⟨rfl, rfl⟩ ⟨Nat.le_of_ble_eq_true rfl, Nat.le_of_ble_eq_true rfl⟩ ⟨blindB, recvX hK hX2 (k := 0) (i := 0) Nat.zero_lt_one rfl rfl, preB hK hN hX2 _⟩ rfl hl.1 rfl (Nat.le_of_ble_eq_true rfl) ⟨by show k + 1 ≤ 40; omega, by show 8 * k + 8 ≤ 320; omega⟩ dX4_remake_138 hS2 hA2 (fun _ h => Or.inr h) (fun H1 locs1 M1 T1 ad1 hX1 hI1 h01 hA1 hS1 hk1 => ?_)
        have m1 : M1 = M := by
          have g1 := hI1.1
          have g2 := hI2.1
          have g3 : (sp_X4_replace e2 (nI a) 2 (e2.1 13 a 2)).1 0 0 1 = e2.1 0 0 1 := rfl
          rw [g3] at g1
          omega
        have t4 : (sp_X4_replace e2 (nI a) 2 (e2.1 13 a 2)).1 0 0 4 = e2.1 0 0 4 + 1 := rfl
        have t1 : T1 = T + (k + 1) := by
          have g1 := hI1.2.2.1
          have g2 := hI2.2.2.1
          rw [t4, ti1 (by omega)] at g1
          omega
        subst m1
        subst t1
        have hTk : ix (e2.1 0 0 4) = T + k := ix_of hI2.2.2.1
        have hdc : due (sp_X4_replace e2 (nI a) 2 (e2.1 13 a 2)) p1 p2 p3 n (a + 1) = due e2 p1 p2 p3 n (a + 1) := due_c n (a + 1) (fun u g1 g2 => rep_tR (by omega) (by omega) p1 p2 p3)
        refine W.widen (k := k + 1) (n := 8 * (k + 1)) (Nat.le_refl _) (by omega) ?_
        exact step (k + 1) _ ad1 H1 locs1 hI1 (by rw [hdc]; omega) hX1 (h01.trans h02) (fun q h => by
          rcases hA1 q h with z | z
          · exact hA2 q z
          · exact Or.inr (Nat.le_trans hS2.1 z)) hS1 hs
  -- the first loop
  have L1 : ∀ (n a k : Nat), a + n = T → k + due d p1 p2 p3 n a = N → ∀ ls : Array Slot, lv_has ls 7 [(6, .int (nI a)), (5, .int (nI k)), (4, .int (d.1 0 0 4)), (0, .ref (ad 0 0)), (1, .int p1), (2, .int p2), (3, .int p3)] →
      W p l e RMR s m [.ref (ad 0 0), .int p1, .int p2, .int p3].toArray below meth c s.heap [] 0 0 (MQ below (qB (some (.int (sp_X4_remake d p1 p2 p3).1)) D G ad M T (sp_X4_remake d p1 p2 p3).2) [.ref (ad 0 0), .int p1, .int p2, .int p3].toArray s 40 320 (fun q => adS (XN M T) ad q ∨ s.heap.size ≤ q)) (F0 m 44 ls []) := by
    intro n
    induction n with
    | zero =>
      intro a k ha hk ls hl
      have ha : a = T := by omega
      have hk : k = N := hk
      subst ha
      subst hk
      refine lv_iload S.1 S.2.1 dX4_remake_44 (lv_at hl 0 rfl) ?_
      refine lv_iload S.1 S.2.1 dX4_remake_46 (lv_at hl 2 rfl) ?_
      refine q_icmp_ge (tgt := 84) (xi := (a : Int)) (yi := (a : Int)) S (nI_toInt (by omega)) q3 dX4_remake_48 (by decide) (fun _ => ?_) (fun z => absurd (Int.le_refl _) z)
      refine lv_iload S.1 S.2.1 dX4_remake_84 (lv_at hl 1 rfl) ?_
      refine lv_bipush (v := 40) S.1 S.2.1 dX4_remake_86 (by decide) ?_
      refine lv_iload S.1 S.2.1 dX4_remake_88 (lv_at hl 2 rfl) ?_
      refine lv_isub S.1 S.2.1 dX4_remake_90 ?_
      have e40 : (40 : Int32).toInt = 40 := rfl
      have es : ((40 : Int32) - d.1 0 0 4).toInt = 40 - (d.1 0 0 4).toInt := by rw [ti_sub (by omega) (by omega), e40]
      refine q_icmp_le (tgt := 97) (xi := (k : Int)) (yi := 40 - (d.1 0 0 4).toInt) S (nI_toInt (by omega)) es dX4_remake_91 (by decide) (fun c6 => ?_) (fun c6 => ?_)
      · have hs := hs.trans (cif_t c6)
        refine lv_iconst (v := 0) S.1 S.2.1 dX4_remake_97 (by decide) ?_
        refine lv_istore (lv' := [(6, .int 0), (5, .int (nI k)), (4, .int (d.1 0 0 4)), (0, .ref (ad 0 0)), (1, .int p1), (2, .int p2), (3, .int p3)]) S.1 S.2.1 dX4_remake_98 hl (by decide) rfl (fun ls hl => ?_)
        exact L2 a 0 0 d ad s.heap [] (by omega) hI (by omega) hX rfl (fun q h => Or.inl h) hS0 hs ls hl
      · have hs := hs.trans (cif_f c6)
        refine lv_bipush (v := (-4)) S.1 S.2.1 dX4_remake_94 (by decide) ?_
        refine W.widen (k := 40) (n := 320) (Nat.le_of_ble_eq_true rfl) (Nat.le_of_ble_eq_true rfl) ?_
        exact bI S hr hlk hs hX hI rfl (fun q h => Or.inl h) hS0 dX4_remake_96
    | succ n ih =>
      intro a k ha hk ls hl
      have hia : ix (nI a) = a := ix_of (nI_toInt (by omega))
      have hit : (nI a).toInt = (a : Int) := nI_toInt (by omega)
      have hxa : ix (nI a) < T := by omega
      have hk : k + (cif (sp_X4_isToRemake d a p1 p2 p3) 1 0 + due d p1 p2 p3 n (a + 1)) = N := hk
      refine lv_iload S.1 S.2.1 dX4_remake_44 (lv_at hl 0 rfl) ?_
      refine lv_iload S.1 S.2.1 dX4_remake_46 (lv_at hl 2 rfl) ?_
      refine q_icmp_ge (tgt := 84) (xi := (a : Int)) (yi := (T : Int)) S hit q3 dX4_remake_48 (by decide) (fun z => absurd z (by omega)) (fun _ => ?_)
      refine lv_iload S.1 S.2.1 dX4_remake_51 (lv_at hl 1 rfl) ?_
      refine lv_aload_n S.1 S.2.1 dX4_remake_53 rfl (lv_at hl 3 rfl) ?_
      refine lv_aload_n S.1 S.2.1 dX4_remake_54 rfl (lv_at hl 3 rfl) ?_
      refine gf_RX4_30 S hK hX dX4_remake_55 ?_
      refine lv_iload S.1 S.2.1 dX4_remake_58 (lv_at hl 0 rfl) ?_
      refine al_X4 S hK hX (by omega) (by omega) hxa dX4_remake_60 ?_
      refine lv_iload_n S.1 S.2.1 dX4_remake_61 rfl (lv_at hl 4 rfl) ?_
      refine lv_iload_n S.1 S.2.1 dX4_remake_62 rfl (lv_at hl 5 rfl) ?_
      refine lv_iload_n S.1 S.2.1 dX4_remake_63 rfl (lv_at hl 6 rfl) ?_
      refine cPV (rest := [.int (nI k)]) S (c_X4_isToRemake l D G M T ad d (ix (nI a)) p1 p2 p3 hxa hI) gV_RX4_168 ds_X4_isToRemake ⟨rfl, rfl⟩ ⟨Nat.le_of_ble_eq_true rfl, Nat.le_of_ble_eq_true rfl⟩ ⟨blindX, recvX hK hX (k := 0) (i := 0) Nat.zero_lt_one rfl rfl, preX hK hN hX _⟩ rfl hl.1 rfl (Nat.le_of_ble_eq_true rfl) ⟨Nat.le_of_ble_eq_true rfl, Nat.le_of_ble_eq_true rfl⟩ dX4_remake_64 ?_
      rw [hia]
      have step : ∀ k1 : Nat, k1 + due d p1 p2 p3 n (a + 1) = N → W p l e RMR s m [.ref (ad 0 0), .int p1, .int p2, .int p3].toArray below meth c s.heap [] 0 0 (MQ below (qB (some (.int (sp_X4_remake d p1 p2 p3).1)) D G ad M T (sp_X4_remake d p1 p2 p3).2) [.ref (ad 0 0), .int p1, .int p2, .int p3].toArray s 40 320 (fun q => adS (XN M T) ad q ∨ s.heap.size ≤ q)) (F0 m 76 ls [.int (nI k1)]) := fun k1 g1 => by
        refine lv_istore (lv' := [(5, .int (nI k1)), (6, .int (nI a)), (4, .int (d.1 0 0 4)), (0, .ref (ad 0 0)), (1, .int p1), (2, .int p2), (3, .int p3)]) S.1 S.2.1 dX4_remake_76 hl (by decide) rfl (fun ls hl => ?_)
        refine lv_iinc (v := nI (a + 1)) (lv' := [(6, .int (nI (a + 1))), (5, .int (nI k1)), (4, .int (d.1 0 0 4)), (0, .ref (ad 0 0)), (1, .int p1), (2, .int p2), (3, .int p3)]) S.1 S.2.1 dX4_remake_78 hl (k := 1) rfl (nI_1 a) (by decide) rfl (fun ls hl => ?_)
        refine lv_goto (tgt := 44) S.1 S.2.1 dX4_remake_81 (by decide) ?_
        exact ih (a + 1) k1 (by omega) g1 ls hl
      refine q_if_eq_b (tgt := 74) S dX4_remake_67 (by decide) (fun c5 => ?_) (fun c5 => ?_)
      · rw [cif_f c5] at hk
        refine lv_iconst (v := 0) S.1 S.2.1 dX4_remake_74 (by decide) ?_
        refine lv_iadd S.1 S.2.1 dX4_remake_75 (q_to (Int32.add_zero _) ?_)
        exact step k (by omega)
      · rw [cif_t c5] at hk
        refine lv_iconst (v := 1) S.1 S.2.1 dX4_remake_70 (by decide) ?_
        refine lv_goto (tgt := 75) S.1 S.2.1 dX4_remake_71 (by decide) ?_
        refine lv_iadd S.1 S.2.1 dX4_remake_75 (q_to (nI_1 k) ?_)
        exact step (k + 1) (by omega)
  refine lv_aload_n S.1 S.2.1 dX4_remake_32 rfl (lv_at hl 0 rfl) ?_
  refine gf_RX4_34 S hK hX (v := d.1 0 0 4) rfl dX4_remake_33 ?_
  refine lv_istore (lv' := [(4, .int (d.1 0 0 4)), (0, .ref (ad 0 0)), (1, .int p1), (2, .int p2), (3, .int p3)]) S.1 S.2.1 dX4_remake_36 hl (by decide) rfl (fun ls hl => ?_)
  refine lv_iconst (v := 0) S.1 S.2.1 dX4_remake_38 (by decide) ?_
  refine lv_istore (lv' := [(5, .int 0), (4, .int (d.1 0 0 4)), (0, .ref (ad 0 0)), (1, .int p1), (2, .int p2), (3, .int p3)]) S.1 S.2.1 dX4_remake_39 hl (by decide) rfl (fun ls hl => ?_)
  refine lv_iconst (v := 0) S.1 S.2.1 dX4_remake_41 (by decide) ?_
  refine lv_istore (lv' := [(6, .int 0), (5, .int 0), (4, .int (d.1 0 0 4)), (0, .ref (ad 0 0)), (1, .int p1), (2, .int p2), (3, .int p3)]) S.1 S.2.1 dX4_remake_42 hl (by decide) rfl (fun ls hl => ?_)
  exact L1 T 0 0 (by omega) (by rw [eN]; omega) ls hl
