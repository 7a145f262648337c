/-! ===== METERS, FACTORS ===== -/
theorem cq {α β : Type} {Q : α → β → Prop} {P P' : Prop} {a a' : α} {b b' : β} (e : P = P') (h1 : P → Q a b) (h2 : ¬ P → Q a' b') : Q (cif P a a') (cif P' b b') := by
  subst e
  by_cases q : P
  · rw [cif_t q, cif_t q]; exact h1 q
  · rw [cif_f q, cif_f q]; exact h2 q
theorem cnq {α β : Type} {Q : α → β → Prop} {P P' : Prop} {a a' : α} {b b' : β} (e : P' = ¬ P) (h1 : P → Q a b) (h2 : ¬ P → Q a' b') : Q (cif P a a') (cif P' b' b) := by
  subst e
  rw [cif_n]; exact cq rfl h1 h2
theorem ciq {α β : Type} {Q : α → β → Prop} {P P' : Prop} {a a' : α} {b b' : β} (e : P ↔ P') (h1 : P → Q a b) (h2 : ¬ P → Q a' b') : Q (cif P a a') (cif P' b b') := cq (propext e) h1 h2
theorem cniq {α β : Type} {Q : α → β → Prop} {P P' : Prop} {a a' : α} {b b' : β} (e : P' ↔ ¬ P) (h1 : P → Q a b) (h2 : ¬ P → Q a' b') : Q (cif P a a') (cif P' b' b) := cnq (propext e) h1 h2
section R5S
variable {M T : Nat} {d τ : Dt}
theorem acc_Q {Q : Int32 × Dt → Int32 × Dt → Prop} (h : R1 d τ) (iX : XI M T d) (iM : MI τ) (a : Int32) (q0 : ∀ x, Q (x, d) (x, τ)) (q1 : ∀ F : Int32, sp_X4_isDay a → ¬ (d.1 2 0 0).toInt = 0 → 95000 ≤ F.toInt → F.toInt ≤ 105000 → 0 ≤ (d.1 2 0 1).toInt → (d.1 2 0 1).toInt < (d.1 0 0 1).toInt → (d.1 8 (ix (d.1 2 0 1)) 6).toInt < 12 → Q (F, uv (sp_X0_takeFactor d (ix (d.1 2 0 1)) (d.1 2 0 2) a F) 2 0 0 0) (F, uv (sp_X5_addFactor τ (d.1 2 0 1) (d.1 2 0 2) a F) 0 0 12 (-1))) : Q (sp_X4_accept d a) (sp_X5_accept τ a) := by
  unfold sp_X4_accept sp_X5_accept
  have g4 := h.2.2.2.1
  refine cq (isDay_e a).symm (fun c1 => ?_) (fun _ => q0 _)
  refine ciq g4.1 (fun _ => q0 _) (fun c2 => ?_)
  refine cq (isGood_e h) (fun c3 => ?_) (fun _ => q0 _)
  rw [isGood_e h] at c3
  have gd := gdm_of c3
  have f2 := iX.pm c2
  have fM := iX.1
  have f6 := iX.2.1
  have h12 := iM.2.2.2.1
  have q12 : 0 ≤ (τ.1 0 0 12).toInt := by
    have := Int.not_lt.mp (fun z => c2 (g4.1.mpr z))
    omega
  have em : d.1 2 0 1 = τ.1 0 0 12 := g4.2.1 q12
  have e5 : ((τ.1 0 0 15) - 5).toInt = (τ.1 0 0 15).toInt - 5 := ti_sub (by rw [show (5 : Int32).toInt = 5 from rfl]; omega) (by rw [show (5 : Int32).toInt = 5 from rfl]; omega)
  have ex : (if (0 : Int32) < (d.1 2 0 5) - 5 then (d.1 2 0 5) - 5 else 0) = (τ.1 0 0 15) - 5 := by
    rw [g4.2.2.2.2.1]
    exact Int32.toInt_inj.mp (mx0 (by omega))
  have ii := ix_int f2.1
  have h6 : ix (d.1 2 0 1) < 6 := by omega
  have hm : ((ix (d.1 2 0 1) : Nat) : Int) < (d.1 0 0 1).toInt := by omega
  have gm := (h.2.2.1 _ h6).1 hm
  have hf := iX.fc (i := ix (d.1 2 0 1)) (by omega)
  have hB := tot_B iM gd.2 gd.1 16 ((τ.1 0 0 15) - 5) 0 (by omega) (by omega) (by omega) (by rw [Int64.toInt_zero]; omega) (by rw [Int64.toInt_zero]; omega) (fun z => by omega)
  have eF : sp_X1_factorOf d (d.1 8 (ix (d.1 2 0 1)) 0) = sp_X5_rounded ((500 * ((τ.1 0 0 14).toInt64)) * ((τ.1 2 0 (ix (τ.1 0 0 12))).toInt64)) (totM τ 16 ((τ.1 0 0 15) - 5) 0) := by
    unfold sp_X1_factorOf
    rw [ex, tot_X h _ 16 _ _ (by omega) (by omega) (by omega)]
    unfold sp_X4_rounded sp_X5_rounded
    rw [cif_t hB, ← gm.1, em]
  rw [eF, tot_M a 16 _ _ (by omega) (by omega) (by omega) (by omega)]
  generalize sp_X5_rounded ((500 * ((τ.1 0 0 14).toInt64)) * ((τ.1 2 0 (ix (τ.1 0 0 12))).toInt64)) (totM τ 16 ((τ.1 0 0 15) - 5) 0) = F
  have l1 : (95000 : Int64).toInt = 95000 := rfl
  have l2 : (105000 : Int64).toInt = 105000 := rfl
  have nu : sp_X5_isNumber F ↔ 95000 ≤ F.toInt ∧ F.toInt ≤ 105000 := by unfold sp_X5_isNumber; rw [in_iff, l1, l2]
  by_cases n1 : F.toInt < 95000
  · rw [cif_t n1, cif_f (fun z => by have := nu.mp z; omega)]; exact q0 _
  rw [cif_f n1]
  by_cases n2 : F.toInt ≤ 105000
  · rw [cif_t n2, cif_t (nu.mpr ⟨by omega, n2⟩)]
    refine ciq (by rw [full_iff, ← em, gm.2.2.1]; omega) (fun _ => q0 _) (fun c5 => ?_)
    have c5 : ¬ 12 ≤ (d.1 8 (ix (d.1 2 0 1)) 6).toInt := fun q => c5 (full_iff.mpr q)
    rw [← em]
    rw [← g4.2.2.1]
    have e32 : F.toInt32.toInt = F.toInt := by rw [Int64.toInt_toInt32]; exact bm32 (by omega) (by omega)
    exact q1 F.toInt32 c1 c2 (by omega) (by omega) f2.1 (by omega) (by omega)
  · rw [cif_f n2, cif_f (fun z => by have := nu.mp z; omega)]; exact q0 _
theorem rT1.up {c c' : Int32} {x : Nat → Int32} {a1 a2 a3 a4 a5 a6 a7 a8 : Int32} (h : rT1 c x a1 a2 a3 a4 a5 a6 a7 a8) (hc : c.toInt ≤ c'.toInt) : rT1 c' x a1 a2 a3 a4 a5 a6 a7 a8 := ⟨h.1, ⟨h.2.1.1, Int.lt_of_lt_of_le h.2.1.2 hc⟩, h.2.2⟩
theorem r2_X4_meter (h : R2 d τ) (iX : XI M T d) (iM : MI τ) (a : Int32) : R2 (sp_X4_meter d a).2 (sp_X5_meter τ a).2 := by
  refine ⟨(r1_X4_meter h.1 iX a).2, ?_⟩
  obtain ⟨h1, hX⟩ := h
  unfold sp_X4_meter sp_X5_meter
  refine cq (Q := fun p q : Int32 × Dt => RX p.2 q.2) (in_iw (p := a) (lo := 1) (hi := 100000) rfl rfl).symm (fun c1 => ?_) (fun _ => hX)
  have f3 := iX.1
  have f4 := iX.2.1
  have fa := iw_iff.mp c1
  refine cniq (Q := fun p q : Int32 × Dt => RX p.2 q.2) (by rw [h1.1]; omega) (fun c => ?_) (fun _ => hX)
  rw [h1.1]
  have e1 : ix (d.1 0 0 1) = M := ix_of f3
  have e2 := ti1 (x := d.1 0 0 1) (by omega)
  rw [e1]
  obtain ⟨x1, x2, x3, x4, x5, x6, x7, x8, x9⟩ := hX
  have e8 : ∀ m, m ≠ M → (mN d M a).1 8 m = d.1 8 m := fun m hm => if_neg hm
  have e9 : ∀ m, m ≠ M → (mN d M a).1 9 m = d.1 9 m := fun m hm => if_neg hm
  have er : ∀ m, m ≠ M → rowX (uv (mN d M a) 0 0 1 ((d.1 0 0 1) + 1)) m = rowX d m := fun m hm => by
    funext j
    show ((mN d M a).1 10 m j, (mN d M a).1 11 m j, (mN d M a).1 12 m j) = _
    rw [show (mN d M a).1 10 m = d.1 10 m from if_neg hm, show (mN d M a).1 11 m = d.1 11 m from if_neg hm, show (mN d M a).1 12 m = d.1 12 m from if_neg hm]; rfl
  refine ⟨fun m hm hc => ?_, fun m hm hc => ?_, x3, fun t ht => (x4 t ht).up (by show _ ≤ ((d.1 0 0 1) + 1).toInt; omega), x5, by show ((d.1 0 0 1) + 1).toInt ≤ 6; omega, x7, x8, x9⟩
  · have hc : (m : Int) < ((d.1 0 0 1) + 1).toInt := hc
    by_cases q : m = M
    · refine ⟨0, ?_, by omega, fun j k _ hk => absurd hk (Nat.not_lt_zero _), fun D => rfl, fun j hj => absurd hj (Nat.not_lt_zero _)⟩
      show ((if m = M then (fun j : Nat => match j with | 0 => a | _ => 0) else d.1 8 m) 6).toInt = 0
      rw [if_pos q]; rfl
    · obtain ⟨N, g1, g2, g3, g4, g5⟩ := x1 m hm (by omega)
      rw [er m q]
      exact ⟨N, by show ((mN d M a).1 8 m 6).toInt = _; rw [e8 m q]; exact g1, g2, g3, g4, g5⟩
  · have hc : (m : Int) < ((d.1 0 0 1) + 1).toInt := hc
    by_cases q : m = M
    · refine ⟨?_, ?_, ?_, fun l hl => ?_⟩
      · show 1 ≤ ((if m = M then (fun j : Nat => match j with | 0 => a | _ => 0) else d.1 8 m) 0).toInt
        rw [if_pos q]; exact fa.1
      · show 0 ≤ ((if m = M then (fun j : Nat => match j with | 0 => a | _ => 0) else d.1 8 m) 1).toInt
        rw [if_pos q]; exact (by decide : 0 ≤ (0 : Int32).toInt)
      · show ((if m = M then (fun j : Nat => match j with | 0 => a | _ => 0) else d.1 8 m) 1).toInt ≤ 5000
        rw [if_pos q]; exact (by decide : (0 : Int32).toInt ≤ 5000)
      · show -1 ≤ ((if m = M then (fun _ : Nat => (0 : Int32)) else d.1 9 m) l).toInt ∧ ((if m = M then (fun _ : Nat => (0 : Int32)) else d.1 9 m) l).toInt ≤ 1
        rw [if_pos q]; decide
    · show 1 ≤ ((mN d M a).1 8 m 0).toInt ∧ 0 ≤ ((mN d M a).1 8 m 1).toInt ∧ ((mN d M a).1 8 m 1).toInt ≤ 5000 ∧ ∀ l : Nat, l < 4 → -1 ≤ ((mN d M a).1 9 m l).toInt ∧ ((mN d M a).1 9 m l).toInt ≤ 1
      rw [e8 m q, e9 m q]; exact x2 m hm (by omega)
theorem RX.fac (h : RX d τ) (h1 : R1 d τ) {m : Int32} (m0 : 0 ≤ m.toInt) (mc : m.toInt < (d.1 0 0 1).toInt) (hn : (d.1 8 (ix m) 6).toInt < 12) {a b c : Int32} (hp : ptB (a, b, c)) : RX (sp_X0_takeFactor d (ix m) a b c) (sp_X5_addFactor τ m a b c) := by
  obtain ⟨x1, x2, x3, x4, x5, x6, x7, x8, x9⟩ := h
  have im := ix_int m0
  have h6 : ix m < 6 := by omega
  have hm : ((ix m : Nat) : Int) < (d.1 0 0 1).toInt := by omega
  obtain ⟨N, hN, h12, hS, hD, hB⟩ := x1 (ix m) h6 hm
  have gm := (h1.2.2.1 (ix m) h6).1 hm
  obtain ⟨r1, r2, r3⟩ := tf_eff d (ix m) a b c 16 (d.1 8 (ix m) 6) d (by omega) (by omega)
  have r1 : (sp_X0_takeFactor d (ix m) a b c).1 8 = (uv d 8 (ix m) 6 ((d.1 8 (ix m) 6) + 1)).1 8 := r1
  have r2 : ∀ k, k ≠ 8 → k ≠ 10 → k ≠ 11 → k ≠ 12 → (sp_X0_takeFactor d (ix m) a b c).1 k = d.1 k := r2
  obtain ⟨l1, l2, l3, l4⟩ := tf_list (a := a) (b := b) (c := c) hN h12 hS
  generalize sp_X0_takeFactor d (ix m) a b c = e at r1 r2 l1 l2 l3 l4 ⊢
  have y0 := r2 0 (by decide) (by decide) (by decide) (by decide)
  have y2 := r2 2 (by decide) (by decide) (by decide) (by decide)
  have y9 := r2 9 (by decide) (by decide) (by decide) (by decide)
  have y13 := r2 13 (by decide) (by decide) (by decide) (by decide)
  have e3 : (τ.1 3 0 (ix m)).toInt = (N : Int) := by rw [gm.2.2.1]; exact hN
  have em : ((12 * m) + (τ.1 3 0 (ix m))).toInt = 12 * m.toInt + (N : Int) := by
    have g := (lin (a := 12) (z := 12) (x := m) (y := τ.1 3 0 (ix m)) rfl ⟨by decide, by decide⟩ ⟨m0, by omega⟩ ⟨by omega, by omega⟩).1
    rw [g, e3]
  have ei : ix ((12 * m) + (τ.1 3 0 (ix m))) = 12 * ix m + N := ix_of (by rw [em]; omega)
  have rw1 : ∀ q, rowM (sp_X5_addFactor τ m a b c) q = if q = 12 * ix m + N then (a, b, c) else rowM τ q := fun q => by
    unfold sp_X5_addFactor
    rw [ei]
    show ((uv τ 4 0 (12 * ix m + N) a).1 4 0 q, (uv (uv τ 4 0 (12 * ix m + N) a) 5 0 (12 * ix m + N) b).1 5 0 q, (uv (uv (uv τ 4 0 (12 * ix m + N) a) 5 0 (12 * ix m + N) b) 6 0 (12 * ix m + N) c).1 6 0 q) = _
    by_cases z : q = 12 * ix m + N
    · rw [if_pos z, z, uv_eq, uv_eq, uv_eq]
    · rw [if_neg z, uv_at z, uv_at z, uv_at z]; rfl
  unfold RX
  rw [y0, y2, y9, y13]
  refine ⟨fun j hj hc => ?_, fun j hj hc => ?_, x3, x4, x5, x6, x7, x8, x9⟩
  · by_cases q : j = ix m
    · subst q
      have e6 : (e.1 8 (ix m) 6).toInt = ((N + 1 : Nat) : Int) := by
        rw [r1, uv_eq, ti1 (by omega), hN]; omega
      refine ⟨N + 1, e6, by omega, l2, fun D => ?_, fun j hj => ?_⟩
      · rw [l1, cu_ins D (a, b, c) _ (SF.srt N 0 N hS (by omega)), hD D, rl_app, List.foldl_append, rl_c (F := rowM τ) (G := rowM (sp_X5_addFactor τ m a b c)) N (12 * ix m) (fun q g1 g2 => by rw [rw1, if_neg (by omega)])]
        show _ = rcF D ((rl (rowM τ) N (12 * ix m)).foldl (rcF D) []) (rowM (sp_X5_addFactor τ m a b c) (12 * ix m + N))
        rw [rw1, if_pos rfl]
      · rcases l3 j hj with ⟨l, g1, g2⟩ | g
        · rw [g2]; exact hB l g1
        · rw [g]; exact hp
    · obtain ⟨K, g1, g2, g3, g4, g5⟩ := x1 j hj hc
      rw [l4 j q]
      refine ⟨K, ?_, g2, g3, fun D => ?_, g5⟩
      · rw [r1, uv_off _ _ _ _ _ _ _ (fun z => q z.2)]; exact g1
      · rw [g4 D, rl_c (F := rowM τ) (G := rowM (sp_X5_addFactor τ m a b c)) K (12 * j) (fun q g1 g2 => by rw [rw1, if_neg (by omega)])]
  · have g := x2 j hj hc
    rw [r1, uv_ne (by decide), uv_ne (by decide)]; exact g
theorem r2_X4_factor (h : R2 d τ) (iX : XI M T d) (iM : MI τ) (a b c e : Int32) : R2 (sp_X4_factor d a b c e).2 (sp_X5_factor τ a b c e).2 := by
  refine ⟨(r1_X4_factor h.1 iX a b c e).2, ?_⟩
  obtain ⟨h1, hX⟩ := h
  unfold sp_X4_factor sp_X5_factor
  refine cnq (Q := fun p q : Int32 × Dt => RX p.2 q.2) (h1.nm iX a) (fun c1 => ?_) (fun _ => hX)
  refine cq (Q := fun p q : Int32 × Dt => RX p.2 q.2) (isFlow_e b).symm (fun c2 => ?_) (fun _ => hX)
  refine cq (Q := fun p q : Int32 × Dt => RX p.2 q.2) (isDay_e c).symm (fun _ => ?_) (fun _ => hX)
  refine cq (Q := fun p q : Int32 × Dt => RX p.2 q.2) (in_iw (p := e) (lo := 95000) (hi := 105000) rfl rfl).symm (fun c4 => ?_) (fun _ => hX)
  obtain ⟨h6, hm, g⟩ := h1.mt iX c1
  have f1 := im_of iX c1
  have fM := iX.1
  refine ciq (Q := fun p q : Int32 × Dt => RX p.2 q.2) (by rw [full_iff, g.2.2.1]; have := (iX.fc (i := ix a) (by omega)).2; omega) (fun _ => hX) (fun c5 => ?_)
  have c5 : ¬ 12 ≤ (d.1 8 (ix a) 6).toInt := fun q => c5 (full_iff.mpr q)
  have f2 := iw_iff.mp c2
  have f4 := iw_iff.mp c4
  exact hX.fac h1 f1.1 (by omega) (by omega) ⟨f2.1, f2.2, f4.1, f4.2⟩
theorem r2_X4_accept (h : R2 d τ) (iX : XI M T d) (iM : MI τ) (a : Int32) : R2 (sp_X4_accept d a).2 (sp_X5_accept τ a).2 := by
  refine ⟨(r1_X4_accept h.1 iX iM a).2, ?_⟩
  obtain ⟨h1, hX⟩ := h
  refine acc_Q (Q := fun p q : Int32 × Dt => RX p.2 q.2) h1 iX iM a (fun _ => hX) (fun F _ c2 f1 f2 f3 f4 f5 => ?_)
  have g := hX.fac h1 f3 f4 f5 (a := d.1 2 0 2) (b := a) (c := F) (by
    rcases hX.2.2.2.2.2.2.2.2 with z | z
    · exact absurd z c2
    · exact ⟨z.1, z.2, f1, f2⟩)
  generalize sp_X0_takeFactor d (ix (d.1 2 0 1)) (d.1 2 0 2) a F = e at g ⊢
  obtain ⟨x1, x2, x3, x4, x5, x6, x7, x8, x9⟩ := g
  exact ⟨x1, x2, x3, x4, x5, x6, x7, x8, Or.inl (show ((uv e 2 0 0 0).1 2 0 0).toInt = 0 by rw [uv_eq]; rfl)⟩
theorem r2_X4_line (h : R2 d τ) (iX : XI M T d) (iM : MI τ) (a b c : Int32) : R2 (sp_X4_line d a b c).2 (sp_X5_line τ a b c).2 := by
  refine ⟨(r1_X4_line h.1 iX a b c).2, ?_⟩
  obtain ⟨h1, hX⟩ := h
  have hs : XS2 τ (sp_X5_line τ a b c).2 := by
    unfold sp_X5_line
    repeat (first | exact XS2.rf | refine XS2.cp ?_ ?_)
  refine RX.s (τ := τ) ?_ hs
  have c' : ∀ (P : Prop) (p q : Int32 × Dt), (P → RX p.2 τ) → (¬ P → RX q.2 τ) → RX (cif P p q).2 τ := fun P p q hp hq => by
    by_cases z : P
    · rw [cif_t z]; exact hp z
    · rw [cif_f z]; exact hq z
  unfold sp_X4_line
  refine c' _ _ _ (fun _ => c' _ _ _ (fun _ => c' _ _ _ (fun c3 => ?_) (fun _ => hX)) (fun _ => hX)) (fun _ => hX)
  have f3 := iw_iff.mp c3
  have hw : RX (uv d 9 (ix b) (ix a) c) τ := by
    obtain ⟨x1, x2, x3⟩ := hX
    refine ⟨x1, fun m hm hc => ?_, x3⟩
    have g := x2 m hm hc
    refine ⟨g.1, g.2.1, g.2.2.1, fun l hl => ?_⟩
    by_cases q : m = ix b
    · by_cases q2 : l = ix a
      · rw [q, q2, uv_eq]; exact f3
      · rw [q, uv_at q2, ← q]; exact g.2.2.2 l hl
    · rw [uv_off _ _ _ _ _ _ _ (fun z => q z.2)]; exact g.2.2.2 l hl
  exact c' _ _ _ (fun _ => hw) (fun _ => hw)
theorem r2_X4_end (h : R2 d τ) (iX : XI M T d) (iM : MI τ) (a b : Int32) : R2 (sp_X4_end d a b).2 (sp_X5_end τ a b).2 := by
  refine ⟨(r1_X4_end h.1 iX a b).2, ?_⟩
  obtain ⟨h1, hX⟩ := h
  have hs : XS2 τ (sp_X5_end τ a b).2 := by
    unfold sp_X5_end
    repeat (first | exact XS2.rf | refine XS2.cp ?_ ?_)
  refine RX.s (τ := τ) ?_ hs
  have c' : ∀ (P : Prop) (p q : Int32 × Dt), (P → RX p.2 τ) → (¬ P → RX q.2 τ) → RX (cif P p q).2 τ := fun P p q hp hq => by
    by_cases z : P
    · rw [cif_t z]; exact hp z
    · rw [cif_f z]; exact hq z
  unfold sp_X4_end
  refine c' _ _ _ (fun _ => c' _ _ _ (fun c3 => ?_) (fun _ => hX)) (fun _ => hX)
  have f3 := iw_iff.mp c3
  obtain ⟨x1, x2, x3⟩ := hX
  refine ⟨fun m hm hc => ?_, fun m hm hc => ?_, x3⟩
  · obtain ⟨N, g1, g2⟩ := x1 m hm hc
    exact ⟨N, by show ((uv d 8 (ix a) 1 b).1 8 m 6).toInt = _; rw [uv_ne (by decide)]; exact g1, g2⟩
  · have g := x2 m hm hc
    show 1 ≤ ((uv d 8 (ix a) 1 b).1 8 m 0).toInt ∧ 0 ≤ ((uv d 8 (ix a) 1 b).1 8 m 1).toInt ∧ ((uv d 8 (ix a) 1 b).1 8 m 1).toInt ≤ 5000 ∧ ∀ l : Nat, l < 4 → -1 ≤ (d.1 9 m l).toInt ∧ (d.1 9 m l).toInt ≤ 1
    rw [uv_ne (by decide)]
    by_cases q : m = ix a
    · rw [q, uv_eq, ← q]; exact ⟨g.1, f3.1, f3.2, g.2.2.2⟩
    · rw [uv_off _ _ _ _ _ _ _ (fun z => q z.2)]; exact g
end R5S
