/-! ===== the answers ===== -/
section R7S
variable {M T : Nat} {d τ : Dt}
theorem a2_at (h : R2 d τ) (iX : XI M T d) (a b c : Int32) : sp_X4_at d a b c = (sp_X5_at τ a b c).1 := by
  unfold sp_X4_at sp_X5_at
  rw [h.1.nm iX, cif_n, isFlow_e, isDay_e]
  simp only [cif_1]
  refine cif_c (fun c1 => cif_c (fun _ => cif_c (fun _ => ?_) (fun _ => rfl)) (fun _ => rfl)) (fun _ => rfl)
  have f1 := im_of iX c1
  have fM := iX.1
  exact (h.2.fa h.1 f1.1 (by omega) b c).1
theorem a2_points (h : R2 d τ) (iX : XI M T d) (a b : Int32) : sp_X4_points d a b = (sp_X5_points τ a b).1 := by
  unfold sp_X4_points sp_X5_points
  rw [h.1.nm iX, cif_n, isDay_e]
  simp only [cif_1]
  refine cif_c (fun c1 => cif_c (fun _ => ?_) (fun _ => rfl)) (fun _ => rfl)
  have f1 := im_of iX c1
  have fM := iX.1
  exact (h.2.fa h.1 f1.1 (by omega) 1 b).2.symm
theorem a2_ticketed (h : R2 d τ) (a b : Int32) : sp_X4_ticketed d a b = sp_X5_ticketed τ a b := by
  unfold sp_X4_ticketed sp_X5_ticketed
  rw [nt_R h, cif_n]
  refine cif_c (fun c1 => ?_) (fun _ => rfl)
  obtain ⟨p0, pT, ⟨a1, a2, a3, a4, a5, a6, a7, a8⟩, _⟩ := tk_of h c1
  rw [a1, a2, a3, a4, a5, a6, a7, a8]
/-- the volume of a Ticket, and its bounds -/
theorem vol_e (h : R2 d τ) {p : Int32} (p0 : 0 ≤ p.toInt) (pT : p.toInt < (d.1 0 0 4).toInt) : sp_X4_volumeOf d (ix p) = sp_X5_volumeOf τ p ∧ 0 ≤ (sp_X4_volumeOf d (ix p)).toInt ∧ (sp_X4_volumeOf d (ix p)).toInt ≤ 20000000000001 := by
  have i := ix_int p0
  obtain ⟨⟨a1, a2, a3, a4, a5, a6, a7, a8⟩, b1, b2, b3, b4, b5, b6⟩ := h.2.2.2.2.1 (ix p) (by omega)
  have c6 := h.2.2.2.2.2.2.1
  have im := ix_int b1.1
  have hm6 : ix (d.1 13 (ix p) 0) < 6 := by omega
  have hmc : ((ix (d.1 13 (ix p) 0) : Nat) : Int) < (d.1 0 0 1).toInt := by omega
  have gk := ((h.1.2.2.1 _ hm6).1 hmc).1
  have gb := (h.2.2.1 _ hm6 hmc).1
  have gl := (d.1 8 (ix (d.1 13 (ix p) 0)) 0).toInt_lt
  unfold sp_X4_volumeOf sp_X5_volumeOf sp_X4_rounded sp_X5_rounded
  rw [a2, a4, a6, gk]
  generalize d.1 8 (ix (d.1 13 (ix p) 0)) 0 = k at gb gl ⊢
  generalize d.1 13 (ix p) 2 = P at b3 ⊢
  generalize d.1 13 (ix p) 4 = F at b4 ⊢
  have l10 : (10 : Int64).toInt = 10 := rfl
  have l2 : (2 : Int64).toInt = 2 := rfl
  rw [cif_t (show (0 : Int) < k.toInt64.toInt by rw [t64]; omega)]
  refine ⟨rfl, ?_⟩
  have m1 : (10 * P.toInt64).toInt = 10 * P.toInt := by rw [tl_mul (by rw [t64, l10]; omega) (by rw [t64, l10]; omega), t64, l10]
  have n1 : 0 ≤ 10 * P.toInt * F.toInt := Int.mul_nonneg (by omega) b4.1
  have n2 : 10 * P.toInt * F.toInt ≤ 100000000 * 200000 := Int.mul_le_mul (by omega) b4.2 b4.1 (by omega)
  have m2 : (10 * P.toInt64 * F.toInt64).toInt = 10 * P.toInt * F.toInt := by rw [tl_mul (by rw [m1, t64]; omega) (by rw [m1, t64]; omega), m1, t64]
  obtain ⟨V, eV⟩ : ∃ V, V = 10 * P.toInt * F.toInt := ⟨_, rfl⟩
  rw [← eV] at n1 n2 m2
  have m3 : (2 * (10 * P.toInt64 * F.toInt64)).toInt = 2 * V := by rw [tl_mul (by rw [m2, l2]; omega) (by rw [m2, l2]; omega), m2, l2]
  have m4 : (2 * (10 * P.toInt64 * F.toInt64) + k.toInt64).toInt = 2 * V + k.toInt := by rw [tl_add (by rw [m3, t64]; omega) (by rw [m3, t64]; omega), m3, t64]
  have m5 : (2 * k.toInt64).toInt = 2 * k.toInt := by rw [tl_mul (by rw [t64, l2]; omega) (by rw [t64, l2]; omega), t64, l2]
  have q1 : 0 ≤ (2 * V + k.toInt).tdiv (2 * k.toInt) := Int.tdiv_nonneg (by omega) (by omega)
  have q2 : (2 * V + k.toInt).tdiv (2 * k.toInt) ≤ V + 1 := by
    rw [Int.tdiv_eq_ediv_of_nonneg (by omega)]
    refine Int.ediv_le_of_le_mul (by omega) ?_
    have : (V + 1) * (2 * 1) ≤ (V + 1) * (2 * k.toInt) := Int.mul_le_mul_of_nonneg_left (by omega) (by omega)
    have e : (V + 1) * (2 * k.toInt) = V * (2 * k.toInt) + 2 * k.toInt := by rw [Int.add_mul, Int.one_mul]
    have : V * 2 ≤ V * (2 * k.toInt) := Int.mul_le_mul_of_nonneg_left (by omega) n1
    omega
  have m6 : ((2 * (10 * P.toInt64 * F.toInt64) + k.toInt64) / (2 * k.toInt64)).toInt = (2 * V + k.toInt).tdiv (2 * k.toInt) := by
    rw [Int64.toInt_div, m4, m5]
    exact bm64 (by omega) (by omega)
  rw [m6]
  omega
theorem a2_volume (h : R2 d τ) (a : Int32) : sp_X4_volume d a = sp_X5_volume τ a := by
  unfold sp_X4_volume sp_X5_volume
  rw [nt_R h, cif_n]
  refine cif_c (fun c1 => ?_) (fun _ => rfl)
  obtain ⟨p0, pT, _⟩ := tk_of h c1
  exact (vol_e h p0 pT).1
theorem sum_l (h : R2 d τ) (m f to : Int32) : ∀ (n : Nat) (x : Int32) (s : Int64), 0 ≤ x.toInt → x.toInt ≤ 40 → 40 - x.toInt < (n : Int) → 0 ≤ s.toInt → s.toInt ≤ 20000000000001 * x.toInt → lp_X4_sumOf_6 d m f to n x s = lp_X5_sumOf_6 τ m f to n x s ∧ 0 ≤ (lp_X4_sumOf_6 d m f to n x s).toInt ∧ (lp_X4_sumOf_6 d m f to n x s).toInt ≤ 20000000000001 * 40 := by
  have x3 := h.2.2.2.1
  have x8 := h.2.2.2.2.2.2.2.2.1
  intro n
  induction n with
  | zero => intro x s h0 h1 h2; omega
  | succ n ih =>
    intro x s h0 h1 h2 s0 s1
    show st_X4_sumOf_6 d m f to (lp_X4_sumOf_6 d m f to n) x s = st_X5_sumOf_6 τ m f to (lp_X5_sumOf_6 τ m f to n) x s ∧ 0 ≤ (st_X4_sumOf_6 d m f to (lp_X4_sumOf_6 d m f to n) x s).toInt ∧ (st_X4_sumOf_6 d m f to (lp_X4_sumOf_6 d m f to n) x s).toInt ≤ _
    unfold st_X4_sumOf_6 st_X5_sumOf_6
    rw [x3]
    by_cases c : (d.1 0 0 4).toInt ≤ x.toInt
    · rw [cif_t c, cif_t c]; exact ⟨rfl, s0, by omega⟩
    · rw [cif_f c, cif_f c, Int64.add_zero]
      have ixx := ix_int h0
      have e1 := ti1 (x := x) (by omega)
      obtain ⟨⟨a1, a2, a3, a4, a5, a6, a7, a8⟩, b1, b2, b3, b4, b5, b6⟩ := h.2.2.2.2.1 (ix x) (by omega)
      obtain ⟨v1, v2, v3⟩ := vol_e h h0 (by omega)
      have no := ih (x + 1) s (by omega) (by omega) (by omega) s0 (by omega)
      have ea : (s + sp_X4_volumeOf d (ix x)).toInt = s.toInt + (sp_X4_volumeOf d (ix x)).toInt := tl_add (by omega) (by omega)
      have ye := ih (x + 1) (s + sp_X4_volumeOf d (ix x)) (by omega) (by omega) (by omega) (by omega) (by omega)
      unfold sp_X3_counts
      rw [isRep_e (x := d.1 13 (ix x)) a7 b5, a2, a3, in_iw (p := d.1 13 (ix x) 1) (lo := f) (hi := to) (t64 f) (t64 to), ← v1]
      by_cases c1 : (d.1 13 (ix x) 0).toInt = m.toInt
      · rw [cif_t c1, cif_t c1]
        by_cases c2 : sp_X4_isWithin (d.1 13 (ix x) 1) f to
        · rw [cif_t c2, cif_t c2]
          by_cases c3 : 0 ≤ (τ.1 24 0 (ix x)).toInt
          · rw [cif_t c3, cif_t c3, cif_F]; exact no
          · rw [cif_f c3, cif_f c3, cif_T]; exact ye
        · rw [cif_f c2, cif_f c2, cif_F]; exact no
      · rw [cif_f c1, cif_f c1, cif_F]; exact no
theorem sum_e (h : R2 d τ) (m f to : Int32) : sp_X4_sumOf d m f to = sp_X5_sumOf τ m f to ∧ 0 ≤ (sp_X4_sumOf d m f to).toInt ∧ (sp_X4_sumOf d m f to).toInt ≤ 20000000000001 * 40 := sum_l h m f to 64 0 0 (by decide) (by decide) (by decide) (by decide) (by decide)
theorem a2_sum (h : R2 d τ) (iX : XI M T d) (a b c : Int32) : sp_X4_sum d a b c = sp_X5_sum τ a b c := by
  unfold sp_X4_sum sp_X5_sum
  rw [h.1.nm iX, cif_n, areDays_e]
  exact cif_c (fun _ => cif_c (fun _ => (sum_e h a b c).1) (fun _ => rfl)) (fun _ => rfl)
theorem ml1 {x : Int64} {k : Int32} {B : Int} (hk : -1 ≤ k.toInt ∧ k.toInt ≤ 1) (h0 : 0 ≤ x.toInt) (h1 : x.toInt ≤ B) (hB : B ≤ 1000000000000000) : (k.toInt64 * x).toInt = k.toInt * x.toInt ∧ -B ≤ k.toInt * x.toInt ∧ k.toInt * x.toInt ≤ B := by
  have hc : k.toInt = -1 ∨ k.toInt = 0 ∨ k.toInt = 1 := by omega
  have hb : -B ≤ k.toInt * x.toInt ∧ k.toInt * x.toInt ≤ B := by
    rcases hc with e | e | e <;> rw [e] <;> omega
  exact ⟨by rw [tl_mul (by rw [t64]; omega) (by rw [t64]; omega), t64], hb⟩
theorem imb_l (h : R2 d τ) {l : Int32} (l0 : 0 ≤ l.toInt) (l4 : l.toInt < 4) (f to : Int32) : ∀ (n : Nat) (x : Int32) (s : Int64), 0 ≤ x.toInt → x.toInt ≤ 6 → 6 - x.toInt < (n : Int) → -(800000000000040 * x.toInt) ≤ s.toInt → s.toInt ≤ 800000000000040 * x.toInt → lp_X4_imbalanceOf_6 d l f to n x s = lp_X5_imbalance_6 τ l f to n x s ∧ -(800000000000040 * 6) ≤ (lp_X4_imbalanceOf_6 d l f to n x s).toInt ∧ (lp_X4_imbalanceOf_6 d l f to n x s).toInt ≤ 800000000000040 * 6 := by
  have g1 := h.1.1
  have c6 := h.2.2.2.2.2.2.1
  have il := ix_int l0
  intro n
  induction n with
  | zero => intro x s h0 h1 h2; omega
  | succ n ih =>
    intro x s h0 h1 h2 s0 s1
    show (cif ((d.1 0 0 1).toInt ≤ x.toInt) s (lp_X4_imbalanceOf_6 d l f to n (x + 1) (s + (((d.1 9 (ix x) (ix l)).toInt64) * (sp_X4_sumOf d x f to))))) = (cif ((τ.1 0 0 1).toInt ≤ x.toInt) s (lp_X5_imbalance_6 τ l f to n (x + 1) (s + (((τ.1 27 0 (ix ((6 * l) + x))).toInt64) * (sp_X5_sumOf τ x f to))))) ∧ _ ≤ (cif ((d.1 0 0 1).toInt ≤ x.toInt) s (lp_X4_imbalanceOf_6 d l f to n (x + 1) (s + (((d.1 9 (ix x) (ix l)).toInt64) * (sp_X4_sumOf d x f to))))).toInt ∧ (cif ((d.1 0 0 1).toInt ≤ x.toInt) s (lp_X4_imbalanceOf_6 d l f to n (x + 1) (s + (((d.1 9 (ix x) (ix l)).toInt64) * (sp_X4_sumOf d x f to))))).toInt ≤ _
    rw [g1]
    by_cases c : (d.1 0 0 1).toInt ≤ x.toInt
    · rw [cif_t c, cif_t c]; exact ⟨rfl, by omega, by omega⟩
    · rw [cif_f c, cif_f c]
      have ixx := ix_int h0
      have e1 := ti1 (x := x) (by omega)
      have gm := (h.1.2.2.1 (ix x) (by omega)).1 (by omega)
      have gb := h.2.2.1 (ix x) (by omega) (by omega)
      have su := sum_e h x f to
      rw [ix6 l0 l4 h0 (by omega), gm.2.2.2 (ix l) (by omega), ← su.1]
      have ml := ml1 (x := sp_X4_sumOf d x f to) (B := 800000000000040) (gb.2.2.2 (ix l) (by omega)) su.2.1 (by have := su.2.2; omega) (by omega)
      have ea : (s + (((d.1 9 (ix x) (ix l)).toInt64) * (sp_X4_sumOf d x f to))).toInt = s.toInt + (d.1 9 (ix x) (ix l)).toInt * (sp_X4_sumOf d x f to).toInt := by rw [tl_add (by rw [ml.1]; omega) (by rw [ml.1]; omega), ml.1]
      exact ih (x + 1) _ (by omega) (by omega) (by omega) (by omega) (by omega)
theorem imb_e (h : R2 d τ) {l : Int32} (l0 : 0 ≤ l.toInt) (l4 : l.toInt < 4) (f to : Int32) : sp_X4_imbalanceOf d l f to = sp_X5_imbalance τ l f to ∧ -(800000000000040 * 6) ≤ (sp_X4_imbalanceOf d l f to).toInt ∧ (sp_X4_imbalanceOf d l f to).toInt ≤ 800000000000040 * 6 := imb_l h l0 l4 f to 16 0 0 (by decide) (by decide) (by decide) (by decide) (by decide)
theorem end_l (h : R2 d τ) {l : Int32} (l0 : 0 ≤ l.toInt) (l4 : l.toInt < 4) (f to : Int32) : ∀ (n : Nat) (x : Int32) (s : Int64), 0 ≤ x.toInt → x.toInt ≤ 6 → 6 - x.toInt < (n : Int) → 0 ≤ s.toInt → s.toInt ≤ 40000000000002 * x.toInt → lp_X4_endsOf_6 d l f to n x s = lp_X5_endsOf_6 τ l f to n x s ∧ 0 ≤ (lp_X4_endsOf_6 d l f to n x s).toInt ∧ (lp_X4_endsOf_6 d l f to n x s).toInt ≤ 40000000000002 * 6 := by
  have g1 := h.1.1
  have c6 := h.2.2.2.2.2.2.1
  have il := ix_int l0
  intro n
  induction n with
  | zero => intro x s h0 h1 h2; omega
  | succ n ih =>
    intro x s h0 h1 h2 s0 s1
    show st_X4_endsOf_6 d l f to (lp_X4_endsOf_6 d l f to n) x s = st_X5_endsOf_6 τ l f to (lp_X5_endsOf_6 τ l f to n) x s ∧ 0 ≤ (st_X4_endsOf_6 d l f to (lp_X4_endsOf_6 d l f to n) x s).toInt ∧ (st_X4_endsOf_6 d l f to (lp_X4_endsOf_6 d l f to n) x s).toInt ≤ _
    unfold st_X4_endsOf_6 st_X5_endsOf_6
    rw [g1]
    by_cases c : (d.1 0 0 1).toInt ≤ x.toInt
    · rw [cif_t c, cif_t c]; exact ⟨rfl, by omega, by omega⟩
    · rw [cif_f c, cif_f c, Int64.add_zero]
      have ixx := ix_int h0
      have e1 := ti1 (x := x) (by omega)
      have gm := (h.1.2.2.1 (ix x) (by omega)).1 (by omega)
      have gb := h.2.2.1 (ix x) (by omega) (by omega)
      have su := sum_e h x f to
      rw [ix6 l0 l4 h0 (by omega), gm.2.2.2 (ix l) (by omega), ← su.1, gm.2.1]
      by_cases c1 : (d.1 9 (ix x) (ix l)).toInt = 0
      · rw [cif_t c1, cif_t c1]; exact ih (x + 1) s (by omega) (by omega) (by omega) s0 (by omega)
      · rw [cif_f c1, cif_f c1]
        have n1 : 0 ≤ (sp_X4_sumOf d x f to).toInt * (d.1 8 (ix x) 1).toInt := Int.mul_nonneg su.2.1 gb.2.1
        have n2 : (sp_X4_sumOf d x f to).toInt * (d.1 8 (ix x) 1).toInt ≤ 800000000000040 * 5000 := Int.mul_le_mul (by have := su.2.2; omega) gb.2.2.1 gb.2.1 (by omega)
        have m1 : ((sp_X4_sumOf d x f to) * ((d.1 8 (ix x) 1).toInt64)).toInt = (sp_X4_sumOf d x f to).toInt * (d.1 8 (ix x) 1).toInt := by rw [tl_mul (by rw [t64]; omega) (by rw [t64]; omega), t64]
        have q1 : 0 ≤ ((sp_X4_sumOf d x f to).toInt * (d.1 8 (ix x) 1).toInt).tdiv 100000 := Int.tdiv_nonneg n1 (by omega)
        have q2 : ((sp_X4_sumOf d x f to).toInt * (d.1 8 (ix x) 1).toInt).tdiv 100000 ≤ 40000000000002 := by
          rw [Int.tdiv_eq_ediv_of_nonneg n1]
          omega
        have m2 : (((sp_X4_sumOf d x f to) * ((d.1 8 (ix x) 1).toInt64)) / 100000).toInt = ((sp_X4_sumOf d x f to).toInt * (d.1 8 (ix x) 1).toInt).tdiv 100000 := by
          rw [Int64.toInt_div, m1, show (100000 : Int64).toInt = 100000 from rfl]
          exact bm64 (by omega) (by omega)
        have ea : (s + (((sp_X4_sumOf d x f to) * ((d.1 8 (ix x) 1).toInt64)) / 100000)).toInt = s.toInt + ((sp_X4_sumOf d x f to).toInt * (d.1 8 (ix x) 1).toInt).tdiv 100000 := by rw [tl_add (by rw [m2]; omega) (by rw [m2]; omega), m2]
        exact ih (x + 1) _ (by omega) (by omega) (by omega) (by omega) (by omega)
theorem end_e (h : R2 d τ) {l : Int32} (l0 : 0 ≤ l.toInt) (l4 : l.toInt < 4) (f to : Int32) : sp_X4_endsOf d l f to = sp_X5_endsOf τ l f to ∧ 0 ≤ (sp_X4_endsOf d l f to).toInt ∧ (sp_X4_endsOf d l f to).toInt ≤ 40000000000002 * 6 := end_l h l0 l4 f to 16 0 0 (by decide) (by decide) (by decide) (by decide) (by decide)
theorem a2_balance (h : R2 d τ) (a b c e : Int32) : sp_X4_balance d a b c e = sp_X5_balance τ a b c e := by
  unfold sp_X4_balance sp_X5_balance
  rw [noLine_e, cif_n, areDays_e, in_iw (p := e) (lo := 0) (hi := 1) rfl rfl]
  refine cif_c (fun c1 => cif_c (fun _ => cif_c (fun _ => ?_) (fun _ => rfl)) (fun _ => rfl)) (fun _ => rfl)
  have f1 := il_of c1
  rw [(imb_e h f1.1 f1.2 b c).1, (end_e h f1.1 f1.2 b c).1]
end R7S
