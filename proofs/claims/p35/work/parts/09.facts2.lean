section MIG
variable {d : Dt}
theorem a86_cf (x x2 : Int32) : ∀ (n : Nat) (y : Int32) (e : Dt), CF d e → CF d (lp_X5_addPoint_86 d x x2 n y e) := by
  intro n
  induction n with
  | zero => intro y e h; exact h
  | succ n ih =>
    intro y e h
    show CF d (st_X5_addPoint_86 d x x2 (lp_X5_addPoint_86 d x x2 n) y e)
    unfold st_X5_addPoint_86
    by_cases c : y.toInt ≤ x2.toInt
    · rw [cif_t c]; exact (((h.pk (Or.inl rfl)).pk (Or.inr (Or.inl rfl))).pk (Or.inr (Or.inr rfl))).p8
    · rw [cif_f c]; exact ih _ _ (((h.pk (Or.inl rfl)).pk (Or.inr (Or.inl rfl))).pk (Or.inr (Or.inr rfl)))
theorem a2_cf (x : Int32) : ∀ (n : Nat) (y : Int32), CF d (lp_X5_addPoint_2 d x n y) := by
  intro n
  induction n with
  | zero => intro y; exact CF.rf
  | succ n ih =>
    intro y
    show CF d (st_X5_addPoint_2 d x (lp_X5_addPoint_2 d x n) y)
    unfold st_X5_addPoint_2
    by_cases c1 : (d.1 0 0 8).toInt ≤ y.toInt
    · rw [cif_t c1]; exact a86_cf x y 16 _ d CF.rf
    · rw [cif_f c1]
      by_cases c2 : (d.1 4 0 (ix x)).toInt ≤ (d.1 9 0 (ix y)).toInt
      · rw [cif_t c2]
        by_cases c3 : (d.1 9 0 (ix y)).toInt = (d.1 4 0 (ix x)).toInt
        · rw [cif_t c3]
          by_cases c4 : (d.1 11 0 (ix y)).toInt ≤ (d.1 5 0 (ix x)).toInt
          · rw [cif_t c4]; exact (((CF.rf.pk (Or.inl rfl)).pk (Or.inr (Or.inl rfl))).pk (Or.inr (Or.inr rfl))).p8
          · rw [cif_f c4]; exact CF.rf
        · rw [cif_f c3]; exact a86_cf x y 16 _ d CF.rf
      · rw [cif_f c2]; exact ih _
theorem ap_cf (x : Int32) : CF d (sp_X5_addPoint d x) := a2_cf x 16 0
theorem a86_pt (x x2 : Int32) : ∀ (n : Nat) (y : Int32) (e : Dt), (lp_X5_addPoint_86 d x x2 n y e).1 0 0 8 = e.1 0 0 8 ∨ (lp_X5_addPoint_86 d x x2 n y e).1 0 0 8 = e.1 0 0 8 + 1 := by
  intro n
  induction n with
  | zero => intro y e; exact Or.inl rfl
  | succ n ih =>
    intro y e
    show (st_X5_addPoint_86 d x x2 (lp_X5_addPoint_86 d x x2 n) y e).1 0 0 8 = e.1 0 0 8 ∨ (st_X5_addPoint_86 d x x2 (lp_X5_addPoint_86 d x x2 n) y e).1 0 0 8 = e.1 0 0 8 + 1
    unfold st_X5_addPoint_86
    by_cases c : y.toInt ≤ x2.toInt
    · rw [cif_t c]; exact Or.inr rfl
    · rw [cif_f c]; exact ih _ (uv (uv (uv e 9 0 _ _) 10 0 _ _) 11 0 _ _)
theorem a2_pt (x : Int32) : ∀ (n : Nat) (y : Int32), (lp_X5_addPoint_2 d x n y).1 0 0 8 = d.1 0 0 8 ∨ (lp_X5_addPoint_2 d x n y).1 0 0 8 = d.1 0 0 8 + 1 := by
  intro n
  induction n with
  | zero => intro y; exact Or.inl rfl
  | succ n ih =>
    intro y
    show (st_X5_addPoint_2 d x (lp_X5_addPoint_2 d x n) y).1 0 0 8 = d.1 0 0 8 ∨ (st_X5_addPoint_2 d x (lp_X5_addPoint_2 d x n) y).1 0 0 8 = d.1 0 0 8 + 1
    unfold st_X5_addPoint_2
    by_cases c1 : (d.1 0 0 8).toInt ≤ y.toInt
    · rw [cif_t c1]; exact a86_pt x y 16 _ d
    · rw [cif_f c1]
      by_cases c2 : (d.1 4 0 (ix x)).toInt ≤ (d.1 9 0 (ix y)).toInt
      · rw [cif_t c2]
        by_cases c3 : (d.1 9 0 (ix y)).toInt = (d.1 4 0 (ix x)).toInt
        · rw [cif_t c3]
          by_cases c4 : (d.1 11 0 (ix y)).toInt ≤ (d.1 5 0 (ix x)).toInt
          · rw [cif_t c4]; exact Or.inl (Int32.add_zero _)
          · rw [cif_f c4]; exact Or.inl rfl
        · rw [cif_f c3]; exact a86_pt x y 16 _ d
      · rw [cif_f c2]; exact ih _
theorem ap_pt (x : Int32) (h0 : 0 ≤ (d.1 0 0 8).toInt) (h1 : (d.1 0 0 8).toInt ≤ 12) : 0 ≤ ((sp_X5_addPoint d x).1 0 0 8).toInt ∧ ((sp_X5_addPoint d x).1 0 0 8).toInt ≤ (d.1 0 0 8).toInt + 1 := by
  rcases a2_pt (d := d) x 16 0 with h | h
  · rw [show sp_X5_addPoint d x = lp_X5_addPoint_2 d x 16 0 from rfl, h]; omega
  · rw [show sp_X5_addPoint d x = lp_X5_addPoint_2 d x 16 0 from rfl, h, ti1 (by omega)]; omega
theorem f10_cf (x y : Int32) : ∀ (n : Nat) (z : Int32) (e : Dt), CF d e → CF d (lp_X5_findCurve_10 d x y n z e) := by
  intro n
  induction n with
  | zero => intro z e h; exact h
  | succ n ih =>
    intro z e h
    show CF d (st_X5_findCurve_10 d x y (lp_X5_findCurve_10 d x y n) z e)
    unfold st_X5_findCurve_10
    by_cases c1 : ((12 * x) + (e.1 3 0 (ix x))).toInt ≤ z.toInt
    · rw [cif_t c1]; exact h
    · rw [cif_f c1]
      by_cases c2 : y.toInt < (e.1 5 0 (ix z)).toInt
      · rw [cif_t c2]; exact ih _ _ h
      · rw [cif_f c2]; exact ih _ _ (h.tr (ap_cf _))
theorem fc_cf (x y : Int32) : CF d (sp_X5_findCurve d x y) := f10_cf x y 16 _ _ CF.rf.p8
theorem f10_pt {x y : Int32} {c : Int} (hx : 0 ≤ x.toInt ∧ x.toInt < 6) (hc : (d.1 3 0 (ix x)).toInt = c) (h : 0 ≤ c ∧ c ≤ 12) : ∀ (n : Nat) (z : Int32) (e : Dt), CF d e → 12 * x.toInt ≤ z.toInt → z.toInt ≤ 12 * x.toInt + c → 0 ≤ (e.1 0 0 8).toInt → (e.1 0 0 8).toInt ≤ z.toInt - 12 * x.toInt → 0 ≤ ((lp_X5_findCurve_10 d x y n z e).1 0 0 8).toInt ∧ ((lp_X5_findCurve_10 d x y n z e).1 0 0 8).toInt ≤ 12 := by
  intro n
  induction n with
  | zero => intro z e _ h1 h2 h3 h4; exact ⟨h3, by show (e.1 0 0 8).toInt ≤ 12; omega⟩
  | succ n ih =>
    intro z e g h1 h2 h3 h4
    have e12 : (12 : Int32).toInt = 12 := rfl
    have em : ((12 : Int32) * x).toInt = 12 * x.toInt := by rw [ti_mul (by rw [e12]; omega) (by rw [e12]; omega), e12]
    have er : e.1 3 0 (ix x) = d.1 3 0 (ix x) := by rw [g.1 3 (by decide) (by decide) (by decide) (by decide)]
    have es : ((12 * x) + (e.1 3 0 (ix x))).toInt = 12 * x.toInt + c := by rw [er, ti_add (by rw [em, hc]; omega) (by rw [em, hc]; omega), em, hc]
    show 0 ≤ ((st_X5_findCurve_10 d x y (lp_X5_findCurve_10 d x y n) z e).1 0 0 8).toInt ∧ ((st_X5_findCurve_10 d x y (lp_X5_findCurve_10 d x y n) z e).1 0 0 8).toInt ≤ 12
    unfold st_X5_findCurve_10
    by_cases c1 : ((12 * x) + (e.1 3 0 (ix x))).toInt ≤ z.toInt
    · rw [cif_t c1]; exact ⟨h3, by omega⟩
    · rw [cif_f c1]
      have ez := ti1 (x := z) (by omega)
      by_cases c2 : y.toInt < (e.1 5 0 (ix z)).toInt
      · rw [cif_t c2]; exact ih _ _ g (by omega) (by omega) h3 (by omega)
      · rw [cif_f c2]
        have gp := ap_pt (d := e) z h3 (by omega)
        exact ih _ _ (g.tr (ap_cf _)) (by omega) (by omega) gp.1 (by omega)
theorem fc_pt {x y : Int32} (hx : 0 ≤ x.toInt ∧ x.toInt < 6) (h : 0 ≤ (d.1 3 0 (ix x)).toInt ∧ (d.1 3 0 (ix x)).toInt ≤ 12) : 0 ≤ ((sp_X5_findCurve d x y).1 0 0 8).toInt ∧ ((sp_X5_findCurve d x y).1 0 0 8).toInt ≤ 12 := by
  have e12 : (12 : Int32).toInt = 12 := rfl
  have em : ((12 : Int32) * x).toInt = 12 * x.toInt := by rw [ti_mul (by rw [e12]; omega) (by rw [e12]; omega), e12]
  exact f10_pt hx rfl h 16 (12 * x) (uv d 0 0 8 0) CF.rf.p8 (by omega) (by omega) (by show 0 ≤ (0 : Int32).toInt; decide) (by rw [em]; show (0 : Int32).toInt ≤ _; rw [Int32.toInt_zero]; omega)
theorem f19_cf (x y z : Int32) {e : Dt} (h : CF d e) : ∀ (n : Nat) (w : Int32), CF d (lp_X5_factorAt_19 d x y z e n w).2 := by
  intro n
  induction n with
  | zero => intro w; exact CF.rf
  | succ n ih =>
    intro w
    show CF d (st_X5_factorAt_19 d x y z e (lp_X5_factorAt_19 d x y z e n) w).2
    have k : ∀ (P : Prop) (a b : Int32 × Dt), CF d a.2 → CF d b.2 → CF d (cif P a b).2 := fun P a b ha hb => by
      by_cases c : P
      · rw [cif_t c]; exact ha
      · rw [cif_f c]; exact hb
    unfold st_X5_factorAt_19
    exact k _ _ _ (k _ _ _ h (k _ _ _ h (k _ _ _ h h))) (k _ _ _ (k _ _ _ h (k _ _ _ h (k _ _ _ h h))) (ih _))
theorem fa_cf (x y z : Int32) : CF d (sp_X5_factorAt d x y z).2 := by
  unfold sp_X5_factorAt
  by_cases c : ((sp_X5_findCurve d x z).1 0 0 8).toInt = 0
  · rw [cif_t c]; exact fc_cf x z
  · rw [cif_f c]; exact f19_cf x y z (fc_cf x z) 16 0
theorem is_cf (t m f to : Int32) : CF d (sp_X5_isStale d t m f to).2 := by
  have k : ∀ (P : Prop) (a b : Prop × Dt), CF d a.2 → CF d b.2 → CF d (cif P a b).2 := fun P a b ha hb => by
    by_cases c : P
    · rw [cif_t c]; exact ha
    · rw [cif_f c]; exact hb
  unfold sp_X5_isStale
  exact k _ _ _ (k _ _ _ (k _ _ _ CF.rf (k _ _ _ (fa_cf _ _ _) (fa_cf _ _ _))) CF.rf) CF.rf
theorem gdm_l {c : Int} (hc : (d.1 0 0 15).toInt = c) : ∀ (n : Nat) (x : Int32) (u v : Int64), lp_X5_isGood_32 d n x u v → 0 ≤ x.toInt → 0 < v.toInt ∧ ∀ j : Nat, x.toInt ≤ (j : Int) → (j : Int) < c → 0 < (d.2 16 0 j).toInt := by
  intro n
  induction n with
  | zero => intro x u v h; exact h.elim
  | succ n ih =>
    intro x u v h h0
    have h : st_X5_isGood_32 d (lp_X5_isGood_32 d n) x u v := h
    unfold st_X5_isGood_32 at h
    by_cases c1 : (d.1 0 0 15).toInt ≤ x.toInt
    · rw [cif_t c1] at h
      by_cases c2 : v.toInt ≤ 0
      · rw [cif_t c2] at h; exact h.elim
      · exact ⟨by omega, fun j g1 g2 => absurd g2 (by omega)⟩
    · rw [cif_f c1] at h
      have hlt := (d.1 0 0 15).toInt_lt
      have e1 := ti1 (x := x) (by omega)
      have hi : ∀ j : Nat, x.toInt = (j : Int) → ix x = j := fun j q => by have := ix_int h0; omega
      have fin : ∀ w : Int64, 0 < w.toInt ∧ (∀ j : Nat, (x + 1).toInt ≤ (j : Int) → (j : Int) < c → 0 < (d.2 16 0 j).toInt) → (0 < w.toInt → 0 < v.toInt ∧ 0 < (d.2 16 0 (ix x)).toInt) → 0 < v.toInt ∧ ∀ j : Nat, x.toInt ≤ (j : Int) → (j : Int) < c → 0 < (d.2 16 0 j).toInt := fun w hw hv => by
        have g := hv hw.1
        refine ⟨g.1, fun j g1 g2 => ?_⟩
        by_cases q : x.toInt = (j : Int)
        · rw [← hi j q]; exact g.2
        · exact hw.2 j (by omega) g2
      by_cases c2 : v.toInt ≤ (d.2 16 0 (ix x)).toInt
      · rw [cif_t c2] at h
        by_cases c3 : (d.2 16 0 (ix x)).toInt ≤ u.toInt
        · rw [cif_t c3] at h; exact fin v (ih _ _ _ h (by omega)) (fun q => ⟨q, by omega⟩)
        · rw [cif_f c3] at h; exact fin v (ih _ _ _ h (by omega)) (fun q => ⟨q, by omega⟩)
      · rw [cif_f c2] at h
        by_cases c3 : (d.2 16 0 (ix x)).toInt ≤ u.toInt
        · rw [cif_t c3] at h; exact fin _ (ih _ _ _ h (by omega)) (fun q => ⟨by omega, q⟩)
        · rw [cif_f c3] at h; exact fin _ (ih _ _ _ h (by omega)) (fun q => ⟨by omega, q⟩)
theorem gdm_of (h : sp_X5_isGood d) : 5 ≤ (d.1 0 0 15).toInt ∧ ∀ j : Nat, (d.1 0 0 15).toInt - 5 ≤ (j : Int) → (j : Int) < (d.1 0 0 15).toInt → 0 < (d.2 16 0 j).toInt := by
  unfold sp_X5_isGood at h
  by_cases c1 : 5 ≤ (d.1 0 0 15).toInt
  · rw [cif_t c1] at h
    have e5 : (5 : Int32).toInt = 5 := rfl
    have hlt := (d.1 0 0 15).toInt_lt
    have e2 : (d.1 0 0 15 - 5).toInt = (d.1 0 0 15).toInt - 5 := by rw [ti_sub (by rw [e5]; omega) (by rw [e5]; omega), e5]
    have g := gdm_l (d := d) rfl 16 _ _ _ h (by omega)
    exact ⟨c1, fun j g1 g2 => g.2 j (by omega) g2⟩
  · rw [cif_f c1] at h; exact h.elim
end MIG
