theorem mx0 {x : Int32} (h : 0 ≤ x.toInt) : (if (0 : Int32) < x then x else 0).toInt = x.toInt := by
  split
  · rfl
  · rename_i c
    rw [Int32.lt_iff_toInt_lt, Int32.toInt_zero] at c
    rw [Int32.toInt_zero]
    omega
/-- what holds of the class' data, for its indices -/
def XI (M T : Nat) (d : Dt) : Prop :=
  (d.1 0 0 1).toInt = (M : Int) ∧ M ≤ 6 ∧ (d.1 0 0 4).toInt = (T : Int) ∧ T ≤ 40 ∧ (∀ i, i < M → 0 ≤ (d.1 8 i 6).toInt ∧ (d.1 8 i 6).toInt ≤ 12) ∧ (0 ≤ (d.1 2 0 5).toInt ∧ (d.1 2 0 5).toInt ≤ 12) ∧
  (¬ (d.1 2 0 0).toInt = 0 → 0 ≤ (d.1 2 0 1).toInt ∧ (d.1 2 0 1).toInt < (M : Int)) ∧ (∀ t, t < T → 0 ≤ (d.1 13 t 0).toInt ∧ (d.1 13 t 0).toInt < (M : Int)) ∧ (∀ j, j < 4 → 0 ≤ (d.1 6 j 3).toInt ∧ (d.1 6 j 3).toInt ≤ 60)
section XIF
variable {M T : Nat} {d : Dt}
theorem XI.fc (h : XI M T d) {i : Nat} (hi : i < M) : 0 ≤ (d.1 8 i 6).toInt ∧ (d.1 8 i 6).toInt ≤ 12 := h.2.2.2.2.1 i hi
theorem XI.rc (h : XI M T d) : 0 ≤ (d.1 2 0 5).toInt ∧ (d.1 2 0 5).toInt ≤ 12 := h.2.2.2.2.2.1
theorem XI.pm (h : XI M T d) (hb : ¬ (d.1 2 0 0).toInt = 0) : 0 ≤ (d.1 2 0 1).toInt ∧ (d.1 2 0 1).toInt < (M : Int) := h.2.2.2.2.2.2.1 hb
theorem XI.tm (h : XI M T d) {t : Nat} (ht : t < T) : 0 ≤ (d.1 13 t 0).toInt ∧ (d.1 13 t 0).toInt < (M : Int) := h.2.2.2.2.2.2.2.1 t ht
theorem XI.sl (h : XI M T d) {j : Nat} (hj : j < 4) : 0 ≤ (d.1 6 j 3).toInt ∧ (d.1 6 j 3).toInt ≤ 60 := h.2.2.2.2.2.2.2.2 j hj
theorem XI.s5 {x : Int32} (h : XI M T d) : XI M T (uv d 0 0 5 x) := h
theorem XI.s7 {x : Int32} (h : XI M T d) : XI M T (uv d 0 0 7 x) := h
theorem XI.s8 {x : Int32} (h : XI M T d) : XI M T (uv d 0 0 8 x) := h
theorem iw_iff {a lo hi : Int32} : sp_X4_isWithin a lo hi ↔ lo.toInt ≤ a.toInt ∧ a.toInt ≤ hi.toInt := by
  unfold sp_X4_isWithin
  by_cases c1 : a.toInt < lo.toInt
  · rw [cif_t c1]; exact ⟨fun h => h.elim, fun h => absurd c1 (by omega)⟩
  · rw [cif_f c1]
    by_cases c2 : hi.toInt < a.toInt
    · rw [cif_t c2]; exact ⟨fun h => h.elim, fun h => absurd c2 (by omega)⟩
    · rw [cif_f c2]; exact ⟨fun _ => ⟨by omega, by omega⟩, fun _ => trivial⟩
theorem iw_of {a lo hi : Int32} (h : sp_X4_isWithin a lo hi) : lo.toInt ≤ a.toInt ∧ a.toInt ≤ hi.toInt := iw_iff.mp h
theorem im_of (hI : XI M T d) {m : Int32} (h : sp_X4_isMeter d m) : 0 ≤ m.toInt ∧ m.toInt < (M : Int) := by
  have h1 := iw_of h
  have q1 := hI.1
  rw [ts1 (by omega), Int32.toInt_zero] at h1
  omega
theorem it_of (hI : XI M T d) {m : Int32} (h : sp_X4_isTicket d m) : 0 ≤ m.toInt ∧ m.toInt < (T : Int) := by
  have h1 := iw_of h
  have q1 := hI.2.2.1
  rw [ts1 (by omega), Int32.toInt_zero] at h1
  omega
theorem is_of {k : Int32} (h : sp_X4_isSheet k) : 0 ≤ k.toInt ∧ k.toInt < 4 := by
  have h1 := iw_of h
  rw [Int32.toInt_zero, show (3 : Int32).toInt = 3 from rfl] at h1
  omega
theorem il_of {k : Int32} (h : sp_X4_isLine k) : 0 ≤ k.toInt ∧ k.toInt < 4 := by
  have h1 := iw_of h
  rw [Int32.toInt_zero, show (3 : Int32).toInt = 3 from rfl] at h1
  omega
theorem nf_of {i : Nat} (h : ¬ sp_X0_isFull d i) : (d.1 8 i 6).toInt < 12 := by
  unfold sp_X0_isFull at h
  by_cases c : (d.1 8 i 6).toInt < 12
  · exact c
  · rw [cif_f c] at h; exact absurd trivial h
theorem gd_of (h : sp_X1_isGood d) : 5 ≤ (d.1 2 0 5).toInt := by
  unfold sp_X1_isGood at h
  by_cases c : 5 ≤ (d.1 2 0 5).toInt
  · exact c
  · rw [cif_f c] at h; exact h.elim
theorem hc_of {j : Nat} (hj : j < 4) (hI : XI M T d) {x : Int32} (h : sp_X2_hasCell d j x) : 0 ≤ x.toInt ∧ x.toInt < (d.1 6 j 3).toInt ∧ (d.1 6 j 3).toInt ≤ 60 := by
  have h1 := iw_of h
  have q1 := hI.sl hj
  rw [ts1 (by omega), Int32.toInt_zero] at h1
  omega
theorem hcs_of {j : Nat} (hj : j < 4) (hI : XI M T d) {x y : Int32} (h : sp_X2_hasCells d j x y) : 0 ≤ x.toInt ∧ 0 ≤ y.toInt ∧ x.toInt + y.toInt ≤ (d.1 6 j 3).toInt ∧ (d.1 6 j 3).toInt ≤ 60 := by
  unfold sp_X2_hasCells at h
  have q1 := hI.sl hj
  by_cases c1 : sp_X4_isWithin x 0 (d.1 6 j 3)
  · rw [cif_t c1] at h
    have h1 := iw_of c1
    rw [Int32.toInt_zero] at h1
    by_cases c2 : sp_X4_isWithin y 0 (d.1 6 j 3 - x)
    · have h2 := iw_of c2
      rw [Int32.toInt_zero, ti_sub (by omega) (by omega)] at h2
      omega
    · rw [cif_f c2] at h; exact h.elim
  · rw [cif_f c1] at h; exact h.elim
theorem nzL {x : Int32} (h : 0 < x.toInt) : ¬ x.toInt64 = 0 := by
  intro q
  have q2 := congrArg Int64.toInt q
  rw [t64, Int64.toInt_zero] at q2
  omega
theorem cp_lp {i : Nat} {p1 p2 : Int32} (h1 : (d.1 8 i 6).toInt ≤ 12) : ∀ (n : Nat) (x4 x3 : Int32), 0 ≤ x4.toInt → (lp_X0_curvePlace_5 d i p1 p2 n x4 x3).toInt = -9 ∨ (0 ≤ (lp_X0_curvePlace_5 d i p1 p2 n x4 x3).toInt ∧ (lp_X0_curvePlace_5 d i p1 p2 n x4 x3).toInt < 12) := by
  intro n
  induction n with
  | zero => intro x4 x3 h; exact Or.inr (by decide)
  | succ n ih =>
    intro x4 x3 h
    have e : lp_X0_curvePlace_5 d i p1 p2 (n + 1) x4 x3 = st_X0_curvePlace_5 d i p1 p2 (lp_X0_curvePlace_5 d i p1 p2 n) x4 x3 := rfl
    rw [e]
    unfold st_X0_curvePlace_5
    by_cases c : (d.1 8 i 6).toInt ≤ x4.toInt
    · rw [cif_t c]; exact Or.inl rfl
    · rw [cif_f c]
      have e9 : (x4 + 1).toInt = x4.toInt + 1 := ti1 (by omega)
      by_cases c2 : sp_X0_isOnCurve d i x4 p1
      · rw [cif_t c2]
        by_cases c3 : x3.toInt = p2.toInt
        · rw [cif_t c3]; exact Or.inr (by omega)
        · rw [cif_f c3]; exact ih _ _ (by omega)
      · rw [cif_f c2]; exact ih _ _ (by omega)
theorem cp_of {i : Nat} {p1 p2 : Int32} (h0 : 0 ≤ (d.1 8 i 6).toInt ∧ (d.1 8 i 6).toInt ≤ 12) (h : ¬ (sp_X0_curvePlace d i p1 p2).toInt = -9) : 0 ≤ (sp_X0_curvePlace d i p1 p2).toInt ∧ (sp_X0_curvePlace d i p1 p2).toInt < 12 := by
  rcases cp_lp (d := d) (i := i) (p1 := p1) (p2 := p2) h0.2 16 0 0 (by decide) with q | q
  · exact absurd q h
  · exact q
end XIF
