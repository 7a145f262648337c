theorem dn1 {x y : Int32} {n : Nat} (h : y.toInt = x.toInt - 1) (hm : x.toInt < ((n + 1 : Nat) : Int)) : y.toInt < (n : Int) := by omega
theorem dn2 {x y : Int32} (h : y.toInt = x.toInt - 1) (hm : 1 ≤ x.toInt) : 0 ≤ y.toInt := by omega
theorem dn3 {x : Int32} (h : 0 ≤ x.toInt) : -2147483648 < x.toInt := by omega
theorem dn4 {x y : Int32} {z : Int} (h : y.toInt = x.toInt - 1) (hm : x.toInt ≤ z) : y.toInt ≤ z := by omega
theorem mx0 {x : Int32} (h : 0 ≤ x.toInt) : (if (0 : Int32) < x then x else 0).toInt = x.toInt := by
  split
  · rfl
  · rename_i c
    rw [Int32.lt_iff_toInt_lt, Int32.toInt_zero] at c
    rw [Int32.toInt_zero]
    omega
/-- what holds of the class' data, for its indices -/
def XI (M T : Nat) (d : Dt) : Prop :=
  (d.1 0 0 1).toInt = (M : Int) ∧ M ≤ 6 ∧ (d.1 0 0 4).toInt = (T : Int) ∧ T ≤ 40 ∧ (∀ i, i < M → 0 ≤ (d.1 8 i 6).toInt ∧ (d.1 8 i 6).toInt ≤ 12) ∧ (0 ≤ (d.1 2 0 5).toInt ∧ (d.1 2 0 5).toInt ≤ 12) ∧
  (¬ (d.1 2 0 0).toInt = 0 → 0 ≤ (d.1 2 0 1).toInt ∧ (d.1 2 0 1).toInt < (M : Int)) ∧ (∀ t, t < T → 0 ≤ (d.1 13 t 0).toInt ∧ (d.1 13 t 0).toInt < (M : Int)) ∧ (∀ j, j < 4 → 0 ≤ (d.1 6 j 3).toInt ∧ (d.1 6 j 3).toInt ≤ 60)
section XIF
variable {M T : Nat} {d : Dt}
theorem XI.fc (h : XI M T d) {i : Nat} (hi : i < M) : 0 ≤ (d.1 8 i 6).toInt ∧ (d.1 8 i 6).toInt ≤ 12 := h.2.2.2.2.1 i hi
theorem XI.rc (h : XI M T d) : 0 ≤ (d.1 2 0 5).toInt ∧ (d.1 2 0 5).toInt ≤ 12 := h.2.2.2.2.2.1
theorem XI.pm (h : XI M T d) (hb : ¬ (d.1 2 0 0).toInt = 0) : 0 ≤ (d.1 2 0 1).toInt ∧ (d.1 2 0 1).toInt < (M : Int) := h.2.2.2.2.2.2.1 hb
theorem XI.tm (h : XI M T d) {t : Nat} (ht : t < T) : 0 ≤ (d.1 13 t 0).toInt ∧ (d.1 13 t 0).toInt < (M : Int) := h.2.2.2.2.2.2.2.1 t ht
theorem XI.sl (h : XI M T d) {j : Nat} (hj : j < 4) : 0 ≤ (d.1 6 j 3).toInt ∧ (d.1 6 j 3).toInt ≤ 60 := h.2.2.2.2.2.2.2.2 j hj
theorem XI.s5 {x : Int32} (h : XI M T d) : XI M T (uv d 0 0 5 x) := h
theorem XI.s7 {x : Int32} (h : XI M T d) : XI M T (uv d 0 0 7 x) := h
theorem XI.s8 {x : Int32} (h : XI M T d) : XI M T (uv d 0 0 8 x) := h
theorem iw_iff {a lo hi : Int32} : sp_X4_isWithin a lo hi ↔ lo.toInt ≤ a.toInt ∧ a.toInt ≤ hi.toInt := by
  unfold sp_X4_isWithin
  by_cases c1 : a.toInt < lo.toInt
  · rw [cif_t c1]; exact ⟨fun h => h.elim, fun h => absurd c1 (by omega)⟩
  · rw [cif_f c1]
    by_cases c2 : hi.toInt < a.toInt
    · rw [cif_t c2]; exact ⟨fun h => h.elim, fun h => absurd c2 (by omega)⟩
    · rw [cif_f c2]; exact ⟨fun _ => ⟨by omega, by omega⟩, fun _ => trivial⟩
theorem iw_of {a lo hi : Int32} (h : sp_X4_isWithin a lo hi) : lo.toInt ≤ a.toInt ∧ a.toInt ≤ hi.toInt := iw_iff.mp h
theorem im_of (hI : XI M T d) {m : Int32} (h : sp_X4_isMeter d m) : 0 ≤ m.toInt ∧ m.toInt < (M : Int) := by
  have h1 := iw_of h
  have q1 := hI.1
  rw [ts1 (by omega), Int32.toInt_zero] at h1
  omega
theorem it_of (hI : XI M T d) {m : Int32} (h : sp_X4_isTicket d m) : 0 ≤ m.toInt ∧ m.toInt < (T : Int) := by
  have h1 := iw_of h
  have q1 := hI.2.2.1
  rw [ts1 (by omega), Int32.toInt_zero] at h1
  omega
theorem is_of {k : Int32} (h : sp_X4_isSheet k) : 0 ≤ k.toInt ∧ k.toInt < 4 := by
  have h1 := iw_of h
  rw [Int32.toInt_zero, show (3 : Int32).toInt = 3 from rfl] at h1
  omega
theorem il_of {k : Int32} (h : sp_X4_isLine k) : 0 ≤ k.toInt ∧ k.toInt < 4 := by
  have h1 := iw_of h
  rw [Int32.toInt_zero, show (3 : Int32).toInt = 3 from rfl] at h1
  omega
theorem nf_of {i : Nat} (h : ¬ sp_X0_isFull d i) : (d.1 8 i 6).toInt < 12 := by
  unfold sp_X0_isFull at h
  by_cases c : (d.1 8 i 6).toInt < 12
  · exact c
  · rw [cif_f c] at h; exact absurd trivial h
theorem gd_of (h : sp_X1_isGood d) : 5 ≤ (d.1 2 0 5).toInt := by
  unfold sp_X1_isGood at h
  by_cases c : 5 ≤ (d.1 2 0 5).toInt
  · exact c
  · rw [cif_f c] at h; exact h.elim
theorem hc_of {j : Nat} (hj : j < 4) (hI : XI M T d) {x : Int32} (h : sp_X2_hasCell d j x) : 0 ≤ x.toInt ∧ x.toInt < (d.1 6 j 3).toInt ∧ (d.1 6 j 3).toInt ≤ 60 := by
  have h1 := iw_of h
  have q1 := hI.sl hj
  rw [ts1 (by omega), Int32.toInt_zero] at h1
  omega
theorem hcs_of {j : Nat} (hj : j < 4) (hI : XI M T d) {x y : Int32} (h : sp_X2_hasCells d j x y) : 0 ≤ x.toInt ∧ 0 ≤ y.toInt ∧ x.toInt + y.toInt ≤ (d.1 6 j 3).toInt ∧ (d.1 6 j 3).toInt ≤ 60 := by
  unfold sp_X2_hasCells at h
  have q1 := hI.sl hj
  by_cases c1 : sp_X4_isWithin x 0 (d.1 6 j 3)
  · rw [cif_t c1] at h
    have h1 := iw_of c1
    rw [Int32.toInt_zero] at h1
    by_cases c2 : sp_X4_isWithin y 0 (d.1 6 j 3 - x)
    · have h2 := iw_of c2
      rw [Int32.toInt_zero, ti_sub (by omega) (by omega)] at h2
      omega
    · rw [cif_f c2] at h; exact h.elim
  · rw [cif_f c1] at h; exact h.elim
theorem nzL {x : Int32} (h : 0 < x.toInt) : ¬ x.toInt64 = 0 := by
  intro q
  have q2 := congrArg Int64.toInt q
  rw [t64, Int64.toInt_zero] at q2
  omega
theorem cp_lp {i : Nat} {p1 p2 : Int32} (h1 : (d.1 8 i 6).toInt ≤ 12) : ∀ (n : Nat) (x4 x3 : Int32), 0 ≤ x4.toInt → (lp_X0_curvePlace_5 d i p1 p2 n x4 x3).toInt = -9 ∨ (0 ≤ (lp_X0_curvePlace_5 d i p1 p2 n x4 x3).toInt ∧ (lp_X0_curvePlace_5 d i p1 p2 n x4 x3).toInt < 12) := by
  intro n
  induction n with
  | zero => intro x4 x3 h; exact Or.inr (by show 0 ≤ (0 : Int32).toInt ∧ (0 : Int32).toInt < 12; decide)
  | succ n ih =>
    intro x4 x3 h
    have e : lp_X0_curvePlace_5 d i p1 p2 (n + 1) x4 x3 = st_X0_curvePlace_5 d i p1 p2 (lp_X0_curvePlace_5 d i p1 p2 n) x4 x3 := rfl
    rw [e]
    unfold st_X0_curvePlace_5
    by_cases c : (d.1 8 i 6).toInt ≤ x4.toInt
    · rw [cif_t c]; exact Or.inl rfl
    · rw [cif_f c]
      have e9 : (x4 + 1).toInt = x4.toInt + 1 := ti1 (by omega)
      by_cases c2 : sp_X0_isOnCurve d i x4 p1
      · rw [cif_t c2]
        by_cases c3 : x3.toInt = p2.toInt
        · rw [cif_t c3]; exact Or.inr (by omega)
        · rw [cif_f c3]; exact ih _ _ (by omega)
      · rw [cif_f c2]; exact ih _ _ (by omega)
theorem cp_of {i : Nat} {p1 p2 : Int32} (h0 : 0 ≤ (d.1 8 i 6).toInt ∧ (d.1 8 i 6).toInt ≤ 12) (h : ¬ (sp_X0_curvePlace d i p1 p2).toInt = -9) : 0 ≤ (sp_X0_curvePlace d i p1 p2).toInt ∧ (sp_X0_curvePlace d i p1 p2).toInt < 12 := by
  rcases cp_lp (d := d) (i := i) (p1 := p1) (p2 := p2) h0.2 16 0 0 (by decide) with q | q
  · exact absurd q h
  · exact q
end XIF

/-- what holds of the reference's data, for its indices and quotients -/
def MI (d : Dt) : Prop :=
  (0 ≤ (d.1 0 0 1).toInt ∧ (d.1 0 0 1).toInt ≤ 6) ∧ (∀ j, j < 6 → 0 ≤ (d.1 3 0 j).toInt ∧ (d.1 3 0 j).toInt ≤ 12) ∧ (-1 ≤ (d.1 0 0 12).toInt ∧ (d.1 0 0 12).toInt < (d.1 0 0 1).toInt) ∧
  (0 ≤ (d.1 0 0 15).toInt ∧ (d.1 0 0 15).toInt ≤ 12) ∧ (0 ≤ (d.1 0 0 17).toInt ∧ (d.1 0 0 17).toInt ≤ 40) ∧
  (∀ t : Nat, (t : Int) < (d.1 0 0 17).toInt → 0 ≤ (d.1 19 0 t).toInt ∧ (d.1 19 0 t).toInt < (d.1 0 0 1).toInt) ∧
  (∀ j : Nat, (j : Int) < (d.1 0 0 1).toInt → 1 ≤ (d.1 2 0 j).toInt) ∧ (∀ j, j < 4 → -1 ≤ (d.1 28 0 j).toInt ∧ (d.1 28 0 j).toInt ≤ 60) ∧
  (∀ j : Nat, (j : Int) < (d.1 0 0 15).toInt → 0 ≤ (d.2 16 0 j).toInt ∧ (d.2 16 0 j).toInt ≤ 100000000000000)
section MIF
variable {d : Dt}
theorem in_iff {a lo hi : Int64} : sp_X5_in a lo hi ↔ lo.toInt ≤ a.toInt ∧ a.toInt ≤ hi.toInt := by
  unfold sp_X5_in
  by_cases c1 : a.toInt < lo.toInt
  · rw [cif_t c1]; exact ⟨fun h => h.elim, fun h => absurd c1 (by omega)⟩
  · rw [cif_f c1]
    by_cases c2 : hi.toInt < a.toInt
    · rw [cif_t c2]; exact ⟨fun h => h.elim, fun h => absurd c2 (by omega)⟩
    · rw [cif_f c2]; exact ⟨fun _ => ⟨by omega, by omega⟩, fun _ => trivial⟩
theorem tls1 {x : Int32} : (x.toInt64 - 1).toInt = x.toInt - 1 := by
  have h1 : (1 : Int64).toInt = 1 := rfl
  have h2 := x.toInt_lt
  have h3 := x.le_toInt
  rw [tl_sub (by rw [t64, h1]; omega) (by rw [t64, h1]; omega), t64, h1]
theorem nm_of (hI : MI d) {m : Int32} (h : ¬ sp_X5_noMeter d m) : 0 ≤ m.toInt ∧ m.toInt < (d.1 0 0 1).toInt ∧ (d.1 0 0 1).toInt ≤ 6 := by
  unfold sp_X5_noMeter at h
  by_cases c : sp_X5_in m.toInt64 0 ((d.1 0 0 1).toInt64 - 1)
  · have h1 := in_iff.mp c
    rw [tls1, t64, Int64.toInt_zero] at h1
    have := hI.1
    omega
  · rw [cif_f c] at h; exact absurd trivial h
theorem nt_of (hI : MI d) {m : Int32} (h : ¬ sp_X5_noTicket d m) : 0 ≤ m.toInt ∧ m.toInt < (d.1 0 0 17).toInt ∧ (d.1 0 0 17).toInt ≤ 40 := by
  unfold sp_X5_noTicket at h
  by_cases c : sp_X5_in m.toInt64 0 ((d.1 0 0 17).toInt64 - 1)
  · have h1 := in_iff.mp c
    rw [tls1, t64, Int64.toInt_zero] at h1
    have := hI.2.2.2.2.1
    omega
  · rw [cif_f c] at h; exact absurd trivial h
theorem ns_of {m : Int32} (h : ¬ sp_X5_noSheet m) : 0 ≤ m.toInt ∧ m.toInt < 4 := by
  unfold sp_X5_noSheet at h
  by_cases c : sp_X5_in m.toInt64 0 3
  · have h1 := in_iff.mp c
    rw [t64, Int64.toInt_zero, show ((3 : Int64).toInt) = 3 from rfl] at h1
    omega
  · rw [cif_f c] at h; exact absurd trivial h
theorem nl_of {m : Int32} (h : ¬ sp_X5_noLine m) : 0 ≤ m.toInt ∧ m.toInt < 4 := by
  unfold sp_X5_noLine at h
  by_cases c : sp_X5_in m.toInt64 0 3
  · have h1 := in_iff.mp c
    rw [t64, Int64.toInt_zero, show ((3 : Int64).toInt) = 3 from rfl] at h1
    omega
  · rw [cif_f c] at h; exact absurd trivial h
theorem nb_of {i n a : Int32} (h : ¬ sp_X5_isBeyond i n a) : 0 ≤ i.toInt ∧ 0 ≤ n.toInt ∧ i.toInt + n.toInt ≤ a.toInt := by
  unfold sp_X5_isBeyond at h
  by_cases c1 : i.toInt < 0
  · rw [cif_t c1] at h; exact absurd trivial h
  · rw [cif_f c1] at h
    by_cases c2 : n.toInt < 0
    · rw [cif_t c2] at h; exact absurd trivial h
    · rw [cif_f c2] at h
      have h2 := i.toInt_lt
      have h3 := n.toInt_lt
      have e : (i.toInt64 + n.toInt64).toInt = i.toInt + n.toInt := by
        rw [tl_add (by rw [t64, t64]; omega) (by rw [t64, t64]; omega), t64, t64]
      rw [e, t64] at h
      by_cases c3 : i.toInt + n.toInt ≤ a.toInt
      · exact ⟨by omega, by omega, c3⟩
      · rw [cif_f c3] at h; exact absurd trivial h
theorem MI.mt (h : MI d) {x : Int32} (h0 : 0 ≤ x.toInt) (h1 : x.toInt < (d.1 0 0 17).toInt) : 0 ≤ (d.1 19 0 (ix x)).toInt ∧ (d.1 19 0 (ix x)).toInt < (d.1 0 0 1).toInt := h.2.2.2.2.2.1 _ (by rw [ix_int h0]; exact h1)
theorem MI.mk (h : MI d) {x : Int32} (h0 : 0 ≤ x.toInt) (h1 : x.toInt < (d.1 0 0 1).toInt) : 1 ≤ (d.1 2 0 (ix x)).toInt := h.2.2.2.2.2.2.1 _ (by rw [ix_int h0]; exact h1)
theorem MI.mn (h : MI d) {x : Int32} (h0 : 0 ≤ x.toInt) (h1 : x.toInt < 6) : 0 ≤ (d.1 3 0 (ix x)).toInt ∧ (d.1 3 0 (ix x)).toInt ≤ 12 := h.2.1 _ (ix_lt h0 h1)
theorem MI.sz (h : MI d) {x : Int32} (h0 : 0 ≤ x.toInt) (h1 : x.toInt < 4) : -1 ≤ (d.1 28 0 (ix x)).toInt ∧ (d.1 28 0 (ix x)).toInt ≤ 60 := h.2.2.2.2.2.2.2.1 _ (ix_lt h0 h1)
theorem MI.s0 {x : Int32} (h : MI d) : MI (uv d 0 0 0 x) := h
theorem MI.s32 {x : Int32} (h : MI d) : MI (uv d 0 0 32 x) := h
theorem lin {a : Int32} {z : Int} {x y : Int32} (ha : a.toInt = z) (hz : 0 ≤ z ∧ z ≤ 100) (hx : 0 ≤ x.toInt ∧ x.toInt ≤ 100) (hy : 0 ≤ y.toInt ∧ y.toInt ≤ 1000) : (a * x + y).toInt = z * x.toInt + y.toInt ∧ (a * x).toInt = z * x.toInt := by
  have h1 : 0 ≤ z * x.toInt := Int.mul_nonneg hz.1 hx.1
  have h2 : z * x.toInt ≤ 100 * 100 := Int.mul_le_mul hz.2 hx.2 hx.1 (by omega)
  have e : (a * x).toInt = z * x.toInt := by
    rw [ti_mul (by rw [ha]; omega) (by rw [ha]; omega), ha]
  exact ⟨by rw [ti_add (by rw [e]; omega) (by rw [e]; omega), e], e⟩
theorem a1s (x : Int32) : x + 1 - 1 = x := by
  rw [Int32.sub_eq_add_neg, Int32.add_assoc, show ((1 : Int32) + -1) = 0 from rfl, Int32.add_zero]
theorem nzsub {a b : Int32} (h : ¬ a.toInt = b.toInt) : ¬ (a.toInt64 - b.toInt64 = 0) := by
  intro q
  have q2 := congrArg Int64.toInt q
  have h2 := a.toInt_lt
  have h3 := b.toInt_lt
  have h4 := a.le_toInt
  have h5 := b.le_toInt
  rw [tl_sub (by rw [t64, t64]; omega) (by rw [t64, t64]; omega), t64, t64, Int64.toInt_zero] at q2
  omega
/-- only the curve's own rows and its size differ -/
def CF (d e : Dt) : Prop := (∀ k, k ≠ 0 → k ≠ 9 → k ≠ 10 → k ≠ 11 → e.1 k = d.1 k) ∧ e.2 = d.2 ∧ ∀ i j, ¬ (i = 0 ∧ j = 8) → e.1 0 i j = d.1 0 i j
theorem CF.rf {d : Dt} : CF d d := ⟨fun _ _ _ _ _ => rfl, rfl, fun _ _ _ => rfl⟩
theorem CF.tr {d e f : Dt} (h : CF d e) (g : CF e f) : CF d f := ⟨fun k a b c q => (g.1 k a b c q).trans (h.1 k a b c q), g.2.1.trans h.2.1, fun i j q => (g.2.2 i j q).trans (h.2.2 i j q)⟩
theorem CF.f0 {d e : Dt} (h : CF d e) {j : Nat} (hj : j ≠ 8 := by decide) : e.1 0 0 j = d.1 0 0 j := h.2.2 0 j (fun q => hj q.2)
theorem CF.p8 {d e : Dt} {x : Int32} (h : CF d e) : CF d (uv e 0 0 8 x) := by
  refine h.tr ⟨fun k a _ _ _ => ?_, rfl, fun i j q => ?_⟩
  · funext i j; simp [uv, a]
  · by_cases h1 : i = 0
    · subst h1
      have h2 : j ≠ 8 := fun z => q ⟨rfl, z⟩
      simp [uv, h2]
    · simp [uv, h1]
theorem CF.pk {d e : Dt} {k i j : Nat} {x : Int32} (h : CF d e) (hk : k = 9 ∨ k = 10 ∨ k = 11) : CF d (uv e k i j x) := by
  refine h.tr ⟨fun k' a b c f => ?_, rfl, fun i' j' q => ?_⟩
  · funext i' j'
    have : k' ≠ k := by omega
    simp [uv, this]
  · have : (0 : Nat) ≠ k := by omega
    simp [uv, this]
theorem MI.cf {d e : Dt} (h : MI d) (g : CF d e) : MI e := by
  obtain ⟨h1, h2, h3⟩ := g
  unfold MI
  rw [h3 0 1 (by decide), h3 0 12 (by decide), h3 0 15 (by decide), h3 0 17 (by decide), h1 3 (by decide) (by decide) (by decide) (by decide), h1 19 (by decide) (by decide) (by decide) (by decide), h1 2 (by decide) (by decide) (by decide) (by decide), h1 28 (by decide) (by decide) (by decide) (by decide), h2]
  exact h
theorem td_of (hI : MI d) {m : Int32} (h : sp_X5_in m.toInt64 10 (9 + (d.1 0 0 1).toInt64)) : (m - 10).toInt = m.toInt - 10 ∧ 10 ≤ m.toInt ∧ m.toInt - 10 < (d.1 0 0 1).toInt ∧ (d.1 0 0 1).toInt ≤ 6 := by
  have h1 := in_iff.mp h
  have q1 := hI.1
  have h9 : (9 : Int64).toInt = 9 := rfl
  rw [tl_add (by rw [h9, t64]; omega) (by rw [h9, t64]; omega), h9, t64, t64, show ((10 : Int64).toInt) = 10 from rfl] at h1
  have h10 : (10 : Int32).toInt = 10 := rfl
  refine ⟨?_, by omega, by omega, by omega⟩
  rw [ti_sub (by rw [h10]; omega) (by rw [h10]; omega), h10]
theorem nc_of (hI : MI d) {k i : Int32} (h0 : 0 ≤ k.toInt) (h1 : k.toInt < 4) (h : (sp_X5_noCell d k i).toInt ≤ 0) : 0 ≤ i.toInt ∧ i.toInt < 60 := by
  have q := hI.sz h0 h1
  unfold sp_X5_noCell at h
  by_cases c1 : 0 ≤ (d.1 28 0 (ix k)).toInt
  · rw [cif_t c1] at h
    by_cases c2 : sp_X5_in i.toInt64 0 ((d.1 28 0 (ix k)).toInt64 - 1)
    · have h2 := in_iff.mp c2
      rw [tls1, t64, Int64.toInt_zero] at h2
      omega
    · rw [cif_f c2] at h; exact absurd h (by decide)
  · rw [cif_f c1] at h; exact absurd h (by decide)
end MIF
