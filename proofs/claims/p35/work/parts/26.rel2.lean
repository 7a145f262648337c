/-! ===== SHEETS ===== -/
section R2S
variable {M T : Nat} {d τ : Dt}
theorem fill_l (d0 : Dt) (t : Nat) (a : Int32) : ∀ (n : Nat) (x : Int32) (e : Dt), 0 ≤ x.toInt → x.toInt ≤ 60 → 60 - x.toInt < (n : Int) → (∀ j : Nat, (j : Int) < x.toInt → e.1 7 t j = a) → (∀ j : Nat, j < 60 → (lp_J7_fill_53178_5 d0 t a n x e).1 7 t j = a) ∧ (∀ k, k ≠ 7 → (lp_J7_fill_53178_5 d0 t a n x e).1 k = e.1 k) ∧ (∀ u, u ≠ t → (lp_J7_fill_53178_5 d0 t a n x e).1 7 u = e.1 7 u) ∧ (lp_J7_fill_53178_5 d0 t a n x e).2 = e.2 := by
  intro n
  induction n with
  | zero => intro x e h0 h1 h2; omega
  | succ n ih =>
    intro x e h0 h1 h2 h3
    have hE : lp_J7_fill_53178_5 d0 t a (n + 1) x e = cif (60 ≤ x.toInt) e (lp_J7_fill_53178_5 d0 t a n (x + 1) (uv e 7 t (ix x) a)) := by
      show st_J7_fill_53178_5 d0 t a (lp_J7_fill_53178_5 d0 t a n) x e = _
      rfl
    rw [hE]
    by_cases c : 60 ≤ x.toInt
    · rw [cif_t c]; exact ⟨fun j hj => h3 j (by omega), fun _ _ => rfl, fun _ _ => rfl, rfl⟩
    · rw [cif_f c]
      have e1 := ti1 (x := x) (by omega)
      have ei := ix_int h0
      obtain ⟨r1, r2, r3, r4⟩ := ih (x + 1) (uv e 7 t (ix x) a) (by omega) (by omega) (by omega) (fun j hj => by
        by_cases q : j = ix x
        · rw [q, uv_eq]
        · rw [uv_at q]; exact h3 j (by omega))
      exact ⟨r1, fun k hk => by rw [r2 k hk, uv_kk hk], fun u hu => by rw [r3 u hu, uv_off _ _ _ _ _ _ _ (fun z => hu z.2)], r4⟩
theorem sheet_l (b : Dt) {k : Int32} (p n3 : Int32) (k0 : 0 ≤ k.toInt) (k4 : k.toInt < 4) (n0 : 0 ≤ n3.toInt) (n60 : n3.toInt ≤ 60) : ∀ (n : Nat) (x : Int32) (e : Dt), 0 ≤ x.toInt → x.toInt ≤ n3.toInt → n3.toInt - x.toInt < (n : Int) → (∀ j : Nat, (j : Int) < x.toInt → e.1 30 0 (60 * ix k + j) = 0) → (lp_X5_sheet_65 b k p n3 n x e).1 = 1 ∧ (∀ j : Nat, (j : Int) < n3.toInt → (lp_X5_sheet_65 b k p n3 n x e).2.1 30 0 (60 * ix k + j) = 0) ∧ (∀ q : Nat, q < 60 * ix k ∨ 60 * ix k + 60 ≤ q → (lp_X5_sheet_65 b k p n3 n x e).2.1 30 0 q = e.1 30 0 q) ∧ (∀ u, u ≠ 30 → u ≠ 0 → (lp_X5_sheet_65 b k p n3 n x e).2.1 u = e.1 u) ∧ (∀ f, f ≠ 0 → (lp_X5_sheet_65 b k p n3 n x e).2.1 0 0 f = e.1 0 0 f) ∧ (lp_X5_sheet_65 b k p n3 n x e).2.1 0 0 0 = 0 ∧ (lp_X5_sheet_65 b k p n3 n x e).2.2 = e.2 := by
  intro n
  induction n with
  | zero => intro x e h0 h1 h2; omega
  | succ n ih =>
    intro x e h0 h1 h2 h3
    have hE : lp_X5_sheet_65 b k p n3 (n + 1) x e = cif (n3.toInt ≤ x.toInt) ((sp_X5_refused e 1).1, (sp_X5_refused e 1).2) (lp_X5_sheet_65 b k p n3 n (x + 1) (uv e 30 0 (ix ((60 * k) + x)) 0)) := by
      show st_X5_sheet_65 b k p n3 (lp_X5_sheet_65 b k p n3 n) x e = _
      rfl
    rw [hE]
    by_cases c : n3.toInt ≤ x.toInt
    · rw [cif_t c]
      exact ⟨rfl, fun j hj => h3 j (by omega), fun _ _ => rfl, fun u _ hu => uv_kk hu, fun f hf => uv_at hf, uv_eq, rfl⟩
    · rw [cif_f c]
      have e1 := ti1 (x := x) (by omega)
      have ei := ix_int h0
      have ej := ix60 k0 k4 h0 (by omega)
      rw [ej]
      obtain ⟨r1, r2, r3, r4, r5, r6, r7⟩ := ih (x + 1) (uv e 30 0 (60 * ix k + ix x) 0) (by omega) (by omega) (by omega) (fun j hj => by
        by_cases q : j = ix x
        · rw [q, uv_eq]
        · rw [uv_at (by omega)]; exact h3 j (by omega))
      exact ⟨r1, r2, fun q hq => by rw [r3 q hq, uv_at (by omega)], fun u h30 hu => by rw [r4 u h30 hu, uv_kk h30], fun f hf => by rw [r5 f hf]; rfl, r6, r7⟩
theorem R1.f8 (h : R1 d τ) {x y : Int32} : R1 (uv d 0 0 8 x) (uv τ 0 0 0 y) := h
theorem R1.f8' (h : R1 d τ) {x : Int32} : R1 (uv d 0 0 8 x) τ := h
theorem r1_X4_sheet (h : R1 d τ) (iM : MI τ) (a b c : Int32) : J1 (sp_X4_sheet d a b c) (sp_X5_sheet τ a b c) := by
  unfold sp_X4_sheet sp_X5_sheet
  refine J1.n (noSheet_e a) (fun c1 => ?_) (fun _ => ⟨rfl, h⟩)
  refine J1.c (lane_e b).symm (fun c2 => ?_) (fun _ => ⟨rfl, h⟩)
  refine J1.c rfl (fun c3 => ?_) (fun _ => ⟨rfl, h⟩)
  refine J1.c rfl (fun c4 => ?_) (fun _ => ⟨rfl, h⟩)
  have f1 := is_of c1
  have ik := ix_int f1.1
  obtain ⟨r1, r2, r3, r4, r5, r6, r7⟩ := sheet_l τ b c f1.1 f1.2 c4 c3 64 0 (uv (uv τ 28 0 (ix a) c) 29 0 (ix a) b) (by decide) (by rw [Int32.toInt_zero]; exact c4) (by rw [Int32.toInt_zero]; omega) (fun j hj => by rw [Int32.toInt_zero] at hj; omega)
  obtain ⟨s1, s2, s3, s4⟩ := fill_l (uv d 0 0 8 0) (ix a) 0 64 0 (uv d 0 0 8 0) (by decide) (by decide) (by decide) (fun j hj => by rw [Int32.toInt_zero] at hj; omega)
  have s1 : ∀ j : Nat, j < 60 → (sp_J7_fill_53178 (uv d 0 0 8 0) (ix a) 0).1 7 (ix a) j = 0 := s1
  have s2 : ∀ k, k ≠ 7 → (sp_J7_fill_53178 (uv d 0 0 8 0) (ix a) 0).1 k = (uv d 0 0 8 0).1 k := s2
  have s3 : ∀ u, u ≠ ix a → (sp_J7_fill_53178 (uv d 0 0 8 0) (ix a) 0).1 7 u = d.1 7 u := s3
  have s4 : (sp_J7_fill_53178 (uv d 0 0 8 0) (ix a) 0).2 = d.2 := s4
  refine ⟨r1.symm, ?_⟩
  generalize lp_X5_sheet_65 τ a b c 64 0 (uv (uv τ 28 0 (ix a) c) 29 0 (ix a) b) = rr at r1 r2 r3 r4 r5 r6 r7
  unfold sp_X2_renew
  generalize sp_J7_fill_53178 (uv d 0 0 8 0) (ix a) 0 = e at s1 s2 s3 s4
  obtain ⟨g1, g2, g3, g4, g5⟩ := h
  have x2 : e.1 2 = d.1 2 := s2 2 (by decide)
  have x8 : e.1 8 = d.1 8 := s2 8 (by decide)
  have x9 : e.1 9 = d.1 9 := s2 9 (by decide)
  have x6 : e.1 6 = d.1 6 := s2 6 (by decide)
  have x01 : e.1 0 0 1 = d.1 0 0 1 := by rw [s2 0 (by decide)]; rfl
  have x05 : e.1 0 0 5 = d.1 0 0 5 := by rw [s2 0 (by decide)]; rfl
  show rr.2.1 0 0 1 = e.1 0 0 1 ∧ rr.2.1 0 0 26 = e.1 0 0 5 ∧ rMt (e.1 0 0 1) (e.1 8) (e.1 9) (rr.2.1 2) (rr.2.1 3) (rr.2.1 7) (rr.2.1 27) ∧ rPf (e.1 2) (rr.2.1 0 0 12) (rr.2.1 0 0 13) (rr.2.1 0 0 14) (rr.2.1 0 0 15) e.2 rr.2.2 ∧ rSh ((uv (uv (uv e 6 (ix a) 1 1) 6 (ix a) 2 b) 6 (ix a) 3 c).1 6) (e.1 7) (rr.2.1 28) (rr.2.1 29) (rr.2.1 30)
  rw [x01, x05, x8, x9, x2, s4, r5 1 (by decide), r5 26 (by decide), r5 12 (by decide), r5 13 (by decide), r5 14 (by decide), r5 15 (by decide), r4 2 (by decide) (by decide), r4 3 (by decide) (by decide), r4 7 (by decide) (by decide), r4 27 (by decide) (by decide), r4 28 (by decide) (by decide), r4 29 (by decide) (by decide), r7]
  refine ⟨g1, g2, g3, g4, fun k hk => ?_⟩
  have t28 : ∀ j, (uv (uv τ 28 0 (ix a) c) 29 0 (ix a) b).1 28 0 j = (uv τ 28 0 (ix a) c).1 28 0 j := fun _ => rfl
  by_cases q : k = ix a
  · subst q
    rw [t28, uv_eq, uv_eq, uv_eq, uv_at (show (1 : Nat) ≠ 3 by decide), uv_at (show (1 : Nat) ≠ 2 by decide), uv_eq, uv_at (show (2 : Nat) ≠ 3 by decide), uv_eq]
    refine ⟨⟨fun z => absurd z (by decide), fun z => absurd z (by omega)⟩, fun _ => ⟨rfl, rfl, fun j hj => ?_⟩⟩
    rw [s1 j (by omega), r2 j hj]
  · have gk := g5 k hk
    rw [t28, uv_at q, uv_at q, uv_off _ _ _ _ _ _ _ (fun z => q z.2), uv_off _ _ _ _ _ _ _ (fun z => q z.2), uv_off _ _ _ _ _ _ _ (fun z => q z.2), x6, s3 k q]
    refine ⟨gk.1, fun z => ⟨(gk.2 z).1, (gk.2 z).2.1, fun j hj => ?_⟩⟩
    have hz := iM.2.2.2.2.2.2.2.1 k hk
    rw [r3 _ (by omega)]
    exact (gk.2 z).2.2 j hj
theorem r1_X4_lose (h : R1 d τ) (a : Int32) : J1 (sp_X4_lose d a) (sp_X5_lose τ a) := by
  unfold sp_X4_lose sp_X5_lose
  refine J1.n (noSheet_e a) (fun c1 => ?_) (fun _ => ⟨rfl, h⟩)
  have f1 := is_of c1
  have ik := ix_int f1.1
  obtain ⟨g1, g2, g3, g4, g5⟩ := h
  have gk := g5 (ix a) (by omega)
  have hR : R1 (uv d 6 (ix a) 1 0) (uv τ 28 0 (ix a) (-1)) := by
    refine ⟨g1, g2, g3, g4, fun k hk => ?_⟩
    show (((uv d 6 (ix a) 1 0).1 6 k 1).toInt = 0 ↔ ((uv τ 28 0 (ix a) (-1)).1 28 0 k).toInt < 0) ∧ (0 ≤ ((uv τ 28 0 (ix a) (-1)).1 28 0 k).toInt → (uv d 6 (ix a) 1 0).1 6 k 3 = (uv τ 28 0 (ix a) (-1)).1 28 0 k ∧ (uv d 6 (ix a) 1 0).1 6 k 2 = τ.1 29 0 k ∧ ∀ j : Nat, (j : Int) < ((uv τ 28 0 (ix a) (-1)).1 28 0 k).toInt → d.1 7 k j = τ.1 30 0 (60 * k + j))
    by_cases q : k = ix a
    · subst q
      rw [uv_eq, uv_eq]
      exact ⟨⟨fun _ => by decide, fun _ => rfl⟩, fun z => absurd z (by decide)⟩
    · rw [uv_at q, uv_off _ _ _ _ _ _ _ (fun z => q z.2)]; exact g5 k hk
  exact J1.ni (by rw [gk.1]; omega) (fun _ => ⟨rfl, hR⟩) (fun _ => ⟨rfl, hR⟩)
/-- one SHEET of the two sides -/
theorem R1.sh (h : R1 d τ) {a : Int32} (c : sp_X4_isSheet a) : ix a < 4 ∧ ((d.1 6 (ix a) 1).toInt = 0 ↔ (τ.1 28 0 (ix a)).toInt < 0) ∧ (0 ≤ (τ.1 28 0 (ix a)).toInt → d.1 6 (ix a) 3 = τ.1 28 0 (ix a) ∧ d.1 6 (ix a) 2 = τ.1 29 0 (ix a) ∧ ∀ j : Nat, (j : Int) < (τ.1 28 0 (ix a)).toInt → d.1 7 (ix a) j = τ.1 30 0 (60 * ix a + j)) := ⟨six c, h.2.2.2.2 (ix a) (six c)⟩
theorem hasCell_e {a : Nat} {x : Int32} {e : Dt} : sp_X2_hasCell e a x ↔ 0 ≤ x.toInt ∧ x.toInt ≤ ((e.1 6 a 3) - 1).toInt := by
  unfold sp_X2_hasCell; rw [iw_iff, Int32.toInt_zero]
theorem noCell_e {a x : Int32} (h0 : 0 ≤ (τ.1 28 0 (ix a)).toInt) (h6 : (τ.1 28 0 (ix a)).toInt ≤ 60) : sp_X5_noCell τ a x = cif (0 ≤ x.toInt ∧ x.toInt < (τ.1 28 0 (ix a)).toInt) 0 3 := by
  unfold sp_X5_noCell
  rw [cif_t h0]
  have e : sp_X5_in x.toInt64 0 (((τ.1 28 0 (ix a)).toInt64) - 1) = (0 ≤ x.toInt ∧ x.toInt < (τ.1 28 0 (ix a)).toInt) := propext (by rw [in_iff, t64, tls1, show (0 : Int64).toInt = 0 from rfl]; omega)
  rw [e]
theorem R1.cel (h : R1 d τ) {K : Nat} {J : Nat} {x : Int32} (hJ : J < 60) (hs : ∀ k : Nat, k < 4 → (τ.1 28 0 k).toInt ≤ 60) : R1 (uv d 7 K J x) (uv τ 30 0 (60 * K + J) x) := by
  obtain ⟨g1, g2, g3, g4, g5⟩ := h
  refine ⟨g1, g2, g3, g4, fun k hk => ?_⟩
  have gk := g5 k hk
  refine ⟨gk.1, fun z => ⟨(gk.2 z).1, (gk.2 z).2.1, fun j hj => ?_⟩⟩
  have hj : (j : Int) < (τ.1 28 0 k).toInt := hj
  have h6 := hs k hk
  by_cases q : k = K
  · subst q
    by_cases q2 : j = J
    · rw [q2, uv_eq, uv_eq]
    · rw [uv_at q2, uv_at (by omega)]; exact (gk.2 z).2.2 j hj
  · rw [uv_off _ _ _ _ _ _ _ (fun z => q z.2), uv_at (by omega)]; exact (gk.2 z).2.2 j hj
theorem MI.s28 (iM : MI τ) : ∀ k : Nat, k < 4 → (τ.1 28 0 k).toInt ≤ 60 := fun k hk => (iM.2.2.2.2.2.2.2.1 k hk).2
theorem r1_X4_put (h : R1 d τ) (iM : MI τ) (a b c : Int32) : J1 (sp_X4_put d a b c) (sp_X5_put τ a b c) := by
  unfold sp_X4_put sp_X5_put
  refine J1.n (noSheet_e a) (fun c1 => ?_) (fun _ => ⟨rfl, h⟩)
  have f1 := is_of c1
  have ik := ix_int f1.1
  obtain ⟨k4, gk⟩ := h.sh c1
  by_cases q : (d.1 6 (ix a) 1).toInt = 0
  · have z := gk.1.mp q
    have en : sp_X5_noCell τ a b = 1 := by unfold sp_X5_noCell; rw [cif_f (by omega)]
    rw [cif_t q, en, cif_f (by decide)]; exact ⟨rfl, h⟩
  · have z : 0 ≤ (τ.1 28 0 (ix a)).toInt := by
      have := Int.not_lt.mp (fun z => q (gk.1.mpr z))
      omega
    have h6 := iM.s28 (ix a) k4
    obtain ⟨e3, e2, ec⟩ := gk.2 z
    have s1 := ts1 (x := τ.1 28 0 (ix a)) (by omega)
    rw [cif_f q, noCell_e z h6]
    have hc : sp_X2_hasCell (uv d 0 0 8 0) (ix a) b ↔ 0 ≤ b.toInt ∧ b.toInt < (τ.1 28 0 (ix a)).toInt := by
      rw [hasCell_e]
      show 0 ≤ b.toInt ∧ b.toInt ≤ ((d.1 6 (ix a) 3) - 1).toInt ↔ _
      rw [e3]; omega
    by_cases c2 : 0 ≤ b.toInt ∧ b.toInt < (τ.1 28 0 (ix a)).toInt
    · rw [cif_t (hc.mpr c2), cif_t c2, cif_t (by decide)]
      have ib := ix_int c2.1
      rw [ix60 f1.1 f1.2 c2.1 (by omega)]
      have hw : ∀ x : Int32, R1 (uv (uv d 0 0 8 0) 7 (ix a) (ix b) x) (uv (uv τ 30 0 (60 * ix a + ix b) x) 0 0 0 0) := fun x => R1.cel (d := d) (τ := τ) h (by omega) iM.s28
      unfold sp_X2_fillIn
      have e2' : (uv d 0 0 8 0).1 6 (ix a) 2 = τ.1 29 0 (ix a) := e2
      rw [e2']
      by_cases l0 : (τ.1 29 0 (ix a)).toInt = 0
      · rw [cif_t l0, cif_t l0]; exact ⟨rfl, hw _⟩
      · rw [cif_f l0, cif_f l0]
        by_cases l1 : (τ.1 29 0 (ix a)).toInt = 1
        · rw [cif_t l1, cif_t l1]; exact ⟨rfl, hw _⟩
        · rw [cif_f l1, cif_f l1]; exact ⟨rfl, hw _⟩
    · rw [cif_f (fun y => c2 (hc.mp y)), cif_f c2, cif_f (by decide)]; exact ⟨rfl, h⟩
theorem r1_X4_cell (h : R1 d τ) (iM : MI τ) (a b c : Int32) : J1 (sp_X4_cell d a b c) (sp_X5_cell τ a b c) := by
  unfold sp_X4_cell sp_X5_cell
  refine J1.n (noSheet_e a) (fun c1 => ?_) (fun _ => ⟨rfl, h⟩)
  refine J1.c (lane_e c).symm (fun c2 => ?_) (fun _ => ⟨rfl, h⟩)
  have f1 := is_of c1
  have ik := ix_int f1.1
  obtain ⟨k4, gk⟩ := h.sh c1
  by_cases q : (d.1 6 (ix a) 1).toInt = 0
  · have z := gk.1.mp q
    have ef : sp_X2_faultAs (uv d 0 0 8 0) (ix a) c = 1 := cif_t q
    have en : sp_X5_noCell (uv τ 0 0 0 0) a b = 1 := by unfold sp_X5_noCell; rw [cif_f (show ¬ 0 ≤ ((uv τ 0 0 0 0).1 28 0 (ix a)).toInt from fun y => by have y : 0 ≤ (τ.1 28 0 (ix a)).toInt := y; omega)]
    rw [ef, cif_f (by decide), cif_t z, en, cif_f (by decide)]; exact ⟨rfl, h⟩
  · have z : 0 ≤ (τ.1 28 0 (ix a)).toInt := by
      have := Int.not_lt.mp (fun z => q (gk.1.mpr z))
      omega
    have h6 := iM.s28 (ix a) k4
    obtain ⟨e3, e2, ec⟩ := gk.2 z
    have s1 := ts1 (x := τ.1 28 0 (ix a)) (by omega)
    rw [cif_f (show ¬ (τ.1 28 0 (ix a)).toInt < 0 by omega)]
    have ef : sp_X2_faultAs (uv d 0 0 8 0) (ix a) c = cif ((τ.1 29 0 (ix a)).toInt = c.toInt) 0 2 := by
      show cif ((d.1 6 (ix a) 1).toInt = 0) 1 (cif ((d.1 6 (ix a) 2).toInt = c.toInt) 0 2) = _
      rw [cif_f q, e2]
    rw [ef]
    by_cases l : (τ.1 29 0 (ix a)).toInt = c.toInt
    · rw [cif_t l, cif_t l, cif_t (by decide)]
      have en := noCell_e (τ := uv τ 0 0 0 0) (a := a) (x := b) z h6
      rw [en]
      have en : (uv τ 0 0 0 0).1 28 0 (ix a) = τ.1 28 0 (ix a) := rfl
      rw [en]
      have hc : sp_X2_hasCell (uv (uv d 0 0 8 0) 0 0 8 0) (ix a) b ↔ 0 ≤ b.toInt ∧ b.toInt < (τ.1 28 0 (ix a)).toInt := by
        rw [hasCell_e]
        show 0 ≤ b.toInt ∧ b.toInt ≤ ((d.1 6 (ix a) 3) - 1).toInt ↔ _
        rw [e3]; omega
      by_cases c3 : 0 ≤ b.toInt ∧ b.toInt < (τ.1 28 0 (ix a)).toInt
      · rw [cif_t (hc.mpr c3), cif_t c3, cif_t (by decide)]
        have ib := ix_int c3.1
        rw [ix60 f1.1 f1.2 c3.1 (by omega), ec (ix b) (by omega)]
        exact ⟨rfl, h⟩
      · rw [cif_f (fun y => c3 (hc.mp y)), cif_f c3, cif_f (by decide)]; exact ⟨rfl, h⟩
    · rw [cif_f l, cif_f l, cif_f (by decide)]; exact ⟨rfl, h⟩
theorem hasCells_e {a : Nat} {x y : Int32} {e : Dt} (h0 : 0 ≤ (e.1 6 a 3).toInt) (h6 : (e.1 6 a 3).toInt ≤ 60) : sp_X2_hasCells e a x y ↔ 0 ≤ x.toInt ∧ 0 ≤ y.toInt ∧ x.toInt + y.toInt ≤ (e.1 6 a 3).toInt := by
  unfold sp_X2_hasCells
  by_cases c : sp_X4_isWithin x 0 (e.1 6 a 3)
  · rw [cif_t c]
    have f := iw_iff.mp c
    rw [Int32.toInt_zero] at f
    have e1 : ((e.1 6 a 3) - x).toInt = (e.1 6 a 3).toInt - x.toInt := ti_sub (by omega) (by omega)
    by_cases c2 : sp_X4_isWithin y 0 ((e.1 6 a 3) - x)
    · rw [cif_t c2]
      have f2 := iw_iff.mp c2
      rw [Int32.toInt_zero, e1] at f2
      exact ⟨fun _ => ⟨f.1, f2.1, by omega⟩, fun _ => trivial⟩
    · rw [cif_f c2]
      refine ⟨fun z => z.elim, fun z => c2 (iw_iff.mpr ?_)⟩
      rw [Int32.toInt_zero, e1]; omega
  · rw [cif_f c]
    refine ⟨fun z => z.elim, fun z => c (iw_iff.mpr ?_)⟩
    rw [Int32.toInt_zero]; omega
theorem isBeyond_e {x y n : Int32} : sp_X5_isBeyond x y n ↔ ¬ (0 ≤ x.toInt ∧ 0 ≤ y.toInt ∧ x.toInt + y.toInt ≤ n.toInt) := by
  unfold sp_X5_isBeyond
  have hx := x.toInt_lt
  have hy := y.toInt_lt
  have hx' := x.le_toInt
  have hy' := y.le_toInt
  have e : (x.toInt64 + y.toInt64).toInt = x.toInt + y.toInt := by rw [tl_add (by rw [t64, t64]; omega) (by rw [t64, t64]; omega), t64, t64]
  rw [e, t64]
  by_cases c1 : x.toInt < 0
  · rw [cif_t c1]; exact ⟨fun _ => by omega, fun _ => trivial⟩
  · rw [cif_f c1]
    by_cases c2 : y.toInt < 0
    · rw [cif_t c2]; exact ⟨fun _ => by omega, fun _ => trivial⟩
    · rw [cif_f c2]
      by_cases c3 : x.toInt + y.toInt ≤ n.toInt
      · rw [cif_t c3]; exact ⟨fun z => z.elim, fun z => z ⟨by omega, by omega, c3⟩⟩
      · rw [cif_f c3]; exact ⟨fun _ => by omega, fun _ => trivial⟩
theorem ix60' {l i m : Int32} (h0 : 0 ≤ l.toInt) (h4 : l.toInt < 4) (i0 : 0 ≤ i.toInt) (i6 : i.toInt ≤ 60) (m0 : 0 ≤ m.toInt) (m6 : m.toInt ≤ 60) : ix (((60 * l) + i) + m) = 60 * ix l + ix i + ix m := by
  have e := (lin (a := 60) (z := 60) (x := l) (y := i) rfl ⟨by decide, by decide⟩ ⟨h0, by omega⟩ ⟨i0, by omega⟩).1
  have i1 := ix_int h0
  have i2 := ix_int i0
  have i3 := ix_int m0
  exact ix_of (by rw [ti_add (by rw [e]; omega) (by rw [e]; omega), e]; omega)
theorem cp142 (b : Dt) (k p : Int32) {o j n5 : Int32} (o0 : 0 ≤ o.toInt) (o4 : o.toInt < 4) (j0 : 0 ≤ j.toInt) (j6 : j.toInt ≤ 60) (n0 : 0 ≤ n5.toInt) (n60 : n5.toInt ≤ 60) (g H : Nat → Int32) : ∀ (n : Nat) (x : Int32) (e : Dt), 0 ≤ x.toInt → x.toInt ≤ n5.toInt → n5.toInt - x.toInt < (n : Int) → (∀ u : Nat, (u : Int) < n5.toInt → e.1 31 0 u = H u) → (∀ q : Nat, e.1 30 0 q = if 60 * ix o + ix j ≤ q ∧ q < 60 * ix o + ix j + ix x then H (q - (60 * ix o + ix j)) else g q) → (lp_X5_copy_142 b k p o j n5 n x e).1 = n5 ∧ (∀ q : Nat, (lp_X5_copy_142 b k p o j n5 n x e).2.1 30 0 q = if 60 * ix o + ix j ≤ q ∧ q < 60 * ix o + ix j + ix n5 then H (q - (60 * ix o + ix j)) else g q) ∧ (∀ u, u ≠ 30 → u ≠ 0 → (lp_X5_copy_142 b k p o j n5 n x e).2.1 u = e.1 u) ∧ (∀ f, f ≠ 0 → (lp_X5_copy_142 b k p o j n5 n x e).2.1 0 0 f = e.1 0 0 f) ∧ (lp_X5_copy_142 b k p o j n5 n x e).2.1 0 0 0 = 0 ∧ (lp_X5_copy_142 b k p o j n5 n x e).2.2 = e.2 := by
  intro n
  induction n with
  | zero => intro x e h0 h1 h2; omega
  | succ n ih =>
    intro x e h0 h1 h2 hh hq
    have hE : lp_X5_copy_142 b k p o j n5 (n + 1) x e = cif (n5.toInt ≤ x.toInt) ((sp_X5_refused e n5).1, (sp_X5_refused e n5).2) (lp_X5_copy_142 b k p o j n5 n (x + 1) (uv e 30 0 (ix (((60 * o) + j) + x)) (e.1 31 0 (ix x)))) := by
      show st_X5_copy_142 b k p o j n5 (lp_X5_copy_142 b k p o j n5 n) x e = _
      rfl
    rw [hE]
    have ei := ix_int h0
    have en := ix_int n0
    by_cases c : n5.toInt ≤ x.toInt
    · rw [cif_t c]
      have exn : ix n5 = ix x := by omega
      exact ⟨rfl, fun q => by rw [exn]; exact hq q, fun u _ hu => uv_kk hu, fun f hf => uv_at hf, uv_eq, rfl⟩
    · rw [cif_f c]
      have e1 := ti1 (x := x) (by omega)
      have ei1 := ix_int (x := x + 1) (by omega)
      have ej := ix60' o0 o4 j0 j6 h0 (by omega)
      rw [ej, hh (ix x) (by omega)]
      obtain ⟨r1, r2, r3, r4, r5, r6⟩ := ih (x + 1) (uv e 30 0 (60 * ix o + ix j + ix x) (H (ix x))) (by omega) (by omega) (by omega) (fun u hu => hh u hu) (fun q => by
        by_cases z : q = 60 * ix o + ix j + ix x
        · rw [z, uv_eq, if_pos (by omega)]
          congr 1; omega
        · rw [uv_at z, hq q]
          by_cases y : 60 * ix o + ix j ≤ q ∧ q < 60 * ix o + ix j + ix x
          · rw [if_pos y, if_pos (by omega)]
          · rw [if_neg y, if_neg (by omega)])
      exact ⟨r1, r2, fun u h30 hu => by rw [r3 u h30 hu, uv_kk h30], fun f hf => by rw [r4 f hf]; rfl, r5, r6⟩
theorem cp105 (b : Dt) {k i o j n5 : Int32} (k0 : 0 ≤ k.toInt) (k4 : k.toInt < 4) (i0 : 0 ≤ i.toInt) (i6 : i.toInt ≤ 60) (o0 : 0 ≤ o.toInt) (o4 : o.toInt < 4) (j0 : 0 ≤ j.toInt) (j6 : j.toInt ≤ 60) (n0 : 0 ≤ n5.toInt) (n60 : n5.toInt ≤ 60) (g : Nat → Int32) : ∀ (n : Nat) (x : Int32) (e : Dt), 0 ≤ x.toInt → x.toInt ≤ n5.toInt → n5.toInt - x.toInt < (n : Int) → e.1 30 0 = g → (∀ u : Nat, (u : Int) < x.toInt → e.1 31 0 u = g (60 * ix k + ix i + u)) → (lp_X5_copy_105 b k i o j n5 n x e).1 = n5 ∧ (∀ q : Nat, (lp_X5_copy_105 b k i o j n5 n x e).2.1 30 0 q = if 60 * ix o + ix j ≤ q ∧ q < 60 * ix o + ix j + ix n5 then g (60 * ix k + ix i + (q - (60 * ix o + ix j))) else g q) ∧ (∀ u, u ≠ 30 → u ≠ 31 → u ≠ 0 → (lp_X5_copy_105 b k i o j n5 n x e).2.1 u = e.1 u) ∧ (∀ f, f ≠ 0 → (lp_X5_copy_105 b k i o j n5 n x e).2.1 0 0 f = e.1 0 0 f) ∧ (lp_X5_copy_105 b k i o j n5 n x e).2.1 0 0 0 = 0 ∧ (lp_X5_copy_105 b k i o j n5 n x e).2.2 = e.2 := by
  intro n
  induction n with
  | zero => intro x e h0 h1 h2; omega
  | succ n ih =>
    intro x e h0 h1 h2 hg hh
    have hE : lp_X5_copy_105 b k i o j n5 (n + 1) x e = cif (n5.toInt ≤ x.toInt) (lp_X5_copy_142 b k i o j n5 64 0 e) (lp_X5_copy_105 b k i o j n5 n (x + 1) (uv e 31 0 (ix x) (e.1 30 0 (ix (((60 * k) + i) + x))))) := by
      show st_X5_copy_105 b k i o j n5 (lp_X5_copy_105 b k i o j n5 n) x e = _
      rfl
    rw [hE]
    have ei := ix_int h0
    have en := ix_int n0
    by_cases c : n5.toInt ≤ x.toInt
    · rw [cif_t c]
      obtain ⟨r1, r2, r3, r4, r5, r6⟩ := cp142 b k i o0 o4 j0 j6 n0 n60 g (fun u => g (60 * ix k + ix i + u)) 64 0 e (by decide) (by rw [Int32.toInt_zero]; exact n0) (by rw [Int32.toInt_zero]; omega) (fun u hu => hh u (by omega)) (fun q => by
        have z0 : ix 0 = 0 := ix_of (by rw [Int32.toInt_zero]; rfl)
        rw [if_neg (by rw [z0]; omega), hg])
      exact ⟨r1, r2, fun u h30 _ hu => r3 u h30 hu, r4, r5, r6⟩
    · rw [cif_f c]
      have e1 := ti1 (x := x) (by omega)
      have ej := ix60' k0 k4 i0 i6 h0 (by omega)
      rw [ej]
      obtain ⟨r1, r2, r3, r4, r5, r6⟩ := ih (x + 1) (uv e 31 0 (ix x) (e.1 30 0 (60 * ix k + ix i + ix x))) (by omega) (by omega) (by omega) hg (fun u hu => by
        by_cases z : u = ix x
        · rw [z, uv_eq, hg]
        · rw [uv_at z]; exact hh u (by omega))
      exact ⟨r1, r2, fun u h30 h31 hu => by rw [r3 u h30 h31 hu, uv_kk h31], fun f hf => by rw [r4 f hf]; rfl, r5, r6⟩
theorem r1_X4_copy (h : R1 d τ) (iM : MI τ) (a b c e f : Int32) : J1 (sp_X4_copy d a b c e f) (sp_X5_copy τ a b c e f) := by
  unfold sp_X4_copy sp_X5_copy
  refine J1.n (noSheet_e a) (fun c1 => ?_) (fun _ => ⟨rfl, h⟩)
  refine J1.n (noSheet_e c) (fun c2 => ?_) (fun _ => ⟨rfl, h⟩)
  have f1 := is_of c1
  have ik := ix_int f1.1
  have f2 := is_of c2
  have io := ix_int f2.1
  obtain ⟨k4, gk⟩ := h.sh c1
  obtain ⟨o4, go⟩ := h.sh c2
  refine J1.i gk.1 (fun _ => ⟨rfl, h⟩) (fun q1 => ?_)
  refine J1.ni (by rw [go.1]; omega) (fun _ => ⟨rfl, h⟩) (fun q2 => ?_)
  have z1 : 0 ≤ (τ.1 28 0 (ix a)).toInt := by
    have := Int.not_lt.mp (fun z => q1 (gk.1.mpr z))
    omega
  have z2 : 0 ≤ (τ.1 28 0 (ix c)).toInt := by
    have := Int.not_lt.mp (fun z => q2 (go.1.mpr z))
    omega
  obtain ⟨a3, a2, ac⟩ := gk.2 z1
  obtain ⟨b3, b2, bc⟩ := go.2 z2
  have h61 := iM.s28 (ix a) k4
  have h62 := iM.s28 (ix c) o4
  refine J1.c (by rw [a2, b2]) (fun _ => ?_) (fun _ => ⟨rfl, h⟩)
  have hc1 : sp_X2_hasCells (uv d 0 0 8 0) (ix a) b f ↔ 0 ≤ b.toInt ∧ 0 ≤ f.toInt ∧ b.toInt + f.toInt ≤ (τ.1 28 0 (ix a)).toInt := by
    have e3 : (uv d 0 0 8 0).1 6 (ix a) 3 = τ.1 28 0 (ix a) := a3
    rw [hasCells_e (by rw [e3]; exact z1) (by rw [e3]; exact h61), e3]
  have hc2 : sp_X2_hasCells (uv d 0 0 8 0) (ix c) e f ↔ 0 ≤ e.toInt ∧ 0 ≤ f.toInt ∧ e.toInt + f.toInt ≤ (τ.1 28 0 (ix c)).toInt := by
    have e3 : (uv d 0 0 8 0).1 6 (ix c) 3 = τ.1 28 0 (ix c) := b3
    rw [hasCells_e (by rw [e3]; exact z2) (by rw [e3]; exact h62), e3]
  refine J1.ni (by rw [isBeyond_e, hc1]) (fun y1 => ?_) (fun _ => ⟨rfl, h⟩)
  refine J1.ni (by rw [isBeyond_e, hc2]) (fun y2 => ?_) (fun _ => ⟨rfl, h⟩)
  have y1 := hc1.mp y1
  have y2 := hc2.mp y2
  obtain ⟨r1, r2, r3, r4, r5, r6⟩ := cp105 τ f1.1 f1.2 y1.1 (by omega) f2.1 f2.2 y2.1 (by omega) y1.2.1 (by omega) (τ.1 30 0) 64 0 τ (by decide) (by rw [Int32.toInt_zero]; exact y1.2.1) (by rw [Int32.toInt_zero]; omega) rfl (fun u hu => by rw [Int32.toInt_zero] at hu; omega)
  refine ⟨r1.symm, ?_⟩
  generalize lp_X5_copy_105 τ a b c e f 64 0 τ = rr at r1 r2 r3 r4 r5 r6
  have ib := ix_int y1.1
  have ie := ix_int y2.1
  have jf := ix_int y1.2.1
  obtain ⟨g1, g2, g3, g4, g5⟩ := h
  show rr.2.1 0 0 1 = d.1 0 0 1 ∧ rr.2.1 0 0 26 = d.1 0 0 5 ∧ rMt (d.1 0 0 1) (d.1 8) (d.1 9) (rr.2.1 2) (rr.2.1 3) (rr.2.1 7) (rr.2.1 27) ∧ rPf (d.1 2) (rr.2.1 0 0 12) (rr.2.1 0 0 13) (rr.2.1 0 0 14) (rr.2.1 0 0 15) d.2 rr.2.2 ∧ rSh (d.1 6) ((uf (uv d 0 0 8 0) 7 (ix c) (va_cpy (d.1 7 (ix a)) (d.1 7 (ix c)) (ix b) (ix e) (ix f))).1 7) (rr.2.1 28) (rr.2.1 29) (rr.2.1 30)
  rw [r4 1 (by decide), r4 26 (by decide), r4 12 (by decide), r4 13 (by decide), r4 14 (by decide), r4 15 (by decide), r3 2 (by decide) (by decide) (by decide), r3 3 (by decide) (by decide) (by decide), r3 7 (by decide) (by decide) (by decide), r3 27 (by decide) (by decide) (by decide), r3 28 (by decide) (by decide) (by decide), r3 29 (by decide) (by decide) (by decide), r6]
  refine ⟨g1, g2, g3, g4, fun k hk => ?_⟩
  have gk' := g5 k hk
  have h6 := iM.s28 k hk
  refine ⟨gk'.1, fun z => ⟨(gk'.2 z).1, (gk'.2 z).2.1, fun j hj => ?_⟩⟩
  have hg := (gk'.2 z).2.2 j hj
  rw [r2]
  by_cases q : k = ix c
  · subst q
    rw [uf_row]
    show (if ix e ≤ j ∧ j < ix e + ix f then d.1 7 (ix a) (ix b + (j - ix e)) else d.1 7 (ix c) j) = _
    by_cases w : ix e ≤ j ∧ j < ix e + ix f
    · rw [if_pos w, if_pos (by omega), ac (ix b + (j - ix e)) (by omega)]
      exact congrArg (τ.1 30 0) (by omega)
    · rw [if_neg w, if_neg (by omega)]; exact hg
  · rw [uf_off _ _ _ _ _ _ (fun w => q w.2), if_neg (by omega)]; exact hg
theorem par2 {s : Int32} (h : 0 ≤ s.toInt) : (s - s / 2 * 2).toInt = s.toInt % 2 := by
  have h1 := s.toInt_lt
  have e2 : (2 : Int32).toInt = 2 := rfl
  have ed : (s / 2).toInt = s.toInt / 2 := by
    rw [Int32.toInt_div, e2, Int.tdiv_eq_ediv_of_nonneg h]
    exact bm32 (by omega) (by omega)
  have em : (s / 2 * 2).toInt = s.toInt / 2 * 2 := by rw [ti_mul (by rw [ed, e2]; omega) (by rw [ed, e2]; omega), ed, e2]
  rw [ti_sub (by rw [em]; omega) (by rw [em]; omega), em]; omega
theorem watch_l (h : R1 d τ) {k i m w lane : Int32} (c : sp_X4_isSheet k) (i0 : 0 ≤ i.toInt) (m0 : 0 ≤ m.toInt) (z : 0 ≤ (τ.1 28 0 (ix k)).toInt) (hm : i.toInt + m.toInt ≤ (τ.1 28 0 (ix k)).toInt) (h60 : (τ.1 28 0 (ix k)).toInt ≤ 60) : ∀ (n : Nat) (x a s f u l p : Int32), i.toInt ≤ x.toInt → x.toInt ≤ i.toInt + m.toInt → i.toInt + m.toInt - x.toInt < (n : Int) → 0 ≤ s.toInt → s.toInt ≤ x.toInt → (f = 1 ∧ s.toInt % 2 = 0 ∨ f = 0 ∧ s.toInt % 2 = 1) → lp_X5_watch_135 τ k lane i m w n x f a u l p = (lp_X2_watched_18 (uv d 0 0 8 0) (ix k) i m w n x a s u l p, uv τ 0 0 0 0) := by
  have f1 := is_of c
  have ik := ix_int f1.1
  obtain ⟨k4, gk⟩ := h.sh c
  obtain ⟨e3, e2, ec⟩ := gk.2 z
  have es : (i + m).toInt = i.toInt + m.toInt := ti_add (by omega) (by omega)
  intro n
  induction n with
  | zero => intro x a s f u l p h1 h2 h3; omega
  | succ n ih =>
    intro x a s f u l p h1 h2 h3 h4 h5 h6
    show st_X5_watch_135 τ k lane i m w (lp_X5_watch_135 τ k lane i m w n) x f a u l p = (st_X2_watched_18 (uv d 0 0 8 0) (ix k) i m w (lp_X2_watched_18 (uv d 0 0 8 0) (ix k) i m w n) x a s u l p, uv τ 0 0 0 0)
    unfold st_X5_watch_135 st_X2_watched_18
    rw [es]
    by_cases c1 : i.toInt + m.toInt ≤ x.toInt
    · rw [cif_t c1, cif_t c1]
      by_cases w0 : w.toInt = 0
      · rw [cif_t w0, cif_t w0]; rfl
      · rw [cif_f w0, cif_f w0]
        by_cases w1 : w.toInt = 1
        · rw [cif_t w1, cif_t w1]; rfl
        · rw [cif_f w1, cif_f w1]
          by_cases w2 : w.toInt = 2
          · rw [cif_t w2, cif_t w2]; rfl
          · rw [cif_f w2, cif_f w2]; rfl
    · rw [cif_f c1, cif_f c1]
      have ei := ix_int (x := x) (by omega)
      have ej := ix60 f1.1 f1.2 (m := x) (by omega) (by omega)
      have er : (uv d 0 0 8 0).1 7 (ix k) (ix x) = τ.1 30 0 (60 * ix k + ix x) := ec (ix x) (by omega)
      rw [ej, er]
      generalize τ.1 30 0 (60 * ix k + ix x) = r
      have e1 := ti1 (x := x) (by omega)
      have e4 := ti1 (x := s) (by omega)
      have ep := par2 (s := s + 1) (by omega)
      have z0 : (0 : Int32).toInt = 0 := rfl
      have z1 : (1 : Int32).toInt = 1 := rfl
      have A : (cif (r.toInt = a.toInt) (cif (f.toInt = 0) (lp_X5_watch_135 τ k lane i m w n (x + 1) 1 r (u + 1) (l + 0) (p + 1)) (lp_X5_watch_135 τ k lane i m w n (x + 1) 0 r (u + 0) (l + 1) (p + 1))) (lp_X5_watch_135 τ k lane i m w n (x + 1) 1 r (u + 0) (l + 0) (p + 1))) = ((cif (r.toInt = a.toInt) (cif (((s + 1) - (s + 1) / 2 * 2).toInt = 1) (lp_X2_watched_18 (uv d 0 0 8 0) (ix k) i m w n (x + 1) r (s + 1) u (l + 1) (p + 1)) (cif ((s + 1).toInt ≤ 0) (lp_X2_watched_18 (uv d 0 0 8 0) (ix k) i m w n (x + 1) r (s + 1) u l (p + 1)) (lp_X2_watched_18 (uv d 0 0 8 0) (ix k) i m w n (x + 1) r (s + 1) (u + 1) l (p + 1)))) (lp_X2_watched_18 (uv d 0 0 8 0) (ix k) i m w n (x + 1) r 0 u l (p + 1))), uv τ 0 0 0 0) := by
        rw [Int32.add_zero, Int32.add_zero]
        by_cases c2 : r.toInt = a.toInt
        · rw [cif_t c2, cif_t c2, ep]
          rcases h6 with ⟨rfl, h6⟩ | ⟨rfl, h6⟩
          · rw [cif_f (by decide), cif_t (by omega)]
            exact ih _ _ _ _ _ _ _ (by omega) (by omega) (by omega) (by omega) (by omega) (Or.inr ⟨rfl, by omega⟩)
          · rw [cif_t (by decide), cif_f (by omega), cif_f (by omega)]
            exact ih _ _ _ _ _ _ _ (by omega) (by omega) (by omega) (by omega) (by omega) (Or.inl ⟨rfl, by omega⟩)
        · rw [cif_f c2, cif_f c2]
          exact ih _ _ _ _ _ _ _ (by omega) (by omega) (by omega) (by omega) (by omega) (Or.inl ⟨rfl, by omega⟩)
      by_cases r1 : r.toInt = 1
      · rw [cif_t r1, cif_t r1]; exact A
      · rw [cif_f r1, cif_f r1]
        by_cases r2 : r.toInt = 2
        · rw [cif_t r2, cif_t r2]; exact A
        · rw [cif_f r2, cif_f r2]
          exact ih _ _ _ _ _ _ _ (by omega) (by omega) (by omega) (by omega) (by omega) h6
theorem r1_X4_watch (h : R1 d τ) (iM : MI τ) (a b c e f : Int32) : J1 (sp_X4_watch d a b c e f) (sp_X5_watch τ a b c e f) := by
  unfold sp_X4_watch sp_X5_watch
  refine J1.n (noSheet_e a) (fun c1 => ?_) (fun _ => ⟨rfl, h⟩)
  refine J1.c (lane_e b).symm (fun c2 => ?_) (fun _ => ⟨rfl, h⟩)
  refine J1.c (in_iw (p := f) (lo := 0) (hi := 3) rfl rfl).symm (fun c3 => ?_) (fun _ => ⟨rfl, h⟩)
  have f1 := is_of c1
  obtain ⟨k4, gk⟩ := h.sh c1
  by_cases q : (d.1 6 (ix a) 1).toInt = 0
  · have z := gk.1.mp q
    have ef : sp_X2_faultAs (uv d 0 0 8 0) (ix a) b = 1 := cif_t q
    rw [ef, cif_f (by decide), cif_t z]; exact ⟨rfl, h⟩
  · have z : 0 ≤ (τ.1 28 0 (ix a)).toInt := by
      have := Int.not_lt.mp (fun z => q (gk.1.mpr z))
      omega
    have h6 := iM.s28 (ix a) k4
    obtain ⟨e3, e2, ec⟩ := gk.2 z
    rw [cif_f (show ¬ (τ.1 28 0 (ix a)).toInt < 0 by omega)]
    have ef : sp_X2_faultAs (uv d 0 0 8 0) (ix a) b = cif ((τ.1 29 0 (ix a)).toInt = b.toInt) 0 2 := by
      show cif ((d.1 6 (ix a) 1).toInt = 0) 1 (cif ((d.1 6 (ix a) 2).toInt = b.toInt) 0 2) = _
      rw [cif_f q, e2]
    rw [ef]
    by_cases l : (τ.1 29 0 (ix a)).toInt = b.toInt
    · rw [cif_t l, cif_t l, cif_t (by decide)]
      refine J1.c rfl (fun c4 => ?_) (fun _ => ⟨rfl, h⟩)
      have hc : sp_X2_hasCells (uv d 0 0 8 0) (ix a) c e ↔ 0 ≤ c.toInt ∧ 0 ≤ e.toInt ∧ c.toInt + e.toInt ≤ (τ.1 28 0 (ix a)).toInt := by
        have e3 : (uv d 0 0 8 0).1 6 (ix a) 3 = τ.1 28 0 (ix a) := e3
        rw [hasCells_e (by rw [e3]; exact z) (by rw [e3]; exact h6), e3]
      refine J1.ni (by rw [isBeyond_e, hc]) (fun y => ?_) (fun _ => ⟨rfl, h⟩)
      have y := hc.mp y
      rw [watch_l h c1 y.1 y.2.1 z y.2.2 h6 64 c 0 0 1 0 0 0 (Int.le_refl _) (by omega) (by omega) (by decide) (by rw [Int32.toInt_zero]; exact y.1) (Or.inl ⟨rfl, by decide⟩)]
      exact ⟨rfl, h⟩
    · rw [cif_f l, cif_f l, cif_f (by decide)]; exact ⟨rfl, h⟩
/-! ===== what else keeps the relation ===== -/
theorem tN_xe {e : Dt} (T : Nat) (x0 x1 x2 x3 x4 : Int32) : XE e (tN e T x0 x1 x2 x3 x4) := ⟨rfl, rfl, rfl, rfl, rfl, rfl, rfl, rfl⟩
theorem rep_xe {e : Dt} (p1 p2 p3 : Int32) : XE e (sp_X4_replace e p1 p2 p3) := ⟨rfl, rfl, rfl, rfl, rfl, rfl, rfl, rfl⟩
theorem rmk_xe {m f to : Int32} : ∀ (n a : Nat) (e : Dt), XE d e → XE d (rmk m f to n a e) := by
  intro n
  induction n with
  | zero => intro a e h; exact h
  | succ n ih =>
    intro a e h
    show XE d (rmk m f to n (a + 1) (cif (sp_X4_isToRemake e a m f to) (sp_X4_replace e (nI a) 2 (e.1 13 a 2)) e))
    exact ih _ _ (XE.cd (h.tr (rep_xe _ _ _)) h)
theorem add_xs (p1 p2 p3 p4 p5 p6 : Int32) : XS τ (sp_X5_add τ p1 p2 p3 p4 p5 p6).2 := by
  obtain ⟨b, eb⟩ : ∃ z, z = uv (uv (uv (uv (uv τ 18 0 (ix (τ.1 0 0 17)) p1) 19 0 (ix (τ.1 0 0 17)) p2) 20 0 (ix (τ.1 0 0 17)) p3) 21 0 (ix (τ.1 0 0 17)) p4) 22 0 (ix (τ.1 0 0 17)) p5 := ⟨_, rfl⟩
  have hb : XS τ b := by rw [eb]; exact XS.rf
  unfold sp_X5_add
  rw [← eb]
  have g := hb.tr (fa_cf (d := b) p2 p5 p3).xs
  generalize sp_X5_factorAt b p2 p5 p3 = F at g ⊢
  exact g
theorem scM_xs {m f to : Int32} : ∀ (n a : Nat) (e : Dt), XS τ e → XS τ (scM m f to n a e) := by
  intro n
  induction n with
  | zero => intro a e h; exact h
  | succ n ih => intro a e h; exact ih (a + 1) _ (h.tr (is_cf _ _ _ _).xs)
theorem rmM_xs {m f to : Int32} : ∀ (n a : Nat) (e : Dt), XS τ e → XS τ (rmM m f to n a e) := by
  intro n
  induction n with
  | zero => intro a e h; exact h
  | succ n ih =>
    intro a e h
    have g := h.tr (is_cf (nI a) m f to).xs
    refine ih (a + 1) _ (XS.cd ?_ g)
    generalize (sp_X5_isStale e (nI a) m f to).2 = e2 at g ⊢
    have g2 : XS τ (uv e2 24 0 (ix (nI a)) (e2.1 0 0 17)) := g
    exact g2.tr (add_xs _ _ _ _ _ _)
theorem r1_X4_ticket (h : R1 d τ) (p1 p2 p3 p4 : Int32) : R1 (sp_X4_ticket d p1 p2 p3 p4).2 (sp_X5_ticket τ p1 p2 p3 p4).2 := by
  refine (h.x (e := (sp_X4_ticket d p1 p2 p3 p4).2) ?_).s ?_
  · unfold sp_X4_ticket
    exact XE.cp (XE.cp (XE.cp (XE.cp (XE.cp XE.rf (XE.cp XE.rf XE.rf)) XE.rf) XE.rf) XE.rf) XE.rf
  · unfold sp_X5_ticket
    exact XS.cp XS.rf (XS.cp (XS.cp (XS.cp (XS.cp XS.rf (XS.cp XS.rf (add_xs _ _ _ _ _ _))) XS.rf) XS.rf) XS.rf)
theorem r1_X4_right (h : R1 d τ) (p1 p2 : Int32) : R1 (sp_X4_right d p1 p2).2 (sp_X5_right τ p1 p2).2 := by
  refine (h.x (e := (sp_X4_right d p1 p2).2) ?_).s ?_
  · unfold sp_X4_right
    exact XE.cp (XE.cp (XE.cp XE.rf (XE.cp XE.rf (XE.cp (rep_xe _ _ _) XE.rf))) XE.rf) XE.rf
  · unfold sp_X5_right
    have g : XS τ (uv τ 24 0 (ix p1) (τ.1 0 0 17)) := XS.rf
    exact XS.cp XS.rf (XS.cp (XS.cp XS.rf (XS.cp XS.rf (XS.cp XS.rf (g.tr (add_xs _ _ _ _ _ _))))) XS.rf)
theorem r1_X4_remake (h : R1 d τ) (p1 p2 p3 : Int32) : R1 (sp_X4_remake d p1 p2 p3).2 (sp_X5_remake τ p1 p2 p3).2 := by
  refine (h.x (e := (sp_X4_remake d p1 p2 p3).2) ?_).s ?_
  · unfold sp_X4_remake
    exact XE.cp (XE.cp (XE.cp XE.rf (XE.cp (rmk_xe _ _ _ XE.rf) XE.rf)) XE.rf) XE.rf
  · unfold sp_X5_remake
    exact XS.cp XS.rf (XS.cp (XS.cp XS.rf (XS.cp (rmM_xs _ _ _ (scM_xs _ _ _ XS.rf)) (scM_xs _ _ _ XS.rf))) XS.rf)
theorem s1_at (h : R1 d τ) (p1 p2 p3 : Int32) : R1 d (sp_X5_at τ p1 p2 p3).2 := by
  refine h.s ?_
  unfold sp_X5_at
  exact XS.cp XS.rf (XS.cp (XS.cp (fa_cf _ _ _).xs XS.rf) XS.rf)
theorem s1_points (h : R1 d τ) (p1 p2 : Int32) : R1 d (sp_X5_points τ p1 p2).2 := by
  refine h.s ?_
  unfold sp_X5_points
  exact XS.cp XS.rf (XS.cp (fc_cf _ _).xs XS.rf)
theorem s1_point (h : R1 d τ) (p1 p2 p3 p4 : Int32) : R1 d (sp_X5_point τ p1 p2 p3 p4).2 := by
  refine h.s ?_
  unfold sp_X5_point
  have g := (fc_cf (d := τ) p1 p2).xs
  exact XS.cp XS.rf (XS.cp (XS.cp (XS.cp g (XS.cp g g)) g) XS.rf)
theorem r1_X4_tell (h : R1 d τ) (p1 : Int32) : R1 (sp_X4_tell d p1).2 (sp_X5_tell τ p1).2 := by
  refine (h.x (e := (sp_X4_tell d p1).2) ?_).s ?_
  · unfold sp_X4_tell sp_X4_tellTicket sp_X4_leave
    exact XE.cp (XE.cp XE.rf (XE.cp XE.rf XE.rf)) XE.rf
  · unfold sp_X5_tell sp_X5_traced
    exact XS.cp XS.rf (XS.cp (XS.cp XS.rf (XS.cp XS.rf XS.rf)) (XS.cp (XS.cp XS.rf (XS.cp XS.rf XS.rf)) (XS.cp XS.rf (XS.cp XS.rf XS.rf))))
theorem r1_X4_worth (h : R1 d τ) (p1 : Int32) : R1 (sp_X4_worth d p1).2 (sp_X5_worth τ p1).2 := by
  refine (h.x (e := (sp_X4_worth d p1).2) ?_).s ?_
  · unfold sp_X4_worth sp_X4_leave
    exact XE.cp (XE.cp XE.rf XE.rf) XE.rf
  · unfold sp_X5_worth sp_X5_traced
    exact XS.cp XS.rf (XS.cp (XS.cp XS.rf (XS.cp XS.rf XS.rf)) (XS.cp XS.rf (XS.cp XS.rf XS.rf)))
theorem r1_X4_as (h : R1 d τ) (p1 p2 : Int32) : R1 (sp_X4_as d p1 p2).2 (sp_X5_as τ p1 p2).2 := by
  refine (h.x (e := (sp_X4_as d p1 p2).2) ?_).s ?_
  · unfold sp_X4_as
    exact XE.cp (XE.cp (XE.cp XE.rf XE.rf) XE.rf) XE.rf
  · unfold sp_X5_as
    exact XS.cp XS.rf (XS.cp (XS.cp XS.rf XS.rf) XS.rf)
end R2S
