/-! ===== the reference's curve: what it tells depends on the FACTORS' rows alone ===== -/
def QR (e f : Dt) : Prop := f.1 3 = e.1 3 ∧ f.1 4 = e.1 4 ∧ f.1 5 = e.1 5 ∧ f.1 6 = e.1 6
def QA (e f : Dt) (j : Nat) : Prop := f.1 9 0 j = e.1 9 0 j ∧ f.1 10 0 j = e.1 10 0 j ∧ f.1 11 0 j = e.1 11 0 j
/-- the curves agree as far as they reach -/
def QC (e f : Dt) : Prop := QR e f ∧ f.1 0 0 8 = e.1 0 0 8 ∧ ∀ j : Nat, (j : Int) < (e.1 0 0 8).toInt → QA e f j
theorem QA.w {e f : Dt} {j i : Nat} {x y z : Int32} (h : j ≠ i → QA e f j) : QA (uv (uv (uv e 9 0 i x) 10 0 i y) 11 0 i z) (uv (uv (uv f 9 0 i x) 10 0 i y) 11 0 i z) j := by
  by_cases q : j = i
  · subst q
    refine ⟨?_, ?_, ?_⟩
    · show (uv f 9 0 j x).1 9 0 j = (uv e 9 0 j x).1 9 0 j
      rw [uv_eq, uv_eq]
    · show (uv (uv f 9 0 j x) 10 0 j y).1 10 0 j = (uv (uv e 9 0 j x) 10 0 j y).1 10 0 j
      rw [uv_eq, uv_eq]
    · show (uv (uv (uv f 9 0 j x) 10 0 j y) 11 0 j z).1 11 0 j = (uv (uv (uv e 9 0 j x) 10 0 j y) 11 0 j z).1 11 0 j
      rw [uv_eq, uv_eq]
  · obtain ⟨h1, h2, h3⟩ := h q
    refine ⟨?_, ?_, ?_⟩
    · show (uv f 9 0 i x).1 9 0 j = (uv e 9 0 i x).1 9 0 j
      rw [uv_at q, uv_at q, h1]
    · show (uv (uv f 9 0 i x) 10 0 i y).1 10 0 j = (uv (uv e 9 0 i x) 10 0 i y).1 10 0 j
      rw [uv_at q, uv_at q]; exact h2
    · show (uv (uv (uv f 9 0 i x) 10 0 i y) 11 0 i z).1 11 0 j = (uv (uv (uv e 9 0 i x) 10 0 i y) 11 0 i z).1 11 0 j
      rw [uv_at q, uv_at q]; exact h3
theorem q86 (d d' : Dt) (x x2 : Int32) (h2 : 0 ≤ x2.toInt) : ∀ (n : Nat) (y : Int32) (e f : Dt), QR e f → f.1 0 0 8 = e.1 0 0 8 → 0 ≤ (e.1 0 0 8).toInt → (e.1 0 0 8).toInt ≤ 12 → x2.toInt ≤ y.toInt → y.toInt ≤ (e.1 0 0 8).toInt → (∀ j : Nat, ((j : Int) < (e.1 0 0 8).toInt ∨ (y.toInt < (j : Int) ∧ (j : Int) ≤ (e.1 0 0 8).toInt)) → QA e f j) → QC (lp_X5_addPoint_86 d x x2 n y e) (lp_X5_addPoint_86 d' x x2 n y f) := by
  intro n
  induction n with
  | zero => intro y e f hr h8 _ _ _ _ ha; exact ⟨hr, h8, fun j hj => ha j (Or.inl hj)⟩
  | succ n ih =>
    intro y e f hr h8 s0 s1 hxy hys ha
    show QC (st_X5_addPoint_86 d x x2 (lp_X5_addPoint_86 d x x2 n) y e) (st_X5_addPoint_86 d' x x2 (lp_X5_addPoint_86 d' x x2 n) y f)
    unfold st_X5_addPoint_86
    by_cases c : y.toInt ≤ x2.toInt
    · rw [cif_t c, cif_t c]
      have e1 := ti1 (x := e.1 0 0 8) (by omega)
      have ix2 := ix_int h2
      rw [hr.2.1, hr.2.2.1, hr.2.2.2, h8]
      refine ⟨hr, rfl, fun j hj => ?_⟩
      have hj : (j : Int) < ((e.1 0 0 8) + 1).toInt := hj
      refine QA.w (e := e) (f := f) (fun q => ha j ?_)
      by_cases g : (j : Int) < (e.1 0 0 8).toInt
      · exact Or.inl g
      · exact Or.inr ⟨by omega, by omega⟩
    · rw [cif_f c, cif_f c]
      have e1 := tim1 (x := y) (by omega)
      have e2 := ts1 (x := y) (by omega)
      have iy := ix_int (x := y) (by omega)
      have iy1 := ix_int (x := y - 1) (by omega)
      have hq := ha (ix (y - 1)) (Or.inl (by omega))
      rw [show f.1 9 0 (ix (y - 1)) = e.1 9 0 (ix (y - 1)) from hq.1, show f.1 10 0 (ix (y - 1)) = e.1 10 0 (ix (y - 1)) from hq.2.1, show f.1 11 0 (ix (y - 1)) = e.1 11 0 (ix (y - 1)) from hq.2.2]
      refine ih _ _ _ hr h8 s0 s1 (by omega) (by show (y + -1).toInt ≤ (e.1 0 0 8).toInt; omega) (fun j hj => ?_)
      have hj : (j : Int) < (e.1 0 0 8).toInt ∨ ((y + -1).toInt < (j : Int) ∧ (j : Int) ≤ (e.1 0 0 8).toInt) := hj
      refine QA.w (e := e) (f := f) (fun q => ha j ?_)
      rcases hj with g | g
      · exact Or.inl g
      · exact Or.inr ⟨by omega, g.2⟩
theorem q2 (e f : Dt) (x : Int32) (h : QC e f) (s0 : 0 ≤ (e.1 0 0 8).toInt) (s1 : (e.1 0 0 8).toInt ≤ 11) : ∀ (n : Nat) (y : Int32), 0 ≤ y.toInt → y.toInt ≤ (e.1 0 0 8).toInt → QC (lp_X5_addPoint_2 e x n y) (lp_X5_addPoint_2 f x n y) := by
  intro n
  induction n with
  | zero => intro y _ _; exact h
  | succ n ih =>
    intro y y0 y1
    obtain ⟨hr, h8, ha⟩ := h
    have l86 : QC (lp_X5_addPoint_86 e x y 16 (e.1 0 0 8) e) (lp_X5_addPoint_86 f x y 16 (e.1 0 0 8) f) := q86 e f x y y0 16 _ e f hr h8 s0 (by omega) y1 (Int.le_refl _) (fun j hj => ha j (by omega))
    show QC (st_X5_addPoint_2 e x (lp_X5_addPoint_2 e x n) y) (st_X5_addPoint_2 f x (lp_X5_addPoint_2 f x n) y)
    unfold st_X5_addPoint_2
    rw [h8]
    by_cases c1 : (e.1 0 0 8).toInt ≤ y.toInt
    · rw [cif_t c1, cif_t c1]; exact l86
    · rw [cif_f c1, cif_f c1]
      have iy := ix_int y0
      have hq := ha (ix y) (by omega)
      have e1 := ti1 (x := y) (by omega)
      rw [hq.1, hq.2.2, hr.2.1, hr.2.2.1, hr.2.2.2]
      by_cases c2 : (e.1 4 0 (ix x)).toInt ≤ (e.1 9 0 (ix y)).toInt
      · rw [cif_t c2, cif_t c2]
        by_cases c3 : (e.1 9 0 (ix y)).toInt = (e.1 4 0 (ix x)).toInt
        · rw [cif_t c3, cif_t c3]
          by_cases c4 : (e.1 11 0 (ix y)).toInt ≤ (e.1 5 0 (ix x)).toInt
          · rw [cif_t c4, cif_t c4]
            refine ⟨hr, ?_, fun j hj => QA.w (e := e) (f := f) (fun _ => ha j ?_)⟩
            · rw [uv_eq, uv_eq]
            · rw [uv_eq, Int32.add_zero] at hj; exact hj
          · rw [cif_f c4, cif_f c4]; exact ⟨hr, h8, ha⟩
        · rw [cif_f c3, cif_f c3]; exact l86
      · rw [cif_f c2, cif_f c2]; exact ih _ (by omega) (by omega)
theorem q_ap {e f : Dt} (x : Int32) (h : QC e f) (s0 : 0 ≤ (e.1 0 0 8).toInt) (s1 : (e.1 0 0 8).toInt ≤ 11) : QC (sp_X5_addPoint e x) (sp_X5_addPoint f x) := q2 e f x h s0 s1 16 0 (by decide) (by rw [Int32.toInt_zero]; exact s0)
theorem q10 (d d' : Dt) {x y : Int32} {c : Int} (hx : 0 ≤ x.toInt ∧ x.toInt < 6) (hc0 : 0 ≤ c) (hc : c ≤ 12) : ∀ (n : Nat) (z : Int32) (e f : Dt), QC e f → (e.1 3 0 (ix x)).toInt = c → 12 * x.toInt ≤ z.toInt → z.toInt ≤ 12 * x.toInt + c → 0 ≤ (e.1 0 0 8).toInt → (e.1 0 0 8).toInt ≤ z.toInt - 12 * x.toInt → QC (lp_X5_findCurve_10 d x y n z e) (lp_X5_findCurve_10 d' x y n z f) := by
  intro n
  induction n with
  | zero => intro z e f h _ _ _ _ _; exact h
  | succ n ih =>
    intro z e f h hce h1 h2 h3 h4
    have e12 : (12 : Int32).toInt = 12 := rfl
    have em : ((12 : Int32) * x).toInt = 12 * x.toInt := by rw [ti_mul (by rw [e12]; omega) (by rw [e12]; omega), e12]
    have es : ((12 * x) + (e.1 3 0 (ix x))).toInt = 12 * x.toInt + c := by rw [ti_add (by rw [em, hce]; omega) (by rw [em, hce]; omega), em, hce]
    show QC (st_X5_findCurve_10 d x y (lp_X5_findCurve_10 d x y n) z e) (st_X5_findCurve_10 d' x y (lp_X5_findCurve_10 d' x y n) z f)
    unfold st_X5_findCurve_10
    rw [h.1.1, h.1.2.2.1]
    by_cases c1 : ((12 * x) + (e.1 3 0 (ix x))).toInt ≤ z.toInt
    · rw [cif_t c1, cif_t c1]; exact h
    · rw [cif_f c1, cif_f c1]
      have ez := ti1 (x := z) (by omega)
      by_cases c2 : y.toInt < (e.1 5 0 (ix z)).toInt
      · rw [cif_t c2, cif_t c2]; exact ih _ _ _ h hce (by omega) (by omega) h3 (by omega)
      · rw [cif_f c2, cif_f c2]
        have gp := ap_pt (d := e) z h3 (by omega)
        have er : (sp_X5_addPoint e z).1 3 = e.1 3 := (ap_cf (d := e) z).1 3 (by decide) (by decide) (by decide) (by decide)
        exact ih _ _ _ (q_ap z h h3 (by omega)) (by rw [er]; exact hce) (by omega) (by omega) gp.1 (by omega)
theorem q_fc {e f : Dt} (h : QR e f) {x : Int32} (hx : 0 ≤ x.toInt ∧ x.toInt < 6) (hc : 0 ≤ (e.1 3 0 (ix x)).toInt ∧ (e.1 3 0 (ix x)).toInt ≤ 12) (y : Int32) : QC (sp_X5_findCurve e x y) (sp_X5_findCurve f x y) := by
  have e12 : (12 : Int32).toInt = 12 := rfl
  have em : ((12 : Int32) * x).toInt = 12 * x.toInt := by rw [ti_mul (by rw [e12]; omega) (by rw [e12]; omega), e12]
  refine q10 e f hx hc.1 hc.2 16 (12 * x) (uv e 0 0 8 0) (uv f 0 0 8 0) ⟨h, ?_, fun j hj => ?_⟩ rfl (by omega) (by omega) (by show 0 ≤ (0 : Int32).toInt; decide) (by rw [em]; show (0 : Int32).toInt ≤ _; rw [Int32.toInt_zero]; omega)
  · rw [uv_eq, uv_eq]
  · rw [uv_eq, Int32.toInt_zero] at hj; omega
theorem q19 {d d' : Dt} {x y z : Int32} {e f : Dt} (h : QC e f) (s0 : 1 ≤ (e.1 0 0 8).toInt) (s1 : (e.1 0 0 8).toInt ≤ 12) : ∀ (n : Nat) (w : Int32), 0 ≤ w.toInt → w.toInt ≤ (e.1 0 0 8).toInt → (e.1 0 0 8).toInt - w.toInt < (n : Int) → (lp_X5_factorAt_19 d' x y z f n w).1 = (lp_X5_factorAt_19 d x y z e n w).1 := by
  intro n
  induction n with
  | zero => intro w w0 w1 hn; omega
  | succ n ih =>
    intro w w0 w1 hn
    obtain ⟨hr, h8, ha⟩ := h
    have i8 := ts1 (x := e.1 0 0 8) (by omega)
    have j8 := ix_int (x := e.1 0 0 8 - 1) (by omega)
    have q8 := ha (ix (e.1 0 0 8 - 1)) (by omega)
    have iw := ix_int w0
    show (st_X5_factorAt_19 d' x y z f (lp_X5_factorAt_19 d' x y z f n) w).1 = (st_X5_factorAt_19 d x y z e (lp_X5_factorAt_19 d x y z e n) w).1
    unfold st_X5_factorAt_19
    rw [h8]
    by_cases c1 : (e.1 0 0 8).toInt ≤ w.toInt
    · rw [cif_t c1, cif_t c1]
      have c2 : w.toInt = (e.1 0 0 8).toInt := by omega
      rw [cif_t c2, cif_t c2]
      exact q8.2.1
    · rw [cif_f c1, cif_f c1]
      have qw := ha (ix w) (by omega)
      have e1 := ti1 (x := w) (by omega)
      rw [qw.1, qw.2.1]
      by_cases c3 : y.toInt ≤ (e.1 9 0 (ix w)).toInt
      · rw [cif_t c3, cif_t c3]
        have c4 : ¬ w.toInt = (e.1 0 0 8).toInt := by omega
        rw [cif_f c4, cif_f c4]
        by_cases c5 : w.toInt = 0
        · rw [cif_t c5, cif_t c5]
        · rw [cif_f c5, cif_f c5]
          have i9 := ts1 (x := w) (by omega)
          have j9 := ix_int (x := w - 1) (by omega)
          have q9 := ha (ix (w - 1)) (by omega)
          rw [q9.1, q9.2.1]
          by_cases c6 : (e.1 9 0 (ix w)).toInt = y.toInt
          · rw [cif_t c6, cif_t c6]
          · rw [cif_f c6, cif_f c6]
      · rw [cif_f c3, cif_f c3]
        exact ih _ (by omega) (by omega) (by omega)
theorem q_fa {e f : Dt} (h : QR e f) {x : Int32} (hx : 0 ≤ x.toInt ∧ x.toInt < 6) (hc : 0 ≤ (e.1 3 0 (ix x)).toInt ∧ (e.1 3 0 (ix x)).toInt ≤ 12) (y z : Int32) : (sp_X5_factorAt f x y z).1 = (sp_X5_factorAt e x y z).1 := by
  have g := q_fc h hx hc z
  have p := fc_pt (d := e) (y := z) hx hc
  unfold sp_X5_factorAt
  rw [g.2.1]
  by_cases c1 : ((sp_X5_findCurve e x z).1 0 0 8).toInt = 0
  · rw [cif_t c1, cif_t c1]
  · rw [cif_f c1, cif_f c1]
    exact q19 g (by omega) p.2 16 0 (by decide) (by rw [Int32.toInt_zero]; omega) (by rw [Int32.toInt_zero]; omega)
theorem q_is {e f : Dt} (h : QR e f) {u m a b : Int32} (hx : 0 ≤ m.toInt ∧ m.toInt < 6) (hc : 0 ≤ (e.1 3 0 (ix m)).toInt ∧ (e.1 3 0 (ix m)).toInt ≤ 12) (g : ∀ k, k = 19 ∨ k = 20 ∨ k = 22 ∨ k = 23 ∨ k = 24 → f.1 k 0 (ix u) = e.1 k 0 (ix u)) : (sp_X5_isStale f u m a b).1 = (sp_X5_isStale e u m a b).1 := by
  unfold sp_X5_isStale
  rw [g 19 (by decide), g 20 (by decide), g 22 (by decide), g 23 (by decide), g 24 (by decide), q_fa h hx hc]
  have k : ∀ (P : Prop) (a b : Prop × Dt), (cif P a b).1 = cif P a.1 b.1 := fun P a b => by
    by_cases c : P
    · rw [cif_t c, cif_t c]
    · rw [cif_f c, cif_f c]
  simp only [k]
