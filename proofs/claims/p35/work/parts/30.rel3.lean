/-! ===== the relation, with the curves and the Tickets ===== -/
def rCv (c : Int32) (x8 : Nat → Nat → Int32) (rx : Nat → Nat → Pt) (rm : Nat → Pt) : Prop := ∀ m : Nat, m < 6 → (m : Int) < c.toInt → ∃ N : Nat, (x8 m 6).toInt = (N : Int) ∧ N ≤ 12 ∧ SF (rx m) N ∧ (∀ D : Int, cuF D (rl (rx m) N 0) = (rl rm N (12 * m)).foldl (rcF D) []) ∧ ∀ j, j < N → ptB (rx m j)
def rBd (c : Int32) (x8 x9 : Nat → Nat → Int32) : Prop := ∀ m : Nat, m < 6 → (m : Int) < c.toInt → 1 ≤ (x8 m 0).toInt ∧ 0 ≤ (x8 m 1).toInt ∧ (x8 m 1).toInt ≤ 5000 ∧ ∀ l : Nat, l < 4 → -1 ≤ (x9 m l).toInt ∧ (x9 m l).toInt ≤ 1
def rPb (x2 : Nat → Nat → Int32) : Prop := (x2 0 0).toInt = 0 ∨ (1 ≤ (x2 0 2).toInt ∧ (x2 0 2).toInt ≤ 10000)
/-- one Ticket of the two sides -/
def rT1 (c : Int32) (x : Nat → Int32) (t18 t19 t20 t21 t22 t23 t24 t25 : Int32) : Prop := (t18 = x 5 ∧ t19 = x 0 ∧ t20 = x 1 ∧ t21 = x 2 ∧ t22 = x 3 ∧ t23 = x 4 ∧ t24 = x 6 ∧ t25 = x 7) ∧ (0 ≤ (x 0).toInt ∧ (x 0).toInt < c.toInt) ∧ (0 ≤ (x 1).toInt ∧ (x 1).toInt ≤ 400) ∧ (0 ≤ (x 2).toInt ∧ (x 2).toInt ≤ 10000000) ∧ (0 ≤ (x 4).toInt ∧ (x 4).toInt ≤ 200000) ∧ ((x 6).toInt = -9 ∨ 0 ≤ (x 6).toInt) ∧ (0 ≤ (x 5).toInt ∧ (x 5).toInt ≤ 2)
def rTk (c T : Int32) (x13 : Nat → Nat → Int32) (m18 m19 m20 m21 m22 m23 m24 m25 : Nat → Nat → Int32) : Prop := ∀ t : Nat, (t : Int) < T.toInt → rT1 c (x13 t) (m18 0 t) (m19 0 t) (m20 0 t) (m21 0 t) (m22 0 t) (m23 0 t) (m24 0 t) (m25 0 t)
def RX (d τ : Dt) : Prop := rCv (d.1 0 0 1) (d.1 8) (rowX d) (rowM τ) ∧ rBd (d.1 0 0 1) (d.1 8) (d.1 9) ∧ τ.1 0 0 17 = d.1 0 0 4 ∧ rTk (d.1 0 0 1) (d.1 0 0 4) (d.1 13) (τ.1 18) (τ.1 19) (τ.1 20) (τ.1 21) (τ.1 22) (τ.1 23) (τ.1 24) (τ.1 25) ∧ τ.1 0 0 32 = d.1 0 0 7 ∧ (d.1 0 0 1).toInt ≤ 6 ∧ 0 ≤ (d.1 0 0 4).toInt ∧ (d.1 0 0 4).toInt ≤ 40 ∧ rPb (d.1 2)
def R2 (d τ : Dt) : Prop := R1 d τ ∧ RX d τ
def XE2 (d e : Dt) : Prop := e.1 0 0 1 = d.1 0 0 1 ∧ e.1 0 0 4 = d.1 0 0 4 ∧ e.1 0 0 7 = d.1 0 0 7 ∧ e.1 8 = d.1 8 ∧ e.1 9 = d.1 9 ∧ e.1 10 = d.1 10 ∧ e.1 11 = d.1 11 ∧ e.1 12 = d.1 12 ∧ e.1 13 = d.1 13 ∧ (rPb (d.1 2) → rPb (e.1 2))
def XS2 (d e : Dt) : Prop := (e.1 0 0 17 = d.1 0 0 17 ∧ e.1 0 0 32 = d.1 0 0 32 ∧ e.1 4 = d.1 4 ∧ e.1 5 = d.1 5 ∧ e.1 6 = d.1 6) ∧ e.1 18 = d.1 18 ∧ e.1 19 = d.1 19 ∧ e.1 20 = d.1 20 ∧ e.1 21 = d.1 21 ∧ e.1 22 = d.1 22 ∧ e.1 23 = d.1 23 ∧ e.1 24 = d.1 24 ∧ e.1 25 = d.1 25
theorem XE2.rf {d : Dt} : XE2 d d := ⟨rfl, rfl, rfl, rfl, rfl, rfl, rfl, rfl, rfl, fun h => h⟩
theorem XE2.cp {d : Dt} {α : Type} {P : Prop} {a b : α × Dt} (ha : XE2 d a.2) (hb : XE2 d b.2) : XE2 d (cif P a b).2 := by
  by_cases q : P
  · rw [cif_t q]; exact ha
  · rw [cif_f q]; exact hb
theorem XE2.cd {d : Dt} {P : Prop} {a b : Dt} (ha : XE2 d a) (hb : XE2 d b) : XE2 d (cif P a b) := by
  by_cases q : P
  · rw [cif_t q]; exact ha
  · rw [cif_f q]; exact hb
theorem XS2.rf {d : Dt} : XS2 d d := ⟨⟨rfl, rfl, rfl, rfl, rfl⟩, rfl, rfl, rfl, rfl, rfl, rfl, rfl, rfl⟩
theorem XS2.cp {d : Dt} {α : Type} {P : Prop} {a b : α × Dt} (ha : XS2 d a.2) (hb : XS2 d b.2) : XS2 d (cif P a b).2 := by
  by_cases q : P
  · rw [cif_t q]; exact ha
  · rw [cif_f q]; exact hb
theorem CF.xs2 {d e : Dt} (g : CF d e) : XS2 d e := ⟨⟨g.f0, g.f0, g.1 4 (by decide) (by decide) (by decide) (by decide), g.1 5 (by decide) (by decide) (by decide) (by decide), g.1 6 (by decide) (by decide) (by decide) (by decide)⟩, g.1 18 (by decide) (by decide) (by decide) (by decide), g.1 19 (by decide) (by decide) (by decide) (by decide), g.1 20 (by decide) (by decide) (by decide) (by decide), g.1 21 (by decide) (by decide) (by decide) (by decide), g.1 22 (by decide) (by decide) (by decide) (by decide), g.1 23 (by decide) (by decide) (by decide) (by decide), g.1 24 (by decide) (by decide) (by decide) (by decide), g.1 25 (by decide) (by decide) (by decide) (by decide)⟩
theorem rowX_e {d e : Dt} (h10 : e.1 10 = d.1 10) (h11 : e.1 11 = d.1 11) (h12 : e.1 12 = d.1 12) : rowX e = rowX d := by
  funext i j
  show (e.1 10 i j, e.1 11 i j, e.1 12 i j) = (d.1 10 i j, d.1 11 i j, d.1 12 i j)
  rw [h10, h11, h12]
theorem rowM_e {d e : Dt} (h4 : e.1 4 = d.1 4) (h5 : e.1 5 = d.1 5) (h6 : e.1 6 = d.1 6) : rowM e = rowM d := by
  funext j
  show (e.1 4 0 j, e.1 5 0 j, e.1 6 0 j) = (d.1 4 0 j, d.1 5 0 j, d.1 6 0 j)
  rw [h4, h5, h6]
theorem RX.x {d e τ : Dt} (h : RX d τ) (g : XE2 d e) : RX e τ := by
  obtain ⟨g1, g4, g7, g8, g9, g10, g11, g12, g13, gp⟩ := g
  unfold RX at h ⊢
  rw [g1, g4, g7, g8, g9, g13, rowX_e g10 g11 g12]
  exact ⟨h.1, h.2.1, h.2.2.1, h.2.2.2.1, h.2.2.2.2.1, h.2.2.2.2.2.1, h.2.2.2.2.2.2.1, h.2.2.2.2.2.2.2.1, gp h.2.2.2.2.2.2.2.2⟩
theorem RX.s {d τ σ : Dt} (h : RX d τ) (g : XS2 τ σ) : RX d σ := by
  obtain ⟨⟨g17, g32, g4, g5, g6⟩, g18, g19, g20, g21, g22, g23, g24, g25⟩ := g
  unfold RX at h ⊢
  rw [g17, g32, g18, g19, g20, g21, g22, g23, g24, g25, rowM_e g4 g5 g6]; exact h
theorem r2_0 : R2 d0X d0M := ⟨r1_0, fun m hm h => absurd h (by show ¬ (m : Int) < 0; omega), fun m hm h => absurd h (by show ¬ (m : Int) < 0; omega), rfl, fun t h => absurd h (by show ¬ (t : Int) < 0; omega), rfl, by decide, by decide, by decide, Or.inl rfl⟩
section R3S
variable {M T : Nat} {d τ : Dt}
/-- the two sides' factor at a flow on a day -/
theorem RX.fa (h : RX d τ) (h1 : R1 d τ) {m : Int32} (m0 : 0 ≤ m.toInt) (mc : m.toInt < (d.1 0 0 1).toInt) (fl D : Int32) : sp_X0_factorAt d (ix m) fl D = (sp_X5_factorAt τ m fl D).1 ∧ (sp_X5_findCurve τ m D).1 0 0 8 = sp_X0_curveSize d (ix m) D := by
  have c6 := h.2.2.2.2.2.1
  have im := ix_int m0
  obtain ⟨N, hN, h12, hS, hD, hB⟩ := h.1 (ix m) (by omega) (by omega)
  have gm := (h1.2.2.1 (ix m) (by omega)).1 (by omega)
  have e3 : (τ.1 3 0 (ix m)).toInt = (N : Int) := by rw [gm.2.2.1]; exact hN
  have hs : srt (rl (rowX d (ix m)) N 0) := SF.srt N 0 N hS (by omega)
  have hc := fc_M (d := τ) (x := m) (D := D) (c := N) ⟨m0, by omega⟩ e3 h12
  refine ⟨?_, ?_⟩
  · rw [fa_X hN h12 hS, fa_M ⟨m0, by omega⟩ (by omega), hc, ← hD D.toInt]
    refine fa_rf _ none (cu_sst _ hs) (fun c hc => ?_) (fun p e => absurd e.symm (Option.some_ne_none p))
    obtain ⟨j, _, hj, rfl⟩ := rl_mem N 0 (cu_mem hc).1
    exact hB j (by omega)
  · have g := fc_pt (d := τ) (x := m) (y := D) ⟨m0, by omega⟩ (by omega)
    refine Int32.toInt_inj.mp ?_
    rw [cs_X hN h12 hS, hD D.toInt, ← hc]
    have e : ∀ (F : Nat → Pt) (n a : Nat), (rl F n a).length = n := fun F n => by
      induction n with
      | zero => intro a; rfl
      | succ n ih => intro a; show (rl F n (a + 1)).length + 1 = n + 1; rw [ih]
    unfold clM
    rw [e]
    exact (ix_int g.1).symm
theorem btw_B {b a : Pt} {fl : Int32} (hb : ptB b) (ha : ptB a) (h1 : b.1.toInt < fl.toInt) (h2 : fl.toInt < a.1.toInt) : 0 ≤ (btw b a fl).toInt ∧ (btw b a fl).toInt ≤ 200000 := by
  unfold ptB at hb ha
  have x1 : (a.1 - b.1).toInt = a.1.toInt - b.1.toInt := ti_sub (by omega) (by omega)
  have x2 : (a.2.2 - b.2.2).toInt = a.2.2.toInt - b.2.2.toInt := ti_sub (by omega) (by omega)
  have x3 : (fl - b.1).toInt = fl.toInt - b.1.toInt := ti_sub (by omega) (by omega)
  obtain ⟨A, eA⟩ : ∃ A, A = a.2.2.toInt - b.2.2.toInt := ⟨_, rfl⟩
  obtain ⟨B, eB⟩ : ∃ B, B = fl.toInt - b.1.toInt := ⟨_, rfl⟩
  obtain ⟨E, eE⟩ : ∃ E, E = a.1.toInt - b.1.toInt := ⟨_, rfl⟩
  have l1 : A * B ≤ 10000 * 10000 := Int.le_trans (Int.mul_le_mul_of_nonneg_right (by omega : A ≤ 10000) (by omega)) (Int.mul_le_mul_of_nonneg_left (by omega) (by omega))
  have l2 : -(10000 * 10000) ≤ A * B := by
    have := Int.le_trans (Int.mul_le_mul_of_nonneg_right (by omega : -A ≤ 10000) (by omega : 0 ≤ B)) (Int.mul_le_mul_of_nonneg_left (by omega : B ≤ 10000) (by omega : (0 : Int) ≤ 10000))
    rw [Int.neg_mul] at this
    omega
  have m1 : ((a.2.2 - b.2.2) * (fl - b.1)).toInt = A * B := by rw [ti_mul (by rw [x2, x3, ← eA, ← eB]; omega) (by rw [x2, x3, ← eA, ← eB]; omega), x2, x3, eA, eB]
  have q2 : ((A * B).tdiv E).natAbs ≤ 10000 := by
    have hA : A.natAbs ≤ 10000 := by omega
    have e1 : (A * B).natAbs = A.natAbs * B.natAbs := Int.natAbs_mul A B
    rw [Int.natAbs_tdiv, e1]
    refine Nat.le_trans (Nat.div_le_of_le_mul ?_) hA
    rw [Nat.mul_comm E.natAbs]
    exact Nat.mul_le_mul_left _ (by omega)
  have d1 : (((a.2.2 - b.2.2) * (fl - b.1)) / (a.1 - b.1)).toInt = (A * B).tdiv E := by
    rw [Int32.toInt_div, m1, x1, ← eE]
    exact bm32 (by omega) (by omega)
  have s1 : (b.2.2 + (((a.2.2 - b.2.2) * (fl - b.1)) / (a.1 - b.1))).toInt = b.2.2.toInt + (A * B).tdiv E := by rw [ti_add (by rw [d1]; omega) (by rw [d1]; omega), d1]
  unfold btw
  rw [cif_f (by rw [x1]; omega), s1]
  omega
/-- what a factor at a flow is at most -/
theorem rf_B {fl : Int32} : ∀ (C : List Pt) (pr : Option Pt), (∀ c, c ∈ C → ptB c) → (∀ p, pr = some p → ptB p ∧ p.1.toInt < fl.toInt) → 0 ≤ (rfL fl C pr).toInt ∧ (rfL fl C pr).toInt ≤ 200000 := by
  intro C
  induction C with
  | nil =>
    intro pr _ hp
    cases pr with
    | none => show 0 ≤ (100000 : Int32).toInt ∧ (100000 : Int32).toInt ≤ 200000; decide
    | some p => have := (hp p rfl).1; unfold ptB at this; show 0 ≤ p.2.2.toInt ∧ p.2.2.toInt ≤ 200000; omega
  | cons c C ih =>
    intro pr hb hp
    have bc := hb c List.mem_cons_self
    show 0 ≤ (cif (c.1.toInt < fl.toInt) (rfL fl C (some c)) (nxL fl c pr)).toInt ∧ (cif (c.1.toInt < fl.toInt) (rfL fl C (some c)) (nxL fl c pr)).toInt ≤ 200000
    by_cases k1 : c.1.toInt < fl.toInt
    · rw [cif_t k1]
      exact ih (some c) (fun r hr => hb r (List.mem_cons_of_mem _ hr)) (fun p e => by rw [← Option.some.inj e]; exact ⟨bc, k1⟩)
    · rw [cif_f k1]
      cases pr with
      | none => unfold ptB at bc; show 0 ≤ c.2.2.toInt ∧ c.2.2.toInt ≤ 200000; omega
      | some p =>
        show 0 ≤ (cif (c.1.toInt = fl.toInt) c.2.2 (itp p c fl)).toInt ∧ (cif (c.1.toInt = fl.toInt) c.2.2 (itp p c fl)).toInt ≤ 200000
        by_cases k2 : c.1.toInt = fl.toInt
        · rw [cif_t k2]; unfold ptB at bc; omega
        · rw [cif_f k2]
          obtain ⟨bp, hpf⟩ := hp p rfl
          rw [← btw_itp bp bc hpf (by omega)]
          exact btw_B bp bc hpf (by omega)
end R3S
