/-! ===== the relation of the two sides: METERS, lines, ends, the PROOF, the day shut, SHEETS ===== -/
def XE (d e : Dt) : Prop := e.1 2 = d.1 2 ∧ e.1 6 = d.1 6 ∧ e.1 7 = d.1 7 ∧ e.1 8 = d.1 8 ∧ e.1 9 = d.1 9 ∧ e.1 0 0 1 = d.1 0 0 1 ∧ e.1 0 0 5 = d.1 0 0 5 ∧ e.2 = d.2
def XS (d e : Dt) : Prop := (e.1 2 = d.1 2 ∧ e.1 3 = d.1 3 ∧ e.1 7 = d.1 7 ∧ e.1 27 = d.1 27 ∧ e.1 28 = d.1 28 ∧ e.1 29 = d.1 29 ∧ e.1 30 = d.1 30) ∧ (e.1 0 0 1 = d.1 0 0 1 ∧ e.1 0 0 12 = d.1 0 0 12 ∧ e.1 0 0 13 = d.1 0 0 13 ∧ e.1 0 0 14 = d.1 0 0 14 ∧ e.1 0 0 15 = d.1 0 0 15 ∧ e.1 0 0 26 = d.1 0 0 26) ∧ e.2 = d.2
theorem XE.rf {d : Dt} : XE d d := ⟨rfl, rfl, rfl, rfl, rfl, rfl, rfl, rfl⟩
theorem XE.tr {d e f : Dt} (h : XE d e) (g : XE e f) : XE d f := ⟨g.1.trans h.1, g.2.1.trans h.2.1, g.2.2.1.trans h.2.2.1, g.2.2.2.1.trans h.2.2.2.1, g.2.2.2.2.1.trans h.2.2.2.2.1, g.2.2.2.2.2.1.trans h.2.2.2.2.2.1, g.2.2.2.2.2.2.1.trans h.2.2.2.2.2.2.1, g.2.2.2.2.2.2.2.trans h.2.2.2.2.2.2.2⟩
theorem XE.cp {d : Dt} {α : Type} {P : Prop} {a b : α × Dt} (ha : XE d a.2) (hb : XE d b.2) : XE d (cif P a b).2 := by
  by_cases q : P
  · rw [cif_t q]; exact ha
  · rw [cif_f q]; exact hb
theorem XE.cd {d : Dt} {P : Prop} {a b : Dt} (ha : XE d a) (hb : XE d b) : XE d (cif P a b) := by
  by_cases q : P
  · rw [cif_t q]; exact ha
  · rw [cif_f q]; exact hb
theorem XS.rf {d : Dt} : XS d d := ⟨⟨rfl, rfl, rfl, rfl, rfl, rfl, rfl⟩, ⟨rfl, rfl, rfl, rfl, rfl, rfl⟩, rfl⟩
theorem XS.tr {d e f : Dt} (h : XS d e) (g : XS e f) : XS d f := by
  obtain ⟨⟨a1, a2, a3, a4, a5, a6, a7⟩, ⟨b1, b2, b3, b4, b5, b6⟩, c⟩ := h
  obtain ⟨⟨p1, p2, p3, p4, p5, p6, p7⟩, ⟨q1, q2, q3, q4, q5, q6⟩, r⟩ := g
  exact ⟨⟨p1.trans a1, p2.trans a2, p3.trans a3, p4.trans a4, p5.trans a5, p6.trans a6, p7.trans a7⟩, ⟨q1.trans b1, q2.trans b2, q3.trans b3, q4.trans b4, q5.trans b5, q6.trans b6⟩, r.trans c⟩
theorem XS.cp {d : Dt} {α : Type} {P : Prop} {a b : α × Dt} (ha : XS d a.2) (hb : XS d b.2) : XS d (cif P a b).2 := by
  by_cases q : P
  · rw [cif_t q]; exact ha
  · rw [cif_f q]; exact hb
theorem XS.cd {d : Dt} {P : Prop} {a b : Dt} (ha : XS d a) (hb : XS d b) : XS d (cif P a b) := by
  by_cases q : P
  · rw [cif_t q]; exact ha
  · rw [cif_f q]; exact hb
theorem CF.xs {d e : Dt} (g : CF d e) : XS d e := ⟨⟨g.1 2 (by decide) (by decide) (by decide) (by decide), g.1 3 (by decide) (by decide) (by decide) (by decide), g.1 7 (by decide) (by decide) (by decide) (by decide), g.1 27 (by decide) (by decide) (by decide) (by decide), g.1 28 (by decide) (by decide) (by decide) (by decide), g.1 29 (by decide) (by decide) (by decide) (by decide), g.1 30 (by decide) (by decide) (by decide) (by decide)⟩, ⟨g.f0, g.f0, g.f0, g.f0, g.f0, g.f0⟩, g.2.1⟩
def rMt (c : Int32) (x8 x9 m2 m3 m7 m27 : Nat → Nat → Int32) : Prop := ∀ m : Nat, m < 6 → ((m : Int) < c.toInt → m2 0 m = x8 m 0 ∧ m7 0 m = x8 m 1 ∧ m3 0 m = x8 m 6 ∧ ∀ l : Nat, l < 4 → m27 0 (6 * l + m) = x9 m l) ∧ (c.toInt ≤ (m : Int) → m7 0 m = 0 ∧ m3 0 m = 0 ∧ ∀ l : Nat, l < 4 → m27 0 (6 * l + m) = 0)
def rPf (x2 : Nat → Nat → Int32) (t12 t13 t14 t15 : Int32) (x y : Nat → Nat → Nat → Int64) : Prop := ((x2 0 0).toInt = 0 ↔ t12.toInt < 0) ∧ (0 ≤ t12.toInt → x2 0 1 = t12) ∧ x2 0 2 = t13 ∧ x2 0 3 = t14 ∧ x2 0 5 = t15 ∧ ∀ j, x 3 0 j = y 16 0 j
def rSh (x6 x7 m28 m29 m30 : Nat → Nat → Int32) : Prop := ∀ k : Nat, k < 4 → ((x6 k 1).toInt = 0 ↔ (m28 0 k).toInt < 0) ∧ (0 ≤ (m28 0 k).toInt → x6 k 3 = m28 0 k ∧ x6 k 2 = m29 0 k ∧ ∀ j : Nat, (j : Int) < (m28 0 k).toInt → x7 k j = m30 0 (60 * k + j))
def R1 (d τ : Dt) : Prop := τ.1 0 0 1 = d.1 0 0 1 ∧ τ.1 0 0 26 = d.1 0 0 5 ∧ rMt (d.1 0 0 1) (d.1 8) (d.1 9) (τ.1 2) (τ.1 3) (τ.1 7) (τ.1 27) ∧ rPf (d.1 2) (τ.1 0 0 12) (τ.1 0 0 13) (τ.1 0 0 14) (τ.1 0 0 15) d.2 τ.2 ∧ rSh (d.1 6) (d.1 7) (τ.1 28) (τ.1 29) (τ.1 30)
theorem R1.x {d e τ : Dt} (h : R1 d τ) (g : XE d e) : R1 e τ := by
  obtain ⟨g2, g6, g7, g8, g9, gc, gs, gl⟩ := g
  unfold R1 at h ⊢
  rw [g2, g6, g7, g8, g9, gc, gs, gl]; exact h
theorem R1.s {d τ σ : Dt} (h : R1 d τ) (g : XS τ σ) : R1 d σ := by
  obtain ⟨⟨p1, p2, p3, p4, p5, p6, p7⟩, ⟨q1, q2, q3, q4, q5, q6⟩, r⟩ := g
  unfold R1 at h ⊢
  rw [p1, p2, p3, p4, p5, p6, p7, q1, q2, q3, q4, q5, q6, r]; exact h
theorem r1_0 : R1 d0X d0M := by
  refine ⟨rfl, rfl, fun m hm => ⟨fun h => absurd h (by show ¬ (m : Int) < 0; omega), fun _ => ⟨rfl, rfl, fun _ _ => rfl⟩⟩, ⟨⟨fun _ => by decide, fun _ => rfl⟩, fun h => absurd h (by decide), rfl, rfl, rfl, fun _ => rfl⟩, fun k hk => ⟨⟨fun _ => ?_, fun _ => rfl⟩, fun h => absurd h ?_⟩⟩
  · rw [d28 hk]; decide
  · rw [d28 hk]; decide
/-- answers are the same, and the relation stays -/
def J1 {α : Type} (a b : α × Dt) : Prop := a.1 = b.1 ∧ R1 a.2 b.2
theorem J1.c {α : Type} {P P' : Prop} {a a' b b' : α × Dt} (e : P = P') (h1 : P → J1 a b) (h2 : ¬ P → J1 a' b') : J1 (cif P a a') (cif P' b b') := by
  subst e
  by_cases q : P
  · rw [cif_t q, cif_t q]; exact h1 q
  · rw [cif_f q, cif_f q]; exact h2 q
theorem J1.n {α : Type} {P P' : Prop} {a a' b b' : α × Dt} (e : P' = ¬ P) (h1 : P → J1 a b) (h2 : ¬ P → J1 a' b') : J1 (cif P a a') (cif P' b' b) := by
  subst e
  rw [cif_n]; exact J1.c rfl h1 h2
theorem J1.i {α : Type} {P P' : Prop} {a a' b b' : α × Dt} (e : P ↔ P') (h1 : P → J1 a b) (h2 : ¬ P → J1 a' b') : J1 (cif P a a') (cif P' b b') := J1.c (propext e) h1 h2
theorem J1.ni {α : Type} {P P' : Prop} {a a' b b' : α × Dt} (e : P' ↔ ¬ P) (h1 : P → J1 a b) (h2 : ¬ P → J1 a' b') : J1 (cif P a a') (cif P' b' b) := J1.n (propext e) h1 h2
section R1S
variable {M T : Nat} {d τ : Dt}
theorem R1.nm (h : R1 d τ) (iX : XI M T d) (p : Int32) : sp_X5_noMeter τ p = ¬ sp_X4_isMeter d p := noMeter_e h.1 (by have := iX.1; omega) p
theorem R1.mt (h : R1 d τ) (iX : XI M T d) {p : Int32} (c : sp_X4_isMeter d p) : ix p < 6 ∧ ((ix p : Nat) : Int) < (d.1 0 0 1).toInt ∧ τ.1 2 0 (ix p) = d.1 8 (ix p) 0 ∧ τ.1 7 0 (ix p) = d.1 8 (ix p) 1 ∧ τ.1 3 0 (ix p) = d.1 8 (ix p) 6 ∧ ∀ l : Nat, l < 4 → τ.1 27 0 (6 * l + ix p) = d.1 9 (ix p) l := by
  have f1 := im_of iX c
  have f2 := ix_int f1.1
  have f3 := iX.1
  have f4 := iX.2.1
  have h6 : ix p < 6 := by omega
  exact ⟨h6, by omega, (h.2.2.1 (ix p) h6).1 (by omega)⟩
theorem r1_X4_meter (h : R1 d τ) (iX : XI M T d) (a : Int32) : J1 (sp_X4_meter d a) (sp_X5_meter τ a) := by
  unfold sp_X4_meter sp_X5_meter
  refine J1.c (in_iw rfl rfl).symm (fun _ => ?_) (fun _ => ⟨rfl, h⟩)
  have f3 := iX.1
  have f4 := iX.2.1
  refine J1.ni (by rw [h.1]; omega) (fun c => ?_) (fun _ => ⟨rfl, h⟩)
  rw [h.1]
  obtain ⟨g1, g2, g3, g4, g5⟩ := h
  have e1 : ix (d.1 0 0 1) = M := ix_of f3
  have e2 := ti1 (x := d.1 0 0 1) (by omega)
  rw [e1]
  refine ⟨rfl, rfl, g2, fun m hm => ?_, g4, g5⟩
  show (((m : Int) < ((d.1 0 0 1) + 1).toInt → (uv τ 2 0 M a).1 2 0 m = (mN d M a).1 8 m 0 ∧ τ.1 7 0 m = (mN d M a).1 8 m 1 ∧ τ.1 3 0 m = (mN d M a).1 8 m 6 ∧ ∀ l : Nat, l < 4 → τ.1 27 0 (6 * l + m) = (mN d M a).1 9 m l) ∧ (((d.1 0 0 1) + 1).toInt ≤ (m : Int) → τ.1 7 0 m = 0 ∧ τ.1 3 0 m = 0 ∧ ∀ l : Nat, l < 4 → τ.1 27 0 (6 * l + m) = 0))
  have gm := g3 m hm
  refine ⟨fun hc => ?_, fun hc => gm.2 (by omega)⟩
  by_cases q : m = M
  · subst q
    have gf := gm.2 (by omega)
    rw [uv_eq]
    refine ⟨?_, ?_, ?_, fun l hl => ?_⟩
    · show a = (if m = m then (fun j : Nat => match j with | 0 => a | _ => 0) else d.1 8 m) 0
      rw [if_pos rfl]; rfl
    · show _ = (if m = m then (fun j : Nat => match j with | 0 => a | _ => 0) else d.1 8 m) 1
      rw [if_pos rfl]; exact gf.1
    · show _ = (if m = m then (fun j : Nat => match j with | 0 => a | _ => 0) else d.1 8 m) 6
      rw [if_pos rfl]; exact gf.2.1
    · show _ = (if m = m then (fun _ : Nat => (0 : Int32)) else d.1 9 m) l
      rw [if_pos rfl]; exact gf.2.2 l hl
  · have gf := gm.1 (by omega)
    rw [uv_at q]
    have e8 : (mN d M a).1 8 m = d.1 8 m := if_neg q
    have e9 : (mN d M a).1 9 m = d.1 9 m := if_neg q
    rw [e8, e9]; exact gf
/-! the FACTORS' counts -/
theorem tf_eff (d0 : Dt) (i : Nat) (a b c : Int32) : ∀ (n : Nat) (x : Int32) (e : Dt), x.toInt < (n : Int) → 0 ≤ x.toInt → (lp_X0_takeFactor_6 d0 i a b c n x e).1 8 = (uv e 8 i 6 ((e.1 8 i 6) + 1)).1 8 ∧ (∀ k, k ≠ 8 → k ≠ 10 → k ≠ 11 → k ≠ 12 → (lp_X0_takeFactor_6 d0 i a b c n x e).1 k = e.1 k) ∧ (lp_X0_takeFactor_6 d0 i a b c n x e).2 = e.2 := by
  intro n
  induction n with
  | zero => intro x e h0 h1; omega
  | succ n ih =>
    intro x e h0 h1
    show (st_X0_takeFactor_6 d0 i a b c (lp_X0_takeFactor_6 d0 i a b c n) x e).1 8 = (uv e 8 i 6 ((e.1 8 i 6) + 1)).1 8 ∧ (∀ k, k ≠ 8 → k ≠ 10 → k ≠ 11 → k ≠ 12 → (st_X0_takeFactor_6 d0 i a b c (lp_X0_takeFactor_6 d0 i a b c n) x e).1 k = e.1 k) ∧ (st_X0_takeFactor_6 d0 i a b c (lp_X0_takeFactor_6 d0 i a b c n) x e).2 = e.2
    unfold st_X0_takeFactor_6
    have fin : ∀ (y : Nat) (u v w : Int32), (uv (uv (uv (uv e 10 i y u) 11 i y v) 12 i y w) 8 i 6 ((e.1 8 i 6) + 1)).1 8 = (uv e 8 i 6 ((e.1 8 i 6) + 1)).1 8 ∧ (∀ k, k ≠ 8 → k ≠ 10 → k ≠ 11 → k ≠ 12 → (uv (uv (uv (uv e 10 i y u) 11 i y v) 12 i y w) 8 i 6 ((e.1 8 i 6) + 1)).1 k = e.1 k) ∧ (uv (uv (uv (uv e 10 i y u) 11 i y v) 12 i y w) 8 i 6 ((e.1 8 i 6) + 1)).2 = e.2 := fun y u v w => ⟨rfl, fun k h8 h10 h11 h12 => by rw [uv_kk h8, uv_kk h12, uv_kk h11, uv_kk h10], rfl⟩
    by_cases c1 : x.toInt ≤ 0
    · rw [cif_t c1]; exact fin _ _ _ _
    · rw [cif_f c1]
      by_cases c2 : sp_X0_standsBehind e i (x - 1) a b
      · rw [cif_t c2]
        have e1 := tim1 (x := x) (by omega)
        obtain ⟨r1, r2, r3⟩ := ih (x + (-1)) (uv (uv (uv e 10 i (ix x) (e.1 10 i (ix (x - 1)))) 11 i (ix x) (e.1 11 i (ix (x - 1)))) 12 i (ix x) (e.1 12 i (ix (x - 1)))) (by omega) (by omega)
        exact ⟨r1, fun k h8 h10 h11 h12 => by rw [r2 k h8 h10 h11 h12, uv_kk h12, uv_kk h11, uv_kk h10], r3⟩
      · rw [cif_f c2]; exact fin _ _ _ _
theorem R1.fac (h : R1 d τ) {m : Int32} (h6 : ix m < 6) (hm : ((ix m : Nat) : Int) < (d.1 0 0 1).toInt) (hn : 0 ≤ (d.1 8 (ix m) 6).toInt ∧ (d.1 8 (ix m) 6).toInt < 12) (a b c x y z : Int32) : (sp_X0_takeFactor d (ix m) a b c).1 8 (ix m) 6 = (sp_X5_addFactor τ m x y z).1 3 0 (ix m) ∧ R1 (sp_X0_takeFactor d (ix m) a b c) (sp_X5_addFactor τ m x y z) := by
  obtain ⟨r1, r2, r3⟩ := tf_eff d (ix m) a b c 16 (d.1 8 (ix m) 6) d (by omega) hn.1
  have r1 : (sp_X0_takeFactor d (ix m) a b c).1 8 = (uv d 8 (ix m) 6 ((d.1 8 (ix m) 6) + 1)).1 8 := r1
  have r2 : ∀ k, k ≠ 8 → k ≠ 10 → k ≠ 11 → k ≠ 12 → (sp_X0_takeFactor d (ix m) a b c).1 k = d.1 k := r2
  have r3 : (sp_X0_takeFactor d (ix m) a b c).2 = d.2 := r3
  generalize sp_X0_takeFactor d (ix m) a b c = e at r1 r2 r3
  have gm := (h.2.2.1 (ix m) h6).1 hm
  have e6 : e.1 8 (ix m) 6 = (d.1 8 (ix m) 6) + 1 := by rw [r1, uv_eq]
  have t6 : (sp_X5_addFactor τ m x y z).1 3 0 (ix m) = (τ.1 3 0 (ix m)) + 1 := by unfold sp_X5_addFactor; rw [uv_eq]
  have to : ∀ j, j ≠ ix m → (sp_X5_addFactor τ m x y z).1 3 0 j = τ.1 3 0 j := fun j hj => by unfold sp_X5_addFactor; rw [uv_at hj]; rfl
  refine ⟨by rw [e6, t6, gm.2.2.1], ?_⟩
  obtain ⟨g1, g2, g3, g4, g5⟩ := h
  have x0 := r2 0 (by decide) (by decide) (by decide) (by decide)
  have x2 := r2 2 (by decide) (by decide) (by decide) (by decide)
  have x6 := r2 6 (by decide) (by decide) (by decide) (by decide)
  have x7 := r2 7 (by decide) (by decide) (by decide) (by decide)
  have x9 := r2 9 (by decide) (by decide) (by decide) (by decide)
  unfold R1
  rw [x0, x2, x6, x7, x9, r3]
  refine ⟨g1, g2, fun j hj => ⟨fun hc => ?_, fun hc => ?_⟩, g4, g5⟩
  · have gj := (g3 j hj).1 hc
    refine ⟨?_, ?_, ?_, gj.2.2.2⟩
    · rw [r1, uv_ne (by decide)]; exact gj.1
    · rw [r1, uv_ne (by decide)]; exact gj.2.1
    · by_cases q : j = ix m
      · rw [q, t6, e6, gm.2.2.1]
      · rw [to j q, r1, uv_off _ _ _ _ _ _ _ (fun z => q z.2)]; exact gj.2.2.1
  · have gj := (g3 j hj).2 hc
    refine ⟨gj.1, ?_, gj.2.2⟩
    rw [to j (fun q => by rw [q] at hc; omega)]; exact gj.2.1
theorem full_iff {i : Nat} : sp_X0_isFull d i ↔ 12 ≤ (d.1 8 i 6).toInt := by
  unfold sp_X0_isFull
  by_cases c : (d.1 8 i 6).toInt < 12
  · rw [cif_t c]; exact ⟨fun q => q.elim, fun q => absurd c (by omega)⟩
  · rw [cif_f c]; exact ⟨fun _ => by omega, fun _ => trivial⟩
theorem r1_X4_factor (h : R1 d τ) (iX : XI M T d) (a b c e : Int32) : J1 (sp_X4_factor d a b c e) (sp_X5_factor τ a b c e) := by
  unfold sp_X4_factor sp_X5_factor
  refine J1.n (h.nm iX a) (fun c1 => ?_) (fun _ => ⟨rfl, h⟩)
  refine J1.c (isFlow_e b).symm (fun _ => ?_) (fun _ => ⟨rfl, h⟩)
  refine J1.c (isDay_e c).symm (fun _ => ?_) (fun _ => ⟨rfl, h⟩)
  refine J1.c (in_iw (p := e) (lo := 95000) (hi := 105000) rfl rfl).symm (fun _ => ?_) (fun _ => ⟨rfl, h⟩)
  obtain ⟨h6, hm, g⟩ := h.mt iX c1
  have hf := iX.fc (i := ix a) (by have := iX.1; omega)
  refine J1.i (by rw [full_iff, g.2.2.1]; omega) (fun _ => ⟨rfl, h⟩) (fun c2 => ?_)
  have c2 : ¬ 12 ≤ (d.1 8 (ix a) 6).toInt := fun q => c2 (full_iff.mpr q)
  exact h.fac h6 hm ⟨hf.1, by omega⟩ _ _ _ _ _ _
theorem r1_X4_proof (h : R1 d τ) (iX : XI M T d) (a b c : Int32) : J1 (sp_X4_proof d a b c) (sp_X5_proof τ a b c) := by
  unfold sp_X4_proof sp_X5_proof
  refine J1.n (h.nm iX a) (fun c1 => ?_) (fun _ => ⟨rfl, h⟩)
  refine J1.c (isFlow_e b).symm (fun _ => ?_) (fun _ => ⟨rfl, h⟩)
  refine J1.c (in_iw (p := c) (lo := 1000) (hi := 1000000) rfl rfl).symm (fun _ => ?_) (fun _ => ⟨rfl, h⟩)
  have f1 := im_of iX c1
  obtain ⟨g1, g2, g3, g4, g5⟩ := h
  exact ⟨rfl, g1, g2, g3, ⟨⟨fun q => absurd q (by show ¬ (1 : Int32).toInt = 0; decide), fun q => absurd q (by show ¬ a.toInt < 0; omega)⟩, fun _ => rfl, rfl, rfl, rfl, g4.2.2.2.2.2⟩, g5⟩
theorem uw_eq {k i j : Nat} {x : Int64} : (uw d k i j x).2 k i j = x := by simp [uw]
theorem r1_X4_run (h : R1 d τ) (iX : XI M T d) (a b c : Int32) : J1 (sp_X4_run d a b c) (sp_X5_run τ a b c) := by
  unfold sp_X4_run sp_X5_run
  refine J1.c (in_iw (p := a) (lo := 1) (hi := 100000) rfl rfl).symm (fun _ => ?_) (fun _ => ⟨rfl, h⟩)
  refine J1.c (in_iw (p := b) (lo := 1) (hi := 1000000) rfl rfl).symm (fun _ => ?_) (fun _ => ⟨rfl, h⟩)
  refine J1.c (in_iw (p := c) (lo := 1) (hi := 1000000) rfl rfl).symm (fun _ => ?_) (fun _ => ⟨rfl, h⟩)
  obtain ⟨g1, g2, g3, g4, g5⟩ := h
  have h' : R1 d τ := ⟨g1, g2, g3, g4, g5⟩
  refine J1.i g4.1 (fun _ => ⟨rfl, h'⟩) (fun _ => ?_)
  have hr := iX.rc
  have e5 := g4.2.2.2.2.1
  refine J1.ni (by rw [← e5]; omega) (fun c2 => ?_) (fun _ => ⟨rfl, h'⟩)
  have e6 : ((τ.1 0 0 15) + 1) - 1 = τ.1 0 0 15 := a1s _
  have ev : ((1000 * a.toInt64) * c.toInt64) / b.toInt64 = ((a.toInt64 * 1000) * c.toInt64) / b.toInt64 := by rw [Int64.mul_comm 1000 a.toInt64]
  rw [e6, uw_eq, e5, ev]
  refine ⟨rfl, g1, g2, g3, ⟨g4.1, g4.2.1, g4.2.2.1, g4.2.2.2.1, rfl, fun j => ?_⟩, g5⟩
  show (uw d 3 0 (ix (τ.1 0 0 15)) _).2 3 0 j = (uw τ 16 0 (ix (τ.1 0 0 15)) _).2 16 0 j
  by_cases q : j = ix (τ.1 0 0 15)
  · rw [q, uw_eq, uw_eq]
  · simp only [uw, q, if_true, if_false]; exact g4.2.2.2.2.2 j
theorem ig_e (h : R1 d τ) : ∀ (n : Nat) (x : Int32) (u v : Int64), lp_X1_isGood_32 d n x u v = lp_X5_isGood_32 τ n x u v := by
  have e5 := h.2.2.2.1.2.2.2.2.1
  have ec := h.2.2.2.1.2.2.2.2.2
  intro n
  induction n with
  | zero => intro x u v; rfl
  | succ n ih =>
    intro x u v
    show st_X1_isGood_32 d (lp_X1_isGood_32 d n) x u v = st_X5_isGood_32 τ (lp_X5_isGood_32 τ n) x u v
    unfold st_X1_isGood_32 st_X5_isGood_32
    rw [e5, ec]
    generalize τ.2 16 0 (ix x) = c
    refine cif_c (fun _ => rfl) (fun _ => ?_)
    rw [ih]
    have l1 : (c < u) ↔ c.toInt < u.toInt := Int64.lt_iff_toInt_lt
    have l2 : (c < v) ↔ c.toInt < v.toInt := Int64.lt_iff_toInt_lt
    have e1 : (if c < u then u else c) = cif (c.toInt ≤ u.toInt) u c := by
      by_cases q : c.toInt ≤ u.toInt
      · rw [cif_t q]
        by_cases q2 : c < u
        · rw [if_pos q2]
        · rw [if_neg q2]; exact Int64.toInt_inj.mp (by have := Int.not_lt.mp (fun z => q2 (l1.mpr z)); omega)
      · rw [cif_f q, if_neg (fun z => q (by have := l1.mp z; omega))]
    have e2 : (if c < v then c else v) = cif (v.toInt ≤ c.toInt) v c := by
      by_cases q : v.toInt ≤ c.toInt
      · rw [cif_t q, if_neg (fun z => by have := l2.mp z; omega)]
      · rw [cif_f q, if_pos (l2.mpr (by omega))]
    rw [e1, e2]
    by_cases q1 : v.toInt ≤ c.toInt
    · rw [cif_t q1, cif_t q1]
      by_cases q2 : c.toInt ≤ u.toInt
      · rw [cif_t q2, cif_t q2]
      · rw [cif_f q2, cif_f q2]
    · rw [cif_f q1, cif_f q1]
      by_cases q2 : c.toInt ≤ u.toInt
      · rw [cif_t q2, cif_t q2]
      · rw [cif_f q2, cif_f q2]
theorem isGood_e (h : R1 d τ) : sp_X1_isGood d = sp_X5_isGood τ := by
  unfold sp_X1_isGood sp_X5_isGood
  rw [ig_e h, h.2.2.2.1.2.2.2.2.1, h.2.2.2.1.2.2.2.2.2]
theorem a1_proving (h : R1 d τ) (a : Int32) : sp_X4_proving d a = sp_X5_proving τ a := by
  unfold sp_X4_proving sp_X5_proving
  rw [in_iw (p := a) (lo := 0) (hi := 3) rfl rfl, isGood_e h]
  obtain ⟨g1, g2, g3, g4, g5⟩ := h
  refine cif_c (fun _ => ?_) (fun _ => rfl)
  by_cases q : (d.1 2 0 0).toInt = 0
  · have := g4.1.mp q
    rw [cif_t q, cif_f (by omega)]
  · have q2 : 0 ≤ (τ.1 0 0 12).toInt := by
      have := Int.not_lt.mp (fun z => q (g4.1.mpr z))
      omega
    rw [cif_f q, cif_t q2, g4.2.1 q2, g4.2.2.1, g4.2.2.2.2.1]
/-- the sum of the COUNTS from x on -/
noncomputable def totM (τ : Dt) : Nat → Int32 → Int64 → Int64
  | 0 => fun _ a => a
  | n + 1 => fun x a => cif ((τ.1 0 0 15).toInt ≤ x.toInt) a (totM τ n (x + 1) (a + τ.2 16 0 (ix x)))
theorem tot_M (p : Int32) : ∀ (n : Nat) (x : Int32) (a : Int64), 0 ≤ x.toInt → x.toInt ≤ (τ.1 0 0 15).toInt → (τ.1 0 0 15).toInt ≤ 12 → (τ.1 0 0 15).toInt - x.toInt < (n : Int) → lp_X5_accept_37 τ p n x a = cif (sp_X5_isNumber (sp_X5_rounded ((500 * ((τ.1 0 0 14).toInt64)) * ((τ.1 2 0 (ix (τ.1 0 0 12))).toInt64)) (totM τ n x a))) (cif ((τ.1 3 0 (ix (τ.1 0 0 12))).toInt = 12) (-4, τ) (((sp_X5_rounded ((500 * ((τ.1 0 0 14).toInt64)) * ((τ.1 2 0 (ix (τ.1 0 0 12))).toInt64)) (totM τ n x a)).toInt32, uv (sp_X5_addFactor τ (τ.1 0 0 12) (τ.1 0 0 13) p ((sp_X5_rounded ((500 * ((τ.1 0 0 14).toInt64)) * ((τ.1 2 0 (ix (τ.1 0 0 12))).toInt64)) (totM τ n x a)).toInt32)) 0 0 12 (-1)))) (-9, τ) := by
  intro n
  induction n with
  | zero => intro x a h0 h1 h2 h3; omega
  | succ n ih =>
    intro x a h0 h1 h2 h3
    show st_X5_accept_37 τ p (lp_X5_accept_37 τ p n) x a = _
    have et : totM τ (n + 1) x a = cif ((τ.1 0 0 15).toInt ≤ x.toInt) a (totM τ n (x + 1) (a + τ.2 16 0 (ix x))) := rfl
    rw [et]
    unfold st_X5_accept_37
    by_cases c : (τ.1 0 0 15).toInt ≤ x.toInt
    · rw [cif_t c, cif_t c]
    · rw [cif_f c, cif_f c]
      have e1 := ti1 (x := x) (by omega)
      exact ih _ _ (by omega) (by omega) h2 (by omega)
theorem tot_X (h : R1 d τ) (k : Int32) : ∀ (n : Nat) (x : Int32) (a : Int64), 0 ≤ x.toInt → x.toInt ≤ (τ.1 0 0 15).toInt → (τ.1 0 0 15).toInt - x.toInt < (n : Int) → lp_X1_factorOf_14 d k n x a = sp_X4_rounded ((500 * ((τ.1 0 0 14).toInt64)) * k.toInt64) (totM τ n x a) := by
  have e5 := h.2.2.2.1.2.2.2.2.1
  have e3 := h.2.2.2.1.2.2.2.1
  have ec := h.2.2.2.1.2.2.2.2.2
  intro n
  induction n with
  | zero => intro x a h0 h1 h3; omega
  | succ n ih =>
    intro x a h0 h1 h3
    show st_X1_factorOf_14 d k (lp_X1_factorOf_14 d k n) x a = _
    have et : totM τ (n + 1) x a = cif ((τ.1 0 0 15).toInt ≤ x.toInt) a (totM τ n (x + 1) (a + τ.2 16 0 (ix x))) := rfl
    rw [et]
    unfold st_X1_factorOf_14
    rw [e5, e3, ec]
    by_cases c : (τ.1 0 0 15).toInt ≤ x.toInt
    · rw [cif_t c, cif_t c]
    · rw [cif_f c, cif_f c]
      have e1 := ti1 (x := x) (by have := (τ.1 0 0 15).toInt_lt; omega)
      exact ih _ _ (by omega) (by omega) (by omega)
theorem tot_B (iM : MI τ) (g : ∀ j : Nat, (τ.1 0 0 15).toInt - 5 ≤ (j : Int) → (j : Int) < (τ.1 0 0 15).toInt → 0 < (τ.2 16 0 j).toInt) (g5 : 5 ≤ (τ.1 0 0 15).toInt) : ∀ (n : Nat) (x : Int32) (a : Int64), (τ.1 0 0 15).toInt - 5 ≤ x.toInt → x.toInt ≤ (τ.1 0 0 15).toInt → (τ.1 0 0 15).toInt - x.toInt < (n : Int) → 0 ≤ a.toInt → a.toInt ≤ 100000000000000 * (x.toInt - ((τ.1 0 0 15).toInt - 5)) → ((τ.1 0 0 15).toInt - 5 < x.toInt → 0 < a.toInt) → 0 < (totM τ n x a).toInt := by
  have h12 := iM.2.2.2.1
  intro n
  induction n with
  | zero => intro x a h0 h1 h3; omega
  | succ n ih =>
    intro x a h0 h1 h3 h4 h5 h6
    show 0 < (cif ((τ.1 0 0 15).toInt ≤ x.toInt) a (totM τ n (x + 1) (a + τ.2 16 0 (ix x)))).toInt
    by_cases c : (τ.1 0 0 15).toInt ≤ x.toInt
    · rw [cif_t c]; exact h6 (by omega)
    · rw [cif_f c]
      have e1 := ti1 (x := x) (by omega)
      have ei := ix_int (x := x) (by omega)
      have p1 := g (ix x) (by omega) (by omega)
      have p2 := iM.2.2.2.2.2.2.2.2 (ix x) (by omega)
      have e2 : (a + τ.2 16 0 (ix x)).toInt = a.toInt + (τ.2 16 0 (ix x)).toInt := tl_add (by omega) (by omega)
      exact ih _ _ (by omega) (by omega) (by omega) (by omega) (by omega) (fun _ => by omega)
theorem r1_X4_accept (h : R1 d τ) (iX : XI M T d) (iM : MI τ) (a : Int32) : J1 (sp_X4_accept d a) (sp_X5_accept τ a) := by
  unfold sp_X4_accept sp_X5_accept
  have g4 := h.2.2.2.1
  refine J1.c (isDay_e a).symm (fun _ => ?_) (fun _ => ⟨rfl, h⟩)
  refine J1.i g4.1 (fun _ => ⟨rfl, h⟩) (fun c2 => ?_)
  refine J1.c (isGood_e h) (fun c3 => ?_) (fun _ => ⟨rfl, h⟩)
  rw [isGood_e h] at c3
  have gd := gdm_of c3
  have f2 := iX.pm c2
  have fM := iX.1
  have f6 := iX.2.1
  have h12 := iM.2.2.2.1
  have q12 : 0 ≤ (τ.1 0 0 12).toInt := by
    have := Int.not_lt.mp (fun z => c2 (g4.1.mpr z))
    omega
  have em : d.1 2 0 1 = τ.1 0 0 12 := g4.2.1 q12
  have e5 : ((τ.1 0 0 15) - 5).toInt = (τ.1 0 0 15).toInt - 5 := ti_sub (by rw [show (5 : Int32).toInt = 5 from rfl]; omega) (by rw [show (5 : Int32).toInt = 5 from rfl]; omega)
  have ex : (if (0 : Int32) < (d.1 2 0 5) - 5 then (d.1 2 0 5) - 5 else 0) = (τ.1 0 0 15) - 5 := by
    rw [g4.2.2.2.2.1]
    exact Int32.toInt_inj.mp (mx0 (by omega))
  have ii := ix_int f2.1
  have h6 : ix (d.1 2 0 1) < 6 := by omega
  have hm : ((ix (d.1 2 0 1) : Nat) : Int) < (d.1 0 0 1).toInt := by omega
  have gm := (h.2.2.1 _ h6).1 hm
  have hf := iX.fc (i := ix (d.1 2 0 1)) (by omega)
  have hB := tot_B iM gd.2 gd.1 16 ((τ.1 0 0 15) - 5) 0 (by omega) (by omega) (by omega) (by rw [Int64.toInt_zero]; omega) (by rw [Int64.toInt_zero]; omega) (fun z => by omega)
  have eF : sp_X1_factorOf d (d.1 8 (ix (d.1 2 0 1)) 0) = sp_X5_rounded ((500 * ((τ.1 0 0 14).toInt64)) * ((τ.1 2 0 (ix (τ.1 0 0 12))).toInt64)) (totM τ 16 ((τ.1 0 0 15) - 5) 0) := by
    unfold sp_X1_factorOf
    rw [ex, tot_X h _ 16 _ _ (by omega) (by omega) (by omega)]
    unfold sp_X4_rounded sp_X5_rounded
    rw [cif_t hB, ← gm.1, em]
  rw [eF, tot_M a 16 _ _ (by omega) (by omega) (by omega) (by omega)]
  generalize sp_X5_rounded ((500 * ((τ.1 0 0 14).toInt64)) * ((τ.1 2 0 (ix (τ.1 0 0 12))).toInt64)) (totM τ 16 ((τ.1 0 0 15) - 5) 0) = F
  have l1 : (95000 : Int64).toInt = 95000 := rfl
  have l2 : (105000 : Int64).toInt = 105000 := rfl
  have nu : sp_X5_isNumber F ↔ 95000 ≤ F.toInt ∧ F.toInt ≤ 105000 := by unfold sp_X5_isNumber; rw [in_iff, l1, l2]
  by_cases n1 : F.toInt < 95000
  · rw [cif_t n1, cif_f (fun z => by have := nu.mp z; omega)]; exact ⟨rfl, h⟩
  rw [cif_f n1]
  by_cases n2 : F.toInt ≤ 105000
  · rw [cif_t n2, cif_t (nu.mpr ⟨by omega, n2⟩)]
    refine J1.i (by rw [full_iff, ← em, gm.2.2.1]; omega) (fun _ => ⟨rfl, h⟩) (fun c5 => ?_)
    have c5 : ¬ 12 ≤ (d.1 8 (ix (d.1 2 0 1)) 6).toInt := fun q => c5 (full_iff.mpr q)
    rw [← em]
    obtain ⟨_, k1, k2, k3, k4, k5⟩ := h.fac h6 hm ⟨hf.1, by omega⟩ (d.1 2 0 2) a F.toInt32 (τ.1 0 0 13) a F.toInt32
    generalize sp_X0_takeFactor d (ix (d.1 2 0 1)) (d.1 2 0 2) a F.toInt32 = d1 at k1 k2 k3 k4 k5 ⊢
    refine ⟨rfl, k1, k2, k3, ⟨⟨fun _ => by show (-1 : Int32).toInt < 0; decide, fun _ => ?_⟩, fun z => absurd z (by show ¬ 0 ≤ (-1 : Int32).toInt; decide), ?_, ?_, ?_, k4.2.2.2.2.2⟩, k5⟩
    · show ((uv d1 2 0 0 0).1 2 0 0).toInt = 0
      rw [uv_eq]; rfl
    · show (uv d1 2 0 0 0).1 2 0 2 = _
      rw [uv_ne (by decide)]; exact k4.2.2.1
    · show (uv d1 2 0 0 0).1 2 0 3 = _
      rw [uv_ne (by decide)]; exact k4.2.2.2.1
    · show (uv d1 2 0 0 0).1 2 0 5 = _
      rw [uv_ne (by decide)]; exact k4.2.2.2.2.1
  · rw [cif_f n2, cif_f (fun z => by have := nu.mp z; omega)]; exact ⟨rfl, h⟩
theorem r1_X4_shut (h : R1 d τ) (a : Int32) : J1 (sp_X4_shut d a) (sp_X5_shut τ a) := by
  unfold sp_X4_shut sp_X5_shut
  refine J1.c (isDay_e a).symm (fun _ => ?_) (fun _ => ⟨rfl, h⟩)
  refine J1.c (by rw [h.2.1]) (fun _ => ?_) (fun _ => ⟨rfl, h⟩)
  obtain ⟨g1, g2, g3, g4, g5⟩ := h
  exact ⟨g2.symm, g1, rfl, g3, g4, g5⟩
theorem ix6 {l m : Int32} (h0 : 0 ≤ l.toInt) (h4 : l.toInt < 4) (m0 : 0 ≤ m.toInt) (m6 : m.toInt < 6) : ix ((6 * l) + m) = 6 * ix l + ix m := by
  have e := (lin (a := 6) (z := 6) (x := l) (y := m) rfl ⟨by decide, by decide⟩ ⟨h0, by omega⟩ ⟨m0, by omega⟩).1
  have i1 := ix_int h0
  have i2 := ix_int m0
  exact ix_of (by rw [e]; omega)
theorem ix60 {l m : Int32} (h0 : 0 ≤ l.toInt) (h4 : l.toInt < 4) (m0 : 0 ≤ m.toInt) (m6 : m.toInt ≤ 200) : ix ((60 * l) + m) = 60 * ix l + ix m := by
  have e := (lin (a := 60) (z := 60) (x := l) (y := m) rfl ⟨by decide, by decide⟩ ⟨h0, by omega⟩ ⟨m0, by omega⟩).1
  have i1 := ix_int h0
  have i2 := ix_int m0
  exact ix_of (by rw [e]; omega)
theorem r1_X4_line (h : R1 d τ) (iX : XI M T d) (a b c : Int32) : J1 (sp_X4_line d a b c) (sp_X5_line τ a b c) := by
  unfold sp_X4_line sp_X5_line
  refine J1.n (noLine_e a) (fun c1 => ?_) (fun _ => ⟨rfl, h⟩)
  refine J1.n (h.nm iX b) (fun c2 => ?_) (fun _ => ⟨rfl, h⟩)
  refine J1.c (in_iw (p := c) (lo := -1) (hi := 1) rfl rfl).symm (fun _ => ?_) (fun _ => ⟨rfl, h⟩)
  have f1 := il_of c1
  have f2 := im_of iX c2
  have f6 := iX.2.1
  have i1 := ix_int f1.1
  have i2 := ix_int f2.1
  obtain ⟨h6, hm, gm⟩ := h.mt iX c2
  rw [ix6 f1.1 f1.2 f2.1 (by omega), gm.2.2.2 (ix a) (by omega)]
  have hR : R1 (uv d 9 (ix b) (ix a) c) (uv τ 27 0 (6 * ix a + ix b) c) := by
    obtain ⟨g1, g2, g3, g4, g5⟩ := h
    refine ⟨g1, g2, fun j hj => ⟨fun hc => ?_, fun hc => ?_⟩, g4, g5⟩
    · have gj := (g3 j hj).1 hc
      refine ⟨gj.1, gj.2.1, gj.2.2.1, fun l hl => ?_⟩
      by_cases q : j = ix b ∧ l = ix a
      · rw [q.1, q.2, uv_eq, uv_eq]
      · rw [uv_at (show 6 * l + j ≠ 6 * ix a + ix b by omega)]
        by_cases q2 : j = ix b
        · rw [q2, uv_at (fun z => q ⟨q2, z⟩), ← q2]; exact gj.2.2.2 l hl
        · rw [uv_off _ _ _ _ _ _ _ (fun z => q2 z.2)]; exact gj.2.2.2 l hl
    · have gj := (g3 j hj).2 hc
      have hc : (d.1 0 0 1).toInt ≤ (j : Int) := hc
      refine ⟨gj.1, gj.2.1, fun l hl => ?_⟩
      rw [uv_at (show 6 * l + j ≠ 6 * ix a + ix b by omega)]; exact gj.2.2 l hl
  exact J1.c rfl (fun _ => ⟨rfl, hR⟩) (fun _ => ⟨rfl, hR⟩)
theorem a1_lined (h : R1 d τ) (iX : XI M T d) (a b : Int32) : sp_X4_lined d a b = sp_X5_lined τ a b := by
  unfold sp_X4_lined sp_X5_lined
  rw [noLine_e, cif_n, h.nm iX, cif_n]
  refine cif_c (fun c1 => cif_c (fun c2 => ?_) (fun _ => rfl)) (fun _ => rfl)
  have f1 := il_of c1
  have f2 := im_of iX c2
  have f6 := iX.2.1
  have i1 := ix_int f1.1
  obtain ⟨h6, hm, gm⟩ := h.mt iX c2
  rw [ix6 f1.1 f1.2 f2.1 (by omega), gm.2.2.2 (ix a) (by omega)]
theorem r1_X4_end (h : R1 d τ) (iX : XI M T d) (a b : Int32) : J1 (sp_X4_end d a b) (sp_X5_end τ a b) := by
  unfold sp_X4_end sp_X5_end
  refine J1.n (h.nm iX a) (fun c2 => ?_) (fun _ => ⟨rfl, h⟩)
  refine J1.c (in_iw (p := b) (lo := 0) (hi := 5000) rfl rfl).symm (fun _ => ?_) (fun _ => ⟨rfl, h⟩)
  obtain ⟨h6, hm, gm⟩ := h.mt iX c2
  refine ⟨gm.2.1.symm, ?_⟩
  obtain ⟨g1, g2, g3, g4, g5⟩ := h
  refine ⟨g1, g2, fun j hj => ⟨fun hc => ?_, fun hc => ?_⟩, g4, g5⟩
  · have gj := (g3 j hj).1 hc
    refine ⟨?_, ?_, ?_, gj.2.2.2⟩
    · show τ.1 2 0 j = (uv d 8 (ix a) 1 b).1 8 j 0
      rw [uv_ne (by decide)]; exact gj.1
    · show (uv τ 7 0 (ix a) b).1 7 0 j = (uv d 8 (ix a) 1 b).1 8 j 1
      by_cases q : j = ix a
      · rw [q, uv_eq, uv_eq]
      · rw [uv_at q, uv_off _ _ _ _ _ _ _ (fun z => q z.2)]; exact gj.2.1
    · show τ.1 3 0 j = (uv d 8 (ix a) 1 b).1 8 j 6
      rw [uv_ne (by decide)]; exact gj.2.2.1
  · have gj := (g3 j hj).2 hc
    have hc : (d.1 0 0 1).toInt ≤ (j : Int) := hc
    refine ⟨?_, gj.2.1, gj.2.2⟩
    show (uv τ 7 0 (ix a) b).1 7 0 j = 0
    rw [uv_at (by omega)]; exact gj.1
end R1S
