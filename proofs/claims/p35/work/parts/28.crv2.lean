/-! ===== the class's FACTORS and its curve ===== -/
def rowX (d : Dt) (i : Nat) : Nat → Pt := fun j => (d.1 10 i j, d.1 11 i j, d.1 12 i j)
theorem rowX_w {e : Dt} {i X : Nat} {u v w : Int32} (j : Nat) : rowX (uv (uv (uv e 10 i X u) 11 i X v) 12 i X w) i j = if j = X then (u, v, w) else rowX e i j := by
  show ((uv e 10 i X u).1 10 i j, (uv (uv e 10 i X u) 11 i X v).1 11 i j, (uv (uv (uv e 10 i X u) 11 i X v) 12 i X w).1 12 i j) = _
  by_cases q : j = X
  · rw [if_pos q, q, uv_eq, uv_eq, uv_eq]
  · rw [if_neg q, uv_at q, uv_at q, uv_at q]; rfl
theorem rowX_o {e : Dt} {i X : Nat} {u v w : Int32} {i' : Nat} (h : i' ≠ i) : rowX (uv (uv (uv e 10 i X u) 11 i X v) 12 i X w) i' = rowX e i' := by
  funext j
  show ((uv e 10 i X u).1 10 i' j, (uv (uv e 10 i X u) 11 i X v).1 11 i' j, (uv (uv (uv e 10 i X u) 11 i X v) 12 i X w).1 12 i' j) = _
  have o : ∀ (f : Dt) (k X : Nat) (x : Int32), (uv f k i X x).1 k i' = f.1 k i' := fun f k X x => uv_off _ _ _ _ _ _ _ (fun z => h z.2)
  rw [o, o, o]; rfl
theorem sb_iff {e : Dt} {i : Nat} {y a b c : Int32} : sp_X0_standsBehind e i y a b ↔ lts (a, b, c) (rowX e i (ix y)) := by
  unfold sp_X0_standsBehind lts
  show _ ↔ a.toInt < (e.1 10 i (ix y)).toInt ∨ (a.toInt = (e.1 10 i (ix y)).toInt ∧ b.toInt < (e.1 11 i (ix y)).toInt)
  by_cases c1 : a.toInt < (e.1 10 i (ix y)).toInt
  · rw [cif_t c1]; exact ⟨fun _ => Or.inl c1, fun _ => trivial⟩
  · rw [cif_f c1]
    by_cases c2 : (e.1 10 i (ix y)).toInt = a.toInt
    · rw [cif_t c2]
      by_cases c3 : (e.1 11 i (ix y)).toInt ≤ b.toInt
      · rw [cif_t c3]; exact ⟨fun z => z.elim, fun z => by omega⟩
      · rw [cif_f c3]; exact ⟨fun _ => by omega, fun _ => trivial⟩
    · rw [cif_f c2]; exact ⟨fun z => z.elim, fun z => by omega⟩
theorem tf_rows (d0 : Dt) (i : Nat) (a b c : Int32) (F : Nat → Pt) (N : Nat) : ∀ (n : Nat) (x : Int32) (e : Dt), x.toInt < (n : Int) → 0 ≤ x.toInt → ix x ≤ N → (∀ j, j < ix x → rowX e i j = F j) → (∀ j, ix x ≤ j → j < N → rowX e i (j + 1) = F j) → (∀ j, ix x ≤ j → j < N → lts (a, b, c) (F j)) → (∃ k, k ≤ N ∧ (∀ j, j < k → rowX (lp_X0_takeFactor_6 d0 i a b c n x e) i j = F j) ∧ rowX (lp_X0_takeFactor_6 d0 i a b c n x e) i k = (a, b, c) ∧ (∀ j, k ≤ j → j < N → rowX (lp_X0_takeFactor_6 d0 i a b c n x e) i (j + 1) = F j ∧ lts (a, b, c) (F j)) ∧ (k = 0 ∨ ¬ lts (a, b, c) (F (k - 1)))) ∧ ∀ i', i' ≠ i → rowX (lp_X0_takeFactor_6 d0 i a b c n x e) i' = rowX e i' := by
  intro n
  induction n with
  | zero => intro x e h0 h1; omega
  | succ n ih =>
    intro x e h0 h1 h2 h3 h4 h5
    have hE : lp_X0_takeFactor_6 d0 i a b c (n + 1) x e = cif (x.toInt ≤ 0) (uv (uv (uv (uv e 10 i (ix x) a) 11 i (ix x) b) 12 i (ix x) c) 8 i 6 ((e.1 8 i 6) + 1)) (cif (sp_X0_standsBehind e i (x - 1) a b) (lp_X0_takeFactor_6 d0 i a b c n (x + (-1)) (uv (uv (uv e 10 i (ix x) (e.1 10 i (ix (x - 1)))) 11 i (ix x) (e.1 11 i (ix (x - 1)))) 12 i (ix x) (e.1 12 i (ix (x - 1))))) (uv (uv (uv (uv e 10 i (ix x) a) 11 i (ix x) b) 12 i (ix x) c) 8 i 6 ((e.1 8 i 6) + 1))) := rfl
    have ei := ix_int h1
    have fin : (ix x = 0 ∨ ¬ lts (a, b, c) (F (ix x - 1))) → (∃ k, k ≤ N ∧ (∀ j, j < k → rowX (uv (uv (uv (uv e 10 i (ix x) a) 11 i (ix x) b) 12 i (ix x) c) 8 i 6 ((e.1 8 i 6) + 1)) i j = F j) ∧ rowX (uv (uv (uv (uv e 10 i (ix x) a) 11 i (ix x) b) 12 i (ix x) c) 8 i 6 ((e.1 8 i 6) + 1)) i k = (a, b, c) ∧ (∀ j, k ≤ j → j < N → rowX (uv (uv (uv (uv e 10 i (ix x) a) 11 i (ix x) b) 12 i (ix x) c) 8 i 6 ((e.1 8 i 6) + 1)) i (j + 1) = F j ∧ lts (a, b, c) (F j)) ∧ (k = 0 ∨ ¬ lts (a, b, c) (F (k - 1)))) ∧ ∀ i', i' ≠ i → rowX (uv (uv (uv (uv e 10 i (ix x) a) 11 i (ix x) b) 12 i (ix x) c) 8 i 6 ((e.1 8 i 6) + 1)) i' = rowX e i' := fun hk => by
      have ew : ∀ i', rowX (uv (uv (uv (uv e 10 i (ix x) a) 11 i (ix x) b) 12 i (ix x) c) 8 i 6 ((e.1 8 i 6) + 1)) i' = rowX (uv (uv (uv e 10 i (ix x) a) 11 i (ix x) b) 12 i (ix x) c) i' := fun _ => rfl
      refine ⟨⟨ix x, h2, fun j hj => ?_, ?_, fun j h6 h7 => ⟨?_, h5 j h6 h7⟩, hk⟩, fun i' hi => by rw [ew, rowX_o hi]⟩
      · rw [ew, rowX_w, if_neg (by omega)]; exact h3 j hj
      · rw [ew, rowX_w, if_pos rfl]
      · rw [ew, rowX_w, if_neg (by omega)]; exact h4 j h6 h7
    rw [hE]
    by_cases c1 : x.toInt ≤ 0
    · rw [cif_t c1]; exact fin (Or.inl (by omega))
    · rw [cif_f c1]
      have e1 := tim1 (x := x) (by omega)
      have s1 := ts1 (x := x) (by omega)
      have ex : ix (x + (-1)) = ix x - 1 := ix_of (by rw [e1]; omega)
      have es : ix (x - 1) = ix x - 1 := ix_of (by rw [s1]; omega)
      have hr := h3 (ix x - 1) (by omega)
      by_cases c2 : sp_X0_standsBehind e i (x - 1) a b
      · rw [cif_t c2]
        have c2 := sb_iff (c := c).mp c2
        rw [es, hr] at c2
        obtain ⟨r1, r2⟩ := ih (x + (-1)) (uv (uv (uv e 10 i (ix x) (e.1 10 i (ix (x - 1)))) 11 i (ix x) (e.1 11 i (ix (x - 1)))) 12 i (ix x) (e.1 12 i (ix (x - 1)))) (by omega) (by omega) (by omega) (fun j hj => by
          rw [rowX_w, if_neg (by omega)]; exact h3 j (by omega)) (fun j h6 h7 => by
          rw [rowX_w]
          by_cases z : j + 1 = ix x
          · rw [if_pos z, es, show j = ix x - 1 by omega]; exact hr
          · rw [if_neg z]; exact h4 j (by omega) h7) (fun j h6 h7 => by
          by_cases z : j = ix x - 1
          · rw [z]; exact c2
          · exact h5 j (by omega) h7)
        exact ⟨r1, fun i' hi => by rw [r2 i' hi, rowX_o hi]⟩
      · rw [cif_f c2]
        refine fin (Or.inr (fun z => c2 (sb_iff (c := c).mpr ?_)))
        rw [es, hr]; exact z
theorem ins_SF {F G : Nat → Pt} {p : Pt} {k N : Nat} (h : SF F N) (hk : k ≤ N) (h1 : ∀ j, j < k → G j = F j) (h2 : G k = p) (h3 : ∀ j, k ≤ j → j < N → G (j + 1) = F j ∧ lts p (F j)) (h4 : ∀ j, j < k → ¬ lts p (F j)) : SF G (N + 1) := by
  intro j l hj hl
  by_cases q1 : l < k
  · rw [h1 l q1, h1 j (by omega)]; exact h j l hj (by omega)
  · by_cases q2 : l = k
    · rw [q2, h2, h1 j (by omega)]; exact h4 j (by omega)
    · have el : G l = F (l - 1) := by have := (h3 (l - 1) (by omega) (by omega)).1; rw [show l - 1 + 1 = l by omega] at this; exact this
      rw [el]
      by_cases q3 : j < k
      · rw [h1 j q3]; exact h j (l - 1) (by omega) (by omega)
      · by_cases q4 : j = k
        · rw [q4, h2]
          have g := (h3 (l - 1) (by omega) (by omega)).2
          unfold lts at g ⊢; omega
        · have ej : G j = F (j - 1) := by have := (h3 (j - 1) (by omega) (by omega)).1; rw [show j - 1 + 1 = j by omega] at this; exact this
          rw [ej]; exact h (j - 1) (l - 1) (by omega) (by omega)
theorem lts_tr {p q r : Pt} (h1 : lts p q) (h2 : ¬ lts r q) : lts p r := by unfold lts at *; omega
/-- a FACTOR more: the class's list with it in its place -/
theorem tf_list {d : Dt} {i : Nat} {a b c : Int32} {N : Nat} (hN : (d.1 8 i 6).toInt = (N : Int)) (h12 : N ≤ 12) (h : SF (rowX d i) N) : rl (rowX (sp_X0_takeFactor d i a b c) i) (N + 1) 0 = insF (a, b, c) (rl (rowX d i) N 0) ∧ SF (rowX (sp_X0_takeFactor d i a b c) i) (N + 1) ∧ (∀ j, j < N + 1 → (∃ l, l < N ∧ rowX (sp_X0_takeFactor d i a b c) i j = rowX d i l) ∨ rowX (sp_X0_takeFactor d i a b c) i j = (a, b, c)) ∧ ∀ i', i' ≠ i → rowX (sp_X0_takeFactor d i a b c) i' = rowX d i' := by
  have e0 : ix (d.1 8 i 6) = N := ix_of hN
  obtain ⟨⟨k, k1, k2, k3, k4, k5⟩, ho⟩ := tf_rows d i a b c (rowX d i) N 16 (d.1 8 i 6) d (by omega) (by omega) (by omega) (fun _ _ => rfl) (fun j h1 h2 => by omega) (fun j h1 h2 => by omega)
  have k2 : ∀ j, j < k → rowX (sp_X0_takeFactor d i a b c) i j = rowX d i j := k2
  have k3 : rowX (sp_X0_takeFactor d i a b c) i k = (a, b, c) := k3
  have k4 : ∀ j, k ≤ j → j < N → rowX (sp_X0_takeFactor d i a b c) i (j + 1) = rowX d i j ∧ lts (a, b, c) (rowX d i j) := k4
  have ho : ∀ i', i' ≠ i → rowX (sp_X0_takeFactor d i a b c) i' = rowX d i' := ho
  have k6 : ∀ j, j < k → ¬ lts (a, b, c) (rowX d i j) := fun j hj z => by
    rcases k5 with k5 | k5
    · omega
    · by_cases q : j = k - 1
      · rw [q] at z; exact k5 z
      · exact k5 (lts_tr z (h j (k - 1) (by omega) (by omega)))
  refine ⟨rl_insF k3 N 0 (by omega) (by omega) (fun j _ hj => ⟨k2 j hj, k6 j hj⟩) (fun z => (k4 k (Nat.le_refl _) (by omega)).2) (fun j h1 h2 => (k4 j h1 (by omega)).1), ins_SF h k1 k2 k3 k4 k6, fun j hj => ?_, ho⟩
  by_cases q1 : j < k
  · exact Or.inl ⟨j, by omega, k2 j q1⟩
  · by_cases q2 : j = k
    · exact Or.inr (by rw [q2]; exact k3)
    · refine Or.inl ⟨j - 1, by omega, ?_⟩
      have := (k4 (j - 1) (by omega) (by omega)).1
      rw [show j - 1 + 1 = j by omega] at this; exact this
theorem con_e {D : Int} {q : Pt} {C : List Pt} (hd : q.2.1.toInt ≤ D) : conF D q C = cif (∃ c C', C = c :: C' ∧ c.1.toInt = q.1.toInt) C (q :: C) := by
  unfold conF
  rw [cif_t hd]
  cases C with
  | nil => rw [cif_f (fun ⟨c, C', h, _⟩ => absurd h.symm (List.cons_ne_nil _ _))]
  | cons c C =>
    show cif (c.1.toInt = q.1.toInt) (c :: C) (q :: c :: C) = _
    by_cases z : c.1.toInt = q.1.toInt
    · rw [cif_t z, cif_t ⟨c, C, rfl, z⟩]
    · rw [cif_f z, cif_f (fun ⟨c', C', h, g⟩ => z (by rw [(List.cons.inj h).1]; exact g))]
theorem cu_step {d : Dt} {i : Nat} {x D : Int32} {N a : Nat} (hN : (d.1 8 i 6).toInt = (N : Int)) (h12 : N ≤ 12) (h : SF (rowX d i) N) (hx : x.toInt = (a : Int)) (ha : a < N) : cuF D.toInt (rl (rowX d i) (N - a) a) = cif (sp_X0_isOnCurve d i x D) (rowX d i a :: cuF D.toInt (rl (rowX d i) (N - (a + 1)) (a + 1))) (cuF D.toInt (rl (rowX d i) (N - (a + 1)) (a + 1))) := by
  obtain ⟨m, hm⟩ : ∃ m, N - a = m + 1 := ⟨N - a - 1, by omega⟩
  rw [hm, show N - (a + 1) = m by omega]
  have hs : srt (rowX d i a :: rl (rowX d i) m (a + 1)) := SF.srt (m + 1) a N h (by omega)
  show conF D.toInt (rowX d i a) (cuF D.toInt (rl (rowX d i) m (a + 1))) = _
  have ex : ix x = a := ix_of hx
  have e1 := ti1 (x := x) (by omega)
  have ex1 : ix (x + 1) = a + 1 := ix_of (by rw [e1]; omega)
  have eon : sp_X0_isOnCurve d i x D = cif ((d.1 11 i a).toInt ≤ D.toInt) (cif ((d.1 8 i 6).toInt ≤ (x + 1).toInt) True (cif ((d.1 10 i (a + 1)).toInt = (d.1 10 i a).toInt) (cif ((d.1 11 i (a + 1)).toInt ≤ D.toInt) False True) True)) False := by
    unfold sp_X0_isOnCurve; rw [ex, ex1]
  rw [eon]
  by_cases c1 : (d.1 11 i a).toInt ≤ D.toInt
  · rw [con_e (show (rowX d i a).2.1.toInt ≤ D.toInt from c1), propext (cu_next hs (show (rowX d i a).2.1.toInt ≤ D.toInt from c1)), cif_t c1]
    by_cases c2 : (d.1 8 i 6).toInt ≤ (x + 1).toInt
    · have m0 : m = 0 := by omega
      subst m0
      rw [cif_t c2, cif_T, cif_f (fun ⟨r, R, h, _⟩ => absurd h.symm (List.cons_ne_nil _ _))]
    · rw [cif_f c2]
      obtain ⟨m', hm'⟩ : ∃ m', m = m' + 1 := ⟨m - 1, by omega⟩
      subst hm'
      have key : (∃ r R, rl (rowX d i) (m' + 1) (a + 1) = r :: R ∧ r.1.toInt = (rowX d i a).1.toInt ∧ r.2.1.toInt ≤ D.toInt) ↔ (d.1 10 i (a + 1)).toInt = (d.1 10 i a).toInt ∧ (d.1 11 i (a + 1)).toInt ≤ D.toInt := by
        constructor
        · rintro ⟨r, R, h, g1, g2⟩
          have e := (List.cons.inj h).1
          rw [← e] at g1 g2
          exact ⟨g1, g2⟩
        · rintro ⟨g1, g2⟩
          exact ⟨rowX d i (a + 1), rl (rowX d i) m' (a + 1 + 1), rfl, g1, g2⟩
      rw [propext key]
      by_cases c3 : (d.1 10 i (a + 1)).toInt = (d.1 10 i a).toInt
      · rw [cif_t c3]
        by_cases c4 : (d.1 11 i (a + 1)).toInt ≤ D.toInt
        · rw [cif_t c4, cif_F, cif_t ⟨c3, c4⟩]
        · rw [cif_f c4, cif_T, cif_f (fun z => c4 z.2)]
      · rw [cif_f c3, cif_T, cif_f (fun z => c3 z.1)]
  · rw [cif_f c1, cif_F]
    unfold conF
    rw [cif_f (show ¬ (rowX d i a).2.1.toInt ≤ D.toInt from c1)]
theorem cs_l {d : Dt} {i : Nat} {D : Int32} {N : Nat} (hN : (d.1 8 i 6).toInt = (N : Int)) (h12 : N ≤ 12) (h : SF (rowX d i) N) : ∀ (n : Nat) (x c : Int32) (a : Nat), x.toInt = (a : Int) → a ≤ N → N - a < n → 0 ≤ c.toInt → c.toInt ≤ (a : Int) → (lp_X0_curveSize_4 d i D n x c).toInt = c.toInt + (cuF D.toInt (rl (rowX d i) (N - a) a)).length := by
  intro n
  induction n with
  | zero => intro x c a h1 h2 h3; omega
  | succ n ih =>
    intro x c a h1 h2 h3 h4 h5
    show (cif ((d.1 8 i 6).toInt ≤ x.toInt) c (cif (sp_X0_isOnCurve d i x D) (lp_X0_curveSize_4 d i D n (x + 1) (c + 1)) (lp_X0_curveSize_4 d i D n (x + 1) (c + 0)))).toInt = _
    by_cases q : (d.1 8 i 6).toInt ≤ x.toInt
    · have e : N - a = 0 := by omega
      rw [cif_t q, e]
      show c.toInt = c.toInt + ((([] : List Pt).length : Nat) : Int)
      simp
    · rw [cif_f q]
      have e1 := ti1 (x := x) (by omega)
      have e2 := ti1 (x := c) (by omega)
      rw [cu_step hN h12 h h1 (by omega)]
      by_cases z : sp_X0_isOnCurve d i x D
      · rw [cif_t z, cif_t z, ih (x + 1) (c + 1) (a + 1) (by omega) (by omega) (by omega) (by omega) (by omega), e2, List.length_cons]
        omega
      · rw [cif_f z, cif_f z, Int32.add_zero, ih (x + 1) c (a + 1) (by omega) (by omega) (by omega) h4 (by omega)]
noncomputable def btw (b a : Pt) (fl : Int32) : Int32 := cif ((a.1 - b.1).toInt = 0) b.2.2 (b.2.2 + (((a.2.2 - b.2.2) * (fl - b.1)) / (a.1 - b.1)))
noncomputable def finL (fl : Int32) : Option Pt → Option Pt → Int32
  | none, none => 100000
  | some a, none => a.2.2
  | none, some b => b.2.2
  | some a, some b => btw b a fl
noncomputable def upA (fl : Int32) (c : Pt) : Option Pt → Option Pt
  | none => cif (fl.toInt ≤ c.1.toInt) (some c) none
  | some a => some a
noncomputable def faL (fl : Int32) : List Pt → Option Pt → Option Pt → Int32
  | [] => fun ab be => finL fl ab be
  | c :: C => fun ab be => faL fl C (upA fl c ab) (cif (c.1.toInt ≤ fl.toInt) (some c) be)
def plX (F : Nat → Pt) (x : Int32) (o : Option Pt) : Prop := (x.toInt = -9 ∧ o = none) ∨ (0 ≤ x.toInt ∧ o = some (F (ix x)))
theorem fa_l {d : Dt} {i : Nat} {D fl : Int32} {N : Nat} (hN : (d.1 8 i 6).toInt = (N : Int)) (h12 : N ≤ 12) (h : SF (rowX d i) N) : ∀ (n : Nat) (x y z : Int32) (a : Nat) (ab be : Option Pt), x.toInt = (a : Int) → a ≤ N → N - a < n → plX (rowX d i) y ab → plX (rowX d i) z be → lp_X0_factorAt_10 d i fl D n x y z = faL fl (cuF D.toInt (rl (rowX d i) (N - a) a)) ab be := by
  have m9 : (-9 : Int32).toInt = -9 := rfl
  intro n
  induction n with
  | zero => intro x y z a ab be h1 h2 h3; omega
  | succ n ih =>
    intro x y z a ab be h1 h2 h3 hy hz
    show st_X0_factorAt_10 d i fl D (lp_X0_factorAt_10 d i fl D n) x y z = _
    unfold st_X0_factorAt_10
    by_cases q : (d.1 8 i 6).toInt ≤ x.toInt
    · have e : N - a = 0 := by omega
      rw [cif_t q, e]
      show _ = finL fl ab be
      rcases hz with ⟨hz, rfl⟩ | ⟨hz, rfl⟩
      · rw [cif_t hz]
        rcases hy with ⟨hy, rfl⟩ | ⟨hy, rfl⟩
        · rw [cif_t hy]; rfl
        · rw [cif_f (by omega)]; rfl
      · rw [cif_f (by omega)]
        rcases hy with ⟨hy, rfl⟩ | ⟨hy, rfl⟩
        · rw [cif_t hy]; rfl
        · rw [cif_f (by omega)]; rfl
    · rw [cif_f q, cu_step hN h12 h h1 (by omega)]
      have e1 := ti1 (x := x) (by omega)
      have ex : ix x = a := ix_of h1
      have px : plX (rowX d i) x (some (rowX d i a)) := Or.inr ⟨by omega, by rw [ex]⟩
      have r1 : ∀ (y z : Int32) (ab be : Option Pt), plX (rowX d i) y ab → plX (rowX d i) z be → lp_X0_factorAt_10 d i fl D n (x + 1) y z = faL fl (cuF D.toInt (rl (rowX d i) (N - (a + 1)) (a + 1))) ab be := fun y z ab be g1 g2 => ih (x + 1) y z (a + 1) ab be (by omega) (by omega) (by omega) g1 g2
      by_cases w : sp_X0_isOnCurve d i x D
      · rw [cif_t w, cif_t w, ex]
        show _ = faL fl (cuF D.toInt (rl (rowX d i) (N - (a + 1)) (a + 1))) (upA fl (rowX d i a) ab) (cif ((d.1 10 i a).toInt ≤ fl.toInt) (some (rowX d i a)) be)
        have ua : ∀ (hy : plX (rowX d i) y ab) (g : fl.toInt ≤ (d.1 10 i a).toInt), (y.toInt = -9 ∧ upA fl (rowX d i a) ab = some (rowX d i a)) ∨ (¬ y.toInt = -9 ∧ upA fl (rowX d i a) ab = ab) := fun hy' g => by
          rcases hy' with ⟨hy1, rfl⟩ | ⟨hy1, rfl⟩
          · exact Or.inl ⟨hy1, cif_t g⟩
          · exact Or.inr ⟨by omega, rfl⟩
        have ub : ∀ (g : ¬ fl.toInt ≤ (d.1 10 i a).toInt), upA fl (rowX d i a) ab = ab := fun g => by
          cases ab with
          | none => exact cif_f g
          | some _ => rfl
        by_cases k1 : fl.toInt < (d.1 10 i a).toInt
        · rw [cif_t k1, cif_f (show ¬ (d.1 10 i a).toInt < fl.toInt by omega), cif_f (show ¬ (d.1 10 i a).toInt ≤ fl.toInt by omega)]
          rcases ua hy (by omega) with ⟨g1, g2⟩ | ⟨g1, g2⟩
          · rw [cif_t g1, g2]; exact r1 _ _ _ _ px hz
          · rw [cif_f g1, g2]; exact r1 _ _ _ _ hy hz
        · rw [cif_f k1]
          rw [cif_t (show (d.1 10 i a).toInt ≤ fl.toInt by omega)]
          by_cases k2 : (d.1 10 i a).toInt < fl.toInt
          · rw [cif_t k2, ub (by omega)]; exact r1 _ _ _ _ hy px
          · rw [cif_f k2]
            rcases ua hy (by omega) with ⟨g1, g2⟩ | ⟨g1, g2⟩
            · rw [cif_t g1, g2]; exact r1 _ _ _ _ px px
            · rw [cif_f g1, g2]; exact r1 _ _ _ _ hy px
      · rw [cif_f w, cif_f w]; exact r1 _ _ _ _ hy hz
theorem fa_X {d : Dt} {i : Nat} {D fl : Int32} {N : Nat} (hN : (d.1 8 i 6).toInt = (N : Int)) (h12 : N ≤ 12) (h : SF (rowX d i) N) : sp_X0_factorAt d i fl D = faL fl (cuF D.toInt (rl (rowX d i) N 0)) none none :=
  fa_l hN h12 h 16 0 (-9) (-9) 0 none none rfl (Nat.zero_le _) (by omega) (Or.inl ⟨rfl, rfl⟩) (Or.inl ⟨rfl, rfl⟩)
theorem cs_X {d : Dt} {i : Nat} {D : Int32} {N : Nat} (hN : (d.1 8 i 6).toInt = (N : Int)) (h12 : N ≤ 12) (h : SF (rowX d i) N) : (sp_X0_curveSize d i D).toInt = (cuF D.toInt (rl (rowX d i) N 0)).length := by
  have e := cs_l (D := D) hN h12 h 16 0 0 0 rfl (Nat.zero_le _) (by omega) (by decide) (by decide)
  rw [Int32.toInt_zero, Int.zero_add] at e; exact e
/-! the factor at a flow: the two ways of looking -/
noncomputable def itp (b a : Pt) (fl : Int32) : Int32 := (((b.2.2.toInt64) + (((a.2.2.toInt64) - (b.2.2.toInt64)) * (fl.toInt64 - (b.1.toInt64))) / ((a.1.toInt64) - (b.1.toInt64)))).toInt32
noncomputable def ltL : Option Pt → Int32
  | none => 100000
  | some p => p.2.2
noncomputable def nxL (fl : Int32) (c : Pt) : Option Pt → Int32
  | none => c.2.2
  | some p => cif (c.1.toInt = fl.toInt) c.2.2 (itp p c fl)
noncomputable def rfL (fl : Int32) : List Pt → Option Pt → Int32
  | [] => fun pr => ltL pr
  | c :: C => fun pr => cif (c.1.toInt < fl.toInt) (rfL fl C (some c)) (nxL fl c pr)
def ptB (p : Pt) : Prop := 1 ≤ p.1.toInt ∧ p.1.toInt ≤ 10000 ∧ 95000 ≤ p.2.2.toInt ∧ p.2.2.toInt ≤ 105000
theorem btw_itp {b a : Pt} {fl : Int32} (hb : ptB b) (ha : ptB a) (h1 : b.1.toInt < fl.toInt) (h2 : fl.toInt < a.1.toInt) : btw b a fl = itp b a fl := by
  unfold ptB at hb ha
  have x1 : (a.1 - b.1).toInt = a.1.toInt - b.1.toInt := ti_sub (by omega) (by omega)
  have x2 : (a.2.2 - b.2.2).toInt = a.2.2.toInt - b.2.2.toInt := ti_sub (by omega) (by omega)
  have x3 : (fl - b.1).toInt = fl.toInt - b.1.toInt := ti_sub (by omega) (by omega)
  obtain ⟨A, eA⟩ : ∃ A, A = a.2.2.toInt - b.2.2.toInt := ⟨_, rfl⟩
  obtain ⟨B, eB⟩ : ∃ B, B = fl.toInt - b.1.toInt := ⟨_, rfl⟩
  obtain ⟨E, eE⟩ : ∃ E, E = a.1.toInt - b.1.toInt := ⟨_, rfl⟩
  have l1 : A * B ≤ 10000 * 10000 := Int.le_trans (Int.mul_le_mul_of_nonneg_right (by omega : A ≤ 10000) (by omega)) (Int.mul_le_mul_of_nonneg_left (by omega) (by omega))
  have l2 : -(10000 * 10000) ≤ A * B := by
    have := Int.le_trans (Int.mul_le_mul_of_nonneg_right (by omega : -A ≤ 10000) (by omega : 0 ≤ B)) (Int.mul_le_mul_of_nonneg_left (by omega : B ≤ 10000) (by omega : (0 : Int) ≤ 10000))
    rw [Int.neg_mul] at this
    omega
  have m1 : ((a.2.2 - b.2.2) * (fl - b.1)).toInt = A * B := by rw [ti_mul (by rw [x2, x3, ← eA, ← eB]; omega) (by rw [x2, x3, ← eA, ← eB]; omega), x2, x3, eA, eB]
  have q1 : (A * B).tdiv E ≤ 10000 * 10000 ∧ -(10000 * 10000) ≤ (A * B).tdiv E := by
    have hE : 0 < E := by omega
    have h := Int.natAbs_tdiv_le_natAbs (A * B) E
    omega
  have d1 : (((a.2.2 - b.2.2) * (fl - b.1)) / (a.1 - b.1)).toInt = (A * B).tdiv E := by
    rw [Int32.toInt_div, m1, x1, ← eE]
    exact bm32 (by omega) (by omega)
  have s1 : (b.2.2 + (((a.2.2 - b.2.2) * (fl - b.1)) / (a.1 - b.1))).toInt = b.2.2.toInt + (A * B).tdiv E := by rw [ti_add (by rw [d1]; omega) (by rw [d1]; omega), d1]
  have y1 : (a.1.toInt64 - b.1.toInt64).toInt = E := by rw [tl_sub (by rw [t64, t64]; omega) (by rw [t64, t64]; omega), t64, t64, eE]
  have y2 : (a.2.2.toInt64 - b.2.2.toInt64).toInt = A := by rw [tl_sub (by rw [t64, t64]; omega) (by rw [t64, t64]; omega), t64, t64, eA]
  have y3 : (fl.toInt64 - b.1.toInt64).toInt = B := by rw [tl_sub (by rw [t64, t64]; omega) (by rw [t64, t64]; omega), t64, t64, eB]
  have m2 : ((a.2.2.toInt64 - b.2.2.toInt64) * (fl.toInt64 - b.1.toInt64)).toInt = A * B := by rw [tl_mul (by rw [y2, y3]; omega) (by rw [y2, y3]; omega), y2, y3]
  have d2 : (((a.2.2.toInt64 - b.2.2.toInt64) * (fl.toInt64 - b.1.toInt64)) / (a.1.toInt64 - b.1.toInt64)).toInt = (A * B).tdiv E := by
    rw [Int64.toInt_div, m2, y1]
    exact bm64 (by omega) (by omega)
  have s2 : (b.2.2.toInt64 + (((a.2.2.toInt64 - b.2.2.toInt64) * (fl.toInt64 - b.1.toInt64)) / (a.1.toInt64 - b.1.toInt64))).toInt = b.2.2.toInt + (A * B).tdiv E := by rw [tl_add (by rw [d2, t64]; omega) (by rw [d2, t64]; omega), d2, t64]
  unfold btw itp
  rw [cif_f (by rw [x1]; omega)]
  refine Int32.toInt_inj.mp ?_
  rw [s1, Int64.toInt_toInt32, s2]
  exact (bm32 (by omega) (by omega)).symm
theorem fa_hi {fl : Int32} (a : Pt) (be : Option Pt) : ∀ C : List Pt, (∀ c, c ∈ C → fl.toInt < c.1.toInt) → faL fl C (some a) be = finL fl (some a) be := by
  intro C
  induction C with
  | nil => intro _; rfl
  | cons c C ih =>
    intro h
    have hc := h c List.mem_cons_self
    show faL fl C (some a) (cif (c.1.toInt ≤ fl.toInt) (some c) be) = _
    rw [cif_f (by omega)]
    exact ih (fun r hr => h r (List.mem_cons_of_mem _ hr))
theorem fa_rf {fl : Int32} : ∀ (C : List Pt) (pr : Option Pt), sst C → (∀ c, c ∈ C → ptB c) → (∀ p, pr = some p → ptB p ∧ p.1.toInt < fl.toInt) → faL fl C none pr = rfL fl C pr := by
  intro C
  induction C with
  | nil =>
    intro pr _ _ _
    cases pr <;> rfl
  | cons c C ih =>
    intro pr hs hb hp
    have bc := hb c List.mem_cons_self
    show faL fl C (cif (fl.toInt ≤ c.1.toInt) (some c) none) (cif (c.1.toInt ≤ fl.toInt) (some c) pr) = cif (c.1.toInt < fl.toInt) (rfL fl C (some c)) (nxL fl c pr)
    by_cases k1 : c.1.toInt < fl.toInt
    · rw [cif_t k1, cif_f (by omega), cif_t (by omega)]
      exact ih (some c) hs.2 (fun r hr => hb r (List.mem_cons_of_mem _ hr)) (fun p e => by rw [← Option.some.inj e]; exact ⟨bc, k1⟩)
    · rw [cif_f k1, cif_t (by omega), fa_hi _ _ C (fun r hr => by have := hs.1 r hr; omega)]
      by_cases k2 : c.1.toInt = fl.toInt
      · rw [cif_t (by omega)]
        have eb : btw c c fl = c.2.2 := by
          unfold btw
          rw [cif_t (by rw [Int32.sub_self]; rfl)]
        cases pr with
        | none => exact eb
        | some p =>
          show btw c c fl = cif (c.1.toInt = fl.toInt) c.2.2 (itp p c fl)
          rw [cif_t k2, eb]
      · rw [cif_f (by omega)]
        cases pr with
        | none => rfl
        | some p =>
          show btw p c fl = cif (c.1.toInt = fl.toInt) c.2.2 (itp p c fl)
          rw [cif_f k2]
          have g := hp p rfl
          exact btw_itp g.1 bc g.2 (by omega)
