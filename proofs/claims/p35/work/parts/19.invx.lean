/-! ===== the class's bounds are kept ===== -/
theorem uv_ne {d : Dt} {k i j k' i' j' : Nat} {x : Int32} (h : ¬ (k' = k ∧ j' = j)) : (uv d k i j x).1 k' i' j' = d.1 k' i' j' := by
  by_cases h1 : k' = k
  · have h2 : ¬ j' = j := fun q => h ⟨h1, q⟩
    subst h1
    by_cases h3 : i' = i
    · subst h3; simp [uv, h2]
    · simp [uv, h3]
  · simp [uv, h1]
theorem XI.o {M T : Nat} {d : Dt} {k i j : Nat} {x : Int32} (h : XI M T d) (hn : (k, j) ∉ ([(0, 1), (0, 4), (8, 6), (2, 5), (2, 0), (2, 1), (13, 0), (6, 3)] : List (Nat × Nat))) : XI M T (uv d k i j x) := by
  have g : ∀ (k' j' : Nat), (k', j') ∈ ([(0, 1), (0, 4), (8, 6), (2, 5), (2, 0), (2, 1), (13, 0), (6, 3)] : List (Nat × Nat)) → ∀ i', (uv d k i j x).1 k' i' j' = d.1 k' i' j' := fun k' j' hm i' => uv_ne (fun q => hn (by rw [← q.1, ← q.2]; exact hm))
  obtain ⟨g1, g2, g3, g4, g5, g6, g7, g8, g9⟩ := h
  refine ⟨by rw [g 0 1 (by decide)]; exact g1, g2, by rw [g 0 4 (by decide)]; exact g3, g4, fun i' h => by rw [g 8 6 (by decide)]; exact g5 i' h, by rw [g 2 5 (by decide)]; exact g6, ?_, fun t h => by rw [g 13 0 (by decide)]; exact g8 t h, fun j' h => by rw [g 6 3 (by decide)]; exact g9 j' h⟩
  rw [g 2 0 (by decide), g 2 1 (by decide)]
  exact g7
theorem XI.r {M T : Nat} {d : Dt} {k i j : Nat} {x : Int32} (h : XI M T d) (hk : k = 7 ∨ k = 9 ∨ k = 10 ∨ k = 11 ∨ k = 12) : XI M T (uv d k i j x) := h.o (by
  intro q
  simp only [List.mem_cons, Prod.mk.injEq, List.not_mem_nil, or_false] at q
  omega)
theorem XI.uf7 {M T : Nat} {d : Dt} {i : Nat} {f : Nat → Int32} (h : XI M T d) : XI M T (uf d 7 i f) := h
theorem XI.uw {M T : Nat} {d : Dt} {k i j : Nat} {x : Int64} (h : XI M T d) : XI M T (uw d k i j x) := h
theorem XI.cp {M T : Nat} {α : Type} {P : Prop} {a b : α × Dt} (ha : P → XI M T a.2) (hb : ¬ P → XI M T b.2) : XI M T (cif P a b).2 := by
  by_cases c : P
  · rw [cif_t c]; exact ha c
  · rw [cif_f c]; exact hb c
theorem XI.cd {M T : Nat} {P : Prop} {a b : Dt} (ha : P → XI M T a) (hb : ¬ P → XI M T b) : XI M T (cif P a b) := by
  by_cases c : P
  · rw [cif_t c]; exact ha c
  · rw [cif_f c]; exact hb c
theorem XI.fc1 {M T : Nat} {d : Dt} {i : Nat} (h : XI M T d) (hi : i < M) (h1 : (d.1 8 i 6).toInt < 12) : XI M T (uv d 8 i 6 ((d.1 8 i 6) + 1)) := by
  obtain ⟨g1, g2, g3, g4, g5, g6, g7, g8, g9⟩ := h
  refine ⟨g1, g2, g3, g4, fun j hj => ?_, g6, g7, g8, g9⟩
  by_cases e : j = i
  · subst e
    have e1 : (uv d 8 j 6 ((d.1 8 j 6) + 1)).1 8 j 6 = d.1 8 j 6 + 1 := by simp [uv]
    have := g5 j hj
    rw [e1, ti1 (by omega)]
    omega
  · have e1 : (uv d 8 i 6 ((d.1 8 i 6) + 1)).1 8 j 6 = d.1 8 j 6 := by simp [uv, e]
    rw [e1]; exact g5 j hj
theorem XI.tf {M T : Nat} {d0 : Dt} {i : Nat} {a b c : Int32} (hi : i < M) : ∀ (n : Nat) (x : Int32) (e : Dt), XI M T e → (e.1 8 i 6).toInt < 12 → XI M T (lp_X0_takeFactor_6 d0 i a b c n x e) := by
  intro n
  induction n with
  | zero => intro x e h _; exact h
  | succ n ih =>
    intro x e h h1
    show XI M T (st_X0_takeFactor_6 d0 i a b c (lp_X0_takeFactor_6 d0 i a b c n) x e)
    have k3 : ∀ (y : Nat) (u v w : Int32), XI M T (uv (uv (uv e 10 i y u) 11 i y v) 12 i y w) := fun y u v w => ((h.r (by decide)).r (by decide)).r (by decide)
    have fin : ∀ (y : Nat) (u v w : Int32), XI M T (uv (uv (uv (uv e 10 i y u) 11 i y v) 12 i y w) 8 i 6 ((e.1 8 i 6) + 1)) := fun y u v w => (k3 y u v w).fc1 hi h1
    unfold st_X0_takeFactor_6
    exact XI.cd (fun _ => fin _ _ _ _) (fun _ => XI.cd (fun _ => ih _ _ (k3 _ _ _ _) h1) (fun _ => fin _ _ _ _))
theorem XI.fill {M T : Nat} {d0 : Dt} {t : Nat} {a : Int32} : ∀ (n : Nat) (x : Int32) (e : Dt), XI M T e → XI M T (lp_J7_fill_53178_5 d0 t a n x e) := by
  intro n
  induction n with
  | zero => intro x e h; exact h
  | succ n ih =>
    intro x e h
    show XI M T (st_J7_fill_53178_5 d0 t a (lp_J7_fill_53178_5 d0 t a n) x e)
    unfold st_J7_fill_53178_5
    exact XI.cd (fun _ => by first | exact h | exact ih _ _ (h.r (by decide))) (fun _ => by first | exact ih _ _ (h.r (by decide)) | exact h)
section KX
variable {M T : Nat} {d : Dt}
theorem k_X4_factor (h : XI M T d) (a b c e : Int32) : XI M T (sp_X4_factor d a b c e).2 := by
  unfold sp_X4_factor
  refine XI.cp (fun c1 => XI.cp (fun _ => XI.cp (fun _ => XI.cp (fun _ => XI.cp (fun _ => h) (fun c2 => ?_)) (fun _ => h)) (fun _ => h)) (fun _ => h)) (fun _ => h)
  have f1 := im_of h c1
  exact XI.tf (ix_lt f1.1 f1.2) 16 _ d h (nf_of c2)
theorem k_X4_proof (h : XI M T d) (a b c : Int32) : XI M T (sp_X4_proof d a b c).2 := by
  unfold sp_X4_proof
  refine XI.cp (fun c1 => XI.cp (fun _ => XI.cp (fun _ => ?_) (fun _ => h)) (fun _ => h)) (fun _ => h)
  have f1 := im_of h c1
  obtain ⟨g1, g2, g3, g4, g5, g6, g7, g8, g9⟩ := h
  exact ⟨g1, g2, g3, g4, g5, ⟨(by decide : 0 ≤ (0 : Int32).toInt), (by decide : (0 : Int32).toInt ≤ 12)⟩, fun _ => f1, g8, g9⟩
theorem k_X4_run (h : XI M T d) (a b c : Int32) : XI M T (sp_X4_run d a b c).2 := by
  unfold sp_X4_run
  refine XI.cp (fun _ => XI.cp (fun _ => XI.cp (fun _ => XI.cp (fun _ => h) (fun _ => XI.cp (fun c1 => ?_) (fun _ => h))) (fun _ => h)) (fun _ => h)) (fun _ => h)
  obtain ⟨g1, g2, g3, g4, g5, g6, g7, g8, g9⟩ := h
  refine ⟨g1, g2, g3, g4, g5, ?_, g7, g8, g9⟩
  show 0 ≤ ((d.1 2 0 5) + 1).toInt ∧ ((d.1 2 0 5) + 1).toInt ≤ 12
  rw [ti1 (by omega)]
  omega
theorem k_X4_accept (h : XI M T d) (a : Int32) : XI M T (sp_X4_accept d a).2 := by
  unfold sp_X4_accept
  refine XI.cp (fun _ => XI.cp (fun _ => h) (fun c1 => XI.cp (fun _ => XI.cp (fun _ => h) (fun _ => XI.cp (fun _ => XI.cp (fun _ => h) (fun c2 => ?_)) (fun _ => h))) (fun _ => h))) (fun _ => h)
  have f1 := h.pm c1
  have g := XI.tf (d0 := d) (a := d.1 2 0 2) (b := a) (c := (sp_X1_factorOf d (d.1 8 (ix (d.1 2 0 1)) 0)).toInt32) (ix_lt f1.1 f1.2) 16 (d.1 8 (ix (d.1 2 0 1)) 6) d h (nf_of c2)
  obtain ⟨g1, g2, g3, g4, g5, g6, g7, g8, g9⟩ := g
  exact ⟨g1, g2, g3, g4, g5, g6, fun z => absurd rfl z, g8, g9⟩
theorem k_X4_shut (h : XI M T d) (a : Int32) : XI M T (sp_X4_shut d a).2 := by
  unfold sp_X4_shut
  exact XI.cp (fun _ => XI.cp (fun _ => h.o (by decide)) (fun _ => h)) (fun _ => h)
theorem k_X4_line (h : XI M T d) (a b c : Int32) : XI M T (sp_X4_line d a b c).2 := by
  unfold sp_X4_line
  exact XI.cp (fun _ => XI.cp (fun _ => XI.cp (fun _ => XI.cp (fun _ => h.r (by decide)) (fun _ => h.r (by decide))) (fun _ => h)) (fun _ => h)) (fun _ => h)
theorem k_X4_end (h : XI M T d) (a b : Int32) : XI M T (sp_X4_end d a b).2 := by
  unfold sp_X4_end
  exact XI.cp (fun _ => XI.cp (fun _ => h.o (by decide)) (fun _ => h)) (fun _ => h)
theorem k_X4_sheet (h : XI M T d) (a b c : Int32) : XI M T (sp_X4_sheet d a b c).2 := by
  unfold sp_X4_sheet
  have h8 : XI M T (uv d 0 0 8 0) := h.o (by decide)
  refine XI.cp (fun _ => XI.cp (fun _ => XI.cp (fun c1 => XI.cp (fun c2 => ?_) (fun _ => h8.o (by decide))) (fun _ => h8)) (fun _ => h8)) (fun _ => h8)
  have g := XI.fill (d0 := uv d 0 0 8 0) (t := ix a) (a := 0) 64 0 _ h8
  have g := (g.o (k := 6) (i := ix a) (j := 1) (x := 1) (by decide)).o (k := 6) (i := ix a) (j := 2) (x := b) (by decide)
  obtain ⟨g1, g2, g3, g4, g5, g6, g7, g8, g9⟩ := g
  refine ⟨g1, g2, g3, g4, g5, g6, g7, g8, fun j hj => ?_⟩
  show 0 ≤ ((uv (uv (uv (sp_J7_fill_53178 (uv d 0 0 8 0) (ix a) 0) 6 (ix a) 1 1) 6 (ix a) 2 b) 6 (ix a) 3 c).1 6 j 3).toInt ∧ ((uv (uv (uv (sp_J7_fill_53178 (uv d 0 0 8 0) (ix a) 0) 6 (ix a) 1 1) 6 (ix a) 2 b) 6 (ix a) 3 c).1 6 j 3).toInt ≤ 60
  by_cases e : j = ix a
  · have e1 : (uv (uv (uv (sp_J7_fill_53178 (uv d 0 0 8 0) (ix a) 0) 6 (ix a) 1 1) 6 (ix a) 2 b) 6 (ix a) 3 c).1 6 j 3 = c := by rw [e]; simp [uv]
    rw [e1]; exact ⟨c2, c1⟩
  · have e1 : (uv (uv (uv (sp_J7_fill_53178 (uv d 0 0 8 0) (ix a) 0) 6 (ix a) 1 1) 6 (ix a) 2 b) 6 (ix a) 3 c).1 6 j 3 = (uv (uv (sp_J7_fill_53178 (uv d 0 0 8 0) (ix a) 0) 6 (ix a) 1 1) 6 (ix a) 2 b).1 6 j 3 := by simp [uv, e]
    rw [e1]; exact g9 j hj
theorem k_X4_lose (h : XI M T d) (a : Int32) : XI M T (sp_X4_lose d a).2 := by
  unfold sp_X4_lose
  exact XI.cp (fun _ => XI.cp (fun _ => h.o (by decide)) (fun _ => h.o (by decide))) (fun _ => h)
theorem k_X4_put (h : XI M T d) (a b c : Int32) : XI M T (sp_X4_put d a b c).2 := by
  unfold sp_X4_put
  have h8 : XI M T (uv d 0 0 8 0) := h.o (by decide)
  refine XI.cp (fun _ => XI.cp (fun _ => h8.o (by decide)) (fun _ => XI.cp (fun _ => ?_) (fun _ => h8.o (by decide)))) (fun _ => h8)
  show XI M T (sp_X2_fillIn (uv d 0 0 8 0) (ix a) b c)
  unfold sp_X2_fillIn
  exact XI.cd (fun _ => h8.r (by decide)) (fun _ => XI.cd (fun _ => h8.r (by decide)) (fun _ => h8.r (by decide)))
theorem k_X4_cell (h : XI M T d) (a b c : Int32) : XI M T (sp_X4_cell d a b c).2 := by
  unfold sp_X4_cell
  have h8 : XI M T (uv d 0 0 8 0) := h.o (by decide)
  exact XI.cp (fun _ => XI.cp (fun _ => XI.cp (fun _ => XI.cp (fun _ => h8.o (by decide)) (fun _ => (h8.o (by decide)).o (by decide))) (fun _ => h8.o (by decide))) (fun _ => h8)) (fun _ => h8)
theorem k_X4_copy (h : XI M T d) (a b c e f : Int32) : XI M T (sp_X4_copy d a b c e f).2 := by
  unfold sp_X4_copy
  have h8 : XI M T (uv d 0 0 8 0) := h.o (by decide)
  exact XI.cp (fun _ => XI.cp (fun _ => XI.cp (fun _ => h8.o (by decide)) (fun _ => XI.cp (fun _ => h8.o (by decide)) (fun _ => XI.cp (fun _ => XI.cp (fun _ => XI.cp (fun _ => h8.uf7) (fun _ => h8.o (by decide))) (fun _ => h8.o (by decide))) (fun _ => h8.o (by decide))))) (fun _ => h8)) (fun _ => h8)
theorem k_X4_watch (h : XI M T d) (a b c e f : Int32) : XI M T (sp_X4_watch d a b c e f).2 := by
  unfold sp_X4_watch
  have h8 : XI M T (uv d 0 0 8 0) := h.o (by decide)
  exact XI.cp (fun _ => XI.cp (fun _ => XI.cp (fun _ => XI.cp (fun _ => XI.cp (fun _ => XI.cp (fun _ => h8) (fun _ => h8.o (by decide))) (fun _ => h8.o (by decide))) (fun _ => h8.o (by decide))) (fun _ => h8)) (fun _ => h8)) (fun _ => h8)
theorem k_X4_tell (h : XI M T d) (a : Int32) : XI M T (sp_X4_tell d a).2 := by
  unfold sp_X4_tell
  exact XI.cp (fun _ => XI.cp (fun _ => (h.o (by decide)).o (by decide)) (fun _ => XI.cp (fun _ => (h.o (by decide)).o (by decide)) (fun _ => h.o (by decide)))) (fun _ => h)
theorem k_X4_worth (h : XI M T d) (a : Int32) : XI M T (sp_X4_worth d a).2 := by
  unfold sp_X4_worth
  exact XI.cp (fun _ => XI.cp (fun _ => h.o (by decide)) (fun _ => h.o (by decide))) (fun _ => h)
theorem k_X4_as (h : XI M T d) (a b : Int32) : XI M T (sp_X4_as d a b).2 := by
  unfold sp_X4_as
  have h8 : XI M T (uv d 0 0 8 0) := h.o (by decide)
  exact XI.cp (fun _ => XI.cp (fun _ => XI.cp (fun _ => h8.o (by decide)) (fun _ => h8)) (fun _ => h8)) (fun _ => h8)
end KX
