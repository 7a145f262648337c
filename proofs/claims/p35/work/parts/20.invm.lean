/-! ===== the reference's bounds are kept ===== -/
theorem uv_kk {d : Dt} {k i j k' : Nat} {x : Int32} (h : k' ≠ k) : (uv d k i j x).1 k' = d.1 k' := if_neg h
theorem uv_at {d : Dt} {k i j j' : Nat} {x : Int32} (h : j' ≠ j) : (uv d k i j x).1 k i j' = d.1 k i j' := by simp [uv, h]
theorem uv_eq {d : Dt} {k i j : Nat} {x : Int32} : (uv d k i j x).1 k i j = x := by simp [uv]
theorem MI.o {d : Dt} {k i j : Nat} {x : Int32} (h : MI d) (h2 : k ≠ 2) (h3 : k ≠ 3) (h19 : k ≠ 19) (h28 : k ≠ 28) (h0 : ¬ (k = 0 ∧ (j = 1 ∨ j = 12 ∨ j = 15 ∨ j = 17))) : MI (uv d k i j x) := by
  have g : ∀ j', j' = 1 ∨ j' = 12 ∨ j' = 15 ∨ j' = 17 → (uv d k i j x).1 0 0 j' = d.1 0 0 j' := fun j' hj => uv_ne (fun q => h0 ⟨q.1.symm, by rw [← q.2]; exact hj⟩)
  unfold MI
  rw [g 1 (by decide), g 12 (by decide), g 15 (by decide), g 17 (by decide), uv_kk (Ne.symm h2), uv_kk (Ne.symm h3), uv_kk (Ne.symm h19), uv_kk (Ne.symm h28)]
  exact h
theorem MI.cp {α : Type} {P : Prop} {a b : α × Dt} (ha : P → MI a.2) (hb : ¬ P → MI b.2) : MI (cif P a b).2 := by
  by_cases c : P
  · rw [cif_t c]; exact ha c
  · rw [cif_f c]; exact hb c
theorem MI.cd {P : Prop} {a b : Dt} (ha : P → MI a) (hb : ¬ P → MI b) : MI (cif P a b) := by
  by_cases c : P
  · rw [cif_t c]; exact ha c
  · rw [cif_f c]; exact hb c
theorem MI.w19 {d : Dt} {x : Int32} (h : MI d) : MI (uv d 19 0 (ix (d.1 0 0 17)) x) := by
  have hi := ix_int h.2.2.2.2.1.1
  obtain ⟨g1, g2, g3, g4, g5, g6, g7, g8, g9⟩ := h
  refine ⟨g1, g2, g3, g4, g5, fun t ht => ?_, g7, g8, g9⟩
  have ht : (t : Int) < (d.1 0 0 17).toInt := ht
  rw [uv_at (by omega)]
  exact g6 t ht
theorem MI.addT {f : Dt} (h : MI f) (h17 : (f.1 0 0 17).toInt ≤ 39) (h19 : 0 ≤ (f.1 19 0 (ix (f.1 0 0 17))).toInt ∧ (f.1 19 0 (ix (f.1 0 0 17))).toInt < (f.1 0 0 1).toInt) : MI (uv f 0 0 17 ((f.1 0 0 17) + 1)) := by
  have hi := ix_int h.2.2.2.2.1.1
  obtain ⟨g1, g2, g3, g4, g5, g6, g7, g8, g9⟩ := h
  have e1 := ti1 (x := f.1 0 0 17) (by omega)
  refine ⟨g1, g2, g3, g4, ?_, fun t ht => ?_, g7, g8, g9⟩
  · show 0 ≤ ((f.1 0 0 17) + 1).toInt ∧ ((f.1 0 0 17) + 1).toInt ≤ 40
    omega
  · have ht : (t : Int) < ((f.1 0 0 17) + 1).toInt := ht
    show 0 ≤ (f.1 19 0 t).toInt ∧ (f.1 19 0 t).toInt < (f.1 0 0 1).toInt
    by_cases e : t = ix (f.1 0 0 17)
    · rw [e]; exact h19
    · exact g6 t (by omega)
theorem MI.addF {d : Dt} (h : MI d) {a b c e : Int32} (h0 : 0 ≤ a.toInt) (h1 : a.toInt < 6) (h2 : (d.1 3 0 (ix a)).toInt ≤ 11) : MI (sp_X5_addFactor d a b c e) := by
  unfold sp_X5_addFactor
  have g : MI (uv (uv (uv d 4 0 (ix ((12 * a) + (d.1 3 0 (ix a)))) b) 5 0 (ix ((12 * a) + (d.1 3 0 (ix a)))) c) 6 0 (ix ((12 * a) + (d.1 3 0 (ix a)))) e) := ((h.o (by decide) (by decide) (by decide) (by decide) (by omega)).o (by decide) (by decide) (by decide) (by decide) (by omega)).o (by decide) (by decide) (by decide) (by decide) (by omega)
  have n := h.mn h0 h1
  obtain ⟨g1, g2, g3, g4, g5, g6, g7, g8, g9⟩ := g
  refine ⟨g1, fun j hj => ?_, g3, g4, g5, g6, g7, g8, g9⟩
  by_cases q : j = ix a
  · rw [q, uv_eq, ti1 (by omega)]; omega
  · rw [uv_at q]; exact g2 j hj
section KM
variable {d : Dt}
theorem k_X5_meter (h : MI d) (a : Int32) : MI (sp_X5_meter d a).2 := by
  unfold sp_X5_meter
  refine MI.cp (fun c1 => MI.cp (fun _ => h) (fun c2 => ?_)) (fun _ => h)
  have f1 := in_iff.mp c1
  rw [t64] at f1
  have e1 : (1 : Int64).toInt = 1 := rfl
  have hi := ix_int h.1.1
  obtain ⟨g1, g2, g3, g4, g5, g6, g7, g8, g9⟩ := h
  have e2 := ti1 (x := d.1 0 0 1) (by omega)
  have e3 : (uv (uv d 2 0 (ix (d.1 0 0 1)) a) 0 0 1 ((d.1 0 0 1) + 1)).1 0 0 1 = (d.1 0 0 1) + 1 := uv_eq
  refine ⟨?_, g2, ?_, g4, g5, fun t ht => ?_, fun j hj => ?_, g8, g9⟩
  · rw [e3]; omega
  · show -1 ≤ (d.1 0 0 12).toInt ∧ (d.1 0 0 12).toInt < ((d.1 0 0 1) + 1).toInt
    omega
  · have := g6 t ht
    show 0 ≤ (d.1 19 0 t).toInt ∧ (d.1 19 0 t).toInt < ((d.1 0 0 1) + 1).toInt
    omega
  · rw [e3] at hj
    show 1 ≤ ((uv d 2 0 (ix (d.1 0 0 1)) a).1 2 0 j).toInt
    by_cases q : j = ix (d.1 0 0 1)
    · rw [q, uv_eq]; omega
    · rw [uv_at q]; exact g7 j (by omega)
theorem k_X5_factor (h : MI d) (a b c e : Int32) : MI (sp_X5_factor d a b c e).2 := by
  unfold sp_X5_factor
  refine MI.cp (fun _ => h) (fun c1 => MI.cp (fun _ => MI.cp (fun _ => MI.cp (fun _ => MI.cp (fun _ => h) (fun c2 => ?_)) (fun _ => h)) (fun _ => h)) (fun _ => h))
  have f1 := nm_of h c1
  have n := h.mn f1.1 (show a.toInt < 6 by omega)
  exact h.addF f1.1 (by omega) (by omega)
theorem k_X5_at (h : MI d) (a b c : Int32) : MI (sp_X5_at d a b c).2 := by
  unfold sp_X5_at
  exact MI.cp (fun _ => h) (fun _ => MI.cp (fun _ => MI.cp (fun _ => h.cf (fa_cf _ _ _)) (fun _ => h)) (fun _ => h))
theorem k_X5_points (h : MI d) (a b : Int32) : MI (sp_X5_points d a b).2 := by
  unfold sp_X5_points
  exact MI.cp (fun _ => h) (fun _ => MI.cp (fun _ => h.cf (fc_cf _ _)) (fun _ => h))
theorem k_X5_point (h : MI d) (a b c e : Int32) : MI (sp_X5_point d a b c e).2 := by
  unfold sp_X5_point
  have g := h.cf (fc_cf (d := d) a b)
  exact MI.cp (fun _ => h) (fun _ => MI.cp (fun _ => MI.cp (fun _ => MI.cp (fun _ => g) (fun _ => MI.cp (fun _ => g) (fun _ => g))) (fun _ => g)) (fun _ => h))
theorem k_X5_proof (h : MI d) (a b c : Int32) : MI (sp_X5_proof d a b c).2 := by
  unfold sp_X5_proof
  refine MI.cp (fun _ => h) (fun c1 => MI.cp (fun _ => MI.cp (fun _ => ?_) (fun _ => h)) (fun _ => h))
  have f1 := nm_of h c1
  obtain ⟨g1, g2, g3, g4, g5, g6, g7, g8, g9⟩ := h
  refine ⟨g1, g2, ?_, ⟨(by decide : 0 ≤ (0 : Int32).toInt), (by decide : (0 : Int32).toInt ≤ 12)⟩, g5, g6, g7, g8, fun j hj => absurd (show (j : Int) < (0 : Int32).toInt from hj) (by rw [Int32.toInt_zero]; omega)⟩
  show -1 ≤ a.toInt ∧ a.toInt < (d.1 0 0 1).toInt
  omega
theorem k_X5_add (h : MI d) {p1 p2 p3 p4 p5 p6 : Int32} (h1 : (d.1 0 0 17).toInt ≤ 39) (h2 : 0 ≤ p2.toInt) (h3 : p2.toInt < (d.1 0 0 1).toInt) : MI (sp_X5_add d p1 p2 p3 p4 p5 p6).2 := by
  obtain ⟨b, eb⟩ : ∃ z, z = uv (uv (uv (uv (uv d 18 0 (ix (d.1 0 0 17)) p1) 19 0 (ix (d.1 0 0 17)) p2) 20 0 (ix (d.1 0 0 17)) p3) 21 0 (ix (d.1 0 0 17)) p4) 22 0 (ix (d.1 0 0 17)) p5 := ⟨_, rfl⟩
  have m1 : MI (uv d 18 0 (ix (d.1 0 0 17)) p1) := h.o (by decide) (by decide) (by decide) (by decide) (by omega)
  have m2 : MI (uv (uv d 18 0 (ix (d.1 0 0 17)) p1) 19 0 (ix (d.1 0 0 17)) p2) := m1.w19 (x := p2)
  have hb : MI b := by
    rw [eb]
    exact ((m2.o (by decide) (by decide) (by decide) (by decide) (by omega)).o (by decide) (by decide) (by decide) (by decide) (by omega)).o (by decide) (by decide) (by decide) (by decide) (by omega)
  have b17 : b.1 0 0 17 = d.1 0 0 17 := by rw [eb]; rfl
  have b1 : b.1 0 0 1 = d.1 0 0 1 := by rw [eb]; rfl
  have b19 : b.1 19 0 (ix (d.1 0 0 17)) = p2 := by rw [eb]; exact (show (uv (uv d 18 0 (ix (d.1 0 0 17)) p1) 19 0 (ix (d.1 0 0 17)) p2).1 19 0 (ix (d.1 0 0 17)) = p2 from uv_eq)
  unfold sp_X5_add
  rw [← eb]
  have g := fa_cf (d := b) p2 p5 p3
  generalize sp_X5_factorAt b p2 p5 p3 = r at g
  obtain ⟨v, f⟩ := r
  have hf : MI f := hb.cf g
  have f17 : f.1 0 0 17 = d.1 0 0 17 := (g.f0).trans b17
  have f1 : f.1 0 0 1 = d.1 0 0 1 := (g.f0).trans b1
  have f19 : f.1 19 0 (ix (d.1 0 0 17)) = p2 := by rw [show f.1 19 = b.1 19 from g.1 19 (by decide) (by decide) (by decide) (by decide)]; exact b19
  have m3 : MI (uv (uv (uv f 23 0 (ix (d.1 0 0 17)) v) 24 0 (ix (f.1 0 0 17)) (-9)) 25 0 (ix (f.1 0 0 17)) p6) := ((hf.o (by decide) (by decide) (by decide) (by decide) (by omega)).o (by decide) (by decide) (by decide) (by decide) (by omega)).o (by decide) (by decide) (by decide) (by decide) (by omega)
  refine m3.addT ?_ ?_
  · show (f.1 0 0 17).toInt ≤ 39
    rw [f17]; exact h1
  · show 0 ≤ (f.1 19 0 (ix (f.1 0 0 17))).toInt ∧ (f.1 19 0 (ix (f.1 0 0 17))).toInt < (f.1 0 0 1).toInt
    rw [f17, f19, f1]; exact ⟨h2, h3⟩
theorem k_X5_ticket (h : MI d) (a b c e : Int32) : MI (sp_X5_ticket d a b c e).2 := by
  unfold sp_X5_ticket
  refine MI.cp (fun _ => h) (fun c1 => MI.cp (fun _ => MI.cp (fun _ => MI.cp (fun _ => MI.cp (fun _ => h) (fun _ => MI.cp (fun _ => h) (fun c2 => ?_))) (fun _ => h)) (fun _ => h)) (fun _ => h))
  have f1 := nm_of h c1
  have q := h.2.2.2.2.1
  exact k_X5_add h (by omega) f1.1 f1.2.1
theorem k_X5_right (h : MI d) (a b : Int32) : MI (sp_X5_right d a b).2 := by
  unfold sp_X5_right
  refine MI.cp (fun _ => h) (fun c1 => MI.cp (fun _ => MI.cp (fun _ => h) (fun _ => MI.cp (fun _ => h) (fun _ => MI.cp (fun _ => h) (fun c2 => ?_)))) (fun _ => h))
  have f1 := nt_of h c1
  have q := h.2.2.2.2.1
  have t := h.mt f1.1 f1.2.1
  exact k_X5_add (d := uv d 24 0 (ix a) (d.1 0 0 17)) (h.o (by decide) (by decide) (by decide) (by decide) (by omega)) (show (d.1 0 0 17).toInt ≤ 39 by omega) t.1 t.2
theorem k_X5_accept (h : MI d) (a : Int32) : MI (sp_X5_accept d a).2 := by
  unfold sp_X5_accept
  refine MI.cp (fun _ => MI.cp (fun _ => h) (fun c1 => MI.cp (fun _ => ?_) (fun _ => h))) (fun _ => h)
  have lp : ∀ (n : Nat) (x : Int32) (y : Int64), MI (lp_X5_accept_37 d a n x y).2 := by
    intro n
    induction n with
    | zero => intro x y; exact h
    | succ n ih =>
      intro x y
      show MI (st_X5_accept_37 d a (lp_X5_accept_37 d a n) x y).2
      unfold st_X5_accept_37
      refine MI.cp (fun _ => MI.cp (fun _ => MI.cp (fun _ => h) (fun c3 => ?_)) (fun _ => h)) (fun _ => ih _ _)
      have q := h.2.2.1
      have q1 := h.1
      have n := h.mn (x := d.1 0 0 12) (by omega) (by omega)
      have g := h.addF (a := d.1 0 0 12) (b := d.1 0 0 13) (c := a) (e := (sp_X5_rounded ((500 * ((d.1 0 0 14).toInt64)) * ((d.1 2 0 (ix (d.1 0 0 12))).toInt64)) y).toInt32) (by omega) (by omega) (by omega)
      obtain ⟨g1, g2, g3, g4, g5, g6, g7, g8, g9⟩ := g
      refine ⟨g1, g2, ?_, g4, g5, g6, g7, g8, g9⟩
      show -1 ≤ (-1 : Int32).toInt ∧ (-1 : Int32).toInt < (d.1 0 0 1).toInt
      have e : (-1 : Int32).toInt = -1 := rfl
      omega
  exact lp 16 _ _
theorem k_X5_shut (h : MI d) (a : Int32) : MI (sp_X5_shut d a).2 := by
  unfold sp_X5_shut
  exact MI.cp (fun _ => MI.cp (fun _ => h.o (by decide) (by decide) (by decide) (by decide) (by decide)) (fun _ => h)) (fun _ => h)
theorem k_X5_line (h : MI d) (a b c : Int32) : MI (sp_X5_line d a b c).2 := by
  unfold sp_X5_line
  have g : ∀ j x, MI (uv d 27 0 j x) := fun j x => h.o (by decide) (by decide) (by decide) (by decide) (by omega)
  exact MI.cp (fun _ => h) (fun _ => MI.cp (fun _ => h) (fun _ => MI.cp (fun _ => MI.cp (fun _ => g _ _) (fun _ => g _ _)) (fun _ => h)))
theorem k_X5_end (h : MI d) (a b : Int32) : MI (sp_X5_end d a b).2 := by
  unfold sp_X5_end
  exact MI.cp (fun _ => h) (fun _ => MI.cp (fun _ => h.o (by decide) (by decide) (by decide) (by decide) (by omega)) (fun _ => h))
theorem MI.w28 {j : Nat} {x : Int32} (h : MI d) (h0 : -1 ≤ x.toInt) (h1 : x.toInt ≤ 60) : MI (uv d 28 0 j x) := by
  obtain ⟨g1, g2, g3, g4, g5, g6, g7, g8, g9⟩ := h
  refine ⟨g1, g2, g3, g4, g5, g6, g7, fun i hi => ?_, g9⟩
  by_cases q : i = j
  · rw [q, uv_eq]; exact ⟨h0, h1⟩
  · rw [uv_at q]; exact g8 i hi
theorem k_X5_sheet (h : MI d) (a b c : Int32) : MI (sp_X5_sheet d a b c).2 := by
  unfold sp_X5_sheet
  refine MI.cp (fun _ => h.s0) (fun _ => MI.cp (fun _ => MI.cp (fun c1 => MI.cp (fun c2 => ?_) (fun _ => h.s0)) (fun _ => h.s0)) (fun _ => h.s0))
  have lp : ∀ (n : Nat) (x : Int32) (e : Dt), MI e → MI (lp_X5_sheet_65 d a b c n x e).2 := by
    intro n
    induction n with
    | zero => intro x e g; exact g
    | succ n ih =>
      intro x e g
      show MI (st_X5_sheet_65 d a b c (lp_X5_sheet_65 d a b c n) x e).2
      unfold st_X5_sheet_65
      exact MI.cp (fun _ => g.s0) (fun _ => ih _ _ (g.o (by decide) (by decide) (by decide) (by decide) (by omega)))
  exact lp 64 0 _ ((h.w28 (by omega) c1).o (by decide) (by decide) (by decide) (by decide) (by omega))
theorem k_X5_lose (h : MI d) (a : Int32) : MI (sp_X5_lose d a).2 := by
  unfold sp_X5_lose
  have g : MI (uv d 28 0 (ix a) (-1)) := h.w28 (by decide) (by decide)
  exact MI.cp (fun _ => h) (fun _ => MI.cp (fun _ => g) (fun _ => g))
theorem k_X5_put (h : MI d) (a b c : Int32) : MI (sp_X5_put d a b c).2 := by
  unfold sp_X5_put
  have g : ∀ j x, MI (uv d 30 0 j x) := fun j x => h.o (by decide) (by decide) (by decide) (by decide) (by omega)
  exact MI.cp (fun _ => h.s0) (fun _ => MI.cp (fun _ => MI.cp (fun _ => (g _ _).s0) (fun _ => MI.cp (fun _ => (g _ _).s0) (fun _ => (g _ _).s0))) (fun _ => h.s0))
theorem k_X5_cell (h : MI d) (a b c : Int32) : MI (sp_X5_cell d a b c).2 := by
  unfold sp_X5_cell
  have g : MI (uv d 0 0 0 0) := h.s0
  exact MI.cp (fun _ => g) (fun _ => MI.cp (fun _ => MI.cp (fun _ => MI.cp (fun _ => g) (fun _ => g.s0)) (fun _ => MI.cp (fun _ => MI.cp (fun _ => g) (fun _ => g.s0)) (fun _ => g.s0))) (fun _ => g))
theorem k_X5_copy (h : MI d) (a b c e f : Int32) : MI (sp_X5_copy d a b c e f).2 := by
  unfold sp_X5_copy
  have l2 : ∀ (n : Nat) (x : Int32) (z : Dt), MI z → MI (lp_X5_copy_142 d a b c e f n x z).2 := by
    intro n
    induction n with
    | zero => intro x z g; exact g
    | succ n ih =>
      intro x z g
      show MI (st_X5_copy_142 d a b c e f (lp_X5_copy_142 d a b c e f n) x z).2
      unfold st_X5_copy_142
      exact MI.cp (fun _ => g.s0) (fun _ => ih _ _ (g.o (by decide) (by decide) (by decide) (by decide) (by omega)))
  have l1 : ∀ (n : Nat) (x : Int32) (z : Dt), MI z → MI (lp_X5_copy_105 d a b c e f n x z).2 := by
    intro n
    induction n with
    | zero => intro x z g; exact g
    | succ n ih =>
      intro x z g
      show MI (st_X5_copy_105 d a b c e f (lp_X5_copy_105 d a b c e f n) x z).2
      unfold st_X5_copy_105
      exact MI.cp (fun _ => l2 64 0 z g) (fun _ => ih _ _ (g.o (by decide) (by decide) (by decide) (by decide) (by omega)))
  exact MI.cp (fun _ => h.s0) (fun _ => MI.cp (fun _ => h.s0) (fun _ => MI.cp (fun _ => h.s0) (fun _ => MI.cp (fun _ => MI.cp (fun _ => MI.cp (fun _ => h.s0) (fun _ => MI.cp (fun _ => h.s0) (fun _ => l1 64 0 d h))) (fun _ => h.s0)) (fun _ => h.s0))))
theorem k_X5_watch (h : MI d) (a b c e f : Int32) : MI (sp_X5_watch d a b c e f).2 := by
  unfold sp_X5_watch
  have lp : ∀ (n : Nat) (x y z u v w : Int32), MI (lp_X5_watch_135 d a b c e f n x y z u v w).2 := by
    intro n
    induction n with
    | zero => intros; exact h
    | succ n ih =>
      intro x y z u v w
      show MI (st_X5_watch_135 d a b c e f (lp_X5_watch_135 d a b c e f n) x y z u v w).2
      unfold st_X5_watch_135
      exact MI.cp (fun _ => MI.cp (fun _ => h.s0) (fun _ => MI.cp (fun _ => h.s0) (fun _ => MI.cp (fun _ => h.s0) (fun _ => h.s0)))) (fun _ => MI.cp (fun _ => MI.cp (fun _ => MI.cp (fun _ => ih _ _ _ _ _ _) (fun _ => ih _ _ _ _ _ _)) (fun _ => ih _ _ _ _ _ _)) (fun _ => MI.cp (fun _ => MI.cp (fun _ => MI.cp (fun _ => ih _ _ _ _ _ _) (fun _ => ih _ _ _ _ _ _)) (fun _ => ih _ _ _ _ _ _)) (fun _ => ih _ _ _ _ _ _)))
  exact MI.cp (fun _ => h.s0) (fun _ => MI.cp (fun _ => MI.cp (fun _ => MI.cp (fun _ => h.s0) (fun _ => MI.cp (fun _ => MI.cp (fun _ => MI.cp (fun _ => h.s0) (fun _ => lp 64 _ _ _ _ _ _)) (fun _ => h.s0)) (fun _ => h.s0))) (fun _ => h.s0)) (fun _ => h.s0))
theorem k_X5_tell (h : MI d) (a : Int32) : MI (sp_X5_tell d a).2 := by
  unfold sp_X5_tell sp_X5_traced
  exact MI.cp (fun _ => h) (fun _ => MI.cp (fun _ => MI.cp (fun _ => h.s32) (fun _ => MI.cp (fun _ => h.s32) (fun _ => h.s32))) (fun _ => MI.cp (fun _ => MI.cp (fun _ => h.s32.s32) (fun _ => MI.cp (fun _ => h.s32.s32) (fun _ => h.s32.s32))) (fun _ => MI.cp (fun _ => h.s32.s32) (fun _ => MI.cp (fun _ => h.s32.s32) (fun _ => h.s32.s32)))))
theorem k_X5_worth (h : MI d) (a : Int32) : MI (sp_X5_worth d a).2 := by
  unfold sp_X5_worth sp_X5_traced
  exact MI.cp (fun _ => h) (fun _ => MI.cp (fun _ => MI.cp (fun _ => h.s32) (fun _ => MI.cp (fun _ => h.s32) (fun _ => h.s32))) (fun _ => MI.cp (fun _ => h.s32) (fun _ => MI.cp (fun _ => h.s32) (fun _ => h.s32))))
theorem k_X5_as (h : MI d) (a b : Int32) : MI (sp_X5_as d a b).2 := by
  unfold sp_X5_as
  exact MI.cp (fun _ => h.s0) (fun _ => MI.cp (fun _ => MI.cp (fun _ => h.s0) (fun _ => h.s0)) (fun _ => h.s0))
theorem k_X5_run (h : MI d) (a b c : Int32) : MI (sp_X5_run d a b c).2 := by
  unfold sp_X5_run
  refine MI.cp (fun c1 => MI.cp (fun c2 => MI.cp (fun c3 => MI.cp (fun _ => h) (fun _ => MI.cp (fun _ => h) (fun c4 => ?_))) (fun _ => h)) (fun _ => h)) (fun _ => h)
  have f1 := in_iff.mp c1
  have f2 := in_iff.mp c2
  have f3 := in_iff.mp c3
  rw [t64] at f1 f2 f3
  have e1 : (1 : Int64).toInt = 1 := rfl
  have e2 : (100000 : Int64).toInt = 100000 := rfl
  have e3 : (1000000 : Int64).toInt = 1000000 := rfl
  have e4 : (1000 : Int64).toInt = 1000 := rfl
  rw [e1, e2] at f1
  rw [e1, e3] at f2 f3
  have hi := ix_int h.2.2.2.1.1
  obtain ⟨g1, g2, g3, g4, g5, g6, g7, g8, g9⟩ := h
  have e5 := ti1 (x := d.1 0 0 15) (by omega)
  have m1 : (a.toInt64 * 1000).toInt = a.toInt * 1000 := by rw [tl_mul (by rw [t64, e4]; omega) (by rw [t64, e4]; omega), t64, e4]
  have b1 : 0 ≤ a.toInt * 1000 * c.toInt := Int.mul_nonneg (by omega) (by omega)
  have b2 : a.toInt * 1000 * c.toInt ≤ 100000000 * 1000000 := Int.mul_le_mul (by omega) (by omega) (by omega) (by omega)
  have m2 : (a.toInt64 * 1000 * c.toInt64).toInt = a.toInt * 1000 * c.toInt := by rw [tl_mul (by rw [m1, t64]; omega) (by rw [m1, t64]; omega), m1, t64]
  have b3 : 0 ≤ (a.toInt * 1000 * c.toInt).tdiv b.toInt := Int.tdiv_nonneg b1 (by omega)
  have b4 : (a.toInt * 1000 * c.toInt).tdiv b.toInt ≤ a.toInt * 1000 * c.toInt := Int.tdiv_le_self _ b1
  have m3 : ((a.toInt64 * 1000 * c.toInt64) / b.toInt64).toInt = (a.toInt * 1000 * c.toInt).tdiv b.toInt := by
    rw [Int64.toInt_div, m2, t64]
    exact bm64 (by omega) (by omega)
  refine ⟨g1, g2, g3, ?_, g5, g6, g7, g8, fun j hj => ?_⟩
  · show 0 ≤ ((d.1 0 0 15) + 1).toInt ∧ ((d.1 0 0 15) + 1).toInt ≤ 12
    omega
  · have hj : (j : Int) < ((d.1 0 0 15) + 1).toInt := hj
    show 0 ≤ ((uw d 16 0 (ix (d.1 0 0 15)) ((a.toInt64 * 1000 * c.toInt64) / b.toInt64)).2 16 0 j).toInt ∧ ((uw d 16 0 (ix (d.1 0 0 15)) ((a.toInt64 * 1000 * c.toInt64) / b.toInt64)).2 16 0 j).toInt ≤ 100000000000000
    by_cases q : j = ix (d.1 0 0 15)
    · have e6 : (uw d 16 0 (ix (d.1 0 0 15)) ((a.toInt64 * 1000 * c.toInt64) / b.toInt64)).2 16 0 j = (a.toInt64 * 1000 * c.toInt64) / b.toInt64 := by rw [q]; simp [uw]
      rw [e6, m3]; omega
    · have e6 : (uw d 16 0 (ix (d.1 0 0 15)) ((a.toInt64 * 1000 * c.toInt64) / b.toInt64)).2 16 0 j = d.2 16 0 j := by simp [uw, q]
      rw [e6]; exact g9 j (by omega)
end KM
