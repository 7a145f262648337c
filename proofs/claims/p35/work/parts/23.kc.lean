/-! ===== remake keeps the reference's bounds; the count of METERS ===== -/
theorem k_scM {d : Dt} (hI : MI d) (m f to : Int32) : ∀ (n a : Nat) (e : Dt), CF d e → CF d (scM m f to n a e) := by
  intro n
  induction n with
  | zero => intro a e h; exact h
  | succ n ih => intro a e h; exact ih (a + 1) _ (h.tr (is_cf _ _ _ _))
theorem k_rmM {d : Dt} {m f to : Int32} (hI : MI d) {T : Nat} (hT : T ≤ 40) (h0 : 0 ≤ m.toInt) (h1 : m.toInt < (d.1 0 0 1).toInt) : ∀ (n a k : Nat) (e2 : Dt), a + n = T → MI e2 → (e2.1 0 0 17).toInt = (T + k : Nat) → (e2.1 0 0 1) = d.1 0 0 1 → QR d e2 → (∀ u, a ≤ u → u < T → QT d e2 u) → T + k + dueM d m f to n a ≤ 40 → MI (rmM m f to n a e2) ∧ (rmM m f to n a e2).1 0 0 1 = d.1 0 0 1 := by
  have hx6 : 0 ≤ m.toInt ∧ m.toInt < 6 := ⟨h0, by have := hI.1; omega⟩
  intro n
  induction n with
  | zero => intro a k e2 _ g1 _ g2 _ _ _; exact ⟨g1, g2⟩
  | succ n ih =>
    intro a k e2 ha hI2 h17 h01 hr2 ht2 hd2
    have hia : ix (nI a) = a := ix_of (nI_toInt (by omega))
    have hd2 : T + k + (cif ((sp_X5_isStale d (nI a) m f to).1) 1 0 + dueM d m f to n (a + 1)) ≤ 40 := hd2
    have hst : (sp_X5_isStale e2 (nI a) m f to).1 = (sp_X5_isStale d (nI a) m f to).1 := q_is hr2 hx6 (hI.mn hx6.1 hx6.2) (fun k hk => by rw [hia]; exact ht2 a (Nat.le_refl _) (by omega) k hk)
    rw [← hst] at hd2
    have g := is_cf (d := e2) (nI a) m f to
    have hI3 := hI2.cf g
    have k17 : (sp_X5_isStale e2 (nI a) m f to).2.1 0 0 17 = e2.1 0 0 17 := g.f0
    have k01 : (sp_X5_isStale e2 (nI a) m f to).2.1 0 0 1 = e2.1 0 0 1 := g.f0
    have kr := hr2.tr g.qr
    have kt : ∀ u, a ≤ u → u < T → QT d (sp_X5_isStale e2 (nI a) m f to).2 u := fun u h1 h2 => (ht2 u h1 h2).tr (g.qt u)
    show MI (rmM m f to n (a + 1) (cif ((sp_X5_isStale e2 (nI a) m f to).1) (rq5 (sp_X5_isStale e2 (nI a) m f to).2 m a) (sp_X5_isStale e2 (nI a) m f to).2)) ∧ (rmM m f to n (a + 1) (cif ((sp_X5_isStale e2 (nI a) m f to).1) (rq5 (sp_X5_isStale e2 (nI a) m f to).2 m a) (sp_X5_isStale e2 (nI a) m f to).2)).1 0 0 1 = d.1 0 0 1
    by_cases c5 : (sp_X5_isStale e2 (nI a) m f to).1
    · rw [cif_t c5]
      rw [cif_t c5] at hd2
      generalize (sp_X5_isStale e2 (nI a) m f to).2 = e3 at hI3 k17 k01 kr kt ⊢
      have z17 : (e3.1 0 0 17).toInt = (T + k : Nat) := by rw [k17]; exact h17
      have q39 : (e3.1 0 0 17).toInt ≤ 39 := by omega
      have t3 : ix (e3.1 0 0 17) = T + k := ix_of z17
      obtain ⟨y1, y2, y3, y4⟩ := rq5_eff (e := e3) m a
      exact ih (a + 1) (k + 1) _ (by omega) (k_rq5 hI3 q39 h0 (by rw [k01, h01]; exact h1)) (by rw [y2, ti1 (by omega)]; omega) (y3.trans (k01.trans h01)) (kr.tr y1) (fun u h1 h2 => (kt u (by omega) h2).tr (y4 u (by omega) (by omega))) (by omega)
    · rw [cif_f c5]
      rw [cif_f c5] at hd2
      exact ih (a + 1) k _ (by omega) hI3 (by rw [k17]; exact h17) (k01.trans h01) kr (fun u h1 h2 => kt u (by omega) h2) (by omega)
theorem k_X5_remake' {d : Dt} (h : MI d) (m f to : Int32) : MI (sp_X5_remake d m f to).2 ∧ (sp_X5_remake d m f to).2.1 0 0 1 = d.1 0 0 1 := by
  have c : ∀ (P : Prop) (a b : Int32 × Dt), (P → MI a.2 ∧ a.2.1 0 0 1 = d.1 0 0 1) → (¬ P → MI b.2 ∧ b.2.1 0 0 1 = d.1 0 0 1) → MI (cif P a b).2 ∧ (cif P a b).2.1 0 0 1 = d.1 0 0 1 := fun P a b ha hb => by
    by_cases q : P
    · rw [cif_t q]; exact ha q
    · rw [cif_f q]; exact hb q
  have q5 := h.2.2.2.2.1
  have q3 := ix_int q5.1
  have sc : CF d (scM m f to (ix (d.1 0 0 17)) 0 d) := k_scM h m f to _ 0 d CF.rf
  unfold sp_X5_remake
  refine c _ _ _ (fun _ => ⟨h, rfl⟩) (fun c1 => c _ _ _ (fun _ => c _ _ _ (fun _ => ⟨h, rfl⟩) (fun _ => c _ _ _ (fun c4 => ?_) (fun _ => ⟨h.cf sc, sc.f0⟩))) (fun _ => ⟨h, rfl⟩))
  have f1 := nm_of h c1
  exact k_rmM h (T := ix (d.1 0 0 17)) (by omega) f1.1 f1.2.1 _ 0 0 _ (by omega) (h.cf sc) (by rw [sc.f0]; omega) sc.f0 sc.qr (fun u _ _ => sc.qt u) (by omega)
theorem k_X5_remake {d : Dt} (h : MI d) (m f to : Int32) : MI (sp_X5_remake d m f to).2 := (k_X5_remake' h m f to).1
/-- the count of METERS is c -/
def KC (c : Int32) (e : Dt) : Prop := e.1 0 0 1 = c
theorem KC.o0 {c : Int32} {e : Dt} {k i j : Nat} {x : Int32} (hk : k ≠ 0) (h : KC c e) : KC c (uv e k i j x) := (uv_ne (fun q => hk q.1.symm)).trans h
theorem KC.o1 {c : Int32} {e : Dt} {k i j : Nat} {x : Int32} (hj : j ≠ 1) (h : KC c e) : KC c (uv e k i j x) := (uv_ne (fun q => hj q.2.symm)).trans h
theorem KC.w {c : Int32} {e : Dt} {k i j : Nat} {x : Int64} (h : KC c e) : KC c (uw e k i j x) := h
theorem KC.cp {c : Int32} {α : Type} {P : Prop} {a b : α × Dt} (ha : KC c a.2) (hb : KC c b.2) : KC c (cif P a b).2 := by
  by_cases q : P
  · rw [cif_t q]; exact ha
  · rw [cif_f q]; exact hb
theorem KC.cf {c : Int32} {d e : Dt} (h : KC c d) (g : CF d e) : KC c e := (g.f0).trans h
theorem KC.add {c : Int32} {d : Dt} (h : KC c d) (p1 p2 p3 p4 p5 p6 : Int32) : KC c (sp_X5_add d p1 p2 p3 p4 p5 p6).2 := (add_eff d p1 p2 p3 p4 p5 p6).2.2.1.trans h
theorem KC.addF {c : Int32} {d : Dt} (h : KC c d) (p1 p2 p3 p4 : Int32) : KC c (sp_X5_addFactor d p1 p2 p3 p4) := h
section KCS
variable {d : Dt} {c : Int32}
theorem n_X5_factor (h : KC c d) (p1 p2 p3 p4 : Int32) : KC c (sp_X5_factor d p1 p2 p3 p4).2 := by
  unfold sp_X5_factor
  exact KC.cp h (KC.cp (KC.cp (KC.cp (KC.cp h (h.addF _ _ _ _)) h) h) h)
theorem n_X5_at (h : KC c d) (p1 p2 p3 : Int32) : KC c (sp_X5_at d p1 p2 p3).2 := by
  unfold sp_X5_at
  exact KC.cp h (KC.cp (KC.cp (h.cf (fa_cf _ _ _)) h) h)
theorem n_X5_points (h : KC c d) (p1 p2 : Int32) : KC c (sp_X5_points d p1 p2).2 := by
  unfold sp_X5_points
  exact KC.cp h (KC.cp (h.cf (fc_cf _ _)) h)
theorem n_X5_point (h : KC c d) (p1 p2 p3 p4 : Int32) : KC c (sp_X5_point d p1 p2 p3 p4).2 := by
  unfold sp_X5_point
  have g := h.cf (fc_cf (d := d) p1 p2)
  exact KC.cp h (KC.cp (KC.cp (KC.cp g (KC.cp g g)) g) h)
theorem n_X5_proof (h : KC c d) (p1 p2 p3 : Int32) : KC c (sp_X5_proof d p1 p2 p3).2 := by
  unfold sp_X5_proof
  exact KC.cp h (KC.cp (KC.cp h h) h)
theorem n_X5_run (h : KC c d) (p1 p2 p3 : Int32) : KC c (sp_X5_run d p1 p2 p3).2 := by
  unfold sp_X5_run
  exact KC.cp (KC.cp (KC.cp (KC.cp h (KC.cp h h)) h) h) h
theorem n_X5_accept (h : KC c d) (p1 : Int32) : KC c (sp_X5_accept d p1).2 := by
  unfold sp_X5_accept
  have lp : ∀ (n : Nat) (x : Int32) (y : Int64), KC c (lp_X5_accept_37 d p1 n x y).2 := by
    intro n
    induction n with
    | zero => intro x y; exact h
    | succ n ih =>
      intro x y
      show KC c (st_X5_accept_37 d p1 (lp_X5_accept_37 d p1 n) x y).2
      unfold st_X5_accept_37
      exact KC.cp (KC.cp (KC.cp h h) h) (ih _ _)
  exact KC.cp (KC.cp h (KC.cp (lp 16 _ _) h)) h
theorem n_X5_ticket (h : KC c d) (p1 p2 p3 p4 : Int32) : KC c (sp_X5_ticket d p1 p2 p3 p4).2 := by
  unfold sp_X5_ticket
  exact KC.cp h (KC.cp (KC.cp (KC.cp (KC.cp h (KC.cp h (h.add _ _ _ _ _ _))) h) h) h)
theorem n_X5_right (h : KC c d) (p1 p2 : Int32) : KC c (sp_X5_right d p1 p2).2 := by
  unfold sp_X5_right
  exact KC.cp h (KC.cp (KC.cp h (KC.cp h (KC.cp h (KC.add (d := uv d 24 0 (ix p1) (d.1 0 0 17)) h _ _ _ _ _ _)))) h)
theorem n_X5_remake (hI : MI d) (h : KC c d) (p1 p2 p3 : Int32) : KC c (sp_X5_remake d p1 p2 p3).2 := (k_X5_remake' hI p1 p2 p3).2.trans h
theorem n_X5_shut (h : KC c d) (p1 : Int32) : KC c (sp_X5_shut d p1).2 := by
  unfold sp_X5_shut
  exact KC.cp (KC.cp h h) h
theorem n_X5_line (h : KC c d) (p1 p2 p3 : Int32) : KC c (sp_X5_line d p1 p2 p3).2 := by
  unfold sp_X5_line
  exact KC.cp h (KC.cp h (KC.cp (KC.cp h h) h))
theorem n_X5_end (h : KC c d) (p1 p2 : Int32) : KC c (sp_X5_end d p1 p2).2 := by
  unfold sp_X5_end
  exact KC.cp h (KC.cp h h)
theorem n_X5_sheet (h : KC c d) (p1 p2 p3 : Int32) : KC c (sp_X5_sheet d p1 p2 p3).2 := by
  unfold sp_X5_sheet
  have lp : ∀ (n : Nat) (x : Int32) (e : Dt), KC c e → KC c (lp_X5_sheet_65 d p1 p2 p3 n x e).2 := by
    intro n
    induction n with
    | zero => intro x e g; exact g
    | succ n ih =>
      intro x e g
      show KC c (st_X5_sheet_65 d p1 p2 p3 (lp_X5_sheet_65 d p1 p2 p3 n) x e).2
      unfold st_X5_sheet_65
      exact KC.cp g (ih _ _ g)
  exact KC.cp h (KC.cp (KC.cp (KC.cp (lp 64 0 _ h) h) h) h)
theorem n_X5_lose (h : KC c d) (p1 : Int32) : KC c (sp_X5_lose d p1).2 := by
  unfold sp_X5_lose
  exact KC.cp h (KC.cp h h)
theorem n_X5_put (h : KC c d) (p1 p2 p3 : Int32) : KC c (sp_X5_put d p1 p2 p3).2 := by
  unfold sp_X5_put
  exact KC.cp h (KC.cp (KC.cp h (KC.cp h h)) h)
theorem n_X5_cell (h : KC c d) (p1 p2 p3 : Int32) : KC c (sp_X5_cell d p1 p2 p3).2 := by
  unfold sp_X5_cell
  exact KC.cp h (KC.cp (KC.cp (KC.cp h h) (KC.cp (KC.cp h h) h)) h)
theorem n_X5_copy (h : KC c d) (p1 p2 p3 p4 p5 : Int32) : KC c (sp_X5_copy d p1 p2 p3 p4 p5).2 := by
  unfold sp_X5_copy
  have l2 : ∀ (n : Nat) (x : Int32) (z : Dt), KC c z → KC c (lp_X5_copy_142 d p1 p2 p3 p4 p5 n x z).2 := by
    intro n
    induction n with
    | zero => intro x z g; exact g
    | succ n ih =>
      intro x z g
      show KC c (st_X5_copy_142 d p1 p2 p3 p4 p5 (lp_X5_copy_142 d p1 p2 p3 p4 p5 n) x z).2
      unfold st_X5_copy_142
      exact KC.cp g (ih _ _ g)
  have l1 : ∀ (n : Nat) (x : Int32) (z : Dt), KC c z → KC c (lp_X5_copy_105 d p1 p2 p3 p4 p5 n x z).2 := by
    intro n
    induction n with
    | zero => intro x z g; exact g
    | succ n ih =>
      intro x z g
      show KC c (st_X5_copy_105 d p1 p2 p3 p4 p5 (lp_X5_copy_105 d p1 p2 p3 p4 p5 n) x z).2
      unfold st_X5_copy_105
      exact KC.cp (l2 64 0 z g) (ih _ _ g)
  exact KC.cp h (KC.cp h (KC.cp h (KC.cp (KC.cp (KC.cp h (KC.cp h (l1 64 0 d h))) h) h)))
theorem n_X5_watch (h : KC c d) (p1 p2 p3 p4 p5 : Int32) : KC c (sp_X5_watch d p1 p2 p3 p4 p5).2 := by
  unfold sp_X5_watch
  have lp : ∀ (n : Nat) (x y z u v w : Int32), KC c (lp_X5_watch_135 d p1 p2 p3 p4 p5 n x y z u v w).2 := by
    intro n
    induction n with
    | zero => intros; exact h
    | succ n ih =>
      intro x y z u v w
      show KC c (st_X5_watch_135 d p1 p2 p3 p4 p5 (lp_X5_watch_135 d p1 p2 p3 p4 p5 n) x y z u v w).2
      unfold st_X5_watch_135
      exact KC.cp (KC.cp h (KC.cp h (KC.cp h h))) (KC.cp (KC.cp (KC.cp (ih _ _ _ _ _ _) (ih _ _ _ _ _ _)) (ih _ _ _ _ _ _)) (KC.cp (KC.cp (KC.cp (ih _ _ _ _ _ _) (ih _ _ _ _ _ _)) (ih _ _ _ _ _ _)) (ih _ _ _ _ _ _)))
  exact KC.cp h (KC.cp (KC.cp (KC.cp h (KC.cp (KC.cp (KC.cp h (lp 64 _ _ _ _ _ _)) h) h)) h) h)
theorem n_X5_tell (h : KC c d) (p1 : Int32) : KC c (sp_X5_tell d p1).2 := by
  unfold sp_X5_tell sp_X5_traced
  exact KC.cp h (KC.cp (KC.cp h (KC.cp h h)) (KC.cp (KC.cp h (KC.cp h h)) (KC.cp h (KC.cp h h))))
theorem n_X5_worth (h : KC c d) (p1 : Int32) : KC c (sp_X5_worth d p1).2 := by
  unfold sp_X5_worth sp_X5_traced
  exact KC.cp h (KC.cp (KC.cp h (KC.cp h h)) (KC.cp h (KC.cp h h)))
theorem n_X5_as (h : KC c d) (p1 p2 : Int32) : KC c (sp_X5_as d p1 p2).2 := by
  unfold sp_X5_as
  exact KC.cp h (KC.cp (KC.cp h h) h)
end KCS
