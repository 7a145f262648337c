/-! ===== what keeps the relation ===== -/
section R4S
variable {M T : Nat} {d τ : Dt}
theorem fill_k (d0 : Dt) (t : Nat) (a : Int32) : ∀ (n : Nat) (x : Int32) (e : Dt), XE2 d e → XE2 d (lp_J7_fill_53178_5 d0 t a n x e) := by
  intro n
  induction n with
  | zero => intro x e h; exact h
  | succ n ih =>
    intro x e h
    show XE2 d (cif (60 ≤ x.toInt) e (lp_J7_fill_53178_5 d0 t a n (x + 1) (uv e 7 t (ix x) a)))
    exact XE2.cd h (ih _ _ h)
theorem xe2_meterN (a : Int32) : True := trivial
theorem xe2_proof (a b c : Int32) : XE2 d (sp_X4_proof d a b c).2 := by
  unfold sp_X4_proof
  refine XE2.cp ?_ XE2.rf
  by_cases q : sp_X4_isFlow b
  · rw [cif_t q]
    have f := iw_iff.mp q
    refine XE2.cp ⟨rfl, rfl, rfl, rfl, rfl, rfl, rfl, rfl, rfl, fun _ => Or.inr ?_⟩ XE2.rf
    exact f
  · rw [cif_f q]; exact XE2.rf
theorem xe2_run (a b c : Int32) : XE2 d (sp_X4_run d a b c).2 := by
  unfold sp_X4_run
  have g : ∀ (z : Int64) (y : Int32), XE2 d (uv (uw d 3 0 (ix (d.1 2 0 5)) z) 2 0 5 y) := fun z y => ⟨rfl, rfl, rfl, rfl, rfl, rfl, rfl, rfl, rfl, fun h => by
    unfold rPb at h ⊢
    rw [uv_at (show (0 : Nat) ≠ 5 by decide), uv_at (show (2 : Nat) ≠ 5 by decide)]; exact h⟩
  exact XE2.cp (XE2.cp (XE2.cp (XE2.cp XE2.rf (XE2.cp (g _ _) XE2.rf)) XE2.rf) XE2.rf) XE2.rf
theorem xe2_shut (a : Int32) : XE2 d (sp_X4_shut d a).2 := by
  unfold sp_X4_shut
  repeat (first | exact XE2.rf | refine XE2.cp ?_ ?_)
theorem xe2_sheet (a b c : Int32) : XE2 d (sp_X4_sheet d a b c).2 := by
  unfold sp_X4_sheet
  have g : XE2 d (sp_X2_renew (uv d 0 0 8 0) (ix a) b c) := by
    have f : XE2 d (lp_J7_fill_53178_5 (uv d 0 0 8 0) (ix a) 0 64 0 (uv d 0 0 8 0)) := fill_k _ _ _ _ _ _ XE2.rf
    unfold sp_X2_renew sp_J7_fill_53178
    generalize lp_J7_fill_53178_5 (uv d 0 0 8 0) (ix a) 0 64 0 (uv d 0 0 8 0) = e at f ⊢
    exact f
  repeat (first | exact XE2.rf | exact g | refine XE2.cp ?_ ?_)
theorem xe2_lose (a : Int32) : XE2 d (sp_X4_lose d a).2 := by
  unfold sp_X4_lose
  repeat (first | exact XE2.rf | refine XE2.cp ?_ ?_)
theorem xe2_put (a b c : Int32) : XE2 d (sp_X4_put d a b c).2 := by
  unfold sp_X4_put
  have g : XE2 d (sp_X2_fillIn (uv d 0 0 8 0) (ix a) b c) := by
    unfold sp_X2_fillIn
    exact XE2.cd XE2.rf (XE2.cd XE2.rf XE2.rf)
  repeat (first | exact XE2.rf | exact g | refine XE2.cp ?_ ?_)
theorem xe2_cell (a b c : Int32) : XE2 d (sp_X4_cell d a b c).2 := by
  unfold sp_X4_cell
  repeat (first | exact XE2.rf | refine XE2.cp ?_ ?_)
theorem xe2_copy (a b c e f : Int32) : XE2 d (sp_X4_copy d a b c e f).2 := by
  unfold sp_X4_copy
  repeat (first | exact XE2.rf | refine XE2.cp ?_ ?_)
theorem xe2_watch (a b c e f : Int32) : XE2 d (sp_X4_watch d a b c e f).2 := by
  unfold sp_X4_watch
  repeat (first | exact XE2.rf | refine XE2.cp ?_ ?_)
theorem xe2_as (a b : Int32) : XE2 d (sp_X4_as d a b).2 := by
  unfold sp_X4_as
  repeat (first | exact XE2.rf | refine XE2.cp ?_ ?_)
theorem xs2_at (p1 p2 p3 : Int32) : XS2 τ (sp_X5_at τ p1 p2 p3).2 := by
  unfold sp_X5_at
  exact XS2.cp XS2.rf (XS2.cp (XS2.cp (fa_cf _ _ _).xs2 XS2.rf) XS2.rf)
theorem xs2_points (p1 p2 : Int32) : XS2 τ (sp_X5_points τ p1 p2).2 := by
  unfold sp_X5_points
  exact XS2.cp XS2.rf (XS2.cp (fc_cf _ _).xs2 XS2.rf)
theorem xs2_point (p1 p2 p3 p4 : Int32) : XS2 τ (sp_X5_point τ p1 p2 p3 p4).2 := by
  unfold sp_X5_point
  have g := (fc_cf (d := τ) p1 p2).xs2
  exact XS2.cp XS2.rf (XS2.cp (XS2.cp (XS2.cp g (XS2.cp g g)) g) XS2.rf)
theorem xs2_proof (a b c : Int32) : XS2 τ (sp_X5_proof τ a b c).2 := by
  unfold sp_X5_proof
  repeat (first | exact XS2.rf | refine XS2.cp ?_ ?_)
theorem xs2_run (a b c : Int32) : XS2 τ (sp_X5_run τ a b c).2 := by
  unfold sp_X5_run
  repeat (first | exact XS2.rf | refine XS2.cp ?_ ?_)
theorem xs2_shut (a : Int32) : XS2 τ (sp_X5_shut τ a).2 := by
  unfold sp_X5_shut
  repeat (first | exact XS2.rf | refine XS2.cp ?_ ?_)
theorem xs2_sheet (p1 p2 p3 : Int32) : XS2 τ (sp_X5_sheet τ p1 p2 p3).2 := by
  unfold sp_X5_sheet
  have lp : ∀ (n : Nat) (x : Int32) (e : Dt), XS2 τ e → XS2 τ (lp_X5_sheet_65 τ p1 p2 p3 n x e).2 := by
    intro n
    induction n with
    | zero => intro x e g; exact g
    | succ n ih =>
      intro x e g
      show XS2 τ (st_X5_sheet_65 τ p1 p2 p3 (lp_X5_sheet_65 τ p1 p2 p3 n) x e).2
      unfold st_X5_sheet_65
      exact XS2.cp g (ih _ _ g)
  exact XS2.cp XS2.rf (XS2.cp (XS2.cp (XS2.cp (lp 64 0 _ XS2.rf) XS2.rf) XS2.rf) XS2.rf)
theorem xs2_lose (p1 : Int32) : XS2 τ (sp_X5_lose τ p1).2 := by
  unfold sp_X5_lose
  repeat (first | exact XS2.rf | refine XS2.cp ?_ ?_)
theorem xs2_put (p1 p2 p3 : Int32) : XS2 τ (sp_X5_put τ p1 p2 p3).2 := by
  unfold sp_X5_put
  repeat (first | exact XS2.rf | refine XS2.cp ?_ ?_)
theorem xs2_cell (p1 p2 p3 : Int32) : XS2 τ (sp_X5_cell τ p1 p2 p3).2 := by
  unfold sp_X5_cell
  repeat (first | exact XS2.rf | refine XS2.cp ?_ ?_)
theorem xs2_copy (p1 p2 p3 p4 p5 : Int32) : XS2 τ (sp_X5_copy τ p1 p2 p3 p4 p5).2 := by
  unfold sp_X5_copy
  have l2 : ∀ (n : Nat) (x : Int32) (z : Dt), XS2 τ z → XS2 τ (lp_X5_copy_142 τ p1 p2 p3 p4 p5 n x z).2 := by
    intro n
    induction n with
    | zero => intro x z g; exact g
    | succ n ih =>
      intro x z g
      show XS2 τ (st_X5_copy_142 τ p1 p2 p3 p4 p5 (lp_X5_copy_142 τ p1 p2 p3 p4 p5 n) x z).2
      unfold st_X5_copy_142
      exact XS2.cp g (ih _ _ g)
  have l1 : ∀ (n : Nat) (x : Int32) (z : Dt), XS2 τ z → XS2 τ (lp_X5_copy_105 τ p1 p2 p3 p4 p5 n x z).2 := by
    intro n
    induction n with
    | zero => intro x z g; exact g
    | succ n ih =>
      intro x z g
      show XS2 τ (st_X5_copy_105 τ p1 p2 p3 p4 p5 (lp_X5_copy_105 τ p1 p2 p3 p4 p5 n) x z).2
      unfold st_X5_copy_105
      exact XS2.cp (l2 64 0 z g) (ih _ _ g)
  have h : XS2 τ τ := XS2.rf
  exact XS2.cp h (XS2.cp h (XS2.cp h (XS2.cp (XS2.cp (XS2.cp h (XS2.cp h (l1 64 0 τ h))) h) h)))
theorem xs2_watch (p1 p2 p3 p4 p5 : Int32) : XS2 τ (sp_X5_watch τ p1 p2 p3 p4 p5).2 := by
  unfold sp_X5_watch
  have h : XS2 τ τ := XS2.rf
  have lp : ∀ (n : Nat) (x y z u v w : Int32), XS2 τ (lp_X5_watch_135 τ p1 p2 p3 p4 p5 n x y z u v w).2 := by
    intro n
    induction n with
    | zero => intros; exact h
    | succ n ih =>
      intro x y z u v w
      show XS2 τ (st_X5_watch_135 τ p1 p2 p3 p4 p5 (lp_X5_watch_135 τ p1 p2 p3 p4 p5 n) x y z u v w).2
      unfold st_X5_watch_135
      exact XS2.cp (XS2.cp h (XS2.cp h (XS2.cp h h))) (XS2.cp (XS2.cp (XS2.cp (ih _ _ _ _ _ _) (ih _ _ _ _ _ _)) (ih _ _ _ _ _ _)) (XS2.cp (XS2.cp (XS2.cp (ih _ _ _ _ _ _) (ih _ _ _ _ _ _)) (ih _ _ _ _ _ _)) (ih _ _ _ _ _ _)))
  exact XS2.cp h (XS2.cp (XS2.cp (XS2.cp h (XS2.cp (XS2.cp (XS2.cp h (lp 64 _ _ _ _ _ _)) h) h)) h) h)
theorem xs2_as (a b : Int32) : XS2 τ (sp_X5_as τ a b).2 := by
  unfold sp_X5_as
  repeat (first | exact XS2.rf | refine XS2.cp ?_ ?_)
theorem r2_X4_proof (h : R2 d τ) (iX : XI M T d) (iM : MI τ) (a b c : Int32) : R2 (sp_X4_proof d a b c).2 (sp_X5_proof τ a b c).2 := ⟨(r1_X4_proof h.1 iX a b c).2, (h.2.x (xe2_proof a b c)).s (xs2_proof a b c)⟩
theorem r2_X4_run (h : R2 d τ) (iX : XI M T d) (iM : MI τ) (a b c : Int32) : R2 (sp_X4_run d a b c).2 (sp_X5_run τ a b c).2 := ⟨(r1_X4_run h.1 iX a b c).2, (h.2.x (xe2_run a b c)).s (xs2_run a b c)⟩
theorem r2_X4_shut (h : R2 d τ) (iX : XI M T d) (iM : MI τ) (a : Int32) : R2 (sp_X4_shut d a).2 (sp_X5_shut τ a).2 := ⟨(r1_X4_shut h.1 a).2, (h.2.x (xe2_shut a)).s (xs2_shut a)⟩
theorem r2_X4_sheet (h : R2 d τ) (iX : XI M T d) (iM : MI τ) (a b c : Int32) : R2 (sp_X4_sheet d a b c).2 (sp_X5_sheet τ a b c).2 := ⟨(r1_X4_sheet h.1 iM a b c).2, (h.2.x (xe2_sheet a b c)).s (xs2_sheet a b c)⟩
theorem r2_X4_lose (h : R2 d τ) (iX : XI M T d) (iM : MI τ) (a : Int32) : R2 (sp_X4_lose d a).2 (sp_X5_lose τ a).2 := ⟨(r1_X4_lose h.1 a).2, (h.2.x (xe2_lose a)).s (xs2_lose a)⟩
theorem r2_X4_put (h : R2 d τ) (iX : XI M T d) (iM : MI τ) (a b c : Int32) : R2 (sp_X4_put d a b c).2 (sp_X5_put τ a b c).2 := ⟨(r1_X4_put h.1 iM a b c).2, (h.2.x (xe2_put a b c)).s (xs2_put a b c)⟩
theorem r2_X4_cell (h : R2 d τ) (iX : XI M T d) (iM : MI τ) (a b c : Int32) : R2 (sp_X4_cell d a b c).2 (sp_X5_cell τ a b c).2 := ⟨(r1_X4_cell h.1 iM a b c).2, (h.2.x (xe2_cell a b c)).s (xs2_cell a b c)⟩
theorem r2_X4_copy (h : R2 d τ) (iX : XI M T d) (iM : MI τ) (a b c e f : Int32) : R2 (sp_X4_copy d a b c e f).2 (sp_X5_copy τ a b c e f).2 := ⟨(r1_X4_copy h.1 iM a b c e f).2, (h.2.x (xe2_copy a b c e f)).s (xs2_copy a b c e f)⟩
theorem r2_X4_watch (h : R2 d τ) (iX : XI M T d) (iM : MI τ) (a b c e f : Int32) : R2 (sp_X4_watch d a b c e f).2 (sp_X5_watch τ a b c e f).2 := ⟨(r1_X4_watch h.1 iM a b c e f).2, (h.2.x (xe2_watch a b c e f)).s (xs2_watch a b c e f)⟩
theorem r2_X4_as (h : R2 d τ) (iX : XI M T d) (iM : MI τ) (a b : Int32) : R2 (sp_X4_as d a b).2 (sp_X5_as τ a b).2 := ⟨r1_X4_as h.1 a b, (h.2.x (xe2_as a b)).s (xs2_as a b)⟩
theorem r2_X4_at (h : R2 d τ) (iX : XI M T d) (iM : MI τ) (a b c : Int32) : R2 d (sp_X5_at τ a b c).2 := ⟨s1_at h.1 a b c, h.2.s (xs2_at a b c)⟩
theorem r2_X4_points (h : R2 d τ) (iX : XI M T d) (iM : MI τ) (a b : Int32) : R2 d (sp_X5_points τ a b).2 := ⟨s1_points h.1 a b, h.2.s (xs2_points a b)⟩
theorem r2_X4_point (h : R2 d τ) (iX : XI M T d) (iM : MI τ) (a b c e : Int32) : R2 d (sp_X5_point τ a b c e).2 := ⟨s1_point h.1 a b c e, h.2.s (xs2_point a b c e)⟩
end R4S
