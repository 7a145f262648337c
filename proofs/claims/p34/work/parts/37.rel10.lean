/-! ===== the fault ===== -/
section RAS
variable {M T : Nat} {d τ : Dt}
def FT (d τ : Dt) : Prop := τ.1 0 0 0 = d.1 0 0 8
def JF {α : Type} (a b : α × Dt) : Prop := FT a.2 b.2
def R3 (d τ : Dt) : Prop := R2 d τ ∧ FT d τ
theorem ft_sheet (h : R1 d τ) (iM : MI τ) (a b c : Int32) : JF (sp_X4_sheet d a b c) (sp_X5_sheet τ a b c) := by
  unfold sp_X4_sheet sp_X5_sheet
  refine cnq (Q := JF) (noSheet_e a) (fun c1 => ?_) (fun _ => rfl)
  refine cq (Q := JF) (lane_e b).symm (fun c2 => ?_) (fun _ => rfl)
  refine cq (Q := JF) rfl (fun c3 => ?_) (fun _ => rfl)
  refine cq (Q := JF) rfl (fun c4 => ?_) (fun _ => rfl)
  have f1 := is_of c1
  have ik := ix_int f1.1
  obtain ⟨r1, r2, r3, r4, r5, r6, r7⟩ := sheet_l τ b c f1.1 f1.2 c4 c3 64 0 (uv (uv τ 28 0 (ix a) c) 29 0 (ix a) b) (by decide) (by rw [Int32.toInt_zero]; exact c4) (by rw [Int32.toInt_zero]; omega) (fun j hj => by rw [Int32.toInt_zero] at hj; omega)
  obtain ⟨s1, s2, s3, s4⟩ := fill_l (uv d 0 0 8 0) (ix a) 0 64 0 (uv d 0 0 8 0) (by decide) (by decide) (by decide) (fun j hj => by rw [Int32.toInt_zero] at hj; omega)
  have s1 : ∀ j : Nat, j < 60 → (sp_J7_fill_53178 (uv d 0 0 8 0) (ix a) 0).1 7 (ix a) j = 0 := s1
  have s2 : ∀ k, k ≠ 7 → (sp_J7_fill_53178 (uv d 0 0 8 0) (ix a) 0).1 k = (uv d 0 0 8 0).1 k := s2
  have s3 : ∀ u, u ≠ ix a → (sp_J7_fill_53178 (uv d 0 0 8 0) (ix a) 0).1 7 u = d.1 7 u := s3
  have s4 : (sp_J7_fill_53178 (uv d 0 0 8 0) (ix a) 0).2 = d.2 := s4
  have s2 : (sp_J7_fill_53178 (uv d 0 0 8 0) (ix a) 0).1 0 = (uv d 0 0 8 0).1 0 := s2 0 (by decide)
  show (lp_X5_sheet_65 τ a b c 64 0 (uv (uv τ 28 0 (ix a) c) 29 0 (ix a) b)).2.1 0 0 0 = (sp_X2_renew (uv d 0 0 8 0) (ix a) b c).1 0 0 8
  rw [r6]
  unfold sp_X2_renew
  show 0 = (sp_J7_fill_53178 (uv d 0 0 8 0) (ix a) 0).1 0 0 8
  rw [s2]; rfl
theorem ft_put (h : R1 d τ) (iM : MI τ) (a b c : Int32) : JF (sp_X4_put d a b c) (sp_X5_put τ a b c) := by
  unfold sp_X4_put sp_X5_put
  refine cnq (Q := JF) (noSheet_e a) (fun c1 => ?_) (fun _ => rfl)
  have f1 := is_of c1
  have ik := ix_int f1.1
  obtain ⟨k4, gk⟩ := h.sh c1
  by_cases q : (d.1 6 (ix a) 1).toInt = 0
  · have z := gk.1.mp q
    have en : sp_X5_noCell τ a b = 1 := by unfold sp_X5_noCell; rw [cif_f (by omega)]
    rw [cif_t q, en, cif_f (by decide)]; exact rfl
  · have z : 0 ≤ (τ.1 28 0 (ix a)).toInt := by
      have := Int.not_lt.mp (fun z => q (gk.1.mpr z))
      omega
    have h6 := iM.s28 (ix a) k4
    obtain ⟨e3, e2, ec⟩ := gk.2 z
    have s1 := ts1 (x := τ.1 28 0 (ix a)) (by omega)
    rw [cif_f q, noCell_e z h6]
    have hc : sp_X2_hasCell (uv d 0 0 8 0) (ix a) b ↔ 0 ≤ b.toInt ∧ b.toInt < (τ.1 28 0 (ix a)).toInt := by
      rw [hasCell_e]
      show 0 ≤ b.toInt ∧ b.toInt ≤ ((d.1 6 (ix a) 3) - 1).toInt ↔ _
      rw [e3]; omega
    by_cases c2 : 0 ≤ b.toInt ∧ b.toInt < (τ.1 28 0 (ix a)).toInt
    · rw [cif_t (hc.mpr c2), cif_t c2, cif_t (by decide)]
      have ib := ix_int c2.1
      rw [ix60 f1.1 f1.2 c2.1 (by omega)]
      unfold sp_X2_fillIn
      have e2' : (uv d 0 0 8 0).1 6 (ix a) 2 = τ.1 29 0 (ix a) := e2
      rw [e2']
      by_cases l0 : (τ.1 29 0 (ix a)).toInt = 0
      · rw [cif_t l0, cif_t l0]; exact rfl
      · rw [cif_f l0, cif_f l0]
        by_cases l1 : (τ.1 29 0 (ix a)).toInt = 1
        · rw [cif_t l1, cif_t l1]; exact rfl
        · rw [cif_f l1, cif_f l1]; exact rfl
    · rw [cif_f (fun y => c2 (hc.mp y)), cif_f c2, cif_f (by decide)]; exact rfl
theorem ft_cell (h : R1 d τ) (iM : MI τ) (a b c : Int32) : JF (sp_X4_cell d a b c) (sp_X5_cell τ a b c) := by
  unfold sp_X4_cell sp_X5_cell
  refine cnq (Q := JF) (noSheet_e a) (fun c1 => ?_) (fun _ => rfl)
  refine cq (Q := JF) (lane_e c).symm (fun c2 => ?_) (fun _ => rfl)
  have f1 := is_of c1
  have ik := ix_int f1.1
  obtain ⟨k4, gk⟩ := h.sh c1
  by_cases q : (d.1 6 (ix a) 1).toInt = 0
  · have z := gk.1.mp q
    have ef : sp_X2_faultAs (uv d 0 0 8 0) (ix a) c = 1 := cif_t q
    have en : sp_X5_noCell (uv τ 0 0 0 0) a b = 1 := by unfold sp_X5_noCell; rw [cif_f (show ¬ 0 ≤ ((uv τ 0 0 0 0).1 28 0 (ix a)).toInt from fun y => by have y : 0 ≤ (τ.1 28 0 (ix a)).toInt := y; omega)]
    rw [ef, cif_f (by decide), cif_t z, en, cif_f (by decide)]; exact rfl
  · have z : 0 ≤ (τ.1 28 0 (ix a)).toInt := by
      have := Int.not_lt.mp (fun z => q (gk.1.mpr z))
      omega
    have h6 := iM.s28 (ix a) k4
    obtain ⟨e3, e2, ec⟩ := gk.2 z
    have s1 := ts1 (x := τ.1 28 0 (ix a)) (by omega)
    rw [cif_f (show ¬ (τ.1 28 0 (ix a)).toInt < 0 by omega)]
    have ef : sp_X2_faultAs (uv d 0 0 8 0) (ix a) c = cif ((τ.1 29 0 (ix a)).toInt = c.toInt) 0 2 := by
      show cif ((d.1 6 (ix a) 1).toInt = 0) 1 (cif ((d.1 6 (ix a) 2).toInt = c.toInt) 0 2) = _
      rw [cif_f q, e2]
    rw [ef]
    by_cases l : (τ.1 29 0 (ix a)).toInt = c.toInt
    · rw [cif_t l, cif_t l, cif_t (by decide)]
      have en := noCell_e (τ := uv τ 0 0 0 0) (a := a) (x := b) z h6
      rw [en]
      have en : (uv τ 0 0 0 0).1 28 0 (ix a) = τ.1 28 0 (ix a) := rfl
      rw [en]
      have hc : sp_X2_hasCell (uv (uv d 0 0 8 0) 0 0 8 0) (ix a) b ↔ 0 ≤ b.toInt ∧ b.toInt < (τ.1 28 0 (ix a)).toInt := by
        rw [hasCell_e]
        show 0 ≤ b.toInt ∧ b.toInt ≤ ((d.1 6 (ix a) 3) - 1).toInt ↔ _
        rw [e3]; omega
      by_cases c3 : 0 ≤ b.toInt ∧ b.toInt < (τ.1 28 0 (ix a)).toInt
      · rw [cif_t (hc.mpr c3), cif_t c3, cif_t (by decide)]
        have ib := ix_int c3.1
        rw [ix60 f1.1 f1.2 c3.1 (by omega), ec (ix b) (by omega)]
        exact rfl
      · rw [cif_f (fun y => c3 (hc.mp y)), cif_f c3, cif_f (by decide)]; exact rfl
    · rw [cif_f l, cif_f l, cif_f (by decide)]; exact rfl
theorem ft_copy (h : R1 d τ) (iM : MI τ) (a b c e f : Int32) : JF (sp_X4_copy d a b c e f) (sp_X5_copy τ a b c e f) := by
  unfold sp_X4_copy sp_X5_copy
  refine cnq (Q := JF) (noSheet_e a) (fun c1 => ?_) (fun _ => rfl)
  refine cnq (Q := JF) (noSheet_e c) (fun c2 => ?_) (fun _ => rfl)
  have f1 := is_of c1
  have ik := ix_int f1.1
  have f2 := is_of c2
  have io := ix_int f2.1
  obtain ⟨k4, gk⟩ := h.sh c1
  obtain ⟨o4, go⟩ := h.sh c2
  refine ciq (Q := JF) gk.1 (fun _ => rfl) (fun q1 => ?_)
  refine cniq (Q := JF) (by rw [go.1]; omega) (fun _ => rfl) (fun q2 => ?_)
  have z1 : 0 ≤ (τ.1 28 0 (ix a)).toInt := by
    have := Int.not_lt.mp (fun z => q1 (gk.1.mpr z))
    omega
  have z2 : 0 ≤ (τ.1 28 0 (ix c)).toInt := by
    have := Int.not_lt.mp (fun z => q2 (go.1.mpr z))
    omega
  obtain ⟨a3, a2, ac⟩ := gk.2 z1
  obtain ⟨b3, b2, bc⟩ := go.2 z2
  have h61 := iM.s28 (ix a) k4
  have h62 := iM.s28 (ix c) o4
  refine cq (Q := JF) (by rw [a2, b2]) (fun _ => ?_) (fun _ => rfl)
  have hc1 : sp_X2_hasCells (uv d 0 0 8 0) (ix a) b f ↔ 0 ≤ b.toInt ∧ 0 ≤ f.toInt ∧ b.toInt + f.toInt ≤ (τ.1 28 0 (ix a)).toInt := by
    have e3 : (uv d 0 0 8 0).1 6 (ix a) 3 = τ.1 28 0 (ix a) := a3
    rw [hasCells_e (by rw [e3]; exact z1) (by rw [e3]; exact h61), e3]
  have hc2 : sp_X2_hasCells (uv d 0 0 8 0) (ix c) e f ↔ 0 ≤ e.toInt ∧ 0 ≤ f.toInt ∧ e.toInt + f.toInt ≤ (τ.1 28 0 (ix c)).toInt := by
    have e3 : (uv d 0 0 8 0).1 6 (ix c) 3 = τ.1 28 0 (ix c) := b3
    rw [hasCells_e (by rw [e3]; exact z2) (by rw [e3]; exact h62), e3]
  refine cniq (Q := JF) (by rw [isBeyond_e, hc1]) (fun y1 => ?_) (fun _ => rfl)
  refine cniq (Q := JF) (by rw [isBeyond_e, hc2]) (fun y2 => ?_) (fun _ => rfl)
  have y1 := hc1.mp y1
  have y2 := hc2.mp y2
  obtain ⟨r1, r2, r3, r4, r5, r6⟩ := cp105 τ f1.1 f1.2 y1.1 (by omega) f2.1 f2.2 y2.1 (by omega) y1.2.1 (by omega) (τ.1 30 0) 64 0 τ (by decide) (by rw [Int32.toInt_zero]; exact y1.2.1) (by rw [Int32.toInt_zero]; omega) rfl (fun u hu => by rw [Int32.toInt_zero] at hu; omega)
  show (lp_X5_copy_105 τ a b c e f 64 0 τ).2.1 0 0 0 = 0
  exact r5
theorem ft_watch (h : R1 d τ) (iM : MI τ) (a b c e f : Int32) : JF (sp_X4_watch d a b c e f) (sp_X5_watch τ a b c e f) := by
  unfold sp_X4_watch sp_X5_watch
  refine cnq (Q := JF) (noSheet_e a) (fun c1 => ?_) (fun _ => rfl)
  refine cq (Q := JF) (lane_e b).symm (fun c2 => ?_) (fun _ => rfl)
  refine cq (Q := JF) (in_iw (p := f) (lo := 0) (hi := 3) rfl rfl).symm (fun c3 => ?_) (fun _ => rfl)
  have f1 := is_of c1
  obtain ⟨k4, gk⟩ := h.sh c1
  by_cases q : (d.1 6 (ix a) 1).toInt = 0
  · have z := gk.1.mp q
    have ef : sp_X2_faultAs (uv d 0 0 8 0) (ix a) b = 1 := cif_t q
    rw [ef, cif_f (by decide), cif_t z]; exact rfl
  · have z : 0 ≤ (τ.1 28 0 (ix a)).toInt := by
      have := Int.not_lt.mp (fun z => q (gk.1.mpr z))
      omega
    have h6 := iM.s28 (ix a) k4
    obtain ⟨e3, e2, ec⟩ := gk.2 z
    rw [cif_f (show ¬ (τ.1 28 0 (ix a)).toInt < 0 by omega)]
    have ef : sp_X2_faultAs (uv d 0 0 8 0) (ix a) b = cif ((τ.1 29 0 (ix a)).toInt = b.toInt) 0 2 := by
      show cif ((d.1 6 (ix a) 1).toInt = 0) 1 (cif ((d.1 6 (ix a) 2).toInt = b.toInt) 0 2) = _
      rw [cif_f q, e2]
    rw [ef]
    by_cases l : (τ.1 29 0 (ix a)).toInt = b.toInt
    · rw [cif_t l, cif_t l, cif_t (by decide)]
      refine cq (Q := JF) rfl (fun c4 => ?_) (fun _ => rfl)
      have hc : sp_X2_hasCells (uv d 0 0 8 0) (ix a) c e ↔ 0 ≤ c.toInt ∧ 0 ≤ e.toInt ∧ c.toInt + e.toInt ≤ (τ.1 28 0 (ix a)).toInt := by
        have e3 : (uv d 0 0 8 0).1 6 (ix a) 3 = τ.1 28 0 (ix a) := e3
        rw [hasCells_e (by rw [e3]; exact z) (by rw [e3]; exact h6), e3]
      refine cniq (Q := JF) (by rw [isBeyond_e, hc]) (fun y => ?_) (fun _ => rfl)
      have y := hc.mp y
      rw [watch_l h c1 y.1 y.2.1 z y.2.2 h6 64 c 0 0 1 0 0 0 (Int.le_refl _) (by omega) (by omega) (by decide) (by rw [Int32.toInt_zero]; exact y.1) (Or.inl ⟨rfl, by decide⟩)]
      exact rfl
    · rw [cif_f l, cif_f l, cif_f (by decide)]; exact rfl
theorem ft_as (h : R2 d τ) (a b : Int32) : JF (sp_X4_as d a b) (sp_X5_as τ a b) := by
  have hn : sp_X4_isTicket (uv d 0 0 8 0) a = sp_X4_isTicket d a := rfl
  unfold sp_X4_as sp_X5_as
  rw [hn]
  refine cnq (Q := JF) (nt_R h a) (fun c1 => ?_) (fun _ => rfl)
  refine cq (Q := JF) (in_iw (p := b) (lo := 0) (hi := 2) rfl rfl).symm (fun c2 => ?_) (fun _ => rfl)
  obtain ⟨p0, pT, ⟨a1, _⟩, _⟩ := tk_of h c1
  rw [a1]
  exact cq (Q := JF) rfl (fun _ => rfl) (fun _ => rfl)
/-! what leaves the fault as it is -/
def X8 (d e : Dt) : Prop := e.1 0 0 8 = d.1 0 0 8
def S8 (d e : Dt) : Prop := e.1 0 0 0 = d.1 0 0 0
theorem X8.rf : X8 d d := rfl
theorem S8.rf : S8 τ τ := rfl
theorem X8.cp {α : Type} {P : Prop} {a b : α × Dt} (ha : X8 d a.2) (hb : X8 d b.2) : X8 d (cif P a b).2 := by
  by_cases q : P
  · rw [cif_t q]; exact ha
  · rw [cif_f q]; exact hb
theorem S8.cp {α : Type} {P : Prop} {a b : α × Dt} (ha : S8 d a.2) (hb : S8 d b.2) : S8 d (cif P a b).2 := by
  by_cases q : P
  · rw [cif_t q]; exact ha
  · rw [cif_f q]; exact hb
theorem FT.k {e σ : Dt} (h : FT d τ) (g1 : X8 d e) (g2 : S8 τ σ) : FT e σ := g2.trans (h.trans g1.symm)
theorem CF.s8 {e : Dt} (g : CF d e) : S8 d e := g.f0
theorem tf_x8 (d0 : Dt) (i : Nat) (a b c : Int32) : ∀ (n : Nat) (x : Int32) (e : Dt), X8 d e → X8 d (lp_X0_takeFactor_6 d0 i a b c n x e) := by
  intro n
  induction n with
  | zero => intro x e h; exact h
  | succ n ih =>
    intro x e h
    show X8 d (st_X0_takeFactor_6 d0 i a b c (lp_X0_takeFactor_6 d0 i a b c n) x e)
    unfold st_X0_takeFactor_6
    by_cases c1 : x.toInt ≤ 0
    · rw [cif_t c1]; exact h
    · rw [cif_f c1]
      by_cases c2 : sp_X0_standsBehind e i (x - 1) a b
      · rw [cif_t c2]; exact ih _ _ h
      · rw [cif_f c2]; exact h
theorem x8_tf (i : Nat) (a b c : Int32) : X8 d (sp_X0_takeFactor d i a b c) := tf_x8 _ _ _ _ _ _ _ _ X8.rf
theorem x8_meter (a : Int32) : X8 d (sp_X4_meter d a).2 := by
  unfold sp_X4_meter
  repeat (first | exact X8.rf | refine X8.cp ?_ ?_)
theorem x8_factor (a b c e : Int32) : X8 d (sp_X4_factor d a b c e).2 := by
  unfold sp_X4_factor
  repeat (first | exact X8.rf | exact x8_tf _ _ _ _ | refine X8.cp ?_ ?_)
theorem x8_proof (a b c : Int32) : X8 d (sp_X4_proof d a b c).2 := by
  unfold sp_X4_proof
  repeat (first | exact X8.rf | refine X8.cp ?_ ?_)
theorem x8_run (a b c : Int32) : X8 d (sp_X4_run d a b c).2 := by
  unfold sp_X4_run
  repeat (first | exact X8.rf | refine X8.cp ?_ ?_)
theorem x8_accept (a : Int32) : X8 d (sp_X4_accept d a).2 := by
  unfold sp_X4_accept
  repeat (first | exact X8.rf | exact (show X8 d (uv (sp_X0_takeFactor d _ _ _ _) 2 0 0 0) from x8_tf _ _ _ _) | refine X8.cp ?_ ?_)
theorem x8_ticket (a b c e : Int32) : X8 d (sp_X4_ticket d a b c e).2 := by
  unfold sp_X4_ticket
  repeat (first | exact X8.rf | refine X8.cp ?_ ?_)
theorem x8_right (a b : Int32) : X8 d (sp_X4_right d a b).2 := by
  unfold sp_X4_right
  repeat (first | exact X8.rf | refine X8.cp ?_ ?_)
theorem rmk_x8 {m f to : Int32} : ∀ (n a : Nat) (e : Dt), X8 d e → X8 d (rmk m f to n a e) := by
  intro n
  induction n with
  | zero => intro a e h; exact h
  | succ n ih =>
    intro a e h
    show X8 d (rmk m f to n (a + 1) (cif (sp_X4_isToRemake e a m f to) (sp_X4_replace e (nI a) 2 (e.1 13 a 2)) e))
    by_cases q : sp_X4_isToRemake e a m f to
    · rw [cif_t q]; exact ih _ _ h
    · rw [cif_f q]; exact ih _ _ h
theorem x8_remake (a b c : Int32) : X8 d (sp_X4_remake d a b c).2 := by
  unfold sp_X4_remake
  exact X8.cp (X8.cp (X8.cp X8.rf (X8.cp (rmk_x8 _ _ _ X8.rf) X8.rf)) X8.rf) X8.rf
theorem x8_shut (a : Int32) : X8 d (sp_X4_shut d a).2 := by
  unfold sp_X4_shut
  repeat (first | exact X8.rf | refine X8.cp ?_ ?_)
theorem x8_line (a b c : Int32) : X8 d (sp_X4_line d a b c).2 := by
  unfold sp_X4_line
  repeat (first | exact X8.rf | refine X8.cp ?_ ?_)
theorem x8_end (a b : Int32) : X8 d (sp_X4_end d a b).2 := by
  unfold sp_X4_end
  repeat (first | exact X8.rf | refine X8.cp ?_ ?_)
theorem x8_lose (a : Int32) : X8 d (sp_X4_lose d a).2 := by
  unfold sp_X4_lose
  repeat (first | exact X8.rf | refine X8.cp ?_ ?_)
theorem x8_tell (a : Int32) : X8 d (sp_X4_tell d a).2 := by
  unfold sp_X4_tell sp_X4_tellTicket sp_X4_leave
  repeat (first | exact X8.rf | refine X8.cp ?_ ?_)
theorem x8_worth (a : Int32) : X8 d (sp_X4_worth d a).2 := by
  unfold sp_X4_worth sp_X4_leave
  repeat (first | exact X8.rf | refine X8.cp ?_ ?_)
theorem add_s8 (p1 p2 p3 p4 p5 p6 : Int32) : S8 τ (sp_X5_add τ p1 p2 p3 p4 p5 p6).2 := by
  obtain ⟨b, eb⟩ : ∃ z, z = uv (uv (uv (uv (uv τ 18 0 (ix (τ.1 0 0 17)) p1) 19 0 (ix (τ.1 0 0 17)) p2) 20 0 (ix (τ.1 0 0 17)) p3) 21 0 (ix (τ.1 0 0 17)) p4) 22 0 (ix (τ.1 0 0 17)) p5 := ⟨_, rfl⟩
  have hb : S8 τ b := by rw [eb]; rfl
  unfold sp_X5_add
  rw [← eb]
  have g := (fa_cf (d := b) p2 p5 p3).s8
  have g : S8 τ (sp_X5_factorAt b p2 p5 p3).2 := g.trans hb
  generalize sp_X5_factorAt b p2 p5 p3 = F at g ⊢
  exact g
theorem s8_meter (a : Int32) : S8 τ (sp_X5_meter τ a).2 := by
  unfold sp_X5_meter
  repeat (first | exact S8.rf | refine S8.cp ?_ ?_)
theorem s8_factor (a b c e : Int32) : S8 τ (sp_X5_factor τ a b c e).2 := by
  unfold sp_X5_factor
  repeat (first | exact S8.rf | refine S8.cp ?_ ?_)
theorem s8_at (p1 p2 p3 : Int32) : S8 τ (sp_X5_at τ p1 p2 p3).2 := by
  unfold sp_X5_at
  exact S8.cp S8.rf (S8.cp (S8.cp (fa_cf _ _ _).s8 S8.rf) S8.rf)
theorem s8_points (p1 p2 : Int32) : S8 τ (sp_X5_points τ p1 p2).2 := by
  unfold sp_X5_points
  exact S8.cp S8.rf (S8.cp (fc_cf _ _).s8 S8.rf)
theorem s8_point (p1 p2 p3 p4 : Int32) : S8 τ (sp_X5_point τ p1 p2 p3 p4).2 := by
  unfold sp_X5_point
  have g := (fc_cf (d := τ) p1 p2).s8
  exact S8.cp S8.rf (S8.cp (S8.cp (S8.cp g (S8.cp g g)) g) S8.rf)
theorem s8_proof (a b c : Int32) : S8 τ (sp_X5_proof τ a b c).2 := by
  unfold sp_X5_proof
  repeat (first | exact S8.rf | refine S8.cp ?_ ?_)
theorem s8_run (a b c : Int32) : S8 τ (sp_X5_run τ a b c).2 := by
  unfold sp_X5_run
  repeat (first | exact S8.rf | refine S8.cp ?_ ?_)
theorem s8_accept (p1 : Int32) : S8 τ (sp_X5_accept τ p1).2 := by
  unfold sp_X5_accept
  have h : S8 τ τ := rfl
  have lp : ∀ (n : Nat) (x : Int32) (y : Int64), S8 τ (lp_X5_accept_37 τ p1 n x y).2 := by
    intro n
    induction n with
    | zero => intro x y; exact h
    | succ n ih =>
      intro x y
      show S8 τ (st_X5_accept_37 τ p1 (lp_X5_accept_37 τ p1 n) x y).2
      unfold st_X5_accept_37
      exact S8.cp (S8.cp (S8.cp h h) h) (ih _ _)
  exact S8.cp (S8.cp h (S8.cp (lp 16 _ _) h)) h
theorem s8_ticket (p1 p2 p3 p4 : Int32) : S8 τ (sp_X5_ticket τ p1 p2 p3 p4).2 := by
  unfold sp_X5_ticket
  exact S8.cp S8.rf (S8.cp (S8.cp (S8.cp (S8.cp S8.rf (S8.cp S8.rf (add_s8 _ _ _ _ _ _))) S8.rf) S8.rf) S8.rf)
theorem s8_right (p1 p2 : Int32) : S8 τ (sp_X5_right τ p1 p2).2 := by
  unfold sp_X5_right
  have g : S8 (uv τ 24 0 (ix p1) (τ.1 0 0 17)) (sp_X5_add (uv τ 24 0 (ix p1) (τ.1 0 0 17)) 1 (τ.1 19 0 (ix p1)) (τ.1 20 0 (ix p1)) p2 (τ.1 22 0 (ix p1)) p1).2 := add_s8 _ _ _ _ _ _
  exact S8.cp S8.rf (S8.cp (S8.cp S8.rf (S8.cp S8.rf (S8.cp S8.rf g))) S8.rf)
theorem rmM_s8 {m f to : Int32} : ∀ (n a : Nat) (e : Dt), S8 τ e → S8 τ (rmM m f to n a e) := by
  intro n
  induction n with
  | zero => intro a e h; exact h
  | succ n ih =>
    intro a e h
    have g : S8 τ (sp_X5_isStale e (nI a) m f to).2 := (is_cf (d := e) (nI a) m f to).s8.trans h
    show S8 τ (rmM m f to n (a + 1) (cif ((sp_X5_isStale e (nI a) m f to).1) (rq5 (sp_X5_isStale e (nI a) m f to).2 m a) (sp_X5_isStale e (nI a) m f to).2))
    generalize (sp_X5_isStale e (nI a) m f to).2 = e2 at g ⊢
    have g2 : S8 τ (rq5 e2 m a) := (add_s8 (τ := uv e2 24 0 (ix (nI a)) (e2.1 0 0 17)) _ _ _ _ _ _).trans g
    by_cases q : (sp_X5_isStale e (nI a) m f to).1
    · rw [cif_t q]; exact ih _ _ g2
    · rw [cif_f q]; exact ih _ _ g
theorem s8_remake (p1 p2 p3 : Int32) : S8 τ (sp_X5_remake τ p1 p2 p3).2 := by
  unfold sp_X5_remake
  have g : S8 τ (scM p1 p2 p3 (ix (τ.1 0 0 17)) 0 τ) := (scM_cf _ _ _ CF.rf).s8
  exact S8.cp S8.rf (S8.cp (S8.cp S8.rf (S8.cp (rmM_s8 _ _ _ g) g)) S8.rf)
theorem s8_shut (a : Int32) : S8 τ (sp_X5_shut τ a).2 := by
  unfold sp_X5_shut
  repeat (first | exact S8.rf | refine S8.cp ?_ ?_)
theorem s8_line (a b c : Int32) : S8 τ (sp_X5_line τ a b c).2 := by
  unfold sp_X5_line
  repeat (first | exact S8.rf | refine S8.cp ?_ ?_)
theorem s8_end (a b : Int32) : S8 τ (sp_X5_end τ a b).2 := by
  unfold sp_X5_end
  repeat (first | exact S8.rf | refine S8.cp ?_ ?_)
theorem s8_lose (a : Int32) : S8 τ (sp_X5_lose τ a).2 := by
  unfold sp_X5_lose
  repeat (first | exact S8.rf | refine S8.cp ?_ ?_)
theorem s8_tell (a : Int32) : S8 τ (sp_X5_tell τ a).2 := by
  unfold sp_X5_tell sp_X5_traced
  repeat (first | exact S8.rf | refine S8.cp ?_ ?_)
theorem s8_worth (a : Int32) : S8 τ (sp_X5_worth τ a).2 := by
  unfold sp_X5_worth sp_X5_traced
  repeat (first | exact S8.rf | refine S8.cp ?_ ?_)
theorem f3_meter (h : FT d τ) (a : Int32) : FT (sp_X4_meter d a).2 (sp_X5_meter τ a).2 := h.k (x8_meter a) (s8_meter a)
theorem f3_factor (h : FT d τ) (a b c e : Int32) : FT (sp_X4_factor d a b c e).2 (sp_X5_factor τ a b c e).2 := h.k (x8_factor a b c e) (s8_factor a b c e)
theorem f3_proof (h : FT d τ) (a b c : Int32) : FT (sp_X4_proof d a b c).2 (sp_X5_proof τ a b c).2 := h.k (x8_proof a b c) (s8_proof a b c)
theorem f3_run (h : FT d τ) (a b c : Int32) : FT (sp_X4_run d a b c).2 (sp_X5_run τ a b c).2 := h.k (x8_run a b c) (s8_run a b c)
theorem f3_accept (h : FT d τ) (a : Int32) : FT (sp_X4_accept d a).2 (sp_X5_accept τ a).2 := h.k (x8_accept a) (s8_accept a)
theorem f3_ticket (h : FT d τ) (a b c e : Int32) : FT (sp_X4_ticket d a b c e).2 (sp_X5_ticket τ a b c e).2 := h.k (x8_ticket a b c e) (s8_ticket a b c e)
theorem f3_right (h : FT d τ) (a b : Int32) : FT (sp_X4_right d a b).2 (sp_X5_right τ a b).2 := h.k (x8_right a b) (s8_right a b)
theorem f3_remake (h : FT d τ) (a b c : Int32) : FT (sp_X4_remake d a b c).2 (sp_X5_remake τ a b c).2 := h.k (x8_remake a b c) (s8_remake a b c)
theorem f3_shut (h : FT d τ) (a : Int32) : FT (sp_X4_shut d a).2 (sp_X5_shut τ a).2 := h.k (x8_shut a) (s8_shut a)
theorem f3_line (h : FT d τ) (a b c : Int32) : FT (sp_X4_line d a b c).2 (sp_X5_line τ a b c).2 := h.k (x8_line a b c) (s8_line a b c)
theorem f3_end (h : FT d τ) (a b : Int32) : FT (sp_X4_end d a b).2 (sp_X5_end τ a b).2 := h.k (x8_end a b) (s8_end a b)
theorem f3_lose (h : FT d τ) (a : Int32) : FT (sp_X4_lose d a).2 (sp_X5_lose τ a).2 := h.k (x8_lose a) (s8_lose a)
theorem f3_tell (h : FT d τ) (a : Int32) : FT (sp_X4_tell d a).2 (sp_X5_tell τ a).2 := h.k (x8_tell a) (s8_tell a)
theorem f3_worth (h : FT d τ) (a : Int32) : FT (sp_X4_worth d a).2 (sp_X5_worth τ a).2 := h.k (x8_worth a) (s8_worth a)
theorem f3_at (h : FT d τ) (a b c : Int32) : FT d (sp_X5_at τ a b c).2 := h.k X8.rf (s8_at a b c)
theorem f3_points (h : FT d τ) (a b : Int32) : FT d (sp_X5_points τ a b).2 := h.k X8.rf (s8_points a b)
theorem f3_point (h : FT d τ) (a b c e : Int32) : FT d (sp_X5_point τ a b c e).2 := h.k X8.rf (s8_point a b c e)
theorem R3mk {d τ : Dt} (h : R2 d τ) (g : FT d τ) : R3 d τ := ⟨h, g⟩
theorem r3_0 : R3 d0X d0M := ⟨r2_0, rfl⟩
theorem a3_fault (h : R3 d τ) : sp_X4_fault d = sp_X5_fault τ := h.2.symm
end RAS
