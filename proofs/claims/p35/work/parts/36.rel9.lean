/-! ===== what is told; tell, worth ===== -/
section R9S
variable {M T : Nat} {d τ : Dt}
theorem cnr_l (h : R2 d τ) (p : Int32) : ∀ (n : Nat) (x c : Int32), 0 ≤ x.toInt → x.toInt ≤ 40 → 40 - x.toInt < (n : Int) → lp_X4_countNotReplaced_4 d n x c = lp_X5_told_44 τ p n x c := by
  have x3 := h.2.2.2.1
  have x8 := h.2.2.2.2.2.2.2.2.1
  intro n
  induction n with
  | zero => intro x c h0 h1 h2; omega
  | succ n ih =>
    intro x c h0 h1 h2
    show st_X4_countNotReplaced_4 d (lp_X4_countNotReplaced_4 d n) x c = st_X5_told_44 τ p (lp_X5_told_44 τ p n) x c
    unfold st_X4_countNotReplaced_4 st_X5_told_44
    rw [x3]
    refine cif_c (fun _ => rfl) (fun q => ?_)
    have ixx := ix_int h0
    have e1 := ti1 (x := x) (by omega)
    obtain ⟨⟨a1, a2, a3, a4, a5, a6, a7, a8⟩, b1, b2, b3, b4, b5, b6⟩ := h.2.2.2.2.1 (ix x) (by omega)
    rw [isRep_e (x := d.1 13 (ix x)) a7 b5]
    exact cif_c (fun _ => ih _ _ (by omega) (by omega) (by omega)) (fun _ => ih _ _ (by omega) (by omega) (by omega))
theorem a2_told (h : R2 d τ) (iX : XI M T d) (a : Int32) : sp_X4_told d a = sp_X5_told τ a := by
  unfold sp_X4_told sp_X5_told
  have x3 := h.2.2.2.1
  rw [h.1.1, x3, h.1.2.1]
  refine cif_c (fun _ => rfl) (fun _ => cif_c (fun _ => rfl) (fun _ => cif_c (fun _ => ?_) (fun _ => cif_c (fun _ => rfl) (fun _ => ?_))))
  · exact cnr_l h a 64 0 0 (by decide) (by decide) (by decide)
  · have c6 := h.2.2.2.2.2.2.1
    have fM := iX.1
    have l1 := a.toInt_lt
    have l2 := a.le_toInt
    have t10 : (10 : Int32).toInt = 10 := rfl
    have es : (9 + ((d.1 0 0 1).toInt64) : Int64).toInt = 9 + (d.1 0 0 1).toInt := by rw [tl_add (by rw [t64]; show -_ ≤ (9 : Int) + _; omega) (by rw [t64]; show (9 : Int) + _ < _; omega), t64]; rfl
    have s1 := ts1 (x := d.1 0 0 1) (by omega)
    have key : sp_X5_in a.toInt64 10 (9 + ((d.1 0 0 1).toInt64)) ↔ sp_X4_isMeter d (a - 10) := by
      unfold sp_X4_isMeter
      rw [in_iff, iw_iff, t64, es, s1, show (10 : Int64).toInt = 10 from rfl, Int32.toInt_zero]
      by_cases q : -2147483648 + 10 ≤ a.toInt
      · rw [ti_sub (by omega) (by omega), t10]; omega
      · have e : (a - 10).toInt = a.toInt - 10 + 4294967296 := by
          rw [Int32.toInt_sub, t10, Int.bmod_def]
          split <;> omega
        rw [e]; omega
    rw [propext key]
    refine cif_c (fun c => ?_) (fun _ => rfl)
    obtain ⟨_, _, g⟩ := h.1.mt iX c
    exact g.2.2.1.symm
theorem lv_R (h : R2 d τ) (x : Int32) : R2 (sp_X4_leave d x) (sp_X5_traced τ x) := by
  refine ⟨h.1, ?_⟩
  obtain ⟨x1, x2, x3, x4, x5, x6⟩ := h.2
  refine ⟨x1, x2, x3, x4, ?_, x6⟩
  show (uv τ 0 0 32 ((31 * (τ.1 0 0 32)) + x)).1 0 0 32 = (uv d 0 0 7 ((31 * (d.1 0 0 7)) + x)).1 0 0 7
  rw [uv_eq, uv_eq, x5]
theorem j2_tell (h : R2 d τ) (a : Int32) : J2 (sp_X4_tell d a) (sp_X5_tell τ a) := by
  unfold sp_X4_tell sp_X5_tell
  refine cnq (Q := J2) (nt_R h a) (fun c1 => ?_) (fun _ => ⟨rfl, h⟩)
  obtain ⟨p0, pT, ⟨a1, a2, a3, a4, a5, a6, a7, a8⟩, b1, b2, b3, b4, b5, b6⟩ := tk_of h c1
  have t1 : ∀ z, (sp_X5_traced τ z).1 18 0 (ix a) = d.1 13 (ix a) 5 := fun z => a1
  have t2 : ∀ z y, (sp_X5_traced (sp_X5_traced τ z) y).1 18 0 (ix a) = d.1 13 (ix a) 5 := fun z y => a1
  have t3 : ∀ z, (sp_X5_traced τ z).1 20 0 (ix a) = d.1 13 (ix a) 1 := fun z => a3
  have t4 : ∀ z y, (sp_X5_traced (sp_X5_traced τ z) y).1 20 0 (ix a) = d.1 13 (ix a) 1 := fun z y => a3
  rw [t1, t2, t2, t3, t4, t4, a1]
  have hk : (d.1 13 (ix a) 5).toInt = 0 ∨ (d.1 13 (ix a) 5).toInt = 1 ∨ (d.1 13 (ix a) 5).toInt = 2 := by omega
  rcases hk with e | e | e
  · rw [cif_f (show ¬ (d.1 13 (ix a) 5).toInt = 1 by omega), cif_f (show ¬ (d.1 13 (ix a) 5).toInt = 2 by omega), cif_t e, cif_t e]
    exact ⟨rfl, lv_R h 1⟩
  · rw [cif_t e, cif_f (show ¬ (d.1 13 (ix a) 5).toInt = 0 by omega), cif_t e, cif_f (show ¬ (d.1 13 (ix a) 5).toInt = 0 by omega), cif_t e]
    exact ⟨rfl, lv_R (lv_R h 2) 1⟩
  · rw [cif_f (show ¬ (d.1 13 (ix a) 5).toInt = 1 by omega), cif_t e, cif_f (show ¬ (d.1 13 (ix a) 5).toInt = 0 by omega), cif_f (show ¬ (d.1 13 (ix a) 5).toInt = 1 by omega), cif_f (show ¬ (d.1 13 (ix a) 5).toInt = 0 by omega), cif_f (show ¬ (d.1 13 (ix a) 5).toInt = 1 by omega)]
    exact ⟨rfl, lv_R (lv_R h 3) 1⟩
theorem j2_worth (h : R2 d τ) (a : Int32) : J2 (sp_X4_worth d a) (sp_X5_worth τ a) := by
  unfold sp_X4_worth sp_X5_worth
  refine cnq (Q := J2) (nt_R h a) (fun c1 => ?_) (fun _ => ⟨rfl, h⟩)
  obtain ⟨p0, pT, ⟨a1, a2, a3, a4, a5, a6, a7, a8⟩, b1, b2, b3, b4, b5, b6⟩ := tk_of h c1
  have t1 : ∀ z, (sp_X5_traced τ z).1 18 0 (ix a) = d.1 13 (ix a) 5 := fun z => a1
  rw [t1, t1, a1]
  refine cq (Q := J2) rfl (fun c2 => ?_) (fun c2 => ?_)
  · rw [cif_t c2]; exact ⟨rfl, lv_R h 5⟩
  · rw [cif_f c2]
    have hv := (vol_e (lv_R h 4) p0 pT).1
    rw [← hv]
    generalize sp_X4_volumeOf (sp_X4_leave d 4) (ix a) / 1000 = V
    have l1 : ((2147483647 : Int64) < V) ↔ (2147483647 : Int64).toInt < V.toInt := Int64.lt_iff_toInt_lt
    have l2 : (2147483647 : Int64).toInt = 2147483647 := rfl
    rw [l2] at l1
    by_cases c : V.toInt ≤ 2147483647
    · have c' : ¬ (2147483647 : Int64) < V := fun z => by have := l1.mp z; omega
      rw [cif_t c, if_neg c']
      exact ⟨rfl, lv_R h 4⟩
    · rw [cif_f c, if_pos (l1.mpr (by omega))]
      exact ⟨rfl, lv_R h 4⟩
theorem j2_as (h : R2 d τ) (iX : XI M T d) (iM : MI τ) (a b : Int32) : J2 (sp_X4_as d a b) (sp_X5_as τ a b) := by
  refine ⟨?_, r2_X4_as h iX iM a b⟩
  have hn : sp_X4_isTicket (uv d 0 0 8 0) a = sp_X4_isTicket d a := rfl
  unfold sp_X4_as sp_X5_as
  rw [hn, nt_R h, cif_n, in_iw (p := b) (lo := 0) (hi := 2) rfl rfl]
  simp only [cif_1]
  refine cif_c (fun c1 => cif_c (fun _ => ?_) (fun _ => rfl)) (fun _ => rfl)
  obtain ⟨p0, pT, ⟨a1, _⟩, _⟩ := tk_of h c1
  rw [a1]; exact cif_c (fun _ => rfl) (fun _ => rfl)
theorem a2_trace (h : R2 d τ) : sp_X4_trace d = sp_X5_trace τ := h.2.2.2.2.2.1.symm
end R9S
