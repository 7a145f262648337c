/-! ===== the answers of the two sides: what they share ===== -/
theorem cif_F {α : Type _} {a b : α} : cif False a b = b := cif_f id
theorem cif_T {α : Type _} {a b : α} : cif True a b = a := cif_t trivial
theorem cif_n {α : Type _} {P : Prop} {a b : α} : cif (¬ P) a b = cif P b a := by
  by_cases h : P
  · rw [cif_t h, cif_f (fun q => q h)]
  · rw [cif_f h, cif_t h]
theorem cif_s {α : Type _} {P : Prop} {a : α} : cif P a a = a := by
  by_cases h : P
  · rw [cif_t h]
  · rw [cif_f h]
theorem cif_1 {α β : Type _} {P : Prop} {a b : α × β} : (cif P a b).1 = cif P a.1 b.1 := by
  by_cases h : P
  · rw [cif_t h, cif_t h]
  · rw [cif_f h, cif_f h]
theorem cif_c {α : Type _} {P : Prop} {a b a' b' : α} (h1 : P → a = a') (h2 : ¬ P → b = b') : cif P a b = cif P a' b' := by
  by_cases h : P
  · rw [cif_t h, cif_t h, h1 h]
  · rw [cif_f h, cif_f h, h2 h]
theorem in_iw {p lo hi : Int32} {l h : Int64} (e1 : l.toInt = lo.toInt) (e2 : h.toInt = hi.toInt) : sp_X5_in p.toInt64 l h = sp_X4_isWithin p lo hi := propext (by rw [in_iff, iw_iff, t64, e1, e2])
theorem not_iw {P : Prop} : cif P False True = ¬ P := by
  by_cases h : P
  · rw [cif_t h]; simp [h]
  · rw [cif_f h]; simp [h]
theorem isDay_e (p : Int32) : sp_X5_isDay p = sp_X4_isDay p := in_iw rfl rfl
theorem isFlow_e (p : Int32) : sp_X5_isFlow p = sp_X4_isFlow p := in_iw rfl rfl
theorem areDays_e (p q : Int32) : sp_X5_areDays p q = sp_X4_areDays p q := by unfold sp_X5_areDays sp_X4_areDays; rw [isDay_e, isDay_e]
theorem noLine_e (p : Int32) : sp_X5_noLine p = ¬ sp_X4_isLine p := by unfold sp_X5_noLine; rw [not_iw]; exact congrArg Not (in_iw rfl rfl)
theorem noSheet_e (p : Int32) : sp_X5_noSheet p = ¬ sp_X4_isSheet p := by unfold sp_X5_noSheet; rw [not_iw]; exact congrArg Not (in_iw rfl rfl)
theorem lane_e (p : Int32) : sp_X5_in p.toInt64 0 2 = sp_X4_isLane p := in_iw rfl rfl
theorem s1L {x : Int32} (h : 0 ≤ x.toInt) : (x.toInt64 - 1).toInt = (x - 1).toInt := by
  have := x.toInt_lt
  rw [ts1 (by omega), tl_sub (by rw [t64, show (1 : Int64).toInt = 1 from rfl]; omega) (by rw [t64, show (1 : Int64).toInt = 1 from rfl]; omega), t64]
  rfl
theorem noMeter_e {d τ : Dt} (e : τ.1 0 0 1 = d.1 0 0 1) (h : 0 ≤ (d.1 0 0 1).toInt) (p : Int32) : sp_X5_noMeter τ p = ¬ sp_X4_isMeter d p := by
  unfold sp_X5_noMeter; rw [not_iw, e]; exact congrArg Not (in_iw rfl (s1L h))
theorem noTicket_e {d τ : Dt} (e : τ.1 0 0 17 = d.1 0 0 4) (h : 0 ≤ (d.1 0 0 4).toInt) (p : Int32) : sp_X5_noTicket τ p = ¬ sp_X4_isTicket d p := by
  unfold sp_X5_noTicket; rw [not_iw, e]; exact congrArg Not (in_iw rfl (s1L h))
/-! ===== a fresh object ===== -/
theorem xi0 : XI 0 0 d0X := ⟨rfl, by omega, rfl, by omega, fun i h => absurd h (Nat.not_lt_zero _), ⟨by decide, by decide⟩, fun h => absurd rfl h, fun t h => absurd h (Nat.not_lt_zero _), fun j _ => ⟨(by decide : 0 ≤ (0 : Int32).toInt), (by decide : (0 : Int32).toInt ≤ 60)⟩⟩
theorem d28 {j : Nat} (h : j < 4) : d0M.1 28 0 j = -1 := by
  match j, h with
  | 0, _ => rfl
  | 1, _ => rfl
  | 2, _ => rfl
  | 3, _ => rfl
theorem mi0 : MI d0M := by
  refine ⟨⟨by decide, by decide⟩, fun j _ => ⟨(by decide : 0 ≤ (0 : Int32).toInt), (by decide : (0 : Int32).toInt ≤ 12)⟩, ⟨by decide, by decide⟩, ⟨by decide, by decide⟩, ⟨by decide, by decide⟩, fun t h => absurd h ?_, fun t h => absurd h ?_, fun j h => ?_, fun t h => absurd h ?_⟩
  · show ¬ (t : Int) < 0; omega
  · show ¬ (t : Int) < 0; omega
  · rw [d28 h]; decide
  · show ¬ (t : Int) < 0; omega
theorem iw0 {d : Dt} {x : Int32} (h : x = 0) (p : Int32) : sp_X4_isWithin p 0 (x - 1) = False := by
  subst h
  refine eq_false fun q => ?_
  obtain ⟨q1, q2⟩ := iw_iff.mp q
  have h1 : (0 : Int32).toInt = 0 := rfl
  have h2 : ((0 : Int32) - 1).toInt = -1 := rfl
  rw [h1] at q1
  rw [h2] at q2
  omega
theorem nm0 (p : Int32) : sp_X4_isMeter d0X p = False := iw0 (d := d0X) rfl p
theorem nt0 (p : Int32) : sp_X4_isTicket d0X p = False := iw0 (d := d0X) rfl p
theorem nt0' (p : Int32) : sp_X4_isTicket (uv d0X 0 0 8 0) p = False := iw0 (d := d0X) rfl p
theorem mm0 (p : Int32) : sp_X5_noMeter d0M p = True := by rw [noMeter_e (d := d0X) (τ := d0M) rfl (by decide), nm0]; exact not_false_eq_true
theorem mt0 (p : Int32) : sp_X5_noTicket d0M p = True := by rw [noTicket_e (d := d0X) (τ := d0M) rfl (by decide), nt0]; exact not_false_eq_true
theorem six {p : Int32} (h : sp_X4_isSheet p) : ix p < 4 := by
  obtain ⟨h1, h2⟩ := iw_iff.mp h
  have e1 : (0 : Int32).toInt = 0 := rfl
  have e2 : (3 : Int32).toInt = 3 := rfl
  exact ix_lt (by omega) (by omega)
theorem imb0 (a b c : Int32) : sp_X4_imbalanceOf d0X a b c = 0 := (show st_X4_imbalanceOf_6 d0X a b c (lp_X4_imbalanceOf_6 d0X a b c 15) 0 0 = 0 from cif_t (by decide))
theorem end0 (a b c : Int32) : sp_X4_endsOf d0X a b c = 0 := (show st_X4_endsOf_6 d0X a b c (lp_X4_endsOf_6 d0X a b c 15) 0 0 = 0 from cif_t (by decide))
theorem imb1 (a b c : Int32) : sp_X5_imbalance d0M a b c = 0 := (show st_X5_imbalance_6 d0M a b c (lp_X5_imbalance_6 d0M a b c 15) 0 0 = 0 from cif_t (by decide))
theorem end1 (a b c : Int32) : sp_X5_endsOf d0M a b c = 0 := (show st_X5_endsOf_6 d0M a b c (lp_X5_endsOf_6 d0M a b c 15) 0 0 = 0 from cif_t (by decide))
theorem lb0 (a b : Int32) : sp_X4_linesBeyond d0X a b = 0 := by
  have st : ∀ (n : Nat) (x : Int32), ¬ 4 ≤ x.toInt → lp_X4_linesBeyond_5 d0X a b (n + 1) x 0 = lp_X4_linesBeyond_5 d0X a b n (x + 1) 0 := fun n x h => by
    show st_X4_linesBeyond_5 d0X a b (lp_X4_linesBeyond_5 d0X a b n) x 0 = _
    unfold st_X4_linesBeyond_5
    rw [cif_f h, imb0, end0, cif_t (by decide)]
  show lp_X4_linesBeyond_5 d0X a b 16 0 0 = 0
  rw [st 15 0 (by decide), st 14 _ (by decide), st 13 _ (by decide), st 12 _ (by decide)]
  exact cif_t (by decide)
theorem lb1 (a b : Int32) : sp_X5_beyondOf d0M a b = 0 := by
  have st : ∀ (n : Nat) (x : Int32), ¬ 4 ≤ x.toInt → lp_X5_beyondOf_5 d0M a b (n + 1) x 0 = lp_X5_beyondOf_5 d0M a b n (x + 1) 0 := fun n x h => by
    show st_X5_beyondOf_5 d0M a b (lp_X5_beyondOf_5 d0M a b n) x 0 = _
    unfold st_X5_beyondOf_5
    rw [cif_f h, imb1, end1, cif_t (in_iff.mpr ⟨by decide, by decide⟩), show (0 : Int32) ||| 0 = 0 from by decide]
  show lp_X5_beyondOf_5 d0M a b 16 0 0 = 0
  rw [st 15 0 (by decide), st 14 _ (by decide), st 13 _ (by decide), st 12 _ (by decide)]
  exact cif_t (by decide)
theorem sh1 (d : Dt) (a b c : Int32) (hc : c.toInt ≤ 60) : ∀ (n : Nat) (x : Int32) (e : Dt), 0 ≤ x.toInt → x.toInt ≤ 60 → 60 - x.toInt < (n : Int) → (lp_X5_sheet_65 d a b c n x e).1 = 1 := by
  intro n
  induction n with
  | zero => intro x e h0 h1 h2; omega
  | succ n ih =>
    intro x e h0 h1 h2
    show (st_X5_sheet_65 d a b c (lp_X5_sheet_65 d a b c n) x e).1 = 1
    unfold st_X5_sheet_65
    by_cases q : c.toInt ≤ x.toInt
    · rw [cif_t q]; rfl
    · rw [cif_f q]
      have e1 := ti1 (x := x) (by omega)
      exact ih _ _ (by omega) (by omega) (by omega)
theorem fe_meter (a : Int32) : (sp_X4_meter d0X a).1 = (sp_X5_meter d0M a).1 := by
  unfold sp_X4_meter sp_X5_meter
  rw [in_iw (lo := 1) (hi := 100000) rfl rfl, cif_t (P := (d0X.1 0 0 1).toInt < 6) (by decide), cif_f (P := (d0M.1 0 0 1).toInt = 6) (by decide)]
  simp only [cif_1]
  rfl
theorem fe_factor (a b c e : Int32) : (sp_X4_factor d0X a b c e).1 = (sp_X5_factor d0M a b c e).1 := by
  unfold sp_X4_factor sp_X5_factor; rw [nm0, mm0, cif_F, cif_T]
theorem fe_at (a b c : Int32) : sp_X4_at d0X a b c = (sp_X5_at d0M a b c).1 := by
  unfold sp_X4_at sp_X5_at; rw [nm0, mm0, cif_F, cif_T]
theorem fe_points (a b : Int32) : sp_X4_points d0X a b = (sp_X5_points d0M a b).1 := by
  unfold sp_X4_points sp_X5_points; rw [nm0, mm0, cif_F, cif_T]
theorem fe_point (a b c e : Int32) : sp_X4_point d0X a b c e = (sp_X5_point d0M a b c e).1 := by
  unfold sp_X4_point sp_X5_point; rw [nm0, mm0, cif_F, cif_T]
theorem fe_proof (a b c : Int32) : (sp_X4_proof d0X a b c).1 = (sp_X5_proof d0M a b c).1 := by
  unfold sp_X4_proof sp_X5_proof; rw [nm0, mm0, cif_F, cif_T]
theorem fe_run (a b c : Int32) : (sp_X4_run d0X a b c).1 = (sp_X5_run d0M a b c).1 := by
  unfold sp_X4_run sp_X5_run
  rw [cif_t (P := (d0X.1 2 0 0).toInt = 0) rfl, cif_t (P := (d0M.1 0 0 12).toInt < 0) (by decide), cif_s, cif_s, cif_s, cif_s, cif_s, cif_s]
  rfl
theorem fe_proving (a : Int32) : sp_X4_proving d0X a = sp_X5_proving d0M a := by
  unfold sp_X4_proving sp_X5_proving
  rw [cif_t (P := (d0X.1 2 0 0).toInt = 0) rfl, cif_f (P := 0 ≤ (d0M.1 0 0 12).toInt) (by decide), in_iw (lo := 0) (hi := 3) rfl rfl]
theorem fe_accept (a : Int32) : (sp_X4_accept d0X a).1 = (sp_X5_accept d0M a).1 := by
  unfold sp_X4_accept sp_X5_accept
  rw [cif_t (P := (d0X.1 2 0 0).toInt = 0) rfl, cif_t (P := (d0M.1 0 0 12).toInt < 0) (by decide), isDay_e, cif_1, cif_1]
theorem fe_ticket (a b c e : Int32) : (-1 : Int32) = (sp_X5_ticket d0M a b c e).1 := by
  unfold sp_X5_ticket; rw [mm0, cif_T]
theorem fe_right (a b : Int32) : (-1 : Int32) = (sp_X5_right d0M a b).1 := by
  unfold sp_X5_right; rw [mt0, cif_T]
theorem fe_ticketed (a b : Int32) : sp_X4_ticketed d0X a b = sp_X5_ticketed d0M a b := by
  unfold sp_X4_ticketed sp_X5_ticketed; rw [nt0, mt0, cif_F, cif_T]
theorem fe_volume (a : Int32) : sp_X4_volume d0X a = sp_X5_volume d0M a := by
  unfold sp_X4_volume sp_X5_volume; rw [nt0, mt0, cif_F, cif_T]; rfl
theorem fe_sum (a b c : Int32) : sp_X4_sum d0X a b c = sp_X5_sum d0M a b c := by
  unfold sp_X4_sum sp_X5_sum; rw [nm0, mm0, cif_F, cif_T]; rfl
theorem fe_shut (a : Int32) : (sp_X4_shut d0X a).1 = (sp_X5_shut d0M a).1 := by
  unfold sp_X4_shut sp_X5_shut; rw [isDay_e]; simp only [cif_1]; rfl
theorem fe_line (a b c : Int32) : (sp_X4_line d0X a b c).1 = (sp_X5_line d0M a b c).1 := by
  unfold sp_X4_line sp_X5_line; rw [nm0, mm0, cif_F, cif_T, cif_s, cif_s]
theorem fe_lined (a b : Int32) : sp_X4_lined d0X a b = sp_X5_lined d0M a b := by
  unfold sp_X4_lined sp_X5_lined; rw [nm0, mm0, cif_F, cif_T, cif_s, cif_s]
theorem fe_end (a b : Int32) : (sp_X4_end d0X a b).1 = (sp_X5_end d0M a b).1 := by
  unfold sp_X4_end sp_X5_end; rw [nm0, mm0, cif_F, cif_T]
theorem fe_balance (a b c e : Int32) : sp_X4_balance d0X a b c e = sp_X5_balance d0M a b c e := by
  unfold sp_X4_balance sp_X5_balance
  rw [noLine_e, cif_n, areDays_e, in_iw (lo := 0) (hi := 1) rfl rfl, imb0, imb1, end0, end1]; rfl
theorem fe_beyond (a b : Int32) : sp_X4_beyond d0X a b = sp_X5_beyond d0M a b := by
  unfold sp_X4_beyond sp_X5_beyond; rw [areDays_e, lb0, lb1]
theorem fe_explains (a b c : Int32) : sp_X4_explains d0X a b c = sp_X5_explains d0M a b c := by
  unfold sp_X4_explains sp_X5_explains; rw [nm0, mm0, cif_F, cif_T]; rfl
theorem fe_sheet (a b c : Int32) : (sp_X4_sheet d0X a b c).1 = (sp_X5_sheet d0M a b c).1 := by
  unfold sp_X4_sheet sp_X5_sheet
  rw [noSheet_e, cif_n, lane_e]
  simp only [cif_1]
  refine cif_c (fun _ => cif_c (fun _ => cif_c (fun h => cif_c (fun h0 => ?_) (fun _ => rfl)) (fun _ => rfl)) (fun _ => rfl)) (fun _ => rfl)
  exact (sh1 _ _ _ _ h 64 0 _ (by decide) (by decide) (by decide)).symm
theorem fe_lose (a : Int32) : (sp_X4_lose d0X a).1 = (sp_X5_lose d0M a).1 := by
  unfold sp_X4_lose sp_X5_lose
  rw [noSheet_e, cif_n]
  simp only [cif_1]
  refine cif_c (fun h => ?_) (fun _ => rfl)
  rw [d28 (six h), cif_t (P := (d0X.1 6 (ix a) 1).toInt = 0) rfl, cif_f (by decide)]
theorem nc0 {a b : Int32} {d : Dt} (h : d.1 28 0 (ix a) = -1) : sp_X5_noCell d a b = 1 := by
  unfold sp_X5_noCell
  rw [h, cif_f (by decide)]
theorem fe_put (a b c : Int32) : (sp_X4_put d0X a b c).1 = (sp_X5_put d0M a b c).1 := by
  unfold sp_X4_put sp_X5_put
  rw [noSheet_e, cif_n]
  simp only [cif_1]
  refine cif_c (fun h => ?_) (fun _ => rfl)
  rw [nc0 (d28 (six h)), cif_t (P := (d0X.1 6 (ix a) 1).toInt = 0) rfl, cif_f (by decide)]
  rfl
theorem fe_cell (a b c : Int32) : (sp_X4_cell d0X a b c).1 = (sp_X5_cell d0M a b c).1 := by
  unfold sp_X4_cell sp_X5_cell
  rw [noSheet_e, cif_n, lane_e]
  simp only [cif_1]
  refine cif_c (fun h => ?_) (fun _ => rfl)
  refine cif_c (fun _ => ?_) (fun _ => rfl)
  have e1 : sp_X2_faultAs (uv d0X 0 0 8 0) (ix a) c = 1 := cif_t rfl
  rw [e1, cif_f (P := (1 : Int32).toInt = 0) (by decide), d28 (six h), cif_t (P := (-1 : Int32).toInt < 0) (by decide), nc0 (show (uv d0M 0 0 0 0).1 28 0 (ix a) = -1 from d28 (six h)), cif_f (by decide)]
  rfl
theorem fe_copy (a b c e f : Int32) : (sp_X4_copy d0X a b c e f).1 = (sp_X5_copy d0M a b c e f).1 := by
  unfold sp_X4_copy sp_X5_copy
  rw [noSheet_e, cif_n, noSheet_e, cif_n]
  simp only [cif_1]
  refine cif_c (fun h => ?_) (fun _ => rfl)
  refine cif_c (fun _ => ?_) (fun _ => rfl)
  rw [cif_t (P := (d0X.1 6 (ix a) 1).toInt = 0) rfl, d28 (six h), cif_t (P := (-1 : Int32).toInt < 0) (by decide)]
  rfl
theorem fe_watch (a b c e f : Int32) : (sp_X4_watch d0X a b c e f).1 = (sp_X5_watch d0M a b c e f).1 := by
  unfold sp_X4_watch sp_X5_watch
  rw [noSheet_e, cif_n, lane_e, in_iw (p := f) (lo := 0) (hi := 3) rfl rfl]
  simp only [cif_1]
  refine cif_c (fun h => ?_) (fun _ => rfl)
  refine cif_c (fun _ => ?_) (fun _ => rfl)
  refine cif_c (fun _ => ?_) (fun _ => rfl)
  have e1 : sp_X2_faultAs (uv d0X 0 0 8 0) (ix a) b = 1 := cif_t rfl
  rw [e1, cif_f (P := (1 : Int32).toInt = 0) (by decide), d28 (six h), cif_t (P := (-1 : Int32).toInt < 0) (by decide)]
  rfl
theorem fe_tell (a : Int32) : (sp_X4_tell d0X a).1 = (sp_X5_tell d0M a).1 := by
  unfold sp_X4_tell sp_X5_tell; rw [nt0, mt0, cif_F, cif_T]
theorem fe_worth (a : Int32) : (sp_X4_worth d0X a).1 = (sp_X5_worth d0M a).1 := by
  unfold sp_X4_worth sp_X5_worth; rw [nt0, mt0, cif_F, cif_T]
theorem fe_as (a b : Int32) : (sp_X4_as d0X a b).1 = (sp_X5_as d0M a b).1 := by
  unfold sp_X4_as sp_X5_as; rw [nt0', mt0, cif_F, cif_T]; rfl
theorem fe_trace : sp_X4_trace d0X = sp_X5_trace d0M := rfl
theorem fe_fault : sp_X4_fault d0X = sp_X5_fault d0M := rfl
theorem fe_told (a : Int32) : sp_X4_told d0X a = sp_X5_told d0M a := by
  unfold sp_X4_told sp_X5_told
  have e1 : sp_X4_countNotReplaced d0X = 0 := (show st_X4_countNotReplaced_4 d0X (lp_X4_countNotReplaced_4 d0X 63) 0 0 = 0 from cif_t (by decide))
  have e2 : lp_X5_told_44 d0M a 64 0 0 = 0 := (show st_X5_told_44 d0M a (lp_X5_told_44 d0M a 63) 0 0 = 0 from cif_t (by decide))
  have e3 : sp_X5_in a.toInt64 10 (9 + ((d0M.1 0 0 1).toInt64)) = False := eq_false fun q => by
    obtain ⟨q1, q2⟩ := in_iff.mp q
    have h1 : (10 : Int64).toInt = 10 := rfl
    have h2 : (9 + ((d0M.1 0 0 1).toInt64) : Int64).toInt = 9 := by decide +kernel
    omega
  rw [e1, e2, e3, nm0, cif_F, cif_F]
  rfl
