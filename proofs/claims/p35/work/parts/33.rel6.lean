/-! ===== Tickets ===== -/
section R6S
variable {M T : Nat} {d τ : Dt}
/-- answers are the same, and the whole relation stays -/
def J2 {α : Type} (a b : α × Dt) : Prop := a.1 = b.1 ∧ R2 a.2 b.2
theorem add_M (τ : Dt) (p1 p2 p3 p4 p5 p6 : Int32) (hx : 0 ≤ p2.toInt ∧ p2.toInt < 6) (hc : 0 ≤ (τ.1 3 0 (ix p2)).toInt ∧ (τ.1 3 0 (ix p2)).toInt ≤ 12) : ∃ s : Dt, ∃ S : Nat, S = ix (τ.1 0 0 17) ∧ (sp_X5_add τ p1 p2 p3 p4 p5 p6).2 = s ∧ (sp_X5_add τ p1 p2 p3 p4 p5 p6).1 = (τ.1 0 0 17 + 1) - 1 ∧ s.1 0 0 17 = τ.1 0 0 17 + 1 ∧ s.1 0 0 32 = τ.1 0 0 32 ∧ s.1 4 = τ.1 4 ∧ s.1 5 = τ.1 5 ∧ s.1 6 = τ.1 6 ∧ (∀ t, s.1 18 0 t = if t = S then p1 else τ.1 18 0 t) ∧ (∀ t, s.1 19 0 t = if t = S then p2 else τ.1 19 0 t) ∧ (∀ t, s.1 20 0 t = if t = S then p3 else τ.1 20 0 t) ∧ (∀ t, s.1 21 0 t = if t = S then p4 else τ.1 21 0 t) ∧ (∀ t, s.1 22 0 t = if t = S then p5 else τ.1 22 0 t) ∧ (∀ t, s.1 23 0 t = if t = S then (sp_X5_factorAt τ p2 p5 p3).1 else τ.1 23 0 t) ∧ (∀ t, s.1 24 0 t = if t = S then -9 else τ.1 24 0 t) ∧ (∀ t, s.1 25 0 t = if t = S then p6 else τ.1 25 0 t) := by
  obtain ⟨b, eb⟩ : ∃ z, z = uv (uv (uv (uv (uv τ 18 0 (ix (τ.1 0 0 17)) p1) 19 0 (ix (τ.1 0 0 17)) p2) 20 0 (ix (τ.1 0 0 17)) p3) 21 0 (ix (τ.1 0 0 17)) p4) 22 0 (ix (τ.1 0 0 17)) p5 := ⟨_, rfl⟩
  have b17 : b.1 0 0 17 = τ.1 0 0 17 := by rw [eb]; rfl
  have b32 : b.1 0 0 32 = τ.1 0 0 32 := by rw [eb]; rfl
  have bq : QR τ b := by rw [eb]; exact ⟨rfl, rfl, rfl, rfl⟩
  have w : ∀ (f : Dt) (k t : Nat) (x : Int32), (uv f k 0 (ix (τ.1 0 0 17)) x).1 k 0 t = if t = ix (τ.1 0 0 17) then x else f.1 k 0 t := fun f k t x => by
    by_cases z : t = ix (τ.1 0 0 17)
    · rw [if_pos z, z, uv_eq]
    · rw [if_neg z, uv_at z]
  have b18 : ∀ t, b.1 18 0 t = if t = ix (τ.1 0 0 17) then p1 else τ.1 18 0 t := fun t => by rw [eb]; exact w τ 18 t p1
  have b19 : ∀ t, b.1 19 0 t = if t = ix (τ.1 0 0 17) then p2 else τ.1 19 0 t := fun t => by rw [eb]; exact w (uv τ 18 0 (ix (τ.1 0 0 17)) p1) 19 t p2
  have b20 : ∀ t, b.1 20 0 t = if t = ix (τ.1 0 0 17) then p3 else τ.1 20 0 t := fun t => by rw [eb]; exact w (uv (uv τ 18 0 (ix (τ.1 0 0 17)) p1) 19 0 (ix (τ.1 0 0 17)) p2) 20 t p3
  have b21 : ∀ t, b.1 21 0 t = if t = ix (τ.1 0 0 17) then p4 else τ.1 21 0 t := fun t => by rw [eb]; exact w (uv (uv (uv τ 18 0 (ix (τ.1 0 0 17)) p1) 19 0 (ix (τ.1 0 0 17)) p2) 20 0 (ix (τ.1 0 0 17)) p3) 21 t p4
  have b22 : ∀ t, b.1 22 0 t = if t = ix (τ.1 0 0 17) then p5 else τ.1 22 0 t := fun t => by rw [eb]; exact w (uv (uv (uv (uv τ 18 0 (ix (τ.1 0 0 17)) p1) 19 0 (ix (τ.1 0 0 17)) p2) 20 0 (ix (τ.1 0 0 17)) p3) 21 0 (ix (τ.1 0 0 17)) p4) 22 t p5
  have b23 : b.1 23 = τ.1 23 := by rw [eb]; rfl
  have b24 : b.1 24 = τ.1 24 := by rw [eb]; rfl
  have b25 : b.1 25 = τ.1 25 := by rw [eb]; rfl
  have fq := q_fa bq hx hc p5 p3
  have fc := fa_cf (d := b) p2 p5 p3
  unfold sp_X5_add
  rw [← eb]
  generalize sp_X5_factorAt b p2 p5 p3 = F at fq fc
  have f17 : F.2.1 0 0 17 = τ.1 0 0 17 := (fc.f0).trans b17
  have ff : ∀ k, k ≠ 0 → k ≠ 9 → k ≠ 10 → k ≠ 11 → F.2.1 k = b.1 k := fc.1
  refine ⟨_, _, rfl, rfl, by rw [f17], by rw [uv_eq, f17], (fc.f0).trans b32, ?_, ?_, ?_, fun t => ?_, fun t => ?_, fun t => ?_, fun t => ?_, fun t => ?_, fun t => ?_, fun t => ?_, fun t => ?_⟩
  · show F.2.1 4 = τ.1 4
    rw [ff 4 (by decide) (by decide) (by decide) (by decide)]; exact bq.2.1
  · show F.2.1 5 = τ.1 5
    rw [ff 5 (by decide) (by decide) (by decide) (by decide)]; exact bq.2.2.1
  · show F.2.1 6 = τ.1 6
    rw [ff 6 (by decide) (by decide) (by decide) (by decide)]; exact bq.2.2.2
  · show F.2.1 18 0 t = _
    rw [ff 18 (by decide) (by decide) (by decide) (by decide)]; exact b18 t
  · show F.2.1 19 0 t = _
    rw [ff 19 (by decide) (by decide) (by decide) (by decide)]; exact b19 t
  · show F.2.1 20 0 t = _
    rw [ff 20 (by decide) (by decide) (by decide) (by decide)]; exact b20 t
  · show F.2.1 21 0 t = _
    rw [ff 21 (by decide) (by decide) (by decide) (by decide)]; exact b21 t
  · show F.2.1 22 0 t = _
    rw [ff 22 (by decide) (by decide) (by decide) (by decide)]; exact b22 t
  · show (uv F.2 23 0 (ix (τ.1 0 0 17)) F.1).1 23 0 t = _
    rw [w, fq, ff 23 (by decide) (by decide) (by decide) (by decide), b23]
  · show (uv (uv F.2 23 0 (ix (τ.1 0 0 17)) F.1) 24 0 (ix (F.2.1 0 0 17)) (-9)).1 24 0 t = _
    rw [f17, w]
    show (if t = ix (τ.1 0 0 17) then -9 else F.2.1 24 0 t) = _
    rw [ff 24 (by decide) (by decide) (by decide) (by decide), b24]
  · show (uv (uv (uv F.2 23 0 (ix (τ.1 0 0 17)) F.1) 24 0 (ix (F.2.1 0 0 17)) (-9)) 25 0 (ix (F.2.1 0 0 17)) p6).1 25 0 t = _
    rw [f17, w]
    show (if t = ix (τ.1 0 0 17) then p6 else F.2.1 25 0 t) = _
    rw [ff 25 (by decide) (by decide) (by decide) (by decide), b25]
theorem RX.fb (h : RX d τ) (h1 : R1 d τ) {m : Int32} (m0 : 0 ≤ m.toInt) (mc : m.toInt < (d.1 0 0 1).toInt) (fl D : Int32) : 0 ≤ (sp_X0_factorAt d (ix m) fl D).toInt ∧ (sp_X0_factorAt d (ix m) fl D).toInt ≤ 200000 := by
  have c6 := h.2.2.2.2.2.1
  have im := ix_int m0
  obtain ⟨N, hN, h12, hS, hD, hB⟩ := h.1 (ix m) (by omega) (by omega)
  have hs : srt (rl (rowX d (ix m)) N 0) := SF.srt N 0 N hS (by omega)
  have hm : ∀ c, c ∈ cuF D.toInt (rl (rowX d (ix m)) N 0) → ptB c := fun c hc => by
    obtain ⟨j, _, hj, rfl⟩ := rl_mem N 0 (cu_mem hc).1
    exact hB j (by omega)
  rw [fa_X hN h12 hS, fa_rf _ none (cu_sst _ hs) hm (fun p e => absurd e.symm (Option.some_ne_none p))]
  exact rf_B _ none hm (fun p e => absurd e.symm (Option.some_ne_none p))
theorem R1.cnt3 (h1 : R1 d τ) (h : RX d τ) {m : Int32} (m0 : 0 ≤ m.toInt) (mc : m.toInt < (d.1 0 0 1).toInt) : (0 ≤ m.toInt ∧ m.toInt < 6) ∧ (0 ≤ (τ.1 3 0 (ix m)).toInt ∧ (τ.1 3 0 (ix m)).toInt ≤ 12) := by
  have c6 := h.2.2.2.2.2.1
  have im := ix_int m0
  obtain ⟨N, hN, h12, _⟩ := h.1 (ix m) (by omega) (by omega)
  have gm := (h1.2.2.1 (ix m) (by omega)).1 (by omega)
  rw [gm.2.2.1, hN]
  exact ⟨⟨m0, by omega⟩, by omega, by omega⟩
/-- a Ticket more on both sides -/
theorem RX.tic (h : RX d τ) (h1 : R1 d τ) {e : Dt} {m day n fl k w : Int32} (h40 : (d.1 0 0 4).toInt < 40) (m0 : 0 ≤ m.toInt) (mc : m.toInt < (d.1 0 0 1).toInt) (hd : 0 ≤ day.toInt ∧ day.toInt ≤ 400) (hn : 0 ≤ n.toInt ∧ n.toInt ≤ 10000000) (hk : 0 ≤ k.toInt ∧ k.toInt ≤ 2)
    (e1 : e.1 0 0 1 = d.1 0 0 1) (e4 : e.1 0 0 4 = d.1 0 0 4 + 1) (e7 : e.1 0 0 7 = d.1 0 0 7) (ek : ∀ k, k ≠ 0 → k ≠ 13 → e.1 k = d.1 k) (eo : ∀ t : Nat, (t : Int) < (d.1 0 0 4).toInt → e.1 13 t = d.1 13 t) (f0 : e.1 13 (ix (d.1 0 0 4)) 0 = m) (f1 : e.1 13 (ix (d.1 0 0 4)) 1 = day) (f2 : e.1 13 (ix (d.1 0 0 4)) 2 = n) (f3 : e.1 13 (ix (d.1 0 0 4)) 3 = fl) (f4 : e.1 13 (ix (d.1 0 0 4)) 4 = sp_X0_factorAt d (ix m) fl day) (f5 : e.1 13 (ix (d.1 0 0 4)) 5 = k) (f6 : e.1 13 (ix (d.1 0 0 4)) 6 = -9) (f7 : e.1 13 (ix (d.1 0 0 4)) 7 = w) :
    (sp_X5_add τ k m day n fl w).1 = (d.1 0 0 4 + 1) - 1 ∧ RX e (sp_X5_add τ k m day n fl w).2 := by
  have c3 := h1.cnt3 h m0 mc
  have hb := h.fb h1 m0 mc fl day
  have hf := (h.fa h1 m0 mc fl day).1
  obtain ⟨s, S, eS, es, ea, s17, s32, s4, s5, s6, s18, s19, s20, s21, s22, s23, s24, s25⟩ := add_M τ k m day n fl w c3.1 c3.2
  obtain ⟨x1, x2, x3, x4, x5, x6, x7, x8, x9⟩ := h
  rw [x3] at eS
  rw [es, ea, x3]
  have iT := ix_int x7
  have et := ti1 (x := d.1 0 0 4) (by omega)
  have er : rowX e = rowX d := rowX_e (ek 10 (by decide) (by decide)) (ek 11 (by decide) (by decide)) (ek 12 (by decide) (by decide))
  refine ⟨rfl, ?_⟩
  unfold RX
  rw [er, rowM_e s4 s5 s6, e1, e4, e7, s17, s32, ek 8 (by decide) (by decide), ek 9 (by decide) (by decide), ek 2 (by decide) (by decide)]
  refine ⟨x1, x2, by rw [x3], fun t ht => ?_, x5, x6, by omega, by omega, x9⟩
  rw [s18, s19, s20, s21, s22, s23, s24, s25]
  by_cases q : t = S
  · simp only [if_pos q]
    rw [q, eS]
    unfold rT1
    rw [f0, f1, f2, f3, f4, f5, f6, f7]
    exact ⟨⟨rfl, rfl, rfl, rfl, rfl, hf.symm, rfl, rfl⟩, ⟨m0, mc⟩, hd, hn, hb, Or.inl rfl, hk⟩
  · simp only [if_neg q]
    rw [eo t (by omega)]
    exact x4 t (by omega)
theorem shut_e (h1 : R1 d τ) {p : Int32} (p0 : 0 ≤ p.toInt) : sp_X5_isShut τ p = sp_X4_isShut d p := by
  unfold sp_X5_isShut sp_X4_isShut
  rw [h1.2.1]
  by_cases c : (d.1 0 0 5).toInt < 0
  · rw [cif_t c, cif_t (show (d.1 0 0 5).toInt < p.toInt by omega)]
  · rw [cif_f c]
theorem day_of {p : Int32} (h : sp_X4_isDay p) : 0 ≤ p.toInt ∧ p.toInt ≤ 400 := iw_iff.mp h
theorem tN_13 {T : Nat} {x0 x1 x2 x3 x4 : Int32} (t : Nat) (ht : t ≠ T) : (tN d T x0 x1 x2 x3 x4).1 13 t = d.1 13 t := if_neg ht
theorem tN_at {T : Nat} {x0 x1 x2 x3 x4 : Int32} : (tN d T x0 x1 x2 x3 x4).1 13 T = fun j => match j with | 0 => x0 | 1 => x1 | 2 => x2 | 3 => x3 | 4 => x4 | 5 => 0 | _ => -9 := if_pos rfl
theorem tN_k {T : Nat} {x0 x1 x2 x3 x4 : Int32} (k : Nat) (hk : k ≠ 13) : (tN d T x0 x1 x2 x3 x4).1 k = d.1 k := by
  unfold tN
  dsimp only
  split
  · exact absurd rfl hk
  · rfl
theorem j2_ticket (h : R2 d τ) (iX : XI M T d) (a b c e : Int32) : J2 (sp_X4_ticket d a b c e) (sp_X5_ticket τ a b c e) := by
  obtain ⟨h1, hX⟩ := h
  have h : R2 d τ := ⟨h1, hX⟩
  unfold sp_X4_ticket sp_X5_ticket
  refine cnq (Q := J2) (h1.nm iX a) (fun c1 => ?_) (fun _ => ⟨rfl, h⟩)
  refine cq (Q := J2) (isDay_e b).symm (fun c2 => ?_) (fun _ => ⟨rfl, h⟩)
  refine cq (Q := J2) (in_iw (p := c) (lo := 0) (hi := 10000000) rfl rfl).symm (fun c3 => ?_) (fun _ => ⟨rfl, h⟩)
  refine cq (Q := J2) (isFlow_e e).symm (fun c4 => ?_) (fun _ => ⟨rfl, h⟩)
  have f1 := im_of iX c1
  have fM := iX.1
  have f2 := day_of c2
  have f3 := iw_iff.mp c3
  refine cq (Q := J2) (shut_e h1 f2.1).symm (fun c5 => ⟨rfl, h⟩) (fun c5 => ?_)
  have x8 := hX.2.2.2.2.2.2.2.1
  refine cniq (Q := J2) (by rw [hX.2.2.1]; constructor <;> (intro z; (try have z : (d.1 0 0 4).toInt = 40 := z); (try have z : ¬ (d.1 0 0 4).toInt < 40 := z); first | omega | exact Int32.toInt_inj.mp (by omega))) (fun c6 => ?_) (fun _ => ⟨rfl, h⟩)
  have g := hX.tic h1 (e := sp_X4_keep (tN d (ix (d.1 0 0 4)) a b c e (sp_X0_factorAt d (ix a) e b))) (m := a) (day := b) (n := c) (fl := e) (k := 0) (w := -9) c6 f1.1 (by omega) f2 f3 (by decide) rfl rfl rfl (fun k hk hk2 => by
    show (uv _ 0 0 4 _).1 k = _
    rw [uv_kk hk]; exact tN_k k hk2) (fun t ht => by
    have iT := ix_int hX.2.2.2.2.2.2.1
    exact tN_13 (d := d) t (by omega)) (show (tN d (ix (d.1 0 0 4)) a b c e _).1 13 (ix (d.1 0 0 4)) 0 = a from congrFun tN_at 0) (show (tN d (ix (d.1 0 0 4)) a b c e _).1 13 (ix (d.1 0 0 4)) 1 = b from congrFun tN_at 1) (show (tN d (ix (d.1 0 0 4)) a b c e _).1 13 (ix (d.1 0 0 4)) 2 = c from congrFun tN_at 2) (show (tN d (ix (d.1 0 0 4)) a b c e _).1 13 (ix (d.1 0 0 4)) 3 = e from congrFun tN_at 3) (show (tN d (ix (d.1 0 0 4)) a b c e _).1 13 (ix (d.1 0 0 4)) 4 = _ from congrFun tN_at 4) (show (tN d (ix (d.1 0 0 4)) a b c e _).1 13 (ix (d.1 0 0 4)) 5 = 0 from congrFun tN_at 5) (show (tN d (ix (d.1 0 0 4)) a b c e _).1 13 (ix (d.1 0 0 4)) 6 = -9 from congrFun tN_at 6) (show (tN d (ix (d.1 0 0 4)) a b c e _).1 13 (ix (d.1 0 0 4)) 7 = -9 from congrFun tN_at 7)
  exact ⟨g.1.symm, (h1.x (show XE d (sp_X4_keep (tN d (ix (d.1 0 0 4)) a b c e (sp_X0_factorAt d (ix a) e b))) from XE.rf)).s (add_xs _ _ _ _ _ _), g.2⟩
theorem nt_R (h : R2 d τ) (p : Int32) : sp_X5_noTicket τ p = ¬ sp_X4_isTicket d p := noTicket_e h.2.2.2.1 h.2.2.2.2.2.2.2.1 p
theorem tk_of (h : R2 d τ) {p : Int32} (c : sp_X4_isTicket d p) : 0 ≤ p.toInt ∧ p.toInt < (d.1 0 0 4).toInt ∧ rT1 (d.1 0 0 1) (d.1 13 (ix p)) (τ.1 18 0 (ix p)) (τ.1 19 0 (ix p)) (τ.1 20 0 (ix p)) (τ.1 21 0 (ix p)) (τ.1 22 0 (ix p)) (τ.1 23 0 (ix p)) (τ.1 24 0 (ix p)) (τ.1 25 0 (ix p)) := by
  have f := iw_iff.mp c
  have x7 := h.2.2.2.2.2.2.2.1
  have x8 := h.2.2.2.2.2.2.2.2.1
  have e := ts1 (x := d.1 0 0 4) (by omega)
  have z0 : (0 : Int32).toInt = 0 := rfl
  rw [e, z0] at f
  have i := ix_int f.1
  exact ⟨f.1, by omega, h.2.2.2.2.1 (ix p) (by omega)⟩
theorem RX.mark (h : RX d τ) {p : Nat} : RX (uv d 13 p 6 (d.1 0 0 4)) (uv τ 24 0 p (τ.1 0 0 17)) := by
  obtain ⟨x1, x2, x3, x4, x5, x6, x7, x8, x9⟩ := h
  refine ⟨x1, x2, x3, fun t ht => ?_, x5, x6, x7, x8, x9⟩
  have g := x4 t ht
  show rT1 (d.1 0 0 1) ((uv d 13 p 6 (d.1 0 0 4)).1 13 t) (τ.1 18 0 t) (τ.1 19 0 t) (τ.1 20 0 t) (τ.1 21 0 t) (τ.1 22 0 t) (τ.1 23 0 t) ((uv τ 24 0 p (τ.1 0 0 17)).1 24 0 t) (τ.1 25 0 t)
  by_cases q : t = p
  · subst q
    unfold rT1 at g ⊢
    rw [uv_at (show (5 : Nat) ≠ 6 by decide), uv_at (show (0 : Nat) ≠ 6 by decide), uv_at (show (1 : Nat) ≠ 6 by decide), uv_at (show (2 : Nat) ≠ 6 by decide), uv_at (show (3 : Nat) ≠ 6 by decide), uv_at (show (4 : Nat) ≠ 6 by decide), uv_at (show (7 : Nat) ≠ 6 by decide), uv_eq, uv_eq]
    obtain ⟨⟨a1, a2, a3, a4, a5, a6, a7, a8⟩, b1, b2, b3, b4, b5, b6⟩ := g
    exact ⟨⟨a1, a2, a3, a4, a5, a6, x3, a8⟩, b1, b2, b3, b4, Or.inr x7, b6⟩
  · rw [uv_at q, uv_off _ _ _ _ _ _ _ (fun z => q z.2)]; exact g
theorem rep_rows (d : Dt) {T P : Nat} (hTP : T ≠ P) (a b n c f k p v w : Int32) : (∀ t, t ≠ T → (uv (uv (uv (uv (tN d T a b n c f) 13 T 5 k) 13 T 7 p) 13 P 6 v) 0 0 4 w).1 13 t = (uv d 13 P 6 v).1 13 t) ∧ (∀ j, j ≠ 0 → j ≠ 13 → (uv (uv (uv (uv (tN d T a b n c f) 13 T 5 k) 13 T 7 p) 13 P 6 v) 0 0 4 w).1 j = d.1 j) ∧ (uv (uv (uv (uv (tN d T a b n c f) 13 T 5 k) 13 T 7 p) 13 P 6 v) 0 0 4 w).1 13 T = fun j => match j with | 0 => a | 1 => b | 2 => n | 3 => c | 4 => f | 5 => k | 7 => p | _ => -9 := by
  have k13 : (uv (uv (uv (uv (tN d T a b n c f) 13 T 5 k) 13 T 7 p) 13 P 6 v) 0 0 4 w).1 13 = (uv (uv (uv (tN d T a b n c f) 13 T 5 k) 13 T 7 p) 13 P 6 v).1 13 := uv_kk (by decide)
  refine ⟨fun t ht => ?_, fun j h0 h13 => ?_, ?_⟩
  · have base : (uv (uv (tN d T a b n c f) 13 T 5 k) 13 T 7 p).1 13 t = d.1 13 t := by
      rw [uv_off _ _ _ _ _ _ _ (fun z => ht z.2), uv_off _ _ _ _ _ _ _ (fun z => ht z.2)]; exact tN_13 (d := d) t ht
    rw [k13]
    generalize uv (uv (tN d T a b n c f) 13 T 5 k) 13 T 7 p = X at base ⊢
    by_cases q : t = P
    · subst q
      funext f
      by_cases q2 : f = 6
      · rw [q2, uv_eq, uv_eq]
      · rw [uv_at q2, uv_at q2, base]
    · rw [uv_off _ _ _ _ _ _ _ (fun z => q z.2), uv_off _ _ _ _ _ _ _ (fun z => q z.2), base]
  · rw [uv_kk h0, uv_kk h13, uv_kk h13, uv_kk h13]; exact tN_k j h13
  · rw [k13, uv_off _ _ _ _ _ _ _ (fun z => hTP z.2)]
    have base : (tN d T a b n c f).1 13 T = fun j => match j with | 0 => a | 1 => b | 2 => n | 3 => c | 4 => f | 5 => 0 | _ => -9 := tN_at
    generalize tN d T a b n c f = X at base ⊢
    rw [uv_row, uv_row, base]
    funext j
    unfold upd
    match j with
    | 0 => rfl
    | 1 => rfl
    | 2 => rfl
    | 3 => rfl
    | 4 => rfl
    | 5 => rfl
    | 6 => rfl
    | 7 => rfl
    | n + 8 => rfl
theorem rep_R (h : R2 d τ) {p k n : Int32} (p0 : 0 ≤ p.toInt) (pT : p.toInt < (d.1 0 0 4).toInt) (h40 : (d.1 0 0 4).toInt < 40) (hn : 0 ≤ n.toInt ∧ n.toInt ≤ 10000000) (hk : 0 ≤ k.toInt ∧ k.toInt ≤ 2) : (sp_X5_add (uv τ 24 0 (ix p) (τ.1 0 0 17)) k (τ.1 19 0 (ix p)) (τ.1 20 0 (ix p)) n (τ.1 22 0 (ix p)) p).1 = (d.1 0 0 4 + 1) - 1 ∧ R2 (sp_X4_replace d p k n) (sp_X5_add (uv τ 24 0 (ix p) (τ.1 0 0 17)) k (τ.1 19 0 (ix p)) (τ.1 20 0 (ix p)) n (τ.1 22 0 (ix p)) p).2 := by
  obtain ⟨h1, hX⟩ := h
  have ip := ix_int p0
  have iT := ix_int hX.2.2.2.2.2.2.1
  have g := hX.2.2.2.1 (ix p) (by omega)
  obtain ⟨⟨a1, a2, a3, a4, a5, a6, a7, a8⟩, b1, b2, b3, b4, b5, b6⟩ := g
  rw [a2, a3, a5]
  have hT : ix (d.1 0 0 4) ≠ ix p := by omega
  have h1' : R1 (uv d 13 (ix p) 6 (d.1 0 0 4)) (uv τ 24 0 (ix p) (τ.1 0 0 17)) := h1
  have ef : sp_X0_factorAt d (ix (d.1 13 (ix p) 0)) (d.1 13 (ix p) 3) (d.1 13 (ix p) 1) = sp_X0_factorAt (uv d 13 (ix p) 6 (d.1 0 0 4)) (ix (d.1 13 (ix p) 0)) (d.1 13 (ix p) 3) (d.1 13 (ix p) 1) := fA_c (d := uv d 13 (ix p) 6 (d.1 0 0 4)) (e := d) rfl rfl rfl rfl _ _ _
  have hmk := hX.mark (p := ix p)
  have hxe : XE (uv d 13 (ix p) 6 (d.1 0 0 4)) (sp_X4_replace d p k n) := XE.rf
  have hrep : sp_X4_replace d p k n = uv (uv (uv (uv (tN d (ix (d.1 0 0 4)) (d.1 13 (ix p) 0) (d.1 13 (ix p) 1) n (d.1 13 (ix p) 3) (sp_X0_factorAt d (ix (d.1 13 (ix p) 0)) (d.1 13 (ix p) 3) (d.1 13 (ix p) 1))) 13 (ix (d.1 0 0 4)) 5 k) 13 (ix (d.1 0 0 4)) 7 p) 13 (ix p) 6 (d.1 0 0 4)) 0 0 4 (d.1 0 0 4 + 1) := rfl
  obtain ⟨r1, r2, r3⟩ := rep_rows d hT (d.1 13 (ix p) 0) (d.1 13 (ix p) 1) n (d.1 13 (ix p) 3) (sp_X0_factorAt d (ix (d.1 13 (ix p) 0)) (d.1 13 (ix p) 3) (d.1 13 (ix p) 1)) k p (d.1 0 0 4) (d.1 0 0 4 + 1)
  have z1 : (sp_X4_replace d p k n).1 0 0 1 = d.1 0 0 1 := rfl
  have z4 : (sp_X4_replace d p k n).1 0 0 4 = d.1 0 0 4 + 1 := rfl
  have z7 : (sp_X4_replace d p k n).1 0 0 7 = d.1 0 0 7 := rfl
  rw [← hrep] at r1 r2 r3
  generalize sp_X4_replace d p k n = e at *
  have g := hmk.tic h1' (e := e) (m := d.1 13 (ix p) 0) (day := d.1 13 (ix p) 1) (n := n) (fl := d.1 13 (ix p) 3) (k := k) (w := p) h40 b1.1 b1.2 b2 hn hk z1 z4 z7 (fun j h0 h13 => (r2 j h0 h13).trans (uv_kk h13).symm) (fun t ht => r1 t (by have ht : (t : Int) < (d.1 0 0 4).toInt := ht; omega)) (congrFun r3 0) (congrFun r3 1) (congrFun r3 2) (congrFun r3 3) ((congrFun r3 4).trans ef) (congrFun r3 5) (congrFun r3 6) (congrFun r3 7)
  exact ⟨g.1, (h1'.x hxe).s (add_xs _ _ _ _ _ _), g.2⟩
theorem isRep_e {x : Nat → Int32} {t : Int32} {e : Dt} {p : Nat} (ht : t = e.1 13 p 6) (hb : (e.1 13 p 6).toInt = -9 ∨ 0 ≤ (e.1 13 p 6).toInt) : sp_X3_isReplaced e p = (0 ≤ t.toInt) := by
  unfold sp_X3_isReplaced
  rw [ht]
  by_cases q : (e.1 13 p 6).toInt = -9
  · rw [cif_t q]; exact propext ⟨fun z => z.elim, fun z => by omega⟩
  · rw [cif_f q]; exact propext ⟨fun _ => by omega, fun _ => trivial⟩
theorem e40 {x : Int32} (h : x.toInt ≤ 40) : (x.toInt = (40 : Int)) ↔ ¬ x.toInt < 40 := by omega
theorem j2_right (h : R2 d τ) (a b : Int32) : J2 (sp_X4_right d a b) (sp_X5_right τ a b) := by
  have h0 := h
  obtain ⟨h1, hX⟩ := h
  unfold sp_X4_right sp_X5_right
  refine cnq (Q := J2) (nt_R h0 a) (fun c1 => ?_) (fun _ => ⟨rfl, h0⟩)
  refine cq (Q := J2) (in_iw (p := b) (lo := 0) (hi := 10000000) rfl rfl).symm (fun c3 => ?_) (fun _ => ⟨rfl, h0⟩)
  obtain ⟨p0, pT, g⟩ := tk_of h0 c1
  obtain ⟨⟨a1, a2, a3, a4, a5, a6, a7, a8⟩, b1, b2, b3, b4, b5, b6⟩ := g
  have f3 := iw_iff.mp c3
  have x8 := hX.2.2.2.2.2.2.2.1
  refine cq (Q := J2) (isRep_e (x := d.1 13 (ix a)) a7 b5) (fun _ => ⟨rfl, h0⟩) (fun c4 => ?_)
  refine cq (Q := J2) (by rw [a3]; exact (shut_e h1 b2.1).symm) (fun c5 => ⟨rfl, h0⟩) (fun c5 => ?_)
  refine cniq (Q := J2) (by rw [hX.2.2.1]; exact e40 x8) (fun c6 => ?_) (fun _ => ⟨rfl, h0⟩)
  have g := rep_R h0 (k := 1) (n := b) p0 pT c6 f3 (by decide)
  exact ⟨g.1.symm, g.2⟩
/-- which Tickets are to be remade -/
theorem rem_e (h : R2 d τ) {m f to : Int32} (m0 : 0 ≤ m.toInt) (mc : m.toInt < (d.1 0 0 1).toInt) {a : Nat} (ha : (a : Int) < (d.1 0 0 4).toInt) : sp_X4_isToRemake d a m f to = (sp_X5_isStale τ (nI a) m f to).1 := by
  obtain ⟨h1, hX⟩ := h
  have x8 := hX.2.2.2.2.2.2.2.1
  have ia : ix (nI a) = a := ix_of (nI_toInt (by omega))
  obtain ⟨⟨a1, a2, a3, a4, a5, a6, a7, a8⟩, b1, b2, b3, b4, b5, b6⟩ := hX.2.2.2.1 a ha
  unfold sp_X4_isToRemake sp_X3_counts sp_X5_isStale sp_X4_factorNow
  rw [ia, isRep_e (x := d.1 13 a) a7 b5, a2, a3, a5, a6]
  by_cases c1 : (d.1 13 a 0).toInt = m.toInt
  · have em : d.1 13 a 0 = m := Int32.toInt_inj.mp c1
    rw [cif_t c1, cif_t c1, in_iw (p := d.1 13 a 1) (lo := f) (hi := to) (t64 f) (t64 to)]
    by_cases c2 : sp_X4_isWithin (d.1 13 a 1) f to
    · rw [cif_t c2, cif_t c2]
      by_cases c3 : 0 ≤ (τ.1 24 0 a).toInt
      · rw [cif_t c3, cif_t c3, cif_F]
      · rw [cif_f c3, cif_f c3, cif_T, em, (hX.fa h1 m0 mc (d.1 13 a 3) (d.1 13 a 1)).1]
        by_cases c4 : (d.1 13 a 4).toInt = ((sp_X5_factorAt τ m (d.1 13 a 3) (d.1 13 a 1)).1).toInt
        · rw [cif_t c4, cif_t c4]
        · rw [cif_f c4, cif_f c4]
    · rw [cif_f c2, cif_f c2, cif_F]
  · rw [cif_f c1, cif_f c1, cif_F]
theorem due_e (h : R2 d τ) {m f to : Int32} (m0 : 0 ≤ m.toInt) (mc : m.toInt < (d.1 0 0 1).toInt) : ∀ (n a : Nat), ((a + n : Nat) : Int) ≤ (d.1 0 0 4).toInt → due d m f to n a = dueM τ m f to n a := by
  intro n
  induction n with
  | zero => intro a _; rfl
  | succ n ih =>
    intro a ha
    show cif (sp_X4_isToRemake d a m f to) 1 0 + due d m f to n (a + 1) = cif ((sp_X5_isStale τ (nI a) m f to).1) 1 0 + dueM τ m f to n (a + 1)
    rw [rem_e h m0 mc (by omega), ih (a + 1) (by omega)]
theorem scM_cf {m f to : Int32} : ∀ (n a : Nat) (e : Dt), CF τ e → CF τ (scM m f to n a e) := by
  intro n
  induction n with
  | zero => intro a e h; exact h
  | succ n ih => intro a e h; exact ih (a + 1) _ (h.tr (is_cf _ _ _ _))
theorem R2.cf {σ : Dt} (h : R2 d τ) (g : CF τ σ) : R2 d σ := ⟨h.1.s g.xs, h.2.s g.xs2⟩
theorem rm_R {m f to : Int32} (m0 : 0 ≤ m.toInt) {C : Int32} (mc : m.toInt < C.toInt) : ∀ (n a : Nat) (e σ : Dt), R2 e σ → e.1 0 0 1 = C → ((a + n : Nat) : Int) ≤ (e.1 0 0 4).toInt → (e.1 0 0 4).toInt + (due e m f to n a : Int) ≤ 40 → R2 (rmk m f to n a e) (rmM m f to n a σ) := by
  intro n
  induction n with
  | zero => intro a e σ h _ _ _; exact h
  | succ n ih =>
    intro a e σ h hC ha hd
    have x8 := h.2.2.2.2.2.2.2.2.1
    have ia : ix (nI a) = a := ix_of (nI_toInt (by omega))
    have ta : (nI a).toInt = (a : Int) := nI_toInt (by omega)
    have he := rem_e (f := f) (to := to) h m0 (by rw [hC]; exact mc) (a := a) (by omega)
    have h' : R2 e (sp_X5_isStale σ (nI a) m f to).2 := h.cf (is_cf _ _ _ _)
    have hd : (e.1 0 0 4).toInt + ((cif (sp_X4_isToRemake e a m f to) 1 0 + due e m f to n (a + 1) : Nat) : Int) ≤ 40 := hd
    show R2 (rmk m f to n (a + 1) (cif (sp_X4_isToRemake e a m f to) (sp_X4_replace e (nI a) 2 (e.1 13 a 2)) e)) (rmM m f to n (a + 1) (cif ((sp_X5_isStale σ (nI a) m f to).1) (rq5 (sp_X5_isStale σ (nI a) m f to).2 m a) (sp_X5_isStale σ (nI a) m f to).2))
    rw [← he]
    by_cases c : sp_X4_isToRemake e a m f to
    · have cs : (sp_X5_isStale σ (nI a) m f to).1 := he ▸ c
      rw [cif_t c, cif_t c]
      rw [cif_t c] at hd
      generalize (sp_X5_isStale σ (nI a) m f to).2 = s2 at h'
      obtain ⟨⟨a1, a2, a3, a4, a5, a6, a7, a8⟩, b1, b2, b3, b4, b5, b6⟩ := h'.2.2.2.2.1 a (by omega)
      have g := rep_R h' (p := nI a) (k := 2) (n := e.1 13 a 2) (by omega) (by omega) (by omega) b3 (by decide)
      have em : σ.1 19 0 a = m ∧ True := ⟨by
        unfold sp_X5_isStale at cs
        rw [ia] at cs
        by_cases z : (σ.1 19 0 a).toInt = m.toInt
        · exact Int32.toInt_inj.mp z
        · rw [cif_f z] at cs; exact cs.elim, trivial⟩
      have e19 : e.1 13 a 0 = m := by
        have := (h.2.2.2.2.1 a (by omega)).1.2.1
        rw [← this]; exact em.1
      have erq : rq5 s2 m a = (sp_X5_add (uv s2 24 0 (ix (nI a)) (s2.1 0 0 17)) 2 (s2.1 19 0 (ix (nI a))) (s2.1 20 0 (ix (nI a))) (e.1 13 a 2) (s2.1 22 0 (ix (nI a))) (nI a)).2 := by
        unfold rq5
        rw [ia, a2, e19, a4]
      rw [erq]
      refine ih (a + 1) _ _ g.2 hC ?_ ?_
      · have et := ti1 (x := e.1 0 0 4) (by omega)
        show _ ≤ ((e.1 0 0 4) + 1).toInt
        omega
      · have et := ti1 (x := e.1 0 0 4) (by omega)
        have ed : due (sp_X4_replace e (nI a) 2 (e.1 13 a 2)) m f to n (a + 1) = due e m f to n (a + 1) := due_c n (a + 1) (fun u g1 g2 => rep_tR (by rw [ia]; omega) (by have := ix_int (x := e.1 0 0 4) (by omega); omega) m f to)
        rw [ed]
        show ((e.1 0 0 4) + 1).toInt + _ ≤ 40
        omega
    · rw [cif_f c, cif_f c]
      rw [cif_f c] at hd
      exact ih (a + 1) _ _ h' hC (by omega) (by omega)
theorem j2_remake (h : R2 d τ) (iX : XI M T d) (a b c : Int32) : J2 (sp_X4_remake d a b c) (sp_X5_remake τ a b c) := by
  have h1 := h.1
  unfold sp_X4_remake sp_X5_remake
  refine cnq (Q := J2) (h1.nm iX a) (fun c1 => ?_) (fun _ => ⟨rfl, h⟩)
  refine cq (Q := J2) (areDays_e b c).symm (fun c2 => ?_) (fun _ => ⟨rfl, h⟩)
  have f1 := im_of iX c1
  have fM := iX.1
  have fb : 0 ≤ b.toInt := by
    unfold sp_X4_areDays at c2
    by_cases z : sp_X4_isDay b
    · exact (day_of z).1
    · rw [cif_f z] at c2; exact c2.elim
  refine cq (Q := J2) (shut_e h1 fb).symm (fun _ => ⟨rfl, h⟩) (fun _ => ?_)
  have x3 := h.2.2.2.1
  have x7 := h.2.2.2.2.2.2.2.1
  have iT := ix_int x7
  rw [x3, ← due_e h f1.1 (by omega) (f := b) (to := c) (ix (d.1 0 0 4)) 0 (by omega)]
  have hsc : R2 d (scM a b c (ix (d.1 0 0 4)) 0 τ) := h.cf (scM_cf _ _ _ CF.rf)
  refine ciq (Q := J2) (by omega) (fun c4 => ⟨rfl, ?_⟩) (fun _ => ⟨rfl, hsc⟩)
  exact rm_R f1.1 (C := d.1 0 0 1) (by omega) _ 0 _ _ hsc rfl (by omega) (by omega)
end R6S
