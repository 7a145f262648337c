/-! ===== the reference's FACTORS and its curve ===== -/
def rowC (d : Dt) : Nat → Pt := fun j => (d.1 9 0 j, d.1 11 0 j, d.1 10 0 j)
def rowM (d : Dt) : Nat → Pt := fun j => (d.1 4 0 j, d.1 5 0 j, d.1 6 0 j)
def clM (d : Dt) : List Pt := rl (rowC d) (ix (d.1 0 0 8)) 0
theorem rowC_w {e : Dt} {X : Nat} {u v w : Int32} (j : Nat) : rowC (uv (uv (uv e 9 0 X u) 10 0 X v) 11 0 X w) j = if j = X then (u, w, v) else rowC e j := by
  show ((uv e 9 0 X u).1 9 0 j, (uv (uv (uv e 9 0 X u) 10 0 X v) 11 0 X w).1 11 0 j, (uv (uv e 9 0 X u) 10 0 X v).1 10 0 j) = _
  by_cases q : j = X
  · rw [if_pos q, q, uv_eq, uv_eq, uv_eq]
  · rw [if_neg q, uv_at q, uv_at q, uv_at q]; rfl
theorem a86_rows (d0 : Dt) (p x2 : Int32) (F : Nat → Pt) (P : Pt) (N : Nat) (s : Int32) (x0 : 0 ≤ x2.toInt) : ∀ (n : Nat) (y : Int32) (e : Dt), x2.toInt ≤ y.toInt → y.toInt - x2.toInt < (n : Int) → y.toInt ≤ (N : Int) → rowM e (ix p) = P → (∀ j, j < ix y → rowC e j = F j) → (∀ j, ix y ≤ j → j < N → rowC e (j + 1) = F j) → e.1 0 0 8 = s → (∀ j, j < ix x2 → rowC (lp_X5_addPoint_86 d0 p x2 n y e) j = F j) ∧ rowC (lp_X5_addPoint_86 d0 p x2 n y e) (ix x2) = P ∧ (∀ j, ix x2 ≤ j → j < N → rowC (lp_X5_addPoint_86 d0 p x2 n y e) (j + 1) = F j) ∧ (lp_X5_addPoint_86 d0 p x2 n y e).1 0 0 8 = s + 1 := by
  have i2 := ix_int x0
  intro n
  induction n with
  | zero => intro y e h1 h2; omega
  | succ n ih =>
    intro y e h1 h2 hN hP h3 h4 h5
    have hE : lp_X5_addPoint_86 d0 p x2 (n + 1) y e = cif (y.toInt ≤ x2.toInt) (uv (uv (uv (uv e 9 0 (ix x2) (e.1 4 0 (ix p))) 10 0 (ix x2) (e.1 6 0 (ix p))) 11 0 (ix x2) (e.1 5 0 (ix p))) 0 0 8 ((e.1 0 0 8) + 1)) (lp_X5_addPoint_86 d0 p x2 n (y + (-1)) (uv (uv (uv e 9 0 (ix y) (e.1 9 0 (ix (y - 1)))) 10 0 (ix y) (e.1 10 0 (ix (y - 1)))) 11 0 (ix y) (e.1 11 0 (ix (y - 1))))) := rfl
    rw [hE]
    have iy := ix_int (x := y) (by omega)
    by_cases c : y.toInt ≤ x2.toInt
    · rw [cif_t c]
      have ew : rowC (uv (uv (uv (uv e 9 0 (ix x2) (e.1 4 0 (ix p))) 10 0 (ix x2) (e.1 6 0 (ix p))) 11 0 (ix x2) (e.1 5 0 (ix p))) 0 0 8 ((e.1 0 0 8) + 1)) = rowC (uv (uv (uv e 9 0 (ix x2) (e.1 4 0 (ix p))) 10 0 (ix x2) (e.1 6 0 (ix p))) 11 0 (ix x2) (e.1 5 0 (ix p))) := rfl
      refine ⟨fun j hj => ?_, ?_, fun j g1 g2 => ?_, by rw [uv_eq, h5]⟩
      · rw [ew, rowC_w, if_neg (by omega)]; exact h3 j (by omega)
      · rw [ew, rowC_w, if_pos rfl]; exact hP
      · rw [ew, rowC_w, if_neg (by omega)]; exact h4 j (by omega) g2
    · rw [cif_f c]
      have e1 := tim1 (x := y) (by omega)
      have s1 := ts1 (x := y) (by omega)
      have ex : ix (y + (-1)) = ix y - 1 := ix_of (by rw [e1]; omega)
      have es : ix (y - 1) = ix y - 1 := ix_of (by rw [s1]; omega)
      refine ih (y + (-1)) (uv (uv (uv e 9 0 (ix y) (e.1 9 0 (ix (y - 1)))) 10 0 (ix y) (e.1 10 0 (ix (y - 1)))) 11 0 (ix y) (e.1 11 0 (ix (y - 1)))) (by omega) (by omega) (by omega) hP (fun j hj => ?_) (fun j g1 g2 => ?_) h5
      · rw [rowC_w, if_neg (by omega)]; exact h3 j (by omega)
      · rw [rowC_w]
        by_cases z : j + 1 = ix y
        · rw [if_pos z, es, show j = ix y - 1 by omega]; exact h3 (ix y - 1) (by omega)
        · rw [if_neg z]; exact h4 j (by omega) g2
theorem ap_list {d : Dt} (p : Int32) {N : Nat} (hN : (d.1 0 0 8).toInt = (N : Int)) (h11 : N ≤ 12) : clM (sp_X5_addPoint d p) = apF (rowM d (ix p)) (clM d) := by
  have eN : ix (d.1 0 0 8) = N := ix_of hN
  have lp : ∀ (n : Nat) (y : Int32), 0 ≤ y.toInt → y.toInt ≤ (N : Int) → (N : Int) - y.toInt < (n : Int) → (∀ j, j < ix y → (rowC d j).1.toInt < (rowM d (ix p)).1.toInt) → clM (lp_X5_addPoint_2 d p n y) = apF (rowM d (ix p)) (clM d) := by
    intro n
    induction n with
    | zero => intro y h0 h1 h2; omega
    | succ n ih =>
      intro y h0 h1 h2 h3
      have iy := ix_int h0
      have fin : (ix y < N → (rowM d (ix p)).1.toInt < (rowC d (ix y)).1.toInt) → clM (lp_X5_addPoint_86 d p y 16 (d.1 0 0 8) d) = apF (rowM d (ix p)) (clM d) := fun g => by
        obtain ⟨r1, r2, r3, r4⟩ := a86_rows d p y (rowC d) (rowM d (ix p)) N (d.1 0 0 8) h0 16 (d.1 0 0 8) d (by omega) (by omega) (by omega) rfl (fun _ _ => rfl) (fun j g1 g2 => by omega) rfl
        unfold clM
        have e8 := ti1 (x := d.1 0 0 8) (by omega)
        have e9 : ix ((d.1 0 0 8) + 1) = N + 1 := ix_of (by rw [e8]; omega)
        rw [r4, e9, eN]
        exact rl_apI r2 N 0 (by omega) (by omega) (fun j _ hj => ⟨r1 j hj, h3 j hj⟩) (fun z => g (by omega)) (fun j g1 g2 => r3 j g1 (by omega))
      show clM (st_X5_addPoint_2 d p (lp_X5_addPoint_2 d p n) y) = _
      unfold st_X5_addPoint_2
      by_cases c1 : (d.1 0 0 8).toInt ≤ y.toInt
      · rw [cif_t c1]; exact fin (fun z => by omega)
      · rw [cif_f c1]
        by_cases c2 : (d.1 4 0 (ix p)).toInt ≤ (d.1 9 0 (ix y)).toInt
        · rw [cif_t c2]
          by_cases c3 : (d.1 9 0 (ix y)).toInt = (d.1 4 0 (ix p)).toInt
          · rw [cif_t c3]
            by_cases c4 : (d.1 11 0 (ix y)).toInt ≤ (d.1 5 0 (ix p)).toInt
            · rw [cif_t c4, Int32.add_zero]
              unfold clM
              have e8 : (uv (uv (uv (uv d 9 0 (ix y) (d.1 4 0 (ix p))) 10 0 (ix y) (d.1 6 0 (ix p))) 11 0 (ix y) (d.1 5 0 (ix p))) 0 0 8 (d.1 0 0 8)).1 0 0 8 = d.1 0 0 8 := uv_eq
              have ew : rowC (uv (uv (uv (uv d 9 0 (ix y) (d.1 4 0 (ix p))) 10 0 (ix y) (d.1 6 0 (ix p))) 11 0 (ix y) (d.1 5 0 (ix p))) 0 0 8 (d.1 0 0 8)) = rowC (uv (uv (uv d 9 0 (ix y) (d.1 4 0 (ix p))) 10 0 (ix y) (d.1 6 0 (ix p))) 11 0 (ix y) (d.1 5 0 (ix p))) := rfl
              rw [e8, ew, eN]
              refine rl_apR (k := ix y) ?_ c3 N 0 (by omega) (by omega) (fun j _ hj => h3 j hj) (fun j hj _ => by rw [rowC_w, if_neg hj])
              rw [rowC_w, if_pos rfl, cif_f (show ¬ (rowM d (ix p)).2.1.toInt < (rowC d (ix y)).2.1.toInt from Int.not_lt.mpr c4)]
              rfl
            · rw [cif_f c4]
              unfold clM
              rw [eN]
              refine rl_apR (k := ix y) ?_ c3 N 0 (by omega) (by omega) (fun j _ hj => h3 j hj) (fun j hj _ => rfl)
              rw [cif_t (show (rowM d (ix p)).2.1.toInt < (rowC d (ix y)).2.1.toInt from Int.not_le.mp c4)]
          · rw [cif_f c3]
            exact fin (fun _ => by show (d.1 4 0 (ix p)).toInt < (d.1 9 0 (ix y)).toInt; omega)
        · rw [cif_f c2]
          have e1 := ti1 (x := y) (by omega)
          have ey : ix (y + 1) = ix y + 1 := ix_of (by rw [e1]; omega)
          refine ih (y + 1) (by omega) (by omega) (by omega) (fun j hj => ?_)
          by_cases z : j = ix y
          · rw [z]; exact Int.not_le.mp c2
          · exact h3 j (by omega)
  exact lp 16 0 (by decide) (by rw [Int32.toInt_zero]; omega) (by rw [Int32.toInt_zero]; omega) (fun j hj => by rw [show ix 0 = 0 from rfl] at hj; omega)
theorem fc_l (d0 : Dt) {d : Dt} {x D : Int32} {c : Nat} (hx : 0 ≤ x.toInt ∧ x.toInt < 6) (hc : (d.1 3 0 (ix x)).toInt = (c : Int)) (h12 : c ≤ 12) : ∀ (n a : Nat) (z : Int32) (e : Dt), QR d e → z.toInt = 12 * x.toInt + (a : Int) → a ≤ c → c - a < n → 0 ≤ (e.1 0 0 8).toInt → (e.1 0 0 8).toInt ≤ (a : Int) → clM (lp_X5_findCurve_10 d0 x D n z e) = (rl (rowM d) (c - a) (12 * ix x + a)).foldl (rcF D.toInt) (clM e) := by
  have ixx := ix_int hx.1
  have e12 : (12 : Int32).toInt = 12 := rfl
  have em : ((12 : Int32) * x).toInt = 12 * x.toInt := by rw [ti_mul (by rw [e12]; omega) (by rw [e12]; omega), e12]
  intro n
  induction n with
  | zero => intro a z e _ _ _ h; omega
  | succ n ih =>
    intro a z e hq hz ha hn s0 s1
    show clM (st_X5_findCurve_10 d0 x D (lp_X5_findCurve_10 d0 x D n) z e) = _
    unfold st_X5_findCurve_10
    rw [hq.1, hq.2.2.1]
    have es : ((12 * x) + (d.1 3 0 (ix x))).toInt = 12 * x.toInt + c := by rw [ti_add (by rw [em, hc]; omega) (by rw [em, hc]; omega), em, hc]
    rw [es]
    by_cases c1 : 12 * x.toInt + (c : Int) ≤ z.toInt
    · have e0 : c - a = 0 := by omega
      rw [cif_t c1, e0]; rfl
    · rw [cif_f c1]
      obtain ⟨m, hm⟩ : ∃ m, c - a = m + 1 := ⟨c - a - 1, by omega⟩
      have ez := ti1 (x := z) (by omega)
      have iz : ix z = 12 * ix x + a := ix_of (by rw [hz]; omega)
      rw [hm, iz]
      show _ = (rl (rowM d) m (12 * ix x + a + 1)).foldl (rcF D.toInt) (rcF D.toInt (clM e) (rowM d (12 * ix x + a)))
      have em' : m = c - (a + 1) := by omega
      have ea' : 12 * ix x + a + 1 = 12 * ix x + (a + 1) := by omega
      rw [em', ea']
      unfold rcF
      by_cases c2 : D.toInt < (d.1 5 0 (12 * ix x + a)).toInt
      · rw [cif_t c2, cif_f (show ¬ (rowM d (12 * ix x + a)).2.1.toInt ≤ D.toInt from Int.not_le.mpr c2)]
        exact ih (a + 1) (z + 1) e hq (by omega) (by omega) (by omega) s0 (by omega)
      · rw [cif_f c2, cif_t (show (rowM d (12 * ix x + a)).2.1.toInt ≤ D.toInt from Int.not_lt.mp c2)]
        have gp := ap_pt (d := e) z s0 (by omega)
        have gr := hq.tr (ap_cf (d := e) z).qr
        rw [ih (a + 1) (z + 1) (sp_X5_addPoint e z) gr (by omega) (by omega) (by omega) gp.1 (by omega)]
        have hs := ix_int s0
        rw [ap_list (d := e) z (N := ix (e.1 0 0 8)) hs.symm (by omega), iz]
        have er : rowM e = rowM d := by
          funext j
          show (e.1 4 0 j, e.1 5 0 j, e.1 6 0 j) = (d.1 4 0 j, d.1 5 0 j, d.1 6 0 j)
          rw [hq.2.1, hq.2.2.1, hq.2.2.2]
        rw [er]; rfl
theorem fc_M {d : Dt} {x D : Int32} {c : Nat} (hx : 0 ≤ x.toInt ∧ x.toInt < 6) (hc : (d.1 3 0 (ix x)).toInt = (c : Int)) (h12 : c ≤ 12) : clM (sp_X5_findCurve d x D) = (rl (rowM d) c (12 * ix x)).foldl (rcF D.toInt) [] := by
  have e12 : (12 : Int32).toInt = 12 := rfl
  have em : ((12 : Int32) * x).toInt = 12 * x.toInt := by rw [ti_mul (by rw [e12]; omega) (by rw [e12]; omega), e12]
  have h := fc_l d (D := D) hx hc h12 16 0 (12 * x) (uv d 0 0 8 0) ⟨rfl, rfl, rfl, rfl⟩ (by rw [em]; omega) (Nat.zero_le _) (by omega) (by show 0 ≤ (0 : Int32).toInt; decide) (by show (0 : Int32).toInt ≤ _; decide)
  rw [Nat.sub_zero, Nat.add_zero] at h
  exact h
theorem f19_l {d : Dt} {x fl D : Int32} {e : Dt} {S : Nat} (hS : (e.1 0 0 8).toInt = (S : Int)) (s1 : 1 ≤ S) (s2 : S ≤ 12) : ∀ (n a : Nat) (w : Int32) (pr : Option Pt), w.toInt = (a : Int) → a ≤ S → S - a < n → ((a = 0 ∧ pr = none) ∨ (0 < a ∧ pr = some (rowC e (a - 1)))) → (lp_X5_factorAt_19 d x fl D e n w).1 = rfL fl (rl (rowC e) (S - a) a) pr := by
  intro n
  induction n with
  | zero => intro a w pr _ _ h; omega
  | succ n ih =>
    intro a w pr hw ha hn hp
    show (st_X5_factorAt_19 d x fl D e (lp_X5_factorAt_19 d x fl D e n) w).1 = _
    unfold st_X5_factorAt_19
    have iw : ix w = a := ix_of hw
    by_cases c1 : (e.1 0 0 8).toInt ≤ w.toInt
    · have e0 : S - a = 0 := by omega
      rw [cif_t c1, cif_t (show w.toInt = (e.1 0 0 8).toInt by omega), e0]
      rcases hp with ⟨h, _⟩ | ⟨_, rfl⟩
      · omega
      · show e.1 10 0 (ix ((e.1 0 0 8) - 1)) = (rowC e (a - 1)).2.2
        have t := ts1 (x := e.1 0 0 8) (by omega)
        rw [ix_of (x := (e.1 0 0 8) - 1) (k := a - 1) (by rw [t]; omega)]; rfl
    · rw [cif_f c1]
      obtain ⟨m, hm⟩ : ∃ m, S - a = m + 1 := ⟨S - a - 1, by omega⟩
      rw [hm, iw]
      show _ = cif ((e.1 9 0 a).toInt < fl.toInt) (rfL fl (rl (rowC e) m (a + 1)) (some (rowC e a))) (nxL fl (rowC e a) pr)
      by_cases c2 : fl.toInt ≤ (e.1 9 0 a).toInt
      · rw [cif_t c2, cif_f (show ¬ w.toInt = (e.1 0 0 8).toInt by omega), cif_f (show ¬ (e.1 9 0 a).toInt < fl.toInt by omega)]
        rcases hp with ⟨h, rfl⟩ | ⟨h, rfl⟩
        · rw [cif_t (show w.toInt = 0 by omega)]; rfl
        · rw [cif_f (show ¬ w.toInt = 0 by omega)]
          show _ = cif ((e.1 9 0 a).toInt = fl.toInt) (e.1 10 0 a) (itp (rowC e (a - 1)) (rowC e a) fl)
          by_cases c3 : (e.1 9 0 a).toInt = fl.toInt
          · rw [cif_t c3, cif_t c3]
          · rw [cif_f c3, cif_f c3]
            have t := ts1 (x := w) (by omega)
            rw [ix_of (x := w - 1) (k := a - 1) (by rw [t]; omega)]; rfl
      · rw [cif_f c2, cif_t (show (e.1 9 0 a).toInt < fl.toInt by omega)]
        have e1 := ti1 (x := w) (by omega)
        have em : m = S - (a + 1) := by omega
        rw [em]
        exact ih (a + 1) (w + 1) _ (by omega) (by omega) (by omega) (Or.inr ⟨by omega, by rw [Nat.add_sub_cancel]⟩)
theorem fa_M {d : Dt} {x fl D : Int32} (hx : 0 ≤ x.toInt ∧ x.toInt < 6) (h : 0 ≤ (d.1 3 0 (ix x)).toInt ∧ (d.1 3 0 (ix x)).toInt ≤ 12) : (sp_X5_factorAt d x fl D).1 = rfL fl (clM (sp_X5_findCurve d x D)) none := by
  have g := fc_pt (d := d) (y := D) hx h
  unfold sp_X5_factorAt
  generalize sp_X5_findCurve d x D = e at g
  have is := ix_int g.1
  by_cases c : (e.1 0 0 8).toInt = 0
  · rw [cif_t c]
    unfold clM
    rw [show ix (e.1 0 0 8) = 0 by omega]; rfl
  · rw [cif_f c]
    exact f19_l (S := ix (e.1 0 0 8)) is.symm (by omega) (by omega) 16 0 0 none rfl (Nat.zero_le _) (by omega) (Or.inl ⟨rfl, rfl⟩)
