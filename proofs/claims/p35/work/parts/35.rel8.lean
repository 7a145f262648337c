/-! ===== the answers: lines beyond, what explains, what is told ===== -/
section R8S
variable {M T : Nat} {d τ : Dt}
/-- a line's imbalance is beyond its ends -/
def bey (i e : Int64) : Prop := ¬ (-(e.toInt) ≤ i.toInt ∧ i.toInt ≤ e.toInt)
theorem bey_X {i e : Int64} (h : -4800000000000240 ≤ i.toInt ∧ i.toInt ≤ 4800000000000240) : ((if 0 < i then i else -i).toInt ≤ e.toInt) ↔ ¬ bey i e := by
  unfold bey
  have l1 : (0 < i) ↔ (0 : Int64).toInt < i.toInt := Int64.lt_iff_toInt_lt
  rw [Int64.toInt_zero] at l1
  have en : (-i).toInt = -i.toInt := by
    rw [Int64.toInt_neg]; exact bm64 (by omega) (by omega)
  by_cases c : 0 < i
  · rw [if_pos c]
    have := l1.mp c
    omega
  · rw [if_neg c, en]
    have := fun z => c (l1.mpr z)
    have := Int.not_lt.mp this
    omega
theorem bey_M {i e : Int64} (h : 0 ≤ e.toInt) : sp_X5_in i (-e) e ↔ ¬ bey i e := by
  unfold bey
  have en : (-e).toInt = -e.toInt := by
    have := e.toInt_lt
    rw [Int64.toInt_neg]; exact bm64 (by omega) (by omega)
  rw [in_iff, en]; omega
theorem lb_l (h : R2 d τ) (f to : Int32) : ∀ (n : Nat) (x b : Int32), 0 ≤ x.toInt → x.toInt ≤ 4 → 4 - x.toInt < (n : Int) → lp_X4_linesBeyond_5 d f to n x b = lp_X5_beyondOf_5 τ f to n x b := by
  intro n
  induction n with
  | zero => intro x b h0 h1 h2; omega
  | succ n ih =>
    intro x b h0 h1 h2
    show st_X4_linesBeyond_5 d f to (lp_X4_linesBeyond_5 d f to n) x b = st_X5_beyondOf_5 τ f to (lp_X5_beyondOf_5 τ f to n) x b
    unfold st_X4_linesBeyond_5 st_X5_beyondOf_5
    refine cif_c (fun _ => rfl) (fun c => ?_)
    have e1 := ti1 (x := x) (by omega)
    have gi := imb_e h h0 (by omega) f to
    have ge := end_e h h0 (by omega) f to
    rw [← gi.1, ← ge.1, propext (bey_X (e := sp_X4_endsOf d x f to) (by have := gi.2; omega)), propext (bey_M (i := sp_X4_imbalanceOf d x f to) ge.2.1), Int32.or_zero]
    exact cif_c (fun _ => ih _ _ (by omega) (by omega) (by omega)) (fun _ => ih _ _ (by omega) (by omega) (by omega))
theorem lb_e (h : R2 d τ) (f to : Int32) : sp_X4_linesBeyond d f to = sp_X5_beyondOf τ f to := lb_l h f to 16 0 0 (by decide) (by decide) (by decide)
theorem a2_beyond (h : R2 d τ) (a b : Int32) : sp_X4_beyond d a b = sp_X5_beyond τ a b := by
  unfold sp_X4_beyond sp_X5_beyond
  rw [areDays_e, lb_e h]
/-- the bits, of which lines are beyond -/
def bitsB (b0 b1 b2 b3 : Bool) : Int32 := (((if b0 then 1 else 0) ||| (if b1 then 2 else 0)) ||| (if b2 then 4 else 0)) ||| (if b3 then 8 else 0)
theorem bits_l (B : Int32 → Bool) : bitsB (B 0) (B 1) (B 2) (B 3) = 0 ↔ (∀ x : Int32, 0 ≤ x.toInt → x.toInt < 4 → B x = false) := by
  have key : ∀ b0 b1 b2 b3 : Bool, bitsB b0 b1 b2 b3 = 0 ↔ b0 = false ∧ b1 = false ∧ b2 = false ∧ b3 = false := by decide +kernel
  rw [key]
  constructor
  · rintro ⟨h0, h1, h2, h3⟩ x x0 x4
    have hx : x = 0 ∨ x = 1 ∨ x = 2 ∨ x = 3 := by
      have : x.toInt = 0 ∨ x.toInt = 1 ∨ x.toInt = 2 ∨ x.toInt = 3 := by omega
      rcases this with e | e | e | e
      · exact Or.inl (Int32.toInt_inj.mp e)
      · exact Or.inr (Or.inl (Int32.toInt_inj.mp e))
      · exact Or.inr (Or.inr (Or.inl (Int32.toInt_inj.mp e)))
      · exact Or.inr (Or.inr (Or.inr (Int32.toInt_inj.mp e)))
    rcases hx with rfl | rfl | rfl | rfl
    · exact h0
    · exact h1
    · exact h2
    · exact h3
  · intro h
    exact ⟨h 0 (by decide) (by decide), h 1 (by decide) (by decide), h 2 (by decide) (by decide), h 3 (by decide) (by decide)⟩
theorem bit_at (B : Int32 → Bool) {x : Int32} (x0 : 0 ≤ x.toInt) (x4 : x.toInt < 4) : (((bitsB (B 0) (B 1) (B 2) (B 3) >>> (x &&& 31)) &&& 1).toInt = 1) ↔ B x = true := by
  have k0 : ∀ b0 b1 b2 b3 : Bool, (((bitsB b0 b1 b2 b3 >>> ((0 : Int32) &&& 31)) &&& 1).toInt = 1) ↔ b0 = true := by decide +kernel
  have k1 : ∀ b0 b1 b2 b3 : Bool, (((bitsB b0 b1 b2 b3 >>> ((1 : Int32) &&& 31)) &&& 1).toInt = 1) ↔ b1 = true := by decide +kernel
  have k2 : ∀ b0 b1 b2 b3 : Bool, (((bitsB b0 b1 b2 b3 >>> ((2 : Int32) &&& 31)) &&& 1).toInt = 1) ↔ b2 = true := by decide +kernel
  have k3 : ∀ b0 b1 b2 b3 : Bool, (((bitsB b0 b1 b2 b3 >>> ((3 : Int32) &&& 31)) &&& 1).toInt = 1) ↔ b3 = true := by decide +kernel
  have : x.toInt = 0 ∨ x.toInt = 1 ∨ x.toInt = 2 ∨ x.toInt = 3 := by omega
  rcases this with e | e | e | e
  · have e : x = 0 := Int32.toInt_inj.mp e
    subst e; exact k0 _ _ _ _
  · have e : x = 1 := Int32.toInt_inj.mp e
    subst e; exact k1 _ _ _ _
  · have e : x = 2 := Int32.toInt_inj.mp e
    subst e; exact k2 _ _ _ _
  · have e : x = 3 := Int32.toInt_inj.mp e
    subst e; exact k3 _ _ _ _
noncomputable def BX (d : Dt) (f to : Int32) (x : Int32) : Bool := @decide (bey (sp_X4_imbalanceOf d x f to) (sp_X4_endsOf d x f to)) (Classical.propDecidable _)
theorem BX_t {d : Dt} {f to x : Int32} : BX d f to x = true ↔ bey (sp_X4_imbalanceOf d x f to) (sp_X4_endsOf d x f to) := by unfold BX; exact @decide_eq_true_iff _ (Classical.propDecidable _)
theorem lb_bits (h : R2 d τ) (f to : Int32) : sp_X4_linesBeyond d f to = bitsB (BX d f to 0) (BX d f to 1) (BX d f to 2) (BX d f to 3) := by
  have st : ∀ (n : Nat) (x b : Int32), 0 ≤ x.toInt → x.toInt < 4 → lp_X4_linesBeyond_5 d f to (n + 1) x b = lp_X4_linesBeyond_5 d f to n (x + 1) (if BX d f to x = true then b ||| (1 <<< (x &&& 31)) else b) := fun n x b h0 h1 => by
    show cif (4 ≤ x.toInt) b (cif ((if 0 < (sp_X4_imbalanceOf d x f to) then (sp_X4_imbalanceOf d x f to) else -(sp_X4_imbalanceOf d x f to)).toInt ≤ (sp_X4_endsOf d x f to).toInt) (lp_X4_linesBeyond_5 d f to n (x + 1) b) (lp_X4_linesBeyond_5 d f to n (x + 1) (b ||| (1 <<< (x &&& 31))))) = _
    have gi := imb_e h h0 h1 f to
    rw [cif_f (by omega), propext (bey_X (e := sp_X4_endsOf d x f to) (by have := gi.2; omega))]
    by_cases c : bey (sp_X4_imbalanceOf d x f to) (sp_X4_endsOf d x f to)
    · rw [cif_f (fun z => z c), if_pos (BX_t.mpr c)]
    · rw [cif_t c, if_neg (fun z => c (BX_t.mp z))]
  have key : ∀ b0 b1 b2 b3 : Bool, (if b3 = true then (if b2 = true then (if b1 = true then (if b0 = true then (0 : Int32) ||| (1 <<< ((0 : Int32) &&& 31)) else 0) ||| (1 <<< ((0 + 1 : Int32) &&& 31)) else (if b0 = true then (0 : Int32) ||| (1 <<< ((0 : Int32) &&& 31)) else 0)) ||| (1 <<< ((0 + 1 + 1 : Int32) &&& 31)) else (if b1 = true then (if b0 = true then (0 : Int32) ||| (1 <<< ((0 : Int32) &&& 31)) else 0) ||| (1 <<< ((0 + 1 : Int32) &&& 31)) else (if b0 = true then (0 : Int32) ||| (1 <<< ((0 : Int32) &&& 31)) else 0))) ||| (1 <<< ((0 + 1 + 1 + 1 : Int32) &&& 31)) else (if b2 = true then (if b1 = true then (if b0 = true then (0 : Int32) ||| (1 <<< ((0 : Int32) &&& 31)) else 0) ||| (1 <<< ((0 + 1 : Int32) &&& 31)) else (if b0 = true then (0 : Int32) ||| (1 <<< ((0 : Int32) &&& 31)) else 0)) ||| (1 <<< ((0 + 1 + 1 : Int32) &&& 31)) else (if b1 = true then (if b0 = true then (0 : Int32) ||| (1 <<< ((0 : Int32) &&& 31)) else 0) ||| (1 <<< ((0 + 1 : Int32) &&& 31)) else (if b0 = true then (0 : Int32) ||| (1 <<< ((0 : Int32) &&& 31)) else 0)))) = bitsB b0 b1 b2 b3 := by decide +kernel
  show lp_X4_linesBeyond_5 d f to (11 + 1 + 1 + 1 + 1 + 1) 0 0 = _
  rw [st _ 0 0 (by decide) (by decide), st _ (0 + 1) _ (by decide) (by decide), st _ (0 + 1 + 1) _ (by decide) (by decide), st _ (0 + 1 + 1 + 1) _ (by decide) (by decide)]
  rw [show lp_X4_linesBeyond_5 d f to (11 + 1) (0 + 1 + 1 + 1 + 1) _ = _ from cif_t (by decide)]
  exact key (BX d f to 0) (BX d f to 1) (BX d f to 2) (BX d f to 3)
/-- no line is beyond: nothing explains -/
theorem ex_0 (m : Int32) (f to : Int32) : ∀ (n : Nat) (x : Int32) (a b : Int64), lp_X4_explains_41 d m f to 0 n x a b = 0 := by
  intro n
  induction n with
  | zero => intro x a b; rfl
  | succ n ih =>
    intro x a b
    show st_X4_explains_41 d m f to 0 (lp_X4_explains_41 d m f to 0 n) x a b = 0
    unfold st_X4_explains_41
    rw [cif_t (show (0 : Int32).toInt = 0 from rfl)]
    simp only [ih]
    rw [cif_s, cif_s, cif_s]
def FARX : Int64 := 1152921504606846976
def FARM : Int64 := 4000000000000000000
theorem neg32 {x : Int32} (h : -1 ≤ x.toInt ∧ x.toInt ≤ 1) : (-x).toInt = -x.toInt := by
  rw [Int32.toInt_neg]; exact bm32 (by omega) (by omega)
theorem mn_le (a hi : Int64) : (if hi < a then hi else a).toInt ≤ a.toInt ∧ (if hi < a then hi else a).toInt ≤ hi.toInt ∧ ((if hi < a then hi else a) = a ∨ (if hi < a then hi else a) = hi) := by
  have l1 : (hi < a) ↔ hi.toInt < a.toInt := Int64.lt_iff_toInt_lt
  by_cases c : hi < a
  · rw [if_pos c]; have := l1.mp c; exact ⟨by omega, by omega, Or.inr rfl⟩
  · rw [if_neg c]; have := Int.not_lt.mp (fun z => c (l1.mpr z)); exact ⟨by omega, by omega, Or.inl rfl⟩
theorem mx_le (b lo : Int64) : b.toInt ≤ (if lo < b then b else lo).toInt ∧ lo.toInt ≤ (if lo < b then b else lo).toInt ∧ ((if lo < b then b else lo) = b ∨ (if lo < b then b else lo) = lo) := by
  have l1 : (lo < b) ↔ lo.toInt < b.toInt := Int64.lt_iff_toInt_lt
  by_cases c : lo < b
  · rw [if_pos c]; have := l1.mp c; exact ⟨by omega, by omega, Or.inl rfl⟩
  · rw [if_neg c]; have := Int.not_lt.mp (fun z => c (l1.mpr z)); exact ⟨by omega, by omega, Or.inr rfl⟩
theorem selM {α : Type} (rec : Int64 → Int64 → α) (a b hi lo : Int64) : cif (lo.toInt ≤ b.toInt) (cif (a.toInt ≤ hi.toInt) (rec a b) (rec hi b)) (cif (a.toInt ≤ hi.toInt) (rec a lo) (rec hi lo)) = rec (if hi < a then hi else a) (if lo < b then b else lo) := by
  have l1 : (hi < a) ↔ hi.toInt < a.toInt := Int64.lt_iff_toInt_lt
  have l2 : (lo < b) ↔ lo.toInt < b.toInt := Int64.lt_iff_toInt_lt
  have e2 : (if lo < b then b else lo) = cif (lo.toInt ≤ b.toInt) b lo := by
    by_cases q : lo.toInt ≤ b.toInt
    · rw [cif_t q]
      by_cases q2 : lo < b
      · rw [if_pos q2]
      · rw [if_neg q2]; exact Int64.toInt_inj.mp (by have := Int.not_lt.mp (fun z => q2 (l2.mpr z)); omega)
    · rw [cif_f q, if_neg (fun z => q (by have := l2.mp z; omega))]
  have e1 : (if hi < a then hi else a) = cif (a.toInt ≤ hi.toInt) a hi := by
    by_cases q : a.toInt ≤ hi.toInt
    · rw [cif_t q, if_neg (fun z => by have := l1.mp z; omega)]
    · rw [cif_f q, if_pos (l1.mpr (by omega))]
  rw [e1, e2]
  by_cases q1 : lo.toInt ≤ b.toInt
  · rw [cif_t q1, cif_t q1]
    by_cases q2 : a.toInt ≤ hi.toInt
    · rw [cif_t q2, cif_t q2]
    · rw [cif_f q2, cif_f q2]
  · rw [cif_f q1, cif_f q1]
    by_cases q2 : a.toInt ≤ hi.toInt
    · rw [cif_t q2, cif_t q2]
    · rw [cif_f q2, cif_f q2]
theorem ex_l (h : R2 d τ) {m : Int32} (m0 : 0 ≤ m.toInt) (mc : m.toInt < (d.1 0 0 1).toInt) (f to bits : Int32) (hb0 : ¬ bits.toInt = 0) (hbit : ∀ x : Int32, 0 ≤ x.toInt → x.toInt < 4 → ((((bits >>> (x &&& 31)) &&& 1).toInt = 1) ↔ bey (sp_X4_imbalanceOf d x f to) (sp_X4_endsOf d x f to))) (hsome : ∃ l : Int32, 0 ≤ l.toInt ∧ l.toInt < 4 ∧ bey (sp_X4_imbalanceOf d l f to) (sp_X4_endsOf d l f to)) : ∀ (n : Nat) (x : Int32) (a b a' b' : Int64), 0 ≤ x.toInt → x.toInt ≤ 4 → 4 - x.toInt < (n : Int) → ((a = 1152921504606846976 ∧ b = -1152921504606846976 ∧ a' = 4000000000000000000 ∧ b' = -4000000000000000000 ∧ ∀ l : Int32, 0 ≤ l.toInt → l.toInt < x.toInt → ¬ bey (sp_X4_imbalanceOf d l f to) (sp_X4_endsOf d l f to)) ∨ (a = a' ∧ b = b' ∧ ((∀ l : Int32, 0 ≤ l.toInt → l.toInt < x.toInt → ¬ bey (sp_X4_imbalanceOf d l f to) (sp_X4_endsOf d l f to)) ∨ 0 < b.toInt ∨ a.toInt < 0) ∧ (-6000000000000000 ≤ a.toInt ∧ a.toInt ≤ 6000000000000000) ∧ -6000000000000000 ≤ b.toInt ∧ b.toInt ≤ 6000000000000000)) → lp_X4_explains_41 d m f to bits n x a b = lp_X5_explains_44 τ m f to n x a' b' := by
  have c6 := h.2.2.2.2.2.2.1
  have im := ix_int m0
  have gm := (h.1.2.2.1 (ix m) (by omega)).1 (by omega)
  have gb := h.2.2.1 (ix m) (by omega) (by omega)
  intro n
  induction n with
  | zero => intro x a b a' b' h0 h1 h2; omega
  | succ n ih =>
    intro x a b a' b' h0 h1 h2 hI
    show st_X4_explains_41 d m f to bits (lp_X4_explains_41 d m f to bits n) x a b = st_X5_explains_44 τ m f to (lp_X5_explains_44 τ m f to n) x a' b'
    unfold st_X4_explains_41 st_X5_explains_44
    by_cases c : 4 ≤ x.toInt
    · rw [cif_t c, cif_t c, cif_f hb0]
      obtain ⟨l, l0, l4, hl⟩ := hsome
      rcases hI with ⟨_, _, _, _, g⟩ | ⟨rfl, rfl, g, _⟩
      · exact absurd hl (g l l0 (by omega))
      · have g : 0 < b.toInt ∨ a.toInt < 0 := by
          rcases g with g | g
          · exact absurd hl (g l l0 (by omega))
          · exact g
        refine cif_c (fun c1 => cif_c (fun c2 => ?_) (fun _ => rfl)) (fun _ => rfl)
        rw [cif_f (by omega)]
    · rw [cif_f c, cif_f c]
      have e1 := ti1 (x := x) (by omega)
      have ixx := ix_int h0
      have gi := imb_e h h0 (by omega) f to
      have ge := end_e h h0 (by omega) f to
      have hbx := hbit x h0 (by omega)
      rw [ix6 h0 (by omega) m0 (by omega), gm.2.2.2 (ix x) (by omega), ← gi.1, ← ge.1]
      have hh := gb.2.2.2 (ix x) (by omega)
      have gi2 := gi.2
      have ge2 := ge.2
      obtain ⟨I, eI⟩ : ∃ I, I = sp_X4_imbalanceOf d x f to := ⟨_, rfl⟩
      obtain ⟨E, eE⟩ : ∃ E, E = sp_X4_endsOf d x f to := ⟨_, rfl⟩
      rw [← eI, ← eE] at hbx
      rw [← eI] at gi2
      rw [← eE] at ge2
      rw [← eI, ← eE]
      have atx : ∀ l : Int32, 0 ≤ l.toInt → l.toInt < (x + 1).toInt → ¬ l.toInt < x.toInt → l = x := fun l g1 g2 g3 => Int32.toInt_inj.mp (by omega)
      have ext : (∀ l : Int32, 0 ≤ l.toInt → l.toInt < x.toInt → ¬ bey (sp_X4_imbalanceOf d l f to) (sp_X4_endsOf d l f to)) → ¬ bey I E → ∀ l : Int32, 0 ≤ l.toInt → l.toInt < (x + 1).toInt → ¬ bey (sp_X4_imbalanceOf d l f to) (sp_X4_endsOf d l f to) := fun g gx l g1 g2 => by
        by_cases z : l.toInt < x.toInt
        · exact g l g1 z
        · rw [atx l g1 g2 z, ← eI, ← eE]; exact gx
      by_cases c1 : (d.1 9 (ix m) (ix x)).toInt = 0
      · rw [cif_t c1, cif_t c1, propext hbx, propext (bey_M (i := I) ge2.1)]
        by_cases c2 : bey I E
        · rw [cif_t c2, cif_f (fun z => z c2)]
        · rw [cif_f c2, cif_t c2]
          refine ih (x + 1) a b a' b' (by omega) (by omega) (by omega) ?_
          rcases hI with ⟨g1, g2, g3, g4, g⟩ | ⟨g1, g2, g, gB⟩
          · exact Or.inl ⟨g1, g2, g3, g4, ext g c2⟩
          · refine Or.inr ⟨g1, g2, ?_, gB⟩
            rcases g with g | g
            · exact Or.inl (ext g c2)
            · exact Or.inr g
      · rw [cif_f c1, cif_f c1]
        obtain ⟨H, eH⟩ : ∃ H, H = (d.1 9 (ix m) (ix x)).toInt := ⟨_, rfl⟩
        have hH : H = 1 ∨ H = -1 := by omega
        have n1 : (-(d.1 9 (ix m) (ix x))).toInt = -H := by rw [neg32 hh, eH]
        have hmul : -H * I.toInt = I.toInt ∨ -H * I.toInt = -I.toInt := by
          rcases hH with e | e <;> rw [e] <;> omega
        have n2 : (((-(d.1 9 (ix m) (ix x))).toInt64) * I).toInt = -H * I.toInt := by rw [tl_mul (by rw [t64, n1]; omega) (by rw [t64, n1]; omega), t64, n1]
        have nhi : ((((-(d.1 9 (ix m) (ix x))).toInt64) * I) + E).toInt = -H * I.toInt + E.toInt := by rw [tl_add (by rw [n2]; omega) (by rw [n2]; omega), n2]
        have nlo : ((((-(d.1 9 (ix m) (ix x))).toInt64) * I) - E).toInt = -H * I.toInt - E.toInt := by rw [tl_sub (by rw [n2]; omega) (by rw [n2]; omega), n2]
        have nE : (-E).toInt = -E.toInt := by rw [Int64.toInt_neg]; exact bm64 (by omega) (by omega)
        have rhs : cif ((d.1 9 (ix m) (ix x)).toInt ≤ 0) (cif ((I - E).toInt ≤ b'.toInt) (cif (a'.toInt ≤ (I + E).toInt) (lp_X5_explains_44 τ m f to n (x + 1) a' b') (lp_X5_explains_44 τ m f to n (x + 1) (I + E) b')) (cif (a'.toInt ≤ (I + E).toInt) (lp_X5_explains_44 τ m f to n (x + 1) a' (I - E)) (lp_X5_explains_44 τ m f to n (x + 1) (I + E) (I - E)))) (cif (((-E) - I).toInt ≤ b'.toInt) (cif (a'.toInt ≤ (E - I).toInt) (lp_X5_explains_44 τ m f to n (x + 1) a' b') (lp_X5_explains_44 τ m f to n (x + 1) (E - I) b')) (cif (a'.toInt ≤ (E - I).toInt) (lp_X5_explains_44 τ m f to n (x + 1) a' ((-E) - I)) (lp_X5_explains_44 τ m f to n (x + 1) (E - I) ((-E) - I)))) = lp_X5_explains_44 τ m f to n (x + 1) (if ((((-(d.1 9 (ix m) (ix x))).toInt64) * I) + E) < a' then ((((-(d.1 9 (ix m) (ix x))).toInt64) * I) + E) else a') (if ((((-(d.1 9 (ix m) (ix x))).toInt64) * I) - E) < b' then b' else ((((-(d.1 9 (ix m) (ix x))).toInt64) * I) - E)) := by
          rcases hH with e | e
          · have z1 : (-E) - I = (((-(d.1 9 (ix m) (ix x))).toInt64) * I) - E := Int64.toInt_inj.mp (by rw [nlo, tl_sub (by rw [nE]; omega) (by rw [nE]; omega), nE, e]; omega)
            have z2 : E - I = (((-(d.1 9 (ix m) (ix x))).toInt64) * I) + E := Int64.toInt_inj.mp (by rw [nhi, tl_sub (by omega) (by omega), e]; omega)
            rw [cif_f (by omega), z1, z2]; exact selM _ _ _ _ _
          · have z1 : I - E = (((-(d.1 9 (ix m) (ix x))).toInt64) * I) - E := Int64.toInt_inj.mp (by rw [nlo, tl_sub (by omega) (by omega), e]; omega)
            have z2 : I + E = (((-(d.1 9 (ix m) (ix x))).toInt64) * I) + E := Int64.toInt_inj.mp (by rw [nhi, tl_add (by omega) (by omega), e]; omega)
            rw [cif_t (by omega), z1, z2]; exact selM _ _ _ _ _
        rw [rhs]
        have hbey : bey I E → 0 < -H * I.toInt - E.toInt ∨ -H * I.toInt + E.toInt < 0 := fun z => by
          unfold bey at z
          rcases hH with e | e <;> rw [e] <;> omega
        generalize ((-(d.1 9 (ix m) (ix x))).toInt64) * I + E = hi at nhi ⊢
        generalize ((-(d.1 9 (ix m) (ix x))).toInt64) * I - E = lo at nlo ⊢
        have q1 := mn_le a hi
        have q2 := mx_le b lo
        refine ih (x + 1) _ _ _ _ (by omega) (by omega) (by omega) (Or.inr ?_)
        rcases hI with ⟨rfl, rfl, rfl, rfl, g⟩ | ⟨rfl, rfl, g, gB1, gB2⟩
        · have l0 : (1152921504606846976 : Int64).toInt = 1152921504606846976 := rfl
          have l1 : (-1152921504606846976 : Int64).toInt = -1152921504606846976 := rfl
          have l2 : (4000000000000000000 : Int64).toInt = 4000000000000000000 := rfl
          have l3 : (-4000000000000000000 : Int64).toInt = -4000000000000000000 := rfl
          have w0 : (if hi < (1152921504606846976 : Int64) then hi else 1152921504606846976) = hi := if_pos (Int64.lt_iff_toInt_lt.mpr (by rw [l0]; omega))
          have w1 : (if lo < (-1152921504606846976 : Int64) then -1152921504606846976 else lo) = lo := if_neg (fun z => by have := Int64.lt_iff_toInt_lt.mp z; rw [l1] at this; omega)
          have w2 : (if hi < (4000000000000000000 : Int64) then hi else 4000000000000000000) = hi := if_pos (Int64.lt_iff_toInt_lt.mpr (by rw [l2]; omega))
          have w3 : (if lo < (-4000000000000000000 : Int64) then -4000000000000000000 else lo) = lo := if_neg (fun z => by have := Int64.lt_iff_toInt_lt.mp z; rw [l3] at this; omega)
          rw [w0, w1, w2, w3]
          refine ⟨rfl, rfl, ?_, by omega, by omega⟩
          by_cases z : bey I E
          · have := hbey z; exact Or.inr (by omega)
          · exact Or.inl (ext g z)
        · refine ⟨rfl, rfl, ?_, ?_, ?_⟩
          · by_cases z : bey I E
            · have := hbey z; exact Or.inr (by omega)
            · rcases g with g | g
              · exact Or.inl (ext g z)
              · exact Or.inr (by omega)
          · rcases q1.2.2 with y | y <;> rw [y] <;> omega
          · rcases q2.2.2 with y | y <;> rw [y] <;> omega
theorem a2_explains (h : R2 d τ) (iX : XI M T d) (m f to : Int32) : sp_X4_explains d m f to = sp_X5_explains τ m f to := by
  unfold sp_X4_explains sp_X5_explains
  rw [h.1.nm iX, cif_n, areDays_e, ← lb_e h]
  refine cif_c (fun c1 => cif_c (fun _ => ?_) (fun _ => rfl)) (fun _ => rfl)
  have f1 := im_of iX c1
  have fM := iX.1
  have hbits := lb_bits h f to
  by_cases c : (sp_X4_linesBeyond d f to).toInt = 0
  · have e : sp_X4_linesBeyond d f to = 0 := Int32.toInt_inj.mp c
    rw [cif_t c, e]; exact ex_0 _ _ _ _ _ _ _
  · rw [cif_f c]
    refine ex_l h f1.1 (by omega) f to _ c (fun x x0 x4 => ?_) ?_ 16 0 _ _ _ _ (by decide) (by decide) (by decide) (Or.inl ⟨rfl, rfl, rfl, rfl, fun l g1 g2 => by rw [Int32.toInt_zero] at g2; omega⟩)
    · rw [hbits, bit_at (BX d f to) x0 x4, BX_t]
    · have e : ¬ bitsB (BX d f to 0) (BX d f to 1) (BX d f to 2) (BX d f to 3) = 0 := fun z => c (by rw [hbits, z]; rfl)
      rw [bits_l (BX d f to)] at e
      apply Classical.byContradiction
      intro g
      refine e (fun x x0 x4 => ?_)
      cases hx : BX d f to x with
      | false => rfl
      | true => exact absurd ⟨x, x0, x4, BX_t.mp hx⟩ g
end R8S
