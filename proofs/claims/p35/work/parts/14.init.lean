def adX0 (h0 q1 q2 q3 q4 q5 q6 q7 q8 q9 q10 q11 q12 q13 : Nat) (k i : Nat) : Nat := match k with
  | 0 => h0 | 1 => q1 | 2 => q2 | 3 => q3 | 4 => q4 | 5 => q5
  | 6 => (match i with | 0 => q6 | 1 => q8 | 2 => q10 | _ => q12)
  | 7 => (match i with | 0 => q7 | 1 => q9 | 2 => q11 | _ => q13)
  | _ => 0
def psX0 (k i : Nat) : Nat := match k with
  | 6 => 6 + 2 * i | 7 => 7 + 2 * i | k => k
def ivX0 (p : Nat) : Nat × Nat := match p with
  | 6 => (6, 0) | 7 => (7, 0) | 8 => (6, 1) | 9 => (7, 1) | 10 => (6, 2) | 11 => (7, 2) | 12 => (6, 3) | 13 => (7, 3) | p => (p, 0)
def d0X : Dt := (fun k _ j => match k with
  | 0 => (match j with | 5 => -9 | _ => 0)
  | _ => 0, fun _ _ _ => 0)
theorem XN_iv {k i : Nat} (h : i < XN 0 0 k) : ivX0 (psX0 k i) = (k, i) := by
  match k, h with
  | 0, h => have e : i = 0 := Nat.lt_one_iff.mp h
            subst e; rfl
  | 1, h => have e : i = 0 := Nat.lt_one_iff.mp h
            subst e; rfl
  | 2, h => have e : i = 0 := Nat.lt_one_iff.mp h
            subst e; rfl
  | 3, h => have e : i = 0 := Nat.lt_one_iff.mp h
            subst e; rfl
  | 4, h => have e : i = 0 := Nat.lt_one_iff.mp h
            subst e; rfl
  | 5, h => have e : i = 0 := Nat.lt_one_iff.mp h
            subst e; rfl
  | 6, h => match i, h with
    | 0, _ => rfl
    | 1, _ => rfl
    | 2, _ => rfl
    | 3, _ => rfl
    | n + 4, h => exact absurd (show n + 4 < 4 from h) (by omega)
  | 7, h => match i, h with
    | 0, _ => rfl
    | 1, _ => rfl
    | 2, _ => rfl
    | 3, _ => rfl
    | n + 4, h => exact absurd (show n + 4 < 4 from h) (by omega)
  | 8, h => exact absurd h (Nat.not_lt_zero _)
  | 9, h => exact absurd h (Nat.not_lt_zero _)
  | 10, h => exact absurd h (Nat.not_lt_zero _)
  | 11, h => exact absurd h (Nat.not_lt_zero _)
  | 12, h => exact absurd h (Nat.not_lt_zero _)
  | 13, h => exact absurd h (Nat.not_lt_zero _)
  | n + 14, h => exact absurd h (Nat.not_lt_zero _)
theorem sheets4 (h0 q1 q2 q3 q4 q5 q6 q7 q8 q9 q10 q11 q12 q13 : Nat) : (va_up (va_up (va_up (va_up (fun _ => none) (ix 0) (some q6)) (ix 1) (some q8)) (ix 2) (some q10)) (ix 3) (some q12)) = (fun j => if j < 4 then some ((adX0 h0 q1 q2 q3 q4 q5 q6 q7 q8 q9 q10 q11 q12 q13) 6 j) else none) := by
  funext j
  match j with
  | 0 => rfl
  | 1 => rfl
  | 2 => rfl
  | 3 => rfl
  | n + 4 =>
    rw [if_neg (by omega)]
    rw [va_up_ne _ _ (by show n + 4 ≠ 3; omega), va_up_ne _ _ (by show n + 4 ≠ 2; omega), va_up_ne _ _ (by show n + 4 ≠ 1; omega), va_up_ne _ _ (by show n + 4 ≠ 0; omega)]
theorem atX0 (G : Gc) (h0 q1 q2 q3 q4 q5 q6 q7 q8 q9 q10 q11 q12 q13 : Nat) (k i : Nat) (h : i < XN 0 0 k) : ([(h0, .inr (4, [.ref q1, .int 0, .ref q2, .ref q4, .int 0, .int (-9), .ref q5, .int 0, .int 0])), (q1, .inl (G.2.2.1, 6, .inr (.inr (.inr (.inr (fun _ => none)))))), (q2, .inr (1, [.int 0, .int 0, .int 0, .int 0, .ref q3, .int 0])), (q3, .inl (G.2.1, 12, .inr (.inl (fun _ => 0)))), (q4, .inl (G.2.2.2.2, 40, .inr (.inr (.inr (.inr (fun _ => none)))))), (q5, .inl (G.2.2.2.1, 4, .inr (.inr (.inr (.inr (va_up (va_up (va_up (va_up (fun _ => none) (ix 0) (some q6)) (ix 1) (some q8)) (ix 2) (some q10)) (ix 3) (some q12))))))), (q6, .inr (2, [.ref q7, .int 0, .int 0, .int 0])), (q7, .inl (G.1, 60, .inl (fun _ => 0))), (q8, .inr (2, [.ref q9, .int 0, .int 0, .int 0])), (q9, .inl (G.1, 60, .inl (fun _ => 0))), (q10, .inr (2, [.ref q11, .int 0, .int 0, .int 0])), (q11, .inl (G.1, 60, .inl (fun _ => 0))), (q12, .inr (2, [.ref q13, .int 0, .int 0, .int 0])), (q13, .inl (G.1, 60, .inl (fun _ => 0)))] : va_W)[psX0 k i]? = some ((adX0 h0 q1 q2 q3 q4 q5 q6 q7 q8 q9 q10 q11 q12 q13) k i, XF G 0 0 (adX0 h0 q1 q2 q3 q4 q5 q6 q7 q8 q9 q10 q11 q12 q13) k i (d0X.1 k i) (d0X.2 k i)) := by
  match k, h with
  | 0, h => have e : i = 0 := Nat.lt_one_iff.mp h
            subst e
            rfl
  | 1, h => have e : i = 0 := Nat.lt_one_iff.mp h
            subst e
            exact congrArg (fun f : Nat → Option Nat => some ((q1 : Nat), (.inl (G.2.2.1, 6, .inr (.inr (.inr (.inr f)))) : va_E))) (by funext j; exact (if_neg (Nat.not_lt_zero j)).symm)
  | 2, h => have e : i = 0 := Nat.lt_one_iff.mp h
            subst e
            rfl
  | 3, h => have e : i = 0 := Nat.lt_one_iff.mp h
            subst e
            rfl
  | 4, h => have e : i = 0 := Nat.lt_one_iff.mp h
            subst e
            exact congrArg (fun f : Nat → Option Nat => some ((q4 : Nat), (.inl (G.2.2.2.2, 40, .inr (.inr (.inr (.inr f)))) : va_E))) (by funext j; exact (if_neg (Nat.not_lt_zero j)).symm)
  | 5, h => have e : i = 0 := Nat.lt_one_iff.mp h
            subst e
            exact congrArg (fun f : Nat → Option Nat => some ((q5 : Nat), (.inl (G.2.2.2.1, 4, .inr (.inr (.inr (.inr f)))) : va_E))) (sheets4 h0 q1 q2 q3 q4 q5 q6 q7 q8 q9 q10 q11 q12 q13)
  | 6, h => match i, h with
    | 0, _ => rfl
    | 1, _ => rfl
    | 2, _ => rfl
    | 3, _ => rfl
    | n + 4, h => exact absurd (show n + 4 < 4 from h) (by omega)
  | 7, h => match i, h with
    | 0, _ => rfl
    | 1, _ => rfl
    | 2, _ => rfl
    | 3, _ => rfl
    | n + 4, h => exact absurd (show n + 4 < 4 from h) (by omega)
  | 8, h => exact absurd h (Nat.not_lt_zero _)
  | 9, h => exact absurd h (Nat.not_lt_zero _)
  | 10, h => exact absurd h (Nat.not_lt_zero _)
  | 11, h => exact absurd h (Nat.not_lt_zero _)
  | 12, h => exact absurd h (Nat.not_lt_zero _)
  | 13, h => exact absurd h (Nat.not_lt_zero _)
  | n + 14, h => exact absurd h (Nat.not_lt_zero _)
theorem initX {D : va_G} {G : Gc} {A : Nat → Prop} {H : Heap} {h0 q1 q2 q3 q4 q5 q6 q7 q8 q9 q10 q11 q12 q13 : Nat} (hP : va_P D vwCl [(h0, .inr (4, [.ref q1, .int 0, .ref q2, .ref q4, .int 0, .int (-9), .ref q5, .int 0, .int 0])), (q1, .inl (G.2.2.1, 6, .inr (.inr (.inr (.inr (fun _ => none)))))), (q2, .inr (1, [.int 0, .int 0, .int 0, .int 0, .ref q3, .int 0])), (q3, .inl (G.2.1, 12, .inr (.inl (fun _ => 0)))), (q4, .inl (G.2.2.2.2, 40, .inr (.inr (.inr (.inr (fun _ => none)))))), (q5, .inl (G.2.2.2.1, 4, .inr (.inr (.inr (.inr (va_up (va_up (va_up (va_up (fun _ => none) (ix 0) (some q6)) (ix 1) (some q8)) (ix 2) (some q10)) (ix 3) (some q12))))))), (q6, .inr (2, [.ref q7, .int 0, .int 0, .int 0])), (q7, .inl (G.1, 60, .inl (fun _ => 0))), (q8, .inr (2, [.ref q9, .int 0, .int 0, .int 0])), (q9, .inl (G.1, 60, .inl (fun _ => 0))), (q10, .inr (2, [.ref q11, .int 0, .int 0, .int 0])), (q11, .inl (G.1, 60, .inl (fun _ => 0))), (q12, .inr (2, [.ref q13, .int 0, .int 0, .int 0])), (q13, .inl (G.1, 60, .inl (fun _ => 0)))] H) (hD : va_D A [(h0, .inr (4, [.ref q1, .int 0, .ref q2, .ref q4, .int 0, .int (-9), .ref q5, .int 0, .int 0])), (q1, .inl (G.2.2.1, 6, .inr (.inr (.inr (.inr (fun _ => none)))))), (q2, .inr (1, [.int 0, .int 0, .int 0, .int 0, .ref q3, .int 0])), (q3, .inl (G.2.1, 12, .inr (.inl (fun _ => 0)))), (q4, .inl (G.2.2.2.2, 40, .inr (.inr (.inr (.inr (fun _ => none)))))), (q5, .inl (G.2.2.2.1, 4, .inr (.inr (.inr (.inr (va_up (va_up (va_up (va_up (fun _ => none) (ix 0) (some q6)) (ix 1) (some q8)) (ix 2) (some q10)) (ix 3) (some q12))))))), (q6, .inr (2, [.ref q7, .int 0, .int 0, .int 0])), (q7, .inl (G.1, 60, .inl (fun _ => 0))), (q8, .inr (2, [.ref q9, .int 0, .int 0, .int 0])), (q9, .inl (G.1, 60, .inl (fun _ => 0))), (q10, .inr (2, [.ref q11, .int 0, .int 0, .int 0])), (q11, .inl (G.1, 60, .inl (fun _ => 0))), (q12, .inr (2, [.ref q13, .int 0, .int 0, .int 0])), (q13, .inl (G.1, 60, .inl (fun _ => 0)))]) : ∃ ad : Nat → Nat → Nat, ad 0 0 = h0 ∧ PIC D (XF G 0 0 ad) (XN 0 0) ad d0X H ∧ ∀ q, adS (XN 0 0) ad q → A q := by
  refine ⟨(adX0 h0 q1 q2 q3 q4 q5 q6 q7 q8 q9 q10 q11 q12 q13), rfl, ⟨fun k i h => hP _ _ (atX0 G h0 q1 q2 q3 q4 q5 q6 q7 q8 q9 q10 q11 q12 q13 k i h), fun k i k' i' h h' e => ?_⟩, fun q hq => ?_⟩
  · have e1 := hD.1 _ _ _ _ (atX0 G h0 q1 q2 q3 q4 q5 q6 q7 q8 q9 q10 q11 q12 q13 k i h) (atX0 G h0 q1 q2 q3 q4 q5 q6 q7 q8 q9 q10 q11 q12 q13 k' i' h') e
    have e2 : (k, i) = (k', i') := by rw [← XN_iv h, ← XN_iv h', e1]
    exact ⟨congrArg Prod.fst e2, congrArg Prod.snd e2⟩
  · obtain ⟨k, i, h, rfl⟩ := hq
    exact hD.2 _ _ (atX0 G h0 q1 q2 q3 q4 q5 q6 q7 q8 q9 q10 q11 q12 q13 k i h)
def adM0 (h0 q1 q2 q3 q4 q5 q6 q7 q8 q9 q10 q11 q12 q13 q14 q15 q16 q17 q18 q19 q20 q21 q22 q23 : Nat) (k _i : Nat) : Nat := match k with
  | 0 => h0 | 2 => q1 | 3 => q2 | 4 => q3 | 5 => q4 | 6 => q5 | 7 => q6 | 9 => q7 | 10 => q8 | 11 => q9 | 16 => q10 | 18 => q11 | 19 => q12 | 20 => q13 | 21 => q14 | 22 => q15 | 23 => q16 | 24 => q17 | 25 => q18 | 27 => q19 | 28 => q20 | 29 => q21 | 30 => q22 | 31 => q23 | _ => 0
def psM0 (k : Nat) : Nat := match k with
  | 0 => 0 | 2 => 1 | 3 => 2 | 4 => 3 | 5 => 4 | 6 => 5 | 7 => 6 | 9 => 7 | 10 => 8 | 11 => 9 | 16 => 10 | 18 => 11 | 19 => 12 | 20 => 13 | 21 => 14 | 22 => 15 | 23 => 16 | 24 => 17 | 25 => 18 | 27 => 19 | 28 => 20 | 29 => 21 | 30 => 22 | 31 => 23 | _ => 0
def ivM0 (p : Nat) : Nat := match p with
  | 0 => 0 | 1 => 2 | 2 => 3 | 3 => 4 | 4 => 5 | 5 => 6 | 6 => 7 | 7 => 9 | 8 => 10 | 9 => 11 | 10 => 16 | 11 => 18 | 12 => 19 | 13 => 20 | 14 => 21 | 15 => 22 | 16 => 23 | 17 => 24 | 18 => 25 | 19 => 27 | 20 => 28 | 21 => 29 | 22 => 30 | 23 => 31 | _ => 0
def d0M : Dt := (fun k _ j => match k with
  | 0 => (match j with | 12 => -1 | 26 => -9 | _ => 0)
  | 28 => (upd (upd (upd (upd (fun _ => 0) (ix 0) (-1)) (ix 1) (-1)) (ix 2) (-1)) (ix 3) (-1)) j
  | _ => 0, fun _ _ _ => 0)
theorem MN_1 {k i : Nat} (h : i < MN k) : i = 0 := by
  unfold MN at h
  split at h <;> omega
theorem MN_iv {k i : Nat} (h : i < MN k) : ivM0 (psM0 k) = k := by
  match k, h with
  | 0, _ => rfl
  | 1, h => exact absurd h (Nat.not_lt_zero _)
  | 2, _ => rfl
  | 3, _ => rfl
  | 4, _ => rfl
  | 5, _ => rfl
  | 6, _ => rfl
  | 7, _ => rfl
  | 8, h => exact absurd h (Nat.not_lt_zero _)
  | 9, _ => rfl
  | 10, _ => rfl
  | 11, _ => rfl
  | 12, h => exact absurd h (Nat.not_lt_zero _)
  | 13, h => exact absurd h (Nat.not_lt_zero _)
  | 14, h => exact absurd h (Nat.not_lt_zero _)
  | 15, h => exact absurd h (Nat.not_lt_zero _)
  | 16, _ => rfl
  | 17, h => exact absurd h (Nat.not_lt_zero _)
  | 18, _ => rfl
  | 19, _ => rfl
  | 20, _ => rfl
  | 21, _ => rfl
  | 22, _ => rfl
  | 23, _ => rfl
  | 24, _ => rfl
  | 25, _ => rfl
  | 26, h => exact absurd h (Nat.not_lt_zero _)
  | 27, _ => rfl
  | 28, _ => rfl
  | 29, _ => rfl
  | 30, _ => rfl
  | 31, _ => rfl
  | n + 32, h => exact absurd h (Nat.not_lt_zero _)
theorem atM0 (G : Gc) (h0 q1 q2 q3 q4 q5 q6 q7 q8 q9 q10 q11 q12 q13 q14 q15 q16 q17 q18 q19 q20 q21 q22 q23 : Nat) (k i : Nat) (h : i < MN k) : ([(h0, .inr (5, [.int 0, .int 0, .ref q1, .ref q2, .ref q3, .ref q4, .ref q5, .ref q6, .int 0, .ref q7, .ref q8, .ref q9, .int (-1), .int 0, .int 0, .int 0, .ref q10, .int 0, .ref q11, .ref q12, .ref q13, .ref q14, .ref q15, .ref q16, .ref q17, .ref q18, .int (-9), .ref q19, .ref q20, .ref q21, .ref q22, .ref q23, .int 0])), (q1, .inl (G.1, 6, .inl (fun _ => 0))), (q2, .inl (G.1, 6, .inl (fun _ => 0))), (q3, .inl (G.1, 72, .inl (fun _ => 0))), (q4, .inl (G.1, 72, .inl (fun _ => 0))), (q5, .inl (G.1, 72, .inl (fun _ => 0))), (q6, .inl (G.1, 6, .inl (fun _ => 0))), (q7, .inl (G.1, 13, .inl (fun _ => 0))), (q8, .inl (G.1, 13, .inl (fun _ => 0))), (q9, .inl (G.1, 13, .inl (fun _ => 0))), (q10, .inl (G.2.1, 12, .inr (.inl (fun _ => 0)))), (q11, .inl (G.1, 40, .inl (fun _ => 0))), (q12, .inl (G.1, 40, .inl (fun _ => 0))), (q13, .inl (G.1, 40, .inl (fun _ => 0))), (q14, .inl (G.1, 40, .inl (fun _ => 0))), (q15, .inl (G.1, 40, .inl (fun _ => 0))), (q16, .inl (G.1, 40, .inl (fun _ => 0))), (q17, .inl (G.1, 40, .inl (fun _ => 0))), (q18, .inl (G.1, 40, .inl (fun _ => 0))), (q19, .inl (G.1, 24, .inl (fun _ => 0))), (q20, .inl (G.1, 4, .inl (upd (upd (upd (upd (fun _ => 0) (ix 0) (-1)) (ix 1) (-1)) (ix 2) (-1)) (ix 3) (-1)))), (q21, .inl (G.1, 4, .inl (fun _ => 0))), (q22, .inl (G.1, 240, .inl (fun _ => 0))), (q23, .inl (G.1, 60, .inl (fun _ => 0)))] : va_W)[psM0 k]? = some ((adM0 h0 q1 q2 q3 q4 q5 q6 q7 q8 q9 q10 q11 q12 q13 q14 q15 q16 q17 q18 q19 q20 q21 q22 q23) k i, MF G (adM0 h0 q1 q2 q3 q4 q5 q6 q7 q8 q9 q10 q11 q12 q13 q14 q15 q16 q17 q18 q19 q20 q21 q22 q23) k i (d0M.1 k i) (d0M.2 k i)) := by
  match k, h with
  | 0, h =>
    have e : i = 0 := Nat.lt_one_iff.mp h
    subst e
    rfl
  | 1, h => exact absurd h (Nat.not_lt_zero _)
  | 2, h =>
    have e : i = 0 := Nat.lt_one_iff.mp h
    subst e
    rfl
  | 3, h =>
    have e : i = 0 := Nat.lt_one_iff.mp h
    subst e
    rfl
  | 4, h =>
    have e : i = 0 := Nat.lt_one_iff.mp h
    subst e
    rfl
  | 5, h =>
    have e : i = 0 := Nat.lt_one_iff.mp h
    subst e
    rfl
  | 6, h =>
    have e : i = 0 := Nat.lt_one_iff.mp h
    subst e
    rfl
  | 7, h =>
    have e : i = 0 := Nat.lt_one_iff.mp h
    subst e
    rfl
  | 8, h => exact absurd h (Nat.not_lt_zero _)
  | 9, h =>
    have e : i = 0 := Nat.lt_one_iff.mp h
    subst e
    rfl
  | 10, h =>
    have e : i = 0 := Nat.lt_one_iff.mp h
    subst e
    rfl
  | 11, h =>
    have e : i = 0 := Nat.lt_one_iff.mp h
    subst e
    rfl
  | 12, h => exact absurd h (Nat.not_lt_zero _)
  | 13, h => exact absurd h (Nat.not_lt_zero _)
  | 14, h => exact absurd h (Nat.not_lt_zero _)
  | 15, h => exact absurd h (Nat.not_lt_zero _)
  | 16, h =>
    have e : i = 0 := Nat.lt_one_iff.mp h
    subst e
    rfl
  | 17, h => exact absurd h (Nat.not_lt_zero _)
  | 18, h =>
    have e : i = 0 := Nat.lt_one_iff.mp h
    subst e
    rfl
  | 19, h =>
    have e : i = 0 := Nat.lt_one_iff.mp h
    subst e
    rfl
  | 20, h =>
    have e : i = 0 := Nat.lt_one_iff.mp h
    subst e
    rfl
  | 21, h =>
    have e : i = 0 := Nat.lt_one_iff.mp h
    subst e
    rfl
  | 22, h =>
    have e : i = 0 := Nat.lt_one_iff.mp h
    subst e
    rfl
  | 23, h =>
    have e : i = 0 := Nat.lt_one_iff.mp h
    subst e
    rfl
  | 24, h =>
    have e : i = 0 := Nat.lt_one_iff.mp h
    subst e
    rfl
  | 25, h =>
    have e : i = 0 := Nat.lt_one_iff.mp h
    subst e
    rfl
  | 26, h => exact absurd h (Nat.not_lt_zero _)
  | 27, h =>
    have e : i = 0 := Nat.lt_one_iff.mp h
    subst e
    rfl
  | 28, h =>
    have e : i = 0 := Nat.lt_one_iff.mp h
    subst e
    rfl
  | 29, h =>
    have e : i = 0 := Nat.lt_one_iff.mp h
    subst e
    rfl
  | 30, h =>
    have e : i = 0 := Nat.lt_one_iff.mp h
    subst e
    rfl
  | 31, h =>
    have e : i = 0 := Nat.lt_one_iff.mp h
    subst e
    rfl
  | n + 32, h => exact absurd h (Nat.not_lt_zero _)
theorem initM {D : va_G} {G : Gc} {A : Nat → Prop} {H : Heap} {h0 q1 q2 q3 q4 q5 q6 q7 q8 q9 q10 q11 q12 q13 q14 q15 q16 q17 q18 q19 q20 q21 q22 q23 : Nat} (hP : va_P D vwCl [(h0, .inr (5, [.int 0, .int 0, .ref q1, .ref q2, .ref q3, .ref q4, .ref q5, .ref q6, .int 0, .ref q7, .ref q8, .ref q9, .int (-1), .int 0, .int 0, .int 0, .ref q10, .int 0, .ref q11, .ref q12, .ref q13, .ref q14, .ref q15, .ref q16, .ref q17, .ref q18, .int (-9), .ref q19, .ref q20, .ref q21, .ref q22, .ref q23, .int 0])), (q1, .inl (G.1, 6, .inl (fun _ => 0))), (q2, .inl (G.1, 6, .inl (fun _ => 0))), (q3, .inl (G.1, 72, .inl (fun _ => 0))), (q4, .inl (G.1, 72, .inl (fun _ => 0))), (q5, .inl (G.1, 72, .inl (fun _ => 0))), (q6, .inl (G.1, 6, .inl (fun _ => 0))), (q7, .inl (G.1, 13, .inl (fun _ => 0))), (q8, .inl (G.1, 13, .inl (fun _ => 0))), (q9, .inl (G.1, 13, .inl (fun _ => 0))), (q10, .inl (G.2.1, 12, .inr (.inl (fun _ => 0)))), (q11, .inl (G.1, 40, .inl (fun _ => 0))), (q12, .inl (G.1, 40, .inl (fun _ => 0))), (q13, .inl (G.1, 40, .inl (fun _ => 0))), (q14, .inl (G.1, 40, .inl (fun _ => 0))), (q15, .inl (G.1, 40, .inl (fun _ => 0))), (q16, .inl (G.1, 40, .inl (fun _ => 0))), (q17, .inl (G.1, 40, .inl (fun _ => 0))), (q18, .inl (G.1, 40, .inl (fun _ => 0))), (q19, .inl (G.1, 24, .inl (fun _ => 0))), (q20, .inl (G.1, 4, .inl (upd (upd (upd (upd (fun _ => 0) (ix 0) (-1)) (ix 1) (-1)) (ix 2) (-1)) (ix 3) (-1)))), (q21, .inl (G.1, 4, .inl (fun _ => 0))), (q22, .inl (G.1, 240, .inl (fun _ => 0))), (q23, .inl (G.1, 60, .inl (fun _ => 0)))] H) (hD : va_D A [(h0, .inr (5, [.int 0, .int 0, .ref q1, .ref q2, .ref q3, .ref q4, .ref q5, .ref q6, .int 0, .ref q7, .ref q8, .ref q9, .int (-1), .int 0, .int 0, .int 0, .ref q10, .int 0, .ref q11, .ref q12, .ref q13, .ref q14, .ref q15, .ref q16, .ref q17, .ref q18, .int (-9), .ref q19, .ref q20, .ref q21, .ref q22, .ref q23, .int 0])), (q1, .inl (G.1, 6, .inl (fun _ => 0))), (q2, .inl (G.1, 6, .inl (fun _ => 0))), (q3, .inl (G.1, 72, .inl (fun _ => 0))), (q4, .inl (G.1, 72, .inl (fun _ => 0))), (q5, .inl (G.1, 72, .inl (fun _ => 0))), (q6, .inl (G.1, 6, .inl (fun _ => 0))), (q7, .inl (G.1, 13, .inl (fun _ => 0))), (q8, .inl (G.1, 13, .inl (fun _ => 0))), (q9, .inl (G.1, 13, .inl (fun _ => 0))), (q10, .inl (G.2.1, 12, .inr (.inl (fun _ => 0)))), (q11, .inl (G.1, 40, .inl (fun _ => 0))), (q12, .inl (G.1, 40, .inl (fun _ => 0))), (q13, .inl (G.1, 40, .inl (fun _ => 0))), (q14, .inl (G.1, 40, .inl (fun _ => 0))), (q15, .inl (G.1, 40, .inl (fun _ => 0))), (q16, .inl (G.1, 40, .inl (fun _ => 0))), (q17, .inl (G.1, 40, .inl (fun _ => 0))), (q18, .inl (G.1, 40, .inl (fun _ => 0))), (q19, .inl (G.1, 24, .inl (fun _ => 0))), (q20, .inl (G.1, 4, .inl (upd (upd (upd (upd (fun _ => 0) (ix 0) (-1)) (ix 1) (-1)) (ix 2) (-1)) (ix 3) (-1)))), (q21, .inl (G.1, 4, .inl (fun _ => 0))), (q22, .inl (G.1, 240, .inl (fun _ => 0))), (q23, .inl (G.1, 60, .inl (fun _ => 0)))]) : ∃ ad : Nat → Nat → Nat, ad 0 0 = h0 ∧ PIC D (MF G ad) MN ad d0M H ∧ ∀ q, adS MN ad q → A q := by
  refine ⟨(adM0 h0 q1 q2 q3 q4 q5 q6 q7 q8 q9 q10 q11 q12 q13 q14 q15 q16 q17 q18 q19 q20 q21 q22 q23), rfl, ⟨fun k i h => hP _ _ (atM0 G h0 q1 q2 q3 q4 q5 q6 q7 q8 q9 q10 q11 q12 q13 q14 q15 q16 q17 q18 q19 q20 q21 q22 q23 k i h), fun k i k' i' h h' e => ?_⟩, fun q hq => ?_⟩
  · have e1 := hD.1 _ _ _ _ (atM0 G h0 q1 q2 q3 q4 q5 q6 q7 q8 q9 q10 q11 q12 q13 q14 q15 q16 q17 q18 q19 q20 q21 q22 q23 k i h) (atM0 G h0 q1 q2 q3 q4 q5 q6 q7 q8 q9 q10 q11 q12 q13 q14 q15 q16 q17 q18 q19 q20 q21 q22 q23 k' i' h') e
    have e2 : k = k' := by rw [← MN_iv h, ← MN_iv h', e1]
    exact ⟨e2, by rw [MN_1 h, MN_1 h']⟩
  · obtain ⟨k, i, h, rfl⟩ := hq
    exact hD.2 _ _ (atM0 G h0 q1 q2 q3 q4 q5 q6 q7 q8 q9 q10 q11 q12 q13 q14 q15 q16 q17 q18 q19 q20 q21 q22 q23 k i h)
