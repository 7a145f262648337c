/-! ===== curves as lists of (flow, day, number) ===== -/
abbrev Pt : Type := Int32 × Int32 × Int32
def lts (p q : Pt) : Prop := p.1.toInt < q.1.toInt ∨ (p.1.toInt = q.1.toInt ∧ p.2.1.toInt < q.2.1.toInt)
noncomputable def insF (p : Pt) : List Pt → List Pt
  | [] => [p]
  | q :: S => cif (lts p q) (p :: q :: S) (q :: insF p S)
noncomputable def conF (D : Int) (q : Pt) (C : List Pt) : List Pt := cif (q.2.1.toInt ≤ D) (match C with | [] => [q] | c :: C' => cif (c.1.toInt = q.1.toInt) (c :: C') (q :: c :: C')) C
noncomputable def cuF (D : Int) : List Pt → List Pt
  | [] => []
  | q :: S => conF D q (cuF D S)
noncomputable def apF (p : Pt) : List Pt → List Pt
  | [] => [p]
  | q :: C => cif (q.1.toInt < p.1.toInt) (q :: apF p C) (cif (q.1.toInt = p.1.toInt) (cif (p.2.1.toInt < q.2.1.toInt) (q :: C) (p :: C)) (p :: q :: C))
noncomputable def rcF (D : Int) (C : List Pt) (p : Pt) : List Pt := cif (p.2.1.toInt ≤ D) (apF p C) C
def srt : List Pt → Prop
  | [] => True
  | q :: S => (∀ r, r ∈ S → ¬ lts r q) ∧ srt S
theorem con_mem {D : Int} {q c : Pt} {C : List Pt} (h : c ∈ conF D q C) : (c = q ∧ q.2.1.toInt ≤ D) ∨ c ∈ C := by
  unfold conF at h
  by_cases g : q.2.1.toInt ≤ D
  · rw [cif_t g] at h
    cases C with
    | nil => exact Or.inl ⟨List.mem_singleton.mp h, g⟩
    | cons x X =>
      have h : c ∈ cif (x.1.toInt = q.1.toInt) (x :: X) (q :: x :: X) := h
      by_cases e : x.1.toInt = q.1.toInt
      · rw [cif_t e] at h; exact Or.inr h
      · rw [cif_f e] at h
        rcases List.mem_cons.mp h with h | h
        · exact Or.inl ⟨h, g⟩
        · exact Or.inr h
  · rw [cif_f g] at h; exact Or.inr h
theorem cu_mem {D : Int} {c : Pt} : ∀ {S : List Pt}, c ∈ cuF D S → c ∈ S ∧ c.2.1.toInt ≤ D := by
  intro S
  induction S with
  | nil => intro h; exact absurd h (List.not_mem_nil)
  | cons q S ih =>
    intro h
    rcases con_mem (show c ∈ conF D q (cuF D S) from h) with ⟨rfl, g⟩ | h
    · exact ⟨List.mem_cons_self, g⟩
    · exact ⟨List.mem_cons_of_mem _ (ih h).1, (ih h).2⟩
theorem cu_ins (D : Int) (p : Pt) : ∀ S : List Pt, srt S → cuF D (insF p S) = rcF D (cuF D S) p := by
  intro S
  induction S with
  | nil => intro _; rfl
  | cons q S ih =>
    intro hS
    obtain ⟨hq, hs⟩ := hS
    have e1 : insF p (q :: S) = cif (lts p q) (p :: q :: S) (q :: insF p S) := rfl
    rw [e1]
    by_cases c : lts p q
    · rw [cif_t c]
      have hm : ∀ r, r ∈ cuF D (q :: S) → lts p r := fun r hr => by
        rcases List.mem_cons.mp (cu_mem hr).1 with h | h
        · rw [h]; exact c
        · have h2 := hq r h
          unfold lts at c h2 ⊢
          omega
      show conF D p (cuF D (q :: S)) = rcF D (cuF D (q :: S)) p
      generalize cuF D (q :: S) = C at hm
      unfold conF rcF
      by_cases e : p.2.1.toInt ≤ D
      · rw [cif_t e, cif_t e]
        cases C with
        | nil => rfl
        | cons r C =>
          have h := hm r List.mem_cons_self
          unfold lts at h
          show cif (r.1.toInt = p.1.toInt) (r :: C) (p :: r :: C) = cif (r.1.toInt < p.1.toInt) (r :: apF p C) (cif (r.1.toInt = p.1.toInt) (cif (p.2.1.toInt < r.2.1.toInt) (r :: C) (p :: C)) (p :: r :: C))
          rw [cif_f (show ¬ r.1.toInt < p.1.toInt by omega)]
          by_cases z : r.1.toInt = p.1.toInt
          · rw [cif_t z, cif_t z, cif_t (show p.2.1.toInt < r.2.1.toInt by omega)]
          · rw [cif_f z, cif_f z]
      · rw [cif_f e, cif_f e]
    · rw [cif_f c]
      show conF D q (cuF D (insF p S)) = rcF D (conF D q (cuF D S)) p
      rw [ih hs]
      have hm : ∀ r, r ∈ cuF D S → ¬ lts r q := fun r hr => hq r (cu_mem hr).1
      generalize cuF D S = C at hm
      unfold rcF
      by_cases e : p.2.1.toInt ≤ D
      · rw [cif_t e, cif_t e]
        unfold conF
        by_cases g : q.2.1.toInt ≤ D
        · rw [cif_t g, cif_t g]
          unfold lts at c
          cases C with
          | nil =>
            show cif (p.1.toInt = q.1.toInt) [p] [q, p] = cif (q.1.toInt < p.1.toInt) [q, p] (cif (q.1.toInt = p.1.toInt) (cif (p.2.1.toInt < q.2.1.toInt) [q] [p]) [p, q])
            by_cases z : p.1.toInt = q.1.toInt
            · rw [cif_t z, cif_f (show ¬ q.1.toInt < p.1.toInt by omega), cif_t (show q.1.toInt = p.1.toInt by omega), cif_f (show ¬ p.2.1.toInt < q.2.1.toInt by omega)]
            · rw [cif_f z, cif_t (show q.1.toInt < p.1.toInt by omega)]
          | cons r C =>
            have h := hm r List.mem_cons_self
            unfold lts at h
            have eR : apF p (r :: C) = cif (r.1.toInt < p.1.toInt) (r :: apF p C) (cif (r.1.toInt = p.1.toInt) (cif (p.2.1.toInt < r.2.1.toInt) (r :: C) (p :: C)) (p :: r :: C)) := rfl
            have eQ : apF p (q :: r :: C) = cif (q.1.toInt < p.1.toInt) (q :: apF p (r :: C)) (cif (q.1.toInt = p.1.toInt) (cif (p.2.1.toInt < q.2.1.toInt) (q :: r :: C) (p :: r :: C)) (p :: q :: r :: C)) := rfl
            show (match apF p (r :: C) with | [] => [q] | c :: C' => cif (c.1.toInt = q.1.toInt) (c :: C') (q :: c :: C')) = apF p (cif (r.1.toInt = q.1.toInt) (r :: C) (q :: r :: C))
            by_cases k1 : r.1.toInt < p.1.toInt
            · rw [cif_t k1] at eR
              rw [eR]
              show cif (r.1.toInt = q.1.toInt) (r :: apF p C) (q :: r :: apF p C) = _
              by_cases z : r.1.toInt = q.1.toInt
              · rw [cif_t z, cif_t z, eR]
              · rw [cif_f z, cif_f z, eQ, cif_t (show q.1.toInt < p.1.toInt by omega), eR]
            · rw [cif_f k1] at eR
              by_cases k2 : r.1.toInt = p.1.toInt
              · rw [cif_t k2] at eR
                by_cases k3 : p.2.1.toInt < r.2.1.toInt
                · rw [cif_t k3] at eR
                  rw [eR]
                  show cif (r.1.toInt = q.1.toInt) (r :: C) (q :: r :: C) = _
                  by_cases z : r.1.toInt = q.1.toInt
                  · rw [cif_t z, eR]
                  · rw [cif_f z, eQ, cif_t (show q.1.toInt < p.1.toInt by omega), eR]
                · rw [cif_f k3] at eR
                  rw [eR]
                  show cif (p.1.toInt = q.1.toInt) (p :: C) (q :: p :: C) = _
                  by_cases z : r.1.toInt = q.1.toInt
                  · rw [cif_t (show p.1.toInt = q.1.toInt by omega), cif_t z, eR]
                  · rw [cif_f (show ¬ p.1.toInt = q.1.toInt by omega), cif_f z, eQ, cif_t (show q.1.toInt < p.1.toInt by omega), eR]
              · rw [cif_f k2] at eR
                rw [eR]
                show cif (p.1.toInt = q.1.toInt) (p :: r :: C) (q :: p :: r :: C) = _
                rw [cif_f (show ¬ r.1.toInt = q.1.toInt by omega), eQ]
                by_cases z : p.1.toInt = q.1.toInt
                · rw [cif_t z, cif_f (show ¬ q.1.toInt < p.1.toInt by omega), cif_t (show q.1.toInt = p.1.toInt by omega), cif_f (show ¬ p.2.1.toInt < q.2.1.toInt by omega)]
                · rw [cif_f z, cif_t (show q.1.toInt < p.1.toInt by omega), eR]
        · rw [cif_f g, cif_f g]
      · rw [cif_f e, cif_f e]
/-- on the curve, told by the next one alone -/
theorem cu_next {D : Int} {q : Pt} {S : List Pt} (hs : srt (q :: S)) (hd : q.2.1.toInt ≤ D) : (∃ c C, cuF D S = c :: C ∧ c.1.toInt = q.1.toInt) ↔ ∃ r R, S = r :: R ∧ r.1.toInt = q.1.toInt ∧ r.2.1.toInt ≤ D := by
  obtain ⟨hq, hs⟩ := hs
  cases S with
  | nil => exact ⟨fun ⟨c, C, h, _⟩ => absurd h.symm (List.cons_ne_nil _ _), fun ⟨c, C, h, _⟩ => absurd h.symm (List.cons_ne_nil _ _)⟩
  | cons r R =>
    have hr := hq r List.mem_cons_self
    constructor
    · rintro ⟨c, C, h, e⟩
      have hc := cu_mem (D := D) (c := c) (S := r :: R) (by rw [h]; exact List.mem_cons_self)
      refine ⟨r, R, rfl, ?_⟩
      rcases List.mem_cons.mp hc.1 with z | z
      · rw [← z]; exact ⟨e, hc.2⟩
      · have h2 := hs.1 c z
        unfold lts at h2 hr
        omega
    · rintro ⟨r', R', h, e, g⟩
      obtain ⟨rfl, rfl⟩ := List.cons.inj h
      show ∃ c C, conF D r (cuF D R) = c :: C ∧ c.1.toInt = q.1.toInt
      unfold conF
      rw [cif_t g]
      cases cuF D R with
      | nil => exact ⟨r, [], rfl, e⟩
      | cons c C =>
        show ∃ c' C', cif (c.1.toInt = r.1.toInt) (c :: C) (r :: c :: C) = c' :: C' ∧ c'.1.toInt = q.1.toInt
        by_cases z : c.1.toInt = r.1.toInt
        · rw [cif_t z]; exact ⟨c, C, rfl, by omega⟩
        · rw [cif_f z]; exact ⟨r, c :: C, rfl, e⟩
/-- strictly by flow -/
def sst : List Pt → Prop
  | [] => True
  | q :: S => (∀ r, r ∈ S → q.1.toInt < r.1.toInt) ∧ sst S
theorem cu_sst {D : Int} : ∀ S : List Pt, srt S → sst (cuF D S) := by
  intro S
  induction S with
  | nil => intro _; trivial
  | cons q S ih =>
    intro h
    have i1 := ih h.2
    have hm : ∀ r, r ∈ cuF D S → ¬ lts r q := fun r hr => h.1 r (cu_mem hr).1
    show sst (conF D q (cuF D S))
    unfold conF
    by_cases g : q.2.1.toInt ≤ D
    · rw [cif_t g]
      cases hC : cuF D S with
      | nil => exact ⟨fun r hr => absurd hr List.not_mem_nil, trivial⟩
      | cons c C =>
        rw [hC] at i1 hm
        show sst (cif (c.1.toInt = q.1.toInt) (c :: C) (q :: c :: C))
        by_cases z : c.1.toInt = q.1.toInt
        · rw [cif_t z]; exact i1
        · rw [cif_f z]
          have hc := hm c List.mem_cons_self
          refine ⟨fun r hr => ?_, i1⟩
          rcases List.mem_cons.mp hr with y | y
          · rw [y]; unfold lts at hc; omega
          · have := i1.1 r y
            unfold lts at hc; omega
    · rw [cif_f g]; exact i1
/-! rows of a function as a list -/
def rl (F : Nat → Pt) : Nat → Nat → List Pt
  | 0, _ => []
  | n + 1, a => F a :: rl F n (a + 1)
theorem rl_mem {F : Nat → Pt} {r : Pt} : ∀ (n a : Nat), r ∈ rl F n a → ∃ j, a ≤ j ∧ j < a + n ∧ r = F j := by
  intro n
  induction n with
  | zero => intro a h; exact absurd h List.not_mem_nil
  | succ n ih =>
    intro a h
    rcases List.mem_cons.mp h with z | z
    · exact ⟨a, Nat.le_refl _, by omega, z⟩
    · obtain ⟨j, h1, h2, h3⟩ := ih (a + 1) z
      exact ⟨j, by omega, by omega, h3⟩
theorem rl_app {F : Nat → Pt} : ∀ (n a : Nat), rl F (n + 1) a = rl F n a ++ [F (a + n)] := by
  intro n
  induction n with
  | zero => intro a; rfl
  | succ n ih =>
    intro a
    show F a :: rl F (n + 1) (a + 1) = F a :: (rl F n (a + 1) ++ [F (a + (n + 1))])
    rw [ih (a + 1), show a + 1 + n = a + (n + 1) by omega]
theorem rl_c {F G : Nat → Pt} : ∀ (n a : Nat), (∀ j, a ≤ j → j < a + n → G j = F j) → rl G n a = rl F n a := by
  intro n
  induction n with
  | zero => intro a _; rfl
  | succ n ih =>
    intro a h
    show G a :: rl G n (a + 1) = F a :: rl F n (a + 1)
    rw [h a (Nat.le_refl _) (by omega), ih (a + 1) (fun j h1 h2 => h j (by omega) (by omega))]
theorem rl_sh {F G : Nat → Pt} : ∀ (n a b : Nat), (∀ j, j < n → G (b + j) = F (a + j)) → rl G n b = rl F n a := by
  intro n
  induction n with
  | zero => intro a b _; rfl
  | succ n ih =>
    intro a b h
    show G b :: rl G n (b + 1) = F a :: rl F n (a + 1)
    rw [show G b = F a from h 0 (by omega), ih (a + 1) (b + 1) (fun j hj => by rw [show b + 1 + j = b + (j + 1) by omega, show a + 1 + j = a + (j + 1) by omega]; exact h (j + 1) (by omega))]
theorem rl_insF {F G : Nat → Pt} {p : Pt} {k : Nat} (hk : G k = p) : ∀ (n a : Nat), a ≤ k → k ≤ a + n → (∀ j, a ≤ j → j < k → G j = F j ∧ ¬ lts p (F j)) → (k < a + n → lts p (F k)) → (∀ j, k ≤ j → j < a + n → G (j + 1) = F j) → rl G (n + 1) a = insF p (rl F n a) := by
  intro n
  induction n with
  | zero =>
    intro a h1 h2 _ _ _
    have e : a = k := by omega
    subst e
    show [G a] = [p]
    rw [hk]
  | succ n ih =>
    intro a h1 h2 h3 h4 h5
    show G a :: rl G (n + 1) (a + 1) = cif (lts p (F a)) (p :: F a :: rl F n (a + 1)) (F a :: insF p (rl F n (a + 1)))
    by_cases e : a = k
    · subst e
      rw [cif_t (h4 (by omega)), hk]
      exact congrArg (p :: ·) (rl_sh (F := F) (G := G) (n + 1) a (a + 1) (fun j hj => by rw [show a + 1 + j = (a + j) + 1 by omega]; exact h5 _ (by omega) (by omega)))
    · have h := h3 a (Nat.le_refl _) (by omega)
      rw [cif_f h.2, h.1]
      exact congrArg (F a :: ·) (ih (a + 1) (by omega) (by omega) (fun j h1 h2 => h3 j (by omega) h2) (fun z => h4 (by omega)) (fun j h1 h2 => h5 j h1 (by omega)))
theorem rl_apI {F G : Nat → Pt} {p : Pt} {k : Nat} (hk : G k = p) : ∀ (n a : Nat), a ≤ k → k ≤ a + n → (∀ j, a ≤ j → j < k → G j = F j ∧ (F j).1.toInt < p.1.toInt) → (k < a + n → p.1.toInt < (F k).1.toInt) → (∀ j, k ≤ j → j < a + n → G (j + 1) = F j) → rl G (n + 1) a = apF p (rl F n a) := by
  intro n
  induction n with
  | zero =>
    intro a h1 h2 _ _ _
    have e : a = k := by omega
    subst e
    show [G a] = [p]
    rw [hk]
  | succ n ih =>
    intro a h1 h2 h3 h4 h5
    show G a :: rl G (n + 1) (a + 1) = cif ((F a).1.toInt < p.1.toInt) (F a :: apF p (rl F n (a + 1))) (cif ((F a).1.toInt = p.1.toInt) (cif (p.2.1.toInt < (F a).2.1.toInt) (F a :: rl F n (a + 1)) (p :: rl F n (a + 1))) (p :: F a :: rl F n (a + 1)))
    by_cases e : a = k
    · subst e
      have h := h4 (by omega)
      rw [cif_f (show ¬ (F a).1.toInt < p.1.toInt by omega), cif_f (show ¬ (F a).1.toInt = p.1.toInt by omega), hk]
      exact congrArg (p :: ·) (rl_sh (F := F) (G := G) (n + 1) a (a + 1) (fun j hj => by rw [show a + 1 + j = (a + j) + 1 by omega]; exact h5 _ (by omega) (by omega)))
    · have h := h3 a (Nat.le_refl _) (by omega)
      rw [cif_t h.2, h.1]
      exact congrArg (F a :: ·) (ih (a + 1) (by omega) (by omega) (fun j h1 h2 => h3 j (by omega) h2) (fun z => h4 (by omega)) (fun j h1 h2 => h5 j h1 (by omega)))
theorem rl_apR {F G : Nat → Pt} {p : Pt} {k : Nat} (hk : G k = cif (p.2.1.toInt < (F k).2.1.toInt) (F k) p) (he : (F k).1.toInt = p.1.toInt) : ∀ (n a : Nat), a ≤ k → k < a + n → (∀ j, a ≤ j → j < k → (F j).1.toInt < p.1.toInt) → (∀ j, j ≠ k → j < a + n → G j = F j) → rl G n a = apF p (rl F n a) := by
  intro n
  induction n with
  | zero => intro a h1 h2; omega
  | succ n ih =>
    intro a h1 h2 h3 h5
    show G a :: rl G n (a + 1) = cif ((F a).1.toInt < p.1.toInt) (F a :: apF p (rl F n (a + 1))) (cif ((F a).1.toInt = p.1.toInt) (cif (p.2.1.toInt < (F a).2.1.toInt) (F a :: rl F n (a + 1)) (p :: rl F n (a + 1))) (p :: F a :: rl F n (a + 1)))
    by_cases e : a = k
    · subst e
      rw [cif_f (show ¬ (F a).1.toInt < p.1.toInt by omega), cif_t he, hk, rl_c (F := F) (G := G) n (a + 1) (fun j h1 h2 => h5 j (by omega) (by omega))]
      by_cases z : p.2.1.toInt < (F a).2.1.toInt
      · rw [cif_t z, cif_t z]
      · rw [cif_f z, cif_f z]
    · rw [cif_t (h3 a (Nat.le_refl _) (by omega)), h5 a e (by omega)]
      exact congrArg (F a :: ·) (ih (a + 1) (by omega) (by omega) (fun j h1 h2 => h3 j (by omega) h2) (fun j h1 h2 => h5 j h1 (by omega)))
def SF (F : Nat → Pt) (n : Nat) : Prop := ∀ j k, j < k → k < n → ¬ lts (F k) (F j)
theorem SF.srt {F : Nat → Pt} : ∀ (n a N : Nat), SF F N → a + n ≤ N → srt (rl F n a) := by
  intro n
  induction n with
  | zero => intro a N _ _; trivial
  | succ n ih =>
    intro a N h hN
    refine ⟨fun r hr => ?_, ih (a + 1) N h (by omega)⟩
    obtain ⟨j, h1, h2, rfl⟩ := rl_mem n (a + 1) hr
    exact h a j (by omega) (by omega)
