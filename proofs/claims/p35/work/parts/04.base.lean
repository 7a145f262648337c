/-! ===== BASE: pictures of objects (kind, index), rows that read and write them, calls, branches by numbers ===== -/
/-- the data: numbers (32 bits) and long numbers by kind, index, place -/
abbrev Dt : Type := (Nat → Nat → Nat → Int32) × (Nat → Nat → Nat → Int64)
def uv (d : Dt) (k i j : Nat) (x : Int32) : Dt := (fun k' => if k' = k then (fun i' => if i' = i then (fun j' => if j' = j then x else d.1 k i j') else d.1 k i') else d.1 k', d.2)
def uw (d : Dt) (k i j : Nat) (x : Int64) : Dt := (d.1, fun k' => if k' = k then (fun i' => if i' = i then (fun j' => if j' = j then x else d.2 k i j') else d.2 k i') else d.2 k')
def uf (d : Dt) (k i : Nat) (f : Nat → Int32) : Dt := (fun k' => if k' = k then (fun i' => if i' = i then f else d.1 k i') else d.1 k', d.2)
theorem uv_row (d : Dt) (k i j : Nat) (x : Int32) : (uv d k i j x).1 k i = upd (d.1 k i) j x := by
  funext j'; simp [uv, upd]
theorem uw_row (d : Dt) (k i j : Nat) (x : Int64) : (uw d k i j x).2 k i = vp_updL (d.2 k i) j x := by
  funext j'; simp [uw, vp_updL]
theorem uf_row (d : Dt) (k i : Nat) (f : Nat → Int32) : (uf d k i f).1 k i = f := by
  funext j'; simp [uf]
theorem uv_off (d : Dt) (k i j : Nat) (x : Int32) (k' i' : Nat) (h : ¬ (k' = k ∧ i' = i)) : (uv d k i j x).1 k' i' = d.1 k' i' := by
  funext j'
  by_cases h1 : k' = k
  · subst h1
    by_cases h2 : i' = i
    · exact absurd ⟨rfl, h2⟩ h
    · simp [uv, h2]
  · simp [uv, h1]
theorem uw_off (d : Dt) (k i j : Nat) (x : Int64) (k' i' : Nat) (h : ¬ (k' = k ∧ i' = i)) : (uw d k i j x).2 k' i' = d.2 k' i' := by
  funext j'
  by_cases h1 : k' = k
  · subst h1
    by_cases h2 : i' = i
    · exact absurd ⟨rfl, h2⟩ h
    · simp [uw, h2]
  · simp [uw, h1]
theorem uf_off (d : Dt) (k i : Nat) (f : Nat → Int32) (k' i' : Nat) (h : ¬ (k' = k ∧ i' = i)) : (uf d k i f).1 k' i' = d.1 k' i' := by
  funext j'
  by_cases h1 : k' = k
  · subst h1
    by_cases h2 : i' = i
    · exact absurd ⟨rfl, h2⟩ h
    · simp [uf, h2]
  · simp [uf, h1]
/-- choices and truth values -/
noncomputable def cif {α : Type _} (P : Prop) (a b : α) : α := @ite α P (Classical.propDecidable P) a b
theorem cif_t {α : Type _} {P : Prop} {a b : α} (h : P) : cif P a b = a := by unfold cif; exact if_pos h
theorem cif_f {α : Type _} {P : Prop} {a b : α} (h : ¬ P) : cif P a b = b := by unfold cif; exact if_neg h
noncomputable def b2i (P : Prop) : Int32 := cif P 1 0
theorem b2i_t {P : Prop} (h : P) : b2i P = 1 := cif_t h
theorem b2i_f {P : Prop} (h : ¬ P) : b2i P = 0 := cif_f h
theorem b2i_nar (P : Prop) : narrow .boolean (.int (b2i P)) = .int (b2i P) := by
  by_cases h : P
  · rw [b2i_t h]; rfl
  · rw [b2i_f h]; rfl
theorem b2i_T : b2i True = 1 := b2i_t trivial
theorem b2i_F : b2i False = 0 := b2i_f id
abbrev ix (x : Int32) : Nat := x.toNatClampNeg
theorem vi {x : Int32} {n : Nat} (h0 : 0 ≤ x.toInt) (h1 : x.toInt < (n : Int)) : vp_in x n := vp_in_iff.mpr ⟨h0, h1⟩
theorem ix_int {x : Int32} (h : 0 ≤ x.toInt) : ((ix x : Nat) : Int) = x.toInt := by
  show ((x.toInt.toNat : Nat) : Int) = x.toInt
  omega
/-- a picture: the cells of all kinds and indices, apart -/
def PIC (D : va_G) (F : Nat → Nat → (Nat → Int32) → (Nat → Int64) → va_E) (n : Nat → Nat) (ad : Nat → Nat → Nat) (d : Dt) (H : Heap) : Prop :=
  (∀ k i, i < n k → va_at D vwCl (ad k i, F k i (d.1 k i) (d.2 k i)) H) ∧ ∀ k i k' i', i < n k → i' < n k' → ad k i = ad k' i' → k = k' ∧ i = i'
/-- the addresses of a picture -/
def adS (n : Nat → Nat) (ad : Nat → Nat → Nat) : Nat → Prop := fun q => ∃ k i, i < n k ∧ q = ad k i
theorem adS_in {n : Nat → Nat} {ad : Nat → Nat → Nat} {k i : Nat} (h : i < n k) : adS n ad (ad k i) := ⟨k, i, h, rfl⟩
theorem PIC.put {D : va_G} {F : Nat → Nat → (Nat → Int32) → (Nat → Int64) → va_E} {n : Nat → Nat} {ad : Nat → Nat → Nat} {d d' : Dt} {H H1 : Heap} (h : PIC D F n ad d H) {k i : Nat} (hi : i < n k)
    (h1 : ∀ k' i', ¬ (k' = k ∧ i' = i) → d'.1 k' i' = d.1 k' i' ∧ d'.2 k' i' = d.2 k' i') (e : va_at D vwCl (ad k i, F k i (d'.1 k i) (d'.2 k i)) H1) (oq : ∀ q, q ≠ ad k i → H1[q]? = H[q]?) : PIC D F n ad d' H1 := by
  refine ⟨fun k' i' hk => ?_, h.2⟩
  by_cases q : k' = k ∧ i' = i
  · obtain ⟨rfl, rfl⟩ := q
    exact e
  · rw [(h1 _ _ q).1, (h1 _ _ q).2]
    exact (h.1 k' i' hk).kept (oq _ (fun z => q (h.2 k' i' k i hk hi z)))
theorem PIC.kept {D : va_G} {F : Nat → Nat → (Nat → Int32) → (Nat → Int64) → va_E} {n : Nat → Nat} {ad : Nat → Nat → Nat} {d : Dt} {H H1 : Heap} (h : PIC D F n ad d H) (oq : ∀ q, adS n ad q → H1[q]? = H[q]?) : PIC D F n ad d H1 :=
  ⟨fun k i hk => (h.1 k i hk).kept (oq _ ⟨k, i, hk, rfl⟩), h.2⟩
theorem PIC.lt {D : va_G} {F : Nat → Nat → (Nat → Int32) → (Nat → Int64) → va_E} {n : Nat → Nat} {ad : Nat → Nat → Nat} {d : Dt} {H : Heap} (h : PIC D F n ad d H) {k i : Nat} (hi : i < n k) : ad k i < H.size := (h.1 k i hi).lt
/-- an answer, and an old heap as it was -/
def qV (v : Option Value) : Array Value → State → Outcome → State → Prop := fun _ st o t => o = .returned v ∧ t.heap = st.heap
/-- an answer, and a picture anew; what is not of the picture stays -/
def qW (v : Option Value) (D : va_G) (F : Nat → Nat → (Nat → Int32) → (Nat → Int64) → va_E) (n : Nat → Nat) (ad : Nat → Nat → Nat) (d : Dt) : Array Value → State → Outcome → State → Prop := fun _ st o t => o = .returned v ∧ PIC D F n ad d t.heap ∧ va_F (adS n ad) st t
abbrev wsU (y : MethodName) (b : ByteArray) (n : Nat) (r : Option FieldType) : List Cond := Cond.code y b n r :: wsL_law
theorem goodU {cy : Cond} {y : MethodName} {b : ByteArray} {n : Nat} {r : Option FieldType} (h : Cond.code y b n r ∈ wsL_law) : GoodIn (cy :: wsL_law) (wsU y b n r) := by
  intro w hw
  rcases List.mem_cons.mp hw with rfl | hw
  · exact ⟨List.mem_cons_of_mem _ h, (wsL_good _ h).2⟩
  · exact ⟨List.mem_cons_of_mem _ hw, (wsL_good _ hw).2⟩
theorem goodUL {y : MethodName} {b : ByteArray} {n : Nat} {r : Option FieldType} (h : Cond.code y b n r ∈ wsL_law) : GoodIn wsL_law (wsU y b n r) := by
  intro w hw
  rcases List.mem_cons.mp hw with rfl | hw
  · exact ⟨h, (wsL_good _ h).2⟩
  · exact ⟨hw, (wsL_good _ hw).2⟩
section BASE
variable {p : Program} {l : Launch} {e : Env} {R : Room} {s : State} {m : MethodId} {args : Array Value} {below : List Frame} {meth : Method} {c : Code} {H : Heap} {locs : List Loc} {cells slots : Nat} {Q : State → Prop}
variable {cc : ByteArray} {nL pc : Nat} {ls : Array Slot} {rest : List Value} {D : va_G} {A : Nat → Prop} {tys : List (ClassId × FieldType)} {H0 : Heap} {Ts : List Cond} {own : String}
variable {F : Nat → Nat → (Nat → Int32) → (Nat → Int64) → va_E} {n : Nat → Nat} {ad : Nat → Nat → Nat} {d : Dt}
theorem xget (S : CallFix p m c cc nL s args Ts own) {C : String} {T : u_T} {N ci index : Nat} (hin : ∀ w ∈ u_ws C T N, w ∈ Ts) (hK : va_K D vwCl tys s) (hX : PIC D F n ad d H) {k i : Nat} (hi : i < n k) {fs : List Value} (hF : F k i (d.1 k i) (d.2 k i) = .inr (ci, fs)) (hc : vwCl[ci]? = some (C, T, N)) (f : Nat) (hf : f < N)
    (hlink : Cond.fieldLink own index C (T f).2.1 (T f).2.2.1 ∈ Ts) (ho : (T f).1 = C) {v : Value} (hv : fs[f]? = some v) (hdg : decode cc pc = .ok (.getfield index, 3))
    (kk : W p l e R s m args below meth c H locs cells slots Q (F0 m (pc + 3) ls (v :: rest))) : W p l e R s m args below meth c H locs cells slots Q (F0 m pc ls (.ref (ad k i) :: rest)) := by
  obtain ⟨hx, hb, hml, hown, hts⟩ := S
  have h1 := hX.1 k i hi
  rw [hF] at h1
  have hP : va_P D vwCl [(ad k i, .inr (ci, fs))] H := fun j q hq => by
    have hz : j < 1 := (List.getElem?_eq_some_iff.mp hq).1
    rw [show j = 0 by omega] at hq
    cases hq
    exact h1
  exact va_get hx hb hts hin hown hK hP 0 rfl hc f hf (hts _ hlink) (fun x h => by rw [ho] at h; exact h) hv hdg kk
theorem xput (S : CallFix p m c cc nL s args Ts own) {C : String} {T : u_T} {N ci index : Nat} (hin : ∀ w ∈ u_ws C T N, w ∈ Ts) (ty0 : Nat → FieldType) (hty : ∀ k, k < N → parseFieldDescriptor (T k).2.2.1 = some (ty0 k)) (hnm : ∀ a, a < N → ∀ b, b < N → a ≠ b → (T a).2.1 ≠ (T b).2.1)
    (hK : va_K D vwCl tys s) (hX : PIC D F n ad d H) (hS : va_S A H0 H locs) {k i : Nat} (hi : i < n k) (hA : A (ad k i)) {fs : List Value} (hF : F k i (d.1 k i) (d.2 k i) = .inr (ci, fs)) (hc : vwCl[ci]? = some (C, T, N)) (f : Nat) (hf : f < N) (hfin : (T f).2.2.2 = false)
    (hlink : Cond.fieldLink own index C (T f).2.1 (T f).2.2.1 ∈ Ts) (ho : (T f).1 = C) {x : Int32} {ty : FieldType} (hd : ty0 f = ty) (hn : narrow ty (.int x) = .int x) (hfit : fits ty (.int x) = true) (hl : f < fs.length) (hF' : F k i (upd (d.1 k i) f x) (d.2 k i) = .inr (ci, fs.set f (.int x))) (hdg : decode cc pc = .ok (.putfield index, 3))
    (kk : ∀ (H1 : Heap) (locs1 : List Loc), PIC D F n ad (uv d k i f x) H1 → va_S A H0 H1 locs1 → W p l e R s m args below meth c H1 locs1 cells slots Q (F0 m (pc + 3) ls rest)) : W p l e R s m args below meth c H locs cells slots Q (F0 m pc ls (.int x :: .ref (ad k i) :: rest)) := by
  obtain ⟨hx, hb, hml, hown, hts⟩ := S
  subst hd
  have h1 := hX.1 k i hi
  rw [hF] at h1
  have hap := va_apart (own := own) hts hin ty0 hty hnm hK hc
  obtain ⟨r, g1, cell, q1, q2, q3, q4⟩ := h1
  have hr : r = (C, T, N) := Option.some.inj (g1.symm.trans hc)
  subst hr
  obtain ⟨hSl, hfc, kC, hkC, hkind⟩ := hK.1 ci _ hc
  obtain ⟨cf, kf, fi, fd, hfd, hsl⟩ := hSl f hf
  have hlay := hts _ (hin _ (u_in_lay hf))
  unfold u_lay at hlay
  rw [if_neg (by rw [hfin]; decide)] at hlay
  have hst := (u_facts hfc hkC (u_lays hts hin hf) hfd).1
  have h6 := u_store hfc hkC hkind hlay hfd (hty f hf) hn hfit
  have hfd' : s.fieldFound? C (T f).2.1 (T f).2.2.1 = some (cf, kf, fi, fd) := by rw [← ho]; rw [← hfd]
  refine W.putK hx hb (f := fd) ⟨hown, hts _ hlink, ⟨_, _, _, hfd'⟩, hst⟩ (by rw [q2]; exact h6) q1 q3 (by rw [hsl]; exact k2_hasslot (q4 f hf)) rfl rfl hdg fun H' e1 e2 e3 => ?_
  rw [hsl] at e1 ⊢
  refine kk H' _ (hX.put hi (fun k' i' hq => ⟨uv_off d k i f x k' i' hq, rfl⟩) ?_ e3) (hS.put e2 e3 hA)
  rw [uv_row]
  show va_at D vwCl (ad k i, F k i (upd (d.1 k i) f x) (d.2 k i)) H'
  rw [hF']
  exact ⟨_, hc, t_OB.to (V := updV (vp_V fs) f (.int x)) ⟨_, e1, q2, q3, t_set q4 hap hf (.int x)⟩ (fun j _ => vp_updV_set hl (.int x) j)⟩
theorem xiald (S : CallFix p m c cc nL s args Ts own) (hK : va_K D vwCl tys s) (hX : PIC D F n ad d H) {k i : Nat} (hi : i < n k) (t0 : Nat) {cA : ClassId} {N : Nat} (hF : F k i (d.1 k i) (d.2 k i) = .inl (cA, N, .inl (d.1 k i))) (ht : tys[t0]? = some (cA, .int)) {x : Int32} (hin : vp_in x N) {z : Int32} (hv : d.1 k i (ix x) = z) (hdg : decode cc pc = .ok (.iaload, 1))
    (kk : W p l e R s m args below meth c H locs cells slots Q (F0 m (pc + 1) ls (.int z :: rest))) : W p l e R s m args below meth c H locs cells slots Q (F0 m pc ls (.int x :: .ref (ad k i) :: rest)) := by
  obtain ⟨hx, hb, hml, hown, hts⟩ := S
  subst hv
  have h1 := hX.1 k i hi
  rw [hF] at h1
  have hP : va_P D vwCl [(ad k i, .inl (cA, N, .inl (d.1 k i)))] H := fun j q hq => by
    have hz : j < 1 := (List.getElem?_eq_some_iff.mp hq).1
    rw [show j = 0 by omega] at hq
    cases hq
    exact h1
  exact va_iald hx hb hK hP 0 t0 rfl ht hin hdg kk
theorem xlald (S : CallFix p m c cc nL s args Ts own) (hK : va_K D vwCl tys s) (hX : PIC D F n ad d H) {k i : Nat} (hi : i < n k) (t0 : Nat) {cA : ClassId} {N : Nat} (hF : F k i (d.1 k i) (d.2 k i) = .inl (cA, N, .inr (.inl (d.2 k i)))) (ht : tys[t0]? = some (cA, .long)) {x : Int32} (hin : vp_in x N) {z : Int64} (hv : d.2 k i (ix x) = z) (hdg : decode cc pc = .ok (.laload, 1))
    (kk : W p l e R s m args below meth c H locs cells slots Q (F0 m (pc + 1) ls (.long z :: rest))) : W p l e R s m args below meth c H locs cells slots Q (F0 m pc ls (.int x :: .ref (ad k i) :: rest)) := by
  obtain ⟨hx, hb, hml, hown, hts⟩ := S
  subst hv
  have h1 := hX.1 k i hi
  rw [hF] at h1
  have hP : va_P D vwCl [(ad k i, .inl (cA, N, .inr (.inl (d.2 k i))))] H := fun j q hq => by
    have hz : j < 1 := (List.getElem?_eq_some_iff.mp hq).1
    rw [show j = 0 by omega] at hq
    cases hq
    exact h1
  exact va_lald hx hb hK hP 0 t0 rfl ht hin hdg kk
theorem xaald (S : CallFix p m c cc nL s args Ts own) (hK : va_K D vwCl tys s) (hX : PIC D F n ad d H) {k i : Nat} (hi : i < n k) (t0 : Nat) {cA : ClassId} {N : Nat} {C : String} {f : Nat → Option Nat} (hF : F k i (d.1 k i) (d.2 k i) = .inl (cA, N, .inr (.inr (.inr (.inr f))))) (ht : tys[t0]? = some (cA, .object C)) {x : Int32} (hin : vp_in x N) {q : Nat} (hv : f (ix x) = some q) (hdg : decode cc pc = .ok (.aaload, 1))
    (kk : W p l e R s m args below meth c H locs cells slots Q (F0 m (pc + 1) ls (.ref q :: rest))) : W p l e R s m args below meth c H locs cells slots Q (F0 m pc ls (.int x :: .ref (ad k i) :: rest)) := by
  obtain ⟨hx, hb, hml, hown, hts⟩ := S
  have h1 := hX.1 k i hi
  rw [hF] at h1
  have hP : va_P D vwCl [(ad k i, .inl (cA, N, .inr (.inr (.inr (.inr f)))))] H := fun j q hq => by
    have hz : j < 1 := (List.getElem?_eq_some_iff.mp hq).1
    rw [show j = 0 by omega] at hq
    cases hq
    exact h1
  refine va_aldq hx hb hK hP 0 t0 rfl ht hin hdg ?_
  have hv' : f x.toNatClampNeg = some q := hv
  rw [hv']
  exact kk
theorem xiast (S : CallFix p m c cc nL s args Ts own) (hK : va_K D vwCl tys s) (hX : PIC D F n ad d H) (hS : va_S A H0 H locs) {k i : Nat} (hi : i < n k) (hA : A (ad k i)) (t0 : Nat) {cA : ClassId} {N : Nat} (hF : ∀ f, F k i f (d.2 k i) = .inl (cA, N, .inl f)) (ht : tys[t0]? = some (cA, .int)) {x z : Int32} (hin : vp_in x N) (hdg : decode cc pc = .ok (.iastore, 1))
    (kk : ∀ (H1 : Heap) (locs1 : List Loc), PIC D F n ad (uv d k i (ix x) z) H1 → va_S A H0 H1 locs1 → W p l e R s m args below meth c H1 locs1 cells slots Q (F0 m (pc + 1) ls rest)) : W p l e R s m args below meth c H locs cells slots Q (F0 m pc ls (.int z :: .int x :: .ref (ad k i) :: rest)) := by
  obtain ⟨hx, hb, hml, hown, hts⟩ := S
  have h1 := hX.1 k i hi
  rw [hF] at h1
  refine W.iast hx hb h1 ((hK.2 t0 _ ht).1 N (fun j => .int (d.1 k i j))) (fun q => by cases q) (by show ¬ (x < 0 ∨ (arrV _ _ _).slots.size ≤ _); rw [arrV_size]; exact hin) rfl rfl hdg fun H1 e1 e2 e3 => ?_
  refine kk H1 _ (hX.put hi (fun k' i' hq => ⟨uv_off d k i _ z k' i' hq, rfl⟩) ?_ e3) (hS.put e2 e3 hA)
  rw [uv_row]
  show va_at D vwCl (ad k i, F k i (upd (d.1 k i) x.toNatClampNeg z) (d.2 k i)) H1
  rw [hF]
  show H1[ad k i]? = some (vp_cell _ _)
  rw [e1, vp_cell_i, vp_cell_i, arrV_store]
  congr 2
  funext q
  by_cases hq : q = x.toNatClampNeg
  · subst hq
    simp [updV, upd]
  · simp [updV, upd, hq]
theorem xlast (S : CallFix p m c cc nL s args Ts own) (hK : va_K D vwCl tys s) (hX : PIC D F n ad d H) (hS : va_S A H0 H locs) {k i : Nat} (hi : i < n k) (hA : A (ad k i)) (t0 : Nat) {cA : ClassId} {N : Nat} (hF : ∀ f, F k i (d.1 k i) f = .inl (cA, N, .inr (.inl f))) (ht : tys[t0]? = some (cA, .long)) {x : Int32} {z : Int64} (hin : vp_in x N) (hdg : decode cc pc = .ok (.lastore, 1))
    (kk : ∀ (H1 : Heap) (locs1 : List Loc), PIC D F n ad (uw d k i (ix x) z) H1 → va_S A H0 H1 locs1 → W p l e R s m args below meth c H1 locs1 cells slots Q (F0 m (pc + 1) ls rest)) : W p l e R s m args below meth c H locs cells slots Q (F0 m pc ls (.long z :: .int x :: .ref (ad k i) :: rest)) := by
  obtain ⟨hx, hb, hml, hown, hts⟩ := S
  have h1 := hX.1 k i hi
  rw [hF] at h1
  refine W.last hx hb h1 ((hK.2 t0 _ ht).1 N (fun j => .long (d.2 k i j))) (fun q => by cases q) (by show ¬ (x < 0 ∨ (arrV _ _ _).slots.size ≤ _); rw [arrV_size]; exact hin) rfl rfl hdg fun H1 e1 e2 e3 => ?_
  refine kk H1 _ (hX.put hi (fun k' i' hq => ⟨rfl, uw_off d k i _ z k' i' hq⟩) ?_ e3) (hS.put e2 e3 hA)
  rw [uw_row]
  show va_at D vwCl (ad k i, F k i (d.1 k i) (vp_updL (d.2 k i) x.toNatClampNeg z)) H1
  rw [hF]
  show H1[ad k i]? = some (vp_cell _ _)
  rw [e1, vp_cell_l, vp_cell_l, arrV_store]
  congr 2
  funext q
  by_cases hq : q = x.toNatClampNeg
  · subst hq
    simp [updV, vp_updL]
  · simp [updV, vp_updL, hq]
/-- System.arraycopy between two rows of ints of the picture -/
theorem xcopy (S : CallFix p m c cc nL s args Ts own) (hsz : ls.size = nL) {index : Nat} (hlink : Cond.methodLink own index arraycopyName ∈ Ts) (hnat : Cond.native arraycopyName ∈ Ts) (hstat : Cond.static arraycopyName ∈ Ts) (hini : Cond.initialized "java/lang/System" ∈ Ts)
    (hK : va_K D vwCl tys s) (hX : PIC D F n ad d H) (hS : va_S A H0 H locs) {k i k1 i1 : Nat} (hi : i < n k) (hi1 : i1 < n k1) (hA : A (ad k1 i1)) (t0 : Nat) {cA : ClassId} {N N1 : Nat} (hF : F k i (d.1 k i) (d.2 k i) = .inl (cA, N, .inl (d.1 k i))) (hF1 : ∀ f, F k1 i1 f (d.2 k1 i1) = .inl (cA, N1, .inl f)) (ht : tys[t0]? = some (cA, .int))
    {sp dp z : Int32} (h1 : 0 ≤ sp.toInt) (h2 : 0 ≤ dp.toInt) (h3 : 0 ≤ z.toInt) (h4 : sp.toInt + z.toInt ≤ (N : Int)) (h5 : dp.toInt + z.toInt ≤ (N1 : Int)) (hframes : 1 ≤ R.frames) (hlocals : (rest.map fun v => v.category).sum + (nativeFrameWords "java/lang/System" "arraycopy" 5 + 11) ≤ R.locals) (hdg : decode cc pc = .ok (.invokestatic index, 3))
    (kk : ∀ (H1 : Heap) (locs1 : List Loc), PIC D F n ad (uf d k1 i1 (va_cpy (d.1 k i) (d.1 k1 i1) (ix sp) (ix dp) (ix z))) H1 → va_S A H0 H1 locs1 → W p l e R s m args below meth c H1 locs1 cells slots Q (F0 m (pc + 3) ls rest)) :
    W p l e R s m args below meth c H locs cells slots Q (F0 m pc ls (.int z :: .int dp :: .ref (ad k1 i1) :: .int sp :: .ref (ad k i) :: rest)) := by
  obtain ⟨hx, hb, hml, hown, hts⟩ := S
  have nn : ∀ y : Int32, 0 ≤ y.toInt → y.toInt = ((y.toNatClampNeg : Nat) : Int) := fun y hy => (ix_int hy).symm
  have np : ∀ y : Int32, 0 ≤ y.toInt → ¬ y < 0 := fun y hy q => by
    rw [Int32.lt_iff_toInt_lt, Int32.toInt_zero] at q
    omega
  have g0 := hX.1 k i hi
  rw [hF] at g0
  have g1 := hX.1 k1 i1 hi1
  rw [hF1] at g1
  intro T hT X
  obtain ⟨-, k0, hk0, cm0, hkk0⟩ := (hK.2 t0 _ ht).1 N (fun j => .int (d.1 k i j))
  obtain ⟨-, k2, hk2, cm2, hkk2⟩ := (hK.2 t0 _ ht).1 N1 (fun j => .int (d.1 k1 i1 j))
  have e4 := nn sp h1
  have e5 := nn dp h2
  have e6 := nn z h3
  obtain ⟨vm', X', step⟩ := X.arraycopy hx hown (hts _ hlink) (hts _ hnat) (hts _ hstat) (hts _ hini) (src := ad k i) (dst := ad k1 i1) (cs := vp_cell cA (N, .inl (d.1 k i))) (cd := vp_cell cA (N1, .inl (d.1 k1 i1))) (srcPos := sp) (destPos := dp) (n := z) (by rw [hT]; exact g0) (by rw [hT]; exact g1)
    (fun _ h => by cases h) (fun _ h => by cases h) (fun h => by cases h) (fun h => by cases h) hk0 hk2 hkk0 hkk2 (by simp [refKind]) (np _ h1) (np _ h2) (np _ h3)
    (by show ¬ _ > ((arrV cA N (fun j => .int (d.1 k i j))).slots.size : Int); rw [arrV_size]; omega)
    (by show ¬ _ > ((arrV cA N1 (fun j => .int (d.1 k1 i1 j))).slots.size : Int); rw [arrV_size]; omega)
    (fun vm₁ _ j hj => by
      have e : (vp_cell cA (N, .inl (d.1 k i))).slots.getD (sp.toNatClampNeg + j) .null = .int (d.1 k i (sp.toNatClampNeg + j)) := by
        show (arrV cA N (fun j => .int (d.1 k i j))).slots.getD _ _ = _
        rw [Array.getD_eq_getD_getElem?, arrV_read _ _ (by omega)]
        rfl
      rw [e]
      exact ⟨rfl, trivial⟩)
    (g := F0 m pc ls (.int z :: .int dp :: .ref (ad k1 i1) :: .int sp :: .ref (ad k i) :: rest)) rfl (by rw [hml]; exact hsz) (rest := rest) rfl (by rw [hb]; exact hdg) hframes (by show 2 * 0 + _ + _ ≤ _; omega)
  have e1 : copied (vp_cell cA (N, .inl (d.1 k i))) (vp_cell cA (N1, .inl (d.1 k1 i1))) sp dp z = vp_cell cA (N1, .inl (va_cpy (d.1 k i) (d.1 k1 i1) (ix sp) (ix dp) (ix z))) := va_copied (fun y => .int y) cA cA (d.1 k i) (d.1 k1 i1) (by omega)
  rw [e1] at X' step
  have hl : ad k1 i1 < H.size := (Array.getElem?_eq_some_iff.mp g1).1
  generalize hZ : vp_cell cA (N1, .inl (va_cpy (d.1 k i) (d.1 k1 i1) (ix sp) (ix dp) (ix z))) = Z at X' step
  have hheap : ((T.setVm vm').setCell (ad k1 i1) Z).heap = H.setIfInBounds (ad k1 i1) Z := by rw [← hT]; rfl
  have oq : ∀ q : Nat, q ≠ ad k1 i1 → (H.setIfInBounds (ad k1 i1) Z)[q]? = H[q]? := fun q hq => by simp [Array.getElem?_setIfInBounds, Ne.symm hq]
  obtain ⟨t, a1, b1⟩ := kk (H.setIfInBounds (ad k1 i1) Z) _ (hX.put hi1 (fun k' i' hq => ⟨uf_off d k1 i1 _ k' i' hq, rfl⟩) (by
      rw [uf_row]
      show va_at D vwCl (ad k1 i1, F k1 i1 _ (d.2 k1 i1)) _
      rw [hF1]
      show (H.setIfInBounds (ad k1 i1) Z)[ad k1 i1]? = some (vp_cell _ _)
      rw [hZ]
      simp [Array.getElem?_setIfInBounds, hl]) oq) ⟨by simp; exact hS.1, fun q g1 g2 => by
      rw [oq q (fun e => g2 (by rw [e]; exact hA))]
      exact hS.2.1 q g1 g2, fun q hq => by
      rcases List.mem_append.mp hq with h | h
      · exact hS.2.2 q h
      · obtain ⟨y, -, hy⟩ := List.mem_map.mp h
        rw [← hy]
        exact hA⟩ _ hheap X'
  exact ⟨t, step t a1, b1⟩
end BASE
