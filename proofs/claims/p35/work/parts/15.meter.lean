/-! ===== makings: a METER more ===== -/
def qA (v : Value) (D : va_G) (G : Gc) (ad : Nat → Nat → Nat) (M T : Nat) (d' : Dt) : Array Value → State → Outcome → State → Prop := fun _ st o t => o = .returned (some v) ∧ (∃ (M' T' : Nat) (ad' : Nat → Nat → Nat), PIC D (XF G M' T' ad') (XN M' T') ad' d' t.heap ∧ XI M' T' d' ∧ ad' 0 0 = ad 0 0 ∧ ∀ q, adS (XN M' T') ad' q → adS (XN M T) ad q ∨ st.heap.size ≤ q) ∧ va_F (fun q => adS (XN M T) ad q ∨ st.heap.size ≤ q) st t
section ALLOC
variable {p : Program} {l : Launch} {e : Env} {R : Room} {s : State} {m : MethodId} {args : Array Value} {below : List Frame} {meth : Method} {c : Code} {H : Heap} {locs : List Loc} {cells slots : Nat} {Q : State → Prop}
variable {cc : ByteArray} {nL pc : Nat} {ls : Array Slot} {rest : List Value} {D : va_G} {A : Nat → Prop} {G : Gc} {tys : List (ClassId × FieldType)} {H0 : Heap} {Ts : List Cond} {own : String} {M T : Nat} {ad : Nat → Nat → Nat} {d : Dt}
theorem aI (S : CallFix p m c cc nL s args Ts own) (hr : meth.sig.returnType = some .int) (hlk : meth.locks = false) {sp : Int32 × Dt} {v : Int32} {d1 : Dt} (hs : sp = (v, d1)) {M' T' : Nat} {ad' : Nat → Nat → Nat} (hX : PIC D (XF G M' T' ad') (XN M' T') ad' d1 H) (hI : XI M' T' d1) (h0 : ad' 0 0 = ad 0 0) (hA : ∀ q, adS (XN M' T') ad' q → adS (XN M T) ad q ∨ s.heap.size ≤ q) (hS : va_S (fun q => adS (XN M T) ad q ∨ s.heap.size ≤ q) s.heap H locs) (hdg : decode cc pc = .ok (.ireturn, 1)) :
    W p l e R s m args below meth c H locs cells slots (MQ below (qA (.int sp.1) D G ad M T sp.2) args s cells slots (fun q => adS (XN M T) ad q ∨ s.heap.size ≤ q)) (F0 m pc ls [.int v]) :=
  W.iret S.1 S.2.1 hr (fun t ht _ => ⟨by rw [hs], ⟨M', T', ad', by rw [hs, ht]; exact hX, by rw [hs]; exact hI, h0, hA⟩, hS.F ht⟩) hS.2.2 hdg hlk
theorem xnew (S : CallFix p m c cc nL s args Ts own) {C : String} {T : u_T} {N ci index : Nat} (hin : ∀ w ∈ u_ws C T N, w ∈ Ts) (ty : Nat → FieldType) (hty : ∀ k, k < N → parseFieldDescriptor (T k).2.2.1 = some (ty k)) (hcl : Cond.classLink own index C ∈ Ts) (hinst : Cond.instantiable C N ∈ Ts) (hini : Cond.initialized C ∈ Ts)
    (hK : va_K D vwCl tys s) (hc : vwCl[ci]? = some (C, T, N)) {fs : List Value} (hfs : ∀ j, j < N → defaultValue (ty j) = vp_V fs j) (hcells : cells + 1 ≤ R.cells) (hslots : slots + N ≤ R.slots) (hdg : decode cc pc = .ok (.new index, 3))
    (kk : ∀ H1 : Heap, va_at D vwCl (H.size, .inr (ci, fs)) H1 → H1.size = H.size + 1 → (∀ q, q < H.size → H1[q]? = H[q]?) → W p l e R s m args below meth c H1 locs (cells + 1) (slots + N) Q (F0 m (pc + 3) ls (.ref H.size :: rest))) : W p l e R s m args below meth c H locs cells slots Q (F0 m pc ls rest) := by
  obtain ⟨hx, hb, hml, hown, hts⟩ := S
  have hKn := hK.1 ci _ hc
  refine W.newcK hx hb hown (hts _ hcl) (hts _ hinst) (hts _ hini) rfl hdg hcells hslots hKn.2.1 rfl fun H1 kC hkC e1 z1 o1 => ?_
  exact kk H1 ⟨_, hc, (u_born ty hts hin hKn hkC e1 hty).to hfs⟩ z1 o1
theorem xaast (S : CallFix p m c cc nL s args Ts own) (hK : va_K D vwCl tys s) {a : Nat} {N t0 ci v : Nat} {cA : ClassId} {r : vw_C} {f : Nat → Option Nat} {vs : List Value} (ha : va_at D vwCl (a, .inl (cA, N, .inr (.inr (.inr (.inr f))))) H) (ht : tys[t0]? = some (cA, .object r.1)) (hv : va_at D vwCl (v, .inr (ci, vs)) H) (hc : vwCl[ci]? = some r) {x : Int32} (hin : vp_in x N) (hdg : decode cc pc = .ok (.aastore, 1))
    (kk : ∀ H1 : Heap, va_at D vwCl (a, .inl (cA, N, .inr (.inr (.inr (.inr (va_up f (ix x) (some v))))))) H1 → H1.size = H.size → (∀ q, q ≠ a → H1[q]? = H[q]?) → W p l e R s m args below meth c H1 (locs ++ [⟨a, ix x⟩]) cells slots Q (F0 m (pc + 1) ls rest)) : W p l e R s m args below meth c H locs cells slots Q (F0 m pc ls (.ref v :: .int x :: .ref a :: rest)) := by
  obtain ⟨hx, hb, hml, hown, hts⟩ := S
  have hlt : x.toNatClampNeg < N := Nat.not_le.mp fun q => hin (Or.inr q)
  have h0 : ¬ x < 0 := fun q => hin (Or.inl q)
  obtain ⟨r', hr', cellV, g1, g2, g3, -⟩ := hv
  have hcls := (hK.1 ci r hc).2
  obtain ⟨kA, comp, k1, k2, k3, -⟩ := (hK.2 t0 _ ht).2
  have hcomp : comp = D.1 ci := Option.some.inj (k3.symm.trans hcls.1)
  subst hcomp
  obtain ⟨kC, hkC, -⟩ := hcls.2
  refine W.aast hx hb ha (fun q h => by cases h) (fun h => by cases h) k1 k2 rfl hkC ⟨h0, by show _ < (arrV _ _ _).slots.size; rw [arrV_size]; exact hlt⟩ g1 (fun q h => by rw [g3] at h; cases h) (by rw [g2]; exact hkC) (by rw [g2]; exact va_assign hcls) rfl rfl hdg fun H1 e1 z oq => ?_
  refine kk H1 ?_ z oq
  show H1[a]? = some (vp_cell _ _)
  rw [e1]
  show some ((vp_cell cA (N, .inr (.inr (.inr (.inr f))))).setSlot _ _) = _
  rw [vp_cell_q, vp_cell_q, arrV_store]
  congr 2
  funext q
  by_cases hq : q = x.toNatClampNeg
  · subst hq
    simp [updV, va_up, va_rf]
  · simp [updV, va_up, hq]
end ALLOC
/-- the data with a METER more (its rows at index i) -/
def mN (d : Dt) (i : Nat) (x : Int32) : Dt := (fun k => match k with
  | 8 => fun i' => if i' = i then (fun j => match j with | 0 => x | _ => 0) else d.1 8 i'
  | 9 => fun i' => if i' = i then (fun _ => 0) else d.1 9 i'
  | 10 => fun i' => if i' = i then (fun _ => 0) else d.1 10 i'
  | 11 => fun i' => if i' = i then (fun _ => 0) else d.1 11 i'
  | 12 => fun i' => if i' = i then (fun _ => 0) else d.1 12 i'
  | k => d.1 k, d.2)
def adN (ad : Nat → Nat → Nat) (i h q1 q2 q3 q4 : Nat) : Nat → Nat → Nat := fun k => match k with
  | 8 => fun i' => if i' = i then h else ad 8 i'
  | 9 => fun i' => if i' = i then q1 else ad 9 i'
  | 10 => fun i' => if i' = i then q2 else ad 10 i'
  | 11 => fun i' => if i' = i then q3 else ad 11 i'
  | 12 => fun i' => if i' = i then q4 else ad 12 i'
  | k => ad k
noncomputable def sp_X4_meter (d : Dt) (p1 : Int32) : Int32 × Dt :=
  cif (sp_X4_isWithin p1 1 100000) (cif ((d.1 0 0 1).toInt < 6) (((d.1 0 0 1) + 1) - 1, uv (mN d (ix (d.1 0 0 1)) p1) 0 0 1 ((d.1 0 0 1) + 1)) (-4, d)) (-2, d)
theorem ix_of {x : Int32} {k : Nat} (h : x.toInt = (k : Int)) : ix x = k := by
  have := ix_int (x := x) (by omega)
  omega
theorem XI.addM {M T : Nat} {d : Dt} (h : XI M T d) (hM : M < 6) (x : Int32) : XI (M + 1) T (uv (mN d M x) 0 0 1 ((d.1 0 0 1) + 1)) := by
  obtain ⟨h1, h2, h3, h4, h5, h6, h7, h8, h9⟩ := h
  refine ⟨?_, by omega, h3, h4, fun i hi => ?_, h6, fun hb => ?_, fun t ht => ?_, h9⟩
  · show ((d.1 0 0 1) + 1).toInt = _
    rw [ti1 (by omega), h1]; omega
  · show 0 ≤ ((if i = M then (fun j => match j with | 0 => x | _ => 0) else d.1 8 i) 6 : Int32).toInt ∧ ((if i = M then (fun j => match j with | 0 => x | _ => 0) else d.1 8 i) 6 : Int32).toInt ≤ 12
    by_cases e : i = M
    · rw [if_pos e]; show 0 ≤ (0 : Int32).toInt ∧ (0 : Int32).toInt ≤ 12; decide
    · rw [if_neg e]; exact h5 i (by omega)
  · have := h7 hb
    exact ⟨this.1, Int.lt_of_lt_of_le this.2 (by omega)⟩
  · have := h8 t ht
    exact ⟨this.1, Int.lt_of_lt_of_le this.2 (by omega)⟩
/-- the picture with a METER more -/
theorem PIC.addM {D : va_G} {G : Gc} {M T : Nat} {ad : Nat → Nat → Nat} {d : Dt} {H H1 : Heap} {x : Int32} {h q1 q2 q3 q4 sz : Nat} (hX : PIC D (XF G M T ad) (XN M T) ad d H) (hsz : ∀ q, adS (XN M T) ad q → q < sz)
    (ha : va_at D vwCl (ad 1 0, .inl (G.2.2.1, 6, .inr (.inr (.inr (.inr (va_up (fun j => if j < M then some (ad 8 j) else none) M (some h))))))) H1) (oq : ∀ q, adS (XN M T) ad q → q ≠ ad 1 0 → H1[q]? = H[q]?)
    (hN : va_P D vwCl [(h, .inr (0, [.int x, .int 0, .ref q1, .ref q2, .ref q3, .ref q4, .int 0])), (q1, .inl (G.1, 4, .inl (fun _ => 0))), (q2, .inl (G.1, 12, .inl (fun _ => 0))), (q3, .inl (G.1, 12, .inl (fun _ => 0))), (q4, .inl (G.1, 12, .inl (fun _ => 0)))] H1)
    (hD : va_D (fun q => sz ≤ q) [(h, .inr (0, [.int x, .int 0, .ref q1, .ref q2, .ref q3, .ref q4, .int 0])), (q1, .inl (G.1, 4, .inl (fun _ => 0))), (q2, .inl (G.1, 12, .inl (fun _ => 0))), (q3, .inl (G.1, 12, .inl (fun _ => 0))), (q4, .inl (G.1, 12, .inl (fun _ => 0)))]) :
    PIC D (XF G (M + 1) T (adN ad M h q1 q2 q3 q4)) (XN (M + 1) T) (adN ad M h q1 q2 q3 q4) (mN d M x) H1 ∧ ∀ q, adS (XN (M + 1) T) (adN ad M h q1 q2 q3 q4) q → adS (XN M T) ad q ∨ sz ≤ q := by
  have old : ∀ k i, i < XN M T k → (k = 1 → False) → va_at D vwCl (ad k i, XF G M T ad k i (d.1 k i) (d.2 k i)) H1 := fun k i hk h1 => (hX.1 k i hk).kept (oq _ ⟨k, i, hk, rfl⟩ (fun z => h1 (hX.2 k i 1 0 hk Nat.zero_lt_one z).1))
  -- where each cell comes from: an old one, or one of the five
  have key : ∀ k i, i < XN (M + 1) T k → (i < XN M T k ∧ adN ad M h q1 q2 q3 q4 k i = ad k i) ∨ (i = M ∧ ∃ z, z < 5 ∧ k = 8 + z ∧ ([(h, .inr (0, [.int x, .int 0, .ref q1, .ref q2, .ref q3, .ref q4, .int 0])), (q1, .inl (G.1, 4, .inl (fun _ => 0))), (q2, .inl (G.1, 12, .inl (fun _ => 0))), (q3, .inl (G.1, 12, .inl (fun _ => 0))), (q4, .inl (G.1, 12, .inl (fun _ => 0)))] : va_W)[z]? = some (adN ad M h q1 q2 q3 q4 k i, XF G (M + 1) T (adN ad M h q1 q2 q3 q4) k i ((mN d M x).1 k i) ((mN d M x).2 k i))) := by
    intro k i hk
    match k, hk with
    | 0, hk => exact Or.inl ⟨hk, rfl⟩
    | 1, hk => exact Or.inl ⟨hk, rfl⟩
    | 2, hk => exact Or.inl ⟨hk, rfl⟩
    | 3, hk => exact Or.inl ⟨hk, rfl⟩
    | 4, hk => exact Or.inl ⟨hk, rfl⟩
    | 5, hk => exact Or.inl ⟨hk, rfl⟩
    | 6, hk => exact Or.inl ⟨hk, rfl⟩
    | 7, hk => exact Or.inl ⟨hk, rfl⟩
    | 8, hk =>
      by_cases e : i = M
      · subst e
        refine Or.inr ⟨rfl, 0, by omega, rfl, ?_⟩
        simp [adN, XF, mN]
      · have hk' : i < M + 1 := hk
        exact Or.inl ⟨show i < M by omega, if_neg e⟩
    | 9, hk =>
      by_cases e : i = M
      · subst e
        refine Or.inr ⟨rfl, 1, by omega, rfl, ?_⟩
        simp [adN, XF, mN]
      · have hk' : i < M + 1 := hk
        exact Or.inl ⟨show i < M by omega, if_neg e⟩
    | 10, hk =>
      by_cases e : i = M
      · subst e
        refine Or.inr ⟨rfl, 2, by omega, rfl, ?_⟩
        simp [adN, XF, mN]
      · have hk' : i < M + 1 := hk
        exact Or.inl ⟨show i < M by omega, if_neg e⟩
    | 11, hk =>
      by_cases e : i = M
      · subst e
        refine Or.inr ⟨rfl, 3, by omega, rfl, ?_⟩
        simp [adN, XF, mN]
      · have hk' : i < M + 1 := hk
        exact Or.inl ⟨show i < M by omega, if_neg e⟩
    | 12, hk =>
      by_cases e : i = M
      · subst e
        refine Or.inr ⟨rfl, 4, by omega, rfl, ?_⟩
        simp [adN, XF, mN]
      · have hk' : i < M + 1 := hk
        exact Or.inl ⟨show i < M by omega, if_neg e⟩
    | 13, hk => exact Or.inl ⟨hk, rfl⟩
    | n + 14, hk => exact absurd hk (Nat.not_lt_zero _)
  refine ⟨⟨fun k i hk => ?_, fun k i k' i' hk hk' e => ?_⟩, fun q hq => ?_⟩
  · rcases key k i hk with ⟨g1, g2⟩ | ⟨g1, z, g2, g3, g4⟩
    · rw [g2]
      by_cases h1 : k = 1
      · subst h1
        have e : i = 0 := Nat.lt_one_iff.mp g1
        subst e
        have ef : (fun j => if j < M + 1 then some (adN ad M h q1 q2 q3 q4 8 j) else none) = va_up (fun j => if j < M then some (ad 8 j) else none) M (some h) := by
          funext j
          show (if j < M + 1 then some (if j = M then h else ad 8 j) else none) = if j = M then some h else if j < M then some (ad 8 j) else none
          by_cases e1 : j = M
          · rw [if_pos (by omega), if_pos e1, if_pos e1]
          · by_cases e2 : j < M
            · rw [if_pos (by omega), if_neg e1, if_neg e1, if_pos e2]
            · rw [if_neg (by omega), if_neg e1, if_neg e2]
        show va_at D vwCl (ad 1 0, .inl (G.2.2.1, 6, .inr (.inr (.inr (.inr (fun j => if j < M + 1 then some (adN ad M h q1 q2 q3 q4 8 j) else none)))))) H1
        rw [ef]
        exact ha
      · have h2 := old k i g1 (fun z => h1 z)
        have h3 : XF G (M + 1) T (adN ad M h q1 q2 q3 q4) k i ((mN d M x).1 k i) ((mN d M x).2 k i) = XF G M T ad k i (d.1 k i) (d.2 k i) := by
          match k, g1, h1 with
          | 0, _, _ => rfl
          | 1, _, h1 => exact absurd rfl h1
          | 2, _, _ => rfl
          | 3, _, _ => rfl
          | 4, _, _ => rfl
          | 5, _, _ => rfl
          | 6, _, _ => rfl
          | 7, _, _ => rfl
          | 8, g1, _ => have e : i ≠ M := by have : i < M := g1; omega
                        simp [adN, XF, mN, e]
          | 9, g1, _ => have e : i ≠ M := by have : i < M := g1; omega
                        simp [XF, mN, e]
          | 10, g1, _ =>
            have e : i ≠ M := by have : i < M := g1; omega
            simp [XF, mN, e]
          | 11, g1, _ =>
            have e : i ≠ M := by have : i < M := g1; omega
            simp [XF, mN, e]
          | 12, g1, _ =>
            have e : i ≠ M := by have : i < M := g1; omega
            simp [XF, mN, e]
          | 13, _, _ => rfl
          | n + 14, g1, _ => exact absurd g1 (Nat.not_lt_zero _)
        rw [h3]
        exact h2
    · exact hN z _ g4
  · rcases key k i hk with ⟨g1, g2⟩ | ⟨g1, z, g2, g3, g4⟩ <;> rcases key k' i' hk' with ⟨f1, f2⟩ | ⟨f1, y, f2, f3, f4⟩
    · rw [g2, f2] at e
      exact hX.2 k i k' i' g1 f1 e
    · exfalso
      have a1 := hsz _ ⟨k, i, g1, rfl⟩
      have a2 := hD.2 _ _ f4
      have a3 : sz ≤ adN ad M h q1 q2 q3 q4 k' i' := a2
      omega
    · exfalso
      have a1 := hsz _ ⟨k', i', f1, rfl⟩
      have a2 := hD.2 _ _ g4
      have a3 : sz ≤ adN ad M h q1 q2 q3 q4 k i := a2
      omega
    · have := hD.1 _ _ _ _ g4 f4 e
      omega
  · obtain ⟨k, i, hk, rfl⟩ := hq
    rcases key k i hk with ⟨g1, g2⟩ | ⟨g1, z, g2, g3, g4⟩
    · exact Or.inl ⟨k, i, g1, g2⟩
    · exact Or.inr (hD.2 _ _ g4)
set_option maxRecDepth 100000 in
set_option maxHeartbeats 8000000 in
theorem c_X4_meter (l : Launch) (D : va_G) (G : Gc) (M T : Nat) (ad : Nat → Nat → Nat) (d : Dt) (sz : Nat) (p1 : Int32) (hI : XI M T d) : Met l yX4_meter (wsU yX4_meter cX4_meter 2 (some .int)) ({ frames := 2, cells := 5, slots := 47, locals := 45 } : Room) (va_Pc [.ref (ad 0 0), .int p1] (fun U => U.heap.size = sz ∧ XPre D (tysG G) (XF G M T ad) (XN M T) ad d U)) (qA (.int (sp_X4_meter d p1).1) D G ad M T (sp_X4_meter d p1).2) 5 47 (fun q => adS (XN M T) ad q ∨ sz ≤ q) := by
  refine ent (by decide +kernel) (Nat.le_of_ble_eq_true rfl) ?_
  intro p e s m below meth c S hr hlk hpre ls hl
  have S : CallFix p m c cX4_meter 2 s [.ref (ad 0 0), .int p1].toArray wsL_law RX4 := S
  obtain ⟨hsz, hK, hN, hX⟩ := hpre
  subst hsz
  have hl : lv_has ls 2 [(0, .ref (ad 0 0)), (1, .int p1)] := hl
  have hs := sp_X4_meter.eq_1 d p1
  have hS : va_S (fun q => adS (XN M T) ad q ∨ s.heap.size ≤ q) s.heap s.heap [] := va_S.rf
  have q1 := hI.1
  have q2 := hI.2.1
  refine lv_iload_n S.1 S.2.1 dX4_meter_0 rfl (lv_at hl 1 rfl) ?_
  refine lv_iconst (v := 1) S.1 S.2.1 dX4_meter_1 (by decide) ?_
  refine lv_ldc S.1 S.2.1 S.2.2.2.1 (S.2.2.2.2 _ wKI_RX4_53) dX4_meter_2 ?_
  refine cPS (rest := []) S (c_X4_isWithin l p1 1 100000) gS_RX4_54 ds_X4_isWithin.2 ⟨rfl, rfl⟩ ⟨Nat.le_of_ble_eq_true rfl, Nat.le_of_ble_eq_true rfl⟩ rfl hl.1 rfl (Nat.le_of_ble_eq_true rfl) ⟨Nat.le_of_ble_eq_true rfl, Nat.le_of_ble_eq_true rfl⟩ dX4_meter_4 ?_
  refine q_if_ne_b (tgt := 13) S dX4_meter_7 (by decide) (fun c1 => ?_) (fun c1 => ?_)
  · have hs := hs.trans (cif_t c1)
    refine lv_aload_n S.1 S.2.1 dX4_meter_13 rfl (lv_at hl 0 rfl) ?_
    refine gf_RX4_17 S hK hX (v := d.1 0 0 1) rfl dX4_meter_14 ?_
    refine lv_bipush (v := 6) S.1 S.2.1 dX4_meter_17 (by decide) ?_
    refine q_icmp_lt (tgt := 25) (xi := (d.1 0 0 1).toInt) (yi := 6) S rfl rfl dX4_meter_19 (by decide) (fun c2 => ?_) (fun c2 => ?_)
    · have hs := hs.trans (cif_t c2)
      have hM : ix (d.1 0 0 1) = M := ix_of q1
      have bX : ∀ q, adS (XN M T) ad q → q < s.heap.size := fun q ⟨k, i, hk, e⟩ => by rw [e]; exact hX.lt hk
      refine lv_aload_n S.1 S.2.1 dX4_meter_25 rfl (lv_at hl 0 rfl) ?_
      refine gf_RX4_13 S hK hX dX4_meter_26 ?_
      refine lv_aload_n S.1 S.2.1 dX4_meter_29 rfl (lv_at hl 0 rfl) ?_
      refine gf_RX4_17 S hK hX (v := d.1 0 0 1) rfl dX4_meter_30 ?_
      refine xnew S inlX0 tyX0 tyX0_ok wCL_RX4_11 wIS_RX0 wIN_RX0 hK (ci := 0) rfl (fs := [.int 0, .int 0, .null, .null, .null, .null, .int 0]) (fun j hj => by rcases (show j = 0 ∨ j = 1 ∨ j = 2 ∨ j = 3 ∨ j = 4 ∨ j = 5 ∨ j = 6 by omega) with rfl | rfl | rfl | rfl | rfl | rfl | rfl <;> rfl) (Nat.le_of_ble_eq_true rfl) (Nat.le_of_ble_eq_true rfl) dX4_meter_33 (fun H1 hc1 z1 o1 => ?_)
      refine W.widen (k := 1) (n := 7) (Nat.le_of_ble_eq_true rfl) (Nat.le_of_ble_eq_true rfl) ?_
      refine lv_dup S.1 S.2.1 dX4_meter_36 rfl ?_
      refine lv_iload_n S.1 S.2.1 dX4_meter_37 rfl (lv_at hl 1 rfl) ?_
      have hPc : va_P D vwCl [(s.heap.size, .inr (0, [.int 0, .int 0, .null, .null, .null, .null, .int 0]))] H1 := fun j q hq => by
        have hz : j < 1 := (List.getElem?_eq_some_iff.mp hq).1
        rw [show j = 0 by omega] at hq
        cases hq
        exact hc1
      have hDc : va_D (fun _ => True) [(s.heap.size, .inr (0, [.int 0, .int 0, .null, .null, .null, .null, .int 0]))] := ⟨fun i j x y hx hy _ => by
        have h1 : i < 1 := (List.getElem?_eq_some_iff.mp hx).1
        have h2 : j < 1 := (List.getElem?_eq_some_iff.mp hy).1
        omega, fun _ _ _ => trivial⟩
      have hS1 : va_S (fun q => adS (XN M T) ad q ∨ s.heap.size ≤ q) s.heap H1 [] := ⟨by omega, fun q g1 _ => o1 q g1, fun _ h => by cases h⟩
      have hA1 : ∀ q, va_A [(s.heap.size, .inr (0, [.int 0, .int 0, .null, .null, .null, .null, .int 0]))] H1.size q → s.heap.size ≤ q := fun q h => by
        rcases h with ⟨k, e, h⟩ | h
        · have hz : k < 1 := (List.getElem?_eq_some_iff.mp h).1
          rw [show k = 0 by omega] at h
          cases h
          exact Nat.le_refl _
        · omega
      refine va_callv (va_runI (As := [.int p1]) (rest := [.ref s.heap.size, .int (d.1 0 0 1), .ref (ad 1 0)]) S (c_X0_init l D G s.heap.size H1.size p1) (cwI 1 S.2.2.2.2 (goodUL wCO_X0_init) rfl rfl rfl (S.2.2.2.2 _ wIN_RX0) (S.2.2.2.2 _ wML_RX4_58) (S.2.2.2.2 _ wIM_X0_init) rfl ds_X0_init.2 ⟨Nat.le_of_ble_eq_true rfl, Nat.le_of_ble_eq_true rfl⟩)
        ⟨fun a U gg mk q => ⟨q.1, q.2.1, q.2.2.1, va_K.moved (u := U) (U := U.calling gg mk a) (Vm.Alike.refl U.vm) q.2.2.2.1, NW.same (u := U) (U := U.calling gg mk a) rfl q.2.2.2.2.1, q.2.2.2.2.2⟩, fun U hU hW => ⟨rfl, by rw [hU], by rw [hU]; exact hPc, va_K.moved hW.alike hK, NW.warm hW hN, hDc⟩⟩ rfl rfl hl.1 rfl (lv_room (Nat.le_of_ble_eq_true rfl)) dX4_meter_38 ⟨Nat.le_of_ble_eq_true rfl, Nat.le_of_ble_eq_true rfl⟩) hS1 (fun q _ h => Or.inr (hA1 q h)) (fun q h => Or.inr (hA1 q h)) (fun u t H2 locs ht hvm hw hB hz2 hk2 hS => ?_)
      obtain ⟨u1, u2, u3, u4⟩ := u
      obtain ⟨hP2, hD2⟩ := hB
      rw [ht] at hP2
      refine W.widen (k := 5) (n := 47) (Nat.le_of_ble_eq_true rfl) (Nat.le_of_ble_eq_true rfl) ?_
      have o2 : ∀ q, adS (XN M T) ad q → H2[q]? = s.heap[q]? := fun q hq => by
        have b := bX q hq
        rw [hk2 q (by omega) (fun z => by have := hA1 q z; omega)]
        exact o1 q b
      have hX2 := hX.kept o2
      have hD2 := hD2.weaken (B := fun q => s.heap.size ≤ q) (fun k q _ h => hA1 q.1 h)
      refine xaast S hK (a := ad 1 0) (N := 6) (t0 := 2) (ci := 0) (cA := G.2.2.1) (hX2.1 1 0 Nat.zero_lt_one) rfl (hP2 0 _ rfl) rfl (vi (by omega) (by omega)) dX4_meter_41 (fun H3 ha z3 o3 => ?_)
      have hS := hS.put (k := ix (d.1 0 0 1)) z3 o3 (Or.inl ⟨1, 0, Nat.zero_lt_one, rfl⟩)
      rw [hM] at ha
      have ne1 : ∀ q, s.heap.size ≤ q → q ≠ ad 1 0 := fun q h z => by
        have := bX (ad 1 0) ⟨1, 0, Nat.zero_lt_one, rfl⟩
        omega
      have hP3 := hP2.kept (H1 := H3) (fun k q hq => o3 q.1 (ne1 q.1 (hD2.2 k q hq)))
      obtain ⟨hX3, hA3⟩ := hX2.addM (x := p1) (sz := s.heap.size) bX ha (fun q hq hne => o3 q hne) hP3 hD2
      have hl : lv_has ls 2 [(0, .ref (adN ad M s.heap.size u1 u2 u3 u4 0 0)), (1, .int p1)] := hl
      have h00 : adN ad M s.heap.size u1 u2 u3 u4 0 0 = ad 0 0 := rfl
      generalize adN ad M s.heap.size u1 u2 u3 u4 = ad' at hX3 hA3 hl h00
      refine lv_aload_n S.1 S.2.1 dX4_meter_42 rfl (lv_at hl 0 rfl) ?_
      refine lv_dup S.1 S.2.1 dX4_meter_43 rfl ?_
      refine gf_RX4_17 S hK hX3 (v := d.1 0 0 1) rfl dX4_meter_44 ?_
      refine lv_iconst (v := 1) S.1 S.2.1 dX4_meter_47 (by decide) ?_
      refine lv_iadd S.1 S.2.1 dX4_meter_48 ?_
      refine xput S inlX4 tyX4 tyX4_ok nmX4 hK hX3 hS (k := 0) (i := 0) Nat.zero_lt_one (Or.inl ⟨0, 0, Nat.zero_lt_one, h00⟩) rfl rfl 1 (by decide) rfl wFL_RX4_17 rfl (ty := .int) rfl rfl rfl (Nat.le_of_ble_eq_true rfl) rfl dX4_meter_49 (fun H locs hX hS => ?_)
      refine lv_aload_n S.1 S.2.1 dX4_meter_52 rfl (lv_at hl 0 rfl) ?_
      refine gf_RX4_17 S hK hX (v := (d.1 0 0 1) + 1) rfl dX4_meter_53 ?_
      refine lv_iconst (v := 1) S.1 S.2.1 dX4_meter_56 (by decide) ?_
      refine lv_isub S.1 S.2.1 dX4_meter_57 ?_
      rw [hM] at hs
      exact aI S hr hlk hs hX (hI.addM (by omega) p1) h00 hA3 hS dX4_meter_58
    · have hs := hs.trans (cif_f c2)
      refine lv_bipush (v := (-4)) S.1 S.2.1 dX4_meter_22 (by decide) ?_
      refine W.widen (k := 5) (n := 47) (Nat.le_of_ble_eq_true rfl) (Nat.le_of_ble_eq_true rfl) ?_
      exact aI S hr hlk hs hX hI rfl (fun q h => Or.inl h) hS dX4_meter_24
  · have hs := hs.trans (cif_f c1)
    refine lv_bipush (v := (-2)) S.1 S.2.1 dX4_meter_10 (by decide) ?_
    refine W.widen (k := 5) (n := 47) (Nat.le_of_ble_eq_true rfl) (Nat.le_of_ble_eq_true rfl) ?_
    exact aI S hr hlk hs hX hI rfl (fun q h => Or.inl h) hS dX4_meter_12
