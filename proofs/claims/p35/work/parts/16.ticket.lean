/-! ===== makings: a Ticket more ===== -/
/-- as XN, with a Ticket that no one keeps yet -/
def XNl (M T : Nat) (k : Nat) : Nat := match k with
  | 13 => T + 1
  | k => XN M T k
theorem XNl_le {M T k i : Nat} (h : i < XN M T k) : i < XNl M T k := by
  match k, h with
  | 0, h => exact h
  | 1, h => exact h
  | 2, h => exact h
  | 3, h => exact h
  | 4, h => exact h
  | 5, h => exact h
  | 6, h => exact h
  | 7, h => exact h
  | 8, h => exact h
  | 9, h => exact h
  | 10, h => exact h
  | 11, h => exact h
  | 12, h => exact h
  | 13, h => exact Nat.lt_succ_of_lt h
  | n + 14, h => exact h
theorem XNl_s (M T k : Nat) : XN M (T + 1) k = XNl M T k := by
  match k with
  | 0 => rfl
  | 1 => rfl
  | 2 => rfl
  | 3 => rfl
  | 4 => rfl
  | 5 => rfl
  | 6 => rfl
  | 7 => rfl
  | 8 => rfl
  | 9 => rfl
  | 10 => rfl
  | 11 => rfl
  | 12 => rfl
  | 13 => rfl
  | n + 14 => rfl
theorem XF_s {G : Gc} {M T : Nat} {ad : Nat → Nat → Nat} {k i : Nat} {v : Nat → Int32} {w : Nat → Int64} (h : k ≠ 4) : XF G M (T + 1) ad k i v w = XF G M T ad k i v w := by
  match k, h with
  | 0, _ => rfl
  | 1, _ => rfl
  | 2, _ => rfl
  | 3, _ => rfl
  | 4, h => exact absurd rfl h
  | 5, _ => rfl
  | 6, _ => rfl
  | 7, _ => rfl
  | 8, _ => rfl
  | 9, _ => rfl
  | 10, _ => rfl
  | 11, _ => rfl
  | 12, _ => rfl
  | n + 13, _ => rfl
theorem PIC.weak {D : va_G} {F : Nat → Nat → (Nat → Int32) → (Nat → Int64) → va_E} {M T : Nat} {ad : Nat → Nat → Nat} {d : Dt} {H : Heap} (h : PIC D F (XNl M T) ad d H) : PIC D F (XN M T) ad d H :=
  ⟨fun k i hk => h.1 k i (XNl_le hk), fun k i k' i' h1 h2 e => h.2 k i k' i' (XNl_le h1) (XNl_le h2) e⟩
theorem PIC.szB {D : va_G} {F : Nat → Nat → (Nat → Int32) → (Nat → Int64) → va_E} {n : Nat → Nat} {ad : Nat → Nat → Nat} {d : Dt} {H : Heap} (h : PIC D F n ad d H) {q : Nat} (hq : adS n ad q) : q < H.size := by
  obtain ⟨k, i, hk, e⟩ := hq
  rw [e]
  exact h.lt hk
/-- the data of a new Ticket at index T -/
def tN (d : Dt) (T : Nat) (x0 x1 x2 x3 x4 : Int32) : Dt := (fun k => match k with
  | 13 => fun i => if i = T then (fun j => match j with | 0 => x0 | 1 => x1 | 2 => x2 | 3 => x3 | 4 => x4 | 5 => 0 | _ => -9) else d.1 13 i
  | k => d.1 k, d.2)
def adT (ad : Nat → Nat → Nat) (T h : Nat) : Nat → Nat → Nat := fun k => match k with
  | 13 => fun i => if i = T then h else ad 13 i
  | k => ad k
theorem PIC.addL {D : va_G} {G : Gc} {M T : Nat} {ad : Nat → Nat → Nat} {d : Dt} {H1 : Heap} {x0 x1 x2 x3 x4 : Int32} {h sz : Nat} (hX : PIC D (XF G M T ad) (XN M T) ad d H1) (hsz : ∀ q, adS (XN M T) ad q → q < sz) (hh : sz ≤ h)
    (hN : va_at D vwCl (h, .inr (3, [.int x0, .int x1, .int x2, .int x3, .int x4, .int 0, .int (-9), .int (-9)])) H1) :
    PIC D (XF G M T (adT ad T h)) (XNl M T) (adT ad T h) (tN d T x0 x1 x2 x3 x4) H1 ∧ ∀ q, adS (XNl M T) (adT ad T h) q → adS (XN M T) ad q ∨ sz ≤ q := by
  have key : ∀ k i, i < XNl M T k → (i < XN M T k ∧ adT ad T h k i = ad k i ∧ XF G M T (adT ad T h) k i ((tN d T x0 x1 x2 x3 x4).1 k i) ((tN d T x0 x1 x2 x3 x4).2 k i) = XF G M T ad k i (d.1 k i) (d.2 k i)) ∨ (k = 13 ∧ i = T) := by
    intro k i hk
    match k, hk with
    | 0, hk => exact Or.inl ⟨hk, rfl, rfl⟩
    | 1, hk => exact Or.inl ⟨hk, rfl, rfl⟩
    | 2, hk => exact Or.inl ⟨hk, rfl, rfl⟩
    | 3, hk => exact Or.inl ⟨hk, rfl, rfl⟩
    | 4, hk =>
      refine Or.inl ⟨hk, rfl, ?_⟩
      have ef : (fun j => if j < T then some (adT ad T h 13 j) else none) = (fun j => if j < T then some (ad 13 j) else none) := by
        funext j
        by_cases e : j < T
        · rw [if_pos e, if_pos e]
          show some (if j = T then h else ad 13 j) = _
          rw [if_neg (by omega)]
        · rw [if_neg e, if_neg e]
      show (.inl (G.2.2.2.2, 40, .inr (.inr (.inr (.inr (fun j => if j < T then some (adT ad T h 13 j) else none))))) : va_E) = .inl (G.2.2.2.2, 40, .inr (.inr (.inr (.inr (fun j => if j < T then some (ad 13 j) else none)))))
      rw [ef]
    | 5, hk => exact Or.inl ⟨hk, rfl, rfl⟩
    | 6, hk => exact Or.inl ⟨hk, rfl, rfl⟩
    | 7, hk => exact Or.inl ⟨hk, rfl, rfl⟩
    | 8, hk => exact Or.inl ⟨hk, rfl, rfl⟩
    | 9, hk => exact Or.inl ⟨hk, rfl, rfl⟩
    | 10, hk => exact Or.inl ⟨hk, rfl, rfl⟩
    | 11, hk => exact Or.inl ⟨hk, rfl, rfl⟩
    | 12, hk => exact Or.inl ⟨hk, rfl, rfl⟩
    | 13, hk =>
      have hk' : i < T + 1 := hk
      by_cases e : i = T
      · exact Or.inr ⟨rfl, e⟩
      · refine Or.inl ⟨show i < T by omega, if_neg e, ?_⟩
        simp [XF, tN, e]
    | n + 14, hk => exact absurd hk (Nat.not_lt_zero _)
  have eT : adT ad T h 13 T = h := if_pos rfl
  refine ⟨⟨fun k i hk => ?_, fun k i k' i' hk hk' e => ?_⟩, fun q hq => ?_⟩
  · rcases key k i hk with ⟨g1, g2, g3⟩ | ⟨rfl, rfl⟩
    · rw [g2, g3]; exact hX.1 k i g1
    · rw [eT]
      have e : XF G M i (adT ad i h) 13 i ((tN d i x0 x1 x2 x3 x4).1 13 i) ((tN d i x0 x1 x2 x3 x4).2 13 i) = .inr (3, [.int x0, .int x1, .int x2, .int x3, .int x4, .int 0, .int (-9), .int (-9)]) := by simp [XF, tN]
      rw [e]; exact hN
  · rcases key k i hk with ⟨g1, g2, -⟩ | ⟨rfl, rfl⟩ <;> rcases key k' i' hk' with ⟨f1, f2, -⟩ | ⟨rfl, rfl⟩
    · rw [g2, f2] at e
      exact hX.2 k i k' i' g1 f1 e
    · exfalso
      have a1 := hsz _ ⟨k, i, g1, rfl⟩
      rw [g2, eT] at e
      omega
    · exfalso
      have a1 := hsz _ ⟨k', i', f1, rfl⟩
      rw [f2, eT] at e
      omega
    · exact ⟨rfl, rfl⟩
  · obtain ⟨k, i, hk, rfl⟩ := hq
    rcases key k i hk with ⟨g1, g2, -⟩ | ⟨rfl, rfl⟩
    · exact Or.inl ⟨k, i, g1, g2⟩
    · rw [eT]; exact Or.inr hh
theorem PIC.addK {D : va_G} {G : Gc} {M T : Nat} {ad : Nat → Nat → Nat} {d : Dt} {H H1 : Heap} (hX : PIC D (XF G M T ad) (XNl M T) ad d H)
    (ha : va_at D vwCl (ad 4 0, .inl (G.2.2.2.2, 40, .inr (.inr (.inr (.inr (va_up (fun j => if j < T then some (ad 13 j) else none) T (some (ad 13 T)))))))) H1) (oq : ∀ q, q ≠ ad 4 0 → H1[q]? = H[q]?) : PIC D (XF G M (T + 1) ad) (XN M (T + 1)) ad d H1 := by
  refine ⟨fun k i hk => ?_, fun k i k' i' h1 h2 e => hX.2 k i k' i' (by rw [← XNl_s]; exact h1) (by rw [← XNl_s]; exact h2) e⟩
  rw [XNl_s] at hk
  by_cases h4 : k = 4
  · subst h4
    have e : i = 0 := Nat.lt_one_iff.mp hk
    subst e
    have ef : (fun j => if j < T + 1 then some (ad 13 j) else none) = va_up (fun j => if j < T then some (ad 13 j) else none) T (some (ad 13 T)) := by
      funext j
      show (if j < T + 1 then some (ad 13 j) else none) = if j = T then some (ad 13 T) else if j < T then some (ad 13 j) else none
      by_cases e1 : j = T
      · rw [if_pos (by omega), if_pos e1, e1]
      · by_cases e2 : j < T
        · rw [if_pos (by omega), if_neg e1, if_pos e2]
        · rw [if_neg (by omega), if_neg e1, if_neg e2]
    show va_at D vwCl (ad 4 0, .inl (G.2.2.2.2, 40, .inr (.inr (.inr (.inr (fun j => if j < T + 1 then some (ad 13 j) else none)))))) H1
    rw [ef]
    exact ha
  · rw [XF_s h4]
    exact (hX.1 k i hk).kept (oq _ (fun z => h4 (hX.2 k i 4 0 hk Nat.zero_lt_one z).1))
/-- the state's bounds, with a Ticket that no one keeps yet -/
def XIl (M T : Nat) (d : Dt) : Prop := XI M T d ∧ 0 ≤ (d.1 13 T 0).toInt ∧ (d.1 13 T 0).toInt < (M : Int)
theorem XI.addL {M T : Nat} {d : Dt} (h : XI M T d) {x0 x1 x2 x3 x4 : Int32} (h0 : 0 ≤ x0.toInt) (h1 : x0.toInt < (M : Int)) : XIl M T (tN d T x0 x1 x2 x3 x4) := by
  obtain ⟨g1, g2, g3, g4, g5, g6, g7, g8, g9⟩ := h
  refine ⟨⟨g1, g2, g3, g4, g5, g6, g7, fun t ht => ?_, g9⟩, ?_⟩
  · show 0 ≤ ((if t = T then (fun j => match j with | 0 => x0 | 1 => x1 | 2 => x2 | 3 => x3 | 4 => x4 | 5 => 0 | _ => -9) else d.1 13 t) 0 : Int32).toInt ∧ ((if t = T then (fun j => match j with | 0 => x0 | 1 => x1 | 2 => x2 | 3 => x3 | 4 => x4 | 5 => 0 | _ => -9) else d.1 13 t) 0 : Int32).toInt < (M : Int)
    rw [if_neg (by omega)]
    exact g8 t ht
  · show 0 ≤ ((if T = T then (fun j => match j with | 0 => x0 | 1 => x1 | 2 => x2 | 3 => x3 | 4 => x4 | 5 => 0 | _ => -9) else d.1 13 T) 0 : Int32).toInt ∧ ((if T = T then (fun j => match j with | 0 => x0 | 1 => x1 | 2 => x2 | 3 => x3 | 4 => x4 | 5 => 0 | _ => -9) else d.1 13 T) 0 : Int32).toInt < (M : Int)
    rw [if_pos rfl]
    exact ⟨h0, h1⟩
theorem s13_0 {d : Dt} {i j t : Nat} {x : Int32} (hj : j ≠ 0) : (uv d 13 i j x).1 13 t 0 = d.1 13 t 0 := by
  by_cases e : t = i
  · subst e; simp [uv, Ne.symm hj]
  · simp [uv, e]
theorem XI.s13 {M T : Nat} {d : Dt} {i j : Nat} {x : Int32} (h : XI M T d) (hj : j ≠ 0) : XI M T (uv d 13 i j x) := by
  obtain ⟨g1, g2, g3, g4, g5, g6, g7, g8, g9⟩ := h
  exact ⟨g1, g2, g3, g4, g5, g6, g7, fun t ht => by rw [s13_0 hj]; exact g8 t ht, g9⟩
theorem XIl.s13 {M T : Nat} {d : Dt} {i j : Nat} {x : Int32} (h : XIl M T d) (hj : j ≠ 0) : XIl M T (uv d 13 i j x) := ⟨h.1.s13 hj, by rw [s13_0 hj]; exact h.2⟩
theorem XIl.keep {M T : Nat} {d : Dt} (h : XIl M T d) (hT : T < 40) : XI M (T + 1) (uv d 0 0 4 ((d.1 0 0 4) + 1)) := by
  obtain ⟨⟨g1, g2, g3, g4, g5, g6, g7, g8, g9⟩, k1⟩ := h
  refine ⟨g1, g2, ?_, by omega, g5, g6, g7, fun t ht => ?_, g9⟩
  · show ((d.1 0 0 4) + 1).toInt = _
    rw [ti1 (by omega), g3]; omega
  · show 0 ≤ (d.1 13 t 0).toInt ∧ (d.1 13 t 0).toInt < (M : Int)
    by_cases e : t = T
    · rw [e]; exact k1
    · exact g8 t (by omega)
def sp_X4_keep (d : Dt) : Dt := uv d 0 0 4 ((d.1 0 0 4) + 1)
set_option maxRecDepth 100000 in
set_option maxHeartbeats 8000000 in
theorem c_X4_keep (l : Launch) (D : va_G) (G : Gc) (M T : Nat) (ad : Nat → Nat → Nat) (d : Dt) (h0 : (d.1 0 0 4).toInt = (T : Int)) (h1 : T < 40) : Met l yX4_keep (wsU yX4_keep cX4_keep 2 none) ({ frames := 0, cells := 0, slots := 0, locals := 0 } : Room) (va_Pc [.ref (ad 0 0), .ref (ad 13 T)] (XPre D (tysG G) (XF G M T ad) (XNl M T) ad d)) (qW none D (XF G M (T + 1) ad) (XN M (T + 1)) ad (sp_X4_keep d)) 0 0 (adS (XN M (T + 1)) ad) := by
  refine ent (by decide +kernel) (Nat.le_of_ble_eq_true rfl) ?_
  intro p e s m below meth c S hr hlk hpre ls hl
  have S : CallFix p m c cX4_keep 2 s [.ref (ad 0 0), .ref (ad 13 T)].toArray wsL_law RX4 := S
  obtain ⟨hK, hN, hX⟩ := hpre
  have hl : lv_has ls 2 [(0, .ref (ad 0 0)), (1, .ref (ad 13 T))] := hl
  have hS : va_S (adS (XN M (T + 1)) ad) s.heap s.heap [] := va_S.rf
  have hT : ix (d.1 0 0 4) = T := ix_of h0
  refine lv_aload_n S.1 S.2.1 dX4_keep_0 rfl (lv_at hl 0 rfl) ?_
  refine gf_RX4_30 S hK hX.weak dX4_keep_1 ?_
  refine lv_aload_n S.1 S.2.1 dX4_keep_4 rfl (lv_at hl 0 rfl) ?_
  refine gf_RX4_34 S hK hX.weak (v := d.1 0 0 4) rfl dX4_keep_5 ?_
  refine lv_aload_n S.1 S.2.1 dX4_keep_8 rfl (lv_at hl 1 rfl) ?_
  refine xaast S hK (a := ad 4 0) (N := 40) (t0 := 4) (ci := 3) (cA := G.2.2.2.2) (hX.1 4 0 Nat.zero_lt_one) rfl (hX.1 13 T (Nat.lt_succ_self T)) rfl (vi (by omega) (by omega)) dX4_keep_9 (fun H1 ha z1 o1 => ?_)
  rw [hT] at ha
  have hX1 := hX.addK ha o1
  have hS := hS.put (k := ix (d.1 0 0 4)) z1 o1 ⟨4, 0, Nat.zero_lt_one, rfl⟩
  refine lv_aload_n S.1 S.2.1 dX4_keep_10 rfl (lv_at hl 0 rfl) ?_
  refine lv_dup S.1 S.2.1 dX4_keep_11 rfl ?_
  refine gf_RX4_34 S hK hX1 (v := d.1 0 0 4) rfl dX4_keep_12 ?_
  refine lv_iconst (v := 1) S.1 S.2.1 dX4_keep_15 (by decide) ?_
  refine lv_iadd S.1 S.2.1 dX4_keep_16 ?_
  refine pf_RX4_34 S hK hX1 hS dX4_keep_17 (fun H locs hX hS => ?_)
  exact wV S hr hlk rfl hX hS dX4_keep_20
def qB (v : Option Value) (D : va_G) (G : Gc) (ad : Nat → Nat → Nat) (M T : Nat) (d' : Dt) : Array Value → State → Outcome → State → Prop := fun _ st o t => o = .returned v ∧ (∃ (M' T' : Nat) (ad' : Nat → Nat → Nat), PIC D (XF G M' T' ad') (XN M' T') ad' d' t.heap ∧ XI M' T' d' ∧ ad' 0 0 = ad 0 0 ∧ ∀ q, adS (XN M' T') ad' q → adS (XN M T) ad q ∨ st.heap.size ≤ q) ∧ va_F (fun q => adS (XN M T) ad q ∨ st.heap.size ≤ q) st t
noncomputable def sp_X4_replace (d : Dt) (p1 p2 p3 : Int32) : Dt :=
  sp_X4_keep (uv (uv (uv (tN d (ix (d.1 0 0 4)) (d.1 13 (ix p1) 0) (d.1 13 (ix p1) 1) p3 (d.1 13 (ix p1) 3) (sp_X4_factorNow d (ix p1))) 13 (ix (d.1 0 0 4)) 5 p2) 13 (ix (d.1 0 0 4)) 7 p1) 13 (ix p1) 6 (d.1 0 0 4))
theorem XI.rep {M T : Nat} {d : Dt} (h : XI M T d) {p1 p2 p3 : Int32} (h0 : ix p1 < T) (hT : T < 40) : XI M (T + 1) (sp_X4_replace d p1 p2 p3) := by
  have e : ix (d.1 0 0 4) = T := ix_of h.2.2.1
  unfold sp_X4_replace
  rw [e]
  exact ((((h.addL (h.tm h0).1 (h.tm h0).2).s13 (by decide)).s13 (by decide)).s13 (by decide)).keep hT
set_option maxRecDepth 100000 in
set_option maxHeartbeats 8000000 in
theorem c_X4_replace (l : Launch) (D : va_G) (G : Gc) (M T : Nat) (ad : Nat → Nat → Nat) (d : Dt) (sz : Nat) (p1 p2 p3 : Int32) (hI : XI M T d) (h0 : 0 ≤ p1.toInt) (h1 : p1.toInt < (T : Int)) (h2 : T < 40) : Met l yX4_replace (wsU yX4_replace cX4_replace 6 none) ({ frames := 3, cells := 1, slots := 8, locals := 70 } : Room) (va_Pc [.ref (ad 0 0), .int p1, .int p2, .int p3] (fun U => U.heap.size = sz ∧ XPre D (tysG G) (XF G M T ad) (XN M T) ad d U)) (qB none D G ad M T (sp_X4_replace d p1 p2 p3)) 1 8 (fun q => adS (XN M T) ad q ∨ sz ≤ q) := by
  refine ent (by decide +kernel) (Nat.le_of_ble_eq_true rfl) ?_
  intro p e s m below meth c S hr hlk hpre ls hl
  have S : CallFix p m c cX4_replace 6 s [.ref (ad 0 0), .int p1, .int p2, .int p3].toArray wsL_law RX4 := S
  obtain ⟨hsz, hK, hN, hX⟩ := hpre
  subst hsz
  have hl : lv_has ls 6 [(0, .ref (ad 0 0)), (1, .int p1), (2, .int p2), (3, .int p3)] := hl
  have hx1 : ix p1 < T := ix_lt h0 h1
  have hT : ix (d.1 0 0 4) = T := ix_of hI.2.2.1
  have bX : ∀ q, adS (XN M T) ad q → q < s.heap.size := fun q h => hX.szB h
  refine lv_aload_n S.1 S.2.1 dX4_replace_0 rfl (lv_at hl 0 rfl) ?_
  refine gf_RX4_30 S hK hX dX4_replace_1 ?_
  refine lv_iload_n S.1 S.2.1 dX4_replace_4 rfl (lv_at hl 1 rfl) ?_
  refine al_X4 S hK hX h0 (by omega) hx1 dX4_replace_5 ?_
  refine lv_astore (lv' := [(4, .ref (ad 13 (ix p1))), (0, .ref (ad 0 0)), (1, .int p1), (2, .int p2), (3, .int p3)]) S.1 S.2.1 dX4_replace_6 hl (by decide) rfl (fun ls hl => ?_)
  refine xnew S inlX3 tyX3 tyX3_ok wCL_RX4_28 wIS_RX3 wIN_RX3 hK (ci := 3) rfl (fs := [.int 0, .int 0, .int 0, .int 0, .int 0, .int 0, .int 0, .int 0]) (fun j hj => by rcases (show j = 0 ∨ j = 1 ∨ j = 2 ∨ j = 3 ∨ j = 4 ∨ j = 5 ∨ j = 6 ∨ j = 7 by omega) with rfl | rfl | rfl | rfl | rfl | rfl | rfl | rfl <;> rfl) (Nat.le_of_ble_eq_true rfl) (Nat.le_of_ble_eq_true rfl) dX4_replace_8 (fun H1 hc1 z1 o1 => ?_)
  refine W.widen (k := 1) (n := 8) (Nat.le_of_ble_eq_true rfl) (Nat.le_of_ble_eq_true rfl) ?_
  have hX1 := hX.kept (H1 := H1) (fun q hq => o1 q (bX q hq))
  refine lv_dup S.1 S.2.1 dX4_replace_11 rfl ?_
  refine lv_aload S.1 S.2.1 dX4_replace_12 (lv_at hl 0 rfl) ?_
  refine gf_RX4_178 S hK hX1 hx1 (v := d.1 13 (ix p1) 0) rfl dX4_replace_14 ?_
  refine lv_aload S.1 S.2.1 dX4_replace_17 (lv_at hl 0 rfl) ?_
  refine gf_RX4_158 S hK hX1 hx1 (v := d.1 13 (ix p1) 1) rfl dX4_replace_19 ?_
  refine lv_iload_n S.1 S.2.1 dX4_replace_22 rfl (lv_at hl 4 rfl) ?_
  refine lv_aload S.1 S.2.1 dX4_replace_23 (lv_at hl 0 rfl) ?_
  refine gf_RX4_179 S hK hX1 hx1 (v := d.1 13 (ix p1) 3) rfl dX4_replace_25 ?_
  refine lv_aload_n S.1 S.2.1 dX4_replace_28 rfl (lv_at hl 1 rfl) ?_
  refine lv_aload S.1 S.2.1 dX4_replace_29 (lv_at hl 0 rfl) ?_
  refine cPV (rest := [.int (d.1 13 (ix p1) 3), .int p3, .int (d.1 13 (ix p1) 1), .int (d.1 13 (ix p1) 0), .ref s.heap.size, .ref s.heap.size]) S (c_X4_factorNow l D G M T ad d (ix p1) hx1 hI) gV_RX4_287 ds_X4_factorNow ⟨rfl, rfl⟩ ⟨Nat.le_of_ble_eq_true rfl, Nat.le_of_ble_eq_true rfl⟩ ⟨blindX, recvX hK hX1 (k := 0) (i := 0) Nat.zero_lt_one rfl rfl, preX hK hN hX1 _⟩ rfl hl.1 rfl (Nat.le_of_ble_eq_true rfl) ⟨Nat.le_of_ble_eq_true rfl, Nat.le_of_ble_eq_true rfl⟩ dX4_replace_31 ?_
  have hPc : va_P D vwCl [(s.heap.size, .inr (3, [.int 0, .int 0, .int 0, .int 0, .int 0, .int 0, .int 0, .int 0]))] H1 := fun j q hq => by
    have hz : j < 1 := (List.getElem?_eq_some_iff.mp hq).1
    rw [show j = 0 by omega] at hq
    cases hq
    exact hc1
  have hDc : va_D (fun _ => True) [(s.heap.size, .inr (3, [.int 0, .int 0, .int 0, .int 0, .int 0, .int 0, .int 0, .int 0]))] := ⟨fun i j x y hx hy _ => by
    have h1 : i < 1 := (List.getElem?_eq_some_iff.mp hx).1
    have h2 : j < 1 := (List.getElem?_eq_some_iff.mp hy).1
    omega, fun _ _ _ => trivial⟩
  have hS1 : va_S (fun q => adS (XN M T) ad q ∨ s.heap.size ≤ q) s.heap H1 [] := ⟨by omega, fun q g1 _ => o1 q g1, fun _ h => by cases h⟩
  have hA1 : ∀ q, va_A [(s.heap.size, .inr (3, [.int 0, .int 0, .int 0, .int 0, .int 0, .int 0, .int 0, .int 0]))] H1.size q → s.heap.size ≤ q := fun q h => by
    rcases h with ⟨k, e, h⟩ | h
    · have hz : k < 1 := (List.getElem?_eq_some_iff.mp h).1
      rw [show k = 0 by omega] at h
      cases h
      exact Nat.le_refl _
    · omega
  refine va_callv (va_runI (As := [.int (d.1 13 (ix p1) 0), .int (d.1 13 (ix p1) 1), .int p3, .int (d.1 13 (ix p1) 3), .int (sp_X4_factorNow d (ix p1))]) (rest := [.ref s.heap.size]) S (c_X3_init l D G s.heap.size H1.size (d.1 13 (ix p1) 0) (d.1 13 (ix p1) 1) p3 (d.1 13 (ix p1) 3) (sp_X4_factorNow d (ix p1))) (cwI 5 S.2.2.2.2 (goodUL wCO_X3_init) rfl rfl rfl (S.2.2.2.2 _ wIN_RX3) (S.2.2.2.2 _ wML_RX4_145) (S.2.2.2.2 _ wIM_X3_init) rfl ds_X3_init.2 ⟨Nat.le_of_ble_eq_true rfl, Nat.le_of_ble_eq_true rfl⟩)
    ⟨fun a U gg mk q => ⟨q.1, q.2.1, q.2.2.1, va_K.moved (u := U) (U := U.calling gg mk a) (Vm.Alike.refl U.vm) q.2.2.2.1, NW.same (u := U) (U := U.calling gg mk a) rfl q.2.2.2.2.1, q.2.2.2.2.2⟩, fun U hU hW => ⟨rfl, by rw [hU], by rw [hU]; exact hPc, va_K.moved hW.alike hK, NW.warm hW hN, hDc⟩⟩ rfl rfl hl.1 rfl (lv_room (Nat.le_of_ble_eq_true rfl)) dX4_replace_34 ⟨Nat.le_of_ble_eq_true rfl, Nat.le_of_ble_eq_true rfl⟩) hS1 (fun q _ h => Or.inr (hA1 q h)) (fun q h => Or.inr (hA1 q h)) (fun u t H2 locs ht hvm hw hB hz2 hk2 hS => ?_)
  obtain ⟨hP2, hD2⟩ := hB
  rw [ht] at hP2
  refine W.widen (k := 1) (n := 8) (Nat.le_of_ble_eq_true rfl) (Nat.le_of_ble_eq_true rfl) ?_
  have o2 : ∀ q, adS (XN M T) ad q → H2[q]? = s.heap[q]? := fun q hq => by
    have b := bX q hq
    rw [hk2 q (by omega) (fun z => by have := hA1 q z; omega)]
    exact o1 q b
  obtain ⟨hX3, hA3⟩ := (hX.kept o2).addL bX (Nat.le_refl _) (hP2 0 _ rfl)
  have g00 : adT ad T s.heap.size 0 0 = ad 0 0 := rfl
  have g13 : adT ad T s.heap.size 13 T = s.heap.size := if_pos rfl
  have gp1 : adT ad T s.heap.size 13 (ix p1) = ad 13 (ix p1) := if_neg (by omega)
  refine lv_astore (lv' := [(5, .ref s.heap.size), (4, .ref (ad 13 (ix p1))), (0, .ref (ad 0 0)), (1, .int p1), (2, .int p2), (3, .int p3)]) S.1 S.2.1 dX4_replace_37 hl (by decide) rfl (fun ls hl => ?_)
  rw [← g00, ← gp1] at hl
  have hl : lv_has ls 6 [(5, .ref (adT ad T s.heap.size 13 T)), (4, .ref (adT ad T s.heap.size 13 (ix p1))), (0, .ref (adT ad T s.heap.size 0 0)), (1, .int p1), (2, .int p2), (3, .int p3)] := by rw [g13]; exact hl
  generalize adT ad T s.heap.size = ad' at hX3 hA3 hl g00 g13 gp1
  have hI' := XI.rep hI (p2 := p2) (p3 := p3) hx1 h2
  have hs : sp_X4_replace d p1 p2 p3 = sp_X4_replace d p1 p2 p3 := rfl
  have hA : ∀ q, adS (XN M (T + 1)) ad' q → adS (XN M T) ad q ∨ s.heap.size ≤ q := fun q h => by
    obtain ⟨k, i, hk, e⟩ := h
    exact hA3 q ⟨k, i, by rw [← XNl_s]; exact hk, e⟩
  unfold sp_X4_replace at hI' ⊢
  rw [hT] at hI' ⊢
  refine lv_aload S.1 S.2.1 dX4_replace_39 (lv_at hl 0 rfl) ?_
  refine lv_iload_n S.1 S.2.1 dX4_replace_41 rfl (lv_at hl 4 rfl) ?_
  refine xput S inlX3 tyX3 tyX3_ok nmX3 hK hX3 hS (k := 13) (i := T) (Nat.lt_succ_self T) (hA3 _ ⟨13, T, Nat.lt_succ_self T, rfl⟩) rfl rfl 5 (by decide) rfl wFL_RX4_175 rfl (ty := .int) rfl rfl rfl (Nat.le_of_ble_eq_true rfl) rfl dX4_replace_42 (fun H locs hX3 hS => ?_)
  refine lv_aload S.1 S.2.1 dX4_replace_45 (lv_at hl 0 rfl) ?_
  refine lv_iload_n S.1 S.2.1 dX4_replace_47 rfl (lv_at hl 3 rfl) ?_
  refine xput S inlX3 tyX3 tyX3_ok nmX3 hK hX3 hS (k := 13) (i := T) (Nat.lt_succ_self T) (hA3 _ ⟨13, T, Nat.lt_succ_self T, rfl⟩) rfl rfl 7 (by decide) rfl wFL_RX4_186 rfl (ty := .int) rfl rfl rfl (Nat.le_of_ble_eq_true rfl) rfl dX4_replace_48 (fun H locs hX3 hS => ?_)
  refine lv_aload S.1 S.2.1 dX4_replace_51 (lv_at hl 1 rfl) ?_
  refine lv_aload_n S.1 S.2.1 dX4_replace_53 rfl (lv_at hl 2 rfl) ?_
  refine gf_RX4_34 S hK hX3.weak (v := d.1 0 0 4) rfl dX4_replace_54 ?_
  refine xput S inlX3 tyX3 tyX3_ok nmX3 hK hX3 hS (k := 13) (i := ix p1) (Nat.lt_succ_of_lt hx1) (hA3 _ ⟨13, ix p1, Nat.lt_succ_of_lt hx1, rfl⟩) rfl rfl 6 (by decide) rfl wFL_RX4_183 rfl (ty := .int) rfl rfl rfl (Nat.le_of_ble_eq_true rfl) rfl dX4_replace_57 (fun H locs hX3 hS => ?_)
  refine lv_aload_n S.1 S.2.1 dX4_replace_60 rfl (lv_at hl 2 rfl) ?_
  refine lv_aload S.1 S.2.1 dX4_replace_61 (lv_at hl 0 rfl) ?_
  refine cWV (rest := []) S (c_X4_keep l D G M T ad' (uv (uv (uv (tN d T (d.1 13 (ix p1) 0) (d.1 13 (ix p1) 1) p3 (d.1 13 (ix p1) 3) (sp_X4_factorNow d (ix p1))) 13 T 5 p2) 13 T 7 p1) 13 (ix p1) 6 (d.1 0 0 4)) hI.2.2.1 h2) gV_RX4_148 ds_X4_keep ⟨rfl, rfl⟩ ⟨Nat.le_of_ble_eq_true rfl, Nat.le_of_ble_eq_true rfl⟩ ⟨blindX, recvX hK hX3 (k := 0) (i := 0) Nat.zero_lt_one rfl rfl, preX hK hN hX3 _⟩ rfl hl.1 rfl (Nat.le_of_ble_eq_true rfl) ⟨Nat.le_of_ble_eq_true rfl, Nat.le_of_ble_eq_true rfl⟩ dX4_replace_63 hS hA (fun H locs hX hS hfr => ?_)
  exact W.vret S.1 S.2.1 hr (fun t ht _ => ⟨rfl, ⟨M, T + 1, ad', by rw [ht]; exact hX, hI', g00, hA⟩, hS.F ht⟩) hS.2.2 dX4_replace_66
