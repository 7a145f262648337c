/-! ===== the reference's remake ===== -/
/-- the Tickets' rows that remake looks at -/
def QT (d e : Dt) (u : Nat) : Prop := ∀ k, k = 19 ∨ k = 20 ∨ k = 22 ∨ k = 23 ∨ k = 24 → e.1 k 0 u = d.1 k 0 u
theorem CF.qr {d e : Dt} (h : CF d e) : QR d e := ⟨h.1 3 (by decide) (by decide) (by decide) (by decide), h.1 4 (by decide) (by decide) (by decide) (by decide), h.1 5 (by decide) (by decide) (by decide) (by decide), h.1 6 (by decide) (by decide) (by decide) (by decide)⟩
theorem QR.tr {d e f : Dt} (h : QR d e) (g : QR e f) : QR d f := ⟨g.1.trans h.1, g.2.1.trans h.2.1, g.2.2.1.trans h.2.2.1, g.2.2.2.trans h.2.2.2⟩
theorem CF.qt {d e : Dt} (h : CF d e) (u : Nat) : QT d e u := fun k hk => by rw [h.1 k (by omega) (by omega) (by omega) (by omega)]
theorem QT.tr {d e f : Dt} {u : Nat} (h : QT d e u) (g : QT e f u) : QT d f u := fun k hk => (g k hk).trans (h k hk)
theorem add_eff (d : Dt) (p1 p2 p3 p4 p5 p6 : Int32) : QR d (sp_X5_add d p1 p2 p3 p4 p5 p6).2 ∧ (sp_X5_add d p1 p2 p3 p4 p5 p6).2.1 0 0 17 = d.1 0 0 17 + 1 ∧ (sp_X5_add d p1 p2 p3 p4 p5 p6).2.1 0 0 1 = d.1 0 0 1 ∧ ∀ u, u ≠ ix (d.1 0 0 17) → QT d (sp_X5_add d p1 p2 p3 p4 p5 p6).2 u := by
  obtain ⟨b, eb⟩ : ∃ z, z = uv (uv (uv (uv (uv d 18 0 (ix (d.1 0 0 17)) p1) 19 0 (ix (d.1 0 0 17)) p2) 20 0 (ix (d.1 0 0 17)) p3) 21 0 (ix (d.1 0 0 17)) p4) 22 0 (ix (d.1 0 0 17)) p5 := ⟨_, rfl⟩
  have b17 : b.1 0 0 17 = d.1 0 0 17 := by rw [eb]; rfl
  have b1 : b.1 0 0 1 = d.1 0 0 1 := by rw [eb]; rfl
  have br : QR d b := by rw [eb]; exact ⟨rfl, rfl, rfl, rfl⟩
  have bt : ∀ u, u ≠ ix (d.1 0 0 17) → QT d b u := fun u hu k hk => by
    rw [eb]
    rcases hk with rfl | rfl | rfl | rfl | rfl
    · exact (show (uv (uv d 18 0 (ix (d.1 0 0 17)) p1) 19 0 (ix (d.1 0 0 17)) p2).1 19 0 u = d.1 19 0 u from uv_at hu)
    · exact (show (uv (uv (uv d 18 0 (ix (d.1 0 0 17)) p1) 19 0 (ix (d.1 0 0 17)) p2) 20 0 (ix (d.1 0 0 17)) p3).1 20 0 u = d.1 20 0 u from uv_at hu)
    · exact (show (uv (uv (uv (uv (uv d 18 0 (ix (d.1 0 0 17)) p1) 19 0 (ix (d.1 0 0 17)) p2) 20 0 (ix (d.1 0 0 17)) p3) 21 0 (ix (d.1 0 0 17)) p4) 22 0 (ix (d.1 0 0 17)) p5).1 22 0 u = d.1 22 0 u from uv_at hu)
    · rfl
    · rfl
  unfold sp_X5_add
  rw [← eb]
  have g := fa_cf (d := b) p2 p5 p3
  generalize sp_X5_factorAt b p2 p5 p3 = r at g
  obtain ⟨v, f⟩ := r
  have g : CF b f := g
  have f17 : f.1 0 0 17 = d.1 0 0 17 := (g.f0).trans b17
  have f1 : f.1 0 0 1 = d.1 0 0 1 := (g.f0).trans b1
  refine ⟨br.tr g.qr, ?_, f1, fun u hu => ((bt u hu).tr (g.qt u)).tr (fun k hk => ?_)⟩
  · show f.1 0 0 17 + 1 = d.1 0 0 17 + 1
    rw [f17]
  · rcases hk with rfl | rfl | rfl | rfl | rfl
    · rfl
    · rfl
    · rfl
    · exact (show (uv f 23 0 (ix (d.1 0 0 17)) v).1 23 0 u = f.1 23 0 u from uv_at hu)
    · exact (show (uv (uv f 23 0 (ix (d.1 0 0 17)) v) 24 0 (ix (f.1 0 0 17)) (-9)).1 24 0 u = f.1 24 0 u from uv_at (by rw [f17]; exact hu))
noncomputable def dueM (d : Dt) (m f to : Int32) : Nat → Nat → Nat
  | 0, _ => 0
  | n + 1, a => cif ((sp_X5_isStale d (nI a) m f to).1) 1 0 + dueM d m f to n (a + 1)
theorem dueM_le {d : Dt} {m f to : Int32} : ∀ (n a : Nat), dueM d m f to n a ≤ n := by
  intro n
  induction n with
  | zero => intro a; exact Nat.le_refl _
  | succ n ih =>
    intro a
    show cif ((sp_X5_isStale d (nI a) m f to).1) 1 0 + dueM d m f to n (a + 1) ≤ n + 1
    have h := ih (a + 1)
    by_cases c : (sp_X5_isStale d (nI a) m f to).1
    · rw [cif_t c]; omega
    · rw [cif_f c]; omega
noncomputable def scM (m f to : Int32) : Nat → Nat → Dt → Dt
  | 0, _, e => e
  | n + 1, a, e => scM m f to n (a + 1) (sp_X5_isStale e (nI a) m f to).2
noncomputable def rq5 (e : Dt) (m : Int32) (a : Nat) : Dt := (sp_X5_add (uv e 24 0 (ix (nI a)) (e.1 0 0 17)) 2 m (e.1 20 0 (ix (nI a))) (e.1 21 0 (ix (nI a))) (e.1 22 0 (ix (nI a))) (nI a)).2
noncomputable def rmM (m f to : Int32) : Nat → Nat → Dt → Dt
  | 0, _, e => e
  | n + 1, a, e => rmM m f to n (a + 1) (cif ((sp_X5_isStale e (nI a) m f to).1) (rq5 (sp_X5_isStale e (nI a) m f to).2 m a) (sp_X5_isStale e (nI a) m f to).2)
noncomputable def sp_X5_remake (d : Dt) (m f to : Int32) : Int32 × Dt :=
  cif (sp_X5_noMeter d m) (-1, d) (cif (sp_X5_areDays f to) (cif (sp_X5_isShut d f) (-3, d) (cif ((d.1 0 0 17).toInt + (dueM d m f to (ix (d.1 0 0 17)) 0 : Int) ≤ 40) (nI (dueM d m f to (ix (d.1 0 0 17)) 0), rmM m f to (ix (d.1 0 0 17)) 0 (scM m f to (ix (d.1 0 0 17)) 0 d)) (-4, scM m f to (ix (d.1 0 0 17)) 0 d))) (-2, d))
theorem rq5_eff {e : Dt} (m : Int32) (a : Nat) : QR e (rq5 e m a) ∧ (rq5 e m a).1 0 0 17 = e.1 0 0 17 + 1 ∧ (rq5 e m a).1 0 0 1 = e.1 0 0 1 ∧ ∀ u, u ≠ ix (nI a) → u ≠ ix (e.1 0 0 17) → QT e (rq5 e m a) u := by
  obtain ⟨g1, g2, g3, g4⟩ := add_eff (uv e 24 0 (ix (nI a)) (e.1 0 0 17)) 2 m (e.1 20 0 (ix (nI a))) (e.1 21 0 (ix (nI a))) (e.1 22 0 (ix (nI a))) (nI a)
  refine ⟨g1, g2, g3, fun u h1 h2 => QT.tr (e := uv e 24 0 (ix (nI a)) (e.1 0 0 17)) (fun k hk => ?_) (g4 u h2)⟩
  rcases hk with rfl | rfl | rfl | rfl | rfl
  · rfl
  · rfl
  · rfl
  · rfl
  · exact uv_at h1
theorem k_rq5 {e : Dt} (h : MI e) {m : Int32} {a : Nat} (h1 : (e.1 0 0 17).toInt ≤ 39) (h2 : 0 ≤ m.toInt) (h3 : m.toInt < (e.1 0 0 1).toInt) : MI (rq5 e m a) :=
  k_X5_add (d := uv e 24 0 (ix (nI a)) (e.1 0 0 17)) (h.o (by decide) (by decide) (by decide) (by decide) (by omega)) h1 h2 h3
abbrev RM5 : Room := { frames := 4, cells := 0, slots := 0, locals := 101 }
set_option maxRecDepth 100000 in
set_option maxHeartbeats 16000000 in
theorem c_X5_remake (l : Launch) (D : va_G) (G : Gc) (ad : Nat → Nat → Nat) (d : Dt) (p1 p2 p3 : Int32) (hI : MI d) : Met l yX5_remake (wsU yX5_remake cX5_remake 8 (some .int)) RM5 (va_Pc [.ref (ad 0 0), .int p1, .int p2, .int p3] (XPre D (tysG G) (MF G ad) MN ad d)) (qW (some (.int (sp_X5_remake d p1 p2 p3).1)) D (MF G ad) MN ad (sp_X5_remake d p1 p2 p3).2) 0 0 (adS MN ad) := by
  refine ent (by decide +kernel) (Nat.le_of_ble_eq_true rfl) ?_
  intro p e s m below meth c S hr hlk hpre ls hl
  have S : CallFix p m c cX5_remake 8 s [.ref (ad 0 0), .int p1, .int p2, .int p3].toArray wsL_law RX5 := S
  obtain ⟨hK, hN, hX⟩ := hpre
  have hl : lv_has ls 8 [(0, .ref (ad 0 0)), (1, .int p1), (2, .int p2), (3, .int p3)] := hl
  have hs := sp_X5_remake.eq_1 d p1 p2 p3
  have hS : va_S (adS MN ad) s.heap s.heap [] := va_S.rf
  obtain ⟨T, hT⟩ : ∃ z, z = ix (d.1 0 0 17) := ⟨_, rfl⟩
  have q5 := hI.2.2.2.2.1
  have q3 : (d.1 0 0 17).toInt = (T : Int) := by rw [hT]; exact (ix_int q5.1).symm
  refine lv_aload_n S.1 S.2.1 dX5_remake_0 rfl (lv_at hl 0 rfl) ?_
  refine lv_iload_n S.1 S.2.1 dX5_remake_1 rfl (lv_at hl 1 rfl) ?_
  refine cPV (rest := []) S (c_X5_noMeter l D G ad d p1) gV_RX5_115 ds_X5_noMeter ⟨rfl, rfl⟩ ⟨Nat.le_of_ble_eq_true rfl, Nat.le_of_ble_eq_true rfl⟩ ⟨blindX, recvX hK hX (k := 0) (i := 0) Nat.zero_lt_one rfl rfl, preX hK hN hX _⟩ rfl hl.1 rfl (Nat.le_of_ble_eq_true rfl) ⟨Nat.le_of_ble_eq_true rfl, Nat.le_of_ble_eq_true rfl⟩ dX5_remake_2 ?_
  refine q_if_eq_b (tgt := 10) S dX5_remake_5 (by decide) (fun c1 => ?_) (fun c1 => ?_)
  rotate_left
  · have hs := hs.trans (cif_t c1)
    refine lv_iconst (v := (-1)) S.1 S.2.1 dX5_remake_8 (by decide) ?_
    exact wI S hr hlk hs hX hS dX5_remake_9
  have hs := hs.trans (cif_f c1)
  have f1 := nm_of hI c1
  refine lv_iload_n S.1 S.2.1 dX5_remake_10 rfl (lv_at hl 2 rfl) ?_
  refine lv_iload_n S.1 S.2.1 dX5_remake_11 rfl (lv_at hl 3 rfl) ?_
  refine cPS (rest := []) S (c_X5_areDays l p2 p3) gS_RX5_191 ds_X5_areDays.2 ⟨rfl, rfl⟩ ⟨Nat.le_of_ble_eq_true rfl, Nat.le_of_ble_eq_true rfl⟩ rfl hl.1 rfl (Nat.le_of_ble_eq_true rfl) ⟨Nat.le_of_ble_eq_true rfl, Nat.le_of_ble_eq_true rfl⟩ dX5_remake_12 ?_
  refine q_if_ne_b (tgt := 21) S dX5_remake_15 (by decide) (fun c2 => ?_) (fun c2 => ?_)
  rotate_left
  · have hs := hs.trans (cif_f c2)
    refine lv_bipush (v := (-2)) S.1 S.2.1 dX5_remake_18 (by decide) ?_
    exact wI S hr hlk hs hX hS dX5_remake_20
  have hs := hs.trans (cif_t c2)
  refine lv_aload_n S.1 S.2.1 dX5_remake_21 rfl (lv_at hl 0 rfl) ?_
  refine lv_iload_n S.1 S.2.1 dX5_remake_22 rfl (lv_at hl 2 rfl) ?_
  refine cPV (rest := []) S (c_X5_isShut l D G ad d p2) gV_RX5_181 ds_X5_isShut ⟨rfl, rfl⟩ ⟨Nat.le_of_ble_eq_true rfl, Nat.le_of_ble_eq_true rfl⟩ ⟨blindX, recvX hK hX (k := 0) (i := 0) Nat.zero_lt_one rfl rfl, preX hK hN hX _⟩ rfl hl.1 rfl (Nat.le_of_ble_eq_true rfl) ⟨Nat.le_of_ble_eq_true rfl, Nat.le_of_ble_eq_true rfl⟩ dX5_remake_23 ?_
  refine q_if_eq_b (tgt := 32) S dX5_remake_26 (by decide) (fun c3 => ?_) (fun c3 => ?_)
  rotate_left
  · have hs := hs.trans (cif_t c3)
    refine lv_bipush (v := (-3)) S.1 S.2.1 dX5_remake_29 (by decide) ?_
    exact wI S hr hlk hs hX hS dX5_remake_31
  have hs := hs.trans (cif_f c3)
  rw [← hT] at hs
  obtain ⟨N, eN⟩ : ∃ z, z = dueM d p1 p2 p3 T 0 := ⟨_, rfl⟩
  rw [← eN] at hs
  have hNT : N ≤ T := by rw [eN]; exact dueM_le T 0
  have hx6 : 0 ≤ p1.toInt ∧ p1.toInt < 6 := ⟨f1.1, by omega⟩
  have hst : ∀ (e2 : Dt) (a : Nat), a < T → QR d e2 → QT d e2 a → (sp_X5_isStale e2 (nI a) p1 p2 p3).1 = (sp_X5_isStale d (nI a) p1 p2 p3).1 := fun e2 a ha h1 h2 => by
    have hia : ix (nI a) = a := ix_of (nI_toInt (by omega))
    exact q_is h1 hx6 (hI.mn hx6.1 hx6.2) (fun k hk => by rw [hia]; exact h2 k hk)
  -- the second loop
  have L2 : ∀ (n a k : Nat) (e2 : Dt) (H : Heap) (locs : List Loc), a + n = T → MI e2 → (e2.1 0 0 17).toInt = (T + k : Nat) → (e2.1 0 0 1) = d.1 0 0 1 → QR d e2 → (∀ u, a ≤ u → u < T → QT d e2 u) → T + k + dueM d p1 p2 p3 n a ≤ 40 → PIC D (MF G ad) MN ad e2 H → va_S (adS MN ad) s.heap H locs → sp_X5_remake d p1 p2 p3 = (nI N, rmM p1 p2 p3 n a e2) → ∀ (w7 : List (Nat × Value)) (ls : Array Slot), lv_has ls 8 ((6, .int (nI a)) :: (5, .int (nI N)) :: (4, .int (d.1 0 0 17)) :: (0, .ref (ad 0 0)) :: (1, .int p1) :: (2, .int p2) :: (3, .int p3) :: w7) →
      W p l e RM5 s m [.ref (ad 0 0), .int p1, .int p2, .int p3].toArray below meth c H locs 0 0 (MQ below (qW (some (.int (sp_X5_remake d p1 p2 p3).1)) D (MF G ad) MN ad (sp_X5_remake d p1 p2 p3).2) [.ref (ad 0 0), .int p1, .int p2, .int p3].toArray s 0 0 (adS MN ad)) (F0 m 95 ls []) := by
    intro n
    induction n with
    | zero =>
      intro a k e2 H locs ha hI2 h17 h01 hr2 ht2 hd2 hX2 hS2 hs2 w7 ls hl
      have ha : a = T := by omega
      refine lv_iload S.1 S.2.1 dX5_remake_95 (lv_at hl 0 rfl) ?_
      refine lv_iload S.1 S.2.1 dX5_remake_97 (lv_at hl 2 rfl) ?_
      refine q_icmp_ge (tgt := 162) (xi := (a : Int)) (yi := (T : Int)) S (nI_toInt (by omega)) q3 dX5_remake_99 (by decide) (fun _ => ?_) (fun z => absurd (by omega) z)
      refine lv_iload S.1 S.2.1 dX5_remake_162 (lv_at hl 1 rfl) ?_
      exact wI S hr hlk hs2 hX2 hS2 dX5_remake_164
    | succ n ih =>
      intro a k e2 H locs ha hI2 h17 h01 hr2 ht2 hd2 hX2 hS2 hs2 w7 ls hl
      have hia : ix (nI a) = a := ix_of (nI_toInt (by omega))
      have hit : (nI a).toInt = (a : Int) := nI_toInt (by omega)
      have hd2 : T + k + (cif ((sp_X5_isStale d (nI a) p1 p2 p3).1) 1 0 + dueM d p1 p2 p3 n (a + 1)) ≤ 40 := hd2
      rw [← hst e2 a (by omega) hr2 (ht2 a (Nat.le_refl _) (by omega))] at hd2
      have hs2 : sp_X5_remake d p1 p2 p3 = (nI N, rmM p1 p2 p3 n (a + 1) (cif ((sp_X5_isStale e2 (nI a) p1 p2 p3).1) (rq5 (sp_X5_isStale e2 (nI a) p1 p2 p3).2 p1 a) (sp_X5_isStale e2 (nI a) p1 p2 p3).2)) := hs2
      have g := is_cf (d := e2) (nI a) p1 p2 p3
      refine lv_iload S.1 S.2.1 dX5_remake_95 (lv_at hl 0 rfl) ?_
      refine lv_iload S.1 S.2.1 dX5_remake_97 (lv_at hl 2 rfl) ?_
      refine q_icmp_ge (tgt := 162) (xi := (a : Int)) (yi := (T : Int)) S hit q3 dX5_remake_99 (by decide) (fun z => absurd z (by omega)) (fun _ => ?_)
      refine lv_aload_n S.1 S.2.1 dX5_remake_102 rfl (lv_at hl 3 rfl) ?_
      refine lv_iload S.1 S.2.1 dX5_remake_103 (lv_at hl 0 rfl) ?_
      refine lv_iload_n S.1 S.2.1 dX5_remake_105 rfl (lv_at hl 4 rfl) ?_
      refine lv_iload_n S.1 S.2.1 dX5_remake_106 rfl (lv_at hl 5 rfl) ?_
      refine lv_iload_n S.1 S.2.1 dX5_remake_107 rfl (lv_at hl 6 rfl) ?_
      refine cWV (rest := []) S (c_X5_isStale l D G ad e2 (nI a) p1 p2 p3 hI2 (by omega) (by omega) f1.1 (by rw [h01]; exact f1.2.1)) gV_RX5_195 ds_X5_isStale ⟨rfl, rfl⟩ ⟨Nat.le_of_ble_eq_true rfl, Nat.le_of_ble_eq_true rfl⟩ ⟨blindX, recvX hK hX2 (k := 0) (i := 0) Nat.zero_lt_one rfl rfl, preX hK hN hX2 _⟩ rfl hl.1 rfl (Nat.le_of_ble_eq_true rfl) ⟨Nat.le_of_ble_eq_true rfl, Nat.le_of_ble_eq_true rfl⟩ dX5_remake_108 hS2 (fun _ h => h) (fun H locs hX hS hfr => ?_)
      have hI3 := hI2.cf g
      have k17 : (sp_X5_isStale e2 (nI a) p1 p2 p3).2.1 0 0 17 = e2.1 0 0 17 := g.f0
      have k01 : (sp_X5_isStale e2 (nI a) p1 p2 p3).2.1 0 0 1 = e2.1 0 0 1 := g.f0
      have kr := hr2.tr g.qr
      have kt : ∀ u, a ≤ u → u < T → QT d (sp_X5_isStale e2 (nI a) p1 p2 p3).2 u := fun u h1 h2 => (ht2 u h1 h2).tr (g.qt u)
      have step : ∀ (k1 : Nat) (e3 : Dt) (H3 : Heap) (locs3 : List Loc) (w8 : List (Nat × Value)) (ls : Array Slot), MI e3 → (e3.1 0 0 17).toInt = (T + k1 : Nat) → e3.1 0 0 1 = d.1 0 0 1 → QR d e3 → (∀ u, a + 1 ≤ u → u < T → QT d e3 u) → T + k1 + dueM d p1 p2 p3 n (a + 1) ≤ 40 → PIC D (MF G ad) MN ad e3 H3 → va_S (adS MN ad) s.heap H3 locs3 → sp_X5_remake d p1 p2 p3 = (nI N, rmM p1 p2 p3 n (a + 1) e3) → lv_has ls 8 [(6, .int (nI a)), (5, .int (nI N)), (4, .int (d.1 0 0 17)), (0, .ref (ad 0 0)), (1, .int p1), (2, .int p2), (3, .int p3)] → W p l e RM5 s m [.ref (ad 0 0), .int p1, .int p2, .int p3].toArray below meth c H3 locs3 0 0 (MQ below (qW (some (.int (sp_X5_remake d p1 p2 p3).1)) D (MF G ad) MN ad (sp_X5_remake d p1 p2 p3).2) [.ref (ad 0 0), .int p1, .int p2, .int p3].toArray s 0 0 (adS MN ad)) (F0 m 156 ls []) := fun k1 e3 H3 locs3 w8 ls g1 g2 g3 g4 g5 g6 g7 g8 g9 hl => by
        refine lv_iinc (v := nI (a + 1)) (lv' := [(6, .int (nI (a + 1))), (5, .int (nI N)), (4, .int (d.1 0 0 17)), (0, .ref (ad 0 0)), (1, .int p1), (2, .int p2), (3, .int p3)]) S.1 S.2.1 dX5_remake_156 hl (k := 0) rfl (nI_1 a) (by decide) rfl (fun ls hl => ?_)
        refine lv_goto (tgt := 95) S.1 S.2.1 dX5_remake_159 (by decide) ?_
        exact ih (a + 1) k1 e3 H3 locs3 (by omega) g1 g2 g3 g4 g5 g6 g7 g8 g9 [] ls hl
      have hl7 : lv_has ls 8 [(6, .int (nI a)), (5, .int (nI N)), (4, .int (d.1 0 0 17)), (0, .ref (ad 0 0)), (1, .int p1), (2, .int p2), (3, .int p3)] := lv_sub hl [0, 1, 2, 3, 4, 5, 6] rfl
      refine q_if_eq_b (tgt := 156) S dX5_remake_111 (by decide) (fun c5 => ?_) (fun c5 => ?_)
      · rw [cif_f c5] at hs2 hd2
        exact step k _ H locs [] ls hI3 (by rw [k17]; exact h17) (k01.trans h01) kr (fun u h1 h2 => kt u (by omega) h2) (by omega) hX hS hs2 hl7
      · rw [cif_t c5] at hs2 hd2
        generalize (sp_X5_isStale e2 (nI a) p1 p2 p3).2 = e3 at hX hI3 k17 k01 kr kt hs2
        have z17 : (e3.1 0 0 17).toInt = (T + k : Nat) := by rw [k17]; exact h17
        have q39 : (e3.1 0 0 17).toInt ≤ 39 := by omega
        have qm := hI3.mn (x := p1) hx6.1 hx6.2
        refine lv_aload_n S.1 S.2.1 dX5_remake_114 rfl (lv_at hl7 3 rfl) ?_
        refine gf_RX5_59 S hK hX dX5_remake_115 ?_
        refine lv_iload S.1 S.2.1 dX5_remake_118 (lv_at hl7 0 rfl) ?_
        refine lv_aload_n S.1 S.2.1 dX5_remake_120 rfl (lv_at hl7 3 rfl) ?_
        refine gf_RX5_176 S hK hX (v := e3.1 0 0 17) rfl dX5_remake_121 ?_
        refine as_M24 S hK hX hS (by omega) (by omega) dX5_remake_124 (fun H locs hX hS => ?_)
        refine lv_aload_n S.1 S.2.1 dX5_remake_125 rfl (lv_at hl7 3 rfl) ?_
        refine lv_iconst (v := 2) S.1 S.2.1 dX5_remake_126 (by decide) ?_
        refine lv_iload_n S.1 S.2.1 dX5_remake_127 rfl (lv_at hl7 4 rfl) ?_
        refine lv_aload_n S.1 S.2.1 dX5_remake_128 rfl (lv_at hl7 3 rfl) ?_
        refine gf_RX5_47 S hK hX dX5_remake_129 ?_
        refine lv_iload S.1 S.2.1 dX5_remake_132 (lv_at hl7 0 rfl) ?_
        refine al_M20 S hK hX (by omega) (by omega) (z := e3.1 20 0 (ix (nI a))) rfl dX5_remake_134 ?_
        refine lv_aload_n S.1 S.2.1 dX5_remake_135 rfl (lv_at hl7 3 rfl) ?_
        refine gf_RX5_50 S hK hX dX5_remake_136 ?_
        refine lv_iload S.1 S.2.1 dX5_remake_139 (lv_at hl7 0 rfl) ?_
        refine al_M21 S hK hX (by omega) (by omega) (z := e3.1 21 0 (ix (nI a))) rfl dX5_remake_141 ?_
        refine lv_aload_n S.1 S.2.1 dX5_remake_142 rfl (lv_at hl7 3 rfl) ?_
        refine gf_RX5_53 S hK hX dX5_remake_143 ?_
        refine lv_iload S.1 S.2.1 dX5_remake_146 (lv_at hl7 0 rfl) ?_
        refine al_M22 S hK hX (by omega) (by omega) (z := e3.1 22 0 (ix (nI a))) rfl dX5_remake_148 ?_
        refine lv_iload S.1 S.2.1 dX5_remake_149 (lv_at hl7 0 rfl) ?_
        refine cWV (rest := []) S (c_X5_add l D G ad (uv e3 24 0 (ix (nI a)) (e3.1 0 0 17)) 2 p1 (e3.1 20 0 (ix (nI a))) (e3.1 21 0 (ix (nI a))) (e3.1 22 0 (ix (nI a))) (nI a) hI3.2.2.2.2.1.1 q39 f1.1 hx6.2 qm.1 qm.2) gV_RX5_184 ds_X5_add ⟨rfl, rfl⟩ ⟨Nat.le_of_ble_eq_true rfl, Nat.le_of_ble_eq_true rfl⟩ ⟨blindX, recvX hK hX (k := 0) (i := 0) Nat.zero_lt_one rfl rfl, preX hK hN hX _⟩ rfl hl7.1 rfl (Nat.le_of_ble_eq_true rfl) ⟨Nat.le_of_ble_eq_true rfl, Nat.le_of_ble_eq_true rfl⟩ dX5_remake_151 hS (fun _ h => h) (fun H locs hX hS hfr => ?_)
        refine lv_istore (lv' := (7, .int ((sp_X5_add (uv e3 24 0 (ix (nI a)) (e3.1 0 0 17)) 2 p1 (e3.1 20 0 (ix (nI a))) (e3.1 21 0 (ix (nI a))) (e3.1 22 0 (ix (nI a))) (nI a)).1)) :: [(6, .int (nI a)), (5, .int (nI N)), (4, .int (d.1 0 0 17)), (0, .ref (ad 0 0)), (1, .int p1), (2, .int p2), (3, .int p3)]) S.1 S.2.1 dX5_remake_154 hl7 (by decide) rfl (fun ls hl => ?_)
        obtain ⟨y1, y2, y3, y4⟩ := rq5_eff (e := e3) p1 a
        have t3 : ix (e3.1 0 0 17) = T + k := ix_of z17
        refine step (k + 1) (rq5 e3 p1 a) H locs [] ls (k_rq5 hI3 q39 f1.1 (by rw [k01, h01]; exact f1.2.1)) (by rw [y2, ti1 (by omega)]; omega) (y3.trans (k01.trans h01)) (kr.tr y1) (fun u h1 h2 => (kt u (by omega) h2).tr (y4 u (by omega) (by omega))) (by omega) hX hS hs2 (lv_sub hl [1, 2, 3, 4, 5, 6, 7] rfl)
  -- the first loop
  have L1 : ∀ (n a k : Nat) (e2 : Dt) (H : Heap) (locs : List Loc), a + n = T → k + dueM d p1 p2 p3 n a = N → CF d e2 → PIC D (MF G ad) MN ad e2 H → va_S (adS MN ad) s.heap H locs → scM p1 p2 p3 T 0 d = scM p1 p2 p3 n a e2 → ∀ ls : Array Slot, lv_has ls 8 [(6, .int (nI a)), (5, .int (nI k)), (4, .int (d.1 0 0 17)), (0, .ref (ad 0 0)), (1, .int p1), (2, .int p2), (3, .int p3)] →
      W p l e RM5 s m [.ref (ad 0 0), .int p1, .int p2, .int p3].toArray below meth c H locs 0 0 (MQ below (qW (some (.int (sp_X5_remake d p1 p2 p3).1)) D (MF G ad) MN ad (sp_X5_remake d p1 p2 p3).2) [.ref (ad 0 0), .int p1, .int p2, .int p3].toArray s 0 0 (adS MN ad)) (F0 m 44 ls []) := by
    intro n
    induction n with
    | zero =>
      intro a k e2 H locs ha hk hc2 hX2 hS2 hsc ls hl
      have hk : k = N := hk
      have hsc : scM p1 p2 p3 T 0 d = e2 := hsc
      rw [hsc] at hs
      refine lv_iload S.1 S.2.1 dX5_remake_44 (lv_at hl 0 rfl) ?_
      refine lv_iload S.1 S.2.1 dX5_remake_46 (lv_at hl 2 rfl) ?_
      refine q_icmp_ge (tgt := 79) (xi := (a : Int)) (yi := (T : Int)) S (nI_toInt (by omega)) q3 dX5_remake_48 (by decide) (fun _ => ?_) (fun z => absurd (by omega) z)
      refine lv_iload S.1 S.2.1 dX5_remake_79 (lv_at hl 2 rfl) ?_
      refine lv_iload S.1 S.2.1 dX5_remake_81 (lv_at hl 1 rfl) ?_
      refine lv_iadd S.1 S.2.1 dX5_remake_83 ?_
      refine lv_bipush (v := 40) S.1 S.2.1 dX5_remake_84 (by decide) ?_
      have ek : (nI k).toInt = (N : Int) := by rw [hk]; exact nI_toInt (by omega)
      have es : (d.1 0 0 17 + nI k).toInt = (d.1 0 0 17).toInt + (N : Int) := by rw [ti_add (by omega) (by omega), ek]
      refine q_icmp_le (tgt := 92) (xi := (d.1 0 0 17).toInt + (N : Int)) (yi := 40) S es rfl dX5_remake_86 (by decide) (fun c6 => ?_) (fun c6 => ?_)
      · have hs := hs.trans (cif_t c6)
        refine lv_iconst (v := 0) S.1 S.2.1 dX5_remake_92 (by decide) ?_
        refine lv_istore (lv' := [(6, .int 0), (5, .int (nI k)), (4, .int (d.1 0 0 17)), (0, .ref (ad 0 0)), (1, .int p1), (2, .int p2), (3, .int p3)]) S.1 S.2.1 dX5_remake_93 hl (by decide) rfl (fun ls hl => ?_)
        rw [hk] at hl
        exact L2 T 0 0 e2 H locs (by omega) (hI.cf hc2) (by rw [hc2.f0]; omega) hc2.f0 hc2.qr (fun u _ _ => hc2.qt u) (by omega) hX2 hS2 hs [] ls hl
      · have hs := hs.trans (cif_f c6)
        refine lv_bipush (v := (-4)) S.1 S.2.1 dX5_remake_89 (by decide) ?_
        exact wI S hr hlk hs hX2 hS2 dX5_remake_91
    | succ n ih =>
      intro a k e2 H locs ha hk hc2 hX2 hS2 hsc ls hl
      have hia : ix (nI a) = a := ix_of (nI_toInt (by omega))
      have hit : (nI a).toInt = (a : Int) := nI_toInt (by omega)
      have hk : k + (cif ((sp_X5_isStale d (nI a) p1 p2 p3).1) 1 0 + dueM d p1 p2 p3 n (a + 1)) = N := hk
      rw [← hst e2 a (by omega) hc2.qr (hc2.qt a)] at hk
      have hsc : scM p1 p2 p3 T 0 d = scM p1 p2 p3 n (a + 1) (sp_X5_isStale e2 (nI a) p1 p2 p3).2 := hsc
      have g := is_cf (d := e2) (nI a) p1 p2 p3
      have h17 : e2.1 0 0 17 = d.1 0 0 17 := hc2.f0
      have h01 : e2.1 0 0 1 = d.1 0 0 1 := hc2.f0
      refine lv_iload S.1 S.2.1 dX5_remake_44 (lv_at hl 0 rfl) ?_
      refine lv_iload S.1 S.2.1 dX5_remake_46 (lv_at hl 2 rfl) ?_
      refine q_icmp_ge (tgt := 79) (xi := (a : Int)) (yi := (T : Int)) S hit q3 dX5_remake_48 (by decide) (fun z => absurd z (by omega)) (fun _ => ?_)
      refine lv_iload S.1 S.2.1 dX5_remake_51 (lv_at hl 1 rfl) ?_
      refine lv_aload_n S.1 S.2.1 dX5_remake_53 rfl (lv_at hl 3 rfl) ?_
      refine lv_iload S.1 S.2.1 dX5_remake_54 (lv_at hl 0 rfl) ?_
      refine lv_iload_n S.1 S.2.1 dX5_remake_56 rfl (lv_at hl 4 rfl) ?_
      refine lv_iload_n S.1 S.2.1 dX5_remake_57 rfl (lv_at hl 5 rfl) ?_
      refine lv_iload_n S.1 S.2.1 dX5_remake_58 rfl (lv_at hl 6 rfl) ?_
      refine cWV (rest := [.int (nI k)]) S (c_X5_isStale l D G ad e2 (nI a) p1 p2 p3 (hI.cf hc2) (by omega) (by rw [h17]; omega) f1.1 (by rw [h01]; exact f1.2.1)) gV_RX5_195 ds_X5_isStale ⟨rfl, rfl⟩ ⟨Nat.le_of_ble_eq_true rfl, Nat.le_of_ble_eq_true rfl⟩ ⟨blindX, recvX hK hX2 (k := 0) (i := 0) Nat.zero_lt_one rfl rfl, preX hK hN hX2 _⟩ rfl hl.1 rfl (Nat.le_of_ble_eq_true rfl) ⟨Nat.le_of_ble_eq_true rfl, Nat.le_of_ble_eq_true rfl⟩ dX5_remake_59 hS2 (fun _ h => h) (fun H locs hX hS hfr => ?_)
      have step : ∀ k1 : Nat, k1 + dueM d p1 p2 p3 n (a + 1) = N → W p l e RM5 s m [.ref (ad 0 0), .int p1, .int p2, .int p3].toArray below meth c H locs 0 0 (MQ below (qW (some (.int (sp_X5_remake d p1 p2 p3).1)) D (MF G ad) MN ad (sp_X5_remake d p1 p2 p3).2) [.ref (ad 0 0), .int p1, .int p2, .int p3].toArray s 0 0 (adS MN ad)) (F0 m 71 ls [.int (nI k1)]) := fun k1 g1 => by
        refine lv_istore (lv' := [(5, .int (nI k1)), (6, .int (nI a)), (4, .int (d.1 0 0 17)), (0, .ref (ad 0 0)), (1, .int p1), (2, .int p2), (3, .int p3)]) S.1 S.2.1 dX5_remake_71 hl (by decide) rfl (fun ls hl => ?_)
        refine lv_iinc (v := nI (a + 1)) (lv' := [(6, .int (nI (a + 1))), (5, .int (nI k1)), (4, .int (d.1 0 0 17)), (0, .ref (ad 0 0)), (1, .int p1), (2, .int p2), (3, .int p3)]) S.1 S.2.1 dX5_remake_73 hl (k := 1) rfl (nI_1 a) (by decide) rfl (fun ls hl => ?_)
        refine lv_goto (tgt := 44) S.1 S.2.1 dX5_remake_76 (by decide) ?_
        exact ih (a + 1) k1 _ H locs (by omega) g1 (hc2.tr g) hX hS hsc ls hl
      refine q_if_eq_b (tgt := 69) S dX5_remake_62 (by decide) (fun c5 => ?_) (fun c5 => ?_)
      · rw [cif_f c5] at hk
        refine lv_iconst (v := 0) S.1 S.2.1 dX5_remake_69 (by decide) ?_
        refine lv_iadd S.1 S.2.1 dX5_remake_70 (q_to (Int32.add_zero _) ?_)
        exact step k (by omega)
      · rw [cif_t c5] at hk
        refine lv_iconst (v := 1) S.1 S.2.1 dX5_remake_65 (by decide) ?_
        refine lv_goto (tgt := 70) S.1 S.2.1 dX5_remake_66 (by decide) ?_
        refine lv_iadd S.1 S.2.1 dX5_remake_70 (q_to (nI_1 k) ?_)
        exact step (k + 1) (by omega)
  refine lv_aload_n S.1 S.2.1 dX5_remake_32 rfl (lv_at hl 0 rfl) ?_
  refine gf_RX5_176 S hK hX (v := d.1 0 0 17) rfl dX5_remake_33 ?_
  refine lv_istore (lv' := [(4, .int (d.1 0 0 17)), (0, .ref (ad 0 0)), (1, .int p1), (2, .int p2), (3, .int p3)]) S.1 S.2.1 dX5_remake_36 hl (by decide) rfl (fun ls hl => ?_)
  refine lv_iconst (v := 0) S.1 S.2.1 dX5_remake_38 (by decide) ?_
  refine lv_istore (lv' := [(5, .int 0), (4, .int (d.1 0 0 17)), (0, .ref (ad 0 0)), (1, .int p1), (2, .int p2), (3, .int p3)]) S.1 S.2.1 dX5_remake_39 hl (by decide) rfl (fun ls hl => ?_)
  refine lv_iconst (v := 0) S.1 S.2.1 dX5_remake_41 (by decide) ?_
  refine lv_istore (lv' := [(6, .int 0), (5, .int 0), (4, .int (d.1 0 0 17)), (0, .ref (ad 0 0)), (1, .int p1), (2, .int p2), (3, .int p3)]) S.1 S.2.1 dX5_remake_42 hl (by decide) rfl (fun ls hl => ?_)
  exact L1 T 0 0 d s.heap [] (by omega) (by rw [eN]; omega) CF.rf hX hS rfl ls hl
