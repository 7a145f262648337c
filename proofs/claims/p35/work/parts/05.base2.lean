section BASE2
variable {p : Program} {l : Launch} {e : Env} {R : Room} {s : State} {m : MethodId} {args : Array Value} {below : List Frame} {meth : Method} {c : Code} {H : Heap} {locs : List Loc} {cells slots : Nat} {Q : State → Prop}
variable {cc : ByteArray} {nL pc : Nat} {ls : Array Slot} {rest : List Value} {D : va_G} {A : Nat → Prop} {tys : List (ClassId × FieldType)} {H0 : Heap} {Ts : List Cond} {own : String}
variable {F : Nat → Nat → (Nat → Int32) → (Nat → Int64) → va_E} {n : Nat → Nat} {ad : Nat → Nat → Nat} {d : Dt}
theorem q_icmp_eq (S : CallFix p m c cc nL s args Ts own) {x y : Int32} {xi yi : Int} (hx : x.toInt = xi) (hy : y.toInt = yi) {off : Int} {tgt : Nat} (hdg : decode cc pc = .ok (.if_icmp .eq off, 3)) (ht : (pc : Int) + off = (tgt : Int)) (kt : xi = yi → W p l e R s m args below meth c H locs cells slots Q (F0 m tgt ls rest)) (kf : ¬ xi = yi → W p l e R s m args below meth c H locs cells slots Q (F0 m (pc + 3) ls rest)) : W p l e R s m args below meth c H locs cells slots Q (F0 m pc ls (.int y :: .int x :: rest)) := by
  subst hx; subst hy
  exact lv_icmp_eq S.1 S.2.1 hdg ht (fun h => kt ((Int32.toInt_inj.symm).mp h)) (fun h => kf (fun q => h ((Int32.toInt_inj.symm).mpr q)))
theorem q_if_eq (S : CallFix p m c cc nL s args Ts own) {x : Int32} {xi : Int} (hx : x.toInt = xi) {off : Int} {tgt : Nat} (hdg : decode cc pc = .ok (.ifCond .eq off, 3)) (ht : (pc : Int) + off = (tgt : Int)) (kt : xi = 0 → W p l e R s m args below meth c H locs cells slots Q (F0 m tgt ls rest)) (kf : ¬ xi = 0 → W p l e R s m args below meth c H locs cells slots Q (F0 m (pc + 3) ls rest)) : W p l e R s m args below meth c H locs cells slots Q (F0 m pc ls (.int x :: rest)) := by
  subst hx
  have hz := (by rw [← Int32.toInt_inj, Int32.toInt_zero] : x = 0 ↔ x.toInt = 0)
  exact lv_if_eq S.1 S.2.1 hdg ht (fun h => kt (hz.mp h)) (fun h => kf (fun q => h (hz.mpr q)))
theorem q_lcmp_eq (S : CallFix p m c cc nL s args Ts own) {x y : Int64} {xi yi : Int} (hx : x.toInt = xi) (hy : y.toInt = yi) {off : Int} {tgt : Nat} (hdg0 : decode cc pc = .ok (.lcmp, 1)) (hdg : decode cc (pc + 1) = .ok (.ifCond .eq off, 3)) (ht : ((pc + 1 : Nat) : Int) + off = (tgt : Int)) (kt : xi = yi → W p l e R s m args below meth c H locs cells slots Q (F0 m tgt ls rest)) (kf : ¬ xi = yi → W p l e R s m args below meth c H locs cells slots Q (F0 m (pc + 4) ls rest)) : W p l e R s m args below meth c H locs cells slots Q (F0 m pc ls (.long y :: .long x :: rest)) := by
  subst hx; subst hy
  have hz := (lg_cmp_eq x y).trans Int64.toInt_inj.symm
  exact W.lcmp S.1 S.2.1 hdg0 (lv_if_eq S.1 S.2.1 hdg ht (fun h => kt (hz.mp h)) (fun h => kf (fun q => h (hz.mpr q))))
theorem q_icmp_ne (S : CallFix p m c cc nL s args Ts own) {x y : Int32} {xi yi : Int} (hx : x.toInt = xi) (hy : y.toInt = yi) {off : Int} {tgt : Nat} (hdg : decode cc pc = .ok (.if_icmp .ne off, 3)) (ht : (pc : Int) + off = (tgt : Int)) (kt : ¬ xi = yi → W p l e R s m args below meth c H locs cells slots Q (F0 m tgt ls rest)) (kf : xi = yi → W p l e R s m args below meth c H locs cells slots Q (F0 m (pc + 3) ls rest)) : W p l e R s m args below meth c H locs cells slots Q (F0 m pc ls (.int y :: .int x :: rest)) := by
  subst hx; subst hy
  exact lv_icmp_ne S.1 S.2.1 hdg ht (fun h => kt (fun q => h ((Int32.toInt_inj.symm).mpr q))) (fun h => kf ((Int32.toInt_inj.symm).mp h))
theorem q_if_ne (S : CallFix p m c cc nL s args Ts own) {x : Int32} {xi : Int} (hx : x.toInt = xi) {off : Int} {tgt : Nat} (hdg : decode cc pc = .ok (.ifCond .ne off, 3)) (ht : (pc : Int) + off = (tgt : Int)) (kt : ¬ xi = 0 → W p l e R s m args below meth c H locs cells slots Q (F0 m tgt ls rest)) (kf : xi = 0 → W p l e R s m args below meth c H locs cells slots Q (F0 m (pc + 3) ls rest)) : W p l e R s m args below meth c H locs cells slots Q (F0 m pc ls (.int x :: rest)) := by
  subst hx
  have hz := (by rw [← Int32.toInt_inj, Int32.toInt_zero] : x = 0 ↔ x.toInt = 0)
  exact lv_if_ne S.1 S.2.1 hdg ht (fun h => kt (fun q => h (hz.mpr q))) (fun h => kf (hz.mp h))
theorem q_lcmp_ne (S : CallFix p m c cc nL s args Ts own) {x y : Int64} {xi yi : Int} (hx : x.toInt = xi) (hy : y.toInt = yi) {off : Int} {tgt : Nat} (hdg0 : decode cc pc = .ok (.lcmp, 1)) (hdg : decode cc (pc + 1) = .ok (.ifCond .ne off, 3)) (ht : ((pc + 1 : Nat) : Int) + off = (tgt : Int)) (kt : ¬ xi = yi → W p l e R s m args below meth c H locs cells slots Q (F0 m tgt ls rest)) (kf : xi = yi → W p l e R s m args below meth c H locs cells slots Q (F0 m (pc + 4) ls rest)) : W p l e R s m args below meth c H locs cells slots Q (F0 m pc ls (.long y :: .long x :: rest)) := by
  subst hx; subst hy
  have hz := (lg_cmp_eq x y).trans Int64.toInt_inj.symm
  exact W.lcmp S.1 S.2.1 hdg0 (lv_if_ne S.1 S.2.1 hdg ht (fun h => kt (fun q => h (hz.mpr q))) (fun h => kf (hz.mp h)))
theorem q_icmp_lt (S : CallFix p m c cc nL s args Ts own) {x y : Int32} {xi yi : Int} (hx : x.toInt = xi) (hy : y.toInt = yi) {off : Int} {tgt : Nat} (hdg : decode cc pc = .ok (.if_icmp .lt off, 3)) (ht : (pc : Int) + off = (tgt : Int)) (kt : xi < yi → W p l e R s m args below meth c H locs cells slots Q (F0 m tgt ls rest)) (kf : ¬ xi < yi → W p l e R s m args below meth c H locs cells slots Q (F0 m (pc + 3) ls rest)) : W p l e R s m args below meth c H locs cells slots Q (F0 m pc ls (.int y :: .int x :: rest)) := by
  subst hx; subst hy
  exact lv_icmp_lt S.1 S.2.1 hdg ht (fun h => kt ((Int32.lt_iff_toInt_lt).mp h)) (fun h => kf (fun q => h ((Int32.lt_iff_toInt_lt).mpr q)))
theorem q_if_lt (S : CallFix p m c cc nL s args Ts own) {x : Int32} {xi : Int} (hx : x.toInt = xi) {off : Int} {tgt : Nat} (hdg : decode cc pc = .ok (.ifCond .lt off, 3)) (ht : (pc : Int) + off = (tgt : Int)) (kt : xi < 0 → W p l e R s m args below meth c H locs cells slots Q (F0 m tgt ls rest)) (kf : ¬ xi < 0 → W p l e R s m args below meth c H locs cells slots Q (F0 m (pc + 3) ls rest)) : W p l e R s m args below meth c H locs cells slots Q (F0 m pc ls (.int x :: rest)) := by
  subst hx
  have hz := (by rw [Int32.lt_iff_toInt_lt, Int32.toInt_zero] : x < 0 ↔ x.toInt < 0)
  exact lv_if_lt S.1 S.2.1 hdg ht (fun h => kt (hz.mp h)) (fun h => kf (fun q => h (hz.mpr q)))
theorem q_lcmp_lt (S : CallFix p m c cc nL s args Ts own) {x y : Int64} {xi yi : Int} (hx : x.toInt = xi) (hy : y.toInt = yi) {off : Int} {tgt : Nat} (hdg0 : decode cc pc = .ok (.lcmp, 1)) (hdg : decode cc (pc + 1) = .ok (.ifCond .lt off, 3)) (ht : ((pc + 1 : Nat) : Int) + off = (tgt : Int)) (kt : xi < yi → W p l e R s m args below meth c H locs cells slots Q (F0 m tgt ls rest)) (kf : ¬ xi < yi → W p l e R s m args below meth c H locs cells slots Q (F0 m (pc + 4) ls rest)) : W p l e R s m args below meth c H locs cells slots Q (F0 m pc ls (.long y :: .long x :: rest)) := by
  subst hx; subst hy
  have hz := (lg_cmp_lt x y).trans Int64.lt_iff_toInt_lt
  exact W.lcmp S.1 S.2.1 hdg0 (lv_if_lt S.1 S.2.1 hdg ht (fun h => kt (hz.mp h)) (fun h => kf (fun q => h (hz.mpr q))))
theorem q_icmp_ge (S : CallFix p m c cc nL s args Ts own) {x y : Int32} {xi yi : Int} (hx : x.toInt = xi) (hy : y.toInt = yi) {off : Int} {tgt : Nat} (hdg : decode cc pc = .ok (.if_icmp .ge off, 3)) (ht : (pc : Int) + off = (tgt : Int)) (kt : yi ≤ xi → W p l e R s m args below meth c H locs cells slots Q (F0 m tgt ls rest)) (kf : ¬ yi ≤ xi → W p l e R s m args below meth c H locs cells slots Q (F0 m (pc + 3) ls rest)) : W p l e R s m args below meth c H locs cells slots Q (F0 m pc ls (.int y :: .int x :: rest)) := by
  subst hx; subst hy
  exact lv_icmp_ge S.1 S.2.1 hdg ht (fun h => kt ((Int32.le_iff_toInt_le).mp h)) (fun h => kf (fun q => h ((Int32.le_iff_toInt_le).mpr q)))
theorem q_if_ge (S : CallFix p m c cc nL s args Ts own) {x : Int32} {xi : Int} (hx : x.toInt = xi) {off : Int} {tgt : Nat} (hdg : decode cc pc = .ok (.ifCond .ge off, 3)) (ht : (pc : Int) + off = (tgt : Int)) (kt : 0 ≤ xi → W p l e R s m args below meth c H locs cells slots Q (F0 m tgt ls rest)) (kf : ¬ 0 ≤ xi → W p l e R s m args below meth c H locs cells slots Q (F0 m (pc + 3) ls rest)) : W p l e R s m args below meth c H locs cells slots Q (F0 m pc ls (.int x :: rest)) := by
  subst hx
  have hz := (by rw [Int32.le_iff_toInt_le, Int32.toInt_zero] : 0 ≤ x ↔ 0 ≤ x.toInt)
  exact lv_if_ge S.1 S.2.1 hdg ht (fun h => kt (hz.mp h)) (fun h => kf (fun q => h (hz.mpr q)))
theorem q_lcmp_ge (S : CallFix p m c cc nL s args Ts own) {x y : Int64} {xi yi : Int} (hx : x.toInt = xi) (hy : y.toInt = yi) {off : Int} {tgt : Nat} (hdg0 : decode cc pc = .ok (.lcmp, 1)) (hdg : decode cc (pc + 1) = .ok (.ifCond .ge off, 3)) (ht : ((pc + 1 : Nat) : Int) + off = (tgt : Int)) (kt : yi ≤ xi → W p l e R s m args below meth c H locs cells slots Q (F0 m tgt ls rest)) (kf : ¬ yi ≤ xi → W p l e R s m args below meth c H locs cells slots Q (F0 m (pc + 4) ls rest)) : W p l e R s m args below meth c H locs cells slots Q (F0 m pc ls (.long y :: .long x :: rest)) := by
  subst hx; subst hy
  have hz := (lg_cmp_ge x y).trans Int64.le_iff_toInt_le
  exact W.lcmp S.1 S.2.1 hdg0 (lv_if_ge S.1 S.2.1 hdg ht (fun h => kt (hz.mp h)) (fun h => kf (fun q => h (hz.mpr q))))
theorem q_icmp_gt (S : CallFix p m c cc nL s args Ts own) {x y : Int32} {xi yi : Int} (hx : x.toInt = xi) (hy : y.toInt = yi) {off : Int} {tgt : Nat} (hdg : decode cc pc = .ok (.if_icmp .gt off, 3)) (ht : (pc : Int) + off = (tgt : Int)) (kt : yi < xi → W p l e R s m args below meth c H locs cells slots Q (F0 m tgt ls rest)) (kf : ¬ yi < xi → W p l e R s m args below meth c H locs cells slots Q (F0 m (pc + 3) ls rest)) : W p l e R s m args below meth c H locs cells slots Q (F0 m pc ls (.int y :: .int x :: rest)) := by
  subst hx; subst hy
  exact lv_icmp_gt S.1 S.2.1 hdg ht (fun h => kt ((Int32.lt_iff_toInt_lt).mp h)) (fun h => kf (fun q => h ((Int32.lt_iff_toInt_lt).mpr q)))
theorem q_if_gt (S : CallFix p m c cc nL s args Ts own) {x : Int32} {xi : Int} (hx : x.toInt = xi) {off : Int} {tgt : Nat} (hdg : decode cc pc = .ok (.ifCond .gt off, 3)) (ht : (pc : Int) + off = (tgt : Int)) (kt : 0 < xi → W p l e R s m args below meth c H locs cells slots Q (F0 m tgt ls rest)) (kf : ¬ 0 < xi → W p l e R s m args below meth c H locs cells slots Q (F0 m (pc + 3) ls rest)) : W p l e R s m args below meth c H locs cells slots Q (F0 m pc ls (.int x :: rest)) := by
  subst hx
  have hz := (by rw [Int32.lt_iff_toInt_lt, Int32.toInt_zero] : 0 < x ↔ 0 < x.toInt)
  exact lv_if_gt S.1 S.2.1 hdg ht (fun h => kt (hz.mp h)) (fun h => kf (fun q => h (hz.mpr q)))
theorem q_lcmp_gt (S : CallFix p m c cc nL s args Ts own) {x y : Int64} {xi yi : Int} (hx : x.toInt = xi) (hy : y.toInt = yi) {off : Int} {tgt : Nat} (hdg0 : decode cc pc = .ok (.lcmp, 1)) (hdg : decode cc (pc + 1) = .ok (.ifCond .gt off, 3)) (ht : ((pc + 1 : Nat) : Int) + off = (tgt : Int)) (kt : yi < xi → W p l e R s m args below meth c H locs cells slots Q (F0 m tgt ls rest)) (kf : ¬ yi < xi → W p l e R s m args below meth c H locs cells slots Q (F0 m (pc + 4) ls rest)) : W p l e R s m args below meth c H locs cells slots Q (F0 m pc ls (.long y :: .long x :: rest)) := by
  subst hx; subst hy
  have hz := (lg_cmp_gt x y).trans Int64.lt_iff_toInt_lt
  exact W.lcmp S.1 S.2.1 hdg0 (lv_if_gt S.1 S.2.1 hdg ht (fun h => kt (hz.mp h)) (fun h => kf (fun q => h (hz.mpr q))))
theorem q_icmp_le (S : CallFix p m c cc nL s args Ts own) {x y : Int32} {xi yi : Int} (hx : x.toInt = xi) (hy : y.toInt = yi) {off : Int} {tgt : Nat} (hdg : decode cc pc = .ok (.if_icmp .le off, 3)) (ht : (pc : Int) + off = (tgt : Int)) (kt : xi ≤ yi → W p l e R s m args below meth c H locs cells slots Q (F0 m tgt ls rest)) (kf : ¬ xi ≤ yi → W p l e R s m args below meth c H locs cells slots Q (F0 m (pc + 3) ls rest)) : W p l e R s m args below meth c H locs cells slots Q (F0 m pc ls (.int y :: .int x :: rest)) := by
  subst hx; subst hy
  exact lv_icmp_le S.1 S.2.1 hdg ht (fun h => kt ((Int32.le_iff_toInt_le).mp h)) (fun h => kf (fun q => h ((Int32.le_iff_toInt_le).mpr q)))
theorem q_if_le (S : CallFix p m c cc nL s args Ts own) {x : Int32} {xi : Int} (hx : x.toInt = xi) {off : Int} {tgt : Nat} (hdg : decode cc pc = .ok (.ifCond .le off, 3)) (ht : (pc : Int) + off = (tgt : Int)) (kt : xi ≤ 0 → W p l e R s m args below meth c H locs cells slots Q (F0 m tgt ls rest)) (kf : ¬ xi ≤ 0 → W p l e R s m args below meth c H locs cells slots Q (F0 m (pc + 3) ls rest)) : W p l e R s m args below meth c H locs cells slots Q (F0 m pc ls (.int x :: rest)) := by
  subst hx
  have hz := (by rw [Int32.le_iff_toInt_le, Int32.toInt_zero] : x ≤ 0 ↔ x.toInt ≤ 0)
  exact lv_if_le S.1 S.2.1 hdg ht (fun h => kt (hz.mp h)) (fun h => kf (fun q => h (hz.mpr q)))
theorem q_lcmp_le (S : CallFix p m c cc nL s args Ts own) {x y : Int64} {xi yi : Int} (hx : x.toInt = xi) (hy : y.toInt = yi) {off : Int} {tgt : Nat} (hdg0 : decode cc pc = .ok (.lcmp, 1)) (hdg : decode cc (pc + 1) = .ok (.ifCond .le off, 3)) (ht : ((pc + 1 : Nat) : Int) + off = (tgt : Int)) (kt : xi ≤ yi → W p l e R s m args below meth c H locs cells slots Q (F0 m tgt ls rest)) (kf : ¬ xi ≤ yi → W p l e R s m args below meth c H locs cells slots Q (F0 m (pc + 4) ls rest)) : W p l e R s m args below meth c H locs cells slots Q (F0 m pc ls (.long y :: .long x :: rest)) := by
  subst hx; subst hy
  have hz := (lg_cmp_le x y).trans Int64.le_iff_toInt_le
  exact W.lcmp S.1 S.2.1 hdg0 (lv_if_le S.1 S.2.1 hdg ht (fun h => kt (hz.mp h)) (fun h => kf (fun q => h (hz.mpr q))))
theorem q_if_eq_b (S : CallFix p m c cc nL s args Ts own) {P : Prop} {off : Int} {tgt : Nat} (hdg : decode cc pc = .ok (.ifCond .eq off, 3)) (ht : (pc : Int) + off = (tgt : Int)) (kt : ¬ P → W p l e R s m args below meth c H locs cells slots Q (F0 m tgt ls rest)) (kf : P → W p l e R s m args below meth c H locs cells slots Q (F0 m (pc + 3) ls rest)) : W p l e R s m args below meth c H locs cells slots Q (F0 m pc ls (.int (b2i P) :: rest)) := by
  by_cases h : P
  · exact lv_if_eq S.1 S.2.1 hdg ht (fun q => absurd q (by rw [b2i_t h]; decide)) (fun _ => kf h)
  · exact lv_if_eq S.1 S.2.1 hdg ht (fun _ => kt h) (fun q => absurd (b2i_f h) q)
theorem q_if_ne_b (S : CallFix p m c cc nL s args Ts own) {P : Prop} {off : Int} {tgt : Nat} (hdg : decode cc pc = .ok (.ifCond .ne off, 3)) (ht : (pc : Int) + off = (tgt : Int)) (kt : P → W p l e R s m args below meth c H locs cells slots Q (F0 m tgt ls rest)) (kf : ¬ P → W p l e R s m args below meth c H locs cells slots Q (F0 m (pc + 3) ls rest)) : W p l e R s m args below meth c H locs cells slots Q (F0 m pc ls (.int (b2i P) :: rest)) := by
  by_cases h : P
  · exact lv_if_ne S.1 S.2.1 hdg ht (fun _ => kt h) (fun q => absurd q (by rw [b2i_t h]; decide))
  · exact lv_if_ne S.1 S.2.1 hdg ht (fun q => absurd (b2i_f h) q) (fun _ => kf h)
theorem q_to {x y : Int32} (h : x = y) (k : W p l e R s m args below meth c H locs cells slots Q (F0 m pc ls (.int y :: rest))) : W p l e R s m args below meth c H locs cells slots Q (F0 m pc ls (.int x :: rest)) := h ▸ k
theorem q_toL {x y : Int64} (h : x = y) (k : W p l e R s m args below meth c H locs cells slots Q (F0 m pc ls (.long y :: rest))) : W p l e R s m args below meth c H locs cells slots Q (F0 m pc ls (.long x :: rest)) := h ▸ k
/-! ends -/
theorem rI (S : CallFix p m c cc nL s args Ts own) (hr : meth.sig.returnType = some .int) (hlk : meth.locks = false) {sp v : Int32} (hs : sp = v) {free : Addr → Prop} (hdg : decode cc pc = .ok (.ireturn, 1)) : W p l e R s m args below meth c s.heap [] 0 0 (MQ below (qV (some (.int sp))) args s 0 0 free) (F0 m pc ls [.int v]) :=
  W.iret S.1 S.2.1 hr (fun t ht _ => ⟨by rw [hs], ht⟩) (fun _ h => by cases h) hdg hlk
theorem rZ (S : CallFix p m c cc nL s args Ts own) (hr : meth.sig.returnType = some .boolean) (hlk : meth.locks = false) {SP P : Prop} {v : Int32} (hs : SP = P) (hv : v = b2i P) {free : Addr → Prop} (hdg : decode cc pc = .ok (.ireturn, 1)) : W p l e R s m args below meth c s.heap [] 0 0 (MQ below (qV (some (.int (b2i SP)))) args s 0 0 free) (F0 m pc ls [.int v]) :=
  W.zret S.1 S.2.1 hr (by rw [hv]; exact b2i_nar P) (fun t ht _ => ⟨by rw [hs, hv], ht⟩) (fun _ h => by cases h) hdg hlk
theorem rL (S : CallFix p m c cc nL s args Ts own) (hr : meth.sig.returnType = some .long) (hlk : meth.locks = false) {sp v : Int64} (hs : sp = v) {free : Addr → Prop} (hdg : decode cc pc = .ok (.lreturn, 1)) : W p l e R s m args below meth c s.heap [] 0 0 (MQ below (qV (some (.long sp))) args s 0 0 free) (F0 m pc ls [.long v]) :=
  W.lret S.1 S.2.1 hr (fun t ht _ => ⟨by rw [hs], ht⟩) (fun _ h => by cases h) hdg hlk
theorem wI (S : CallFix p m c cc nL s args Ts own) (hr : meth.sig.returnType = some .int) (hlk : meth.locks = false) {sp : Int32 × Dt} {v : Int32} {d1 : Dt} (hs : sp = (v, d1)) (hX : PIC D F n ad d1 H) (hS : va_S (adS n ad) s.heap H locs) (hdg : decode cc pc = .ok (.ireturn, 1)) : W p l e R s m args below meth c H locs 0 0 (MQ below (qW (some (.int sp.1)) D F n ad sp.2) args s 0 0 (adS n ad)) (F0 m pc ls [.int v]) :=
  W.iret S.1 S.2.1 hr (fun t ht _ => ⟨by rw [hs], by rw [hs, ht]; exact hX, hS.F ht⟩) hS.2.2 hdg hlk
theorem wZ (S : CallFix p m c cc nL s args Ts own) (hr : meth.sig.returnType = some .boolean) (hlk : meth.locks = false) {sp : Prop × Dt} {P : Prop} {v : Int32} {d1 : Dt} (hs : sp = (P, d1)) (hv : v = b2i P) (hX : PIC D F n ad d1 H) (hS : va_S (adS n ad) s.heap H locs) (hdg : decode cc pc = .ok (.ireturn, 1)) : W p l e R s m args below meth c H locs 0 0 (MQ below (qW (some (.int (b2i sp.1))) D F n ad sp.2) args s 0 0 (adS n ad)) (F0 m pc ls [.int v]) :=
  W.zret S.1 S.2.1 hr (by rw [hv]; exact b2i_nar P) (fun t ht _ => ⟨by rw [hs, hv], by rw [hs, ht]; exact hX, hS.F ht⟩) hS.2.2 hdg hlk
theorem wL (S : CallFix p m c cc nL s args Ts own) (hr : meth.sig.returnType = some .long) (hlk : meth.locks = false) {sp : Int64 × Dt} {v : Int64} {d1 : Dt} (hs : sp = (v, d1)) (hX : PIC D F n ad d1 H) (hS : va_S (adS n ad) s.heap H locs) (hdg : decode cc pc = .ok (.lreturn, 1)) : W p l e R s m args below meth c H locs 0 0 (MQ below (qW (some (.long sp.1)) D F n ad sp.2) args s 0 0 (adS n ad)) (F0 m pc ls [.long v]) :=
  W.lret S.1 S.2.1 hr (fun t ht _ => ⟨by rw [hs], by rw [hs, ht]; exact hX, hS.F ht⟩) hS.2.2 hdg hlk
theorem wV (S : CallFix p m c cc nL s args Ts own) (hr : meth.sig.returnType = none) (hlk : meth.locks = false) {sp d1 : Dt} (hs : sp = d1) (hX : PIC D F n ad d1 H) (hS : va_S (adS n ad) s.heap H locs) (hdg : decode cc pc = .ok (.return_, 1)) : W p l e R s m args below meth c H locs 0 0 (MQ below (qW none D F n ad sp) args s 0 0 (adS n ad)) (F0 m pc ls []) :=
  W.vret S.1 S.2.1 hr (fun t ht _ => ⟨rfl, by rw [hs, ht]; exact hX, hS.F ht⟩) hS.2.2 hdg hlk
/-! calls -/
theorem goodV {idx : Nat} {C : String} {y : MethodName} {b : ByteArray} {k : Nat} {r : Option FieldType} (m1 : Cond.methodLink own idx y ∈ wsL_law) (m2 : Cond.instanceMethod y ∈ wsL_law) (m3 : Cond.selects C y y ∈ wsL_law) (m4 : Cond.initialized C ∈ wsL_law) (m5 : Cond.code y b k r ∈ wsL_law) : GoodIn wsL_law (wsV own idx C y (wsU y b k r)) := by
  intro w hw
  have hm : w ∈ wsL_law := by
    rcases List.mem_append.mp hw with h | h
    · simp only [List.mem_cons, List.not_mem_nil, or_false] at h
      rcases h with rfl | rfl | rfl | rfl
      · exact m1
      · exact m2
      · exact m3
      · exact m4
    · exact (goodUL m5 w h).1
  exact ⟨hm, (wsL_good _ hm).2⟩
theorem goodS {idx : Nat} {y : MethodName} {b : ByteArray} {k : Nat} {r : Option FieldType} (m1 : Cond.methodLink own idx y ∈ wsL_law) (m2 : Cond.static y ∈ wsL_law) (m4 : Cond.initialized y.cls ∈ wsL_law) (m5 : Cond.code y b k r ∈ wsL_law) : GoodIn wsL_law (va_wsS own idx y (wsU y b k r)) := by
  intro w hw
  have hm : w ∈ wsL_law := by
    rcases List.mem_append.mp hw with h | h
    · simp only [List.mem_cons, List.not_mem_nil, or_false] at h
      rcases h with rfl | rfl | rfl
      · exact m1
      · exact m2
      · exact m4
    · exact (goodUL m5 w h).1
  exact ⟨hm, (wsL_good _ hm).2⟩
abbrev XPre (D : va_G) (tys : List (ClassId × FieldType)) (F : Nat → Nat → (Nat → Int32) → (Nat → Int64) → va_E) (n : Nat → Nat) (ad : Nat → Nat → Nat) (d : Dt) : State → Prop := fun U => va_K D vwCl tys U ∧ NW U ∧ PIC D F n ad d U.heap
theorem blindX {As : List Value} : FrameBlind (va_Pc As (XPre D tys F n ad d)) := fun a U g mk q => ⟨q.1, va_K.moved (u := U) (U := U.calling g mk a) (Vm.Alike.refl U.vm) q.2.1, NW.same (u := U) (U := U.calling g mk a) rfl q.2.2.1, q.2.2.2⟩
theorem blindT {As : List Value} : FrameBlind (va_Pc As (fun _ => True)) := fun _ _ _ _ q => q
theorem preX (hK : va_K D vwCl tys s) (hN : NW s) (hX : PIC D F n ad d H) (As : List Value) : ∀ U : State, U.heap = H → s.WarmedH U.vm → va_Pc As (XPre D tys F n ad d) As.toArray U := fun U hU hW => ⟨rfl, va_K.moved hW.alike hK, NW.warm hW hN, by rw [hU]; exact hX⟩
theorem recvX (hK : va_K D vwCl tys s) (hX : PIC D F n ad d H) {k i : Nat} (hi : i < n k) {ci : Nat} {fs : List Value} (hF : F k i (d.1 k i) (d.2 k i) = .inr (ci, fs)) {C : String} {T : u_T} {N : Nat} (hc : vwCl[ci]? = some (C, T, N)) : ∃ cellB : Cell, H[ad k i]? = some cellB ∧ cellB.vm.isStatics = false ∧ s.vm.findClass C = some cellB.cls := by
  have h1 := hX.1 k i hi
  rw [hF] at h1
  have hP : va_P D vwCl [(ad k i, .inr (ci, fs))] H := fun j q hq => by
    have hz : j < 1 := (List.getElem?_eq_some_iff.mp hq).1
    rw [show j = 0 by omega] at hq
    cases hq
    exact h1
  exact va_recv hK hP hc (q0 := 0) rfl
theorem cont_pure {g : JFrame} {v : Value} {a : Array Value} (hr : CallRun p l e R s m args below meth c H locs cells slots 0 0 g rest (qV (some v) a) (fun _ => False)) (kk : W p l e R s m args below meth c H locs cells slots Q { g with pc := g.pc + 3, stack := v :: rest }) : W p l e R s m args below meth c H locs cells slots Q g := by
  intro T hT X
  obtain ⟨v', st₀, t, T', L, h0, X', hL, e1, ⟨hv, hh⟩, st⟩ := hr T hT X
  cases hv
  obtain ⟨t2, a1, b1⟩ := kk T' (by rw [e1, hh, h0]) (Stand.forget X' (fun q h => (hL q h).elim))
  exact ⟨t2, st t2 a1, b1⟩
theorem cont_wr {g : JFrame} {v : Option Value} {a : Array Value} {d' : Dt} (hr : CallRun p l e R s m args below meth c H locs cells slots 0 0 g rest (qW v D F n ad d' a) (adS n ad)) (hS : va_S A H0 H locs) (hA : ∀ q, adS n ad q → A q) (kk : ∀ (H1 : Heap) (locs1 : List Loc), PIC D F n ad d' H1 → va_S A H0 H1 locs1 → (∀ q : Nat, q < H.size → ¬ adS n ad q → H1[q]? = H[q]?) → W p l e R s m args below meth c H1 locs1 cells slots Q { g with pc := g.pc + 3, stack := v.toList ++ rest }) : W p l e R s m args below meth c H locs cells slots Q g := by
  intro T hT X
  obtain ⟨v', st₀, t, T', L, h0, X', hL, e1, ⟨hv, hp, hz, hk⟩, st⟩ := hr T hT X
  cases hv
  rw [h0] at hz hk
  obtain ⟨t2, a1, b1⟩ := kk T'.heap (locs ++ L) (by rw [e1]; exact hp) ⟨Nat.le_trans hS.1 (by rw [e1]; exact hz), fun q g1 g2 => by
      rw [e1, hk q (Nat.lt_of_lt_of_le g1 hS.1) (fun z => g2 (hA q z))]
      exact hS.2.1 q g1 g2, fun q hq => by
      rcases List.mem_append.mp hq with h | h
      · exact hS.2.2 q h
      · exact hA _ (hL q h)⟩ (fun q g1 g2 => by rw [e1]; exact hk q g1 g2) T' rfl X'
  exact ⟨t2, st t2 a1, b1⟩
theorem cPV (S : CallFix p m c cc nL s args wsL_law own) {y : MethodName} {C : String} {bz : ByteArray} {mL idx nA b : Nat} {r : Option FieldType} {rm : Room} {As st : List Value} {Pre : State → Prop} {v : Value} (hM : Met l y (wsU y bz mL r) rm (va_Pc (.ref b :: As) Pre) (qV (some v)) 0 0 (fun _ => False)) (hg : GoodIn wsL_law (wsV own idx C y (wsU y bz mL r)))
    (hd : y.cls = C ∧ y.cls ≠ "java/lang/invoke/MethodHandle" ∧ y.cls ≠ "java/lang/invoke/VarHandle" ∧ (parseMethodDescriptor y.desc).map (fun d => d.parameters.length) = some nA) (hrm : rm.cells = 0 ∧ rm.slots = 0) (hR : rm.frames + 1 ≤ R.frames ∧ 8 + (mL + 11) + rm.locals ≤ R.locals) (hp : PreV s H C b (va_Pc (.ref b :: As) Pre) As)
    (hn : As.length = nA) (hsz : ls.size = nL) (hst : st = As.reverse ++ .ref b :: rest) (hw : (rest.map fun v => v.category).sum ≤ 8) (hf : cells ≤ R.cells ∧ slots ≤ R.slots) (hdg : decode cc pc = .ok (.invokevirtual idx, 3)) (kk : W p l e R s m args below meth c H locs cells slots Q (F0 m (pc + 3) ls (v :: rest))) : W p l e R s m args below meth c H locs cells slots Q (F0 m pc ls st) :=
  cont_pure (W.runV S hM (cwV nA S.2.2.2.2 hg rfl hrm.1 hrm.2 hd hR) hp rfl hn hsz hst (lv_room hw) hdg hf) kk
theorem cPS (S : CallFix p m c cc nL s args wsL_law own) {y : MethodName} {bz : ByteArray} {mL idx nA : Nat} {r : Option FieldType} {rm : Room} {As st : List Value} {v : Value} (hM : Met l y (wsU y bz mL r) rm (va_Pc As (fun _ => True)) (qV (some v)) 0 0 (fun _ => False)) (hg : GoodIn wsL_law (va_wsS own idx y (wsU y bz mL r)))
    (hd : y.cls ≠ "java/lang/invoke/MethodHandle" ∧ y.cls ≠ "java/lang/invoke/VarHandle" ∧ (parseMethodDescriptor y.desc).map (fun d => d.parameters.length) = some nA) (hrm : rm.cells = 0 ∧ rm.slots = 0) (hR : rm.frames + 1 ≤ R.frames ∧ 8 + (mL + 11) + rm.locals ≤ R.locals)
    (hn : As.length = nA) (hsz : ls.size = nL) (hst : st = As.reverse ++ rest) (hw : (rest.map fun v => v.category).sum ≤ 8) (hf : cells ≤ R.cells ∧ slots ≤ R.slots) (hdg : decode cc pc = .ok (.invokestatic idx, 3)) (kk : W p l e R s m args below meth c H locs cells slots Q (F0 m (pc + 3) ls (v :: rest))) : W p l e R s m args below meth c H locs cells slots Q (F0 m pc ls st) :=
  cont_pure (W.runS S hM (va_cwS nA S.2.2.2.2 hg rfl hrm.1 hrm.2 hd hR) ⟨blindT, fun _ _ _ => ⟨rfl, trivial⟩⟩ rfl hn hsz hst (lv_room hw) hdg hf) kk
theorem cWV (S : CallFix p m c cc nL s args wsL_law own) {y : MethodName} {C : String} {bz : ByteArray} {mL idx nA b : Nat} {r : Option FieldType} {rm : Room} {As st : List Value} {Pre : State → Prop} {v : Option Value} {d' : Dt} (hM : Met l y (wsU y bz mL r) rm (va_Pc (.ref b :: As) Pre) (qW v D F n ad d') 0 0 (adS n ad)) (hg : GoodIn wsL_law (wsV own idx C y (wsU y bz mL r)))
    (hd : y.cls = C ∧ y.cls ≠ "java/lang/invoke/MethodHandle" ∧ y.cls ≠ "java/lang/invoke/VarHandle" ∧ (parseMethodDescriptor y.desc).map (fun d => d.parameters.length) = some nA) (hrm : rm.cells = 0 ∧ rm.slots = 0) (hR : rm.frames + 1 ≤ R.frames ∧ 8 + (mL + 11) + rm.locals ≤ R.locals) (hp : PreV s H C b (va_Pc (.ref b :: As) Pre) As)
    (hn : As.length = nA) (hsz : ls.size = nL) (hst : st = As.reverse ++ .ref b :: rest) (hw : (rest.map fun v => v.category).sum ≤ 8) (hf : cells ≤ R.cells ∧ slots ≤ R.slots) (hdg : decode cc pc = .ok (.invokevirtual idx, 3)) (hS : va_S A H0 H locs) (hA : ∀ q, adS n ad q → A q)
    (kk : ∀ (H1 : Heap) (locs1 : List Loc), PIC D F n ad d' H1 → va_S A H0 H1 locs1 → (∀ q : Nat, q < H.size → ¬ adS n ad q → H1[q]? = H[q]?) → W p l e R s m args below meth c H1 locs1 cells slots Q (F0 m (pc + 3) ls (v.toList ++ rest))) : W p l e R s m args below meth c H locs cells slots Q (F0 m pc ls st) :=
  cont_wr (W.runV S hM (cwV nA S.2.2.2.2 hg rfl hrm.1 hrm.2 hd hR) hp rfl hn hsz hst (lv_room hw) hdg hf) hS hA kk
/-- a static method of the JDK that writes one row of the picture (Arrays.fill) -/
theorem cWS (S : CallFix p m c cc nL s args wsL_law own) {y : MethodName} {bz : ByteArray} {mL idx nA : Nat} {r : Option FieldType} {rm : Room} {As st : List Value} {Pre : State → Prop} {v : Option Value} {d' : Dt} (hM : Met l y (wsU y bz mL r) rm (va_Pc As Pre) (qW v D F n ad d') 0 0 (adS n ad)) (hg : GoodIn wsL_law (va_wsS own idx y (wsU y bz mL r)))
    (hd : y.cls ≠ "java/lang/invoke/MethodHandle" ∧ y.cls ≠ "java/lang/invoke/VarHandle" ∧ (parseMethodDescriptor y.desc).map (fun d => d.parameters.length) = some nA) (hrm : rm.cells = 0 ∧ rm.slots = 0) (hR : rm.frames + 1 ≤ R.frames ∧ 8 + (mL + 11) + rm.locals ≤ R.locals) (hp : PreS s H (va_Pc As Pre) As)
    (hn : As.length = nA) (hsz : ls.size = nL) (hst : st = As.reverse ++ rest) (hw : (rest.map fun v => v.category).sum ≤ 8) (hf : cells ≤ R.cells ∧ slots ≤ R.slots) (hdg : decode cc pc = .ok (.invokestatic idx, 3)) (hS : va_S A H0 H locs) (hA : ∀ q, adS n ad q → A q)
    (kk : ∀ (H1 : Heap) (locs1 : List Loc), PIC D F n ad d' H1 → va_S A H0 H1 locs1 → (∀ q : Nat, q < H.size → ¬ adS n ad q → H1[q]? = H[q]?) → W p l e R s m args below meth c H1 locs1 cells slots Q (F0 m (pc + 3) ls (v.toList ++ rest))) : W p l e R s m args below meth c H locs cells slots Q (F0 m pc ls st) :=
  cont_wr (W.runS S hM (va_cwS nA S.2.2.2.2 hg rfl hrm.1 hrm.2 hd hR) hp rfl hn hsz hst (lv_room hw) hdg hf) hS hA kk
theorem cont_pureR {g : JFrame} {v : Value} {a : Array Value} (hr : va_Run p l e R s m args below meth c H locs cells slots 0 0 g rest (qV (some v) a) (fun _ => False)) (kk : W p l e R s m args below meth c H locs cells slots Q { g with pc := g.pc + 3, stack := v :: rest }) : W p l e R s m args below meth c H locs cells slots Q g := by
  intro T hT X
  obtain ⟨v', st₀, t, T', L, h0, X', hL, e1, -, ⟨hv, hh⟩, st⟩ := hr T hT X
  cases hv
  obtain ⟨t2, a1, b1⟩ := kk T' (by rw [e1, hh, h0]) (Stand.forget X' (fun q h => (hL q h).elim))
  exact ⟨t2, st t2 a1, b1⟩
/-- a private static method of a nest mate -/
theorem cPSN (S : CallFix p m c cc nL s args wsL_law own) {y : MethodName} {host : String} {bz : ByteArray} {mL idx nA : Nat} {r : Option FieldType} {rm : Room} {As st : List Value} {v : Value} (hM : Met l y (wsU y bz mL r) rm (va_Pc As (fun _ => True)) (qV (some v)) 0 0 (fun _ => False)) (hlk : va_Nw (.methodLinkNest own idx y host) s) (m2 : Cond.static y ∈ wsL_law) (m4 : Cond.initialized y.cls ∈ wsL_law) (m5 : Cond.code y bz mL r ∈ wsL_law)
    (hd : y.cls ≠ "java/lang/invoke/MethodHandle" ∧ y.cls ≠ "java/lang/invoke/VarHandle" ∧ (parseMethodDescriptor y.desc).map (fun d => d.parameters.length) = some nA) (hrm : rm.cells = 0 ∧ rm.slots = 0) (hR : rm.frames + 1 ≤ R.frames ∧ 8 + (mL + 11) + rm.locals ≤ R.locals)
    (hn : As.length = nA) (hsz : ls.size = nL) (hst : st = As.reverse ++ rest) (hw : (rest.map fun v => v.category).sum ≤ 8) (hf : cells ≤ R.cells ∧ slots ≤ R.slots) (hdg : decode cc pc = .ok (.invokestatic idx, 3)) (kk : W p l e R s m args below meth c H locs cells slots Q (F0 m (pc + 3) ls (v :: rest))) : W p l e R s m args below meth c H locs cells slots Q (F0 m pc ls st) :=
  cont_pureR (va_runSN S hM ⟨va_cnB nA S.2.2.2.2 (goodUL m5) rfl hrm.1 hrm.2 hlk (S.2.2.2.2 _ m4) hd hR, S.2.2.2.2 _ m2, trivial⟩ ⟨blindT, fun _ _ _ => ⟨rfl, trivial⟩⟩ rfl hn hsz hst (lv_room hw) hdg hf) kk
end BASE2
/-- a method's entry -/
theorem ent {l : Launch} {y : MethodName} {b : ByteArray} {nL : Nat} {ret : Option FieldType} {rm : Room} {As : List Value} {Pre : State → Prop} {Qc : Array Value → State → Outcome → State → Prop} {mc ms : Nat} {free : Addr → Prop} (hy : plainName y.cls = true) (hlen : (lg_sl As).length ≤ nL)
    (body : ∀ (p : Program) (e : Env) (s : State) (m : MethodId) (below : List Frame) (meth : Method) (c : Code), CallFix p m c b nL s As.toArray wsL_law y.cls → meth.sig.returnType = ret → meth.locks = false → Pre s → ∀ ls : Array Slot, lv_has ls nL (lv_args 0 As) →
      W p l e rm s m As.toArray below meth c s.heap [] 0 0 (MQ below Qc As.toArray s mc ms free) (F0 m 0 ls [])) : Met l y (wsU y b nL ret) rm (va_Pc As Pre) Qc mc ms free := by
  refine Met.ofW (cc := b) (maxL := nL) (ret := ret) hy rfl ?_
  intro p e s m args below meth c s₁ B hml hv
  obtain ⟨rfl, hpre⟩ := hv
  have hts := atoms_spec (ws := wsU y b nL ret) B.pre
  have hown : s.vm.findClass y.cls = some m.cls := findClass_of_methodNamed B.named
  have hl := lv_entry As (n := nL) hlen
  rw [lg_entry_eq]
  generalize (lg_sl As ++ List.replicate (nL - (lg_sl As).length) Slot.unset).toArray = ls at hl ⊢
  exact body p e s m below meth c ⟨B.exec, B.bytes, hml, hown, fun w h => hts w (List.mem_cons_of_mem _ h)⟩ B.returns B.notSynchronized hpre ls hl
