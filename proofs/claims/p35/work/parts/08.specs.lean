noncomputable def sp_X4_isWithin (p0 : Int32) (p1 : Int32) (p2 : Int32) : Prop :=
  cif (p0.toInt < p1.toInt) (False) (cif (p2.toInt < p0.toInt) (False) (True))
noncomputable def sp_X4_isDay (p0 : Int32) : Prop :=
  sp_X4_isWithin p0 0 400
noncomputable def sp_X4_isFlow (p0 : Int32) : Prop :=
  sp_X4_isWithin p0 1 10000
noncomputable def sp_X4_isLine (p0 : Int32) : Prop :=
  sp_X4_isWithin p0 0 3
noncomputable def sp_X4_isSheet (p0 : Int32) : Prop :=
  sp_X4_isWithin p0 0 3
noncomputable def sp_X4_isLane (p0 : Int32) : Prop :=
  sp_X4_isWithin p0 0 2
noncomputable def sp_X4_areDays (p0 : Int32) (p1 : Int32) : Prop :=
  cif (sp_X4_isDay p0) (cif (sp_X4_isDay p1) (cif (p1.toInt < p0.toInt) (False) (True)) (False)) (False)
noncomputable def sp_X4_rounded (p0 : Int64) (p2 : Int64) : Int64 :=
  cif (0 < p2.toInt) (((2 * p0) + p2) / (2 * p2)) (0)
noncomputable def sp_X0_isFull (d : Dt) (i : Nat) : Prop :=
  cif ((d.1 8 i 6).toInt < 12) (False) (True)
noncomputable def sp_X0_standsBehind (d : Dt) (i : Nat) (p1 : Int32) (p2 : Int32) (p3 : Int32) : Prop :=
  cif (p2.toInt < (d.1 10 i (ix p1)).toInt) (True) (cif ((d.1 10 i (ix p1)).toInt = p2.toInt) (cif ((d.1 11 i (ix p1)).toInt ≤ p3.toInt) (False) (True)) (False))
noncomputable def sp_X0_isOnCurve (d : Dt) (i : Nat) (p1 : Int32) (p2 : Int32) : Prop :=
  cif ((d.1 11 i (ix p1)).toInt ≤ p2.toInt) (cif ((d.1 8 i 6).toInt ≤ (p1 + 1).toInt) (True) (cif ((d.1 10 i (ix (p1 + 1))).toInt = (d.1 10 i (ix p1)).toInt) (cif ((d.1 11 i (ix (p1 + 1))).toInt ≤ p2.toInt) (False) (True)) (True))) (False)
noncomputable def sp_X0_between (d : Dt) (i : Nat) (p1 : Int32) (p2 : Int32) (p3 : Int32) : Int32 :=
  cif (((d.1 10 i (ix p2)) - (d.1 10 i (ix p1))).toInt = 0) (d.1 12 i (ix p1)) ((d.1 12 i (ix p1)) + ((((d.1 12 i (ix p2)) - (d.1 12 i (ix p1))) * (p3 - (d.1 10 i (ix p1)))) / ((d.1 10 i (ix p2)) - (d.1 10 i (ix p1)))))
noncomputable def st_X0_curveSize_4 (d : Dt) (i : Nat) (p1 : Int32) (rec4 : Int32 → Int32 → Int32) (x3 : Int32) (x2 : Int32) : Int32 :=
  cif ((d.1 8 i 6).toInt ≤ x3.toInt) (x2) (cif (sp_X0_isOnCurve d i x3 p1) (rec4 (x3 + 1) (x2 + 1)) (rec4 (x3 + 1) (x2 + 0)))
noncomputable def lp_X0_curveSize_4 (d : Dt) (i : Nat) (p1 : Int32) : Nat → Int32 → Int32 → Int32
  | 0 => fun _ _ => 0
  | n + 1 => fun x3 x2 => st_X0_curveSize_4 d i p1 (lp_X0_curveSize_4 d i p1 n) x3 x2
noncomputable def sp_X0_curveSize (d : Dt) (i : Nat) (p1 : Int32) : Int32 :=
  lp_X0_curveSize_4 d i p1 16 0 0
noncomputable def sp_X3_isReplaced (d : Dt) (i : Nat) : Prop :=
  cif ((d.1 13 i 6).toInt = (-9)) (False) (True)
noncomputable def st_X0_curvePlace_5 (d : Dt) (i : Nat) (p1 : Int32) (p2 : Int32) (rec5 : Int32 → Int32 → Int32) (x4 : Int32) (x3 : Int32) : Int32 :=
  cif ((d.1 8 i 6).toInt ≤ x4.toInt) ((-9)) (cif (sp_X0_isOnCurve d i x4 p1) (cif (x3.toInt = p2.toInt) (x4) (rec5 (x4 + 1) (x3 + 1))) (rec5 (x4 + 1) x3))
noncomputable def lp_X0_curvePlace_5 (d : Dt) (i : Nat) (p1 : Int32) (p2 : Int32) : Nat → Int32 → Int32 → Int32
  | 0 => fun _ _ => 0
  | n + 1 => fun x4 x3 => st_X0_curvePlace_5 d i p1 p2 (lp_X0_curvePlace_5 d i p1 p2 n) x4 x3
noncomputable def sp_X0_curvePlace (d : Dt) (i : Nat) (p1 : Int32) (p2 : Int32) : Int32 :=
  lp_X0_curvePlace_5 d i p1 p2 16 0 0
noncomputable def st_X0_factorAt_10 (d : Dt) (i : Nat) (p1 : Int32) (p2 : Int32) (rec10 : Int32 → Int32 → Int32 → Int32) (x5 : Int32) (x4 : Int32) (x3 : Int32) : Int32 :=
  cif ((d.1 8 i 6).toInt ≤ x5.toInt) (cif (x3.toInt = (-9)) (cif (x4.toInt = (-9)) (100000) (d.1 12 i (ix x4))) (cif (x4.toInt = (-9)) (d.1 12 i (ix x3)) (sp_X0_between d i x3 x4 p1))) (cif (sp_X0_isOnCurve d i x5 p2) (cif (p1.toInt < (d.1 10 i (ix x5)).toInt) (cif ((d.1 10 i (ix x5)).toInt < p1.toInt) (rec10 (x5 + 1) x4 x3) (cif (x4.toInt = (-9)) (rec10 (x5 + 1) x5 x3) (rec10 (x5 + 1) x4 x3))) (cif ((d.1 10 i (ix x5)).toInt < p1.toInt) (rec10 (x5 + 1) x4 x5) (cif (x4.toInt = (-9)) (rec10 (x5 + 1) x5 x5) (rec10 (x5 + 1) x4 x5)))) (rec10 (x5 + 1) x4 x3))
noncomputable def lp_X0_factorAt_10 (d : Dt) (i : Nat) (p1 : Int32) (p2 : Int32) : Nat → Int32 → Int32 → Int32 → Int32
  | 0 => fun _ _ _ => 0
  | n + 1 => fun x5 x4 x3 => st_X0_factorAt_10 d i p1 p2 (lp_X0_factorAt_10 d i p1 p2 n) x5 x4 x3
noncomputable def sp_X0_factorAt (d : Dt) (i : Nat) (p1 : Int32) (p2 : Int32) : Int32 :=
  lp_X0_factorAt_10 d i p1 p2 16 0 (-9) (-9)
noncomputable def st_X1_isGood_32 (d : Dt) (rec32 : Int32 → Int64 → Int64 → Prop) (x5 : Int32) (x3 : Int64) (x1 : Int64) : Prop :=
  cif ((d.1 2 0 5).toInt ≤ x5.toInt) (cif (x1.toInt ≤ 0) (False) (cif (x1.toInt < (2000 * (x3 - x1)).toInt) (False) (True))) (rec32 (x5 + 1) (if (d.2 3 0 (ix x5)) < x3 then x3 else (d.2 3 0 (ix x5))) (if (d.2 3 0 (ix x5)) < x1 then (d.2 3 0 (ix x5)) else x1))
noncomputable def lp_X1_isGood_32 (d : Dt) : Nat → Int32 → Int64 → Int64 → Prop
  | 0 => fun _ _ _ => False
  | n + 1 => fun x5 x3 x1 => st_X1_isGood_32 d (lp_X1_isGood_32 d n) x5 x3 x1
noncomputable def sp_X1_isGood (d : Dt) : Prop :=
  cif (5 ≤ (d.1 2 0 5).toInt) (lp_X1_isGood_32 d 16 ((d.1 2 0 5) - 5) (d.2 3 0 (ix ((d.1 2 0 5) - 1))) (d.2 3 0 (ix ((d.1 2 0 5) - 1)))) (False)
noncomputable def st_X1_factorOf_14 (d : Dt) (p1 : Int32) (rec14 : Int32 → Int64 → Int64) (x4 : Int32) (x2 : Int64) : Int64 :=
  cif ((d.1 2 0 5).toInt ≤ x4.toInt) (sp_X4_rounded ((500 * ((d.1 2 0 3).toInt64)) * p1.toInt64) x2) (rec14 (x4 + 1) (x2 + (d.2 3 0 (ix x4))))
noncomputable def lp_X1_factorOf_14 (d : Dt) (p1 : Int32) : Nat → Int32 → Int64 → Int64
  | 0 => fun _ _ => 0
  | n + 1 => fun x4 x2 => st_X1_factorOf_14 d p1 (lp_X1_factorOf_14 d p1 n) x4 x2
noncomputable def sp_X1_factorOf (d : Dt) (p1 : Int32) : Int64 :=
  lp_X1_factorOf_14 d p1 16 (if (0 : Int32) < ((d.1 2 0 5) - 5) then ((d.1 2 0 5) - 5) else 0) 0
noncomputable def sp_X2_hasCell (d : Dt) (i : Nat) (p1 : Int32) : Prop :=
  sp_X4_isWithin p1 0 ((d.1 6 i 3) - 1)
noncomputable def sp_X2_hasCells (d : Dt) (i : Nat) (p1 : Int32) (p2 : Int32) : Prop :=
  cif (sp_X4_isWithin p1 0 (d.1 6 i 3)) (cif (sp_X4_isWithin p2 0 ((d.1 6 i 3) - p1)) (True) (False)) (False)
noncomputable def sp_X3_counts (d : Dt) (i : Nat) (p1 : Int32) (p2 : Int32) (p3 : Int32) : Prop :=
  cif ((d.1 13 i 0).toInt = p1.toInt) (cif (sp_X4_isWithin (d.1 13 i 1) p2 p3) (cif (sp_X3_isReplaced d i) (False) (True)) (False)) (False)
noncomputable def st_X2_watched_18 (d : Dt) (i : Nat) (p1 : Int32) (p2 : Int32) (p3 : Int32) (rec18 : Int32 → Int32 → Int32 → Int32 → Int32 → Int32 → Int32) (x9 : Int32) (x8 : Int32) (x7 : Int32) (x6 : Int32) (x5 : Int32) (x4 : Int32) : Int32 :=
  cif ((p1 + p2).toInt ≤ x9.toInt) (cif (p3.toInt = 0) (x4) (cif (p3.toInt = 1) (x5) (cif (p3.toInt = 2) (x6) ((x4 + x5) - x6)))) (cif ((d.1 7 i (ix x9)).toInt = 1) (cif ((d.1 7 i (ix x9)).toInt = x8.toInt) (cif (((x7 + 1) - (x7 + 1) / 2 * 2).toInt = 1) (rec18 (x9 + 1) (d.1 7 i (ix x9)) (x7 + 1) x6 (x5 + 1) (x4 + 1)) (cif ((x7 + 1).toInt ≤ 0) (rec18 (x9 + 1) (d.1 7 i (ix x9)) (x7 + 1) x6 x5 (x4 + 1)) (rec18 (x9 + 1) (d.1 7 i (ix x9)) (x7 + 1) (x6 + 1) x5 (x4 + 1)))) (rec18 (x9 + 1) (d.1 7 i (ix x9)) 0 x6 x5 (x4 + 1))) (cif ((d.1 7 i (ix x9)).toInt = 2) (cif ((d.1 7 i (ix x9)).toInt = x8.toInt) (cif (((x7 + 1) - (x7 + 1) / 2 * 2).toInt = 1) (rec18 (x9 + 1) (d.1 7 i (ix x9)) (x7 + 1) x6 (x5 + 1) (x4 + 1)) (cif ((x7 + 1).toInt ≤ 0) (rec18 (x9 + 1) (d.1 7 i (ix x9)) (x7 + 1) x6 x5 (x4 + 1)) (rec18 (x9 + 1) (d.1 7 i (ix x9)) (x7 + 1) (x6 + 1) x5 (x4 + 1)))) (rec18 (x9 + 1) (d.1 7 i (ix x9)) 0 x6 x5 (x4 + 1))) (rec18 (x9 + 1) x8 x7 x6 x5 x4)))
noncomputable def lp_X2_watched_18 (d : Dt) (i : Nat) (p1 : Int32) (p2 : Int32) (p3 : Int32) : Nat → Int32 → Int32 → Int32 → Int32 → Int32 → Int32 → Int32
  | 0 => fun _ _ _ _ _ _ => 0
  | n + 1 => fun x9 x8 x7 x6 x5 x4 => st_X2_watched_18 d i p1 p2 p3 (lp_X2_watched_18 d i p1 p2 p3 n) x9 x8 x7 x6 x5 x4
noncomputable def sp_X2_watched (d : Dt) (i : Nat) (p1 : Int32) (p2 : Int32) (p3 : Int32) : Int32 :=
  lp_X2_watched_18 d i p1 p2 p3 64 p1 0 0 0 0 0
noncomputable def st_X0_takeFactor_6 (d : Dt) (i : Nat) (p1 : Int32) (p2 : Int32) (p3 : Int32) (rec6 : Int32 → Dt → Dt) (x4 : Int32) (e6 : Dt) : Dt :=
  cif (x4.toInt ≤ 0) (uv (uv (uv (uv e6 10 i (ix x4) p1) 11 i (ix x4) p2) 12 i (ix x4) p3) 8 i 6 ((e6.1 8 i 6) + 1)) (cif (sp_X0_standsBehind e6 i (x4 - 1) p1 p2) (rec6 (x4 + (-1)) (uv (uv (uv e6 10 i (ix x4) (e6.1 10 i (ix (x4 - 1)))) 11 i (ix x4) (e6.1 11 i (ix (x4 - 1)))) 12 i (ix x4) (e6.1 12 i (ix (x4 - 1))))) (uv (uv (uv (uv e6 10 i (ix x4) p1) 11 i (ix x4) p2) 12 i (ix x4) p3) 8 i 6 ((e6.1 8 i 6) + 1)))
noncomputable def lp_X0_takeFactor_6 (d : Dt) (i : Nat) (p1 : Int32) (p2 : Int32) (p3 : Int32) : Nat → Int32 → Dt → Dt
  | 0 => fun _ e6 => e6
  | n + 1 => fun x4 e6 => st_X0_takeFactor_6 d i p1 p2 p3 (lp_X0_takeFactor_6 d i p1 p2 p3 n) x4 e6
noncomputable def sp_X0_takeFactor (d : Dt) (i : Nat) (p1 : Int32) (p2 : Int32) (p3 : Int32) : Dt :=
  lp_X0_takeFactor_6 d i p1 p2 p3 16 (d.1 8 i 6) d
noncomputable def sp_X2_faultAs (d : Dt) (i : Nat) (p1 : Int32) : Int32 :=
  cif ((d.1 6 i 1).toInt = 0) (1) (cif ((d.1 6 i 2).toInt = p1.toInt) (0) (2))
noncomputable def sp_X2_fillIn (d : Dt) (i : Nat) (p1 : Int32) (p2 : Int32) : Dt :=
  cif ((d.1 6 i 2).toInt = 0) (uv d 7 i (ix p1) p2.toInt8.toInt32) (cif ((d.1 6 i 2).toInt = 1) (uv d 7 i (ix p1) p2.toInt16.toInt32) (uv d 7 i (ix p1) p2))
noncomputable def sp_X1_begin (d : Dt) (p1 : Int32) (p2 : Int32) (p3 : Int32) : Dt :=
  uv (uv (uv (uv (uv d 2 0 0 1) 2 0 1 p1) 2 0 2 p2) 2 0 3 p3) 2 0 5 0
noncomputable def st_J7_fill_53178_5 (d : Dt) (t0 : Nat) (p1 : Int32) (rec5 : Int32 → Dt → Dt) (x2 : Int32) (e5 : Dt) : Dt :=
  cif (60 ≤ x2.toInt) (e5) (rec5 (x2 + 1) (uv e5 7 t0 (ix x2) p1))
noncomputable def lp_J7_fill_53178_5 (d : Dt) (t0 : Nat) (p1 : Int32) : Nat → Int32 → Dt → Dt
  | 0 => fun _ e5 => e5
  | n + 1 => fun x2 e5 => st_J7_fill_53178_5 d t0 p1 (lp_J7_fill_53178_5 d t0 p1 n) x2 e5
noncomputable def sp_J7_fill_53178 (d : Dt) (t0 : Nat) (p1 : Int32) : Dt :=
  lp_J7_fill_53178_5 d t0 p1 64 0 d
noncomputable def sp_X2_renew (d : Dt) (i : Nat) (p1 : Int32) (p2 : Int32) : Dt :=
  uv (uv (uv (sp_J7_fill_53178 d i 0) 6 i 1 1) 6 i 2 p1) 6 i 3 p2
noncomputable def sp_X4_isMeter (d : Dt) (p1 : Int32) : Prop :=
  sp_X4_isWithin p1 0 ((d.1 0 0 1) - 1)
noncomputable def sp_X4_isTicket (d : Dt) (p1 : Int32) : Prop :=
  sp_X4_isWithin p1 0 ((d.1 0 0 4) - 1)
noncomputable def sp_X4_isShut (d : Dt) (p1 : Int32) : Prop :=
  cif ((d.1 0 0 5).toInt < p1.toInt) (False) (True)
noncomputable def sp_X4_fail (d : Dt) (p1 : Int32) : Int32 × Dt :=
  ((-10) - p1, uv d 0 0 8 p1)
noncomputable def sp_X4_leave (d : Dt) (p1 : Int32) : Dt :=
  uv d 0 0 7 ((31 * (d.1 0 0 7)) + p1)
noncomputable def sp_X4_tellTicket (d : Dt) (t1 : Nat) : Int32 × Dt :=
  ((sp_X4_leave d 1).1 13 t1 1, (sp_X4_leave d 1))
noncomputable def sp_X4_factor (d : Dt) (p1 : Int32) (p2 : Int32) (p3 : Int32) (p4 : Int32) : Int32 × Dt :=
  cif (sp_X4_isMeter d p1) (cif (sp_X4_isFlow p2) (cif (sp_X4_isDay p3) (cif (sp_X4_isWithin p4 95000 105000) (cif (sp_X0_isFull d (ix p1)) (((-4), d)) (((sp_X0_takeFactor d (ix p1) p2 p3 p4).1 8 (ix p1) 6, (sp_X0_takeFactor d (ix p1) p2 p3 p4)))) (((-2), d))) (((-2), d))) (((-2), d))) (((-1), d))
noncomputable def sp_X4_at (d : Dt) (p1 : Int32) (p2 : Int32) (p3 : Int32) : Int32 :=
  cif (sp_X4_isMeter d p1) (cif (sp_X4_isFlow p2) (cif (sp_X4_isDay p3) (sp_X0_factorAt d (ix p1) p2 p3) ((-2))) ((-2))) ((-1))
noncomputable def sp_X4_points (d : Dt) (p1 : Int32) (p2 : Int32) : Int32 :=
  cif (sp_X4_isMeter d p1) (cif (sp_X4_isDay p2) (sp_X0_curveSize d (ix p1) p2) ((-2))) ((-1))
noncomputable def sp_X4_point (d : Dt) (p1 : Int32) (p2 : Int32) (p3 : Int32) (p4 : Int32) : Int32 :=
  cif (sp_X4_isMeter d p1) (cif ((sp_X0_curvePlace d (ix p1) p2 p3).toInt = (-9)) ((-1)) (cif (sp_X4_isDay p2) (cif (sp_X4_isWithin p4 0 1) (cif (p4.toInt = 0) (d.1 10 (ix p1) (ix (sp_X0_curvePlace d (ix p1) p2 p3))) (d.1 12 (ix p1) (ix (sp_X0_curvePlace d (ix p1) p2 p3)))) ((-2))) ((-2)))) ((-1))
noncomputable def sp_X4_proof (d : Dt) (p1 : Int32) (p2 : Int32) (p3 : Int32) : Int32 × Dt :=
  cif (sp_X4_isMeter d p1) (cif (sp_X4_isFlow p2) (cif (sp_X4_isWithin p3 1000 1000000) ((1, (sp_X1_begin d p1 p2 p3))) (((-2), d))) (((-2), d))) (((-1), d))
noncomputable def sp_X4_run (d : Dt) (p1 : Int32) (p2 : Int32) (p3 : Int32) : Int64 × Dt :=
  cif (sp_X4_isWithin p1 1 100000) (cif (sp_X4_isWithin p2 1 1000000) (cif (sp_X4_isWithin p3 1 1000000) (cif ((d.1 2 0 0).toInt = 0) (((-9223372036854775808), d)) (cif ((d.1 2 0 5).toInt < 12) ((((1000 * p1.toInt64) * p3.toInt64) / p2.toInt64, uv (uw d 3 0 (ix (d.1 2 0 5)) (((1000 * p1.toInt64) * p3.toInt64) / p2.toInt64)) 2 0 5 ((d.1 2 0 5) + 1))) (((-9223372036854775808), d)))) (((-9223372036854775808), d))) (((-9223372036854775808), d))) (((-9223372036854775808), d))
noncomputable def sp_X4_proving (d : Dt) (p1 : Int32) : Int32 :=
  cif (sp_X4_isWithin p1 0 3) (cif ((d.1 2 0 0).toInt = 0) ((-3)) (cif (p1.toInt = 0) (d.1 2 0 5) (cif (p1.toInt = 1) (cif (sp_X1_isGood d) (1) (0)) (cif (p1.toInt = 2) (d.1 2 0 1) (d.1 2 0 2))))) ((-2))
noncomputable def sp_X4_accept (d : Dt) (p1 : Int32) : Int32 × Dt :=
  cif (sp_X4_isDay p1) (cif ((d.1 2 0 0).toInt = 0) (((-3), d)) (cif (sp_X1_isGood d) (cif ((sp_X1_factorOf d (d.1 8 (ix (d.1 2 0 1)) 0)).toInt < 95000) (((-9), d)) (cif ((sp_X1_factorOf d (d.1 8 (ix (d.1 2 0 1)) 0)).toInt ≤ 105000) (cif (sp_X0_isFull d (ix (d.1 2 0 1))) (((-4), d)) (((sp_X1_factorOf d (d.1 8 (ix (d.1 2 0 1)) 0)).toInt32, uv (sp_X0_takeFactor d (ix (d.1 2 0 1)) (d.1 2 0 2) p1 ((sp_X1_factorOf d (d.1 8 (ix (d.1 2 0 1)) 0)).toInt32)) 2 0 0 0))) (((-9), d)))) (((-3), d)))) (((-2), d))
noncomputable def sp_X4_factorNow (d : Dt) (t1 : Nat) : Int32 :=
  sp_X0_factorAt d (ix (d.1 13 t1 0)) (d.1 13 t1 3) (d.1 13 t1 1)
noncomputable def sp_X4_isToRemake (d : Dt) (t1 : Nat) (p2 : Int32) (p3 : Int32) (p4 : Int32) : Prop :=
  cif (sp_X3_counts d t1 p2 p3 p4) (cif ((d.1 13 t1 4).toInt = (sp_X4_factorNow d t1).toInt) (False) (True)) (False)
noncomputable def sp_X4_ticketed (d : Dt) (p1 : Int32) (p2 : Int32) : Int32 :=
  cif (sp_X4_isTicket d p1) (cif (p2.toInt = 0) (d.1 13 (ix p1) 5) (cif (p2.toInt = 1) (d.1 13 (ix p1) 0) (cif (p2.toInt = 2) (d.1 13 (ix p1) 1) (cif (p2.toInt = 3) (d.1 13 (ix p1) 2) (cif (p2.toInt = 4) (d.1 13 (ix p1) 3) (cif (p2.toInt = 5) (d.1 13 (ix p1) 4) (cif (p2.toInt = 6) (d.1 13 (ix p1) 6) (cif (p2.toInt = 7) (d.1 13 (ix p1) 7) ((-2)))))))))) ((-1))
noncomputable def sp_X4_volumeOf (d : Dt) (t1 : Nat) : Int64 :=
  sp_X4_rounded ((10 * ((d.1 13 t1 2).toInt64)) * ((d.1 13 t1 4).toInt64)) ((d.1 8 (ix (d.1 13 t1 0)) 0).toInt64)
noncomputable def sp_X4_volume (d : Dt) (p1 : Int32) : Int64 :=
  cif (sp_X4_isTicket d p1) (sp_X4_volumeOf d (ix p1)) ((-9223372036854775808))
noncomputable def st_X4_sumOf_6 (d : Dt) (p1 : Int32) (p2 : Int32) (p3 : Int32) (rec6 : Int32 → Int64 → Int64) (x6 : Int32) (x4 : Int64) : Int64 :=
  cif ((d.1 0 0 4).toInt ≤ x6.toInt) (x4) (cif (sp_X3_counts d (ix x6) p1 p2 p3) (rec6 (x6 + 1) (x4 + (sp_X4_volumeOf d (ix x6)))) (rec6 (x6 + 1) x4))
noncomputable def lp_X4_sumOf_6 (d : Dt) (p1 : Int32) (p2 : Int32) (p3 : Int32) : Nat → Int32 → Int64 → Int64
  | 0 => fun _ _ => 0
  | n + 1 => fun x6 x4 => st_X4_sumOf_6 d p1 p2 p3 (lp_X4_sumOf_6 d p1 p2 p3 n) x6 x4
noncomputable def sp_X4_sumOf (d : Dt) (p1 : Int32) (p2 : Int32) (p3 : Int32) : Int64 :=
  lp_X4_sumOf_6 d p1 p2 p3 64 0 0
noncomputable def sp_X4_sum (d : Dt) (p1 : Int32) (p2 : Int32) (p3 : Int32) : Int64 :=
  cif (sp_X4_isMeter d p1) (cif (sp_X4_areDays p2 p3) (sp_X4_sumOf d p1 p2 p3) ((-9223372036854775808))) ((-9223372036854775808))
noncomputable def sp_X4_shut (d : Dt) (p1 : Int32) : Int32 × Dt :=
  cif (sp_X4_isDay p1) (cif ((d.1 0 0 5).toInt ≤ p1.toInt) ((d.1 0 0 5, uv d 0 0 5 p1)) (((-2), d))) (((-2), d))
noncomputable def sp_X4_line (d : Dt) (p1 : Int32) (p2 : Int32) (p3 : Int32) : Int32 × Dt :=
  cif (sp_X4_isLine p1) (cif (sp_X4_isMeter d p2) (cif (sp_X4_isWithin p3 (-1) 1) (cif ((d.1 9 (ix p2) (ix p1)).toInt = p3.toInt) ((0, uv d 9 (ix p2) (ix p1) p3)) ((1, uv d 9 (ix p2) (ix p1) p3))) (((-2), d))) (((-1), d))) (((-1), d))
noncomputable def sp_X4_lined (d : Dt) (p1 : Int32) (p2 : Int32) : Int32 :=
  cif (sp_X4_isLine p1) (cif (sp_X4_isMeter d p2) (10 + (d.1 9 (ix p2) (ix p1))) ((-1))) ((-1))
noncomputable def sp_X4_end (d : Dt) (p1 : Int32) (p2 : Int32) : Int32 × Dt :=
  cif (sp_X4_isMeter d p1) (cif (sp_X4_isWithin p2 0 5000) ((d.1 8 (ix p1) 1, uv d 8 (ix p1) 1 p2)) (((-2), d))) (((-1), d))
noncomputable def st_X4_endsOf_6 (d : Dt) (p1 : Int32) (p2 : Int32) (p3 : Int32) (rec6 : Int32 → Int64 → Int64) (x6 : Int32) (x4 : Int64) : Int64 :=
  cif ((d.1 0 0 1).toInt ≤ x6.toInt) (x4) (cif ((d.1 9 (ix x6) (ix p1)).toInt = 0) (rec6 (x6 + 1) x4) (rec6 (x6 + 1) (x4 + (((sp_X4_sumOf d x6 p2 p3) * ((d.1 8 (ix x6) 1).toInt64)) / 100000))))
noncomputable def lp_X4_endsOf_6 (d : Dt) (p1 : Int32) (p2 : Int32) (p3 : Int32) : Nat → Int32 → Int64 → Int64
  | 0 => fun _ _ => 0
  | n + 1 => fun x6 x4 => st_X4_endsOf_6 d p1 p2 p3 (lp_X4_endsOf_6 d p1 p2 p3 n) x6 x4
noncomputable def sp_X4_endsOf (d : Dt) (p1 : Int32) (p2 : Int32) (p3 : Int32) : Int64 :=
  lp_X4_endsOf_6 d p1 p2 p3 16 0 0
noncomputable def st_X4_imbalanceOf_6 (d : Dt) (p1 : Int32) (p2 : Int32) (p3 : Int32) (rec6 : Int32 → Int64 → Int64) (x6 : Int32) (x4 : Int64) : Int64 :=
  cif ((d.1 0 0 1).toInt ≤ x6.toInt) (x4) (rec6 (x6 + 1) (x4 + (((d.1 9 (ix x6) (ix p1)).toInt64) * (sp_X4_sumOf d x6 p2 p3))))
noncomputable def lp_X4_imbalanceOf_6 (d : Dt) (p1 : Int32) (p2 : Int32) (p3 : Int32) : Nat → Int32 → Int64 → Int64
  | 0 => fun _ _ => 0
  | n + 1 => fun x6 x4 => st_X4_imbalanceOf_6 d p1 p2 p3 (lp_X4_imbalanceOf_6 d p1 p2 p3 n) x6 x4
noncomputable def sp_X4_imbalanceOf (d : Dt) (p1 : Int32) (p2 : Int32) (p3 : Int32) : Int64 :=
  lp_X4_imbalanceOf_6 d p1 p2 p3 16 0 0
noncomputable def sp_X4_balance (d : Dt) (p1 : Int32) (p2 : Int32) (p3 : Int32) (p4 : Int32) : Int64 :=
  cif (sp_X4_isLine p1) (cif (sp_X4_isWithin p4 0 1) (cif (sp_X4_areDays p2 p3) (cif (p4.toInt = 0) (sp_X4_imbalanceOf d p1 p2 p3) (sp_X4_endsOf d p1 p2 p3)) ((-9223372036854775808))) ((-9223372036854775808))) ((-9223372036854775808))
noncomputable def st_X4_linesBeyond_5 (d : Dt) (p1 : Int32) (p2 : Int32) (rec5 : Int32 → Int32 → Int32) (x4 : Int32) (x3 : Int32) : Int32 :=
  cif (4 ≤ x4.toInt) (x3) (cif ((if 0 < (sp_X4_imbalanceOf d x4 p1 p2) then (sp_X4_imbalanceOf d x4 p1 p2) else -(sp_X4_imbalanceOf d x4 p1 p2)).toInt ≤ (sp_X4_endsOf d x4 p1 p2).toInt) (rec5 (x4 + 1) x3) (rec5 (x4 + 1) (x3 ||| (1 <<< (x4 &&& 31)))))
noncomputable def lp_X4_linesBeyond_5 (d : Dt) (p1 : Int32) (p2 : Int32) : Nat → Int32 → Int32 → Int32
  | 0 => fun _ _ => 0
  | n + 1 => fun x4 x3 => st_X4_linesBeyond_5 d p1 p2 (lp_X4_linesBeyond_5 d p1 p2 n) x4 x3
noncomputable def sp_X4_linesBeyond (d : Dt) (p1 : Int32) (p2 : Int32) : Int32 :=
  lp_X4_linesBeyond_5 d p1 p2 16 0 0
noncomputable def sp_X4_beyond (d : Dt) (p1 : Int32) (p2 : Int32) : Int32 :=
  cif (sp_X4_areDays p1 p2) (sp_X4_linesBeyond d p1 p2) ((-2))
noncomputable def st_X4_explains_41 (d : Dt) (p1 : Int32) (p2 : Int32) (p3 : Int32) (x4 : Int32) (rec41 : Int32 → Int64 → Int64 → Int64) (x9 : Int32) (x7 : Int64) (x5 : Int64) : Int64 :=
  cif (4 ≤ x9.toInt) (cif (x4.toInt = 0) (0) (cif (x5.toInt ≤ x7.toInt) (cif (x5.toInt ≤ 0) (x7) (x5)) (0))) (cif ((d.1 9 (ix p1) (ix x9)).toInt = 0) (cif (((x4 >>> (x9 &&& 31)) &&& 1).toInt = 1) (0) (rec41 (x9 + 1) x7 x5)) (rec41 (x9 + 1) (if ((((-(d.1 9 (ix p1) (ix x9))).toInt64) * (sp_X4_imbalanceOf d x9 p2 p3)) + (sp_X4_endsOf d x9 p2 p3)) < x7 then ((((-(d.1 9 (ix p1) (ix x9))).toInt64) * (sp_X4_imbalanceOf d x9 p2 p3)) + (sp_X4_endsOf d x9 p2 p3)) else x7) (if ((((-(d.1 9 (ix p1) (ix x9))).toInt64) * (sp_X4_imbalanceOf d x9 p2 p3)) - (sp_X4_endsOf d x9 p2 p3)) < x5 then x5 else ((((-(d.1 9 (ix p1) (ix x9))).toInt64) * (sp_X4_imbalanceOf d x9 p2 p3)) - (sp_X4_endsOf d x9 p2 p3)))))
noncomputable def lp_X4_explains_41 (d : Dt) (p1 : Int32) (p2 : Int32) (p3 : Int32) (x4 : Int32) : Nat → Int32 → Int64 → Int64 → Int64
  | 0 => fun _ _ _ => 0
  | n + 1 => fun x9 x7 x5 => st_X4_explains_41 d p1 p2 p3 x4 (lp_X4_explains_41 d p1 p2 p3 x4 n) x9 x7 x5
noncomputable def sp_X4_explains (d : Dt) (p1 : Int32) (p2 : Int32) (p3 : Int32) : Int64 :=
  cif (sp_X4_isMeter d p1) (cif (sp_X4_areDays p2 p3) (lp_X4_explains_41 d p1 p2 p3 (sp_X4_linesBeyond d p2 p3) 16 0 1152921504606846976 (-1152921504606846976)) ((-9223372036854775808))) ((-9223372036854775808))
noncomputable def sp_X4_sheet (d : Dt) (p1 : Int32) (p2 : Int32) (p3 : Int32) : Int32 × Dt :=
  cif (sp_X4_isSheet p1) (cif (sp_X4_isLane p2) (cif (p3.toInt ≤ 60) (cif (0 ≤ p3.toInt) ((1, (sp_X2_renew (uv d 0 0 8 0) (ix p1) p2 p3))) (((sp_X4_fail (uv d 0 0 8 0) 4).1, (sp_X4_fail (uv d 0 0 8 0) 4).2))) (((-2), uv d 0 0 8 0))) (((-2), uv d 0 0 8 0))) (((-1), uv d 0 0 8 0))
noncomputable def sp_X4_lose (d : Dt) (p1 : Int32) : Int32 × Dt :=
  cif (sp_X4_isSheet p1) (cif ((d.1 6 (ix p1) 1).toInt = 0) ((0, uv d 6 (ix p1) 1 0)) ((1, uv d 6 (ix p1) 1 0))) (((-1), d))
noncomputable def sp_X4_put (d : Dt) (p1 : Int32) (p2 : Int32) (p3 : Int32) : Int32 × Dt :=
  cif (sp_X4_isSheet p1) (cif ((d.1 6 (ix p1) 1).toInt = 0) (((sp_X4_fail (uv d 0 0 8 0) 1).1, (sp_X4_fail (uv d 0 0 8 0) 1).2)) (cif (sp_X2_hasCell (uv d 0 0 8 0) (ix p1) p2) ((1, (sp_X2_fillIn (uv d 0 0 8 0) (ix p1) p2 p3))) (((sp_X4_fail (uv d 0 0 8 0) 3).1, (sp_X4_fail (uv d 0 0 8 0) 3).2)))) (((-1), uv d 0 0 8 0))
noncomputable def sp_X4_cell (d : Dt) (p1 : Int32) (p2 : Int32) (p3 : Int32) : Int64 × Dt :=
  cif (sp_X4_isSheet p1) (cif (sp_X4_isLane p3) (cif ((sp_X2_faultAs (uv d 0 0 8 0) (ix p1) p3).toInt = 0) (cif (sp_X2_hasCell (uv (uv d 0 0 8 0) 0 0 8 (sp_X2_faultAs (uv d 0 0 8 0) (ix p1) p3)) (ix p1) p2) (((d.1 7 (ix p1) (ix p2)).toInt64, uv (uv d 0 0 8 0) 0 0 8 (sp_X2_faultAs (uv d 0 0 8 0) (ix p1) p3))) (((-9223372036854775808), uv (uv (uv d 0 0 8 0) 0 0 8 (sp_X2_faultAs (uv d 0 0 8 0) (ix p1) p3)) 0 0 8 3))) (((-9223372036854775808), uv (uv d 0 0 8 0) 0 0 8 (sp_X2_faultAs (uv d 0 0 8 0) (ix p1) p3)))) (((-9223372036854775808), uv d 0 0 8 0))) (((-9223372036854775808), uv d 0 0 8 0))
noncomputable def sp_X4_copy (d : Dt) (p1 : Int32) (p2 : Int32) (p3 : Int32) (p4 : Int32) (p5 : Int32) : Int32 × Dt :=
  cif (sp_X4_isSheet p1) (cif (sp_X4_isSheet p3) (cif ((d.1 6 (ix p1) 1).toInt = 0) (((sp_X4_fail (uv d 0 0 8 0) 1).1, (sp_X4_fail (uv d 0 0 8 0) 1).2)) (cif ((d.1 6 (ix p3) 1).toInt = 0) (((sp_X4_fail (uv d 0 0 8 0) 1).1, (sp_X4_fail (uv d 0 0 8 0) 1).2)) (cif ((d.1 6 (ix p1) 2).toInt = (d.1 6 (ix p3) 2).toInt) (cif (sp_X2_hasCells (uv d 0 0 8 0) (ix p1) p2 p5) (cif (sp_X2_hasCells (uv d 0 0 8 0) (ix p3) p4 p5) ((p5, uf (uv d 0 0 8 0) 7 (ix p3) (va_cpy ((uv d 0 0 8 0).1 7 (ix p1)) ((uv d 0 0 8 0).1 7 (ix p3)) (ix p2) (ix p4) (ix p5)))) (((sp_X4_fail (uv d 0 0 8 0) 3).1, (sp_X4_fail (uv d 0 0 8 0) 3).2))) (((sp_X4_fail (uv d 0 0 8 0) 3).1, (sp_X4_fail (uv d 0 0 8 0) 3).2))) (((sp_X4_fail (uv d 0 0 8 0) 2).1, (sp_X4_fail (uv d 0 0 8 0) 2).2))))) (((-1), uv d 0 0 8 0))) (((-1), uv d 0 0 8 0))
noncomputable def sp_X4_watch (d : Dt) (p1 : Int32) (p2 : Int32) (p3 : Int32) (p4 : Int32) (p5 : Int32) : Int32 × Dt :=
  cif (sp_X4_isSheet p1) (cif (sp_X4_isLane p2) (cif (sp_X4_isWithin p5 0 3) (cif ((sp_X2_faultAs (uv d 0 0 8 0) (ix p1) p2).toInt = 0) (cif (0 ≤ p4.toInt) (cif (sp_X2_hasCells (uv d 0 0 8 0) (ix p1) p3 p4) ((sp_X2_watched (uv d 0 0 8 0) (ix p1) p3 p4 p5, uv d 0 0 8 0)) (((sp_X4_fail (uv d 0 0 8 0) 3).1, (sp_X4_fail (uv d 0 0 8 0) 3).2))) (((sp_X4_fail (uv d 0 0 8 0) 4).1, (sp_X4_fail (uv d 0 0 8 0) 4).2))) (((sp_X4_fail (uv d 0 0 8 0) (sp_X2_faultAs (uv d 0 0 8 0) (ix p1) p2)).1, (sp_X4_fail (uv d 0 0 8 0) (sp_X2_faultAs (uv d 0 0 8 0) (ix p1) p2)).2))) (((-2), uv d 0 0 8 0))) (((-2), uv d 0 0 8 0))) (((-1), uv d 0 0 8 0))
noncomputable def sp_X4_tell (d : Dt) (p1 : Int32) : Int32 × Dt :=
  cif (sp_X4_isTicket d p1) (cif ((d.1 13 (ix p1) 5).toInt = 1) ((1000 + ((sp_X4_tellTicket (sp_X4_leave d 2) (ix p1)).1), (sp_X4_tellTicket (sp_X4_leave d 2) (ix p1)).2)) (cif ((d.1 13 (ix p1) 5).toInt = 2) (((-((sp_X4_tellTicket (sp_X4_leave d 3) (ix p1)).1)) - 1, (sp_X4_tellTicket (sp_X4_leave d 3) (ix p1)).2)) (((sp_X4_tellTicket d (ix p1)).1, (sp_X4_tellTicket d (ix p1)).2)))) (((-1), d))
noncomputable def sp_X4_worth (d : Dt) (p1 : Int32) : Int32 × Dt :=
  cif (sp_X4_isTicket d p1) (cif ((d.1 13 (ix p1) 5).toInt = 2) ((1, (sp_X4_leave d 5))) (((if 2147483647 < ((sp_X4_volumeOf (sp_X4_leave d 4) (ix p1)) / 1000) then 2147483647 else ((sp_X4_volumeOf (sp_X4_leave d 4) (ix p1)) / 1000)).toInt32, (sp_X4_leave d 4)))) (((-1), d))
noncomputable def sp_X4_as (d : Dt) (p1 : Int32) (p2 : Int32) : Int32 × Dt :=
  cif (sp_X4_isTicket (uv d 0 0 8 0) p1) (cif (sp_X4_isWithin p2 0 2) (cif ((d.1 13 (ix p1) 5).toInt < p2.toInt) (((sp_X4_fail (uv d 0 0 8 0) 2).1, (sp_X4_fail (uv d 0 0 8 0) 2).2)) ((1, uv d 0 0 8 0))) (((-2), uv d 0 0 8 0))) (((-1), uv d 0 0 8 0))
noncomputable def st_X4_countNotReplaced_4 (d : Dt) (rec4 : Int32 → Int32 → Int32) (x2 : Int32) (x1 : Int32) : Int32 :=
  cif ((d.1 0 0 4).toInt ≤ x2.toInt) (x1) (cif (sp_X3_isReplaced d (ix x2)) (rec4 (x2 + 1) (x1 + 0)) (rec4 (x2 + 1) (x1 + 1)))
noncomputable def lp_X4_countNotReplaced_4 (d : Dt) : Nat → Int32 → Int32 → Int32
  | 0 => fun _ _ => 0
  | n + 1 => fun x2 x1 => st_X4_countNotReplaced_4 d (lp_X4_countNotReplaced_4 d n) x2 x1
noncomputable def sp_X4_countNotReplaced (d : Dt) : Int32 :=
  lp_X4_countNotReplaced_4 d 64 0 0
noncomputable def sp_X4_told (d : Dt) (p1 : Int32) : Int32 :=
  cif (p1.toInt = 0) (d.1 0 0 1) (cif (p1.toInt = 1) (d.1 0 0 4) (cif (p1.toInt = 2) (sp_X4_countNotReplaced d) (cif (p1.toInt = 3) (d.1 0 0 5) (cif (sp_X4_isMeter d (p1 - 10)) (d.1 8 (ix (p1 - 10)) 6) ((-2))))))
noncomputable def sp_X4_trace (d : Dt) : Int32 :=
  d.1 0 0 7
noncomputable def sp_X4_fault (d : Dt) : Int32 :=
  d.1 0 0 8
noncomputable def sp_X5_in (p0 : Int64) (p2 : Int64) (p4 : Int64) : Prop :=
  cif (p0.toInt < p2.toInt) (False) (cif (p4.toInt < p0.toInt) (False) (True))
noncomputable def sp_X5_lost : Int64 :=
  (-9223372036854775808)
noncomputable def sp_X5_refused (d : Dt) (p1 : Int32) : Int32 × Dt :=
  (p1, uv d 0 0 0 0)
noncomputable def sp_X5_failed (d : Dt) (p1 : Int32) : Int32 × Dt :=
  ((-10) - p1, uv d 0 0 0 p1)
noncomputable def sp_X5_failedLong (d : Dt) (p1 : Int32) : Int64 × Dt :=
  (sp_X5_lost, uv d 0 0 0 p1)
noncomputable def sp_X5_rounded (p0 : Int64) (p2 : Int64) : Int64 :=
  ((2 * p0) + p2) / (2 * p2)
noncomputable def sp_X5_noMeter (d : Dt) (p1 : Int32) : Prop :=
  cif (sp_X5_in p1.toInt64 0 (((d.1 0 0 1).toInt64) - 1)) (False) (True)
noncomputable def sp_X5_isDay (p0 : Int32) : Prop :=
  sp_X5_in p0.toInt64 0 400
noncomputable def sp_X5_isFlow (p0 : Int32) : Prop :=
  sp_X5_in p0.toInt64 1 10000
noncomputable def sp_X5_isNumber (p0 : Int64) : Prop :=
  sp_X5_in p0 95000 105000
noncomputable def sp_X5_meter (d : Dt) (p1 : Int32) : Int32 × Dt :=
  cif (sp_X5_in p1.toInt64 1 100000) (cif ((d.1 0 0 1).toInt = 6) (((-4), d)) ((((d.1 0 0 1) + 1) - 1, uv (uv d 2 0 (ix (d.1 0 0 1)) p1) 0 0 1 ((d.1 0 0 1) + 1)))) (((-2), d))
noncomputable def sp_X5_addFactor (d : Dt) (p1 : Int32) (p2 : Int32) (p3 : Int32) (p4 : Int32) : Dt :=
  uv (uv (uv (uv d 4 0 (ix ((12 * p1) + (d.1 3 0 (ix p1)))) p2) 5 0 (ix ((12 * p1) + (d.1 3 0 (ix p1)))) p3) 6 0 (ix ((12 * p1) + (d.1 3 0 (ix p1)))) p4) 3 0 (ix p1) ((d.1 3 0 (ix p1)) + 1)
noncomputable def sp_X5_factor (d : Dt) (p1 : Int32) (p2 : Int32) (p3 : Int32) (p4 : Int32) : Int32 × Dt :=
  cif (sp_X5_noMeter d p1) (((-1), d)) (cif (sp_X5_isFlow p2) (cif (sp_X5_isDay p3) (cif (sp_X5_isNumber p4.toInt64) (cif ((d.1 3 0 (ix p1)).toInt = 12) (((-4), d)) (((sp_X5_addFactor d p1 p2 p3 p4).1 3 0 (ix p1), (sp_X5_addFactor d p1 p2 p3 p4)))) (((-2), d))) (((-2), d))) (((-2), d)))
noncomputable def st_X5_addPoint_86 (d : Dt) (p1 : Int32) (x2 : Int32) (rec86 : Int32 → Dt → Dt) (x4 : Int32) (e86 : Dt) : Dt :=
  cif (x4.toInt ≤ x2.toInt) (uv (uv (uv (uv e86 9 0 (ix x2) (e86.1 4 0 (ix p1))) 10 0 (ix x2) (e86.1 6 0 (ix p1))) 11 0 (ix x2) (e86.1 5 0 (ix p1))) 0 0 8 ((e86.1 0 0 8) + 1)) (rec86 (x4 + (-1)) (uv (uv (uv e86 9 0 (ix x4) (e86.1 9 0 (ix (x4 - 1)))) 10 0 (ix x4) (e86.1 10 0 (ix (x4 - 1)))) 11 0 (ix x4) (e86.1 11 0 (ix (x4 - 1)))))
noncomputable def lp_X5_addPoint_86 (d : Dt) (p1 : Int32) (x2 : Int32) : Nat → Int32 → Dt → Dt
  | 0 => fun _ e86 => e86
  | n + 1 => fun x4 e86 => st_X5_addPoint_86 d p1 x2 (lp_X5_addPoint_86 d p1 x2 n) x4 e86
noncomputable def st_X5_addPoint_2 (d : Dt) (p1 : Int32) (rec2 : Int32 → Dt) (x2 : Int32) : Dt :=
  cif ((d.1 0 0 8).toInt ≤ x2.toInt) (lp_X5_addPoint_86 d p1 x2 16 (d.1 0 0 8) d) (cif ((d.1 4 0 (ix p1)).toInt ≤ (d.1 9 0 (ix x2)).toInt) (cif ((d.1 9 0 (ix x2)).toInt = (d.1 4 0 (ix p1)).toInt) (cif ((d.1 11 0 (ix x2)).toInt ≤ (d.1 5 0 (ix p1)).toInt) (uv (uv (uv (uv d 9 0 (ix x2) (d.1 4 0 (ix p1))) 10 0 (ix x2) (d.1 6 0 (ix p1))) 11 0 (ix x2) (d.1 5 0 (ix p1))) 0 0 8 ((d.1 0 0 8) + 0)) (d)) (lp_X5_addPoint_86 d p1 x2 16 (d.1 0 0 8) d)) (rec2 (x2 + 1)))
noncomputable def lp_X5_addPoint_2 (d : Dt) (p1 : Int32) : Nat → Int32 → Dt
  | 0 => fun _ => d
  | n + 1 => fun x2 => st_X5_addPoint_2 d p1 (lp_X5_addPoint_2 d p1 n) x2
noncomputable def sp_X5_addPoint (d : Dt) (p1 : Int32) : Dt :=
  lp_X5_addPoint_2 d p1 16 0
noncomputable def st_X5_findCurve_10 (d : Dt) (p1 : Int32) (p2 : Int32) (rec10 : Int32 → Dt → Dt) (x3 : Int32) (e10 : Dt) : Dt :=
  cif (((12 * p1) + (e10.1 3 0 (ix p1))).toInt ≤ x3.toInt) (e10) (cif (p2.toInt < (e10.1 5 0 (ix x3)).toInt) (rec10 (x3 + 1) e10) (rec10 (x3 + 1) (sp_X5_addPoint e10 x3)))
noncomputable def lp_X5_findCurve_10 (d : Dt) (p1 : Int32) (p2 : Int32) : Nat → Int32 → Dt → Dt
  | 0 => fun _ e10 => e10
  | n + 1 => fun x3 e10 => st_X5_findCurve_10 d p1 p2 (lp_X5_findCurve_10 d p1 p2 n) x3 e10
noncomputable def sp_X5_findCurve (d : Dt) (p1 : Int32) (p2 : Int32) : Dt :=
  lp_X5_findCurve_10 d p1 p2 16 (12 * p1) (uv d 0 0 8 0)
noncomputable def st_X5_factorAt_19 (d : Dt) (p1 : Int32) (p2 : Int32) (p3 : Int32) (e19 : Dt) (rec19 : Int32 → Int32 × Dt) (x4 : Int32) : Int32 × Dt :=
  cif ((e19.1 0 0 8).toInt ≤ x4.toInt) (cif (x4.toInt = (e19.1 0 0 8).toInt) ((e19.1 10 0 (ix ((e19.1 0 0 8) - 1)), e19)) (cif (x4.toInt = 0) ((e19.1 10 0 (ix x4), e19)) (cif ((e19.1 9 0 (ix x4)).toInt = p2.toInt) ((e19.1 10 0 (ix x4), e19)) (((((e19.1 10 0 (ix (x4 - 1))).toInt64) + (((((e19.1 10 0 (ix x4)).toInt64) - ((e19.1 10 0 (ix (x4 - 1))).toInt64)) * (p2.toInt64 - ((e19.1 9 0 (ix (x4 - 1))).toInt64))) / (((e19.1 9 0 (ix x4)).toInt64) - ((e19.1 9 0 (ix (x4 - 1))).toInt64)))).toInt32, e19))))) (cif (p2.toInt ≤ (e19.1 9 0 (ix x4)).toInt) (cif (x4.toInt = (e19.1 0 0 8).toInt) ((e19.1 10 0 (ix ((e19.1 0 0 8) - 1)), e19)) (cif (x4.toInt = 0) ((e19.1 10 0 (ix x4), e19)) (cif ((e19.1 9 0 (ix x4)).toInt = p2.toInt) ((e19.1 10 0 (ix x4), e19)) (((((e19.1 10 0 (ix (x4 - 1))).toInt64) + (((((e19.1 10 0 (ix x4)).toInt64) - ((e19.1 10 0 (ix (x4 - 1))).toInt64)) * (p2.toInt64 - ((e19.1 9 0 (ix (x4 - 1))).toInt64))) / (((e19.1 9 0 (ix x4)).toInt64) - ((e19.1 9 0 (ix (x4 - 1))).toInt64)))).toInt32, e19))))) (rec19 (x4 + 1)))
noncomputable def lp_X5_factorAt_19 (d : Dt) (p1 : Int32) (p2 : Int32) (p3 : Int32) (e19 : Dt) : Nat → Int32 → Int32 × Dt
  | 0 => fun _ => (0, d)
  | n + 1 => fun x4 => st_X5_factorAt_19 d p1 p2 p3 e19 (lp_X5_factorAt_19 d p1 p2 p3 e19 n) x4
noncomputable def sp_X5_factorAt (d : Dt) (p1 : Int32) (p2 : Int32) (p3 : Int32) : Int32 × Dt :=
  cif (((sp_X5_findCurve d p1 p3).1 0 0 8).toInt = 0) ((100000, (sp_X5_findCurve d p1 p3))) (lp_X5_factorAt_19 d p1 p2 p3 (sp_X5_findCurve d p1 p3) 16 0)
noncomputable def sp_X5_at (d : Dt) (p1 : Int32) (p2 : Int32) (p3 : Int32) : Int32 × Dt :=
  cif (sp_X5_noMeter d p1) (((-1), d)) (cif (sp_X5_isFlow p2) (cif (sp_X5_isDay p3) (((sp_X5_factorAt d p1 p2 p3).1, (sp_X5_factorAt d p1 p2 p3).2)) (((-2), d))) (((-2), d)))
noncomputable def sp_X5_points (d : Dt) (p1 : Int32) (p2 : Int32) : Int32 × Dt :=
  cif (sp_X5_noMeter d p1) (((-1), d)) (cif (sp_X5_isDay p2) (((sp_X5_findCurve d p1 p2).1 0 0 8, (sp_X5_findCurve d p1 p2))) (((-2), d)))
noncomputable def sp_X5_point (d : Dt) (p1 : Int32) (p2 : Int32) (p3 : Int32) (p4 : Int32) : Int32 × Dt :=
  cif (sp_X5_noMeter d p1) (((-1), d)) (cif (sp_X5_isDay p2) (cif (sp_X5_in p3.toInt64 0 ((((sp_X5_findCurve d p1 p2).1 0 0 8).toInt64) - 1)) (cif (p4.toInt = 0) (((sp_X5_findCurve d p1 p2).1 9 0 (ix p3), (sp_X5_findCurve d p1 p2))) (cif (p4.toInt = 1) (((sp_X5_findCurve d p1 p2).1 10 0 (ix p3), (sp_X5_findCurve d p1 p2))) (((-2), (sp_X5_findCurve d p1 p2))))) (((-1), (sp_X5_findCurve d p1 p2)))) (((-2), d)))
noncomputable def sp_X5_proof (d : Dt) (p1 : Int32) (p2 : Int32) (p3 : Int32) : Int32 × Dt :=
  cif (sp_X5_noMeter d p1) (((-1), d)) (cif (sp_X5_isFlow p2) (cif (sp_X5_in p3.toInt64 1000 1000000) ((1, uv (uv (uv (uv d 0 0 12 p1) 0 0 13 p2) 0 0 14 p3) 0 0 15 0)) (((-2), d))) (((-2), d)))
noncomputable def sp_X5_run (d : Dt) (p1 : Int32) (p2 : Int32) (p3 : Int32) : Int64 × Dt :=
  cif (sp_X5_in p1.toInt64 1 100000) (cif (sp_X5_in p2.toInt64 1 1000000) (cif (sp_X5_in p3.toInt64 1 1000000) (cif ((d.1 0 0 12).toInt < 0) ((sp_X5_lost, d)) (cif ((d.1 0 0 15).toInt = 12) ((sp_X5_lost, d)) (((uw d 16 0 (ix (d.1 0 0 15)) (((p1.toInt64 * 1000) * p3.toInt64) / p2.toInt64)).2 16 0 (ix (((d.1 0 0 15) + 1) - 1)), uv (uw d 16 0 (ix (d.1 0 0 15)) (((p1.toInt64 * 1000) * p3.toInt64) / p2.toInt64)) 0 0 15 ((d.1 0 0 15) + 1))))) ((sp_X5_lost, d))) ((sp_X5_lost, d))) ((sp_X5_lost, d))
noncomputable def st_X5_isGood_32 (d : Dt) (rec32 : Int32 → Int64 → Int64 → Prop) (x5 : Int32) (x3 : Int64) (x1 : Int64) : Prop :=
  cif ((d.1 0 0 15).toInt ≤ x5.toInt) (cif (x1.toInt ≤ 0) (False) (cif (x1.toInt < (2000 * (x3 - x1)).toInt) (False) (True))) (cif (x1.toInt ≤ (d.2 16 0 (ix x5)).toInt) (cif ((d.2 16 0 (ix x5)).toInt ≤ x3.toInt) (rec32 (x5 + 1) x3 x1) (rec32 (x5 + 1) (d.2 16 0 (ix x5)) x1)) (cif ((d.2 16 0 (ix x5)).toInt ≤ x3.toInt) (rec32 (x5 + 1) x3 (d.2 16 0 (ix x5))) (rec32 (x5 + 1) (d.2 16 0 (ix x5)) (d.2 16 0 (ix x5)))))
noncomputable def lp_X5_isGood_32 (d : Dt) : Nat → Int32 → Int64 → Int64 → Prop
  | 0 => fun _ _ _ => False
  | n + 1 => fun x5 x3 x1 => st_X5_isGood_32 d (lp_X5_isGood_32 d n) x5 x3 x1
noncomputable def sp_X5_isGood (d : Dt) : Prop :=
  cif (5 ≤ (d.1 0 0 15).toInt) (lp_X5_isGood_32 d 16 ((d.1 0 0 15) - 5) (d.2 16 0 (ix ((d.1 0 0 15) - 1))) (d.2 16 0 (ix ((d.1 0 0 15) - 1)))) (False)
noncomputable def sp_X5_proving (d : Dt) (p1 : Int32) : Int32 :=
  cif (sp_X5_in p1.toInt64 0 3) (cif (0 ≤ (d.1 0 0 12).toInt) (cif (p1.toInt = 0) (d.1 0 0 15) (cif (p1.toInt = 1) (cif (sp_X5_isGood d) (1) (0)) (cif (p1.toInt = 2) (d.1 0 0 12) (d.1 0 0 13)))) ((-3))) ((-2))
noncomputable def st_X5_accept_37 (d : Dt) (p1 : Int32) (rec37 : Int32 → Int64 → Int32 × Dt) (x4 : Int32) (x2 : Int64) : Int32 × Dt :=
  cif ((d.1 0 0 15).toInt ≤ x4.toInt) (cif (sp_X5_isNumber (sp_X5_rounded ((500 * ((d.1 0 0 14).toInt64)) * ((d.1 2 0 (ix (d.1 0 0 12))).toInt64)) x2)) (cif ((d.1 3 0 (ix (d.1 0 0 12))).toInt = 12) (((-4), d)) (((sp_X5_rounded ((500 * ((d.1 0 0 14).toInt64)) * ((d.1 2 0 (ix (d.1 0 0 12))).toInt64)) x2).toInt32, uv (sp_X5_addFactor d (d.1 0 0 12) (d.1 0 0 13) p1 ((sp_X5_rounded ((500 * ((d.1 0 0 14).toInt64)) * ((d.1 2 0 (ix (d.1 0 0 12))).toInt64)) x2).toInt32)) 0 0 12 (-1)))) (((-9), d))) (rec37 (x4 + 1) (x2 + (d.2 16 0 (ix x4))))
noncomputable def lp_X5_accept_37 (d : Dt) (p1 : Int32) : Nat → Int32 → Int64 → Int32 × Dt
  | 0 => fun _ _ => (0, d)
  | n + 1 => fun x4 x2 => st_X5_accept_37 d p1 (lp_X5_accept_37 d p1 n) x4 x2
noncomputable def sp_X5_accept (d : Dt) (p1 : Int32) : Int32 × Dt :=
  cif (sp_X5_isDay p1) (cif ((d.1 0 0 12).toInt < 0) (((-3), d)) (cif (sp_X5_isGood d) (lp_X5_accept_37 d p1 16 ((d.1 0 0 15) - 5) 0) (((-3), d)))) (((-2), d))
noncomputable def sp_X5_noTicket (d : Dt) (p1 : Int32) : Prop :=
  cif (sp_X5_in p1.toInt64 0 (((d.1 0 0 17).toInt64) - 1)) (False) (True)
noncomputable def sp_X5_isShut (d : Dt) (p1 : Int32) : Prop :=
  cif ((d.1 0 0 26).toInt < 0) (False) (cif ((d.1 0 0 26).toInt < p1.toInt) (False) (True))
noncomputable def sp_X5_add (d : Dt) (p1 : Int32) (p2 : Int32) (p3 : Int32) (p4 : Int32) (p5 : Int32) (p6 : Int32) : Int32 × Dt :=
  (((((sp_X5_factorAt (uv (uv (uv (uv (uv d 18 0 (ix (d.1 0 0 17)) p1) 19 0 (ix (d.1 0 0 17)) p2) 20 0 (ix (d.1 0 0 17)) p3) 21 0 (ix (d.1 0 0 17)) p4) 22 0 (ix (d.1 0 0 17)) p5) p2 p5 p3).2).1 0 0 17) + 1) - 1, uv (uv (uv (uv ((sp_X5_factorAt (uv (uv (uv (uv (uv d 18 0 (ix (d.1 0 0 17)) p1) 19 0 (ix (d.1 0 0 17)) p2) 20 0 (ix (d.1 0 0 17)) p3) 21 0 (ix (d.1 0 0 17)) p4) 22 0 (ix (d.1 0 0 17)) p5) p2 p5 p3).2) 23 0 (ix (d.1 0 0 17)) ((sp_X5_factorAt (uv (uv (uv (uv (uv d 18 0 (ix (d.1 0 0 17)) p1) 19 0 (ix (d.1 0 0 17)) p2) 20 0 (ix (d.1 0 0 17)) p3) 21 0 (ix (d.1 0 0 17)) p4) 22 0 (ix (d.1 0 0 17)) p5) p2 p5 p3).1)) 24 0 (ix (((sp_X5_factorAt (uv (uv (uv (uv (uv d 18 0 (ix (d.1 0 0 17)) p1) 19 0 (ix (d.1 0 0 17)) p2) 20 0 (ix (d.1 0 0 17)) p3) 21 0 (ix (d.1 0 0 17)) p4) 22 0 (ix (d.1 0 0 17)) p5) p2 p5 p3).2).1 0 0 17)) (-9)) 25 0 (ix (((sp_X5_factorAt (uv (uv (uv (uv (uv d 18 0 (ix (d.1 0 0 17)) p1) 19 0 (ix (d.1 0 0 17)) p2) 20 0 (ix (d.1 0 0 17)) p3) 21 0 (ix (d.1 0 0 17)) p4) 22 0 (ix (d.1 0 0 17)) p5) p2 p5 p3).2).1 0 0 17)) p6) 0 0 17 ((((sp_X5_factorAt (uv (uv (uv (uv (uv d 18 0 (ix (d.1 0 0 17)) p1) 19 0 (ix (d.1 0 0 17)) p2) 20 0 (ix (d.1 0 0 17)) p3) 21 0 (ix (d.1 0 0 17)) p4) 22 0 (ix (d.1 0 0 17)) p5) p2 p5 p3).2).1 0 0 17) + 1))
noncomputable def sp_X5_ticket (d : Dt) (p1 : Int32) (p2 : Int32) (p3 : Int32) (p4 : Int32) : Int32 × Dt :=
  cif (sp_X5_noMeter d p1) (((-1), d)) (cif (sp_X5_isDay p2) (cif (sp_X5_in p3.toInt64 0 10000000) (cif (sp_X5_isFlow p4) (cif (sp_X5_isShut d p2) (((-3), d)) (cif ((d.1 0 0 17).toInt = 40) (((-4), d)) (((sp_X5_add d 0 p1 p2 p3 p4 (-9)).1, (sp_X5_add d 0 p1 p2 p3 p4 (-9)).2)))) (((-2), d))) (((-2), d))) (((-2), d)))
noncomputable def sp_X5_right (d : Dt) (p1 : Int32) (p2 : Int32) : Int32 × Dt :=
  cif (sp_X5_noTicket d p1) (((-1), d)) (cif (sp_X5_in p2.toInt64 0 10000000) (cif (0 ≤ (d.1 24 0 (ix p1)).toInt) (((-3), d)) (cif (sp_X5_isShut d (d.1 20 0 (ix p1))) (((-3), d)) (cif ((d.1 0 0 17).toInt = 40) (((-4), d)) (((sp_X5_add (uv d 24 0 (ix p1) (d.1 0 0 17)) 1 (d.1 19 0 (ix p1)) (d.1 20 0 (ix p1)) p2 (d.1 22 0 (ix p1)) p1).1, (sp_X5_add (uv d 24 0 (ix p1) (d.1 0 0 17)) 1 (d.1 19 0 (ix p1)) (d.1 20 0 (ix p1)) p2 (d.1 22 0 (ix p1)) p1).2))))) (((-2), d)))
noncomputable def sp_X5_areDays (p0 : Int32) (p1 : Int32) : Prop :=
  cif (sp_X5_isDay p0) (cif (sp_X5_isDay p1) (cif (p1.toInt < p0.toInt) (False) (True)) (False)) (False)
noncomputable def sp_X5_isStale (d : Dt) (p1 : Int32) (p2 : Int32) (p3 : Int32) (p4 : Int32) : Prop × Dt :=
  cif ((d.1 19 0 (ix p1)).toInt = p2.toInt) (cif (sp_X5_in ((d.1 20 0 (ix p1)).toInt64) p3.toInt64 p4.toInt64) (cif (0 ≤ (d.1 24 0 (ix p1)).toInt) ((False, d)) (cif ((d.1 23 0 (ix p1)).toInt = ((sp_X5_factorAt d p2 (d.1 22 0 (ix p1)) (d.1 20 0 (ix p1))).1).toInt) ((False, (sp_X5_factorAt d p2 (d.1 22 0 (ix p1)) (d.1 20 0 (ix p1))).2)) ((True, (sp_X5_factorAt d p2 (d.1 22 0 (ix p1)) (d.1 20 0 (ix p1))).2)))) ((False, d))) ((False, d))
noncomputable def sp_X5_ticketed (d : Dt) (p1 : Int32) (p2 : Int32) : Int32 :=
  cif (sp_X5_noTicket d p1) ((-1)) (cif (p2.toInt = 0) (d.1 18 0 (ix p1)) (cif (p2.toInt = 1) (d.1 19 0 (ix p1)) (cif (p2.toInt = 2) (d.1 20 0 (ix p1)) (cif (p2.toInt = 3) (d.1 21 0 (ix p1)) (cif (p2.toInt = 4) (d.1 22 0 (ix p1)) (cif (p2.toInt = 5) (d.1 23 0 (ix p1)) (cif (p2.toInt = 6) (d.1 24 0 (ix p1)) (cif (p2.toInt = 7) (d.1 25 0 (ix p1)) ((-2))))))))))
noncomputable def sp_X5_volumeOf (d : Dt) (p1 : Int32) : Int64 :=
  sp_X5_rounded ((10 * ((d.1 21 0 (ix p1)).toInt64)) * ((d.1 23 0 (ix p1)).toInt64)) ((d.1 2 0 (ix (d.1 19 0 (ix p1)))).toInt64)
noncomputable def sp_X5_volume (d : Dt) (p1 : Int32) : Int64 :=
  cif (sp_X5_noTicket d p1) (sp_X5_lost) (sp_X5_volumeOf d p1)
noncomputable def st_X5_sumOf_6 (d : Dt) (p1 : Int32) (p2 : Int32) (p3 : Int32) (rec6 : Int32 → Int64 → Int64) (x6 : Int32) (x4 : Int64) : Int64 :=
  cif ((d.1 0 0 17).toInt ≤ x6.toInt) (x4) (cif ((d.1 19 0 (ix x6)).toInt = p1.toInt) (cif (sp_X5_in ((d.1 20 0 (ix x6)).toInt64) p2.toInt64 p3.toInt64) (cif (0 ≤ (d.1 24 0 (ix x6)).toInt) (rec6 (x6 + 1) (x4 + 0)) (rec6 (x6 + 1) (x4 + (sp_X5_volumeOf d x6)))) (rec6 (x6 + 1) (x4 + 0))) (rec6 (x6 + 1) (x4 + 0)))
noncomputable def lp_X5_sumOf_6 (d : Dt) (p1 : Int32) (p2 : Int32) (p3 : Int32) : Nat → Int32 → Int64 → Int64
  | 0 => fun _ _ => 0
  | n + 1 => fun x6 x4 => st_X5_sumOf_6 d p1 p2 p3 (lp_X5_sumOf_6 d p1 p2 p3 n) x6 x4
noncomputable def sp_X5_sumOf (d : Dt) (p1 : Int32) (p2 : Int32) (p3 : Int32) : Int64 :=
  lp_X5_sumOf_6 d p1 p2 p3 64 0 0
noncomputable def sp_X5_sum (d : Dt) (p1 : Int32) (p2 : Int32) (p3 : Int32) : Int64 :=
  cif (sp_X5_noMeter d p1) (sp_X5_lost) (cif (sp_X5_areDays p2 p3) (sp_X5_sumOf d p1 p2 p3) (sp_X5_lost))
noncomputable def sp_X5_shut (d : Dt) (p1 : Int32) : Int32 × Dt :=
  cif (sp_X5_isDay p1) (cif ((d.1 0 0 26).toInt ≤ p1.toInt) ((d.1 0 0 26, uv d 0 0 26 p1)) (((-2), d))) (((-2), d))
noncomputable def sp_X5_noLine (p0 : Int32) : Prop :=
  cif (sp_X5_in p0.toInt64 0 3) (False) (True)
noncomputable def sp_X5_line (d : Dt) (p1 : Int32) (p2 : Int32) (p3 : Int32) : Int32 × Dt :=
  cif (sp_X5_noLine p1) (((-1), d)) (cif (sp_X5_noMeter d p2) (((-1), d)) (cif (sp_X5_in p3.toInt64 (-1) 1) (cif ((d.1 27 0 (ix ((6 * p1) + p2))).toInt = p3.toInt) ((0, uv d 27 0 (ix ((6 * p1) + p2)) p3)) ((1, uv d 27 0 (ix ((6 * p1) + p2)) p3))) (((-2), d))))
noncomputable def sp_X5_lined (d : Dt) (p1 : Int32) (p2 : Int32) : Int32 :=
  cif (sp_X5_noLine p1) ((-1)) (cif (sp_X5_noMeter d p2) ((-1)) (10 + (d.1 27 0 (ix ((6 * p1) + p2)))))
noncomputable def sp_X5_end (d : Dt) (p1 : Int32) (p2 : Int32) : Int32 × Dt :=
  cif (sp_X5_noMeter d p1) (((-1), d)) (cif (sp_X5_in p2.toInt64 0 5000) ((d.1 7 0 (ix p1), uv d 7 0 (ix p1) p2)) (((-2), d)))
noncomputable def st_X5_imbalance_6 (d : Dt) (p1 : Int32) (p2 : Int32) (p3 : Int32) (rec6 : Int32 → Int64 → Int64) (x6 : Int32) (x4 : Int64) : Int64 :=
  cif ((d.1 0 0 1).toInt ≤ x6.toInt) (x4) (rec6 (x6 + 1) (x4 + (((d.1 27 0 (ix ((6 * p1) + x6))).toInt64) * (sp_X5_sumOf d x6 p2 p3))))
noncomputable def lp_X5_imbalance_6 (d : Dt) (p1 : Int32) (p2 : Int32) (p3 : Int32) : Nat → Int32 → Int64 → Int64
  | 0 => fun _ _ => 0
  | n + 1 => fun x6 x4 => st_X5_imbalance_6 d p1 p2 p3 (lp_X5_imbalance_6 d p1 p2 p3 n) x6 x4
noncomputable def sp_X5_imbalance (d : Dt) (p1 : Int32) (p2 : Int32) (p3 : Int32) : Int64 :=
  lp_X5_imbalance_6 d p1 p2 p3 16 0 0
noncomputable def st_X5_endsOf_6 (d : Dt) (p1 : Int32) (p2 : Int32) (p3 : Int32) (rec6 : Int32 → Int64 → Int64) (x6 : Int32) (x4 : Int64) : Int64 :=
  cif ((d.1 0 0 1).toInt ≤ x6.toInt) (x4) (cif ((d.1 27 0 (ix ((6 * p1) + x6))).toInt = 0) (rec6 (x6 + 1) (x4 + 0)) (rec6 (x6 + 1) (x4 + (((sp_X5_sumOf d x6 p2 p3) * ((d.1 7 0 (ix x6)).toInt64)) / 100000))))
noncomputable def lp_X5_endsOf_6 (d : Dt) (p1 : Int32) (p2 : Int32) (p3 : Int32) : Nat → Int32 → Int64 → Int64
  | 0 => fun _ _ => 0
  | n + 1 => fun x6 x4 => st_X5_endsOf_6 d p1 p2 p3 (lp_X5_endsOf_6 d p1 p2 p3 n) x6 x4
noncomputable def sp_X5_endsOf (d : Dt) (p1 : Int32) (p2 : Int32) (p3 : Int32) : Int64 :=
  lp_X5_endsOf_6 d p1 p2 p3 16 0 0
noncomputable def sp_X5_balance (d : Dt) (p1 : Int32) (p2 : Int32) (p3 : Int32) (p4 : Int32) : Int64 :=
  cif (sp_X5_noLine p1) (sp_X5_lost) (cif (sp_X5_in p4.toInt64 0 1) (cif (sp_X5_areDays p2 p3) (cif (p4.toInt = 0) (sp_X5_imbalance d p1 p2 p3) (sp_X5_endsOf d p1 p2 p3)) (sp_X5_lost)) (sp_X5_lost))
noncomputable def st_X5_beyondOf_5 (d : Dt) (p1 : Int32) (p2 : Int32) (rec5 : Int32 → Int32 → Int32) (x4 : Int32) (x3 : Int32) : Int32 :=
  cif (4 ≤ x4.toInt) (x3) (cif (sp_X5_in (sp_X5_imbalance d x4 p1 p2) (-(sp_X5_endsOf d x4 p1 p2)) (sp_X5_endsOf d x4 p1 p2)) (rec5 (x4 + 1) (x3 ||| 0)) (rec5 (x4 + 1) (x3 ||| (1 <<< (x4 &&& 31)))))
noncomputable def lp_X5_beyondOf_5 (d : Dt) (p1 : Int32) (p2 : Int32) : Nat → Int32 → Int32 → Int32
  | 0 => fun _ _ => 0
  | n + 1 => fun x4 x3 => st_X5_beyondOf_5 d p1 p2 (lp_X5_beyondOf_5 d p1 p2 n) x4 x3
noncomputable def sp_X5_beyondOf (d : Dt) (p1 : Int32) (p2 : Int32) : Int32 :=
  lp_X5_beyondOf_5 d p1 p2 16 0 0
noncomputable def sp_X5_beyond (d : Dt) (p1 : Int32) (p2 : Int32) : Int32 :=
  cif (sp_X5_areDays p1 p2) (sp_X5_beyondOf d p1 p2) ((-2))
noncomputable def st_X5_explains_44 (d : Dt) (p1 : Int32) (p2 : Int32) (p3 : Int32) (rec44 : Int32 → Int64 → Int64 → Int64) (x8 : Int32) (x6 : Int64) (x4 : Int64) : Int64 :=
  cif (4 ≤ x8.toInt) (cif (x4.toInt ≤ x6.toInt) (cif (x4.toInt ≤ 0) (cif (0 ≤ x6.toInt) (0) (x6)) (x4)) (0)) (cif ((d.1 27 0 (ix ((6 * x8) + p1))).toInt = 0) (cif (sp_X5_in (sp_X5_imbalance d x8 p2 p3) (-(sp_X5_endsOf d x8 p2 p3)) (sp_X5_endsOf d x8 p2 p3)) (rec44 (x8 + 1) x6 x4) (0)) (cif ((d.1 27 0 (ix ((6 * x8) + p1))).toInt ≤ 0) (cif (((sp_X5_imbalance d x8 p2 p3) - (sp_X5_endsOf d x8 p2 p3)).toInt ≤ x4.toInt) (cif (x6.toInt ≤ ((sp_X5_imbalance d x8 p2 p3) + (sp_X5_endsOf d x8 p2 p3)).toInt) (rec44 (x8 + 1) x6 x4) (rec44 (x8 + 1) ((sp_X5_imbalance d x8 p2 p3) + (sp_X5_endsOf d x8 p2 p3)) x4)) (cif (x6.toInt ≤ ((sp_X5_imbalance d x8 p2 p3) + (sp_X5_endsOf d x8 p2 p3)).toInt) (rec44 (x8 + 1) x6 ((sp_X5_imbalance d x8 p2 p3) - (sp_X5_endsOf d x8 p2 p3))) (rec44 (x8 + 1) ((sp_X5_imbalance d x8 p2 p3) + (sp_X5_endsOf d x8 p2 p3)) ((sp_X5_imbalance d x8 p2 p3) - (sp_X5_endsOf d x8 p2 p3))))) (cif (((-(sp_X5_endsOf d x8 p2 p3)) - (sp_X5_imbalance d x8 p2 p3)).toInt ≤ x4.toInt) (cif (x6.toInt ≤ ((sp_X5_endsOf d x8 p2 p3) - (sp_X5_imbalance d x8 p2 p3)).toInt) (rec44 (x8 + 1) x6 x4) (rec44 (x8 + 1) ((sp_X5_endsOf d x8 p2 p3) - (sp_X5_imbalance d x8 p2 p3)) x4)) (cif (x6.toInt ≤ ((sp_X5_endsOf d x8 p2 p3) - (sp_X5_imbalance d x8 p2 p3)).toInt) (rec44 (x8 + 1) x6 ((-(sp_X5_endsOf d x8 p2 p3)) - (sp_X5_imbalance d x8 p2 p3))) (rec44 (x8 + 1) ((sp_X5_endsOf d x8 p2 p3) - (sp_X5_imbalance d x8 p2 p3)) ((-(sp_X5_endsOf d x8 p2 p3)) - (sp_X5_imbalance d x8 p2 p3)))))))
noncomputable def lp_X5_explains_44 (d : Dt) (p1 : Int32) (p2 : Int32) (p3 : Int32) : Nat → Int32 → Int64 → Int64 → Int64
  | 0 => fun _ _ _ => 0
  | n + 1 => fun x8 x6 x4 => st_X5_explains_44 d p1 p2 p3 (lp_X5_explains_44 d p1 p2 p3 n) x8 x6 x4
noncomputable def sp_X5_explains (d : Dt) (p1 : Int32) (p2 : Int32) (p3 : Int32) : Int64 :=
  cif (sp_X5_noMeter d p1) (sp_X5_lost) (cif (sp_X5_areDays p2 p3) (cif ((sp_X5_beyondOf d p2 p3).toInt = 0) (0) (lp_X5_explains_44 d p1 p2 p3 16 0 4000000000000000000 (-4000000000000000000))) (sp_X5_lost))
noncomputable def sp_X5_noSheet (p0 : Int32) : Prop :=
  cif (sp_X5_in p0.toInt64 0 3) (False) (True)
noncomputable def st_X5_sheet_65 (d : Dt) (p1 : Int32) (p2 : Int32) (p3 : Int32) (rec65 : Int32 → Dt → Int32 × Dt) (x4 : Int32) (e65 : Dt) : Int32 × Dt :=
  cif (p3.toInt ≤ x4.toInt) (((sp_X5_refused e65 1).1, (sp_X5_refused e65 1).2)) (rec65 (x4 + 1) (uv e65 30 0 (ix ((60 * p1) + x4)) 0))
noncomputable def lp_X5_sheet_65 (d : Dt) (p1 : Int32) (p2 : Int32) (p3 : Int32) : Nat → Int32 → Dt → Int32 × Dt
  | 0 => fun _ e65 => (0, e65)
  | n + 1 => fun x4 e65 => st_X5_sheet_65 d p1 p2 p3 (lp_X5_sheet_65 d p1 p2 p3 n) x4 e65
noncomputable def sp_X5_sheet (d : Dt) (p1 : Int32) (p2 : Int32) (p3 : Int32) : Int32 × Dt :=
  cif (sp_X5_noSheet p1) (((sp_X5_refused d (-1)).1, (sp_X5_refused d (-1)).2)) (cif (sp_X5_in p2.toInt64 0 2) (cif (p3.toInt ≤ 60) (cif (0 ≤ p3.toInt) (lp_X5_sheet_65 d p1 p2 p3 64 0 (uv (uv d 28 0 (ix p1) p3) 29 0 (ix p1) p2)) (((sp_X5_failed d 4).1, (sp_X5_failed d 4).2))) (((sp_X5_refused d (-2)).1, (sp_X5_refused d (-2)).2))) (((sp_X5_refused d (-2)).1, (sp_X5_refused d (-2)).2)))
noncomputable def sp_X5_lose (d : Dt) (p1 : Int32) : Int32 × Dt :=
  cif (sp_X5_noSheet p1) (((-1), d)) (cif (0 ≤ (d.1 28 0 (ix p1)).toInt) ((1, uv d 28 0 (ix p1) (-1))) ((0, uv d 28 0 (ix p1) (-1))))
noncomputable def sp_X5_noCell (d : Dt) (p1 : Int32) (p2 : Int32) : Int32 :=
  cif (0 ≤ (d.1 28 0 (ix p1)).toInt) (cif (sp_X5_in p2.toInt64 0 (((d.1 28 0 (ix p1)).toInt64) - 1)) (0) (3)) (1)
noncomputable def sp_X5_put (d : Dt) (p1 : Int32) (p2 : Int32) (p3 : Int32) : Int32 × Dt :=
  cif (sp_X5_noSheet p1) (((sp_X5_refused d (-1)).1, (sp_X5_refused d (-1)).2)) (cif ((sp_X5_noCell d p1 p2).toInt ≤ 0) (cif ((d.1 29 0 (ix p1)).toInt = 0) (((sp_X5_refused (uv d 30 0 (ix ((60 * p1) + p2)) p3.toInt8.toInt32) 1).1, (sp_X5_refused (uv d 30 0 (ix ((60 * p1) + p2)) p3.toInt8.toInt32) 1).2)) (cif ((d.1 29 0 (ix p1)).toInt = 1) (((sp_X5_refused (uv d 30 0 (ix ((60 * p1) + p2)) p3.toInt16.toInt32) 1).1, (sp_X5_refused (uv d 30 0 (ix ((60 * p1) + p2)) p3.toInt16.toInt32) 1).2)) (((sp_X5_refused (uv d 30 0 (ix ((60 * p1) + p2)) p3) 1).1, (sp_X5_refused (uv d 30 0 (ix ((60 * p1) + p2)) p3) 1).2)))) (((sp_X5_failed d (sp_X5_noCell d p1 p2)).1, (sp_X5_failed d (sp_X5_noCell d p1 p2)).2)))
noncomputable def sp_X5_cell (d : Dt) (p1 : Int32) (p2 : Int32) (p3 : Int32) : Int64 × Dt :=
  cif (sp_X5_noSheet p1) ((sp_X5_lost, uv d 0 0 0 0)) (cif (sp_X5_in p3.toInt64 0 2) (cif ((d.1 28 0 (ix p1)).toInt < 0) (cif ((sp_X5_noCell (uv d 0 0 0 0) p1 p2).toInt ≤ 0) (((d.1 30 0 (ix ((60 * p1) + p2))).toInt64, uv d 0 0 0 0)) (((sp_X5_failedLong (uv d 0 0 0 0) (sp_X5_noCell (uv d 0 0 0 0) p1 p2)).1, (sp_X5_failedLong (uv d 0 0 0 0) (sp_X5_noCell (uv d 0 0 0 0) p1 p2)).2))) (cif ((d.1 29 0 (ix p1)).toInt = p3.toInt) (cif ((sp_X5_noCell (uv d 0 0 0 0) p1 p2).toInt ≤ 0) (((d.1 30 0 (ix ((60 * p1) + p2))).toInt64, uv d 0 0 0 0)) (((sp_X5_failedLong (uv d 0 0 0 0) (sp_X5_noCell (uv d 0 0 0 0) p1 p2)).1, (sp_X5_failedLong (uv d 0 0 0 0) (sp_X5_noCell (uv d 0 0 0 0) p1 p2)).2))) (((sp_X5_failedLong (uv d 0 0 0 0) 2).1, (sp_X5_failedLong (uv d 0 0 0 0) 2).2)))) ((sp_X5_lost, uv d 0 0 0 0)))
noncomputable def sp_X5_isBeyond (p0 : Int32) (p1 : Int32) (p2 : Int32) : Prop :=
  cif (p0.toInt < 0) (True) (cif (p1.toInt < 0) (True) (cif ((p0.toInt64 + p1.toInt64).toInt ≤ p2.toInt64.toInt) (False) (True)))
noncomputable def st_X5_copy_142 (d : Dt) (p1 : Int32) (p2 : Int32) (p3 : Int32) (p4 : Int32) (p5 : Int32) (rec142 : Int32 → Dt → Int32 × Dt) (x6 : Int32) (e142 : Dt) : Int32 × Dt :=
  cif (p5.toInt ≤ x6.toInt) (((sp_X5_refused e142 p5).1, (sp_X5_refused e142 p5).2)) (rec142 (x6 + 1) (uv e142 30 0 (ix (((60 * p3) + p4) + x6)) (e142.1 31 0 (ix x6))))
noncomputable def lp_X5_copy_142 (d : Dt) (p1 : Int32) (p2 : Int32) (p3 : Int32) (p4 : Int32) (p5 : Int32) : Nat → Int32 → Dt → Int32 × Dt
  | 0 => fun _ e142 => (0, e142)
  | n + 1 => fun x6 e142 => st_X5_copy_142 d p1 p2 p3 p4 p5 (lp_X5_copy_142 d p1 p2 p3 p4 p5 n) x6 e142
noncomputable def st_X5_copy_105 (d : Dt) (p1 : Int32) (p2 : Int32) (p3 : Int32) (p4 : Int32) (p5 : Int32) (rec105 : Int32 → Dt → Int32 × Dt) (x6 : Int32) (e105 : Dt) : Int32 × Dt :=
  cif (p5.toInt ≤ x6.toInt) (lp_X5_copy_142 d p1 p2 p3 p4 p5 64 0 e105) (rec105 (x6 + 1) (uv e105 31 0 (ix x6) (e105.1 30 0 (ix (((60 * p1) + p2) + x6)))))
noncomputable def lp_X5_copy_105 (d : Dt) (p1 : Int32) (p2 : Int32) (p3 : Int32) (p4 : Int32) (p5 : Int32) : Nat → Int32 → Dt → Int32 × Dt
  | 0 => fun _ e105 => (0, e105)
  | n + 1 => fun x6 e105 => st_X5_copy_105 d p1 p2 p3 p4 p5 (lp_X5_copy_105 d p1 p2 p3 p4 p5 n) x6 e105
noncomputable def sp_X5_copy (d : Dt) (p1 : Int32) (p2 : Int32) (p3 : Int32) (p4 : Int32) (p5 : Int32) : Int32 × Dt :=
  cif (sp_X5_noSheet p1) (((sp_X5_refused d (-1)).1, (sp_X5_refused d (-1)).2)) (cif (sp_X5_noSheet p3) (((sp_X5_refused d (-1)).1, (sp_X5_refused d (-1)).2)) (cif ((d.1 28 0 (ix p1)).toInt < 0) (((sp_X5_failed d 1).1, (sp_X5_failed d 1).2)) (cif (0 ≤ (d.1 28 0 (ix p3)).toInt) (cif ((d.1 29 0 (ix p1)).toInt = (d.1 29 0 (ix p3)).toInt) (cif (sp_X5_isBeyond p2 p5 (d.1 28 0 (ix p1))) (((sp_X5_failed d 3).1, (sp_X5_failed d 3).2)) (cif (sp_X5_isBeyond p4 p5 (d.1 28 0 (ix p3))) (((sp_X5_failed d 3).1, (sp_X5_failed d 3).2)) (lp_X5_copy_105 d p1 p2 p3 p4 p5 64 0 d))) (((sp_X5_failed d 2).1, (sp_X5_failed d 2).2))) (((sp_X5_failed d 1).1, (sp_X5_failed d 1).2)))))
noncomputable def st_X5_watch_135 (d : Dt) (p1 : Int32) (p2 : Int32) (p3 : Int32) (p4 : Int32) (p5 : Int32) (rec135 : Int32 → Int32 → Int32 → Int32 → Int32 → Int32 → Int32 × Dt) (x11 : Int32) (x10 : Int32) (x9 : Int32) (x8 : Int32) (x7 : Int32) (x6 : Int32) : Int32 × Dt :=
  cif ((p3 + p4).toInt ≤ x11.toInt) (cif (p5.toInt = 0) (((sp_X5_refused d x6).1, (sp_X5_refused d x6).2)) (cif (p5.toInt = 1) (((sp_X5_refused d x7).1, (sp_X5_refused d x7).2)) (cif (p5.toInt = 2) (((sp_X5_refused d x8).1, (sp_X5_refused d x8).2)) (((sp_X5_refused d ((x6 + x7) - x8)).1, (sp_X5_refused d ((x6 + x7) - x8)).2))))) (cif ((d.1 30 0 (ix ((60 * p1) + x11))).toInt = 1) (cif ((d.1 30 0 (ix ((60 * p1) + x11))).toInt = x9.toInt) (cif (x10.toInt = 0) (rec135 (x11 + 1) 1 (d.1 30 0 (ix ((60 * p1) + x11))) (x8 + 1) (x7 + 0) (x6 + 1)) (rec135 (x11 + 1) 0 (d.1 30 0 (ix ((60 * p1) + x11))) (x8 + 0) (x7 + 1) (x6 + 1))) (rec135 (x11 + 1) 1 (d.1 30 0 (ix ((60 * p1) + x11))) (x8 + 0) (x7 + 0) (x6 + 1))) (cif ((d.1 30 0 (ix ((60 * p1) + x11))).toInt = 2) (cif ((d.1 30 0 (ix ((60 * p1) + x11))).toInt = x9.toInt) (cif (x10.toInt = 0) (rec135 (x11 + 1) 1 (d.1 30 0 (ix ((60 * p1) + x11))) (x8 + 1) (x7 + 0) (x6 + 1)) (rec135 (x11 + 1) 0 (d.1 30 0 (ix ((60 * p1) + x11))) (x8 + 0) (x7 + 1) (x6 + 1))) (rec135 (x11 + 1) 1 (d.1 30 0 (ix ((60 * p1) + x11))) (x8 + 0) (x7 + 0) (x6 + 1))) (rec135 (x11 + 1) x10 x9 x8 x7 x6)))
noncomputable def lp_X5_watch_135 (d : Dt) (p1 : Int32) (p2 : Int32) (p3 : Int32) (p4 : Int32) (p5 : Int32) : Nat → Int32 → Int32 → Int32 → Int32 → Int32 → Int32 → Int32 × Dt
  | 0 => fun _ _ _ _ _ _ => (0, d)
  | n + 1 => fun x11 x10 x9 x8 x7 x6 => st_X5_watch_135 d p1 p2 p3 p4 p5 (lp_X5_watch_135 d p1 p2 p3 p4 p5 n) x11 x10 x9 x8 x7 x6
noncomputable def sp_X5_watch (d : Dt) (p1 : Int32) (p2 : Int32) (p3 : Int32) (p4 : Int32) (p5 : Int32) : Int32 × Dt :=
  cif (sp_X5_noSheet p1) (((sp_X5_refused d (-1)).1, (sp_X5_refused d (-1)).2)) (cif (sp_X5_in p2.toInt64 0 2) (cif (sp_X5_in p5.toInt64 0 3) (cif ((d.1 28 0 (ix p1)).toInt < 0) (((sp_X5_failed d 1).1, (sp_X5_failed d 1).2)) (cif ((d.1 29 0 (ix p1)).toInt = p2.toInt) (cif (0 ≤ p4.toInt) (cif (sp_X5_isBeyond p3 p4 (d.1 28 0 (ix p1))) (((sp_X5_failed d 3).1, (sp_X5_failed d 3).2)) (lp_X5_watch_135 d p1 p2 p3 p4 p5 64 p3 1 0 0 0 0)) (((sp_X5_failed d 4).1, (sp_X5_failed d 4).2))) (((sp_X5_failed d 2).1, (sp_X5_failed d 2).2)))) (((sp_X5_refused d (-2)).1, (sp_X5_refused d (-2)).2))) (((sp_X5_refused d (-2)).1, (sp_X5_refused d (-2)).2)))
noncomputable def sp_X5_traced (d : Dt) (p1 : Int32) : Dt :=
  uv d 0 0 32 ((31 * (d.1 0 0 32)) + p1)
noncomputable def sp_X5_tell (d : Dt) (p1 : Int32) : Int32 × Dt :=
  cif (sp_X5_noTicket d p1) (((-1), d)) (cif ((d.1 18 0 (ix p1)).toInt = 0) (cif (((sp_X5_traced d 1).1 18 0 (ix p1)).toInt = 0) (((sp_X5_traced d 1).1 20 0 (ix p1), (sp_X5_traced d 1))) (cif (((sp_X5_traced d 1).1 18 0 (ix p1)).toInt = 1) ((1000 + ((sp_X5_traced d 1).1 20 0 (ix p1)), (sp_X5_traced d 1))) (((-((sp_X5_traced d 1).1 20 0 (ix p1))) - 1, (sp_X5_traced d 1))))) (cif ((d.1 18 0 (ix p1)).toInt = 1) (cif (((sp_X5_traced (sp_X5_traced d 2) 1).1 18 0 (ix p1)).toInt = 0) (((sp_X5_traced (sp_X5_traced d 2) 1).1 20 0 (ix p1), (sp_X5_traced (sp_X5_traced d 2) 1))) (cif (((sp_X5_traced (sp_X5_traced d 2) 1).1 18 0 (ix p1)).toInt = 1) ((1000 + ((sp_X5_traced (sp_X5_traced d 2) 1).1 20 0 (ix p1)), (sp_X5_traced (sp_X5_traced d 2) 1))) (((-((sp_X5_traced (sp_X5_traced d 2) 1).1 20 0 (ix p1))) - 1, (sp_X5_traced (sp_X5_traced d 2) 1))))) (cif (((sp_X5_traced (sp_X5_traced d 3) 1).1 18 0 (ix p1)).toInt = 0) (((sp_X5_traced (sp_X5_traced d 3) 1).1 20 0 (ix p1), (sp_X5_traced (sp_X5_traced d 3) 1))) (cif (((sp_X5_traced (sp_X5_traced d 3) 1).1 18 0 (ix p1)).toInt = 1) ((1000 + ((sp_X5_traced (sp_X5_traced d 3) 1).1 20 0 (ix p1)), (sp_X5_traced (sp_X5_traced d 3) 1))) (((-((sp_X5_traced (sp_X5_traced d 3) 1).1 20 0 (ix p1))) - 1, (sp_X5_traced (sp_X5_traced d 3) 1)))))))
noncomputable def sp_X5_worth (d : Dt) (p1 : Int32) : Int32 × Dt :=
  cif (sp_X5_noTicket d p1) (((-1), d)) (cif ((d.1 18 0 (ix p1)).toInt = 2) (cif (((sp_X5_traced d 5).1 18 0 (ix p1)).toInt = 2) ((1, (sp_X5_traced d 5))) (cif (((sp_X5_volumeOf (sp_X5_traced d 5) p1) / 1000).toInt ≤ 2147483647) ((((sp_X5_volumeOf (sp_X5_traced d 5) p1) / 1000).toInt32, (sp_X5_traced d 5))) ((2147483647, (sp_X5_traced d 5))))) (cif (((sp_X5_traced d 4).1 18 0 (ix p1)).toInt = 2) ((1, (sp_X5_traced d 4))) (cif (((sp_X5_volumeOf (sp_X5_traced d 4) p1) / 1000).toInt ≤ 2147483647) ((((sp_X5_volumeOf (sp_X5_traced d 4) p1) / 1000).toInt32, (sp_X5_traced d 4))) ((2147483647, (sp_X5_traced d 4))))))
noncomputable def sp_X5_as (d : Dt) (p1 : Int32) (p2 : Int32) : Int32 × Dt :=
  cif (sp_X5_noTicket d p1) (((sp_X5_refused d (-1)).1, (sp_X5_refused d (-1)).2)) (cif (sp_X5_in p2.toInt64 0 2) (cif ((d.1 18 0 (ix p1)).toInt < p2.toInt) (((sp_X5_failed d 2).1, (sp_X5_failed d 2).2)) (((sp_X5_refused d 1).1, (sp_X5_refused d 1).2))) (((sp_X5_refused d (-2)).1, (sp_X5_refused d (-2)).2)))
noncomputable def sp_X5_trace (d : Dt) : Int32 :=
  d.1 0 0 32
noncomputable def sp_X5_fault (d : Dt) : Int32 :=
  d.1 0 0 0
noncomputable def st_X5_told_44 (d : Dt) (p1 : Int32) (rec44 : Int32 → Int32 → Int32) (x3 : Int32) (x2 : Int32) : Int32 :=
  cif ((d.1 0 0 17).toInt ≤ x3.toInt) (x2) (cif (0 ≤ (d.1 24 0 (ix x3)).toInt) (rec44 (x3 + 1) (x2 + 0)) (rec44 (x3 + 1) (x2 + 1)))
noncomputable def lp_X5_told_44 (d : Dt) (p1 : Int32) : Nat → Int32 → Int32 → Int32
  | 0 => fun _ _ => 0
  | n + 1 => fun x3 x2 => st_X5_told_44 d p1 (lp_X5_told_44 d p1 n) x3 x2
noncomputable def sp_X5_told (d : Dt) (p1 : Int32) : Int32 :=
  cif (p1.toInt = 0) (d.1 0 0 1) (cif (p1.toInt = 1) (d.1 0 0 17) (cif (p1.toInt = 2) (lp_X5_told_44 d p1 64 0 0) (cif (p1.toInt = 3) (d.1 0 0 26) (cif (sp_X5_in p1.toInt64 10 (9 + ((d.1 0 0 1).toInt64))) (d.1 3 0 (ix (p1 - 10))) ((-2))))))
