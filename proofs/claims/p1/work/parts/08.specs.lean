noncomputable def sp_X4_isWithin (p0 : Int32) (p1 : Int32) (p2 : Int32) : Prop :=
  cif (p0.toInt < p1.toInt) (False) (cif (p2.toInt < p0.toInt) (False) (True))
noncomputable def sp_X4_isDay (p0 : Int32) : Prop :=
  sp_X4_isWithin p0 0 400
noncomputable def sp_X4_isFlow (p0 : Int32) : Prop :=
  sp_X4_isWithin p0 1 10000
noncomputable def sp_X4_isLine (p0 : Int32) : Prop :=
  sp_X4_isWithin p0 0 3
noncomputable def sp_X4_isSheet (p0 : Int32) : Prop :=
  sp_X4_isWithin p0 0 3
noncomputable def sp_X4_isLane (p0 : Int32) : Prop :=
  sp_X4_isWithin p0 0 2
noncomputable def sp_X4_areDays (p0 : Int32) (p1 : Int32) : Prop :=
  cif (sp_X4_isDay p0) (cif (sp_X4_isDay p1) (cif (p1.toInt < p0.toInt) (False) (True)) (False)) (False)
noncomputable def sp_X4_rounded (p0 : Int64) (p2 : Int64) : Int64 :=
  cif (0 < p2.toInt) (((2 * p0) + p2) / (2 * p2)) (0)
noncomputable def sp_X0_isFull (d : Dt) (i : Nat) : Prop :=
  cif ((d.1 8 i 6).toInt < 12) (False) (True)
noncomputable def sp_X0_standsBehind (d : Dt) (i : Nat) (p1 : Int32) (p2 : Int32) (p3 : Int32) : Prop :=
  cif (p2.toInt < (d.1 10 i (ix p1)).toInt) (True) (cif ((d.1 10 i (ix p1)).toInt = p2.toInt) (cif ((d.1 11 i (ix p1)).toInt ≤ p3.toInt) (False) (True)) (False))
noncomputable def sp_X0_isOnCurve (d : Dt) (i : Nat) (p1 : Int32) (p2 : Int32) : Prop :=
  cif ((d.1 11 i (ix p1)).toInt ≤ p2.toInt) (cif ((d.1 8 i 6).toInt ≤ (p1 + 1).toInt) (True) (cif ((d.1 10 i (ix (p1 + 1))).toInt = (d.1 10 i (ix p1)).toInt) (cif ((d.1 11 i (ix (p1 + 1))).toInt ≤ p2.toInt) (False) (True)) (True))) (False)
noncomputable def sp_X0_between (d : Dt) (i : Nat) (p1 : Int32) (p2 : Int32) (p3 : Int32) : Int32 :=
  cif (((d.1 10 i (ix p2)) - (d.1 10 i (ix p1))).toInt = 0) (d.1 12 i (ix p1)) ((d.1 12 i (ix p1)) + ((((d.1 12 i (ix p2)) - (d.1 12 i (ix p1))) * (p3 - (d.1 10 i (ix p1)))) / ((d.1 10 i (ix p2)) - (d.1 10 i (ix p1)))))
noncomputable def st_X0_curveSize_4 (d : Dt) (i : Nat) (p1 : Int32) (rec4 : Int32 → Int32 → Int32) (x3 : Int32) (x2 : Int32) : Int32 :=
  cif ((d.1 8 i 6).toInt ≤ x3.toInt) (x2) (cif (sp_X0_isOnCurve d i x3 p1) (rec4 (x3 + 1) (x2 + 1)) (rec4 (x3 + 1) (x2 + 0)))
noncomputable def lp_X0_curveSize_4 (d : Dt) (i : Nat) (p1 : Int32) : Nat → Int32 → Int32 → Int32
  | 0 => fun _ _ => 0
  | n + 1 => fun x3 x2 => st_X0_curveSize_4 d i p1 (lp_X0_curveSize_4 d i p1 n) x3 x2
noncomputable def sp_X0_curveSize (d : Dt) (i : Nat) (p1 : Int32) : Int32 :=
  lp_X0_curveSize_4 d i p1 16 0 0
noncomputable def sp_X3_isReplaced (d : Dt) (i : Nat) : Prop :=
  cif ((d.1 13 i 6).toInt = (-9)) (False) (True)
noncomputable def st_X0_curvePlace_5 (d : Dt) (i : Nat) (p1 : Int32) (p2 : Int32) (rec5 : Int32 → Int32 → Int32) (x4 : Int32) (x3 : Int32) : Int32 :=
  cif ((d.1 8 i 6).toInt ≤ x4.toInt) ((-9)) (cif (sp_X0_isOnCurve d i x4 p1) (cif (x3.toInt = p2.toInt) (x4) (rec5 (x4 + 1) (x3 + 1))) (rec5 (x4 + 1) x3))
noncomputable def lp_X0_curvePlace_5 (d : Dt) (i : Nat) (p1 : Int32) (p2 : Int32) : Nat → Int32 → Int32 → Int32
  | 0 => fun _ _ => 0
  | n + 1 => fun x4 x3 => st_X0_curvePlace_5 d i p1 p2 (lp_X0_curvePlace_5 d i p1 p2 n) x4 x3
noncomputable def sp_X0_curvePlace (d : Dt) (i : Nat) (p1 : Int32) (p2 : Int32) : Int32 :=
  lp_X0_curvePlace_5 d i p1 p2 16 0 0
noncomputable def st_X0_factorAt_10 (d : Dt) (i : Nat) (p1 : Int32) (p2 : Int32) (rec10 : Int32 → Int32 → Int32 → Int32) (x5 : Int32) (x4 : Int32) (x3 : Int32) : Int32 :=
  cif ((d.1 8 i 6).toInt ≤ x5.toInt) (cif (x3.toInt = (-9)) (cif (x4.toInt = (-9)) (100000) (d.1 12 i (ix x4))) (cif (x4.toInt = (-9)) (d.1 12 i (ix x3)) (sp_X0_between d i x3 x4 p1))) (cif (sp_X0_isOnCurve d i x5 p2) (cif (p1.toInt < (d.1 10 i (ix x5)).toInt) (cif ((d.1 10 i (ix x5)).toInt < p1.toInt) (rec10 (x5 + 1) x4 x3) (cif (x4.toInt = (-9)) (rec10 (x5 + 1) x5 x3) (rec10 (x5 + 1) x4 x3))) (cif ((d.1 10 i (ix x5)).toInt < p1.toInt) (rec10 (x5 + 1) x4 x5) (cif (x4.toInt = (-9)) (rec10 (x5 + 1) x5 x5) (rec10 (x5 + 1) x4 x5)))) (rec10 (x5 + 1) x4 x3))
noncomputable def lp_X0_factorAt_10 (d : Dt) (i : Nat) (p1 : Int32) (p2 : Int32) : Nat → Int32 → Int32 → Int32 → Int32
  | 0 => fun _ _ _ => 0
  | n + 1 => fun x5 x4 x3 => st_X0_factorAt_10 d i p1 p2 (lp_X0_factorAt_10 d i p1 p2 n) x5 x4 x3
noncomputable def sp_X0_factorAt (d : Dt) (i : Nat) (p1 : Int32) (p2 : Int32) : Int32 :=
  lp_X0_factorAt_10 d i p1 p2 16 0 (-9) (-9)
noncomputable def st_X1_isGood_32 (d : Dt) (rec32 : Int32 → Int64 → Int64 → Prop) (x5 : Int32) (x3 : Int64) (x1 : Int64) : Prop :=
  cif ((d.1 2 0 5).toInt ≤ x5.toInt) (cif (x1.toInt ≤ 0) (False) (cif (x1.toInt < (2000 * (x3 - x1)).toInt) (False) (True))) (rec32 (x5 + 1) (if (d.2 3 0 (ix x5)) < x3 then x3 else (d.2 3 0 (ix x5))) (if (d.2 3 0 (ix x5)) < x1 then (d.2 3 0 (ix x5)) else x1))
noncomputable def lp_X1_isGood_32 (d : Dt) : Nat → Int32 → Int64 → Int64 → Prop
  | 0 => fun _ _ _ => False
  | n + 1 => fun x5 x3 x1 => st_X1_isGood_32 d (lp_X1_isGood_32 d n) x5 x3 x1
noncomputable def sp_X1_isGood (d : Dt) : Prop :=
  cif (5 ≤ (d.1 2 0 5).toInt) (lp_X1_isGood_32 d 16 ((d.1 2 0 5) - 5) (d.2 3 0 (ix ((d.1 2 0 5) - 1))) (d.2 3 0 (ix ((d.1 2 0 5) - 1)))) (False)
noncomputable def st_X1_factorOf_14 (d : Dt) (p1 : Int32) (rec14 : Int32 → Int64 → Int64) (x4 : Int32) (x2 : Int64) : Int64 :=
  cif ((d.1 2 0 5).toInt ≤ x4.toInt) (sp_X4_rounded ((500 * ((d.1 2 0 3).toInt64)) * p1.toInt64) x2) (rec14 (x4 + 1) (x2 + (d.2 3 0 (ix x4))))
noncomputable def lp_X1_factorOf_14 (d : Dt) (p1 : Int32) : Nat → Int32 → Int64 → Int64
  | 0 => fun _ _ => 0
  | n + 1 => fun x4 x2 => st_X1_factorOf_14 d p1 (lp_X1_factorOf_14 d p1 n) x4 x2
noncomputable def sp_X1_factorOf (d : Dt) (p1 : Int32) : Int64 :=
  lp_X1_factorOf_14 d p1 16 (if (0 : Int32) < ((d.1 2 0 5) - 5) then ((d.1 2 0 5) - 5) else 0) 0
noncomputable def sp_X2_hasCell (d : Dt) (i : Nat) (p1 : Int32) : Prop :=
  sp_X4_isWithin p1 0 ((d.1 6 i 3) - 1)
noncomputable def sp_X2_hasCells (d : Dt) (i : Nat) (p1 : Int32) (p2 : Int32) : Prop :=
  cif (sp_X4_isWithin p1 0 (d.1 6 i 3)) (cif (sp_X4_isWithin p2 0 ((d.1 6 i 3) - p1)) (True) (False)) (False)
noncomputable def sp_X3_counts (d : Dt) (i : Nat) (p1 : Int32) (p2 : Int32) (p3 : Int32) : Prop :=
  cif ((d.1 13 i 0).toInt = p1.toInt) (cif (sp_X4_isWithin (d.1 13 i 1) p2 p3) (cif (sp_X3_isReplaced d i) (False) (True)) (False)) (False)
noncomputable def st_X2_watched_18 (d : Dt) (i : Nat) (p1 : Int32) (p2 : Int32) (p3 : Int32) (rec18 : Int32 → Int32 → Int32 → Int32 → Int32 → Int32 → Int32) (x9 : Int32) (x8 : Int32) (x7 : Int32) (x6 : Int32) (x5 : Int32) (x4 : Int32) : Int32 :=
  cif ((p1 + p2).toInt ≤ x9.toInt) (cif (p3.toInt = 0) (x4) (cif (p3.toInt = 1) (x5) (cif (p3.toInt = 2) (x6) ((x4 + x5) - x6)))) (cif ((d.1 7 i (ix x9)).toInt = 1) (cif ((d.1 7 i (ix x9)).toInt = x8.toInt) (cif (((x7 + 1) - (x7 + 1) / 2 * 2).toInt = 1) (rec18 (x9 + 1) (d.1 7 i (ix x9)) (x7 + 1) x6 (x5 + 1) (x4 + 1)) (cif ((x7 + 1).toInt ≤ 0) (rec18 (x9 + 1) (d.1 7 i (ix x9)) (x7 + 1) x6 x5 (x4 + 1)) (rec18 (x9 + 1) (d.1 7 i (ix x9)) (x7 + 1) (x6 + 1) x5 (x4 + 1)))) (rec18 (x9 + 1) (d.1 7 i (ix x9)) 0 x6 x5 (x4 + 1))) (cif ((d.1 7 i (ix x9)).toInt = 2) (cif ((d.1 7 i (ix x9)).toInt = x8.toInt) (cif (((x7 + 1) - (x7 + 1) / 2 * 2).toInt = 1) (rec18 (x9 + 1) (d.1 7 i (ix x9)) (x7 + 1) x6 (x5 + 1) (x4 + 1)) (cif ((x7 + 1).toInt ≤ 0) (rec18 (x9 + 1) (d.1 7 i (ix x9)) (x7 + 1) x6 x5 (x4 + 1)) (rec18 (x9 + 1) (d.1 7 i (ix x9)) (x7 + 1) (x6 + 1) x5 (x4 + 1)))) (rec18 (x9 + 1) (d.1 7 i (ix x9)) 0 x6 x5 (x4 + 1))) (rec18 (x9 + 1) x8 x7 x6 x5 x4)))
noncomputable def lp_X2_watched_18 (d : Dt) (i : Nat) (p1 : Int32) (p2 : Int32) (p3 : Int32) : Nat → Int32 → Int32 → Int32 → Int32 → Int32 → Int32 → Int32
  | 0 => fun _ _ _ _ _ _ => 0
  | n + 1 => fun x9 x8 x7 x6 x5 x4 => st_X2_watched_18 d i p1 p2 p3 (lp_X2_watched_18 d i p1 p2 p3 n) x9 x8 x7 x6 x5 x4
noncomputable def sp_X2_watched (d : Dt) (i : Nat) (p1 : Int32) (p2 : Int32) (p3 : Int32) : Int32 :=
  lp_X2_watched_18 d i p1 p2 p3 64 p1 0 0 0 0 0
noncomputable def st_X0_takeFactor_6 (d : Dt) (i : Nat) (p1 : Int32) (p2 : Int32) (p3 : Int32) (rec6 : Int32 → Dt → Dt) (x4 : Int32) (e6 : Dt) : Dt :=
  cif (x4.toInt ≤ 0) (uv (uv (uv (uv e6 10 i (ix x4) p1) 11 i (ix x4) p2) 12 i (ix x4) p3) 8 i 6 ((e6.1 8 i 6) + 1)) (cif (sp_X0_standsBehind e6 i (x4 - 1) p1 p2) (rec6 (x4 + (-1)) (uv (uv (uv e6 10 i (ix x4) (e6.1 10 i (ix (x4 - 1)))) 11 i (ix x4) (e6.1 11 i (ix (x4 - 1)))) 12 i (ix x4) (e6.1 12 i (ix (x4 - 1))))) (uv (uv (uv (uv e6 10 i (ix x4) p1) 11 i (ix x4) p2) 12 i (ix x4) p3) 8 i 6 ((e6.1 8 i 6) + 1)))
noncomputable def lp_X0_takeFactor_6 (d : Dt) (i : Nat) (p1 : Int32) (p2 : Int32) (p3 : Int32) : Nat → Int32 → Dt → Dt
  | 0 => fun _ e6 => e6
  | n + 1 => fun x4 e6 => st_X0_takeFactor_6 d i p1 p2 p3 (lp_X0_takeFactor_6 d i p1 p2 p3 n) x4 e6
noncomputable def sp_X0_takeFactor (d : Dt) (i : Nat) (p1 : Int32) (p2 : Int32) (p3 : Int32) : Dt :=
  lp_X0_takeFactor_6 d i p1 p2 p3 16 (d.1 8 i 6) d
noncomputable def sp_X2_faultAs (d : Dt) (i : Nat) (p1 : Int32) : Int32 :=
  cif ((d.1 6 i 1).toInt = 0) (1) (cif ((d.1 6 i 2).toInt = p1.toInt) (0) (2))
noncomputable def sp_X2_fillIn (d : Dt) (i : Nat) (p1 : Int32) (p2 : Int32) : Dt :=
  cif ((d.1 6 i 2).toInt = 0) (uv d 7 i (ix p1) p2.toInt8.toInt32) (cif ((d.1 6 i 2).toInt = 1) (uv d 7 i (ix p1) p2.toInt16.toInt32) (uv d 7 i (ix p1) p2))
noncomputable def sp_X1_begin (d : Dt) (p1 : Int32) (p2 : Int32) (p3 : Int32) : Dt :=
  uv (uv (uv (uv (uv d 2 0 0 1) 2 0 1 p1) 2 0 2 p2) 2 0 3 p3) 2 0 5 0
noncomputable def st_J7_fill_53178_5 (d : Dt) (t0 : Nat) (p1 : Int32) (rec5 : Int32 → Dt → Dt) (x2 : Int32) (e5 : Dt) : Dt :=
  cif (60 ≤ x2.toInt) (e5) (rec5 (x2 + 1) (uv e5 7 t0 (ix x2) p1))
noncomputable def lp_J7_fill_53178_5 (d : Dt) (t0 : Nat) (p1 : Int32) : Nat → Int32 → Dt → Dt
  | 0 => fun _ e5 => e5
  | n + 1 => fun x2 e5 => st_J7_fill_53178_5 d t0 p1 (lp_J7_fill_53178_5 d t0 p1 n) x2 e5
noncomputable def sp_J7_fill_53178 (d : Dt) (t0 : Nat) (p1 : Int32) : Dt :=
  lp_J7_fill_53178_5 d t0 p1 64 0 d
noncomputable def sp_X2_renew (d : Dt) (i : Nat) (p1 : Int32) (p2 : Int32) : Dt :=
  uv (uv (uv (sp_J7_fill_53178 d i 0) 6 i 1 1) 6 i 2 p1) 6 i 3 p2
