theorem od_st {l R S : List UInt8} {n : Nat} (t : l.drop n = R) (k : Nat) (h : R.drop k = S) : l.drop (n + k) = S := by rw [← List.drop_drop, t, h]
theorem od_at {l R : List UInt8} {n : Nat} (t : l.drop n = R) (j : Nat) {b : UInt8} (h : R[j]? = some b) : l[n + j]? = some b := by rw [← h, ← t, List.getElem?_drop]
theorem rd_u1 {ε : Type} [HasTruncated ε] {A : ByteArray} {pc : Nat} {b : UInt8} (e : A.data.toList[pc]? = some b) : (Reader.u1 : Reader ε Nat) A pc = .ok (b.toNat, pc + 1) := by
  obtain ⟨h, g⟩ := List.getElem?_eq_some_iff.mp e
  have h : pc < A.size := h
  have g : A[pc] = b := g
  have t : (Reader.u1 : Reader ε Nat) A pc = (dite (pc < A.size) (fun h => (do set (pc + 1); pure A[pc].toNat : Reader ε Nat)) (fun _ => throw (HasTruncated.truncated pc))) A pc := rfl
  rw [t, dif_pos h]
  show Except.ok (A[pc].toNat, pc + 1) = _
  rw [g]
theorem rd_u2 {ε : Type} [HasTruncated ε] {A : ByteArray} {pc : Nat} {b c : UInt8} (e : A.data.toList[pc]? = some b) (f : A.data.toList[pc + 1]? = some c) : (Reader.u2 : Reader ε Nat) A pc = .ok (b.toNat * 256 + c.toNat, pc + 1 + 1) := by
  have h1 := rd_u1 (ε := ε) e
  have h2 := rd_u1 (ε := ε) f
  unfold Reader.u2
  show ((Reader.u1 : Reader ε Nat) A pc >>= fun x => ((Reader.u1 : Reader ε Nat) A x.2 >>= fun y => Except.ok (x.1 * 256 + y.1, y.2))) = _
  rw [h1]
  show ((Reader.u1 : Reader ε Nat) A (pc + 1) >>= fun y => Except.ok (b.toNat * 256 + y.1, y.2)) = _
  rw [h2]; rfl
theorem rd_s1 {ε : Type} [HasTruncated ε] {A : ByteArray} {pc : Nat} {b : UInt8} (e : A.data.toList[pc]? = some b) : (Reader.s1 : Reader ε Int) A pc = .ok (Reader.signed 8 b.toNat, pc + 1) := by
  have h := rd_u1 (ε := ε) e
  unfold Reader.s1
  show ((Reader.u1 : Reader ε Nat) A pc >>= fun z => Except.ok (Reader.signed 8 z.1, z.2)) = _
  rw [h]; rfl
theorem rd_s2 {ε : Type} [HasTruncated ε] {A : ByteArray} {pc : Nat} {b c : UInt8} (e : A.data.toList[pc]? = some b) (f : A.data.toList[pc + 1]? = some c) : (Reader.s2 : Reader ε Int) A pc = .ok (Reader.signed 16 (b.toNat * 256 + c.toNat), pc + 1 + 1) := by
  have h := rd_u2 (ε := ε) e f
  unfold Reader.s2
  show ((Reader.u2 : Reader ε Nat) A pc >>= fun z => Except.ok (Reader.signed 16 z.1, z.2)) = _
  rw [h]; rfl
theorem od_fin {A : ByteArray} {pc n : Nat} {i : Instr} (h : (Decoder.instr pc) A pc = .ok (i, pc + n)) : decode A pc = .ok (i, n) := by
  unfold decode Reader.runAt
  show ((Decoder.instr pc) A pc >>= fun x => pure (x.1, x.2 - pc)) = _
  rw [h]
  show Except.ok (i, pc + n - pc) = _
  rw [Nat.add_sub_cancel_left]
theorem od_1 {A : ByteArray} {pc : Nat} (e : A.data.toList[pc]? = some (1 : UInt8)) : decode A pc = .ok (.aconst_null, 1) := by
  have u := rd_u1 (ε := DecodeError) e
  refine od_fin ?_
  unfold Decoder.instr
  show ((Reader.u1 : Decoder Nat) A pc >>= fun x => _) = _
  rw [u]
  rfl
theorem od_2 {A : ByteArray} {pc : Nat} (e : A.data.toList[pc]? = some (2 : UInt8)) : decode A pc = .ok (.iconst (-1), 1) := by
  have u := rd_u1 (ε := DecodeError) e
  refine od_fin ?_
  unfold Decoder.instr
  show ((Reader.u1 : Decoder Nat) A pc >>= fun x => _) = _
  rw [u]
  rfl
theorem od_3 {A : ByteArray} {pc : Nat} (e : A.data.toList[pc]? = some (3 : UInt8)) : decode A pc = .ok (.iconst 0, 1) := by
  have u := rd_u1 (ε := DecodeError) e
  refine od_fin ?_
  unfold Decoder.instr
  show ((Reader.u1 : Decoder Nat) A pc >>= fun x => _) = _
  rw [u]
  rfl
theorem od_4 {A : ByteArray} {pc : Nat} (e : A.data.toList[pc]? = some (4 : UInt8)) : decode A pc = .ok (.iconst 1, 1) := by
  have u := rd_u1 (ε := DecodeError) e
  refine od_fin ?_
  unfold Decoder.instr
  show ((Reader.u1 : Decoder Nat) A pc >>= fun x => _) = _
  rw [u]
  rfl
theorem od_5 {A : ByteArray} {pc : Nat} (e : A.data.toList[pc]? = some (5 : UInt8)) : decode A pc = .ok (.iconst 2, 1) := by
  have u := rd_u1 (ε := DecodeError) e
  refine od_fin ?_
  unfold Decoder.instr
  show ((Reader.u1 : Decoder Nat) A pc >>= fun x => _) = _
  rw [u]
  rfl
theorem od_6 {A : ByteArray} {pc : Nat} (e : A.data.toList[pc]? = some (6 : UInt8)) : decode A pc = .ok (.iconst 3, 1) := by
  have u := rd_u1 (ε := DecodeError) e
  refine od_fin ?_
  unfold Decoder.instr
  show ((Reader.u1 : Decoder Nat) A pc >>= fun x => _) = _
  rw [u]
  rfl
theorem od_7 {A : ByteArray} {pc : Nat} (e : A.data.toList[pc]? = some (7 : UInt8)) : decode A pc = .ok (.iconst 4, 1) := by
  have u := rd_u1 (ε := DecodeError) e
  refine od_fin ?_
  unfold Decoder.instr
  show ((Reader.u1 : Decoder Nat) A pc >>= fun x => _) = _
  rw [u]
  rfl
theorem od_8 {A : ByteArray} {pc : Nat} (e : A.data.toList[pc]? = some (8 : UInt8)) : decode A pc = .ok (.iconst 5, 1) := by
  have u := rd_u1 (ε := DecodeError) e
  refine od_fin ?_
  unfold Decoder.instr
  show ((Reader.u1 : Decoder Nat) A pc >>= fun x => _) = _
  rw [u]
  rfl
theorem od_9 {A : ByteArray} {pc : Nat} (e : A.data.toList[pc]? = some (9 : UInt8)) : decode A pc = .ok (.lconst 0, 1) := by
  have u := rd_u1 (ε := DecodeError) e
  refine od_fin ?_
  unfold Decoder.instr
  show ((Reader.u1 : Decoder Nat) A pc >>= fun x => _) = _
  rw [u]
  rfl
theorem od_10 {A : ByteArray} {pc : Nat} (e : A.data.toList[pc]? = some (10 : UInt8)) : decode A pc = .ok (.lconst 1, 1) := by
  have u := rd_u1 (ε := DecodeError) e
  refine od_fin ?_
  unfold Decoder.instr
  show ((Reader.u1 : Decoder Nat) A pc >>= fun x => _) = _
  rw [u]
  rfl
theorem od_16 {A : ByteArray} {pc : Nat} {x : UInt8} {v : Int} (e : A.data.toList[pc]? = some (16 : UInt8)) (f : A.data.toList[pc + 1]? = some x) (hv : (Reader.signed 8 x.toNat) = v) : decode A pc = .ok (.bipush v, 2) := by
  subst hv
  have u := rd_u1 (ε := DecodeError) e
  refine od_fin ?_
  unfold Decoder.instr
  show ((Reader.u1 : Decoder Nat) A pc >>= fun x => _) = _
  rw [u]
  have w := rd_s1 (ε := DecodeError) f
  show ((Reader.s1 : Decoder Int) A (pc + 1) >>= fun z => Except.ok ((.bipush z.1 : Instr), z.2)) = _
  rw [w]; rfl
theorem od_17 {A : ByteArray} {pc : Nat} {x y : UInt8} {v : Int} (e : A.data.toList[pc]? = some (17 : UInt8)) (f : A.data.toList[pc + 1]? = some x) (g : A.data.toList[pc + 1 + 1]? = some y) (hv : (Reader.signed 16 (x.toNat * 256 + y.toNat)) = v) : decode A pc = .ok (.sipush v, 3) := by
  subst hv
  have u := rd_u1 (ε := DecodeError) e
  refine od_fin ?_
  unfold Decoder.instr
  show ((Reader.u1 : Decoder Nat) A pc >>= fun x => _) = _
  rw [u]
  have w := rd_s2 (ε := DecodeError) f g
  show ((Reader.s2 : Decoder Int) A (pc + 1) >>= fun z => Except.ok ((.sipush z.1 : Instr), z.2)) = _
  rw [w]; rfl
theorem od_18 {A : ByteArray} {pc : Nat} {x : UInt8} {v : Nat} (e : A.data.toList[pc]? = some (18 : UInt8)) (f : A.data.toList[pc + 1]? = some x) (hv : x.toNat = v) : decode A pc = .ok (.ldc v, 2) := by
  subst hv
  have u := rd_u1 (ε := DecodeError) e
  refine od_fin ?_
  unfold Decoder.instr
  show ((Reader.u1 : Decoder Nat) A pc >>= fun x => _) = _
  rw [u]
  have w := rd_u1 (ε := DecodeError) f
  show ((Reader.u1 : Decoder Nat) A (pc + 1) >>= fun z => Except.ok ((.ldc z.1 : Instr), z.2)) = _
  rw [w]; rfl
theorem od_19 {A : ByteArray} {pc : Nat} {x y : UInt8} {v : Nat} (e : A.data.toList[pc]? = some (19 : UInt8)) (f : A.data.toList[pc + 1]? = some x) (g : A.data.toList[pc + 1 + 1]? = some y) (hv : (x.toNat * 256 + y.toNat) = v) : decode A pc = .ok (.ldc_w v, 3) := by
  subst hv
  have u := rd_u1 (ε := DecodeError) e
  refine od_fin ?_
  unfold Decoder.instr
  show ((Reader.u1 : Decoder Nat) A pc >>= fun x => _) = _
  rw [u]
  have w := rd_u2 (ε := DecodeError) f g
  show ((Reader.u2 : Decoder Nat) A (pc + 1) >>= fun z => Except.ok ((.ldc_w z.1 : Instr), z.2)) = _
  rw [w]; rfl
theorem od_20 {A : ByteArray} {pc : Nat} {x y : UInt8} {v : Nat} (e : A.data.toList[pc]? = some (20 : UInt8)) (f : A.data.toList[pc + 1]? = some x) (g : A.data.toList[pc + 1 + 1]? = some y) (hv : (x.toNat * 256 + y.toNat) = v) : decode A pc = .ok (.ldc2_w v, 3) := by
  subst hv
  have u := rd_u1 (ε := DecodeError) e
  refine od_fin ?_
  unfold Decoder.instr
  show ((Reader.u1 : Decoder Nat) A pc >>= fun x => _) = _
  rw [u]
  have w := rd_u2 (ε := DecodeError) f g
  show ((Reader.u2 : Decoder Nat) A (pc + 1) >>= fun z => Except.ok ((.ldc2_w z.1 : Instr), z.2)) = _
  rw [w]; rfl
theorem od_21 {A : ByteArray} {pc : Nat} {x : UInt8} {v : Nat} (e : A.data.toList[pc]? = some (21 : UInt8)) (f : A.data.toList[pc + 1]? = some x) (hv : x.toNat = v) : decode A pc = .ok (.iload v, 2) := by
  subst hv
  have u := rd_u1 (ε := DecodeError) e
  refine od_fin ?_
  unfold Decoder.instr
  show ((Reader.u1 : Decoder Nat) A pc >>= fun x => _) = _
  rw [u]
  have w := rd_u1 (ε := DecodeError) f
  show ((Reader.u1 : Decoder Nat) A (pc + 1) >>= fun z => Except.ok ((.iload z.1 : Instr), z.2)) = _
  rw [w]; rfl
theorem od_22 {A : ByteArray} {pc : Nat} {x : UInt8} {v : Nat} (e : A.data.toList[pc]? = some (22 : UInt8)) (f : A.data.toList[pc + 1]? = some x) (hv : x.toNat = v) : decode A pc = .ok (.lload v, 2) := by
  subst hv
  have u := rd_u1 (ε := DecodeError) e
  refine od_fin ?_
  unfold Decoder.instr
  show ((Reader.u1 : Decoder Nat) A pc >>= fun x => _) = _
  rw [u]
  have w := rd_u1 (ε := DecodeError) f
  show ((Reader.u1 : Decoder Nat) A (pc + 1) >>= fun z => Except.ok ((.lload z.1 : Instr), z.2)) = _
  rw [w]; rfl
theorem od_25 {A : ByteArray} {pc : Nat} {x : UInt8} {v : Nat} (e : A.data.toList[pc]? = some (25 : UInt8)) (f : A.data.toList[pc + 1]? = some x) (hv : x.toNat = v) : decode A pc = .ok (.aload v, 2) := by
  subst hv
  have u := rd_u1 (ε := DecodeError) e
  refine od_fin ?_
  unfold Decoder.instr
  show ((Reader.u1 : Decoder Nat) A pc >>= fun x => _) = _
  rw [u]
  have w := rd_u1 (ε := DecodeError) f
  show ((Reader.u1 : Decoder Nat) A (pc + 1) >>= fun z => Except.ok ((.aload z.1 : Instr), z.2)) = _
  rw [w]; rfl
theorem od_26 {A : ByteArray} {pc : Nat} (e : A.data.toList[pc]? = some (26 : UInt8)) : decode A pc = .ok (.iload_n 0, 1) := by
  have u := rd_u1 (ε := DecodeError) e
  refine od_fin ?_
  unfold Decoder.instr
  show ((Reader.u1 : Decoder Nat) A pc >>= fun x => _) = _
  rw [u]
  rfl
theorem od_27 {A : ByteArray} {pc : Nat} (e : A.data.toList[pc]? = some (27 : UInt8)) : decode A pc = .ok (.iload_n 1, 1) := by
  have u := rd_u1 (ε := DecodeError) e
  refine od_fin ?_
  unfold Decoder.instr
  show ((Reader.u1 : Decoder Nat) A pc >>= fun x => _) = _
  rw [u]
  rfl
theorem od_28 {A : ByteArray} {pc : Nat} (e : A.data.toList[pc]? = some (28 : UInt8)) : decode A pc = .ok (.iload_n 2, 1) := by
  have u := rd_u1 (ε := DecodeError) e
  refine od_fin ?_
  unfold Decoder.instr
  show ((Reader.u1 : Decoder Nat) A pc >>= fun x => _) = _
  rw [u]
  rfl
theorem od_29 {A : ByteArray} {pc : Nat} (e : A.data.toList[pc]? = some (29 : UInt8)) : decode A pc = .ok (.iload_n 3, 1) := by
  have u := rd_u1 (ε := DecodeError) e
  refine od_fin ?_
  unfold Decoder.instr
  show ((Reader.u1 : Decoder Nat) A pc >>= fun x => _) = _
  rw [u]
  rfl
theorem od_30 {A : ByteArray} {pc : Nat} (e : A.data.toList[pc]? = some (30 : UInt8)) : decode A pc = .ok (.lload_n 0, 1) := by
  have u := rd_u1 (ε := DecodeError) e
  refine od_fin ?_
  unfold Decoder.instr
  show ((Reader.u1 : Decoder Nat) A pc >>= fun x => _) = _
  rw [u]
  rfl
theorem od_31 {A : ByteArray} {pc : Nat} (e : A.data.toList[pc]? = some (31 : UInt8)) : decode A pc = .ok (.lload_n 1, 1) := by
  have u := rd_u1 (ε := DecodeError) e
  refine od_fin ?_
  unfold Decoder.instr
  show ((Reader.u1 : Decoder Nat) A pc >>= fun x => _) = _
  rw [u]
  rfl
theorem od_32 {A : ByteArray} {pc : Nat} (e : A.data.toList[pc]? = some (32 : UInt8)) : decode A pc = .ok (.lload_n 2, 1) := by
  have u := rd_u1 (ε := DecodeError) e
  refine od_fin ?_
  unfold Decoder.instr
  show ((Reader.u1 : Decoder Nat) A pc >>= fun x => _) = _
  rw [u]
  rfl
theorem od_33 {A : ByteArray} {pc : Nat} (e : A.data.toList[pc]? = some (33 : UInt8)) : decode A pc = .ok (.lload_n 3, 1) := by
  have u := rd_u1 (ε := DecodeError) e
  refine od_fin ?_
  unfold Decoder.instr
  show ((Reader.u1 : Decoder Nat) A pc >>= fun x => _) = _
  rw [u]
  rfl
theorem od_42 {A : ByteArray} {pc : Nat} (e : A.data.toList[pc]? = some (42 : UInt8)) : decode A pc = .ok (.aload_n 0, 1) := by
  have u := rd_u1 (ε := DecodeError) e
  refine od_fin ?_
  unfold Decoder.instr
  show ((Reader.u1 : Decoder Nat) A pc >>= fun x => _) = _
  rw [u]
  rfl
theorem od_43 {A : ByteArray} {pc : Nat} (e : A.data.toList[pc]? = some (43 : UInt8)) : decode A pc = .ok (.aload_n 1, 1) := by
  have u := rd_u1 (ε := DecodeError) e
  refine od_fin ?_
  unfold Decoder.instr
  show ((Reader.u1 : Decoder Nat) A pc >>= fun x => _) = _
  rw [u]
  rfl
theorem od_44 {A : ByteArray} {pc : Nat} (e : A.data.toList[pc]? = some (44 : UInt8)) : decode A pc = .ok (.aload_n 2, 1) := by
  have u := rd_u1 (ε := DecodeError) e
  refine od_fin ?_
  unfold Decoder.instr
  show ((Reader.u1 : Decoder Nat) A pc >>= fun x => _) = _
  rw [u]
  rfl
theorem od_45 {A : ByteArray} {pc : Nat} (e : A.data.toList[pc]? = some (45 : UInt8)) : decode A pc = .ok (.aload_n 3, 1) := by
  have u := rd_u1 (ε := DecodeError) e
  refine od_fin ?_
  unfold Decoder.instr
  show ((Reader.u1 : Decoder Nat) A pc >>= fun x => _) = _
  rw [u]
  rfl
theorem od_46 {A : ByteArray} {pc : Nat} (e : A.data.toList[pc]? = some (46 : UInt8)) : decode A pc = .ok (.iaload, 1) := by
  have u := rd_u1 (ε := DecodeError) e
  refine od_fin ?_
  unfold Decoder.instr
  show ((Reader.u1 : Decoder Nat) A pc >>= fun x => _) = _
  rw [u]
  rfl
theorem od_47 {A : ByteArray} {pc : Nat} (e : A.data.toList[pc]? = some (47 : UInt8)) : decode A pc = .ok (.laload, 1) := by
  have u := rd_u1 (ε := DecodeError) e
  refine od_fin ?_
  unfold Decoder.instr
  show ((Reader.u1 : Decoder Nat) A pc >>= fun x => _) = _
  rw [u]
  rfl
theorem od_50 {A : ByteArray} {pc : Nat} (e : A.data.toList[pc]? = some (50 : UInt8)) : decode A pc = .ok (.aaload, 1) := by
  have u := rd_u1 (ε := DecodeError) e
  refine od_fin ?_
  unfold Decoder.instr
  show ((Reader.u1 : Decoder Nat) A pc >>= fun x => _) = _
  rw [u]
  rfl
theorem od_51 {A : ByteArray} {pc : Nat} (e : A.data.toList[pc]? = some (51 : UInt8)) : decode A pc = .ok (.baload, 1) := by
  have u := rd_u1 (ε := DecodeError) e
  refine od_fin ?_
  unfold Decoder.instr
  show ((Reader.u1 : Decoder Nat) A pc >>= fun x => _) = _
  rw [u]
  rfl
theorem od_54 {A : ByteArray} {pc : Nat} {x : UInt8} {v : Nat} (e : A.data.toList[pc]? = some (54 : UInt8)) (f : A.data.toList[pc + 1]? = some x) (hv : x.toNat = v) : decode A pc = .ok (.istore v, 2) := by
  subst hv
  have u := rd_u1 (ε := DecodeError) e
  refine od_fin ?_
  unfold Decoder.instr
  show ((Reader.u1 : Decoder Nat) A pc >>= fun x => _) = _
  rw [u]
  have w := rd_u1 (ε := DecodeError) f
  show ((Reader.u1 : Decoder Nat) A (pc + 1) >>= fun z => Except.ok ((.istore z.1 : Instr), z.2)) = _
  rw [w]; rfl
theorem od_55 {A : ByteArray} {pc : Nat} {x : UInt8} {v : Nat} (e : A.data.toList[pc]? = some (55 : UInt8)) (f : A.data.toList[pc + 1]? = some x) (hv : x.toNat = v) : decode A pc = .ok (.lstore v, 2) := by
  subst hv
  have u := rd_u1 (ε := DecodeError) e
  refine od_fin ?_
  unfold Decoder.instr
  show ((Reader.u1 : Decoder Nat) A pc >>= fun x => _) = _
  rw [u]
  have w := rd_u1 (ε := DecodeError) f
  show ((Reader.u1 : Decoder Nat) A (pc + 1) >>= fun z => Except.ok ((.lstore z.1 : Instr), z.2)) = _
  rw [w]; rfl
theorem od_58 {A : ByteArray} {pc : Nat} {x : UInt8} {v : Nat} (e : A.data.toList[pc]? = some (58 : UInt8)) (f : A.data.toList[pc + 1]? = some x) (hv : x.toNat = v) : decode A pc = .ok (.astore v, 2) := by
  subst hv
  have u := rd_u1 (ε := DecodeError) e
  refine od_fin ?_
  unfold Decoder.instr
  show ((Reader.u1 : Decoder Nat) A pc >>= fun x => _) = _
  rw [u]
  have w := rd_u1 (ε := DecodeError) f
  show ((Reader.u1 : Decoder Nat) A (pc + 1) >>= fun z => Except.ok ((.astore z.1 : Instr), z.2)) = _
  rw [w]; rfl
theorem od_59 {A : ByteArray} {pc : Nat} (e : A.data.toList[pc]? = some (59 : UInt8)) : decode A pc = .ok (.istore_n 0, 1) := by
  have u := rd_u1 (ε := DecodeError) e
  refine od_fin ?_
  unfold Decoder.instr
  show ((Reader.u1 : Decoder Nat) A pc >>= fun x => _) = _
  rw [u]
  rfl
theorem od_60 {A : ByteArray} {pc : Nat} (e : A.data.toList[pc]? = some (60 : UInt8)) : decode A pc = .ok (.istore_n 1, 1) := by
  have u := rd_u1 (ε := DecodeError) e
  refine od_fin ?_
  unfold Decoder.instr
  show ((Reader.u1 : Decoder Nat) A pc >>= fun x => _) = _
  rw [u]
  rfl
theorem od_61 {A : ByteArray} {pc : Nat} (e : A.data.toList[pc]? = some (61 : UInt8)) : decode A pc = .ok (.istore_n 2, 1) := by
  have u := rd_u1 (ε := DecodeError) e
  refine od_fin ?_
  unfold Decoder.instr
  show ((Reader.u1 : Decoder Nat) A pc >>= fun x => _) = _
  rw [u]
  rfl
theorem od_62 {A : ByteArray} {pc : Nat} (e : A.data.toList[pc]? = some (62 : UInt8)) : decode A pc = .ok (.istore_n 3, 1) := by
  have u := rd_u1 (ε := DecodeError) e
  refine od_fin ?_
  unfold Decoder.instr
  show ((Reader.u1 : Decoder Nat) A pc >>= fun x => _) = _
  rw [u]
  rfl
theorem od_63 {A : ByteArray} {pc : Nat} (e : A.data.toList[pc]? = some (63 : UInt8)) : decode A pc = .ok (.lstore_n 0, 1) := by
  have u := rd_u1 (ε := DecodeError) e
  refine od_fin ?_
  unfold Decoder.instr
  show ((Reader.u1 : Decoder Nat) A pc >>= fun x => _) = _
  rw [u]
  rfl
theorem od_64 {A : ByteArray} {pc : Nat} (e : A.data.toList[pc]? = some (64 : UInt8)) : decode A pc = .ok (.lstore_n 1, 1) := by
  have u := rd_u1 (ε := DecodeError) e
  refine od_fin ?_
  unfold Decoder.instr
  show ((Reader.u1 : Decoder Nat) A pc >>= fun x => _) = _
  rw [u]
  rfl
theorem od_65 {A : ByteArray} {pc : Nat} (e : A.data.toList[pc]? = some (65 : UInt8)) : decode A pc = .ok (.lstore_n 2, 1) := by
  have u := rd_u1 (ε := DecodeError) e
  refine od_fin ?_
  unfold Decoder.instr
  show ((Reader.u1 : Decoder Nat) A pc >>= fun x => _) = _
  rw [u]
  rfl
theorem od_66 {A : ByteArray} {pc : Nat} (e : A.data.toList[pc]? = some (66 : UInt8)) : decode A pc = .ok (.lstore_n 3, 1) := by
  have u := rd_u1 (ε := DecodeError) e
  refine od_fin ?_
  unfold Decoder.instr
  show ((Reader.u1 : Decoder Nat) A pc >>= fun x => _) = _
  rw [u]
  rfl
theorem od_75 {A : ByteArray} {pc : Nat} (e : A.data.toList[pc]? = some (75 : UInt8)) : decode A pc = .ok (.astore_n 0, 1) := by
  have u := rd_u1 (ε := DecodeError) e
  refine od_fin ?_
  unfold Decoder.instr
  show ((Reader.u1 : Decoder Nat) A pc >>= fun x => _) = _
  rw [u]
  rfl
theorem od_76 {A : ByteArray} {pc : Nat} (e : A.data.toList[pc]? = some (76 : UInt8)) : decode A pc = .ok (.astore_n 1, 1) := by
  have u := rd_u1 (ε := DecodeError) e
  refine od_fin ?_
  unfold Decoder.instr
  show ((Reader.u1 : Decoder Nat) A pc >>= fun x => _) = _
  rw [u]
  rfl
theorem od_77 {A : ByteArray} {pc : Nat} (e : A.data.toList[pc]? = some (77 : UInt8)) : decode A pc = .ok (.astore_n 2, 1) := by
  have u := rd_u1 (ε := DecodeError) e
  refine od_fin ?_
  unfold Decoder.instr
  show ((Reader.u1 : Decoder Nat) A pc >>= fun x => _) = _
  rw [u]
  rfl
theorem od_78 {A : ByteArray} {pc : Nat} (e : A.data.toList[pc]? = some (78 : UInt8)) : decode A pc = .ok (.astore_n 3, 1) := by
  have u := rd_u1 (ε := DecodeError) e
  refine od_fin ?_
  unfold Decoder.instr
  show ((Reader.u1 : Decoder Nat) A pc >>= fun x => _) = _
  rw [u]
  rfl
theorem od_79 {A : ByteArray} {pc : Nat} (e : A.data.toList[pc]? = some (79 : UInt8)) : decode A pc = .ok (.iastore, 1) := by
  have u := rd_u1 (ε := DecodeError) e
  refine od_fin ?_
  unfold Decoder.instr
  show ((Reader.u1 : Decoder Nat) A pc >>= fun x => _) = _
  rw [u]
  rfl
theorem od_80 {A : ByteArray} {pc : Nat} (e : A.data.toList[pc]? = some (80 : UInt8)) : decode A pc = .ok (.lastore, 1) := by
  have u := rd_u1 (ε := DecodeError) e
  refine od_fin ?_
  unfold Decoder.instr
  show ((Reader.u1 : Decoder Nat) A pc >>= fun x => _) = _
  rw [u]
  rfl
theorem od_83 {A : ByteArray} {pc : Nat} (e : A.data.toList[pc]? = some (83 : UInt8)) : decode A pc = .ok (.aastore, 1) := by
  have u := rd_u1 (ε := DecodeError) e
  refine od_fin ?_
  unfold Decoder.instr
  show ((Reader.u1 : Decoder Nat) A pc >>= fun x => _) = _
  rw [u]
  rfl
theorem od_84 {A : ByteArray} {pc : Nat} (e : A.data.toList[pc]? = some (84 : UInt8)) : decode A pc = .ok (.bastore, 1) := by
  have u := rd_u1 (ε := DecodeError) e
  refine od_fin ?_
  unfold Decoder.instr
  show ((Reader.u1 : Decoder Nat) A pc >>= fun x => _) = _
  rw [u]
  rfl
theorem od_87 {A : ByteArray} {pc : Nat} (e : A.data.toList[pc]? = some (87 : UInt8)) : decode A pc = .ok (.pop, 1) := by
  have u := rd_u1 (ε := DecodeError) e
  refine od_fin ?_
  unfold Decoder.instr
  show ((Reader.u1 : Decoder Nat) A pc >>= fun x => _) = _
  rw [u]
  rfl
theorem od_88 {A : ByteArray} {pc : Nat} (e : A.data.toList[pc]? = some (88 : UInt8)) : decode A pc = .ok (.pop2, 1) := by
  have u := rd_u1 (ε := DecodeError) e
  refine od_fin ?_
  unfold Decoder.instr
  show ((Reader.u1 : Decoder Nat) A pc >>= fun x => _) = _
  rw [u]
  rfl
theorem od_89 {A : ByteArray} {pc : Nat} (e : A.data.toList[pc]? = some (89 : UInt8)) : decode A pc = .ok (.dup, 1) := by
  have u := rd_u1 (ε := DecodeError) e
  refine od_fin ?_
  unfold Decoder.instr
  show ((Reader.u1 : Decoder Nat) A pc >>= fun x => _) = _
  rw [u]
  rfl
theorem od_90 {A : ByteArray} {pc : Nat} (e : A.data.toList[pc]? = some (90 : UInt8)) : decode A pc = .ok (.dup_x1, 1) := by
  have u := rd_u1 (ε := DecodeError) e
  refine od_fin ?_
  unfold Decoder.instr
  show ((Reader.u1 : Decoder Nat) A pc >>= fun x => _) = _
  rw [u]
  rfl
theorem od_91 {A : ByteArray} {pc : Nat} (e : A.data.toList[pc]? = some (91 : UInt8)) : decode A pc = .ok (.dup_x2, 1) := by
  have u := rd_u1 (ε := DecodeError) e
  refine od_fin ?_
  unfold Decoder.instr
  show ((Reader.u1 : Decoder Nat) A pc >>= fun x => _) = _
  rw [u]
  rfl
theorem od_92 {A : ByteArray} {pc : Nat} (e : A.data.toList[pc]? = some (92 : UInt8)) : decode A pc = .ok (.dup2, 1) := by
  have u := rd_u1 (ε := DecodeError) e
  refine od_fin ?_
  unfold Decoder.instr
  show ((Reader.u1 : Decoder Nat) A pc >>= fun x => _) = _
  rw [u]
  rfl
theorem od_93 {A : ByteArray} {pc : Nat} (e : A.data.toList[pc]? = some (93 : UInt8)) : decode A pc = .ok (.dup2_x1, 1) := by
  have u := rd_u1 (ε := DecodeError) e
  refine od_fin ?_
  unfold Decoder.instr
  show ((Reader.u1 : Decoder Nat) A pc >>= fun x => _) = _
  rw [u]
  rfl
theorem od_94 {A : ByteArray} {pc : Nat} (e : A.data.toList[pc]? = some (94 : UInt8)) : decode A pc = .ok (.dup2_x2, 1) := by
  have u := rd_u1 (ε := DecodeError) e
  refine od_fin ?_
  unfold Decoder.instr
  show ((Reader.u1 : Decoder Nat) A pc >>= fun x => _) = _
  rw [u]
  rfl
theorem od_95 {A : ByteArray} {pc : Nat} (e : A.data.toList[pc]? = some (95 : UInt8)) : decode A pc = .ok (.swap, 1) := by
  have u := rd_u1 (ε := DecodeError) e
  refine od_fin ?_
  unfold Decoder.instr
  show ((Reader.u1 : Decoder Nat) A pc >>= fun x => _) = _
  rw [u]
  rfl
theorem od_96 {A : ByteArray} {pc : Nat} (e : A.data.toList[pc]? = some (96 : UInt8)) : decode A pc = .ok (.iadd, 1) := by
  have u := rd_u1 (ε := DecodeError) e
  refine od_fin ?_
  unfold Decoder.instr
  show ((Reader.u1 : Decoder Nat) A pc >>= fun x => _) = _
  rw [u]
  rfl
theorem od_97 {A : ByteArray} {pc : Nat} (e : A.data.toList[pc]? = some (97 : UInt8)) : decode A pc = .ok (.ladd, 1) := by
  have u := rd_u1 (ε := DecodeError) e
  refine od_fin ?_
  unfold Decoder.instr
  show ((Reader.u1 : Decoder Nat) A pc >>= fun x => _) = _
  rw [u]
  rfl
theorem od_100 {A : ByteArray} {pc : Nat} (e : A.data.toList[pc]? = some (100 : UInt8)) : decode A pc = .ok (.isub, 1) := by
  have u := rd_u1 (ε := DecodeError) e
  refine od_fin ?_
  unfold Decoder.instr
  show ((Reader.u1 : Decoder Nat) A pc >>= fun x => _) = _
  rw [u]
  rfl
theorem od_101 {A : ByteArray} {pc : Nat} (e : A.data.toList[pc]? = some (101 : UInt8)) : decode A pc = .ok (.lsub, 1) := by
  have u := rd_u1 (ε := DecodeError) e
  refine od_fin ?_
  unfold Decoder.instr
  show ((Reader.u1 : Decoder Nat) A pc >>= fun x => _) = _
  rw [u]
  rfl
theorem od_104 {A : ByteArray} {pc : Nat} (e : A.data.toList[pc]? = some (104 : UInt8)) : decode A pc = .ok (.imul, 1) := by
  have u := rd_u1 (ε := DecodeError) e
  refine od_fin ?_
  unfold Decoder.instr
  show ((Reader.u1 : Decoder Nat) A pc >>= fun x => _) = _
  rw [u]
  rfl
theorem od_105 {A : ByteArray} {pc : Nat} (e : A.data.toList[pc]? = some (105 : UInt8)) : decode A pc = .ok (.lmul, 1) := by
  have u := rd_u1 (ε := DecodeError) e
  refine od_fin ?_
  unfold Decoder.instr
  show ((Reader.u1 : Decoder Nat) A pc >>= fun x => _) = _
  rw [u]
  rfl
theorem od_108 {A : ByteArray} {pc : Nat} (e : A.data.toList[pc]? = some (108 : UInt8)) : decode A pc = .ok (.idiv, 1) := by
  have u := rd_u1 (ε := DecodeError) e
  refine od_fin ?_
  unfold Decoder.instr
  show ((Reader.u1 : Decoder Nat) A pc >>= fun x => _) = _
  rw [u]
  rfl
theorem od_109 {A : ByteArray} {pc : Nat} (e : A.data.toList[pc]? = some (109 : UInt8)) : decode A pc = .ok (.ldiv, 1) := by
  have u := rd_u1 (ε := DecodeError) e
  refine od_fin ?_
  unfold Decoder.instr
  show ((Reader.u1 : Decoder Nat) A pc >>= fun x => _) = _
  rw [u]
  rfl
theorem od_112 {A : ByteArray} {pc : Nat} (e : A.data.toList[pc]? = some (112 : UInt8)) : decode A pc = .ok (.irem, 1) := by
  have u := rd_u1 (ε := DecodeError) e
  refine od_fin ?_
  unfold Decoder.instr
  show ((Reader.u1 : Decoder Nat) A pc >>= fun x => _) = _
  rw [u]
  rfl
theorem od_113 {A : ByteArray} {pc : Nat} (e : A.data.toList[pc]? = some (113 : UInt8)) : decode A pc = .ok (.lrem, 1) := by
  have u := rd_u1 (ε := DecodeError) e
  refine od_fin ?_
  unfold Decoder.instr
  show ((Reader.u1 : Decoder Nat) A pc >>= fun x => _) = _
  rw [u]
  rfl
theorem od_116 {A : ByteArray} {pc : Nat} (e : A.data.toList[pc]? = some (116 : UInt8)) : decode A pc = .ok (.ineg, 1) := by
  have u := rd_u1 (ε := DecodeError) e
  refine od_fin ?_
  unfold Decoder.instr
  show ((Reader.u1 : Decoder Nat) A pc >>= fun x => _) = _
  rw [u]
  rfl
theorem od_117 {A : ByteArray} {pc : Nat} (e : A.data.toList[pc]? = some (117 : UInt8)) : decode A pc = .ok (.lneg, 1) := by
  have u := rd_u1 (ε := DecodeError) e
  refine od_fin ?_
  unfold Decoder.instr
  show ((Reader.u1 : Decoder Nat) A pc >>= fun x => _) = _
  rw [u]
  rfl
theorem od_120 {A : ByteArray} {pc : Nat} (e : A.data.toList[pc]? = some (120 : UInt8)) : decode A pc = .ok (.ishl, 1) := by
  have u := rd_u1 (ε := DecodeError) e
  refine od_fin ?_
  unfold Decoder.instr
  show ((Reader.u1 : Decoder Nat) A pc >>= fun x => _) = _
  rw [u]
  rfl
theorem od_121 {A : ByteArray} {pc : Nat} (e : A.data.toList[pc]? = some (121 : UInt8)) : decode A pc = .ok (.lshl, 1) := by
  have u := rd_u1 (ε := DecodeError) e
  refine od_fin ?_
  unfold Decoder.instr
  show ((Reader.u1 : Decoder Nat) A pc >>= fun x => _) = _
  rw [u]
  rfl
theorem od_122 {A : ByteArray} {pc : Nat} (e : A.data.toList[pc]? = some (122 : UInt8)) : decode A pc = .ok (.ishr, 1) := by
  have u := rd_u1 (ε := DecodeError) e
  refine od_fin ?_
  unfold Decoder.instr
  show ((Reader.u1 : Decoder Nat) A pc >>= fun x => _) = _
  rw [u]
  rfl
theorem od_123 {A : ByteArray} {pc : Nat} (e : A.data.toList[pc]? = some (123 : UInt8)) : decode A pc = .ok (.lshr, 1) := by
  have u := rd_u1 (ε := DecodeError) e
  refine od_fin ?_
  unfold Decoder.instr
  show ((Reader.u1 : Decoder Nat) A pc >>= fun x => _) = _
  rw [u]
  rfl
theorem od_124 {A : ByteArray} {pc : Nat} (e : A.data.toList[pc]? = some (124 : UInt8)) : decode A pc = .ok (.iushr, 1) := by
  have u := rd_u1 (ε := DecodeError) e
  refine od_fin ?_
  unfold Decoder.instr
  show ((Reader.u1 : Decoder Nat) A pc >>= fun x => _) = _
  rw [u]
  rfl
theorem od_125 {A : ByteArray} {pc : Nat} (e : A.data.toList[pc]? = some (125 : UInt8)) : decode A pc = .ok (.lushr, 1) := by
  have u := rd_u1 (ε := DecodeError) e
  refine od_fin ?_
  unfold Decoder.instr
  show ((Reader.u1 : Decoder Nat) A pc >>= fun x => _) = _
  rw [u]
  rfl
theorem od_126 {A : ByteArray} {pc : Nat} (e : A.data.toList[pc]? = some (126 : UInt8)) : decode A pc = .ok (.iand, 1) := by
  have u := rd_u1 (ε := DecodeError) e
  refine od_fin ?_
  unfold Decoder.instr
  show ((Reader.u1 : Decoder Nat) A pc >>= fun x => _) = _
  rw [u]
  rfl
theorem od_127 {A : ByteArray} {pc : Nat} (e : A.data.toList[pc]? = some (127 : UInt8)) : decode A pc = .ok (.land, 1) := by
  have u := rd_u1 (ε := DecodeError) e
  refine od_fin ?_
  unfold Decoder.instr
  show ((Reader.u1 : Decoder Nat) A pc >>= fun x => _) = _
  rw [u]
  rfl
theorem od_128 {A : ByteArray} {pc : Nat} (e : A.data.toList[pc]? = some (128 : UInt8)) : decode A pc = .ok (.ior, 1) := by
  have u := rd_u1 (ε := DecodeError) e
  refine od_fin ?_
  unfold Decoder.instr
  show ((Reader.u1 : Decoder Nat) A pc >>= fun x => _) = _
  rw [u]
  rfl
theorem od_129 {A : ByteArray} {pc : Nat} (e : A.data.toList[pc]? = some (129 : UInt8)) : decode A pc = .ok (.lor, 1) := by
  have u := rd_u1 (ε := DecodeError) e
  refine od_fin ?_
  unfold Decoder.instr
  show ((Reader.u1 : Decoder Nat) A pc >>= fun x => _) = _
  rw [u]
  rfl
theorem od_130 {A : ByteArray} {pc : Nat} (e : A.data.toList[pc]? = some (130 : UInt8)) : decode A pc = .ok (.ixor, 1) := by
  have u := rd_u1 (ε := DecodeError) e
  refine od_fin ?_
  unfold Decoder.instr
  show ((Reader.u1 : Decoder Nat) A pc >>= fun x => _) = _
  rw [u]
  rfl
theorem od_131 {A : ByteArray} {pc : Nat} (e : A.data.toList[pc]? = some (131 : UInt8)) : decode A pc = .ok (.lxor, 1) := by
  have u := rd_u1 (ε := DecodeError) e
  refine od_fin ?_
  unfold Decoder.instr
  show ((Reader.u1 : Decoder Nat) A pc >>= fun x => _) = _
  rw [u]
  rfl
theorem od_132 {A : ByteArray} {pc : Nat} {x y : UInt8} {v : Nat} {w : Int} (e : A.data.toList[pc]? = some (132 : UInt8)) (f : A.data.toList[pc + 1]? = some x) (g : A.data.toList[pc + 1 + 1]? = some y) (hv : x.toNat = v) (hw : (Reader.signed 8 y.toNat) = w) : decode A pc = .ok (.iinc v w, 3) := by
  subst hv; subst hw
  have u := rd_u1 (ε := DecodeError) e
  refine od_fin ?_
  unfold Decoder.instr
  show ((Reader.u1 : Decoder Nat) A pc >>= fun x => _) = _
  rw [u]
  have w1 := rd_u1 (ε := DecodeError) f
  have w2 := rd_s1 (ε := DecodeError) g
  show ((Reader.u1 : Decoder Nat) A (pc + 1) >>= fun z => ((Reader.s1 : Decoder Int) A z.2 >>= fun t => Except.ok ((Instr.iinc z.1 t.1 : Instr), t.2))) = _
  rw [w1]
  show ((Reader.s1 : Decoder Int) A (pc + 1 + 1) >>= fun t => Except.ok ((Instr.iinc x.toNat t.1 : Instr), t.2)) = _
  rw [w2]; rfl
theorem od_133 {A : ByteArray} {pc : Nat} (e : A.data.toList[pc]? = some (133 : UInt8)) : decode A pc = .ok (.i2l, 1) := by
  have u := rd_u1 (ε := DecodeError) e
  refine od_fin ?_
  unfold Decoder.instr
  show ((Reader.u1 : Decoder Nat) A pc >>= fun x => _) = _
  rw [u]
  rfl
theorem od_136 {A : ByteArray} {pc : Nat} (e : A.data.toList[pc]? = some (136 : UInt8)) : decode A pc = .ok (.l2i, 1) := by
  have u := rd_u1 (ε := DecodeError) e
  refine od_fin ?_
  unfold Decoder.instr
  show ((Reader.u1 : Decoder Nat) A pc >>= fun x => _) = _
  rw [u]
  rfl
theorem od_145 {A : ByteArray} {pc : Nat} (e : A.data.toList[pc]? = some (145 : UInt8)) : decode A pc = .ok (.i2b, 1) := by
  have u := rd_u1 (ε := DecodeError) e
  refine od_fin ?_
  unfold Decoder.instr
  show ((Reader.u1 : Decoder Nat) A pc >>= fun x => _) = _
  rw [u]
  rfl
theorem od_146 {A : ByteArray} {pc : Nat} (e : A.data.toList[pc]? = some (146 : UInt8)) : decode A pc = .ok (.i2c, 1) := by
  have u := rd_u1 (ε := DecodeError) e
  refine od_fin ?_
  unfold Decoder.instr
  show ((Reader.u1 : Decoder Nat) A pc >>= fun x => _) = _
  rw [u]
  rfl
theorem od_147 {A : ByteArray} {pc : Nat} (e : A.data.toList[pc]? = some (147 : UInt8)) : decode A pc = .ok (.i2s, 1) := by
  have u := rd_u1 (ε := DecodeError) e
  refine od_fin ?_
  unfold Decoder.instr
  show ((Reader.u1 : Decoder Nat) A pc >>= fun x => _) = _
  rw [u]
  rfl
theorem od_148 {A : ByteArray} {pc : Nat} (e : A.data.toList[pc]? = some (148 : UInt8)) : decode A pc = .ok (.lcmp, 1) := by
  have u := rd_u1 (ε := DecodeError) e
  refine od_fin ?_
  unfold Decoder.instr
  show ((Reader.u1 : Decoder Nat) A pc >>= fun x => _) = _
  rw [u]
  rfl
theorem od_153 {A : ByteArray} {pc : Nat} {x y : UInt8} {v : Int} (e : A.data.toList[pc]? = some (153 : UInt8)) (f : A.data.toList[pc + 1]? = some x) (g : A.data.toList[pc + 1 + 1]? = some y) (hv : (Reader.signed 16 (x.toNat * 256 + y.toNat)) = v) : decode A pc = .ok (.ifCond .eq v, 3) := by
  subst hv
  have u := rd_u1 (ε := DecodeError) e
  refine od_fin ?_
  unfold Decoder.instr
  show ((Reader.u1 : Decoder Nat) A pc >>= fun x => _) = _
  rw [u]
  have w := rd_s2 (ε := DecodeError) f g
  show ((Reader.s2 : Decoder Int) A (pc + 1) >>= fun z => Except.ok ((.ifCond .eq z.1 : Instr), z.2)) = _
  rw [w]; rfl
theorem od_154 {A : ByteArray} {pc : Nat} {x y : UInt8} {v : Int} (e : A.data.toList[pc]? = some (154 : UInt8)) (f : A.data.toList[pc + 1]? = some x) (g : A.data.toList[pc + 1 + 1]? = some y) (hv : (Reader.signed 16 (x.toNat * 256 + y.toNat)) = v) : decode A pc = .ok (.ifCond .ne v, 3) := by
  subst hv
  have u := rd_u1 (ε := DecodeError) e
  refine od_fin ?_
  unfold Decoder.instr
  show ((Reader.u1 : Decoder Nat) A pc >>= fun x => _) = _
  rw [u]
  have w := rd_s2 (ε := DecodeError) f g
  show ((Reader.s2 : Decoder Int) A (pc + 1) >>= fun z => Except.ok ((.ifCond .ne z.1 : Instr), z.2)) = _
  rw [w]; rfl
theorem od_155 {A : ByteArray} {pc : Nat} {x y : UInt8} {v : Int} (e : A.data.toList[pc]? = some (155 : UInt8)) (f : A.data.toList[pc + 1]? = some x) (g : A.data.toList[pc + 1 + 1]? = some y) (hv : (Reader.signed 16 (x.toNat * 256 + y.toNat)) = v) : decode A pc = .ok (.ifCond .lt v, 3) := by
  subst hv
  have u := rd_u1 (ε := DecodeError) e
  refine od_fin ?_
  unfold Decoder.instr
  show ((Reader.u1 : Decoder Nat) A pc >>= fun x => _) = _
  rw [u]
  have w := rd_s2 (ε := DecodeError) f g
  show ((Reader.s2 : Decoder Int) A (pc + 1) >>= fun z => Except.ok ((.ifCond .lt z.1 : Instr), z.2)) = _
  rw [w]; rfl
theorem od_156 {A : ByteArray} {pc : Nat} {x y : UInt8} {v : Int} (e : A.data.toList[pc]? = some (156 : UInt8)) (f : A.data.toList[pc + 1]? = some x) (g : A.data.toList[pc + 1 + 1]? = some y) (hv : (Reader.signed 16 (x.toNat * 256 + y.toNat)) = v) : decode A pc = .ok (.ifCond .ge v, 3) := by
  subst hv
  have u := rd_u1 (ε := DecodeError) e
  refine od_fin ?_
  unfold Decoder.instr
  show ((Reader.u1 : Decoder Nat) A pc >>= fun x => _) = _
  rw [u]
  have w := rd_s2 (ε := DecodeError) f g
  show ((Reader.s2 : Decoder Int) A (pc + 1) >>= fun z => Except.ok ((.ifCond .ge z.1 : Instr), z.2)) = _
  rw [w]; rfl
theorem od_157 {A : ByteArray} {pc : Nat} {x y : UInt8} {v : Int} (e : A.data.toList[pc]? = some (157 : UInt8)) (f : A.data.toList[pc + 1]? = some x) (g : A.data.toList[pc + 1 + 1]? = some y) (hv : (Reader.signed 16 (x.toNat * 256 + y.toNat)) = v) : decode A pc = .ok (.ifCond .gt v, 3) := by
  subst hv
  have u := rd_u1 (ε := DecodeError) e
  refine od_fin ?_
  unfold Decoder.instr
  show ((Reader.u1 : Decoder Nat) A pc >>= fun x => _) = _
  rw [u]
  have w := rd_s2 (ε := DecodeError) f g
  show ((Reader.s2 : Decoder Int) A (pc + 1) >>= fun z => Except.ok ((.ifCond .gt z.1 : Instr), z.2)) = _
  rw [w]; rfl
theorem od_158 {A : ByteArray} {pc : Nat} {x y : UInt8} {v : Int} (e : A.data.toList[pc]? = some (158 : UInt8)) (f : A.data.toList[pc + 1]? = some x) (g : A.data.toList[pc + 1 + 1]? = some y) (hv : (Reader.signed 16 (x.toNat * 256 + y.toNat)) = v) : decode A pc = .ok (.ifCond .le v, 3) := by
  subst hv
  have u := rd_u1 (ε := DecodeError) e
  refine od_fin ?_
  unfold Decoder.instr
  show ((Reader.u1 : Decoder Nat) A pc >>= fun x => _) = _
  rw [u]
  have w := rd_s2 (ε := DecodeError) f g
  show ((Reader.s2 : Decoder Int) A (pc + 1) >>= fun z => Except.ok ((.ifCond .le z.1 : Instr), z.2)) = _
  rw [w]; rfl
theorem od_159 {A : ByteArray} {pc : Nat} {x y : UInt8} {v : Int} (e : A.data.toList[pc]? = some (159 : UInt8)) (f : A.data.toList[pc + 1]? = some x) (g : A.data.toList[pc + 1 + 1]? = some y) (hv : (Reader.signed 16 (x.toNat * 256 + y.toNat)) = v) : decode A pc = .ok (.if_icmp .eq v, 3) := by
  subst hv
  have u := rd_u1 (ε := DecodeError) e
  refine od_fin ?_
  unfold Decoder.instr
  show ((Reader.u1 : Decoder Nat) A pc >>= fun x => _) = _
  rw [u]
  have w := rd_s2 (ε := DecodeError) f g
  show ((Reader.s2 : Decoder Int) A (pc + 1) >>= fun z => Except.ok ((.if_icmp .eq z.1 : Instr), z.2)) = _
  rw [w]; rfl
theorem od_160 {A : ByteArray} {pc : Nat} {x y : UInt8} {v : Int} (e : A.data.toList[pc]? = some (160 : UInt8)) (f : A.data.toList[pc + 1]? = some x) (g : A.data.toList[pc + 1 + 1]? = some y) (hv : (Reader.signed 16 (x.toNat * 256 + y.toNat)) = v) : decode A pc = .ok (.if_icmp .ne v, 3) := by
  subst hv
  have u := rd_u1 (ε := DecodeError) e
  refine od_fin ?_
  unfold Decoder.instr
  show ((Reader.u1 : Decoder Nat) A pc >>= fun x => _) = _
  rw [u]
  have w := rd_s2 (ε := DecodeError) f g
  show ((Reader.s2 : Decoder Int) A (pc + 1) >>= fun z => Except.ok ((.if_icmp .ne z.1 : Instr), z.2)) = _
  rw [w]; rfl
theorem od_161 {A : ByteArray} {pc : Nat} {x y : UInt8} {v : Int} (e : A.data.toList[pc]? = some (161 : UInt8)) (f : A.data.toList[pc + 1]? = some x) (g : A.data.toList[pc + 1 + 1]? = some y) (hv : (Reader.signed 16 (x.toNat * 256 + y.toNat)) = v) : decode A pc = .ok (.if_icmp .lt v, 3) := by
  subst hv
  have u := rd_u1 (ε := DecodeError) e
  refine od_fin ?_
  unfold Decoder.instr
  show ((Reader.u1 : Decoder Nat) A pc >>= fun x => _) = _
  rw [u]
  have w := rd_s2 (ε := DecodeError) f g
  show ((Reader.s2 : Decoder Int) A (pc + 1) >>= fun z => Except.ok ((.if_icmp .lt z.1 : Instr), z.2)) = _
  rw [w]; rfl
theorem od_162 {A : ByteArray} {pc : Nat} {x y : UInt8} {v : Int} (e : A.data.toList[pc]? = some (162 : UInt8)) (f : A.data.toList[pc + 1]? = some x) (g : A.data.toList[pc + 1 + 1]? = some y) (hv : (Reader.signed 16 (x.toNat * 256 + y.toNat)) = v) : decode A pc = .ok (.if_icmp .ge v, 3) := by
  subst hv
  have u := rd_u1 (ε := DecodeError) e
  refine od_fin ?_
  unfold Decoder.instr
  show ((Reader.u1 : Decoder Nat) A pc >>= fun x => _) = _
  rw [u]
  have w := rd_s2 (ε := DecodeError) f g
  show ((Reader.s2 : Decoder Int) A (pc + 1) >>= fun z => Except.ok ((.if_icmp .ge z.1 : Instr), z.2)) = _
  rw [w]; rfl
theorem od_163 {A : ByteArray} {pc : Nat} {x y : UInt8} {v : Int} (e : A.data.toList[pc]? = some (163 : UInt8)) (f : A.data.toList[pc + 1]? = some x) (g : A.data.toList[pc + 1 + 1]? = some y) (hv : (Reader.signed 16 (x.toNat * 256 + y.toNat)) = v) : decode A pc = .ok (.if_icmp .gt v, 3) := by
  subst hv
  have u := rd_u1 (ε := DecodeError) e
  refine od_fin ?_
  unfold Decoder.instr
  show ((Reader.u1 : Decoder Nat) A pc >>= fun x => _) = _
  rw [u]
  have w := rd_s2 (ε := DecodeError) f g
  show ((Reader.s2 : Decoder Int) A (pc + 1) >>= fun z => Except.ok ((.if_icmp .gt z.1 : Instr), z.2)) = _
  rw [w]; rfl
theorem od_164 {A : ByteArray} {pc : Nat} {x y : UInt8} {v : Int} (e : A.data.toList[pc]? = some (164 : UInt8)) (f : A.data.toList[pc + 1]? = some x) (g : A.data.toList[pc + 1 + 1]? = some y) (hv : (Reader.signed 16 (x.toNat * 256 + y.toNat)) = v) : decode A pc = .ok (.if_icmp .le v, 3) := by
  subst hv
  have u := rd_u1 (ε := DecodeError) e
  refine od_fin ?_
  unfold Decoder.instr
  show ((Reader.u1 : Decoder Nat) A pc >>= fun x => _) = _
  rw [u]
  have w := rd_s2 (ε := DecodeError) f g
  show ((Reader.s2 : Decoder Int) A (pc + 1) >>= fun z => Except.ok ((.if_icmp .le z.1 : Instr), z.2)) = _
  rw [w]; rfl
theorem od_167 {A : ByteArray} {pc : Nat} {x y : UInt8} {v : Int} (e : A.data.toList[pc]? = some (167 : UInt8)) (f : A.data.toList[pc + 1]? = some x) (g : A.data.toList[pc + 1 + 1]? = some y) (hv : (Reader.signed 16 (x.toNat * 256 + y.toNat)) = v) : decode A pc = .ok (.goto v, 3) := by
  subst hv
  have u := rd_u1 (ε := DecodeError) e
  refine od_fin ?_
  unfold Decoder.instr
  show ((Reader.u1 : Decoder Nat) A pc >>= fun x => _) = _
  rw [u]
  have w := rd_s2 (ε := DecodeError) f g
  show ((Reader.s2 : Decoder Int) A (pc + 1) >>= fun z => Except.ok ((.goto z.1 : Instr), z.2)) = _
  rw [w]; rfl
theorem od_172 {A : ByteArray} {pc : Nat} (e : A.data.toList[pc]? = some (172 : UInt8)) : decode A pc = .ok (.ireturn, 1) := by
  have u := rd_u1 (ε := DecodeError) e
  refine od_fin ?_
  unfold Decoder.instr
  show ((Reader.u1 : Decoder Nat) A pc >>= fun x => _) = _
  rw [u]
  rfl
theorem od_173 {A : ByteArray} {pc : Nat} (e : A.data.toList[pc]? = some (173 : UInt8)) : decode A pc = .ok (.lreturn, 1) := by
  have u := rd_u1 (ε := DecodeError) e
  refine od_fin ?_
  unfold Decoder.instr
  show ((Reader.u1 : Decoder Nat) A pc >>= fun x => _) = _
  rw [u]
  rfl
theorem od_176 {A : ByteArray} {pc : Nat} (e : A.data.toList[pc]? = some (176 : UInt8)) : decode A pc = .ok (.areturn, 1) := by
  have u := rd_u1 (ε := DecodeError) e
  refine od_fin ?_
  unfold Decoder.instr
  show ((Reader.u1 : Decoder Nat) A pc >>= fun x => _) = _
  rw [u]
  rfl
theorem od_177 {A : ByteArray} {pc : Nat} (e : A.data.toList[pc]? = some (177 : UInt8)) : decode A pc = .ok (.return_, 1) := by
  have u := rd_u1 (ε := DecodeError) e
  refine od_fin ?_
  unfold Decoder.instr
  show ((Reader.u1 : Decoder Nat) A pc >>= fun x => _) = _
  rw [u]
  rfl
theorem od_178 {A : ByteArray} {pc : Nat} {x y : UInt8} {v : Nat} (e : A.data.toList[pc]? = some (178 : UInt8)) (f : A.data.toList[pc + 1]? = some x) (g : A.data.toList[pc + 1 + 1]? = some y) (hv : (x.toNat * 256 + y.toNat) = v) : decode A pc = .ok (.getstatic v, 3) := by
  subst hv
  have u := rd_u1 (ε := DecodeError) e
  refine od_fin ?_
  unfold Decoder.instr
  show ((Reader.u1 : Decoder Nat) A pc >>= fun x => _) = _
  rw [u]
  have w := rd_u2 (ε := DecodeError) f g
  show ((Reader.u2 : Decoder Nat) A (pc + 1) >>= fun z => Except.ok ((.getstatic z.1 : Instr), z.2)) = _
  rw [w]; rfl
theorem od_179 {A : ByteArray} {pc : Nat} {x y : UInt8} {v : Nat} (e : A.data.toList[pc]? = some (179 : UInt8)) (f : A.data.toList[pc + 1]? = some x) (g : A.data.toList[pc + 1 + 1]? = some y) (hv : (x.toNat * 256 + y.toNat) = v) : decode A pc = .ok (.putstatic v, 3) := by
  subst hv
  have u := rd_u1 (ε := DecodeError) e
  refine od_fin ?_
  unfold Decoder.instr
  show ((Reader.u1 : Decoder Nat) A pc >>= fun x => _) = _
  rw [u]
  have w := rd_u2 (ε := DecodeError) f g
  show ((Reader.u2 : Decoder Nat) A (pc + 1) >>= fun z => Except.ok ((.putstatic z.1 : Instr), z.2)) = _
  rw [w]; rfl
theorem od_180 {A : ByteArray} {pc : Nat} {x y : UInt8} {v : Nat} (e : A.data.toList[pc]? = some (180 : UInt8)) (f : A.data.toList[pc + 1]? = some x) (g : A.data.toList[pc + 1 + 1]? = some y) (hv : (x.toNat * 256 + y.toNat) = v) : decode A pc = .ok (.getfield v, 3) := by
  subst hv
  have u := rd_u1 (ε := DecodeError) e
  refine od_fin ?_
  unfold Decoder.instr
  show ((Reader.u1 : Decoder Nat) A pc >>= fun x => _) = _
  rw [u]
  have w := rd_u2 (ε := DecodeError) f g
  show ((Reader.u2 : Decoder Nat) A (pc + 1) >>= fun z => Except.ok ((.getfield z.1 : Instr), z.2)) = _
  rw [w]; rfl
theorem od_181 {A : ByteArray} {pc : Nat} {x y : UInt8} {v : Nat} (e : A.data.toList[pc]? = some (181 : UInt8)) (f : A.data.toList[pc + 1]? = some x) (g : A.data.toList[pc + 1 + 1]? = some y) (hv : (x.toNat * 256 + y.toNat) = v) : decode A pc = .ok (.putfield v, 3) := by
  subst hv
  have u := rd_u1 (ε := DecodeError) e
  refine od_fin ?_
  unfold Decoder.instr
  show ((Reader.u1 : Decoder Nat) A pc >>= fun x => _) = _
  rw [u]
  have w := rd_u2 (ε := DecodeError) f g
  show ((Reader.u2 : Decoder Nat) A (pc + 1) >>= fun z => Except.ok ((.putfield z.1 : Instr), z.2)) = _
  rw [w]; rfl
theorem od_182 {A : ByteArray} {pc : Nat} {x y : UInt8} {v : Nat} (e : A.data.toList[pc]? = some (182 : UInt8)) (f : A.data.toList[pc + 1]? = some x) (g : A.data.toList[pc + 1 + 1]? = some y) (hv : (x.toNat * 256 + y.toNat) = v) : decode A pc = .ok (.invokevirtual v, 3) := by
  subst hv
  have u := rd_u1 (ε := DecodeError) e
  refine od_fin ?_
  unfold Decoder.instr
  show ((Reader.u1 : Decoder Nat) A pc >>= fun x => _) = _
  rw [u]
  have w := rd_u2 (ε := DecodeError) f g
  show ((Reader.u2 : Decoder Nat) A (pc + 1) >>= fun z => Except.ok ((.invokevirtual z.1 : Instr), z.2)) = _
  rw [w]; rfl
theorem od_183 {A : ByteArray} {pc : Nat} {x y : UInt8} {v : Nat} (e : A.data.toList[pc]? = some (183 : UInt8)) (f : A.data.toList[pc + 1]? = some x) (g : A.data.toList[pc + 1 + 1]? = some y) (hv : (x.toNat * 256 + y.toNat) = v) : decode A pc = .ok (.invokespecial v, 3) := by
  subst hv
  have u := rd_u1 (ε := DecodeError) e
  refine od_fin ?_
  unfold Decoder.instr
  show ((Reader.u1 : Decoder Nat) A pc >>= fun x => _) = _
  rw [u]
  have w := rd_u2 (ε := DecodeError) f g
  show ((Reader.u2 : Decoder Nat) A (pc + 1) >>= fun z => Except.ok ((.invokespecial z.1 : Instr), z.2)) = _
  rw [w]; rfl
theorem od_184 {A : ByteArray} {pc : Nat} {x y : UInt8} {v : Nat} (e : A.data.toList[pc]? = some (184 : UInt8)) (f : A.data.toList[pc + 1]? = some x) (g : A.data.toList[pc + 1 + 1]? = some y) (hv : (x.toNat * 256 + y.toNat) = v) : decode A pc = .ok (.invokestatic v, 3) := by
  subst hv
  have u := rd_u1 (ε := DecodeError) e
  refine od_fin ?_
  unfold Decoder.instr
  show ((Reader.u1 : Decoder Nat) A pc >>= fun x => _) = _
  rw [u]
  have w := rd_u2 (ε := DecodeError) f g
  show ((Reader.u2 : Decoder Nat) A (pc + 1) >>= fun z => Except.ok ((.invokestatic z.1 : Instr), z.2)) = _
  rw [w]; rfl
theorem od_187 {A : ByteArray} {pc : Nat} {x y : UInt8} {v : Nat} (e : A.data.toList[pc]? = some (187 : UInt8)) (f : A.data.toList[pc + 1]? = some x) (g : A.data.toList[pc + 1 + 1]? = some y) (hv : (x.toNat * 256 + y.toNat) = v) : decode A pc = .ok (.new v, 3) := by
  subst hv
  have u := rd_u1 (ε := DecodeError) e
  refine od_fin ?_
  unfold Decoder.instr
  show ((Reader.u1 : Decoder Nat) A pc >>= fun x => _) = _
  rw [u]
  have w := rd_u2 (ε := DecodeError) f g
  show ((Reader.u2 : Decoder Nat) A (pc + 1) >>= fun z => Except.ok ((.new z.1 : Instr), z.2)) = _
  rw [w]; rfl
theorem od_189 {A : ByteArray} {pc : Nat} {x y : UInt8} {v : Nat} (e : A.data.toList[pc]? = some (189 : UInt8)) (f : A.data.toList[pc + 1]? = some x) (g : A.data.toList[pc + 1 + 1]? = some y) (hv : (x.toNat * 256 + y.toNat) = v) : decode A pc = .ok (.anewarray v, 3) := by
  subst hv
  have u := rd_u1 (ε := DecodeError) e
  refine od_fin ?_
  unfold Decoder.instr
  show ((Reader.u1 : Decoder Nat) A pc >>= fun x => _) = _
  rw [u]
  have w := rd_u2 (ε := DecodeError) f g
  show ((Reader.u2 : Decoder Nat) A (pc + 1) >>= fun z => Except.ok ((.anewarray z.1 : Instr), z.2)) = _
  rw [w]; rfl
theorem od_190 {A : ByteArray} {pc : Nat} (e : A.data.toList[pc]? = some (190 : UInt8)) : decode A pc = .ok (.arraylength, 1) := by
  have u := rd_u1 (ε := DecodeError) e
  refine od_fin ?_
  unfold Decoder.instr
  show ((Reader.u1 : Decoder Nat) A pc >>= fun x => _) = _
  rw [u]
  rfl
theorem od_191 {A : ByteArray} {pc : Nat} (e : A.data.toList[pc]? = some (191 : UInt8)) : decode A pc = .ok (.athrow, 1) := by
  have u := rd_u1 (ε := DecodeError) e
  refine od_fin ?_
  unfold Decoder.instr
  show ((Reader.u1 : Decoder Nat) A pc >>= fun x => _) = _
  rw [u]
  rfl
theorem od_192 {A : ByteArray} {pc : Nat} {x y : UInt8} {v : Nat} (e : A.data.toList[pc]? = some (192 : UInt8)) (f : A.data.toList[pc + 1]? = some x) (g : A.data.toList[pc + 1 + 1]? = some y) (hv : (x.toNat * 256 + y.toNat) = v) : decode A pc = .ok (.checkcast v, 3) := by
  subst hv
  have u := rd_u1 (ε := DecodeError) e
  refine od_fin ?_
  unfold Decoder.instr
  show ((Reader.u1 : Decoder Nat) A pc >>= fun x => _) = _
  rw [u]
  have w := rd_u2 (ε := DecodeError) f g
  show ((Reader.u2 : Decoder Nat) A (pc + 1) >>= fun z => Except.ok ((.checkcast z.1 : Instr), z.2)) = _
  rw [w]; rfl
theorem od_193 {A : ByteArray} {pc : Nat} {x y : UInt8} {v : Nat} (e : A.data.toList[pc]? = some (193 : UInt8)) (f : A.data.toList[pc + 1]? = some x) (g : A.data.toList[pc + 1 + 1]? = some y) (hv : (x.toNat * 256 + y.toNat) = v) : decode A pc = .ok (.instanceof v, 3) := by
  subst hv
  have u := rd_u1 (ε := DecodeError) e
  refine od_fin ?_
  unfold Decoder.instr
  show ((Reader.u1 : Decoder Nat) A pc >>= fun x => _) = _
  rw [u]
  have w := rd_u2 (ε := DecodeError) f g
  show ((Reader.u2 : Decoder Nat) A (pc + 1) >>= fun z => Except.ok ((.instanceof z.1 : Instr), z.2)) = _
  rw [w]; rfl
def RB_cX0_init_3 : List UInt8 := 0x00 :: 0x1f :: 0xb1 :: []
def RB_cX0_init_2 : List UInt8 := 0x2a :: 0x10 :: 0x0c :: 0xbc :: 0x0a :: 0xb5 :: 0x00 :: 0x19 :: 0x2a :: 0x03 :: 0xb5 :: 0x00 :: 0x1c :: 0x2a :: 0x1b :: 0xb5 :: RB_cX0_init_3
def RB_cX0_init_1 : List UInt8 := 0x2a :: 0x10 :: 0x0c :: 0xbc :: 0x0a :: 0xb5 :: 0x00 :: 0x13 :: 0x2a :: 0x10 :: 0x0c :: 0xbc :: 0x0a :: 0xb5 :: 0x00 :: 0x16 :: RB_cX0_init_2
def RB_cX0_init_0 : List UInt8 := 0x2a :: 0xb7 :: 0x00 :: 0x03 :: 0x2a :: 0x03 :: 0xb5 :: 0x00 :: 0x09 :: 0x2a :: 0x07 :: 0xbc :: 0x0a :: 0xb5 :: 0x00 :: 0x0f :: RB_cX0_init_1
theorem tB_cX0_init_0 : cX0_init.data.toList.drop 0 = RB_cX0_init_0 := by decide +kernel
theorem tB_cX0_init_1 : cX0_init.data.toList.drop 16 = RB_cX0_init_1 := od_st tB_cX0_init_0 16 rfl
theorem tB_cX0_init_2 : cX0_init.data.toList.drop 32 = RB_cX0_init_2 := od_st tB_cX0_init_1 16 rfl
theorem tB_cX0_init_3 : cX0_init.data.toList.drop 48 = RB_cX0_init_3 := od_st tB_cX0_init_2 16 rfl
theorem dX0_init_0 : decode cX0_init 0 = .ok (.aload_n 0, 1) := od_42 (od_at tB_cX0_init_0 0 rfl)
theorem dX0_init_1 : decode cX0_init 1 = .ok (.invokespecial 3, 3) := od_183 (od_at tB_cX0_init_0 1 rfl) (od_at tB_cX0_init_0 2 rfl) (od_at tB_cX0_init_0 3 rfl) rfl
theorem dX0_init_4 : decode cX0_init 4 = .ok (.aload_n 0, 1) := od_42 (od_at tB_cX0_init_0 4 rfl)
theorem dX0_init_5 : decode cX0_init 5 = .ok (.iconst 0, 1) := od_3 (od_at tB_cX0_init_0 5 rfl)
theorem dX0_init_6 : decode cX0_init 6 = .ok (.putfield 9, 3) := od_181 (od_at tB_cX0_init_0 6 rfl) (od_at tB_cX0_init_0 7 rfl) (od_at tB_cX0_init_0 8 rfl) rfl
theorem dX0_init_9 : decode cX0_init 9 = .ok (.aload_n 0, 1) := od_42 (od_at tB_cX0_init_0 9 rfl)
theorem dX0_init_10 : decode cX0_init 10 = .ok (.iconst 4, 1) := od_7 (od_at tB_cX0_init_0 10 rfl)
theorem dX0_init_11 : decode cX0_init 11 = .ok (.newarray .int, 2) := by decide +kernel
theorem dX0_init_13 : decode cX0_init 13 = .ok (.putfield 15, 3) := od_181 (od_at tB_cX0_init_0 13 rfl) (od_at tB_cX0_init_0 14 rfl) (od_at tB_cX0_init_0 15 rfl) rfl
theorem dX0_init_16 : decode cX0_init 16 = .ok (.aload_n 0, 1) := od_42 (od_at tB_cX0_init_1 0 rfl)
theorem dX0_init_17 : decode cX0_init 17 = .ok (.bipush 12, 2) := od_16 (od_at tB_cX0_init_1 1 rfl) (od_at tB_cX0_init_1 2 rfl) (by decide +kernel)
theorem dX0_init_19 : decode cX0_init 19 = .ok (.newarray .int, 2) := by decide +kernel
theorem dX0_init_21 : decode cX0_init 21 = .ok (.putfield 19, 3) := od_181 (od_at tB_cX0_init_1 5 rfl) (od_at tB_cX0_init_1 6 rfl) (od_at tB_cX0_init_1 7 rfl) rfl
theorem dX0_init_24 : decode cX0_init 24 = .ok (.aload_n 0, 1) := od_42 (od_at tB_cX0_init_1 8 rfl)
theorem dX0_init_25 : decode cX0_init 25 = .ok (.bipush 12, 2) := od_16 (od_at tB_cX0_init_1 9 rfl) (od_at tB_cX0_init_1 10 rfl) (by decide +kernel)
theorem dX0_init_27 : decode cX0_init 27 = .ok (.newarray .int, 2) := by decide +kernel
theorem dX0_init_29 : decode cX0_init 29 = .ok (.putfield 22, 3) := od_181 (od_at tB_cX0_init_1 13 rfl) (od_at tB_cX0_init_1 14 rfl) (od_at tB_cX0_init_1 15 rfl) rfl
theorem dX0_init_32 : decode cX0_init 32 = .ok (.aload_n 0, 1) := od_42 (od_at tB_cX0_init_2 0 rfl)
theorem dX0_init_33 : decode cX0_init 33 = .ok (.bipush 12, 2) := od_16 (od_at tB_cX0_init_2 1 rfl) (od_at tB_cX0_init_2 2 rfl) (by decide +kernel)
theorem dX0_init_35 : decode cX0_init 35 = .ok (.newarray .int, 2) := by decide +kernel
theorem dX0_init_37 : decode cX0_init 37 = .ok (.putfield 25, 3) := od_181 (od_at tB_cX0_init_2 5 rfl) (od_at tB_cX0_init_2 6 rfl) (od_at tB_cX0_init_2 7 rfl) rfl
theorem dX0_init_40 : decode cX0_init 40 = .ok (.aload_n 0, 1) := od_42 (od_at tB_cX0_init_2 8 rfl)
theorem dX0_init_41 : decode cX0_init 41 = .ok (.iconst 0, 1) := od_3 (od_at tB_cX0_init_2 9 rfl)
theorem dX0_init_42 : decode cX0_init 42 = .ok (.putfield 28, 3) := od_181 (od_at tB_cX0_init_2 10 rfl) (od_at tB_cX0_init_2 11 rfl) (od_at tB_cX0_init_2 12 rfl) rfl
theorem dX0_init_45 : decode cX0_init 45 = .ok (.aload_n 0, 1) := od_42 (od_at tB_cX0_init_2 13 rfl)
theorem dX0_init_46 : decode cX0_init 46 = .ok (.iload_n 1, 1) := od_27 (od_at tB_cX0_init_2 14 rfl)
theorem dX0_init_47 : decode cX0_init 47 = .ok (.putfield 31, 3) := od_181 (od_at tB_cX0_init_2 15 rfl) (od_at tB_cX0_init_2 16 rfl) (od_at tB_cX0_init_2 17 rfl) rfl
theorem dX0_init_50 : decode cX0_init 50 = .ok (.return_, 1) := od_177 (od_at tB_cX0_init_3 2 rfl)
def RB_cX0_isFull_0 : List UInt8 := 0x2a :: 0xb4 :: 0x00 :: 0x1c :: 0x10 :: 0x0c :: 0xa1 :: 0x00 :: 0x07 :: 0x04 :: 0xa7 :: 0x00 :: 0x04 :: 0x03 :: 0xac :: []
theorem tB_cX0_isFull_0 : cX0_isFull.data.toList.drop 0 = RB_cX0_isFull_0 := by decide +kernel
theorem dX0_isFull_0 : decode cX0_isFull 0 = .ok (.aload_n 0, 1) := od_42 (od_at tB_cX0_isFull_0 0 rfl)
theorem dX0_isFull_1 : decode cX0_isFull 1 = .ok (.getfield 28, 3) := od_180 (od_at tB_cX0_isFull_0 1 rfl) (od_at tB_cX0_isFull_0 2 rfl) (od_at tB_cX0_isFull_0 3 rfl) rfl
theorem dX0_isFull_4 : decode cX0_isFull 4 = .ok (.bipush 12, 2) := od_16 (od_at tB_cX0_isFull_0 4 rfl) (od_at tB_cX0_isFull_0 5 rfl) (by decide +kernel)
theorem dX0_isFull_6 : decode cX0_isFull 6 = .ok (.if_icmp .lt 7, 3) := od_161 (od_at tB_cX0_isFull_0 6 rfl) (od_at tB_cX0_isFull_0 7 rfl) (od_at tB_cX0_isFull_0 8 rfl) (by decide +kernel)
theorem dX0_isFull_9 : decode cX0_isFull 9 = .ok (.iconst 1, 1) := od_4 (od_at tB_cX0_isFull_0 9 rfl)
theorem dX0_isFull_10 : decode cX0_isFull 10 = .ok (.goto 4, 3) := od_167 (od_at tB_cX0_isFull_0 10 rfl) (od_at tB_cX0_isFull_0 11 rfl) (od_at tB_cX0_isFull_0 12 rfl) (by decide +kernel)
theorem dX0_isFull_13 : decode cX0_isFull 13 = .ok (.iconst 0, 1) := od_3 (od_at tB_cX0_isFull_0 13 rfl)
theorem dX0_isFull_14 : decode cX0_isFull 14 = .ok (.ireturn, 1) := od_172 (od_at tB_cX0_isFull_0 14 rfl)
def RB_cX0_takeFactor_7 : List UInt8 := 0xb1 :: []
def RB_cX0_takeFactor_6 : List UInt8 := 0x00 :: 0x19 :: 0x15 :: 0x04 :: 0x1d :: 0x4f :: 0x2a :: 0x59 :: 0xb4 :: 0x00 :: 0x1c :: 0x04 :: 0x60 :: 0xb5 :: 0x00 :: 0x1c :: RB_cX0_takeFactor_7
def RB_cX0_takeFactor_5 : List UInt8 := 0x00 :: 0x13 :: 0x15 :: 0x04 :: 0x1b :: 0x4f :: 0x2a :: 0xb4 :: 0x00 :: 0x16 :: 0x15 :: 0x04 :: 0x1c :: 0x4f :: 0x2a :: 0xb4 :: RB_cX0_takeFactor_6
def RB_cX0_takeFactor_4 : List UInt8 := 0x00 :: 0x19 :: 0x15 :: 0x04 :: 0x04 :: 0x64 :: 0x2e :: 0x4f :: 0x84 :: 0x04 :: 0xff :: 0xa7 :: 0xff :: 0xbb :: 0x2a :: 0xb4 :: RB_cX0_takeFactor_5
def RB_cX0_takeFactor_3 : List UInt8 := 0x00 :: 0x16 :: 0x15 :: 0x04 :: 0x04 :: 0x64 :: 0x2e :: 0x4f :: 0x2a :: 0xb4 :: 0x00 :: 0x19 :: 0x15 :: 0x04 :: 0x2a :: 0xb4 :: RB_cX0_takeFactor_4
def RB_cX0_takeFactor_2 : List UInt8 := 0x00 :: 0x13 :: 0x15 :: 0x04 :: 0x04 :: 0x64 :: 0x2e :: 0x4f :: 0x2a :: 0xb4 :: 0x00 :: 0x16 :: 0x15 :: 0x04 :: 0x2a :: 0xb4 :: RB_cX0_takeFactor_3
def RB_cX0_takeFactor_1 : List UInt8 := 0x1b :: 0x1c :: 0xb6 :: 0x00 :: 0x22 :: 0x99 :: 0x00 :: 0x39 :: 0x2a :: 0xb4 :: 0x00 :: 0x13 :: 0x15 :: 0x04 :: 0x2a :: 0xb4 :: RB_cX0_takeFactor_2
def RB_cX0_takeFactor_0 : List UInt8 := 0x2a :: 0xb4 :: 0x00 :: 0x1c :: 0x36 :: 0x04 :: 0x15 :: 0x04 :: 0x9e :: 0x00 :: 0x46 :: 0x2a :: 0x15 :: 0x04 :: 0x04 :: 0x64 :: RB_cX0_takeFactor_1
theorem tB_cX0_takeFactor_0 : cX0_takeFactor.data.toList.drop 0 = RB_cX0_takeFactor_0 := by decide +kernel
theorem tB_cX0_takeFactor_1 : cX0_takeFactor.data.toList.drop 16 = RB_cX0_takeFactor_1 := od_st tB_cX0_takeFactor_0 16 rfl
theorem tB_cX0_takeFactor_2 : cX0_takeFactor.data.toList.drop 32 = RB_cX0_takeFactor_2 := od_st tB_cX0_takeFactor_1 16 rfl
theorem tB_cX0_takeFactor_3 : cX0_takeFactor.data.toList.drop 48 = RB_cX0_takeFactor_3 := od_st tB_cX0_takeFactor_2 16 rfl
theorem tB_cX0_takeFactor_4 : cX0_takeFactor.data.toList.drop 64 = RB_cX0_takeFactor_4 := od_st tB_cX0_takeFactor_3 16 rfl
theorem tB_cX0_takeFactor_5 : cX0_takeFactor.data.toList.drop 80 = RB_cX0_takeFactor_5 := od_st tB_cX0_takeFactor_4 16 rfl
theorem tB_cX0_takeFactor_6 : cX0_takeFactor.data.toList.drop 96 = RB_cX0_takeFactor_6 := od_st tB_cX0_takeFactor_5 16 rfl
theorem tB_cX0_takeFactor_7 : cX0_takeFactor.data.toList.drop 112 = RB_cX0_takeFactor_7 := od_st tB_cX0_takeFactor_6 16 rfl
theorem dX0_takeFactor_0 : decode cX0_takeFactor 0 = .ok (.aload_n 0, 1) := od_42 (od_at tB_cX0_takeFactor_0 0 rfl)
theorem dX0_takeFactor_1 : decode cX0_takeFactor 1 = .ok (.getfield 28, 3) := od_180 (od_at tB_cX0_takeFactor_0 1 rfl) (od_at tB_cX0_takeFactor_0 2 rfl) (od_at tB_cX0_takeFactor_0 3 rfl) rfl
theorem dX0_takeFactor_4 : decode cX0_takeFactor 4 = .ok (.istore 4, 2) := od_54 (od_at tB_cX0_takeFactor_0 4 rfl) (od_at tB_cX0_takeFactor_0 5 rfl) rfl
theorem dX0_takeFactor_6 : decode cX0_takeFactor 6 = .ok (.iload 4, 2) := od_21 (od_at tB_cX0_takeFactor_0 6 rfl) (od_at tB_cX0_takeFactor_0 7 rfl) rfl
theorem dX0_takeFactor_8 : decode cX0_takeFactor 8 = .ok (.ifCond .le 70, 3) := od_158 (od_at tB_cX0_takeFactor_0 8 rfl) (od_at tB_cX0_takeFactor_0 9 rfl) (od_at tB_cX0_takeFactor_0 10 rfl) (by decide +kernel)
theorem dX0_takeFactor_11 : decode cX0_takeFactor 11 = .ok (.aload_n 0, 1) := od_42 (od_at tB_cX0_takeFactor_0 11 rfl)
theorem dX0_takeFactor_12 : decode cX0_takeFactor 12 = .ok (.iload 4, 2) := od_21 (od_at tB_cX0_takeFactor_0 12 rfl) (od_at tB_cX0_takeFactor_0 13 rfl) rfl
theorem dX0_takeFactor_14 : decode cX0_takeFactor 14 = .ok (.iconst 1, 1) := od_4 (od_at tB_cX0_takeFactor_0 14 rfl)
theorem dX0_takeFactor_15 : decode cX0_takeFactor 15 = .ok (.isub, 1) := od_100 (od_at tB_cX0_takeFactor_0 15 rfl)
theorem dX0_takeFactor_16 : decode cX0_takeFactor 16 = .ok (.iload_n 1, 1) := od_27 (od_at tB_cX0_takeFactor_1 0 rfl)
theorem dX0_takeFactor_17 : decode cX0_takeFactor 17 = .ok (.iload_n 2, 1) := od_28 (od_at tB_cX0_takeFactor_1 1 rfl)
theorem dX0_takeFactor_18 : decode cX0_takeFactor 18 = .ok (.invokevirtual 34, 3) := od_182 (od_at tB_cX0_takeFactor_1 2 rfl) (od_at tB_cX0_takeFactor_1 3 rfl) (od_at tB_cX0_takeFactor_1 4 rfl) rfl
theorem dX0_takeFactor_21 : decode cX0_takeFactor 21 = .ok (.ifCond .eq 57, 3) := od_153 (od_at tB_cX0_takeFactor_1 5 rfl) (od_at tB_cX0_takeFactor_1 6 rfl) (od_at tB_cX0_takeFactor_1 7 rfl) (by decide +kernel)
theorem dX0_takeFactor_24 : decode cX0_takeFactor 24 = .ok (.aload_n 0, 1) := od_42 (od_at tB_cX0_takeFactor_1 8 rfl)
theorem dX0_takeFactor_25 : decode cX0_takeFactor 25 = .ok (.getfield 19, 3) := od_180 (od_at tB_cX0_takeFactor_1 9 rfl) (od_at tB_cX0_takeFactor_1 10 rfl) (od_at tB_cX0_takeFactor_1 11 rfl) rfl
theorem dX0_takeFactor_28 : decode cX0_takeFactor 28 = .ok (.iload 4, 2) := od_21 (od_at tB_cX0_takeFactor_1 12 rfl) (od_at tB_cX0_takeFactor_1 13 rfl) rfl
theorem dX0_takeFactor_30 : decode cX0_takeFactor 30 = .ok (.aload_n 0, 1) := od_42 (od_at tB_cX0_takeFactor_1 14 rfl)
theorem dX0_takeFactor_31 : decode cX0_takeFactor 31 = .ok (.getfield 19, 3) := od_180 (od_at tB_cX0_takeFactor_1 15 rfl) (od_at tB_cX0_takeFactor_1 16 rfl) (od_at tB_cX0_takeFactor_1 17 rfl) rfl
theorem dX0_takeFactor_34 : decode cX0_takeFactor 34 = .ok (.iload 4, 2) := od_21 (od_at tB_cX0_takeFactor_2 2 rfl) (od_at tB_cX0_takeFactor_2 3 rfl) rfl
theorem dX0_takeFactor_36 : decode cX0_takeFactor 36 = .ok (.iconst 1, 1) := od_4 (od_at tB_cX0_takeFactor_2 4 rfl)
theorem dX0_takeFactor_37 : decode cX0_takeFactor 37 = .ok (.isub, 1) := od_100 (od_at tB_cX0_takeFactor_2 5 rfl)
theorem dX0_takeFactor_38 : decode cX0_takeFactor 38 = .ok (.iaload, 1) := od_46 (od_at tB_cX0_takeFactor_2 6 rfl)
theorem dX0_takeFactor_39 : decode cX0_takeFactor 39 = .ok (.iastore, 1) := od_79 (od_at tB_cX0_takeFactor_2 7 rfl)
theorem dX0_takeFactor_40 : decode cX0_takeFactor 40 = .ok (.aload_n 0, 1) := od_42 (od_at tB_cX0_takeFactor_2 8 rfl)
theorem dX0_takeFactor_41 : decode cX0_takeFactor 41 = .ok (.getfield 22, 3) := od_180 (od_at tB_cX0_takeFactor_2 9 rfl) (od_at tB_cX0_takeFactor_2 10 rfl) (od_at tB_cX0_takeFactor_2 11 rfl) rfl
theorem dX0_takeFactor_44 : decode cX0_takeFactor 44 = .ok (.iload 4, 2) := od_21 (od_at tB_cX0_takeFactor_2 12 rfl) (od_at tB_cX0_takeFactor_2 13 rfl) rfl
theorem dX0_takeFactor_46 : decode cX0_takeFactor 46 = .ok (.aload_n 0, 1) := od_42 (od_at tB_cX0_takeFactor_2 14 rfl)
theorem dX0_takeFactor_47 : decode cX0_takeFactor 47 = .ok (.getfield 22, 3) := od_180 (od_at tB_cX0_takeFactor_2 15 rfl) (od_at tB_cX0_takeFactor_2 16 rfl) (od_at tB_cX0_takeFactor_2 17 rfl) rfl
theorem dX0_takeFactor_50 : decode cX0_takeFactor 50 = .ok (.iload 4, 2) := od_21 (od_at tB_cX0_takeFactor_3 2 rfl) (od_at tB_cX0_takeFactor_3 3 rfl) rfl
theorem dX0_takeFactor_52 : decode cX0_takeFactor 52 = .ok (.iconst 1, 1) := od_4 (od_at tB_cX0_takeFactor_3 4 rfl)
theorem dX0_takeFactor_53 : decode cX0_takeFactor 53 = .ok (.isub, 1) := od_100 (od_at tB_cX0_takeFactor_3 5 rfl)
theorem dX0_takeFactor_54 : decode cX0_takeFactor 54 = .ok (.iaload, 1) := od_46 (od_at tB_cX0_takeFactor_3 6 rfl)
theorem dX0_takeFactor_55 : decode cX0_takeFactor 55 = .ok (.iastore, 1) := od_79 (od_at tB_cX0_takeFactor_3 7 rfl)
theorem dX0_takeFactor_56 : decode cX0_takeFactor 56 = .ok (.aload_n 0, 1) := od_42 (od_at tB_cX0_takeFactor_3 8 rfl)
theorem dX0_takeFactor_57 : decode cX0_takeFactor 57 = .ok (.getfield 25, 3) := od_180 (od_at tB_cX0_takeFactor_3 9 rfl) (od_at tB_cX0_takeFactor_3 10 rfl) (od_at tB_cX0_takeFactor_3 11 rfl) rfl
theorem dX0_takeFactor_60 : decode cX0_takeFactor 60 = .ok (.iload 4, 2) := od_21 (od_at tB_cX0_takeFactor_3 12 rfl) (od_at tB_cX0_takeFactor_3 13 rfl) rfl
theorem dX0_takeFactor_62 : decode cX0_takeFactor 62 = .ok (.aload_n 0, 1) := od_42 (od_at tB_cX0_takeFactor_3 14 rfl)
theorem dX0_takeFactor_63 : decode cX0_takeFactor 63 = .ok (.getfield 25, 3) := od_180 (od_at tB_cX0_takeFactor_3 15 rfl) (od_at tB_cX0_takeFactor_3 16 rfl) (od_at tB_cX0_takeFactor_3 17 rfl) rfl
theorem dX0_takeFactor_66 : decode cX0_takeFactor 66 = .ok (.iload 4, 2) := od_21 (od_at tB_cX0_takeFactor_4 2 rfl) (od_at tB_cX0_takeFactor_4 3 rfl) rfl
theorem dX0_takeFactor_68 : decode cX0_takeFactor 68 = .ok (.iconst 1, 1) := od_4 (od_at tB_cX0_takeFactor_4 4 rfl)
theorem dX0_takeFactor_69 : decode cX0_takeFactor 69 = .ok (.isub, 1) := od_100 (od_at tB_cX0_takeFactor_4 5 rfl)
theorem dX0_takeFactor_70 : decode cX0_takeFactor 70 = .ok (.iaload, 1) := od_46 (od_at tB_cX0_takeFactor_4 6 rfl)
theorem dX0_takeFactor_71 : decode cX0_takeFactor 71 = .ok (.iastore, 1) := od_79 (od_at tB_cX0_takeFactor_4 7 rfl)
theorem dX0_takeFactor_72 : decode cX0_takeFactor 72 = .ok (.iinc 4 (-1), 3) := od_132 (od_at tB_cX0_takeFactor_4 8 rfl) (od_at tB_cX0_takeFactor_4 9 rfl) (od_at tB_cX0_takeFactor_4 10 rfl) rfl (by decide +kernel)
theorem dX0_takeFactor_75 : decode cX0_takeFactor 75 = .ok (.goto (-69), 3) := od_167 (od_at tB_cX0_takeFactor_4 11 rfl) (od_at tB_cX0_takeFactor_4 12 rfl) (od_at tB_cX0_takeFactor_4 13 rfl) (by decide +kernel)
theorem dX0_takeFactor_78 : decode cX0_takeFactor 78 = .ok (.aload_n 0, 1) := od_42 (od_at tB_cX0_takeFactor_4 14 rfl)
theorem dX0_takeFactor_79 : decode cX0_takeFactor 79 = .ok (.getfield 19, 3) := od_180 (od_at tB_cX0_takeFactor_4 15 rfl) (od_at tB_cX0_takeFactor_4 16 rfl) (od_at tB_cX0_takeFactor_4 17 rfl) rfl
theorem dX0_takeFactor_82 : decode cX0_takeFactor 82 = .ok (.iload 4, 2) := od_21 (od_at tB_cX0_takeFactor_5 2 rfl) (od_at tB_cX0_takeFactor_5 3 rfl) rfl
theorem dX0_takeFactor_84 : decode cX0_takeFactor 84 = .ok (.iload_n 1, 1) := od_27 (od_at tB_cX0_takeFactor_5 4 rfl)
theorem dX0_takeFactor_85 : decode cX0_takeFactor 85 = .ok (.iastore, 1) := od_79 (od_at tB_cX0_takeFactor_5 5 rfl)
theorem dX0_takeFactor_86 : decode cX0_takeFactor 86 = .ok (.aload_n 0, 1) := od_42 (od_at tB_cX0_takeFactor_5 6 rfl)
theorem dX0_takeFactor_87 : decode cX0_takeFactor 87 = .ok (.getfield 22, 3) := od_180 (od_at tB_cX0_takeFactor_5 7 rfl) (od_at tB_cX0_takeFactor_5 8 rfl) (od_at tB_cX0_takeFactor_5 9 rfl) rfl
theorem dX0_takeFactor_90 : decode cX0_takeFactor 90 = .ok (.iload 4, 2) := od_21 (od_at tB_cX0_takeFactor_5 10 rfl) (od_at tB_cX0_takeFactor_5 11 rfl) rfl
theorem dX0_takeFactor_92 : decode cX0_takeFactor 92 = .ok (.iload_n 2, 1) := od_28 (od_at tB_cX0_takeFactor_5 12 rfl)
theorem dX0_takeFactor_93 : decode cX0_takeFactor 93 = .ok (.iastore, 1) := od_79 (od_at tB_cX0_takeFactor_5 13 rfl)
theorem dX0_takeFactor_94 : decode cX0_takeFactor 94 = .ok (.aload_n 0, 1) := od_42 (od_at tB_cX0_takeFactor_5 14 rfl)
theorem dX0_takeFactor_95 : decode cX0_takeFactor 95 = .ok (.getfield 25, 3) := od_180 (od_at tB_cX0_takeFactor_5 15 rfl) (od_at tB_cX0_takeFactor_5 16 rfl) (od_at tB_cX0_takeFactor_5 17 rfl) rfl
theorem dX0_takeFactor_98 : decode cX0_takeFactor 98 = .ok (.iload 4, 2) := od_21 (od_at tB_cX0_takeFactor_6 2 rfl) (od_at tB_cX0_takeFactor_6 3 rfl) rfl
theorem dX0_takeFactor_100 : decode cX0_takeFactor 100 = .ok (.iload_n 3, 1) := od_29 (od_at tB_cX0_takeFactor_6 4 rfl)
theorem dX0_takeFactor_101 : decode cX0_takeFactor 101 = .ok (.iastore, 1) := od_79 (od_at tB_cX0_takeFactor_6 5 rfl)
theorem dX0_takeFactor_102 : decode cX0_takeFactor 102 = .ok (.aload_n 0, 1) := od_42 (od_at tB_cX0_takeFactor_6 6 rfl)
theorem dX0_takeFactor_103 : decode cX0_takeFactor 103 = .ok (.dup, 1) := od_89 (od_at tB_cX0_takeFactor_6 7 rfl)
theorem dX0_takeFactor_104 : decode cX0_takeFactor 104 = .ok (.getfield 28, 3) := od_180 (od_at tB_cX0_takeFactor_6 8 rfl) (od_at tB_cX0_takeFactor_6 9 rfl) (od_at tB_cX0_takeFactor_6 10 rfl) rfl
theorem dX0_takeFactor_107 : decode cX0_takeFactor 107 = .ok (.iconst 1, 1) := od_4 (od_at tB_cX0_takeFactor_6 11 rfl)
theorem dX0_takeFactor_108 : decode cX0_takeFactor 108 = .ok (.iadd, 1) := od_96 (od_at tB_cX0_takeFactor_6 12 rfl)
theorem dX0_takeFactor_109 : decode cX0_takeFactor 109 = .ok (.putfield 28, 3) := od_181 (od_at tB_cX0_takeFactor_6 13 rfl) (od_at tB_cX0_takeFactor_6 14 rfl) (od_at tB_cX0_takeFactor_6 15 rfl) rfl
theorem dX0_takeFactor_112 : decode cX0_takeFactor 112 = .ok (.return_, 1) := od_177 (od_at tB_cX0_takeFactor_7 0 rfl)
def RB_cX0_standsBehind_2 : List UInt8 := 0x00 :: 0x04 :: 0x03 :: 0xac :: []
def RB_cX0_standsBehind_1 : List UInt8 := 0x1c :: 0xa0 :: 0x00 :: 0x11 :: 0x2a :: 0xb4 :: 0x00 :: 0x16 :: 0x1b :: 0x2e :: 0x1d :: 0xa4 :: 0x00 :: 0x07 :: 0x04 :: 0xa7 :: RB_cX0_standsBehind_2
def RB_cX0_standsBehind_0 : List UInt8 := 0x2a :: 0xb4 :: 0x00 :: 0x13 :: 0x1b :: 0x2e :: 0x1c :: 0xa3 :: 0x00 :: 0x17 :: 0x2a :: 0xb4 :: 0x00 :: 0x13 :: 0x1b :: 0x2e :: RB_cX0_standsBehind_1
theorem tB_cX0_standsBehind_0 : cX0_standsBehind.data.toList.drop 0 = RB_cX0_standsBehind_0 := by decide +kernel
theorem tB_cX0_standsBehind_1 : cX0_standsBehind.data.toList.drop 16 = RB_cX0_standsBehind_1 := od_st tB_cX0_standsBehind_0 16 rfl
theorem tB_cX0_standsBehind_2 : cX0_standsBehind.data.toList.drop 32 = RB_cX0_standsBehind_2 := od_st tB_cX0_standsBehind_1 16 rfl
theorem dX0_standsBehind_0 : decode cX0_standsBehind 0 = .ok (.aload_n 0, 1) := od_42 (od_at tB_cX0_standsBehind_0 0 rfl)
theorem dX0_standsBehind_1 : decode cX0_standsBehind 1 = .ok (.getfield 19, 3) := od_180 (od_at tB_cX0_standsBehind_0 1 rfl) (od_at tB_cX0_standsBehind_0 2 rfl) (od_at tB_cX0_standsBehind_0 3 rfl) rfl
theorem dX0_standsBehind_4 : decode cX0_standsBehind 4 = .ok (.iload_n 1, 1) := od_27 (od_at tB_cX0_standsBehind_0 4 rfl)
theorem dX0_standsBehind_5 : decode cX0_standsBehind 5 = .ok (.iaload, 1) := od_46 (od_at tB_cX0_standsBehind_0 5 rfl)
theorem dX0_standsBehind_6 : decode cX0_standsBehind 6 = .ok (.iload_n 2, 1) := od_28 (od_at tB_cX0_standsBehind_0 6 rfl)
theorem dX0_standsBehind_7 : decode cX0_standsBehind 7 = .ok (.if_icmp .gt 23, 3) := od_163 (od_at tB_cX0_standsBehind_0 7 rfl) (od_at tB_cX0_standsBehind_0 8 rfl) (od_at tB_cX0_standsBehind_0 9 rfl) (by decide +kernel)
theorem dX0_standsBehind_10 : decode cX0_standsBehind 10 = .ok (.aload_n 0, 1) := od_42 (od_at tB_cX0_standsBehind_0 10 rfl)
theorem dX0_standsBehind_11 : decode cX0_standsBehind 11 = .ok (.getfield 19, 3) := od_180 (od_at tB_cX0_standsBehind_0 11 rfl) (od_at tB_cX0_standsBehind_0 12 rfl) (od_at tB_cX0_standsBehind_0 13 rfl) rfl
theorem dX0_standsBehind_14 : decode cX0_standsBehind 14 = .ok (.iload_n 1, 1) := od_27 (od_at tB_cX0_standsBehind_0 14 rfl)
theorem dX0_standsBehind_15 : decode cX0_standsBehind 15 = .ok (.iaload, 1) := od_46 (od_at tB_cX0_standsBehind_0 15 rfl)
theorem dX0_standsBehind_16 : decode cX0_standsBehind 16 = .ok (.iload_n 2, 1) := od_28 (od_at tB_cX0_standsBehind_1 0 rfl)
theorem dX0_standsBehind_17 : decode cX0_standsBehind 17 = .ok (.if_icmp .ne 17, 3) := od_160 (od_at tB_cX0_standsBehind_1 1 rfl) (od_at tB_cX0_standsBehind_1 2 rfl) (od_at tB_cX0_standsBehind_1 3 rfl) (by decide +kernel)
theorem dX0_standsBehind_20 : decode cX0_standsBehind 20 = .ok (.aload_n 0, 1) := od_42 (od_at tB_cX0_standsBehind_1 4 rfl)
theorem dX0_standsBehind_21 : decode cX0_standsBehind 21 = .ok (.getfield 22, 3) := od_180 (od_at tB_cX0_standsBehind_1 5 rfl) (od_at tB_cX0_standsBehind_1 6 rfl) (od_at tB_cX0_standsBehind_1 7 rfl) rfl
theorem dX0_standsBehind_24 : decode cX0_standsBehind 24 = .ok (.iload_n 1, 1) := od_27 (od_at tB_cX0_standsBehind_1 8 rfl)
theorem dX0_standsBehind_25 : decode cX0_standsBehind 25 = .ok (.iaload, 1) := od_46 (od_at tB_cX0_standsBehind_1 9 rfl)
theorem dX0_standsBehind_26 : decode cX0_standsBehind 26 = .ok (.iload_n 3, 1) := od_29 (od_at tB_cX0_standsBehind_1 10 rfl)
theorem dX0_standsBehind_27 : decode cX0_standsBehind 27 = .ok (.if_icmp .le 7, 3) := od_164 (od_at tB_cX0_standsBehind_1 11 rfl) (od_at tB_cX0_standsBehind_1 12 rfl) (od_at tB_cX0_standsBehind_1 13 rfl) (by decide +kernel)
theorem dX0_standsBehind_30 : decode cX0_standsBehind 30 = .ok (.iconst 1, 1) := od_4 (od_at tB_cX0_standsBehind_1 14 rfl)
theorem dX0_standsBehind_31 : decode cX0_standsBehind 31 = .ok (.goto 4, 3) := od_167 (od_at tB_cX0_standsBehind_1 15 rfl) (od_at tB_cX0_standsBehind_1 16 rfl) (od_at tB_cX0_standsBehind_1 17 rfl) (by decide +kernel)
theorem dX0_standsBehind_34 : decode cX0_standsBehind 34 = .ok (.iconst 0, 1) := od_3 (od_at tB_cX0_standsBehind_2 2 rfl)
theorem dX0_standsBehind_35 : decode cX0_standsBehind 35 = .ok (.ireturn, 1) := od_172 (od_at tB_cX0_standsBehind_2 3 rfl)
def RB_cX0_isOnCurve_3 : List UInt8 := 0x07 :: 0x04 :: 0xa7 :: 0x00 :: 0x04 :: 0x03 :: 0xac :: []
def RB_cX0_isOnCurve_2 : List UInt8 := 0x00 :: 0x13 :: 0x1b :: 0x2e :: 0xa0 :: 0x00 :: 0x0d :: 0x2a :: 0xb4 :: 0x00 :: 0x16 :: 0x1d :: 0x2e :: 0x1c :: 0xa4 :: 0x00 :: RB_cX0_isOnCurve_3
def RB_cX0_isOnCurve_1 : List UInt8 := 0x1d :: 0x2a :: 0xb4 :: 0x00 :: 0x1c :: 0xa2 :: 0x00 :: 0x1c :: 0x2a :: 0xb4 :: 0x00 :: 0x13 :: 0x1d :: 0x2e :: 0x2a :: 0xb4 :: RB_cX0_isOnCurve_2
def RB_cX0_isOnCurve_0 : List UInt8 := 0x2a :: 0xb4 :: 0x00 :: 0x16 :: 0x1b :: 0x2e :: 0x1c :: 0xa4 :: 0x00 :: 0x05 :: 0x03 :: 0xac :: 0x1b :: 0x04 :: 0x60 :: 0x3e :: RB_cX0_isOnCurve_1
theorem tB_cX0_isOnCurve_0 : cX0_isOnCurve.data.toList.drop 0 = RB_cX0_isOnCurve_0 := by decide +kernel
theorem tB_cX0_isOnCurve_1 : cX0_isOnCurve.data.toList.drop 16 = RB_cX0_isOnCurve_1 := od_st tB_cX0_isOnCurve_0 16 rfl
theorem tB_cX0_isOnCurve_2 : cX0_isOnCurve.data.toList.drop 32 = RB_cX0_isOnCurve_2 := od_st tB_cX0_isOnCurve_1 16 rfl
theorem tB_cX0_isOnCurve_3 : cX0_isOnCurve.data.toList.drop 48 = RB_cX0_isOnCurve_3 := od_st tB_cX0_isOnCurve_2 16 rfl
theorem dX0_isOnCurve_0 : decode cX0_isOnCurve 0 = .ok (.aload_n 0, 1) := od_42 (od_at tB_cX0_isOnCurve_0 0 rfl)
theorem dX0_isOnCurve_1 : decode cX0_isOnCurve 1 = .ok (.getfield 22, 3) := od_180 (od_at tB_cX0_isOnCurve_0 1 rfl) (od_at tB_cX0_isOnCurve_0 2 rfl) (od_at tB_cX0_isOnCurve_0 3 rfl) rfl
theorem dX0_isOnCurve_4 : decode cX0_isOnCurve 4 = .ok (.iload_n 1, 1) := od_27 (od_at tB_cX0_isOnCurve_0 4 rfl)
theorem dX0_isOnCurve_5 : decode cX0_isOnCurve 5 = .ok (.iaload, 1) := od_46 (od_at tB_cX0_isOnCurve_0 5 rfl)
theorem dX0_isOnCurve_6 : decode cX0_isOnCurve 6 = .ok (.iload_n 2, 1) := od_28 (od_at tB_cX0_isOnCurve_0 6 rfl)
theorem dX0_isOnCurve_7 : decode cX0_isOnCurve 7 = .ok (.if_icmp .le 5, 3) := od_164 (od_at tB_cX0_isOnCurve_0 7 rfl) (od_at tB_cX0_isOnCurve_0 8 rfl) (od_at tB_cX0_isOnCurve_0 9 rfl) (by decide +kernel)
theorem dX0_isOnCurve_10 : decode cX0_isOnCurve 10 = .ok (.iconst 0, 1) := od_3 (od_at tB_cX0_isOnCurve_0 10 rfl)
theorem dX0_isOnCurve_11 : decode cX0_isOnCurve 11 = .ok (.ireturn, 1) := od_172 (od_at tB_cX0_isOnCurve_0 11 rfl)
theorem dX0_isOnCurve_12 : decode cX0_isOnCurve 12 = .ok (.iload_n 1, 1) := od_27 (od_at tB_cX0_isOnCurve_0 12 rfl)
theorem dX0_isOnCurve_13 : decode cX0_isOnCurve 13 = .ok (.iconst 1, 1) := od_4 (od_at tB_cX0_isOnCurve_0 13 rfl)
theorem dX0_isOnCurve_14 : decode cX0_isOnCurve 14 = .ok (.iadd, 1) := od_96 (od_at tB_cX0_isOnCurve_0 14 rfl)
theorem dX0_isOnCurve_15 : decode cX0_isOnCurve 15 = .ok (.istore_n 3, 1) := od_62 (od_at tB_cX0_isOnCurve_0 15 rfl)
theorem dX0_isOnCurve_16 : decode cX0_isOnCurve 16 = .ok (.iload_n 3, 1) := od_29 (od_at tB_cX0_isOnCurve_1 0 rfl)
theorem dX0_isOnCurve_17 : decode cX0_isOnCurve 17 = .ok (.aload_n 0, 1) := od_42 (od_at tB_cX0_isOnCurve_1 1 rfl)
theorem dX0_isOnCurve_18 : decode cX0_isOnCurve 18 = .ok (.getfield 28, 3) := od_180 (od_at tB_cX0_isOnCurve_1 2 rfl) (od_at tB_cX0_isOnCurve_1 3 rfl) (od_at tB_cX0_isOnCurve_1 4 rfl) rfl
theorem dX0_isOnCurve_21 : decode cX0_isOnCurve 21 = .ok (.if_icmp .ge 28, 3) := od_162 (od_at tB_cX0_isOnCurve_1 5 rfl) (od_at tB_cX0_isOnCurve_1 6 rfl) (od_at tB_cX0_isOnCurve_1 7 rfl) (by decide +kernel)
theorem dX0_isOnCurve_24 : decode cX0_isOnCurve 24 = .ok (.aload_n 0, 1) := od_42 (od_at tB_cX0_isOnCurve_1 8 rfl)
theorem dX0_isOnCurve_25 : decode cX0_isOnCurve 25 = .ok (.getfield 19, 3) := od_180 (od_at tB_cX0_isOnCurve_1 9 rfl) (od_at tB_cX0_isOnCurve_1 10 rfl) (od_at tB_cX0_isOnCurve_1 11 rfl) rfl
theorem dX0_isOnCurve_28 : decode cX0_isOnCurve 28 = .ok (.iload_n 3, 1) := od_29 (od_at tB_cX0_isOnCurve_1 12 rfl)
theorem dX0_isOnCurve_29 : decode cX0_isOnCurve 29 = .ok (.iaload, 1) := od_46 (od_at tB_cX0_isOnCurve_1 13 rfl)
theorem dX0_isOnCurve_30 : decode cX0_isOnCurve 30 = .ok (.aload_n 0, 1) := od_42 (od_at tB_cX0_isOnCurve_1 14 rfl)
theorem dX0_isOnCurve_31 : decode cX0_isOnCurve 31 = .ok (.getfield 19, 3) := od_180 (od_at tB_cX0_isOnCurve_1 15 rfl) (od_at tB_cX0_isOnCurve_1 16 rfl) (od_at tB_cX0_isOnCurve_1 17 rfl) rfl
theorem dX0_isOnCurve_34 : decode cX0_isOnCurve 34 = .ok (.iload_n 1, 1) := od_27 (od_at tB_cX0_isOnCurve_2 2 rfl)
theorem dX0_isOnCurve_35 : decode cX0_isOnCurve 35 = .ok (.iaload, 1) := od_46 (od_at tB_cX0_isOnCurve_2 3 rfl)
theorem dX0_isOnCurve_36 : decode cX0_isOnCurve 36 = .ok (.if_icmp .ne 13, 3) := od_160 (od_at tB_cX0_isOnCurve_2 4 rfl) (od_at tB_cX0_isOnCurve_2 5 rfl) (od_at tB_cX0_isOnCurve_2 6 rfl) (by decide +kernel)
theorem dX0_isOnCurve_39 : decode cX0_isOnCurve 39 = .ok (.aload_n 0, 1) := od_42 (od_at tB_cX0_isOnCurve_2 7 rfl)
theorem dX0_isOnCurve_40 : decode cX0_isOnCurve 40 = .ok (.getfield 22, 3) := od_180 (od_at tB_cX0_isOnCurve_2 8 rfl) (od_at tB_cX0_isOnCurve_2 9 rfl) (od_at tB_cX0_isOnCurve_2 10 rfl) rfl
theorem dX0_isOnCurve_43 : decode cX0_isOnCurve 43 = .ok (.iload_n 3, 1) := od_29 (od_at tB_cX0_isOnCurve_2 11 rfl)
theorem dX0_isOnCurve_44 : decode cX0_isOnCurve 44 = .ok (.iaload, 1) := od_46 (od_at tB_cX0_isOnCurve_2 12 rfl)
theorem dX0_isOnCurve_45 : decode cX0_isOnCurve 45 = .ok (.iload_n 2, 1) := od_28 (od_at tB_cX0_isOnCurve_2 13 rfl)
theorem dX0_isOnCurve_46 : decode cX0_isOnCurve 46 = .ok (.if_icmp .le 7, 3) := od_164 (od_at tB_cX0_isOnCurve_2 14 rfl) (od_at tB_cX0_isOnCurve_2 15 rfl) (od_at tB_cX0_isOnCurve_2 16 rfl) (by decide +kernel)
theorem dX0_isOnCurve_49 : decode cX0_isOnCurve 49 = .ok (.iconst 1, 1) := od_4 (od_at tB_cX0_isOnCurve_3 1 rfl)
theorem dX0_isOnCurve_50 : decode cX0_isOnCurve 50 = .ok (.goto 4, 3) := od_167 (od_at tB_cX0_isOnCurve_3 2 rfl) (od_at tB_cX0_isOnCurve_3 3 rfl) (od_at tB_cX0_isOnCurve_3 4 rfl) (by decide +kernel)
theorem dX0_isOnCurve_53 : decode cX0_isOnCurve 53 = .ok (.iconst 0, 1) := od_3 (od_at tB_cX0_isOnCurve_3 5 rfl)
theorem dX0_isOnCurve_54 : decode cX0_isOnCurve 54 = .ok (.ireturn, 1) := od_172 (od_at tB_cX0_isOnCurve_3 6 rfl)
def RB_cX0_curveSize_2 : List UInt8 := 0xa7 :: 0xff :: 0xe4 :: 0x1c :: 0xac :: []
def RB_cX0_curveSize_1 : List UInt8 := 0xb6 :: 0x00 :: 0x26 :: 0x99 :: 0x00 :: 0x07 :: 0x04 :: 0xa7 :: 0x00 :: 0x04 :: 0x03 :: 0x60 :: 0x3d :: 0x84 :: 0x03 :: 0x01 :: RB_cX0_curveSize_2
def RB_cX0_curveSize_0 : List UInt8 := 0x03 :: 0x3d :: 0x03 :: 0x3e :: 0x1d :: 0x2a :: 0xb4 :: 0x00 :: 0x1c :: 0xa2 :: 0x00 :: 0x1a :: 0x1c :: 0x2a :: 0x1d :: 0x1b :: RB_cX0_curveSize_1
theorem tB_cX0_curveSize_0 : cX0_curveSize.data.toList.drop 0 = RB_cX0_curveSize_0 := by decide +kernel
theorem tB_cX0_curveSize_1 : cX0_curveSize.data.toList.drop 16 = RB_cX0_curveSize_1 := od_st tB_cX0_curveSize_0 16 rfl
theorem tB_cX0_curveSize_2 : cX0_curveSize.data.toList.drop 32 = RB_cX0_curveSize_2 := od_st tB_cX0_curveSize_1 16 rfl
theorem dX0_curveSize_0 : decode cX0_curveSize 0 = .ok (.iconst 0, 1) := od_3 (od_at tB_cX0_curveSize_0 0 rfl)
theorem dX0_curveSize_1 : decode cX0_curveSize 1 = .ok (.istore_n 2, 1) := od_61 (od_at tB_cX0_curveSize_0 1 rfl)
theorem dX0_curveSize_2 : decode cX0_curveSize 2 = .ok (.iconst 0, 1) := od_3 (od_at tB_cX0_curveSize_0 2 rfl)
theorem dX0_curveSize_3 : decode cX0_curveSize 3 = .ok (.istore_n 3, 1) := od_62 (od_at tB_cX0_curveSize_0 3 rfl)
theorem dX0_curveSize_4 : decode cX0_curveSize 4 = .ok (.iload_n 3, 1) := od_29 (od_at tB_cX0_curveSize_0 4 rfl)
theorem dX0_curveSize_5 : decode cX0_curveSize 5 = .ok (.aload_n 0, 1) := od_42 (od_at tB_cX0_curveSize_0 5 rfl)
theorem dX0_curveSize_6 : decode cX0_curveSize 6 = .ok (.getfield 28, 3) := od_180 (od_at tB_cX0_curveSize_0 6 rfl) (od_at tB_cX0_curveSize_0 7 rfl) (od_at tB_cX0_curveSize_0 8 rfl) rfl
theorem dX0_curveSize_9 : decode cX0_curveSize 9 = .ok (.if_icmp .ge 26, 3) := od_162 (od_at tB_cX0_curveSize_0 9 rfl) (od_at tB_cX0_curveSize_0 10 rfl) (od_at tB_cX0_curveSize_0 11 rfl) (by decide +kernel)
theorem dX0_curveSize_12 : decode cX0_curveSize 12 = .ok (.iload_n 2, 1) := od_28 (od_at tB_cX0_curveSize_0 12 rfl)
theorem dX0_curveSize_13 : decode cX0_curveSize 13 = .ok (.aload_n 0, 1) := od_42 (od_at tB_cX0_curveSize_0 13 rfl)
theorem dX0_curveSize_14 : decode cX0_curveSize 14 = .ok (.iload_n 3, 1) := od_29 (od_at tB_cX0_curveSize_0 14 rfl)
theorem dX0_curveSize_15 : decode cX0_curveSize 15 = .ok (.iload_n 1, 1) := od_27 (od_at tB_cX0_curveSize_0 15 rfl)
theorem dX0_curveSize_16 : decode cX0_curveSize 16 = .ok (.invokevirtual 38, 3) := od_182 (od_at tB_cX0_curveSize_1 0 rfl) (od_at tB_cX0_curveSize_1 1 rfl) (od_at tB_cX0_curveSize_1 2 rfl) rfl
theorem dX0_curveSize_19 : decode cX0_curveSize 19 = .ok (.ifCond .eq 7, 3) := od_153 (od_at tB_cX0_curveSize_1 3 rfl) (od_at tB_cX0_curveSize_1 4 rfl) (od_at tB_cX0_curveSize_1 5 rfl) (by decide +kernel)
theorem dX0_curveSize_22 : decode cX0_curveSize 22 = .ok (.iconst 1, 1) := od_4 (od_at tB_cX0_curveSize_1 6 rfl)
theorem dX0_curveSize_23 : decode cX0_curveSize 23 = .ok (.goto 4, 3) := od_167 (od_at tB_cX0_curveSize_1 7 rfl) (od_at tB_cX0_curveSize_1 8 rfl) (od_at tB_cX0_curveSize_1 9 rfl) (by decide +kernel)
theorem dX0_curveSize_26 : decode cX0_curveSize 26 = .ok (.iconst 0, 1) := od_3 (od_at tB_cX0_curveSize_1 10 rfl)
theorem dX0_curveSize_27 : decode cX0_curveSize 27 = .ok (.iadd, 1) := od_96 (od_at tB_cX0_curveSize_1 11 rfl)
theorem dX0_curveSize_28 : decode cX0_curveSize 28 = .ok (.istore_n 2, 1) := od_61 (od_at tB_cX0_curveSize_1 12 rfl)
theorem dX0_curveSize_29 : decode cX0_curveSize 29 = .ok (.iinc 3 1, 3) := od_132 (od_at tB_cX0_curveSize_1 13 rfl) (od_at tB_cX0_curveSize_1 14 rfl) (od_at tB_cX0_curveSize_1 15 rfl) rfl (by decide +kernel)
theorem dX0_curveSize_32 : decode cX0_curveSize 32 = .ok (.goto (-28), 3) := od_167 (od_at tB_cX0_curveSize_2 0 rfl) (od_at tB_cX0_curveSize_2 1 rfl) (od_at tB_cX0_curveSize_2 2 rfl) (by decide +kernel)
theorem dX0_curveSize_35 : decode cX0_curveSize 35 = .ok (.iload_n 2, 1) := od_28 (od_at tB_cX0_curveSize_2 3 rfl)
theorem dX0_curveSize_36 : decode cX0_curveSize 36 = .ok (.ireturn, 1) := od_172 (od_at tB_cX0_curveSize_2 4 rfl)
def RB_cX0_curvePlace_2 : List UInt8 := 0x84 :: 0x03 :: 0x01 :: 0x84 :: 0x04 :: 0x01 :: 0xa7 :: 0xff :: 0xdf :: 0x10 :: 0xf7 :: 0xac :: []
def RB_cX0_curvePlace_1 : List UInt8 := 0x04 :: 0x1b :: 0xb6 :: 0x00 :: 0x26 :: 0x99 :: 0x00 :: 0x0e :: 0x1d :: 0x1c :: 0xa0 :: 0x00 :: 0x06 :: 0x15 :: 0x04 :: 0xac :: RB_cX0_curvePlace_2
def RB_cX0_curvePlace_0 : List UInt8 := 0x03 :: 0x3e :: 0x03 :: 0x36 :: 0x04 :: 0x15 :: 0x04 :: 0x2a :: 0xb4 :: 0x00 :: 0x1c :: 0xa2 :: 0x00 :: 0x1e :: 0x2a :: 0x15 :: RB_cX0_curvePlace_1
theorem tB_cX0_curvePlace_0 : cX0_curvePlace.data.toList.drop 0 = RB_cX0_curvePlace_0 := by decide +kernel
theorem tB_cX0_curvePlace_1 : cX0_curvePlace.data.toList.drop 16 = RB_cX0_curvePlace_1 := od_st tB_cX0_curvePlace_0 16 rfl
theorem tB_cX0_curvePlace_2 : cX0_curvePlace.data.toList.drop 32 = RB_cX0_curvePlace_2 := od_st tB_cX0_curvePlace_1 16 rfl
theorem dX0_curvePlace_0 : decode cX0_curvePlace 0 = .ok (.iconst 0, 1) := od_3 (od_at tB_cX0_curvePlace_0 0 rfl)
theorem dX0_curvePlace_1 : decode cX0_curvePlace 1 = .ok (.istore_n 3, 1) := od_62 (od_at tB_cX0_curvePlace_0 1 rfl)
theorem dX0_curvePlace_2 : decode cX0_curvePlace 2 = .ok (.iconst 0, 1) := od_3 (od_at tB_cX0_curvePlace_0 2 rfl)
theorem dX0_curvePlace_3 : decode cX0_curvePlace 3 = .ok (.istore 4, 2) := od_54 (od_at tB_cX0_curvePlace_0 3 rfl) (od_at tB_cX0_curvePlace_0 4 rfl) rfl
theorem dX0_curvePlace_5 : decode cX0_curvePlace 5 = .ok (.iload 4, 2) := od_21 (od_at tB_cX0_curvePlace_0 5 rfl) (od_at tB_cX0_curvePlace_0 6 rfl) rfl
theorem dX0_curvePlace_7 : decode cX0_curvePlace 7 = .ok (.aload_n 0, 1) := od_42 (od_at tB_cX0_curvePlace_0 7 rfl)
theorem dX0_curvePlace_8 : decode cX0_curvePlace 8 = .ok (.getfield 28, 3) := od_180 (od_at tB_cX0_curvePlace_0 8 rfl) (od_at tB_cX0_curvePlace_0 9 rfl) (od_at tB_cX0_curvePlace_0 10 rfl) rfl
theorem dX0_curvePlace_11 : decode cX0_curvePlace 11 = .ok (.if_icmp .ge 30, 3) := od_162 (od_at tB_cX0_curvePlace_0 11 rfl) (od_at tB_cX0_curvePlace_0 12 rfl) (od_at tB_cX0_curvePlace_0 13 rfl) (by decide +kernel)
theorem dX0_curvePlace_14 : decode cX0_curvePlace 14 = .ok (.aload_n 0, 1) := od_42 (od_at tB_cX0_curvePlace_0 14 rfl)
theorem dX0_curvePlace_15 : decode cX0_curvePlace 15 = .ok (.iload 4, 2) := od_21 (od_at tB_cX0_curvePlace_0 15 rfl) (od_at tB_cX0_curvePlace_0 16 rfl) rfl
theorem dX0_curvePlace_17 : decode cX0_curvePlace 17 = .ok (.iload_n 1, 1) := od_27 (od_at tB_cX0_curvePlace_1 1 rfl)
theorem dX0_curvePlace_18 : decode cX0_curvePlace 18 = .ok (.invokevirtual 38, 3) := od_182 (od_at tB_cX0_curvePlace_1 2 rfl) (od_at tB_cX0_curvePlace_1 3 rfl) (od_at tB_cX0_curvePlace_1 4 rfl) rfl
theorem dX0_curvePlace_21 : decode cX0_curvePlace 21 = .ok (.ifCond .eq 14, 3) := od_153 (od_at tB_cX0_curvePlace_1 5 rfl) (od_at tB_cX0_curvePlace_1 6 rfl) (od_at tB_cX0_curvePlace_1 7 rfl) (by decide +kernel)
theorem dX0_curvePlace_24 : decode cX0_curvePlace 24 = .ok (.iload_n 3, 1) := od_29 (od_at tB_cX0_curvePlace_1 8 rfl)
theorem dX0_curvePlace_25 : decode cX0_curvePlace 25 = .ok (.iload_n 2, 1) := od_28 (od_at tB_cX0_curvePlace_1 9 rfl)
theorem dX0_curvePlace_26 : decode cX0_curvePlace 26 = .ok (.if_icmp .ne 6, 3) := od_160 (od_at tB_cX0_curvePlace_1 10 rfl) (od_at tB_cX0_curvePlace_1 11 rfl) (od_at tB_cX0_curvePlace_1 12 rfl) (by decide +kernel)
theorem dX0_curvePlace_29 : decode cX0_curvePlace 29 = .ok (.iload 4, 2) := od_21 (od_at tB_cX0_curvePlace_1 13 rfl) (od_at tB_cX0_curvePlace_1 14 rfl) rfl
theorem dX0_curvePlace_31 : decode cX0_curvePlace 31 = .ok (.ireturn, 1) := od_172 (od_at tB_cX0_curvePlace_1 15 rfl)
theorem dX0_curvePlace_32 : decode cX0_curvePlace 32 = .ok (.iinc 3 1, 3) := od_132 (od_at tB_cX0_curvePlace_2 0 rfl) (od_at tB_cX0_curvePlace_2 1 rfl) (od_at tB_cX0_curvePlace_2 2 rfl) rfl (by decide +kernel)
theorem dX0_curvePlace_35 : decode cX0_curvePlace 35 = .ok (.iinc 4 1, 3) := od_132 (od_at tB_cX0_curvePlace_2 3 rfl) (od_at tB_cX0_curvePlace_2 4 rfl) (od_at tB_cX0_curvePlace_2 5 rfl) rfl (by decide +kernel)
theorem dX0_curvePlace_38 : decode cX0_curvePlace 38 = .ok (.goto (-33), 3) := od_167 (od_at tB_cX0_curvePlace_2 6 rfl) (od_at tB_cX0_curvePlace_2 7 rfl) (od_at tB_cX0_curvePlace_2 8 rfl) (by decide +kernel)
theorem dX0_curvePlace_41 : decode cX0_curvePlace 41 = .ok (.bipush (-9), 2) := od_16 (od_at tB_cX0_curvePlace_2 9 rfl) (od_at tB_cX0_curvePlace_2 10 rfl) (by decide +kernel)
theorem dX0_curvePlace_43 : decode cX0_curvePlace 43 = .ok (.ireturn, 1) := od_172 (od_at tB_cX0_curvePlace_2 11 rfl)
def RB_cX0_factorAt_7 : List UInt8 := 0x0b :: 0x2a :: 0x1d :: 0x15 :: 0x04 :: 0x1b :: 0xb6 :: 0x00 :: 0x2b :: 0xac :: []
def RB_cX0_factorAt_6 : List UInt8 := 0xac :: 0x15 :: 0x04 :: 0x10 :: 0xf7 :: 0xa0 :: 0x00 :: 0x0c :: 0x2a :: 0xb4 :: 0x00 :: 0x19 :: 0x1d :: 0x2e :: 0xa7 :: 0x00 :: RB_cX0_factorAt_7
def RB_cX0_factorAt_5 : List UInt8 := 0xf7 :: 0xa0 :: 0x00 :: 0x08 :: 0x12 :: 0x2a :: 0xa7 :: 0x00 :: 0x0a :: 0x2a :: 0xb4 :: 0x00 :: 0x19 :: 0x15 :: 0x04 :: 0x2e :: RB_cX0_factorAt_6
def RB_cX0_factorAt_4 : List UInt8 := 0x04 :: 0x84 :: 0x05 :: 0x01 :: 0xa7 :: 0xff :: 0xc6 :: 0x1d :: 0x10 :: 0xf7 :: 0xa0 :: 0x00 :: 0x17 :: 0x15 :: 0x04 :: 0x10 :: RB_cX0_factorAt_5
def RB_cX0_factorAt_3 : List UInt8 := 0x05 :: 0x2e :: 0x1b :: 0xa1 :: 0x00 :: 0x0e :: 0x15 :: 0x04 :: 0x10 :: 0xf7 :: 0xa0 :: 0x00 :: 0x07 :: 0x15 :: 0x05 :: 0x36 :: RB_cX0_factorAt_4
def RB_cX0_factorAt_2 : List UInt8 := 0x13 :: 0x15 :: 0x05 :: 0x2e :: 0x1b :: 0xa3 :: 0x00 :: 0x06 :: 0x15 :: 0x05 :: 0x3e :: 0x2a :: 0xb4 :: 0x00 :: 0x13 :: 0x15 :: RB_cX0_factorAt_3
def RB_cX0_factorAt_1 : List UInt8 := 0xa2 :: 0x00 :: 0x37 :: 0x2a :: 0x15 :: 0x05 :: 0x1c :: 0xb6 :: 0x00 :: 0x26 :: 0x99 :: 0x00 :: 0x27 :: 0x2a :: 0xb4 :: 0x00 :: RB_cX0_factorAt_2
def RB_cX0_factorAt_0 : List UInt8 := 0x10 :: 0xf7 :: 0x3e :: 0x10 :: 0xf7 :: 0x36 :: 0x04 :: 0x03 :: 0x36 :: 0x05 :: 0x15 :: 0x05 :: 0x2a :: 0xb4 :: 0x00 :: 0x1c :: RB_cX0_factorAt_1
theorem tB_cX0_factorAt_0 : cX0_factorAt.data.toList.drop 0 = RB_cX0_factorAt_0 := by decide +kernel
theorem tB_cX0_factorAt_1 : cX0_factorAt.data.toList.drop 16 = RB_cX0_factorAt_1 := od_st tB_cX0_factorAt_0 16 rfl
theorem tB_cX0_factorAt_2 : cX0_factorAt.data.toList.drop 32 = RB_cX0_factorAt_2 := od_st tB_cX0_factorAt_1 16 rfl
theorem tB_cX0_factorAt_3 : cX0_factorAt.data.toList.drop 48 = RB_cX0_factorAt_3 := od_st tB_cX0_factorAt_2 16 rfl
theorem tB_cX0_factorAt_4 : cX0_factorAt.data.toList.drop 64 = RB_cX0_factorAt_4 := od_st tB_cX0_factorAt_3 16 rfl
theorem tB_cX0_factorAt_5 : cX0_factorAt.data.toList.drop 80 = RB_cX0_factorAt_5 := od_st tB_cX0_factorAt_4 16 rfl
theorem tB_cX0_factorAt_6 : cX0_factorAt.data.toList.drop 96 = RB_cX0_factorAt_6 := od_st tB_cX0_factorAt_5 16 rfl
theorem tB_cX0_factorAt_7 : cX0_factorAt.data.toList.drop 112 = RB_cX0_factorAt_7 := od_st tB_cX0_factorAt_6 16 rfl
theorem dX0_factorAt_0 : decode cX0_factorAt 0 = .ok (.bipush (-9), 2) := od_16 (od_at tB_cX0_factorAt_0 0 rfl) (od_at tB_cX0_factorAt_0 1 rfl) (by decide +kernel)
theorem dX0_factorAt_2 : decode cX0_factorAt 2 = .ok (.istore_n 3, 1) := od_62 (od_at tB_cX0_factorAt_0 2 rfl)
theorem dX0_factorAt_3 : decode cX0_factorAt 3 = .ok (.bipush (-9), 2) := od_16 (od_at tB_cX0_factorAt_0 3 rfl) (od_at tB_cX0_factorAt_0 4 rfl) (by decide +kernel)
theorem dX0_factorAt_5 : decode cX0_factorAt 5 = .ok (.istore 4, 2) := od_54 (od_at tB_cX0_factorAt_0 5 rfl) (od_at tB_cX0_factorAt_0 6 rfl) rfl
theorem dX0_factorAt_7 : decode cX0_factorAt 7 = .ok (.iconst 0, 1) := od_3 (od_at tB_cX0_factorAt_0 7 rfl)
theorem dX0_factorAt_8 : decode cX0_factorAt 8 = .ok (.istore 5, 2) := od_54 (od_at tB_cX0_factorAt_0 8 rfl) (od_at tB_cX0_factorAt_0 9 rfl) rfl
theorem dX0_factorAt_10 : decode cX0_factorAt 10 = .ok (.iload 5, 2) := od_21 (od_at tB_cX0_factorAt_0 10 rfl) (od_at tB_cX0_factorAt_0 11 rfl) rfl
theorem dX0_factorAt_12 : decode cX0_factorAt 12 = .ok (.aload_n 0, 1) := od_42 (od_at tB_cX0_factorAt_0 12 rfl)
theorem dX0_factorAt_13 : decode cX0_factorAt 13 = .ok (.getfield 28, 3) := od_180 (od_at tB_cX0_factorAt_0 13 rfl) (od_at tB_cX0_factorAt_0 14 rfl) (od_at tB_cX0_factorAt_0 15 rfl) rfl
theorem dX0_factorAt_16 : decode cX0_factorAt 16 = .ok (.if_icmp .ge 55, 3) := od_162 (od_at tB_cX0_factorAt_1 0 rfl) (od_at tB_cX0_factorAt_1 1 rfl) (od_at tB_cX0_factorAt_1 2 rfl) (by decide +kernel)
theorem dX0_factorAt_19 : decode cX0_factorAt 19 = .ok (.aload_n 0, 1) := od_42 (od_at tB_cX0_factorAt_1 3 rfl)
theorem dX0_factorAt_20 : decode cX0_factorAt 20 = .ok (.iload 5, 2) := od_21 (od_at tB_cX0_factorAt_1 4 rfl) (od_at tB_cX0_factorAt_1 5 rfl) rfl
theorem dX0_factorAt_22 : decode cX0_factorAt 22 = .ok (.iload_n 2, 1) := od_28 (od_at tB_cX0_factorAt_1 6 rfl)
theorem dX0_factorAt_23 : decode cX0_factorAt 23 = .ok (.invokevirtual 38, 3) := od_182 (od_at tB_cX0_factorAt_1 7 rfl) (od_at tB_cX0_factorAt_1 8 rfl) (od_at tB_cX0_factorAt_1 9 rfl) rfl
theorem dX0_factorAt_26 : decode cX0_factorAt 26 = .ok (.ifCond .eq 39, 3) := od_153 (od_at tB_cX0_factorAt_1 10 rfl) (od_at tB_cX0_factorAt_1 11 rfl) (od_at tB_cX0_factorAt_1 12 rfl) (by decide +kernel)
theorem dX0_factorAt_29 : decode cX0_factorAt 29 = .ok (.aload_n 0, 1) := od_42 (od_at tB_cX0_factorAt_1 13 rfl)
theorem dX0_factorAt_30 : decode cX0_factorAt 30 = .ok (.getfield 19, 3) := od_180 (od_at tB_cX0_factorAt_1 14 rfl) (od_at tB_cX0_factorAt_1 15 rfl) (od_at tB_cX0_factorAt_1 16 rfl) rfl
theorem dX0_factorAt_33 : decode cX0_factorAt 33 = .ok (.iload 5, 2) := od_21 (od_at tB_cX0_factorAt_2 1 rfl) (od_at tB_cX0_factorAt_2 2 rfl) rfl
theorem dX0_factorAt_35 : decode cX0_factorAt 35 = .ok (.iaload, 1) := od_46 (od_at tB_cX0_factorAt_2 3 rfl)
theorem dX0_factorAt_36 : decode cX0_factorAt 36 = .ok (.iload_n 1, 1) := od_27 (od_at tB_cX0_factorAt_2 4 rfl)
theorem dX0_factorAt_37 : decode cX0_factorAt 37 = .ok (.if_icmp .gt 6, 3) := od_163 (od_at tB_cX0_factorAt_2 5 rfl) (od_at tB_cX0_factorAt_2 6 rfl) (od_at tB_cX0_factorAt_2 7 rfl) (by decide +kernel)
theorem dX0_factorAt_40 : decode cX0_factorAt 40 = .ok (.iload 5, 2) := od_21 (od_at tB_cX0_factorAt_2 8 rfl) (od_at tB_cX0_factorAt_2 9 rfl) rfl
theorem dX0_factorAt_42 : decode cX0_factorAt 42 = .ok (.istore_n 3, 1) := od_62 (od_at tB_cX0_factorAt_2 10 rfl)
theorem dX0_factorAt_43 : decode cX0_factorAt 43 = .ok (.aload_n 0, 1) := od_42 (od_at tB_cX0_factorAt_2 11 rfl)
theorem dX0_factorAt_44 : decode cX0_factorAt 44 = .ok (.getfield 19, 3) := od_180 (od_at tB_cX0_factorAt_2 12 rfl) (od_at tB_cX0_factorAt_2 13 rfl) (od_at tB_cX0_factorAt_2 14 rfl) rfl
theorem dX0_factorAt_47 : decode cX0_factorAt 47 = .ok (.iload 5, 2) := od_21 (od_at tB_cX0_factorAt_2 15 rfl) (od_at tB_cX0_factorAt_2 16 rfl) rfl
theorem dX0_factorAt_49 : decode cX0_factorAt 49 = .ok (.iaload, 1) := od_46 (od_at tB_cX0_factorAt_3 1 rfl)
theorem dX0_factorAt_50 : decode cX0_factorAt 50 = .ok (.iload_n 1, 1) := od_27 (od_at tB_cX0_factorAt_3 2 rfl)
theorem dX0_factorAt_51 : decode cX0_factorAt 51 = .ok (.if_icmp .lt 14, 3) := od_161 (od_at tB_cX0_factorAt_3 3 rfl) (od_at tB_cX0_factorAt_3 4 rfl) (od_at tB_cX0_factorAt_3 5 rfl) (by decide +kernel)
theorem dX0_factorAt_54 : decode cX0_factorAt 54 = .ok (.iload 4, 2) := od_21 (od_at tB_cX0_factorAt_3 6 rfl) (od_at tB_cX0_factorAt_3 7 rfl) rfl
theorem dX0_factorAt_56 : decode cX0_factorAt 56 = .ok (.bipush (-9), 2) := od_16 (od_at tB_cX0_factorAt_3 8 rfl) (od_at tB_cX0_factorAt_3 9 rfl) (by decide +kernel)
theorem dX0_factorAt_58 : decode cX0_factorAt 58 = .ok (.if_icmp .ne 7, 3) := od_160 (od_at tB_cX0_factorAt_3 10 rfl) (od_at tB_cX0_factorAt_3 11 rfl) (od_at tB_cX0_factorAt_3 12 rfl) (by decide +kernel)
theorem dX0_factorAt_61 : decode cX0_factorAt 61 = .ok (.iload 5, 2) := od_21 (od_at tB_cX0_factorAt_3 13 rfl) (od_at tB_cX0_factorAt_3 14 rfl) rfl
theorem dX0_factorAt_63 : decode cX0_factorAt 63 = .ok (.istore 4, 2) := od_54 (od_at tB_cX0_factorAt_3 15 rfl) (od_at tB_cX0_factorAt_3 16 rfl) rfl
theorem dX0_factorAt_65 : decode cX0_factorAt 65 = .ok (.iinc 5 1, 3) := od_132 (od_at tB_cX0_factorAt_4 1 rfl) (od_at tB_cX0_factorAt_4 2 rfl) (od_at tB_cX0_factorAt_4 3 rfl) rfl (by decide +kernel)
theorem dX0_factorAt_68 : decode cX0_factorAt 68 = .ok (.goto (-58), 3) := od_167 (od_at tB_cX0_factorAt_4 4 rfl) (od_at tB_cX0_factorAt_4 5 rfl) (od_at tB_cX0_factorAt_4 6 rfl) (by decide +kernel)
theorem dX0_factorAt_71 : decode cX0_factorAt 71 = .ok (.iload_n 3, 1) := od_29 (od_at tB_cX0_factorAt_4 7 rfl)
theorem dX0_factorAt_72 : decode cX0_factorAt 72 = .ok (.bipush (-9), 2) := od_16 (od_at tB_cX0_factorAt_4 8 rfl) (od_at tB_cX0_factorAt_4 9 rfl) (by decide +kernel)
theorem dX0_factorAt_74 : decode cX0_factorAt 74 = .ok (.if_icmp .ne 23, 3) := od_160 (od_at tB_cX0_factorAt_4 10 rfl) (od_at tB_cX0_factorAt_4 11 rfl) (od_at tB_cX0_factorAt_4 12 rfl) (by decide +kernel)
theorem dX0_factorAt_77 : decode cX0_factorAt 77 = .ok (.iload 4, 2) := od_21 (od_at tB_cX0_factorAt_4 13 rfl) (od_at tB_cX0_factorAt_4 14 rfl) rfl
theorem dX0_factorAt_79 : decode cX0_factorAt 79 = .ok (.bipush (-9), 2) := od_16 (od_at tB_cX0_factorAt_4 15 rfl) (od_at tB_cX0_factorAt_4 16 rfl) (by decide +kernel)
theorem dX0_factorAt_81 : decode cX0_factorAt 81 = .ok (.if_icmp .ne 8, 3) := od_160 (od_at tB_cX0_factorAt_5 1 rfl) (od_at tB_cX0_factorAt_5 2 rfl) (od_at tB_cX0_factorAt_5 3 rfl) (by decide +kernel)
theorem dX0_factorAt_84 : decode cX0_factorAt 84 = .ok (.ldc 42, 2) := od_18 (od_at tB_cX0_factorAt_5 4 rfl) (od_at tB_cX0_factorAt_5 5 rfl) rfl
theorem dX0_factorAt_86 : decode cX0_factorAt 86 = .ok (.goto 10, 3) := od_167 (od_at tB_cX0_factorAt_5 6 rfl) (od_at tB_cX0_factorAt_5 7 rfl) (od_at tB_cX0_factorAt_5 8 rfl) (by decide +kernel)
theorem dX0_factorAt_89 : decode cX0_factorAt 89 = .ok (.aload_n 0, 1) := od_42 (od_at tB_cX0_factorAt_5 9 rfl)
theorem dX0_factorAt_90 : decode cX0_factorAt 90 = .ok (.getfield 25, 3) := od_180 (od_at tB_cX0_factorAt_5 10 rfl) (od_at tB_cX0_factorAt_5 11 rfl) (od_at tB_cX0_factorAt_5 12 rfl) rfl
theorem dX0_factorAt_93 : decode cX0_factorAt 93 = .ok (.iload 4, 2) := od_21 (od_at tB_cX0_factorAt_5 13 rfl) (od_at tB_cX0_factorAt_5 14 rfl) rfl
theorem dX0_factorAt_95 : decode cX0_factorAt 95 = .ok (.iaload, 1) := od_46 (od_at tB_cX0_factorAt_5 15 rfl)
theorem dX0_factorAt_96 : decode cX0_factorAt 96 = .ok (.ireturn, 1) := od_172 (od_at tB_cX0_factorAt_6 0 rfl)
theorem dX0_factorAt_97 : decode cX0_factorAt 97 = .ok (.iload 4, 2) := od_21 (od_at tB_cX0_factorAt_6 1 rfl) (od_at tB_cX0_factorAt_6 2 rfl) rfl
theorem dX0_factorAt_99 : decode cX0_factorAt 99 = .ok (.bipush (-9), 2) := od_16 (od_at tB_cX0_factorAt_6 3 rfl) (od_at tB_cX0_factorAt_6 4 rfl) (by decide +kernel)
theorem dX0_factorAt_101 : decode cX0_factorAt 101 = .ok (.if_icmp .ne 12, 3) := od_160 (od_at tB_cX0_factorAt_6 5 rfl) (od_at tB_cX0_factorAt_6 6 rfl) (od_at tB_cX0_factorAt_6 7 rfl) (by decide +kernel)
theorem dX0_factorAt_104 : decode cX0_factorAt 104 = .ok (.aload_n 0, 1) := od_42 (od_at tB_cX0_factorAt_6 8 rfl)
theorem dX0_factorAt_105 : decode cX0_factorAt 105 = .ok (.getfield 25, 3) := od_180 (od_at tB_cX0_factorAt_6 9 rfl) (od_at tB_cX0_factorAt_6 10 rfl) (od_at tB_cX0_factorAt_6 11 rfl) rfl
theorem dX0_factorAt_108 : decode cX0_factorAt 108 = .ok (.iload_n 3, 1) := od_29 (od_at tB_cX0_factorAt_6 12 rfl)
theorem dX0_factorAt_109 : decode cX0_factorAt 109 = .ok (.iaload, 1) := od_46 (od_at tB_cX0_factorAt_6 13 rfl)
theorem dX0_factorAt_110 : decode cX0_factorAt 110 = .ok (.goto 11, 3) := od_167 (od_at tB_cX0_factorAt_6 14 rfl) (od_at tB_cX0_factorAt_6 15 rfl) (od_at tB_cX0_factorAt_6 16 rfl) (by decide +kernel)
theorem dX0_factorAt_113 : decode cX0_factorAt 113 = .ok (.aload_n 0, 1) := od_42 (od_at tB_cX0_factorAt_7 1 rfl)
theorem dX0_factorAt_114 : decode cX0_factorAt 114 = .ok (.iload_n 3, 1) := od_29 (od_at tB_cX0_factorAt_7 2 rfl)
theorem dX0_factorAt_115 : decode cX0_factorAt 115 = .ok (.iload 4, 2) := od_21 (od_at tB_cX0_factorAt_7 3 rfl) (od_at tB_cX0_factorAt_7 4 rfl) rfl
theorem dX0_factorAt_117 : decode cX0_factorAt 117 = .ok (.iload_n 1, 1) := od_27 (od_at tB_cX0_factorAt_7 5 rfl)
theorem dX0_factorAt_118 : decode cX0_factorAt 118 = .ok (.invokevirtual 43, 3) := od_182 (od_at tB_cX0_factorAt_7 6 rfl) (od_at tB_cX0_factorAt_7 7 rfl) (od_at tB_cX0_factorAt_7 8 rfl) rfl
theorem dX0_factorAt_121 : decode cX0_factorAt 121 = .ok (.ireturn, 1) := od_172 (od_at tB_cX0_factorAt_7 9 rfl)
def RB_cX0_between_3 : List UInt8 := 0xb4 :: 0x00 :: 0x13 :: 0x1b :: 0x2e :: 0x64 :: 0x68 :: 0x15 :: 0x04 :: 0x6c :: 0x60 :: 0xac :: []
def RB_cX0_between_2 : List UInt8 := 0x2e :: 0x2a :: 0xb4 :: 0x00 :: 0x19 :: 0x1c :: 0x2e :: 0x2a :: 0xb4 :: 0x00 :: 0x19 :: 0x1b :: 0x2e :: 0x64 :: 0x1d :: 0x2a :: RB_cX0_between_3
def RB_cX0_between_1 : List UInt8 := 0x04 :: 0x9a :: 0x00 :: 0x0a :: 0x2a :: 0xb4 :: 0x00 :: 0x19 :: 0x1b :: 0x2e :: 0xac :: 0x2a :: 0xb4 :: 0x00 :: 0x19 :: 0x1b :: RB_cX0_between_2
def RB_cX0_between_0 : List UInt8 := 0x2a :: 0xb4 :: 0x00 :: 0x13 :: 0x1c :: 0x2e :: 0x2a :: 0xb4 :: 0x00 :: 0x13 :: 0x1b :: 0x2e :: 0x64 :: 0x36 :: 0x04 :: 0x15 :: RB_cX0_between_1
theorem tB_cX0_between_0 : cX0_between.data.toList.drop 0 = RB_cX0_between_0 := by decide +kernel
theorem tB_cX0_between_1 : cX0_between.data.toList.drop 16 = RB_cX0_between_1 := od_st tB_cX0_between_0 16 rfl
theorem tB_cX0_between_2 : cX0_between.data.toList.drop 32 = RB_cX0_between_2 := od_st tB_cX0_between_1 16 rfl
theorem tB_cX0_between_3 : cX0_between.data.toList.drop 48 = RB_cX0_between_3 := od_st tB_cX0_between_2 16 rfl
theorem dX0_between_0 : decode cX0_between 0 = .ok (.aload_n 0, 1) := od_42 (od_at tB_cX0_between_0 0 rfl)
theorem dX0_between_1 : decode cX0_between 1 = .ok (.getfield 19, 3) := od_180 (od_at tB_cX0_between_0 1 rfl) (od_at tB_cX0_between_0 2 rfl) (od_at tB_cX0_between_0 3 rfl) rfl
theorem dX0_between_4 : decode cX0_between 4 = .ok (.iload_n 2, 1) := od_28 (od_at tB_cX0_between_0 4 rfl)
theorem dX0_between_5 : decode cX0_between 5 = .ok (.iaload, 1) := od_46 (od_at tB_cX0_between_0 5 rfl)
theorem dX0_between_6 : decode cX0_between 6 = .ok (.aload_n 0, 1) := od_42 (od_at tB_cX0_between_0 6 rfl)
theorem dX0_between_7 : decode cX0_between 7 = .ok (.getfield 19, 3) := od_180 (od_at tB_cX0_between_0 7 rfl) (od_at tB_cX0_between_0 8 rfl) (od_at tB_cX0_between_0 9 rfl) rfl
theorem dX0_between_10 : decode cX0_between 10 = .ok (.iload_n 1, 1) := od_27 (od_at tB_cX0_between_0 10 rfl)
theorem dX0_between_11 : decode cX0_between 11 = .ok (.iaload, 1) := od_46 (od_at tB_cX0_between_0 11 rfl)
theorem dX0_between_12 : decode cX0_between 12 = .ok (.isub, 1) := od_100 (od_at tB_cX0_between_0 12 rfl)
theorem dX0_between_13 : decode cX0_between 13 = .ok (.istore 4, 2) := od_54 (od_at tB_cX0_between_0 13 rfl) (od_at tB_cX0_between_0 14 rfl) rfl
theorem dX0_between_15 : decode cX0_between 15 = .ok (.iload 4, 2) := od_21 (od_at tB_cX0_between_0 15 rfl) (od_at tB_cX0_between_0 16 rfl) rfl
theorem dX0_between_17 : decode cX0_between 17 = .ok (.ifCond .ne 10, 3) := od_154 (od_at tB_cX0_between_1 1 rfl) (od_at tB_cX0_between_1 2 rfl) (od_at tB_cX0_between_1 3 rfl) (by decide +kernel)
theorem dX0_between_20 : decode cX0_between 20 = .ok (.aload_n 0, 1) := od_42 (od_at tB_cX0_between_1 4 rfl)
theorem dX0_between_21 : decode cX0_between 21 = .ok (.getfield 25, 3) := od_180 (od_at tB_cX0_between_1 5 rfl) (od_at tB_cX0_between_1 6 rfl) (od_at tB_cX0_between_1 7 rfl) rfl
theorem dX0_between_24 : decode cX0_between 24 = .ok (.iload_n 1, 1) := od_27 (od_at tB_cX0_between_1 8 rfl)
theorem dX0_between_25 : decode cX0_between 25 = .ok (.iaload, 1) := od_46 (od_at tB_cX0_between_1 9 rfl)
theorem dX0_between_26 : decode cX0_between 26 = .ok (.ireturn, 1) := od_172 (od_at tB_cX0_between_1 10 rfl)
theorem dX0_between_27 : decode cX0_between 27 = .ok (.aload_n 0, 1) := od_42 (od_at tB_cX0_between_1 11 rfl)
theorem dX0_between_28 : decode cX0_between 28 = .ok (.getfield 25, 3) := od_180 (od_at tB_cX0_between_1 12 rfl) (od_at tB_cX0_between_1 13 rfl) (od_at tB_cX0_between_1 14 rfl) rfl
theorem dX0_between_31 : decode cX0_between 31 = .ok (.iload_n 1, 1) := od_27 (od_at tB_cX0_between_1 15 rfl)
theorem dX0_between_32 : decode cX0_between 32 = .ok (.iaload, 1) := od_46 (od_at tB_cX0_between_2 0 rfl)
theorem dX0_between_33 : decode cX0_between 33 = .ok (.aload_n 0, 1) := od_42 (od_at tB_cX0_between_2 1 rfl)
theorem dX0_between_34 : decode cX0_between 34 = .ok (.getfield 25, 3) := od_180 (od_at tB_cX0_between_2 2 rfl) (od_at tB_cX0_between_2 3 rfl) (od_at tB_cX0_between_2 4 rfl) rfl
theorem dX0_between_37 : decode cX0_between 37 = .ok (.iload_n 2, 1) := od_28 (od_at tB_cX0_between_2 5 rfl)
theorem dX0_between_38 : decode cX0_between 38 = .ok (.iaload, 1) := od_46 (od_at tB_cX0_between_2 6 rfl)
theorem dX0_between_39 : decode cX0_between 39 = .ok (.aload_n 0, 1) := od_42 (od_at tB_cX0_between_2 7 rfl)
theorem dX0_between_40 : decode cX0_between 40 = .ok (.getfield 25, 3) := od_180 (od_at tB_cX0_between_2 8 rfl) (od_at tB_cX0_between_2 9 rfl) (od_at tB_cX0_between_2 10 rfl) rfl
theorem dX0_between_43 : decode cX0_between 43 = .ok (.iload_n 1, 1) := od_27 (od_at tB_cX0_between_2 11 rfl)
theorem dX0_between_44 : decode cX0_between 44 = .ok (.iaload, 1) := od_46 (od_at tB_cX0_between_2 12 rfl)
theorem dX0_between_45 : decode cX0_between 45 = .ok (.isub, 1) := od_100 (od_at tB_cX0_between_2 13 rfl)
theorem dX0_between_46 : decode cX0_between 46 = .ok (.iload_n 3, 1) := od_29 (od_at tB_cX0_between_2 14 rfl)
theorem dX0_between_47 : decode cX0_between 47 = .ok (.aload_n 0, 1) := od_42 (od_at tB_cX0_between_2 15 rfl)
theorem dX0_between_48 : decode cX0_between 48 = .ok (.getfield 19, 3) := od_180 (od_at tB_cX0_between_3 0 rfl) (od_at tB_cX0_between_3 1 rfl) (od_at tB_cX0_between_3 2 rfl) rfl
theorem dX0_between_51 : decode cX0_between 51 = .ok (.iload_n 1, 1) := od_27 (od_at tB_cX0_between_3 3 rfl)
theorem dX0_between_52 : decode cX0_between 52 = .ok (.iaload, 1) := od_46 (od_at tB_cX0_between_3 4 rfl)
theorem dX0_between_53 : decode cX0_between 53 = .ok (.isub, 1) := od_100 (od_at tB_cX0_between_3 5 rfl)
theorem dX0_between_54 : decode cX0_between 54 = .ok (.imul, 1) := od_104 (od_at tB_cX0_between_3 6 rfl)
theorem dX0_between_55 : decode cX0_between 55 = .ok (.iload 4, 2) := od_21 (od_at tB_cX0_between_3 7 rfl) (od_at tB_cX0_between_3 8 rfl) rfl
theorem dX0_between_57 : decode cX0_between 57 = .ok (.idiv, 1) := od_108 (od_at tB_cX0_between_3 9 rfl)
theorem dX0_between_58 : decode cX0_between 58 = .ok (.iadd, 1) := od_96 (od_at tB_cX0_between_3 10 rfl)
theorem dX0_between_59 : decode cX0_between 59 = .ok (.ireturn, 1) := od_172 (od_at tB_cX0_between_3 11 rfl)
def RB_cX1_init_2 : List UInt8 := 0x2a :: 0x03 :: 0xb5 :: 0x00 :: 0x1d :: 0xb1 :: []
def RB_cX1_init_1 : List UInt8 := 0xb5 :: 0x00 :: 0x13 :: 0x2a :: 0x03 :: 0xb5 :: 0x00 :: 0x16 :: 0x2a :: 0x10 :: 0x0c :: 0xbc :: 0x0b :: 0xb5 :: 0x00 :: 0x19 :: RB_cX1_init_2
def RB_cX1_init_0 : List UInt8 := 0x2a :: 0xb7 :: 0x00 :: 0x03 :: 0x2a :: 0x03 :: 0xb5 :: 0x00 :: 0x09 :: 0x2a :: 0x03 :: 0xb5 :: 0x00 :: 0x0f :: 0x2a :: 0x03 :: RB_cX1_init_1
theorem tB_cX1_init_0 : cX1_init.data.toList.drop 0 = RB_cX1_init_0 := by decide +kernel
theorem tB_cX1_init_1 : cX1_init.data.toList.drop 16 = RB_cX1_init_1 := od_st tB_cX1_init_0 16 rfl
theorem tB_cX1_init_2 : cX1_init.data.toList.drop 32 = RB_cX1_init_2 := od_st tB_cX1_init_1 16 rfl
theorem dX1_init_0 : decode cX1_init 0 = .ok (.aload_n 0, 1) := od_42 (od_at tB_cX1_init_0 0 rfl)
theorem dX1_init_1 : decode cX1_init 1 = .ok (.invokespecial 3, 3) := od_183 (od_at tB_cX1_init_0 1 rfl) (od_at tB_cX1_init_0 2 rfl) (od_at tB_cX1_init_0 3 rfl) rfl
theorem dX1_init_4 : decode cX1_init 4 = .ok (.aload_n 0, 1) := od_42 (od_at tB_cX1_init_0 4 rfl)
theorem dX1_init_5 : decode cX1_init 5 = .ok (.iconst 0, 1) := od_3 (od_at tB_cX1_init_0 5 rfl)
theorem dX1_init_6 : decode cX1_init 6 = .ok (.putfield 9, 3) := od_181 (od_at tB_cX1_init_0 6 rfl) (od_at tB_cX1_init_0 7 rfl) (od_at tB_cX1_init_0 8 rfl) rfl
theorem dX1_init_9 : decode cX1_init 9 = .ok (.aload_n 0, 1) := od_42 (od_at tB_cX1_init_0 9 rfl)
theorem dX1_init_10 : decode cX1_init 10 = .ok (.iconst 0, 1) := od_3 (od_at tB_cX1_init_0 10 rfl)
theorem dX1_init_11 : decode cX1_init 11 = .ok (.putfield 15, 3) := od_181 (od_at tB_cX1_init_0 11 rfl) (od_at tB_cX1_init_0 12 rfl) (od_at tB_cX1_init_0 13 rfl) rfl
theorem dX1_init_14 : decode cX1_init 14 = .ok (.aload_n 0, 1) := od_42 (od_at tB_cX1_init_0 14 rfl)
theorem dX1_init_15 : decode cX1_init 15 = .ok (.iconst 0, 1) := od_3 (od_at tB_cX1_init_0 15 rfl)
theorem dX1_init_16 : decode cX1_init 16 = .ok (.putfield 19, 3) := od_181 (od_at tB_cX1_init_1 0 rfl) (od_at tB_cX1_init_1 1 rfl) (od_at tB_cX1_init_1 2 rfl) rfl
theorem dX1_init_19 : decode cX1_init 19 = .ok (.aload_n 0, 1) := od_42 (od_at tB_cX1_init_1 3 rfl)
theorem dX1_init_20 : decode cX1_init 20 = .ok (.iconst 0, 1) := od_3 (od_at tB_cX1_init_1 4 rfl)
theorem dX1_init_21 : decode cX1_init 21 = .ok (.putfield 22, 3) := od_181 (od_at tB_cX1_init_1 5 rfl) (od_at tB_cX1_init_1 6 rfl) (od_at tB_cX1_init_1 7 rfl) rfl
theorem dX1_init_24 : decode cX1_init 24 = .ok (.aload_n 0, 1) := od_42 (od_at tB_cX1_init_1 8 rfl)
theorem dX1_init_25 : decode cX1_init 25 = .ok (.bipush 12, 2) := od_16 (od_at tB_cX1_init_1 9 rfl) (od_at tB_cX1_init_1 10 rfl) (by decide +kernel)
theorem dX1_init_27 : decode cX1_init 27 = .ok (.newarray .long, 2) := by decide +kernel
theorem dX1_init_29 : decode cX1_init 29 = .ok (.putfield 25, 3) := od_181 (od_at tB_cX1_init_1 13 rfl) (od_at tB_cX1_init_1 14 rfl) (od_at tB_cX1_init_1 15 rfl) rfl
theorem dX1_init_32 : decode cX1_init 32 = .ok (.aload_n 0, 1) := od_42 (od_at tB_cX1_init_2 0 rfl)
theorem dX1_init_33 : decode cX1_init 33 = .ok (.iconst 0, 1) := od_3 (od_at tB_cX1_init_2 1 rfl)
theorem dX1_init_34 : decode cX1_init 34 = .ok (.putfield 29, 3) := od_181 (od_at tB_cX1_init_2 2 rfl) (od_at tB_cX1_init_2 3 rfl) (od_at tB_cX1_init_2 4 rfl) rfl
theorem dX1_init_37 : decode cX1_init 37 = .ok (.return_, 1) := od_177 (od_at tB_cX1_init_2 5 rfl)
def RB_cX1_begin_1 : List UInt8 := 0x1d :: 0xb5 :: 0x00 :: 0x16 :: 0x2a :: 0x03 :: 0xb5 :: 0x00 :: 0x1d :: 0xb1 :: []
def RB_cX1_begin_0 : List UInt8 := 0x2a :: 0x04 :: 0xb5 :: 0x00 :: 0x09 :: 0x2a :: 0x1b :: 0xb5 :: 0x00 :: 0x0f :: 0x2a :: 0x1c :: 0xb5 :: 0x00 :: 0x13 :: 0x2a :: RB_cX1_begin_1
theorem tB_cX1_begin_0 : cX1_begin.data.toList.drop 0 = RB_cX1_begin_0 := by decide +kernel
theorem tB_cX1_begin_1 : cX1_begin.data.toList.drop 16 = RB_cX1_begin_1 := od_st tB_cX1_begin_0 16 rfl
theorem dX1_begin_0 : decode cX1_begin 0 = .ok (.aload_n 0, 1) := od_42 (od_at tB_cX1_begin_0 0 rfl)
theorem dX1_begin_1 : decode cX1_begin 1 = .ok (.iconst 1, 1) := od_4 (od_at tB_cX1_begin_0 1 rfl)
theorem dX1_begin_2 : decode cX1_begin 2 = .ok (.putfield 9, 3) := od_181 (od_at tB_cX1_begin_0 2 rfl) (od_at tB_cX1_begin_0 3 rfl) (od_at tB_cX1_begin_0 4 rfl) rfl
theorem dX1_begin_5 : decode cX1_begin 5 = .ok (.aload_n 0, 1) := od_42 (od_at tB_cX1_begin_0 5 rfl)
theorem dX1_begin_6 : decode cX1_begin 6 = .ok (.iload_n 1, 1) := od_27 (od_at tB_cX1_begin_0 6 rfl)
theorem dX1_begin_7 : decode cX1_begin 7 = .ok (.putfield 15, 3) := od_181 (od_at tB_cX1_begin_0 7 rfl) (od_at tB_cX1_begin_0 8 rfl) (od_at tB_cX1_begin_0 9 rfl) rfl
theorem dX1_begin_10 : decode cX1_begin 10 = .ok (.aload_n 0, 1) := od_42 (od_at tB_cX1_begin_0 10 rfl)
theorem dX1_begin_11 : decode cX1_begin 11 = .ok (.iload_n 2, 1) := od_28 (od_at tB_cX1_begin_0 11 rfl)
theorem dX1_begin_12 : decode cX1_begin 12 = .ok (.putfield 19, 3) := od_181 (od_at tB_cX1_begin_0 12 rfl) (od_at tB_cX1_begin_0 13 rfl) (od_at tB_cX1_begin_0 14 rfl) rfl
theorem dX1_begin_15 : decode cX1_begin 15 = .ok (.aload_n 0, 1) := od_42 (od_at tB_cX1_begin_0 15 rfl)
theorem dX1_begin_16 : decode cX1_begin 16 = .ok (.iload_n 3, 1) := od_29 (od_at tB_cX1_begin_1 0 rfl)
theorem dX1_begin_17 : decode cX1_begin 17 = .ok (.putfield 22, 3) := od_181 (od_at tB_cX1_begin_1 1 rfl) (od_at tB_cX1_begin_1 2 rfl) (od_at tB_cX1_begin_1 3 rfl) rfl
theorem dX1_begin_20 : decode cX1_begin 20 = .ok (.aload_n 0, 1) := od_42 (od_at tB_cX1_begin_1 4 rfl)
theorem dX1_begin_21 : decode cX1_begin 21 = .ok (.iconst 0, 1) := od_3 (od_at tB_cX1_begin_1 5 rfl)
theorem dX1_begin_22 : decode cX1_begin 22 = .ok (.putfield 29, 3) := od_181 (od_at tB_cX1_begin_1 6 rfl) (od_at tB_cX1_begin_1 7 rfl) (od_at tB_cX1_begin_1 8 rfl) rfl
theorem dX1_begin_25 : decode cX1_begin 25 = .ok (.return_, 1) := od_177 (od_at tB_cX1_begin_1 9 rfl)
def RB_cX1_isGood_5 : List UInt8 := 0x21 :: 0x1f :: 0x65 :: 0x69 :: 0x1f :: 0x94 :: 0x9d :: 0x00 :: 0x07 :: 0x04 :: 0xa7 :: 0x00 :: 0x04 :: 0x03 :: 0xac :: []
def RB_cX1_isGood_4 : List UInt8 := 0x42 :: 0x84 :: 0x05 :: 0x01 :: 0xa7 :: 0xff :: 0xdc :: 0x1f :: 0x09 :: 0x94 :: 0x9e :: 0x00 :: 0x13 :: 0x14 :: 0x00 :: 0x29 :: RB_cX1_isGood_5
def RB_cX1_isGood_3 : List UInt8 := 0x2f :: 0xb8 :: 0x00 :: 0x20 :: 0x40 :: 0x21 :: 0x2a :: 0xb4 :: 0x00 :: 0x19 :: 0x15 :: 0x05 :: 0x2f :: 0xb8 :: 0x00 :: 0x26 :: RB_cX1_isGood_4
def RB_cX1_isGood_2 : List UInt8 := 0x15 :: 0x05 :: 0x2a :: 0xb4 :: 0x00 :: 0x1d :: 0xa2 :: 0x00 :: 0x21 :: 0x1f :: 0x2a :: 0xb4 :: 0x00 :: 0x19 :: 0x15 :: 0x05 :: RB_cX1_isGood_3
def RB_cX1_isGood_1 : List UInt8 := 0x00 :: 0x1d :: 0x04 :: 0x64 :: 0x2f :: 0x40 :: 0x1f :: 0x42 :: 0x2a :: 0xb4 :: 0x00 :: 0x1d :: 0x08 :: 0x64 :: 0x36 :: 0x05 :: RB_cX1_isGood_2
def RB_cX1_isGood_0 : List UInt8 := 0x2a :: 0xb4 :: 0x00 :: 0x1d :: 0x08 :: 0xa2 :: 0x00 :: 0x05 :: 0x03 :: 0xac :: 0x2a :: 0xb4 :: 0x00 :: 0x19 :: 0x2a :: 0xb4 :: RB_cX1_isGood_1
theorem tB_cX1_isGood_0 : cX1_isGood.data.toList.drop 0 = RB_cX1_isGood_0 := by decide +kernel
theorem tB_cX1_isGood_1 : cX1_isGood.data.toList.drop 16 = RB_cX1_isGood_1 := od_st tB_cX1_isGood_0 16 rfl
theorem tB_cX1_isGood_2 : cX1_isGood.data.toList.drop 32 = RB_cX1_isGood_2 := od_st tB_cX1_isGood_1 16 rfl
theorem tB_cX1_isGood_3 : cX1_isGood.data.toList.drop 48 = RB_cX1_isGood_3 := od_st tB_cX1_isGood_2 16 rfl
theorem tB_cX1_isGood_4 : cX1_isGood.data.toList.drop 64 = RB_cX1_isGood_4 := od_st tB_cX1_isGood_3 16 rfl
theorem tB_cX1_isGood_5 : cX1_isGood.data.toList.drop 80 = RB_cX1_isGood_5 := od_st tB_cX1_isGood_4 16 rfl
theorem dX1_isGood_0 : decode cX1_isGood 0 = .ok (.aload_n 0, 1) := od_42 (od_at tB_cX1_isGood_0 0 rfl)
theorem dX1_isGood_1 : decode cX1_isGood 1 = .ok (.getfield 29, 3) := od_180 (od_at tB_cX1_isGood_0 1 rfl) (od_at tB_cX1_isGood_0 2 rfl) (od_at tB_cX1_isGood_0 3 rfl) rfl
theorem dX1_isGood_4 : decode cX1_isGood 4 = .ok (.iconst 5, 1) := od_8 (od_at tB_cX1_isGood_0 4 rfl)
theorem dX1_isGood_5 : decode cX1_isGood 5 = .ok (.if_icmp .ge 5, 3) := od_162 (od_at tB_cX1_isGood_0 5 rfl) (od_at tB_cX1_isGood_0 6 rfl) (od_at tB_cX1_isGood_0 7 rfl) (by decide +kernel)
theorem dX1_isGood_8 : decode cX1_isGood 8 = .ok (.iconst 0, 1) := od_3 (od_at tB_cX1_isGood_0 8 rfl)
theorem dX1_isGood_9 : decode cX1_isGood 9 = .ok (.ireturn, 1) := od_172 (od_at tB_cX1_isGood_0 9 rfl)
theorem dX1_isGood_10 : decode cX1_isGood 10 = .ok (.aload_n 0, 1) := od_42 (od_at tB_cX1_isGood_0 10 rfl)
theorem dX1_isGood_11 : decode cX1_isGood 11 = .ok (.getfield 25, 3) := od_180 (od_at tB_cX1_isGood_0 11 rfl) (od_at tB_cX1_isGood_0 12 rfl) (od_at tB_cX1_isGood_0 13 rfl) rfl
theorem dX1_isGood_14 : decode cX1_isGood 14 = .ok (.aload_n 0, 1) := od_42 (od_at tB_cX1_isGood_0 14 rfl)
theorem dX1_isGood_15 : decode cX1_isGood 15 = .ok (.getfield 29, 3) := od_180 (od_at tB_cX1_isGood_0 15 rfl) (od_at tB_cX1_isGood_0 16 rfl) (od_at tB_cX1_isGood_0 17 rfl) rfl
theorem dX1_isGood_18 : decode cX1_isGood 18 = .ok (.iconst 1, 1) := od_4 (od_at tB_cX1_isGood_1 2 rfl)
theorem dX1_isGood_19 : decode cX1_isGood 19 = .ok (.isub, 1) := od_100 (od_at tB_cX1_isGood_1 3 rfl)
theorem dX1_isGood_20 : decode cX1_isGood 20 = .ok (.laload, 1) := od_47 (od_at tB_cX1_isGood_1 4 rfl)
theorem dX1_isGood_21 : decode cX1_isGood 21 = .ok (.lstore_n 1, 1) := od_64 (od_at tB_cX1_isGood_1 5 rfl)
theorem dX1_isGood_22 : decode cX1_isGood 22 = .ok (.lload_n 1, 1) := od_31 (od_at tB_cX1_isGood_1 6 rfl)
theorem dX1_isGood_23 : decode cX1_isGood 23 = .ok (.lstore_n 3, 1) := od_66 (od_at tB_cX1_isGood_1 7 rfl)
theorem dX1_isGood_24 : decode cX1_isGood 24 = .ok (.aload_n 0, 1) := od_42 (od_at tB_cX1_isGood_1 8 rfl)
theorem dX1_isGood_25 : decode cX1_isGood 25 = .ok (.getfield 29, 3) := od_180 (od_at tB_cX1_isGood_1 9 rfl) (od_at tB_cX1_isGood_1 10 rfl) (od_at tB_cX1_isGood_1 11 rfl) rfl
theorem dX1_isGood_28 : decode cX1_isGood 28 = .ok (.iconst 5, 1) := od_8 (od_at tB_cX1_isGood_1 12 rfl)
theorem dX1_isGood_29 : decode cX1_isGood 29 = .ok (.isub, 1) := od_100 (od_at tB_cX1_isGood_1 13 rfl)
theorem dX1_isGood_30 : decode cX1_isGood 30 = .ok (.istore 5, 2) := od_54 (od_at tB_cX1_isGood_1 14 rfl) (od_at tB_cX1_isGood_1 15 rfl) rfl
theorem dX1_isGood_32 : decode cX1_isGood 32 = .ok (.iload 5, 2) := od_21 (od_at tB_cX1_isGood_2 0 rfl) (od_at tB_cX1_isGood_2 1 rfl) rfl
theorem dX1_isGood_34 : decode cX1_isGood 34 = .ok (.aload_n 0, 1) := od_42 (od_at tB_cX1_isGood_2 2 rfl)
theorem dX1_isGood_35 : decode cX1_isGood 35 = .ok (.getfield 29, 3) := od_180 (od_at tB_cX1_isGood_2 3 rfl) (od_at tB_cX1_isGood_2 4 rfl) (od_at tB_cX1_isGood_2 5 rfl) rfl
theorem dX1_isGood_38 : decode cX1_isGood 38 = .ok (.if_icmp .ge 33, 3) := od_162 (od_at tB_cX1_isGood_2 6 rfl) (od_at tB_cX1_isGood_2 7 rfl) (od_at tB_cX1_isGood_2 8 rfl) (by decide +kernel)
theorem dX1_isGood_41 : decode cX1_isGood 41 = .ok (.lload_n 1, 1) := od_31 (od_at tB_cX1_isGood_2 9 rfl)
theorem dX1_isGood_42 : decode cX1_isGood 42 = .ok (.aload_n 0, 1) := od_42 (od_at tB_cX1_isGood_2 10 rfl)
theorem dX1_isGood_43 : decode cX1_isGood 43 = .ok (.getfield 25, 3) := od_180 (od_at tB_cX1_isGood_2 11 rfl) (od_at tB_cX1_isGood_2 12 rfl) (od_at tB_cX1_isGood_2 13 rfl) rfl
theorem dX1_isGood_46 : decode cX1_isGood 46 = .ok (.iload 5, 2) := od_21 (od_at tB_cX1_isGood_2 14 rfl) (od_at tB_cX1_isGood_2 15 rfl) rfl
theorem dX1_isGood_48 : decode cX1_isGood 48 = .ok (.laload, 1) := od_47 (od_at tB_cX1_isGood_3 0 rfl)
theorem dX1_isGood_49 : decode cX1_isGood 49 = .ok (.invokestatic 32, 3) := od_184 (od_at tB_cX1_isGood_3 1 rfl) (od_at tB_cX1_isGood_3 2 rfl) (od_at tB_cX1_isGood_3 3 rfl) rfl
theorem dX1_isGood_52 : decode cX1_isGood 52 = .ok (.lstore_n 1, 1) := od_64 (od_at tB_cX1_isGood_3 4 rfl)
theorem dX1_isGood_53 : decode cX1_isGood 53 = .ok (.lload_n 3, 1) := od_33 (od_at tB_cX1_isGood_3 5 rfl)
theorem dX1_isGood_54 : decode cX1_isGood 54 = .ok (.aload_n 0, 1) := od_42 (od_at tB_cX1_isGood_3 6 rfl)
theorem dX1_isGood_55 : decode cX1_isGood 55 = .ok (.getfield 25, 3) := od_180 (od_at tB_cX1_isGood_3 7 rfl) (od_at tB_cX1_isGood_3 8 rfl) (od_at tB_cX1_isGood_3 9 rfl) rfl
theorem dX1_isGood_58 : decode cX1_isGood 58 = .ok (.iload 5, 2) := od_21 (od_at tB_cX1_isGood_3 10 rfl) (od_at tB_cX1_isGood_3 11 rfl) rfl
theorem dX1_isGood_60 : decode cX1_isGood 60 = .ok (.laload, 1) := od_47 (od_at tB_cX1_isGood_3 12 rfl)
theorem dX1_isGood_61 : decode cX1_isGood 61 = .ok (.invokestatic 38, 3) := od_184 (od_at tB_cX1_isGood_3 13 rfl) (od_at tB_cX1_isGood_3 14 rfl) (od_at tB_cX1_isGood_3 15 rfl) rfl
theorem dX1_isGood_64 : decode cX1_isGood 64 = .ok (.lstore_n 3, 1) := od_66 (od_at tB_cX1_isGood_4 0 rfl)
theorem dX1_isGood_65 : decode cX1_isGood 65 = .ok (.iinc 5 1, 3) := od_132 (od_at tB_cX1_isGood_4 1 rfl) (od_at tB_cX1_isGood_4 2 rfl) (od_at tB_cX1_isGood_4 3 rfl) rfl (by decide +kernel)
theorem dX1_isGood_68 : decode cX1_isGood 68 = .ok (.goto (-36), 3) := od_167 (od_at tB_cX1_isGood_4 4 rfl) (od_at tB_cX1_isGood_4 5 rfl) (od_at tB_cX1_isGood_4 6 rfl) (by decide +kernel)
theorem dX1_isGood_71 : decode cX1_isGood 71 = .ok (.lload_n 1, 1) := od_31 (od_at tB_cX1_isGood_4 7 rfl)
theorem dX1_isGood_72 : decode cX1_isGood 72 = .ok (.lconst 0, 1) := od_9 (od_at tB_cX1_isGood_4 8 rfl)
theorem dX1_isGood_73 : decode cX1_isGood 73 = .ok (.lcmp, 1) := od_148 (od_at tB_cX1_isGood_4 9 rfl)
theorem dX1_isGood_74 : decode cX1_isGood 74 = .ok (.ifCond .le 19, 3) := od_158 (od_at tB_cX1_isGood_4 10 rfl) (od_at tB_cX1_isGood_4 11 rfl) (od_at tB_cX1_isGood_4 12 rfl) (by decide +kernel)
theorem dX1_isGood_77 : decode cX1_isGood 77 = .ok (.ldc2_w 41, 3) := od_20 (od_at tB_cX1_isGood_4 13 rfl) (od_at tB_cX1_isGood_4 14 rfl) (od_at tB_cX1_isGood_4 15 rfl) rfl
theorem dX1_isGood_80 : decode cX1_isGood 80 = .ok (.lload_n 3, 1) := od_33 (od_at tB_cX1_isGood_5 0 rfl)
theorem dX1_isGood_81 : decode cX1_isGood 81 = .ok (.lload_n 1, 1) := od_31 (od_at tB_cX1_isGood_5 1 rfl)
theorem dX1_isGood_82 : decode cX1_isGood 82 = .ok (.lsub, 1) := od_101 (od_at tB_cX1_isGood_5 2 rfl)
theorem dX1_isGood_83 : decode cX1_isGood 83 = .ok (.lmul, 1) := od_105 (od_at tB_cX1_isGood_5 3 rfl)
theorem dX1_isGood_84 : decode cX1_isGood 84 = .ok (.lload_n 1, 1) := od_31 (od_at tB_cX1_isGood_5 4 rfl)
theorem dX1_isGood_85 : decode cX1_isGood 85 = .ok (.lcmp, 1) := od_148 (od_at tB_cX1_isGood_5 5 rfl)
theorem dX1_isGood_86 : decode cX1_isGood 86 = .ok (.ifCond .gt 7, 3) := od_157 (od_at tB_cX1_isGood_5 6 rfl) (od_at tB_cX1_isGood_5 7 rfl) (od_at tB_cX1_isGood_5 8 rfl) (by decide +kernel)
theorem dX1_isGood_89 : decode cX1_isGood 89 = .ok (.iconst 1, 1) := od_4 (od_at tB_cX1_isGood_5 9 rfl)
theorem dX1_isGood_90 : decode cX1_isGood 90 = .ok (.goto 4, 3) := od_167 (od_at tB_cX1_isGood_5 10 rfl) (od_at tB_cX1_isGood_5 11 rfl) (od_at tB_cX1_isGood_5 12 rfl) (by decide +kernel)
theorem dX1_isGood_93 : decode cX1_isGood 93 = .ok (.iconst 0, 1) := od_3 (od_at tB_cX1_isGood_5 13 rfl)
theorem dX1_isGood_94 : decode cX1_isGood 94 = .ok (.ireturn, 1) := od_172 (od_at tB_cX1_isGood_5 14 rfl)
def RB_cX1_factorOf_3 : List UInt8 := 0x1b :: 0x85 :: 0x69 :: 0x20 :: 0xb8 :: 0x00 :: 0x30 :: 0xad :: []
def RB_cX1_factorOf_2 : List UInt8 := 0x41 :: 0x84 :: 0x04 :: 0x01 :: 0xa7 :: 0xff :: 0xea :: 0x14 :: 0x00 :: 0x2e :: 0x2a :: 0xb4 :: 0x00 :: 0x16 :: 0x85 :: 0x69 :: RB_cX1_factorOf_3
def RB_cX1_factorOf_1 : List UInt8 := 0x2a :: 0xb4 :: 0x00 :: 0x1d :: 0xa2 :: 0x00 :: 0x13 :: 0x20 :: 0x2a :: 0xb4 :: 0x00 :: 0x19 :: 0x15 :: 0x04 :: 0x2f :: 0x61 :: RB_cX1_factorOf_2
def RB_cX1_factorOf_0 : List UInt8 := 0x09 :: 0x41 :: 0x03 :: 0x2a :: 0xb4 :: 0x00 :: 0x1d :: 0x08 :: 0x64 :: 0xb8 :: 0x00 :: 0x2b :: 0x36 :: 0x04 :: 0x15 :: 0x04 :: RB_cX1_factorOf_1
theorem tB_cX1_factorOf_0 : cX1_factorOf.data.toList.drop 0 = RB_cX1_factorOf_0 := by decide +kernel
theorem tB_cX1_factorOf_1 : cX1_factorOf.data.toList.drop 16 = RB_cX1_factorOf_1 := od_st tB_cX1_factorOf_0 16 rfl
theorem tB_cX1_factorOf_2 : cX1_factorOf.data.toList.drop 32 = RB_cX1_factorOf_2 := od_st tB_cX1_factorOf_1 16 rfl
theorem tB_cX1_factorOf_3 : cX1_factorOf.data.toList.drop 48 = RB_cX1_factorOf_3 := od_st tB_cX1_factorOf_2 16 rfl
theorem dX1_factorOf_0 : decode cX1_factorOf 0 = .ok (.lconst 0, 1) := od_9 (od_at tB_cX1_factorOf_0 0 rfl)
theorem dX1_factorOf_1 : decode cX1_factorOf 1 = .ok (.lstore_n 2, 1) := od_65 (od_at tB_cX1_factorOf_0 1 rfl)
theorem dX1_factorOf_2 : decode cX1_factorOf 2 = .ok (.iconst 0, 1) := od_3 (od_at tB_cX1_factorOf_0 2 rfl)
theorem dX1_factorOf_3 : decode cX1_factorOf 3 = .ok (.aload_n 0, 1) := od_42 (od_at tB_cX1_factorOf_0 3 rfl)
theorem dX1_factorOf_4 : decode cX1_factorOf 4 = .ok (.getfield 29, 3) := od_180 (od_at tB_cX1_factorOf_0 4 rfl) (od_at tB_cX1_factorOf_0 5 rfl) (od_at tB_cX1_factorOf_0 6 rfl) rfl
theorem dX1_factorOf_7 : decode cX1_factorOf 7 = .ok (.iconst 5, 1) := od_8 (od_at tB_cX1_factorOf_0 7 rfl)
theorem dX1_factorOf_8 : decode cX1_factorOf 8 = .ok (.isub, 1) := od_100 (od_at tB_cX1_factorOf_0 8 rfl)
theorem dX1_factorOf_9 : decode cX1_factorOf 9 = .ok (.invokestatic 43, 3) := od_184 (od_at tB_cX1_factorOf_0 9 rfl) (od_at tB_cX1_factorOf_0 10 rfl) (od_at tB_cX1_factorOf_0 11 rfl) rfl
theorem dX1_factorOf_12 : decode cX1_factorOf 12 = .ok (.istore 4, 2) := od_54 (od_at tB_cX1_factorOf_0 12 rfl) (od_at tB_cX1_factorOf_0 13 rfl) rfl
theorem dX1_factorOf_14 : decode cX1_factorOf 14 = .ok (.iload 4, 2) := od_21 (od_at tB_cX1_factorOf_0 14 rfl) (od_at tB_cX1_factorOf_0 15 rfl) rfl
theorem dX1_factorOf_16 : decode cX1_factorOf 16 = .ok (.aload_n 0, 1) := od_42 (od_at tB_cX1_factorOf_1 0 rfl)
theorem dX1_factorOf_17 : decode cX1_factorOf 17 = .ok (.getfield 29, 3) := od_180 (od_at tB_cX1_factorOf_1 1 rfl) (od_at tB_cX1_factorOf_1 2 rfl) (od_at tB_cX1_factorOf_1 3 rfl) rfl
theorem dX1_factorOf_20 : decode cX1_factorOf 20 = .ok (.if_icmp .ge 19, 3) := od_162 (od_at tB_cX1_factorOf_1 4 rfl) (od_at tB_cX1_factorOf_1 5 rfl) (od_at tB_cX1_factorOf_1 6 rfl) (by decide +kernel)
theorem dX1_factorOf_23 : decode cX1_factorOf 23 = .ok (.lload_n 2, 1) := od_32 (od_at tB_cX1_factorOf_1 7 rfl)
theorem dX1_factorOf_24 : decode cX1_factorOf 24 = .ok (.aload_n 0, 1) := od_42 (od_at tB_cX1_factorOf_1 8 rfl)
theorem dX1_factorOf_25 : decode cX1_factorOf 25 = .ok (.getfield 25, 3) := od_180 (od_at tB_cX1_factorOf_1 9 rfl) (od_at tB_cX1_factorOf_1 10 rfl) (od_at tB_cX1_factorOf_1 11 rfl) rfl
theorem dX1_factorOf_28 : decode cX1_factorOf 28 = .ok (.iload 4, 2) := od_21 (od_at tB_cX1_factorOf_1 12 rfl) (od_at tB_cX1_factorOf_1 13 rfl) rfl
theorem dX1_factorOf_30 : decode cX1_factorOf 30 = .ok (.laload, 1) := od_47 (od_at tB_cX1_factorOf_1 14 rfl)
theorem dX1_factorOf_31 : decode cX1_factorOf 31 = .ok (.ladd, 1) := od_97 (od_at tB_cX1_factorOf_1 15 rfl)
theorem dX1_factorOf_32 : decode cX1_factorOf 32 = .ok (.lstore_n 2, 1) := od_65 (od_at tB_cX1_factorOf_2 0 rfl)
theorem dX1_factorOf_33 : decode cX1_factorOf 33 = .ok (.iinc 4 1, 3) := od_132 (od_at tB_cX1_factorOf_2 1 rfl) (od_at tB_cX1_factorOf_2 2 rfl) (od_at tB_cX1_factorOf_2 3 rfl) rfl (by decide +kernel)
theorem dX1_factorOf_36 : decode cX1_factorOf 36 = .ok (.goto (-22), 3) := od_167 (od_at tB_cX1_factorOf_2 4 rfl) (od_at tB_cX1_factorOf_2 5 rfl) (od_at tB_cX1_factorOf_2 6 rfl) (by decide +kernel)
theorem dX1_factorOf_39 : decode cX1_factorOf 39 = .ok (.ldc2_w 46, 3) := od_20 (od_at tB_cX1_factorOf_2 7 rfl) (od_at tB_cX1_factorOf_2 8 rfl) (od_at tB_cX1_factorOf_2 9 rfl) rfl
theorem dX1_factorOf_42 : decode cX1_factorOf 42 = .ok (.aload_n 0, 1) := od_42 (od_at tB_cX1_factorOf_2 10 rfl)
theorem dX1_factorOf_43 : decode cX1_factorOf 43 = .ok (.getfield 22, 3) := od_180 (od_at tB_cX1_factorOf_2 11 rfl) (od_at tB_cX1_factorOf_2 12 rfl) (od_at tB_cX1_factorOf_2 13 rfl) rfl
theorem dX1_factorOf_46 : decode cX1_factorOf 46 = .ok (.i2l, 1) := od_133 (od_at tB_cX1_factorOf_2 14 rfl)
theorem dX1_factorOf_47 : decode cX1_factorOf 47 = .ok (.lmul, 1) := od_105 (od_at tB_cX1_factorOf_2 15 rfl)
theorem dX1_factorOf_48 : decode cX1_factorOf 48 = .ok (.iload_n 1, 1) := od_27 (od_at tB_cX1_factorOf_3 0 rfl)
theorem dX1_factorOf_49 : decode cX1_factorOf 49 = .ok (.i2l, 1) := od_133 (od_at tB_cX1_factorOf_3 1 rfl)
theorem dX1_factorOf_50 : decode cX1_factorOf 50 = .ok (.lmul, 1) := od_105 (od_at tB_cX1_factorOf_3 2 rfl)
theorem dX1_factorOf_51 : decode cX1_factorOf 51 = .ok (.lload_n 2, 1) := od_32 (od_at tB_cX1_factorOf_3 3 rfl)
theorem dX1_factorOf_52 : decode cX1_factorOf 52 = .ok (.invokestatic 48, 3) := od_184 (od_at tB_cX1_factorOf_3 4 rfl) (od_at tB_cX1_factorOf_3 5 rfl) (od_at tB_cX1_factorOf_3 6 rfl) rfl
theorem dX1_factorOf_55 : decode cX1_factorOf 55 = .ok (.lreturn, 1) := od_173 (od_at tB_cX1_factorOf_3 7 rfl)
def RB_cX2_init_1 : List UInt8 := 0x0f :: 0x2a :: 0x03 :: 0xb5 :: 0x00 :: 0x13 :: 0x2a :: 0x03 :: 0xb5 :: 0x00 :: 0x17 :: 0xb1 :: []
def RB_cX2_init_0 : List UInt8 := 0x2a :: 0xb7 :: 0x00 :: 0x03 :: 0x2a :: 0x10 :: 0x3c :: 0xbc :: 0x0a :: 0xb5 :: 0x00 :: 0x09 :: 0x2a :: 0x03 :: 0xb5 :: 0x00 :: RB_cX2_init_1
theorem tB_cX2_init_0 : cX2_init.data.toList.drop 0 = RB_cX2_init_0 := by decide +kernel
theorem tB_cX2_init_1 : cX2_init.data.toList.drop 16 = RB_cX2_init_1 := od_st tB_cX2_init_0 16 rfl
theorem dX2_init_0 : decode cX2_init 0 = .ok (.aload_n 0, 1) := od_42 (od_at tB_cX2_init_0 0 rfl)
theorem dX2_init_1 : decode cX2_init 1 = .ok (.invokespecial 3, 3) := od_183 (od_at tB_cX2_init_0 1 rfl) (od_at tB_cX2_init_0 2 rfl) (od_at tB_cX2_init_0 3 rfl) rfl
theorem dX2_init_4 : decode cX2_init 4 = .ok (.aload_n 0, 1) := od_42 (od_at tB_cX2_init_0 4 rfl)
theorem dX2_init_5 : decode cX2_init 5 = .ok (.bipush 60, 2) := od_16 (od_at tB_cX2_init_0 5 rfl) (od_at tB_cX2_init_0 6 rfl) (by decide +kernel)
theorem dX2_init_7 : decode cX2_init 7 = .ok (.newarray .int, 2) := by decide +kernel
theorem dX2_init_9 : decode cX2_init 9 = .ok (.putfield 9, 3) := od_181 (od_at tB_cX2_init_0 9 rfl) (od_at tB_cX2_init_0 10 rfl) (od_at tB_cX2_init_0 11 rfl) rfl
theorem dX2_init_12 : decode cX2_init 12 = .ok (.aload_n 0, 1) := od_42 (od_at tB_cX2_init_0 12 rfl)
theorem dX2_init_13 : decode cX2_init 13 = .ok (.iconst 0, 1) := od_3 (od_at tB_cX2_init_0 13 rfl)
theorem dX2_init_14 : decode cX2_init 14 = .ok (.putfield 15, 3) := od_181 (od_at tB_cX2_init_0 14 rfl) (od_at tB_cX2_init_0 15 rfl) (od_at tB_cX2_init_0 16 rfl) rfl
theorem dX2_init_17 : decode cX2_init 17 = .ok (.aload_n 0, 1) := od_42 (od_at tB_cX2_init_1 1 rfl)
theorem dX2_init_18 : decode cX2_init 18 = .ok (.iconst 0, 1) := od_3 (od_at tB_cX2_init_1 2 rfl)
theorem dX2_init_19 : decode cX2_init 19 = .ok (.putfield 19, 3) := od_181 (od_at tB_cX2_init_1 3 rfl) (od_at tB_cX2_init_1 4 rfl) (od_at tB_cX2_init_1 5 rfl) rfl
theorem dX2_init_22 : decode cX2_init 22 = .ok (.aload_n 0, 1) := od_42 (od_at tB_cX2_init_1 6 rfl)
theorem dX2_init_23 : decode cX2_init 23 = .ok (.iconst 0, 1) := od_3 (od_at tB_cX2_init_1 7 rfl)
theorem dX2_init_24 : decode cX2_init 24 = .ok (.putfield 23, 3) := od_181 (od_at tB_cX2_init_1 8 rfl) (od_at tB_cX2_init_1 9 rfl) (od_at tB_cX2_init_1 10 rfl) rfl
theorem dX2_init_27 : decode cX2_init 27 = .ok (.return_, 1) := od_177 (od_at tB_cX2_init_1 11 rfl)
def RB_cX2_renew_1 : List UInt8 := 0x00 :: 0x13 :: 0x2a :: 0x1c :: 0xb5 :: 0x00 :: 0x17 :: 0xb1 :: []
def RB_cX2_renew_0 : List UInt8 := 0x2a :: 0xb4 :: 0x00 :: 0x09 :: 0x03 :: 0xb8 :: 0x00 :: 0x1a :: 0x2a :: 0x04 :: 0xb5 :: 0x00 :: 0x0f :: 0x2a :: 0x1b :: 0xb5 :: RB_cX2_renew_1
theorem tB_cX2_renew_0 : cX2_renew.data.toList.drop 0 = RB_cX2_renew_0 := by decide +kernel
theorem tB_cX2_renew_1 : cX2_renew.data.toList.drop 16 = RB_cX2_renew_1 := od_st tB_cX2_renew_0 16 rfl
theorem dX2_renew_0 : decode cX2_renew 0 = .ok (.aload_n 0, 1) := od_42 (od_at tB_cX2_renew_0 0 rfl)
theorem dX2_renew_1 : decode cX2_renew 1 = .ok (.getfield 9, 3) := od_180 (od_at tB_cX2_renew_0 1 rfl) (od_at tB_cX2_renew_0 2 rfl) (od_at tB_cX2_renew_0 3 rfl) rfl
theorem dX2_renew_4 : decode cX2_renew 4 = .ok (.iconst 0, 1) := od_3 (od_at tB_cX2_renew_0 4 rfl)
theorem dX2_renew_5 : decode cX2_renew 5 = .ok (.invokestatic 26, 3) := od_184 (od_at tB_cX2_renew_0 5 rfl) (od_at tB_cX2_renew_0 6 rfl) (od_at tB_cX2_renew_0 7 rfl) rfl
theorem dX2_renew_8 : decode cX2_renew 8 = .ok (.aload_n 0, 1) := od_42 (od_at tB_cX2_renew_0 8 rfl)
theorem dX2_renew_9 : decode cX2_renew 9 = .ok (.iconst 1, 1) := od_4 (od_at tB_cX2_renew_0 9 rfl)
theorem dX2_renew_10 : decode cX2_renew 10 = .ok (.putfield 15, 3) := od_181 (od_at tB_cX2_renew_0 10 rfl) (od_at tB_cX2_renew_0 11 rfl) (od_at tB_cX2_renew_0 12 rfl) rfl
theorem dX2_renew_13 : decode cX2_renew 13 = .ok (.aload_n 0, 1) := od_42 (od_at tB_cX2_renew_0 13 rfl)
theorem dX2_renew_14 : decode cX2_renew 14 = .ok (.iload_n 1, 1) := od_27 (od_at tB_cX2_renew_0 14 rfl)
theorem dX2_renew_15 : decode cX2_renew 15 = .ok (.putfield 19, 3) := od_181 (od_at tB_cX2_renew_0 15 rfl) (od_at tB_cX2_renew_0 16 rfl) (od_at tB_cX2_renew_0 17 rfl) rfl
theorem dX2_renew_18 : decode cX2_renew 18 = .ok (.aload_n 0, 1) := od_42 (od_at tB_cX2_renew_1 2 rfl)
theorem dX2_renew_19 : decode cX2_renew 19 = .ok (.iload_n 2, 1) := od_28 (od_at tB_cX2_renew_1 3 rfl)
theorem dX2_renew_20 : decode cX2_renew 20 = .ok (.putfield 23, 3) := od_181 (od_at tB_cX2_renew_1 4 rfl) (od_at tB_cX2_renew_1 5 rfl) (od_at tB_cX2_renew_1 6 rfl) rfl
theorem dX2_renew_23 : decode cX2_renew 23 = .ok (.return_, 1) := od_177 (od_at tB_cX2_renew_1 7 rfl)
def RB_cX2_hasCell_0 : List UInt8 := 0x1b :: 0x03 :: 0x2a :: 0xb4 :: 0x00 :: 0x17 :: 0x04 :: 0x64 :: 0xb8 :: 0x00 :: 0x20 :: 0xac :: []
theorem tB_cX2_hasCell_0 : cX2_hasCell.data.toList.drop 0 = RB_cX2_hasCell_0 := by decide +kernel
theorem dX2_hasCell_0 : decode cX2_hasCell 0 = .ok (.iload_n 1, 1) := od_27 (od_at tB_cX2_hasCell_0 0 rfl)
theorem dX2_hasCell_1 : decode cX2_hasCell 1 = .ok (.iconst 0, 1) := od_3 (od_at tB_cX2_hasCell_0 1 rfl)
theorem dX2_hasCell_2 : decode cX2_hasCell 2 = .ok (.aload_n 0, 1) := od_42 (od_at tB_cX2_hasCell_0 2 rfl)
theorem dX2_hasCell_3 : decode cX2_hasCell 3 = .ok (.getfield 23, 3) := od_180 (od_at tB_cX2_hasCell_0 3 rfl) (od_at tB_cX2_hasCell_0 4 rfl) (od_at tB_cX2_hasCell_0 5 rfl) rfl
theorem dX2_hasCell_6 : decode cX2_hasCell 6 = .ok (.iconst 1, 1) := od_4 (od_at tB_cX2_hasCell_0 6 rfl)
theorem dX2_hasCell_7 : decode cX2_hasCell 7 = .ok (.isub, 1) := od_100 (od_at tB_cX2_hasCell_0 7 rfl)
theorem dX2_hasCell_8 : decode cX2_hasCell 8 = .ok (.invokestatic 32, 3) := od_184 (od_at tB_cX2_hasCell_0 8 rfl) (od_at tB_cX2_hasCell_0 9 rfl) (od_at tB_cX2_hasCell_0 10 rfl) rfl
theorem dX2_hasCell_11 : decode cX2_hasCell 11 = .ok (.ireturn, 1) := od_172 (od_at tB_cX2_hasCell_0 11 rfl)
def RB_cX2_hasCells_1 : List UInt8 := 0x00 :: 0x17 :: 0x1b :: 0x64 :: 0xb8 :: 0x00 :: 0x20 :: 0x99 :: 0x00 :: 0x07 :: 0x04 :: 0xa7 :: 0x00 :: 0x04 :: 0x03 :: 0xac :: []
def RB_cX2_hasCells_0 : List UInt8 := 0x1b :: 0x03 :: 0x2a :: 0xb4 :: 0x00 :: 0x17 :: 0xb8 :: 0x00 :: 0x20 :: 0x99 :: 0x00 :: 0x15 :: 0x1c :: 0x03 :: 0x2a :: 0xb4 :: RB_cX2_hasCells_1
theorem tB_cX2_hasCells_0 : cX2_hasCells.data.toList.drop 0 = RB_cX2_hasCells_0 := by decide +kernel
theorem tB_cX2_hasCells_1 : cX2_hasCells.data.toList.drop 16 = RB_cX2_hasCells_1 := od_st tB_cX2_hasCells_0 16 rfl
theorem dX2_hasCells_0 : decode cX2_hasCells 0 = .ok (.iload_n 1, 1) := od_27 (od_at tB_cX2_hasCells_0 0 rfl)
theorem dX2_hasCells_1 : decode cX2_hasCells 1 = .ok (.iconst 0, 1) := od_3 (od_at tB_cX2_hasCells_0 1 rfl)
theorem dX2_hasCells_2 : decode cX2_hasCells 2 = .ok (.aload_n 0, 1) := od_42 (od_at tB_cX2_hasCells_0 2 rfl)
theorem dX2_hasCells_3 : decode cX2_hasCells 3 = .ok (.getfield 23, 3) := od_180 (od_at tB_cX2_hasCells_0 3 rfl) (od_at tB_cX2_hasCells_0 4 rfl) (od_at tB_cX2_hasCells_0 5 rfl) rfl
theorem dX2_hasCells_6 : decode cX2_hasCells 6 = .ok (.invokestatic 32, 3) := od_184 (od_at tB_cX2_hasCells_0 6 rfl) (od_at tB_cX2_hasCells_0 7 rfl) (od_at tB_cX2_hasCells_0 8 rfl) rfl
theorem dX2_hasCells_9 : decode cX2_hasCells 9 = .ok (.ifCond .eq 21, 3) := od_153 (od_at tB_cX2_hasCells_0 9 rfl) (od_at tB_cX2_hasCells_0 10 rfl) (od_at tB_cX2_hasCells_0 11 rfl) (by decide +kernel)
theorem dX2_hasCells_12 : decode cX2_hasCells 12 = .ok (.iload_n 2, 1) := od_28 (od_at tB_cX2_hasCells_0 12 rfl)
theorem dX2_hasCells_13 : decode cX2_hasCells 13 = .ok (.iconst 0, 1) := od_3 (od_at tB_cX2_hasCells_0 13 rfl)
theorem dX2_hasCells_14 : decode cX2_hasCells 14 = .ok (.aload_n 0, 1) := od_42 (od_at tB_cX2_hasCells_0 14 rfl)
theorem dX2_hasCells_15 : decode cX2_hasCells 15 = .ok (.getfield 23, 3) := od_180 (od_at tB_cX2_hasCells_0 15 rfl) (od_at tB_cX2_hasCells_0 16 rfl) (od_at tB_cX2_hasCells_0 17 rfl) rfl
theorem dX2_hasCells_18 : decode cX2_hasCells 18 = .ok (.iload_n 1, 1) := od_27 (od_at tB_cX2_hasCells_1 2 rfl)
theorem dX2_hasCells_19 : decode cX2_hasCells 19 = .ok (.isub, 1) := od_100 (od_at tB_cX2_hasCells_1 3 rfl)
theorem dX2_hasCells_20 : decode cX2_hasCells 20 = .ok (.invokestatic 32, 3) := od_184 (od_at tB_cX2_hasCells_1 4 rfl) (od_at tB_cX2_hasCells_1 5 rfl) (od_at tB_cX2_hasCells_1 6 rfl) rfl
theorem dX2_hasCells_23 : decode cX2_hasCells 23 = .ok (.ifCond .eq 7, 3) := od_153 (od_at tB_cX2_hasCells_1 7 rfl) (od_at tB_cX2_hasCells_1 8 rfl) (od_at tB_cX2_hasCells_1 9 rfl) (by decide +kernel)
theorem dX2_hasCells_26 : decode cX2_hasCells 26 = .ok (.iconst 1, 1) := od_4 (od_at tB_cX2_hasCells_1 10 rfl)
theorem dX2_hasCells_27 : decode cX2_hasCells 27 = .ok (.goto 4, 3) := od_167 (od_at tB_cX2_hasCells_1 11 rfl) (od_at tB_cX2_hasCells_1 12 rfl) (od_at tB_cX2_hasCells_1 13 rfl) (by decide +kernel)
theorem dX2_hasCells_30 : decode cX2_hasCells 30 = .ok (.iconst 0, 1) := od_3 (od_at tB_cX2_hasCells_1 14 rfl)
theorem dX2_hasCells_31 : decode cX2_hasCells 31 = .ok (.ireturn, 1) := od_172 (od_at tB_cX2_hasCells_1 15 rfl)
def RB_cX2_fillIn_3 : List UInt8 := 0x1c :: 0x93 :: 0x4f :: 0xa7 :: 0x00 :: 0x0a :: 0x2a :: 0xb4 :: 0x00 :: 0x09 :: 0x1b :: 0x1c :: 0x4f :: 0xb1 :: []
def RB_cX2_fillIn_2 : List UInt8 := 0x2a :: 0xb4 :: 0x00 :: 0x09 :: 0x1b :: 0x1c :: 0x91 :: 0x4f :: 0xa7 :: 0x00 :: 0x15 :: 0x2a :: 0xb4 :: 0x00 :: 0x09 :: 0x1b :: RB_cX2_fillIn_3
def RB_cX2_fillIn_1 : List UInt8 := 0x00 :: 0x00 :: 0x00 :: 0x00 :: 0x00 :: 0x00 :: 0x00 :: 0x1c :: 0x00 :: 0x00 :: 0x00 :: 0x01 :: 0x00 :: 0x00 :: 0x00 :: 0x27 :: RB_cX2_fillIn_2
def RB_cX2_fillIn_0 : List UInt8 := 0x2a :: 0xb4 :: 0x00 :: 0x13 :: 0xab :: 0x00 :: 0x00 :: 0x00 :: 0x00 :: 0x00 :: 0x00 :: 0x32 :: 0x00 :: 0x00 :: 0x00 :: 0x02 :: RB_cX2_fillIn_1
theorem tB_cX2_fillIn_0 : cX2_fillIn.data.toList.drop 0 = RB_cX2_fillIn_0 := by decide +kernel
theorem tB_cX2_fillIn_1 : cX2_fillIn.data.toList.drop 16 = RB_cX2_fillIn_1 := od_st tB_cX2_fillIn_0 16 rfl
theorem tB_cX2_fillIn_2 : cX2_fillIn.data.toList.drop 32 = RB_cX2_fillIn_2 := od_st tB_cX2_fillIn_1 16 rfl
theorem tB_cX2_fillIn_3 : cX2_fillIn.data.toList.drop 48 = RB_cX2_fillIn_3 := od_st tB_cX2_fillIn_2 16 rfl
theorem dX2_fillIn_0 : decode cX2_fillIn 0 = .ok (.aload_n 0, 1) := od_42 (od_at tB_cX2_fillIn_0 0 rfl)
theorem dX2_fillIn_1 : decode cX2_fillIn 1 = .ok (.getfield 19, 3) := od_180 (od_at tB_cX2_fillIn_0 1 rfl) (od_at tB_cX2_fillIn_0 2 rfl) (od_at tB_cX2_fillIn_0 3 rfl) rfl
theorem dX2_fillIn_4 : decode cX2_fillIn 4 = .ok (.lookupswitch 50 #[(0, 28), (1, 39)], 28) := by decide +kernel
theorem dX2_fillIn_32 : decode cX2_fillIn 32 = .ok (.aload_n 0, 1) := od_42 (od_at tB_cX2_fillIn_2 0 rfl)
theorem dX2_fillIn_33 : decode cX2_fillIn 33 = .ok (.getfield 9, 3) := od_180 (od_at tB_cX2_fillIn_2 1 rfl) (od_at tB_cX2_fillIn_2 2 rfl) (od_at tB_cX2_fillIn_2 3 rfl) rfl
theorem dX2_fillIn_36 : decode cX2_fillIn 36 = .ok (.iload_n 1, 1) := od_27 (od_at tB_cX2_fillIn_2 4 rfl)
theorem dX2_fillIn_37 : decode cX2_fillIn 37 = .ok (.iload_n 2, 1) := od_28 (od_at tB_cX2_fillIn_2 5 rfl)
theorem dX2_fillIn_38 : decode cX2_fillIn 38 = .ok (.i2b, 1) := od_145 (od_at tB_cX2_fillIn_2 6 rfl)
theorem dX2_fillIn_39 : decode cX2_fillIn 39 = .ok (.iastore, 1) := od_79 (od_at tB_cX2_fillIn_2 7 rfl)
theorem dX2_fillIn_40 : decode cX2_fillIn 40 = .ok (.goto 21, 3) := od_167 (od_at tB_cX2_fillIn_2 8 rfl) (od_at tB_cX2_fillIn_2 9 rfl) (od_at tB_cX2_fillIn_2 10 rfl) (by decide +kernel)
theorem dX2_fillIn_43 : decode cX2_fillIn 43 = .ok (.aload_n 0, 1) := od_42 (od_at tB_cX2_fillIn_2 11 rfl)
theorem dX2_fillIn_44 : decode cX2_fillIn 44 = .ok (.getfield 9, 3) := od_180 (od_at tB_cX2_fillIn_2 12 rfl) (od_at tB_cX2_fillIn_2 13 rfl) (od_at tB_cX2_fillIn_2 14 rfl) rfl
theorem dX2_fillIn_47 : decode cX2_fillIn 47 = .ok (.iload_n 1, 1) := od_27 (od_at tB_cX2_fillIn_2 15 rfl)
theorem dX2_fillIn_48 : decode cX2_fillIn 48 = .ok (.iload_n 2, 1) := od_28 (od_at tB_cX2_fillIn_3 0 rfl)
theorem dX2_fillIn_49 : decode cX2_fillIn 49 = .ok (.i2s, 1) := od_147 (od_at tB_cX2_fillIn_3 1 rfl)
theorem dX2_fillIn_50 : decode cX2_fillIn 50 = .ok (.iastore, 1) := od_79 (od_at tB_cX2_fillIn_3 2 rfl)
theorem dX2_fillIn_51 : decode cX2_fillIn 51 = .ok (.goto 10, 3) := od_167 (od_at tB_cX2_fillIn_3 3 rfl) (od_at tB_cX2_fillIn_3 4 rfl) (od_at tB_cX2_fillIn_3 5 rfl) (by decide +kernel)
theorem dX2_fillIn_54 : decode cX2_fillIn 54 = .ok (.aload_n 0, 1) := od_42 (od_at tB_cX2_fillIn_3 6 rfl)
theorem dX2_fillIn_55 : decode cX2_fillIn 55 = .ok (.getfield 9, 3) := od_180 (od_at tB_cX2_fillIn_3 7 rfl) (od_at tB_cX2_fillIn_3 8 rfl) (od_at tB_cX2_fillIn_3 9 rfl) rfl
theorem dX2_fillIn_58 : decode cX2_fillIn 58 = .ok (.iload_n 1, 1) := od_27 (od_at tB_cX2_fillIn_3 10 rfl)
theorem dX2_fillIn_59 : decode cX2_fillIn 59 = .ok (.iload_n 2, 1) := od_28 (od_at tB_cX2_fillIn_3 11 rfl)
theorem dX2_fillIn_60 : decode cX2_fillIn 60 = .ok (.iastore, 1) := od_79 (od_at tB_cX2_fillIn_3 12 rfl)
theorem dX2_fillIn_61 : decode cX2_fillIn 61 = .ok (.return_, 1) := od_177 (od_at tB_cX2_fillIn_3 13 rfl)
def RB_cX2_faultAs_1 : List UInt8 := 0x07 :: 0x03 :: 0xa7 :: 0x00 :: 0x04 :: 0x05 :: 0xac :: []
def RB_cX2_faultAs_0 : List UInt8 := 0x2a :: 0xb4 :: 0x00 :: 0x0f :: 0x9a :: 0x00 :: 0x05 :: 0x04 :: 0xac :: 0x2a :: 0xb4 :: 0x00 :: 0x13 :: 0x1b :: 0xa0 :: 0x00 :: RB_cX2_faultAs_1
theorem tB_cX2_faultAs_0 : cX2_faultAs.data.toList.drop 0 = RB_cX2_faultAs_0 := by decide +kernel
theorem tB_cX2_faultAs_1 : cX2_faultAs.data.toList.drop 16 = RB_cX2_faultAs_1 := od_st tB_cX2_faultAs_0 16 rfl
theorem dX2_faultAs_0 : decode cX2_faultAs 0 = .ok (.aload_n 0, 1) := od_42 (od_at tB_cX2_faultAs_0 0 rfl)
theorem dX2_faultAs_1 : decode cX2_faultAs 1 = .ok (.getfield 15, 3) := od_180 (od_at tB_cX2_faultAs_0 1 rfl) (od_at tB_cX2_faultAs_0 2 rfl) (od_at tB_cX2_faultAs_0 3 rfl) rfl
theorem dX2_faultAs_4 : decode cX2_faultAs 4 = .ok (.ifCond .ne 5, 3) := od_154 (od_at tB_cX2_faultAs_0 4 rfl) (od_at tB_cX2_faultAs_0 5 rfl) (od_at tB_cX2_faultAs_0 6 rfl) (by decide +kernel)
theorem dX2_faultAs_7 : decode cX2_faultAs 7 = .ok (.iconst 1, 1) := od_4 (od_at tB_cX2_faultAs_0 7 rfl)
theorem dX2_faultAs_8 : decode cX2_faultAs 8 = .ok (.ireturn, 1) := od_172 (od_at tB_cX2_faultAs_0 8 rfl)
theorem dX2_faultAs_9 : decode cX2_faultAs 9 = .ok (.aload_n 0, 1) := od_42 (od_at tB_cX2_faultAs_0 9 rfl)
theorem dX2_faultAs_10 : decode cX2_faultAs 10 = .ok (.getfield 19, 3) := od_180 (od_at tB_cX2_faultAs_0 10 rfl) (od_at tB_cX2_faultAs_0 11 rfl) (od_at tB_cX2_faultAs_0 12 rfl) rfl
theorem dX2_faultAs_13 : decode cX2_faultAs 13 = .ok (.iload_n 1, 1) := od_27 (od_at tB_cX2_faultAs_0 13 rfl)
theorem dX2_faultAs_14 : decode cX2_faultAs 14 = .ok (.if_icmp .ne 7, 3) := od_160 (od_at tB_cX2_faultAs_0 14 rfl) (od_at tB_cX2_faultAs_0 15 rfl) (od_at tB_cX2_faultAs_0 16 rfl) (by decide +kernel)
theorem dX2_faultAs_17 : decode cX2_faultAs 17 = .ok (.iconst 0, 1) := od_3 (od_at tB_cX2_faultAs_1 1 rfl)
theorem dX2_faultAs_18 : decode cX2_faultAs 18 = .ok (.goto 4, 3) := od_167 (od_at tB_cX2_faultAs_1 2 rfl) (od_at tB_cX2_faultAs_1 3 rfl) (od_at tB_cX2_faultAs_1 4 rfl) (by decide +kernel)
theorem dX2_faultAs_21 : decode cX2_faultAs 21 = .ok (.iconst 2, 1) := od_5 (od_at tB_cX2_faultAs_1 5 rfl)
theorem dX2_faultAs_22 : decode cX2_faultAs 22 = .ok (.ireturn, 1) := od_172 (od_at tB_cX2_faultAs_1 6 rfl)
def RB_cX2_watched_9 : List UInt8 := 0x64 :: 0xac :: []
def RB_cX2_watched_8 : List UInt8 := 0x15 :: 0x04 :: 0xac :: 0x15 :: 0x05 :: 0xac :: 0x15 :: 0x06 :: 0xac :: 0x15 :: 0x04 :: 0x15 :: 0x05 :: 0x60 :: 0x15 :: 0x06 :: RB_cX2_watched_9
def RB_cX2_watched_7 : List UInt8 := 0x00 :: 0x00 :: 0x00 :: 0x02 :: 0x00 :: 0x00 :: 0x00 :: 0x1c :: 0x00 :: 0x00 :: 0x00 :: 0x1f :: 0x00 :: 0x00 :: 0x00 :: 0x22 :: RB_cX2_watched_8
def RB_cX2_watched_6 : List UInt8 := 0xa7 :: 0xff :: 0xb2 :: 0x1d :: 0xaa :: 0x00 :: 0x00 :: 0x00 :: 0x00 :: 0x00 :: 0x00 :: 0x25 :: 0x00 :: 0x00 :: 0x00 :: 0x00 :: RB_cX2_watched_7
def RB_cX2_watched_5 : List UInt8 := 0x05 :: 0x01 :: 0xa7 :: 0x00 :: 0x0b :: 0x15 :: 0x07 :: 0x9e :: 0x00 :: 0x06 :: 0x84 :: 0x06 :: 0x01 :: 0x84 :: 0x09 :: 0x01 :: RB_cX2_watched_6
def RB_cX2_watched_4 : List UInt8 := 0x03 :: 0x36 :: 0x07 :: 0x15 :: 0x0a :: 0x36 :: 0x08 :: 0x15 :: 0x07 :: 0x05 :: 0x70 :: 0x04 :: 0xa0 :: 0x00 :: 0x09 :: 0x84 :: RB_cX2_watched_5
def RB_cX2_watched_3 : List UInt8 := 0x04 :: 0x01 :: 0x15 :: 0x0a :: 0x15 :: 0x08 :: 0xa0 :: 0x00 :: 0x0a :: 0x15 :: 0x07 :: 0x04 :: 0x60 :: 0xa7 :: 0x00 :: 0x04 :: RB_cX2_watched_4
def RB_cX2_watched_2 : List UInt8 := 0x2e :: 0x36 :: 0x0a :: 0x15 :: 0x0a :: 0x04 :: 0x9f :: 0x00 :: 0x09 :: 0x15 :: 0x0a :: 0x05 :: 0xa0 :: 0x00 :: 0x31 :: 0x84 :: RB_cX2_watched_3
def RB_cX2_watched_1 : List UInt8 := 0x36 :: 0x09 :: 0x15 :: 0x09 :: 0x1b :: 0x1c :: 0x60 :: 0xa2 :: 0x00 :: 0x4c :: 0x2a :: 0xb4 :: 0x00 :: 0x09 :: 0x15 :: 0x09 :: RB_cX2_watched_2
def RB_cX2_watched_0 : List UInt8 := 0x03 :: 0x36 :: 0x04 :: 0x03 :: 0x36 :: 0x05 :: 0x03 :: 0x36 :: 0x06 :: 0x03 :: 0x36 :: 0x07 :: 0x03 :: 0x36 :: 0x08 :: 0x1b :: RB_cX2_watched_1
theorem tB_cX2_watched_0 : cX2_watched.data.toList.drop 0 = RB_cX2_watched_0 := by decide +kernel
theorem tB_cX2_watched_1 : cX2_watched.data.toList.drop 16 = RB_cX2_watched_1 := od_st tB_cX2_watched_0 16 rfl
theorem tB_cX2_watched_2 : cX2_watched.data.toList.drop 32 = RB_cX2_watched_2 := od_st tB_cX2_watched_1 16 rfl
theorem tB_cX2_watched_3 : cX2_watched.data.toList.drop 48 = RB_cX2_watched_3 := od_st tB_cX2_watched_2 16 rfl
theorem tB_cX2_watched_4 : cX2_watched.data.toList.drop 64 = RB_cX2_watched_4 := od_st tB_cX2_watched_3 16 rfl
theorem tB_cX2_watched_5 : cX2_watched.data.toList.drop 80 = RB_cX2_watched_5 := od_st tB_cX2_watched_4 16 rfl
theorem tB_cX2_watched_6 : cX2_watched.data.toList.drop 96 = RB_cX2_watched_6 := od_st tB_cX2_watched_5 16 rfl
theorem tB_cX2_watched_7 : cX2_watched.data.toList.drop 112 = RB_cX2_watched_7 := od_st tB_cX2_watched_6 16 rfl
theorem tB_cX2_watched_8 : cX2_watched.data.toList.drop 128 = RB_cX2_watched_8 := od_st tB_cX2_watched_7 16 rfl
theorem tB_cX2_watched_9 : cX2_watched.data.toList.drop 144 = RB_cX2_watched_9 := od_st tB_cX2_watched_8 16 rfl
theorem dX2_watched_0 : decode cX2_watched 0 = .ok (.iconst 0, 1) := od_3 (od_at tB_cX2_watched_0 0 rfl)
theorem dX2_watched_1 : decode cX2_watched 1 = .ok (.istore 4, 2) := od_54 (od_at tB_cX2_watched_0 1 rfl) (od_at tB_cX2_watched_0 2 rfl) rfl
theorem dX2_watched_3 : decode cX2_watched 3 = .ok (.iconst 0, 1) := od_3 (od_at tB_cX2_watched_0 3 rfl)
theorem dX2_watched_4 : decode cX2_watched 4 = .ok (.istore 5, 2) := od_54 (od_at tB_cX2_watched_0 4 rfl) (od_at tB_cX2_watched_0 5 rfl) rfl
theorem dX2_watched_6 : decode cX2_watched 6 = .ok (.iconst 0, 1) := od_3 (od_at tB_cX2_watched_0 6 rfl)
theorem dX2_watched_7 : decode cX2_watched 7 = .ok (.istore 6, 2) := od_54 (od_at tB_cX2_watched_0 7 rfl) (od_at tB_cX2_watched_0 8 rfl) rfl
theorem dX2_watched_9 : decode cX2_watched 9 = .ok (.iconst 0, 1) := od_3 (od_at tB_cX2_watched_0 9 rfl)
theorem dX2_watched_10 : decode cX2_watched 10 = .ok (.istore 7, 2) := od_54 (od_at tB_cX2_watched_0 10 rfl) (od_at tB_cX2_watched_0 11 rfl) rfl
theorem dX2_watched_12 : decode cX2_watched 12 = .ok (.iconst 0, 1) := od_3 (od_at tB_cX2_watched_0 12 rfl)
theorem dX2_watched_13 : decode cX2_watched 13 = .ok (.istore 8, 2) := od_54 (od_at tB_cX2_watched_0 13 rfl) (od_at tB_cX2_watched_0 14 rfl) rfl
theorem dX2_watched_15 : decode cX2_watched 15 = .ok (.iload_n 1, 1) := od_27 (od_at tB_cX2_watched_0 15 rfl)
theorem dX2_watched_16 : decode cX2_watched 16 = .ok (.istore 9, 2) := od_54 (od_at tB_cX2_watched_1 0 rfl) (od_at tB_cX2_watched_1 1 rfl) rfl
theorem dX2_watched_18 : decode cX2_watched 18 = .ok (.iload 9, 2) := od_21 (od_at tB_cX2_watched_1 2 rfl) (od_at tB_cX2_watched_1 3 rfl) rfl
theorem dX2_watched_20 : decode cX2_watched 20 = .ok (.iload_n 1, 1) := od_27 (od_at tB_cX2_watched_1 4 rfl)
theorem dX2_watched_21 : decode cX2_watched 21 = .ok (.iload_n 2, 1) := od_28 (od_at tB_cX2_watched_1 5 rfl)
theorem dX2_watched_22 : decode cX2_watched 22 = .ok (.iadd, 1) := od_96 (od_at tB_cX2_watched_1 6 rfl)
theorem dX2_watched_23 : decode cX2_watched 23 = .ok (.if_icmp .ge 76, 3) := od_162 (od_at tB_cX2_watched_1 7 rfl) (od_at tB_cX2_watched_1 8 rfl) (od_at tB_cX2_watched_1 9 rfl) (by decide +kernel)
theorem dX2_watched_26 : decode cX2_watched 26 = .ok (.aload_n 0, 1) := od_42 (od_at tB_cX2_watched_1 10 rfl)
theorem dX2_watched_27 : decode cX2_watched 27 = .ok (.getfield 9, 3) := od_180 (od_at tB_cX2_watched_1 11 rfl) (od_at tB_cX2_watched_1 12 rfl) (od_at tB_cX2_watched_1 13 rfl) rfl
theorem dX2_watched_30 : decode cX2_watched 30 = .ok (.iload 9, 2) := od_21 (od_at tB_cX2_watched_1 14 rfl) (od_at tB_cX2_watched_1 15 rfl) rfl
theorem dX2_watched_32 : decode cX2_watched 32 = .ok (.iaload, 1) := od_46 (od_at tB_cX2_watched_2 0 rfl)
theorem dX2_watched_33 : decode cX2_watched 33 = .ok (.istore 10, 2) := od_54 (od_at tB_cX2_watched_2 1 rfl) (od_at tB_cX2_watched_2 2 rfl) rfl
theorem dX2_watched_35 : decode cX2_watched 35 = .ok (.iload 10, 2) := od_21 (od_at tB_cX2_watched_2 3 rfl) (od_at tB_cX2_watched_2 4 rfl) rfl
theorem dX2_watched_37 : decode cX2_watched 37 = .ok (.iconst 1, 1) := od_4 (od_at tB_cX2_watched_2 5 rfl)
theorem dX2_watched_38 : decode cX2_watched 38 = .ok (.if_icmp .eq 9, 3) := od_159 (od_at tB_cX2_watched_2 6 rfl) (od_at tB_cX2_watched_2 7 rfl) (od_at tB_cX2_watched_2 8 rfl) (by decide +kernel)
theorem dX2_watched_41 : decode cX2_watched 41 = .ok (.iload 10, 2) := od_21 (od_at tB_cX2_watched_2 9 rfl) (od_at tB_cX2_watched_2 10 rfl) rfl
theorem dX2_watched_43 : decode cX2_watched 43 = .ok (.iconst 2, 1) := od_5 (od_at tB_cX2_watched_2 11 rfl)
theorem dX2_watched_44 : decode cX2_watched 44 = .ok (.if_icmp .ne 49, 3) := od_160 (od_at tB_cX2_watched_2 12 rfl) (od_at tB_cX2_watched_2 13 rfl) (od_at tB_cX2_watched_2 14 rfl) (by decide +kernel)
theorem dX2_watched_47 : decode cX2_watched 47 = .ok (.iinc 4 1, 3) := od_132 (od_at tB_cX2_watched_2 15 rfl) (od_at tB_cX2_watched_2 16 rfl) (od_at tB_cX2_watched_2 17 rfl) rfl (by decide +kernel)
theorem dX2_watched_50 : decode cX2_watched 50 = .ok (.iload 10, 2) := od_21 (od_at tB_cX2_watched_3 2 rfl) (od_at tB_cX2_watched_3 3 rfl) rfl
theorem dX2_watched_52 : decode cX2_watched 52 = .ok (.iload 8, 2) := od_21 (od_at tB_cX2_watched_3 4 rfl) (od_at tB_cX2_watched_3 5 rfl) rfl
theorem dX2_watched_54 : decode cX2_watched 54 = .ok (.if_icmp .ne 10, 3) := od_160 (od_at tB_cX2_watched_3 6 rfl) (od_at tB_cX2_watched_3 7 rfl) (od_at tB_cX2_watched_3 8 rfl) (by decide +kernel)
theorem dX2_watched_57 : decode cX2_watched 57 = .ok (.iload 7, 2) := od_21 (od_at tB_cX2_watched_3 9 rfl) (od_at tB_cX2_watched_3 10 rfl) rfl
theorem dX2_watched_59 : decode cX2_watched 59 = .ok (.iconst 1, 1) := od_4 (od_at tB_cX2_watched_3 11 rfl)
theorem dX2_watched_60 : decode cX2_watched 60 = .ok (.iadd, 1) := od_96 (od_at tB_cX2_watched_3 12 rfl)
theorem dX2_watched_61 : decode cX2_watched 61 = .ok (.goto 4, 3) := od_167 (od_at tB_cX2_watched_3 13 rfl) (od_at tB_cX2_watched_3 14 rfl) (od_at tB_cX2_watched_3 15 rfl) (by decide +kernel)
theorem dX2_watched_64 : decode cX2_watched 64 = .ok (.iconst 0, 1) := od_3 (od_at tB_cX2_watched_4 0 rfl)
theorem dX2_watched_65 : decode cX2_watched 65 = .ok (.istore 7, 2) := od_54 (od_at tB_cX2_watched_4 1 rfl) (od_at tB_cX2_watched_4 2 rfl) rfl
theorem dX2_watched_67 : decode cX2_watched 67 = .ok (.iload 10, 2) := od_21 (od_at tB_cX2_watched_4 3 rfl) (od_at tB_cX2_watched_4 4 rfl) rfl
theorem dX2_watched_69 : decode cX2_watched 69 = .ok (.istore 8, 2) := od_54 (od_at tB_cX2_watched_4 5 rfl) (od_at tB_cX2_watched_4 6 rfl) rfl
theorem dX2_watched_71 : decode cX2_watched 71 = .ok (.iload 7, 2) := od_21 (od_at tB_cX2_watched_4 7 rfl) (od_at tB_cX2_watched_4 8 rfl) rfl
theorem dX2_watched_73 : decode cX2_watched 73 = .ok (.iconst 2, 1) := od_5 (od_at tB_cX2_watched_4 9 rfl)
theorem dX2_watched_74 : decode cX2_watched 74 = .ok (.irem, 1) := od_112 (od_at tB_cX2_watched_4 10 rfl)
theorem dX2_watched_75 : decode cX2_watched 75 = .ok (.iconst 1, 1) := od_4 (od_at tB_cX2_watched_4 11 rfl)
theorem dX2_watched_76 : decode cX2_watched 76 = .ok (.if_icmp .ne 9, 3) := od_160 (od_at tB_cX2_watched_4 12 rfl) (od_at tB_cX2_watched_4 13 rfl) (od_at tB_cX2_watched_4 14 rfl) (by decide +kernel)
theorem dX2_watched_79 : decode cX2_watched 79 = .ok (.iinc 5 1, 3) := od_132 (od_at tB_cX2_watched_4 15 rfl) (od_at tB_cX2_watched_4 16 rfl) (od_at tB_cX2_watched_4 17 rfl) rfl (by decide +kernel)
theorem dX2_watched_82 : decode cX2_watched 82 = .ok (.goto 11, 3) := od_167 (od_at tB_cX2_watched_5 2 rfl) (od_at tB_cX2_watched_5 3 rfl) (od_at tB_cX2_watched_5 4 rfl) (by decide +kernel)
theorem dX2_watched_85 : decode cX2_watched 85 = .ok (.iload 7, 2) := od_21 (od_at tB_cX2_watched_5 5 rfl) (od_at tB_cX2_watched_5 6 rfl) rfl
theorem dX2_watched_87 : decode cX2_watched 87 = .ok (.ifCond .le 6, 3) := od_158 (od_at tB_cX2_watched_5 7 rfl) (od_at tB_cX2_watched_5 8 rfl) (od_at tB_cX2_watched_5 9 rfl) (by decide +kernel)
theorem dX2_watched_90 : decode cX2_watched 90 = .ok (.iinc 6 1, 3) := od_132 (od_at tB_cX2_watched_5 10 rfl) (od_at tB_cX2_watched_5 11 rfl) (od_at tB_cX2_watched_5 12 rfl) rfl (by decide +kernel)
theorem dX2_watched_93 : decode cX2_watched 93 = .ok (.iinc 9 1, 3) := od_132 (od_at tB_cX2_watched_5 13 rfl) (od_at tB_cX2_watched_5 14 rfl) (od_at tB_cX2_watched_5 15 rfl) rfl (by decide +kernel)
theorem dX2_watched_96 : decode cX2_watched 96 = .ok (.goto (-78), 3) := od_167 (od_at tB_cX2_watched_6 0 rfl) (od_at tB_cX2_watched_6 1 rfl) (od_at tB_cX2_watched_6 2 rfl) (by decide +kernel)
theorem dX2_watched_99 : decode cX2_watched 99 = .ok (.iload_n 3, 1) := od_29 (od_at tB_cX2_watched_6 3 rfl)
theorem dX2_watched_100 : decode cX2_watched 100 = .ok (.tableswitch 37 0 2 #[28, 31, 34], 28) := by decide +kernel
theorem dX2_watched_128 : decode cX2_watched 128 = .ok (.iload 4, 2) := od_21 (od_at tB_cX2_watched_8 0 rfl) (od_at tB_cX2_watched_8 1 rfl) rfl
theorem dX2_watched_130 : decode cX2_watched 130 = .ok (.ireturn, 1) := od_172 (od_at tB_cX2_watched_8 2 rfl)
theorem dX2_watched_131 : decode cX2_watched 131 = .ok (.iload 5, 2) := od_21 (od_at tB_cX2_watched_8 3 rfl) (od_at tB_cX2_watched_8 4 rfl) rfl
theorem dX2_watched_133 : decode cX2_watched 133 = .ok (.ireturn, 1) := od_172 (od_at tB_cX2_watched_8 5 rfl)
theorem dX2_watched_134 : decode cX2_watched 134 = .ok (.iload 6, 2) := od_21 (od_at tB_cX2_watched_8 6 rfl) (od_at tB_cX2_watched_8 7 rfl) rfl
theorem dX2_watched_136 : decode cX2_watched 136 = .ok (.ireturn, 1) := od_172 (od_at tB_cX2_watched_8 8 rfl)
theorem dX2_watched_137 : decode cX2_watched 137 = .ok (.iload 4, 2) := od_21 (od_at tB_cX2_watched_8 9 rfl) (od_at tB_cX2_watched_8 10 rfl) rfl
theorem dX2_watched_139 : decode cX2_watched 139 = .ok (.iload 5, 2) := od_21 (od_at tB_cX2_watched_8 11 rfl) (od_at tB_cX2_watched_8 12 rfl) rfl
theorem dX2_watched_141 : decode cX2_watched 141 = .ok (.iadd, 1) := od_96 (od_at tB_cX2_watched_8 13 rfl)
theorem dX2_watched_142 : decode cX2_watched 142 = .ok (.iload 6, 2) := od_21 (od_at tB_cX2_watched_8 14 rfl) (od_at tB_cX2_watched_8 15 rfl) rfl
theorem dX2_watched_144 : decode cX2_watched 144 = .ok (.isub, 1) := od_100 (od_at tB_cX2_watched_9 0 rfl)
theorem dX2_watched_145 : decode cX2_watched 145 = .ok (.ireturn, 1) := od_172 (od_at tB_cX2_watched_9 1 rfl)
def RB_cX3_init_3 : List UInt8 := 0xb1 :: []
def RB_cX3_init_2 : List UInt8 := 0x1d :: 0xb5 :: 0x00 :: 0x1b :: 0x2a :: 0x15 :: 0x04 :: 0xb5 :: 0x00 :: 0x1e :: 0x2a :: 0x15 :: 0x05 :: 0xb5 :: 0x00 :: 0x21 :: RB_cX3_init_3
def RB_cX3_init_1 : List UInt8 := 0x10 :: 0xf7 :: 0xb5 :: 0x00 :: 0x12 :: 0x2a :: 0x1b :: 0xb5 :: 0x00 :: 0x15 :: 0x2a :: 0x1c :: 0xb5 :: 0x00 :: 0x18 :: 0x2a :: RB_cX3_init_2
def RB_cX3_init_0 : List UInt8 := 0x2a :: 0xb7 :: 0x00 :: 0x03 :: 0x2a :: 0x03 :: 0xb5 :: 0x00 :: 0x09 :: 0x2a :: 0x10 :: 0xf7 :: 0xb5 :: 0x00 :: 0x0f :: 0x2a :: RB_cX3_init_1
theorem tB_cX3_init_0 : cX3_init.data.toList.drop 0 = RB_cX3_init_0 := by decide +kernel
theorem tB_cX3_init_1 : cX3_init.data.toList.drop 16 = RB_cX3_init_1 := od_st tB_cX3_init_0 16 rfl
theorem tB_cX3_init_2 : cX3_init.data.toList.drop 32 = RB_cX3_init_2 := od_st tB_cX3_init_1 16 rfl
theorem tB_cX3_init_3 : cX3_init.data.toList.drop 48 = RB_cX3_init_3 := od_st tB_cX3_init_2 16 rfl
theorem dX3_init_0 : decode cX3_init 0 = .ok (.aload_n 0, 1) := od_42 (od_at tB_cX3_init_0 0 rfl)
theorem dX3_init_1 : decode cX3_init 1 = .ok (.invokespecial 3, 3) := od_183 (od_at tB_cX3_init_0 1 rfl) (od_at tB_cX3_init_0 2 rfl) (od_at tB_cX3_init_0 3 rfl) rfl
theorem dX3_init_4 : decode cX3_init 4 = .ok (.aload_n 0, 1) := od_42 (od_at tB_cX3_init_0 4 rfl)
theorem dX3_init_5 : decode cX3_init 5 = .ok (.iconst 0, 1) := od_3 (od_at tB_cX3_init_0 5 rfl)
theorem dX3_init_6 : decode cX3_init 6 = .ok (.putfield 9, 3) := od_181 (od_at tB_cX3_init_0 6 rfl) (od_at tB_cX3_init_0 7 rfl) (od_at tB_cX3_init_0 8 rfl) rfl
theorem dX3_init_9 : decode cX3_init 9 = .ok (.aload_n 0, 1) := od_42 (od_at tB_cX3_init_0 9 rfl)
theorem dX3_init_10 : decode cX3_init 10 = .ok (.bipush (-9), 2) := od_16 (od_at tB_cX3_init_0 10 rfl) (od_at tB_cX3_init_0 11 rfl) (by decide +kernel)
theorem dX3_init_12 : decode cX3_init 12 = .ok (.putfield 15, 3) := od_181 (od_at tB_cX3_init_0 12 rfl) (od_at tB_cX3_init_0 13 rfl) (od_at tB_cX3_init_0 14 rfl) rfl
theorem dX3_init_15 : decode cX3_init 15 = .ok (.aload_n 0, 1) := od_42 (od_at tB_cX3_init_0 15 rfl)
theorem dX3_init_16 : decode cX3_init 16 = .ok (.bipush (-9), 2) := od_16 (od_at tB_cX3_init_1 0 rfl) (od_at tB_cX3_init_1 1 rfl) (by decide +kernel)
theorem dX3_init_18 : decode cX3_init 18 = .ok (.putfield 18, 3) := od_181 (od_at tB_cX3_init_1 2 rfl) (od_at tB_cX3_init_1 3 rfl) (od_at tB_cX3_init_1 4 rfl) rfl
theorem dX3_init_21 : decode cX3_init 21 = .ok (.aload_n 0, 1) := od_42 (od_at tB_cX3_init_1 5 rfl)
theorem dX3_init_22 : decode cX3_init 22 = .ok (.iload_n 1, 1) := od_27 (od_at tB_cX3_init_1 6 rfl)
theorem dX3_init_23 : decode cX3_init 23 = .ok (.putfield 21, 3) := od_181 (od_at tB_cX3_init_1 7 rfl) (od_at tB_cX3_init_1 8 rfl) (od_at tB_cX3_init_1 9 rfl) rfl
theorem dX3_init_26 : decode cX3_init 26 = .ok (.aload_n 0, 1) := od_42 (od_at tB_cX3_init_1 10 rfl)
theorem dX3_init_27 : decode cX3_init 27 = .ok (.iload_n 2, 1) := od_28 (od_at tB_cX3_init_1 11 rfl)
theorem dX3_init_28 : decode cX3_init 28 = .ok (.putfield 24, 3) := od_181 (od_at tB_cX3_init_1 12 rfl) (od_at tB_cX3_init_1 13 rfl) (od_at tB_cX3_init_1 14 rfl) rfl
theorem dX3_init_31 : decode cX3_init 31 = .ok (.aload_n 0, 1) := od_42 (od_at tB_cX3_init_1 15 rfl)
theorem dX3_init_32 : decode cX3_init 32 = .ok (.iload_n 3, 1) := od_29 (od_at tB_cX3_init_2 0 rfl)
theorem dX3_init_33 : decode cX3_init 33 = .ok (.putfield 27, 3) := od_181 (od_at tB_cX3_init_2 1 rfl) (od_at tB_cX3_init_2 2 rfl) (od_at tB_cX3_init_2 3 rfl) rfl
theorem dX3_init_36 : decode cX3_init 36 = .ok (.aload_n 0, 1) := od_42 (od_at tB_cX3_init_2 4 rfl)
theorem dX3_init_37 : decode cX3_init 37 = .ok (.iload 4, 2) := od_21 (od_at tB_cX3_init_2 5 rfl) (od_at tB_cX3_init_2 6 rfl) rfl
theorem dX3_init_39 : decode cX3_init 39 = .ok (.putfield 30, 3) := od_181 (od_at tB_cX3_init_2 7 rfl) (od_at tB_cX3_init_2 8 rfl) (od_at tB_cX3_init_2 9 rfl) rfl
theorem dX3_init_42 : decode cX3_init 42 = .ok (.aload_n 0, 1) := od_42 (od_at tB_cX3_init_2 10 rfl)
theorem dX3_init_43 : decode cX3_init 43 = .ok (.iload 5, 2) := od_21 (od_at tB_cX3_init_2 11 rfl) (od_at tB_cX3_init_2 12 rfl) rfl
theorem dX3_init_45 : decode cX3_init 45 = .ok (.putfield 33, 3) := od_181 (od_at tB_cX3_init_2 13 rfl) (od_at tB_cX3_init_2 14 rfl) (od_at tB_cX3_init_2 15 rfl) rfl
theorem dX3_init_48 : decode cX3_init 48 = .ok (.return_, 1) := od_177 (od_at tB_cX3_init_3 0 rfl)
def RB_cX3_isReplaced_0 : List UInt8 := 0x2a :: 0xb4 :: 0x00 :: 0x0f :: 0x10 :: 0xf7 :: 0x9f :: 0x00 :: 0x07 :: 0x04 :: 0xa7 :: 0x00 :: 0x04 :: 0x03 :: 0xac :: []
theorem tB_cX3_isReplaced_0 : cX3_isReplaced.data.toList.drop 0 = RB_cX3_isReplaced_0 := by decide +kernel
theorem dX3_isReplaced_0 : decode cX3_isReplaced 0 = .ok (.aload_n 0, 1) := od_42 (od_at tB_cX3_isReplaced_0 0 rfl)
theorem dX3_isReplaced_1 : decode cX3_isReplaced 1 = .ok (.getfield 15, 3) := od_180 (od_at tB_cX3_isReplaced_0 1 rfl) (od_at tB_cX3_isReplaced_0 2 rfl) (od_at tB_cX3_isReplaced_0 3 rfl) rfl
theorem dX3_isReplaced_4 : decode cX3_isReplaced 4 = .ok (.bipush (-9), 2) := od_16 (od_at tB_cX3_isReplaced_0 4 rfl) (od_at tB_cX3_isReplaced_0 5 rfl) (by decide +kernel)
theorem dX3_isReplaced_6 : decode cX3_isReplaced 6 = .ok (.if_icmp .eq 7, 3) := od_159 (od_at tB_cX3_isReplaced_0 6 rfl) (od_at tB_cX3_isReplaced_0 7 rfl) (od_at tB_cX3_isReplaced_0 8 rfl) (by decide +kernel)
theorem dX3_isReplaced_9 : decode cX3_isReplaced 9 = .ok (.iconst 1, 1) := od_4 (od_at tB_cX3_isReplaced_0 9 rfl)
theorem dX3_isReplaced_10 : decode cX3_isReplaced 10 = .ok (.goto 4, 3) := od_167 (od_at tB_cX3_isReplaced_0 10 rfl) (od_at tB_cX3_isReplaced_0 11 rfl) (od_at tB_cX3_isReplaced_0 12 rfl) (by decide +kernel)
theorem dX3_isReplaced_13 : decode cX3_isReplaced 13 = .ok (.iconst 0, 1) := od_3 (od_at tB_cX3_isReplaced_0 13 rfl)
theorem dX3_isReplaced_14 : decode cX3_isReplaced 14 = .ok (.ireturn, 1) := od_172 (od_at tB_cX3_isReplaced_0 14 rfl)
def RB_cX3_counts_2 : List UInt8 := 0xac :: []
def RB_cX3_counts_1 : List UInt8 := 0x24 :: 0x99 :: 0x00 :: 0x0e :: 0x2a :: 0xb6 :: 0x00 :: 0x28 :: 0x9a :: 0x00 :: 0x07 :: 0x04 :: 0xa7 :: 0x00 :: 0x04 :: 0x03 :: RB_cX3_counts_2
def RB_cX3_counts_0 : List UInt8 := 0x2a :: 0xb4 :: 0x00 :: 0x15 :: 0x1b :: 0xa0 :: 0x00 :: 0x1a :: 0x2a :: 0xb4 :: 0x00 :: 0x18 :: 0x1c :: 0x1d :: 0xb8 :: 0x00 :: RB_cX3_counts_1
theorem tB_cX3_counts_0 : cX3_counts.data.toList.drop 0 = RB_cX3_counts_0 := by decide +kernel
theorem tB_cX3_counts_1 : cX3_counts.data.toList.drop 16 = RB_cX3_counts_1 := od_st tB_cX3_counts_0 16 rfl
theorem tB_cX3_counts_2 : cX3_counts.data.toList.drop 32 = RB_cX3_counts_2 := od_st tB_cX3_counts_1 16 rfl
theorem dX3_counts_0 : decode cX3_counts 0 = .ok (.aload_n 0, 1) := od_42 (od_at tB_cX3_counts_0 0 rfl)
theorem dX3_counts_1 : decode cX3_counts 1 = .ok (.getfield 21, 3) := od_180 (od_at tB_cX3_counts_0 1 rfl) (od_at tB_cX3_counts_0 2 rfl) (od_at tB_cX3_counts_0 3 rfl) rfl
theorem dX3_counts_4 : decode cX3_counts 4 = .ok (.iload_n 1, 1) := od_27 (od_at tB_cX3_counts_0 4 rfl)
theorem dX3_counts_5 : decode cX3_counts 5 = .ok (.if_icmp .ne 26, 3) := od_160 (od_at tB_cX3_counts_0 5 rfl) (od_at tB_cX3_counts_0 6 rfl) (od_at tB_cX3_counts_0 7 rfl) (by decide +kernel)
theorem dX3_counts_8 : decode cX3_counts 8 = .ok (.aload_n 0, 1) := od_42 (od_at tB_cX3_counts_0 8 rfl)
theorem dX3_counts_9 : decode cX3_counts 9 = .ok (.getfield 24, 3) := od_180 (od_at tB_cX3_counts_0 9 rfl) (od_at tB_cX3_counts_0 10 rfl) (od_at tB_cX3_counts_0 11 rfl) rfl
theorem dX3_counts_12 : decode cX3_counts 12 = .ok (.iload_n 2, 1) := od_28 (od_at tB_cX3_counts_0 12 rfl)
theorem dX3_counts_13 : decode cX3_counts 13 = .ok (.iload_n 3, 1) := od_29 (od_at tB_cX3_counts_0 13 rfl)
theorem dX3_counts_14 : decode cX3_counts 14 = .ok (.invokestatic 36, 3) := od_184 (od_at tB_cX3_counts_0 14 rfl) (od_at tB_cX3_counts_0 15 rfl) (od_at tB_cX3_counts_0 16 rfl) rfl
theorem dX3_counts_17 : decode cX3_counts 17 = .ok (.ifCond .eq 14, 3) := od_153 (od_at tB_cX3_counts_1 1 rfl) (od_at tB_cX3_counts_1 2 rfl) (od_at tB_cX3_counts_1 3 rfl) (by decide +kernel)
theorem dX3_counts_20 : decode cX3_counts 20 = .ok (.aload_n 0, 1) := od_42 (od_at tB_cX3_counts_1 4 rfl)
theorem dX3_counts_21 : decode cX3_counts 21 = .ok (.invokevirtual 40, 3) := od_182 (od_at tB_cX3_counts_1 5 rfl) (od_at tB_cX3_counts_1 6 rfl) (od_at tB_cX3_counts_1 7 rfl) rfl
theorem dX3_counts_24 : decode cX3_counts 24 = .ok (.ifCond .ne 7, 3) := od_154 (od_at tB_cX3_counts_1 8 rfl) (od_at tB_cX3_counts_1 9 rfl) (od_at tB_cX3_counts_1 10 rfl) (by decide +kernel)
theorem dX3_counts_27 : decode cX3_counts 27 = .ok (.iconst 1, 1) := od_4 (od_at tB_cX3_counts_1 11 rfl)
theorem dX3_counts_28 : decode cX3_counts 28 = .ok (.goto 4, 3) := od_167 (od_at tB_cX3_counts_1 12 rfl) (od_at tB_cX3_counts_1 13 rfl) (od_at tB_cX3_counts_1 14 rfl) (by decide +kernel)
theorem dX3_counts_31 : decode cX3_counts 31 = .ok (.iconst 0, 1) := od_3 (od_at tB_cX3_counts_1 15 rfl)
theorem dX3_counts_32 : decode cX3_counts 32 = .ok (.ireturn, 1) := od_172 (od_at tB_cX3_counts_2 0 rfl)
def RB_cX4_init_5 : List UInt8 := 0x00 :: 0x28 :: 0x59 :: 0xb7 :: 0x00 :: 0x34 :: 0x53 :: 0x84 :: 0x01 :: 0x01 :: 0xa7 :: 0xff :: 0xeb :: 0xb1 :: []
def RB_cX4_init_4 : List UInt8 := 0xb5 :: 0x00 :: 0x31 :: 0x03 :: 0x3c :: 0x1b :: 0x07 :: 0xa2 :: 0x00 :: 0x16 :: 0x2a :: 0xb4 :: 0x00 :: 0x2a :: 0x1b :: 0xbb :: RB_cX4_init_5
def RB_cX4_init_3 : List UInt8 := 0x25 :: 0x2a :: 0x07 :: 0xbd :: 0x00 :: 0x28 :: 0xb5 :: 0x00 :: 0x2a :: 0x2a :: 0x03 :: 0xb5 :: 0x00 :: 0x2e :: 0x2a :: 0x03 :: RB_cX4_init_4
def RB_cX4_init_2 : List UInt8 := 0xbd :: 0x00 :: 0x1c :: 0xb5 :: 0x00 :: 0x1e :: 0x2a :: 0x03 :: 0xb5 :: 0x00 :: 0x22 :: 0x2a :: 0x10 :: 0xf7 :: 0xb5 :: 0x00 :: RB_cX4_init_3
def RB_cX4_init_1 : List UInt8 := 0x00 :: 0x11 :: 0x2a :: 0xbb :: 0x00 :: 0x15 :: 0x59 :: 0xb7 :: 0x00 :: 0x17 :: 0xb5 :: 0x00 :: 0x18 :: 0x2a :: 0x10 :: 0x28 :: RB_cX4_init_2
def RB_cX4_init_0 : List UInt8 := 0x2a :: 0xb7 :: 0x00 :: 0x03 :: 0x2a :: 0x10 :: 0x06 :: 0xbd :: 0x00 :: 0x0b :: 0xb5 :: 0x00 :: 0x0d :: 0x2a :: 0x03 :: 0xb5 :: RB_cX4_init_1
theorem tB_cX4_init_0 : cX4_init.data.toList.drop 0 = RB_cX4_init_0 := by decide +kernel
theorem tB_cX4_init_1 : cX4_init.data.toList.drop 16 = RB_cX4_init_1 := od_st tB_cX4_init_0 16 rfl
theorem tB_cX4_init_2 : cX4_init.data.toList.drop 32 = RB_cX4_init_2 := od_st tB_cX4_init_1 16 rfl
theorem tB_cX4_init_3 : cX4_init.data.toList.drop 48 = RB_cX4_init_3 := od_st tB_cX4_init_2 16 rfl
theorem tB_cX4_init_4 : cX4_init.data.toList.drop 64 = RB_cX4_init_4 := od_st tB_cX4_init_3 16 rfl
theorem tB_cX4_init_5 : cX4_init.data.toList.drop 80 = RB_cX4_init_5 := od_st tB_cX4_init_4 16 rfl
theorem dX4_init_0 : decode cX4_init 0 = .ok (.aload_n 0, 1) := od_42 (od_at tB_cX4_init_0 0 rfl)
theorem dX4_init_1 : decode cX4_init 1 = .ok (.invokespecial 3, 3) := od_183 (od_at tB_cX4_init_0 1 rfl) (od_at tB_cX4_init_0 2 rfl) (od_at tB_cX4_init_0 3 rfl) rfl
theorem dX4_init_4 : decode cX4_init 4 = .ok (.aload_n 0, 1) := od_42 (od_at tB_cX4_init_0 4 rfl)
theorem dX4_init_5 : decode cX4_init 5 = .ok (.bipush 6, 2) := od_16 (od_at tB_cX4_init_0 5 rfl) (od_at tB_cX4_init_0 6 rfl) (by decide +kernel)
theorem dX4_init_7 : decode cX4_init 7 = .ok (.anewarray 11, 3) := od_189 (od_at tB_cX4_init_0 7 rfl) (od_at tB_cX4_init_0 8 rfl) (od_at tB_cX4_init_0 9 rfl) rfl
theorem dX4_init_10 : decode cX4_init 10 = .ok (.putfield 13, 3) := od_181 (od_at tB_cX4_init_0 10 rfl) (od_at tB_cX4_init_0 11 rfl) (od_at tB_cX4_init_0 12 rfl) rfl
theorem dX4_init_13 : decode cX4_init 13 = .ok (.aload_n 0, 1) := od_42 (od_at tB_cX4_init_0 13 rfl)
theorem dX4_init_14 : decode cX4_init 14 = .ok (.iconst 0, 1) := od_3 (od_at tB_cX4_init_0 14 rfl)
theorem dX4_init_15 : decode cX4_init 15 = .ok (.putfield 17, 3) := od_181 (od_at tB_cX4_init_0 15 rfl) (od_at tB_cX4_init_0 16 rfl) (od_at tB_cX4_init_0 17 rfl) rfl
theorem dX4_init_18 : decode cX4_init 18 = .ok (.aload_n 0, 1) := od_42 (od_at tB_cX4_init_1 2 rfl)
theorem dX4_init_19 : decode cX4_init 19 = .ok (.new 21, 3) := od_187 (od_at tB_cX4_init_1 3 rfl) (od_at tB_cX4_init_1 4 rfl) (od_at tB_cX4_init_1 5 rfl) rfl
theorem dX4_init_22 : decode cX4_init 22 = .ok (.dup, 1) := od_89 (od_at tB_cX4_init_1 6 rfl)
theorem dX4_init_23 : decode cX4_init 23 = .ok (.invokespecial 23, 3) := od_183 (od_at tB_cX4_init_1 7 rfl) (od_at tB_cX4_init_1 8 rfl) (od_at tB_cX4_init_1 9 rfl) rfl
theorem dX4_init_26 : decode cX4_init 26 = .ok (.putfield 24, 3) := od_181 (od_at tB_cX4_init_1 10 rfl) (od_at tB_cX4_init_1 11 rfl) (od_at tB_cX4_init_1 12 rfl) rfl
theorem dX4_init_29 : decode cX4_init 29 = .ok (.aload_n 0, 1) := od_42 (od_at tB_cX4_init_1 13 rfl)
theorem dX4_init_30 : decode cX4_init 30 = .ok (.bipush 40, 2) := od_16 (od_at tB_cX4_init_1 14 rfl) (od_at tB_cX4_init_1 15 rfl) (by decide +kernel)
theorem dX4_init_32 : decode cX4_init 32 = .ok (.anewarray 28, 3) := od_189 (od_at tB_cX4_init_2 0 rfl) (od_at tB_cX4_init_2 1 rfl) (od_at tB_cX4_init_2 2 rfl) rfl
theorem dX4_init_35 : decode cX4_init 35 = .ok (.putfield 30, 3) := od_181 (od_at tB_cX4_init_2 3 rfl) (od_at tB_cX4_init_2 4 rfl) (od_at tB_cX4_init_2 5 rfl) rfl
theorem dX4_init_38 : decode cX4_init 38 = .ok (.aload_n 0, 1) := od_42 (od_at tB_cX4_init_2 6 rfl)
theorem dX4_init_39 : decode cX4_init 39 = .ok (.iconst 0, 1) := od_3 (od_at tB_cX4_init_2 7 rfl)
theorem dX4_init_40 : decode cX4_init 40 = .ok (.putfield 34, 3) := od_181 (od_at tB_cX4_init_2 8 rfl) (od_at tB_cX4_init_2 9 rfl) (od_at tB_cX4_init_2 10 rfl) rfl
theorem dX4_init_43 : decode cX4_init 43 = .ok (.aload_n 0, 1) := od_42 (od_at tB_cX4_init_2 11 rfl)
theorem dX4_init_44 : decode cX4_init 44 = .ok (.bipush (-9), 2) := od_16 (od_at tB_cX4_init_2 12 rfl) (od_at tB_cX4_init_2 13 rfl) (by decide +kernel)
theorem dX4_init_46 : decode cX4_init 46 = .ok (.putfield 37, 3) := od_181 (od_at tB_cX4_init_2 14 rfl) (od_at tB_cX4_init_2 15 rfl) (od_at tB_cX4_init_2 16 rfl) rfl
theorem dX4_init_49 : decode cX4_init 49 = .ok (.aload_n 0, 1) := od_42 (od_at tB_cX4_init_3 1 rfl)
theorem dX4_init_50 : decode cX4_init 50 = .ok (.iconst 4, 1) := od_7 (od_at tB_cX4_init_3 2 rfl)
theorem dX4_init_51 : decode cX4_init 51 = .ok (.anewarray 40, 3) := od_189 (od_at tB_cX4_init_3 3 rfl) (od_at tB_cX4_init_3 4 rfl) (od_at tB_cX4_init_3 5 rfl) rfl
theorem dX4_init_54 : decode cX4_init 54 = .ok (.putfield 42, 3) := od_181 (od_at tB_cX4_init_3 6 rfl) (od_at tB_cX4_init_3 7 rfl) (od_at tB_cX4_init_3 8 rfl) rfl
theorem dX4_init_57 : decode cX4_init 57 = .ok (.aload_n 0, 1) := od_42 (od_at tB_cX4_init_3 9 rfl)
theorem dX4_init_58 : decode cX4_init 58 = .ok (.iconst 0, 1) := od_3 (od_at tB_cX4_init_3 10 rfl)
theorem dX4_init_59 : decode cX4_init 59 = .ok (.putfield 46, 3) := od_181 (od_at tB_cX4_init_3 11 rfl) (od_at tB_cX4_init_3 12 rfl) (od_at tB_cX4_init_3 13 rfl) rfl
theorem dX4_init_62 : decode cX4_init 62 = .ok (.aload_n 0, 1) := od_42 (od_at tB_cX4_init_3 14 rfl)
theorem dX4_init_63 : decode cX4_init 63 = .ok (.iconst 0, 1) := od_3 (od_at tB_cX4_init_3 15 rfl)
theorem dX4_init_64 : decode cX4_init 64 = .ok (.putfield 49, 3) := od_181 (od_at tB_cX4_init_4 0 rfl) (od_at tB_cX4_init_4 1 rfl) (od_at tB_cX4_init_4 2 rfl) rfl
theorem dX4_init_67 : decode cX4_init 67 = .ok (.iconst 0, 1) := od_3 (od_at tB_cX4_init_4 3 rfl)
theorem dX4_init_68 : decode cX4_init 68 = .ok (.istore_n 1, 1) := od_60 (od_at tB_cX4_init_4 4 rfl)
theorem dX4_init_69 : decode cX4_init 69 = .ok (.iload_n 1, 1) := od_27 (od_at tB_cX4_init_4 5 rfl)
theorem dX4_init_70 : decode cX4_init 70 = .ok (.iconst 4, 1) := od_7 (od_at tB_cX4_init_4 6 rfl)
theorem dX4_init_71 : decode cX4_init 71 = .ok (.if_icmp .ge 22, 3) := od_162 (od_at tB_cX4_init_4 7 rfl) (od_at tB_cX4_init_4 8 rfl) (od_at tB_cX4_init_4 9 rfl) (by decide +kernel)
theorem dX4_init_74 : decode cX4_init 74 = .ok (.aload_n 0, 1) := od_42 (od_at tB_cX4_init_4 10 rfl)
theorem dX4_init_75 : decode cX4_init 75 = .ok (.getfield 42, 3) := od_180 (od_at tB_cX4_init_4 11 rfl) (od_at tB_cX4_init_4 12 rfl) (od_at tB_cX4_init_4 13 rfl) rfl
theorem dX4_init_78 : decode cX4_init 78 = .ok (.iload_n 1, 1) := od_27 (od_at tB_cX4_init_4 14 rfl)
theorem dX4_init_79 : decode cX4_init 79 = .ok (.new 40, 3) := od_187 (od_at tB_cX4_init_4 15 rfl) (od_at tB_cX4_init_4 16 rfl) (od_at tB_cX4_init_4 17 rfl) rfl
theorem dX4_init_82 : decode cX4_init 82 = .ok (.dup, 1) := od_89 (od_at tB_cX4_init_5 2 rfl)
theorem dX4_init_83 : decode cX4_init 83 = .ok (.invokespecial 52, 3) := od_183 (od_at tB_cX4_init_5 3 rfl) (od_at tB_cX4_init_5 4 rfl) (od_at tB_cX4_init_5 5 rfl) rfl
theorem dX4_init_86 : decode cX4_init 86 = .ok (.aastore, 1) := od_83 (od_at tB_cX4_init_5 6 rfl)
theorem dX4_init_87 : decode cX4_init 87 = .ok (.iinc 1 1, 3) := od_132 (od_at tB_cX4_init_5 7 rfl) (od_at tB_cX4_init_5 8 rfl) (od_at tB_cX4_init_5 9 rfl) rfl (by decide +kernel)
theorem dX4_init_90 : decode cX4_init 90 = .ok (.goto (-21), 3) := od_167 (od_at tB_cX4_init_5 10 rfl) (od_at tB_cX4_init_5 11 rfl) (od_at tB_cX4_init_5 12 rfl) (by decide +kernel)
theorem dX4_init_93 : decode cX4_init 93 = .ok (.return_, 1) := od_177 (od_at tB_cX4_init_5 13 rfl)
def RB_cX4_meter_3 : List UInt8 := 0x60 :: 0xb5 :: 0x00 :: 0x11 :: 0x2a :: 0xb4 :: 0x00 :: 0x11 :: 0x04 :: 0x64 :: 0xac :: []
def RB_cX4_meter_2 : List UInt8 := 0x11 :: 0xbb :: 0x00 :: 0x0b :: 0x59 :: 0x1b :: 0xb7 :: 0x00 :: 0x3a :: 0x53 :: 0x2a :: 0x59 :: 0xb4 :: 0x00 :: 0x11 :: 0x04 :: RB_cX4_meter_3
def RB_cX4_meter_1 : List UInt8 := 0x11 :: 0x10 :: 0x06 :: 0xa1 :: 0x00 :: 0x06 :: 0x10 :: 0xfc :: 0xac :: 0x2a :: 0xb4 :: 0x00 :: 0x0d :: 0x2a :: 0xb4 :: 0x00 :: RB_cX4_meter_2
def RB_cX4_meter_0 : List UInt8 := 0x1b :: 0x04 :: 0x12 :: 0x35 :: 0xb8 :: 0x00 :: 0x36 :: 0x9a :: 0x00 :: 0x06 :: 0x10 :: 0xfe :: 0xac :: 0x2a :: 0xb4 :: 0x00 :: RB_cX4_meter_1
theorem tB_cX4_meter_0 : cX4_meter.data.toList.drop 0 = RB_cX4_meter_0 := by decide +kernel
theorem tB_cX4_meter_1 : cX4_meter.data.toList.drop 16 = RB_cX4_meter_1 := od_st tB_cX4_meter_0 16 rfl
theorem tB_cX4_meter_2 : cX4_meter.data.toList.drop 32 = RB_cX4_meter_2 := od_st tB_cX4_meter_1 16 rfl
theorem tB_cX4_meter_3 : cX4_meter.data.toList.drop 48 = RB_cX4_meter_3 := od_st tB_cX4_meter_2 16 rfl
theorem dX4_meter_0 : decode cX4_meter 0 = .ok (.iload_n 1, 1) := od_27 (od_at tB_cX4_meter_0 0 rfl)
theorem dX4_meter_1 : decode cX4_meter 1 = .ok (.iconst 1, 1) := od_4 (od_at tB_cX4_meter_0 1 rfl)
theorem dX4_meter_2 : decode cX4_meter 2 = .ok (.ldc 53, 2) := od_18 (od_at tB_cX4_meter_0 2 rfl) (od_at tB_cX4_meter_0 3 rfl) rfl
theorem dX4_meter_4 : decode cX4_meter 4 = .ok (.invokestatic 54, 3) := od_184 (od_at tB_cX4_meter_0 4 rfl) (od_at tB_cX4_meter_0 5 rfl) (od_at tB_cX4_meter_0 6 rfl) rfl
theorem dX4_meter_7 : decode cX4_meter 7 = .ok (.ifCond .ne 6, 3) := od_154 (od_at tB_cX4_meter_0 7 rfl) (od_at tB_cX4_meter_0 8 rfl) (od_at tB_cX4_meter_0 9 rfl) (by decide +kernel)
theorem dX4_meter_10 : decode cX4_meter 10 = .ok (.bipush (-2), 2) := od_16 (od_at tB_cX4_meter_0 10 rfl) (od_at tB_cX4_meter_0 11 rfl) (by decide +kernel)
theorem dX4_meter_12 : decode cX4_meter 12 = .ok (.ireturn, 1) := od_172 (od_at tB_cX4_meter_0 12 rfl)
theorem dX4_meter_13 : decode cX4_meter 13 = .ok (.aload_n 0, 1) := od_42 (od_at tB_cX4_meter_0 13 rfl)
theorem dX4_meter_14 : decode cX4_meter 14 = .ok (.getfield 17, 3) := od_180 (od_at tB_cX4_meter_0 14 rfl) (od_at tB_cX4_meter_0 15 rfl) (od_at tB_cX4_meter_0 16 rfl) rfl
theorem dX4_meter_17 : decode cX4_meter 17 = .ok (.bipush 6, 2) := od_16 (od_at tB_cX4_meter_1 1 rfl) (od_at tB_cX4_meter_1 2 rfl) (by decide +kernel)
theorem dX4_meter_19 : decode cX4_meter 19 = .ok (.if_icmp .lt 6, 3) := od_161 (od_at tB_cX4_meter_1 3 rfl) (od_at tB_cX4_meter_1 4 rfl) (od_at tB_cX4_meter_1 5 rfl) (by decide +kernel)
theorem dX4_meter_22 : decode cX4_meter 22 = .ok (.bipush (-4), 2) := od_16 (od_at tB_cX4_meter_1 6 rfl) (od_at tB_cX4_meter_1 7 rfl) (by decide +kernel)
theorem dX4_meter_24 : decode cX4_meter 24 = .ok (.ireturn, 1) := od_172 (od_at tB_cX4_meter_1 8 rfl)
theorem dX4_meter_25 : decode cX4_meter 25 = .ok (.aload_n 0, 1) := od_42 (od_at tB_cX4_meter_1 9 rfl)
theorem dX4_meter_26 : decode cX4_meter 26 = .ok (.getfield 13, 3) := od_180 (od_at tB_cX4_meter_1 10 rfl) (od_at tB_cX4_meter_1 11 rfl) (od_at tB_cX4_meter_1 12 rfl) rfl
theorem dX4_meter_29 : decode cX4_meter 29 = .ok (.aload_n 0, 1) := od_42 (od_at tB_cX4_meter_1 13 rfl)
theorem dX4_meter_30 : decode cX4_meter 30 = .ok (.getfield 17, 3) := od_180 (od_at tB_cX4_meter_1 14 rfl) (od_at tB_cX4_meter_1 15 rfl) (od_at tB_cX4_meter_1 16 rfl) rfl
theorem dX4_meter_33 : decode cX4_meter 33 = .ok (.new 11, 3) := od_187 (od_at tB_cX4_meter_2 1 rfl) (od_at tB_cX4_meter_2 2 rfl) (od_at tB_cX4_meter_2 3 rfl) rfl
theorem dX4_meter_36 : decode cX4_meter 36 = .ok (.dup, 1) := od_89 (od_at tB_cX4_meter_2 4 rfl)
theorem dX4_meter_37 : decode cX4_meter 37 = .ok (.iload_n 1, 1) := od_27 (od_at tB_cX4_meter_2 5 rfl)
theorem dX4_meter_38 : decode cX4_meter 38 = .ok (.invokespecial 58, 3) := od_183 (od_at tB_cX4_meter_2 6 rfl) (od_at tB_cX4_meter_2 7 rfl) (od_at tB_cX4_meter_2 8 rfl) rfl
theorem dX4_meter_41 : decode cX4_meter 41 = .ok (.aastore, 1) := od_83 (od_at tB_cX4_meter_2 9 rfl)
theorem dX4_meter_42 : decode cX4_meter 42 = .ok (.aload_n 0, 1) := od_42 (od_at tB_cX4_meter_2 10 rfl)
theorem dX4_meter_43 : decode cX4_meter 43 = .ok (.dup, 1) := od_89 (od_at tB_cX4_meter_2 11 rfl)
theorem dX4_meter_44 : decode cX4_meter 44 = .ok (.getfield 17, 3) := od_180 (od_at tB_cX4_meter_2 12 rfl) (od_at tB_cX4_meter_2 13 rfl) (od_at tB_cX4_meter_2 14 rfl) rfl
theorem dX4_meter_47 : decode cX4_meter 47 = .ok (.iconst 1, 1) := od_4 (od_at tB_cX4_meter_2 15 rfl)
theorem dX4_meter_48 : decode cX4_meter 48 = .ok (.iadd, 1) := od_96 (od_at tB_cX4_meter_3 0 rfl)
theorem dX4_meter_49 : decode cX4_meter 49 = .ok (.putfield 17, 3) := od_181 (od_at tB_cX4_meter_3 1 rfl) (od_at tB_cX4_meter_3 2 rfl) (od_at tB_cX4_meter_3 3 rfl) rfl
theorem dX4_meter_52 : decode cX4_meter 52 = .ok (.aload_n 0, 1) := od_42 (od_at tB_cX4_meter_3 4 rfl)
theorem dX4_meter_53 : decode cX4_meter 53 = .ok (.getfield 17, 3) := od_180 (od_at tB_cX4_meter_3 5 rfl) (od_at tB_cX4_meter_3 6 rfl) (od_at tB_cX4_meter_3 7 rfl) rfl
theorem dX4_meter_56 : decode cX4_meter 56 = .ok (.iconst 1, 1) := od_4 (od_at tB_cX4_meter_3 8 rfl)
theorem dX4_meter_57 : decode cX4_meter 57 = .ok (.isub, 1) := od_100 (od_at tB_cX4_meter_3 9 rfl)
theorem dX4_meter_58 : decode cX4_meter 58 = .ok (.ireturn, 1) := od_172 (od_at tB_cX4_meter_3 10 rfl)
def RB_cX4_factor_4 : List UInt8 := 0xb6 :: 0x00 :: 0x4d :: 0x19 :: 0x05 :: 0xb4 :: 0x00 :: 0x51 :: 0xac :: []
def RB_cX4_factor_3 : List UInt8 := 0x05 :: 0xb6 :: 0x00 :: 0x49 :: 0x99 :: 0x00 :: 0x06 :: 0x10 :: 0xfc :: 0xac :: 0x19 :: 0x05 :: 0x1c :: 0x1d :: 0x15 :: 0x04 :: RB_cX4_factor_4
def RB_cX4_factor_2 : List UInt8 := 0x36 :: 0x9a :: 0x00 :: 0x06 :: 0x10 :: 0xfe :: 0xac :: 0x2a :: 0xb4 :: 0x00 :: 0x0d :: 0x1b :: 0x32 :: 0x3a :: 0x05 :: 0x19 :: RB_cX4_factor_3
def RB_cX4_factor_1 : List UInt8 := 0x16 :: 0x1d :: 0xb8 :: 0x00 :: 0x44 :: 0x99 :: 0x00 :: 0x0f :: 0x15 :: 0x04 :: 0x12 :: 0x47 :: 0x12 :: 0x48 :: 0xb8 :: 0x00 :: RB_cX4_factor_2
def RB_cX4_factor_0 : List UInt8 := 0x2a :: 0x1b :: 0xb6 :: 0x00 :: 0x3d :: 0x9a :: 0x00 :: 0x05 :: 0x02 :: 0xac :: 0x1c :: 0xb8 :: 0x00 :: 0x41 :: 0x99 :: 0x00 :: RB_cX4_factor_1
theorem tB_cX4_factor_0 : cX4_factor.data.toList.drop 0 = RB_cX4_factor_0 := by decide +kernel
theorem tB_cX4_factor_1 : cX4_factor.data.toList.drop 16 = RB_cX4_factor_1 := od_st tB_cX4_factor_0 16 rfl
theorem tB_cX4_factor_2 : cX4_factor.data.toList.drop 32 = RB_cX4_factor_2 := od_st tB_cX4_factor_1 16 rfl
theorem tB_cX4_factor_3 : cX4_factor.data.toList.drop 48 = RB_cX4_factor_3 := od_st tB_cX4_factor_2 16 rfl
theorem tB_cX4_factor_4 : cX4_factor.data.toList.drop 64 = RB_cX4_factor_4 := od_st tB_cX4_factor_3 16 rfl
theorem dX4_factor_0 : decode cX4_factor 0 = .ok (.aload_n 0, 1) := od_42 (od_at tB_cX4_factor_0 0 rfl)
theorem dX4_factor_1 : decode cX4_factor 1 = .ok (.iload_n 1, 1) := od_27 (od_at tB_cX4_factor_0 1 rfl)
theorem dX4_factor_2 : decode cX4_factor 2 = .ok (.invokevirtual 61, 3) := od_182 (od_at tB_cX4_factor_0 2 rfl) (od_at tB_cX4_factor_0 3 rfl) (od_at tB_cX4_factor_0 4 rfl) rfl
theorem dX4_factor_5 : decode cX4_factor 5 = .ok (.ifCond .ne 5, 3) := od_154 (od_at tB_cX4_factor_0 5 rfl) (od_at tB_cX4_factor_0 6 rfl) (od_at tB_cX4_factor_0 7 rfl) (by decide +kernel)
theorem dX4_factor_8 : decode cX4_factor 8 = .ok (.iconst (-1), 1) := od_2 (od_at tB_cX4_factor_0 8 rfl)
theorem dX4_factor_9 : decode cX4_factor 9 = .ok (.ireturn, 1) := od_172 (od_at tB_cX4_factor_0 9 rfl)
theorem dX4_factor_10 : decode cX4_factor 10 = .ok (.iload_n 2, 1) := od_28 (od_at tB_cX4_factor_0 10 rfl)
theorem dX4_factor_11 : decode cX4_factor 11 = .ok (.invokestatic 65, 3) := od_184 (od_at tB_cX4_factor_0 11 rfl) (od_at tB_cX4_factor_0 12 rfl) (od_at tB_cX4_factor_0 13 rfl) rfl
theorem dX4_factor_14 : decode cX4_factor 14 = .ok (.ifCond .eq 22, 3) := od_153 (od_at tB_cX4_factor_0 14 rfl) (od_at tB_cX4_factor_0 15 rfl) (od_at tB_cX4_factor_0 16 rfl) (by decide +kernel)
theorem dX4_factor_17 : decode cX4_factor 17 = .ok (.iload_n 3, 1) := od_29 (od_at tB_cX4_factor_1 1 rfl)
theorem dX4_factor_18 : decode cX4_factor 18 = .ok (.invokestatic 68, 3) := od_184 (od_at tB_cX4_factor_1 2 rfl) (od_at tB_cX4_factor_1 3 rfl) (od_at tB_cX4_factor_1 4 rfl) rfl
theorem dX4_factor_21 : decode cX4_factor 21 = .ok (.ifCond .eq 15, 3) := od_153 (od_at tB_cX4_factor_1 5 rfl) (od_at tB_cX4_factor_1 6 rfl) (od_at tB_cX4_factor_1 7 rfl) (by decide +kernel)
theorem dX4_factor_24 : decode cX4_factor 24 = .ok (.iload 4, 2) := od_21 (od_at tB_cX4_factor_1 8 rfl) (od_at tB_cX4_factor_1 9 rfl) rfl
theorem dX4_factor_26 : decode cX4_factor 26 = .ok (.ldc 71, 2) := od_18 (od_at tB_cX4_factor_1 10 rfl) (od_at tB_cX4_factor_1 11 rfl) rfl
theorem dX4_factor_28 : decode cX4_factor 28 = .ok (.ldc 72, 2) := od_18 (od_at tB_cX4_factor_1 12 rfl) (od_at tB_cX4_factor_1 13 rfl) rfl
theorem dX4_factor_30 : decode cX4_factor 30 = .ok (.invokestatic 54, 3) := od_184 (od_at tB_cX4_factor_1 14 rfl) (od_at tB_cX4_factor_1 15 rfl) (od_at tB_cX4_factor_1 16 rfl) rfl
theorem dX4_factor_33 : decode cX4_factor 33 = .ok (.ifCond .ne 6, 3) := od_154 (od_at tB_cX4_factor_2 1 rfl) (od_at tB_cX4_factor_2 2 rfl) (od_at tB_cX4_factor_2 3 rfl) (by decide +kernel)
theorem dX4_factor_36 : decode cX4_factor 36 = .ok (.bipush (-2), 2) := od_16 (od_at tB_cX4_factor_2 4 rfl) (od_at tB_cX4_factor_2 5 rfl) (by decide +kernel)
theorem dX4_factor_38 : decode cX4_factor 38 = .ok (.ireturn, 1) := od_172 (od_at tB_cX4_factor_2 6 rfl)
theorem dX4_factor_39 : decode cX4_factor 39 = .ok (.aload_n 0, 1) := od_42 (od_at tB_cX4_factor_2 7 rfl)
theorem dX4_factor_40 : decode cX4_factor 40 = .ok (.getfield 13, 3) := od_180 (od_at tB_cX4_factor_2 8 rfl) (od_at tB_cX4_factor_2 9 rfl) (od_at tB_cX4_factor_2 10 rfl) rfl
theorem dX4_factor_43 : decode cX4_factor 43 = .ok (.iload_n 1, 1) := od_27 (od_at tB_cX4_factor_2 11 rfl)
theorem dX4_factor_44 : decode cX4_factor 44 = .ok (.aaload, 1) := od_50 (od_at tB_cX4_factor_2 12 rfl)
theorem dX4_factor_45 : decode cX4_factor 45 = .ok (.astore 5, 2) := od_58 (od_at tB_cX4_factor_2 13 rfl) (od_at tB_cX4_factor_2 14 rfl) rfl
theorem dX4_factor_47 : decode cX4_factor 47 = .ok (.aload 5, 2) := od_25 (od_at tB_cX4_factor_2 15 rfl) (od_at tB_cX4_factor_2 16 rfl) rfl
theorem dX4_factor_49 : decode cX4_factor 49 = .ok (.invokevirtual 73, 3) := od_182 (od_at tB_cX4_factor_3 1 rfl) (od_at tB_cX4_factor_3 2 rfl) (od_at tB_cX4_factor_3 3 rfl) rfl
theorem dX4_factor_52 : decode cX4_factor 52 = .ok (.ifCond .eq 6, 3) := od_153 (od_at tB_cX4_factor_3 4 rfl) (od_at tB_cX4_factor_3 5 rfl) (od_at tB_cX4_factor_3 6 rfl) (by decide +kernel)
theorem dX4_factor_55 : decode cX4_factor 55 = .ok (.bipush (-4), 2) := od_16 (od_at tB_cX4_factor_3 7 rfl) (od_at tB_cX4_factor_3 8 rfl) (by decide +kernel)
theorem dX4_factor_57 : decode cX4_factor 57 = .ok (.ireturn, 1) := od_172 (od_at tB_cX4_factor_3 9 rfl)
theorem dX4_factor_58 : decode cX4_factor 58 = .ok (.aload 5, 2) := od_25 (od_at tB_cX4_factor_3 10 rfl) (od_at tB_cX4_factor_3 11 rfl) rfl
theorem dX4_factor_60 : decode cX4_factor 60 = .ok (.iload_n 2, 1) := od_28 (od_at tB_cX4_factor_3 12 rfl)
theorem dX4_factor_61 : decode cX4_factor 61 = .ok (.iload_n 3, 1) := od_29 (od_at tB_cX4_factor_3 13 rfl)
theorem dX4_factor_62 : decode cX4_factor 62 = .ok (.iload 4, 2) := od_21 (od_at tB_cX4_factor_3 14 rfl) (od_at tB_cX4_factor_3 15 rfl) rfl
theorem dX4_factor_64 : decode cX4_factor 64 = .ok (.invokevirtual 77, 3) := od_182 (od_at tB_cX4_factor_4 0 rfl) (od_at tB_cX4_factor_4 1 rfl) (od_at tB_cX4_factor_4 2 rfl) rfl
theorem dX4_factor_67 : decode cX4_factor 67 = .ok (.aload 5, 2) := od_25 (od_at tB_cX4_factor_4 3 rfl) (od_at tB_cX4_factor_4 4 rfl) rfl
theorem dX4_factor_69 : decode cX4_factor 69 = .ok (.getfield 81, 3) := od_180 (od_at tB_cX4_factor_4 5 rfl) (od_at tB_cX4_factor_4 6 rfl) (od_at tB_cX4_factor_4 7 rfl) rfl
theorem dX4_factor_72 : decode cX4_factor 72 = .ok (.ireturn, 1) := od_172 (od_at tB_cX4_factor_4 8 rfl)
def RB_cX4_at_2 : List UInt8 := 0x32 :: 0x1c :: 0x1d :: 0xb6 :: 0x00 :: 0x54 :: 0xac :: []
def RB_cX4_at_1 : List UInt8 := 0x0a :: 0x1d :: 0xb8 :: 0x00 :: 0x44 :: 0x9a :: 0x00 :: 0x06 :: 0x10 :: 0xfe :: 0xac :: 0x2a :: 0xb4 :: 0x00 :: 0x0d :: 0x1b :: RB_cX4_at_2
def RB_cX4_at_0 : List UInt8 := 0x2a :: 0x1b :: 0xb6 :: 0x00 :: 0x3d :: 0x9a :: 0x00 :: 0x05 :: 0x02 :: 0xac :: 0x1c :: 0xb8 :: 0x00 :: 0x41 :: 0x99 :: 0x00 :: RB_cX4_at_1
theorem tB_cX4_at_0 : cX4_at.data.toList.drop 0 = RB_cX4_at_0 := by decide +kernel
theorem tB_cX4_at_1 : cX4_at.data.toList.drop 16 = RB_cX4_at_1 := od_st tB_cX4_at_0 16 rfl
theorem tB_cX4_at_2 : cX4_at.data.toList.drop 32 = RB_cX4_at_2 := od_st tB_cX4_at_1 16 rfl
theorem dX4_at_0 : decode cX4_at 0 = .ok (.aload_n 0, 1) := od_42 (od_at tB_cX4_at_0 0 rfl)
theorem dX4_at_1 : decode cX4_at 1 = .ok (.iload_n 1, 1) := od_27 (od_at tB_cX4_at_0 1 rfl)
theorem dX4_at_2 : decode cX4_at 2 = .ok (.invokevirtual 61, 3) := od_182 (od_at tB_cX4_at_0 2 rfl) (od_at tB_cX4_at_0 3 rfl) (od_at tB_cX4_at_0 4 rfl) rfl
theorem dX4_at_5 : decode cX4_at 5 = .ok (.ifCond .ne 5, 3) := od_154 (od_at tB_cX4_at_0 5 rfl) (od_at tB_cX4_at_0 6 rfl) (od_at tB_cX4_at_0 7 rfl) (by decide +kernel)
theorem dX4_at_8 : decode cX4_at 8 = .ok (.iconst (-1), 1) := od_2 (od_at tB_cX4_at_0 8 rfl)
theorem dX4_at_9 : decode cX4_at 9 = .ok (.ireturn, 1) := od_172 (od_at tB_cX4_at_0 9 rfl)
theorem dX4_at_10 : decode cX4_at 10 = .ok (.iload_n 2, 1) := od_28 (od_at tB_cX4_at_0 10 rfl)
theorem dX4_at_11 : decode cX4_at 11 = .ok (.invokestatic 65, 3) := od_184 (od_at tB_cX4_at_0 11 rfl) (od_at tB_cX4_at_0 12 rfl) (od_at tB_cX4_at_0 13 rfl) rfl
theorem dX4_at_14 : decode cX4_at 14 = .ok (.ifCond .eq 10, 3) := od_153 (od_at tB_cX4_at_0 14 rfl) (od_at tB_cX4_at_0 15 rfl) (od_at tB_cX4_at_0 16 rfl) (by decide +kernel)
theorem dX4_at_17 : decode cX4_at 17 = .ok (.iload_n 3, 1) := od_29 (od_at tB_cX4_at_1 1 rfl)
theorem dX4_at_18 : decode cX4_at 18 = .ok (.invokestatic 68, 3) := od_184 (od_at tB_cX4_at_1 2 rfl) (od_at tB_cX4_at_1 3 rfl) (od_at tB_cX4_at_1 4 rfl) rfl
theorem dX4_at_21 : decode cX4_at 21 = .ok (.ifCond .ne 6, 3) := od_154 (od_at tB_cX4_at_1 5 rfl) (od_at tB_cX4_at_1 6 rfl) (od_at tB_cX4_at_1 7 rfl) (by decide +kernel)
theorem dX4_at_24 : decode cX4_at 24 = .ok (.bipush (-2), 2) := od_16 (od_at tB_cX4_at_1 8 rfl) (od_at tB_cX4_at_1 9 rfl) (by decide +kernel)
theorem dX4_at_26 : decode cX4_at 26 = .ok (.ireturn, 1) := od_172 (od_at tB_cX4_at_1 10 rfl)
theorem dX4_at_27 : decode cX4_at 27 = .ok (.aload_n 0, 1) := od_42 (od_at tB_cX4_at_1 11 rfl)
theorem dX4_at_28 : decode cX4_at 28 = .ok (.getfield 13, 3) := od_180 (od_at tB_cX4_at_1 12 rfl) (od_at tB_cX4_at_1 13 rfl) (od_at tB_cX4_at_1 14 rfl) rfl
theorem dX4_at_31 : decode cX4_at 31 = .ok (.iload_n 1, 1) := od_27 (od_at tB_cX4_at_1 15 rfl)
theorem dX4_at_32 : decode cX4_at 32 = .ok (.aaload, 1) := od_50 (od_at tB_cX4_at_2 0 rfl)
theorem dX4_at_33 : decode cX4_at 33 = .ok (.iload_n 2, 1) := od_28 (od_at tB_cX4_at_2 1 rfl)
theorem dX4_at_34 : decode cX4_at 34 = .ok (.iload_n 3, 1) := od_29 (od_at tB_cX4_at_2 2 rfl)
theorem dX4_at_35 : decode cX4_at 35 = .ok (.invokevirtual 84, 3) := od_182 (od_at tB_cX4_at_2 3 rfl) (od_at tB_cX4_at_2 4 rfl) (od_at tB_cX4_at_2 5 rfl) rfl
theorem dX4_at_38 : decode cX4_at 38 = .ok (.ireturn, 1) := od_172 (od_at tB_cX4_at_2 6 rfl)
def RB_cX4_points_1 : List UInt8 := 0x06 :: 0x10 :: 0xfe :: 0xac :: 0x2a :: 0xb4 :: 0x00 :: 0x0d :: 0x1b :: 0x32 :: 0x1c :: 0xb6 :: 0x00 :: 0x58 :: 0xac :: []
def RB_cX4_points_0 : List UInt8 := 0x2a :: 0x1b :: 0xb6 :: 0x00 :: 0x3d :: 0x9a :: 0x00 :: 0x05 :: 0x02 :: 0xac :: 0x1c :: 0xb8 :: 0x00 :: 0x44 :: 0x9a :: 0x00 :: RB_cX4_points_1
theorem tB_cX4_points_0 : cX4_points.data.toList.drop 0 = RB_cX4_points_0 := by decide +kernel
theorem tB_cX4_points_1 : cX4_points.data.toList.drop 16 = RB_cX4_points_1 := od_st tB_cX4_points_0 16 rfl
theorem dX4_points_0 : decode cX4_points 0 = .ok (.aload_n 0, 1) := od_42 (od_at tB_cX4_points_0 0 rfl)
theorem dX4_points_1 : decode cX4_points 1 = .ok (.iload_n 1, 1) := od_27 (od_at tB_cX4_points_0 1 rfl)
theorem dX4_points_2 : decode cX4_points 2 = .ok (.invokevirtual 61, 3) := od_182 (od_at tB_cX4_points_0 2 rfl) (od_at tB_cX4_points_0 3 rfl) (od_at tB_cX4_points_0 4 rfl) rfl
theorem dX4_points_5 : decode cX4_points 5 = .ok (.ifCond .ne 5, 3) := od_154 (od_at tB_cX4_points_0 5 rfl) (od_at tB_cX4_points_0 6 rfl) (od_at tB_cX4_points_0 7 rfl) (by decide +kernel)
theorem dX4_points_8 : decode cX4_points 8 = .ok (.iconst (-1), 1) := od_2 (od_at tB_cX4_points_0 8 rfl)
theorem dX4_points_9 : decode cX4_points 9 = .ok (.ireturn, 1) := od_172 (od_at tB_cX4_points_0 9 rfl)
theorem dX4_points_10 : decode cX4_points 10 = .ok (.iload_n 2, 1) := od_28 (od_at tB_cX4_points_0 10 rfl)
theorem dX4_points_11 : decode cX4_points 11 = .ok (.invokestatic 68, 3) := od_184 (od_at tB_cX4_points_0 11 rfl) (od_at tB_cX4_points_0 12 rfl) (od_at tB_cX4_points_0 13 rfl) rfl
theorem dX4_points_14 : decode cX4_points 14 = .ok (.ifCond .ne 6, 3) := od_154 (od_at tB_cX4_points_0 14 rfl) (od_at tB_cX4_points_0 15 rfl) (od_at tB_cX4_points_0 16 rfl) (by decide +kernel)
theorem dX4_points_17 : decode cX4_points 17 = .ok (.bipush (-2), 2) := od_16 (od_at tB_cX4_points_1 1 rfl) (od_at tB_cX4_points_1 2 rfl) (by decide +kernel)
theorem dX4_points_19 : decode cX4_points 19 = .ok (.ireturn, 1) := od_172 (od_at tB_cX4_points_1 3 rfl)
theorem dX4_points_20 : decode cX4_points 20 = .ok (.aload_n 0, 1) := od_42 (od_at tB_cX4_points_1 4 rfl)
theorem dX4_points_21 : decode cX4_points 21 = .ok (.getfield 13, 3) := od_180 (od_at tB_cX4_points_1 5 rfl) (od_at tB_cX4_points_1 6 rfl) (od_at tB_cX4_points_1 7 rfl) rfl
theorem dX4_points_24 : decode cX4_points 24 = .ok (.iload_n 1, 1) := od_27 (od_at tB_cX4_points_1 8 rfl)
theorem dX4_points_25 : decode cX4_points 25 = .ok (.aaload, 1) := od_50 (od_at tB_cX4_points_1 9 rfl)
theorem dX4_points_26 : decode cX4_points 26 = .ok (.iload_n 2, 1) := od_28 (od_at tB_cX4_points_1 10 rfl)
theorem dX4_points_27 : decode cX4_points 27 = .ok (.invokevirtual 88, 3) := od_182 (od_at tB_cX4_points_1 11 rfl) (od_at tB_cX4_points_1 12 rfl) (od_at tB_cX4_points_1 13 rfl) rfl
theorem dX4_points_30 : decode cX4_points 30 = .ok (.ireturn, 1) := od_172 (od_at tB_cX4_points_1 14 rfl)
def RB_cX4_point_5 : List UInt8 := 0x63 :: 0x15 :: 0x05 :: 0x2e :: 0xac :: []
def RB_cX4_point_4 : List UInt8 := 0x00 :: 0x5f :: 0x15 :: 0x05 :: 0x2e :: 0xa7 :: 0x00 :: 0x0f :: 0x2a :: 0xb4 :: 0x00 :: 0x0d :: 0x1b :: 0x32 :: 0xb4 :: 0x00 :: RB_cX4_point_5
def RB_cX4_point_3 : List UInt8 := 0x06 :: 0x10 :: 0xfe :: 0xac :: 0x15 :: 0x04 :: 0x9a :: 0x00 :: 0x12 :: 0x2a :: 0xb4 :: 0x00 :: 0x0d :: 0x1b :: 0x32 :: 0xb4 :: RB_cX4_point_4
def RB_cX4_point_2 : List UInt8 := 0x1c :: 0xb8 :: 0x00 :: 0x44 :: 0x99 :: 0x00 :: 0x0d :: 0x15 :: 0x04 :: 0x03 :: 0x04 :: 0xb8 :: 0x00 :: 0x36 :: 0x9a :: 0x00 :: RB_cX4_point_3
def RB_cX4_point_1 : List UInt8 := 0x1c :: 0x1d :: 0xb6 :: 0x00 :: 0x5c :: 0x36 :: 0x05 :: 0x15 :: 0x05 :: 0x10 :: 0xf7 :: 0xa0 :: 0x00 :: 0x05 :: 0x02 :: 0xac :: RB_cX4_point_2
def RB_cX4_point_0 : List UInt8 := 0x2a :: 0x1b :: 0xb6 :: 0x00 :: 0x3d :: 0x9a :: 0x00 :: 0x05 :: 0x02 :: 0xac :: 0x2a :: 0xb4 :: 0x00 :: 0x0d :: 0x1b :: 0x32 :: RB_cX4_point_1
theorem tB_cX4_point_0 : cX4_point.data.toList.drop 0 = RB_cX4_point_0 := by decide +kernel
theorem tB_cX4_point_1 : cX4_point.data.toList.drop 16 = RB_cX4_point_1 := od_st tB_cX4_point_0 16 rfl
theorem tB_cX4_point_2 : cX4_point.data.toList.drop 32 = RB_cX4_point_2 := od_st tB_cX4_point_1 16 rfl
theorem tB_cX4_point_3 : cX4_point.data.toList.drop 48 = RB_cX4_point_3 := od_st tB_cX4_point_2 16 rfl
theorem tB_cX4_point_4 : cX4_point.data.toList.drop 64 = RB_cX4_point_4 := od_st tB_cX4_point_3 16 rfl
theorem tB_cX4_point_5 : cX4_point.data.toList.drop 80 = RB_cX4_point_5 := od_st tB_cX4_point_4 16 rfl
theorem dX4_point_0 : decode cX4_point 0 = .ok (.aload_n 0, 1) := od_42 (od_at tB_cX4_point_0 0 rfl)
theorem dX4_point_1 : decode cX4_point 1 = .ok (.iload_n 1, 1) := od_27 (od_at tB_cX4_point_0 1 rfl)
theorem dX4_point_2 : decode cX4_point 2 = .ok (.invokevirtual 61, 3) := od_182 (od_at tB_cX4_point_0 2 rfl) (od_at tB_cX4_point_0 3 rfl) (od_at tB_cX4_point_0 4 rfl) rfl
theorem dX4_point_5 : decode cX4_point 5 = .ok (.ifCond .ne 5, 3) := od_154 (od_at tB_cX4_point_0 5 rfl) (od_at tB_cX4_point_0 6 rfl) (od_at tB_cX4_point_0 7 rfl) (by decide +kernel)
theorem dX4_point_8 : decode cX4_point 8 = .ok (.iconst (-1), 1) := od_2 (od_at tB_cX4_point_0 8 rfl)
theorem dX4_point_9 : decode cX4_point 9 = .ok (.ireturn, 1) := od_172 (od_at tB_cX4_point_0 9 rfl)
theorem dX4_point_10 : decode cX4_point 10 = .ok (.aload_n 0, 1) := od_42 (od_at tB_cX4_point_0 10 rfl)
theorem dX4_point_11 : decode cX4_point 11 = .ok (.getfield 13, 3) := od_180 (od_at tB_cX4_point_0 11 rfl) (od_at tB_cX4_point_0 12 rfl) (od_at tB_cX4_point_0 13 rfl) rfl
theorem dX4_point_14 : decode cX4_point 14 = .ok (.iload_n 1, 1) := od_27 (od_at tB_cX4_point_0 14 rfl)
theorem dX4_point_15 : decode cX4_point 15 = .ok (.aaload, 1) := od_50 (od_at tB_cX4_point_0 15 rfl)
theorem dX4_point_16 : decode cX4_point 16 = .ok (.iload_n 2, 1) := od_28 (od_at tB_cX4_point_1 0 rfl)
theorem dX4_point_17 : decode cX4_point 17 = .ok (.iload_n 3, 1) := od_29 (od_at tB_cX4_point_1 1 rfl)
theorem dX4_point_18 : decode cX4_point 18 = .ok (.invokevirtual 92, 3) := od_182 (od_at tB_cX4_point_1 2 rfl) (od_at tB_cX4_point_1 3 rfl) (od_at tB_cX4_point_1 4 rfl) rfl
theorem dX4_point_21 : decode cX4_point 21 = .ok (.istore 5, 2) := od_54 (od_at tB_cX4_point_1 5 rfl) (od_at tB_cX4_point_1 6 rfl) rfl
theorem dX4_point_23 : decode cX4_point 23 = .ok (.iload 5, 2) := od_21 (od_at tB_cX4_point_1 7 rfl) (od_at tB_cX4_point_1 8 rfl) rfl
theorem dX4_point_25 : decode cX4_point 25 = .ok (.bipush (-9), 2) := od_16 (od_at tB_cX4_point_1 9 rfl) (od_at tB_cX4_point_1 10 rfl) (by decide +kernel)
theorem dX4_point_27 : decode cX4_point 27 = .ok (.if_icmp .ne 5, 3) := od_160 (od_at tB_cX4_point_1 11 rfl) (od_at tB_cX4_point_1 12 rfl) (od_at tB_cX4_point_1 13 rfl) (by decide +kernel)
theorem dX4_point_30 : decode cX4_point 30 = .ok (.iconst (-1), 1) := od_2 (od_at tB_cX4_point_1 14 rfl)
theorem dX4_point_31 : decode cX4_point 31 = .ok (.ireturn, 1) := od_172 (od_at tB_cX4_point_1 15 rfl)
theorem dX4_point_32 : decode cX4_point 32 = .ok (.iload_n 2, 1) := od_28 (od_at tB_cX4_point_2 0 rfl)
theorem dX4_point_33 : decode cX4_point 33 = .ok (.invokestatic 68, 3) := od_184 (od_at tB_cX4_point_2 1 rfl) (od_at tB_cX4_point_2 2 rfl) (od_at tB_cX4_point_2 3 rfl) rfl
theorem dX4_point_36 : decode cX4_point 36 = .ok (.ifCond .eq 13, 3) := od_153 (od_at tB_cX4_point_2 4 rfl) (od_at tB_cX4_point_2 5 rfl) (od_at tB_cX4_point_2 6 rfl) (by decide +kernel)
theorem dX4_point_39 : decode cX4_point 39 = .ok (.iload 4, 2) := od_21 (od_at tB_cX4_point_2 7 rfl) (od_at tB_cX4_point_2 8 rfl) rfl
theorem dX4_point_41 : decode cX4_point 41 = .ok (.iconst 0, 1) := od_3 (od_at tB_cX4_point_2 9 rfl)
theorem dX4_point_42 : decode cX4_point 42 = .ok (.iconst 1, 1) := od_4 (od_at tB_cX4_point_2 10 rfl)
theorem dX4_point_43 : decode cX4_point 43 = .ok (.invokestatic 54, 3) := od_184 (od_at tB_cX4_point_2 11 rfl) (od_at tB_cX4_point_2 12 rfl) (od_at tB_cX4_point_2 13 rfl) rfl
theorem dX4_point_46 : decode cX4_point 46 = .ok (.ifCond .ne 6, 3) := od_154 (od_at tB_cX4_point_2 14 rfl) (od_at tB_cX4_point_2 15 rfl) (od_at tB_cX4_point_2 16 rfl) (by decide +kernel)
theorem dX4_point_49 : decode cX4_point 49 = .ok (.bipush (-2), 2) := od_16 (od_at tB_cX4_point_3 1 rfl) (od_at tB_cX4_point_3 2 rfl) (by decide +kernel)
theorem dX4_point_51 : decode cX4_point 51 = .ok (.ireturn, 1) := od_172 (od_at tB_cX4_point_3 3 rfl)
theorem dX4_point_52 : decode cX4_point 52 = .ok (.iload 4, 2) := od_21 (od_at tB_cX4_point_3 4 rfl) (od_at tB_cX4_point_3 5 rfl) rfl
theorem dX4_point_54 : decode cX4_point 54 = .ok (.ifCond .ne 18, 3) := od_154 (od_at tB_cX4_point_3 6 rfl) (od_at tB_cX4_point_3 7 rfl) (od_at tB_cX4_point_3 8 rfl) (by decide +kernel)
theorem dX4_point_57 : decode cX4_point 57 = .ok (.aload_n 0, 1) := od_42 (od_at tB_cX4_point_3 9 rfl)
theorem dX4_point_58 : decode cX4_point 58 = .ok (.getfield 13, 3) := od_180 (od_at tB_cX4_point_3 10 rfl) (od_at tB_cX4_point_3 11 rfl) (od_at tB_cX4_point_3 12 rfl) rfl
theorem dX4_point_61 : decode cX4_point 61 = .ok (.iload_n 1, 1) := od_27 (od_at tB_cX4_point_3 13 rfl)
theorem dX4_point_62 : decode cX4_point 62 = .ok (.aaload, 1) := od_50 (od_at tB_cX4_point_3 14 rfl)
theorem dX4_point_63 : decode cX4_point 63 = .ok (.getfield 95, 3) := od_180 (od_at tB_cX4_point_3 15 rfl) (od_at tB_cX4_point_3 16 rfl) (od_at tB_cX4_point_3 17 rfl) rfl
theorem dX4_point_66 : decode cX4_point 66 = .ok (.iload 5, 2) := od_21 (od_at tB_cX4_point_4 2 rfl) (od_at tB_cX4_point_4 3 rfl) rfl
theorem dX4_point_68 : decode cX4_point 68 = .ok (.iaload, 1) := od_46 (od_at tB_cX4_point_4 4 rfl)
theorem dX4_point_69 : decode cX4_point 69 = .ok (.goto 15, 3) := od_167 (od_at tB_cX4_point_4 5 rfl) (od_at tB_cX4_point_4 6 rfl) (od_at tB_cX4_point_4 7 rfl) (by decide +kernel)
theorem dX4_point_72 : decode cX4_point 72 = .ok (.aload_n 0, 1) := od_42 (od_at tB_cX4_point_4 8 rfl)
theorem dX4_point_73 : decode cX4_point 73 = .ok (.getfield 13, 3) := od_180 (od_at tB_cX4_point_4 9 rfl) (od_at tB_cX4_point_4 10 rfl) (od_at tB_cX4_point_4 11 rfl) rfl
theorem dX4_point_76 : decode cX4_point 76 = .ok (.iload_n 1, 1) := od_27 (od_at tB_cX4_point_4 12 rfl)
theorem dX4_point_77 : decode cX4_point 77 = .ok (.aaload, 1) := od_50 (od_at tB_cX4_point_4 13 rfl)
theorem dX4_point_78 : decode cX4_point 78 = .ok (.getfield 99, 3) := od_180 (od_at tB_cX4_point_4 14 rfl) (od_at tB_cX4_point_4 15 rfl) (od_at tB_cX4_point_4 16 rfl) rfl
theorem dX4_point_81 : decode cX4_point 81 = .ok (.iload 5, 2) := od_21 (od_at tB_cX4_point_5 1 rfl) (od_at tB_cX4_point_5 2 rfl) rfl
theorem dX4_point_83 : decode cX4_point 83 = .ok (.iaload, 1) := od_46 (od_at tB_cX4_point_5 3 rfl)
theorem dX4_point_84 : decode cX4_point 84 = .ok (.ireturn, 1) := od_172 (od_at tB_cX4_point_5 4 rfl)
def RB_cX4_proof_2 : List UInt8 := 0x2a :: 0xb4 :: 0x00 :: 0x18 :: 0x1b :: 0x1c :: 0x1d :: 0xb6 :: 0x00 :: 0x67 :: 0x04 :: 0xac :: []
def RB_cX4_proof_1 : List UInt8 := 0x0f :: 0x1d :: 0x11 :: 0x03 :: 0xe8 :: 0x12 :: 0x66 :: 0xb8 :: 0x00 :: 0x36 :: 0x9a :: 0x00 :: 0x06 :: 0x10 :: 0xfe :: 0xac :: RB_cX4_proof_2
def RB_cX4_proof_0 : List UInt8 := 0x2a :: 0x1b :: 0xb6 :: 0x00 :: 0x3d :: 0x9a :: 0x00 :: 0x05 :: 0x02 :: 0xac :: 0x1c :: 0xb8 :: 0x00 :: 0x41 :: 0x99 :: 0x00 :: RB_cX4_proof_1
theorem tB_cX4_proof_0 : cX4_proof.data.toList.drop 0 = RB_cX4_proof_0 := by decide +kernel
theorem tB_cX4_proof_1 : cX4_proof.data.toList.drop 16 = RB_cX4_proof_1 := od_st tB_cX4_proof_0 16 rfl
theorem tB_cX4_proof_2 : cX4_proof.data.toList.drop 32 = RB_cX4_proof_2 := od_st tB_cX4_proof_1 16 rfl
theorem dX4_proof_0 : decode cX4_proof 0 = .ok (.aload_n 0, 1) := od_42 (od_at tB_cX4_proof_0 0 rfl)
theorem dX4_proof_1 : decode cX4_proof 1 = .ok (.iload_n 1, 1) := od_27 (od_at tB_cX4_proof_0 1 rfl)
theorem dX4_proof_2 : decode cX4_proof 2 = .ok (.invokevirtual 61, 3) := od_182 (od_at tB_cX4_proof_0 2 rfl) (od_at tB_cX4_proof_0 3 rfl) (od_at tB_cX4_proof_0 4 rfl) rfl
theorem dX4_proof_5 : decode cX4_proof 5 = .ok (.ifCond .ne 5, 3) := od_154 (od_at tB_cX4_proof_0 5 rfl) (od_at tB_cX4_proof_0 6 rfl) (od_at tB_cX4_proof_0 7 rfl) (by decide +kernel)
theorem dX4_proof_8 : decode cX4_proof 8 = .ok (.iconst (-1), 1) := od_2 (od_at tB_cX4_proof_0 8 rfl)
theorem dX4_proof_9 : decode cX4_proof 9 = .ok (.ireturn, 1) := od_172 (od_at tB_cX4_proof_0 9 rfl)
theorem dX4_proof_10 : decode cX4_proof 10 = .ok (.iload_n 2, 1) := od_28 (od_at tB_cX4_proof_0 10 rfl)
theorem dX4_proof_11 : decode cX4_proof 11 = .ok (.invokestatic 65, 3) := od_184 (od_at tB_cX4_proof_0 11 rfl) (od_at tB_cX4_proof_0 12 rfl) (od_at tB_cX4_proof_0 13 rfl) rfl
theorem dX4_proof_14 : decode cX4_proof 14 = .ok (.ifCond .eq 15, 3) := od_153 (od_at tB_cX4_proof_0 14 rfl) (od_at tB_cX4_proof_0 15 rfl) (od_at tB_cX4_proof_0 16 rfl) (by decide +kernel)
theorem dX4_proof_17 : decode cX4_proof 17 = .ok (.iload_n 3, 1) := od_29 (od_at tB_cX4_proof_1 1 rfl)
theorem dX4_proof_18 : decode cX4_proof 18 = .ok (.sipush 1000, 3) := od_17 (od_at tB_cX4_proof_1 2 rfl) (od_at tB_cX4_proof_1 3 rfl) (od_at tB_cX4_proof_1 4 rfl) (by decide +kernel)
theorem dX4_proof_21 : decode cX4_proof 21 = .ok (.ldc 102, 2) := od_18 (od_at tB_cX4_proof_1 5 rfl) (od_at tB_cX4_proof_1 6 rfl) rfl
theorem dX4_proof_23 : decode cX4_proof 23 = .ok (.invokestatic 54, 3) := od_184 (od_at tB_cX4_proof_1 7 rfl) (od_at tB_cX4_proof_1 8 rfl) (od_at tB_cX4_proof_1 9 rfl) rfl
theorem dX4_proof_26 : decode cX4_proof 26 = .ok (.ifCond .ne 6, 3) := od_154 (od_at tB_cX4_proof_1 10 rfl) (od_at tB_cX4_proof_1 11 rfl) (od_at tB_cX4_proof_1 12 rfl) (by decide +kernel)
theorem dX4_proof_29 : decode cX4_proof 29 = .ok (.bipush (-2), 2) := od_16 (od_at tB_cX4_proof_1 13 rfl) (od_at tB_cX4_proof_1 14 rfl) (by decide +kernel)
theorem dX4_proof_31 : decode cX4_proof 31 = .ok (.ireturn, 1) := od_172 (od_at tB_cX4_proof_1 15 rfl)
theorem dX4_proof_32 : decode cX4_proof 32 = .ok (.aload_n 0, 1) := od_42 (od_at tB_cX4_proof_2 0 rfl)
theorem dX4_proof_33 : decode cX4_proof 33 = .ok (.getfield 24, 3) := od_180 (od_at tB_cX4_proof_2 1 rfl) (od_at tB_cX4_proof_2 2 rfl) (od_at tB_cX4_proof_2 3 rfl) rfl
theorem dX4_proof_36 : decode cX4_proof 36 = .ok (.iload_n 1, 1) := od_27 (od_at tB_cX4_proof_2 4 rfl)
theorem dX4_proof_37 : decode cX4_proof 37 = .ok (.iload_n 2, 1) := od_28 (od_at tB_cX4_proof_2 5 rfl)
theorem dX4_proof_38 : decode cX4_proof 38 = .ok (.iload_n 3, 1) := od_29 (od_at tB_cX4_proof_2 6 rfl)
theorem dX4_proof_39 : decode cX4_proof 39 = .ok (.invokevirtual 103, 3) := od_182 (od_at tB_cX4_proof_2 7 rfl) (od_at tB_cX4_proof_2 8 rfl) (od_at tB_cX4_proof_2 9 rfl) rfl
theorem dX4_proof_42 : decode cX4_proof 42 = .ok (.iconst 1, 1) := od_4 (od_at tB_cX4_proof_2 10 rfl)
theorem dX4_proof_43 : decode cX4_proof 43 = .ok (.ireturn, 1) := od_172 (od_at tB_cX4_proof_2 11 rfl)
def RB_cX4_run_6 : List UInt8 := 0xb4 :: 0x00 :: 0x70 :: 0x04 :: 0x60 :: 0xb5 :: 0x00 :: 0x70 :: 0x16 :: 0x04 :: 0xad :: []
def RB_cX4_run_5 : List UInt8 := 0x75 :: 0x2a :: 0xb4 :: 0x00 :: 0x18 :: 0xb4 :: 0x00 :: 0x70 :: 0x16 :: 0x04 :: 0x50 :: 0x2a :: 0xb4 :: 0x00 :: 0x18 :: 0x59 :: RB_cX4_run_6
def RB_cX4_run_4 : List UInt8 := 0x85 :: 0x69 :: 0x1d :: 0x85 :: 0x69 :: 0x1c :: 0x85 :: 0x6d :: 0x37 :: 0x04 :: 0x2a :: 0xb4 :: 0x00 :: 0x18 :: 0xb4 :: 0x00 :: RB_cX4_run_5
def RB_cX4_run_3 : List UInt8 := 0xb4 :: 0x00 :: 0x70 :: 0x10 :: 0x0c :: 0xa1 :: 0x00 :: 0x07 :: 0x14 :: 0x00 :: 0x6a :: 0xad :: 0x14 :: 0x00 :: 0x73 :: 0x1b :: RB_cX4_run_4
def RB_cX4_run_2 : List UInt8 := 0x6a :: 0xad :: 0x2a :: 0xb4 :: 0x00 :: 0x18 :: 0xb4 :: 0x00 :: 0x6c :: 0x99 :: 0x00 :: 0x0f :: 0x2a :: 0xb4 :: 0x00 :: 0x18 :: RB_cX4_run_3
def RB_cX4_run_1 : List UInt8 := 0x36 :: 0x99 :: 0x00 :: 0x0d :: 0x1d :: 0x04 :: 0x12 :: 0x66 :: 0xb8 :: 0x00 :: 0x36 :: 0x9a :: 0x00 :: 0x07 :: 0x14 :: 0x00 :: RB_cX4_run_2
def RB_cX4_run_0 : List UInt8 := 0x1b :: 0x04 :: 0x12 :: 0x35 :: 0xb8 :: 0x00 :: 0x36 :: 0x99 :: 0x00 :: 0x17 :: 0x1c :: 0x04 :: 0x12 :: 0x66 :: 0xb8 :: 0x00 :: RB_cX4_run_1
theorem tB_cX4_run_0 : cX4_run.data.toList.drop 0 = RB_cX4_run_0 := by decide +kernel
theorem tB_cX4_run_1 : cX4_run.data.toList.drop 16 = RB_cX4_run_1 := od_st tB_cX4_run_0 16 rfl
theorem tB_cX4_run_2 : cX4_run.data.toList.drop 32 = RB_cX4_run_2 := od_st tB_cX4_run_1 16 rfl
theorem tB_cX4_run_3 : cX4_run.data.toList.drop 48 = RB_cX4_run_3 := od_st tB_cX4_run_2 16 rfl
theorem tB_cX4_run_4 : cX4_run.data.toList.drop 64 = RB_cX4_run_4 := od_st tB_cX4_run_3 16 rfl
theorem tB_cX4_run_5 : cX4_run.data.toList.drop 80 = RB_cX4_run_5 := od_st tB_cX4_run_4 16 rfl
theorem tB_cX4_run_6 : cX4_run.data.toList.drop 96 = RB_cX4_run_6 := od_st tB_cX4_run_5 16 rfl
theorem dX4_run_0 : decode cX4_run 0 = .ok (.iload_n 1, 1) := od_27 (od_at tB_cX4_run_0 0 rfl)
theorem dX4_run_1 : decode cX4_run 1 = .ok (.iconst 1, 1) := od_4 (od_at tB_cX4_run_0 1 rfl)
theorem dX4_run_2 : decode cX4_run 2 = .ok (.ldc 53, 2) := od_18 (od_at tB_cX4_run_0 2 rfl) (od_at tB_cX4_run_0 3 rfl) rfl
theorem dX4_run_4 : decode cX4_run 4 = .ok (.invokestatic 54, 3) := od_184 (od_at tB_cX4_run_0 4 rfl) (od_at tB_cX4_run_0 5 rfl) (od_at tB_cX4_run_0 6 rfl) rfl
theorem dX4_run_7 : decode cX4_run 7 = .ok (.ifCond .eq 23, 3) := od_153 (od_at tB_cX4_run_0 7 rfl) (od_at tB_cX4_run_0 8 rfl) (od_at tB_cX4_run_0 9 rfl) (by decide +kernel)
theorem dX4_run_10 : decode cX4_run 10 = .ok (.iload_n 2, 1) := od_28 (od_at tB_cX4_run_0 10 rfl)
theorem dX4_run_11 : decode cX4_run 11 = .ok (.iconst 1, 1) := od_4 (od_at tB_cX4_run_0 11 rfl)
theorem dX4_run_12 : decode cX4_run 12 = .ok (.ldc 102, 2) := od_18 (od_at tB_cX4_run_0 12 rfl) (od_at tB_cX4_run_0 13 rfl) rfl
theorem dX4_run_14 : decode cX4_run 14 = .ok (.invokestatic 54, 3) := od_184 (od_at tB_cX4_run_0 14 rfl) (od_at tB_cX4_run_0 15 rfl) (od_at tB_cX4_run_0 16 rfl) rfl
theorem dX4_run_17 : decode cX4_run 17 = .ok (.ifCond .eq 13, 3) := od_153 (od_at tB_cX4_run_1 1 rfl) (od_at tB_cX4_run_1 2 rfl) (od_at tB_cX4_run_1 3 rfl) (by decide +kernel)
theorem dX4_run_20 : decode cX4_run 20 = .ok (.iload_n 3, 1) := od_29 (od_at tB_cX4_run_1 4 rfl)
theorem dX4_run_21 : decode cX4_run 21 = .ok (.iconst 1, 1) := od_4 (od_at tB_cX4_run_1 5 rfl)
theorem dX4_run_22 : decode cX4_run 22 = .ok (.ldc 102, 2) := od_18 (od_at tB_cX4_run_1 6 rfl) (od_at tB_cX4_run_1 7 rfl) rfl
theorem dX4_run_24 : decode cX4_run 24 = .ok (.invokestatic 54, 3) := od_184 (od_at tB_cX4_run_1 8 rfl) (od_at tB_cX4_run_1 9 rfl) (od_at tB_cX4_run_1 10 rfl) rfl
theorem dX4_run_27 : decode cX4_run 27 = .ok (.ifCond .ne 7, 3) := od_154 (od_at tB_cX4_run_1 11 rfl) (od_at tB_cX4_run_1 12 rfl) (od_at tB_cX4_run_1 13 rfl) (by decide +kernel)
theorem dX4_run_30 : decode cX4_run 30 = .ok (.ldc2_w 106, 3) := od_20 (od_at tB_cX4_run_1 14 rfl) (od_at tB_cX4_run_1 15 rfl) (od_at tB_cX4_run_1 16 rfl) rfl
theorem dX4_run_33 : decode cX4_run 33 = .ok (.lreturn, 1) := od_173 (od_at tB_cX4_run_2 1 rfl)
theorem dX4_run_34 : decode cX4_run 34 = .ok (.aload_n 0, 1) := od_42 (od_at tB_cX4_run_2 2 rfl)
theorem dX4_run_35 : decode cX4_run 35 = .ok (.getfield 24, 3) := od_180 (od_at tB_cX4_run_2 3 rfl) (od_at tB_cX4_run_2 4 rfl) (od_at tB_cX4_run_2 5 rfl) rfl
theorem dX4_run_38 : decode cX4_run 38 = .ok (.getfield 108, 3) := od_180 (od_at tB_cX4_run_2 6 rfl) (od_at tB_cX4_run_2 7 rfl) (od_at tB_cX4_run_2 8 rfl) rfl
theorem dX4_run_41 : decode cX4_run 41 = .ok (.ifCond .eq 15, 3) := od_153 (od_at tB_cX4_run_2 9 rfl) (od_at tB_cX4_run_2 10 rfl) (od_at tB_cX4_run_2 11 rfl) (by decide +kernel)
theorem dX4_run_44 : decode cX4_run 44 = .ok (.aload_n 0, 1) := od_42 (od_at tB_cX4_run_2 12 rfl)
theorem dX4_run_45 : decode cX4_run 45 = .ok (.getfield 24, 3) := od_180 (od_at tB_cX4_run_2 13 rfl) (od_at tB_cX4_run_2 14 rfl) (od_at tB_cX4_run_2 15 rfl) rfl
theorem dX4_run_48 : decode cX4_run 48 = .ok (.getfield 112, 3) := od_180 (od_at tB_cX4_run_3 0 rfl) (od_at tB_cX4_run_3 1 rfl) (od_at tB_cX4_run_3 2 rfl) rfl
theorem dX4_run_51 : decode cX4_run 51 = .ok (.bipush 12, 2) := od_16 (od_at tB_cX4_run_3 3 rfl) (od_at tB_cX4_run_3 4 rfl) (by decide +kernel)
theorem dX4_run_53 : decode cX4_run 53 = .ok (.if_icmp .lt 7, 3) := od_161 (od_at tB_cX4_run_3 5 rfl) (od_at tB_cX4_run_3 6 rfl) (od_at tB_cX4_run_3 7 rfl) (by decide +kernel)
theorem dX4_run_56 : decode cX4_run 56 = .ok (.ldc2_w 106, 3) := od_20 (od_at tB_cX4_run_3 8 rfl) (od_at tB_cX4_run_3 9 rfl) (od_at tB_cX4_run_3 10 rfl) rfl
theorem dX4_run_59 : decode cX4_run 59 = .ok (.lreturn, 1) := od_173 (od_at tB_cX4_run_3 11 rfl)
theorem dX4_run_60 : decode cX4_run 60 = .ok (.ldc2_w 115, 3) := od_20 (od_at tB_cX4_run_3 12 rfl) (od_at tB_cX4_run_3 13 rfl) (od_at tB_cX4_run_3 14 rfl) rfl
theorem dX4_run_63 : decode cX4_run 63 = .ok (.iload_n 1, 1) := od_27 (od_at tB_cX4_run_3 15 rfl)
theorem dX4_run_64 : decode cX4_run 64 = .ok (.i2l, 1) := od_133 (od_at tB_cX4_run_4 0 rfl)
theorem dX4_run_65 : decode cX4_run 65 = .ok (.lmul, 1) := od_105 (od_at tB_cX4_run_4 1 rfl)
theorem dX4_run_66 : decode cX4_run 66 = .ok (.iload_n 3, 1) := od_29 (od_at tB_cX4_run_4 2 rfl)
theorem dX4_run_67 : decode cX4_run 67 = .ok (.i2l, 1) := od_133 (od_at tB_cX4_run_4 3 rfl)
theorem dX4_run_68 : decode cX4_run 68 = .ok (.lmul, 1) := od_105 (od_at tB_cX4_run_4 4 rfl)
theorem dX4_run_69 : decode cX4_run 69 = .ok (.iload_n 2, 1) := od_28 (od_at tB_cX4_run_4 5 rfl)
theorem dX4_run_70 : decode cX4_run 70 = .ok (.i2l, 1) := od_133 (od_at tB_cX4_run_4 6 rfl)
theorem dX4_run_71 : decode cX4_run 71 = .ok (.ldiv, 1) := od_109 (od_at tB_cX4_run_4 7 rfl)
theorem dX4_run_72 : decode cX4_run 72 = .ok (.lstore 4, 2) := od_55 (od_at tB_cX4_run_4 8 rfl) (od_at tB_cX4_run_4 9 rfl) rfl
theorem dX4_run_74 : decode cX4_run 74 = .ok (.aload_n 0, 1) := od_42 (od_at tB_cX4_run_4 10 rfl)
theorem dX4_run_75 : decode cX4_run 75 = .ok (.getfield 24, 3) := od_180 (od_at tB_cX4_run_4 11 rfl) (od_at tB_cX4_run_4 12 rfl) (od_at tB_cX4_run_4 13 rfl) rfl
theorem dX4_run_78 : decode cX4_run 78 = .ok (.getfield 117, 3) := od_180 (od_at tB_cX4_run_4 14 rfl) (od_at tB_cX4_run_4 15 rfl) (od_at tB_cX4_run_4 16 rfl) rfl
theorem dX4_run_81 : decode cX4_run 81 = .ok (.aload_n 0, 1) := od_42 (od_at tB_cX4_run_5 1 rfl)
theorem dX4_run_82 : decode cX4_run 82 = .ok (.getfield 24, 3) := od_180 (od_at tB_cX4_run_5 2 rfl) (od_at tB_cX4_run_5 3 rfl) (od_at tB_cX4_run_5 4 rfl) rfl
theorem dX4_run_85 : decode cX4_run 85 = .ok (.getfield 112, 3) := od_180 (od_at tB_cX4_run_5 5 rfl) (od_at tB_cX4_run_5 6 rfl) (od_at tB_cX4_run_5 7 rfl) rfl
theorem dX4_run_88 : decode cX4_run 88 = .ok (.lload 4, 2) := od_22 (od_at tB_cX4_run_5 8 rfl) (od_at tB_cX4_run_5 9 rfl) rfl
theorem dX4_run_90 : decode cX4_run 90 = .ok (.lastore, 1) := od_80 (od_at tB_cX4_run_5 10 rfl)
theorem dX4_run_91 : decode cX4_run 91 = .ok (.aload_n 0, 1) := od_42 (od_at tB_cX4_run_5 11 rfl)
theorem dX4_run_92 : decode cX4_run 92 = .ok (.getfield 24, 3) := od_180 (od_at tB_cX4_run_5 12 rfl) (od_at tB_cX4_run_5 13 rfl) (od_at tB_cX4_run_5 14 rfl) rfl
theorem dX4_run_95 : decode cX4_run 95 = .ok (.dup, 1) := od_89 (od_at tB_cX4_run_5 15 rfl)
theorem dX4_run_96 : decode cX4_run 96 = .ok (.getfield 112, 3) := od_180 (od_at tB_cX4_run_6 0 rfl) (od_at tB_cX4_run_6 1 rfl) (od_at tB_cX4_run_6 2 rfl) rfl
theorem dX4_run_99 : decode cX4_run 99 = .ok (.iconst 1, 1) := od_4 (od_at tB_cX4_run_6 3 rfl)
theorem dX4_run_100 : decode cX4_run 100 = .ok (.iadd, 1) := od_96 (od_at tB_cX4_run_6 4 rfl)
theorem dX4_run_101 : decode cX4_run 101 = .ok (.putfield 112, 3) := od_181 (od_at tB_cX4_run_6 5 rfl) (od_at tB_cX4_run_6 6 rfl) (od_at tB_cX4_run_6 7 rfl) rfl
theorem dX4_run_104 : decode cX4_run 104 = .ok (.lload 4, 2) := od_22 (od_at tB_cX4_run_6 8 rfl) (od_at tB_cX4_run_6 9 rfl) rfl
theorem dX4_run_106 : decode cX4_run 106 = .ok (.lreturn, 1) := od_173 (od_at tB_cX4_run_6 10 rfl)
def RB_cX4_proving_5 : List UInt8 := 0xb4 :: 0x00 :: 0x7c :: 0xac :: 0x2a :: 0xb4 :: 0x00 :: 0x18 :: 0xb4 :: 0x00 :: 0x7f :: 0xac :: []
def RB_cX4_proving_4 : List UInt8 := 0xb6 :: 0x00 :: 0x79 :: 0x99 :: 0x00 :: 0x07 :: 0x04 :: 0xa7 :: 0x00 :: 0x04 :: 0x03 :: 0xac :: 0x2a :: 0xb4 :: 0x00 :: 0x18 :: RB_cX4_proving_5
def RB_cX4_proving_3 : List UInt8 := 0x00 :: 0x00 :: 0x00 :: 0x32 :: 0x2a :: 0xb4 :: 0x00 :: 0x18 :: 0xb4 :: 0x00 :: 0x70 :: 0xac :: 0x2a :: 0xb4 :: 0x00 :: 0x18 :: RB_cX4_proving_4
def RB_cX4_proving_2 : List UInt8 := 0x00 :: 0x00 :: 0x00 :: 0x00 :: 0x00 :: 0x00 :: 0x00 :: 0x02 :: 0x00 :: 0x00 :: 0x00 :: 0x1a :: 0x00 :: 0x00 :: 0x00 :: 0x22 :: RB_cX4_proving_3
def RB_cX4_proving_1 : List UInt8 := 0xb4 :: 0x00 :: 0x6c :: 0x9a :: 0x00 :: 0x06 :: 0x10 :: 0xfd :: 0xac :: 0x1b :: 0xaa :: 0x00 :: 0x00 :: 0x00 :: 0x00 :: 0x3a :: RB_cX4_proving_2
def RB_cX4_proving_0 : List UInt8 := 0x1b :: 0x03 :: 0x06 :: 0xb8 :: 0x00 :: 0x36 :: 0x9a :: 0x00 :: 0x06 :: 0x10 :: 0xfe :: 0xac :: 0x2a :: 0xb4 :: 0x00 :: 0x18 :: RB_cX4_proving_1
theorem tB_cX4_proving_0 : cX4_proving.data.toList.drop 0 = RB_cX4_proving_0 := by decide +kernel
theorem tB_cX4_proving_1 : cX4_proving.data.toList.drop 16 = RB_cX4_proving_1 := od_st tB_cX4_proving_0 16 rfl
theorem tB_cX4_proving_2 : cX4_proving.data.toList.drop 32 = RB_cX4_proving_2 := od_st tB_cX4_proving_1 16 rfl
theorem tB_cX4_proving_3 : cX4_proving.data.toList.drop 48 = RB_cX4_proving_3 := od_st tB_cX4_proving_2 16 rfl
theorem tB_cX4_proving_4 : cX4_proving.data.toList.drop 64 = RB_cX4_proving_4 := od_st tB_cX4_proving_3 16 rfl
theorem tB_cX4_proving_5 : cX4_proving.data.toList.drop 80 = RB_cX4_proving_5 := od_st tB_cX4_proving_4 16 rfl
theorem dX4_proving_0 : decode cX4_proving 0 = .ok (.iload_n 1, 1) := od_27 (od_at tB_cX4_proving_0 0 rfl)
theorem dX4_proving_1 : decode cX4_proving 1 = .ok (.iconst 0, 1) := od_3 (od_at tB_cX4_proving_0 1 rfl)
theorem dX4_proving_2 : decode cX4_proving 2 = .ok (.iconst 3, 1) := od_6 (od_at tB_cX4_proving_0 2 rfl)
theorem dX4_proving_3 : decode cX4_proving 3 = .ok (.invokestatic 54, 3) := od_184 (od_at tB_cX4_proving_0 3 rfl) (od_at tB_cX4_proving_0 4 rfl) (od_at tB_cX4_proving_0 5 rfl) rfl
theorem dX4_proving_6 : decode cX4_proving 6 = .ok (.ifCond .ne 6, 3) := od_154 (od_at tB_cX4_proving_0 6 rfl) (od_at tB_cX4_proving_0 7 rfl) (od_at tB_cX4_proving_0 8 rfl) (by decide +kernel)
theorem dX4_proving_9 : decode cX4_proving 9 = .ok (.bipush (-2), 2) := od_16 (od_at tB_cX4_proving_0 9 rfl) (od_at tB_cX4_proving_0 10 rfl) (by decide +kernel)
theorem dX4_proving_11 : decode cX4_proving 11 = .ok (.ireturn, 1) := od_172 (od_at tB_cX4_proving_0 11 rfl)
theorem dX4_proving_12 : decode cX4_proving 12 = .ok (.aload_n 0, 1) := od_42 (od_at tB_cX4_proving_0 12 rfl)
theorem dX4_proving_13 : decode cX4_proving 13 = .ok (.getfield 24, 3) := od_180 (od_at tB_cX4_proving_0 13 rfl) (od_at tB_cX4_proving_0 14 rfl) (od_at tB_cX4_proving_0 15 rfl) rfl
theorem dX4_proving_16 : decode cX4_proving 16 = .ok (.getfield 108, 3) := od_180 (od_at tB_cX4_proving_1 0 rfl) (od_at tB_cX4_proving_1 1 rfl) (od_at tB_cX4_proving_1 2 rfl) rfl
theorem dX4_proving_19 : decode cX4_proving 19 = .ok (.ifCond .ne 6, 3) := od_154 (od_at tB_cX4_proving_1 3 rfl) (od_at tB_cX4_proving_1 4 rfl) (od_at tB_cX4_proving_1 5 rfl) (by decide +kernel)
theorem dX4_proving_22 : decode cX4_proving 22 = .ok (.bipush (-3), 2) := od_16 (od_at tB_cX4_proving_1 6 rfl) (od_at tB_cX4_proving_1 7 rfl) (by decide +kernel)
theorem dX4_proving_24 : decode cX4_proving 24 = .ok (.ireturn, 1) := od_172 (od_at tB_cX4_proving_1 8 rfl)
theorem dX4_proving_25 : decode cX4_proving 25 = .ok (.iload_n 1, 1) := od_27 (od_at tB_cX4_proving_1 9 rfl)
theorem dX4_proving_26 : decode cX4_proving 26 = .ok (.tableswitch 58 0 2 #[26, 34, 50], 26) := by decide +kernel
theorem dX4_proving_52 : decode cX4_proving 52 = .ok (.aload_n 0, 1) := od_42 (od_at tB_cX4_proving_3 4 rfl)
theorem dX4_proving_53 : decode cX4_proving 53 = .ok (.getfield 24, 3) := od_180 (od_at tB_cX4_proving_3 5 rfl) (od_at tB_cX4_proving_3 6 rfl) (od_at tB_cX4_proving_3 7 rfl) rfl
theorem dX4_proving_56 : decode cX4_proving 56 = .ok (.getfield 112, 3) := od_180 (od_at tB_cX4_proving_3 8 rfl) (od_at tB_cX4_proving_3 9 rfl) (od_at tB_cX4_proving_3 10 rfl) rfl
theorem dX4_proving_59 : decode cX4_proving 59 = .ok (.ireturn, 1) := od_172 (od_at tB_cX4_proving_3 11 rfl)
theorem dX4_proving_60 : decode cX4_proving 60 = .ok (.aload_n 0, 1) := od_42 (od_at tB_cX4_proving_3 12 rfl)
theorem dX4_proving_61 : decode cX4_proving 61 = .ok (.getfield 24, 3) := od_180 (od_at tB_cX4_proving_3 13 rfl) (od_at tB_cX4_proving_3 14 rfl) (od_at tB_cX4_proving_3 15 rfl) rfl
theorem dX4_proving_64 : decode cX4_proving 64 = .ok (.invokevirtual 121, 3) := od_182 (od_at tB_cX4_proving_4 0 rfl) (od_at tB_cX4_proving_4 1 rfl) (od_at tB_cX4_proving_4 2 rfl) rfl
theorem dX4_proving_67 : decode cX4_proving 67 = .ok (.ifCond .eq 7, 3) := od_153 (od_at tB_cX4_proving_4 3 rfl) (od_at tB_cX4_proving_4 4 rfl) (od_at tB_cX4_proving_4 5 rfl) (by decide +kernel)
theorem dX4_proving_70 : decode cX4_proving 70 = .ok (.iconst 1, 1) := od_4 (od_at tB_cX4_proving_4 6 rfl)
theorem dX4_proving_71 : decode cX4_proving 71 = .ok (.goto 4, 3) := od_167 (od_at tB_cX4_proving_4 7 rfl) (od_at tB_cX4_proving_4 8 rfl) (od_at tB_cX4_proving_4 9 rfl) (by decide +kernel)
theorem dX4_proving_74 : decode cX4_proving 74 = .ok (.iconst 0, 1) := od_3 (od_at tB_cX4_proving_4 10 rfl)
theorem dX4_proving_75 : decode cX4_proving 75 = .ok (.ireturn, 1) := od_172 (od_at tB_cX4_proving_4 11 rfl)
theorem dX4_proving_76 : decode cX4_proving 76 = .ok (.aload_n 0, 1) := od_42 (od_at tB_cX4_proving_4 12 rfl)
theorem dX4_proving_77 : decode cX4_proving 77 = .ok (.getfield 24, 3) := od_180 (od_at tB_cX4_proving_4 13 rfl) (od_at tB_cX4_proving_4 14 rfl) (od_at tB_cX4_proving_4 15 rfl) rfl
theorem dX4_proving_80 : decode cX4_proving 80 = .ok (.getfield 124, 3) := od_180 (od_at tB_cX4_proving_5 0 rfl) (od_at tB_cX4_proving_5 1 rfl) (od_at tB_cX4_proving_5 2 rfl) rfl
theorem dX4_proving_83 : decode cX4_proving 83 = .ok (.ireturn, 1) := od_172 (od_at tB_cX4_proving_5 3 rfl)
theorem dX4_proving_84 : decode cX4_proving 84 = .ok (.aload_n 0, 1) := od_42 (od_at tB_cX4_proving_5 4 rfl)
theorem dX4_proving_85 : decode cX4_proving 85 = .ok (.getfield 24, 3) := od_180 (od_at tB_cX4_proving_5 5 rfl) (od_at tB_cX4_proving_5 6 rfl) (od_at tB_cX4_proving_5 7 rfl) rfl
theorem dX4_proving_88 : decode cX4_proving 88 = .ok (.getfield 127, 3) := od_180 (od_at tB_cX4_proving_5 8 rfl) (od_at tB_cX4_proving_5 9 rfl) (od_at tB_cX4_proving_5 10 rfl) rfl
theorem dX4_proving_91 : decode cX4_proving 91 = .ok (.ireturn, 1) := od_172 (od_at tB_cX4_proving_5 11 rfl)
def RB_cX4_accept_6 : List UInt8 := 0x21 :: 0x88 :: 0xb6 :: 0x00 :: 0x4d :: 0x2a :: 0xb4 :: 0x00 :: 0x18 :: 0x03 :: 0xb5 :: 0x00 :: 0x6c :: 0x21 :: 0x88 :: 0xac :: []
def RB_cX4_accept_5 : List UInt8 := 0x49 :: 0x99 :: 0x00 :: 0x06 :: 0x10 :: 0xfc :: 0xac :: 0x2c :: 0x2a :: 0xb4 :: 0x00 :: 0x18 :: 0xb4 :: 0x00 :: 0x7f :: 0x1b :: RB_cX4_accept_6
def RB_cX4_accept_4 : List UInt8 := 0x00 :: 0x0b :: 0x21 :: 0x14 :: 0x00 :: 0x8b :: 0x94 :: 0x9e :: 0x00 :: 0x06 :: 0x10 :: 0xf7 :: 0xac :: 0x2c :: 0xb6 :: 0x00 :: RB_cX4_accept_5
def RB_cX4_accept_3 : List UInt8 := 0x00 :: 0x18 :: 0x2c :: 0xb4 :: 0x00 :: 0x82 :: 0xb6 :: 0x00 :: 0x85 :: 0x42 :: 0x21 :: 0x14 :: 0x00 :: 0x89 :: 0x94 :: 0x9b :: RB_cX4_accept_4
def RB_cX4_accept_2 : List UInt8 := 0xac :: 0x2a :: 0xb4 :: 0x00 :: 0x0d :: 0x2a :: 0xb4 :: 0x00 :: 0x18 :: 0xb4 :: 0x00 :: 0x7c :: 0x32 :: 0x4d :: 0x2a :: 0xb4 :: RB_cX4_accept_3
def RB_cX4_accept_1 : List UInt8 := 0x6c :: 0x99 :: 0x00 :: 0x0d :: 0x2a :: 0xb4 :: 0x00 :: 0x18 :: 0xb6 :: 0x00 :: 0x79 :: 0x9a :: 0x00 :: 0x06 :: 0x10 :: 0xfd :: RB_cX4_accept_2
def RB_cX4_accept_0 : List UInt8 := 0x1b :: 0xb8 :: 0x00 :: 0x44 :: 0x9a :: 0x00 :: 0x06 :: 0x10 :: 0xfe :: 0xac :: 0x2a :: 0xb4 :: 0x00 :: 0x18 :: 0xb4 :: 0x00 :: RB_cX4_accept_1
theorem tB_cX4_accept_0 : cX4_accept.data.toList.drop 0 = RB_cX4_accept_0 := by decide +kernel
theorem tB_cX4_accept_1 : cX4_accept.data.toList.drop 16 = RB_cX4_accept_1 := od_st tB_cX4_accept_0 16 rfl
theorem tB_cX4_accept_2 : cX4_accept.data.toList.drop 32 = RB_cX4_accept_2 := od_st tB_cX4_accept_1 16 rfl
theorem tB_cX4_accept_3 : cX4_accept.data.toList.drop 48 = RB_cX4_accept_3 := od_st tB_cX4_accept_2 16 rfl
theorem tB_cX4_accept_4 : cX4_accept.data.toList.drop 64 = RB_cX4_accept_4 := od_st tB_cX4_accept_3 16 rfl
theorem tB_cX4_accept_5 : cX4_accept.data.toList.drop 80 = RB_cX4_accept_5 := od_st tB_cX4_accept_4 16 rfl
theorem tB_cX4_accept_6 : cX4_accept.data.toList.drop 96 = RB_cX4_accept_6 := od_st tB_cX4_accept_5 16 rfl
theorem dX4_accept_0 : decode cX4_accept 0 = .ok (.iload_n 1, 1) := od_27 (od_at tB_cX4_accept_0 0 rfl)
theorem dX4_accept_1 : decode cX4_accept 1 = .ok (.invokestatic 68, 3) := od_184 (od_at tB_cX4_accept_0 1 rfl) (od_at tB_cX4_accept_0 2 rfl) (od_at tB_cX4_accept_0 3 rfl) rfl
theorem dX4_accept_4 : decode cX4_accept 4 = .ok (.ifCond .ne 6, 3) := od_154 (od_at tB_cX4_accept_0 4 rfl) (od_at tB_cX4_accept_0 5 rfl) (od_at tB_cX4_accept_0 6 rfl) (by decide +kernel)
theorem dX4_accept_7 : decode cX4_accept 7 = .ok (.bipush (-2), 2) := od_16 (od_at tB_cX4_accept_0 7 rfl) (od_at tB_cX4_accept_0 8 rfl) (by decide +kernel)
theorem dX4_accept_9 : decode cX4_accept 9 = .ok (.ireturn, 1) := od_172 (od_at tB_cX4_accept_0 9 rfl)
theorem dX4_accept_10 : decode cX4_accept 10 = .ok (.aload_n 0, 1) := od_42 (od_at tB_cX4_accept_0 10 rfl)
theorem dX4_accept_11 : decode cX4_accept 11 = .ok (.getfield 24, 3) := od_180 (od_at tB_cX4_accept_0 11 rfl) (od_at tB_cX4_accept_0 12 rfl) (od_at tB_cX4_accept_0 13 rfl) rfl
theorem dX4_accept_14 : decode cX4_accept 14 = .ok (.getfield 108, 3) := od_180 (od_at tB_cX4_accept_0 14 rfl) (od_at tB_cX4_accept_0 15 rfl) (od_at tB_cX4_accept_0 16 rfl) rfl
theorem dX4_accept_17 : decode cX4_accept 17 = .ok (.ifCond .eq 13, 3) := od_153 (od_at tB_cX4_accept_1 1 rfl) (od_at tB_cX4_accept_1 2 rfl) (od_at tB_cX4_accept_1 3 rfl) (by decide +kernel)
theorem dX4_accept_20 : decode cX4_accept 20 = .ok (.aload_n 0, 1) := od_42 (od_at tB_cX4_accept_1 4 rfl)
theorem dX4_accept_21 : decode cX4_accept 21 = .ok (.getfield 24, 3) := od_180 (od_at tB_cX4_accept_1 5 rfl) (od_at tB_cX4_accept_1 6 rfl) (od_at tB_cX4_accept_1 7 rfl) rfl
theorem dX4_accept_24 : decode cX4_accept 24 = .ok (.invokevirtual 121, 3) := od_182 (od_at tB_cX4_accept_1 8 rfl) (od_at tB_cX4_accept_1 9 rfl) (od_at tB_cX4_accept_1 10 rfl) rfl
theorem dX4_accept_27 : decode cX4_accept 27 = .ok (.ifCond .ne 6, 3) := od_154 (od_at tB_cX4_accept_1 11 rfl) (od_at tB_cX4_accept_1 12 rfl) (od_at tB_cX4_accept_1 13 rfl) (by decide +kernel)
theorem dX4_accept_30 : decode cX4_accept 30 = .ok (.bipush (-3), 2) := od_16 (od_at tB_cX4_accept_1 14 rfl) (od_at tB_cX4_accept_1 15 rfl) (by decide +kernel)
theorem dX4_accept_32 : decode cX4_accept 32 = .ok (.ireturn, 1) := od_172 (od_at tB_cX4_accept_2 0 rfl)
theorem dX4_accept_33 : decode cX4_accept 33 = .ok (.aload_n 0, 1) := od_42 (od_at tB_cX4_accept_2 1 rfl)
theorem dX4_accept_34 : decode cX4_accept 34 = .ok (.getfield 13, 3) := od_180 (od_at tB_cX4_accept_2 2 rfl) (od_at tB_cX4_accept_2 3 rfl) (od_at tB_cX4_accept_2 4 rfl) rfl
theorem dX4_accept_37 : decode cX4_accept 37 = .ok (.aload_n 0, 1) := od_42 (od_at tB_cX4_accept_2 5 rfl)
theorem dX4_accept_38 : decode cX4_accept 38 = .ok (.getfield 24, 3) := od_180 (od_at tB_cX4_accept_2 6 rfl) (od_at tB_cX4_accept_2 7 rfl) (od_at tB_cX4_accept_2 8 rfl) rfl
theorem dX4_accept_41 : decode cX4_accept 41 = .ok (.getfield 124, 3) := od_180 (od_at tB_cX4_accept_2 9 rfl) (od_at tB_cX4_accept_2 10 rfl) (od_at tB_cX4_accept_2 11 rfl) rfl
theorem dX4_accept_44 : decode cX4_accept 44 = .ok (.aaload, 1) := od_50 (od_at tB_cX4_accept_2 12 rfl)
theorem dX4_accept_45 : decode cX4_accept 45 = .ok (.astore_n 2, 1) := od_77 (od_at tB_cX4_accept_2 13 rfl)
theorem dX4_accept_46 : decode cX4_accept 46 = .ok (.aload_n 0, 1) := od_42 (od_at tB_cX4_accept_2 14 rfl)
theorem dX4_accept_47 : decode cX4_accept 47 = .ok (.getfield 24, 3) := od_180 (od_at tB_cX4_accept_2 15 rfl) (od_at tB_cX4_accept_2 16 rfl) (od_at tB_cX4_accept_2 17 rfl) rfl
theorem dX4_accept_50 : decode cX4_accept 50 = .ok (.aload_n 2, 1) := od_44 (od_at tB_cX4_accept_3 2 rfl)
theorem dX4_accept_51 : decode cX4_accept 51 = .ok (.getfield 130, 3) := od_180 (od_at tB_cX4_accept_3 3 rfl) (od_at tB_cX4_accept_3 4 rfl) (od_at tB_cX4_accept_3 5 rfl) rfl
theorem dX4_accept_54 : decode cX4_accept 54 = .ok (.invokevirtual 133, 3) := od_182 (od_at tB_cX4_accept_3 6 rfl) (od_at tB_cX4_accept_3 7 rfl) (od_at tB_cX4_accept_3 8 rfl) rfl
theorem dX4_accept_57 : decode cX4_accept 57 = .ok (.lstore_n 3, 1) := od_66 (od_at tB_cX4_accept_3 9 rfl)
theorem dX4_accept_58 : decode cX4_accept 58 = .ok (.lload_n 3, 1) := od_33 (od_at tB_cX4_accept_3 10 rfl)
theorem dX4_accept_59 : decode cX4_accept 59 = .ok (.ldc2_w 137, 3) := od_20 (od_at tB_cX4_accept_3 11 rfl) (od_at tB_cX4_accept_3 12 rfl) (od_at tB_cX4_accept_3 13 rfl) rfl
theorem dX4_accept_62 : decode cX4_accept 62 = .ok (.lcmp, 1) := od_148 (od_at tB_cX4_accept_3 14 rfl)
theorem dX4_accept_63 : decode cX4_accept 63 = .ok (.ifCond .lt 11, 3) := od_155 (od_at tB_cX4_accept_3 15 rfl) (od_at tB_cX4_accept_3 16 rfl) (od_at tB_cX4_accept_3 17 rfl) (by decide +kernel)
theorem dX4_accept_66 : decode cX4_accept 66 = .ok (.lload_n 3, 1) := od_33 (od_at tB_cX4_accept_4 2 rfl)
theorem dX4_accept_67 : decode cX4_accept 67 = .ok (.ldc2_w 139, 3) := od_20 (od_at tB_cX4_accept_4 3 rfl) (od_at tB_cX4_accept_4 4 rfl) (od_at tB_cX4_accept_4 5 rfl) rfl
theorem dX4_accept_70 : decode cX4_accept 70 = .ok (.lcmp, 1) := od_148 (od_at tB_cX4_accept_4 6 rfl)
theorem dX4_accept_71 : decode cX4_accept 71 = .ok (.ifCond .le 6, 3) := od_158 (od_at tB_cX4_accept_4 7 rfl) (od_at tB_cX4_accept_4 8 rfl) (od_at tB_cX4_accept_4 9 rfl) (by decide +kernel)
theorem dX4_accept_74 : decode cX4_accept 74 = .ok (.bipush (-9), 2) := od_16 (od_at tB_cX4_accept_4 10 rfl) (od_at tB_cX4_accept_4 11 rfl) (by decide +kernel)
theorem dX4_accept_76 : decode cX4_accept 76 = .ok (.ireturn, 1) := od_172 (od_at tB_cX4_accept_4 12 rfl)
theorem dX4_accept_77 : decode cX4_accept 77 = .ok (.aload_n 2, 1) := od_44 (od_at tB_cX4_accept_4 13 rfl)
theorem dX4_accept_78 : decode cX4_accept 78 = .ok (.invokevirtual 73, 3) := od_182 (od_at tB_cX4_accept_4 14 rfl) (od_at tB_cX4_accept_4 15 rfl) (od_at tB_cX4_accept_4 16 rfl) rfl
theorem dX4_accept_81 : decode cX4_accept 81 = .ok (.ifCond .eq 6, 3) := od_153 (od_at tB_cX4_accept_5 1 rfl) (od_at tB_cX4_accept_5 2 rfl) (od_at tB_cX4_accept_5 3 rfl) (by decide +kernel)
theorem dX4_accept_84 : decode cX4_accept 84 = .ok (.bipush (-4), 2) := od_16 (od_at tB_cX4_accept_5 4 rfl) (od_at tB_cX4_accept_5 5 rfl) (by decide +kernel)
theorem dX4_accept_86 : decode cX4_accept 86 = .ok (.ireturn, 1) := od_172 (od_at tB_cX4_accept_5 6 rfl)
theorem dX4_accept_87 : decode cX4_accept 87 = .ok (.aload_n 2, 1) := od_44 (od_at tB_cX4_accept_5 7 rfl)
theorem dX4_accept_88 : decode cX4_accept 88 = .ok (.aload_n 0, 1) := od_42 (od_at tB_cX4_accept_5 8 rfl)
theorem dX4_accept_89 : decode cX4_accept 89 = .ok (.getfield 24, 3) := od_180 (od_at tB_cX4_accept_5 9 rfl) (od_at tB_cX4_accept_5 10 rfl) (od_at tB_cX4_accept_5 11 rfl) rfl
theorem dX4_accept_92 : decode cX4_accept 92 = .ok (.getfield 127, 3) := od_180 (od_at tB_cX4_accept_5 12 rfl) (od_at tB_cX4_accept_5 13 rfl) (od_at tB_cX4_accept_5 14 rfl) rfl
theorem dX4_accept_95 : decode cX4_accept 95 = .ok (.iload_n 1, 1) := od_27 (od_at tB_cX4_accept_5 15 rfl)
theorem dX4_accept_96 : decode cX4_accept 96 = .ok (.lload_n 3, 1) := od_33 (od_at tB_cX4_accept_6 0 rfl)
theorem dX4_accept_97 : decode cX4_accept 97 = .ok (.l2i, 1) := od_136 (od_at tB_cX4_accept_6 1 rfl)
theorem dX4_accept_98 : decode cX4_accept 98 = .ok (.invokevirtual 77, 3) := od_182 (od_at tB_cX4_accept_6 2 rfl) (od_at tB_cX4_accept_6 3 rfl) (od_at tB_cX4_accept_6 4 rfl) rfl
theorem dX4_accept_101 : decode cX4_accept 101 = .ok (.aload_n 0, 1) := od_42 (od_at tB_cX4_accept_6 5 rfl)
theorem dX4_accept_102 : decode cX4_accept 102 = .ok (.getfield 24, 3) := od_180 (od_at tB_cX4_accept_6 6 rfl) (od_at tB_cX4_accept_6 7 rfl) (od_at tB_cX4_accept_6 8 rfl) rfl
theorem dX4_accept_105 : decode cX4_accept 105 = .ok (.iconst 0, 1) := od_3 (od_at tB_cX4_accept_6 9 rfl)
theorem dX4_accept_106 : decode cX4_accept 106 = .ok (.putfield 108, 3) := od_181 (od_at tB_cX4_accept_6 10 rfl) (od_at tB_cX4_accept_6 11 rfl) (od_at tB_cX4_accept_6 12 rfl) rfl
theorem dX4_accept_109 : decode cX4_accept 109 = .ok (.lload_n 3, 1) := od_33 (od_at tB_cX4_accept_6 13 rfl)
theorem dX4_accept_110 : decode cX4_accept 110 = .ok (.l2i, 1) := od_136 (od_at tB_cX4_accept_6 14 rfl)
theorem dX4_accept_111 : decode cX4_accept 111 = .ok (.ireturn, 1) := od_172 (od_at tB_cX4_accept_6 15 rfl)
def RB_cX4_ticket_5 : List UInt8 := 0xb6 :: 0x00 :: 0x54 :: 0xb7 :: 0x00 :: 0x91 :: 0xb6 :: 0x00 :: 0x94 :: 0x2a :: 0xb4 :: 0x00 :: 0x22 :: 0x04 :: 0x64 :: 0xac :: []
def RB_cX4_ticket_4 : List UInt8 := 0x1c :: 0x59 :: 0x1b :: 0x1c :: 0x1d :: 0x15 :: 0x04 :: 0x2a :: 0xb4 :: 0x00 :: 0x0d :: 0x1b :: 0x32 :: 0x15 :: 0x04 :: 0x1c :: RB_cX4_ticket_5
def RB_cX4_ticket_3 : List UInt8 := 0xac :: 0x2a :: 0xb4 :: 0x00 :: 0x22 :: 0x10 :: 0x28 :: 0xa1 :: 0x00 :: 0x06 :: 0x10 :: 0xfc :: 0xac :: 0x2a :: 0xbb :: 0x00 :: RB_cX4_ticket_4
def RB_cX4_ticket_2 : List UInt8 := 0x9a :: 0x00 :: 0x06 :: 0x10 :: 0xfe :: 0xac :: 0x2a :: 0x1c :: 0xb6 :: 0x00 :: 0x8e :: 0x99 :: 0x00 :: 0x06 :: 0x10 :: 0xfd :: RB_cX4_ticket_3
def RB_cX4_ticket_1 : List UInt8 := 0x15 :: 0x1d :: 0x03 :: 0x12 :: 0x8d :: 0xb8 :: 0x00 :: 0x36 :: 0x99 :: 0x00 :: 0x0b :: 0x15 :: 0x04 :: 0xb8 :: 0x00 :: 0x41 :: RB_cX4_ticket_2
def RB_cX4_ticket_0 : List UInt8 := 0x2a :: 0x1b :: 0xb6 :: 0x00 :: 0x3d :: 0x9a :: 0x00 :: 0x05 :: 0x02 :: 0xac :: 0x1c :: 0xb8 :: 0x00 :: 0x44 :: 0x99 :: 0x00 :: RB_cX4_ticket_1
theorem tB_cX4_ticket_0 : cX4_ticket.data.toList.drop 0 = RB_cX4_ticket_0 := by decide +kernel
theorem tB_cX4_ticket_1 : cX4_ticket.data.toList.drop 16 = RB_cX4_ticket_1 := od_st tB_cX4_ticket_0 16 rfl
theorem tB_cX4_ticket_2 : cX4_ticket.data.toList.drop 32 = RB_cX4_ticket_2 := od_st tB_cX4_ticket_1 16 rfl
theorem tB_cX4_ticket_3 : cX4_ticket.data.toList.drop 48 = RB_cX4_ticket_3 := od_st tB_cX4_ticket_2 16 rfl
theorem tB_cX4_ticket_4 : cX4_ticket.data.toList.drop 64 = RB_cX4_ticket_4 := od_st tB_cX4_ticket_3 16 rfl
theorem tB_cX4_ticket_5 : cX4_ticket.data.toList.drop 80 = RB_cX4_ticket_5 := od_st tB_cX4_ticket_4 16 rfl
theorem dX4_ticket_0 : decode cX4_ticket 0 = .ok (.aload_n 0, 1) := od_42 (od_at tB_cX4_ticket_0 0 rfl)
theorem dX4_ticket_1 : decode cX4_ticket 1 = .ok (.iload_n 1, 1) := od_27 (od_at tB_cX4_ticket_0 1 rfl)
theorem dX4_ticket_2 : decode cX4_ticket 2 = .ok (.invokevirtual 61, 3) := od_182 (od_at tB_cX4_ticket_0 2 rfl) (od_at tB_cX4_ticket_0 3 rfl) (od_at tB_cX4_ticket_0 4 rfl) rfl
theorem dX4_ticket_5 : decode cX4_ticket 5 = .ok (.ifCond .ne 5, 3) := od_154 (od_at tB_cX4_ticket_0 5 rfl) (od_at tB_cX4_ticket_0 6 rfl) (od_at tB_cX4_ticket_0 7 rfl) (by decide +kernel)
theorem dX4_ticket_8 : decode cX4_ticket 8 = .ok (.iconst (-1), 1) := od_2 (od_at tB_cX4_ticket_0 8 rfl)
theorem dX4_ticket_9 : decode cX4_ticket 9 = .ok (.ireturn, 1) := od_172 (od_at tB_cX4_ticket_0 9 rfl)
theorem dX4_ticket_10 : decode cX4_ticket 10 = .ok (.iload_n 2, 1) := od_28 (od_at tB_cX4_ticket_0 10 rfl)
theorem dX4_ticket_11 : decode cX4_ticket 11 = .ok (.invokestatic 68, 3) := od_184 (od_at tB_cX4_ticket_0 11 rfl) (od_at tB_cX4_ticket_0 12 rfl) (od_at tB_cX4_ticket_0 13 rfl) rfl
theorem dX4_ticket_14 : decode cX4_ticket 14 = .ok (.ifCond .eq 21, 3) := od_153 (od_at tB_cX4_ticket_0 14 rfl) (od_at tB_cX4_ticket_0 15 rfl) (od_at tB_cX4_ticket_0 16 rfl) (by decide +kernel)
theorem dX4_ticket_17 : decode cX4_ticket 17 = .ok (.iload_n 3, 1) := od_29 (od_at tB_cX4_ticket_1 1 rfl)
theorem dX4_ticket_18 : decode cX4_ticket 18 = .ok (.iconst 0, 1) := od_3 (od_at tB_cX4_ticket_1 2 rfl)
theorem dX4_ticket_19 : decode cX4_ticket 19 = .ok (.ldc 141, 2) := od_18 (od_at tB_cX4_ticket_1 3 rfl) (od_at tB_cX4_ticket_1 4 rfl) rfl
theorem dX4_ticket_21 : decode cX4_ticket 21 = .ok (.invokestatic 54, 3) := od_184 (od_at tB_cX4_ticket_1 5 rfl) (od_at tB_cX4_ticket_1 6 rfl) (od_at tB_cX4_ticket_1 7 rfl) rfl
theorem dX4_ticket_24 : decode cX4_ticket 24 = .ok (.ifCond .eq 11, 3) := od_153 (od_at tB_cX4_ticket_1 8 rfl) (od_at tB_cX4_ticket_1 9 rfl) (od_at tB_cX4_ticket_1 10 rfl) (by decide +kernel)
theorem dX4_ticket_27 : decode cX4_ticket 27 = .ok (.iload 4, 2) := od_21 (od_at tB_cX4_ticket_1 11 rfl) (od_at tB_cX4_ticket_1 12 rfl) rfl
theorem dX4_ticket_29 : decode cX4_ticket 29 = .ok (.invokestatic 65, 3) := od_184 (od_at tB_cX4_ticket_1 13 rfl) (od_at tB_cX4_ticket_1 14 rfl) (od_at tB_cX4_ticket_1 15 rfl) rfl
theorem dX4_ticket_32 : decode cX4_ticket 32 = .ok (.ifCond .ne 6, 3) := od_154 (od_at tB_cX4_ticket_2 0 rfl) (od_at tB_cX4_ticket_2 1 rfl) (od_at tB_cX4_ticket_2 2 rfl) (by decide +kernel)
theorem dX4_ticket_35 : decode cX4_ticket 35 = .ok (.bipush (-2), 2) := od_16 (od_at tB_cX4_ticket_2 3 rfl) (od_at tB_cX4_ticket_2 4 rfl) (by decide +kernel)
theorem dX4_ticket_37 : decode cX4_ticket 37 = .ok (.ireturn, 1) := od_172 (od_at tB_cX4_ticket_2 5 rfl)
theorem dX4_ticket_38 : decode cX4_ticket 38 = .ok (.aload_n 0, 1) := od_42 (od_at tB_cX4_ticket_2 6 rfl)
theorem dX4_ticket_39 : decode cX4_ticket 39 = .ok (.iload_n 2, 1) := od_28 (od_at tB_cX4_ticket_2 7 rfl)
theorem dX4_ticket_40 : decode cX4_ticket 40 = .ok (.invokevirtual 142, 3) := od_182 (od_at tB_cX4_ticket_2 8 rfl) (od_at tB_cX4_ticket_2 9 rfl) (od_at tB_cX4_ticket_2 10 rfl) rfl
theorem dX4_ticket_43 : decode cX4_ticket 43 = .ok (.ifCond .eq 6, 3) := od_153 (od_at tB_cX4_ticket_2 11 rfl) (od_at tB_cX4_ticket_2 12 rfl) (od_at tB_cX4_ticket_2 13 rfl) (by decide +kernel)
theorem dX4_ticket_46 : decode cX4_ticket 46 = .ok (.bipush (-3), 2) := od_16 (od_at tB_cX4_ticket_2 14 rfl) (od_at tB_cX4_ticket_2 15 rfl) (by decide +kernel)
theorem dX4_ticket_48 : decode cX4_ticket 48 = .ok (.ireturn, 1) := od_172 (od_at tB_cX4_ticket_3 0 rfl)
theorem dX4_ticket_49 : decode cX4_ticket 49 = .ok (.aload_n 0, 1) := od_42 (od_at tB_cX4_ticket_3 1 rfl)
theorem dX4_ticket_50 : decode cX4_ticket 50 = .ok (.getfield 34, 3) := od_180 (od_at tB_cX4_ticket_3 2 rfl) (od_at tB_cX4_ticket_3 3 rfl) (od_at tB_cX4_ticket_3 4 rfl) rfl
theorem dX4_ticket_53 : decode cX4_ticket 53 = .ok (.bipush 40, 2) := od_16 (od_at tB_cX4_ticket_3 5 rfl) (od_at tB_cX4_ticket_3 6 rfl) (by decide +kernel)
theorem dX4_ticket_55 : decode cX4_ticket 55 = .ok (.if_icmp .lt 6, 3) := od_161 (od_at tB_cX4_ticket_3 7 rfl) (od_at tB_cX4_ticket_3 8 rfl) (od_at tB_cX4_ticket_3 9 rfl) (by decide +kernel)
theorem dX4_ticket_58 : decode cX4_ticket 58 = .ok (.bipush (-4), 2) := od_16 (od_at tB_cX4_ticket_3 10 rfl) (od_at tB_cX4_ticket_3 11 rfl) (by decide +kernel)
theorem dX4_ticket_60 : decode cX4_ticket 60 = .ok (.ireturn, 1) := od_172 (od_at tB_cX4_ticket_3 12 rfl)
theorem dX4_ticket_61 : decode cX4_ticket 61 = .ok (.aload_n 0, 1) := od_42 (od_at tB_cX4_ticket_3 13 rfl)
theorem dX4_ticket_62 : decode cX4_ticket 62 = .ok (.new 28, 3) := od_187 (od_at tB_cX4_ticket_3 14 rfl) (od_at tB_cX4_ticket_3 15 rfl) (od_at tB_cX4_ticket_3 16 rfl) rfl
theorem dX4_ticket_65 : decode cX4_ticket 65 = .ok (.dup, 1) := od_89 (od_at tB_cX4_ticket_4 1 rfl)
theorem dX4_ticket_66 : decode cX4_ticket 66 = .ok (.iload_n 1, 1) := od_27 (od_at tB_cX4_ticket_4 2 rfl)
theorem dX4_ticket_67 : decode cX4_ticket 67 = .ok (.iload_n 2, 1) := od_28 (od_at tB_cX4_ticket_4 3 rfl)
theorem dX4_ticket_68 : decode cX4_ticket 68 = .ok (.iload_n 3, 1) := od_29 (od_at tB_cX4_ticket_4 4 rfl)
theorem dX4_ticket_69 : decode cX4_ticket 69 = .ok (.iload 4, 2) := od_21 (od_at tB_cX4_ticket_4 5 rfl) (od_at tB_cX4_ticket_4 6 rfl) rfl
theorem dX4_ticket_71 : decode cX4_ticket 71 = .ok (.aload_n 0, 1) := od_42 (od_at tB_cX4_ticket_4 7 rfl)
theorem dX4_ticket_72 : decode cX4_ticket 72 = .ok (.getfield 13, 3) := od_180 (od_at tB_cX4_ticket_4 8 rfl) (od_at tB_cX4_ticket_4 9 rfl) (od_at tB_cX4_ticket_4 10 rfl) rfl
theorem dX4_ticket_75 : decode cX4_ticket 75 = .ok (.iload_n 1, 1) := od_27 (od_at tB_cX4_ticket_4 11 rfl)
theorem dX4_ticket_76 : decode cX4_ticket 76 = .ok (.aaload, 1) := od_50 (od_at tB_cX4_ticket_4 12 rfl)
theorem dX4_ticket_77 : decode cX4_ticket 77 = .ok (.iload 4, 2) := od_21 (od_at tB_cX4_ticket_4 13 rfl) (od_at tB_cX4_ticket_4 14 rfl) rfl
theorem dX4_ticket_79 : decode cX4_ticket 79 = .ok (.iload_n 2, 1) := od_28 (od_at tB_cX4_ticket_4 15 rfl)
theorem dX4_ticket_80 : decode cX4_ticket 80 = .ok (.invokevirtual 84, 3) := od_182 (od_at tB_cX4_ticket_5 0 rfl) (od_at tB_cX4_ticket_5 1 rfl) (od_at tB_cX4_ticket_5 2 rfl) rfl
theorem dX4_ticket_83 : decode cX4_ticket 83 = .ok (.invokespecial 145, 3) := od_183 (od_at tB_cX4_ticket_5 3 rfl) (od_at tB_cX4_ticket_5 4 rfl) (od_at tB_cX4_ticket_5 5 rfl) rfl
theorem dX4_ticket_86 : decode cX4_ticket 86 = .ok (.invokevirtual 148, 3) := od_182 (od_at tB_cX4_ticket_5 6 rfl) (od_at tB_cX4_ticket_5 7 rfl) (od_at tB_cX4_ticket_5 8 rfl) rfl
theorem dX4_ticket_89 : decode cX4_ticket 89 = .ok (.aload_n 0, 1) := od_42 (od_at tB_cX4_ticket_5 9 rfl)
theorem dX4_ticket_90 : decode cX4_ticket 90 = .ok (.getfield 34, 3) := od_180 (od_at tB_cX4_ticket_5 10 rfl) (od_at tB_cX4_ticket_5 11 rfl) (od_at tB_cX4_ticket_5 12 rfl) rfl
theorem dX4_ticket_93 : decode cX4_ticket 93 = .ok (.iconst 1, 1) := od_4 (od_at tB_cX4_ticket_5 13 rfl)
theorem dX4_ticket_94 : decode cX4_ticket 94 = .ok (.isub, 1) := od_100 (od_at tB_cX4_ticket_5 14 rfl)
theorem dX4_ticket_95 : decode cX4_ticket 95 = .ok (.ireturn, 1) := od_172 (od_at tB_cX4_ticket_5 15 rfl)
def RB_cX4_right_4 : List UInt8 := 0xfc :: 0xac :: 0x2a :: 0x1b :: 0x04 :: 0x1c :: 0xb6 :: 0x00 :: 0xa1 :: 0x2a :: 0xb4 :: 0x00 :: 0x22 :: 0x04 :: 0x64 :: 0xac :: []
def RB_cX4_right_3 : List UInt8 := 0x99 :: 0x00 :: 0x06 :: 0x10 :: 0xfd :: 0xac :: 0x2a :: 0xb4 :: 0x00 :: 0x22 :: 0x10 :: 0x28 :: 0xa1 :: 0x00 :: 0x06 :: 0x10 :: RB_cX4_right_4
def RB_cX4_right_2 : List UInt8 := 0x9a :: 0x00 :: 0x13 :: 0x2a :: 0x2a :: 0xb4 :: 0x00 :: 0x1e :: 0x1b :: 0x32 :: 0xb4 :: 0x00 :: 0x9e :: 0xb6 :: 0x00 :: 0x8e :: RB_cX4_right_3
def RB_cX4_right_1 : List UInt8 := 0x36 :: 0x9a :: 0x00 :: 0x06 :: 0x10 :: 0xfe :: 0xac :: 0x2a :: 0xb4 :: 0x00 :: 0x1e :: 0x1b :: 0x32 :: 0xb6 :: 0x00 :: 0x9b :: RB_cX4_right_2
def RB_cX4_right_0 : List UInt8 := 0x2a :: 0x1b :: 0xb6 :: 0x00 :: 0x98 :: 0x9a :: 0x00 :: 0x05 :: 0x02 :: 0xac :: 0x1c :: 0x03 :: 0x12 :: 0x8d :: 0xb8 :: 0x00 :: RB_cX4_right_1
theorem tB_cX4_right_0 : cX4_right.data.toList.drop 0 = RB_cX4_right_0 := by decide +kernel
theorem tB_cX4_right_1 : cX4_right.data.toList.drop 16 = RB_cX4_right_1 := od_st tB_cX4_right_0 16 rfl
theorem tB_cX4_right_2 : cX4_right.data.toList.drop 32 = RB_cX4_right_2 := od_st tB_cX4_right_1 16 rfl
theorem tB_cX4_right_3 : cX4_right.data.toList.drop 48 = RB_cX4_right_3 := od_st tB_cX4_right_2 16 rfl
theorem tB_cX4_right_4 : cX4_right.data.toList.drop 64 = RB_cX4_right_4 := od_st tB_cX4_right_3 16 rfl
theorem dX4_right_0 : decode cX4_right 0 = .ok (.aload_n 0, 1) := od_42 (od_at tB_cX4_right_0 0 rfl)
theorem dX4_right_1 : decode cX4_right 1 = .ok (.iload_n 1, 1) := od_27 (od_at tB_cX4_right_0 1 rfl)
theorem dX4_right_2 : decode cX4_right 2 = .ok (.invokevirtual 152, 3) := od_182 (od_at tB_cX4_right_0 2 rfl) (od_at tB_cX4_right_0 3 rfl) (od_at tB_cX4_right_0 4 rfl) rfl
theorem dX4_right_5 : decode cX4_right 5 = .ok (.ifCond .ne 5, 3) := od_154 (od_at tB_cX4_right_0 5 rfl) (od_at tB_cX4_right_0 6 rfl) (od_at tB_cX4_right_0 7 rfl) (by decide +kernel)
theorem dX4_right_8 : decode cX4_right 8 = .ok (.iconst (-1), 1) := od_2 (od_at tB_cX4_right_0 8 rfl)
theorem dX4_right_9 : decode cX4_right 9 = .ok (.ireturn, 1) := od_172 (od_at tB_cX4_right_0 9 rfl)
theorem dX4_right_10 : decode cX4_right 10 = .ok (.iload_n 2, 1) := od_28 (od_at tB_cX4_right_0 10 rfl)
theorem dX4_right_11 : decode cX4_right 11 = .ok (.iconst 0, 1) := od_3 (od_at tB_cX4_right_0 11 rfl)
theorem dX4_right_12 : decode cX4_right 12 = .ok (.ldc 141, 2) := od_18 (od_at tB_cX4_right_0 12 rfl) (od_at tB_cX4_right_0 13 rfl) rfl
theorem dX4_right_14 : decode cX4_right 14 = .ok (.invokestatic 54, 3) := od_184 (od_at tB_cX4_right_0 14 rfl) (od_at tB_cX4_right_0 15 rfl) (od_at tB_cX4_right_0 16 rfl) rfl
theorem dX4_right_17 : decode cX4_right 17 = .ok (.ifCond .ne 6, 3) := od_154 (od_at tB_cX4_right_1 1 rfl) (od_at tB_cX4_right_1 2 rfl) (od_at tB_cX4_right_1 3 rfl) (by decide +kernel)
theorem dX4_right_20 : decode cX4_right 20 = .ok (.bipush (-2), 2) := od_16 (od_at tB_cX4_right_1 4 rfl) (od_at tB_cX4_right_1 5 rfl) (by decide +kernel)
theorem dX4_right_22 : decode cX4_right 22 = .ok (.ireturn, 1) := od_172 (od_at tB_cX4_right_1 6 rfl)
theorem dX4_right_23 : decode cX4_right 23 = .ok (.aload_n 0, 1) := od_42 (od_at tB_cX4_right_1 7 rfl)
theorem dX4_right_24 : decode cX4_right 24 = .ok (.getfield 30, 3) := od_180 (od_at tB_cX4_right_1 8 rfl) (od_at tB_cX4_right_1 9 rfl) (od_at tB_cX4_right_1 10 rfl) rfl
theorem dX4_right_27 : decode cX4_right 27 = .ok (.iload_n 1, 1) := od_27 (od_at tB_cX4_right_1 11 rfl)
theorem dX4_right_28 : decode cX4_right 28 = .ok (.aaload, 1) := od_50 (od_at tB_cX4_right_1 12 rfl)
theorem dX4_right_29 : decode cX4_right 29 = .ok (.invokevirtual 155, 3) := od_182 (od_at tB_cX4_right_1 13 rfl) (od_at tB_cX4_right_1 14 rfl) (od_at tB_cX4_right_1 15 rfl) rfl
theorem dX4_right_32 : decode cX4_right 32 = .ok (.ifCond .ne 19, 3) := od_154 (od_at tB_cX4_right_2 0 rfl) (od_at tB_cX4_right_2 1 rfl) (od_at tB_cX4_right_2 2 rfl) (by decide +kernel)
theorem dX4_right_35 : decode cX4_right 35 = .ok (.aload_n 0, 1) := od_42 (od_at tB_cX4_right_2 3 rfl)
theorem dX4_right_36 : decode cX4_right 36 = .ok (.aload_n 0, 1) := od_42 (od_at tB_cX4_right_2 4 rfl)
theorem dX4_right_37 : decode cX4_right 37 = .ok (.getfield 30, 3) := od_180 (od_at tB_cX4_right_2 5 rfl) (od_at tB_cX4_right_2 6 rfl) (od_at tB_cX4_right_2 7 rfl) rfl
theorem dX4_right_40 : decode cX4_right 40 = .ok (.iload_n 1, 1) := od_27 (od_at tB_cX4_right_2 8 rfl)
theorem dX4_right_41 : decode cX4_right 41 = .ok (.aaload, 1) := od_50 (od_at tB_cX4_right_2 9 rfl)
theorem dX4_right_42 : decode cX4_right 42 = .ok (.getfield 158, 3) := od_180 (od_at tB_cX4_right_2 10 rfl) (od_at tB_cX4_right_2 11 rfl) (od_at tB_cX4_right_2 12 rfl) rfl
theorem dX4_right_45 : decode cX4_right 45 = .ok (.invokevirtual 142, 3) := od_182 (od_at tB_cX4_right_2 13 rfl) (od_at tB_cX4_right_2 14 rfl) (od_at tB_cX4_right_2 15 rfl) rfl
theorem dX4_right_48 : decode cX4_right 48 = .ok (.ifCond .eq 6, 3) := od_153 (od_at tB_cX4_right_3 0 rfl) (od_at tB_cX4_right_3 1 rfl) (od_at tB_cX4_right_3 2 rfl) (by decide +kernel)
theorem dX4_right_51 : decode cX4_right 51 = .ok (.bipush (-3), 2) := od_16 (od_at tB_cX4_right_3 3 rfl) (od_at tB_cX4_right_3 4 rfl) (by decide +kernel)
theorem dX4_right_53 : decode cX4_right 53 = .ok (.ireturn, 1) := od_172 (od_at tB_cX4_right_3 5 rfl)
theorem dX4_right_54 : decode cX4_right 54 = .ok (.aload_n 0, 1) := od_42 (od_at tB_cX4_right_3 6 rfl)
theorem dX4_right_55 : decode cX4_right 55 = .ok (.getfield 34, 3) := od_180 (od_at tB_cX4_right_3 7 rfl) (od_at tB_cX4_right_3 8 rfl) (od_at tB_cX4_right_3 9 rfl) rfl
theorem dX4_right_58 : decode cX4_right 58 = .ok (.bipush 40, 2) := od_16 (od_at tB_cX4_right_3 10 rfl) (od_at tB_cX4_right_3 11 rfl) (by decide +kernel)
theorem dX4_right_60 : decode cX4_right 60 = .ok (.if_icmp .lt 6, 3) := od_161 (od_at tB_cX4_right_3 12 rfl) (od_at tB_cX4_right_3 13 rfl) (od_at tB_cX4_right_3 14 rfl) (by decide +kernel)
theorem dX4_right_63 : decode cX4_right 63 = .ok (.bipush (-4), 2) := od_16 (od_at tB_cX4_right_3 15 rfl) (od_at tB_cX4_right_3 16 rfl) (by decide +kernel)
theorem dX4_right_65 : decode cX4_right 65 = .ok (.ireturn, 1) := od_172 (od_at tB_cX4_right_4 1 rfl)
theorem dX4_right_66 : decode cX4_right 66 = .ok (.aload_n 0, 1) := od_42 (od_at tB_cX4_right_4 2 rfl)
theorem dX4_right_67 : decode cX4_right 67 = .ok (.iload_n 1, 1) := od_27 (od_at tB_cX4_right_4 3 rfl)
theorem dX4_right_68 : decode cX4_right 68 = .ok (.iconst 1, 1) := od_4 (od_at tB_cX4_right_4 4 rfl)
theorem dX4_right_69 : decode cX4_right 69 = .ok (.iload_n 2, 1) := od_28 (od_at tB_cX4_right_4 5 rfl)
theorem dX4_right_70 : decode cX4_right 70 = .ok (.invokevirtual 161, 3) := od_182 (od_at tB_cX4_right_4 6 rfl) (od_at tB_cX4_right_4 7 rfl) (od_at tB_cX4_right_4 8 rfl) rfl
theorem dX4_right_73 : decode cX4_right 73 = .ok (.aload_n 0, 1) := od_42 (od_at tB_cX4_right_4 9 rfl)
theorem dX4_right_74 : decode cX4_right 74 = .ok (.getfield 34, 3) := od_180 (od_at tB_cX4_right_4 10 rfl) (od_at tB_cX4_right_4 11 rfl) (od_at tB_cX4_right_4 12 rfl) rfl
theorem dX4_right_77 : decode cX4_right 77 = .ok (.iconst 1, 1) := od_4 (od_at tB_cX4_right_4 13 rfl)
theorem dX4_right_78 : decode cX4_right 78 = .ok (.isub, 1) := od_100 (od_at tB_cX4_right_4 14 rfl)
theorem dX4_right_79 : decode cX4_right 79 = .ok (.ireturn, 1) := od_172 (od_at tB_cX4_right_4 15 rfl)
def RB_cX4_remake_9 : List UInt8 := 0xa7 :: 0xff :: 0xd4 :: 0x15 :: 0x05 :: 0xac :: []
def RB_cX4_remake_8 : List UInt8 := 0x2a :: 0xb4 :: 0x00 :: 0x1e :: 0x15 :: 0x06 :: 0x32 :: 0xb4 :: 0x00 :: 0xac :: 0xb6 :: 0x00 :: 0xa1 :: 0x84 :: 0x06 :: 0x01 :: RB_cX4_remake_9
def RB_cX4_remake_7 : List UInt8 := 0x15 :: 0x06 :: 0x32 :: 0x1b :: 0x1c :: 0x1d :: 0xb6 :: 0x00 :: 0xa8 :: 0x99 :: 0x00 :: 0x14 :: 0x2a :: 0x15 :: 0x06 :: 0x05 :: RB_cX4_remake_8
def RB_cX4_remake_6 : List UInt8 := 0xac :: 0x03 :: 0x36 :: 0x06 :: 0x15 :: 0x06 :: 0x15 :: 0x04 :: 0xa2 :: 0x00 :: 0x2b :: 0x2a :: 0x2a :: 0xb4 :: 0x00 :: 0x1e :: RB_cX4_remake_7
def RB_cX4_remake_5 : List UInt8 := 0x01 :: 0xa7 :: 0xff :: 0xdb :: 0x15 :: 0x05 :: 0x10 :: 0x28 :: 0x15 :: 0x04 :: 0x64 :: 0xa4 :: 0x00 :: 0x06 :: 0x10 :: 0xfc :: RB_cX4_remake_6
def RB_cX4_remake_4 : List UInt8 := 0xb6 :: 0x00 :: 0xa8 :: 0x99 :: 0x00 :: 0x07 :: 0x04 :: 0xa7 :: 0x00 :: 0x04 :: 0x03 :: 0x60 :: 0x36 :: 0x05 :: 0x84 :: 0x06 :: RB_cX4_remake_5
def RB_cX4_remake_3 : List UInt8 := 0xa2 :: 0x00 :: 0x24 :: 0x15 :: 0x05 :: 0x2a :: 0x2a :: 0xb4 :: 0x00 :: 0x1e :: 0x15 :: 0x06 :: 0x32 :: 0x1b :: 0x1c :: 0x1d :: RB_cX4_remake_4
def RB_cX4_remake_2 : List UInt8 := 0x2a :: 0xb4 :: 0x00 :: 0x22 :: 0x36 :: 0x04 :: 0x03 :: 0x36 :: 0x05 :: 0x03 :: 0x36 :: 0x06 :: 0x15 :: 0x06 :: 0x15 :: 0x04 :: RB_cX4_remake_3
def RB_cX4_remake_1 : List UInt8 := 0x00 :: 0x06 :: 0x10 :: 0xfe :: 0xac :: 0x2a :: 0x1c :: 0xb6 :: 0x00 :: 0x8e :: 0x99 :: 0x00 :: 0x06 :: 0x10 :: 0xfd :: 0xac :: RB_cX4_remake_2
def RB_cX4_remake_0 : List UInt8 := 0x2a :: 0x1b :: 0xb6 :: 0x00 :: 0x3d :: 0x9a :: 0x00 :: 0x05 :: 0x02 :: 0xac :: 0x1c :: 0x1d :: 0xb8 :: 0x00 :: 0xa4 :: 0x9a :: RB_cX4_remake_1
theorem tB_cX4_remake_0 : cX4_remake.data.toList.drop 0 = RB_cX4_remake_0 := by decide +kernel
theorem tB_cX4_remake_1 : cX4_remake.data.toList.drop 16 = RB_cX4_remake_1 := od_st tB_cX4_remake_0 16 rfl
theorem tB_cX4_remake_2 : cX4_remake.data.toList.drop 32 = RB_cX4_remake_2 := od_st tB_cX4_remake_1 16 rfl
theorem tB_cX4_remake_3 : cX4_remake.data.toList.drop 48 = RB_cX4_remake_3 := od_st tB_cX4_remake_2 16 rfl
theorem tB_cX4_remake_4 : cX4_remake.data.toList.drop 64 = RB_cX4_remake_4 := od_st tB_cX4_remake_3 16 rfl
theorem tB_cX4_remake_5 : cX4_remake.data.toList.drop 80 = RB_cX4_remake_5 := od_st tB_cX4_remake_4 16 rfl
theorem tB_cX4_remake_6 : cX4_remake.data.toList.drop 96 = RB_cX4_remake_6 := od_st tB_cX4_remake_5 16 rfl
theorem tB_cX4_remake_7 : cX4_remake.data.toList.drop 112 = RB_cX4_remake_7 := od_st tB_cX4_remake_6 16 rfl
theorem tB_cX4_remake_8 : cX4_remake.data.toList.drop 128 = RB_cX4_remake_8 := od_st tB_cX4_remake_7 16 rfl
theorem tB_cX4_remake_9 : cX4_remake.data.toList.drop 144 = RB_cX4_remake_9 := od_st tB_cX4_remake_8 16 rfl
theorem dX4_remake_0 : decode cX4_remake 0 = .ok (.aload_n 0, 1) := od_42 (od_at tB_cX4_remake_0 0 rfl)
theorem dX4_remake_1 : decode cX4_remake 1 = .ok (.iload_n 1, 1) := od_27 (od_at tB_cX4_remake_0 1 rfl)
theorem dX4_remake_2 : decode cX4_remake 2 = .ok (.invokevirtual 61, 3) := od_182 (od_at tB_cX4_remake_0 2 rfl) (od_at tB_cX4_remake_0 3 rfl) (od_at tB_cX4_remake_0 4 rfl) rfl
theorem dX4_remake_5 : decode cX4_remake 5 = .ok (.ifCond .ne 5, 3) := od_154 (od_at tB_cX4_remake_0 5 rfl) (od_at tB_cX4_remake_0 6 rfl) (od_at tB_cX4_remake_0 7 rfl) (by decide +kernel)
theorem dX4_remake_8 : decode cX4_remake 8 = .ok (.iconst (-1), 1) := od_2 (od_at tB_cX4_remake_0 8 rfl)
theorem dX4_remake_9 : decode cX4_remake 9 = .ok (.ireturn, 1) := od_172 (od_at tB_cX4_remake_0 9 rfl)
theorem dX4_remake_10 : decode cX4_remake 10 = .ok (.iload_n 2, 1) := od_28 (od_at tB_cX4_remake_0 10 rfl)
theorem dX4_remake_11 : decode cX4_remake 11 = .ok (.iload_n 3, 1) := od_29 (od_at tB_cX4_remake_0 11 rfl)
theorem dX4_remake_12 : decode cX4_remake 12 = .ok (.invokestatic 164, 3) := od_184 (od_at tB_cX4_remake_0 12 rfl) (od_at tB_cX4_remake_0 13 rfl) (od_at tB_cX4_remake_0 14 rfl) rfl
theorem dX4_remake_15 : decode cX4_remake 15 = .ok (.ifCond .ne 6, 3) := od_154 (od_at tB_cX4_remake_0 15 rfl) (od_at tB_cX4_remake_0 16 rfl) (od_at tB_cX4_remake_0 17 rfl) (by decide +kernel)
theorem dX4_remake_18 : decode cX4_remake 18 = .ok (.bipush (-2), 2) := od_16 (od_at tB_cX4_remake_1 2 rfl) (od_at tB_cX4_remake_1 3 rfl) (by decide +kernel)
theorem dX4_remake_20 : decode cX4_remake 20 = .ok (.ireturn, 1) := od_172 (od_at tB_cX4_remake_1 4 rfl)
theorem dX4_remake_21 : decode cX4_remake 21 = .ok (.aload_n 0, 1) := od_42 (od_at tB_cX4_remake_1 5 rfl)
theorem dX4_remake_22 : decode cX4_remake 22 = .ok (.iload_n 2, 1) := od_28 (od_at tB_cX4_remake_1 6 rfl)
theorem dX4_remake_23 : decode cX4_remake 23 = .ok (.invokevirtual 142, 3) := od_182 (od_at tB_cX4_remake_1 7 rfl) (od_at tB_cX4_remake_1 8 rfl) (od_at tB_cX4_remake_1 9 rfl) rfl
theorem dX4_remake_26 : decode cX4_remake 26 = .ok (.ifCond .eq 6, 3) := od_153 (od_at tB_cX4_remake_1 10 rfl) (od_at tB_cX4_remake_1 11 rfl) (od_at tB_cX4_remake_1 12 rfl) (by decide +kernel)
theorem dX4_remake_29 : decode cX4_remake 29 = .ok (.bipush (-3), 2) := od_16 (od_at tB_cX4_remake_1 13 rfl) (od_at tB_cX4_remake_1 14 rfl) (by decide +kernel)
theorem dX4_remake_31 : decode cX4_remake 31 = .ok (.ireturn, 1) := od_172 (od_at tB_cX4_remake_1 15 rfl)
theorem dX4_remake_32 : decode cX4_remake 32 = .ok (.aload_n 0, 1) := od_42 (od_at tB_cX4_remake_2 0 rfl)
theorem dX4_remake_33 : decode cX4_remake 33 = .ok (.getfield 34, 3) := od_180 (od_at tB_cX4_remake_2 1 rfl) (od_at tB_cX4_remake_2 2 rfl) (od_at tB_cX4_remake_2 3 rfl) rfl
theorem dX4_remake_36 : decode cX4_remake 36 = .ok (.istore 4, 2) := od_54 (od_at tB_cX4_remake_2 4 rfl) (od_at tB_cX4_remake_2 5 rfl) rfl
theorem dX4_remake_38 : decode cX4_remake 38 = .ok (.iconst 0, 1) := od_3 (od_at tB_cX4_remake_2 6 rfl)
theorem dX4_remake_39 : decode cX4_remake 39 = .ok (.istore 5, 2) := od_54 (od_at tB_cX4_remake_2 7 rfl) (od_at tB_cX4_remake_2 8 rfl) rfl
theorem dX4_remake_41 : decode cX4_remake 41 = .ok (.iconst 0, 1) := od_3 (od_at tB_cX4_remake_2 9 rfl)
theorem dX4_remake_42 : decode cX4_remake 42 = .ok (.istore 6, 2) := od_54 (od_at tB_cX4_remake_2 10 rfl) (od_at tB_cX4_remake_2 11 rfl) rfl
theorem dX4_remake_44 : decode cX4_remake 44 = .ok (.iload 6, 2) := od_21 (od_at tB_cX4_remake_2 12 rfl) (od_at tB_cX4_remake_2 13 rfl) rfl
theorem dX4_remake_46 : decode cX4_remake 46 = .ok (.iload 4, 2) := od_21 (od_at tB_cX4_remake_2 14 rfl) (od_at tB_cX4_remake_2 15 rfl) rfl
theorem dX4_remake_48 : decode cX4_remake 48 = .ok (.if_icmp .ge 36, 3) := od_162 (od_at tB_cX4_remake_3 0 rfl) (od_at tB_cX4_remake_3 1 rfl) (od_at tB_cX4_remake_3 2 rfl) (by decide +kernel)
theorem dX4_remake_51 : decode cX4_remake 51 = .ok (.iload 5, 2) := od_21 (od_at tB_cX4_remake_3 3 rfl) (od_at tB_cX4_remake_3 4 rfl) rfl
theorem dX4_remake_53 : decode cX4_remake 53 = .ok (.aload_n 0, 1) := od_42 (od_at tB_cX4_remake_3 5 rfl)
theorem dX4_remake_54 : decode cX4_remake 54 = .ok (.aload_n 0, 1) := od_42 (od_at tB_cX4_remake_3 6 rfl)
theorem dX4_remake_55 : decode cX4_remake 55 = .ok (.getfield 30, 3) := od_180 (od_at tB_cX4_remake_3 7 rfl) (od_at tB_cX4_remake_3 8 rfl) (od_at tB_cX4_remake_3 9 rfl) rfl
theorem dX4_remake_58 : decode cX4_remake 58 = .ok (.iload 6, 2) := od_21 (od_at tB_cX4_remake_3 10 rfl) (od_at tB_cX4_remake_3 11 rfl) rfl
theorem dX4_remake_60 : decode cX4_remake 60 = .ok (.aaload, 1) := od_50 (od_at tB_cX4_remake_3 12 rfl)
theorem dX4_remake_61 : decode cX4_remake 61 = .ok (.iload_n 1, 1) := od_27 (od_at tB_cX4_remake_3 13 rfl)
theorem dX4_remake_62 : decode cX4_remake 62 = .ok (.iload_n 2, 1) := od_28 (od_at tB_cX4_remake_3 14 rfl)
theorem dX4_remake_63 : decode cX4_remake 63 = .ok (.iload_n 3, 1) := od_29 (od_at tB_cX4_remake_3 15 rfl)
theorem dX4_remake_64 : decode cX4_remake 64 = .ok (.invokevirtual 168, 3) := od_182 (od_at tB_cX4_remake_4 0 rfl) (od_at tB_cX4_remake_4 1 rfl) (od_at tB_cX4_remake_4 2 rfl) rfl
theorem dX4_remake_67 : decode cX4_remake 67 = .ok (.ifCond .eq 7, 3) := od_153 (od_at tB_cX4_remake_4 3 rfl) (od_at tB_cX4_remake_4 4 rfl) (od_at tB_cX4_remake_4 5 rfl) (by decide +kernel)
theorem dX4_remake_70 : decode cX4_remake 70 = .ok (.iconst 1, 1) := od_4 (od_at tB_cX4_remake_4 6 rfl)
theorem dX4_remake_71 : decode cX4_remake 71 = .ok (.goto 4, 3) := od_167 (od_at tB_cX4_remake_4 7 rfl) (od_at tB_cX4_remake_4 8 rfl) (od_at tB_cX4_remake_4 9 rfl) (by decide +kernel)
theorem dX4_remake_74 : decode cX4_remake 74 = .ok (.iconst 0, 1) := od_3 (od_at tB_cX4_remake_4 10 rfl)
theorem dX4_remake_75 : decode cX4_remake 75 = .ok (.iadd, 1) := od_96 (od_at tB_cX4_remake_4 11 rfl)
theorem dX4_remake_76 : decode cX4_remake 76 = .ok (.istore 5, 2) := od_54 (od_at tB_cX4_remake_4 12 rfl) (od_at tB_cX4_remake_4 13 rfl) rfl
theorem dX4_remake_78 : decode cX4_remake 78 = .ok (.iinc 6 1, 3) := od_132 (od_at tB_cX4_remake_4 14 rfl) (od_at tB_cX4_remake_4 15 rfl) (od_at tB_cX4_remake_4 16 rfl) rfl (by decide +kernel)
theorem dX4_remake_81 : decode cX4_remake 81 = .ok (.goto (-37), 3) := od_167 (od_at tB_cX4_remake_5 1 rfl) (od_at tB_cX4_remake_5 2 rfl) (od_at tB_cX4_remake_5 3 rfl) (by decide +kernel)
theorem dX4_remake_84 : decode cX4_remake 84 = .ok (.iload 5, 2) := od_21 (od_at tB_cX4_remake_5 4 rfl) (od_at tB_cX4_remake_5 5 rfl) rfl
theorem dX4_remake_86 : decode cX4_remake 86 = .ok (.bipush 40, 2) := od_16 (od_at tB_cX4_remake_5 6 rfl) (od_at tB_cX4_remake_5 7 rfl) (by decide +kernel)
theorem dX4_remake_88 : decode cX4_remake 88 = .ok (.iload 4, 2) := od_21 (od_at tB_cX4_remake_5 8 rfl) (od_at tB_cX4_remake_5 9 rfl) rfl
theorem dX4_remake_90 : decode cX4_remake 90 = .ok (.isub, 1) := od_100 (od_at tB_cX4_remake_5 10 rfl)
theorem dX4_remake_91 : decode cX4_remake 91 = .ok (.if_icmp .le 6, 3) := od_164 (od_at tB_cX4_remake_5 11 rfl) (od_at tB_cX4_remake_5 12 rfl) (od_at tB_cX4_remake_5 13 rfl) (by decide +kernel)
theorem dX4_remake_94 : decode cX4_remake 94 = .ok (.bipush (-4), 2) := od_16 (od_at tB_cX4_remake_5 14 rfl) (od_at tB_cX4_remake_5 15 rfl) (by decide +kernel)
theorem dX4_remake_96 : decode cX4_remake 96 = .ok (.ireturn, 1) := od_172 (od_at tB_cX4_remake_6 0 rfl)
theorem dX4_remake_97 : decode cX4_remake 97 = .ok (.iconst 0, 1) := od_3 (od_at tB_cX4_remake_6 1 rfl)
theorem dX4_remake_98 : decode cX4_remake 98 = .ok (.istore 6, 2) := od_54 (od_at tB_cX4_remake_6 2 rfl) (od_at tB_cX4_remake_6 3 rfl) rfl
theorem dX4_remake_100 : decode cX4_remake 100 = .ok (.iload 6, 2) := od_21 (od_at tB_cX4_remake_6 4 rfl) (od_at tB_cX4_remake_6 5 rfl) rfl
theorem dX4_remake_102 : decode cX4_remake 102 = .ok (.iload 4, 2) := od_21 (od_at tB_cX4_remake_6 6 rfl) (od_at tB_cX4_remake_6 7 rfl) rfl
theorem dX4_remake_104 : decode cX4_remake 104 = .ok (.if_icmp .ge 43, 3) := od_162 (od_at tB_cX4_remake_6 8 rfl) (od_at tB_cX4_remake_6 9 rfl) (od_at tB_cX4_remake_6 10 rfl) (by decide +kernel)
theorem dX4_remake_107 : decode cX4_remake 107 = .ok (.aload_n 0, 1) := od_42 (od_at tB_cX4_remake_6 11 rfl)
theorem dX4_remake_108 : decode cX4_remake 108 = .ok (.aload_n 0, 1) := od_42 (od_at tB_cX4_remake_6 12 rfl)
theorem dX4_remake_109 : decode cX4_remake 109 = .ok (.getfield 30, 3) := od_180 (od_at tB_cX4_remake_6 13 rfl) (od_at tB_cX4_remake_6 14 rfl) (od_at tB_cX4_remake_6 15 rfl) rfl
theorem dX4_remake_112 : decode cX4_remake 112 = .ok (.iload 6, 2) := od_21 (od_at tB_cX4_remake_7 0 rfl) (od_at tB_cX4_remake_7 1 rfl) rfl
theorem dX4_remake_114 : decode cX4_remake 114 = .ok (.aaload, 1) := od_50 (od_at tB_cX4_remake_7 2 rfl)
theorem dX4_remake_115 : decode cX4_remake 115 = .ok (.iload_n 1, 1) := od_27 (od_at tB_cX4_remake_7 3 rfl)
theorem dX4_remake_116 : decode cX4_remake 116 = .ok (.iload_n 2, 1) := od_28 (od_at tB_cX4_remake_7 4 rfl)
theorem dX4_remake_117 : decode cX4_remake 117 = .ok (.iload_n 3, 1) := od_29 (od_at tB_cX4_remake_7 5 rfl)
theorem dX4_remake_118 : decode cX4_remake 118 = .ok (.invokevirtual 168, 3) := od_182 (od_at tB_cX4_remake_7 6 rfl) (od_at tB_cX4_remake_7 7 rfl) (od_at tB_cX4_remake_7 8 rfl) rfl
theorem dX4_remake_121 : decode cX4_remake 121 = .ok (.ifCond .eq 20, 3) := od_153 (od_at tB_cX4_remake_7 9 rfl) (od_at tB_cX4_remake_7 10 rfl) (od_at tB_cX4_remake_7 11 rfl) (by decide +kernel)
theorem dX4_remake_124 : decode cX4_remake 124 = .ok (.aload_n 0, 1) := od_42 (od_at tB_cX4_remake_7 12 rfl)
theorem dX4_remake_125 : decode cX4_remake 125 = .ok (.iload 6, 2) := od_21 (od_at tB_cX4_remake_7 13 rfl) (od_at tB_cX4_remake_7 14 rfl) rfl
theorem dX4_remake_127 : decode cX4_remake 127 = .ok (.iconst 2, 1) := od_5 (od_at tB_cX4_remake_7 15 rfl)
theorem dX4_remake_128 : decode cX4_remake 128 = .ok (.aload_n 0, 1) := od_42 (od_at tB_cX4_remake_8 0 rfl)
theorem dX4_remake_129 : decode cX4_remake 129 = .ok (.getfield 30, 3) := od_180 (od_at tB_cX4_remake_8 1 rfl) (od_at tB_cX4_remake_8 2 rfl) (od_at tB_cX4_remake_8 3 rfl) rfl
theorem dX4_remake_132 : decode cX4_remake 132 = .ok (.iload 6, 2) := od_21 (od_at tB_cX4_remake_8 4 rfl) (od_at tB_cX4_remake_8 5 rfl) rfl
theorem dX4_remake_134 : decode cX4_remake 134 = .ok (.aaload, 1) := od_50 (od_at tB_cX4_remake_8 6 rfl)
theorem dX4_remake_135 : decode cX4_remake 135 = .ok (.getfield 172, 3) := od_180 (od_at tB_cX4_remake_8 7 rfl) (od_at tB_cX4_remake_8 8 rfl) (od_at tB_cX4_remake_8 9 rfl) rfl
theorem dX4_remake_138 : decode cX4_remake 138 = .ok (.invokevirtual 161, 3) := od_182 (od_at tB_cX4_remake_8 10 rfl) (od_at tB_cX4_remake_8 11 rfl) (od_at tB_cX4_remake_8 12 rfl) rfl
theorem dX4_remake_141 : decode cX4_remake 141 = .ok (.iinc 6 1, 3) := od_132 (od_at tB_cX4_remake_8 13 rfl) (od_at tB_cX4_remake_8 14 rfl) (od_at tB_cX4_remake_8 15 rfl) rfl (by decide +kernel)
theorem dX4_remake_144 : decode cX4_remake 144 = .ok (.goto (-44), 3) := od_167 (od_at tB_cX4_remake_9 0 rfl) (od_at tB_cX4_remake_9 1 rfl) (od_at tB_cX4_remake_9 2 rfl) (by decide +kernel)
theorem dX4_remake_147 : decode cX4_remake 147 = .ok (.iload 5, 2) := od_21 (od_at tB_cX4_remake_9 3 rfl) (od_at tB_cX4_remake_9 4 rfl) rfl
theorem dX4_remake_149 : decode cX4_remake 149 = .ok (.ireturn, 1) := od_172 (od_at tB_cX4_remake_9 5 rfl)
def RB_cX4_ticketed_6 : List UInt8 := 0x00 :: 0xb7 :: 0xac :: 0x2d :: 0xb4 :: 0x00 :: 0xba :: 0xac :: 0x10 :: 0xfe :: 0xac :: []
def RB_cX4_ticketed_5 : List UInt8 := 0xb4 :: 0x00 :: 0xac :: 0xac :: 0x2d :: 0xb4 :: 0x00 :: 0xb3 :: 0xac :: 0x2d :: 0xb4 :: 0x00 :: 0xb4 :: 0xac :: 0x2d :: 0xb4 :: RB_cX4_ticketed_6
def RB_cX4_ticketed_4 : List UInt8 := 0x2d :: 0xb4 :: 0x00 :: 0xaf :: 0xac :: 0x2d :: 0xb4 :: 0x00 :: 0xb2 :: 0xac :: 0x2d :: 0xb4 :: 0x00 :: 0x9e :: 0xac :: 0x2d :: RB_cX4_ticketed_5
def RB_cX4_ticketed_3 : List UInt8 := 0x00 :: 0x00 :: 0x00 :: 0x42 :: 0x00 :: 0x00 :: 0x00 :: 0x47 :: 0x00 :: 0x00 :: 0x00 :: 0x4c :: 0x00 :: 0x00 :: 0x00 :: 0x51 :: RB_cX4_ticketed_4
def RB_cX4_ticketed_2 : List UInt8 := 0x00 :: 0x00 :: 0x00 :: 0x2e :: 0x00 :: 0x00 :: 0x00 :: 0x33 :: 0x00 :: 0x00 :: 0x00 :: 0x38 :: 0x00 :: 0x00 :: 0x00 :: 0x3d :: RB_cX4_ticketed_3
def RB_cX4_ticketed_1 : List UInt8 := 0x4e :: 0x1c :: 0xaa :: 0x00 :: 0x00 :: 0x00 :: 0x00 :: 0x56 :: 0x00 :: 0x00 :: 0x00 :: 0x00 :: 0x00 :: 0x00 :: 0x00 :: 0x07 :: RB_cX4_ticketed_2
def RB_cX4_ticketed_0 : List UInt8 := 0x2a :: 0x1b :: 0xb6 :: 0x00 :: 0x98 :: 0x9a :: 0x00 :: 0x05 :: 0x02 :: 0xac :: 0x2a :: 0xb4 :: 0x00 :: 0x1e :: 0x1b :: 0x32 :: RB_cX4_ticketed_1
theorem tB_cX4_ticketed_0 : cX4_ticketed.data.toList.drop 0 = RB_cX4_ticketed_0 := by decide +kernel
theorem tB_cX4_ticketed_1 : cX4_ticketed.data.toList.drop 16 = RB_cX4_ticketed_1 := od_st tB_cX4_ticketed_0 16 rfl
theorem tB_cX4_ticketed_2 : cX4_ticketed.data.toList.drop 32 = RB_cX4_ticketed_2 := od_st tB_cX4_ticketed_1 16 rfl
theorem tB_cX4_ticketed_3 : cX4_ticketed.data.toList.drop 48 = RB_cX4_ticketed_3 := od_st tB_cX4_ticketed_2 16 rfl
theorem tB_cX4_ticketed_4 : cX4_ticketed.data.toList.drop 64 = RB_cX4_ticketed_4 := od_st tB_cX4_ticketed_3 16 rfl
theorem tB_cX4_ticketed_5 : cX4_ticketed.data.toList.drop 80 = RB_cX4_ticketed_5 := od_st tB_cX4_ticketed_4 16 rfl
theorem tB_cX4_ticketed_6 : cX4_ticketed.data.toList.drop 96 = RB_cX4_ticketed_6 := od_st tB_cX4_ticketed_5 16 rfl
theorem dX4_ticketed_0 : decode cX4_ticketed 0 = .ok (.aload_n 0, 1) := od_42 (od_at tB_cX4_ticketed_0 0 rfl)
theorem dX4_ticketed_1 : decode cX4_ticketed 1 = .ok (.iload_n 1, 1) := od_27 (od_at tB_cX4_ticketed_0 1 rfl)
theorem dX4_ticketed_2 : decode cX4_ticketed 2 = .ok (.invokevirtual 152, 3) := od_182 (od_at tB_cX4_ticketed_0 2 rfl) (od_at tB_cX4_ticketed_0 3 rfl) (od_at tB_cX4_ticketed_0 4 rfl) rfl
theorem dX4_ticketed_5 : decode cX4_ticketed 5 = .ok (.ifCond .ne 5, 3) := od_154 (od_at tB_cX4_ticketed_0 5 rfl) (od_at tB_cX4_ticketed_0 6 rfl) (od_at tB_cX4_ticketed_0 7 rfl) (by decide +kernel)
theorem dX4_ticketed_8 : decode cX4_ticketed 8 = .ok (.iconst (-1), 1) := od_2 (od_at tB_cX4_ticketed_0 8 rfl)
theorem dX4_ticketed_9 : decode cX4_ticketed 9 = .ok (.ireturn, 1) := od_172 (od_at tB_cX4_ticketed_0 9 rfl)
theorem dX4_ticketed_10 : decode cX4_ticketed 10 = .ok (.aload_n 0, 1) := od_42 (od_at tB_cX4_ticketed_0 10 rfl)
theorem dX4_ticketed_11 : decode cX4_ticketed 11 = .ok (.getfield 30, 3) := od_180 (od_at tB_cX4_ticketed_0 11 rfl) (od_at tB_cX4_ticketed_0 12 rfl) (od_at tB_cX4_ticketed_0 13 rfl) rfl
theorem dX4_ticketed_14 : decode cX4_ticketed 14 = .ok (.iload_n 1, 1) := od_27 (od_at tB_cX4_ticketed_0 14 rfl)
theorem dX4_ticketed_15 : decode cX4_ticketed 15 = .ok (.aaload, 1) := od_50 (od_at tB_cX4_ticketed_0 15 rfl)
theorem dX4_ticketed_16 : decode cX4_ticketed 16 = .ok (.astore_n 3, 1) := od_78 (od_at tB_cX4_ticketed_1 0 rfl)
theorem dX4_ticketed_17 : decode cX4_ticketed 17 = .ok (.iload_n 2, 1) := od_28 (od_at tB_cX4_ticketed_1 1 rfl)
theorem dX4_ticketed_18 : decode cX4_ticketed 18 = .ok (.tableswitch 86 0 7 #[46, 51, 56, 61, 66, 71, 76, 81], 46) := by decide +kernel
theorem dX4_ticketed_64 : decode cX4_ticketed 64 = .ok (.aload_n 3, 1) := od_45 (od_at tB_cX4_ticketed_4 0 rfl)
theorem dX4_ticketed_65 : decode cX4_ticketed 65 = .ok (.getfield 175, 3) := od_180 (od_at tB_cX4_ticketed_4 1 rfl) (od_at tB_cX4_ticketed_4 2 rfl) (od_at tB_cX4_ticketed_4 3 rfl) rfl
theorem dX4_ticketed_68 : decode cX4_ticketed 68 = .ok (.ireturn, 1) := od_172 (od_at tB_cX4_ticketed_4 4 rfl)
theorem dX4_ticketed_69 : decode cX4_ticketed 69 = .ok (.aload_n 3, 1) := od_45 (od_at tB_cX4_ticketed_4 5 rfl)
theorem dX4_ticketed_70 : decode cX4_ticketed 70 = .ok (.getfield 178, 3) := od_180 (od_at tB_cX4_ticketed_4 6 rfl) (od_at tB_cX4_ticketed_4 7 rfl) (od_at tB_cX4_ticketed_4 8 rfl) rfl
theorem dX4_ticketed_73 : decode cX4_ticketed 73 = .ok (.ireturn, 1) := od_172 (od_at tB_cX4_ticketed_4 9 rfl)
theorem dX4_ticketed_74 : decode cX4_ticketed 74 = .ok (.aload_n 3, 1) := od_45 (od_at tB_cX4_ticketed_4 10 rfl)
theorem dX4_ticketed_75 : decode cX4_ticketed 75 = .ok (.getfield 158, 3) := od_180 (od_at tB_cX4_ticketed_4 11 rfl) (od_at tB_cX4_ticketed_4 12 rfl) (od_at tB_cX4_ticketed_4 13 rfl) rfl
theorem dX4_ticketed_78 : decode cX4_ticketed 78 = .ok (.ireturn, 1) := od_172 (od_at tB_cX4_ticketed_4 14 rfl)
theorem dX4_ticketed_79 : decode cX4_ticketed 79 = .ok (.aload_n 3, 1) := od_45 (od_at tB_cX4_ticketed_4 15 rfl)
theorem dX4_ticketed_80 : decode cX4_ticketed 80 = .ok (.getfield 172, 3) := od_180 (od_at tB_cX4_ticketed_5 0 rfl) (od_at tB_cX4_ticketed_5 1 rfl) (od_at tB_cX4_ticketed_5 2 rfl) rfl
theorem dX4_ticketed_83 : decode cX4_ticketed 83 = .ok (.ireturn, 1) := od_172 (od_at tB_cX4_ticketed_5 3 rfl)
theorem dX4_ticketed_84 : decode cX4_ticketed 84 = .ok (.aload_n 3, 1) := od_45 (od_at tB_cX4_ticketed_5 4 rfl)
theorem dX4_ticketed_85 : decode cX4_ticketed 85 = .ok (.getfield 179, 3) := od_180 (od_at tB_cX4_ticketed_5 5 rfl) (od_at tB_cX4_ticketed_5 6 rfl) (od_at tB_cX4_ticketed_5 7 rfl) rfl
theorem dX4_ticketed_88 : decode cX4_ticketed 88 = .ok (.ireturn, 1) := od_172 (od_at tB_cX4_ticketed_5 8 rfl)
theorem dX4_ticketed_89 : decode cX4_ticketed 89 = .ok (.aload_n 3, 1) := od_45 (od_at tB_cX4_ticketed_5 9 rfl)
theorem dX4_ticketed_90 : decode cX4_ticketed 90 = .ok (.getfield 180, 3) := od_180 (od_at tB_cX4_ticketed_5 10 rfl) (od_at tB_cX4_ticketed_5 11 rfl) (od_at tB_cX4_ticketed_5 12 rfl) rfl
theorem dX4_ticketed_93 : decode cX4_ticketed 93 = .ok (.ireturn, 1) := od_172 (od_at tB_cX4_ticketed_5 13 rfl)
theorem dX4_ticketed_94 : decode cX4_ticketed 94 = .ok (.aload_n 3, 1) := od_45 (od_at tB_cX4_ticketed_5 14 rfl)
theorem dX4_ticketed_95 : decode cX4_ticketed 95 = .ok (.getfield 183, 3) := od_180 (od_at tB_cX4_ticketed_5 15 rfl) (od_at tB_cX4_ticketed_5 16 rfl) (od_at tB_cX4_ticketed_5 17 rfl) rfl
theorem dX4_ticketed_98 : decode cX4_ticketed 98 = .ok (.ireturn, 1) := od_172 (od_at tB_cX4_ticketed_6 2 rfl)
theorem dX4_ticketed_99 : decode cX4_ticketed 99 = .ok (.aload_n 3, 1) := od_45 (od_at tB_cX4_ticketed_6 3 rfl)
theorem dX4_ticketed_100 : decode cX4_ticketed 100 = .ok (.getfield 186, 3) := od_180 (od_at tB_cX4_ticketed_6 4 rfl) (od_at tB_cX4_ticketed_6 5 rfl) (od_at tB_cX4_ticketed_6 6 rfl) rfl
theorem dX4_ticketed_103 : decode cX4_ticketed 103 = .ok (.ireturn, 1) := od_172 (od_at tB_cX4_ticketed_6 7 rfl)
theorem dX4_ticketed_104 : decode cX4_ticketed 104 = .ok (.bipush (-2), 2) := od_16 (od_at tB_cX4_ticketed_6 8 rfl) (od_at tB_cX4_ticketed_6 9 rfl) (by decide +kernel)
theorem dX4_ticketed_106 : decode cX4_ticketed 106 = .ok (.ireturn, 1) := od_172 (od_at tB_cX4_ticketed_6 10 rfl)
def RB_cX4_volume_1 : List UInt8 := 0x00 :: 0xbd :: 0xa7 :: 0x00 :: 0x06 :: 0x14 :: 0x00 :: 0x6a :: 0xad :: []
def RB_cX4_volume_0 : List UInt8 := 0x2a :: 0x1b :: 0xb6 :: 0x00 :: 0x98 :: 0x99 :: 0x00 :: 0x10 :: 0x2a :: 0x2a :: 0xb4 :: 0x00 :: 0x1e :: 0x1b :: 0x32 :: 0xb6 :: RB_cX4_volume_1
theorem tB_cX4_volume_0 : cX4_volume.data.toList.drop 0 = RB_cX4_volume_0 := by decide +kernel
theorem tB_cX4_volume_1 : cX4_volume.data.toList.drop 16 = RB_cX4_volume_1 := od_st tB_cX4_volume_0 16 rfl
theorem dX4_volume_0 : decode cX4_volume 0 = .ok (.aload_n 0, 1) := od_42 (od_at tB_cX4_volume_0 0 rfl)
theorem dX4_volume_1 : decode cX4_volume 1 = .ok (.iload_n 1, 1) := od_27 (od_at tB_cX4_volume_0 1 rfl)
theorem dX4_volume_2 : decode cX4_volume 2 = .ok (.invokevirtual 152, 3) := od_182 (od_at tB_cX4_volume_0 2 rfl) (od_at tB_cX4_volume_0 3 rfl) (od_at tB_cX4_volume_0 4 rfl) rfl
theorem dX4_volume_5 : decode cX4_volume 5 = .ok (.ifCond .eq 16, 3) := od_153 (od_at tB_cX4_volume_0 5 rfl) (od_at tB_cX4_volume_0 6 rfl) (od_at tB_cX4_volume_0 7 rfl) (by decide +kernel)
theorem dX4_volume_8 : decode cX4_volume 8 = .ok (.aload_n 0, 1) := od_42 (od_at tB_cX4_volume_0 8 rfl)
theorem dX4_volume_9 : decode cX4_volume 9 = .ok (.aload_n 0, 1) := od_42 (od_at tB_cX4_volume_0 9 rfl)
theorem dX4_volume_10 : decode cX4_volume 10 = .ok (.getfield 30, 3) := od_180 (od_at tB_cX4_volume_0 10 rfl) (od_at tB_cX4_volume_0 11 rfl) (od_at tB_cX4_volume_0 12 rfl) rfl
theorem dX4_volume_13 : decode cX4_volume 13 = .ok (.iload_n 1, 1) := od_27 (od_at tB_cX4_volume_0 13 rfl)
theorem dX4_volume_14 : decode cX4_volume 14 = .ok (.aaload, 1) := od_50 (od_at tB_cX4_volume_0 14 rfl)
theorem dX4_volume_15 : decode cX4_volume 15 = .ok (.invokevirtual 189, 3) := od_182 (od_at tB_cX4_volume_0 15 rfl) (od_at tB_cX4_volume_0 16 rfl) (od_at tB_cX4_volume_0 17 rfl) rfl
theorem dX4_volume_18 : decode cX4_volume 18 = .ok (.goto 6, 3) := od_167 (od_at tB_cX4_volume_1 2 rfl) (od_at tB_cX4_volume_1 3 rfl) (od_at tB_cX4_volume_1 4 rfl) (by decide +kernel)
theorem dX4_volume_21 : decode cX4_volume 21 = .ok (.ldc2_w 106, 3) := od_20 (od_at tB_cX4_volume_1 5 rfl) (od_at tB_cX4_volume_1 6 rfl) (od_at tB_cX4_volume_1 7 rfl) rfl
theorem dX4_volume_24 : decode cX4_volume 24 = .ok (.lreturn, 1) := od_173 (od_at tB_cX4_volume_1 8 rfl)
def RB_cX4_sum_1 : List UInt8 := 0x2a :: 0x1b :: 0x1c :: 0x1d :: 0xb6 :: 0x00 :: 0xc1 :: 0xa7 :: 0x00 :: 0x06 :: 0x14 :: 0x00 :: 0x6a :: 0xad :: []
def RB_cX4_sum_0 : List UInt8 := 0x2a :: 0x1b :: 0xb6 :: 0x00 :: 0x3d :: 0x99 :: 0x00 :: 0x15 :: 0x1c :: 0x1d :: 0xb8 :: 0x00 :: 0xa4 :: 0x99 :: 0x00 :: 0x0d :: RB_cX4_sum_1
theorem tB_cX4_sum_0 : cX4_sum.data.toList.drop 0 = RB_cX4_sum_0 := by decide +kernel
theorem tB_cX4_sum_1 : cX4_sum.data.toList.drop 16 = RB_cX4_sum_1 := od_st tB_cX4_sum_0 16 rfl
theorem dX4_sum_0 : decode cX4_sum 0 = .ok (.aload_n 0, 1) := od_42 (od_at tB_cX4_sum_0 0 rfl)
theorem dX4_sum_1 : decode cX4_sum 1 = .ok (.iload_n 1, 1) := od_27 (od_at tB_cX4_sum_0 1 rfl)
theorem dX4_sum_2 : decode cX4_sum 2 = .ok (.invokevirtual 61, 3) := od_182 (od_at tB_cX4_sum_0 2 rfl) (od_at tB_cX4_sum_0 3 rfl) (od_at tB_cX4_sum_0 4 rfl) rfl
theorem dX4_sum_5 : decode cX4_sum 5 = .ok (.ifCond .eq 21, 3) := od_153 (od_at tB_cX4_sum_0 5 rfl) (od_at tB_cX4_sum_0 6 rfl) (od_at tB_cX4_sum_0 7 rfl) (by decide +kernel)
theorem dX4_sum_8 : decode cX4_sum 8 = .ok (.iload_n 2, 1) := od_28 (od_at tB_cX4_sum_0 8 rfl)
theorem dX4_sum_9 : decode cX4_sum 9 = .ok (.iload_n 3, 1) := od_29 (od_at tB_cX4_sum_0 9 rfl)
theorem dX4_sum_10 : decode cX4_sum 10 = .ok (.invokestatic 164, 3) := od_184 (od_at tB_cX4_sum_0 10 rfl) (od_at tB_cX4_sum_0 11 rfl) (od_at tB_cX4_sum_0 12 rfl) rfl
theorem dX4_sum_13 : decode cX4_sum 13 = .ok (.ifCond .eq 13, 3) := od_153 (od_at tB_cX4_sum_0 13 rfl) (od_at tB_cX4_sum_0 14 rfl) (od_at tB_cX4_sum_0 15 rfl) (by decide +kernel)
theorem dX4_sum_16 : decode cX4_sum 16 = .ok (.aload_n 0, 1) := od_42 (od_at tB_cX4_sum_1 0 rfl)
theorem dX4_sum_17 : decode cX4_sum 17 = .ok (.iload_n 1, 1) := od_27 (od_at tB_cX4_sum_1 1 rfl)
theorem dX4_sum_18 : decode cX4_sum 18 = .ok (.iload_n 2, 1) := od_28 (od_at tB_cX4_sum_1 2 rfl)
theorem dX4_sum_19 : decode cX4_sum 19 = .ok (.iload_n 3, 1) := od_29 (od_at tB_cX4_sum_1 3 rfl)
theorem dX4_sum_20 : decode cX4_sum 20 = .ok (.invokevirtual 193, 3) := od_182 (od_at tB_cX4_sum_1 4 rfl) (od_at tB_cX4_sum_1 5 rfl) (od_at tB_cX4_sum_1 6 rfl) rfl
theorem dX4_sum_23 : decode cX4_sum 23 = .ok (.goto 6, 3) := od_167 (od_at tB_cX4_sum_1 7 rfl) (od_at tB_cX4_sum_1 8 rfl) (od_at tB_cX4_sum_1 9 rfl) (by decide +kernel)
theorem dX4_sum_26 : decode cX4_sum 26 = .ok (.ldc2_w 106, 3) := od_20 (od_at tB_cX4_sum_1 10 rfl) (od_at tB_cX4_sum_1 11 rfl) (od_at tB_cX4_sum_1 12 rfl) rfl
theorem dX4_sum_29 : decode cX4_sum 29 = .ok (.lreturn, 1) := od_173 (od_at tB_cX4_sum_1 13 rfl)
def RB_cX4_shut_1 : List UInt8 := 0xfe :: 0xac :: 0x2a :: 0xb4 :: 0x00 :: 0x25 :: 0x3d :: 0x2a :: 0x1b :: 0xb5 :: 0x00 :: 0x25 :: 0x1c :: 0xac :: []
def RB_cX4_shut_0 : List UInt8 := 0x1b :: 0xb8 :: 0x00 :: 0x44 :: 0x99 :: 0x00 :: 0x0b :: 0x1b :: 0x2a :: 0xb4 :: 0x00 :: 0x25 :: 0xa2 :: 0x00 :: 0x06 :: 0x10 :: RB_cX4_shut_1
theorem tB_cX4_shut_0 : cX4_shut.data.toList.drop 0 = RB_cX4_shut_0 := by decide +kernel
theorem tB_cX4_shut_1 : cX4_shut.data.toList.drop 16 = RB_cX4_shut_1 := od_st tB_cX4_shut_0 16 rfl
theorem dX4_shut_0 : decode cX4_shut 0 = .ok (.iload_n 1, 1) := od_27 (od_at tB_cX4_shut_0 0 rfl)
theorem dX4_shut_1 : decode cX4_shut 1 = .ok (.invokestatic 68, 3) := od_184 (od_at tB_cX4_shut_0 1 rfl) (od_at tB_cX4_shut_0 2 rfl) (od_at tB_cX4_shut_0 3 rfl) rfl
theorem dX4_shut_4 : decode cX4_shut 4 = .ok (.ifCond .eq 11, 3) := od_153 (od_at tB_cX4_shut_0 4 rfl) (od_at tB_cX4_shut_0 5 rfl) (od_at tB_cX4_shut_0 6 rfl) (by decide +kernel)
theorem dX4_shut_7 : decode cX4_shut 7 = .ok (.iload_n 1, 1) := od_27 (od_at tB_cX4_shut_0 7 rfl)
theorem dX4_shut_8 : decode cX4_shut 8 = .ok (.aload_n 0, 1) := od_42 (od_at tB_cX4_shut_0 8 rfl)
theorem dX4_shut_9 : decode cX4_shut 9 = .ok (.getfield 37, 3) := od_180 (od_at tB_cX4_shut_0 9 rfl) (od_at tB_cX4_shut_0 10 rfl) (od_at tB_cX4_shut_0 11 rfl) rfl
theorem dX4_shut_12 : decode cX4_shut 12 = .ok (.if_icmp .ge 6, 3) := od_162 (od_at tB_cX4_shut_0 12 rfl) (od_at tB_cX4_shut_0 13 rfl) (od_at tB_cX4_shut_0 14 rfl) (by decide +kernel)
theorem dX4_shut_15 : decode cX4_shut 15 = .ok (.bipush (-2), 2) := od_16 (od_at tB_cX4_shut_0 15 rfl) (od_at tB_cX4_shut_0 16 rfl) (by decide +kernel)
theorem dX4_shut_17 : decode cX4_shut 17 = .ok (.ireturn, 1) := od_172 (od_at tB_cX4_shut_1 1 rfl)
theorem dX4_shut_18 : decode cX4_shut 18 = .ok (.aload_n 0, 1) := od_42 (od_at tB_cX4_shut_1 2 rfl)
theorem dX4_shut_19 : decode cX4_shut 19 = .ok (.getfield 37, 3) := od_180 (od_at tB_cX4_shut_1 3 rfl) (od_at tB_cX4_shut_1 4 rfl) (od_at tB_cX4_shut_1 5 rfl) rfl
theorem dX4_shut_22 : decode cX4_shut 22 = .ok (.istore_n 2, 1) := od_61 (od_at tB_cX4_shut_1 6 rfl)
theorem dX4_shut_23 : decode cX4_shut 23 = .ok (.aload_n 0, 1) := od_42 (od_at tB_cX4_shut_1 7 rfl)
theorem dX4_shut_24 : decode cX4_shut 24 = .ok (.iload_n 1, 1) := od_27 (od_at tB_cX4_shut_1 8 rfl)
theorem dX4_shut_25 : decode cX4_shut 25 = .ok (.putfield 37, 3) := od_181 (od_at tB_cX4_shut_1 9 rfl) (od_at tB_cX4_shut_1 10 rfl) (od_at tB_cX4_shut_1 11 rfl) rfl
theorem dX4_shut_28 : decode cX4_shut 28 = .ok (.iload_n 2, 1) := od_28 (od_at tB_cX4_shut_1 12 rfl)
theorem dX4_shut_29 : decode cX4_shut 29 = .ok (.ireturn, 1) := od_172 (od_at tB_cX4_shut_1 13 rfl)
def RB_cX4_line_4 : List UInt8 := 0x04 :: 0xac :: []
def RB_cX4_line_3 : List UInt8 := 0xb4 :: 0x00 :: 0xc8 :: 0x1b :: 0x1d :: 0x4f :: 0x15 :: 0x04 :: 0x1d :: 0xa0 :: 0x00 :: 0x07 :: 0x03 :: 0xa7 :: 0x00 :: 0x04 :: RB_cX4_line_4
def RB_cX4_line_2 : List UInt8 := 0x0d :: 0x1c :: 0x32 :: 0xb4 :: 0x00 :: 0xc8 :: 0x1b :: 0x2e :: 0x36 :: 0x04 :: 0x2a :: 0xb4 :: 0x00 :: 0x0d :: 0x1c :: 0x32 :: RB_cX4_line_3
def RB_cX4_line_1 : List UInt8 := 0xac :: 0x1d :: 0x02 :: 0x04 :: 0xb8 :: 0x00 :: 0x36 :: 0x9a :: 0x00 :: 0x06 :: 0x10 :: 0xfe :: 0xac :: 0x2a :: 0xb4 :: 0x00 :: RB_cX4_line_2
def RB_cX4_line_0 : List UInt8 := 0x1b :: 0xb8 :: 0x00 :: 0xc5 :: 0x99 :: 0x00 :: 0x0b :: 0x2a :: 0x1c :: 0xb6 :: 0x00 :: 0x3d :: 0x9a :: 0x00 :: 0x05 :: 0x02 :: RB_cX4_line_1
theorem tB_cX4_line_0 : cX4_line.data.toList.drop 0 = RB_cX4_line_0 := by decide +kernel
theorem tB_cX4_line_1 : cX4_line.data.toList.drop 16 = RB_cX4_line_1 := od_st tB_cX4_line_0 16 rfl
theorem tB_cX4_line_2 : cX4_line.data.toList.drop 32 = RB_cX4_line_2 := od_st tB_cX4_line_1 16 rfl
theorem tB_cX4_line_3 : cX4_line.data.toList.drop 48 = RB_cX4_line_3 := od_st tB_cX4_line_2 16 rfl
theorem tB_cX4_line_4 : cX4_line.data.toList.drop 64 = RB_cX4_line_4 := od_st tB_cX4_line_3 16 rfl
theorem dX4_line_0 : decode cX4_line 0 = .ok (.iload_n 1, 1) := od_27 (od_at tB_cX4_line_0 0 rfl)
theorem dX4_line_1 : decode cX4_line 1 = .ok (.invokestatic 197, 3) := od_184 (od_at tB_cX4_line_0 1 rfl) (od_at tB_cX4_line_0 2 rfl) (od_at tB_cX4_line_0 3 rfl) rfl
theorem dX4_line_4 : decode cX4_line 4 = .ok (.ifCond .eq 11, 3) := od_153 (od_at tB_cX4_line_0 4 rfl) (od_at tB_cX4_line_0 5 rfl) (od_at tB_cX4_line_0 6 rfl) (by decide +kernel)
theorem dX4_line_7 : decode cX4_line 7 = .ok (.aload_n 0, 1) := od_42 (od_at tB_cX4_line_0 7 rfl)
theorem dX4_line_8 : decode cX4_line 8 = .ok (.iload_n 2, 1) := od_28 (od_at tB_cX4_line_0 8 rfl)
theorem dX4_line_9 : decode cX4_line 9 = .ok (.invokevirtual 61, 3) := od_182 (od_at tB_cX4_line_0 9 rfl) (od_at tB_cX4_line_0 10 rfl) (od_at tB_cX4_line_0 11 rfl) rfl
theorem dX4_line_12 : decode cX4_line 12 = .ok (.ifCond .ne 5, 3) := od_154 (od_at tB_cX4_line_0 12 rfl) (od_at tB_cX4_line_0 13 rfl) (od_at tB_cX4_line_0 14 rfl) (by decide +kernel)
theorem dX4_line_15 : decode cX4_line 15 = .ok (.iconst (-1), 1) := od_2 (od_at tB_cX4_line_0 15 rfl)
theorem dX4_line_16 : decode cX4_line 16 = .ok (.ireturn, 1) := od_172 (od_at tB_cX4_line_1 0 rfl)
theorem dX4_line_17 : decode cX4_line 17 = .ok (.iload_n 3, 1) := od_29 (od_at tB_cX4_line_1 1 rfl)
theorem dX4_line_18 : decode cX4_line 18 = .ok (.iconst (-1), 1) := od_2 (od_at tB_cX4_line_1 2 rfl)
theorem dX4_line_19 : decode cX4_line 19 = .ok (.iconst 1, 1) := od_4 (od_at tB_cX4_line_1 3 rfl)
theorem dX4_line_20 : decode cX4_line 20 = .ok (.invokestatic 54, 3) := od_184 (od_at tB_cX4_line_1 4 rfl) (od_at tB_cX4_line_1 5 rfl) (od_at tB_cX4_line_1 6 rfl) rfl
theorem dX4_line_23 : decode cX4_line 23 = .ok (.ifCond .ne 6, 3) := od_154 (od_at tB_cX4_line_1 7 rfl) (od_at tB_cX4_line_1 8 rfl) (od_at tB_cX4_line_1 9 rfl) (by decide +kernel)
theorem dX4_line_26 : decode cX4_line 26 = .ok (.bipush (-2), 2) := od_16 (od_at tB_cX4_line_1 10 rfl) (od_at tB_cX4_line_1 11 rfl) (by decide +kernel)
theorem dX4_line_28 : decode cX4_line 28 = .ok (.ireturn, 1) := od_172 (od_at tB_cX4_line_1 12 rfl)
theorem dX4_line_29 : decode cX4_line 29 = .ok (.aload_n 0, 1) := od_42 (od_at tB_cX4_line_1 13 rfl)
theorem dX4_line_30 : decode cX4_line 30 = .ok (.getfield 13, 3) := od_180 (od_at tB_cX4_line_1 14 rfl) (od_at tB_cX4_line_1 15 rfl) (od_at tB_cX4_line_1 16 rfl) rfl
theorem dX4_line_33 : decode cX4_line 33 = .ok (.iload_n 2, 1) := od_28 (od_at tB_cX4_line_2 1 rfl)
theorem dX4_line_34 : decode cX4_line 34 = .ok (.aaload, 1) := od_50 (od_at tB_cX4_line_2 2 rfl)
theorem dX4_line_35 : decode cX4_line 35 = .ok (.getfield 200, 3) := od_180 (od_at tB_cX4_line_2 3 rfl) (od_at tB_cX4_line_2 4 rfl) (od_at tB_cX4_line_2 5 rfl) rfl
theorem dX4_line_38 : decode cX4_line 38 = .ok (.iload_n 1, 1) := od_27 (od_at tB_cX4_line_2 6 rfl)
theorem dX4_line_39 : decode cX4_line 39 = .ok (.iaload, 1) := od_46 (od_at tB_cX4_line_2 7 rfl)
theorem dX4_line_40 : decode cX4_line 40 = .ok (.istore 4, 2) := od_54 (od_at tB_cX4_line_2 8 rfl) (od_at tB_cX4_line_2 9 rfl) rfl
theorem dX4_line_42 : decode cX4_line 42 = .ok (.aload_n 0, 1) := od_42 (od_at tB_cX4_line_2 10 rfl)
theorem dX4_line_43 : decode cX4_line 43 = .ok (.getfield 13, 3) := od_180 (od_at tB_cX4_line_2 11 rfl) (od_at tB_cX4_line_2 12 rfl) (od_at tB_cX4_line_2 13 rfl) rfl
theorem dX4_line_46 : decode cX4_line 46 = .ok (.iload_n 2, 1) := od_28 (od_at tB_cX4_line_2 14 rfl)
theorem dX4_line_47 : decode cX4_line 47 = .ok (.aaload, 1) := od_50 (od_at tB_cX4_line_2 15 rfl)
theorem dX4_line_48 : decode cX4_line 48 = .ok (.getfield 200, 3) := od_180 (od_at tB_cX4_line_3 0 rfl) (od_at tB_cX4_line_3 1 rfl) (od_at tB_cX4_line_3 2 rfl) rfl
theorem dX4_line_51 : decode cX4_line 51 = .ok (.iload_n 1, 1) := od_27 (od_at tB_cX4_line_3 3 rfl)
theorem dX4_line_52 : decode cX4_line 52 = .ok (.iload_n 3, 1) := od_29 (od_at tB_cX4_line_3 4 rfl)
theorem dX4_line_53 : decode cX4_line 53 = .ok (.iastore, 1) := od_79 (od_at tB_cX4_line_3 5 rfl)
theorem dX4_line_54 : decode cX4_line 54 = .ok (.iload 4, 2) := od_21 (od_at tB_cX4_line_3 6 rfl) (od_at tB_cX4_line_3 7 rfl) rfl
theorem dX4_line_56 : decode cX4_line 56 = .ok (.iload_n 3, 1) := od_29 (od_at tB_cX4_line_3 8 rfl)
theorem dX4_line_57 : decode cX4_line 57 = .ok (.if_icmp .ne 7, 3) := od_160 (od_at tB_cX4_line_3 9 rfl) (od_at tB_cX4_line_3 10 rfl) (od_at tB_cX4_line_3 11 rfl) (by decide +kernel)
theorem dX4_line_60 : decode cX4_line 60 = .ok (.iconst 0, 1) := od_3 (od_at tB_cX4_line_3 12 rfl)
theorem dX4_line_61 : decode cX4_line 61 = .ok (.goto 4, 3) := od_167 (od_at tB_cX4_line_3 13 rfl) (od_at tB_cX4_line_3 14 rfl) (od_at tB_cX4_line_3 15 rfl) (by decide +kernel)
theorem dX4_line_64 : decode cX4_line 64 = .ok (.iconst 1, 1) := od_4 (od_at tB_cX4_line_4 0 rfl)
theorem dX4_line_65 : decode cX4_line 65 = .ok (.ireturn, 1) := od_172 (od_at tB_cX4_line_4 1 rfl)
def RB_cX4_lined_2 : List UInt8 := 0x02 :: 0xac :: []
def RB_cX4_lined_1 : List UInt8 := 0x0a :: 0x2a :: 0xb4 :: 0x00 :: 0x0d :: 0x1c :: 0x32 :: 0xb4 :: 0x00 :: 0xc8 :: 0x1b :: 0x2e :: 0x60 :: 0xa7 :: 0x00 :: 0x04 :: RB_cX4_lined_2
def RB_cX4_lined_0 : List UInt8 := 0x1b :: 0xb8 :: 0x00 :: 0xc5 :: 0x99 :: 0x00 :: 0x1c :: 0x2a :: 0x1c :: 0xb6 :: 0x00 :: 0x3d :: 0x99 :: 0x00 :: 0x14 :: 0x10 :: RB_cX4_lined_1
theorem tB_cX4_lined_0 : cX4_lined.data.toList.drop 0 = RB_cX4_lined_0 := by decide +kernel
theorem tB_cX4_lined_1 : cX4_lined.data.toList.drop 16 = RB_cX4_lined_1 := od_st tB_cX4_lined_0 16 rfl
theorem tB_cX4_lined_2 : cX4_lined.data.toList.drop 32 = RB_cX4_lined_2 := od_st tB_cX4_lined_1 16 rfl
theorem dX4_lined_0 : decode cX4_lined 0 = .ok (.iload_n 1, 1) := od_27 (od_at tB_cX4_lined_0 0 rfl)
theorem dX4_lined_1 : decode cX4_lined 1 = .ok (.invokestatic 197, 3) := od_184 (od_at tB_cX4_lined_0 1 rfl) (od_at tB_cX4_lined_0 2 rfl) (od_at tB_cX4_lined_0 3 rfl) rfl
theorem dX4_lined_4 : decode cX4_lined 4 = .ok (.ifCond .eq 28, 3) := od_153 (od_at tB_cX4_lined_0 4 rfl) (od_at tB_cX4_lined_0 5 rfl) (od_at tB_cX4_lined_0 6 rfl) (by decide +kernel)
theorem dX4_lined_7 : decode cX4_lined 7 = .ok (.aload_n 0, 1) := od_42 (od_at tB_cX4_lined_0 7 rfl)
theorem dX4_lined_8 : decode cX4_lined 8 = .ok (.iload_n 2, 1) := od_28 (od_at tB_cX4_lined_0 8 rfl)
theorem dX4_lined_9 : decode cX4_lined 9 = .ok (.invokevirtual 61, 3) := od_182 (od_at tB_cX4_lined_0 9 rfl) (od_at tB_cX4_lined_0 10 rfl) (od_at tB_cX4_lined_0 11 rfl) rfl
theorem dX4_lined_12 : decode cX4_lined 12 = .ok (.ifCond .eq 20, 3) := od_153 (od_at tB_cX4_lined_0 12 rfl) (od_at tB_cX4_lined_0 13 rfl) (od_at tB_cX4_lined_0 14 rfl) (by decide +kernel)
theorem dX4_lined_15 : decode cX4_lined 15 = .ok (.bipush 10, 2) := od_16 (od_at tB_cX4_lined_0 15 rfl) (od_at tB_cX4_lined_0 16 rfl) (by decide +kernel)
theorem dX4_lined_17 : decode cX4_lined 17 = .ok (.aload_n 0, 1) := od_42 (od_at tB_cX4_lined_1 1 rfl)
theorem dX4_lined_18 : decode cX4_lined 18 = .ok (.getfield 13, 3) := od_180 (od_at tB_cX4_lined_1 2 rfl) (od_at tB_cX4_lined_1 3 rfl) (od_at tB_cX4_lined_1 4 rfl) rfl
theorem dX4_lined_21 : decode cX4_lined 21 = .ok (.iload_n 2, 1) := od_28 (od_at tB_cX4_lined_1 5 rfl)
theorem dX4_lined_22 : decode cX4_lined 22 = .ok (.aaload, 1) := od_50 (od_at tB_cX4_lined_1 6 rfl)
theorem dX4_lined_23 : decode cX4_lined 23 = .ok (.getfield 200, 3) := od_180 (od_at tB_cX4_lined_1 7 rfl) (od_at tB_cX4_lined_1 8 rfl) (od_at tB_cX4_lined_1 9 rfl) rfl
theorem dX4_lined_26 : decode cX4_lined 26 = .ok (.iload_n 1, 1) := od_27 (od_at tB_cX4_lined_1 10 rfl)
theorem dX4_lined_27 : decode cX4_lined 27 = .ok (.iaload, 1) := od_46 (od_at tB_cX4_lined_1 11 rfl)
theorem dX4_lined_28 : decode cX4_lined 28 = .ok (.iadd, 1) := od_96 (od_at tB_cX4_lined_1 12 rfl)
theorem dX4_lined_29 : decode cX4_lined 29 = .ok (.goto 4, 3) := od_167 (od_at tB_cX4_lined_1 13 rfl) (od_at tB_cX4_lined_1 14 rfl) (od_at tB_cX4_lined_1 15 rfl) (by decide +kernel)
theorem dX4_lined_32 : decode cX4_lined 32 = .ok (.iconst (-1), 1) := od_2 (od_at tB_cX4_lined_2 0 rfl)
theorem dX4_lined_33 : decode cX4_lined 33 = .ok (.ireturn, 1) := od_172 (od_at tB_cX4_lined_2 1 rfl)
def RB_cX4_end_2 : List UInt8 := 0xcb :: 0x3e :: 0x2a :: 0xb4 :: 0x00 :: 0x0d :: 0x1b :: 0x32 :: 0x1c :: 0xb5 :: 0x00 :: 0xcb :: 0x1d :: 0xac :: []
def RB_cX4_end_1 : List UInt8 := 0x00 :: 0x36 :: 0x9a :: 0x00 :: 0x06 :: 0x10 :: 0xfe :: 0xac :: 0x2a :: 0xb4 :: 0x00 :: 0x0d :: 0x1b :: 0x32 :: 0xb4 :: 0x00 :: RB_cX4_end_2
def RB_cX4_end_0 : List UInt8 := 0x2a :: 0x1b :: 0xb6 :: 0x00 :: 0x3d :: 0x9a :: 0x00 :: 0x05 :: 0x02 :: 0xac :: 0x1c :: 0x03 :: 0x11 :: 0x13 :: 0x88 :: 0xb8 :: RB_cX4_end_1
theorem tB_cX4_end_0 : cX4_end.data.toList.drop 0 = RB_cX4_end_0 := by decide +kernel
theorem tB_cX4_end_1 : cX4_end.data.toList.drop 16 = RB_cX4_end_1 := od_st tB_cX4_end_0 16 rfl
theorem tB_cX4_end_2 : cX4_end.data.toList.drop 32 = RB_cX4_end_2 := od_st tB_cX4_end_1 16 rfl
theorem dX4_end_0 : decode cX4_end 0 = .ok (.aload_n 0, 1) := od_42 (od_at tB_cX4_end_0 0 rfl)
theorem dX4_end_1 : decode cX4_end 1 = .ok (.iload_n 1, 1) := od_27 (od_at tB_cX4_end_0 1 rfl)
theorem dX4_end_2 : decode cX4_end 2 = .ok (.invokevirtual 61, 3) := od_182 (od_at tB_cX4_end_0 2 rfl) (od_at tB_cX4_end_0 3 rfl) (od_at tB_cX4_end_0 4 rfl) rfl
theorem dX4_end_5 : decode cX4_end 5 = .ok (.ifCond .ne 5, 3) := od_154 (od_at tB_cX4_end_0 5 rfl) (od_at tB_cX4_end_0 6 rfl) (od_at tB_cX4_end_0 7 rfl) (by decide +kernel)
theorem dX4_end_8 : decode cX4_end 8 = .ok (.iconst (-1), 1) := od_2 (od_at tB_cX4_end_0 8 rfl)
theorem dX4_end_9 : decode cX4_end 9 = .ok (.ireturn, 1) := od_172 (od_at tB_cX4_end_0 9 rfl)
theorem dX4_end_10 : decode cX4_end 10 = .ok (.iload_n 2, 1) := od_28 (od_at tB_cX4_end_0 10 rfl)
theorem dX4_end_11 : decode cX4_end 11 = .ok (.iconst 0, 1) := od_3 (od_at tB_cX4_end_0 11 rfl)
theorem dX4_end_12 : decode cX4_end 12 = .ok (.sipush 5000, 3) := od_17 (od_at tB_cX4_end_0 12 rfl) (od_at tB_cX4_end_0 13 rfl) (od_at tB_cX4_end_0 14 rfl) (by decide +kernel)
theorem dX4_end_15 : decode cX4_end 15 = .ok (.invokestatic 54, 3) := od_184 (od_at tB_cX4_end_0 15 rfl) (od_at tB_cX4_end_0 16 rfl) (od_at tB_cX4_end_0 17 rfl) rfl
theorem dX4_end_18 : decode cX4_end 18 = .ok (.ifCond .ne 6, 3) := od_154 (od_at tB_cX4_end_1 2 rfl) (od_at tB_cX4_end_1 3 rfl) (od_at tB_cX4_end_1 4 rfl) (by decide +kernel)
theorem dX4_end_21 : decode cX4_end 21 = .ok (.bipush (-2), 2) := od_16 (od_at tB_cX4_end_1 5 rfl) (od_at tB_cX4_end_1 6 rfl) (by decide +kernel)
theorem dX4_end_23 : decode cX4_end 23 = .ok (.ireturn, 1) := od_172 (od_at tB_cX4_end_1 7 rfl)
theorem dX4_end_24 : decode cX4_end 24 = .ok (.aload_n 0, 1) := od_42 (od_at tB_cX4_end_1 8 rfl)
theorem dX4_end_25 : decode cX4_end 25 = .ok (.getfield 13, 3) := od_180 (od_at tB_cX4_end_1 9 rfl) (od_at tB_cX4_end_1 10 rfl) (od_at tB_cX4_end_1 11 rfl) rfl
theorem dX4_end_28 : decode cX4_end 28 = .ok (.iload_n 1, 1) := od_27 (od_at tB_cX4_end_1 12 rfl)
theorem dX4_end_29 : decode cX4_end 29 = .ok (.aaload, 1) := od_50 (od_at tB_cX4_end_1 13 rfl)
theorem dX4_end_30 : decode cX4_end 30 = .ok (.getfield 203, 3) := od_180 (od_at tB_cX4_end_1 14 rfl) (od_at tB_cX4_end_1 15 rfl) (od_at tB_cX4_end_1 16 rfl) rfl
theorem dX4_end_33 : decode cX4_end 33 = .ok (.istore_n 3, 1) := od_62 (od_at tB_cX4_end_2 1 rfl)
theorem dX4_end_34 : decode cX4_end 34 = .ok (.aload_n 0, 1) := od_42 (od_at tB_cX4_end_2 2 rfl)
theorem dX4_end_35 : decode cX4_end 35 = .ok (.getfield 13, 3) := od_180 (od_at tB_cX4_end_2 3 rfl) (od_at tB_cX4_end_2 4 rfl) (od_at tB_cX4_end_2 5 rfl) rfl
theorem dX4_end_38 : decode cX4_end 38 = .ok (.iload_n 1, 1) := od_27 (od_at tB_cX4_end_2 6 rfl)
theorem dX4_end_39 : decode cX4_end 39 = .ok (.aaload, 1) := od_50 (od_at tB_cX4_end_2 7 rfl)
theorem dX4_end_40 : decode cX4_end 40 = .ok (.iload_n 2, 1) := od_28 (od_at tB_cX4_end_2 8 rfl)
theorem dX4_end_41 : decode cX4_end 41 = .ok (.putfield 203, 3) := od_181 (od_at tB_cX4_end_2 9 rfl) (od_at tB_cX4_end_2 10 rfl) (od_at tB_cX4_end_2 11 rfl) rfl
theorem dX4_end_44 : decode cX4_end 44 = .ok (.iload_n 3, 1) := od_29 (od_at tB_cX4_end_2 12 rfl)
theorem dX4_end_45 : decode cX4_end 45 = .ok (.ireturn, 1) := od_172 (od_at tB_cX4_end_2 13 rfl)
def RB_cX4_balance_3 : List UInt8 := 0xb6 :: 0x00 :: 0xd1 :: 0xad :: []
def RB_cX4_balance_2 : List UInt8 := 0x00 :: 0x0d :: 0x2a :: 0x1b :: 0x1c :: 0x1d :: 0xb6 :: 0x00 :: 0xce :: 0xa7 :: 0x00 :: 0x0a :: 0x2a :: 0x1b :: 0x1c :: 0x1d :: RB_cX4_balance_3
def RB_cX4_balance_1 : List UInt8 := 0x0b :: 0x1c :: 0x1d :: 0xb8 :: 0x00 :: 0xa4 :: 0x9a :: 0x00 :: 0x07 :: 0x14 :: 0x00 :: 0x6a :: 0xad :: 0x15 :: 0x04 :: 0x9a :: RB_cX4_balance_2
def RB_cX4_balance_0 : List UInt8 := 0x1b :: 0xb8 :: 0x00 :: 0xc5 :: 0x99 :: 0x00 :: 0x15 :: 0x15 :: 0x04 :: 0x03 :: 0x04 :: 0xb8 :: 0x00 :: 0x36 :: 0x99 :: 0x00 :: RB_cX4_balance_1
theorem tB_cX4_balance_0 : cX4_balance.data.toList.drop 0 = RB_cX4_balance_0 := by decide +kernel
theorem tB_cX4_balance_1 : cX4_balance.data.toList.drop 16 = RB_cX4_balance_1 := od_st tB_cX4_balance_0 16 rfl
theorem tB_cX4_balance_2 : cX4_balance.data.toList.drop 32 = RB_cX4_balance_2 := od_st tB_cX4_balance_1 16 rfl
theorem tB_cX4_balance_3 : cX4_balance.data.toList.drop 48 = RB_cX4_balance_3 := od_st tB_cX4_balance_2 16 rfl
theorem dX4_balance_0 : decode cX4_balance 0 = .ok (.iload_n 1, 1) := od_27 (od_at tB_cX4_balance_0 0 rfl)
theorem dX4_balance_1 : decode cX4_balance 1 = .ok (.invokestatic 197, 3) := od_184 (od_at tB_cX4_balance_0 1 rfl) (od_at tB_cX4_balance_0 2 rfl) (od_at tB_cX4_balance_0 3 rfl) rfl
theorem dX4_balance_4 : decode cX4_balance 4 = .ok (.ifCond .eq 21, 3) := od_153 (od_at tB_cX4_balance_0 4 rfl) (od_at tB_cX4_balance_0 5 rfl) (od_at tB_cX4_balance_0 6 rfl) (by decide +kernel)
theorem dX4_balance_7 : decode cX4_balance 7 = .ok (.iload 4, 2) := od_21 (od_at tB_cX4_balance_0 7 rfl) (od_at tB_cX4_balance_0 8 rfl) rfl
theorem dX4_balance_9 : decode cX4_balance 9 = .ok (.iconst 0, 1) := od_3 (od_at tB_cX4_balance_0 9 rfl)
theorem dX4_balance_10 : decode cX4_balance 10 = .ok (.iconst 1, 1) := od_4 (od_at tB_cX4_balance_0 10 rfl)
theorem dX4_balance_11 : decode cX4_balance 11 = .ok (.invokestatic 54, 3) := od_184 (od_at tB_cX4_balance_0 11 rfl) (od_at tB_cX4_balance_0 12 rfl) (od_at tB_cX4_balance_0 13 rfl) rfl
theorem dX4_balance_14 : decode cX4_balance 14 = .ok (.ifCond .eq 11, 3) := od_153 (od_at tB_cX4_balance_0 14 rfl) (od_at tB_cX4_balance_0 15 rfl) (od_at tB_cX4_balance_0 16 rfl) (by decide +kernel)
theorem dX4_balance_17 : decode cX4_balance 17 = .ok (.iload_n 2, 1) := od_28 (od_at tB_cX4_balance_1 1 rfl)
theorem dX4_balance_18 : decode cX4_balance 18 = .ok (.iload_n 3, 1) := od_29 (od_at tB_cX4_balance_1 2 rfl)
theorem dX4_balance_19 : decode cX4_balance 19 = .ok (.invokestatic 164, 3) := od_184 (od_at tB_cX4_balance_1 3 rfl) (od_at tB_cX4_balance_1 4 rfl) (od_at tB_cX4_balance_1 5 rfl) rfl
theorem dX4_balance_22 : decode cX4_balance 22 = .ok (.ifCond .ne 7, 3) := od_154 (od_at tB_cX4_balance_1 6 rfl) (od_at tB_cX4_balance_1 7 rfl) (od_at tB_cX4_balance_1 8 rfl) (by decide +kernel)
theorem dX4_balance_25 : decode cX4_balance 25 = .ok (.ldc2_w 106, 3) := od_20 (od_at tB_cX4_balance_1 9 rfl) (od_at tB_cX4_balance_1 10 rfl) (od_at tB_cX4_balance_1 11 rfl) rfl
theorem dX4_balance_28 : decode cX4_balance 28 = .ok (.lreturn, 1) := od_173 (od_at tB_cX4_balance_1 12 rfl)
theorem dX4_balance_29 : decode cX4_balance 29 = .ok (.iload 4, 2) := od_21 (od_at tB_cX4_balance_1 13 rfl) (od_at tB_cX4_balance_1 14 rfl) rfl
theorem dX4_balance_31 : decode cX4_balance 31 = .ok (.ifCond .ne 13, 3) := od_154 (od_at tB_cX4_balance_1 15 rfl) (od_at tB_cX4_balance_1 16 rfl) (od_at tB_cX4_balance_1 17 rfl) (by decide +kernel)
theorem dX4_balance_34 : decode cX4_balance 34 = .ok (.aload_n 0, 1) := od_42 (od_at tB_cX4_balance_2 2 rfl)
theorem dX4_balance_35 : decode cX4_balance 35 = .ok (.iload_n 1, 1) := od_27 (od_at tB_cX4_balance_2 3 rfl)
theorem dX4_balance_36 : decode cX4_balance 36 = .ok (.iload_n 2, 1) := od_28 (od_at tB_cX4_balance_2 4 rfl)
theorem dX4_balance_37 : decode cX4_balance 37 = .ok (.iload_n 3, 1) := od_29 (od_at tB_cX4_balance_2 5 rfl)
theorem dX4_balance_38 : decode cX4_balance 38 = .ok (.invokevirtual 206, 3) := od_182 (od_at tB_cX4_balance_2 6 rfl) (od_at tB_cX4_balance_2 7 rfl) (od_at tB_cX4_balance_2 8 rfl) rfl
theorem dX4_balance_41 : decode cX4_balance 41 = .ok (.goto 10, 3) := od_167 (od_at tB_cX4_balance_2 9 rfl) (od_at tB_cX4_balance_2 10 rfl) (od_at tB_cX4_balance_2 11 rfl) (by decide +kernel)
theorem dX4_balance_44 : decode cX4_balance 44 = .ok (.aload_n 0, 1) := od_42 (od_at tB_cX4_balance_2 12 rfl)
theorem dX4_balance_45 : decode cX4_balance 45 = .ok (.iload_n 1, 1) := od_27 (od_at tB_cX4_balance_2 13 rfl)
theorem dX4_balance_46 : decode cX4_balance 46 = .ok (.iload_n 2, 1) := od_28 (od_at tB_cX4_balance_2 14 rfl)
theorem dX4_balance_47 : decode cX4_balance 47 = .ok (.iload_n 3, 1) := od_29 (od_at tB_cX4_balance_2 15 rfl)
theorem dX4_balance_48 : decode cX4_balance 48 = .ok (.invokevirtual 209, 3) := od_182 (od_at tB_cX4_balance_3 0 rfl) (od_at tB_cX4_balance_3 1 rfl) (od_at tB_cX4_balance_3 2 rfl) rfl
theorem dX4_balance_51 : decode cX4_balance 51 = .ok (.lreturn, 1) := od_173 (od_at tB_cX4_balance_3 3 rfl)
def RB_cX4_beyond_1 : List UInt8 := 0x05 :: 0x10 :: 0xfe :: 0xac :: []
def RB_cX4_beyond_0 : List UInt8 := 0x1b :: 0x1c :: 0xb8 :: 0x00 :: 0xa4 :: 0x99 :: 0x00 :: 0x0c :: 0x2a :: 0x1b :: 0x1c :: 0xb6 :: 0x00 :: 0xd4 :: 0xa7 :: 0x00 :: RB_cX4_beyond_1
theorem tB_cX4_beyond_0 : cX4_beyond.data.toList.drop 0 = RB_cX4_beyond_0 := by decide +kernel
theorem tB_cX4_beyond_1 : cX4_beyond.data.toList.drop 16 = RB_cX4_beyond_1 := od_st tB_cX4_beyond_0 16 rfl
theorem dX4_beyond_0 : decode cX4_beyond 0 = .ok (.iload_n 1, 1) := od_27 (od_at tB_cX4_beyond_0 0 rfl)
theorem dX4_beyond_1 : decode cX4_beyond 1 = .ok (.iload_n 2, 1) := od_28 (od_at tB_cX4_beyond_0 1 rfl)
theorem dX4_beyond_2 : decode cX4_beyond 2 = .ok (.invokestatic 164, 3) := od_184 (od_at tB_cX4_beyond_0 2 rfl) (od_at tB_cX4_beyond_0 3 rfl) (od_at tB_cX4_beyond_0 4 rfl) rfl
theorem dX4_beyond_5 : decode cX4_beyond 5 = .ok (.ifCond .eq 12, 3) := od_153 (od_at tB_cX4_beyond_0 5 rfl) (od_at tB_cX4_beyond_0 6 rfl) (od_at tB_cX4_beyond_0 7 rfl) (by decide +kernel)
theorem dX4_beyond_8 : decode cX4_beyond 8 = .ok (.aload_n 0, 1) := od_42 (od_at tB_cX4_beyond_0 8 rfl)
theorem dX4_beyond_9 : decode cX4_beyond 9 = .ok (.iload_n 1, 1) := od_27 (od_at tB_cX4_beyond_0 9 rfl)
theorem dX4_beyond_10 : decode cX4_beyond 10 = .ok (.iload_n 2, 1) := od_28 (od_at tB_cX4_beyond_0 10 rfl)
theorem dX4_beyond_11 : decode cX4_beyond 11 = .ok (.invokevirtual 212, 3) := od_182 (od_at tB_cX4_beyond_0 11 rfl) (od_at tB_cX4_beyond_0 12 rfl) (od_at tB_cX4_beyond_0 13 rfl) rfl
theorem dX4_beyond_14 : decode cX4_beyond 14 = .ok (.goto 5, 3) := od_167 (od_at tB_cX4_beyond_0 14 rfl) (od_at tB_cX4_beyond_0 15 rfl) (od_at tB_cX4_beyond_0 16 rfl) (by decide +kernel)
theorem dX4_beyond_17 : decode cX4_beyond 17 = .ok (.bipush (-2), 2) := od_16 (od_at tB_cX4_beyond_1 1 rfl) (od_at tB_cX4_beyond_1 2 rfl) (by decide +kernel)
theorem dX4_beyond_19 : decode cX4_beyond 19 = .ok (.ireturn, 1) := od_172 (od_at tB_cX4_beyond_1 3 rfl)
def RB_cX4_explains_10 : List UInt8 := 0x05 :: 0xa7 :: 0x00 :: 0x05 :: 0x16 :: 0x07 :: 0xad :: []
def RB_cX4_explains_9 : List UInt8 := 0x16 :: 0x07 :: 0x94 :: 0x9e :: 0x00 :: 0x05 :: 0x09 :: 0xad :: 0x16 :: 0x05 :: 0x09 :: 0x94 :: 0x9e :: 0x00 :: 0x08 :: 0x16 :: RB_cX4_explains_10
def RB_cX4_explains_8 : List UInt8 := 0x05 :: 0x09 :: 0xad :: 0x84 :: 0x09 :: 0x01 :: 0xa7 :: 0xff :: 0xa3 :: 0x15 :: 0x04 :: 0x99 :: 0x00 :: 0x0b :: 0x16 :: 0x05 :: RB_cX4_explains_9
def RB_cX4_explains_7 : List UInt8 := 0xe1 :: 0x37 :: 0x07 :: 0xa7 :: 0x00 :: 0x10 :: 0x15 :: 0x04 :: 0x15 :: 0x09 :: 0x7a :: 0x04 :: 0x7e :: 0x04 :: 0xa0 :: 0x00 :: RB_cX4_explains_8
def RB_cX4_explains_6 : List UInt8 := 0x0d :: 0x65 :: 0xb8 :: 0x00 :: 0xdb :: 0x37 :: 0x05 :: 0x16 :: 0x07 :: 0x16 :: 0x0b :: 0x16 :: 0x0d :: 0x61 :: 0xb8 :: 0x00 :: RB_cX4_explains_7
def RB_cX4_explains_5 : List UInt8 := 0x0b :: 0x2a :: 0x15 :: 0x09 :: 0x1c :: 0x1d :: 0xb6 :: 0x00 :: 0xd1 :: 0x37 :: 0x0d :: 0x16 :: 0x05 :: 0x16 :: 0x0b :: 0x16 :: RB_cX4_explains_6
def RB_cX4_explains_4 : List UInt8 := 0x00 :: 0x37 :: 0x15 :: 0x0a :: 0x74 :: 0x85 :: 0x2a :: 0x15 :: 0x09 :: 0x1c :: 0x1d :: 0xb6 :: 0x00 :: 0xce :: 0x69 :: 0x37 :: RB_cX4_explains_5
def RB_cX4_explains_3 : List UInt8 := 0xb4 :: 0x00 :: 0x0d :: 0x1b :: 0x32 :: 0xb4 :: 0x00 :: 0xc8 :: 0x15 :: 0x09 :: 0x2e :: 0x36 :: 0x0a :: 0x15 :: 0x0a :: 0x99 :: RB_cX4_explains_4
def RB_cX4_explains_2 : List UInt8 := 0x05 :: 0x14 :: 0x00 :: 0xd9 :: 0x37 :: 0x07 :: 0x03 :: 0x36 :: 0x09 :: 0x15 :: 0x09 :: 0x07 :: 0xa2 :: 0x00 :: 0x5d :: 0x2a :: RB_cX4_explains_3
def RB_cX4_explains_1 : List UInt8 := 0x14 :: 0x00 :: 0x6a :: 0xad :: 0x2a :: 0x1c :: 0x1d :: 0xb6 :: 0x00 :: 0xd4 :: 0x36 :: 0x04 :: 0x14 :: 0x00 :: 0xd7 :: 0x37 :: RB_cX4_explains_2
def RB_cX4_explains_0 : List UInt8 := 0x2a :: 0x1b :: 0xb6 :: 0x00 :: 0x3d :: 0x99 :: 0x00 :: 0x0b :: 0x1c :: 0x1d :: 0xb8 :: 0x00 :: 0xa4 :: 0x9a :: 0x00 :: 0x07 :: RB_cX4_explains_1
theorem tB_cX4_explains_0 : cX4_explains.data.toList.drop 0 = RB_cX4_explains_0 := by decide +kernel
theorem tB_cX4_explains_1 : cX4_explains.data.toList.drop 16 = RB_cX4_explains_1 := od_st tB_cX4_explains_0 16 rfl
theorem tB_cX4_explains_2 : cX4_explains.data.toList.drop 32 = RB_cX4_explains_2 := od_st tB_cX4_explains_1 16 rfl
theorem tB_cX4_explains_3 : cX4_explains.data.toList.drop 48 = RB_cX4_explains_3 := od_st tB_cX4_explains_2 16 rfl
theorem tB_cX4_explains_4 : cX4_explains.data.toList.drop 64 = RB_cX4_explains_4 := od_st tB_cX4_explains_3 16 rfl
theorem tB_cX4_explains_5 : cX4_explains.data.toList.drop 80 = RB_cX4_explains_5 := od_st tB_cX4_explains_4 16 rfl
theorem tB_cX4_explains_6 : cX4_explains.data.toList.drop 96 = RB_cX4_explains_6 := od_st tB_cX4_explains_5 16 rfl
theorem tB_cX4_explains_7 : cX4_explains.data.toList.drop 112 = RB_cX4_explains_7 := od_st tB_cX4_explains_6 16 rfl
theorem tB_cX4_explains_8 : cX4_explains.data.toList.drop 128 = RB_cX4_explains_8 := od_st tB_cX4_explains_7 16 rfl
theorem tB_cX4_explains_9 : cX4_explains.data.toList.drop 144 = RB_cX4_explains_9 := od_st tB_cX4_explains_8 16 rfl
theorem tB_cX4_explains_10 : cX4_explains.data.toList.drop 160 = RB_cX4_explains_10 := od_st tB_cX4_explains_9 16 rfl
theorem dX4_explains_0 : decode cX4_explains 0 = .ok (.aload_n 0, 1) := od_42 (od_at tB_cX4_explains_0 0 rfl)
theorem dX4_explains_1 : decode cX4_explains 1 = .ok (.iload_n 1, 1) := od_27 (od_at tB_cX4_explains_0 1 rfl)
theorem dX4_explains_2 : decode cX4_explains 2 = .ok (.invokevirtual 61, 3) := od_182 (od_at tB_cX4_explains_0 2 rfl) (od_at tB_cX4_explains_0 3 rfl) (od_at tB_cX4_explains_0 4 rfl) rfl
theorem dX4_explains_5 : decode cX4_explains 5 = .ok (.ifCond .eq 11, 3) := od_153 (od_at tB_cX4_explains_0 5 rfl) (od_at tB_cX4_explains_0 6 rfl) (od_at tB_cX4_explains_0 7 rfl) (by decide +kernel)
theorem dX4_explains_8 : decode cX4_explains 8 = .ok (.iload_n 2, 1) := od_28 (od_at tB_cX4_explains_0 8 rfl)
theorem dX4_explains_9 : decode cX4_explains 9 = .ok (.iload_n 3, 1) := od_29 (od_at tB_cX4_explains_0 9 rfl)
theorem dX4_explains_10 : decode cX4_explains 10 = .ok (.invokestatic 164, 3) := od_184 (od_at tB_cX4_explains_0 10 rfl) (od_at tB_cX4_explains_0 11 rfl) (od_at tB_cX4_explains_0 12 rfl) rfl
theorem dX4_explains_13 : decode cX4_explains 13 = .ok (.ifCond .ne 7, 3) := od_154 (od_at tB_cX4_explains_0 13 rfl) (od_at tB_cX4_explains_0 14 rfl) (od_at tB_cX4_explains_0 15 rfl) (by decide +kernel)
theorem dX4_explains_16 : decode cX4_explains 16 = .ok (.ldc2_w 106, 3) := od_20 (od_at tB_cX4_explains_1 0 rfl) (od_at tB_cX4_explains_1 1 rfl) (od_at tB_cX4_explains_1 2 rfl) rfl
theorem dX4_explains_19 : decode cX4_explains 19 = .ok (.lreturn, 1) := od_173 (od_at tB_cX4_explains_1 3 rfl)
theorem dX4_explains_20 : decode cX4_explains 20 = .ok (.aload_n 0, 1) := od_42 (od_at tB_cX4_explains_1 4 rfl)
theorem dX4_explains_21 : decode cX4_explains 21 = .ok (.iload_n 2, 1) := od_28 (od_at tB_cX4_explains_1 5 rfl)
theorem dX4_explains_22 : decode cX4_explains 22 = .ok (.iload_n 3, 1) := od_29 (od_at tB_cX4_explains_1 6 rfl)
theorem dX4_explains_23 : decode cX4_explains 23 = .ok (.invokevirtual 212, 3) := od_182 (od_at tB_cX4_explains_1 7 rfl) (od_at tB_cX4_explains_1 8 rfl) (od_at tB_cX4_explains_1 9 rfl) rfl
theorem dX4_explains_26 : decode cX4_explains 26 = .ok (.istore 4, 2) := od_54 (od_at tB_cX4_explains_1 10 rfl) (od_at tB_cX4_explains_1 11 rfl) rfl
theorem dX4_explains_28 : decode cX4_explains 28 = .ok (.ldc2_w 215, 3) := od_20 (od_at tB_cX4_explains_1 12 rfl) (od_at tB_cX4_explains_1 13 rfl) (od_at tB_cX4_explains_1 14 rfl) rfl
theorem dX4_explains_31 : decode cX4_explains 31 = .ok (.lstore 5, 2) := od_55 (od_at tB_cX4_explains_1 15 rfl) (od_at tB_cX4_explains_1 16 rfl) rfl
theorem dX4_explains_33 : decode cX4_explains 33 = .ok (.ldc2_w 217, 3) := od_20 (od_at tB_cX4_explains_2 1 rfl) (od_at tB_cX4_explains_2 2 rfl) (od_at tB_cX4_explains_2 3 rfl) rfl
theorem dX4_explains_36 : decode cX4_explains 36 = .ok (.lstore 7, 2) := od_55 (od_at tB_cX4_explains_2 4 rfl) (od_at tB_cX4_explains_2 5 rfl) rfl
theorem dX4_explains_38 : decode cX4_explains 38 = .ok (.iconst 0, 1) := od_3 (od_at tB_cX4_explains_2 6 rfl)
theorem dX4_explains_39 : decode cX4_explains 39 = .ok (.istore 9, 2) := od_54 (od_at tB_cX4_explains_2 7 rfl) (od_at tB_cX4_explains_2 8 rfl) rfl
theorem dX4_explains_41 : decode cX4_explains 41 = .ok (.iload 9, 2) := od_21 (od_at tB_cX4_explains_2 9 rfl) (od_at tB_cX4_explains_2 10 rfl) rfl
theorem dX4_explains_43 : decode cX4_explains 43 = .ok (.iconst 4, 1) := od_7 (od_at tB_cX4_explains_2 11 rfl)
theorem dX4_explains_44 : decode cX4_explains 44 = .ok (.if_icmp .ge 93, 3) := od_162 (od_at tB_cX4_explains_2 12 rfl) (od_at tB_cX4_explains_2 13 rfl) (od_at tB_cX4_explains_2 14 rfl) (by decide +kernel)
theorem dX4_explains_47 : decode cX4_explains 47 = .ok (.aload_n 0, 1) := od_42 (od_at tB_cX4_explains_2 15 rfl)
theorem dX4_explains_48 : decode cX4_explains 48 = .ok (.getfield 13, 3) := od_180 (od_at tB_cX4_explains_3 0 rfl) (od_at tB_cX4_explains_3 1 rfl) (od_at tB_cX4_explains_3 2 rfl) rfl
theorem dX4_explains_51 : decode cX4_explains 51 = .ok (.iload_n 1, 1) := od_27 (od_at tB_cX4_explains_3 3 rfl)
theorem dX4_explains_52 : decode cX4_explains 52 = .ok (.aaload, 1) := od_50 (od_at tB_cX4_explains_3 4 rfl)
theorem dX4_explains_53 : decode cX4_explains 53 = .ok (.getfield 200, 3) := od_180 (od_at tB_cX4_explains_3 5 rfl) (od_at tB_cX4_explains_3 6 rfl) (od_at tB_cX4_explains_3 7 rfl) rfl
theorem dX4_explains_56 : decode cX4_explains 56 = .ok (.iload 9, 2) := od_21 (od_at tB_cX4_explains_3 8 rfl) (od_at tB_cX4_explains_3 9 rfl) rfl
theorem dX4_explains_58 : decode cX4_explains 58 = .ok (.iaload, 1) := od_46 (od_at tB_cX4_explains_3 10 rfl)
theorem dX4_explains_59 : decode cX4_explains 59 = .ok (.istore 10, 2) := od_54 (od_at tB_cX4_explains_3 11 rfl) (od_at tB_cX4_explains_3 12 rfl) rfl
theorem dX4_explains_61 : decode cX4_explains 61 = .ok (.iload 10, 2) := od_21 (od_at tB_cX4_explains_3 13 rfl) (od_at tB_cX4_explains_3 14 rfl) rfl
theorem dX4_explains_63 : decode cX4_explains 63 = .ok (.ifCond .eq 55, 3) := od_153 (od_at tB_cX4_explains_3 15 rfl) (od_at tB_cX4_explains_3 16 rfl) (od_at tB_cX4_explains_3 17 rfl) (by decide +kernel)
theorem dX4_explains_66 : decode cX4_explains 66 = .ok (.iload 10, 2) := od_21 (od_at tB_cX4_explains_4 2 rfl) (od_at tB_cX4_explains_4 3 rfl) rfl
theorem dX4_explains_68 : decode cX4_explains 68 = .ok (.ineg, 1) := od_116 (od_at tB_cX4_explains_4 4 rfl)
theorem dX4_explains_69 : decode cX4_explains 69 = .ok (.i2l, 1) := od_133 (od_at tB_cX4_explains_4 5 rfl)
theorem dX4_explains_70 : decode cX4_explains 70 = .ok (.aload_n 0, 1) := od_42 (od_at tB_cX4_explains_4 6 rfl)
theorem dX4_explains_71 : decode cX4_explains 71 = .ok (.iload 9, 2) := od_21 (od_at tB_cX4_explains_4 7 rfl) (od_at tB_cX4_explains_4 8 rfl) rfl
theorem dX4_explains_73 : decode cX4_explains 73 = .ok (.iload_n 2, 1) := od_28 (od_at tB_cX4_explains_4 9 rfl)
theorem dX4_explains_74 : decode cX4_explains 74 = .ok (.iload_n 3, 1) := od_29 (od_at tB_cX4_explains_4 10 rfl)
theorem dX4_explains_75 : decode cX4_explains 75 = .ok (.invokevirtual 206, 3) := od_182 (od_at tB_cX4_explains_4 11 rfl) (od_at tB_cX4_explains_4 12 rfl) (od_at tB_cX4_explains_4 13 rfl) rfl
theorem dX4_explains_78 : decode cX4_explains 78 = .ok (.lmul, 1) := od_105 (od_at tB_cX4_explains_4 14 rfl)
theorem dX4_explains_79 : decode cX4_explains 79 = .ok (.lstore 11, 2) := od_55 (od_at tB_cX4_explains_4 15 rfl) (od_at tB_cX4_explains_4 16 rfl) rfl
theorem dX4_explains_81 : decode cX4_explains 81 = .ok (.aload_n 0, 1) := od_42 (od_at tB_cX4_explains_5 1 rfl)
theorem dX4_explains_82 : decode cX4_explains 82 = .ok (.iload 9, 2) := od_21 (od_at tB_cX4_explains_5 2 rfl) (od_at tB_cX4_explains_5 3 rfl) rfl
theorem dX4_explains_84 : decode cX4_explains 84 = .ok (.iload_n 2, 1) := od_28 (od_at tB_cX4_explains_5 4 rfl)
theorem dX4_explains_85 : decode cX4_explains 85 = .ok (.iload_n 3, 1) := od_29 (od_at tB_cX4_explains_5 5 rfl)
theorem dX4_explains_86 : decode cX4_explains 86 = .ok (.invokevirtual 209, 3) := od_182 (od_at tB_cX4_explains_5 6 rfl) (od_at tB_cX4_explains_5 7 rfl) (od_at tB_cX4_explains_5 8 rfl) rfl
theorem dX4_explains_89 : decode cX4_explains 89 = .ok (.lstore 13, 2) := od_55 (od_at tB_cX4_explains_5 9 rfl) (od_at tB_cX4_explains_5 10 rfl) rfl
theorem dX4_explains_91 : decode cX4_explains 91 = .ok (.lload 5, 2) := od_22 (od_at tB_cX4_explains_5 11 rfl) (od_at tB_cX4_explains_5 12 rfl) rfl
theorem dX4_explains_93 : decode cX4_explains 93 = .ok (.lload 11, 2) := od_22 (od_at tB_cX4_explains_5 13 rfl) (od_at tB_cX4_explains_5 14 rfl) rfl
theorem dX4_explains_95 : decode cX4_explains 95 = .ok (.lload 13, 2) := od_22 (od_at tB_cX4_explains_5 15 rfl) (od_at tB_cX4_explains_5 16 rfl) rfl
theorem dX4_explains_97 : decode cX4_explains 97 = .ok (.lsub, 1) := od_101 (od_at tB_cX4_explains_6 1 rfl)
theorem dX4_explains_98 : decode cX4_explains 98 = .ok (.invokestatic 219, 3) := od_184 (od_at tB_cX4_explains_6 2 rfl) (od_at tB_cX4_explains_6 3 rfl) (od_at tB_cX4_explains_6 4 rfl) rfl
theorem dX4_explains_101 : decode cX4_explains 101 = .ok (.lstore 5, 2) := od_55 (od_at tB_cX4_explains_6 5 rfl) (od_at tB_cX4_explains_6 6 rfl) rfl
theorem dX4_explains_103 : decode cX4_explains 103 = .ok (.lload 7, 2) := od_22 (od_at tB_cX4_explains_6 7 rfl) (od_at tB_cX4_explains_6 8 rfl) rfl
theorem dX4_explains_105 : decode cX4_explains 105 = .ok (.lload 11, 2) := od_22 (od_at tB_cX4_explains_6 9 rfl) (od_at tB_cX4_explains_6 10 rfl) rfl
theorem dX4_explains_107 : decode cX4_explains 107 = .ok (.lload 13, 2) := od_22 (od_at tB_cX4_explains_6 11 rfl) (od_at tB_cX4_explains_6 12 rfl) rfl
theorem dX4_explains_109 : decode cX4_explains 109 = .ok (.ladd, 1) := od_97 (od_at tB_cX4_explains_6 13 rfl)
theorem dX4_explains_110 : decode cX4_explains 110 = .ok (.invokestatic 225, 3) := od_184 (od_at tB_cX4_explains_6 14 rfl) (od_at tB_cX4_explains_6 15 rfl) (od_at tB_cX4_explains_6 16 rfl) rfl
theorem dX4_explains_113 : decode cX4_explains 113 = .ok (.lstore 7, 2) := od_55 (od_at tB_cX4_explains_7 1 rfl) (od_at tB_cX4_explains_7 2 rfl) rfl
theorem dX4_explains_115 : decode cX4_explains 115 = .ok (.goto 16, 3) := od_167 (od_at tB_cX4_explains_7 3 rfl) (od_at tB_cX4_explains_7 4 rfl) (od_at tB_cX4_explains_7 5 rfl) (by decide +kernel)
theorem dX4_explains_118 : decode cX4_explains 118 = .ok (.iload 4, 2) := od_21 (od_at tB_cX4_explains_7 6 rfl) (od_at tB_cX4_explains_7 7 rfl) rfl
theorem dX4_explains_120 : decode cX4_explains 120 = .ok (.iload 9, 2) := od_21 (od_at tB_cX4_explains_7 8 rfl) (od_at tB_cX4_explains_7 9 rfl) rfl
theorem dX4_explains_122 : decode cX4_explains 122 = .ok (.ishr, 1) := od_122 (od_at tB_cX4_explains_7 10 rfl)
theorem dX4_explains_123 : decode cX4_explains 123 = .ok (.iconst 1, 1) := od_4 (od_at tB_cX4_explains_7 11 rfl)
theorem dX4_explains_124 : decode cX4_explains 124 = .ok (.iand, 1) := od_126 (od_at tB_cX4_explains_7 12 rfl)
theorem dX4_explains_125 : decode cX4_explains 125 = .ok (.iconst 1, 1) := od_4 (od_at tB_cX4_explains_7 13 rfl)
theorem dX4_explains_126 : decode cX4_explains 126 = .ok (.if_icmp .ne 5, 3) := od_160 (od_at tB_cX4_explains_7 14 rfl) (od_at tB_cX4_explains_7 15 rfl) (od_at tB_cX4_explains_7 16 rfl) (by decide +kernel)
theorem dX4_explains_129 : decode cX4_explains 129 = .ok (.lconst 0, 1) := od_9 (od_at tB_cX4_explains_8 1 rfl)
theorem dX4_explains_130 : decode cX4_explains 130 = .ok (.lreturn, 1) := od_173 (od_at tB_cX4_explains_8 2 rfl)
theorem dX4_explains_131 : decode cX4_explains 131 = .ok (.iinc 9 1, 3) := od_132 (od_at tB_cX4_explains_8 3 rfl) (od_at tB_cX4_explains_8 4 rfl) (od_at tB_cX4_explains_8 5 rfl) rfl (by decide +kernel)
theorem dX4_explains_134 : decode cX4_explains 134 = .ok (.goto (-93), 3) := od_167 (od_at tB_cX4_explains_8 6 rfl) (od_at tB_cX4_explains_8 7 rfl) (od_at tB_cX4_explains_8 8 rfl) (by decide +kernel)
theorem dX4_explains_137 : decode cX4_explains 137 = .ok (.iload 4, 2) := od_21 (od_at tB_cX4_explains_8 9 rfl) (od_at tB_cX4_explains_8 10 rfl) rfl
theorem dX4_explains_139 : decode cX4_explains 139 = .ok (.ifCond .eq 11, 3) := od_153 (od_at tB_cX4_explains_8 11 rfl) (od_at tB_cX4_explains_8 12 rfl) (od_at tB_cX4_explains_8 13 rfl) (by decide +kernel)
theorem dX4_explains_142 : decode cX4_explains 142 = .ok (.lload 5, 2) := od_22 (od_at tB_cX4_explains_8 14 rfl) (od_at tB_cX4_explains_8 15 rfl) rfl
theorem dX4_explains_144 : decode cX4_explains 144 = .ok (.lload 7, 2) := od_22 (od_at tB_cX4_explains_9 0 rfl) (od_at tB_cX4_explains_9 1 rfl) rfl
theorem dX4_explains_146 : decode cX4_explains 146 = .ok (.lcmp, 1) := od_148 (od_at tB_cX4_explains_9 2 rfl)
theorem dX4_explains_147 : decode cX4_explains 147 = .ok (.ifCond .le 5, 3) := od_158 (od_at tB_cX4_explains_9 3 rfl) (od_at tB_cX4_explains_9 4 rfl) (od_at tB_cX4_explains_9 5 rfl) (by decide +kernel)
theorem dX4_explains_150 : decode cX4_explains 150 = .ok (.lconst 0, 1) := od_9 (od_at tB_cX4_explains_9 6 rfl)
theorem dX4_explains_151 : decode cX4_explains 151 = .ok (.lreturn, 1) := od_173 (od_at tB_cX4_explains_9 7 rfl)
theorem dX4_explains_152 : decode cX4_explains 152 = .ok (.lload 5, 2) := od_22 (od_at tB_cX4_explains_9 8 rfl) (od_at tB_cX4_explains_9 9 rfl) rfl
theorem dX4_explains_154 : decode cX4_explains 154 = .ok (.lconst 0, 1) := od_9 (od_at tB_cX4_explains_9 10 rfl)
theorem dX4_explains_155 : decode cX4_explains 155 = .ok (.lcmp, 1) := od_148 (od_at tB_cX4_explains_9 11 rfl)
theorem dX4_explains_156 : decode cX4_explains 156 = .ok (.ifCond .le 8, 3) := od_158 (od_at tB_cX4_explains_9 12 rfl) (od_at tB_cX4_explains_9 13 rfl) (od_at tB_cX4_explains_9 14 rfl) (by decide +kernel)
theorem dX4_explains_159 : decode cX4_explains 159 = .ok (.lload 5, 2) := od_22 (od_at tB_cX4_explains_9 15 rfl) (od_at tB_cX4_explains_9 16 rfl) rfl
theorem dX4_explains_161 : decode cX4_explains 161 = .ok (.goto 5, 3) := od_167 (od_at tB_cX4_explains_10 1 rfl) (od_at tB_cX4_explains_10 2 rfl) (od_at tB_cX4_explains_10 3 rfl) (by decide +kernel)
theorem dX4_explains_164 : decode cX4_explains 164 = .ok (.lload 7, 2) := od_22 (od_at tB_cX4_explains_10 4 rfl) (od_at tB_cX4_explains_10 5 rfl) rfl
theorem dX4_explains_166 : decode cX4_explains 166 = .ok (.lreturn, 1) := od_173 (od_at tB_cX4_explains_10 6 rfl)
def RB_cX4_sheet_3 : List UInt8 := 0xb6 :: 0x00 :: 0xed :: 0x04 :: 0xac :: []
def RB_cX4_sheet_2 : List UInt8 := 0x00 :: 0x09 :: 0x2a :: 0x07 :: 0xb6 :: 0x00 :: 0xea :: 0xac :: 0x2a :: 0xb4 :: 0x00 :: 0x2a :: 0x1b :: 0x32 :: 0x1c :: 0x1d :: RB_cX4_sheet_3
def RB_cX4_sheet_1 : List UInt8 := 0x00 :: 0xe7 :: 0x99 :: 0x00 :: 0x09 :: 0x1d :: 0x10 :: 0x3c :: 0xa4 :: 0x00 :: 0x06 :: 0x10 :: 0xfe :: 0xac :: 0x1d :: 0x9c :: RB_cX4_sheet_2
def RB_cX4_sheet_0 : List UInt8 := 0x2a :: 0x03 :: 0xb5 :: 0x00 :: 0x31 :: 0x1b :: 0xb8 :: 0x00 :: 0xe4 :: 0x9a :: 0x00 :: 0x05 :: 0x02 :: 0xac :: 0x1c :: 0xb8 :: RB_cX4_sheet_1
theorem tB_cX4_sheet_0 : cX4_sheet.data.toList.drop 0 = RB_cX4_sheet_0 := by decide +kernel
theorem tB_cX4_sheet_1 : cX4_sheet.data.toList.drop 16 = RB_cX4_sheet_1 := od_st tB_cX4_sheet_0 16 rfl
theorem tB_cX4_sheet_2 : cX4_sheet.data.toList.drop 32 = RB_cX4_sheet_2 := od_st tB_cX4_sheet_1 16 rfl
theorem tB_cX4_sheet_3 : cX4_sheet.data.toList.drop 48 = RB_cX4_sheet_3 := od_st tB_cX4_sheet_2 16 rfl
theorem dX4_sheet_0 : decode cX4_sheet 0 = .ok (.aload_n 0, 1) := od_42 (od_at tB_cX4_sheet_0 0 rfl)
theorem dX4_sheet_1 : decode cX4_sheet 1 = .ok (.iconst 0, 1) := od_3 (od_at tB_cX4_sheet_0 1 rfl)
theorem dX4_sheet_2 : decode cX4_sheet 2 = .ok (.putfield 49, 3) := od_181 (od_at tB_cX4_sheet_0 2 rfl) (od_at tB_cX4_sheet_0 3 rfl) (od_at tB_cX4_sheet_0 4 rfl) rfl
theorem dX4_sheet_5 : decode cX4_sheet 5 = .ok (.iload_n 1, 1) := od_27 (od_at tB_cX4_sheet_0 5 rfl)
theorem dX4_sheet_6 : decode cX4_sheet 6 = .ok (.invokestatic 228, 3) := od_184 (od_at tB_cX4_sheet_0 6 rfl) (od_at tB_cX4_sheet_0 7 rfl) (od_at tB_cX4_sheet_0 8 rfl) rfl
theorem dX4_sheet_9 : decode cX4_sheet 9 = .ok (.ifCond .ne 5, 3) := od_154 (od_at tB_cX4_sheet_0 9 rfl) (od_at tB_cX4_sheet_0 10 rfl) (od_at tB_cX4_sheet_0 11 rfl) (by decide +kernel)
theorem dX4_sheet_12 : decode cX4_sheet 12 = .ok (.iconst (-1), 1) := od_2 (od_at tB_cX4_sheet_0 12 rfl)
theorem dX4_sheet_13 : decode cX4_sheet 13 = .ok (.ireturn, 1) := od_172 (od_at tB_cX4_sheet_0 13 rfl)
theorem dX4_sheet_14 : decode cX4_sheet 14 = .ok (.iload_n 2, 1) := od_28 (od_at tB_cX4_sheet_0 14 rfl)
theorem dX4_sheet_15 : decode cX4_sheet 15 = .ok (.invokestatic 231, 3) := od_184 (od_at tB_cX4_sheet_0 15 rfl) (od_at tB_cX4_sheet_0 16 rfl) (od_at tB_cX4_sheet_0 17 rfl) rfl
theorem dX4_sheet_18 : decode cX4_sheet 18 = .ok (.ifCond .eq 9, 3) := od_153 (od_at tB_cX4_sheet_1 2 rfl) (od_at tB_cX4_sheet_1 3 rfl) (od_at tB_cX4_sheet_1 4 rfl) (by decide +kernel)
theorem dX4_sheet_21 : decode cX4_sheet 21 = .ok (.iload_n 3, 1) := od_29 (od_at tB_cX4_sheet_1 5 rfl)
theorem dX4_sheet_22 : decode cX4_sheet 22 = .ok (.bipush 60, 2) := od_16 (od_at tB_cX4_sheet_1 6 rfl) (od_at tB_cX4_sheet_1 7 rfl) (by decide +kernel)
theorem dX4_sheet_24 : decode cX4_sheet 24 = .ok (.if_icmp .le 6, 3) := od_164 (od_at tB_cX4_sheet_1 8 rfl) (od_at tB_cX4_sheet_1 9 rfl) (od_at tB_cX4_sheet_1 10 rfl) (by decide +kernel)
theorem dX4_sheet_27 : decode cX4_sheet 27 = .ok (.bipush (-2), 2) := od_16 (od_at tB_cX4_sheet_1 11 rfl) (od_at tB_cX4_sheet_1 12 rfl) (by decide +kernel)
theorem dX4_sheet_29 : decode cX4_sheet 29 = .ok (.ireturn, 1) := od_172 (od_at tB_cX4_sheet_1 13 rfl)
theorem dX4_sheet_30 : decode cX4_sheet 30 = .ok (.iload_n 3, 1) := od_29 (od_at tB_cX4_sheet_1 14 rfl)
theorem dX4_sheet_31 : decode cX4_sheet 31 = .ok (.ifCond .ge 9, 3) := od_156 (od_at tB_cX4_sheet_1 15 rfl) (od_at tB_cX4_sheet_1 16 rfl) (od_at tB_cX4_sheet_1 17 rfl) (by decide +kernel)
theorem dX4_sheet_34 : decode cX4_sheet 34 = .ok (.aload_n 0, 1) := od_42 (od_at tB_cX4_sheet_2 2 rfl)
theorem dX4_sheet_35 : decode cX4_sheet 35 = .ok (.iconst 4, 1) := od_7 (od_at tB_cX4_sheet_2 3 rfl)
theorem dX4_sheet_36 : decode cX4_sheet 36 = .ok (.invokevirtual 234, 3) := od_182 (od_at tB_cX4_sheet_2 4 rfl) (od_at tB_cX4_sheet_2 5 rfl) (od_at tB_cX4_sheet_2 6 rfl) rfl
theorem dX4_sheet_39 : decode cX4_sheet 39 = .ok (.ireturn, 1) := od_172 (od_at tB_cX4_sheet_2 7 rfl)
theorem dX4_sheet_40 : decode cX4_sheet 40 = .ok (.aload_n 0, 1) := od_42 (od_at tB_cX4_sheet_2 8 rfl)
theorem dX4_sheet_41 : decode cX4_sheet 41 = .ok (.getfield 42, 3) := od_180 (od_at tB_cX4_sheet_2 9 rfl) (od_at tB_cX4_sheet_2 10 rfl) (od_at tB_cX4_sheet_2 11 rfl) rfl
theorem dX4_sheet_44 : decode cX4_sheet 44 = .ok (.iload_n 1, 1) := od_27 (od_at tB_cX4_sheet_2 12 rfl)
theorem dX4_sheet_45 : decode cX4_sheet 45 = .ok (.aaload, 1) := od_50 (od_at tB_cX4_sheet_2 13 rfl)
theorem dX4_sheet_46 : decode cX4_sheet 46 = .ok (.iload_n 2, 1) := od_28 (od_at tB_cX4_sheet_2 14 rfl)
theorem dX4_sheet_47 : decode cX4_sheet 47 = .ok (.iload_n 3, 1) := od_29 (od_at tB_cX4_sheet_2 15 rfl)
theorem dX4_sheet_48 : decode cX4_sheet 48 = .ok (.invokevirtual 237, 3) := od_182 (od_at tB_cX4_sheet_3 0 rfl) (od_at tB_cX4_sheet_3 1 rfl) (od_at tB_cX4_sheet_3 2 rfl) rfl
theorem dX4_sheet_51 : decode cX4_sheet 51 = .ok (.iconst 1, 1) := od_4 (od_at tB_cX4_sheet_3 3 rfl)
theorem dX4_sheet_52 : decode cX4_sheet 52 = .ok (.ireturn, 1) := od_172 (od_at tB_cX4_sheet_3 4 rfl)
def RB_cX4_lose_2 : List UInt8 := 0x32 :: 0x03 :: 0xb5 :: 0x00 :: 0xf1 :: 0x1c :: 0xac :: []
def RB_cX4_lose_1 : List UInt8 := 0x00 :: 0xf1 :: 0x99 :: 0x00 :: 0x07 :: 0x04 :: 0xa7 :: 0x00 :: 0x04 :: 0x03 :: 0x3d :: 0x2a :: 0xb4 :: 0x00 :: 0x2a :: 0x1b :: RB_cX4_lose_2
def RB_cX4_lose_0 : List UInt8 := 0x1b :: 0xb8 :: 0x00 :: 0xe4 :: 0x9a :: 0x00 :: 0x05 :: 0x02 :: 0xac :: 0x2a :: 0xb4 :: 0x00 :: 0x2a :: 0x1b :: 0x32 :: 0xb4 :: RB_cX4_lose_1
theorem tB_cX4_lose_0 : cX4_lose.data.toList.drop 0 = RB_cX4_lose_0 := by decide +kernel
theorem tB_cX4_lose_1 : cX4_lose.data.toList.drop 16 = RB_cX4_lose_1 := od_st tB_cX4_lose_0 16 rfl
theorem tB_cX4_lose_2 : cX4_lose.data.toList.drop 32 = RB_cX4_lose_2 := od_st tB_cX4_lose_1 16 rfl
theorem dX4_lose_0 : decode cX4_lose 0 = .ok (.iload_n 1, 1) := od_27 (od_at tB_cX4_lose_0 0 rfl)
theorem dX4_lose_1 : decode cX4_lose 1 = .ok (.invokestatic 228, 3) := od_184 (od_at tB_cX4_lose_0 1 rfl) (od_at tB_cX4_lose_0 2 rfl) (od_at tB_cX4_lose_0 3 rfl) rfl
theorem dX4_lose_4 : decode cX4_lose 4 = .ok (.ifCond .ne 5, 3) := od_154 (od_at tB_cX4_lose_0 4 rfl) (od_at tB_cX4_lose_0 5 rfl) (od_at tB_cX4_lose_0 6 rfl) (by decide +kernel)
theorem dX4_lose_7 : decode cX4_lose 7 = .ok (.iconst (-1), 1) := od_2 (od_at tB_cX4_lose_0 7 rfl)
theorem dX4_lose_8 : decode cX4_lose 8 = .ok (.ireturn, 1) := od_172 (od_at tB_cX4_lose_0 8 rfl)
theorem dX4_lose_9 : decode cX4_lose 9 = .ok (.aload_n 0, 1) := od_42 (od_at tB_cX4_lose_0 9 rfl)
theorem dX4_lose_10 : decode cX4_lose 10 = .ok (.getfield 42, 3) := od_180 (od_at tB_cX4_lose_0 10 rfl) (od_at tB_cX4_lose_0 11 rfl) (od_at tB_cX4_lose_0 12 rfl) rfl
theorem dX4_lose_13 : decode cX4_lose 13 = .ok (.iload_n 1, 1) := od_27 (od_at tB_cX4_lose_0 13 rfl)
theorem dX4_lose_14 : decode cX4_lose 14 = .ok (.aaload, 1) := od_50 (od_at tB_cX4_lose_0 14 rfl)
theorem dX4_lose_15 : decode cX4_lose 15 = .ok (.getfield 241, 3) := od_180 (od_at tB_cX4_lose_0 15 rfl) (od_at tB_cX4_lose_0 16 rfl) (od_at tB_cX4_lose_0 17 rfl) rfl
theorem dX4_lose_18 : decode cX4_lose 18 = .ok (.ifCond .eq 7, 3) := od_153 (od_at tB_cX4_lose_1 2 rfl) (od_at tB_cX4_lose_1 3 rfl) (od_at tB_cX4_lose_1 4 rfl) (by decide +kernel)
theorem dX4_lose_21 : decode cX4_lose 21 = .ok (.iconst 1, 1) := od_4 (od_at tB_cX4_lose_1 5 rfl)
theorem dX4_lose_22 : decode cX4_lose 22 = .ok (.goto 4, 3) := od_167 (od_at tB_cX4_lose_1 6 rfl) (od_at tB_cX4_lose_1 7 rfl) (od_at tB_cX4_lose_1 8 rfl) (by decide +kernel)
theorem dX4_lose_25 : decode cX4_lose 25 = .ok (.iconst 0, 1) := od_3 (od_at tB_cX4_lose_1 9 rfl)
theorem dX4_lose_26 : decode cX4_lose 26 = .ok (.istore_n 2, 1) := od_61 (od_at tB_cX4_lose_1 10 rfl)
theorem dX4_lose_27 : decode cX4_lose 27 = .ok (.aload_n 0, 1) := od_42 (od_at tB_cX4_lose_1 11 rfl)
theorem dX4_lose_28 : decode cX4_lose 28 = .ok (.getfield 42, 3) := od_180 (od_at tB_cX4_lose_1 12 rfl) (od_at tB_cX4_lose_1 13 rfl) (od_at tB_cX4_lose_1 14 rfl) rfl
theorem dX4_lose_31 : decode cX4_lose 31 = .ok (.iload_n 1, 1) := od_27 (od_at tB_cX4_lose_1 15 rfl)
theorem dX4_lose_32 : decode cX4_lose 32 = .ok (.aaload, 1) := od_50 (od_at tB_cX4_lose_2 0 rfl)
theorem dX4_lose_33 : decode cX4_lose 33 = .ok (.iconst 0, 1) := od_3 (od_at tB_cX4_lose_2 1 rfl)
theorem dX4_lose_34 : decode cX4_lose 34 = .ok (.putfield 241, 3) := od_181 (od_at tB_cX4_lose_2 2 rfl) (od_at tB_cX4_lose_2 3 rfl) (od_at tB_cX4_lose_2 4 rfl) rfl
theorem dX4_lose_37 : decode cX4_lose 37 = .ok (.iload_n 2, 1) := od_28 (od_at tB_cX4_lose_2 5 rfl)
theorem dX4_lose_38 : decode cX4_lose 38 = .ok (.ireturn, 1) := od_172 (od_at tB_cX4_lose_2 6 rfl)
def RB_cX4_put_3 : List UInt8 := 0x00 :: 0xea :: 0xac :: 0x2a :: 0xb4 :: 0x00 :: 0x2a :: 0x1b :: 0x32 :: 0x1c :: 0x1d :: 0xb6 :: 0x00 :: 0xf7 :: 0x04 :: 0xac :: []
def RB_cX4_put_2 : List UInt8 := 0x2a :: 0xb4 :: 0x00 :: 0x2a :: 0x1b :: 0x32 :: 0x1c :: 0xb6 :: 0x00 :: 0xf4 :: 0x9a :: 0x00 :: 0x09 :: 0x2a :: 0x06 :: 0xb6 :: RB_cX4_put_3
def RB_cX4_put_1 : List UInt8 := 0x00 :: 0x2a :: 0x1b :: 0x32 :: 0xb4 :: 0x00 :: 0xf1 :: 0x9a :: 0x00 :: 0x09 :: 0x2a :: 0x04 :: 0xb6 :: 0x00 :: 0xea :: 0xac :: RB_cX4_put_2
def RB_cX4_put_0 : List UInt8 := 0x2a :: 0x03 :: 0xb5 :: 0x00 :: 0x31 :: 0x1b :: 0xb8 :: 0x00 :: 0xe4 :: 0x9a :: 0x00 :: 0x05 :: 0x02 :: 0xac :: 0x2a :: 0xb4 :: RB_cX4_put_1
theorem tB_cX4_put_0 : cX4_put.data.toList.drop 0 = RB_cX4_put_0 := by decide +kernel
theorem tB_cX4_put_1 : cX4_put.data.toList.drop 16 = RB_cX4_put_1 := od_st tB_cX4_put_0 16 rfl
theorem tB_cX4_put_2 : cX4_put.data.toList.drop 32 = RB_cX4_put_2 := od_st tB_cX4_put_1 16 rfl
theorem tB_cX4_put_3 : cX4_put.data.toList.drop 48 = RB_cX4_put_3 := od_st tB_cX4_put_2 16 rfl
theorem dX4_put_0 : decode cX4_put 0 = .ok (.aload_n 0, 1) := od_42 (od_at tB_cX4_put_0 0 rfl)
theorem dX4_put_1 : decode cX4_put 1 = .ok (.iconst 0, 1) := od_3 (od_at tB_cX4_put_0 1 rfl)
theorem dX4_put_2 : decode cX4_put 2 = .ok (.putfield 49, 3) := od_181 (od_at tB_cX4_put_0 2 rfl) (od_at tB_cX4_put_0 3 rfl) (od_at tB_cX4_put_0 4 rfl) rfl
theorem dX4_put_5 : decode cX4_put 5 = .ok (.iload_n 1, 1) := od_27 (od_at tB_cX4_put_0 5 rfl)
theorem dX4_put_6 : decode cX4_put 6 = .ok (.invokestatic 228, 3) := od_184 (od_at tB_cX4_put_0 6 rfl) (od_at tB_cX4_put_0 7 rfl) (od_at tB_cX4_put_0 8 rfl) rfl
theorem dX4_put_9 : decode cX4_put 9 = .ok (.ifCond .ne 5, 3) := od_154 (od_at tB_cX4_put_0 9 rfl) (od_at tB_cX4_put_0 10 rfl) (od_at tB_cX4_put_0 11 rfl) (by decide +kernel)
theorem dX4_put_12 : decode cX4_put 12 = .ok (.iconst (-1), 1) := od_2 (od_at tB_cX4_put_0 12 rfl)
theorem dX4_put_13 : decode cX4_put 13 = .ok (.ireturn, 1) := od_172 (od_at tB_cX4_put_0 13 rfl)
theorem dX4_put_14 : decode cX4_put 14 = .ok (.aload_n 0, 1) := od_42 (od_at tB_cX4_put_0 14 rfl)
theorem dX4_put_15 : decode cX4_put 15 = .ok (.getfield 42, 3) := od_180 (od_at tB_cX4_put_0 15 rfl) (od_at tB_cX4_put_0 16 rfl) (od_at tB_cX4_put_0 17 rfl) rfl
theorem dX4_put_18 : decode cX4_put 18 = .ok (.iload_n 1, 1) := od_27 (od_at tB_cX4_put_1 2 rfl)
theorem dX4_put_19 : decode cX4_put 19 = .ok (.aaload, 1) := od_50 (od_at tB_cX4_put_1 3 rfl)
theorem dX4_put_20 : decode cX4_put 20 = .ok (.getfield 241, 3) := od_180 (od_at tB_cX4_put_1 4 rfl) (od_at tB_cX4_put_1 5 rfl) (od_at tB_cX4_put_1 6 rfl) rfl
theorem dX4_put_23 : decode cX4_put 23 = .ok (.ifCond .ne 9, 3) := od_154 (od_at tB_cX4_put_1 7 rfl) (od_at tB_cX4_put_1 8 rfl) (od_at tB_cX4_put_1 9 rfl) (by decide +kernel)
theorem dX4_put_26 : decode cX4_put 26 = .ok (.aload_n 0, 1) := od_42 (od_at tB_cX4_put_1 10 rfl)
theorem dX4_put_27 : decode cX4_put 27 = .ok (.iconst 1, 1) := od_4 (od_at tB_cX4_put_1 11 rfl)
theorem dX4_put_28 : decode cX4_put 28 = .ok (.invokevirtual 234, 3) := od_182 (od_at tB_cX4_put_1 12 rfl) (od_at tB_cX4_put_1 13 rfl) (od_at tB_cX4_put_1 14 rfl) rfl
theorem dX4_put_31 : decode cX4_put 31 = .ok (.ireturn, 1) := od_172 (od_at tB_cX4_put_1 15 rfl)
theorem dX4_put_32 : decode cX4_put 32 = .ok (.aload_n 0, 1) := od_42 (od_at tB_cX4_put_2 0 rfl)
theorem dX4_put_33 : decode cX4_put 33 = .ok (.getfield 42, 3) := od_180 (od_at tB_cX4_put_2 1 rfl) (od_at tB_cX4_put_2 2 rfl) (od_at tB_cX4_put_2 3 rfl) rfl
theorem dX4_put_36 : decode cX4_put 36 = .ok (.iload_n 1, 1) := od_27 (od_at tB_cX4_put_2 4 rfl)
theorem dX4_put_37 : decode cX4_put 37 = .ok (.aaload, 1) := od_50 (od_at tB_cX4_put_2 5 rfl)
theorem dX4_put_38 : decode cX4_put 38 = .ok (.iload_n 2, 1) := od_28 (od_at tB_cX4_put_2 6 rfl)
theorem dX4_put_39 : decode cX4_put 39 = .ok (.invokevirtual 244, 3) := od_182 (od_at tB_cX4_put_2 7 rfl) (od_at tB_cX4_put_2 8 rfl) (od_at tB_cX4_put_2 9 rfl) rfl
theorem dX4_put_42 : decode cX4_put 42 = .ok (.ifCond .ne 9, 3) := od_154 (od_at tB_cX4_put_2 10 rfl) (od_at tB_cX4_put_2 11 rfl) (od_at tB_cX4_put_2 12 rfl) (by decide +kernel)
theorem dX4_put_45 : decode cX4_put 45 = .ok (.aload_n 0, 1) := od_42 (od_at tB_cX4_put_2 13 rfl)
theorem dX4_put_46 : decode cX4_put 46 = .ok (.iconst 3, 1) := od_6 (od_at tB_cX4_put_2 14 rfl)
theorem dX4_put_47 : decode cX4_put 47 = .ok (.invokevirtual 234, 3) := od_182 (od_at tB_cX4_put_2 15 rfl) (od_at tB_cX4_put_2 16 rfl) (od_at tB_cX4_put_2 17 rfl) rfl
theorem dX4_put_50 : decode cX4_put 50 = .ok (.ireturn, 1) := od_172 (od_at tB_cX4_put_3 2 rfl)
theorem dX4_put_51 : decode cX4_put 51 = .ok (.aload_n 0, 1) := od_42 (od_at tB_cX4_put_3 3 rfl)
theorem dX4_put_52 : decode cX4_put 52 = .ok (.getfield 42, 3) := od_180 (od_at tB_cX4_put_3 4 rfl) (od_at tB_cX4_put_3 5 rfl) (od_at tB_cX4_put_3 6 rfl) rfl
theorem dX4_put_55 : decode cX4_put 55 = .ok (.iload_n 1, 1) := od_27 (od_at tB_cX4_put_3 7 rfl)
theorem dX4_put_56 : decode cX4_put 56 = .ok (.aaload, 1) := od_50 (od_at tB_cX4_put_3 8 rfl)
theorem dX4_put_57 : decode cX4_put 57 = .ok (.iload_n 2, 1) := od_28 (od_at tB_cX4_put_3 9 rfl)
theorem dX4_put_58 : decode cX4_put 58 = .ok (.iload_n 3, 1) := od_29 (od_at tB_cX4_put_3 10 rfl)
theorem dX4_put_59 : decode cX4_put 59 = .ok (.invokevirtual 247, 3) := od_182 (od_at tB_cX4_put_3 11 rfl) (od_at tB_cX4_put_3 12 rfl) (od_at tB_cX4_put_3 13 rfl) rfl
theorem dX4_put_62 : decode cX4_put 62 = .ok (.iconst 1, 1) := od_4 (od_at tB_cX4_put_3 14 rfl)
theorem dX4_put_63 : decode cX4_put 63 = .ok (.ireturn, 1) := od_172 (od_at tB_cX4_put_3 15 rfl)
def RB_cX4_cell_5 : List UInt8 := 0x85 :: 0xa7 :: 0x00 :: 0x06 :: 0x14 :: 0x00 :: 0x6a :: 0xad :: []
def RB_cX4_cell_4 : List UInt8 := 0x00 :: 0x31 :: 0x9a :: 0x00 :: 0x12 :: 0x2a :: 0xb4 :: 0x00 :: 0x2a :: 0x1b :: 0x32 :: 0xb4 :: 0x00 :: 0xfd :: 0x1c :: 0x2e :: RB_cX4_cell_5
def RB_cX4_cell_3 : List UInt8 := 0x1b :: 0x32 :: 0x1c :: 0xb6 :: 0x00 :: 0xf4 :: 0x9a :: 0x00 :: 0x08 :: 0x2a :: 0x06 :: 0xb5 :: 0x00 :: 0x31 :: 0x2a :: 0xb4 :: RB_cX4_cell_4
def RB_cX4_cell_2 : List UInt8 := 0x00 :: 0xfa :: 0xb5 :: 0x00 :: 0x31 :: 0x2a :: 0xb4 :: 0x00 :: 0x31 :: 0x9a :: 0x00 :: 0x15 :: 0x2a :: 0xb4 :: 0x00 :: 0x2a :: RB_cX4_cell_3
def RB_cX4_cell_1 : List UInt8 := 0x9a :: 0x00 :: 0x07 :: 0x14 :: 0x00 :: 0x6a :: 0xad :: 0x2a :: 0x2a :: 0xb4 :: 0x00 :: 0x2a :: 0x1b :: 0x32 :: 0x1d :: 0xb6 :: RB_cX4_cell_2
def RB_cX4_cell_0 : List UInt8 := 0x2a :: 0x03 :: 0xb5 :: 0x00 :: 0x31 :: 0x1b :: 0xb8 :: 0x00 :: 0xe4 :: 0x99 :: 0x00 :: 0x0a :: 0x1d :: 0xb8 :: 0x00 :: 0xe7 :: RB_cX4_cell_1
theorem tB_cX4_cell_0 : cX4_cell.data.toList.drop 0 = RB_cX4_cell_0 := by decide +kernel
theorem tB_cX4_cell_1 : cX4_cell.data.toList.drop 16 = RB_cX4_cell_1 := od_st tB_cX4_cell_0 16 rfl
theorem tB_cX4_cell_2 : cX4_cell.data.toList.drop 32 = RB_cX4_cell_2 := od_st tB_cX4_cell_1 16 rfl
theorem tB_cX4_cell_3 : cX4_cell.data.toList.drop 48 = RB_cX4_cell_3 := od_st tB_cX4_cell_2 16 rfl
theorem tB_cX4_cell_4 : cX4_cell.data.toList.drop 64 = RB_cX4_cell_4 := od_st tB_cX4_cell_3 16 rfl
theorem tB_cX4_cell_5 : cX4_cell.data.toList.drop 80 = RB_cX4_cell_5 := od_st tB_cX4_cell_4 16 rfl
theorem dX4_cell_0 : decode cX4_cell 0 = .ok (.aload_n 0, 1) := od_42 (od_at tB_cX4_cell_0 0 rfl)
theorem dX4_cell_1 : decode cX4_cell 1 = .ok (.iconst 0, 1) := od_3 (od_at tB_cX4_cell_0 1 rfl)
theorem dX4_cell_2 : decode cX4_cell 2 = .ok (.putfield 49, 3) := od_181 (od_at tB_cX4_cell_0 2 rfl) (od_at tB_cX4_cell_0 3 rfl) (od_at tB_cX4_cell_0 4 rfl) rfl
theorem dX4_cell_5 : decode cX4_cell 5 = .ok (.iload_n 1, 1) := od_27 (od_at tB_cX4_cell_0 5 rfl)
theorem dX4_cell_6 : decode cX4_cell 6 = .ok (.invokestatic 228, 3) := od_184 (od_at tB_cX4_cell_0 6 rfl) (od_at tB_cX4_cell_0 7 rfl) (od_at tB_cX4_cell_0 8 rfl) rfl
theorem dX4_cell_9 : decode cX4_cell 9 = .ok (.ifCond .eq 10, 3) := od_153 (od_at tB_cX4_cell_0 9 rfl) (od_at tB_cX4_cell_0 10 rfl) (od_at tB_cX4_cell_0 11 rfl) (by decide +kernel)
theorem dX4_cell_12 : decode cX4_cell 12 = .ok (.iload_n 3, 1) := od_29 (od_at tB_cX4_cell_0 12 rfl)
theorem dX4_cell_13 : decode cX4_cell 13 = .ok (.invokestatic 231, 3) := od_184 (od_at tB_cX4_cell_0 13 rfl) (od_at tB_cX4_cell_0 14 rfl) (od_at tB_cX4_cell_0 15 rfl) rfl
theorem dX4_cell_16 : decode cX4_cell 16 = .ok (.ifCond .ne 7, 3) := od_154 (od_at tB_cX4_cell_1 0 rfl) (od_at tB_cX4_cell_1 1 rfl) (od_at tB_cX4_cell_1 2 rfl) (by decide +kernel)
theorem dX4_cell_19 : decode cX4_cell 19 = .ok (.ldc2_w 106, 3) := od_20 (od_at tB_cX4_cell_1 3 rfl) (od_at tB_cX4_cell_1 4 rfl) (od_at tB_cX4_cell_1 5 rfl) rfl
theorem dX4_cell_22 : decode cX4_cell 22 = .ok (.lreturn, 1) := od_173 (od_at tB_cX4_cell_1 6 rfl)
theorem dX4_cell_23 : decode cX4_cell 23 = .ok (.aload_n 0, 1) := od_42 (od_at tB_cX4_cell_1 7 rfl)
theorem dX4_cell_24 : decode cX4_cell 24 = .ok (.aload_n 0, 1) := od_42 (od_at tB_cX4_cell_1 8 rfl)
theorem dX4_cell_25 : decode cX4_cell 25 = .ok (.getfield 42, 3) := od_180 (od_at tB_cX4_cell_1 9 rfl) (od_at tB_cX4_cell_1 10 rfl) (od_at tB_cX4_cell_1 11 rfl) rfl
theorem dX4_cell_28 : decode cX4_cell 28 = .ok (.iload_n 1, 1) := od_27 (od_at tB_cX4_cell_1 12 rfl)
theorem dX4_cell_29 : decode cX4_cell 29 = .ok (.aaload, 1) := od_50 (od_at tB_cX4_cell_1 13 rfl)
theorem dX4_cell_30 : decode cX4_cell 30 = .ok (.iload_n 3, 1) := od_29 (od_at tB_cX4_cell_1 14 rfl)
theorem dX4_cell_31 : decode cX4_cell 31 = .ok (.invokevirtual 250, 3) := od_182 (od_at tB_cX4_cell_1 15 rfl) (od_at tB_cX4_cell_1 16 rfl) (od_at tB_cX4_cell_1 17 rfl) rfl
theorem dX4_cell_34 : decode cX4_cell 34 = .ok (.putfield 49, 3) := od_181 (od_at tB_cX4_cell_2 2 rfl) (od_at tB_cX4_cell_2 3 rfl) (od_at tB_cX4_cell_2 4 rfl) rfl
theorem dX4_cell_37 : decode cX4_cell 37 = .ok (.aload_n 0, 1) := od_42 (od_at tB_cX4_cell_2 5 rfl)
theorem dX4_cell_38 : decode cX4_cell 38 = .ok (.getfield 49, 3) := od_180 (od_at tB_cX4_cell_2 6 rfl) (od_at tB_cX4_cell_2 7 rfl) (od_at tB_cX4_cell_2 8 rfl) rfl
theorem dX4_cell_41 : decode cX4_cell 41 = .ok (.ifCond .ne 21, 3) := od_154 (od_at tB_cX4_cell_2 9 rfl) (od_at tB_cX4_cell_2 10 rfl) (od_at tB_cX4_cell_2 11 rfl) (by decide +kernel)
theorem dX4_cell_44 : decode cX4_cell 44 = .ok (.aload_n 0, 1) := od_42 (od_at tB_cX4_cell_2 12 rfl)
theorem dX4_cell_45 : decode cX4_cell 45 = .ok (.getfield 42, 3) := od_180 (od_at tB_cX4_cell_2 13 rfl) (od_at tB_cX4_cell_2 14 rfl) (od_at tB_cX4_cell_2 15 rfl) rfl
theorem dX4_cell_48 : decode cX4_cell 48 = .ok (.iload_n 1, 1) := od_27 (od_at tB_cX4_cell_3 0 rfl)
theorem dX4_cell_49 : decode cX4_cell 49 = .ok (.aaload, 1) := od_50 (od_at tB_cX4_cell_3 1 rfl)
theorem dX4_cell_50 : decode cX4_cell 50 = .ok (.iload_n 2, 1) := od_28 (od_at tB_cX4_cell_3 2 rfl)
theorem dX4_cell_51 : decode cX4_cell 51 = .ok (.invokevirtual 244, 3) := od_182 (od_at tB_cX4_cell_3 3 rfl) (od_at tB_cX4_cell_3 4 rfl) (od_at tB_cX4_cell_3 5 rfl) rfl
theorem dX4_cell_54 : decode cX4_cell 54 = .ok (.ifCond .ne 8, 3) := od_154 (od_at tB_cX4_cell_3 6 rfl) (od_at tB_cX4_cell_3 7 rfl) (od_at tB_cX4_cell_3 8 rfl) (by decide +kernel)
theorem dX4_cell_57 : decode cX4_cell 57 = .ok (.aload_n 0, 1) := od_42 (od_at tB_cX4_cell_3 9 rfl)
theorem dX4_cell_58 : decode cX4_cell 58 = .ok (.iconst 3, 1) := od_6 (od_at tB_cX4_cell_3 10 rfl)
theorem dX4_cell_59 : decode cX4_cell 59 = .ok (.putfield 49, 3) := od_181 (od_at tB_cX4_cell_3 11 rfl) (od_at tB_cX4_cell_3 12 rfl) (od_at tB_cX4_cell_3 13 rfl) rfl
theorem dX4_cell_62 : decode cX4_cell 62 = .ok (.aload_n 0, 1) := od_42 (od_at tB_cX4_cell_3 14 rfl)
theorem dX4_cell_63 : decode cX4_cell 63 = .ok (.getfield 49, 3) := od_180 (od_at tB_cX4_cell_3 15 rfl) (od_at tB_cX4_cell_3 16 rfl) (od_at tB_cX4_cell_3 17 rfl) rfl
theorem dX4_cell_66 : decode cX4_cell 66 = .ok (.ifCond .ne 18, 3) := od_154 (od_at tB_cX4_cell_4 2 rfl) (od_at tB_cX4_cell_4 3 rfl) (od_at tB_cX4_cell_4 4 rfl) (by decide +kernel)
theorem dX4_cell_69 : decode cX4_cell 69 = .ok (.aload_n 0, 1) := od_42 (od_at tB_cX4_cell_4 5 rfl)
theorem dX4_cell_70 : decode cX4_cell 70 = .ok (.getfield 42, 3) := od_180 (od_at tB_cX4_cell_4 6 rfl) (od_at tB_cX4_cell_4 7 rfl) (od_at tB_cX4_cell_4 8 rfl) rfl
theorem dX4_cell_73 : decode cX4_cell 73 = .ok (.iload_n 1, 1) := od_27 (od_at tB_cX4_cell_4 9 rfl)
theorem dX4_cell_74 : decode cX4_cell 74 = .ok (.aaload, 1) := od_50 (od_at tB_cX4_cell_4 10 rfl)
theorem dX4_cell_75 : decode cX4_cell 75 = .ok (.getfield 253, 3) := od_180 (od_at tB_cX4_cell_4 11 rfl) (od_at tB_cX4_cell_4 12 rfl) (od_at tB_cX4_cell_4 13 rfl) rfl
theorem dX4_cell_78 : decode cX4_cell 78 = .ok (.iload_n 2, 1) := od_28 (od_at tB_cX4_cell_4 14 rfl)
theorem dX4_cell_79 : decode cX4_cell 79 = .ok (.iaload, 1) := od_46 (od_at tB_cX4_cell_4 15 rfl)
theorem dX4_cell_80 : decode cX4_cell 80 = .ok (.i2l, 1) := od_133 (od_at tB_cX4_cell_5 0 rfl)
theorem dX4_cell_81 : decode cX4_cell 81 = .ok (.goto 6, 3) := od_167 (od_at tB_cX4_cell_5 1 rfl) (od_at tB_cX4_cell_5 2 rfl) (od_at tB_cX4_cell_5 3 rfl) (by decide +kernel)
theorem dX4_cell_84 : decode cX4_cell 84 = .ok (.ldc2_w 106, 3) := od_20 (od_at tB_cX4_cell_5 4 rfl) (od_at tB_cX4_cell_5 5 rfl) (od_at tB_cX4_cell_5 6 rfl) rfl
theorem dX4_cell_87 : decode cX4_cell 87 = .ok (.lreturn, 1) := od_173 (od_at tB_cX4_cell_5 7 rfl)
def RB_cX4_copy_7 : List UInt8 := 0x1c :: 0x19 :: 0x07 :: 0xb4 :: 0x00 :: 0xfd :: 0x15 :: 0x04 :: 0x15 :: 0x05 :: 0xb8 :: 0x01 :: 0x06 :: 0x15 :: 0x05 :: 0xac :: []
def RB_cX4_copy_6 : List UInt8 := 0x01 :: 0x03 :: 0x9a :: 0x00 :: 0x09 :: 0x2a :: 0x06 :: 0xb6 :: 0x00 :: 0xea :: 0xac :: 0x19 :: 0x06 :: 0xb4 :: 0x00 :: 0xfd :: RB_cX4_copy_7
def RB_cX4_copy_5 : List UInt8 := 0x1c :: 0x15 :: 0x05 :: 0xb6 :: 0x01 :: 0x03 :: 0x99 :: 0x00 :: 0x0f :: 0x19 :: 0x07 :: 0x15 :: 0x04 :: 0x15 :: 0x05 :: 0xb6 :: RB_cX4_copy_6
def RB_cX4_copy_4 : List UInt8 := 0x19 :: 0x07 :: 0xb4 :: 0x01 :: 0x00 :: 0x9f :: 0x00 :: 0x09 :: 0x2a :: 0x05 :: 0xb6 :: 0x00 :: 0xea :: 0xac :: 0x19 :: 0x06 :: RB_cX4_copy_5
def RB_cX4_copy_3 : List UInt8 := 0x00 :: 0xf1 :: 0x9a :: 0x00 :: 0x09 :: 0x2a :: 0x04 :: 0xb6 :: 0x00 :: 0xea :: 0xac :: 0x19 :: 0x06 :: 0xb4 :: 0x01 :: 0x00 :: RB_cX4_copy_4
def RB_cX4_copy_2 : List UInt8 := 0x2a :: 0x1d :: 0x32 :: 0x3a :: 0x07 :: 0x19 :: 0x06 :: 0xb4 :: 0x00 :: 0xf1 :: 0x99 :: 0x00 :: 0x0b :: 0x19 :: 0x07 :: 0xb4 :: RB_cX4_copy_3
def RB_cX4_copy_1 : List UInt8 := 0x9a :: 0x00 :: 0x05 :: 0x02 :: 0xac :: 0x2a :: 0xb4 :: 0x00 :: 0x2a :: 0x1b :: 0x32 :: 0x3a :: 0x06 :: 0x2a :: 0xb4 :: 0x00 :: RB_cX4_copy_2
def RB_cX4_copy_0 : List UInt8 := 0x2a :: 0x03 :: 0xb5 :: 0x00 :: 0x31 :: 0x1b :: 0xb8 :: 0x00 :: 0xe4 :: 0x99 :: 0x00 :: 0x0a :: 0x1d :: 0xb8 :: 0x00 :: 0xe4 :: RB_cX4_copy_1
theorem tB_cX4_copy_0 : cX4_copy.data.toList.drop 0 = RB_cX4_copy_0 := by decide +kernel
theorem tB_cX4_copy_1 : cX4_copy.data.toList.drop 16 = RB_cX4_copy_1 := od_st tB_cX4_copy_0 16 rfl
theorem tB_cX4_copy_2 : cX4_copy.data.toList.drop 32 = RB_cX4_copy_2 := od_st tB_cX4_copy_1 16 rfl
theorem tB_cX4_copy_3 : cX4_copy.data.toList.drop 48 = RB_cX4_copy_3 := od_st tB_cX4_copy_2 16 rfl
theorem tB_cX4_copy_4 : cX4_copy.data.toList.drop 64 = RB_cX4_copy_4 := od_st tB_cX4_copy_3 16 rfl
theorem tB_cX4_copy_5 : cX4_copy.data.toList.drop 80 = RB_cX4_copy_5 := od_st tB_cX4_copy_4 16 rfl
theorem tB_cX4_copy_6 : cX4_copy.data.toList.drop 96 = RB_cX4_copy_6 := od_st tB_cX4_copy_5 16 rfl
theorem tB_cX4_copy_7 : cX4_copy.data.toList.drop 112 = RB_cX4_copy_7 := od_st tB_cX4_copy_6 16 rfl
theorem dX4_copy_0 : decode cX4_copy 0 = .ok (.aload_n 0, 1) := od_42 (od_at tB_cX4_copy_0 0 rfl)
theorem dX4_copy_1 : decode cX4_copy 1 = .ok (.iconst 0, 1) := od_3 (od_at tB_cX4_copy_0 1 rfl)
theorem dX4_copy_2 : decode cX4_copy 2 = .ok (.putfield 49, 3) := od_181 (od_at tB_cX4_copy_0 2 rfl) (od_at tB_cX4_copy_0 3 rfl) (od_at tB_cX4_copy_0 4 rfl) rfl
theorem dX4_copy_5 : decode cX4_copy 5 = .ok (.iload_n 1, 1) := od_27 (od_at tB_cX4_copy_0 5 rfl)
theorem dX4_copy_6 : decode cX4_copy 6 = .ok (.invokestatic 228, 3) := od_184 (od_at tB_cX4_copy_0 6 rfl) (od_at tB_cX4_copy_0 7 rfl) (od_at tB_cX4_copy_0 8 rfl) rfl
theorem dX4_copy_9 : decode cX4_copy 9 = .ok (.ifCond .eq 10, 3) := od_153 (od_at tB_cX4_copy_0 9 rfl) (od_at tB_cX4_copy_0 10 rfl) (od_at tB_cX4_copy_0 11 rfl) (by decide +kernel)
theorem dX4_copy_12 : decode cX4_copy 12 = .ok (.iload_n 3, 1) := od_29 (od_at tB_cX4_copy_0 12 rfl)
theorem dX4_copy_13 : decode cX4_copy 13 = .ok (.invokestatic 228, 3) := od_184 (od_at tB_cX4_copy_0 13 rfl) (od_at tB_cX4_copy_0 14 rfl) (od_at tB_cX4_copy_0 15 rfl) rfl
theorem dX4_copy_16 : decode cX4_copy 16 = .ok (.ifCond .ne 5, 3) := od_154 (od_at tB_cX4_copy_1 0 rfl) (od_at tB_cX4_copy_1 1 rfl) (od_at tB_cX4_copy_1 2 rfl) (by decide +kernel)
theorem dX4_copy_19 : decode cX4_copy 19 = .ok (.iconst (-1), 1) := od_2 (od_at tB_cX4_copy_1 3 rfl)
theorem dX4_copy_20 : decode cX4_copy 20 = .ok (.ireturn, 1) := od_172 (od_at tB_cX4_copy_1 4 rfl)
theorem dX4_copy_21 : decode cX4_copy 21 = .ok (.aload_n 0, 1) := od_42 (od_at tB_cX4_copy_1 5 rfl)
theorem dX4_copy_22 : decode cX4_copy 22 = .ok (.getfield 42, 3) := od_180 (od_at tB_cX4_copy_1 6 rfl) (od_at tB_cX4_copy_1 7 rfl) (od_at tB_cX4_copy_1 8 rfl) rfl
theorem dX4_copy_25 : decode cX4_copy 25 = .ok (.iload_n 1, 1) := od_27 (od_at tB_cX4_copy_1 9 rfl)
theorem dX4_copy_26 : decode cX4_copy 26 = .ok (.aaload, 1) := od_50 (od_at tB_cX4_copy_1 10 rfl)
theorem dX4_copy_27 : decode cX4_copy 27 = .ok (.astore 6, 2) := od_58 (od_at tB_cX4_copy_1 11 rfl) (od_at tB_cX4_copy_1 12 rfl) rfl
theorem dX4_copy_29 : decode cX4_copy 29 = .ok (.aload_n 0, 1) := od_42 (od_at tB_cX4_copy_1 13 rfl)
theorem dX4_copy_30 : decode cX4_copy 30 = .ok (.getfield 42, 3) := od_180 (od_at tB_cX4_copy_1 14 rfl) (od_at tB_cX4_copy_1 15 rfl) (od_at tB_cX4_copy_1 16 rfl) rfl
theorem dX4_copy_33 : decode cX4_copy 33 = .ok (.iload_n 3, 1) := od_29 (od_at tB_cX4_copy_2 1 rfl)
theorem dX4_copy_34 : decode cX4_copy 34 = .ok (.aaload, 1) := od_50 (od_at tB_cX4_copy_2 2 rfl)
theorem dX4_copy_35 : decode cX4_copy 35 = .ok (.astore 7, 2) := od_58 (od_at tB_cX4_copy_2 3 rfl) (od_at tB_cX4_copy_2 4 rfl) rfl
theorem dX4_copy_37 : decode cX4_copy 37 = .ok (.aload 6, 2) := od_25 (od_at tB_cX4_copy_2 5 rfl) (od_at tB_cX4_copy_2 6 rfl) rfl
theorem dX4_copy_39 : decode cX4_copy 39 = .ok (.getfield 241, 3) := od_180 (od_at tB_cX4_copy_2 7 rfl) (od_at tB_cX4_copy_2 8 rfl) (od_at tB_cX4_copy_2 9 rfl) rfl
theorem dX4_copy_42 : decode cX4_copy 42 = .ok (.ifCond .eq 11, 3) := od_153 (od_at tB_cX4_copy_2 10 rfl) (od_at tB_cX4_copy_2 11 rfl) (od_at tB_cX4_copy_2 12 rfl) (by decide +kernel)
theorem dX4_copy_45 : decode cX4_copy 45 = .ok (.aload 7, 2) := od_25 (od_at tB_cX4_copy_2 13 rfl) (od_at tB_cX4_copy_2 14 rfl) rfl
theorem dX4_copy_47 : decode cX4_copy 47 = .ok (.getfield 241, 3) := od_180 (od_at tB_cX4_copy_2 15 rfl) (od_at tB_cX4_copy_2 16 rfl) (od_at tB_cX4_copy_2 17 rfl) rfl
theorem dX4_copy_50 : decode cX4_copy 50 = .ok (.ifCond .ne 9, 3) := od_154 (od_at tB_cX4_copy_3 2 rfl) (od_at tB_cX4_copy_3 3 rfl) (od_at tB_cX4_copy_3 4 rfl) (by decide +kernel)
theorem dX4_copy_53 : decode cX4_copy 53 = .ok (.aload_n 0, 1) := od_42 (od_at tB_cX4_copy_3 5 rfl)
theorem dX4_copy_54 : decode cX4_copy 54 = .ok (.iconst 1, 1) := od_4 (od_at tB_cX4_copy_3 6 rfl)
theorem dX4_copy_55 : decode cX4_copy 55 = .ok (.invokevirtual 234, 3) := od_182 (od_at tB_cX4_copy_3 7 rfl) (od_at tB_cX4_copy_3 8 rfl) (od_at tB_cX4_copy_3 9 rfl) rfl
theorem dX4_copy_58 : decode cX4_copy 58 = .ok (.ireturn, 1) := od_172 (od_at tB_cX4_copy_3 10 rfl)
theorem dX4_copy_59 : decode cX4_copy 59 = .ok (.aload 6, 2) := od_25 (od_at tB_cX4_copy_3 11 rfl) (od_at tB_cX4_copy_3 12 rfl) rfl
theorem dX4_copy_61 : decode cX4_copy 61 = .ok (.getfield 256, 3) := od_180 (od_at tB_cX4_copy_3 13 rfl) (od_at tB_cX4_copy_3 14 rfl) (od_at tB_cX4_copy_3 15 rfl) rfl
theorem dX4_copy_64 : decode cX4_copy 64 = .ok (.aload 7, 2) := od_25 (od_at tB_cX4_copy_4 0 rfl) (od_at tB_cX4_copy_4 1 rfl) rfl
theorem dX4_copy_66 : decode cX4_copy 66 = .ok (.getfield 256, 3) := od_180 (od_at tB_cX4_copy_4 2 rfl) (od_at tB_cX4_copy_4 3 rfl) (od_at tB_cX4_copy_4 4 rfl) rfl
theorem dX4_copy_69 : decode cX4_copy 69 = .ok (.if_icmp .eq 9, 3) := od_159 (od_at tB_cX4_copy_4 5 rfl) (od_at tB_cX4_copy_4 6 rfl) (od_at tB_cX4_copy_4 7 rfl) (by decide +kernel)
theorem dX4_copy_72 : decode cX4_copy 72 = .ok (.aload_n 0, 1) := od_42 (od_at tB_cX4_copy_4 8 rfl)
theorem dX4_copy_73 : decode cX4_copy 73 = .ok (.iconst 2, 1) := od_5 (od_at tB_cX4_copy_4 9 rfl)
theorem dX4_copy_74 : decode cX4_copy 74 = .ok (.invokevirtual 234, 3) := od_182 (od_at tB_cX4_copy_4 10 rfl) (od_at tB_cX4_copy_4 11 rfl) (od_at tB_cX4_copy_4 12 rfl) rfl
theorem dX4_copy_77 : decode cX4_copy 77 = .ok (.ireturn, 1) := od_172 (od_at tB_cX4_copy_4 13 rfl)
theorem dX4_copy_78 : decode cX4_copy 78 = .ok (.aload 6, 2) := od_25 (od_at tB_cX4_copy_4 14 rfl) (od_at tB_cX4_copy_4 15 rfl) rfl
theorem dX4_copy_80 : decode cX4_copy 80 = .ok (.iload_n 2, 1) := od_28 (od_at tB_cX4_copy_5 0 rfl)
theorem dX4_copy_81 : decode cX4_copy 81 = .ok (.iload 5, 2) := od_21 (od_at tB_cX4_copy_5 1 rfl) (od_at tB_cX4_copy_5 2 rfl) rfl
theorem dX4_copy_83 : decode cX4_copy 83 = .ok (.invokevirtual 259, 3) := od_182 (od_at tB_cX4_copy_5 3 rfl) (od_at tB_cX4_copy_5 4 rfl) (od_at tB_cX4_copy_5 5 rfl) rfl
theorem dX4_copy_86 : decode cX4_copy 86 = .ok (.ifCond .eq 15, 3) := od_153 (od_at tB_cX4_copy_5 6 rfl) (od_at tB_cX4_copy_5 7 rfl) (od_at tB_cX4_copy_5 8 rfl) (by decide +kernel)
theorem dX4_copy_89 : decode cX4_copy 89 = .ok (.aload 7, 2) := od_25 (od_at tB_cX4_copy_5 9 rfl) (od_at tB_cX4_copy_5 10 rfl) rfl
theorem dX4_copy_91 : decode cX4_copy 91 = .ok (.iload 4, 2) := od_21 (od_at tB_cX4_copy_5 11 rfl) (od_at tB_cX4_copy_5 12 rfl) rfl
theorem dX4_copy_93 : decode cX4_copy 93 = .ok (.iload 5, 2) := od_21 (od_at tB_cX4_copy_5 13 rfl) (od_at tB_cX4_copy_5 14 rfl) rfl
theorem dX4_copy_95 : decode cX4_copy 95 = .ok (.invokevirtual 259, 3) := od_182 (od_at tB_cX4_copy_5 15 rfl) (od_at tB_cX4_copy_5 16 rfl) (od_at tB_cX4_copy_5 17 rfl) rfl
theorem dX4_copy_98 : decode cX4_copy 98 = .ok (.ifCond .ne 9, 3) := od_154 (od_at tB_cX4_copy_6 2 rfl) (od_at tB_cX4_copy_6 3 rfl) (od_at tB_cX4_copy_6 4 rfl) (by decide +kernel)
theorem dX4_copy_101 : decode cX4_copy 101 = .ok (.aload_n 0, 1) := od_42 (od_at tB_cX4_copy_6 5 rfl)
theorem dX4_copy_102 : decode cX4_copy 102 = .ok (.iconst 3, 1) := od_6 (od_at tB_cX4_copy_6 6 rfl)
theorem dX4_copy_103 : decode cX4_copy 103 = .ok (.invokevirtual 234, 3) := od_182 (od_at tB_cX4_copy_6 7 rfl) (od_at tB_cX4_copy_6 8 rfl) (od_at tB_cX4_copy_6 9 rfl) rfl
theorem dX4_copy_106 : decode cX4_copy 106 = .ok (.ireturn, 1) := od_172 (od_at tB_cX4_copy_6 10 rfl)
theorem dX4_copy_107 : decode cX4_copy 107 = .ok (.aload 6, 2) := od_25 (od_at tB_cX4_copy_6 11 rfl) (od_at tB_cX4_copy_6 12 rfl) rfl
theorem dX4_copy_109 : decode cX4_copy 109 = .ok (.getfield 253, 3) := od_180 (od_at tB_cX4_copy_6 13 rfl) (od_at tB_cX4_copy_6 14 rfl) (od_at tB_cX4_copy_6 15 rfl) rfl
theorem dX4_copy_112 : decode cX4_copy 112 = .ok (.iload_n 2, 1) := od_28 (od_at tB_cX4_copy_7 0 rfl)
theorem dX4_copy_113 : decode cX4_copy 113 = .ok (.aload 7, 2) := od_25 (od_at tB_cX4_copy_7 1 rfl) (od_at tB_cX4_copy_7 2 rfl) rfl
theorem dX4_copy_115 : decode cX4_copy 115 = .ok (.getfield 253, 3) := od_180 (od_at tB_cX4_copy_7 3 rfl) (od_at tB_cX4_copy_7 4 rfl) (od_at tB_cX4_copy_7 5 rfl) rfl
theorem dX4_copy_118 : decode cX4_copy 118 = .ok (.iload 4, 2) := od_21 (od_at tB_cX4_copy_7 6 rfl) (od_at tB_cX4_copy_7 7 rfl) rfl
theorem dX4_copy_120 : decode cX4_copy 120 = .ok (.iload 5, 2) := od_21 (od_at tB_cX4_copy_7 8 rfl) (od_at tB_cX4_copy_7 9 rfl) rfl
theorem dX4_copy_122 : decode cX4_copy 122 = .ok (.invokestatic 262, 3) := od_184 (od_at tB_cX4_copy_7 10 rfl) (od_at tB_cX4_copy_7 11 rfl) (od_at tB_cX4_copy_7 12 rfl) rfl
theorem dX4_copy_125 : decode cX4_copy 125 = .ok (.iload 5, 2) := od_21 (od_at tB_cX4_copy_7 13 rfl) (od_at tB_cX4_copy_7 14 rfl) rfl
theorem dX4_copy_127 : decode cX4_copy 127 = .ok (.ireturn, 1) := od_172 (od_at tB_cX4_copy_7 15 rfl)
def RB_cX4_watch_6 : List UInt8 := 0x1d :: 0x15 :: 0x04 :: 0x15 :: 0x05 :: 0xb6 :: 0x01 :: 0x0c :: 0xac :: []
def RB_cX4_watch_5 : List UInt8 := 0x03 :: 0x9a :: 0x00 :: 0x09 :: 0x2a :: 0x06 :: 0xb6 :: 0x00 :: 0xea :: 0xac :: 0x2a :: 0xb4 :: 0x00 :: 0x2a :: 0x1b :: 0x32 :: RB_cX4_watch_6
def RB_cX4_watch_4 : List UInt8 := 0x07 :: 0xb6 :: 0x00 :: 0xea :: 0xac :: 0x2a :: 0xb4 :: 0x00 :: 0x2a :: 0x1b :: 0x32 :: 0x1d :: 0x15 :: 0x04 :: 0xb6 :: 0x01 :: RB_cX4_watch_5
def RB_cX4_watch_3 : List UInt8 := 0x99 :: 0x00 :: 0x0a :: 0x2a :: 0x15 :: 0x06 :: 0xb6 :: 0x00 :: 0xea :: 0xac :: 0x15 :: 0x04 :: 0x9c :: 0x00 :: 0x09 :: 0x2a :: RB_cX4_watch_4
def RB_cX4_watch_2 : List UInt8 := 0xfe :: 0xac :: 0x2a :: 0xb4 :: 0x00 :: 0x2a :: 0x1b :: 0x32 :: 0x1c :: 0xb6 :: 0x00 :: 0xfa :: 0x36 :: 0x06 :: 0x15 :: 0x06 :: RB_cX4_watch_3
def RB_cX4_watch_1 : List UInt8 := 0x00 :: 0xe7 :: 0x99 :: 0x00 :: 0x0d :: 0x15 :: 0x05 :: 0x03 :: 0x06 :: 0xb8 :: 0x00 :: 0x36 :: 0x9a :: 0x00 :: 0x06 :: 0x10 :: RB_cX4_watch_2
def RB_cX4_watch_0 : List UInt8 := 0x2a :: 0x03 :: 0xb5 :: 0x00 :: 0x31 :: 0x1b :: 0xb8 :: 0x00 :: 0xe4 :: 0x9a :: 0x00 :: 0x05 :: 0x02 :: 0xac :: 0x1c :: 0xb8 :: RB_cX4_watch_1
theorem tB_cX4_watch_0 : cX4_watch.data.toList.drop 0 = RB_cX4_watch_0 := by decide +kernel
theorem tB_cX4_watch_1 : cX4_watch.data.toList.drop 16 = RB_cX4_watch_1 := od_st tB_cX4_watch_0 16 rfl
theorem tB_cX4_watch_2 : cX4_watch.data.toList.drop 32 = RB_cX4_watch_2 := od_st tB_cX4_watch_1 16 rfl
theorem tB_cX4_watch_3 : cX4_watch.data.toList.drop 48 = RB_cX4_watch_3 := od_st tB_cX4_watch_2 16 rfl
theorem tB_cX4_watch_4 : cX4_watch.data.toList.drop 64 = RB_cX4_watch_4 := od_st tB_cX4_watch_3 16 rfl
theorem tB_cX4_watch_5 : cX4_watch.data.toList.drop 80 = RB_cX4_watch_5 := od_st tB_cX4_watch_4 16 rfl
theorem tB_cX4_watch_6 : cX4_watch.data.toList.drop 96 = RB_cX4_watch_6 := od_st tB_cX4_watch_5 16 rfl
theorem dX4_watch_0 : decode cX4_watch 0 = .ok (.aload_n 0, 1) := od_42 (od_at tB_cX4_watch_0 0 rfl)
theorem dX4_watch_1 : decode cX4_watch 1 = .ok (.iconst 0, 1) := od_3 (od_at tB_cX4_watch_0 1 rfl)
theorem dX4_watch_2 : decode cX4_watch 2 = .ok (.putfield 49, 3) := od_181 (od_at tB_cX4_watch_0 2 rfl) (od_at tB_cX4_watch_0 3 rfl) (od_at tB_cX4_watch_0 4 rfl) rfl
theorem dX4_watch_5 : decode cX4_watch 5 = .ok (.iload_n 1, 1) := od_27 (od_at tB_cX4_watch_0 5 rfl)
theorem dX4_watch_6 : decode cX4_watch 6 = .ok (.invokestatic 228, 3) := od_184 (od_at tB_cX4_watch_0 6 rfl) (od_at tB_cX4_watch_0 7 rfl) (od_at tB_cX4_watch_0 8 rfl) rfl
theorem dX4_watch_9 : decode cX4_watch 9 = .ok (.ifCond .ne 5, 3) := od_154 (od_at tB_cX4_watch_0 9 rfl) (od_at tB_cX4_watch_0 10 rfl) (od_at tB_cX4_watch_0 11 rfl) (by decide +kernel)
theorem dX4_watch_12 : decode cX4_watch 12 = .ok (.iconst (-1), 1) := od_2 (od_at tB_cX4_watch_0 12 rfl)
theorem dX4_watch_13 : decode cX4_watch 13 = .ok (.ireturn, 1) := od_172 (od_at tB_cX4_watch_0 13 rfl)
theorem dX4_watch_14 : decode cX4_watch 14 = .ok (.iload_n 2, 1) := od_28 (od_at tB_cX4_watch_0 14 rfl)
theorem dX4_watch_15 : decode cX4_watch 15 = .ok (.invokestatic 231, 3) := od_184 (od_at tB_cX4_watch_0 15 rfl) (od_at tB_cX4_watch_0 16 rfl) (od_at tB_cX4_watch_0 17 rfl) rfl
theorem dX4_watch_18 : decode cX4_watch 18 = .ok (.ifCond .eq 13, 3) := od_153 (od_at tB_cX4_watch_1 2 rfl) (od_at tB_cX4_watch_1 3 rfl) (od_at tB_cX4_watch_1 4 rfl) (by decide +kernel)
theorem dX4_watch_21 : decode cX4_watch 21 = .ok (.iload 5, 2) := od_21 (od_at tB_cX4_watch_1 5 rfl) (od_at tB_cX4_watch_1 6 rfl) rfl
theorem dX4_watch_23 : decode cX4_watch 23 = .ok (.iconst 0, 1) := od_3 (od_at tB_cX4_watch_1 7 rfl)
theorem dX4_watch_24 : decode cX4_watch 24 = .ok (.iconst 3, 1) := od_6 (od_at tB_cX4_watch_1 8 rfl)
theorem dX4_watch_25 : decode cX4_watch 25 = .ok (.invokestatic 54, 3) := od_184 (od_at tB_cX4_watch_1 9 rfl) (od_at tB_cX4_watch_1 10 rfl) (od_at tB_cX4_watch_1 11 rfl) rfl
theorem dX4_watch_28 : decode cX4_watch 28 = .ok (.ifCond .ne 6, 3) := od_154 (od_at tB_cX4_watch_1 12 rfl) (od_at tB_cX4_watch_1 13 rfl) (od_at tB_cX4_watch_1 14 rfl) (by decide +kernel)
theorem dX4_watch_31 : decode cX4_watch 31 = .ok (.bipush (-2), 2) := od_16 (od_at tB_cX4_watch_1 15 rfl) (od_at tB_cX4_watch_1 16 rfl) (by decide +kernel)
theorem dX4_watch_33 : decode cX4_watch 33 = .ok (.ireturn, 1) := od_172 (od_at tB_cX4_watch_2 1 rfl)
theorem dX4_watch_34 : decode cX4_watch 34 = .ok (.aload_n 0, 1) := od_42 (od_at tB_cX4_watch_2 2 rfl)
theorem dX4_watch_35 : decode cX4_watch 35 = .ok (.getfield 42, 3) := od_180 (od_at tB_cX4_watch_2 3 rfl) (od_at tB_cX4_watch_2 4 rfl) (od_at tB_cX4_watch_2 5 rfl) rfl
theorem dX4_watch_38 : decode cX4_watch 38 = .ok (.iload_n 1, 1) := od_27 (od_at tB_cX4_watch_2 6 rfl)
theorem dX4_watch_39 : decode cX4_watch 39 = .ok (.aaload, 1) := od_50 (od_at tB_cX4_watch_2 7 rfl)
theorem dX4_watch_40 : decode cX4_watch 40 = .ok (.iload_n 2, 1) := od_28 (od_at tB_cX4_watch_2 8 rfl)
theorem dX4_watch_41 : decode cX4_watch 41 = .ok (.invokevirtual 250, 3) := od_182 (od_at tB_cX4_watch_2 9 rfl) (od_at tB_cX4_watch_2 10 rfl) (od_at tB_cX4_watch_2 11 rfl) rfl
theorem dX4_watch_44 : decode cX4_watch 44 = .ok (.istore 6, 2) := od_54 (od_at tB_cX4_watch_2 12 rfl) (od_at tB_cX4_watch_2 13 rfl) rfl
theorem dX4_watch_46 : decode cX4_watch 46 = .ok (.iload 6, 2) := od_21 (od_at tB_cX4_watch_2 14 rfl) (od_at tB_cX4_watch_2 15 rfl) rfl
theorem dX4_watch_48 : decode cX4_watch 48 = .ok (.ifCond .eq 10, 3) := od_153 (od_at tB_cX4_watch_3 0 rfl) (od_at tB_cX4_watch_3 1 rfl) (od_at tB_cX4_watch_3 2 rfl) (by decide +kernel)
theorem dX4_watch_51 : decode cX4_watch 51 = .ok (.aload_n 0, 1) := od_42 (od_at tB_cX4_watch_3 3 rfl)
theorem dX4_watch_52 : decode cX4_watch 52 = .ok (.iload 6, 2) := od_21 (od_at tB_cX4_watch_3 4 rfl) (od_at tB_cX4_watch_3 5 rfl) rfl
theorem dX4_watch_54 : decode cX4_watch 54 = .ok (.invokevirtual 234, 3) := od_182 (od_at tB_cX4_watch_3 6 rfl) (od_at tB_cX4_watch_3 7 rfl) (od_at tB_cX4_watch_3 8 rfl) rfl
theorem dX4_watch_57 : decode cX4_watch 57 = .ok (.ireturn, 1) := od_172 (od_at tB_cX4_watch_3 9 rfl)
theorem dX4_watch_58 : decode cX4_watch 58 = .ok (.iload 4, 2) := od_21 (od_at tB_cX4_watch_3 10 rfl) (od_at tB_cX4_watch_3 11 rfl) rfl
theorem dX4_watch_60 : decode cX4_watch 60 = .ok (.ifCond .ge 9, 3) := od_156 (od_at tB_cX4_watch_3 12 rfl) (od_at tB_cX4_watch_3 13 rfl) (od_at tB_cX4_watch_3 14 rfl) (by decide +kernel)
theorem dX4_watch_63 : decode cX4_watch 63 = .ok (.aload_n 0, 1) := od_42 (od_at tB_cX4_watch_3 15 rfl)
theorem dX4_watch_64 : decode cX4_watch 64 = .ok (.iconst 4, 1) := od_7 (od_at tB_cX4_watch_4 0 rfl)
theorem dX4_watch_65 : decode cX4_watch 65 = .ok (.invokevirtual 234, 3) := od_182 (od_at tB_cX4_watch_4 1 rfl) (od_at tB_cX4_watch_4 2 rfl) (od_at tB_cX4_watch_4 3 rfl) rfl
theorem dX4_watch_68 : decode cX4_watch 68 = .ok (.ireturn, 1) := od_172 (od_at tB_cX4_watch_4 4 rfl)
theorem dX4_watch_69 : decode cX4_watch 69 = .ok (.aload_n 0, 1) := od_42 (od_at tB_cX4_watch_4 5 rfl)
theorem dX4_watch_70 : decode cX4_watch 70 = .ok (.getfield 42, 3) := od_180 (od_at tB_cX4_watch_4 6 rfl) (od_at tB_cX4_watch_4 7 rfl) (od_at tB_cX4_watch_4 8 rfl) rfl
theorem dX4_watch_73 : decode cX4_watch 73 = .ok (.iload_n 1, 1) := od_27 (od_at tB_cX4_watch_4 9 rfl)
theorem dX4_watch_74 : decode cX4_watch 74 = .ok (.aaload, 1) := od_50 (od_at tB_cX4_watch_4 10 rfl)
theorem dX4_watch_75 : decode cX4_watch 75 = .ok (.iload_n 3, 1) := od_29 (od_at tB_cX4_watch_4 11 rfl)
theorem dX4_watch_76 : decode cX4_watch 76 = .ok (.iload 4, 2) := od_21 (od_at tB_cX4_watch_4 12 rfl) (od_at tB_cX4_watch_4 13 rfl) rfl
theorem dX4_watch_78 : decode cX4_watch 78 = .ok (.invokevirtual 259, 3) := od_182 (od_at tB_cX4_watch_4 14 rfl) (od_at tB_cX4_watch_4 15 rfl) (od_at tB_cX4_watch_4 16 rfl) rfl
theorem dX4_watch_81 : decode cX4_watch 81 = .ok (.ifCond .ne 9, 3) := od_154 (od_at tB_cX4_watch_5 1 rfl) (od_at tB_cX4_watch_5 2 rfl) (od_at tB_cX4_watch_5 3 rfl) (by decide +kernel)
theorem dX4_watch_84 : decode cX4_watch 84 = .ok (.aload_n 0, 1) := od_42 (od_at tB_cX4_watch_5 4 rfl)
theorem dX4_watch_85 : decode cX4_watch 85 = .ok (.iconst 3, 1) := od_6 (od_at tB_cX4_watch_5 5 rfl)
theorem dX4_watch_86 : decode cX4_watch 86 = .ok (.invokevirtual 234, 3) := od_182 (od_at tB_cX4_watch_5 6 rfl) (od_at tB_cX4_watch_5 7 rfl) (od_at tB_cX4_watch_5 8 rfl) rfl
theorem dX4_watch_89 : decode cX4_watch 89 = .ok (.ireturn, 1) := od_172 (od_at tB_cX4_watch_5 9 rfl)
theorem dX4_watch_90 : decode cX4_watch 90 = .ok (.aload_n 0, 1) := od_42 (od_at tB_cX4_watch_5 10 rfl)
theorem dX4_watch_91 : decode cX4_watch 91 = .ok (.getfield 42, 3) := od_180 (od_at tB_cX4_watch_5 11 rfl) (od_at tB_cX4_watch_5 12 rfl) (od_at tB_cX4_watch_5 13 rfl) rfl
theorem dX4_watch_94 : decode cX4_watch 94 = .ok (.iload_n 1, 1) := od_27 (od_at tB_cX4_watch_5 14 rfl)
theorem dX4_watch_95 : decode cX4_watch 95 = .ok (.aaload, 1) := od_50 (od_at tB_cX4_watch_5 15 rfl)
theorem dX4_watch_96 : decode cX4_watch 96 = .ok (.iload_n 3, 1) := od_29 (od_at tB_cX4_watch_6 0 rfl)
theorem dX4_watch_97 : decode cX4_watch 97 = .ok (.iload 4, 2) := od_21 (od_at tB_cX4_watch_6 1 rfl) (od_at tB_cX4_watch_6 2 rfl) rfl
theorem dX4_watch_99 : decode cX4_watch 99 = .ok (.iload 5, 2) := od_21 (od_at tB_cX4_watch_6 3 rfl) (od_at tB_cX4_watch_6 4 rfl) rfl
theorem dX4_watch_101 : decode cX4_watch 101 = .ok (.invokevirtual 268, 3) := od_182 (od_at tB_cX4_watch_6 5 rfl) (od_at tB_cX4_watch_6 6 rfl) (od_at tB_cX4_watch_6 7 rfl) rfl
theorem dX4_watch_104 : decode cX4_watch 104 = .ok (.ireturn, 1) := od_172 (od_at tB_cX4_watch_6 8 rfl)
def RB_cX4_tell_5 : List UInt8 := 0x04 :: 0x64 :: 0xac :: 0x2a :: 0x2a :: 0xb4 :: 0x00 :: 0x1e :: 0x1b :: 0x32 :: 0xb6 :: 0x01 :: 0x13 :: 0xac :: []
def RB_cX4_tell_4 : List UInt8 := 0x2a :: 0x06 :: 0xb6 :: 0x01 :: 0x10 :: 0x2a :: 0x2a :: 0xb4 :: 0x00 :: 0x1e :: 0x1b :: 0x32 :: 0xb6 :: 0x01 :: 0x13 :: 0x74 :: RB_cX4_tell_5
def RB_cX4_tell_3 : List UInt8 := 0x10 :: 0x11 :: 0x03 :: 0xe8 :: 0x2a :: 0x2a :: 0xb4 :: 0x00 :: 0x1e :: 0x1b :: 0x32 :: 0xb6 :: 0x01 :: 0x13 :: 0x60 :: 0xac :: RB_cX4_tell_4
def RB_cX4_tell_2 : List UInt8 := 0x00 :: 0x00 :: 0x00 :: 0x19 :: 0x00 :: 0x00 :: 0x00 :: 0x02 :: 0x00 :: 0x00 :: 0x00 :: 0x2d :: 0x2a :: 0x05 :: 0xb6 :: 0x01 :: RB_cX4_tell_3
def RB_cX4_tell_1 : List UInt8 := 0xb4 :: 0x00 :: 0xaf :: 0xab :: 0x00 :: 0x00 :: 0x00 :: 0x40 :: 0x00 :: 0x00 :: 0x00 :: 0x02 :: 0x00 :: 0x00 :: 0x00 :: 0x01 :: RB_cX4_tell_2
def RB_cX4_tell_0 : List UInt8 := 0x2a :: 0x1b :: 0xb6 :: 0x00 :: 0x98 :: 0x9a :: 0x00 :: 0x05 :: 0x02 :: 0xac :: 0x2a :: 0xb4 :: 0x00 :: 0x1e :: 0x1b :: 0x32 :: RB_cX4_tell_1
theorem tB_cX4_tell_0 : cX4_tell.data.toList.drop 0 = RB_cX4_tell_0 := by decide +kernel
theorem tB_cX4_tell_1 : cX4_tell.data.toList.drop 16 = RB_cX4_tell_1 := od_st tB_cX4_tell_0 16 rfl
theorem tB_cX4_tell_2 : cX4_tell.data.toList.drop 32 = RB_cX4_tell_2 := od_st tB_cX4_tell_1 16 rfl
theorem tB_cX4_tell_3 : cX4_tell.data.toList.drop 48 = RB_cX4_tell_3 := od_st tB_cX4_tell_2 16 rfl
theorem tB_cX4_tell_4 : cX4_tell.data.toList.drop 64 = RB_cX4_tell_4 := od_st tB_cX4_tell_3 16 rfl
theorem tB_cX4_tell_5 : cX4_tell.data.toList.drop 80 = RB_cX4_tell_5 := od_st tB_cX4_tell_4 16 rfl
theorem dX4_tell_0 : decode cX4_tell 0 = .ok (.aload_n 0, 1) := od_42 (od_at tB_cX4_tell_0 0 rfl)
theorem dX4_tell_1 : decode cX4_tell 1 = .ok (.iload_n 1, 1) := od_27 (od_at tB_cX4_tell_0 1 rfl)
theorem dX4_tell_2 : decode cX4_tell 2 = .ok (.invokevirtual 152, 3) := od_182 (od_at tB_cX4_tell_0 2 rfl) (od_at tB_cX4_tell_0 3 rfl) (od_at tB_cX4_tell_0 4 rfl) rfl
theorem dX4_tell_5 : decode cX4_tell 5 = .ok (.ifCond .ne 5, 3) := od_154 (od_at tB_cX4_tell_0 5 rfl) (od_at tB_cX4_tell_0 6 rfl) (od_at tB_cX4_tell_0 7 rfl) (by decide +kernel)
theorem dX4_tell_8 : decode cX4_tell 8 = .ok (.iconst (-1), 1) := od_2 (od_at tB_cX4_tell_0 8 rfl)
theorem dX4_tell_9 : decode cX4_tell 9 = .ok (.ireturn, 1) := od_172 (od_at tB_cX4_tell_0 9 rfl)
theorem dX4_tell_10 : decode cX4_tell 10 = .ok (.aload_n 0, 1) := od_42 (od_at tB_cX4_tell_0 10 rfl)
theorem dX4_tell_11 : decode cX4_tell 11 = .ok (.getfield 30, 3) := od_180 (od_at tB_cX4_tell_0 11 rfl) (od_at tB_cX4_tell_0 12 rfl) (od_at tB_cX4_tell_0 13 rfl) rfl
theorem dX4_tell_14 : decode cX4_tell 14 = .ok (.iload_n 1, 1) := od_27 (od_at tB_cX4_tell_0 14 rfl)
theorem dX4_tell_15 : decode cX4_tell 15 = .ok (.aaload, 1) := od_50 (od_at tB_cX4_tell_0 15 rfl)
theorem dX4_tell_16 : decode cX4_tell 16 = .ok (.getfield 175, 3) := od_180 (od_at tB_cX4_tell_1 0 rfl) (od_at tB_cX4_tell_1 1 rfl) (od_at tB_cX4_tell_1 2 rfl) rfl
theorem dX4_tell_19 : decode cX4_tell 19 = .ok (.lookupswitch 64 #[(1, 25), (2, 45)], 25) := by decide +kernel
theorem dX4_tell_44 : decode cX4_tell 44 = .ok (.aload_n 0, 1) := od_42 (od_at tB_cX4_tell_2 12 rfl)
theorem dX4_tell_45 : decode cX4_tell 45 = .ok (.iconst 2, 1) := od_5 (od_at tB_cX4_tell_2 13 rfl)
theorem dX4_tell_46 : decode cX4_tell 46 = .ok (.invokevirtual 272, 3) := od_182 (od_at tB_cX4_tell_2 14 rfl) (od_at tB_cX4_tell_2 15 rfl) (od_at tB_cX4_tell_2 16 rfl) rfl
theorem dX4_tell_49 : decode cX4_tell 49 = .ok (.sipush 1000, 3) := od_17 (od_at tB_cX4_tell_3 1 rfl) (od_at tB_cX4_tell_3 2 rfl) (od_at tB_cX4_tell_3 3 rfl) (by decide +kernel)
theorem dX4_tell_52 : decode cX4_tell 52 = .ok (.aload_n 0, 1) := od_42 (od_at tB_cX4_tell_3 4 rfl)
theorem dX4_tell_53 : decode cX4_tell 53 = .ok (.aload_n 0, 1) := od_42 (od_at tB_cX4_tell_3 5 rfl)
theorem dX4_tell_54 : decode cX4_tell 54 = .ok (.getfield 30, 3) := od_180 (od_at tB_cX4_tell_3 6 rfl) (od_at tB_cX4_tell_3 7 rfl) (od_at tB_cX4_tell_3 8 rfl) rfl
theorem dX4_tell_57 : decode cX4_tell 57 = .ok (.iload_n 1, 1) := od_27 (od_at tB_cX4_tell_3 9 rfl)
theorem dX4_tell_58 : decode cX4_tell 58 = .ok (.aaload, 1) := od_50 (od_at tB_cX4_tell_3 10 rfl)
theorem dX4_tell_59 : decode cX4_tell 59 = .ok (.invokevirtual 275, 3) := od_182 (od_at tB_cX4_tell_3 11 rfl) (od_at tB_cX4_tell_3 12 rfl) (od_at tB_cX4_tell_3 13 rfl) rfl
theorem dX4_tell_62 : decode cX4_tell 62 = .ok (.iadd, 1) := od_96 (od_at tB_cX4_tell_3 14 rfl)
theorem dX4_tell_63 : decode cX4_tell 63 = .ok (.ireturn, 1) := od_172 (od_at tB_cX4_tell_3 15 rfl)
theorem dX4_tell_64 : decode cX4_tell 64 = .ok (.aload_n 0, 1) := od_42 (od_at tB_cX4_tell_4 0 rfl)
theorem dX4_tell_65 : decode cX4_tell 65 = .ok (.iconst 3, 1) := od_6 (od_at tB_cX4_tell_4 1 rfl)
theorem dX4_tell_66 : decode cX4_tell 66 = .ok (.invokevirtual 272, 3) := od_182 (od_at tB_cX4_tell_4 2 rfl) (od_at tB_cX4_tell_4 3 rfl) (od_at tB_cX4_tell_4 4 rfl) rfl
theorem dX4_tell_69 : decode cX4_tell 69 = .ok (.aload_n 0, 1) := od_42 (od_at tB_cX4_tell_4 5 rfl)
theorem dX4_tell_70 : decode cX4_tell 70 = .ok (.aload_n 0, 1) := od_42 (od_at tB_cX4_tell_4 6 rfl)
theorem dX4_tell_71 : decode cX4_tell 71 = .ok (.getfield 30, 3) := od_180 (od_at tB_cX4_tell_4 7 rfl) (od_at tB_cX4_tell_4 8 rfl) (od_at tB_cX4_tell_4 9 rfl) rfl
theorem dX4_tell_74 : decode cX4_tell 74 = .ok (.iload_n 1, 1) := od_27 (od_at tB_cX4_tell_4 10 rfl)
theorem dX4_tell_75 : decode cX4_tell 75 = .ok (.aaload, 1) := od_50 (od_at tB_cX4_tell_4 11 rfl)
theorem dX4_tell_76 : decode cX4_tell 76 = .ok (.invokevirtual 275, 3) := od_182 (od_at tB_cX4_tell_4 12 rfl) (od_at tB_cX4_tell_4 13 rfl) (od_at tB_cX4_tell_4 14 rfl) rfl
theorem dX4_tell_79 : decode cX4_tell 79 = .ok (.ineg, 1) := od_116 (od_at tB_cX4_tell_4 15 rfl)
theorem dX4_tell_80 : decode cX4_tell 80 = .ok (.iconst 1, 1) := od_4 (od_at tB_cX4_tell_5 0 rfl)
theorem dX4_tell_81 : decode cX4_tell 81 = .ok (.isub, 1) := od_100 (od_at tB_cX4_tell_5 1 rfl)
theorem dX4_tell_82 : decode cX4_tell 82 = .ok (.ireturn, 1) := od_172 (od_at tB_cX4_tell_5 2 rfl)
theorem dX4_tell_83 : decode cX4_tell 83 = .ok (.aload_n 0, 1) := od_42 (od_at tB_cX4_tell_5 3 rfl)
theorem dX4_tell_84 : decode cX4_tell 84 = .ok (.aload_n 0, 1) := od_42 (od_at tB_cX4_tell_5 4 rfl)
theorem dX4_tell_85 : decode cX4_tell 85 = .ok (.getfield 30, 3) := od_180 (od_at tB_cX4_tell_5 5 rfl) (od_at tB_cX4_tell_5 6 rfl) (od_at tB_cX4_tell_5 7 rfl) rfl
theorem dX4_tell_88 : decode cX4_tell 88 = .ok (.iload_n 1, 1) := od_27 (od_at tB_cX4_tell_5 8 rfl)
theorem dX4_tell_89 : decode cX4_tell 89 = .ok (.aaload, 1) := od_50 (od_at tB_cX4_tell_5 9 rfl)
theorem dX4_tell_90 : decode cX4_tell 90 = .ok (.invokevirtual 275, 3) := od_182 (od_at tB_cX4_tell_5 10 rfl) (od_at tB_cX4_tell_5 11 rfl) (od_at tB_cX4_tell_5 12 rfl) rfl
theorem dX4_tell_93 : decode cX4_tell 93 = .ok (.ireturn, 1) := od_172 (od_at tB_cX4_tell_5 13 rfl)
def RB_cX4_worth_3 : List UInt8 := 0x6d :: 0x14 :: 0x01 :: 0x17 :: 0xb8 :: 0x00 :: 0xe1 :: 0x88 :: 0xac :: []
def RB_cX4_worth_2 : List UInt8 := 0xb6 :: 0x01 :: 0x10 :: 0x2a :: 0x2a :: 0xb4 :: 0x00 :: 0x1e :: 0x1b :: 0x32 :: 0xb6 :: 0x00 :: 0xbd :: 0x14 :: 0x00 :: 0x73 :: RB_cX4_worth_3
def RB_cX4_worth_1 : List UInt8 := 0xb4 :: 0x00 :: 0xaf :: 0x05 :: 0xa0 :: 0x00 :: 0x0a :: 0x2a :: 0x08 :: 0xb6 :: 0x01 :: 0x10 :: 0x04 :: 0xac :: 0x2a :: 0x07 :: RB_cX4_worth_2
def RB_cX4_worth_0 : List UInt8 := 0x2a :: 0x1b :: 0xb6 :: 0x00 :: 0x98 :: 0x9a :: 0x00 :: 0x05 :: 0x02 :: 0xac :: 0x2a :: 0xb4 :: 0x00 :: 0x1e :: 0x1b :: 0x32 :: RB_cX4_worth_1
theorem tB_cX4_worth_0 : cX4_worth.data.toList.drop 0 = RB_cX4_worth_0 := by decide +kernel
theorem tB_cX4_worth_1 : cX4_worth.data.toList.drop 16 = RB_cX4_worth_1 := od_st tB_cX4_worth_0 16 rfl
theorem tB_cX4_worth_2 : cX4_worth.data.toList.drop 32 = RB_cX4_worth_2 := od_st tB_cX4_worth_1 16 rfl
theorem tB_cX4_worth_3 : cX4_worth.data.toList.drop 48 = RB_cX4_worth_3 := od_st tB_cX4_worth_2 16 rfl
theorem dX4_worth_0 : decode cX4_worth 0 = .ok (.aload_n 0, 1) := od_42 (od_at tB_cX4_worth_0 0 rfl)
theorem dX4_worth_1 : decode cX4_worth 1 = .ok (.iload_n 1, 1) := od_27 (od_at tB_cX4_worth_0 1 rfl)
theorem dX4_worth_2 : decode cX4_worth 2 = .ok (.invokevirtual 152, 3) := od_182 (od_at tB_cX4_worth_0 2 rfl) (od_at tB_cX4_worth_0 3 rfl) (od_at tB_cX4_worth_0 4 rfl) rfl
theorem dX4_worth_5 : decode cX4_worth 5 = .ok (.ifCond .ne 5, 3) := od_154 (od_at tB_cX4_worth_0 5 rfl) (od_at tB_cX4_worth_0 6 rfl) (od_at tB_cX4_worth_0 7 rfl) (by decide +kernel)
theorem dX4_worth_8 : decode cX4_worth 8 = .ok (.iconst (-1), 1) := od_2 (od_at tB_cX4_worth_0 8 rfl)
theorem dX4_worth_9 : decode cX4_worth 9 = .ok (.ireturn, 1) := od_172 (od_at tB_cX4_worth_0 9 rfl)
theorem dX4_worth_10 : decode cX4_worth 10 = .ok (.aload_n 0, 1) := od_42 (od_at tB_cX4_worth_0 10 rfl)
theorem dX4_worth_11 : decode cX4_worth 11 = .ok (.getfield 30, 3) := od_180 (od_at tB_cX4_worth_0 11 rfl) (od_at tB_cX4_worth_0 12 rfl) (od_at tB_cX4_worth_0 13 rfl) rfl
theorem dX4_worth_14 : decode cX4_worth 14 = .ok (.iload_n 1, 1) := od_27 (od_at tB_cX4_worth_0 14 rfl)
theorem dX4_worth_15 : decode cX4_worth 15 = .ok (.aaload, 1) := od_50 (od_at tB_cX4_worth_0 15 rfl)
theorem dX4_worth_16 : decode cX4_worth 16 = .ok (.getfield 175, 3) := od_180 (od_at tB_cX4_worth_1 0 rfl) (od_at tB_cX4_worth_1 1 rfl) (od_at tB_cX4_worth_1 2 rfl) rfl
theorem dX4_worth_19 : decode cX4_worth 19 = .ok (.iconst 2, 1) := od_5 (od_at tB_cX4_worth_1 3 rfl)
theorem dX4_worth_20 : decode cX4_worth 20 = .ok (.if_icmp .ne 10, 3) := od_160 (od_at tB_cX4_worth_1 4 rfl) (od_at tB_cX4_worth_1 5 rfl) (od_at tB_cX4_worth_1 6 rfl) (by decide +kernel)
theorem dX4_worth_23 : decode cX4_worth 23 = .ok (.aload_n 0, 1) := od_42 (od_at tB_cX4_worth_1 7 rfl)
theorem dX4_worth_24 : decode cX4_worth 24 = .ok (.iconst 5, 1) := od_8 (od_at tB_cX4_worth_1 8 rfl)
theorem dX4_worth_25 : decode cX4_worth 25 = .ok (.invokevirtual 272, 3) := od_182 (od_at tB_cX4_worth_1 9 rfl) (od_at tB_cX4_worth_1 10 rfl) (od_at tB_cX4_worth_1 11 rfl) rfl
theorem dX4_worth_28 : decode cX4_worth 28 = .ok (.iconst 1, 1) := od_4 (od_at tB_cX4_worth_1 12 rfl)
theorem dX4_worth_29 : decode cX4_worth 29 = .ok (.ireturn, 1) := od_172 (od_at tB_cX4_worth_1 13 rfl)
theorem dX4_worth_30 : decode cX4_worth 30 = .ok (.aload_n 0, 1) := od_42 (od_at tB_cX4_worth_1 14 rfl)
theorem dX4_worth_31 : decode cX4_worth 31 = .ok (.iconst 4, 1) := od_7 (od_at tB_cX4_worth_1 15 rfl)
theorem dX4_worth_32 : decode cX4_worth 32 = .ok (.invokevirtual 272, 3) := od_182 (od_at tB_cX4_worth_2 0 rfl) (od_at tB_cX4_worth_2 1 rfl) (od_at tB_cX4_worth_2 2 rfl) rfl
theorem dX4_worth_35 : decode cX4_worth 35 = .ok (.aload_n 0, 1) := od_42 (od_at tB_cX4_worth_2 3 rfl)
theorem dX4_worth_36 : decode cX4_worth 36 = .ok (.aload_n 0, 1) := od_42 (od_at tB_cX4_worth_2 4 rfl)
theorem dX4_worth_37 : decode cX4_worth 37 = .ok (.getfield 30, 3) := od_180 (od_at tB_cX4_worth_2 5 rfl) (od_at tB_cX4_worth_2 6 rfl) (od_at tB_cX4_worth_2 7 rfl) rfl
theorem dX4_worth_40 : decode cX4_worth 40 = .ok (.iload_n 1, 1) := od_27 (od_at tB_cX4_worth_2 8 rfl)
theorem dX4_worth_41 : decode cX4_worth 41 = .ok (.aaload, 1) := od_50 (od_at tB_cX4_worth_2 9 rfl)
theorem dX4_worth_42 : decode cX4_worth 42 = .ok (.invokevirtual 189, 3) := od_182 (od_at tB_cX4_worth_2 10 rfl) (od_at tB_cX4_worth_2 11 rfl) (od_at tB_cX4_worth_2 12 rfl) rfl
theorem dX4_worth_45 : decode cX4_worth 45 = .ok (.ldc2_w 115, 3) := od_20 (od_at tB_cX4_worth_2 13 rfl) (od_at tB_cX4_worth_2 14 rfl) (od_at tB_cX4_worth_2 15 rfl) rfl
theorem dX4_worth_48 : decode cX4_worth 48 = .ok (.ldiv, 1) := od_109 (od_at tB_cX4_worth_3 0 rfl)
theorem dX4_worth_49 : decode cX4_worth 49 = .ok (.ldc2_w 279, 3) := od_20 (od_at tB_cX4_worth_3 1 rfl) (od_at tB_cX4_worth_3 2 rfl) (od_at tB_cX4_worth_3 3 rfl) rfl
theorem dX4_worth_52 : decode cX4_worth 52 = .ok (.invokestatic 225, 3) := od_184 (od_at tB_cX4_worth_3 4 rfl) (od_at tB_cX4_worth_3 5 rfl) (od_at tB_cX4_worth_3 6 rfl) rfl
theorem dX4_worth_55 : decode cX4_worth 55 = .ok (.l2i, 1) := od_136 (od_at tB_cX4_worth_3 7 rfl)
theorem dX4_worth_56 : decode cX4_worth 56 = .ok (.ireturn, 1) := od_172 (od_at tB_cX4_worth_3 8 rfl)
def RB_cX4_as_3 : List UInt8 := 0xea :: 0xac :: []
def RB_cX4_as_2 : List UInt8 := 0x32 :: 0xb4 :: 0x00 :: 0xaf :: 0x1c :: 0xa1 :: 0x00 :: 0x07 :: 0x04 :: 0xa7 :: 0x00 :: 0x08 :: 0x2a :: 0x05 :: 0xb6 :: 0x00 :: RB_cX4_as_3
def RB_cX4_as_1 : List UInt8 := 0x03 :: 0x05 :: 0xb8 :: 0x00 :: 0x36 :: 0x9a :: 0x00 :: 0x06 :: 0x10 :: 0xfe :: 0xac :: 0x2a :: 0xb4 :: 0x00 :: 0x1e :: 0x1b :: RB_cX4_as_2
def RB_cX4_as_0 : List UInt8 := 0x2a :: 0x03 :: 0xb5 :: 0x00 :: 0x31 :: 0x2a :: 0x1b :: 0xb6 :: 0x00 :: 0x98 :: 0x9a :: 0x00 :: 0x05 :: 0x02 :: 0xac :: 0x1c :: RB_cX4_as_1
theorem tB_cX4_as_0 : cX4_as.data.toList.drop 0 = RB_cX4_as_0 := by decide +kernel
theorem tB_cX4_as_1 : cX4_as.data.toList.drop 16 = RB_cX4_as_1 := od_st tB_cX4_as_0 16 rfl
theorem tB_cX4_as_2 : cX4_as.data.toList.drop 32 = RB_cX4_as_2 := od_st tB_cX4_as_1 16 rfl
theorem tB_cX4_as_3 : cX4_as.data.toList.drop 48 = RB_cX4_as_3 := od_st tB_cX4_as_2 16 rfl
theorem dX4_as_0 : decode cX4_as 0 = .ok (.aload_n 0, 1) := od_42 (od_at tB_cX4_as_0 0 rfl)
theorem dX4_as_1 : decode cX4_as 1 = .ok (.iconst 0, 1) := od_3 (od_at tB_cX4_as_0 1 rfl)
theorem dX4_as_2 : decode cX4_as 2 = .ok (.putfield 49, 3) := od_181 (od_at tB_cX4_as_0 2 rfl) (od_at tB_cX4_as_0 3 rfl) (od_at tB_cX4_as_0 4 rfl) rfl
theorem dX4_as_5 : decode cX4_as 5 = .ok (.aload_n 0, 1) := od_42 (od_at tB_cX4_as_0 5 rfl)
theorem dX4_as_6 : decode cX4_as 6 = .ok (.iload_n 1, 1) := od_27 (od_at tB_cX4_as_0 6 rfl)
theorem dX4_as_7 : decode cX4_as 7 = .ok (.invokevirtual 152, 3) := od_182 (od_at tB_cX4_as_0 7 rfl) (od_at tB_cX4_as_0 8 rfl) (od_at tB_cX4_as_0 9 rfl) rfl
theorem dX4_as_10 : decode cX4_as 10 = .ok (.ifCond .ne 5, 3) := od_154 (od_at tB_cX4_as_0 10 rfl) (od_at tB_cX4_as_0 11 rfl) (od_at tB_cX4_as_0 12 rfl) (by decide +kernel)
theorem dX4_as_13 : decode cX4_as 13 = .ok (.iconst (-1), 1) := od_2 (od_at tB_cX4_as_0 13 rfl)
theorem dX4_as_14 : decode cX4_as 14 = .ok (.ireturn, 1) := od_172 (od_at tB_cX4_as_0 14 rfl)
theorem dX4_as_15 : decode cX4_as 15 = .ok (.iload_n 2, 1) := od_28 (od_at tB_cX4_as_0 15 rfl)
theorem dX4_as_16 : decode cX4_as 16 = .ok (.iconst 0, 1) := od_3 (od_at tB_cX4_as_1 0 rfl)
theorem dX4_as_17 : decode cX4_as 17 = .ok (.iconst 2, 1) := od_5 (od_at tB_cX4_as_1 1 rfl)
theorem dX4_as_18 : decode cX4_as 18 = .ok (.invokestatic 54, 3) := od_184 (od_at tB_cX4_as_1 2 rfl) (od_at tB_cX4_as_1 3 rfl) (od_at tB_cX4_as_1 4 rfl) rfl
theorem dX4_as_21 : decode cX4_as 21 = .ok (.ifCond .ne 6, 3) := od_154 (od_at tB_cX4_as_1 5 rfl) (od_at tB_cX4_as_1 6 rfl) (od_at tB_cX4_as_1 7 rfl) (by decide +kernel)
theorem dX4_as_24 : decode cX4_as 24 = .ok (.bipush (-2), 2) := od_16 (od_at tB_cX4_as_1 8 rfl) (od_at tB_cX4_as_1 9 rfl) (by decide +kernel)
theorem dX4_as_26 : decode cX4_as 26 = .ok (.ireturn, 1) := od_172 (od_at tB_cX4_as_1 10 rfl)
theorem dX4_as_27 : decode cX4_as 27 = .ok (.aload_n 0, 1) := od_42 (od_at tB_cX4_as_1 11 rfl)
theorem dX4_as_28 : decode cX4_as 28 = .ok (.getfield 30, 3) := od_180 (od_at tB_cX4_as_1 12 rfl) (od_at tB_cX4_as_1 13 rfl) (od_at tB_cX4_as_1 14 rfl) rfl
theorem dX4_as_31 : decode cX4_as 31 = .ok (.iload_n 1, 1) := od_27 (od_at tB_cX4_as_1 15 rfl)
theorem dX4_as_32 : decode cX4_as 32 = .ok (.aaload, 1) := od_50 (od_at tB_cX4_as_2 0 rfl)
theorem dX4_as_33 : decode cX4_as 33 = .ok (.getfield 175, 3) := od_180 (od_at tB_cX4_as_2 1 rfl) (od_at tB_cX4_as_2 2 rfl) (od_at tB_cX4_as_2 3 rfl) rfl
theorem dX4_as_36 : decode cX4_as 36 = .ok (.iload_n 2, 1) := od_28 (od_at tB_cX4_as_2 4 rfl)
theorem dX4_as_37 : decode cX4_as 37 = .ok (.if_icmp .lt 7, 3) := od_161 (od_at tB_cX4_as_2 5 rfl) (od_at tB_cX4_as_2 6 rfl) (od_at tB_cX4_as_2 7 rfl) (by decide +kernel)
theorem dX4_as_40 : decode cX4_as 40 = .ok (.iconst 1, 1) := od_4 (od_at tB_cX4_as_2 8 rfl)
theorem dX4_as_41 : decode cX4_as 41 = .ok (.goto 8, 3) := od_167 (od_at tB_cX4_as_2 9 rfl) (od_at tB_cX4_as_2 10 rfl) (od_at tB_cX4_as_2 11 rfl) (by decide +kernel)
theorem dX4_as_44 : decode cX4_as 44 = .ok (.aload_n 0, 1) := od_42 (od_at tB_cX4_as_2 12 rfl)
theorem dX4_as_45 : decode cX4_as 45 = .ok (.iconst 2, 1) := od_5 (od_at tB_cX4_as_2 13 rfl)
theorem dX4_as_46 : decode cX4_as 46 = .ok (.invokevirtual 234, 3) := od_182 (od_at tB_cX4_as_2 14 rfl) (od_at tB_cX4_as_2 15 rfl) (od_at tB_cX4_as_2 16 rfl) rfl
theorem dX4_as_49 : decode cX4_as 49 = .ok (.ireturn, 1) := od_172 (od_at tB_cX4_as_3 1 rfl)
def RB_cX4_trace_0 : List UInt8 := 0x2a :: 0xb4 :: 0x00 :: 0x2e :: 0xac :: []
theorem tB_cX4_trace_0 : cX4_trace.data.toList.drop 0 = RB_cX4_trace_0 := by decide +kernel
theorem dX4_trace_0 : decode cX4_trace 0 = .ok (.aload_n 0, 1) := od_42 (od_at tB_cX4_trace_0 0 rfl)
theorem dX4_trace_1 : decode cX4_trace 1 = .ok (.getfield 46, 3) := od_180 (od_at tB_cX4_trace_0 1 rfl) (od_at tB_cX4_trace_0 2 rfl) (od_at tB_cX4_trace_0 3 rfl) rfl
theorem dX4_trace_4 : decode cX4_trace 4 = .ok (.ireturn, 1) := od_172 (od_at tB_cX4_trace_0 4 rfl)
def RB_cX4_fault_0 : List UInt8 := 0x2a :: 0xb4 :: 0x00 :: 0x31 :: 0xac :: []
theorem tB_cX4_fault_0 : cX4_fault.data.toList.drop 0 = RB_cX4_fault_0 := by decide +kernel
theorem dX4_fault_0 : decode cX4_fault 0 = .ok (.aload_n 0, 1) := od_42 (od_at tB_cX4_fault_0 0 rfl)
theorem dX4_fault_1 : decode cX4_fault 1 = .ok (.getfield 49, 3) := od_180 (od_at tB_cX4_fault_0 1 rfl) (od_at tB_cX4_fault_0 2 rfl) (od_at tB_cX4_fault_0 3 rfl) rfl
theorem dX4_fault_4 : decode cX4_fault 4 = .ok (.ireturn, 1) := od_172 (od_at tB_cX4_fault_0 4 rfl)
def RB_cX4_told_5 : List UInt8 := 0xac :: []
def RB_cX4_told_4 : List UInt8 := 0xb4 :: 0x00 :: 0x0d :: 0x1b :: 0x10 :: 0x0a :: 0x64 :: 0x32 :: 0xb4 :: 0x00 :: 0x51 :: 0xa7 :: 0x00 :: 0x05 :: 0x10 :: 0xfe :: RB_cX4_told_5
def RB_cX4_told_3 : List UInt8 := 0xb4 :: 0x00 :: 0x25 :: 0xac :: 0x2a :: 0x1b :: 0x10 :: 0x0a :: 0x64 :: 0xb6 :: 0x00 :: 0x3d :: 0x99 :: 0x00 :: 0x12 :: 0x2a :: RB_cX4_told_4
def RB_cX4_told_2 : List UInt8 := 0x2a :: 0xb4 :: 0x00 :: 0x11 :: 0xac :: 0x2a :: 0xb4 :: 0x00 :: 0x22 :: 0xac :: 0x2a :: 0xb6 :: 0x01 :: 0x19 :: 0xac :: 0x2a :: RB_cX4_told_3
def RB_cX4_told_1 : List UInt8 := 0x00 :: 0x00 :: 0x00 :: 0x1f :: 0x00 :: 0x00 :: 0x00 :: 0x24 :: 0x00 :: 0x00 :: 0x00 :: 0x29 :: 0x00 :: 0x00 :: 0x00 :: 0x2e :: RB_cX4_told_2
def RB_cX4_told_0 : List UInt8 := 0x1b :: 0xaa :: 0x00 :: 0x00 :: 0x00 :: 0x00 :: 0x00 :: 0x33 :: 0x00 :: 0x00 :: 0x00 :: 0x00 :: 0x00 :: 0x00 :: 0x00 :: 0x03 :: RB_cX4_told_1
theorem tB_cX4_told_0 : cX4_told.data.toList.drop 0 = RB_cX4_told_0 := by decide +kernel
theorem tB_cX4_told_1 : cX4_told.data.toList.drop 16 = RB_cX4_told_1 := od_st tB_cX4_told_0 16 rfl
theorem tB_cX4_told_2 : cX4_told.data.toList.drop 32 = RB_cX4_told_2 := od_st tB_cX4_told_1 16 rfl
theorem tB_cX4_told_3 : cX4_told.data.toList.drop 48 = RB_cX4_told_3 := od_st tB_cX4_told_2 16 rfl
theorem tB_cX4_told_4 : cX4_told.data.toList.drop 64 = RB_cX4_told_4 := od_st tB_cX4_told_3 16 rfl
theorem tB_cX4_told_5 : cX4_told.data.toList.drop 80 = RB_cX4_told_5 := od_st tB_cX4_told_4 16 rfl
theorem dX4_told_0 : decode cX4_told 0 = .ok (.iload_n 1, 1) := od_27 (od_at tB_cX4_told_0 0 rfl)
theorem dX4_told_1 : decode cX4_told 1 = .ok (.tableswitch 51 0 3 #[31, 36, 41, 46], 31) := by decide +kernel
theorem dX4_told_32 : decode cX4_told 32 = .ok (.aload_n 0, 1) := od_42 (od_at tB_cX4_told_2 0 rfl)
theorem dX4_told_33 : decode cX4_told 33 = .ok (.getfield 17, 3) := od_180 (od_at tB_cX4_told_2 1 rfl) (od_at tB_cX4_told_2 2 rfl) (od_at tB_cX4_told_2 3 rfl) rfl
theorem dX4_told_36 : decode cX4_told 36 = .ok (.ireturn, 1) := od_172 (od_at tB_cX4_told_2 4 rfl)
theorem dX4_told_37 : decode cX4_told 37 = .ok (.aload_n 0, 1) := od_42 (od_at tB_cX4_told_2 5 rfl)
theorem dX4_told_38 : decode cX4_told 38 = .ok (.getfield 34, 3) := od_180 (od_at tB_cX4_told_2 6 rfl) (od_at tB_cX4_told_2 7 rfl) (od_at tB_cX4_told_2 8 rfl) rfl
theorem dX4_told_41 : decode cX4_told 41 = .ok (.ireturn, 1) := od_172 (od_at tB_cX4_told_2 9 rfl)
theorem dX4_told_42 : decode cX4_told 42 = .ok (.aload_n 0, 1) := od_42 (od_at tB_cX4_told_2 10 rfl)
theorem dX4_told_43 : decode cX4_told 43 = .ok (.invokevirtual 281, 3) := od_182 (od_at tB_cX4_told_2 11 rfl) (od_at tB_cX4_told_2 12 rfl) (od_at tB_cX4_told_2 13 rfl) rfl
theorem dX4_told_46 : decode cX4_told 46 = .ok (.ireturn, 1) := od_172 (od_at tB_cX4_told_2 14 rfl)
theorem dX4_told_47 : decode cX4_told 47 = .ok (.aload_n 0, 1) := od_42 (od_at tB_cX4_told_2 15 rfl)
theorem dX4_told_48 : decode cX4_told 48 = .ok (.getfield 37, 3) := od_180 (od_at tB_cX4_told_3 0 rfl) (od_at tB_cX4_told_3 1 rfl) (od_at tB_cX4_told_3 2 rfl) rfl
theorem dX4_told_51 : decode cX4_told 51 = .ok (.ireturn, 1) := od_172 (od_at tB_cX4_told_3 3 rfl)
theorem dX4_told_52 : decode cX4_told 52 = .ok (.aload_n 0, 1) := od_42 (od_at tB_cX4_told_3 4 rfl)
theorem dX4_told_53 : decode cX4_told 53 = .ok (.iload_n 1, 1) := od_27 (od_at tB_cX4_told_3 5 rfl)
theorem dX4_told_54 : decode cX4_told 54 = .ok (.bipush 10, 2) := od_16 (od_at tB_cX4_told_3 6 rfl) (od_at tB_cX4_told_3 7 rfl) (by decide +kernel)
theorem dX4_told_56 : decode cX4_told 56 = .ok (.isub, 1) := od_100 (od_at tB_cX4_told_3 8 rfl)
theorem dX4_told_57 : decode cX4_told 57 = .ok (.invokevirtual 61, 3) := od_182 (od_at tB_cX4_told_3 9 rfl) (od_at tB_cX4_told_3 10 rfl) (od_at tB_cX4_told_3 11 rfl) rfl
theorem dX4_told_60 : decode cX4_told 60 = .ok (.ifCond .eq 18, 3) := od_153 (od_at tB_cX4_told_3 12 rfl) (od_at tB_cX4_told_3 13 rfl) (od_at tB_cX4_told_3 14 rfl) (by decide +kernel)
theorem dX4_told_63 : decode cX4_told 63 = .ok (.aload_n 0, 1) := od_42 (od_at tB_cX4_told_3 15 rfl)
theorem dX4_told_64 : decode cX4_told 64 = .ok (.getfield 13, 3) := od_180 (od_at tB_cX4_told_4 0 rfl) (od_at tB_cX4_told_4 1 rfl) (od_at tB_cX4_told_4 2 rfl) rfl
theorem dX4_told_67 : decode cX4_told 67 = .ok (.iload_n 1, 1) := od_27 (od_at tB_cX4_told_4 3 rfl)
theorem dX4_told_68 : decode cX4_told 68 = .ok (.bipush 10, 2) := od_16 (od_at tB_cX4_told_4 4 rfl) (od_at tB_cX4_told_4 5 rfl) (by decide +kernel)
theorem dX4_told_70 : decode cX4_told 70 = .ok (.isub, 1) := od_100 (od_at tB_cX4_told_4 6 rfl)
theorem dX4_told_71 : decode cX4_told 71 = .ok (.aaload, 1) := od_50 (od_at tB_cX4_told_4 7 rfl)
theorem dX4_told_72 : decode cX4_told 72 = .ok (.getfield 81, 3) := od_180 (od_at tB_cX4_told_4 8 rfl) (od_at tB_cX4_told_4 9 rfl) (od_at tB_cX4_told_4 10 rfl) rfl
theorem dX4_told_75 : decode cX4_told 75 = .ok (.goto 5, 3) := od_167 (od_at tB_cX4_told_4 11 rfl) (od_at tB_cX4_told_4 12 rfl) (od_at tB_cX4_told_4 13 rfl) (by decide +kernel)
theorem dX4_told_78 : decode cX4_told 78 = .ok (.bipush (-2), 2) := od_16 (od_at tB_cX4_told_4 14 rfl) (od_at tB_cX4_told_4 15 rfl) (by decide +kernel)
theorem dX4_told_80 : decode cX4_told 80 = .ok (.ireturn, 1) := od_172 (od_at tB_cX4_told_5 0 rfl)
def RB_cX4_isWithin_0 : List UInt8 := 0x1a :: 0x1b :: 0xa1 :: 0x00 :: 0x0c :: 0x1a :: 0x1c :: 0xa3 :: 0x00 :: 0x07 :: 0x04 :: 0xa7 :: 0x00 :: 0x04 :: 0x03 :: 0xac :: []
theorem tB_cX4_isWithin_0 : cX4_isWithin.data.toList.drop 0 = RB_cX4_isWithin_0 := by decide +kernel
theorem dX4_isWithin_0 : decode cX4_isWithin 0 = .ok (.iload_n 0, 1) := od_26 (od_at tB_cX4_isWithin_0 0 rfl)
theorem dX4_isWithin_1 : decode cX4_isWithin 1 = .ok (.iload_n 1, 1) := od_27 (od_at tB_cX4_isWithin_0 1 rfl)
theorem dX4_isWithin_2 : decode cX4_isWithin 2 = .ok (.if_icmp .lt 12, 3) := od_161 (od_at tB_cX4_isWithin_0 2 rfl) (od_at tB_cX4_isWithin_0 3 rfl) (od_at tB_cX4_isWithin_0 4 rfl) (by decide +kernel)
theorem dX4_isWithin_5 : decode cX4_isWithin 5 = .ok (.iload_n 0, 1) := od_26 (od_at tB_cX4_isWithin_0 5 rfl)
theorem dX4_isWithin_6 : decode cX4_isWithin 6 = .ok (.iload_n 2, 1) := od_28 (od_at tB_cX4_isWithin_0 6 rfl)
theorem dX4_isWithin_7 : decode cX4_isWithin 7 = .ok (.if_icmp .gt 7, 3) := od_163 (od_at tB_cX4_isWithin_0 7 rfl) (od_at tB_cX4_isWithin_0 8 rfl) (od_at tB_cX4_isWithin_0 9 rfl) (by decide +kernel)
theorem dX4_isWithin_10 : decode cX4_isWithin 10 = .ok (.iconst 1, 1) := od_4 (od_at tB_cX4_isWithin_0 10 rfl)
theorem dX4_isWithin_11 : decode cX4_isWithin 11 = .ok (.goto 4, 3) := od_167 (od_at tB_cX4_isWithin_0 11 rfl) (od_at tB_cX4_isWithin_0 12 rfl) (od_at tB_cX4_isWithin_0 13 rfl) (by decide +kernel)
theorem dX4_isWithin_14 : decode cX4_isWithin 14 = .ok (.iconst 0, 1) := od_3 (od_at tB_cX4_isWithin_0 14 rfl)
theorem dX4_isWithin_15 : decode cX4_isWithin 15 = .ok (.ireturn, 1) := od_172 (od_at tB_cX4_isWithin_0 15 rfl)
def RB_cX4_isDay_0 : List UInt8 := 0x1a :: 0x03 :: 0x11 :: 0x01 :: 0x90 :: 0xb8 :: 0x00 :: 0x36 :: 0xac :: []
theorem tB_cX4_isDay_0 : cX4_isDay.data.toList.drop 0 = RB_cX4_isDay_0 := by decide +kernel
theorem dX4_isDay_0 : decode cX4_isDay 0 = .ok (.iload_n 0, 1) := od_26 (od_at tB_cX4_isDay_0 0 rfl)
theorem dX4_isDay_1 : decode cX4_isDay 1 = .ok (.iconst 0, 1) := od_3 (od_at tB_cX4_isDay_0 1 rfl)
theorem dX4_isDay_2 : decode cX4_isDay 2 = .ok (.sipush 400, 3) := od_17 (od_at tB_cX4_isDay_0 2 rfl) (od_at tB_cX4_isDay_0 3 rfl) (od_at tB_cX4_isDay_0 4 rfl) (by decide +kernel)
theorem dX4_isDay_5 : decode cX4_isDay 5 = .ok (.invokestatic 54, 3) := od_184 (od_at tB_cX4_isDay_0 5 rfl) (od_at tB_cX4_isDay_0 6 rfl) (od_at tB_cX4_isDay_0 7 rfl) rfl
theorem dX4_isDay_8 : decode cX4_isDay 8 = .ok (.ireturn, 1) := od_172 (od_at tB_cX4_isDay_0 8 rfl)
def RB_cX4_areDays_1 : List UInt8 := 0xa3 :: 0x00 :: 0x07 :: 0x04 :: 0xa7 :: 0x00 :: 0x04 :: 0x03 :: 0xac :: []
def RB_cX4_areDays_0 : List UInt8 := 0x1a :: 0xb8 :: 0x00 :: 0x44 :: 0x99 :: 0x00 :: 0x13 :: 0x1b :: 0xb8 :: 0x00 :: 0x44 :: 0x99 :: 0x00 :: 0x0c :: 0x1a :: 0x1b :: RB_cX4_areDays_1
theorem tB_cX4_areDays_0 : cX4_areDays.data.toList.drop 0 = RB_cX4_areDays_0 := by decide +kernel
theorem tB_cX4_areDays_1 : cX4_areDays.data.toList.drop 16 = RB_cX4_areDays_1 := od_st tB_cX4_areDays_0 16 rfl
theorem dX4_areDays_0 : decode cX4_areDays 0 = .ok (.iload_n 0, 1) := od_26 (od_at tB_cX4_areDays_0 0 rfl)
theorem dX4_areDays_1 : decode cX4_areDays 1 = .ok (.invokestatic 68, 3) := od_184 (od_at tB_cX4_areDays_0 1 rfl) (od_at tB_cX4_areDays_0 2 rfl) (od_at tB_cX4_areDays_0 3 rfl) rfl
theorem dX4_areDays_4 : decode cX4_areDays 4 = .ok (.ifCond .eq 19, 3) := od_153 (od_at tB_cX4_areDays_0 4 rfl) (od_at tB_cX4_areDays_0 5 rfl) (od_at tB_cX4_areDays_0 6 rfl) (by decide +kernel)
theorem dX4_areDays_7 : decode cX4_areDays 7 = .ok (.iload_n 1, 1) := od_27 (od_at tB_cX4_areDays_0 7 rfl)
theorem dX4_areDays_8 : decode cX4_areDays 8 = .ok (.invokestatic 68, 3) := od_184 (od_at tB_cX4_areDays_0 8 rfl) (od_at tB_cX4_areDays_0 9 rfl) (od_at tB_cX4_areDays_0 10 rfl) rfl
theorem dX4_areDays_11 : decode cX4_areDays 11 = .ok (.ifCond .eq 12, 3) := od_153 (od_at tB_cX4_areDays_0 11 rfl) (od_at tB_cX4_areDays_0 12 rfl) (od_at tB_cX4_areDays_0 13 rfl) (by decide +kernel)
theorem dX4_areDays_14 : decode cX4_areDays 14 = .ok (.iload_n 0, 1) := od_26 (od_at tB_cX4_areDays_0 14 rfl)
theorem dX4_areDays_15 : decode cX4_areDays 15 = .ok (.iload_n 1, 1) := od_27 (od_at tB_cX4_areDays_0 15 rfl)
theorem dX4_areDays_16 : decode cX4_areDays 16 = .ok (.if_icmp .gt 7, 3) := od_163 (od_at tB_cX4_areDays_1 0 rfl) (od_at tB_cX4_areDays_1 1 rfl) (od_at tB_cX4_areDays_1 2 rfl) (by decide +kernel)
theorem dX4_areDays_19 : decode cX4_areDays 19 = .ok (.iconst 1, 1) := od_4 (od_at tB_cX4_areDays_1 3 rfl)
theorem dX4_areDays_20 : decode cX4_areDays 20 = .ok (.goto 4, 3) := od_167 (od_at tB_cX4_areDays_1 4 rfl) (od_at tB_cX4_areDays_1 5 rfl) (od_at tB_cX4_areDays_1 6 rfl) (by decide +kernel)
theorem dX4_areDays_23 : decode cX4_areDays 23 = .ok (.iconst 0, 1) := od_3 (od_at tB_cX4_areDays_1 7 rfl)
theorem dX4_areDays_24 : decode cX4_areDays 24 = .ok (.ireturn, 1) := od_172 (od_at tB_cX4_areDays_1 8 rfl)
def RB_cX4_isFlow_0 : List UInt8 := 0x1a :: 0x04 :: 0x11 :: 0x27 :: 0x10 :: 0xb8 :: 0x00 :: 0x36 :: 0xac :: []
theorem tB_cX4_isFlow_0 : cX4_isFlow.data.toList.drop 0 = RB_cX4_isFlow_0 := by decide +kernel
theorem dX4_isFlow_0 : decode cX4_isFlow 0 = .ok (.iload_n 0, 1) := od_26 (od_at tB_cX4_isFlow_0 0 rfl)
theorem dX4_isFlow_1 : decode cX4_isFlow 1 = .ok (.iconst 1, 1) := od_4 (od_at tB_cX4_isFlow_0 1 rfl)
theorem dX4_isFlow_2 : decode cX4_isFlow 2 = .ok (.sipush 10000, 3) := od_17 (od_at tB_cX4_isFlow_0 2 rfl) (od_at tB_cX4_isFlow_0 3 rfl) (od_at tB_cX4_isFlow_0 4 rfl) (by decide +kernel)
theorem dX4_isFlow_5 : decode cX4_isFlow 5 = .ok (.invokestatic 54, 3) := od_184 (od_at tB_cX4_isFlow_0 5 rfl) (od_at tB_cX4_isFlow_0 6 rfl) (od_at tB_cX4_isFlow_0 7 rfl) rfl
theorem dX4_isFlow_8 : decode cX4_isFlow 8 = .ok (.ireturn, 1) := od_172 (od_at tB_cX4_isFlow_0 8 rfl)
def RB_cX4_isLine_0 : List UInt8 := 0x1a :: 0x03 :: 0x06 :: 0xb8 :: 0x00 :: 0x36 :: 0xac :: []
theorem tB_cX4_isLine_0 : cX4_isLine.data.toList.drop 0 = RB_cX4_isLine_0 := by decide +kernel
theorem dX4_isLine_0 : decode cX4_isLine 0 = .ok (.iload_n 0, 1) := od_26 (od_at tB_cX4_isLine_0 0 rfl)
theorem dX4_isLine_1 : decode cX4_isLine 1 = .ok (.iconst 0, 1) := od_3 (od_at tB_cX4_isLine_0 1 rfl)
theorem dX4_isLine_2 : decode cX4_isLine 2 = .ok (.iconst 3, 1) := od_6 (od_at tB_cX4_isLine_0 2 rfl)
theorem dX4_isLine_3 : decode cX4_isLine 3 = .ok (.invokestatic 54, 3) := od_184 (od_at tB_cX4_isLine_0 3 rfl) (od_at tB_cX4_isLine_0 4 rfl) (od_at tB_cX4_isLine_0 5 rfl) rfl
theorem dX4_isLine_6 : decode cX4_isLine 6 = .ok (.ireturn, 1) := od_172 (od_at tB_cX4_isLine_0 6 rfl)
def RB_cX4_isSheet_0 : List UInt8 := 0x1a :: 0x03 :: 0x06 :: 0xb8 :: 0x00 :: 0x36 :: 0xac :: []
theorem tB_cX4_isSheet_0 : cX4_isSheet.data.toList.drop 0 = RB_cX4_isSheet_0 := by decide +kernel
theorem dX4_isSheet_0 : decode cX4_isSheet 0 = .ok (.iload_n 0, 1) := od_26 (od_at tB_cX4_isSheet_0 0 rfl)
theorem dX4_isSheet_1 : decode cX4_isSheet 1 = .ok (.iconst 0, 1) := od_3 (od_at tB_cX4_isSheet_0 1 rfl)
theorem dX4_isSheet_2 : decode cX4_isSheet 2 = .ok (.iconst 3, 1) := od_6 (od_at tB_cX4_isSheet_0 2 rfl)
theorem dX4_isSheet_3 : decode cX4_isSheet 3 = .ok (.invokestatic 54, 3) := od_184 (od_at tB_cX4_isSheet_0 3 rfl) (od_at tB_cX4_isSheet_0 4 rfl) (od_at tB_cX4_isSheet_0 5 rfl) rfl
theorem dX4_isSheet_6 : decode cX4_isSheet 6 = .ok (.ireturn, 1) := od_172 (od_at tB_cX4_isSheet_0 6 rfl)
def RB_cX4_isLane_0 : List UInt8 := 0x1a :: 0x03 :: 0x05 :: 0xb8 :: 0x00 :: 0x36 :: 0xac :: []
theorem tB_cX4_isLane_0 : cX4_isLane.data.toList.drop 0 = RB_cX4_isLane_0 := by decide +kernel
theorem dX4_isLane_0 : decode cX4_isLane 0 = .ok (.iload_n 0, 1) := od_26 (od_at tB_cX4_isLane_0 0 rfl)
theorem dX4_isLane_1 : decode cX4_isLane 1 = .ok (.iconst 0, 1) := od_3 (od_at tB_cX4_isLane_0 1 rfl)
theorem dX4_isLane_2 : decode cX4_isLane 2 = .ok (.iconst 2, 1) := od_5 (od_at tB_cX4_isLane_0 2 rfl)
theorem dX4_isLane_3 : decode cX4_isLane 3 = .ok (.invokestatic 54, 3) := od_184 (od_at tB_cX4_isLane_0 3 rfl) (od_at tB_cX4_isLane_0 4 rfl) (od_at tB_cX4_isLane_0 5 rfl) rfl
theorem dX4_isLane_6 : decode cX4_isLane 6 = .ok (.ireturn, 1) := od_172 (od_at tB_cX4_isLane_0 6 rfl)
def RB_cX4_isMeter_0 : List UInt8 := 0x1b :: 0x03 :: 0x2a :: 0xb4 :: 0x00 :: 0x11 :: 0x04 :: 0x64 :: 0xb8 :: 0x00 :: 0x36 :: 0xac :: []
theorem tB_cX4_isMeter_0 : cX4_isMeter.data.toList.drop 0 = RB_cX4_isMeter_0 := by decide +kernel
theorem dX4_isMeter_0 : decode cX4_isMeter 0 = .ok (.iload_n 1, 1) := od_27 (od_at tB_cX4_isMeter_0 0 rfl)
theorem dX4_isMeter_1 : decode cX4_isMeter 1 = .ok (.iconst 0, 1) := od_3 (od_at tB_cX4_isMeter_0 1 rfl)
theorem dX4_isMeter_2 : decode cX4_isMeter 2 = .ok (.aload_n 0, 1) := od_42 (od_at tB_cX4_isMeter_0 2 rfl)
theorem dX4_isMeter_3 : decode cX4_isMeter 3 = .ok (.getfield 17, 3) := od_180 (od_at tB_cX4_isMeter_0 3 rfl) (od_at tB_cX4_isMeter_0 4 rfl) (od_at tB_cX4_isMeter_0 5 rfl) rfl
theorem dX4_isMeter_6 : decode cX4_isMeter 6 = .ok (.iconst 1, 1) := od_4 (od_at tB_cX4_isMeter_0 6 rfl)
theorem dX4_isMeter_7 : decode cX4_isMeter 7 = .ok (.isub, 1) := od_100 (od_at tB_cX4_isMeter_0 7 rfl)
theorem dX4_isMeter_8 : decode cX4_isMeter 8 = .ok (.invokestatic 54, 3) := od_184 (od_at tB_cX4_isMeter_0 8 rfl) (od_at tB_cX4_isMeter_0 9 rfl) (od_at tB_cX4_isMeter_0 10 rfl) rfl
theorem dX4_isMeter_11 : decode cX4_isMeter 11 = .ok (.ireturn, 1) := od_172 (od_at tB_cX4_isMeter_0 11 rfl)
def RB_cX4_isTicket_0 : List UInt8 := 0x1b :: 0x03 :: 0x2a :: 0xb4 :: 0x00 :: 0x22 :: 0x04 :: 0x64 :: 0xb8 :: 0x00 :: 0x36 :: 0xac :: []
theorem tB_cX4_isTicket_0 : cX4_isTicket.data.toList.drop 0 = RB_cX4_isTicket_0 := by decide +kernel
theorem dX4_isTicket_0 : decode cX4_isTicket 0 = .ok (.iload_n 1, 1) := od_27 (od_at tB_cX4_isTicket_0 0 rfl)
theorem dX4_isTicket_1 : decode cX4_isTicket 1 = .ok (.iconst 0, 1) := od_3 (od_at tB_cX4_isTicket_0 1 rfl)
theorem dX4_isTicket_2 : decode cX4_isTicket 2 = .ok (.aload_n 0, 1) := od_42 (od_at tB_cX4_isTicket_0 2 rfl)
theorem dX4_isTicket_3 : decode cX4_isTicket 3 = .ok (.getfield 34, 3) := od_180 (od_at tB_cX4_isTicket_0 3 rfl) (od_at tB_cX4_isTicket_0 4 rfl) (od_at tB_cX4_isTicket_0 5 rfl) rfl
theorem dX4_isTicket_6 : decode cX4_isTicket 6 = .ok (.iconst 1, 1) := od_4 (od_at tB_cX4_isTicket_0 6 rfl)
theorem dX4_isTicket_7 : decode cX4_isTicket 7 = .ok (.isub, 1) := od_100 (od_at tB_cX4_isTicket_0 7 rfl)
theorem dX4_isTicket_8 : decode cX4_isTicket 8 = .ok (.invokestatic 54, 3) := od_184 (od_at tB_cX4_isTicket_0 8 rfl) (od_at tB_cX4_isTicket_0 9 rfl) (od_at tB_cX4_isTicket_0 10 rfl) rfl
theorem dX4_isTicket_11 : decode cX4_isTicket 11 = .ok (.ireturn, 1) := od_172 (od_at tB_cX4_isTicket_0 11 rfl)
def RB_cX4_isShut_0 : List UInt8 := 0x1b :: 0x2a :: 0xb4 :: 0x00 :: 0x25 :: 0xa3 :: 0x00 :: 0x07 :: 0x04 :: 0xa7 :: 0x00 :: 0x04 :: 0x03 :: 0xac :: []
theorem tB_cX4_isShut_0 : cX4_isShut.data.toList.drop 0 = RB_cX4_isShut_0 := by decide +kernel
theorem dX4_isShut_0 : decode cX4_isShut 0 = .ok (.iload_n 1, 1) := od_27 (od_at tB_cX4_isShut_0 0 rfl)
theorem dX4_isShut_1 : decode cX4_isShut 1 = .ok (.aload_n 0, 1) := od_42 (od_at tB_cX4_isShut_0 1 rfl)
theorem dX4_isShut_2 : decode cX4_isShut 2 = .ok (.getfield 37, 3) := od_180 (od_at tB_cX4_isShut_0 2 rfl) (od_at tB_cX4_isShut_0 3 rfl) (od_at tB_cX4_isShut_0 4 rfl) rfl
theorem dX4_isShut_5 : decode cX4_isShut 5 = .ok (.if_icmp .gt 7, 3) := od_163 (od_at tB_cX4_isShut_0 5 rfl) (od_at tB_cX4_isShut_0 6 rfl) (od_at tB_cX4_isShut_0 7 rfl) (by decide +kernel)
theorem dX4_isShut_8 : decode cX4_isShut 8 = .ok (.iconst 1, 1) := od_4 (od_at tB_cX4_isShut_0 8 rfl)
theorem dX4_isShut_9 : decode cX4_isShut 9 = .ok (.goto 4, 3) := od_167 (od_at tB_cX4_isShut_0 9 rfl) (od_at tB_cX4_isShut_0 10 rfl) (od_at tB_cX4_isShut_0 11 rfl) (by decide +kernel)
theorem dX4_isShut_12 : decode cX4_isShut 12 = .ok (.iconst 0, 1) := od_3 (od_at tB_cX4_isShut_0 12 rfl)
theorem dX4_isShut_13 : decode cX4_isShut 13 = .ok (.ireturn, 1) := od_172 (od_at tB_cX4_isShut_0 13 rfl)
def RB_cX4_rounded_1 : List UInt8 := 0x01 :: 0x1d :: 0x20 :: 0x69 :: 0x6d :: 0xad :: []
def RB_cX4_rounded_0 : List UInt8 := 0x20 :: 0x09 :: 0x94 :: 0x9d :: 0x00 :: 0x05 :: 0x09 :: 0xad :: 0x14 :: 0x01 :: 0x1d :: 0x1e :: 0x69 :: 0x20 :: 0x61 :: 0x14 :: RB_cX4_rounded_1
theorem tB_cX4_rounded_0 : cX4_rounded.data.toList.drop 0 = RB_cX4_rounded_0 := by decide +kernel
theorem tB_cX4_rounded_1 : cX4_rounded.data.toList.drop 16 = RB_cX4_rounded_1 := od_st tB_cX4_rounded_0 16 rfl
theorem dX4_rounded_0 : decode cX4_rounded 0 = .ok (.lload_n 2, 1) := od_32 (od_at tB_cX4_rounded_0 0 rfl)
theorem dX4_rounded_1 : decode cX4_rounded 1 = .ok (.lconst 0, 1) := od_9 (od_at tB_cX4_rounded_0 1 rfl)
theorem dX4_rounded_2 : decode cX4_rounded 2 = .ok (.lcmp, 1) := od_148 (od_at tB_cX4_rounded_0 2 rfl)
theorem dX4_rounded_3 : decode cX4_rounded 3 = .ok (.ifCond .gt 5, 3) := od_157 (od_at tB_cX4_rounded_0 3 rfl) (od_at tB_cX4_rounded_0 4 rfl) (od_at tB_cX4_rounded_0 5 rfl) (by decide +kernel)
theorem dX4_rounded_6 : decode cX4_rounded 6 = .ok (.lconst 0, 1) := od_9 (od_at tB_cX4_rounded_0 6 rfl)
theorem dX4_rounded_7 : decode cX4_rounded 7 = .ok (.lreturn, 1) := od_173 (od_at tB_cX4_rounded_0 7 rfl)
theorem dX4_rounded_8 : decode cX4_rounded 8 = .ok (.ldc2_w 285, 3) := od_20 (od_at tB_cX4_rounded_0 8 rfl) (od_at tB_cX4_rounded_0 9 rfl) (od_at tB_cX4_rounded_0 10 rfl) rfl
theorem dX4_rounded_11 : decode cX4_rounded 11 = .ok (.lload_n 0, 1) := od_30 (od_at tB_cX4_rounded_0 11 rfl)
theorem dX4_rounded_12 : decode cX4_rounded 12 = .ok (.lmul, 1) := od_105 (od_at tB_cX4_rounded_0 12 rfl)
theorem dX4_rounded_13 : decode cX4_rounded 13 = .ok (.lload_n 2, 1) := od_32 (od_at tB_cX4_rounded_0 13 rfl)
theorem dX4_rounded_14 : decode cX4_rounded 14 = .ok (.ladd, 1) := od_97 (od_at tB_cX4_rounded_0 14 rfl)
theorem dX4_rounded_15 : decode cX4_rounded 15 = .ok (.ldc2_w 285, 3) := od_20 (od_at tB_cX4_rounded_0 15 rfl) (od_at tB_cX4_rounded_0 16 rfl) (od_at tB_cX4_rounded_0 17 rfl) rfl
theorem dX4_rounded_18 : decode cX4_rounded 18 = .ok (.lload_n 2, 1) := od_32 (od_at tB_cX4_rounded_1 2 rfl)
theorem dX4_rounded_19 : decode cX4_rounded 19 = .ok (.lmul, 1) := od_105 (od_at tB_cX4_rounded_1 3 rfl)
theorem dX4_rounded_20 : decode cX4_rounded 20 = .ok (.ldiv, 1) := od_109 (od_at tB_cX4_rounded_1 4 rfl)
theorem dX4_rounded_21 : decode cX4_rounded 21 = .ok (.lreturn, 1) := od_173 (od_at tB_cX4_rounded_1 5 rfl)
def RB_cX4_fail_0 : List UInt8 := 0x2a :: 0x1b :: 0xb5 :: 0x00 :: 0x31 :: 0x10 :: 0xf6 :: 0x1b :: 0x64 :: 0xac :: []
theorem tB_cX4_fail_0 : cX4_fail.data.toList.drop 0 = RB_cX4_fail_0 := by decide +kernel
theorem dX4_fail_0 : decode cX4_fail 0 = .ok (.aload_n 0, 1) := od_42 (od_at tB_cX4_fail_0 0 rfl)
theorem dX4_fail_1 : decode cX4_fail 1 = .ok (.iload_n 1, 1) := od_27 (od_at tB_cX4_fail_0 1 rfl)
theorem dX4_fail_2 : decode cX4_fail 2 = .ok (.putfield 49, 3) := od_181 (od_at tB_cX4_fail_0 2 rfl) (od_at tB_cX4_fail_0 3 rfl) (od_at tB_cX4_fail_0 4 rfl) rfl
theorem dX4_fail_5 : decode cX4_fail 5 = .ok (.bipush (-10), 2) := od_16 (od_at tB_cX4_fail_0 5 rfl) (od_at tB_cX4_fail_0 6 rfl) (by decide +kernel)
theorem dX4_fail_7 : decode cX4_fail 7 = .ok (.iload_n 1, 1) := od_27 (od_at tB_cX4_fail_0 7 rfl)
theorem dX4_fail_8 : decode cX4_fail 8 = .ok (.isub, 1) := od_100 (od_at tB_cX4_fail_0 8 rfl)
theorem dX4_fail_9 : decode cX4_fail 9 = .ok (.ireturn, 1) := od_172 (od_at tB_cX4_fail_0 9 rfl)
def RB_cX4_leave_0 : List UInt8 := 0x2a :: 0x10 :: 0x1f :: 0x2a :: 0xb4 :: 0x00 :: 0x2e :: 0x68 :: 0x1b :: 0x60 :: 0xb5 :: 0x00 :: 0x2e :: 0xb1 :: []
theorem tB_cX4_leave_0 : cX4_leave.data.toList.drop 0 = RB_cX4_leave_0 := by decide +kernel
theorem dX4_leave_0 : decode cX4_leave 0 = .ok (.aload_n 0, 1) := od_42 (od_at tB_cX4_leave_0 0 rfl)
theorem dX4_leave_1 : decode cX4_leave 1 = .ok (.bipush 31, 2) := od_16 (od_at tB_cX4_leave_0 1 rfl) (od_at tB_cX4_leave_0 2 rfl) (by decide +kernel)
theorem dX4_leave_3 : decode cX4_leave 3 = .ok (.aload_n 0, 1) := od_42 (od_at tB_cX4_leave_0 3 rfl)
theorem dX4_leave_4 : decode cX4_leave 4 = .ok (.getfield 46, 3) := od_180 (od_at tB_cX4_leave_0 4 rfl) (od_at tB_cX4_leave_0 5 rfl) (od_at tB_cX4_leave_0 6 rfl) rfl
theorem dX4_leave_7 : decode cX4_leave 7 = .ok (.imul, 1) := od_104 (od_at tB_cX4_leave_0 7 rfl)
theorem dX4_leave_8 : decode cX4_leave 8 = .ok (.iload_n 1, 1) := od_27 (od_at tB_cX4_leave_0 8 rfl)
theorem dX4_leave_9 : decode cX4_leave 9 = .ok (.iadd, 1) := od_96 (od_at tB_cX4_leave_0 9 rfl)
theorem dX4_leave_10 : decode cX4_leave 10 = .ok (.putfield 46, 3) := od_181 (od_at tB_cX4_leave_0 10 rfl) (od_at tB_cX4_leave_0 11 rfl) (od_at tB_cX4_leave_0 12 rfl) rfl
theorem dX4_leave_13 : decode cX4_leave 13 = .ok (.return_, 1) := od_177 (od_at tB_cX4_leave_0 13 rfl)
def RB_cX4_tellTicket_0 : List UInt8 := 0x2a :: 0x04 :: 0xb6 :: 0x01 :: 0x10 :: 0x2b :: 0xb4 :: 0x00 :: 0x9e :: 0xac :: []
theorem tB_cX4_tellTicket_0 : cX4_tellTicket.data.toList.drop 0 = RB_cX4_tellTicket_0 := by decide +kernel
theorem dX4_tellTicket_0 : decode cX4_tellTicket 0 = .ok (.aload_n 0, 1) := od_42 (od_at tB_cX4_tellTicket_0 0 rfl)
theorem dX4_tellTicket_1 : decode cX4_tellTicket 1 = .ok (.iconst 1, 1) := od_4 (od_at tB_cX4_tellTicket_0 1 rfl)
theorem dX4_tellTicket_2 : decode cX4_tellTicket 2 = .ok (.invokevirtual 272, 3) := od_182 (od_at tB_cX4_tellTicket_0 2 rfl) (od_at tB_cX4_tellTicket_0 3 rfl) (od_at tB_cX4_tellTicket_0 4 rfl) rfl
theorem dX4_tellTicket_5 : decode cX4_tellTicket 5 = .ok (.aload_n 1, 1) := od_43 (od_at tB_cX4_tellTicket_0 5 rfl)
theorem dX4_tellTicket_6 : decode cX4_tellTicket 6 = .ok (.getfield 158, 3) := od_180 (od_at tB_cX4_tellTicket_0 6 rfl) (od_at tB_cX4_tellTicket_0 7 rfl) (od_at tB_cX4_tellTicket_0 8 rfl) rfl
theorem dX4_tellTicket_9 : decode cX4_tellTicket 9 = .ok (.ireturn, 1) := od_172 (od_at tB_cX4_tellTicket_0 9 rfl)
def RB_cX4_keep_1 : List UInt8 := 0x60 :: 0xb5 :: 0x00 :: 0x22 :: 0xb1 :: []
def RB_cX4_keep_0 : List UInt8 := 0x2a :: 0xb4 :: 0x00 :: 0x1e :: 0x2a :: 0xb4 :: 0x00 :: 0x22 :: 0x2b :: 0x53 :: 0x2a :: 0x59 :: 0xb4 :: 0x00 :: 0x22 :: 0x04 :: RB_cX4_keep_1
theorem tB_cX4_keep_0 : cX4_keep.data.toList.drop 0 = RB_cX4_keep_0 := by decide +kernel
theorem tB_cX4_keep_1 : cX4_keep.data.toList.drop 16 = RB_cX4_keep_1 := od_st tB_cX4_keep_0 16 rfl
theorem dX4_keep_0 : decode cX4_keep 0 = .ok (.aload_n 0, 1) := od_42 (od_at tB_cX4_keep_0 0 rfl)
theorem dX4_keep_1 : decode cX4_keep 1 = .ok (.getfield 30, 3) := od_180 (od_at tB_cX4_keep_0 1 rfl) (od_at tB_cX4_keep_0 2 rfl) (od_at tB_cX4_keep_0 3 rfl) rfl
theorem dX4_keep_4 : decode cX4_keep 4 = .ok (.aload_n 0, 1) := od_42 (od_at tB_cX4_keep_0 4 rfl)
theorem dX4_keep_5 : decode cX4_keep 5 = .ok (.getfield 34, 3) := od_180 (od_at tB_cX4_keep_0 5 rfl) (od_at tB_cX4_keep_0 6 rfl) (od_at tB_cX4_keep_0 7 rfl) rfl
theorem dX4_keep_8 : decode cX4_keep 8 = .ok (.aload_n 1, 1) := od_43 (od_at tB_cX4_keep_0 8 rfl)
theorem dX4_keep_9 : decode cX4_keep 9 = .ok (.aastore, 1) := od_83 (od_at tB_cX4_keep_0 9 rfl)
theorem dX4_keep_10 : decode cX4_keep 10 = .ok (.aload_n 0, 1) := od_42 (od_at tB_cX4_keep_0 10 rfl)
theorem dX4_keep_11 : decode cX4_keep 11 = .ok (.dup, 1) := od_89 (od_at tB_cX4_keep_0 11 rfl)
theorem dX4_keep_12 : decode cX4_keep 12 = .ok (.getfield 34, 3) := od_180 (od_at tB_cX4_keep_0 12 rfl) (od_at tB_cX4_keep_0 13 rfl) (od_at tB_cX4_keep_0 14 rfl) rfl
theorem dX4_keep_15 : decode cX4_keep 15 = .ok (.iconst 1, 1) := od_4 (od_at tB_cX4_keep_0 15 rfl)
theorem dX4_keep_16 : decode cX4_keep 16 = .ok (.iadd, 1) := od_96 (od_at tB_cX4_keep_1 0 rfl)
theorem dX4_keep_17 : decode cX4_keep 17 = .ok (.putfield 34, 3) := od_181 (od_at tB_cX4_keep_1 1 rfl) (od_at tB_cX4_keep_1 2 rfl) (od_at tB_cX4_keep_1 3 rfl) rfl
theorem dX4_keep_20 : decode cX4_keep 20 = .ok (.return_, 1) := od_177 (od_at tB_cX4_keep_1 4 rfl)
def RB_cX4_replace_4 : List UInt8 := 0x00 :: 0x94 :: 0xb1 :: []
def RB_cX4_replace_3 : List UInt8 := 0xb5 :: 0x00 :: 0xba :: 0x19 :: 0x04 :: 0x2a :: 0xb4 :: 0x00 :: 0x22 :: 0xb5 :: 0x00 :: 0xb7 :: 0x2a :: 0x19 :: 0x05 :: 0xb6 :: RB_cX4_replace_4
def RB_cX4_replace_2 : List UInt8 := 0x01 :: 0x1f :: 0xb7 :: 0x00 :: 0x91 :: 0x3a :: 0x05 :: 0x19 :: 0x05 :: 0x1c :: 0xb5 :: 0x00 :: 0xaf :: 0x19 :: 0x05 :: 0x1b :: RB_cX4_replace_3
def RB_cX4_replace_1 : List UInt8 := 0xb2 :: 0x19 :: 0x04 :: 0xb4 :: 0x00 :: 0x9e :: 0x1d :: 0x19 :: 0x04 :: 0xb4 :: 0x00 :: 0xb3 :: 0x2a :: 0x19 :: 0x04 :: 0xb6 :: RB_cX4_replace_2
def RB_cX4_replace_0 : List UInt8 := 0x2a :: 0xb4 :: 0x00 :: 0x1e :: 0x1b :: 0x32 :: 0x3a :: 0x04 :: 0xbb :: 0x00 :: 0x1c :: 0x59 :: 0x19 :: 0x04 :: 0xb4 :: 0x00 :: RB_cX4_replace_1
theorem tB_cX4_replace_0 : cX4_replace.data.toList.drop 0 = RB_cX4_replace_0 := by decide +kernel
theorem tB_cX4_replace_1 : cX4_replace.data.toList.drop 16 = RB_cX4_replace_1 := od_st tB_cX4_replace_0 16 rfl
theorem tB_cX4_replace_2 : cX4_replace.data.toList.drop 32 = RB_cX4_replace_2 := od_st tB_cX4_replace_1 16 rfl
theorem tB_cX4_replace_3 : cX4_replace.data.toList.drop 48 = RB_cX4_replace_3 := od_st tB_cX4_replace_2 16 rfl
theorem tB_cX4_replace_4 : cX4_replace.data.toList.drop 64 = RB_cX4_replace_4 := od_st tB_cX4_replace_3 16 rfl
theorem dX4_replace_0 : decode cX4_replace 0 = .ok (.aload_n 0, 1) := od_42 (od_at tB_cX4_replace_0 0 rfl)
theorem dX4_replace_1 : decode cX4_replace 1 = .ok (.getfield 30, 3) := od_180 (od_at tB_cX4_replace_0 1 rfl) (od_at tB_cX4_replace_0 2 rfl) (od_at tB_cX4_replace_0 3 rfl) rfl
theorem dX4_replace_4 : decode cX4_replace 4 = .ok (.iload_n 1, 1) := od_27 (od_at tB_cX4_replace_0 4 rfl)
theorem dX4_replace_5 : decode cX4_replace 5 = .ok (.aaload, 1) := od_50 (od_at tB_cX4_replace_0 5 rfl)
theorem dX4_replace_6 : decode cX4_replace 6 = .ok (.astore 4, 2) := od_58 (od_at tB_cX4_replace_0 6 rfl) (od_at tB_cX4_replace_0 7 rfl) rfl
theorem dX4_replace_8 : decode cX4_replace 8 = .ok (.new 28, 3) := od_187 (od_at tB_cX4_replace_0 8 rfl) (od_at tB_cX4_replace_0 9 rfl) (od_at tB_cX4_replace_0 10 rfl) rfl
theorem dX4_replace_11 : decode cX4_replace 11 = .ok (.dup, 1) := od_89 (od_at tB_cX4_replace_0 11 rfl)
theorem dX4_replace_12 : decode cX4_replace 12 = .ok (.aload 4, 2) := od_25 (od_at tB_cX4_replace_0 12 rfl) (od_at tB_cX4_replace_0 13 rfl) rfl
theorem dX4_replace_14 : decode cX4_replace 14 = .ok (.getfield 178, 3) := od_180 (od_at tB_cX4_replace_0 14 rfl) (od_at tB_cX4_replace_0 15 rfl) (od_at tB_cX4_replace_0 16 rfl) rfl
theorem dX4_replace_17 : decode cX4_replace 17 = .ok (.aload 4, 2) := od_25 (od_at tB_cX4_replace_1 1 rfl) (od_at tB_cX4_replace_1 2 rfl) rfl
theorem dX4_replace_19 : decode cX4_replace 19 = .ok (.getfield 158, 3) := od_180 (od_at tB_cX4_replace_1 3 rfl) (od_at tB_cX4_replace_1 4 rfl) (od_at tB_cX4_replace_1 5 rfl) rfl
theorem dX4_replace_22 : decode cX4_replace 22 = .ok (.iload_n 3, 1) := od_29 (od_at tB_cX4_replace_1 6 rfl)
theorem dX4_replace_23 : decode cX4_replace 23 = .ok (.aload 4, 2) := od_25 (od_at tB_cX4_replace_1 7 rfl) (od_at tB_cX4_replace_1 8 rfl) rfl
theorem dX4_replace_25 : decode cX4_replace 25 = .ok (.getfield 179, 3) := od_180 (od_at tB_cX4_replace_1 9 rfl) (od_at tB_cX4_replace_1 10 rfl) (od_at tB_cX4_replace_1 11 rfl) rfl
theorem dX4_replace_28 : decode cX4_replace 28 = .ok (.aload_n 0, 1) := od_42 (od_at tB_cX4_replace_1 12 rfl)
theorem dX4_replace_29 : decode cX4_replace 29 = .ok (.aload 4, 2) := od_25 (od_at tB_cX4_replace_1 13 rfl) (od_at tB_cX4_replace_1 14 rfl) rfl
theorem dX4_replace_31 : decode cX4_replace 31 = .ok (.invokevirtual 287, 3) := od_182 (od_at tB_cX4_replace_1 15 rfl) (od_at tB_cX4_replace_1 16 rfl) (od_at tB_cX4_replace_1 17 rfl) rfl
theorem dX4_replace_34 : decode cX4_replace 34 = .ok (.invokespecial 145, 3) := od_183 (od_at tB_cX4_replace_2 2 rfl) (od_at tB_cX4_replace_2 3 rfl) (od_at tB_cX4_replace_2 4 rfl) rfl
theorem dX4_replace_37 : decode cX4_replace 37 = .ok (.astore 5, 2) := od_58 (od_at tB_cX4_replace_2 5 rfl) (od_at tB_cX4_replace_2 6 rfl) rfl
theorem dX4_replace_39 : decode cX4_replace 39 = .ok (.aload 5, 2) := od_25 (od_at tB_cX4_replace_2 7 rfl) (od_at tB_cX4_replace_2 8 rfl) rfl
theorem dX4_replace_41 : decode cX4_replace 41 = .ok (.iload_n 2, 1) := od_28 (od_at tB_cX4_replace_2 9 rfl)
theorem dX4_replace_42 : decode cX4_replace 42 = .ok (.putfield 175, 3) := od_181 (od_at tB_cX4_replace_2 10 rfl) (od_at tB_cX4_replace_2 11 rfl) (od_at tB_cX4_replace_2 12 rfl) rfl
theorem dX4_replace_45 : decode cX4_replace 45 = .ok (.aload 5, 2) := od_25 (od_at tB_cX4_replace_2 13 rfl) (od_at tB_cX4_replace_2 14 rfl) rfl
theorem dX4_replace_47 : decode cX4_replace 47 = .ok (.iload_n 1, 1) := od_27 (od_at tB_cX4_replace_2 15 rfl)
theorem dX4_replace_48 : decode cX4_replace 48 = .ok (.putfield 186, 3) := od_181 (od_at tB_cX4_replace_3 0 rfl) (od_at tB_cX4_replace_3 1 rfl) (od_at tB_cX4_replace_3 2 rfl) rfl
theorem dX4_replace_51 : decode cX4_replace 51 = .ok (.aload 4, 2) := od_25 (od_at tB_cX4_replace_3 3 rfl) (od_at tB_cX4_replace_3 4 rfl) rfl
theorem dX4_replace_53 : decode cX4_replace 53 = .ok (.aload_n 0, 1) := od_42 (od_at tB_cX4_replace_3 5 rfl)
theorem dX4_replace_54 : decode cX4_replace 54 = .ok (.getfield 34, 3) := od_180 (od_at tB_cX4_replace_3 6 rfl) (od_at tB_cX4_replace_3 7 rfl) (od_at tB_cX4_replace_3 8 rfl) rfl
theorem dX4_replace_57 : decode cX4_replace 57 = .ok (.putfield 183, 3) := od_181 (od_at tB_cX4_replace_3 9 rfl) (od_at tB_cX4_replace_3 10 rfl) (od_at tB_cX4_replace_3 11 rfl) rfl
theorem dX4_replace_60 : decode cX4_replace 60 = .ok (.aload_n 0, 1) := od_42 (od_at tB_cX4_replace_3 12 rfl)
theorem dX4_replace_61 : decode cX4_replace 61 = .ok (.aload 5, 2) := od_25 (od_at tB_cX4_replace_3 13 rfl) (od_at tB_cX4_replace_3 14 rfl) rfl
theorem dX4_replace_63 : decode cX4_replace 63 = .ok (.invokevirtual 148, 3) := od_182 (od_at tB_cX4_replace_3 15 rfl) (od_at tB_cX4_replace_3 16 rfl) (od_at tB_cX4_replace_3 17 rfl) rfl
theorem dX4_replace_66 : decode cX4_replace 66 = .ok (.return_, 1) := od_177 (od_at tB_cX4_replace_4 2 rfl)
def RB_cX4_factorNow_1 : List UInt8 := 0x9e :: 0xb6 :: 0x00 :: 0x54 :: 0xac :: []
def RB_cX4_factorNow_0 : List UInt8 := 0x2a :: 0xb4 :: 0x00 :: 0x0d :: 0x2b :: 0xb4 :: 0x00 :: 0xb2 :: 0x32 :: 0x2b :: 0xb4 :: 0x00 :: 0xb3 :: 0x2b :: 0xb4 :: 0x00 :: RB_cX4_factorNow_1
theorem tB_cX4_factorNow_0 : cX4_factorNow.data.toList.drop 0 = RB_cX4_factorNow_0 := by decide +kernel
theorem tB_cX4_factorNow_1 : cX4_factorNow.data.toList.drop 16 = RB_cX4_factorNow_1 := od_st tB_cX4_factorNow_0 16 rfl
theorem dX4_factorNow_0 : decode cX4_factorNow 0 = .ok (.aload_n 0, 1) := od_42 (od_at tB_cX4_factorNow_0 0 rfl)
theorem dX4_factorNow_1 : decode cX4_factorNow 1 = .ok (.getfield 13, 3) := od_180 (od_at tB_cX4_factorNow_0 1 rfl) (od_at tB_cX4_factorNow_0 2 rfl) (od_at tB_cX4_factorNow_0 3 rfl) rfl
theorem dX4_factorNow_4 : decode cX4_factorNow 4 = .ok (.aload_n 1, 1) := od_43 (od_at tB_cX4_factorNow_0 4 rfl)
theorem dX4_factorNow_5 : decode cX4_factorNow 5 = .ok (.getfield 178, 3) := od_180 (od_at tB_cX4_factorNow_0 5 rfl) (od_at tB_cX4_factorNow_0 6 rfl) (od_at tB_cX4_factorNow_0 7 rfl) rfl
theorem dX4_factorNow_8 : decode cX4_factorNow 8 = .ok (.aaload, 1) := od_50 (od_at tB_cX4_factorNow_0 8 rfl)
theorem dX4_factorNow_9 : decode cX4_factorNow 9 = .ok (.aload_n 1, 1) := od_43 (od_at tB_cX4_factorNow_0 9 rfl)
theorem dX4_factorNow_10 : decode cX4_factorNow 10 = .ok (.getfield 179, 3) := od_180 (od_at tB_cX4_factorNow_0 10 rfl) (od_at tB_cX4_factorNow_0 11 rfl) (od_at tB_cX4_factorNow_0 12 rfl) rfl
theorem dX4_factorNow_13 : decode cX4_factorNow 13 = .ok (.aload_n 1, 1) := od_43 (od_at tB_cX4_factorNow_0 13 rfl)
theorem dX4_factorNow_14 : decode cX4_factorNow 14 = .ok (.getfield 158, 3) := od_180 (od_at tB_cX4_factorNow_0 14 rfl) (od_at tB_cX4_factorNow_0 15 rfl) (od_at tB_cX4_factorNow_0 16 rfl) rfl
theorem dX4_factorNow_17 : decode cX4_factorNow 17 = .ok (.invokevirtual 84, 3) := od_182 (od_at tB_cX4_factorNow_1 1 rfl) (od_at tB_cX4_factorNow_1 2 rfl) (od_at tB_cX4_factorNow_1 3 rfl) rfl
theorem dX4_factorNow_20 : decode cX4_factorNow 20 = .ok (.ireturn, 1) := od_172 (od_at tB_cX4_factorNow_1 4 rfl)
def RB_cX4_isToRemake_1 : List UInt8 := 0x2b :: 0xb6 :: 0x01 :: 0x1f :: 0x9f :: 0x00 :: 0x07 :: 0x04 :: 0xa7 :: 0x00 :: 0x04 :: 0x03 :: 0xac :: []
def RB_cX4_isToRemake_0 : List UInt8 := 0x2b :: 0x1c :: 0x1d :: 0x15 :: 0x04 :: 0xb6 :: 0x01 :: 0x22 :: 0x99 :: 0x00 :: 0x13 :: 0x2b :: 0xb4 :: 0x00 :: 0xb4 :: 0x2a :: RB_cX4_isToRemake_1
theorem tB_cX4_isToRemake_0 : cX4_isToRemake.data.toList.drop 0 = RB_cX4_isToRemake_0 := by decide +kernel
theorem tB_cX4_isToRemake_1 : cX4_isToRemake.data.toList.drop 16 = RB_cX4_isToRemake_1 := od_st tB_cX4_isToRemake_0 16 rfl
theorem dX4_isToRemake_0 : decode cX4_isToRemake 0 = .ok (.aload_n 1, 1) := od_43 (od_at tB_cX4_isToRemake_0 0 rfl)
theorem dX4_isToRemake_1 : decode cX4_isToRemake 1 = .ok (.iload_n 2, 1) := od_28 (od_at tB_cX4_isToRemake_0 1 rfl)
theorem dX4_isToRemake_2 : decode cX4_isToRemake 2 = .ok (.iload_n 3, 1) := od_29 (od_at tB_cX4_isToRemake_0 2 rfl)
theorem dX4_isToRemake_3 : decode cX4_isToRemake 3 = .ok (.iload 4, 2) := od_21 (od_at tB_cX4_isToRemake_0 3 rfl) (od_at tB_cX4_isToRemake_0 4 rfl) rfl
theorem dX4_isToRemake_5 : decode cX4_isToRemake 5 = .ok (.invokevirtual 290, 3) := od_182 (od_at tB_cX4_isToRemake_0 5 rfl) (od_at tB_cX4_isToRemake_0 6 rfl) (od_at tB_cX4_isToRemake_0 7 rfl) rfl
theorem dX4_isToRemake_8 : decode cX4_isToRemake 8 = .ok (.ifCond .eq 19, 3) := od_153 (od_at tB_cX4_isToRemake_0 8 rfl) (od_at tB_cX4_isToRemake_0 9 rfl) (od_at tB_cX4_isToRemake_0 10 rfl) (by decide +kernel)
theorem dX4_isToRemake_11 : decode cX4_isToRemake 11 = .ok (.aload_n 1, 1) := od_43 (od_at tB_cX4_isToRemake_0 11 rfl)
theorem dX4_isToRemake_12 : decode cX4_isToRemake 12 = .ok (.getfield 180, 3) := od_180 (od_at tB_cX4_isToRemake_0 12 rfl) (od_at tB_cX4_isToRemake_0 13 rfl) (od_at tB_cX4_isToRemake_0 14 rfl) rfl
theorem dX4_isToRemake_15 : decode cX4_isToRemake 15 = .ok (.aload_n 0, 1) := od_42 (od_at tB_cX4_isToRemake_0 15 rfl)
theorem dX4_isToRemake_16 : decode cX4_isToRemake 16 = .ok (.aload_n 1, 1) := od_43 (od_at tB_cX4_isToRemake_1 0 rfl)
theorem dX4_isToRemake_17 : decode cX4_isToRemake 17 = .ok (.invokevirtual 287, 3) := od_182 (od_at tB_cX4_isToRemake_1 1 rfl) (od_at tB_cX4_isToRemake_1 2 rfl) (od_at tB_cX4_isToRemake_1 3 rfl) rfl
theorem dX4_isToRemake_20 : decode cX4_isToRemake 20 = .ok (.if_icmp .eq 7, 3) := od_159 (od_at tB_cX4_isToRemake_1 4 rfl) (od_at tB_cX4_isToRemake_1 5 rfl) (od_at tB_cX4_isToRemake_1 6 rfl) (by decide +kernel)
theorem dX4_isToRemake_23 : decode cX4_isToRemake 23 = .ok (.iconst 1, 1) := od_4 (od_at tB_cX4_isToRemake_1 7 rfl)
theorem dX4_isToRemake_24 : decode cX4_isToRemake 24 = .ok (.goto 4, 3) := od_167 (od_at tB_cX4_isToRemake_1 8 rfl) (od_at tB_cX4_isToRemake_1 9 rfl) (od_at tB_cX4_isToRemake_1 10 rfl) (by decide +kernel)
theorem dX4_isToRemake_27 : decode cX4_isToRemake 27 = .ok (.iconst 0, 1) := od_3 (od_at tB_cX4_isToRemake_1 11 rfl)
theorem dX4_isToRemake_28 : decode cX4_isToRemake 28 = .ok (.ireturn, 1) := od_172 (od_at tB_cX4_isToRemake_1 12 rfl)
def RB_cX4_volumeOf_1 : List UInt8 := 0xb4 :: 0x00 :: 0x0d :: 0x2b :: 0xb4 :: 0x00 :: 0xb2 :: 0x32 :: 0xb4 :: 0x00 :: 0x82 :: 0x85 :: 0xb8 :: 0x01 :: 0x26 :: 0xad :: []
def RB_cX4_volumeOf_0 : List UInt8 := 0x14 :: 0x01 :: 0x24 :: 0x2b :: 0xb4 :: 0x00 :: 0xac :: 0x85 :: 0x69 :: 0x2b :: 0xb4 :: 0x00 :: 0xb4 :: 0x85 :: 0x69 :: 0x2a :: RB_cX4_volumeOf_1
theorem tB_cX4_volumeOf_0 : cX4_volumeOf.data.toList.drop 0 = RB_cX4_volumeOf_0 := by decide +kernel
theorem tB_cX4_volumeOf_1 : cX4_volumeOf.data.toList.drop 16 = RB_cX4_volumeOf_1 := od_st tB_cX4_volumeOf_0 16 rfl
theorem dX4_volumeOf_0 : decode cX4_volumeOf 0 = .ok (.ldc2_w 292, 3) := od_20 (od_at tB_cX4_volumeOf_0 0 rfl) (od_at tB_cX4_volumeOf_0 1 rfl) (od_at tB_cX4_volumeOf_0 2 rfl) rfl
theorem dX4_volumeOf_3 : decode cX4_volumeOf 3 = .ok (.aload_n 1, 1) := od_43 (od_at tB_cX4_volumeOf_0 3 rfl)
theorem dX4_volumeOf_4 : decode cX4_volumeOf 4 = .ok (.getfield 172, 3) := od_180 (od_at tB_cX4_volumeOf_0 4 rfl) (od_at tB_cX4_volumeOf_0 5 rfl) (od_at tB_cX4_volumeOf_0 6 rfl) rfl
theorem dX4_volumeOf_7 : decode cX4_volumeOf 7 = .ok (.i2l, 1) := od_133 (od_at tB_cX4_volumeOf_0 7 rfl)
theorem dX4_volumeOf_8 : decode cX4_volumeOf 8 = .ok (.lmul, 1) := od_105 (od_at tB_cX4_volumeOf_0 8 rfl)
theorem dX4_volumeOf_9 : decode cX4_volumeOf 9 = .ok (.aload_n 1, 1) := od_43 (od_at tB_cX4_volumeOf_0 9 rfl)
theorem dX4_volumeOf_10 : decode cX4_volumeOf 10 = .ok (.getfield 180, 3) := od_180 (od_at tB_cX4_volumeOf_0 10 rfl) (od_at tB_cX4_volumeOf_0 11 rfl) (od_at tB_cX4_volumeOf_0 12 rfl) rfl
theorem dX4_volumeOf_13 : decode cX4_volumeOf 13 = .ok (.i2l, 1) := od_133 (od_at tB_cX4_volumeOf_0 13 rfl)
theorem dX4_volumeOf_14 : decode cX4_volumeOf 14 = .ok (.lmul, 1) := od_105 (od_at tB_cX4_volumeOf_0 14 rfl)
theorem dX4_volumeOf_15 : decode cX4_volumeOf 15 = .ok (.aload_n 0, 1) := od_42 (od_at tB_cX4_volumeOf_0 15 rfl)
theorem dX4_volumeOf_16 : decode cX4_volumeOf 16 = .ok (.getfield 13, 3) := od_180 (od_at tB_cX4_volumeOf_1 0 rfl) (od_at tB_cX4_volumeOf_1 1 rfl) (od_at tB_cX4_volumeOf_1 2 rfl) rfl
theorem dX4_volumeOf_19 : decode cX4_volumeOf 19 = .ok (.aload_n 1, 1) := od_43 (od_at tB_cX4_volumeOf_1 3 rfl)
theorem dX4_volumeOf_20 : decode cX4_volumeOf 20 = .ok (.getfield 178, 3) := od_180 (od_at tB_cX4_volumeOf_1 4 rfl) (od_at tB_cX4_volumeOf_1 5 rfl) (od_at tB_cX4_volumeOf_1 6 rfl) rfl
theorem dX4_volumeOf_23 : decode cX4_volumeOf 23 = .ok (.aaload, 1) := od_50 (od_at tB_cX4_volumeOf_1 7 rfl)
theorem dX4_volumeOf_24 : decode cX4_volumeOf 24 = .ok (.getfield 130, 3) := od_180 (od_at tB_cX4_volumeOf_1 8 rfl) (od_at tB_cX4_volumeOf_1 9 rfl) (od_at tB_cX4_volumeOf_1 10 rfl) rfl
theorem dX4_volumeOf_27 : decode cX4_volumeOf 27 = .ok (.i2l, 1) := od_133 (od_at tB_cX4_volumeOf_1 11 rfl)
theorem dX4_volumeOf_28 : decode cX4_volumeOf 28 = .ok (.invokestatic 294, 3) := od_184 (od_at tB_cX4_volumeOf_1 12 rfl) (od_at tB_cX4_volumeOf_1 13 rfl) (od_at tB_cX4_volumeOf_1 14 rfl) rfl
theorem dX4_volumeOf_31 : decode cX4_volumeOf 31 = .ok (.lreturn, 1) := od_173 (od_at tB_cX4_volumeOf_1 15 rfl)
def RB_cX4_sumOf_3 : List UInt8 := 0x06 :: 0x01 :: 0xa7 :: 0xff :: 0xd4 :: 0x16 :: 0x04 :: 0xad :: []
def RB_cX4_sumOf_2 : List UInt8 := 0x04 :: 0x2a :: 0x2a :: 0xb4 :: 0x00 :: 0x1e :: 0x15 :: 0x06 :: 0x32 :: 0xb6 :: 0x00 :: 0xbd :: 0x61 :: 0x37 :: 0x04 :: 0x84 :: RB_cX4_sumOf_3
def RB_cX4_sumOf_1 : List UInt8 := 0xb4 :: 0x00 :: 0x1e :: 0x15 :: 0x06 :: 0x32 :: 0x1b :: 0x1c :: 0x1d :: 0xb6 :: 0x01 :: 0x22 :: 0x99 :: 0x00 :: 0x13 :: 0x16 :: RB_cX4_sumOf_2
def RB_cX4_sumOf_0 : List UInt8 := 0x09 :: 0x37 :: 0x04 :: 0x03 :: 0x36 :: 0x06 :: 0x15 :: 0x06 :: 0x2a :: 0xb4 :: 0x00 :: 0x22 :: 0xa2 :: 0x00 :: 0x29 :: 0x2a :: RB_cX4_sumOf_1
theorem tB_cX4_sumOf_0 : cX4_sumOf.data.toList.drop 0 = RB_cX4_sumOf_0 := by decide +kernel
theorem tB_cX4_sumOf_1 : cX4_sumOf.data.toList.drop 16 = RB_cX4_sumOf_1 := od_st tB_cX4_sumOf_0 16 rfl
theorem tB_cX4_sumOf_2 : cX4_sumOf.data.toList.drop 32 = RB_cX4_sumOf_2 := od_st tB_cX4_sumOf_1 16 rfl
theorem tB_cX4_sumOf_3 : cX4_sumOf.data.toList.drop 48 = RB_cX4_sumOf_3 := od_st tB_cX4_sumOf_2 16 rfl
theorem dX4_sumOf_0 : decode cX4_sumOf 0 = .ok (.lconst 0, 1) := od_9 (od_at tB_cX4_sumOf_0 0 rfl)
theorem dX4_sumOf_1 : decode cX4_sumOf 1 = .ok (.lstore 4, 2) := od_55 (od_at tB_cX4_sumOf_0 1 rfl) (od_at tB_cX4_sumOf_0 2 rfl) rfl
theorem dX4_sumOf_3 : decode cX4_sumOf 3 = .ok (.iconst 0, 1) := od_3 (od_at tB_cX4_sumOf_0 3 rfl)
theorem dX4_sumOf_4 : decode cX4_sumOf 4 = .ok (.istore 6, 2) := od_54 (od_at tB_cX4_sumOf_0 4 rfl) (od_at tB_cX4_sumOf_0 5 rfl) rfl
theorem dX4_sumOf_6 : decode cX4_sumOf 6 = .ok (.iload 6, 2) := od_21 (od_at tB_cX4_sumOf_0 6 rfl) (od_at tB_cX4_sumOf_0 7 rfl) rfl
theorem dX4_sumOf_8 : decode cX4_sumOf 8 = .ok (.aload_n 0, 1) := od_42 (od_at tB_cX4_sumOf_0 8 rfl)
theorem dX4_sumOf_9 : decode cX4_sumOf 9 = .ok (.getfield 34, 3) := od_180 (od_at tB_cX4_sumOf_0 9 rfl) (od_at tB_cX4_sumOf_0 10 rfl) (od_at tB_cX4_sumOf_0 11 rfl) rfl
theorem dX4_sumOf_12 : decode cX4_sumOf 12 = .ok (.if_icmp .ge 41, 3) := od_162 (od_at tB_cX4_sumOf_0 12 rfl) (od_at tB_cX4_sumOf_0 13 rfl) (od_at tB_cX4_sumOf_0 14 rfl) (by decide +kernel)
theorem dX4_sumOf_15 : decode cX4_sumOf 15 = .ok (.aload_n 0, 1) := od_42 (od_at tB_cX4_sumOf_0 15 rfl)
theorem dX4_sumOf_16 : decode cX4_sumOf 16 = .ok (.getfield 30, 3) := od_180 (od_at tB_cX4_sumOf_1 0 rfl) (od_at tB_cX4_sumOf_1 1 rfl) (od_at tB_cX4_sumOf_1 2 rfl) rfl
theorem dX4_sumOf_19 : decode cX4_sumOf 19 = .ok (.iload 6, 2) := od_21 (od_at tB_cX4_sumOf_1 3 rfl) (od_at tB_cX4_sumOf_1 4 rfl) rfl
theorem dX4_sumOf_21 : decode cX4_sumOf 21 = .ok (.aaload, 1) := od_50 (od_at tB_cX4_sumOf_1 5 rfl)
theorem dX4_sumOf_22 : decode cX4_sumOf 22 = .ok (.iload_n 1, 1) := od_27 (od_at tB_cX4_sumOf_1 6 rfl)
theorem dX4_sumOf_23 : decode cX4_sumOf 23 = .ok (.iload_n 2, 1) := od_28 (od_at tB_cX4_sumOf_1 7 rfl)
theorem dX4_sumOf_24 : decode cX4_sumOf 24 = .ok (.iload_n 3, 1) := od_29 (od_at tB_cX4_sumOf_1 8 rfl)
theorem dX4_sumOf_25 : decode cX4_sumOf 25 = .ok (.invokevirtual 290, 3) := od_182 (od_at tB_cX4_sumOf_1 9 rfl) (od_at tB_cX4_sumOf_1 10 rfl) (od_at tB_cX4_sumOf_1 11 rfl) rfl
theorem dX4_sumOf_28 : decode cX4_sumOf 28 = .ok (.ifCond .eq 19, 3) := od_153 (od_at tB_cX4_sumOf_1 12 rfl) (od_at tB_cX4_sumOf_1 13 rfl) (od_at tB_cX4_sumOf_1 14 rfl) (by decide +kernel)
theorem dX4_sumOf_31 : decode cX4_sumOf 31 = .ok (.lload 4, 2) := od_22 (od_at tB_cX4_sumOf_1 15 rfl) (od_at tB_cX4_sumOf_1 16 rfl) rfl
theorem dX4_sumOf_33 : decode cX4_sumOf 33 = .ok (.aload_n 0, 1) := od_42 (od_at tB_cX4_sumOf_2 1 rfl)
theorem dX4_sumOf_34 : decode cX4_sumOf 34 = .ok (.aload_n 0, 1) := od_42 (od_at tB_cX4_sumOf_2 2 rfl)
theorem dX4_sumOf_35 : decode cX4_sumOf 35 = .ok (.getfield 30, 3) := od_180 (od_at tB_cX4_sumOf_2 3 rfl) (od_at tB_cX4_sumOf_2 4 rfl) (od_at tB_cX4_sumOf_2 5 rfl) rfl
theorem dX4_sumOf_38 : decode cX4_sumOf 38 = .ok (.iload 6, 2) := od_21 (od_at tB_cX4_sumOf_2 6 rfl) (od_at tB_cX4_sumOf_2 7 rfl) rfl
theorem dX4_sumOf_40 : decode cX4_sumOf 40 = .ok (.aaload, 1) := od_50 (od_at tB_cX4_sumOf_2 8 rfl)
theorem dX4_sumOf_41 : decode cX4_sumOf 41 = .ok (.invokevirtual 189, 3) := od_182 (od_at tB_cX4_sumOf_2 9 rfl) (od_at tB_cX4_sumOf_2 10 rfl) (od_at tB_cX4_sumOf_2 11 rfl) rfl
theorem dX4_sumOf_44 : decode cX4_sumOf 44 = .ok (.ladd, 1) := od_97 (od_at tB_cX4_sumOf_2 12 rfl)
theorem dX4_sumOf_45 : decode cX4_sumOf 45 = .ok (.lstore 4, 2) := od_55 (od_at tB_cX4_sumOf_2 13 rfl) (od_at tB_cX4_sumOf_2 14 rfl) rfl
theorem dX4_sumOf_47 : decode cX4_sumOf 47 = .ok (.iinc 6 1, 3) := od_132 (od_at tB_cX4_sumOf_2 15 rfl) (od_at tB_cX4_sumOf_2 16 rfl) (od_at tB_cX4_sumOf_2 17 rfl) rfl (by decide +kernel)
theorem dX4_sumOf_50 : decode cX4_sumOf 50 = .ok (.goto (-44), 3) := od_167 (od_at tB_cX4_sumOf_3 2 rfl) (od_at tB_cX4_sumOf_3 3 rfl) (od_at tB_cX4_sumOf_3 4 rfl) (by decide +kernel)
theorem dX4_sumOf_53 : decode cX4_sumOf 53 = .ok (.lload 4, 2) := od_22 (od_at tB_cX4_sumOf_3 5 rfl) (od_at tB_cX4_sumOf_3 6 rfl) rfl
theorem dX4_sumOf_55 : decode cX4_sumOf 55 = .ok (.lreturn, 1) := od_173 (od_at tB_cX4_sumOf_3 7 rfl)
def RB_cX4_countNotReplaced_2 : List UInt8 := 0x84 :: 0x02 :: 0x01 :: 0xa7 :: 0xff :: 0xe1 :: 0x1b :: 0xac :: []
def RB_cX4_countNotReplaced_1 : List UInt8 := 0x1e :: 0x1c :: 0x32 :: 0xb6 :: 0x00 :: 0x9b :: 0x99 :: 0x00 :: 0x07 :: 0x03 :: 0xa7 :: 0x00 :: 0x04 :: 0x04 :: 0x60 :: 0x3c :: RB_cX4_countNotReplaced_2
def RB_cX4_countNotReplaced_0 : List UInt8 := 0x03 :: 0x3c :: 0x03 :: 0x3d :: 0x1c :: 0x2a :: 0xb4 :: 0x00 :: 0x22 :: 0xa2 :: 0x00 :: 0x1d :: 0x1b :: 0x2a :: 0xb4 :: 0x00 :: RB_cX4_countNotReplaced_1
theorem tB_cX4_countNotReplaced_0 : cX4_countNotReplaced.data.toList.drop 0 = RB_cX4_countNotReplaced_0 := by decide +kernel
theorem tB_cX4_countNotReplaced_1 : cX4_countNotReplaced.data.toList.drop 16 = RB_cX4_countNotReplaced_1 := od_st tB_cX4_countNotReplaced_0 16 rfl
theorem tB_cX4_countNotReplaced_2 : cX4_countNotReplaced.data.toList.drop 32 = RB_cX4_countNotReplaced_2 := od_st tB_cX4_countNotReplaced_1 16 rfl
theorem dX4_countNotReplaced_0 : decode cX4_countNotReplaced 0 = .ok (.iconst 0, 1) := od_3 (od_at tB_cX4_countNotReplaced_0 0 rfl)
theorem dX4_countNotReplaced_1 : decode cX4_countNotReplaced 1 = .ok (.istore_n 1, 1) := od_60 (od_at tB_cX4_countNotReplaced_0 1 rfl)
theorem dX4_countNotReplaced_2 : decode cX4_countNotReplaced 2 = .ok (.iconst 0, 1) := od_3 (od_at tB_cX4_countNotReplaced_0 2 rfl)
theorem dX4_countNotReplaced_3 : decode cX4_countNotReplaced 3 = .ok (.istore_n 2, 1) := od_61 (od_at tB_cX4_countNotReplaced_0 3 rfl)
theorem dX4_countNotReplaced_4 : decode cX4_countNotReplaced 4 = .ok (.iload_n 2, 1) := od_28 (od_at tB_cX4_countNotReplaced_0 4 rfl)
theorem dX4_countNotReplaced_5 : decode cX4_countNotReplaced 5 = .ok (.aload_n 0, 1) := od_42 (od_at tB_cX4_countNotReplaced_0 5 rfl)
theorem dX4_countNotReplaced_6 : decode cX4_countNotReplaced 6 = .ok (.getfield 34, 3) := od_180 (od_at tB_cX4_countNotReplaced_0 6 rfl) (od_at tB_cX4_countNotReplaced_0 7 rfl) (od_at tB_cX4_countNotReplaced_0 8 rfl) rfl
theorem dX4_countNotReplaced_9 : decode cX4_countNotReplaced 9 = .ok (.if_icmp .ge 29, 3) := od_162 (od_at tB_cX4_countNotReplaced_0 9 rfl) (od_at tB_cX4_countNotReplaced_0 10 rfl) (od_at tB_cX4_countNotReplaced_0 11 rfl) (by decide +kernel)
theorem dX4_countNotReplaced_12 : decode cX4_countNotReplaced 12 = .ok (.iload_n 1, 1) := od_27 (od_at tB_cX4_countNotReplaced_0 12 rfl)
theorem dX4_countNotReplaced_13 : decode cX4_countNotReplaced 13 = .ok (.aload_n 0, 1) := od_42 (od_at tB_cX4_countNotReplaced_0 13 rfl)
theorem dX4_countNotReplaced_14 : decode cX4_countNotReplaced 14 = .ok (.getfield 30, 3) := od_180 (od_at tB_cX4_countNotReplaced_0 14 rfl) (od_at tB_cX4_countNotReplaced_0 15 rfl) (od_at tB_cX4_countNotReplaced_0 16 rfl) rfl
theorem dX4_countNotReplaced_17 : decode cX4_countNotReplaced 17 = .ok (.iload_n 2, 1) := od_28 (od_at tB_cX4_countNotReplaced_1 1 rfl)
theorem dX4_countNotReplaced_18 : decode cX4_countNotReplaced 18 = .ok (.aaload, 1) := od_50 (od_at tB_cX4_countNotReplaced_1 2 rfl)
theorem dX4_countNotReplaced_19 : decode cX4_countNotReplaced 19 = .ok (.invokevirtual 155, 3) := od_182 (od_at tB_cX4_countNotReplaced_1 3 rfl) (od_at tB_cX4_countNotReplaced_1 4 rfl) (od_at tB_cX4_countNotReplaced_1 5 rfl) rfl
theorem dX4_countNotReplaced_22 : decode cX4_countNotReplaced 22 = .ok (.ifCond .eq 7, 3) := od_153 (od_at tB_cX4_countNotReplaced_1 6 rfl) (od_at tB_cX4_countNotReplaced_1 7 rfl) (od_at tB_cX4_countNotReplaced_1 8 rfl) (by decide +kernel)
theorem dX4_countNotReplaced_25 : decode cX4_countNotReplaced 25 = .ok (.iconst 0, 1) := od_3 (od_at tB_cX4_countNotReplaced_1 9 rfl)
theorem dX4_countNotReplaced_26 : decode cX4_countNotReplaced 26 = .ok (.goto 4, 3) := od_167 (od_at tB_cX4_countNotReplaced_1 10 rfl) (od_at tB_cX4_countNotReplaced_1 11 rfl) (od_at tB_cX4_countNotReplaced_1 12 rfl) (by decide +kernel)
theorem dX4_countNotReplaced_29 : decode cX4_countNotReplaced 29 = .ok (.iconst 1, 1) := od_4 (od_at tB_cX4_countNotReplaced_1 13 rfl)
theorem dX4_countNotReplaced_30 : decode cX4_countNotReplaced 30 = .ok (.iadd, 1) := od_96 (od_at tB_cX4_countNotReplaced_1 14 rfl)
theorem dX4_countNotReplaced_31 : decode cX4_countNotReplaced 31 = .ok (.istore_n 1, 1) := od_60 (od_at tB_cX4_countNotReplaced_1 15 rfl)
theorem dX4_countNotReplaced_32 : decode cX4_countNotReplaced 32 = .ok (.iinc 2 1, 3) := od_132 (od_at tB_cX4_countNotReplaced_2 0 rfl) (od_at tB_cX4_countNotReplaced_2 1 rfl) (od_at tB_cX4_countNotReplaced_2 2 rfl) rfl (by decide +kernel)
theorem dX4_countNotReplaced_35 : decode cX4_countNotReplaced 35 = .ok (.goto (-31), 3) := od_167 (od_at tB_cX4_countNotReplaced_2 3 rfl) (od_at tB_cX4_countNotReplaced_2 4 rfl) (od_at tB_cX4_countNotReplaced_2 5 rfl) (by decide +kernel)
theorem dX4_countNotReplaced_38 : decode cX4_countNotReplaced 38 = .ok (.iload_n 1, 1) := od_27 (od_at tB_cX4_countNotReplaced_2 6 rfl)
theorem dX4_countNotReplaced_39 : decode cX4_countNotReplaced 39 = .ok (.ireturn, 1) := od_172 (od_at tB_cX4_countNotReplaced_2 7 rfl)
def RB_cX4_imbalanceOf_3 : List UInt8 := 0x16 :: 0x04 :: 0xad :: []
def RB_cX4_imbalanceOf_2 : List UInt8 := 0x06 :: 0x1c :: 0x1d :: 0xb6 :: 0x00 :: 0xc1 :: 0x69 :: 0x61 :: 0x37 :: 0x04 :: 0x84 :: 0x06 :: 0x01 :: 0xa7 :: 0xff :: 0xd9 :: RB_cX4_imbalanceOf_3
def RB_cX4_imbalanceOf_1 : List UInt8 := 0x04 :: 0x2a :: 0xb4 :: 0x00 :: 0x0d :: 0x15 :: 0x06 :: 0x32 :: 0xb4 :: 0x00 :: 0xc8 :: 0x1b :: 0x2e :: 0x85 :: 0x2a :: 0x15 :: RB_cX4_imbalanceOf_2
def RB_cX4_imbalanceOf_0 : List UInt8 := 0x09 :: 0x37 :: 0x04 :: 0x03 :: 0x36 :: 0x06 :: 0x15 :: 0x06 :: 0x2a :: 0xb4 :: 0x00 :: 0x11 :: 0xa2 :: 0x00 :: 0x24 :: 0x16 :: RB_cX4_imbalanceOf_1
theorem tB_cX4_imbalanceOf_0 : cX4_imbalanceOf.data.toList.drop 0 = RB_cX4_imbalanceOf_0 := by decide +kernel
theorem tB_cX4_imbalanceOf_1 : cX4_imbalanceOf.data.toList.drop 16 = RB_cX4_imbalanceOf_1 := od_st tB_cX4_imbalanceOf_0 16 rfl
theorem tB_cX4_imbalanceOf_2 : cX4_imbalanceOf.data.toList.drop 32 = RB_cX4_imbalanceOf_2 := od_st tB_cX4_imbalanceOf_1 16 rfl
theorem tB_cX4_imbalanceOf_3 : cX4_imbalanceOf.data.toList.drop 48 = RB_cX4_imbalanceOf_3 := od_st tB_cX4_imbalanceOf_2 16 rfl
theorem dX4_imbalanceOf_0 : decode cX4_imbalanceOf 0 = .ok (.lconst 0, 1) := od_9 (od_at tB_cX4_imbalanceOf_0 0 rfl)
theorem dX4_imbalanceOf_1 : decode cX4_imbalanceOf 1 = .ok (.lstore 4, 2) := od_55 (od_at tB_cX4_imbalanceOf_0 1 rfl) (od_at tB_cX4_imbalanceOf_0 2 rfl) rfl
theorem dX4_imbalanceOf_3 : decode cX4_imbalanceOf 3 = .ok (.iconst 0, 1) := od_3 (od_at tB_cX4_imbalanceOf_0 3 rfl)
theorem dX4_imbalanceOf_4 : decode cX4_imbalanceOf 4 = .ok (.istore 6, 2) := od_54 (od_at tB_cX4_imbalanceOf_0 4 rfl) (od_at tB_cX4_imbalanceOf_0 5 rfl) rfl
theorem dX4_imbalanceOf_6 : decode cX4_imbalanceOf 6 = .ok (.iload 6, 2) := od_21 (od_at tB_cX4_imbalanceOf_0 6 rfl) (od_at tB_cX4_imbalanceOf_0 7 rfl) rfl
theorem dX4_imbalanceOf_8 : decode cX4_imbalanceOf 8 = .ok (.aload_n 0, 1) := od_42 (od_at tB_cX4_imbalanceOf_0 8 rfl)
theorem dX4_imbalanceOf_9 : decode cX4_imbalanceOf 9 = .ok (.getfield 17, 3) := od_180 (od_at tB_cX4_imbalanceOf_0 9 rfl) (od_at tB_cX4_imbalanceOf_0 10 rfl) (od_at tB_cX4_imbalanceOf_0 11 rfl) rfl
theorem dX4_imbalanceOf_12 : decode cX4_imbalanceOf 12 = .ok (.if_icmp .ge 36, 3) := od_162 (od_at tB_cX4_imbalanceOf_0 12 rfl) (od_at tB_cX4_imbalanceOf_0 13 rfl) (od_at tB_cX4_imbalanceOf_0 14 rfl) (by decide +kernel)
theorem dX4_imbalanceOf_15 : decode cX4_imbalanceOf 15 = .ok (.lload 4, 2) := od_22 (od_at tB_cX4_imbalanceOf_0 15 rfl) (od_at tB_cX4_imbalanceOf_0 16 rfl) rfl
theorem dX4_imbalanceOf_17 : decode cX4_imbalanceOf 17 = .ok (.aload_n 0, 1) := od_42 (od_at tB_cX4_imbalanceOf_1 1 rfl)
theorem dX4_imbalanceOf_18 : decode cX4_imbalanceOf 18 = .ok (.getfield 13, 3) := od_180 (od_at tB_cX4_imbalanceOf_1 2 rfl) (od_at tB_cX4_imbalanceOf_1 3 rfl) (od_at tB_cX4_imbalanceOf_1 4 rfl) rfl
theorem dX4_imbalanceOf_21 : decode cX4_imbalanceOf 21 = .ok (.iload 6, 2) := od_21 (od_at tB_cX4_imbalanceOf_1 5 rfl) (od_at tB_cX4_imbalanceOf_1 6 rfl) rfl
theorem dX4_imbalanceOf_23 : decode cX4_imbalanceOf 23 = .ok (.aaload, 1) := od_50 (od_at tB_cX4_imbalanceOf_1 7 rfl)
theorem dX4_imbalanceOf_24 : decode cX4_imbalanceOf 24 = .ok (.getfield 200, 3) := od_180 (od_at tB_cX4_imbalanceOf_1 8 rfl) (od_at tB_cX4_imbalanceOf_1 9 rfl) (od_at tB_cX4_imbalanceOf_1 10 rfl) rfl
theorem dX4_imbalanceOf_27 : decode cX4_imbalanceOf 27 = .ok (.iload_n 1, 1) := od_27 (od_at tB_cX4_imbalanceOf_1 11 rfl)
theorem dX4_imbalanceOf_28 : decode cX4_imbalanceOf 28 = .ok (.iaload, 1) := od_46 (od_at tB_cX4_imbalanceOf_1 12 rfl)
theorem dX4_imbalanceOf_29 : decode cX4_imbalanceOf 29 = .ok (.i2l, 1) := od_133 (od_at tB_cX4_imbalanceOf_1 13 rfl)
theorem dX4_imbalanceOf_30 : decode cX4_imbalanceOf 30 = .ok (.aload_n 0, 1) := od_42 (od_at tB_cX4_imbalanceOf_1 14 rfl)
theorem dX4_imbalanceOf_31 : decode cX4_imbalanceOf 31 = .ok (.iload 6, 2) := od_21 (od_at tB_cX4_imbalanceOf_1 15 rfl) (od_at tB_cX4_imbalanceOf_1 16 rfl) rfl
theorem dX4_imbalanceOf_33 : decode cX4_imbalanceOf 33 = .ok (.iload_n 2, 1) := od_28 (od_at tB_cX4_imbalanceOf_2 1 rfl)
theorem dX4_imbalanceOf_34 : decode cX4_imbalanceOf 34 = .ok (.iload_n 3, 1) := od_29 (od_at tB_cX4_imbalanceOf_2 2 rfl)
theorem dX4_imbalanceOf_35 : decode cX4_imbalanceOf 35 = .ok (.invokevirtual 193, 3) := od_182 (od_at tB_cX4_imbalanceOf_2 3 rfl) (od_at tB_cX4_imbalanceOf_2 4 rfl) (od_at tB_cX4_imbalanceOf_2 5 rfl) rfl
theorem dX4_imbalanceOf_38 : decode cX4_imbalanceOf 38 = .ok (.lmul, 1) := od_105 (od_at tB_cX4_imbalanceOf_2 6 rfl)
theorem dX4_imbalanceOf_39 : decode cX4_imbalanceOf 39 = .ok (.ladd, 1) := od_97 (od_at tB_cX4_imbalanceOf_2 7 rfl)
theorem dX4_imbalanceOf_40 : decode cX4_imbalanceOf 40 = .ok (.lstore 4, 2) := od_55 (od_at tB_cX4_imbalanceOf_2 8 rfl) (od_at tB_cX4_imbalanceOf_2 9 rfl) rfl
theorem dX4_imbalanceOf_42 : decode cX4_imbalanceOf 42 = .ok (.iinc 6 1, 3) := od_132 (od_at tB_cX4_imbalanceOf_2 10 rfl) (od_at tB_cX4_imbalanceOf_2 11 rfl) (od_at tB_cX4_imbalanceOf_2 12 rfl) rfl (by decide +kernel)
theorem dX4_imbalanceOf_45 : decode cX4_imbalanceOf 45 = .ok (.goto (-39), 3) := od_167 (od_at tB_cX4_imbalanceOf_2 13 rfl) (od_at tB_cX4_imbalanceOf_2 14 rfl) (od_at tB_cX4_imbalanceOf_2 15 rfl) (by decide +kernel)
theorem dX4_imbalanceOf_48 : decode cX4_imbalanceOf 48 = .ok (.lload 4, 2) := od_22 (od_at tB_cX4_imbalanceOf_3 0 rfl) (od_at tB_cX4_imbalanceOf_3 1 rfl) rfl
theorem dX4_imbalanceOf_50 : decode cX4_imbalanceOf 50 = .ok (.lreturn, 1) := od_173 (od_at tB_cX4_imbalanceOf_3 2 rfl)
def RB_cX4_endsOf_4 : List UInt8 := 0xc8 :: 0x16 :: 0x04 :: 0xad :: []
def RB_cX4_endsOf_3 : List UInt8 := 0x00 :: 0xcb :: 0x85 :: 0x69 :: 0x14 :: 0x01 :: 0x29 :: 0x6d :: 0x61 :: 0x37 :: 0x04 :: 0x84 :: 0x06 :: 0x01 :: 0xa7 :: 0xff :: RB_cX4_endsOf_4
def RB_cX4_endsOf_2 : List UInt8 := 0x2a :: 0x15 :: 0x06 :: 0x1c :: 0x1d :: 0xb6 :: 0x00 :: 0xc1 :: 0x2a :: 0xb4 :: 0x00 :: 0x0d :: 0x15 :: 0x06 :: 0x32 :: 0xb4 :: RB_cX4_endsOf_3
def RB_cX4_endsOf_1 : List UInt8 := 0xb4 :: 0x00 :: 0x0d :: 0x15 :: 0x06 :: 0x32 :: 0xb4 :: 0x00 :: 0xc8 :: 0x1b :: 0x2e :: 0x99 :: 0x00 :: 0x20 :: 0x16 :: 0x04 :: RB_cX4_endsOf_2
def RB_cX4_endsOf_0 : List UInt8 := 0x09 :: 0x37 :: 0x04 :: 0x03 :: 0x36 :: 0x06 :: 0x15 :: 0x06 :: 0x2a :: 0xb4 :: 0x00 :: 0x11 :: 0xa2 :: 0x00 :: 0x35 :: 0x2a :: RB_cX4_endsOf_1
theorem tB_cX4_endsOf_0 : cX4_endsOf.data.toList.drop 0 = RB_cX4_endsOf_0 := by decide +kernel
theorem tB_cX4_endsOf_1 : cX4_endsOf.data.toList.drop 16 = RB_cX4_endsOf_1 := od_st tB_cX4_endsOf_0 16 rfl
theorem tB_cX4_endsOf_2 : cX4_endsOf.data.toList.drop 32 = RB_cX4_endsOf_2 := od_st tB_cX4_endsOf_1 16 rfl
theorem tB_cX4_endsOf_3 : cX4_endsOf.data.toList.drop 48 = RB_cX4_endsOf_3 := od_st tB_cX4_endsOf_2 16 rfl
theorem tB_cX4_endsOf_4 : cX4_endsOf.data.toList.drop 64 = RB_cX4_endsOf_4 := od_st tB_cX4_endsOf_3 16 rfl
theorem dX4_endsOf_0 : decode cX4_endsOf 0 = .ok (.lconst 0, 1) := od_9 (od_at tB_cX4_endsOf_0 0 rfl)
theorem dX4_endsOf_1 : decode cX4_endsOf 1 = .ok (.lstore 4, 2) := od_55 (od_at tB_cX4_endsOf_0 1 rfl) (od_at tB_cX4_endsOf_0 2 rfl) rfl
theorem dX4_endsOf_3 : decode cX4_endsOf 3 = .ok (.iconst 0, 1) := od_3 (od_at tB_cX4_endsOf_0 3 rfl)
theorem dX4_endsOf_4 : decode cX4_endsOf 4 = .ok (.istore 6, 2) := od_54 (od_at tB_cX4_endsOf_0 4 rfl) (od_at tB_cX4_endsOf_0 5 rfl) rfl
theorem dX4_endsOf_6 : decode cX4_endsOf 6 = .ok (.iload 6, 2) := od_21 (od_at tB_cX4_endsOf_0 6 rfl) (od_at tB_cX4_endsOf_0 7 rfl) rfl
theorem dX4_endsOf_8 : decode cX4_endsOf 8 = .ok (.aload_n 0, 1) := od_42 (od_at tB_cX4_endsOf_0 8 rfl)
theorem dX4_endsOf_9 : decode cX4_endsOf 9 = .ok (.getfield 17, 3) := od_180 (od_at tB_cX4_endsOf_0 9 rfl) (od_at tB_cX4_endsOf_0 10 rfl) (od_at tB_cX4_endsOf_0 11 rfl) rfl
theorem dX4_endsOf_12 : decode cX4_endsOf 12 = .ok (.if_icmp .ge 53, 3) := od_162 (od_at tB_cX4_endsOf_0 12 rfl) (od_at tB_cX4_endsOf_0 13 rfl) (od_at tB_cX4_endsOf_0 14 rfl) (by decide +kernel)
theorem dX4_endsOf_15 : decode cX4_endsOf 15 = .ok (.aload_n 0, 1) := od_42 (od_at tB_cX4_endsOf_0 15 rfl)
theorem dX4_endsOf_16 : decode cX4_endsOf 16 = .ok (.getfield 13, 3) := od_180 (od_at tB_cX4_endsOf_1 0 rfl) (od_at tB_cX4_endsOf_1 1 rfl) (od_at tB_cX4_endsOf_1 2 rfl) rfl
theorem dX4_endsOf_19 : decode cX4_endsOf 19 = .ok (.iload 6, 2) := od_21 (od_at tB_cX4_endsOf_1 3 rfl) (od_at tB_cX4_endsOf_1 4 rfl) rfl
theorem dX4_endsOf_21 : decode cX4_endsOf 21 = .ok (.aaload, 1) := od_50 (od_at tB_cX4_endsOf_1 5 rfl)
theorem dX4_endsOf_22 : decode cX4_endsOf 22 = .ok (.getfield 200, 3) := od_180 (od_at tB_cX4_endsOf_1 6 rfl) (od_at tB_cX4_endsOf_1 7 rfl) (od_at tB_cX4_endsOf_1 8 rfl) rfl
theorem dX4_endsOf_25 : decode cX4_endsOf 25 = .ok (.iload_n 1, 1) := od_27 (od_at tB_cX4_endsOf_1 9 rfl)
theorem dX4_endsOf_26 : decode cX4_endsOf 26 = .ok (.iaload, 1) := od_46 (od_at tB_cX4_endsOf_1 10 rfl)
theorem dX4_endsOf_27 : decode cX4_endsOf 27 = .ok (.ifCond .eq 32, 3) := od_153 (od_at tB_cX4_endsOf_1 11 rfl) (od_at tB_cX4_endsOf_1 12 rfl) (od_at tB_cX4_endsOf_1 13 rfl) (by decide +kernel)
theorem dX4_endsOf_30 : decode cX4_endsOf 30 = .ok (.lload 4, 2) := od_22 (od_at tB_cX4_endsOf_1 14 rfl) (od_at tB_cX4_endsOf_1 15 rfl) rfl
theorem dX4_endsOf_32 : decode cX4_endsOf 32 = .ok (.aload_n 0, 1) := od_42 (od_at tB_cX4_endsOf_2 0 rfl)
theorem dX4_endsOf_33 : decode cX4_endsOf 33 = .ok (.iload 6, 2) := od_21 (od_at tB_cX4_endsOf_2 1 rfl) (od_at tB_cX4_endsOf_2 2 rfl) rfl
theorem dX4_endsOf_35 : decode cX4_endsOf 35 = .ok (.iload_n 2, 1) := od_28 (od_at tB_cX4_endsOf_2 3 rfl)
theorem dX4_endsOf_36 : decode cX4_endsOf 36 = .ok (.iload_n 3, 1) := od_29 (od_at tB_cX4_endsOf_2 4 rfl)
theorem dX4_endsOf_37 : decode cX4_endsOf 37 = .ok (.invokevirtual 193, 3) := od_182 (od_at tB_cX4_endsOf_2 5 rfl) (od_at tB_cX4_endsOf_2 6 rfl) (od_at tB_cX4_endsOf_2 7 rfl) rfl
theorem dX4_endsOf_40 : decode cX4_endsOf 40 = .ok (.aload_n 0, 1) := od_42 (od_at tB_cX4_endsOf_2 8 rfl)
theorem dX4_endsOf_41 : decode cX4_endsOf 41 = .ok (.getfield 13, 3) := od_180 (od_at tB_cX4_endsOf_2 9 rfl) (od_at tB_cX4_endsOf_2 10 rfl) (od_at tB_cX4_endsOf_2 11 rfl) rfl
theorem dX4_endsOf_44 : decode cX4_endsOf 44 = .ok (.iload 6, 2) := od_21 (od_at tB_cX4_endsOf_2 12 rfl) (od_at tB_cX4_endsOf_2 13 rfl) rfl
theorem dX4_endsOf_46 : decode cX4_endsOf 46 = .ok (.aaload, 1) := od_50 (od_at tB_cX4_endsOf_2 14 rfl)
theorem dX4_endsOf_47 : decode cX4_endsOf 47 = .ok (.getfield 203, 3) := od_180 (od_at tB_cX4_endsOf_2 15 rfl) (od_at tB_cX4_endsOf_2 16 rfl) (od_at tB_cX4_endsOf_2 17 rfl) rfl
theorem dX4_endsOf_50 : decode cX4_endsOf 50 = .ok (.i2l, 1) := od_133 (od_at tB_cX4_endsOf_3 2 rfl)
theorem dX4_endsOf_51 : decode cX4_endsOf 51 = .ok (.lmul, 1) := od_105 (od_at tB_cX4_endsOf_3 3 rfl)
theorem dX4_endsOf_52 : decode cX4_endsOf 52 = .ok (.ldc2_w 297, 3) := od_20 (od_at tB_cX4_endsOf_3 4 rfl) (od_at tB_cX4_endsOf_3 5 rfl) (od_at tB_cX4_endsOf_3 6 rfl) rfl
theorem dX4_endsOf_55 : decode cX4_endsOf 55 = .ok (.ldiv, 1) := od_109 (od_at tB_cX4_endsOf_3 7 rfl)
theorem dX4_endsOf_56 : decode cX4_endsOf 56 = .ok (.ladd, 1) := od_97 (od_at tB_cX4_endsOf_3 8 rfl)
theorem dX4_endsOf_57 : decode cX4_endsOf 57 = .ok (.lstore 4, 2) := od_55 (od_at tB_cX4_endsOf_3 9 rfl) (od_at tB_cX4_endsOf_3 10 rfl) rfl
theorem dX4_endsOf_59 : decode cX4_endsOf 59 = .ok (.iinc 6 1, 3) := od_132 (od_at tB_cX4_endsOf_3 11 rfl) (od_at tB_cX4_endsOf_3 12 rfl) (od_at tB_cX4_endsOf_3 13 rfl) rfl (by decide +kernel)
theorem dX4_endsOf_62 : decode cX4_endsOf 62 = .ok (.goto (-56), 3) := od_167 (od_at tB_cX4_endsOf_3 14 rfl) (od_at tB_cX4_endsOf_3 15 rfl) (od_at tB_cX4_endsOf_3 16 rfl) (by decide +kernel)
theorem dX4_endsOf_65 : decode cX4_endsOf 65 = .ok (.lload 4, 2) := od_22 (od_at tB_cX4_endsOf_4 1 rfl) (od_at tB_cX4_endsOf_4 2 rfl) rfl
theorem dX4_endsOf_67 : decode cX4_endsOf 67 = .ok (.lreturn, 1) := od_173 (od_at tB_cX4_endsOf_4 3 rfl)
def RB_cX4_linesBeyond_3 : List UInt8 := 0xac :: []
def RB_cX4_linesBeyond_2 : List UInt8 := 0x00 :: 0x0a :: 0x1d :: 0x04 :: 0x15 :: 0x04 :: 0x78 :: 0x80 :: 0x3e :: 0x84 :: 0x04 :: 0x01 :: 0xa7 :: 0xff :: 0xd9 :: 0x1d :: RB_cX4_linesBeyond_3
def RB_cX4_linesBeyond_1 : List UInt8 := 0xb6 :: 0x00 :: 0xce :: 0xb8 :: 0x01 :: 0x2b :: 0x2a :: 0x15 :: 0x04 :: 0x1b :: 0x1c :: 0xb6 :: 0x00 :: 0xd1 :: 0x94 :: 0x9e :: RB_cX4_linesBeyond_2
def RB_cX4_linesBeyond_0 : List UInt8 := 0x03 :: 0x3e :: 0x03 :: 0x36 :: 0x04 :: 0x15 :: 0x04 :: 0x07 :: 0xa2 :: 0x00 :: 0x27 :: 0x2a :: 0x15 :: 0x04 :: 0x1b :: 0x1c :: RB_cX4_linesBeyond_1
theorem tB_cX4_linesBeyond_0 : cX4_linesBeyond.data.toList.drop 0 = RB_cX4_linesBeyond_0 := by decide +kernel
theorem tB_cX4_linesBeyond_1 : cX4_linesBeyond.data.toList.drop 16 = RB_cX4_linesBeyond_1 := od_st tB_cX4_linesBeyond_0 16 rfl
theorem tB_cX4_linesBeyond_2 : cX4_linesBeyond.data.toList.drop 32 = RB_cX4_linesBeyond_2 := od_st tB_cX4_linesBeyond_1 16 rfl
theorem tB_cX4_linesBeyond_3 : cX4_linesBeyond.data.toList.drop 48 = RB_cX4_linesBeyond_3 := od_st tB_cX4_linesBeyond_2 16 rfl
theorem dX4_linesBeyond_0 : decode cX4_linesBeyond 0 = .ok (.iconst 0, 1) := od_3 (od_at tB_cX4_linesBeyond_0 0 rfl)
theorem dX4_linesBeyond_1 : decode cX4_linesBeyond 1 = .ok (.istore_n 3, 1) := od_62 (od_at tB_cX4_linesBeyond_0 1 rfl)
theorem dX4_linesBeyond_2 : decode cX4_linesBeyond 2 = .ok (.iconst 0, 1) := od_3 (od_at tB_cX4_linesBeyond_0 2 rfl)
theorem dX4_linesBeyond_3 : decode cX4_linesBeyond 3 = .ok (.istore 4, 2) := od_54 (od_at tB_cX4_linesBeyond_0 3 rfl) (od_at tB_cX4_linesBeyond_0 4 rfl) rfl
theorem dX4_linesBeyond_5 : decode cX4_linesBeyond 5 = .ok (.iload 4, 2) := od_21 (od_at tB_cX4_linesBeyond_0 5 rfl) (od_at tB_cX4_linesBeyond_0 6 rfl) rfl
theorem dX4_linesBeyond_7 : decode cX4_linesBeyond 7 = .ok (.iconst 4, 1) := od_7 (od_at tB_cX4_linesBeyond_0 7 rfl)
theorem dX4_linesBeyond_8 : decode cX4_linesBeyond 8 = .ok (.if_icmp .ge 39, 3) := od_162 (od_at tB_cX4_linesBeyond_0 8 rfl) (od_at tB_cX4_linesBeyond_0 9 rfl) (od_at tB_cX4_linesBeyond_0 10 rfl) (by decide +kernel)
theorem dX4_linesBeyond_11 : decode cX4_linesBeyond 11 = .ok (.aload_n 0, 1) := od_42 (od_at tB_cX4_linesBeyond_0 11 rfl)
theorem dX4_linesBeyond_12 : decode cX4_linesBeyond 12 = .ok (.iload 4, 2) := od_21 (od_at tB_cX4_linesBeyond_0 12 rfl) (od_at tB_cX4_linesBeyond_0 13 rfl) rfl
theorem dX4_linesBeyond_14 : decode cX4_linesBeyond 14 = .ok (.iload_n 1, 1) := od_27 (od_at tB_cX4_linesBeyond_0 14 rfl)
theorem dX4_linesBeyond_15 : decode cX4_linesBeyond 15 = .ok (.iload_n 2, 1) := od_28 (od_at tB_cX4_linesBeyond_0 15 rfl)
theorem dX4_linesBeyond_16 : decode cX4_linesBeyond 16 = .ok (.invokevirtual 206, 3) := od_182 (od_at tB_cX4_linesBeyond_1 0 rfl) (od_at tB_cX4_linesBeyond_1 1 rfl) (od_at tB_cX4_linesBeyond_1 2 rfl) rfl
theorem dX4_linesBeyond_19 : decode cX4_linesBeyond 19 = .ok (.invokestatic 299, 3) := od_184 (od_at tB_cX4_linesBeyond_1 3 rfl) (od_at tB_cX4_linesBeyond_1 4 rfl) (od_at tB_cX4_linesBeyond_1 5 rfl) rfl
theorem dX4_linesBeyond_22 : decode cX4_linesBeyond 22 = .ok (.aload_n 0, 1) := od_42 (od_at tB_cX4_linesBeyond_1 6 rfl)
theorem dX4_linesBeyond_23 : decode cX4_linesBeyond 23 = .ok (.iload 4, 2) := od_21 (od_at tB_cX4_linesBeyond_1 7 rfl) (od_at tB_cX4_linesBeyond_1 8 rfl) rfl
theorem dX4_linesBeyond_25 : decode cX4_linesBeyond 25 = .ok (.iload_n 1, 1) := od_27 (od_at tB_cX4_linesBeyond_1 9 rfl)
theorem dX4_linesBeyond_26 : decode cX4_linesBeyond 26 = .ok (.iload_n 2, 1) := od_28 (od_at tB_cX4_linesBeyond_1 10 rfl)
theorem dX4_linesBeyond_27 : decode cX4_linesBeyond 27 = .ok (.invokevirtual 209, 3) := od_182 (od_at tB_cX4_linesBeyond_1 11 rfl) (od_at tB_cX4_linesBeyond_1 12 rfl) (od_at tB_cX4_linesBeyond_1 13 rfl) rfl
theorem dX4_linesBeyond_30 : decode cX4_linesBeyond 30 = .ok (.lcmp, 1) := od_148 (od_at tB_cX4_linesBeyond_1 14 rfl)
theorem dX4_linesBeyond_31 : decode cX4_linesBeyond 31 = .ok (.ifCond .le 10, 3) := od_158 (od_at tB_cX4_linesBeyond_1 15 rfl) (od_at tB_cX4_linesBeyond_1 16 rfl) (od_at tB_cX4_linesBeyond_1 17 rfl) (by decide +kernel)
theorem dX4_linesBeyond_34 : decode cX4_linesBeyond 34 = .ok (.iload_n 3, 1) := od_29 (od_at tB_cX4_linesBeyond_2 2 rfl)
theorem dX4_linesBeyond_35 : decode cX4_linesBeyond 35 = .ok (.iconst 1, 1) := od_4 (od_at tB_cX4_linesBeyond_2 3 rfl)
theorem dX4_linesBeyond_36 : decode cX4_linesBeyond 36 = .ok (.iload 4, 2) := od_21 (od_at tB_cX4_linesBeyond_2 4 rfl) (od_at tB_cX4_linesBeyond_2 5 rfl) rfl
theorem dX4_linesBeyond_38 : decode cX4_linesBeyond 38 = .ok (.ishl, 1) := od_120 (od_at tB_cX4_linesBeyond_2 6 rfl)
theorem dX4_linesBeyond_39 : decode cX4_linesBeyond 39 = .ok (.ior, 1) := od_128 (od_at tB_cX4_linesBeyond_2 7 rfl)
theorem dX4_linesBeyond_40 : decode cX4_linesBeyond 40 = .ok (.istore_n 3, 1) := od_62 (od_at tB_cX4_linesBeyond_2 8 rfl)
theorem dX4_linesBeyond_41 : decode cX4_linesBeyond 41 = .ok (.iinc 4 1, 3) := od_132 (od_at tB_cX4_linesBeyond_2 9 rfl) (od_at tB_cX4_linesBeyond_2 10 rfl) (od_at tB_cX4_linesBeyond_2 11 rfl) rfl (by decide +kernel)
theorem dX4_linesBeyond_44 : decode cX4_linesBeyond 44 = .ok (.goto (-39), 3) := od_167 (od_at tB_cX4_linesBeyond_2 12 rfl) (od_at tB_cX4_linesBeyond_2 13 rfl) (od_at tB_cX4_linesBeyond_2 14 rfl) (by decide +kernel)
theorem dX4_linesBeyond_47 : decode cX4_linesBeyond 47 = .ok (.iload_n 3, 1) := od_29 (od_at tB_cX4_linesBeyond_2 15 rfl)
theorem dX4_linesBeyond_48 : decode cX4_linesBeyond 48 = .ok (.ireturn, 1) := od_172 (od_at tB_cX4_linesBeyond_3 0 rfl)
def RB_cX5_init_13 : List UInt8 := 0x44 :: 0x1b :: 0x02 :: 0x4f :: 0x84 :: 0x01 :: 0x01 :: 0xa7 :: 0xff :: 0xf1 :: 0xb1 :: []
def RB_cX5_init_12 : List UInt8 := 0x50 :: 0x2a :: 0x02 :: 0xb5 :: 0x00 :: 0x54 :: 0x03 :: 0x3c :: 0x1b :: 0x07 :: 0xa2 :: 0x00 :: 0x10 :: 0x2a :: 0xb4 :: 0x00 :: RB_cX5_init_13
def RB_cX5_init_11 : List UInt8 := 0xb5 :: 0x00 :: 0x4a :: 0x2a :: 0x10 :: 0x3c :: 0xbc :: 0x0a :: 0xb5 :: 0x00 :: 0x4d :: 0x2a :: 0x10 :: 0xf7 :: 0xb5 :: 0x00 :: RB_cX5_init_12
def RB_cX5_init_10 : List UInt8 := 0xb5 :: 0x00 :: 0x44 :: 0x2a :: 0x07 :: 0xbc :: 0x0a :: 0xb5 :: 0x00 :: 0x47 :: 0x2a :: 0x11 :: 0x00 :: 0xf0 :: 0xbc :: 0x0a :: RB_cX5_init_11
def RB_cX5_init_9 : List UInt8 := 0x0a :: 0xb5 :: 0x00 :: 0x3e :: 0x2a :: 0x10 :: 0x18 :: 0xbc :: 0x0a :: 0xb5 :: 0x00 :: 0x41 :: 0x2a :: 0x07 :: 0xbc :: 0x0a :: RB_cX5_init_10
def RB_cX5_init_8 : List UInt8 := 0x0a :: 0xb5 :: 0x00 :: 0x38 :: 0x2a :: 0x10 :: 0x28 :: 0xbc :: 0x0a :: 0xb5 :: 0x00 :: 0x3b :: 0x2a :: 0x10 :: 0x28 :: 0xbc :: RB_cX5_init_9
def RB_cX5_init_7 : List UInt8 := 0x0a :: 0xb5 :: 0x00 :: 0x32 :: 0x2a :: 0x10 :: 0x28 :: 0xbc :: 0x0a :: 0xb5 :: 0x00 :: 0x35 :: 0x2a :: 0x10 :: 0x28 :: 0xbc :: RB_cX5_init_8
def RB_cX5_init_6 : List UInt8 := 0x0a :: 0xb5 :: 0x00 :: 0x2c :: 0x2a :: 0x10 :: 0x28 :: 0xbc :: 0x0a :: 0xb5 :: 0x00 :: 0x2f :: 0x2a :: 0x10 :: 0x28 :: 0xbc :: RB_cX5_init_7
def RB_cX5_init_5 : List UInt8 := 0x0b :: 0xb5 :: 0x00 :: 0x25 :: 0x2a :: 0x10 :: 0x28 :: 0xbc :: 0x0a :: 0xb5 :: 0x00 :: 0x29 :: 0x2a :: 0x10 :: 0x28 :: 0xbc :: RB_cX5_init_6
def RB_cX5_init_4 : List UInt8 := 0x0a :: 0xb5 :: 0x00 :: 0x1f :: 0x2a :: 0x10 :: 0x0d :: 0xbc :: 0x0a :: 0xb5 :: 0x00 :: 0x22 :: 0x2a :: 0x10 :: 0x0c :: 0xbc :: RB_cX5_init_5
def RB_cX5_init_3 : List UInt8 := 0x0a :: 0xb5 :: 0x00 :: 0x19 :: 0x2a :: 0x10 :: 0x0d :: 0xbc :: 0x0a :: 0xb5 :: 0x00 :: 0x1c :: 0x2a :: 0x10 :: 0x0d :: 0xbc :: RB_cX5_init_4
def RB_cX5_init_2 : List UInt8 := 0x0a :: 0xb5 :: 0x00 :: 0x13 :: 0x2a :: 0x10 :: 0x48 :: 0xbc :: 0x0a :: 0xb5 :: 0x00 :: 0x16 :: 0x2a :: 0x10 :: 0x06 :: 0xbc :: RB_cX5_init_3
def RB_cX5_init_1 : List UInt8 := 0x0a :: 0xb5 :: 0x00 :: 0x0d :: 0x2a :: 0x10 :: 0x48 :: 0xbc :: 0x0a :: 0xb5 :: 0x00 :: 0x10 :: 0x2a :: 0x10 :: 0x48 :: 0xbc :: RB_cX5_init_2
def RB_cX5_init_0 : List UInt8 := 0x2a :: 0xb7 :: 0x00 :: 0x01 :: 0x2a :: 0x10 :: 0x06 :: 0xbc :: 0x0a :: 0xb5 :: 0x00 :: 0x07 :: 0x2a :: 0x10 :: 0x06 :: 0xbc :: RB_cX5_init_1
theorem tB_cX5_init_0 : cX5_init.data.toList.drop 0 = RB_cX5_init_0 := by decide +kernel
theorem tB_cX5_init_1 : cX5_init.data.toList.drop 16 = RB_cX5_init_1 := od_st tB_cX5_init_0 16 rfl
theorem tB_cX5_init_2 : cX5_init.data.toList.drop 32 = RB_cX5_init_2 := od_st tB_cX5_init_1 16 rfl
theorem tB_cX5_init_3 : cX5_init.data.toList.drop 48 = RB_cX5_init_3 := od_st tB_cX5_init_2 16 rfl
theorem tB_cX5_init_4 : cX5_init.data.toList.drop 64 = RB_cX5_init_4 := od_st tB_cX5_init_3 16 rfl
theorem tB_cX5_init_5 : cX5_init.data.toList.drop 80 = RB_cX5_init_5 := od_st tB_cX5_init_4 16 rfl
theorem tB_cX5_init_6 : cX5_init.data.toList.drop 96 = RB_cX5_init_6 := od_st tB_cX5_init_5 16 rfl
theorem tB_cX5_init_7 : cX5_init.data.toList.drop 112 = RB_cX5_init_7 := od_st tB_cX5_init_6 16 rfl
theorem tB_cX5_init_8 : cX5_init.data.toList.drop 128 = RB_cX5_init_8 := od_st tB_cX5_init_7 16 rfl
theorem tB_cX5_init_9 : cX5_init.data.toList.drop 144 = RB_cX5_init_9 := od_st tB_cX5_init_8 16 rfl
theorem tB_cX5_init_10 : cX5_init.data.toList.drop 160 = RB_cX5_init_10 := od_st tB_cX5_init_9 16 rfl
theorem tB_cX5_init_11 : cX5_init.data.toList.drop 176 = RB_cX5_init_11 := od_st tB_cX5_init_10 16 rfl
theorem tB_cX5_init_12 : cX5_init.data.toList.drop 192 = RB_cX5_init_12 := od_st tB_cX5_init_11 16 rfl
theorem tB_cX5_init_13 : cX5_init.data.toList.drop 208 = RB_cX5_init_13 := od_st tB_cX5_init_12 16 rfl
theorem dX5_init_0 : decode cX5_init 0 = .ok (.aload_n 0, 1) := od_42 (od_at tB_cX5_init_0 0 rfl)
theorem dX5_init_1 : decode cX5_init 1 = .ok (.invokespecial 1, 3) := od_183 (od_at tB_cX5_init_0 1 rfl) (od_at tB_cX5_init_0 2 rfl) (od_at tB_cX5_init_0 3 rfl) rfl
theorem dX5_init_4 : decode cX5_init 4 = .ok (.aload_n 0, 1) := od_42 (od_at tB_cX5_init_0 4 rfl)
theorem dX5_init_5 : decode cX5_init 5 = .ok (.bipush 6, 2) := od_16 (od_at tB_cX5_init_0 5 rfl) (od_at tB_cX5_init_0 6 rfl) (by decide +kernel)
theorem dX5_init_7 : decode cX5_init 7 = .ok (.newarray .int, 2) := by decide +kernel
theorem dX5_init_9 : decode cX5_init 9 = .ok (.putfield 7, 3) := od_181 (od_at tB_cX5_init_0 9 rfl) (od_at tB_cX5_init_0 10 rfl) (od_at tB_cX5_init_0 11 rfl) rfl
theorem dX5_init_12 : decode cX5_init 12 = .ok (.aload_n 0, 1) := od_42 (od_at tB_cX5_init_0 12 rfl)
theorem dX5_init_13 : decode cX5_init 13 = .ok (.bipush 6, 2) := od_16 (od_at tB_cX5_init_0 13 rfl) (od_at tB_cX5_init_0 14 rfl) (by decide +kernel)
theorem dX5_init_15 : decode cX5_init 15 = .ok (.newarray .int, 2) := by decide +kernel
theorem dX5_init_17 : decode cX5_init 17 = .ok (.putfield 13, 3) := od_181 (od_at tB_cX5_init_1 1 rfl) (od_at tB_cX5_init_1 2 rfl) (od_at tB_cX5_init_1 3 rfl) rfl
theorem dX5_init_20 : decode cX5_init 20 = .ok (.aload_n 0, 1) := od_42 (od_at tB_cX5_init_1 4 rfl)
theorem dX5_init_21 : decode cX5_init 21 = .ok (.bipush 72, 2) := od_16 (od_at tB_cX5_init_1 5 rfl) (od_at tB_cX5_init_1 6 rfl) (by decide +kernel)
theorem dX5_init_23 : decode cX5_init 23 = .ok (.newarray .int, 2) := by decide +kernel
theorem dX5_init_25 : decode cX5_init 25 = .ok (.putfield 16, 3) := od_181 (od_at tB_cX5_init_1 9 rfl) (od_at tB_cX5_init_1 10 rfl) (od_at tB_cX5_init_1 11 rfl) rfl
theorem dX5_init_28 : decode cX5_init 28 = .ok (.aload_n 0, 1) := od_42 (od_at tB_cX5_init_1 12 rfl)
theorem dX5_init_29 : decode cX5_init 29 = .ok (.bipush 72, 2) := od_16 (od_at tB_cX5_init_1 13 rfl) (od_at tB_cX5_init_1 14 rfl) (by decide +kernel)
theorem dX5_init_31 : decode cX5_init 31 = .ok (.newarray .int, 2) := by decide +kernel
theorem dX5_init_33 : decode cX5_init 33 = .ok (.putfield 19, 3) := od_181 (od_at tB_cX5_init_2 1 rfl) (od_at tB_cX5_init_2 2 rfl) (od_at tB_cX5_init_2 3 rfl) rfl
theorem dX5_init_36 : decode cX5_init 36 = .ok (.aload_n 0, 1) := od_42 (od_at tB_cX5_init_2 4 rfl)
theorem dX5_init_37 : decode cX5_init 37 = .ok (.bipush 72, 2) := od_16 (od_at tB_cX5_init_2 5 rfl) (od_at tB_cX5_init_2 6 rfl) (by decide +kernel)
theorem dX5_init_39 : decode cX5_init 39 = .ok (.newarray .int, 2) := by decide +kernel
theorem dX5_init_41 : decode cX5_init 41 = .ok (.putfield 22, 3) := od_181 (od_at tB_cX5_init_2 9 rfl) (od_at tB_cX5_init_2 10 rfl) (od_at tB_cX5_init_2 11 rfl) rfl
theorem dX5_init_44 : decode cX5_init 44 = .ok (.aload_n 0, 1) := od_42 (od_at tB_cX5_init_2 12 rfl)
theorem dX5_init_45 : decode cX5_init 45 = .ok (.bipush 6, 2) := od_16 (od_at tB_cX5_init_2 13 rfl) (od_at tB_cX5_init_2 14 rfl) (by decide +kernel)
theorem dX5_init_47 : decode cX5_init 47 = .ok (.newarray .int, 2) := by decide +kernel
theorem dX5_init_49 : decode cX5_init 49 = .ok (.putfield 25, 3) := od_181 (od_at tB_cX5_init_3 1 rfl) (od_at tB_cX5_init_3 2 rfl) (od_at tB_cX5_init_3 3 rfl) rfl
theorem dX5_init_52 : decode cX5_init 52 = .ok (.aload_n 0, 1) := od_42 (od_at tB_cX5_init_3 4 rfl)
theorem dX5_init_53 : decode cX5_init 53 = .ok (.bipush 13, 2) := od_16 (od_at tB_cX5_init_3 5 rfl) (od_at tB_cX5_init_3 6 rfl) (by decide +kernel)
theorem dX5_init_55 : decode cX5_init 55 = .ok (.newarray .int, 2) := by decide +kernel
theorem dX5_init_57 : decode cX5_init 57 = .ok (.putfield 28, 3) := od_181 (od_at tB_cX5_init_3 9 rfl) (od_at tB_cX5_init_3 10 rfl) (od_at tB_cX5_init_3 11 rfl) rfl
theorem dX5_init_60 : decode cX5_init 60 = .ok (.aload_n 0, 1) := od_42 (od_at tB_cX5_init_3 12 rfl)
theorem dX5_init_61 : decode cX5_init 61 = .ok (.bipush 13, 2) := od_16 (od_at tB_cX5_init_3 13 rfl) (od_at tB_cX5_init_3 14 rfl) (by decide +kernel)
theorem dX5_init_63 : decode cX5_init 63 = .ok (.newarray .int, 2) := by decide +kernel
theorem dX5_init_65 : decode cX5_init 65 = .ok (.putfield 31, 3) := od_181 (od_at tB_cX5_init_4 1 rfl) (od_at tB_cX5_init_4 2 rfl) (od_at tB_cX5_init_4 3 rfl) rfl
theorem dX5_init_68 : decode cX5_init 68 = .ok (.aload_n 0, 1) := od_42 (od_at tB_cX5_init_4 4 rfl)
theorem dX5_init_69 : decode cX5_init 69 = .ok (.bipush 13, 2) := od_16 (od_at tB_cX5_init_4 5 rfl) (od_at tB_cX5_init_4 6 rfl) (by decide +kernel)
theorem dX5_init_71 : decode cX5_init 71 = .ok (.newarray .int, 2) := by decide +kernel
theorem dX5_init_73 : decode cX5_init 73 = .ok (.putfield 34, 3) := od_181 (od_at tB_cX5_init_4 9 rfl) (od_at tB_cX5_init_4 10 rfl) (od_at tB_cX5_init_4 11 rfl) rfl
theorem dX5_init_76 : decode cX5_init 76 = .ok (.aload_n 0, 1) := od_42 (od_at tB_cX5_init_4 12 rfl)
theorem dX5_init_77 : decode cX5_init 77 = .ok (.bipush 12, 2) := od_16 (od_at tB_cX5_init_4 13 rfl) (od_at tB_cX5_init_4 14 rfl) (by decide +kernel)
theorem dX5_init_79 : decode cX5_init 79 = .ok (.newarray .long, 2) := by decide +kernel
theorem dX5_init_81 : decode cX5_init 81 = .ok (.putfield 37, 3) := od_181 (od_at tB_cX5_init_5 1 rfl) (od_at tB_cX5_init_5 2 rfl) (od_at tB_cX5_init_5 3 rfl) rfl
theorem dX5_init_84 : decode cX5_init 84 = .ok (.aload_n 0, 1) := od_42 (od_at tB_cX5_init_5 4 rfl)
theorem dX5_init_85 : decode cX5_init 85 = .ok (.bipush 40, 2) := od_16 (od_at tB_cX5_init_5 5 rfl) (od_at tB_cX5_init_5 6 rfl) (by decide +kernel)
theorem dX5_init_87 : decode cX5_init 87 = .ok (.newarray .int, 2) := by decide +kernel
theorem dX5_init_89 : decode cX5_init 89 = .ok (.putfield 41, 3) := od_181 (od_at tB_cX5_init_5 9 rfl) (od_at tB_cX5_init_5 10 rfl) (od_at tB_cX5_init_5 11 rfl) rfl
theorem dX5_init_92 : decode cX5_init 92 = .ok (.aload_n 0, 1) := od_42 (od_at tB_cX5_init_5 12 rfl)
theorem dX5_init_93 : decode cX5_init 93 = .ok (.bipush 40, 2) := od_16 (od_at tB_cX5_init_5 13 rfl) (od_at tB_cX5_init_5 14 rfl) (by decide +kernel)
theorem dX5_init_95 : decode cX5_init 95 = .ok (.newarray .int, 2) := by decide +kernel
theorem dX5_init_97 : decode cX5_init 97 = .ok (.putfield 44, 3) := od_181 (od_at tB_cX5_init_6 1 rfl) (od_at tB_cX5_init_6 2 rfl) (od_at tB_cX5_init_6 3 rfl) rfl
theorem dX5_init_100 : decode cX5_init 100 = .ok (.aload_n 0, 1) := od_42 (od_at tB_cX5_init_6 4 rfl)
theorem dX5_init_101 : decode cX5_init 101 = .ok (.bipush 40, 2) := od_16 (od_at tB_cX5_init_6 5 rfl) (od_at tB_cX5_init_6 6 rfl) (by decide +kernel)
theorem dX5_init_103 : decode cX5_init 103 = .ok (.newarray .int, 2) := by decide +kernel
theorem dX5_init_105 : decode cX5_init 105 = .ok (.putfield 47, 3) := od_181 (od_at tB_cX5_init_6 9 rfl) (od_at tB_cX5_init_6 10 rfl) (od_at tB_cX5_init_6 11 rfl) rfl
theorem dX5_init_108 : decode cX5_init 108 = .ok (.aload_n 0, 1) := od_42 (od_at tB_cX5_init_6 12 rfl)
theorem dX5_init_109 : decode cX5_init 109 = .ok (.bipush 40, 2) := od_16 (od_at tB_cX5_init_6 13 rfl) (od_at tB_cX5_init_6 14 rfl) (by decide +kernel)
theorem dX5_init_111 : decode cX5_init 111 = .ok (.newarray .int, 2) := by decide +kernel
theorem dX5_init_113 : decode cX5_init 113 = .ok (.putfield 50, 3) := od_181 (od_at tB_cX5_init_7 1 rfl) (od_at tB_cX5_init_7 2 rfl) (od_at tB_cX5_init_7 3 rfl) rfl
theorem dX5_init_116 : decode cX5_init 116 = .ok (.aload_n 0, 1) := od_42 (od_at tB_cX5_init_7 4 rfl)
theorem dX5_init_117 : decode cX5_init 117 = .ok (.bipush 40, 2) := od_16 (od_at tB_cX5_init_7 5 rfl) (od_at tB_cX5_init_7 6 rfl) (by decide +kernel)
theorem dX5_init_119 : decode cX5_init 119 = .ok (.newarray .int, 2) := by decide +kernel
theorem dX5_init_121 : decode cX5_init 121 = .ok (.putfield 53, 3) := od_181 (od_at tB_cX5_init_7 9 rfl) (od_at tB_cX5_init_7 10 rfl) (od_at tB_cX5_init_7 11 rfl) rfl
theorem dX5_init_124 : decode cX5_init 124 = .ok (.aload_n 0, 1) := od_42 (od_at tB_cX5_init_7 12 rfl)
theorem dX5_init_125 : decode cX5_init 125 = .ok (.bipush 40, 2) := od_16 (od_at tB_cX5_init_7 13 rfl) (od_at tB_cX5_init_7 14 rfl) (by decide +kernel)
theorem dX5_init_127 : decode cX5_init 127 = .ok (.newarray .int, 2) := by decide +kernel
theorem dX5_init_129 : decode cX5_init 129 = .ok (.putfield 56, 3) := od_181 (od_at tB_cX5_init_8 1 rfl) (od_at tB_cX5_init_8 2 rfl) (od_at tB_cX5_init_8 3 rfl) rfl
theorem dX5_init_132 : decode cX5_init 132 = .ok (.aload_n 0, 1) := od_42 (od_at tB_cX5_init_8 4 rfl)
theorem dX5_init_133 : decode cX5_init 133 = .ok (.bipush 40, 2) := od_16 (od_at tB_cX5_init_8 5 rfl) (od_at tB_cX5_init_8 6 rfl) (by decide +kernel)
theorem dX5_init_135 : decode cX5_init 135 = .ok (.newarray .int, 2) := by decide +kernel
theorem dX5_init_137 : decode cX5_init 137 = .ok (.putfield 59, 3) := od_181 (od_at tB_cX5_init_8 9 rfl) (od_at tB_cX5_init_8 10 rfl) (od_at tB_cX5_init_8 11 rfl) rfl
theorem dX5_init_140 : decode cX5_init 140 = .ok (.aload_n 0, 1) := od_42 (od_at tB_cX5_init_8 12 rfl)
theorem dX5_init_141 : decode cX5_init 141 = .ok (.bipush 40, 2) := od_16 (od_at tB_cX5_init_8 13 rfl) (od_at tB_cX5_init_8 14 rfl) (by decide +kernel)
theorem dX5_init_143 : decode cX5_init 143 = .ok (.newarray .int, 2) := by decide +kernel
theorem dX5_init_145 : decode cX5_init 145 = .ok (.putfield 62, 3) := od_181 (od_at tB_cX5_init_9 1 rfl) (od_at tB_cX5_init_9 2 rfl) (od_at tB_cX5_init_9 3 rfl) rfl
theorem dX5_init_148 : decode cX5_init 148 = .ok (.aload_n 0, 1) := od_42 (od_at tB_cX5_init_9 4 rfl)
theorem dX5_init_149 : decode cX5_init 149 = .ok (.bipush 24, 2) := od_16 (od_at tB_cX5_init_9 5 rfl) (od_at tB_cX5_init_9 6 rfl) (by decide +kernel)
theorem dX5_init_151 : decode cX5_init 151 = .ok (.newarray .int, 2) := by decide +kernel
theorem dX5_init_153 : decode cX5_init 153 = .ok (.putfield 65, 3) := od_181 (od_at tB_cX5_init_9 9 rfl) (od_at tB_cX5_init_9 10 rfl) (od_at tB_cX5_init_9 11 rfl) rfl
theorem dX5_init_156 : decode cX5_init 156 = .ok (.aload_n 0, 1) := od_42 (od_at tB_cX5_init_9 12 rfl)
theorem dX5_init_157 : decode cX5_init 157 = .ok (.iconst 4, 1) := od_7 (od_at tB_cX5_init_9 13 rfl)
theorem dX5_init_158 : decode cX5_init 158 = .ok (.newarray .int, 2) := by decide +kernel
theorem dX5_init_160 : decode cX5_init 160 = .ok (.putfield 68, 3) := od_181 (od_at tB_cX5_init_10 0 rfl) (od_at tB_cX5_init_10 1 rfl) (od_at tB_cX5_init_10 2 rfl) rfl
theorem dX5_init_163 : decode cX5_init 163 = .ok (.aload_n 0, 1) := od_42 (od_at tB_cX5_init_10 3 rfl)
theorem dX5_init_164 : decode cX5_init 164 = .ok (.iconst 4, 1) := od_7 (od_at tB_cX5_init_10 4 rfl)
theorem dX5_init_165 : decode cX5_init 165 = .ok (.newarray .int, 2) := by decide +kernel
theorem dX5_init_167 : decode cX5_init 167 = .ok (.putfield 71, 3) := od_181 (od_at tB_cX5_init_10 7 rfl) (od_at tB_cX5_init_10 8 rfl) (od_at tB_cX5_init_10 9 rfl) rfl
theorem dX5_init_170 : decode cX5_init 170 = .ok (.aload_n 0, 1) := od_42 (od_at tB_cX5_init_10 10 rfl)
theorem dX5_init_171 : decode cX5_init 171 = .ok (.sipush 240, 3) := od_17 (od_at tB_cX5_init_10 11 rfl) (od_at tB_cX5_init_10 12 rfl) (od_at tB_cX5_init_10 13 rfl) (by decide +kernel)
theorem dX5_init_174 : decode cX5_init 174 = .ok (.newarray .int, 2) := by decide +kernel
theorem dX5_init_176 : decode cX5_init 176 = .ok (.putfield 74, 3) := od_181 (od_at tB_cX5_init_11 0 rfl) (od_at tB_cX5_init_11 1 rfl) (od_at tB_cX5_init_11 2 rfl) rfl
theorem dX5_init_179 : decode cX5_init 179 = .ok (.aload_n 0, 1) := od_42 (od_at tB_cX5_init_11 3 rfl)
theorem dX5_init_180 : decode cX5_init 180 = .ok (.bipush 60, 2) := od_16 (od_at tB_cX5_init_11 4 rfl) (od_at tB_cX5_init_11 5 rfl) (by decide +kernel)
theorem dX5_init_182 : decode cX5_init 182 = .ok (.newarray .int, 2) := by decide +kernel
theorem dX5_init_184 : decode cX5_init 184 = .ok (.putfield 77, 3) := od_181 (od_at tB_cX5_init_11 8 rfl) (od_at tB_cX5_init_11 9 rfl) (od_at tB_cX5_init_11 10 rfl) rfl
theorem dX5_init_187 : decode cX5_init 187 = .ok (.aload_n 0, 1) := od_42 (od_at tB_cX5_init_11 11 rfl)
theorem dX5_init_188 : decode cX5_init 188 = .ok (.bipush (-9), 2) := od_16 (od_at tB_cX5_init_11 12 rfl) (od_at tB_cX5_init_11 13 rfl) (by decide +kernel)
theorem dX5_init_190 : decode cX5_init 190 = .ok (.putfield 80, 3) := od_181 (od_at tB_cX5_init_11 14 rfl) (od_at tB_cX5_init_11 15 rfl) (od_at tB_cX5_init_11 16 rfl) rfl
theorem dX5_init_193 : decode cX5_init 193 = .ok (.aload_n 0, 1) := od_42 (od_at tB_cX5_init_12 1 rfl)
theorem dX5_init_194 : decode cX5_init 194 = .ok (.iconst (-1), 1) := od_2 (od_at tB_cX5_init_12 2 rfl)
theorem dX5_init_195 : decode cX5_init 195 = .ok (.putfield 84, 3) := od_181 (od_at tB_cX5_init_12 3 rfl) (od_at tB_cX5_init_12 4 rfl) (od_at tB_cX5_init_12 5 rfl) rfl
theorem dX5_init_198 : decode cX5_init 198 = .ok (.iconst 0, 1) := od_3 (od_at tB_cX5_init_12 6 rfl)
theorem dX5_init_199 : decode cX5_init 199 = .ok (.istore_n 1, 1) := od_60 (od_at tB_cX5_init_12 7 rfl)
theorem dX5_init_200 : decode cX5_init 200 = .ok (.iload_n 1, 1) := od_27 (od_at tB_cX5_init_12 8 rfl)
theorem dX5_init_201 : decode cX5_init 201 = .ok (.iconst 4, 1) := od_7 (od_at tB_cX5_init_12 9 rfl)
theorem dX5_init_202 : decode cX5_init 202 = .ok (.if_icmp .ge 16, 3) := od_162 (od_at tB_cX5_init_12 10 rfl) (od_at tB_cX5_init_12 11 rfl) (od_at tB_cX5_init_12 12 rfl) (by decide +kernel)
theorem dX5_init_205 : decode cX5_init 205 = .ok (.aload_n 0, 1) := od_42 (od_at tB_cX5_init_12 13 rfl)
theorem dX5_init_206 : decode cX5_init 206 = .ok (.getfield 68, 3) := od_180 (od_at tB_cX5_init_12 14 rfl) (od_at tB_cX5_init_12 15 rfl) (od_at tB_cX5_init_12 16 rfl) rfl
theorem dX5_init_209 : decode cX5_init 209 = .ok (.iload_n 1, 1) := od_27 (od_at tB_cX5_init_13 1 rfl)
theorem dX5_init_210 : decode cX5_init 210 = .ok (.iconst (-1), 1) := od_2 (od_at tB_cX5_init_13 2 rfl)
theorem dX5_init_211 : decode cX5_init 211 = .ok (.iastore, 1) := od_79 (od_at tB_cX5_init_13 3 rfl)
theorem dX5_init_212 : decode cX5_init 212 = .ok (.iinc 1 1, 3) := od_132 (od_at tB_cX5_init_13 4 rfl) (od_at tB_cX5_init_13 5 rfl) (od_at tB_cX5_init_13 6 rfl) rfl (by decide +kernel)
theorem dX5_init_215 : decode cX5_init 215 = .ok (.goto (-15), 3) := od_167 (od_at tB_cX5_init_13 7 rfl) (od_at tB_cX5_init_13 8 rfl) (od_at tB_cX5_init_13 9 rfl) (by decide +kernel)
theorem dX5_init_218 : decode cX5_init 218 = .ok (.return_, 1) := od_177 (od_at tB_cX5_init_13 10 rfl)
def RB_cX5_in_1 : List UInt8 := 0x04 :: 0x03 :: 0xac :: []
def RB_cX5_in_0 : List UInt8 := 0x1e :: 0x20 :: 0x94 :: 0x9b :: 0x00 :: 0x0e :: 0x1e :: 0x16 :: 0x04 :: 0x94 :: 0x9d :: 0x00 :: 0x07 :: 0x04 :: 0xa7 :: 0x00 :: RB_cX5_in_1
theorem tB_cX5_in_0 : cX5_in.data.toList.drop 0 = RB_cX5_in_0 := by decide +kernel
theorem tB_cX5_in_1 : cX5_in.data.toList.drop 16 = RB_cX5_in_1 := od_st tB_cX5_in_0 16 rfl
theorem dX5_in_0 : decode cX5_in 0 = .ok (.lload_n 0, 1) := od_30 (od_at tB_cX5_in_0 0 rfl)
theorem dX5_in_1 : decode cX5_in 1 = .ok (.lload_n 2, 1) := od_32 (od_at tB_cX5_in_0 1 rfl)
theorem dX5_in_2 : decode cX5_in 2 = .ok (.lcmp, 1) := od_148 (od_at tB_cX5_in_0 2 rfl)
theorem dX5_in_3 : decode cX5_in 3 = .ok (.ifCond .lt 14, 3) := od_155 (od_at tB_cX5_in_0 3 rfl) (od_at tB_cX5_in_0 4 rfl) (od_at tB_cX5_in_0 5 rfl) (by decide +kernel)
theorem dX5_in_6 : decode cX5_in 6 = .ok (.lload_n 0, 1) := od_30 (od_at tB_cX5_in_0 6 rfl)
theorem dX5_in_7 : decode cX5_in 7 = .ok (.lload 4, 2) := od_22 (od_at tB_cX5_in_0 7 rfl) (od_at tB_cX5_in_0 8 rfl) rfl
theorem dX5_in_9 : decode cX5_in 9 = .ok (.lcmp, 1) := od_148 (od_at tB_cX5_in_0 9 rfl)
theorem dX5_in_10 : decode cX5_in 10 = .ok (.ifCond .gt 7, 3) := od_157 (od_at tB_cX5_in_0 10 rfl) (od_at tB_cX5_in_0 11 rfl) (od_at tB_cX5_in_0 12 rfl) (by decide +kernel)
theorem dX5_in_13 : decode cX5_in 13 = .ok (.iconst 1, 1) := od_4 (od_at tB_cX5_in_0 13 rfl)
theorem dX5_in_14 : decode cX5_in 14 = .ok (.goto 4, 3) := od_167 (od_at tB_cX5_in_0 14 rfl) (od_at tB_cX5_in_0 15 rfl) (od_at tB_cX5_in_0 16 rfl) (by decide +kernel)
theorem dX5_in_17 : decode cX5_in 17 = .ok (.iconst 0, 1) := od_3 (od_at tB_cX5_in_1 1 rfl)
theorem dX5_in_18 : decode cX5_in 18 = .ok (.ireturn, 1) := od_172 (od_at tB_cX5_in_1 2 rfl)
def RB_cX5_lost_0 : List UInt8 := 0x14 :: 0x00 :: 0x57 :: 0xad :: []
theorem tB_cX5_lost_0 : cX5_lost.data.toList.drop 0 = RB_cX5_lost_0 := by decide +kernel
theorem dX5_lost_0 : decode cX5_lost 0 = .ok (.ldc2_w 87, 3) := od_20 (od_at tB_cX5_lost_0 0 rfl) (od_at tB_cX5_lost_0 1 rfl) (od_at tB_cX5_lost_0 2 rfl) rfl
theorem dX5_lost_3 : decode cX5_lost 3 = .ok (.lreturn, 1) := od_173 (od_at tB_cX5_lost_0 3 rfl)
def RB_cX5_refused_0 : List UInt8 := 0x2a :: 0x03 :: 0xb5 :: 0x00 :: 0x59 :: 0x1b :: 0xac :: []
theorem tB_cX5_refused_0 : cX5_refused.data.toList.drop 0 = RB_cX5_refused_0 := by decide +kernel
theorem dX5_refused_0 : decode cX5_refused 0 = .ok (.aload_n 0, 1) := od_42 (od_at tB_cX5_refused_0 0 rfl)
theorem dX5_refused_1 : decode cX5_refused 1 = .ok (.iconst 0, 1) := od_3 (od_at tB_cX5_refused_0 1 rfl)
theorem dX5_refused_2 : decode cX5_refused 2 = .ok (.putfield 89, 3) := od_181 (od_at tB_cX5_refused_0 2 rfl) (od_at tB_cX5_refused_0 3 rfl) (od_at tB_cX5_refused_0 4 rfl) rfl
theorem dX5_refused_5 : decode cX5_refused 5 = .ok (.iload_n 1, 1) := od_27 (od_at tB_cX5_refused_0 5 rfl)
theorem dX5_refused_6 : decode cX5_refused 6 = .ok (.ireturn, 1) := od_172 (od_at tB_cX5_refused_0 6 rfl)
def RB_cX5_failed_0 : List UInt8 := 0x2a :: 0x1b :: 0xb5 :: 0x00 :: 0x59 :: 0x10 :: 0xf6 :: 0x1b :: 0x64 :: 0xac :: []
theorem tB_cX5_failed_0 : cX5_failed.data.toList.drop 0 = RB_cX5_failed_0 := by decide +kernel
theorem dX5_failed_0 : decode cX5_failed 0 = .ok (.aload_n 0, 1) := od_42 (od_at tB_cX5_failed_0 0 rfl)
theorem dX5_failed_1 : decode cX5_failed 1 = .ok (.iload_n 1, 1) := od_27 (od_at tB_cX5_failed_0 1 rfl)
theorem dX5_failed_2 : decode cX5_failed 2 = .ok (.putfield 89, 3) := od_181 (od_at tB_cX5_failed_0 2 rfl) (od_at tB_cX5_failed_0 3 rfl) (od_at tB_cX5_failed_0 4 rfl) rfl
theorem dX5_failed_5 : decode cX5_failed 5 = .ok (.bipush (-10), 2) := od_16 (od_at tB_cX5_failed_0 5 rfl) (od_at tB_cX5_failed_0 6 rfl) (by decide +kernel)
theorem dX5_failed_7 : decode cX5_failed 7 = .ok (.iload_n 1, 1) := od_27 (od_at tB_cX5_failed_0 7 rfl)
theorem dX5_failed_8 : decode cX5_failed 8 = .ok (.isub, 1) := od_100 (od_at tB_cX5_failed_0 8 rfl)
theorem dX5_failed_9 : decode cX5_failed 9 = .ok (.ireturn, 1) := od_172 (od_at tB_cX5_failed_0 9 rfl)
def RB_cX5_failedLong_0 : List UInt8 := 0x2a :: 0x1b :: 0xb5 :: 0x00 :: 0x59 :: 0xb8 :: 0x00 :: 0x5c :: 0xad :: []
theorem tB_cX5_failedLong_0 : cX5_failedLong.data.toList.drop 0 = RB_cX5_failedLong_0 := by decide +kernel
theorem dX5_failedLong_0 : decode cX5_failedLong 0 = .ok (.aload_n 0, 1) := od_42 (od_at tB_cX5_failedLong_0 0 rfl)
theorem dX5_failedLong_1 : decode cX5_failedLong 1 = .ok (.iload_n 1, 1) := od_27 (od_at tB_cX5_failedLong_0 1 rfl)
theorem dX5_failedLong_2 : decode cX5_failedLong 2 = .ok (.putfield 89, 3) := od_181 (od_at tB_cX5_failedLong_0 2 rfl) (od_at tB_cX5_failedLong_0 3 rfl) (od_at tB_cX5_failedLong_0 4 rfl) rfl
theorem dX5_failedLong_5 : decode cX5_failedLong 5 = .ok (.invokestatic 92, 3) := od_184 (od_at tB_cX5_failedLong_0 5 rfl) (od_at tB_cX5_failedLong_0 6 rfl) (od_at tB_cX5_failedLong_0 7 rfl) rfl
theorem dX5_failedLong_8 : decode cX5_failedLong 8 = .ok (.lreturn, 1) := od_173 (od_at tB_cX5_failedLong_0 8 rfl)
def RB_cX5_rounded_0 : List UInt8 := 0x14 :: 0x00 :: 0x60 :: 0x1e :: 0x69 :: 0x20 :: 0x61 :: 0x14 :: 0x00 :: 0x60 :: 0x20 :: 0x69 :: 0x6d :: 0xad :: []
theorem tB_cX5_rounded_0 : cX5_rounded.data.toList.drop 0 = RB_cX5_rounded_0 := by decide +kernel
theorem dX5_rounded_0 : decode cX5_rounded 0 = .ok (.ldc2_w 96, 3) := od_20 (od_at tB_cX5_rounded_0 0 rfl) (od_at tB_cX5_rounded_0 1 rfl) (od_at tB_cX5_rounded_0 2 rfl) rfl
theorem dX5_rounded_3 : decode cX5_rounded 3 = .ok (.lload_n 0, 1) := od_30 (od_at tB_cX5_rounded_0 3 rfl)
theorem dX5_rounded_4 : decode cX5_rounded 4 = .ok (.lmul, 1) := od_105 (od_at tB_cX5_rounded_0 4 rfl)
theorem dX5_rounded_5 : decode cX5_rounded 5 = .ok (.lload_n 2, 1) := od_32 (od_at tB_cX5_rounded_0 5 rfl)
theorem dX5_rounded_6 : decode cX5_rounded 6 = .ok (.ladd, 1) := od_97 (od_at tB_cX5_rounded_0 6 rfl)
theorem dX5_rounded_7 : decode cX5_rounded 7 = .ok (.ldc2_w 96, 3) := od_20 (od_at tB_cX5_rounded_0 7 rfl) (od_at tB_cX5_rounded_0 8 rfl) (od_at tB_cX5_rounded_0 9 rfl) rfl
theorem dX5_rounded_10 : decode cX5_rounded 10 = .ok (.lload_n 2, 1) := od_32 (od_at tB_cX5_rounded_0 10 rfl)
theorem dX5_rounded_11 : decode cX5_rounded 11 = .ok (.lmul, 1) := od_105 (od_at tB_cX5_rounded_0 11 rfl)
theorem dX5_rounded_12 : decode cX5_rounded 12 = .ok (.ldiv, 1) := od_109 (od_at tB_cX5_rounded_0 12 rfl)
theorem dX5_rounded_13 : decode cX5_rounded 13 = .ok (.lreturn, 1) := od_173 (od_at tB_cX5_rounded_0 13 rfl)
def RB_cX5_noMeter_1 : List UInt8 := 0x04 :: 0xa7 :: 0x00 :: 0x04 :: 0x03 :: 0xac :: []
def RB_cX5_noMeter_0 : List UInt8 := 0x1b :: 0x85 :: 0x09 :: 0x2a :: 0xb4 :: 0x00 :: 0x62 :: 0x85 :: 0x0a :: 0x65 :: 0xb8 :: 0x00 :: 0x65 :: 0x9a :: 0x00 :: 0x07 :: RB_cX5_noMeter_1
theorem tB_cX5_noMeter_0 : cX5_noMeter.data.toList.drop 0 = RB_cX5_noMeter_0 := by decide +kernel
theorem tB_cX5_noMeter_1 : cX5_noMeter.data.toList.drop 16 = RB_cX5_noMeter_1 := od_st tB_cX5_noMeter_0 16 rfl
theorem dX5_noMeter_0 : decode cX5_noMeter 0 = .ok (.iload_n 1, 1) := od_27 (od_at tB_cX5_noMeter_0 0 rfl)
theorem dX5_noMeter_1 : decode cX5_noMeter 1 = .ok (.i2l, 1) := od_133 (od_at tB_cX5_noMeter_0 1 rfl)
theorem dX5_noMeter_2 : decode cX5_noMeter 2 = .ok (.lconst 0, 1) := od_9 (od_at tB_cX5_noMeter_0 2 rfl)
theorem dX5_noMeter_3 : decode cX5_noMeter 3 = .ok (.aload_n 0, 1) := od_42 (od_at tB_cX5_noMeter_0 3 rfl)
theorem dX5_noMeter_4 : decode cX5_noMeter 4 = .ok (.getfield 98, 3) := od_180 (od_at tB_cX5_noMeter_0 4 rfl) (od_at tB_cX5_noMeter_0 5 rfl) (od_at tB_cX5_noMeter_0 6 rfl) rfl
theorem dX5_noMeter_7 : decode cX5_noMeter 7 = .ok (.i2l, 1) := od_133 (od_at tB_cX5_noMeter_0 7 rfl)
theorem dX5_noMeter_8 : decode cX5_noMeter 8 = .ok (.lconst 1, 1) := od_10 (od_at tB_cX5_noMeter_0 8 rfl)
theorem dX5_noMeter_9 : decode cX5_noMeter 9 = .ok (.lsub, 1) := od_101 (od_at tB_cX5_noMeter_0 9 rfl)
theorem dX5_noMeter_10 : decode cX5_noMeter 10 = .ok (.invokestatic 101, 3) := od_184 (od_at tB_cX5_noMeter_0 10 rfl) (od_at tB_cX5_noMeter_0 11 rfl) (od_at tB_cX5_noMeter_0 12 rfl) rfl
theorem dX5_noMeter_13 : decode cX5_noMeter 13 = .ok (.ifCond .ne 7, 3) := od_154 (od_at tB_cX5_noMeter_0 13 rfl) (od_at tB_cX5_noMeter_0 14 rfl) (od_at tB_cX5_noMeter_0 15 rfl) (by decide +kernel)
theorem dX5_noMeter_16 : decode cX5_noMeter 16 = .ok (.iconst 1, 1) := od_4 (od_at tB_cX5_noMeter_1 0 rfl)
theorem dX5_noMeter_17 : decode cX5_noMeter 17 = .ok (.goto 4, 3) := od_167 (od_at tB_cX5_noMeter_1 1 rfl) (od_at tB_cX5_noMeter_1 2 rfl) (od_at tB_cX5_noMeter_1 3 rfl) (by decide +kernel)
theorem dX5_noMeter_20 : decode cX5_noMeter 20 = .ok (.iconst 0, 1) := od_3 (od_at tB_cX5_noMeter_1 4 rfl)
theorem dX5_noMeter_21 : decode cX5_noMeter 21 = .ok (.ireturn, 1) := od_172 (od_at tB_cX5_noMeter_1 5 rfl)
def RB_cX5_isDay_0 : List UInt8 := 0x1a :: 0x85 :: 0x09 :: 0x14 :: 0x00 :: 0x69 :: 0xb8 :: 0x00 :: 0x65 :: 0xac :: []
theorem tB_cX5_isDay_0 : cX5_isDay.data.toList.drop 0 = RB_cX5_isDay_0 := by decide +kernel
theorem dX5_isDay_0 : decode cX5_isDay 0 = .ok (.iload_n 0, 1) := od_26 (od_at tB_cX5_isDay_0 0 rfl)
theorem dX5_isDay_1 : decode cX5_isDay 1 = .ok (.i2l, 1) := od_133 (od_at tB_cX5_isDay_0 1 rfl)
theorem dX5_isDay_2 : decode cX5_isDay 2 = .ok (.lconst 0, 1) := od_9 (od_at tB_cX5_isDay_0 2 rfl)
theorem dX5_isDay_3 : decode cX5_isDay 3 = .ok (.ldc2_w 105, 3) := od_20 (od_at tB_cX5_isDay_0 3 rfl) (od_at tB_cX5_isDay_0 4 rfl) (od_at tB_cX5_isDay_0 5 rfl) rfl
theorem dX5_isDay_6 : decode cX5_isDay 6 = .ok (.invokestatic 101, 3) := od_184 (od_at tB_cX5_isDay_0 6 rfl) (od_at tB_cX5_isDay_0 7 rfl) (od_at tB_cX5_isDay_0 8 rfl) rfl
theorem dX5_isDay_9 : decode cX5_isDay 9 = .ok (.ireturn, 1) := od_172 (od_at tB_cX5_isDay_0 9 rfl)
def RB_cX5_isFlow_0 : List UInt8 := 0x1a :: 0x85 :: 0x0a :: 0x14 :: 0x00 :: 0x6b :: 0xb8 :: 0x00 :: 0x65 :: 0xac :: []
theorem tB_cX5_isFlow_0 : cX5_isFlow.data.toList.drop 0 = RB_cX5_isFlow_0 := by decide +kernel
theorem dX5_isFlow_0 : decode cX5_isFlow 0 = .ok (.iload_n 0, 1) := od_26 (od_at tB_cX5_isFlow_0 0 rfl)
theorem dX5_isFlow_1 : decode cX5_isFlow 1 = .ok (.i2l, 1) := od_133 (od_at tB_cX5_isFlow_0 1 rfl)
theorem dX5_isFlow_2 : decode cX5_isFlow 2 = .ok (.lconst 1, 1) := od_10 (od_at tB_cX5_isFlow_0 2 rfl)
theorem dX5_isFlow_3 : decode cX5_isFlow 3 = .ok (.ldc2_w 107, 3) := od_20 (od_at tB_cX5_isFlow_0 3 rfl) (od_at tB_cX5_isFlow_0 4 rfl) (od_at tB_cX5_isFlow_0 5 rfl) rfl
theorem dX5_isFlow_6 : decode cX5_isFlow 6 = .ok (.invokestatic 101, 3) := od_184 (od_at tB_cX5_isFlow_0 6 rfl) (od_at tB_cX5_isFlow_0 7 rfl) (od_at tB_cX5_isFlow_0 8 rfl) rfl
theorem dX5_isFlow_9 : decode cX5_isFlow 9 = .ok (.ireturn, 1) := od_172 (od_at tB_cX5_isFlow_0 9 rfl)
def RB_cX5_isNumber_0 : List UInt8 := 0x1e :: 0x14 :: 0x00 :: 0x6d :: 0x14 :: 0x00 :: 0x6f :: 0xb8 :: 0x00 :: 0x65 :: 0xac :: []
theorem tB_cX5_isNumber_0 : cX5_isNumber.data.toList.drop 0 = RB_cX5_isNumber_0 := by decide +kernel
theorem dX5_isNumber_0 : decode cX5_isNumber 0 = .ok (.lload_n 0, 1) := od_30 (od_at tB_cX5_isNumber_0 0 rfl)
theorem dX5_isNumber_1 : decode cX5_isNumber 1 = .ok (.ldc2_w 109, 3) := od_20 (od_at tB_cX5_isNumber_0 1 rfl) (od_at tB_cX5_isNumber_0 2 rfl) (od_at tB_cX5_isNumber_0 3 rfl) rfl
theorem dX5_isNumber_4 : decode cX5_isNumber 4 = .ok (.ldc2_w 111, 3) := od_20 (od_at tB_cX5_isNumber_0 4 rfl) (od_at tB_cX5_isNumber_0 5 rfl) (od_at tB_cX5_isNumber_0 6 rfl) rfl
theorem dX5_isNumber_7 : decode cX5_isNumber 7 = .ok (.invokestatic 101, 3) := od_184 (od_at tB_cX5_isNumber_0 7 rfl) (od_at tB_cX5_isNumber_0 8 rfl) (od_at tB_cX5_isNumber_0 9 rfl) rfl
theorem dX5_isNumber_10 : decode cX5_isNumber 10 = .ok (.ireturn, 1) := od_172 (od_at tB_cX5_isNumber_0 10 rfl)
def RB_cX5_meter_3 : List UInt8 := 0xb4 :: 0x00 :: 0x62 :: 0x04 :: 0x64 :: 0xac :: []
def RB_cX5_meter_2 : List UInt8 := 0xb4 :: 0x00 :: 0x62 :: 0x1b :: 0x4f :: 0x2a :: 0x59 :: 0xb4 :: 0x00 :: 0x62 :: 0x04 :: 0x60 :: 0xb5 :: 0x00 :: 0x62 :: 0x2a :: RB_cX5_meter_3
def RB_cX5_meter_1 : List UInt8 := 0xb4 :: 0x00 :: 0x62 :: 0x10 :: 0x06 :: 0xa0 :: 0x00 :: 0x06 :: 0x10 :: 0xfc :: 0xac :: 0x2a :: 0xb4 :: 0x00 :: 0x07 :: 0x2a :: RB_cX5_meter_2
def RB_cX5_meter_0 : List UInt8 := 0x1b :: 0x85 :: 0x0a :: 0x14 :: 0x00 :: 0x71 :: 0xb8 :: 0x00 :: 0x65 :: 0x9a :: 0x00 :: 0x06 :: 0x10 :: 0xfe :: 0xac :: 0x2a :: RB_cX5_meter_1
theorem tB_cX5_meter_0 : cX5_meter.data.toList.drop 0 = RB_cX5_meter_0 := by decide +kernel
theorem tB_cX5_meter_1 : cX5_meter.data.toList.drop 16 = RB_cX5_meter_1 := od_st tB_cX5_meter_0 16 rfl
theorem tB_cX5_meter_2 : cX5_meter.data.toList.drop 32 = RB_cX5_meter_2 := od_st tB_cX5_meter_1 16 rfl
theorem tB_cX5_meter_3 : cX5_meter.data.toList.drop 48 = RB_cX5_meter_3 := od_st tB_cX5_meter_2 16 rfl
theorem dX5_meter_0 : decode cX5_meter 0 = .ok (.iload_n 1, 1) := od_27 (od_at tB_cX5_meter_0 0 rfl)
theorem dX5_meter_1 : decode cX5_meter 1 = .ok (.i2l, 1) := od_133 (od_at tB_cX5_meter_0 1 rfl)
theorem dX5_meter_2 : decode cX5_meter 2 = .ok (.lconst 1, 1) := od_10 (od_at tB_cX5_meter_0 2 rfl)
theorem dX5_meter_3 : decode cX5_meter 3 = .ok (.ldc2_w 113, 3) := od_20 (od_at tB_cX5_meter_0 3 rfl) (od_at tB_cX5_meter_0 4 rfl) (od_at tB_cX5_meter_0 5 rfl) rfl
theorem dX5_meter_6 : decode cX5_meter 6 = .ok (.invokestatic 101, 3) := od_184 (od_at tB_cX5_meter_0 6 rfl) (od_at tB_cX5_meter_0 7 rfl) (od_at tB_cX5_meter_0 8 rfl) rfl
theorem dX5_meter_9 : decode cX5_meter 9 = .ok (.ifCond .ne 6, 3) := od_154 (od_at tB_cX5_meter_0 9 rfl) (od_at tB_cX5_meter_0 10 rfl) (od_at tB_cX5_meter_0 11 rfl) (by decide +kernel)
theorem dX5_meter_12 : decode cX5_meter 12 = .ok (.bipush (-2), 2) := od_16 (od_at tB_cX5_meter_0 12 rfl) (od_at tB_cX5_meter_0 13 rfl) (by decide +kernel)
theorem dX5_meter_14 : decode cX5_meter 14 = .ok (.ireturn, 1) := od_172 (od_at tB_cX5_meter_0 14 rfl)
theorem dX5_meter_15 : decode cX5_meter 15 = .ok (.aload_n 0, 1) := od_42 (od_at tB_cX5_meter_0 15 rfl)
theorem dX5_meter_16 : decode cX5_meter 16 = .ok (.getfield 98, 3) := od_180 (od_at tB_cX5_meter_1 0 rfl) (od_at tB_cX5_meter_1 1 rfl) (od_at tB_cX5_meter_1 2 rfl) rfl
theorem dX5_meter_19 : decode cX5_meter 19 = .ok (.bipush 6, 2) := od_16 (od_at tB_cX5_meter_1 3 rfl) (od_at tB_cX5_meter_1 4 rfl) (by decide +kernel)
theorem dX5_meter_21 : decode cX5_meter 21 = .ok (.if_icmp .ne 6, 3) := od_160 (od_at tB_cX5_meter_1 5 rfl) (od_at tB_cX5_meter_1 6 rfl) (od_at tB_cX5_meter_1 7 rfl) (by decide +kernel)
theorem dX5_meter_24 : decode cX5_meter 24 = .ok (.bipush (-4), 2) := od_16 (od_at tB_cX5_meter_1 8 rfl) (od_at tB_cX5_meter_1 9 rfl) (by decide +kernel)
theorem dX5_meter_26 : decode cX5_meter 26 = .ok (.ireturn, 1) := od_172 (od_at tB_cX5_meter_1 10 rfl)
theorem dX5_meter_27 : decode cX5_meter 27 = .ok (.aload_n 0, 1) := od_42 (od_at tB_cX5_meter_1 11 rfl)
theorem dX5_meter_28 : decode cX5_meter 28 = .ok (.getfield 7, 3) := od_180 (od_at tB_cX5_meter_1 12 rfl) (od_at tB_cX5_meter_1 13 rfl) (od_at tB_cX5_meter_1 14 rfl) rfl
theorem dX5_meter_31 : decode cX5_meter 31 = .ok (.aload_n 0, 1) := od_42 (od_at tB_cX5_meter_1 15 rfl)
theorem dX5_meter_32 : decode cX5_meter 32 = .ok (.getfield 98, 3) := od_180 (od_at tB_cX5_meter_2 0 rfl) (od_at tB_cX5_meter_2 1 rfl) (od_at tB_cX5_meter_2 2 rfl) rfl
theorem dX5_meter_35 : decode cX5_meter 35 = .ok (.iload_n 1, 1) := od_27 (od_at tB_cX5_meter_2 3 rfl)
theorem dX5_meter_36 : decode cX5_meter 36 = .ok (.iastore, 1) := od_79 (od_at tB_cX5_meter_2 4 rfl)
theorem dX5_meter_37 : decode cX5_meter 37 = .ok (.aload_n 0, 1) := od_42 (od_at tB_cX5_meter_2 5 rfl)
theorem dX5_meter_38 : decode cX5_meter 38 = .ok (.dup, 1) := od_89 (od_at tB_cX5_meter_2 6 rfl)
theorem dX5_meter_39 : decode cX5_meter 39 = .ok (.getfield 98, 3) := od_180 (od_at tB_cX5_meter_2 7 rfl) (od_at tB_cX5_meter_2 8 rfl) (od_at tB_cX5_meter_2 9 rfl) rfl
theorem dX5_meter_42 : decode cX5_meter 42 = .ok (.iconst 1, 1) := od_4 (od_at tB_cX5_meter_2 10 rfl)
theorem dX5_meter_43 : decode cX5_meter 43 = .ok (.iadd, 1) := od_96 (od_at tB_cX5_meter_2 11 rfl)
theorem dX5_meter_44 : decode cX5_meter 44 = .ok (.putfield 98, 3) := od_181 (od_at tB_cX5_meter_2 12 rfl) (od_at tB_cX5_meter_2 13 rfl) (od_at tB_cX5_meter_2 14 rfl) rfl
theorem dX5_meter_47 : decode cX5_meter 47 = .ok (.aload_n 0, 1) := od_42 (od_at tB_cX5_meter_2 15 rfl)
theorem dX5_meter_48 : decode cX5_meter 48 = .ok (.getfield 98, 3) := od_180 (od_at tB_cX5_meter_3 0 rfl) (od_at tB_cX5_meter_3 1 rfl) (od_at tB_cX5_meter_3 2 rfl) rfl
theorem dX5_meter_51 : decode cX5_meter 51 = .ok (.iconst 1, 1) := od_4 (od_at tB_cX5_meter_3 3 rfl)
theorem dX5_meter_52 : decode cX5_meter 52 = .ok (.isub, 1) := od_100 (od_at tB_cX5_meter_3 4 rfl)
theorem dX5_meter_53 : decode cX5_meter 53 = .ok (.ireturn, 1) := od_172 (od_at tB_cX5_meter_3 5 rfl)
def RB_cX5_addFactor_3 : List UInt8 := 0xb1 :: []
def RB_cX5_addFactor_2 : List UInt8 := 0x16 :: 0x15 :: 0x05 :: 0x15 :: 0x04 :: 0x4f :: 0x2a :: 0xb4 :: 0x00 :: 0x0d :: 0x1b :: 0x5c :: 0x2e :: 0x04 :: 0x60 :: 0x4f :: RB_cX5_addFactor_3
def RB_cX5_addFactor_1 : List UInt8 := 0x10 :: 0x15 :: 0x05 :: 0x1c :: 0x4f :: 0x2a :: 0xb4 :: 0x00 :: 0x13 :: 0x15 :: 0x05 :: 0x1d :: 0x4f :: 0x2a :: 0xb4 :: 0x00 :: RB_cX5_addFactor_2
def RB_cX5_addFactor_0 : List UInt8 := 0x10 :: 0x0c :: 0x1b :: 0x68 :: 0x2a :: 0xb4 :: 0x00 :: 0x0d :: 0x1b :: 0x2e :: 0x60 :: 0x36 :: 0x05 :: 0x2a :: 0xb4 :: 0x00 :: RB_cX5_addFactor_1
theorem tB_cX5_addFactor_0 : cX5_addFactor.data.toList.drop 0 = RB_cX5_addFactor_0 := by decide +kernel
theorem tB_cX5_addFactor_1 : cX5_addFactor.data.toList.drop 16 = RB_cX5_addFactor_1 := od_st tB_cX5_addFactor_0 16 rfl
theorem tB_cX5_addFactor_2 : cX5_addFactor.data.toList.drop 32 = RB_cX5_addFactor_2 := od_st tB_cX5_addFactor_1 16 rfl
theorem tB_cX5_addFactor_3 : cX5_addFactor.data.toList.drop 48 = RB_cX5_addFactor_3 := od_st tB_cX5_addFactor_2 16 rfl
theorem dX5_addFactor_0 : decode cX5_addFactor 0 = .ok (.bipush 12, 2) := od_16 (od_at tB_cX5_addFactor_0 0 rfl) (od_at tB_cX5_addFactor_0 1 rfl) (by decide +kernel)
theorem dX5_addFactor_2 : decode cX5_addFactor 2 = .ok (.iload_n 1, 1) := od_27 (od_at tB_cX5_addFactor_0 2 rfl)
theorem dX5_addFactor_3 : decode cX5_addFactor 3 = .ok (.imul, 1) := od_104 (od_at tB_cX5_addFactor_0 3 rfl)
theorem dX5_addFactor_4 : decode cX5_addFactor 4 = .ok (.aload_n 0, 1) := od_42 (od_at tB_cX5_addFactor_0 4 rfl)
theorem dX5_addFactor_5 : decode cX5_addFactor 5 = .ok (.getfield 13, 3) := od_180 (od_at tB_cX5_addFactor_0 5 rfl) (od_at tB_cX5_addFactor_0 6 rfl) (od_at tB_cX5_addFactor_0 7 rfl) rfl
theorem dX5_addFactor_8 : decode cX5_addFactor 8 = .ok (.iload_n 1, 1) := od_27 (od_at tB_cX5_addFactor_0 8 rfl)
theorem dX5_addFactor_9 : decode cX5_addFactor 9 = .ok (.iaload, 1) := od_46 (od_at tB_cX5_addFactor_0 9 rfl)
theorem dX5_addFactor_10 : decode cX5_addFactor 10 = .ok (.iadd, 1) := od_96 (od_at tB_cX5_addFactor_0 10 rfl)
theorem dX5_addFactor_11 : decode cX5_addFactor 11 = .ok (.istore 5, 2) := od_54 (od_at tB_cX5_addFactor_0 11 rfl) (od_at tB_cX5_addFactor_0 12 rfl) rfl
theorem dX5_addFactor_13 : decode cX5_addFactor 13 = .ok (.aload_n 0, 1) := od_42 (od_at tB_cX5_addFactor_0 13 rfl)
theorem dX5_addFactor_14 : decode cX5_addFactor 14 = .ok (.getfield 16, 3) := od_180 (od_at tB_cX5_addFactor_0 14 rfl) (od_at tB_cX5_addFactor_0 15 rfl) (od_at tB_cX5_addFactor_0 16 rfl) rfl
theorem dX5_addFactor_17 : decode cX5_addFactor 17 = .ok (.iload 5, 2) := od_21 (od_at tB_cX5_addFactor_1 1 rfl) (od_at tB_cX5_addFactor_1 2 rfl) rfl
theorem dX5_addFactor_19 : decode cX5_addFactor 19 = .ok (.iload_n 2, 1) := od_28 (od_at tB_cX5_addFactor_1 3 rfl)
theorem dX5_addFactor_20 : decode cX5_addFactor 20 = .ok (.iastore, 1) := od_79 (od_at tB_cX5_addFactor_1 4 rfl)
theorem dX5_addFactor_21 : decode cX5_addFactor 21 = .ok (.aload_n 0, 1) := od_42 (od_at tB_cX5_addFactor_1 5 rfl)
theorem dX5_addFactor_22 : decode cX5_addFactor 22 = .ok (.getfield 19, 3) := od_180 (od_at tB_cX5_addFactor_1 6 rfl) (od_at tB_cX5_addFactor_1 7 rfl) (od_at tB_cX5_addFactor_1 8 rfl) rfl
theorem dX5_addFactor_25 : decode cX5_addFactor 25 = .ok (.iload 5, 2) := od_21 (od_at tB_cX5_addFactor_1 9 rfl) (od_at tB_cX5_addFactor_1 10 rfl) rfl
theorem dX5_addFactor_27 : decode cX5_addFactor 27 = .ok (.iload_n 3, 1) := od_29 (od_at tB_cX5_addFactor_1 11 rfl)
theorem dX5_addFactor_28 : decode cX5_addFactor 28 = .ok (.iastore, 1) := od_79 (od_at tB_cX5_addFactor_1 12 rfl)
theorem dX5_addFactor_29 : decode cX5_addFactor 29 = .ok (.aload_n 0, 1) := od_42 (od_at tB_cX5_addFactor_1 13 rfl)
theorem dX5_addFactor_30 : decode cX5_addFactor 30 = .ok (.getfield 22, 3) := od_180 (od_at tB_cX5_addFactor_1 14 rfl) (od_at tB_cX5_addFactor_1 15 rfl) (od_at tB_cX5_addFactor_1 16 rfl) rfl
theorem dX5_addFactor_33 : decode cX5_addFactor 33 = .ok (.iload 5, 2) := od_21 (od_at tB_cX5_addFactor_2 1 rfl) (od_at tB_cX5_addFactor_2 2 rfl) rfl
theorem dX5_addFactor_35 : decode cX5_addFactor 35 = .ok (.iload 4, 2) := od_21 (od_at tB_cX5_addFactor_2 3 rfl) (od_at tB_cX5_addFactor_2 4 rfl) rfl
theorem dX5_addFactor_37 : decode cX5_addFactor 37 = .ok (.iastore, 1) := od_79 (od_at tB_cX5_addFactor_2 5 rfl)
theorem dX5_addFactor_38 : decode cX5_addFactor 38 = .ok (.aload_n 0, 1) := od_42 (od_at tB_cX5_addFactor_2 6 rfl)
theorem dX5_addFactor_39 : decode cX5_addFactor 39 = .ok (.getfield 13, 3) := od_180 (od_at tB_cX5_addFactor_2 7 rfl) (od_at tB_cX5_addFactor_2 8 rfl) (od_at tB_cX5_addFactor_2 9 rfl) rfl
theorem dX5_addFactor_42 : decode cX5_addFactor 42 = .ok (.iload_n 1, 1) := od_27 (od_at tB_cX5_addFactor_2 10 rfl)
theorem dX5_addFactor_43 : decode cX5_addFactor 43 = .ok (.dup2, 1) := od_92 (od_at tB_cX5_addFactor_2 11 rfl)
theorem dX5_addFactor_44 : decode cX5_addFactor 44 = .ok (.iaload, 1) := od_46 (od_at tB_cX5_addFactor_2 12 rfl)
theorem dX5_addFactor_45 : decode cX5_addFactor 45 = .ok (.iconst 1, 1) := od_4 (od_at tB_cX5_addFactor_2 13 rfl)
theorem dX5_addFactor_46 : decode cX5_addFactor 46 = .ok (.iadd, 1) := od_96 (od_at tB_cX5_addFactor_2 14 rfl)
theorem dX5_addFactor_47 : decode cX5_addFactor 47 = .ok (.iastore, 1) := od_79 (od_at tB_cX5_addFactor_2 15 rfl)
theorem dX5_addFactor_48 : decode cX5_addFactor 48 = .ok (.return_, 1) := od_177 (od_at tB_cX5_addFactor_3 0 rfl)
def RB_cX5_factor_4 : List UInt8 := 0x2e :: 0xac :: []
def RB_cX5_factor_3 : List UInt8 := 0xfc :: 0xac :: 0x2a :: 0x1b :: 0x1c :: 0x1d :: 0x15 :: 0x04 :: 0xb6 :: 0x00 :: 0x81 :: 0x2a :: 0xb4 :: 0x00 :: 0x0d :: 0x1b :: RB_cX5_factor_4
def RB_cX5_factor_2 : List UInt8 := 0x06 :: 0x10 :: 0xfe :: 0xac :: 0x2a :: 0xb4 :: 0x00 :: 0x0d :: 0x1b :: 0x2e :: 0x10 :: 0x0c :: 0xa0 :: 0x00 :: 0x06 :: 0x10 :: RB_cX5_factor_3
def RB_cX5_factor_1 : List UInt8 := 0x13 :: 0x1d :: 0xb8 :: 0x00 :: 0x7a :: 0x99 :: 0x00 :: 0x0c :: 0x15 :: 0x04 :: 0x85 :: 0xb8 :: 0x00 :: 0x7d :: 0x9a :: 0x00 :: RB_cX5_factor_2
def RB_cX5_factor_0 : List UInt8 := 0x2a :: 0x1b :: 0xb6 :: 0x00 :: 0x73 :: 0x99 :: 0x00 :: 0x05 :: 0x02 :: 0xac :: 0x1c :: 0xb8 :: 0x00 :: 0x77 :: 0x99 :: 0x00 :: RB_cX5_factor_1
theorem tB_cX5_factor_0 : cX5_factor.data.toList.drop 0 = RB_cX5_factor_0 := by decide +kernel
theorem tB_cX5_factor_1 : cX5_factor.data.toList.drop 16 = RB_cX5_factor_1 := od_st tB_cX5_factor_0 16 rfl
theorem tB_cX5_factor_2 : cX5_factor.data.toList.drop 32 = RB_cX5_factor_2 := od_st tB_cX5_factor_1 16 rfl
theorem tB_cX5_factor_3 : cX5_factor.data.toList.drop 48 = RB_cX5_factor_3 := od_st tB_cX5_factor_2 16 rfl
theorem tB_cX5_factor_4 : cX5_factor.data.toList.drop 64 = RB_cX5_factor_4 := od_st tB_cX5_factor_3 16 rfl
theorem dX5_factor_0 : decode cX5_factor 0 = .ok (.aload_n 0, 1) := od_42 (od_at tB_cX5_factor_0 0 rfl)
theorem dX5_factor_1 : decode cX5_factor 1 = .ok (.iload_n 1, 1) := od_27 (od_at tB_cX5_factor_0 1 rfl)
theorem dX5_factor_2 : decode cX5_factor 2 = .ok (.invokevirtual 115, 3) := od_182 (od_at tB_cX5_factor_0 2 rfl) (od_at tB_cX5_factor_0 3 rfl) (od_at tB_cX5_factor_0 4 rfl) rfl
theorem dX5_factor_5 : decode cX5_factor 5 = .ok (.ifCond .eq 5, 3) := od_153 (od_at tB_cX5_factor_0 5 rfl) (od_at tB_cX5_factor_0 6 rfl) (od_at tB_cX5_factor_0 7 rfl) (by decide +kernel)
theorem dX5_factor_8 : decode cX5_factor 8 = .ok (.iconst (-1), 1) := od_2 (od_at tB_cX5_factor_0 8 rfl)
theorem dX5_factor_9 : decode cX5_factor 9 = .ok (.ireturn, 1) := od_172 (od_at tB_cX5_factor_0 9 rfl)
theorem dX5_factor_10 : decode cX5_factor 10 = .ok (.iload_n 2, 1) := od_28 (od_at tB_cX5_factor_0 10 rfl)
theorem dX5_factor_11 : decode cX5_factor 11 = .ok (.invokestatic 119, 3) := od_184 (od_at tB_cX5_factor_0 11 rfl) (od_at tB_cX5_factor_0 12 rfl) (od_at tB_cX5_factor_0 13 rfl) rfl
theorem dX5_factor_14 : decode cX5_factor 14 = .ok (.ifCond .eq 19, 3) := od_153 (od_at tB_cX5_factor_0 14 rfl) (od_at tB_cX5_factor_0 15 rfl) (od_at tB_cX5_factor_0 16 rfl) (by decide +kernel)
theorem dX5_factor_17 : decode cX5_factor 17 = .ok (.iload_n 3, 1) := od_29 (od_at tB_cX5_factor_1 1 rfl)
theorem dX5_factor_18 : decode cX5_factor 18 = .ok (.invokestatic 122, 3) := od_184 (od_at tB_cX5_factor_1 2 rfl) (od_at tB_cX5_factor_1 3 rfl) (od_at tB_cX5_factor_1 4 rfl) rfl
theorem dX5_factor_21 : decode cX5_factor 21 = .ok (.ifCond .eq 12, 3) := od_153 (od_at tB_cX5_factor_1 5 rfl) (od_at tB_cX5_factor_1 6 rfl) (od_at tB_cX5_factor_1 7 rfl) (by decide +kernel)
theorem dX5_factor_24 : decode cX5_factor 24 = .ok (.iload 4, 2) := od_21 (od_at tB_cX5_factor_1 8 rfl) (od_at tB_cX5_factor_1 9 rfl) rfl
theorem dX5_factor_26 : decode cX5_factor 26 = .ok (.i2l, 1) := od_133 (od_at tB_cX5_factor_1 10 rfl)
theorem dX5_factor_27 : decode cX5_factor 27 = .ok (.invokestatic 125, 3) := od_184 (od_at tB_cX5_factor_1 11 rfl) (od_at tB_cX5_factor_1 12 rfl) (od_at tB_cX5_factor_1 13 rfl) rfl
theorem dX5_factor_30 : decode cX5_factor 30 = .ok (.ifCond .ne 6, 3) := od_154 (od_at tB_cX5_factor_1 14 rfl) (od_at tB_cX5_factor_1 15 rfl) (od_at tB_cX5_factor_1 16 rfl) (by decide +kernel)
theorem dX5_factor_33 : decode cX5_factor 33 = .ok (.bipush (-2), 2) := od_16 (od_at tB_cX5_factor_2 1 rfl) (od_at tB_cX5_factor_2 2 rfl) (by decide +kernel)
theorem dX5_factor_35 : decode cX5_factor 35 = .ok (.ireturn, 1) := od_172 (od_at tB_cX5_factor_2 3 rfl)
theorem dX5_factor_36 : decode cX5_factor 36 = .ok (.aload_n 0, 1) := od_42 (od_at tB_cX5_factor_2 4 rfl)
theorem dX5_factor_37 : decode cX5_factor 37 = .ok (.getfield 13, 3) := od_180 (od_at tB_cX5_factor_2 5 rfl) (od_at tB_cX5_factor_2 6 rfl) (od_at tB_cX5_factor_2 7 rfl) rfl
theorem dX5_factor_40 : decode cX5_factor 40 = .ok (.iload_n 1, 1) := od_27 (od_at tB_cX5_factor_2 8 rfl)
theorem dX5_factor_41 : decode cX5_factor 41 = .ok (.iaload, 1) := od_46 (od_at tB_cX5_factor_2 9 rfl)
theorem dX5_factor_42 : decode cX5_factor 42 = .ok (.bipush 12, 2) := od_16 (od_at tB_cX5_factor_2 10 rfl) (od_at tB_cX5_factor_2 11 rfl) (by decide +kernel)
theorem dX5_factor_44 : decode cX5_factor 44 = .ok (.if_icmp .ne 6, 3) := od_160 (od_at tB_cX5_factor_2 12 rfl) (od_at tB_cX5_factor_2 13 rfl) (od_at tB_cX5_factor_2 14 rfl) (by decide +kernel)
theorem dX5_factor_47 : decode cX5_factor 47 = .ok (.bipush (-4), 2) := od_16 (od_at tB_cX5_factor_2 15 rfl) (od_at tB_cX5_factor_2 16 rfl) (by decide +kernel)
theorem dX5_factor_49 : decode cX5_factor 49 = .ok (.ireturn, 1) := od_172 (od_at tB_cX5_factor_3 1 rfl)
theorem dX5_factor_50 : decode cX5_factor 50 = .ok (.aload_n 0, 1) := od_42 (od_at tB_cX5_factor_3 2 rfl)
theorem dX5_factor_51 : decode cX5_factor 51 = .ok (.iload_n 1, 1) := od_27 (od_at tB_cX5_factor_3 3 rfl)
theorem dX5_factor_52 : decode cX5_factor 52 = .ok (.iload_n 2, 1) := od_28 (od_at tB_cX5_factor_3 4 rfl)
theorem dX5_factor_53 : decode cX5_factor 53 = .ok (.iload_n 3, 1) := od_29 (od_at tB_cX5_factor_3 5 rfl)
theorem dX5_factor_54 : decode cX5_factor 54 = .ok (.iload 4, 2) := od_21 (od_at tB_cX5_factor_3 6 rfl) (od_at tB_cX5_factor_3 7 rfl) rfl
theorem dX5_factor_56 : decode cX5_factor 56 = .ok (.invokevirtual 129, 3) := od_182 (od_at tB_cX5_factor_3 8 rfl) (od_at tB_cX5_factor_3 9 rfl) (od_at tB_cX5_factor_3 10 rfl) rfl
theorem dX5_factor_59 : decode cX5_factor 59 = .ok (.aload_n 0, 1) := od_42 (od_at tB_cX5_factor_3 11 rfl)
theorem dX5_factor_60 : decode cX5_factor 60 = .ok (.getfield 13, 3) := od_180 (od_at tB_cX5_factor_3 12 rfl) (od_at tB_cX5_factor_3 13 rfl) (od_at tB_cX5_factor_3 14 rfl) rfl
theorem dX5_factor_63 : decode cX5_factor 63 = .ok (.iload_n 1, 1) := od_27 (od_at tB_cX5_factor_3 15 rfl)
theorem dX5_factor_64 : decode cX5_factor 64 = .ok (.iaload, 1) := od_46 (od_at tB_cX5_factor_4 0 rfl)
theorem dX5_factor_65 : decode cX5_factor 65 = .ok (.ireturn, 1) := od_172 (od_at tB_cX5_factor_4 1 rfl)
def RB_cX5_findCurve_2 : List UInt8 := 0xa3 :: 0x00 :: 0x08 :: 0x2a :: 0x1d :: 0xb6 :: 0x00 :: 0x88 :: 0x84 :: 0x03 :: 0x01 :: 0xa7 :: 0xff :: 0xdf :: 0xb1 :: []
def RB_cX5_findCurve_1 : List UInt8 := 0xb4 :: 0x00 :: 0x0d :: 0x1b :: 0x2e :: 0x60 :: 0xa2 :: 0x00 :: 0x18 :: 0x2a :: 0xb4 :: 0x00 :: 0x13 :: 0x1d :: 0x2e :: 0x1c :: RB_cX5_findCurve_2
def RB_cX5_findCurve_0 : List UInt8 := 0x2a :: 0x03 :: 0xb5 :: 0x00 :: 0x85 :: 0x10 :: 0x0c :: 0x1b :: 0x68 :: 0x3e :: 0x1d :: 0x10 :: 0x0c :: 0x1b :: 0x68 :: 0x2a :: RB_cX5_findCurve_1
theorem tB_cX5_findCurve_0 : cX5_findCurve.data.toList.drop 0 = RB_cX5_findCurve_0 := by decide +kernel
theorem tB_cX5_findCurve_1 : cX5_findCurve.data.toList.drop 16 = RB_cX5_findCurve_1 := od_st tB_cX5_findCurve_0 16 rfl
theorem tB_cX5_findCurve_2 : cX5_findCurve.data.toList.drop 32 = RB_cX5_findCurve_2 := od_st tB_cX5_findCurve_1 16 rfl
theorem dX5_findCurve_0 : decode cX5_findCurve 0 = .ok (.aload_n 0, 1) := od_42 (od_at tB_cX5_findCurve_0 0 rfl)
theorem dX5_findCurve_1 : decode cX5_findCurve 1 = .ok (.iconst 0, 1) := od_3 (od_at tB_cX5_findCurve_0 1 rfl)
theorem dX5_findCurve_2 : decode cX5_findCurve 2 = .ok (.putfield 133, 3) := od_181 (od_at tB_cX5_findCurve_0 2 rfl) (od_at tB_cX5_findCurve_0 3 rfl) (od_at tB_cX5_findCurve_0 4 rfl) rfl
theorem dX5_findCurve_5 : decode cX5_findCurve 5 = .ok (.bipush 12, 2) := od_16 (od_at tB_cX5_findCurve_0 5 rfl) (od_at tB_cX5_findCurve_0 6 rfl) (by decide +kernel)
theorem dX5_findCurve_7 : decode cX5_findCurve 7 = .ok (.iload_n 1, 1) := od_27 (od_at tB_cX5_findCurve_0 7 rfl)
theorem dX5_findCurve_8 : decode cX5_findCurve 8 = .ok (.imul, 1) := od_104 (od_at tB_cX5_findCurve_0 8 rfl)
theorem dX5_findCurve_9 : decode cX5_findCurve 9 = .ok (.istore_n 3, 1) := od_62 (od_at tB_cX5_findCurve_0 9 rfl)
theorem dX5_findCurve_10 : decode cX5_findCurve 10 = .ok (.iload_n 3, 1) := od_29 (od_at tB_cX5_findCurve_0 10 rfl)
theorem dX5_findCurve_11 : decode cX5_findCurve 11 = .ok (.bipush 12, 2) := od_16 (od_at tB_cX5_findCurve_0 11 rfl) (od_at tB_cX5_findCurve_0 12 rfl) (by decide +kernel)
theorem dX5_findCurve_13 : decode cX5_findCurve 13 = .ok (.iload_n 1, 1) := od_27 (od_at tB_cX5_findCurve_0 13 rfl)
theorem dX5_findCurve_14 : decode cX5_findCurve 14 = .ok (.imul, 1) := od_104 (od_at tB_cX5_findCurve_0 14 rfl)
theorem dX5_findCurve_15 : decode cX5_findCurve 15 = .ok (.aload_n 0, 1) := od_42 (od_at tB_cX5_findCurve_0 15 rfl)
theorem dX5_findCurve_16 : decode cX5_findCurve 16 = .ok (.getfield 13, 3) := od_180 (od_at tB_cX5_findCurve_1 0 rfl) (od_at tB_cX5_findCurve_1 1 rfl) (od_at tB_cX5_findCurve_1 2 rfl) rfl
theorem dX5_findCurve_19 : decode cX5_findCurve 19 = .ok (.iload_n 1, 1) := od_27 (od_at tB_cX5_findCurve_1 3 rfl)
theorem dX5_findCurve_20 : decode cX5_findCurve 20 = .ok (.iaload, 1) := od_46 (od_at tB_cX5_findCurve_1 4 rfl)
theorem dX5_findCurve_21 : decode cX5_findCurve 21 = .ok (.iadd, 1) := od_96 (od_at tB_cX5_findCurve_1 5 rfl)
theorem dX5_findCurve_22 : decode cX5_findCurve 22 = .ok (.if_icmp .ge 24, 3) := od_162 (od_at tB_cX5_findCurve_1 6 rfl) (od_at tB_cX5_findCurve_1 7 rfl) (od_at tB_cX5_findCurve_1 8 rfl) (by decide +kernel)
theorem dX5_findCurve_25 : decode cX5_findCurve 25 = .ok (.aload_n 0, 1) := od_42 (od_at tB_cX5_findCurve_1 9 rfl)
theorem dX5_findCurve_26 : decode cX5_findCurve 26 = .ok (.getfield 19, 3) := od_180 (od_at tB_cX5_findCurve_1 10 rfl) (od_at tB_cX5_findCurve_1 11 rfl) (od_at tB_cX5_findCurve_1 12 rfl) rfl
theorem dX5_findCurve_29 : decode cX5_findCurve 29 = .ok (.iload_n 3, 1) := od_29 (od_at tB_cX5_findCurve_1 13 rfl)
theorem dX5_findCurve_30 : decode cX5_findCurve 30 = .ok (.iaload, 1) := od_46 (od_at tB_cX5_findCurve_1 14 rfl)
theorem dX5_findCurve_31 : decode cX5_findCurve 31 = .ok (.iload_n 2, 1) := od_28 (od_at tB_cX5_findCurve_1 15 rfl)
theorem dX5_findCurve_32 : decode cX5_findCurve 32 = .ok (.if_icmp .gt 8, 3) := od_163 (od_at tB_cX5_findCurve_2 0 rfl) (od_at tB_cX5_findCurve_2 1 rfl) (od_at tB_cX5_findCurve_2 2 rfl) (by decide +kernel)
theorem dX5_findCurve_35 : decode cX5_findCurve 35 = .ok (.aload_n 0, 1) := od_42 (od_at tB_cX5_findCurve_2 3 rfl)
theorem dX5_findCurve_36 : decode cX5_findCurve 36 = .ok (.iload_n 3, 1) := od_29 (od_at tB_cX5_findCurve_2 4 rfl)
theorem dX5_findCurve_37 : decode cX5_findCurve 37 = .ok (.invokevirtual 136, 3) := od_182 (od_at tB_cX5_findCurve_2 5 rfl) (od_at tB_cX5_findCurve_2 6 rfl) (od_at tB_cX5_findCurve_2 7 rfl) rfl
theorem dX5_findCurve_40 : decode cX5_findCurve 40 = .ok (.iinc 3 1, 3) := od_132 (od_at tB_cX5_findCurve_2 8 rfl) (od_at tB_cX5_findCurve_2 9 rfl) (od_at tB_cX5_findCurve_2 10 rfl) rfl (by decide +kernel)
theorem dX5_findCurve_43 : decode cX5_findCurve 43 = .ok (.goto (-33), 3) := od_167 (od_at tB_cX5_findCurve_2 11 rfl) (od_at tB_cX5_findCurve_2 12 rfl) (od_at tB_cX5_findCurve_2 13 rfl) (by decide +kernel)
theorem dX5_findCurve_46 : decode cX5_findCurve 46 = .ok (.return_, 1) := od_177 (od_at tB_cX5_findCurve_2 14 rfl)
def RB_cX5_addPoint_12 : List UInt8 := 0x99 :: 0x00 :: 0x07 :: 0x03 :: 0xa7 :: 0x00 :: 0x04 :: 0x04 :: 0x60 :: 0xb5 :: 0x00 :: 0x85 :: 0xb1 :: []
def RB_cX5_addPoint_11 : List UInt8 := 0x00 :: 0x22 :: 0x1c :: 0x2a :: 0xb4 :: 0x00 :: 0x13 :: 0x1b :: 0x2e :: 0x4f :: 0x2a :: 0x59 :: 0xb4 :: 0x00 :: 0x85 :: 0x1d :: RB_cX5_addPoint_12
def RB_cX5_addPoint_10 : List UInt8 := 0x2e :: 0x4f :: 0x2a :: 0xb4 :: 0x00 :: 0x1f :: 0x1c :: 0x2a :: 0xb4 :: 0x00 :: 0x16 :: 0x1b :: 0x2e :: 0x4f :: 0x2a :: 0xb4 :: RB_cX5_addPoint_11
def RB_cX5_addPoint_9 : List UInt8 := 0x84 :: 0x04 :: 0xff :: 0xa7 :: 0xff :: 0xc3 :: 0x2a :: 0xb4 :: 0x00 :: 0x1c :: 0x1c :: 0x2a :: 0xb4 :: 0x00 :: 0x10 :: 0x1b :: RB_cX5_addPoint_10
def RB_cX5_addPoint_8 : List UInt8 := 0x2a :: 0xb4 :: 0x00 :: 0x22 :: 0x15 :: 0x04 :: 0x2a :: 0xb4 :: 0x00 :: 0x22 :: 0x15 :: 0x04 :: 0x04 :: 0x64 :: 0x2e :: 0x4f :: RB_cX5_addPoint_9
def RB_cX5_addPoint_7 : List UInt8 := 0x2a :: 0xb4 :: 0x00 :: 0x1f :: 0x15 :: 0x04 :: 0x2a :: 0xb4 :: 0x00 :: 0x1f :: 0x15 :: 0x04 :: 0x04 :: 0x64 :: 0x2e :: 0x4f :: RB_cX5_addPoint_8
def RB_cX5_addPoint_6 : List UInt8 := 0x2a :: 0xb4 :: 0x00 :: 0x1c :: 0x15 :: 0x04 :: 0x2a :: 0xb4 :: 0x00 :: 0x1c :: 0x15 :: 0x04 :: 0x04 :: 0x64 :: 0x2e :: 0x4f :: RB_cX5_addPoint_7
def RB_cX5_addPoint_5 : List UInt8 := 0x2a :: 0xb4 :: 0x00 :: 0x85 :: 0x36 :: 0x04 :: 0x15 :: 0x04 :: 0x1c :: 0xa4 :: 0x00 :: 0x3d :: 0x1d :: 0x9a :: 0x00 :: 0x39 :: RB_cX5_addPoint_6
def RB_cX5_addPoint_4 : List UInt8 := 0x2a :: 0xb4 :: 0x00 :: 0x22 :: 0x1c :: 0x2e :: 0x2a :: 0xb4 :: 0x00 :: 0x13 :: 0x1b :: 0x2e :: 0xa4 :: 0x00 :: 0x04 :: 0xb1 :: RB_cX5_addPoint_5
def RB_cX5_addPoint_3 : List UInt8 := 0x10 :: 0x1b :: 0x2e :: 0xa0 :: 0x00 :: 0x07 :: 0x04 :: 0xa7 :: 0x00 :: 0x04 :: 0x03 :: 0x3e :: 0x1d :: 0x99 :: 0x00 :: 0x13 :: RB_cX5_addPoint_4
def RB_cX5_addPoint_2 : List UInt8 := 0x2a :: 0xb4 :: 0x00 :: 0x85 :: 0xa2 :: 0x00 :: 0x16 :: 0x2a :: 0xb4 :: 0x00 :: 0x1c :: 0x1c :: 0x2e :: 0x2a :: 0xb4 :: 0x00 :: RB_cX5_addPoint_3
def RB_cX5_addPoint_1 : List UInt8 := 0x2a :: 0xb4 :: 0x00 :: 0x10 :: 0x1b :: 0x2e :: 0xa2 :: 0x00 :: 0x09 :: 0x84 :: 0x02 :: 0x01 :: 0xa7 :: 0xff :: 0xe6 :: 0x1c :: RB_cX5_addPoint_2
def RB_cX5_addPoint_0 : List UInt8 := 0x03 :: 0x3d :: 0x1c :: 0x2a :: 0xb4 :: 0x00 :: 0x85 :: 0xa2 :: 0x00 :: 0x18 :: 0x2a :: 0xb4 :: 0x00 :: 0x1c :: 0x1c :: 0x2e :: RB_cX5_addPoint_1
theorem tB_cX5_addPoint_0 : cX5_addPoint.data.toList.drop 0 = RB_cX5_addPoint_0 := by decide +kernel
theorem tB_cX5_addPoint_1 : cX5_addPoint.data.toList.drop 16 = RB_cX5_addPoint_1 := od_st tB_cX5_addPoint_0 16 rfl
theorem tB_cX5_addPoint_2 : cX5_addPoint.data.toList.drop 32 = RB_cX5_addPoint_2 := od_st tB_cX5_addPoint_1 16 rfl
theorem tB_cX5_addPoint_3 : cX5_addPoint.data.toList.drop 48 = RB_cX5_addPoint_3 := od_st tB_cX5_addPoint_2 16 rfl
theorem tB_cX5_addPoint_4 : cX5_addPoint.data.toList.drop 64 = RB_cX5_addPoint_4 := od_st tB_cX5_addPoint_3 16 rfl
theorem tB_cX5_addPoint_5 : cX5_addPoint.data.toList.drop 80 = RB_cX5_addPoint_5 := od_st tB_cX5_addPoint_4 16 rfl
theorem tB_cX5_addPoint_6 : cX5_addPoint.data.toList.drop 96 = RB_cX5_addPoint_6 := od_st tB_cX5_addPoint_5 16 rfl
theorem tB_cX5_addPoint_7 : cX5_addPoint.data.toList.drop 112 = RB_cX5_addPoint_7 := od_st tB_cX5_addPoint_6 16 rfl
theorem tB_cX5_addPoint_8 : cX5_addPoint.data.toList.drop 128 = RB_cX5_addPoint_8 := od_st tB_cX5_addPoint_7 16 rfl
theorem tB_cX5_addPoint_9 : cX5_addPoint.data.toList.drop 144 = RB_cX5_addPoint_9 := od_st tB_cX5_addPoint_8 16 rfl
theorem tB_cX5_addPoint_10 : cX5_addPoint.data.toList.drop 160 = RB_cX5_addPoint_10 := od_st tB_cX5_addPoint_9 16 rfl
theorem tB_cX5_addPoint_11 : cX5_addPoint.data.toList.drop 176 = RB_cX5_addPoint_11 := od_st tB_cX5_addPoint_10 16 rfl
theorem tB_cX5_addPoint_12 : cX5_addPoint.data.toList.drop 192 = RB_cX5_addPoint_12 := od_st tB_cX5_addPoint_11 16 rfl
theorem dX5_addPoint_0 : decode cX5_addPoint 0 = .ok (.iconst 0, 1) := od_3 (od_at tB_cX5_addPoint_0 0 rfl)
theorem dX5_addPoint_1 : decode cX5_addPoint 1 = .ok (.istore_n 2, 1) := od_61 (od_at tB_cX5_addPoint_0 1 rfl)
theorem dX5_addPoint_2 : decode cX5_addPoint 2 = .ok (.iload_n 2, 1) := od_28 (od_at tB_cX5_addPoint_0 2 rfl)
theorem dX5_addPoint_3 : decode cX5_addPoint 3 = .ok (.aload_n 0, 1) := od_42 (od_at tB_cX5_addPoint_0 3 rfl)
theorem dX5_addPoint_4 : decode cX5_addPoint 4 = .ok (.getfield 133, 3) := od_180 (od_at tB_cX5_addPoint_0 4 rfl) (od_at tB_cX5_addPoint_0 5 rfl) (od_at tB_cX5_addPoint_0 6 rfl) rfl
theorem dX5_addPoint_7 : decode cX5_addPoint 7 = .ok (.if_icmp .ge 24, 3) := od_162 (od_at tB_cX5_addPoint_0 7 rfl) (od_at tB_cX5_addPoint_0 8 rfl) (od_at tB_cX5_addPoint_0 9 rfl) (by decide +kernel)
theorem dX5_addPoint_10 : decode cX5_addPoint 10 = .ok (.aload_n 0, 1) := od_42 (od_at tB_cX5_addPoint_0 10 rfl)
theorem dX5_addPoint_11 : decode cX5_addPoint 11 = .ok (.getfield 28, 3) := od_180 (od_at tB_cX5_addPoint_0 11 rfl) (od_at tB_cX5_addPoint_0 12 rfl) (od_at tB_cX5_addPoint_0 13 rfl) rfl
theorem dX5_addPoint_14 : decode cX5_addPoint 14 = .ok (.iload_n 2, 1) := od_28 (od_at tB_cX5_addPoint_0 14 rfl)
theorem dX5_addPoint_15 : decode cX5_addPoint 15 = .ok (.iaload, 1) := od_46 (od_at tB_cX5_addPoint_0 15 rfl)
theorem dX5_addPoint_16 : decode cX5_addPoint 16 = .ok (.aload_n 0, 1) := od_42 (od_at tB_cX5_addPoint_1 0 rfl)
theorem dX5_addPoint_17 : decode cX5_addPoint 17 = .ok (.getfield 16, 3) := od_180 (od_at tB_cX5_addPoint_1 1 rfl) (od_at tB_cX5_addPoint_1 2 rfl) (od_at tB_cX5_addPoint_1 3 rfl) rfl
theorem dX5_addPoint_20 : decode cX5_addPoint 20 = .ok (.iload_n 1, 1) := od_27 (od_at tB_cX5_addPoint_1 4 rfl)
theorem dX5_addPoint_21 : decode cX5_addPoint 21 = .ok (.iaload, 1) := od_46 (od_at tB_cX5_addPoint_1 5 rfl)
theorem dX5_addPoint_22 : decode cX5_addPoint 22 = .ok (.if_icmp .ge 9, 3) := od_162 (od_at tB_cX5_addPoint_1 6 rfl) (od_at tB_cX5_addPoint_1 7 rfl) (od_at tB_cX5_addPoint_1 8 rfl) (by decide +kernel)
theorem dX5_addPoint_25 : decode cX5_addPoint 25 = .ok (.iinc 2 1, 3) := od_132 (od_at tB_cX5_addPoint_1 9 rfl) (od_at tB_cX5_addPoint_1 10 rfl) (od_at tB_cX5_addPoint_1 11 rfl) rfl (by decide +kernel)
theorem dX5_addPoint_28 : decode cX5_addPoint 28 = .ok (.goto (-26), 3) := od_167 (od_at tB_cX5_addPoint_1 12 rfl) (od_at tB_cX5_addPoint_1 13 rfl) (od_at tB_cX5_addPoint_1 14 rfl) (by decide +kernel)
theorem dX5_addPoint_31 : decode cX5_addPoint 31 = .ok (.iload_n 2, 1) := od_28 (od_at tB_cX5_addPoint_1 15 rfl)
theorem dX5_addPoint_32 : decode cX5_addPoint 32 = .ok (.aload_n 0, 1) := od_42 (od_at tB_cX5_addPoint_2 0 rfl)
theorem dX5_addPoint_33 : decode cX5_addPoint 33 = .ok (.getfield 133, 3) := od_180 (od_at tB_cX5_addPoint_2 1 rfl) (od_at tB_cX5_addPoint_2 2 rfl) (od_at tB_cX5_addPoint_2 3 rfl) rfl
theorem dX5_addPoint_36 : decode cX5_addPoint 36 = .ok (.if_icmp .ge 22, 3) := od_162 (od_at tB_cX5_addPoint_2 4 rfl) (od_at tB_cX5_addPoint_2 5 rfl) (od_at tB_cX5_addPoint_2 6 rfl) (by decide +kernel)
theorem dX5_addPoint_39 : decode cX5_addPoint 39 = .ok (.aload_n 0, 1) := od_42 (od_at tB_cX5_addPoint_2 7 rfl)
theorem dX5_addPoint_40 : decode cX5_addPoint 40 = .ok (.getfield 28, 3) := od_180 (od_at tB_cX5_addPoint_2 8 rfl) (od_at tB_cX5_addPoint_2 9 rfl) (od_at tB_cX5_addPoint_2 10 rfl) rfl
theorem dX5_addPoint_43 : decode cX5_addPoint 43 = .ok (.iload_n 2, 1) := od_28 (od_at tB_cX5_addPoint_2 11 rfl)
theorem dX5_addPoint_44 : decode cX5_addPoint 44 = .ok (.iaload, 1) := od_46 (od_at tB_cX5_addPoint_2 12 rfl)
theorem dX5_addPoint_45 : decode cX5_addPoint 45 = .ok (.aload_n 0, 1) := od_42 (od_at tB_cX5_addPoint_2 13 rfl)
theorem dX5_addPoint_46 : decode cX5_addPoint 46 = .ok (.getfield 16, 3) := od_180 (od_at tB_cX5_addPoint_2 14 rfl) (od_at tB_cX5_addPoint_2 15 rfl) (od_at tB_cX5_addPoint_2 16 rfl) rfl
theorem dX5_addPoint_49 : decode cX5_addPoint 49 = .ok (.iload_n 1, 1) := od_27 (od_at tB_cX5_addPoint_3 1 rfl)
theorem dX5_addPoint_50 : decode cX5_addPoint 50 = .ok (.iaload, 1) := od_46 (od_at tB_cX5_addPoint_3 2 rfl)
theorem dX5_addPoint_51 : decode cX5_addPoint 51 = .ok (.if_icmp .ne 7, 3) := od_160 (od_at tB_cX5_addPoint_3 3 rfl) (od_at tB_cX5_addPoint_3 4 rfl) (od_at tB_cX5_addPoint_3 5 rfl) (by decide +kernel)
theorem dX5_addPoint_54 : decode cX5_addPoint 54 = .ok (.iconst 1, 1) := od_4 (od_at tB_cX5_addPoint_3 6 rfl)
theorem dX5_addPoint_55 : decode cX5_addPoint 55 = .ok (.goto 4, 3) := od_167 (od_at tB_cX5_addPoint_3 7 rfl) (od_at tB_cX5_addPoint_3 8 rfl) (od_at tB_cX5_addPoint_3 9 rfl) (by decide +kernel)
theorem dX5_addPoint_58 : decode cX5_addPoint 58 = .ok (.iconst 0, 1) := od_3 (od_at tB_cX5_addPoint_3 10 rfl)
theorem dX5_addPoint_59 : decode cX5_addPoint 59 = .ok (.istore_n 3, 1) := od_62 (od_at tB_cX5_addPoint_3 11 rfl)
theorem dX5_addPoint_60 : decode cX5_addPoint 60 = .ok (.iload_n 3, 1) := od_29 (od_at tB_cX5_addPoint_3 12 rfl)
theorem dX5_addPoint_61 : decode cX5_addPoint 61 = .ok (.ifCond .eq 19, 3) := od_153 (od_at tB_cX5_addPoint_3 13 rfl) (od_at tB_cX5_addPoint_3 14 rfl) (od_at tB_cX5_addPoint_3 15 rfl) (by decide +kernel)
theorem dX5_addPoint_64 : decode cX5_addPoint 64 = .ok (.aload_n 0, 1) := od_42 (od_at tB_cX5_addPoint_4 0 rfl)
theorem dX5_addPoint_65 : decode cX5_addPoint 65 = .ok (.getfield 34, 3) := od_180 (od_at tB_cX5_addPoint_4 1 rfl) (od_at tB_cX5_addPoint_4 2 rfl) (od_at tB_cX5_addPoint_4 3 rfl) rfl
theorem dX5_addPoint_68 : decode cX5_addPoint 68 = .ok (.iload_n 2, 1) := od_28 (od_at tB_cX5_addPoint_4 4 rfl)
theorem dX5_addPoint_69 : decode cX5_addPoint 69 = .ok (.iaload, 1) := od_46 (od_at tB_cX5_addPoint_4 5 rfl)
theorem dX5_addPoint_70 : decode cX5_addPoint 70 = .ok (.aload_n 0, 1) := od_42 (od_at tB_cX5_addPoint_4 6 rfl)
theorem dX5_addPoint_71 : decode cX5_addPoint 71 = .ok (.getfield 19, 3) := od_180 (od_at tB_cX5_addPoint_4 7 rfl) (od_at tB_cX5_addPoint_4 8 rfl) (od_at tB_cX5_addPoint_4 9 rfl) rfl
theorem dX5_addPoint_74 : decode cX5_addPoint 74 = .ok (.iload_n 1, 1) := od_27 (od_at tB_cX5_addPoint_4 10 rfl)
theorem dX5_addPoint_75 : decode cX5_addPoint 75 = .ok (.iaload, 1) := od_46 (od_at tB_cX5_addPoint_4 11 rfl)
theorem dX5_addPoint_76 : decode cX5_addPoint 76 = .ok (.if_icmp .le 4, 3) := od_164 (od_at tB_cX5_addPoint_4 12 rfl) (od_at tB_cX5_addPoint_4 13 rfl) (od_at tB_cX5_addPoint_4 14 rfl) (by decide +kernel)
theorem dX5_addPoint_79 : decode cX5_addPoint 79 = .ok (.return_, 1) := od_177 (od_at tB_cX5_addPoint_4 15 rfl)
theorem dX5_addPoint_80 : decode cX5_addPoint 80 = .ok (.aload_n 0, 1) := od_42 (od_at tB_cX5_addPoint_5 0 rfl)
theorem dX5_addPoint_81 : decode cX5_addPoint 81 = .ok (.getfield 133, 3) := od_180 (od_at tB_cX5_addPoint_5 1 rfl) (od_at tB_cX5_addPoint_5 2 rfl) (od_at tB_cX5_addPoint_5 3 rfl) rfl
theorem dX5_addPoint_84 : decode cX5_addPoint 84 = .ok (.istore 4, 2) := od_54 (od_at tB_cX5_addPoint_5 4 rfl) (od_at tB_cX5_addPoint_5 5 rfl) rfl
theorem dX5_addPoint_86 : decode cX5_addPoint 86 = .ok (.iload 4, 2) := od_21 (od_at tB_cX5_addPoint_5 6 rfl) (od_at tB_cX5_addPoint_5 7 rfl) rfl
theorem dX5_addPoint_88 : decode cX5_addPoint 88 = .ok (.iload_n 2, 1) := od_28 (od_at tB_cX5_addPoint_5 8 rfl)
theorem dX5_addPoint_89 : decode cX5_addPoint 89 = .ok (.if_icmp .le 61, 3) := od_164 (od_at tB_cX5_addPoint_5 9 rfl) (od_at tB_cX5_addPoint_5 10 rfl) (od_at tB_cX5_addPoint_5 11 rfl) (by decide +kernel)
theorem dX5_addPoint_92 : decode cX5_addPoint 92 = .ok (.iload_n 3, 1) := od_29 (od_at tB_cX5_addPoint_5 12 rfl)
theorem dX5_addPoint_93 : decode cX5_addPoint 93 = .ok (.ifCond .ne 57, 3) := od_154 (od_at tB_cX5_addPoint_5 13 rfl) (od_at tB_cX5_addPoint_5 14 rfl) (od_at tB_cX5_addPoint_5 15 rfl) (by decide +kernel)
theorem dX5_addPoint_96 : decode cX5_addPoint 96 = .ok (.aload_n 0, 1) := od_42 (od_at tB_cX5_addPoint_6 0 rfl)
theorem dX5_addPoint_97 : decode cX5_addPoint 97 = .ok (.getfield 28, 3) := od_180 (od_at tB_cX5_addPoint_6 1 rfl) (od_at tB_cX5_addPoint_6 2 rfl) (od_at tB_cX5_addPoint_6 3 rfl) rfl
theorem dX5_addPoint_100 : decode cX5_addPoint 100 = .ok (.iload 4, 2) := od_21 (od_at tB_cX5_addPoint_6 4 rfl) (od_at tB_cX5_addPoint_6 5 rfl) rfl
theorem dX5_addPoint_102 : decode cX5_addPoint 102 = .ok (.aload_n 0, 1) := od_42 (od_at tB_cX5_addPoint_6 6 rfl)
theorem dX5_addPoint_103 : decode cX5_addPoint 103 = .ok (.getfield 28, 3) := od_180 (od_at tB_cX5_addPoint_6 7 rfl) (od_at tB_cX5_addPoint_6 8 rfl) (od_at tB_cX5_addPoint_6 9 rfl) rfl
theorem dX5_addPoint_106 : decode cX5_addPoint 106 = .ok (.iload 4, 2) := od_21 (od_at tB_cX5_addPoint_6 10 rfl) (od_at tB_cX5_addPoint_6 11 rfl) rfl
theorem dX5_addPoint_108 : decode cX5_addPoint 108 = .ok (.iconst 1, 1) := od_4 (od_at tB_cX5_addPoint_6 12 rfl)
theorem dX5_addPoint_109 : decode cX5_addPoint 109 = .ok (.isub, 1) := od_100 (od_at tB_cX5_addPoint_6 13 rfl)
theorem dX5_addPoint_110 : decode cX5_addPoint 110 = .ok (.iaload, 1) := od_46 (od_at tB_cX5_addPoint_6 14 rfl)
theorem dX5_addPoint_111 : decode cX5_addPoint 111 = .ok (.iastore, 1) := od_79 (od_at tB_cX5_addPoint_6 15 rfl)
theorem dX5_addPoint_112 : decode cX5_addPoint 112 = .ok (.aload_n 0, 1) := od_42 (od_at tB_cX5_addPoint_7 0 rfl)
theorem dX5_addPoint_113 : decode cX5_addPoint 113 = .ok (.getfield 31, 3) := od_180 (od_at tB_cX5_addPoint_7 1 rfl) (od_at tB_cX5_addPoint_7 2 rfl) (od_at tB_cX5_addPoint_7 3 rfl) rfl
theorem dX5_addPoint_116 : decode cX5_addPoint 116 = .ok (.iload 4, 2) := od_21 (od_at tB_cX5_addPoint_7 4 rfl) (od_at tB_cX5_addPoint_7 5 rfl) rfl
theorem dX5_addPoint_118 : decode cX5_addPoint 118 = .ok (.aload_n 0, 1) := od_42 (od_at tB_cX5_addPoint_7 6 rfl)
theorem dX5_addPoint_119 : decode cX5_addPoint 119 = .ok (.getfield 31, 3) := od_180 (od_at tB_cX5_addPoint_7 7 rfl) (od_at tB_cX5_addPoint_7 8 rfl) (od_at tB_cX5_addPoint_7 9 rfl) rfl
theorem dX5_addPoint_122 : decode cX5_addPoint 122 = .ok (.iload 4, 2) := od_21 (od_at tB_cX5_addPoint_7 10 rfl) (od_at tB_cX5_addPoint_7 11 rfl) rfl
theorem dX5_addPoint_124 : decode cX5_addPoint 124 = .ok (.iconst 1, 1) := od_4 (od_at tB_cX5_addPoint_7 12 rfl)
theorem dX5_addPoint_125 : decode cX5_addPoint 125 = .ok (.isub, 1) := od_100 (od_at tB_cX5_addPoint_7 13 rfl)
theorem dX5_addPoint_126 : decode cX5_addPoint 126 = .ok (.iaload, 1) := od_46 (od_at tB_cX5_addPoint_7 14 rfl)
theorem dX5_addPoint_127 : decode cX5_addPoint 127 = .ok (.iastore, 1) := od_79 (od_at tB_cX5_addPoint_7 15 rfl)
theorem dX5_addPoint_128 : decode cX5_addPoint 128 = .ok (.aload_n 0, 1) := od_42 (od_at tB_cX5_addPoint_8 0 rfl)
theorem dX5_addPoint_129 : decode cX5_addPoint 129 = .ok (.getfield 34, 3) := od_180 (od_at tB_cX5_addPoint_8 1 rfl) (od_at tB_cX5_addPoint_8 2 rfl) (od_at tB_cX5_addPoint_8 3 rfl) rfl
theorem dX5_addPoint_132 : decode cX5_addPoint 132 = .ok (.iload 4, 2) := od_21 (od_at tB_cX5_addPoint_8 4 rfl) (od_at tB_cX5_addPoint_8 5 rfl) rfl
theorem dX5_addPoint_134 : decode cX5_addPoint 134 = .ok (.aload_n 0, 1) := od_42 (od_at tB_cX5_addPoint_8 6 rfl)
theorem dX5_addPoint_135 : decode cX5_addPoint 135 = .ok (.getfield 34, 3) := od_180 (od_at tB_cX5_addPoint_8 7 rfl) (od_at tB_cX5_addPoint_8 8 rfl) (od_at tB_cX5_addPoint_8 9 rfl) rfl
theorem dX5_addPoint_138 : decode cX5_addPoint 138 = .ok (.iload 4, 2) := od_21 (od_at tB_cX5_addPoint_8 10 rfl) (od_at tB_cX5_addPoint_8 11 rfl) rfl
theorem dX5_addPoint_140 : decode cX5_addPoint 140 = .ok (.iconst 1, 1) := od_4 (od_at tB_cX5_addPoint_8 12 rfl)
theorem dX5_addPoint_141 : decode cX5_addPoint 141 = .ok (.isub, 1) := od_100 (od_at tB_cX5_addPoint_8 13 rfl)
theorem dX5_addPoint_142 : decode cX5_addPoint 142 = .ok (.iaload, 1) := od_46 (od_at tB_cX5_addPoint_8 14 rfl)
theorem dX5_addPoint_143 : decode cX5_addPoint 143 = .ok (.iastore, 1) := od_79 (od_at tB_cX5_addPoint_8 15 rfl)
theorem dX5_addPoint_144 : decode cX5_addPoint 144 = .ok (.iinc 4 (-1), 3) := od_132 (od_at tB_cX5_addPoint_9 0 rfl) (od_at tB_cX5_addPoint_9 1 rfl) (od_at tB_cX5_addPoint_9 2 rfl) rfl (by decide +kernel)
theorem dX5_addPoint_147 : decode cX5_addPoint 147 = .ok (.goto (-61), 3) := od_167 (od_at tB_cX5_addPoint_9 3 rfl) (od_at tB_cX5_addPoint_9 4 rfl) (od_at tB_cX5_addPoint_9 5 rfl) (by decide +kernel)
theorem dX5_addPoint_150 : decode cX5_addPoint 150 = .ok (.aload_n 0, 1) := od_42 (od_at tB_cX5_addPoint_9 6 rfl)
theorem dX5_addPoint_151 : decode cX5_addPoint 151 = .ok (.getfield 28, 3) := od_180 (od_at tB_cX5_addPoint_9 7 rfl) (od_at tB_cX5_addPoint_9 8 rfl) (od_at tB_cX5_addPoint_9 9 rfl) rfl
theorem dX5_addPoint_154 : decode cX5_addPoint 154 = .ok (.iload_n 2, 1) := od_28 (od_at tB_cX5_addPoint_9 10 rfl)
theorem dX5_addPoint_155 : decode cX5_addPoint 155 = .ok (.aload_n 0, 1) := od_42 (od_at tB_cX5_addPoint_9 11 rfl)
theorem dX5_addPoint_156 : decode cX5_addPoint 156 = .ok (.getfield 16, 3) := od_180 (od_at tB_cX5_addPoint_9 12 rfl) (od_at tB_cX5_addPoint_9 13 rfl) (od_at tB_cX5_addPoint_9 14 rfl) rfl
theorem dX5_addPoint_159 : decode cX5_addPoint 159 = .ok (.iload_n 1, 1) := od_27 (od_at tB_cX5_addPoint_9 15 rfl)
theorem dX5_addPoint_160 : decode cX5_addPoint 160 = .ok (.iaload, 1) := od_46 (od_at tB_cX5_addPoint_10 0 rfl)
theorem dX5_addPoint_161 : decode cX5_addPoint 161 = .ok (.iastore, 1) := od_79 (od_at tB_cX5_addPoint_10 1 rfl)
theorem dX5_addPoint_162 : decode cX5_addPoint 162 = .ok (.aload_n 0, 1) := od_42 (od_at tB_cX5_addPoint_10 2 rfl)
theorem dX5_addPoint_163 : decode cX5_addPoint 163 = .ok (.getfield 31, 3) := od_180 (od_at tB_cX5_addPoint_10 3 rfl) (od_at tB_cX5_addPoint_10 4 rfl) (od_at tB_cX5_addPoint_10 5 rfl) rfl
theorem dX5_addPoint_166 : decode cX5_addPoint 166 = .ok (.iload_n 2, 1) := od_28 (od_at tB_cX5_addPoint_10 6 rfl)
theorem dX5_addPoint_167 : decode cX5_addPoint 167 = .ok (.aload_n 0, 1) := od_42 (od_at tB_cX5_addPoint_10 7 rfl)
theorem dX5_addPoint_168 : decode cX5_addPoint 168 = .ok (.getfield 22, 3) := od_180 (od_at tB_cX5_addPoint_10 8 rfl) (od_at tB_cX5_addPoint_10 9 rfl) (od_at tB_cX5_addPoint_10 10 rfl) rfl
theorem dX5_addPoint_171 : decode cX5_addPoint 171 = .ok (.iload_n 1, 1) := od_27 (od_at tB_cX5_addPoint_10 11 rfl)
theorem dX5_addPoint_172 : decode cX5_addPoint 172 = .ok (.iaload, 1) := od_46 (od_at tB_cX5_addPoint_10 12 rfl)
theorem dX5_addPoint_173 : decode cX5_addPoint 173 = .ok (.iastore, 1) := od_79 (od_at tB_cX5_addPoint_10 13 rfl)
theorem dX5_addPoint_174 : decode cX5_addPoint 174 = .ok (.aload_n 0, 1) := od_42 (od_at tB_cX5_addPoint_10 14 rfl)
theorem dX5_addPoint_175 : decode cX5_addPoint 175 = .ok (.getfield 34, 3) := od_180 (od_at tB_cX5_addPoint_10 15 rfl) (od_at tB_cX5_addPoint_10 16 rfl) (od_at tB_cX5_addPoint_10 17 rfl) rfl
theorem dX5_addPoint_178 : decode cX5_addPoint 178 = .ok (.iload_n 2, 1) := od_28 (od_at tB_cX5_addPoint_11 2 rfl)
theorem dX5_addPoint_179 : decode cX5_addPoint 179 = .ok (.aload_n 0, 1) := od_42 (od_at tB_cX5_addPoint_11 3 rfl)
theorem dX5_addPoint_180 : decode cX5_addPoint 180 = .ok (.getfield 19, 3) := od_180 (od_at tB_cX5_addPoint_11 4 rfl) (od_at tB_cX5_addPoint_11 5 rfl) (od_at tB_cX5_addPoint_11 6 rfl) rfl
theorem dX5_addPoint_183 : decode cX5_addPoint 183 = .ok (.iload_n 1, 1) := od_27 (od_at tB_cX5_addPoint_11 7 rfl)
theorem dX5_addPoint_184 : decode cX5_addPoint 184 = .ok (.iaload, 1) := od_46 (od_at tB_cX5_addPoint_11 8 rfl)
theorem dX5_addPoint_185 : decode cX5_addPoint 185 = .ok (.iastore, 1) := od_79 (od_at tB_cX5_addPoint_11 9 rfl)
theorem dX5_addPoint_186 : decode cX5_addPoint 186 = .ok (.aload_n 0, 1) := od_42 (od_at tB_cX5_addPoint_11 10 rfl)
theorem dX5_addPoint_187 : decode cX5_addPoint 187 = .ok (.dup, 1) := od_89 (od_at tB_cX5_addPoint_11 11 rfl)
theorem dX5_addPoint_188 : decode cX5_addPoint 188 = .ok (.getfield 133, 3) := od_180 (od_at tB_cX5_addPoint_11 12 rfl) (od_at tB_cX5_addPoint_11 13 rfl) (od_at tB_cX5_addPoint_11 14 rfl) rfl
theorem dX5_addPoint_191 : decode cX5_addPoint 191 = .ok (.iload_n 3, 1) := od_29 (od_at tB_cX5_addPoint_11 15 rfl)
theorem dX5_addPoint_192 : decode cX5_addPoint 192 = .ok (.ifCond .eq 7, 3) := od_153 (od_at tB_cX5_addPoint_12 0 rfl) (od_at tB_cX5_addPoint_12 1 rfl) (od_at tB_cX5_addPoint_12 2 rfl) (by decide +kernel)
theorem dX5_addPoint_195 : decode cX5_addPoint 195 = .ok (.iconst 0, 1) := od_3 (od_at tB_cX5_addPoint_12 3 rfl)
theorem dX5_addPoint_196 : decode cX5_addPoint 196 = .ok (.goto 4, 3) := od_167 (od_at tB_cX5_addPoint_12 4 rfl) (od_at tB_cX5_addPoint_12 5 rfl) (od_at tB_cX5_addPoint_12 6 rfl) (by decide +kernel)
theorem dX5_addPoint_199 : decode cX5_addPoint 199 = .ok (.iconst 1, 1) := od_4 (od_at tB_cX5_addPoint_12 7 rfl)
theorem dX5_addPoint_200 : decode cX5_addPoint 200 = .ok (.iadd, 1) := od_96 (od_at tB_cX5_addPoint_12 8 rfl)
theorem dX5_addPoint_201 : decode cX5_addPoint 201 = .ok (.putfield 133, 3) := od_181 (od_at tB_cX5_addPoint_12 9 rfl) (od_at tB_cX5_addPoint_12 10 rfl) (od_at tB_cX5_addPoint_12 11 rfl) rfl
theorem dX5_addPoint_204 : decode cX5_addPoint 204 = .ok (.return_, 1) := od_177 (od_at tB_cX5_addPoint_12 12 rfl)
def RB_cX5_factorAt_9 : List UInt8 := 0x6d :: 0x61 :: 0x88 :: 0xac :: []
def RB_cX5_factorAt_8 : List UInt8 := 0x85 :: 0x16 :: 0x05 :: 0x65 :: 0x69 :: 0x2a :: 0xb4 :: 0x00 :: 0x1c :: 0x15 :: 0x04 :: 0x2e :: 0x85 :: 0x16 :: 0x05 :: 0x65 :: RB_cX5_factorAt_9
def RB_cX5_factorAt_7 : List UInt8 := 0x37 :: 0x07 :: 0x16 :: 0x07 :: 0x2a :: 0xb4 :: 0x00 :: 0x1f :: 0x15 :: 0x04 :: 0x2e :: 0x85 :: 0x16 :: 0x07 :: 0x65 :: 0x1c :: RB_cX5_factorAt_8
def RB_cX5_factorAt_6 : List UInt8 := 0x04 :: 0x64 :: 0x2e :: 0x85 :: 0x37 :: 0x05 :: 0x2a :: 0xb4 :: 0x00 :: 0x1f :: 0x15 :: 0x04 :: 0x04 :: 0x64 :: 0x2e :: 0x85 :: RB_cX5_factorAt_7
def RB_cX5_factorAt_5 : List UInt8 := 0x00 :: 0x0b :: 0x2a :: 0xb4 :: 0x00 :: 0x1f :: 0x15 :: 0x04 :: 0x2e :: 0xac :: 0x2a :: 0xb4 :: 0x00 :: 0x1c :: 0x15 :: 0x04 :: RB_cX5_factorAt_6
def RB_cX5_factorAt_4 : List UInt8 := 0x2e :: 0xac :: 0x15 :: 0x04 :: 0x99 :: 0x00 :: 0x0e :: 0x2a :: 0xb4 :: 0x00 :: 0x1c :: 0x15 :: 0x04 :: 0x2e :: 0x1c :: 0xa0 :: RB_cX5_factorAt_5
def RB_cX5_factorAt_3 : List UInt8 := 0xb4 :: 0x00 :: 0x85 :: 0xa0 :: 0x00 :: 0x0f :: 0x2a :: 0xb4 :: 0x00 :: 0x1f :: 0x2a :: 0xb4 :: 0x00 :: 0x85 :: 0x04 :: 0x64 :: RB_cX5_factorAt_4
def RB_cX5_factorAt_2 : List UInt8 := 0x15 :: 0x04 :: 0x2e :: 0x1c :: 0xa2 :: 0x00 :: 0x09 :: 0x84 :: 0x04 :: 0x01 :: 0xa7 :: 0xff :: 0xe9 :: 0x15 :: 0x04 :: 0x2a :: RB_cX5_factorAt_3
def RB_cX5_factorAt_1 : List UInt8 := 0x03 :: 0x36 :: 0x04 :: 0x15 :: 0x04 :: 0x2a :: 0xb4 :: 0x00 :: 0x85 :: 0xa2 :: 0x00 :: 0x14 :: 0x2a :: 0xb4 :: 0x00 :: 0x1c :: RB_cX5_factorAt_2
def RB_cX5_factorAt_0 : List UInt8 := 0x2a :: 0x1b :: 0x1d :: 0xb6 :: 0x00 :: 0x8c :: 0x2a :: 0xb4 :: 0x00 :: 0x85 :: 0x9a :: 0x00 :: 0x06 :: 0x12 :: 0x90 :: 0xac :: RB_cX5_factorAt_1
theorem tB_cX5_factorAt_0 : cX5_factorAt.data.toList.drop 0 = RB_cX5_factorAt_0 := by decide +kernel
theorem tB_cX5_factorAt_1 : cX5_factorAt.data.toList.drop 16 = RB_cX5_factorAt_1 := od_st tB_cX5_factorAt_0 16 rfl
theorem tB_cX5_factorAt_2 : cX5_factorAt.data.toList.drop 32 = RB_cX5_factorAt_2 := od_st tB_cX5_factorAt_1 16 rfl
theorem tB_cX5_factorAt_3 : cX5_factorAt.data.toList.drop 48 = RB_cX5_factorAt_3 := od_st tB_cX5_factorAt_2 16 rfl
theorem tB_cX5_factorAt_4 : cX5_factorAt.data.toList.drop 64 = RB_cX5_factorAt_4 := od_st tB_cX5_factorAt_3 16 rfl
theorem tB_cX5_factorAt_5 : cX5_factorAt.data.toList.drop 80 = RB_cX5_factorAt_5 := od_st tB_cX5_factorAt_4 16 rfl
theorem tB_cX5_factorAt_6 : cX5_factorAt.data.toList.drop 96 = RB_cX5_factorAt_6 := od_st tB_cX5_factorAt_5 16 rfl
theorem tB_cX5_factorAt_7 : cX5_factorAt.data.toList.drop 112 = RB_cX5_factorAt_7 := od_st tB_cX5_factorAt_6 16 rfl
theorem tB_cX5_factorAt_8 : cX5_factorAt.data.toList.drop 128 = RB_cX5_factorAt_8 := od_st tB_cX5_factorAt_7 16 rfl
theorem tB_cX5_factorAt_9 : cX5_factorAt.data.toList.drop 144 = RB_cX5_factorAt_9 := od_st tB_cX5_factorAt_8 16 rfl
theorem dX5_factorAt_0 : decode cX5_factorAt 0 = .ok (.aload_n 0, 1) := od_42 (od_at tB_cX5_factorAt_0 0 rfl)
theorem dX5_factorAt_1 : decode cX5_factorAt 1 = .ok (.iload_n 1, 1) := od_27 (od_at tB_cX5_factorAt_0 1 rfl)
theorem dX5_factorAt_2 : decode cX5_factorAt 2 = .ok (.iload_n 3, 1) := od_29 (od_at tB_cX5_factorAt_0 2 rfl)
theorem dX5_factorAt_3 : decode cX5_factorAt 3 = .ok (.invokevirtual 140, 3) := od_182 (od_at tB_cX5_factorAt_0 3 rfl) (od_at tB_cX5_factorAt_0 4 rfl) (od_at tB_cX5_factorAt_0 5 rfl) rfl
theorem dX5_factorAt_6 : decode cX5_factorAt 6 = .ok (.aload_n 0, 1) := od_42 (od_at tB_cX5_factorAt_0 6 rfl)
theorem dX5_factorAt_7 : decode cX5_factorAt 7 = .ok (.getfield 133, 3) := od_180 (od_at tB_cX5_factorAt_0 7 rfl) (od_at tB_cX5_factorAt_0 8 rfl) (od_at tB_cX5_factorAt_0 9 rfl) rfl
theorem dX5_factorAt_10 : decode cX5_factorAt 10 = .ok (.ifCond .ne 6, 3) := od_154 (od_at tB_cX5_factorAt_0 10 rfl) (od_at tB_cX5_factorAt_0 11 rfl) (od_at tB_cX5_factorAt_0 12 rfl) (by decide +kernel)
theorem dX5_factorAt_13 : decode cX5_factorAt 13 = .ok (.ldc 144, 2) := od_18 (od_at tB_cX5_factorAt_0 13 rfl) (od_at tB_cX5_factorAt_0 14 rfl) rfl
theorem dX5_factorAt_15 : decode cX5_factorAt 15 = .ok (.ireturn, 1) := od_172 (od_at tB_cX5_factorAt_0 15 rfl)
theorem dX5_factorAt_16 : decode cX5_factorAt 16 = .ok (.iconst 0, 1) := od_3 (od_at tB_cX5_factorAt_1 0 rfl)
theorem dX5_factorAt_17 : decode cX5_factorAt 17 = .ok (.istore 4, 2) := od_54 (od_at tB_cX5_factorAt_1 1 rfl) (od_at tB_cX5_factorAt_1 2 rfl) rfl
theorem dX5_factorAt_19 : decode cX5_factorAt 19 = .ok (.iload 4, 2) := od_21 (od_at tB_cX5_factorAt_1 3 rfl) (od_at tB_cX5_factorAt_1 4 rfl) rfl
theorem dX5_factorAt_21 : decode cX5_factorAt 21 = .ok (.aload_n 0, 1) := od_42 (od_at tB_cX5_factorAt_1 5 rfl)
theorem dX5_factorAt_22 : decode cX5_factorAt 22 = .ok (.getfield 133, 3) := od_180 (od_at tB_cX5_factorAt_1 6 rfl) (od_at tB_cX5_factorAt_1 7 rfl) (od_at tB_cX5_factorAt_1 8 rfl) rfl
theorem dX5_factorAt_25 : decode cX5_factorAt 25 = .ok (.if_icmp .ge 20, 3) := od_162 (od_at tB_cX5_factorAt_1 9 rfl) (od_at tB_cX5_factorAt_1 10 rfl) (od_at tB_cX5_factorAt_1 11 rfl) (by decide +kernel)
theorem dX5_factorAt_28 : decode cX5_factorAt 28 = .ok (.aload_n 0, 1) := od_42 (od_at tB_cX5_factorAt_1 12 rfl)
theorem dX5_factorAt_29 : decode cX5_factorAt 29 = .ok (.getfield 28, 3) := od_180 (od_at tB_cX5_factorAt_1 13 rfl) (od_at tB_cX5_factorAt_1 14 rfl) (od_at tB_cX5_factorAt_1 15 rfl) rfl
theorem dX5_factorAt_32 : decode cX5_factorAt 32 = .ok (.iload 4, 2) := od_21 (od_at tB_cX5_factorAt_2 0 rfl) (od_at tB_cX5_factorAt_2 1 rfl) rfl
theorem dX5_factorAt_34 : decode cX5_factorAt 34 = .ok (.iaload, 1) := od_46 (od_at tB_cX5_factorAt_2 2 rfl)
theorem dX5_factorAt_35 : decode cX5_factorAt 35 = .ok (.iload_n 2, 1) := od_28 (od_at tB_cX5_factorAt_2 3 rfl)
theorem dX5_factorAt_36 : decode cX5_factorAt 36 = .ok (.if_icmp .ge 9, 3) := od_162 (od_at tB_cX5_factorAt_2 4 rfl) (od_at tB_cX5_factorAt_2 5 rfl) (od_at tB_cX5_factorAt_2 6 rfl) (by decide +kernel)
theorem dX5_factorAt_39 : decode cX5_factorAt 39 = .ok (.iinc 4 1, 3) := od_132 (od_at tB_cX5_factorAt_2 7 rfl) (od_at tB_cX5_factorAt_2 8 rfl) (od_at tB_cX5_factorAt_2 9 rfl) rfl (by decide +kernel)
theorem dX5_factorAt_42 : decode cX5_factorAt 42 = .ok (.goto (-23), 3) := od_167 (od_at tB_cX5_factorAt_2 10 rfl) (od_at tB_cX5_factorAt_2 11 rfl) (od_at tB_cX5_factorAt_2 12 rfl) (by decide +kernel)
theorem dX5_factorAt_45 : decode cX5_factorAt 45 = .ok (.iload 4, 2) := od_21 (od_at tB_cX5_factorAt_2 13 rfl) (od_at tB_cX5_factorAt_2 14 rfl) rfl
theorem dX5_factorAt_47 : decode cX5_factorAt 47 = .ok (.aload_n 0, 1) := od_42 (od_at tB_cX5_factorAt_2 15 rfl)
theorem dX5_factorAt_48 : decode cX5_factorAt 48 = .ok (.getfield 133, 3) := od_180 (od_at tB_cX5_factorAt_3 0 rfl) (od_at tB_cX5_factorAt_3 1 rfl) (od_at tB_cX5_factorAt_3 2 rfl) rfl
theorem dX5_factorAt_51 : decode cX5_factorAt 51 = .ok (.if_icmp .ne 15, 3) := od_160 (od_at tB_cX5_factorAt_3 3 rfl) (od_at tB_cX5_factorAt_3 4 rfl) (od_at tB_cX5_factorAt_3 5 rfl) (by decide +kernel)
theorem dX5_factorAt_54 : decode cX5_factorAt 54 = .ok (.aload_n 0, 1) := od_42 (od_at tB_cX5_factorAt_3 6 rfl)
theorem dX5_factorAt_55 : decode cX5_factorAt 55 = .ok (.getfield 31, 3) := od_180 (od_at tB_cX5_factorAt_3 7 rfl) (od_at tB_cX5_factorAt_3 8 rfl) (od_at tB_cX5_factorAt_3 9 rfl) rfl
theorem dX5_factorAt_58 : decode cX5_factorAt 58 = .ok (.aload_n 0, 1) := od_42 (od_at tB_cX5_factorAt_3 10 rfl)
theorem dX5_factorAt_59 : decode cX5_factorAt 59 = .ok (.getfield 133, 3) := od_180 (od_at tB_cX5_factorAt_3 11 rfl) (od_at tB_cX5_factorAt_3 12 rfl) (od_at tB_cX5_factorAt_3 13 rfl) rfl
theorem dX5_factorAt_62 : decode cX5_factorAt 62 = .ok (.iconst 1, 1) := od_4 (od_at tB_cX5_factorAt_3 14 rfl)
theorem dX5_factorAt_63 : decode cX5_factorAt 63 = .ok (.isub, 1) := od_100 (od_at tB_cX5_factorAt_3 15 rfl)
theorem dX5_factorAt_64 : decode cX5_factorAt 64 = .ok (.iaload, 1) := od_46 (od_at tB_cX5_factorAt_4 0 rfl)
theorem dX5_factorAt_65 : decode cX5_factorAt 65 = .ok (.ireturn, 1) := od_172 (od_at tB_cX5_factorAt_4 1 rfl)
theorem dX5_factorAt_66 : decode cX5_factorAt 66 = .ok (.iload 4, 2) := od_21 (od_at tB_cX5_factorAt_4 2 rfl) (od_at tB_cX5_factorAt_4 3 rfl) rfl
theorem dX5_factorAt_68 : decode cX5_factorAt 68 = .ok (.ifCond .eq 14, 3) := od_153 (od_at tB_cX5_factorAt_4 4 rfl) (od_at tB_cX5_factorAt_4 5 rfl) (od_at tB_cX5_factorAt_4 6 rfl) (by decide +kernel)
theorem dX5_factorAt_71 : decode cX5_factorAt 71 = .ok (.aload_n 0, 1) := od_42 (od_at tB_cX5_factorAt_4 7 rfl)
theorem dX5_factorAt_72 : decode cX5_factorAt 72 = .ok (.getfield 28, 3) := od_180 (od_at tB_cX5_factorAt_4 8 rfl) (od_at tB_cX5_factorAt_4 9 rfl) (od_at tB_cX5_factorAt_4 10 rfl) rfl
theorem dX5_factorAt_75 : decode cX5_factorAt 75 = .ok (.iload 4, 2) := od_21 (od_at tB_cX5_factorAt_4 11 rfl) (od_at tB_cX5_factorAt_4 12 rfl) rfl
theorem dX5_factorAt_77 : decode cX5_factorAt 77 = .ok (.iaload, 1) := od_46 (od_at tB_cX5_factorAt_4 13 rfl)
theorem dX5_factorAt_78 : decode cX5_factorAt 78 = .ok (.iload_n 2, 1) := od_28 (od_at tB_cX5_factorAt_4 14 rfl)
theorem dX5_factorAt_79 : decode cX5_factorAt 79 = .ok (.if_icmp .ne 11, 3) := od_160 (od_at tB_cX5_factorAt_4 15 rfl) (od_at tB_cX5_factorAt_4 16 rfl) (od_at tB_cX5_factorAt_4 17 rfl) (by decide +kernel)
theorem dX5_factorAt_82 : decode cX5_factorAt 82 = .ok (.aload_n 0, 1) := od_42 (od_at tB_cX5_factorAt_5 2 rfl)
theorem dX5_factorAt_83 : decode cX5_factorAt 83 = .ok (.getfield 31, 3) := od_180 (od_at tB_cX5_factorAt_5 3 rfl) (od_at tB_cX5_factorAt_5 4 rfl) (od_at tB_cX5_factorAt_5 5 rfl) rfl
theorem dX5_factorAt_86 : decode cX5_factorAt 86 = .ok (.iload 4, 2) := od_21 (od_at tB_cX5_factorAt_5 6 rfl) (od_at tB_cX5_factorAt_5 7 rfl) rfl
theorem dX5_factorAt_88 : decode cX5_factorAt 88 = .ok (.iaload, 1) := od_46 (od_at tB_cX5_factorAt_5 8 rfl)
theorem dX5_factorAt_89 : decode cX5_factorAt 89 = .ok (.ireturn, 1) := od_172 (od_at tB_cX5_factorAt_5 9 rfl)
theorem dX5_factorAt_90 : decode cX5_factorAt 90 = .ok (.aload_n 0, 1) := od_42 (od_at tB_cX5_factorAt_5 10 rfl)
theorem dX5_factorAt_91 : decode cX5_factorAt 91 = .ok (.getfield 28, 3) := od_180 (od_at tB_cX5_factorAt_5 11 rfl) (od_at tB_cX5_factorAt_5 12 rfl) (od_at tB_cX5_factorAt_5 13 rfl) rfl
theorem dX5_factorAt_94 : decode cX5_factorAt 94 = .ok (.iload 4, 2) := od_21 (od_at tB_cX5_factorAt_5 14 rfl) (od_at tB_cX5_factorAt_5 15 rfl) rfl
theorem dX5_factorAt_96 : decode cX5_factorAt 96 = .ok (.iconst 1, 1) := od_4 (od_at tB_cX5_factorAt_6 0 rfl)
theorem dX5_factorAt_97 : decode cX5_factorAt 97 = .ok (.isub, 1) := od_100 (od_at tB_cX5_factorAt_6 1 rfl)
theorem dX5_factorAt_98 : decode cX5_factorAt 98 = .ok (.iaload, 1) := od_46 (od_at tB_cX5_factorAt_6 2 rfl)
theorem dX5_factorAt_99 : decode cX5_factorAt 99 = .ok (.i2l, 1) := od_133 (od_at tB_cX5_factorAt_6 3 rfl)
theorem dX5_factorAt_100 : decode cX5_factorAt 100 = .ok (.lstore 5, 2) := od_55 (od_at tB_cX5_factorAt_6 4 rfl) (od_at tB_cX5_factorAt_6 5 rfl) rfl
theorem dX5_factorAt_102 : decode cX5_factorAt 102 = .ok (.aload_n 0, 1) := od_42 (od_at tB_cX5_factorAt_6 6 rfl)
theorem dX5_factorAt_103 : decode cX5_factorAt 103 = .ok (.getfield 31, 3) := od_180 (od_at tB_cX5_factorAt_6 7 rfl) (od_at tB_cX5_factorAt_6 8 rfl) (od_at tB_cX5_factorAt_6 9 rfl) rfl
theorem dX5_factorAt_106 : decode cX5_factorAt 106 = .ok (.iload 4, 2) := od_21 (od_at tB_cX5_factorAt_6 10 rfl) (od_at tB_cX5_factorAt_6 11 rfl) rfl
theorem dX5_factorAt_108 : decode cX5_factorAt 108 = .ok (.iconst 1, 1) := od_4 (od_at tB_cX5_factorAt_6 12 rfl)
theorem dX5_factorAt_109 : decode cX5_factorAt 109 = .ok (.isub, 1) := od_100 (od_at tB_cX5_factorAt_6 13 rfl)
theorem dX5_factorAt_110 : decode cX5_factorAt 110 = .ok (.iaload, 1) := od_46 (od_at tB_cX5_factorAt_6 14 rfl)
theorem dX5_factorAt_111 : decode cX5_factorAt 111 = .ok (.i2l, 1) := od_133 (od_at tB_cX5_factorAt_6 15 rfl)
theorem dX5_factorAt_112 : decode cX5_factorAt 112 = .ok (.lstore 7, 2) := od_55 (od_at tB_cX5_factorAt_7 0 rfl) (od_at tB_cX5_factorAt_7 1 rfl) rfl
theorem dX5_factorAt_114 : decode cX5_factorAt 114 = .ok (.lload 7, 2) := od_22 (od_at tB_cX5_factorAt_7 2 rfl) (od_at tB_cX5_factorAt_7 3 rfl) rfl
theorem dX5_factorAt_116 : decode cX5_factorAt 116 = .ok (.aload_n 0, 1) := od_42 (od_at tB_cX5_factorAt_7 4 rfl)
theorem dX5_factorAt_117 : decode cX5_factorAt 117 = .ok (.getfield 31, 3) := od_180 (od_at tB_cX5_factorAt_7 5 rfl) (od_at tB_cX5_factorAt_7 6 rfl) (od_at tB_cX5_factorAt_7 7 rfl) rfl
theorem dX5_factorAt_120 : decode cX5_factorAt 120 = .ok (.iload 4, 2) := od_21 (od_at tB_cX5_factorAt_7 8 rfl) (od_at tB_cX5_factorAt_7 9 rfl) rfl
theorem dX5_factorAt_122 : decode cX5_factorAt 122 = .ok (.iaload, 1) := od_46 (od_at tB_cX5_factorAt_7 10 rfl)
theorem dX5_factorAt_123 : decode cX5_factorAt 123 = .ok (.i2l, 1) := od_133 (od_at tB_cX5_factorAt_7 11 rfl)
theorem dX5_factorAt_124 : decode cX5_factorAt 124 = .ok (.lload 7, 2) := od_22 (od_at tB_cX5_factorAt_7 12 rfl) (od_at tB_cX5_factorAt_7 13 rfl) rfl
theorem dX5_factorAt_126 : decode cX5_factorAt 126 = .ok (.lsub, 1) := od_101 (od_at tB_cX5_factorAt_7 14 rfl)
theorem dX5_factorAt_127 : decode cX5_factorAt 127 = .ok (.iload_n 2, 1) := od_28 (od_at tB_cX5_factorAt_7 15 rfl)
theorem dX5_factorAt_128 : decode cX5_factorAt 128 = .ok (.i2l, 1) := od_133 (od_at tB_cX5_factorAt_8 0 rfl)
theorem dX5_factorAt_129 : decode cX5_factorAt 129 = .ok (.lload 5, 2) := od_22 (od_at tB_cX5_factorAt_8 1 rfl) (od_at tB_cX5_factorAt_8 2 rfl) rfl
theorem dX5_factorAt_131 : decode cX5_factorAt 131 = .ok (.lsub, 1) := od_101 (od_at tB_cX5_factorAt_8 3 rfl)
theorem dX5_factorAt_132 : decode cX5_factorAt 132 = .ok (.lmul, 1) := od_105 (od_at tB_cX5_factorAt_8 4 rfl)
theorem dX5_factorAt_133 : decode cX5_factorAt 133 = .ok (.aload_n 0, 1) := od_42 (od_at tB_cX5_factorAt_8 5 rfl)
theorem dX5_factorAt_134 : decode cX5_factorAt 134 = .ok (.getfield 28, 3) := od_180 (od_at tB_cX5_factorAt_8 6 rfl) (od_at tB_cX5_factorAt_8 7 rfl) (od_at tB_cX5_factorAt_8 8 rfl) rfl
theorem dX5_factorAt_137 : decode cX5_factorAt 137 = .ok (.iload 4, 2) := od_21 (od_at tB_cX5_factorAt_8 9 rfl) (od_at tB_cX5_factorAt_8 10 rfl) rfl
theorem dX5_factorAt_139 : decode cX5_factorAt 139 = .ok (.iaload, 1) := od_46 (od_at tB_cX5_factorAt_8 11 rfl)
theorem dX5_factorAt_140 : decode cX5_factorAt 140 = .ok (.i2l, 1) := od_133 (od_at tB_cX5_factorAt_8 12 rfl)
theorem dX5_factorAt_141 : decode cX5_factorAt 141 = .ok (.lload 5, 2) := od_22 (od_at tB_cX5_factorAt_8 13 rfl) (od_at tB_cX5_factorAt_8 14 rfl) rfl
theorem dX5_factorAt_143 : decode cX5_factorAt 143 = .ok (.lsub, 1) := od_101 (od_at tB_cX5_factorAt_8 15 rfl)
theorem dX5_factorAt_144 : decode cX5_factorAt 144 = .ok (.ldiv, 1) := od_109 (od_at tB_cX5_factorAt_9 0 rfl)
theorem dX5_factorAt_145 : decode cX5_factorAt 145 = .ok (.ladd, 1) := od_97 (od_at tB_cX5_factorAt_9 1 rfl)
theorem dX5_factorAt_146 : decode cX5_factorAt 146 = .ok (.l2i, 1) := od_136 (od_at tB_cX5_factorAt_9 2 rfl)
theorem dX5_factorAt_147 : decode cX5_factorAt 147 = .ok (.ireturn, 1) := od_172 (od_at tB_cX5_factorAt_9 3 rfl)
def RB_cX5_at_2 : List UInt8 := 0x00 :: 0x05 :: 0x10 :: 0xfe :: 0xac :: []
def RB_cX5_at_1 : List UInt8 := 0x14 :: 0x1d :: 0xb8 :: 0x00 :: 0x7a :: 0x99 :: 0x00 :: 0x0d :: 0x2a :: 0x1b :: 0x1c :: 0x1d :: 0xb6 :: 0x00 :: 0x91 :: 0xa7 :: RB_cX5_at_2
def RB_cX5_at_0 : List UInt8 := 0x2a :: 0x1b :: 0xb6 :: 0x00 :: 0x73 :: 0x99 :: 0x00 :: 0x05 :: 0x02 :: 0xac :: 0x1c :: 0xb8 :: 0x00 :: 0x77 :: 0x99 :: 0x00 :: RB_cX5_at_1
theorem tB_cX5_at_0 : cX5_at.data.toList.drop 0 = RB_cX5_at_0 := by decide +kernel
theorem tB_cX5_at_1 : cX5_at.data.toList.drop 16 = RB_cX5_at_1 := od_st tB_cX5_at_0 16 rfl
theorem tB_cX5_at_2 : cX5_at.data.toList.drop 32 = RB_cX5_at_2 := od_st tB_cX5_at_1 16 rfl
theorem dX5_at_0 : decode cX5_at 0 = .ok (.aload_n 0, 1) := od_42 (od_at tB_cX5_at_0 0 rfl)
theorem dX5_at_1 : decode cX5_at 1 = .ok (.iload_n 1, 1) := od_27 (od_at tB_cX5_at_0 1 rfl)
theorem dX5_at_2 : decode cX5_at 2 = .ok (.invokevirtual 115, 3) := od_182 (od_at tB_cX5_at_0 2 rfl) (od_at tB_cX5_at_0 3 rfl) (od_at tB_cX5_at_0 4 rfl) rfl
theorem dX5_at_5 : decode cX5_at 5 = .ok (.ifCond .eq 5, 3) := od_153 (od_at tB_cX5_at_0 5 rfl) (od_at tB_cX5_at_0 6 rfl) (od_at tB_cX5_at_0 7 rfl) (by decide +kernel)
theorem dX5_at_8 : decode cX5_at 8 = .ok (.iconst (-1), 1) := od_2 (od_at tB_cX5_at_0 8 rfl)
theorem dX5_at_9 : decode cX5_at 9 = .ok (.ireturn, 1) := od_172 (od_at tB_cX5_at_0 9 rfl)
theorem dX5_at_10 : decode cX5_at 10 = .ok (.iload_n 2, 1) := od_28 (od_at tB_cX5_at_0 10 rfl)
theorem dX5_at_11 : decode cX5_at 11 = .ok (.invokestatic 119, 3) := od_184 (od_at tB_cX5_at_0 11 rfl) (od_at tB_cX5_at_0 12 rfl) (od_at tB_cX5_at_0 13 rfl) rfl
theorem dX5_at_14 : decode cX5_at 14 = .ok (.ifCond .eq 20, 3) := od_153 (od_at tB_cX5_at_0 14 rfl) (od_at tB_cX5_at_0 15 rfl) (od_at tB_cX5_at_0 16 rfl) (by decide +kernel)
theorem dX5_at_17 : decode cX5_at 17 = .ok (.iload_n 3, 1) := od_29 (od_at tB_cX5_at_1 1 rfl)
theorem dX5_at_18 : decode cX5_at 18 = .ok (.invokestatic 122, 3) := od_184 (od_at tB_cX5_at_1 2 rfl) (od_at tB_cX5_at_1 3 rfl) (od_at tB_cX5_at_1 4 rfl) rfl
theorem dX5_at_21 : decode cX5_at 21 = .ok (.ifCond .eq 13, 3) := od_153 (od_at tB_cX5_at_1 5 rfl) (od_at tB_cX5_at_1 6 rfl) (od_at tB_cX5_at_1 7 rfl) (by decide +kernel)
theorem dX5_at_24 : decode cX5_at 24 = .ok (.aload_n 0, 1) := od_42 (od_at tB_cX5_at_1 8 rfl)
theorem dX5_at_25 : decode cX5_at 25 = .ok (.iload_n 1, 1) := od_27 (od_at tB_cX5_at_1 9 rfl)
theorem dX5_at_26 : decode cX5_at 26 = .ok (.iload_n 2, 1) := od_28 (od_at tB_cX5_at_1 10 rfl)
theorem dX5_at_27 : decode cX5_at 27 = .ok (.iload_n 3, 1) := od_29 (od_at tB_cX5_at_1 11 rfl)
theorem dX5_at_28 : decode cX5_at 28 = .ok (.invokevirtual 145, 3) := od_182 (od_at tB_cX5_at_1 12 rfl) (od_at tB_cX5_at_1 13 rfl) (od_at tB_cX5_at_1 14 rfl) rfl
theorem dX5_at_31 : decode cX5_at 31 = .ok (.goto 5, 3) := od_167 (od_at tB_cX5_at_1 15 rfl) (od_at tB_cX5_at_1 16 rfl) (od_at tB_cX5_at_1 17 rfl) (by decide +kernel)
theorem dX5_at_34 : decode cX5_at 34 = .ok (.bipush (-2), 2) := od_16 (od_at tB_cX5_at_2 2 rfl) (od_at tB_cX5_at_2 3 rfl) (by decide +kernel)
theorem dX5_at_36 : decode cX5_at 36 = .ok (.ireturn, 1) := od_172 (od_at tB_cX5_at_2 4 rfl)
def RB_cX5_points_1 : List UInt8 := 0x06 :: 0x10 :: 0xfe :: 0xac :: 0x2a :: 0x1b :: 0x1c :: 0xb6 :: 0x00 :: 0x8c :: 0x2a :: 0xb4 :: 0x00 :: 0x85 :: 0xac :: []
def RB_cX5_points_0 : List UInt8 := 0x2a :: 0x1b :: 0xb6 :: 0x00 :: 0x73 :: 0x99 :: 0x00 :: 0x05 :: 0x02 :: 0xac :: 0x1c :: 0xb8 :: 0x00 :: 0x7a :: 0x9a :: 0x00 :: RB_cX5_points_1
theorem tB_cX5_points_0 : cX5_points.data.toList.drop 0 = RB_cX5_points_0 := by decide +kernel
theorem tB_cX5_points_1 : cX5_points.data.toList.drop 16 = RB_cX5_points_1 := od_st tB_cX5_points_0 16 rfl
theorem dX5_points_0 : decode cX5_points 0 = .ok (.aload_n 0, 1) := od_42 (od_at tB_cX5_points_0 0 rfl)
theorem dX5_points_1 : decode cX5_points 1 = .ok (.iload_n 1, 1) := od_27 (od_at tB_cX5_points_0 1 rfl)
theorem dX5_points_2 : decode cX5_points 2 = .ok (.invokevirtual 115, 3) := od_182 (od_at tB_cX5_points_0 2 rfl) (od_at tB_cX5_points_0 3 rfl) (od_at tB_cX5_points_0 4 rfl) rfl
theorem dX5_points_5 : decode cX5_points 5 = .ok (.ifCond .eq 5, 3) := od_153 (od_at tB_cX5_points_0 5 rfl) (od_at tB_cX5_points_0 6 rfl) (od_at tB_cX5_points_0 7 rfl) (by decide +kernel)
theorem dX5_points_8 : decode cX5_points 8 = .ok (.iconst (-1), 1) := od_2 (od_at tB_cX5_points_0 8 rfl)
theorem dX5_points_9 : decode cX5_points 9 = .ok (.ireturn, 1) := od_172 (od_at tB_cX5_points_0 9 rfl)
theorem dX5_points_10 : decode cX5_points 10 = .ok (.iload_n 2, 1) := od_28 (od_at tB_cX5_points_0 10 rfl)
theorem dX5_points_11 : decode cX5_points 11 = .ok (.invokestatic 122, 3) := od_184 (od_at tB_cX5_points_0 11 rfl) (od_at tB_cX5_points_0 12 rfl) (od_at tB_cX5_points_0 13 rfl) rfl
theorem dX5_points_14 : decode cX5_points 14 = .ok (.ifCond .ne 6, 3) := od_154 (od_at tB_cX5_points_0 14 rfl) (od_at tB_cX5_points_0 15 rfl) (od_at tB_cX5_points_0 16 rfl) (by decide +kernel)
theorem dX5_points_17 : decode cX5_points 17 = .ok (.bipush (-2), 2) := od_16 (od_at tB_cX5_points_1 1 rfl) (od_at tB_cX5_points_1 2 rfl) (by decide +kernel)
theorem dX5_points_19 : decode cX5_points 19 = .ok (.ireturn, 1) := od_172 (od_at tB_cX5_points_1 3 rfl)
theorem dX5_points_20 : decode cX5_points 20 = .ok (.aload_n 0, 1) := od_42 (od_at tB_cX5_points_1 4 rfl)
theorem dX5_points_21 : decode cX5_points 21 = .ok (.iload_n 1, 1) := od_27 (od_at tB_cX5_points_1 5 rfl)
theorem dX5_points_22 : decode cX5_points 22 = .ok (.iload_n 2, 1) := od_28 (od_at tB_cX5_points_1 6 rfl)
theorem dX5_points_23 : decode cX5_points 23 = .ok (.invokevirtual 140, 3) := od_182 (od_at tB_cX5_points_1 7 rfl) (od_at tB_cX5_points_1 8 rfl) (od_at tB_cX5_points_1 9 rfl) rfl
theorem dX5_points_26 : decode cX5_points 26 = .ok (.aload_n 0, 1) := od_42 (od_at tB_cX5_points_1 10 rfl)
theorem dX5_points_27 : decode cX5_points 27 = .ok (.getfield 133, 3) := od_180 (od_at tB_cX5_points_1 11 rfl) (od_at tB_cX5_points_1 12 rfl) (od_at tB_cX5_points_1 13 rfl) rfl
theorem dX5_points_30 : decode cX5_points 30 = .ok (.ireturn, 1) := od_172 (od_at tB_cX5_points_1 14 rfl)
def RB_cX5_point_4 : List UInt8 := 0x2a :: 0xb4 :: 0x00 :: 0x1f :: 0x1d :: 0x2e :: 0xa7 :: 0x00 :: 0x05 :: 0x10 :: 0xfe :: 0xac :: []
def RB_cX5_point_3 : List UInt8 := 0x0c :: 0x2a :: 0xb4 :: 0x00 :: 0x1c :: 0x1d :: 0x2e :: 0xa7 :: 0x00 :: 0x14 :: 0x15 :: 0x04 :: 0x04 :: 0xa0 :: 0x00 :: 0x0c :: RB_cX5_point_4
def RB_cX5_point_2 : List UInt8 := 0x85 :: 0x85 :: 0x0a :: 0x65 :: 0xb8 :: 0x00 :: 0x65 :: 0x9a :: 0x00 :: 0x05 :: 0x02 :: 0xac :: 0x15 :: 0x04 :: 0x9a :: 0x00 :: RB_cX5_point_3
def RB_cX5_point_1 : List UInt8 := 0x06 :: 0x10 :: 0xfe :: 0xac :: 0x2a :: 0x1b :: 0x1c :: 0xb6 :: 0x00 :: 0x8c :: 0x1d :: 0x85 :: 0x09 :: 0x2a :: 0xb4 :: 0x00 :: RB_cX5_point_2
def RB_cX5_point_0 : List UInt8 := 0x2a :: 0x1b :: 0xb6 :: 0x00 :: 0x73 :: 0x99 :: 0x00 :: 0x05 :: 0x02 :: 0xac :: 0x1c :: 0xb8 :: 0x00 :: 0x7a :: 0x9a :: 0x00 :: RB_cX5_point_1
theorem tB_cX5_point_0 : cX5_point.data.toList.drop 0 = RB_cX5_point_0 := by decide +kernel
theorem tB_cX5_point_1 : cX5_point.data.toList.drop 16 = RB_cX5_point_1 := od_st tB_cX5_point_0 16 rfl
theorem tB_cX5_point_2 : cX5_point.data.toList.drop 32 = RB_cX5_point_2 := od_st tB_cX5_point_1 16 rfl
theorem tB_cX5_point_3 : cX5_point.data.toList.drop 48 = RB_cX5_point_3 := od_st tB_cX5_point_2 16 rfl
theorem tB_cX5_point_4 : cX5_point.data.toList.drop 64 = RB_cX5_point_4 := od_st tB_cX5_point_3 16 rfl
theorem dX5_point_0 : decode cX5_point 0 = .ok (.aload_n 0, 1) := od_42 (od_at tB_cX5_point_0 0 rfl)
theorem dX5_point_1 : decode cX5_point 1 = .ok (.iload_n 1, 1) := od_27 (od_at tB_cX5_point_0 1 rfl)
theorem dX5_point_2 : decode cX5_point 2 = .ok (.invokevirtual 115, 3) := od_182 (od_at tB_cX5_point_0 2 rfl) (od_at tB_cX5_point_0 3 rfl) (od_at tB_cX5_point_0 4 rfl) rfl
theorem dX5_point_5 : decode cX5_point 5 = .ok (.ifCond .eq 5, 3) := od_153 (od_at tB_cX5_point_0 5 rfl) (od_at tB_cX5_point_0 6 rfl) (od_at tB_cX5_point_0 7 rfl) (by decide +kernel)
theorem dX5_point_8 : decode cX5_point 8 = .ok (.iconst (-1), 1) := od_2 (od_at tB_cX5_point_0 8 rfl)
theorem dX5_point_9 : decode cX5_point 9 = .ok (.ireturn, 1) := od_172 (od_at tB_cX5_point_0 9 rfl)
theorem dX5_point_10 : decode cX5_point 10 = .ok (.iload_n 2, 1) := od_28 (od_at tB_cX5_point_0 10 rfl)
theorem dX5_point_11 : decode cX5_point 11 = .ok (.invokestatic 122, 3) := od_184 (od_at tB_cX5_point_0 11 rfl) (od_at tB_cX5_point_0 12 rfl) (od_at tB_cX5_point_0 13 rfl) rfl
theorem dX5_point_14 : decode cX5_point 14 = .ok (.ifCond .ne 6, 3) := od_154 (od_at tB_cX5_point_0 14 rfl) (od_at tB_cX5_point_0 15 rfl) (od_at tB_cX5_point_0 16 rfl) (by decide +kernel)
theorem dX5_point_17 : decode cX5_point 17 = .ok (.bipush (-2), 2) := od_16 (od_at tB_cX5_point_1 1 rfl) (od_at tB_cX5_point_1 2 rfl) (by decide +kernel)
theorem dX5_point_19 : decode cX5_point 19 = .ok (.ireturn, 1) := od_172 (od_at tB_cX5_point_1 3 rfl)
theorem dX5_point_20 : decode cX5_point 20 = .ok (.aload_n 0, 1) := od_42 (od_at tB_cX5_point_1 4 rfl)
theorem dX5_point_21 : decode cX5_point 21 = .ok (.iload_n 1, 1) := od_27 (od_at tB_cX5_point_1 5 rfl)
theorem dX5_point_22 : decode cX5_point 22 = .ok (.iload_n 2, 1) := od_28 (od_at tB_cX5_point_1 6 rfl)
theorem dX5_point_23 : decode cX5_point 23 = .ok (.invokevirtual 140, 3) := od_182 (od_at tB_cX5_point_1 7 rfl) (od_at tB_cX5_point_1 8 rfl) (od_at tB_cX5_point_1 9 rfl) rfl
theorem dX5_point_26 : decode cX5_point 26 = .ok (.iload_n 3, 1) := od_29 (od_at tB_cX5_point_1 10 rfl)
theorem dX5_point_27 : decode cX5_point 27 = .ok (.i2l, 1) := od_133 (od_at tB_cX5_point_1 11 rfl)
theorem dX5_point_28 : decode cX5_point 28 = .ok (.lconst 0, 1) := od_9 (od_at tB_cX5_point_1 12 rfl)
theorem dX5_point_29 : decode cX5_point 29 = .ok (.aload_n 0, 1) := od_42 (od_at tB_cX5_point_1 13 rfl)
theorem dX5_point_30 : decode cX5_point 30 = .ok (.getfield 133, 3) := od_180 (od_at tB_cX5_point_1 14 rfl) (od_at tB_cX5_point_1 15 rfl) (od_at tB_cX5_point_1 16 rfl) rfl
theorem dX5_point_33 : decode cX5_point 33 = .ok (.i2l, 1) := od_133 (od_at tB_cX5_point_2 1 rfl)
theorem dX5_point_34 : decode cX5_point 34 = .ok (.lconst 1, 1) := od_10 (od_at tB_cX5_point_2 2 rfl)
theorem dX5_point_35 : decode cX5_point 35 = .ok (.lsub, 1) := od_101 (od_at tB_cX5_point_2 3 rfl)
theorem dX5_point_36 : decode cX5_point 36 = .ok (.invokestatic 101, 3) := od_184 (od_at tB_cX5_point_2 4 rfl) (od_at tB_cX5_point_2 5 rfl) (od_at tB_cX5_point_2 6 rfl) rfl
theorem dX5_point_39 : decode cX5_point 39 = .ok (.ifCond .ne 5, 3) := od_154 (od_at tB_cX5_point_2 7 rfl) (od_at tB_cX5_point_2 8 rfl) (od_at tB_cX5_point_2 9 rfl) (by decide +kernel)
theorem dX5_point_42 : decode cX5_point 42 = .ok (.iconst (-1), 1) := od_2 (od_at tB_cX5_point_2 10 rfl)
theorem dX5_point_43 : decode cX5_point 43 = .ok (.ireturn, 1) := od_172 (od_at tB_cX5_point_2 11 rfl)
theorem dX5_point_44 : decode cX5_point 44 = .ok (.iload 4, 2) := od_21 (od_at tB_cX5_point_2 12 rfl) (od_at tB_cX5_point_2 13 rfl) rfl
theorem dX5_point_46 : decode cX5_point 46 = .ok (.ifCond .ne 12, 3) := od_154 (od_at tB_cX5_point_2 14 rfl) (od_at tB_cX5_point_2 15 rfl) (od_at tB_cX5_point_2 16 rfl) (by decide +kernel)
theorem dX5_point_49 : decode cX5_point 49 = .ok (.aload_n 0, 1) := od_42 (od_at tB_cX5_point_3 1 rfl)
theorem dX5_point_50 : decode cX5_point 50 = .ok (.getfield 28, 3) := od_180 (od_at tB_cX5_point_3 2 rfl) (od_at tB_cX5_point_3 3 rfl) (od_at tB_cX5_point_3 4 rfl) rfl
theorem dX5_point_53 : decode cX5_point 53 = .ok (.iload_n 3, 1) := od_29 (od_at tB_cX5_point_3 5 rfl)
theorem dX5_point_54 : decode cX5_point 54 = .ok (.iaload, 1) := od_46 (od_at tB_cX5_point_3 6 rfl)
theorem dX5_point_55 : decode cX5_point 55 = .ok (.goto 20, 3) := od_167 (od_at tB_cX5_point_3 7 rfl) (od_at tB_cX5_point_3 8 rfl) (od_at tB_cX5_point_3 9 rfl) (by decide +kernel)
theorem dX5_point_58 : decode cX5_point 58 = .ok (.iload 4, 2) := od_21 (od_at tB_cX5_point_3 10 rfl) (od_at tB_cX5_point_3 11 rfl) rfl
theorem dX5_point_60 : decode cX5_point 60 = .ok (.iconst 1, 1) := od_4 (od_at tB_cX5_point_3 12 rfl)
theorem dX5_point_61 : decode cX5_point 61 = .ok (.if_icmp .ne 12, 3) := od_160 (od_at tB_cX5_point_3 13 rfl) (od_at tB_cX5_point_3 14 rfl) (od_at tB_cX5_point_3 15 rfl) (by decide +kernel)
theorem dX5_point_64 : decode cX5_point 64 = .ok (.aload_n 0, 1) := od_42 (od_at tB_cX5_point_4 0 rfl)
theorem dX5_point_65 : decode cX5_point 65 = .ok (.getfield 31, 3) := od_180 (od_at tB_cX5_point_4 1 rfl) (od_at tB_cX5_point_4 2 rfl) (od_at tB_cX5_point_4 3 rfl) rfl
theorem dX5_point_68 : decode cX5_point 68 = .ok (.iload_n 3, 1) := od_29 (od_at tB_cX5_point_4 4 rfl)
theorem dX5_point_69 : decode cX5_point 69 = .ok (.iaload, 1) := od_46 (od_at tB_cX5_point_4 5 rfl)
theorem dX5_point_70 : decode cX5_point 70 = .ok (.goto 5, 3) := od_167 (od_at tB_cX5_point_4 6 rfl) (od_at tB_cX5_point_4 7 rfl) (od_at tB_cX5_point_4 8 rfl) (by decide +kernel)
theorem dX5_point_73 : decode cX5_point 73 = .ok (.bipush (-2), 2) := od_16 (od_at tB_cX5_point_4 9 rfl) (od_at tB_cX5_point_4 10 rfl) (by decide +kernel)
theorem dX5_point_75 : decode cX5_point 75 = .ok (.ireturn, 1) := od_172 (od_at tB_cX5_point_4 11 rfl)
def RB_cX5_proof_3 : List UInt8 := 0x9c :: 0x2a :: 0x03 :: 0xb5 :: 0x00 :: 0x9f :: 0x04 :: 0xac :: []
def RB_cX5_proof_2 : List UInt8 := 0xfe :: 0xac :: 0x2a :: 0x1b :: 0xb5 :: 0x00 :: 0x54 :: 0x2a :: 0x1c :: 0xb5 :: 0x00 :: 0x99 :: 0x2a :: 0x1d :: 0xb5 :: 0x00 :: RB_cX5_proof_3
def RB_cX5_proof_1 : List UInt8 := 0x11 :: 0x1d :: 0x85 :: 0x14 :: 0x00 :: 0x95 :: 0x14 :: 0x00 :: 0x97 :: 0xb8 :: 0x00 :: 0x65 :: 0x9a :: 0x00 :: 0x06 :: 0x10 :: RB_cX5_proof_2
def RB_cX5_proof_0 : List UInt8 := 0x2a :: 0x1b :: 0xb6 :: 0x00 :: 0x73 :: 0x99 :: 0x00 :: 0x05 :: 0x02 :: 0xac :: 0x1c :: 0xb8 :: 0x00 :: 0x77 :: 0x99 :: 0x00 :: RB_cX5_proof_1
theorem tB_cX5_proof_0 : cX5_proof.data.toList.drop 0 = RB_cX5_proof_0 := by decide +kernel
theorem tB_cX5_proof_1 : cX5_proof.data.toList.drop 16 = RB_cX5_proof_1 := od_st tB_cX5_proof_0 16 rfl
theorem tB_cX5_proof_2 : cX5_proof.data.toList.drop 32 = RB_cX5_proof_2 := od_st tB_cX5_proof_1 16 rfl
theorem tB_cX5_proof_3 : cX5_proof.data.toList.drop 48 = RB_cX5_proof_3 := od_st tB_cX5_proof_2 16 rfl
theorem dX5_proof_0 : decode cX5_proof 0 = .ok (.aload_n 0, 1) := od_42 (od_at tB_cX5_proof_0 0 rfl)
theorem dX5_proof_1 : decode cX5_proof 1 = .ok (.iload_n 1, 1) := od_27 (od_at tB_cX5_proof_0 1 rfl)
theorem dX5_proof_2 : decode cX5_proof 2 = .ok (.invokevirtual 115, 3) := od_182 (od_at tB_cX5_proof_0 2 rfl) (od_at tB_cX5_proof_0 3 rfl) (od_at tB_cX5_proof_0 4 rfl) rfl
theorem dX5_proof_5 : decode cX5_proof 5 = .ok (.ifCond .eq 5, 3) := od_153 (od_at tB_cX5_proof_0 5 rfl) (od_at tB_cX5_proof_0 6 rfl) (od_at tB_cX5_proof_0 7 rfl) (by decide +kernel)
theorem dX5_proof_8 : decode cX5_proof 8 = .ok (.iconst (-1), 1) := od_2 (od_at tB_cX5_proof_0 8 rfl)
theorem dX5_proof_9 : decode cX5_proof 9 = .ok (.ireturn, 1) := od_172 (od_at tB_cX5_proof_0 9 rfl)
theorem dX5_proof_10 : decode cX5_proof 10 = .ok (.iload_n 2, 1) := od_28 (od_at tB_cX5_proof_0 10 rfl)
theorem dX5_proof_11 : decode cX5_proof 11 = .ok (.invokestatic 119, 3) := od_184 (od_at tB_cX5_proof_0 11 rfl) (od_at tB_cX5_proof_0 12 rfl) (od_at tB_cX5_proof_0 13 rfl) rfl
theorem dX5_proof_14 : decode cX5_proof 14 = .ok (.ifCond .eq 17, 3) := od_153 (od_at tB_cX5_proof_0 14 rfl) (od_at tB_cX5_proof_0 15 rfl) (od_at tB_cX5_proof_0 16 rfl) (by decide +kernel)
theorem dX5_proof_17 : decode cX5_proof 17 = .ok (.iload_n 3, 1) := od_29 (od_at tB_cX5_proof_1 1 rfl)
theorem dX5_proof_18 : decode cX5_proof 18 = .ok (.i2l, 1) := od_133 (od_at tB_cX5_proof_1 2 rfl)
theorem dX5_proof_19 : decode cX5_proof 19 = .ok (.ldc2_w 149, 3) := od_20 (od_at tB_cX5_proof_1 3 rfl) (od_at tB_cX5_proof_1 4 rfl) (od_at tB_cX5_proof_1 5 rfl) rfl
theorem dX5_proof_22 : decode cX5_proof 22 = .ok (.ldc2_w 151, 3) := od_20 (od_at tB_cX5_proof_1 6 rfl) (od_at tB_cX5_proof_1 7 rfl) (od_at tB_cX5_proof_1 8 rfl) rfl
theorem dX5_proof_25 : decode cX5_proof 25 = .ok (.invokestatic 101, 3) := od_184 (od_at tB_cX5_proof_1 9 rfl) (od_at tB_cX5_proof_1 10 rfl) (od_at tB_cX5_proof_1 11 rfl) rfl
theorem dX5_proof_28 : decode cX5_proof 28 = .ok (.ifCond .ne 6, 3) := od_154 (od_at tB_cX5_proof_1 12 rfl) (od_at tB_cX5_proof_1 13 rfl) (od_at tB_cX5_proof_1 14 rfl) (by decide +kernel)
theorem dX5_proof_31 : decode cX5_proof 31 = .ok (.bipush (-2), 2) := od_16 (od_at tB_cX5_proof_1 15 rfl) (od_at tB_cX5_proof_1 16 rfl) (by decide +kernel)
theorem dX5_proof_33 : decode cX5_proof 33 = .ok (.ireturn, 1) := od_172 (od_at tB_cX5_proof_2 1 rfl)
theorem dX5_proof_34 : decode cX5_proof 34 = .ok (.aload_n 0, 1) := od_42 (od_at tB_cX5_proof_2 2 rfl)
theorem dX5_proof_35 : decode cX5_proof 35 = .ok (.iload_n 1, 1) := od_27 (od_at tB_cX5_proof_2 3 rfl)
theorem dX5_proof_36 : decode cX5_proof 36 = .ok (.putfield 84, 3) := od_181 (od_at tB_cX5_proof_2 4 rfl) (od_at tB_cX5_proof_2 5 rfl) (od_at tB_cX5_proof_2 6 rfl) rfl
theorem dX5_proof_39 : decode cX5_proof 39 = .ok (.aload_n 0, 1) := od_42 (od_at tB_cX5_proof_2 7 rfl)
theorem dX5_proof_40 : decode cX5_proof 40 = .ok (.iload_n 2, 1) := od_28 (od_at tB_cX5_proof_2 8 rfl)
theorem dX5_proof_41 : decode cX5_proof 41 = .ok (.putfield 153, 3) := od_181 (od_at tB_cX5_proof_2 9 rfl) (od_at tB_cX5_proof_2 10 rfl) (od_at tB_cX5_proof_2 11 rfl) rfl
theorem dX5_proof_44 : decode cX5_proof 44 = .ok (.aload_n 0, 1) := od_42 (od_at tB_cX5_proof_2 12 rfl)
theorem dX5_proof_45 : decode cX5_proof 45 = .ok (.iload_n 3, 1) := od_29 (od_at tB_cX5_proof_2 13 rfl)
theorem dX5_proof_46 : decode cX5_proof 46 = .ok (.putfield 156, 3) := od_181 (od_at tB_cX5_proof_2 14 rfl) (od_at tB_cX5_proof_2 15 rfl) (od_at tB_cX5_proof_2 16 rfl) rfl
theorem dX5_proof_49 : decode cX5_proof 49 = .ok (.aload_n 0, 1) := od_42 (od_at tB_cX5_proof_3 1 rfl)
theorem dX5_proof_50 : decode cX5_proof 50 = .ok (.iconst 0, 1) := od_3 (od_at tB_cX5_proof_3 2 rfl)
theorem dX5_proof_51 : decode cX5_proof 51 = .ok (.putfield 159, 3) := od_181 (od_at tB_cX5_proof_3 3 rfl) (od_at tB_cX5_proof_3 4 rfl) (od_at tB_cX5_proof_3 5 rfl) rfl
theorem dX5_proof_54 : decode cX5_proof 54 = .ok (.iconst 1, 1) := od_4 (od_at tB_cX5_proof_3 6 rfl)
theorem dX5_proof_55 : decode cX5_proof 55 = .ok (.ireturn, 1) := od_172 (od_at tB_cX5_proof_3 7 rfl)
def RB_cX5_run_6 : List UInt8 := 0x64 :: 0x2f :: 0xad :: []
def RB_cX5_run_5 : List UInt8 := 0x00 :: 0x9f :: 0x04 :: 0x60 :: 0xb5 :: 0x00 :: 0x9f :: 0x2a :: 0xb4 :: 0x00 :: 0x25 :: 0x2a :: 0xb4 :: 0x00 :: 0x9f :: 0x04 :: RB_cX5_run_6
def RB_cX5_run_4 : List UInt8 := 0x1b :: 0x85 :: 0x14 :: 0x00 :: 0x95 :: 0x69 :: 0x1d :: 0x85 :: 0x69 :: 0x1c :: 0x85 :: 0x6d :: 0x50 :: 0x2a :: 0x59 :: 0xb4 :: RB_cX5_run_5
def RB_cX5_run_3 : List UInt8 := 0x0c :: 0xa0 :: 0x00 :: 0x07 :: 0xb8 :: 0x00 :: 0x5c :: 0xad :: 0x2a :: 0xb4 :: 0x00 :: 0x25 :: 0x2a :: 0xb4 :: 0x00 :: 0x9f :: RB_cX5_run_4
def RB_cX5_run_2 : List UInt8 := 0x65 :: 0x99 :: 0x00 :: 0x13 :: 0x2a :: 0xb4 :: 0x00 :: 0x54 :: 0x9b :: 0x00 :: 0x0c :: 0x2a :: 0xb4 :: 0x00 :: 0x9f :: 0x10 :: RB_cX5_run_3
def RB_cX5_run_1 : List UInt8 := 0x00 :: 0x97 :: 0xb8 :: 0x00 :: 0x65 :: 0x99 :: 0x00 :: 0x1f :: 0x1d :: 0x85 :: 0x0a :: 0x14 :: 0x00 :: 0x97 :: 0xb8 :: 0x00 :: RB_cX5_run_2
def RB_cX5_run_0 : List UInt8 := 0x1b :: 0x85 :: 0x0a :: 0x14 :: 0x00 :: 0x71 :: 0xb8 :: 0x00 :: 0x65 :: 0x99 :: 0x00 :: 0x2b :: 0x1c :: 0x85 :: 0x0a :: 0x14 :: RB_cX5_run_1
theorem tB_cX5_run_0 : cX5_run.data.toList.drop 0 = RB_cX5_run_0 := by decide +kernel
theorem tB_cX5_run_1 : cX5_run.data.toList.drop 16 = RB_cX5_run_1 := od_st tB_cX5_run_0 16 rfl
theorem tB_cX5_run_2 : cX5_run.data.toList.drop 32 = RB_cX5_run_2 := od_st tB_cX5_run_1 16 rfl
theorem tB_cX5_run_3 : cX5_run.data.toList.drop 48 = RB_cX5_run_3 := od_st tB_cX5_run_2 16 rfl
theorem tB_cX5_run_4 : cX5_run.data.toList.drop 64 = RB_cX5_run_4 := od_st tB_cX5_run_3 16 rfl
theorem tB_cX5_run_5 : cX5_run.data.toList.drop 80 = RB_cX5_run_5 := od_st tB_cX5_run_4 16 rfl
theorem tB_cX5_run_6 : cX5_run.data.toList.drop 96 = RB_cX5_run_6 := od_st tB_cX5_run_5 16 rfl
theorem dX5_run_0 : decode cX5_run 0 = .ok (.iload_n 1, 1) := od_27 (od_at tB_cX5_run_0 0 rfl)
theorem dX5_run_1 : decode cX5_run 1 = .ok (.i2l, 1) := od_133 (od_at tB_cX5_run_0 1 rfl)
theorem dX5_run_2 : decode cX5_run 2 = .ok (.lconst 1, 1) := od_10 (od_at tB_cX5_run_0 2 rfl)
theorem dX5_run_3 : decode cX5_run 3 = .ok (.ldc2_w 113, 3) := od_20 (od_at tB_cX5_run_0 3 rfl) (od_at tB_cX5_run_0 4 rfl) (od_at tB_cX5_run_0 5 rfl) rfl
theorem dX5_run_6 : decode cX5_run 6 = .ok (.invokestatic 101, 3) := od_184 (od_at tB_cX5_run_0 6 rfl) (od_at tB_cX5_run_0 7 rfl) (od_at tB_cX5_run_0 8 rfl) rfl
theorem dX5_run_9 : decode cX5_run 9 = .ok (.ifCond .eq 43, 3) := od_153 (od_at tB_cX5_run_0 9 rfl) (od_at tB_cX5_run_0 10 rfl) (od_at tB_cX5_run_0 11 rfl) (by decide +kernel)
theorem dX5_run_12 : decode cX5_run 12 = .ok (.iload_n 2, 1) := od_28 (od_at tB_cX5_run_0 12 rfl)
theorem dX5_run_13 : decode cX5_run 13 = .ok (.i2l, 1) := od_133 (od_at tB_cX5_run_0 13 rfl)
theorem dX5_run_14 : decode cX5_run 14 = .ok (.lconst 1, 1) := od_10 (od_at tB_cX5_run_0 14 rfl)
theorem dX5_run_15 : decode cX5_run 15 = .ok (.ldc2_w 151, 3) := od_20 (od_at tB_cX5_run_0 15 rfl) (od_at tB_cX5_run_0 16 rfl) (od_at tB_cX5_run_0 17 rfl) rfl
theorem dX5_run_18 : decode cX5_run 18 = .ok (.invokestatic 101, 3) := od_184 (od_at tB_cX5_run_1 2 rfl) (od_at tB_cX5_run_1 3 rfl) (od_at tB_cX5_run_1 4 rfl) rfl
theorem dX5_run_21 : decode cX5_run 21 = .ok (.ifCond .eq 31, 3) := od_153 (od_at tB_cX5_run_1 5 rfl) (od_at tB_cX5_run_1 6 rfl) (od_at tB_cX5_run_1 7 rfl) (by decide +kernel)
theorem dX5_run_24 : decode cX5_run 24 = .ok (.iload_n 3, 1) := od_29 (od_at tB_cX5_run_1 8 rfl)
theorem dX5_run_25 : decode cX5_run 25 = .ok (.i2l, 1) := od_133 (od_at tB_cX5_run_1 9 rfl)
theorem dX5_run_26 : decode cX5_run 26 = .ok (.lconst 1, 1) := od_10 (od_at tB_cX5_run_1 10 rfl)
theorem dX5_run_27 : decode cX5_run 27 = .ok (.ldc2_w 151, 3) := od_20 (od_at tB_cX5_run_1 11 rfl) (od_at tB_cX5_run_1 12 rfl) (od_at tB_cX5_run_1 13 rfl) rfl
theorem dX5_run_30 : decode cX5_run 30 = .ok (.invokestatic 101, 3) := od_184 (od_at tB_cX5_run_1 14 rfl) (od_at tB_cX5_run_1 15 rfl) (od_at tB_cX5_run_1 16 rfl) rfl
theorem dX5_run_33 : decode cX5_run 33 = .ok (.ifCond .eq 19, 3) := od_153 (od_at tB_cX5_run_2 1 rfl) (od_at tB_cX5_run_2 2 rfl) (od_at tB_cX5_run_2 3 rfl) (by decide +kernel)
theorem dX5_run_36 : decode cX5_run 36 = .ok (.aload_n 0, 1) := od_42 (od_at tB_cX5_run_2 4 rfl)
theorem dX5_run_37 : decode cX5_run 37 = .ok (.getfield 84, 3) := od_180 (od_at tB_cX5_run_2 5 rfl) (od_at tB_cX5_run_2 6 rfl) (od_at tB_cX5_run_2 7 rfl) rfl
theorem dX5_run_40 : decode cX5_run 40 = .ok (.ifCond .lt 12, 3) := od_155 (od_at tB_cX5_run_2 8 rfl) (od_at tB_cX5_run_2 9 rfl) (od_at tB_cX5_run_2 10 rfl) (by decide +kernel)
theorem dX5_run_43 : decode cX5_run 43 = .ok (.aload_n 0, 1) := od_42 (od_at tB_cX5_run_2 11 rfl)
theorem dX5_run_44 : decode cX5_run 44 = .ok (.getfield 159, 3) := od_180 (od_at tB_cX5_run_2 12 rfl) (od_at tB_cX5_run_2 13 rfl) (od_at tB_cX5_run_2 14 rfl) rfl
theorem dX5_run_47 : decode cX5_run 47 = .ok (.bipush 12, 2) := od_16 (od_at tB_cX5_run_2 15 rfl) (od_at tB_cX5_run_2 16 rfl) (by decide +kernel)
theorem dX5_run_49 : decode cX5_run 49 = .ok (.if_icmp .ne 7, 3) := od_160 (od_at tB_cX5_run_3 1 rfl) (od_at tB_cX5_run_3 2 rfl) (od_at tB_cX5_run_3 3 rfl) (by decide +kernel)
theorem dX5_run_52 : decode cX5_run 52 = .ok (.invokestatic 92, 3) := od_184 (od_at tB_cX5_run_3 4 rfl) (od_at tB_cX5_run_3 5 rfl) (od_at tB_cX5_run_3 6 rfl) rfl
theorem dX5_run_55 : decode cX5_run 55 = .ok (.lreturn, 1) := od_173 (od_at tB_cX5_run_3 7 rfl)
theorem dX5_run_56 : decode cX5_run 56 = .ok (.aload_n 0, 1) := od_42 (od_at tB_cX5_run_3 8 rfl)
theorem dX5_run_57 : decode cX5_run 57 = .ok (.getfield 37, 3) := od_180 (od_at tB_cX5_run_3 9 rfl) (od_at tB_cX5_run_3 10 rfl) (od_at tB_cX5_run_3 11 rfl) rfl
theorem dX5_run_60 : decode cX5_run 60 = .ok (.aload_n 0, 1) := od_42 (od_at tB_cX5_run_3 12 rfl)
theorem dX5_run_61 : decode cX5_run 61 = .ok (.getfield 159, 3) := od_180 (od_at tB_cX5_run_3 13 rfl) (od_at tB_cX5_run_3 14 rfl) (od_at tB_cX5_run_3 15 rfl) rfl
theorem dX5_run_64 : decode cX5_run 64 = .ok (.iload_n 1, 1) := od_27 (od_at tB_cX5_run_4 0 rfl)
theorem dX5_run_65 : decode cX5_run 65 = .ok (.i2l, 1) := od_133 (od_at tB_cX5_run_4 1 rfl)
theorem dX5_run_66 : decode cX5_run 66 = .ok (.ldc2_w 149, 3) := od_20 (od_at tB_cX5_run_4 2 rfl) (od_at tB_cX5_run_4 3 rfl) (od_at tB_cX5_run_4 4 rfl) rfl
theorem dX5_run_69 : decode cX5_run 69 = .ok (.lmul, 1) := od_105 (od_at tB_cX5_run_4 5 rfl)
theorem dX5_run_70 : decode cX5_run 70 = .ok (.iload_n 3, 1) := od_29 (od_at tB_cX5_run_4 6 rfl)
theorem dX5_run_71 : decode cX5_run 71 = .ok (.i2l, 1) := od_133 (od_at tB_cX5_run_4 7 rfl)
theorem dX5_run_72 : decode cX5_run 72 = .ok (.lmul, 1) := od_105 (od_at tB_cX5_run_4 8 rfl)
theorem dX5_run_73 : decode cX5_run 73 = .ok (.iload_n 2, 1) := od_28 (od_at tB_cX5_run_4 9 rfl)
theorem dX5_run_74 : decode cX5_run 74 = .ok (.i2l, 1) := od_133 (od_at tB_cX5_run_4 10 rfl)
theorem dX5_run_75 : decode cX5_run 75 = .ok (.ldiv, 1) := od_109 (od_at tB_cX5_run_4 11 rfl)
theorem dX5_run_76 : decode cX5_run 76 = .ok (.lastore, 1) := od_80 (od_at tB_cX5_run_4 12 rfl)
theorem dX5_run_77 : decode cX5_run 77 = .ok (.aload_n 0, 1) := od_42 (od_at tB_cX5_run_4 13 rfl)
theorem dX5_run_78 : decode cX5_run 78 = .ok (.dup, 1) := od_89 (od_at tB_cX5_run_4 14 rfl)
theorem dX5_run_79 : decode cX5_run 79 = .ok (.getfield 159, 3) := od_180 (od_at tB_cX5_run_4 15 rfl) (od_at tB_cX5_run_4 16 rfl) (od_at tB_cX5_run_4 17 rfl) rfl
theorem dX5_run_82 : decode cX5_run 82 = .ok (.iconst 1, 1) := od_4 (od_at tB_cX5_run_5 2 rfl)
theorem dX5_run_83 : decode cX5_run 83 = .ok (.iadd, 1) := od_96 (od_at tB_cX5_run_5 3 rfl)
theorem dX5_run_84 : decode cX5_run 84 = .ok (.putfield 159, 3) := od_181 (od_at tB_cX5_run_5 4 rfl) (od_at tB_cX5_run_5 5 rfl) (od_at tB_cX5_run_5 6 rfl) rfl
theorem dX5_run_87 : decode cX5_run 87 = .ok (.aload_n 0, 1) := od_42 (od_at tB_cX5_run_5 7 rfl)
theorem dX5_run_88 : decode cX5_run 88 = .ok (.getfield 37, 3) := od_180 (od_at tB_cX5_run_5 8 rfl) (od_at tB_cX5_run_5 9 rfl) (od_at tB_cX5_run_5 10 rfl) rfl
theorem dX5_run_91 : decode cX5_run 91 = .ok (.aload_n 0, 1) := od_42 (od_at tB_cX5_run_5 11 rfl)
theorem dX5_run_92 : decode cX5_run 92 = .ok (.getfield 159, 3) := od_180 (od_at tB_cX5_run_5 12 rfl) (od_at tB_cX5_run_5 13 rfl) (od_at tB_cX5_run_5 14 rfl) rfl
theorem dX5_run_95 : decode cX5_run 95 = .ok (.iconst 1, 1) := od_4 (od_at tB_cX5_run_5 15 rfl)
theorem dX5_run_96 : decode cX5_run 96 = .ok (.isub, 1) := od_100 (od_at tB_cX5_run_6 0 rfl)
theorem dX5_run_97 : decode cX5_run 97 = .ok (.laload, 1) := od_47 (od_at tB_cX5_run_6 1 rfl)
theorem dX5_run_98 : decode cX5_run 98 = .ok (.lreturn, 1) := od_173 (od_at tB_cX5_run_6 2 rfl)
def RB_cX5_isGood_7 : List UInt8 := 0x07 :: 0x04 :: 0xa7 :: 0x00 :: 0x04 :: 0x03 :: 0xac :: []
def RB_cX5_isGood_6 : List UInt8 := 0x09 :: 0x94 :: 0x9e :: 0x00 :: 0x13 :: 0x14 :: 0x00 :: 0xa2 :: 0x21 :: 0x1f :: 0x65 :: 0x69 :: 0x1f :: 0x94 :: 0x9d :: 0x00 :: RB_cX5_isGood_7
def RB_cX5_isGood_5 : List UInt8 := 0x25 :: 0x15 :: 0x05 :: 0x2f :: 0xa7 :: 0x00 :: 0x04 :: 0x21 :: 0x42 :: 0x84 :: 0x05 :: 0x01 :: 0xa7 :: 0xff :: 0xc4 :: 0x1f :: RB_cX5_isGood_6
def RB_cX5_isGood_4 : List UInt8 := 0x40 :: 0x2a :: 0xb4 :: 0x00 :: 0x25 :: 0x15 :: 0x05 :: 0x2f :: 0x21 :: 0x94 :: 0x9e :: 0x00 :: 0x0d :: 0x2a :: 0xb4 :: 0x00 :: RB_cX5_isGood_5
def RB_cX5_isGood_3 : List UInt8 := 0x1f :: 0x94 :: 0x9c :: 0x00 :: 0x0d :: 0x2a :: 0xb4 :: 0x00 :: 0x25 :: 0x15 :: 0x05 :: 0x2f :: 0xa7 :: 0x00 :: 0x04 :: 0x1f :: RB_cX5_isGood_4
def RB_cX5_isGood_2 : List UInt8 := 0x15 :: 0x05 :: 0x2a :: 0xb4 :: 0x00 :: 0x9f :: 0xa2 :: 0x00 :: 0x39 :: 0x2a :: 0xb4 :: 0x00 :: 0x25 :: 0x15 :: 0x05 :: 0x2f :: RB_cX5_isGood_3
def RB_cX5_isGood_1 : List UInt8 := 0x00 :: 0x9f :: 0x04 :: 0x64 :: 0x2f :: 0x40 :: 0x1f :: 0x42 :: 0x2a :: 0xb4 :: 0x00 :: 0x9f :: 0x08 :: 0x64 :: 0x36 :: 0x05 :: RB_cX5_isGood_2
def RB_cX5_isGood_0 : List UInt8 := 0x2a :: 0xb4 :: 0x00 :: 0x9f :: 0x08 :: 0xa2 :: 0x00 :: 0x05 :: 0x03 :: 0xac :: 0x2a :: 0xb4 :: 0x00 :: 0x25 :: 0x2a :: 0xb4 :: RB_cX5_isGood_1
theorem tB_cX5_isGood_0 : cX5_isGood.data.toList.drop 0 = RB_cX5_isGood_0 := by decide +kernel
theorem tB_cX5_isGood_1 : cX5_isGood.data.toList.drop 16 = RB_cX5_isGood_1 := od_st tB_cX5_isGood_0 16 rfl
theorem tB_cX5_isGood_2 : cX5_isGood.data.toList.drop 32 = RB_cX5_isGood_2 := od_st tB_cX5_isGood_1 16 rfl
theorem tB_cX5_isGood_3 : cX5_isGood.data.toList.drop 48 = RB_cX5_isGood_3 := od_st tB_cX5_isGood_2 16 rfl
theorem tB_cX5_isGood_4 : cX5_isGood.data.toList.drop 64 = RB_cX5_isGood_4 := od_st tB_cX5_isGood_3 16 rfl
theorem tB_cX5_isGood_5 : cX5_isGood.data.toList.drop 80 = RB_cX5_isGood_5 := od_st tB_cX5_isGood_4 16 rfl
theorem tB_cX5_isGood_6 : cX5_isGood.data.toList.drop 96 = RB_cX5_isGood_6 := od_st tB_cX5_isGood_5 16 rfl
theorem tB_cX5_isGood_7 : cX5_isGood.data.toList.drop 112 = RB_cX5_isGood_7 := od_st tB_cX5_isGood_6 16 rfl
theorem dX5_isGood_0 : decode cX5_isGood 0 = .ok (.aload_n 0, 1) := od_42 (od_at tB_cX5_isGood_0 0 rfl)
theorem dX5_isGood_1 : decode cX5_isGood 1 = .ok (.getfield 159, 3) := od_180 (od_at tB_cX5_isGood_0 1 rfl) (od_at tB_cX5_isGood_0 2 rfl) (od_at tB_cX5_isGood_0 3 rfl) rfl
theorem dX5_isGood_4 : decode cX5_isGood 4 = .ok (.iconst 5, 1) := od_8 (od_at tB_cX5_isGood_0 4 rfl)
theorem dX5_isGood_5 : decode cX5_isGood 5 = .ok (.if_icmp .ge 5, 3) := od_162 (od_at tB_cX5_isGood_0 5 rfl) (od_at tB_cX5_isGood_0 6 rfl) (od_at tB_cX5_isGood_0 7 rfl) (by decide +kernel)
theorem dX5_isGood_8 : decode cX5_isGood 8 = .ok (.iconst 0, 1) := od_3 (od_at tB_cX5_isGood_0 8 rfl)
theorem dX5_isGood_9 : decode cX5_isGood 9 = .ok (.ireturn, 1) := od_172 (od_at tB_cX5_isGood_0 9 rfl)
theorem dX5_isGood_10 : decode cX5_isGood 10 = .ok (.aload_n 0, 1) := od_42 (od_at tB_cX5_isGood_0 10 rfl)
theorem dX5_isGood_11 : decode cX5_isGood 11 = .ok (.getfield 37, 3) := od_180 (od_at tB_cX5_isGood_0 11 rfl) (od_at tB_cX5_isGood_0 12 rfl) (od_at tB_cX5_isGood_0 13 rfl) rfl
theorem dX5_isGood_14 : decode cX5_isGood 14 = .ok (.aload_n 0, 1) := od_42 (od_at tB_cX5_isGood_0 14 rfl)
theorem dX5_isGood_15 : decode cX5_isGood 15 = .ok (.getfield 159, 3) := od_180 (od_at tB_cX5_isGood_0 15 rfl) (od_at tB_cX5_isGood_0 16 rfl) (od_at tB_cX5_isGood_0 17 rfl) rfl
theorem dX5_isGood_18 : decode cX5_isGood 18 = .ok (.iconst 1, 1) := od_4 (od_at tB_cX5_isGood_1 2 rfl)
theorem dX5_isGood_19 : decode cX5_isGood 19 = .ok (.isub, 1) := od_100 (od_at tB_cX5_isGood_1 3 rfl)
theorem dX5_isGood_20 : decode cX5_isGood 20 = .ok (.laload, 1) := od_47 (od_at tB_cX5_isGood_1 4 rfl)
theorem dX5_isGood_21 : decode cX5_isGood 21 = .ok (.lstore_n 1, 1) := od_64 (od_at tB_cX5_isGood_1 5 rfl)
theorem dX5_isGood_22 : decode cX5_isGood 22 = .ok (.lload_n 1, 1) := od_31 (od_at tB_cX5_isGood_1 6 rfl)
theorem dX5_isGood_23 : decode cX5_isGood 23 = .ok (.lstore_n 3, 1) := od_66 (od_at tB_cX5_isGood_1 7 rfl)
theorem dX5_isGood_24 : decode cX5_isGood 24 = .ok (.aload_n 0, 1) := od_42 (od_at tB_cX5_isGood_1 8 rfl)
theorem dX5_isGood_25 : decode cX5_isGood 25 = .ok (.getfield 159, 3) := od_180 (od_at tB_cX5_isGood_1 9 rfl) (od_at tB_cX5_isGood_1 10 rfl) (od_at tB_cX5_isGood_1 11 rfl) rfl
theorem dX5_isGood_28 : decode cX5_isGood 28 = .ok (.iconst 5, 1) := od_8 (od_at tB_cX5_isGood_1 12 rfl)
theorem dX5_isGood_29 : decode cX5_isGood 29 = .ok (.isub, 1) := od_100 (od_at tB_cX5_isGood_1 13 rfl)
theorem dX5_isGood_30 : decode cX5_isGood 30 = .ok (.istore 5, 2) := od_54 (od_at tB_cX5_isGood_1 14 rfl) (od_at tB_cX5_isGood_1 15 rfl) rfl
theorem dX5_isGood_32 : decode cX5_isGood 32 = .ok (.iload 5, 2) := od_21 (od_at tB_cX5_isGood_2 0 rfl) (od_at tB_cX5_isGood_2 1 rfl) rfl
theorem dX5_isGood_34 : decode cX5_isGood 34 = .ok (.aload_n 0, 1) := od_42 (od_at tB_cX5_isGood_2 2 rfl)
theorem dX5_isGood_35 : decode cX5_isGood 35 = .ok (.getfield 159, 3) := od_180 (od_at tB_cX5_isGood_2 3 rfl) (od_at tB_cX5_isGood_2 4 rfl) (od_at tB_cX5_isGood_2 5 rfl) rfl
theorem dX5_isGood_38 : decode cX5_isGood 38 = .ok (.if_icmp .ge 57, 3) := od_162 (od_at tB_cX5_isGood_2 6 rfl) (od_at tB_cX5_isGood_2 7 rfl) (od_at tB_cX5_isGood_2 8 rfl) (by decide +kernel)
theorem dX5_isGood_41 : decode cX5_isGood 41 = .ok (.aload_n 0, 1) := od_42 (od_at tB_cX5_isGood_2 9 rfl)
theorem dX5_isGood_42 : decode cX5_isGood 42 = .ok (.getfield 37, 3) := od_180 (od_at tB_cX5_isGood_2 10 rfl) (od_at tB_cX5_isGood_2 11 rfl) (od_at tB_cX5_isGood_2 12 rfl) rfl
theorem dX5_isGood_45 : decode cX5_isGood 45 = .ok (.iload 5, 2) := od_21 (od_at tB_cX5_isGood_2 13 rfl) (od_at tB_cX5_isGood_2 14 rfl) rfl
theorem dX5_isGood_47 : decode cX5_isGood 47 = .ok (.laload, 1) := od_47 (od_at tB_cX5_isGood_2 15 rfl)
theorem dX5_isGood_48 : decode cX5_isGood 48 = .ok (.lload_n 1, 1) := od_31 (od_at tB_cX5_isGood_3 0 rfl)
theorem dX5_isGood_49 : decode cX5_isGood 49 = .ok (.lcmp, 1) := od_148 (od_at tB_cX5_isGood_3 1 rfl)
theorem dX5_isGood_50 : decode cX5_isGood 50 = .ok (.ifCond .ge 13, 3) := od_156 (od_at tB_cX5_isGood_3 2 rfl) (od_at tB_cX5_isGood_3 3 rfl) (od_at tB_cX5_isGood_3 4 rfl) (by decide +kernel)
theorem dX5_isGood_53 : decode cX5_isGood 53 = .ok (.aload_n 0, 1) := od_42 (od_at tB_cX5_isGood_3 5 rfl)
theorem dX5_isGood_54 : decode cX5_isGood 54 = .ok (.getfield 37, 3) := od_180 (od_at tB_cX5_isGood_3 6 rfl) (od_at tB_cX5_isGood_3 7 rfl) (od_at tB_cX5_isGood_3 8 rfl) rfl
theorem dX5_isGood_57 : decode cX5_isGood 57 = .ok (.iload 5, 2) := od_21 (od_at tB_cX5_isGood_3 9 rfl) (od_at tB_cX5_isGood_3 10 rfl) rfl
theorem dX5_isGood_59 : decode cX5_isGood 59 = .ok (.laload, 1) := od_47 (od_at tB_cX5_isGood_3 11 rfl)
theorem dX5_isGood_60 : decode cX5_isGood 60 = .ok (.goto 4, 3) := od_167 (od_at tB_cX5_isGood_3 12 rfl) (od_at tB_cX5_isGood_3 13 rfl) (od_at tB_cX5_isGood_3 14 rfl) (by decide +kernel)
theorem dX5_isGood_63 : decode cX5_isGood 63 = .ok (.lload_n 1, 1) := od_31 (od_at tB_cX5_isGood_3 15 rfl)
theorem dX5_isGood_64 : decode cX5_isGood 64 = .ok (.lstore_n 1, 1) := od_64 (od_at tB_cX5_isGood_4 0 rfl)
theorem dX5_isGood_65 : decode cX5_isGood 65 = .ok (.aload_n 0, 1) := od_42 (od_at tB_cX5_isGood_4 1 rfl)
theorem dX5_isGood_66 : decode cX5_isGood 66 = .ok (.getfield 37, 3) := od_180 (od_at tB_cX5_isGood_4 2 rfl) (od_at tB_cX5_isGood_4 3 rfl) (od_at tB_cX5_isGood_4 4 rfl) rfl
theorem dX5_isGood_69 : decode cX5_isGood 69 = .ok (.iload 5, 2) := od_21 (od_at tB_cX5_isGood_4 5 rfl) (od_at tB_cX5_isGood_4 6 rfl) rfl
theorem dX5_isGood_71 : decode cX5_isGood 71 = .ok (.laload, 1) := od_47 (od_at tB_cX5_isGood_4 7 rfl)
theorem dX5_isGood_72 : decode cX5_isGood 72 = .ok (.lload_n 3, 1) := od_33 (od_at tB_cX5_isGood_4 8 rfl)
theorem dX5_isGood_73 : decode cX5_isGood 73 = .ok (.lcmp, 1) := od_148 (od_at tB_cX5_isGood_4 9 rfl)
theorem dX5_isGood_74 : decode cX5_isGood 74 = .ok (.ifCond .le 13, 3) := od_158 (od_at tB_cX5_isGood_4 10 rfl) (od_at tB_cX5_isGood_4 11 rfl) (od_at tB_cX5_isGood_4 12 rfl) (by decide +kernel)
theorem dX5_isGood_77 : decode cX5_isGood 77 = .ok (.aload_n 0, 1) := od_42 (od_at tB_cX5_isGood_4 13 rfl)
theorem dX5_isGood_78 : decode cX5_isGood 78 = .ok (.getfield 37, 3) := od_180 (od_at tB_cX5_isGood_4 14 rfl) (od_at tB_cX5_isGood_4 15 rfl) (od_at tB_cX5_isGood_4 16 rfl) rfl
theorem dX5_isGood_81 : decode cX5_isGood 81 = .ok (.iload 5, 2) := od_21 (od_at tB_cX5_isGood_5 1 rfl) (od_at tB_cX5_isGood_5 2 rfl) rfl
theorem dX5_isGood_83 : decode cX5_isGood 83 = .ok (.laload, 1) := od_47 (od_at tB_cX5_isGood_5 3 rfl)
theorem dX5_isGood_84 : decode cX5_isGood 84 = .ok (.goto 4, 3) := od_167 (od_at tB_cX5_isGood_5 4 rfl) (od_at tB_cX5_isGood_5 5 rfl) (od_at tB_cX5_isGood_5 6 rfl) (by decide +kernel)
theorem dX5_isGood_87 : decode cX5_isGood 87 = .ok (.lload_n 3, 1) := od_33 (od_at tB_cX5_isGood_5 7 rfl)
theorem dX5_isGood_88 : decode cX5_isGood 88 = .ok (.lstore_n 3, 1) := od_66 (od_at tB_cX5_isGood_5 8 rfl)
theorem dX5_isGood_89 : decode cX5_isGood 89 = .ok (.iinc 5 1, 3) := od_132 (od_at tB_cX5_isGood_5 9 rfl) (od_at tB_cX5_isGood_5 10 rfl) (od_at tB_cX5_isGood_5 11 rfl) rfl (by decide +kernel)
theorem dX5_isGood_92 : decode cX5_isGood 92 = .ok (.goto (-60), 3) := od_167 (od_at tB_cX5_isGood_5 12 rfl) (od_at tB_cX5_isGood_5 13 rfl) (od_at tB_cX5_isGood_5 14 rfl) (by decide +kernel)
theorem dX5_isGood_95 : decode cX5_isGood 95 = .ok (.lload_n 1, 1) := od_31 (od_at tB_cX5_isGood_5 15 rfl)
theorem dX5_isGood_96 : decode cX5_isGood 96 = .ok (.lconst 0, 1) := od_9 (od_at tB_cX5_isGood_6 0 rfl)
theorem dX5_isGood_97 : decode cX5_isGood 97 = .ok (.lcmp, 1) := od_148 (od_at tB_cX5_isGood_6 1 rfl)
theorem dX5_isGood_98 : decode cX5_isGood 98 = .ok (.ifCond .le 19, 3) := od_158 (od_at tB_cX5_isGood_6 2 rfl) (od_at tB_cX5_isGood_6 3 rfl) (od_at tB_cX5_isGood_6 4 rfl) (by decide +kernel)
theorem dX5_isGood_101 : decode cX5_isGood 101 = .ok (.ldc2_w 162, 3) := od_20 (od_at tB_cX5_isGood_6 5 rfl) (od_at tB_cX5_isGood_6 6 rfl) (od_at tB_cX5_isGood_6 7 rfl) rfl
theorem dX5_isGood_104 : decode cX5_isGood 104 = .ok (.lload_n 3, 1) := od_33 (od_at tB_cX5_isGood_6 8 rfl)
theorem dX5_isGood_105 : decode cX5_isGood 105 = .ok (.lload_n 1, 1) := od_31 (od_at tB_cX5_isGood_6 9 rfl)
theorem dX5_isGood_106 : decode cX5_isGood 106 = .ok (.lsub, 1) := od_101 (od_at tB_cX5_isGood_6 10 rfl)
theorem dX5_isGood_107 : decode cX5_isGood 107 = .ok (.lmul, 1) := od_105 (od_at tB_cX5_isGood_6 11 rfl)
theorem dX5_isGood_108 : decode cX5_isGood 108 = .ok (.lload_n 1, 1) := od_31 (od_at tB_cX5_isGood_6 12 rfl)
theorem dX5_isGood_109 : decode cX5_isGood 109 = .ok (.lcmp, 1) := od_148 (od_at tB_cX5_isGood_6 13 rfl)
theorem dX5_isGood_110 : decode cX5_isGood 110 = .ok (.ifCond .gt 7, 3) := od_157 (od_at tB_cX5_isGood_6 14 rfl) (od_at tB_cX5_isGood_6 15 rfl) (od_at tB_cX5_isGood_6 16 rfl) (by decide +kernel)
theorem dX5_isGood_113 : decode cX5_isGood 113 = .ok (.iconst 1, 1) := od_4 (od_at tB_cX5_isGood_7 1 rfl)
theorem dX5_isGood_114 : decode cX5_isGood 114 = .ok (.goto 4, 3) := od_167 (od_at tB_cX5_isGood_7 2 rfl) (od_at tB_cX5_isGood_7 3 rfl) (od_at tB_cX5_isGood_7 4 rfl) (by decide +kernel)
theorem dX5_isGood_117 : decode cX5_isGood 117 = .ok (.iconst 0, 1) := od_3 (od_at tB_cX5_isGood_7 5 rfl)
theorem dX5_isGood_118 : decode cX5_isGood 118 = .ok (.ireturn, 1) := od_172 (od_at tB_cX5_isGood_7 6 rfl)
def RB_cX5_proving_4 : List UInt8 := 0x54 :: 0xa7 :: 0x00 :: 0x07 :: 0x2a :: 0xb4 :: 0x00 :: 0x99 :: 0xac :: []
def RB_cX5_proving_3 : List UInt8 := 0x04 :: 0xa7 :: 0x00 :: 0x17 :: 0x03 :: 0xa7 :: 0x00 :: 0x13 :: 0x1b :: 0x05 :: 0xa0 :: 0x00 :: 0x0a :: 0x2a :: 0xb4 :: 0x00 :: RB_cX5_proving_4
def RB_cX5_proving_2 : List UInt8 := 0x9f :: 0xa7 :: 0x00 :: 0x27 :: 0x1b :: 0x04 :: 0xa0 :: 0x00 :: 0x12 :: 0x2a :: 0xb6 :: 0x00 :: 0xa6 :: 0x99 :: 0x00 :: 0x07 :: RB_cX5_proving_3
def RB_cX5_proving_1 : List UInt8 := 0xb4 :: 0x00 :: 0x54 :: 0x9c :: 0x00 :: 0x06 :: 0x10 :: 0xfd :: 0xac :: 0x1b :: 0x9a :: 0x00 :: 0x0a :: 0x2a :: 0xb4 :: 0x00 :: RB_cX5_proving_2
def RB_cX5_proving_0 : List UInt8 := 0x1b :: 0x85 :: 0x09 :: 0x14 :: 0x00 :: 0xa4 :: 0xb8 :: 0x00 :: 0x65 :: 0x9a :: 0x00 :: 0x06 :: 0x10 :: 0xfe :: 0xac :: 0x2a :: RB_cX5_proving_1
theorem tB_cX5_proving_0 : cX5_proving.data.toList.drop 0 = RB_cX5_proving_0 := by decide +kernel
theorem tB_cX5_proving_1 : cX5_proving.data.toList.drop 16 = RB_cX5_proving_1 := od_st tB_cX5_proving_0 16 rfl
theorem tB_cX5_proving_2 : cX5_proving.data.toList.drop 32 = RB_cX5_proving_2 := od_st tB_cX5_proving_1 16 rfl
theorem tB_cX5_proving_3 : cX5_proving.data.toList.drop 48 = RB_cX5_proving_3 := od_st tB_cX5_proving_2 16 rfl
theorem tB_cX5_proving_4 : cX5_proving.data.toList.drop 64 = RB_cX5_proving_4 := od_st tB_cX5_proving_3 16 rfl
theorem dX5_proving_0 : decode cX5_proving 0 = .ok (.iload_n 1, 1) := od_27 (od_at tB_cX5_proving_0 0 rfl)
theorem dX5_proving_1 : decode cX5_proving 1 = .ok (.i2l, 1) := od_133 (od_at tB_cX5_proving_0 1 rfl)
theorem dX5_proving_2 : decode cX5_proving 2 = .ok (.lconst 0, 1) := od_9 (od_at tB_cX5_proving_0 2 rfl)
theorem dX5_proving_3 : decode cX5_proving 3 = .ok (.ldc2_w 164, 3) := od_20 (od_at tB_cX5_proving_0 3 rfl) (od_at tB_cX5_proving_0 4 rfl) (od_at tB_cX5_proving_0 5 rfl) rfl
theorem dX5_proving_6 : decode cX5_proving 6 = .ok (.invokestatic 101, 3) := od_184 (od_at tB_cX5_proving_0 6 rfl) (od_at tB_cX5_proving_0 7 rfl) (od_at tB_cX5_proving_0 8 rfl) rfl
theorem dX5_proving_9 : decode cX5_proving 9 = .ok (.ifCond .ne 6, 3) := od_154 (od_at tB_cX5_proving_0 9 rfl) (od_at tB_cX5_proving_0 10 rfl) (od_at tB_cX5_proving_0 11 rfl) (by decide +kernel)
theorem dX5_proving_12 : decode cX5_proving 12 = .ok (.bipush (-2), 2) := od_16 (od_at tB_cX5_proving_0 12 rfl) (od_at tB_cX5_proving_0 13 rfl) (by decide +kernel)
theorem dX5_proving_14 : decode cX5_proving 14 = .ok (.ireturn, 1) := od_172 (od_at tB_cX5_proving_0 14 rfl)
theorem dX5_proving_15 : decode cX5_proving 15 = .ok (.aload_n 0, 1) := od_42 (od_at tB_cX5_proving_0 15 rfl)
theorem dX5_proving_16 : decode cX5_proving 16 = .ok (.getfield 84, 3) := od_180 (od_at tB_cX5_proving_1 0 rfl) (od_at tB_cX5_proving_1 1 rfl) (od_at tB_cX5_proving_1 2 rfl) rfl
theorem dX5_proving_19 : decode cX5_proving 19 = .ok (.ifCond .ge 6, 3) := od_156 (od_at tB_cX5_proving_1 3 rfl) (od_at tB_cX5_proving_1 4 rfl) (od_at tB_cX5_proving_1 5 rfl) (by decide +kernel)
theorem dX5_proving_22 : decode cX5_proving 22 = .ok (.bipush (-3), 2) := od_16 (od_at tB_cX5_proving_1 6 rfl) (od_at tB_cX5_proving_1 7 rfl) (by decide +kernel)
theorem dX5_proving_24 : decode cX5_proving 24 = .ok (.ireturn, 1) := od_172 (od_at tB_cX5_proving_1 8 rfl)
theorem dX5_proving_25 : decode cX5_proving 25 = .ok (.iload_n 1, 1) := od_27 (od_at tB_cX5_proving_1 9 rfl)
theorem dX5_proving_26 : decode cX5_proving 26 = .ok (.ifCond .ne 10, 3) := od_154 (od_at tB_cX5_proving_1 10 rfl) (od_at tB_cX5_proving_1 11 rfl) (od_at tB_cX5_proving_1 12 rfl) (by decide +kernel)
theorem dX5_proving_29 : decode cX5_proving 29 = .ok (.aload_n 0, 1) := od_42 (od_at tB_cX5_proving_1 13 rfl)
theorem dX5_proving_30 : decode cX5_proving 30 = .ok (.getfield 159, 3) := od_180 (od_at tB_cX5_proving_1 14 rfl) (od_at tB_cX5_proving_1 15 rfl) (od_at tB_cX5_proving_1 16 rfl) rfl
theorem dX5_proving_33 : decode cX5_proving 33 = .ok (.goto 39, 3) := od_167 (od_at tB_cX5_proving_2 1 rfl) (od_at tB_cX5_proving_2 2 rfl) (od_at tB_cX5_proving_2 3 rfl) (by decide +kernel)
theorem dX5_proving_36 : decode cX5_proving 36 = .ok (.iload_n 1, 1) := od_27 (od_at tB_cX5_proving_2 4 rfl)
theorem dX5_proving_37 : decode cX5_proving 37 = .ok (.iconst 1, 1) := od_4 (od_at tB_cX5_proving_2 5 rfl)
theorem dX5_proving_38 : decode cX5_proving 38 = .ok (.if_icmp .ne 18, 3) := od_160 (od_at tB_cX5_proving_2 6 rfl) (od_at tB_cX5_proving_2 7 rfl) (od_at tB_cX5_proving_2 8 rfl) (by decide +kernel)
theorem dX5_proving_41 : decode cX5_proving 41 = .ok (.aload_n 0, 1) := od_42 (od_at tB_cX5_proving_2 9 rfl)
theorem dX5_proving_42 : decode cX5_proving 42 = .ok (.invokevirtual 166, 3) := od_182 (od_at tB_cX5_proving_2 10 rfl) (od_at tB_cX5_proving_2 11 rfl) (od_at tB_cX5_proving_2 12 rfl) rfl
theorem dX5_proving_45 : decode cX5_proving 45 = .ok (.ifCond .eq 7, 3) := od_153 (od_at tB_cX5_proving_2 13 rfl) (od_at tB_cX5_proving_2 14 rfl) (od_at tB_cX5_proving_2 15 rfl) (by decide +kernel)
theorem dX5_proving_48 : decode cX5_proving 48 = .ok (.iconst 1, 1) := od_4 (od_at tB_cX5_proving_3 0 rfl)
theorem dX5_proving_49 : decode cX5_proving 49 = .ok (.goto 23, 3) := od_167 (od_at tB_cX5_proving_3 1 rfl) (od_at tB_cX5_proving_3 2 rfl) (od_at tB_cX5_proving_3 3 rfl) (by decide +kernel)
theorem dX5_proving_52 : decode cX5_proving 52 = .ok (.iconst 0, 1) := od_3 (od_at tB_cX5_proving_3 4 rfl)
theorem dX5_proving_53 : decode cX5_proving 53 = .ok (.goto 19, 3) := od_167 (od_at tB_cX5_proving_3 5 rfl) (od_at tB_cX5_proving_3 6 rfl) (od_at tB_cX5_proving_3 7 rfl) (by decide +kernel)
theorem dX5_proving_56 : decode cX5_proving 56 = .ok (.iload_n 1, 1) := od_27 (od_at tB_cX5_proving_3 8 rfl)
theorem dX5_proving_57 : decode cX5_proving 57 = .ok (.iconst 2, 1) := od_5 (od_at tB_cX5_proving_3 9 rfl)
theorem dX5_proving_58 : decode cX5_proving 58 = .ok (.if_icmp .ne 10, 3) := od_160 (od_at tB_cX5_proving_3 10 rfl) (od_at tB_cX5_proving_3 11 rfl) (od_at tB_cX5_proving_3 12 rfl) (by decide +kernel)
theorem dX5_proving_61 : decode cX5_proving 61 = .ok (.aload_n 0, 1) := od_42 (od_at tB_cX5_proving_3 13 rfl)
theorem dX5_proving_62 : decode cX5_proving 62 = .ok (.getfield 84, 3) := od_180 (od_at tB_cX5_proving_3 14 rfl) (od_at tB_cX5_proving_3 15 rfl) (od_at tB_cX5_proving_3 16 rfl) rfl
theorem dX5_proving_65 : decode cX5_proving 65 = .ok (.goto 7, 3) := od_167 (od_at tB_cX5_proving_4 1 rfl) (od_at tB_cX5_proving_4 2 rfl) (od_at tB_cX5_proving_4 3 rfl) (by decide +kernel)
theorem dX5_proving_68 : decode cX5_proving 68 = .ok (.aload_n 0, 1) := od_42 (od_at tB_cX5_proving_4 4 rfl)
theorem dX5_proving_69 : decode cX5_proving 69 = .ok (.getfield 153, 3) := od_180 (od_at tB_cX5_proving_4 5 rfl) (od_at tB_cX5_proving_4 6 rfl) (od_at tB_cX5_proving_4 7 rfl) rfl
theorem dX5_proving_72 : decode cX5_proving 72 = .ok (.ireturn, 1) := od_172 (od_at tB_cX5_proving_4 8 rfl)
def RB_cX5_accept_8 : List UInt8 := 0x88 :: 0xb6 :: 0x00 :: 0x81 :: 0x2a :: 0x02 :: 0xb5 :: 0x00 :: 0x54 :: 0x16 :: 0x04 :: 0x88 :: 0xac :: []
def RB_cX5_accept_7 : List UInt8 := 0x06 :: 0x10 :: 0xfc :: 0xac :: 0x2a :: 0x2a :: 0xb4 :: 0x00 :: 0x54 :: 0x2a :: 0xb4 :: 0x00 :: 0x99 :: 0x1b :: 0x16 :: 0x04 :: RB_cX5_accept_8
def RB_cX5_accept_6 : List UInt8 := 0x10 :: 0xf7 :: 0xac :: 0x2a :: 0xb4 :: 0x00 :: 0x0d :: 0x2a :: 0xb4 :: 0x00 :: 0x54 :: 0x2e :: 0x10 :: 0x0c :: 0xa0 :: 0x00 :: RB_cX5_accept_7
def RB_cX5_accept_5 : List UInt8 := 0x85 :: 0x69 :: 0x20 :: 0xb8 :: 0x00 :: 0xac :: 0x37 :: 0x04 :: 0x16 :: 0x04 :: 0xb8 :: 0x00 :: 0x7d :: 0x9a :: 0x00 :: 0x06 :: RB_cX5_accept_6
def RB_cX5_accept_4 : List UInt8 := 0xaa :: 0x2a :: 0xb4 :: 0x00 :: 0x9c :: 0x85 :: 0x69 :: 0x2a :: 0xb4 :: 0x00 :: 0x07 :: 0x2a :: 0xb4 :: 0x00 :: 0x54 :: 0x2e :: RB_cX5_accept_5
def RB_cX5_accept_3 : List UInt8 := 0xb4 :: 0x00 :: 0x25 :: 0x15 :: 0x04 :: 0x2f :: 0x61 :: 0x41 :: 0x84 :: 0x04 :: 0x01 :: 0xa7 :: 0xff :: 0xea :: 0x14 :: 0x00 :: RB_cX5_accept_4
def RB_cX5_accept_2 : List UInt8 := 0x9f :: 0x08 :: 0x64 :: 0x36 :: 0x04 :: 0x15 :: 0x04 :: 0x2a :: 0xb4 :: 0x00 :: 0x9f :: 0xa2 :: 0x00 :: 0x13 :: 0x20 :: 0x2a :: RB_cX5_accept_3
def RB_cX5_accept_1 : List UInt8 := 0x0a :: 0x2a :: 0xb6 :: 0x00 :: 0xa6 :: 0x9a :: 0x00 :: 0x06 :: 0x10 :: 0xfd :: 0xac :: 0x09 :: 0x41 :: 0x2a :: 0xb4 :: 0x00 :: RB_cX5_accept_2
def RB_cX5_accept_0 : List UInt8 := 0x1b :: 0xb8 :: 0x00 :: 0x7a :: 0x9a :: 0x00 :: 0x06 :: 0x10 :: 0xfe :: 0xac :: 0x2a :: 0xb4 :: 0x00 :: 0x54 :: 0x9b :: 0x00 :: RB_cX5_accept_1
theorem tB_cX5_accept_0 : cX5_accept.data.toList.drop 0 = RB_cX5_accept_0 := by decide +kernel
theorem tB_cX5_accept_1 : cX5_accept.data.toList.drop 16 = RB_cX5_accept_1 := od_st tB_cX5_accept_0 16 rfl
theorem tB_cX5_accept_2 : cX5_accept.data.toList.drop 32 = RB_cX5_accept_2 := od_st tB_cX5_accept_1 16 rfl
theorem tB_cX5_accept_3 : cX5_accept.data.toList.drop 48 = RB_cX5_accept_3 := od_st tB_cX5_accept_2 16 rfl
theorem tB_cX5_accept_4 : cX5_accept.data.toList.drop 64 = RB_cX5_accept_4 := od_st tB_cX5_accept_3 16 rfl
theorem tB_cX5_accept_5 : cX5_accept.data.toList.drop 80 = RB_cX5_accept_5 := od_st tB_cX5_accept_4 16 rfl
theorem tB_cX5_accept_6 : cX5_accept.data.toList.drop 96 = RB_cX5_accept_6 := od_st tB_cX5_accept_5 16 rfl
theorem tB_cX5_accept_7 : cX5_accept.data.toList.drop 112 = RB_cX5_accept_7 := od_st tB_cX5_accept_6 16 rfl
theorem tB_cX5_accept_8 : cX5_accept.data.toList.drop 128 = RB_cX5_accept_8 := od_st tB_cX5_accept_7 16 rfl
theorem dX5_accept_0 : decode cX5_accept 0 = .ok (.iload_n 1, 1) := od_27 (od_at tB_cX5_accept_0 0 rfl)
theorem dX5_accept_1 : decode cX5_accept 1 = .ok (.invokestatic 122, 3) := od_184 (od_at tB_cX5_accept_0 1 rfl) (od_at tB_cX5_accept_0 2 rfl) (od_at tB_cX5_accept_0 3 rfl) rfl
theorem dX5_accept_4 : decode cX5_accept 4 = .ok (.ifCond .ne 6, 3) := od_154 (od_at tB_cX5_accept_0 4 rfl) (od_at tB_cX5_accept_0 5 rfl) (od_at tB_cX5_accept_0 6 rfl) (by decide +kernel)
theorem dX5_accept_7 : decode cX5_accept 7 = .ok (.bipush (-2), 2) := od_16 (od_at tB_cX5_accept_0 7 rfl) (od_at tB_cX5_accept_0 8 rfl) (by decide +kernel)
theorem dX5_accept_9 : decode cX5_accept 9 = .ok (.ireturn, 1) := od_172 (od_at tB_cX5_accept_0 9 rfl)
theorem dX5_accept_10 : decode cX5_accept 10 = .ok (.aload_n 0, 1) := od_42 (od_at tB_cX5_accept_0 10 rfl)
theorem dX5_accept_11 : decode cX5_accept 11 = .ok (.getfield 84, 3) := od_180 (od_at tB_cX5_accept_0 11 rfl) (od_at tB_cX5_accept_0 12 rfl) (od_at tB_cX5_accept_0 13 rfl) rfl
theorem dX5_accept_14 : decode cX5_accept 14 = .ok (.ifCond .lt 10, 3) := od_155 (od_at tB_cX5_accept_0 14 rfl) (od_at tB_cX5_accept_0 15 rfl) (od_at tB_cX5_accept_0 16 rfl) (by decide +kernel)
theorem dX5_accept_17 : decode cX5_accept 17 = .ok (.aload_n 0, 1) := od_42 (od_at tB_cX5_accept_1 1 rfl)
theorem dX5_accept_18 : decode cX5_accept 18 = .ok (.invokevirtual 166, 3) := od_182 (od_at tB_cX5_accept_1 2 rfl) (od_at tB_cX5_accept_1 3 rfl) (od_at tB_cX5_accept_1 4 rfl) rfl
theorem dX5_accept_21 : decode cX5_accept 21 = .ok (.ifCond .ne 6, 3) := od_154 (od_at tB_cX5_accept_1 5 rfl) (od_at tB_cX5_accept_1 6 rfl) (od_at tB_cX5_accept_1 7 rfl) (by decide +kernel)
theorem dX5_accept_24 : decode cX5_accept 24 = .ok (.bipush (-3), 2) := od_16 (od_at tB_cX5_accept_1 8 rfl) (od_at tB_cX5_accept_1 9 rfl) (by decide +kernel)
theorem dX5_accept_26 : decode cX5_accept 26 = .ok (.ireturn, 1) := od_172 (od_at tB_cX5_accept_1 10 rfl)
theorem dX5_accept_27 : decode cX5_accept 27 = .ok (.lconst 0, 1) := od_9 (od_at tB_cX5_accept_1 11 rfl)
theorem dX5_accept_28 : decode cX5_accept 28 = .ok (.lstore_n 2, 1) := od_65 (od_at tB_cX5_accept_1 12 rfl)
theorem dX5_accept_29 : decode cX5_accept 29 = .ok (.aload_n 0, 1) := od_42 (od_at tB_cX5_accept_1 13 rfl)
theorem dX5_accept_30 : decode cX5_accept 30 = .ok (.getfield 159, 3) := od_180 (od_at tB_cX5_accept_1 14 rfl) (od_at tB_cX5_accept_1 15 rfl) (od_at tB_cX5_accept_1 16 rfl) rfl
theorem dX5_accept_33 : decode cX5_accept 33 = .ok (.iconst 5, 1) := od_8 (od_at tB_cX5_accept_2 1 rfl)
theorem dX5_accept_34 : decode cX5_accept 34 = .ok (.isub, 1) := od_100 (od_at tB_cX5_accept_2 2 rfl)
theorem dX5_accept_35 : decode cX5_accept 35 = .ok (.istore 4, 2) := od_54 (od_at tB_cX5_accept_2 3 rfl) (od_at tB_cX5_accept_2 4 rfl) rfl
theorem dX5_accept_37 : decode cX5_accept 37 = .ok (.iload 4, 2) := od_21 (od_at tB_cX5_accept_2 5 rfl) (od_at tB_cX5_accept_2 6 rfl) rfl
theorem dX5_accept_39 : decode cX5_accept 39 = .ok (.aload_n 0, 1) := od_42 (od_at tB_cX5_accept_2 7 rfl)
theorem dX5_accept_40 : decode cX5_accept 40 = .ok (.getfield 159, 3) := od_180 (od_at tB_cX5_accept_2 8 rfl) (od_at tB_cX5_accept_2 9 rfl) (od_at tB_cX5_accept_2 10 rfl) rfl
theorem dX5_accept_43 : decode cX5_accept 43 = .ok (.if_icmp .ge 19, 3) := od_162 (od_at tB_cX5_accept_2 11 rfl) (od_at tB_cX5_accept_2 12 rfl) (od_at tB_cX5_accept_2 13 rfl) (by decide +kernel)
theorem dX5_accept_46 : decode cX5_accept 46 = .ok (.lload_n 2, 1) := od_32 (od_at tB_cX5_accept_2 14 rfl)
theorem dX5_accept_47 : decode cX5_accept 47 = .ok (.aload_n 0, 1) := od_42 (od_at tB_cX5_accept_2 15 rfl)
theorem dX5_accept_48 : decode cX5_accept 48 = .ok (.getfield 37, 3) := od_180 (od_at tB_cX5_accept_3 0 rfl) (od_at tB_cX5_accept_3 1 rfl) (od_at tB_cX5_accept_3 2 rfl) rfl
theorem dX5_accept_51 : decode cX5_accept 51 = .ok (.iload 4, 2) := od_21 (od_at tB_cX5_accept_3 3 rfl) (od_at tB_cX5_accept_3 4 rfl) rfl
theorem dX5_accept_53 : decode cX5_accept 53 = .ok (.laload, 1) := od_47 (od_at tB_cX5_accept_3 5 rfl)
theorem dX5_accept_54 : decode cX5_accept 54 = .ok (.ladd, 1) := od_97 (od_at tB_cX5_accept_3 6 rfl)
theorem dX5_accept_55 : decode cX5_accept 55 = .ok (.lstore_n 2, 1) := od_65 (od_at tB_cX5_accept_3 7 rfl)
theorem dX5_accept_56 : decode cX5_accept 56 = .ok (.iinc 4 1, 3) := od_132 (od_at tB_cX5_accept_3 8 rfl) (od_at tB_cX5_accept_3 9 rfl) (od_at tB_cX5_accept_3 10 rfl) rfl (by decide +kernel)
theorem dX5_accept_59 : decode cX5_accept 59 = .ok (.goto (-22), 3) := od_167 (od_at tB_cX5_accept_3 11 rfl) (od_at tB_cX5_accept_3 12 rfl) (od_at tB_cX5_accept_3 13 rfl) (by decide +kernel)
theorem dX5_accept_62 : decode cX5_accept 62 = .ok (.ldc2_w 170, 3) := od_20 (od_at tB_cX5_accept_3 14 rfl) (od_at tB_cX5_accept_3 15 rfl) (od_at tB_cX5_accept_3 16 rfl) rfl
theorem dX5_accept_65 : decode cX5_accept 65 = .ok (.aload_n 0, 1) := od_42 (od_at tB_cX5_accept_4 1 rfl)
theorem dX5_accept_66 : decode cX5_accept 66 = .ok (.getfield 156, 3) := od_180 (od_at tB_cX5_accept_4 2 rfl) (od_at tB_cX5_accept_4 3 rfl) (od_at tB_cX5_accept_4 4 rfl) rfl
theorem dX5_accept_69 : decode cX5_accept 69 = .ok (.i2l, 1) := od_133 (od_at tB_cX5_accept_4 5 rfl)
theorem dX5_accept_70 : decode cX5_accept 70 = .ok (.lmul, 1) := od_105 (od_at tB_cX5_accept_4 6 rfl)
theorem dX5_accept_71 : decode cX5_accept 71 = .ok (.aload_n 0, 1) := od_42 (od_at tB_cX5_accept_4 7 rfl)
theorem dX5_accept_72 : decode cX5_accept 72 = .ok (.getfield 7, 3) := od_180 (od_at tB_cX5_accept_4 8 rfl) (od_at tB_cX5_accept_4 9 rfl) (od_at tB_cX5_accept_4 10 rfl) rfl
theorem dX5_accept_75 : decode cX5_accept 75 = .ok (.aload_n 0, 1) := od_42 (od_at tB_cX5_accept_4 11 rfl)
theorem dX5_accept_76 : decode cX5_accept 76 = .ok (.getfield 84, 3) := od_180 (od_at tB_cX5_accept_4 12 rfl) (od_at tB_cX5_accept_4 13 rfl) (od_at tB_cX5_accept_4 14 rfl) rfl
theorem dX5_accept_79 : decode cX5_accept 79 = .ok (.iaload, 1) := od_46 (od_at tB_cX5_accept_4 15 rfl)
theorem dX5_accept_80 : decode cX5_accept 80 = .ok (.i2l, 1) := od_133 (od_at tB_cX5_accept_5 0 rfl)
theorem dX5_accept_81 : decode cX5_accept 81 = .ok (.lmul, 1) := od_105 (od_at tB_cX5_accept_5 1 rfl)
theorem dX5_accept_82 : decode cX5_accept 82 = .ok (.lload_n 2, 1) := od_32 (od_at tB_cX5_accept_5 2 rfl)
theorem dX5_accept_83 : decode cX5_accept 83 = .ok (.invokestatic 172, 3) := od_184 (od_at tB_cX5_accept_5 3 rfl) (od_at tB_cX5_accept_5 4 rfl) (od_at tB_cX5_accept_5 5 rfl) rfl
theorem dX5_accept_86 : decode cX5_accept 86 = .ok (.lstore 4, 2) := od_55 (od_at tB_cX5_accept_5 6 rfl) (od_at tB_cX5_accept_5 7 rfl) rfl
theorem dX5_accept_88 : decode cX5_accept 88 = .ok (.lload 4, 2) := od_22 (od_at tB_cX5_accept_5 8 rfl) (od_at tB_cX5_accept_5 9 rfl) rfl
theorem dX5_accept_90 : decode cX5_accept 90 = .ok (.invokestatic 125, 3) := od_184 (od_at tB_cX5_accept_5 10 rfl) (od_at tB_cX5_accept_5 11 rfl) (od_at tB_cX5_accept_5 12 rfl) rfl
theorem dX5_accept_93 : decode cX5_accept 93 = .ok (.ifCond .ne 6, 3) := od_154 (od_at tB_cX5_accept_5 13 rfl) (od_at tB_cX5_accept_5 14 rfl) (od_at tB_cX5_accept_5 15 rfl) (by decide +kernel)
theorem dX5_accept_96 : decode cX5_accept 96 = .ok (.bipush (-9), 2) := od_16 (od_at tB_cX5_accept_6 0 rfl) (od_at tB_cX5_accept_6 1 rfl) (by decide +kernel)
theorem dX5_accept_98 : decode cX5_accept 98 = .ok (.ireturn, 1) := od_172 (od_at tB_cX5_accept_6 2 rfl)
theorem dX5_accept_99 : decode cX5_accept 99 = .ok (.aload_n 0, 1) := od_42 (od_at tB_cX5_accept_6 3 rfl)
theorem dX5_accept_100 : decode cX5_accept 100 = .ok (.getfield 13, 3) := od_180 (od_at tB_cX5_accept_6 4 rfl) (od_at tB_cX5_accept_6 5 rfl) (od_at tB_cX5_accept_6 6 rfl) rfl
theorem dX5_accept_103 : decode cX5_accept 103 = .ok (.aload_n 0, 1) := od_42 (od_at tB_cX5_accept_6 7 rfl)
theorem dX5_accept_104 : decode cX5_accept 104 = .ok (.getfield 84, 3) := od_180 (od_at tB_cX5_accept_6 8 rfl) (od_at tB_cX5_accept_6 9 rfl) (od_at tB_cX5_accept_6 10 rfl) rfl
theorem dX5_accept_107 : decode cX5_accept 107 = .ok (.iaload, 1) := od_46 (od_at tB_cX5_accept_6 11 rfl)
theorem dX5_accept_108 : decode cX5_accept 108 = .ok (.bipush 12, 2) := od_16 (od_at tB_cX5_accept_6 12 rfl) (od_at tB_cX5_accept_6 13 rfl) (by decide +kernel)
theorem dX5_accept_110 : decode cX5_accept 110 = .ok (.if_icmp .ne 6, 3) := od_160 (od_at tB_cX5_accept_6 14 rfl) (od_at tB_cX5_accept_6 15 rfl) (od_at tB_cX5_accept_6 16 rfl) (by decide +kernel)
theorem dX5_accept_113 : decode cX5_accept 113 = .ok (.bipush (-4), 2) := od_16 (od_at tB_cX5_accept_7 1 rfl) (od_at tB_cX5_accept_7 2 rfl) (by decide +kernel)
theorem dX5_accept_115 : decode cX5_accept 115 = .ok (.ireturn, 1) := od_172 (od_at tB_cX5_accept_7 3 rfl)
theorem dX5_accept_116 : decode cX5_accept 116 = .ok (.aload_n 0, 1) := od_42 (od_at tB_cX5_accept_7 4 rfl)
theorem dX5_accept_117 : decode cX5_accept 117 = .ok (.aload_n 0, 1) := od_42 (od_at tB_cX5_accept_7 5 rfl)
theorem dX5_accept_118 : decode cX5_accept 118 = .ok (.getfield 84, 3) := od_180 (od_at tB_cX5_accept_7 6 rfl) (od_at tB_cX5_accept_7 7 rfl) (od_at tB_cX5_accept_7 8 rfl) rfl
theorem dX5_accept_121 : decode cX5_accept 121 = .ok (.aload_n 0, 1) := od_42 (od_at tB_cX5_accept_7 9 rfl)
theorem dX5_accept_122 : decode cX5_accept 122 = .ok (.getfield 153, 3) := od_180 (od_at tB_cX5_accept_7 10 rfl) (od_at tB_cX5_accept_7 11 rfl) (od_at tB_cX5_accept_7 12 rfl) rfl
theorem dX5_accept_125 : decode cX5_accept 125 = .ok (.iload_n 1, 1) := od_27 (od_at tB_cX5_accept_7 13 rfl)
theorem dX5_accept_126 : decode cX5_accept 126 = .ok (.lload 4, 2) := od_22 (od_at tB_cX5_accept_7 14 rfl) (od_at tB_cX5_accept_7 15 rfl) rfl
theorem dX5_accept_128 : decode cX5_accept 128 = .ok (.l2i, 1) := od_136 (od_at tB_cX5_accept_8 0 rfl)
theorem dX5_accept_129 : decode cX5_accept 129 = .ok (.invokevirtual 129, 3) := od_182 (od_at tB_cX5_accept_8 1 rfl) (od_at tB_cX5_accept_8 2 rfl) (od_at tB_cX5_accept_8 3 rfl) rfl
theorem dX5_accept_132 : decode cX5_accept 132 = .ok (.aload_n 0, 1) := od_42 (od_at tB_cX5_accept_8 4 rfl)
theorem dX5_accept_133 : decode cX5_accept 133 = .ok (.iconst (-1), 1) := od_2 (od_at tB_cX5_accept_8 5 rfl)
theorem dX5_accept_134 : decode cX5_accept 134 = .ok (.putfield 84, 3) := od_181 (od_at tB_cX5_accept_8 6 rfl) (od_at tB_cX5_accept_8 7 rfl) (od_at tB_cX5_accept_8 8 rfl) rfl
theorem dX5_accept_137 : decode cX5_accept 137 = .ok (.lload 4, 2) := od_22 (od_at tB_cX5_accept_8 9 rfl) (od_at tB_cX5_accept_8 10 rfl) rfl
theorem dX5_accept_139 : decode cX5_accept 139 = .ok (.l2i, 1) := od_136 (od_at tB_cX5_accept_8 11 rfl)
theorem dX5_accept_140 : decode cX5_accept 140 = .ok (.ireturn, 1) := od_172 (od_at tB_cX5_accept_8 12 rfl)
def RB_cX5_noTicket_1 : List UInt8 := 0x04 :: 0xa7 :: 0x00 :: 0x04 :: 0x03 :: 0xac :: []
def RB_cX5_noTicket_0 : List UInt8 := 0x1b :: 0x85 :: 0x09 :: 0x2a :: 0xb4 :: 0x00 :: 0xb0 :: 0x85 :: 0x0a :: 0x65 :: 0xb8 :: 0x00 :: 0x65 :: 0x9a :: 0x00 :: 0x07 :: RB_cX5_noTicket_1
theorem tB_cX5_noTicket_0 : cX5_noTicket.data.toList.drop 0 = RB_cX5_noTicket_0 := by decide +kernel
theorem tB_cX5_noTicket_1 : cX5_noTicket.data.toList.drop 16 = RB_cX5_noTicket_1 := od_st tB_cX5_noTicket_0 16 rfl
theorem dX5_noTicket_0 : decode cX5_noTicket 0 = .ok (.iload_n 1, 1) := od_27 (od_at tB_cX5_noTicket_0 0 rfl)
theorem dX5_noTicket_1 : decode cX5_noTicket 1 = .ok (.i2l, 1) := od_133 (od_at tB_cX5_noTicket_0 1 rfl)
theorem dX5_noTicket_2 : decode cX5_noTicket 2 = .ok (.lconst 0, 1) := od_9 (od_at tB_cX5_noTicket_0 2 rfl)
theorem dX5_noTicket_3 : decode cX5_noTicket 3 = .ok (.aload_n 0, 1) := od_42 (od_at tB_cX5_noTicket_0 3 rfl)
theorem dX5_noTicket_4 : decode cX5_noTicket 4 = .ok (.getfield 176, 3) := od_180 (od_at tB_cX5_noTicket_0 4 rfl) (od_at tB_cX5_noTicket_0 5 rfl) (od_at tB_cX5_noTicket_0 6 rfl) rfl
theorem dX5_noTicket_7 : decode cX5_noTicket 7 = .ok (.i2l, 1) := od_133 (od_at tB_cX5_noTicket_0 7 rfl)
theorem dX5_noTicket_8 : decode cX5_noTicket 8 = .ok (.lconst 1, 1) := od_10 (od_at tB_cX5_noTicket_0 8 rfl)
theorem dX5_noTicket_9 : decode cX5_noTicket 9 = .ok (.lsub, 1) := od_101 (od_at tB_cX5_noTicket_0 9 rfl)
theorem dX5_noTicket_10 : decode cX5_noTicket 10 = .ok (.invokestatic 101, 3) := od_184 (od_at tB_cX5_noTicket_0 10 rfl) (od_at tB_cX5_noTicket_0 11 rfl) (od_at tB_cX5_noTicket_0 12 rfl) rfl
theorem dX5_noTicket_13 : decode cX5_noTicket 13 = .ok (.ifCond .ne 7, 3) := od_154 (od_at tB_cX5_noTicket_0 13 rfl) (od_at tB_cX5_noTicket_0 14 rfl) (od_at tB_cX5_noTicket_0 15 rfl) (by decide +kernel)
theorem dX5_noTicket_16 : decode cX5_noTicket 16 = .ok (.iconst 1, 1) := od_4 (od_at tB_cX5_noTicket_1 0 rfl)
theorem dX5_noTicket_17 : decode cX5_noTicket 17 = .ok (.goto 4, 3) := od_167 (od_at tB_cX5_noTicket_1 1 rfl) (od_at tB_cX5_noTicket_1 2 rfl) (od_at tB_cX5_noTicket_1 3 rfl) (by decide +kernel)
theorem dX5_noTicket_20 : decode cX5_noTicket 20 = .ok (.iconst 0, 1) := od_3 (od_at tB_cX5_noTicket_1 4 rfl)
theorem dX5_noTicket_21 : decode cX5_noTicket 21 = .ok (.ireturn, 1) := od_172 (od_at tB_cX5_noTicket_1 5 rfl)
def RB_cX5_isShut_1 : List UInt8 := 0xa7 :: 0x00 :: 0x04 :: 0x03 :: 0xac :: []
def RB_cX5_isShut_0 : List UInt8 := 0x2a :: 0xb4 :: 0x00 :: 0x50 :: 0x9b :: 0x00 :: 0x0f :: 0x1b :: 0x2a :: 0xb4 :: 0x00 :: 0x50 :: 0xa3 :: 0x00 :: 0x07 :: 0x04 :: RB_cX5_isShut_1
theorem tB_cX5_isShut_0 : cX5_isShut.data.toList.drop 0 = RB_cX5_isShut_0 := by decide +kernel
theorem tB_cX5_isShut_1 : cX5_isShut.data.toList.drop 16 = RB_cX5_isShut_1 := od_st tB_cX5_isShut_0 16 rfl
theorem dX5_isShut_0 : decode cX5_isShut 0 = .ok (.aload_n 0, 1) := od_42 (od_at tB_cX5_isShut_0 0 rfl)
theorem dX5_isShut_1 : decode cX5_isShut 1 = .ok (.getfield 80, 3) := od_180 (od_at tB_cX5_isShut_0 1 rfl) (od_at tB_cX5_isShut_0 2 rfl) (od_at tB_cX5_isShut_0 3 rfl) rfl
theorem dX5_isShut_4 : decode cX5_isShut 4 = .ok (.ifCond .lt 15, 3) := od_155 (od_at tB_cX5_isShut_0 4 rfl) (od_at tB_cX5_isShut_0 5 rfl) (od_at tB_cX5_isShut_0 6 rfl) (by decide +kernel)
theorem dX5_isShut_7 : decode cX5_isShut 7 = .ok (.iload_n 1, 1) := od_27 (od_at tB_cX5_isShut_0 7 rfl)
theorem dX5_isShut_8 : decode cX5_isShut 8 = .ok (.aload_n 0, 1) := od_42 (od_at tB_cX5_isShut_0 8 rfl)
theorem dX5_isShut_9 : decode cX5_isShut 9 = .ok (.getfield 80, 3) := od_180 (od_at tB_cX5_isShut_0 9 rfl) (od_at tB_cX5_isShut_0 10 rfl) (od_at tB_cX5_isShut_0 11 rfl) rfl
theorem dX5_isShut_12 : decode cX5_isShut 12 = .ok (.if_icmp .gt 7, 3) := od_163 (od_at tB_cX5_isShut_0 12 rfl) (od_at tB_cX5_isShut_0 13 rfl) (od_at tB_cX5_isShut_0 14 rfl) (by decide +kernel)
theorem dX5_isShut_15 : decode cX5_isShut 15 = .ok (.iconst 1, 1) := od_4 (od_at tB_cX5_isShut_0 15 rfl)
theorem dX5_isShut_16 : decode cX5_isShut 16 = .ok (.goto 4, 3) := od_167 (od_at tB_cX5_isShut_1 0 rfl) (od_at tB_cX5_isShut_1 1 rfl) (od_at tB_cX5_isShut_1 2 rfl) (by decide +kernel)
theorem dX5_isShut_19 : decode cX5_isShut 19 = .ok (.iconst 0, 1) := od_3 (od_at tB_cX5_isShut_1 3 rfl)
theorem dX5_isShut_20 : decode cX5_isShut 20 = .ok (.ireturn, 1) := od_172 (od_at tB_cX5_isShut_1 4 rfl)
def RB_cX5_add_6 : List UInt8 := 0x04 :: 0x60 :: 0xb5 :: 0x00 :: 0xb0 :: 0x2a :: 0xb4 :: 0x00 :: 0xb0 :: 0x04 :: 0x64 :: 0xac :: []
def RB_cX5_add_5 : List UInt8 := 0x2a :: 0xb4 :: 0x00 :: 0x3e :: 0x2a :: 0xb4 :: 0x00 :: 0xb0 :: 0x15 :: 0x06 :: 0x4f :: 0x2a :: 0x59 :: 0xb4 :: 0x00 :: 0xb0 :: RB_cX5_add_6
def RB_cX5_add_4 : List UInt8 := 0x1d :: 0xb6 :: 0x00 :: 0x91 :: 0x4f :: 0x2a :: 0xb4 :: 0x00 :: 0x3b :: 0x2a :: 0xb4 :: 0x00 :: 0xb0 :: 0x10 :: 0xf7 :: 0x4f :: RB_cX5_add_5
def RB_cX5_add_3 : List UInt8 := 0xb0 :: 0x15 :: 0x05 :: 0x4f :: 0x2a :: 0xb4 :: 0x00 :: 0x38 :: 0x2a :: 0xb4 :: 0x00 :: 0xb0 :: 0x2a :: 0x1c :: 0x15 :: 0x05 :: RB_cX5_add_4
def RB_cX5_add_2 : List UInt8 := 0x00 :: 0x32 :: 0x2a :: 0xb4 :: 0x00 :: 0xb0 :: 0x15 :: 0x04 :: 0x4f :: 0x2a :: 0xb4 :: 0x00 :: 0x35 :: 0x2a :: 0xb4 :: 0x00 :: RB_cX5_add_3
def RB_cX5_add_1 : List UInt8 := 0x00 :: 0xb0 :: 0x1c :: 0x4f :: 0x2a :: 0xb4 :: 0x00 :: 0x2f :: 0x2a :: 0xb4 :: 0x00 :: 0xb0 :: 0x1d :: 0x4f :: 0x2a :: 0xb4 :: RB_cX5_add_2
def RB_cX5_add_0 : List UInt8 := 0x2a :: 0xb4 :: 0x00 :: 0x29 :: 0x2a :: 0xb4 :: 0x00 :: 0xb0 :: 0x1b :: 0x4f :: 0x2a :: 0xb4 :: 0x00 :: 0x2c :: 0x2a :: 0xb4 :: RB_cX5_add_1
theorem tB_cX5_add_0 : cX5_add.data.toList.drop 0 = RB_cX5_add_0 := by decide +kernel
theorem tB_cX5_add_1 : cX5_add.data.toList.drop 16 = RB_cX5_add_1 := od_st tB_cX5_add_0 16 rfl
theorem tB_cX5_add_2 : cX5_add.data.toList.drop 32 = RB_cX5_add_2 := od_st tB_cX5_add_1 16 rfl
theorem tB_cX5_add_3 : cX5_add.data.toList.drop 48 = RB_cX5_add_3 := od_st tB_cX5_add_2 16 rfl
theorem tB_cX5_add_4 : cX5_add.data.toList.drop 64 = RB_cX5_add_4 := od_st tB_cX5_add_3 16 rfl
theorem tB_cX5_add_5 : cX5_add.data.toList.drop 80 = RB_cX5_add_5 := od_st tB_cX5_add_4 16 rfl
theorem tB_cX5_add_6 : cX5_add.data.toList.drop 96 = RB_cX5_add_6 := od_st tB_cX5_add_5 16 rfl
theorem dX5_add_0 : decode cX5_add 0 = .ok (.aload_n 0, 1) := od_42 (od_at tB_cX5_add_0 0 rfl)
theorem dX5_add_1 : decode cX5_add 1 = .ok (.getfield 41, 3) := od_180 (od_at tB_cX5_add_0 1 rfl) (od_at tB_cX5_add_0 2 rfl) (od_at tB_cX5_add_0 3 rfl) rfl
theorem dX5_add_4 : decode cX5_add 4 = .ok (.aload_n 0, 1) := od_42 (od_at tB_cX5_add_0 4 rfl)
theorem dX5_add_5 : decode cX5_add 5 = .ok (.getfield 176, 3) := od_180 (od_at tB_cX5_add_0 5 rfl) (od_at tB_cX5_add_0 6 rfl) (od_at tB_cX5_add_0 7 rfl) rfl
theorem dX5_add_8 : decode cX5_add 8 = .ok (.iload_n 1, 1) := od_27 (od_at tB_cX5_add_0 8 rfl)
theorem dX5_add_9 : decode cX5_add 9 = .ok (.iastore, 1) := od_79 (od_at tB_cX5_add_0 9 rfl)
theorem dX5_add_10 : decode cX5_add 10 = .ok (.aload_n 0, 1) := od_42 (od_at tB_cX5_add_0 10 rfl)
theorem dX5_add_11 : decode cX5_add 11 = .ok (.getfield 44, 3) := od_180 (od_at tB_cX5_add_0 11 rfl) (od_at tB_cX5_add_0 12 rfl) (od_at tB_cX5_add_0 13 rfl) rfl
theorem dX5_add_14 : decode cX5_add 14 = .ok (.aload_n 0, 1) := od_42 (od_at tB_cX5_add_0 14 rfl)
theorem dX5_add_15 : decode cX5_add 15 = .ok (.getfield 176, 3) := od_180 (od_at tB_cX5_add_0 15 rfl) (od_at tB_cX5_add_0 16 rfl) (od_at tB_cX5_add_0 17 rfl) rfl
theorem dX5_add_18 : decode cX5_add 18 = .ok (.iload_n 2, 1) := od_28 (od_at tB_cX5_add_1 2 rfl)
theorem dX5_add_19 : decode cX5_add 19 = .ok (.iastore, 1) := od_79 (od_at tB_cX5_add_1 3 rfl)
theorem dX5_add_20 : decode cX5_add 20 = .ok (.aload_n 0, 1) := od_42 (od_at tB_cX5_add_1 4 rfl)
theorem dX5_add_21 : decode cX5_add 21 = .ok (.getfield 47, 3) := od_180 (od_at tB_cX5_add_1 5 rfl) (od_at tB_cX5_add_1 6 rfl) (od_at tB_cX5_add_1 7 rfl) rfl
theorem dX5_add_24 : decode cX5_add 24 = .ok (.aload_n 0, 1) := od_42 (od_at tB_cX5_add_1 8 rfl)
theorem dX5_add_25 : decode cX5_add 25 = .ok (.getfield 176, 3) := od_180 (od_at tB_cX5_add_1 9 rfl) (od_at tB_cX5_add_1 10 rfl) (od_at tB_cX5_add_1 11 rfl) rfl
theorem dX5_add_28 : decode cX5_add 28 = .ok (.iload_n 3, 1) := od_29 (od_at tB_cX5_add_1 12 rfl)
theorem dX5_add_29 : decode cX5_add 29 = .ok (.iastore, 1) := od_79 (od_at tB_cX5_add_1 13 rfl)
theorem dX5_add_30 : decode cX5_add 30 = .ok (.aload_n 0, 1) := od_42 (od_at tB_cX5_add_1 14 rfl)
theorem dX5_add_31 : decode cX5_add 31 = .ok (.getfield 50, 3) := od_180 (od_at tB_cX5_add_1 15 rfl) (od_at tB_cX5_add_1 16 rfl) (od_at tB_cX5_add_1 17 rfl) rfl
theorem dX5_add_34 : decode cX5_add 34 = .ok (.aload_n 0, 1) := od_42 (od_at tB_cX5_add_2 2 rfl)
theorem dX5_add_35 : decode cX5_add 35 = .ok (.getfield 176, 3) := od_180 (od_at tB_cX5_add_2 3 rfl) (od_at tB_cX5_add_2 4 rfl) (od_at tB_cX5_add_2 5 rfl) rfl
theorem dX5_add_38 : decode cX5_add 38 = .ok (.iload 4, 2) := od_21 (od_at tB_cX5_add_2 6 rfl) (od_at tB_cX5_add_2 7 rfl) rfl
theorem dX5_add_40 : decode cX5_add 40 = .ok (.iastore, 1) := od_79 (od_at tB_cX5_add_2 8 rfl)
theorem dX5_add_41 : decode cX5_add 41 = .ok (.aload_n 0, 1) := od_42 (od_at tB_cX5_add_2 9 rfl)
theorem dX5_add_42 : decode cX5_add 42 = .ok (.getfield 53, 3) := od_180 (od_at tB_cX5_add_2 10 rfl) (od_at tB_cX5_add_2 11 rfl) (od_at tB_cX5_add_2 12 rfl) rfl
theorem dX5_add_45 : decode cX5_add 45 = .ok (.aload_n 0, 1) := od_42 (od_at tB_cX5_add_2 13 rfl)
theorem dX5_add_46 : decode cX5_add 46 = .ok (.getfield 176, 3) := od_180 (od_at tB_cX5_add_2 14 rfl) (od_at tB_cX5_add_2 15 rfl) (od_at tB_cX5_add_2 16 rfl) rfl
theorem dX5_add_49 : decode cX5_add 49 = .ok (.iload 5, 2) := od_21 (od_at tB_cX5_add_3 1 rfl) (od_at tB_cX5_add_3 2 rfl) rfl
theorem dX5_add_51 : decode cX5_add 51 = .ok (.iastore, 1) := od_79 (od_at tB_cX5_add_3 3 rfl)
theorem dX5_add_52 : decode cX5_add 52 = .ok (.aload_n 0, 1) := od_42 (od_at tB_cX5_add_3 4 rfl)
theorem dX5_add_53 : decode cX5_add 53 = .ok (.getfield 56, 3) := od_180 (od_at tB_cX5_add_3 5 rfl) (od_at tB_cX5_add_3 6 rfl) (od_at tB_cX5_add_3 7 rfl) rfl
theorem dX5_add_56 : decode cX5_add 56 = .ok (.aload_n 0, 1) := od_42 (od_at tB_cX5_add_3 8 rfl)
theorem dX5_add_57 : decode cX5_add 57 = .ok (.getfield 176, 3) := od_180 (od_at tB_cX5_add_3 9 rfl) (od_at tB_cX5_add_3 10 rfl) (od_at tB_cX5_add_3 11 rfl) rfl
theorem dX5_add_60 : decode cX5_add 60 = .ok (.aload_n 0, 1) := od_42 (od_at tB_cX5_add_3 12 rfl)
theorem dX5_add_61 : decode cX5_add 61 = .ok (.iload_n 2, 1) := od_28 (od_at tB_cX5_add_3 13 rfl)
theorem dX5_add_62 : decode cX5_add 62 = .ok (.iload 5, 2) := od_21 (od_at tB_cX5_add_3 14 rfl) (od_at tB_cX5_add_3 15 rfl) rfl
theorem dX5_add_64 : decode cX5_add 64 = .ok (.iload_n 3, 1) := od_29 (od_at tB_cX5_add_4 0 rfl)
theorem dX5_add_65 : decode cX5_add 65 = .ok (.invokevirtual 145, 3) := od_182 (od_at tB_cX5_add_4 1 rfl) (od_at tB_cX5_add_4 2 rfl) (od_at tB_cX5_add_4 3 rfl) rfl
theorem dX5_add_68 : decode cX5_add 68 = .ok (.iastore, 1) := od_79 (od_at tB_cX5_add_4 4 rfl)
theorem dX5_add_69 : decode cX5_add 69 = .ok (.aload_n 0, 1) := od_42 (od_at tB_cX5_add_4 5 rfl)
theorem dX5_add_70 : decode cX5_add 70 = .ok (.getfield 59, 3) := od_180 (od_at tB_cX5_add_4 6 rfl) (od_at tB_cX5_add_4 7 rfl) (od_at tB_cX5_add_4 8 rfl) rfl
theorem dX5_add_73 : decode cX5_add 73 = .ok (.aload_n 0, 1) := od_42 (od_at tB_cX5_add_4 9 rfl)
theorem dX5_add_74 : decode cX5_add 74 = .ok (.getfield 176, 3) := od_180 (od_at tB_cX5_add_4 10 rfl) (od_at tB_cX5_add_4 11 rfl) (od_at tB_cX5_add_4 12 rfl) rfl
theorem dX5_add_77 : decode cX5_add 77 = .ok (.bipush (-9), 2) := od_16 (od_at tB_cX5_add_4 13 rfl) (od_at tB_cX5_add_4 14 rfl) (by decide +kernel)
theorem dX5_add_79 : decode cX5_add 79 = .ok (.iastore, 1) := od_79 (od_at tB_cX5_add_4 15 rfl)
theorem dX5_add_80 : decode cX5_add 80 = .ok (.aload_n 0, 1) := od_42 (od_at tB_cX5_add_5 0 rfl)
theorem dX5_add_81 : decode cX5_add 81 = .ok (.getfield 62, 3) := od_180 (od_at tB_cX5_add_5 1 rfl) (od_at tB_cX5_add_5 2 rfl) (od_at tB_cX5_add_5 3 rfl) rfl
theorem dX5_add_84 : decode cX5_add 84 = .ok (.aload_n 0, 1) := od_42 (od_at tB_cX5_add_5 4 rfl)
theorem dX5_add_85 : decode cX5_add 85 = .ok (.getfield 176, 3) := od_180 (od_at tB_cX5_add_5 5 rfl) (od_at tB_cX5_add_5 6 rfl) (od_at tB_cX5_add_5 7 rfl) rfl
theorem dX5_add_88 : decode cX5_add 88 = .ok (.iload 6, 2) := od_21 (od_at tB_cX5_add_5 8 rfl) (od_at tB_cX5_add_5 9 rfl) rfl
theorem dX5_add_90 : decode cX5_add 90 = .ok (.iastore, 1) := od_79 (od_at tB_cX5_add_5 10 rfl)
theorem dX5_add_91 : decode cX5_add 91 = .ok (.aload_n 0, 1) := od_42 (od_at tB_cX5_add_5 11 rfl)
theorem dX5_add_92 : decode cX5_add 92 = .ok (.dup, 1) := od_89 (od_at tB_cX5_add_5 12 rfl)
theorem dX5_add_93 : decode cX5_add 93 = .ok (.getfield 176, 3) := od_180 (od_at tB_cX5_add_5 13 rfl) (od_at tB_cX5_add_5 14 rfl) (od_at tB_cX5_add_5 15 rfl) rfl
theorem dX5_add_96 : decode cX5_add 96 = .ok (.iconst 1, 1) := od_4 (od_at tB_cX5_add_6 0 rfl)
theorem dX5_add_97 : decode cX5_add 97 = .ok (.iadd, 1) := od_96 (od_at tB_cX5_add_6 1 rfl)
theorem dX5_add_98 : decode cX5_add 98 = .ok (.putfield 176, 3) := od_181 (od_at tB_cX5_add_6 2 rfl) (od_at tB_cX5_add_6 3 rfl) (od_at tB_cX5_add_6 4 rfl) rfl
theorem dX5_add_101 : decode cX5_add 101 = .ok (.aload_n 0, 1) := od_42 (od_at tB_cX5_add_6 5 rfl)
theorem dX5_add_102 : decode cX5_add 102 = .ok (.getfield 176, 3) := od_180 (od_at tB_cX5_add_6 6 rfl) (od_at tB_cX5_add_6 7 rfl) (od_at tB_cX5_add_6 8 rfl) rfl
theorem dX5_add_105 : decode cX5_add 105 = .ok (.iconst 1, 1) := od_4 (od_at tB_cX5_add_6 9 rfl)
theorem dX5_add_106 : decode cX5_add 106 = .ok (.isub, 1) := od_100 (od_at tB_cX5_add_6 10 rfl)
theorem dX5_add_107 : decode cX5_add 107 = .ok (.ireturn, 1) := od_172 (od_at tB_cX5_add_6 11 rfl)
def RB_cX5_ticket_4 : List UInt8 := 0x0f :: 0x2a :: 0x03 :: 0x1b :: 0x1c :: 0x1d :: 0x15 :: 0x04 :: 0x10 :: 0xf7 :: 0xb6 :: 0x00 :: 0xb8 :: 0xac :: []
def RB_cX5_ticket_3 : List UInt8 := 0x10 :: 0xfd :: 0xac :: 0x2a :: 0xb4 :: 0x00 :: 0xb0 :: 0x10 :: 0x28 :: 0xa0 :: 0x00 :: 0x08 :: 0x10 :: 0xfc :: 0xa7 :: 0x00 :: RB_cX5_ticket_4
def RB_cX5_ticket_2 : List UInt8 := 0x00 :: 0x77 :: 0x9a :: 0x00 :: 0x06 :: 0x10 :: 0xfe :: 0xac :: 0x2a :: 0x1c :: 0xb6 :: 0x00 :: 0xb5 :: 0x99 :: 0x00 :: 0x06 :: RB_cX5_ticket_3
def RB_cX5_ticket_1 : List UInt8 := 0x17 :: 0x1d :: 0x85 :: 0x09 :: 0x14 :: 0x00 :: 0xb3 :: 0xb8 :: 0x00 :: 0x65 :: 0x99 :: 0x00 :: 0x0b :: 0x15 :: 0x04 :: 0xb8 :: RB_cX5_ticket_2
def RB_cX5_ticket_0 : List UInt8 := 0x2a :: 0x1b :: 0xb6 :: 0x00 :: 0x73 :: 0x99 :: 0x00 :: 0x05 :: 0x02 :: 0xac :: 0x1c :: 0xb8 :: 0x00 :: 0x7a :: 0x99 :: 0x00 :: RB_cX5_ticket_1
theorem tB_cX5_ticket_0 : cX5_ticket.data.toList.drop 0 = RB_cX5_ticket_0 := by decide +kernel
theorem tB_cX5_ticket_1 : cX5_ticket.data.toList.drop 16 = RB_cX5_ticket_1 := od_st tB_cX5_ticket_0 16 rfl
theorem tB_cX5_ticket_2 : cX5_ticket.data.toList.drop 32 = RB_cX5_ticket_2 := od_st tB_cX5_ticket_1 16 rfl
theorem tB_cX5_ticket_3 : cX5_ticket.data.toList.drop 48 = RB_cX5_ticket_3 := od_st tB_cX5_ticket_2 16 rfl
theorem tB_cX5_ticket_4 : cX5_ticket.data.toList.drop 64 = RB_cX5_ticket_4 := od_st tB_cX5_ticket_3 16 rfl
theorem dX5_ticket_0 : decode cX5_ticket 0 = .ok (.aload_n 0, 1) := od_42 (od_at tB_cX5_ticket_0 0 rfl)
theorem dX5_ticket_1 : decode cX5_ticket 1 = .ok (.iload_n 1, 1) := od_27 (od_at tB_cX5_ticket_0 1 rfl)
theorem dX5_ticket_2 : decode cX5_ticket 2 = .ok (.invokevirtual 115, 3) := od_182 (od_at tB_cX5_ticket_0 2 rfl) (od_at tB_cX5_ticket_0 3 rfl) (od_at tB_cX5_ticket_0 4 rfl) rfl
theorem dX5_ticket_5 : decode cX5_ticket 5 = .ok (.ifCond .eq 5, 3) := od_153 (od_at tB_cX5_ticket_0 5 rfl) (od_at tB_cX5_ticket_0 6 rfl) (od_at tB_cX5_ticket_0 7 rfl) (by decide +kernel)
theorem dX5_ticket_8 : decode cX5_ticket 8 = .ok (.iconst (-1), 1) := od_2 (od_at tB_cX5_ticket_0 8 rfl)
theorem dX5_ticket_9 : decode cX5_ticket 9 = .ok (.ireturn, 1) := od_172 (od_at tB_cX5_ticket_0 9 rfl)
theorem dX5_ticket_10 : decode cX5_ticket 10 = .ok (.iload_n 2, 1) := od_28 (od_at tB_cX5_ticket_0 10 rfl)
theorem dX5_ticket_11 : decode cX5_ticket 11 = .ok (.invokestatic 122, 3) := od_184 (od_at tB_cX5_ticket_0 11 rfl) (od_at tB_cX5_ticket_0 12 rfl) (od_at tB_cX5_ticket_0 13 rfl) rfl
theorem dX5_ticket_14 : decode cX5_ticket 14 = .ok (.ifCond .eq 23, 3) := od_153 (od_at tB_cX5_ticket_0 14 rfl) (od_at tB_cX5_ticket_0 15 rfl) (od_at tB_cX5_ticket_0 16 rfl) (by decide +kernel)
theorem dX5_ticket_17 : decode cX5_ticket 17 = .ok (.iload_n 3, 1) := od_29 (od_at tB_cX5_ticket_1 1 rfl)
theorem dX5_ticket_18 : decode cX5_ticket 18 = .ok (.i2l, 1) := od_133 (od_at tB_cX5_ticket_1 2 rfl)
theorem dX5_ticket_19 : decode cX5_ticket 19 = .ok (.lconst 0, 1) := od_9 (od_at tB_cX5_ticket_1 3 rfl)
theorem dX5_ticket_20 : decode cX5_ticket 20 = .ok (.ldc2_w 179, 3) := od_20 (od_at tB_cX5_ticket_1 4 rfl) (od_at tB_cX5_ticket_1 5 rfl) (od_at tB_cX5_ticket_1 6 rfl) rfl
theorem dX5_ticket_23 : decode cX5_ticket 23 = .ok (.invokestatic 101, 3) := od_184 (od_at tB_cX5_ticket_1 7 rfl) (od_at tB_cX5_ticket_1 8 rfl) (od_at tB_cX5_ticket_1 9 rfl) rfl
theorem dX5_ticket_26 : decode cX5_ticket 26 = .ok (.ifCond .eq 11, 3) := od_153 (od_at tB_cX5_ticket_1 10 rfl) (od_at tB_cX5_ticket_1 11 rfl) (od_at tB_cX5_ticket_1 12 rfl) (by decide +kernel)
theorem dX5_ticket_29 : decode cX5_ticket 29 = .ok (.iload 4, 2) := od_21 (od_at tB_cX5_ticket_1 13 rfl) (od_at tB_cX5_ticket_1 14 rfl) rfl
theorem dX5_ticket_31 : decode cX5_ticket 31 = .ok (.invokestatic 119, 3) := od_184 (od_at tB_cX5_ticket_1 15 rfl) (od_at tB_cX5_ticket_1 16 rfl) (od_at tB_cX5_ticket_1 17 rfl) rfl
theorem dX5_ticket_34 : decode cX5_ticket 34 = .ok (.ifCond .ne 6, 3) := od_154 (od_at tB_cX5_ticket_2 2 rfl) (od_at tB_cX5_ticket_2 3 rfl) (od_at tB_cX5_ticket_2 4 rfl) (by decide +kernel)
theorem dX5_ticket_37 : decode cX5_ticket 37 = .ok (.bipush (-2), 2) := od_16 (od_at tB_cX5_ticket_2 5 rfl) (od_at tB_cX5_ticket_2 6 rfl) (by decide +kernel)
theorem dX5_ticket_39 : decode cX5_ticket 39 = .ok (.ireturn, 1) := od_172 (od_at tB_cX5_ticket_2 7 rfl)
theorem dX5_ticket_40 : decode cX5_ticket 40 = .ok (.aload_n 0, 1) := od_42 (od_at tB_cX5_ticket_2 8 rfl)
theorem dX5_ticket_41 : decode cX5_ticket 41 = .ok (.iload_n 2, 1) := od_28 (od_at tB_cX5_ticket_2 9 rfl)
theorem dX5_ticket_42 : decode cX5_ticket 42 = .ok (.invokevirtual 181, 3) := od_182 (od_at tB_cX5_ticket_2 10 rfl) (od_at tB_cX5_ticket_2 11 rfl) (od_at tB_cX5_ticket_2 12 rfl) rfl
theorem dX5_ticket_45 : decode cX5_ticket 45 = .ok (.ifCond .eq 6, 3) := od_153 (od_at tB_cX5_ticket_2 13 rfl) (od_at tB_cX5_ticket_2 14 rfl) (od_at tB_cX5_ticket_2 15 rfl) (by decide +kernel)
theorem dX5_ticket_48 : decode cX5_ticket 48 = .ok (.bipush (-3), 2) := od_16 (od_at tB_cX5_ticket_3 0 rfl) (od_at tB_cX5_ticket_3 1 rfl) (by decide +kernel)
theorem dX5_ticket_50 : decode cX5_ticket 50 = .ok (.ireturn, 1) := od_172 (od_at tB_cX5_ticket_3 2 rfl)
theorem dX5_ticket_51 : decode cX5_ticket 51 = .ok (.aload_n 0, 1) := od_42 (od_at tB_cX5_ticket_3 3 rfl)
theorem dX5_ticket_52 : decode cX5_ticket 52 = .ok (.getfield 176, 3) := od_180 (od_at tB_cX5_ticket_3 4 rfl) (od_at tB_cX5_ticket_3 5 rfl) (od_at tB_cX5_ticket_3 6 rfl) rfl
theorem dX5_ticket_55 : decode cX5_ticket 55 = .ok (.bipush 40, 2) := od_16 (od_at tB_cX5_ticket_3 7 rfl) (od_at tB_cX5_ticket_3 8 rfl) (by decide +kernel)
theorem dX5_ticket_57 : decode cX5_ticket 57 = .ok (.if_icmp .ne 8, 3) := od_160 (od_at tB_cX5_ticket_3 9 rfl) (od_at tB_cX5_ticket_3 10 rfl) (od_at tB_cX5_ticket_3 11 rfl) (by decide +kernel)
theorem dX5_ticket_60 : decode cX5_ticket 60 = .ok (.bipush (-4), 2) := od_16 (od_at tB_cX5_ticket_3 12 rfl) (od_at tB_cX5_ticket_3 13 rfl) (by decide +kernel)
theorem dX5_ticket_62 : decode cX5_ticket 62 = .ok (.goto 15, 3) := od_167 (od_at tB_cX5_ticket_3 14 rfl) (od_at tB_cX5_ticket_3 15 rfl) (od_at tB_cX5_ticket_3 16 rfl) (by decide +kernel)
theorem dX5_ticket_65 : decode cX5_ticket 65 = .ok (.aload_n 0, 1) := od_42 (od_at tB_cX5_ticket_4 1 rfl)
theorem dX5_ticket_66 : decode cX5_ticket 66 = .ok (.iconst 0, 1) := od_3 (od_at tB_cX5_ticket_4 2 rfl)
theorem dX5_ticket_67 : decode cX5_ticket 67 = .ok (.iload_n 1, 1) := od_27 (od_at tB_cX5_ticket_4 3 rfl)
theorem dX5_ticket_68 : decode cX5_ticket 68 = .ok (.iload_n 2, 1) := od_28 (od_at tB_cX5_ticket_4 4 rfl)
theorem dX5_ticket_69 : decode cX5_ticket 69 = .ok (.iload_n 3, 1) := od_29 (od_at tB_cX5_ticket_4 5 rfl)
theorem dX5_ticket_70 : decode cX5_ticket 70 = .ok (.iload 4, 2) := od_21 (od_at tB_cX5_ticket_4 6 rfl) (od_at tB_cX5_ticket_4 7 rfl) rfl
theorem dX5_ticket_72 : decode cX5_ticket 72 = .ok (.bipush (-9), 2) := od_16 (od_at tB_cX5_ticket_4 8 rfl) (od_at tB_cX5_ticket_4 9 rfl) (by decide +kernel)
theorem dX5_ticket_74 : decode cX5_ticket 74 = .ok (.invokevirtual 184, 3) := od_182 (od_at tB_cX5_ticket_4 10 rfl) (od_at tB_cX5_ticket_4 11 rfl) (od_at tB_cX5_ticket_4 12 rfl) rfl
theorem dX5_ticket_77 : decode cX5_ticket 77 = .ok (.ireturn, 1) := od_172 (od_at tB_cX5_ticket_4 13 rfl)
def RB_cX5_right_6 : List UInt8 := 0xb8 :: 0xac :: []
def RB_cX5_right_5 : List UInt8 := 0x2a :: 0xb4 :: 0x00 :: 0x2f :: 0x1b :: 0x2e :: 0x1c :: 0x2a :: 0xb4 :: 0x00 :: 0x35 :: 0x1b :: 0x2e :: 0x1b :: 0xb6 :: 0x00 :: RB_cX5_right_6
def RB_cX5_right_4 : List UInt8 := 0x00 :: 0x3b :: 0x1b :: 0x2a :: 0xb4 :: 0x00 :: 0xb0 :: 0x4f :: 0x2a :: 0x04 :: 0x2a :: 0xb4 :: 0x00 :: 0x2c :: 0x1b :: 0x2e :: RB_cX5_right_5
def RB_cX5_right_3 : List UInt8 := 0xfd :: 0xac :: 0x2a :: 0xb4 :: 0x00 :: 0xb0 :: 0x10 :: 0x28 :: 0xa0 :: 0x00 :: 0x06 :: 0x10 :: 0xfc :: 0xac :: 0x2a :: 0xb4 :: RB_cX5_right_4
def RB_cX5_right_2 : List UInt8 := 0x00 :: 0x10 :: 0x2a :: 0x2a :: 0xb4 :: 0x00 :: 0x2f :: 0x1b :: 0x2e :: 0xb6 :: 0x00 :: 0xb5 :: 0x99 :: 0x00 :: 0x06 :: 0x10 :: RB_cX5_right_3
def RB_cX5_right_1 : List UInt8 := 0xb8 :: 0x00 :: 0x65 :: 0x9a :: 0x00 :: 0x06 :: 0x10 :: 0xfe :: 0xac :: 0x2a :: 0xb4 :: 0x00 :: 0x3b :: 0x1b :: 0x2e :: 0x9c :: RB_cX5_right_2
def RB_cX5_right_0 : List UInt8 := 0x2a :: 0x1b :: 0xb6 :: 0x00 :: 0xbc :: 0x99 :: 0x00 :: 0x05 :: 0x02 :: 0xac :: 0x1c :: 0x85 :: 0x09 :: 0x14 :: 0x00 :: 0xb3 :: RB_cX5_right_1
theorem tB_cX5_right_0 : cX5_right.data.toList.drop 0 = RB_cX5_right_0 := by decide +kernel
theorem tB_cX5_right_1 : cX5_right.data.toList.drop 16 = RB_cX5_right_1 := od_st tB_cX5_right_0 16 rfl
theorem tB_cX5_right_2 : cX5_right.data.toList.drop 32 = RB_cX5_right_2 := od_st tB_cX5_right_1 16 rfl
theorem tB_cX5_right_3 : cX5_right.data.toList.drop 48 = RB_cX5_right_3 := od_st tB_cX5_right_2 16 rfl
theorem tB_cX5_right_4 : cX5_right.data.toList.drop 64 = RB_cX5_right_4 := od_st tB_cX5_right_3 16 rfl
theorem tB_cX5_right_5 : cX5_right.data.toList.drop 80 = RB_cX5_right_5 := od_st tB_cX5_right_4 16 rfl
theorem tB_cX5_right_6 : cX5_right.data.toList.drop 96 = RB_cX5_right_6 := od_st tB_cX5_right_5 16 rfl
theorem dX5_right_0 : decode cX5_right 0 = .ok (.aload_n 0, 1) := od_42 (od_at tB_cX5_right_0 0 rfl)
theorem dX5_right_1 : decode cX5_right 1 = .ok (.iload_n 1, 1) := od_27 (od_at tB_cX5_right_0 1 rfl)
theorem dX5_right_2 : decode cX5_right 2 = .ok (.invokevirtual 188, 3) := od_182 (od_at tB_cX5_right_0 2 rfl) (od_at tB_cX5_right_0 3 rfl) (od_at tB_cX5_right_0 4 rfl) rfl
theorem dX5_right_5 : decode cX5_right 5 = .ok (.ifCond .eq 5, 3) := od_153 (od_at tB_cX5_right_0 5 rfl) (od_at tB_cX5_right_0 6 rfl) (od_at tB_cX5_right_0 7 rfl) (by decide +kernel)
theorem dX5_right_8 : decode cX5_right 8 = .ok (.iconst (-1), 1) := od_2 (od_at tB_cX5_right_0 8 rfl)
theorem dX5_right_9 : decode cX5_right 9 = .ok (.ireturn, 1) := od_172 (od_at tB_cX5_right_0 9 rfl)
theorem dX5_right_10 : decode cX5_right 10 = .ok (.iload_n 2, 1) := od_28 (od_at tB_cX5_right_0 10 rfl)
theorem dX5_right_11 : decode cX5_right 11 = .ok (.i2l, 1) := od_133 (od_at tB_cX5_right_0 11 rfl)
theorem dX5_right_12 : decode cX5_right 12 = .ok (.lconst 0, 1) := od_9 (od_at tB_cX5_right_0 12 rfl)
theorem dX5_right_13 : decode cX5_right 13 = .ok (.ldc2_w 179, 3) := od_20 (od_at tB_cX5_right_0 13 rfl) (od_at tB_cX5_right_0 14 rfl) (od_at tB_cX5_right_0 15 rfl) rfl
theorem dX5_right_16 : decode cX5_right 16 = .ok (.invokestatic 101, 3) := od_184 (od_at tB_cX5_right_1 0 rfl) (od_at tB_cX5_right_1 1 rfl) (od_at tB_cX5_right_1 2 rfl) rfl
theorem dX5_right_19 : decode cX5_right 19 = .ok (.ifCond .ne 6, 3) := od_154 (od_at tB_cX5_right_1 3 rfl) (od_at tB_cX5_right_1 4 rfl) (od_at tB_cX5_right_1 5 rfl) (by decide +kernel)
theorem dX5_right_22 : decode cX5_right 22 = .ok (.bipush (-2), 2) := od_16 (od_at tB_cX5_right_1 6 rfl) (od_at tB_cX5_right_1 7 rfl) (by decide +kernel)
theorem dX5_right_24 : decode cX5_right 24 = .ok (.ireturn, 1) := od_172 (od_at tB_cX5_right_1 8 rfl)
theorem dX5_right_25 : decode cX5_right 25 = .ok (.aload_n 0, 1) := od_42 (od_at tB_cX5_right_1 9 rfl)
theorem dX5_right_26 : decode cX5_right 26 = .ok (.getfield 59, 3) := od_180 (od_at tB_cX5_right_1 10 rfl) (od_at tB_cX5_right_1 11 rfl) (od_at tB_cX5_right_1 12 rfl) rfl
theorem dX5_right_29 : decode cX5_right 29 = .ok (.iload_n 1, 1) := od_27 (od_at tB_cX5_right_1 13 rfl)
theorem dX5_right_30 : decode cX5_right 30 = .ok (.iaload, 1) := od_46 (od_at tB_cX5_right_1 14 rfl)
theorem dX5_right_31 : decode cX5_right 31 = .ok (.ifCond .ge 16, 3) := od_156 (od_at tB_cX5_right_1 15 rfl) (od_at tB_cX5_right_1 16 rfl) (od_at tB_cX5_right_1 17 rfl) (by decide +kernel)
theorem dX5_right_34 : decode cX5_right 34 = .ok (.aload_n 0, 1) := od_42 (od_at tB_cX5_right_2 2 rfl)
theorem dX5_right_35 : decode cX5_right 35 = .ok (.aload_n 0, 1) := od_42 (od_at tB_cX5_right_2 3 rfl)
theorem dX5_right_36 : decode cX5_right 36 = .ok (.getfield 47, 3) := od_180 (od_at tB_cX5_right_2 4 rfl) (od_at tB_cX5_right_2 5 rfl) (od_at tB_cX5_right_2 6 rfl) rfl
theorem dX5_right_39 : decode cX5_right 39 = .ok (.iload_n 1, 1) := od_27 (od_at tB_cX5_right_2 7 rfl)
theorem dX5_right_40 : decode cX5_right 40 = .ok (.iaload, 1) := od_46 (od_at tB_cX5_right_2 8 rfl)
theorem dX5_right_41 : decode cX5_right 41 = .ok (.invokevirtual 181, 3) := od_182 (od_at tB_cX5_right_2 9 rfl) (od_at tB_cX5_right_2 10 rfl) (od_at tB_cX5_right_2 11 rfl) rfl
theorem dX5_right_44 : decode cX5_right 44 = .ok (.ifCond .eq 6, 3) := od_153 (od_at tB_cX5_right_2 12 rfl) (od_at tB_cX5_right_2 13 rfl) (od_at tB_cX5_right_2 14 rfl) (by decide +kernel)
theorem dX5_right_47 : decode cX5_right 47 = .ok (.bipush (-3), 2) := od_16 (od_at tB_cX5_right_2 15 rfl) (od_at tB_cX5_right_2 16 rfl) (by decide +kernel)
theorem dX5_right_49 : decode cX5_right 49 = .ok (.ireturn, 1) := od_172 (od_at tB_cX5_right_3 1 rfl)
theorem dX5_right_50 : decode cX5_right 50 = .ok (.aload_n 0, 1) := od_42 (od_at tB_cX5_right_3 2 rfl)
theorem dX5_right_51 : decode cX5_right 51 = .ok (.getfield 176, 3) := od_180 (od_at tB_cX5_right_3 3 rfl) (od_at tB_cX5_right_3 4 rfl) (od_at tB_cX5_right_3 5 rfl) rfl
theorem dX5_right_54 : decode cX5_right 54 = .ok (.bipush 40, 2) := od_16 (od_at tB_cX5_right_3 6 rfl) (od_at tB_cX5_right_3 7 rfl) (by decide +kernel)
theorem dX5_right_56 : decode cX5_right 56 = .ok (.if_icmp .ne 6, 3) := od_160 (od_at tB_cX5_right_3 8 rfl) (od_at tB_cX5_right_3 9 rfl) (od_at tB_cX5_right_3 10 rfl) (by decide +kernel)
theorem dX5_right_59 : decode cX5_right 59 = .ok (.bipush (-4), 2) := od_16 (od_at tB_cX5_right_3 11 rfl) (od_at tB_cX5_right_3 12 rfl) (by decide +kernel)
theorem dX5_right_61 : decode cX5_right 61 = .ok (.ireturn, 1) := od_172 (od_at tB_cX5_right_3 13 rfl)
theorem dX5_right_62 : decode cX5_right 62 = .ok (.aload_n 0, 1) := od_42 (od_at tB_cX5_right_3 14 rfl)
theorem dX5_right_63 : decode cX5_right 63 = .ok (.getfield 59, 3) := od_180 (od_at tB_cX5_right_3 15 rfl) (od_at tB_cX5_right_3 16 rfl) (od_at tB_cX5_right_3 17 rfl) rfl
theorem dX5_right_66 : decode cX5_right 66 = .ok (.iload_n 1, 1) := od_27 (od_at tB_cX5_right_4 2 rfl)
theorem dX5_right_67 : decode cX5_right 67 = .ok (.aload_n 0, 1) := od_42 (od_at tB_cX5_right_4 3 rfl)
theorem dX5_right_68 : decode cX5_right 68 = .ok (.getfield 176, 3) := od_180 (od_at tB_cX5_right_4 4 rfl) (od_at tB_cX5_right_4 5 rfl) (od_at tB_cX5_right_4 6 rfl) rfl
theorem dX5_right_71 : decode cX5_right 71 = .ok (.iastore, 1) := od_79 (od_at tB_cX5_right_4 7 rfl)
theorem dX5_right_72 : decode cX5_right 72 = .ok (.aload_n 0, 1) := od_42 (od_at tB_cX5_right_4 8 rfl)
theorem dX5_right_73 : decode cX5_right 73 = .ok (.iconst 1, 1) := od_4 (od_at tB_cX5_right_4 9 rfl)
theorem dX5_right_74 : decode cX5_right 74 = .ok (.aload_n 0, 1) := od_42 (od_at tB_cX5_right_4 10 rfl)
theorem dX5_right_75 : decode cX5_right 75 = .ok (.getfield 44, 3) := od_180 (od_at tB_cX5_right_4 11 rfl) (od_at tB_cX5_right_4 12 rfl) (od_at tB_cX5_right_4 13 rfl) rfl
theorem dX5_right_78 : decode cX5_right 78 = .ok (.iload_n 1, 1) := od_27 (od_at tB_cX5_right_4 14 rfl)
theorem dX5_right_79 : decode cX5_right 79 = .ok (.iaload, 1) := od_46 (od_at tB_cX5_right_4 15 rfl)
theorem dX5_right_80 : decode cX5_right 80 = .ok (.aload_n 0, 1) := od_42 (od_at tB_cX5_right_5 0 rfl)
theorem dX5_right_81 : decode cX5_right 81 = .ok (.getfield 47, 3) := od_180 (od_at tB_cX5_right_5 1 rfl) (od_at tB_cX5_right_5 2 rfl) (od_at tB_cX5_right_5 3 rfl) rfl
theorem dX5_right_84 : decode cX5_right 84 = .ok (.iload_n 1, 1) := od_27 (od_at tB_cX5_right_5 4 rfl)
theorem dX5_right_85 : decode cX5_right 85 = .ok (.iaload, 1) := od_46 (od_at tB_cX5_right_5 5 rfl)
theorem dX5_right_86 : decode cX5_right 86 = .ok (.iload_n 2, 1) := od_28 (od_at tB_cX5_right_5 6 rfl)
theorem dX5_right_87 : decode cX5_right 87 = .ok (.aload_n 0, 1) := od_42 (od_at tB_cX5_right_5 7 rfl)
theorem dX5_right_88 : decode cX5_right 88 = .ok (.getfield 53, 3) := od_180 (od_at tB_cX5_right_5 8 rfl) (od_at tB_cX5_right_5 9 rfl) (od_at tB_cX5_right_5 10 rfl) rfl
theorem dX5_right_91 : decode cX5_right 91 = .ok (.iload_n 1, 1) := od_27 (od_at tB_cX5_right_5 11 rfl)
theorem dX5_right_92 : decode cX5_right 92 = .ok (.iaload, 1) := od_46 (od_at tB_cX5_right_5 12 rfl)
theorem dX5_right_93 : decode cX5_right 93 = .ok (.iload_n 1, 1) := od_27 (od_at tB_cX5_right_5 13 rfl)
theorem dX5_right_94 : decode cX5_right 94 = .ok (.invokevirtual 184, 3) := od_182 (od_at tB_cX5_right_5 14 rfl) (od_at tB_cX5_right_5 15 rfl) (od_at tB_cX5_right_5 16 rfl) rfl
theorem dX5_right_97 : decode cX5_right 97 = .ok (.ireturn, 1) := od_172 (od_at tB_cX5_right_6 1 rfl)
def RB_cX5_areDays_1 : List UInt8 := 0xa3 :: 0x00 :: 0x07 :: 0x04 :: 0xa7 :: 0x00 :: 0x04 :: 0x03 :: 0xac :: []
def RB_cX5_areDays_0 : List UInt8 := 0x1a :: 0xb8 :: 0x00 :: 0x7a :: 0x99 :: 0x00 :: 0x13 :: 0x1b :: 0xb8 :: 0x00 :: 0x7a :: 0x99 :: 0x00 :: 0x0c :: 0x1a :: 0x1b :: RB_cX5_areDays_1
theorem tB_cX5_areDays_0 : cX5_areDays.data.toList.drop 0 = RB_cX5_areDays_0 := by decide +kernel
theorem tB_cX5_areDays_1 : cX5_areDays.data.toList.drop 16 = RB_cX5_areDays_1 := od_st tB_cX5_areDays_0 16 rfl
theorem dX5_areDays_0 : decode cX5_areDays 0 = .ok (.iload_n 0, 1) := od_26 (od_at tB_cX5_areDays_0 0 rfl)
theorem dX5_areDays_1 : decode cX5_areDays 1 = .ok (.invokestatic 122, 3) := od_184 (od_at tB_cX5_areDays_0 1 rfl) (od_at tB_cX5_areDays_0 2 rfl) (od_at tB_cX5_areDays_0 3 rfl) rfl
theorem dX5_areDays_4 : decode cX5_areDays 4 = .ok (.ifCond .eq 19, 3) := od_153 (od_at tB_cX5_areDays_0 4 rfl) (od_at tB_cX5_areDays_0 5 rfl) (od_at tB_cX5_areDays_0 6 rfl) (by decide +kernel)
theorem dX5_areDays_7 : decode cX5_areDays 7 = .ok (.iload_n 1, 1) := od_27 (od_at tB_cX5_areDays_0 7 rfl)
theorem dX5_areDays_8 : decode cX5_areDays 8 = .ok (.invokestatic 122, 3) := od_184 (od_at tB_cX5_areDays_0 8 rfl) (od_at tB_cX5_areDays_0 9 rfl) (od_at tB_cX5_areDays_0 10 rfl) rfl
theorem dX5_areDays_11 : decode cX5_areDays 11 = .ok (.ifCond .eq 12, 3) := od_153 (od_at tB_cX5_areDays_0 11 rfl) (od_at tB_cX5_areDays_0 12 rfl) (od_at tB_cX5_areDays_0 13 rfl) (by decide +kernel)
theorem dX5_areDays_14 : decode cX5_areDays 14 = .ok (.iload_n 0, 1) := od_26 (od_at tB_cX5_areDays_0 14 rfl)
theorem dX5_areDays_15 : decode cX5_areDays 15 = .ok (.iload_n 1, 1) := od_27 (od_at tB_cX5_areDays_0 15 rfl)
theorem dX5_areDays_16 : decode cX5_areDays 16 = .ok (.if_icmp .gt 7, 3) := od_163 (od_at tB_cX5_areDays_1 0 rfl) (od_at tB_cX5_areDays_1 1 rfl) (od_at tB_cX5_areDays_1 2 rfl) (by decide +kernel)
theorem dX5_areDays_19 : decode cX5_areDays 19 = .ok (.iconst 1, 1) := od_4 (od_at tB_cX5_areDays_1 3 rfl)
theorem dX5_areDays_20 : decode cX5_areDays 20 = .ok (.goto 4, 3) := od_167 (od_at tB_cX5_areDays_1 4 rfl) (od_at tB_cX5_areDays_1 5 rfl) (od_at tB_cX5_areDays_1 6 rfl) (by decide +kernel)
theorem dX5_areDays_23 : decode cX5_areDays 23 = .ok (.iconst 0, 1) := od_3 (od_at tB_cX5_areDays_1 7 rfl)
theorem dX5_areDays_24 : decode cX5_areDays 24 = .ok (.ireturn, 1) := od_172 (od_at tB_cX5_areDays_1 8 rfl)
def RB_cX5_isStale_4 : List UInt8 := 0xa7 :: 0x00 :: 0x04 :: 0x03 :: 0xac :: []
def RB_cX5_isStale_3 : List UInt8 := 0x35 :: 0x1b :: 0x2e :: 0x2a :: 0xb4 :: 0x00 :: 0x2f :: 0x1b :: 0x2e :: 0xb6 :: 0x00 :: 0x91 :: 0x9f :: 0x00 :: 0x07 :: 0x04 :: RB_cX5_isStale_4
def RB_cX5_isStale_2 : List UInt8 := 0x1b :: 0x2e :: 0x9c :: 0x00 :: 0x21 :: 0x2a :: 0xb4 :: 0x00 :: 0x38 :: 0x1b :: 0x2e :: 0x2a :: 0x1c :: 0x2a :: 0xb4 :: 0x00 :: RB_cX5_isStale_3
def RB_cX5_isStale_1 : List UInt8 := 0x85 :: 0x1d :: 0x85 :: 0x15 :: 0x04 :: 0x85 :: 0xb8 :: 0x00 :: 0x65 :: 0x99 :: 0x00 :: 0x2a :: 0x2a :: 0xb4 :: 0x00 :: 0x3b :: RB_cX5_isStale_2
def RB_cX5_isStale_0 : List UInt8 := 0x2a :: 0xb4 :: 0x00 :: 0x2c :: 0x1b :: 0x2e :: 0x1c :: 0xa0 :: 0x00 :: 0x3c :: 0x2a :: 0xb4 :: 0x00 :: 0x2f :: 0x1b :: 0x2e :: RB_cX5_isStale_1
theorem tB_cX5_isStale_0 : cX5_isStale.data.toList.drop 0 = RB_cX5_isStale_0 := by decide +kernel
theorem tB_cX5_isStale_1 : cX5_isStale.data.toList.drop 16 = RB_cX5_isStale_1 := od_st tB_cX5_isStale_0 16 rfl
theorem tB_cX5_isStale_2 : cX5_isStale.data.toList.drop 32 = RB_cX5_isStale_2 := od_st tB_cX5_isStale_1 16 rfl
theorem tB_cX5_isStale_3 : cX5_isStale.data.toList.drop 48 = RB_cX5_isStale_3 := od_st tB_cX5_isStale_2 16 rfl
theorem tB_cX5_isStale_4 : cX5_isStale.data.toList.drop 64 = RB_cX5_isStale_4 := od_st tB_cX5_isStale_3 16 rfl
theorem dX5_isStale_0 : decode cX5_isStale 0 = .ok (.aload_n 0, 1) := od_42 (od_at tB_cX5_isStale_0 0 rfl)
theorem dX5_isStale_1 : decode cX5_isStale 1 = .ok (.getfield 44, 3) := od_180 (od_at tB_cX5_isStale_0 1 rfl) (od_at tB_cX5_isStale_0 2 rfl) (od_at tB_cX5_isStale_0 3 rfl) rfl
theorem dX5_isStale_4 : decode cX5_isStale 4 = .ok (.iload_n 1, 1) := od_27 (od_at tB_cX5_isStale_0 4 rfl)
theorem dX5_isStale_5 : decode cX5_isStale 5 = .ok (.iaload, 1) := od_46 (od_at tB_cX5_isStale_0 5 rfl)
theorem dX5_isStale_6 : decode cX5_isStale 6 = .ok (.iload_n 2, 1) := od_28 (od_at tB_cX5_isStale_0 6 rfl)
theorem dX5_isStale_7 : decode cX5_isStale 7 = .ok (.if_icmp .ne 60, 3) := od_160 (od_at tB_cX5_isStale_0 7 rfl) (od_at tB_cX5_isStale_0 8 rfl) (od_at tB_cX5_isStale_0 9 rfl) (by decide +kernel)
theorem dX5_isStale_10 : decode cX5_isStale 10 = .ok (.aload_n 0, 1) := od_42 (od_at tB_cX5_isStale_0 10 rfl)
theorem dX5_isStale_11 : decode cX5_isStale 11 = .ok (.getfield 47, 3) := od_180 (od_at tB_cX5_isStale_0 11 rfl) (od_at tB_cX5_isStale_0 12 rfl) (od_at tB_cX5_isStale_0 13 rfl) rfl
theorem dX5_isStale_14 : decode cX5_isStale 14 = .ok (.iload_n 1, 1) := od_27 (od_at tB_cX5_isStale_0 14 rfl)
theorem dX5_isStale_15 : decode cX5_isStale 15 = .ok (.iaload, 1) := od_46 (od_at tB_cX5_isStale_0 15 rfl)
theorem dX5_isStale_16 : decode cX5_isStale 16 = .ok (.i2l, 1) := od_133 (od_at tB_cX5_isStale_1 0 rfl)
theorem dX5_isStale_17 : decode cX5_isStale 17 = .ok (.iload_n 3, 1) := od_29 (od_at tB_cX5_isStale_1 1 rfl)
theorem dX5_isStale_18 : decode cX5_isStale 18 = .ok (.i2l, 1) := od_133 (od_at tB_cX5_isStale_1 2 rfl)
theorem dX5_isStale_19 : decode cX5_isStale 19 = .ok (.iload 4, 2) := od_21 (od_at tB_cX5_isStale_1 3 rfl) (od_at tB_cX5_isStale_1 4 rfl) rfl
theorem dX5_isStale_21 : decode cX5_isStale 21 = .ok (.i2l, 1) := od_133 (od_at tB_cX5_isStale_1 5 rfl)
theorem dX5_isStale_22 : decode cX5_isStale 22 = .ok (.invokestatic 101, 3) := od_184 (od_at tB_cX5_isStale_1 6 rfl) (od_at tB_cX5_isStale_1 7 rfl) (od_at tB_cX5_isStale_1 8 rfl) rfl
theorem dX5_isStale_25 : decode cX5_isStale 25 = .ok (.ifCond .eq 42, 3) := od_153 (od_at tB_cX5_isStale_1 9 rfl) (od_at tB_cX5_isStale_1 10 rfl) (od_at tB_cX5_isStale_1 11 rfl) (by decide +kernel)
theorem dX5_isStale_28 : decode cX5_isStale 28 = .ok (.aload_n 0, 1) := od_42 (od_at tB_cX5_isStale_1 12 rfl)
theorem dX5_isStale_29 : decode cX5_isStale 29 = .ok (.getfield 59, 3) := od_180 (od_at tB_cX5_isStale_1 13 rfl) (od_at tB_cX5_isStale_1 14 rfl) (od_at tB_cX5_isStale_1 15 rfl) rfl
theorem dX5_isStale_32 : decode cX5_isStale 32 = .ok (.iload_n 1, 1) := od_27 (od_at tB_cX5_isStale_2 0 rfl)
theorem dX5_isStale_33 : decode cX5_isStale 33 = .ok (.iaload, 1) := od_46 (od_at tB_cX5_isStale_2 1 rfl)
theorem dX5_isStale_34 : decode cX5_isStale 34 = .ok (.ifCond .ge 33, 3) := od_156 (od_at tB_cX5_isStale_2 2 rfl) (od_at tB_cX5_isStale_2 3 rfl) (od_at tB_cX5_isStale_2 4 rfl) (by decide +kernel)
theorem dX5_isStale_37 : decode cX5_isStale 37 = .ok (.aload_n 0, 1) := od_42 (od_at tB_cX5_isStale_2 5 rfl)
theorem dX5_isStale_38 : decode cX5_isStale 38 = .ok (.getfield 56, 3) := od_180 (od_at tB_cX5_isStale_2 6 rfl) (od_at tB_cX5_isStale_2 7 rfl) (od_at tB_cX5_isStale_2 8 rfl) rfl
theorem dX5_isStale_41 : decode cX5_isStale 41 = .ok (.iload_n 1, 1) := od_27 (od_at tB_cX5_isStale_2 9 rfl)
theorem dX5_isStale_42 : decode cX5_isStale 42 = .ok (.iaload, 1) := od_46 (od_at tB_cX5_isStale_2 10 rfl)
theorem dX5_isStale_43 : decode cX5_isStale 43 = .ok (.aload_n 0, 1) := od_42 (od_at tB_cX5_isStale_2 11 rfl)
theorem dX5_isStale_44 : decode cX5_isStale 44 = .ok (.iload_n 2, 1) := od_28 (od_at tB_cX5_isStale_2 12 rfl)
theorem dX5_isStale_45 : decode cX5_isStale 45 = .ok (.aload_n 0, 1) := od_42 (od_at tB_cX5_isStale_2 13 rfl)
theorem dX5_isStale_46 : decode cX5_isStale 46 = .ok (.getfield 53, 3) := od_180 (od_at tB_cX5_isStale_2 14 rfl) (od_at tB_cX5_isStale_2 15 rfl) (od_at tB_cX5_isStale_2 16 rfl) rfl
theorem dX5_isStale_49 : decode cX5_isStale 49 = .ok (.iload_n 1, 1) := od_27 (od_at tB_cX5_isStale_3 1 rfl)
theorem dX5_isStale_50 : decode cX5_isStale 50 = .ok (.iaload, 1) := od_46 (od_at tB_cX5_isStale_3 2 rfl)
theorem dX5_isStale_51 : decode cX5_isStale 51 = .ok (.aload_n 0, 1) := od_42 (od_at tB_cX5_isStale_3 3 rfl)
theorem dX5_isStale_52 : decode cX5_isStale 52 = .ok (.getfield 47, 3) := od_180 (od_at tB_cX5_isStale_3 4 rfl) (od_at tB_cX5_isStale_3 5 rfl) (od_at tB_cX5_isStale_3 6 rfl) rfl
theorem dX5_isStale_55 : decode cX5_isStale 55 = .ok (.iload_n 1, 1) := od_27 (od_at tB_cX5_isStale_3 7 rfl)
theorem dX5_isStale_56 : decode cX5_isStale 56 = .ok (.iaload, 1) := od_46 (od_at tB_cX5_isStale_3 8 rfl)
theorem dX5_isStale_57 : decode cX5_isStale 57 = .ok (.invokevirtual 145, 3) := od_182 (od_at tB_cX5_isStale_3 9 rfl) (od_at tB_cX5_isStale_3 10 rfl) (od_at tB_cX5_isStale_3 11 rfl) rfl
theorem dX5_isStale_60 : decode cX5_isStale 60 = .ok (.if_icmp .eq 7, 3) := od_159 (od_at tB_cX5_isStale_3 12 rfl) (od_at tB_cX5_isStale_3 13 rfl) (od_at tB_cX5_isStale_3 14 rfl) (by decide +kernel)
theorem dX5_isStale_63 : decode cX5_isStale 63 = .ok (.iconst 1, 1) := od_4 (od_at tB_cX5_isStale_3 15 rfl)
theorem dX5_isStale_64 : decode cX5_isStale 64 = .ok (.goto 4, 3) := od_167 (od_at tB_cX5_isStale_4 0 rfl) (od_at tB_cX5_isStale_4 1 rfl) (od_at tB_cX5_isStale_4 2 rfl) (by decide +kernel)
theorem dX5_isStale_67 : decode cX5_isStale 67 = .ok (.iconst 0, 1) := od_3 (od_at tB_cX5_isStale_4 3 rfl)
theorem dX5_isStale_68 : decode cX5_isStale 68 = .ok (.ireturn, 1) := od_172 (od_at tB_cX5_isStale_4 4 rfl)
def RB_cX5_remake_10 : List UInt8 := 0xff :: 0xc0 :: 0x15 :: 0x05 :: 0xac :: []
def RB_cX5_remake_9 : List UInt8 := 0x00 :: 0x35 :: 0x15 :: 0x06 :: 0x2e :: 0x15 :: 0x06 :: 0xb6 :: 0x00 :: 0xb8 :: 0x36 :: 0x07 :: 0x84 :: 0x06 :: 0x01 :: 0xa7 :: RB_cX5_remake_10
def RB_cX5_remake_8 : List UInt8 := 0x2a :: 0xb4 :: 0x00 :: 0x2f :: 0x15 :: 0x06 :: 0x2e :: 0x2a :: 0xb4 :: 0x00 :: 0x32 :: 0x15 :: 0x06 :: 0x2e :: 0x2a :: 0xb4 :: RB_cX5_remake_9
def RB_cX5_remake_7 : List UInt8 := 0x00 :: 0x2d :: 0x2a :: 0xb4 :: 0x00 :: 0x3b :: 0x15 :: 0x06 :: 0x2a :: 0xb4 :: 0x00 :: 0xb0 :: 0x4f :: 0x2a :: 0x05 :: 0x1b :: RB_cX5_remake_8
def RB_cX5_remake_6 : List UInt8 := 0x06 :: 0x15 :: 0x04 :: 0xa2 :: 0x00 :: 0x3f :: 0x2a :: 0x15 :: 0x06 :: 0x1b :: 0x1c :: 0x1d :: 0xb6 :: 0x00 :: 0xc3 :: 0x99 :: RB_cX5_remake_7
def RB_cX5_remake_5 : List UInt8 := 0x04 :: 0x15 :: 0x05 :: 0x60 :: 0x10 :: 0x28 :: 0xa4 :: 0x00 :: 0x06 :: 0x10 :: 0xfc :: 0xac :: 0x03 :: 0x36 :: 0x06 :: 0x15 :: RB_cX5_remake_6
def RB_cX5_remake_4 : List UInt8 := 0x07 :: 0x04 :: 0xa7 :: 0x00 :: 0x04 :: 0x03 :: 0x60 :: 0x36 :: 0x05 :: 0x84 :: 0x06 :: 0x01 :: 0xa7 :: 0xff :: 0xe0 :: 0x15 :: RB_cX5_remake_5
def RB_cX5_remake_3 : List UInt8 := 0xa2 :: 0x00 :: 0x1f :: 0x15 :: 0x05 :: 0x2a :: 0x15 :: 0x06 :: 0x1b :: 0x1c :: 0x1d :: 0xb6 :: 0x00 :: 0xc3 :: 0x99 :: 0x00 :: RB_cX5_remake_4
def RB_cX5_remake_2 : List UInt8 := 0x2a :: 0xb4 :: 0x00 :: 0xb0 :: 0x36 :: 0x04 :: 0x03 :: 0x36 :: 0x05 :: 0x03 :: 0x36 :: 0x06 :: 0x15 :: 0x06 :: 0x15 :: 0x04 :: RB_cX5_remake_3
def RB_cX5_remake_1 : List UInt8 := 0x00 :: 0x06 :: 0x10 :: 0xfe :: 0xac :: 0x2a :: 0x1c :: 0xb6 :: 0x00 :: 0xb5 :: 0x99 :: 0x00 :: 0x06 :: 0x10 :: 0xfd :: 0xac :: RB_cX5_remake_2
def RB_cX5_remake_0 : List UInt8 := 0x2a :: 0x1b :: 0xb6 :: 0x00 :: 0x73 :: 0x99 :: 0x00 :: 0x05 :: 0x02 :: 0xac :: 0x1c :: 0x1d :: 0xb8 :: 0x00 :: 0xbf :: 0x9a :: RB_cX5_remake_1
theorem tB_cX5_remake_0 : cX5_remake.data.toList.drop 0 = RB_cX5_remake_0 := by decide +kernel
theorem tB_cX5_remake_1 : cX5_remake.data.toList.drop 16 = RB_cX5_remake_1 := od_st tB_cX5_remake_0 16 rfl
theorem tB_cX5_remake_2 : cX5_remake.data.toList.drop 32 = RB_cX5_remake_2 := od_st tB_cX5_remake_1 16 rfl
theorem tB_cX5_remake_3 : cX5_remake.data.toList.drop 48 = RB_cX5_remake_3 := od_st tB_cX5_remake_2 16 rfl
theorem tB_cX5_remake_4 : cX5_remake.data.toList.drop 64 = RB_cX5_remake_4 := od_st tB_cX5_remake_3 16 rfl
theorem tB_cX5_remake_5 : cX5_remake.data.toList.drop 80 = RB_cX5_remake_5 := od_st tB_cX5_remake_4 16 rfl
theorem tB_cX5_remake_6 : cX5_remake.data.toList.drop 96 = RB_cX5_remake_6 := od_st tB_cX5_remake_5 16 rfl
theorem tB_cX5_remake_7 : cX5_remake.data.toList.drop 112 = RB_cX5_remake_7 := od_st tB_cX5_remake_6 16 rfl
theorem tB_cX5_remake_8 : cX5_remake.data.toList.drop 128 = RB_cX5_remake_8 := od_st tB_cX5_remake_7 16 rfl
theorem tB_cX5_remake_9 : cX5_remake.data.toList.drop 144 = RB_cX5_remake_9 := od_st tB_cX5_remake_8 16 rfl
theorem tB_cX5_remake_10 : cX5_remake.data.toList.drop 160 = RB_cX5_remake_10 := od_st tB_cX5_remake_9 16 rfl
theorem dX5_remake_0 : decode cX5_remake 0 = .ok (.aload_n 0, 1) := od_42 (od_at tB_cX5_remake_0 0 rfl)
theorem dX5_remake_1 : decode cX5_remake 1 = .ok (.iload_n 1, 1) := od_27 (od_at tB_cX5_remake_0 1 rfl)
theorem dX5_remake_2 : decode cX5_remake 2 = .ok (.invokevirtual 115, 3) := od_182 (od_at tB_cX5_remake_0 2 rfl) (od_at tB_cX5_remake_0 3 rfl) (od_at tB_cX5_remake_0 4 rfl) rfl
theorem dX5_remake_5 : decode cX5_remake 5 = .ok (.ifCond .eq 5, 3) := od_153 (od_at tB_cX5_remake_0 5 rfl) (od_at tB_cX5_remake_0 6 rfl) (od_at tB_cX5_remake_0 7 rfl) (by decide +kernel)
theorem dX5_remake_8 : decode cX5_remake 8 = .ok (.iconst (-1), 1) := od_2 (od_at tB_cX5_remake_0 8 rfl)
theorem dX5_remake_9 : decode cX5_remake 9 = .ok (.ireturn, 1) := od_172 (od_at tB_cX5_remake_0 9 rfl)
theorem dX5_remake_10 : decode cX5_remake 10 = .ok (.iload_n 2, 1) := od_28 (od_at tB_cX5_remake_0 10 rfl)
theorem dX5_remake_11 : decode cX5_remake 11 = .ok (.iload_n 3, 1) := od_29 (od_at tB_cX5_remake_0 11 rfl)
theorem dX5_remake_12 : decode cX5_remake 12 = .ok (.invokestatic 191, 3) := od_184 (od_at tB_cX5_remake_0 12 rfl) (od_at tB_cX5_remake_0 13 rfl) (od_at tB_cX5_remake_0 14 rfl) rfl
theorem dX5_remake_15 : decode cX5_remake 15 = .ok (.ifCond .ne 6, 3) := od_154 (od_at tB_cX5_remake_0 15 rfl) (od_at tB_cX5_remake_0 16 rfl) (od_at tB_cX5_remake_0 17 rfl) (by decide +kernel)
theorem dX5_remake_18 : decode cX5_remake 18 = .ok (.bipush (-2), 2) := od_16 (od_at tB_cX5_remake_1 2 rfl) (od_at tB_cX5_remake_1 3 rfl) (by decide +kernel)
theorem dX5_remake_20 : decode cX5_remake 20 = .ok (.ireturn, 1) := od_172 (od_at tB_cX5_remake_1 4 rfl)
theorem dX5_remake_21 : decode cX5_remake 21 = .ok (.aload_n 0, 1) := od_42 (od_at tB_cX5_remake_1 5 rfl)
theorem dX5_remake_22 : decode cX5_remake 22 = .ok (.iload_n 2, 1) := od_28 (od_at tB_cX5_remake_1 6 rfl)
theorem dX5_remake_23 : decode cX5_remake 23 = .ok (.invokevirtual 181, 3) := od_182 (od_at tB_cX5_remake_1 7 rfl) (od_at tB_cX5_remake_1 8 rfl) (od_at tB_cX5_remake_1 9 rfl) rfl
theorem dX5_remake_26 : decode cX5_remake 26 = .ok (.ifCond .eq 6, 3) := od_153 (od_at tB_cX5_remake_1 10 rfl) (od_at tB_cX5_remake_1 11 rfl) (od_at tB_cX5_remake_1 12 rfl) (by decide +kernel)
theorem dX5_remake_29 : decode cX5_remake 29 = .ok (.bipush (-3), 2) := od_16 (od_at tB_cX5_remake_1 13 rfl) (od_at tB_cX5_remake_1 14 rfl) (by decide +kernel)
theorem dX5_remake_31 : decode cX5_remake 31 = .ok (.ireturn, 1) := od_172 (od_at tB_cX5_remake_1 15 rfl)
theorem dX5_remake_32 : decode cX5_remake 32 = .ok (.aload_n 0, 1) := od_42 (od_at tB_cX5_remake_2 0 rfl)
theorem dX5_remake_33 : decode cX5_remake 33 = .ok (.getfield 176, 3) := od_180 (od_at tB_cX5_remake_2 1 rfl) (od_at tB_cX5_remake_2 2 rfl) (od_at tB_cX5_remake_2 3 rfl) rfl
theorem dX5_remake_36 : decode cX5_remake 36 = .ok (.istore 4, 2) := od_54 (od_at tB_cX5_remake_2 4 rfl) (od_at tB_cX5_remake_2 5 rfl) rfl
theorem dX5_remake_38 : decode cX5_remake 38 = .ok (.iconst 0, 1) := od_3 (od_at tB_cX5_remake_2 6 rfl)
theorem dX5_remake_39 : decode cX5_remake 39 = .ok (.istore 5, 2) := od_54 (od_at tB_cX5_remake_2 7 rfl) (od_at tB_cX5_remake_2 8 rfl) rfl
theorem dX5_remake_41 : decode cX5_remake 41 = .ok (.iconst 0, 1) := od_3 (od_at tB_cX5_remake_2 9 rfl)
theorem dX5_remake_42 : decode cX5_remake 42 = .ok (.istore 6, 2) := od_54 (od_at tB_cX5_remake_2 10 rfl) (od_at tB_cX5_remake_2 11 rfl) rfl
theorem dX5_remake_44 : decode cX5_remake 44 = .ok (.iload 6, 2) := od_21 (od_at tB_cX5_remake_2 12 rfl) (od_at tB_cX5_remake_2 13 rfl) rfl
theorem dX5_remake_46 : decode cX5_remake 46 = .ok (.iload 4, 2) := od_21 (od_at tB_cX5_remake_2 14 rfl) (od_at tB_cX5_remake_2 15 rfl) rfl
theorem dX5_remake_48 : decode cX5_remake 48 = .ok (.if_icmp .ge 31, 3) := od_162 (od_at tB_cX5_remake_3 0 rfl) (od_at tB_cX5_remake_3 1 rfl) (od_at tB_cX5_remake_3 2 rfl) (by decide +kernel)
theorem dX5_remake_51 : decode cX5_remake 51 = .ok (.iload 5, 2) := od_21 (od_at tB_cX5_remake_3 3 rfl) (od_at tB_cX5_remake_3 4 rfl) rfl
theorem dX5_remake_53 : decode cX5_remake 53 = .ok (.aload_n 0, 1) := od_42 (od_at tB_cX5_remake_3 5 rfl)
theorem dX5_remake_54 : decode cX5_remake 54 = .ok (.iload 6, 2) := od_21 (od_at tB_cX5_remake_3 6 rfl) (od_at tB_cX5_remake_3 7 rfl) rfl
theorem dX5_remake_56 : decode cX5_remake 56 = .ok (.iload_n 1, 1) := od_27 (od_at tB_cX5_remake_3 8 rfl)
theorem dX5_remake_57 : decode cX5_remake 57 = .ok (.iload_n 2, 1) := od_28 (od_at tB_cX5_remake_3 9 rfl)
theorem dX5_remake_58 : decode cX5_remake 58 = .ok (.iload_n 3, 1) := od_29 (od_at tB_cX5_remake_3 10 rfl)
theorem dX5_remake_59 : decode cX5_remake 59 = .ok (.invokevirtual 195, 3) := od_182 (od_at tB_cX5_remake_3 11 rfl) (od_at tB_cX5_remake_3 12 rfl) (od_at tB_cX5_remake_3 13 rfl) rfl
theorem dX5_remake_62 : decode cX5_remake 62 = .ok (.ifCond .eq 7, 3) := od_153 (od_at tB_cX5_remake_3 14 rfl) (od_at tB_cX5_remake_3 15 rfl) (od_at tB_cX5_remake_3 16 rfl) (by decide +kernel)
theorem dX5_remake_65 : decode cX5_remake 65 = .ok (.iconst 1, 1) := od_4 (od_at tB_cX5_remake_4 1 rfl)
theorem dX5_remake_66 : decode cX5_remake 66 = .ok (.goto 4, 3) := od_167 (od_at tB_cX5_remake_4 2 rfl) (od_at tB_cX5_remake_4 3 rfl) (od_at tB_cX5_remake_4 4 rfl) (by decide +kernel)
theorem dX5_remake_69 : decode cX5_remake 69 = .ok (.iconst 0, 1) := od_3 (od_at tB_cX5_remake_4 5 rfl)
theorem dX5_remake_70 : decode cX5_remake 70 = .ok (.iadd, 1) := od_96 (od_at tB_cX5_remake_4 6 rfl)
theorem dX5_remake_71 : decode cX5_remake 71 = .ok (.istore 5, 2) := od_54 (od_at tB_cX5_remake_4 7 rfl) (od_at tB_cX5_remake_4 8 rfl) rfl
theorem dX5_remake_73 : decode cX5_remake 73 = .ok (.iinc 6 1, 3) := od_132 (od_at tB_cX5_remake_4 9 rfl) (od_at tB_cX5_remake_4 10 rfl) (od_at tB_cX5_remake_4 11 rfl) rfl (by decide +kernel)
theorem dX5_remake_76 : decode cX5_remake 76 = .ok (.goto (-32), 3) := od_167 (od_at tB_cX5_remake_4 12 rfl) (od_at tB_cX5_remake_4 13 rfl) (od_at tB_cX5_remake_4 14 rfl) (by decide +kernel)
theorem dX5_remake_79 : decode cX5_remake 79 = .ok (.iload 4, 2) := od_21 (od_at tB_cX5_remake_4 15 rfl) (od_at tB_cX5_remake_4 16 rfl) rfl
theorem dX5_remake_81 : decode cX5_remake 81 = .ok (.iload 5, 2) := od_21 (od_at tB_cX5_remake_5 1 rfl) (od_at tB_cX5_remake_5 2 rfl) rfl
theorem dX5_remake_83 : decode cX5_remake 83 = .ok (.iadd, 1) := od_96 (od_at tB_cX5_remake_5 3 rfl)
theorem dX5_remake_84 : decode cX5_remake 84 = .ok (.bipush 40, 2) := od_16 (od_at tB_cX5_remake_5 4 rfl) (od_at tB_cX5_remake_5 5 rfl) (by decide +kernel)
theorem dX5_remake_86 : decode cX5_remake 86 = .ok (.if_icmp .le 6, 3) := od_164 (od_at tB_cX5_remake_5 6 rfl) (od_at tB_cX5_remake_5 7 rfl) (od_at tB_cX5_remake_5 8 rfl) (by decide +kernel)
theorem dX5_remake_89 : decode cX5_remake 89 = .ok (.bipush (-4), 2) := od_16 (od_at tB_cX5_remake_5 9 rfl) (od_at tB_cX5_remake_5 10 rfl) (by decide +kernel)
theorem dX5_remake_91 : decode cX5_remake 91 = .ok (.ireturn, 1) := od_172 (od_at tB_cX5_remake_5 11 rfl)
theorem dX5_remake_92 : decode cX5_remake 92 = .ok (.iconst 0, 1) := od_3 (od_at tB_cX5_remake_5 12 rfl)
theorem dX5_remake_93 : decode cX5_remake 93 = .ok (.istore 6, 2) := od_54 (od_at tB_cX5_remake_5 13 rfl) (od_at tB_cX5_remake_5 14 rfl) rfl
theorem dX5_remake_95 : decode cX5_remake 95 = .ok (.iload 6, 2) := od_21 (od_at tB_cX5_remake_5 15 rfl) (od_at tB_cX5_remake_5 16 rfl) rfl
theorem dX5_remake_97 : decode cX5_remake 97 = .ok (.iload 4, 2) := od_21 (od_at tB_cX5_remake_6 1 rfl) (od_at tB_cX5_remake_6 2 rfl) rfl
theorem dX5_remake_99 : decode cX5_remake 99 = .ok (.if_icmp .ge 63, 3) := od_162 (od_at tB_cX5_remake_6 3 rfl) (od_at tB_cX5_remake_6 4 rfl) (od_at tB_cX5_remake_6 5 rfl) (by decide +kernel)
theorem dX5_remake_102 : decode cX5_remake 102 = .ok (.aload_n 0, 1) := od_42 (od_at tB_cX5_remake_6 6 rfl)
theorem dX5_remake_103 : decode cX5_remake 103 = .ok (.iload 6, 2) := od_21 (od_at tB_cX5_remake_6 7 rfl) (od_at tB_cX5_remake_6 8 rfl) rfl
theorem dX5_remake_105 : decode cX5_remake 105 = .ok (.iload_n 1, 1) := od_27 (od_at tB_cX5_remake_6 9 rfl)
theorem dX5_remake_106 : decode cX5_remake 106 = .ok (.iload_n 2, 1) := od_28 (od_at tB_cX5_remake_6 10 rfl)
theorem dX5_remake_107 : decode cX5_remake 107 = .ok (.iload_n 3, 1) := od_29 (od_at tB_cX5_remake_6 11 rfl)
theorem dX5_remake_108 : decode cX5_remake 108 = .ok (.invokevirtual 195, 3) := od_182 (od_at tB_cX5_remake_6 12 rfl) (od_at tB_cX5_remake_6 13 rfl) (od_at tB_cX5_remake_6 14 rfl) rfl
theorem dX5_remake_111 : decode cX5_remake 111 = .ok (.ifCond .eq 45, 3) := od_153 (od_at tB_cX5_remake_6 15 rfl) (od_at tB_cX5_remake_6 16 rfl) (od_at tB_cX5_remake_6 17 rfl) (by decide +kernel)
theorem dX5_remake_114 : decode cX5_remake 114 = .ok (.aload_n 0, 1) := od_42 (od_at tB_cX5_remake_7 2 rfl)
theorem dX5_remake_115 : decode cX5_remake 115 = .ok (.getfield 59, 3) := od_180 (od_at tB_cX5_remake_7 3 rfl) (od_at tB_cX5_remake_7 4 rfl) (od_at tB_cX5_remake_7 5 rfl) rfl
theorem dX5_remake_118 : decode cX5_remake 118 = .ok (.iload 6, 2) := od_21 (od_at tB_cX5_remake_7 6 rfl) (od_at tB_cX5_remake_7 7 rfl) rfl
theorem dX5_remake_120 : decode cX5_remake 120 = .ok (.aload_n 0, 1) := od_42 (od_at tB_cX5_remake_7 8 rfl)
theorem dX5_remake_121 : decode cX5_remake 121 = .ok (.getfield 176, 3) := od_180 (od_at tB_cX5_remake_7 9 rfl) (od_at tB_cX5_remake_7 10 rfl) (od_at tB_cX5_remake_7 11 rfl) rfl
theorem dX5_remake_124 : decode cX5_remake 124 = .ok (.iastore, 1) := od_79 (od_at tB_cX5_remake_7 12 rfl)
theorem dX5_remake_125 : decode cX5_remake 125 = .ok (.aload_n 0, 1) := od_42 (od_at tB_cX5_remake_7 13 rfl)
theorem dX5_remake_126 : decode cX5_remake 126 = .ok (.iconst 2, 1) := od_5 (od_at tB_cX5_remake_7 14 rfl)
theorem dX5_remake_127 : decode cX5_remake 127 = .ok (.iload_n 1, 1) := od_27 (od_at tB_cX5_remake_7 15 rfl)
theorem dX5_remake_128 : decode cX5_remake 128 = .ok (.aload_n 0, 1) := od_42 (od_at tB_cX5_remake_8 0 rfl)
theorem dX5_remake_129 : decode cX5_remake 129 = .ok (.getfield 47, 3) := od_180 (od_at tB_cX5_remake_8 1 rfl) (od_at tB_cX5_remake_8 2 rfl) (od_at tB_cX5_remake_8 3 rfl) rfl
theorem dX5_remake_132 : decode cX5_remake 132 = .ok (.iload 6, 2) := od_21 (od_at tB_cX5_remake_8 4 rfl) (od_at tB_cX5_remake_8 5 rfl) rfl
theorem dX5_remake_134 : decode cX5_remake 134 = .ok (.iaload, 1) := od_46 (od_at tB_cX5_remake_8 6 rfl)
theorem dX5_remake_135 : decode cX5_remake 135 = .ok (.aload_n 0, 1) := od_42 (od_at tB_cX5_remake_8 7 rfl)
theorem dX5_remake_136 : decode cX5_remake 136 = .ok (.getfield 50, 3) := od_180 (od_at tB_cX5_remake_8 8 rfl) (od_at tB_cX5_remake_8 9 rfl) (od_at tB_cX5_remake_8 10 rfl) rfl
theorem dX5_remake_139 : decode cX5_remake 139 = .ok (.iload 6, 2) := od_21 (od_at tB_cX5_remake_8 11 rfl) (od_at tB_cX5_remake_8 12 rfl) rfl
theorem dX5_remake_141 : decode cX5_remake 141 = .ok (.iaload, 1) := od_46 (od_at tB_cX5_remake_8 13 rfl)
theorem dX5_remake_142 : decode cX5_remake 142 = .ok (.aload_n 0, 1) := od_42 (od_at tB_cX5_remake_8 14 rfl)
theorem dX5_remake_143 : decode cX5_remake 143 = .ok (.getfield 53, 3) := od_180 (od_at tB_cX5_remake_8 15 rfl) (od_at tB_cX5_remake_8 16 rfl) (od_at tB_cX5_remake_8 17 rfl) rfl
theorem dX5_remake_146 : decode cX5_remake 146 = .ok (.iload 6, 2) := od_21 (od_at tB_cX5_remake_9 2 rfl) (od_at tB_cX5_remake_9 3 rfl) rfl
theorem dX5_remake_148 : decode cX5_remake 148 = .ok (.iaload, 1) := od_46 (od_at tB_cX5_remake_9 4 rfl)
theorem dX5_remake_149 : decode cX5_remake 149 = .ok (.iload 6, 2) := od_21 (od_at tB_cX5_remake_9 5 rfl) (od_at tB_cX5_remake_9 6 rfl) rfl
theorem dX5_remake_151 : decode cX5_remake 151 = .ok (.invokevirtual 184, 3) := od_182 (od_at tB_cX5_remake_9 7 rfl) (od_at tB_cX5_remake_9 8 rfl) (od_at tB_cX5_remake_9 9 rfl) rfl
theorem dX5_remake_154 : decode cX5_remake 154 = .ok (.istore 7, 2) := od_54 (od_at tB_cX5_remake_9 10 rfl) (od_at tB_cX5_remake_9 11 rfl) rfl
theorem dX5_remake_156 : decode cX5_remake 156 = .ok (.iinc 6 1, 3) := od_132 (od_at tB_cX5_remake_9 12 rfl) (od_at tB_cX5_remake_9 13 rfl) (od_at tB_cX5_remake_9 14 rfl) rfl (by decide +kernel)
theorem dX5_remake_159 : decode cX5_remake 159 = .ok (.goto (-64), 3) := od_167 (od_at tB_cX5_remake_9 15 rfl) (od_at tB_cX5_remake_9 16 rfl) (od_at tB_cX5_remake_9 17 rfl) (by decide +kernel)
theorem dX5_remake_162 : decode cX5_remake 162 = .ok (.iload 5, 2) := od_21 (od_at tB_cX5_remake_10 2 rfl) (od_at tB_cX5_remake_10 3 rfl) rfl
theorem dX5_remake_164 : decode cX5_remake 164 = .ok (.ireturn, 1) := od_172 (od_at tB_cX5_remake_10 4 rfl)
def RB_cX5_ticketed_7 : List UInt8 := 0x10 :: 0xfe :: 0xac :: []
def RB_cX5_ticketed_6 : List UInt8 := 0x2e :: 0xac :: 0x2a :: 0xb4 :: 0x00 :: 0x3b :: 0x1b :: 0x2e :: 0xac :: 0x2a :: 0xb4 :: 0x00 :: 0x3e :: 0x1b :: 0x2e :: 0xac :: RB_cX5_ticketed_7
def RB_cX5_ticketed_5 : List UInt8 := 0x32 :: 0x1b :: 0x2e :: 0xac :: 0x2a :: 0xb4 :: 0x00 :: 0x35 :: 0x1b :: 0x2e :: 0xac :: 0x2a :: 0xb4 :: 0x00 :: 0x38 :: 0x1b :: RB_cX5_ticketed_6
def RB_cX5_ticketed_4 : List UInt8 := 0xb4 :: 0x00 :: 0x2c :: 0x1b :: 0x2e :: 0xac :: 0x2a :: 0xb4 :: 0x00 :: 0x2f :: 0x1b :: 0x2e :: 0xac :: 0x2a :: 0xb4 :: 0x00 :: RB_cX5_ticketed_5
def RB_cX5_ticketed_3 : List UInt8 := 0x00 :: 0x00 :: 0x00 :: 0x57 :: 0x00 :: 0x00 :: 0x00 :: 0x5e :: 0x2a :: 0xb4 :: 0x00 :: 0x29 :: 0x1b :: 0x2e :: 0xac :: 0x2a :: RB_cX5_ticketed_4
def RB_cX5_ticketed_2 : List UInt8 := 0x00 :: 0x00 :: 0x00 :: 0x3b :: 0x00 :: 0x00 :: 0x00 :: 0x42 :: 0x00 :: 0x00 :: 0x00 :: 0x49 :: 0x00 :: 0x00 :: 0x00 :: 0x50 :: RB_cX5_ticketed_3
def RB_cX5_ticketed_1 : List UInt8 := 0x00 :: 0x00 :: 0x00 :: 0x00 :: 0x00 :: 0x00 :: 0x00 :: 0x07 :: 0x00 :: 0x00 :: 0x00 :: 0x2d :: 0x00 :: 0x00 :: 0x00 :: 0x34 :: RB_cX5_ticketed_2
def RB_cX5_ticketed_0 : List UInt8 := 0x2a :: 0x1b :: 0xb6 :: 0x00 :: 0xbc :: 0x99 :: 0x00 :: 0x05 :: 0x02 :: 0xac :: 0x1c :: 0xaa :: 0x00 :: 0x00 :: 0x00 :: 0x65 :: RB_cX5_ticketed_1
theorem tB_cX5_ticketed_0 : cX5_ticketed.data.toList.drop 0 = RB_cX5_ticketed_0 := by decide +kernel
theorem tB_cX5_ticketed_1 : cX5_ticketed.data.toList.drop 16 = RB_cX5_ticketed_1 := od_st tB_cX5_ticketed_0 16 rfl
theorem tB_cX5_ticketed_2 : cX5_ticketed.data.toList.drop 32 = RB_cX5_ticketed_2 := od_st tB_cX5_ticketed_1 16 rfl
theorem tB_cX5_ticketed_3 : cX5_ticketed.data.toList.drop 48 = RB_cX5_ticketed_3 := od_st tB_cX5_ticketed_2 16 rfl
theorem tB_cX5_ticketed_4 : cX5_ticketed.data.toList.drop 64 = RB_cX5_ticketed_4 := od_st tB_cX5_ticketed_3 16 rfl
theorem tB_cX5_ticketed_5 : cX5_ticketed.data.toList.drop 80 = RB_cX5_ticketed_5 := od_st tB_cX5_ticketed_4 16 rfl
theorem tB_cX5_ticketed_6 : cX5_ticketed.data.toList.drop 96 = RB_cX5_ticketed_6 := od_st tB_cX5_ticketed_5 16 rfl
theorem tB_cX5_ticketed_7 : cX5_ticketed.data.toList.drop 112 = RB_cX5_ticketed_7 := od_st tB_cX5_ticketed_6 16 rfl
theorem dX5_ticketed_0 : decode cX5_ticketed 0 = .ok (.aload_n 0, 1) := od_42 (od_at tB_cX5_ticketed_0 0 rfl)
theorem dX5_ticketed_1 : decode cX5_ticketed 1 = .ok (.iload_n 1, 1) := od_27 (od_at tB_cX5_ticketed_0 1 rfl)
theorem dX5_ticketed_2 : decode cX5_ticketed 2 = .ok (.invokevirtual 188, 3) := od_182 (od_at tB_cX5_ticketed_0 2 rfl) (od_at tB_cX5_ticketed_0 3 rfl) (od_at tB_cX5_ticketed_0 4 rfl) rfl
theorem dX5_ticketed_5 : decode cX5_ticketed 5 = .ok (.ifCond .eq 5, 3) := od_153 (od_at tB_cX5_ticketed_0 5 rfl) (od_at tB_cX5_ticketed_0 6 rfl) (od_at tB_cX5_ticketed_0 7 rfl) (by decide +kernel)
theorem dX5_ticketed_8 : decode cX5_ticketed 8 = .ok (.iconst (-1), 1) := od_2 (od_at tB_cX5_ticketed_0 8 rfl)
theorem dX5_ticketed_9 : decode cX5_ticketed 9 = .ok (.ireturn, 1) := od_172 (od_at tB_cX5_ticketed_0 9 rfl)
theorem dX5_ticketed_10 : decode cX5_ticketed 10 = .ok (.iload_n 2, 1) := od_28 (od_at tB_cX5_ticketed_0 10 rfl)
theorem dX5_ticketed_11 : decode cX5_ticketed 11 = .ok (.tableswitch 101 0 7 #[45, 52, 59, 66, 73, 80, 87, 94], 45) := by decide +kernel
theorem dX5_ticketed_56 : decode cX5_ticketed 56 = .ok (.aload_n 0, 1) := od_42 (od_at tB_cX5_ticketed_3 8 rfl)
theorem dX5_ticketed_57 : decode cX5_ticketed 57 = .ok (.getfield 41, 3) := od_180 (od_at tB_cX5_ticketed_3 9 rfl) (od_at tB_cX5_ticketed_3 10 rfl) (od_at tB_cX5_ticketed_3 11 rfl) rfl
theorem dX5_ticketed_60 : decode cX5_ticketed 60 = .ok (.iload_n 1, 1) := od_27 (od_at tB_cX5_ticketed_3 12 rfl)
theorem dX5_ticketed_61 : decode cX5_ticketed 61 = .ok (.iaload, 1) := od_46 (od_at tB_cX5_ticketed_3 13 rfl)
theorem dX5_ticketed_62 : decode cX5_ticketed 62 = .ok (.ireturn, 1) := od_172 (od_at tB_cX5_ticketed_3 14 rfl)
theorem dX5_ticketed_63 : decode cX5_ticketed 63 = .ok (.aload_n 0, 1) := od_42 (od_at tB_cX5_ticketed_3 15 rfl)
theorem dX5_ticketed_64 : decode cX5_ticketed 64 = .ok (.getfield 44, 3) := od_180 (od_at tB_cX5_ticketed_4 0 rfl) (od_at tB_cX5_ticketed_4 1 rfl) (od_at tB_cX5_ticketed_4 2 rfl) rfl
theorem dX5_ticketed_67 : decode cX5_ticketed 67 = .ok (.iload_n 1, 1) := od_27 (od_at tB_cX5_ticketed_4 3 rfl)
theorem dX5_ticketed_68 : decode cX5_ticketed 68 = .ok (.iaload, 1) := od_46 (od_at tB_cX5_ticketed_4 4 rfl)
theorem dX5_ticketed_69 : decode cX5_ticketed 69 = .ok (.ireturn, 1) := od_172 (od_at tB_cX5_ticketed_4 5 rfl)
theorem dX5_ticketed_70 : decode cX5_ticketed 70 = .ok (.aload_n 0, 1) := od_42 (od_at tB_cX5_ticketed_4 6 rfl)
theorem dX5_ticketed_71 : decode cX5_ticketed 71 = .ok (.getfield 47, 3) := od_180 (od_at tB_cX5_ticketed_4 7 rfl) (od_at tB_cX5_ticketed_4 8 rfl) (od_at tB_cX5_ticketed_4 9 rfl) rfl
theorem dX5_ticketed_74 : decode cX5_ticketed 74 = .ok (.iload_n 1, 1) := od_27 (od_at tB_cX5_ticketed_4 10 rfl)
theorem dX5_ticketed_75 : decode cX5_ticketed 75 = .ok (.iaload, 1) := od_46 (od_at tB_cX5_ticketed_4 11 rfl)
theorem dX5_ticketed_76 : decode cX5_ticketed 76 = .ok (.ireturn, 1) := od_172 (od_at tB_cX5_ticketed_4 12 rfl)
theorem dX5_ticketed_77 : decode cX5_ticketed 77 = .ok (.aload_n 0, 1) := od_42 (od_at tB_cX5_ticketed_4 13 rfl)
theorem dX5_ticketed_78 : decode cX5_ticketed 78 = .ok (.getfield 50, 3) := od_180 (od_at tB_cX5_ticketed_4 14 rfl) (od_at tB_cX5_ticketed_4 15 rfl) (od_at tB_cX5_ticketed_4 16 rfl) rfl
theorem dX5_ticketed_81 : decode cX5_ticketed 81 = .ok (.iload_n 1, 1) := od_27 (od_at tB_cX5_ticketed_5 1 rfl)
theorem dX5_ticketed_82 : decode cX5_ticketed 82 = .ok (.iaload, 1) := od_46 (od_at tB_cX5_ticketed_5 2 rfl)
theorem dX5_ticketed_83 : decode cX5_ticketed 83 = .ok (.ireturn, 1) := od_172 (od_at tB_cX5_ticketed_5 3 rfl)
theorem dX5_ticketed_84 : decode cX5_ticketed 84 = .ok (.aload_n 0, 1) := od_42 (od_at tB_cX5_ticketed_5 4 rfl)
theorem dX5_ticketed_85 : decode cX5_ticketed 85 = .ok (.getfield 53, 3) := od_180 (od_at tB_cX5_ticketed_5 5 rfl) (od_at tB_cX5_ticketed_5 6 rfl) (od_at tB_cX5_ticketed_5 7 rfl) rfl
theorem dX5_ticketed_88 : decode cX5_ticketed 88 = .ok (.iload_n 1, 1) := od_27 (od_at tB_cX5_ticketed_5 8 rfl)
theorem dX5_ticketed_89 : decode cX5_ticketed 89 = .ok (.iaload, 1) := od_46 (od_at tB_cX5_ticketed_5 9 rfl)
theorem dX5_ticketed_90 : decode cX5_ticketed 90 = .ok (.ireturn, 1) := od_172 (od_at tB_cX5_ticketed_5 10 rfl)
theorem dX5_ticketed_91 : decode cX5_ticketed 91 = .ok (.aload_n 0, 1) := od_42 (od_at tB_cX5_ticketed_5 11 rfl)
theorem dX5_ticketed_92 : decode cX5_ticketed 92 = .ok (.getfield 56, 3) := od_180 (od_at tB_cX5_ticketed_5 12 rfl) (od_at tB_cX5_ticketed_5 13 rfl) (od_at tB_cX5_ticketed_5 14 rfl) rfl
theorem dX5_ticketed_95 : decode cX5_ticketed 95 = .ok (.iload_n 1, 1) := od_27 (od_at tB_cX5_ticketed_5 15 rfl)
theorem dX5_ticketed_96 : decode cX5_ticketed 96 = .ok (.iaload, 1) := od_46 (od_at tB_cX5_ticketed_6 0 rfl)
theorem dX5_ticketed_97 : decode cX5_ticketed 97 = .ok (.ireturn, 1) := od_172 (od_at tB_cX5_ticketed_6 1 rfl)
theorem dX5_ticketed_98 : decode cX5_ticketed 98 = .ok (.aload_n 0, 1) := od_42 (od_at tB_cX5_ticketed_6 2 rfl)
theorem dX5_ticketed_99 : decode cX5_ticketed 99 = .ok (.getfield 59, 3) := od_180 (od_at tB_cX5_ticketed_6 3 rfl) (od_at tB_cX5_ticketed_6 4 rfl) (od_at tB_cX5_ticketed_6 5 rfl) rfl
theorem dX5_ticketed_102 : decode cX5_ticketed 102 = .ok (.iload_n 1, 1) := od_27 (od_at tB_cX5_ticketed_6 6 rfl)
theorem dX5_ticketed_103 : decode cX5_ticketed 103 = .ok (.iaload, 1) := od_46 (od_at tB_cX5_ticketed_6 7 rfl)
theorem dX5_ticketed_104 : decode cX5_ticketed 104 = .ok (.ireturn, 1) := od_172 (od_at tB_cX5_ticketed_6 8 rfl)
theorem dX5_ticketed_105 : decode cX5_ticketed 105 = .ok (.aload_n 0, 1) := od_42 (od_at tB_cX5_ticketed_6 9 rfl)
theorem dX5_ticketed_106 : decode cX5_ticketed 106 = .ok (.getfield 62, 3) := od_180 (od_at tB_cX5_ticketed_6 10 rfl) (od_at tB_cX5_ticketed_6 11 rfl) (od_at tB_cX5_ticketed_6 12 rfl) rfl
theorem dX5_ticketed_109 : decode cX5_ticketed 109 = .ok (.iload_n 1, 1) := od_27 (od_at tB_cX5_ticketed_6 13 rfl)
theorem dX5_ticketed_110 : decode cX5_ticketed 110 = .ok (.iaload, 1) := od_46 (od_at tB_cX5_ticketed_6 14 rfl)
theorem dX5_ticketed_111 : decode cX5_ticketed 111 = .ok (.ireturn, 1) := od_172 (od_at tB_cX5_ticketed_6 15 rfl)
theorem dX5_ticketed_112 : decode cX5_ticketed 112 = .ok (.bipush (-2), 2) := od_16 (od_at tB_cX5_ticketed_7 0 rfl) (od_at tB_cX5_ticketed_7 1 rfl) (by decide +kernel)
theorem dX5_ticketed_114 : decode cX5_ticketed 114 = .ok (.ireturn, 1) := od_172 (od_at tB_cX5_ticketed_7 2 rfl)
def RB_cX5_volumeOf_2 : List UInt8 := 0x00 :: 0xac :: 0xad :: []
def RB_cX5_volumeOf_1 : List UInt8 := 0x2e :: 0x85 :: 0x69 :: 0x2a :: 0xb4 :: 0x00 :: 0x07 :: 0x2a :: 0xb4 :: 0x00 :: 0x2c :: 0x1b :: 0x2e :: 0x2e :: 0x85 :: 0xb8 :: RB_cX5_volumeOf_2
def RB_cX5_volumeOf_0 : List UInt8 := 0x14 :: 0x00 :: 0xc7 :: 0x2a :: 0xb4 :: 0x00 :: 0x32 :: 0x1b :: 0x2e :: 0x85 :: 0x69 :: 0x2a :: 0xb4 :: 0x00 :: 0x38 :: 0x1b :: RB_cX5_volumeOf_1
theorem tB_cX5_volumeOf_0 : cX5_volumeOf.data.toList.drop 0 = RB_cX5_volumeOf_0 := by decide +kernel
theorem tB_cX5_volumeOf_1 : cX5_volumeOf.data.toList.drop 16 = RB_cX5_volumeOf_1 := od_st tB_cX5_volumeOf_0 16 rfl
theorem tB_cX5_volumeOf_2 : cX5_volumeOf.data.toList.drop 32 = RB_cX5_volumeOf_2 := od_st tB_cX5_volumeOf_1 16 rfl
theorem dX5_volumeOf_0 : decode cX5_volumeOf 0 = .ok (.ldc2_w 199, 3) := od_20 (od_at tB_cX5_volumeOf_0 0 rfl) (od_at tB_cX5_volumeOf_0 1 rfl) (od_at tB_cX5_volumeOf_0 2 rfl) rfl
theorem dX5_volumeOf_3 : decode cX5_volumeOf 3 = .ok (.aload_n 0, 1) := od_42 (od_at tB_cX5_volumeOf_0 3 rfl)
theorem dX5_volumeOf_4 : decode cX5_volumeOf 4 = .ok (.getfield 50, 3) := od_180 (od_at tB_cX5_volumeOf_0 4 rfl) (od_at tB_cX5_volumeOf_0 5 rfl) (od_at tB_cX5_volumeOf_0 6 rfl) rfl
theorem dX5_volumeOf_7 : decode cX5_volumeOf 7 = .ok (.iload_n 1, 1) := od_27 (od_at tB_cX5_volumeOf_0 7 rfl)
theorem dX5_volumeOf_8 : decode cX5_volumeOf 8 = .ok (.iaload, 1) := od_46 (od_at tB_cX5_volumeOf_0 8 rfl)
theorem dX5_volumeOf_9 : decode cX5_volumeOf 9 = .ok (.i2l, 1) := od_133 (od_at tB_cX5_volumeOf_0 9 rfl)
theorem dX5_volumeOf_10 : decode cX5_volumeOf 10 = .ok (.lmul, 1) := od_105 (od_at tB_cX5_volumeOf_0 10 rfl)
theorem dX5_volumeOf_11 : decode cX5_volumeOf 11 = .ok (.aload_n 0, 1) := od_42 (od_at tB_cX5_volumeOf_0 11 rfl)
theorem dX5_volumeOf_12 : decode cX5_volumeOf 12 = .ok (.getfield 56, 3) := od_180 (od_at tB_cX5_volumeOf_0 12 rfl) (od_at tB_cX5_volumeOf_0 13 rfl) (od_at tB_cX5_volumeOf_0 14 rfl) rfl
theorem dX5_volumeOf_15 : decode cX5_volumeOf 15 = .ok (.iload_n 1, 1) := od_27 (od_at tB_cX5_volumeOf_0 15 rfl)
theorem dX5_volumeOf_16 : decode cX5_volumeOf 16 = .ok (.iaload, 1) := od_46 (od_at tB_cX5_volumeOf_1 0 rfl)
theorem dX5_volumeOf_17 : decode cX5_volumeOf 17 = .ok (.i2l, 1) := od_133 (od_at tB_cX5_volumeOf_1 1 rfl)
theorem dX5_volumeOf_18 : decode cX5_volumeOf 18 = .ok (.lmul, 1) := od_105 (od_at tB_cX5_volumeOf_1 2 rfl)
theorem dX5_volumeOf_19 : decode cX5_volumeOf 19 = .ok (.aload_n 0, 1) := od_42 (od_at tB_cX5_volumeOf_1 3 rfl)
theorem dX5_volumeOf_20 : decode cX5_volumeOf 20 = .ok (.getfield 7, 3) := od_180 (od_at tB_cX5_volumeOf_1 4 rfl) (od_at tB_cX5_volumeOf_1 5 rfl) (od_at tB_cX5_volumeOf_1 6 rfl) rfl
theorem dX5_volumeOf_23 : decode cX5_volumeOf 23 = .ok (.aload_n 0, 1) := od_42 (od_at tB_cX5_volumeOf_1 7 rfl)
theorem dX5_volumeOf_24 : decode cX5_volumeOf 24 = .ok (.getfield 44, 3) := od_180 (od_at tB_cX5_volumeOf_1 8 rfl) (od_at tB_cX5_volumeOf_1 9 rfl) (od_at tB_cX5_volumeOf_1 10 rfl) rfl
theorem dX5_volumeOf_27 : decode cX5_volumeOf 27 = .ok (.iload_n 1, 1) := od_27 (od_at tB_cX5_volumeOf_1 11 rfl)
theorem dX5_volumeOf_28 : decode cX5_volumeOf 28 = .ok (.iaload, 1) := od_46 (od_at tB_cX5_volumeOf_1 12 rfl)
theorem dX5_volumeOf_29 : decode cX5_volumeOf 29 = .ok (.iaload, 1) := od_46 (od_at tB_cX5_volumeOf_1 13 rfl)
theorem dX5_volumeOf_30 : decode cX5_volumeOf 30 = .ok (.i2l, 1) := od_133 (od_at tB_cX5_volumeOf_1 14 rfl)
theorem dX5_volumeOf_31 : decode cX5_volumeOf 31 = .ok (.invokestatic 172, 3) := od_184 (od_at tB_cX5_volumeOf_1 15 rfl) (od_at tB_cX5_volumeOf_1 16 rfl) (od_at tB_cX5_volumeOf_1 17 rfl) rfl
theorem dX5_volumeOf_34 : decode cX5_volumeOf 34 = .ok (.lreturn, 1) := od_173 (od_at tB_cX5_volumeOf_2 2 rfl)
def RB_cX5_volume_1 : List UInt8 := 0xb6 :: 0x00 :: 0xc9 :: 0xad :: []
def RB_cX5_volume_0 : List UInt8 := 0x2a :: 0x1b :: 0xb6 :: 0x00 :: 0xbc :: 0x99 :: 0x00 :: 0x09 :: 0xb8 :: 0x00 :: 0x5c :: 0xa7 :: 0x00 :: 0x08 :: 0x2a :: 0x1b :: RB_cX5_volume_1
theorem tB_cX5_volume_0 : cX5_volume.data.toList.drop 0 = RB_cX5_volume_0 := by decide +kernel
theorem tB_cX5_volume_1 : cX5_volume.data.toList.drop 16 = RB_cX5_volume_1 := od_st tB_cX5_volume_0 16 rfl
theorem dX5_volume_0 : decode cX5_volume 0 = .ok (.aload_n 0, 1) := od_42 (od_at tB_cX5_volume_0 0 rfl)
theorem dX5_volume_1 : decode cX5_volume 1 = .ok (.iload_n 1, 1) := od_27 (od_at tB_cX5_volume_0 1 rfl)
theorem dX5_volume_2 : decode cX5_volume 2 = .ok (.invokevirtual 188, 3) := od_182 (od_at tB_cX5_volume_0 2 rfl) (od_at tB_cX5_volume_0 3 rfl) (od_at tB_cX5_volume_0 4 rfl) rfl
theorem dX5_volume_5 : decode cX5_volume 5 = .ok (.ifCond .eq 9, 3) := od_153 (od_at tB_cX5_volume_0 5 rfl) (od_at tB_cX5_volume_0 6 rfl) (od_at tB_cX5_volume_0 7 rfl) (by decide +kernel)
theorem dX5_volume_8 : decode cX5_volume 8 = .ok (.invokestatic 92, 3) := od_184 (od_at tB_cX5_volume_0 8 rfl) (od_at tB_cX5_volume_0 9 rfl) (od_at tB_cX5_volume_0 10 rfl) rfl
theorem dX5_volume_11 : decode cX5_volume 11 = .ok (.goto 8, 3) := od_167 (od_at tB_cX5_volume_0 11 rfl) (od_at tB_cX5_volume_0 12 rfl) (od_at tB_cX5_volume_0 13 rfl) (by decide +kernel)
theorem dX5_volume_14 : decode cX5_volume 14 = .ok (.aload_n 0, 1) := od_42 (od_at tB_cX5_volume_0 14 rfl)
theorem dX5_volume_15 : decode cX5_volume 15 = .ok (.iload_n 1, 1) := od_27 (od_at tB_cX5_volume_0 15 rfl)
theorem dX5_volume_16 : decode cX5_volume 16 = .ok (.invokevirtual 201, 3) := od_182 (od_at tB_cX5_volume_1 0 rfl) (od_at tB_cX5_volume_1 1 rfl) (od_at tB_cX5_volume_1 2 rfl) rfl
theorem dX5_volume_19 : decode cX5_volume 19 = .ok (.lreturn, 1) := od_173 (od_at tB_cX5_volume_1 3 rfl)
def RB_cX5_sumOf_4 : List UInt8 := 0x04 :: 0x09 :: 0x61 :: 0x37 :: 0x04 :: 0x84 :: 0x06 :: 0x01 :: 0xa7 :: 0xff :: 0xbe :: 0x16 :: 0x04 :: 0xad :: []
def RB_cX5_sumOf_3 : List UInt8 := 0x00 :: 0x3b :: 0x15 :: 0x06 :: 0x2e :: 0x9c :: 0x00 :: 0x0c :: 0x2a :: 0x15 :: 0x06 :: 0xb6 :: 0x00 :: 0xc9 :: 0xa7 :: 0x00 :: RB_cX5_sumOf_4
def RB_cX5_sumOf_2 : List UInt8 := 0x15 :: 0x06 :: 0x2e :: 0x85 :: 0x1c :: 0x85 :: 0x1d :: 0x85 :: 0xb8 :: 0x00 :: 0x65 :: 0x99 :: 0x00 :: 0x16 :: 0x2a :: 0xb4 :: RB_cX5_sumOf_3
def RB_cX5_sumOf_1 : List UInt8 := 0x04 :: 0x2a :: 0xb4 :: 0x00 :: 0x2c :: 0x15 :: 0x06 :: 0x2e :: 0x1b :: 0xa0 :: 0x00 :: 0x28 :: 0x2a :: 0xb4 :: 0x00 :: 0x2f :: RB_cX5_sumOf_2
def RB_cX5_sumOf_0 : List UInt8 := 0x09 :: 0x37 :: 0x04 :: 0x03 :: 0x36 :: 0x06 :: 0x15 :: 0x06 :: 0x2a :: 0xb4 :: 0x00 :: 0xb0 :: 0xa2 :: 0x00 :: 0x3f :: 0x16 :: RB_cX5_sumOf_1
theorem tB_cX5_sumOf_0 : cX5_sumOf.data.toList.drop 0 = RB_cX5_sumOf_0 := by decide +kernel
theorem tB_cX5_sumOf_1 : cX5_sumOf.data.toList.drop 16 = RB_cX5_sumOf_1 := od_st tB_cX5_sumOf_0 16 rfl
theorem tB_cX5_sumOf_2 : cX5_sumOf.data.toList.drop 32 = RB_cX5_sumOf_2 := od_st tB_cX5_sumOf_1 16 rfl
theorem tB_cX5_sumOf_3 : cX5_sumOf.data.toList.drop 48 = RB_cX5_sumOf_3 := od_st tB_cX5_sumOf_2 16 rfl
theorem tB_cX5_sumOf_4 : cX5_sumOf.data.toList.drop 64 = RB_cX5_sumOf_4 := od_st tB_cX5_sumOf_3 16 rfl
theorem dX5_sumOf_0 : decode cX5_sumOf 0 = .ok (.lconst 0, 1) := od_9 (od_at tB_cX5_sumOf_0 0 rfl)
theorem dX5_sumOf_1 : decode cX5_sumOf 1 = .ok (.lstore 4, 2) := od_55 (od_at tB_cX5_sumOf_0 1 rfl) (od_at tB_cX5_sumOf_0 2 rfl) rfl
theorem dX5_sumOf_3 : decode cX5_sumOf 3 = .ok (.iconst 0, 1) := od_3 (od_at tB_cX5_sumOf_0 3 rfl)
theorem dX5_sumOf_4 : decode cX5_sumOf 4 = .ok (.istore 6, 2) := od_54 (od_at tB_cX5_sumOf_0 4 rfl) (od_at tB_cX5_sumOf_0 5 rfl) rfl
theorem dX5_sumOf_6 : decode cX5_sumOf 6 = .ok (.iload 6, 2) := od_21 (od_at tB_cX5_sumOf_0 6 rfl) (od_at tB_cX5_sumOf_0 7 rfl) rfl
theorem dX5_sumOf_8 : decode cX5_sumOf 8 = .ok (.aload_n 0, 1) := od_42 (od_at tB_cX5_sumOf_0 8 rfl)
theorem dX5_sumOf_9 : decode cX5_sumOf 9 = .ok (.getfield 176, 3) := od_180 (od_at tB_cX5_sumOf_0 9 rfl) (od_at tB_cX5_sumOf_0 10 rfl) (od_at tB_cX5_sumOf_0 11 rfl) rfl
theorem dX5_sumOf_12 : decode cX5_sumOf 12 = .ok (.if_icmp .ge 63, 3) := od_162 (od_at tB_cX5_sumOf_0 12 rfl) (od_at tB_cX5_sumOf_0 13 rfl) (od_at tB_cX5_sumOf_0 14 rfl) (by decide +kernel)
theorem dX5_sumOf_15 : decode cX5_sumOf 15 = .ok (.lload 4, 2) := od_22 (od_at tB_cX5_sumOf_0 15 rfl) (od_at tB_cX5_sumOf_0 16 rfl) rfl
theorem dX5_sumOf_17 : decode cX5_sumOf 17 = .ok (.aload_n 0, 1) := od_42 (od_at tB_cX5_sumOf_1 1 rfl)
theorem dX5_sumOf_18 : decode cX5_sumOf 18 = .ok (.getfield 44, 3) := od_180 (od_at tB_cX5_sumOf_1 2 rfl) (od_at tB_cX5_sumOf_1 3 rfl) (od_at tB_cX5_sumOf_1 4 rfl) rfl
theorem dX5_sumOf_21 : decode cX5_sumOf 21 = .ok (.iload 6, 2) := od_21 (od_at tB_cX5_sumOf_1 5 rfl) (od_at tB_cX5_sumOf_1 6 rfl) rfl
theorem dX5_sumOf_23 : decode cX5_sumOf 23 = .ok (.iaload, 1) := od_46 (od_at tB_cX5_sumOf_1 7 rfl)
theorem dX5_sumOf_24 : decode cX5_sumOf 24 = .ok (.iload_n 1, 1) := od_27 (od_at tB_cX5_sumOf_1 8 rfl)
theorem dX5_sumOf_25 : decode cX5_sumOf 25 = .ok (.if_icmp .ne 40, 3) := od_160 (od_at tB_cX5_sumOf_1 9 rfl) (od_at tB_cX5_sumOf_1 10 rfl) (od_at tB_cX5_sumOf_1 11 rfl) (by decide +kernel)
theorem dX5_sumOf_28 : decode cX5_sumOf 28 = .ok (.aload_n 0, 1) := od_42 (od_at tB_cX5_sumOf_1 12 rfl)
theorem dX5_sumOf_29 : decode cX5_sumOf 29 = .ok (.getfield 47, 3) := od_180 (od_at tB_cX5_sumOf_1 13 rfl) (od_at tB_cX5_sumOf_1 14 rfl) (od_at tB_cX5_sumOf_1 15 rfl) rfl
theorem dX5_sumOf_32 : decode cX5_sumOf 32 = .ok (.iload 6, 2) := od_21 (od_at tB_cX5_sumOf_2 0 rfl) (od_at tB_cX5_sumOf_2 1 rfl) rfl
theorem dX5_sumOf_34 : decode cX5_sumOf 34 = .ok (.iaload, 1) := od_46 (od_at tB_cX5_sumOf_2 2 rfl)
theorem dX5_sumOf_35 : decode cX5_sumOf 35 = .ok (.i2l, 1) := od_133 (od_at tB_cX5_sumOf_2 3 rfl)
theorem dX5_sumOf_36 : decode cX5_sumOf 36 = .ok (.iload_n 2, 1) := od_28 (od_at tB_cX5_sumOf_2 4 rfl)
theorem dX5_sumOf_37 : decode cX5_sumOf 37 = .ok (.i2l, 1) := od_133 (od_at tB_cX5_sumOf_2 5 rfl)
theorem dX5_sumOf_38 : decode cX5_sumOf 38 = .ok (.iload_n 3, 1) := od_29 (od_at tB_cX5_sumOf_2 6 rfl)
theorem dX5_sumOf_39 : decode cX5_sumOf 39 = .ok (.i2l, 1) := od_133 (od_at tB_cX5_sumOf_2 7 rfl)
theorem dX5_sumOf_40 : decode cX5_sumOf 40 = .ok (.invokestatic 101, 3) := od_184 (od_at tB_cX5_sumOf_2 8 rfl) (od_at tB_cX5_sumOf_2 9 rfl) (od_at tB_cX5_sumOf_2 10 rfl) rfl
theorem dX5_sumOf_43 : decode cX5_sumOf 43 = .ok (.ifCond .eq 22, 3) := od_153 (od_at tB_cX5_sumOf_2 11 rfl) (od_at tB_cX5_sumOf_2 12 rfl) (od_at tB_cX5_sumOf_2 13 rfl) (by decide +kernel)
theorem dX5_sumOf_46 : decode cX5_sumOf 46 = .ok (.aload_n 0, 1) := od_42 (od_at tB_cX5_sumOf_2 14 rfl)
theorem dX5_sumOf_47 : decode cX5_sumOf 47 = .ok (.getfield 59, 3) := od_180 (od_at tB_cX5_sumOf_2 15 rfl) (od_at tB_cX5_sumOf_2 16 rfl) (od_at tB_cX5_sumOf_2 17 rfl) rfl
theorem dX5_sumOf_50 : decode cX5_sumOf 50 = .ok (.iload 6, 2) := od_21 (od_at tB_cX5_sumOf_3 2 rfl) (od_at tB_cX5_sumOf_3 3 rfl) rfl
theorem dX5_sumOf_52 : decode cX5_sumOf 52 = .ok (.iaload, 1) := od_46 (od_at tB_cX5_sumOf_3 4 rfl)
theorem dX5_sumOf_53 : decode cX5_sumOf 53 = .ok (.ifCond .ge 12, 3) := od_156 (od_at tB_cX5_sumOf_3 5 rfl) (od_at tB_cX5_sumOf_3 6 rfl) (od_at tB_cX5_sumOf_3 7 rfl) (by decide +kernel)
theorem dX5_sumOf_56 : decode cX5_sumOf 56 = .ok (.aload_n 0, 1) := od_42 (od_at tB_cX5_sumOf_3 8 rfl)
theorem dX5_sumOf_57 : decode cX5_sumOf 57 = .ok (.iload 6, 2) := od_21 (od_at tB_cX5_sumOf_3 9 rfl) (od_at tB_cX5_sumOf_3 10 rfl) rfl
theorem dX5_sumOf_59 : decode cX5_sumOf 59 = .ok (.invokevirtual 201, 3) := od_182 (od_at tB_cX5_sumOf_3 11 rfl) (od_at tB_cX5_sumOf_3 12 rfl) (od_at tB_cX5_sumOf_3 13 rfl) rfl
theorem dX5_sumOf_62 : decode cX5_sumOf 62 = .ok (.goto 4, 3) := od_167 (od_at tB_cX5_sumOf_3 14 rfl) (od_at tB_cX5_sumOf_3 15 rfl) (od_at tB_cX5_sumOf_3 16 rfl) (by decide +kernel)
theorem dX5_sumOf_65 : decode cX5_sumOf 65 = .ok (.lconst 0, 1) := od_9 (od_at tB_cX5_sumOf_4 1 rfl)
theorem dX5_sumOf_66 : decode cX5_sumOf 66 = .ok (.ladd, 1) := od_97 (od_at tB_cX5_sumOf_4 2 rfl)
theorem dX5_sumOf_67 : decode cX5_sumOf 67 = .ok (.lstore 4, 2) := od_55 (od_at tB_cX5_sumOf_4 3 rfl) (od_at tB_cX5_sumOf_4 4 rfl) rfl
theorem dX5_sumOf_69 : decode cX5_sumOf 69 = .ok (.iinc 6 1, 3) := od_132 (od_at tB_cX5_sumOf_4 5 rfl) (od_at tB_cX5_sumOf_4 6 rfl) (od_at tB_cX5_sumOf_4 7 rfl) rfl (by decide +kernel)
theorem dX5_sumOf_72 : decode cX5_sumOf 72 = .ok (.goto (-66), 3) := od_167 (od_at tB_cX5_sumOf_4 8 rfl) (od_at tB_cX5_sumOf_4 9 rfl) (od_at tB_cX5_sumOf_4 10 rfl) (by decide +kernel)
theorem dX5_sumOf_75 : decode cX5_sumOf 75 = .ok (.lload 4, 2) := od_22 (od_at tB_cX5_sumOf_4 11 rfl) (od_at tB_cX5_sumOf_4 12 rfl) rfl
theorem dX5_sumOf_77 : decode cX5_sumOf 77 = .ok (.lreturn, 1) := od_173 (od_at tB_cX5_sumOf_4 13 rfl)
def RB_cX5_sum_1 : List UInt8 := 0xb8 :: 0x00 :: 0x5c :: 0xa7 :: 0x00 :: 0x0a :: 0x2a :: 0x1b :: 0x1c :: 0x1d :: 0xb6 :: 0x00 :: 0xcd :: 0xad :: []
def RB_cX5_sum_0 : List UInt8 := 0x2a :: 0x1b :: 0xb6 :: 0x00 :: 0x73 :: 0x9a :: 0x00 :: 0x0b :: 0x1c :: 0x1d :: 0xb8 :: 0x00 :: 0xbf :: 0x9a :: 0x00 :: 0x09 :: RB_cX5_sum_1
theorem tB_cX5_sum_0 : cX5_sum.data.toList.drop 0 = RB_cX5_sum_0 := by decide +kernel
theorem tB_cX5_sum_1 : cX5_sum.data.toList.drop 16 = RB_cX5_sum_1 := od_st tB_cX5_sum_0 16 rfl
theorem dX5_sum_0 : decode cX5_sum 0 = .ok (.aload_n 0, 1) := od_42 (od_at tB_cX5_sum_0 0 rfl)
theorem dX5_sum_1 : decode cX5_sum 1 = .ok (.iload_n 1, 1) := od_27 (od_at tB_cX5_sum_0 1 rfl)
theorem dX5_sum_2 : decode cX5_sum 2 = .ok (.invokevirtual 115, 3) := od_182 (od_at tB_cX5_sum_0 2 rfl) (od_at tB_cX5_sum_0 3 rfl) (od_at tB_cX5_sum_0 4 rfl) rfl
theorem dX5_sum_5 : decode cX5_sum 5 = .ok (.ifCond .ne 11, 3) := od_154 (od_at tB_cX5_sum_0 5 rfl) (od_at tB_cX5_sum_0 6 rfl) (od_at tB_cX5_sum_0 7 rfl) (by decide +kernel)
theorem dX5_sum_8 : decode cX5_sum 8 = .ok (.iload_n 2, 1) := od_28 (od_at tB_cX5_sum_0 8 rfl)
theorem dX5_sum_9 : decode cX5_sum 9 = .ok (.iload_n 3, 1) := od_29 (od_at tB_cX5_sum_0 9 rfl)
theorem dX5_sum_10 : decode cX5_sum 10 = .ok (.invokestatic 191, 3) := od_184 (od_at tB_cX5_sum_0 10 rfl) (od_at tB_cX5_sum_0 11 rfl) (od_at tB_cX5_sum_0 12 rfl) rfl
theorem dX5_sum_13 : decode cX5_sum 13 = .ok (.ifCond .ne 9, 3) := od_154 (od_at tB_cX5_sum_0 13 rfl) (od_at tB_cX5_sum_0 14 rfl) (od_at tB_cX5_sum_0 15 rfl) (by decide +kernel)
theorem dX5_sum_16 : decode cX5_sum 16 = .ok (.invokestatic 92, 3) := od_184 (od_at tB_cX5_sum_1 0 rfl) (od_at tB_cX5_sum_1 1 rfl) (od_at tB_cX5_sum_1 2 rfl) rfl
theorem dX5_sum_19 : decode cX5_sum 19 = .ok (.goto 10, 3) := od_167 (od_at tB_cX5_sum_1 3 rfl) (od_at tB_cX5_sum_1 4 rfl) (od_at tB_cX5_sum_1 5 rfl) (by decide +kernel)
theorem dX5_sum_22 : decode cX5_sum 22 = .ok (.aload_n 0, 1) := od_42 (od_at tB_cX5_sum_1 6 rfl)
theorem dX5_sum_23 : decode cX5_sum 23 = .ok (.iload_n 1, 1) := od_27 (od_at tB_cX5_sum_1 7 rfl)
theorem dX5_sum_24 : decode cX5_sum 24 = .ok (.iload_n 2, 1) := od_28 (od_at tB_cX5_sum_1 8 rfl)
theorem dX5_sum_25 : decode cX5_sum 25 = .ok (.iload_n 3, 1) := od_29 (od_at tB_cX5_sum_1 9 rfl)
theorem dX5_sum_26 : decode cX5_sum 26 = .ok (.invokevirtual 205, 3) := od_182 (od_at tB_cX5_sum_1 10 rfl) (od_at tB_cX5_sum_1 11 rfl) (od_at tB_cX5_sum_1 12 rfl) rfl
theorem dX5_sum_29 : decode cX5_sum 29 = .ok (.lreturn, 1) := od_173 (od_at tB_cX5_sum_1 13 rfl)
def RB_cX5_shut_1 : List UInt8 := 0xfe :: 0xac :: 0x2a :: 0xb4 :: 0x00 :: 0x50 :: 0x3d :: 0x2a :: 0x1b :: 0xb5 :: 0x00 :: 0x50 :: 0x1c :: 0xac :: []
def RB_cX5_shut_0 : List UInt8 := 0x1b :: 0xb8 :: 0x00 :: 0x7a :: 0x99 :: 0x00 :: 0x0b :: 0x1b :: 0x2a :: 0xb4 :: 0x00 :: 0x50 :: 0xa2 :: 0x00 :: 0x06 :: 0x10 :: RB_cX5_shut_1
theorem tB_cX5_shut_0 : cX5_shut.data.toList.drop 0 = RB_cX5_shut_0 := by decide +kernel
theorem tB_cX5_shut_1 : cX5_shut.data.toList.drop 16 = RB_cX5_shut_1 := od_st tB_cX5_shut_0 16 rfl
theorem dX5_shut_0 : decode cX5_shut 0 = .ok (.iload_n 1, 1) := od_27 (od_at tB_cX5_shut_0 0 rfl)
theorem dX5_shut_1 : decode cX5_shut 1 = .ok (.invokestatic 122, 3) := od_184 (od_at tB_cX5_shut_0 1 rfl) (od_at tB_cX5_shut_0 2 rfl) (od_at tB_cX5_shut_0 3 rfl) rfl
theorem dX5_shut_4 : decode cX5_shut 4 = .ok (.ifCond .eq 11, 3) := od_153 (od_at tB_cX5_shut_0 4 rfl) (od_at tB_cX5_shut_0 5 rfl) (od_at tB_cX5_shut_0 6 rfl) (by decide +kernel)
theorem dX5_shut_7 : decode cX5_shut 7 = .ok (.iload_n 1, 1) := od_27 (od_at tB_cX5_shut_0 7 rfl)
theorem dX5_shut_8 : decode cX5_shut 8 = .ok (.aload_n 0, 1) := od_42 (od_at tB_cX5_shut_0 8 rfl)
theorem dX5_shut_9 : decode cX5_shut 9 = .ok (.getfield 80, 3) := od_180 (od_at tB_cX5_shut_0 9 rfl) (od_at tB_cX5_shut_0 10 rfl) (od_at tB_cX5_shut_0 11 rfl) rfl
theorem dX5_shut_12 : decode cX5_shut 12 = .ok (.if_icmp .ge 6, 3) := od_162 (od_at tB_cX5_shut_0 12 rfl) (od_at tB_cX5_shut_0 13 rfl) (od_at tB_cX5_shut_0 14 rfl) (by decide +kernel)
theorem dX5_shut_15 : decode cX5_shut 15 = .ok (.bipush (-2), 2) := od_16 (od_at tB_cX5_shut_0 15 rfl) (od_at tB_cX5_shut_0 16 rfl) (by decide +kernel)
theorem dX5_shut_17 : decode cX5_shut 17 = .ok (.ireturn, 1) := od_172 (od_at tB_cX5_shut_1 1 rfl)
theorem dX5_shut_18 : decode cX5_shut 18 = .ok (.aload_n 0, 1) := od_42 (od_at tB_cX5_shut_1 2 rfl)
theorem dX5_shut_19 : decode cX5_shut 19 = .ok (.getfield 80, 3) := od_180 (od_at tB_cX5_shut_1 3 rfl) (od_at tB_cX5_shut_1 4 rfl) (od_at tB_cX5_shut_1 5 rfl) rfl
theorem dX5_shut_22 : decode cX5_shut 22 = .ok (.istore_n 2, 1) := od_61 (od_at tB_cX5_shut_1 6 rfl)
theorem dX5_shut_23 : decode cX5_shut 23 = .ok (.aload_n 0, 1) := od_42 (od_at tB_cX5_shut_1 7 rfl)
theorem dX5_shut_24 : decode cX5_shut 24 = .ok (.iload_n 1, 1) := od_27 (od_at tB_cX5_shut_1 8 rfl)
theorem dX5_shut_25 : decode cX5_shut 25 = .ok (.putfield 80, 3) := od_181 (od_at tB_cX5_shut_1 9 rfl) (od_at tB_cX5_shut_1 10 rfl) (od_at tB_cX5_shut_1 11 rfl) rfl
theorem dX5_shut_28 : decode cX5_shut 28 = .ok (.iload_n 2, 1) := od_28 (od_at tB_cX5_shut_1 12 rfl)
theorem dX5_shut_29 : decode cX5_shut 29 = .ok (.ireturn, 1) := od_172 (od_at tB_cX5_shut_1 13 rfl)
def RB_cX5_noLine_1 : List UInt8 := 0x03 :: 0xac :: []
def RB_cX5_noLine_0 : List UInt8 := 0x1a :: 0x85 :: 0x09 :: 0x14 :: 0x00 :: 0xa4 :: 0xb8 :: 0x00 :: 0x65 :: 0x9a :: 0x00 :: 0x07 :: 0x04 :: 0xa7 :: 0x00 :: 0x04 :: RB_cX5_noLine_1
theorem tB_cX5_noLine_0 : cX5_noLine.data.toList.drop 0 = RB_cX5_noLine_0 := by decide +kernel
theorem tB_cX5_noLine_1 : cX5_noLine.data.toList.drop 16 = RB_cX5_noLine_1 := od_st tB_cX5_noLine_0 16 rfl
theorem dX5_noLine_0 : decode cX5_noLine 0 = .ok (.iload_n 0, 1) := od_26 (od_at tB_cX5_noLine_0 0 rfl)
theorem dX5_noLine_1 : decode cX5_noLine 1 = .ok (.i2l, 1) := od_133 (od_at tB_cX5_noLine_0 1 rfl)
theorem dX5_noLine_2 : decode cX5_noLine 2 = .ok (.lconst 0, 1) := od_9 (od_at tB_cX5_noLine_0 2 rfl)
theorem dX5_noLine_3 : decode cX5_noLine 3 = .ok (.ldc2_w 164, 3) := od_20 (od_at tB_cX5_noLine_0 3 rfl) (od_at tB_cX5_noLine_0 4 rfl) (od_at tB_cX5_noLine_0 5 rfl) rfl
theorem dX5_noLine_6 : decode cX5_noLine 6 = .ok (.invokestatic 101, 3) := od_184 (od_at tB_cX5_noLine_0 6 rfl) (od_at tB_cX5_noLine_0 7 rfl) (od_at tB_cX5_noLine_0 8 rfl) rfl
theorem dX5_noLine_9 : decode cX5_noLine 9 = .ok (.ifCond .ne 7, 3) := od_154 (od_at tB_cX5_noLine_0 9 rfl) (od_at tB_cX5_noLine_0 10 rfl) (od_at tB_cX5_noLine_0 11 rfl) (by decide +kernel)
theorem dX5_noLine_12 : decode cX5_noLine 12 = .ok (.iconst 1, 1) := od_4 (od_at tB_cX5_noLine_0 12 rfl)
theorem dX5_noLine_13 : decode cX5_noLine 13 = .ok (.goto 4, 3) := od_167 (od_at tB_cX5_noLine_0 13 rfl) (od_at tB_cX5_noLine_0 14 rfl) (od_at tB_cX5_noLine_0 15 rfl) (by decide +kernel)
theorem dX5_noLine_16 : decode cX5_noLine 16 = .ok (.iconst 0, 1) := od_3 (od_at tB_cX5_noLine_1 0 rfl)
theorem dX5_noLine_17 : decode cX5_noLine 17 = .ok (.ireturn, 1) := od_172 (od_at tB_cX5_noLine_1 1 rfl)
def RB_cX5_line_4 : List UInt8 := 0x1d :: 0x4f :: 0x15 :: 0x04 :: 0x99 :: 0x00 :: 0x07 :: 0x04 :: 0xa7 :: 0x00 :: 0x04 :: 0x03 :: 0xac :: []
def RB_cX5_line_3 : List UInt8 := 0xa7 :: 0x00 :: 0x04 :: 0x03 :: 0x36 :: 0x04 :: 0x2a :: 0xb4 :: 0x00 :: 0x41 :: 0x10 :: 0x06 :: 0x1b :: 0x68 :: 0x1c :: 0x60 :: RB_cX5_line_4
def RB_cX5_line_2 : List UInt8 := 0x2a :: 0xb4 :: 0x00 :: 0x41 :: 0x10 :: 0x06 :: 0x1b :: 0x68 :: 0x1c :: 0x60 :: 0x2e :: 0x1d :: 0x9f :: 0x00 :: 0x07 :: 0x04 :: RB_cX5_line_3
def RB_cX5_line_1 : List UInt8 := 0xac :: 0x1d :: 0x85 :: 0x14 :: 0x00 :: 0xd4 :: 0x0a :: 0xb8 :: 0x00 :: 0x65 :: 0x9a :: 0x00 :: 0x06 :: 0x10 :: 0xfe :: 0xac :: RB_cX5_line_2
def RB_cX5_line_0 : List UInt8 := 0x1b :: 0xb8 :: 0x00 :: 0xd1 :: 0x9a :: 0x00 :: 0x0b :: 0x2a :: 0x1c :: 0xb6 :: 0x00 :: 0x73 :: 0x99 :: 0x00 :: 0x05 :: 0x02 :: RB_cX5_line_1
theorem tB_cX5_line_0 : cX5_line.data.toList.drop 0 = RB_cX5_line_0 := by decide +kernel
theorem tB_cX5_line_1 : cX5_line.data.toList.drop 16 = RB_cX5_line_1 := od_st tB_cX5_line_0 16 rfl
theorem tB_cX5_line_2 : cX5_line.data.toList.drop 32 = RB_cX5_line_2 := od_st tB_cX5_line_1 16 rfl
theorem tB_cX5_line_3 : cX5_line.data.toList.drop 48 = RB_cX5_line_3 := od_st tB_cX5_line_2 16 rfl
theorem tB_cX5_line_4 : cX5_line.data.toList.drop 64 = RB_cX5_line_4 := od_st tB_cX5_line_3 16 rfl
theorem dX5_line_0 : decode cX5_line 0 = .ok (.iload_n 1, 1) := od_27 (od_at tB_cX5_line_0 0 rfl)
theorem dX5_line_1 : decode cX5_line 1 = .ok (.invokestatic 209, 3) := od_184 (od_at tB_cX5_line_0 1 rfl) (od_at tB_cX5_line_0 2 rfl) (od_at tB_cX5_line_0 3 rfl) rfl
theorem dX5_line_4 : decode cX5_line 4 = .ok (.ifCond .ne 11, 3) := od_154 (od_at tB_cX5_line_0 4 rfl) (od_at tB_cX5_line_0 5 rfl) (od_at tB_cX5_line_0 6 rfl) (by decide +kernel)
theorem dX5_line_7 : decode cX5_line 7 = .ok (.aload_n 0, 1) := od_42 (od_at tB_cX5_line_0 7 rfl)
theorem dX5_line_8 : decode cX5_line 8 = .ok (.iload_n 2, 1) := od_28 (od_at tB_cX5_line_0 8 rfl)
theorem dX5_line_9 : decode cX5_line 9 = .ok (.invokevirtual 115, 3) := od_182 (od_at tB_cX5_line_0 9 rfl) (od_at tB_cX5_line_0 10 rfl) (od_at tB_cX5_line_0 11 rfl) rfl
theorem dX5_line_12 : decode cX5_line 12 = .ok (.ifCond .eq 5, 3) := od_153 (od_at tB_cX5_line_0 12 rfl) (od_at tB_cX5_line_0 13 rfl) (od_at tB_cX5_line_0 14 rfl) (by decide +kernel)
theorem dX5_line_15 : decode cX5_line 15 = .ok (.iconst (-1), 1) := od_2 (od_at tB_cX5_line_0 15 rfl)
theorem dX5_line_16 : decode cX5_line 16 = .ok (.ireturn, 1) := od_172 (od_at tB_cX5_line_1 0 rfl)
theorem dX5_line_17 : decode cX5_line 17 = .ok (.iload_n 3, 1) := od_29 (od_at tB_cX5_line_1 1 rfl)
theorem dX5_line_18 : decode cX5_line 18 = .ok (.i2l, 1) := od_133 (od_at tB_cX5_line_1 2 rfl)
theorem dX5_line_19 : decode cX5_line 19 = .ok (.ldc2_w 212, 3) := od_20 (od_at tB_cX5_line_1 3 rfl) (od_at tB_cX5_line_1 4 rfl) (od_at tB_cX5_line_1 5 rfl) rfl
theorem dX5_line_22 : decode cX5_line 22 = .ok (.lconst 1, 1) := od_10 (od_at tB_cX5_line_1 6 rfl)
theorem dX5_line_23 : decode cX5_line 23 = .ok (.invokestatic 101, 3) := od_184 (od_at tB_cX5_line_1 7 rfl) (od_at tB_cX5_line_1 8 rfl) (od_at tB_cX5_line_1 9 rfl) rfl
theorem dX5_line_26 : decode cX5_line 26 = .ok (.ifCond .ne 6, 3) := od_154 (od_at tB_cX5_line_1 10 rfl) (od_at tB_cX5_line_1 11 rfl) (od_at tB_cX5_line_1 12 rfl) (by decide +kernel)
theorem dX5_line_29 : decode cX5_line 29 = .ok (.bipush (-2), 2) := od_16 (od_at tB_cX5_line_1 13 rfl) (od_at tB_cX5_line_1 14 rfl) (by decide +kernel)
theorem dX5_line_31 : decode cX5_line 31 = .ok (.ireturn, 1) := od_172 (od_at tB_cX5_line_1 15 rfl)
theorem dX5_line_32 : decode cX5_line 32 = .ok (.aload_n 0, 1) := od_42 (od_at tB_cX5_line_2 0 rfl)
theorem dX5_line_33 : decode cX5_line 33 = .ok (.getfield 65, 3) := od_180 (od_at tB_cX5_line_2 1 rfl) (od_at tB_cX5_line_2 2 rfl) (od_at tB_cX5_line_2 3 rfl) rfl
theorem dX5_line_36 : decode cX5_line 36 = .ok (.bipush 6, 2) := od_16 (od_at tB_cX5_line_2 4 rfl) (od_at tB_cX5_line_2 5 rfl) (by decide +kernel)
theorem dX5_line_38 : decode cX5_line 38 = .ok (.iload_n 1, 1) := od_27 (od_at tB_cX5_line_2 6 rfl)
theorem dX5_line_39 : decode cX5_line 39 = .ok (.imul, 1) := od_104 (od_at tB_cX5_line_2 7 rfl)
theorem dX5_line_40 : decode cX5_line 40 = .ok (.iload_n 2, 1) := od_28 (od_at tB_cX5_line_2 8 rfl)
theorem dX5_line_41 : decode cX5_line 41 = .ok (.iadd, 1) := od_96 (od_at tB_cX5_line_2 9 rfl)
theorem dX5_line_42 : decode cX5_line 42 = .ok (.iaload, 1) := od_46 (od_at tB_cX5_line_2 10 rfl)
theorem dX5_line_43 : decode cX5_line 43 = .ok (.iload_n 3, 1) := od_29 (od_at tB_cX5_line_2 11 rfl)
theorem dX5_line_44 : decode cX5_line 44 = .ok (.if_icmp .eq 7, 3) := od_159 (od_at tB_cX5_line_2 12 rfl) (od_at tB_cX5_line_2 13 rfl) (od_at tB_cX5_line_2 14 rfl) (by decide +kernel)
theorem dX5_line_47 : decode cX5_line 47 = .ok (.iconst 1, 1) := od_4 (od_at tB_cX5_line_2 15 rfl)
theorem dX5_line_48 : decode cX5_line 48 = .ok (.goto 4, 3) := od_167 (od_at tB_cX5_line_3 0 rfl) (od_at tB_cX5_line_3 1 rfl) (od_at tB_cX5_line_3 2 rfl) (by decide +kernel)
theorem dX5_line_51 : decode cX5_line 51 = .ok (.iconst 0, 1) := od_3 (od_at tB_cX5_line_3 3 rfl)
theorem dX5_line_52 : decode cX5_line 52 = .ok (.istore 4, 2) := od_54 (od_at tB_cX5_line_3 4 rfl) (od_at tB_cX5_line_3 5 rfl) rfl
theorem dX5_line_54 : decode cX5_line 54 = .ok (.aload_n 0, 1) := od_42 (od_at tB_cX5_line_3 6 rfl)
theorem dX5_line_55 : decode cX5_line 55 = .ok (.getfield 65, 3) := od_180 (od_at tB_cX5_line_3 7 rfl) (od_at tB_cX5_line_3 8 rfl) (od_at tB_cX5_line_3 9 rfl) rfl
theorem dX5_line_58 : decode cX5_line 58 = .ok (.bipush 6, 2) := od_16 (od_at tB_cX5_line_3 10 rfl) (od_at tB_cX5_line_3 11 rfl) (by decide +kernel)
theorem dX5_line_60 : decode cX5_line 60 = .ok (.iload_n 1, 1) := od_27 (od_at tB_cX5_line_3 12 rfl)
theorem dX5_line_61 : decode cX5_line 61 = .ok (.imul, 1) := od_104 (od_at tB_cX5_line_3 13 rfl)
theorem dX5_line_62 : decode cX5_line 62 = .ok (.iload_n 2, 1) := od_28 (od_at tB_cX5_line_3 14 rfl)
theorem dX5_line_63 : decode cX5_line 63 = .ok (.iadd, 1) := od_96 (od_at tB_cX5_line_3 15 rfl)
theorem dX5_line_64 : decode cX5_line 64 = .ok (.iload_n 3, 1) := od_29 (od_at tB_cX5_line_4 0 rfl)
theorem dX5_line_65 : decode cX5_line 65 = .ok (.iastore, 1) := od_79 (od_at tB_cX5_line_4 1 rfl)
theorem dX5_line_66 : decode cX5_line 66 = .ok (.iload 4, 2) := od_21 (od_at tB_cX5_line_4 2 rfl) (od_at tB_cX5_line_4 3 rfl) rfl
theorem dX5_line_68 : decode cX5_line 68 = .ok (.ifCond .eq 7, 3) := od_153 (od_at tB_cX5_line_4 4 rfl) (od_at tB_cX5_line_4 5 rfl) (od_at tB_cX5_line_4 6 rfl) (by decide +kernel)
theorem dX5_line_71 : decode cX5_line 71 = .ok (.iconst 1, 1) := od_4 (od_at tB_cX5_line_4 7 rfl)
theorem dX5_line_72 : decode cX5_line 72 = .ok (.goto 4, 3) := od_167 (od_at tB_cX5_line_4 8 rfl) (od_at tB_cX5_line_4 9 rfl) (od_at tB_cX5_line_4 10 rfl) (by decide +kernel)
theorem dX5_line_75 : decode cX5_line 75 = .ok (.iconst 0, 1) := od_3 (od_at tB_cX5_line_4 11 rfl)
theorem dX5_line_76 : decode cX5_line 76 = .ok (.ireturn, 1) := od_172 (od_at tB_cX5_line_4 12 rfl)
def RB_cX5_lined_2 : List UInt8 := 0x60 :: 0xac :: []
def RB_cX5_lined_1 : List UInt8 := 0xa7 :: 0x00 :: 0x11 :: 0x10 :: 0x0a :: 0x2a :: 0xb4 :: 0x00 :: 0x41 :: 0x10 :: 0x06 :: 0x1b :: 0x68 :: 0x1c :: 0x60 :: 0x2e :: RB_cX5_lined_2
def RB_cX5_lined_0 : List UInt8 := 0x1b :: 0xb8 :: 0x00 :: 0xd1 :: 0x9a :: 0x00 :: 0x0b :: 0x2a :: 0x1c :: 0xb6 :: 0x00 :: 0x73 :: 0x99 :: 0x00 :: 0x07 :: 0x02 :: RB_cX5_lined_1
theorem tB_cX5_lined_0 : cX5_lined.data.toList.drop 0 = RB_cX5_lined_0 := by decide +kernel
theorem tB_cX5_lined_1 : cX5_lined.data.toList.drop 16 = RB_cX5_lined_1 := od_st tB_cX5_lined_0 16 rfl
theorem tB_cX5_lined_2 : cX5_lined.data.toList.drop 32 = RB_cX5_lined_2 := od_st tB_cX5_lined_1 16 rfl
theorem dX5_lined_0 : decode cX5_lined 0 = .ok (.iload_n 1, 1) := od_27 (od_at tB_cX5_lined_0 0 rfl)
theorem dX5_lined_1 : decode cX5_lined 1 = .ok (.invokestatic 209, 3) := od_184 (od_at tB_cX5_lined_0 1 rfl) (od_at tB_cX5_lined_0 2 rfl) (od_at tB_cX5_lined_0 3 rfl) rfl
theorem dX5_lined_4 : decode cX5_lined 4 = .ok (.ifCond .ne 11, 3) := od_154 (od_at tB_cX5_lined_0 4 rfl) (od_at tB_cX5_lined_0 5 rfl) (od_at tB_cX5_lined_0 6 rfl) (by decide +kernel)
theorem dX5_lined_7 : decode cX5_lined 7 = .ok (.aload_n 0, 1) := od_42 (od_at tB_cX5_lined_0 7 rfl)
theorem dX5_lined_8 : decode cX5_lined 8 = .ok (.iload_n 2, 1) := od_28 (od_at tB_cX5_lined_0 8 rfl)
theorem dX5_lined_9 : decode cX5_lined 9 = .ok (.invokevirtual 115, 3) := od_182 (od_at tB_cX5_lined_0 9 rfl) (od_at tB_cX5_lined_0 10 rfl) (od_at tB_cX5_lined_0 11 rfl) rfl
theorem dX5_lined_12 : decode cX5_lined 12 = .ok (.ifCond .eq 7, 3) := od_153 (od_at tB_cX5_lined_0 12 rfl) (od_at tB_cX5_lined_0 13 rfl) (od_at tB_cX5_lined_0 14 rfl) (by decide +kernel)
theorem dX5_lined_15 : decode cX5_lined 15 = .ok (.iconst (-1), 1) := od_2 (od_at tB_cX5_lined_0 15 rfl)
theorem dX5_lined_16 : decode cX5_lined 16 = .ok (.goto 17, 3) := od_167 (od_at tB_cX5_lined_1 0 rfl) (od_at tB_cX5_lined_1 1 rfl) (od_at tB_cX5_lined_1 2 rfl) (by decide +kernel)
theorem dX5_lined_19 : decode cX5_lined 19 = .ok (.bipush 10, 2) := od_16 (od_at tB_cX5_lined_1 3 rfl) (od_at tB_cX5_lined_1 4 rfl) (by decide +kernel)
theorem dX5_lined_21 : decode cX5_lined 21 = .ok (.aload_n 0, 1) := od_42 (od_at tB_cX5_lined_1 5 rfl)
theorem dX5_lined_22 : decode cX5_lined 22 = .ok (.getfield 65, 3) := od_180 (od_at tB_cX5_lined_1 6 rfl) (od_at tB_cX5_lined_1 7 rfl) (od_at tB_cX5_lined_1 8 rfl) rfl
theorem dX5_lined_25 : decode cX5_lined 25 = .ok (.bipush 6, 2) := od_16 (od_at tB_cX5_lined_1 9 rfl) (od_at tB_cX5_lined_1 10 rfl) (by decide +kernel)
theorem dX5_lined_27 : decode cX5_lined 27 = .ok (.iload_n 1, 1) := od_27 (od_at tB_cX5_lined_1 11 rfl)
theorem dX5_lined_28 : decode cX5_lined 28 = .ok (.imul, 1) := od_104 (od_at tB_cX5_lined_1 12 rfl)
theorem dX5_lined_29 : decode cX5_lined 29 = .ok (.iload_n 2, 1) := od_28 (od_at tB_cX5_lined_1 13 rfl)
theorem dX5_lined_30 : decode cX5_lined 30 = .ok (.iadd, 1) := od_96 (od_at tB_cX5_lined_1 14 rfl)
theorem dX5_lined_31 : decode cX5_lined 31 = .ok (.iaload, 1) := od_46 (od_at tB_cX5_lined_1 15 rfl)
theorem dX5_lined_32 : decode cX5_lined 32 = .ok (.iadd, 1) := od_96 (od_at tB_cX5_lined_2 0 rfl)
theorem dX5_lined_33 : decode cX5_lined 33 = .ok (.ireturn, 1) := od_172 (od_at tB_cX5_lined_2 1 rfl)
def RB_cX5_end_2 : List UInt8 := 0x2a :: 0xb4 :: 0x00 :: 0x19 :: 0x1b :: 0x1c :: 0x4f :: 0x1d :: 0xac :: []
def RB_cX5_end_1 : List UInt8 := 0xb8 :: 0x00 :: 0x65 :: 0x9a :: 0x00 :: 0x06 :: 0x10 :: 0xfe :: 0xac :: 0x2a :: 0xb4 :: 0x00 :: 0x19 :: 0x1b :: 0x2e :: 0x3e :: RB_cX5_end_2
def RB_cX5_end_0 : List UInt8 := 0x2a :: 0x1b :: 0xb6 :: 0x00 :: 0x73 :: 0x99 :: 0x00 :: 0x05 :: 0x02 :: 0xac :: 0x1c :: 0x85 :: 0x09 :: 0x14 :: 0x00 :: 0xd6 :: RB_cX5_end_1
theorem tB_cX5_end_0 : cX5_end.data.toList.drop 0 = RB_cX5_end_0 := by decide +kernel
theorem tB_cX5_end_1 : cX5_end.data.toList.drop 16 = RB_cX5_end_1 := od_st tB_cX5_end_0 16 rfl
theorem tB_cX5_end_2 : cX5_end.data.toList.drop 32 = RB_cX5_end_2 := od_st tB_cX5_end_1 16 rfl
theorem dX5_end_0 : decode cX5_end 0 = .ok (.aload_n 0, 1) := od_42 (od_at tB_cX5_end_0 0 rfl)
theorem dX5_end_1 : decode cX5_end 1 = .ok (.iload_n 1, 1) := od_27 (od_at tB_cX5_end_0 1 rfl)
theorem dX5_end_2 : decode cX5_end 2 = .ok (.invokevirtual 115, 3) := od_182 (od_at tB_cX5_end_0 2 rfl) (od_at tB_cX5_end_0 3 rfl) (od_at tB_cX5_end_0 4 rfl) rfl
theorem dX5_end_5 : decode cX5_end 5 = .ok (.ifCond .eq 5, 3) := od_153 (od_at tB_cX5_end_0 5 rfl) (od_at tB_cX5_end_0 6 rfl) (od_at tB_cX5_end_0 7 rfl) (by decide +kernel)
theorem dX5_end_8 : decode cX5_end 8 = .ok (.iconst (-1), 1) := od_2 (od_at tB_cX5_end_0 8 rfl)
theorem dX5_end_9 : decode cX5_end 9 = .ok (.ireturn, 1) := od_172 (od_at tB_cX5_end_0 9 rfl)
theorem dX5_end_10 : decode cX5_end 10 = .ok (.iload_n 2, 1) := od_28 (od_at tB_cX5_end_0 10 rfl)
theorem dX5_end_11 : decode cX5_end 11 = .ok (.i2l, 1) := od_133 (od_at tB_cX5_end_0 11 rfl)
theorem dX5_end_12 : decode cX5_end 12 = .ok (.lconst 0, 1) := od_9 (od_at tB_cX5_end_0 12 rfl)
theorem dX5_end_13 : decode cX5_end 13 = .ok (.ldc2_w 214, 3) := od_20 (od_at tB_cX5_end_0 13 rfl) (od_at tB_cX5_end_0 14 rfl) (od_at tB_cX5_end_0 15 rfl) rfl
theorem dX5_end_16 : decode cX5_end 16 = .ok (.invokestatic 101, 3) := od_184 (od_at tB_cX5_end_1 0 rfl) (od_at tB_cX5_end_1 1 rfl) (od_at tB_cX5_end_1 2 rfl) rfl
theorem dX5_end_19 : decode cX5_end 19 = .ok (.ifCond .ne 6, 3) := od_154 (od_at tB_cX5_end_1 3 rfl) (od_at tB_cX5_end_1 4 rfl) (od_at tB_cX5_end_1 5 rfl) (by decide +kernel)
theorem dX5_end_22 : decode cX5_end 22 = .ok (.bipush (-2), 2) := od_16 (od_at tB_cX5_end_1 6 rfl) (od_at tB_cX5_end_1 7 rfl) (by decide +kernel)
theorem dX5_end_24 : decode cX5_end 24 = .ok (.ireturn, 1) := od_172 (od_at tB_cX5_end_1 8 rfl)
theorem dX5_end_25 : decode cX5_end 25 = .ok (.aload_n 0, 1) := od_42 (od_at tB_cX5_end_1 9 rfl)
theorem dX5_end_26 : decode cX5_end 26 = .ok (.getfield 25, 3) := od_180 (od_at tB_cX5_end_1 10 rfl) (od_at tB_cX5_end_1 11 rfl) (od_at tB_cX5_end_1 12 rfl) rfl
theorem dX5_end_29 : decode cX5_end 29 = .ok (.iload_n 1, 1) := od_27 (od_at tB_cX5_end_1 13 rfl)
theorem dX5_end_30 : decode cX5_end 30 = .ok (.iaload, 1) := od_46 (od_at tB_cX5_end_1 14 rfl)
theorem dX5_end_31 : decode cX5_end 31 = .ok (.istore_n 3, 1) := od_62 (od_at tB_cX5_end_1 15 rfl)
theorem dX5_end_32 : decode cX5_end 32 = .ok (.aload_n 0, 1) := od_42 (od_at tB_cX5_end_2 0 rfl)
theorem dX5_end_33 : decode cX5_end 33 = .ok (.getfield 25, 3) := od_180 (od_at tB_cX5_end_2 1 rfl) (od_at tB_cX5_end_2 2 rfl) (od_at tB_cX5_end_2 3 rfl) rfl
theorem dX5_end_36 : decode cX5_end 36 = .ok (.iload_n 1, 1) := od_27 (od_at tB_cX5_end_2 4 rfl)
theorem dX5_end_37 : decode cX5_end 37 = .ok (.iload_n 2, 1) := od_28 (od_at tB_cX5_end_2 5 rfl)
theorem dX5_end_38 : decode cX5_end 38 = .ok (.iastore, 1) := od_79 (od_at tB_cX5_end_2 6 rfl)
theorem dX5_end_39 : decode cX5_end 39 = .ok (.iload_n 3, 1) := od_29 (od_at tB_cX5_end_2 7 rfl)
theorem dX5_end_40 : decode cX5_end 40 = .ok (.ireturn, 1) := od_172 (od_at tB_cX5_end_2 8 rfl)
def RB_cX5_imbalance_3 : List UInt8 := 0x16 :: 0x04 :: 0xad :: []
def RB_cX5_imbalance_2 : List UInt8 := 0x06 :: 0x1c :: 0x1d :: 0xb6 :: 0x00 :: 0xcd :: 0x69 :: 0x61 :: 0x37 :: 0x04 :: 0x84 :: 0x06 :: 0x01 :: 0xa7 :: 0xff :: 0xd9 :: RB_cX5_imbalance_3
def RB_cX5_imbalance_1 : List UInt8 := 0x04 :: 0x2a :: 0xb4 :: 0x00 :: 0x41 :: 0x10 :: 0x06 :: 0x1b :: 0x68 :: 0x15 :: 0x06 :: 0x60 :: 0x2e :: 0x85 :: 0x2a :: 0x15 :: RB_cX5_imbalance_2
def RB_cX5_imbalance_0 : List UInt8 := 0x09 :: 0x37 :: 0x04 :: 0x03 :: 0x36 :: 0x06 :: 0x15 :: 0x06 :: 0x2a :: 0xb4 :: 0x00 :: 0x62 :: 0xa2 :: 0x00 :: 0x24 :: 0x16 :: RB_cX5_imbalance_1
theorem tB_cX5_imbalance_0 : cX5_imbalance.data.toList.drop 0 = RB_cX5_imbalance_0 := by decide +kernel
theorem tB_cX5_imbalance_1 : cX5_imbalance.data.toList.drop 16 = RB_cX5_imbalance_1 := od_st tB_cX5_imbalance_0 16 rfl
theorem tB_cX5_imbalance_2 : cX5_imbalance.data.toList.drop 32 = RB_cX5_imbalance_2 := od_st tB_cX5_imbalance_1 16 rfl
theorem tB_cX5_imbalance_3 : cX5_imbalance.data.toList.drop 48 = RB_cX5_imbalance_3 := od_st tB_cX5_imbalance_2 16 rfl
theorem dX5_imbalance_0 : decode cX5_imbalance 0 = .ok (.lconst 0, 1) := od_9 (od_at tB_cX5_imbalance_0 0 rfl)
theorem dX5_imbalance_1 : decode cX5_imbalance 1 = .ok (.lstore 4, 2) := od_55 (od_at tB_cX5_imbalance_0 1 rfl) (od_at tB_cX5_imbalance_0 2 rfl) rfl
theorem dX5_imbalance_3 : decode cX5_imbalance 3 = .ok (.iconst 0, 1) := od_3 (od_at tB_cX5_imbalance_0 3 rfl)
theorem dX5_imbalance_4 : decode cX5_imbalance 4 = .ok (.istore 6, 2) := od_54 (od_at tB_cX5_imbalance_0 4 rfl) (od_at tB_cX5_imbalance_0 5 rfl) rfl
theorem dX5_imbalance_6 : decode cX5_imbalance 6 = .ok (.iload 6, 2) := od_21 (od_at tB_cX5_imbalance_0 6 rfl) (od_at tB_cX5_imbalance_0 7 rfl) rfl
theorem dX5_imbalance_8 : decode cX5_imbalance 8 = .ok (.aload_n 0, 1) := od_42 (od_at tB_cX5_imbalance_0 8 rfl)
theorem dX5_imbalance_9 : decode cX5_imbalance 9 = .ok (.getfield 98, 3) := od_180 (od_at tB_cX5_imbalance_0 9 rfl) (od_at tB_cX5_imbalance_0 10 rfl) (od_at tB_cX5_imbalance_0 11 rfl) rfl
theorem dX5_imbalance_12 : decode cX5_imbalance 12 = .ok (.if_icmp .ge 36, 3) := od_162 (od_at tB_cX5_imbalance_0 12 rfl) (od_at tB_cX5_imbalance_0 13 rfl) (od_at tB_cX5_imbalance_0 14 rfl) (by decide +kernel)
theorem dX5_imbalance_15 : decode cX5_imbalance 15 = .ok (.lload 4, 2) := od_22 (od_at tB_cX5_imbalance_0 15 rfl) (od_at tB_cX5_imbalance_0 16 rfl) rfl
theorem dX5_imbalance_17 : decode cX5_imbalance 17 = .ok (.aload_n 0, 1) := od_42 (od_at tB_cX5_imbalance_1 1 rfl)
theorem dX5_imbalance_18 : decode cX5_imbalance 18 = .ok (.getfield 65, 3) := od_180 (od_at tB_cX5_imbalance_1 2 rfl) (od_at tB_cX5_imbalance_1 3 rfl) (od_at tB_cX5_imbalance_1 4 rfl) rfl
theorem dX5_imbalance_21 : decode cX5_imbalance 21 = .ok (.bipush 6, 2) := od_16 (od_at tB_cX5_imbalance_1 5 rfl) (od_at tB_cX5_imbalance_1 6 rfl) (by decide +kernel)
theorem dX5_imbalance_23 : decode cX5_imbalance 23 = .ok (.iload_n 1, 1) := od_27 (od_at tB_cX5_imbalance_1 7 rfl)
theorem dX5_imbalance_24 : decode cX5_imbalance 24 = .ok (.imul, 1) := od_104 (od_at tB_cX5_imbalance_1 8 rfl)
theorem dX5_imbalance_25 : decode cX5_imbalance 25 = .ok (.iload 6, 2) := od_21 (od_at tB_cX5_imbalance_1 9 rfl) (od_at tB_cX5_imbalance_1 10 rfl) rfl
theorem dX5_imbalance_27 : decode cX5_imbalance 27 = .ok (.iadd, 1) := od_96 (od_at tB_cX5_imbalance_1 11 rfl)
theorem dX5_imbalance_28 : decode cX5_imbalance 28 = .ok (.iaload, 1) := od_46 (od_at tB_cX5_imbalance_1 12 rfl)
theorem dX5_imbalance_29 : decode cX5_imbalance 29 = .ok (.i2l, 1) := od_133 (od_at tB_cX5_imbalance_1 13 rfl)
theorem dX5_imbalance_30 : decode cX5_imbalance 30 = .ok (.aload_n 0, 1) := od_42 (od_at tB_cX5_imbalance_1 14 rfl)
theorem dX5_imbalance_31 : decode cX5_imbalance 31 = .ok (.iload 6, 2) := od_21 (od_at tB_cX5_imbalance_1 15 rfl) (od_at tB_cX5_imbalance_1 16 rfl) rfl
theorem dX5_imbalance_33 : decode cX5_imbalance 33 = .ok (.iload_n 2, 1) := od_28 (od_at tB_cX5_imbalance_2 1 rfl)
theorem dX5_imbalance_34 : decode cX5_imbalance 34 = .ok (.iload_n 3, 1) := od_29 (od_at tB_cX5_imbalance_2 2 rfl)
theorem dX5_imbalance_35 : decode cX5_imbalance 35 = .ok (.invokevirtual 205, 3) := od_182 (od_at tB_cX5_imbalance_2 3 rfl) (od_at tB_cX5_imbalance_2 4 rfl) (od_at tB_cX5_imbalance_2 5 rfl) rfl
theorem dX5_imbalance_38 : decode cX5_imbalance 38 = .ok (.lmul, 1) := od_105 (od_at tB_cX5_imbalance_2 6 rfl)
theorem dX5_imbalance_39 : decode cX5_imbalance 39 = .ok (.ladd, 1) := od_97 (od_at tB_cX5_imbalance_2 7 rfl)
theorem dX5_imbalance_40 : decode cX5_imbalance 40 = .ok (.lstore 4, 2) := od_55 (od_at tB_cX5_imbalance_2 8 rfl) (od_at tB_cX5_imbalance_2 9 rfl) rfl
theorem dX5_imbalance_42 : decode cX5_imbalance 42 = .ok (.iinc 6 1, 3) := od_132 (od_at tB_cX5_imbalance_2 10 rfl) (od_at tB_cX5_imbalance_2 11 rfl) (od_at tB_cX5_imbalance_2 12 rfl) rfl (by decide +kernel)
theorem dX5_imbalance_45 : decode cX5_imbalance 45 = .ok (.goto (-39), 3) := od_167 (od_at tB_cX5_imbalance_2 13 rfl) (od_at tB_cX5_imbalance_2 14 rfl) (od_at tB_cX5_imbalance_2 15 rfl) (by decide +kernel)
theorem dX5_imbalance_48 : decode cX5_imbalance 48 = .ok (.lload 4, 2) := od_22 (od_at tB_cX5_imbalance_3 0 rfl) (od_at tB_cX5_imbalance_3 1 rfl) rfl
theorem dX5_imbalance_50 : decode cX5_imbalance 50 = .ok (.lreturn, 1) := od_173 (od_at tB_cX5_imbalance_3 2 rfl)
def RB_cX5_endsOf_4 : List UInt8 := 0xff :: 0xc7 :: 0x16 :: 0x04 :: 0xad :: []
def RB_cX5_endsOf_3 : List UInt8 := 0x15 :: 0x06 :: 0x2e :: 0x85 :: 0x69 :: 0x14 :: 0x00 :: 0x71 :: 0x6d :: 0x61 :: 0x37 :: 0x04 :: 0x84 :: 0x06 :: 0x01 :: 0xa7 :: RB_cX5_endsOf_4
def RB_cX5_endsOf_2 : List UInt8 := 0x09 :: 0xa7 :: 0x00 :: 0x18 :: 0x2a :: 0x15 :: 0x06 :: 0x1c :: 0x1d :: 0xb6 :: 0x00 :: 0xcd :: 0x2a :: 0xb4 :: 0x00 :: 0x19 :: RB_cX5_endsOf_3
def RB_cX5_endsOf_1 : List UInt8 := 0x04 :: 0x2a :: 0xb4 :: 0x00 :: 0x41 :: 0x10 :: 0x06 :: 0x1b :: 0x68 :: 0x15 :: 0x06 :: 0x60 :: 0x2e :: 0x9a :: 0x00 :: 0x07 :: RB_cX5_endsOf_2
def RB_cX5_endsOf_0 : List UInt8 := 0x09 :: 0x37 :: 0x04 :: 0x03 :: 0x36 :: 0x06 :: 0x15 :: 0x06 :: 0x2a :: 0xb4 :: 0x00 :: 0x62 :: 0xa2 :: 0x00 :: 0x36 :: 0x16 :: RB_cX5_endsOf_1
theorem tB_cX5_endsOf_0 : cX5_endsOf.data.toList.drop 0 = RB_cX5_endsOf_0 := by decide +kernel
theorem tB_cX5_endsOf_1 : cX5_endsOf.data.toList.drop 16 = RB_cX5_endsOf_1 := od_st tB_cX5_endsOf_0 16 rfl
theorem tB_cX5_endsOf_2 : cX5_endsOf.data.toList.drop 32 = RB_cX5_endsOf_2 := od_st tB_cX5_endsOf_1 16 rfl
theorem tB_cX5_endsOf_3 : cX5_endsOf.data.toList.drop 48 = RB_cX5_endsOf_3 := od_st tB_cX5_endsOf_2 16 rfl
theorem tB_cX5_endsOf_4 : cX5_endsOf.data.toList.drop 64 = RB_cX5_endsOf_4 := od_st tB_cX5_endsOf_3 16 rfl
theorem dX5_endsOf_0 : decode cX5_endsOf 0 = .ok (.lconst 0, 1) := od_9 (od_at tB_cX5_endsOf_0 0 rfl)
theorem dX5_endsOf_1 : decode cX5_endsOf 1 = .ok (.lstore 4, 2) := od_55 (od_at tB_cX5_endsOf_0 1 rfl) (od_at tB_cX5_endsOf_0 2 rfl) rfl
theorem dX5_endsOf_3 : decode cX5_endsOf 3 = .ok (.iconst 0, 1) := od_3 (od_at tB_cX5_endsOf_0 3 rfl)
theorem dX5_endsOf_4 : decode cX5_endsOf 4 = .ok (.istore 6, 2) := od_54 (od_at tB_cX5_endsOf_0 4 rfl) (od_at tB_cX5_endsOf_0 5 rfl) rfl
theorem dX5_endsOf_6 : decode cX5_endsOf 6 = .ok (.iload 6, 2) := od_21 (od_at tB_cX5_endsOf_0 6 rfl) (od_at tB_cX5_endsOf_0 7 rfl) rfl
theorem dX5_endsOf_8 : decode cX5_endsOf 8 = .ok (.aload_n 0, 1) := od_42 (od_at tB_cX5_endsOf_0 8 rfl)
theorem dX5_endsOf_9 : decode cX5_endsOf 9 = .ok (.getfield 98, 3) := od_180 (od_at tB_cX5_endsOf_0 9 rfl) (od_at tB_cX5_endsOf_0 10 rfl) (od_at tB_cX5_endsOf_0 11 rfl) rfl
theorem dX5_endsOf_12 : decode cX5_endsOf 12 = .ok (.if_icmp .ge 54, 3) := od_162 (od_at tB_cX5_endsOf_0 12 rfl) (od_at tB_cX5_endsOf_0 13 rfl) (od_at tB_cX5_endsOf_0 14 rfl) (by decide +kernel)
theorem dX5_endsOf_15 : decode cX5_endsOf 15 = .ok (.lload 4, 2) := od_22 (od_at tB_cX5_endsOf_0 15 rfl) (od_at tB_cX5_endsOf_0 16 rfl) rfl
theorem dX5_endsOf_17 : decode cX5_endsOf 17 = .ok (.aload_n 0, 1) := od_42 (od_at tB_cX5_endsOf_1 1 rfl)
theorem dX5_endsOf_18 : decode cX5_endsOf 18 = .ok (.getfield 65, 3) := od_180 (od_at tB_cX5_endsOf_1 2 rfl) (od_at tB_cX5_endsOf_1 3 rfl) (od_at tB_cX5_endsOf_1 4 rfl) rfl
theorem dX5_endsOf_21 : decode cX5_endsOf 21 = .ok (.bipush 6, 2) := od_16 (od_at tB_cX5_endsOf_1 5 rfl) (od_at tB_cX5_endsOf_1 6 rfl) (by decide +kernel)
theorem dX5_endsOf_23 : decode cX5_endsOf 23 = .ok (.iload_n 1, 1) := od_27 (od_at tB_cX5_endsOf_1 7 rfl)
theorem dX5_endsOf_24 : decode cX5_endsOf 24 = .ok (.imul, 1) := od_104 (od_at tB_cX5_endsOf_1 8 rfl)
theorem dX5_endsOf_25 : decode cX5_endsOf 25 = .ok (.iload 6, 2) := od_21 (od_at tB_cX5_endsOf_1 9 rfl) (od_at tB_cX5_endsOf_1 10 rfl) rfl
theorem dX5_endsOf_27 : decode cX5_endsOf 27 = .ok (.iadd, 1) := od_96 (od_at tB_cX5_endsOf_1 11 rfl)
theorem dX5_endsOf_28 : decode cX5_endsOf 28 = .ok (.iaload, 1) := od_46 (od_at tB_cX5_endsOf_1 12 rfl)
theorem dX5_endsOf_29 : decode cX5_endsOf 29 = .ok (.ifCond .ne 7, 3) := od_154 (od_at tB_cX5_endsOf_1 13 rfl) (od_at tB_cX5_endsOf_1 14 rfl) (od_at tB_cX5_endsOf_1 15 rfl) (by decide +kernel)
theorem dX5_endsOf_32 : decode cX5_endsOf 32 = .ok (.lconst 0, 1) := od_9 (od_at tB_cX5_endsOf_2 0 rfl)
theorem dX5_endsOf_33 : decode cX5_endsOf 33 = .ok (.goto 24, 3) := od_167 (od_at tB_cX5_endsOf_2 1 rfl) (od_at tB_cX5_endsOf_2 2 rfl) (od_at tB_cX5_endsOf_2 3 rfl) (by decide +kernel)
theorem dX5_endsOf_36 : decode cX5_endsOf 36 = .ok (.aload_n 0, 1) := od_42 (od_at tB_cX5_endsOf_2 4 rfl)
theorem dX5_endsOf_37 : decode cX5_endsOf 37 = .ok (.iload 6, 2) := od_21 (od_at tB_cX5_endsOf_2 5 rfl) (od_at tB_cX5_endsOf_2 6 rfl) rfl
theorem dX5_endsOf_39 : decode cX5_endsOf 39 = .ok (.iload_n 2, 1) := od_28 (od_at tB_cX5_endsOf_2 7 rfl)
theorem dX5_endsOf_40 : decode cX5_endsOf 40 = .ok (.iload_n 3, 1) := od_29 (od_at tB_cX5_endsOf_2 8 rfl)
theorem dX5_endsOf_41 : decode cX5_endsOf 41 = .ok (.invokevirtual 205, 3) := od_182 (od_at tB_cX5_endsOf_2 9 rfl) (od_at tB_cX5_endsOf_2 10 rfl) (od_at tB_cX5_endsOf_2 11 rfl) rfl
theorem dX5_endsOf_44 : decode cX5_endsOf 44 = .ok (.aload_n 0, 1) := od_42 (od_at tB_cX5_endsOf_2 12 rfl)
theorem dX5_endsOf_45 : decode cX5_endsOf 45 = .ok (.getfield 25, 3) := od_180 (od_at tB_cX5_endsOf_2 13 rfl) (od_at tB_cX5_endsOf_2 14 rfl) (od_at tB_cX5_endsOf_2 15 rfl) rfl
theorem dX5_endsOf_48 : decode cX5_endsOf 48 = .ok (.iload 6, 2) := od_21 (od_at tB_cX5_endsOf_3 0 rfl) (od_at tB_cX5_endsOf_3 1 rfl) rfl
theorem dX5_endsOf_50 : decode cX5_endsOf 50 = .ok (.iaload, 1) := od_46 (od_at tB_cX5_endsOf_3 2 rfl)
theorem dX5_endsOf_51 : decode cX5_endsOf 51 = .ok (.i2l, 1) := od_133 (od_at tB_cX5_endsOf_3 3 rfl)
theorem dX5_endsOf_52 : decode cX5_endsOf 52 = .ok (.lmul, 1) := od_105 (od_at tB_cX5_endsOf_3 4 rfl)
theorem dX5_endsOf_53 : decode cX5_endsOf 53 = .ok (.ldc2_w 113, 3) := od_20 (od_at tB_cX5_endsOf_3 5 rfl) (od_at tB_cX5_endsOf_3 6 rfl) (od_at tB_cX5_endsOf_3 7 rfl) rfl
theorem dX5_endsOf_56 : decode cX5_endsOf 56 = .ok (.ldiv, 1) := od_109 (od_at tB_cX5_endsOf_3 8 rfl)
theorem dX5_endsOf_57 : decode cX5_endsOf 57 = .ok (.ladd, 1) := od_97 (od_at tB_cX5_endsOf_3 9 rfl)
theorem dX5_endsOf_58 : decode cX5_endsOf 58 = .ok (.lstore 4, 2) := od_55 (od_at tB_cX5_endsOf_3 10 rfl) (od_at tB_cX5_endsOf_3 11 rfl) rfl
theorem dX5_endsOf_60 : decode cX5_endsOf 60 = .ok (.iinc 6 1, 3) := od_132 (od_at tB_cX5_endsOf_3 12 rfl) (od_at tB_cX5_endsOf_3 13 rfl) (od_at tB_cX5_endsOf_3 14 rfl) rfl (by decide +kernel)
theorem dX5_endsOf_63 : decode cX5_endsOf 63 = .ok (.goto (-57), 3) := od_167 (od_at tB_cX5_endsOf_3 15 rfl) (od_at tB_cX5_endsOf_3 16 rfl) (od_at tB_cX5_endsOf_3 17 rfl) (by decide +kernel)
theorem dX5_endsOf_66 : decode cX5_endsOf 66 = .ok (.lload 4, 2) := od_22 (od_at tB_cX5_endsOf_4 2 rfl) (od_at tB_cX5_endsOf_4 3 rfl) rfl
theorem dX5_endsOf_68 : decode cX5_endsOf 68 = .ok (.lreturn, 1) := od_173 (od_at tB_cX5_endsOf_4 4 rfl)
def RB_cX5_balance_3 : List UInt8 := 0x1d :: 0xb6 :: 0x00 :: 0xdb :: 0xad :: []
def RB_cX5_balance_2 : List UInt8 := 0x9a :: 0x00 :: 0x0d :: 0x2a :: 0x1b :: 0x1c :: 0x1d :: 0xb6 :: 0x00 :: 0xd8 :: 0xa7 :: 0x00 :: 0x0a :: 0x2a :: 0x1b :: 0x1c :: RB_cX5_balance_3
def RB_cX5_balance_1 : List UInt8 := 0x00 :: 0x0b :: 0x1c :: 0x1d :: 0xb8 :: 0x00 :: 0xbf :: 0x9a :: 0x00 :: 0x07 :: 0xb8 :: 0x00 :: 0x5c :: 0xad :: 0x15 :: 0x04 :: RB_cX5_balance_2
def RB_cX5_balance_0 : List UInt8 := 0x1b :: 0xb8 :: 0x00 :: 0xd1 :: 0x9a :: 0x00 :: 0x16 :: 0x15 :: 0x04 :: 0x85 :: 0x09 :: 0x0a :: 0xb8 :: 0x00 :: 0x65 :: 0x99 :: RB_cX5_balance_1
theorem tB_cX5_balance_0 : cX5_balance.data.toList.drop 0 = RB_cX5_balance_0 := by decide +kernel
theorem tB_cX5_balance_1 : cX5_balance.data.toList.drop 16 = RB_cX5_balance_1 := od_st tB_cX5_balance_0 16 rfl
theorem tB_cX5_balance_2 : cX5_balance.data.toList.drop 32 = RB_cX5_balance_2 := od_st tB_cX5_balance_1 16 rfl
theorem tB_cX5_balance_3 : cX5_balance.data.toList.drop 48 = RB_cX5_balance_3 := od_st tB_cX5_balance_2 16 rfl
theorem dX5_balance_0 : decode cX5_balance 0 = .ok (.iload_n 1, 1) := od_27 (od_at tB_cX5_balance_0 0 rfl)
theorem dX5_balance_1 : decode cX5_balance 1 = .ok (.invokestatic 209, 3) := od_184 (od_at tB_cX5_balance_0 1 rfl) (od_at tB_cX5_balance_0 2 rfl) (od_at tB_cX5_balance_0 3 rfl) rfl
theorem dX5_balance_4 : decode cX5_balance 4 = .ok (.ifCond .ne 22, 3) := od_154 (od_at tB_cX5_balance_0 4 rfl) (od_at tB_cX5_balance_0 5 rfl) (od_at tB_cX5_balance_0 6 rfl) (by decide +kernel)
theorem dX5_balance_7 : decode cX5_balance 7 = .ok (.iload 4, 2) := od_21 (od_at tB_cX5_balance_0 7 rfl) (od_at tB_cX5_balance_0 8 rfl) rfl
theorem dX5_balance_9 : decode cX5_balance 9 = .ok (.i2l, 1) := od_133 (od_at tB_cX5_balance_0 9 rfl)
theorem dX5_balance_10 : decode cX5_balance 10 = .ok (.lconst 0, 1) := od_9 (od_at tB_cX5_balance_0 10 rfl)
theorem dX5_balance_11 : decode cX5_balance 11 = .ok (.lconst 1, 1) := od_10 (od_at tB_cX5_balance_0 11 rfl)
theorem dX5_balance_12 : decode cX5_balance 12 = .ok (.invokestatic 101, 3) := od_184 (od_at tB_cX5_balance_0 12 rfl) (od_at tB_cX5_balance_0 13 rfl) (od_at tB_cX5_balance_0 14 rfl) rfl
theorem dX5_balance_15 : decode cX5_balance 15 = .ok (.ifCond .eq 11, 3) := od_153 (od_at tB_cX5_balance_0 15 rfl) (od_at tB_cX5_balance_0 16 rfl) (od_at tB_cX5_balance_0 17 rfl) (by decide +kernel)
theorem dX5_balance_18 : decode cX5_balance 18 = .ok (.iload_n 2, 1) := od_28 (od_at tB_cX5_balance_1 2 rfl)
theorem dX5_balance_19 : decode cX5_balance 19 = .ok (.iload_n 3, 1) := od_29 (od_at tB_cX5_balance_1 3 rfl)
theorem dX5_balance_20 : decode cX5_balance 20 = .ok (.invokestatic 191, 3) := od_184 (od_at tB_cX5_balance_1 4 rfl) (od_at tB_cX5_balance_1 5 rfl) (od_at tB_cX5_balance_1 6 rfl) rfl
theorem dX5_balance_23 : decode cX5_balance 23 = .ok (.ifCond .ne 7, 3) := od_154 (od_at tB_cX5_balance_1 7 rfl) (od_at tB_cX5_balance_1 8 rfl) (od_at tB_cX5_balance_1 9 rfl) (by decide +kernel)
theorem dX5_balance_26 : decode cX5_balance 26 = .ok (.invokestatic 92, 3) := od_184 (od_at tB_cX5_balance_1 10 rfl) (od_at tB_cX5_balance_1 11 rfl) (od_at tB_cX5_balance_1 12 rfl) rfl
theorem dX5_balance_29 : decode cX5_balance 29 = .ok (.lreturn, 1) := od_173 (od_at tB_cX5_balance_1 13 rfl)
theorem dX5_balance_30 : decode cX5_balance 30 = .ok (.iload 4, 2) := od_21 (od_at tB_cX5_balance_1 14 rfl) (od_at tB_cX5_balance_1 15 rfl) rfl
theorem dX5_balance_32 : decode cX5_balance 32 = .ok (.ifCond .ne 13, 3) := od_154 (od_at tB_cX5_balance_2 0 rfl) (od_at tB_cX5_balance_2 1 rfl) (od_at tB_cX5_balance_2 2 rfl) (by decide +kernel)
theorem dX5_balance_35 : decode cX5_balance 35 = .ok (.aload_n 0, 1) := od_42 (od_at tB_cX5_balance_2 3 rfl)
theorem dX5_balance_36 : decode cX5_balance 36 = .ok (.iload_n 1, 1) := od_27 (od_at tB_cX5_balance_2 4 rfl)
theorem dX5_balance_37 : decode cX5_balance 37 = .ok (.iload_n 2, 1) := od_28 (od_at tB_cX5_balance_2 5 rfl)
theorem dX5_balance_38 : decode cX5_balance 38 = .ok (.iload_n 3, 1) := od_29 (od_at tB_cX5_balance_2 6 rfl)
theorem dX5_balance_39 : decode cX5_balance 39 = .ok (.invokevirtual 216, 3) := od_182 (od_at tB_cX5_balance_2 7 rfl) (od_at tB_cX5_balance_2 8 rfl) (od_at tB_cX5_balance_2 9 rfl) rfl
theorem dX5_balance_42 : decode cX5_balance 42 = .ok (.goto 10, 3) := od_167 (od_at tB_cX5_balance_2 10 rfl) (od_at tB_cX5_balance_2 11 rfl) (od_at tB_cX5_balance_2 12 rfl) (by decide +kernel)
theorem dX5_balance_45 : decode cX5_balance 45 = .ok (.aload_n 0, 1) := od_42 (od_at tB_cX5_balance_2 13 rfl)
theorem dX5_balance_46 : decode cX5_balance 46 = .ok (.iload_n 1, 1) := od_27 (od_at tB_cX5_balance_2 14 rfl)
theorem dX5_balance_47 : decode cX5_balance 47 = .ok (.iload_n 2, 1) := od_28 (od_at tB_cX5_balance_2 15 rfl)
theorem dX5_balance_48 : decode cX5_balance 48 = .ok (.iload_n 3, 1) := od_29 (od_at tB_cX5_balance_3 0 rfl)
theorem dX5_balance_49 : decode cX5_balance 49 = .ok (.invokevirtual 219, 3) := od_182 (od_at tB_cX5_balance_3 1 rfl) (od_at tB_cX5_balance_3 2 rfl) (od_at tB_cX5_balance_3 3 rfl) rfl
theorem dX5_balance_52 : decode cX5_balance 52 = .ok (.lreturn, 1) := od_173 (od_at tB_cX5_balance_3 4 rfl)
def RB_cX5_beyondOf_3 : List UInt8 := 0x78 :: 0x80 :: 0x3e :: 0x84 :: 0x04 :: 0x01 :: 0xa7 :: 0xff :: 0xcf :: 0x1d :: 0xac :: []
def RB_cX5_beyondOf_2 : List UInt8 := 0x75 :: 0x16 :: 0x05 :: 0xb8 :: 0x00 :: 0x65 :: 0x99 :: 0x00 :: 0x07 :: 0x03 :: 0xa7 :: 0x00 :: 0x07 :: 0x04 :: 0x15 :: 0x04 :: RB_cX5_beyondOf_3
def RB_cX5_beyondOf_1 : List UInt8 := 0xb6 :: 0x00 :: 0xdb :: 0x37 :: 0x05 :: 0x1d :: 0x2a :: 0x15 :: 0x04 :: 0x1b :: 0x1c :: 0xb6 :: 0x00 :: 0xd8 :: 0x16 :: 0x05 :: RB_cX5_beyondOf_2
def RB_cX5_beyondOf_0 : List UInt8 := 0x03 :: 0x3e :: 0x03 :: 0x36 :: 0x04 :: 0x15 :: 0x04 :: 0x07 :: 0xa2 :: 0x00 :: 0x31 :: 0x2a :: 0x15 :: 0x04 :: 0x1b :: 0x1c :: RB_cX5_beyondOf_1
theorem tB_cX5_beyondOf_0 : cX5_beyondOf.data.toList.drop 0 = RB_cX5_beyondOf_0 := by decide +kernel
theorem tB_cX5_beyondOf_1 : cX5_beyondOf.data.toList.drop 16 = RB_cX5_beyondOf_1 := od_st tB_cX5_beyondOf_0 16 rfl
theorem tB_cX5_beyondOf_2 : cX5_beyondOf.data.toList.drop 32 = RB_cX5_beyondOf_2 := od_st tB_cX5_beyondOf_1 16 rfl
theorem tB_cX5_beyondOf_3 : cX5_beyondOf.data.toList.drop 48 = RB_cX5_beyondOf_3 := od_st tB_cX5_beyondOf_2 16 rfl
theorem dX5_beyondOf_0 : decode cX5_beyondOf 0 = .ok (.iconst 0, 1) := od_3 (od_at tB_cX5_beyondOf_0 0 rfl)
theorem dX5_beyondOf_1 : decode cX5_beyondOf 1 = .ok (.istore_n 3, 1) := od_62 (od_at tB_cX5_beyondOf_0 1 rfl)
theorem dX5_beyondOf_2 : decode cX5_beyondOf 2 = .ok (.iconst 0, 1) := od_3 (od_at tB_cX5_beyondOf_0 2 rfl)
theorem dX5_beyondOf_3 : decode cX5_beyondOf 3 = .ok (.istore 4, 2) := od_54 (od_at tB_cX5_beyondOf_0 3 rfl) (od_at tB_cX5_beyondOf_0 4 rfl) rfl
theorem dX5_beyondOf_5 : decode cX5_beyondOf 5 = .ok (.iload 4, 2) := od_21 (od_at tB_cX5_beyondOf_0 5 rfl) (od_at tB_cX5_beyondOf_0 6 rfl) rfl
theorem dX5_beyondOf_7 : decode cX5_beyondOf 7 = .ok (.iconst 4, 1) := od_7 (od_at tB_cX5_beyondOf_0 7 rfl)
theorem dX5_beyondOf_8 : decode cX5_beyondOf 8 = .ok (.if_icmp .ge 49, 3) := od_162 (od_at tB_cX5_beyondOf_0 8 rfl) (od_at tB_cX5_beyondOf_0 9 rfl) (od_at tB_cX5_beyondOf_0 10 rfl) (by decide +kernel)
theorem dX5_beyondOf_11 : decode cX5_beyondOf 11 = .ok (.aload_n 0, 1) := od_42 (od_at tB_cX5_beyondOf_0 11 rfl)
theorem dX5_beyondOf_12 : decode cX5_beyondOf 12 = .ok (.iload 4, 2) := od_21 (od_at tB_cX5_beyondOf_0 12 rfl) (od_at tB_cX5_beyondOf_0 13 rfl) rfl
theorem dX5_beyondOf_14 : decode cX5_beyondOf 14 = .ok (.iload_n 1, 1) := od_27 (od_at tB_cX5_beyondOf_0 14 rfl)
theorem dX5_beyondOf_15 : decode cX5_beyondOf 15 = .ok (.iload_n 2, 1) := od_28 (od_at tB_cX5_beyondOf_0 15 rfl)
theorem dX5_beyondOf_16 : decode cX5_beyondOf 16 = .ok (.invokevirtual 219, 3) := od_182 (od_at tB_cX5_beyondOf_1 0 rfl) (od_at tB_cX5_beyondOf_1 1 rfl) (od_at tB_cX5_beyondOf_1 2 rfl) rfl
theorem dX5_beyondOf_19 : decode cX5_beyondOf 19 = .ok (.lstore 5, 2) := od_55 (od_at tB_cX5_beyondOf_1 3 rfl) (od_at tB_cX5_beyondOf_1 4 rfl) rfl
theorem dX5_beyondOf_21 : decode cX5_beyondOf 21 = .ok (.iload_n 3, 1) := od_29 (od_at tB_cX5_beyondOf_1 5 rfl)
theorem dX5_beyondOf_22 : decode cX5_beyondOf 22 = .ok (.aload_n 0, 1) := od_42 (od_at tB_cX5_beyondOf_1 6 rfl)
theorem dX5_beyondOf_23 : decode cX5_beyondOf 23 = .ok (.iload 4, 2) := od_21 (od_at tB_cX5_beyondOf_1 7 rfl) (od_at tB_cX5_beyondOf_1 8 rfl) rfl
theorem dX5_beyondOf_25 : decode cX5_beyondOf 25 = .ok (.iload_n 1, 1) := od_27 (od_at tB_cX5_beyondOf_1 9 rfl)
theorem dX5_beyondOf_26 : decode cX5_beyondOf 26 = .ok (.iload_n 2, 1) := od_28 (od_at tB_cX5_beyondOf_1 10 rfl)
theorem dX5_beyondOf_27 : decode cX5_beyondOf 27 = .ok (.invokevirtual 216, 3) := od_182 (od_at tB_cX5_beyondOf_1 11 rfl) (od_at tB_cX5_beyondOf_1 12 rfl) (od_at tB_cX5_beyondOf_1 13 rfl) rfl
theorem dX5_beyondOf_30 : decode cX5_beyondOf 30 = .ok (.lload 5, 2) := od_22 (od_at tB_cX5_beyondOf_1 14 rfl) (od_at tB_cX5_beyondOf_1 15 rfl) rfl
theorem dX5_beyondOf_32 : decode cX5_beyondOf 32 = .ok (.lneg, 1) := od_117 (od_at tB_cX5_beyondOf_2 0 rfl)
theorem dX5_beyondOf_33 : decode cX5_beyondOf 33 = .ok (.lload 5, 2) := od_22 (od_at tB_cX5_beyondOf_2 1 rfl) (od_at tB_cX5_beyondOf_2 2 rfl) rfl
theorem dX5_beyondOf_35 : decode cX5_beyondOf 35 = .ok (.invokestatic 101, 3) := od_184 (od_at tB_cX5_beyondOf_2 3 rfl) (od_at tB_cX5_beyondOf_2 4 rfl) (od_at tB_cX5_beyondOf_2 5 rfl) rfl
theorem dX5_beyondOf_38 : decode cX5_beyondOf 38 = .ok (.ifCond .eq 7, 3) := od_153 (od_at tB_cX5_beyondOf_2 6 rfl) (od_at tB_cX5_beyondOf_2 7 rfl) (od_at tB_cX5_beyondOf_2 8 rfl) (by decide +kernel)
theorem dX5_beyondOf_41 : decode cX5_beyondOf 41 = .ok (.iconst 0, 1) := od_3 (od_at tB_cX5_beyondOf_2 9 rfl)
theorem dX5_beyondOf_42 : decode cX5_beyondOf 42 = .ok (.goto 7, 3) := od_167 (od_at tB_cX5_beyondOf_2 10 rfl) (od_at tB_cX5_beyondOf_2 11 rfl) (od_at tB_cX5_beyondOf_2 12 rfl) (by decide +kernel)
theorem dX5_beyondOf_45 : decode cX5_beyondOf 45 = .ok (.iconst 1, 1) := od_4 (od_at tB_cX5_beyondOf_2 13 rfl)
theorem dX5_beyondOf_46 : decode cX5_beyondOf 46 = .ok (.iload 4, 2) := od_21 (od_at tB_cX5_beyondOf_2 14 rfl) (od_at tB_cX5_beyondOf_2 15 rfl) rfl
theorem dX5_beyondOf_48 : decode cX5_beyondOf 48 = .ok (.ishl, 1) := od_120 (od_at tB_cX5_beyondOf_3 0 rfl)
theorem dX5_beyondOf_49 : decode cX5_beyondOf 49 = .ok (.ior, 1) := od_128 (od_at tB_cX5_beyondOf_3 1 rfl)
theorem dX5_beyondOf_50 : decode cX5_beyondOf 50 = .ok (.istore_n 3, 1) := od_62 (od_at tB_cX5_beyondOf_3 2 rfl)
theorem dX5_beyondOf_51 : decode cX5_beyondOf 51 = .ok (.iinc 4 1, 3) := od_132 (od_at tB_cX5_beyondOf_3 3 rfl) (od_at tB_cX5_beyondOf_3 4 rfl) (od_at tB_cX5_beyondOf_3 5 rfl) rfl (by decide +kernel)
theorem dX5_beyondOf_54 : decode cX5_beyondOf 54 = .ok (.goto (-49), 3) := od_167 (od_at tB_cX5_beyondOf_3 6 rfl) (od_at tB_cX5_beyondOf_3 7 rfl) (od_at tB_cX5_beyondOf_3 8 rfl) (by decide +kernel)
theorem dX5_beyondOf_57 : decode cX5_beyondOf 57 = .ok (.iload_n 3, 1) := od_29 (od_at tB_cX5_beyondOf_3 9 rfl)
theorem dX5_beyondOf_58 : decode cX5_beyondOf 58 = .ok (.ireturn, 1) := od_172 (od_at tB_cX5_beyondOf_3 10 rfl)
def RB_cX5_beyond_1 : List UInt8 := 0x05 :: 0x10 :: 0xfe :: 0xac :: []
def RB_cX5_beyond_0 : List UInt8 := 0x1b :: 0x1c :: 0xb8 :: 0x00 :: 0xbf :: 0x99 :: 0x00 :: 0x0c :: 0x2a :: 0x1b :: 0x1c :: 0xb6 :: 0x00 :: 0xde :: 0xa7 :: 0x00 :: RB_cX5_beyond_1
theorem tB_cX5_beyond_0 : cX5_beyond.data.toList.drop 0 = RB_cX5_beyond_0 := by decide +kernel
theorem tB_cX5_beyond_1 : cX5_beyond.data.toList.drop 16 = RB_cX5_beyond_1 := od_st tB_cX5_beyond_0 16 rfl
theorem dX5_beyond_0 : decode cX5_beyond 0 = .ok (.iload_n 1, 1) := od_27 (od_at tB_cX5_beyond_0 0 rfl)
theorem dX5_beyond_1 : decode cX5_beyond 1 = .ok (.iload_n 2, 1) := od_28 (od_at tB_cX5_beyond_0 1 rfl)
theorem dX5_beyond_2 : decode cX5_beyond 2 = .ok (.invokestatic 191, 3) := od_184 (od_at tB_cX5_beyond_0 2 rfl) (od_at tB_cX5_beyond_0 3 rfl) (od_at tB_cX5_beyond_0 4 rfl) rfl
theorem dX5_beyond_5 : decode cX5_beyond 5 = .ok (.ifCond .eq 12, 3) := od_153 (od_at tB_cX5_beyond_0 5 rfl) (od_at tB_cX5_beyond_0 6 rfl) (od_at tB_cX5_beyond_0 7 rfl) (by decide +kernel)
theorem dX5_beyond_8 : decode cX5_beyond 8 = .ok (.aload_n 0, 1) := od_42 (od_at tB_cX5_beyond_0 8 rfl)
theorem dX5_beyond_9 : decode cX5_beyond 9 = .ok (.iload_n 1, 1) := od_27 (od_at tB_cX5_beyond_0 9 rfl)
theorem dX5_beyond_10 : decode cX5_beyond 10 = .ok (.iload_n 2, 1) := od_28 (od_at tB_cX5_beyond_0 10 rfl)
theorem dX5_beyond_11 : decode cX5_beyond 11 = .ok (.invokevirtual 222, 3) := od_182 (od_at tB_cX5_beyond_0 11 rfl) (od_at tB_cX5_beyond_0 12 rfl) (od_at tB_cX5_beyond_0 13 rfl) rfl
theorem dX5_beyond_14 : decode cX5_beyond 14 = .ok (.goto 5, 3) := od_167 (od_at tB_cX5_beyond_0 14 rfl) (od_at tB_cX5_beyond_0 15 rfl) (od_at tB_cX5_beyond_0 16 rfl) (by decide +kernel)
theorem dX5_beyond_17 : decode cX5_beyond 17 = .ok (.bipush (-2), 2) := od_16 (od_at tB_cX5_beyond_1 1 rfl) (od_at tB_cX5_beyond_1 2 rfl) (by decide +kernel)
theorem dX5_beyond_19 : decode cX5_beyond 19 = .ok (.ireturn, 1) := od_172 (od_at tB_cX5_beyond_1 3 rfl)
def RB_cX5_explains_14 : List UInt8 := 0x00 :: 0x08 :: 0x16 :: 0x06 :: 0xa7 :: 0x00 :: 0x04 :: 0x09 :: 0xad :: []
def RB_cX5_explains_13 : List UInt8 := 0x04 :: 0x09 :: 0x94 :: 0x9e :: 0x00 :: 0x08 :: 0x16 :: 0x04 :: 0xa7 :: 0x00 :: 0x10 :: 0x16 :: 0x06 :: 0x09 :: 0x94 :: 0x9c :: RB_cX5_explains_14
def RB_cX5_explains_12 : List UInt8 := 0xa7 :: 0xff :: 0x6c :: 0x16 :: 0x04 :: 0x16 :: 0x06 :: 0x94 :: 0x9e :: 0x00 :: 0x07 :: 0x09 :: 0xa7 :: 0x00 :: 0x1c :: 0x16 :: RB_cX5_explains_13
def RB_cX5_explains_11 : List UInt8 := 0x94 :: 0x9c :: 0x00 :: 0x08 :: 0x16 :: 0x10 :: 0xa7 :: 0x00 :: 0x05 :: 0x16 :: 0x06 :: 0x37 :: 0x06 :: 0x84 :: 0x08 :: 0x01 :: RB_cX5_explains_12
def RB_cX5_explains_10 : List UInt8 := 0xa7 :: 0x00 :: 0x05 :: 0x16 :: 0x04 :: 0x37 :: 0x04 :: 0x15 :: 0x0d :: 0x99 :: 0x00 :: 0x10 :: 0x16 :: 0x10 :: 0x16 :: 0x06 :: RB_cX5_explains_11
def RB_cX5_explains_9 : List UInt8 := 0x10 :: 0x15 :: 0x0d :: 0x99 :: 0x00 :: 0x10 :: 0x16 :: 0x0e :: 0x16 :: 0x04 :: 0x94 :: 0x9e :: 0x00 :: 0x08 :: 0x16 :: 0x0e :: RB_cX5_explains_10
def RB_cX5_explains_8 : List UInt8 := 0x00 :: 0x0b :: 0x16 :: 0x0b :: 0x16 :: 0x09 :: 0x65 :: 0xa7 :: 0x00 :: 0x08 :: 0x16 :: 0x09 :: 0x16 :: 0x0b :: 0x61 :: 0x37 :: RB_cX5_explains_9
def RB_cX5_explains_7 : List UInt8 := 0x16 :: 0x09 :: 0x65 :: 0xa7 :: 0x00 :: 0x08 :: 0x16 :: 0x09 :: 0x16 :: 0x0b :: 0x65 :: 0x37 :: 0x0e :: 0x15 :: 0x0d :: 0x9e :: RB_cX5_explains_8
def RB_cX5_explains_6 : List UInt8 := 0xb8 :: 0x00 :: 0x65 :: 0x9a :: 0x00 :: 0x05 :: 0x09 :: 0xad :: 0x15 :: 0x0d :: 0x9e :: 0x00 :: 0x0c :: 0x16 :: 0x0b :: 0x75 :: RB_cX5_explains_7
def RB_cX5_explains_5 : List UInt8 := 0x60 :: 0x2e :: 0x36 :: 0x0d :: 0x15 :: 0x0d :: 0x9a :: 0x00 :: 0x12 :: 0x16 :: 0x09 :: 0x16 :: 0x0b :: 0x75 :: 0x16 :: 0x0b :: RB_cX5_explains_6
def RB_cX5_explains_4 : List UInt8 := 0x1d :: 0xb6 :: 0x00 :: 0xdb :: 0x37 :: 0x0b :: 0x2a :: 0xb4 :: 0x00 :: 0x41 :: 0x10 :: 0x06 :: 0x15 :: 0x08 :: 0x68 :: 0x1b :: RB_cX5_explains_5
def RB_cX5_explains_3 : List UInt8 := 0x00 :: 0x94 :: 0x2a :: 0x15 :: 0x08 :: 0x1c :: 0x1d :: 0xb6 :: 0x00 :: 0xd8 :: 0x37 :: 0x09 :: 0x2a :: 0x15 :: 0x08 :: 0x1c :: RB_cX5_explains_4
def RB_cX5_explains_2 : List UInt8 := 0x00 :: 0xe2 :: 0x37 :: 0x04 :: 0x14 :: 0x00 :: 0xe4 :: 0x37 :: 0x06 :: 0x03 :: 0x36 :: 0x08 :: 0x15 :: 0x08 :: 0x07 :: 0xa2 :: RB_cX5_explains_3
def RB_cX5_explains_1 : List UInt8 := 0xb8 :: 0x00 :: 0x5c :: 0xad :: 0x2a :: 0x1c :: 0x1d :: 0xb6 :: 0x00 :: 0xde :: 0x9a :: 0x00 :: 0x05 :: 0x09 :: 0xad :: 0x14 :: RB_cX5_explains_2
def RB_cX5_explains_0 : List UInt8 := 0x2a :: 0x1b :: 0xb6 :: 0x00 :: 0x73 :: 0x9a :: 0x00 :: 0x0b :: 0x1c :: 0x1d :: 0xb8 :: 0x00 :: 0xbf :: 0x9a :: 0x00 :: 0x07 :: RB_cX5_explains_1
theorem tB_cX5_explains_0 : cX5_explains.data.toList.drop 0 = RB_cX5_explains_0 := by decide +kernel
theorem tB_cX5_explains_1 : cX5_explains.data.toList.drop 16 = RB_cX5_explains_1 := od_st tB_cX5_explains_0 16 rfl
theorem tB_cX5_explains_2 : cX5_explains.data.toList.drop 32 = RB_cX5_explains_2 := od_st tB_cX5_explains_1 16 rfl
theorem tB_cX5_explains_3 : cX5_explains.data.toList.drop 48 = RB_cX5_explains_3 := od_st tB_cX5_explains_2 16 rfl
theorem tB_cX5_explains_4 : cX5_explains.data.toList.drop 64 = RB_cX5_explains_4 := od_st tB_cX5_explains_3 16 rfl
theorem tB_cX5_explains_5 : cX5_explains.data.toList.drop 80 = RB_cX5_explains_5 := od_st tB_cX5_explains_4 16 rfl
theorem tB_cX5_explains_6 : cX5_explains.data.toList.drop 96 = RB_cX5_explains_6 := od_st tB_cX5_explains_5 16 rfl
theorem tB_cX5_explains_7 : cX5_explains.data.toList.drop 112 = RB_cX5_explains_7 := od_st tB_cX5_explains_6 16 rfl
theorem tB_cX5_explains_8 : cX5_explains.data.toList.drop 128 = RB_cX5_explains_8 := od_st tB_cX5_explains_7 16 rfl
theorem tB_cX5_explains_9 : cX5_explains.data.toList.drop 144 = RB_cX5_explains_9 := od_st tB_cX5_explains_8 16 rfl
theorem tB_cX5_explains_10 : cX5_explains.data.toList.drop 160 = RB_cX5_explains_10 := od_st tB_cX5_explains_9 16 rfl
theorem tB_cX5_explains_11 : cX5_explains.data.toList.drop 176 = RB_cX5_explains_11 := od_st tB_cX5_explains_10 16 rfl
theorem tB_cX5_explains_12 : cX5_explains.data.toList.drop 192 = RB_cX5_explains_12 := od_st tB_cX5_explains_11 16 rfl
theorem tB_cX5_explains_13 : cX5_explains.data.toList.drop 208 = RB_cX5_explains_13 := od_st tB_cX5_explains_12 16 rfl
theorem tB_cX5_explains_14 : cX5_explains.data.toList.drop 224 = RB_cX5_explains_14 := od_st tB_cX5_explains_13 16 rfl
theorem dX5_explains_0 : decode cX5_explains 0 = .ok (.aload_n 0, 1) := od_42 (od_at tB_cX5_explains_0 0 rfl)
theorem dX5_explains_1 : decode cX5_explains 1 = .ok (.iload_n 1, 1) := od_27 (od_at tB_cX5_explains_0 1 rfl)
theorem dX5_explains_2 : decode cX5_explains 2 = .ok (.invokevirtual 115, 3) := od_182 (od_at tB_cX5_explains_0 2 rfl) (od_at tB_cX5_explains_0 3 rfl) (od_at tB_cX5_explains_0 4 rfl) rfl
theorem dX5_explains_5 : decode cX5_explains 5 = .ok (.ifCond .ne 11, 3) := od_154 (od_at tB_cX5_explains_0 5 rfl) (od_at tB_cX5_explains_0 6 rfl) (od_at tB_cX5_explains_0 7 rfl) (by decide +kernel)
theorem dX5_explains_8 : decode cX5_explains 8 = .ok (.iload_n 2, 1) := od_28 (od_at tB_cX5_explains_0 8 rfl)
theorem dX5_explains_9 : decode cX5_explains 9 = .ok (.iload_n 3, 1) := od_29 (od_at tB_cX5_explains_0 9 rfl)
theorem dX5_explains_10 : decode cX5_explains 10 = .ok (.invokestatic 191, 3) := od_184 (od_at tB_cX5_explains_0 10 rfl) (od_at tB_cX5_explains_0 11 rfl) (od_at tB_cX5_explains_0 12 rfl) rfl
theorem dX5_explains_13 : decode cX5_explains 13 = .ok (.ifCond .ne 7, 3) := od_154 (od_at tB_cX5_explains_0 13 rfl) (od_at tB_cX5_explains_0 14 rfl) (od_at tB_cX5_explains_0 15 rfl) (by decide +kernel)
theorem dX5_explains_16 : decode cX5_explains 16 = .ok (.invokestatic 92, 3) := od_184 (od_at tB_cX5_explains_1 0 rfl) (od_at tB_cX5_explains_1 1 rfl) (od_at tB_cX5_explains_1 2 rfl) rfl
theorem dX5_explains_19 : decode cX5_explains 19 = .ok (.lreturn, 1) := od_173 (od_at tB_cX5_explains_1 3 rfl)
theorem dX5_explains_20 : decode cX5_explains 20 = .ok (.aload_n 0, 1) := od_42 (od_at tB_cX5_explains_1 4 rfl)
theorem dX5_explains_21 : decode cX5_explains 21 = .ok (.iload_n 2, 1) := od_28 (od_at tB_cX5_explains_1 5 rfl)
theorem dX5_explains_22 : decode cX5_explains 22 = .ok (.iload_n 3, 1) := od_29 (od_at tB_cX5_explains_1 6 rfl)
theorem dX5_explains_23 : decode cX5_explains 23 = .ok (.invokevirtual 222, 3) := od_182 (od_at tB_cX5_explains_1 7 rfl) (od_at tB_cX5_explains_1 8 rfl) (od_at tB_cX5_explains_1 9 rfl) rfl
theorem dX5_explains_26 : decode cX5_explains 26 = .ok (.ifCond .ne 5, 3) := od_154 (od_at tB_cX5_explains_1 10 rfl) (od_at tB_cX5_explains_1 11 rfl) (od_at tB_cX5_explains_1 12 rfl) (by decide +kernel)
theorem dX5_explains_29 : decode cX5_explains 29 = .ok (.lconst 0, 1) := od_9 (od_at tB_cX5_explains_1 13 rfl)
theorem dX5_explains_30 : decode cX5_explains 30 = .ok (.lreturn, 1) := od_173 (od_at tB_cX5_explains_1 14 rfl)
theorem dX5_explains_31 : decode cX5_explains 31 = .ok (.ldc2_w 226, 3) := od_20 (od_at tB_cX5_explains_1 15 rfl) (od_at tB_cX5_explains_1 16 rfl) (od_at tB_cX5_explains_1 17 rfl) rfl
theorem dX5_explains_34 : decode cX5_explains 34 = .ok (.lstore 4, 2) := od_55 (od_at tB_cX5_explains_2 2 rfl) (od_at tB_cX5_explains_2 3 rfl) rfl
theorem dX5_explains_36 : decode cX5_explains 36 = .ok (.ldc2_w 228, 3) := od_20 (od_at tB_cX5_explains_2 4 rfl) (od_at tB_cX5_explains_2 5 rfl) (od_at tB_cX5_explains_2 6 rfl) rfl
theorem dX5_explains_39 : decode cX5_explains 39 = .ok (.lstore 6, 2) := od_55 (od_at tB_cX5_explains_2 7 rfl) (od_at tB_cX5_explains_2 8 rfl) rfl
theorem dX5_explains_41 : decode cX5_explains 41 = .ok (.iconst 0, 1) := od_3 (od_at tB_cX5_explains_2 9 rfl)
theorem dX5_explains_42 : decode cX5_explains 42 = .ok (.istore 8, 2) := od_54 (od_at tB_cX5_explains_2 10 rfl) (od_at tB_cX5_explains_2 11 rfl) rfl
theorem dX5_explains_44 : decode cX5_explains 44 = .ok (.iload 8, 2) := od_21 (od_at tB_cX5_explains_2 12 rfl) (od_at tB_cX5_explains_2 13 rfl) rfl
theorem dX5_explains_46 : decode cX5_explains 46 = .ok (.iconst 4, 1) := od_7 (od_at tB_cX5_explains_2 14 rfl)
theorem dX5_explains_47 : decode cX5_explains 47 = .ok (.if_icmp .ge 148, 3) := od_162 (od_at tB_cX5_explains_2 15 rfl) (od_at tB_cX5_explains_2 16 rfl) (od_at tB_cX5_explains_2 17 rfl) (by decide +kernel)
theorem dX5_explains_50 : decode cX5_explains 50 = .ok (.aload_n 0, 1) := od_42 (od_at tB_cX5_explains_3 2 rfl)
theorem dX5_explains_51 : decode cX5_explains 51 = .ok (.iload 8, 2) := od_21 (od_at tB_cX5_explains_3 3 rfl) (od_at tB_cX5_explains_3 4 rfl) rfl
theorem dX5_explains_53 : decode cX5_explains 53 = .ok (.iload_n 2, 1) := od_28 (od_at tB_cX5_explains_3 5 rfl)
theorem dX5_explains_54 : decode cX5_explains 54 = .ok (.iload_n 3, 1) := od_29 (od_at tB_cX5_explains_3 6 rfl)
theorem dX5_explains_55 : decode cX5_explains 55 = .ok (.invokevirtual 216, 3) := od_182 (od_at tB_cX5_explains_3 7 rfl) (od_at tB_cX5_explains_3 8 rfl) (od_at tB_cX5_explains_3 9 rfl) rfl
theorem dX5_explains_58 : decode cX5_explains 58 = .ok (.lstore 9, 2) := od_55 (od_at tB_cX5_explains_3 10 rfl) (od_at tB_cX5_explains_3 11 rfl) rfl
theorem dX5_explains_60 : decode cX5_explains 60 = .ok (.aload_n 0, 1) := od_42 (od_at tB_cX5_explains_3 12 rfl)
theorem dX5_explains_61 : decode cX5_explains 61 = .ok (.iload 8, 2) := od_21 (od_at tB_cX5_explains_3 13 rfl) (od_at tB_cX5_explains_3 14 rfl) rfl
theorem dX5_explains_63 : decode cX5_explains 63 = .ok (.iload_n 2, 1) := od_28 (od_at tB_cX5_explains_3 15 rfl)
theorem dX5_explains_64 : decode cX5_explains 64 = .ok (.iload_n 3, 1) := od_29 (od_at tB_cX5_explains_4 0 rfl)
theorem dX5_explains_65 : decode cX5_explains 65 = .ok (.invokevirtual 219, 3) := od_182 (od_at tB_cX5_explains_4 1 rfl) (od_at tB_cX5_explains_4 2 rfl) (od_at tB_cX5_explains_4 3 rfl) rfl
theorem dX5_explains_68 : decode cX5_explains 68 = .ok (.lstore 11, 2) := od_55 (od_at tB_cX5_explains_4 4 rfl) (od_at tB_cX5_explains_4 5 rfl) rfl
theorem dX5_explains_70 : decode cX5_explains 70 = .ok (.aload_n 0, 1) := od_42 (od_at tB_cX5_explains_4 6 rfl)
theorem dX5_explains_71 : decode cX5_explains 71 = .ok (.getfield 65, 3) := od_180 (od_at tB_cX5_explains_4 7 rfl) (od_at tB_cX5_explains_4 8 rfl) (od_at tB_cX5_explains_4 9 rfl) rfl
theorem dX5_explains_74 : decode cX5_explains 74 = .ok (.bipush 6, 2) := od_16 (od_at tB_cX5_explains_4 10 rfl) (od_at tB_cX5_explains_4 11 rfl) (by decide +kernel)
theorem dX5_explains_76 : decode cX5_explains 76 = .ok (.iload 8, 2) := od_21 (od_at tB_cX5_explains_4 12 rfl) (od_at tB_cX5_explains_4 13 rfl) rfl
theorem dX5_explains_78 : decode cX5_explains 78 = .ok (.imul, 1) := od_104 (od_at tB_cX5_explains_4 14 rfl)
theorem dX5_explains_79 : decode cX5_explains 79 = .ok (.iload_n 1, 1) := od_27 (od_at tB_cX5_explains_4 15 rfl)
theorem dX5_explains_80 : decode cX5_explains 80 = .ok (.iadd, 1) := od_96 (od_at tB_cX5_explains_5 0 rfl)
theorem dX5_explains_81 : decode cX5_explains 81 = .ok (.iaload, 1) := od_46 (od_at tB_cX5_explains_5 1 rfl)
theorem dX5_explains_82 : decode cX5_explains 82 = .ok (.istore 13, 2) := od_54 (od_at tB_cX5_explains_5 2 rfl) (od_at tB_cX5_explains_5 3 rfl) rfl
theorem dX5_explains_84 : decode cX5_explains 84 = .ok (.iload 13, 2) := od_21 (od_at tB_cX5_explains_5 4 rfl) (od_at tB_cX5_explains_5 5 rfl) rfl
theorem dX5_explains_86 : decode cX5_explains 86 = .ok (.ifCond .ne 18, 3) := od_154 (od_at tB_cX5_explains_5 6 rfl) (od_at tB_cX5_explains_5 7 rfl) (od_at tB_cX5_explains_5 8 rfl) (by decide +kernel)
theorem dX5_explains_89 : decode cX5_explains 89 = .ok (.lload 9, 2) := od_22 (od_at tB_cX5_explains_5 9 rfl) (od_at tB_cX5_explains_5 10 rfl) rfl
theorem dX5_explains_91 : decode cX5_explains 91 = .ok (.lload 11, 2) := od_22 (od_at tB_cX5_explains_5 11 rfl) (od_at tB_cX5_explains_5 12 rfl) rfl
theorem dX5_explains_93 : decode cX5_explains 93 = .ok (.lneg, 1) := od_117 (od_at tB_cX5_explains_5 13 rfl)
theorem dX5_explains_94 : decode cX5_explains 94 = .ok (.lload 11, 2) := od_22 (od_at tB_cX5_explains_5 14 rfl) (od_at tB_cX5_explains_5 15 rfl) rfl
theorem dX5_explains_96 : decode cX5_explains 96 = .ok (.invokestatic 101, 3) := od_184 (od_at tB_cX5_explains_6 0 rfl) (od_at tB_cX5_explains_6 1 rfl) (od_at tB_cX5_explains_6 2 rfl) rfl
theorem dX5_explains_99 : decode cX5_explains 99 = .ok (.ifCond .ne 5, 3) := od_154 (od_at tB_cX5_explains_6 3 rfl) (od_at tB_cX5_explains_6 4 rfl) (od_at tB_cX5_explains_6 5 rfl) (by decide +kernel)
theorem dX5_explains_102 : decode cX5_explains 102 = .ok (.lconst 0, 1) := od_9 (od_at tB_cX5_explains_6 6 rfl)
theorem dX5_explains_103 : decode cX5_explains 103 = .ok (.lreturn, 1) := od_173 (od_at tB_cX5_explains_6 7 rfl)
theorem dX5_explains_104 : decode cX5_explains 104 = .ok (.iload 13, 2) := od_21 (od_at tB_cX5_explains_6 8 rfl) (od_at tB_cX5_explains_6 9 rfl) rfl
theorem dX5_explains_106 : decode cX5_explains 106 = .ok (.ifCond .le 12, 3) := od_158 (od_at tB_cX5_explains_6 10 rfl) (od_at tB_cX5_explains_6 11 rfl) (od_at tB_cX5_explains_6 12 rfl) (by decide +kernel)
theorem dX5_explains_109 : decode cX5_explains 109 = .ok (.lload 11, 2) := od_22 (od_at tB_cX5_explains_6 13 rfl) (od_at tB_cX5_explains_6 14 rfl) rfl
theorem dX5_explains_111 : decode cX5_explains 111 = .ok (.lneg, 1) := od_117 (od_at tB_cX5_explains_6 15 rfl)
theorem dX5_explains_112 : decode cX5_explains 112 = .ok (.lload 9, 2) := od_22 (od_at tB_cX5_explains_7 0 rfl) (od_at tB_cX5_explains_7 1 rfl) rfl
theorem dX5_explains_114 : decode cX5_explains 114 = .ok (.lsub, 1) := od_101 (od_at tB_cX5_explains_7 2 rfl)
theorem dX5_explains_115 : decode cX5_explains 115 = .ok (.goto 8, 3) := od_167 (od_at tB_cX5_explains_7 3 rfl) (od_at tB_cX5_explains_7 4 rfl) (od_at tB_cX5_explains_7 5 rfl) (by decide +kernel)
theorem dX5_explains_118 : decode cX5_explains 118 = .ok (.lload 9, 2) := od_22 (od_at tB_cX5_explains_7 6 rfl) (od_at tB_cX5_explains_7 7 rfl) rfl
theorem dX5_explains_120 : decode cX5_explains 120 = .ok (.lload 11, 2) := od_22 (od_at tB_cX5_explains_7 8 rfl) (od_at tB_cX5_explains_7 9 rfl) rfl
theorem dX5_explains_122 : decode cX5_explains 122 = .ok (.lsub, 1) := od_101 (od_at tB_cX5_explains_7 10 rfl)
theorem dX5_explains_123 : decode cX5_explains 123 = .ok (.lstore 14, 2) := od_55 (od_at tB_cX5_explains_7 11 rfl) (od_at tB_cX5_explains_7 12 rfl) rfl
theorem dX5_explains_125 : decode cX5_explains 125 = .ok (.iload 13, 2) := od_21 (od_at tB_cX5_explains_7 13 rfl) (od_at tB_cX5_explains_7 14 rfl) rfl
theorem dX5_explains_127 : decode cX5_explains 127 = .ok (.ifCond .le 11, 3) := od_158 (od_at tB_cX5_explains_7 15 rfl) (od_at tB_cX5_explains_7 16 rfl) (od_at tB_cX5_explains_7 17 rfl) (by decide +kernel)
theorem dX5_explains_130 : decode cX5_explains 130 = .ok (.lload 11, 2) := od_22 (od_at tB_cX5_explains_8 2 rfl) (od_at tB_cX5_explains_8 3 rfl) rfl
theorem dX5_explains_132 : decode cX5_explains 132 = .ok (.lload 9, 2) := od_22 (od_at tB_cX5_explains_8 4 rfl) (od_at tB_cX5_explains_8 5 rfl) rfl
theorem dX5_explains_134 : decode cX5_explains 134 = .ok (.lsub, 1) := od_101 (od_at tB_cX5_explains_8 6 rfl)
theorem dX5_explains_135 : decode cX5_explains 135 = .ok (.goto 8, 3) := od_167 (od_at tB_cX5_explains_8 7 rfl) (od_at tB_cX5_explains_8 8 rfl) (od_at tB_cX5_explains_8 9 rfl) (by decide +kernel)
theorem dX5_explains_138 : decode cX5_explains 138 = .ok (.lload 9, 2) := od_22 (od_at tB_cX5_explains_8 10 rfl) (od_at tB_cX5_explains_8 11 rfl) rfl
theorem dX5_explains_140 : decode cX5_explains 140 = .ok (.lload 11, 2) := od_22 (od_at tB_cX5_explains_8 12 rfl) (od_at tB_cX5_explains_8 13 rfl) rfl
theorem dX5_explains_142 : decode cX5_explains 142 = .ok (.ladd, 1) := od_97 (od_at tB_cX5_explains_8 14 rfl)
theorem dX5_explains_143 : decode cX5_explains 143 = .ok (.lstore 16, 2) := od_55 (od_at tB_cX5_explains_8 15 rfl) (od_at tB_cX5_explains_8 16 rfl) rfl
theorem dX5_explains_145 : decode cX5_explains 145 = .ok (.iload 13, 2) := od_21 (od_at tB_cX5_explains_9 1 rfl) (od_at tB_cX5_explains_9 2 rfl) rfl
theorem dX5_explains_147 : decode cX5_explains 147 = .ok (.ifCond .eq 16, 3) := od_153 (od_at tB_cX5_explains_9 3 rfl) (od_at tB_cX5_explains_9 4 rfl) (od_at tB_cX5_explains_9 5 rfl) (by decide +kernel)
theorem dX5_explains_150 : decode cX5_explains 150 = .ok (.lload 14, 2) := od_22 (od_at tB_cX5_explains_9 6 rfl) (od_at tB_cX5_explains_9 7 rfl) rfl
theorem dX5_explains_152 : decode cX5_explains 152 = .ok (.lload 4, 2) := od_22 (od_at tB_cX5_explains_9 8 rfl) (od_at tB_cX5_explains_9 9 rfl) rfl
theorem dX5_explains_154 : decode cX5_explains 154 = .ok (.lcmp, 1) := od_148 (od_at tB_cX5_explains_9 10 rfl)
theorem dX5_explains_155 : decode cX5_explains 155 = .ok (.ifCond .le 8, 3) := od_158 (od_at tB_cX5_explains_9 11 rfl) (od_at tB_cX5_explains_9 12 rfl) (od_at tB_cX5_explains_9 13 rfl) (by decide +kernel)
theorem dX5_explains_158 : decode cX5_explains 158 = .ok (.lload 14, 2) := od_22 (od_at tB_cX5_explains_9 14 rfl) (od_at tB_cX5_explains_9 15 rfl) rfl
theorem dX5_explains_160 : decode cX5_explains 160 = .ok (.goto 5, 3) := od_167 (od_at tB_cX5_explains_10 0 rfl) (od_at tB_cX5_explains_10 1 rfl) (od_at tB_cX5_explains_10 2 rfl) (by decide +kernel)
theorem dX5_explains_163 : decode cX5_explains 163 = .ok (.lload 4, 2) := od_22 (od_at tB_cX5_explains_10 3 rfl) (od_at tB_cX5_explains_10 4 rfl) rfl
theorem dX5_explains_165 : decode cX5_explains 165 = .ok (.lstore 4, 2) := od_55 (od_at tB_cX5_explains_10 5 rfl) (od_at tB_cX5_explains_10 6 rfl) rfl
theorem dX5_explains_167 : decode cX5_explains 167 = .ok (.iload 13, 2) := od_21 (od_at tB_cX5_explains_10 7 rfl) (od_at tB_cX5_explains_10 8 rfl) rfl
theorem dX5_explains_169 : decode cX5_explains 169 = .ok (.ifCond .eq 16, 3) := od_153 (od_at tB_cX5_explains_10 9 rfl) (od_at tB_cX5_explains_10 10 rfl) (od_at tB_cX5_explains_10 11 rfl) (by decide +kernel)
theorem dX5_explains_172 : decode cX5_explains 172 = .ok (.lload 16, 2) := od_22 (od_at tB_cX5_explains_10 12 rfl) (od_at tB_cX5_explains_10 13 rfl) rfl
theorem dX5_explains_174 : decode cX5_explains 174 = .ok (.lload 6, 2) := od_22 (od_at tB_cX5_explains_10 14 rfl) (od_at tB_cX5_explains_10 15 rfl) rfl
theorem dX5_explains_176 : decode cX5_explains 176 = .ok (.lcmp, 1) := od_148 (od_at tB_cX5_explains_11 0 rfl)
theorem dX5_explains_177 : decode cX5_explains 177 = .ok (.ifCond .ge 8, 3) := od_156 (od_at tB_cX5_explains_11 1 rfl) (od_at tB_cX5_explains_11 2 rfl) (od_at tB_cX5_explains_11 3 rfl) (by decide +kernel)
theorem dX5_explains_180 : decode cX5_explains 180 = .ok (.lload 16, 2) := od_22 (od_at tB_cX5_explains_11 4 rfl) (od_at tB_cX5_explains_11 5 rfl) rfl
theorem dX5_explains_182 : decode cX5_explains 182 = .ok (.goto 5, 3) := od_167 (od_at tB_cX5_explains_11 6 rfl) (od_at tB_cX5_explains_11 7 rfl) (od_at tB_cX5_explains_11 8 rfl) (by decide +kernel)
theorem dX5_explains_185 : decode cX5_explains 185 = .ok (.lload 6, 2) := od_22 (od_at tB_cX5_explains_11 9 rfl) (od_at tB_cX5_explains_11 10 rfl) rfl
theorem dX5_explains_187 : decode cX5_explains 187 = .ok (.lstore 6, 2) := od_55 (od_at tB_cX5_explains_11 11 rfl) (od_at tB_cX5_explains_11 12 rfl) rfl
theorem dX5_explains_189 : decode cX5_explains 189 = .ok (.iinc 8 1, 3) := od_132 (od_at tB_cX5_explains_11 13 rfl) (od_at tB_cX5_explains_11 14 rfl) (od_at tB_cX5_explains_11 15 rfl) rfl (by decide +kernel)
theorem dX5_explains_192 : decode cX5_explains 192 = .ok (.goto (-148), 3) := od_167 (od_at tB_cX5_explains_12 0 rfl) (od_at tB_cX5_explains_12 1 rfl) (od_at tB_cX5_explains_12 2 rfl) (by decide +kernel)
theorem dX5_explains_195 : decode cX5_explains 195 = .ok (.lload 4, 2) := od_22 (od_at tB_cX5_explains_12 3 rfl) (od_at tB_cX5_explains_12 4 rfl) rfl
theorem dX5_explains_197 : decode cX5_explains 197 = .ok (.lload 6, 2) := od_22 (od_at tB_cX5_explains_12 5 rfl) (od_at tB_cX5_explains_12 6 rfl) rfl
theorem dX5_explains_199 : decode cX5_explains 199 = .ok (.lcmp, 1) := od_148 (od_at tB_cX5_explains_12 7 rfl)
theorem dX5_explains_200 : decode cX5_explains 200 = .ok (.ifCond .le 7, 3) := od_158 (od_at tB_cX5_explains_12 8 rfl) (od_at tB_cX5_explains_12 9 rfl) (od_at tB_cX5_explains_12 10 rfl) (by decide +kernel)
theorem dX5_explains_203 : decode cX5_explains 203 = .ok (.lconst 0, 1) := od_9 (od_at tB_cX5_explains_12 11 rfl)
theorem dX5_explains_204 : decode cX5_explains 204 = .ok (.goto 28, 3) := od_167 (od_at tB_cX5_explains_12 12 rfl) (od_at tB_cX5_explains_12 13 rfl) (od_at tB_cX5_explains_12 14 rfl) (by decide +kernel)
theorem dX5_explains_207 : decode cX5_explains 207 = .ok (.lload 4, 2) := od_22 (od_at tB_cX5_explains_12 15 rfl) (od_at tB_cX5_explains_12 16 rfl) rfl
theorem dX5_explains_209 : decode cX5_explains 209 = .ok (.lconst 0, 1) := od_9 (od_at tB_cX5_explains_13 1 rfl)
theorem dX5_explains_210 : decode cX5_explains 210 = .ok (.lcmp, 1) := od_148 (od_at tB_cX5_explains_13 2 rfl)
theorem dX5_explains_211 : decode cX5_explains 211 = .ok (.ifCond .le 8, 3) := od_158 (od_at tB_cX5_explains_13 3 rfl) (od_at tB_cX5_explains_13 4 rfl) (od_at tB_cX5_explains_13 5 rfl) (by decide +kernel)
theorem dX5_explains_214 : decode cX5_explains 214 = .ok (.lload 4, 2) := od_22 (od_at tB_cX5_explains_13 6 rfl) (od_at tB_cX5_explains_13 7 rfl) rfl
theorem dX5_explains_216 : decode cX5_explains 216 = .ok (.goto 16, 3) := od_167 (od_at tB_cX5_explains_13 8 rfl) (od_at tB_cX5_explains_13 9 rfl) (od_at tB_cX5_explains_13 10 rfl) (by decide +kernel)
theorem dX5_explains_219 : decode cX5_explains 219 = .ok (.lload 6, 2) := od_22 (od_at tB_cX5_explains_13 11 rfl) (od_at tB_cX5_explains_13 12 rfl) rfl
theorem dX5_explains_221 : decode cX5_explains 221 = .ok (.lconst 0, 1) := od_9 (od_at tB_cX5_explains_13 13 rfl)
theorem dX5_explains_222 : decode cX5_explains 222 = .ok (.lcmp, 1) := od_148 (od_at tB_cX5_explains_13 14 rfl)
theorem dX5_explains_223 : decode cX5_explains 223 = .ok (.ifCond .ge 8, 3) := od_156 (od_at tB_cX5_explains_13 15 rfl) (od_at tB_cX5_explains_13 16 rfl) (od_at tB_cX5_explains_13 17 rfl) (by decide +kernel)
theorem dX5_explains_226 : decode cX5_explains 226 = .ok (.lload 6, 2) := od_22 (od_at tB_cX5_explains_14 2 rfl) (od_at tB_cX5_explains_14 3 rfl) rfl
theorem dX5_explains_228 : decode cX5_explains 228 = .ok (.goto 4, 3) := od_167 (od_at tB_cX5_explains_14 4 rfl) (od_at tB_cX5_explains_14 5 rfl) (od_at tB_cX5_explains_14 6 rfl) (by decide +kernel)
theorem dX5_explains_231 : decode cX5_explains 231 = .ok (.lconst 0, 1) := od_9 (od_at tB_cX5_explains_14 7 rfl)
theorem dX5_explains_232 : decode cX5_explains 232 = .ok (.lreturn, 1) := od_173 (od_at tB_cX5_explains_14 8 rfl)
def RB_cX5_noSheet_1 : List UInt8 := 0x03 :: 0xac :: []
def RB_cX5_noSheet_0 : List UInt8 := 0x1a :: 0x85 :: 0x09 :: 0x14 :: 0x00 :: 0xa4 :: 0xb8 :: 0x00 :: 0x65 :: 0x9a :: 0x00 :: 0x07 :: 0x04 :: 0xa7 :: 0x00 :: 0x04 :: RB_cX5_noSheet_1
theorem tB_cX5_noSheet_0 : cX5_noSheet.data.toList.drop 0 = RB_cX5_noSheet_0 := by decide +kernel
theorem tB_cX5_noSheet_1 : cX5_noSheet.data.toList.drop 16 = RB_cX5_noSheet_1 := od_st tB_cX5_noSheet_0 16 rfl
theorem dX5_noSheet_0 : decode cX5_noSheet 0 = .ok (.iload_n 0, 1) := od_26 (od_at tB_cX5_noSheet_0 0 rfl)
theorem dX5_noSheet_1 : decode cX5_noSheet 1 = .ok (.i2l, 1) := od_133 (od_at tB_cX5_noSheet_0 1 rfl)
theorem dX5_noSheet_2 : decode cX5_noSheet 2 = .ok (.lconst 0, 1) := od_9 (od_at tB_cX5_noSheet_0 2 rfl)
theorem dX5_noSheet_3 : decode cX5_noSheet 3 = .ok (.ldc2_w 164, 3) := od_20 (od_at tB_cX5_noSheet_0 3 rfl) (od_at tB_cX5_noSheet_0 4 rfl) (od_at tB_cX5_noSheet_0 5 rfl) rfl
theorem dX5_noSheet_6 : decode cX5_noSheet 6 = .ok (.invokestatic 101, 3) := od_184 (od_at tB_cX5_noSheet_0 6 rfl) (od_at tB_cX5_noSheet_0 7 rfl) (od_at tB_cX5_noSheet_0 8 rfl) rfl
theorem dX5_noSheet_9 : decode cX5_noSheet 9 = .ok (.ifCond .ne 7, 3) := od_154 (od_at tB_cX5_noSheet_0 9 rfl) (od_at tB_cX5_noSheet_0 10 rfl) (od_at tB_cX5_noSheet_0 11 rfl) (by decide +kernel)
theorem dX5_noSheet_12 : decode cX5_noSheet 12 = .ok (.iconst 1, 1) := od_4 (od_at tB_cX5_noSheet_0 12 rfl)
theorem dX5_noSheet_13 : decode cX5_noSheet 13 = .ok (.goto 4, 3) := od_167 (od_at tB_cX5_noSheet_0 13 rfl) (od_at tB_cX5_noSheet_0 14 rfl) (od_at tB_cX5_noSheet_0 15 rfl) (by decide +kernel)
theorem dX5_noSheet_16 : decode cX5_noSheet 16 = .ok (.iconst 0, 1) := od_3 (od_at tB_cX5_noSheet_1 0 rfl)
theorem dX5_noSheet_17 : decode cX5_noSheet 17 = .ok (.ireturn, 1) := od_172 (od_at tB_cX5_noSheet_1 1 rfl)
def RB_cX5_sheet_5 : List UInt8 := 0x04 :: 0x60 :: 0x03 :: 0x4f :: 0x84 :: 0x04 :: 0x01 :: 0xa7 :: 0xff :: 0xea :: 0x2a :: 0x04 :: 0xb6 :: 0x00 :: 0xe9 :: 0xac :: []
def RB_cX5_sheet_4 : List UInt8 := 0x04 :: 0x15 :: 0x04 :: 0x1d :: 0xa2 :: 0x00 :: 0x16 :: 0x2a :: 0xb4 :: 0x00 :: 0x4a :: 0x10 :: 0x3c :: 0x1b :: 0x68 :: 0x15 :: RB_cX5_sheet_5
def RB_cX5_sheet_3 : List UInt8 := 0x2a :: 0xb4 :: 0x00 :: 0x44 :: 0x1b :: 0x1d :: 0x4f :: 0x2a :: 0xb4 :: 0x00 :: 0x47 :: 0x1b :: 0x1c :: 0x4f :: 0x03 :: 0x36 :: RB_cX5_sheet_4
def RB_cX5_sheet_2 : List UInt8 := 0x10 :: 0xfe :: 0xb6 :: 0x00 :: 0xe9 :: 0xac :: 0x1d :: 0x9c :: 0x00 :: 0x09 :: 0x2a :: 0x07 :: 0xb6 :: 0x00 :: 0xed :: 0xac :: RB_cX5_sheet_3
def RB_cX5_sheet_1 : List UInt8 := 0x14 :: 0x00 :: 0x60 :: 0xb8 :: 0x00 :: 0x65 :: 0x99 :: 0x00 :: 0x09 :: 0x1d :: 0x10 :: 0x3c :: 0xa4 :: 0x00 :: 0x0a :: 0x2a :: RB_cX5_sheet_2
def RB_cX5_sheet_0 : List UInt8 := 0x1b :: 0xb8 :: 0x00 :: 0xe6 :: 0x99 :: 0x00 :: 0x09 :: 0x2a :: 0x02 :: 0xb6 :: 0x00 :: 0xe9 :: 0xac :: 0x1c :: 0x85 :: 0x09 :: RB_cX5_sheet_1
theorem tB_cX5_sheet_0 : cX5_sheet.data.toList.drop 0 = RB_cX5_sheet_0 := by decide +kernel
theorem tB_cX5_sheet_1 : cX5_sheet.data.toList.drop 16 = RB_cX5_sheet_1 := od_st tB_cX5_sheet_0 16 rfl
theorem tB_cX5_sheet_2 : cX5_sheet.data.toList.drop 32 = RB_cX5_sheet_2 := od_st tB_cX5_sheet_1 16 rfl
theorem tB_cX5_sheet_3 : cX5_sheet.data.toList.drop 48 = RB_cX5_sheet_3 := od_st tB_cX5_sheet_2 16 rfl
theorem tB_cX5_sheet_4 : cX5_sheet.data.toList.drop 64 = RB_cX5_sheet_4 := od_st tB_cX5_sheet_3 16 rfl
theorem tB_cX5_sheet_5 : cX5_sheet.data.toList.drop 80 = RB_cX5_sheet_5 := od_st tB_cX5_sheet_4 16 rfl
theorem dX5_sheet_0 : decode cX5_sheet 0 = .ok (.iload_n 1, 1) := od_27 (od_at tB_cX5_sheet_0 0 rfl)
theorem dX5_sheet_1 : decode cX5_sheet 1 = .ok (.invokestatic 230, 3) := od_184 (od_at tB_cX5_sheet_0 1 rfl) (od_at tB_cX5_sheet_0 2 rfl) (od_at tB_cX5_sheet_0 3 rfl) rfl
theorem dX5_sheet_4 : decode cX5_sheet 4 = .ok (.ifCond .eq 9, 3) := od_153 (od_at tB_cX5_sheet_0 4 rfl) (od_at tB_cX5_sheet_0 5 rfl) (od_at tB_cX5_sheet_0 6 rfl) (by decide +kernel)
theorem dX5_sheet_7 : decode cX5_sheet 7 = .ok (.aload_n 0, 1) := od_42 (od_at tB_cX5_sheet_0 7 rfl)
theorem dX5_sheet_8 : decode cX5_sheet 8 = .ok (.iconst (-1), 1) := od_2 (od_at tB_cX5_sheet_0 8 rfl)
theorem dX5_sheet_9 : decode cX5_sheet 9 = .ok (.invokevirtual 233, 3) := od_182 (od_at tB_cX5_sheet_0 9 rfl) (od_at tB_cX5_sheet_0 10 rfl) (od_at tB_cX5_sheet_0 11 rfl) rfl
theorem dX5_sheet_12 : decode cX5_sheet 12 = .ok (.ireturn, 1) := od_172 (od_at tB_cX5_sheet_0 12 rfl)
theorem dX5_sheet_13 : decode cX5_sheet 13 = .ok (.iload_n 2, 1) := od_28 (od_at tB_cX5_sheet_0 13 rfl)
theorem dX5_sheet_14 : decode cX5_sheet 14 = .ok (.i2l, 1) := od_133 (od_at tB_cX5_sheet_0 14 rfl)
theorem dX5_sheet_15 : decode cX5_sheet 15 = .ok (.lconst 0, 1) := od_9 (od_at tB_cX5_sheet_0 15 rfl)
theorem dX5_sheet_16 : decode cX5_sheet 16 = .ok (.ldc2_w 96, 3) := od_20 (od_at tB_cX5_sheet_1 0 rfl) (od_at tB_cX5_sheet_1 1 rfl) (od_at tB_cX5_sheet_1 2 rfl) rfl
theorem dX5_sheet_19 : decode cX5_sheet 19 = .ok (.invokestatic 101, 3) := od_184 (od_at tB_cX5_sheet_1 3 rfl) (od_at tB_cX5_sheet_1 4 rfl) (od_at tB_cX5_sheet_1 5 rfl) rfl
theorem dX5_sheet_22 : decode cX5_sheet 22 = .ok (.ifCond .eq 9, 3) := od_153 (od_at tB_cX5_sheet_1 6 rfl) (od_at tB_cX5_sheet_1 7 rfl) (od_at tB_cX5_sheet_1 8 rfl) (by decide +kernel)
theorem dX5_sheet_25 : decode cX5_sheet 25 = .ok (.iload_n 3, 1) := od_29 (od_at tB_cX5_sheet_1 9 rfl)
theorem dX5_sheet_26 : decode cX5_sheet 26 = .ok (.bipush 60, 2) := od_16 (od_at tB_cX5_sheet_1 10 rfl) (od_at tB_cX5_sheet_1 11 rfl) (by decide +kernel)
theorem dX5_sheet_28 : decode cX5_sheet 28 = .ok (.if_icmp .le 10, 3) := od_164 (od_at tB_cX5_sheet_1 12 rfl) (od_at tB_cX5_sheet_1 13 rfl) (od_at tB_cX5_sheet_1 14 rfl) (by decide +kernel)
theorem dX5_sheet_31 : decode cX5_sheet 31 = .ok (.aload_n 0, 1) := od_42 (od_at tB_cX5_sheet_1 15 rfl)
theorem dX5_sheet_32 : decode cX5_sheet 32 = .ok (.bipush (-2), 2) := od_16 (od_at tB_cX5_sheet_2 0 rfl) (od_at tB_cX5_sheet_2 1 rfl) (by decide +kernel)
theorem dX5_sheet_34 : decode cX5_sheet 34 = .ok (.invokevirtual 233, 3) := od_182 (od_at tB_cX5_sheet_2 2 rfl) (od_at tB_cX5_sheet_2 3 rfl) (od_at tB_cX5_sheet_2 4 rfl) rfl
theorem dX5_sheet_37 : decode cX5_sheet 37 = .ok (.ireturn, 1) := od_172 (od_at tB_cX5_sheet_2 5 rfl)
theorem dX5_sheet_38 : decode cX5_sheet 38 = .ok (.iload_n 3, 1) := od_29 (od_at tB_cX5_sheet_2 6 rfl)
theorem dX5_sheet_39 : decode cX5_sheet 39 = .ok (.ifCond .ge 9, 3) := od_156 (od_at tB_cX5_sheet_2 7 rfl) (od_at tB_cX5_sheet_2 8 rfl) (od_at tB_cX5_sheet_2 9 rfl) (by decide +kernel)
theorem dX5_sheet_42 : decode cX5_sheet 42 = .ok (.aload_n 0, 1) := od_42 (od_at tB_cX5_sheet_2 10 rfl)
theorem dX5_sheet_43 : decode cX5_sheet 43 = .ok (.iconst 4, 1) := od_7 (od_at tB_cX5_sheet_2 11 rfl)
theorem dX5_sheet_44 : decode cX5_sheet 44 = .ok (.invokevirtual 237, 3) := od_182 (od_at tB_cX5_sheet_2 12 rfl) (od_at tB_cX5_sheet_2 13 rfl) (od_at tB_cX5_sheet_2 14 rfl) rfl
theorem dX5_sheet_47 : decode cX5_sheet 47 = .ok (.ireturn, 1) := od_172 (od_at tB_cX5_sheet_2 15 rfl)
theorem dX5_sheet_48 : decode cX5_sheet 48 = .ok (.aload_n 0, 1) := od_42 (od_at tB_cX5_sheet_3 0 rfl)
theorem dX5_sheet_49 : decode cX5_sheet 49 = .ok (.getfield 68, 3) := od_180 (od_at tB_cX5_sheet_3 1 rfl) (od_at tB_cX5_sheet_3 2 rfl) (od_at tB_cX5_sheet_3 3 rfl) rfl
theorem dX5_sheet_52 : decode cX5_sheet 52 = .ok (.iload_n 1, 1) := od_27 (od_at tB_cX5_sheet_3 4 rfl)
theorem dX5_sheet_53 : decode cX5_sheet 53 = .ok (.iload_n 3, 1) := od_29 (od_at tB_cX5_sheet_3 5 rfl)
theorem dX5_sheet_54 : decode cX5_sheet 54 = .ok (.iastore, 1) := od_79 (od_at tB_cX5_sheet_3 6 rfl)
theorem dX5_sheet_55 : decode cX5_sheet 55 = .ok (.aload_n 0, 1) := od_42 (od_at tB_cX5_sheet_3 7 rfl)
theorem dX5_sheet_56 : decode cX5_sheet 56 = .ok (.getfield 71, 3) := od_180 (od_at tB_cX5_sheet_3 8 rfl) (od_at tB_cX5_sheet_3 9 rfl) (od_at tB_cX5_sheet_3 10 rfl) rfl
theorem dX5_sheet_59 : decode cX5_sheet 59 = .ok (.iload_n 1, 1) := od_27 (od_at tB_cX5_sheet_3 11 rfl)
theorem dX5_sheet_60 : decode cX5_sheet 60 = .ok (.iload_n 2, 1) := od_28 (od_at tB_cX5_sheet_3 12 rfl)
theorem dX5_sheet_61 : decode cX5_sheet 61 = .ok (.iastore, 1) := od_79 (od_at tB_cX5_sheet_3 13 rfl)
theorem dX5_sheet_62 : decode cX5_sheet 62 = .ok (.iconst 0, 1) := od_3 (od_at tB_cX5_sheet_3 14 rfl)
theorem dX5_sheet_63 : decode cX5_sheet 63 = .ok (.istore 4, 2) := od_54 (od_at tB_cX5_sheet_3 15 rfl) (od_at tB_cX5_sheet_3 16 rfl) rfl
theorem dX5_sheet_65 : decode cX5_sheet 65 = .ok (.iload 4, 2) := od_21 (od_at tB_cX5_sheet_4 1 rfl) (od_at tB_cX5_sheet_4 2 rfl) rfl
theorem dX5_sheet_67 : decode cX5_sheet 67 = .ok (.iload_n 3, 1) := od_29 (od_at tB_cX5_sheet_4 3 rfl)
theorem dX5_sheet_68 : decode cX5_sheet 68 = .ok (.if_icmp .ge 22, 3) := od_162 (od_at tB_cX5_sheet_4 4 rfl) (od_at tB_cX5_sheet_4 5 rfl) (od_at tB_cX5_sheet_4 6 rfl) (by decide +kernel)
theorem dX5_sheet_71 : decode cX5_sheet 71 = .ok (.aload_n 0, 1) := od_42 (od_at tB_cX5_sheet_4 7 rfl)
theorem dX5_sheet_72 : decode cX5_sheet 72 = .ok (.getfield 74, 3) := od_180 (od_at tB_cX5_sheet_4 8 rfl) (od_at tB_cX5_sheet_4 9 rfl) (od_at tB_cX5_sheet_4 10 rfl) rfl
theorem dX5_sheet_75 : decode cX5_sheet 75 = .ok (.bipush 60, 2) := od_16 (od_at tB_cX5_sheet_4 11 rfl) (od_at tB_cX5_sheet_4 12 rfl) (by decide +kernel)
theorem dX5_sheet_77 : decode cX5_sheet 77 = .ok (.iload_n 1, 1) := od_27 (od_at tB_cX5_sheet_4 13 rfl)
theorem dX5_sheet_78 : decode cX5_sheet 78 = .ok (.imul, 1) := od_104 (od_at tB_cX5_sheet_4 14 rfl)
theorem dX5_sheet_79 : decode cX5_sheet 79 = .ok (.iload 4, 2) := od_21 (od_at tB_cX5_sheet_4 15 rfl) (od_at tB_cX5_sheet_4 16 rfl) rfl
theorem dX5_sheet_81 : decode cX5_sheet 81 = .ok (.iadd, 1) := od_96 (od_at tB_cX5_sheet_5 1 rfl)
theorem dX5_sheet_82 : decode cX5_sheet 82 = .ok (.iconst 0, 1) := od_3 (od_at tB_cX5_sheet_5 2 rfl)
theorem dX5_sheet_83 : decode cX5_sheet 83 = .ok (.iastore, 1) := od_79 (od_at tB_cX5_sheet_5 3 rfl)
theorem dX5_sheet_84 : decode cX5_sheet 84 = .ok (.iinc 4 1, 3) := od_132 (od_at tB_cX5_sheet_5 4 rfl) (od_at tB_cX5_sheet_5 5 rfl) (od_at tB_cX5_sheet_5 6 rfl) rfl (by decide +kernel)
theorem dX5_sheet_87 : decode cX5_sheet 87 = .ok (.goto (-22), 3) := od_167 (od_at tB_cX5_sheet_5 7 rfl) (od_at tB_cX5_sheet_5 8 rfl) (od_at tB_cX5_sheet_5 9 rfl) (by decide +kernel)
theorem dX5_sheet_90 : decode cX5_sheet 90 = .ok (.aload_n 0, 1) := od_42 (od_at tB_cX5_sheet_5 10 rfl)
theorem dX5_sheet_91 : decode cX5_sheet 91 = .ok (.iconst 1, 1) := od_4 (od_at tB_cX5_sheet_5 11 rfl)
theorem dX5_sheet_92 : decode cX5_sheet 92 = .ok (.invokevirtual 233, 3) := od_182 (od_at tB_cX5_sheet_5 12 rfl) (od_at tB_cX5_sheet_5 13 rfl) (od_at tB_cX5_sheet_5 14 rfl) rfl
theorem dX5_sheet_95 : decode cX5_sheet 95 = .ok (.ireturn, 1) := od_172 (od_at tB_cX5_sheet_5 15 rfl)
def RB_cX5_lose_2 : List UInt8 := 0xac :: []
def RB_cX5_lose_1 : List UInt8 := 0x00 :: 0x07 :: 0x03 :: 0xa7 :: 0x00 :: 0x04 :: 0x04 :: 0x3d :: 0x2a :: 0xb4 :: 0x00 :: 0x44 :: 0x1b :: 0x02 :: 0x4f :: 0x1c :: RB_cX5_lose_2
def RB_cX5_lose_0 : List UInt8 := 0x1b :: 0xb8 :: 0x00 :: 0xe6 :: 0x99 :: 0x00 :: 0x05 :: 0x02 :: 0xac :: 0x2a :: 0xb4 :: 0x00 :: 0x44 :: 0x1b :: 0x2e :: 0x9c :: RB_cX5_lose_1
theorem tB_cX5_lose_0 : cX5_lose.data.toList.drop 0 = RB_cX5_lose_0 := by decide +kernel
theorem tB_cX5_lose_1 : cX5_lose.data.toList.drop 16 = RB_cX5_lose_1 := od_st tB_cX5_lose_0 16 rfl
theorem tB_cX5_lose_2 : cX5_lose.data.toList.drop 32 = RB_cX5_lose_2 := od_st tB_cX5_lose_1 16 rfl
theorem dX5_lose_0 : decode cX5_lose 0 = .ok (.iload_n 1, 1) := od_27 (od_at tB_cX5_lose_0 0 rfl)
theorem dX5_lose_1 : decode cX5_lose 1 = .ok (.invokestatic 230, 3) := od_184 (od_at tB_cX5_lose_0 1 rfl) (od_at tB_cX5_lose_0 2 rfl) (od_at tB_cX5_lose_0 3 rfl) rfl
theorem dX5_lose_4 : decode cX5_lose 4 = .ok (.ifCond .eq 5, 3) := od_153 (od_at tB_cX5_lose_0 4 rfl) (od_at tB_cX5_lose_0 5 rfl) (od_at tB_cX5_lose_0 6 rfl) (by decide +kernel)
theorem dX5_lose_7 : decode cX5_lose 7 = .ok (.iconst (-1), 1) := od_2 (od_at tB_cX5_lose_0 7 rfl)
theorem dX5_lose_8 : decode cX5_lose 8 = .ok (.ireturn, 1) := od_172 (od_at tB_cX5_lose_0 8 rfl)
theorem dX5_lose_9 : decode cX5_lose 9 = .ok (.aload_n 0, 1) := od_42 (od_at tB_cX5_lose_0 9 rfl)
theorem dX5_lose_10 : decode cX5_lose 10 = .ok (.getfield 68, 3) := od_180 (od_at tB_cX5_lose_0 10 rfl) (od_at tB_cX5_lose_0 11 rfl) (od_at tB_cX5_lose_0 12 rfl) rfl
theorem dX5_lose_13 : decode cX5_lose 13 = .ok (.iload_n 1, 1) := od_27 (od_at tB_cX5_lose_0 13 rfl)
theorem dX5_lose_14 : decode cX5_lose 14 = .ok (.iaload, 1) := od_46 (od_at tB_cX5_lose_0 14 rfl)
theorem dX5_lose_15 : decode cX5_lose 15 = .ok (.ifCond .ge 7, 3) := od_156 (od_at tB_cX5_lose_0 15 rfl) (od_at tB_cX5_lose_0 16 rfl) (od_at tB_cX5_lose_0 17 rfl) (by decide +kernel)
theorem dX5_lose_18 : decode cX5_lose 18 = .ok (.iconst 0, 1) := od_3 (od_at tB_cX5_lose_1 2 rfl)
theorem dX5_lose_19 : decode cX5_lose 19 = .ok (.goto 4, 3) := od_167 (od_at tB_cX5_lose_1 3 rfl) (od_at tB_cX5_lose_1 4 rfl) (od_at tB_cX5_lose_1 5 rfl) (by decide +kernel)
theorem dX5_lose_22 : decode cX5_lose 22 = .ok (.iconst 1, 1) := od_4 (od_at tB_cX5_lose_1 6 rfl)
theorem dX5_lose_23 : decode cX5_lose 23 = .ok (.istore_n 2, 1) := od_61 (od_at tB_cX5_lose_1 7 rfl)
theorem dX5_lose_24 : decode cX5_lose 24 = .ok (.aload_n 0, 1) := od_42 (od_at tB_cX5_lose_1 8 rfl)
theorem dX5_lose_25 : decode cX5_lose 25 = .ok (.getfield 68, 3) := od_180 (od_at tB_cX5_lose_1 9 rfl) (od_at tB_cX5_lose_1 10 rfl) (od_at tB_cX5_lose_1 11 rfl) rfl
theorem dX5_lose_28 : decode cX5_lose 28 = .ok (.iload_n 1, 1) := od_27 (od_at tB_cX5_lose_1 12 rfl)
theorem dX5_lose_29 : decode cX5_lose 29 = .ok (.iconst (-1), 1) := od_2 (od_at tB_cX5_lose_1 13 rfl)
theorem dX5_lose_30 : decode cX5_lose 30 = .ok (.iastore, 1) := od_79 (od_at tB_cX5_lose_1 14 rfl)
theorem dX5_lose_31 : decode cX5_lose 31 = .ok (.iload_n 2, 1) := od_28 (od_at tB_cX5_lose_1 15 rfl)
theorem dX5_lose_32 : decode cX5_lose 32 = .ok (.ireturn, 1) := od_172 (od_at tB_cX5_lose_2 0 rfl)
def RB_cX5_noCell_2 : List UInt8 := 0xa7 :: 0x00 :: 0x04 :: 0x06 :: 0xac :: []
def RB_cX5_noCell_1 : List UInt8 := 0x2a :: 0xb4 :: 0x00 :: 0x44 :: 0x1b :: 0x2e :: 0x85 :: 0x0a :: 0x65 :: 0xb8 :: 0x00 :: 0x65 :: 0x99 :: 0x00 :: 0x07 :: 0x03 :: RB_cX5_noCell_2
def RB_cX5_noCell_0 : List UInt8 := 0x2a :: 0xb4 :: 0x00 :: 0x44 :: 0x1b :: 0x2e :: 0x9c :: 0x00 :: 0x07 :: 0x04 :: 0xa7 :: 0x00 :: 0x1a :: 0x1c :: 0x85 :: 0x09 :: RB_cX5_noCell_1
theorem tB_cX5_noCell_0 : cX5_noCell.data.toList.drop 0 = RB_cX5_noCell_0 := by decide +kernel
theorem tB_cX5_noCell_1 : cX5_noCell.data.toList.drop 16 = RB_cX5_noCell_1 := od_st tB_cX5_noCell_0 16 rfl
theorem tB_cX5_noCell_2 : cX5_noCell.data.toList.drop 32 = RB_cX5_noCell_2 := od_st tB_cX5_noCell_1 16 rfl
theorem dX5_noCell_0 : decode cX5_noCell 0 = .ok (.aload_n 0, 1) := od_42 (od_at tB_cX5_noCell_0 0 rfl)
theorem dX5_noCell_1 : decode cX5_noCell 1 = .ok (.getfield 68, 3) := od_180 (od_at tB_cX5_noCell_0 1 rfl) (od_at tB_cX5_noCell_0 2 rfl) (od_at tB_cX5_noCell_0 3 rfl) rfl
theorem dX5_noCell_4 : decode cX5_noCell 4 = .ok (.iload_n 1, 1) := od_27 (od_at tB_cX5_noCell_0 4 rfl)
theorem dX5_noCell_5 : decode cX5_noCell 5 = .ok (.iaload, 1) := od_46 (od_at tB_cX5_noCell_0 5 rfl)
theorem dX5_noCell_6 : decode cX5_noCell 6 = .ok (.ifCond .ge 7, 3) := od_156 (od_at tB_cX5_noCell_0 6 rfl) (od_at tB_cX5_noCell_0 7 rfl) (od_at tB_cX5_noCell_0 8 rfl) (by decide +kernel)
theorem dX5_noCell_9 : decode cX5_noCell 9 = .ok (.iconst 1, 1) := od_4 (od_at tB_cX5_noCell_0 9 rfl)
theorem dX5_noCell_10 : decode cX5_noCell 10 = .ok (.goto 26, 3) := od_167 (od_at tB_cX5_noCell_0 10 rfl) (od_at tB_cX5_noCell_0 11 rfl) (od_at tB_cX5_noCell_0 12 rfl) (by decide +kernel)
theorem dX5_noCell_13 : decode cX5_noCell 13 = .ok (.iload_n 2, 1) := od_28 (od_at tB_cX5_noCell_0 13 rfl)
theorem dX5_noCell_14 : decode cX5_noCell 14 = .ok (.i2l, 1) := od_133 (od_at tB_cX5_noCell_0 14 rfl)
theorem dX5_noCell_15 : decode cX5_noCell 15 = .ok (.lconst 0, 1) := od_9 (od_at tB_cX5_noCell_0 15 rfl)
theorem dX5_noCell_16 : decode cX5_noCell 16 = .ok (.aload_n 0, 1) := od_42 (od_at tB_cX5_noCell_1 0 rfl)
theorem dX5_noCell_17 : decode cX5_noCell 17 = .ok (.getfield 68, 3) := od_180 (od_at tB_cX5_noCell_1 1 rfl) (od_at tB_cX5_noCell_1 2 rfl) (od_at tB_cX5_noCell_1 3 rfl) rfl
theorem dX5_noCell_20 : decode cX5_noCell 20 = .ok (.iload_n 1, 1) := od_27 (od_at tB_cX5_noCell_1 4 rfl)
theorem dX5_noCell_21 : decode cX5_noCell 21 = .ok (.iaload, 1) := od_46 (od_at tB_cX5_noCell_1 5 rfl)
theorem dX5_noCell_22 : decode cX5_noCell 22 = .ok (.i2l, 1) := od_133 (od_at tB_cX5_noCell_1 6 rfl)
theorem dX5_noCell_23 : decode cX5_noCell 23 = .ok (.lconst 1, 1) := od_10 (od_at tB_cX5_noCell_1 7 rfl)
theorem dX5_noCell_24 : decode cX5_noCell 24 = .ok (.lsub, 1) := od_101 (od_at tB_cX5_noCell_1 8 rfl)
theorem dX5_noCell_25 : decode cX5_noCell 25 = .ok (.invokestatic 101, 3) := od_184 (od_at tB_cX5_noCell_1 9 rfl) (od_at tB_cX5_noCell_1 10 rfl) (od_at tB_cX5_noCell_1 11 rfl) rfl
theorem dX5_noCell_28 : decode cX5_noCell 28 = .ok (.ifCond .eq 7, 3) := od_153 (od_at tB_cX5_noCell_1 12 rfl) (od_at tB_cX5_noCell_1 13 rfl) (od_at tB_cX5_noCell_1 14 rfl) (by decide +kernel)
theorem dX5_noCell_31 : decode cX5_noCell 31 = .ok (.iconst 0, 1) := od_3 (od_at tB_cX5_noCell_1 15 rfl)
theorem dX5_noCell_32 : decode cX5_noCell 32 = .ok (.goto 4, 3) := od_167 (od_at tB_cX5_noCell_2 0 rfl) (od_at tB_cX5_noCell_2 1 rfl) (od_at tB_cX5_noCell_2 2 rfl) (by decide +kernel)
theorem dX5_noCell_35 : decode cX5_noCell 35 = .ok (.iconst 3, 1) := od_6 (od_at tB_cX5_noCell_2 3 rfl)
theorem dX5_noCell_36 : decode cX5_noCell 36 = .ok (.ireturn, 1) := od_172 (od_at tB_cX5_noCell_2 4 rfl)
def RB_cX5_put_4 : List UInt8 := 0xa0 :: 0x00 :: 0x08 :: 0x1d :: 0x93 :: 0xa7 :: 0x00 :: 0x04 :: 0x1d :: 0x4f :: 0x2a :: 0x04 :: 0xb6 :: 0x00 :: 0xe9 :: 0xac :: []
def RB_cX5_put_3 : List UInt8 := 0x2e :: 0x9a :: 0x00 :: 0x08 :: 0x1d :: 0x91 :: 0xa7 :: 0x00 :: 0x13 :: 0x2a :: 0xb4 :: 0x00 :: 0x47 :: 0x1b :: 0x2e :: 0x04 :: RB_cX5_put_4
def RB_cX5_put_2 : List UInt8 := 0xac :: 0x2a :: 0xb4 :: 0x00 :: 0x4a :: 0x10 :: 0x3c :: 0x1b :: 0x68 :: 0x1c :: 0x60 :: 0x2a :: 0xb4 :: 0x00 :: 0x47 :: 0x1b :: RB_cX5_put_3
def RB_cX5_put_1 : List UInt8 := 0xb6 :: 0x00 :: 0xf0 :: 0x9e :: 0x00 :: 0x0e :: 0x2a :: 0x2a :: 0x1b :: 0x1c :: 0xb6 :: 0x00 :: 0xf0 :: 0xb6 :: 0x00 :: 0xed :: RB_cX5_put_2
def RB_cX5_put_0 : List UInt8 := 0x1b :: 0xb8 :: 0x00 :: 0xe6 :: 0x99 :: 0x00 :: 0x09 :: 0x2a :: 0x02 :: 0xb6 :: 0x00 :: 0xe9 :: 0xac :: 0x2a :: 0x1b :: 0x1c :: RB_cX5_put_1
theorem tB_cX5_put_0 : cX5_put.data.toList.drop 0 = RB_cX5_put_0 := by decide +kernel
theorem tB_cX5_put_1 : cX5_put.data.toList.drop 16 = RB_cX5_put_1 := od_st tB_cX5_put_0 16 rfl
theorem tB_cX5_put_2 : cX5_put.data.toList.drop 32 = RB_cX5_put_2 := od_st tB_cX5_put_1 16 rfl
theorem tB_cX5_put_3 : cX5_put.data.toList.drop 48 = RB_cX5_put_3 := od_st tB_cX5_put_2 16 rfl
theorem tB_cX5_put_4 : cX5_put.data.toList.drop 64 = RB_cX5_put_4 := od_st tB_cX5_put_3 16 rfl
theorem dX5_put_0 : decode cX5_put 0 = .ok (.iload_n 1, 1) := od_27 (od_at tB_cX5_put_0 0 rfl)
theorem dX5_put_1 : decode cX5_put 1 = .ok (.invokestatic 230, 3) := od_184 (od_at tB_cX5_put_0 1 rfl) (od_at tB_cX5_put_0 2 rfl) (od_at tB_cX5_put_0 3 rfl) rfl
theorem dX5_put_4 : decode cX5_put 4 = .ok (.ifCond .eq 9, 3) := od_153 (od_at tB_cX5_put_0 4 rfl) (od_at tB_cX5_put_0 5 rfl) (od_at tB_cX5_put_0 6 rfl) (by decide +kernel)
theorem dX5_put_7 : decode cX5_put 7 = .ok (.aload_n 0, 1) := od_42 (od_at tB_cX5_put_0 7 rfl)
theorem dX5_put_8 : decode cX5_put 8 = .ok (.iconst (-1), 1) := od_2 (od_at tB_cX5_put_0 8 rfl)
theorem dX5_put_9 : decode cX5_put 9 = .ok (.invokevirtual 233, 3) := od_182 (od_at tB_cX5_put_0 9 rfl) (od_at tB_cX5_put_0 10 rfl) (od_at tB_cX5_put_0 11 rfl) rfl
theorem dX5_put_12 : decode cX5_put 12 = .ok (.ireturn, 1) := od_172 (od_at tB_cX5_put_0 12 rfl)
theorem dX5_put_13 : decode cX5_put 13 = .ok (.aload_n 0, 1) := od_42 (od_at tB_cX5_put_0 13 rfl)
theorem dX5_put_14 : decode cX5_put 14 = .ok (.iload_n 1, 1) := od_27 (od_at tB_cX5_put_0 14 rfl)
theorem dX5_put_15 : decode cX5_put 15 = .ok (.iload_n 2, 1) := od_28 (od_at tB_cX5_put_0 15 rfl)
theorem dX5_put_16 : decode cX5_put 16 = .ok (.invokevirtual 240, 3) := od_182 (od_at tB_cX5_put_1 0 rfl) (od_at tB_cX5_put_1 1 rfl) (od_at tB_cX5_put_1 2 rfl) rfl
theorem dX5_put_19 : decode cX5_put 19 = .ok (.ifCond .le 14, 3) := od_158 (od_at tB_cX5_put_1 3 rfl) (od_at tB_cX5_put_1 4 rfl) (od_at tB_cX5_put_1 5 rfl) (by decide +kernel)
theorem dX5_put_22 : decode cX5_put 22 = .ok (.aload_n 0, 1) := od_42 (od_at tB_cX5_put_1 6 rfl)
theorem dX5_put_23 : decode cX5_put 23 = .ok (.aload_n 0, 1) := od_42 (od_at tB_cX5_put_1 7 rfl)
theorem dX5_put_24 : decode cX5_put 24 = .ok (.iload_n 1, 1) := od_27 (od_at tB_cX5_put_1 8 rfl)
theorem dX5_put_25 : decode cX5_put 25 = .ok (.iload_n 2, 1) := od_28 (od_at tB_cX5_put_1 9 rfl)
theorem dX5_put_26 : decode cX5_put 26 = .ok (.invokevirtual 240, 3) := od_182 (od_at tB_cX5_put_1 10 rfl) (od_at tB_cX5_put_1 11 rfl) (od_at tB_cX5_put_1 12 rfl) rfl
theorem dX5_put_29 : decode cX5_put 29 = .ok (.invokevirtual 237, 3) := od_182 (od_at tB_cX5_put_1 13 rfl) (od_at tB_cX5_put_1 14 rfl) (od_at tB_cX5_put_1 15 rfl) rfl
theorem dX5_put_32 : decode cX5_put 32 = .ok (.ireturn, 1) := od_172 (od_at tB_cX5_put_2 0 rfl)
theorem dX5_put_33 : decode cX5_put 33 = .ok (.aload_n 0, 1) := od_42 (od_at tB_cX5_put_2 1 rfl)
theorem dX5_put_34 : decode cX5_put 34 = .ok (.getfield 74, 3) := od_180 (od_at tB_cX5_put_2 2 rfl) (od_at tB_cX5_put_2 3 rfl) (od_at tB_cX5_put_2 4 rfl) rfl
theorem dX5_put_37 : decode cX5_put 37 = .ok (.bipush 60, 2) := od_16 (od_at tB_cX5_put_2 5 rfl) (od_at tB_cX5_put_2 6 rfl) (by decide +kernel)
theorem dX5_put_39 : decode cX5_put 39 = .ok (.iload_n 1, 1) := od_27 (od_at tB_cX5_put_2 7 rfl)
theorem dX5_put_40 : decode cX5_put 40 = .ok (.imul, 1) := od_104 (od_at tB_cX5_put_2 8 rfl)
theorem dX5_put_41 : decode cX5_put 41 = .ok (.iload_n 2, 1) := od_28 (od_at tB_cX5_put_2 9 rfl)
theorem dX5_put_42 : decode cX5_put 42 = .ok (.iadd, 1) := od_96 (od_at tB_cX5_put_2 10 rfl)
theorem dX5_put_43 : decode cX5_put 43 = .ok (.aload_n 0, 1) := od_42 (od_at tB_cX5_put_2 11 rfl)
theorem dX5_put_44 : decode cX5_put 44 = .ok (.getfield 71, 3) := od_180 (od_at tB_cX5_put_2 12 rfl) (od_at tB_cX5_put_2 13 rfl) (od_at tB_cX5_put_2 14 rfl) rfl
theorem dX5_put_47 : decode cX5_put 47 = .ok (.iload_n 1, 1) := od_27 (od_at tB_cX5_put_2 15 rfl)
theorem dX5_put_48 : decode cX5_put 48 = .ok (.iaload, 1) := od_46 (od_at tB_cX5_put_3 0 rfl)
theorem dX5_put_49 : decode cX5_put 49 = .ok (.ifCond .ne 8, 3) := od_154 (od_at tB_cX5_put_3 1 rfl) (od_at tB_cX5_put_3 2 rfl) (od_at tB_cX5_put_3 3 rfl) (by decide +kernel)
theorem dX5_put_52 : decode cX5_put 52 = .ok (.iload_n 3, 1) := od_29 (od_at tB_cX5_put_3 4 rfl)
theorem dX5_put_53 : decode cX5_put 53 = .ok (.i2b, 1) := od_145 (od_at tB_cX5_put_3 5 rfl)
theorem dX5_put_54 : decode cX5_put 54 = .ok (.goto 19, 3) := od_167 (od_at tB_cX5_put_3 6 rfl) (od_at tB_cX5_put_3 7 rfl) (od_at tB_cX5_put_3 8 rfl) (by decide +kernel)
theorem dX5_put_57 : decode cX5_put 57 = .ok (.aload_n 0, 1) := od_42 (od_at tB_cX5_put_3 9 rfl)
theorem dX5_put_58 : decode cX5_put 58 = .ok (.getfield 71, 3) := od_180 (od_at tB_cX5_put_3 10 rfl) (od_at tB_cX5_put_3 11 rfl) (od_at tB_cX5_put_3 12 rfl) rfl
theorem dX5_put_61 : decode cX5_put 61 = .ok (.iload_n 1, 1) := od_27 (od_at tB_cX5_put_3 13 rfl)
theorem dX5_put_62 : decode cX5_put 62 = .ok (.iaload, 1) := od_46 (od_at tB_cX5_put_3 14 rfl)
theorem dX5_put_63 : decode cX5_put 63 = .ok (.iconst 1, 1) := od_4 (od_at tB_cX5_put_3 15 rfl)
theorem dX5_put_64 : decode cX5_put 64 = .ok (.if_icmp .ne 8, 3) := od_160 (od_at tB_cX5_put_4 0 rfl) (od_at tB_cX5_put_4 1 rfl) (od_at tB_cX5_put_4 2 rfl) (by decide +kernel)
theorem dX5_put_67 : decode cX5_put 67 = .ok (.iload_n 3, 1) := od_29 (od_at tB_cX5_put_4 3 rfl)
theorem dX5_put_68 : decode cX5_put 68 = .ok (.i2s, 1) := od_147 (od_at tB_cX5_put_4 4 rfl)
theorem dX5_put_69 : decode cX5_put 69 = .ok (.goto 4, 3) := od_167 (od_at tB_cX5_put_4 5 rfl) (od_at tB_cX5_put_4 6 rfl) (od_at tB_cX5_put_4 7 rfl) (by decide +kernel)
theorem dX5_put_72 : decode cX5_put 72 = .ok (.iload_n 3, 1) := od_29 (od_at tB_cX5_put_4 8 rfl)
theorem dX5_put_73 : decode cX5_put 73 = .ok (.iastore, 1) := od_79 (od_at tB_cX5_put_4 9 rfl)
theorem dX5_put_74 : decode cX5_put 74 = .ok (.aload_n 0, 1) := od_42 (od_at tB_cX5_put_4 10 rfl)
theorem dX5_put_75 : decode cX5_put 75 = .ok (.iconst 1, 1) := od_4 (od_at tB_cX5_put_4 11 rfl)
theorem dX5_put_76 : decode cX5_put 76 = .ok (.invokevirtual 233, 3) := od_182 (od_at tB_cX5_put_4 12 rfl) (od_at tB_cX5_put_4 13 rfl) (od_at tB_cX5_put_4 14 rfl) rfl
theorem dX5_put_79 : decode cX5_put 79 = .ok (.ireturn, 1) := od_172 (od_at tB_cX5_put_4 15 rfl)
def RB_cX5_cell_5 : List UInt8 := 0x3c :: 0x1b :: 0x68 :: 0x1c :: 0x60 :: 0x2e :: 0x85 :: 0xad :: []
def RB_cX5_cell_4 : List UInt8 := 0x1b :: 0x1c :: 0xb6 :: 0x00 :: 0xf0 :: 0xb6 :: 0x00 :: 0xf3 :: 0xa7 :: 0x00 :: 0x0f :: 0x2a :: 0xb4 :: 0x00 :: 0x4a :: 0x10 :: RB_cX5_cell_5
def RB_cX5_cell_3 : List UInt8 := 0x05 :: 0xb6 :: 0x00 :: 0xf3 :: 0xad :: 0x2a :: 0x1b :: 0x1c :: 0xb6 :: 0x00 :: 0xf0 :: 0x9e :: 0x00 :: 0x10 :: 0x2a :: 0x2a :: RB_cX5_cell_4
def RB_cX5_cell_2 : List UInt8 := 0x1b :: 0x2e :: 0x9b :: 0x00 :: 0x13 :: 0x2a :: 0xb4 :: 0x00 :: 0x47 :: 0x1b :: 0x2e :: 0x1d :: 0x9f :: 0x00 :: 0x09 :: 0x2a :: RB_cX5_cell_3
def RB_cX5_cell_1 : List UInt8 := 0x00 :: 0x60 :: 0xb8 :: 0x00 :: 0x65 :: 0x9a :: 0x00 :: 0x07 :: 0xb8 :: 0x00 :: 0x5c :: 0xad :: 0x2a :: 0xb4 :: 0x00 :: 0x44 :: RB_cX5_cell_2
def RB_cX5_cell_0 : List UInt8 := 0x2a :: 0x03 :: 0xb5 :: 0x00 :: 0x59 :: 0x1b :: 0xb8 :: 0x00 :: 0xe6 :: 0x9a :: 0x00 :: 0x0f :: 0x1d :: 0x85 :: 0x09 :: 0x14 :: RB_cX5_cell_1
theorem tB_cX5_cell_0 : cX5_cell.data.toList.drop 0 = RB_cX5_cell_0 := by decide +kernel
theorem tB_cX5_cell_1 : cX5_cell.data.toList.drop 16 = RB_cX5_cell_1 := od_st tB_cX5_cell_0 16 rfl
theorem tB_cX5_cell_2 : cX5_cell.data.toList.drop 32 = RB_cX5_cell_2 := od_st tB_cX5_cell_1 16 rfl
theorem tB_cX5_cell_3 : cX5_cell.data.toList.drop 48 = RB_cX5_cell_3 := od_st tB_cX5_cell_2 16 rfl
theorem tB_cX5_cell_4 : cX5_cell.data.toList.drop 64 = RB_cX5_cell_4 := od_st tB_cX5_cell_3 16 rfl
theorem tB_cX5_cell_5 : cX5_cell.data.toList.drop 80 = RB_cX5_cell_5 := od_st tB_cX5_cell_4 16 rfl
theorem dX5_cell_0 : decode cX5_cell 0 = .ok (.aload_n 0, 1) := od_42 (od_at tB_cX5_cell_0 0 rfl)
theorem dX5_cell_1 : decode cX5_cell 1 = .ok (.iconst 0, 1) := od_3 (od_at tB_cX5_cell_0 1 rfl)
theorem dX5_cell_2 : decode cX5_cell 2 = .ok (.putfield 89, 3) := od_181 (od_at tB_cX5_cell_0 2 rfl) (od_at tB_cX5_cell_0 3 rfl) (od_at tB_cX5_cell_0 4 rfl) rfl
theorem dX5_cell_5 : decode cX5_cell 5 = .ok (.iload_n 1, 1) := od_27 (od_at tB_cX5_cell_0 5 rfl)
theorem dX5_cell_6 : decode cX5_cell 6 = .ok (.invokestatic 230, 3) := od_184 (od_at tB_cX5_cell_0 6 rfl) (od_at tB_cX5_cell_0 7 rfl) (od_at tB_cX5_cell_0 8 rfl) rfl
theorem dX5_cell_9 : decode cX5_cell 9 = .ok (.ifCond .ne 15, 3) := od_154 (od_at tB_cX5_cell_0 9 rfl) (od_at tB_cX5_cell_0 10 rfl) (od_at tB_cX5_cell_0 11 rfl) (by decide +kernel)
theorem dX5_cell_12 : decode cX5_cell 12 = .ok (.iload_n 3, 1) := od_29 (od_at tB_cX5_cell_0 12 rfl)
theorem dX5_cell_13 : decode cX5_cell 13 = .ok (.i2l, 1) := od_133 (od_at tB_cX5_cell_0 13 rfl)
theorem dX5_cell_14 : decode cX5_cell 14 = .ok (.lconst 0, 1) := od_9 (od_at tB_cX5_cell_0 14 rfl)
theorem dX5_cell_15 : decode cX5_cell 15 = .ok (.ldc2_w 96, 3) := od_20 (od_at tB_cX5_cell_0 15 rfl) (od_at tB_cX5_cell_0 16 rfl) (od_at tB_cX5_cell_0 17 rfl) rfl
theorem dX5_cell_18 : decode cX5_cell 18 = .ok (.invokestatic 101, 3) := od_184 (od_at tB_cX5_cell_1 2 rfl) (od_at tB_cX5_cell_1 3 rfl) (od_at tB_cX5_cell_1 4 rfl) rfl
theorem dX5_cell_21 : decode cX5_cell 21 = .ok (.ifCond .ne 7, 3) := od_154 (od_at tB_cX5_cell_1 5 rfl) (od_at tB_cX5_cell_1 6 rfl) (od_at tB_cX5_cell_1 7 rfl) (by decide +kernel)
theorem dX5_cell_24 : decode cX5_cell 24 = .ok (.invokestatic 92, 3) := od_184 (od_at tB_cX5_cell_1 8 rfl) (od_at tB_cX5_cell_1 9 rfl) (od_at tB_cX5_cell_1 10 rfl) rfl
theorem dX5_cell_27 : decode cX5_cell 27 = .ok (.lreturn, 1) := od_173 (od_at tB_cX5_cell_1 11 rfl)
theorem dX5_cell_28 : decode cX5_cell 28 = .ok (.aload_n 0, 1) := od_42 (od_at tB_cX5_cell_1 12 rfl)
theorem dX5_cell_29 : decode cX5_cell 29 = .ok (.getfield 68, 3) := od_180 (od_at tB_cX5_cell_1 13 rfl) (od_at tB_cX5_cell_1 14 rfl) (od_at tB_cX5_cell_1 15 rfl) rfl
theorem dX5_cell_32 : decode cX5_cell 32 = .ok (.iload_n 1, 1) := od_27 (od_at tB_cX5_cell_2 0 rfl)
theorem dX5_cell_33 : decode cX5_cell 33 = .ok (.iaload, 1) := od_46 (od_at tB_cX5_cell_2 1 rfl)
theorem dX5_cell_34 : decode cX5_cell 34 = .ok (.ifCond .lt 19, 3) := od_155 (od_at tB_cX5_cell_2 2 rfl) (od_at tB_cX5_cell_2 3 rfl) (od_at tB_cX5_cell_2 4 rfl) (by decide +kernel)
theorem dX5_cell_37 : decode cX5_cell 37 = .ok (.aload_n 0, 1) := od_42 (od_at tB_cX5_cell_2 5 rfl)
theorem dX5_cell_38 : decode cX5_cell 38 = .ok (.getfield 71, 3) := od_180 (od_at tB_cX5_cell_2 6 rfl) (od_at tB_cX5_cell_2 7 rfl) (od_at tB_cX5_cell_2 8 rfl) rfl
theorem dX5_cell_41 : decode cX5_cell 41 = .ok (.iload_n 1, 1) := od_27 (od_at tB_cX5_cell_2 9 rfl)
theorem dX5_cell_42 : decode cX5_cell 42 = .ok (.iaload, 1) := od_46 (od_at tB_cX5_cell_2 10 rfl)
theorem dX5_cell_43 : decode cX5_cell 43 = .ok (.iload_n 3, 1) := od_29 (od_at tB_cX5_cell_2 11 rfl)
theorem dX5_cell_44 : decode cX5_cell 44 = .ok (.if_icmp .eq 9, 3) := od_159 (od_at tB_cX5_cell_2 12 rfl) (od_at tB_cX5_cell_2 13 rfl) (od_at tB_cX5_cell_2 14 rfl) (by decide +kernel)
theorem dX5_cell_47 : decode cX5_cell 47 = .ok (.aload_n 0, 1) := od_42 (od_at tB_cX5_cell_2 15 rfl)
theorem dX5_cell_48 : decode cX5_cell 48 = .ok (.iconst 2, 1) := od_5 (od_at tB_cX5_cell_3 0 rfl)
theorem dX5_cell_49 : decode cX5_cell 49 = .ok (.invokevirtual 243, 3) := od_182 (od_at tB_cX5_cell_3 1 rfl) (od_at tB_cX5_cell_3 2 rfl) (od_at tB_cX5_cell_3 3 rfl) rfl
theorem dX5_cell_52 : decode cX5_cell 52 = .ok (.lreturn, 1) := od_173 (od_at tB_cX5_cell_3 4 rfl)
theorem dX5_cell_53 : decode cX5_cell 53 = .ok (.aload_n 0, 1) := od_42 (od_at tB_cX5_cell_3 5 rfl)
theorem dX5_cell_54 : decode cX5_cell 54 = .ok (.iload_n 1, 1) := od_27 (od_at tB_cX5_cell_3 6 rfl)
theorem dX5_cell_55 : decode cX5_cell 55 = .ok (.iload_n 2, 1) := od_28 (od_at tB_cX5_cell_3 7 rfl)
theorem dX5_cell_56 : decode cX5_cell 56 = .ok (.invokevirtual 240, 3) := od_182 (od_at tB_cX5_cell_3 8 rfl) (od_at tB_cX5_cell_3 9 rfl) (od_at tB_cX5_cell_3 10 rfl) rfl
theorem dX5_cell_59 : decode cX5_cell 59 = .ok (.ifCond .le 16, 3) := od_158 (od_at tB_cX5_cell_3 11 rfl) (od_at tB_cX5_cell_3 12 rfl) (od_at tB_cX5_cell_3 13 rfl) (by decide +kernel)
theorem dX5_cell_62 : decode cX5_cell 62 = .ok (.aload_n 0, 1) := od_42 (od_at tB_cX5_cell_3 14 rfl)
theorem dX5_cell_63 : decode cX5_cell 63 = .ok (.aload_n 0, 1) := od_42 (od_at tB_cX5_cell_3 15 rfl)
theorem dX5_cell_64 : decode cX5_cell 64 = .ok (.iload_n 1, 1) := od_27 (od_at tB_cX5_cell_4 0 rfl)
theorem dX5_cell_65 : decode cX5_cell 65 = .ok (.iload_n 2, 1) := od_28 (od_at tB_cX5_cell_4 1 rfl)
theorem dX5_cell_66 : decode cX5_cell 66 = .ok (.invokevirtual 240, 3) := od_182 (od_at tB_cX5_cell_4 2 rfl) (od_at tB_cX5_cell_4 3 rfl) (od_at tB_cX5_cell_4 4 rfl) rfl
theorem dX5_cell_69 : decode cX5_cell 69 = .ok (.invokevirtual 243, 3) := od_182 (od_at tB_cX5_cell_4 5 rfl) (od_at tB_cX5_cell_4 6 rfl) (od_at tB_cX5_cell_4 7 rfl) rfl
theorem dX5_cell_72 : decode cX5_cell 72 = .ok (.goto 15, 3) := od_167 (od_at tB_cX5_cell_4 8 rfl) (od_at tB_cX5_cell_4 9 rfl) (od_at tB_cX5_cell_4 10 rfl) (by decide +kernel)
theorem dX5_cell_75 : decode cX5_cell 75 = .ok (.aload_n 0, 1) := od_42 (od_at tB_cX5_cell_4 11 rfl)
theorem dX5_cell_76 : decode cX5_cell 76 = .ok (.getfield 74, 3) := od_180 (od_at tB_cX5_cell_4 12 rfl) (od_at tB_cX5_cell_4 13 rfl) (od_at tB_cX5_cell_4 14 rfl) rfl
theorem dX5_cell_79 : decode cX5_cell 79 = .ok (.bipush 60, 2) := od_16 (od_at tB_cX5_cell_4 15 rfl) (od_at tB_cX5_cell_4 16 rfl) (by decide +kernel)
theorem dX5_cell_81 : decode cX5_cell 81 = .ok (.iload_n 1, 1) := od_27 (od_at tB_cX5_cell_5 1 rfl)
theorem dX5_cell_82 : decode cX5_cell 82 = .ok (.imul, 1) := od_104 (od_at tB_cX5_cell_5 2 rfl)
theorem dX5_cell_83 : decode cX5_cell 83 = .ok (.iload_n 2, 1) := od_28 (od_at tB_cX5_cell_5 3 rfl)
theorem dX5_cell_84 : decode cX5_cell 84 = .ok (.iadd, 1) := od_96 (od_at tB_cX5_cell_5 4 rfl)
theorem dX5_cell_85 : decode cX5_cell 85 = .ok (.iaload, 1) := od_46 (od_at tB_cX5_cell_5 5 rfl)
theorem dX5_cell_86 : decode cX5_cell 86 = .ok (.i2l, 1) := od_133 (od_at tB_cX5_cell_5 6 rfl)
theorem dX5_cell_87 : decode cX5_cell 87 = .ok (.lreturn, 1) := od_173 (od_at tB_cX5_cell_5 7 rfl)
def RB_cX5_isBeyond_1 : List UInt8 := 0x9e :: 0x00 :: 0x07 :: 0x04 :: 0xa7 :: 0x00 :: 0x04 :: 0x03 :: 0xac :: []
def RB_cX5_isBeyond_0 : List UInt8 := 0x1a :: 0x9b :: 0x00 :: 0x12 :: 0x1b :: 0x9b :: 0x00 :: 0x0e :: 0x1a :: 0x85 :: 0x1b :: 0x85 :: 0x61 :: 0x1c :: 0x85 :: 0x94 :: RB_cX5_isBeyond_1
theorem tB_cX5_isBeyond_0 : cX5_isBeyond.data.toList.drop 0 = RB_cX5_isBeyond_0 := by decide +kernel
theorem tB_cX5_isBeyond_1 : cX5_isBeyond.data.toList.drop 16 = RB_cX5_isBeyond_1 := od_st tB_cX5_isBeyond_0 16 rfl
theorem dX5_isBeyond_0 : decode cX5_isBeyond 0 = .ok (.iload_n 0, 1) := od_26 (od_at tB_cX5_isBeyond_0 0 rfl)
theorem dX5_isBeyond_1 : decode cX5_isBeyond 1 = .ok (.ifCond .lt 18, 3) := od_155 (od_at tB_cX5_isBeyond_0 1 rfl) (od_at tB_cX5_isBeyond_0 2 rfl) (od_at tB_cX5_isBeyond_0 3 rfl) (by decide +kernel)
theorem dX5_isBeyond_4 : decode cX5_isBeyond 4 = .ok (.iload_n 1, 1) := od_27 (od_at tB_cX5_isBeyond_0 4 rfl)
theorem dX5_isBeyond_5 : decode cX5_isBeyond 5 = .ok (.ifCond .lt 14, 3) := od_155 (od_at tB_cX5_isBeyond_0 5 rfl) (od_at tB_cX5_isBeyond_0 6 rfl) (od_at tB_cX5_isBeyond_0 7 rfl) (by decide +kernel)
theorem dX5_isBeyond_8 : decode cX5_isBeyond 8 = .ok (.iload_n 0, 1) := od_26 (od_at tB_cX5_isBeyond_0 8 rfl)
theorem dX5_isBeyond_9 : decode cX5_isBeyond 9 = .ok (.i2l, 1) := od_133 (od_at tB_cX5_isBeyond_0 9 rfl)
theorem dX5_isBeyond_10 : decode cX5_isBeyond 10 = .ok (.iload_n 1, 1) := od_27 (od_at tB_cX5_isBeyond_0 10 rfl)
theorem dX5_isBeyond_11 : decode cX5_isBeyond 11 = .ok (.i2l, 1) := od_133 (od_at tB_cX5_isBeyond_0 11 rfl)
theorem dX5_isBeyond_12 : decode cX5_isBeyond 12 = .ok (.ladd, 1) := od_97 (od_at tB_cX5_isBeyond_0 12 rfl)
theorem dX5_isBeyond_13 : decode cX5_isBeyond 13 = .ok (.iload_n 2, 1) := od_28 (od_at tB_cX5_isBeyond_0 13 rfl)
theorem dX5_isBeyond_14 : decode cX5_isBeyond 14 = .ok (.i2l, 1) := od_133 (od_at tB_cX5_isBeyond_0 14 rfl)
theorem dX5_isBeyond_15 : decode cX5_isBeyond 15 = .ok (.lcmp, 1) := od_148 (od_at tB_cX5_isBeyond_0 15 rfl)
theorem dX5_isBeyond_16 : decode cX5_isBeyond 16 = .ok (.ifCond .le 7, 3) := od_158 (od_at tB_cX5_isBeyond_1 0 rfl) (od_at tB_cX5_isBeyond_1 1 rfl) (od_at tB_cX5_isBeyond_1 2 rfl) (by decide +kernel)
theorem dX5_isBeyond_19 : decode cX5_isBeyond 19 = .ok (.iconst 1, 1) := od_4 (od_at tB_cX5_isBeyond_1 3 rfl)
theorem dX5_isBeyond_20 : decode cX5_isBeyond 20 = .ok (.goto 4, 3) := od_167 (od_at tB_cX5_isBeyond_1 4 rfl) (od_at tB_cX5_isBeyond_1 5 rfl) (od_at tB_cX5_isBeyond_1 6 rfl) (by decide +kernel)
theorem dX5_isBeyond_23 : decode cX5_isBeyond 23 = .ok (.iconst 0, 1) := od_3 (od_at tB_cX5_isBeyond_1 7 rfl)
theorem dX5_isBeyond_24 : decode cX5_isBeyond 24 = .ok (.ireturn, 1) := od_172 (od_at tB_cX5_isBeyond_1 8 rfl)
def RB_cX5_copy_11 : List UInt8 := 0xe0 :: 0x2a :: 0x15 :: 0x05 :: 0xb6 :: 0x00 :: 0xe9 :: 0xac :: []
def RB_cX5_copy_10 : List UInt8 := 0x15 :: 0x06 :: 0x60 :: 0x2a :: 0xb4 :: 0x00 :: 0x4d :: 0x15 :: 0x06 :: 0x2e :: 0x4f :: 0x84 :: 0x06 :: 0x01 :: 0xa7 :: 0xff :: RB_cX5_copy_11
def RB_cX5_copy_9 : List UInt8 := 0x15 :: 0x05 :: 0xa2 :: 0x00 :: 0x1f :: 0x2a :: 0xb4 :: 0x00 :: 0x4a :: 0x10 :: 0x3c :: 0x1d :: 0x68 :: 0x15 :: 0x04 :: 0x60 :: RB_cX5_copy_10
def RB_cX5_copy_8 : List UInt8 := 0x15 :: 0x06 :: 0x60 :: 0x2e :: 0x4f :: 0x84 :: 0x06 :: 0x01 :: 0xa7 :: 0xff :: 0xe1 :: 0x03 :: 0x36 :: 0x06 :: 0x15 :: 0x06 :: RB_cX5_copy_9
def RB_cX5_copy_7 : List UInt8 := 0x2a :: 0xb4 :: 0x00 :: 0x4d :: 0x15 :: 0x06 :: 0x2a :: 0xb4 :: 0x00 :: 0x4a :: 0x10 :: 0x3c :: 0x1b :: 0x68 :: 0x1c :: 0x60 :: RB_cX5_copy_8
def RB_cX5_copy_6 : List UInt8 := 0x2a :: 0x06 :: 0xb6 :: 0x00 :: 0xed :: 0xac :: 0x03 :: 0x36 :: 0x06 :: 0x15 :: 0x06 :: 0x15 :: 0x05 :: 0xa2 :: 0x00 :: 0x1e :: RB_cX5_copy_7
def RB_cX5_copy_5 : List UInt8 := 0x15 :: 0x04 :: 0x15 :: 0x05 :: 0x2a :: 0xb4 :: 0x00 :: 0x44 :: 0x1d :: 0x2e :: 0xb8 :: 0x00 :: 0xf6 :: 0x99 :: 0x00 :: 0x09 :: RB_cX5_copy_6
def RB_cX5_copy_4 : List UInt8 := 0xac :: 0x1c :: 0x15 :: 0x05 :: 0x2a :: 0xb4 :: 0x00 :: 0x44 :: 0x1b :: 0x2e :: 0xb8 :: 0x00 :: 0xf6 :: 0x9a :: 0x00 :: 0x13 :: RB_cX5_copy_5
def RB_cX5_copy_3 : List UInt8 := 0x1b :: 0x2e :: 0x2a :: 0xb4 :: 0x00 :: 0x47 :: 0x1d :: 0x2e :: 0x9f :: 0x00 :: 0x09 :: 0x2a :: 0x05 :: 0xb6 :: 0x00 :: 0xed :: RB_cX5_copy_4
def RB_cX5_copy_2 : List UInt8 := 0x44 :: 0x1d :: 0x2e :: 0x9c :: 0x00 :: 0x09 :: 0x2a :: 0x04 :: 0xb6 :: 0x00 :: 0xed :: 0xac :: 0x2a :: 0xb4 :: 0x00 :: 0x47 :: RB_cX5_copy_3
def RB_cX5_copy_1 : List UInt8 := 0xb6 :: 0x00 :: 0xe9 :: 0xac :: 0x2a :: 0xb4 :: 0x00 :: 0x44 :: 0x1b :: 0x2e :: 0x9b :: 0x00 :: 0x0c :: 0x2a :: 0xb4 :: 0x00 :: RB_cX5_copy_2
def RB_cX5_copy_0 : List UInt8 := 0x1b :: 0xb8 :: 0x00 :: 0xe6 :: 0x9a :: 0x00 :: 0x0a :: 0x1d :: 0xb8 :: 0x00 :: 0xe6 :: 0x99 :: 0x00 :: 0x09 :: 0x2a :: 0x02 :: RB_cX5_copy_1
theorem tB_cX5_copy_0 : cX5_copy.data.toList.drop 0 = RB_cX5_copy_0 := by decide +kernel
theorem tB_cX5_copy_1 : cX5_copy.data.toList.drop 16 = RB_cX5_copy_1 := od_st tB_cX5_copy_0 16 rfl
theorem tB_cX5_copy_2 : cX5_copy.data.toList.drop 32 = RB_cX5_copy_2 := od_st tB_cX5_copy_1 16 rfl
theorem tB_cX5_copy_3 : cX5_copy.data.toList.drop 48 = RB_cX5_copy_3 := od_st tB_cX5_copy_2 16 rfl
theorem tB_cX5_copy_4 : cX5_copy.data.toList.drop 64 = RB_cX5_copy_4 := od_st tB_cX5_copy_3 16 rfl
theorem tB_cX5_copy_5 : cX5_copy.data.toList.drop 80 = RB_cX5_copy_5 := od_st tB_cX5_copy_4 16 rfl
theorem tB_cX5_copy_6 : cX5_copy.data.toList.drop 96 = RB_cX5_copy_6 := od_st tB_cX5_copy_5 16 rfl
theorem tB_cX5_copy_7 : cX5_copy.data.toList.drop 112 = RB_cX5_copy_7 := od_st tB_cX5_copy_6 16 rfl
theorem tB_cX5_copy_8 : cX5_copy.data.toList.drop 128 = RB_cX5_copy_8 := od_st tB_cX5_copy_7 16 rfl
theorem tB_cX5_copy_9 : cX5_copy.data.toList.drop 144 = RB_cX5_copy_9 := od_st tB_cX5_copy_8 16 rfl
theorem tB_cX5_copy_10 : cX5_copy.data.toList.drop 160 = RB_cX5_copy_10 := od_st tB_cX5_copy_9 16 rfl
theorem tB_cX5_copy_11 : cX5_copy.data.toList.drop 176 = RB_cX5_copy_11 := od_st tB_cX5_copy_10 16 rfl
theorem dX5_copy_0 : decode cX5_copy 0 = .ok (.iload_n 1, 1) := od_27 (od_at tB_cX5_copy_0 0 rfl)
theorem dX5_copy_1 : decode cX5_copy 1 = .ok (.invokestatic 230, 3) := od_184 (od_at tB_cX5_copy_0 1 rfl) (od_at tB_cX5_copy_0 2 rfl) (od_at tB_cX5_copy_0 3 rfl) rfl
theorem dX5_copy_4 : decode cX5_copy 4 = .ok (.ifCond .ne 10, 3) := od_154 (od_at tB_cX5_copy_0 4 rfl) (od_at tB_cX5_copy_0 5 rfl) (od_at tB_cX5_copy_0 6 rfl) (by decide +kernel)
theorem dX5_copy_7 : decode cX5_copy 7 = .ok (.iload_n 3, 1) := od_29 (od_at tB_cX5_copy_0 7 rfl)
theorem dX5_copy_8 : decode cX5_copy 8 = .ok (.invokestatic 230, 3) := od_184 (od_at tB_cX5_copy_0 8 rfl) (od_at tB_cX5_copy_0 9 rfl) (od_at tB_cX5_copy_0 10 rfl) rfl
theorem dX5_copy_11 : decode cX5_copy 11 = .ok (.ifCond .eq 9, 3) := od_153 (od_at tB_cX5_copy_0 11 rfl) (od_at tB_cX5_copy_0 12 rfl) (od_at tB_cX5_copy_0 13 rfl) (by decide +kernel)
theorem dX5_copy_14 : decode cX5_copy 14 = .ok (.aload_n 0, 1) := od_42 (od_at tB_cX5_copy_0 14 rfl)
theorem dX5_copy_15 : decode cX5_copy 15 = .ok (.iconst (-1), 1) := od_2 (od_at tB_cX5_copy_0 15 rfl)
theorem dX5_copy_16 : decode cX5_copy 16 = .ok (.invokevirtual 233, 3) := od_182 (od_at tB_cX5_copy_1 0 rfl) (od_at tB_cX5_copy_1 1 rfl) (od_at tB_cX5_copy_1 2 rfl) rfl
theorem dX5_copy_19 : decode cX5_copy 19 = .ok (.ireturn, 1) := od_172 (od_at tB_cX5_copy_1 3 rfl)
theorem dX5_copy_20 : decode cX5_copy 20 = .ok (.aload_n 0, 1) := od_42 (od_at tB_cX5_copy_1 4 rfl)
theorem dX5_copy_21 : decode cX5_copy 21 = .ok (.getfield 68, 3) := od_180 (od_at tB_cX5_copy_1 5 rfl) (od_at tB_cX5_copy_1 6 rfl) (od_at tB_cX5_copy_1 7 rfl) rfl
theorem dX5_copy_24 : decode cX5_copy 24 = .ok (.iload_n 1, 1) := od_27 (od_at tB_cX5_copy_1 8 rfl)
theorem dX5_copy_25 : decode cX5_copy 25 = .ok (.iaload, 1) := od_46 (od_at tB_cX5_copy_1 9 rfl)
theorem dX5_copy_26 : decode cX5_copy 26 = .ok (.ifCond .lt 12, 3) := od_155 (od_at tB_cX5_copy_1 10 rfl) (od_at tB_cX5_copy_1 11 rfl) (od_at tB_cX5_copy_1 12 rfl) (by decide +kernel)
theorem dX5_copy_29 : decode cX5_copy 29 = .ok (.aload_n 0, 1) := od_42 (od_at tB_cX5_copy_1 13 rfl)
theorem dX5_copy_30 : decode cX5_copy 30 = .ok (.getfield 68, 3) := od_180 (od_at tB_cX5_copy_1 14 rfl) (od_at tB_cX5_copy_1 15 rfl) (od_at tB_cX5_copy_1 16 rfl) rfl
theorem dX5_copy_33 : decode cX5_copy 33 = .ok (.iload_n 3, 1) := od_29 (od_at tB_cX5_copy_2 1 rfl)
theorem dX5_copy_34 : decode cX5_copy 34 = .ok (.iaload, 1) := od_46 (od_at tB_cX5_copy_2 2 rfl)
theorem dX5_copy_35 : decode cX5_copy 35 = .ok (.ifCond .ge 9, 3) := od_156 (od_at tB_cX5_copy_2 3 rfl) (od_at tB_cX5_copy_2 4 rfl) (od_at tB_cX5_copy_2 5 rfl) (by decide +kernel)
theorem dX5_copy_38 : decode cX5_copy 38 = .ok (.aload_n 0, 1) := od_42 (od_at tB_cX5_copy_2 6 rfl)
theorem dX5_copy_39 : decode cX5_copy 39 = .ok (.iconst 1, 1) := od_4 (od_at tB_cX5_copy_2 7 rfl)
theorem dX5_copy_40 : decode cX5_copy 40 = .ok (.invokevirtual 237, 3) := od_182 (od_at tB_cX5_copy_2 8 rfl) (od_at tB_cX5_copy_2 9 rfl) (od_at tB_cX5_copy_2 10 rfl) rfl
theorem dX5_copy_43 : decode cX5_copy 43 = .ok (.ireturn, 1) := od_172 (od_at tB_cX5_copy_2 11 rfl)
theorem dX5_copy_44 : decode cX5_copy 44 = .ok (.aload_n 0, 1) := od_42 (od_at tB_cX5_copy_2 12 rfl)
theorem dX5_copy_45 : decode cX5_copy 45 = .ok (.getfield 71, 3) := od_180 (od_at tB_cX5_copy_2 13 rfl) (od_at tB_cX5_copy_2 14 rfl) (od_at tB_cX5_copy_2 15 rfl) rfl
theorem dX5_copy_48 : decode cX5_copy 48 = .ok (.iload_n 1, 1) := od_27 (od_at tB_cX5_copy_3 0 rfl)
theorem dX5_copy_49 : decode cX5_copy 49 = .ok (.iaload, 1) := od_46 (od_at tB_cX5_copy_3 1 rfl)
theorem dX5_copy_50 : decode cX5_copy 50 = .ok (.aload_n 0, 1) := od_42 (od_at tB_cX5_copy_3 2 rfl)
theorem dX5_copy_51 : decode cX5_copy 51 = .ok (.getfield 71, 3) := od_180 (od_at tB_cX5_copy_3 3 rfl) (od_at tB_cX5_copy_3 4 rfl) (od_at tB_cX5_copy_3 5 rfl) rfl
theorem dX5_copy_54 : decode cX5_copy 54 = .ok (.iload_n 3, 1) := od_29 (od_at tB_cX5_copy_3 6 rfl)
theorem dX5_copy_55 : decode cX5_copy 55 = .ok (.iaload, 1) := od_46 (od_at tB_cX5_copy_3 7 rfl)
theorem dX5_copy_56 : decode cX5_copy 56 = .ok (.if_icmp .eq 9, 3) := od_159 (od_at tB_cX5_copy_3 8 rfl) (od_at tB_cX5_copy_3 9 rfl) (od_at tB_cX5_copy_3 10 rfl) (by decide +kernel)
theorem dX5_copy_59 : decode cX5_copy 59 = .ok (.aload_n 0, 1) := od_42 (od_at tB_cX5_copy_3 11 rfl)
theorem dX5_copy_60 : decode cX5_copy 60 = .ok (.iconst 2, 1) := od_5 (od_at tB_cX5_copy_3 12 rfl)
theorem dX5_copy_61 : decode cX5_copy 61 = .ok (.invokevirtual 237, 3) := od_182 (od_at tB_cX5_copy_3 13 rfl) (od_at tB_cX5_copy_3 14 rfl) (od_at tB_cX5_copy_3 15 rfl) rfl
theorem dX5_copy_64 : decode cX5_copy 64 = .ok (.ireturn, 1) := od_172 (od_at tB_cX5_copy_4 0 rfl)
theorem dX5_copy_65 : decode cX5_copy 65 = .ok (.iload_n 2, 1) := od_28 (od_at tB_cX5_copy_4 1 rfl)
theorem dX5_copy_66 : decode cX5_copy 66 = .ok (.iload 5, 2) := od_21 (od_at tB_cX5_copy_4 2 rfl) (od_at tB_cX5_copy_4 3 rfl) rfl
theorem dX5_copy_68 : decode cX5_copy 68 = .ok (.aload_n 0, 1) := od_42 (od_at tB_cX5_copy_4 4 rfl)
theorem dX5_copy_69 : decode cX5_copy 69 = .ok (.getfield 68, 3) := od_180 (od_at tB_cX5_copy_4 5 rfl) (od_at tB_cX5_copy_4 6 rfl) (od_at tB_cX5_copy_4 7 rfl) rfl
theorem dX5_copy_72 : decode cX5_copy 72 = .ok (.iload_n 1, 1) := od_27 (od_at tB_cX5_copy_4 8 rfl)
theorem dX5_copy_73 : decode cX5_copy 73 = .ok (.iaload, 1) := od_46 (od_at tB_cX5_copy_4 9 rfl)
theorem dX5_copy_74 : decode cX5_copy 74 = .ok (.invokestatic 246, 3) := od_184 (od_at tB_cX5_copy_4 10 rfl) (od_at tB_cX5_copy_4 11 rfl) (od_at tB_cX5_copy_4 12 rfl) rfl
theorem dX5_copy_77 : decode cX5_copy 77 = .ok (.ifCond .ne 19, 3) := od_154 (od_at tB_cX5_copy_4 13 rfl) (od_at tB_cX5_copy_4 14 rfl) (od_at tB_cX5_copy_4 15 rfl) (by decide +kernel)
theorem dX5_copy_80 : decode cX5_copy 80 = .ok (.iload 4, 2) := od_21 (od_at tB_cX5_copy_5 0 rfl) (od_at tB_cX5_copy_5 1 rfl) rfl
theorem dX5_copy_82 : decode cX5_copy 82 = .ok (.iload 5, 2) := od_21 (od_at tB_cX5_copy_5 2 rfl) (od_at tB_cX5_copy_5 3 rfl) rfl
theorem dX5_copy_84 : decode cX5_copy 84 = .ok (.aload_n 0, 1) := od_42 (od_at tB_cX5_copy_5 4 rfl)
theorem dX5_copy_85 : decode cX5_copy 85 = .ok (.getfield 68, 3) := od_180 (od_at tB_cX5_copy_5 5 rfl) (od_at tB_cX5_copy_5 6 rfl) (od_at tB_cX5_copy_5 7 rfl) rfl
theorem dX5_copy_88 : decode cX5_copy 88 = .ok (.iload_n 3, 1) := od_29 (od_at tB_cX5_copy_5 8 rfl)
theorem dX5_copy_89 : decode cX5_copy 89 = .ok (.iaload, 1) := od_46 (od_at tB_cX5_copy_5 9 rfl)
theorem dX5_copy_90 : decode cX5_copy 90 = .ok (.invokestatic 246, 3) := od_184 (od_at tB_cX5_copy_5 10 rfl) (od_at tB_cX5_copy_5 11 rfl) (od_at tB_cX5_copy_5 12 rfl) rfl
theorem dX5_copy_93 : decode cX5_copy 93 = .ok (.ifCond .eq 9, 3) := od_153 (od_at tB_cX5_copy_5 13 rfl) (od_at tB_cX5_copy_5 14 rfl) (od_at tB_cX5_copy_5 15 rfl) (by decide +kernel)
theorem dX5_copy_96 : decode cX5_copy 96 = .ok (.aload_n 0, 1) := od_42 (od_at tB_cX5_copy_6 0 rfl)
theorem dX5_copy_97 : decode cX5_copy 97 = .ok (.iconst 3, 1) := od_6 (od_at tB_cX5_copy_6 1 rfl)
theorem dX5_copy_98 : decode cX5_copy 98 = .ok (.invokevirtual 237, 3) := od_182 (od_at tB_cX5_copy_6 2 rfl) (od_at tB_cX5_copy_6 3 rfl) (od_at tB_cX5_copy_6 4 rfl) rfl
theorem dX5_copy_101 : decode cX5_copy 101 = .ok (.ireturn, 1) := od_172 (od_at tB_cX5_copy_6 5 rfl)
theorem dX5_copy_102 : decode cX5_copy 102 = .ok (.iconst 0, 1) := od_3 (od_at tB_cX5_copy_6 6 rfl)
theorem dX5_copy_103 : decode cX5_copy 103 = .ok (.istore 6, 2) := od_54 (od_at tB_cX5_copy_6 7 rfl) (od_at tB_cX5_copy_6 8 rfl) rfl
theorem dX5_copy_105 : decode cX5_copy 105 = .ok (.iload 6, 2) := od_21 (od_at tB_cX5_copy_6 9 rfl) (od_at tB_cX5_copy_6 10 rfl) rfl
theorem dX5_copy_107 : decode cX5_copy 107 = .ok (.iload 5, 2) := od_21 (od_at tB_cX5_copy_6 11 rfl) (od_at tB_cX5_copy_6 12 rfl) rfl
theorem dX5_copy_109 : decode cX5_copy 109 = .ok (.if_icmp .ge 30, 3) := od_162 (od_at tB_cX5_copy_6 13 rfl) (od_at tB_cX5_copy_6 14 rfl) (od_at tB_cX5_copy_6 15 rfl) (by decide +kernel)
theorem dX5_copy_112 : decode cX5_copy 112 = .ok (.aload_n 0, 1) := od_42 (od_at tB_cX5_copy_7 0 rfl)
theorem dX5_copy_113 : decode cX5_copy 113 = .ok (.getfield 77, 3) := od_180 (od_at tB_cX5_copy_7 1 rfl) (od_at tB_cX5_copy_7 2 rfl) (od_at tB_cX5_copy_7 3 rfl) rfl
theorem dX5_copy_116 : decode cX5_copy 116 = .ok (.iload 6, 2) := od_21 (od_at tB_cX5_copy_7 4 rfl) (od_at tB_cX5_copy_7 5 rfl) rfl
theorem dX5_copy_118 : decode cX5_copy 118 = .ok (.aload_n 0, 1) := od_42 (od_at tB_cX5_copy_7 6 rfl)
theorem dX5_copy_119 : decode cX5_copy 119 = .ok (.getfield 74, 3) := od_180 (od_at tB_cX5_copy_7 7 rfl) (od_at tB_cX5_copy_7 8 rfl) (od_at tB_cX5_copy_7 9 rfl) rfl
theorem dX5_copy_122 : decode cX5_copy 122 = .ok (.bipush 60, 2) := od_16 (od_at tB_cX5_copy_7 10 rfl) (od_at tB_cX5_copy_7 11 rfl) (by decide +kernel)
theorem dX5_copy_124 : decode cX5_copy 124 = .ok (.iload_n 1, 1) := od_27 (od_at tB_cX5_copy_7 12 rfl)
theorem dX5_copy_125 : decode cX5_copy 125 = .ok (.imul, 1) := od_104 (od_at tB_cX5_copy_7 13 rfl)
theorem dX5_copy_126 : decode cX5_copy 126 = .ok (.iload_n 2, 1) := od_28 (od_at tB_cX5_copy_7 14 rfl)
theorem dX5_copy_127 : decode cX5_copy 127 = .ok (.iadd, 1) := od_96 (od_at tB_cX5_copy_7 15 rfl)
theorem dX5_copy_128 : decode cX5_copy 128 = .ok (.iload 6, 2) := od_21 (od_at tB_cX5_copy_8 0 rfl) (od_at tB_cX5_copy_8 1 rfl) rfl
theorem dX5_copy_130 : decode cX5_copy 130 = .ok (.iadd, 1) := od_96 (od_at tB_cX5_copy_8 2 rfl)
theorem dX5_copy_131 : decode cX5_copy 131 = .ok (.iaload, 1) := od_46 (od_at tB_cX5_copy_8 3 rfl)
theorem dX5_copy_132 : decode cX5_copy 132 = .ok (.iastore, 1) := od_79 (od_at tB_cX5_copy_8 4 rfl)
theorem dX5_copy_133 : decode cX5_copy 133 = .ok (.iinc 6 1, 3) := od_132 (od_at tB_cX5_copy_8 5 rfl) (od_at tB_cX5_copy_8 6 rfl) (od_at tB_cX5_copy_8 7 rfl) rfl (by decide +kernel)
theorem dX5_copy_136 : decode cX5_copy 136 = .ok (.goto (-31), 3) := od_167 (od_at tB_cX5_copy_8 8 rfl) (od_at tB_cX5_copy_8 9 rfl) (od_at tB_cX5_copy_8 10 rfl) (by decide +kernel)
theorem dX5_copy_139 : decode cX5_copy 139 = .ok (.iconst 0, 1) := od_3 (od_at tB_cX5_copy_8 11 rfl)
theorem dX5_copy_140 : decode cX5_copy 140 = .ok (.istore 6, 2) := od_54 (od_at tB_cX5_copy_8 12 rfl) (od_at tB_cX5_copy_8 13 rfl) rfl
theorem dX5_copy_142 : decode cX5_copy 142 = .ok (.iload 6, 2) := od_21 (od_at tB_cX5_copy_8 14 rfl) (od_at tB_cX5_copy_8 15 rfl) rfl
theorem dX5_copy_144 : decode cX5_copy 144 = .ok (.iload 5, 2) := od_21 (od_at tB_cX5_copy_9 0 rfl) (od_at tB_cX5_copy_9 1 rfl) rfl
theorem dX5_copy_146 : decode cX5_copy 146 = .ok (.if_icmp .ge 31, 3) := od_162 (od_at tB_cX5_copy_9 2 rfl) (od_at tB_cX5_copy_9 3 rfl) (od_at tB_cX5_copy_9 4 rfl) (by decide +kernel)
theorem dX5_copy_149 : decode cX5_copy 149 = .ok (.aload_n 0, 1) := od_42 (od_at tB_cX5_copy_9 5 rfl)
theorem dX5_copy_150 : decode cX5_copy 150 = .ok (.getfield 74, 3) := od_180 (od_at tB_cX5_copy_9 6 rfl) (od_at tB_cX5_copy_9 7 rfl) (od_at tB_cX5_copy_9 8 rfl) rfl
theorem dX5_copy_153 : decode cX5_copy 153 = .ok (.bipush 60, 2) := od_16 (od_at tB_cX5_copy_9 9 rfl) (od_at tB_cX5_copy_9 10 rfl) (by decide +kernel)
theorem dX5_copy_155 : decode cX5_copy 155 = .ok (.iload_n 3, 1) := od_29 (od_at tB_cX5_copy_9 11 rfl)
theorem dX5_copy_156 : decode cX5_copy 156 = .ok (.imul, 1) := od_104 (od_at tB_cX5_copy_9 12 rfl)
theorem dX5_copy_157 : decode cX5_copy 157 = .ok (.iload 4, 2) := od_21 (od_at tB_cX5_copy_9 13 rfl) (od_at tB_cX5_copy_9 14 rfl) rfl
theorem dX5_copy_159 : decode cX5_copy 159 = .ok (.iadd, 1) := od_96 (od_at tB_cX5_copy_9 15 rfl)
theorem dX5_copy_160 : decode cX5_copy 160 = .ok (.iload 6, 2) := od_21 (od_at tB_cX5_copy_10 0 rfl) (od_at tB_cX5_copy_10 1 rfl) rfl
theorem dX5_copy_162 : decode cX5_copy 162 = .ok (.iadd, 1) := od_96 (od_at tB_cX5_copy_10 2 rfl)
theorem dX5_copy_163 : decode cX5_copy 163 = .ok (.aload_n 0, 1) := od_42 (od_at tB_cX5_copy_10 3 rfl)
theorem dX5_copy_164 : decode cX5_copy 164 = .ok (.getfield 77, 3) := od_180 (od_at tB_cX5_copy_10 4 rfl) (od_at tB_cX5_copy_10 5 rfl) (od_at tB_cX5_copy_10 6 rfl) rfl
theorem dX5_copy_167 : decode cX5_copy 167 = .ok (.iload 6, 2) := od_21 (od_at tB_cX5_copy_10 7 rfl) (od_at tB_cX5_copy_10 8 rfl) rfl
theorem dX5_copy_169 : decode cX5_copy 169 = .ok (.iaload, 1) := od_46 (od_at tB_cX5_copy_10 9 rfl)
theorem dX5_copy_170 : decode cX5_copy 170 = .ok (.iastore, 1) := od_79 (od_at tB_cX5_copy_10 10 rfl)
theorem dX5_copy_171 : decode cX5_copy 171 = .ok (.iinc 6 1, 3) := od_132 (od_at tB_cX5_copy_10 11 rfl) (od_at tB_cX5_copy_10 12 rfl) (od_at tB_cX5_copy_10 13 rfl) rfl (by decide +kernel)
theorem dX5_copy_174 : decode cX5_copy 174 = .ok (.goto (-32), 3) := od_167 (od_at tB_cX5_copy_10 14 rfl) (od_at tB_cX5_copy_10 15 rfl) (od_at tB_cX5_copy_10 16 rfl) (by decide +kernel)
theorem dX5_copy_177 : decode cX5_copy 177 = .ok (.aload_n 0, 1) := od_42 (od_at tB_cX5_copy_11 1 rfl)
theorem dX5_copy_178 : decode cX5_copy 178 = .ok (.iload 5, 2) := od_21 (od_at tB_cX5_copy_11 2 rfl) (od_at tB_cX5_copy_11 3 rfl) rfl
theorem dX5_copy_180 : decode cX5_copy 180 = .ok (.invokevirtual 233, 3) := od_182 (od_at tB_cX5_copy_11 4 rfl) (od_at tB_cX5_copy_11 5 rfl) (od_at tB_cX5_copy_11 6 rfl) rfl
theorem dX5_copy_183 : decode cX5_copy 183 = .ok (.ireturn, 1) := od_172 (od_at tB_cX5_copy_11 7 rfl)
def RB_cX5_watch_18 : List UInt8 := 0x06 :: 0x15 :: 0x07 :: 0x60 :: 0x15 :: 0x08 :: 0x64 :: 0xb6 :: 0x00 :: 0xe9 :: 0xac :: []
def RB_cX5_watch_17 : List UInt8 := 0x07 :: 0xa7 :: 0x00 :: 0x16 :: 0x15 :: 0x05 :: 0x05 :: 0xa0 :: 0x00 :: 0x08 :: 0x15 :: 0x08 :: 0xa7 :: 0x00 :: 0x0b :: 0x15 :: RB_cX5_watch_18
def RB_cX5_watch_16 : List UInt8 := 0x05 :: 0x9a :: 0x00 :: 0x08 :: 0x15 :: 0x06 :: 0xa7 :: 0x00 :: 0x21 :: 0x15 :: 0x05 :: 0x04 :: 0xa0 :: 0x00 :: 0x08 :: 0x15 :: RB_cX5_watch_17
def RB_cX5_watch_15 : List UInt8 := 0x04 :: 0x03 :: 0x36 :: 0x0a :: 0x15 :: 0x0c :: 0x36 :: 0x09 :: 0x84 :: 0x0b :: 0x01 :: 0xa7 :: 0xff :: 0x8c :: 0x2a :: 0x15 :: RB_cX5_watch_16
def RB_cX5_watch_14 : List UInt8 := 0x60 :: 0x36 :: 0x08 :: 0x15 :: 0x0d :: 0x99 :: 0x00 :: 0x08 :: 0x15 :: 0x0a :: 0x9a :: 0x00 :: 0x07 :: 0x04 :: 0xa7 :: 0x00 :: RB_cX5_watch_15
def RB_cX5_watch_13 : List UInt8 := 0x08 :: 0x15 :: 0x0d :: 0x99 :: 0x00 :: 0x0c :: 0x15 :: 0x0a :: 0x9a :: 0x00 :: 0x07 :: 0x04 :: 0xa7 :: 0x00 :: 0x04 :: 0x03 :: RB_cX5_watch_14
def RB_cX5_watch_12 : List UInt8 := 0x00 :: 0x0c :: 0x15 :: 0x0a :: 0x99 :: 0x00 :: 0x07 :: 0x04 :: 0xa7 :: 0x00 :: 0x04 :: 0x03 :: 0x60 :: 0x36 :: 0x07 :: 0x15 :: RB_cX5_watch_13
def RB_cX5_watch_11 : List UInt8 := 0x07 :: 0x04 :: 0xa7 :: 0x00 :: 0x04 :: 0x03 :: 0x36 :: 0x0d :: 0x84 :: 0x06 :: 0x01 :: 0x15 :: 0x07 :: 0x15 :: 0x0d :: 0x99 :: RB_cX5_watch_12
def RB_cX5_watch_10 : List UInt8 := 0x04 :: 0x9f :: 0x00 :: 0x09 :: 0x15 :: 0x0c :: 0x05 :: 0xa0 :: 0x00 :: 0x51 :: 0x15 :: 0x0c :: 0x15 :: 0x09 :: 0xa0 :: 0x00 :: RB_cX5_watch_11
def RB_cX5_watch_9 : List UInt8 := 0x2a :: 0xb4 :: 0x00 :: 0x4a :: 0x10 :: 0x3c :: 0x1b :: 0x68 :: 0x15 :: 0x0b :: 0x60 :: 0x2e :: 0x36 :: 0x0c :: 0x15 :: 0x0c :: RB_cX5_watch_10
def RB_cX5_watch_8 : List UInt8 := 0x09 :: 0x04 :: 0x36 :: 0x0a :: 0x1d :: 0x36 :: 0x0b :: 0x15 :: 0x0b :: 0x1d :: 0x15 :: 0x04 :: 0x60 :: 0xa2 :: 0x00 :: 0x71 :: RB_cX5_watch_9
def RB_cX5_watch_7 : List UInt8 := 0x06 :: 0xb6 :: 0x00 :: 0xed :: 0xac :: 0x03 :: 0x36 :: 0x06 :: 0x03 :: 0x36 :: 0x07 :: 0x03 :: 0x36 :: 0x08 :: 0x03 :: 0x36 :: RB_cX5_watch_8
def RB_cX5_watch_6 : List UInt8 := 0x1d :: 0x15 :: 0x04 :: 0x2a :: 0xb4 :: 0x00 :: 0x44 :: 0x1b :: 0x2e :: 0xb8 :: 0x00 :: 0xf6 :: 0x99 :: 0x00 :: 0x09 :: 0x2a :: RB_cX5_watch_7
def RB_cX5_watch_5 : List UInt8 := 0x04 :: 0xb6 :: 0x00 :: 0xed :: 0xac :: 0x15 :: 0x04 :: 0x9c :: 0x00 :: 0x09 :: 0x2a :: 0x07 :: 0xb6 :: 0x00 :: 0xed :: 0xac :: RB_cX5_watch_6
def RB_cX5_watch_4 : List UInt8 := 0x2a :: 0x05 :: 0xb6 :: 0x00 :: 0xed :: 0xac :: 0x2a :: 0xb4 :: 0x00 :: 0x44 :: 0x1b :: 0x2e :: 0x9c :: 0x00 :: 0x09 :: 0x2a :: RB_cX5_watch_5
def RB_cX5_watch_3 : List UInt8 := 0x44 :: 0x1b :: 0x2e :: 0x9b :: 0x00 :: 0x13 :: 0x2a :: 0xb4 :: 0x00 :: 0x47 :: 0x1b :: 0x2e :: 0x1c :: 0x9f :: 0x00 :: 0x09 :: RB_cX5_watch_4
def RB_cX5_watch_2 : List UInt8 := 0xb8 :: 0x00 :: 0x65 :: 0x9a :: 0x00 :: 0x0a :: 0x2a :: 0x10 :: 0xfe :: 0xb6 :: 0x00 :: 0xe9 :: 0xac :: 0x2a :: 0xb4 :: 0x00 :: RB_cX5_watch_3
def RB_cX5_watch_1 : List UInt8 := 0x14 :: 0x00 :: 0x60 :: 0xb8 :: 0x00 :: 0x65 :: 0x99 :: 0x00 :: 0x10 :: 0x15 :: 0x05 :: 0x85 :: 0x09 :: 0x14 :: 0x00 :: 0xa4 :: RB_cX5_watch_2
def RB_cX5_watch_0 : List UInt8 := 0x1b :: 0xb8 :: 0x00 :: 0xe6 :: 0x99 :: 0x00 :: 0x09 :: 0x2a :: 0x02 :: 0xb6 :: 0x00 :: 0xe9 :: 0xac :: 0x1c :: 0x85 :: 0x09 :: RB_cX5_watch_1
theorem tB_cX5_watch_0 : cX5_watch.data.toList.drop 0 = RB_cX5_watch_0 := by decide +kernel
theorem tB_cX5_watch_1 : cX5_watch.data.toList.drop 16 = RB_cX5_watch_1 := od_st tB_cX5_watch_0 16 rfl
theorem tB_cX5_watch_2 : cX5_watch.data.toList.drop 32 = RB_cX5_watch_2 := od_st tB_cX5_watch_1 16 rfl
theorem tB_cX5_watch_3 : cX5_watch.data.toList.drop 48 = RB_cX5_watch_3 := od_st tB_cX5_watch_2 16 rfl
theorem tB_cX5_watch_4 : cX5_watch.data.toList.drop 64 = RB_cX5_watch_4 := od_st tB_cX5_watch_3 16 rfl
theorem tB_cX5_watch_5 : cX5_watch.data.toList.drop 80 = RB_cX5_watch_5 := od_st tB_cX5_watch_4 16 rfl
theorem tB_cX5_watch_6 : cX5_watch.data.toList.drop 96 = RB_cX5_watch_6 := od_st tB_cX5_watch_5 16 rfl
theorem tB_cX5_watch_7 : cX5_watch.data.toList.drop 112 = RB_cX5_watch_7 := od_st tB_cX5_watch_6 16 rfl
theorem tB_cX5_watch_8 : cX5_watch.data.toList.drop 128 = RB_cX5_watch_8 := od_st tB_cX5_watch_7 16 rfl
theorem tB_cX5_watch_9 : cX5_watch.data.toList.drop 144 = RB_cX5_watch_9 := od_st tB_cX5_watch_8 16 rfl
theorem tB_cX5_watch_10 : cX5_watch.data.toList.drop 160 = RB_cX5_watch_10 := od_st tB_cX5_watch_9 16 rfl
theorem tB_cX5_watch_11 : cX5_watch.data.toList.drop 176 = RB_cX5_watch_11 := od_st tB_cX5_watch_10 16 rfl
theorem tB_cX5_watch_12 : cX5_watch.data.toList.drop 192 = RB_cX5_watch_12 := od_st tB_cX5_watch_11 16 rfl
theorem tB_cX5_watch_13 : cX5_watch.data.toList.drop 208 = RB_cX5_watch_13 := od_st tB_cX5_watch_12 16 rfl
theorem tB_cX5_watch_14 : cX5_watch.data.toList.drop 224 = RB_cX5_watch_14 := od_st tB_cX5_watch_13 16 rfl
theorem tB_cX5_watch_15 : cX5_watch.data.toList.drop 240 = RB_cX5_watch_15 := od_st tB_cX5_watch_14 16 rfl
theorem tB_cX5_watch_16 : cX5_watch.data.toList.drop 256 = RB_cX5_watch_16 := od_st tB_cX5_watch_15 16 rfl
theorem tB_cX5_watch_17 : cX5_watch.data.toList.drop 272 = RB_cX5_watch_17 := od_st tB_cX5_watch_16 16 rfl
theorem tB_cX5_watch_18 : cX5_watch.data.toList.drop 288 = RB_cX5_watch_18 := od_st tB_cX5_watch_17 16 rfl
theorem dX5_watch_0 : decode cX5_watch 0 = .ok (.iload_n 1, 1) := od_27 (od_at tB_cX5_watch_0 0 rfl)
theorem dX5_watch_1 : decode cX5_watch 1 = .ok (.invokestatic 230, 3) := od_184 (od_at tB_cX5_watch_0 1 rfl) (od_at tB_cX5_watch_0 2 rfl) (od_at tB_cX5_watch_0 3 rfl) rfl
theorem dX5_watch_4 : decode cX5_watch 4 = .ok (.ifCond .eq 9, 3) := od_153 (od_at tB_cX5_watch_0 4 rfl) (od_at tB_cX5_watch_0 5 rfl) (od_at tB_cX5_watch_0 6 rfl) (by decide +kernel)
theorem dX5_watch_7 : decode cX5_watch 7 = .ok (.aload_n 0, 1) := od_42 (od_at tB_cX5_watch_0 7 rfl)
theorem dX5_watch_8 : decode cX5_watch 8 = .ok (.iconst (-1), 1) := od_2 (od_at tB_cX5_watch_0 8 rfl)
theorem dX5_watch_9 : decode cX5_watch 9 = .ok (.invokevirtual 233, 3) := od_182 (od_at tB_cX5_watch_0 9 rfl) (od_at tB_cX5_watch_0 10 rfl) (od_at tB_cX5_watch_0 11 rfl) rfl
theorem dX5_watch_12 : decode cX5_watch 12 = .ok (.ireturn, 1) := od_172 (od_at tB_cX5_watch_0 12 rfl)
theorem dX5_watch_13 : decode cX5_watch 13 = .ok (.iload_n 2, 1) := od_28 (od_at tB_cX5_watch_0 13 rfl)
theorem dX5_watch_14 : decode cX5_watch 14 = .ok (.i2l, 1) := od_133 (od_at tB_cX5_watch_0 14 rfl)
theorem dX5_watch_15 : decode cX5_watch 15 = .ok (.lconst 0, 1) := od_9 (od_at tB_cX5_watch_0 15 rfl)
theorem dX5_watch_16 : decode cX5_watch 16 = .ok (.ldc2_w 96, 3) := od_20 (od_at tB_cX5_watch_1 0 rfl) (od_at tB_cX5_watch_1 1 rfl) (od_at tB_cX5_watch_1 2 rfl) rfl
theorem dX5_watch_19 : decode cX5_watch 19 = .ok (.invokestatic 101, 3) := od_184 (od_at tB_cX5_watch_1 3 rfl) (od_at tB_cX5_watch_1 4 rfl) (od_at tB_cX5_watch_1 5 rfl) rfl
theorem dX5_watch_22 : decode cX5_watch 22 = .ok (.ifCond .eq 16, 3) := od_153 (od_at tB_cX5_watch_1 6 rfl) (od_at tB_cX5_watch_1 7 rfl) (od_at tB_cX5_watch_1 8 rfl) (by decide +kernel)
theorem dX5_watch_25 : decode cX5_watch 25 = .ok (.iload 5, 2) := od_21 (od_at tB_cX5_watch_1 9 rfl) (od_at tB_cX5_watch_1 10 rfl) rfl
theorem dX5_watch_27 : decode cX5_watch 27 = .ok (.i2l, 1) := od_133 (od_at tB_cX5_watch_1 11 rfl)
theorem dX5_watch_28 : decode cX5_watch 28 = .ok (.lconst 0, 1) := od_9 (od_at tB_cX5_watch_1 12 rfl)
theorem dX5_watch_29 : decode cX5_watch 29 = .ok (.ldc2_w 164, 3) := od_20 (od_at tB_cX5_watch_1 13 rfl) (od_at tB_cX5_watch_1 14 rfl) (od_at tB_cX5_watch_1 15 rfl) rfl
theorem dX5_watch_32 : decode cX5_watch 32 = .ok (.invokestatic 101, 3) := od_184 (od_at tB_cX5_watch_2 0 rfl) (od_at tB_cX5_watch_2 1 rfl) (od_at tB_cX5_watch_2 2 rfl) rfl
theorem dX5_watch_35 : decode cX5_watch 35 = .ok (.ifCond .ne 10, 3) := od_154 (od_at tB_cX5_watch_2 3 rfl) (od_at tB_cX5_watch_2 4 rfl) (od_at tB_cX5_watch_2 5 rfl) (by decide +kernel)
theorem dX5_watch_38 : decode cX5_watch 38 = .ok (.aload_n 0, 1) := od_42 (od_at tB_cX5_watch_2 6 rfl)
theorem dX5_watch_39 : decode cX5_watch 39 = .ok (.bipush (-2), 2) := od_16 (od_at tB_cX5_watch_2 7 rfl) (od_at tB_cX5_watch_2 8 rfl) (by decide +kernel)
theorem dX5_watch_41 : decode cX5_watch 41 = .ok (.invokevirtual 233, 3) := od_182 (od_at tB_cX5_watch_2 9 rfl) (od_at tB_cX5_watch_2 10 rfl) (od_at tB_cX5_watch_2 11 rfl) rfl
theorem dX5_watch_44 : decode cX5_watch 44 = .ok (.ireturn, 1) := od_172 (od_at tB_cX5_watch_2 12 rfl)
theorem dX5_watch_45 : decode cX5_watch 45 = .ok (.aload_n 0, 1) := od_42 (od_at tB_cX5_watch_2 13 rfl)
theorem dX5_watch_46 : decode cX5_watch 46 = .ok (.getfield 68, 3) := od_180 (od_at tB_cX5_watch_2 14 rfl) (od_at tB_cX5_watch_2 15 rfl) (od_at tB_cX5_watch_2 16 rfl) rfl
theorem dX5_watch_49 : decode cX5_watch 49 = .ok (.iload_n 1, 1) := od_27 (od_at tB_cX5_watch_3 1 rfl)
theorem dX5_watch_50 : decode cX5_watch 50 = .ok (.iaload, 1) := od_46 (od_at tB_cX5_watch_3 2 rfl)
theorem dX5_watch_51 : decode cX5_watch 51 = .ok (.ifCond .lt 19, 3) := od_155 (od_at tB_cX5_watch_3 3 rfl) (od_at tB_cX5_watch_3 4 rfl) (od_at tB_cX5_watch_3 5 rfl) (by decide +kernel)
theorem dX5_watch_54 : decode cX5_watch 54 = .ok (.aload_n 0, 1) := od_42 (od_at tB_cX5_watch_3 6 rfl)
theorem dX5_watch_55 : decode cX5_watch 55 = .ok (.getfield 71, 3) := od_180 (od_at tB_cX5_watch_3 7 rfl) (od_at tB_cX5_watch_3 8 rfl) (od_at tB_cX5_watch_3 9 rfl) rfl
theorem dX5_watch_58 : decode cX5_watch 58 = .ok (.iload_n 1, 1) := od_27 (od_at tB_cX5_watch_3 10 rfl)
theorem dX5_watch_59 : decode cX5_watch 59 = .ok (.iaload, 1) := od_46 (od_at tB_cX5_watch_3 11 rfl)
theorem dX5_watch_60 : decode cX5_watch 60 = .ok (.iload_n 2, 1) := od_28 (od_at tB_cX5_watch_3 12 rfl)
theorem dX5_watch_61 : decode cX5_watch 61 = .ok (.if_icmp .eq 9, 3) := od_159 (od_at tB_cX5_watch_3 13 rfl) (od_at tB_cX5_watch_3 14 rfl) (od_at tB_cX5_watch_3 15 rfl) (by decide +kernel)
theorem dX5_watch_64 : decode cX5_watch 64 = .ok (.aload_n 0, 1) := od_42 (od_at tB_cX5_watch_4 0 rfl)
theorem dX5_watch_65 : decode cX5_watch 65 = .ok (.iconst 2, 1) := od_5 (od_at tB_cX5_watch_4 1 rfl)
theorem dX5_watch_66 : decode cX5_watch 66 = .ok (.invokevirtual 237, 3) := od_182 (od_at tB_cX5_watch_4 2 rfl) (od_at tB_cX5_watch_4 3 rfl) (od_at tB_cX5_watch_4 4 rfl) rfl
theorem dX5_watch_69 : decode cX5_watch 69 = .ok (.ireturn, 1) := od_172 (od_at tB_cX5_watch_4 5 rfl)
theorem dX5_watch_70 : decode cX5_watch 70 = .ok (.aload_n 0, 1) := od_42 (od_at tB_cX5_watch_4 6 rfl)
theorem dX5_watch_71 : decode cX5_watch 71 = .ok (.getfield 68, 3) := od_180 (od_at tB_cX5_watch_4 7 rfl) (od_at tB_cX5_watch_4 8 rfl) (od_at tB_cX5_watch_4 9 rfl) rfl
theorem dX5_watch_74 : decode cX5_watch 74 = .ok (.iload_n 1, 1) := od_27 (od_at tB_cX5_watch_4 10 rfl)
theorem dX5_watch_75 : decode cX5_watch 75 = .ok (.iaload, 1) := od_46 (od_at tB_cX5_watch_4 11 rfl)
theorem dX5_watch_76 : decode cX5_watch 76 = .ok (.ifCond .ge 9, 3) := od_156 (od_at tB_cX5_watch_4 12 rfl) (od_at tB_cX5_watch_4 13 rfl) (od_at tB_cX5_watch_4 14 rfl) (by decide +kernel)
theorem dX5_watch_79 : decode cX5_watch 79 = .ok (.aload_n 0, 1) := od_42 (od_at tB_cX5_watch_4 15 rfl)
theorem dX5_watch_80 : decode cX5_watch 80 = .ok (.iconst 1, 1) := od_4 (od_at tB_cX5_watch_5 0 rfl)
theorem dX5_watch_81 : decode cX5_watch 81 = .ok (.invokevirtual 237, 3) := od_182 (od_at tB_cX5_watch_5 1 rfl) (od_at tB_cX5_watch_5 2 rfl) (od_at tB_cX5_watch_5 3 rfl) rfl
theorem dX5_watch_84 : decode cX5_watch 84 = .ok (.ireturn, 1) := od_172 (od_at tB_cX5_watch_5 4 rfl)
theorem dX5_watch_85 : decode cX5_watch 85 = .ok (.iload 4, 2) := od_21 (od_at tB_cX5_watch_5 5 rfl) (od_at tB_cX5_watch_5 6 rfl) rfl
theorem dX5_watch_87 : decode cX5_watch 87 = .ok (.ifCond .ge 9, 3) := od_156 (od_at tB_cX5_watch_5 7 rfl) (od_at tB_cX5_watch_5 8 rfl) (od_at tB_cX5_watch_5 9 rfl) (by decide +kernel)
theorem dX5_watch_90 : decode cX5_watch 90 = .ok (.aload_n 0, 1) := od_42 (od_at tB_cX5_watch_5 10 rfl)
theorem dX5_watch_91 : decode cX5_watch 91 = .ok (.iconst 4, 1) := od_7 (od_at tB_cX5_watch_5 11 rfl)
theorem dX5_watch_92 : decode cX5_watch 92 = .ok (.invokevirtual 237, 3) := od_182 (od_at tB_cX5_watch_5 12 rfl) (od_at tB_cX5_watch_5 13 rfl) (od_at tB_cX5_watch_5 14 rfl) rfl
theorem dX5_watch_95 : decode cX5_watch 95 = .ok (.ireturn, 1) := od_172 (od_at tB_cX5_watch_5 15 rfl)
theorem dX5_watch_96 : decode cX5_watch 96 = .ok (.iload_n 3, 1) := od_29 (od_at tB_cX5_watch_6 0 rfl)
theorem dX5_watch_97 : decode cX5_watch 97 = .ok (.iload 4, 2) := od_21 (od_at tB_cX5_watch_6 1 rfl) (od_at tB_cX5_watch_6 2 rfl) rfl
theorem dX5_watch_99 : decode cX5_watch 99 = .ok (.aload_n 0, 1) := od_42 (od_at tB_cX5_watch_6 3 rfl)
theorem dX5_watch_100 : decode cX5_watch 100 = .ok (.getfield 68, 3) := od_180 (od_at tB_cX5_watch_6 4 rfl) (od_at tB_cX5_watch_6 5 rfl) (od_at tB_cX5_watch_6 6 rfl) rfl
theorem dX5_watch_103 : decode cX5_watch 103 = .ok (.iload_n 1, 1) := od_27 (od_at tB_cX5_watch_6 7 rfl)
theorem dX5_watch_104 : decode cX5_watch 104 = .ok (.iaload, 1) := od_46 (od_at tB_cX5_watch_6 8 rfl)
theorem dX5_watch_105 : decode cX5_watch 105 = .ok (.invokestatic 246, 3) := od_184 (od_at tB_cX5_watch_6 9 rfl) (od_at tB_cX5_watch_6 10 rfl) (od_at tB_cX5_watch_6 11 rfl) rfl
theorem dX5_watch_108 : decode cX5_watch 108 = .ok (.ifCond .eq 9, 3) := od_153 (od_at tB_cX5_watch_6 12 rfl) (od_at tB_cX5_watch_6 13 rfl) (od_at tB_cX5_watch_6 14 rfl) (by decide +kernel)
theorem dX5_watch_111 : decode cX5_watch 111 = .ok (.aload_n 0, 1) := od_42 (od_at tB_cX5_watch_6 15 rfl)
theorem dX5_watch_112 : decode cX5_watch 112 = .ok (.iconst 3, 1) := od_6 (od_at tB_cX5_watch_7 0 rfl)
theorem dX5_watch_113 : decode cX5_watch 113 = .ok (.invokevirtual 237, 3) := od_182 (od_at tB_cX5_watch_7 1 rfl) (od_at tB_cX5_watch_7 2 rfl) (od_at tB_cX5_watch_7 3 rfl) rfl
theorem dX5_watch_116 : decode cX5_watch 116 = .ok (.ireturn, 1) := od_172 (od_at tB_cX5_watch_7 4 rfl)
theorem dX5_watch_117 : decode cX5_watch 117 = .ok (.iconst 0, 1) := od_3 (od_at tB_cX5_watch_7 5 rfl)
theorem dX5_watch_118 : decode cX5_watch 118 = .ok (.istore 6, 2) := od_54 (od_at tB_cX5_watch_7 6 rfl) (od_at tB_cX5_watch_7 7 rfl) rfl
theorem dX5_watch_120 : decode cX5_watch 120 = .ok (.iconst 0, 1) := od_3 (od_at tB_cX5_watch_7 8 rfl)
theorem dX5_watch_121 : decode cX5_watch 121 = .ok (.istore 7, 2) := od_54 (od_at tB_cX5_watch_7 9 rfl) (od_at tB_cX5_watch_7 10 rfl) rfl
theorem dX5_watch_123 : decode cX5_watch 123 = .ok (.iconst 0, 1) := od_3 (od_at tB_cX5_watch_7 11 rfl)
theorem dX5_watch_124 : decode cX5_watch 124 = .ok (.istore 8, 2) := od_54 (od_at tB_cX5_watch_7 12 rfl) (od_at tB_cX5_watch_7 13 rfl) rfl
theorem dX5_watch_126 : decode cX5_watch 126 = .ok (.iconst 0, 1) := od_3 (od_at tB_cX5_watch_7 14 rfl)
theorem dX5_watch_127 : decode cX5_watch 127 = .ok (.istore 9, 2) := od_54 (od_at tB_cX5_watch_7 15 rfl) (od_at tB_cX5_watch_7 16 rfl) rfl
theorem dX5_watch_129 : decode cX5_watch 129 = .ok (.iconst 1, 1) := od_4 (od_at tB_cX5_watch_8 1 rfl)
theorem dX5_watch_130 : decode cX5_watch 130 = .ok (.istore 10, 2) := od_54 (od_at tB_cX5_watch_8 2 rfl) (od_at tB_cX5_watch_8 3 rfl) rfl
theorem dX5_watch_132 : decode cX5_watch 132 = .ok (.iload_n 3, 1) := od_29 (od_at tB_cX5_watch_8 4 rfl)
theorem dX5_watch_133 : decode cX5_watch 133 = .ok (.istore 11, 2) := od_54 (od_at tB_cX5_watch_8 5 rfl) (od_at tB_cX5_watch_8 6 rfl) rfl
theorem dX5_watch_135 : decode cX5_watch 135 = .ok (.iload 11, 2) := od_21 (od_at tB_cX5_watch_8 7 rfl) (od_at tB_cX5_watch_8 8 rfl) rfl
theorem dX5_watch_137 : decode cX5_watch 137 = .ok (.iload_n 3, 1) := od_29 (od_at tB_cX5_watch_8 9 rfl)
theorem dX5_watch_138 : decode cX5_watch 138 = .ok (.iload 4, 2) := od_21 (od_at tB_cX5_watch_8 10 rfl) (od_at tB_cX5_watch_8 11 rfl) rfl
theorem dX5_watch_140 : decode cX5_watch 140 = .ok (.iadd, 1) := od_96 (od_at tB_cX5_watch_8 12 rfl)
theorem dX5_watch_141 : decode cX5_watch 141 = .ok (.if_icmp .ge 113, 3) := od_162 (od_at tB_cX5_watch_8 13 rfl) (od_at tB_cX5_watch_8 14 rfl) (od_at tB_cX5_watch_8 15 rfl) (by decide +kernel)
theorem dX5_watch_144 : decode cX5_watch 144 = .ok (.aload_n 0, 1) := od_42 (od_at tB_cX5_watch_9 0 rfl)
theorem dX5_watch_145 : decode cX5_watch 145 = .ok (.getfield 74, 3) := od_180 (od_at tB_cX5_watch_9 1 rfl) (od_at tB_cX5_watch_9 2 rfl) (od_at tB_cX5_watch_9 3 rfl) rfl
theorem dX5_watch_148 : decode cX5_watch 148 = .ok (.bipush 60, 2) := od_16 (od_at tB_cX5_watch_9 4 rfl) (od_at tB_cX5_watch_9 5 rfl) (by decide +kernel)
theorem dX5_watch_150 : decode cX5_watch 150 = .ok (.iload_n 1, 1) := od_27 (od_at tB_cX5_watch_9 6 rfl)
theorem dX5_watch_151 : decode cX5_watch 151 = .ok (.imul, 1) := od_104 (od_at tB_cX5_watch_9 7 rfl)
theorem dX5_watch_152 : decode cX5_watch 152 = .ok (.iload 11, 2) := od_21 (od_at tB_cX5_watch_9 8 rfl) (od_at tB_cX5_watch_9 9 rfl) rfl
theorem dX5_watch_154 : decode cX5_watch 154 = .ok (.iadd, 1) := od_96 (od_at tB_cX5_watch_9 10 rfl)
theorem dX5_watch_155 : decode cX5_watch 155 = .ok (.iaload, 1) := od_46 (od_at tB_cX5_watch_9 11 rfl)
theorem dX5_watch_156 : decode cX5_watch 156 = .ok (.istore 12, 2) := od_54 (od_at tB_cX5_watch_9 12 rfl) (od_at tB_cX5_watch_9 13 rfl) rfl
theorem dX5_watch_158 : decode cX5_watch 158 = .ok (.iload 12, 2) := od_21 (od_at tB_cX5_watch_9 14 rfl) (od_at tB_cX5_watch_9 15 rfl) rfl
theorem dX5_watch_160 : decode cX5_watch 160 = .ok (.iconst 1, 1) := od_4 (od_at tB_cX5_watch_10 0 rfl)
theorem dX5_watch_161 : decode cX5_watch 161 = .ok (.if_icmp .eq 9, 3) := od_159 (od_at tB_cX5_watch_10 1 rfl) (od_at tB_cX5_watch_10 2 rfl) (od_at tB_cX5_watch_10 3 rfl) (by decide +kernel)
theorem dX5_watch_164 : decode cX5_watch 164 = .ok (.iload 12, 2) := od_21 (od_at tB_cX5_watch_10 4 rfl) (od_at tB_cX5_watch_10 5 rfl) rfl
theorem dX5_watch_166 : decode cX5_watch 166 = .ok (.iconst 2, 1) := od_5 (od_at tB_cX5_watch_10 6 rfl)
theorem dX5_watch_167 : decode cX5_watch 167 = .ok (.if_icmp .ne 81, 3) := od_160 (od_at tB_cX5_watch_10 7 rfl) (od_at tB_cX5_watch_10 8 rfl) (od_at tB_cX5_watch_10 9 rfl) (by decide +kernel)
theorem dX5_watch_170 : decode cX5_watch 170 = .ok (.iload 12, 2) := od_21 (od_at tB_cX5_watch_10 10 rfl) (od_at tB_cX5_watch_10 11 rfl) rfl
theorem dX5_watch_172 : decode cX5_watch 172 = .ok (.iload 9, 2) := od_21 (od_at tB_cX5_watch_10 12 rfl) (od_at tB_cX5_watch_10 13 rfl) rfl
theorem dX5_watch_174 : decode cX5_watch 174 = .ok (.if_icmp .ne 7, 3) := od_160 (od_at tB_cX5_watch_10 14 rfl) (od_at tB_cX5_watch_10 15 rfl) (od_at tB_cX5_watch_10 16 rfl) (by decide +kernel)
theorem dX5_watch_177 : decode cX5_watch 177 = .ok (.iconst 1, 1) := od_4 (od_at tB_cX5_watch_11 1 rfl)
theorem dX5_watch_178 : decode cX5_watch 178 = .ok (.goto 4, 3) := od_167 (od_at tB_cX5_watch_11 2 rfl) (od_at tB_cX5_watch_11 3 rfl) (od_at tB_cX5_watch_11 4 rfl) (by decide +kernel)
theorem dX5_watch_181 : decode cX5_watch 181 = .ok (.iconst 0, 1) := od_3 (od_at tB_cX5_watch_11 5 rfl)
theorem dX5_watch_182 : decode cX5_watch 182 = .ok (.istore 13, 2) := od_54 (od_at tB_cX5_watch_11 6 rfl) (od_at tB_cX5_watch_11 7 rfl) rfl
theorem dX5_watch_184 : decode cX5_watch 184 = .ok (.iinc 6 1, 3) := od_132 (od_at tB_cX5_watch_11 8 rfl) (od_at tB_cX5_watch_11 9 rfl) (od_at tB_cX5_watch_11 10 rfl) rfl (by decide +kernel)
theorem dX5_watch_187 : decode cX5_watch 187 = .ok (.iload 7, 2) := od_21 (od_at tB_cX5_watch_11 11 rfl) (od_at tB_cX5_watch_11 12 rfl) rfl
theorem dX5_watch_189 : decode cX5_watch 189 = .ok (.iload 13, 2) := od_21 (od_at tB_cX5_watch_11 13 rfl) (od_at tB_cX5_watch_11 14 rfl) rfl
theorem dX5_watch_191 : decode cX5_watch 191 = .ok (.ifCond .eq 12, 3) := od_153 (od_at tB_cX5_watch_11 15 rfl) (od_at tB_cX5_watch_11 16 rfl) (od_at tB_cX5_watch_11 17 rfl) (by decide +kernel)
theorem dX5_watch_194 : decode cX5_watch 194 = .ok (.iload 10, 2) := od_21 (od_at tB_cX5_watch_12 2 rfl) (od_at tB_cX5_watch_12 3 rfl) rfl
theorem dX5_watch_196 : decode cX5_watch 196 = .ok (.ifCond .eq 7, 3) := od_153 (od_at tB_cX5_watch_12 4 rfl) (od_at tB_cX5_watch_12 5 rfl) (od_at tB_cX5_watch_12 6 rfl) (by decide +kernel)
theorem dX5_watch_199 : decode cX5_watch 199 = .ok (.iconst 1, 1) := od_4 (od_at tB_cX5_watch_12 7 rfl)
theorem dX5_watch_200 : decode cX5_watch 200 = .ok (.goto 4, 3) := od_167 (od_at tB_cX5_watch_12 8 rfl) (od_at tB_cX5_watch_12 9 rfl) (od_at tB_cX5_watch_12 10 rfl) (by decide +kernel)
theorem dX5_watch_203 : decode cX5_watch 203 = .ok (.iconst 0, 1) := od_3 (od_at tB_cX5_watch_12 11 rfl)
theorem dX5_watch_204 : decode cX5_watch 204 = .ok (.iadd, 1) := od_96 (od_at tB_cX5_watch_12 12 rfl)
theorem dX5_watch_205 : decode cX5_watch 205 = .ok (.istore 7, 2) := od_54 (od_at tB_cX5_watch_12 13 rfl) (od_at tB_cX5_watch_12 14 rfl) rfl
theorem dX5_watch_207 : decode cX5_watch 207 = .ok (.iload 8, 2) := od_21 (od_at tB_cX5_watch_12 15 rfl) (od_at tB_cX5_watch_12 16 rfl) rfl
theorem dX5_watch_209 : decode cX5_watch 209 = .ok (.iload 13, 2) := od_21 (od_at tB_cX5_watch_13 1 rfl) (od_at tB_cX5_watch_13 2 rfl) rfl
theorem dX5_watch_211 : decode cX5_watch 211 = .ok (.ifCond .eq 12, 3) := od_153 (od_at tB_cX5_watch_13 3 rfl) (od_at tB_cX5_watch_13 4 rfl) (od_at tB_cX5_watch_13 5 rfl) (by decide +kernel)
theorem dX5_watch_214 : decode cX5_watch 214 = .ok (.iload 10, 2) := od_21 (od_at tB_cX5_watch_13 6 rfl) (od_at tB_cX5_watch_13 7 rfl) rfl
theorem dX5_watch_216 : decode cX5_watch 216 = .ok (.ifCond .ne 7, 3) := od_154 (od_at tB_cX5_watch_13 8 rfl) (od_at tB_cX5_watch_13 9 rfl) (od_at tB_cX5_watch_13 10 rfl) (by decide +kernel)
theorem dX5_watch_219 : decode cX5_watch 219 = .ok (.iconst 1, 1) := od_4 (od_at tB_cX5_watch_13 11 rfl)
theorem dX5_watch_220 : decode cX5_watch 220 = .ok (.goto 4, 3) := od_167 (od_at tB_cX5_watch_13 12 rfl) (od_at tB_cX5_watch_13 13 rfl) (od_at tB_cX5_watch_13 14 rfl) (by decide +kernel)
theorem dX5_watch_223 : decode cX5_watch 223 = .ok (.iconst 0, 1) := od_3 (od_at tB_cX5_watch_13 15 rfl)
theorem dX5_watch_224 : decode cX5_watch 224 = .ok (.iadd, 1) := od_96 (od_at tB_cX5_watch_14 0 rfl)
theorem dX5_watch_225 : decode cX5_watch 225 = .ok (.istore 8, 2) := od_54 (od_at tB_cX5_watch_14 1 rfl) (od_at tB_cX5_watch_14 2 rfl) rfl
theorem dX5_watch_227 : decode cX5_watch 227 = .ok (.iload 13, 2) := od_21 (od_at tB_cX5_watch_14 3 rfl) (od_at tB_cX5_watch_14 4 rfl) rfl
theorem dX5_watch_229 : decode cX5_watch 229 = .ok (.ifCond .eq 8, 3) := od_153 (od_at tB_cX5_watch_14 5 rfl) (od_at tB_cX5_watch_14 6 rfl) (od_at tB_cX5_watch_14 7 rfl) (by decide +kernel)
theorem dX5_watch_232 : decode cX5_watch 232 = .ok (.iload 10, 2) := od_21 (od_at tB_cX5_watch_14 8 rfl) (od_at tB_cX5_watch_14 9 rfl) rfl
theorem dX5_watch_234 : decode cX5_watch 234 = .ok (.ifCond .ne 7, 3) := od_154 (od_at tB_cX5_watch_14 10 rfl) (od_at tB_cX5_watch_14 11 rfl) (od_at tB_cX5_watch_14 12 rfl) (by decide +kernel)
theorem dX5_watch_237 : decode cX5_watch 237 = .ok (.iconst 1, 1) := od_4 (od_at tB_cX5_watch_14 13 rfl)
theorem dX5_watch_238 : decode cX5_watch 238 = .ok (.goto 4, 3) := od_167 (od_at tB_cX5_watch_14 14 rfl) (od_at tB_cX5_watch_14 15 rfl) (od_at tB_cX5_watch_14 16 rfl) (by decide +kernel)
theorem dX5_watch_241 : decode cX5_watch 241 = .ok (.iconst 0, 1) := od_3 (od_at tB_cX5_watch_15 1 rfl)
theorem dX5_watch_242 : decode cX5_watch 242 = .ok (.istore 10, 2) := od_54 (od_at tB_cX5_watch_15 2 rfl) (od_at tB_cX5_watch_15 3 rfl) rfl
theorem dX5_watch_244 : decode cX5_watch 244 = .ok (.iload 12, 2) := od_21 (od_at tB_cX5_watch_15 4 rfl) (od_at tB_cX5_watch_15 5 rfl) rfl
theorem dX5_watch_246 : decode cX5_watch 246 = .ok (.istore 9, 2) := od_54 (od_at tB_cX5_watch_15 6 rfl) (od_at tB_cX5_watch_15 7 rfl) rfl
theorem dX5_watch_248 : decode cX5_watch 248 = .ok (.iinc 11 1, 3) := od_132 (od_at tB_cX5_watch_15 8 rfl) (od_at tB_cX5_watch_15 9 rfl) (od_at tB_cX5_watch_15 10 rfl) rfl (by decide +kernel)
theorem dX5_watch_251 : decode cX5_watch 251 = .ok (.goto (-116), 3) := od_167 (od_at tB_cX5_watch_15 11 rfl) (od_at tB_cX5_watch_15 12 rfl) (od_at tB_cX5_watch_15 13 rfl) (by decide +kernel)
theorem dX5_watch_254 : decode cX5_watch 254 = .ok (.aload_n 0, 1) := od_42 (od_at tB_cX5_watch_15 14 rfl)
theorem dX5_watch_255 : decode cX5_watch 255 = .ok (.iload 5, 2) := od_21 (od_at tB_cX5_watch_15 15 rfl) (od_at tB_cX5_watch_15 16 rfl) rfl
theorem dX5_watch_257 : decode cX5_watch 257 = .ok (.ifCond .ne 8, 3) := od_154 (od_at tB_cX5_watch_16 1 rfl) (od_at tB_cX5_watch_16 2 rfl) (od_at tB_cX5_watch_16 3 rfl) (by decide +kernel)
theorem dX5_watch_260 : decode cX5_watch 260 = .ok (.iload 6, 2) := od_21 (od_at tB_cX5_watch_16 4 rfl) (od_at tB_cX5_watch_16 5 rfl) rfl
theorem dX5_watch_262 : decode cX5_watch 262 = .ok (.goto 33, 3) := od_167 (od_at tB_cX5_watch_16 6 rfl) (od_at tB_cX5_watch_16 7 rfl) (od_at tB_cX5_watch_16 8 rfl) (by decide +kernel)
theorem dX5_watch_265 : decode cX5_watch 265 = .ok (.iload 5, 2) := od_21 (od_at tB_cX5_watch_16 9 rfl) (od_at tB_cX5_watch_16 10 rfl) rfl
theorem dX5_watch_267 : decode cX5_watch 267 = .ok (.iconst 1, 1) := od_4 (od_at tB_cX5_watch_16 11 rfl)
theorem dX5_watch_268 : decode cX5_watch 268 = .ok (.if_icmp .ne 8, 3) := od_160 (od_at tB_cX5_watch_16 12 rfl) (od_at tB_cX5_watch_16 13 rfl) (od_at tB_cX5_watch_16 14 rfl) (by decide +kernel)
theorem dX5_watch_271 : decode cX5_watch 271 = .ok (.iload 7, 2) := od_21 (od_at tB_cX5_watch_16 15 rfl) (od_at tB_cX5_watch_16 16 rfl) rfl
theorem dX5_watch_273 : decode cX5_watch 273 = .ok (.goto 22, 3) := od_167 (od_at tB_cX5_watch_17 1 rfl) (od_at tB_cX5_watch_17 2 rfl) (od_at tB_cX5_watch_17 3 rfl) (by decide +kernel)
theorem dX5_watch_276 : decode cX5_watch 276 = .ok (.iload 5, 2) := od_21 (od_at tB_cX5_watch_17 4 rfl) (od_at tB_cX5_watch_17 5 rfl) rfl
theorem dX5_watch_278 : decode cX5_watch 278 = .ok (.iconst 2, 1) := od_5 (od_at tB_cX5_watch_17 6 rfl)
theorem dX5_watch_279 : decode cX5_watch 279 = .ok (.if_icmp .ne 8, 3) := od_160 (od_at tB_cX5_watch_17 7 rfl) (od_at tB_cX5_watch_17 8 rfl) (od_at tB_cX5_watch_17 9 rfl) (by decide +kernel)
theorem dX5_watch_282 : decode cX5_watch 282 = .ok (.iload 8, 2) := od_21 (od_at tB_cX5_watch_17 10 rfl) (od_at tB_cX5_watch_17 11 rfl) rfl
theorem dX5_watch_284 : decode cX5_watch 284 = .ok (.goto 11, 3) := od_167 (od_at tB_cX5_watch_17 12 rfl) (od_at tB_cX5_watch_17 13 rfl) (od_at tB_cX5_watch_17 14 rfl) (by decide +kernel)
theorem dX5_watch_287 : decode cX5_watch 287 = .ok (.iload 6, 2) := od_21 (od_at tB_cX5_watch_17 15 rfl) (od_at tB_cX5_watch_17 16 rfl) rfl
theorem dX5_watch_289 : decode cX5_watch 289 = .ok (.iload 7, 2) := od_21 (od_at tB_cX5_watch_18 1 rfl) (od_at tB_cX5_watch_18 2 rfl) rfl
theorem dX5_watch_291 : decode cX5_watch 291 = .ok (.iadd, 1) := od_96 (od_at tB_cX5_watch_18 3 rfl)
theorem dX5_watch_292 : decode cX5_watch 292 = .ok (.iload 8, 2) := od_21 (od_at tB_cX5_watch_18 4 rfl) (od_at tB_cX5_watch_18 5 rfl) rfl
theorem dX5_watch_294 : decode cX5_watch 294 = .ok (.isub, 1) := od_100 (od_at tB_cX5_watch_18 6 rfl)
theorem dX5_watch_295 : decode cX5_watch 295 = .ok (.invokevirtual 233, 3) := od_182 (od_at tB_cX5_watch_18 7 rfl) (od_at tB_cX5_watch_18 8 rfl) (od_at tB_cX5_watch_18 9 rfl) rfl
theorem dX5_watch_298 : decode cX5_watch 298 = .ok (.ireturn, 1) := od_172 (od_at tB_cX5_watch_18 10 rfl)
def RB_cX5_traced_0 : List UInt8 := 0x2a :: 0x10 :: 0x1f :: 0x2a :: 0xb4 :: 0x00 :: 0xfa :: 0x68 :: 0x1b :: 0x60 :: 0xb5 :: 0x00 :: 0xfa :: 0xb1 :: []
theorem tB_cX5_traced_0 : cX5_traced.data.toList.drop 0 = RB_cX5_traced_0 := by decide +kernel
theorem dX5_traced_0 : decode cX5_traced 0 = .ok (.aload_n 0, 1) := od_42 (od_at tB_cX5_traced_0 0 rfl)
theorem dX5_traced_1 : decode cX5_traced 1 = .ok (.bipush 31, 2) := od_16 (od_at tB_cX5_traced_0 1 rfl) (od_at tB_cX5_traced_0 2 rfl) (by decide +kernel)
theorem dX5_traced_3 : decode cX5_traced 3 = .ok (.aload_n 0, 1) := od_42 (od_at tB_cX5_traced_0 3 rfl)
theorem dX5_traced_4 : decode cX5_traced 4 = .ok (.getfield 250, 3) := od_180 (od_at tB_cX5_traced_0 4 rfl) (od_at tB_cX5_traced_0 5 rfl) (od_at tB_cX5_traced_0 6 rfl) rfl
theorem dX5_traced_7 : decode cX5_traced 7 = .ok (.imul, 1) := od_104 (od_at tB_cX5_traced_0 7 rfl)
theorem dX5_traced_8 : decode cX5_traced 8 = .ok (.iload_n 1, 1) := od_27 (od_at tB_cX5_traced_0 8 rfl)
theorem dX5_traced_9 : decode cX5_traced 9 = .ok (.iadd, 1) := od_96 (od_at tB_cX5_traced_0 9 rfl)
theorem dX5_traced_10 : decode cX5_traced 10 = .ok (.putfield 250, 3) := od_181 (od_at tB_cX5_traced_0 10 rfl) (od_at tB_cX5_traced_0 11 rfl) (od_at tB_cX5_traced_0 12 rfl) rfl
theorem dX5_traced_13 : decode cX5_traced 13 = .ok (.return_, 1) := od_177 (od_at tB_cX5_traced_0 13 rfl)
def RB_cX5_tell_5 : List UInt8 := 0x60 :: 0xa7 :: 0x00 :: 0x0c :: 0x2a :: 0xb4 :: 0x00 :: 0x2f :: 0x1b :: 0x2e :: 0x74 :: 0x04 :: 0x64 :: 0xac :: []
def RB_cX5_tell_4 : List UInt8 := 0x29 :: 0x1b :: 0x2e :: 0x04 :: 0xa0 :: 0x00 :: 0x10 :: 0x11 :: 0x03 :: 0xe8 :: 0x2a :: 0xb4 :: 0x00 :: 0x2f :: 0x1b :: 0x2e :: RB_cX5_tell_5
def RB_cX5_tell_3 : List UInt8 := 0x2e :: 0x9a :: 0x00 :: 0x0c :: 0x2a :: 0xb4 :: 0x00 :: 0x2f :: 0x1b :: 0x2e :: 0xa7 :: 0x00 :: 0x23 :: 0x2a :: 0xb4 :: 0x00 :: RB_cX5_tell_4
def RB_cX5_tell_2 : List UInt8 := 0x00 :: 0x04 :: 0x06 :: 0xb6 :: 0x00 :: 0xfd :: 0x2a :: 0x04 :: 0xb6 :: 0x00 :: 0xfd :: 0x2a :: 0xb4 :: 0x00 :: 0x29 :: 0x1b :: RB_cX5_tell_3
def RB_cX5_tell_1 : List UInt8 := 0x99 :: 0x00 :: 0x16 :: 0x2a :: 0x2a :: 0xb4 :: 0x00 :: 0x29 :: 0x1b :: 0x2e :: 0x04 :: 0xa0 :: 0x00 :: 0x07 :: 0x05 :: 0xa7 :: RB_cX5_tell_2
def RB_cX5_tell_0 : List UInt8 := 0x2a :: 0x1b :: 0xb6 :: 0x00 :: 0xbc :: 0x99 :: 0x00 :: 0x05 :: 0x02 :: 0xac :: 0x2a :: 0xb4 :: 0x00 :: 0x29 :: 0x1b :: 0x2e :: RB_cX5_tell_1
theorem tB_cX5_tell_0 : cX5_tell.data.toList.drop 0 = RB_cX5_tell_0 := by decide +kernel
theorem tB_cX5_tell_1 : cX5_tell.data.toList.drop 16 = RB_cX5_tell_1 := od_st tB_cX5_tell_0 16 rfl
theorem tB_cX5_tell_2 : cX5_tell.data.toList.drop 32 = RB_cX5_tell_2 := od_st tB_cX5_tell_1 16 rfl
theorem tB_cX5_tell_3 : cX5_tell.data.toList.drop 48 = RB_cX5_tell_3 := od_st tB_cX5_tell_2 16 rfl
theorem tB_cX5_tell_4 : cX5_tell.data.toList.drop 64 = RB_cX5_tell_4 := od_st tB_cX5_tell_3 16 rfl
theorem tB_cX5_tell_5 : cX5_tell.data.toList.drop 80 = RB_cX5_tell_5 := od_st tB_cX5_tell_4 16 rfl
theorem dX5_tell_0 : decode cX5_tell 0 = .ok (.aload_n 0, 1) := od_42 (od_at tB_cX5_tell_0 0 rfl)
theorem dX5_tell_1 : decode cX5_tell 1 = .ok (.iload_n 1, 1) := od_27 (od_at tB_cX5_tell_0 1 rfl)
theorem dX5_tell_2 : decode cX5_tell 2 = .ok (.invokevirtual 188, 3) := od_182 (od_at tB_cX5_tell_0 2 rfl) (od_at tB_cX5_tell_0 3 rfl) (od_at tB_cX5_tell_0 4 rfl) rfl
theorem dX5_tell_5 : decode cX5_tell 5 = .ok (.ifCond .eq 5, 3) := od_153 (od_at tB_cX5_tell_0 5 rfl) (od_at tB_cX5_tell_0 6 rfl) (od_at tB_cX5_tell_0 7 rfl) (by decide +kernel)
theorem dX5_tell_8 : decode cX5_tell 8 = .ok (.iconst (-1), 1) := od_2 (od_at tB_cX5_tell_0 8 rfl)
theorem dX5_tell_9 : decode cX5_tell 9 = .ok (.ireturn, 1) := od_172 (od_at tB_cX5_tell_0 9 rfl)
theorem dX5_tell_10 : decode cX5_tell 10 = .ok (.aload_n 0, 1) := od_42 (od_at tB_cX5_tell_0 10 rfl)
theorem dX5_tell_11 : decode cX5_tell 11 = .ok (.getfield 41, 3) := od_180 (od_at tB_cX5_tell_0 11 rfl) (od_at tB_cX5_tell_0 12 rfl) (od_at tB_cX5_tell_0 13 rfl) rfl
theorem dX5_tell_14 : decode cX5_tell 14 = .ok (.iload_n 1, 1) := od_27 (od_at tB_cX5_tell_0 14 rfl)
theorem dX5_tell_15 : decode cX5_tell 15 = .ok (.iaload, 1) := od_46 (od_at tB_cX5_tell_0 15 rfl)
theorem dX5_tell_16 : decode cX5_tell 16 = .ok (.ifCond .eq 22, 3) := od_153 (od_at tB_cX5_tell_1 0 rfl) (od_at tB_cX5_tell_1 1 rfl) (od_at tB_cX5_tell_1 2 rfl) (by decide +kernel)
theorem dX5_tell_19 : decode cX5_tell 19 = .ok (.aload_n 0, 1) := od_42 (od_at tB_cX5_tell_1 3 rfl)
theorem dX5_tell_20 : decode cX5_tell 20 = .ok (.aload_n 0, 1) := od_42 (od_at tB_cX5_tell_1 4 rfl)
theorem dX5_tell_21 : decode cX5_tell 21 = .ok (.getfield 41, 3) := od_180 (od_at tB_cX5_tell_1 5 rfl) (od_at tB_cX5_tell_1 6 rfl) (od_at tB_cX5_tell_1 7 rfl) rfl
theorem dX5_tell_24 : decode cX5_tell 24 = .ok (.iload_n 1, 1) := od_27 (od_at tB_cX5_tell_1 8 rfl)
theorem dX5_tell_25 : decode cX5_tell 25 = .ok (.iaload, 1) := od_46 (od_at tB_cX5_tell_1 9 rfl)
theorem dX5_tell_26 : decode cX5_tell 26 = .ok (.iconst 1, 1) := od_4 (od_at tB_cX5_tell_1 10 rfl)
theorem dX5_tell_27 : decode cX5_tell 27 = .ok (.if_icmp .ne 7, 3) := od_160 (od_at tB_cX5_tell_1 11 rfl) (od_at tB_cX5_tell_1 12 rfl) (od_at tB_cX5_tell_1 13 rfl) (by decide +kernel)
theorem dX5_tell_30 : decode cX5_tell 30 = .ok (.iconst 2, 1) := od_5 (od_at tB_cX5_tell_1 14 rfl)
theorem dX5_tell_31 : decode cX5_tell 31 = .ok (.goto 4, 3) := od_167 (od_at tB_cX5_tell_1 15 rfl) (od_at tB_cX5_tell_1 16 rfl) (od_at tB_cX5_tell_1 17 rfl) (by decide +kernel)
theorem dX5_tell_34 : decode cX5_tell 34 = .ok (.iconst 3, 1) := od_6 (od_at tB_cX5_tell_2 2 rfl)
theorem dX5_tell_35 : decode cX5_tell 35 = .ok (.invokevirtual 253, 3) := od_182 (od_at tB_cX5_tell_2 3 rfl) (od_at tB_cX5_tell_2 4 rfl) (od_at tB_cX5_tell_2 5 rfl) rfl
theorem dX5_tell_38 : decode cX5_tell 38 = .ok (.aload_n 0, 1) := od_42 (od_at tB_cX5_tell_2 6 rfl)
theorem dX5_tell_39 : decode cX5_tell 39 = .ok (.iconst 1, 1) := od_4 (od_at tB_cX5_tell_2 7 rfl)
theorem dX5_tell_40 : decode cX5_tell 40 = .ok (.invokevirtual 253, 3) := od_182 (od_at tB_cX5_tell_2 8 rfl) (od_at tB_cX5_tell_2 9 rfl) (od_at tB_cX5_tell_2 10 rfl) rfl
theorem dX5_tell_43 : decode cX5_tell 43 = .ok (.aload_n 0, 1) := od_42 (od_at tB_cX5_tell_2 11 rfl)
theorem dX5_tell_44 : decode cX5_tell 44 = .ok (.getfield 41, 3) := od_180 (od_at tB_cX5_tell_2 12 rfl) (od_at tB_cX5_tell_2 13 rfl) (od_at tB_cX5_tell_2 14 rfl) rfl
theorem dX5_tell_47 : decode cX5_tell 47 = .ok (.iload_n 1, 1) := od_27 (od_at tB_cX5_tell_2 15 rfl)
theorem dX5_tell_48 : decode cX5_tell 48 = .ok (.iaload, 1) := od_46 (od_at tB_cX5_tell_3 0 rfl)
theorem dX5_tell_49 : decode cX5_tell 49 = .ok (.ifCond .ne 12, 3) := od_154 (od_at tB_cX5_tell_3 1 rfl) (od_at tB_cX5_tell_3 2 rfl) (od_at tB_cX5_tell_3 3 rfl) (by decide +kernel)
theorem dX5_tell_52 : decode cX5_tell 52 = .ok (.aload_n 0, 1) := od_42 (od_at tB_cX5_tell_3 4 rfl)
theorem dX5_tell_53 : decode cX5_tell 53 = .ok (.getfield 47, 3) := od_180 (od_at tB_cX5_tell_3 5 rfl) (od_at tB_cX5_tell_3 6 rfl) (od_at tB_cX5_tell_3 7 rfl) rfl
theorem dX5_tell_56 : decode cX5_tell 56 = .ok (.iload_n 1, 1) := od_27 (od_at tB_cX5_tell_3 8 rfl)
theorem dX5_tell_57 : decode cX5_tell 57 = .ok (.iaload, 1) := od_46 (od_at tB_cX5_tell_3 9 rfl)
theorem dX5_tell_58 : decode cX5_tell 58 = .ok (.goto 35, 3) := od_167 (od_at tB_cX5_tell_3 10 rfl) (od_at tB_cX5_tell_3 11 rfl) (od_at tB_cX5_tell_3 12 rfl) (by decide +kernel)
theorem dX5_tell_61 : decode cX5_tell 61 = .ok (.aload_n 0, 1) := od_42 (od_at tB_cX5_tell_3 13 rfl)
theorem dX5_tell_62 : decode cX5_tell 62 = .ok (.getfield 41, 3) := od_180 (od_at tB_cX5_tell_3 14 rfl) (od_at tB_cX5_tell_3 15 rfl) (od_at tB_cX5_tell_3 16 rfl) rfl
theorem dX5_tell_65 : decode cX5_tell 65 = .ok (.iload_n 1, 1) := od_27 (od_at tB_cX5_tell_4 1 rfl)
theorem dX5_tell_66 : decode cX5_tell 66 = .ok (.iaload, 1) := od_46 (od_at tB_cX5_tell_4 2 rfl)
theorem dX5_tell_67 : decode cX5_tell 67 = .ok (.iconst 1, 1) := od_4 (od_at tB_cX5_tell_4 3 rfl)
theorem dX5_tell_68 : decode cX5_tell 68 = .ok (.if_icmp .ne 16, 3) := od_160 (od_at tB_cX5_tell_4 4 rfl) (od_at tB_cX5_tell_4 5 rfl) (od_at tB_cX5_tell_4 6 rfl) (by decide +kernel)
theorem dX5_tell_71 : decode cX5_tell 71 = .ok (.sipush 1000, 3) := od_17 (od_at tB_cX5_tell_4 7 rfl) (od_at tB_cX5_tell_4 8 rfl) (od_at tB_cX5_tell_4 9 rfl) (by decide +kernel)
theorem dX5_tell_74 : decode cX5_tell 74 = .ok (.aload_n 0, 1) := od_42 (od_at tB_cX5_tell_4 10 rfl)
theorem dX5_tell_75 : decode cX5_tell 75 = .ok (.getfield 47, 3) := od_180 (od_at tB_cX5_tell_4 11 rfl) (od_at tB_cX5_tell_4 12 rfl) (od_at tB_cX5_tell_4 13 rfl) rfl
theorem dX5_tell_78 : decode cX5_tell 78 = .ok (.iload_n 1, 1) := od_27 (od_at tB_cX5_tell_4 14 rfl)
theorem dX5_tell_79 : decode cX5_tell 79 = .ok (.iaload, 1) := od_46 (od_at tB_cX5_tell_4 15 rfl)
theorem dX5_tell_80 : decode cX5_tell 80 = .ok (.iadd, 1) := od_96 (od_at tB_cX5_tell_5 0 rfl)
theorem dX5_tell_81 : decode cX5_tell 81 = .ok (.goto 12, 3) := od_167 (od_at tB_cX5_tell_5 1 rfl) (od_at tB_cX5_tell_5 2 rfl) (od_at tB_cX5_tell_5 3 rfl) (by decide +kernel)
theorem dX5_tell_84 : decode cX5_tell 84 = .ok (.aload_n 0, 1) := od_42 (od_at tB_cX5_tell_5 4 rfl)
theorem dX5_tell_85 : decode cX5_tell 85 = .ok (.getfield 47, 3) := od_180 (od_at tB_cX5_tell_5 5 rfl) (od_at tB_cX5_tell_5 6 rfl) (od_at tB_cX5_tell_5 7 rfl) rfl
theorem dX5_tell_88 : decode cX5_tell 88 = .ok (.iload_n 1, 1) := od_27 (od_at tB_cX5_tell_5 8 rfl)
theorem dX5_tell_89 : decode cX5_tell 89 = .ok (.iaload, 1) := od_46 (od_at tB_cX5_tell_5 9 rfl)
theorem dX5_tell_90 : decode cX5_tell 90 = .ok (.ineg, 1) := od_116 (od_at tB_cX5_tell_5 10 rfl)
theorem dX5_tell_91 : decode cX5_tell 91 = .ok (.iconst 1, 1) := od_4 (od_at tB_cX5_tell_5 11 rfl)
theorem dX5_tell_92 : decode cX5_tell 92 = .ok (.isub, 1) := od_100 (od_at tB_cX5_tell_5 12 rfl)
theorem dX5_tell_93 : decode cX5_tell 93 = .ok (.ireturn, 1) := od_172 (od_at tB_cX5_tell_5 13 rfl)
def RB_cX5_worth_4 : List UInt8 := 0xa7 :: 0x00 :: 0x05 :: 0x20 :: 0x88 :: 0xac :: []
def RB_cX5_worth_3 : List UInt8 := 0x07 :: 0x04 :: 0xa7 :: 0x00 :: 0x13 :: 0x20 :: 0x14 :: 0x01 :: 0x00 :: 0x94 :: 0x9e :: 0x00 :: 0x09 :: 0x13 :: 0x01 :: 0x02 :: RB_cX5_worth_4
def RB_cX5_worth_2 : List UInt8 := 0x00 :: 0xc9 :: 0x14 :: 0x00 :: 0x95 :: 0x6d :: 0x41 :: 0x2a :: 0xb4 :: 0x00 :: 0x29 :: 0x1b :: 0x2e :: 0x05 :: 0xa0 :: 0x00 :: RB_cX5_worth_3
def RB_cX5_worth_1 : List UInt8 := 0x2e :: 0x05 :: 0xa0 :: 0x00 :: 0x07 :: 0x08 :: 0xa7 :: 0x00 :: 0x04 :: 0x07 :: 0xb6 :: 0x00 :: 0xfd :: 0x2a :: 0x1b :: 0xb6 :: RB_cX5_worth_2
def RB_cX5_worth_0 : List UInt8 := 0x2a :: 0x1b :: 0xb6 :: 0x00 :: 0xbc :: 0x99 :: 0x00 :: 0x05 :: 0x02 :: 0xac :: 0x2a :: 0x2a :: 0xb4 :: 0x00 :: 0x29 :: 0x1b :: RB_cX5_worth_1
theorem tB_cX5_worth_0 : cX5_worth.data.toList.drop 0 = RB_cX5_worth_0 := by decide +kernel
theorem tB_cX5_worth_1 : cX5_worth.data.toList.drop 16 = RB_cX5_worth_1 := od_st tB_cX5_worth_0 16 rfl
theorem tB_cX5_worth_2 : cX5_worth.data.toList.drop 32 = RB_cX5_worth_2 := od_st tB_cX5_worth_1 16 rfl
theorem tB_cX5_worth_3 : cX5_worth.data.toList.drop 48 = RB_cX5_worth_3 := od_st tB_cX5_worth_2 16 rfl
theorem tB_cX5_worth_4 : cX5_worth.data.toList.drop 64 = RB_cX5_worth_4 := od_st tB_cX5_worth_3 16 rfl
theorem dX5_worth_0 : decode cX5_worth 0 = .ok (.aload_n 0, 1) := od_42 (od_at tB_cX5_worth_0 0 rfl)
theorem dX5_worth_1 : decode cX5_worth 1 = .ok (.iload_n 1, 1) := od_27 (od_at tB_cX5_worth_0 1 rfl)
theorem dX5_worth_2 : decode cX5_worth 2 = .ok (.invokevirtual 188, 3) := od_182 (od_at tB_cX5_worth_0 2 rfl) (od_at tB_cX5_worth_0 3 rfl) (od_at tB_cX5_worth_0 4 rfl) rfl
theorem dX5_worth_5 : decode cX5_worth 5 = .ok (.ifCond .eq 5, 3) := od_153 (od_at tB_cX5_worth_0 5 rfl) (od_at tB_cX5_worth_0 6 rfl) (od_at tB_cX5_worth_0 7 rfl) (by decide +kernel)
theorem dX5_worth_8 : decode cX5_worth 8 = .ok (.iconst (-1), 1) := od_2 (od_at tB_cX5_worth_0 8 rfl)
theorem dX5_worth_9 : decode cX5_worth 9 = .ok (.ireturn, 1) := od_172 (od_at tB_cX5_worth_0 9 rfl)
theorem dX5_worth_10 : decode cX5_worth 10 = .ok (.aload_n 0, 1) := od_42 (od_at tB_cX5_worth_0 10 rfl)
theorem dX5_worth_11 : decode cX5_worth 11 = .ok (.aload_n 0, 1) := od_42 (od_at tB_cX5_worth_0 11 rfl)
theorem dX5_worth_12 : decode cX5_worth 12 = .ok (.getfield 41, 3) := od_180 (od_at tB_cX5_worth_0 12 rfl) (od_at tB_cX5_worth_0 13 rfl) (od_at tB_cX5_worth_0 14 rfl) rfl
theorem dX5_worth_15 : decode cX5_worth 15 = .ok (.iload_n 1, 1) := od_27 (od_at tB_cX5_worth_0 15 rfl)
theorem dX5_worth_16 : decode cX5_worth 16 = .ok (.iaload, 1) := od_46 (od_at tB_cX5_worth_1 0 rfl)
theorem dX5_worth_17 : decode cX5_worth 17 = .ok (.iconst 2, 1) := od_5 (od_at tB_cX5_worth_1 1 rfl)
theorem dX5_worth_18 : decode cX5_worth 18 = .ok (.if_icmp .ne 7, 3) := od_160 (od_at tB_cX5_worth_1 2 rfl) (od_at tB_cX5_worth_1 3 rfl) (od_at tB_cX5_worth_1 4 rfl) (by decide +kernel)
theorem dX5_worth_21 : decode cX5_worth 21 = .ok (.iconst 5, 1) := od_8 (od_at tB_cX5_worth_1 5 rfl)
theorem dX5_worth_22 : decode cX5_worth 22 = .ok (.goto 4, 3) := od_167 (od_at tB_cX5_worth_1 6 rfl) (od_at tB_cX5_worth_1 7 rfl) (od_at tB_cX5_worth_1 8 rfl) (by decide +kernel)
theorem dX5_worth_25 : decode cX5_worth 25 = .ok (.iconst 4, 1) := od_7 (od_at tB_cX5_worth_1 9 rfl)
theorem dX5_worth_26 : decode cX5_worth 26 = .ok (.invokevirtual 253, 3) := od_182 (od_at tB_cX5_worth_1 10 rfl) (od_at tB_cX5_worth_1 11 rfl) (od_at tB_cX5_worth_1 12 rfl) rfl
theorem dX5_worth_29 : decode cX5_worth 29 = .ok (.aload_n 0, 1) := od_42 (od_at tB_cX5_worth_1 13 rfl)
theorem dX5_worth_30 : decode cX5_worth 30 = .ok (.iload_n 1, 1) := od_27 (od_at tB_cX5_worth_1 14 rfl)
theorem dX5_worth_31 : decode cX5_worth 31 = .ok (.invokevirtual 201, 3) := od_182 (od_at tB_cX5_worth_1 15 rfl) (od_at tB_cX5_worth_1 16 rfl) (od_at tB_cX5_worth_1 17 rfl) rfl
theorem dX5_worth_34 : decode cX5_worth 34 = .ok (.ldc2_w 149, 3) := od_20 (od_at tB_cX5_worth_2 2 rfl) (od_at tB_cX5_worth_2 3 rfl) (od_at tB_cX5_worth_2 4 rfl) rfl
theorem dX5_worth_37 : decode cX5_worth 37 = .ok (.ldiv, 1) := od_109 (od_at tB_cX5_worth_2 5 rfl)
theorem dX5_worth_38 : decode cX5_worth 38 = .ok (.lstore_n 2, 1) := od_65 (od_at tB_cX5_worth_2 6 rfl)
theorem dX5_worth_39 : decode cX5_worth 39 = .ok (.aload_n 0, 1) := od_42 (od_at tB_cX5_worth_2 7 rfl)
theorem dX5_worth_40 : decode cX5_worth 40 = .ok (.getfield 41, 3) := od_180 (od_at tB_cX5_worth_2 8 rfl) (od_at tB_cX5_worth_2 9 rfl) (od_at tB_cX5_worth_2 10 rfl) rfl
theorem dX5_worth_43 : decode cX5_worth 43 = .ok (.iload_n 1, 1) := od_27 (od_at tB_cX5_worth_2 11 rfl)
theorem dX5_worth_44 : decode cX5_worth 44 = .ok (.iaload, 1) := od_46 (od_at tB_cX5_worth_2 12 rfl)
theorem dX5_worth_45 : decode cX5_worth 45 = .ok (.iconst 2, 1) := od_5 (od_at tB_cX5_worth_2 13 rfl)
theorem dX5_worth_46 : decode cX5_worth 46 = .ok (.if_icmp .ne 7, 3) := od_160 (od_at tB_cX5_worth_2 14 rfl) (od_at tB_cX5_worth_2 15 rfl) (od_at tB_cX5_worth_2 16 rfl) (by decide +kernel)
theorem dX5_worth_49 : decode cX5_worth 49 = .ok (.iconst 1, 1) := od_4 (od_at tB_cX5_worth_3 1 rfl)
theorem dX5_worth_50 : decode cX5_worth 50 = .ok (.goto 19, 3) := od_167 (od_at tB_cX5_worth_3 2 rfl) (od_at tB_cX5_worth_3 3 rfl) (od_at tB_cX5_worth_3 4 rfl) (by decide +kernel)
theorem dX5_worth_53 : decode cX5_worth 53 = .ok (.lload_n 2, 1) := od_32 (od_at tB_cX5_worth_3 5 rfl)
theorem dX5_worth_54 : decode cX5_worth 54 = .ok (.ldc2_w 256, 3) := od_20 (od_at tB_cX5_worth_3 6 rfl) (od_at tB_cX5_worth_3 7 rfl) (od_at tB_cX5_worth_3 8 rfl) rfl
theorem dX5_worth_57 : decode cX5_worth 57 = .ok (.lcmp, 1) := od_148 (od_at tB_cX5_worth_3 9 rfl)
theorem dX5_worth_58 : decode cX5_worth 58 = .ok (.ifCond .le 9, 3) := od_158 (od_at tB_cX5_worth_3 10 rfl) (od_at tB_cX5_worth_3 11 rfl) (od_at tB_cX5_worth_3 12 rfl) (by decide +kernel)
theorem dX5_worth_61 : decode cX5_worth 61 = .ok (.ldc_w 258, 3) := od_19 (od_at tB_cX5_worth_3 13 rfl) (od_at tB_cX5_worth_3 14 rfl) (od_at tB_cX5_worth_3 15 rfl) rfl
theorem dX5_worth_64 : decode cX5_worth 64 = .ok (.goto 5, 3) := od_167 (od_at tB_cX5_worth_4 0 rfl) (od_at tB_cX5_worth_4 1 rfl) (od_at tB_cX5_worth_4 2 rfl) (by decide +kernel)
theorem dX5_worth_67 : decode cX5_worth 67 = .ok (.lload_n 2, 1) := od_32 (od_at tB_cX5_worth_4 3 rfl)
theorem dX5_worth_68 : decode cX5_worth 68 = .ok (.l2i, 1) := od_136 (od_at tB_cX5_worth_4 4 rfl)
theorem dX5_worth_69 : decode cX5_worth 69 = .ok (.ireturn, 1) := od_172 (od_at tB_cX5_worth_4 5 rfl)
def RB_cX5_as_3 : List UInt8 := 0xa7 :: 0x00 :: 0x08 :: 0x2a :: 0x05 :: 0xb6 :: 0x00 :: 0xed :: 0xac :: []
def RB_cX5_as_2 : List UInt8 := 0xac :: 0x2a :: 0xb4 :: 0x00 :: 0x29 :: 0x1b :: 0x2e :: 0x1c :: 0xa1 :: 0x00 :: 0x0b :: 0x2a :: 0x04 :: 0xb6 :: 0x00 :: 0xe9 :: RB_cX5_as_3
def RB_cX5_as_1 : List UInt8 := 0x09 :: 0x14 :: 0x00 :: 0x60 :: 0xb8 :: 0x00 :: 0x65 :: 0x9a :: 0x00 :: 0x0a :: 0x2a :: 0x10 :: 0xfe :: 0xb6 :: 0x00 :: 0xe9 :: RB_cX5_as_2
def RB_cX5_as_0 : List UInt8 := 0x2a :: 0x1b :: 0xb6 :: 0x00 :: 0xbc :: 0x99 :: 0x00 :: 0x09 :: 0x2a :: 0x02 :: 0xb6 :: 0x00 :: 0xe9 :: 0xac :: 0x1c :: 0x85 :: RB_cX5_as_1
theorem tB_cX5_as_0 : cX5_as.data.toList.drop 0 = RB_cX5_as_0 := by decide +kernel
theorem tB_cX5_as_1 : cX5_as.data.toList.drop 16 = RB_cX5_as_1 := od_st tB_cX5_as_0 16 rfl
theorem tB_cX5_as_2 : cX5_as.data.toList.drop 32 = RB_cX5_as_2 := od_st tB_cX5_as_1 16 rfl
theorem tB_cX5_as_3 : cX5_as.data.toList.drop 48 = RB_cX5_as_3 := od_st tB_cX5_as_2 16 rfl
theorem dX5_as_0 : decode cX5_as 0 = .ok (.aload_n 0, 1) := od_42 (od_at tB_cX5_as_0 0 rfl)
theorem dX5_as_1 : decode cX5_as 1 = .ok (.iload_n 1, 1) := od_27 (od_at tB_cX5_as_0 1 rfl)
theorem dX5_as_2 : decode cX5_as 2 = .ok (.invokevirtual 188, 3) := od_182 (od_at tB_cX5_as_0 2 rfl) (od_at tB_cX5_as_0 3 rfl) (od_at tB_cX5_as_0 4 rfl) rfl
theorem dX5_as_5 : decode cX5_as 5 = .ok (.ifCond .eq 9, 3) := od_153 (od_at tB_cX5_as_0 5 rfl) (od_at tB_cX5_as_0 6 rfl) (od_at tB_cX5_as_0 7 rfl) (by decide +kernel)
theorem dX5_as_8 : decode cX5_as 8 = .ok (.aload_n 0, 1) := od_42 (od_at tB_cX5_as_0 8 rfl)
theorem dX5_as_9 : decode cX5_as 9 = .ok (.iconst (-1), 1) := od_2 (od_at tB_cX5_as_0 9 rfl)
theorem dX5_as_10 : decode cX5_as 10 = .ok (.invokevirtual 233, 3) := od_182 (od_at tB_cX5_as_0 10 rfl) (od_at tB_cX5_as_0 11 rfl) (od_at tB_cX5_as_0 12 rfl) rfl
theorem dX5_as_13 : decode cX5_as 13 = .ok (.ireturn, 1) := od_172 (od_at tB_cX5_as_0 13 rfl)
theorem dX5_as_14 : decode cX5_as 14 = .ok (.iload_n 2, 1) := od_28 (od_at tB_cX5_as_0 14 rfl)
theorem dX5_as_15 : decode cX5_as 15 = .ok (.i2l, 1) := od_133 (od_at tB_cX5_as_0 15 rfl)
theorem dX5_as_16 : decode cX5_as 16 = .ok (.lconst 0, 1) := od_9 (od_at tB_cX5_as_1 0 rfl)
theorem dX5_as_17 : decode cX5_as 17 = .ok (.ldc2_w 96, 3) := od_20 (od_at tB_cX5_as_1 1 rfl) (od_at tB_cX5_as_1 2 rfl) (od_at tB_cX5_as_1 3 rfl) rfl
theorem dX5_as_20 : decode cX5_as 20 = .ok (.invokestatic 101, 3) := od_184 (od_at tB_cX5_as_1 4 rfl) (od_at tB_cX5_as_1 5 rfl) (od_at tB_cX5_as_1 6 rfl) rfl
theorem dX5_as_23 : decode cX5_as 23 = .ok (.ifCond .ne 10, 3) := od_154 (od_at tB_cX5_as_1 7 rfl) (od_at tB_cX5_as_1 8 rfl) (od_at tB_cX5_as_1 9 rfl) (by decide +kernel)
theorem dX5_as_26 : decode cX5_as 26 = .ok (.aload_n 0, 1) := od_42 (od_at tB_cX5_as_1 10 rfl)
theorem dX5_as_27 : decode cX5_as 27 = .ok (.bipush (-2), 2) := od_16 (od_at tB_cX5_as_1 11 rfl) (od_at tB_cX5_as_1 12 rfl) (by decide +kernel)
theorem dX5_as_29 : decode cX5_as 29 = .ok (.invokevirtual 233, 3) := od_182 (od_at tB_cX5_as_1 13 rfl) (od_at tB_cX5_as_1 14 rfl) (od_at tB_cX5_as_1 15 rfl) rfl
theorem dX5_as_32 : decode cX5_as 32 = .ok (.ireturn, 1) := od_172 (od_at tB_cX5_as_2 0 rfl)
theorem dX5_as_33 : decode cX5_as 33 = .ok (.aload_n 0, 1) := od_42 (od_at tB_cX5_as_2 1 rfl)
theorem dX5_as_34 : decode cX5_as 34 = .ok (.getfield 41, 3) := od_180 (od_at tB_cX5_as_2 2 rfl) (od_at tB_cX5_as_2 3 rfl) (od_at tB_cX5_as_2 4 rfl) rfl
theorem dX5_as_37 : decode cX5_as 37 = .ok (.iload_n 1, 1) := od_27 (od_at tB_cX5_as_2 5 rfl)
theorem dX5_as_38 : decode cX5_as 38 = .ok (.iaload, 1) := od_46 (od_at tB_cX5_as_2 6 rfl)
theorem dX5_as_39 : decode cX5_as 39 = .ok (.iload_n 2, 1) := od_28 (od_at tB_cX5_as_2 7 rfl)
theorem dX5_as_40 : decode cX5_as 40 = .ok (.if_icmp .lt 11, 3) := od_161 (od_at tB_cX5_as_2 8 rfl) (od_at tB_cX5_as_2 9 rfl) (od_at tB_cX5_as_2 10 rfl) (by decide +kernel)
theorem dX5_as_43 : decode cX5_as 43 = .ok (.aload_n 0, 1) := od_42 (od_at tB_cX5_as_2 11 rfl)
theorem dX5_as_44 : decode cX5_as 44 = .ok (.iconst 1, 1) := od_4 (od_at tB_cX5_as_2 12 rfl)
theorem dX5_as_45 : decode cX5_as 45 = .ok (.invokevirtual 233, 3) := od_182 (od_at tB_cX5_as_2 13 rfl) (od_at tB_cX5_as_2 14 rfl) (od_at tB_cX5_as_2 15 rfl) rfl
theorem dX5_as_48 : decode cX5_as 48 = .ok (.goto 8, 3) := od_167 (od_at tB_cX5_as_3 0 rfl) (od_at tB_cX5_as_3 1 rfl) (od_at tB_cX5_as_3 2 rfl) (by decide +kernel)
theorem dX5_as_51 : decode cX5_as 51 = .ok (.aload_n 0, 1) := od_42 (od_at tB_cX5_as_3 3 rfl)
theorem dX5_as_52 : decode cX5_as 52 = .ok (.iconst 2, 1) := od_5 (od_at tB_cX5_as_3 4 rfl)
theorem dX5_as_53 : decode cX5_as 53 = .ok (.invokevirtual 237, 3) := od_182 (od_at tB_cX5_as_3 5 rfl) (od_at tB_cX5_as_3 6 rfl) (od_at tB_cX5_as_3 7 rfl) rfl
theorem dX5_as_56 : decode cX5_as 56 = .ok (.ireturn, 1) := od_172 (od_at tB_cX5_as_3 8 rfl)
def RB_cX5_trace_0 : List UInt8 := 0x2a :: 0xb4 :: 0x00 :: 0xfa :: 0xac :: []
theorem tB_cX5_trace_0 : cX5_trace.data.toList.drop 0 = RB_cX5_trace_0 := by decide +kernel
theorem dX5_trace_0 : decode cX5_trace 0 = .ok (.aload_n 0, 1) := od_42 (od_at tB_cX5_trace_0 0 rfl)
theorem dX5_trace_1 : decode cX5_trace 1 = .ok (.getfield 250, 3) := od_180 (od_at tB_cX5_trace_0 1 rfl) (od_at tB_cX5_trace_0 2 rfl) (od_at tB_cX5_trace_0 3 rfl) rfl
theorem dX5_trace_4 : decode cX5_trace 4 = .ok (.ireturn, 1) := od_172 (od_at tB_cX5_trace_0 4 rfl)
def RB_cX5_fault_0 : List UInt8 := 0x2a :: 0xb4 :: 0x00 :: 0x59 :: 0xac :: []
theorem tB_cX5_fault_0 : cX5_fault.data.toList.drop 0 = RB_cX5_fault_0 := by decide +kernel
theorem dX5_fault_0 : decode cX5_fault 0 = .ok (.aload_n 0, 1) := od_42 (od_at tB_cX5_fault_0 0 rfl)
theorem dX5_fault_1 : decode cX5_fault 1 = .ok (.getfield 89, 3) := od_180 (od_at tB_cX5_fault_0 1 rfl) (od_at tB_cX5_fault_0 2 rfl) (od_at tB_cX5_fault_0 3 rfl) rfl
theorem dX5_fault_4 : decode cX5_fault 4 = .ok (.ireturn, 1) := od_172 (od_at tB_cX5_fault_0 4 rfl)
def RB_cX5_told_7 : List UInt8 := 0x00 :: 0x05 :: 0x10 :: 0xfe :: 0xac :: []
def RB_cX5_told_6 : List UInt8 := 0xb8 :: 0x00 :: 0x65 :: 0x99 :: 0x00 :: 0x0f :: 0x2a :: 0xb4 :: 0x00 :: 0x0d :: 0x1b :: 0x10 :: 0x0a :: 0x64 :: 0x2e :: 0xa7 :: RB_cX5_told_7
def RB_cX5_told_5 : List UInt8 := 0x50 :: 0xac :: 0x1b :: 0x85 :: 0x14 :: 0x00 :: 0xc7 :: 0x14 :: 0x01 :: 0x03 :: 0x2a :: 0xb4 :: 0x00 :: 0x62 :: 0x85 :: 0x61 :: RB_cX5_told_6
def RB_cX5_told_4 : List UInt8 := 0x00 :: 0x04 :: 0x03 :: 0x60 :: 0x3d :: 0x84 :: 0x03 :: 0x01 :: 0xa7 :: 0xff :: 0xe4 :: 0x1c :: 0xac :: 0x2a :: 0xb4 :: 0x00 :: RB_cX5_told_5
def RB_cX5_told_3 : List UInt8 := 0xb0 :: 0xa2 :: 0x00 :: 0x1a :: 0x1c :: 0x2a :: 0xb4 :: 0x00 :: 0x3b :: 0x1d :: 0x2e :: 0x9c :: 0x00 :: 0x07 :: 0x04 :: 0xa7 :: RB_cX5_told_4
def RB_cX5_told_2 : List UInt8 := 0x2a :: 0xb4 :: 0x00 :: 0x62 :: 0xac :: 0x2a :: 0xb4 :: 0x00 :: 0xb0 :: 0xac :: 0x03 :: 0x3e :: 0x1d :: 0x2a :: 0xb4 :: 0x00 :: RB_cX5_told_3
def RB_cX5_told_1 : List UInt8 := 0x00 :: 0x00 :: 0x00 :: 0x1d :: 0x00 :: 0x00 :: 0x00 :: 0x22 :: 0x00 :: 0x00 :: 0x00 :: 0x27 :: 0x00 :: 0x00 :: 0x00 :: 0x4a :: RB_cX5_told_2
def RB_cX5_told_0 : List UInt8 := 0x03 :: 0x3d :: 0x1b :: 0xaa :: 0x00 :: 0x00 :: 0x00 :: 0x4f :: 0x00 :: 0x00 :: 0x00 :: 0x00 :: 0x00 :: 0x00 :: 0x00 :: 0x03 :: RB_cX5_told_1
theorem tB_cX5_told_0 : cX5_told.data.toList.drop 0 = RB_cX5_told_0 := by decide +kernel
theorem tB_cX5_told_1 : cX5_told.data.toList.drop 16 = RB_cX5_told_1 := od_st tB_cX5_told_0 16 rfl
theorem tB_cX5_told_2 : cX5_told.data.toList.drop 32 = RB_cX5_told_2 := od_st tB_cX5_told_1 16 rfl
theorem tB_cX5_told_3 : cX5_told.data.toList.drop 48 = RB_cX5_told_3 := od_st tB_cX5_told_2 16 rfl
theorem tB_cX5_told_4 : cX5_told.data.toList.drop 64 = RB_cX5_told_4 := od_st tB_cX5_told_3 16 rfl
theorem tB_cX5_told_5 : cX5_told.data.toList.drop 80 = RB_cX5_told_5 := od_st tB_cX5_told_4 16 rfl
theorem tB_cX5_told_6 : cX5_told.data.toList.drop 96 = RB_cX5_told_6 := od_st tB_cX5_told_5 16 rfl
theorem tB_cX5_told_7 : cX5_told.data.toList.drop 112 = RB_cX5_told_7 := od_st tB_cX5_told_6 16 rfl
theorem dX5_told_0 : decode cX5_told 0 = .ok (.iconst 0, 1) := od_3 (od_at tB_cX5_told_0 0 rfl)
theorem dX5_told_1 : decode cX5_told 1 = .ok (.istore_n 2, 1) := od_61 (od_at tB_cX5_told_0 1 rfl)
theorem dX5_told_2 : decode cX5_told 2 = .ok (.iload_n 1, 1) := od_27 (od_at tB_cX5_told_0 2 rfl)
theorem dX5_told_3 : decode cX5_told 3 = .ok (.tableswitch 79 0 3 #[29, 34, 39, 74], 29) := by decide +kernel
theorem dX5_told_32 : decode cX5_told 32 = .ok (.aload_n 0, 1) := od_42 (od_at tB_cX5_told_2 0 rfl)
theorem dX5_told_33 : decode cX5_told 33 = .ok (.getfield 98, 3) := od_180 (od_at tB_cX5_told_2 1 rfl) (od_at tB_cX5_told_2 2 rfl) (od_at tB_cX5_told_2 3 rfl) rfl
theorem dX5_told_36 : decode cX5_told 36 = .ok (.ireturn, 1) := od_172 (od_at tB_cX5_told_2 4 rfl)
theorem dX5_told_37 : decode cX5_told 37 = .ok (.aload_n 0, 1) := od_42 (od_at tB_cX5_told_2 5 rfl)
theorem dX5_told_38 : decode cX5_told 38 = .ok (.getfield 176, 3) := od_180 (od_at tB_cX5_told_2 6 rfl) (od_at tB_cX5_told_2 7 rfl) (od_at tB_cX5_told_2 8 rfl) rfl
theorem dX5_told_41 : decode cX5_told 41 = .ok (.ireturn, 1) := od_172 (od_at tB_cX5_told_2 9 rfl)
theorem dX5_told_42 : decode cX5_told 42 = .ok (.iconst 0, 1) := od_3 (od_at tB_cX5_told_2 10 rfl)
theorem dX5_told_43 : decode cX5_told 43 = .ok (.istore_n 3, 1) := od_62 (od_at tB_cX5_told_2 11 rfl)
theorem dX5_told_44 : decode cX5_told 44 = .ok (.iload_n 3, 1) := od_29 (od_at tB_cX5_told_2 12 rfl)
theorem dX5_told_45 : decode cX5_told 45 = .ok (.aload_n 0, 1) := od_42 (od_at tB_cX5_told_2 13 rfl)
theorem dX5_told_46 : decode cX5_told 46 = .ok (.getfield 176, 3) := od_180 (od_at tB_cX5_told_2 14 rfl) (od_at tB_cX5_told_2 15 rfl) (od_at tB_cX5_told_2 16 rfl) rfl
theorem dX5_told_49 : decode cX5_told 49 = .ok (.if_icmp .ge 26, 3) := od_162 (od_at tB_cX5_told_3 1 rfl) (od_at tB_cX5_told_3 2 rfl) (od_at tB_cX5_told_3 3 rfl) (by decide +kernel)
theorem dX5_told_52 : decode cX5_told 52 = .ok (.iload_n 2, 1) := od_28 (od_at tB_cX5_told_3 4 rfl)
theorem dX5_told_53 : decode cX5_told 53 = .ok (.aload_n 0, 1) := od_42 (od_at tB_cX5_told_3 5 rfl)
theorem dX5_told_54 : decode cX5_told 54 = .ok (.getfield 59, 3) := od_180 (od_at tB_cX5_told_3 6 rfl) (od_at tB_cX5_told_3 7 rfl) (od_at tB_cX5_told_3 8 rfl) rfl
theorem dX5_told_57 : decode cX5_told 57 = .ok (.iload_n 3, 1) := od_29 (od_at tB_cX5_told_3 9 rfl)
theorem dX5_told_58 : decode cX5_told 58 = .ok (.iaload, 1) := od_46 (od_at tB_cX5_told_3 10 rfl)
theorem dX5_told_59 : decode cX5_told 59 = .ok (.ifCond .ge 7, 3) := od_156 (od_at tB_cX5_told_3 11 rfl) (od_at tB_cX5_told_3 12 rfl) (od_at tB_cX5_told_3 13 rfl) (by decide +kernel)
theorem dX5_told_62 : decode cX5_told 62 = .ok (.iconst 1, 1) := od_4 (od_at tB_cX5_told_3 14 rfl)
theorem dX5_told_63 : decode cX5_told 63 = .ok (.goto 4, 3) := od_167 (od_at tB_cX5_told_3 15 rfl) (od_at tB_cX5_told_3 16 rfl) (od_at tB_cX5_told_3 17 rfl) (by decide +kernel)
theorem dX5_told_66 : decode cX5_told 66 = .ok (.iconst 0, 1) := od_3 (od_at tB_cX5_told_4 2 rfl)
theorem dX5_told_67 : decode cX5_told 67 = .ok (.iadd, 1) := od_96 (od_at tB_cX5_told_4 3 rfl)
theorem dX5_told_68 : decode cX5_told 68 = .ok (.istore_n 2, 1) := od_61 (od_at tB_cX5_told_4 4 rfl)
theorem dX5_told_69 : decode cX5_told 69 = .ok (.iinc 3 1, 3) := od_132 (od_at tB_cX5_told_4 5 rfl) (od_at tB_cX5_told_4 6 rfl) (od_at tB_cX5_told_4 7 rfl) rfl (by decide +kernel)
theorem dX5_told_72 : decode cX5_told 72 = .ok (.goto (-28), 3) := od_167 (od_at tB_cX5_told_4 8 rfl) (od_at tB_cX5_told_4 9 rfl) (od_at tB_cX5_told_4 10 rfl) (by decide +kernel)
theorem dX5_told_75 : decode cX5_told 75 = .ok (.iload_n 2, 1) := od_28 (od_at tB_cX5_told_4 11 rfl)
theorem dX5_told_76 : decode cX5_told 76 = .ok (.ireturn, 1) := od_172 (od_at tB_cX5_told_4 12 rfl)
theorem dX5_told_77 : decode cX5_told 77 = .ok (.aload_n 0, 1) := od_42 (od_at tB_cX5_told_4 13 rfl)
theorem dX5_told_78 : decode cX5_told 78 = .ok (.getfield 80, 3) := od_180 (od_at tB_cX5_told_4 14 rfl) (od_at tB_cX5_told_4 15 rfl) (od_at tB_cX5_told_4 16 rfl) rfl
theorem dX5_told_81 : decode cX5_told 81 = .ok (.ireturn, 1) := od_172 (od_at tB_cX5_told_5 1 rfl)
theorem dX5_told_82 : decode cX5_told 82 = .ok (.iload_n 1, 1) := od_27 (od_at tB_cX5_told_5 2 rfl)
theorem dX5_told_83 : decode cX5_told 83 = .ok (.i2l, 1) := od_133 (od_at tB_cX5_told_5 3 rfl)
theorem dX5_told_84 : decode cX5_told 84 = .ok (.ldc2_w 199, 3) := od_20 (od_at tB_cX5_told_5 4 rfl) (od_at tB_cX5_told_5 5 rfl) (od_at tB_cX5_told_5 6 rfl) rfl
theorem dX5_told_87 : decode cX5_told 87 = .ok (.ldc2_w 259, 3) := od_20 (od_at tB_cX5_told_5 7 rfl) (od_at tB_cX5_told_5 8 rfl) (od_at tB_cX5_told_5 9 rfl) rfl
theorem dX5_told_90 : decode cX5_told 90 = .ok (.aload_n 0, 1) := od_42 (od_at tB_cX5_told_5 10 rfl)
theorem dX5_told_91 : decode cX5_told 91 = .ok (.getfield 98, 3) := od_180 (od_at tB_cX5_told_5 11 rfl) (od_at tB_cX5_told_5 12 rfl) (od_at tB_cX5_told_5 13 rfl) rfl
theorem dX5_told_94 : decode cX5_told 94 = .ok (.i2l, 1) := od_133 (od_at tB_cX5_told_5 14 rfl)
theorem dX5_told_95 : decode cX5_told 95 = .ok (.ladd, 1) := od_97 (od_at tB_cX5_told_5 15 rfl)
theorem dX5_told_96 : decode cX5_told 96 = .ok (.invokestatic 101, 3) := od_184 (od_at tB_cX5_told_6 0 rfl) (od_at tB_cX5_told_6 1 rfl) (od_at tB_cX5_told_6 2 rfl) rfl
theorem dX5_told_99 : decode cX5_told 99 = .ok (.ifCond .eq 15, 3) := od_153 (od_at tB_cX5_told_6 3 rfl) (od_at tB_cX5_told_6 4 rfl) (od_at tB_cX5_told_6 5 rfl) (by decide +kernel)
theorem dX5_told_102 : decode cX5_told 102 = .ok (.aload_n 0, 1) := od_42 (od_at tB_cX5_told_6 6 rfl)
theorem dX5_told_103 : decode cX5_told 103 = .ok (.getfield 13, 3) := od_180 (od_at tB_cX5_told_6 7 rfl) (od_at tB_cX5_told_6 8 rfl) (od_at tB_cX5_told_6 9 rfl) rfl
theorem dX5_told_106 : decode cX5_told 106 = .ok (.iload_n 1, 1) := od_27 (od_at tB_cX5_told_6 10 rfl)
theorem dX5_told_107 : decode cX5_told 107 = .ok (.bipush 10, 2) := od_16 (od_at tB_cX5_told_6 11 rfl) (od_at tB_cX5_told_6 12 rfl) (by decide +kernel)
theorem dX5_told_109 : decode cX5_told 109 = .ok (.isub, 1) := od_100 (od_at tB_cX5_told_6 13 rfl)
theorem dX5_told_110 : decode cX5_told 110 = .ok (.iaload, 1) := od_46 (od_at tB_cX5_told_6 14 rfl)
theorem dX5_told_111 : decode cX5_told 111 = .ok (.goto 5, 3) := od_167 (od_at tB_cX5_told_6 15 rfl) (od_at tB_cX5_told_6 16 rfl) (od_at tB_cX5_told_6 17 rfl) (by decide +kernel)
theorem dX5_told_114 : decode cX5_told 114 = .ok (.bipush (-2), 2) := od_16 (od_at tB_cX5_told_7 2 rfl) (od_at tB_cX5_told_7 3 rfl) (by decide +kernel)
theorem dX5_told_116 : decode cX5_told 116 = .ok (.ireturn, 1) := od_172 (od_at tB_cX5_told_7 4 rfl)
def RB_cJ9_abs_067f4_0 : List UInt8 := 0x1e :: 0x09 :: 0x94 :: 0x9c :: 0x00 :: 0x08 :: 0x1e :: 0x75 :: 0xa7 :: 0x00 :: 0x04 :: 0x1e :: 0xad :: []
theorem tB_cJ9_abs_067f4_0 : cJ9_abs_067f4.data.toList.drop 0 = RB_cJ9_abs_067f4_0 := by decide +kernel
theorem dJ9_abs_067f4_0 : decode cJ9_abs_067f4 0 = .ok (.lload_n 0, 1) := od_30 (od_at tB_cJ9_abs_067f4_0 0 rfl)
theorem dJ9_abs_067f4_1 : decode cJ9_abs_067f4 1 = .ok (.lconst 0, 1) := od_9 (od_at tB_cJ9_abs_067f4_0 1 rfl)
theorem dJ9_abs_067f4_2 : decode cJ9_abs_067f4 2 = .ok (.lcmp, 1) := od_148 (od_at tB_cJ9_abs_067f4_0 2 rfl)
theorem dJ9_abs_067f4_3 : decode cJ9_abs_067f4 3 = .ok (.ifCond .ge 8, 3) := od_156 (od_at tB_cJ9_abs_067f4_0 3 rfl) (od_at tB_cJ9_abs_067f4_0 4 rfl) (od_at tB_cJ9_abs_067f4_0 5 rfl) (by decide +kernel)
theorem dJ9_abs_067f4_6 : decode cJ9_abs_067f4 6 = .ok (.lload_n 0, 1) := od_30 (od_at tB_cJ9_abs_067f4_0 6 rfl)
theorem dJ9_abs_067f4_7 : decode cJ9_abs_067f4 7 = .ok (.lneg, 1) := od_117 (od_at tB_cJ9_abs_067f4_0 7 rfl)
theorem dJ9_abs_067f4_8 : decode cJ9_abs_067f4 8 = .ok (.goto 4, 3) := od_167 (od_at tB_cJ9_abs_067f4_0 8 rfl) (od_at tB_cJ9_abs_067f4_0 9 rfl) (od_at tB_cJ9_abs_067f4_0 10 rfl) (by decide +kernel)
theorem dJ9_abs_067f4_11 : decode cJ9_abs_067f4 11 = .ok (.lload_n 0, 1) := od_30 (od_at tB_cJ9_abs_067f4_0 11 rfl)
theorem dJ9_abs_067f4_12 : decode cJ9_abs_067f4 12 = .ok (.lreturn, 1) := od_173 (od_at tB_cJ9_abs_067f4_0 12 rfl)
def RB_cJ9_max_7cf53_0 : List UInt8 := 0x1a :: 0x1b :: 0xa1 :: 0x00 :: 0x07 :: 0x1a :: 0xa7 :: 0x00 :: 0x04 :: 0x1b :: 0xac :: []
theorem tB_cJ9_max_7cf53_0 : cJ9_max_7cf53.data.toList.drop 0 = RB_cJ9_max_7cf53_0 := by decide +kernel
theorem dJ9_max_7cf53_0 : decode cJ9_max_7cf53 0 = .ok (.iload_n 0, 1) := od_26 (od_at tB_cJ9_max_7cf53_0 0 rfl)
theorem dJ9_max_7cf53_1 : decode cJ9_max_7cf53 1 = .ok (.iload_n 1, 1) := od_27 (od_at tB_cJ9_max_7cf53_0 1 rfl)
theorem dJ9_max_7cf53_2 : decode cJ9_max_7cf53 2 = .ok (.if_icmp .lt 7, 3) := od_161 (od_at tB_cJ9_max_7cf53_0 2 rfl) (od_at tB_cJ9_max_7cf53_0 3 rfl) (od_at tB_cJ9_max_7cf53_0 4 rfl) (by decide +kernel)
theorem dJ9_max_7cf53_5 : decode cJ9_max_7cf53 5 = .ok (.iload_n 0, 1) := od_26 (od_at tB_cJ9_max_7cf53_0 5 rfl)
theorem dJ9_max_7cf53_6 : decode cJ9_max_7cf53 6 = .ok (.goto 4, 3) := od_167 (od_at tB_cJ9_max_7cf53_0 6 rfl) (od_at tB_cJ9_max_7cf53_0 7 rfl) (od_at tB_cJ9_max_7cf53_0 8 rfl) (by decide +kernel)
theorem dJ9_max_7cf53_9 : decode cJ9_max_7cf53 9 = .ok (.iload_n 1, 1) := od_27 (od_at tB_cJ9_max_7cf53_0 9 rfl)
theorem dJ9_max_7cf53_10 : decode cJ9_max_7cf53 10 = .ok (.ireturn, 1) := od_172 (od_at tB_cJ9_max_7cf53_0 10 rfl)
def RB_cJ9_max_f86c9_0 : List UInt8 := 0x1e :: 0x20 :: 0x94 :: 0x9b :: 0x00 :: 0x07 :: 0x1e :: 0xa7 :: 0x00 :: 0x04 :: 0x20 :: 0xad :: []
theorem tB_cJ9_max_f86c9_0 : cJ9_max_f86c9.data.toList.drop 0 = RB_cJ9_max_f86c9_0 := by decide +kernel
theorem dJ9_max_f86c9_0 : decode cJ9_max_f86c9 0 = .ok (.lload_n 0, 1) := od_30 (od_at tB_cJ9_max_f86c9_0 0 rfl)
theorem dJ9_max_f86c9_1 : decode cJ9_max_f86c9 1 = .ok (.lload_n 2, 1) := od_32 (od_at tB_cJ9_max_f86c9_0 1 rfl)
theorem dJ9_max_f86c9_2 : decode cJ9_max_f86c9 2 = .ok (.lcmp, 1) := od_148 (od_at tB_cJ9_max_f86c9_0 2 rfl)
theorem dJ9_max_f86c9_3 : decode cJ9_max_f86c9 3 = .ok (.ifCond .lt 7, 3) := od_155 (od_at tB_cJ9_max_f86c9_0 3 rfl) (od_at tB_cJ9_max_f86c9_0 4 rfl) (od_at tB_cJ9_max_f86c9_0 5 rfl) (by decide +kernel)
theorem dJ9_max_f86c9_6 : decode cJ9_max_f86c9 6 = .ok (.lload_n 0, 1) := od_30 (od_at tB_cJ9_max_f86c9_0 6 rfl)
theorem dJ9_max_f86c9_7 : decode cJ9_max_f86c9 7 = .ok (.goto 4, 3) := od_167 (od_at tB_cJ9_max_f86c9_0 7 rfl) (od_at tB_cJ9_max_f86c9_0 8 rfl) (od_at tB_cJ9_max_f86c9_0 9 rfl) (by decide +kernel)
theorem dJ9_max_f86c9_10 : decode cJ9_max_f86c9 10 = .ok (.lload_n 2, 1) := od_32 (od_at tB_cJ9_max_f86c9_0 10 rfl)
theorem dJ9_max_f86c9_11 : decode cJ9_max_f86c9 11 = .ok (.lreturn, 1) := od_173 (od_at tB_cJ9_max_f86c9_0 11 rfl)
def RB_cJ9_min_f86c9_0 : List UInt8 := 0x1e :: 0x20 :: 0x94 :: 0x9d :: 0x00 :: 0x07 :: 0x1e :: 0xa7 :: 0x00 :: 0x04 :: 0x20 :: 0xad :: []
theorem tB_cJ9_min_f86c9_0 : cJ9_min_f86c9.data.toList.drop 0 = RB_cJ9_min_f86c9_0 := by decide +kernel
theorem dJ9_min_f86c9_0 : decode cJ9_min_f86c9 0 = .ok (.lload_n 0, 1) := od_30 (od_at tB_cJ9_min_f86c9_0 0 rfl)
theorem dJ9_min_f86c9_1 : decode cJ9_min_f86c9 1 = .ok (.lload_n 2, 1) := od_32 (od_at tB_cJ9_min_f86c9_0 1 rfl)
theorem dJ9_min_f86c9_2 : decode cJ9_min_f86c9 2 = .ok (.lcmp, 1) := od_148 (od_at tB_cJ9_min_f86c9_0 2 rfl)
theorem dJ9_min_f86c9_3 : decode cJ9_min_f86c9 3 = .ok (.ifCond .gt 7, 3) := od_157 (od_at tB_cJ9_min_f86c9_0 3 rfl) (od_at tB_cJ9_min_f86c9_0 4 rfl) (od_at tB_cJ9_min_f86c9_0 5 rfl) (by decide +kernel)
theorem dJ9_min_f86c9_6 : decode cJ9_min_f86c9 6 = .ok (.lload_n 0, 1) := od_30 (od_at tB_cJ9_min_f86c9_0 6 rfl)
theorem dJ9_min_f86c9_7 : decode cJ9_min_f86c9 7 = .ok (.goto 4, 3) := od_167 (od_at tB_cJ9_min_f86c9_0 7 rfl) (od_at tB_cJ9_min_f86c9_0 8 rfl) (od_at tB_cJ9_min_f86c9_0 9 rfl) (by decide +kernel)
theorem dJ9_min_f86c9_10 : decode cJ9_min_f86c9 10 = .ok (.lload_n 2, 1) := od_32 (od_at tB_cJ9_min_f86c9_0 10 rfl)
theorem dJ9_min_f86c9_11 : decode cJ9_min_f86c9 11 = .ok (.lreturn, 1) := od_173 (od_at tB_cJ9_min_f86c9_0 11 rfl)
def RB_cJ7_fill_53178_1 : List UInt8 := 0x01 :: 0xa7 :: 0xff :: 0xf4 :: 0xb1 :: []
def RB_cJ7_fill_53178_0 : List UInt8 := 0x03 :: 0x3d :: 0x2a :: 0xbe :: 0x3e :: 0x1c :: 0x1d :: 0xa2 :: 0x00 :: 0x0d :: 0x2a :: 0x1c :: 0x1b :: 0x4f :: 0x84 :: 0x02 :: RB_cJ7_fill_53178_1
theorem tB_cJ7_fill_53178_0 : cJ7_fill_53178.data.toList.drop 0 = RB_cJ7_fill_53178_0 := by decide +kernel
theorem tB_cJ7_fill_53178_1 : cJ7_fill_53178.data.toList.drop 16 = RB_cJ7_fill_53178_1 := od_st tB_cJ7_fill_53178_0 16 rfl
theorem dJ7_fill_53178_0 : decode cJ7_fill_53178 0 = .ok (.iconst 0, 1) := od_3 (od_at tB_cJ7_fill_53178_0 0 rfl)
theorem dJ7_fill_53178_1 : decode cJ7_fill_53178 1 = .ok (.istore_n 2, 1) := od_61 (od_at tB_cJ7_fill_53178_0 1 rfl)
theorem dJ7_fill_53178_2 : decode cJ7_fill_53178 2 = .ok (.aload_n 0, 1) := od_42 (od_at tB_cJ7_fill_53178_0 2 rfl)
theorem dJ7_fill_53178_3 : decode cJ7_fill_53178 3 = .ok (.arraylength, 1) := od_190 (od_at tB_cJ7_fill_53178_0 3 rfl)
theorem dJ7_fill_53178_4 : decode cJ7_fill_53178 4 = .ok (.istore_n 3, 1) := od_62 (od_at tB_cJ7_fill_53178_0 4 rfl)
theorem dJ7_fill_53178_5 : decode cJ7_fill_53178 5 = .ok (.iload_n 2, 1) := od_28 (od_at tB_cJ7_fill_53178_0 5 rfl)
theorem dJ7_fill_53178_6 : decode cJ7_fill_53178 6 = .ok (.iload_n 3, 1) := od_29 (od_at tB_cJ7_fill_53178_0 6 rfl)
theorem dJ7_fill_53178_7 : decode cJ7_fill_53178 7 = .ok (.if_icmp .ge 13, 3) := od_162 (od_at tB_cJ7_fill_53178_0 7 rfl) (od_at tB_cJ7_fill_53178_0 8 rfl) (od_at tB_cJ7_fill_53178_0 9 rfl) (by decide +kernel)
theorem dJ7_fill_53178_10 : decode cJ7_fill_53178 10 = .ok (.aload_n 0, 1) := od_42 (od_at tB_cJ7_fill_53178_0 10 rfl)
theorem dJ7_fill_53178_11 : decode cJ7_fill_53178 11 = .ok (.iload_n 2, 1) := od_28 (od_at tB_cJ7_fill_53178_0 11 rfl)
theorem dJ7_fill_53178_12 : decode cJ7_fill_53178 12 = .ok (.iload_n 1, 1) := od_27 (od_at tB_cJ7_fill_53178_0 12 rfl)
theorem dJ7_fill_53178_13 : decode cJ7_fill_53178 13 = .ok (.iastore, 1) := od_79 (od_at tB_cJ7_fill_53178_0 13 rfl)
theorem dJ7_fill_53178_14 : decode cJ7_fill_53178 14 = .ok (.iinc 2 1, 3) := od_132 (od_at tB_cJ7_fill_53178_0 14 rfl) (od_at tB_cJ7_fill_53178_0 15 rfl) (od_at tB_cJ7_fill_53178_0 16 rfl) rfl (by decide +kernel)
theorem dJ7_fill_53178_17 : decode cJ7_fill_53178 17 = .ok (.goto (-12), 3) := od_167 (od_at tB_cJ7_fill_53178_1 1 rfl) (od_at tB_cJ7_fill_53178_1 2 rfl) (od_at tB_cJ7_fill_53178_1 3 rfl) (by decide +kernel)
theorem dJ7_fill_53178_20 : decode cJ7_fill_53178 20 = .ok (.return_, 1) := od_177 (od_at tB_cJ7_fill_53178_1 4 rfl)
