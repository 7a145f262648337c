theorem bm32 {z : Int} (h0 : -2147483648 ≤ z) (h1 : z < 2147483648) : z.bmod (2 ^ 32) = z := Int.bmod_eq_of_le (by omega) (by omega)
theorem bm64 {z : Int} (h0 : -9223372036854775808 ≤ z) (h1 : z < 9223372036854775808) : z.bmod (2 ^ 64) = z := Int.bmod_eq_of_le (by omega) (by omega)
theorem ti_add {x y : Int32} (h0 : -2147483648 ≤ x.toInt + y.toInt) (h1 : x.toInt + y.toInt < 2147483648) : (x + y).toInt = x.toInt + y.toInt := by
  rw [Int32.toInt_add]; exact bm32 h0 h1
theorem ti_sub {x y : Int32} (h0 : -2147483648 ≤ x.toInt - y.toInt) (h1 : x.toInt - y.toInt < 2147483648) : (x - y).toInt = x.toInt - y.toInt := by
  rw [Int32.toInt_sub]; exact bm32 h0 h1
theorem ti_mul {x y : Int32} (h0 : -2147483648 ≤ x.toInt * y.toInt) (h1 : x.toInt * y.toInt < 2147483648) : (x * y).toInt = x.toInt * y.toInt := by
  rw [Int32.toInt_mul]; exact bm32 h0 h1
theorem tl_add {x y : Int64} (h0 : -9223372036854775808 ≤ x.toInt + y.toInt) (h1 : x.toInt + y.toInt < 9223372036854775808) : (x + y).toInt = x.toInt + y.toInt := by
  rw [Int64.toInt_add]; exact bm64 h0 h1
theorem tl_sub {x y : Int64} (h0 : -9223372036854775808 ≤ x.toInt - y.toInt) (h1 : x.toInt - y.toInt < 9223372036854775808) : (x - y).toInt = x.toInt - y.toInt := by
  rw [Int64.toInt_sub]; exact bm64 h0 h1
theorem tl_mul {x y : Int64} (h0 : -9223372036854775808 ≤ x.toInt * y.toInt) (h1 : x.toInt * y.toInt < 9223372036854775808) : (x * y).toInt = x.toInt * y.toInt := by
  rw [Int64.toInt_mul]; exact bm64 h0 h1
theorem ti1 {x : Int32} (h : x.toInt < 2147483647) : (x + 1).toInt = x.toInt + 1 := by
  have h1 : (1 : Int32).toInt = 1 := rfl
  have h2 := x.le_toInt
  rw [ti_add (by omega) (by omega), h1]
theorem tim1 {x : Int32} (h : -2147483648 < x.toInt) : (x + (-1)).toInt = x.toInt - 1 := by
  have h1 : (-1 : Int32).toInt = -1 := rfl
  have h2 := x.toInt_lt
  rw [ti_add (by omega) (by omega), h1]
  omega
theorem ts1 {x : Int32} (h : -2147483648 < x.toInt) : (x - 1).toInt = x.toInt - 1 := by
  have h1 : (1 : Int32).toInt = 1 := rfl
  have h2 := x.toInt_lt
  rw [ti_sub (by omega) (by omega), h1]
theorem nz2 {y : Int64} (h : 0 < y.toInt) : ¬ (2 * y = 0) := by
  intro q
  have q2 := congrArg Int64.toInt q
  rw [Int64.toInt_mul, Int64.toInt_zero, show ((2 : Int64).toInt) = 2 from rfl] at q2
  have h1 := y.toInt_lt
  rw [Int.bmod_def] at q2
  split at q2 <;> omega
theorem t64 (x : Int32) : x.toInt64.toInt = x.toInt := Int32.toInt_toInt64 x
theorem ds_X4_init : yX4_init.cls = RX4 ∧ yX4_init.cls ≠ "java/lang/invoke/MethodHandle" ∧ yX4_init.cls ≠ "java/lang/invoke/VarHandle" ∧ (parseMethodDescriptor yX4_init.desc).map (fun d => d.parameters.length) = some 0 := by decide +kernel
theorem ds_X1_init : yX1_init.cls = RX1 ∧ yX1_init.cls ≠ "java/lang/invoke/MethodHandle" ∧ yX1_init.cls ≠ "java/lang/invoke/VarHandle" ∧ (parseMethodDescriptor yX1_init.desc).map (fun d => d.parameters.length) = some 0 := by decide +kernel
theorem ds_X2_init : yX2_init.cls = RX2 ∧ yX2_init.cls ≠ "java/lang/invoke/MethodHandle" ∧ yX2_init.cls ≠ "java/lang/invoke/VarHandle" ∧ (parseMethodDescriptor yX2_init.desc).map (fun d => d.parameters.length) = some 0 := by decide +kernel
theorem ds_X4_meter : yX4_meter.cls = RX4 ∧ yX4_meter.cls ≠ "java/lang/invoke/MethodHandle" ∧ yX4_meter.cls ≠ "java/lang/invoke/VarHandle" ∧ (parseMethodDescriptor yX4_meter.desc).map (fun d => d.parameters.length) = some 1 := by decide +kernel
theorem ds_X4_isWithin : yX4_isWithin.cls = RX4 ∧ yX4_isWithin.cls ≠ "java/lang/invoke/MethodHandle" ∧ yX4_isWithin.cls ≠ "java/lang/invoke/VarHandle" ∧ (parseMethodDescriptor yX4_isWithin.desc).map (fun d => d.parameters.length) = some 3 := by decide +kernel
theorem ds_X0_init : yX0_init.cls = RX0 ∧ yX0_init.cls ≠ "java/lang/invoke/MethodHandle" ∧ yX0_init.cls ≠ "java/lang/invoke/VarHandle" ∧ (parseMethodDescriptor yX0_init.desc).map (fun d => d.parameters.length) = some 1 := by decide +kernel
theorem ds_X4_factor : yX4_factor.cls = RX4 ∧ yX4_factor.cls ≠ "java/lang/invoke/MethodHandle" ∧ yX4_factor.cls ≠ "java/lang/invoke/VarHandle" ∧ (parseMethodDescriptor yX4_factor.desc).map (fun d => d.parameters.length) = some 4 := by decide +kernel
theorem ds_X4_isMeter : yX4_isMeter.cls = RX4 ∧ yX4_isMeter.cls ≠ "java/lang/invoke/MethodHandle" ∧ yX4_isMeter.cls ≠ "java/lang/invoke/VarHandle" ∧ (parseMethodDescriptor yX4_isMeter.desc).map (fun d => d.parameters.length) = some 1 := by decide +kernel
theorem ds_X4_isFlow : yX4_isFlow.cls = RX4 ∧ yX4_isFlow.cls ≠ "java/lang/invoke/MethodHandle" ∧ yX4_isFlow.cls ≠ "java/lang/invoke/VarHandle" ∧ (parseMethodDescriptor yX4_isFlow.desc).map (fun d => d.parameters.length) = some 1 := by decide +kernel
theorem ds_X4_isDay : yX4_isDay.cls = RX4 ∧ yX4_isDay.cls ≠ "java/lang/invoke/MethodHandle" ∧ yX4_isDay.cls ≠ "java/lang/invoke/VarHandle" ∧ (parseMethodDescriptor yX4_isDay.desc).map (fun d => d.parameters.length) = some 1 := by decide +kernel
theorem ds_X0_isFull : yX0_isFull.cls = RX0 ∧ yX0_isFull.cls ≠ "java/lang/invoke/MethodHandle" ∧ yX0_isFull.cls ≠ "java/lang/invoke/VarHandle" ∧ (parseMethodDescriptor yX0_isFull.desc).map (fun d => d.parameters.length) = some 0 := by decide +kernel
theorem ds_X0_takeFactor : yX0_takeFactor.cls = RX0 ∧ yX0_takeFactor.cls ≠ "java/lang/invoke/MethodHandle" ∧ yX0_takeFactor.cls ≠ "java/lang/invoke/VarHandle" ∧ (parseMethodDescriptor yX0_takeFactor.desc).map (fun d => d.parameters.length) = some 3 := by decide +kernel
theorem ds_X0_standsBehind : yX0_standsBehind.cls = RX0 ∧ yX0_standsBehind.cls ≠ "java/lang/invoke/MethodHandle" ∧ yX0_standsBehind.cls ≠ "java/lang/invoke/VarHandle" ∧ (parseMethodDescriptor yX0_standsBehind.desc).map (fun d => d.parameters.length) = some 3 := by decide +kernel
theorem ds_X4_at : yX4_at.cls = RX4 ∧ yX4_at.cls ≠ "java/lang/invoke/MethodHandle" ∧ yX4_at.cls ≠ "java/lang/invoke/VarHandle" ∧ (parseMethodDescriptor yX4_at.desc).map (fun d => d.parameters.length) = some 3 := by decide +kernel
theorem ds_X0_factorAt : yX0_factorAt.cls = RX0 ∧ yX0_factorAt.cls ≠ "java/lang/invoke/MethodHandle" ∧ yX0_factorAt.cls ≠ "java/lang/invoke/VarHandle" ∧ (parseMethodDescriptor yX0_factorAt.desc).map (fun d => d.parameters.length) = some 2 := by decide +kernel
theorem ds_X0_isOnCurve : yX0_isOnCurve.cls = RX0 ∧ yX0_isOnCurve.cls ≠ "java/lang/invoke/MethodHandle" ∧ yX0_isOnCurve.cls ≠ "java/lang/invoke/VarHandle" ∧ (parseMethodDescriptor yX0_isOnCurve.desc).map (fun d => d.parameters.length) = some 2 := by decide +kernel
theorem ds_X0_between : yX0_between.cls = RX0 ∧ yX0_between.cls ≠ "java/lang/invoke/MethodHandle" ∧ yX0_between.cls ≠ "java/lang/invoke/VarHandle" ∧ (parseMethodDescriptor yX0_between.desc).map (fun d => d.parameters.length) = some 3 := by decide +kernel
theorem ds_X4_points : yX4_points.cls = RX4 ∧ yX4_points.cls ≠ "java/lang/invoke/MethodHandle" ∧ yX4_points.cls ≠ "java/lang/invoke/VarHandle" ∧ (parseMethodDescriptor yX4_points.desc).map (fun d => d.parameters.length) = some 2 := by decide +kernel
theorem ds_X0_curveSize : yX0_curveSize.cls = RX0 ∧ yX0_curveSize.cls ≠ "java/lang/invoke/MethodHandle" ∧ yX0_curveSize.cls ≠ "java/lang/invoke/VarHandle" ∧ (parseMethodDescriptor yX0_curveSize.desc).map (fun d => d.parameters.length) = some 1 := by decide +kernel
theorem ds_X4_point : yX4_point.cls = RX4 ∧ yX4_point.cls ≠ "java/lang/invoke/MethodHandle" ∧ yX4_point.cls ≠ "java/lang/invoke/VarHandle" ∧ (parseMethodDescriptor yX4_point.desc).map (fun d => d.parameters.length) = some 4 := by decide +kernel
theorem ds_X0_curvePlace : yX0_curvePlace.cls = RX0 ∧ yX0_curvePlace.cls ≠ "java/lang/invoke/MethodHandle" ∧ yX0_curvePlace.cls ≠ "java/lang/invoke/VarHandle" ∧ (parseMethodDescriptor yX0_curvePlace.desc).map (fun d => d.parameters.length) = some 2 := by decide +kernel
theorem ds_X4_proof : yX4_proof.cls = RX4 ∧ yX4_proof.cls ≠ "java/lang/invoke/MethodHandle" ∧ yX4_proof.cls ≠ "java/lang/invoke/VarHandle" ∧ (parseMethodDescriptor yX4_proof.desc).map (fun d => d.parameters.length) = some 3 := by decide +kernel
theorem ds_X1_begin : yX1_begin.cls = RX1 ∧ yX1_begin.cls ≠ "java/lang/invoke/MethodHandle" ∧ yX1_begin.cls ≠ "java/lang/invoke/VarHandle" ∧ (parseMethodDescriptor yX1_begin.desc).map (fun d => d.parameters.length) = some 3 := by decide +kernel
theorem ds_X4_run : yX4_run.cls = RX4 ∧ yX4_run.cls ≠ "java/lang/invoke/MethodHandle" ∧ yX4_run.cls ≠ "java/lang/invoke/VarHandle" ∧ (parseMethodDescriptor yX4_run.desc).map (fun d => d.parameters.length) = some 3 := by decide +kernel
theorem ds_X4_proving : yX4_proving.cls = RX4 ∧ yX4_proving.cls ≠ "java/lang/invoke/MethodHandle" ∧ yX4_proving.cls ≠ "java/lang/invoke/VarHandle" ∧ (parseMethodDescriptor yX4_proving.desc).map (fun d => d.parameters.length) = some 1 := by decide +kernel
theorem ds_X1_isGood : yX1_isGood.cls = RX1 ∧ yX1_isGood.cls ≠ "java/lang/invoke/MethodHandle" ∧ yX1_isGood.cls ≠ "java/lang/invoke/VarHandle" ∧ (parseMethodDescriptor yX1_isGood.desc).map (fun d => d.parameters.length) = some 0 := by decide +kernel
theorem ds_J9_min_f86c9 : yJ9_min_f86c9.cls = RJ9 ∧ yJ9_min_f86c9.cls ≠ "java/lang/invoke/MethodHandle" ∧ yJ9_min_f86c9.cls ≠ "java/lang/invoke/VarHandle" ∧ (parseMethodDescriptor yJ9_min_f86c9.desc).map (fun d => d.parameters.length) = some 2 := by decide +kernel
theorem ds_J9_max_f86c9 : yJ9_max_f86c9.cls = RJ9 ∧ yJ9_max_f86c9.cls ≠ "java/lang/invoke/MethodHandle" ∧ yJ9_max_f86c9.cls ≠ "java/lang/invoke/VarHandle" ∧ (parseMethodDescriptor yJ9_max_f86c9.desc).map (fun d => d.parameters.length) = some 2 := by decide +kernel
theorem ds_X4_accept : yX4_accept.cls = RX4 ∧ yX4_accept.cls ≠ "java/lang/invoke/MethodHandle" ∧ yX4_accept.cls ≠ "java/lang/invoke/VarHandle" ∧ (parseMethodDescriptor yX4_accept.desc).map (fun d => d.parameters.length) = some 1 := by decide +kernel
theorem ds_X1_factorOf : yX1_factorOf.cls = RX1 ∧ yX1_factorOf.cls ≠ "java/lang/invoke/MethodHandle" ∧ yX1_factorOf.cls ≠ "java/lang/invoke/VarHandle" ∧ (parseMethodDescriptor yX1_factorOf.desc).map (fun d => d.parameters.length) = some 1 := by decide +kernel
theorem ds_J9_max_7cf53 : yJ9_max_7cf53.cls = RJ9 ∧ yJ9_max_7cf53.cls ≠ "java/lang/invoke/MethodHandle" ∧ yJ9_max_7cf53.cls ≠ "java/lang/invoke/VarHandle" ∧ (parseMethodDescriptor yJ9_max_7cf53.desc).map (fun d => d.parameters.length) = some 2 := by decide +kernel
theorem ds_X4_rounded : yX4_rounded.cls = RX4 ∧ yX4_rounded.cls ≠ "java/lang/invoke/MethodHandle" ∧ yX4_rounded.cls ≠ "java/lang/invoke/VarHandle" ∧ (parseMethodDescriptor yX4_rounded.desc).map (fun d => d.parameters.length) = some 2 := by decide +kernel
theorem ds_X4_ticket : yX4_ticket.cls = RX4 ∧ yX4_ticket.cls ≠ "java/lang/invoke/MethodHandle" ∧ yX4_ticket.cls ≠ "java/lang/invoke/VarHandle" ∧ (parseMethodDescriptor yX4_ticket.desc).map (fun d => d.parameters.length) = some 4 := by decide +kernel
theorem ds_X4_isShut : yX4_isShut.cls = RX4 ∧ yX4_isShut.cls ≠ "java/lang/invoke/MethodHandle" ∧ yX4_isShut.cls ≠ "java/lang/invoke/VarHandle" ∧ (parseMethodDescriptor yX4_isShut.desc).map (fun d => d.parameters.length) = some 1 := by decide +kernel
theorem ds_X3_init : yX3_init.cls = RX3 ∧ yX3_init.cls ≠ "java/lang/invoke/MethodHandle" ∧ yX3_init.cls ≠ "java/lang/invoke/VarHandle" ∧ (parseMethodDescriptor yX3_init.desc).map (fun d => d.parameters.length) = some 5 := by decide +kernel
theorem ds_X4_keep : yX4_keep.cls = RX4 ∧ yX4_keep.cls ≠ "java/lang/invoke/MethodHandle" ∧ yX4_keep.cls ≠ "java/lang/invoke/VarHandle" ∧ (parseMethodDescriptor yX4_keep.desc).map (fun d => d.parameters.length) = some 1 := by decide +kernel
theorem ds_X4_right : yX4_right.cls = RX4 ∧ yX4_right.cls ≠ "java/lang/invoke/MethodHandle" ∧ yX4_right.cls ≠ "java/lang/invoke/VarHandle" ∧ (parseMethodDescriptor yX4_right.desc).map (fun d => d.parameters.length) = some 2 := by decide +kernel
theorem ds_X4_isTicket : yX4_isTicket.cls = RX4 ∧ yX4_isTicket.cls ≠ "java/lang/invoke/MethodHandle" ∧ yX4_isTicket.cls ≠ "java/lang/invoke/VarHandle" ∧ (parseMethodDescriptor yX4_isTicket.desc).map (fun d => d.parameters.length) = some 1 := by decide +kernel
theorem ds_X3_isReplaced : yX3_isReplaced.cls = RX3 ∧ yX3_isReplaced.cls ≠ "java/lang/invoke/MethodHandle" ∧ yX3_isReplaced.cls ≠ "java/lang/invoke/VarHandle" ∧ (parseMethodDescriptor yX3_isReplaced.desc).map (fun d => d.parameters.length) = some 0 := by decide +kernel
theorem ds_X4_replace : yX4_replace.cls = RX4 ∧ yX4_replace.cls ≠ "java/lang/invoke/MethodHandle" ∧ yX4_replace.cls ≠ "java/lang/invoke/VarHandle" ∧ (parseMethodDescriptor yX4_replace.desc).map (fun d => d.parameters.length) = some 3 := by decide +kernel
theorem ds_X4_factorNow : yX4_factorNow.cls = RX4 ∧ yX4_factorNow.cls ≠ "java/lang/invoke/MethodHandle" ∧ yX4_factorNow.cls ≠ "java/lang/invoke/VarHandle" ∧ (parseMethodDescriptor yX4_factorNow.desc).map (fun d => d.parameters.length) = some 1 := by decide +kernel
theorem ds_X4_remake : yX4_remake.cls = RX4 ∧ yX4_remake.cls ≠ "java/lang/invoke/MethodHandle" ∧ yX4_remake.cls ≠ "java/lang/invoke/VarHandle" ∧ (parseMethodDescriptor yX4_remake.desc).map (fun d => d.parameters.length) = some 3 := by decide +kernel
theorem ds_X4_areDays : yX4_areDays.cls = RX4 ∧ yX4_areDays.cls ≠ "java/lang/invoke/MethodHandle" ∧ yX4_areDays.cls ≠ "java/lang/invoke/VarHandle" ∧ (parseMethodDescriptor yX4_areDays.desc).map (fun d => d.parameters.length) = some 2 := by decide +kernel
theorem ds_X4_isToRemake : yX4_isToRemake.cls = RX4 ∧ yX4_isToRemake.cls ≠ "java/lang/invoke/MethodHandle" ∧ yX4_isToRemake.cls ≠ "java/lang/invoke/VarHandle" ∧ (parseMethodDescriptor yX4_isToRemake.desc).map (fun d => d.parameters.length) = some 4 := by decide +kernel
theorem ds_X3_counts : yX3_counts.cls = RX3 ∧ yX3_counts.cls ≠ "java/lang/invoke/MethodHandle" ∧ yX3_counts.cls ≠ "java/lang/invoke/VarHandle" ∧ (parseMethodDescriptor yX3_counts.desc).map (fun d => d.parameters.length) = some 3 := by decide +kernel
theorem ds_X4_ticketed : yX4_ticketed.cls = RX4 ∧ yX4_ticketed.cls ≠ "java/lang/invoke/MethodHandle" ∧ yX4_ticketed.cls ≠ "java/lang/invoke/VarHandle" ∧ (parseMethodDescriptor yX4_ticketed.desc).map (fun d => d.parameters.length) = some 2 := by decide +kernel
theorem ds_X4_volume : yX4_volume.cls = RX4 ∧ yX4_volume.cls ≠ "java/lang/invoke/MethodHandle" ∧ yX4_volume.cls ≠ "java/lang/invoke/VarHandle" ∧ (parseMethodDescriptor yX4_volume.desc).map (fun d => d.parameters.length) = some 1 := by decide +kernel
theorem ds_X4_volumeOf : yX4_volumeOf.cls = RX4 ∧ yX4_volumeOf.cls ≠ "java/lang/invoke/MethodHandle" ∧ yX4_volumeOf.cls ≠ "java/lang/invoke/VarHandle" ∧ (parseMethodDescriptor yX4_volumeOf.desc).map (fun d => d.parameters.length) = some 1 := by decide +kernel
theorem ds_X4_sum : yX4_sum.cls = RX4 ∧ yX4_sum.cls ≠ "java/lang/invoke/MethodHandle" ∧ yX4_sum.cls ≠ "java/lang/invoke/VarHandle" ∧ (parseMethodDescriptor yX4_sum.desc).map (fun d => d.parameters.length) = some 3 := by decide +kernel
theorem ds_X4_sumOf : yX4_sumOf.cls = RX4 ∧ yX4_sumOf.cls ≠ "java/lang/invoke/MethodHandle" ∧ yX4_sumOf.cls ≠ "java/lang/invoke/VarHandle" ∧ (parseMethodDescriptor yX4_sumOf.desc).map (fun d => d.parameters.length) = some 3 := by decide +kernel
theorem ds_X4_shut : yX4_shut.cls = RX4 ∧ yX4_shut.cls ≠ "java/lang/invoke/MethodHandle" ∧ yX4_shut.cls ≠ "java/lang/invoke/VarHandle" ∧ (parseMethodDescriptor yX4_shut.desc).map (fun d => d.parameters.length) = some 1 := by decide +kernel
theorem ds_X4_line : yX4_line.cls = RX4 ∧ yX4_line.cls ≠ "java/lang/invoke/MethodHandle" ∧ yX4_line.cls ≠ "java/lang/invoke/VarHandle" ∧ (parseMethodDescriptor yX4_line.desc).map (fun d => d.parameters.length) = some 3 := by decide +kernel
theorem ds_X4_isLine : yX4_isLine.cls = RX4 ∧ yX4_isLine.cls ≠ "java/lang/invoke/MethodHandle" ∧ yX4_isLine.cls ≠ "java/lang/invoke/VarHandle" ∧ (parseMethodDescriptor yX4_isLine.desc).map (fun d => d.parameters.length) = some 1 := by decide +kernel
theorem ds_X4_lined : yX4_lined.cls = RX4 ∧ yX4_lined.cls ≠ "java/lang/invoke/MethodHandle" ∧ yX4_lined.cls ≠ "java/lang/invoke/VarHandle" ∧ (parseMethodDescriptor yX4_lined.desc).map (fun d => d.parameters.length) = some 2 := by decide +kernel
theorem ds_X4_end : yX4_end.cls = RX4 ∧ yX4_end.cls ≠ "java/lang/invoke/MethodHandle" ∧ yX4_end.cls ≠ "java/lang/invoke/VarHandle" ∧ (parseMethodDescriptor yX4_end.desc).map (fun d => d.parameters.length) = some 2 := by decide +kernel
theorem ds_X4_balance : yX4_balance.cls = RX4 ∧ yX4_balance.cls ≠ "java/lang/invoke/MethodHandle" ∧ yX4_balance.cls ≠ "java/lang/invoke/VarHandle" ∧ (parseMethodDescriptor yX4_balance.desc).map (fun d => d.parameters.length) = some 4 := by decide +kernel
theorem ds_X4_imbalanceOf : yX4_imbalanceOf.cls = RX4 ∧ yX4_imbalanceOf.cls ≠ "java/lang/invoke/MethodHandle" ∧ yX4_imbalanceOf.cls ≠ "java/lang/invoke/VarHandle" ∧ (parseMethodDescriptor yX4_imbalanceOf.desc).map (fun d => d.parameters.length) = some 3 := by decide +kernel
theorem ds_X4_endsOf : yX4_endsOf.cls = RX4 ∧ yX4_endsOf.cls ≠ "java/lang/invoke/MethodHandle" ∧ yX4_endsOf.cls ≠ "java/lang/invoke/VarHandle" ∧ (parseMethodDescriptor yX4_endsOf.desc).map (fun d => d.parameters.length) = some 3 := by decide +kernel
theorem ds_X4_beyond : yX4_beyond.cls = RX4 ∧ yX4_beyond.cls ≠ "java/lang/invoke/MethodHandle" ∧ yX4_beyond.cls ≠ "java/lang/invoke/VarHandle" ∧ (parseMethodDescriptor yX4_beyond.desc).map (fun d => d.parameters.length) = some 2 := by decide +kernel
theorem ds_X4_linesBeyond : yX4_linesBeyond.cls = RX4 ∧ yX4_linesBeyond.cls ≠ "java/lang/invoke/MethodHandle" ∧ yX4_linesBeyond.cls ≠ "java/lang/invoke/VarHandle" ∧ (parseMethodDescriptor yX4_linesBeyond.desc).map (fun d => d.parameters.length) = some 2 := by decide +kernel
theorem ds_J9_abs_067f4 : yJ9_abs_067f4.cls = RJ9 ∧ yJ9_abs_067f4.cls ≠ "java/lang/invoke/MethodHandle" ∧ yJ9_abs_067f4.cls ≠ "java/lang/invoke/VarHandle" ∧ (parseMethodDescriptor yJ9_abs_067f4.desc).map (fun d => d.parameters.length) = some 1 := by decide +kernel
theorem ds_X4_explains : yX4_explains.cls = RX4 ∧ yX4_explains.cls ≠ "java/lang/invoke/MethodHandle" ∧ yX4_explains.cls ≠ "java/lang/invoke/VarHandle" ∧ (parseMethodDescriptor yX4_explains.desc).map (fun d => d.parameters.length) = some 3 := by decide +kernel
theorem ds_X4_sheet : yX4_sheet.cls = RX4 ∧ yX4_sheet.cls ≠ "java/lang/invoke/MethodHandle" ∧ yX4_sheet.cls ≠ "java/lang/invoke/VarHandle" ∧ (parseMethodDescriptor yX4_sheet.desc).map (fun d => d.parameters.length) = some 3 := by decide +kernel
theorem ds_X4_isSheet : yX4_isSheet.cls = RX4 ∧ yX4_isSheet.cls ≠ "java/lang/invoke/MethodHandle" ∧ yX4_isSheet.cls ≠ "java/lang/invoke/VarHandle" ∧ (parseMethodDescriptor yX4_isSheet.desc).map (fun d => d.parameters.length) = some 1 := by decide +kernel
theorem ds_X4_isLane : yX4_isLane.cls = RX4 ∧ yX4_isLane.cls ≠ "java/lang/invoke/MethodHandle" ∧ yX4_isLane.cls ≠ "java/lang/invoke/VarHandle" ∧ (parseMethodDescriptor yX4_isLane.desc).map (fun d => d.parameters.length) = some 1 := by decide +kernel
theorem ds_X4_fail : yX4_fail.cls = RX4 ∧ yX4_fail.cls ≠ "java/lang/invoke/MethodHandle" ∧ yX4_fail.cls ≠ "java/lang/invoke/VarHandle" ∧ (parseMethodDescriptor yX4_fail.desc).map (fun d => d.parameters.length) = some 1 := by decide +kernel
theorem ds_X2_renew : yX2_renew.cls = RX2 ∧ yX2_renew.cls ≠ "java/lang/invoke/MethodHandle" ∧ yX2_renew.cls ≠ "java/lang/invoke/VarHandle" ∧ (parseMethodDescriptor yX2_renew.desc).map (fun d => d.parameters.length) = some 2 := by decide +kernel
theorem ds_J7_fill_53178 : yJ7_fill_53178.cls = RJ7 ∧ yJ7_fill_53178.cls ≠ "java/lang/invoke/MethodHandle" ∧ yJ7_fill_53178.cls ≠ "java/lang/invoke/VarHandle" ∧ (parseMethodDescriptor yJ7_fill_53178.desc).map (fun d => d.parameters.length) = some 2 := by decide +kernel
theorem ds_X4_lose : yX4_lose.cls = RX4 ∧ yX4_lose.cls ≠ "java/lang/invoke/MethodHandle" ∧ yX4_lose.cls ≠ "java/lang/invoke/VarHandle" ∧ (parseMethodDescriptor yX4_lose.desc).map (fun d => d.parameters.length) = some 1 := by decide +kernel
theorem ds_X4_put : yX4_put.cls = RX4 ∧ yX4_put.cls ≠ "java/lang/invoke/MethodHandle" ∧ yX4_put.cls ≠ "java/lang/invoke/VarHandle" ∧ (parseMethodDescriptor yX4_put.desc).map (fun d => d.parameters.length) = some 3 := by decide +kernel
theorem ds_X2_hasCell : yX2_hasCell.cls = RX2 ∧ yX2_hasCell.cls ≠ "java/lang/invoke/MethodHandle" ∧ yX2_hasCell.cls ≠ "java/lang/invoke/VarHandle" ∧ (parseMethodDescriptor yX2_hasCell.desc).map (fun d => d.parameters.length) = some 1 := by decide +kernel
theorem ds_X2_fillIn : yX2_fillIn.cls = RX2 ∧ yX2_fillIn.cls ≠ "java/lang/invoke/MethodHandle" ∧ yX2_fillIn.cls ≠ "java/lang/invoke/VarHandle" ∧ (parseMethodDescriptor yX2_fillIn.desc).map (fun d => d.parameters.length) = some 2 := by decide +kernel
theorem ds_X4_cell : yX4_cell.cls = RX4 ∧ yX4_cell.cls ≠ "java/lang/invoke/MethodHandle" ∧ yX4_cell.cls ≠ "java/lang/invoke/VarHandle" ∧ (parseMethodDescriptor yX4_cell.desc).map (fun d => d.parameters.length) = some 3 := by decide +kernel
theorem ds_X2_faultAs : yX2_faultAs.cls = RX2 ∧ yX2_faultAs.cls ≠ "java/lang/invoke/MethodHandle" ∧ yX2_faultAs.cls ≠ "java/lang/invoke/VarHandle" ∧ (parseMethodDescriptor yX2_faultAs.desc).map (fun d => d.parameters.length) = some 1 := by decide +kernel
theorem ds_X4_copy : yX4_copy.cls = RX4 ∧ yX4_copy.cls ≠ "java/lang/invoke/MethodHandle" ∧ yX4_copy.cls ≠ "java/lang/invoke/VarHandle" ∧ (parseMethodDescriptor yX4_copy.desc).map (fun d => d.parameters.length) = some 5 := by decide +kernel
theorem ds_X2_hasCells : yX2_hasCells.cls = RX2 ∧ yX2_hasCells.cls ≠ "java/lang/invoke/MethodHandle" ∧ yX2_hasCells.cls ≠ "java/lang/invoke/VarHandle" ∧ (parseMethodDescriptor yX2_hasCells.desc).map (fun d => d.parameters.length) = some 2 := by decide +kernel
theorem ds_X4_watch : yX4_watch.cls = RX4 ∧ yX4_watch.cls ≠ "java/lang/invoke/MethodHandle" ∧ yX4_watch.cls ≠ "java/lang/invoke/VarHandle" ∧ (parseMethodDescriptor yX4_watch.desc).map (fun d => d.parameters.length) = some 5 := by decide +kernel
theorem ds_X2_watched : yX2_watched.cls = RX2 ∧ yX2_watched.cls ≠ "java/lang/invoke/MethodHandle" ∧ yX2_watched.cls ≠ "java/lang/invoke/VarHandle" ∧ (parseMethodDescriptor yX2_watched.desc).map (fun d => d.parameters.length) = some 3 := by decide +kernel
theorem ds_X4_tell : yX4_tell.cls = RX4 ∧ yX4_tell.cls ≠ "java/lang/invoke/MethodHandle" ∧ yX4_tell.cls ≠ "java/lang/invoke/VarHandle" ∧ (parseMethodDescriptor yX4_tell.desc).map (fun d => d.parameters.length) = some 1 := by decide +kernel
theorem ds_X4_leave : yX4_leave.cls = RX4 ∧ yX4_leave.cls ≠ "java/lang/invoke/MethodHandle" ∧ yX4_leave.cls ≠ "java/lang/invoke/VarHandle" ∧ (parseMethodDescriptor yX4_leave.desc).map (fun d => d.parameters.length) = some 1 := by decide +kernel
theorem ds_X4_tellTicket : yX4_tellTicket.cls = RX4 ∧ yX4_tellTicket.cls ≠ "java/lang/invoke/MethodHandle" ∧ yX4_tellTicket.cls ≠ "java/lang/invoke/VarHandle" ∧ (parseMethodDescriptor yX4_tellTicket.desc).map (fun d => d.parameters.length) = some 1 := by decide +kernel
theorem ds_X4_worth : yX4_worth.cls = RX4 ∧ yX4_worth.cls ≠ "java/lang/invoke/MethodHandle" ∧ yX4_worth.cls ≠ "java/lang/invoke/VarHandle" ∧ (parseMethodDescriptor yX4_worth.desc).map (fun d => d.parameters.length) = some 1 := by decide +kernel
theorem ds_X4_as : yX4_as.cls = RX4 ∧ yX4_as.cls ≠ "java/lang/invoke/MethodHandle" ∧ yX4_as.cls ≠ "java/lang/invoke/VarHandle" ∧ (parseMethodDescriptor yX4_as.desc).map (fun d => d.parameters.length) = some 2 := by decide +kernel
theorem ds_X4_trace : yX4_trace.cls = RX4 ∧ yX4_trace.cls ≠ "java/lang/invoke/MethodHandle" ∧ yX4_trace.cls ≠ "java/lang/invoke/VarHandle" ∧ (parseMethodDescriptor yX4_trace.desc).map (fun d => d.parameters.length) = some 0 := by decide +kernel
theorem ds_X4_fault : yX4_fault.cls = RX4 ∧ yX4_fault.cls ≠ "java/lang/invoke/MethodHandle" ∧ yX4_fault.cls ≠ "java/lang/invoke/VarHandle" ∧ (parseMethodDescriptor yX4_fault.desc).map (fun d => d.parameters.length) = some 0 := by decide +kernel
theorem ds_X4_told : yX4_told.cls = RX4 ∧ yX4_told.cls ≠ "java/lang/invoke/MethodHandle" ∧ yX4_told.cls ≠ "java/lang/invoke/VarHandle" ∧ (parseMethodDescriptor yX4_told.desc).map (fun d => d.parameters.length) = some 1 := by decide +kernel
theorem ds_X4_countNotReplaced : yX4_countNotReplaced.cls = RX4 ∧ yX4_countNotReplaced.cls ≠ "java/lang/invoke/MethodHandle" ∧ yX4_countNotReplaced.cls ≠ "java/lang/invoke/VarHandle" ∧ (parseMethodDescriptor yX4_countNotReplaced.desc).map (fun d => d.parameters.length) = some 0 := by decide +kernel
theorem ds_X5_init : yX5_init.cls = RX5 ∧ yX5_init.cls ≠ "java/lang/invoke/MethodHandle" ∧ yX5_init.cls ≠ "java/lang/invoke/VarHandle" ∧ (parseMethodDescriptor yX5_init.desc).map (fun d => d.parameters.length) = some 0 := by decide +kernel
theorem ds_X5_meter : yX5_meter.cls = RX5 ∧ yX5_meter.cls ≠ "java/lang/invoke/MethodHandle" ∧ yX5_meter.cls ≠ "java/lang/invoke/VarHandle" ∧ (parseMethodDescriptor yX5_meter.desc).map (fun d => d.parameters.length) = some 1 := by decide +kernel
theorem ds_X5_in : yX5_in.cls = RX5 ∧ yX5_in.cls ≠ "java/lang/invoke/MethodHandle" ∧ yX5_in.cls ≠ "java/lang/invoke/VarHandle" ∧ (parseMethodDescriptor yX5_in.desc).map (fun d => d.parameters.length) = some 3 := by decide +kernel
theorem ds_X5_factor : yX5_factor.cls = RX5 ∧ yX5_factor.cls ≠ "java/lang/invoke/MethodHandle" ∧ yX5_factor.cls ≠ "java/lang/invoke/VarHandle" ∧ (parseMethodDescriptor yX5_factor.desc).map (fun d => d.parameters.length) = some 4 := by decide +kernel
theorem ds_X5_noMeter : yX5_noMeter.cls = RX5 ∧ yX5_noMeter.cls ≠ "java/lang/invoke/MethodHandle" ∧ yX5_noMeter.cls ≠ "java/lang/invoke/VarHandle" ∧ (parseMethodDescriptor yX5_noMeter.desc).map (fun d => d.parameters.length) = some 1 := by decide +kernel
theorem ds_X5_isFlow : yX5_isFlow.cls = RX5 ∧ yX5_isFlow.cls ≠ "java/lang/invoke/MethodHandle" ∧ yX5_isFlow.cls ≠ "java/lang/invoke/VarHandle" ∧ (parseMethodDescriptor yX5_isFlow.desc).map (fun d => d.parameters.length) = some 1 := by decide +kernel
theorem ds_X5_isDay : yX5_isDay.cls = RX5 ∧ yX5_isDay.cls ≠ "java/lang/invoke/MethodHandle" ∧ yX5_isDay.cls ≠ "java/lang/invoke/VarHandle" ∧ (parseMethodDescriptor yX5_isDay.desc).map (fun d => d.parameters.length) = some 1 := by decide +kernel
theorem ds_X5_isNumber : yX5_isNumber.cls = RX5 ∧ yX5_isNumber.cls ≠ "java/lang/invoke/MethodHandle" ∧ yX5_isNumber.cls ≠ "java/lang/invoke/VarHandle" ∧ (parseMethodDescriptor yX5_isNumber.desc).map (fun d => d.parameters.length) = some 1 := by decide +kernel
theorem ds_X5_addFactor : yX5_addFactor.cls = RX5 ∧ yX5_addFactor.cls ≠ "java/lang/invoke/MethodHandle" ∧ yX5_addFactor.cls ≠ "java/lang/invoke/VarHandle" ∧ (parseMethodDescriptor yX5_addFactor.desc).map (fun d => d.parameters.length) = some 4 := by decide +kernel
theorem ds_X5_at : yX5_at.cls = RX5 ∧ yX5_at.cls ≠ "java/lang/invoke/MethodHandle" ∧ yX5_at.cls ≠ "java/lang/invoke/VarHandle" ∧ (parseMethodDescriptor yX5_at.desc).map (fun d => d.parameters.length) = some 3 := by decide +kernel
theorem ds_X5_factorAt : yX5_factorAt.cls = RX5 ∧ yX5_factorAt.cls ≠ "java/lang/invoke/MethodHandle" ∧ yX5_factorAt.cls ≠ "java/lang/invoke/VarHandle" ∧ (parseMethodDescriptor yX5_factorAt.desc).map (fun d => d.parameters.length) = some 3 := by decide +kernel
theorem ds_X5_findCurve : yX5_findCurve.cls = RX5 ∧ yX5_findCurve.cls ≠ "java/lang/invoke/MethodHandle" ∧ yX5_findCurve.cls ≠ "java/lang/invoke/VarHandle" ∧ (parseMethodDescriptor yX5_findCurve.desc).map (fun d => d.parameters.length) = some 2 := by decide +kernel
theorem ds_X5_addPoint : yX5_addPoint.cls = RX5 ∧ yX5_addPoint.cls ≠ "java/lang/invoke/MethodHandle" ∧ yX5_addPoint.cls ≠ "java/lang/invoke/VarHandle" ∧ (parseMethodDescriptor yX5_addPoint.desc).map (fun d => d.parameters.length) = some 1 := by decide +kernel
theorem ds_X5_points : yX5_points.cls = RX5 ∧ yX5_points.cls ≠ "java/lang/invoke/MethodHandle" ∧ yX5_points.cls ≠ "java/lang/invoke/VarHandle" ∧ (parseMethodDescriptor yX5_points.desc).map (fun d => d.parameters.length) = some 2 := by decide +kernel
theorem ds_X5_point : yX5_point.cls = RX5 ∧ yX5_point.cls ≠ "java/lang/invoke/MethodHandle" ∧ yX5_point.cls ≠ "java/lang/invoke/VarHandle" ∧ (parseMethodDescriptor yX5_point.desc).map (fun d => d.parameters.length) = some 4 := by decide +kernel
theorem ds_X5_proof : yX5_proof.cls = RX5 ∧ yX5_proof.cls ≠ "java/lang/invoke/MethodHandle" ∧ yX5_proof.cls ≠ "java/lang/invoke/VarHandle" ∧ (parseMethodDescriptor yX5_proof.desc).map (fun d => d.parameters.length) = some 3 := by decide +kernel
theorem ds_X5_run : yX5_run.cls = RX5 ∧ yX5_run.cls ≠ "java/lang/invoke/MethodHandle" ∧ yX5_run.cls ≠ "java/lang/invoke/VarHandle" ∧ (parseMethodDescriptor yX5_run.desc).map (fun d => d.parameters.length) = some 3 := by decide +kernel
theorem ds_X5_lost : yX5_lost.cls = RX5 ∧ yX5_lost.cls ≠ "java/lang/invoke/MethodHandle" ∧ yX5_lost.cls ≠ "java/lang/invoke/VarHandle" ∧ (parseMethodDescriptor yX5_lost.desc).map (fun d => d.parameters.length) = some 0 := by decide +kernel
theorem ds_X5_proving : yX5_proving.cls = RX5 ∧ yX5_proving.cls ≠ "java/lang/invoke/MethodHandle" ∧ yX5_proving.cls ≠ "java/lang/invoke/VarHandle" ∧ (parseMethodDescriptor yX5_proving.desc).map (fun d => d.parameters.length) = some 1 := by decide +kernel
theorem ds_X5_isGood : yX5_isGood.cls = RX5 ∧ yX5_isGood.cls ≠ "java/lang/invoke/MethodHandle" ∧ yX5_isGood.cls ≠ "java/lang/invoke/VarHandle" ∧ (parseMethodDescriptor yX5_isGood.desc).map (fun d => d.parameters.length) = some 0 := by decide +kernel
theorem ds_X5_accept : yX5_accept.cls = RX5 ∧ yX5_accept.cls ≠ "java/lang/invoke/MethodHandle" ∧ yX5_accept.cls ≠ "java/lang/invoke/VarHandle" ∧ (parseMethodDescriptor yX5_accept.desc).map (fun d => d.parameters.length) = some 1 := by decide +kernel
theorem ds_X5_rounded : yX5_rounded.cls = RX5 ∧ yX5_rounded.cls ≠ "java/lang/invoke/MethodHandle" ∧ yX5_rounded.cls ≠ "java/lang/invoke/VarHandle" ∧ (parseMethodDescriptor yX5_rounded.desc).map (fun d => d.parameters.length) = some 2 := by decide +kernel
theorem ds_X5_ticket : yX5_ticket.cls = RX5 ∧ yX5_ticket.cls ≠ "java/lang/invoke/MethodHandle" ∧ yX5_ticket.cls ≠ "java/lang/invoke/VarHandle" ∧ (parseMethodDescriptor yX5_ticket.desc).map (fun d => d.parameters.length) = some 4 := by decide +kernel
theorem ds_X5_isShut : yX5_isShut.cls = RX5 ∧ yX5_isShut.cls ≠ "java/lang/invoke/MethodHandle" ∧ yX5_isShut.cls ≠ "java/lang/invoke/VarHandle" ∧ (parseMethodDescriptor yX5_isShut.desc).map (fun d => d.parameters.length) = some 1 := by decide +kernel
theorem ds_X5_add : yX5_add.cls = RX5 ∧ yX5_add.cls ≠ "java/lang/invoke/MethodHandle" ∧ yX5_add.cls ≠ "java/lang/invoke/VarHandle" ∧ (parseMethodDescriptor yX5_add.desc).map (fun d => d.parameters.length) = some 6 := by decide +kernel
theorem ds_X5_right : yX5_right.cls = RX5 ∧ yX5_right.cls ≠ "java/lang/invoke/MethodHandle" ∧ yX5_right.cls ≠ "java/lang/invoke/VarHandle" ∧ (parseMethodDescriptor yX5_right.desc).map (fun d => d.parameters.length) = some 2 := by decide +kernel
theorem ds_X5_noTicket : yX5_noTicket.cls = RX5 ∧ yX5_noTicket.cls ≠ "java/lang/invoke/MethodHandle" ∧ yX5_noTicket.cls ≠ "java/lang/invoke/VarHandle" ∧ (parseMethodDescriptor yX5_noTicket.desc).map (fun d => d.parameters.length) = some 1 := by decide +kernel
theorem ds_X5_remake : yX5_remake.cls = RX5 ∧ yX5_remake.cls ≠ "java/lang/invoke/MethodHandle" ∧ yX5_remake.cls ≠ "java/lang/invoke/VarHandle" ∧ (parseMethodDescriptor yX5_remake.desc).map (fun d => d.parameters.length) = some 3 := by decide +kernel
theorem ds_X5_areDays : yX5_areDays.cls = RX5 ∧ yX5_areDays.cls ≠ "java/lang/invoke/MethodHandle" ∧ yX5_areDays.cls ≠ "java/lang/invoke/VarHandle" ∧ (parseMethodDescriptor yX5_areDays.desc).map (fun d => d.parameters.length) = some 2 := by decide +kernel
theorem ds_X5_isStale : yX5_isStale.cls = RX5 ∧ yX5_isStale.cls ≠ "java/lang/invoke/MethodHandle" ∧ yX5_isStale.cls ≠ "java/lang/invoke/VarHandle" ∧ (parseMethodDescriptor yX5_isStale.desc).map (fun d => d.parameters.length) = some 4 := by decide +kernel
theorem ds_X5_ticketed : yX5_ticketed.cls = RX5 ∧ yX5_ticketed.cls ≠ "java/lang/invoke/MethodHandle" ∧ yX5_ticketed.cls ≠ "java/lang/invoke/VarHandle" ∧ (parseMethodDescriptor yX5_ticketed.desc).map (fun d => d.parameters.length) = some 2 := by decide +kernel
theorem ds_X5_volume : yX5_volume.cls = RX5 ∧ yX5_volume.cls ≠ "java/lang/invoke/MethodHandle" ∧ yX5_volume.cls ≠ "java/lang/invoke/VarHandle" ∧ (parseMethodDescriptor yX5_volume.desc).map (fun d => d.parameters.length) = some 1 := by decide +kernel
theorem ds_X5_volumeOf : yX5_volumeOf.cls = RX5 ∧ yX5_volumeOf.cls ≠ "java/lang/invoke/MethodHandle" ∧ yX5_volumeOf.cls ≠ "java/lang/invoke/VarHandle" ∧ (parseMethodDescriptor yX5_volumeOf.desc).map (fun d => d.parameters.length) = some 1 := by decide +kernel
theorem ds_X5_sum : yX5_sum.cls = RX5 ∧ yX5_sum.cls ≠ "java/lang/invoke/MethodHandle" ∧ yX5_sum.cls ≠ "java/lang/invoke/VarHandle" ∧ (parseMethodDescriptor yX5_sum.desc).map (fun d => d.parameters.length) = some 3 := by decide +kernel
theorem ds_X5_sumOf : yX5_sumOf.cls = RX5 ∧ yX5_sumOf.cls ≠ "java/lang/invoke/MethodHandle" ∧ yX5_sumOf.cls ≠ "java/lang/invoke/VarHandle" ∧ (parseMethodDescriptor yX5_sumOf.desc).map (fun d => d.parameters.length) = some 3 := by decide +kernel
theorem ds_X5_shut : yX5_shut.cls = RX5 ∧ yX5_shut.cls ≠ "java/lang/invoke/MethodHandle" ∧ yX5_shut.cls ≠ "java/lang/invoke/VarHandle" ∧ (parseMethodDescriptor yX5_shut.desc).map (fun d => d.parameters.length) = some 1 := by decide +kernel
theorem ds_X5_line : yX5_line.cls = RX5 ∧ yX5_line.cls ≠ "java/lang/invoke/MethodHandle" ∧ yX5_line.cls ≠ "java/lang/invoke/VarHandle" ∧ (parseMethodDescriptor yX5_line.desc).map (fun d => d.parameters.length) = some 3 := by decide +kernel
theorem ds_X5_noLine : yX5_noLine.cls = RX5 ∧ yX5_noLine.cls ≠ "java/lang/invoke/MethodHandle" ∧ yX5_noLine.cls ≠ "java/lang/invoke/VarHandle" ∧ (parseMethodDescriptor yX5_noLine.desc).map (fun d => d.parameters.length) = some 1 := by decide +kernel
theorem ds_X5_lined : yX5_lined.cls = RX5 ∧ yX5_lined.cls ≠ "java/lang/invoke/MethodHandle" ∧ yX5_lined.cls ≠ "java/lang/invoke/VarHandle" ∧ (parseMethodDescriptor yX5_lined.desc).map (fun d => d.parameters.length) = some 2 := by decide +kernel
theorem ds_X5_end : yX5_end.cls = RX5 ∧ yX5_end.cls ≠ "java/lang/invoke/MethodHandle" ∧ yX5_end.cls ≠ "java/lang/invoke/VarHandle" ∧ (parseMethodDescriptor yX5_end.desc).map (fun d => d.parameters.length) = some 2 := by decide +kernel
theorem ds_X5_balance : yX5_balance.cls = RX5 ∧ yX5_balance.cls ≠ "java/lang/invoke/MethodHandle" ∧ yX5_balance.cls ≠ "java/lang/invoke/VarHandle" ∧ (parseMethodDescriptor yX5_balance.desc).map (fun d => d.parameters.length) = some 4 := by decide +kernel
theorem ds_X5_imbalance : yX5_imbalance.cls = RX5 ∧ yX5_imbalance.cls ≠ "java/lang/invoke/MethodHandle" ∧ yX5_imbalance.cls ≠ "java/lang/invoke/VarHandle" ∧ (parseMethodDescriptor yX5_imbalance.desc).map (fun d => d.parameters.length) = some 3 := by decide +kernel
theorem ds_X5_endsOf : yX5_endsOf.cls = RX5 ∧ yX5_endsOf.cls ≠ "java/lang/invoke/MethodHandle" ∧ yX5_endsOf.cls ≠ "java/lang/invoke/VarHandle" ∧ (parseMethodDescriptor yX5_endsOf.desc).map (fun d => d.parameters.length) = some 3 := by decide +kernel
theorem ds_X5_beyond : yX5_beyond.cls = RX5 ∧ yX5_beyond.cls ≠ "java/lang/invoke/MethodHandle" ∧ yX5_beyond.cls ≠ "java/lang/invoke/VarHandle" ∧ (parseMethodDescriptor yX5_beyond.desc).map (fun d => d.parameters.length) = some 2 := by decide +kernel
theorem ds_X5_beyondOf : yX5_beyondOf.cls = RX5 ∧ yX5_beyondOf.cls ≠ "java/lang/invoke/MethodHandle" ∧ yX5_beyondOf.cls ≠ "java/lang/invoke/VarHandle" ∧ (parseMethodDescriptor yX5_beyondOf.desc).map (fun d => d.parameters.length) = some 2 := by decide +kernel
theorem ds_X5_explains : yX5_explains.cls = RX5 ∧ yX5_explains.cls ≠ "java/lang/invoke/MethodHandle" ∧ yX5_explains.cls ≠ "java/lang/invoke/VarHandle" ∧ (parseMethodDescriptor yX5_explains.desc).map (fun d => d.parameters.length) = some 3 := by decide +kernel
theorem ds_X5_sheet : yX5_sheet.cls = RX5 ∧ yX5_sheet.cls ≠ "java/lang/invoke/MethodHandle" ∧ yX5_sheet.cls ≠ "java/lang/invoke/VarHandle" ∧ (parseMethodDescriptor yX5_sheet.desc).map (fun d => d.parameters.length) = some 3 := by decide +kernel
theorem ds_X5_noSheet : yX5_noSheet.cls = RX5 ∧ yX5_noSheet.cls ≠ "java/lang/invoke/MethodHandle" ∧ yX5_noSheet.cls ≠ "java/lang/invoke/VarHandle" ∧ (parseMethodDescriptor yX5_noSheet.desc).map (fun d => d.parameters.length) = some 1 := by decide +kernel
theorem ds_X5_refused : yX5_refused.cls = RX5 ∧ yX5_refused.cls ≠ "java/lang/invoke/MethodHandle" ∧ yX5_refused.cls ≠ "java/lang/invoke/VarHandle" ∧ (parseMethodDescriptor yX5_refused.desc).map (fun d => d.parameters.length) = some 1 := by decide +kernel
theorem ds_X5_failed : yX5_failed.cls = RX5 ∧ yX5_failed.cls ≠ "java/lang/invoke/MethodHandle" ∧ yX5_failed.cls ≠ "java/lang/invoke/VarHandle" ∧ (parseMethodDescriptor yX5_failed.desc).map (fun d => d.parameters.length) = some 1 := by decide +kernel
theorem ds_X5_lose : yX5_lose.cls = RX5 ∧ yX5_lose.cls ≠ "java/lang/invoke/MethodHandle" ∧ yX5_lose.cls ≠ "java/lang/invoke/VarHandle" ∧ (parseMethodDescriptor yX5_lose.desc).map (fun d => d.parameters.length) = some 1 := by decide +kernel
theorem ds_X5_put : yX5_put.cls = RX5 ∧ yX5_put.cls ≠ "java/lang/invoke/MethodHandle" ∧ yX5_put.cls ≠ "java/lang/invoke/VarHandle" ∧ (parseMethodDescriptor yX5_put.desc).map (fun d => d.parameters.length) = some 3 := by decide +kernel
theorem ds_X5_noCell : yX5_noCell.cls = RX5 ∧ yX5_noCell.cls ≠ "java/lang/invoke/MethodHandle" ∧ yX5_noCell.cls ≠ "java/lang/invoke/VarHandle" ∧ (parseMethodDescriptor yX5_noCell.desc).map (fun d => d.parameters.length) = some 2 := by decide +kernel
theorem ds_X5_cell : yX5_cell.cls = RX5 ∧ yX5_cell.cls ≠ "java/lang/invoke/MethodHandle" ∧ yX5_cell.cls ≠ "java/lang/invoke/VarHandle" ∧ (parseMethodDescriptor yX5_cell.desc).map (fun d => d.parameters.length) = some 3 := by decide +kernel
theorem ds_X5_failedLong : yX5_failedLong.cls = RX5 ∧ yX5_failedLong.cls ≠ "java/lang/invoke/MethodHandle" ∧ yX5_failedLong.cls ≠ "java/lang/invoke/VarHandle" ∧ (parseMethodDescriptor yX5_failedLong.desc).map (fun d => d.parameters.length) = some 1 := by decide +kernel
theorem ds_X5_copy : yX5_copy.cls = RX5 ∧ yX5_copy.cls ≠ "java/lang/invoke/MethodHandle" ∧ yX5_copy.cls ≠ "java/lang/invoke/VarHandle" ∧ (parseMethodDescriptor yX5_copy.desc).map (fun d => d.parameters.length) = some 5 := by decide +kernel
theorem ds_X5_isBeyond : yX5_isBeyond.cls = RX5 ∧ yX5_isBeyond.cls ≠ "java/lang/invoke/MethodHandle" ∧ yX5_isBeyond.cls ≠ "java/lang/invoke/VarHandle" ∧ (parseMethodDescriptor yX5_isBeyond.desc).map (fun d => d.parameters.length) = some 3 := by decide +kernel
theorem ds_X5_watch : yX5_watch.cls = RX5 ∧ yX5_watch.cls ≠ "java/lang/invoke/MethodHandle" ∧ yX5_watch.cls ≠ "java/lang/invoke/VarHandle" ∧ (parseMethodDescriptor yX5_watch.desc).map (fun d => d.parameters.length) = some 5 := by decide +kernel
theorem ds_X5_tell : yX5_tell.cls = RX5 ∧ yX5_tell.cls ≠ "java/lang/invoke/MethodHandle" ∧ yX5_tell.cls ≠ "java/lang/invoke/VarHandle" ∧ (parseMethodDescriptor yX5_tell.desc).map (fun d => d.parameters.length) = some 1 := by decide +kernel
theorem ds_X5_traced : yX5_traced.cls = RX5 ∧ yX5_traced.cls ≠ "java/lang/invoke/MethodHandle" ∧ yX5_traced.cls ≠ "java/lang/invoke/VarHandle" ∧ (parseMethodDescriptor yX5_traced.desc).map (fun d => d.parameters.length) = some 1 := by decide +kernel
theorem ds_X5_worth : yX5_worth.cls = RX5 ∧ yX5_worth.cls ≠ "java/lang/invoke/MethodHandle" ∧ yX5_worth.cls ≠ "java/lang/invoke/VarHandle" ∧ (parseMethodDescriptor yX5_worth.desc).map (fun d => d.parameters.length) = some 1 := by decide +kernel
theorem ds_X5_as : yX5_as.cls = RX5 ∧ yX5_as.cls ≠ "java/lang/invoke/MethodHandle" ∧ yX5_as.cls ≠ "java/lang/invoke/VarHandle" ∧ (parseMethodDescriptor yX5_as.desc).map (fun d => d.parameters.length) = some 2 := by decide +kernel
theorem ds_X5_trace : yX5_trace.cls = RX5 ∧ yX5_trace.cls ≠ "java/lang/invoke/MethodHandle" ∧ yX5_trace.cls ≠ "java/lang/invoke/VarHandle" ∧ (parseMethodDescriptor yX5_trace.desc).map (fun d => d.parameters.length) = some 0 := by decide +kernel
theorem ds_X5_fault : yX5_fault.cls = RX5 ∧ yX5_fault.cls ≠ "java/lang/invoke/MethodHandle" ∧ yX5_fault.cls ≠ "java/lang/invoke/VarHandle" ∧ (parseMethodDescriptor yX5_fault.desc).map (fun d => d.parameters.length) = some 0 := by decide +kernel
theorem ds_X5_told : yX5_told.cls = RX5 ∧ yX5_told.cls ≠ "java/lang/invoke/MethodHandle" ∧ yX5_told.cls ≠ "java/lang/invoke/VarHandle" ∧ (parseMethodDescriptor yX5_told.desc).map (fun d => d.parameters.length) = some 1 := by decide +kernel
theorem gV_RL_13 : GoodIn wsL_law (wsV RL 13 RX4 yX4_meter (wsU yX4_meter cX4_meter 2 (some .int))) := goodV wML_RL_13 wIM_X4_meter wSE_X4_meter wIN_RX4 wCO_X4_meter
theorem gS_RX4_54 : GoodIn wsL_law (va_wsS RX4 54 yX4_isWithin (wsU yX4_isWithin cX4_isWithin 3 (some .boolean))) := goodS wML_RX4_54 wST_X4_isWithin wIN_RX4 wCO_X4_isWithin
theorem gV_RL_18 : GoodIn wsL_law (wsV RL 18 RX4 yX4_factor (wsU yX4_factor cX4_factor 6 (some .int))) := goodV wML_RL_18 wIM_X4_factor wSE_X4_factor wIN_RX4 wCO_X4_factor
theorem gV_RX4_61 : GoodIn wsL_law (wsV RX4 61 RX4 yX4_isMeter (wsU yX4_isMeter cX4_isMeter 2 (some .boolean))) := goodV wML_RX4_61 wIM_X4_isMeter wSE_X4_isMeter wIN_RX4 wCO_X4_isMeter
theorem gS_RX4_65 : GoodIn wsL_law (va_wsS RX4 65 yX4_isFlow (wsU yX4_isFlow cX4_isFlow 1 (some .boolean))) := goodS wML_RX4_65 wST_X4_isFlow wIN_RX4 wCO_X4_isFlow
theorem gS_RX4_68 : GoodIn wsL_law (va_wsS RX4 68 yX4_isDay (wsU yX4_isDay cX4_isDay 1 (some .boolean))) := goodS wML_RX4_68 wST_X4_isDay wIN_RX4 wCO_X4_isDay
theorem gV_RX4_73 : GoodIn wsL_law (wsV RX4 73 RX0 yX0_isFull (wsU yX0_isFull cX0_isFull 1 (some .boolean))) := goodV wML_RX4_73 wIM_X0_isFull wSE_X0_isFull wIN_RX0 wCO_X0_isFull
theorem gV_RX4_77 : GoodIn wsL_law (wsV RX4 77 RX0 yX0_takeFactor (wsU yX0_takeFactor cX0_takeFactor 5 none)) := goodV wML_RX4_77 wIM_X0_takeFactor wSE_X0_takeFactor wIN_RX0 wCO_X0_takeFactor
theorem gV_RX0_34 : GoodIn wsL_law (wsV RX0 34 RX0 yX0_standsBehind (wsU yX0_standsBehind cX0_standsBehind 4 (some .boolean))) := goodV wML_RX0_34 wIM_X0_standsBehind wSE_X0_standsBehind wIN_RX0 wCO_X0_standsBehind
theorem gV_RL_23 : GoodIn wsL_law (wsV RL 23 RX4 yX4_at (wsU yX4_at cX4_at 4 (some .int))) := goodV wML_RL_23 wIM_X4_at wSE_X4_at wIN_RX4 wCO_X4_at
theorem gV_RX4_84 : GoodIn wsL_law (wsV RX4 84 RX0 yX0_factorAt (wsU yX0_factorAt cX0_factorAt 6 (some .int))) := goodV wML_RX4_84 wIM_X0_factorAt wSE_X0_factorAt wIN_RX0 wCO_X0_factorAt
theorem gV_RX0_38 : GoodIn wsL_law (wsV RX0 38 RX0 yX0_isOnCurve (wsU yX0_isOnCurve cX0_isOnCurve 4 (some .boolean))) := goodV wML_RX0_38 wIM_X0_isOnCurve wSE_X0_isOnCurve wIN_RX0 wCO_X0_isOnCurve
theorem gV_RX0_43 : GoodIn wsL_law (wsV RX0 43 RX0 yX0_between (wsU yX0_between cX0_between 5 (some .int))) := goodV wML_RX0_43 wIM_X0_between wSE_X0_between wIN_RX0 wCO_X0_between
theorem gV_RL_28 : GoodIn wsL_law (wsV RL 28 RX4 yX4_points (wsU yX4_points cX4_points 3 (some .int))) := goodV wML_RL_28 wIM_X4_points wSE_X4_points wIN_RX4 wCO_X4_points
theorem gV_RX4_88 : GoodIn wsL_law (wsV RX4 88 RX0 yX0_curveSize (wsU yX0_curveSize cX0_curveSize 4 (some .int))) := goodV wML_RX4_88 wIM_X0_curveSize wSE_X0_curveSize wIN_RX0 wCO_X0_curveSize
theorem gV_RL_33 : GoodIn wsL_law (wsV RL 33 RX4 yX4_point (wsU yX4_point cX4_point 6 (some .int))) := goodV wML_RL_33 wIM_X4_point wSE_X4_point wIN_RX4 wCO_X4_point
theorem gV_RX4_92 : GoodIn wsL_law (wsV RX4 92 RX0 yX0_curvePlace (wsU yX0_curvePlace cX0_curvePlace 5 (some .int))) := goodV wML_RX4_92 wIM_X0_curvePlace wSE_X0_curvePlace wIN_RX0 wCO_X0_curvePlace
theorem gV_RL_37 : GoodIn wsL_law (wsV RL 37 RX4 yX4_proof (wsU yX4_proof cX4_proof 4 (some .int))) := goodV wML_RL_37 wIM_X4_proof wSE_X4_proof wIN_RX4 wCO_X4_proof
theorem gV_RX4_103 : GoodIn wsL_law (wsV RX4 103 RX1 yX1_begin (wsU yX1_begin cX1_begin 4 none)) := goodV wML_RX4_103 wIM_X1_begin wSE_X1_begin wIN_RX1 wCO_X1_begin
theorem gV_RL_41 : GoodIn wsL_law (wsV RL 41 RX4 yX4_run (wsU yX4_run cX4_run 6 (some .long))) := goodV wML_RL_41 wIM_X4_run wSE_X4_run wIN_RX4 wCO_X4_run
theorem gV_RL_46 : GoodIn wsL_law (wsV RL 46 RX4 yX4_proving (wsU yX4_proving cX4_proving 2 (some .int))) := goodV wML_RL_46 wIM_X4_proving wSE_X4_proving wIN_RX4 wCO_X4_proving
theorem gV_RX4_121 : GoodIn wsL_law (wsV RX4 121 RX1 yX1_isGood (wsU yX1_isGood cX1_isGood 6 (some .boolean))) := goodV wML_RX4_121 wIM_X1_isGood wSE_X1_isGood wIN_RX1 wCO_X1_isGood
theorem gV_RL_50 : GoodIn wsL_law (wsV RL 50 RX4 yX4_accept (wsU yX4_accept cX4_accept 5 (some .int))) := goodV wML_RL_50 wIM_X4_accept wSE_X4_accept wIN_RX4 wCO_X4_accept
theorem gV_RX4_133 : GoodIn wsL_law (wsV RX4 133 RX1 yX1_factorOf (wsU yX1_factorOf cX1_factorOf 5 (some .long))) := goodV wML_RX4_133 wIM_X1_factorOf wSE_X1_factorOf wIN_RX1 wCO_X1_factorOf
theorem gV_RL_54 : GoodIn wsL_law (wsV RL 54 RX4 yX4_ticket (wsU yX4_ticket cX4_ticket 5 (some .int))) := goodV wML_RL_54 wIM_X4_ticket wSE_X4_ticket wIN_RX4 wCO_X4_ticket
theorem gV_RX4_142 : GoodIn wsL_law (wsV RX4 142 RX4 yX4_isShut (wsU yX4_isShut cX4_isShut 2 (some .boolean))) := goodV wML_RX4_142 wIM_X4_isShut wSE_X4_isShut wIN_RX4 wCO_X4_isShut
theorem gV_RX4_148 : GoodIn wsL_law (wsV RX4 148 RX4 yX4_keep (wsU yX4_keep cX4_keep 2 none)) := goodV wML_RX4_148 wIM_X4_keep wSE_X4_keep wIN_RX4 wCO_X4_keep
theorem gV_RL_58 : GoodIn wsL_law (wsV RL 58 RX4 yX4_right (wsU yX4_right cX4_right 3 (some .int))) := goodV wML_RL_58 wIM_X4_right wSE_X4_right wIN_RX4 wCO_X4_right
theorem gV_RX4_152 : GoodIn wsL_law (wsV RX4 152 RX4 yX4_isTicket (wsU yX4_isTicket cX4_isTicket 2 (some .boolean))) := goodV wML_RX4_152 wIM_X4_isTicket wSE_X4_isTicket wIN_RX4 wCO_X4_isTicket
theorem gV_RX4_155 : GoodIn wsL_law (wsV RX4 155 RX3 yX3_isReplaced (wsU yX3_isReplaced cX3_isReplaced 1 (some .boolean))) := goodV wML_RX4_155 wIM_X3_isReplaced wSE_X3_isReplaced wIN_RX3 wCO_X3_isReplaced
theorem gV_RX4_161 : GoodIn wsL_law (wsV RX4 161 RX4 yX4_replace (wsU yX4_replace cX4_replace 6 none)) := goodV wML_RX4_161 wIM_X4_replace wSE_X4_replace wIN_RX4 wCO_X4_replace
theorem gV_RX4_287 : GoodIn wsL_law (wsV RX4 287 RX4 yX4_factorNow (wsU yX4_factorNow cX4_factorNow 2 (some .int))) := goodV wML_RX4_287 wIM_X4_factorNow wSE_X4_factorNow wIN_RX4 wCO_X4_factorNow
theorem gV_RL_62 : GoodIn wsL_law (wsV RL 62 RX4 yX4_remake (wsU yX4_remake cX4_remake 7 (some .int))) := goodV wML_RL_62 wIM_X4_remake wSE_X4_remake wIN_RX4 wCO_X4_remake
theorem gS_RX4_164 : GoodIn wsL_law (va_wsS RX4 164 yX4_areDays (wsU yX4_areDays cX4_areDays 2 (some .boolean))) := goodS wML_RX4_164 wST_X4_areDays wIN_RX4 wCO_X4_areDays
theorem gV_RX4_168 : GoodIn wsL_law (wsV RX4 168 RX4 yX4_isToRemake (wsU yX4_isToRemake cX4_isToRemake 5 (some .boolean))) := goodV wML_RX4_168 wIM_X4_isToRemake wSE_X4_isToRemake wIN_RX4 wCO_X4_isToRemake
theorem gV_RX4_290 : GoodIn wsL_law (wsV RX4 290 RX3 yX3_counts (wsU yX3_counts cX3_counts 4 (some .boolean))) := goodV wML_RX4_290 wIM_X3_counts wSE_X3_counts wIN_RX3 wCO_X3_counts
theorem gV_RX3_40 : GoodIn wsL_law (wsV RX3 40 RX3 yX3_isReplaced (wsU yX3_isReplaced cX3_isReplaced 1 (some .boolean))) := goodV wML_RX3_40 wIM_X3_isReplaced wSE_X3_isReplaced wIN_RX3 wCO_X3_isReplaced
theorem gV_RL_66 : GoodIn wsL_law (wsV RL 66 RX4 yX4_ticketed (wsU yX4_ticketed cX4_ticketed 4 (some .int))) := goodV wML_RL_66 wIM_X4_ticketed wSE_X4_ticketed wIN_RX4 wCO_X4_ticketed
theorem gV_RL_70 : GoodIn wsL_law (wsV RL 70 RX4 yX4_volume (wsU yX4_volume cX4_volume 2 (some .long))) := goodV wML_RL_70 wIM_X4_volume wSE_X4_volume wIN_RX4 wCO_X4_volume
theorem gV_RX4_189 : GoodIn wsL_law (wsV RX4 189 RX4 yX4_volumeOf (wsU yX4_volumeOf cX4_volumeOf 2 (some .long))) := goodV wML_RX4_189 wIM_X4_volumeOf wSE_X4_volumeOf wIN_RX4 wCO_X4_volumeOf
theorem gS_RX4_294 : GoodIn wsL_law (va_wsS RX4 294 yX4_rounded (wsU yX4_rounded cX4_rounded 4 (some .long))) := goodS wML_RX4_294 wST_X4_rounded wIN_RX4 wCO_X4_rounded
theorem gV_RL_75 : GoodIn wsL_law (wsV RL 75 RX4 yX4_sum (wsU yX4_sum cX4_sum 4 (some .long))) := goodV wML_RL_75 wIM_X4_sum wSE_X4_sum wIN_RX4 wCO_X4_sum
theorem gV_RX4_193 : GoodIn wsL_law (wsV RX4 193 RX4 yX4_sumOf (wsU yX4_sumOf cX4_sumOf 7 (some .long))) := goodV wML_RX4_193 wIM_X4_sumOf wSE_X4_sumOf wIN_RX4 wCO_X4_sumOf
theorem gV_RL_79 : GoodIn wsL_law (wsV RL 79 RX4 yX4_shut (wsU yX4_shut cX4_shut 3 (some .int))) := goodV wML_RL_79 wIM_X4_shut wSE_X4_shut wIN_RX4 wCO_X4_shut
theorem gV_RL_83 : GoodIn wsL_law (wsV RL 83 RX4 yX4_line (wsU yX4_line cX4_line 5 (some .int))) := goodV wML_RL_83 wIM_X4_line wSE_X4_line wIN_RX4 wCO_X4_line
theorem gS_RX4_197 : GoodIn wsL_law (va_wsS RX4 197 yX4_isLine (wsU yX4_isLine cX4_isLine 1 (some .boolean))) := goodS wML_RX4_197 wST_X4_isLine wIN_RX4 wCO_X4_isLine
theorem gV_RL_87 : GoodIn wsL_law (wsV RL 87 RX4 yX4_lined (wsU yX4_lined cX4_lined 3 (some .int))) := goodV wML_RL_87 wIM_X4_lined wSE_X4_lined wIN_RX4 wCO_X4_lined
theorem gV_RL_91 : GoodIn wsL_law (wsV RL 91 RX4 yX4_end (wsU yX4_end cX4_end 4 (some .int))) := goodV wML_RL_91 wIM_X4_end wSE_X4_end wIN_RX4 wCO_X4_end
theorem gV_RL_95 : GoodIn wsL_law (wsV RL 95 RX4 yX4_balance (wsU yX4_balance cX4_balance 5 (some .long))) := goodV wML_RL_95 wIM_X4_balance wSE_X4_balance wIN_RX4 wCO_X4_balance
theorem gV_RX4_206 : GoodIn wsL_law (wsV RX4 206 RX4 yX4_imbalanceOf (wsU yX4_imbalanceOf cX4_imbalanceOf 7 (some .long))) := goodV wML_RX4_206 wIM_X4_imbalanceOf wSE_X4_imbalanceOf wIN_RX4 wCO_X4_imbalanceOf
theorem gV_RX4_209 : GoodIn wsL_law (wsV RX4 209 RX4 yX4_endsOf (wsU yX4_endsOf cX4_endsOf 7 (some .long))) := goodV wML_RX4_209 wIM_X4_endsOf wSE_X4_endsOf wIN_RX4 wCO_X4_endsOf
theorem gV_RL_100 : GoodIn wsL_law (wsV RL 100 RX4 yX4_beyond (wsU yX4_beyond cX4_beyond 3 (some .int))) := goodV wML_RL_100 wIM_X4_beyond wSE_X4_beyond wIN_RX4 wCO_X4_beyond
theorem gV_RX4_212 : GoodIn wsL_law (wsV RX4 212 RX4 yX4_linesBeyond (wsU yX4_linesBeyond cX4_linesBeyond 5 (some .int))) := goodV wML_RX4_212 wIM_X4_linesBeyond wSE_X4_linesBeyond wIN_RX4 wCO_X4_linesBeyond
theorem gV_RL_104 : GoodIn wsL_law (wsV RL 104 RX4 yX4_explains (wsU yX4_explains cX4_explains 15 (some .long))) := goodV wML_RL_104 wIM_X4_explains wSE_X4_explains wIN_RX4 wCO_X4_explains
theorem gV_RL_108 : GoodIn wsL_law (wsV RL 108 RX4 yX4_sheet (wsU yX4_sheet cX4_sheet 4 (some .int))) := goodV wML_RL_108 wIM_X4_sheet wSE_X4_sheet wIN_RX4 wCO_X4_sheet
theorem gS_RX4_228 : GoodIn wsL_law (va_wsS RX4 228 yX4_isSheet (wsU yX4_isSheet cX4_isSheet 1 (some .boolean))) := goodS wML_RX4_228 wST_X4_isSheet wIN_RX4 wCO_X4_isSheet
theorem gS_RX4_231 : GoodIn wsL_law (va_wsS RX4 231 yX4_isLane (wsU yX4_isLane cX4_isLane 1 (some .boolean))) := goodS wML_RX4_231 wST_X4_isLane wIN_RX4 wCO_X4_isLane
theorem gV_RX4_234 : GoodIn wsL_law (wsV RX4 234 RX4 yX4_fail (wsU yX4_fail cX4_fail 2 (some .int))) := goodV wML_RX4_234 wIM_X4_fail wSE_X4_fail wIN_RX4 wCO_X4_fail
theorem gV_RX4_237 : GoodIn wsL_law (wsV RX4 237 RX2 yX2_renew (wsU yX2_renew cX2_renew 3 none)) := goodV wML_RX4_237 wIM_X2_renew wSE_X2_renew wIN_RX2 wCO_X2_renew
theorem gS_RX2_26 : GoodIn wsL_law (va_wsS RX2 26 yJ7_fill_53178 (wsU yJ7_fill_53178 cJ7_fill_53178 4 none)) := goodS wML_RX2_26 wST_J7_fill_53178 wIN_RJ7 wCO_J7_fill_53178
theorem gV_RL_112 : GoodIn wsL_law (wsV RL 112 RX4 yX4_lose (wsU yX4_lose cX4_lose 3 (some .int))) := goodV wML_RL_112 wIM_X4_lose wSE_X4_lose wIN_RX4 wCO_X4_lose
theorem gV_RL_116 : GoodIn wsL_law (wsV RL 116 RX4 yX4_put (wsU yX4_put cX4_put 4 (some .int))) := goodV wML_RL_116 wIM_X4_put wSE_X4_put wIN_RX4 wCO_X4_put
theorem gV_RX4_244 : GoodIn wsL_law (wsV RX4 244 RX2 yX2_hasCell (wsU yX2_hasCell cX2_hasCell 2 (some .boolean))) := goodV wML_RX4_244 wIM_X2_hasCell wSE_X2_hasCell wIN_RX2 wCO_X2_hasCell
theorem gV_RX4_247 : GoodIn wsL_law (wsV RX4 247 RX2 yX2_fillIn (wsU yX2_fillIn cX2_fillIn 3 none)) := goodV wML_RX4_247 wIM_X2_fillIn wSE_X2_fillIn wIN_RX2 wCO_X2_fillIn
theorem gV_RL_120 : GoodIn wsL_law (wsV RL 120 RX4 yX4_cell (wsU yX4_cell cX4_cell 4 (some .long))) := goodV wML_RL_120 wIM_X4_cell wSE_X4_cell wIN_RX4 wCO_X4_cell
theorem gV_RX4_250 : GoodIn wsL_law (wsV RX4 250 RX2 yX2_faultAs (wsU yX2_faultAs cX2_faultAs 2 (some .int))) := goodV wML_RX4_250 wIM_X2_faultAs wSE_X2_faultAs wIN_RX2 wCO_X2_faultAs
theorem gV_RL_124 : GoodIn wsL_law (wsV RL 124 RX4 yX4_copy (wsU yX4_copy cX4_copy 8 (some .int))) := goodV wML_RL_124 wIM_X4_copy wSE_X4_copy wIN_RX4 wCO_X4_copy
theorem gV_RX4_259 : GoodIn wsL_law (wsV RX4 259 RX2 yX2_hasCells (wsU yX2_hasCells cX2_hasCells 3 (some .boolean))) := goodV wML_RX4_259 wIM_X2_hasCells wSE_X2_hasCells wIN_RX2 wCO_X2_hasCells
theorem gV_RL_129 : GoodIn wsL_law (wsV RL 129 RX4 yX4_watch (wsU yX4_watch cX4_watch 7 (some .int))) := goodV wML_RL_129 wIM_X4_watch wSE_X4_watch wIN_RX4 wCO_X4_watch
theorem gV_RX4_268 : GoodIn wsL_law (wsV RX4 268 RX2 yX2_watched (wsU yX2_watched cX2_watched 11 (some .int))) := goodV wML_RX4_268 wIM_X2_watched wSE_X2_watched wIN_RX2 wCO_X2_watched
theorem gV_RL_133 : GoodIn wsL_law (wsV RL 133 RX4 yX4_tell (wsU yX4_tell cX4_tell 2 (some .int))) := goodV wML_RL_133 wIM_X4_tell wSE_X4_tell wIN_RX4 wCO_X4_tell
theorem gV_RX4_272 : GoodIn wsL_law (wsV RX4 272 RX4 yX4_leave (wsU yX4_leave cX4_leave 2 none)) := goodV wML_RX4_272 wIM_X4_leave wSE_X4_leave wIN_RX4 wCO_X4_leave
theorem gV_RX4_275 : GoodIn wsL_law (wsV RX4 275 RX4 yX4_tellTicket (wsU yX4_tellTicket cX4_tellTicket 2 (some .int))) := goodV wML_RX4_275 wIM_X4_tellTicket wSE_X4_tellTicket wIN_RX4 wCO_X4_tellTicket
theorem gV_RL_137 : GoodIn wsL_law (wsV RL 137 RX4 yX4_worth (wsU yX4_worth cX4_worth 2 (some .int))) := goodV wML_RL_137 wIM_X4_worth wSE_X4_worth wIN_RX4 wCO_X4_worth
theorem gV_RL_141 : GoodIn wsL_law (wsV RL 141 RX4 yX4_as (wsU yX4_as cX4_as 3 (some .int))) := goodV wML_RL_141 wIM_X4_as wSE_X4_as wIN_RX4 wCO_X4_as
theorem gV_RL_145 : GoodIn wsL_law (wsV RL 145 RX4 yX4_trace (wsU yX4_trace cX4_trace 1 (some .int))) := goodV wML_RL_145 wIM_X4_trace wSE_X4_trace wIN_RX4 wCO_X4_trace
theorem gV_RL_150 : GoodIn wsL_law (wsV RL 150 RX4 yX4_fault (wsU yX4_fault cX4_fault 1 (some .int))) := goodV wML_RL_150 wIM_X4_fault wSE_X4_fault wIN_RX4 wCO_X4_fault
theorem gV_RL_154 : GoodIn wsL_law (wsV RL 154 RX4 yX4_told (wsU yX4_told cX4_told 2 (some .int))) := goodV wML_RL_154 wIM_X4_told wSE_X4_told wIN_RX4 wCO_X4_told
theorem gV_RX4_281 : GoodIn wsL_law (wsV RX4 281 RX4 yX4_countNotReplaced (wsU yX4_countNotReplaced cX4_countNotReplaced 3 (some .int))) := goodV wML_RX4_281 wIM_X4_countNotReplaced wSE_X4_countNotReplaced wIN_RX4 wCO_X4_countNotReplaced
theorem gV_RL_17 : GoodIn wsL_law (wsV RL 17 RX5 yX5_meter (wsU yX5_meter cX5_meter 2 (some .int))) := goodV wML_RL_17 wIM_X5_meter wSE_X5_meter wIN_RX5 wCO_X5_meter
theorem gS_RX5_101 : GoodIn wsL_law (va_wsS RX5 101 yX5_in (wsU yX5_in cX5_in 6 (some .boolean))) := goodS wML_RX5_101 wST_X5_in wIN_RX5 wCO_X5_in
theorem gV_RL_22 : GoodIn wsL_law (wsV RL 22 RX5 yX5_factor (wsU yX5_factor cX5_factor 5 (some .int))) := goodV wML_RL_22 wIM_X5_factor wSE_X5_factor wIN_RX5 wCO_X5_factor
theorem gV_RX5_115 : GoodIn wsL_law (wsV RX5 115 RX5 yX5_noMeter (wsU yX5_noMeter cX5_noMeter 2 (some .boolean))) := goodV wML_RX5_115 wIM_X5_noMeter wSE_X5_noMeter wIN_RX5 wCO_X5_noMeter
theorem gS_RX5_119 : GoodIn wsL_law (va_wsS RX5 119 yX5_isFlow (wsU yX5_isFlow cX5_isFlow 1 (some .boolean))) := goodS wML_RX5_119 wST_X5_isFlow wIN_RX5 wCO_X5_isFlow
theorem gS_RX5_122 : GoodIn wsL_law (va_wsS RX5 122 yX5_isDay (wsU yX5_isDay cX5_isDay 1 (some .boolean))) := goodS wML_RX5_122 wST_X5_isDay wIN_RX5 wCO_X5_isDay
theorem gS_RX5_125 : GoodIn wsL_law (va_wsS RX5 125 yX5_isNumber (wsU yX5_isNumber cX5_isNumber 2 (some .boolean))) := goodS wML_RX5_125 wST_X5_isNumber wIN_RX5 wCO_X5_isNumber
theorem gV_RX5_129 : GoodIn wsL_law (wsV RX5 129 RX5 yX5_addFactor (wsU yX5_addFactor cX5_addFactor 6 none)) := goodV wML_RX5_129 wIM_X5_addFactor wSE_X5_addFactor wIN_RX5 wCO_X5_addFactor
theorem gV_RL_27 : GoodIn wsL_law (wsV RL 27 RX5 yX5_at (wsU yX5_at cX5_at 4 (some .int))) := goodV wML_RL_27 wIM_X5_at wSE_X5_at wIN_RX5 wCO_X5_at
theorem gV_RX5_145 : GoodIn wsL_law (wsV RX5 145 RX5 yX5_factorAt (wsU yX5_factorAt cX5_factorAt 9 (some .int))) := goodV wML_RX5_145 wIM_X5_factorAt wSE_X5_factorAt wIN_RX5 wCO_X5_factorAt
theorem gV_RX5_140 : GoodIn wsL_law (wsV RX5 140 RX5 yX5_findCurve (wsU yX5_findCurve cX5_findCurve 4 none)) := goodV wML_RX5_140 wIM_X5_findCurve wSE_X5_findCurve wIN_RX5 wCO_X5_findCurve
theorem gV_RX5_136 : GoodIn wsL_law (wsV RX5 136 RX5 yX5_addPoint (wsU yX5_addPoint cX5_addPoint 5 none)) := goodV wML_RX5_136 wIM_X5_addPoint wSE_X5_addPoint wIN_RX5 wCO_X5_addPoint
theorem gV_RL_32 : GoodIn wsL_law (wsV RL 32 RX5 yX5_points (wsU yX5_points cX5_points 3 (some .int))) := goodV wML_RL_32 wIM_X5_points wSE_X5_points wIN_RX5 wCO_X5_points
theorem gV_RL_36 : GoodIn wsL_law (wsV RL 36 RX5 yX5_point (wsU yX5_point cX5_point 5 (some .int))) := goodV wML_RL_36 wIM_X5_point wSE_X5_point wIN_RX5 wCO_X5_point
theorem gV_RL_40 : GoodIn wsL_law (wsV RL 40 RX5 yX5_proof (wsU yX5_proof cX5_proof 4 (some .int))) := goodV wML_RL_40 wIM_X5_proof wSE_X5_proof wIN_RX5 wCO_X5_proof
theorem gV_RL_45 : GoodIn wsL_law (wsV RL 45 RX5 yX5_run (wsU yX5_run cX5_run 4 (some .long))) := goodV wML_RL_45 wIM_X5_run wSE_X5_run wIN_RX5 wCO_X5_run
theorem gS_RX5_92 : GoodIn wsL_law (va_wsS RX5 92 yX5_lost (wsU yX5_lost cX5_lost 0 (some .long))) := goodS wML_RX5_92 wST_X5_lost wIN_RX5 wCO_X5_lost
theorem gV_RL_49 : GoodIn wsL_law (wsV RL 49 RX5 yX5_proving (wsU yX5_proving cX5_proving 2 (some .int))) := goodV wML_RL_49 wIM_X5_proving wSE_X5_proving wIN_RX5 wCO_X5_proving
theorem gV_RX5_166 : GoodIn wsL_law (wsV RX5 166 RX5 yX5_isGood (wsU yX5_isGood cX5_isGood 6 (some .boolean))) := goodV wML_RX5_166 wIM_X5_isGood wSE_X5_isGood wIN_RX5 wCO_X5_isGood
theorem gV_RL_53 : GoodIn wsL_law (wsV RL 53 RX5 yX5_accept (wsU yX5_accept cX5_accept 6 (some .int))) := goodV wML_RL_53 wIM_X5_accept wSE_X5_accept wIN_RX5 wCO_X5_accept
theorem gS_RX5_172 : GoodIn wsL_law (va_wsS RX5 172 yX5_rounded (wsU yX5_rounded cX5_rounded 4 (some .long))) := goodS wML_RX5_172 wST_X5_rounded wIN_RX5 wCO_X5_rounded
theorem gV_RL_57 : GoodIn wsL_law (wsV RL 57 RX5 yX5_ticket (wsU yX5_ticket cX5_ticket 5 (some .int))) := goodV wML_RL_57 wIM_X5_ticket wSE_X5_ticket wIN_RX5 wCO_X5_ticket
theorem gV_RX5_181 : GoodIn wsL_law (wsV RX5 181 RX5 yX5_isShut (wsU yX5_isShut cX5_isShut 2 (some .boolean))) := goodV wML_RX5_181 wIM_X5_isShut wSE_X5_isShut wIN_RX5 wCO_X5_isShut
theorem gV_RX5_184 : GoodIn wsL_law (wsV RX5 184 RX5 yX5_add (wsU yX5_add cX5_add 7 (some .int))) := goodV wML_RX5_184 wIM_X5_add wSE_X5_add wIN_RX5 wCO_X5_add
theorem gV_RL_61 : GoodIn wsL_law (wsV RL 61 RX5 yX5_right (wsU yX5_right cX5_right 3 (some .int))) := goodV wML_RL_61 wIM_X5_right wSE_X5_right wIN_RX5 wCO_X5_right
theorem gV_RX5_188 : GoodIn wsL_law (wsV RX5 188 RX5 yX5_noTicket (wsU yX5_noTicket cX5_noTicket 2 (some .boolean))) := goodV wML_RX5_188 wIM_X5_noTicket wSE_X5_noTicket wIN_RX5 wCO_X5_noTicket
theorem gV_RL_65 : GoodIn wsL_law (wsV RL 65 RX5 yX5_remake (wsU yX5_remake cX5_remake 8 (some .int))) := goodV wML_RL_65 wIM_X5_remake wSE_X5_remake wIN_RX5 wCO_X5_remake
theorem gS_RX5_191 : GoodIn wsL_law (va_wsS RX5 191 yX5_areDays (wsU yX5_areDays cX5_areDays 2 (some .boolean))) := goodS wML_RX5_191 wST_X5_areDays wIN_RX5 wCO_X5_areDays
theorem gV_RX5_195 : GoodIn wsL_law (wsV RX5 195 RX5 yX5_isStale (wsU yX5_isStale cX5_isStale 5 (some .boolean))) := goodV wML_RX5_195 wIM_X5_isStale wSE_X5_isStale wIN_RX5 wCO_X5_isStale
theorem gV_RL_69 : GoodIn wsL_law (wsV RL 69 RX5 yX5_ticketed (wsU yX5_ticketed cX5_ticketed 3 (some .int))) := goodV wML_RL_69 wIM_X5_ticketed wSE_X5_ticketed wIN_RX5 wCO_X5_ticketed
theorem gV_RL_74 : GoodIn wsL_law (wsV RL 74 RX5 yX5_volume (wsU yX5_volume cX5_volume 2 (some .long))) := goodV wML_RL_74 wIM_X5_volume wSE_X5_volume wIN_RX5 wCO_X5_volume
theorem gV_RX5_201 : GoodIn wsL_law (wsV RX5 201 RX5 yX5_volumeOf (wsU yX5_volumeOf cX5_volumeOf 2 (some .long))) := goodV wML_RX5_201 wIM_X5_volumeOf wSE_X5_volumeOf wIN_RX5 wCO_X5_volumeOf
theorem gV_RL_78 : GoodIn wsL_law (wsV RL 78 RX5 yX5_sum (wsU yX5_sum cX5_sum 4 (some .long))) := goodV wML_RL_78 wIM_X5_sum wSE_X5_sum wIN_RX5 wCO_X5_sum
theorem gV_RX5_205 : GoodIn wsL_law (wsV RX5 205 RX5 yX5_sumOf (wsU yX5_sumOf cX5_sumOf 7 (some .long))) := goodV wML_RX5_205 wIM_X5_sumOf wSE_X5_sumOf wIN_RX5 wCO_X5_sumOf
theorem gV_RL_82 : GoodIn wsL_law (wsV RL 82 RX5 yX5_shut (wsU yX5_shut cX5_shut 3 (some .int))) := goodV wML_RL_82 wIM_X5_shut wSE_X5_shut wIN_RX5 wCO_X5_shut
theorem gV_RL_86 : GoodIn wsL_law (wsV RL 86 RX5 yX5_line (wsU yX5_line cX5_line 5 (some .int))) := goodV wML_RL_86 wIM_X5_line wSE_X5_line wIN_RX5 wCO_X5_line
theorem gS_RX5_209 : GoodIn wsL_law (va_wsS RX5 209 yX5_noLine (wsU yX5_noLine cX5_noLine 1 (some .boolean))) := goodS wML_RX5_209 wST_X5_noLine wIN_RX5 wCO_X5_noLine
theorem gV_RL_90 : GoodIn wsL_law (wsV RL 90 RX5 yX5_lined (wsU yX5_lined cX5_lined 3 (some .int))) := goodV wML_RL_90 wIM_X5_lined wSE_X5_lined wIN_RX5 wCO_X5_lined
theorem gV_RL_94 : GoodIn wsL_law (wsV RL 94 RX5 yX5_end (wsU yX5_end cX5_end 4 (some .int))) := goodV wML_RL_94 wIM_X5_end wSE_X5_end wIN_RX5 wCO_X5_end
theorem gV_RL_99 : GoodIn wsL_law (wsV RL 99 RX5 yX5_balance (wsU yX5_balance cX5_balance 5 (some .long))) := goodV wML_RL_99 wIM_X5_balance wSE_X5_balance wIN_RX5 wCO_X5_balance
theorem gV_RX5_216 : GoodIn wsL_law (wsV RX5 216 RX5 yX5_imbalance (wsU yX5_imbalance cX5_imbalance 7 (some .long))) := goodV wML_RX5_216 wIM_X5_imbalance wSE_X5_imbalance wIN_RX5 wCO_X5_imbalance
theorem gV_RX5_219 : GoodIn wsL_law (wsV RX5 219 RX5 yX5_endsOf (wsU yX5_endsOf cX5_endsOf 7 (some .long))) := goodV wML_RX5_219 wIM_X5_endsOf wSE_X5_endsOf wIN_RX5 wCO_X5_endsOf
theorem gV_RL_103 : GoodIn wsL_law (wsV RL 103 RX5 yX5_beyond (wsU yX5_beyond cX5_beyond 3 (some .int))) := goodV wML_RL_103 wIM_X5_beyond wSE_X5_beyond wIN_RX5 wCO_X5_beyond
theorem gV_RX5_222 : GoodIn wsL_law (wsV RX5 222 RX5 yX5_beyondOf (wsU yX5_beyondOf cX5_beyondOf 7 (some .int))) := goodV wML_RX5_222 wIM_X5_beyondOf wSE_X5_beyondOf wIN_RX5 wCO_X5_beyondOf
theorem gV_RL_107 : GoodIn wsL_law (wsV RL 107 RX5 yX5_explains (wsU yX5_explains cX5_explains 18 (some .long))) := goodV wML_RL_107 wIM_X5_explains wSE_X5_explains wIN_RX5 wCO_X5_explains
theorem gV_RL_111 : GoodIn wsL_law (wsV RL 111 RX5 yX5_sheet (wsU yX5_sheet cX5_sheet 5 (some .int))) := goodV wML_RL_111 wIM_X5_sheet wSE_X5_sheet wIN_RX5 wCO_X5_sheet
theorem gS_RX5_230 : GoodIn wsL_law (va_wsS RX5 230 yX5_noSheet (wsU yX5_noSheet cX5_noSheet 1 (some .boolean))) := goodS wML_RX5_230 wST_X5_noSheet wIN_RX5 wCO_X5_noSheet
theorem gV_RX5_233 : GoodIn wsL_law (wsV RX5 233 RX5 yX5_refused (wsU yX5_refused cX5_refused 2 (some .int))) := goodV wML_RX5_233 wIM_X5_refused wSE_X5_refused wIN_RX5 wCO_X5_refused
theorem gV_RX5_237 : GoodIn wsL_law (wsV RX5 237 RX5 yX5_failed (wsU yX5_failed cX5_failed 2 (some .int))) := goodV wML_RX5_237 wIM_X5_failed wSE_X5_failed wIN_RX5 wCO_X5_failed
theorem gV_RL_115 : GoodIn wsL_law (wsV RL 115 RX5 yX5_lose (wsU yX5_lose cX5_lose 3 (some .int))) := goodV wML_RL_115 wIM_X5_lose wSE_X5_lose wIN_RX5 wCO_X5_lose
theorem gV_RL_119 : GoodIn wsL_law (wsV RL 119 RX5 yX5_put (wsU yX5_put cX5_put 4 (some .int))) := goodV wML_RL_119 wIM_X5_put wSE_X5_put wIN_RX5 wCO_X5_put
theorem gV_RX5_240 : GoodIn wsL_law (wsV RX5 240 RX5 yX5_noCell (wsU yX5_noCell cX5_noCell 3 (some .int))) := goodV wML_RX5_240 wIM_X5_noCell wSE_X5_noCell wIN_RX5 wCO_X5_noCell
theorem gV_RL_123 : GoodIn wsL_law (wsV RL 123 RX5 yX5_cell (wsU yX5_cell cX5_cell 4 (some .long))) := goodV wML_RL_123 wIM_X5_cell wSE_X5_cell wIN_RX5 wCO_X5_cell
theorem gV_RX5_243 : GoodIn wsL_law (wsV RX5 243 RX5 yX5_failedLong (wsU yX5_failedLong cX5_failedLong 2 (some .long))) := goodV wML_RX5_243 wIM_X5_failedLong wSE_X5_failedLong wIN_RX5 wCO_X5_failedLong
theorem gV_RL_128 : GoodIn wsL_law (wsV RL 128 RX5 yX5_copy (wsU yX5_copy cX5_copy 7 (some .int))) := goodV wML_RL_128 wIM_X5_copy wSE_X5_copy wIN_RX5 wCO_X5_copy
theorem gS_RX5_246 : GoodIn wsL_law (va_wsS RX5 246 yX5_isBeyond (wsU yX5_isBeyond cX5_isBeyond 3 (some .boolean))) := goodS wML_RX5_246 wST_X5_isBeyond wIN_RX5 wCO_X5_isBeyond
theorem gV_RL_132 : GoodIn wsL_law (wsV RL 132 RX5 yX5_watch (wsU yX5_watch cX5_watch 14 (some .int))) := goodV wML_RL_132 wIM_X5_watch wSE_X5_watch wIN_RX5 wCO_X5_watch
theorem gV_RL_136 : GoodIn wsL_law (wsV RL 136 RX5 yX5_tell (wsU yX5_tell cX5_tell 2 (some .int))) := goodV wML_RL_136 wIM_X5_tell wSE_X5_tell wIN_RX5 wCO_X5_tell
theorem gV_RX5_253 : GoodIn wsL_law (wsV RX5 253 RX5 yX5_traced (wsU yX5_traced cX5_traced 2 none)) := goodV wML_RX5_253 wIM_X5_traced wSE_X5_traced wIN_RX5 wCO_X5_traced
theorem gV_RL_140 : GoodIn wsL_law (wsV RL 140 RX5 yX5_worth (wsU yX5_worth cX5_worth 4 (some .int))) := goodV wML_RL_140 wIM_X5_worth wSE_X5_worth wIN_RX5 wCO_X5_worth
theorem gV_RL_144 : GoodIn wsL_law (wsV RL 144 RX5 yX5_as (wsU yX5_as cX5_as 3 (some .int))) := goodV wML_RL_144 wIM_X5_as wSE_X5_as wIN_RX5 wCO_X5_as
theorem gV_RL_149 : GoodIn wsL_law (wsV RL 149 RX5 yX5_trace (wsU yX5_trace cX5_trace 1 (some .int))) := goodV wML_RL_149 wIM_X5_trace wSE_X5_trace wIN_RX5 wCO_X5_trace
theorem gV_RL_153 : GoodIn wsL_law (wsV RL 153 RX5 yX5_fault (wsU yX5_fault cX5_fault 1 (some .int))) := goodV wML_RL_153 wIM_X5_fault wSE_X5_fault wIN_RX5 wCO_X5_fault
theorem gV_RL_157 : GoodIn wsL_law (wsV RL 157 RX5 yX5_told (wsU yX5_told cX5_told 4 (some .int))) := goodV wML_RL_157 wIM_X5_told wSE_X5_told wIN_RX5 wCO_X5_told
section XLEN
variable {p : Program} {l : Launch} {e : Env} {R : Room} {s : State} {m : MethodId} {args : Array Value} {below : List Frame} {meth : Method} {c : Code} {H : Heap} {locs : List Loc} {cells slots : Nat} {Q : State → Prop}
variable {cc : ByteArray} {nL pc : Nat} {ls : Array Slot} {rest : List Value} {D : va_G} {G : Gc} {own : String} {M T : Nat} {ad : Nat → Nat → Nat} {d : Dt}
theorem xlen7 (S : CallFix p m c cc nL s args wsL_law own) (hK : va_K D vwCl (tysG G) s) (hX : PIC D (XF G M T ad) (XN M T) ad d H) {i : Nat} (hi : i < 4) (hdg : decode cc pc = .ok (.arraylength, 1)) (kk : W p l e R s m args below meth c H locs cells slots Q (F0 m (pc + 1) ls (.int 60 :: rest))) : W p l e R s m args below meth c H locs cells slots Q (F0 m pc ls (.ref (ad 7 i) :: rest)) := by
  have h1 : H[ad 7 i]? = some (arrV G.1 60 (fun j => .int (d.1 7 i j))) := hX.1 7 i hi
  exact W.alen (n := 60) S.1 S.2.1 h1 ((hK.2 0 _ rfl).1 60 (fun j => .int (d.1 7 i j))) (by rw [arrV_size]; rfl) rfl rfl hdg kk
end XLEN
