theorem mx0 {x : Int32} (h : 0 ≤ x.toInt) : (if (0 : Int32) < x then x else 0).toInt = x.toInt := by
  split
  · rfl
  · rename_i c
    rw [Int32.lt_iff_toInt_lt, Int32.toInt_zero] at c
    rw [Int32.toInt_zero]
    omega
