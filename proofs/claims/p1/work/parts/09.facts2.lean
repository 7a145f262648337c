section MIG
variable {d : Dt}
theorem ap_cf (x : Int32) : CF d (sp_X5_addPoint d x) := by
  sorry
theorem ap_pt (x : Int32) (h0 : 0 ≤ (d.1 0 0 8).toInt) (h1 : (d.1 0 0 8).toInt ≤ 12) : 0 ≤ ((sp_X5_addPoint d x).1 0 0 8).toInt ∧ ((sp_X5_addPoint d x).1 0 0 8).toInt ≤ (d.1 0 0 8).toInt + 1 := by
  sorry
theorem fc_cf (x y : Int32) : CF d (sp_X5_findCurve d x y) := by
  sorry
theorem fc_pt {x y : Int32} (hx : 0 ≤ x.toInt ∧ x.toInt < 6) (h : 0 ≤ (d.1 3 0 (ix x)).toInt ∧ (d.1 3 0 (ix x)).toInt ≤ 12) : 0 ≤ ((sp_X5_findCurve d x y).1 0 0 8).toInt ∧ ((sp_X5_findCurve d x y).1 0 0 8).toInt ≤ 12 := by
  sorry
theorem fa_cf (x y z : Int32) : CF d (sp_X5_factorAt d x y z).2 := by
  sorry
theorem is_cf (t m f to : Int32) : CF d (sp_X5_isStale d t m f to).2 := by
  sorry
theorem gdm_of (h : sp_X5_isGood d) : 5 ≤ (d.1 0 0 15).toInt ∧ ∀ j : Nat, (d.1 0 0 15).toInt - 5 ≤ (j : Int) → (j : Int) < (d.1 0 0 15).toInt → 0 < (d.2 16 0 j).toInt := by
  sorry
end MIG
