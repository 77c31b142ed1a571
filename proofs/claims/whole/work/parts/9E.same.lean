
theorem cbX_B : cbX = cbB := by
  funext s x
  unfold cbX cbB
  rw [show x.2.1 - x.2.2 + x.2.2 = x.2.1 from by rw [Int64.sub_eq_add_neg, Int64.add_assoc, Int64.add_left_neg, Int64.add_zero]]
theorem cbB_rc (s x y : T3) : cbB (cbB s x) y = cbB (cbB s y) x := by
  unfold cbB
  refine Prod.ext ?_ (Prod.ext ?_ ?_)
  · show s.1 * _ * _ = s.1 * _ * _
    rw [Int64.mul_assoc, Int64.mul_assoc, Int64.mul_comm (x.2.1 - x.2.2 + x.2.2)]
  · show s.2.1 * _ * _ = s.2.1 * _ * _
    rw [Int64.mul_assoc, Int64.mul_assoc, Int64.mul_comm (x.1 + (x.2.1 - x.2.2))]
  · show s.2.2 * _ * _ = s.2.2 * _ * _
    rw [Int64.mul_assoc, Int64.mul_assoc, Int64.mul_comm (x.2.1 - x.2.2)]

