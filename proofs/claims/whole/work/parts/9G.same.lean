
theorem bare_same {is : Nat → Int32} {m : Nat} (hm : m ≤ 60) (h0 : 0 < m) (hP : TP is m) : (tpu is cbX (m - 1) bnI 0).1 + (tpu is cbX (m - 1) bnI 0).2.1 - (tpu is cbX (m - 1) bnI 0).2.2 = (tN is cbB bnI m m 0).1 + ((tN is cbB bnI m m 0).2.1 - (tN is cbB bnI m m 0).2.2) := by
  rw [cbX_B, tN_tpu cbB_rc hm h0 hP.2, Int64.sub_eq_add_neg, Int64.add_assoc, ← Int64.sub_eq_add_neg]
/-- with sums of 32 bits: any order too -/
theorem cb32_rc (s x y : T32) : cb32 (cb32 s x) y = cb32 (cb32 s y) x := by
  unfold cb32
  refine Prod.ext ?_ (Prod.ext ?_ (Prod.ext ?_ ?_))
  · show s.1 + _ + _ = s.1 + _ + _
    rw [Int32.add_assoc, Int32.add_assoc, Int32.add_comm (mnI x.1 x.2.1)]
  · show s.2.1 + _ + _ = s.2.1 + _ + _
    rw [Int32.add_assoc, Int32.add_assoc, Int32.add_comm x.1]
  · show s.2.2.1 * _ * _ = s.2.2.1 * _ * _
    rw [Int64.mul_assoc, Int64.mul_assoc, Int64.mul_comm (moF x (mnI x.1 x.2.1))]
  · show s.2.2.2 * _ * _ = s.2.2.2 * _ * _
    rw [Int64.mul_assoc, Int64.mul_assoc, Int64.mul_comm x.2.2.1]

