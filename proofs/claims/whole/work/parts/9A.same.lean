
/-- a byte of a number: unsigned or signed shift, the same -/
theorem sh255b (x : BitVec 32) (s : Nat) (hs : s ≤ 24) : (x >>> s) &&& 255#32 = (x.sshiftRight s) &&& 255#32 := by
  apply BitVec.eq_of_getLsbD_eq
  intro i hi
  rw [BitVec.getLsbD_and, BitVec.getLsbD_and]
  by_cases h : i < 8
  · rw [BitVec.getLsbD_ushiftRight, BitVec.getLsbD_sshiftRight]
    simp [show ¬ 32 ≤ i by omega, show s + i < 32 by omega]
  · have : (255#32).getLsbD i = false := by
      rcases (show i = 8 ∨ i = 9 ∨ i = 10 ∨ i = 11 ∨ i = 12 ∨ i = 13 ∨ i = 14 ∨ i = 15 ∨ i = 16 ∨ i = 17 ∨ i = 18 ∨ i = 19 ∨ i = 20 ∨ i = 21 ∨ i = 22 ∨ i = 23 ∨ i = 24 ∨ i = 25 ∨ i = 26 ∨ i = 27 ∨ i = 28 ∨ i = 29 ∨ i = 30 ∨ i = 31 by omega) with z | z | z | z | z | z | z | z | z | z | z | z | z | z | z | z | z | z | z | z | z | z | z | z <;> subst z <;> rfl
    rw [this, Bool.and_false, Bool.and_false]
theorem sh255 (v : Int32) {k : Nat} (hk : k < 4) : (v.toUInt32 >>> ((nI (8 * k)).toUInt32 &&& Int32.toUInt32 31)).toInt32 &&& 255 = (v >>> (nI (8 * k) &&& 31)) &&& 255 := by
  apply Int32.toBitVec_inj.mp
  rcases (show k = 0 ∨ k = 1 ∨ k = 2 ∨ k = 3 by omega) with z | z | z | z <;> subst z
  · exact sh255b v.toBitVec 0 (by decide)
  · exact sh255b v.toBitVec 8 (by decide)
  · exact sh255b v.toBitVec 16 (by decide)
  · exact sh255b v.toBitVec 24 (by decide)

