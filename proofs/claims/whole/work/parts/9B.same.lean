
theorem mh_same {r r' : Nat} (h : r < 8) (h' : r' < 8) (hb : ∀ v, v < 3 → (r.testBit v = true ↔ r'.testBit v = true)) : r = r' := by
  apply Nat.eq_of_testBit_eq
  intro i
  by_cases hi : i < 3
  · have := hb i hi
    cases q : r.testBit i <;> cases q' : r'.testBit i <;> simp [q, q'] at this ⊢
  · rw [Nat.testBit_lt_two_pow (Nat.lt_of_lt_of_le h (by rw [show 8 = 2 ^ 3 from rfl]; exact Nat.pow_le_pow_right (by omega) (by omega))), Nat.testBit_lt_two_pow (Nat.lt_of_lt_of_le h' (by rw [show 8 = 2 ^ 3 from rfl]; exact Nat.pow_le_pow_right (by omega) (by omega)))]
theorem hf_same {n : Nat} {gr : Nat → Nat} {H : Nat → Nat} {p : Nat} (hp : p < n) (h : HV n gr (2 ^ n - 1) H) (h2 : H p ≤ 2) : (if (hz n gr (2 ^ n - 1) 0).testBit p = true then (0 : Int32) else if (hz n gr (2 ^ n - 1) 1).testBit p = true then 1 else 2) = nI (H p) := by
  have hP : (2 ^ n - 1).testBit p = true := by rw [Nat.testBit_two_pow_sub_one]; simp [hp]
  rw [← hz_eq h 0, ← hz_eq h 1]
  have h0 : (hset n (2 ^ n - 1) H 0).testBit p = true ↔ H p = 0 := hset_t.trans ⟨fun q => q.2.2, fun q => ⟨hp, hP, q⟩⟩
  have h1 : (hset n (2 ^ n - 1) H 1).testBit p = true ↔ H p = 1 := hset_t.trans ⟨fun q => q.2.2, fun q => ⟨hp, hP, q⟩⟩
  rcases (show H p = 0 ∨ H p = 1 ∨ H p = 2 by omega) with e | e | e
  · rw [if_pos (h0.mpr e), e]; rfl
  · rw [if_neg (fun q => by have := h0.mp q; omega), if_pos (h1.mpr e), e]; rfl
  · rw [if_neg (fun q => by have := h0.mp q; omega), if_neg (fun q => by have := h1.mp q; omega), e]; rfl

