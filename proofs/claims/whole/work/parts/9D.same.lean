
/-- what mate answers -/
def MTr (hd : Nat) (ma : Nat → Nat) (p : Nat) (r : Int32) : Prop := (hd.testBit p = true → r = nI (ma p)) ∧ (∀ h, hd.testBit h = true → ma h = p → r = nI h) ∧ (hd.testBit p = false → (∀ h, hd.testBit h = true → ¬ ma h = p) → r = -1)
theorem mt_same {hd p : Nat} {ma ma' : Nat → Nat} {r r' : Int32} (hu : ∀ h, hd.testBit h = true → ma' h = ma h) (h1 : MTr hd ma p r) (h2 : MTr hd ma' p r') : r = r' := by
  cases q : hd.testBit p with
  | true => rw [h1.1 q, h2.1 q, hu p q]
  | false =>
    by_cases c : ∃ h, hd.testBit h = true ∧ ma h = p
    · obtain ⟨h, c1, c2⟩ := c
      rw [h1.2.1 h c1 c2, h2.2.1 h c1 (by rw [hu h c1]; exact c2)]
    · rw [h1.2.2 q (fun h c1 c2 => c ⟨h, c1, c2⟩), h2.2.2 q (fun h c1 c2 => c ⟨h, c1, by rw [← hu h c1]; exact c2⟩)]
/-- the row of a sheet in the class, and its stretch in the model, after a copy -/
theorem cp_same {f h : Nat → Int32} {r : Nat → Int32} {s0 o0 i0 j0 N : Nat} (hi : i0 + N ≤ 60) (hj : j0 + N ≤ 60) (e1 : ∀ x, x < 60 → f x = r (60 * s0 + x)) (e2 : ∀ x, x < 60 → h x = r (60 * o0 + x)) : ∀ x, x < 60 → va_cpy f h i0 j0 N x = cpR r (60 * s0 + i0) (60 * o0 + j0) N (60 * o0 + x) := by
  intro x hx
  unfold va_cpy cpR
  by_cases c : j0 ≤ x ∧ x < j0 + N
  · rw [if_pos c, if_pos (by omega), e1 _ (by omega)]
    congr 1
    omega
  · rw [if_neg c, if_neg (by omega), e2 x hx]

