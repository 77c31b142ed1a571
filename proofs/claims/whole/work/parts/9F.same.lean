
section TP9
variable {V : Type} {is : Nat → Int32} {cb : V → V → V} {ini : Nat → V} {m : Nat}
theorem tq_cm (rc : ∀ s x y, cb (cb s x) y = cb (cb s y) x) {A : Nat → V} {i : Nat} (a b : Nat) (s : V) : tq is cb A i a (tq is cb A i b s) = tq is cb A i b (tq is cb A i a s) := by
  unfold tq
  by_cases ca : i < a ∧ is a = nI i
  · by_cases cb' : i < b ∧ is b = nI i
    · simp only [if_pos ca, if_pos cb']; exact rc s _ _
    · simp only [if_pos ca, if_neg cb']
  · simp only [if_neg ca]
theorem lp_cm (rc : ∀ s x y, cb (cb s x) y = cb (cb s y) x) {A : Nat → V} {i : Nat} (v : Nat) : ∀ k (s : V), lp (tq is cb A i) k (tq is cb A i v s) = tq is cb A i v (lp (tq is cb A i) k s) := by
  intro k
  induction k with
  | zero => intro s; rfl
  | succ k ih => intro s; rw [lp_s, lp_s, ih s, tq_cm rc]
theorem tq_cg {A A' : Nat → V} {i : Nat} : ∀ k (s : V), (∀ c, i < c → c < k → A c = A' c) → lp (tq is cb A i) k s = lp (tq is cb A' i) k s := by
  intro k
  induction k with
  | zero => intro s _; rfl
  | succ k ih =>
    intro s h
    rw [lp_s, lp_s, ih s (fun c h1 h2 => h c h1 (by omega))]
    unfold tq
    by_cases c : i < k ∧ is k = nI i
    · simp only [if_pos c]; rw [h k c.1 (by omega)]
    · simp only [if_neg c]
theorem tN_fix : ∀ k, k ≤ m → ∀ j, m - k ≤ j → j < m → tN is cb ini m k j = lp (tq is cb (tN is cb ini m k) j) m (ini j) := by
  intro k
  induction k with
  | zero => intro _ j h1 h2; omega
  | succ k ih =>
    intro hk j h1 h2
    have hst : ∀ c, m - 1 - k < c → tN is cb ini m (k + 1) c = tN is cb ini m k c := fun c hc => by
      show (if c = m - 1 - k then _ else _) = _
      rw [if_neg (by omega)]
    by_cases e : j = m - 1 - k
    · have : tN is cb ini m (k + 1) j = lp (tq is cb (tN is cb ini m k) j) m (ini j) := by
        show (if j = m - 1 - k then _ else _) = _
        rw [if_pos e, e]
      rw [this]
      exact tq_cg m _ (fun c h3 _ => (hst c (by omega)).symm)
    · rw [hst j (by omega), ih (by omega) j (by omega) h2]
      exact tq_cg m _ (fun c h3 _ => (hst c (by omega)).symm)
theorem tpu_eq (rc : ∀ s x y, cb (cb s x) y = cb (cb s y) x) (hm : m ≤ 60) (hpar : ∀ i, 0 < i → i < m → ∃ a, is i = nI a ∧ a < i) {A : Nat → V} : ∀ v, v < m → ∀ B : Nat → V, (∀ j, j ≤ v → lp (tq is cb A j) (v + 1) (B j) = A j) → tpu is cb v B 0 = A 0 := by
  intro v
  induction v with
  | zero =>
    intro _ B h
    have := h 0 (Nat.le_refl _)
    rw [tq_le is cb A 0 1 (by omega)] at this
    exact this
  | succ v ih =>
    intro hv B h
    have hB : B (v + 1) = A (v + 1) := by
      have := h (v + 1) (Nat.le_refl _)
      rw [tq_le is cb A (v + 1) (v + 1 + 1) (by omega)] at this
      exact this
    obtain ⟨a, ea, ha⟩ := hpar (v + 1) (by omega) hv
    show tpu is cb v _ 0 = A 0
    refine ih (by omega) _ (fun j hj => ?_)
    have hj' := h j (by omega)
    rw [lp_s, ← lp_cm rc] at hj'
    rw [← hj']
    congr 1
    unfold tq
    rw [ea, cl_nI (by omega), hB]
    by_cases e : j = a
    · rw [if_pos e, if_pos ⟨by omega, by rw [e]⟩]
    · rw [if_neg e, if_neg (fun q => e (nI_inj (by omega) (by omega) q.2).symm)]
/-- each takes in those in it, or each is given to the one that it stands in: the same -/
theorem tN_tpu (rc : ∀ s x y, cb (cb s x) y = cb (cb s y) x) (hm : m ≤ 60) (h0 : 0 < m) (hpar : ∀ i, 0 < i → i < m → ∃ a, is i = nI a ∧ a < i) : tpu is cb (m - 1) ini 0 = tN is cb ini m m 0 := by
  refine tpu_eq rc hm hpar (A := tN is cb ini m m) (m - 1) (by omega) ini (fun j hj => ?_)
  rw [show m - 1 + 1 = m by omega]
  exact (tN_fix m (Nat.le_refl _) j (by omega) (by omega)).symm
end TP9

