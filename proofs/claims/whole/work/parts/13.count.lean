/-- the first k rounds of a loop -/
def lp {α : Type} (f : Nat → α → α) : Nat → α → α
  | 0, a => a
  | k + 1, a => f k (lp f k a)
theorem lp_0 {α : Type} (f : Nat → α → α) (a : α) : lp f 0 a = a := rfl
theorem lp_s {α : Type} (f : Nat → α → α) (k : Nat) (a : α) : lp f (k + 1) a = f k (lp f k a) := rfl
/-- how many below N -/
def cn (N : Nat) (P : Nat → Bool) : Nat := lp (fun k a => a + (P k).toNat) N 0
theorem cn_0 (P : Nat → Bool) : cn 0 P = 0 := rfl
theorem cn_s (N : Nat) (P : Nat → Bool) : cn (N + 1) P = cn N P + (P N).toNat := rfl
theorem b1 (b : Bool) : b.toNat ≤ 1 := by cases b <;> simp
theorem cn_le (N : Nat) (P : Nat → Bool) : cn N P ≤ N := by
  induction N with
  | zero => exact Nat.le_refl _
  | succ k ih => rw [cn_s]; have := b1 (P k); omega
theorem cn_congr {N : Nat} {P Q : Nat → Bool} (h : ∀ k, k < N → P k = Q k) : cn N P = cn N Q := by
  induction N with
  | zero => rfl
  | succ k ih => rw [cn_s, cn_s, ih (fun j hj => h j (by omega)), h k (by omega)]
theorem cn_mono {N : Nat} {P Q : Nat → Bool} (h : ∀ k, k < N → P k = true → Q k = true) : cn N P ≤ cn N Q := by
  induction N with
  | zero => exact Nat.le_refl _
  | succ k ih =>
    rw [cn_s, cn_s]
    have h1 := ih (fun j hj => h j (by omega))
    have h2 : (P k).toNat ≤ (Q k).toNat := by
      cases hp : P k with
      | false => simp
      | true => rw [h k (by omega) hp]; simp
    omega
theorem cn_false (N : Nat) : cn N (fun _ => false) = 0 := by
  induction N with
  | zero => rfl
  | succ k ih => rw [cn_s, ih]; rfl
theorem cn_or (N : Nat) (P Q : Nat → Bool) : cn N (fun k => P k || Q k) + cn N (fun k => P k && Q k) = cn N P + cn N Q := by
  induction N with
  | zero => rfl
  | succ k ih =>
    simp only [cn_s]
    cases P k <;> cases Q k <;> simp <;> omega
theorem cn_split (N : Nat) (P Q : Nat → Bool) : cn N P = cn N (fun k => P k && Q k) + cn N (fun k => P k && !Q k) := by
  induction N with
  | zero => rfl
  | succ k ih =>
    simp only [cn_s]
    cases P k <;> cases Q k <;> simp <;> omega
theorem cn_rem {N p : Nat} {P : Nat → Bool} (hp : p < N) (h : P p = true) : cn N P = cn N (fun k => P k && !decide (k = p)) + 1 := by
  induction N with
  | zero => omega
  | succ k ih =>
    rw [cn_s, cn_s]
    by_cases e : p = k
    · subst e
      rw [h, cn_congr (P := P) (Q := fun k => P k && !decide (k = p)) (fun j hj => by simp [show ¬ j = p by omega])]
      simp
    · rw [ih (by omega)]
      simp [show ¬ k = p from fun q => e q.symm]
      omega
theorem cn_add1 {N p : Nat} {P : Nat → Bool} (hp : p < N) (h : P p = false) : cn N (fun k => P k || decide (k = p)) = cn N P + 1 := by
  have := cn_rem (P := fun k => P k || decide (k = p)) hp (by simp)
  rw [this]
  congr 1
  apply cn_congr
  intro k hk
  by_cases e : k = p
  · subst e; simp [h]
  · simp [e]
theorem cn_inj {M : Nat} : ∀ (N : Nat) (P Q : Nat → Bool) (f : Nat → Nat), (∀ k, k < N → P k = true → f k < M ∧ Q (f k) = true) → (∀ i j, i < N → j < N → P i = true → P j = true → f i = f j → i = j) → cn N P ≤ cn M Q := by
  intro N
  induction N with
  | zero => intros; rw [cn_0]; exact Nat.zero_le _
  | succ k ih =>
    intro P Q f h1 h2
    rw [cn_s]
    cases hp : P k with
    | false =>
      simp
      exact ih P Q f (fun j hj => h1 j (by omega)) (fun i j hi hj => h2 i j (by omega) (by omega))
    | true =>
      obtain ⟨a, b⟩ := h1 k (by omega) hp
      rw [cn_rem a b]
      have := ih P (fun x => Q x && !decide (x = f k)) f (fun j hj hP => ⟨(h1 j (by omega) hP).1, by
        have hne : ¬ f j = f k := fun q => absurd (h2 j k (by omega) (by omega) hP hp q) (by omega)
        simp [(h1 j (by omega) hP).2, hne]⟩) (fun i j hi hj => h2 i j (by omega) (by omega))
      simp
      exact this
theorem cn_pos {N : Nat} {P : Nat → Bool} (h : 0 < cn N P) : ∃ k, k < N ∧ P k = true := by
  induction N with
  | zero => rw [cn_0] at h; omega
  | succ k ih =>
    rw [cn_s] at h
    cases hp : P k with
    | true => exact ⟨k, by omega, hp⟩
    | false =>
      rw [hp] at h
      obtain ⟨j, hj, hP⟩ := ih (by simpa using h)
      exact ⟨j, by omega, hP⟩
theorem cn_ge1 {N p : Nat} {P : Nat → Bool} (hp : p < N) (h : P p = true) : 1 ≤ cn N P := by rw [cn_rem hp h]; omega
theorem cn_all0 {N : Nat} {P : Nat → Bool} (h : ∀ k, k < N → P k = false) : cn N P = 0 := by rw [cn_congr (Q := fun _ => false) h, cn_false]
theorem cn_eq0 {N : Nat} {P : Nat → Bool} (h : cn N P = 0) : ∀ k, k < N → P k = false := by
  intro k hk
  cases hp : P k with
  | false => rfl
  | true => have := cn_ge1 hk hp; omega
theorem pc_cn (a : Nat) : pc a = cn 12 (fun p => a.testBit p) := by
  unfold pc
  have : ∀ N, (List.range N).countP (fun p => a.testBit p) = cn N (fun p => a.testBit p) := by
    intro N
    induction N with
    | zero => rfl
    | succ k ih =>
      rw [List.range_succ, List.countP_append, ih, cn_s, List.countP_singleton]
      cases a.testBit k <;> simp
  exact this 12
theorem cn_more {N : Nat} (M : Nat) {P : Nat → Bool} (h : ∀ k, N ≤ k → P k = false) : cn (N + M) P = cn N P := by
  induction M with
  | zero => rfl
  | succ k ih => rw [← Nat.add_assoc, cn_s, ih, h (N + k) (by omega)]; rfl
/-! pairings and covers of two sides -/
def VM (gr : Nat → Nat) (A B : Nat) (m : Nat → Option Nat) : Prop := (∀ q r, m q = some r → A.testBit r = true ∧ B.testBit q = true ∧ (gr r).testBit q = true) ∧ ∀ q q' r, m q = some r → m q' = some r → q = q'
def msz (m : Nat → Option Nat) : Nat := cn 12 (fun q => (m q).isSome)
def CV (gr : Nat → Nat) (A B : Nat) (X Y : Nat → Bool) : Prop := ∀ r q, A.testBit r = true → B.testBit q = true → (gr r).testBit q = true → X r = true ∨ Y q = true
theorem weak {gr : Nat → Nat} {A B : Nat} {m : Nat → Option Nat} {X Y : Nat → Bool} (hA : A < 4096) (hm : VM gr A B m) (hc : CV gr A B X Y) : msz m ≤ cn 12 X + cn 12 Y := by
  unfold msz
  rw [cn_split 12 (fun q => (m q).isSome) Y]
  have h1 : cn 12 (fun k => (m k).isSome && Y k) ≤ cn 12 Y := cn_mono (fun k _ h => by simp at h; exact h.2)
  have h2 : cn 12 (fun k => (m k).isSome && !Y k) ≤ cn 12 X := by
    apply cn_inj 12 _ _ (fun q => (m q).getD 0)
    · intro k hk h
      simp only [Bool.and_eq_true, Bool.not_eq_true'] at h
      obtain ⟨r, hr⟩ := Option.isSome_iff_exists.mp h.1
      obtain ⟨a, b, c⟩ := hm.1 k r hr
      simp only [hr, Option.getD_some]
      refine ⟨tb_lt hA a, ?_⟩
      rcases hc r k a b c with q | q
      · exact q
      · rw [q] at h; cases h.2
    · intro i j hi hj h h' e
      simp only [Bool.and_eq_true, Bool.not_eq_true'] at h h'
      obtain ⟨r, hr⟩ := Option.isSome_iff_exists.mp h.1
      obtain ⟨r', hr'⟩ := Option.isSome_iff_exists.mp h'.1
      simp only [hr, hr', Option.getD_some] at e
      subst e
      exact hm.2 i j r hr hr'
  omega
/-- so many can be paired, and a cover has as many -/
def IsNu (gr : Nat → Nat) (A B k : Nat) : Prop := (∃ m, VM gr A B m ∧ msz m = k) ∧ ∃ X Y, CV gr A B X Y ∧ cn 12 X + cn 12 Y = k
theorem cover_ex (gr : Nat → Nat) (A B : Nat) : ∃ k, ∃ X Y, CV gr A B X Y ∧ cn 12 X + cn 12 Y = k := ⟨_, fun p => A.testBit p, fun _ => false, fun r q h _ _ => Or.inl h, rfl⟩
noncomputable def tau (gr : Nat → Nat) (A B : Nat) : Nat := Classical.choose (pk_least _ (cover_ex gr A B))
theorem tau_spec (gr : Nat → Nat) (A B : Nat) : (∃ X Y, CV gr A B X Y ∧ cn 12 X + cn 12 Y = tau gr A B) ∧ ∀ X Y, CV gr A B X Y → tau gr A B ≤ cn 12 X + cn 12 Y := by
  obtain ⟨h1, h2⟩ := Classical.choose_spec (pk_least _ (cover_ex gr A B))
  refine ⟨h1, fun X Y hc => ?_⟩
  rcases Nat.lt_or_ge (cn 12 X + cn 12 Y) (tau gr A B) with h | h
  · exact absurd ⟨X, Y, hc, rfl⟩ (h2 _ h)
  · exact h
theorem IsNu.tau {gr : Nat → Nat} {A B k : Nat} (hA : A < 4096) (h : IsNu gr A B k) : k = tau gr A B := by
  obtain ⟨⟨m, hm, rfl⟩, X, Y, hc, he⟩ := h
  obtain ⟨⟨X', Y', hc', he'⟩, hmin⟩ := tau_spec gr A B
  have h1 := hmin X Y hc
  have h2 := weak hA hm hc'
  omega
theorem tau_le_pc {gr : Nat → Nat} {A B : Nat} : tau gr A B ≤ pc A := by
  have := (tau_spec gr A B).2 (fun p => A.testBit p) (fun _ => false) (fun r q h _ _ => Or.inl h)
  rw [cn_false, ← pc_cn] at this
  exact this
theorem tau_congr {gr gr' : Nat → Nat} {A B : Nat} (h : ∀ r, A.testBit r = true → ∀ q, B.testBit q = true → (gr r).testBit q = (gr' r).testBit q) : tau gr A B = tau gr' A B := by
  have key : ∀ g1 g2 : Nat → Nat, (∀ r, A.testBit r = true → ∀ q, B.testBit q = true → (g1 r).testBit q = (g2 r).testBit q) → tau g1 A B ≤ tau g2 A B := by
    intro g1 g2 h
    obtain ⟨⟨X, Y, hc, he⟩, -⟩ := tau_spec g2 A B
    rw [← he]
    exact (tau_spec g1 A B).2 X Y (fun r q h1 h2 h3 => hc r q h1 h2 (by rw [← h r h1 q h2]; exact h3))
  exact Nat.le_antisymm (key _ _ h) (key _ _ (fun r h1 q h2 => (h r h1 q h2).symm))

