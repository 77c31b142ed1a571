def EV (gr : Nat → Nat) (n A B : Nat) (m : Nat → Option Nat) : Prop := ∀ q r, m q = some r → r < n ∧ q < n ∧ A.testBit r = true ∧ B.testBit q = true ∧ (gr r).testBit q = true
def IJ (S : Nat) (m : Nat → Option Nat) : Prop := ∀ q q' r, S.testBit q = false → S.testBit q' = false → m q = some r → m q' = some r → q = q'
def CZ (gr : Nat → Nat) (B : Nat) (m : Nat → Option Nat) (Z : Nat → Prop) : Prop := ∀ q, Z q → ∃ r, m q = some r ∧ ∀ q', B.testBit q' = true → (gr r).testBit q' = true → Z q'
def PS (gr : Nat → Nat) (n A B : Nat) (m : Nat → Option Nat) (S p : Nat) (m' : Nat → Option Nat) : Prop :=
  EV gr n A B m' ∧ (∀ q, S.testBit q = true → m' q = m q) ∧ IJ S m' ∧ (∀ r, (∃ q, S.testBit q = false ∧ m' q = some r) ↔ (r = p ∨ ∃ q, S.testBit q = false ∧ m q = some r)) ∧ ∀ Z, CZ gr B m Z → (∀ q, Z q → m' q = m q) ∧ ∃ q, B.testBit q = true ∧ (gr p).testBit q = true ∧ ¬ Z q
def PF (gr : Nat → Nat) (B : Nat) (m : Nat → Option Nat) (S p S' : Nat) : Prop := (∀ q, S.testBit q = true → S'.testBit q = true) ∧ (∀ q, S'.testBit q = true → S.testBit q = false → ∃ r, m q = some r ∧ ∀ q', B.testBit q' = true → (gr r).testBit q' = true → S'.testBit q' = true) ∧ ∀ q', B.testBit q' = true → (gr p).testBit q' = true → S'.testBit q' = true
def LI (gr : Nat → Nat) (B : Nat) (m : Nat → Option Nat) (S p q Si : Nat) : Prop := (∀ x, S.testBit x = true → Si.testBit x = true) ∧ (∀ x, Si.testBit x = true → S.testBit x = false → ∃ r, m x = some r ∧ ∀ q', B.testBit q' = true → (gr r).testBit q' = true → Si.testBit q' = true) ∧ ∀ x, x < q → B.testBit x = true → (gr p).testBit x = true → Si.testBit x = true
def mu (m : Nat → Option Nat) (q p : Nat) : Nat → Option Nat := fun x => if x = q then some p else m x
theorem mu_at (m : Nat → Option Nat) (q p : Nat) : mu m q p q = some p := by simp [mu]
theorem mu_ne {m : Nat → Option Nat} {q p x : Nat} (h : ¬ x = q) : mu m q p x = m x := by simp [mu, h]
theorem tb_pow (q x : Nat) : (2 ^ q).testBit x = decide (q = x) := Nat.testBit_two_pow
theorem tb_ins (S q x : Nat) : (S ||| 2 ^ q).testBit x = (S.testBit x || decide (q = x)) := by rw [Nat.testBit_or, tb_pow]
theorem tb_ins_f {S q x : Nat} : (S ||| 2 ^ q).testBit x = false ↔ S.testBit x = false ∧ ¬ x = q := by
  rw [tb_ins]
  simp only [Bool.or_eq_false_iff, decide_eq_false_iff_not]
  constructor
  · rintro ⟨a, b⟩; exact ⟨a, fun e => b e.symm⟩
  · rintro ⟨a, b⟩; exact ⟨a, fun e => b e.symm⟩
section PG
variable {gr : Nat → Nat} {n A B S p q Si S2 r : Nat} {m m1 : Nat → Option Nat}
theorem LI_0 : LI gr B m S p 0 S := ⟨fun _ h => h, fun x h h' => (by rw [h] at h'; cases h'), fun x h => absurd h (Nat.not_lt_zero _)⟩
theorem LI_end (h : LI gr B m S p n Si) (hB : ∀ x, B.testBit x = true → x < n) : PF gr B m S p Si := ⟨h.1, h.2.1, fun x h1 h2 => h.2.2 x (hB x h1) h1 h2⟩
theorem LI_skip (h : LI gr B m S p q Si) (hq : B.testBit q = true → (gr p).testBit q = true → Si.testBit q = true) : LI gr B m S p (q + 1) Si := by
  refine ⟨h.1, h.2.1, fun x hx h1 h2 => ?_⟩
  by_cases e : x = q
  · subst e; exact hq h1 h2
  · exact h.2.2 x (by omega) h1 h2
theorem LI_fail (h : LI gr B m S p q Si) (hm : m q = some r) (hq : Si.testBit q = false) (hf : PF gr B m (Si ||| 2 ^ q) r S2) : LI gr B m S p (q + 1) S2 := by
  have hsub : ∀ x, Si.testBit x = true → S2.testBit x = true := fun x hx => hf.1 x (by rw [tb_ins, hx]; rfl)
  have hqq : S2.testBit q = true := hf.1 q (by rw [tb_ins]; simp)
  refine ⟨fun x hx => hsub x (h.1 x hx), fun x hx hS => ?_, fun x hx h1 h2 => ?_⟩
  · by_cases e : x = q
    · subst e
      exact ⟨r, hm, hf.2.2⟩
    · cases hi : Si.testBit x with
      | true =>
        obtain ⟨r', a, b⟩ := h.2.1 x hi hS
        exact ⟨r', a, fun q' h1 h2 => hsub q' (b q' h1 h2)⟩
      | false => exact hf.2.1 x hx (tb_ins_f.mpr ⟨hi, e⟩)
  · by_cases e : x = q
    · subst e; exact hqq
    · exact hsub x (h.2.2 x (by omega) h1 h2)
theorem PS_free (hE : EV gr n A B m) (hI : IJ S m) (hp : ∀ x, S.testBit x = false → ¬ m x = some p) (hpn : p < n) (hpA : A.testBit p = true) (hli : LI gr B m S p q Si) (hqn : q < n) (hqB : B.testBit q = true) (hadj : (gr p).testBit q = true) (hq : Si.testBit q = false) (hm : m q = none) : PS gr n A B m S p (mu m q p) := by
  have hqS : S.testBit q = false := by
    cases e : S.testBit q with
    | false => rfl
    | true => rw [hli.1 q e] at hq; cases hq
  refine ⟨fun x r hx => ?_, fun x hx => mu_ne (fun e => by rw [e, hqS] at hx; cases hx), fun x x' r h1 h2 h3 h4 => ?_, fun r => ⟨?_, ?_⟩, fun Z hZ => ⟨fun x hx => mu_ne (fun e => ?_), q, hqB, hadj, fun hz => ?_⟩⟩
  · by_cases e : x = q
    · subst e
      rw [mu_at] at hx
      cases hx
      exact ⟨hpn, hqn, hpA, hqB, hadj⟩
    · rw [mu_ne e] at hx
      exact hE x r hx
  · by_cases e : x = q
    · by_cases e' : x' = q
      · rw [e, e']
      · subst e
        rw [mu_at] at h3
        cases h3
        rw [mu_ne e'] at h4
        exact absurd h4 (hp x' h2)
    · by_cases e' : x' = q
      · subst e'
        rw [mu_at] at h4
        cases h4
        rw [mu_ne e] at h3
        exact absurd h3 (hp x h1)
      · rw [mu_ne e] at h3
        rw [mu_ne e'] at h4
        exact hI x x' r h1 h2 h3 h4
  · rintro ⟨x, h1, h2⟩
    by_cases e : x = q
    · subst e
      rw [mu_at] at h2
      cases h2
      exact Or.inl rfl
    · rw [mu_ne e] at h2
      exact Or.inr ⟨x, h1, h2⟩
  · rintro (rfl | ⟨x, h1, h2⟩)
    · exact ⟨q, hqS, mu_at m q _⟩
    · refine ⟨x, h1, ?_⟩
      rw [mu_ne (fun e => by rw [e, hm] at h2; cases h2)]
      exact h2
  · subst e
    obtain ⟨r, h1, -⟩ := hZ x hx
    rw [hm] at h1
    cases h1
  · obtain ⟨r, h1, -⟩ := hZ q hz
    rw [hm] at h1
    cases h1
theorem PS_rec (hE : EV gr n A B m) (hI : IJ S m) (hp : ∀ x, S.testBit x = false → ¬ m x = some p) (hpn : p < n) (hpA : A.testBit p = true) (hli : LI gr B m S p q Si) (hqn : q < n) (hqB : B.testBit q = true) (hadj : (gr p).testBit q = true) (hq : Si.testBit q = false) (hm : m q = some r) (hs : PS gr n A B m (Si ||| 2 ^ q) r m1) : PS gr n A B m S p (mu m1 q p) := by
  obtain ⟨hE1, hS1, hI1, hR1, hZ1⟩ := hs
  have hqS : S.testBit q = false := by
    cases e : S.testBit q with
    | false => rfl
    | true => rw [hli.1 q e] at hq; cases hq
  have hSi1 : ∀ x, Si.testBit x = true → m1 x = m x := fun x hx => hS1 x (by rw [tb_ins, hx]; rfl)
  have hSf : ∀ x, Si.testBit x = false → S.testBit x = false := fun x hx => by
    cases e : S.testBit x with
    | false => rfl
    | true => rw [hli.1 x e] at hx; cases hx
  have hval : ∀ x v, S.testBit x = false → ¬ x = q → m1 x = some v → (Si.testBit x = true ∧ m x = some v) ∨ (Si.testBit x = false ∧ (v = r ∨ ∃ y, Si.testBit y = false ∧ ¬ y = q ∧ m y = some v)) := by
    intro x v hx e h
    cases hi : Si.testBit x with
    | true => exact Or.inl ⟨rfl, by rw [← hSi1 x hi]; exact h⟩
    | false =>
      refine Or.inr ⟨rfl, ?_⟩
      rcases (hR1 v).mp ⟨x, tb_ins_f.mpr ⟨hi, e⟩, h⟩ with h' | ⟨y, h1, h2⟩
      · exact Or.inl h'
      · obtain ⟨a, b⟩ := tb_ins_f.mp h1
        exact Or.inr ⟨y, a, b, h2⟩
  have hnp : ∀ x v, S.testBit x = false → ¬ x = q → m1 x = some v → ¬ v = p := by
    intro x v hx e h hv
    subst hv
    rcases hval x v hx e h with ⟨-, h'⟩ | ⟨-, h' | ⟨y, a, b, c⟩⟩
    · exact hp x hx h'
    · subst h'; exact hp q hqS hm
    · exact hp y (hSf y a) c
  refine ⟨fun x v hx => ?_, fun x hx => ?_, fun x x' v h1 h2 h3 h4 => ?_, fun v => ⟨?_, ?_⟩, fun Z hZ => ?_⟩
  · by_cases e : x = q
    · subst e
      rw [mu_at] at hx
      cases hx
      exact ⟨hpn, hqn, hpA, hqB, hadj⟩
    · rw [mu_ne e] at hx
      exact hE1 x v hx
  · rw [mu_ne (fun e => by rw [e, hqS] at hx; cases hx)]
    exact hSi1 x (hli.1 x hx)
  · by_cases e : x = q
    · by_cases e' : x' = q
      · rw [e, e']
      · subst e
        rw [mu_at] at h3
        cases h3
        rw [mu_ne e'] at h4
        exact absurd rfl (hnp x' _ h2 e' h4)
    · by_cases e' : x' = q
      · subst e'
        rw [mu_at] at h4
        cases h4
        rw [mu_ne e] at h3
        exact absurd rfl (hnp x _ h1 e h3)
      · rw [mu_ne e] at h3
        rw [mu_ne e'] at h4
        rcases hval x v h1 e h3 with ⟨a, a2⟩ | ⟨a, a2⟩
        · rcases hval x' v h2 e' h4 with ⟨b, b2⟩ | ⟨b, b2 | ⟨y, y1, y2, y3⟩⟩
          · exact hI x x' v h1 h2 a2 b2
          · subst b2
            exact absurd (hI x q v h1 hqS a2 hm) e
          · have := hI x y v h1 (hSf y y1) a2 y3
            rw [this, y1] at a
            cases a
        · cases b : Si.testBit x' with
          | false => exact hI1 x x' v (tb_ins_f.mpr ⟨a, e⟩) (tb_ins_f.mpr ⟨b, e'⟩) h3 h4
          | true =>
            have b2 : m x' = some v := by rw [← hSi1 x' b]; exact h4
            rcases a2 with a2 | ⟨y, y1, y2, y3⟩
            · subst a2
              exact absurd (hI x' q v h2 hqS b2 hm) e'
            · have := hI x' y v h2 (hSf y y1) b2 y3
              rw [this, y1] at b
              cases b
  · rintro ⟨x, h1, h2⟩
    by_cases e : x = q
    · subst e
      rw [mu_at] at h2
      cases h2
      exact Or.inl rfl
    · rw [mu_ne e] at h2
      rcases hval x v h1 e h2 with ⟨-, a⟩ | ⟨-, a | ⟨y, y1, y2, y3⟩⟩
      · exact Or.inr ⟨x, h1, a⟩
      · subst a; exact Or.inr ⟨q, hqS, hm⟩
      · exact Or.inr ⟨y, hSf y y1, y3⟩
  · rintro (rfl | ⟨x, h1, h2⟩)
    · exact ⟨q, hqS, mu_at m1 q _⟩
    · by_cases e : x = q
      · subst e
        rw [hm] at h2
        cases h2
        obtain ⟨y, y1, y2⟩ := (hR1 r).mpr (Or.inl rfl)
        obtain ⟨a, b⟩ := tb_ins_f.mp y1
        exact ⟨y, hSf y a, by rw [mu_ne b]; exact y2⟩
      · cases hi : Si.testBit x with
        | true => exact ⟨x, h1, by rw [mu_ne e, hSi1 x hi]; exact h2⟩
        | false =>
          obtain ⟨y, y1, y2⟩ := (hR1 v).mpr (Or.inr ⟨x, tb_ins_f.mpr ⟨hi, e⟩, h2⟩)
          obtain ⟨a, b⟩ := tb_ins_f.mp y1
          exact ⟨y, hSf y a, by rw [mu_ne b]; exact y2⟩
  · obtain ⟨z1, y, y1, y2, y3⟩ := hZ1 Z hZ
    have hqZ : ¬ Z q := fun hz => by
      obtain ⟨r', h1, h2⟩ := hZ q hz
      rw [hm] at h1
      cases h1
      exact y3 (h2 y y1 y2)
    exact ⟨fun x hx => by rw [mu_ne (fun e => hqZ (by rw [← e]; exact hx))]; exact z1 x hx, q, hqB, hadj, hqZ⟩
/-- what the roots so far leave: a pairing, a closed set, each root paired or closed in -/
def RT (gr : Nat → Nat) (n A B : Nat) (m : Nat → Option Nat) (Z : Nat → Prop) (p : Nat) : Prop :=
  EV gr n A B m ∧ IJ 0 m ∧ (∀ q r, m q = some r → r < p) ∧ CZ gr B m Z ∧ ∀ r, r < p → A.testBit r = true → (∃ q, m q = some r) ∨ ∀ q', B.testBit q' = true → (gr r).testBit q' = true → Z q'
theorem RT_0 : RT gr n A B (fun _ => none) (fun _ => False) 0 := ⟨fun _ _ h => (by cases h), fun _ _ _ _ _ h => (by cases h), fun _ _ h => (by cases h), fun _ h => False.elim h, fun r h => absurd h (Nat.not_lt_zero _)⟩
theorem z0 (q : Nat) : (0 : Nat).testBit q = false := Nat.zero_testBit q
theorem RT_skip {Z : Nat → Prop} (h : RT gr n A B m Z p) (hp : A.testBit p = false) : RT gr n A B m Z (p + 1) := by
  refine ⟨h.1, h.2.1, fun q r hq => Nat.lt_succ_of_lt (h.2.2.1 q r hq), h.2.2.2.1, fun r hr hA => ?_⟩
  by_cases e : r = p
  · subst e; rw [hp] at hA; cases hA
  · exact h.2.2.2.2 r (by omega) hA
theorem RT_ok {Z : Nat → Prop} (h : RT gr n A B m Z p) (hs : PS gr n A B m 0 p m1) : RT gr n A B m1 Z (p + 1) := by
  obtain ⟨hE1, -, hI1, hR1, hZ1⟩ := hs
  obtain ⟨z1, -⟩ := hZ1 Z h.2.2.2.1
  refine ⟨hE1, hI1, fun q r hq => ?_, fun q hq => ?_, fun r hr hA => ?_⟩
  · rcases (hR1 r).mp ⟨q, z0 q, hq⟩ with a | ⟨q', -, a⟩
    · omega
    · exact Nat.lt_succ_of_lt (h.2.2.1 q' r a)
  · rw [z1 q hq]
    exact h.2.2.2.1 q hq
  · by_cases e : r = p
    · obtain ⟨q, -, hq⟩ := (hR1 r).mpr (Or.inl e)
      exact Or.inl ⟨q, hq⟩
    · rcases h.2.2.2.2 r (by omega) hA with ⟨q, hq⟩ | hq
      · obtain ⟨q', -, hq'⟩ := (hR1 r).mpr (Or.inr ⟨q, z0 q, hq⟩)
        exact Or.inl ⟨q', hq'⟩
      · exact Or.inr hq
theorem RT_no {Z : Nat → Prop} {S' : Nat} (h : RT gr n A B m Z p) (hf : PF gr B m 0 p S') : RT gr n A B m (fun q => Z q ∨ S'.testBit q = true) (p + 1) := by
  refine ⟨h.1, h.2.1, fun q r hq => Nat.lt_succ_of_lt (h.2.2.1 q r hq), fun q hq => ?_, fun r hr hA => ?_⟩
  · rcases hq with hq | hq
    · obtain ⟨r, a, b⟩ := h.2.2.2.1 q hq
      exact ⟨r, a, fun q' h1 h2 => Or.inl (b q' h1 h2)⟩
    · obtain ⟨r, a, b⟩ := hf.2.1 q hq (z0 q)
      exact ⟨r, a, fun q' h1 h2 => Or.inr (b q' h1 h2)⟩
  · by_cases e : r = p
    · subst e
      exact Or.inr (fun q' h1 h2 => Or.inr (hf.2.2 q' h1 h2))
    · rcases h.2.2.2.2 r (by omega) hA with hq | hq
      · exact Or.inl hq
      · exact Or.inr (fun q' h1 h2 => Or.inl (hq q' h1 h2))
/-- a pairing that reaches one left point more has one more -/
theorem msz_ok (hE : EV gr n A B m) (hI : IJ 0 m) (hn : n ≤ 12) (hp : ∀ x, ¬ m x = some p) (hs : PS gr n A B m 0 p m1) (hpn : p < n) : msz m1 = msz m + 1 := by
  obtain ⟨hE1, -, hI1, hR1, -⟩ := hs
  have key : ∀ m : Nat → Option Nat, EV gr n A B m → IJ 0 m → ∀ P : Nat → Bool, (∀ r, P r = true ↔ ∃ q, m q = some r) → msz m = cn 12 P := by
    intro m hE hI P hP
    apply Nat.le_antisymm
    · apply cn_inj 12 _ _ (fun q => (m q).getD 0)
      · intro k hk h
        obtain ⟨r, hr⟩ := Option.isSome_iff_exists.mp h
        simp only [hr, Option.getD_some]
        exact ⟨by have := (hE k r hr).1; omega, (hP r).mpr ⟨k, hr⟩⟩
      · intro i j hi hj h h' e
        obtain ⟨r, hr⟩ := Option.isSome_iff_exists.mp h
        obtain ⟨r', hr'⟩ := Option.isSome_iff_exists.mp h'
        simp only [hr, hr', Option.getD_some] at e
        subst e
        exact hI i j r (z0 i) (z0 j) hr hr'
    · obtain ⟨f, hf⟩ := Classical.axiomOfChoice (r := fun (r : Nat) (q : Nat) => P r = true → m q = some r) (fun r => by
        by_cases h : P r = true
        · obtain ⟨q, hq⟩ := (hP r).mp h
          exact ⟨q, fun _ => hq⟩
        · exact ⟨0, fun h' => absurd h' h⟩)
      apply cn_inj 12 _ _ f
      · intro k hk h
        have h1 := hf k h
        exact ⟨by have := (hE _ _ h1).2.1; omega, by rw [h1]; rfl⟩
      · intro i j hi hj h h' e
        have h1 := hf i h
        have h2 := hf j h'
        rw [e, h2] at h1
        exact (Option.some.inj h1).symm
  have d1 : ∀ r : Nat, Decidable (∃ q, m q = some r) := fun r => Classical.propDecidable _
  have e1 := key m hE hI (fun r => @decide _ (d1 r)) (fun r => by simp)
  have e2 := key m1 hE1 hI1 (fun r => @decide _ (d1 r) || decide (r = p)) (fun r => by
    have := hR1 r
    simp only [z0, true_and] at this
    rw [this]
    simp only [Bool.or_eq_true, decide_eq_true_eq]
    exact Or.comm)
  rw [e1, e2, cn_add1 (by omega)]
  simp only [decide_eq_false_iff_not]
  rintro ⟨q, hq⟩
  exact hp q hq
/-- behind the last root -/
theorem RT_nu {Z : Nat → Prop} (h : RT gr n A B m Z n) (hn : n ≤ 12) (hA : A < 2 ^ n) : IsNu gr A B (msz m) := by
  have dz : ∀ q : Nat, Decidable (Z q) := fun q => Classical.propDecidable _
  refine ⟨⟨m, ⟨fun q r hq => (h.1 q r hq).2.2, fun q q' r h1 h2 => h.2.1 q q' r (z0 q) (z0 q') h1 h2⟩, rfl⟩, ?_⟩
  have dx : ∀ r : Nat, Decidable (∃ q, ¬ Z q ∧ m q = some r) := fun r => Classical.propDecidable _
  refine ⟨fun r => @decide _ (dx r), fun q => @decide _ (dz q), fun r q h1 h2 h3 => ?_, ?_⟩
  · rcases h.2.2.2.2 r (tb_ltn hA h1) h1 with ⟨q', hq'⟩ | hz
    · by_cases z : Z q'
      · obtain ⟨r', a, b⟩ := h.2.2.2.1 q' z
        rw [hq'] at a
        cases a
        exact Or.inr (decide_eq_true (b q h2 h3))
      · exact Or.inl (decide_eq_true ⟨q', z, hq'⟩)
    · exact Or.inr (decide_eq_true (hz q h2 h3))
  · unfold msz
    rw [cn_split 12 (fun q => (m q).isSome) (fun q => @decide _ (dz q))]
    have e1 : cn 12 (fun k => (m k).isSome && @decide _ (dz k)) = cn 12 (fun q => @decide _ (dz q)) := by
      apply cn_congr
      intro k hk
      by_cases z : Z k
      · obtain ⟨r, a, -⟩ := h.2.2.2.1 k z
        simp [a, z]
      · simp [z]
    have e2 : cn 12 (fun k => (m k).isSome && !@decide _ (dz k)) = cn 12 (fun r => @decide _ (dx r)) := by
      apply Nat.le_antisymm
      · apply cn_inj 12 _ _ (fun q => (m q).getD 0)
        · intro k hk hh
          simp only [Bool.and_eq_true, Bool.not_eq_true', decide_eq_false_iff_not] at hh
          obtain ⟨r, hr⟩ := Option.isSome_iff_exists.mp hh.1
          simp only [hr, Option.getD_some]
          exact ⟨by have := (h.1 k r hr).1; omega, decide_eq_true ⟨k, hh.2, hr⟩⟩
        · intro i j hi hj hh hh' e
          simp only [Bool.and_eq_true, Bool.not_eq_true', decide_eq_false_iff_not] at hh hh'
          obtain ⟨r, hr⟩ := Option.isSome_iff_exists.mp hh.1
          obtain ⟨r', hr'⟩ := Option.isSome_iff_exists.mp hh'.1
          simp only [hr, hr', Option.getD_some] at e
          subst e
          exact h.2.1 i j r (z0 i) (z0 j) hr hr'
      · obtain ⟨f, hf⟩ := Classical.axiomOfChoice (r := fun (r : Nat) (q : Nat) => (∃ q, ¬ Z q ∧ m q = some r) → ¬ Z q ∧ m q = some r) (fun r => by
          by_cases hh : ∃ q, ¬ Z q ∧ m q = some r
          · obtain ⟨q, hq⟩ := hh
            exact ⟨q, fun _ => hq⟩
          · exact ⟨0, fun h' => absurd h' hh⟩)
        apply cn_inj 12 _ _ f
        · intro k hk hh
          obtain ⟨z, h1⟩ := hf k (of_decide_eq_true hh)
          exact ⟨by have := (h.1 _ _ h1).2.1; omega, by simp [h1, z]⟩
        · intro i j hi hj hh hh' e
          have h1 := (hf i (of_decide_eq_true hh)).2
          have h2 := (hf j (of_decide_eq_true hh')).2
          rw [e, h2] at h1
          exact (Option.some.inj h1).symm
    rw [e1, e2]
    exact Nat.add_comm _ _
end PG

