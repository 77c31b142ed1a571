section PG2
variable {gr : Nat → Nat} {n A B S p q Si S2 r : Nat} {m m1 : Nat → Option Nat}
theorem PS_free2 (hE : EV gr n A B m) (hI : IJ S m) (hp : ∀ x, S.testBit x = false → ¬ m x = some p) (hpn : p < n) (hpA : A.testBit p = true) (hsub : ∀ x, S.testBit x = true → Si.testBit x = true) (hqn : q < n) (hqB : B.testBit q = true) (hadj : (gr p).testBit q = true) (hq : Si.testBit q = false) (hm : m q = none) : PS gr n A B m S p (mu m q p) := by
  have hqS : S.testBit q = false := by
    cases e : S.testBit q with
    | false => rfl
    | true => rw [hsub q e] at hq; cases hq
  refine ⟨fun x r hx => ?_, fun x hx => mu_ne (fun e => by rw [e, hqS] at hx; cases hx), fun x x' r h1 h2 h3 h4 => ?_, fun r => ⟨?_, ?_⟩, fun Z hZ => ⟨fun x hx => mu_ne (fun e => ?_), q, hqB, hadj, fun hz => ?_⟩⟩
  · by_cases e : x = q
    · subst e
      rw [mu_at] at hx
      cases hx
      exact ⟨hpn, hqn, hpA, hqB, hadj⟩
    · rw [mu_ne e] at hx
      exact hE x r hx
  · by_cases e : x = q
    · by_cases e' : x' = q
      · rw [e, e']
      · subst e
        rw [mu_at] at h3
        cases h3
        rw [mu_ne e'] at h4
        exact absurd h4 (hp x' h2)
    · by_cases e' : x' = q
      · subst e'
        rw [mu_at] at h4
        cases h4
        rw [mu_ne e] at h3
        exact absurd h3 (hp x h1)
      · rw [mu_ne e] at h3
        rw [mu_ne e'] at h4
        exact hI x x' r h1 h2 h3 h4
  · rintro ⟨x, h1, h2⟩
    by_cases e : x = q
    · subst e
      rw [mu_at] at h2
      cases h2
      exact Or.inl rfl
    · rw [mu_ne e] at h2
      exact Or.inr ⟨x, h1, h2⟩
  · rintro (rfl | ⟨x, h1, h2⟩)
    · exact ⟨q, hqS, mu_at m q _⟩
    · refine ⟨x, h1, ?_⟩
      rw [mu_ne (fun e => by rw [e, hm] at h2; cases h2)]
      exact h2
  · subst e
    obtain ⟨r, h1, -⟩ := hZ x hx
    rw [hm] at h1
    cases h1
  · obtain ⟨r, h1, -⟩ := hZ q hz
    rw [hm] at h1
    cases h1
theorem PS_rec2 (hE : EV gr n A B m) (hI : IJ S m) (hp : ∀ x, S.testBit x = false → ¬ m x = some p) (hpn : p < n) (hpA : A.testBit p = true) (hsub : ∀ x, S.testBit x = true → Si.testBit x = true) (hqn : q < n) (hqB : B.testBit q = true) (hadj : (gr p).testBit q = true) (hq : Si.testBit q = false) (hm : m q = some r) (hs : PS gr n A B m (Si ||| 2 ^ q) r m1) : PS gr n A B m S p (mu m1 q p) := by
  obtain ⟨hE1, hS1, hI1, hR1, hZ1⟩ := hs
  have hqS : S.testBit q = false := by
    cases e : S.testBit q with
    | false => rfl
    | true => rw [hsub q e] at hq; cases hq
  have hSi1 : ∀ x, Si.testBit x = true → m1 x = m x := fun x hx => hS1 x (by rw [tb_ins, hx]; rfl)
  have hSf : ∀ x, Si.testBit x = false → S.testBit x = false := fun x hx => by
    cases e : S.testBit x with
    | false => rfl
    | true => rw [hsub x e] at hx; cases hx
  have hval : ∀ x v, S.testBit x = false → ¬ x = q → m1 x = some v → (Si.testBit x = true ∧ m x = some v) ∨ (Si.testBit x = false ∧ (v = r ∨ ∃ y, Si.testBit y = false ∧ ¬ y = q ∧ m y = some v)) := by
    intro x v hx e h
    cases hi : Si.testBit x with
    | true => exact Or.inl ⟨rfl, by rw [← hSi1 x hi]; exact h⟩
    | false =>
      refine Or.inr ⟨rfl, ?_⟩
      rcases (hR1 v).mp ⟨x, tb_ins_f.mpr ⟨hi, e⟩, h⟩ with h' | ⟨y, h1, h2⟩
      · exact Or.inl h'
      · obtain ⟨a, b⟩ := tb_ins_f.mp h1
        exact Or.inr ⟨y, a, b, h2⟩
  have hnp : ∀ x v, S.testBit x = false → ¬ x = q → m1 x = some v → ¬ v = p := by
    intro x v hx e h hv
    subst hv
    rcases hval x v hx e h with ⟨-, h'⟩ | ⟨-, h' | ⟨y, a, b, c⟩⟩
    · exact hp x hx h'
    · subst h'; exact hp q hqS hm
    · exact hp y (hSf y a) c
  refine ⟨fun x v hx => ?_, fun x hx => ?_, fun x x' v h1 h2 h3 h4 => ?_, fun v => ⟨?_, ?_⟩, fun Z hZ => ?_⟩
  · by_cases e : x = q
    · subst e
      rw [mu_at] at hx
      cases hx
      exact ⟨hpn, hqn, hpA, hqB, hadj⟩
    · rw [mu_ne e] at hx
      exact hE1 x v hx
  · rw [mu_ne (fun e => by rw [e, hqS] at hx; cases hx)]
    exact hSi1 x (hsub x hx)
  · by_cases e : x = q
    · by_cases e' : x' = q
      · rw [e, e']
      · subst e
        rw [mu_at] at h3
        cases h3
        rw [mu_ne e'] at h4
        exact absurd rfl (hnp x' _ h2 e' h4)
    · by_cases e' : x' = q
      · subst e'
        rw [mu_at] at h4
        cases h4
        rw [mu_ne e] at h3
        exact absurd rfl (hnp x _ h1 e h3)
      · rw [mu_ne e] at h3
        rw [mu_ne e'] at h4
        rcases hval x v h1 e h3 with ⟨a, a2⟩ | ⟨a, a2⟩
        · rcases hval x' v h2 e' h4 with ⟨b, b2⟩ | ⟨b, b2 | ⟨y, y1, y2, y3⟩⟩
          · exact hI x x' v h1 h2 a2 b2
          · subst b2
            exact absurd (hI x q v h1 hqS a2 hm) e
          · have := hI x y v h1 (hSf y y1) a2 y3
            rw [this, y1] at a
            cases a
        · cases b : Si.testBit x' with
          | false => exact hI1 x x' v (tb_ins_f.mpr ⟨a, e⟩) (tb_ins_f.mpr ⟨b, e'⟩) h3 h4
          | true =>
            have b2 : m x' = some v := by rw [← hSi1 x' b]; exact h4
            rcases a2 with a2 | ⟨y, y1, y2, y3⟩
            · subst a2
              exact absurd (hI x' q v h2 hqS b2 hm) e'
            · have := hI x' y v h2 (hSf y y1) b2 y3
              rw [this, y1] at b
              cases b
  · rintro ⟨x, h1, h2⟩
    by_cases e : x = q
    · subst e
      rw [mu_at] at h2
      cases h2
      exact Or.inl rfl
    · rw [mu_ne e] at h2
      rcases hval x v h1 e h2 with ⟨-, a⟩ | ⟨-, a | ⟨y, y1, y2, y3⟩⟩
      · exact Or.inr ⟨x, h1, a⟩
      · subst a; exact Or.inr ⟨q, hqS, hm⟩
      · exact Or.inr ⟨y, hSf y y1, y3⟩
  · rintro (rfl | ⟨x, h1, h2⟩)
    · exact ⟨q, hqS, mu_at m1 q _⟩
    · by_cases e : x = q
      · subst e
        rw [hm] at h2
        cases h2
        obtain ⟨y, y1, y2⟩ := (hR1 r).mpr (Or.inl rfl)
        obtain ⟨a, b⟩ := tb_ins_f.mp y1
        exact ⟨y, hSf y a, by rw [mu_ne b]; exact y2⟩
      · cases hi : Si.testBit x with
        | true => exact ⟨x, h1, by rw [mu_ne e, hSi1 x hi]; exact h2⟩
        | false =>
          obtain ⟨y, y1, y2⟩ := (hR1 v).mpr (Or.inr ⟨x, tb_ins_f.mpr ⟨hi, e⟩, h2⟩)
          obtain ⟨a, b⟩ := tb_ins_f.mp y1
          exact ⟨y, hSf y a, by rw [mu_ne b]; exact y2⟩
  · obtain ⟨z1, y, y1, y2, y3⟩ := hZ1 Z hZ
    have hqZ : ¬ Z q := fun hz => by
      obtain ⟨r', h1, h2⟩ := hZ q hz
      rw [hm] at h1
      cases h1
      exact y3 (h2 y y1 y2)
    exact ⟨fun x hx => by rw [mu_ne (fun e => hqZ (by rw [← e]; exact hx))]; exact z1 x hx, q, hqB, hadj, hqZ⟩
end PG2

/-- the way back from q to the start: An are the ones ahead of it -/
def CHf (gr : Nat → Nat) (B : Nat) (m : Nat → Option Nat) (start : Nat) (pa : Nat → Nat) : Nat → Nat → Nat → Prop
  | 0, _, _ => False
  | f + 1, q, An => B.testBit q = true ∧ (gr (pa q)).testBit q = true ∧ An.testBit q = false ∧ ((pa q = start ∧ An = 0) ∨ ∃ q' An', m q' = some (pa q) ∧ An = An' ||| 2 ^ q' ∧ CHf gr B m start pa f q' An')
/-- while pairs are being shifted: mr, ml are the two rows now, q the one to be given next -/
def SHI (gr : Nat → Nat) (n A B : Nat) (m : Nat → Option Nat) (start : Nat) (q An : Nat) (mr ml : Nat → Option Nat) : Prop :=
  ((m q = none ∧ mr = m) ∨ ∃ r, m q = some r ∧ PS gr n A B m (An ||| 2 ^ q) r mr) ∧ (∀ x r, ¬ x = q → (mr x = some r ↔ ml r = some x)) ∧ (∀ r, ¬ ml r = some q) ∧ ml start = none ∧ ∀ x, An.testBit x = true → ∀ r, m x = some r → ml r = some x
/-- a step that ends it -/
theorem SHI_end {gr : Nat → Nat} {n A B : Nat} {m : Nat → Option Nat} {start q : Nat} {mr ml : Nat → Option Nat} (hE : EV gr n A B m) (hI : IJ 0 m) (hst : ∀ x, ¬ m x = some start) (hsn : start < n) (hsA : A.testBit start = true) (hqn : q < n) (hqB : B.testBit q = true) (hadj : (gr start).testBit q = true) (h : SHI gr n A B m start q 0 mr ml) : PS gr n A B m 0 start (mu mr q start) ∧ ∀ x r, mu mr q start x = some r ↔ mu ml start q r = some x := by
  obtain ⟨h1, h2, h3, h4, -⟩ := h
  constructor
  · rcases h1 with ⟨a, b⟩ | ⟨r, a, b⟩
    · rw [b]
      exact PS_free2 hE hI (fun x _ => hst x) hsn hsA (fun _ h => h) hqn hqB hadj (z0 q) a
    · exact PS_rec2 hE hI (fun x _ => hst x) hsn hsA (fun _ h => h) hqn hqB hadj (z0 q) a b
  · intro x r
    by_cases e : x = q
    · subst e
      rw [mu_at]
      by_cases er : r = start
      · subst er; rw [mu_at]; exact ⟨fun _ => rfl, fun _ => rfl⟩
      · rw [mu_ne er]
        constructor
        · intro z; cases z; exact absurd rfl er
        · intro z; exact absurd z (h3 r)
    · rw [mu_ne e, h2 x r e]
      by_cases er : r = start
      · subst er
        rw [mu_at, h4]
        constructor
        · intro z; cases z
        · intro z; cases z; exact absurd rfl e
      · rw [mu_ne er]
theorem SHI_step {gr : Nat → Nat} {n A B : Nat} {m : Nat → Option Nat} {start q p q' An' : Nat} {mr ml : Nat → Option Nat} (hE : EV gr n A B m) (hI : IJ 0 m) (hst : ∀ x, ¬ m x = some start) (hqn : q < n) (hqB : B.testBit q = true) (hadj : (gr p).testBit q = true) (hq : (An' ||| 2 ^ q').testBit q = false) (hq' : An'.testBit q' = false) (hm : m q' = some p) (h : SHI gr n A B m start q (An' ||| 2 ^ q') mr ml) : ml p = some q' ∧ SHI gr n A B m start q' An' (mu mr q p) (mu ml p q) := by
  obtain ⟨h1, h2, h3, h4, h5⟩ := h
  have hqq : ¬ q = q' := fun e => by rw [e, tb_ins] at hq; simp at hq
  have hps : ¬ start = p := fun e => hst q' (by rw [hm, e])
  have hmlp : ml p = some q' := h5 q' (by rw [tb_ins]; simp) p hm
  have hp := hE q' p hm
  have hIS : IJ (An' ||| 2 ^ q') m := fun x y r _ _ h6 h7 => hI x y r (z0 x) (z0 y) h6 h7
  have hpx : ∀ x, (An' ||| 2 ^ q').testBit x = false → ¬ m x = some p := fun x hx hmx => by
    have := hI x q' p (z0 x) (z0 q') hmx hm
    rw [this, tb_ins] at hx
    simp at hx
  refine ⟨hmlp, Or.inr ⟨p, hm, ?_⟩, fun x r hx => ?_, fun r hr => ?_, ?_, fun x hx r hr => ?_⟩
  · rcases h1 with ⟨a, b⟩ | ⟨r, a, b⟩
    · rw [b]
      exact PS_free2 hE hIS hpx hp.1 hp.2.2.1 (fun _ h => h) hqn hqB hadj hq a
    · exact PS_rec2 hE hIS hpx hp.1 hp.2.2.1 (fun _ h => h) hqn hqB hadj hq a b
  · by_cases e : x = q
    · subst e
      rw [mu_at]
      by_cases er : r = p
      · subst er; rw [mu_at]; exact ⟨fun _ => rfl, fun _ => rfl⟩
      · rw [mu_ne er]
        constructor
        · intro z; cases z; exact absurd rfl er
        · intro z; exact absurd z (h3 r)
    · rw [mu_ne e, h2 x r e]
      by_cases er : r = p
      · subst er
        rw [mu_at, hmlp]
        constructor
        · intro z; cases z; exact absurd rfl hx
        · intro z; cases z; exact absurd rfl e
      · rw [mu_ne er]
  · by_cases er : r = p
    · subst er
      rw [mu_at] at hr
      cases hr
      exact hqq rfl
    · rw [mu_ne er] at hr
      have a1 := (h2 q' r (fun e => hqq e.symm)).mpr hr
      have a2 := (h2 q' p (fun e => hqq e.symm)).mpr hmlp
      rw [a1] at a2
      cases a2
      exact er rfl
  · rw [mu_ne hps]; exact h4
  · have hxq : ¬ x = q' := fun e => by rw [e, hq'] at hx; cases hx
    have hrp : ¬ r = p := fun e => hxq (hI x q' p (z0 x) (z0 q') (by rw [hr, e]) hm)
    rw [mu_ne hrp]
    exact h5 x (by rw [tb_ins, hx]; rfl) r hr
/-- the state of the search by breadth: Q those reached and waited for -/
def BQ (I : AI) (c e n : Nat) (gr : Nat → Nat) (B : Nat) (m : Nat → Option Nat) (start Q i sz : Nat) (wq rk : Nat → Nat) : Prop :=
  1 ≤ sz ∧ wq 0 = start ∧ (∀ j, j < sz → I e j = nI (wq j) ∧ wq j < n) ∧ (∀ q, Q.testBit q = true → q < n ∧ B.testBit q = true ∧ ∃ r, m q = some r ∧ ∃ j, j < sz ∧ wq j = r) ∧
  (∀ j, 0 < j → j < sz → ∃ q, Q.testBit q = true ∧ m q = some (wq j) ∧ rk q < j) ∧
  (∀ q, Q.testBit q = true → rk q < i ∧ rk q < sz ∧ I c q = nI (wq (rk q)) ∧ (gr (wq (rk q))).testBit q = true) ∧
  ∃ Wb, Wb < 4096 ∧ pc Wb = sz ∧ ∀ x, Wb.testBit x = true ↔ ∃ j, j < sz ∧ wq j = x
theorem CHf_ex {I : AI} {c e n : Nat} {gr : Nat → Nat} {B : Nat} {m : Nat → Option Nat} {start Q i sz : Nat} {wq rk : Nat → Nat} (h : BQ I c e n gr B m start Q i sz wq rk) : ∀ (k q : Nat), rk q = k → Q.testBit q = true → ∃ An, CHf gr B m start (fun x => wq (rk x)) (k + 1) q An ∧ ∀ x, An.testBit x = true → Q.testBit x = true ∧ rk x < k := by
  intro k
  induction k using Nat.strongRecOn with
  | _ k ih =>
  intro q hk hQ
  obtain ⟨h0, h1, h2, h3, h4, h5, -⟩ := h
  obtain ⟨a1, a2, -, a3⟩ := h5 q hQ
  obtain ⟨-, b1, -⟩ := h3 q hQ
  rcases Nat.eq_zero_or_pos (rk q) with z | z
  · exact ⟨0, ⟨b1, a3, z0 q, Or.inl ⟨by show wq (rk q) = start; rw [z]; exact h1, rfl⟩⟩, fun x hx => by rw [z0] at hx; cases hx⟩
  · obtain ⟨q', c1, c2, c3⟩ := h4 (rk q) z a2
    obtain ⟨An', d1, d2⟩ := ih (rk q') (by omega) q' rfl c1
    have hup : ∀ f f' q An, f ≤ f' → CHf gr B m start (fun x => wq (rk x)) f q An → CHf gr B m start (fun x => wq (rk x)) f' q An := by
      intro f
      induction f with
      | zero => intro f' q An _ hc; exact hc.elim
      | succ f ih2 =>
        intro f' q An hf hc
        obtain ⟨f'', rfl⟩ : ∃ f'', f' = f'' + 1 := ⟨f' - 1, by omega⟩
        obtain ⟨e1, e2, e3, e4⟩ := hc
        refine ⟨e1, e2, e3, ?_⟩
        rcases e4 with e4 | ⟨x, y, g1, g2, g3⟩
        · exact Or.inl e4
        · exact Or.inr ⟨x, y, g1, g2, ih2 f'' x y (by omega) g3⟩
    refine ⟨An' ||| 2 ^ q', ⟨b1, a3, ?_, Or.inr ⟨q', An', c2, rfl, hup _ _ _ _ (by omega) d1⟩⟩, fun x hx => ?_⟩
    · rw [tb_ins_f]
      refine ⟨?_, fun e => by rw [e] at c3; omega⟩
      cases t : An'.testBit q with
      | false => rfl
      | true => have := (d2 q t).2; omega
    · rw [tb_ins, Bool.or_eq_true, decide_eq_true_eq] at hx
      rcases hx with hx | hx
      · exact ⟨(d2 x hx).1, by have := (d2 x hx).2; omega⟩
      · rw [← hx]; exact ⟨c1, by omega⟩
theorem CHf_ne {gr : Nat → Nat} {B : Nat} {m : Nat → Option Nat} {start : Nat} {pa pa' : Nat → Nat} {l0 : Nat} (hpa : ∀ x, ¬ x = l0 → pa' x = pa x) (hl : m l0 = none) : ∀ f q An, ¬ q = l0 → CHf gr B m start pa f q An → CHf gr B m start pa' f q An := by
  intro f
  induction f with
  | zero => intro q An _ h; exact h.elim
  | succ f ih =>
    intro q An hq h
    obtain ⟨e1, e2, e3, e4⟩ := h
    refine ⟨e1, by rw [hpa q hq]; exact e2, e3, ?_⟩
    rcases e4 with e4 | ⟨x, y, g1, g2, g3⟩
    · exact Or.inl (by rw [hpa q hq]; exact e4)
    · refine Or.inr ⟨x, y, by rw [hpa q hq]; exact g1, g2, ih x y (fun e => ?_) g3⟩
      rw [e, hl] at g1
      cases g1
theorem BQ_add {I I' : AI} {c e n : Nat} {gr : Nat → Nat} {A B : Nat} {m : Nat → Option Nat} {start Q i sz q r : Nat} {wq rk : Nat → Nat} (hn : n ≤ 12) (hE : EV gr n A B m) (hI : IJ 0 m) (hst : ∀ x, ¬ m x = some start) (h : BQ I c e n gr B m start Q i sz wq rk) (hi : i ≤ sz) (hi0 : 0 < i) (hq : Q.testBit q = false) (hqB : B.testBit q = true) (hm : m q = some r) (hadj : (gr (wq (i - 1))).testBit q = true) (e1 : ∀ x, ¬ x = q → I' c x = I c x) (e2 : I' c q = nI (wq (i - 1))) (e3 : ∀ j, j < sz → I' e j = I e j) (e4 : I' e sz = nI r) : sz < 12 ∧ ∃ wq' rk', (∀ j, j < sz → wq' j = wq j) ∧ BQ I' c e n gr B m start (Q ||| 2 ^ q) i (sz + 1) wq' rk' := by
  obtain ⟨h0, h1, h2, h3, h4, h5, Wb, w1, w2, w3⟩ := h
  have hr := hE q r hm
  have hrW : Wb.testBit r = false := by
    cases t : Wb.testBit r with
    | false => rfl
    | true =>
      obtain ⟨j, j1, j2⟩ := (w3 r).mp t
      rcases Nat.eq_zero_or_pos j with z | z
      · rw [z, h1] at j2
        exact absurd (by rw [hm, j2]) (hst q)
      · obtain ⟨q', c1, c2, -⟩ := h4 j z j1
        rw [j2] at c2
        have := hI q q' r (z0 q) (z0 q') hm c2
        rw [this, c1] at hq
        cases hq
  have hlt : Wb ||| 2 ^ r < 2 ^ 12 := Nat.or_lt_two_pow (by omega) (Nat.pow_lt_pow_right (by omega) (by omega))
  have hpc : pc (Wb ||| 2 ^ r) = sz + 1 := by
    have e : df (Wb ||| 2 ^ r) (2 ^ r) = Wb := by
      apply Nat.eq_of_testBit_eq
      intro x
      rw [tb_del, tb_ins]
      by_cases ex : x = r
      · rw [ex, hrW]; simp
      · have : ¬ r = x := fun z => ex z.symm
        simp [ex, this]
    have := pc_del (a := Wb ||| 2 ^ r) (show r < 12 by omega) (by rw [tb_ins]; simp)
    rw [e] at this
    omega
  have h12 := pc_le (Wb ||| 2 ^ r)
  have hnq : ∀ x, Q.testBit x = true → ¬ x = q := fun x hx e => by rw [e, hq] at hx; cases hx
  refine ⟨by omega, upd1 wq sz r, upd1 rk q (i - 1), fun j hj => upd1_ne (by omega), by omega, ?_, fun j hj => ?_, fun x hx => ?_, fun j hj0 hj => ?_, fun x hx => ?_, Wb ||| 2 ^ r, hlt, hpc, fun x => ?_⟩
  · rw [upd1_ne (by omega)]; exact h1
  · by_cases ej : j = sz
    · rw [ej, upd1_at]; exact ⟨e4, hr.1⟩
    · rw [upd1_ne ej, e3 j (by omega)]; exact h2 j (by omega)
  · rw [tb_ins, Bool.or_eq_true, decide_eq_true_eq] at hx
    rcases hx with hx | hx
    · obtain ⟨a1, a2, s, a3, j, a4, a5⟩ := h3 x hx
      exact ⟨a1, a2, s, a3, j, by omega, by rw [upd1_ne (by omega)]; exact a5⟩
    · rw [← hx]
      exact ⟨hr.2.1, hqB, r, hm, sz, by omega, upd1_at _ _ _⟩
  · by_cases ej : j = sz
    · rw [ej, upd1_at]
      exact ⟨q, by rw [tb_ins]; simp, hm, by rw [upd1_at]; omega⟩
    · rw [upd1_ne ej]
      obtain ⟨y, y1, y2, y3⟩ := h4 j hj0 (by omega)
      exact ⟨y, by rw [tb_ins, y1]; rfl, y2, by rw [upd1_ne (hnq y y1)]; exact y3⟩
  · rw [tb_ins, Bool.or_eq_true, decide_eq_true_eq] at hx
    by_cases ex : x = q
    · rw [ex, upd1_at, upd1_ne (by omega)]
      exact ⟨by omega, by omega, e2, hadj⟩
    · have hx' : Q.testBit x = true := hx.resolve_right (fun z => ex z.symm)
      obtain ⟨a1, a2, a3, a4⟩ := h5 x hx'
      rw [upd1_ne ex, upd1_ne (by omega), e1 x ex]
      exact ⟨a1, by omega, a3, a4⟩
  · rw [tb_ins, Bool.or_eq_true, decide_eq_true_eq, w3]
    constructor
    · rintro (⟨j, j1, j2⟩ | z)
      · exact ⟨j, by omega, by rw [upd1_ne (by omega)]; exact j2⟩
      · exact ⟨sz, by omega, by rw [upd1_at]; exact z⟩
    · rintro ⟨j, j1, j2⟩
      by_cases ej : j = sz
      · rw [ej, upd1_at] at j2; exact Or.inr j2
      · rw [upd1_ne ej] at j2; exact Or.inl ⟨j, by omega, j2⟩

