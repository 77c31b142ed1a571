/-- of those of P, those that have v -/
def hsF (P : Nat) (H : Nat → Nat) (v : Nat) (p : Nat) (a : Nat) : Nat := a ||| (if P.testBit p = true ∧ H p = v then 2 ^ p else 0)
def hset (n P : Nat) (H : Nat → Nat) (v : Nat) : Nat := lp (hsF P H v) n 0
theorem hset_tb (P : Nat) (H : Nat → Nat) (v q : Nat) : ∀ n, (hset n P H v).testBit q = (decide (q < n) && (P.testBit q && decide (H q = v))) := by
  intro n
  unfold hset
  induction n with
  | zero => simp [lp]
  | succ k ih =>
    simp only [lp, hsF, Nat.testBit_or, ih]
    by_cases e : q = k
    · subst e
      by_cases h : P.testBit q = true ∧ H q = v
      · rw [if_pos h, tb_pow]; simp [h]
      · rw [if_neg h]
        simp only [Nat.zero_testBit, Nat.lt_irrefl, decide_false, Bool.false_and, Bool.or_false, Nat.lt_succ_self, decide_true, Bool.true_and]
        cases hp : P.testBit q <;> simp
        intro q2; exact h ⟨hp, q2⟩
    · have : (if P.testBit k = true ∧ H k = v then 2 ^ k else 0).testBit q = false := by
        split
        · rw [tb_pow]; simp; exact fun z => e z.symm
        · simp
      rw [this, Bool.or_false]
      congr 1
      exact decide_eq_decide.mpr (by omega)
theorem hset_lt {n P : Nat} {H : Nat → Nat} {v : Nat} : hset n P H v < 2 ^ n := by
  apply Nat.lt_pow_two_of_testBit
  intro i hi
  rw [hset_tb]
  simp [show ¬ i < n by omega]
theorem hset_t {n P : Nat} {H : Nat → Nat} {v q : Nat} : (hset n P H v).testBit q = true ↔ q < n ∧ P.testBit q = true ∧ H q = v := by rw [hset_tb]; simp
theorem hset_congr {n P : Nat} {H H' : Nat → Nat} {v : Nat} (h : ∀ q, q < n → P.testBit q = true → H' q = H q) : hset n P H v = hset n P H' v := by
  apply Nat.eq_of_testBit_eq
  intro q
  cases e : (hset n P H' v).testBit q with
  | true => obtain ⟨a, b, c⟩ := hset_t.mp e; exact hset_t.mpr ⟨a, b, by rw [← h q a b]; exact c⟩
  | false =>
    cases e' : (hset n P H v).testBit q with
    | false => rfl
    | true => obtain ⟨a, b, c⟩ := hset_t.mp e'; rw [hset_t.mpr ⟨a, b, by rw [h q a b]; exact c⟩] at e; cases e
noncomputable def hvf (n : Nat) (gr : Nat → Nat) (P : Nat) : Nat → Nat := @dite _ (∃ H, HV n gr P H) (Classical.propDecidable _) (fun h => Classical.choose h) (fun _ _ => 0)
noncomputable def hz (n : Nat) (gr : Nat → Nat) (P v : Nat) : Nat := hset n P (hvf n gr P) v
theorem hvf_HV {n : Nat} {gr : Nat → Nat} {P : Nat} {H : Nat → Nat} (h : HV n gr P H) : HV n gr P (hvf n gr P) := by
  have he : ∃ H, HV n gr P H := ⟨H, h⟩
  have : hvf n gr P = Classical.choose he := by unfold hvf; rw [dif_pos he]
  rw [this]
  exact Classical.choose_spec he
theorem HV_uniq {n : Nat} {gr : Nat → Nat} {P : Nat} {H H' : Nat → Nat} (h : HV n gr P H) (h' : HV n gr P H') : ∀ q, q < n → P.testBit q = true → H' q = H q := fun q hq hP => LF_uniq n 0 _ _ _ (fun x hx => absurd hx (Nat.not_lt_zero _)) h h' q (by omega) hP
theorem hz_eq {n : Nat} {gr : Nat → Nat} {P : Nat} {H : Nat → Nat} (h : HV n gr P H) (v : Nat) : hset n P H v = hz n gr P v := hset_congr (HV_uniq h (hvf_HV h))
theorem hvf_eq {n : Nat} {gr : Nat → Nat} {P : Nat} {H : Nat → Nat} (h : HV n gr P H) {q : Nat} (hq : q < n) (hP : P.testBit q = true) : H q = hvf n gr P q := (HV_uniq h (hvf_HV h) q hq hP).symm
/-- the least below n -/
def lb (P : Nat → Bool) : Nat → Option Nat
  | 0 => none
  | n + 1 => match lb P n with
    | some x => some x
    | none => if P n then some n else none
theorem lb_spec (P : Nat → Bool) : ∀ n, (lb P n = none → ∀ q, q < n → P q = false) ∧ ∀ x, lb P n = some x → x < n ∧ P x = true ∧ ∀ q, q < x → P q = false := by
  intro n
  induction n with
  | zero => exact ⟨fun _ q hq => absurd hq (Nat.not_lt_zero _), fun x h => (by cases h)⟩
  | succ n ih =>
    cases e : lb P n with
    | some y =>
      obtain ⟨a, b, c⟩ := ih.2 y e
      simp only [lb, e]
      exact ⟨fun h => (by cases h), fun x h => (by cases h; exact ⟨by omega, b, c⟩)⟩
    | none =>
      have h0 := ih.1 e
      simp only [lb, e]
      cases hp : P n with
      | true =>
        simp only [if_true]
        exact ⟨fun h => (by cases h), fun x h => (by cases h; exact ⟨by omega, hp, h0⟩)⟩
      | false =>
        simp only [Bool.false_eq_true, if_false]
        refine ⟨fun _ q hq => ?_, fun x h => (by cases h)⟩
        by_cases e : q = n
        · rw [e]; exact hp
        · exact h0 q (by omega)
theorem lb_some {P : Nat → Bool} {n x : Nat} (h1 : x < n) (h2 : P x = true) (h3 : ∀ q, q < x → P q = false) : lb P n = some x := by
  cases e : lb P n with
  | none => rw [(lb_spec P n).1 e x h1] at h2; cases h2
  | some y =>
    obtain ⟨a, b, c⟩ := (lb_spec P n).2 y e
    rcases Nat.lt_trichotomy x y with h | h | h
    · rw [c x h] at h2; cases h2
    · rw [h]
    · rw [h3 y h] at b; cases b
theorem lb_none {P : Nat → Bool} {n : Nat} (h : ∀ q, q < n → P q = false) : lb P n = none := by
  cases e : lb P n with
  | none => rfl
  | some y => obtain ⟨a, b, c⟩ := (lb_spec P n).2 y e; rw [h y a] at b; cases b
theorem lb_more {P : Nat → Bool} {n : Nat} (M : Nat) (h : ∀ q, n ≤ q → P q = false) : lb P (n + M) = lb P n := by
  induction M with
  | zero => rfl
  | succ k ih =>
    rw [← Nat.add_assoc]
    simp only [lb]
    rw [ih, h (n + k) (by omega)]
    cases lb P n <;> rfl
/-- one round of the kernel's rules: the rule, what goes, what is taken -/
def dg (gr : Nat → Nat) (P p : Nat) : Nat := pc (gr p &&& P)
noncomputable def ks (n : Nat) (gr : Nat → Nat) (P : Nat) (k : Int) : Option (Nat × Nat × Nat) :=
  match lb (fun p => P.testBit p && decide (dg gr P p = 0)) n with
  | some p => some (0, 2 ^ p, 0)
  | none => match lb (fun p => P.testBit p && decide (k < (dg gr P p : Int))) n with
    | some p => some (1, 2 ^ p, 2 ^ p)
    | none => match lb (fun p => P.testBit p && decide (dg gr P p = 1)) n with
      | some p => some (2, 2 ^ p ||| (gr p &&& P), gr p &&& P)
      | none => if hz n gr P 0 = 0 then none else some (3, hz n gr P 0 ||| hz n gr P 2, hz n gr P 2)
noncomputable def kit (n : Nat) (gr : Nat → Nat) (k0 : Int) : Nat → Nat × Nat × Int
  | 0 => (2 ^ n - 1, 0, k0)
  | i + 1 => match ks n gr (kit n gr k0 i).1 (kit n gr k0 i).2.2 with
    | some r => (df (kit n gr k0 i).1 r.2.1, (kit n gr k0 i).2.1 ||| r.2.2, (kit n gr k0 i).2.2 - (pc r.2.2 : Int))
    | none => kit n gr k0 i
noncomputable def kgo (n : Nat) (gr : Nat → Nat) (k0 : Int) (i : Nat) : Bool := decide (0 ≤ (kit n gr k0 i).2.2) && (ks n gr (kit n gr k0 i).1 (kit n gr k0 i).2.2).isSome
theorem ks_ok {n : Nat} {gr : Nat → Nat} {P : Nat} {k : Int} {r : Nat × Nat × Nat} (hg : ∀ p, p < n → gr p < 2 ^ n) (hP : P < 2 ^ n) (h : ks n gr P k = some r) : r.2.1 < 2 ^ n ∧ r.2.2 < 2 ^ n ∧ r.1 ≤ 3 ∧ (∃ p, p < n ∧ P.testBit p = true ∧ r.2.1.testBit p = true) := by
  unfold ks at h
  have hpow : ∀ p, p < n → 2 ^ p < 2 ^ n := fun p hp => Nat.pow_lt_pow_right (by omega) hp
  cases e1 : lb (fun p => P.testBit p && decide (dg gr P p = 0)) n with
  | some p =>
    rw [e1] at h
    obtain ⟨a, b, -⟩ := (lb_spec _ n).2 p e1
    simp only [Bool.and_eq_true] at b
    cases h
    exact ⟨hpow p a, Nat.two_pow_pos n, by simp, p, a, b.1, by rw [tb_pow]; simp⟩
  | none =>
    rw [e1] at h
    simp only at h
    cases e2 : lb (fun p => P.testBit p && decide (k < (dg gr P p : Int))) n with
    | some p =>
      rw [e2] at h
      obtain ⟨a, b, -⟩ := (lb_spec _ n).2 p e2
      simp only [Bool.and_eq_true] at b
      cases h
      exact ⟨hpow p a, hpow p a, by simp, p, a, b.1, by rw [tb_pow]; simp⟩
    | none =>
      rw [e2] at h
      simp only at h
      cases e3 : lb (fun p => P.testBit p && decide (dg gr P p = 1)) n with
      | some p =>
        rw [e3] at h
        obtain ⟨a, b, -⟩ := (lb_spec _ n).2 p e3
        simp only [Bool.and_eq_true] at b
        cases h
        have hx : gr p &&& P < 2 ^ n := Nat.lt_of_le_of_lt Nat.and_le_right hP
        exact ⟨Nat.or_lt_two_pow (hpow p a) hx, hx, by simp, p, a, b.1, by simp [Nat.testBit_or, tb_pow]⟩
      | none =>
        rw [e3] at h
        simp only at h
        split at h
        · cases h
        · rename_i h0
          cases h
          refine ⟨Nat.or_lt_two_pow hset_lt hset_lt, hset_lt, by simp, ?_⟩
          rcases Classical.em (∃ p, p < n ∧ P.testBit p = true ∧ (hz n gr P 0).testBit p = true) with ⟨p, a, b, c⟩ | hne
          · exact ⟨p, a, b, by simp [Nat.testBit_or, c]⟩
          · exfalso
            apply h0
            apply Nat.eq_of_testBit_eq
            intro i
            rw [Nat.zero_testBit]
            cases e : (hz n gr P 0).testBit i with
            | false => rfl
            | true => obtain ⟨a, b, c⟩ := hset_t.mp e; exact absurd ⟨i, a, b, e⟩ hne
theorem kit_lt {n : Nat} {gr : Nat → Nat} {k0 : Int} (hg : ∀ p, p < n → gr p < 2 ^ n) : ∀ i, (kit n gr k0 i).1 < 2 ^ n ∧ (kit n gr k0 i).2.1 < 2 ^ n := by
  intro i
  induction i with
  | zero => exact ⟨by have := Nat.two_pow_pos n; simp only [kit]; omega, Nat.two_pow_pos n⟩
  | succ i ih =>
    simp only [kit]
    cases e : ks n gr (kit n gr k0 i).1 (kit n gr k0 i).2.2 with
    | none => exact ih
    | some r =>
      obtain ⟨a, b, -, -⟩ := ks_ok hg ih.1 e
      exact ⟨Nat.lt_of_le_of_lt (df_le _ _) ih.1, Nat.or_lt_two_pow ih.2 b⟩
/-- each round takes a point away -/
theorem pc_dfs {a b p : Nat} (hp : p < 12) (h1 : a.testBit p = true) (h2 : b.testBit p = true) : pc (df a b) < pc a := by
  have h : pc (df a b) ≤ pc (df a (2 ^ p)) := by
    rw [pc_cn, pc_cn]
    exact cn_mono (fun k _ hk => by
      rw [tb_df] at hk
      rw [tb_df, tb_pow]
      simp only [Bool.and_eq_true, Bool.not_eq_true'] at hk ⊢
      refine ⟨hk.1, ?_⟩
      simp only [decide_eq_false_iff_not]
      intro e
      rw [← e, h2] at hk
      cases hk.2)
  have : pc a = pc (df a (2 ^ p)) + 1 := by
    rw [pc_cn, pc_cn, cn_rem hp h1]
    congr 1
    apply cn_congr
    intro k _
    rw [tb_df, tb_pow]
    congr 2
    exact decide_eq_decide.mpr ⟨Eq.symm, Eq.symm⟩
  omega
theorem kit_pc {n : Nat} {gr : Nat → Nat} {k0 : Int} (hn : n ≤ 12) (hg : ∀ p, p < n → gr p < 2 ^ n) : ∀ i, (∀ j, j < i → kgo n gr k0 j = true) → pc (kit n gr k0 i).1 + i ≤ 12 := by
  intro i
  induction i with
  | zero => intro _; have := pc_le (kit n gr k0 0).1; omega
  | succ i ih =>
    intro h
    have h1 := ih (fun j hj => h j (by omega))
    have h2 := h i (by omega)
    unfold kgo at h2
    simp only [Bool.and_eq_true] at h2
    obtain ⟨r, hr⟩ := Option.isSome_iff_exists.mp h2.2
    obtain ⟨-, -, -, p, hp, a, b⟩ := ks_ok hg (kit_lt hg i).1 hr
    have := pc_dfs (show p < 12 by omega) a b
    have e : (kit n gr k0 (i + 1)).1 = df (kit n gr k0 i).1 r.2.1 := by simp only [kit, hr]
    rw [e]
    omega
theorem kit_k {n : Nat} {gr : Nat → Nat} {k0 : Int} : ∀ i : Nat, k0 - 12 * (i : Int) ≤ (kit n gr k0 i).2.2 ∧ (kit n gr k0 i).2.2 ≤ k0 := by
  intro i
  induction i with
  | zero => simp only [kit]; omega
  | succ i ih =>
    simp only [kit]
    cases e : ks n gr (kit n gr k0 i).1 (kit n gr k0 i).2.2 with
    | none => simp only; omega
    | some r => have := pc_le r.2.2; simp only; omega
/-- the busiest of a part -/
def bzF (gr : Nat → Nat) (P : Nat) (p : Nat) (a : Option Nat) : Option Nat := if P.testBit p = true ∧ (match a with | none => 0 | some q => dg gr P q) < dg gr P p then some p else a
def bz (n : Nat) (gr : Nat → Nat) (P : Nat) : Option Nat := lp (bzF gr P) n none
theorem bz_lt (gr : Nat → Nat) (P : Nat) : ∀ k x, lp (bzF gr P) k none = some x → x < k ∧ P.testBit x = true ∧ 0 < dg gr P x := by
  intro k
  induction k with
  | zero => intro x h; cases h
  | succ k ih =>
    intro x h
    rw [lp_s] at h
    unfold bzF at h
    by_cases hc : P.testBit k = true ∧ (match lp (bzF gr P) k none with | none => 0 | some q => dg gr P q) < dg gr P k
    · have h' := (if_pos hc).symm.trans h
      cases h'
      exact ⟨by omega, hc.1, Nat.lt_of_le_of_lt (Nat.zero_le _) hc.2⟩
    · have h' := (if_neg hc).symm.trans h
      obtain ⟨a, b, c⟩ := ih x h'
      exact ⟨by omega, b, c⟩
/-- the search: its nodes in order, what it finds -/
abbrev ND : Type := Option Nat × Nat × Nat × Int × Nat × Bool
noncomputable def sr (n : Nat) (gr : Nat → Nat) : Nat → Nat → Nat → Int → Nat → List ND × Option Nat
  | 0, _, _, _, _ => ([], none)
  | f + 1, P, ta, k, dp =>
    if 2 * k < (tau gr P P : Int) then ([(none, P, ta, k, dp, true)], none)
    else match bz n gr P with
      | none => ([(none, P, ta, k, dp, false)], some ta)
      | some p =>
        let t1 := if dp % 2 = 0 then 2 ^ p else gr p &&& P
        let t2 := if dp % 2 = 0 then gr p &&& P else 2 ^ p
        let r1 := sr n gr f (df P (t1 ||| 2 ^ p)) (ta ||| t1) (k - (pc t1 : Int)) (dp + 1)
        let r2 := sr n gr f (df P (t2 ||| 2 ^ p)) (ta ||| t2) (k - (pc t2 : Int)) (dp + 1)
        match r1.2 with
        | some x => ((some p, P, ta, k, dp, false) :: r1.1, some x)
        | none => ((some p, P, ta, k, dp, false) :: (r1.1 ++ r2.1), r2.2)
/-- numbers read as a refusal: whether right, and how far it is read -/
noncomputable def rd (n : Nat) (gr : Nat → Nat) (row : Nat → Int32) (size : Nat) : Nat → Nat → Int → Nat → Nat → Bool × Nat
  | 0, _, _, _, at0 => (false, at0)
  | f + 1, P, k, dp, at0 =>
    if size ≤ at0 then (false, at0)
    else if row at0 = -1 then (if (tau gr P P : Int) ≤ 2 * k then (false, at0) else (true, at0 + 1))
    else match lb (fun v => decide (row at0 = nI v)) n with
      | none => (false, at0)
      | some v => if P.testBit v = false ∨ gr v &&& P = 0 then (false, at0) else
        let t1 := if dp % 2 = 0 then 2 ^ v else gr v &&& P
        let t2 := if dp % 2 = 0 then gr v &&& P else 2 ^ v
        let r1 := rd n gr row size f (df P (t1 ||| 2 ^ v)) (k - (pc t1 : Int)) (dp + 1) (at0 + 1)
        if r1.1 = true then rd n gr row size f (df P (t2 ||| 2 ^ v)) (k - (pc t2 : Int)) (dp + 1) r1.2 else r1
/-- ints -/
def iI (z : Int) : Int32 := Int32.ofInt z
theorem iI_toInt {z : Int} (h1 : -2147483648 ≤ z) (h2 : z < 2147483648) : (iI z).toInt = z := Int32.toInt_ofInt_of_le (by simpa using h1) (by simpa using h2)
theorem iI_nat (a : Nat) : iI (a : Int) = nI a := by
  unfold iI nI
  exact Int32.ofInt_eq_ofNat
theorem iI_eq {x : Int32} {z : Int} (h : x.toInt = z) : x = iI z := by
  apply i32_of_toInt
  have := Int32.toInt_lt x
  have := Int32.le_toInt x
  rw [iI_toInt (by simp at *; omega) (by simp at *; omega), h]
theorem iI_sub (a b : Int) : iI a - iI b = iI (a - b) := by
  unfold iI
  rw [Int32.ofInt_sub]
theorem iI_add (a b : Int) : iI a + iI b = iI (a + b) := by
  unfold iI
  rw [Int32.ofInt_add]
theorem iI_subN (a : Int) (b : Nat) : iI a - nI b = iI (a - (b : Int)) := by rw [← iI_nat, iI_sub]
theorem iI_inj {a b : Int} (h1 : -2147483648 ≤ a) (h2 : a < 2147483648) (h3 : -2147483648 ≤ b) (h4 : b < 2147483648) (h : iI a = iI b) : a = b := by
  have := congrArg Int32.toInt h
  rwa [iI_toInt h1 h2, iI_toInt h3 h4] at this

