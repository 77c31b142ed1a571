/-- what those of P from p on (below p + k) have together -/
def sm (P : Nat) (y : Nat → Nat) : Nat → Nat → Nat
  | 0, _ => 0
  | k + 1, p => (if P.testBit p then y p else 0) + sm P y k (p + 1)
theorem sm_congr {P : Nat} {y y' : Nat → Nat} : ∀ (k p : Nat), (∀ q, p ≤ q → q < p + k → P.testBit q = true → y q = y' q) → sm P y k p = sm P y' k p := by
  intro k
  induction k with
  | zero => intro p _; rfl
  | succ k ih =>
    intro p h
    simp only [sm]
    rw [ih (p + 1) (fun q h1 h2 => h q (by omega) (by omega))]
    by_cases hp : P.testBit p = true
    · rw [if_pos hp, if_pos hp, h p (by omega) (by omega) hp]
    · rw [if_neg hp, if_neg hp]
/-- a graph as it should be: below n, no loops, both ways -/
def WG (n : Nat) (gr : Nat → Nat) : Prop := (∀ p, p < n → gr p < 2 ^ n) ∧ (∀ p, p < n → (gr p).testBit p = false) ∧ ∀ p q, p < n → q < n → (gr p).testBit q = (gr q).testBit p
def upd1 (h : Nat → Nat) (p v : Nat) : Nat → Nat := fun q => if q = p then v else h q
theorem upd1_at (h : Nat → Nat) (p v : Nat) : upd1 h p v p = v := by simp [upd1]
theorem upd1_ne {h : Nat → Nat} {p v q : Nat} (e : ¬ q = p) : upd1 h p v q = h q := by simp [upd1, e]
/-- h, given up to p, goes on to the end with so much; one may be forced -/
def Sol (n : Nat) (gr : Nat → Nat) (P p : Nat) (h : Nat → Nat) (left : Nat) (f : Option Nat) (t : Nat) (y : Nat → Nat) : Prop :=
  (∀ q, q < p → y q = h q) ∧ (∀ q, p ≤ q → q < n → P.testBit q = true → y q ≤ 2 ∧ (f = some q → y q = t)) ∧ (∀ u v, u < v → p ≤ v → v < n → P.testBit u = true → P.testBit v = true → (gr v).testBit u = true → 2 ≤ y u + y v) ∧ sm P y (n - p) p ≤ left
def Ex (n : Nat) (gr : Nat → Nat) (P p : Nat) (h : Nat → Nat) (left : Nat) (f : Option Nat) (t : Nat) : Prop := ∃ y, Sol n gr P p h left f t y
/-- p may have v beside those ahead of it -/
def cpt (gr : Nat → Nat) (P p : Nat) (h : Nat → Nat) (v : Nat) : Prop := ∀ u, u < p → P.testBit u = true → (gr p).testBit u = true → 2 ≤ h u + v
def OKv (n : Nat) (gr : Nat → Nat) (P p : Nat) (h : Nat → Nat) (left : Nat) (f : Option Nat) (t v : Nat) : Prop := v ≤ 2 ∧ (f = some p → v = t) ∧ v ≤ left ∧ cpt gr P p h v ∧ Ex n gr P (p + 1) (upd1 h p v) (left - v) f t
theorem Ex_end (n : Nat) (gr : Nat → Nat) (P : Nat) (h : Nat → Nat) (left : Nat) (f : Option Nat) (t : Nat) : Ex n gr P n h left f t := ⟨h, fun _ _ => rfl, fun q h1 h2 => by omega, fun u v _ h1 h2 => by omega, by rw [Nat.sub_self]; exact Nat.zero_le _⟩
theorem Ex_step {n : Nat} {gr : Nat → Nat} {P p : Nat} {h : Nat → Nat} {left : Nat} {f : Option Nat} {t : Nat} (hp : p < n) (hP : P.testBit p = true) : Ex n gr P p h left f t ↔ ∃ v, OKv n gr P p h left f t v := by
  have hs : n - p = (n - (p + 1)) + 1 := by omega
  constructor
  · rintro ⟨y, h1, h2, h3, h4⟩
    rw [hs] at h4
    simp only [sm, hP, if_true] at h4
    refine ⟨y p, (h2 p (Nat.le_refl _) hp hP).1, (h2 p (Nat.le_refl _) hp hP).2, by omega, fun u hu hPu ha => ?_, y, fun q hq => ?_, fun q hq => h2 q (by omega), fun u v huv hv => h3 u v huv (by omega), by omega⟩
    · have := h3 u p hu (Nat.le_refl _) hp hPu hP ha
      rw [h1 u hu] at this
      exact this
    · by_cases e : q = p
      · subst e; rw [upd1_at]
      · rw [upd1_ne e]; exact h1 q (by omega)
  · rintro ⟨v, hv, hf, hl, hc, y, h1, h2, h3, h4⟩
    have hyp : y p = v := by rw [h1 p (by omega), upd1_at]
    refine ⟨y, fun q hq => by rw [h1 q (by omega), upd1_ne (by omega)], fun q hq hqn hPq => ?_, fun u w huw hw hwn hPu hPw ha => ?_, ?_⟩
    · by_cases e : q = p
      · subst e; rw [hyp]; exact ⟨hv, hf⟩
      · exact h2 q (by omega) hqn hPq
    · by_cases e : w = p
      · subst e
        rw [hyp, h1 u (by omega), upd1_ne (by omega)]
        exact hc u huw hPu ha
      · exact h3 u w huw (by omega) hwn hPu hPw ha
    · rw [hs]
      simp only [sm, hP, if_true, hyp]
      omega
theorem Ex_skip {n : Nat} {gr : Nat → Nat} {P p : Nat} {h h' : Nat → Nat} {left : Nat} {f : Option Nat} {t : Nat} (hp : p < n) (hP : P.testBit p = false) (hh : ∀ q, q < p → h' q = h q) : Ex n gr P p h left f t ↔ Ex n gr P (p + 1) h' left f t := by
  have hs : n - p = (n - (p + 1)) + 1 := by omega
  have hPne : ∀ q, P.testBit q = true → ¬ q = p := fun q hq e => by rw [e, hP] at hq; cases hq
  constructor
  · rintro ⟨y, h1, h2, h3, h4⟩
    rw [hs] at h4
    simp only [sm, hP, Bool.false_eq_true, if_false, Nat.zero_add] at h4
    refine ⟨upd1 y p (h' p), fun q hq => ?_, fun q hq hqn hPq => ?_, fun u v huv hv hvn hPu hPv ha => ?_, ?_⟩
    · by_cases e : q = p
      · subst e; rw [upd1_at]
      · rw [upd1_ne e, h1 q (by omega), hh q (by omega)]
    · rw [upd1_ne (hPne q hPq)]; exact h2 q (by omega) hqn hPq
    · rw [upd1_ne (hPne u hPu), upd1_ne (hPne v hPv)]; exact h3 u v huv (by omega) hvn hPu hPv ha
    · rw [sm_congr (y' := y) _ _ (fun q _ _ hq => upd1_ne (hPne q hq))]
      exact h4
  · rintro ⟨y, h1, h2, h3, h4⟩
    refine ⟨y, fun q hq => by rw [h1 q (by omega), hh q hq], fun q hq hqn hPq => h2 q (by have := hPne q hPq; omega) hqn hPq, fun u v huv hv hvn hPu hPv ha => h3 u v huv (by have := hPne v hPv; omega) hvn hPu hPv ha, ?_⟩
    rw [hs]
    simp only [sm, hP, Bool.false_eq_true, if_false, Nat.zero_add]
    exact h4
/-- halves against covers of the two sides -/
theorem sm_cn (P : Nat) (y : Nat → Nat) : ∀ (k p : Nat), (∀ q, p ≤ q → q < p + k → P.testBit q = true → y q ≤ 2) → sm P y k p = cn k (fun i => P.testBit (p + i) && decide (1 ≤ y (p + i))) + cn k (fun i => P.testBit (p + i) && decide (2 ≤ y (p + i))) := by
  intro k
  induction k with
  | zero => intro p _; rfl
  | succ k ih =>
    intro p h
    have hshift : ∀ F : Nat → Bool, cn (k + 1) F = (F 0).toNat + cn k (fun i => F (i + 1)) := by
      intro F
      clear ih h
      induction k with
      | zero => simp [cn_s, cn_0]
      | succ k ih => rw [cn_s, ih, cn_s]; omega
    simp only [sm]
    rw [ih (p + 1) (fun q h1 h2 => h q (by omega) (by omega)), hshift, hshift]
    have e : ∀ i, p + 1 + i = p + (i + 1) := fun i => by omega
    simp only [e, Nat.add_zero]
    by_cases hp : P.testBit p = true
    · have := h p (by omega) (by omega) hp
      rcases (show y p = 0 ∨ y p = 1 ∨ y p = 2 by omega) with q | q | q <;> simp [hp, q] <;> omega
    · simp [hp]
theorem cn_from {N p k : Nat} {F : Nat → Bool} (h : p + k ≤ N) (hF : ∀ q, q < p → F q = false) (hF2 : ∀ q, p + k ≤ q → F q = false) : cn N F = cn k (fun i => F (p + i)) := by
  have h1 : cn N F = cn (p + k) F := by
    obtain ⟨M, rfl⟩ : ∃ M, N = p + k + M := ⟨N - (p + k), by omega⟩
    exact cn_more M hF2
  rw [h1]
  clear h1 h hF2
  induction k with
  | zero => rw [Nat.add_zero, cn_0]; exact cn_all0 hF
  | succ k ih => rw [← Nat.add_assoc, cn_s, ih, cn_s]
theorem tau_le_sm {n : Nat} {gr : Nat → Nat} {P Q p : Nat} {y : Nat → Nat} (hn : n ≤ 12) (hpn : p ≤ n) (hW : WG n gr) (hQ : ∀ q, Q.testBit q = true ↔ p ≤ q ∧ q < n ∧ P.testBit q = true) (h2 : ∀ q, p ≤ q → q < n → P.testBit q = true → y q ≤ 2) (h3 : ∀ u v, u < v → p ≤ u → v < n → P.testBit u = true → P.testBit v = true → (gr v).testBit u = true → 2 ≤ y u + y v) : tau gr Q Q ≤ sm P y (n - p) p := by
  have hc : CV gr Q Q (fun i => Q.testBit i && decide (1 ≤ y i)) (fun i => Q.testBit i && decide (2 ≤ y i)) := by
    intro r q hr hq ha
    obtain ⟨r1, r2, r3⟩ := (hQ r).mp hr
    obtain ⟨q1, q2, q3⟩ := (hQ q).mp hq
    have hyr := h2 r r1 r2 r3
    have hyq := h2 q q1 q2 q3
    have hsum : 2 ≤ y r + y q := by
      rcases Nat.lt_trichotomy r q with h | h | h
      · exact h3 r q h r1 q2 r3 q3 (by rw [hW.2.2 q r q2 r2]; exact ha)
      · subst h; rw [hW.2.1 r r2] at ha; cases ha
      · rw [Nat.add_comm]; exact h3 q r h q1 r2 q3 r3 ha
    by_cases e : 1 ≤ y r
    · left; simp [hr, e]
    · right; simp [hq, show 2 ≤ y q by omega]
  have := (tau_spec gr Q Q).2 _ _ hc
  rw [sm_cn P y (n - p) p (fun q h1 h2' => h2 q h1 (by omega))]
  have hz : ∀ (F : Nat → Bool), cn 12 (fun i => Q.testBit i && F i) = cn (n - p) (fun i => P.testBit (p + i) && F (p + i)) := by
    intro F
    rw [cn_from (p := p) (k := n - p) (F := fun i => Q.testBit i && F i) (by omega) (fun q hq => by
      have : Q.testBit q = false := by
        cases e : Q.testBit q with
        | false => rfl
        | true => have := (hQ q).mp e; omega
      simp [this]) (fun q hq => by
      have : Q.testBit q = false := by
        cases e : Q.testBit q with
        | false => rfl
        | true => have := (hQ q).mp e; omega
      simp [this])]
    apply cn_congr
    intro i hi
    have : Q.testBit (p + i) = P.testBit (p + i) := by
      cases e : P.testBit (p + i) with
      | true => exact (hQ _).mpr ⟨by omega, by omega, e⟩
      | false =>
        cases e' : Q.testBit (p + i) with
        | false => rfl
        | true => rw [((hQ _).mp e').2.2] at e; cases e
    rw [this]
  rw [← hz (fun i => decide (1 ≤ y i)), ← hz (fun i => decide (2 ≤ y i))]
  exact this
theorem Ex_tau {n : Nat} {gr : Nat → Nat} {P Q p : Nat} {h : Nat → Nat} {left : Nat} {f : Option Nat} {t : Nat} (hn : n ≤ 12) (hpn : p ≤ n) (hW : WG n gr) (hQ : ∀ q, Q.testBit q = true ↔ p ≤ q ∧ q < n ∧ P.testBit q = true) (he : Ex n gr P p h left f t) : tau gr Q Q ≤ left := by
  obtain ⟨y, h1, h2, h3, h4⟩ := he
  exact Nat.le_trans (tau_le_sm hn hpn hW hQ (fun q a b c => (h2 q a b c).1) (fun u v a b c => h3 u v a (by omega) c)) h4
theorem Ex_0 {n : Nat} {gr : Nat → Nat} {P : Nat} (h : Nat → Nat) (hn : n ≤ 12) (hP : P < 2 ^ n) (hW : WG n gr) (t : Nat) : Ex n gr P 0 h (tau gr P P) none t := by
  obtain ⟨⟨X, Y, hc, he⟩, hmin⟩ := tau_spec gr P P
  refine ⟨fun i => (X i).toNat + (Y i).toNat, fun q hq => absurd hq (Nat.not_lt_zero _), fun q _ _ _ => ⟨by have := b1 (X q); have := b1 (Y q); show (X q).toNat + (Y q).toNat ≤ 2; omega, fun e => by cases e⟩, fun u v huv _ hv hu1 hv1 ha => ?_, ?_⟩
  · have h1 := hc v u hv1 hu1 ha
    have h2 := hc u v hu1 hv1 (by rw [hW.2.2 u v (by omega) hv]; exact ha)
    show 2 ≤ (X u).toNat + (Y u).toNat + ((X v).toNat + (Y v).toNat)
    have hu := b1 (Y u)
    rcases h1 with a | a <;> rcases h2 with b | b <;> simp only [a, b, Bool.toNat_true] <;> omega
  · rw [sm_cn P _ (n - 0) 0 (fun q _ _ _ => by have := b1 (X q); have := b1 (Y q); omega)]
    simp only [Nat.sub_zero, Nat.zero_add]
    have h1 : cn n (fun i => P.testBit i && decide (1 ≤ (X i).toNat + (Y i).toNat)) + cn n (fun i => P.testBit i && decide (2 ≤ (X i).toNat + (Y i).toNat)) ≤ cn n X + cn n Y := by
      have : ∀ N, cn N (fun i => P.testBit i && decide (1 ≤ (X i).toNat + (Y i).toNat)) + cn N (fun i => P.testBit i && decide (2 ≤ (X i).toNat + (Y i).toNat)) ≤ cn N X + cn N Y := by
        intro N
        induction N with
        | zero => exact Nat.le_refl _
        | succ k ih =>
          simp only [cn_s]
          cases P.testBit k <;> cases X k <;> cases Y k <;> simp <;> omega
      exact this n
    have h2 : ∀ F : Nat → Bool, cn n F ≤ cn 12 F := by
      intro F
      obtain ⟨M, hM⟩ : ∃ M, 12 = n + M := ⟨12 - n, by omega⟩
      rw [hM]
      clear hM
      induction M with
      | zero => exact Nat.le_refl _
      | succ k ih => rw [← Nat.add_assoc, cn_s]; omega
    have h3 := h2 X
    have h4 := h2 Y
    omega
/-- the order in which values are tried: 0, 2, 1 -/
def od (v : Nat) : Nat := if v = 0 then 0 else 3 - v
/-- H goes on from h as the first way there is -/
def LF (n : Nat) (gr : Nat → Nat) (P : Nat) (f : Option Nat) (t : Nat) : Nat → Nat → Nat → (Nat → Nat) → (Nat → Nat) → Prop
  | 0, p, _, h, H => ∀ q, q < p → H q = h q
  | k + 1, p, left, h, H => (P.testBit p = false → ∃ h', (∀ q, q < p → h' q = h q) ∧ LF n gr P f t k (p + 1) left h' H) ∧ (P.testBit p = true → ∃ v, OKv n gr P p h left f t v ∧ (∀ u, od u < od v → ¬ OKv n gr P p h left f t u) ∧ LF n gr P f t k (p + 1) (left - v) (upd1 h p v) H)
theorem LF_pre {n : Nat} {gr : Nat → Nat} {P : Nat} {f : Option Nat} {t : Nat} {H : Nat → Nat} : ∀ (k p left : Nat) (h : Nat → Nat), LF n gr P f t k p left h H → ∀ q, q < p → H q = h q := by
  intro k
  induction k with
  | zero => intro p left h hl; exact hl
  | succ k ih =>
    intro p left h hl q hq
    cases hp : P.testBit p with
    | false =>
      obtain ⟨h', h1, h2⟩ := hl.1 hp
      rw [ih (p + 1) left h' h2 q (by omega), h1 q hq]
    | true =>
      obtain ⟨v, -, -, h2⟩ := hl.2 hp
      rw [ih (p + 1) (left - v) _ h2 q (by omega), upd1_ne (by omega)]
theorem Ex_congr {n : Nat} {gr : Nat → Nat} {P p : Nat} {h h' : Nat → Nat} {left : Nat} {f : Option Nat} {t : Nat} (hh : ∀ q, q < p → P.testBit q = true → h' q = h q) (he : Ex n gr P p h left f t) : Ex n gr P p h' left f t := by
  obtain ⟨y, h1, h2, h3, h4⟩ := he
  refine ⟨fun q => if q < p then h' q else y q, fun q hq => by simp [hq], fun q hq hqn hPq => by simp only [show ¬ q < p by omega, if_false]; exact h2 q hq hqn hPq, fun u v huv hv hvn hPu hPv ha => ?_, ?_⟩
  · have := h3 u v huv hv hvn hPu hPv ha
    simp only [show ¬ v < p by omega, if_false]
    by_cases e : u < p
    · rw [if_pos e, hh u e hPu, ← h1 u e]; exact this
    · rw [if_neg e]; exact this
  · rw [sm_congr (y' := y) _ _ (fun q hq _ _ => by simp [show ¬ q < p by omega])]
    exact h4
theorem OKv_congr {n : Nat} {gr : Nat → Nat} {P p : Nat} {h h' : Nat → Nat} {left : Nat} {f : Option Nat} {t v : Nat} (hh : ∀ q, q < p → P.testBit q = true → h' q = h q) (he : OKv n gr P p h left f t v) : OKv n gr P p h' left f t v := by
  obtain ⟨h1, h2, h3, h4, h5⟩ := he
  refine ⟨h1, h2, h3, fun u hu hPu ha => by rw [hh u hu hPu]; exact h4 u hu hPu ha, Ex_congr (fun q hq hPq => ?_) h5⟩
  by_cases e : q = p
  · subst e; rw [upd1_at, upd1_at]
  · rw [upd1_ne e, upd1_ne e, hh q (by omega) hPq]
theorem od_inj {u v : Nat} (hu : u ≤ 2) (hv : v ≤ 2) (h : od u = od v) : u = v := by
  unfold od at h
  split at h <;> split at h <;> omega
theorem LF_uniq {n : Nat} {gr : Nat → Nat} {P : Nat} {f : Option Nat} {t : Nat} {H H' : Nat → Nat} : ∀ (k p left : Nat) (h h' : Nat → Nat), (∀ q, q < p → P.testBit q = true → h' q = h q) → LF n gr P f t k p left h H → LF n gr P f t k p left h' H' → ∀ q, q < p + k → P.testBit q = true → H' q = H q := by
  intro k
  induction k with
  | zero => intro p left h h' hh h1 h2 q hq hPq; rw [h1 q (by omega), h2 q (by omega), hh q (by omega) hPq]
  | succ k ih =>
    intro p left h h' hh h1 h2 q hq hPq
    cases hp : P.testBit p with
    | false =>
      obtain ⟨g1, a1, a2⟩ := h1.1 hp
      obtain ⟨g2, b1, b2⟩ := h2.1 hp
      refine ih (p + 1) left g1 g2 (fun x hx hPx => ?_) a2 b2 q (by omega) hPq
      have : ¬ x = p := fun e => by rw [e, hp] at hPx; cases hPx
      rw [a1 x (by omega), b1 x (by omega), hh x (by omega) hPx]
    | true =>
      obtain ⟨v, a1, a2, a3⟩ := h1.2 hp
      obtain ⟨v', b1, b2, b3⟩ := h2.2 hp
      have hh' : ∀ q, q < p → P.testBit q = true → h q = h' q := fun q hq hPq => (hh q hq hPq).symm
      have hv : v' = v := by
        rcases Nat.lt_trichotomy (od v) (od v') with e | e | e
        · exact absurd (OKv_congr hh a1) (b2 v e)
        · exact od_inj b1.1 a1.1 e.symm
        · exact absurd (OKv_congr hh' b1) (a2 v' e)
      subst hv
      refine ih (p + 1) (left - v') _ _ (fun x hx hPx => ?_) a3 b3 q (by omega) hPq
      by_cases e : x = p
      · subst e; rw [upd1_at, upd1_at]
      · rw [upd1_ne e, upd1_ne e, hh x (by omega) hPx]
/-- THE HALVES of a part -/
def HV (n : Nat) (gr : Nat → Nat) (P : Nat) (H : Nat → Nat) : Prop := LF n gr P none 0 n 0 (tau gr P P) (fun _ => 0) H

