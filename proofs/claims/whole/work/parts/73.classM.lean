
theorem or_comm3 (a b c : Nat) : a ||| b ||| c = a ||| c ||| b := by rw [Nat.or_assoc, Nat.or_comm b c, ← Nat.or_assoc]
theorem df_or2 (a b c e : Nat) : df (df a (b ||| c)) e = df (df a b) (e ||| c) := by
  apply Nat.eq_of_testBit_eq
  intro x
  rw [tb_df, tb_df, tb_df, tb_df, Nat.testBit_or, Nat.testBit_or]
  cases a.testBit x <;> cases b.testBit x <;> cases c.testBit x <;> cases e.testBit x <;> rfl
theorem and_pow0 {a p : Nat} : a &&& 2 ^ p = 0 ↔ a.testBit p = false := by
  rw [and_0]
  constructor
  · intro h
    cases q : a.testBit p with
    | false => rfl
    | true => have := h p q; rw [tb_pow] at this; simp at this
  · intro h x hx
    rw [tb_pow]
    by_cases e : p = x
    · rw [← e, h] at hx; cases hx
    · simp [e]
section STP
variable {n : Nat} {gr : Nat → Nat} {P p : Nat} {h : Nat → Nat} {Z O L R T : Nat}
theorem FS_skip (hp : P.testBit p = false) (hF : FS gr P (fun x => x < p) h Z O L R) : FS gr P (fun x => x < p + 1) h Z O L R := by
  have key : ∀ x, P.testBit x = true → (x < p ↔ x < p + 1) := fun x hx => by
    have : ¬ x = p := fun e => by rw [e, hp] at hx; cases hx
    omega
  obtain ⟨f1, f2, f3, f4⟩ := hF
  refine ⟨fun x => (f1 x).trans ⟨fun q => ⟨q.1, (key x q.1).mp q.2.1, q.2.2⟩, fun q => ⟨q.1, (key x q.1).mpr q.2.1, q.2.2⟩⟩, fun x => (f2 x).trans ⟨fun q => ⟨q.1, (key x q.1).mp q.2.1, q.2.2⟩, fun q => ⟨q.1, (key x q.1).mpr q.2.1, q.2.2⟩⟩, fun x => (f3 x).trans ⟨?_, ?_⟩, fun x => (f4 x).trans ⟨?_, ?_⟩⟩
  · rintro ⟨a, ⟨b1, b2⟩ | ⟨u, b1, b2, b3⟩⟩
    · exact ⟨a, Or.inl ⟨(key x a).mp b1, b2⟩⟩
    · exact ⟨a, Or.inr ⟨u, (key u b2).mp b1, b2, b3⟩⟩
  · rintro ⟨a, ⟨b1, b2⟩ | ⟨u, b1, b2, b3⟩⟩
    · exact ⟨a, Or.inl ⟨(key x a).mpr b1, b2⟩⟩
    · exact ⟨a, Or.inr ⟨u, (key u b2).mpr b1, b2, b3⟩⟩
  · rintro ⟨a, ⟨b1, b2⟩ | ⟨u, b1, b2, b3⟩⟩
    · exact ⟨a, Or.inl ⟨(key x a).mp b1, b2⟩⟩
    · exact ⟨a, Or.inr ⟨u, (key u b2).mp b1, b2, b3⟩⟩
  · rintro ⟨a, ⟨b1, b2⟩ | ⟨u, b1, b2, b3⟩⟩
    · exact ⟨a, Or.inl ⟨(key x a).mpr b1, b2⟩⟩
    · exact ⟨a, Or.inr ⟨u, (key u b2).mpr b1, b2, b3⟩⟩
/-- one step: the point p has v; which sets grow by p, which by those near p -/
theorem FS_add {v Z' O' L' R' : Nat} (hp : P.testBit p = true) (hF : FS gr P (fun x => x < p) h Z O L R) (hZ : ∀ x, Z'.testBit x = true ↔ Z.testBit x = true ∨ (x = p ∧ v = 0)) (hO : ∀ x, O'.testBit x = true ↔ O.testBit x = true ∨ (x = p ∧ v = 1)) (hL : ∀ x, L'.testBit x = true ↔ L.testBit x = true ∨ (x = p ∧ 1 ≤ v) ∨ (P.testBit x = true ∧ (gr p).testBit x = true ∧ v ≤ 1)) (hR : ∀ x, R'.testBit x = true ↔ R.testBit x = true ∨ (x = p ∧ v = 2) ∨ (P.testBit x = true ∧ (gr p).testBit x = true ∧ v = 0)) : FS gr P (fun x => x < p + 1) (upd1 h p v) Z' O' L' R' := by
  obtain ⟨f1, f2, f3, f4⟩ := hF
  have val : ∀ x, x < p → upd1 h p v x = h x := fun x hx => upd1_ne (by omega)
  have cs : ∀ x, x < p + 1 → x < p ∨ x = p := fun x hx => by omega
  refine ⟨fun x => ?_, fun x => ?_, fun x => ?_, fun x => ?_⟩
  · rw [hZ, f1]
    constructor
    · rintro (⟨a, b, c⟩ | ⟨rfl, e⟩)
      · exact ⟨a, by show x < p + 1; omega, by rw [val x b]; exact c⟩
      · exact ⟨hp, Nat.lt_succ_self _, by rw [upd1_at]; exact e⟩
    · rintro ⟨a, b, c⟩
      rcases cs x b with q | q
      · rw [val x q] at c; exact Or.inl ⟨a, q, c⟩
      · rw [q, upd1_at] at c; exact Or.inr ⟨q, c⟩
  · rw [hO, f2]
    constructor
    · rintro (⟨a, b, c⟩ | ⟨rfl, e⟩)
      · exact ⟨a, by show x < p + 1; omega, by rw [val x b]; exact c⟩
      · exact ⟨hp, Nat.lt_succ_self _, by rw [upd1_at]; exact e⟩
    · rintro ⟨a, b, c⟩
      rcases cs x b with q | q
      · rw [val x q] at c; exact Or.inl ⟨a, q, c⟩
      · rw [q, upd1_at] at c; exact Or.inr ⟨q, c⟩
  · rw [hL, f3]
    constructor
    · rintro (⟨a, ⟨b, c⟩ | ⟨u, b, c, e, g⟩⟩ | ⟨rfl, e⟩ | ⟨a, b, c⟩)
      · exact ⟨a, Or.inl ⟨by show x < p + 1; omega, by rw [val x b]; exact c⟩⟩
      · exact ⟨a, Or.inr ⟨u, by show u < p + 1; omega, c, by rw [val u b]; exact e, g⟩⟩
      · exact ⟨hp, Or.inl ⟨Nat.lt_succ_self _, by rw [upd1_at]; exact e⟩⟩
      · exact ⟨a, Or.inr ⟨p, Nat.lt_succ_self _, hp, by rw [upd1_at]; exact c, b⟩⟩
    · rintro ⟨a, ⟨b, c⟩ | ⟨u, b, c, e, g⟩⟩
      · rcases cs x b with q | q
        · rw [val x q] at c; exact Or.inl ⟨a, Or.inl ⟨q, c⟩⟩
        · rw [q, upd1_at] at c; exact Or.inr (Or.inl ⟨q, c⟩)
      · rcases cs u b with q | q
        · rw [val u q] at e; exact Or.inl ⟨a, Or.inr ⟨u, q, c, e, g⟩⟩
        · rw [q, upd1_at] at e; rw [q] at g; exact Or.inr (Or.inr ⟨a, g, e⟩)
  · rw [hR, f4]
    constructor
    · rintro (⟨a, ⟨b, c⟩ | ⟨u, b, c, e, g⟩⟩ | ⟨rfl, e⟩ | ⟨a, b, c⟩)
      · exact ⟨a, Or.inl ⟨by show x < p + 1; omega, by rw [val x b]; exact c⟩⟩
      · exact ⟨a, Or.inr ⟨u, by show u < p + 1; omega, c, by rw [val u b]; exact e, g⟩⟩
      · exact ⟨hp, Or.inl ⟨Nat.lt_succ_self _, by rw [upd1_at]; exact e⟩⟩
      · exact ⟨a, Or.inr ⟨p, Nat.lt_succ_self _, hp, by rw [upd1_at]; exact c, b⟩⟩
    · rintro ⟨a, ⟨b, c⟩ | ⟨u, b, c, e, g⟩⟩
      · rcases cs x b with q | q
        · rw [val x q] at c; exact Or.inl ⟨a, Or.inl ⟨q, c⟩⟩
        · rw [q, upd1_at] at c; exact Or.inr (Or.inl ⟨q, c⟩)
      · rcases cs u b with q | q
        · rw [val u q] at e; exact Or.inl ⟨a, Or.inr ⟨u, q, c, e, g⟩⟩
        · rw [q, upd1_at] at e; rw [q] at g; exact Or.inr (Or.inr ⟨a, g, e⟩)
theorem tb_near {x : Nat} : (gr p &&& P).testBit x = true ↔ P.testBit x = true ∧ (gr p).testBit x = true := by rw [Nat.testBit_and, Bool.and_eq_true]; exact And.comm
theorem tb_ins_t {S q x : Nat} : (S ||| 2 ^ q).testBit x = true ↔ S.testBit x = true ∨ x = q := by
  rw [tb_ins, Bool.or_eq_true, decide_eq_true_eq]
  exact ⟨fun h => h.imp id Eq.symm, fun h => h.imp id Eq.symm⟩
theorem tb_pow_t {q x : Nat} : (2 ^ q).testBit x = true ↔ x = q := by rw [tb_pow, decide_eq_true_eq]; exact eq_comm
theorem or_t {a b x : Nat} : (a ||| b).testBit x = true ↔ a.testBit x = true ∨ b.testBit x = true := by rw [Nat.testBit_or, Bool.or_eq_true]
theorem FS_0 (hp : P.testBit p = true) (hF : FS gr P (fun x => x < p) h Z O L R) : FS gr P (fun x => x < p + 1) (upd1 h p 0) (Z ||| 2 ^ p) O (L ||| (gr p &&& P)) (R ||| (gr p &&& P)) := FS_add hp hF (fun x => by rw [tb_ins_t]; simp) (fun x => by simp) (fun x => by rw [or_t, tb_near]; simp) (fun x => by rw [or_t, tb_near]; simp)
theorem FS_2 (hp : P.testBit p = true) (hF : FS gr P (fun x => x < p) h Z O L R) : FS gr P (fun x => x < p + 1) (upd1 h p 2) Z O (L ||| 2 ^ p) (R ||| 2 ^ p) := FS_add hp hF (fun x => by simp) (fun x => by simp) (fun x => by rw [tb_ins_t]; simp) (fun x => by rw [tb_ins_t]; simp)
theorem FS_1 (hp : P.testBit p = true) (hF : FS gr P (fun x => x < p) h Z O L R) : FS gr P (fun x => x < p + 1) (upd1 h p 1) Z (O ||| 2 ^ p) (L ||| (2 ^ p ||| (gr p &&& P))) R := FS_add hp hF (fun x => by simp) (fun x => by rw [tb_ins_t]; simp) (fun x => by rw [or_t, or_t, tb_near, tb_pow_t]; simp) (fun x => by simp)
theorem FC_add {v : Nat} (hW : WG n gr) (hP : P < 2 ^ n) (hv : v ≤ 2) (hp : P.testBit p = true) (hc : FC0 gr P (fun x => x < p) h) (hcp : cpt gr P p h v) : FC0 gr P (fun x => x < p + 1) (upd1 h p v) := by
  have val : ∀ x, x < p → upd1 h p v x = h x := fun x hx => upd1_ne (by omega)
  have hpn := tb_ltn hP hp
  refine ⟨fun x hx hD => ?_, fun u w hu hw dU dW ha => ?_⟩
  · by_cases e : x = p
    · rw [e, upd1_at]; exact hv
    · rw [upd1_ne e]; exact hc.1 x hx (show x < p by have : x < p + 1 := hD; omega)
  · have dU' : u < p + 1 := dU
    have dW' : w < p + 1 := dW
    have hun := tb_ltn hP hu
    have hwn := tb_ltn hP hw
    by_cases e1 : u = p
    · by_cases e2 : w = p
      · rw [e1, e2, hW.2.1 p hpn] at ha; cases ha
      · rw [e1, upd1_at, upd1_ne e2, Nat.add_comm]
        exact hcp w (by omega) hw (by rw [← e1]; exact ha)
    · by_cases e2 : w = p
      · rw [e2, upd1_at, upd1_ne e1]
        exact hcp u (by omega) hu (by rw [← e2, hW.2.2 w u hwn hun]; exact ha)
      · rw [upd1_ne e1, upd1_ne e2]
        exact hc.2 u w hu hw (show u < p by omega) (show w < p by omega) ha
theorem FC_skip (hp : P.testBit p = false) (hc : FC0 gr P (fun x => x < p) h) : FC0 gr P (fun x => x < p + 1) h := by
  have key : ∀ x, P.testBit x = true → x < p + 1 → x < p := fun x hx h1 => by
    have : ¬ x = p := fun e => by rw [e, hp] at hx; cases hx
    omega
  exact ⟨fun x hx hD => hc.1 x hx (key x hx hD), fun u v hu hv d1 d2 ha => hc.2 u v hu hv (key u hu d1) (key v hv d2) ha⟩
theorem sm_next (y : Nat → Nat) : sm P y (p + 1) 0 = sm P y p 0 + (if P.testBit p = true then y p else 0) := by
  rw [sm_split P y p 1 0, Nat.zero_add]
  rfl
theorem sm_upd (v : Nat) : sm P (upd1 h p v) p 0 = sm P h p 0 := sm_congr p 0 (fun q _ hq _ => upd1_ne (by omega))
/-- a value is right just if the two-sided count stays least -/
theorem OK_iff {v left best Z' O' L' R' : Nat} (hW : WG n gr) (hn : n ≤ 12) (hP : P < 2 ^ n) (hp : P.testBit p = true) (hv : v ≤ 2) (hc : FC0 gr P (fun x => x < p) h) (hcp : cpt gr P p h v) (hF : FS gr P (fun x => x < p + 1) (upd1 h p v) Z' O' L' R') (hb : sm P h p 0 + left = best) : OKv n gr P p h left none 0 v ↔ pc L' + pc R' + tau gr (df (df P Z') L') (df (df P (Z' ||| O')) R') ≤ best := by
  have hpn := tb_ltn hP hp
  have hc' := FC_add hW hP hv hp hc hcp
  rw [← gen_iff hW hn hP hF hc']
  have hs : sm P (upd1 h p v) (p + 1) 0 = sm P h p 0 + v := by rw [sm_next, sm_upd, if_pos hp, upd1_at]
  constructor
  · rintro ⟨-, -, h1, -, h2⟩
    rw [Ex_FX hW hP (by omega) hc', hs, show sm P h p 0 + v + (left - v) = best by omega] at h2
    exact h2
  · intro h1
    have hvl : v ≤ left := by
      obtain ⟨y, y1, y2, y3, y4⟩ := h1
      have e1 := sm_split P y (p + 1) (n - (p + 1)) 0
      rw [show p + 1 + (n - (p + 1)) = n by omega] at e1
      have e2 : sm P y (p + 1) 0 = sm P (upd1 h p v) (p + 1) 0 := sm_congr (p + 1) 0 (fun q _ hq hqP => y3 q hqP (show q < p + 1 by omega))
      omega
    refine ⟨hv, fun e => (by cases e), hvl, hcp, ?_⟩
    rw [Ex_FX hW hP (by omega) hc', hs, show sm P h p 0 + v + (left - v) = best by omega]
    exact h1
/-- the state of settling ahead of p -/
def SV (n : Nat) (gr : Nat → Nat) (P p Z O T L R : Nat) : Prop := ∃ (h : Nat → Nat) (left : Nat), FS gr P (fun x => x < p) h Z O L R ∧ (∀ x, T.testBit x = true ↔ P.testBit x = true ∧ x < p ∧ h x = 2) ∧ (p ≤ n → FC0 gr P (fun x => x < p) h ∧ Ex n gr P p h left none 0 ∧ sm P h p 0 + left = tau gr P P ∧ ∀ H, LF n gr P none 0 (n - p) p left h H → HV n gr P H) ∧ (n ≤ p → HV n gr P h)
theorem SV_0 (hW : WG n gr) (hn : n ≤ 12) (hP : P < 2 ^ n) : SV n gr P 0 0 0 0 0 0 := by
  refine ⟨fun _ => 0, tau gr P P, ⟨fun x => ?_, fun x => ?_, fun x => ?_, fun x => ?_⟩, fun x => ?_, fun _ => ⟨⟨fun x _ hD => absurd hD (Nat.not_lt_zero x), fun u v _ _ hD => absurd hD (Nat.not_lt_zero u)⟩, Ex_0 _ hn hP hW 0, by show 0 + _ = _; omega, fun H hH => by rw [Nat.sub_zero] at hH; exact hH⟩, fun h0 => ?_⟩
  · rw [z0]; simp
  · rw [z0]; simp
  · rw [z0]; simp
  · rw [z0]; simp
  · rw [z0]; simp
  · have : n = 0 := by omega
    subst this
    intro q hq
    rfl
theorem SV_skip (hP : P < 2 ^ n) (hp : P.testBit p = false) (h : SV n gr P p Z O T L R) : SV n gr P (p + 1) Z O T L R := by
  obtain ⟨h, left, h1, h2, h3, h4⟩ := h
  have key : ∀ x, P.testBit x = true → (x < p ↔ x < p + 1) := fun x hx => by
    have : ¬ x = p := fun e => by rw [e, hp] at hx; cases hx
    omega
  have hLF : p + 1 ≤ n → FC0 gr P (fun x => x < p + 1) h ∧ Ex n gr P (p + 1) h left none 0 ∧ sm P h (p + 1) 0 + left = tau gr P P ∧ ∀ H, LF n gr P none 0 (n - (p + 1)) (p + 1) left h H → HV n gr P H := fun hpn => by
    obtain ⟨a1, a2, a3, a4⟩ := h3 (by omega)
    refine ⟨FC_skip hp a1, (Ex_skip (by omega) hp (fun _ _ => rfl)).mp a2, ?_, fun H hH => a4 H ?_⟩
    · rw [sm_next, hp, if_neg (by decide)]; exact a3
    · rw [show n - p = (n - (p + 1)) + 1 by omega]
      exact ⟨fun _ => ⟨h, fun _ _ => rfl, hH⟩, fun e => by rw [hp] at e; cases e⟩
  refine ⟨h, left, FS_skip hp h1, fun x => (h2 x).trans ⟨fun q => ⟨q.1, (key x q.1).mp q.2.1, q.2.2⟩, fun q => ⟨q.1, (key x q.1).mpr q.2.1, q.2.2⟩⟩, hLF, fun hnp => ?_⟩
  by_cases e : n ≤ p
  · exact h4 e
  · have hpn : p + 1 = n := by omega
    refine (hLF (by omega)).2.2.2 h ?_
    rw [show n - (p + 1) = 0 by omega]
    exact fun _ _ => rfl
theorem SV_add {v Z' O' T' L' R' : Nat} (hW : WG n gr) (hn : n ≤ 12) (hP : P < 2 ^ n) (hp : P.testBit p = true) (h : Nat → Nat) (left : Nat) (h2 : ∀ x, T.testBit x = true ↔ P.testBit x = true ∧ x < p ∧ h x = 2) (a1 : FC0 gr P (fun x => x < p) h) (a3 : sm P h p 0 + left = tau gr P P) (a4 : ∀ H, LF n gr P none 0 (n - p) p left h H → HV n gr P H) (hF : FS gr P (fun x => x < p + 1) (upd1 h p v) Z' O' L' R') (hT : ∀ x, T'.testBit x = true ↔ T.testBit x = true ∨ (x = p ∧ v = 2)) (hok : OKv n gr P p h left none 0 v) (hmin : ∀ u, od u < od v → ¬ OKv n gr P p h left none 0 u) : SV n gr P (p + 1) Z' O' T' L' R' := by
  have hpn := tb_ltn hP hp
  have cont : ∀ H, LF n gr P none 0 (n - (p + 1)) (p + 1) (left - v) (upd1 h p v) H → HV n gr P H := fun H hH => a4 H (by
    rw [show n - p = (n - (p + 1)) + 1 by omega]
    exact ⟨fun e => (by rw [hp] at e; cases e), fun _ => ⟨v, hok, hmin, hH⟩⟩)
  refine ⟨upd1 h p v, left - v, hF, fun x => ?_, fun _ => ⟨FC_add hW hP hok.1 hp a1 hok.2.2.2.1, hok.2.2.2.2, ?_, cont⟩, fun hnp => cont _ ?_⟩
  · rw [hT, h2]
    constructor
    · rintro (⟨a, b, c⟩ | ⟨rfl, e⟩)
      · exact ⟨a, by omega, by rw [upd1_ne (by omega)]; exact c⟩
      · exact ⟨hp, by omega, by rw [upd1_at]; exact e⟩
    · rintro ⟨a, b, c⟩
      by_cases e : x = p
      · rw [e, upd1_at] at c; exact Or.inr ⟨e, c⟩
      · rw [upd1_ne e] at c; exact Or.inl ⟨a, by omega, c⟩
  · have := hok.2.2.1
    rw [sm_next, sm_upd, if_pos hp, upd1_at]
    omega
  · rw [show n - (p + 1) = 0 by omega]
    exact fun _ _ => rfl
theorem SV_end (hP : P < 2 ^ n) (hn : n ≤ 12) (h : SV n gr P 12 Z O T L R) : Z = hz n gr P 0 ∧ O = hz n gr P 1 ∧ T = hz n gr P 2 := by
  obtain ⟨h, left, ⟨f1, f2, -, -⟩, h2, -, h4⟩ := h
  have hH := h4 hn
  refine ⟨?_, ?_, ?_⟩
  · rw [← hz_eq hH]
    apply Nat.eq_of_testBit_eq
    intro x
    apply Bool.eq_iff_iff.mpr
    rw [f1, hset_t]
    exact ⟨fun q => ⟨tb_ltn hP q.1, q.1, q.2.2⟩, fun q => ⟨q.2.1, by show x < 12; omega, q.2.2⟩⟩
  · rw [← hz_eq hH]
    apply Nat.eq_of_testBit_eq
    intro x
    apply Bool.eq_iff_iff.mpr
    rw [f2, hset_t]
    exact ⟨fun q => ⟨tb_ltn hP q.1, q.1, q.2.2⟩, fun q => ⟨q.2.1, by show x < 12; omega, q.2.2⟩⟩
  · rw [← hz_eq hH]
    apply Nat.eq_of_testBit_eq
    intro x
    apply Bool.eq_iff_iff.mpr
    rw [h2, hset_t]
    exact ⟨fun q => ⟨tb_ltn hP q.1, q.1, q.2.2⟩, fun q => ⟨q.2.1, by omega, q.2.2⟩⟩
end STP
def fHs (o x y : Nat) : Bool := (x == o && decide (4 ≤ y)) || (decide (o < x) && decide (x ≤ o + 4))
theorem fHs_o {o y : Nat} (h : 4 ≤ y) : fHs o o y = true := by simp [fHs, h]
theorem fHs_f {o x y : Nat} (h : x < o ∨ o + 4 < x) : fHs o x y = false := by
  simp only [fHs, Bool.or_eq_false_iff, Bool.and_eq_false_iff, beq_eq_false_iff_ne, decide_eq_false_iff_not]
  omega
theorem sb_Ms {o : Nat} {I I' : AI} (h : sb (fMp o) I I') : sb (fHs o) I I' := h.mono (fun x y hf => by
  simp only [fHs, Bool.or_eq_false_iff, Bool.and_eq_false_iff, beq_eq_false_iff_ne, decide_eq_false_iff_not] at hf
  exact fMp_f (by omega))
section X73
variable {l : Launch} {d : Nat} {K : AK} {I : AI} {J : AJ} {g : Bool} {n : Nat} {gr : Nat → Nat}

theorem lH_settle {o a b c e k : Nat} (hH : HT o a b c e) (hk12 : isA k 12) (hko : k < o) {P : Nat} (hR0 : RG I k n gr) (hW : WG n gr) (hP : P < 2 ^ n) (hk : ∀ (I' : AI), I' o 5 = nI (hz n gr P 0) → I' o 6 = nI (hz n gr P 1) → I' o 7 = nI (hz n gr P 2) → sb (fHs o) I I' → K .null I' J (rX g)) : ∀ (kk p : Nat) (I1 : AI) (Z O T L R : Nat) (x7 x8 x9 x10 : Value), notL x7 = true → notL x8 = true → notL x9 = true → notL x10 = true → 12 - p = kk → p ≤ 12 → SV n gr P p Z O T L R → I1 o 5 = nI Z → I1 o 6 = nI O → I1 o 7 = nI T → Z < 2 ^ n → O < 2 ^ n → T < 2 ^ n → L < 2 ^ n → R < 2 ^ n → sb (fHs o) I I1 → G l (d + 4) mX2_settle K 31 [.ref o, .ref k, .int (nI P), .int (nI (tau gr P P)), .int (nI L), .int (nI R), .int (nI p), x7, x8, x9, x10] [] I1 J (rX g) := by
  obtain ⟨qa, qb, qc, qe⟩ := hH.2.2.2.2.2.2
  intro kk
  induction kk using Nat.strongRecOn with
  | _ kk ih =>
  intro p I1 Z O T L R x7 x8 x9 x10 hx7 hx8 hx9 hx10 hpk hp hSV f5 f6 f7 hZ hO hT hL hR hs1
  have hn := hR0.1
  have hp12 := pow12 hn
  have hR1 : RG I1 k n gr := hR0.sb hs1 (fun _ => fHs_f (by omega))
  refine G_iload_6 (nx := 33) ⟨dX2_settle_31, rfl⟩ ?_
  refine G_bipush (nx := 35) ⟨dX2_settle_33, rfl⟩ cb_12 ?_
  rw [show (12 : Int32) = nI 12 by decide]
  refine G_icmpge (tgt := 259) (nx := 38) ⟨dX2_settle_35, rfl⟩ rfl (fun c_35 => ?_) (fun c_35 => ?_)
  · refine G_vret ⟨dX2_settle_259, rfl⟩ rfl ?_
    rw [nI_le_iff (by omega) (by omega)] at c_35
    have e12 : p = 12 := by omega
    subst e12
    obtain ⟨r1, r2, r3⟩ := SV_end hP hn hSV
    exact hk I1 (by rw [← r1]; exact f5) (by rw [← r2]; exact f6) (by rw [← r3]; exact f7) hs1
  · rw [nI_le_iff (by omega) (by omega)] at c_35
    have hp12' : p < 12 := by omega
    have hpw : 2 ^ p < 2 ^ 12 := Nat.pow_lt_pow_right (by omega) (by omega)
    refine G_iconst (nx := 39) ⟨dX2_settle_38, rfl⟩ ci_1 ?_
    refine G_iload_6 (nx := 41) ⟨dX2_settle_39, rfl⟩ ?_
    refine G_ishl (nx := 42) ⟨dX2_settle_41, rfl⟩ ?_
    rw [one_shl (show p < 31 by omega)]
    refine G_istore_7 (nx := 44) ⟨dX2_settle_42, rfl⟩ rfl rfl ?_
    refine G_iload_2 (nx := 45) ⟨dX2_settle_44, rfl⟩ ?_
    refine G_iload_7 (nx := 47) ⟨dX2_settle_45, rfl⟩ ?_
    refine G_iand (nx := 48) ⟨dX2_settle_47, rfl⟩ ?_
    rw [nI_and]
    refine G_ifne (tgt := 54) (nx := 51) ⟨dX2_settle_48, rfl⟩ rfl (fun c_48 => ?_) (fun c_48 => ?_)
    · rw [nI_0iff (by have := Nat.and_le_left (n := P) (m := 2 ^ p); omega), and_pow0, Bool.not_eq_false] at c_48
      have hpn : p < n := tb_ltn hP c_48
      have hip := in12 hpn hn
      have hgp := hR1.lt hpn
      obtain ⟨h, left, hF, hTc, hle, -⟩ := hSV
      obtain ⟨a1, a2, a3, a4⟩ := hle (by omega)
      have hpwn : 2 ^ p < 2 ^ n := Nat.pow_lt_pow_right (by omega) hpn
      have hna : gr p &&& P ≤ P := Nat.and_le_right
      have hnan : gr p &&& P < 2 ^ n := by omega
      have dlt : ∀ a b : Nat, a < 2 ^ n → df a b < 2 ^ n := fun a b ha => Nat.lt_of_le_of_lt (df_le a b) ha
      have olt : ∀ a b : Nat, a < 2 ^ n → b < 2 ^ n → a ||| b < 2 ^ n := fun a b ha hb => Nat.or_lt_two_pow ha hb
      have F0 := FS_0 c_48 hF
      have F2 := FS_2 c_48 hF
      have F1 := FS_1 c_48 hF
      have c2 : cpt gr P p h 2 := fun u _ _ _ => by omega
      have ok2 := OK_iff hW hn hP c_48 (Nat.le_refl 2) a1 c2 F2 a3
      have ge2 := gen_ge hW hn hP F2 (FC_add hW hP (Nat.le_refl 2) c_48 a1 c2)
      have c0 : L.testBit p = false → R.testBit p = false → cpt gr P p h 0 := fun hl hr u hu hu1 hu2 => by
        have h2 : ¬ h u ≤ 1 := fun h3 => by
          rw [(hF.2.2.1 p).mpr ⟨c_48, Or.inr ⟨u, hu, hu1, h3, by rw [hW.2.2 u p (by omega) hpn]; exact hu2⟩⟩] at hl
          cases hl
        omega
      have n0 : L.testBit p = true ∨ R.testBit p = true → ¬ OKv n gr P p h left none 0 0 := fun hlr hok => by
        have hcp := hok.2.2.2.1
        rcases hlr with q | q
        · rcases ((hF.2.2.1 p).mp q).2 with ⟨q1, -⟩ | ⟨u, q1, q2, q3, q4⟩
          · exact Nat.lt_irrefl p q1
          · have := hcp u q1 q2 (by rw [hW.2.2 p u hpn (by have : u < p := q1; omega)]; exact q4)
            omega
        · rcases ((hF.2.2.2 p).mp q).2 with ⟨q1, -⟩ | ⟨u, q1, q2, q3, q4⟩
          · exact Nat.lt_irrefl p q1
          · have := hcp u q1 q2 (by rw [hW.2.2 p u hpn (by have : u < p := q1; omega)]; exact q4)
            omega
      have odm : ∀ u, od u < 1 → OKv n gr P p h left none 0 u → OKv n gr P p h left none 0 0 := fun u hu hok => by
        have hu2 := hok.1
        have : u = 0 := by unfold od at hu; split at hu <;> omega
        rw [this] at hok
        exact hok
      refine G_aload_1 (nx := 55) ⟨dX2_settle_54, rfl⟩ ?_
      refine G_iload_6 (nx := 57) ⟨dX2_settle_55, rfl⟩ ?_
      refine G_iald (nx := 58) (k := k) ⟨dX2_settle_57, rfl⟩ hk12 (by first | assumption | decide | (unfold vp_in; decide)) ?_
      rw [hR1.row hpn]
      refine G_iload_2 (nx := 59) ⟨dX2_settle_58, rfl⟩ ?_
      refine G_iand (nx := 60) ⟨dX2_settle_59, rfl⟩ ?_
      rw [nI_and]
      refine G_istore_8 (nx := 62) ⟨dX2_settle_60, rfl⟩ rfl rfl ?_
      refine G_iload_2 (nx := 63) ⟨dX2_settle_62, rfl⟩ ?_
      refine G_aload_0 (nx := 64) ⟨dX2_settle_63, rfl⟩ ?_
      refine G_geti (nx := 67) (k := o) ⟨dX2_settle_64, rfl⟩ fX2_28 hH.1 yi_2_5 ?_
      rw [f5]
      refine G_iload_7 (nx := 69) ⟨dX2_settle_67, rfl⟩ ?_
      refine G_ior (nx := 70) ⟨dX2_settle_69, rfl⟩ ?_
      refine G_iconst (nx := 71) ⟨dX2_settle_70, rfl⟩ ci_m1 ?_
      refine G_ixor (nx := 72) ⟨dX2_settle_71, rfl⟩ ?_
      refine G_iand (nx := 73) ⟨dX2_settle_72, rfl⟩ ?_
      rw [nI_or, nI_df _ (by omega)]
      refine G_istore_9 (nx := 75) ⟨dX2_settle_73, rfl⟩ rfl rfl ?_
      refine G_iload_2 (nx := 76) ⟨dX2_settle_75, rfl⟩ ?_
      refine G_aload_0 (nx := 77) ⟨dX2_settle_76, rfl⟩ ?_
      refine G_geti (nx := 80) (k := o) ⟨dX2_settle_77, rfl⟩ fX2_28 hH.1 yi_2_5 ?_
      rw [f5]
      refine G_aload_0 (nx := 81) ⟨dX2_settle_80, rfl⟩ ?_
      refine G_geti (nx := 84) (k := o) ⟨dX2_settle_81, rfl⟩ fX2_31 hH.1 yi_2_6 ?_
      rw [f6]
      refine G_ior (nx := 85) ⟨dX2_settle_84, rfl⟩ ?_
      rw [nI_or]
      refine G_iload_7 (nx := 87) ⟨dX2_settle_85, rfl⟩ ?_
      refine G_ior (nx := 88) ⟨dX2_settle_87, rfl⟩ ?_
      refine G_iconst (nx := 89) ⟨dX2_settle_88, rfl⟩ ci_m1 ?_
      refine G_ixor (nx := 90) ⟨dX2_settle_89, rfl⟩ ?_
      refine G_iand (nx := 91) ⟨dX2_settle_90, rfl⟩ ?_
      rw [nI_or, nI_df _ (by omega)]
      refine G_istore_10 (nx := 93) ⟨dX2_settle_91, rfl⟩ rfl rfl ?_
      refine G_iload_4 (nx := 95) ⟨dX2_settle_93, rfl⟩ ?_
      refine G_iload_5 (nx := 97) ⟨dX2_settle_95, rfl⟩ ?_
      refine G_ior (nx := 98) ⟨dX2_settle_97, rfl⟩ ?_
      rw [nI_or]
      refine G_iload_7 (nx := 100) ⟨dX2_settle_98, rfl⟩ ?_
      refine G_iand (nx := 101) ⟨dX2_settle_100, rfl⟩ ?_
      rw [nI_and]
      refine G_ifne (tgt := 171) (nx := 104) ⟨dX2_settle_101, rfl⟩ rfl (fun c_101 => ?_) (fun c_101 => ?_)
      · try have hR2 : RG I2 k n gr := hR1.sb hs2 (fun _ => fMp_f (by omega))
        refine G_aload_0 (nx := 172) ⟨dX2_settle_171, rfl⟩ ?_
        refine G_aload_1 (nx := 173) ⟨dX2_settle_172, rfl⟩ ?_
        refine G_iload_4 (nx := 175) ⟨dX2_settle_173, rfl⟩ ?_
        refine G_iload_7 (nx := 177) ⟨dX2_settle_175, rfl⟩ ?_
        refine G_ior (nx := 178) ⟨dX2_settle_177, rfl⟩ ?_
        rw [nI_or]
        refine G_iload_9 (nx := 180) ⟨dX2_settle_178, rfl⟩ ?_
        refine G_iload_4 (nx := 182) ⟨dX2_settle_180, rfl⟩ ?_
        refine G_iconst (nx := 183) ⟨dX2_settle_182, rfl⟩ ci_m1 ?_
        refine G_ixor (nx := 184) ⟨dX2_settle_183, rfl⟩ ?_
        refine G_iand (nx := 185) ⟨dX2_settle_184, rfl⟩ ?_
        rw [nI_df _ (by have := dlt P (Z ||| 2 ^ p) hP; omega)]
        refine G_iload_5 (nx := 187) ⟨dX2_settle_185, rfl⟩ ?_
        refine G_iload_7 (nx := 189) ⟨dX2_settle_187, rfl⟩ ?_
        refine G_ior (nx := 190) ⟨dX2_settle_189, rfl⟩ ?_
        rw [nI_or]
        refine G_iload_10 (nx := 192) ⟨dX2_settle_190, rfl⟩ ?_
        refine G_iload_5 (nx := 194) ⟨dX2_settle_192, rfl⟩ ?_
        refine G_iconst (nx := 195) ⟨dX2_settle_194, rfl⟩ ci_m1 ?_
        refine G_ixor (nx := 196) ⟨dX2_settle_195, rfl⟩ ?_
        refine G_iand (nx := 197) ⟨dX2_settle_196, rfl⟩ ?_
        rw [nI_df _ (by have := dlt P (Z ||| O ||| 2 ^ p) hP; omega)]
        refine G_cv5 (nx := 200) ⟨dX2_settle_197, rfl⟩ kX2_68 rfl hH.1 rfl (Nat.le_of_ble_eq_true rfl) (Nat.le_of_ble_eq_true rfl) (cH_leastWith (d := d) hH hk12 hko hR1 (by have := olt L (2 ^ p) hL hpwn; omega) (dlt _ _ (dlt _ _ hP)) (by have := olt R (2 ^ p) hR hpwn; omega) (dlt _ _ (dlt _ _ hP)) (fun I3 hs3 => ?_))
        refine G_iload_3 (nx := 201) ⟨dX2_settle_200, rfl⟩ ?_
        refine G_icmpne (tgt := 232) (nx := 204) ⟨dX2_settle_201, rfl⟩ rfl (fun c_201 => ?_) (fun c_201 => ?_)
        · refine G_aload_0 (nx := 233) ⟨dX2_settle_232, rfl⟩ ?_
          refine G_dup (nx := 234) ⟨dX2_settle_233, rfl⟩ rfl ?_
          refine G_geti (nx := 237) (k := o) ⟨dX2_settle_234, rfl⟩ fX2_31 hH.1 yi_2_6 ?_
          refine G_iload_7 (nx := 239) ⟨dX2_settle_237, rfl⟩ ?_
          refine G_ior (nx := 240) ⟨dX2_settle_239, rfl⟩ ?_
          refine G_puti (nx := 243) (k := o) ⟨dX2_settle_240, rfl⟩ pX2_31 hH.1 yt_2_6 ?_
          refine G_iload_4 (nx := 245) ⟨dX2_settle_243, rfl⟩ ?_
          refine G_iload_7 (nx := 247) ⟨dX2_settle_245, rfl⟩ ?_
          refine G_iload_8 (nx := 249) ⟨dX2_settle_247, rfl⟩ ?_
          refine G_ior (nx := 250) ⟨dX2_settle_249, rfl⟩ ?_
          rw [nI_or]
          refine G_ior (nx := 251) ⟨dX2_settle_250, rfl⟩ ?_
          rw [nI_or]
          refine G_istore_4 (nx := 253) ⟨dX2_settle_251, rfl⟩ rfl rfl ?_
          refine G_iinc_6 (nx := 256) ⟨dX2_settle_253, rfl⟩ ci_1 rfl ?_
          refine G_goto (tgt := 31) ⟨dX2_settle_256, rfl⟩ rfl ?_
          rw [nI_0iff (by have := Nat.and_le_left (n := L ||| R) (m := 2 ^ p); have := olt L R hL hR; omega), and_pow0] at c_101
          have no0 := n0 (by rw [Bool.not_eq_false, Nat.testBit_or, Bool.or_eq_true] at c_101; exact c_101)
          have pm1 := pc_le (L ||| 2 ^ p)
          have pm2 := pc_le (R ||| 2 ^ p)
          have tm1 := tau_le_pc (gr := gr) (A := df (df P Z) (L ||| 2 ^ p)) (B := df (df P (Z ||| O)) (R ||| 2 ^ p))
          have tm2 := pc_le (df (df P Z) (L ||| 2 ^ p))
          have tm3 := tau_le_pc (gr := gr) (A := P) (B := P)
          have tm4 := pc_le P
          rw [df_or2 P Z (2 ^ p) L, df_or2 P (Z ||| O) (2 ^ p) R, nI_eq (by omega) (by omega)] at c_201
          have no2 : ¬ OKv n gr P p h left none 0 2 := fun hok => c_201 (by have := ok2.mp hok; omega)
          obtain ⟨v, hv⟩ := (Ex_step hpn c_48).mp a2
          have hv1 : v = 1 := by
            have := hv.1
            rcases (show v = 0 ∨ v = 1 ∨ v = 2 by omega) with q | q | q
            · rw [q] at hv; exact absurd hv no0
            · exact q
            · rw [q] at hv; exact absurd hv no2
          rw [hv1] at hv
          have sv := SV_add (T' := T) hW hn hP c_48 h left hTc a1 a3 a4 F1 (fun x => by simp) hv (fun u hu hok => by
            have hu2 := hok.1
            rcases (show u = 0 ∨ u = 1 ∨ u = 2 by omega) with q | q | q
            · rw [q] at hok; exact no0 hok
            · rw [q] at hu; exact absurd hu (by decide)
            · rw [q] at hok; exact no2 hok)
          exact G_L (by rw [nI_1]) (ih (12 - (p + 1)) (by omega) (p + 1) _ Z (O ||| 2 ^ p) T (L ||| (2 ^ p ||| (gr p &&& P))) R _ _ _ _ rfl rfl rfl rfl rfl (by omega) sv (by rw [w2_ne _ _ _ _ (by omega), hs3 o 5 (fMp_f (by omega))]; exact f5) (by rw [w2_at, hs3 o 6 (fMp_f (by omega)), f6, nI_or]) (by rw [w2_ne _ _ _ _ (by omega), hs3 o 7 (fMp_f (by omega))]; exact f7) hZ (olt _ _ hO hpwn) hT (olt _ _ hL (olt _ _ hpwn hnan)) hR ((hs1.tr (sb_Ms hs3)).w (fHs_o (by omega))))
        · refine G_aload_0 (nx := 205) ⟨dX2_settle_204, rfl⟩ ?_
          refine G_dup (nx := 206) ⟨dX2_settle_205, rfl⟩ rfl ?_
          refine G_geti (nx := 209) (k := o) ⟨dX2_settle_206, rfl⟩ fX2_34 hH.1 yi_2_7 ?_
          refine G_iload_7 (nx := 211) ⟨dX2_settle_209, rfl⟩ ?_
          refine G_ior (nx := 212) ⟨dX2_settle_211, rfl⟩ ?_
          refine G_puti (nx := 215) (k := o) ⟨dX2_settle_212, rfl⟩ pX2_34 hH.1 yt_2_7 ?_
          refine G_iload_4 (nx := 217) ⟨dX2_settle_215, rfl⟩ ?_
          refine G_iload_7 (nx := 219) ⟨dX2_settle_217, rfl⟩ ?_
          refine G_ior (nx := 220) ⟨dX2_settle_219, rfl⟩ ?_
          rw [nI_or]
          refine G_istore_4 (nx := 222) ⟨dX2_settle_220, rfl⟩ rfl rfl ?_
          refine G_iload_5 (nx := 224) ⟨dX2_settle_222, rfl⟩ ?_
          refine G_iload_7 (nx := 226) ⟨dX2_settle_224, rfl⟩ ?_
          refine G_ior (nx := 227) ⟨dX2_settle_226, rfl⟩ ?_
          rw [nI_or]
          refine G_istore_5 (nx := 229) ⟨dX2_settle_227, rfl⟩ rfl rfl ?_
          refine G_goto (tgt := 253) ⟨dX2_settle_229, rfl⟩ rfl ?_
          refine G_iinc_6 (nx := 256) ⟨dX2_settle_253, rfl⟩ ci_1 rfl ?_
          refine G_goto (tgt := 31) ⟨dX2_settle_256, rfl⟩ rfl ?_
          rw [nI_0iff (by have := Nat.and_le_left (n := L ||| R) (m := 2 ^ p); have := olt L R hL hR; omega), and_pow0] at c_101
          have no0 := n0 (by rw [Bool.not_eq_false, Nat.testBit_or, Bool.or_eq_true] at c_101; exact c_101)
          have pm1 := pc_le (L ||| 2 ^ p)
          have pm2 := pc_le (R ||| 2 ^ p)
          have tm1 := tau_le_pc (gr := gr) (A := df (df P Z) (L ||| 2 ^ p)) (B := df (df P (Z ||| O)) (R ||| 2 ^ p))
          have tm2 := pc_le (df (df P Z) (L ||| 2 ^ p))
          have tm3 := tau_le_pc (gr := gr) (A := P) (B := P)
          have tm4 := pc_le P
          rw [df_or2 P Z (2 ^ p) L, df_or2 P (Z ||| O) (2 ^ p) R, nI_eq (by omega) (by omega)] at c_201
          have ok := ok2.mpr (by omega)
          have sv := SV_add (T' := T ||| 2 ^ p) hW hn hP c_48 h left hTc a1 a3 a4 F2 (fun x => by rw [tb_ins_t]; simp) ok (fun u hu hok => no0 (odm u hu hok))
          exact G_L (by rw [nI_1]) (ih (12 - (p + 1)) (by omega) (p + 1) _ Z O (T ||| 2 ^ p) (L ||| 2 ^ p) (R ||| 2 ^ p) _ _ _ _ rfl rfl rfl rfl rfl (by omega) sv (by rw [w2_ne _ _ _ _ (by omega), hs3 o 5 (fMp_f (by omega))]; exact f5) (by rw [w2_ne _ _ _ _ (by omega), hs3 o 6 (fMp_f (by omega))]; exact f6) (by rw [w2_at, hs3 o 7 (fMp_f (by omega)), f7, nI_or]) hZ hO (olt _ _ hT hpwn) (olt _ _ hL hpwn) (olt _ _ hR hpwn) ((hs1.tr (sb_Ms hs3)).w (fHs_o (by omega))))
      · refine G_aload_0 (nx := 105) ⟨dX2_settle_104, rfl⟩ ?_
        refine G_aload_1 (nx := 106) ⟨dX2_settle_105, rfl⟩ ?_
        refine G_iload_4 (nx := 108) ⟨dX2_settle_106, rfl⟩ ?_
        refine G_iload_8 (nx := 110) ⟨dX2_settle_108, rfl⟩ ?_
        refine G_ior (nx := 111) ⟨dX2_settle_110, rfl⟩ ?_
        rw [nI_or]
        refine G_iload_9 (nx := 113) ⟨dX2_settle_111, rfl⟩ ?_
        refine G_iload_4 (nx := 115) ⟨dX2_settle_113, rfl⟩ ?_
        refine G_iload_8 (nx := 117) ⟨dX2_settle_115, rfl⟩ ?_
        refine G_ior (nx := 118) ⟨dX2_settle_117, rfl⟩ ?_
        rw [nI_or]
        refine G_iconst (nx := 119) ⟨dX2_settle_118, rfl⟩ ci_m1 ?_
        refine G_ixor (nx := 120) ⟨dX2_settle_119, rfl⟩ ?_
        refine G_iand (nx := 121) ⟨dX2_settle_120, rfl⟩ ?_
        rw [nI_df _ (by have := dlt P (Z ||| 2 ^ p) hP; omega)]
        refine G_iload_5 (nx := 123) ⟨dX2_settle_121, rfl⟩ ?_
        refine G_iload_8 (nx := 125) ⟨dX2_settle_123, rfl⟩ ?_
        refine G_ior (nx := 126) ⟨dX2_settle_125, rfl⟩ ?_
        rw [nI_or]
        refine G_iload_10 (nx := 128) ⟨dX2_settle_126, rfl⟩ ?_
        refine G_iload_5 (nx := 130) ⟨dX2_settle_128, rfl⟩ ?_
        refine G_iload_8 (nx := 132) ⟨dX2_settle_130, rfl⟩ ?_
        refine G_ior (nx := 133) ⟨dX2_settle_132, rfl⟩ ?_
        rw [nI_or]
        refine G_iconst (nx := 134) ⟨dX2_settle_133, rfl⟩ ci_m1 ?_
        refine G_ixor (nx := 135) ⟨dX2_settle_134, rfl⟩ ?_
        refine G_iand (nx := 136) ⟨dX2_settle_135, rfl⟩ ?_
        rw [nI_df _ (by have := dlt P (Z ||| O ||| 2 ^ p) hP; omega)]
        refine G_cv5 (nx := 139) ⟨dX2_settle_136, rfl⟩ kX2_68 rfl hH.1 rfl (Nat.le_of_ble_eq_true rfl) (Nat.le_of_ble_eq_true rfl) (cH_leastWith (d := d) hH hk12 hko hR1 (by have := olt L (gr p &&& P) hL hnan; omega) (dlt _ _ (dlt _ _ hP)) (by have := olt R (gr p &&& P) hR hnan; omega) (dlt _ _ (dlt _ _ hP)) (fun I2 hs2 => ?_))
        refine G_iload_3 (nx := 140) ⟨dX2_settle_139, rfl⟩ ?_
        refine G_icmpne (tgt := 171) (nx := 143) ⟨dX2_settle_140, rfl⟩ rfl (fun c_140 => ?_) (fun c_140 => ?_)
        · try have hR2 : RG I2 k n gr := hR1.sb hs2 (fun _ => fMp_f (by omega))
          refine G_aload_0 (nx := 172) ⟨dX2_settle_171, rfl⟩ ?_
          refine G_aload_1 (nx := 173) ⟨dX2_settle_172, rfl⟩ ?_
          refine G_iload_4 (nx := 175) ⟨dX2_settle_173, rfl⟩ ?_
          refine G_iload_7 (nx := 177) ⟨dX2_settle_175, rfl⟩ ?_
          refine G_ior (nx := 178) ⟨dX2_settle_177, rfl⟩ ?_
          rw [nI_or]
          refine G_iload_9 (nx := 180) ⟨dX2_settle_178, rfl⟩ ?_
          refine G_iload_4 (nx := 182) ⟨dX2_settle_180, rfl⟩ ?_
          refine G_iconst (nx := 183) ⟨dX2_settle_182, rfl⟩ ci_m1 ?_
          refine G_ixor (nx := 184) ⟨dX2_settle_183, rfl⟩ ?_
          refine G_iand (nx := 185) ⟨dX2_settle_184, rfl⟩ ?_
          rw [nI_df _ (by have := dlt P (Z ||| 2 ^ p) hP; omega)]
          refine G_iload_5 (nx := 187) ⟨dX2_settle_185, rfl⟩ ?_
          refine G_iload_7 (nx := 189) ⟨dX2_settle_187, rfl⟩ ?_
          refine G_ior (nx := 190) ⟨dX2_settle_189, rfl⟩ ?_
          rw [nI_or]
          refine G_iload_10 (nx := 192) ⟨dX2_settle_190, rfl⟩ ?_
          refine G_iload_5 (nx := 194) ⟨dX2_settle_192, rfl⟩ ?_
          refine G_iconst (nx := 195) ⟨dX2_settle_194, rfl⟩ ci_m1 ?_
          refine G_ixor (nx := 196) ⟨dX2_settle_195, rfl⟩ ?_
          refine G_iand (nx := 197) ⟨dX2_settle_196, rfl⟩ ?_
          rw [nI_df _ (by have := dlt P (Z ||| O ||| 2 ^ p) hP; omega)]
          refine G_cv5 (nx := 200) ⟨dX2_settle_197, rfl⟩ kX2_68 rfl hH.1 rfl (Nat.le_of_ble_eq_true rfl) (Nat.le_of_ble_eq_true rfl) (cH_leastWith (d := d) hH hk12 hko hR2 (by have := olt L (2 ^ p) hL hpwn; omega) (dlt _ _ (dlt _ _ hP)) (by have := olt R (2 ^ p) hR hpwn; omega) (dlt _ _ (dlt _ _ hP)) (fun I3 hs3 => ?_))
          refine G_iload_3 (nx := 201) ⟨dX2_settle_200, rfl⟩ ?_
          refine G_icmpne (tgt := 232) (nx := 204) ⟨dX2_settle_201, rfl⟩ rfl (fun c_201 => ?_) (fun c_201 => ?_)
          · refine G_aload_0 (nx := 233) ⟨dX2_settle_232, rfl⟩ ?_
            refine G_dup (nx := 234) ⟨dX2_settle_233, rfl⟩ rfl ?_
            refine G_geti (nx := 237) (k := o) ⟨dX2_settle_234, rfl⟩ fX2_31 hH.1 yi_2_6 ?_
            refine G_iload_7 (nx := 239) ⟨dX2_settle_237, rfl⟩ ?_
            refine G_ior (nx := 240) ⟨dX2_settle_239, rfl⟩ ?_
            refine G_puti (nx := 243) (k := o) ⟨dX2_settle_240, rfl⟩ pX2_31 hH.1 yt_2_6 ?_
            refine G_iload_4 (nx := 245) ⟨dX2_settle_243, rfl⟩ ?_
            refine G_iload_7 (nx := 247) ⟨dX2_settle_245, rfl⟩ ?_
            refine G_iload_8 (nx := 249) ⟨dX2_settle_247, rfl⟩ ?_
            refine G_ior (nx := 250) ⟨dX2_settle_249, rfl⟩ ?_
            rw [nI_or]
            refine G_ior (nx := 251) ⟨dX2_settle_250, rfl⟩ ?_
            rw [nI_or]
            refine G_istore_4 (nx := 253) ⟨dX2_settle_251, rfl⟩ rfl rfl ?_
            refine G_iinc_6 (nx := 256) ⟨dX2_settle_253, rfl⟩ ci_1 rfl ?_
            refine G_goto (tgt := 31) ⟨dX2_settle_256, rfl⟩ rfl ?_
            rw [nI_0iff (by have := Nat.and_le_left (n := L ||| R) (m := 2 ^ p); have := olt L R hL hR; omega), and_pow0] at c_101
            rw [Nat.testBit_or, Bool.or_eq_false_iff] at c_101
            have cc0 := c0 c_101.1 c_101.2
            have ok0 := OK_iff hW hn hP c_48 (by omega) a1 cc0 F0 a3
            have ge0 := gen_ge hW hn hP F0 (FC_add hW hP (by omega) c_48 a1 cc0)
            have pl1 := pc_le (L ||| (gr p &&& P))
            have pl2 := pc_le (R ||| (gr p &&& P))
            have tl1 := tau_le_pc (gr := gr) (A := df (df P (Z ||| 2 ^ p)) (L ||| (gr p &&& P))) (B := df (df P (Z ||| 2 ^ p ||| O)) (R ||| (gr p &&& P)))
            have tl2 := pc_le (df (df P (Z ||| 2 ^ p)) (L ||| (gr p &&& P)))
            have tl3 := tau_le_pc (gr := gr) (A := P) (B := P)
            have tl4 := pc_le P
            rw [or_comm3 Z O (2 ^ p), nI_eq (by omega) (by omega)] at c_140
            have no0 : ¬ OKv n gr P p h left none 0 0 := fun hok => c_140 (by have := ok0.mp hok; omega)
            have pm1 := pc_le (L ||| 2 ^ p)
            have pm2 := pc_le (R ||| 2 ^ p)
            have tm1 := tau_le_pc (gr := gr) (A := df (df P Z) (L ||| 2 ^ p)) (B := df (df P (Z ||| O)) (R ||| 2 ^ p))
            have tm2 := pc_le (df (df P Z) (L ||| 2 ^ p))
            have tm3 := tau_le_pc (gr := gr) (A := P) (B := P)
            have tm4 := pc_le P
            rw [df_or2 P Z (2 ^ p) L, df_or2 P (Z ||| O) (2 ^ p) R, nI_eq (by omega) (by omega)] at c_201
            have no2 : ¬ OKv n gr P p h left none 0 2 := fun hok => c_201 (by have := ok2.mp hok; omega)
            obtain ⟨v, hv⟩ := (Ex_step hpn c_48).mp a2
            have hv1 : v = 1 := by
              have := hv.1
              rcases (show v = 0 ∨ v = 1 ∨ v = 2 by omega) with q | q | q
              · rw [q] at hv; exact absurd hv no0
              · exact q
              · rw [q] at hv; exact absurd hv no2
            rw [hv1] at hv
            have sv := SV_add (T' := T) hW hn hP c_48 h left hTc a1 a3 a4 F1 (fun x => by simp) hv (fun u hu hok => by
              have hu2 := hok.1
              rcases (show u = 0 ∨ u = 1 ∨ u = 2 by omega) with q | q | q
              · rw [q] at hok; exact no0 hok
              · rw [q] at hu; exact absurd hu (by decide)
              · rw [q] at hok; exact no2 hok)
            exact G_L (by rw [nI_1]) (ih (12 - (p + 1)) (by omega) (p + 1) _ Z (O ||| 2 ^ p) T (L ||| (2 ^ p ||| (gr p &&& P))) R _ _ _ _ rfl rfl rfl rfl rfl (by omega) sv (by rw [w2_ne _ _ _ _ (by omega), hs3 o 5 (fMp_f (by omega)), hs2 o 5 (fMp_f (by omega))]; exact f5) (by rw [w2_at, hs3 o 6 (fMp_f (by omega)), hs2 o 6 (fMp_f (by omega)), f6, nI_or]) (by rw [w2_ne _ _ _ _ (by omega), hs3 o 7 (fMp_f (by omega)), hs2 o 7 (fMp_f (by omega))]; exact f7) hZ (olt _ _ hO hpwn) hT (olt _ _ hL (olt _ _ hpwn hnan)) hR (((hs1.tr (sb_Ms hs2)).tr (sb_Ms hs3)).w (fHs_o (by omega))))
          · refine G_aload_0 (nx := 205) ⟨dX2_settle_204, rfl⟩ ?_
            refine G_dup (nx := 206) ⟨dX2_settle_205, rfl⟩ rfl ?_
            refine G_geti (nx := 209) (k := o) ⟨dX2_settle_206, rfl⟩ fX2_34 hH.1 yi_2_7 ?_
            refine G_iload_7 (nx := 211) ⟨dX2_settle_209, rfl⟩ ?_
            refine G_ior (nx := 212) ⟨dX2_settle_211, rfl⟩ ?_
            refine G_puti (nx := 215) (k := o) ⟨dX2_settle_212, rfl⟩ pX2_34 hH.1 yt_2_7 ?_
            refine G_iload_4 (nx := 217) ⟨dX2_settle_215, rfl⟩ ?_
            refine G_iload_7 (nx := 219) ⟨dX2_settle_217, rfl⟩ ?_
            refine G_ior (nx := 220) ⟨dX2_settle_219, rfl⟩ ?_
            rw [nI_or]
            refine G_istore_4 (nx := 222) ⟨dX2_settle_220, rfl⟩ rfl rfl ?_
            refine G_iload_5 (nx := 224) ⟨dX2_settle_222, rfl⟩ ?_
            refine G_iload_7 (nx := 226) ⟨dX2_settle_224, rfl⟩ ?_
            refine G_ior (nx := 227) ⟨dX2_settle_226, rfl⟩ ?_
            rw [nI_or]
            refine G_istore_5 (nx := 229) ⟨dX2_settle_227, rfl⟩ rfl rfl ?_
            refine G_goto (tgt := 253) ⟨dX2_settle_229, rfl⟩ rfl ?_
            refine G_iinc_6 (nx := 256) ⟨dX2_settle_253, rfl⟩ ci_1 rfl ?_
            refine G_goto (tgt := 31) ⟨dX2_settle_256, rfl⟩ rfl ?_
            rw [nI_0iff (by have := Nat.and_le_left (n := L ||| R) (m := 2 ^ p); have := olt L R hL hR; omega), and_pow0] at c_101
            rw [Nat.testBit_or, Bool.or_eq_false_iff] at c_101
            have cc0 := c0 c_101.1 c_101.2
            have ok0 := OK_iff hW hn hP c_48 (by omega) a1 cc0 F0 a3
            have ge0 := gen_ge hW hn hP F0 (FC_add hW hP (by omega) c_48 a1 cc0)
            have pl1 := pc_le (L ||| (gr p &&& P))
            have pl2 := pc_le (R ||| (gr p &&& P))
            have tl1 := tau_le_pc (gr := gr) (A := df (df P (Z ||| 2 ^ p)) (L ||| (gr p &&& P))) (B := df (df P (Z ||| 2 ^ p ||| O)) (R ||| (gr p &&& P)))
            have tl2 := pc_le (df (df P (Z ||| 2 ^ p)) (L ||| (gr p &&& P)))
            have tl3 := tau_le_pc (gr := gr) (A := P) (B := P)
            have tl4 := pc_le P
            rw [or_comm3 Z O (2 ^ p), nI_eq (by omega) (by omega)] at c_140
            have no0 : ¬ OKv n gr P p h left none 0 0 := fun hok => c_140 (by have := ok0.mp hok; omega)
            have pm1 := pc_le (L ||| 2 ^ p)
            have pm2 := pc_le (R ||| 2 ^ p)
            have tm1 := tau_le_pc (gr := gr) (A := df (df P Z) (L ||| 2 ^ p)) (B := df (df P (Z ||| O)) (R ||| 2 ^ p))
            have tm2 := pc_le (df (df P Z) (L ||| 2 ^ p))
            have tm3 := tau_le_pc (gr := gr) (A := P) (B := P)
            have tm4 := pc_le P
            rw [df_or2 P Z (2 ^ p) L, df_or2 P (Z ||| O) (2 ^ p) R, nI_eq (by omega) (by omega)] at c_201
            have ok := ok2.mpr (by omega)
            have sv := SV_add (T' := T ||| 2 ^ p) hW hn hP c_48 h left hTc a1 a3 a4 F2 (fun x => by rw [tb_ins_t]; simp) ok (fun u hu hok => no0 (odm u hu hok))
            exact G_L (by rw [nI_1]) (ih (12 - (p + 1)) (by omega) (p + 1) _ Z O (T ||| 2 ^ p) (L ||| 2 ^ p) (R ||| 2 ^ p) _ _ _ _ rfl rfl rfl rfl rfl (by omega) sv (by rw [w2_ne _ _ _ _ (by omega), hs3 o 5 (fMp_f (by omega)), hs2 o 5 (fMp_f (by omega))]; exact f5) (by rw [w2_ne _ _ _ _ (by omega), hs3 o 6 (fMp_f (by omega)), hs2 o 6 (fMp_f (by omega))]; exact f6) (by rw [w2_at, hs3 o 7 (fMp_f (by omega)), hs2 o 7 (fMp_f (by omega)), f7, nI_or]) hZ hO (olt _ _ hT hpwn) (olt _ _ hL hpwn) (olt _ _ hR hpwn) (((hs1.tr (sb_Ms hs2)).tr (sb_Ms hs3)).w (fHs_o (by omega))))
        · refine G_aload_0 (nx := 144) ⟨dX2_settle_143, rfl⟩ ?_
          refine G_dup (nx := 145) ⟨dX2_settle_144, rfl⟩ rfl ?_
          refine G_geti (nx := 148) (k := o) ⟨dX2_settle_145, rfl⟩ fX2_28 hH.1 yi_2_5 ?_
          refine G_iload_7 (nx := 150) ⟨dX2_settle_148, rfl⟩ ?_
          refine G_ior (nx := 151) ⟨dX2_settle_150, rfl⟩ ?_
          refine G_puti (nx := 154) (k := o) ⟨dX2_settle_151, rfl⟩ pX2_28 hH.1 yt_2_5 ?_
          refine G_iload_4 (nx := 156) ⟨dX2_settle_154, rfl⟩ ?_
          refine G_iload_8 (nx := 158) ⟨dX2_settle_156, rfl⟩ ?_
          refine G_ior (nx := 159) ⟨dX2_settle_158, rfl⟩ ?_
          rw [nI_or]
          refine G_istore_4 (nx := 161) ⟨dX2_settle_159, rfl⟩ rfl rfl ?_
          refine G_iload_5 (nx := 163) ⟨dX2_settle_161, rfl⟩ ?_
          refine G_iload_8 (nx := 165) ⟨dX2_settle_163, rfl⟩ ?_
          refine G_ior (nx := 166) ⟨dX2_settle_165, rfl⟩ ?_
          rw [nI_or]
          refine G_istore_5 (nx := 168) ⟨dX2_settle_166, rfl⟩ rfl rfl ?_
          refine G_goto (tgt := 253) ⟨dX2_settle_168, rfl⟩ rfl ?_
          refine G_iinc_6 (nx := 256) ⟨dX2_settle_253, rfl⟩ ci_1 rfl ?_
          refine G_goto (tgt := 31) ⟨dX2_settle_256, rfl⟩ rfl ?_
          rw [nI_0iff (by have := Nat.and_le_left (n := L ||| R) (m := 2 ^ p); have := olt L R hL hR; omega), and_pow0] at c_101
          rw [Nat.testBit_or, Bool.or_eq_false_iff] at c_101
          have cc0 := c0 c_101.1 c_101.2
          have ok0 := OK_iff hW hn hP c_48 (by omega) a1 cc0 F0 a3
          have ge0 := gen_ge hW hn hP F0 (FC_add hW hP (by omega) c_48 a1 cc0)
          have pl1 := pc_le (L ||| (gr p &&& P))
          have pl2 := pc_le (R ||| (gr p &&& P))
          have tl1 := tau_le_pc (gr := gr) (A := df (df P (Z ||| 2 ^ p)) (L ||| (gr p &&& P))) (B := df (df P (Z ||| 2 ^ p ||| O)) (R ||| (gr p &&& P)))
          have tl2 := pc_le (df (df P (Z ||| 2 ^ p)) (L ||| (gr p &&& P)))
          have tl3 := tau_le_pc (gr := gr) (A := P) (B := P)
          have tl4 := pc_le P
          rw [or_comm3 Z O (2 ^ p), nI_eq (by omega) (by omega)] at c_140
          have ok := ok0.mpr (by omega)
          have sv := SV_add (T' := T) hW hn hP c_48 h left hTc a1 a3 a4 F0 (fun x => by simp) ok (fun u hu => by unfold od at hu; rw [if_pos rfl] at hu; omega)
          exact G_L (by rw [nI_1]) (ih (12 - (p + 1)) (by omega) (p + 1) _ (Z ||| 2 ^ p) O T (L ||| (gr p &&& P)) (R ||| (gr p &&& P)) _ _ _ _ rfl rfl rfl rfl rfl (by omega) sv (by rw [w2_at, hs2 o 5 (fMp_f (by omega)), f5, nI_or]) (by rw [w2_ne _ _ _ _ (by omega), hs2 o 6 (fMp_f (by omega))]; exact f6) (by rw [w2_ne _ _ _ _ (by omega), hs2 o 7 (fMp_f (by omega))]; exact f7) (olt _ _ hZ hpwn) hO hT (olt _ _ hL hnan) (olt _ _ hR hnan) ((hs1.tr (sb_Ms hs2)).w (fHs_o (by omega))))
    · refine G_goto (tgt := 253) ⟨dX2_settle_51, rfl⟩ rfl ?_
      refine G_iinc_6 (nx := 256) ⟨dX2_settle_253, rfl⟩ ci_1 rfl ?_
      refine G_goto (tgt := 31) ⟨dX2_settle_256, rfl⟩ rfl ?_
      rw [nI_0iff (by have := Nat.and_le_left (n := P) (m := 2 ^ p); omega), and_pow0] at c_48
      exact G_L (by rw [nI_1]) (ih (12 - (p + 1)) (by omega) (p + 1) I1 Z O T L R _ x8 x9 x10 rfl hx8 hx9 hx10 rfl (by omega) (SV_skip hP c_48 hSV) f5 f6 f7 hZ hO hT hL hR hs1)

theorem cH_settle {o a b c e k : Nat} (hH : HT o a b c e) (hk12 : isA k 12) (hko : k < o) {P : Nat} (hR0 : RG I k n gr) (hW : WG n gr) (hP : P < 2 ^ n) (hk : ∀ (I' : AI), I' o 5 = nI (hz n gr P 0) → I' o 6 = nI (hz n gr P 1) → I' o 7 = nI (hz n gr P 2) → sb (fHs o) I I' → K .null I' J (rX g)) : G l (d + 4) mX2_settle K 0 [.ref o, .ref k, .int (nI P), UU, UU, UU, UU, UU, UU, UU, UU] [] I J (rX g) := by
  obtain ⟨qa, qb, qc, qe⟩ := hH.2.2.2.2.2.2
  have hn := hR0.1
  have h1p := Nat.two_pow_pos n
  refine G_aload_0 (nx := 1) ⟨dX2_settle_0, rfl⟩ ?_
  refine G_aload_1 (nx := 2) ⟨dX2_settle_1, rfl⟩ ?_
  refine G_iload_2 (nx := 3) ⟨dX2_settle_2, rfl⟩ ?_
  refine G_cv2 (nx := 6) ⟨dX2_settle_3, rfl⟩ kX2_64 rfl hH.1 rfl (Nat.le_of_ble_eq_true rfl) (Nat.le_of_ble_eq_true rfl) (cH_least hH hk12 hko hR0 hP (fun I1 hs1 => ?_))
  refine G_istore_3 (nx := 7) ⟨dX2_settle_6, rfl⟩ rfl rfl ?_
  refine G_iconst (nx := 8) ⟨dX2_settle_7, rfl⟩ ci_0 ?_
  refine G_istore_4 (nx := 10) ⟨dX2_settle_8, rfl⟩ rfl rfl ?_
  refine G_iconst (nx := 11) ⟨dX2_settle_10, rfl⟩ ci_0 ?_
  refine G_istore_5 (nx := 13) ⟨dX2_settle_11, rfl⟩ rfl rfl ?_
  refine G_aload_0 (nx := 14) ⟨dX2_settle_13, rfl⟩ ?_
  refine G_iconst (nx := 15) ⟨dX2_settle_14, rfl⟩ ci_0 ?_
  refine G_puti (nx := 18) (k := o) ⟨dX2_settle_15, rfl⟩ pX2_28 hH.1 yt_2_5 ?_
  refine G_aload_0 (nx := 19) ⟨dX2_settle_18, rfl⟩ ?_
  refine G_iconst (nx := 20) ⟨dX2_settle_19, rfl⟩ ci_0 ?_
  refine G_puti (nx := 23) (k := o) ⟨dX2_settle_20, rfl⟩ pX2_31 hH.1 yt_2_6 ?_
  refine G_aload_0 (nx := 24) ⟨dX2_settle_23, rfl⟩ ?_
  refine G_iconst (nx := 25) ⟨dX2_settle_24, rfl⟩ ci_0 ?_
  refine G_puti (nx := 28) (k := o) ⟨dX2_settle_25, rfl⟩ pX2_34 hH.1 yt_2_7 ?_
  refine G_iconst (nx := 29) ⟨dX2_settle_28, rfl⟩ ci_0 ?_
  refine G_istore_6 (nx := 31) ⟨dX2_settle_29, rfl⟩ rfl rfl ?_
  exact G_L (by rw [← nI_0]) (lH_settle hH hk12 hko hR0 hW hP hk _ 0 _ 0 0 0 0 0 UU UU UU UU rfl rfl rfl rfl rfl (by omega) (SV_0 hW hn hP) (by rw [w2_ne _ _ _ _ (by omega), w2_ne _ _ _ _ (by omega), w2_at]; rfl) (by rw [w2_ne _ _ _ _ (by omega), w2_at]; rfl) (by rw [w2_at]; rfl) h1p h1p h1p h1p h1p ((((sb_Ms hs1).w (fHs_o (by omega))).w (fHs_o (by omega))).w (fHs_o (by omega))))

end X73
