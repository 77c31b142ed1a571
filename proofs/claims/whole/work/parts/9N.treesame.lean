
def plN (s x : Nat) : Nat := s + x
def smN (B : Nat → Nat) (k : Nat) : Nat := lp (fun j s => s + B j) k 0
theorem smN_s (B : Nat → Nat) (k : Nat) : smN B (k + 1) = smN B k + B k := rfl
theorem smN_up (B : Nat → Nat) (p x : Nat) : ∀ k, smN (fun j => if j = p then plN (B j) x else B j) k = smN B k + (if p < k then x else 0) := by
  intro k
  induction k with
  | zero => rfl
  | succ k ih =>
    rw [smN_s, smN_s, ih]
    by_cases h : k = p
    · subst h
      rw [if_pos rfl, if_neg (Nat.lt_irrefl _), if_pos (Nat.lt_succ_self _)]
      unfold plN
      omega
    · rw [if_neg h]
      by_cases h2 : p < k
      · rw [if_pos h2, if_pos (by omega)]
        omega
      · rw [if_neg h2, if_neg (by omega)]
        omega
theorem smN_le {B : Nat → Nat} {b : Nat} : ∀ k, (∀ j, j < k → B j ≤ b) → smN B k ≤ b * k := by
  intro k
  induction k with
  | zero => intro _; exact Nat.le_refl _
  | succ k ih =>
    intro h
    rw [smN_s, Nat.mul_succ]
    have := ih (fun j hj => h j (by omega))
    have := h k (by omega)
    omega
theorem tpu_sm {is : Nat → Int32} {m : Nat} (hm : m ≤ 60) (hpar : ∀ i, 0 < i → i < m → ∃ a, is i = nI a ∧ a < i) : ∀ v, v < m → ∀ B : Nat → Nat, tpu is plN v B 0 ≤ smN B (v + 1) := by
  intro v
  induction v with
  | zero => intro _ B; show B 0 ≤ 0 + B 0; omega
  | succ v ih =>
    intro hv B
    obtain ⟨a, ea, ha⟩ := hpar (v + 1) (by omega) hv
    unfold tpu
    refine Nat.le_trans (ih (by omega) _) ?_
    rw [ea, cl_nI (by omega)]
    rw [smN_up, if_pos (by omega), ← smN_s]
    exact Nat.le_refl _
theorem tq_ge {is : Nat → Int32} {S : Nat → Nat} {j : Nat} : ∀ k s, s ≤ lp (tq is plN S j) k s := by
  intro k
  induction k with
  | zero => intro s; exact Nat.le_refl _
  | succ k ih =>
    intro s
    rw [lp_s]
    refine Nat.le_trans (ih s) ?_
    unfold tq
    split
    · unfold plN; omega
    · exact Nat.le_refl _
theorem tq_mem {is : Nat → Int32} {S : Nat → Nat} {j c : Nat} (hc : j < c) (he : is c = nI j) : ∀ k s, c < k → S c ≤ lp (tq is plN S j) k s := by
  intro k
  induction k with
  | zero => intro s h; omega
  | succ k ih =>
    intro s h
    rw [lp_s]
    by_cases e : c = k
    · subst e
      unfold tq
      rw [if_pos ⟨hc, he⟩]
      unfold plN
      omega
    · refine Nat.le_trans (ih s (by omega)) ?_
      unfold tq
      split
      · unfold plN; omega
      · exact Nat.le_refl _
def RLo (x : T32) (y : T4) (s : Nat) : Prop := ∃ a b, x.1 = nI a ∧ x.2.1 = nI b ∧ y.1 = lN a ∧ y.2.1 = lN b ∧ x.2.2 = y.2.2 ∧ a ≤ s ∧ b ≤ s
theorem min_32 {a b : Nat} (ha : a < 2 ^ 31) (hb : b < 2 ^ 31) : mnI (nI a) (nI b) = nI (min a b) := by
  unfold mnI
  by_cases h : b < a
  · rw [if_pos ((nI_lt_iff hb ha).mpr h), Nat.min_eq_right (by omega)]
  · rw [if_neg (fun q => h ((nI_lt_iff hb ha).mp q)), Nat.min_eq_left (by omega)]
theorem min_64 {a b : Nat} (ha : a < 2 ^ 31) (hb : b < 2 ^ 31) : (if lN b ≤ lN a then lN b else lN a) = lN (min a b) := by
  by_cases h : b ≤ a
  · rw [if_pos ((lN_le hb ha).mpr h), Nat.min_eq_right h]
  · rw [if_neg (fun q => h ((lN_le hb ha).mp q)), Nat.min_eq_left (by omega)]
theorem mo_64 {x : T32} {y : T4} {how : Int32} {a b : Nat} (hh : ¬ how = 2) (ha : a < 2 ^ 31) (hb : b < 2 ^ 31) (e1 : x.1 = nI a) (e2 : x.2.1 = nI b) (e3 : y.1 = lN a) (e4 : y.2.1 = lN b) (e5 : x.2.2 = y.2.2) : moF x (mnI x.1 x.2.1) = if how = 2 ∨ y.1 = y.2.1 then y.2.2.1 + y.2.2.2 else if y.2.1 ≤ y.1 then y.2.2.2 else y.2.2.1 := by
  unfold moF
  rw [e1, e2, e3, e4, e5, min_32 ha hb]
  by_cases h : a = b
  · subst h
    rw [Nat.min_self, if_pos rfl, if_pos rfl, if_pos (Or.inr rfl)]
  · have hno : ¬ (how = 2 ∨ lN a = lN b) := fun q => q.elim hh (fun q => h ((lN_eq ha hb).mp q))
    rw [if_neg hno]
    by_cases h2 : b ≤ a
    · have e1 : ¬ nI a = nI b := fun q => h (nI_inj ha hb q)
      rw [Nat.min_eq_right h2, if_neg e1, if_pos rfl, if_pos ((lN_le hb ha).mpr h2), Int64.zero_add]
    · have e1 : ¬ nI b = nI a := fun q => h (nI_inj hb ha q).symm
      have e2 : ¬ lN b ≤ lN a := fun q => h2 ((lN_le hb ha).mp q)
      rw [Nat.min_eq_left (by omega), if_pos rfl, if_neg e1, if_neg e2, Int64.add_zero]
theorem RLo_cb {s x : T32} {t y : T4} {k j : Nat} {how : Int32} (hh : ¬ how = 2) (hj : j < 2 ^ 31) (h1 : RLo s t k) (h2 : RLo x y j) : RLo (cb32 s x) (cbC how t y) (plN k j) := by
  obtain ⟨a, b, e1, e2, e3, e4, e5, ea, eb⟩ := h1
  obtain ⟨a', b', f1, f2, f3, f4, f5, fa, fb⟩ := h2
  have ha' : a' < 2 ^ 31 := by omega
  have hb' : b' < 2 ^ 31 := by omega
  refine ⟨a + min a' b', b + a', ?_, ?_, ?_, ?_, ?_, ?_, ?_⟩
  · show s.1 + mnI x.1 x.2.1 = _
    rw [e1, f1, f2, min_32 ha' hb', nI_add]
  · show s.2.1 + x.1 = _
    rw [e2, f1, nI_add]
  · show t.1 + (if y.2.1 ≤ y.1 then y.2.1 else y.1) = _
    rw [e3, f3, f4, min_64 ha' hb', lN_add]
  · show t.2.1 + y.1 = _
    rw [e4, f3, lN_add]
  · show (s.2.2.1 * moF x (mnI x.1 x.2.1), s.2.2.2 * x.2.2.1) = (t.2.2.1 * _, t.2.2.2 * y.2.2.1)
    rw [mo_64 hh ha' hb' f1 f2 f3 f4 f5, e5, f5]
  · unfold plN; have := Nat.min_le_left a' b'; omega
  · unfold plN; omega
theorem tN_RL {is : Nat → Int32} {m : Nat} {how : Int32} (hh : ¬ how = 2) {i32 : Nat → T32} {i64 : Nat → T4} {iS : Nat → Nat} (hi : ∀ j, j < m → RLo (i32 j) (i64 j) (iS j)) : ∀ k j, m - j = k → j < m → tN is plN iS m m j < 2 ^ 31 → RLo (tN is cb32 i32 m m j) (tN is (cbC how) i64 m m j) (tN is plN iS m m j) := by
  intro k
  induction k using Nat.strongRecOn with
  | _ k ih =>
  intro j hjk hj hb
  rw [tN_fix m (Nat.le_refl _) j (by omega) hj] at hb ⊢
  rw [tN_fix m (Nat.le_refl _) j (by omega) hj, tN_fix m (Nat.le_refl _) j (by omega) hj]
  have hch : ∀ c, j < c → c < m → is c = nI j → RLo (tN is cb32 i32 m m c) (tN is (cbC how) i64 m m c) (tN is plN iS m m c) ∧ tN is plN iS m m c < 2 ^ 31 := by
    intro c h1 h2 h3
    have h4 : tN is plN iS m m c < 2 ^ 31 := Nat.lt_of_le_of_lt (tq_mem h1 h3 m _ h2) hb
    exact ⟨ih (m - c) (by omega) c rfl h2 h4, h4⟩
  have : ∀ q, q ≤ m → RLo (lp (tq is cb32 (tN is cb32 i32 m m) j) q (i32 j)) (lp (tq is (cbC how) (tN is (cbC how) i64 m m) j) q (i64 j)) (lp (tq is plN (tN is plN iS m m) j) q (iS j)) := by
    intro q
    induction q with
    | zero => intro _; exact hi j hj
    | succ q ihq =>
      intro hq
      rw [lp_s, lp_s, lp_s]
      have h0 := ihq (by omega)
      by_cases hc : j < q ∧ is q = nI j
      · have h1 := hch q hc.1 (by omega) hc.2
        unfold tq
        rw [if_pos hc, if_pos hc, if_pos hc]
        exact RLo_cb hh h1.2 h0 h1.1
      · unfold tq
        rw [if_neg hc, if_neg hc, if_neg hc]
        exact h0
  exact this m (Nat.le_refl _)
theorem S_bound {is : Nat → Int32} {m : Nat} (hm : m ≤ 60) (h0 : 0 < m) (hP : TP is m) {iS : Nat → Nat} (hi : ∀ j, j < m → iS j ≤ 100) : tN is plN iS m m 0 < 2 ^ 31 := by
  rw [← tN_tpu (fun s x y => by unfold plN; omega) hm h0 hP.2]
  have h1 := tpu_sm hm hP.2 (m - 1) (by omega) iS
  rw [show m - 1 + 1 = m by omega] at h1
  have h2 := smN_le m hi
  omega
/-- counts alone -/
def RC (x : T32) (y : T4) : Prop := x.1 = 0 ∧ x.2.1 = 0 ∧ x.2.2 = y.2.2
theorem mo_0 {x : T32} (h1 : x.1 = 0) (h2 : x.2.1 = 0) : moF x (mnI x.1 x.2.1) = x.2.2.1 + x.2.2.2 := by
  unfold moF
  rw [h1, h2, show mnI 0 0 = 0 by decide, if_pos rfl, if_pos rfl]
theorem RC_cb {s x : T32} {t y : T4} (h1 : RC s t) (h2 : RC x y) : RC (cb32 s x) (cbC 2 t y) := by
  obtain ⟨e1, e2, e3⟩ := h1
  obtain ⟨f1, f2, f3⟩ := h2
  refine ⟨?_, ?_, ?_⟩
  · show s.1 + mnI x.1 x.2.1 = 0
    rw [e1, f1, f2]; decide
  · show s.2.1 + x.1 = 0
    rw [e2, f1]; decide
  · show (s.2.2.1 * moF x (mnI x.1 x.2.1), s.2.2.2 * x.2.2.1) = (t.2.2.1 * (if (2 : Int32) = 2 ∨ y.1 = y.2.1 then y.2.2.1 + y.2.2.2 else _), t.2.2.2 * y.2.2.1)
    rw [mo_0 f1 f2, e3, f3, if_pos (Or.inl rfl)]
theorem tN_RC {is : Nat → Int32} {m : Nat} {i32 : Nat → T32} {i64 : Nat → T4} (hi : ∀ j, j < m → RC (i32 j) (i64 j)) : ∀ k j, m - j = k → j < m → RC (tN is cb32 i32 m m j) (tN is (cbC 2) i64 m m j) := by
  intro k
  induction k using Nat.strongRecOn with
  | _ k ih =>
  intro j hjk hj
  rw [tN_fix m (Nat.le_refl _) j (by omega) hj, tN_fix m (Nat.le_refl _) j (by omega) hj]
  have : ∀ q, q ≤ m → RC (lp (tq is cb32 (tN is cb32 i32 m m) j) q (i32 j)) (lp (tq is (cbC 2) (tN is (cbC 2) i64 m m) j) q (i64 j)) := by
    intro q
    induction q with
    | zero => intro _; exact hi j hj
    | succ q ihq =>
      intro hq
      rw [lp_s, lp_s]
      have h0 := ihq (by omega)
      by_cases hc : j < q ∧ is q = nI j
      · unfold tq
        rw [if_pos hc, if_pos hc]
        exact RC_cb h0 (ih (m - q) (by omega) q rfl (by omega))
      · unfold tq
        rw [if_neg hc, if_neg hc]
        exact h0
  exact this m (Nat.le_refl _)
/-- the class's numbers and the model's: least sums -/
theorem tree_low {I : AI} {a b c m : Nat} {q by0 : Int32} {ci : Nat → Int32} (hm : m ≤ 60) (h0 : 0 < m) (hP : TP (I c) m) (hci : ∀ j, j < m → ci j = cst (I a j) (I b j) (nI (ltN (I c) m j)) (nI j)) (hcb : ∀ j, j < m → ∃ v, v ≤ 100 ∧ ci j = nI v) (hq : (q = 0 ∧ by0 = 1) ∨ (q = 3 ∧ by0 = 2)) : (mnI ((tpu (I c) cb32 (m - 1) (in32 I a b c m by0)) 0).1 ((tpu (I c) cb32 (m - 1) (in32 I a b c m by0)) 0).2.1).toInt64 = trV q (tN (I c) (cbC (hwI q)) (ctI (hwI q) ci) m m 0) := by
  have hh : ¬ hwI q = 2 := by rcases hq with ⟨rfl, -⟩ | ⟨rfl, -⟩ <;> decide
  obtain ⟨iS, hiS⟩ : ∃ iS : Nat → Nat, ∀ j, j < m → iS j ≤ 100 ∧ RLo (in32 I a b c m by0 j) (ctI (hwI q) ci j) (iS j) := by
    rcases hq with ⟨rfl, rfl⟩ | ⟨rfl, rfl⟩
    · exact ⟨fun _ => 1, fun j hj => ⟨(by decide : (1 : Nat) ≤ 100), 1, 0, rfl, rfl, rfl, rfl, rfl, Nat.le_refl 1, Nat.zero_le 1⟩⟩
    · refine ⟨fun j => (ci j).toNatClampNeg, fun j hj => ?_⟩
      obtain ⟨v, hv, ev⟩ := hcb j hj
      refine ⟨?_, v, 0, ?_, rfl, ?_, rfl, rfl, ?_, by omega⟩
      · show (ci j).toNatClampNeg ≤ 100
        rw [ev, cl_nI (by omega)]; exact hv
      · show (if (2 : Int32) = 2 then cst (I a j) (I b j) (nI (ltN (I c) m j)) (nI j) else 2) = nI v
        rw [if_pos rfl, ← ev, hci j hj]
      · show (if hwI 3 = 1 then (ci j).toInt64 else 1) = lN v
        rw [if_pos (by decide), ev, nI_l (by omega)]
      · show v ≤ (ci j).toNatClampNeg
        rw [ev, cl_nI (by omega)]; exact Nat.le_refl _
  have hS := S_bound hm h0 hP (fun j hj => (hiS j hj).1)
  have hR := tN_RL (is := I c) hh (fun j hj => (hiS j hj).2) (m - 0) 0 rfl h0 hS
  rw [tN_tpu cb32_rc hm h0 hP.2]
  obtain ⟨a', b', e1, e2, e3, e4, e5, ea, eb⟩ := hR
  have hq' : q = 0 ∨ q = 3 := by rcases hq with h | h <;> simp [h.1]
  unfold trV
  rw [if_pos hq', e1, e2, e3, e4, min_32 (by omega) (by omega), min_64 (by omega) (by omega), nI_l (by have := Nat.min_le_left a' b'; omega)]
theorem tree_many {I : AI} {a b c m : Nat} {q by0 : Int32} {ci : Nat → Int32} (hm : m ≤ 60) (h0 : 0 < m) (hP : TP (I c) m) (hci : ∀ j, j < m → ci j = cst (I a j) (I b j) (nI (ltN (I c) m j)) (nI j)) (hcb : ∀ j, j < m → ∃ v, v ≤ 100 ∧ ci j = nI v) (hq : (q = 1 ∧ by0 = 0) ∨ (q = 2 ∧ by0 = 1) ∨ (q = 4 ∧ by0 = 2)) : moF ((tpu (I c) cb32 (m - 1) (in32 I a b c m by0)) 0) (mnI ((tpu (I c) cb32 (m - 1) (in32 I a b c m by0)) 0).1 ((tpu (I c) cb32 (m - 1) (in32 I a b c m by0)) 0).2.1) = trV q (tN (I c) (cbC (hwI q)) (ctI (hwI q) ci) m m 0) := by
  rw [tN_tpu cb32_rc hm h0 hP.2]
  rcases hq with ⟨rfl, rfl⟩ | hq
  · have hR := tN_RC (is := I c) (i32 := in32 I a b c m 0) (i64 := ctI 2 ci) (fun j hj => ⟨rfl, rfl, rfl⟩) (m - 0) 0 rfl h0
    obtain ⟨e1, e2, e3⟩ := hR
    rw [mo_0 e1 e2, e3]
    unfold trV
    rw [if_neg (by decide), if_pos (Or.inl rfl)]
    rfl
  · have hh : ¬ hwI q = 2 := by rcases hq with ⟨rfl, -⟩ | ⟨rfl, -⟩ <;> decide
    obtain ⟨iS, hiS⟩ : ∃ iS : Nat → Nat, ∀ j, j < m → iS j ≤ 100 ∧ RLo (in32 I a b c m by0 j) (ctI (hwI q) ci j) (iS j) := by
      rcases hq with ⟨rfl, rfl⟩ | ⟨rfl, rfl⟩
      · exact ⟨fun _ => 1, fun j hj => ⟨(by decide : (1 : Nat) ≤ 100), 1, 0, rfl, rfl, rfl, rfl, rfl, Nat.le_refl 1, Nat.zero_le 1⟩⟩
      · refine ⟨fun j => (ci j).toNatClampNeg, fun j hj => ?_⟩
        obtain ⟨v, hv, ev⟩ := hcb j hj
        refine ⟨?_, v, 0, ?_, rfl, ?_, rfl, rfl, ?_, by omega⟩
        · show (ci j).toNatClampNeg ≤ 100
          rw [ev, cl_nI (by omega)]; exact hv
        · show (if (2 : Int32) = 2 then cst (I a j) (I b j) (nI (ltN (I c) m j)) (nI j) else 2) = nI v
          rw [if_pos rfl, ← ev, hci j hj]
        · show (if hwI 4 = 1 then (ci j).toInt64 else 1) = lN v
          rw [if_pos (by decide), ev, nI_l (by omega)]
        · show v ≤ (ci j).toNatClampNeg
          rw [ev, cl_nI (by omega)]; exact Nat.le_refl _
    have hS := S_bound hm h0 hP (fun j hj => (hiS j hj).1)
    have hR := tN_RL (is := I c) hh (fun j hj => (hiS j hj).2) (m - 0) 0 rfl h0 hS
    obtain ⟨a', b', e1, e2, e3, e4, e5, ea, eb⟩ := hR
    rw [mo_64 (how := 0) (by decide) (by omega) (by omega) e1 e2 e3 e4 e5]
    unfold trV
    have n0 : ¬ (q = 0 ∨ q = 3) := by rcases hq with ⟨rfl, -⟩ | ⟨rfl, -⟩ <;> decide
    have n1 : ¬ q = 1 := by rcases hq with ⟨rfl, -⟩ | ⟨rfl, -⟩ <;> decide
    have n2 : ¬ (0 : Int32) = 2 := by decide
    rw [if_neg n0]
    simp only [n1, n2, false_or]

