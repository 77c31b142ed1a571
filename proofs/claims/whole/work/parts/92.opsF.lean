
theorem fe_any {n : Nat} {gr : Nat → Nat} {size : Nat} {x : Nat} : ∀ k, ((lp (feF n gr size) k (none, 0, 2 ^ n - 1, 0)).2.2.2.testBit x = true ↔ ∃ s, s < k ∧ covB n gr s = true ∧ pc s = size ∧ s.testBit x = true) := by
  intro k
  induction k with
  | zero => simp [lp]
  | succ k ih =>
    rw [lp_s]
    unfold feF
    split
    · rename_i c
      show (_ ||| k).testBit x = true ↔ _
      rw [Nat.testBit_or, Bool.or_eq_true]
      constructor
      · rintro (h | h)
        · obtain ⟨s, h1, h2⟩ := ih.mp h
          exact ⟨s, by omega, h2⟩
        · exact ⟨k, by omega, c.2, c.1, h⟩
      · rintro ⟨s, h1, h2, h3, h4⟩
        by_cases e : s = k
        · rw [← e]; exact Or.inr h4
        · exact Or.inl (ih.mpr ⟨s, by omega, h2, h3, h4⟩)
    · rename_i c
      constructor
      · intro h
        obtain ⟨s, h1, h2⟩ := ih.mp h
        exact ⟨s, by omega, h2⟩
      · rintro ⟨s, h1, h2, h3, h4⟩
        by_cases e : s = k
        · rw [e] at h2 h3; exact absurd ⟨h3, h2⟩ c
        · exact ih.mpr ⟨s, by omega, h2, h3, h4⟩
/-- points in no fewest cover -/
def nvN (n : Nat) (gr : Nat → Nat) : Nat := df (2 ^ n - 1) (feN n gr).2.2.2
theorem nv_bit {n : Nat} {gr : Nat → Nat} {x : Nat} : (nvN n gr).testBit x = true ↔ (x < n ∧ ∀ s, s < 2 ^ n → covB n gr s = true → pc s = leN n gr → s.testBit x = false) := by
  unfold nvN
  rw [tb_df, Nat.testBit_two_pow_sub_one, Bool.and_eq_true, decide_eq_true_eq]
  have := fe_any (n := n) (gr := gr) (size := leN n gr) (x := x) (2 ^ n)
  constructor
  · intro h
    refine ⟨h.1, fun s h1 h2 h3 => ?_⟩
    cases q : s.testBit x with
    | false => rfl
    | true =>
      have h4 := this.mpr ⟨s, h1, h2, h3, q⟩
      have h5 := h.2
      unfold feN at h5
      rw [h4] at h5
      cases h5
  · intro h
    refine ⟨h.1, ?_⟩
    cases q : (feN n gr).2.2.2.testBit x with
    | false => rfl
    | true =>
      obtain ⟨s, h1, h2, h3, h4⟩ := this.mp q
      rw [h.2 s h1 h2 h3] at h4
      cases h4
theorem p1_iff {a b : Nat} (ha : a < 1000) (hb : b < 1000) : nI a = nI b + 1 ↔ a = b + 1 := by
  rw [nI_1]
  exact ⟨fun h => nI_inj (by omega) (by omega) h, fun h => by rw [h]⟩
theorem tn_nv {n : Nat} {gr : Nat → Nat} (hn : n ≤ 12) (hW : WG n gr) {a b : Nat} (hab : a < b) (hb : b < n) : tnB n gr 0 1 a b = ((nvN n gr).testBit a && (nvN n gr).testBit b) := by
  have hl1 := leN_le n gr
  have hl2 := leN_le n (layG gr a b 1)
  obtain ⟨s, g1, g2, g3⟩ := (leN_spec (gr := gr) hn).2
  unfold tnB
  cases q : (gr a).testBit b with
  | true =>
    show false = _
    symm
    rw [Bool.and_eq_false_iff]
    rcases (cov_CP hW.1 s).mp g2 a b (by omega) hb q with z | z
    · left
      cases q1 : (nvN n gr).testBit a with
      | false => rfl
      | true => rw [(nv_bit.mp q1).2 s g1 g2 g3] at z; cases z
    · right
      cases q1 : (nvN n gr).testBit b with
      | false => rfl
      | true => rw [(nv_bit.mp q1).2 s g1 g2 g3] at z; cases z
  | false =>
    show (true && decide (nI (leN n (layG gr a b 1)) = nI (leN n gr) + 1)) = _
    rw [Bool.true_and]
    have hi := (p1_iff (show leN n (layG gr a b 1) < 1000 by omega) (show leN n gr < 1000 by omega)).trans (le_lay1 hn hW (show a < n by omega) hb (by omega))
    by_cases c : nI (leN n (layG gr a b 1)) = nI (leN n gr) + 1
    · have h := hi.mp c
      rw [decide_eq_true c, nv_bit.mpr ⟨by omega, fun s h1 h2 h3 => (h s h1 h2 h3).1⟩, nv_bit.mpr ⟨hb, fun s h1 h2 h3 => (h s h1 h2 h3).2⟩]
      rfl
    · rw [decide_eq_false c]
      symm
      rw [Bool.and_eq_false_iff]
      cases q1 : (nvN n gr).testBit a with
      | false => exact Or.inl rfl
      | true =>
        right
        cases q2 : (nvN n gr).testBit b with
        | false => rfl
        | true => exact absurd (hi.mpr (fun s h1 h2 h3 => ⟨(nv_bit.mp q1).2 s h1 h2 h3, (nv_bit.mp q2).2 s h1 h2 h3⟩)) c
/-- one row of twos -/
theorem tn_row {n : Nat} {gr : Nat → Nat} {N a : Nat} (hB : ∀ a b, a < b → b < n → tnB n gr 0 1 a b = (N.testBit a && N.testBit b)) (s : TN) : (N.testBit a = false → ∀ k, k ≤ n → lp (tnI n gr 0 1 a) k s = s) ∧ (N.testBit a = true → ∀ k, a + 1 ≤ k → k ≤ n → (lp (tnI n gr 0 1 a) k s).2 + cn (a + 1) (fun i => N.testBit i) = s.2 + cn k (fun i => N.testBit i) ∧ ((∀ y, s.1 = some y → (lp (tnI n gr 0 1 a) k s).1 = some y)) ∧ ∀ b, s.1 = none → a < b → N.testBit b = true → (∀ p, a < p → p < b → N.testBit p = false) → (lp (tnI n gr 0 1 a) k s).1 = if b < k then some (12 * a + b) else none) := by
  constructor
  · intro h k
    induction k with
    | zero => intro _; rfl
    | succ k ih =>
      intro hk
      rw [lp_s, ih (by omega)]
      unfold tnI
      by_cases c : a < k
      · rw [if_neg (fun q => by have := q.2; rw [hB a k c (by omega), h] at this; cases this)]
      · rw [if_neg (fun q => c q.1)]
  · intro h k
    induction k with
    | zero => intro h1; omega
    | succ k ih =>
      intro h1 h2
      by_cases e : k = a
      · rw [tnI_le n gr 0 1 a (k + 1) (by omega) s, e]
        refine ⟨rfl, fun y hy => hy, fun b hs hab hb _ => ?_⟩
        rw [if_neg (by omega)]
        exact hs
      · obtain ⟨i1, i2, i3⟩ := ih (by omega) (by omega)
        rw [lp_s]
        generalize lp (tnI n gr 0 1 a) k s = t at i1 i2 i3
        unfold tnI
        have hb0 := hB a k (by omega) (by omega)
        rw [h, Bool.true_and] at hb0
        rw [hb0]
        have hcs := cn_s k (fun i => N.testBit i)
        by_cases c : N.testBit k = true
        · rw [if_pos ⟨by omega, c⟩]
          rw [c] at hcs
          have hcs' : cn (k + 1) (fun i => N.testBit i) = cn k (fun i => N.testBit i) + 1 := hcs
          refine ⟨by show t.2 + 1 + _ = _; omega, fun y hy => by show some (t.1.getD _) = some y; rw [i2 y hy]; rfl, fun b hs hab hb hmin => ?_⟩
          have i4 := i3 b hs hab hb hmin
          show some (t.1.getD (12 * a + k)) = _
          by_cases c2 : b < k
          · rw [if_pos c2] at i4
            rw [i4, if_pos (by omega)]
            rfl
          · rw [if_neg c2] at i4
            by_cases c3 : b = k
            · rw [i4, if_pos (by omega), c3]; rfl
            · exfalso
              have := hmin k (by omega) (by omega)
              rw [c] at this
              cases this
        · rw [if_neg (fun q => c q.2)]
          have c' : N.testBit k = false := by cases q : N.testBit k with | false => rfl | true => exact absurd q c
          rw [c'] at hcs
          have hcs' : cn (k + 1) (fun i => N.testBit i) = cn k (fun i => N.testBit i) := hcs
          refine ⟨by omega, i2, fun b hs hab hb hmin => ?_⟩
          rw [i3 b hs hab hb hmin]
          have : ¬ b = k := fun q => by rw [q, c'] at hb; cases hb
          by_cases c2 : b < k
          · rw [if_pos c2, if_pos (by omega)]
          · rw [if_neg c2, if_neg (by omega)]
theorem cn_mn {P : Nat → Bool} : ∀ {a b : Nat}, a ≤ b → cn a P ≤ cn b P := by
  intro a b
  induction b with
  | zero => intro h; have : a = 0 := by omega
            rw [this]; exact Nat.le_refl _
  | succ b ih =>
    intro h
    by_cases e : a = b + 1
    · rw [e]; exact Nat.le_refl _
    · have := ih (by omega)
      rw [cn_s]
      omega
theorem tn_cnt {n : Nat} {gr : Nat → Nat} {N : Nat} (hB : ∀ a b, a < b → b < n → tnB n gr 0 1 a b = (N.testBit a && N.testBit b)) : ∀ k, k ≤ n → 2 * (lp (tnO n gr 0 1) k (none, 0)).2 + cn k (fun i => N.testBit i) * (cn k (fun i => N.testBit i) + 1) = 2 * cn n (fun i => N.testBit i) * cn k (fun i => N.testBit i) := by
  intro k
  induction k with
  | zero => intro _; simp [lp, cn_0]
  | succ k ih =>
    intro hk
    have ih1 := ih (by omega)
    rw [lp_s]
    show 2 * (lp (tnI n gr 0 1 k) n _).2 + _ = _
    obtain ⟨r1, r2⟩ := tn_row (a := k) hB (lp (tnO n gr 0 1) k (none, 0))
    have hcs := cn_s k (fun i => N.testBit i)
    cases c : N.testBit k with
    | false =>
      rw [r1 c n (Nat.le_refl _)]
      simp only [c] at hcs
      rw [show cn (k + 1) (fun i => N.testBit i) = cn k (fun i => N.testBit i) from hcs]
      exact ih1
    | true =>
      have h2 := (r2 c n (by omega) (Nat.le_refl _)).1
      have h3 := cn_mn (P := fun i => N.testBit i) (show k + 1 ≤ n by omega)
      simp only [c] at hcs
      have hcs' : cn (k + 1) (fun i => N.testBit i) = cn k (fun i => N.testBit i) + 1 := hcs
      rw [hcs'] at h2 h3 ⊢
      generalize cn k (fun i => N.testBit i) = x at *
      generalize cn n (fun i => N.testBit i) = m at *
      have e1 : (x + 1) * (x + 1 + 1) = x * (x + 1) + (x + 1) + (x + 1) := by rw [Nat.mul_succ, Nat.succ_mul]
      have e2 : 2 * m * (x + 1) = 2 * m * x + 2 * m := Nat.mul_succ _ _
      rw [e1, e2]
      omega
theorem tn_fst {n : Nat} {gr : Nat → Nat} {N a0 b0 : Nat} (hB : ∀ a b, a < b → b < n → tnB n gr 0 1 a b = (N.testBit a && N.testBit b)) (h1 : N.testBit a0 = true) (h2 : N.testBit b0 = true) (hab : a0 < b0) (hb : b0 < n) (hm : ∀ p, p < b0 → ¬ p = a0 → N.testBit p = false) : ∀ k, k ≤ n → (lp (tnO n gr 0 1) k (none, 0)).1 = if a0 < k then some (12 * a0 + b0) else none := by
  intro k
  induction k with
  | zero => intro _; rfl
  | succ k ih =>
    intro hk
    have ih1 := ih (by omega)
    rw [lp_s]
    show (lp (tnI n gr 0 1 k) n _).1 = _
    obtain ⟨r1, r2⟩ := tn_row (a := k) hB (lp (tnO n gr 0 1) k (none, 0))
    cases c : N.testBit k with
    | false =>
      rw [r1 c n (Nat.le_refl _), ih1]
      have : ¬ a0 = k := fun q => by rw [q, c] at h1; cases h1
      by_cases c2 : a0 < k
      · rw [if_pos c2, if_pos (by omega)]
      · rw [if_neg c2, if_neg (by omega)]
    | true =>
      obtain ⟨_, g2, g3⟩ := r2 c n (by omega) (Nat.le_refl _)
      by_cases c2 : a0 < k
      · rw [if_pos c2] at ih1
        rw [g2 _ ih1, if_pos (by omega)]
      · rw [if_neg c2] at ih1
        have e : k = a0 := by
          by_cases e : k = a0
          · exact e
          · have := hm k (by omega) e
            rw [c] at this; cases this
        rw [g3 b0 ih1 (by omega) h2 (fun p p1 p2 => hm p p2 (by omega)), if_pos hb, if_pos (by omega), e]
theorem mm2 {m : Nat} (h : m ≤ 12) : nI m * (nI m - 1) / 2 = nI (m * (m - 1) / 2) := by
  rcases (show m = 0 ∨ m = 1 ∨ m = 2 ∨ m = 3 ∨ m = 4 ∨ m = 5 ∨ m = 6 ∨ m = 7 ∨ m = 8 ∨ m = 9 ∨ m = 10 ∨ m = 11 ∨ m = 12 by omega) with z | z | z | z | z | z | z | z | z | z | z | z | z <;> subst z <;> rfl
theorem mm3 {m c : Nat} (h : m ≤ 12) (hc : 2 * c + m * (m + 1) = 2 * m * m) : c = m * (m - 1) / 2 := by
  rcases (show m = 0 ∨ m = 1 ∨ m = 2 ∨ m = 3 ∨ m = 4 ∨ m = 5 ∨ m = 6 ∨ m = 7 ∨ m = 8 ∨ m = 9 ∨ m = 10 ∨ m = 11 ∨ m = 12 by omega) with z | z | z | z | z | z | z | z | z | z | z | z | z <;> subst z <;> omega
theorem cn_pc {N n : Nat} (hn : n ≤ 12) (hN : N < 2 ^ n) : cn n (fun i => N.testBit i) = pc N := by
  rw [pc_cn]
  have := cn_more (N := n) (12 - n) (P := fun i => N.testBit i) (fun k hk => by
    cases q : N.testBit k with
    | false => rfl
    | true => have := tb_ltn hN q; omega)
  rw [← this]
  congr 1
  omega
/-- what joins asks, by the points in no fewest cover -/
theorem jn_all {n : Nat} {gr : Nat → Nat} (hn : n ≤ 12) (hW : WG n gr) : (tnN n gr 0 1).2 = pc (nvN n gr) * (pc (nvN n gr) - 1) / 2 ∧ (pc (nvN n gr) < 2 → (tnN n gr 0 1).1 = none) ∧ (2 ≤ pc (nvN n gr) → ¬ nvN n gr = 0 ∧ ¬ nvN n gr &&& (nvN n gr - 1) = 0 ∧ (tnN n gr 0 1).1 = some (12 * fb (nvN n gr) + fb (nvN n gr &&& (nvN n gr - 1)))) := by
  have h1p := Nat.two_pow_pos n
  have hp12 := pow12 hn
  have hNl : nvN n gr < 2 ^ n := Nat.lt_of_le_of_lt (df_le _ _) (by omega)
  have hB : ∀ a b, a < b → b < n → tnB n gr 0 1 a b = ((nvN n gr).testBit a && (nvN n gr).testBit b) := fun a b h1 h2 => tn_nv hn hW h1 h2
  have hcnt := tn_cnt hB n (Nat.le_refl _)
  rw [cn_pc hn hNl] at hcnt
  have hpl := pc_le (nvN n gr)
  have e2 : (tnN n gr 0 1).2 = pc (nvN n gr) * (pc (nvN n gr) - 1) / 2 := mm3 hpl hcnt
  refine ⟨e2, fun h => ?_, fun h => ?_⟩
  · have hiv := (tnO_iv n gr 0 1 hn n).1
    refine hiv.mpr ?_
    show (tnN n gr 0 1).2 = 0
    rw [e2]
    rcases (show pc (nvN n gr) = 0 ∨ pc (nvN n gr) = 1 by omega) with z | z <;> rw [z]
  · generalize nvN n gr = N at *
    have hN0 : ¬ N = 0 := fun q => by rw [q] at h; exact absurd h (by decide)
    have hst := pc_step (show N < 4096 by omega) hN0
    have hM0 : ¬ N &&& (N - 1) = 0 := fun q => by
      rw [q] at hst
      have : pc 0 = 0 := by decide
      omega
    have hMl : N &&& (N - 1) < 4096 := by have := and_pred_lt hN0; omega
    obtain ⟨f1, f2, f3⟩ := fb_s (show N < 4096 by omega) hN0
    obtain ⟨_, g2, g3⟩ := fb_s hMl hM0
    refine ⟨hN0, hM0, ?_⟩
    have hMb : ∀ x, (N &&& (N - 1)).testBit x = (N.testBit x && !decide (fb N = x)) := fun x => by rw [f1, tb_df, Nat.testBit_two_pow]
    rw [hMb, Bool.and_eq_true] at g2
    have hne : ¬ fb N = fb (N &&& (N - 1)) := by
      have := g2.2
      simpa using this
    have hlt : fb N < fb (N &&& (N - 1)) := by
      rcases Nat.lt_or_ge (fb N) (fb (N &&& (N - 1))) with q | q
      · exact q
      · have := f3 (fb (N &&& (N - 1))) (by omega)
        rw [g2.1] at this; cases this
    have := tn_fst hB f2 g2.1 hlt (tb_ltn hNl g2.1) (fun p p1 p2 => by
      have := g3 p p1
      rw [hMb, decide_eq_false (fun q => p2 q.symm)] at this
      simpa using this) n (Nat.le_refl _)
    rw [if_pos (by have := tb_ltn hNl f2; omega)] at this
    exact this
section X92
variable {l : Launch} {d : Nat} {K : AK} {I : AI} {J : AJ} {g : Bool} {n : Nat} {gr : Nat → Nat}

theorem cX_joins {q : Int32} (hX : XG I 1 4 n gr) (hW : WG n gr) (hk1 : inR q 0 1 = false → K (.int (-2)) I J (rX g)) (hk : ∀ (I' : AI), inR q 0 1 = true → sb fC I I' → K (.int (if q = 0 then mv (tnN n gr 0 1).1 else nI (tnN n gr 0 1).2)) I' J (rX g)) : G l (d + 40) mX11_joins K 0 [.ref 0, .int q, UU, UU, UU, UU] [] I J (rX g) := by
  refine G_iload_1 (nx := 1) ⟨dX11_joins_0, rfl⟩ ?_
  refine G_iconst (nx := 2) ⟨dX11_joins_1, rfl⟩ ci_0 ?_
  refine G_iconst (nx := 3) ⟨dX11_joins_2, rfl⟩ ci_1 ?_
  refine G_cs3 (nx := 6) ⟨dX11_joins_3, rfl⟩ kX11_126 rfl rfl (Nat.le_of_ble_eq_true rfl) (Nat.le_of_ble_eq_true rfl) (cX_within ?_)
  refine G_ifne (tgt := 12) (nx := 9) ⟨dX11_joins_6, rfl⟩ rfl (fun c_6 => ?_) (fun c_6 => ?_)
  · rw [bi_n0] at c_6
    have hn := hX.2.1
    have hp12 := pow12 hn
    have h1p := Nat.two_pow_pos n
    have hNl : nvN n gr < 2 ^ n := Nat.lt_of_le_of_lt (df_le _ _) (by omega)
    have hpl := pc_le (nvN n gr)
    obtain ⟨j1, j2, j3⟩ := jn_all hn hW
    refine G_aload_0 (nx := 13) ⟨dX11_joins_12, rfl⟩ ?_
    refine G_getr (nx := 16) (k := 0) (r := 22) ⟨dX11_joins_13, rfl⟩ fX11_34 q_0 yr_11_4 (r_0_4 _) ?_
    refine G_aload_0 (nx := 17) ⟨dX11_joins_16, rfl⟩ ?_
    refine G_getr (nx := 20) (k := 0) (r := 1) ⟨dX11_joins_17, rfl⟩ fX11_10 q_0 yr_11_0 (r_0_0 _) ?_
    refine G_cvv1 (nx := 23) ⟨dX11_joins_20, rfl⟩ kX11_178 rfl q_22 rfl (Nat.le_of_ble_eq_true rfl) (Nat.le_of_ble_eq_true rfl) (cC_findFewest hX (fun I1 hF1 hs1 => ?_))
    obtain ⟨_, x, _, _, _, _, f6⟩ := FV_end hn hF1
    have hX1 : XG I1 1 4 n gr := hX.sb hs1 rfl (fun _ => rfl)
    refine G_aload_0 (nx := 24) ⟨dX11_joins_23, rfl⟩ ?_
    refine G_getr (nx := 27) (k := 0) (r := 1) ⟨dX11_joins_24, rfl⟩ fX11_10 q_0 yr_11_0 (r_0_0 _) ?_
    refine G_cv0 (nx := 30) ⟨dX11_joins_27, rfl⟩ kX11_194 rfl q_1 rfl (Nat.le_of_ble_eq_true rfl) (Nat.le_of_ble_eq_true rfl) (cN_all nt1 hX1 ?_)
    refine G_aload_0 (nx := 31) ⟨dX11_joins_30, rfl⟩ ?_
    refine G_getr (nx := 34) (k := 0) (r := 22) ⟨dX11_joins_31, rfl⟩ fX11_34 q_0 yr_11_4 (r_0_4 _) ?_
    refine G_geti (nx := 37) (k := 22) ⟨dX11_joins_34, rfl⟩ fX11_197 q_22 yi_0_6 ?_
    refine G_iconst (nx := 38) ⟨dX11_joins_37, rfl⟩ ci_m1 ?_
    refine G_ixor (nx := 39) ⟨dX11_joins_38, rfl⟩ ?_
    refine G_iand (nx := 40) ⟨dX11_joins_39, rfl⟩ ?_
    rw [f6, nI_df _ (by omega), show df (2 ^ n - 1) (feN n gr).2.2.2 = nvN n gr from rfl]
    refine G_istore_2 (nx := 41) ⟨dX11_joins_40, rfl⟩ rfl rfl ?_
    refine G_iload_2 (nx := 42) ⟨dX11_joins_41, rfl⟩ ?_
    refine G_cs1 (nx := 45) ⟨dX11_joins_42, rfl⟩ kX11_223 rfl rfl (Nat.le_of_ble_eq_true rfl) (Nat.le_of_ble_eq_true rfl) (cJ_bc (by omega) ?_)
    refine G_istore_3 (nx := 46) ⟨dX11_joins_45, rfl⟩ rfl rfl ?_
    refine G_iload_1 (nx := 47) ⟨dX11_joins_46, rfl⟩ ?_
    refine G_iconst (nx := 48) ⟨dX11_joins_47, rfl⟩ ci_1 ?_
    refine G_icmpne (tgt := 59) (nx := 51) ⟨dX11_joins_48, rfl⟩ rfl (fun c_48 => ?_) (fun c_48 => ?_)
    · refine G_iload_3 (nx := 60) ⟨dX11_joins_59, rfl⟩ ?_
      refine G_iconst (nx := 61) ⟨dX11_joins_60, rfl⟩ ci_2 ?_
      refine G_icmpge (tgt := 66) (nx := 64) ⟨dX11_joins_61, rfl⟩ rfl (fun c_61 => ?_) (fun c_61 => ?_)
      · rw [show (2 : Int32) = nI 2 by decide, nI_le_iff (by omega) (by omega)] at c_61
        obtain ⟨jn0, jm0, jf⟩ := j3 (by omega)
        have hMl := and_pred_lt jn0
        refine G_iload_2 (nx := 67) ⟨dX11_joins_66, rfl⟩ ?_
        refine G_cs1 (nx := 70) ⟨dX11_joins_67, rfl⟩ kX11_368 rfl rfl (Nat.le_of_ble_eq_true rfl) (Nat.le_of_ble_eq_true rfl) (cJ_tz (by omega) jn0 ?_)
        refine G_istore_4 (nx := 72) ⟨dX11_joins_70, rfl⟩ rfl rfl ?_
        refine G_iload_2 (nx := 73) ⟨dX11_joins_72, rfl⟩ ?_
        refine G_iload_2 (nx := 74) ⟨dX11_joins_73, rfl⟩ ?_
        refine G_iconst (nx := 75) ⟨dX11_joins_74, rfl⟩ ci_1 ?_
        refine G_isub (nx := 76) ⟨dX11_joins_75, rfl⟩ ?_
        refine G_iand (nx := 77) ⟨dX11_joins_76, rfl⟩ ?_
        rw [show (1 : Int32) = nI 1 by decide, nI_sub (by omega), nI_and]
        refine G_cs1 (nx := 80) ⟨dX11_joins_77, rfl⟩ kX11_368 rfl rfl (Nat.le_of_ble_eq_true rfl) (Nat.le_of_ble_eq_true rfl) (cJ_tz (by omega) jm0 ?_)
        refine G_istore_5 (nx := 82) ⟨dX11_joins_80, rfl⟩ rfl rfl ?_
        refine G_bipush (nx := 84) ⟨dX11_joins_82, rfl⟩ cb_12 ?_
        refine G_iload_4 (nx := 86) ⟨dX11_joins_84, rfl⟩ ?_
        refine G_imul (nx := 87) ⟨dX11_joins_86, rfl⟩ ?_
        refine G_iload_5 (nx := 89) ⟨dX11_joins_87, rfl⟩ ?_
        refine G_iadd (nx := 90) ⟨dX11_joins_89, rfl⟩ ?_
        refine G_iret ⟨dX11_joins_90, rfl⟩ rfl ?_
        refine K_v (congrArg Value.int ?_) (hk I1 c_6 hs1)
        have hq0 : q = 0 := (inR01 c_6).resolve_right c_48
        rw [if_pos hq0]
        rw [jf, show (12 : Int32) = nI 12 by decide, pk_mul, nI_add]
        rfl
      · refine G_iconst (nx := 65) ⟨dX11_joins_64, rfl⟩ ci_m1 ?_
        refine G_iret ⟨dX11_joins_65, rfl⟩ rfl ?_
        refine K_v (congrArg Value.int ?_) (hk I1 c_6 hs1)
        have hq0 : q = 0 := (inR01 c_6).resolve_right c_48
        rw [if_pos hq0]
        rw [show (2 : Int32) = nI 2 by decide, nI_le_iff (by omega) (by omega)] at c_61
        rw [j2 (by omega)]
        rfl
    · refine G_iload_3 (nx := 52) ⟨dX11_joins_51, rfl⟩ ?_
      refine G_iload_3 (nx := 53) ⟨dX11_joins_52, rfl⟩ ?_
      refine G_iconst (nx := 54) ⟨dX11_joins_53, rfl⟩ ci_1 ?_
      refine G_isub (nx := 55) ⟨dX11_joins_54, rfl⟩ ?_
      refine G_imul (nx := 56) ⟨dX11_joins_55, rfl⟩ ?_
      refine G_iconst (nx := 57) ⟨dX11_joins_56, rfl⟩ ci_2 ?_
      refine G_idiv (nx := 58) ⟨dX11_joins_57, rfl⟩ (by decide) ?_
      refine G_iret ⟨dX11_joins_58, rfl⟩ rfl ?_
      refine K_v (congrArg Value.int ?_) (hk I1 c_6 hs1)
      rw [mm2 (pc_le _), j1, c_48]
      rfl
  · refine G_bipush (nx := 11) ⟨dX11_joins_9, rfl⟩ cb_m2 ?_
    refine G_iret ⟨dX11_joins_11, rfl⟩ rfl ?_
    rw [bi_0] at c_6
    exact hk1 c_6

end X92
