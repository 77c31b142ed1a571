
theorem cst_oth {k w l p : Int32} (h : ¬ k = 1 ∧ ¬ k = 2 ∧ ¬ k = 3 ∧ ¬ k = 4 ∧ ¬ k = 5) : cst k w l p = w := by
  unfold cst
  simp [h]
theorem kp_b {v m : Nat} (hv : v ≤ 9) (hm : m ≤ 60) : ∃ c, 1 ≤ c ∧ c ≤ 100 ∧ (if (1 : Int32) ≤ nI v + nI m - 2 then nI v + nI m - 2 else 1) = nI c := by
  have e2 : (2 : Int32) = nI 2 := by decide
  rw [nI_add, e2]
  by_cases h : (1 : Int32) ≤ nI (v + m) - nI 2
  · rw [if_pos h]
    rw [i32_le, sub_toInt_nI (by omega) (by omega), toInt_1] at h
    exact ⟨v + m - 2, by omega, by omega, nI_sub (by omega)⟩
  · rw [if_neg h]
    exact ⟨1, by omega, by omega, rfl⟩
theorem cst_b {k : Int32} {v m p : Nat} (hv1 : 1 ≤ v) (hv : v ≤ 9) (hm : m ≤ 60) (hp : p < 60) : ∃ c, 1 ≤ c ∧ c ≤ 100 ∧ cst k (nI v) (nI m) (nI p) = nI c := by
  have e2 : (2 : Int32) = nI 2 := by decide
  have e1' : (1 : Int32) = nI 1 := by decide
  by_cases e1 : k = 1
  · exact ⟨v + m, by omega, by omega, by unfold cst; rw [if_pos e1, nI_add]⟩
  by_cases e22 : k = 2
  · exact ⟨2 * v, by omega, by omega, by unfold cst; rw [if_neg e1, if_pos e22, e2, nI_mul]⟩
  by_cases e3 : k = 3
  · obtain ⟨c, h1, h2, h3⟩ := kp_b (v := v) (m := m) hv hm
    exact ⟨c, h1, h2, by unfold cst; rw [if_neg e1, if_neg e22, if_pos e3]; exact h3⟩
  by_cases e4 : k = 4
  · exact ⟨2 * v + p, by omega, by omega, by unfold cst; rw [if_neg e1, if_neg e22, if_neg e3, if_pos e4, e2, nI_mul, nI_add]⟩
  by_cases e5 : k = 5
  · obtain ⟨c, h1, h2, h3⟩ := kp_b (v := v) (m := m) hv hm
    refine ⟨c / 2 + 1, by omega, by omega, ?_⟩
    unfold cst
    rw [if_neg e1, if_neg e22, if_neg e3, if_neg e4, if_pos e5]
    show (if (1 : Int32) ≤ nI v + nI m - 2 then nI v + nI m - 2 else 1) / 2 + 1 = _
    rw [h3, e2, pk_div (by omega) (by decide) (by decide), nI_1]
  exact ⟨v, hv1, by omega, cst_oth ⟨e1, e22, e3, e4, e5⟩⟩
/-- what points cost, as numbers -/
def PC (n : Nat) (kd wt : Nat → Int32) (gr : Nat → Nat) (v : Nat → Nat) : Prop := ∀ p, p < n → 1 ≤ v p ∧ v p ≤ 100 ∧ cst (kd p) (wt p) (nI (pc (gr p))) (nI p) = nI (v p)
theorem PC_ex {n : Nat} {kd wt : Nat → Int32} {gr : Nat → Nat} (hn : n ≤ 12) (hw : ∀ p, p < n → ∃ v, 1 ≤ v ∧ v ≤ 9 ∧ wt p = nI v) : ∃ v, PC n kd wt gr v := by
  refine ⟨fun p => (cst (kd p) (wt p) (nI (pc (gr p))) (nI p)).toNatClampNeg, fun p hp => ?_⟩
  obtain ⟨v, h1, h2, h3⟩ := hw p hp
  have := pc_le (gr p)
  obtain ⟨c, h4, h5, h6⟩ := cst_b (k := kd p) (v := v) (m := pc (gr p)) (p := p) h1 h2 (by omega) (by omega)
  rw [h3]
  dsimp only
  rw [h3, h6, cl_nI (by omega)]
  exact ⟨h4, h5, rfl⟩
def vsF (v : Nat → Nat) (s p a : Nat) : Nat := a + (if s.testBit p = true then v p else 0)
def vsN (n : Nat) (v : Nat → Nat) (s : Nat) : Nat := lp (vsF v s) n 0
theorem vs_co {kd wt : Nat → Int32} {gr : Nat → Nat} {v : Nat → Nat} {s : Nat} : ∀ n, PC n kd wt gr v → coN n kd wt gr s = nI (vsN n v s) ∧ vsN n v s ≤ 100 * n ∧ vsN n v s ≤ vsN n v (2 ^ n - 1) := by
  have key : ∀ m n, m ≤ n → PC n kd wt gr v → lp (coF kd wt gr s) m 0 = nI (lp (vsF v s) m 0) ∧ lp (vsF v s) m 0 ≤ 100 * m ∧ lp (vsF v s) m 0 ≤ lp (vsF v (2 ^ n - 1)) m 0 := by
    intro m n hm hP
    induction m with
    | zero => exact ⟨nI_0.symm, Nat.le_refl _, Nat.le_refl _⟩
    | succ m ih =>
      obtain ⟨h1, h2, h3⟩ := ih (by omega)
      obtain ⟨p1, p2, p3⟩ := hP m (by omega)
      have ht : (2 ^ n - 1).testBit m = true := by rw [Nat.testBit_two_pow_sub_one]; simp; omega
      rw [lp_s, lp_s, lp_s, coF, vsF, vsF, h1, ht, if_pos rfl]
      by_cases c : s.testBit m = true
      · rw [if_pos c, if_pos c, p3, nI_add]
        exact ⟨rfl, by omega, by omega⟩
      · rw [if_neg c, if_neg c, Int32.add_zero]
        exact ⟨rfl, by omega, by omega⟩
  intro n hP
  exact key n n (Nat.le_refl n) hP
/-- what the search for the cheapest has found among the sets below k -/
def CVd (I : AI) (n : Nat) (gr : Nat → Nat) (co : Nat → Int32) (T k : Nat) : Prop := ((∀ s, s < k → covB n gr s = false) ∧ lp (deF n gr co) k (1000000, -1, 0) = (1000000, -1, 0) ∧ I 22 2 = nI (T + 1)) ∨ ((∃ c, c ≤ T ∧ (lp (deF n gr co) k (1000000, -1, 0)).1 = nI c) ∧ I 22 2 = (lp (deF n gr co) k (1000000, -1, 0)).1 ∧ I 22 3 = (lp (deF n gr co) k (1000000, -1, 0)).2.1 ∧ I 22 4 = (lp (deF n gr co) k (1000000, -1, 0)).2.2)
theorem CVd_cg {I I' : AI} {n : Nat} {gr : Nat → Nat} {co : Nat → Int32} {T k : Nat} (h : CVd I n gr co T k) (e2 : I' 22 2 = I 22 2) (e3 : I' 22 3 = I 22 3) (e4 : I' 22 4 = I 22 4) : CVd I' n gr co T k := by
  unfold CVd at *
  rw [e2, e3, e4]
  exact h
theorem CVd_amt {I : AI} {n : Nat} {gr : Nat → Nat} {co : Nat → Int32} {T k : Nat} (h : CVd I n gr co T k) : ∃ a, a ≤ T + 1 ∧ I 22 2 = nI a := by
  rcases h with ⟨-, -, h⟩ | ⟨⟨c, h1, h2⟩, h3, -⟩
  · exact ⟨T + 1, Nat.le_refl _, h⟩
  · exact ⟨c, by omega, h3.trans h2⟩
theorem CVd_no {I : AI} {n : Nat} {gr : Nat → Nat} {co : Nat → Int32} {T k : Nat} (h : CVd I n gr co T k) (hc : covB n gr k = false) : CVd I n gr co T (k + 1) := by
  have e : lp (deF n gr co) (k + 1) (1000000, -1, 0) = lp (deF n gr co) k (1000000, -1, 0) := by rw [lp_s, deF, if_neg (by rw [hc]; simp)]
  unfold CVd at *
  rw [e]
  rcases h with ⟨h1, h2, h3⟩ | h
  · refine Or.inl ⟨fun s hs => ?_, h2, h3⟩
    by_cases q : s = k
    · rw [q]; exact hc
    · exact h1 s (by omega)
  · exact Or.inr h
theorem CVd_hi {I : AI} {n : Nat} {gr : Nat → Nat} {co : Nat → Int32} {T k a c : Nat} (hT : T < 100000) (h : CVd I n gr co T k) (ha : I 22 2 = nI a) (haT : a ≤ T + 1) (hco : co k = nI c) (hcT : c ≤ T) (hlt : a < c) : CVd I n gr co T (k + 1) := by
  rcases h with ⟨h1, h2, h3⟩ | ⟨⟨c', h1, h2⟩, h3, h4⟩
  · have : a = T + 1 := nI_inj (by omega) (by omega) (ha.symm.trans h3)
    omega
  · have : a = c' := nI_inj (by omega) (by omega) (ha.symm.trans (h3.trans h2))
    subst this
    have e : lp (deF n gr co) (k + 1) (1000000, -1, 0) = lp (deF n gr co) k (1000000, -1, 0) := by
      rw [lp_s, deF, if_neg]
      rintro ⟨-, q⟩
      rw [h2, hco, nI_lt_iff (by omega) (by omega)] at q
      omega
    refine Or.inr ?_
    rw [e]
    exact ⟨⟨a, h1, h2⟩, h3, h4⟩
theorem CVd_new {I I' : AI} {n : Nat} {gr : Nat → Nat} {co : Nat → Int32} {T k a c : Nat} (hT : T < 100000) (h : CVd I n gr co T k) (ha : I 22 2 = nI a) (haT : a ≤ T + 1) (hc : covB n gr k = true) (hco : co k = nI c) (hcT : c ≤ T) (hlt : c < a) (e2 : I' 22 2 = nI c) (e3 : I' 22 3 = nI k) (e4 : I' 22 4 = 1) : CVd I' n gr co T (k + 1) := by
  have hl : ∃ b, b < 2 ^ 31 ∧ c < b ∧ (lp (deF n gr co) k (1000000, -1, 0)).1 = nI b := by
    rcases h with ⟨h1, h2, h3⟩ | ⟨⟨c', h1, h2⟩, h3, h4⟩
    · exact ⟨1000000, by omega, by omega, by rw [h2]; rfl⟩
    · have : a = c' := nI_inj (by omega) (by omega) (ha.symm.trans (h3.trans h2))
      exact ⟨c', by omega, by omega, h2⟩
  obtain ⟨b, hb1, hb2, hb3⟩ := hl
  have e : lp (deF n gr co) (k + 1) (1000000, -1, 0) = (nI c, nI k, 1) := by
    rw [lp_s, deF, hco, hb3, if_pos ⟨hc, by rw [nI_lt_iff (by omega) (by omega)]; omega⟩, if_pos (by rw [nI_lt_iff (by omega) (by omega)]; exact hb2), if_pos (by rw [nI_lt_iff (by omega) (by omega)]; exact hb2)]
  refine Or.inr ?_
  rw [e]
  exact ⟨⟨c, hcT, rfl⟩, e2, e3, e4⟩
theorem CVd_eq {I I' : AI} {n : Nat} {gr : Nat → Nat} {co : Nat → Int32} {T k c : Nat} (hT : T < 100000) (h : CVd I n gr co T k) (ha : I 22 2 = nI c) (hc : covB n gr k = true) (hco : co k = nI c) (hcT : c ≤ T) (e2 : I' 22 2 = I 22 2) (e3 : I' 22 3 = I 22 3) (e4 : I' 22 4 = I 22 4 + 1) : CVd I' n gr co T (k + 1) := by
  rcases h with ⟨h1, h2, h3⟩ | ⟨⟨c', h1, h2⟩, h3, h4, h5⟩
  · have : c = T + 1 := nI_inj (by omega) (by omega) (ha.symm.trans h3)
    omega
  · have : c = c' := nI_inj (by omega) (by omega) (ha.symm.trans (h3.trans h2))
    subst this
    have e : lp (deF n gr co) (k + 1) (1000000, -1, 0) = (nI c, (lp (deF n gr co) k (1000000, -1, 0)).2.1, (lp (deF n gr co) k (1000000, -1, 0)).2.2 + 1) := by
      have hnl : ¬ nI c < nI c := by rw [nI_lt_iff (by omega) (by omega)]; omega
      rw [lp_s, deF, hco, h2, if_pos ⟨hc, hnl⟩, if_neg hnl, if_neg hnl]
    refine Or.inr ?_
    rw [e]
    exact ⟨⟨c, hcT, rfl⟩, e2.trans ha, e3.trans h4, by rw [e4, h5]⟩
theorem CVd_end {I : AI} {n : Nat} {gr : Nat → Nat} {co : Nat → Int32} {T : Nat} (hn : n ≤ 12) (h : CVd I n gr co T (2 ^ n)) : I 22 2 = (deN n gr co).1 ∧ I 22 3 = (deN n gr co).2.1 ∧ I 22 4 = (deN n gr co).2.2 := by
  rcases h with ⟨h1, -⟩ | ⟨-, h⟩
  · have := h1 (2 ^ n - 1) (by have := Nat.two_pow_pos n; omega)
    rw [(le_all (gr := gr) hn).1] at this
    cases this
  · exact h
section X65
variable {l : Launch} {d : Nat} {K : AK} {I : AI} {J : AJ} {g : Bool} {n : Nat} {gr : Nat → Nat}

theorem lC_priceOf {s : Nat} {kd wt : Nat → Int32} (hn : n ≤ 12) (hs : s < 4096) (hpr : ∀ p, p < n → I 23 p = cst (kd p) (wt p) (nI (pc (gr p))) (nI p)) (hk : K (.int (coN n kd wt gr s)) I J (rX g)) : ∀ (k p : Nat), n - p = k → p ≤ n → G l d mX0_priceOf K 5 [.ref 22, .int (nI s), .int (nI n), .int (lp (coF kd wt gr s) p 0), .int (nI p)] [] I J (rX g) := by
  intro k
  induction k using Nat.strongRecOn with
  | _ k ih =>
  intro p hpk hpn
  have ecp := cl_nI (p := p) (by omega)
  refine G_iload_4 (nx := 7) ⟨dX0_priceOf_5, rfl⟩ ?_
  refine G_iload_2 (nx := 8) ⟨dX0_priceOf_7, rfl⟩ ?_
  refine G_icmpge (tgt := 36) (nx := 11) ⟨dX0_priceOf_8, rfl⟩ rfl (fun c_8 => ?_) (fun c_8 => ?_)
  · refine G_iload_3 (nx := 37) ⟨dX0_priceOf_36, rfl⟩ ?_
    refine G_iret ⟨dX0_priceOf_37, rfl⟩ rfl ?_
    rw [nI_le_iff (by omega) (by omega)] at c_8
    have hpe : p = n := by omega
    subst hpe
    exact hk
  · rw [nI_le_iff (by omega) (by omega)] at c_8
    have hp : p < n := by omega
    have h12 := in12 hp hn
    refine G_iload_1 (nx := 12) ⟨dX0_priceOf_11, rfl⟩ ?_
    refine G_iload_4 (nx := 14) ⟨dX0_priceOf_12, rfl⟩ ?_
    refine G_ishr (nx := 15) ⟨dX0_priceOf_14, rfl⟩ ?_
    refine G_iconst (nx := 16) ⟨dX0_priceOf_15, rfl⟩ ci_1 ?_
    refine G_iand (nx := 17) ⟨dX0_priceOf_16, rfl⟩ ?_
    rw [bit_nI (lt31 hs) (by omega)]
    refine G_ifeq (tgt := 30) (nx := 20) ⟨dX0_priceOf_17, rfl⟩ rfl (fun c_17 => ?_) (fun c_17 => ?_)
    · refine G_iinc_4 (nx := 33) ⟨dX0_priceOf_30, rfl⟩ ci_1 rfl ?_
      refine G_goto (tgt := 5) ⟨dX0_priceOf_33, rfl⟩ rfl ?_
      simp only [bi_0, bi_n0] at c_17
      refine G_L (by simp [lp_s, coF, c_17, nI_1]) (ih (n - (p + 1)) (by omega) (p + 1) rfl (by omega))
    · refine G_iload_3 (nx := 21) ⟨dX0_priceOf_20, rfl⟩ ?_
      refine G_aload_0 (nx := 22) ⟨dX0_priceOf_21, rfl⟩ ?_
      refine G_getr (nx := 25) (k := 22) (r := 23) ⟨dX0_priceOf_22, rfl⟩ fX0_9 q_22 yr_0_1 (r_22_1 _) ?_
      refine G_iload_4 (nx := 27) ⟨dX0_priceOf_25, rfl⟩ ?_
      refine G_iald (nx := 28) (k := 23) ⟨dX0_priceOf_27, rfl⟩ q_23 (by first | assumption | decide | (unfold vp_in; decide)) ?_
      rw [ecp, hpr p hp]
      refine G_iadd (nx := 29) ⟨dX0_priceOf_28, rfl⟩ ?_
      refine G_istore_3 (nx := 30) ⟨dX0_priceOf_29, rfl⟩ rfl rfl ?_
      refine G_iinc_4 (nx := 33) ⟨dX0_priceOf_30, rfl⟩ ci_1 rfl ?_
      refine G_goto (tgt := 5) ⟨dX0_priceOf_33, rfl⟩ rfl ?_
      simp only [bi_0, bi_n0] at c_17
      refine G_L (by simp [lp_s, coF, c_17, nI_1]) (ih (n - (p + 1)) (by omega) (p + 1) rfl (by omega))

theorem cC_priceOf {s : Nat} {kd wt : Nat → Int32} (hn : n ≤ 12) (hs : s < 4096) (hpr : ∀ p, p < n → I 23 p = cst (kd p) (wt p) (nI (pc (gr p))) (nI p)) (hk : K (.int (coN n kd wt gr s)) I J (rX g)) : G l d mX0_priceOf K 0 [.ref 22, .int (nI s), .int (nI n), UU, UU] [] I J (rX g) := by
  refine G_iconst (nx := 1) ⟨dX0_priceOf_0, rfl⟩ ci_0 ?_
  refine G_istore_3 (nx := 2) ⟨dX0_priceOf_1, rfl⟩ rfl rfl ?_
  refine G_iconst (nx := 3) ⟨dX0_priceOf_2, rfl⟩ ci_0 ?_
  refine G_istore_4 (nx := 5) ⟨dX0_priceOf_3, rfl⟩ rfl rfl ?_
  exact G_L (by rw [← nI_0]; rfl) (lC_priceOf hn hs hpr hk _ 0 rfl (by omega))

theorem lC_fc1 {kd wt : Nat → Int32} (hX : XG I 1 4 n gr) (hkd : ∀ p, p < n → I 2 p = kd p) (hwt : ∀ p, p < n → I 3 p = wt p) (hgo : ∀ (I' : AI), (∀ p, p < n → I' 23 p = cst (kd p) (wt p) (nI (pc (gr p))) (nI p)) → sb (fE 23) I I' → G l (d + 3) mX0_findCheapest K 37 [.ref 22, .ref 1, .int (nI (2 ^ n - 1)), .int (nI n), UU] [] I' J (rX g)) : ∀ (k p : Nat) (I1 : AI), n - p = k → p ≤ n → (∀ q, q < p → I1 23 q = cst (kd q) (wt q) (nI (pc (gr q))) (nI q)) → sb (fE 23) I I1 → G l (d + 3) mX0_findCheapest K 12 [.ref 22, .ref 1, .int (nI (2 ^ n - 1)), .int (nI p), UU] [] I1 J (rX g) := by
  intro k
  induction k using Nat.strongRecOn with
  | _ k ih =>
  intro p I1 hpk hpn hpr hs1
  have hn := hX.2.1
  have hX1 : XG I1 1 4 n gr := hX.sb hs1 rfl (fun _ => rfl)
  have ecp := cl_nI (p := p) (by omega)
  refine G_iload_3 (nx := 13) ⟨dX0_findCheapest_12, rfl⟩ ?_
  refine G_aload_1 (nx := 14) ⟨dX0_findCheapest_13, rfl⟩ ?_
  refine G_geti (nx := 17) (k := 1) ⟨dX0_findCheapest_14, rfl⟩ fX0_64 q_1 yi_4_4 ?_
  rw [hX1.1]
  refine G_icmpge (tgt := 37) (nx := 20) ⟨dX0_findCheapest_17, rfl⟩ rfl (fun c_17 => ?_) (fun c_17 => ?_)
  · rw [nI_le_iff (by omega) (by omega)] at c_17
    have hpe : p = n := by omega
    subst hpe
    exact hgo I1 hpr hs1
  · rw [nI_le_iff (by omega) (by omega)] at c_17
    have hp : p < n := by omega
    have h12 := in12 hp hn
    refine G_aload_0 (nx := 21) ⟨dX0_findCheapest_20, rfl⟩ ?_
    refine G_getr (nx := 24) (k := 22) (r := 23) ⟨dX0_findCheapest_21, rfl⟩ fX0_9 q_22 yr_0_1 (r_22_1 _) ?_
    refine G_iload_3 (nx := 25) ⟨dX0_findCheapest_24, rfl⟩ ?_
    refine G_aload_1 (nx := 26) ⟨dX0_findCheapest_25, rfl⟩ ?_
    refine G_iload_3 (nx := 27) ⟨dX0_findCheapest_26, rfl⟩ ?_
    refine G_cv1 (nx := 30) ⟨dX0_findCheapest_27, rfl⟩ kX0_67 rfl q_1 rfl (Nat.le_of_ble_eq_true rfl) (Nat.le_of_ble_eq_true rfl) (cN_price nt1 hX1 hp ?_)
    refine G_iast (nx := 31) (k := 23) ⟨dX0_findCheapest_30, rfl⟩ q_23 (by first | assumption | decide | (unfold vp_in; decide)) ?_
    rw [ecp, hs1 2 p rfl, hs1 3 p rfl, hkd p hp, hwt p hp]
    refine G_iinc_3 (nx := 34) ⟨dX0_findCheapest_31, rfl⟩ ci_1 rfl ?_
    refine G_goto (tgt := 12) ⟨dX0_findCheapest_34, rfl⟩ rfl ?_
    refine G_L (by rw [nI_1]) (ih (n - (p + 1)) (by omega) (p + 1) _ rfl (by omega) (fun q hq => ?_) (hs1.w fE_t))
    by_cases e : q = p
    · rw [e, w2_at]
    · rw [w2_ne _ _ _ _ (by omega)]; exact hpr q (by omega)

theorem lC_fc2 {kd wt : Nat → Int32} {v : Nat → Nat} (hX : XG I 1 4 n gr) (hv : PC n kd wt gr v) (hk : ∀ (I' : AI), CVd I' n gr (coN n kd wt gr) (vsN n v (2 ^ n - 1)) (2 ^ n) → sb fC I I' → K .null I' J (rX g)) : ∀ (k s : Nat) (I1 : AI) (x4 : Value), notL x4 = true → 2 ^ n - s = k → s ≤ 2 ^ n → CVd I1 n gr (coN n kd wt gr) (vsN n v (2 ^ n - 1)) s → SP I1 n gr → (∀ p, p < n → I1 23 p = cst (kd p) (wt p) (nI (pc (gr p))) (nI p)) → sb fC I I1 → G l (d + 3) mX0_findCheapest K 50 [.ref 22, .ref 1, .int (nI (2 ^ n - 1)), .int (nI s), x4] [] I1 J (rX g) := by
  intro k
  induction k using Nat.strongRecOn with
  | _ k ih =>
  intro s I1 x4 hx4 hsk hsn hF hS hpr hs1
  have hn := hX.2.1
  have hg := hX.2.2.2
  have hp12 := pow12 hn
  have h1p : 0 < 2 ^ n := Nat.two_pow_pos n
  have hX1 : XG I1 1 4 n gr := hX.sb hs1 rfl (fun _ => rfl)
  have hall := (vs_co (s := 2 ^ n - 1) n hv).2.1
  obtain ⟨hco, hcb, hcT⟩ := vs_co (s := s) n hv
  obtain ⟨a, haT, ha⟩ := CVd_amt hF
  refine G_iload_3 (nx := 51) ⟨dX0_findCheapest_50, rfl⟩ ?_
  refine G_iload_2 (nx := 52) ⟨dX0_findCheapest_51, rfl⟩ ?_
  refine G_icmpgt (tgt := 123) (nx := 55) ⟨dX0_findCheapest_52, rfl⟩ rfl (fun c_52 => ?_) (fun c_52 => ?_)
  · refine G_vret ⟨dX0_findCheapest_123, rfl⟩ rfl ?_
    rw [nI_lt_iff (by omega) (by omega)] at c_52
    have e : s = 2 ^ n := by omega
    subst e
    exact hk I1 hF hs1
  · rw [nI_lt_iff (by omega) (by omega)] at c_52
    have hs : s < 2 ^ n := by omega
    have hs4 : s < 4096 := by omega
    refine G_aload_0 (nx := 56) ⟨dX0_findCheapest_55, rfl⟩ ?_
    refine G_iload_2 (nx := 57) ⟨dX0_findCheapest_56, rfl⟩ ?_
    refine G_iload_3 (nx := 58) ⟨dX0_findCheapest_57, rfl⟩ ?_
    refine G_ixor (nx := 59) ⟨dX0_findCheapest_58, rfl⟩ ?_
    rw [show nI (2 ^ n - 1) ^^^ nI s = nI (cp n s) from nI_xor _ _]
    refine G_cv1 (nx := 62) ⟨dX0_findCheapest_59, rfl⟩ kX0_56 rfl q_22 rfl (Nat.le_of_ble_eq_true rfl) (Nat.le_of_ble_eq_true rfl) (cC_cw hS hn hg hs ?_)
    refine G_ifne (tgt := 68) (nx := 65) ⟨dX0_findCheapest_62, rfl⟩ rfl (fun c_62 => ?_) (fun c_62 => ?_)
    · refine G_aload_0 (nx := 69) ⟨dX0_findCheapest_68, rfl⟩ ?_
      refine G_iload_3 (nx := 70) ⟨dX0_findCheapest_69, rfl⟩ ?_
      refine G_aload_1 (nx := 71) ⟨dX0_findCheapest_70, rfl⟩ ?_
      refine G_geti (nx := 74) (k := 1) ⟨dX0_findCheapest_71, rfl⟩ fX0_64 q_1 yi_4_4 ?_
      rw [hX1.1]
      refine G_cv2 (nx := 77) ⟨dX0_findCheapest_74, rfl⟩ kX0_73 rfl q_22 rfl (Nat.le_of_ble_eq_true rfl) (Nat.le_of_ble_eq_true rfl) (cC_priceOf hn hs4 hpr ?_)
      refine G_istore_4 (nx := 79) ⟨dX0_findCheapest_77, rfl⟩ rfl rfl ?_
      refine G_iload_4 (nx := 81) ⟨dX0_findCheapest_79, rfl⟩ ?_
      refine G_aload_0 (nx := 82) ⟨dX0_findCheapest_81, rfl⟩ ?_
      refine G_geti (nx := 85) (k := 22) ⟨dX0_findCheapest_82, rfl⟩ fX0_15 q_22 yi_0_2 ?_
      rw [ha, hco]
      refine G_icmpge (tgt := 98) (nx := 88) ⟨dX0_findCheapest_85, rfl⟩ rfl (fun c_85 => ?_) (fun c_85 => ?_)
      · refine G_iload_4 (nx := 100) ⟨dX0_findCheapest_98, rfl⟩ ?_
        refine G_aload_0 (nx := 101) ⟨dX0_findCheapest_100, rfl⟩ ?_
        refine G_geti (nx := 104) (k := 22) ⟨dX0_findCheapest_101, rfl⟩ fX0_15 q_22 yi_0_2 ?_
        rw [ha]
        refine G_icmpne (tgt := 117) (nx := 107) ⟨dX0_findCheapest_104, rfl⟩ rfl (fun c_104 => ?_) (fun c_104 => ?_)
        · refine G_iinc_3 (nx := 120) ⟨dX0_findCheapest_117, rfl⟩ ci_1 rfl ?_
          refine G_goto (tgt := 50) ⟨dX0_findCheapest_120, rfl⟩ rfl ?_
          rw [bi_n0] at c_62
          rw [nI_le_iff (by omega) (by omega)] at c_85
          rw [nI_eq (by omega) (by omega)] at c_104
          exact G_L (by rw [nI_1]) (ih (2 ^ n - (s + 1)) (by omega) (s + 1) I1 _ rfl rfl (by omega) (CVd_hi (by omega) hF ha haT hco hcT (by omega)) hS hpr hs1)
        · refine G_aload_0 (nx := 108) ⟨dX0_findCheapest_107, rfl⟩ ?_
          refine G_dup (nx := 109) ⟨dX0_findCheapest_108, rfl⟩ rfl ?_
          refine G_geti (nx := 112) (k := 22) ⟨dX0_findCheapest_109, rfl⟩ fX0_22 q_22 yi_0_4 ?_
          refine G_iconst (nx := 113) ⟨dX0_findCheapest_112, rfl⟩ ci_1 ?_
          refine G_iadd (nx := 114) ⟨dX0_findCheapest_113, rfl⟩ ?_
          refine G_puti (nx := 117) (k := 22) ⟨dX0_findCheapest_114, rfl⟩ pX0_22 q_22 yt_0_4 ?_
          refine G_iinc_3 (nx := 120) ⟨dX0_findCheapest_117, rfl⟩ ci_1 rfl ?_
          refine G_goto (tgt := 50) ⟨dX0_findCheapest_120, rfl⟩ rfl ?_
          rw [bi_n0] at c_62
          rw [nI_le_iff (by omega) (by omega)] at c_85
          rw [nI_eq (by omega) (by omega)] at c_104
          exact G_L (by rw [nI_1]) (ih (2 ^ n - (s + 1)) (by omega) (s + 1) _ _ rfl rfl (by omega) (CVd_eq (by omega) hF (by rw [c_104]; exact ha) c_62 hco hcT (by rw [w2_ne _ _ _ _ (by decide)]) (by rw [w2_ne _ _ _ _ (by decide)]) (by rw [w2_at])) (fun t ht => by rw [w2_row _ _ _ _ (show ¬ 21 = 22 by decide)]; exact hS t ht) (fun t ht => by rw [w2_row _ _ _ _ (show ¬ 23 = 22 by decide)]; exact hpr t ht) (hs1.w rfl))
      · refine G_aload_0 (nx := 89) ⟨dX0_findCheapest_88, rfl⟩ ?_
        refine G_iload_3 (nx := 90) ⟨dX0_findCheapest_89, rfl⟩ ?_
        refine G_iload_4 (nx := 92) ⟨dX0_findCheapest_90, rfl⟩ ?_
        refine G_cvv2 (nx := 95) ⟨dX0_findCheapest_92, rfl⟩ kX0_60 rfl q_22 rfl (Nat.le_of_ble_eq_true rfl) (Nat.le_of_ble_eq_true rfl) (cC_startWith ?_)
        refine G_goto (tgt := 117) ⟨dX0_findCheapest_95, rfl⟩ rfl ?_
        refine G_iinc_3 (nx := 120) ⟨dX0_findCheapest_117, rfl⟩ ci_1 rfl ?_
        refine G_goto (tgt := 50) ⟨dX0_findCheapest_120, rfl⟩ rfl ?_
        rw [bi_n0] at c_62
        rw [nI_le_iff (by omega) (by omega)] at c_85
        exact G_L (by rw [nI_1]) (ih (2 ^ n - (s + 1)) (by omega) (s + 1) _ _ rfl rfl (by omega) (CVd_new (by omega) hF ha haT c_62 hco hcT (by omega) (by rw [w2_ne _ _ _ _ (by decide), w2_ne _ _ _ _ (by decide), w2_ne _ _ _ _ (by decide), w2_ne _ _ _ _ (by decide), w2_at]) (by rw [w2_ne _ _ _ _ (by decide), w2_ne _ _ _ _ (by decide), w2_ne _ _ _ _ (by decide), w2_at]) (by rw [w2_ne _ _ _ _ (by decide), w2_ne _ _ _ _ (by decide), w2_at])) (fun t ht => by rw [w2_row _ _ _ _ (show ¬ 21 = 22 by decide), w2_row _ _ _ _ (show ¬ 21 = 22 by decide), w2_row _ _ _ _ (show ¬ 21 = 22 by decide), w2_row _ _ _ _ (show ¬ 21 = 22 by decide), w2_row _ _ _ _ (show ¬ 21 = 22 by decide)]; exact hS t ht) (fun t ht => by rw [w2_row _ _ _ _ (show ¬ 23 = 22 by decide), w2_row _ _ _ _ (show ¬ 23 = 22 by decide), w2_row _ _ _ _ (show ¬ 23 = 22 by decide), w2_row _ _ _ _ (show ¬ 23 = 22 by decide), w2_row _ _ _ _ (show ¬ 23 = 22 by decide)]; exact hpr t ht) (((((hs1.w rfl).w rfl).w rfl).w rfl).w rfl))
    · refine G_goto (tgt := 117) ⟨dX0_findCheapest_65, rfl⟩ rfl ?_
      refine G_iinc_3 (nx := 120) ⟨dX0_findCheapest_117, rfl⟩ ci_1 rfl ?_
      refine G_goto (tgt := 50) ⟨dX0_findCheapest_120, rfl⟩ rfl ?_
      rw [bi_0] at c_62
      exact G_L (by rw [nI_1]) (ih (2 ^ n - (s + 1)) (by omega) (s + 1) I1 _ hx4 rfl (by omega) (CVd_no hF c_62) hS hpr hs1)

theorem cC_findCheapest {kd wt : Nat → Int32} (hX : XG I 1 4 n gr) (hkd : ∀ p, p < n → I 2 p = kd p) (hwt : ∀ p, p < n → I 3 p = wt p) (hw : ∀ p, p < n → ∃ v, 1 ≤ v ∧ v ≤ 9 ∧ wt p = nI v) (hk : ∀ (I' : AI), I' 22 2 = (deN n gr (coN n kd wt gr)).1 → I' 22 3 = (deN n gr (coN n kd wt gr)).2.1 → I' 22 4 = (deN n gr (coN n kd wt gr)).2.2 → sb fC I I' → K .null I' J (rX g)) : G l (d + 4) mX0_findCheapest K 0 [.ref 22, .ref 1, UU, UU, UU] [] I J (rX g) := by
  have hn := hX.2.1
  have hp12 := pow12 hn
  have h1p : 0 < 2 ^ n := Nat.two_pow_pos n
  obtain ⟨v, hv⟩ := PC_ex (kd := kd) (gr := gr) hn hw
  refine G_aload_1 (nx := 1) ⟨dX0_findCheapest_0, rfl⟩ ?_
  refine G_cv0 (nx := 4) ⟨dX0_findCheapest_1, rfl⟩ kX0_34 rfl q_1 rfl (Nat.le_of_ble_eq_true rfl) (Nat.le_of_ble_eq_true rfl) (cN_all nt1 hX ?_)
  refine G_istore_2 (nx := 5) ⟨dX0_findCheapest_4, rfl⟩ rfl rfl ?_
  refine G_aload_0 (nx := 6) ⟨dX0_findCheapest_5, rfl⟩ ?_
  refine G_aload_1 (nx := 7) ⟨dX0_findCheapest_6, rfl⟩ ?_
  refine G_cvv1 (nx := 10) ⟨dX0_findCheapest_7, rfl⟩ kX0_49 rfl q_22 rfl (Nat.le_of_ble_eq_true rfl) (Nat.le_of_ble_eq_true rfl) (cC_spread hX (fun I1 hS hs1 => ?_))
  refine G_iconst (nx := 11) ⟨dX0_findCheapest_10, rfl⟩ ci_0 ?_
  refine G_istore_3 (nx := 12) ⟨dX0_findCheapest_11, rfl⟩ rfl rfl ?_
  have hs2 : sb fC I I1 := hs1.mono (fun a b h => by simp only [fC, fE, Bool.or_eq_false_iff] at *; exact h.1.1)
  have hX1 : XG I1 1 4 n gr := hX.sb hs2 rfl (fun _ => rfl)
  refine G_L (by rw [← nI_0]) (lC_fc1 (d := d + 1) (kd := kd) (wt := wt) hX1 (fun p hp => (hs2 2 p rfl).trans (hkd p hp)) (fun p hp => (hs2 3 p rfl).trans (hwt p hp)) (fun I2 hpr hs3 => ?_) _ 0 I1 rfl (Nat.zero_le _) (fun q hq => absurd hq (by omega)) sb.rf)
  have hs4 : sb fC I I2 := hs2.tr (hs3.mono (fun a b h => by simp only [fC, fE, Bool.or_eq_false_iff] at *; exact h.1.2))
  have hX2 : XG I2 1 4 n gr := hX.sb hs4 rfl (fun _ => rfl)
  have hcoA := vs_co (s := 2 ^ n - 1) n hv
  refine G_aload_0 (nx := 38) ⟨dX0_findCheapest_37, rfl⟩ ?_
  refine G_aload_1 (nx := 39) ⟨dX0_findCheapest_38, rfl⟩ ?_
  refine G_iload_2 (nx := 40) ⟨dX0_findCheapest_39, rfl⟩ ?_
  refine G_cv1 (nx := 43) ⟨dX0_findCheapest_40, rfl⟩ kX0_70 rfl q_1 rfl (Nat.le_of_ble_eq_true rfl) (Nat.le_of_ble_eq_true rfl) (cN_priceOfAll (kd := kd) (wt := wt) nt1 hX2 (fun p hp => (hs4 2 p rfl).trans (hkd p hp)) (fun p hp => (hs4 3 p rfl).trans (hwt p hp)) (show 2 ^ n - 1 < 4096 by omega) ?_)
  refine G_iconst (nx := 44) ⟨dX0_findCheapest_43, rfl⟩ ci_1 ?_
  refine G_iadd (nx := 45) ⟨dX0_findCheapest_44, rfl⟩ ?_
  rw [hcoA.1, nI_1]
  refine G_puti (nx := 48) (k := 22) ⟨dX0_findCheapest_45, rfl⟩ pX0_15 q_22 yt_0_2 ?_
  refine G_iconst (nx := 49) ⟨dX0_findCheapest_48, rfl⟩ ci_0 ?_
  refine G_istore_3 (nx := 50) ⟨dX0_findCheapest_49, rfl⟩ rfl rfl ?_
  refine G_L (by rw [← nI_0]) (lC_fc2 (d := d + 1) hX hv (fun I3 h1 h2 => ?_) _ 0 _ UU rfl rfl (Nat.zero_le _) (Or.inl ⟨fun s hs => absurd hs (by omega), rfl, w2_at _ _ _ _⟩) (fun t ht => by rw [w2_row _ _ _ _ (show ¬ 21 = 22 by decide), hs3 21 t rfl]; exact hS t ht) (fun p hp => by rw [w2_row _ _ _ _ (show ¬ 23 = 22 by decide)]; exact hpr p hp) (hs4.w rfl))
  obtain ⟨r1, r2, r3⟩ := CVd_end hn h1
  exact hk I3 r1 r2 r3 h2
  

end X65
