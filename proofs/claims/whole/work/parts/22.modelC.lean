def setb (x b on : Nat) : Nat := df x (2 ^ b) ||| on * 2 ^ b
def layG (gr : Nat → Nat) (a b on : Nat) : Nat → Nat := fun p => if p = a then setb (gr a) b on else if p = b then setb (gr b) a on else gr p
theorem setb_lt {x b on n : Nat} (hx : x < 2 ^ n) (hb : b < n) (ho : on ≤ 1) : setb x b on < 2 ^ n := by
  unfold setb
  refine Nat.or_lt_two_pow (Nat.lt_of_le_of_lt (df_le _ _) hx) ?_
  have h1 : 2 ^ b < 2 ^ n := Nat.pow_lt_pow_right (by omega) hb
  rcases (show on = 0 ∨ on = 1 by omega) with h | h <;> subst h <;> simp
  · exact Nat.two_pow_pos n
  · exact h1
theorem w2_ne {α : Type} (f : Nat → Nat → α) (k j : Nat) (v : α) {a b : Nat} (h : ¬ (a = k ∧ b = j)) : w2 f k j v a b = f a b := by simp [w2, h]
theorem MG.w {I : AI} {n : Nat} {gr : Nat → Nat} (h : MG I n gr) {k j : Nat} {v : Int32} (h1 : ¬ (75 = k ∧ 0 = j)) (h2 : ¬ 78 = k) : MG (w2 I k j v) n gr := by
  refine ⟨by rw [w2_ne _ _ _ _ h1]; exact h.1, h.2.1, fun p hp => ?_, h.2.2.2⟩
  rw [w2_row _ _ _ _ h2]
  exact h.2.2.1 p hp
theorem MG.lay {I : AI} {n : Nat} {gr : Nat → Nat} (h : MG I n gr) {a b on : Nat} (ha : a < n) (hb : b < n) (hab : ¬ a = b) (ho : on ≤ 1) : MG (w2 (w2 I 78 a (nI (setb (gr a) b on))) 78 b (nI (setb (gr b) a on))) n (layG gr a b on) := by
  refine ⟨by rw [w2_ne _ _ _ _ (by omega), w2_ne _ _ _ _ (by omega)]; exact h.1, h.2.1, fun p hp => ?_, fun p hp => ?_⟩
  · unfold layG
    by_cases e1 : p = a
    · subst e1
      rw [if_pos rfl, w2_ne _ _ _ _ (by omega), w2_at]
    · rw [if_neg e1]
      by_cases e2 : p = b
      · subst e2
        rw [if_pos rfl, w2_at]
      · rw [if_neg e2, w2_ne _ _ _ _ (by omega), w2_ne _ _ _ _ (by omega)]
        exact h.2.2.1 p hp
  · unfold layG
    by_cases e1 : p = a
    · subst e1
      rw [if_pos rfl]
      exact setb_lt (h.2.2.2 p hp) hb ho
    · rw [if_neg e1]
      by_cases e2 : p = b
      · subst e2
        rw [if_pos rfl]
        exact setb_lt (h.2.2.2 p hp) ha ho
      · rw [if_neg e2]
        exact h.2.2.2 p hp
theorem setb_nI {x b on : Nat} (hx : x < 4096) (hb : b < 12) (ho : on ≤ 1) : nI x &&& (((1 : Int32) <<< (nI b &&& 31)) ^^^ (-1)) ||| (nI on <<< (nI b &&& 31)) = nI (setb x b on) := by
  have h1 : 2 ^ b ≤ 2 ^ 11 := Nat.pow_le_pow_right (by omega) (by omega)
  have h2 : on * 2 ^ b ≤ 2 ^ 11 := by
    rcases (show on = 0 ∨ on = 1 by omega) with h | h <;> subst h <;> simp
    simpa using h1
  rw [one_shl (by omega), nI_df _ (by omega), shl_nI on (by omega) (by omega), nI_or]
  rfl
/-- lines in all -/
def lnF (gr : Nat → Nat) (p : Nat) (a : Nat) : Nat := a + pc (gr p)
def lnN (n : Nat) (gr : Nat → Nat) : Nat := lp (lnF gr) n 0 / 2
theorem lnF_le (gr : Nat → Nat) : ∀ n, lp (lnF gr) n 0 ≤ 12 * n := by
  intro n
  induction n with
  | zero => simp [lp]
  | succ k ih => have := pc_le (gr k); simp only [lp, lnF]; omega
def loF (gr : Nat → Nat) (p : Nat) (a : Nat) : Nat := a + (if gr p = 0 then 1 else 0)
def loN (n : Nat) (gr : Nat → Nat) : Nat := lp (loF gr) n 0
/-- cost of a set -/
def coF (kd wt : Nat → Int32) (gr : Nat → Nat) (s : Nat) (p : Nat) (a : Int32) : Int32 := a + (if s.testBit p then cst (kd p) (wt p) (nI (pc (gr p))) (nI p) else 0)
def coN (n : Nat) (kd wt : Nat → Int32) (gr : Nat → Nat) (s : Nat) : Int32 := lp (coF kd wt gr s) n 0
/-- the least size of a cover -/
def leF (n : Nat) (gr : Nat → Nat) (s : Nat) (b : Nat) : Nat := if pc s < b ∧ covB n gr s = true then pc s else b
def leN (n : Nat) (gr : Nat → Nat) : Nat := lp (leF n gr) (2 ^ n) n
theorem leF_le (n : Nat) (gr : Nat → Nat) : ∀ k, lp (leF n gr) k n ≤ n := by
  intro k
  induction k with
  | zero => exact Nat.le_refl _
  | succ k ih => simp only [lp, leF]; split <;> omega
theorem sw_ne05 {x : Int32} (h : x.toInt < 0 ∨ 5 < x.toInt) : ¬ x = 0 ∧ ¬ x = 1 ∧ ¬ x = 2 ∧ ¬ x = 3 ∧ ¬ x = 4 ∧ ¬ x = 5 := by
  refine ⟨?_, ?_, ?_, ?_, ?_, ?_⟩ <;> (intro q; subst q; revert h; decide)
section M22
variable {l : Launch} {d : Nat} {K : AK} {I : AI} {J : AJ} {g : Bool} {n : Nat} {gr : Nat → Nat}

theorem cM_comes {k v : Int32} {m : Nat} (hm : I 75 0 = nI m) (h12 : m < 12) (hk : K .null (w2 (w2 (w2 (w2 I 76 m k) 77 m v) 78 m 0) 75 0 (nI (m + 1))) J (rX g)) : G l d mX12_comes K 0 [.ref 75, .int k, .int v] [] I J (rX g) := by
  have hin : vp_in (nI m) 12 := vp_in_nI h12 (by decide)
  have ec := cl_nI (p := m) (by omega)
  refine G_aload_0 (nx := 1) ⟨dX12_comes_0, rfl⟩ ?_
  refine G_getr (nx := 4) (k := 75) (r := 76) ⟨dX12_comes_1, rfl⟩ fX12_13 q_75 yr_12_2 (r_75_2 _) ?_
  refine G_aload_0 (nx := 5) ⟨dX12_comes_4, rfl⟩ ?_
  refine G_geti (nx := 8) (k := 75) ⟨dX12_comes_5, rfl⟩ fX12_122 q_75 yi_12_0 ?_
  rw [hm]
  refine G_iload_1 (nx := 9) ⟨dX12_comes_8, rfl⟩ ?_
  refine G_iast (nx := 10) (k := 76) ⟨dX12_comes_9, rfl⟩ q_76 (by first | assumption | decide) ?_
  refine G_aload_0 (nx := 11) ⟨dX12_comes_10, rfl⟩ ?_
  refine G_getr (nx := 14) (k := 75) (r := 77) ⟨dX12_comes_11, rfl⟩ fX12_17 q_75 yr_12_3 (r_75_3 _) ?_
  refine G_aload_0 (nx := 15) ⟨dX12_comes_14, rfl⟩ ?_
  refine G_geti (nx := 18) (k := 75) ⟨dX12_comes_15, rfl⟩ fX12_122 q_75 yi_12_0 ?_
  simp only [w2_row _ _ _ _ (show ¬ 75 = 76 by decide)]
  rw [hm]
  refine G_iload_2 (nx := 19) ⟨dX12_comes_18, rfl⟩ ?_
  refine G_iast (nx := 20) (k := 77) ⟨dX12_comes_19, rfl⟩ q_77 (by first | assumption | decide) ?_
  refine G_aload_0 (nx := 21) ⟨dX12_comes_20, rfl⟩ ?_
  refine G_getr (nx := 24) (k := 75) (r := 78) ⟨dX12_comes_21, rfl⟩ fX12_20 q_75 yr_12_4 (r_75_4 _) ?_
  refine G_aload_0 (nx := 25) ⟨dX12_comes_24, rfl⟩ ?_
  refine G_geti (nx := 28) (k := 75) ⟨dX12_comes_25, rfl⟩ fX12_122 q_75 yi_12_0 ?_
  simp only [w2_row _ _ _ _ (show ¬ 75 = 76 by decide), w2_row _ _ _ _ (show ¬ 75 = 77 by decide)]
  rw [hm]
  refine G_iconst (nx := 29) ⟨dX12_comes_28, rfl⟩ ci_0 ?_
  refine G_iast (nx := 30) (k := 78) ⟨dX12_comes_29, rfl⟩ q_78 (by first | assumption | decide) ?_
  refine G_aload_0 (nx := 31) ⟨dX12_comes_30, rfl⟩ ?_
  refine G_dup (nx := 32) ⟨dX12_comes_31, rfl⟩ rfl ?_
  refine G_geti (nx := 35) (k := 75) ⟨dX12_comes_32, rfl⟩ fX12_122 q_75 yi_12_0 ?_
  simp only [w2_row _ _ _ _ (show ¬ 75 = 76 by decide), w2_row _ _ _ _ (show ¬ 75 = 77 by decide), w2_row _ _ _ _ (show ¬ 75 = 78 by decide)]
  rw [hm]
  refine G_iconst (nx := 36) ⟨dX12_comes_35, rfl⟩ ci_1 ?_
  refine G_iadd (nx := 37) ⟨dX12_comes_36, rfl⟩ ?_
  refine G_puti (nx := 40) (k := 75) ⟨dX12_comes_37, rfl⟩ pX12_122 q_75 yt_12_0 ?_
  refine G_vret ⟨dX12_comes_40, rfl⟩ rfl ?_
  rw [ec, nI_1]
  exact hk

theorem cM_lays {a b on : Nat} (hG : MG I n gr) (ha : a < n) (hb : b < n) (hab : ¬ a = b) (ho : on ≤ 1) (hk : K .null (w2 (w2 I 78 a (nI (setb (gr a) b on))) 78 b (nI (setb (gr b) a on))) J (rX g)) : G l d mX12_lays K 0 [.ref 75, .int (nI a), .int (nI b), .int (nI on)] [] I J (rX g) := by
  have hn := hG.2.1
  have h1 := in12 ha hn
  have h2 := in12 hb hn
  have e1 := cl_nI (p := a) (by omega)
  have e2 := cl_nI (p := b) (by omega)
  refine G_aload_0 (nx := 1) ⟨dX12_lays_0, rfl⟩ ?_
  refine G_getr (nx := 4) (k := 75) (r := 78) ⟨dX12_lays_1, rfl⟩ fX12_20 q_75 yr_12_4 (r_75_4 _) ?_
  refine G_iload_1 (nx := 5) ⟨dX12_lays_4, rfl⟩ ?_
  refine G_aload_0 (nx := 6) ⟨dX12_lays_5, rfl⟩ ?_
  refine G_getr (nx := 9) (k := 75) (r := 78) ⟨dX12_lays_6, rfl⟩ fX12_20 q_75 yr_12_4 (r_75_4 _) ?_
  refine G_iload_1 (nx := 10) ⟨dX12_lays_9, rfl⟩ ?_
  refine G_iald (nx := 11) (k := 78) ⟨dX12_lays_10, rfl⟩ q_78 (by first | assumption | decide) ?_
  rw [hG.row ha]
  refine G_iconst (nx := 12) ⟨dX12_lays_11, rfl⟩ ci_1 ?_
  refine G_iload_2 (nx := 13) ⟨dX12_lays_12, rfl⟩ ?_
  refine G_ishl (nx := 14) ⟨dX12_lays_13, rfl⟩ ?_
  refine G_iconst (nx := 15) ⟨dX12_lays_14, rfl⟩ ci_m1 ?_
  refine G_ixor (nx := 16) ⟨dX12_lays_15, rfl⟩ ?_
  refine G_iand (nx := 17) ⟨dX12_lays_16, rfl⟩ ?_
  refine G_iload_3 (nx := 18) ⟨dX12_lays_17, rfl⟩ ?_
  refine G_iload_2 (nx := 19) ⟨dX12_lays_18, rfl⟩ ?_
  refine G_ishl (nx := 20) ⟨dX12_lays_19, rfl⟩ ?_
  refine G_ior (nx := 21) ⟨dX12_lays_20, rfl⟩ ?_
  rw [setb_nI (hG.lt ha) (by omega) ho]
  refine G_iast (nx := 22) (k := 78) ⟨dX12_lays_21, rfl⟩ q_78 (by first | assumption | decide) ?_
  refine G_aload_0 (nx := 23) ⟨dX12_lays_22, rfl⟩ ?_
  refine G_getr (nx := 26) (k := 75) (r := 78) ⟨dX12_lays_23, rfl⟩ fX12_20 q_75 yr_12_4 (r_75_4 _) ?_
  refine G_iload_2 (nx := 27) ⟨dX12_lays_26, rfl⟩ ?_
  refine G_aload_0 (nx := 28) ⟨dX12_lays_27, rfl⟩ ?_
  refine G_getr (nx := 31) (k := 75) (r := 78) ⟨dX12_lays_28, rfl⟩ fX12_20 q_75 yr_12_4 (r_75_4 _) ?_
  refine G_iload_2 (nx := 32) ⟨dX12_lays_31, rfl⟩ ?_
  refine G_iald (nx := 33) (k := 78) ⟨dX12_lays_32, rfl⟩ q_78 (by first | assumption | decide) ?_
  rw [e1, e2, w2_ne _ _ _ _ (by omega), hG.2.2.1 b hb]
  refine G_iconst (nx := 34) ⟨dX12_lays_33, rfl⟩ ci_1 ?_
  refine G_iload_1 (nx := 35) ⟨dX12_lays_34, rfl⟩ ?_
  refine G_ishl (nx := 36) ⟨dX12_lays_35, rfl⟩ ?_
  refine G_iconst (nx := 37) ⟨dX12_lays_36, rfl⟩ ci_m1 ?_
  refine G_ixor (nx := 38) ⟨dX12_lays_37, rfl⟩ ?_
  refine G_iand (nx := 39) ⟨dX12_lays_38, rfl⟩ ?_
  refine G_iload_3 (nx := 40) ⟨dX12_lays_39, rfl⟩ ?_
  refine G_iload_1 (nx := 41) ⟨dX12_lays_40, rfl⟩ ?_
  refine G_ishl (nx := 42) ⟨dX12_lays_41, rfl⟩ ?_
  refine G_ior (nx := 43) ⟨dX12_lays_42, rfl⟩ ?_
  rw [setb_nI (hG.lt hb) (by omega) ho]
  refine G_iast (nx := 44) (k := 78) ⟨dX12_lays_43, rfl⟩ q_78 (by first | assumption | decide) ?_
  refine G_vret ⟨dX12_lays_44, rfl⟩ rfl ?_
  rw [e2]
  exact hk

theorem cM_areTwo {a b : Int32} (hG : MG I n gr) (hk : K (.int (bi (ptB n a && ptB n b && !decide (a = b)))) I J (rX g)) : G l (d + 2) mX12_areTwo K 0 [.ref 75, .int a, .int b] [] I J (rX g) := by
  refine G_aload_0 (nx := 1) ⟨dX12_areTwo_0, rfl⟩ ?_
  refine G_iload_1 (nx := 2) ⟨dX12_areTwo_1, rfl⟩ ?_
  refine G_cv1 (nx := 5) ⟨dX12_areTwo_2, rfl⟩ kX12_145 rfl q_75 rfl (Nat.le_of_ble_eq_true rfl) (Nat.le_of_ble_eq_true rfl) (cM_isPoint hG ?_)
  refine G_ifeq (tgt := 25) (nx := 8) ⟨dX12_areTwo_5, rfl⟩ rfl (fun c_5 => ?_) (fun c_5 => ?_)
  · refine G_iconst (nx := 26) ⟨dX12_areTwo_25, rfl⟩ ci_0 ?_
    refine G_zret ⟨dX12_areTwo_26, rfl⟩ rfl (by first | assumption | decide | exact bi_01 _) ?_
    (try simp only [bi_0, bi_n0] at c_5)
    refine K_v (congrArg Value.int ?_) hk
    simp [c_5, bi]
  · refine G_aload_0 (nx := 9) ⟨dX12_areTwo_8, rfl⟩ ?_
    refine G_iload_2 (nx := 10) ⟨dX12_areTwo_9, rfl⟩ ?_
    refine G_cv1 (nx := 13) ⟨dX12_areTwo_10, rfl⟩ kX12_145 rfl q_75 rfl (Nat.le_of_ble_eq_true rfl) (Nat.le_of_ble_eq_true rfl) (cM_isPoint hG ?_)
    refine G_ifeq (tgt := 25) (nx := 16) ⟨dX12_areTwo_13, rfl⟩ rfl (fun c_13 => ?_) (fun c_13 => ?_)
    · refine G_iconst (nx := 26) ⟨dX12_areTwo_25, rfl⟩ ci_0 ?_
      refine G_zret ⟨dX12_areTwo_26, rfl⟩ rfl (by first | assumption | decide | exact bi_01 _) ?_
      (try simp only [bi_0, bi_n0] at c_5 c_13)
      refine K_v (congrArg Value.int ?_) hk
      simp [c_5, c_13, bi]
    · refine G_iload_1 (nx := 17) ⟨dX12_areTwo_16, rfl⟩ ?_
      refine G_iload_2 (nx := 18) ⟨dX12_areTwo_17, rfl⟩ ?_
      refine G_icmpeq (tgt := 25) (nx := 21) ⟨dX12_areTwo_18, rfl⟩ rfl (fun c_18 => ?_) (fun c_18 => ?_)
      · refine G_iconst (nx := 26) ⟨dX12_areTwo_25, rfl⟩ ci_0 ?_
        refine G_zret ⟨dX12_areTwo_26, rfl⟩ rfl (by first | assumption | decide | exact bi_01 _) ?_
        (try simp only [bi_0, bi_n0] at c_5 c_13 c_18)
        refine K_v (congrArg Value.int ?_) hk
        simp [c_5, c_13, c_18, bi]
      · refine G_iconst (nx := 22) ⟨dX12_areTwo_21, rfl⟩ ci_1 ?_
        refine G_goto (tgt := 26) ⟨dX12_areTwo_22, rfl⟩ rfl ?_
        refine G_zret ⟨dX12_areTwo_26, rfl⟩ rfl (by first | assumption | decide | exact bi_01 _) ?_
        (try simp only [bi_0, bi_n0] at c_5 c_13 c_18)
        refine K_v (congrArg Value.int ?_) hk
        simp [c_5, c_13, c_18, bi]

theorem lM_lineMany (hG : MG I n gr) (hk : K (.int (nI (lnN n gr))) I J (rX g)) : ∀ (k p : Nat), n - p = k → p ≤ n → G l (d + 1) mX12_lineMany K 4 [.ref 75, .int (nI (lp (lnF gr) p 0)), .int (nI p)] [] I J (rX g) := by
  intro k
  induction k using Nat.strongRecOn with
  | _ k ih =>
  intro p hpk hpn
  have hn := hG.2.1
  have e0 := hG.1
  refine G_iload_2 (nx := 5) ⟨dX12_lineMany_4, rfl⟩ ?_
  refine G_aload_0 (nx := 6) ⟨dX12_lineMany_5, rfl⟩ ?_
  refine G_geti (nx := 9) (k := 75) ⟨dX12_lineMany_6, rfl⟩ fX12_122 q_75 yi_12_0 ?_
  rw [e0]
  refine G_icmpge (tgt := 30) (nx := 12) ⟨dX12_lineMany_9, rfl⟩ rfl (fun c_9 => ?_) (fun c_9 => ?_)
  · refine G_iload_1 (nx := 31) ⟨dX12_lineMany_30, rfl⟩ ?_
    refine G_iconst (nx := 32) ⟨dX12_lineMany_31, rfl⟩ ci_2 ?_
    refine G_idiv (nx := 33) ⟨dX12_lineMany_32, rfl⟩ (by decide) ?_
    refine G_iret ⟨dX12_lineMany_33, rfl⟩ rfl ?_
    rw [nI_le_iff (by omega) (by omega)] at c_9
    have hpe : p = n := by omega
    subst hpe
    have h2 : (2 : Int32) = nI 2 := by decide
    rw [h2, pk_div (by have := lnF_le gr p; omega) (by decide) (by decide)]
    exact hk
  · rw [nI_le_iff (by omega) (by omega)] at c_9
    have hp : p < n := by omega
    have h12 := in12 hp hn
    refine G_iload_1 (nx := 13) ⟨dX12_lineMany_12, rfl⟩ ?_
    refine G_aload_0 (nx := 14) ⟨dX12_lineMany_13, rfl⟩ ?_
    refine G_getr (nx := 17) (k := 75) (r := 78) ⟨dX12_lineMany_14, rfl⟩ fX12_20 q_75 yr_12_4 (r_75_4 _) ?_
    refine G_iload_2 (nx := 18) ⟨dX12_lineMany_17, rfl⟩ ?_
    refine G_iald (nx := 19) (k := 78) ⟨dX12_lineMany_18, rfl⟩ q_78 (by first | assumption | decide) ?_
    rw [hG.row hp]
    refine G_cs1 (nx := 22) ⟨dX12_lineMany_19, rfl⟩ kX12_133 rfl rfl (Nat.le_of_ble_eq_true rfl) (Nat.le_of_ble_eq_true rfl) (cM_bits (hG.lt hp) ?_)
    refine G_iadd (nx := 23) ⟨dX12_lineMany_22, rfl⟩ ?_
    refine G_istore_1 (nx := 24) ⟨dX12_lineMany_23, rfl⟩ rfl rfl ?_
    refine G_iinc_2 (nx := 27) ⟨dX12_lineMany_24, rfl⟩ ci_1 rfl ?_
    refine G_goto (tgt := 4) ⟨dX12_lineMany_27, rfl⟩ rfl ?_
    refine G_L (by rw [nI_add, nI_1]; rfl) (ih (n - (p + 1)) (by omega) (p + 1) rfl (by omega))

theorem cM_lineMany (hG : MG I n gr) (hk : K (.int (nI (lnN n gr))) I J (rX g)) : G l (d + 1) mX12_lineMany K 0 [.ref 75, UU, UU] [] I J (rX g) := by
  refine G_iconst (nx := 1) ⟨dX12_lineMany_0, rfl⟩ ci_0 ?_
  refine G_istore_1 (nx := 2) ⟨dX12_lineMany_1, rfl⟩ rfl rfl ?_
  refine G_iconst (nx := 3) ⟨dX12_lineMany_2, rfl⟩ ci_0 ?_
  refine G_istore_2 (nx := 4) ⟨dX12_lineMany_3, rfl⟩ rfl rfl ?_
  exact lM_lineMany hG hk _ 0 rfl (Nat.zero_le _)

theorem lM_count {q : Int32} (hG : MG I n gr) (hk : K (.int (if q = 0 then nI n else if q = 1 then nI (lnN n gr) else if q = 2 then nI (loN n gr) else if q = 3 then I 75 25 else if q = 4 then I 75 1 else if q = 5 then I 75 26 else -2)) I J (rX g)) : ∀ (k p : Nat), n - p = k → p ≤ n → G l (d + 2) mX12_count K 4 [.ref 75, .int q, .int (nI (lp (loF gr) p 0)), .int (nI p)] [] I J (rX g) := by
  intro k
  induction k using Nat.strongRecOn with
  | _ k ih =>
  intro p hpk hpn
  have hn := hG.2.1
  have e0 := hG.1
  refine G_iload_3 (nx := 5) ⟨dX12_count_4, rfl⟩ ?_
  refine G_aload_0 (nx := 6) ⟨dX12_count_5, rfl⟩ ?_
  refine G_geti (nx := 9) (k := 75) ⟨dX12_count_6, rfl⟩ fX12_122 q_75 yi_12_0 ?_
  rw [e0]
  refine G_icmpge (tgt := 35) (nx := 12) ⟨dX12_count_9, rfl⟩ rfl (fun c_9 => ?_) (fun c_9 => ?_)
  · refine G_iload_1 (nx := 36) ⟨dX12_count_35, rfl⟩ ?_
    rcases sw_0_5 _ with c_36 | c_36 | c_36 | c_36 | c_36 | c_36 | c_36
    · refine G_tabAt (v := 0) (tgt := 76) (nx := 76) ⟨dX12_count_36, rfl⟩ c_36 (by decide) (by decide) (off := 40) rfl rfl ?_
      refine G_aload_0 (nx := 77) ⟨dX12_count_76, rfl⟩ ?_
      refine G_geti (nx := 80) (k := 75) ⟨dX12_count_77, rfl⟩ fX12_122 q_75 yi_12_0 ?_
      refine G_iret ⟨dX12_count_80, rfl⟩ rfl ?_
      rw [nI_le_iff (by omega) (by omega)] at c_9
      have hpe : p = n := by omega
      subst hpe
      try rw [e0]
      refine K_v (congrArg Value.int ?_) hk
      simp [c_36, loN]
    · refine G_tabAt (v := 1) (tgt := 81) (nx := 76) ⟨dX12_count_36, rfl⟩ c_36 (by decide) (by decide) (off := 45) rfl rfl ?_
      refine G_aload_0 (nx := 82) ⟨dX12_count_81, rfl⟩ ?_
      refine G_cv0 (nx := 85) ⟨dX12_count_82, rfl⟩ kX12_159 rfl q_75 rfl (Nat.le_of_ble_eq_true rfl) (Nat.le_of_ble_eq_true rfl) (cM_lineMany hG ?_)
      refine G_iret ⟨dX12_count_85, rfl⟩ rfl ?_
      rw [nI_le_iff (by omega) (by omega)] at c_9
      have hpe : p = n := by omega
      subst hpe
      try rw [e0]
      refine K_v (congrArg Value.int ?_) hk
      simp [c_36, loN]
    · refine G_tabAt (v := 2) (tgt := 86) (nx := 76) ⟨dX12_count_36, rfl⟩ c_36 (by decide) (by decide) (off := 50) rfl rfl ?_
      refine G_iload_2 (nx := 87) ⟨dX12_count_86, rfl⟩ ?_
      refine G_iret ⟨dX12_count_87, rfl⟩ rfl ?_
      rw [nI_le_iff (by omega) (by omega)] at c_9
      have hpe : p = n := by omega
      subst hpe
      try rw [e0]
      refine K_v (congrArg Value.int ?_) hk
      simp [c_36, loN]
    · refine G_tabAt (v := 3) (tgt := 88) (nx := 76) ⟨dX12_count_36, rfl⟩ c_36 (by decide) (by decide) (off := 52) rfl rfl ?_
      refine G_aload_0 (nx := 89) ⟨dX12_count_88, rfl⟩ ?_
      refine G_geti (nx := 92) (k := 75) ⟨dX12_count_89, rfl⟩ fX12_162 q_75 yi_12_25 ?_
      refine G_iret ⟨dX12_count_92, rfl⟩ rfl ?_
      rw [nI_le_iff (by omega) (by omega)] at c_9
      have hpe : p = n := by omega
      subst hpe
      try rw [e0]
      refine K_v (congrArg Value.int ?_) hk
      simp [c_36, loN]
    · refine G_tabAt (v := 4) (tgt := 93) (nx := 76) ⟨dX12_count_36, rfl⟩ c_36 (by decide) (by decide) (off := 57) rfl rfl ?_
      refine G_aload_0 (nx := 94) ⟨dX12_count_93, rfl⟩ ?_
      refine G_geti (nx := 97) (k := 75) ⟨dX12_count_94, rfl⟩ fX12_7 q_75 yi_12_1 ?_
      refine G_iret ⟨dX12_count_97, rfl⟩ rfl ?_
      rw [nI_le_iff (by omega) (by omega)] at c_9
      have hpe : p = n := by omega
      subst hpe
      try rw [e0]
      refine K_v (congrArg Value.int ?_) hk
      simp [c_36, loN]
    · refine G_tabAt (v := 5) (tgt := 98) (nx := 76) ⟨dX12_count_36, rfl⟩ c_36 (by decide) (by decide) (off := 62) rfl rfl ?_
      refine G_aload_0 (nx := 99) ⟨dX12_count_98, rfl⟩ ?_
      refine G_geti (nx := 102) (k := 75) ⟨dX12_count_99, rfl⟩ fX12_165 q_75 yi_12_26 ?_
      refine G_iret ⟨dX12_count_102, rfl⟩ rfl ?_
      rw [nI_le_iff (by omega) (by omega)] at c_9
      have hpe : p = n := by omega
      subst hpe
      try rw [e0]
      refine K_v (congrArg Value.int ?_) hk
      simp [c_36, loN]
    · refine G_tabOut (tgt := 103) (nx := 76) ⟨dX12_count_36, rfl⟩ c_36 rfl ?_
      refine G_bipush (nx := 105) ⟨dX12_count_103, rfl⟩ cb_m2 ?_
      refine G_iret ⟨dX12_count_105, rfl⟩ rfl ?_
      rw [nI_le_iff (by omega) (by omega)] at c_9
      have hpe : p = n := by omega
      subst hpe
      try rw [e0]
      refine K_v (congrArg Value.int ?_) hk
      simp [sw_ne05 c_36, loN]
  · rw [nI_le_iff (by omega) (by omega)] at c_9
    have hp : p < n := by omega
    have h12 := in12 hp hn
    refine G_iload_2 (nx := 13) ⟨dX12_count_12, rfl⟩ ?_
    refine G_aload_0 (nx := 14) ⟨dX12_count_13, rfl⟩ ?_
    refine G_getr (nx := 17) (k := 75) (r := 78) ⟨dX12_count_14, rfl⟩ fX12_20 q_75 yr_12_4 (r_75_4 _) ?_
    refine G_iload_3 (nx := 18) ⟨dX12_count_17, rfl⟩ ?_
    refine G_iald (nx := 19) (k := 78) ⟨dX12_count_18, rfl⟩ q_78 (by first | assumption | decide) ?_
    rw [hG.row hp]
    refine G_ifne (tgt := 26) (nx := 22) ⟨dX12_count_19, rfl⟩ rfl (fun c_19 => ?_) (fun c_19 => ?_)
    · refine G_iconst (nx := 27) ⟨dX12_count_26, rfl⟩ ci_0 ?_
      refine G_iadd (nx := 28) ⟨dX12_count_27, rfl⟩ ?_
      refine G_istore_2 (nx := 29) ⟨dX12_count_28, rfl⟩ rfl rfl ?_
      refine G_iinc_3 (nx := 32) ⟨dX12_count_29, rfl⟩ ci_1 rfl ?_
      refine G_goto (tgt := 4) ⟨dX12_count_32, rfl⟩ rfl ?_
      rw [nI_0iff (by have := hG.lt hp; omega)] at c_19
      refine G_L ?_ (ih (n - (p + 1)) (by omega) (p + 1) rfl (by omega))
      simp only [lp_s, loF, c_19, nI_1, if_pos, if_neg, not_false_eq_true, Int32.add_zero, Nat.add_zero]
    · refine G_iconst (nx := 23) ⟨dX12_count_22, rfl⟩ ci_1 ?_
      refine G_goto (tgt := 27) ⟨dX12_count_23, rfl⟩ rfl ?_
      refine G_iadd (nx := 28) ⟨dX12_count_27, rfl⟩ ?_
      refine G_istore_2 (nx := 29) ⟨dX12_count_28, rfl⟩ rfl rfl ?_
      refine G_iinc_3 (nx := 32) ⟨dX12_count_29, rfl⟩ ci_1 rfl ?_
      refine G_goto (tgt := 4) ⟨dX12_count_32, rfl⟩ rfl ?_
      rw [nI_0iff (by have := hG.lt hp; omega)] at c_19
      refine G_L ?_ (ih (n - (p + 1)) (by omega) (p + 1) rfl (by omega))
      simp only [lp_s, loF, c_19, nI_1, if_pos, if_neg, not_false_eq_true, Int32.add_zero, Nat.add_zero]

theorem cM_count {q : Int32} (hG : MG I n gr) (hk : K (.int (if q = 0 then nI n else if q = 1 then nI (lnN n gr) else if q = 2 then nI (loN n gr) else if q = 3 then I 75 25 else if q = 4 then I 75 1 else if q = 5 then I 75 26 else -2)) I J (rX g)) : G l (d + 2) mX12_count K 0 [.ref 75, .int q, UU, UU] [] I J (rX g) := by
  refine G_iconst (nx := 1) ⟨dX12_count_0, rfl⟩ ci_0 ?_
  refine G_istore_2 (nx := 2) ⟨dX12_count_1, rfl⟩ rfl rfl ?_
  refine G_iconst (nx := 3) ⟨dX12_count_2, rfl⟩ ci_0 ?_
  refine G_istore_3 (nx := 4) ⟨dX12_count_3, rfl⟩ rfl rfl ?_
  exact lM_count hG hk _ 0 rfl (Nat.zero_le _)

theorem lM_isBare {s : Nat} (hG : MG I n gr) (hs : s < 4096) (hk : K (.int (bi (barB n gr s))) I J (rX g)) : ∀ (k p : Nat), n - p = k → p ≤ n → G l (d + 2) mX12_isBare K 8 [.ref 75, .int (nI s), .int (bi (lp (brF gr s) p (covB n gr s))), .int (nI p)] [] I J (rX g) := by
  intro k
  induction k using Nat.strongRecOn with
  | _ k ih =>
  intro p hpk hpn
  have hn := hG.2.1
  have e0 := hG.1
  refine G_iload_3 (nx := 9) ⟨dX12_isBare_8, rfl⟩ ?_
  refine G_aload_0 (nx := 10) ⟨dX12_isBare_9, rfl⟩ ?_
  refine G_geti (nx := 13) (k := 75) ⟨dX12_isBare_10, rfl⟩ fX12_122 q_75 yi_12_0 ?_
  rw [e0]
  refine G_icmpge (tgt := 53) (nx := 16) ⟨dX12_isBare_13, rfl⟩ rfl (fun c_13 => ?_) (fun c_13 => ?_)
  · refine G_iload_2 (nx := 54) ⟨dX12_isBare_53, rfl⟩ ?_
    refine G_zret ⟨dX12_isBare_54, rfl⟩ rfl (by exact bi_01 _) ?_
    rw [nI_le_iff (by omega) (by omega)] at c_13
    have hpe : p = n := by omega
    subst hpe
    exact hk
  · rw [nI_le_iff (by omega) (by omega)] at c_13
    have hp : p < n := by omega
    have h12 := in12 hp hn
    refine G_iload_2 (nx := 17) ⟨dX12_isBare_16, rfl⟩ ?_
    refine G_ifeq (tgt := 45) (nx := 20) ⟨dX12_isBare_17, rfl⟩ rfl (fun c_17 => ?_) (fun c_17 => ?_)
    · refine G_iconst (nx := 46) ⟨dX12_isBare_45, rfl⟩ ci_0 ?_
      refine G_istore_2 (nx := 47) ⟨dX12_isBare_46, rfl⟩ rfl rfl ?_
      refine G_iinc_3 (nx := 50) ⟨dX12_isBare_47, rfl⟩ ci_1 rfl ?_
      refine G_goto (tgt := 8) ⟨dX12_isBare_50, rfl⟩ rfl ?_
      rw [bi_0] at c_17
      refine G_L (by simp [lp_s, brF, c_17, nI_1, bi]) (ih (n - (p + 1)) (by omega) (p + 1) rfl (by omega))
    · rw [bi_n0] at c_17
      refine G_iload_1 (nx := 21) ⟨dX12_isBare_20, rfl⟩ ?_
      refine G_iload_3 (nx := 22) ⟨dX12_isBare_21, rfl⟩ ?_
      refine G_cs2 (nx := 25) ⟨dX12_isBare_22, rfl⟩ kX12_118 rfl rfl (Nat.le_of_ble_eq_true rfl) (Nat.le_of_ble_eq_true rfl) (cM_has (lt31 hs) (by omega) ?_)
      refine G_ifeq (tgt := 41) (nx := 28) ⟨dX12_isBare_25, rfl⟩ rfl (fun c_25 => ?_) (fun c_25 => ?_)
      · refine G_iconst (nx := 42) ⟨dX12_isBare_41, rfl⟩ ci_1 ?_
        refine G_goto (tgt := 46) ⟨dX12_isBare_42, rfl⟩ rfl ?_
        refine G_istore_2 (nx := 47) ⟨dX12_isBare_46, rfl⟩ rfl rfl ?_
        refine G_iinc_3 (nx := 50) ⟨dX12_isBare_47, rfl⟩ ci_1 rfl ?_
        refine G_goto (tgt := 8) ⟨dX12_isBare_50, rfl⟩ rfl ?_
        rw [bi_0] at c_25
        refine G_L (by simp [lp_s, brF, c_17, c_25, nI_1, bi]) (ih (n - (p + 1)) (by omega) (p + 1) rfl (by omega))
      · rw [bi_n0] at c_25
        refine G_aload_0 (nx := 29) ⟨dX12_isBare_28, rfl⟩ ?_
        refine G_getr (nx := 32) (k := 75) (r := 78) ⟨dX12_isBare_29, rfl⟩ fX12_20 q_75 yr_12_4 (r_75_4 _) ?_
        refine G_iload_3 (nx := 33) ⟨dX12_isBare_32, rfl⟩ ?_
        refine G_iald (nx := 34) (k := 78) ⟨dX12_isBare_33, rfl⟩ q_78 (by first | assumption | decide) ?_
        rw [hG.row hp]
        refine G_iload_1 (nx := 35) ⟨dX12_isBare_34, rfl⟩ ?_
        refine G_iconst (nx := 36) ⟨dX12_isBare_35, rfl⟩ ci_m1 ?_
        refine G_ixor (nx := 37) ⟨dX12_isBare_36, rfl⟩ ?_
        refine G_iand (nx := 38) ⟨dX12_isBare_37, rfl⟩ ?_
        rw [nI_df _ (by have := hG.lt hp; omega)]
        refine G_ifeq (tgt := 45) (nx := 41) ⟨dX12_isBare_38, rfl⟩ rfl (fun c_38 => ?_) (fun c_38 => ?_)
        · refine G_iconst (nx := 46) ⟨dX12_isBare_45, rfl⟩ ci_0 ?_
          refine G_istore_2 (nx := 47) ⟨dX12_isBare_46, rfl⟩ rfl rfl ?_
          refine G_iinc_3 (nx := 50) ⟨dX12_isBare_47, rfl⟩ ci_1 rfl ?_
          refine G_goto (tgt := 8) ⟨dX12_isBare_50, rfl⟩ rfl ?_
          rw [nI_0iff (Nat.lt_of_le_of_lt (df_le _ _) (by have := hG.lt hp; omega))] at c_38
          refine G_L (by simp [lp_s, brF, c_17, c_25, c_38, nI_1, bi]) (ih (n - (p + 1)) (by omega) (p + 1) rfl (by omega))
        · refine G_iconst (nx := 42) ⟨dX12_isBare_41, rfl⟩ ci_1 ?_
          refine G_goto (tgt := 46) ⟨dX12_isBare_42, rfl⟩ rfl ?_
          refine G_istore_2 (nx := 47) ⟨dX12_isBare_46, rfl⟩ rfl rfl ?_
          refine G_iinc_3 (nx := 50) ⟨dX12_isBare_47, rfl⟩ ci_1 rfl ?_
          refine G_goto (tgt := 8) ⟨dX12_isBare_50, rfl⟩ rfl ?_
          rw [nI_0iff (Nat.lt_of_le_of_lt (df_le _ _) (by have := hG.lt hp; omega))] at c_38
          refine G_L (by simp [lp_s, brF, c_17, c_25, c_38, nI_1, bi]) (ih (n - (p + 1)) (by omega) (p + 1) rfl (by omega))

theorem cM_isBare {s : Nat} (hG : MG I n gr) (hs : s < 4096) (hk : K (.int (bi (barB n gr s))) I J (rX g)) : G l (d + 2) mX12_isBare K 0 [.ref 75, .int (nI s), UU, UU] [] I J (rX g) := by
  refine G_aload_0 (nx := 1) ⟨dX12_isBare_0, rfl⟩ ?_
  refine G_iload_1 (nx := 2) ⟨dX12_isBare_1, rfl⟩ ?_
  refine G_cv1 (nx := 5) ⟨dX12_isBare_2, rfl⟩ kX12_168 rfl q_75 rfl (Nat.le_of_ble_eq_true rfl) (Nat.le_of_ble_eq_true rfl) (cM_covers hG hs ?_)
  refine G_istore_2 (nx := 6) ⟨dX12_isBare_5, rfl⟩ rfl rfl ?_
  refine G_iconst (nx := 7) ⟨dX12_isBare_6, rfl⟩ ci_0 ?_
  refine G_istore_3 (nx := 8) ⟨dX12_isBare_7, rfl⟩ rfl rfl ?_
  exact lM_isBare hG hs hk _ 0 rfl (Nat.zero_le _)

theorem cM_isCover {s : Int32} (hG : MG I n gr) (hk1 : stB n s = false → K (.int (-2)) I J (rX g)) (hk : ∀ a, a < 2 ^ n → s = nI a → K (.int (if barB n gr a = true then 2 else bi (covB n gr a))) I J (rX g)) : G l (d + 3) mX12_isCover K 0 [.ref 75, .int s] [] I J (rX g) := by
  refine G_aload_0 (nx := 1) ⟨dX12_isCover_0, rfl⟩ ?_
  refine G_iload_1 (nx := 2) ⟨dX12_isCover_1, rfl⟩ ?_
  refine G_cv1 (nx := 5) ⟨dX12_isCover_2, rfl⟩ kX12_171 rfl q_75 rfl (Nat.le_of_ble_eq_true rfl) (Nat.le_of_ble_eq_true rfl) (cM_isSet hG ?_)
  refine G_ifne (tgt := 13) (nx := 8) ⟨dX12_isCover_5, rfl⟩ rfl (fun c_5 => ?_) (fun c_5 => ?_)
  · rw [bi_n0] at c_5
    obtain ⟨a, ha, ea⟩ := stB_ex hG.2.1 c_5
    subst ea
    have ha4 := Nat.lt_of_lt_of_le ha (pow12 hG.2.1)
    refine G_aload_0 (nx := 14) ⟨dX12_isCover_13, rfl⟩ ?_
    refine G_iload_1 (nx := 15) ⟨dX12_isCover_14, rfl⟩ ?_
    refine G_cv1 (nx := 18) ⟨dX12_isCover_15, rfl⟩ kX12_174 rfl q_75 rfl (Nat.le_of_ble_eq_true rfl) (Nat.le_of_ble_eq_true rfl) (cM_isBare hG ha4 ?_)
    refine G_ifeq (tgt := 25) (nx := 21) ⟨dX12_isCover_18, rfl⟩ rfl (fun c_18 => ?_) (fun c_18 => ?_)
    · refine G_aload_0 (nx := 26) ⟨dX12_isCover_25, rfl⟩ ?_
      refine G_iload_1 (nx := 27) ⟨dX12_isCover_26, rfl⟩ ?_
      refine G_cv1 (nx := 30) ⟨dX12_isCover_27, rfl⟩ kX12_168 rfl q_75 rfl (Nat.le_of_ble_eq_true rfl) (Nat.le_of_ble_eq_true rfl) (cM_covers hG ha4 ?_)
      refine G_ifeq (tgt := 37) (nx := 33) ⟨dX12_isCover_30, rfl⟩ rfl (fun c_30 => ?_) (fun c_30 => ?_)
      · refine G_iconst (nx := 38) ⟨dX12_isCover_37, rfl⟩ ci_0 ?_
        refine G_iret ⟨dX12_isCover_38, rfl⟩ rfl ?_
        (try simp only [bi_0, bi_n0] at c_5 c_18 c_30)
        refine K_v (congrArg Value.int ?_) (hk a ha rfl)
        simp [c_5, c_18, c_30, bi]
      · refine G_iconst (nx := 34) ⟨dX12_isCover_33, rfl⟩ ci_1 ?_
        refine G_goto (tgt := 38) ⟨dX12_isCover_34, rfl⟩ rfl ?_
        refine G_iret ⟨dX12_isCover_38, rfl⟩ rfl ?_
        (try simp only [bi_0, bi_n0] at c_5 c_18 c_30)
        refine K_v (congrArg Value.int ?_) (hk a ha rfl)
        simp [c_5, c_18, c_30, bi]
    · refine G_iconst (nx := 22) ⟨dX12_isCover_21, rfl⟩ ci_2 ?_
      refine G_goto (tgt := 38) ⟨dX12_isCover_22, rfl⟩ rfl ?_
      refine G_iret ⟨dX12_isCover_38, rfl⟩ rfl ?_
      (try simp only [bi_0, bi_n0] at c_5 c_18)
      refine K_v (congrArg Value.int ?_) (hk a ha rfl)
      simp [c_5, c_18, bi]
  · rw [bi_0] at c_5
    refine G_bipush (nx := 10) ⟨dX12_isCover_8, rfl⟩ cb_m2 ?_
    refine G_goto (tgt := 38) ⟨dX12_isCover_10, rfl⟩ rfl ?_
    refine G_iret ⟨dX12_isCover_38, rfl⟩ rfl ?_
    exact hk1 c_5

theorem lM_costs {s : Nat} {kd wt : Nat → Int32} (hG : MG I n gr) (hkd : ∀ p, p < n → I 76 p = kd p) (hwt : ∀ p, p < n → I 77 p = wt p) (hs : s < 4096) (hk : K (.int (coN n kd wt gr s)) I J (rX g)) : ∀ (k p : Nat), n - p = k → p ≤ n → G l (d + 2) mX12_costs K 4 [.ref 75, .int (nI s), .int (lp (coF kd wt gr s) p 0), .int (nI p)] [] I J (rX g) := by
  intro k
  induction k using Nat.strongRecOn with
  | _ k ih =>
  intro p hpk hpn
  have hn := hG.2.1
  have e0 := hG.1
  refine G_iload_3 (nx := 5) ⟨dX12_costs_4, rfl⟩ ?_
  refine G_aload_0 (nx := 6) ⟨dX12_costs_5, rfl⟩ ?_
  refine G_geti (nx := 9) (k := 75) ⟨dX12_costs_6, rfl⟩ fX12_122 q_75 yi_12_0 ?_
  rw [e0]
  refine G_icmpge (tgt := 38) (nx := 12) ⟨dX12_costs_9, rfl⟩ rfl (fun c_9 => ?_) (fun c_9 => ?_)
  · refine G_iload_2 (nx := 39) ⟨dX12_costs_38, rfl⟩ ?_
    refine G_iret ⟨dX12_costs_39, rfl⟩ rfl ?_
    rw [nI_le_iff (by omega) (by omega)] at c_9
    have hpe : p = n := by omega
    subst hpe
    exact hk
  · rw [nI_le_iff (by omega) (by omega)] at c_9
    have hp : p < n := by omega
    have h12 := in12 hp hn
    refine G_iload_2 (nx := 13) ⟨dX12_costs_12, rfl⟩ ?_
    refine G_iload_1 (nx := 14) ⟨dX12_costs_13, rfl⟩ ?_
    refine G_iload_3 (nx := 15) ⟨dX12_costs_14, rfl⟩ ?_
    refine G_cs2 (nx := 18) ⟨dX12_costs_15, rfl⟩ kX12_118 rfl rfl (Nat.le_of_ble_eq_true rfl) (Nat.le_of_ble_eq_true rfl) (cM_has (lt31 hs) (by omega) ?_)
    refine G_ifeq (tgt := 29) (nx := 21) ⟨dX12_costs_18, rfl⟩ rfl (fun c_18 => ?_) (fun c_18 => ?_)
    · refine G_iconst (nx := 30) ⟨dX12_costs_29, rfl⟩ ci_0 ?_
      refine G_iadd (nx := 31) ⟨dX12_costs_30, rfl⟩ ?_
      refine G_istore_2 (nx := 32) ⟨dX12_costs_31, rfl⟩ rfl rfl ?_
      refine G_iinc_3 (nx := 35) ⟨dX12_costs_32, rfl⟩ ci_1 rfl ?_
      refine G_goto (tgt := 4) ⟨dX12_costs_35, rfl⟩ rfl ?_
      simp only [bi_0, bi_n0] at c_18
      refine G_L (by simp [lp_s, coF, c_18, nI_1, hkd p hp, hwt p hp]) (ih (n - (p + 1)) (by omega) (p + 1) rfl (by omega))
    · refine G_aload_0 (nx := 22) ⟨dX12_costs_21, rfl⟩ ?_
      refine G_iload_3 (nx := 23) ⟨dX12_costs_22, rfl⟩ ?_
      refine G_cv1 (nx := 26) ⟨dX12_costs_23, rfl⟩ kX12_156 rfl q_75 rfl (Nat.le_of_ble_eq_true rfl) (Nat.le_of_ble_eq_true rfl) (cM_costAt hG hp ?_)
      refine G_goto (tgt := 30) ⟨dX12_costs_26, rfl⟩ rfl ?_
      refine G_iadd (nx := 31) ⟨dX12_costs_30, rfl⟩ ?_
      refine G_istore_2 (nx := 32) ⟨dX12_costs_31, rfl⟩ rfl rfl ?_
      refine G_iinc_3 (nx := 35) ⟨dX12_costs_32, rfl⟩ ci_1 rfl ?_
      refine G_goto (tgt := 4) ⟨dX12_costs_35, rfl⟩ rfl ?_
      simp only [bi_0, bi_n0] at c_18
      refine G_L (by simp [lp_s, coF, c_18, nI_1, hkd p hp, hwt p hp]) (ih (n - (p + 1)) (by omega) (p + 1) rfl (by omega))

theorem cM_costs {s : Nat} {kd wt : Nat → Int32} (hG : MG I n gr) (hkd : ∀ p, p < n → I 76 p = kd p) (hwt : ∀ p, p < n → I 77 p = wt p) (hs : s < 4096) (hk : K (.int (coN n kd wt gr s)) I J (rX g)) : G l (d + 2) mX12_costs K 0 [.ref 75, .int (nI s), UU, UU] [] I J (rX g) := by
  refine G_iconst (nx := 1) ⟨dX12_costs_0, rfl⟩ ci_0 ?_
  refine G_istore_2 (nx := 2) ⟨dX12_costs_1, rfl⟩ rfl rfl ?_
  refine G_iconst (nx := 3) ⟨dX12_costs_2, rfl⟩ ci_0 ?_
  refine G_istore_3 (nx := 4) ⟨dX12_costs_3, rfl⟩ rfl rfl ?_
  exact lM_costs hG hkd hwt hs hk _ 0 rfl (Nat.zero_le _)

theorem cM_costOf {s : Int32} {kd wt : Nat → Int32} (hG : MG I n gr) (hkd : ∀ p, p < n → I 76 p = kd p) (hwt : ∀ p, p < n → I 77 p = wt p) (hk1 : stB n s = false → K (.int (-2)) I J (rX g)) (hk : ∀ a, a < 2 ^ n → s = nI a → K (.int (coN n kd wt gr a)) I J (rX g)) : G l (d + 3) mX12_costOf K 0 [.ref 75, .int s] [] I J (rX g) := by
  refine G_aload_0 (nx := 1) ⟨dX12_costOf_0, rfl⟩ ?_
  refine G_iload_1 (nx := 2) ⟨dX12_costOf_1, rfl⟩ ?_
  refine G_cv1 (nx := 5) ⟨dX12_costOf_2, rfl⟩ kX12_171 rfl q_75 rfl (Nat.le_of_ble_eq_true rfl) (Nat.le_of_ble_eq_true rfl) (cM_isSet hG ?_)
  refine G_ifeq (tgt := 16) (nx := 8) ⟨dX12_costOf_5, rfl⟩ rfl (fun c_5 => ?_) (fun c_5 => ?_)
  · rw [bi_0] at c_5
    refine G_bipush (nx := 18) ⟨dX12_costOf_16, rfl⟩ cb_m2 ?_
    refine G_iret ⟨dX12_costOf_18, rfl⟩ rfl ?_
    first | exact hk1 c_5 | exact hk a ha rfl
  · rw [bi_n0] at c_5
    obtain ⟨a, ha, ea⟩ := stB_ex hG.2.1 c_5
    subst ea
    have ha4 := Nat.lt_of_lt_of_le ha (pow12 hG.2.1)
    refine G_aload_0 (nx := 9) ⟨dX12_costOf_8, rfl⟩ ?_
    refine G_iload_1 (nx := 10) ⟨dX12_costOf_9, rfl⟩ ?_
    refine G_cv1 (nx := 13) ⟨dX12_costOf_10, rfl⟩ kX12_177 rfl q_75 rfl (Nat.le_of_ble_eq_true rfl) (Nat.le_of_ble_eq_true rfl) (cM_costs hG hkd hwt ha4 ?_)
    refine G_goto (tgt := 18) ⟨dX12_costOf_13, rfl⟩ rfl ?_
    refine G_iret ⟨dX12_costOf_18, rfl⟩ rfl ?_
    first | exact hk1 c_5 | exact hk a ha rfl

theorem lM_least (hG : MG I n gr) (hk : K (.int (nI (leN n gr))) I J (rX g)) : ∀ (k s : Nat), 2 ^ n - s = k → s ≤ 2 ^ n → G l (d + 2) mX12_least K 7 [.ref 75, .int (nI (lp (leF n gr) s n)), .int (nI s)] [] I J (rX g) := by
  intro k
  induction k using Nat.strongRecOn with
  | _ k ih =>
  intro s hsk hsn
  have hn := hG.2.1
  have e0 := hG.1
  have hp2 := pow12 hn
  have h1p : 0 < 2 ^ n := Nat.two_pow_pos n
  have hle := leF_le n gr s
  refine G_iload_2 (nx := 8) ⟨dX12_least_7, rfl⟩ ?_
  refine G_aload_0 (nx := 9) ⟨dX12_least_8, rfl⟩ ?_
  refine G_cv0 (nx := 12) ⟨dX12_least_9, rfl⟩ kX12_129 rfl q_75 rfl (Nat.le_of_ble_eq_true rfl) (Nat.le_of_ble_eq_true rfl) (cM_all hG ?_)
  refine G_icmpgt (tgt := 46) (nx := 15) ⟨dX12_least_12, rfl⟩ rfl (fun c_12 => ?_) (fun c_12 => ?_)
  · refine G_iload_1 (nx := 47) ⟨dX12_least_46, rfl⟩ ?_
    refine G_iret ⟨dX12_least_47, rfl⟩ rfl ?_
    rw [nI_lt_iff (by omega) (by omega)] at c_12
    have hse : s = 2 ^ n := by omega
    subst hse
    exact hk
  · rw [nI_lt_iff (by omega) (by omega)] at c_12
    have hs : s < 2 ^ n := by omega
    have hs4 : s < 4096 := by omega
    have hpc := pc_le s
    refine G_iload_2 (nx := 16) ⟨dX12_least_15, rfl⟩ ?_
    refine G_cs1 (nx := 19) ⟨dX12_least_16, rfl⟩ kX12_133 rfl rfl (Nat.le_of_ble_eq_true rfl) (Nat.le_of_ble_eq_true rfl) (cM_bits hs4 ?_)
    refine G_iload_1 (nx := 20) ⟨dX12_least_19, rfl⟩ ?_
    refine G_icmpge (tgt := 38) (nx := 23) ⟨dX12_least_20, rfl⟩ rfl (fun c_20 => ?_) (fun c_20 => ?_)
    · refine G_iload_1 (nx := 39) ⟨dX12_least_38, rfl⟩ ?_
      refine G_istore_1 (nx := 40) ⟨dX12_least_39, rfl⟩ rfl rfl ?_
      refine G_iinc_2 (nx := 43) ⟨dX12_least_40, rfl⟩ ci_1 rfl ?_
      refine G_goto (tgt := 7) ⟨dX12_least_43, rfl⟩ rfl ?_
      rw [nI_le_iff (by omega) (by omega)] at c_20
      refine G_L ?_ (ih (2 ^ n - (s + 1)) (by omega) (s + 1) rfl (by omega))
      simp [lp_s, leF, nI_1, show ¬ pc s < lp (leF n gr) s n by omega]
    · rw [nI_le_iff (by omega) (by omega)] at c_20
      refine G_aload_0 (nx := 24) ⟨dX12_least_23, rfl⟩ ?_
      refine G_iload_2 (nx := 25) ⟨dX12_least_24, rfl⟩ ?_
      refine G_cv1 (nx := 28) ⟨dX12_least_25, rfl⟩ kX12_168 rfl q_75 rfl (Nat.le_of_ble_eq_true rfl) (Nat.le_of_ble_eq_true rfl) (cM_covers hG hs4 ?_)
      refine G_ifeq (tgt := 38) (nx := 31) ⟨dX12_least_28, rfl⟩ rfl (fun c_28 => ?_) (fun c_28 => ?_)
      · refine G_iload_1 (nx := 39) ⟨dX12_least_38, rfl⟩ ?_
        refine G_istore_1 (nx := 40) ⟨dX12_least_39, rfl⟩ rfl rfl ?_
        refine G_iinc_2 (nx := 43) ⟨dX12_least_40, rfl⟩ ci_1 rfl ?_
        refine G_goto (tgt := 7) ⟨dX12_least_43, rfl⟩ rfl ?_
        simp only [bi_0, bi_n0] at c_28
        refine G_L ?_ (ih (2 ^ n - (s + 1)) (by omega) (s + 1) rfl (by omega))
        simp [lp_s, leF, nI_1, c_28, show pc s < lp (leF n gr) s n by omega]
      · refine G_iload_2 (nx := 32) ⟨dX12_least_31, rfl⟩ ?_
        refine G_cs1 (nx := 35) ⟨dX12_least_32, rfl⟩ kX12_133 rfl rfl (Nat.le_of_ble_eq_true rfl) (Nat.le_of_ble_eq_true rfl) (cM_bits hs4 ?_)
        refine G_goto (tgt := 39) ⟨dX12_least_35, rfl⟩ rfl ?_
        refine G_istore_1 (nx := 40) ⟨dX12_least_39, rfl⟩ rfl rfl ?_
        refine G_iinc_2 (nx := 43) ⟨dX12_least_40, rfl⟩ ci_1 rfl ?_
        refine G_goto (tgt := 7) ⟨dX12_least_43, rfl⟩ rfl ?_
        simp only [bi_0, bi_n0] at c_28
        refine G_L ?_ (ih (2 ^ n - (s + 1)) (by omega) (s + 1) rfl (by omega))
        simp [lp_s, leF, nI_1, c_28, show pc s < lp (leF n gr) s n by omega]

theorem cM_least (hG : MG I n gr) (hk : K (.int (nI (leN n gr))) I J (rX g)) : G l (d + 2) mX12_least K 0 [.ref 75, UU, UU] [] I J (rX g) := by
  refine G_aload_0 (nx := 1) ⟨dX12_least_0, rfl⟩ ?_
  refine G_geti (nx := 4) (k := 75) ⟨dX12_least_1, rfl⟩ fX12_122 q_75 yi_12_0 ?_
  refine G_istore_1 (nx := 5) ⟨dX12_least_4, rfl⟩ rfl rfl ?_
  refine G_iconst (nx := 6) ⟨dX12_least_5, rfl⟩ ci_0 ?_
  refine G_istore_2 (nx := 7) ⟨dX12_least_6, rfl⟩ rfl rfl ?_
  rw [hG.1]
  exact lM_least hG hk _ 0 rfl (Nat.zero_le _)

end M22
