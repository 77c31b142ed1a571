section M20
variable {l : Launch} {d : Nat} {K : AK} {I : AI} {J : AJ} {g : Bool} {R : AR}
def inR (v a b : Int32) : Bool := decide (a ≤ v ∧ v ≤ b)
theorem inR_1 {v a b : Int32} (h1 : ¬ v < a) (h2 : ¬ b < v) : inR v a b = true := by
  simp only [inR, decide_eq_true_eq, i32_le, i32_lt] at *
  omega
theorem inR_0 {v a b : Int32} (h : v < a ∨ b < v) : inR v a b = false := by
  simp only [inR, decide_eq_false_iff_not, i32_le, i32_lt] at *
  omega
def ptB (n : Nat) (p : Int32) : Bool := decide (0 ≤ p.toInt ∧ p.toInt < n)
theorem toInt_0 : (0 : Int32).toInt = 0 := by decide
theorem toInt_1 : (1 : Int32).toInt = 1 := by decide
theorem nIpred {n : Nat} (h : n ≤ 100) : (nI n - 1).toInt = (n : Int) - 1 := by
  have h1 : (1 : Int32) = nI 1 := by decide
  rw [h1, pk_sub_toInt (by omega) (by omega)]
  rfl
theorem ptB_in {n : Nat} (h : n ≤ 100) (p : Int32) : inR p 0 (nI n - 1) = ptB n p := by
  simp only [inR, ptB, i32_le, toInt_0, nIpred h]
  congr 1
  apply propext
  omega
theorem nI_of_toInt {x : Int32} {j : Nat} (hj : j < 2 ^ 31) (h : x.toInt = j) : x = nI j := i32_of_toInt (by rw [h, nI_toInt hj])
theorem ptB_ex {n : Nat} (hn : n ≤ 100) {p : Int32} (h : ptB n p = true) : ∃ j, j < n ∧ p = nI j := by
  simp only [ptB, decide_eq_true_eq] at h
  exact ⟨p.toInt.toNat, by omega, nI_of_toInt (by omega) (by omega)⟩
theorem ptB_nI {n j : Nat} (hj : j < n) (hn : n ≤ 100) : ptB n (nI j) = true := by
  simp only [ptB, decide_eq_true_eq, nI_toInt (show j < 2 ^ 31 by omega)]
  omega

theorem cM_in {v a b : Int32} (hk : K (.int (bi (inR v a b))) I J R) : G l d mX12_in K 0 [.int v, .int a, .int b] [] I J R := by
  refine G_iload_0 (nx := 1) ⟨dX12_in_0, rfl⟩ ?_
  refine G_iload_1 (nx := 2) ⟨dX12_in_1, rfl⟩ ?_
  refine G_icmplt (tgt := 14) (nx := 5) ⟨dX12_in_2, rfl⟩ rfl (fun c_2 => ?_) (fun c_2 => ?_)
  · refine G_iconst (nx := 15) ⟨dX12_in_14, rfl⟩ ci_0 ?_
    refine G_zret ⟨dX12_in_15, rfl⟩ rfl (by first | assumption | decide | exact bi_01 _) ?_
    first | (rw [inR_1 c_2 c_7] at hk; exact hk) | (rw [inR_0 (Or.inl c_2)] at hk; exact hk) | (rw [inR_0 (Or.inr c_7)] at hk; exact hk)
  · refine G_iload_0 (nx := 6) ⟨dX12_in_5, rfl⟩ ?_
    refine G_iload_2 (nx := 7) ⟨dX12_in_6, rfl⟩ ?_
    refine G_icmpgt (tgt := 14) (nx := 10) ⟨dX12_in_7, rfl⟩ rfl (fun c_7 => ?_) (fun c_7 => ?_)
    · refine G_iconst (nx := 15) ⟨dX12_in_14, rfl⟩ ci_0 ?_
      refine G_zret ⟨dX12_in_15, rfl⟩ rfl (by first | assumption | decide | exact bi_01 _) ?_
      first | (rw [inR_1 c_2 c_7] at hk; exact hk) | (rw [inR_0 (Or.inl c_2)] at hk; exact hk) | (rw [inR_0 (Or.inr c_7)] at hk; exact hk)
    · refine G_iconst (nx := 11) ⟨dX12_in_10, rfl⟩ ci_1 ?_
      refine G_goto (tgt := 15) ⟨dX12_in_11, rfl⟩ rfl ?_
      refine G_zret ⟨dX12_in_15, rfl⟩ rfl (by first | assumption | decide | exact bi_01 _) ?_
      first | (rw [inR_1 c_2 c_7] at hk; exact hk) | (rw [inR_0 (Or.inl c_2)] at hk; exact hk) | (rw [inR_0 (Or.inr c_7)] at hk; exact hk)

theorem cM_has {a j : Nat} (ha : a < 2 ^ 31) (hj : j < 32) (hk : K (.int (bi (a.testBit j))) I J R) : G l d mX12_has K 0 [.int (nI a), .int (nI j)] [] I J R := by
  refine G_iload_0 (nx := 1) ⟨dX12_has_0, rfl⟩ ?_
  refine G_iload_1 (nx := 2) ⟨dX12_has_1, rfl⟩ ?_
  refine G_ishr (nx := 3) ⟨dX12_has_2, rfl⟩ ?_
  refine G_iconst (nx := 4) ⟨dX12_has_3, rfl⟩ ci_1 ?_
  refine G_iand (nx := 5) ⟨dX12_has_4, rfl⟩ ?_
  refine G_iconst (nx := 6) ⟨dX12_has_5, rfl⟩ ci_1 ?_
  refine G_icmpne (tgt := 13) (nx := 9) ⟨dX12_has_6, rfl⟩ rfl (fun c_6 => ?_) (fun c_6 => ?_)
  · refine G_iconst (nx := 14) ⟨dX12_has_13, rfl⟩ ci_0 ?_
    refine G_zret ⟨dX12_has_14, rfl⟩ rfl (by first | assumption | decide | exact bi_01 _) ?_
    rw [bit_nI ha hj, bi_1] at c_6
    first | (rw [c_6] at hk; exact hk) | (rw [Bool.not_eq_true] at c_6; rw [c_6] at hk; exact hk)
  · refine G_iconst (nx := 10) ⟨dX12_has_9, rfl⟩ ci_1 ?_
    refine G_goto (tgt := 14) ⟨dX12_has_10, rfl⟩ rfl ?_
    refine G_zret ⟨dX12_has_14, rfl⟩ rfl (by first | assumption | decide | exact bi_01 _) ?_
    rw [bit_nI ha hj, bi_1] at c_6
    first | (rw [c_6] at hk; exact hk) | (rw [Bool.not_eq_true] at c_6; rw [c_6] at hk; exact hk)

theorem lM_bits {s : Int32} : ∀ (k a : Nat) (c : Int32), a = k → a < 4096 → K (.int (c + nI (pc a))) I J R → G l d mX12_bits K 4 [.int s, .int c, .int (nI a)] [] I J R := by
  intro k
  induction k using Nat.strongRecOn with
  | _ k ih =>
  intro a c hak ha hk
  refine G_iload_2 (nx := 5) ⟨dX12_bits_4, rfl⟩ ?_
  refine G_ifeq (tgt := 20) (nx := 8) ⟨dX12_bits_5, rfl⟩ rfl (fun c_5 => ?_) (fun c_5 => ?_)
  · refine G_iload_1 (nx := 21) ⟨dX12_bits_20, rfl⟩ ?_
    refine G_iret ⟨dX12_bits_21, rfl⟩ rfl ?_
    have h0 : a = 0 := nI_inj (lt31 ha) (by decide) (c_5.trans nI_0.symm)
    subst h0
    rw [show pc 0 = 0 by decide, nI_0, Int32.add_zero] at hk
    exact hk
  · refine G_iinc_1 (nx := 11) ⟨dX12_bits_8, rfl⟩ ci_1 rfl ?_
    refine G_iload_2 (nx := 12) ⟨dX12_bits_11, rfl⟩ ?_
    refine G_iload_2 (nx := 13) ⟨dX12_bits_12, rfl⟩ ?_
    refine G_iconst (nx := 14) ⟨dX12_bits_13, rfl⟩ ci_1 ?_
    refine G_isub (nx := 15) ⟨dX12_bits_14, rfl⟩ ?_
    refine G_iand (nx := 16) ⟨dX12_bits_15, rfl⟩ ?_
    refine G_istore_2 (nx := 17) ⟨dX12_bits_16, rfl⟩ rfl rfl ?_
    refine G_goto (tgt := 4) ⟨dX12_bits_17, rfl⟩ rfl ?_
    have h0 : ¬ a = 0 := fun q => c_5 (by rw [q]; exact nI_0)
    have e1 : nI a - 1 = nI (a - 1) := by
      obtain ⟨b, rfl⟩ : ∃ b, a = b + 1 := ⟨a - 1, by omega⟩
      exact nI_pred b
    refine G_L (by rw [e1, nI_and]) (ih (a &&& (a - 1)) (by rw [← hak]; exact and_pred_lt h0) _ (c + 1) rfl (Nat.lt_trans (and_pred_lt h0) ha) ?_)
    rw [pc_step ha h0, Nat.add_comm, ← nI_add, show nI 1 = 1 from rfl, ← Int32.add_assoc] at hk
    exact hk

theorem cM_bits {a : Nat} (ha : a < 4096) (hk : K (.int (nI (pc a))) I J R) : G l d mX12_bits K 0 [.int (nI a), UU, UU] [] I J R := by
  refine G_iconst (nx := 1) ⟨dX12_bits_0, rfl⟩ ci_0 ?_
  refine G_istore_1 (nx := 2) ⟨dX12_bits_1, rfl⟩ rfl rfl ?_
  refine G_iload_0 (nx := 3) ⟨dX12_bits_2, rfl⟩ ?_
  refine G_istore_2 (nx := 4) ⟨dX12_bits_3, rfl⟩ rfl rfl ?_
  exact lM_bits a a 0 rfl ha (by rw [Int32.zero_add]; exact hk)

end M20
