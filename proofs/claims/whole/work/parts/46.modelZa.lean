
def ipK (gr : Nat → Nat) (S : Nat) : Nat → Bool
  | 0 => true
  | k + 1 => ipK gr S k && (!S.testBit k || decide (df S (gr k) = 2 ^ k))
def ipB (n : Nat) (gr : Nat → Nat) (S : Nat) : Bool := inR (nI (pc S)) 2 3 && ipK gr S n
theorem ipK_mono {gr : Nat → Nat} {S i n : Nat} (h : ipK gr S n = true) (hi : i ≤ n) : ipK gr S i = true := by
  induction n with
  | zero => have : i = 0 := by omega
            subst this; rfl
  | succ n ih =>
    by_cases e : i = n + 1
    · rw [e]; exact h
    · rw [ipK, Bool.and_eq_true] at h
      exact ih h.1 (by omega)
section M46
variable {l : Launch} {d : Nat} {K : AK} {I : AI} {J : AJ} {g : Bool} {n : Nat} {gr : Nat → Nat}

theorem lM_isPacked {S : Nat} (hG : MG I n gr) (hS : S < 2 ^ n) {b0 : Bool} (hk : K (.int (bi (b0 && ipK gr S n))) I J (rX g)) : ∀ (k i : Nat), n - i = k → i ≤ n → G l (d + 2) mX12_isPacked K 28 [.ref 75, .int (nI S), .int (bi (b0 && ipK gr S i)), .int (nI i)] [] I J (rX g) := by
  intro k
  induction k using Nat.strongRecOn with
  | _ k ih =>
  intro i hik hin
  have e0 := hG.1
  have hn := hG.2.1
  have hS4 : S < 4096 := Nat.lt_of_lt_of_le hS (pow12 hn)
  refine G_iload_3 (nx := 29) ⟨dX12_isPacked_28, rfl⟩ ?_
  refine G_aload_0 (nx := 30) ⟨dX12_isPacked_29, rfl⟩ ?_
  refine G_geti (nx := 33) (k := 75) ⟨dX12_isPacked_30, rfl⟩ fX12_122 q_75 yi_12_0 ?_
  rw [e0]
  refine G_icmpge (tgt := 76) (nx := 36) ⟨dX12_isPacked_33, rfl⟩ rfl (fun c_33 => ?_) (fun c_33 => ?_)
  · refine G_iload_2 (nx := 77) ⟨dX12_isPacked_76, rfl⟩ ?_
    refine G_zret ⟨dX12_isPacked_77, rfl⟩ rfl (by first | assumption | decide | exact bi_01 _) ?_
    rw [nI_le_iff (by omega) (by omega)] at c_33
    have e : i = n := by omega
    subst e
    exact hk
  · rw [nI_le_iff (by omega) (by omega)] at c_33
    have hi : i < n := by omega
    have h12 := in12 hi hn
    have hdf : df S (gr i) ≤ S := df_le _ _
    have hpw : 2 ^ i < 4096 := Nat.lt_of_lt_of_le (Nat.pow_lt_pow_right (by omega) hi) (pow12 hn)
    refine G_iload_2 (nx := 37) ⟨dX12_isPacked_36, rfl⟩ ?_
    refine G_ifeq (tgt := 76) (nx := 40) ⟨dX12_isPacked_37, rfl⟩ rfl (fun c_37 => ?_) (fun c_37 => ?_)
    · refine G_iload_2 (nx := 77) ⟨dX12_isPacked_76, rfl⟩ ?_
      refine G_zret ⟨dX12_isPacked_77, rfl⟩ rfl (by first | assumption | decide | exact bi_01 _) ?_
      rw [bi_0] at c_37
      refine K_v (congrArg Value.int ?_) hk
      rw [c_37]
      congr 1
      symm
      rcases hb : (b0 && ipK gr S n) with _ | _
      · rfl
      · rw [Bool.and_eq_true] at hb
        rw [hb.1, ipK_mono hb.2 hin] at c_37
        cases c_37
    · rw [bi_n0] at c_37
      refine G_iload_1 (nx := 41) ⟨dX12_isPacked_40, rfl⟩ ?_
      refine G_iload_3 (nx := 42) ⟨dX12_isPacked_41, rfl⟩ ?_
      refine G_cs2 (nx := 45) ⟨dX12_isPacked_42, rfl⟩ kX12_118 rfl rfl (Nat.le_of_ble_eq_true rfl) (Nat.le_of_ble_eq_true rfl) (cM_has (lt31 hS4) (by omega) ?_)
      refine G_ifeq (tgt := 64) (nx := 48) ⟨dX12_isPacked_45, rfl⟩ rfl (fun c_45 => ?_) (fun c_45 => ?_)
      · refine G_iconst (nx := 65) ⟨dX12_isPacked_64, rfl⟩ ci_1 ?_
        refine G_goto (tgt := 69) ⟨dX12_isPacked_65, rfl⟩ rfl ?_
        refine G_istore_2 (nx := 70) ⟨dX12_isPacked_69, rfl⟩ rfl rfl ?_
        refine G_iinc_3 (nx := 73) ⟨dX12_isPacked_70, rfl⟩ ci_1 rfl ?_
        refine G_goto (tgt := 28) ⟨dX12_isPacked_73, rfl⟩ rfl ?_
        rw [bi_0] at c_45
        have est : (b0 && ipK gr S (i + 1)) = true := by rw [ipK, c_45]; simpa using c_37
        exact G_L (by rw [est, nI_1]; rfl) (ih (n - (i + 1)) (by omega) (i + 1) rfl (by omega))
      · refine G_iload_1 (nx := 49) ⟨dX12_isPacked_48, rfl⟩ ?_
        refine G_aload_0 (nx := 50) ⟨dX12_isPacked_49, rfl⟩ ?_
        refine G_getr (nx := 53) (k := 75) (r := 78) ⟨dX12_isPacked_50, rfl⟩ fX12_20 q_75 yr_12_4 (r_75_4 _) ?_
        refine G_iload_3 (nx := 54) ⟨dX12_isPacked_53, rfl⟩ ?_
        refine G_iald (nx := 55) (k := 78) ⟨dX12_isPacked_54, rfl⟩ q_78 (by first | assumption | decide | (unfold vp_in; decide)) ?_
        rw [hG.row hi]
        refine G_iconst (nx := 56) ⟨dX12_isPacked_55, rfl⟩ ci_m1 ?_
        refine G_ixor (nx := 57) ⟨dX12_isPacked_56, rfl⟩ ?_
        refine G_iand (nx := 58) ⟨dX12_isPacked_57, rfl⟩ ?_
        refine G_iconst (nx := 59) ⟨dX12_isPacked_58, rfl⟩ ci_1 ?_
        refine G_iload_3 (nx := 60) ⟨dX12_isPacked_59, rfl⟩ ?_
        refine G_ishl (nx := 61) ⟨dX12_isPacked_60, rfl⟩ ?_
        rw [nI_df _ (by omega), one_shl (show i < 31 by omega)]
        refine G_icmpne (tgt := 68) (nx := 64) ⟨dX12_isPacked_61, rfl⟩ rfl (fun c_61 => ?_) (fun c_61 => ?_)
        · refine G_iconst (nx := 69) ⟨dX12_isPacked_68, rfl⟩ ci_0 ?_
          refine G_istore_2 (nx := 70) ⟨dX12_isPacked_69, rfl⟩ rfl rfl ?_
          refine G_iinc_3 (nx := 73) ⟨dX12_isPacked_70, rfl⟩ ci_1 rfl ?_
          refine G_goto (tgt := 28) ⟨dX12_isPacked_73, rfl⟩ rfl ?_
          rw [bi_n0] at c_45
          rw [nI_eq (by omega) (by omega)] at c_61
          have est : (b0 && ipK gr S (i + 1)) = false := by rw [ipK, c_45]; simp [c_61]
          exact G_L (by rw [est, nI_1]; rfl) (ih (n - (i + 1)) (by omega) (i + 1) rfl (by omega))
        · refine G_iconst (nx := 65) ⟨dX12_isPacked_64, rfl⟩ ci_1 ?_
          refine G_goto (tgt := 69) ⟨dX12_isPacked_65, rfl⟩ rfl ?_
          refine G_istore_2 (nx := 70) ⟨dX12_isPacked_69, rfl⟩ rfl rfl ?_
          refine G_iinc_3 (nx := 73) ⟨dX12_isPacked_70, rfl⟩ ci_1 rfl ?_
          refine G_goto (tgt := 28) ⟨dX12_isPacked_73, rfl⟩ rfl ?_
          rw [bi_n0] at c_45
          rw [nI_eq (by omega) (by omega)] at c_61
          have est : (b0 && ipK gr S (i + 1)) = true := by rw [ipK, c_45]; simp [c_61]; simpa using c_37
          exact G_L (by rw [est, nI_1]; rfl) (ih (n - (i + 1)) (by omega) (i + 1) rfl (by omega))

def pkB (n : Nat) (gr : Nat → Nat) (x : Int32) : Bool := stB n x && ipB n gr x.toNatClampNeg
theorem cM_isPacked {x : Int32} (hG : MG I n gr) (hk : K (.int (bi (pkB n gr x))) I J (rX g)) : G l (d + 2) mX12_isPacked K 0 [.ref 75, .int x, UU, UU] [] I J (rX g) := by
  have hn := hG.2.1
  unfold pkB at hk
  rcases hst : stB n x with _ | _
  · rw [hst, Bool.false_and] at hk
    refine G_aload_0 (nx := 1) ⟨dX12_isPacked_0, rfl⟩ ?_
    refine G_iload_1 (nx := 2) ⟨dX12_isPacked_1, rfl⟩ ?_
    refine G_cv1 (nx := 5) ⟨dX12_isPacked_2, rfl⟩ kX12_171 rfl q_75 rfl (Nat.le_of_ble_eq_true rfl) (Nat.le_of_ble_eq_true rfl) (cM_isSet hG ?_)
    rw [hst]
    refine G_ifeq (tgt := 24) (nx := 8) ⟨dX12_isPacked_5, rfl⟩ rfl (fun c_5 => ?_) (fun c_5 => ?_)
    · refine G_iconst (nx := 25) ⟨dX12_isPacked_24, rfl⟩ ci_0 ?_
      refine G_istore_2 (nx := 26) ⟨dX12_isPacked_25, rfl⟩ rfl rfl ?_
      refine G_iconst (nx := 27) ⟨dX12_isPacked_26, rfl⟩ ci_0 ?_
      refine G_istore_3 (nx := 28) ⟨dX12_isPacked_27, rfl⟩ rfl rfl ?_
      have e0 := hG.1
      have step : ∀ i : Nat, i ≤ n → G l (d + 2) mX12_isPacked K 28 [.ref 75, .int x, .int 0, .int (nI i)] [] I J (rX g) := fun i hi => by
        refine G_iload_3 (nx := 29) ⟨dX12_isPacked_28, rfl⟩ ?_
        refine G_aload_0 (nx := 30) ⟨dX12_isPacked_29, rfl⟩ ?_
        refine G_geti (nx := 33) (k := 75) ⟨dX12_isPacked_30, rfl⟩ fX12_122 q_75 yi_12_0 ?_
        rw [e0]
        refine G_icmpge (tgt := 76) (nx := 36) ⟨dX12_isPacked_33, rfl⟩ rfl (fun c_33 => ?_) (fun c_33 => ?_)
        · refine G_iload_2 (nx := 77) ⟨dX12_isPacked_76, rfl⟩ ?_
          refine G_zret ⟨dX12_isPacked_77, rfl⟩ rfl (by first | assumption | decide | exact bi_01 _) ?_
          exact hk
        · refine G_iload_2 (nx := 37) ⟨dX12_isPacked_36, rfl⟩ ?_
          refine G_ifeq (tgt := 76) (nx := 40) ⟨dX12_isPacked_37, rfl⟩ rfl (fun c_37 => ?_) (fun c_37 => ?_)
          · refine G_iload_2 (nx := 77) ⟨dX12_isPacked_76, rfl⟩ ?_
            refine G_zret ⟨dX12_isPacked_77, rfl⟩ rfl (by first | assumption | decide | exact bi_01 _) ?_
            exact hk
          · exact absurd rfl c_37
      exact G_L (by rw [← nI_0]) (step 0 (by omega))
    · exact absurd rfl c_5

  · rw [hst, Bool.true_and] at hk
    obtain ⟨X, hX, eX⟩ := stB_ex hn hst
    have hX4 : X < 4096 := Nat.lt_of_lt_of_le hX (pow12 hn)
    subst eX
    rw [cl_nI (by omega), ipB] at hk
    refine G_aload_0 (nx := 1) ⟨dX12_isPacked_0, rfl⟩ ?_
    refine G_iload_1 (nx := 2) ⟨dX12_isPacked_1, rfl⟩ ?_
    refine G_cv1 (nx := 5) ⟨dX12_isPacked_2, rfl⟩ kX12_171 rfl q_75 rfl (Nat.le_of_ble_eq_true rfl) (Nat.le_of_ble_eq_true rfl) (cM_isSet hG ?_)
    rw [hst]
    refine G_ifeq (tgt := 24) (nx := 8) ⟨dX12_isPacked_5, rfl⟩ rfl (fun c_5 => ?_) (fun c_5 => ?_)
    · exact absurd c_5 (by decide)
    · refine G_iload_1 (nx := 9) ⟨dX12_isPacked_8, rfl⟩ ?_
      refine G_cs1 (nx := 12) ⟨dX12_isPacked_9, rfl⟩ kX12_133 rfl rfl (Nat.le_of_ble_eq_true rfl) (Nat.le_of_ble_eq_true rfl) (cM_bits hX4 ?_)
      refine G_iconst (nx := 13) ⟨dX12_isPacked_12, rfl⟩ ci_2 ?_
      refine G_iconst (nx := 14) ⟨dX12_isPacked_13, rfl⟩ ci_3 ?_
      refine G_cs3 (nx := 17) ⟨dX12_isPacked_14, rfl⟩ kX12_125 rfl rfl (Nat.le_of_ble_eq_true rfl) (Nat.le_of_ble_eq_true rfl) (cM_in ?_)
      refine G_ifeq (tgt := 24) (nx := 20) ⟨dX12_isPacked_17, rfl⟩ rfl (fun c_17 => ?_) (fun c_17 => ?_)
      · refine G_iconst (nx := 25) ⟨dX12_isPacked_24, rfl⟩ ci_0 ?_
        refine G_istore_2 (nx := 26) ⟨dX12_isPacked_25, rfl⟩ rfl rfl ?_
        refine G_iconst (nx := 27) ⟨dX12_isPacked_26, rfl⟩ ci_0 ?_
        refine G_istore_3 (nx := 28) ⟨dX12_isPacked_27, rfl⟩ rfl rfl ?_
        rw [bi_0] at c_17
        exact G_L (by rw [c_17, ← nI_0]; rfl) (lM_isPacked hG hX hk _ 0 rfl (Nat.zero_le _))
      · refine G_iconst (nx := 21) ⟨dX12_isPacked_20, rfl⟩ ci_1 ?_
        refine G_goto (tgt := 25) ⟨dX12_isPacked_21, rfl⟩ rfl ?_
        refine G_istore_2 (nx := 26) ⟨dX12_isPacked_25, rfl⟩ rfl rfl ?_
        refine G_iconst (nx := 27) ⟨dX12_isPacked_26, rfl⟩ ci_0 ?_
        refine G_istore_3 (nx := 28) ⟨dX12_isPacked_27, rfl⟩ rfl rfl ?_
        rw [bi_n0] at c_17
        exact G_L (by rw [c_17, ← nI_0]; rfl) (lM_isPacked hG hX hk _ 0 rfl (Nat.zero_le _))

end M46
