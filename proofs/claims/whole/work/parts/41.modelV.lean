
/-- the model's tree: m nodes, their parents' row -/
def MT (I : AI) (m : Nat) : Prop := I 75 26 = nI m ∧ m ≤ 60
def ltF (is : Nat → Int32) (p i c : Nat) : Nat := if p < i ∧ is i = nI p then c + 1 else c
def ltN (is : Nat → Int32) (m p : Nat) : Nat := lp (ltF is p) m (if p = 0 then 0 else 1)
theorem ltF_le (is : Nat → Int32) (p : Nat) : ∀ k, k ≤ p + 1 → ∀ c, lp (ltF is p) k c = c := by
  intro k
  induction k with
  | zero => intro _ c; rfl
  | succ k ih =>
    intro hk c
    rw [lp_s, ih (by omega) c, ltF, if_neg (by omega)]
theorem ltF_ub (is : Nat → Int32) (p : Nat) (c : Nat) : ∀ k, lp (ltF is p) k c ≤ c + k
  | 0 => Nat.le_refl _
  | k + 1 => by
    have := ltF_ub is p c k
    rw [lp_s, ltF]
    split <;> omega
section M41
variable {l : Launch} {d : Nat} {K : AK} {I : AI} {J : AJ} {g : Bool} {n : Nat} {gr : Nat → Nat}

theorem lM_linesIn {m p : Nat} (hT : MT I m) (hp : p < m) (hk : K (.int (nI (ltN (I 91) m p))) I J (rX g)) : ∀ (k i : Nat), m - i = k → p < i → i ≤ m → G l d mX12_linesIn K 14 [.ref 75, .int (nI p), .int (nI (lp (ltF (I 91) p) i (if p = 0 then 0 else 1))), .int (nI i)] [] I J (rX g) := by
  intro k
  induction k using Nat.strongRecOn with
  | _ k ih =>
  intro i hik hpi him
  have e26 := hT.1
  have hm60 := hT.2
  have eci := cl_nI (p := i) (by omega)
  refine G_iload_3 (nx := 15) ⟨dX12_linesIn_14, rfl⟩ ?_
  refine G_aload_0 (nx := 16) ⟨dX12_linesIn_15, rfl⟩ ?_
  refine G_geti (nx := 19) (k := 75) ⟨dX12_linesIn_16, rfl⟩ fX12_165 q_75 yi_12_26 ?_
  rw [e26]
  refine G_icmpge (tgt := 46) (nx := 22) ⟨dX12_linesIn_19, rfl⟩ rfl (fun c_19 => ?_) (fun c_19 => ?_)
  · refine G_iload_2 (nx := 47) ⟨dX12_linesIn_46, rfl⟩ ?_
    refine G_iret ⟨dX12_linesIn_47, rfl⟩ rfl ?_
    rw [nI_le_iff (by omega) (by omega)] at c_19
    have e : i = m := by omega
    subst e
    exact hk
  · rw [nI_le_iff (by omega) (by omega)] at c_19
    have hi60 := in60 (p := i) (by omega)
    refine G_iload_2 (nx := 23) ⟨dX12_linesIn_22, rfl⟩ ?_
    refine G_aload_0 (nx := 24) ⟨dX12_linesIn_23, rfl⟩ ?_
    refine G_getr (nx := 27) (k := 75) (r := 91) ⟨dX12_linesIn_24, rfl⟩ fX12_59 q_75 yr_12_29 (r_75_29 _) ?_
    refine G_iload_3 (nx := 28) ⟨dX12_linesIn_27, rfl⟩ ?_
    refine G_iald (nx := 29) (k := 91) ⟨dX12_linesIn_28, rfl⟩ q_91 (by first | assumption | decide | (unfold vp_in; decide)) ?_
    rw [eci]
    refine G_iload_1 (nx := 30) ⟨dX12_linesIn_29, rfl⟩ ?_
    refine G_icmpne (tgt := 37) (nx := 33) ⟨dX12_linesIn_30, rfl⟩ rfl (fun c_30 => ?_) (fun c_30 => ?_)
    · refine G_iconst (nx := 38) ⟨dX12_linesIn_37, rfl⟩ ci_0 ?_
      refine G_iadd (nx := 39) ⟨dX12_linesIn_38, rfl⟩ ?_
      refine G_istore_2 (nx := 40) ⟨dX12_linesIn_39, rfl⟩ rfl rfl ?_
      refine G_iinc_3 (nx := 43) ⟨dX12_linesIn_40, rfl⟩ ci_1 rfl ?_
      refine G_goto (tgt := 14) ⟨dX12_linesIn_43, rfl⟩ rfl ?_
      have est : lp (ltF (I 91) p) (i + 1) (if p = 0 then 0 else 1) = lp (ltF (I 91) p) i (if p = 0 then 0 else 1) := by rw [lp_s, ltF, if_neg (fun h => c_30 h.2)]
      exact G_L (by rw [nI_1, est, Int32.add_zero]) (ih (m - (i + 1)) (by omega) (i + 1) rfl (by omega) (by omega))
    · refine G_iconst (nx := 34) ⟨dX12_linesIn_33, rfl⟩ ci_1 ?_
      refine G_goto (tgt := 38) ⟨dX12_linesIn_34, rfl⟩ rfl ?_
      refine G_iadd (nx := 39) ⟨dX12_linesIn_38, rfl⟩ ?_
      refine G_istore_2 (nx := 40) ⟨dX12_linesIn_39, rfl⟩ rfl rfl ?_
      refine G_iinc_3 (nx := 43) ⟨dX12_linesIn_40, rfl⟩ ci_1 rfl ?_
      refine G_goto (tgt := 14) ⟨dX12_linesIn_43, rfl⟩ rfl ?_
      have est : lp (ltF (I 91) p) (i + 1) (if p = 0 then 0 else 1) = lp (ltF (I 91) p) i (if p = 0 then 0 else 1) + 1 := by rw [lp_s, ltF, if_pos ⟨hpi, c_30⟩]
      exact G_L (by rw [est]; simp only [nI_1]) (ih (m - (i + 1)) (by omega) (i + 1) rfl (by omega) (by omega))

theorem cM_linesIn {m p : Nat} (hT : MT I m) (hp : p < m) (hk : K (.int (nI (ltN (I 91) m p))) I J (rX g)) : G l d mX12_linesIn K 0 [.ref 75, .int (nI p), UU, UU] [] I J (rX g) := by
  have hm60 := hT.2
  have hin := ltF_le (I 91) p (p + 1) (Nat.le_refl _) (if p = 0 then 0 else 1)
  refine G_iload_1 (nx := 1) ⟨dX12_linesIn_0, rfl⟩ ?_
  refine G_ifne (tgt := 8) (nx := 4) ⟨dX12_linesIn_1, rfl⟩ rfl (fun c_1 => ?_) (fun c_1 => ?_)
  · refine G_iconst (nx := 9) ⟨dX12_linesIn_8, rfl⟩ ci_1 ?_
    refine G_istore_2 (nx := 10) ⟨dX12_linesIn_9, rfl⟩ rfl rfl ?_
    refine G_iload_1 (nx := 11) ⟨dX12_linesIn_10, rfl⟩ ?_
    refine G_iconst (nx := 12) ⟨dX12_linesIn_11, rfl⟩ ci_1 ?_
    refine G_iadd (nx := 13) ⟨dX12_linesIn_12, rfl⟩ ?_
    refine G_istore_3 (nx := 14) ⟨dX12_linesIn_13, rfl⟩ rfl rfl ?_
    rw [nI_0iff (by omega)] at c_1
    exact G_L (by rw [hin, if_neg c_1, nI_1]; rfl) (lM_linesIn hT hp hk _ (p + 1) rfl (by omega) (by omega))
  · refine G_iconst (nx := 5) ⟨dX12_linesIn_4, rfl⟩ ci_0 ?_
    refine G_goto (tgt := 9) ⟨dX12_linesIn_5, rfl⟩ rfl ?_
    refine G_istore_2 (nx := 10) ⟨dX12_linesIn_9, rfl⟩ rfl rfl ?_
    refine G_iload_1 (nx := 11) ⟨dX12_linesIn_10, rfl⟩ ?_
    refine G_iconst (nx := 12) ⟨dX12_linesIn_11, rfl⟩ ci_1 ?_
    refine G_iadd (nx := 13) ⟨dX12_linesIn_12, rfl⟩ ?_
    refine G_istore_3 (nx := 14) ⟨dX12_linesIn_13, rfl⟩ rfl rfl ?_
    rw [nI_0iff (by omega)] at c_1
    exact G_L (by rw [hin, if_pos c_1, nI_1]; rfl) (lM_linesIn hT hp hk _ (p + 1) rfl (by omega) (by omega))

theorem cM_costIn {m p : Nat} (hT : MT I m) (hp : p < m) (hk : K (.int (cst (I 89 p) (I 90 p) (nI (ltN (I 91) m p)) (nI p))) I J (rX g)) : G l (d + 1) mX12_costIn K 0 [.ref 75, .int (nI p)] [] I J (rX g) := by
  have hm60 := hT.2
  have hi60 := in60 (p := p) (by omega)
  have ecp := cl_nI (p := p) (by omega)
  refine G_aload_0 (nx := 1) ⟨dX12_costIn_0, rfl⟩ ?_
  refine G_getr (nx := 4) (k := 75) (r := 89) ⟨dX12_costIn_1, rfl⟩ fX12_53 q_75 yr_12_27 (r_75_27 _) ?_
  refine G_iload_1 (nx := 5) ⟨dX12_costIn_4, rfl⟩ ?_
  refine G_iald (nx := 6) (k := 89) ⟨dX12_costIn_5, rfl⟩ q_89 (by first | assumption | decide | (unfold vp_in; decide)) ?_
  rw [ecp]
  refine G_aload_0 (nx := 7) ⟨dX12_costIn_6, rfl⟩ ?_
  refine G_getr (nx := 10) (k := 75) (r := 90) ⟨dX12_costIn_7, rfl⟩ fX12_56 q_75 yr_12_28 (r_75_28 _) ?_
  refine G_iload_1 (nx := 11) ⟨dX12_costIn_10, rfl⟩ ?_
  refine G_iald (nx := 12) (k := 90) ⟨dX12_costIn_11, rfl⟩ q_90 (by first | assumption | decide | (unfold vp_in; decide)) ?_
  rw [ecp]
  refine G_aload_0 (nx := 13) ⟨dX12_costIn_12, rfl⟩ ?_
  refine G_iload_1 (nx := 14) ⟨dX12_costIn_13, rfl⟩ ?_
  refine G_cv1 (nx := 17) ⟨dX12_costIn_14, rfl⟩ kX12_310 rfl q_75 rfl (Nat.le_of_ble_eq_true rfl) (Nat.le_of_ble_eq_true rfl) (cM_linesIn hT hp ?_)
  refine G_iload_1 (nx := 18) ⟨dX12_costIn_17, rfl⟩ ?_
  refine G_cs4 (nx := 21) ⟨dX12_costIn_18, rfl⟩ kX12_137 rfl rfl (Nat.le_of_ble_eq_true rfl) (Nat.le_of_ble_eq_true rfl) (cM_cost ?_)
  refine G_iret ⟨dX12_costIn_21, rfl⟩ rfl ?_
  exact hk

end M41
