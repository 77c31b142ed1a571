
def jiB (gr : Nat → Nat) (row : Nat → Int32) (i : Nat) : Nat → Bool
  | 0 => true
  | k + 1 => jiB gr row i k && !((gr i).testBit k && decide (row k + row i < 2))
theorem jiB_mono {gr : Nat → Nat} {row : Nat → Int32} {i k n : Nat} (h : jiB gr row i n = true) (hk : k ≤ n) : jiB gr row i k = true := by
  induction n with
  | zero => have : k = 0 := by omega
            subst this; rfl
  | succ n ih =>
    by_cases e : k = n + 1
    · rw [e]; exact h
    · rw [jiB, Bool.and_eq_true] at h
      exact ih h.1 (by omega)
section M48
variable {l : Launch} {d : Nat} {K : AK} {I : AI} {J : AJ} {g : Bool} {n : Nat} {gr : Nat → Nat}

theorem lM_judI {s0 i : Nat} {t : Int32} {row : Nat → Int32} (hG : MG I n gr) (hs0 : s0 < 4) (hi : i < n) (hrow : ∀ j, j < 60 → I 105 (60 * s0 + j) = row j) (hbad : jiB gr row i i = false → K (.int (nI (1 + i))) I J (rX g)) (hgo : jiB gr row i i = true → G l (d + 2) mX12_judge K 124 [.ref 75, .int (nI s0), .int t, .int (nI i), .int (row i), .int (nI i)] [] I J (rX g)) : ∀ (k j : Nat), i - j = k → j ≤ i → jiB gr row i j = true → G l (d + 2) mX12_judge K 75 [.ref 75, .int (nI s0), .int t, .int (nI i), .int (row i), .int (nI j)] [] I J (rX g) := by
  intro k
  induction k using Nat.strongRecOn with
  | _ k ih =>
  intro j hjk hj hok
  have hn := hG.2.1
  have h12 := in12 hi hn
  refine G_iload_5 (nx := 77) ⟨dX12_judge_75, rfl⟩ ?_
  refine G_iload_3 (nx := 78) ⟨dX12_judge_77, rfl⟩ ?_
  refine G_icmpge (tgt := 124) (nx := 81) ⟨dX12_judge_78, rfl⟩ rfl (fun c_78 => ?_) (fun c_78 => ?_)
  · rw [nI_le_iff (by omega) (by omega)] at c_78
    have e : j = i := by omega
    subst e
    exact hgo hok
  · rw [nI_le_iff (by omega) (by omega)] at c_78
    have hi240 := in240 hs0 (show j < 60 by omega)
    have ecj := cl_nI (p := 60 * s0 + j) (by omega)
    refine G_aload_0 (nx := 82) ⟨dX12_judge_81, rfl⟩ ?_
    refine G_getr (nx := 85) (k := 75) (r := 78) ⟨dX12_judge_82, rfl⟩ fX12_20 q_75 yr_12_4 (r_75_4 _) ?_
    refine G_iload_3 (nx := 86) ⟨dX12_judge_85, rfl⟩ ?_
    refine G_iald (nx := 87) (k := 78) ⟨dX12_judge_86, rfl⟩ q_78 (by first | assumption | decide | (unfold vp_in; decide)) ?_
    rw [hG.row hi]
    refine G_iload_5 (nx := 89) ⟨dX12_judge_87, rfl⟩ ?_
    refine G_cs2 (nx := 92) ⟨dX12_judge_89, rfl⟩ kX12_118 rfl rfl (Nat.le_of_ble_eq_true rfl) (Nat.le_of_ble_eq_true rfl) (cM_has (lt31 (hG.lt hi)) (by omega) ?_)
    refine G_ifeq (tgt := 118) (nx := 95) ⟨dX12_judge_92, rfl⟩ rfl (fun c_92 => ?_) (fun c_92 => ?_)
    · refine G_iinc_5 (nx := 121) ⟨dX12_judge_118, rfl⟩ ci_1 rfl ?_
      refine G_goto (tgt := 75) ⟨dX12_judge_121, rfl⟩ rfl ?_
      rw [bi_0] at c_92
      have est : jiB gr row i (j + 1) = true := by rw [jiB, hok, c_92]; rfl
      exact G_L (by rw [nI_1]) (ih (i - (j + 1)) (by omega) (j + 1) rfl (by omega) est)
    · refine G_aload_0 (nx := 96) ⟨dX12_judge_95, rfl⟩ ?_
      refine G_getr (nx := 99) (k := 75) (r := 105) ⟨dX12_judge_96, rfl⟩ fX12_103 q_75 yr_12_45 (r_75_45 _) ?_
      refine G_bipush (nx := 101) ⟨dX12_judge_99, rfl⟩ cb_60 ?_
      refine G_iload_1 (nx := 102) ⟨dX12_judge_101, rfl⟩ ?_
      refine G_imul (nx := 103) ⟨dX12_judge_102, rfl⟩ ?_
      refine G_iload_5 (nx := 105) ⟨dX12_judge_103, rfl⟩ ?_
      refine G_iadd (nx := 106) ⟨dX12_judge_105, rfl⟩ ?_
      rw [it_nI]
      refine G_iald (nx := 107) (k := 105) ⟨dX12_judge_106, rfl⟩ q_105 (by first | assumption | decide | (unfold vp_in; decide)) ?_
      rw [ecj, hrow j (by omega)]
      refine G_iload_4 (nx := 109) ⟨dX12_judge_107, rfl⟩ ?_
      refine G_iadd (nx := 110) ⟨dX12_judge_109, rfl⟩ ?_
      refine G_iconst (nx := 111) ⟨dX12_judge_110, rfl⟩ ci_2 ?_
      refine G_icmpge (tgt := 118) (nx := 114) ⟨dX12_judge_111, rfl⟩ rfl (fun c_111 => ?_) (fun c_111 => ?_)
      · refine G_iinc_5 (nx := 121) ⟨dX12_judge_118, rfl⟩ ci_1 rfl ?_
        refine G_goto (tgt := 75) ⟨dX12_judge_121, rfl⟩ rfl ?_
        have est : jiB gr row i (j + 1) = true := by rw [jiB, hok, show decide (row j + row i < 2) = false from decide_eq_false (by rw [i32_le] at c_111; rw [i32_lt]; omega), Bool.and_false]; rfl
        exact G_L (by rw [nI_1]) (ih (i - (j + 1)) (by omega) (j + 1) rfl (by omega) est)
      · refine G_iconst (nx := 115) ⟨dX12_judge_114, rfl⟩ ci_1 ?_
        refine G_iload_3 (nx := 116) ⟨dX12_judge_115, rfl⟩ ?_
        refine G_iadd (nx := 117) ⟨dX12_judge_116, rfl⟩ ?_
        refine G_iret ⟨dX12_judge_117, rfl⟩ rfl ?_
        rw [bi_n0] at c_92
        rw [show (1 : Int32) = nI 1 by decide, nI_add]
        refine hbad ?_
        rcases hb : jiB gr row i i with _ | _
        · rfl
        · have h := jiB_mono hb (show j + 1 ≤ i by omega)
          rw [jiB, c_92, decide_eq_true (show row j + row i < 2 by rw [i32_le] at c_111; rw [i32_lt]; omega), Bool.and_true, Bool.not_true, Bool.and_false] at h
          cases h

end M48
