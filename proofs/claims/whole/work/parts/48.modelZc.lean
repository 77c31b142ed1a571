
def jiB (gr : Nat → Nat) (row : Nat → Int32) (i : Nat) : Nat → Bool
  | 0 => true
  | k + 1 => jiB gr row i k && !((gr i).testBit k && decide (row k + row i < 2))
theorem jiB_mono {gr : Nat → Nat} {row : Nat → Int32} {i k n : Nat} (h : jiB gr row i n = true) (hk : k ≤ n) : jiB gr row i k = true := by
  induction n with
  | zero => have : k = 0 := by omega
            subst this; rfl
  | succ n ih =>
    by_cases e : k = n + 1
    · rw [e]; exact h
    · rw [jiB, Bool.and_eq_true] at h
      exact ih h.1 (by omega)
section M48
variable {l : Launch} {d : Nat} {K : AK} {I : AI} {J : AJ} {g : Bool} {n : Nat} {gr : Nat → Nat}

theorem lM_judI {s0 i : Nat} {t : Int32} {row : Nat → Int32} (hG : MG I n gr) (hs0 : s0 < 4) (hi : i < n) (hrow : ∀ j, j < 60 → I 105 (60 * s0 + j) = row j) (hbad : jiB gr row i i = false → K (.int (nI (1 + i))) I J (rX g)) (hgo : jiB gr row i i = true → G l (d + 2) mX12_judge K 124 [.ref 75, .int (nI s0), .int t, .int (nI i), .int (row i), .int (nI i)] [] I J (rX g)) : ∀ (k j : Nat), i - j = k → j ≤ i → jiB gr row i j = true → G l (d + 2) mX12_judge K 75 [.ref 75, .int (nI s0), .int t, .int (nI i), .int (row i), .int (nI j)] [] I J (rX g) := by
  intro k
  induction k using Nat.strongRecOn with
  | _ k ih =>
  intro j hjk hj hok
  have hn := hG.2.1
  have h12 := in12 hi hn
  refine G_iload_5 (nx := 77) ⟨dX12_judge_75, rfl⟩ ?_
  refine G_iload_3 (nx := 78) ⟨dX12_judge_77, rfl⟩ ?_
  refine G_icmpge (tgt := 124) (nx := 81) ⟨dX12_judge_78, rfl⟩ rfl (fun c_78 => ?_) (fun c_78 => ?_)
  · rw [nI_le_iff (by omega) (by omega)] at c_78
    have e : j = i := by omega
    subst e
    exact hgo hok
  · rw [nI_le_iff (by omega) (by omega)] at c_78
    have hi240 := in240 hs0 (show j < 60 by omega)
    have ecj := cl_nI (p := 60 * s0 + j) (by omega)
    refine G_aload_0 (nx := 82) ⟨dX12_judge_81, rfl⟩ ?_
    refine G_getr (nx := 85) (k := 75) (r := 78) ⟨dX12_judge_82, rfl⟩ fX12_20 q_75 yr_12_4 (r_75_4 _) ?_
    refine G_iload_3 (nx := 86) ⟨dX12_judge_85, rfl⟩ ?_
    refine G_iald (nx := 87) (k := 78) ⟨dX12_judge_86, rfl⟩ q_78 (by first | assumption | decide | (unfold vp_in; decide)) ?_
    rw [hG.row hi]
    refine G_iload_5 (nx := 89) ⟨dX12_judge_87, rfl⟩ ?_
    refine G_cs2 (nx := 92) ⟨dX12_judge_89, rfl⟩ kX12_118 rfl rfl (Nat.le_of_ble_eq_true rfl) (Nat.le_of_ble_eq_true rfl) (cM_has (lt31 (hG.lt hi)) (by omega) ?_)
    refine G_ifeq (tgt := 118) (nx := 95) ⟨dX12_judge_92, rfl⟩ rfl (fun c_92 => ?_) (fun c_92 => ?_)
    · refine G_iinc_5 (nx := 121) ⟨dX12_judge_118, rfl⟩ ci_1 rfl ?_
      refine G_goto (tgt := 75) ⟨dX12_judge_121, rfl⟩ rfl ?_
      rw [bi_0] at c_92
      have est : jiB gr row i (j + 1) = true := by rw [jiB, hok, c_92]; rfl
      exact G_L (by rw [nI_1]) (ih (i - (j + 1)) (by omega) (j + 1) rfl (by omega) est)
    · refine G_aload_0 (nx := 96) ⟨dX12_judge_95, rfl⟩ ?_
      refine G_getr (nx := 99) (k := 75) (r := 105) ⟨dX12_judge_96, rfl⟩ fX12_103 q_75 yr_12_45 (r_75_45 _) ?_
      refine G_bipush (nx := 101) ⟨dX12_judge_99, rfl⟩ cb_60 ?_
      refine G_iload_1 (nx := 102) ⟨dX12_judge_101, rfl⟩ ?_
      refine G_imul (nx := 103) ⟨dX12_judge_102, rfl⟩ ?_
      refine G_iload_5 (nx := 105) ⟨dX12_judge_103, rfl⟩ ?_
      refine G_iadd (nx := 106) ⟨dX12_judge_105, rfl⟩ ?_
      rw [it_nI]
      refine G_iald (nx := 107) (k := 105) ⟨dX12_judge_106, rfl⟩ q_105 (by first | assumption | decide | (unfold vp_in; decide)) ?_
      rw [ecj, hrow j (by omega)]
      refine G_iload_4 (nx := 109) ⟨dX12_judge_107, rfl⟩ ?_
      refine G_iadd (nx := 110) ⟨dX12_judge_109, rfl⟩ ?_
      refine G_iconst (nx := 111) ⟨dX12_judge_110, rfl⟩ ci_2 ?_
      refine G_icmpge (tgt := 118) (nx := 114) ⟨dX12_judge_111, rfl⟩ rfl (fun c_111 => ?_) (fun c_111 => ?_)
      · refine G_iinc_5 (nx := 121) ⟨dX12_judge_118, rfl⟩ ci_1 rfl ?_
        refine G_goto (tgt := 75) ⟨dX12_judge_121, rfl⟩ rfl ?_
        have est : jiB gr row i (j + 1) = true := by rw [jiB, hok, show decide (row j + row i < 2) = false from decide_eq_false (by rw [i32_le] at c_111; rw [i32_lt]; omega), Bool.and_false]; rfl
        exact G_L (by rw [nI_1]) (ih (i - (j + 1)) (by omega) (j + 1) rfl (by omega) est)
      · refine G_iconst (nx := 115) ⟨dX12_judge_114, rfl⟩ ci_1 ?_
        refine G_iload_3 (nx := 116) ⟨dX12_judge_115, rfl⟩ ?_
        refine G_iadd (nx := 117) ⟨dX12_judge_116, rfl⟩ ?_
        refine G_iret ⟨dX12_judge_117, rfl⟩ rfl ?_
        rw [bi_n0] at c_92
        rw [show (1 : Int32) = nI 1 by decide, nI_add]
        refine hbad ?_
        rcases hb : jiB gr row i i with _ | _
        · rfl
        · have h := jiB_mono hb (show j + 1 ≤ i by omega)
          rw [jiB, c_92, decide_eq_true (show row j + row i < 2 by rw [i32_le] at c_111; rw [i32_lt]; omega), Bool.and_true, Bool.not_true, Bool.and_false] at h
          cases h

def jdL (n : Nat) (gr : Nat → Nat) (row : Nat → Int32) : Nat → Nat → Int32 → Option Nat × Int32
  | 0, _, t => (none, t)
  | f + 1, i, t => if i < n ∧ inR (row i) 0 2 = true ∧ jiB gr row i i = true then jdL n gr row f (i + 1) (t + row i) else (some i, t)
theorem lM_judO {s0 z : Nat} {row : Nat → Int32} {Q : Option Nat × Int32} (hG : MG I n gr) (hs0 : s0 < 4) (hz60 : z ≤ 60) (hz : I 104 s0 = nI z) (hrow : ∀ j, j < 60 → I 105 (60 * s0 + j) = row j) (hk1 : ∀ i, Q.1 = some i → K (.int (nI (1 + i))) I J (rX g)) (hk2 : Q.1 = none → ¬ z = n → K (.int 100) I J (rX g)) (hk3 : Q.1 = none → z = n → ∀ (r : Nat) (I' : AI), IsNu gr (2 ^ n - 1) (2 ^ n - 1) r → sb fH I I' → K (.int (if Q.2 = nI r then 0 else 100)) I' J (rX g)) : ∀ (k i : Nat) (t : Int32) (x4 x5 : Value), notL x4 = true → notL x5 = true → z - i = k → i ≤ z → jdL n gr row k i t = Q → G l (d + 15) mX12_judge K 27 [.ref 75, .int (nI s0), .int t, .int (nI i), x4, x5] [] I J (rX g) := by
  intro k
  induction k using Nat.strongRecOn with
  | _ k ih =>
  intro i t x4 x5 hx4 hx5 hik hi hq
  have hn := hG.2.1
  have e0 := hG.1
  have hin4 := in4 hs0
  have ecs := cl_nI (p := s0) (by omega)
  refine G_iload_3 (nx := 28) ⟨dX12_judge_27, rfl⟩ ?_
  refine G_aload_0 (nx := 29) ⟨dX12_judge_28, rfl⟩ ?_
  refine G_getr (nx := 32) (k := 75) (r := 104) ⟨dX12_judge_29, rfl⟩ fX12_100 q_75 yr_12_44 (r_75_44 _) ?_
  refine G_iload_1 (nx := 33) ⟨dX12_judge_32, rfl⟩ ?_
  refine G_iald (nx := 34) (k := 104) ⟨dX12_judge_33, rfl⟩ q_104 (by first | assumption | decide | (unfold vp_in; decide)) ?_
  rw [ecs, hz]
  refine G_icmpge (tgt := 135) (nx := 37) ⟨dX12_judge_34, rfl⟩ rfl (fun c_34 => ?_) (fun c_34 => ?_)
  · rw [nI_le_iff (by omega) (by omega)] at c_34
    have ek0 : k = 0 := by omega
    rw [ek0, jdL] at hq
    refine G_aload_0 (nx := 136) ⟨dX12_judge_135, rfl⟩ ?_
    refine G_getr (nx := 139) (k := 75) (r := 104) ⟨dX12_judge_136, rfl⟩ fX12_100 q_75 yr_12_44 (r_75_44 _) ?_
    refine G_iload_1 (nx := 140) ⟨dX12_judge_139, rfl⟩ ?_
    refine G_iald (nx := 141) (k := 104) ⟨dX12_judge_140, rfl⟩ q_104 (by first | assumption | decide | (unfold vp_in; decide)) ?_
    rw [ecs, hz]
    refine G_aload_0 (nx := 142) ⟨dX12_judge_141, rfl⟩ ?_
    refine G_geti (nx := 145) (k := 75) ⟨dX12_judge_142, rfl⟩ fX12_122 q_75 yi_12_0 ?_
    rw [e0]
    refine G_icmpne (tgt := 164) (nx := 148) ⟨dX12_judge_145, rfl⟩ rfl (fun c_145 => ?_) (fun c_145 => ?_)
    · try rw [nI_eq (by omega) (by omega)] at c_145
      refine G_bipush (nx := 166) ⟨dX12_judge_164, rfl⟩ cb_100 ?_
      refine G_iret ⟨dX12_judge_166, rfl⟩ rfl ?_
      exact hk2 (by rw [← hq]) c_145
    · rw [nI_eq (by omega) (by omega)] at c_145
      refine G_iload_2 (nx := 149) ⟨dX12_judge_148, rfl⟩ ?_
      refine G_aload_0 (nx := 150) ⟨dX12_judge_149, rfl⟩ ?_
      refine G_aload_0 (nx := 151) ⟨dX12_judge_150, rfl⟩ ?_
      refine G_cv0 (nx := 154) ⟨dX12_judge_151, rfl⟩ kX12_129 rfl q_75 rfl (Nat.le_of_ble_eq_true rfl) (Nat.le_of_ble_eq_true rfl) (cM_all hG ?_)
      refine G_cv1 (nx := 157) ⟨dX12_judge_154, rfl⟩ kX12_203 rfl q_75 rfl (Nat.le_of_ble_eq_true rfl) (Nat.le_of_ble_eq_true rfl) (cM_leastHalves (allLt n) hG (fun r I1 hnu hs1 => ?_))
      refine G_icmpne (tgt := 164) (nx := 160) ⟨dX12_judge_157, rfl⟩ rfl (fun c_157 => ?_) (fun c_157 => ?_)
      · try rw [nI_eq (by omega) (by omega)] at c_145
        refine G_bipush (nx := 166) ⟨dX12_judge_164, rfl⟩ cb_100 ?_
        refine G_iret ⟨dX12_judge_166, rfl⟩ rfl ?_
        exact K_v (congrArg Value.int (by rw [← hq]; exact (if_neg c_157).symm)) (hk3 (by rw [← hq]) c_145 r I1 hnu hs1)
      · refine G_iconst (nx := 161) ⟨dX12_judge_160, rfl⟩ ci_0 ?_
        refine G_goto (tgt := 166) ⟨dX12_judge_161, rfl⟩ rfl ?_
        refine G_iret ⟨dX12_judge_166, rfl⟩ rfl ?_
        exact K_v (congrArg Value.int (by rw [← hq]; exact (if_pos c_157).symm)) (hk3 (by rw [← hq]) c_145 r I1 hnu hs1)
  · rw [nI_le_iff (by omega) (by omega)] at c_34
    have hi240 := in240 hs0 (show i < 60 by omega)
    have eci := cl_nI (p := 60 * s0 + i) (by omega)
    obtain ⟨k1, ek1⟩ : ∃ k1, k = k1 + 1 := ⟨k - 1, by omega⟩
    rw [ek1, jdL] at hq
    refine G_aload_0 (nx := 38) ⟨dX12_judge_37, rfl⟩ ?_
    refine G_getr (nx := 41) (k := 75) (r := 105) ⟨dX12_judge_38, rfl⟩ fX12_103 q_75 yr_12_45 (r_75_45 _) ?_
    refine G_bipush (nx := 43) ⟨dX12_judge_41, rfl⟩ cb_60 ?_
    refine G_iload_1 (nx := 44) ⟨dX12_judge_43, rfl⟩ ?_
    refine G_imul (nx := 45) ⟨dX12_judge_44, rfl⟩ ?_
    refine G_iload_3 (nx := 46) ⟨dX12_judge_45, rfl⟩ ?_
    refine G_iadd (nx := 47) ⟨dX12_judge_46, rfl⟩ ?_
    rw [it_nI]
    refine G_iald (nx := 48) (k := 105) ⟨dX12_judge_47, rfl⟩ q_105 (by first | assumption | decide | (unfold vp_in; decide)) ?_
    rw [eci, hrow i (by omega)]
    refine G_istore_4 (nx := 50) ⟨dX12_judge_48, rfl⟩ rfl rfl ?_
    refine G_aload_0 (nx := 51) ⟨dX12_judge_50, rfl⟩ ?_
    refine G_iload_3 (nx := 52) ⟨dX12_judge_51, rfl⟩ ?_
    refine G_cv1 (nx := 55) ⟨dX12_judge_52, rfl⟩ kX12_145 rfl q_75 rfl (Nat.le_of_ble_eq_true rfl) (Nat.le_of_ble_eq_true rfl) (cM_isPoint hG ?_)
    refine G_ifeq (tgt := 68) (nx := 58) ⟨dX12_judge_55, rfl⟩ rfl (fun c_55 => ?_) (fun c_55 => ?_)
    · refine G_iconst (nx := 69) ⟨dX12_judge_68, rfl⟩ ci_1 ?_
      refine G_iload_3 (nx := 70) ⟨dX12_judge_69, rfl⟩ ?_
      refine G_iadd (nx := 71) ⟨dX12_judge_70, rfl⟩ ?_
      refine G_iret ⟨dX12_judge_71, rfl⟩ rfl ?_
      rw [bi_0] at c_55
      rw [if_neg (fun h => by rw [ptB_nI h.1 (by omega)] at c_55; cases c_55)] at hq
      rw [show (1 : Int32) = nI 1 by decide, nI_add]
      exact hk1 i (by rw [← hq])
    · rw [bi_n0] at c_55
      obtain ⟨i2, hi2, ei2⟩ := ptB_ex (by omega) c_55
      rw [nI_eq (by omega) (by omega)] at ei2
      have hin : i < n := by omega
      refine G_iload_4 (nx := 60) ⟨dX12_judge_58, rfl⟩ ?_
      refine G_iconst (nx := 61) ⟨dX12_judge_60, rfl⟩ ci_0 ?_
      refine G_iconst (nx := 62) ⟨dX12_judge_61, rfl⟩ ci_2 ?_
      refine G_cs3 (nx := 65) ⟨dX12_judge_62, rfl⟩ kX12_125 rfl rfl (Nat.le_of_ble_eq_true rfl) (Nat.le_of_ble_eq_true rfl) (cM_in ?_)
      refine G_ifne (tgt := 72) (nx := 68) ⟨dX12_judge_65, rfl⟩ rfl (fun c_65 => ?_) (fun c_65 => ?_)
      · rw [bi_n0] at c_65
        refine G_iconst (nx := 73) ⟨dX12_judge_72, rfl⟩ ci_0 ?_
        refine G_istore_5 (nx := 75) ⟨dX12_judge_73, rfl⟩ rfl rfl ?_
        refine G_L (by rw [← nI_0]) (lM_judI (d := d + 13) (row := row) hG hs0 hin hrow (fun h => hk1 i ?_) (fun h => ?_) _ 0 rfl (by omega) rfl)
        · rw [if_neg (fun h2 => by rw [h] at h2; cases h2.2.2)] at hq
          rw [← hq]
        · rw [if_pos ⟨hin, c_65, h⟩] at hq
          refine G_iload_2 (nx := 125) ⟨dX12_judge_124, rfl⟩ ?_
          refine G_iload_4 (nx := 127) ⟨dX12_judge_125, rfl⟩ ?_
          refine G_iadd (nx := 128) ⟨dX12_judge_127, rfl⟩ ?_
          refine G_istore_2 (nx := 129) ⟨dX12_judge_128, rfl⟩ rfl rfl ?_
          refine G_iinc_3 (nx := 132) ⟨dX12_judge_129, rfl⟩ ci_1 rfl ?_
          refine G_goto (tgt := 27) ⟨dX12_judge_132, rfl⟩ rfl ?_
          exact G_L (by rw [nI_1]) (ih k1 (by omega) (i + 1) (t + row i) _ _ rfl rfl (by omega) (by omega) hq)
      · refine G_iconst (nx := 69) ⟨dX12_judge_68, rfl⟩ ci_1 ?_
        refine G_iload_3 (nx := 70) ⟨dX12_judge_69, rfl⟩ ?_
        refine G_iadd (nx := 71) ⟨dX12_judge_70, rfl⟩ ?_
        refine G_iret ⟨dX12_judge_71, rfl⟩ rfl ?_
        rw [bi_0] at c_65
        rw [if_neg (fun h => by rw [c_65] at h; cases h.2.1)] at hq
        rw [show (1 : Int32) = nI 1 by decide, nI_add]
        exact hk1 i (by rw [← hq])

theorem cM_judge {s : Int32} (hG : MG I n gr) (hsz : SZ I) (hk1 : inR s 0 3 = false → K (.int (-2)) I J (rX g)) (hk2 : ∀ s0, s = nI s0 → s0 < 4 → I 103 s0 = -1 → K (.int (-11)) I J (rX g)) (hk : ∀ (s0 z : Nat) (Q : Option Nat × Int32) (I' : AI) (v : Int32), s = nI s0 → s0 < 4 → ¬ I 103 s0 = -1 → I 104 s0 = nI z → z ≤ 60 → jdL n gr (fun j => I 105 (60 * s0 + j)) z 0 0 = Q → sb fH I I' → ((∃ i, Q.1 = some i ∧ v = nI (1 + i)) ∨ (Q.1 = none ∧ ¬ z = n ∧ v = 100) ∨ (Q.1 = none ∧ z = n ∧ ∃ r, IsNu gr (2 ^ n - 1) (2 ^ n - 1) r ∧ v = if Q.2 = nI r then 0 else 100)) → K (.int v) I' J (rX g)) : G l (d + 15) mX12_judge K 0 [.ref 75, .int s, UU, UU, UU, UU] [] I J (rX g) := by
  refine G_iload_1 (nx := 1) ⟨dX12_judge_0, rfl⟩ ?_
  refine G_cs1 (nx := 4) ⟨dX12_judge_1, rfl⟩ kX12_253 rfl rfl (Nat.le_of_ble_eq_true rfl) (Nat.le_of_ble_eq_true rfl) (cM_isSheet ?_)
  refine G_ifne (tgt := 10) (nx := 7) ⟨dX12_judge_4, rfl⟩ rfl (fun c_4 => ?_) (fun c_4 => ?_)
  · rw [bi_n0] at c_4
    obtain ⟨s0, hs0, es⟩ := s_ex c_4
    subst es
    have hin4 := in4 hs0
    have ecs := cl_nI (p := s0) (by omega)
    obtain ⟨z, hz60, hz⟩ := hsz s0 hs0
    refine G_aload_0 (nx := 11) ⟨dX12_judge_10, rfl⟩ ?_
    refine G_getr (nx := 14) (k := 75) (r := 103) ⟨dX12_judge_11, rfl⟩ fX12_97 q_75 yr_12_43 (r_75_43 _) ?_
    refine G_iload_1 (nx := 15) ⟨dX12_judge_14, rfl⟩ ?_
    refine G_iald (nx := 16) (k := 103) ⟨dX12_judge_15, rfl⟩ q_103 (by first | assumption | decide | (unfold vp_in; decide)) ?_
    rw [ecs]
    refine G_iconst (nx := 17) ⟨dX12_judge_16, rfl⟩ ci_m1 ?_
    refine G_icmpne (tgt := 23) (nx := 20) ⟨dX12_judge_17, rfl⟩ rfl (fun c_17 => ?_) (fun c_17 => ?_)
    · refine G_iconst (nx := 24) ⟨dX12_judge_23, rfl⟩ ci_0 ?_
      refine G_istore_2 (nx := 25) ⟨dX12_judge_24, rfl⟩ rfl rfl ?_
      refine G_iconst (nx := 26) ⟨dX12_judge_25, rfl⟩ ci_0 ?_
      refine G_istore_3 (nx := 27) ⟨dX12_judge_26, rfl⟩ rfl rfl ?_
      exact G_L (by rw [← nI_0]) (lM_judO (d := d) (row := fun j => I 105 (60 * s0 + j)) hG hs0 hz60 hz (fun j _ => rfl) (fun i h => hk s0 z _ I _ rfl hs0 c_17 hz hz60 rfl sb.rf (Or.inl ⟨i, h, rfl⟩)) (fun h1 h2 => hk s0 z _ I _ rfl hs0 c_17 hz hz60 rfl sb.rf (Or.inr (Or.inl ⟨h1, h2, rfl⟩))) (fun h1 h2 r I1 hnu hs1 => hk s0 z _ I1 _ rfl hs0 c_17 hz hz60 rfl hs1 (Or.inr (Or.inr ⟨h1, h2, r, hnu, rfl⟩))) z 0 (nI 0) UU UU rfl rfl (by omega) (by omega) (by rw [nI_0]))
    · refine G_bipush (nx := 22) ⟨dX12_judge_20, rfl⟩ cb_m11 ?_
      refine G_iret ⟨dX12_judge_22, rfl⟩ rfl ?_
      exact hk2 s0 rfl hs0 c_17
  · refine G_bipush (nx := 9) ⟨dX12_judge_7, rfl⟩ cb_m2 ?_
    refine G_iret ⟨dX12_judge_9, rfl⟩ rfl ?_
    rw [bi_0] at c_4
    exact hk1 c_4

end M48
