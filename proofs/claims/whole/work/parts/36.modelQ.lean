
def fSh (s a b : Nat) : Bool := (a == 103 && b == s) || (a == 104 && b == s) || (a == 105 && (decide (60 * s ≤ b) && decide (b < 60 * s + 60)))
theorem fSh_3 (s : Nat) : fSh s 103 s = true := by simp [fSh]
theorem fSh_4 (s : Nat) : fSh s 104 s = true := by simp [fSh]
theorem fSh_5 (s : Nat) {j : Nat} (h : j < 60) : fSh s 105 (60 * s + j) = true := by simp [fSh]; omega
def f77 (a _ : Nat) : Bool := a == 77
section M36
variable {l : Launch} {d : Nat} {K : AK} {I : AI} {J : AJ} {g : Bool} {n : Nat} {gr : Nat → Nat}

theorem lM_sheet {s0 : Nat} {q v : Int32} (hs0 : s0 < 4) (hk : ∀ (I' : AI), (∀ j, j < 60 → I' 105 (60 * s0 + j) = 0) → (∀ a b, ¬ a = 105 → I' a b = I a b) → sb (fSh s0) I I' → K (.int 1) I' J (rX g)) : ∀ (k j : Nat) (I1 : AI), 60 - j = k → j ≤ 60 → (∀ i, i < j → I1 105 (60 * s0 + i) = 0) → (∀ a b, ¬ a = 105 → I1 a b = I a b) → sb (fSh s0) I I1 → G l d mX12_sheet K 68 [.ref 75, .int (nI s0), .int q, .int v, .int (nI j)] [] I1 J (rX g) := by
  intro k
  induction k using Nat.strongRecOn with
  | _ k ih =>
  intro j I1 hjk hj hz hr hs1
  refine G_iload_4 (nx := 70) ⟨dX12_sheet_68, rfl⟩ ?_
  refine G_bipush (nx := 72) ⟨dX12_sheet_70, rfl⟩ cb_60 ?_
  rw [show (60 : Int32) = nI 60 by decide]
  refine G_icmpge (tgt := 94) (nx := 75) ⟨dX12_sheet_72, rfl⟩ rfl (fun c_72 => ?_) (fun c_72 => ?_)
  · refine G_iconst (nx := 95) ⟨dX12_sheet_94, rfl⟩ ci_1 ?_
    refine G_iret ⟨dX12_sheet_95, rfl⟩ rfl ?_
    rw [nI_le_iff (by omega) (by omega)] at c_72
    exact hk I1 (fun i hi => hz i (by omega)) hr hs1
  · rw [nI_le_iff (by omega) (by omega)] at c_72
    have hi240 := in240 hs0 (show j < 60 by omega)
    have eci := cl_nI (p := 60 * s0 + j) (by omega)
    refine G_aload_0 (nx := 76) ⟨dX12_sheet_75, rfl⟩ ?_
    refine G_getr (nx := 79) (k := 75) (r := 105) ⟨dX12_sheet_76, rfl⟩ fX12_103 q_75 yr_12_45 (r_75_45 _) ?_
    refine G_bipush (nx := 81) ⟨dX12_sheet_79, rfl⟩ cb_60 ?_
    refine G_iload_1 (nx := 82) ⟨dX12_sheet_81, rfl⟩ ?_
    refine G_imul (nx := 83) ⟨dX12_sheet_82, rfl⟩ ?_
    refine G_iload_4 (nx := 85) ⟨dX12_sheet_83, rfl⟩ ?_
    refine G_iadd (nx := 86) ⟨dX12_sheet_85, rfl⟩ ?_
    rw [it_nI]
    refine G_iconst (nx := 87) ⟨dX12_sheet_86, rfl⟩ ci_0 ?_
    refine G_iast (nx := 88) (k := 105) ⟨dX12_sheet_87, rfl⟩ q_105 (by first | assumption | decide | (unfold vp_in; decide)) ?_
    rw [eci]
    refine G_iinc_4 (nx := 91) ⟨dX12_sheet_88, rfl⟩ ci_1 rfl ?_
    refine G_goto (tgt := 68) ⟨dX12_sheet_91, rfl⟩ rfl ?_
    refine G_L (by rw [nI_1]) (ih (60 - (j + 1)) (by omega) (j + 1) _ rfl (by omega) (fun i hi => ?_) (fun a b h => by rw [w2_row _ _ _ _ h]; exact hr a b h) (hs1.w (fSh_5 s0 (by omega))))
    by_cases e : i = j
    · subst e; rw [w2_at]
    · rw [w2_ne _ _ _ _ (by omega)]; exact hz i (by omega)

theorem cM_sheet {s q v : Int32} (hk1 : (inR s 0 3 && inR q (-1) 2 && (decide (q = -1) || decide (v ≤ 60))) = false → K (.int (-2)) I J (rX g)) (hk2 : inR s 0 3 = true → inR q (-1) 2 = true → ¬ q = -1 → v ≤ 60 → v < 0 → K (.int (-14)) I J (rX g)) (hk : ∀ (s0 : Nat) (I' : AI), s = nI s0 → s0 < 4 → inR q (-1) 2 = true → (q = -1 ∨ (0 ≤ v ∧ v ≤ 60)) → (∀ j, j < 60 → I' 105 (60 * s0 + j) = 0) → I' 103 s0 = q → I' 104 s0 = (if q = -1 then 0 else v) → sb (fSh s0) I I' → K (.int 1) I' J (rX g)) : G l (d + 2) mX12_sheet K 0 [.ref 75, .int s, .int q, .int v, UU] [] I J (rX g) := by
  refine G_iload_1 (nx := 1) ⟨dX12_sheet_0, rfl⟩ ?_
  refine G_cs1 (nx := 4) ⟨dX12_sheet_1, rfl⟩ kX12_253 rfl rfl (Nat.le_of_ble_eq_true rfl) (Nat.le_of_ble_eq_true rfl) (cM_isSheet ?_)
  refine G_ifeq (tgt := 27) (nx := 7) ⟨dX12_sheet_4, rfl⟩ rfl (fun c_4 => ?_) (fun c_4 => ?_)
  · refine G_bipush (nx := 29) ⟨dX12_sheet_27, rfl⟩ cb_m2 ?_
    refine G_iret ⟨dX12_sheet_29, rfl⟩ rfl ?_
    rw [bi_0] at c_4
    exact hk1 (by simp [c_4])
  · refine G_iload_2 (nx := 8) ⟨dX12_sheet_7, rfl⟩ ?_
    refine G_iconst (nx := 9) ⟨dX12_sheet_8, rfl⟩ ci_m1 ?_
    refine G_iconst (nx := 10) ⟨dX12_sheet_9, rfl⟩ ci_2 ?_
    refine G_cs3 (nx := 13) ⟨dX12_sheet_10, rfl⟩ kX12_125 rfl rfl (Nat.le_of_ble_eq_true rfl) (Nat.le_of_ble_eq_true rfl) (cM_in ?_)
    refine G_ifeq (tgt := 27) (nx := 16) ⟨dX12_sheet_13, rfl⟩ rfl (fun c_13 => ?_) (fun c_13 => ?_)
    · refine G_bipush (nx := 29) ⟨dX12_sheet_27, rfl⟩ cb_m2 ?_
      refine G_iret ⟨dX12_sheet_29, rfl⟩ rfl ?_
      rw [bi_0] at c_13
      exact hk1 (by simp [c_13])
    · rw [bi_n0] at c_13
      refine G_iload_2 (nx := 17) ⟨dX12_sheet_16, rfl⟩ ?_
      refine G_iconst (nx := 18) ⟨dX12_sheet_17, rfl⟩ ci_m1 ?_
      refine G_icmpeq (tgt := 30) (nx := 21) ⟨dX12_sheet_18, rfl⟩ rfl (fun c_18 => ?_) (fun c_18 => ?_)
      · refine G_iload_2 (nx := 31) ⟨dX12_sheet_30, rfl⟩ ?_
        refine G_iconst (nx := 32) ⟨dX12_sheet_31, rfl⟩ ci_m1 ?_
        refine G_icmpeq (tgt := 42) (nx := 35) ⟨dX12_sheet_32, rfl⟩ rfl (fun c_32 => ?_) (fun c_32 => ?_)
        · rw [bi_n0] at c_4
          obtain ⟨s0, hs0, es⟩ := s_ex c_4
          subst es
          have hin4 := in4 hs0
          have ecs := cl_nI (p := s0) (by omega)
          refine G_aload_0 (nx := 43) ⟨dX12_sheet_42, rfl⟩ ?_
          refine G_getr (nx := 46) (k := 75) (r := 103) ⟨dX12_sheet_43, rfl⟩ fX12_97 q_75 yr_12_43 (r_75_43 _) ?_
          refine G_iload_1 (nx := 47) ⟨dX12_sheet_46, rfl⟩ ?_
          refine G_iload_2 (nx := 48) ⟨dX12_sheet_47, rfl⟩ ?_
          refine G_iast (nx := 49) (k := 103) ⟨dX12_sheet_48, rfl⟩ q_103 (by first | assumption | decide | (unfold vp_in; decide)) ?_
          rw [ecs]
          refine G_aload_0 (nx := 50) ⟨dX12_sheet_49, rfl⟩ ?_
          refine G_getr (nx := 53) (k := 75) (r := 104) ⟨dX12_sheet_50, rfl⟩ fX12_100 q_75 yr_12_44 (r_75_44 _) ?_
          refine G_iload_1 (nx := 54) ⟨dX12_sheet_53, rfl⟩ ?_
          refine G_iload_2 (nx := 55) ⟨dX12_sheet_54, rfl⟩ ?_
          refine G_iconst (nx := 56) ⟨dX12_sheet_55, rfl⟩ ci_m1 ?_
          refine G_icmpne (tgt := 63) (nx := 59) ⟨dX12_sheet_56, rfl⟩ rfl (fun c_56 => ?_) (fun c_56 => ?_)
          · refine G_iload_3 (nx := 64) ⟨dX12_sheet_63, rfl⟩ ?_
            refine G_iast (nx := 65) (k := 104) ⟨dX12_sheet_64, rfl⟩ q_104 (by first | assumption | decide | (unfold vp_in; decide)) ?_
            rw [ecs]
            refine G_iconst (nx := 66) ⟨dX12_sheet_65, rfl⟩ ci_0 ?_
            refine G_istore_4 (nx := 68) ⟨dX12_sheet_66, rfl⟩ rfl rfl ?_
            exact absurd c_18 c_56
          · refine G_iconst (nx := 60) ⟨dX12_sheet_59, rfl⟩ ci_0 ?_
            refine G_goto (tgt := 64) ⟨dX12_sheet_60, rfl⟩ rfl ?_
            refine G_iast (nx := 65) (k := 104) ⟨dX12_sheet_64, rfl⟩ q_104 (by first | assumption | decide | (unfold vp_in; decide)) ?_
            rw [ecs]
            refine G_iconst (nx := 66) ⟨dX12_sheet_65, rfl⟩ ci_0 ?_
            refine G_istore_4 (nx := 68) ⟨dX12_sheet_66, rfl⟩ rfl rfl ?_
            refine G_L (by rw [← nI_0]) (lM_sheet hs0 (fun I2 h1 h2 h3 => hk s0 I2 rfl hs0 c_13 (Or.inl c_18) h1 ?_ ?_ (((sb.rf.w (fSh_3 s0)).w (fSh_4 s0)).tr h3)) _ 0 _ rfl (by omega) (fun i hi => absurd hi (by omega)) (fun a b h => rfl) sb.rf)
            · rw [h2 103 s0 (by decide), w2_row _ _ _ _ (show ¬ 103 = 104 by decide), w2_at]
            · rw [h2 104 s0 (by decide), w2_at, if_pos c_18]
        · refine G_iload_3 (nx := 36) ⟨dX12_sheet_35, rfl⟩ ?_
          refine G_ifge (tgt := 42) (nx := 39) ⟨dX12_sheet_36, rfl⟩ rfl (fun c_36 => ?_) (fun c_36 => ?_)
          · rw [bi_n0] at c_4
            obtain ⟨s0, hs0, es⟩ := s_ex c_4
            subst es
            have hin4 := in4 hs0
            have ecs := cl_nI (p := s0) (by omega)
            refine G_aload_0 (nx := 43) ⟨dX12_sheet_42, rfl⟩ ?_
            refine G_getr (nx := 46) (k := 75) (r := 103) ⟨dX12_sheet_43, rfl⟩ fX12_97 q_75 yr_12_43 (r_75_43 _) ?_
            refine G_iload_1 (nx := 47) ⟨dX12_sheet_46, rfl⟩ ?_
            refine G_iload_2 (nx := 48) ⟨dX12_sheet_47, rfl⟩ ?_
            refine G_iast (nx := 49) (k := 103) ⟨dX12_sheet_48, rfl⟩ q_103 (by first | assumption | decide | (unfold vp_in; decide)) ?_
            rw [ecs]
            refine G_aload_0 (nx := 50) ⟨dX12_sheet_49, rfl⟩ ?_
            refine G_getr (nx := 53) (k := 75) (r := 104) ⟨dX12_sheet_50, rfl⟩ fX12_100 q_75 yr_12_44 (r_75_44 _) ?_
            refine G_iload_1 (nx := 54) ⟨dX12_sheet_53, rfl⟩ ?_
            refine G_iload_2 (nx := 55) ⟨dX12_sheet_54, rfl⟩ ?_
            refine G_iconst (nx := 56) ⟨dX12_sheet_55, rfl⟩ ci_m1 ?_
            refine G_icmpne (tgt := 63) (nx := 59) ⟨dX12_sheet_56, rfl⟩ rfl (fun c_56 => ?_) (fun c_56 => ?_)
            · refine G_iload_3 (nx := 64) ⟨dX12_sheet_63, rfl⟩ ?_
              refine G_iast (nx := 65) (k := 104) ⟨dX12_sheet_64, rfl⟩ q_104 (by first | assumption | decide | (unfold vp_in; decide)) ?_
              rw [ecs]
              refine G_iconst (nx := 66) ⟨dX12_sheet_65, rfl⟩ ci_0 ?_
              refine G_istore_4 (nx := 68) ⟨dX12_sheet_66, rfl⟩ rfl rfl ?_
              exact absurd c_18 c_32
            · refine G_iconst (nx := 60) ⟨dX12_sheet_59, rfl⟩ ci_0 ?_
              refine G_goto (tgt := 64) ⟨dX12_sheet_60, rfl⟩ rfl ?_
              refine G_iast (nx := 65) (k := 104) ⟨dX12_sheet_64, rfl⟩ q_104 (by first | assumption | decide | (unfold vp_in; decide)) ?_
              rw [ecs]
              refine G_iconst (nx := 66) ⟨dX12_sheet_65, rfl⟩ ci_0 ?_
              refine G_istore_4 (nx := 68) ⟨dX12_sheet_66, rfl⟩ rfl rfl ?_
              exact absurd c_18 c_32
          · refine G_bipush (nx := 41) ⟨dX12_sheet_39, rfl⟩ cb_m14 ?_
            refine G_iret ⟨dX12_sheet_41, rfl⟩ rfl ?_
            exact absurd c_18 c_32
      · refine G_iload_3 (nx := 22) ⟨dX12_sheet_21, rfl⟩ ?_
        refine G_bipush (nx := 24) ⟨dX12_sheet_22, rfl⟩ cb_60 ?_
        
        refine G_icmple (tgt := 30) (nx := 27) ⟨dX12_sheet_24, rfl⟩ rfl (fun c_24 => ?_) (fun c_24 => ?_)
        · refine G_iload_2 (nx := 31) ⟨dX12_sheet_30, rfl⟩ ?_
          refine G_iconst (nx := 32) ⟨dX12_sheet_31, rfl⟩ ci_m1 ?_
          refine G_icmpeq (tgt := 42) (nx := 35) ⟨dX12_sheet_32, rfl⟩ rfl (fun c_32 => ?_) (fun c_32 => ?_)
          · rw [bi_n0] at c_4
            obtain ⟨s0, hs0, es⟩ := s_ex c_4
            subst es
            have hin4 := in4 hs0
            have ecs := cl_nI (p := s0) (by omega)
            refine G_aload_0 (nx := 43) ⟨dX12_sheet_42, rfl⟩ ?_
            refine G_getr (nx := 46) (k := 75) (r := 103) ⟨dX12_sheet_43, rfl⟩ fX12_97 q_75 yr_12_43 (r_75_43 _) ?_
            refine G_iload_1 (nx := 47) ⟨dX12_sheet_46, rfl⟩ ?_
            refine G_iload_2 (nx := 48) ⟨dX12_sheet_47, rfl⟩ ?_
            refine G_iast (nx := 49) (k := 103) ⟨dX12_sheet_48, rfl⟩ q_103 (by first | assumption | decide | (unfold vp_in; decide)) ?_
            rw [ecs]
            refine G_aload_0 (nx := 50) ⟨dX12_sheet_49, rfl⟩ ?_
            refine G_getr (nx := 53) (k := 75) (r := 104) ⟨dX12_sheet_50, rfl⟩ fX12_100 q_75 yr_12_44 (r_75_44 _) ?_
            refine G_iload_1 (nx := 54) ⟨dX12_sheet_53, rfl⟩ ?_
            refine G_iload_2 (nx := 55) ⟨dX12_sheet_54, rfl⟩ ?_
            refine G_iconst (nx := 56) ⟨dX12_sheet_55, rfl⟩ ci_m1 ?_
            refine G_icmpne (tgt := 63) (nx := 59) ⟨dX12_sheet_56, rfl⟩ rfl (fun c_56 => ?_) (fun c_56 => ?_)
            · refine G_iload_3 (nx := 64) ⟨dX12_sheet_63, rfl⟩ ?_
              refine G_iast (nx := 65) (k := 104) ⟨dX12_sheet_64, rfl⟩ q_104 (by first | assumption | decide | (unfold vp_in; decide)) ?_
              rw [ecs]
              refine G_iconst (nx := 66) ⟨dX12_sheet_65, rfl⟩ ci_0 ?_
              refine G_istore_4 (nx := 68) ⟨dX12_sheet_66, rfl⟩ rfl rfl ?_
              exact absurd c_32 c_18
            · refine G_iconst (nx := 60) ⟨dX12_sheet_59, rfl⟩ ci_0 ?_
              refine G_goto (tgt := 64) ⟨dX12_sheet_60, rfl⟩ rfl ?_
              refine G_iast (nx := 65) (k := 104) ⟨dX12_sheet_64, rfl⟩ q_104 (by first | assumption | decide | (unfold vp_in; decide)) ?_
              rw [ecs]
              refine G_iconst (nx := 66) ⟨dX12_sheet_65, rfl⟩ ci_0 ?_
              refine G_istore_4 (nx := 68) ⟨dX12_sheet_66, rfl⟩ rfl rfl ?_
              exact absurd c_32 c_18
          · refine G_iload_3 (nx := 36) ⟨dX12_sheet_35, rfl⟩ ?_
            refine G_ifge (tgt := 42) (nx := 39) ⟨dX12_sheet_36, rfl⟩ rfl (fun c_36 => ?_) (fun c_36 => ?_)
            · rw [bi_n0] at c_4
              obtain ⟨s0, hs0, es⟩ := s_ex c_4
              subst es
              have hin4 := in4 hs0
              have ecs := cl_nI (p := s0) (by omega)
              refine G_aload_0 (nx := 43) ⟨dX12_sheet_42, rfl⟩ ?_
              refine G_getr (nx := 46) (k := 75) (r := 103) ⟨dX12_sheet_43, rfl⟩ fX12_97 q_75 yr_12_43 (r_75_43 _) ?_
              refine G_iload_1 (nx := 47) ⟨dX12_sheet_46, rfl⟩ ?_
              refine G_iload_2 (nx := 48) ⟨dX12_sheet_47, rfl⟩ ?_
              refine G_iast (nx := 49) (k := 103) ⟨dX12_sheet_48, rfl⟩ q_103 (by first | assumption | decide | (unfold vp_in; decide)) ?_
              rw [ecs]
              refine G_aload_0 (nx := 50) ⟨dX12_sheet_49, rfl⟩ ?_
              refine G_getr (nx := 53) (k := 75) (r := 104) ⟨dX12_sheet_50, rfl⟩ fX12_100 q_75 yr_12_44 (r_75_44 _) ?_
              refine G_iload_1 (nx := 54) ⟨dX12_sheet_53, rfl⟩ ?_
              refine G_iload_2 (nx := 55) ⟨dX12_sheet_54, rfl⟩ ?_
              refine G_iconst (nx := 56) ⟨dX12_sheet_55, rfl⟩ ci_m1 ?_
              refine G_icmpne (tgt := 63) (nx := 59) ⟨dX12_sheet_56, rfl⟩ rfl (fun c_56 => ?_) (fun c_56 => ?_)
              · refine G_iload_3 (nx := 64) ⟨dX12_sheet_63, rfl⟩ ?_
                refine G_iast (nx := 65) (k := 104) ⟨dX12_sheet_64, rfl⟩ q_104 (by first | assumption | decide | (unfold vp_in; decide)) ?_
                rw [ecs]
                refine G_iconst (nx := 66) ⟨dX12_sheet_65, rfl⟩ ci_0 ?_
                refine G_istore_4 (nx := 68) ⟨dX12_sheet_66, rfl⟩ rfl rfl ?_
                refine G_L (by rw [← nI_0]) (lM_sheet hs0 (fun I2 h1 h2 h3 => hk s0 I2 rfl hs0 c_13 (Or.inr ⟨c_36, c_24⟩) h1 ?_ ?_ (((sb.rf.w (fSh_3 s0)).w (fSh_4 s0)).tr h3)) _ 0 _ rfl (by omega) (fun i hi => absurd hi (by omega)) (fun a b h => rfl) sb.rf)
                · rw [h2 103 s0 (by decide), w2_row _ _ _ _ (show ¬ 103 = 104 by decide), w2_at]
                · rw [h2 104 s0 (by decide), w2_at, if_neg c_18]
              · refine G_iconst (nx := 60) ⟨dX12_sheet_59, rfl⟩ ci_0 ?_
                refine G_goto (tgt := 64) ⟨dX12_sheet_60, rfl⟩ rfl ?_
                refine G_iast (nx := 65) (k := 104) ⟨dX12_sheet_64, rfl⟩ q_104 (by first | assumption | decide | (unfold vp_in; decide)) ?_
                rw [ecs]
                refine G_iconst (nx := 66) ⟨dX12_sheet_65, rfl⟩ ci_0 ?_
                refine G_istore_4 (nx := 68) ⟨dX12_sheet_66, rfl⟩ rfl rfl ?_
                exact absurd c_56 c_18
            · refine G_bipush (nx := 41) ⟨dX12_sheet_39, rfl⟩ cb_m14 ?_
              refine G_iret ⟨dX12_sheet_41, rfl⟩ rfl ?_
              rw [bi_n0] at c_4
              exact hk2 c_4 c_13 c_18 c_24 (by rw [i32_le] at c_36; rw [i32_lt]; omega)
        · refine G_bipush (nx := 29) ⟨dX12_sheet_27, rfl⟩ cb_m2 ?_
          refine G_iret ⟨dX12_sheet_29, rfl⟩ rfl ?_
          exact hk1 (by simp [c_18, c_24])

theorem lM_load {s0 z r : Nat} {row : Nat → Int32} (hs0 : s0 < 4) (hz60 : z ≤ 60) (hn : n ≤ 12) (hk : ∀ (I' : AI), (∀ j, I' 77 j = if j < r then row j else I 77 j) → sb f77 I I' → K (.int (nI r)) I' J (rX g)) : ∀ (k i : Nat) (I1 : AI), min z n - i = k → i ≤ min z n → rn row (min z n) 1 9 k i = r → (∀ j, I1 77 j = if j < i then row j else I 77 j) → I1 75 0 = nI n → I1 104 s0 = nI z → (∀ j, j < 60 → I1 105 (60 * s0 + j) = row j) → sb f77 I I1 → G l (d + 1) mX12_load K 25 [.ref 75, .int (nI s0), .int (nI i)] [] I1 J (rX g) := by
  intro k
  induction k using Nat.strongRecOn with
  | _ k ih =>
  intro i I1 hik hi hr hw e0 hz hrow hs1
  have hin4 := in4 hs0
  have ecs := cl_nI (p := s0) (by omega)
  have hend : min z n ≤ i → r = i := fun h => by
    have : k = 0 := by omega
    subst this
    rw [rn] at hr; exact hr.symm
  refine G_iload_2 (nx := 26) ⟨dX12_load_25, rfl⟩ ?_
  refine G_aload_0 (nx := 27) ⟨dX12_load_26, rfl⟩ ?_
  refine G_getr (nx := 30) (k := 75) (r := 104) ⟨dX12_load_27, rfl⟩ fX12_100 q_75 yr_12_44 (r_75_44 _) ?_
  refine G_iload_1 (nx := 31) ⟨dX12_load_30, rfl⟩ ?_
  
  refine G_iald (nx := 32) (k := 104) ⟨dX12_load_31, rfl⟩ q_104 (by first | assumption | decide | (unfold vp_in; decide)) ?_
  rw [ecs, hz]
  refine G_icmpge (tgt := 86) (nx := 35) ⟨dX12_load_32, rfl⟩ rfl (fun c_32 => ?_) (fun c_32 => ?_)
  · refine G_iload_2 (nx := 87) ⟨dX12_load_86, rfl⟩ ?_
    refine G_iret ⟨dX12_load_87, rfl⟩ rfl ?_
    rw [nI_le_iff (by omega) (by omega)] at c_32
    have e : r = i := hend (by omega)
    subst e
    exact hk I1 hw hs1
  · rw [nI_le_iff (by omega) (by omega)] at c_32
    refine G_iload_2 (nx := 36) ⟨dX12_load_35, rfl⟩ ?_
    refine G_aload_0 (nx := 37) ⟨dX12_load_36, rfl⟩ ?_
    refine G_geti (nx := 40) (k := 75) ⟨dX12_load_37, rfl⟩ fX12_122 q_75 yi_12_0 ?_
    rw [e0]
    refine G_icmpge (tgt := 86) (nx := 43) ⟨dX12_load_40, rfl⟩ rfl (fun c_40 => ?_) (fun c_40 => ?_)
    · refine G_iload_2 (nx := 87) ⟨dX12_load_86, rfl⟩ ?_
      refine G_iret ⟨dX12_load_87, rfl⟩ rfl ?_
      rw [nI_le_iff (by omega) (by omega)] at c_40
      have e : r = i := hend (by omega)
      subst e
      exact hk I1 hw hs1
    · rw [nI_le_iff (by omega) (by omega)] at c_40
      have hi240 := in240 hs0 (show i < 60 by omega)
      have eci := cl_nI (p := 60 * s0 + i) (by omega)
      have h12 := in12 (show i < n by omega) hn
      have eci2 := cl_nI (p := i) (by omega)
      have hlt : i < min z n := by omega
      obtain ⟨k1, ek1⟩ : ∃ k1, k = k1 + 1 := ⟨k - 1, by omega⟩
      rw [ek1, rn, decide_eq_true hlt, Bool.true_and] at hr
      refine G_aload_0 (nx := 44) ⟨dX12_load_43, rfl⟩ ?_
      refine G_getr (nx := 47) (k := 75) (r := 105) ⟨dX12_load_44, rfl⟩ fX12_103 q_75 yr_12_45 (r_75_45 _) ?_
      refine G_bipush (nx := 49) ⟨dX12_load_47, rfl⟩ cb_60 ?_
      refine G_iload_1 (nx := 50) ⟨dX12_load_49, rfl⟩ ?_
      refine G_imul (nx := 51) ⟨dX12_load_50, rfl⟩ ?_
      refine G_iload_2 (nx := 52) ⟨dX12_load_51, rfl⟩ ?_
      refine G_iadd (nx := 53) ⟨dX12_load_52, rfl⟩ ?_
      rw [it_nI]
      refine G_iald (nx := 54) (k := 105) ⟨dX12_load_53, rfl⟩ q_105 (by first | assumption | decide | (unfold vp_in; decide)) ?_
      rw [eci, hrow i (by omega)]
      refine G_iconst (nx := 55) ⟨dX12_load_54, rfl⟩ ci_1 ?_
      refine G_bipush (nx := 57) ⟨dX12_load_55, rfl⟩ cb_9 ?_
      refine G_cs3 (nx := 60) ⟨dX12_load_57, rfl⟩ kX12_125 rfl rfl (Nat.le_of_ble_eq_true rfl) (Nat.le_of_ble_eq_true rfl) (cM_in ?_)
      refine G_ifeq (tgt := 86) (nx := 63) ⟨dX12_load_60, rfl⟩ rfl (fun c_60 => ?_) (fun c_60 => ?_)
      · refine G_iload_2 (nx := 87) ⟨dX12_load_86, rfl⟩ ?_
        refine G_iret ⟨dX12_load_87, rfl⟩ rfl ?_
        rw [bi_0] at c_60
        rw [if_neg (by rw [c_60]; decide)] at hr
        have e : r = i := hr.symm
        subst e
        exact hk I1 hw hs1
      · rw [bi_n0] at c_60
        rw [if_pos c_60] at hr
        refine G_aload_0 (nx := 64) ⟨dX12_load_63, rfl⟩ ?_
        refine G_getr (nx := 67) (k := 75) (r := 77) ⟨dX12_load_64, rfl⟩ fX12_17 q_75 yr_12_3 (r_75_3 _) ?_
        refine G_iload_2 (nx := 68) ⟨dX12_load_67, rfl⟩ ?_
        refine G_aload_0 (nx := 69) ⟨dX12_load_68, rfl⟩ ?_
        refine G_getr (nx := 72) (k := 75) (r := 105) ⟨dX12_load_69, rfl⟩ fX12_103 q_75 yr_12_45 (r_75_45 _) ?_
        refine G_bipush (nx := 74) ⟨dX12_load_72, rfl⟩ cb_60 ?_
        refine G_iload_1 (nx := 75) ⟨dX12_load_74, rfl⟩ ?_
        refine G_imul (nx := 76) ⟨dX12_load_75, rfl⟩ ?_
        refine G_iload_2 (nx := 77) ⟨dX12_load_76, rfl⟩ ?_
        refine G_iadd (nx := 78) ⟨dX12_load_77, rfl⟩ ?_
        rw [it_nI]
        refine G_iald (nx := 79) (k := 105) ⟨dX12_load_78, rfl⟩ q_105 (by first | assumption | decide | (unfold vp_in; decide)) ?_
        rw [eci, hrow i (by omega)]
        refine G_iast (nx := 80) (k := 77) ⟨dX12_load_79, rfl⟩ q_77 (by first | assumption | decide | (unfold vp_in; decide)) ?_
        rw [eci2]
        refine G_iinc_2 (nx := 83) ⟨dX12_load_80, rfl⟩ ci_1 rfl ?_
        refine G_goto (tgt := 25) ⟨dX12_load_83, rfl⟩ rfl ?_
        refine G_L (by rw [nI_1]) (ih k1 (by omega) (i + 1) _ (by omega) (by omega) hr (fun j => ?_) (by rw [w2_row _ _ _ _ (show ¬ 75 = 77 by decide)]; exact e0) (by rw [w2_row _ _ _ _ (show ¬ 104 = 77 by decide)]; exact hz) (fun j hj => by rw [w2_row _ _ _ _ (show ¬ 105 = 77 by decide)]; exact hrow j hj) (hs1.w rfl))
        by_cases e : j = i
        · subst e; rw [w2_at, if_pos (by omega)]
        · rw [w2_ne _ _ _ _ (by omega), hw j]
          by_cases h : j < i
          · rw [if_pos h, if_pos (by omega)]
          · rw [if_neg h, if_neg (by omega)]

theorem cM_load {s : Int32} (hG : MG I n gr) (hsz : SZ I) (hk1 : inR s 0 3 = false → K (.int (-2)) I J (rX g)) (hk2 : ∀ s0, s = nI s0 → s0 < 4 → I 103 s0 = -1 → K (.int (-11)) I J (rX g)) (hk : ∀ (s0 z : Nat) (I' : AI), s = nI s0 → s0 < 4 → ¬ I 103 s0 = -1 → I 104 s0 = nI z → z ≤ 60 → (∀ j, I' 77 j = if j < rn (fun j => I 105 (60 * s0 + j)) (min z n) 1 9 (min z n) 0 then I 105 (60 * s0 + j) else I 77 j) → sb f77 I I' → K (.int (nI (rn (fun j => I 105 (60 * s0 + j)) (min z n) 1 9 (min z n) 0))) I' J (rX g)) : G l (d + 2) mX12_load K 0 [.ref 75, .int s, UU] [] I J (rX g) := by
  refine G_iload_1 (nx := 1) ⟨dX12_load_0, rfl⟩ ?_
  refine G_cs1 (nx := 4) ⟨dX12_load_1, rfl⟩ kX12_253 rfl rfl (Nat.le_of_ble_eq_true rfl) (Nat.le_of_ble_eq_true rfl) (cM_isSheet ?_)
  refine G_ifne (tgt := 10) (nx := 7) ⟨dX12_load_4, rfl⟩ rfl (fun c_4 => ?_) (fun c_4 => ?_)
  · rw [bi_n0] at c_4
    obtain ⟨s0, hs0, es⟩ := s_ex c_4
    subst es
    have hin4 := in4 hs0
    have ecs := cl_nI (p := s0) (by omega)
    obtain ⟨z, hz60, hz⟩ := hsz s0 hs0
    refine G_aload_0 (nx := 11) ⟨dX12_load_10, rfl⟩ ?_
    refine G_getr (nx := 14) (k := 75) (r := 103) ⟨dX12_load_11, rfl⟩ fX12_97 q_75 yr_12_43 (r_75_43 _) ?_
    refine G_iload_1 (nx := 15) ⟨dX12_load_14, rfl⟩ ?_
    refine G_iald (nx := 16) (k := 103) ⟨dX12_load_15, rfl⟩ q_103 (by first | assumption | decide | (unfold vp_in; decide)) ?_
    rw [ecs]
    refine G_iconst (nx := 17) ⟨dX12_load_16, rfl⟩ ci_m1 ?_
    refine G_icmpne (tgt := 23) (nx := 20) ⟨dX12_load_17, rfl⟩ rfl (fun c_17 => ?_) (fun c_17 => ?_)
    · refine G_iconst (nx := 24) ⟨dX12_load_23, rfl⟩ ci_0 ?_
      refine G_istore_2 (nx := 25) ⟨dX12_load_24, rfl⟩ rfl rfl ?_
      exact G_L (by rw [← nI_0]) (lM_load (d := d + 1) (row := fun j => I 105 (60 * s0 + j)) hs0 hz60 hG.2.1 (fun I1 h1 h2 => hk s0 z I1 rfl hs0 c_17 hz hz60 h1 h2) _ 0 I (by omega) (Nat.zero_le _) rfl (fun j => by rw [if_neg (by omega)]) hG.1 hz (fun j _ => rfl) sb.rf)
    · refine G_bipush (nx := 22) ⟨dX12_load_20, rfl⟩ cb_m11 ?_
      refine G_iret ⟨dX12_load_22, rfl⟩ rfl ?_
      exact hk2 s0 rfl hs0 c_17
  · refine G_bipush (nx := 9) ⟨dX12_load_7, rfl⟩ cb_m2 ?_
    refine G_iret ⟨dX12_load_9, rfl⟩ rfl ?_
    rw [bi_0] at c_4
    exact hk1 c_4

end M36
