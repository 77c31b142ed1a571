
def pkS (I : AI) (a b : Nat) (m : Int32) : AI := if I 83 b + m < I 83 a ∨ (I 83 b + m = I 83 a ∧ ¬ I 84 b + (if m = 0 then 0 else 1) < I 84 a) then I else w2 (w2 I 83 a (I 83 b + m)) 84 a (I 84 b + (if m = 0 then 0 else 1))
theorem in4k {p : Nat} (h : p < 4096) : vp_in (nI p) 4096 := vp_in_nI h (by decide)
section M49
variable {l : Launch} {d : Nat} {K : AK} {I : AI} {J : AJ} {g : Bool} {n : Nat} {gr : Nat → Nat}

theorem cM_packsTo {a b : Nat} {m : Int32} (ha : a < 4096) (hb : b < 4096) (hk : K .null (pkS I a b m) J (rX g)) : G l d mX12_packsTo K 0 [.ref 75, .int (nI a), .int (nI b), .int m, UU, UU] [] I J (rX g) := by
  have hia := in4k ha
  have hib := in4k hb
  have eca := cl_nI (p := a) (by omega)
  have ecb := cl_nI (p := b) (by omega)
  unfold pkS at hk
  refine G_aload_0 (nx := 1) ⟨dX12_packsTo_0, rfl⟩ ?_
  refine G_getr (nx := 4) (k := 75) (r := 83) ⟨dX12_packsTo_1, rfl⟩ fX12_35 q_75 yr_12_14 (r_75_14 _) ?_
  refine G_iload_2 (nx := 5) ⟨dX12_packsTo_4, rfl⟩ ?_
  refine G_iald (nx := 6) (k := 83) ⟨dX12_packsTo_5, rfl⟩ q_83 (by first | assumption | decide | (unfold vp_in; decide)) ?_
  rw [ecb]
  refine G_iload_3 (nx := 7) ⟨dX12_packsTo_6, rfl⟩ ?_
  refine G_iadd (nx := 8) ⟨dX12_packsTo_7, rfl⟩ ?_
  refine G_istore_4 (nx := 10) ⟨dX12_packsTo_8, rfl⟩ rfl rfl ?_
  refine G_aload_0 (nx := 11) ⟨dX12_packsTo_10, rfl⟩ ?_
  refine G_getr (nx := 14) (k := 75) (r := 84) ⟨dX12_packsTo_11, rfl⟩ fX12_38 q_75 yr_12_15 (r_75_15 _) ?_
  refine G_iload_2 (nx := 15) ⟨dX12_packsTo_14, rfl⟩ ?_
  refine G_iald (nx := 16) (k := 84) ⟨dX12_packsTo_15, rfl⟩ q_84 (by first | assumption | decide | (unfold vp_in; decide)) ?_
  rw [ecb]
  refine G_iload_3 (nx := 17) ⟨dX12_packsTo_16, rfl⟩ ?_
  refine G_ifne (tgt := 24) (nx := 20) ⟨dX12_packsTo_17, rfl⟩ rfl (fun c_17 => ?_) (fun c_17 => ?_)
  · refine G_iconst (nx := 25) ⟨dX12_packsTo_24, rfl⟩ ci_1 ?_
    refine G_iadd (nx := 26) ⟨dX12_packsTo_25, rfl⟩ ?_
    refine G_istore_5 (nx := 28) ⟨dX12_packsTo_26, rfl⟩ rfl rfl ?_
    refine G_iload_4 (nx := 30) ⟨dX12_packsTo_28, rfl⟩ ?_
    refine G_aload_0 (nx := 31) ⟨dX12_packsTo_30, rfl⟩ ?_
    refine G_getr (nx := 34) (k := 75) (r := 83) ⟨dX12_packsTo_31, rfl⟩ fX12_35 q_75 yr_12_14 (r_75_14 _) ?_
    refine G_iload_1 (nx := 35) ⟨dX12_packsTo_34, rfl⟩ ?_
    refine G_iald (nx := 36) (k := 83) ⟨dX12_packsTo_35, rfl⟩ q_83 (by first | assumption | decide | (unfold vp_in; decide)) ?_
    rw [eca]
    refine G_icmplt (tgt := 61) (nx := 39) ⟨dX12_packsTo_36, rfl⟩ rfl (fun c_36 => ?_) (fun c_36 => ?_)
    · refine G_vret ⟨dX12_packsTo_61, rfl⟩ rfl ?_
      rw [if_neg c_17] at hk
      rw [if_pos (Or.inl c_36)] at hk
      exact hk
    · refine G_iload_4 (nx := 41) ⟨dX12_packsTo_39, rfl⟩ ?_
      refine G_aload_0 (nx := 42) ⟨dX12_packsTo_41, rfl⟩ ?_
      refine G_getr (nx := 45) (k := 75) (r := 83) ⟨dX12_packsTo_42, rfl⟩ fX12_35 q_75 yr_12_14 (r_75_14 _) ?_
      refine G_iload_1 (nx := 46) ⟨dX12_packsTo_45, rfl⟩ ?_
      refine G_iald (nx := 47) (k := 83) ⟨dX12_packsTo_46, rfl⟩ q_83 (by first | assumption | decide | (unfold vp_in; decide)) ?_
      rw [eca]
      refine G_icmpne (tgt := 62) (nx := 50) ⟨dX12_packsTo_47, rfl⟩ rfl (fun c_47 => ?_) (fun c_47 => ?_)
      · refine G_aload_0 (nx := 63) ⟨dX12_packsTo_62, rfl⟩ ?_
        refine G_getr (nx := 66) (k := 75) (r := 83) ⟨dX12_packsTo_63, rfl⟩ fX12_35 q_75 yr_12_14 (r_75_14 _) ?_
        refine G_iload_1 (nx := 67) ⟨dX12_packsTo_66, rfl⟩ ?_
        refine G_iload_4 (nx := 69) ⟨dX12_packsTo_67, rfl⟩ ?_
        refine G_iast (nx := 70) (k := 83) ⟨dX12_packsTo_69, rfl⟩ q_83 (by first | assumption | decide | (unfold vp_in; decide)) ?_
        rw [eca]
        refine G_aload_0 (nx := 71) ⟨dX12_packsTo_70, rfl⟩ ?_
        refine G_getr (nx := 74) (k := 75) (r := 84) ⟨dX12_packsTo_71, rfl⟩ fX12_38 q_75 yr_12_15 (r_75_15 _) ?_
        refine G_iload_1 (nx := 75) ⟨dX12_packsTo_74, rfl⟩ ?_
        refine G_iload_5 (nx := 77) ⟨dX12_packsTo_75, rfl⟩ ?_
        refine G_iast (nx := 78) (k := 84) ⟨dX12_packsTo_77, rfl⟩ q_84 (by first | assumption | decide | (unfold vp_in; decide)) ?_
        rw [eca]
        refine G_vret ⟨dX12_packsTo_78, rfl⟩ rfl ?_
        rw [if_neg c_17] at hk
        rw [if_neg (fun h => h.elim c_36 (fun h => c_47 h.1))] at hk
        exact hk
      · refine G_iload_5 (nx := 52) ⟨dX12_packsTo_50, rfl⟩ ?_
        refine G_aload_0 (nx := 53) ⟨dX12_packsTo_52, rfl⟩ ?_
        refine G_getr (nx := 56) (k := 75) (r := 84) ⟨dX12_packsTo_53, rfl⟩ fX12_38 q_75 yr_12_15 (r_75_15 _) ?_
        refine G_iload_1 (nx := 57) ⟨dX12_packsTo_56, rfl⟩ ?_
        refine G_iald (nx := 58) (k := 84) ⟨dX12_packsTo_57, rfl⟩ q_84 (by first | assumption | decide | (unfold vp_in; decide)) ?_
        rw [eca]
        refine G_icmplt (tgt := 62) (nx := 61) ⟨dX12_packsTo_58, rfl⟩ rfl (fun c_58 => ?_) (fun c_58 => ?_)
        · refine G_aload_0 (nx := 63) ⟨dX12_packsTo_62, rfl⟩ ?_
          refine G_getr (nx := 66) (k := 75) (r := 83) ⟨dX12_packsTo_63, rfl⟩ fX12_35 q_75 yr_12_14 (r_75_14 _) ?_
          refine G_iload_1 (nx := 67) ⟨dX12_packsTo_66, rfl⟩ ?_
          refine G_iload_4 (nx := 69) ⟨dX12_packsTo_67, rfl⟩ ?_
          refine G_iast (nx := 70) (k := 83) ⟨dX12_packsTo_69, rfl⟩ q_83 (by first | assumption | decide | (unfold vp_in; decide)) ?_
          rw [eca]
          refine G_aload_0 (nx := 71) ⟨dX12_packsTo_70, rfl⟩ ?_
          refine G_getr (nx := 74) (k := 75) (r := 84) ⟨dX12_packsTo_71, rfl⟩ fX12_38 q_75 yr_12_15 (r_75_15 _) ?_
          refine G_iload_1 (nx := 75) ⟨dX12_packsTo_74, rfl⟩ ?_
          refine G_iload_5 (nx := 77) ⟨dX12_packsTo_75, rfl⟩ ?_
          refine G_iast (nx := 78) (k := 84) ⟨dX12_packsTo_77, rfl⟩ q_84 (by first | assumption | decide | (unfold vp_in; decide)) ?_
          rw [eca]
          refine G_vret ⟨dX12_packsTo_78, rfl⟩ rfl ?_
          rw [if_neg c_17] at hk
          rw [if_neg (fun h => h.elim c_36 (fun h => h.2 c_58))] at hk
          exact hk
        · refine G_vret ⟨dX12_packsTo_61, rfl⟩ rfl ?_
          rw [if_neg c_17] at hk
          rw [if_pos (Or.inr ⟨c_47, c_58⟩)] at hk
          exact hk
  · refine G_iconst (nx := 21) ⟨dX12_packsTo_20, rfl⟩ ci_0 ?_
    refine G_goto (tgt := 25) ⟨dX12_packsTo_21, rfl⟩ rfl ?_
    refine G_iadd (nx := 26) ⟨dX12_packsTo_25, rfl⟩ ?_
    refine G_istore_5 (nx := 28) ⟨dX12_packsTo_26, rfl⟩ rfl rfl ?_
    refine G_iload_4 (nx := 30) ⟨dX12_packsTo_28, rfl⟩ ?_
    refine G_aload_0 (nx := 31) ⟨dX12_packsTo_30, rfl⟩ ?_
    refine G_getr (nx := 34) (k := 75) (r := 83) ⟨dX12_packsTo_31, rfl⟩ fX12_35 q_75 yr_12_14 (r_75_14 _) ?_
    refine G_iload_1 (nx := 35) ⟨dX12_packsTo_34, rfl⟩ ?_
    refine G_iald (nx := 36) (k := 83) ⟨dX12_packsTo_35, rfl⟩ q_83 (by first | assumption | decide | (unfold vp_in; decide)) ?_
    rw [eca]
    refine G_icmplt (tgt := 61) (nx := 39) ⟨dX12_packsTo_36, rfl⟩ rfl (fun c_36 => ?_) (fun c_36 => ?_)
    · refine G_vret ⟨dX12_packsTo_61, rfl⟩ rfl ?_
      rw [if_pos c_17] at hk
      rw [if_pos (Or.inl c_36)] at hk
      exact hk
    · refine G_iload_4 (nx := 41) ⟨dX12_packsTo_39, rfl⟩ ?_
      refine G_aload_0 (nx := 42) ⟨dX12_packsTo_41, rfl⟩ ?_
      refine G_getr (nx := 45) (k := 75) (r := 83) ⟨dX12_packsTo_42, rfl⟩ fX12_35 q_75 yr_12_14 (r_75_14 _) ?_
      refine G_iload_1 (nx := 46) ⟨dX12_packsTo_45, rfl⟩ ?_
      refine G_iald (nx := 47) (k := 83) ⟨dX12_packsTo_46, rfl⟩ q_83 (by first | assumption | decide | (unfold vp_in; decide)) ?_
      rw [eca]
      refine G_icmpne (tgt := 62) (nx := 50) ⟨dX12_packsTo_47, rfl⟩ rfl (fun c_47 => ?_) (fun c_47 => ?_)
      · refine G_aload_0 (nx := 63) ⟨dX12_packsTo_62, rfl⟩ ?_
        refine G_getr (nx := 66) (k := 75) (r := 83) ⟨dX12_packsTo_63, rfl⟩ fX12_35 q_75 yr_12_14 (r_75_14 _) ?_
        refine G_iload_1 (nx := 67) ⟨dX12_packsTo_66, rfl⟩ ?_
        refine G_iload_4 (nx := 69) ⟨dX12_packsTo_67, rfl⟩ ?_
        refine G_iast (nx := 70) (k := 83) ⟨dX12_packsTo_69, rfl⟩ q_83 (by first | assumption | decide | (unfold vp_in; decide)) ?_
        rw [eca]
        refine G_aload_0 (nx := 71) ⟨dX12_packsTo_70, rfl⟩ ?_
        refine G_getr (nx := 74) (k := 75) (r := 84) ⟨dX12_packsTo_71, rfl⟩ fX12_38 q_75 yr_12_15 (r_75_15 _) ?_
        refine G_iload_1 (nx := 75) ⟨dX12_packsTo_74, rfl⟩ ?_
        refine G_iload_5 (nx := 77) ⟨dX12_packsTo_75, rfl⟩ ?_
        refine G_iast (nx := 78) (k := 84) ⟨dX12_packsTo_77, rfl⟩ q_84 (by first | assumption | decide | (unfold vp_in; decide)) ?_
        rw [eca]
        refine G_vret ⟨dX12_packsTo_78, rfl⟩ rfl ?_
        rw [if_pos c_17] at hk
        rw [if_neg (fun h => h.elim c_36 (fun h => c_47 h.1))] at hk
        exact hk
      · refine G_iload_5 (nx := 52) ⟨dX12_packsTo_50, rfl⟩ ?_
        refine G_aload_0 (nx := 53) ⟨dX12_packsTo_52, rfl⟩ ?_
        refine G_getr (nx := 56) (k := 75) (r := 84) ⟨dX12_packsTo_53, rfl⟩ fX12_38 q_75 yr_12_15 (r_75_15 _) ?_
        refine G_iload_1 (nx := 57) ⟨dX12_packsTo_56, rfl⟩ ?_
        refine G_iald (nx := 58) (k := 84) ⟨dX12_packsTo_57, rfl⟩ q_84 (by first | assumption | decide | (unfold vp_in; decide)) ?_
        rw [eca]
        refine G_icmplt (tgt := 62) (nx := 61) ⟨dX12_packsTo_58, rfl⟩ rfl (fun c_58 => ?_) (fun c_58 => ?_)
        · refine G_aload_0 (nx := 63) ⟨dX12_packsTo_62, rfl⟩ ?_
          refine G_getr (nx := 66) (k := 75) (r := 83) ⟨dX12_packsTo_63, rfl⟩ fX12_35 q_75 yr_12_14 (r_75_14 _) ?_
          refine G_iload_1 (nx := 67) ⟨dX12_packsTo_66, rfl⟩ ?_
          refine G_iload_4 (nx := 69) ⟨dX12_packsTo_67, rfl⟩ ?_
          refine G_iast (nx := 70) (k := 83) ⟨dX12_packsTo_69, rfl⟩ q_83 (by first | assumption | decide | (unfold vp_in; decide)) ?_
          rw [eca]
          refine G_aload_0 (nx := 71) ⟨dX12_packsTo_70, rfl⟩ ?_
          refine G_getr (nx := 74) (k := 75) (r := 84) ⟨dX12_packsTo_71, rfl⟩ fX12_38 q_75 yr_12_15 (r_75_15 _) ?_
          refine G_iload_1 (nx := 75) ⟨dX12_packsTo_74, rfl⟩ ?_
          refine G_iload_5 (nx := 77) ⟨dX12_packsTo_75, rfl⟩ ?_
          refine G_iast (nx := 78) (k := 84) ⟨dX12_packsTo_77, rfl⟩ q_84 (by first | assumption | decide | (unfold vp_in; decide)) ?_
          rw [eca]
          refine G_vret ⟨dX12_packsTo_78, rfl⟩ rfl ?_
          rw [if_pos c_17] at hk
          rw [if_neg (fun h => h.elim c_36 (fun h => h.2 c_58))] at hk
          exact hk
        · refine G_vret ⟨dX12_packsTo_61, rfl⟩ rfl ?_
          rw [if_pos c_17] at hk
          rw [if_pos (Or.inr ⟨c_47, c_58⟩)] at hk
          exact hk

end M49
