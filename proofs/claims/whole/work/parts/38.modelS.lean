
theorem k3 (a j : Nat) : nI a + (3 : Int32) * nI j = nI (a + 3 * j) := by
  rw [show (3 : Int32) = nI 3 by decide, nI_mul, nI_add]
/-- row c holds the net -/
def KP (I I' : AI) (c : Nat) (m : Nat) : Prop := I' c 0 = I 75 0 ∧ I' c 1 = I 75 1 ∧ ∀ j, j < m → I' c (2 + 3 * j) = I 76 j ∧ I' c (3 + 3 * j) = I 77 j ∧ I' c (4 + 3 * j) = I 78 j
/-- the net is row c's -/
def PB (I I' : AI) (c : Nat) (m : Nat) : Prop := I' 75 0 = I c 0 ∧ I' 75 1 = I c 1 ∧ ∀ j, j < m → I' 76 j = I c (2 + 3 * j) ∧ I' 77 j = I c (3 + 3 * j) ∧ I' 78 j = I c (4 + 3 * j)
def fB (a b : Nat) : Bool := (a == 75 && (b == 0 || b == 1)) || a == 76 || a == 77 || a == 78
section M38
variable {l : Launch} {d : Nat} {K : AK} {I : AI} {J : AJ} {g : Bool} {n : Nat} {gr : Nat → Nat}

theorem cM_seed {v : Int32} (hk : K (.int (I 75 1)) (w2 I 75 1 v) J (rX g)) : G l d mX12_seed K 0 [.ref 75, .int v, UU] [] I J (rX g) := by
  refine G_aload_0 (nx := 1) ⟨dX12_seed_0, rfl⟩ ?_
  refine G_geti (nx := 4) (k := 75) ⟨dX12_seed_1, rfl⟩ fX12_7 q_75 yi_12_1 ?_
  refine G_istore_2 (nx := 5) ⟨dX12_seed_4, rfl⟩ rfl rfl ?_
  refine G_aload_0 (nx := 6) ⟨dX12_seed_5, rfl⟩ ?_
  refine G_iload_1 (nx := 7) ⟨dX12_seed_6, rfl⟩ ?_
  refine G_puti (nx := 10) (k := 75) ⟨dX12_seed_7, rfl⟩ pX12_7 q_75 yt_12_1 ?_
  refine G_iload_2 (nx := 11) ⟨dX12_seed_10, rfl⟩ ?_
  refine G_iret ⟨dX12_seed_11, rfl⟩ rfl ?_
  exact hk

theorem lM_keeps101 (hk : ∀ (I' : AI), KP I I' 101 12 → (∀ a, ¬ a = 101 → I' a = I a) → K .null I' J (rX g)) : ∀ (k j : Nat) (I1 : AI), 12 - j = k → j ≤ 12 → KP I I1 101 j → (∀ a, ¬ a = 101 → I1 a = I a) → G l d mX12_keeps K 16 [.ref 75, .ref 101, .int (nI j)] [] I1 J (rX g) := by
  intro k
  induction k using Nat.strongRecOn with
  | _ k ih =>
  intro j I1 hjk hj hP hr
  have ecj := cl_nI (p := j) (by omega)
  refine G_iload_2 (nx := 17) ⟨dX12_keeps_16, rfl⟩ ?_
  refine G_bipush (nx := 19) ⟨dX12_keeps_17, rfl⟩ cb_12 ?_
  rw [show (12 : Int32) = nI 12 by decide]
  refine G_icmpge (tgt := 67) (nx := 22) ⟨dX12_keeps_19, rfl⟩ rfl (fun c_19 => ?_) (fun c_19 => ?_)
  · refine G_vret ⟨dX12_keeps_67, rfl⟩ rfl ?_
    rw [nI_le_iff (by omega) (by omega)] at c_19
    have e : j = 12 := by omega
    subst e
    exact hk I1 hP hr
  · rw [nI_le_iff (by omega) (by omega)] at c_19
    have h12 := in12 (show j < 12 by omega) (Nat.le_refl 12)
    have i2 : vp_in (nI (2 + 3 * j)) 38 := vp_in_nI (by omega) (by decide)
    have i3 : vp_in (nI (3 + 3 * j)) 38 := vp_in_nI (by omega) (by decide)
    have i4 : vp_in (nI (4 + 3 * j)) 38 := vp_in_nI (by omega) (by decide)
    have e2 := cl_nI (p := 2 + 3 * j) (by omega)
    have e3 := cl_nI (p := 3 + 3 * j) (by omega)
    have e4 := cl_nI (p := 4 + 3 * j) (by omega)
    refine G_aload_1 (nx := 23) ⟨dX12_keeps_22, rfl⟩ ?_
    refine G_iconst (nx := 24) ⟨dX12_keeps_23, rfl⟩ ci_2 ?_
    refine G_iconst (nx := 25) ⟨dX12_keeps_24, rfl⟩ ci_3 ?_
    refine G_iload_2 (nx := 26) ⟨dX12_keeps_25, rfl⟩ ?_
    refine G_imul (nx := 27) ⟨dX12_keeps_26, rfl⟩ ?_
    refine G_iadd (nx := 28) ⟨dX12_keeps_27, rfl⟩ ?_
    rw [show (2 : Int32) = nI 2 by decide, k3]
    refine G_aload_0 (nx := 29) ⟨dX12_keeps_28, rfl⟩ ?_
    refine G_getr (nx := 32) (k := 75) (r := 76) ⟨dX12_keeps_29, rfl⟩ fX12_13 q_75 yr_12_2 (r_75_2 _) ?_
    refine G_iload_2 (nx := 33) ⟨dX12_keeps_32, rfl⟩ ?_
    refine G_iald (nx := 34) (k := 76) ⟨dX12_keeps_33, rfl⟩ q_76 (by first | assumption | decide | (unfold vp_in; decide)) ?_
    rw [ecj, hr 76 (by decide)]
    refine G_iast (nx := 35) (k := 101) ⟨dX12_keeps_34, rfl⟩ q_101 (by first | assumption | decide | (unfold vp_in; decide)) ?_
    rw [e2]
    refine G_aload_1 (nx := 36) ⟨dX12_keeps_35, rfl⟩ ?_
    refine G_iconst (nx := 37) ⟨dX12_keeps_36, rfl⟩ ci_3 ?_
    refine G_iconst (nx := 38) ⟨dX12_keeps_37, rfl⟩ ci_3 ?_
    refine G_iload_2 (nx := 39) ⟨dX12_keeps_38, rfl⟩ ?_
    refine G_imul (nx := 40) ⟨dX12_keeps_39, rfl⟩ ?_
    refine G_iadd (nx := 41) ⟨dX12_keeps_40, rfl⟩ ?_
    rw [show (3 : Int32) + 3 * nI j = nI (3 + 3 * j) from k3 3 j]
    refine G_aload_0 (nx := 42) ⟨dX12_keeps_41, rfl⟩ ?_
    refine G_getr (nx := 45) (k := 75) (r := 77) ⟨dX12_keeps_42, rfl⟩ fX12_17 q_75 yr_12_3 (r_75_3 _) ?_
    refine G_iload_2 (nx := 46) ⟨dX12_keeps_45, rfl⟩ ?_
    refine G_iald (nx := 47) (k := 77) ⟨dX12_keeps_46, rfl⟩ q_77 (by first | assumption | decide | (unfold vp_in; decide)) ?_
    rw [ecj, w2_row _ _ _ _ (show ¬ 77 = 101 by decide), hr 77 (by decide)]
    refine G_iast (nx := 48) (k := 101) ⟨dX12_keeps_47, rfl⟩ q_101 (by first | assumption | decide | (unfold vp_in; decide)) ?_
    rw [e3]
    refine G_aload_1 (nx := 49) ⟨dX12_keeps_48, rfl⟩ ?_
    refine G_iconst (nx := 50) ⟨dX12_keeps_49, rfl⟩ ci_4 ?_
    refine G_iconst (nx := 51) ⟨dX12_keeps_50, rfl⟩ ci_3 ?_
    refine G_iload_2 (nx := 52) ⟨dX12_keeps_51, rfl⟩ ?_
    refine G_imul (nx := 53) ⟨dX12_keeps_52, rfl⟩ ?_
    refine G_iadd (nx := 54) ⟨dX12_keeps_53, rfl⟩ ?_
    rw [show (4 : Int32) + 3 * nI j = nI (4 + 3 * j) from k3 4 j]
    refine G_aload_0 (nx := 55) ⟨dX12_keeps_54, rfl⟩ ?_
    refine G_getr (nx := 58) (k := 75) (r := 78) ⟨dX12_keeps_55, rfl⟩ fX12_20 q_75 yr_12_4 (r_75_4 _) ?_
    refine G_iload_2 (nx := 59) ⟨dX12_keeps_58, rfl⟩ ?_
    refine G_iald (nx := 60) (k := 78) ⟨dX12_keeps_59, rfl⟩ q_78 (by first | assumption | decide | (unfold vp_in; decide)) ?_
    rw [ecj, w2_row _ _ _ _ (show ¬ 78 = 101 by decide), w2_row _ _ _ _ (show ¬ 78 = 101 by decide), hr 78 (by decide)]
    refine G_iast (nx := 61) (k := 101) ⟨dX12_keeps_60, rfl⟩ q_101 (by first | assumption | decide | (unfold vp_in; decide)) ?_
    rw [e4]
    refine G_iinc_2 (nx := 64) ⟨dX12_keeps_61, rfl⟩ ci_1 rfl ?_
    refine G_goto (tgt := 16) ⟨dX12_keeps_64, rfl⟩ rfl ?_
    refine G_L (by rw [nI_1]) (ih (12 - (j + 1)) (by omega) (j + 1) _ rfl (by omega) ⟨?_, ?_, fun i hi => ?_⟩ (fun a h => by rw [w2_row _ _ _ _ h, w2_row _ _ _ _ h, w2_row _ _ _ _ h]; exact hr a h))
    · rw [w2_ne _ _ _ _ (by omega), w2_ne _ _ _ _ (by omega), w2_ne _ _ _ _ (by omega)]; exact hP.1
    · rw [w2_ne _ _ _ _ (by omega), w2_ne _ _ _ _ (by omega), w2_ne _ _ _ _ (by omega)]; exact hP.2.1
    · by_cases e : i = j
      · subst e
        exact ⟨by rw [w2_ne _ _ _ _ (by omega), w2_ne _ _ _ _ (by omega), w2_at], by rw [w2_ne _ _ _ _ (by omega), w2_at], by rw [w2_at]⟩
      · have h := hP.2.2 i (by omega)
        exact ⟨by rw [w2_ne _ _ _ _ (by omega), w2_ne _ _ _ _ (by omega), w2_ne _ _ _ _ (by omega)]; exact h.1, by rw [w2_ne _ _ _ _ (by omega), w2_ne _ _ _ _ (by omega), w2_ne _ _ _ _ (by omega)]; exact h.2.1, by rw [w2_ne _ _ _ _ (by omega), w2_ne _ _ _ _ (by omega), w2_ne _ _ _ _ (by omega)]; exact h.2.2⟩

theorem cM_keeps101 (hk : ∀ (I' : AI), KP I I' 101 12 → (∀ a, ¬ a = 101 → I' a = I a) → K .null I' J (rX g)) : G l d mX12_keeps K 0 [.ref 75, .ref 101, UU] [] I J (rX g) := by
  refine G_aload_1 (nx := 1) ⟨dX12_keeps_0, rfl⟩ ?_
  refine G_iconst (nx := 2) ⟨dX12_keeps_1, rfl⟩ ci_0 ?_
  refine G_aload_0 (nx := 3) ⟨dX12_keeps_2, rfl⟩ ?_
  refine G_geti (nx := 6) (k := 75) ⟨dX12_keeps_3, rfl⟩ fX12_122 q_75 yi_12_0 ?_
  refine G_iast (nx := 7) (k := 101) ⟨dX12_keeps_6, rfl⟩ q_101 (by first | assumption | decide | (unfold vp_in; decide)) ?_
  rw [show (0 : Int32).toNatClampNeg = 0 by decide]
  refine G_aload_1 (nx := 8) ⟨dX12_keeps_7, rfl⟩ ?_
  refine G_iconst (nx := 9) ⟨dX12_keeps_8, rfl⟩ ci_1 ?_
  refine G_aload_0 (nx := 10) ⟨dX12_keeps_9, rfl⟩ ?_
  refine G_geti (nx := 13) (k := 75) ⟨dX12_keeps_10, rfl⟩ fX12_7 q_75 yi_12_1 ?_
  rw [w2_row _ _ _ _ (show ¬ 75 = 101 by decide)]
  refine G_iast (nx := 14) (k := 101) ⟨dX12_keeps_13, rfl⟩ q_101 (by first | assumption | decide | (unfold vp_in; decide)) ?_
  rw [show (1 : Int32).toNatClampNeg = 1 by decide]
  refine G_iconst (nx := 15) ⟨dX12_keeps_14, rfl⟩ ci_0 ?_
  refine G_istore_2 (nx := 16) ⟨dX12_keeps_15, rfl⟩ rfl rfl ?_
  exact G_L (by rw [← nI_0]) (lM_keeps101 hk _ 0 _ rfl (by omega) ⟨by rw [w2_ne _ _ _ _ (by decide), w2_at], w2_at _ _ _ _, fun j hj => absurd hj (by omega)⟩ (fun a h => by rw [w2_row _ _ _ _ h, w2_row _ _ _ _ h]))

theorem lM_back101 (hk : ∀ (I' : AI), PB I I' 101 12 → sb fB I I' → K .null I' J (rX g)) : ∀ (k j : Nat) (I1 : AI), 12 - j = k → j ≤ 12 → PB I I1 101 j → sb fB I I1 → G l d mX12_putsBack K 16 [.ref 75, .ref 101, .int (nI j)] [] I1 J (rX g) := by
  intro k
  induction k using Nat.strongRecOn with
  | _ k ih =>
  intro j I1 hjk hj hP hr
  have ecj := cl_nI (p := j) (by omega)
  refine G_iload_2 (nx := 17) ⟨dX12_putsBack_16, rfl⟩ ?_
  refine G_bipush (nx := 19) ⟨dX12_putsBack_17, rfl⟩ cb_12 ?_
  rw [show (12 : Int32) = nI 12 by decide]
  refine G_icmpge (tgt := 67) (nx := 22) ⟨dX12_putsBack_19, rfl⟩ rfl (fun c_19 => ?_) (fun c_19 => ?_)
  · refine G_vret ⟨dX12_putsBack_67, rfl⟩ rfl ?_
    rw [nI_le_iff (by omega) (by omega)] at c_19
    have e : j = 12 := by omega
    subst e
    exact hk I1 hP hr
  · rw [nI_le_iff (by omega) (by omega)] at c_19
    have h12 := in12 (show j < 12 by omega) (Nat.le_refl 12)
    have i2 : vp_in (nI (2 + 3 * j)) 38 := vp_in_nI (by omega) (by decide)
    have i3 : vp_in (nI (3 + 3 * j)) 38 := vp_in_nI (by omega) (by decide)
    have i4 : vp_in (nI (4 + 3 * j)) 38 := vp_in_nI (by omega) (by decide)
    have e2 := cl_nI (p := 2 + 3 * j) (by omega)
    have e3 := cl_nI (p := 3 + 3 * j) (by omega)
    have e4 := cl_nI (p := 4 + 3 * j) (by omega)
    refine G_aload_0 (nx := 23) ⟨dX12_putsBack_22, rfl⟩ ?_
    refine G_getr (nx := 26) (k := 75) (r := 76) ⟨dX12_putsBack_23, rfl⟩ fX12_13 q_75 yr_12_2 (r_75_2 _) ?_
    refine G_iload_2 (nx := 27) ⟨dX12_putsBack_26, rfl⟩ ?_
    refine G_aload_1 (nx := 28) ⟨dX12_putsBack_27, rfl⟩ ?_
    refine G_iconst (nx := 29) ⟨dX12_putsBack_28, rfl⟩ ci_2 ?_
    refine G_iconst (nx := 30) ⟨dX12_putsBack_29, rfl⟩ ci_3 ?_
    refine G_iload_2 (nx := 31) ⟨dX12_putsBack_30, rfl⟩ ?_
    refine G_imul (nx := 32) ⟨dX12_putsBack_31, rfl⟩ ?_
    refine G_iadd (nx := 33) ⟨dX12_putsBack_32, rfl⟩ ?_
    rw [show (2 : Int32) = nI 2 by decide, k3]
    refine G_iald (nx := 34) (k := 101) ⟨dX12_putsBack_33, rfl⟩ q_101 (by first | assumption | decide | (unfold vp_in; decide)) ?_
    rw [e2, hr 101 (2 + 3 * j) rfl]
    refine G_iast (nx := 35) (k := 76) ⟨dX12_putsBack_34, rfl⟩ q_76 (by first | assumption | decide | (unfold vp_in; decide)) ?_
    rw [ecj]
    refine G_aload_0 (nx := 36) ⟨dX12_putsBack_35, rfl⟩ ?_
    refine G_getr (nx := 39) (k := 75) (r := 77) ⟨dX12_putsBack_36, rfl⟩ fX12_17 q_75 yr_12_3 (r_75_3 _) ?_
    refine G_iload_2 (nx := 40) ⟨dX12_putsBack_39, rfl⟩ ?_
    refine G_aload_1 (nx := 41) ⟨dX12_putsBack_40, rfl⟩ ?_
    refine G_iconst (nx := 42) ⟨dX12_putsBack_41, rfl⟩ ci_3 ?_
    refine G_iconst (nx := 43) ⟨dX12_putsBack_42, rfl⟩ ci_3 ?_
    refine G_iload_2 (nx := 44) ⟨dX12_putsBack_43, rfl⟩ ?_
    refine G_imul (nx := 45) ⟨dX12_putsBack_44, rfl⟩ ?_
    refine G_iadd (nx := 46) ⟨dX12_putsBack_45, rfl⟩ ?_
    rw [show (3 : Int32) + 3 * nI j = nI (3 + 3 * j) from k3 3 j]
    refine G_iald (nx := 47) (k := 101) ⟨dX12_putsBack_46, rfl⟩ q_101 (by first | assumption | decide | (unfold vp_in; decide)) ?_
    rw [e3, w2_row _ _ _ _ (show ¬ 101 = 76 by decide), hr 101 (3 + 3 * j) rfl]
    refine G_iast (nx := 48) (k := 77) ⟨dX12_putsBack_47, rfl⟩ q_77 (by first | assumption | decide | (unfold vp_in; decide)) ?_
    rw [ecj]
    refine G_aload_0 (nx := 49) ⟨dX12_putsBack_48, rfl⟩ ?_
    refine G_getr (nx := 52) (k := 75) (r := 78) ⟨dX12_putsBack_49, rfl⟩ fX12_20 q_75 yr_12_4 (r_75_4 _) ?_
    refine G_iload_2 (nx := 53) ⟨dX12_putsBack_52, rfl⟩ ?_
    refine G_aload_1 (nx := 54) ⟨dX12_putsBack_53, rfl⟩ ?_
    refine G_iconst (nx := 55) ⟨dX12_putsBack_54, rfl⟩ ci_4 ?_
    refine G_iconst (nx := 56) ⟨dX12_putsBack_55, rfl⟩ ci_3 ?_
    refine G_iload_2 (nx := 57) ⟨dX12_putsBack_56, rfl⟩ ?_
    refine G_imul (nx := 58) ⟨dX12_putsBack_57, rfl⟩ ?_
    refine G_iadd (nx := 59) ⟨dX12_putsBack_58, rfl⟩ ?_
    rw [show (4 : Int32) + 3 * nI j = nI (4 + 3 * j) from k3 4 j]
    refine G_iald (nx := 60) (k := 101) ⟨dX12_putsBack_59, rfl⟩ q_101 (by first | assumption | decide | (unfold vp_in; decide)) ?_
    rw [e4, w2_row _ _ _ _ (show ¬ 101 = 77 by decide), w2_row _ _ _ _ (show ¬ 101 = 76 by decide), hr 101 (4 + 3 * j) rfl]
    refine G_iast (nx := 61) (k := 78) ⟨dX12_putsBack_60, rfl⟩ q_78 (by first | assumption | decide | (unfold vp_in; decide)) ?_
    rw [ecj]
    refine G_iinc_2 (nx := 64) ⟨dX12_putsBack_61, rfl⟩ ci_1 rfl ?_
    refine G_goto (tgt := 16) ⟨dX12_putsBack_64, rfl⟩ rfl ?_
    refine G_L (by rw [nI_1]) (ih (12 - (j + 1)) (by omega) (j + 1) _ rfl (by omega) ⟨?_, ?_, fun i hi => ?_⟩ (((hr.w rfl).w rfl).w rfl))
    · rw [w2_ne _ _ _ _ (by omega), w2_ne _ _ _ _ (by omega), w2_ne _ _ _ _ (by omega)]; exact hP.1
    · rw [w2_ne _ _ _ _ (by omega), w2_ne _ _ _ _ (by omega), w2_ne _ _ _ _ (by omega)]; exact hP.2.1
    · by_cases e : i = j
      · subst e
        exact ⟨by rw [w2_ne _ _ _ _ (by omega), w2_ne _ _ _ _ (by omega), w2_at], by rw [w2_ne _ _ _ _ (by omega), w2_at], by rw [w2_at]⟩
      · have h := hP.2.2 i (by omega)
        exact ⟨by rw [w2_ne _ _ _ _ (by omega), w2_ne _ _ _ _ (by omega), w2_ne _ _ _ _ (by omega)]; exact h.1, by rw [w2_ne _ _ _ _ (by omega), w2_ne _ _ _ _ (by omega), w2_ne _ _ _ _ (by omega)]; exact h.2.1, by rw [w2_ne _ _ _ _ (by omega), w2_ne _ _ _ _ (by omega), w2_ne _ _ _ _ (by omega)]; exact h.2.2⟩

theorem cM_putsBack101 (hk : ∀ (I' : AI), PB I I' 101 12 → sb fB I I' → K .null I' J (rX g)) : G l d mX12_putsBack K 0 [.ref 75, .ref 101, UU] [] I J (rX g) := by
  refine G_aload_0 (nx := 1) ⟨dX12_putsBack_0, rfl⟩ ?_
  refine G_aload_1 (nx := 2) ⟨dX12_putsBack_1, rfl⟩ ?_
  refine G_iconst (nx := 3) ⟨dX12_putsBack_2, rfl⟩ ci_0 ?_
  refine G_iald (nx := 4) (k := 101) ⟨dX12_putsBack_3, rfl⟩ q_101 (by first | assumption | decide | (unfold vp_in; decide)) ?_
  rw [show (0 : Int32).toNatClampNeg = 0 by decide]
  refine G_puti (nx := 7) (k := 75) ⟨dX12_putsBack_4, rfl⟩ pX12_122 q_75 yt_12_0 ?_
  refine G_aload_0 (nx := 8) ⟨dX12_putsBack_7, rfl⟩ ?_
  refine G_aload_1 (nx := 9) ⟨dX12_putsBack_8, rfl⟩ ?_
  refine G_iconst (nx := 10) ⟨dX12_putsBack_9, rfl⟩ ci_1 ?_
  refine G_iald (nx := 11) (k := 101) ⟨dX12_putsBack_10, rfl⟩ q_101 (by first | assumption | decide | (unfold vp_in; decide)) ?_
  rw [show (1 : Int32).toNatClampNeg = 1 by decide, w2_row _ _ _ _ (show ¬ 101 = 75 by decide)]
  refine G_puti (nx := 14) (k := 75) ⟨dX12_putsBack_11, rfl⟩ pX12_7 q_75 yt_12_1 ?_
  refine G_iconst (nx := 15) ⟨dX12_putsBack_14, rfl⟩ ci_0 ?_
  refine G_istore_2 (nx := 16) ⟨dX12_putsBack_15, rfl⟩ rfl rfl ?_
  exact G_L (by rw [← nI_0]) (lM_back101 hk _ 0 _ rfl (by omega) ⟨by rw [w2_ne _ _ _ _ (by decide), w2_at], w2_at _ _ _ _, fun j hj => absurd hj (by omega)⟩ ((sb.rf.w rfl).w rfl))

theorem lM_keeps102 (hk : ∀ (I' : AI), KP I I' 102 12 → (∀ a, ¬ a = 102 → I' a = I a) → K .null I' J (rX g)) : ∀ (k j : Nat) (I1 : AI), 12 - j = k → j ≤ 12 → KP I I1 102 j → (∀ a, ¬ a = 102 → I1 a = I a) → G l d mX12_keeps K 16 [.ref 75, .ref 102, .int (nI j)] [] I1 J (rX g) := by
  intro k
  induction k using Nat.strongRecOn with
  | _ k ih =>
  intro j I1 hjk hj hP hr
  have ecj := cl_nI (p := j) (by omega)
  refine G_iload_2 (nx := 17) ⟨dX12_keeps_16, rfl⟩ ?_
  refine G_bipush (nx := 19) ⟨dX12_keeps_17, rfl⟩ cb_12 ?_
  rw [show (12 : Int32) = nI 12 by decide]
  refine G_icmpge (tgt := 67) (nx := 22) ⟨dX12_keeps_19, rfl⟩ rfl (fun c_19 => ?_) (fun c_19 => ?_)
  · refine G_vret ⟨dX12_keeps_67, rfl⟩ rfl ?_
    rw [nI_le_iff (by omega) (by omega)] at c_19
    have e : j = 12 := by omega
    subst e
    exact hk I1 hP hr
  · rw [nI_le_iff (by omega) (by omega)] at c_19
    have h12 := in12 (show j < 12 by omega) (Nat.le_refl 12)
    have i2 : vp_in (nI (2 + 3 * j)) 38 := vp_in_nI (by omega) (by decide)
    have i3 : vp_in (nI (3 + 3 * j)) 38 := vp_in_nI (by omega) (by decide)
    have i4 : vp_in (nI (4 + 3 * j)) 38 := vp_in_nI (by omega) (by decide)
    have e2 := cl_nI (p := 2 + 3 * j) (by omega)
    have e3 := cl_nI (p := 3 + 3 * j) (by omega)
    have e4 := cl_nI (p := 4 + 3 * j) (by omega)
    refine G_aload_1 (nx := 23) ⟨dX12_keeps_22, rfl⟩ ?_
    refine G_iconst (nx := 24) ⟨dX12_keeps_23, rfl⟩ ci_2 ?_
    refine G_iconst (nx := 25) ⟨dX12_keeps_24, rfl⟩ ci_3 ?_
    refine G_iload_2 (nx := 26) ⟨dX12_keeps_25, rfl⟩ ?_
    refine G_imul (nx := 27) ⟨dX12_keeps_26, rfl⟩ ?_
    refine G_iadd (nx := 28) ⟨dX12_keeps_27, rfl⟩ ?_
    rw [show (2 : Int32) = nI 2 by decide, k3]
    refine G_aload_0 (nx := 29) ⟨dX12_keeps_28, rfl⟩ ?_
    refine G_getr (nx := 32) (k := 75) (r := 76) ⟨dX12_keeps_29, rfl⟩ fX12_13 q_75 yr_12_2 (r_75_2 _) ?_
    refine G_iload_2 (nx := 33) ⟨dX12_keeps_32, rfl⟩ ?_
    refine G_iald (nx := 34) (k := 76) ⟨dX12_keeps_33, rfl⟩ q_76 (by first | assumption | decide | (unfold vp_in; decide)) ?_
    rw [ecj, hr 76 (by decide)]
    refine G_iast (nx := 35) (k := 102) ⟨dX12_keeps_34, rfl⟩ q_102 (by first | assumption | decide | (unfold vp_in; decide)) ?_
    rw [e2]
    refine G_aload_1 (nx := 36) ⟨dX12_keeps_35, rfl⟩ ?_
    refine G_iconst (nx := 37) ⟨dX12_keeps_36, rfl⟩ ci_3 ?_
    refine G_iconst (nx := 38) ⟨dX12_keeps_37, rfl⟩ ci_3 ?_
    refine G_iload_2 (nx := 39) ⟨dX12_keeps_38, rfl⟩ ?_
    refine G_imul (nx := 40) ⟨dX12_keeps_39, rfl⟩ ?_
    refine G_iadd (nx := 41) ⟨dX12_keeps_40, rfl⟩ ?_
    rw [show (3 : Int32) + 3 * nI j = nI (3 + 3 * j) from k3 3 j]
    refine G_aload_0 (nx := 42) ⟨dX12_keeps_41, rfl⟩ ?_
    refine G_getr (nx := 45) (k := 75) (r := 77) ⟨dX12_keeps_42, rfl⟩ fX12_17 q_75 yr_12_3 (r_75_3 _) ?_
    refine G_iload_2 (nx := 46) ⟨dX12_keeps_45, rfl⟩ ?_
    refine G_iald (nx := 47) (k := 77) ⟨dX12_keeps_46, rfl⟩ q_77 (by first | assumption | decide | (unfold vp_in; decide)) ?_
    rw [ecj, w2_row _ _ _ _ (show ¬ 77 = 102 by decide), hr 77 (by decide)]
    refine G_iast (nx := 48) (k := 102) ⟨dX12_keeps_47, rfl⟩ q_102 (by first | assumption | decide | (unfold vp_in; decide)) ?_
    rw [e3]
    refine G_aload_1 (nx := 49) ⟨dX12_keeps_48, rfl⟩ ?_
    refine G_iconst (nx := 50) ⟨dX12_keeps_49, rfl⟩ ci_4 ?_
    refine G_iconst (nx := 51) ⟨dX12_keeps_50, rfl⟩ ci_3 ?_
    refine G_iload_2 (nx := 52) ⟨dX12_keeps_51, rfl⟩ ?_
    refine G_imul (nx := 53) ⟨dX12_keeps_52, rfl⟩ ?_
    refine G_iadd (nx := 54) ⟨dX12_keeps_53, rfl⟩ ?_
    rw [show (4 : Int32) + 3 * nI j = nI (4 + 3 * j) from k3 4 j]
    refine G_aload_0 (nx := 55) ⟨dX12_keeps_54, rfl⟩ ?_
    refine G_getr (nx := 58) (k := 75) (r := 78) ⟨dX12_keeps_55, rfl⟩ fX12_20 q_75 yr_12_4 (r_75_4 _) ?_
    refine G_iload_2 (nx := 59) ⟨dX12_keeps_58, rfl⟩ ?_
    refine G_iald (nx := 60) (k := 78) ⟨dX12_keeps_59, rfl⟩ q_78 (by first | assumption | decide | (unfold vp_in; decide)) ?_
    rw [ecj, w2_row _ _ _ _ (show ¬ 78 = 102 by decide), w2_row _ _ _ _ (show ¬ 78 = 102 by decide), hr 78 (by decide)]
    refine G_iast (nx := 61) (k := 102) ⟨dX12_keeps_60, rfl⟩ q_102 (by first | assumption | decide | (unfold vp_in; decide)) ?_
    rw [e4]
    refine G_iinc_2 (nx := 64) ⟨dX12_keeps_61, rfl⟩ ci_1 rfl ?_
    refine G_goto (tgt := 16) ⟨dX12_keeps_64, rfl⟩ rfl ?_
    refine G_L (by rw [nI_1]) (ih (12 - (j + 1)) (by omega) (j + 1) _ rfl (by omega) ⟨?_, ?_, fun i hi => ?_⟩ (fun a h => by rw [w2_row _ _ _ _ h, w2_row _ _ _ _ h, w2_row _ _ _ _ h]; exact hr a h))
    · rw [w2_ne _ _ _ _ (by omega), w2_ne _ _ _ _ (by omega), w2_ne _ _ _ _ (by omega)]; exact hP.1
    · rw [w2_ne _ _ _ _ (by omega), w2_ne _ _ _ _ (by omega), w2_ne _ _ _ _ (by omega)]; exact hP.2.1
    · by_cases e : i = j
      · subst e
        exact ⟨by rw [w2_ne _ _ _ _ (by omega), w2_ne _ _ _ _ (by omega), w2_at], by rw [w2_ne _ _ _ _ (by omega), w2_at], by rw [w2_at]⟩
      · have h := hP.2.2 i (by omega)
        exact ⟨by rw [w2_ne _ _ _ _ (by omega), w2_ne _ _ _ _ (by omega), w2_ne _ _ _ _ (by omega)]; exact h.1, by rw [w2_ne _ _ _ _ (by omega), w2_ne _ _ _ _ (by omega), w2_ne _ _ _ _ (by omega)]; exact h.2.1, by rw [w2_ne _ _ _ _ (by omega), w2_ne _ _ _ _ (by omega), w2_ne _ _ _ _ (by omega)]; exact h.2.2⟩

theorem cM_keeps102 (hk : ∀ (I' : AI), KP I I' 102 12 → (∀ a, ¬ a = 102 → I' a = I a) → K .null I' J (rX g)) : G l d mX12_keeps K 0 [.ref 75, .ref 102, UU] [] I J (rX g) := by
  refine G_aload_1 (nx := 1) ⟨dX12_keeps_0, rfl⟩ ?_
  refine G_iconst (nx := 2) ⟨dX12_keeps_1, rfl⟩ ci_0 ?_
  refine G_aload_0 (nx := 3) ⟨dX12_keeps_2, rfl⟩ ?_
  refine G_geti (nx := 6) (k := 75) ⟨dX12_keeps_3, rfl⟩ fX12_122 q_75 yi_12_0 ?_
  refine G_iast (nx := 7) (k := 102) ⟨dX12_keeps_6, rfl⟩ q_102 (by first | assumption | decide | (unfold vp_in; decide)) ?_
  rw [show (0 : Int32).toNatClampNeg = 0 by decide]
  refine G_aload_1 (nx := 8) ⟨dX12_keeps_7, rfl⟩ ?_
  refine G_iconst (nx := 9) ⟨dX12_keeps_8, rfl⟩ ci_1 ?_
  refine G_aload_0 (nx := 10) ⟨dX12_keeps_9, rfl⟩ ?_
  refine G_geti (nx := 13) (k := 75) ⟨dX12_keeps_10, rfl⟩ fX12_7 q_75 yi_12_1 ?_
  rw [w2_row _ _ _ _ (show ¬ 75 = 102 by decide)]
  refine G_iast (nx := 14) (k := 102) ⟨dX12_keeps_13, rfl⟩ q_102 (by first | assumption | decide | (unfold vp_in; decide)) ?_
  rw [show (1 : Int32).toNatClampNeg = 1 by decide]
  refine G_iconst (nx := 15) ⟨dX12_keeps_14, rfl⟩ ci_0 ?_
  refine G_istore_2 (nx := 16) ⟨dX12_keeps_15, rfl⟩ rfl rfl ?_
  exact G_L (by rw [← nI_0]) (lM_keeps102 hk _ 0 _ rfl (by omega) ⟨by rw [w2_ne _ _ _ _ (by decide), w2_at], w2_at _ _ _ _, fun j hj => absurd hj (by omega)⟩ (fun a h => by rw [w2_row _ _ _ _ h, w2_row _ _ _ _ h]))

theorem lM_back102 (hk : ∀ (I' : AI), PB I I' 102 12 → sb fB I I' → K .null I' J (rX g)) : ∀ (k j : Nat) (I1 : AI), 12 - j = k → j ≤ 12 → PB I I1 102 j → sb fB I I1 → G l d mX12_putsBack K 16 [.ref 75, .ref 102, .int (nI j)] [] I1 J (rX g) := by
  intro k
  induction k using Nat.strongRecOn with
  | _ k ih =>
  intro j I1 hjk hj hP hr
  have ecj := cl_nI (p := j) (by omega)
  refine G_iload_2 (nx := 17) ⟨dX12_putsBack_16, rfl⟩ ?_
  refine G_bipush (nx := 19) ⟨dX12_putsBack_17, rfl⟩ cb_12 ?_
  rw [show (12 : Int32) = nI 12 by decide]
  refine G_icmpge (tgt := 67) (nx := 22) ⟨dX12_putsBack_19, rfl⟩ rfl (fun c_19 => ?_) (fun c_19 => ?_)
  · refine G_vret ⟨dX12_putsBack_67, rfl⟩ rfl ?_
    rw [nI_le_iff (by omega) (by omega)] at c_19
    have e : j = 12 := by omega
    subst e
    exact hk I1 hP hr
  · rw [nI_le_iff (by omega) (by omega)] at c_19
    have h12 := in12 (show j < 12 by omega) (Nat.le_refl 12)
    have i2 : vp_in (nI (2 + 3 * j)) 38 := vp_in_nI (by omega) (by decide)
    have i3 : vp_in (nI (3 + 3 * j)) 38 := vp_in_nI (by omega) (by decide)
    have i4 : vp_in (nI (4 + 3 * j)) 38 := vp_in_nI (by omega) (by decide)
    have e2 := cl_nI (p := 2 + 3 * j) (by omega)
    have e3 := cl_nI (p := 3 + 3 * j) (by omega)
    have e4 := cl_nI (p := 4 + 3 * j) (by omega)
    refine G_aload_0 (nx := 23) ⟨dX12_putsBack_22, rfl⟩ ?_
    refine G_getr (nx := 26) (k := 75) (r := 76) ⟨dX12_putsBack_23, rfl⟩ fX12_13 q_75 yr_12_2 (r_75_2 _) ?_
    refine G_iload_2 (nx := 27) ⟨dX12_putsBack_26, rfl⟩ ?_
    refine G_aload_1 (nx := 28) ⟨dX12_putsBack_27, rfl⟩ ?_
    refine G_iconst (nx := 29) ⟨dX12_putsBack_28, rfl⟩ ci_2 ?_
    refine G_iconst (nx := 30) ⟨dX12_putsBack_29, rfl⟩ ci_3 ?_
    refine G_iload_2 (nx := 31) ⟨dX12_putsBack_30, rfl⟩ ?_
    refine G_imul (nx := 32) ⟨dX12_putsBack_31, rfl⟩ ?_
    refine G_iadd (nx := 33) ⟨dX12_putsBack_32, rfl⟩ ?_
    rw [show (2 : Int32) = nI 2 by decide, k3]
    refine G_iald (nx := 34) (k := 102) ⟨dX12_putsBack_33, rfl⟩ q_102 (by first | assumption | decide | (unfold vp_in; decide)) ?_
    rw [e2, hr 102 (2 + 3 * j) rfl]
    refine G_iast (nx := 35) (k := 76) ⟨dX12_putsBack_34, rfl⟩ q_76 (by first | assumption | decide | (unfold vp_in; decide)) ?_
    rw [ecj]
    refine G_aload_0 (nx := 36) ⟨dX12_putsBack_35, rfl⟩ ?_
    refine G_getr (nx := 39) (k := 75) (r := 77) ⟨dX12_putsBack_36, rfl⟩ fX12_17 q_75 yr_12_3 (r_75_3 _) ?_
    refine G_iload_2 (nx := 40) ⟨dX12_putsBack_39, rfl⟩ ?_
    refine G_aload_1 (nx := 41) ⟨dX12_putsBack_40, rfl⟩ ?_
    refine G_iconst (nx := 42) ⟨dX12_putsBack_41, rfl⟩ ci_3 ?_
    refine G_iconst (nx := 43) ⟨dX12_putsBack_42, rfl⟩ ci_3 ?_
    refine G_iload_2 (nx := 44) ⟨dX12_putsBack_43, rfl⟩ ?_
    refine G_imul (nx := 45) ⟨dX12_putsBack_44, rfl⟩ ?_
    refine G_iadd (nx := 46) ⟨dX12_putsBack_45, rfl⟩ ?_
    rw [show (3 : Int32) + 3 * nI j = nI (3 + 3 * j) from k3 3 j]
    refine G_iald (nx := 47) (k := 102) ⟨dX12_putsBack_46, rfl⟩ q_102 (by first | assumption | decide | (unfold vp_in; decide)) ?_
    rw [e3, w2_row _ _ _ _ (show ¬ 102 = 76 by decide), hr 102 (3 + 3 * j) rfl]
    refine G_iast (nx := 48) (k := 77) ⟨dX12_putsBack_47, rfl⟩ q_77 (by first | assumption | decide | (unfold vp_in; decide)) ?_
    rw [ecj]
    refine G_aload_0 (nx := 49) ⟨dX12_putsBack_48, rfl⟩ ?_
    refine G_getr (nx := 52) (k := 75) (r := 78) ⟨dX12_putsBack_49, rfl⟩ fX12_20 q_75 yr_12_4 (r_75_4 _) ?_
    refine G_iload_2 (nx := 53) ⟨dX12_putsBack_52, rfl⟩ ?_
    refine G_aload_1 (nx := 54) ⟨dX12_putsBack_53, rfl⟩ ?_
    refine G_iconst (nx := 55) ⟨dX12_putsBack_54, rfl⟩ ci_4 ?_
    refine G_iconst (nx := 56) ⟨dX12_putsBack_55, rfl⟩ ci_3 ?_
    refine G_iload_2 (nx := 57) ⟨dX12_putsBack_56, rfl⟩ ?_
    refine G_imul (nx := 58) ⟨dX12_putsBack_57, rfl⟩ ?_
    refine G_iadd (nx := 59) ⟨dX12_putsBack_58, rfl⟩ ?_
    rw [show (4 : Int32) + 3 * nI j = nI (4 + 3 * j) from k3 4 j]
    refine G_iald (nx := 60) (k := 102) ⟨dX12_putsBack_59, rfl⟩ q_102 (by first | assumption | decide | (unfold vp_in; decide)) ?_
    rw [e4, w2_row _ _ _ _ (show ¬ 102 = 77 by decide), w2_row _ _ _ _ (show ¬ 102 = 76 by decide), hr 102 (4 + 3 * j) rfl]
    refine G_iast (nx := 61) (k := 78) ⟨dX12_putsBack_60, rfl⟩ q_78 (by first | assumption | decide | (unfold vp_in; decide)) ?_
    rw [ecj]
    refine G_iinc_2 (nx := 64) ⟨dX12_putsBack_61, rfl⟩ ci_1 rfl ?_
    refine G_goto (tgt := 16) ⟨dX12_putsBack_64, rfl⟩ rfl ?_
    refine G_L (by rw [nI_1]) (ih (12 - (j + 1)) (by omega) (j + 1) _ rfl (by omega) ⟨?_, ?_, fun i hi => ?_⟩ (((hr.w rfl).w rfl).w rfl))
    · rw [w2_ne _ _ _ _ (by omega), w2_ne _ _ _ _ (by omega), w2_ne _ _ _ _ (by omega)]; exact hP.1
    · rw [w2_ne _ _ _ _ (by omega), w2_ne _ _ _ _ (by omega), w2_ne _ _ _ _ (by omega)]; exact hP.2.1
    · by_cases e : i = j
      · subst e
        exact ⟨by rw [w2_ne _ _ _ _ (by omega), w2_ne _ _ _ _ (by omega), w2_at], by rw [w2_ne _ _ _ _ (by omega), w2_at], by rw [w2_at]⟩
      · have h := hP.2.2 i (by omega)
        exact ⟨by rw [w2_ne _ _ _ _ (by omega), w2_ne _ _ _ _ (by omega), w2_ne _ _ _ _ (by omega)]; exact h.1, by rw [w2_ne _ _ _ _ (by omega), w2_ne _ _ _ _ (by omega), w2_ne _ _ _ _ (by omega)]; exact h.2.1, by rw [w2_ne _ _ _ _ (by omega), w2_ne _ _ _ _ (by omega), w2_ne _ _ _ _ (by omega)]; exact h.2.2⟩

theorem cM_putsBack102 (hk : ∀ (I' : AI), PB I I' 102 12 → sb fB I I' → K .null I' J (rX g)) : G l d mX12_putsBack K 0 [.ref 75, .ref 102, UU] [] I J (rX g) := by
  refine G_aload_0 (nx := 1) ⟨dX12_putsBack_0, rfl⟩ ?_
  refine G_aload_1 (nx := 2) ⟨dX12_putsBack_1, rfl⟩ ?_
  refine G_iconst (nx := 3) ⟨dX12_putsBack_2, rfl⟩ ci_0 ?_
  refine G_iald (nx := 4) (k := 102) ⟨dX12_putsBack_3, rfl⟩ q_102 (by first | assumption | decide | (unfold vp_in; decide)) ?_
  rw [show (0 : Int32).toNatClampNeg = 0 by decide]
  refine G_puti (nx := 7) (k := 75) ⟨dX12_putsBack_4, rfl⟩ pX12_122 q_75 yt_12_0 ?_
  refine G_aload_0 (nx := 8) ⟨dX12_putsBack_7, rfl⟩ ?_
  refine G_aload_1 (nx := 9) ⟨dX12_putsBack_8, rfl⟩ ?_
  refine G_iconst (nx := 10) ⟨dX12_putsBack_9, rfl⟩ ci_1 ?_
  refine G_iald (nx := 11) (k := 102) ⟨dX12_putsBack_10, rfl⟩ q_102 (by first | assumption | decide | (unfold vp_in; decide)) ?_
  rw [show (1 : Int32).toNatClampNeg = 1 by decide, w2_row _ _ _ _ (show ¬ 102 = 75 by decide)]
  refine G_puti (nx := 14) (k := 75) ⟨dX12_putsBack_11, rfl⟩ pX12_7 q_75 yt_12_1 ?_
  refine G_iconst (nx := 15) ⟨dX12_putsBack_14, rfl⟩ ci_0 ?_
  refine G_istore_2 (nx := 16) ⟨dX12_putsBack_15, rfl⟩ rfl rfl ?_
  exact G_L (by rw [← nI_0]) (lM_back102 hk _ 0 _ rfl (by omega) ⟨by rw [w2_ne _ _ _ _ (by decide), w2_at], w2_at _ _ _ _, fun j hj => absurd hj (by omega)⟩ ((sb.rf.w rfl).w rfl))

theorem cM_image (hk : ∀ (I' : AI), KP I I' 102 12 → (∀ a, ¬ a = 102 → I' a = I a) → K (.int (I 75 0)) (w2 I' 75 42 1) J (rX g)) : G l (d + 1) mX12_image K 0 [.ref 75] [] I J (rX g) := by
  refine G_aload_0 (nx := 1) ⟨dX12_image_0, rfl⟩ ?_
  refine G_aload_0 (nx := 2) ⟨dX12_image_1, rfl⟩ ?_
  refine G_getr (nx := 5) (k := 75) (r := 102) ⟨dX12_image_2, rfl⟩ fX12_94 q_75 yr_12_41 (r_75_41 _) ?_
  refine G_cvv1 (nx := 8) ⟨dX12_image_5, rfl⟩ kX12_339 rfl q_75 rfl (Nat.le_of_ble_eq_true rfl) (Nat.le_of_ble_eq_true rfl) (cM_keeps102 (fun I1 h1 h2 => ?_))
  refine G_aload_0 (nx := 9) ⟨dX12_image_8, rfl⟩ ?_
  refine G_iconst (nx := 10) ⟨dX12_image_9, rfl⟩ ci_1 ?_
  refine G_putz (nx := 13) (k := 75) ⟨dX12_image_10, rfl⟩ pX12_355 q_75 yt_12_42 (by first | assumption | decide | (unfold vp_in; decide)) ?_
  refine G_aload_0 (nx := 14) ⟨dX12_image_13, rfl⟩ ?_
  refine G_geti (nx := 17) (k := 75) ⟨dX12_image_14, rfl⟩ fX12_122 q_75 yi_12_0 ?_
  rw [w2_ne _ _ _ _ (by decide), h2 75 (by decide)]
  refine G_iret ⟨dX12_image_17, rfl⟩ rfl ?_
  exact hk I1 h1 h2

theorem cM_back (hk1 : I 75 42 = 0 → K (.int (-3)) I J (rX g)) (hk : ∀ (I' : AI), ¬ I 75 42 = 0 → PB I I' 102 12 → sb fB I I' → K (.int (I' 75 0)) I' J (rX g)) : G l (d + 1) mX12_back K 0 [.ref 75] [] I J (rX g) := by
  refine G_aload_0 (nx := 1) ⟨dX12_back_0, rfl⟩ ?_
  refine G_geti (nx := 4) (k := 75) ⟨dX12_back_1, rfl⟩ fX12_355 q_75 yi_12_42 ?_
  refine G_ifne (tgt := 10) (nx := 7) ⟨dX12_back_4, rfl⟩ rfl (fun c_4 => ?_) (fun c_4 => ?_)
  · refine G_aload_0 (nx := 11) ⟨dX12_back_10, rfl⟩ ?_
    refine G_aload_0 (nx := 12) ⟨dX12_back_11, rfl⟩ ?_
    refine G_getr (nx := 15) (k := 75) (r := 102) ⟨dX12_back_12, rfl⟩ fX12_94 q_75 yr_12_41 (r_75_41 _) ?_
    refine G_cvv1 (nx := 18) ⟨dX12_back_15, rfl⟩ kX12_343 rfl q_75 rfl (Nat.le_of_ble_eq_true rfl) (Nat.le_of_ble_eq_true rfl) (cM_putsBack102 (fun I1 h1 h2 => ?_))
    refine G_aload_0 (nx := 19) ⟨dX12_back_18, rfl⟩ ?_
    refine G_geti (nx := 22) (k := 75) ⟨dX12_back_19, rfl⟩ fX12_122 q_75 yi_12_0 ?_
    refine G_iret ⟨dX12_back_22, rfl⟩ rfl ?_
    exact hk I1 c_4 h1 h2
  · refine G_bipush (nx := 9) ⟨dX12_back_7, rfl⟩ cb_m3 ?_
    refine G_iret ⟨dX12_back_9, rfl⟩ rfl ?_
    exact hk1 c_4

end M38
