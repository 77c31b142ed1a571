
theorem qrow {s : Nat} (hs : s < 4) : isA (49 + s) 60 := by
  rcases (show s = 0 ∨ s = 1 ∨ s = 2 ∨ s = 3 by omega) with rfl | rfl | rfl | rfl
  · exact q_49
  · exact q_50
  · exact q_51
  · exact q_52
theorem rrow {s : Nat} (hs : s < 4) (g : Bool) : rX g 46 (nI s).toNatClampNeg = some (49 + s) := by
  rw [cl_nI (by omega)]
  rcases (show s = 0 ∨ s = 1 ∨ s = 2 ∨ s = 3 by omega) with rfl | rfl | rfl | rfl <;> rfl
/-- sizes of the class's sheets -/
def SZc (I : AI) : Prop := ∀ s, s < 4 → ∃ z, z ≤ 60 ∧ I 48 s = nI z
theorem inR4 {s : Int32} (h1 : ¬ s < 0) (h2 : ¬ 4 ≤ s) : inR s 0 3 = true := by
  rw [i32_lt, toInt_0] at h1
  rw [i32_le] at h2
  have h4 : (4 : Int32).toInt = 4 := by decide
  have h3 : (3 : Int32).toInt = 3 := by decide
  refine decide_eq_true ⟨?_, ?_⟩
  · rw [i32_le, toInt_0]; omega
  · rw [i32_le]; omega
theorem inR4f {s : Int32} (h : s < 0 ∨ 4 ≤ s) : inR s 0 3 = false := by
  refine inR_0 ?_
  rcases h with h | h
  · exact Or.inl h
  · right
    rw [i32_le] at h
    rw [i32_lt]
    have h4 : (4 : Int32).toInt = 4 := by decide
    have h3 : (3 : Int32).toInt = 3 := by decide
    omega
section X86
variable {l : Launch} {d : Nat} {K : AK} {I : AI} {J : AJ} {g : Bool}

theorem cS_has {s : Int32} (hk : K (.int (bi (inR s 0 3))) I J (rX g)) : G l d mX7_has K 0 [.ref 45, .int s] [] I J (rX g) := by
  refine G_iload_1 (nx := 1) ⟨dX7_has_0, rfl⟩ ?_
  refine G_iflt (tgt := 13) (nx := 4) ⟨dX7_has_1, rfl⟩ rfl (fun c_1 => ?_) (fun c_1 => ?_)
  · refine G_iconst (nx := 14) ⟨dX7_has_13, rfl⟩ ci_0 ?_
    refine G_zret ⟨dX7_has_14, rfl⟩ rfl (by first | assumption | decide | exact bi_01 _) ?_
    rw [inR4f (Or.inl c_1)] at hk
    exact hk
  · refine G_iload_1 (nx := 5) ⟨dX7_has_4, rfl⟩ ?_
    refine G_iconst (nx := 6) ⟨dX7_has_5, rfl⟩ ci_4 ?_
    refine G_icmpge (tgt := 13) (nx := 9) ⟨dX7_has_6, rfl⟩ rfl (fun c_6 => ?_) (fun c_6 => ?_)
    · refine G_iconst (nx := 14) ⟨dX7_has_13, rfl⟩ ci_0 ?_
      refine G_zret ⟨dX7_has_14, rfl⟩ rfl (by first | assumption | decide | exact bi_01 _) ?_
      rw [inR4f (Or.inr c_6)] at hk
      exact hk
    · refine G_iconst (nx := 10) ⟨dX7_has_9, rfl⟩ ci_1 ?_
      refine G_goto (tgt := 14) ⟨dX7_has_10, rfl⟩ rfl ?_
      refine G_zret ⟨dX7_has_14, rfl⟩ rfl (by first | assumption | decide | exact bi_01 _) ?_
      rw [inR4 c_1 c_6] at hk
      exact hk

theorem cV_has {s : Int32} (hk : K (.int (bi (inR s 0 3))) I J (rX g)) : G l d mX8_has K 0 [.ref 53, .int s] [] I J (rX g) := by
  refine G_iload_1 (nx := 1) ⟨dX8_has_0, rfl⟩ ?_
  refine G_iflt (tgt := 13) (nx := 4) ⟨dX8_has_1, rfl⟩ rfl (fun c_1 => ?_) (fun c_1 => ?_)
  · refine G_iconst (nx := 14) ⟨dX8_has_13, rfl⟩ ci_0 ?_
    refine G_zret ⟨dX8_has_14, rfl⟩ rfl (by first | assumption | decide | exact bi_01 _) ?_
    rw [inR4f (Or.inl c_1)] at hk
    exact hk
  · refine G_iload_1 (nx := 5) ⟨dX8_has_4, rfl⟩ ?_
    refine G_iconst (nx := 6) ⟨dX8_has_5, rfl⟩ ci_4 ?_
    refine G_icmpge (tgt := 13) (nx := 9) ⟨dX8_has_6, rfl⟩ rfl (fun c_6 => ?_) (fun c_6 => ?_)
    · refine G_iconst (nx := 14) ⟨dX8_has_13, rfl⟩ ci_0 ?_
      refine G_zret ⟨dX8_has_14, rfl⟩ rfl (by first | assumption | decide | exact bi_01 _) ?_
      rw [inR4f (Or.inr c_6)] at hk
      exact hk
    · refine G_iconst (nx := 10) ⟨dX8_has_9, rfl⟩ ci_1 ?_
      refine G_goto (tgt := 14) ⟨dX8_has_10, rfl⟩ rfl ?_
      refine G_zret ⟨dX8_has_14, rfl⟩ rfl (by first | assumption | decide | exact bi_01 _) ?_
      rw [inR4 c_1 c_6] at hk
      exact hk

theorem cS_miss {s : Nat} (hs : s < 4) (hk : K (.int (bi (decide (I 47 s = -1)))) I J (rX g)) : G l d mX7_isMissing K 0 [.ref 45, .int (nI s)] [] I J (rX g) := by
  have hin4 := in4 hs
  have ecs := cl_nI (p := s) (by omega)
  refine G_aload_0 (nx := 1) ⟨dX7_isMissing_0, rfl⟩ ?_
  refine G_getr (nx := 4) (k := 45) (r := 47) ⟨dX7_isMissing_1, rfl⟩ fX7_16 q_45 yr_7_1 (r_45_1 _) ?_
  refine G_iload_1 (nx := 5) ⟨dX7_isMissing_4, rfl⟩ ?_
  refine G_iald (nx := 6) (k := 47) ⟨dX7_isMissing_5, rfl⟩ q_47 (by first | assumption | decide | (unfold vp_in; decide)) ?_
  rw [ecs]
  refine G_iconst (nx := 7) ⟨dX7_isMissing_6, rfl⟩ ci_m1 ?_
  refine G_icmpne (tgt := 14) (nx := 10) ⟨dX7_isMissing_7, rfl⟩ rfl (fun c_7 => ?_) (fun c_7 => ?_)
  · refine G_iconst (nx := 15) ⟨dX7_isMissing_14, rfl⟩ ci_0 ?_
    refine G_zret ⟨dX7_isMissing_15, rfl⟩ rfl (by first | assumption | decide | exact bi_01 _) ?_
    rw [decide_eq_false c_7] at hk
    exact hk
  · refine G_iconst (nx := 11) ⟨dX7_isMissing_10, rfl⟩ ci_1 ?_
    refine G_goto (tgt := 15) ⟨dX7_isMissing_11, rfl⟩ rfl ?_
    refine G_zret ⟨dX7_isMissing_15, rfl⟩ rfl (by first | assumption | decide | exact bi_01 _) ?_
    rw [decide_eq_true c_7] at hk
    exact hk

theorem cS_begin {s : Nat} {q v : Int32} (hs : s < 4) (hk : ∀ (I' : AI), I' 47 s = q → I' 48 s = v → (∀ j, j < 60 → I' (49 + s) j = 0) → (∀ x y, ¬ ((x = 47 ∨ x = 48) ∧ y = s) → ¬ x = 49 + s → I' x y = I x y) → K .null I' J (rX g)) : G l (d + 1) mX7_begin K 0 [.ref 45, .int (nI s), .int q, .int v] [] I J (rX g) := by
  have hin4 := in4 hs
  have ecs := cl_nI (p := s) (by omega)
  refine G_aload_0 (nx := 1) ⟨dX7_begin_0, rfl⟩ ?_
  refine G_getr (nx := 4) (k := 45) (r := 47) ⟨dX7_begin_1, rfl⟩ fX7_16 q_45 yr_7_1 (r_45_1 _) ?_
  refine G_iload_1 (nx := 5) ⟨dX7_begin_4, rfl⟩ ?_
  refine G_iload_2 (nx := 6) ⟨dX7_begin_5, rfl⟩ ?_
  refine G_iast (nx := 7) (k := 47) ⟨dX7_begin_6, rfl⟩ q_47 (by first | assumption | decide | (unfold vp_in; decide)) ?_
  rw [ecs]
  refine G_aload_0 (nx := 8) ⟨dX7_begin_7, rfl⟩ ?_
  refine G_getr (nx := 11) (k := 45) (r := 48) ⟨dX7_begin_8, rfl⟩ fX7_20 q_45 yr_7_2 (r_45_2 _) ?_
  refine G_iload_1 (nx := 12) ⟨dX7_begin_11, rfl⟩ ?_
  refine G_iload_3 (nx := 13) ⟨dX7_begin_12, rfl⟩ ?_
  refine G_iast (nx := 14) (k := 48) ⟨dX7_begin_13, rfl⟩ q_48 (by first | assumption | decide | (unfold vp_in; decide)) ?_
  rw [ecs]
  refine G_aload_0 (nx := 15) ⟨dX7_begin_14, rfl⟩ ?_
  refine G_getr (nx := 18) (k := 45) (r := 46) ⟨dX7_begin_15, rfl⟩ fX7_11 q_45 yr_7_0 (r_45_0 _) ?_
  refine G_iload_1 (nx := 19) ⟨dX7_begin_18, rfl⟩ ?_
  refine G_aald (nx := 20) (k := 46) (r := (49 + s)) ⟨dX7_begin_19, rfl⟩ q_46 (by first | assumption | decide | (unfold vp_in; decide)) (rrow hs _) ?_
  refine G_iconst (nx := 21) ⟨dX7_begin_20, rfl⟩ ci_0 ?_
  refine G_csv2 (nx := 24) ⟨dX7_begin_21, rfl⟩ kX7_23 rfl rfl (Nat.le_of_ble_eq_true rfl) (Nat.le_of_ble_eq_true rfl) (cJ_fill (qrow hs) (by decide) ?_)
  refine G_vret ⟨dX7_begin_24, rfl⟩ rfl ?_
  refine hk _ ?_ ?_ (fun j hj => by rw [wr_at, if_pos hj]) (fun x y h1 h2 => by rw [wr_ne _ _ _ h2, w2_ne _ _ _ _ (by omega), w2_ne _ _ _ _ (by omega)])
  · rw [wr_ne _ _ _ (by omega), w2_row _ _ _ _ (show ¬ 47 = 48 by decide), w2_at]
  · rw [wr_ne _ _ _ (by omega), w2_at]

theorem cS_put {s i : Nat} {v : Int32} (hs : s < 4) (hi : i < 60) (hk : K .null (w2 I (49 + s) i (cvS (I 47 s) v)) J (rX g)) : G l d mX7_put K 0 [.ref 45, .int (nI s), .int (nI i), .int v, UU] [] I J (rX g) := by
  have hin4 := in4 hs
  have ecs := cl_nI (p := s) (by omega)
  have hii := in60 hi
  have eci := cl_nI (p := i) (by omega)
  refine G_iload_3 (nx := 1) ⟨dX7_put_0, rfl⟩ ?_
  refine G_istore_4 (nx := 3) ⟨dX7_put_1, rfl⟩ rfl rfl ?_
  refine G_aload_0 (nx := 4) ⟨dX7_put_3, rfl⟩ ?_
  refine G_getr (nx := 7) (k := 45) (r := 47) ⟨dX7_put_4, rfl⟩ fX7_16 q_45 yr_7_1 (r_45_1 _) ?_
  refine G_iload_1 (nx := 8) ⟨dX7_put_7, rfl⟩ ?_
  refine G_iald (nx := 9) (k := 47) ⟨dX7_put_8, rfl⟩ q_47 (by first | assumption | decide | (unfold vp_in; decide)) ?_
  rw [ecs]
  refine G_ifne (tgt := 16) (nx := 12) ⟨dX7_put_9, rfl⟩ rfl (fun c_9 => ?_) (fun c_9 => ?_)
  · refine G_aload_0 (nx := 17) ⟨dX7_put_16, rfl⟩ ?_
    refine G_getr (nx := 20) (k := 45) (r := 47) ⟨dX7_put_17, rfl⟩ fX7_16 q_45 yr_7_1 (r_45_1 _) ?_
    refine G_iload_1 (nx := 21) ⟨dX7_put_20, rfl⟩ ?_
    refine G_iald (nx := 22) (k := 47) ⟨dX7_put_21, rfl⟩ q_47 (by first | assumption | decide | (unfold vp_in; decide)) ?_
    rw [ecs]
    refine G_iconst (nx := 23) ⟨dX7_put_22, rfl⟩ ci_1 ?_
    refine G_icmpne (tgt := 30) (nx := 26) ⟨dX7_put_23, rfl⟩ rfl (fun c_23 => ?_) (fun c_23 => ?_)
    · refine G_aload_0 (nx := 31) ⟨dX7_put_30, rfl⟩ ?_
      refine G_getr (nx := 34) (k := 45) (r := 46) ⟨dX7_put_31, rfl⟩ fX7_11 q_45 yr_7_0 (r_45_0 _) ?_
      refine G_iload_1 (nx := 35) ⟨dX7_put_34, rfl⟩ ?_
      refine G_aald (nx := 36) (k := 46) (r := (49 + s)) ⟨dX7_put_35, rfl⟩ q_46 (by first | assumption | decide | (unfold vp_in; decide)) (rrow hs _) ?_
      refine G_iload_2 (nx := 37) ⟨dX7_put_36, rfl⟩ ?_
      refine G_iload_4 (nx := 39) ⟨dX7_put_37, rfl⟩ ?_
      refine G_iast (nx := 40) (k := (49 + s)) ⟨dX7_put_39, rfl⟩ (qrow hs) (by first | assumption | decide | (unfold vp_in; decide)) ?_
      refine G_vret ⟨dX7_put_40, rfl⟩ rfl ?_
      rw [eci]
      unfold cvS at hk
      rw [if_neg c_9, if_neg c_23] at hk
      exact hk
    · refine G_iload_3 (nx := 27) ⟨dX7_put_26, rfl⟩ ?_
      refine G_i2s (nx := 28) ⟨dX7_put_27, rfl⟩ ?_
      refine G_istore_4 (nx := 30) ⟨dX7_put_28, rfl⟩ rfl rfl ?_
      refine G_aload_0 (nx := 31) ⟨dX7_put_30, rfl⟩ ?_
      refine G_getr (nx := 34) (k := 45) (r := 46) ⟨dX7_put_31, rfl⟩ fX7_11 q_45 yr_7_0 (r_45_0 _) ?_
      refine G_iload_1 (nx := 35) ⟨dX7_put_34, rfl⟩ ?_
      refine G_aald (nx := 36) (k := 46) (r := (49 + s)) ⟨dX7_put_35, rfl⟩ q_46 (by first | assumption | decide | (unfold vp_in; decide)) (rrow hs _) ?_
      refine G_iload_2 (nx := 37) ⟨dX7_put_36, rfl⟩ ?_
      refine G_iload_4 (nx := 39) ⟨dX7_put_37, rfl⟩ ?_
      refine G_iast (nx := 40) (k := (49 + s)) ⟨dX7_put_39, rfl⟩ (qrow hs) (by first | assumption | decide | (unfold vp_in; decide)) ?_
      refine G_vret ⟨dX7_put_40, rfl⟩ rfl ?_
      rw [eci]
      unfold cvS at hk
      rw [if_neg c_9, if_pos c_23] at hk
      exact hk
  · refine G_iload_3 (nx := 13) ⟨dX7_put_12, rfl⟩ ?_
    refine G_i2b (nx := 14) ⟨dX7_put_13, rfl⟩ ?_
    refine G_istore_4 (nx := 16) ⟨dX7_put_14, rfl⟩ rfl rfl ?_
    refine G_aload_0 (nx := 17) ⟨dX7_put_16, rfl⟩ ?_
    refine G_getr (nx := 20) (k := 45) (r := 47) ⟨dX7_put_17, rfl⟩ fX7_16 q_45 yr_7_1 (r_45_1 _) ?_
    refine G_iload_1 (nx := 21) ⟨dX7_put_20, rfl⟩ ?_
    refine G_iald (nx := 22) (k := 47) ⟨dX7_put_21, rfl⟩ q_47 (by first | assumption | decide | (unfold vp_in; decide)) ?_
    rw [ecs]
    refine G_iconst (nx := 23) ⟨dX7_put_22, rfl⟩ ci_1 ?_
    refine G_icmpne (tgt := 30) (nx := 26) ⟨dX7_put_23, rfl⟩ rfl (fun c_23 => ?_) (fun c_23 => ?_)
    · refine G_aload_0 (nx := 31) ⟨dX7_put_30, rfl⟩ ?_
      refine G_getr (nx := 34) (k := 45) (r := 46) ⟨dX7_put_31, rfl⟩ fX7_11 q_45 yr_7_0 (r_45_0 _) ?_
      refine G_iload_1 (nx := 35) ⟨dX7_put_34, rfl⟩ ?_
      refine G_aald (nx := 36) (k := 46) (r := (49 + s)) ⟨dX7_put_35, rfl⟩ q_46 (by first | assumption | decide | (unfold vp_in; decide)) (rrow hs _) ?_
      refine G_iload_2 (nx := 37) ⟨dX7_put_36, rfl⟩ ?_
      refine G_iload_4 (nx := 39) ⟨dX7_put_37, rfl⟩ ?_
      refine G_iast (nx := 40) (k := (49 + s)) ⟨dX7_put_39, rfl⟩ (qrow hs) (by first | assumption | decide | (unfold vp_in; decide)) ?_
      refine G_vret ⟨dX7_put_40, rfl⟩ rfl ?_
      rw [eci]
      unfold cvS at hk
      rw [if_pos c_9] at hk
      exact hk
    · refine G_iload_3 (nx := 27) ⟨dX7_put_26, rfl⟩ ?_
      refine G_i2s (nx := 28) ⟨dX7_put_27, rfl⟩ ?_
      refine G_istore_4 (nx := 30) ⟨dX7_put_28, rfl⟩ rfl rfl ?_
      refine G_aload_0 (nx := 31) ⟨dX7_put_30, rfl⟩ ?_
      refine G_getr (nx := 34) (k := 45) (r := 46) ⟨dX7_put_31, rfl⟩ fX7_11 q_45 yr_7_0 (r_45_0 _) ?_
      refine G_iload_1 (nx := 35) ⟨dX7_put_34, rfl⟩ ?_
      refine G_aald (nx := 36) (k := 46) (r := (49 + s)) ⟨dX7_put_35, rfl⟩ q_46 (by first | assumption | decide | (unfold vp_in; decide)) (rrow hs _) ?_
      refine G_iload_2 (nx := 37) ⟨dX7_put_36, rfl⟩ ?_
      refine G_iload_4 (nx := 39) ⟨dX7_put_37, rfl⟩ ?_
      refine G_iast (nx := 40) (k := (49 + s)) ⟨dX7_put_39, rfl⟩ (qrow hs) (by first | assumption | decide | (unfold vp_in; decide)) ?_
      refine G_vret ⟨dX7_put_40, rfl⟩ rfl ?_
      rw [c_9] at c_23
      exact absurd c_23 (by decide)

theorem cS_refusal {s i : Int32} (hsz : SZc I) (hk1 : inR s 0 3 = false → K (.int (-2)) I J (rX g)) (hk2 : ∀ s0, s = nI s0 → s0 < 4 → I 47 s0 = -1 → K (.int (-11)) I J (rX g)) (hk3 : ∀ s0 z, s = nI s0 → s0 < 4 → ¬ I 47 s0 = -1 → I 48 s0 = nI z → z ≤ 60 → ptB z i = false → K (.int (-12)) I J (rX g)) (hk : ∀ s0 z i0, s = nI s0 → s0 < 4 → ¬ I 47 s0 = -1 → I 48 s0 = nI z → z ≤ 60 → i = nI i0 → i0 < z → K (.int 0) I J (rX g)) : G l (d + 1) mX7_refusal K 0 [.ref 45, .int s, .int i] [] I J (rX g) := by
  refine G_aload_0 (nx := 1) ⟨dX7_refusal_0, rfl⟩ ?_
  refine G_iload_1 (nx := 2) ⟨dX7_refusal_1, rfl⟩ ?_
  refine G_cv1 (nx := 5) ⟨dX7_refusal_2, rfl⟩ kX7_29 rfl q_45 rfl (Nat.le_of_ble_eq_true rfl) (Nat.le_of_ble_eq_true rfl) (cS_has ?_)
  refine G_ifne (tgt := 11) (nx := 8) ⟨dX7_refusal_5, rfl⟩ rfl (fun c_5 => ?_) (fun c_5 => ?_)
  · rw [bi_n0] at c_5
    obtain ⟨s0, hs0, es⟩ := s_ex c_5
    subst es
    have hin4 := in4 hs0
    have ecs := cl_nI (p := s0) (by omega)
    obtain ⟨z, hz60, hz⟩ := hsz s0 hs0
    refine G_aload_0 (nx := 12) ⟨dX7_refusal_11, rfl⟩ ?_
    refine G_iload_1 (nx := 13) ⟨dX7_refusal_12, rfl⟩ ?_
    refine G_cv1 (nx := 16) ⟨dX7_refusal_13, rfl⟩ kX7_33 rfl q_45 rfl (Nat.le_of_ble_eq_true rfl) (Nat.le_of_ble_eq_true rfl) (cS_miss hs0 ?_)
    refine G_ifeq (tgt := 22) (nx := 19) ⟨dX7_refusal_16, rfl⟩ rfl (fun c_16 => ?_) (fun c_16 => ?_)
    · rw [bi_0, decide_eq_false_iff_not] at c_16
      refine G_iload_2 (nx := 23) ⟨dX7_refusal_22, rfl⟩ ?_
      refine G_iflt (tgt := 40) (nx := 26) ⟨dX7_refusal_23, rfl⟩ rfl (fun c_23 => ?_) (fun c_23 => ?_)
      · refine G_bipush (nx := 42) ⟨dX7_refusal_40, rfl⟩ cb_m12 ?_
        refine G_iret ⟨dX7_refusal_42, rfl⟩ rfl ?_
        exact hk3 s0 z rfl hs0 c_16 hz hz60 (decide_eq_false (by rw [i32_lt, toInt_0] at c_23; omega))
      · refine G_iload_2 (nx := 27) ⟨dX7_refusal_26, rfl⟩ ?_
        refine G_aload_0 (nx := 28) ⟨dX7_refusal_27, rfl⟩ ?_
        refine G_getr (nx := 31) (k := 45) (r := 48) ⟨dX7_refusal_28, rfl⟩ fX7_20 q_45 yr_7_2 (r_45_2 _) ?_
        refine G_iload_1 (nx := 32) ⟨dX7_refusal_31, rfl⟩ ?_
        refine G_iald (nx := 33) (k := 48) ⟨dX7_refusal_32, rfl⟩ q_48 (by first | assumption | decide | (unfold vp_in; decide)) ?_
        rw [ecs, hz]
        refine G_icmpge (tgt := 40) (nx := 36) ⟨dX7_refusal_33, rfl⟩ rfl (fun c_33 => ?_) (fun c_33 => ?_)
        · refine G_bipush (nx := 42) ⟨dX7_refusal_40, rfl⟩ cb_m12 ?_
          refine G_iret ⟨dX7_refusal_42, rfl⟩ rfl ?_
          exact hk3 s0 z rfl hs0 c_16 hz hz60 (decide_eq_false (by rw [i32_le, nI_toInt (by omega)] at c_33; omega))
        · refine G_iconst (nx := 37) ⟨dX7_refusal_36, rfl⟩ ci_0 ?_
          refine G_goto (tgt := 42) ⟨dX7_refusal_37, rfl⟩ rfl ?_
          refine G_iret ⟨dX7_refusal_42, rfl⟩ rfl ?_
          obtain ⟨i0, hi1, hi2⟩ := i32_nat c_23
          subst hi2
          rw [nI_le_iff (by omega) (by omega)] at c_33
          exact hk s0 z i0 rfl hs0 c_16 hz hz60 rfl (by omega)
    · refine G_bipush (nx := 21) ⟨dX7_refusal_19, rfl⟩ cb_m11 ?_
      refine G_iret ⟨dX7_refusal_21, rfl⟩ rfl ?_
      rw [bi_n0, decide_eq_true_eq] at c_16
      exact hk2 s0 rfl hs0 c_16
  · refine G_bipush (nx := 10) ⟨dX7_refusal_8, rfl⟩ cb_m2 ?_
    refine G_iret ⟨dX7_refusal_10, rfl⟩ rfl ?_
    rw [bi_0] at c_5
    exact hk1 c_5

theorem cS_range {s z : Nat} {i v : Int32} (hs : s < 4) (hz60 : z ≤ 60) (hz : I 48 s = nI z) (hk : K (.int (bi (decide (0 ≤ v.toInt ∧ 0 ≤ i.toInt ∧ i.toInt + v.toInt ≤ z)))) I J (rX g)) : G l d mX7_hasRange K 0 [.ref 45, .int (nI s), .int i, .int v] [] I J (rX g) := by
  have hin4 := in4 hs
  have ecs := cl_nI (p := s) (by omega)
  refine G_iload_3 (nx := 1) ⟨dX7_hasRange_0, rfl⟩ ?_
  refine G_iflt (tgt := 34) (nx := 4) ⟨dX7_hasRange_1, rfl⟩ rfl (fun c_1 => ?_) (fun c_1 => ?_)
  · refine G_iconst (nx := 35) ⟨dX7_hasRange_34, rfl⟩ ci_0 ?_
    refine G_zret ⟨dX7_hasRange_35, rfl⟩ rfl (by first | assumption | decide | exact bi_01 _) ?_
    rw [i32_lt, toInt_0] at c_1
    rw [decide_eq_false (by omega)] at hk
    exact hk
  · refine G_iload_2 (nx := 5) ⟨dX7_hasRange_4, rfl⟩ ?_
    refine G_iflt (tgt := 34) (nx := 8) ⟨dX7_hasRange_5, rfl⟩ rfl (fun c_5 => ?_) (fun c_5 => ?_)
    · refine G_iconst (nx := 35) ⟨dX7_hasRange_34, rfl⟩ ci_0 ?_
      refine G_zret ⟨dX7_hasRange_35, rfl⟩ rfl (by first | assumption | decide | exact bi_01 _) ?_
      rw [i32_lt, toInt_0] at c_1
      rw [i32_lt, toInt_0] at c_5
      rw [decide_eq_false (by omega)] at hk
      exact hk
    · refine G_iload_2 (nx := 9) ⟨dX7_hasRange_8, rfl⟩ ?_
      refine G_aload_0 (nx := 10) ⟨dX7_hasRange_9, rfl⟩ ?_
      refine G_getr (nx := 13) (k := 45) (r := 48) ⟨dX7_hasRange_10, rfl⟩ fX7_20 q_45 yr_7_2 (r_45_2 _) ?_
      refine G_iload_1 (nx := 14) ⟨dX7_hasRange_13, rfl⟩ ?_
      refine G_iald (nx := 15) (k := 48) ⟨dX7_hasRange_14, rfl⟩ q_48 (by first | assumption | decide | (unfold vp_in; decide)) ?_
      rw [ecs, hz]
      refine G_icmpgt (tgt := 34) (nx := 18) ⟨dX7_hasRange_15, rfl⟩ rfl (fun c_15 => ?_) (fun c_15 => ?_)
      · refine G_iconst (nx := 35) ⟨dX7_hasRange_34, rfl⟩ ci_0 ?_
        refine G_zret ⟨dX7_hasRange_35, rfl⟩ rfl (by first | assumption | decide | exact bi_01 _) ?_
        rw [i32_lt, toInt_0] at c_1
        rw [i32_lt, toInt_0] at c_5
        rw [i32_lt, nI_toInt (by omega)] at c_15
        rw [decide_eq_false (by omega)] at hk
        exact hk
      · refine G_iload_3 (nx := 19) ⟨dX7_hasRange_18, rfl⟩ ?_
        refine G_aload_0 (nx := 20) ⟨dX7_hasRange_19, rfl⟩ ?_
        refine G_getr (nx := 23) (k := 45) (r := 48) ⟨dX7_hasRange_20, rfl⟩ fX7_20 q_45 yr_7_2 (r_45_2 _) ?_
        refine G_iload_1 (nx := 24) ⟨dX7_hasRange_23, rfl⟩ ?_
        refine G_iald (nx := 25) (k := 48) ⟨dX7_hasRange_24, rfl⟩ q_48 (by first | assumption | decide | (unfold vp_in; decide)) ?_
        rw [ecs, hz]
        refine G_iload_2 (nx := 26) ⟨dX7_hasRange_25, rfl⟩ ?_
        refine G_isub (nx := 27) ⟨dX7_hasRange_26, rfl⟩ ?_
        refine G_icmpgt (tgt := 34) (nx := 30) ⟨dX7_hasRange_27, rfl⟩ rfl (fun c_27 => ?_) (fun c_27 => ?_)
        · refine G_iconst (nx := 35) ⟨dX7_hasRange_34, rfl⟩ ci_0 ?_
          refine G_zret ⟨dX7_hasRange_35, rfl⟩ rfl (by first | assumption | decide | exact bi_01 _) ?_
          rw [i32_lt, toInt_0] at c_1
          rw [i32_lt, toInt_0] at c_5
          rw [i32_lt, nI_toInt (by omega)] at c_15
          obtain ⟨i0, hi0, ei⟩ : ∃ i0 : Nat, i0 ≤ 60 ∧ i = nI i0 := ⟨i.toInt.toNat, by omega, nI_of_toInt (by omega) (by omega)⟩
          subst ei
          rw [nI_toInt (by omega)] at *
          rw [i32_lt, sub_toInt_nI (by omega) (by omega)] at c_27
          rw [decide_eq_false (by omega)] at hk
          exact hk
        · refine G_iconst (nx := 31) ⟨dX7_hasRange_30, rfl⟩ ci_1 ?_
          refine G_goto (tgt := 35) ⟨dX7_hasRange_31, rfl⟩ rfl ?_
          refine G_zret ⟨dX7_hasRange_35, rfl⟩ rfl (by first | assumption | decide | exact bi_01 _) ?_
          rw [i32_lt, toInt_0] at c_1
          rw [i32_lt, toInt_0] at c_5
          rw [i32_lt, nI_toInt (by omega)] at c_15
          obtain ⟨i0, hi0, ei⟩ : ∃ i0 : Nat, i0 ≤ 60 ∧ i = nI i0 := ⟨i.toInt.toNat, by omega, nI_of_toInt (by omega) (by omega)⟩
          subst ei
          rw [nI_toInt (by omega)] at *
          rw [i32_lt, sub_toInt_nI (by omega) (by omega)] at c_27
          rw [decide_eq_true (by omega)] at hk
          exact hk

theorem cV_point {h : Nat} {p : Int32} (hh : h < 4) (hk : K .null (w2 (w2 I 54 h 1) 56 h p) J (rX g)) : G l d mX8_holdPoint K 0 [.ref 53, .int (nI h), .int p] [] I J (rX g) := by
  have hin4 := in4 hh
  have ech := cl_nI (p := h) (by omega)
  refine G_aload_0 (nx := 1) ⟨dX8_holdPoint_0, rfl⟩ ?_
  refine G_getr (nx := 4) (k := 53) (r := 54) ⟨dX8_holdPoint_1, rfl⟩ fX8_9 q_53 yr_8_0 (r_53_0 _) ?_
  refine G_iload_1 (nx := 5) ⟨dX8_holdPoint_4, rfl⟩ ?_
  refine G_iconst (nx := 6) ⟨dX8_holdPoint_5, rfl⟩ ci_1 ?_
  refine G_iast (nx := 7) (k := 54) ⟨dX8_holdPoint_6, rfl⟩ q_54 (by first | assumption | decide | (unfold vp_in; decide)) ?_
  rw [ech]
  refine G_aload_0 (nx := 8) ⟨dX8_holdPoint_7, rfl⟩ ?_
  refine G_getr (nx := 11) (k := 53) (r := 56) ⟨dX8_holdPoint_8, rfl⟩ fX8_18 q_53 yr_8_2 (r_53_2 _) ?_
  refine G_iload_1 (nx := 12) ⟨dX8_holdPoint_11, rfl⟩ ?_
  refine G_iload_2 (nx := 13) ⟨dX8_holdPoint_12, rfl⟩ ?_
  refine G_iast (nx := 14) (k := 56) ⟨dX8_holdPoint_13, rfl⟩ q_56 (by first | assumption | decide | (unfold vp_in; decide)) ?_
  rw [ech]
  refine G_vret ⟨dX8_holdPoint_14, rfl⟩ rfl ?_
  exact hk

theorem cV_row {h : Nat} {q v : Int32} (hh : h < 4) (hk : K .null (w2 (w2 (w2 I 54 h (if q = -1 then 0 else 2)) 55 h q) 56 h v) J (rX g)) : G l d mX8_holdRow K 0 [.ref 53, .int (nI h), .int q, .int v] [] I J (rX g) := by
  have hin4 := in4 hh
  have ech := cl_nI (p := h) (by omega)
  refine G_aload_0 (nx := 1) ⟨dX8_holdRow_0, rfl⟩ ?_
  refine G_getr (nx := 4) (k := 53) (r := 54) ⟨dX8_holdRow_1, rfl⟩ fX8_9 q_53 yr_8_0 (r_53_0 _) ?_
  refine G_iload_1 (nx := 5) ⟨dX8_holdRow_4, rfl⟩ ?_
  refine G_iload_2 (nx := 6) ⟨dX8_holdRow_5, rfl⟩ ?_
  refine G_iconst (nx := 7) ⟨dX8_holdRow_6, rfl⟩ ci_m1 ?_
  refine G_icmpne (tgt := 14) (nx := 10) ⟨dX8_holdRow_7, rfl⟩ rfl (fun c_7 => ?_) (fun c_7 => ?_)
  · refine G_iconst (nx := 15) ⟨dX8_holdRow_14, rfl⟩ ci_2 ?_
    refine G_iast (nx := 16) (k := 54) ⟨dX8_holdRow_15, rfl⟩ q_54 (by first | assumption | decide | (unfold vp_in; decide)) ?_
    rw [ech]
    refine G_aload_0 (nx := 17) ⟨dX8_holdRow_16, rfl⟩ ?_
    refine G_getr (nx := 20) (k := 53) (r := 55) ⟨dX8_holdRow_17, rfl⟩ fX8_15 q_53 yr_8_1 (r_53_1 _) ?_
    refine G_iload_1 (nx := 21) ⟨dX8_holdRow_20, rfl⟩ ?_
    refine G_iload_2 (nx := 22) ⟨dX8_holdRow_21, rfl⟩ ?_
    refine G_iast (nx := 23) (k := 55) ⟨dX8_holdRow_22, rfl⟩ q_55 (by first | assumption | decide | (unfold vp_in; decide)) ?_
    rw [ech]
    refine G_aload_0 (nx := 24) ⟨dX8_holdRow_23, rfl⟩ ?_
    refine G_getr (nx := 27) (k := 53) (r := 56) ⟨dX8_holdRow_24, rfl⟩ fX8_18 q_53 yr_8_2 (r_53_2 _) ?_
    refine G_iload_1 (nx := 28) ⟨dX8_holdRow_27, rfl⟩ ?_
    refine G_iload_3 (nx := 29) ⟨dX8_holdRow_28, rfl⟩ ?_
    refine G_iast (nx := 30) (k := 56) ⟨dX8_holdRow_29, rfl⟩ q_56 (by first | assumption | decide | (unfold vp_in; decide)) ?_
    rw [ech]
    refine G_vret ⟨dX8_holdRow_30, rfl⟩ rfl ?_
    rw [if_neg c_7] at hk
    exact hk
  · refine G_iconst (nx := 11) ⟨dX8_holdRow_10, rfl⟩ ci_0 ?_
    refine G_goto (tgt := 15) ⟨dX8_holdRow_11, rfl⟩ rfl ?_
    refine G_iast (nx := 16) (k := 54) ⟨dX8_holdRow_15, rfl⟩ q_54 (by first | assumption | decide | (unfold vp_in; decide)) ?_
    rw [ech]
    refine G_aload_0 (nx := 17) ⟨dX8_holdRow_16, rfl⟩ ?_
    refine G_getr (nx := 20) (k := 53) (r := 55) ⟨dX8_holdRow_17, rfl⟩ fX8_15 q_53 yr_8_1 (r_53_1 _) ?_
    refine G_iload_1 (nx := 21) ⟨dX8_holdRow_20, rfl⟩ ?_
    refine G_iload_2 (nx := 22) ⟨dX8_holdRow_21, rfl⟩ ?_
    refine G_iast (nx := 23) (k := 55) ⟨dX8_holdRow_22, rfl⟩ q_55 (by first | assumption | decide | (unfold vp_in; decide)) ?_
    rw [ech]
    refine G_aload_0 (nx := 24) ⟨dX8_holdRow_23, rfl⟩ ?_
    refine G_getr (nx := 27) (k := 53) (r := 56) ⟨dX8_holdRow_24, rfl⟩ fX8_18 q_53 yr_8_2 (r_53_2 _) ?_
    refine G_iload_1 (nx := 28) ⟨dX8_holdRow_27, rfl⟩ ?_
    refine G_iload_3 (nx := 29) ⟨dX8_holdRow_28, rfl⟩ ?_
    refine G_iast (nx := 30) (k := 56) ⟨dX8_holdRow_29, rfl⟩ q_56 (by first | assumption | decide | (unfold vp_in; decide)) ?_
    rw [ech]
    refine G_vret ⟨dX8_holdRow_30, rfl⟩ rfl ?_
    rw [if_pos c_7] at hk
    exact hk

theorem cV_none {h : Nat} (hh : h < 4) (hk : K .null (w2 I 54 h 0) J (rX g)) : G l d mX8_holdNothing K 0 [.ref 53, .int (nI h)] [] I J (rX g) := by
  have hin4 := in4 hh
  have ech := cl_nI (p := h) (by omega)
  refine G_aload_0 (nx := 1) ⟨dX8_holdNothing_0, rfl⟩ ?_
  refine G_getr (nx := 4) (k := 53) (r := 54) ⟨dX8_holdNothing_1, rfl⟩ fX8_9 q_53 yr_8_0 (r_53_0 _) ?_
  refine G_iload_1 (nx := 5) ⟨dX8_holdNothing_4, rfl⟩ ?_
  refine G_iconst (nx := 6) ⟨dX8_holdNothing_5, rfl⟩ ci_0 ?_
  refine G_iast (nx := 7) (k := 54) ⟨dX8_holdNothing_6, rfl⟩ q_54 (by first | assumption | decide | (unfold vp_in; decide)) ?_
  rw [ech]
  refine G_vret ⟨dX8_holdNothing_7, rfl⟩ rfl ?_
  exact hk

end X86
