
theorem sw_ne04 {x : Int32} (h : x.toInt < 0 ∨ 4 < x.toInt) : ¬ x = 0 ∧ ¬ x = 1 ∧ ¬ x = 2 ∧ ¬ x = 3 ∧ ¬ x = 4 := by
  refine ⟨?_, ?_, ?_, ?_, ?_⟩ <;> (intro q; subst q; revert h; decide)
theorem sw_ne03 {x : Int32} (h : x.toInt < 0 ∨ 3 < x.toInt) : ¬ x = 0 ∧ ¬ x = 1 ∧ ¬ x = 2 ∧ ¬ x = 3 := by
  refine ⟨?_, ?_, ?_, ?_⟩ <;> (intro q; subst q; revert h; decide)
section X87
variable {l : Launch} {d : Nat} {K : AK} {I : AI} {J : AJ} {g : Bool} {n : Nat} {gr : Nat → Nat}

theorem cX_point {k v : Int32} (hX : XG I 1 4 n gr) (hk1 : (inR k 0 5 && inR v 1 9) = false → K (.int (-2)) I J (rX g)) (hk2 : inR k 0 5 = true → inR v 1 9 = true → n = 12 → K (.int (-4)) I J (rX g)) (hk : inR k 0 5 = true → inR v 1 9 = true → n < 12 → K (.int (nI n)) (w2 (w2 (w2 (w2 I 2 n k) 3 n v) 4 n 0) 1 4 (nI (n + 1))) J (rX g)) : G l (d + 40) mX11_point K 0 [.ref 0, .int k, .int v] [] I J (rX g) := by
  have hn := hX.2.1
  refine G_iload_1 (nx := 1) ⟨dX11_point_0, rfl⟩ ?_
  refine G_cs1 (nx := 4) ⟨dX11_point_1, rfl⟩ kX11_108 rfl rfl (Nat.le_of_ble_eq_true rfl) (Nat.le_of_ble_eq_true rfl) (cX_isKind ?_)
  refine G_ifeq (tgt := 14) (nx := 7) ⟨dX11_point_4, rfl⟩ rfl (fun c_4 => ?_) (fun c_4 => ?_)
  · refine G_bipush (nx := 16) ⟨dX11_point_14, rfl⟩ cb_m2 ?_
    refine G_iret ⟨dX11_point_16, rfl⟩ rfl ?_
    rw [bi_0] at c_4
    exact hk1 (by simp [c_4])
  · refine G_iload_2 (nx := 8) ⟨dX11_point_7, rfl⟩ ?_
    refine G_cs1 (nx := 11) ⟨dX11_point_8, rfl⟩ kX11_112 rfl rfl (Nat.le_of_ble_eq_true rfl) (Nat.le_of_ble_eq_true rfl) (cX_isWeight ?_)
    refine G_ifne (tgt := 17) (nx := 14) ⟨dX11_point_11, rfl⟩ rfl (fun c_11 => ?_) (fun c_11 => ?_)
    · rw [bi_n0] at c_4
      rw [bi_n0] at c_11
      refine G_aload_0 (nx := 18) ⟨dX11_point_17, rfl⟩ ?_
      refine G_getr (nx := 21) (k := 0) (r := 1) ⟨dX11_point_18, rfl⟩ fX11_10 q_0 yr_11_0 (r_0_0 _) ?_
      refine G_geti (nx := 24) (k := 1) ⟨dX11_point_21, rfl⟩ fX11_115 q_1 yi_4_4 ?_
      refine G_bipush (nx := 26) ⟨dX11_point_24, rfl⟩ cb_12 ?_
      rw [hX.1, show (12 : Int32) = nI 12 by decide]
      refine G_icmplt (tgt := 32) (nx := 29) ⟨dX11_point_26, rfl⟩ rfl (fun c_26 => ?_) (fun c_26 => ?_)
      · rw [nI_lt_iff (by omega) (by omega)] at c_26
        refine G_aload_0 (nx := 33) ⟨dX11_point_32, rfl⟩ ?_
        refine G_getr (nx := 36) (k := 0) (r := 1) ⟨dX11_point_33, rfl⟩ fX11_10 q_0 yr_11_0 (r_0_0 _) ?_
        refine G_iload_1 (nx := 37) ⟨dX11_point_36, rfl⟩ ?_
        refine G_iload_2 (nx := 38) ⟨dX11_point_37, rfl⟩ ?_
        refine G_cv2 (nx := 41) ⟨dX11_point_38, rfl⟩ kX11_118 rfl q_1 rfl (Nat.le_of_ble_eq_true rfl) (Nat.le_of_ble_eq_true rfl) (cN_add nt1 hX c_26 ?_)
        refine G_iret ⟨dX11_point_41, rfl⟩ rfl ?_
        exact hk c_4 c_11 c_26
      · refine G_bipush (nx := 31) ⟨dX11_point_29, rfl⟩ cb_m4 ?_
        refine G_iret ⟨dX11_point_31, rfl⟩ rfl ?_
        rw [nI_lt_iff (by omega) (by omega)] at c_26
        exact hk2 c_4 c_11 (by omega)
    · refine G_bipush (nx := 16) ⟨dX11_point_14, rfl⟩ cb_m2 ?_
      refine G_iret ⟨dX11_point_16, rfl⟩ rfl ?_
      rw [bi_0] at c_11
      exact hk1 (by simp [c_11])

theorem cX_line {a b q : Int32} (hX : XG I 1 4 n gr) (hk1 : (ptB n a && ptB n b && !decide (a = b) && inR q 0 1) = false → K (.int (-2)) I J (rX g)) (hk : ∀ (a0 b0 on : Nat), a = nI a0 → b = nI b0 → q = nI on → a0 < n → b0 < n → ¬ a0 = b0 → on ≤ 1 → K (.int (bi ((gr a0).testBit b0))) (w2 (w2 I 4 a0 (nI (setb (gr a0) b0 on))) 4 b0 (nI (setb (gr b0) a0 on))) J (rX g)) : G l (d + 40) mX11_line K 0 [.ref 0, .int a, .int b, .int q, UU] [] I J (rX g) := by
  have hn := hX.2.1
  refine G_aload_0 (nx := 1) ⟨dX11_line_0, rfl⟩ ?_
  refine G_getr (nx := 4) (k := 0) (r := 1) ⟨dX11_line_1, rfl⟩ fX11_10 q_0 yr_11_0 (r_0_0 _) ?_
  refine G_iload_1 (nx := 5) ⟨dX11_line_4, rfl⟩ ?_
  refine G_iload_2 (nx := 6) ⟨dX11_line_5, rfl⟩ ?_
  refine G_cv2 (nx := 9) ⟨dX11_line_6, rfl⟩ kX11_122 rfl q_1 rfl (Nat.le_of_ble_eq_true rfl) (Nat.le_of_ble_eq_true rfl) (cN_hasTwo nt1 hX ?_)
  refine G_ifeq (tgt := 21) (nx := 12) ⟨dX11_line_9, rfl⟩ rfl (fun c_9 => ?_) (fun c_9 => ?_)
  · refine G_bipush (nx := 23) ⟨dX11_line_21, rfl⟩ cb_m2 ?_
    refine G_iret ⟨dX11_line_23, rfl⟩ rfl ?_
    rw [bi_0] at c_9
    exact hk1 (by rw [c_9]; rfl)
  · refine G_iload_3 (nx := 13) ⟨dX11_line_12, rfl⟩ ?_
    refine G_iconst (nx := 14) ⟨dX11_line_13, rfl⟩ ci_0 ?_
    refine G_iconst (nx := 15) ⟨dX11_line_14, rfl⟩ ci_1 ?_
    refine G_cs3 (nx := 18) ⟨dX11_line_15, rfl⟩ kX11_126 rfl rfl (Nat.le_of_ble_eq_true rfl) (Nat.le_of_ble_eq_true rfl) (cX_within ?_)
    refine G_ifne (tgt := 24) (nx := 21) ⟨dX11_line_18, rfl⟩ rfl (fun c_18 => ?_) (fun c_18 => ?_)
    · rw [bi_n0] at c_9
      rw [bi_n0] at c_18
      simp only [Bool.and_eq_true, Bool.not_eq_true', decide_eq_false_iff_not] at c_9
      obtain ⟨x, hx, ea⟩ := ptB_ex (by omega) c_9.1.1
      obtain ⟨y, hy, eb⟩ := ptB_ex (by omega) c_9.1.2
      have hxy : ¬ x = y := fun e => c_9.2 (by rw [ea, eb, e])
      obtain ⟨on, ho1, ho2, eo⟩ := nI_ex (a := 0) (b := 1) (by omega) c_18 (by omega)
      subst ea
      subst eb
      subst eo
      refine G_aload_0 (nx := 25) ⟨dX11_line_24, rfl⟩ ?_
      refine G_getr (nx := 28) (k := 0) (r := 1) ⟨dX11_line_25, rfl⟩ fX11_10 q_0 yr_11_0 (r_0_0 _) ?_
      refine G_iload_1 (nx := 29) ⟨dX11_line_28, rfl⟩ ?_
      refine G_iload_2 (nx := 30) ⟨dX11_line_29, rfl⟩ ?_
      refine G_cv2 (nx := 33) ⟨dX11_line_30, rfl⟩ kX11_130 rfl q_1 rfl (Nat.le_of_ble_eq_true rfl) (Nat.le_of_ble_eq_true rfl) (cN_joined nt1 hX hx hy ?_)
      refine G_ifeq (tgt := 40) (nx := 36) ⟨dX11_line_33, rfl⟩ rfl (fun c_33 => ?_) (fun c_33 => ?_)
      · refine G_iconst (nx := 41) ⟨dX11_line_40, rfl⟩ ci_0 ?_
        refine G_istore_4 (nx := 43) ⟨dX11_line_41, rfl⟩ rfl rfl ?_
        refine G_aload_0 (nx := 44) ⟨dX11_line_43, rfl⟩ ?_
        refine G_getr (nx := 47) (k := 0) (r := 1) ⟨dX11_line_44, rfl⟩ fX11_10 q_0 yr_11_0 (r_0_0 _) ?_
        refine G_iload_1 (nx := 48) ⟨dX11_line_47, rfl⟩ ?_
        refine G_iload_2 (nx := 49) ⟨dX11_line_48, rfl⟩ ?_
        refine G_iload_3 (nx := 50) ⟨dX11_line_49, rfl⟩ ?_
        refine G_iconst (nx := 51) ⟨dX11_line_50, rfl⟩ ci_1 ?_
        refine G_icmpne (tgt := 58) (nx := 54) ⟨dX11_line_51, rfl⟩ rfl (fun c_51 => ?_) (fun c_51 => ?_)
        · refine G_iconst (nx := 59) ⟨dX11_line_58, rfl⟩ ci_0 ?_
          refine G_cvv3 (nx := 62) ⟨dX11_line_59, rfl⟩ kX11_133 rfl q_1 rfl (Nat.le_of_ble_eq_true rfl) (Nat.le_of_ble_eq_true rfl) (cN_join (on := 0) nt1 hX hx hy hxy (by omega) ?_)
          refine G_iload_4 (nx := 64) ⟨dX11_line_62, rfl⟩ ?_
          refine G_iret ⟨dX11_line_64, rfl⟩ rfl ?_
          rw [bi_0] at c_33
          rw [show (1 : Int32) = nI 1 by decide, nI_eq (by omega) (by omega)] at c_51
          have e1 : on = 0 := by omega
          subst e1
          have fin := hk x y 0 rfl rfl rfl hx hy hxy (by omega)
          rw [c_33] at fin
          exact fin
        · refine G_iconst (nx := 55) ⟨dX11_line_54, rfl⟩ ci_1 ?_
          refine G_goto (tgt := 59) ⟨dX11_line_55, rfl⟩ rfl ?_
          refine G_cvv3 (nx := 62) ⟨dX11_line_59, rfl⟩ kX11_133 rfl q_1 rfl (Nat.le_of_ble_eq_true rfl) (Nat.le_of_ble_eq_true rfl) (cN_join (on := 1) nt1 hX hx hy hxy (by omega) ?_)
          refine G_iload_4 (nx := 64) ⟨dX11_line_62, rfl⟩ ?_
          refine G_iret ⟨dX11_line_64, rfl⟩ rfl ?_
          rw [bi_0] at c_33
          rw [show (1 : Int32) = nI 1 by decide, nI_eq (by omega) (by omega)] at c_51
          have e1 : on = 1 := by omega
          subst e1
          have fin := hk x y 1 rfl rfl rfl hx hy hxy (by omega)
          rw [c_33] at fin
          exact fin
      · refine G_iconst (nx := 37) ⟨dX11_line_36, rfl⟩ ci_1 ?_
        refine G_goto (tgt := 41) ⟨dX11_line_37, rfl⟩ rfl ?_
        refine G_istore_4 (nx := 43) ⟨dX11_line_41, rfl⟩ rfl rfl ?_
        refine G_aload_0 (nx := 44) ⟨dX11_line_43, rfl⟩ ?_
        refine G_getr (nx := 47) (k := 0) (r := 1) ⟨dX11_line_44, rfl⟩ fX11_10 q_0 yr_11_0 (r_0_0 _) ?_
        refine G_iload_1 (nx := 48) ⟨dX11_line_47, rfl⟩ ?_
        refine G_iload_2 (nx := 49) ⟨dX11_line_48, rfl⟩ ?_
        refine G_iload_3 (nx := 50) ⟨dX11_line_49, rfl⟩ ?_
        refine G_iconst (nx := 51) ⟨dX11_line_50, rfl⟩ ci_1 ?_
        refine G_icmpne (tgt := 58) (nx := 54) ⟨dX11_line_51, rfl⟩ rfl (fun c_51 => ?_) (fun c_51 => ?_)
        · refine G_iconst (nx := 59) ⟨dX11_line_58, rfl⟩ ci_0 ?_
          refine G_cvv3 (nx := 62) ⟨dX11_line_59, rfl⟩ kX11_133 rfl q_1 rfl (Nat.le_of_ble_eq_true rfl) (Nat.le_of_ble_eq_true rfl) (cN_join (on := 0) nt1 hX hx hy hxy (by omega) ?_)
          refine G_iload_4 (nx := 64) ⟨dX11_line_62, rfl⟩ ?_
          refine G_iret ⟨dX11_line_64, rfl⟩ rfl ?_
          rw [bi_n0] at c_33
          rw [show (1 : Int32) = nI 1 by decide, nI_eq (by omega) (by omega)] at c_51
          have e1 : on = 0 := by omega
          subst e1
          have fin := hk x y 0 rfl rfl rfl hx hy hxy (by omega)
          rw [c_33] at fin
          exact fin
        · refine G_iconst (nx := 55) ⟨dX11_line_54, rfl⟩ ci_1 ?_
          refine G_goto (tgt := 59) ⟨dX11_line_55, rfl⟩ rfl ?_
          refine G_cvv3 (nx := 62) ⟨dX11_line_59, rfl⟩ kX11_133 rfl q_1 rfl (Nat.le_of_ble_eq_true rfl) (Nat.le_of_ble_eq_true rfl) (cN_join (on := 1) nt1 hX hx hy hxy (by omega) ?_)
          refine G_iload_4 (nx := 64) ⟨dX11_line_62, rfl⟩ ?_
          refine G_iret ⟨dX11_line_64, rfl⟩ rfl ?_
          rw [bi_n0] at c_33
          rw [show (1 : Int32) = nI 1 by decide, nI_eq (by omega) (by omega)] at c_51
          have e1 : on = 1 := by omega
          subst e1
          have fin := hk x y 1 rfl rfl rfl hx hy hxy (by omega)
          rw [c_33] at fin
          exact fin
    · refine G_bipush (nx := 23) ⟨dX11_line_21, rfl⟩ cb_m2 ?_
      refine G_iret ⟨dX11_line_23, rfl⟩ rfl ?_
      rw [bi_0] at c_18
      exact hk1 (by rw [c_18, Bool.and_false])

theorem cX_pointOf {p q : Int32} (hX : XG I 1 4 n gr) (hk1 : ptB n p = false → K (.int (-2)) I J (rX g)) (hk : ∀ p0, p0 < n → p = nI p0 → K (.int (if q = 0 then I 2 p0 else if q = 1 then I 3 p0 else if q = 2 then cst (I 2 p0) (I 3 p0) (nI (pc (gr p0))) (nI p0) else if q = 3 then nI (gr p0) else if q = 4 then nI (pc (gr p0)) else -2)) I J (rX g)) : G l (d + 40) mX11_pointOf K 0 [.ref 0, .int p, .int q] [] I J (rX g) := by
  have hn := hX.2.1
  refine G_aload_0 (nx := 1) ⟨dX11_pointOf_0, rfl⟩ ?_
  refine G_getr (nx := 4) (k := 0) (r := 1) ⟨dX11_pointOf_1, rfl⟩ fX11_10 q_0 yr_11_0 (r_0_0 _) ?_
  refine G_iload_1 (nx := 5) ⟨dX11_pointOf_4, rfl⟩ ?_
  refine G_cv1 (nx := 8) ⟨dX11_pointOf_5, rfl⟩ kX11_137 rfl q_1 rfl (Nat.le_of_ble_eq_true rfl) (Nat.le_of_ble_eq_true rfl) (cN_has nt1 hX ?_)
  refine G_ifne (tgt := 14) (nx := 11) ⟨dX11_pointOf_8, rfl⟩ rfl (fun c_8 => ?_) (fun c_8 => ?_)
  · rw [bi_n0] at c_8
    obtain ⟨p0, hp0, ep⟩ := ptB_ex (by omega) c_8
    subst ep
    have h12 := in12 hp0 hn
    have ecp := cl_nI (p := p0) (by omega)
    refine G_iload_2 (nx := 15) ⟨dX11_pointOf_14, rfl⟩ ?_
    rcases sw_0_4 _ with c_15 | c_15 | c_15 | c_15 | c_15 | c_15
    · refine G_tabAt (v := 0) (tgt := 48) (nx := 48) ⟨dX11_pointOf_15, rfl⟩ c_15 (by decide) (by decide) (off := 33) rfl rfl ?_
      refine G_aload_0 (nx := 49) ⟨dX11_pointOf_48, rfl⟩ ?_
      refine G_getr (nx := 52) (k := 0) (r := 1) ⟨dX11_pointOf_49, rfl⟩ fX11_10 q_0 yr_11_0 (r_0_0 _) ?_
      refine G_getr (nx := 55) (k := 1) (r := 2) ⟨dX11_pointOf_52, rfl⟩ fX11_140 q_1 yr_4_0 (r_1_0 _) ?_
      refine G_iload_1 (nx := 56) ⟨dX11_pointOf_55, rfl⟩ ?_
      refine G_iald (nx := 57) (k := 2) ⟨dX11_pointOf_56, rfl⟩ q_2 (by first | assumption | decide | (unfold vp_in; decide)) ?_
      rw [ecp]
      refine G_iret ⟨dX11_pointOf_57, rfl⟩ rfl ?_
      refine K_v (congrArg Value.int ?_) (hk p0 hp0 rfl)
      simp [c_15]
    · refine G_tabAt (v := 1) (tgt := 58) (nx := 48) ⟨dX11_pointOf_15, rfl⟩ c_15 (by decide) (by decide) (off := 43) rfl rfl ?_
      refine G_aload_0 (nx := 59) ⟨dX11_pointOf_58, rfl⟩ ?_
      refine G_getr (nx := 62) (k := 0) (r := 1) ⟨dX11_pointOf_59, rfl⟩ fX11_10 q_0 yr_11_0 (r_0_0 _) ?_
      refine G_getr (nx := 65) (k := 1) (r := 3) ⟨dX11_pointOf_62, rfl⟩ fX11_144 q_1 yr_4_1 (r_1_1 _) ?_
      refine G_iload_1 (nx := 66) ⟨dX11_pointOf_65, rfl⟩ ?_
      refine G_iald (nx := 67) (k := 3) ⟨dX11_pointOf_66, rfl⟩ q_3 (by first | assumption | decide | (unfold vp_in; decide)) ?_
      rw [ecp]
      refine G_iret ⟨dX11_pointOf_67, rfl⟩ rfl ?_
      refine K_v (congrArg Value.int ?_) (hk p0 hp0 rfl)
      simp [c_15]
    · refine G_tabAt (v := 2) (tgt := 68) (nx := 48) ⟨dX11_pointOf_15, rfl⟩ c_15 (by decide) (by decide) (off := 53) rfl rfl ?_
      refine G_aload_0 (nx := 69) ⟨dX11_pointOf_68, rfl⟩ ?_
      refine G_getr (nx := 72) (k := 0) (r := 1) ⟨dX11_pointOf_69, rfl⟩ fX11_10 q_0 yr_11_0 (r_0_0 _) ?_
      refine G_iload_1 (nx := 73) ⟨dX11_pointOf_72, rfl⟩ ?_
      refine G_cv1 (nx := 76) ⟨dX11_pointOf_73, rfl⟩ kX11_147 rfl q_1 rfl (Nat.le_of_ble_eq_true rfl) (Nat.le_of_ble_eq_true rfl) (cN_price nt1 hX hp0 ?_)
      refine G_iret ⟨dX11_pointOf_76, rfl⟩ rfl ?_
      refine K_v (congrArg Value.int ?_) (hk p0 hp0 rfl)
      simp [c_15]
    · refine G_tabAt (v := 3) (tgt := 77) (nx := 48) ⟨dX11_pointOf_15, rfl⟩ c_15 (by decide) (by decide) (off := 62) rfl rfl ?_
      refine G_aload_0 (nx := 78) ⟨dX11_pointOf_77, rfl⟩ ?_
      refine G_getr (nx := 81) (k := 0) (r := 1) ⟨dX11_pointOf_78, rfl⟩ fX11_10 q_0 yr_11_0 (r_0_0 _) ?_
      refine G_getr (nx := 84) (k := 1) (r := 4) ⟨dX11_pointOf_81, rfl⟩ fX11_151 q_1 yr_4_2 (r_1_2 _) ?_
      refine G_iload_1 (nx := 85) ⟨dX11_pointOf_84, rfl⟩ ?_
      refine G_iald (nx := 86) (k := 4) ⟨dX11_pointOf_85, rfl⟩ q_4 (by first | assumption | decide | (unfold vp_in; decide)) ?_
      rw [hX.2.row hp0]
      refine G_iret ⟨dX11_pointOf_86, rfl⟩ rfl ?_
      refine K_v (congrArg Value.int ?_) (hk p0 hp0 rfl)
      simp [c_15]
    · refine G_tabAt (v := 4) (tgt := 87) (nx := 48) ⟨dX11_pointOf_15, rfl⟩ c_15 (by decide) (by decide) (off := 72) rfl rfl ?_
      refine G_aload_0 (nx := 88) ⟨dX11_pointOf_87, rfl⟩ ?_
      refine G_getr (nx := 91) (k := 0) (r := 1) ⟨dX11_pointOf_88, rfl⟩ fX11_10 q_0 yr_11_0 (r_0_0 _) ?_
      refine G_iload_1 (nx := 92) ⟨dX11_pointOf_91, rfl⟩ ?_
      refine G_cv1 (nx := 95) ⟨dX11_pointOf_92, rfl⟩ kX11_154 rfl q_1 rfl (Nat.le_of_ble_eq_true rfl) (Nat.le_of_ble_eq_true rfl) (cN_degree nt1 hX hp0 ?_)
      refine G_iret ⟨dX11_pointOf_95, rfl⟩ rfl ?_
      refine K_v (congrArg Value.int ?_) (hk p0 hp0 rfl)
      simp [c_15]
    · refine G_tabOut (tgt := 96) (nx := 48) ⟨dX11_pointOf_15, rfl⟩ c_15 rfl ?_
      refine G_bipush (nx := 98) ⟨dX11_pointOf_96, rfl⟩ cb_m2 ?_
      refine G_iret ⟨dX11_pointOf_98, rfl⟩ rfl ?_
      refine K_v (congrArg Value.int ?_) (hk p0 hp0 rfl)
      simp [sw_ne04 c_15]
  · refine G_bipush (nx := 13) ⟨dX11_pointOf_11, rfl⟩ cb_m2 ?_
    refine G_iret ⟨dX11_pointOf_13, rfl⟩ rfl ?_
    rw [bi_0] at c_8
    exact hk1 c_8

theorem cX_change {p q v : Int32} (hX : XG I 1 4 n gr) (hk1 : (ptB n p && inR q 0 1 && inR v q (if q = 0 then 5 else 9)) = false → K (.int (-2)) I J (rX g)) (hk2 : ∀ p0, p0 < n → p = nI p0 → q = 0 → inR v 0 5 = true → K (.int (I 2 p0)) (w2 I 2 p0 v) J (rX g)) (hk3 : ∀ p0, p0 < n → p = nI p0 → q = 1 → inR v 1 9 = true → K (.int (I 3 p0)) (w2 I 3 p0 v) J (rX g)) : G l (d + 40) mX11_change K 0 [.ref 0, .int p, .int q, .int v, UU] [] I J (rX g) := by
  have hn := hX.2.1
  refine G_aload_0 (nx := 1) ⟨dX11_change_0, rfl⟩ ?_
  refine G_getr (nx := 4) (k := 0) (r := 1) ⟨dX11_change_1, rfl⟩ fX11_10 q_0 yr_11_0 (r_0_0 _) ?_
  refine G_iload_1 (nx := 5) ⟨dX11_change_4, rfl⟩ ?_
  refine G_cv1 (nx := 8) ⟨dX11_change_5, rfl⟩ kX11_137 rfl q_1 rfl (Nat.le_of_ble_eq_true rfl) (Nat.le_of_ble_eq_true rfl) (cN_has nt1 hX ?_)
  refine G_ifne (tgt := 14) (nx := 11) ⟨dX11_change_8, rfl⟩ rfl (fun c_8 => ?_) (fun c_8 => ?_)
  · rw [bi_n0] at c_8
    obtain ⟨p0, hp0, ep⟩ := ptB_ex (by omega) c_8
    subst ep
    have h12 := in12 hp0 hn
    have ecp := cl_nI (p := p0) (by omega)
    refine G_iload_2 (nx := 15) ⟨dX11_change_14, rfl⟩ ?_
    refine G_ifne (tgt := 49) (nx := 18) ⟨dX11_change_15, rfl⟩ rfl (fun c_15 => ?_) (fun c_15 => ?_)
    · refine G_iload_2 (nx := 50) ⟨dX11_change_49, rfl⟩ ?_
      refine G_iconst (nx := 51) ⟨dX11_change_50, rfl⟩ ci_1 ?_
      refine G_icmpne (tgt := 85) (nx := 54) ⟨dX11_change_51, rfl⟩ rfl (fun c_51 => ?_) (fun c_51 => ?_)
      · refine G_bipush (nx := 87) ⟨dX11_change_85, rfl⟩ cb_m2 ?_
        refine G_iret ⟨dX11_change_87, rfl⟩ rfl ?_
        have hq : inR q 0 1 = false := by
          cases e : inR q 0 1 with
          | false => rfl
          | true =>
            obtain ⟨j, h1, h2, h3⟩ := nI_ex (a := 0) (b := 1) (by omega) e (by omega)
            rcases (show j = 0 ∨ j = 1 by omega) with z | z
            · rw [z] at h3; exact absurd h3 c_15
            · rw [z] at h3; exact absurd h3 c_51
        exact hk1 (by rw [hq, Bool.and_false, Bool.false_and])
      · refine G_iload_3 (nx := 55) ⟨dX11_change_54, rfl⟩ ?_
        refine G_cs1 (nx := 58) ⟨dX11_change_55, rfl⟩ kX11_112 rfl rfl (Nat.le_of_ble_eq_true rfl) (Nat.le_of_ble_eq_true rfl) (cX_isWeight ?_)
        refine G_ifeq (tgt := 85) (nx := 61) ⟨dX11_change_58, rfl⟩ rfl (fun c_58 => ?_) (fun c_58 => ?_)
        · refine G_bipush (nx := 87) ⟨dX11_change_85, rfl⟩ cb_m2 ?_
          refine G_iret ⟨dX11_change_87, rfl⟩ rfl ?_
          rw [bi_0] at c_58
          exact hk1 (by rw [if_neg c_15, c_51, c_58, Bool.and_false])
        · refine G_aload_0 (nx := 62) ⟨dX11_change_61, rfl⟩ ?_
          refine G_getr (nx := 65) (k := 0) (r := 1) ⟨dX11_change_62, rfl⟩ fX11_10 q_0 yr_11_0 (r_0_0 _) ?_
          refine G_getr (nx := 68) (k := 1) (r := 3) ⟨dX11_change_65, rfl⟩ fX11_144 q_1 yr_4_1 (r_1_1 _) ?_
          refine G_iload_1 (nx := 69) ⟨dX11_change_68, rfl⟩ ?_
          refine G_iald (nx := 70) (k := 3) ⟨dX11_change_69, rfl⟩ q_3 (by first | assumption | decide | (unfold vp_in; decide)) ?_
          rw [ecp]
          refine G_istore_4 (nx := 72) ⟨dX11_change_70, rfl⟩ rfl rfl ?_
          refine G_aload_0 (nx := 73) ⟨dX11_change_72, rfl⟩ ?_
          refine G_getr (nx := 76) (k := 0) (r := 1) ⟨dX11_change_73, rfl⟩ fX11_10 q_0 yr_11_0 (r_0_0 _) ?_
          refine G_getr (nx := 79) (k := 1) (r := 3) ⟨dX11_change_76, rfl⟩ fX11_144 q_1 yr_4_1 (r_1_1 _) ?_
          refine G_iload_1 (nx := 80) ⟨dX11_change_79, rfl⟩ ?_
          refine G_iload_3 (nx := 81) ⟨dX11_change_80, rfl⟩ ?_
          refine G_iast (nx := 82) (k := 3) ⟨dX11_change_81, rfl⟩ q_3 (by first | assumption | decide | (unfold vp_in; decide)) ?_
          rw [ecp]
          refine G_iload_4 (nx := 84) ⟨dX11_change_82, rfl⟩ ?_
          refine G_iret ⟨dX11_change_84, rfl⟩ rfl ?_
          rw [bi_n0] at c_58
          exact hk3 p0 hp0 rfl c_51 c_58
    · refine G_iload_3 (nx := 19) ⟨dX11_change_18, rfl⟩ ?_
      refine G_cs1 (nx := 22) ⟨dX11_change_19, rfl⟩ kX11_108 rfl rfl (Nat.le_of_ble_eq_true rfl) (Nat.le_of_ble_eq_true rfl) (cX_isKind ?_)
      refine G_ifeq (tgt := 49) (nx := 25) ⟨dX11_change_22, rfl⟩ rfl (fun c_22 => ?_) (fun c_22 => ?_)
      · refine G_iload_2 (nx := 50) ⟨dX11_change_49, rfl⟩ ?_
        refine G_iconst (nx := 51) ⟨dX11_change_50, rfl⟩ ci_1 ?_
        refine G_icmpne (tgt := 85) (nx := 54) ⟨dX11_change_51, rfl⟩ rfl (fun c_51 => ?_) (fun c_51 => ?_)
        · refine G_bipush (nx := 87) ⟨dX11_change_85, rfl⟩ cb_m2 ?_
          refine G_iret ⟨dX11_change_87, rfl⟩ rfl ?_
          rw [bi_0] at c_22
          exact hk1 (by rw [if_pos c_15, c_15, c_22, Bool.and_false])
        · refine G_iload_3 (nx := 55) ⟨dX11_change_54, rfl⟩ ?_
          refine G_cs1 (nx := 58) ⟨dX11_change_55, rfl⟩ kX11_112 rfl rfl (Nat.le_of_ble_eq_true rfl) (Nat.le_of_ble_eq_true rfl) (cX_isWeight ?_)
          refine G_ifeq (tgt := 85) (nx := 61) ⟨dX11_change_58, rfl⟩ rfl (fun c_58 => ?_) (fun c_58 => ?_)
          · refine G_bipush (nx := 87) ⟨dX11_change_85, rfl⟩ cb_m2 ?_
            refine G_iret ⟨dX11_change_87, rfl⟩ rfl ?_
            rw [c_15] at c_51
            exact absurd c_51 (by decide)
          · refine G_aload_0 (nx := 62) ⟨dX11_change_61, rfl⟩ ?_
            refine G_getr (nx := 65) (k := 0) (r := 1) ⟨dX11_change_62, rfl⟩ fX11_10 q_0 yr_11_0 (r_0_0 _) ?_
            refine G_getr (nx := 68) (k := 1) (r := 3) ⟨dX11_change_65, rfl⟩ fX11_144 q_1 yr_4_1 (r_1_1 _) ?_
            refine G_iload_1 (nx := 69) ⟨dX11_change_68, rfl⟩ ?_
            refine G_iald (nx := 70) (k := 3) ⟨dX11_change_69, rfl⟩ q_3 (by first | assumption | decide | (unfold vp_in; decide)) ?_
            rw [ecp]
            refine G_istore_4 (nx := 72) ⟨dX11_change_70, rfl⟩ rfl rfl ?_
            refine G_aload_0 (nx := 73) ⟨dX11_change_72, rfl⟩ ?_
            refine G_getr (nx := 76) (k := 0) (r := 1) ⟨dX11_change_73, rfl⟩ fX11_10 q_0 yr_11_0 (r_0_0 _) ?_
            refine G_getr (nx := 79) (k := 1) (r := 3) ⟨dX11_change_76, rfl⟩ fX11_144 q_1 yr_4_1 (r_1_1 _) ?_
            refine G_iload_1 (nx := 80) ⟨dX11_change_79, rfl⟩ ?_
            refine G_iload_3 (nx := 81) ⟨dX11_change_80, rfl⟩ ?_
            refine G_iast (nx := 82) (k := 3) ⟨dX11_change_81, rfl⟩ q_3 (by first | assumption | decide | (unfold vp_in; decide)) ?_
            rw [ecp]
            refine G_iload_4 (nx := 84) ⟨dX11_change_82, rfl⟩ ?_
            refine G_iret ⟨dX11_change_84, rfl⟩ rfl ?_
            rw [bi_n0] at c_58
            exact hk3 p0 hp0 rfl c_51 c_58
      · refine G_aload_0 (nx := 26) ⟨dX11_change_25, rfl⟩ ?_
        refine G_getr (nx := 29) (k := 0) (r := 1) ⟨dX11_change_26, rfl⟩ fX11_10 q_0 yr_11_0 (r_0_0 _) ?_
        refine G_getr (nx := 32) (k := 1) (r := 2) ⟨dX11_change_29, rfl⟩ fX11_140 q_1 yr_4_0 (r_1_0 _) ?_
        refine G_iload_1 (nx := 33) ⟨dX11_change_32, rfl⟩ ?_
        refine G_iald (nx := 34) (k := 2) ⟨dX11_change_33, rfl⟩ q_2 (by first | assumption | decide | (unfold vp_in; decide)) ?_
        rw [ecp]
        refine G_istore_4 (nx := 36) ⟨dX11_change_34, rfl⟩ rfl rfl ?_
        refine G_aload_0 (nx := 37) ⟨dX11_change_36, rfl⟩ ?_
        refine G_getr (nx := 40) (k := 0) (r := 1) ⟨dX11_change_37, rfl⟩ fX11_10 q_0 yr_11_0 (r_0_0 _) ?_
        refine G_getr (nx := 43) (k := 1) (r := 2) ⟨dX11_change_40, rfl⟩ fX11_140 q_1 yr_4_0 (r_1_0 _) ?_
        refine G_iload_1 (nx := 44) ⟨dX11_change_43, rfl⟩ ?_
        refine G_iload_3 (nx := 45) ⟨dX11_change_44, rfl⟩ ?_
        refine G_iast (nx := 46) (k := 2) ⟨dX11_change_45, rfl⟩ q_2 (by first | assumption | decide | (unfold vp_in; decide)) ?_
        rw [ecp]
        refine G_iload_4 (nx := 48) ⟨dX11_change_46, rfl⟩ ?_
        refine G_iret ⟨dX11_change_48, rfl⟩ rfl ?_
        rw [bi_n0] at c_22
        exact hk2 p0 hp0 rfl c_15 c_22
  · refine G_bipush (nx := 13) ⟨dX11_change_11, rfl⟩ cb_m2 ?_
    refine G_iret ⟨dX11_change_13, rfl⟩ rfl ?_
    rw [bi_0] at c_8
    exact hk1 (by rw [c_8]; rfl)

theorem cX_isCover {s : Int32} (hX : XG I 1 4 n gr) (hk1 : stB n s = false → K (.int (-2)) I J (rX g)) (hk : ∀ a, a < 2 ^ n → s = nI a → K (.int (if barB n gr a = true then 2 else bi (covB n gr a))) I J (rX g)) : G l (d + 40) mX11_isCover K 0 [.ref 0, .int s] [] I J (rX g) := by
  refine G_aload_0 (nx := 1) ⟨dX11_isCover_0, rfl⟩ ?_
  refine G_getr (nx := 4) (k := 0) (r := 1) ⟨dX11_isCover_1, rfl⟩ fX11_10 q_0 yr_11_0 (r_0_0 _) ?_
  refine G_iload_1 (nx := 5) ⟨dX11_isCover_4, rfl⟩ ?_
  refine G_cv1 (nx := 8) ⟨dX11_isCover_5, rfl⟩ kX11_166 rfl q_1 rfl (Nat.le_of_ble_eq_true rfl) (Nat.le_of_ble_eq_true rfl) (cN_hasAll nt1 hX ?_)
  refine G_ifne (tgt := 14) (nx := 11) ⟨dX11_isCover_8, rfl⟩ rfl (fun c_8 => ?_) (fun c_8 => ?_)
  · rw [bi_n0] at c_8
    obtain ⟨a, ha, ea⟩ := stB_ex hX.2.1 c_8
    subst ea
    have ha4 := Nat.lt_of_lt_of_le ha (pow12 hX.2.1)
    refine G_aload_0 (nx := 15) ⟨dX11_isCover_14, rfl⟩ ?_
    refine G_getr (nx := 18) (k := 0) (r := 1) ⟨dX11_isCover_15, rfl⟩ fX11_10 q_0 yr_11_0 (r_0_0 _) ?_
    refine G_iload_1 (nx := 19) ⟨dX11_isCover_18, rfl⟩ ?_
    refine G_cv1 (nx := 22) ⟨dX11_isCover_19, rfl⟩ kX11_169 rfl q_1 rfl (Nat.le_of_ble_eq_true rfl) (Nat.le_of_ble_eq_true rfl) (cN_covers nt1 hX ha4 ?_)
    refine G_ifne (tgt := 27) (nx := 25) ⟨dX11_isCover_22, rfl⟩ rfl (fun c_22 => ?_) (fun c_22 => ?_)
    · refine G_aload_0 (nx := 28) ⟨dX11_isCover_27, rfl⟩ ?_
      refine G_getr (nx := 31) (k := 0) (r := 1) ⟨dX11_isCover_28, rfl⟩ fX11_10 q_0 yr_11_0 (r_0_0 _) ?_
      refine G_iload_1 (nx := 32) ⟨dX11_isCover_31, rfl⟩ ?_
      refine G_cv1 (nx := 35) ⟨dX11_isCover_32, rfl⟩ kX11_172 rfl q_1 rfl (Nat.le_of_ble_eq_true rfl) (Nat.le_of_ble_eq_true rfl) (cN_needsAll nt1 hX ha4 ?_)
      refine G_ifeq (tgt := 42) (nx := 38) ⟨dX11_isCover_35, rfl⟩ rfl (fun c_35 => ?_) (fun c_35 => ?_)
      · refine G_iconst (nx := 43) ⟨dX11_isCover_42, rfl⟩ ci_1 ?_
        refine G_iret ⟨dX11_isCover_43, rfl⟩ rfl ?_
        (try simp only [bi_0, bi_n0] at c_22 c_35)
        refine K_v (congrArg Value.int ?_) (hk a ha rfl)
        rw [ndB_bar]
        simp [c_22, c_35, bi]
      · refine G_iconst (nx := 39) ⟨dX11_isCover_38, rfl⟩ ci_2 ?_
        refine G_goto (tgt := 43) ⟨dX11_isCover_39, rfl⟩ rfl ?_
        refine G_iret ⟨dX11_isCover_43, rfl⟩ rfl ?_
        (try simp only [bi_0, bi_n0] at c_22 c_35)
        refine K_v (congrArg Value.int ?_) (hk a ha rfl)
        rw [ndB_bar]
        simp [c_22, c_35, bi]
    · refine G_iconst (nx := 26) ⟨dX11_isCover_25, rfl⟩ ci_0 ?_
      refine G_iret ⟨dX11_isCover_26, rfl⟩ rfl ?_
      (try simp only [bi_0, bi_n0] at c_22)
      refine K_v (congrArg Value.int ?_) (hk a ha rfl)
      rw [ndB_bar]
      simp [c_22, bi]
  · refine G_bipush (nx := 13) ⟨dX11_isCover_11, rfl⟩ cb_m2 ?_
    refine G_iret ⟨dX11_isCover_13, rfl⟩ rfl ?_
    rw [bi_0] at c_8
    exact hk1 c_8

theorem cX_costOf {kd wt : Nat → Int32} {s : Int32} (hX : XG I 1 4 n gr) (hkd : ∀ p, p < n → I 2 p = kd p) (hwt : ∀ p, p < n → I 3 p = wt p) (hk1 : stB n s = false → K (.int (-2)) I J (rX g)) (hk : ∀ a, a < 2 ^ n → s = nI a → K (.int (coN n kd wt gr a)) I J (rX g)) : G l (d + 40) mX11_costOf K 0 [.ref 0, .int s] [] I J (rX g) := by
  refine G_aload_0 (nx := 1) ⟨dX11_costOf_0, rfl⟩ ?_
  refine G_getr (nx := 4) (k := 0) (r := 1) ⟨dX11_costOf_1, rfl⟩ fX11_10 q_0 yr_11_0 (r_0_0 _) ?_
  refine G_iload_1 (nx := 5) ⟨dX11_costOf_4, rfl⟩ ?_
  refine G_cv1 (nx := 8) ⟨dX11_costOf_5, rfl⟩ kX11_166 rfl q_1 rfl (Nat.le_of_ble_eq_true rfl) (Nat.le_of_ble_eq_true rfl) (cN_hasAll nt1 hX ?_)
  refine G_ifne (tgt := 14) (nx := 11) ⟨dX11_costOf_8, rfl⟩ rfl (fun c_8 => ?_) (fun c_8 => ?_)
  · rw [bi_n0] at c_8
    obtain ⟨a, ha, ea⟩ := stB_ex hX.2.1 c_8
    subst ea
    have ha4 := Nat.lt_of_lt_of_le ha (pow12 hX.2.1)
    refine G_aload_0 (nx := 15) ⟨dX11_costOf_14, rfl⟩ ?_
    refine G_getr (nx := 18) (k := 0) (r := 1) ⟨dX11_costOf_15, rfl⟩ fX11_10 q_0 yr_11_0 (r_0_0 _) ?_
    refine G_iload_1 (nx := 19) ⟨dX11_costOf_18, rfl⟩ ?_
    refine G_cv1 (nx := 22) ⟨dX11_costOf_19, rfl⟩ kX11_175 rfl q_1 rfl (Nat.le_of_ble_eq_true rfl) (Nat.le_of_ble_eq_true rfl) (cN_priceOfAll nt1 hX hkd hwt ha4 ?_)
    refine G_iret ⟨dX11_costOf_22, rfl⟩ rfl ?_
    exact hk a ha rfl
  · refine G_bipush (nx := 13) ⟨dX11_costOf_11, rfl⟩ cb_m2 ?_
    refine G_iret ⟨dX11_costOf_13, rfl⟩ rfl ?_
    rw [bi_0] at c_8
    exact hk1 c_8

theorem cX_fewest {q : Int32} (hX : XG I 1 4 n gr) (hk1 : inR q 0 4 = false → K (.int (-2)) I J (rX g)) (hk : inR q 0 4 = true → ∀ (I' : AI), sb fC I I' → K (.int (if q = 0 then nI (leN n gr) else if q = 1 then mv (feN n gr).1 else if q = 2 then nI (feN n gr).2.1 else if q = 3 then nI (feN n gr).2.2.1 else nI (df (2 ^ n - 1) (feN n gr).2.2.2))) I' J (rX g)) : G l (d + 40) mX11_fewest K 0 [.ref 0, .int q] [] I J (rX g) := by
  have hn := hX.2.1
  have hp12 := pow12 hn
  refine G_iload_1 (nx := 1) ⟨dX11_fewest_0, rfl⟩ ?_
  refine G_iconst (nx := 2) ⟨dX11_fewest_1, rfl⟩ ci_0 ?_
  refine G_iconst (nx := 3) ⟨dX11_fewest_2, rfl⟩ ci_4 ?_
  refine G_cs3 (nx := 6) ⟨dX11_fewest_3, rfl⟩ kX11_126 rfl rfl (Nat.le_of_ble_eq_true rfl) (Nat.le_of_ble_eq_true rfl) (cX_within ?_)
  refine G_ifne (tgt := 12) (nx := 9) ⟨dX11_fewest_6, rfl⟩ rfl (fun c_6 => ?_) (fun c_6 => ?_)
  · rw [bi_n0] at c_6
    refine G_aload_0 (nx := 13) ⟨dX11_fewest_12, rfl⟩ ?_
    refine G_getr (nx := 16) (k := 0) (r := 22) ⟨dX11_fewest_13, rfl⟩ fX11_34 q_0 yr_11_4 (r_0_4 _) ?_
    refine G_aload_0 (nx := 17) ⟨dX11_fewest_16, rfl⟩ ?_
    refine G_getr (nx := 20) (k := 0) (r := 1) ⟨dX11_fewest_17, rfl⟩ fX11_10 q_0 yr_11_0 (r_0_0 _) ?_
    refine G_cvv1 (nx := 23) ⟨dX11_fewest_20, rfl⟩ kX11_178 rfl q_22 rfl (Nat.le_of_ble_eq_true rfl) (Nat.le_of_ble_eq_true rfl) (cC_findFewest hX (fun I1 hF1 hs1 => ?_))
    obtain ⟨f2, x, fx, f3, f4, f5, f6⟩ := FV_end hn hF1
    have hX1 : XG I1 1 4 n gr := hX.sb hs1 rfl (fun _ => rfl)
    refine G_iload_1 (nx := 24) ⟨dX11_fewest_23, rfl⟩ ?_
    rcases sw_0_3 _ with c_24 | c_24 | c_24 | c_24 | c_24
    · refine G_tabAt (v := 0) (tgt := 56) (nx := 56) ⟨dX11_fewest_24, rfl⟩ c_24 (by decide) (by decide) (off := 32) rfl rfl ?_
      refine G_aload_0 (nx := 57) ⟨dX11_fewest_56, rfl⟩ ?_
      refine G_getr (nx := 60) (k := 0) (r := 22) ⟨dX11_fewest_57, rfl⟩ fX11_34 q_0 yr_11_4 (r_0_4 _) ?_
      refine G_geti (nx := 63) (k := 22) ⟨dX11_fewest_60, rfl⟩ fX11_182 q_22 yi_0_2 ?_
      refine G_iret ⟨dX11_fewest_63, rfl⟩ rfl ?_
      refine K_v (congrArg Value.int ?_) (hk c_6 I1 hs1)
      rw [f2]
      simp [c_24]
    · refine G_tabAt (v := 1) (tgt := 64) (nx := 56) ⟨dX11_fewest_24, rfl⟩ c_24 (by decide) (by decide) (off := 40) rfl rfl ?_
      refine G_aload_0 (nx := 65) ⟨dX11_fewest_64, rfl⟩ ?_
      refine G_getr (nx := 68) (k := 0) (r := 22) ⟨dX11_fewest_65, rfl⟩ fX11_34 q_0 yr_11_4 (r_0_4 _) ?_
      refine G_geti (nx := 71) (k := 22) ⟨dX11_fewest_68, rfl⟩ fX11_185 q_22 yi_0_3 ?_
      refine G_iret ⟨dX11_fewest_71, rfl⟩ rfl ?_
      refine K_v (congrArg Value.int ?_) (hk c_6 I1 hs1)
      rw [f3]
      simp [c_24, fx, mv]
    · refine G_tabAt (v := 2) (tgt := 72) (nx := 56) ⟨dX11_fewest_24, rfl⟩ c_24 (by decide) (by decide) (off := 48) rfl rfl ?_
      refine G_aload_0 (nx := 73) ⟨dX11_fewest_72, rfl⟩ ?_
      refine G_getr (nx := 76) (k := 0) (r := 22) ⟨dX11_fewest_73, rfl⟩ fX11_34 q_0 yr_11_4 (r_0_4 _) ?_
      refine G_geti (nx := 79) (k := 22) ⟨dX11_fewest_76, rfl⟩ fX11_188 q_22 yi_0_4 ?_
      refine G_iret ⟨dX11_fewest_79, rfl⟩ rfl ?_
      refine K_v (congrArg Value.int ?_) (hk c_6 I1 hs1)
      rw [f4]
      simp [c_24]
    · refine G_tabAt (v := 3) (tgt := 80) (nx := 56) ⟨dX11_fewest_24, rfl⟩ c_24 (by decide) (by decide) (off := 56) rfl rfl ?_
      refine G_aload_0 (nx := 81) ⟨dX11_fewest_80, rfl⟩ ?_
      refine G_getr (nx := 84) (k := 0) (r := 22) ⟨dX11_fewest_81, rfl⟩ fX11_34 q_0 yr_11_4 (r_0_4 _) ?_
      refine G_geti (nx := 87) (k := 22) ⟨dX11_fewest_84, rfl⟩ fX11_191 q_22 yi_0_5 ?_
      refine G_iret ⟨dX11_fewest_87, rfl⟩ rfl ?_
      refine K_v (congrArg Value.int ?_) (hk c_6 I1 hs1)
      rw [f5]
      simp [c_24]
    · refine G_tabOut (tgt := 88) (nx := 56) ⟨dX11_fewest_24, rfl⟩ c_24 rfl ?_
      refine G_aload_0 (nx := 89) ⟨dX11_fewest_88, rfl⟩ ?_
      refine G_getr (nx := 92) (k := 0) (r := 1) ⟨dX11_fewest_89, rfl⟩ fX11_10 q_0 yr_11_0 (r_0_0 _) ?_
      refine G_cv0 (nx := 95) ⟨dX11_fewest_92, rfl⟩ kX11_194 rfl q_1 rfl (Nat.le_of_ble_eq_true rfl) (Nat.le_of_ble_eq_true rfl) (cN_all nt1 hX1 ?_)
      refine G_aload_0 (nx := 96) ⟨dX11_fewest_95, rfl⟩ ?_
      refine G_getr (nx := 99) (k := 0) (r := 22) ⟨dX11_fewest_96, rfl⟩ fX11_34 q_0 yr_11_4 (r_0_4 _) ?_
      refine G_geti (nx := 102) (k := 22) ⟨dX11_fewest_99, rfl⟩ fX11_197 q_22 yi_0_6 ?_
      refine G_iconst (nx := 103) ⟨dX11_fewest_102, rfl⟩ ci_m1 ?_
      refine G_ixor (nx := 104) ⟨dX11_fewest_103, rfl⟩ ?_
      
      refine G_iand (nx := 105) ⟨dX11_fewest_104, rfl⟩ ?_
      rw [f6, nI_df _ (by omega)]
      refine G_iret ⟨dX11_fewest_105, rfl⟩ rfl ?_
      refine K_v (congrArg Value.int ?_) (hk c_6 I1 hs1)
      obtain ⟨n0, n1, n2, n3⟩ := sw_ne03 c_24
      rw [if_neg n0, if_neg n1, if_neg n2, if_neg n3]
  · refine G_bipush (nx := 11) ⟨dX11_fewest_9, rfl⟩ cb_m2 ?_
    refine G_iret ⟨dX11_fewest_11, rfl⟩ rfl ?_
    rw [bi_0] at c_6
    exact hk1 c_6

theorem cX_sized {q : Int32} (hX : XG I 1 4 n gr) (hk1 : inR q 0 12 = false → K (.int (-2)) I J (rX g)) (hk : inR q 0 12 = true → ∀ (I' : AI), sb fC I I' → K (.int (nI (szN n gr q))) I' J (rX g)) : G l (d + 40) mX11_sized K 0 [.ref 0, .int q] [] I J (rX g) := by
  refine G_iload_1 (nx := 1) ⟨dX11_sized_0, rfl⟩ ?_
  refine G_iconst (nx := 2) ⟨dX11_sized_1, rfl⟩ ci_0 ?_
  refine G_bipush (nx := 4) ⟨dX11_sized_2, rfl⟩ cb_12 ?_
  refine G_cs3 (nx := 7) ⟨dX11_sized_4, rfl⟩ kX11_126 rfl rfl (Nat.le_of_ble_eq_true rfl) (Nat.le_of_ble_eq_true rfl) (cX_within ?_)
  refine G_ifne (tgt := 13) (nx := 10) ⟨dX11_sized_7, rfl⟩ rfl (fun c_7 => ?_) (fun c_7 => ?_)
  · rw [bi_n0] at c_7
    have c7 := c_7
    obtain ⟨z, hz, ez⟩ := k_ex c_7
    subst ez
    refine G_aload_0 (nx := 14) ⟨dX11_sized_13, rfl⟩ ?_
    refine G_getr (nx := 17) (k := 0) (r := 22) ⟨dX11_sized_14, rfl⟩ fX11_34 q_0 yr_11_4 (r_0_4 _) ?_
    refine G_aload_0 (nx := 18) ⟨dX11_sized_17, rfl⟩ ?_
    refine G_getr (nx := 21) (k := 0) (r := 1) ⟨dX11_sized_18, rfl⟩ fX11_10 q_0 yr_11_0 (r_0_0 _) ?_
    refine G_iload_1 (nx := 22) ⟨dX11_sized_21, rfl⟩ ?_
    refine G_iconst (nx := 23) ⟨dX11_sized_22, rfl⟩ ci_0 ?_
    refine G_iconst (nx := 24) ⟨dX11_sized_23, rfl⟩ ci_0 ?_
    rw [← nI_0]
    refine G_cv4 (nx := 27) ⟨dX11_sized_24, rfl⟩ kX11_203 rfl q_22 rfl (Nat.le_of_ble_eq_true rfl) (Nat.le_of_ble_eq_true rfl) (cC_howManyOf (ins := 0) (out := 0) hX hz (by decide) (by decide) (fun I1 hs1 => ?_))
    refine G_iret ⟨dX11_sized_27, rfl⟩ rfl ?_
    have e : szN n gr (nI z) = peN n gr z 0 0 := by
      unfold szN peN
      have : szF n gr (nI z) = peF n gr z 0 0 := by
        funext s a
        unfold szF peF
        congr 1
        have h1 := pc_le s
        by_cases c : pc s = z ∧ covB n gr s = true
        · rw [if_pos ⟨by rw [c.1], c.2⟩, if_pos ⟨c.1, Nat.and_zero s, by unfold df; simp, c.2⟩]
        · rw [if_neg (fun h => c ⟨nI_inj (by omega) (by omega) h.1, h.2⟩), if_neg (fun h => c ⟨h.1, h.2.2.2⟩)]
      rw [this]
    have fin := hk c7 I1 hs1
    rw [e] at fin
    exact fin
  · refine G_bipush (nx := 12) ⟨dX11_sized_10, rfl⟩ cb_m2 ?_
    refine G_iret ⟨dX11_sized_12, rfl⟩ rfl ?_
    rw [bi_0] at c_7
    exact hk1 c_7

end X87
