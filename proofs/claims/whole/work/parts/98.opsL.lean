
section X98
variable {l : Launch} {d : Nat} {K : AK} {I : AI} {J : AJ} {g : Bool} {n : Nat} {gr : Nat → Nat}

theorem cX_copy {s i o j v : Int32} (hsz : SZc I) (hk1 : (inR s 0 3 && inR o 0 3) = false → K (.int (-2)) I J (rX g))
    (hk2 : ∀ s0 o0, s = nI s0 → s0 < 4 → o = nI o0 → o0 < 4 → (I 47 s0 = -1 ∨ I 47 o0 = -1) → K (.int (-11)) I J (rX g))
    (hk3 : ∀ s0 o0, s = nI s0 → s0 < 4 → o = nI o0 → o0 < 4 → ¬ I 47 s0 = -1 → ¬ I 47 o0 = -1 → ¬ I 47 s0 = I 47 o0 → K (.int (-13)) I J (rX g))
    (hk4 : ∀ s0 o0 z y, s = nI s0 → s0 < 4 → o = nI o0 → o0 < 4 → ¬ I 47 s0 = -1 → ¬ I 47 o0 = -1 → I 47 s0 = I 47 o0 → I 48 s0 = nI z → z ≤ 60 → I 48 o0 = nI y → y ≤ 60 → ¬ (0 ≤ v.toInt ∧ 0 ≤ i.toInt ∧ 0 ≤ j.toInt ∧ i.toInt + v.toInt ≤ z ∧ j.toInt + v.toInt ≤ y) → K (.int (-12)) I J (rX g))
    (hk : ∀ s0 o0 z y i0 j0 N, s = nI s0 → s0 < 4 → o = nI o0 → o0 < 4 → ¬ I 47 s0 = -1 → ¬ I 47 o0 = -1 → I 47 s0 = I 47 o0 → I 48 s0 = nI z → z ≤ 60 → I 48 o0 = nI y → y ≤ 60 → i = nI i0 → j = nI j0 → v = nI N → i0 + N ≤ z → j0 + N ≤ y → K (.int (nI N)) (wr I (49 + o0) (va_cpy (I (49 + s0)) (I (49 + o0)) i0 j0 N)) J (rX g)) : G l (d + 40) mX11_copy K 0 [.ref 0, .int s, .int i, .int o, .int j, .int v] [] I J (rX g) := by
  refine G_aload_0 (nx := 1) ⟨dX11_copy_0, rfl⟩ ?_
  refine G_getr (nx := 4) (k := 0) (r := 45) ⟨dX11_copy_1, rfl⟩ fX11_76 q_0 yr_11_10 (r_0_10 _) ?_
  refine G_iload_1 (nx := 5) ⟨dX11_copy_4, rfl⟩ ?_
  refine G_cv1 (nx := 8) ⟨dX11_copy_5, rfl⟩ kX11_302 rfl q_45 rfl (Nat.le_of_ble_eq_true rfl) (Nat.le_of_ble_eq_true rfl) (cS_has ?_)
  refine G_ifeq (tgt := 22) (nx := 11) ⟨dX11_copy_8, rfl⟩ rfl (fun c_8 => ?_) (fun c_8 => ?_)
  · refine G_bipush (nx := 24) ⟨dX11_copy_22, rfl⟩ cb_m2 ?_
    refine G_iret ⟨dX11_copy_24, rfl⟩ rfl ?_
    rw [bi_0] at c_8
    exact hk1 (by rw [c_8]; simp)
  · rw [bi_n0] at c_8
    obtain ⟨s0, hs0, es⟩ := s_ex c_8
    subst es
    have hin4 := in4 hs0
    have ecs := cl_nI (p := s0) (by omega)
    obtain ⟨z, hz60, hz⟩ := hsz s0 hs0
    refine G_aload_0 (nx := 12) ⟨dX11_copy_11, rfl⟩ ?_
    refine G_getr (nx := 15) (k := 0) (r := 45) ⟨dX11_copy_12, rfl⟩ fX11_76 q_0 yr_11_10 (r_0_10 _) ?_
    refine G_iload_3 (nx := 16) ⟨dX11_copy_15, rfl⟩ ?_
    refine G_cv1 (nx := 19) ⟨dX11_copy_16, rfl⟩ kX11_302 rfl q_45 rfl (Nat.le_of_ble_eq_true rfl) (Nat.le_of_ble_eq_true rfl) (cS_has ?_)
    refine G_ifne (tgt := 25) (nx := 22) ⟨dX11_copy_19, rfl⟩ rfl (fun c_19 => ?_) (fun c_19 => ?_)
    · rw [bi_n0] at c_19
      obtain ⟨o0, ho0, eo⟩ := s_ex c_19
      subst eo
      have hio4 := in4 ho0
      have eco := cl_nI (p := o0) (by omega)
      obtain ⟨y, hy60, hy⟩ := hsz o0 ho0
      refine G_aload_0 (nx := 26) ⟨dX11_copy_25, rfl⟩ ?_
      refine G_getr (nx := 29) (k := 0) (r := 45) ⟨dX11_copy_26, rfl⟩ fX11_76 q_0 yr_11_10 (r_0_10 _) ?_
      refine G_iload_1 (nx := 30) ⟨dX11_copy_29, rfl⟩ ?_
      refine G_cv1 (nx := 33) ⟨dX11_copy_30, rfl⟩ kX11_303 rfl q_45 rfl (Nat.le_of_ble_eq_true rfl) (Nat.le_of_ble_eq_true rfl) (cS_miss hs0 ?_)
      refine G_ifne (tgt := 47) (nx := 36) ⟨dX11_copy_33, rfl⟩ rfl (fun c_33 => ?_) (fun c_33 => ?_)
      · refine G_bipush (nx := 49) ⟨dX11_copy_47, rfl⟩ cb_m11 ?_
        refine G_iret ⟨dX11_copy_49, rfl⟩ rfl ?_
        rw [bi_n0, decide_eq_true_eq] at c_33
        exact hk2 s0 o0 rfl hs0 rfl ho0 (Or.inl c_33)
      · rw [bi_0, decide_eq_false_iff_not] at c_33
        refine G_aload_0 (nx := 37) ⟨dX11_copy_36, rfl⟩ ?_
        refine G_getr (nx := 40) (k := 0) (r := 45) ⟨dX11_copy_37, rfl⟩ fX11_76 q_0 yr_11_10 (r_0_10 _) ?_
        refine G_iload_3 (nx := 41) ⟨dX11_copy_40, rfl⟩ ?_
        refine G_cv1 (nx := 44) ⟨dX11_copy_41, rfl⟩ kX11_303 rfl q_45 rfl (Nat.le_of_ble_eq_true rfl) (Nat.le_of_ble_eq_true rfl) (cS_miss ho0 ?_)
        refine G_ifeq (tgt := 50) (nx := 47) ⟨dX11_copy_44, rfl⟩ rfl (fun c_44 => ?_) (fun c_44 => ?_)
        · rw [bi_0, decide_eq_false_iff_not] at c_44
          refine G_aload_0 (nx := 51) ⟨dX11_copy_50, rfl⟩ ?_
          refine G_getr (nx := 54) (k := 0) (r := 45) ⟨dX11_copy_51, rfl⟩ fX11_76 q_0 yr_11_10 (r_0_10 _) ?_
          refine G_getr (nx := 57) (k := 45) (r := 47) ⟨dX11_copy_54, rfl⟩ fX11_431 q_45 yr_7_1 (r_45_1 _) ?_
          refine G_iload_1 (nx := 58) ⟨dX11_copy_57, rfl⟩ ?_
          refine G_iald (nx := 59) (k := 47) ⟨dX11_copy_58, rfl⟩ q_47 (by first | assumption | decide | (unfold vp_in; decide)) ?_
          rw [ecs]
          refine G_aload_0 (nx := 60) ⟨dX11_copy_59, rfl⟩ ?_
          refine G_getr (nx := 63) (k := 0) (r := 45) ⟨dX11_copy_60, rfl⟩ fX11_76 q_0 yr_11_10 (r_0_10 _) ?_
          refine G_getr (nx := 66) (k := 45) (r := 47) ⟨dX11_copy_63, rfl⟩ fX11_431 q_45 yr_7_1 (r_45_1 _) ?_
          refine G_iload_3 (nx := 67) ⟨dX11_copy_66, rfl⟩ ?_
          refine G_iald (nx := 68) (k := 47) ⟨dX11_copy_67, rfl⟩ q_47 (by first | assumption | decide | (unfold vp_in; decide)) ?_
          rw [eco]
          refine G_icmpeq (tgt := 74) (nx := 71) ⟨dX11_copy_68, rfl⟩ rfl (fun c_68 => ?_) (fun c_68 => ?_)
          · refine G_aload_0 (nx := 75) ⟨dX11_copy_74, rfl⟩ ?_
            refine G_getr (nx := 78) (k := 0) (r := 45) ⟨dX11_copy_75, rfl⟩ fX11_76 q_0 yr_11_10 (r_0_10 _) ?_
            refine G_iload_1 (nx := 79) ⟨dX11_copy_78, rfl⟩ ?_
            refine G_iload_2 (nx := 80) ⟨dX11_copy_79, rfl⟩ ?_
            refine G_iload_5 (nx := 82) ⟨dX11_copy_80, rfl⟩ ?_
            refine G_cv3 (nx := 85) ⟨dX11_copy_82, rfl⟩ kX11_434 rfl q_45 rfl (Nat.le_of_ble_eq_true rfl) (Nat.le_of_ble_eq_true rfl) (cS_range hs0 hz60 hz ?_)
            refine G_ifeq (tgt := 103) (nx := 88) ⟨dX11_copy_85, rfl⟩ rfl (fun c_85 => ?_) (fun c_85 => ?_)
            · refine G_bipush (nx := 105) ⟨dX11_copy_103, rfl⟩ cb_m12 ?_
              refine G_iret ⟨dX11_copy_105, rfl⟩ rfl ?_
              rw [bi_0, decide_eq_false_iff_not] at c_85
              exact hk4 s0 o0 z y rfl hs0 rfl ho0 c_33 c_44 c_68 hz hz60 hy hy60 (fun q => c_85 (by omega))
            · rw [bi_n0, decide_eq_true_eq] at c_85
              refine G_aload_0 (nx := 89) ⟨dX11_copy_88, rfl⟩ ?_
              refine G_getr (nx := 92) (k := 0) (r := 45) ⟨dX11_copy_89, rfl⟩ fX11_76 q_0 yr_11_10 (r_0_10 _) ?_
              refine G_iload_3 (nx := 93) ⟨dX11_copy_92, rfl⟩ ?_
              refine G_iload_4 (nx := 95) ⟨dX11_copy_93, rfl⟩ ?_
              refine G_iload_5 (nx := 97) ⟨dX11_copy_95, rfl⟩ ?_
              refine G_cv3 (nx := 100) ⟨dX11_copy_97, rfl⟩ kX11_434 rfl q_45 rfl (Nat.le_of_ble_eq_true rfl) (Nat.le_of_ble_eq_true rfl) (cS_range ho0 hy60 hy ?_)
              refine G_ifne (tgt := 106) (nx := 103) ⟨dX11_copy_100, rfl⟩ rfl (fun c_100 => ?_) (fun c_100 => ?_)
              · rw [bi_n0, decide_eq_true_eq] at c_100
                have hn1 : ¬ i < 0 := by rw [i32_lt, toInt_0]; omega
                have hn2 : ¬ j < 0 := by rw [i32_lt, toInt_0]; omega
                have hn3 : ¬ v < 0 := by rw [i32_lt, toInt_0]; omega
                obtain ⟨i0, hi0, ei⟩ := i32_nat hn1
                obtain ⟨j0, hj0, ej⟩ := i32_nat hn2
                obtain ⟨N, hN0, eN⟩ := i32_nat hn3
                subst ei
                subst ej
                subst eN
                rw [nI_toInt hi0, nI_toInt hN0] at c_85
                rw [nI_toInt hj0, nI_toInt hN0] at c_100
                refine G_aload_0 (nx := 107) ⟨dX11_copy_106, rfl⟩ ?_
                refine G_getr (nx := 110) (k := 0) (r := 45) ⟨dX11_copy_107, rfl⟩ fX11_76 q_0 yr_11_10 (r_0_10 _) ?_
                refine G_getr (nx := 113) (k := 45) (r := 46) ⟨dX11_copy_110, rfl⟩ fX11_309 q_45 yr_7_0 (r_45_0 _) ?_
                refine G_iload_1 (nx := 114) ⟨dX11_copy_113, rfl⟩ ?_
                refine G_aald (nx := 115) (k := 46) (r := (49 + s0)) ⟨dX11_copy_114, rfl⟩ q_46 (by first | assumption | decide | (unfold vp_in; decide)) (rrow hs0 _) ?_
                refine G_iload_2 (nx := 116) ⟨dX11_copy_115, rfl⟩ ?_
                refine G_aload_0 (nx := 117) ⟨dX11_copy_116, rfl⟩ ?_
                refine G_getr (nx := 120) (k := 0) (r := 45) ⟨dX11_copy_117, rfl⟩ fX11_76 q_0 yr_11_10 (r_0_10 _) ?_
                refine G_getr (nx := 123) (k := 45) (r := 46) ⟨dX11_copy_120, rfl⟩ fX11_309 q_45 yr_7_0 (r_45_0 _) ?_
                refine G_iload_3 (nx := 124) ⟨dX11_copy_123, rfl⟩ ?_
                refine G_aald (nx := 125) (k := 46) (r := (49 + o0)) ⟨dX11_copy_124, rfl⟩ q_46 (by first | assumption | decide | (unfold vp_in; decide)) (rrow ho0 _) ?_
                refine G_iload_4 (nx := 127) ⟨dX11_copy_125, rfl⟩ ?_
                refine G_iload_5 (nx := 129) ⟨dX11_copy_127, rfl⟩ ?_
                refine G_acopy (nx := 132) ⟨dX11_copy_129, rfl⟩ kX11_437 (Nat.le_of_ble_eq_true rfl) (qrow hs0) (qrow ho0) hn1 hn2 hn3 (by rw [cl_nI (by omega), cl_nI (by omega)]; omega) (by rw [cl_nI (by omega), cl_nI (by omega)]; omega) ?_
                refine G_iload_5 (nx := 134) ⟨dX11_copy_132, rfl⟩ ?_
                refine G_iret ⟨dX11_copy_134, rfl⟩ rfl ?_
                rw [cl_nI (by omega), cl_nI (by omega), cl_nI (by omega)]
                exact hk s0 o0 z y i0 j0 N rfl hs0 rfl ho0 c_33 c_44 c_68 hz hz60 hy hy60 rfl rfl rfl (by omega) (by omega)
              · refine G_bipush (nx := 105) ⟨dX11_copy_103, rfl⟩ cb_m12 ?_
                refine G_iret ⟨dX11_copy_105, rfl⟩ rfl ?_
                rw [bi_0, decide_eq_false_iff_not] at c_100
                exact hk4 s0 o0 z y rfl hs0 rfl ho0 c_33 c_44 c_68 hz hz60 hy hy60 (fun q => c_100 (by omega))
          · refine G_bipush (nx := 73) ⟨dX11_copy_71, rfl⟩ cb_m13 ?_
            refine G_iret ⟨dX11_copy_73, rfl⟩ rfl ?_
            exact hk3 s0 o0 rfl hs0 rfl ho0 c_33 c_44 c_68
        · refine G_bipush (nx := 49) ⟨dX11_copy_47, rfl⟩ cb_m11 ?_
          refine G_iret ⟨dX11_copy_49, rfl⟩ rfl ?_
          rw [bi_n0, decide_eq_true_eq] at c_44
          exact hk2 s0 o0 rfl hs0 rfl ho0 (Or.inr c_44)
    · refine G_bipush (nx := 24) ⟨dX11_copy_22, rfl⟩ cb_m2 ?_
      refine G_iret ⟨dX11_copy_24, rfl⟩ rfl ?_
      rw [bi_0] at c_19
      exact hk1 (by rw [c_19]; simp)

end X98
