
section X96
variable {l : Launch} {d : Nat} {K : AK} {I : AI} {J : AJ} {g : Bool} {n : Nat} {gr : Nat → Nat}

theorem cX_count {q : Int32} {o a b c e f j1 j2 j3 : Nat} (hg : rX g 0 12 = some o) (hT : TT o a b c e f j1 j2 j3) (hX : XG I 1 4 n gr) (hk : K (.int (if q = 0 then nI n else if q = 1 then nI (lnN n gr) else if q = 2 then nI (loN n gr) else if q = 3 then I 42 3 else if q = 4 then I 0 14 else if q = 5 then I o 8 else -2)) I J (rX g)) : G l (d + 40) mX11_count K 0 [.ref 0, .int q] [] I J (rX g) := by
  refine G_iload_1 (nx := 1) ⟨dX11_count_0, rfl⟩ ?_
  rcases sw_0_5 _ with c_1 | c_1 | c_1 | c_1 | c_1 | c_1 | c_1
  · refine G_tabAt (v := 0) (tgt := 40) (nx := 40) ⟨dX11_count_1, rfl⟩ c_1 (by decide) (by decide) (off := 39) rfl rfl ?_
    refine G_aload_0 (nx := 41) ⟨dX11_count_40, rfl⟩ ?_
    refine G_getr (nx := 44) (k := 0) (r := 1) ⟨dX11_count_41, rfl⟩ fX11_10 q_0 yr_11_0 (r_0_0 _) ?_
    refine G_geti (nx := 47) (k := 1) ⟨dX11_count_44, rfl⟩ fX11_115 q_1 yi_4_4 ?_
    rw [hX.1]
    refine G_iret ⟨dX11_count_47, rfl⟩ rfl ?_
    refine K_v (congrArg Value.int ?_) hk
    simp [c_1]
  · refine G_tabAt (v := 1) (tgt := 48) (nx := 40) ⟨dX11_count_1, rfl⟩ c_1 (by decide) (by decide) (off := 47) rfl rfl ?_
    refine G_aload_0 (nx := 49) ⟨dX11_count_48, rfl⟩ ?_
    refine G_getr (nx := 52) (k := 0) (r := 1) ⟨dX11_count_49, rfl⟩ fX11_10 q_0 yr_11_0 (r_0_0 _) ?_
    refine G_cv0 (nx := 55) ⟨dX11_count_52, rfl⟩ kX11_157 rfl q_1 rfl (Nat.le_of_ble_eq_true rfl) (Nat.le_of_ble_eq_true rfl) (cN_lines nt1 hX ?_)
    refine G_iret ⟨dX11_count_55, rfl⟩ rfl ?_
    refine K_v (congrArg Value.int ?_) hk
    simp [c_1]
  · refine G_tabAt (v := 2) (tgt := 56) (nx := 40) ⟨dX11_count_1, rfl⟩ c_1 (by decide) (by decide) (off := 55) rfl rfl ?_
    refine G_aload_0 (nx := 57) ⟨dX11_count_56, rfl⟩ ?_
    refine G_getr (nx := 60) (k := 0) (r := 1) ⟨dX11_count_57, rfl⟩ fX11_10 q_0 yr_11_0 (r_0_0 _) ?_
    refine G_cv0 (nx := 63) ⟨dX11_count_60, rfl⟩ kX11_161 rfl q_1 rfl (Nat.le_of_ble_eq_true rfl) (Nat.le_of_ble_eq_true rfl) (cN_lonely nt1 hX ?_)
    refine G_iret ⟨dX11_count_63, rfl⟩ rfl ?_
    refine K_v (congrArg Value.int ?_) hk
    simp [c_1]
  · refine G_tabAt (v := 3) (tgt := 64) (nx := 40) ⟨dX11_count_1, rfl⟩ c_1 (by decide) (by decide) (off := 63) rfl rfl ?_
    refine G_aload_0 (nx := 65) ⟨dX11_count_64, rfl⟩ ?_
    refine G_getr (nx := 68) (k := 0) (r := 42) ⟨dX11_count_65, rfl⟩ fX11_69 q_0 yr_11_9 (r_0_9 _) ?_
    refine G_geti (nx := 71) (k := 42) ⟨dX11_count_68, rfl⟩ fX11_164 q_42 yi_9_3 ?_
    refine G_iret ⟨dX11_count_71, rfl⟩ rfl ?_
    refine K_v (congrArg Value.int ?_) hk
    simp [c_1]
  · refine G_tabAt (v := 4) (tgt := 72) (nx := 40) ⟨dX11_count_1, rfl⟩ c_1 (by decide) (by decide) (off := 71) rfl rfl ?_
    refine G_aload_0 (nx := 73) ⟨dX11_count_72, rfl⟩ ?_
    refine G_geti (nx := 76) (k := 0) ⟨dX11_count_73, rfl⟩ fX11_97 q_0 yi_11_14 ?_
    refine G_iret ⟨dX11_count_76, rfl⟩ rfl ?_
    refine K_v (congrArg Value.int ?_) hk
    simp [c_1]
  · refine G_tabAt (v := 5) (tgt := 77) (nx := 40) ⟨dX11_count_1, rfl⟩ c_1 (by decide) (by decide) (off := 76) rfl rfl ?_
    refine G_aload_0 (nx := 78) ⟨dX11_count_77, rfl⟩ ?_
    refine G_getr (nx := 81) (k := 0) (r := o) ⟨dX11_count_78, rfl⟩ fX11_90 q_0 yr_11_12 hg ?_
    refine G_geti (nx := 84) (k := o) ⟨dX11_count_81, rfl⟩ fX11_165 hT.1 yi_10_8 ?_
    refine G_iret ⟨dX11_count_84, rfl⟩ rfl ?_
    refine K_v (congrArg Value.int ?_) hk
    simp [c_1]
  · refine G_tabOut (tgt := 85) (nx := 40) ⟨dX11_count_1, rfl⟩ c_1 rfl ?_
    refine G_bipush (nx := 87) ⟨dX11_count_85, rfl⟩ cb_m2 ?_
    refine G_iret ⟨dX11_count_87, rfl⟩ rfl ?_
    refine K_v (congrArg Value.int ?_) hk
    obtain ⟨n0, n1, n2, n3, n4, n5⟩ := sw_ne05 c_1
    rw [if_neg n0, if_neg n1, if_neg n2, if_neg n3, if_neg n4, if_neg n5]

theorem cX_tree {q : Int32} {m : Nat} {o a b c e f j1 j2 j3 : Nat} (hg : rX g 0 12 = some o) (hT : TT o a b c e f j1 j2 j3) (hM : XT I o m) (hP : TP (I c) m) (hk1 : inR q 0 5 = false → K (.long (-2)) I J (rX g)) (hk2 : inR q 0 5 = true → m = 0 → K (.long (-1)) I J (rX g)) (hk5 : ∀ (J' : AJ), 0 < m → q = 5 → K (.long ((tpu (I c) cbX (m - 1) bnI 0).1 + (tpu (I c) cbX (m - 1) bnI 0).2.1 - (tpu (I c) cbX (m - 1) bnI 0).2.2)) I J' (rX g)) (hkL : ∀ (I' : AI) (J' : AJ) (by0 : Int32), 0 < m → (q = 0 ∧ by0 = 1) ∨ (q = 3 ∧ by0 = 2) → sb (fEF e f) I I' → K (.long (mnI ((tpu (I c) cb32 (m - 1) (in32 I a b c m by0)) 0).1 ((tpu (I c) cb32 (m - 1) (in32 I a b c m by0)) 0).2.1).toInt64) I' J' (rX g)) (hkH : ∀ (I' : AI) (J' : AJ) (by0 : Int32), 0 < m → (q = 1 ∧ by0 = 0) ∨ (q = 2 ∧ by0 = 1) ∨ (q = 4 ∧ by0 = 2) → sb (fEF e f) I I' → K (.long (moF ((tpu (I c) cb32 (m - 1) (in32 I a b c m by0)) 0) (mnI ((tpu (I c) cb32 (m - 1) (in32 I a b c m by0)) 0).1 ((tpu (I c) cb32 (m - 1) (in32 I a b c m by0)) 0).2.1))) I' J' (rX g)) : G l (d + 40) mX11_tree K 0 [.ref 0, .int q] [] I J (rX g) := by
  refine G_iload_1 (nx := 1) ⟨dX11_tree_0, rfl⟩ ?_
  refine G_iconst (nx := 2) ⟨dX11_tree_1, rfl⟩ ci_0 ?_
  refine G_iconst (nx := 3) ⟨dX11_tree_2, rfl⟩ ci_5 ?_
  refine G_cs3 (nx := 6) ⟨dX11_tree_3, rfl⟩ kX11_126 rfl rfl (Nat.le_of_ble_eq_true rfl) (Nat.le_of_ble_eq_true rfl) (cX_within ?_)
  refine G_ifne (tgt := 13) (nx := 9) ⟨dX11_tree_6, rfl⟩ rfl (fun c_6 => ?_) (fun c_6 => ?_)
  · rw [bi_n0] at c_6
    have hm60 := hM.2
    refine G_aload_0 (nx := 14) ⟨dX11_tree_13, rfl⟩ ?_
    refine G_getr (nx := 17) (k := 0) (r := o) ⟨dX11_tree_14, rfl⟩ fX11_90 q_0 yr_11_12 hg ?_
    refine G_geti (nx := 20) (k := o) ⟨dX11_tree_17, rfl⟩ fX11_165 hT.1 yi_10_8 ?_
    rw [hM.1]
    refine G_ifne (tgt := 27) (nx := 23) ⟨dX11_tree_20, rfl⟩ rfl (fun c_20 => ?_) (fun c_20 => ?_)
    · have hm0 : 0 < m := by
        rcases Nat.eq_zero_or_pos m with q0 | q0
        · exact absurd ((nI_0iff (by omega)).mpr q0) c_20
        · exact q0
      refine G_iload_1 (nx := 28) ⟨dX11_tree_27, rfl⟩ ?_
      rcases sw_0_4 _ with c_28 | c_28 | c_28 | c_28 | c_28 | c_28
      · refine G_tabAt (v := 0) (tgt := 64) (nx := 64) ⟨dX11_tree_28, rfl⟩ c_28 (by decide) (by decide) (off := 36) rfl rfl ?_
        refine G_aload_0 (nx := 65) ⟨dX11_tree_64, rfl⟩ ?_
        refine G_getr (nx := 68) (k := 0) (r := o) ⟨dX11_tree_65, rfl⟩ fX11_90 q_0 yr_11_12 hg ?_
        refine G_iconst (nx := 69) ⟨dX11_tree_68, rfl⟩ ci_1 ?_
        refine G_cv1 (nx := 72) ⟨dX11_tree_69, rfl⟩ kX11_397 rfl hT.1 rfl (Nat.le_of_ble_eq_true rfl) (Nat.le_of_ble_eq_true rfl) (cT_leastSum hT hM hP hm0 (fun I1 J1 hs1 => ?_))
        refine G_i2l (nx := 73) ⟨dX11_tree_72, rfl⟩ ?_
        refine G_lret ⟨dX11_tree_73, rfl⟩ rfl ?_
        exact hkL I1 J1 _ hm0 (by simp [c_28]) hs1
      · refine G_tabAt (v := 1) (tgt := 74) (nx := 64) ⟨dX11_tree_28, rfl⟩ c_28 (by decide) (by decide) (off := 46) rfl rfl ?_
        refine G_aload_0 (nx := 75) ⟨dX11_tree_74, rfl⟩ ?_
        refine G_getr (nx := 78) (k := 0) (r := o) ⟨dX11_tree_75, rfl⟩ fX11_90 q_0 yr_11_12 hg ?_
        refine G_iconst (nx := 79) ⟨dX11_tree_78, rfl⟩ ci_0 ?_
        refine G_cv1 (nx := 82) ⟨dX11_tree_79, rfl⟩ kX11_400 rfl hT.1 rfl (Nat.le_of_ble_eq_true rfl) (Nat.le_of_ble_eq_true rfl) (cT_howMany hT hM hP hm0 (fun I1 J1 hs1 => ?_))
        refine G_lret ⟨dX11_tree_82, rfl⟩ rfl ?_
        exact hkH I1 J1 _ hm0 (by simp [c_28]) hs1
      · refine G_tabAt (v := 2) (tgt := 83) (nx := 64) ⟨dX11_tree_28, rfl⟩ c_28 (by decide) (by decide) (off := 55) rfl rfl ?_
        refine G_aload_0 (nx := 84) ⟨dX11_tree_83, rfl⟩ ?_
        refine G_getr (nx := 87) (k := 0) (r := o) ⟨dX11_tree_84, rfl⟩ fX11_90 q_0 yr_11_12 hg ?_
        refine G_iconst (nx := 88) ⟨dX11_tree_87, rfl⟩ ci_1 ?_
        refine G_cv1 (nx := 91) ⟨dX11_tree_88, rfl⟩ kX11_400 rfl hT.1 rfl (Nat.le_of_ble_eq_true rfl) (Nat.le_of_ble_eq_true rfl) (cT_howMany hT hM hP hm0 (fun I1 J1 hs1 => ?_))
        refine G_lret ⟨dX11_tree_91, rfl⟩ rfl ?_
        exact hkH I1 J1 _ hm0 (by simp [c_28]) hs1
      · refine G_tabAt (v := 3) (tgt := 92) (nx := 64) ⟨dX11_tree_28, rfl⟩ c_28 (by decide) (by decide) (off := 64) rfl rfl ?_
        refine G_aload_0 (nx := 93) ⟨dX11_tree_92, rfl⟩ ?_
        refine G_getr (nx := 96) (k := 0) (r := o) ⟨dX11_tree_93, rfl⟩ fX11_90 q_0 yr_11_12 hg ?_
        refine G_iconst (nx := 97) ⟨dX11_tree_96, rfl⟩ ci_2 ?_
        refine G_cv1 (nx := 100) ⟨dX11_tree_97, rfl⟩ kX11_397 rfl hT.1 rfl (Nat.le_of_ble_eq_true rfl) (Nat.le_of_ble_eq_true rfl) (cT_leastSum hT hM hP hm0 (fun I1 J1 hs1 => ?_))
        refine G_i2l (nx := 101) ⟨dX11_tree_100, rfl⟩ ?_
        refine G_lret ⟨dX11_tree_101, rfl⟩ rfl ?_
        exact hkL I1 J1 _ hm0 (by simp [c_28]) hs1
      · refine G_tabAt (v := 4) (tgt := 102) (nx := 64) ⟨dX11_tree_28, rfl⟩ c_28 (by decide) (by decide) (off := 74) rfl rfl ?_
        refine G_aload_0 (nx := 103) ⟨dX11_tree_102, rfl⟩ ?_
        refine G_getr (nx := 106) (k := 0) (r := o) ⟨dX11_tree_103, rfl⟩ fX11_90 q_0 yr_11_12 hg ?_
        refine G_iconst (nx := 107) ⟨dX11_tree_106, rfl⟩ ci_2 ?_
        refine G_cv1 (nx := 110) ⟨dX11_tree_107, rfl⟩ kX11_400 rfl hT.1 rfl (Nat.le_of_ble_eq_true rfl) (Nat.le_of_ble_eq_true rfl) (cT_howMany hT hM hP hm0 (fun I1 J1 hs1 => ?_))
        refine G_lret ⟨dX11_tree_110, rfl⟩ rfl ?_
        exact hkH I1 J1 _ hm0 (by simp [c_28]) hs1
      · refine G_tabOut (tgt := 111) (nx := 64) ⟨dX11_tree_28, rfl⟩ c_28 rfl ?_
        refine G_aload_0 (nx := 112) ⟨dX11_tree_111, rfl⟩ ?_
        refine G_getr (nx := 115) (k := 0) (r := o) ⟨dX11_tree_112, rfl⟩ fX11_90 q_0 yr_11_12 hg ?_
        refine G_cv0 (nx := 118) ⟨dX11_tree_115, rfl⟩ kX11_404 rfl hT.1 rfl (Nat.le_of_ble_eq_true rfl) (Nat.le_of_ble_eq_true rfl) (cT_bare hT hM hP hm0 (fun J1 => ?_))
        refine G_lret ⟨dX11_tree_118, rfl⟩ rfl ?_
        refine hk5 J1 hm0 ?_
        obtain ⟨n0, n1, n2, n3, n4⟩ := sw_ne04 c_28
        rcases inR05 c_6 with e | e | e | e | e | e
        · exact absurd e n0
        · exact absurd e n1
        · exact absurd e n2
        · exact absurd e n3
        · exact absurd e n4
        · exact e
    · refine G_ldc2 (nx := 26) ⟨dX11_tree_23, rfl⟩ nX11_395 ?_
      refine G_lret ⟨dX11_tree_26, rfl⟩ rfl ?_
      exact hk2 c_6 ((nI_0iff (by omega)).mp c_20)
  · refine G_ldc2 (nx := 12) ⟨dX11_tree_9, rfl⟩ nX11_210 ?_
    refine G_lret ⟨dX11_tree_12, rfl⟩ rfl ?_
    rw [bi_0] at c_6
    exact hk1 c_6

end X96
