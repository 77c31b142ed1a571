
theorem ptB_iff {n i : Nat} (hi : i < 2 ^ 31) : ptB n (nI i) = true ↔ i < n := by
  unfold ptB
  rw [decide_eq_true_eq, nI_toInt hi]
  omega
section X95
variable {l : Launch} {d : Nat} {K : AK} {I : AI} {J : AJ} {g : Bool} {n : Nat} {gr : Nat → Nat}

theorem lX_load {s0 z r : Nat} {row : Nat → Int32} (hs0 : s0 < 4) (hz60 : z ≤ 60) (hn : n ≤ 12) (hk : ∀ (I' : AI), (∀ j, I' 3 j = if j < r then row j else I 3 j) → sb (fE 3) I I' → K (.int (nI r)) I' J (rX g)) : ∀ (k i : Nat) (I1 : AI) (x4 : Value), notL x4 = true → min z n - i = k → i ≤ min z n → rn row (min z n) 1 9 k i = r → (∀ j, I1 3 j = if j < i then row j else I 3 j) → XG I1 1 4 n gr → I1 48 s0 = nI z → (∀ j, j < 60 → I1 (49 + s0) j = row j) → sb (fE 3) I I1 → G l (d + 40) mX11_load K 32 [.ref 0, .int (nI s0), .int (nI i), .int (nI i), x4] [] I1 J (rX g) := by
  intro k
  induction k using Nat.strongRecOn with
  | _ k ih =>
  intro i I1 x4 hx4 hik hi hr hw hX hz hrow hs1
  have hin4 := in4 hs0
  have ecs := cl_nI (p := s0) (by omega)
  have hend : min z n ≤ i → r = i := fun h => by
    have : k = 0 := by omega
    subst this
    rw [rn] at hr; exact hr.symm
  have hbad : i < min z n → inR (row i) 1 9 = false → r = i := fun h1 h2 => by
    obtain ⟨k1, ek1⟩ : ∃ k1, k = k1 + 1 := ⟨k - 1, by omega⟩
    rw [ek1, rn, h2, Bool.and_false, if_neg (by decide)] at hr
    exact hr.symm
  refine G_iload_3 (nx := 33) ⟨dX11_load_32, rfl⟩ ?_
  refine G_aload_0 (nx := 34) ⟨dX11_load_33, rfl⟩ ?_
  refine G_getr (nx := 37) (k := 0) (r := 45) ⟨dX11_load_34, rfl⟩ fX11_76 q_0 yr_11_10 (r_0_10 _) ?_
  refine G_getr (nx := 40) (k := 45) (r := 48) ⟨dX11_load_37, rfl⟩ fX11_306 q_45 yr_7_2 (r_45_2 _) ?_
  refine G_iload_1 (nx := 41) ⟨dX11_load_40, rfl⟩ ?_
  refine G_iald (nx := 42) (k := 48) ⟨dX11_load_41, rfl⟩ q_48 (by first | assumption | decide | (unfold vp_in; decide)) ?_
  rw [ecs, hz]
  refine G_icmpge (tgt := 100) (nx := 45) ⟨dX11_load_42, rfl⟩ rfl (fun c_42 => ?_) (fun c_42 => ?_)
  · refine G_iload_2 (nx := 101) ⟨dX11_load_100, rfl⟩ ?_
    refine G_iret ⟨dX11_load_101, rfl⟩ rfl ?_
    rw [nI_le_iff (by omega) (by omega)] at c_42
    have e : r = i := hend (by omega)
    subst e
    exact hk I1 hw hs1
  · rw [nI_le_iff (by omega) (by omega)] at c_42
    have hi60 := in60 (show i < 60 by omega)
    have eci := cl_nI (p := i) (by omega)
    refine G_aload_0 (nx := 46) ⟨dX11_load_45, rfl⟩ ?_
    refine G_getr (nx := 49) (k := 0) (r := 45) ⟨dX11_load_46, rfl⟩ fX11_76 q_0 yr_11_10 (r_0_10 _) ?_
    refine G_getr (nx := 52) (k := 45) (r := 46) ⟨dX11_load_49, rfl⟩ fX11_309 q_45 yr_7_0 (r_45_0 _) ?_
    refine G_iload_1 (nx := 53) ⟨dX11_load_52, rfl⟩ ?_
    refine G_aald (nx := 54) (k := 46) (r := (49 + s0)) ⟨dX11_load_53, rfl⟩ q_46 (by first | assumption | decide | (unfold vp_in; decide)) (rrow hs0 _) ?_
    refine G_iload_3 (nx := 55) ⟨dX11_load_54, rfl⟩ ?_
    refine G_iald (nx := 56) (k := (49 + s0)) ⟨dX11_load_55, rfl⟩ (qrow hs0) (by first | assumption | decide | (unfold vp_in; decide)) ?_
    rw [eci, hrow i (by omega)]
    refine G_istore_4 (nx := 58) ⟨dX11_load_56, rfl⟩ rfl rfl ?_
    refine G_iload_4 (nx := 60) ⟨dX11_load_58, rfl⟩ ?_
    refine G_cs1 (nx := 63) ⟨dX11_load_60, rfl⟩ kX11_112 rfl rfl (Nat.le_of_ble_eq_true rfl) (Nat.le_of_ble_eq_true rfl) (cX_isWeight ?_)
    refine G_ifeq (tgt := 100) (nx := 66) ⟨dX11_load_63, rfl⟩ rfl (fun c_63 => ?_) (fun c_63 => ?_)
    · refine G_iload_2 (nx := 101) ⟨dX11_load_100, rfl⟩ ?_
      refine G_iret ⟨dX11_load_101, rfl⟩ rfl ?_
      rw [bi_0] at c_63
      have e : r = i := (by
        rcases Nat.lt_or_ge i (min z n) with q | q
        · exact hbad q c_63
        · exact hend q)
      subst e
      exact hk I1 hw hs1
    · rw [bi_n0] at c_63
      refine G_aload_0 (nx := 67) ⟨dX11_load_66, rfl⟩ ?_
      refine G_getr (nx := 70) (k := 0) (r := 1) ⟨dX11_load_67, rfl⟩ fX11_10 q_0 yr_11_0 (r_0_0 _) ?_
      refine G_iload_3 (nx := 71) ⟨dX11_load_70, rfl⟩ ?_
      refine G_cv1 (nx := 74) ⟨dX11_load_71, rfl⟩ kX11_137 rfl q_1 rfl (Nat.le_of_ble_eq_true rfl) (Nat.le_of_ble_eq_true rfl) (cN_has nt1 hX ?_)
      refine G_ifne (tgt := 80) (nx := 77) ⟨dX11_load_74, rfl⟩ rfl (fun c_74 => ?_) (fun c_74 => ?_)
      · rw [bi_n0, ptB_iff (by omega)] at c_74
        have h12 := in12 c_74 hn
        have hlt : i < min z n := by omega
        obtain ⟨k1, ek1⟩ : ∃ k1, k = k1 + 1 := ⟨k - 1, by omega⟩
        rw [ek1, rn, decide_eq_true hlt, Bool.true_and, if_pos c_63] at hr
        refine G_aload_0 (nx := 81) ⟨dX11_load_80, rfl⟩ ?_
        refine G_getr (nx := 84) (k := 0) (r := 1) ⟨dX11_load_81, rfl⟩ fX11_10 q_0 yr_11_0 (r_0_0 _) ?_
        refine G_getr (nx := 87) (k := 1) (r := 3) ⟨dX11_load_84, rfl⟩ fX11_144 q_1 yr_4_1 (r_1_1 _) ?_
        refine G_iload_3 (nx := 88) ⟨dX11_load_87, rfl⟩ ?_
        refine G_iload_4 (nx := 90) ⟨dX11_load_88, rfl⟩ ?_
        refine G_iast (nx := 91) (k := 3) ⟨dX11_load_90, rfl⟩ q_3 (by first | assumption | decide | (unfold vp_in; decide)) ?_
        rw [eci]
        refine G_iinc_2 (nx := 94) ⟨dX11_load_91, rfl⟩ ci_1 rfl ?_
        refine G_iinc_3 (nx := 97) ⟨dX11_load_94, rfl⟩ ci_1 rfl ?_
        refine G_goto (tgt := 32) ⟨dX11_load_97, rfl⟩ rfl ?_
        refine G_L (by rw [nI_1]) (ih k1 (by omega) (i + 1) _ _ rfl (by omega) (by omega) hr (fun j => ?_) (hX.cg (by rw [w2_row _ _ _ _ (show ¬ 1 = 3 by omega)]) (fun p _ => by rw [w2_row _ _ _ _ (show ¬ 4 = 3 by omega)])) (by rw [w2_row _ _ _ _ (show ¬ 48 = 3 by omega)]; exact hz) (fun j hj => by rw [w2_row _ _ _ _ (show ¬ 49 + s0 = 3 by omega)]; exact hrow j hj) (hs1.w fE_t))
        by_cases e : j = i
        · subst e; rw [w2_at, if_pos (by omega)]
        · rw [w2_ne _ _ _ _ (by omega), hw j]
          by_cases h : j < i
          · rw [if_pos h, if_pos (by omega)]
          · rw [if_neg h, if_neg (by omega)]
      · refine G_goto (tgt := 100) ⟨dX11_load_77, rfl⟩ rfl ?_
        refine G_iload_2 (nx := 101) ⟨dX11_load_100, rfl⟩ ?_
        refine G_iret ⟨dX11_load_101, rfl⟩ rfl ?_
        rw [bi_0] at c_74
        have e : r = i := hend (by
          have : ¬ i < n := fun q => by rw [(ptB_iff (by omega)).mpr q] at c_74; cases c_74
          omega)
        subst e
        exact hk I1 hw hs1

theorem cX_load {s : Int32} (hX : XG I 1 4 n gr) (hsz : SZc I) (hk1 : inR s 0 3 = false → K (.int (-2)) I J (rX g)) (hk2 : ∀ s0, s = nI s0 → s0 < 4 → I 47 s0 = -1 → K (.int (-11)) I J (rX g)) (hk : ∀ (s0 z : Nat) (I' : AI), s = nI s0 → s0 < 4 → ¬ I 47 s0 = -1 → I 48 s0 = nI z → z ≤ 60 → (∀ j, I' 3 j = if j < rn (I (49 + s0)) (min z n) 1 9 (min z n) 0 then I (49 + s0) j else I 3 j) → sb (fE 3) I I' → K (.int (nI (rn (I (49 + s0)) (min z n) 1 9 (min z n) 0))) I' J (rX g)) : G l (d + 40) mX11_load K 0 [.ref 0, .int s, UU, UU, UU] [] I J (rX g) := by
  refine G_aload_0 (nx := 1) ⟨dX11_load_0, rfl⟩ ?_
  refine G_getr (nx := 4) (k := 0) (r := 45) ⟨dX11_load_1, rfl⟩ fX11_76 q_0 yr_11_10 (r_0_10 _) ?_
  refine G_iload_1 (nx := 5) ⟨dX11_load_4, rfl⟩ ?_
  refine G_cv1 (nx := 8) ⟨dX11_load_5, rfl⟩ kX11_302 rfl q_45 rfl (Nat.le_of_ble_eq_true rfl) (Nat.le_of_ble_eq_true rfl) (cS_has ?_)
  refine G_ifne (tgt := 14) (nx := 11) ⟨dX11_load_8, rfl⟩ rfl (fun c_8 => ?_) (fun c_8 => ?_)
  · rw [bi_n0] at c_8
    obtain ⟨s0, hs0, es⟩ := s_ex c_8
    subst es
    have hin4 := in4 hs0
    have ecs := cl_nI (p := s0) (by omega)
    obtain ⟨z, hz60, hz⟩ := hsz s0 hs0
    refine G_aload_0 (nx := 15) ⟨dX11_load_14, rfl⟩ ?_
    refine G_getr (nx := 18) (k := 0) (r := 45) ⟨dX11_load_15, rfl⟩ fX11_76 q_0 yr_11_10 (r_0_10 _) ?_
    refine G_iload_1 (nx := 19) ⟨dX11_load_18, rfl⟩ ?_
    refine G_cv1 (nx := 22) ⟨dX11_load_19, rfl⟩ kX11_303 rfl q_45 rfl (Nat.le_of_ble_eq_true rfl) (Nat.le_of_ble_eq_true rfl) (cS_miss hs0 ?_)
    refine G_ifeq (tgt := 28) (nx := 25) ⟨dX11_load_22, rfl⟩ rfl (fun c_22 => ?_) (fun c_22 => ?_)
    · rw [bi_0, decide_eq_false_iff_not] at c_22
      refine G_iconst (nx := 29) ⟨dX11_load_28, rfl⟩ ci_0 ?_
      refine G_istore_2 (nx := 30) ⟨dX11_load_29, rfl⟩ rfl rfl ?_
      refine G_iconst (nx := 31) ⟨dX11_load_30, rfl⟩ ci_0 ?_
      refine G_istore_3 (nx := 32) ⟨dX11_load_31, rfl⟩ rfl rfl ?_
      exact G_L (by rw [← nI_0]) (lX_load (row := I (49 + s0)) hs0 hz60 hX.2.1 (fun I1 h1 h2 => hk s0 z I1 rfl hs0 c_22 hz hz60 h1 h2) _ 0 I UU rfl (by omega) (Nat.zero_le _) rfl (fun j => by rw [if_neg (by omega)]) hX hz (fun j _ => rfl) sb.rf)
    · refine G_bipush (nx := 27) ⟨dX11_load_25, rfl⟩ cb_m11 ?_
      refine G_iret ⟨dX11_load_27, rfl⟩ rfl ?_
      rw [bi_n0, decide_eq_true_eq] at c_22
      exact hk2 s0 rfl hs0 c_22
  · refine G_bipush (nx := 13) ⟨dX11_load_11, rfl⟩ cb_m2 ?_
    refine G_iret ⟨dX11_load_13, rfl⟩ rfl ?_
    rw [bi_0] at c_8
    exact hk1 c_8

theorem lX_judge {s0 z : Nat} {row : Nat → Int32} {Q : Option Nat × Int32} (hX : XG I 1 4 n gr) (hW : WG n gr) (hs0 : s0 < 4) (hz60 : z ≤ 60) (hz : I 48 s0 = nI z) (hrow : ∀ j, j < 60 → I (49 + s0) j = row j) (hk : ∀ (I' : AI) (v : Int32), sb (fMp 16) I I' → ((∃ i, Q.1 = some i ∧ v = nI (1 + i)) ∨ (Q.1 = none ∧ ¬ z = n ∧ v = 100) ∨ (Q.1 = none ∧ z = n ∧ v = if Q.2 = nI (tau gr (2 ^ n - 1) (2 ^ n - 1)) then 0 else 100)) → K (.int v) I' J (rX g)) : ∀ (k i : Nat) (t : Int32), z - i = k → i ≤ z → i ≤ n → jdL n gr row k i t = Q → G l (d + 40) mX11_judge K 32 [.ref 0, .int (nI s0), .int t, .int (nI i)] [] I J (rX g) := by
  intro k
  induction k using Nat.strongRecOn with
  | _ k ih =>
  intro i t hik hi hin hQ
  have hn := hX.2.1
  have h1p := Nat.two_pow_pos n
  have hin4 := in4 hs0
  have ecs := cl_nI (p := s0) (by omega)
  refine G_iload_3 (nx := 33) ⟨dX11_judge_32, rfl⟩ ?_
  refine G_aload_0 (nx := 34) ⟨dX11_judge_33, rfl⟩ ?_
  refine G_getr (nx := 37) (k := 0) (r := 45) ⟨dX11_judge_34, rfl⟩ fX11_76 q_0 yr_11_10 (r_0_10 _) ?_
  refine G_getr (nx := 40) (k := 45) (r := 48) ⟨dX11_judge_37, rfl⟩ fX11_306 q_45 yr_7_2 (r_45_2 _) ?_
  refine G_iload_1 (nx := 41) ⟨dX11_judge_40, rfl⟩ ?_
  refine G_iald (nx := 42) (k := 48) ⟨dX11_judge_41, rfl⟩ q_48 (by first | assumption | decide | (unfold vp_in; decide)) ?_
  rw [ecs, hz]
  refine G_icmpge (tgt := 100) (nx := 45) ⟨dX11_judge_42, rfl⟩ rfl (fun c_42 => ?_) (fun c_42 => ?_)
  · rw [nI_le_iff (by omega) (by omega)] at c_42
    have hk0 : k = 0 := by omega
    subst hk0
    rw [jdL] at hQ
    refine G_aload_0 (nx := 101) ⟨dX11_judge_100, rfl⟩ ?_
    refine G_getr (nx := 104) (k := 0) (r := 45) ⟨dX11_judge_101, rfl⟩ fX11_76 q_0 yr_11_10 (r_0_10 _) ?_
    refine G_getr (nx := 107) (k := 45) (r := 48) ⟨dX11_judge_104, rfl⟩ fX11_306 q_45 yr_7_2 (r_45_2 _) ?_
    refine G_iload_1 (nx := 108) ⟨dX11_judge_107, rfl⟩ ?_
    refine G_iald (nx := 109) (k := 48) ⟨dX11_judge_108, rfl⟩ q_48 (by first | assumption | decide | (unfold vp_in; decide)) ?_
    rw [ecs, hz]
    refine G_aload_0 (nx := 110) ⟨dX11_judge_109, rfl⟩ ?_
    refine G_getr (nx := 113) (k := 0) (r := 1) ⟨dX11_judge_110, rfl⟩ fX11_10 q_0 yr_11_0 (r_0_0 _) ?_
    refine G_geti (nx := 116) (k := 1) ⟨dX11_judge_113, rfl⟩ fX11_115 q_1 yi_4_4 ?_
    rw [hX.1]
    refine G_icmpge (tgt := 122) (nx := 119) ⟨dX11_judge_116, rfl⟩ rfl (fun c_116 => ?_) (fun c_116 => ?_)
    · refine G_iload_2 (nx := 123) ⟨dX11_judge_122, rfl⟩ ?_
      refine G_aload_0 (nx := 124) ⟨dX11_judge_123, rfl⟩ ?_
      refine G_getr (nx := 127) (k := 0) (r := 16) ⟨dX11_judge_124, rfl⟩ fX11_25 q_0 yr_11_3 (r_0_3 _) ?_
      refine G_aload_0 (nx := 128) ⟨dX11_judge_127, rfl⟩ ?_
      refine G_getr (nx := 131) (k := 0) (r := 1) ⟨dX11_judge_128, rfl⟩ fX11_10 q_0 yr_11_0 (r_0_0 _) ?_
      refine G_getr (nx := 134) (k := 1) (r := 4) ⟨dX11_judge_131, rfl⟩ fX11_151 q_1 yr_4_2 (r_1_2 _) ?_
      refine G_aload_0 (nx := 135) ⟨dX11_judge_134, rfl⟩ ?_
      refine G_getr (nx := 138) (k := 0) (r := 1) ⟨dX11_judge_135, rfl⟩ fX11_10 q_0 yr_11_0 (r_0_0 _) ?_
      refine G_cv0 (nx := 141) ⟨dX11_judge_138, rfl⟩ kX11_194 rfl q_1 rfl (Nat.le_of_ble_eq_true rfl) (Nat.le_of_ble_eq_true rfl) (cN_all nt1 hX ?_)
      refine G_cv2 (nx := 144) ⟨dX11_judge_141, rfl⟩ kX11_447 rfl q_16 rfl (Nat.le_of_ble_eq_true rfl) (Nat.le_of_ble_eq_true rfl) (cH_least ht16 q_4 (by decide) hX.2 (show 2 ^ n - 1 < 2 ^ n by omega) (fun I1 hs1 => ?_))
      refine G_icmpne (tgt := 151) (nx := 147) ⟨dX11_judge_144, rfl⟩ rfl (fun c_144 => ?_) (fun c_144 => ?_)
      · refine G_bipush (nx := 153) ⟨dX11_judge_151, rfl⟩ cb_100 ?_
        refine G_iret ⟨dX11_judge_153, rfl⟩ rfl ?_
        rw [nI_le_iff (by omega) (by omega)] at c_116
        refine hk I1 _ hs1 (Or.inr (Or.inr ⟨by rw [← hQ], by omega, ?_⟩))
        rw [← hQ]
        rw [if_neg c_144]
      · refine G_iconst (nx := 148) ⟨dX11_judge_147, rfl⟩ ci_0 ?_
        refine G_goto (tgt := 153) ⟨dX11_judge_148, rfl⟩ rfl ?_
        refine G_iret ⟨dX11_judge_153, rfl⟩ rfl ?_
        rw [nI_le_iff (by omega) (by omega)] at c_116
        refine hk I1 _ hs1 (Or.inr (Or.inr ⟨by rw [← hQ], by omega, ?_⟩))
        rw [← hQ]
        rw [if_pos c_144]
    · refine G_bipush (nx := 121) ⟨dX11_judge_119, rfl⟩ cb_100 ?_
      refine G_iret ⟨dX11_judge_121, rfl⟩ rfl ?_
      rw [nI_le_iff (by omega) (by omega)] at c_116
      exact hk I _ sb.rf (Or.inr (Or.inl ⟨by rw [← hQ], by omega, rfl⟩))
  · rw [nI_le_iff (by omega) (by omega)] at c_42
    have hi60 := in60 (show i < 60 by omega)
    have eci := cl_nI (p := i) (by omega)
    obtain ⟨k1, ek1⟩ : ∃ k1, k = k1 + 1 := ⟨k - 1, by omega⟩
    rw [ek1, jdL] at hQ
    refine G_aload_0 (nx := 46) ⟨dX11_judge_45, rfl⟩ ?_
    refine G_getr (nx := 49) (k := 0) (r := 1) ⟨dX11_judge_46, rfl⟩ fX11_10 q_0 yr_11_0 (r_0_0 _) ?_
    refine G_iload_3 (nx := 50) ⟨dX11_judge_49, rfl⟩ ?_
    refine G_cv1 (nx := 53) ⟨dX11_judge_50, rfl⟩ kX11_137 rfl q_1 rfl (Nat.le_of_ble_eq_true rfl) (Nat.le_of_ble_eq_true rfl) (cN_has nt1 hX ?_)
    refine G_ifeq (tgt := 76) (nx := 56) ⟨dX11_judge_53, rfl⟩ rfl (fun c_53 => ?_) (fun c_53 => ?_)
    · refine G_iconst (nx := 77) ⟨dX11_judge_76, rfl⟩ ci_1 ?_
      refine G_iload_3 (nx := 78) ⟨dX11_judge_77, rfl⟩ ?_
      refine G_iadd (nx := 79) ⟨dX11_judge_78, rfl⟩ ?_
      refine G_iret ⟨dX11_judge_79, rfl⟩ rfl ?_
      rw [bi_0] at c_53
      rw [if_neg (fun q => by rw [(ptB_iff (by omega)).mpr q.1] at c_53; cases c_53)] at hQ
      rw [show (1 : Int32) = nI 1 by decide, nI_add]
      exact hk I _ sb.rf (Or.inl ⟨i, by rw [← hQ], rfl⟩)
    · rw [bi_n0, ptB_iff (by omega)] at c_53
      refine G_aload_0 (nx := 57) ⟨dX11_judge_56, rfl⟩ ?_
      refine G_getr (nx := 60) (k := 0) (r := 1) ⟨dX11_judge_57, rfl⟩ fX11_10 q_0 yr_11_0 (r_0_0 _) ?_
      refine G_aload_0 (nx := 61) ⟨dX11_judge_60, rfl⟩ ?_
      refine G_getr (nx := 64) (k := 0) (r := 45) ⟨dX11_judge_61, rfl⟩ fX11_76 q_0 yr_11_10 (r_0_10 _) ?_
      refine G_getr (nx := 67) (k := 45) (r := 46) ⟨dX11_judge_64, rfl⟩ fX11_309 q_45 yr_7_0 (r_45_0 _) ?_
      refine G_iload_1 (nx := 68) ⟨dX11_judge_67, rfl⟩ ?_
      refine G_aald (nx := 69) (k := 46) (r := (49 + s0)) ⟨dX11_judge_68, rfl⟩ q_46 (by first | assumption | decide | (unfold vp_in; decide)) (rrow hs0 _) ?_
      refine G_iload_3 (nx := 70) ⟨dX11_judge_69, rfl⟩ ?_
      refine G_cv2 (nx := 73) ⟨dX11_judge_70, rfl⟩ kX11_443 rfl q_1 rfl (Nat.le_of_ble_eq_true rfl) (Nat.le_of_ble_eq_true rfl) (cN_mayFollow (row := row) nt1 hX hW c_53 (qrow hs0) hrow ?_)
      refine G_ifne (tgt := 80) (nx := 76) ⟨dX11_judge_73, rfl⟩ rfl (fun c_73 => ?_) (fun c_73 => ?_)
      · rw [bi_n0, Bool.and_eq_true] at c_73
        rw [if_pos ⟨c_53, c_73.1, c_73.2⟩] at hQ
        refine G_iload_2 (nx := 81) ⟨dX11_judge_80, rfl⟩ ?_
        refine G_aload_0 (nx := 82) ⟨dX11_judge_81, rfl⟩ ?_
        refine G_getr (nx := 85) (k := 0) (r := 45) ⟨dX11_judge_82, rfl⟩ fX11_76 q_0 yr_11_10 (r_0_10 _) ?_
        refine G_getr (nx := 88) (k := 45) (r := 46) ⟨dX11_judge_85, rfl⟩ fX11_309 q_45 yr_7_0 (r_45_0 _) ?_
        refine G_iload_1 (nx := 89) ⟨dX11_judge_88, rfl⟩ ?_
        refine G_aald (nx := 90) (k := 46) (r := (49 + s0)) ⟨dX11_judge_89, rfl⟩ q_46 (by first | assumption | decide | (unfold vp_in; decide)) (rrow hs0 _) ?_
        refine G_iload_3 (nx := 91) ⟨dX11_judge_90, rfl⟩ ?_
        refine G_iald (nx := 92) (k := (49 + s0)) ⟨dX11_judge_91, rfl⟩ (qrow hs0) (by first | assumption | decide | (unfold vp_in; decide)) ?_
        rw [eci, hrow i (by omega)]
        refine G_iadd (nx := 93) ⟨dX11_judge_92, rfl⟩ ?_
        refine G_istore_2 (nx := 94) ⟨dX11_judge_93, rfl⟩ rfl rfl ?_
        refine G_iinc_3 (nx := 97) ⟨dX11_judge_94, rfl⟩ ci_1 rfl ?_
        refine G_goto (tgt := 32) ⟨dX11_judge_97, rfl⟩ rfl ?_
        exact G_L (by rw [nI_1]) (ih k1 (by omega) (i + 1) _ (by omega) (by omega) (by omega) hQ)
      · refine G_iconst (nx := 77) ⟨dX11_judge_76, rfl⟩ ci_1 ?_
        refine G_iload_3 (nx := 78) ⟨dX11_judge_77, rfl⟩ ?_
        refine G_iadd (nx := 79) ⟨dX11_judge_78, rfl⟩ ?_
        refine G_iret ⟨dX11_judge_79, rfl⟩ rfl ?_
        rw [bi_0, Bool.and_eq_false_iff] at c_73
        rw [if_neg (fun q => by rcases c_73 with e | e
                                · rw [q.2.1] at e; cases e
                                · rw [q.2.2] at e; cases e)] at hQ
        rw [show (1 : Int32) = nI 1 by decide, nI_add]
        exact hk I _ sb.rf (Or.inl ⟨i, by rw [← hQ], rfl⟩)

theorem cX_judge {s : Int32} (hX : XG I 1 4 n gr) (hW : WG n gr) (hsz : SZc I) (hk1 : inR s 0 3 = false → K (.int (-2)) I J (rX g)) (hk2 : ∀ s0, s = nI s0 → s0 < 4 → I 47 s0 = -1 → K (.int (-11)) I J (rX g)) (hk : ∀ (s0 z : Nat) (Q : Option Nat × Int32) (I' : AI) (v : Int32), s = nI s0 → s0 < 4 → ¬ I 47 s0 = -1 → I 48 s0 = nI z → z ≤ 60 → jdL n gr (I (49 + s0)) z 0 0 = Q → sb (fMp 16) I I' → ((∃ i, Q.1 = some i ∧ v = nI (1 + i)) ∨ (Q.1 = none ∧ ¬ z = n ∧ v = 100) ∨ (Q.1 = none ∧ z = n ∧ v = if Q.2 = nI (tau gr (2 ^ n - 1) (2 ^ n - 1)) then 0 else 100)) → K (.int v) I' J (rX g)) : G l (d + 40) mX11_judge K 0 [.ref 0, .int s, UU, UU] [] I J (rX g) := by
  refine G_aload_0 (nx := 1) ⟨dX11_judge_0, rfl⟩ ?_
  refine G_getr (nx := 4) (k := 0) (r := 45) ⟨dX11_judge_1, rfl⟩ fX11_76 q_0 yr_11_10 (r_0_10 _) ?_
  refine G_iload_1 (nx := 5) ⟨dX11_judge_4, rfl⟩ ?_
  refine G_cv1 (nx := 8) ⟨dX11_judge_5, rfl⟩ kX11_302 rfl q_45 rfl (Nat.le_of_ble_eq_true rfl) (Nat.le_of_ble_eq_true rfl) (cS_has ?_)
  refine G_ifne (tgt := 14) (nx := 11) ⟨dX11_judge_8, rfl⟩ rfl (fun c_8 => ?_) (fun c_8 => ?_)
  · rw [bi_n0] at c_8
    obtain ⟨s0, hs0, es⟩ := s_ex c_8
    subst es
    have hin4 := in4 hs0
    have ecs := cl_nI (p := s0) (by omega)
    obtain ⟨z, hz60, hz⟩ := hsz s0 hs0
    refine G_aload_0 (nx := 15) ⟨dX11_judge_14, rfl⟩ ?_
    refine G_getr (nx := 18) (k := 0) (r := 45) ⟨dX11_judge_15, rfl⟩ fX11_76 q_0 yr_11_10 (r_0_10 _) ?_
    refine G_iload_1 (nx := 19) ⟨dX11_judge_18, rfl⟩ ?_
    refine G_cv1 (nx := 22) ⟨dX11_judge_19, rfl⟩ kX11_303 rfl q_45 rfl (Nat.le_of_ble_eq_true rfl) (Nat.le_of_ble_eq_true rfl) (cS_miss hs0 ?_)
    refine G_ifeq (tgt := 28) (nx := 25) ⟨dX11_judge_22, rfl⟩ rfl (fun c_22 => ?_) (fun c_22 => ?_)
    · rw [bi_0, decide_eq_false_iff_not] at c_22
      refine G_iconst (nx := 29) ⟨dX11_judge_28, rfl⟩ ci_0 ?_
      refine G_istore_2 (nx := 30) ⟨dX11_judge_29, rfl⟩ rfl rfl ?_
      refine G_iconst (nx := 31) ⟨dX11_judge_30, rfl⟩ ci_0 ?_
      refine G_istore_3 (nx := 32) ⟨dX11_judge_31, rfl⟩ rfl rfl ?_
      exact G_L (by rw [← nI_0]) (lX_judge (row := I (49 + s0)) hX hW hs0 hz60 hz (fun j _ => rfl) (fun I1 v h1 h2 => hk s0 z _ I1 v rfl hs0 c_22 hz hz60 rfl h1 h2) z 0 0 rfl (Nat.zero_le _) (Nat.zero_le _) rfl)
    · refine G_bipush (nx := 27) ⟨dX11_judge_25, rfl⟩ cb_m11 ?_
      refine G_iret ⟨dX11_judge_27, rfl⟩ rfl ?_
      rw [bi_n0, decide_eq_true_eq] at c_22
      exact hk2 s0 rfl hs0 c_22
  · refine G_bipush (nx := 13) ⟨dX11_judge_11, rfl⟩ cb_m2 ?_
    refine G_iret ⟨dX11_judge_13, rfl⟩ rfl ?_
    rw [bi_0] at c_8
    exact hk1 c_8

end X95
