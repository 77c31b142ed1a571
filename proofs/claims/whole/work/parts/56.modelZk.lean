
def cpR (r : Nat → Int32) (s t n : Nat) (x : Nat) : Int32 := if t ≤ x ∧ x < t + n then r (s + (x - t)) else r x
theorem i32_nat {x : Int32} (h : ¬ x < 0) : ∃ j, j < 2 ^ 31 ∧ x = nI j := by
  rw [i32_lt, toInt_0] at h
  have h2 : x.toInt < 2 ^ 31 := x.toInt_lt
  exact ⟨x.toInt.toNat, by omega, nI_of_toInt (by omega) (by omega)⟩
theorem sub_toInt_nI {z n : Nat} (hz : z < 2 ^ 31) (hn : n < 2 ^ 31) : (nI z - nI n).toInt = (z : Int) - n := by
  rw [← iI_nat z, iI_subN, iI_toInt (by omega) (by omega)]
theorem in240' {p : Nat} (h : p < 240) : vp_in (nI p) 240 := vp_in_nI h (by decide)
section M56
variable {l : Launch} {d : Nat} {K : AK} {I : AI} {J : AJ} {g : Bool}

theorem lM_copy {s i o j N : Nat} {up : Bool} (hs : s < 4) (ho : o < 4) (hi : i + N ≤ 60) (hj : j + N ≤ 60) (hup : up = decide (60 * s + i < 60 * o + j)) (hk : K (.int (nI N)) (wr I 105 (cpR (I 105) (60 * s + i) (60 * o + j) N)) J (rX g)) : ∀ (k q : Nat) (I1 : AI) (x8 : Value), notL x8 = true → N - q = k → q ≤ N → (∀ a, ¬ a = 105 → I1 a = I a) → (∀ x, I1 105 x = if up = true then (if 60 * o + j + (N - q) ≤ x ∧ x < 60 * o + j + N then I 105 (60 * s + i + (x - (60 * o + j))) else I 105 x) else (if 60 * o + j ≤ x ∧ x < 60 * o + j + q then I 105 (60 * s + i + (x - (60 * o + j))) else I 105 x)) → G l d mX12_copy K 128 [.ref 75, .int (nI s), .int (nI i), .int (nI o), .int (nI j), .int (nI N), .int (bi up), .int (nI q), x8] [] I1 J (rX g) := by
  intro k
  induction k using Nat.strongRecOn with
  | _ k ih =>
  intro q I1 x8 hx8 hqk hqN hne hrow
  have em : ∀ (a b c : Nat), (60 : Int32) * nI a + nI b + nI c = nI (60 * a + b + c) := fun a b c => by rw [it_nI, nI_add]
  refine G_iload_7 (nx := 130) ⟨dX12_copy_128, rfl⟩ ?_
  refine G_iload_5 (nx := 132) ⟨dX12_copy_130, rfl⟩ ?_
  refine G_icmpge (tgt := 189) (nx := 135) ⟨dX12_copy_132, rfl⟩ rfl (fun c_132 => ?_) (fun c_132 => ?_)
  · refine G_iload_5 (nx := 191) ⟨dX12_copy_189, rfl⟩ ?_
    refine G_iret ⟨dX12_copy_191, rfl⟩ rfl ?_
    rw [nI_le_iff (by omega) (by omega)] at c_132
    have e : q = N := by omega
    subst e
    have e1 : I1 = wr I 105 (cpR (I 105) (60 * s + i) (60 * o + j) q) := by
      funext a
      by_cases ha : a = 105
      · subst ha
        rw [wr_at]
        funext x
        rw [hrow, cpR]
        cases up
        · simp
        · simp
      · rw [wr_ne _ _ _ ha]; exact hne a ha
    rw [e1]
    exact hk
  · rw [nI_le_iff (by omega) (by omega)] at c_132
    have hql : q < N := by omega
    refine G_iload_6 (nx := 137) ⟨dX12_copy_135, rfl⟩ ?_
    refine G_ifeq (tgt := 150) (nx := 140) ⟨dX12_copy_137, rfl⟩ rfl (fun c_137 => ?_) (fun c_137 => ?_)
    · rw [bi_0] at c_137
      refine G_iload_7 (nx := 152) ⟨dX12_copy_150, rfl⟩ ?_
      refine G_istore_8 (nx := 154) ⟨dX12_copy_152, rfl⟩ rfl rfl ?_
      refine G_aload_0 (nx := 155) ⟨dX12_copy_154, rfl⟩ ?_
      refine G_getr (nx := 158) (k := 75) (r := 105) ⟨dX12_copy_155, rfl⟩ fX12_103 q_75 yr_12_45 (r_75_45 _) ?_
      refine G_bipush (nx := 160) ⟨dX12_copy_158, rfl⟩ cb_60 ?_
      refine G_iload_3 (nx := 161) ⟨dX12_copy_160, rfl⟩ ?_
      refine G_imul (nx := 162) ⟨dX12_copy_161, rfl⟩ ?_
      refine G_iload_4 (nx := 164) ⟨dX12_copy_162, rfl⟩ ?_
      refine G_iadd (nx := 165) ⟨dX12_copy_164, rfl⟩ ?_
      refine G_iload_8 (nx := 167) ⟨dX12_copy_165, rfl⟩ ?_
      refine G_iadd (nx := 168) ⟨dX12_copy_167, rfl⟩ ?_
      refine G_aload_0 (nx := 169) ⟨dX12_copy_168, rfl⟩ ?_
      refine G_getr (nx := 172) (k := 75) (r := 105) ⟨dX12_copy_169, rfl⟩ fX12_103 q_75 yr_12_45 (r_75_45 _) ?_
      refine G_bipush (nx := 174) ⟨dX12_copy_172, rfl⟩ cb_60 ?_
      refine G_iload_1 (nx := 175) ⟨dX12_copy_174, rfl⟩ ?_
      refine G_imul (nx := 176) ⟨dX12_copy_175, rfl⟩ ?_
      refine G_iload_2 (nx := 177) ⟨dX12_copy_176, rfl⟩ ?_
      refine G_iadd (nx := 178) ⟨dX12_copy_177, rfl⟩ ?_
      refine G_iload_8 (nx := 180) ⟨dX12_copy_178, rfl⟩ ?_
      refine G_iadd (nx := 181) ⟨dX12_copy_180, rfl⟩ ?_
      rw [em]
      refine G_iald (nx := 182) (k := 105) ⟨dX12_copy_181, rfl⟩ q_105 (by exact in240' (by omega)) ?_
      try rw [cl_nI (show 60 * s + i + (N - 1 - q) < 2 ^ 31 by omega)]
      try rw [cl_nI (show 60 * s + i + q < 2 ^ 31 by omega)]
      rw [em]
      refine G_iast (nx := 183) (k := 105) ⟨dX12_copy_182, rfl⟩ q_105 (by exact in240' (by omega)) ?_
      try rw [cl_nI (show 60 * o + j + (N - 1 - q) < 2 ^ 31 by omega)]
      try rw [cl_nI (show 60 * o + j + q < 2 ^ 31 by omega)]
      refine G_iinc_7 (nx := 186) ⟨dX12_copy_183, rfl⟩ ci_1 rfl ?_
      refine G_goto (tgt := 128) ⟨dX12_copy_186, rfl⟩ rfl ?_
      have hrd : I1 105 (60 * s + i + (q)) = I 105 (60 * s + i + (q)) := by
        rw [hrow, if_neg (by rw [c_137]; decide), if_neg (by have := of_decide_eq_false (hup ▸ c_137); omega)]
      refine G_L (by rw [nI_1]) (ih (N - (q + 1)) (by omega) (q + 1) _ _ rfl rfl (by omega) (fun a ha => by rw [w2_row _ _ _ _ ha]; exact hne a ha) (fun x => ?_))
      rw [if_neg (by rw [c_137]; decide)]
      by_cases e : x = 60 * o + j + (q)
      · rw [e, w2_at, hrd, if_pos (by omega)]
        congr 1
        omega
      · rw [w2_ne _ _ _ _ (by omega), hrow, if_neg (by rw [c_137]; decide)]
        by_cases e2 : 60 * o + j ≤ x ∧ x < 60 * o + j + q
        · rw [if_pos e2, if_pos (by omega)]
        · rw [if_neg e2, if_neg (by omega)]
    · rw [bi_n0] at c_137
      refine G_iload_5 (nx := 142) ⟨dX12_copy_140, rfl⟩ ?_
      refine G_iconst (nx := 143) ⟨dX12_copy_142, rfl⟩ ci_1 ?_
      refine G_isub (nx := 144) ⟨dX12_copy_143, rfl⟩ ?_
      refine G_iload_7 (nx := 146) ⟨dX12_copy_144, rfl⟩ ?_
      refine G_isub (nx := 147) ⟨dX12_copy_146, rfl⟩ ?_
      rw [show (1 : Int32) = nI 1 by decide, nI_sub (by omega), nI_sub (by omega)]
      refine G_goto (tgt := 152) ⟨dX12_copy_147, rfl⟩ rfl ?_
      refine G_istore_8 (nx := 154) ⟨dX12_copy_152, rfl⟩ rfl rfl ?_
      refine G_aload_0 (nx := 155) ⟨dX12_copy_154, rfl⟩ ?_
      refine G_getr (nx := 158) (k := 75) (r := 105) ⟨dX12_copy_155, rfl⟩ fX12_103 q_75 yr_12_45 (r_75_45 _) ?_
      refine G_bipush (nx := 160) ⟨dX12_copy_158, rfl⟩ cb_60 ?_
      refine G_iload_3 (nx := 161) ⟨dX12_copy_160, rfl⟩ ?_
      refine G_imul (nx := 162) ⟨dX12_copy_161, rfl⟩ ?_
      refine G_iload_4 (nx := 164) ⟨dX12_copy_162, rfl⟩ ?_
      refine G_iadd (nx := 165) ⟨dX12_copy_164, rfl⟩ ?_
      refine G_iload_8 (nx := 167) ⟨dX12_copy_165, rfl⟩ ?_
      refine G_iadd (nx := 168) ⟨dX12_copy_167, rfl⟩ ?_
      refine G_aload_0 (nx := 169) ⟨dX12_copy_168, rfl⟩ ?_
      refine G_getr (nx := 172) (k := 75) (r := 105) ⟨dX12_copy_169, rfl⟩ fX12_103 q_75 yr_12_45 (r_75_45 _) ?_
      refine G_bipush (nx := 174) ⟨dX12_copy_172, rfl⟩ cb_60 ?_
      refine G_iload_1 (nx := 175) ⟨dX12_copy_174, rfl⟩ ?_
      refine G_imul (nx := 176) ⟨dX12_copy_175, rfl⟩ ?_
      refine G_iload_2 (nx := 177) ⟨dX12_copy_176, rfl⟩ ?_
      refine G_iadd (nx := 178) ⟨dX12_copy_177, rfl⟩ ?_
      refine G_iload_8 (nx := 180) ⟨dX12_copy_178, rfl⟩ ?_
      refine G_iadd (nx := 181) ⟨dX12_copy_180, rfl⟩ ?_
      rw [em]
      refine G_iald (nx := 182) (k := 105) ⟨dX12_copy_181, rfl⟩ q_105 (by exact in240' (by omega)) ?_
      try rw [cl_nI (show 60 * s + i + (N - 1 - q) < 2 ^ 31 by omega)]
      try rw [cl_nI (show 60 * s + i + q < 2 ^ 31 by omega)]
      rw [em]
      refine G_iast (nx := 183) (k := 105) ⟨dX12_copy_182, rfl⟩ q_105 (by exact in240' (by omega)) ?_
      try rw [cl_nI (show 60 * o + j + (N - 1 - q) < 2 ^ 31 by omega)]
      try rw [cl_nI (show 60 * o + j + q < 2 ^ 31 by omega)]
      refine G_iinc_7 (nx := 186) ⟨dX12_copy_183, rfl⟩ ci_1 rfl ?_
      refine G_goto (tgt := 128) ⟨dX12_copy_186, rfl⟩ rfl ?_
      have hrd : I1 105 (60 * s + i + (N - 1 - q)) = I 105 (60 * s + i + (N - 1 - q)) := by
        rw [hrow, if_pos c_137, if_neg (by have := of_decide_eq_true (hup ▸ c_137); omega)]
      refine G_L (by rw [nI_1]) (ih (N - (q + 1)) (by omega) (q + 1) _ _ rfl rfl (by omega) (fun a ha => by rw [w2_row _ _ _ _ ha]; exact hne a ha) (fun x => ?_))
      rw [if_pos c_137]
      by_cases e : x = 60 * o + j + (N - 1 - q)
      · rw [e, w2_at, hrd, if_pos (by omega)]
        congr 1
        omega
      · rw [w2_ne _ _ _ _ (by omega), hrow, if_pos c_137]
        by_cases e2 : 60 * o + j + (N - q) ≤ x ∧ x < 60 * o + j + N
        · rw [if_pos e2, if_pos (by omega)]
        · rw [if_neg e2, if_neg (by omega)]

theorem cM_copy {s i o j v : Int32} (hsz : SZ I) (hk1 : (inR s 0 3 && inR o 0 3) = false → K (.int (-2)) I J (rX g))
    (hk2 : ∀ s0 o0, s = nI s0 → s0 < 4 → o = nI o0 → o0 < 4 → (I 103 s0 = -1 ∨ I 103 o0 = -1) → K (.int (-11)) I J (rX g))
    (hk3 : ∀ s0 o0, s = nI s0 → s0 < 4 → o = nI o0 → o0 < 4 → ¬ I 103 s0 = -1 → ¬ I 103 o0 = -1 → ¬ I 103 s0 = I 103 o0 → K (.int (-13)) I J (rX g))
    (hk4 : ∀ s0 o0 z y, s = nI s0 → s0 < 4 → o = nI o0 → o0 < 4 → ¬ I 103 s0 = -1 → ¬ I 103 o0 = -1 → I 103 s0 = I 103 o0 → I 104 s0 = nI z → z ≤ 60 → I 104 o0 = nI y → y ≤ 60 → ¬ (0 ≤ v.toInt ∧ 0 ≤ i.toInt ∧ 0 ≤ j.toInt ∧ i.toInt + v.toInt ≤ z ∧ j.toInt + v.toInt ≤ y) → K (.int (-12)) I J (rX g))
    (hk : ∀ s0 o0 z y i0 j0 N, s = nI s0 → s0 < 4 → o = nI o0 → o0 < 4 → ¬ I 103 s0 = -1 → ¬ I 103 o0 = -1 → I 103 s0 = I 103 o0 → I 104 s0 = nI z → z ≤ 60 → I 104 o0 = nI y → y ≤ 60 → i = nI i0 → j = nI j0 → v = nI N → i0 + N ≤ z → j0 + N ≤ y → K (.int (nI N)) (wr I 105 (cpR (I 105) (60 * s0 + i0) (60 * o0 + j0) N)) J (rX g)) : G l (d + 2) mX12_copy K 0 [.ref 75, .int s, .int i, .int o, .int j, .int v, UU, UU, UU] [] I J (rX g) := by
  refine G_iload_1 (nx := 1) ⟨dX12_copy_0, rfl⟩ ?_
  refine G_cs1 (nx := 4) ⟨dX12_copy_1, rfl⟩ kX12_253 rfl rfl (Nat.le_of_ble_eq_true rfl) (Nat.le_of_ble_eq_true rfl) (cM_isSheet ?_)
  refine G_ifeq (tgt := 14) (nx := 7) ⟨dX12_copy_4, rfl⟩ rfl (fun c_4 => ?_) (fun c_4 => ?_)
  · refine G_bipush (nx := 16) ⟨dX12_copy_14, rfl⟩ cb_m2 ?_
    refine G_iret ⟨dX12_copy_16, rfl⟩ rfl ?_
    rw [bi_0] at c_4
    exact hk1 (by simp [c_4])
  · refine G_iload_3 (nx := 8) ⟨dX12_copy_7, rfl⟩ ?_
    refine G_cs1 (nx := 11) ⟨dX12_copy_8, rfl⟩ kX12_253 rfl rfl (Nat.le_of_ble_eq_true rfl) (Nat.le_of_ble_eq_true rfl) (cM_isSheet ?_)
    refine G_ifne (tgt := 17) (nx := 14) ⟨dX12_copy_11, rfl⟩ rfl (fun c_11 => ?_) (fun c_11 => ?_)
    · rw [bi_n0] at c_4
      rw [bi_n0] at c_11
      obtain ⟨s0, hs0, es⟩ := s_ex c_4
      obtain ⟨o0, ho0, eo⟩ := s_ex c_11
      subst es
      subst eo
      have hin4 := in4 hs0
      have hio4 := in4 ho0
      have ecs := cl_nI (p := s0) (by omega)
      have eco := cl_nI (p := o0) (by omega)
      obtain ⟨z, hz60, hz⟩ := hsz s0 hs0
      obtain ⟨y, hy60, hy⟩ := hsz o0 ho0
      refine G_aload_0 (nx := 18) ⟨dX12_copy_17, rfl⟩ ?_
      refine G_getr (nx := 21) (k := 75) (r := 103) ⟨dX12_copy_18, rfl⟩ fX12_97 q_75 yr_12_43 (r_75_43 _) ?_
      refine G_iload_1 (nx := 22) ⟨dX12_copy_21, rfl⟩ ?_
      refine G_iald (nx := 23) (k := 103) ⟨dX12_copy_22, rfl⟩ q_103 (by first | assumption | decide | (unfold vp_in; decide)) ?_
      refine G_iconst (nx := 24) ⟨dX12_copy_23, rfl⟩ ci_m1 ?_
      rw [ecs]
      refine G_icmpeq (tgt := 37) (nx := 27) ⟨dX12_copy_24, rfl⟩ rfl (fun c_24 => ?_) (fun c_24 => ?_)
      · refine G_bipush (nx := 39) ⟨dX12_copy_37, rfl⟩ cb_m11 ?_
        refine G_iret ⟨dX12_copy_39, rfl⟩ rfl ?_
        exact hk2 s0 o0 rfl hs0 rfl ho0 (Or.inl c_24)
      · refine G_aload_0 (nx := 28) ⟨dX12_copy_27, rfl⟩ ?_
        refine G_getr (nx := 31) (k := 75) (r := 103) ⟨dX12_copy_28, rfl⟩ fX12_97 q_75 yr_12_43 (r_75_43 _) ?_
        refine G_iload_3 (nx := 32) ⟨dX12_copy_31, rfl⟩ ?_
        refine G_iald (nx := 33) (k := 103) ⟨dX12_copy_32, rfl⟩ q_103 (by first | assumption | decide | (unfold vp_in; decide)) ?_
        refine G_iconst (nx := 34) ⟨dX12_copy_33, rfl⟩ ci_m1 ?_
        rw [eco]
        refine G_icmpne (tgt := 40) (nx := 37) ⟨dX12_copy_34, rfl⟩ rfl (fun c_34 => ?_) (fun c_34 => ?_)
        · refine G_aload_0 (nx := 41) ⟨dX12_copy_40, rfl⟩ ?_
          refine G_getr (nx := 44) (k := 75) (r := 103) ⟨dX12_copy_41, rfl⟩ fX12_97 q_75 yr_12_43 (r_75_43 _) ?_
          refine G_iload_1 (nx := 45) ⟨dX12_copy_44, rfl⟩ ?_
          refine G_iald (nx := 46) (k := 103) ⟨dX12_copy_45, rfl⟩ q_103 (by first | assumption | decide | (unfold vp_in; decide)) ?_
          refine G_aload_0 (nx := 47) ⟨dX12_copy_46, rfl⟩ ?_
          refine G_getr (nx := 50) (k := 75) (r := 103) ⟨dX12_copy_47, rfl⟩ fX12_97 q_75 yr_12_43 (r_75_43 _) ?_
          refine G_iload_3 (nx := 51) ⟨dX12_copy_50, rfl⟩ ?_
          refine G_iald (nx := 52) (k := 103) ⟨dX12_copy_51, rfl⟩ q_103 (by first | assumption | decide | (unfold vp_in; decide)) ?_
          rw [ecs, eco]
          refine G_icmpeq (tgt := 58) (nx := 55) ⟨dX12_copy_52, rfl⟩ rfl (fun c_52 => ?_) (fun c_52 => ?_)
          · refine G_iload_5 (nx := 60) ⟨dX12_copy_58, rfl⟩ ?_
            refine G_iflt (tgt := 99) (nx := 63) ⟨dX12_copy_60, rfl⟩ rfl (fun c_60 => ?_) (fun c_60 => ?_)
            · refine G_bipush (nx := 101) ⟨dX12_copy_99, rfl⟩ cb_m12 ?_
              refine G_iret ⟨dX12_copy_101, rfl⟩ rfl ?_
              refine hk4 s0 o0 z y rfl hs0 rfl ho0 c_24 c_34 c_52 hz hz60 hy hy60 (fun ⟨h5, h1, h2, h3, h4⟩ => ?_)
              rw [i32_lt, toInt_0] at c_60
              omega
            · obtain ⟨N, hN, eN⟩ := i32_nat c_60
              subst eN
              refine G_iload_2 (nx := 64) ⟨dX12_copy_63, rfl⟩ ?_
              refine G_iflt (tgt := 99) (nx := 67) ⟨dX12_copy_64, rfl⟩ rfl (fun c_64 => ?_) (fun c_64 => ?_)
              · refine G_bipush (nx := 101) ⟨dX12_copy_99, rfl⟩ cb_m12 ?_
                refine G_iret ⟨dX12_copy_101, rfl⟩ rfl ?_
                refine hk4 s0 o0 z y rfl hs0 rfl ho0 c_24 c_34 c_52 hz hz60 hy hy60 (fun ⟨h5, h1, h2, h3, h4⟩ => ?_)
                rw [i32_lt, toInt_0] at c_64
                omega
              · refine G_iload_4 (nx := 69) ⟨dX12_copy_67, rfl⟩ ?_
                refine G_iflt (tgt := 99) (nx := 72) ⟨dX12_copy_69, rfl⟩ rfl (fun c_69 => ?_) (fun c_69 => ?_)
                · refine G_bipush (nx := 101) ⟨dX12_copy_99, rfl⟩ cb_m12 ?_
                  refine G_iret ⟨dX12_copy_101, rfl⟩ rfl ?_
                  refine hk4 s0 o0 z y rfl hs0 rfl ho0 c_24 c_34 c_52 hz hz60 hy hy60 (fun ⟨h5, h1, h2, h3, h4⟩ => ?_)
                  rw [i32_lt, toInt_0] at c_69
                  omega
                · refine G_iload_2 (nx := 73) ⟨dX12_copy_72, rfl⟩ ?_
                  refine G_aload_0 (nx := 74) ⟨dX12_copy_73, rfl⟩ ?_
                  refine G_getr (nx := 77) (k := 75) (r := 104) ⟨dX12_copy_74, rfl⟩ fX12_100 q_75 yr_12_44 (r_75_44 _) ?_
                  refine G_iload_1 (nx := 78) ⟨dX12_copy_77, rfl⟩ ?_
                  refine G_iald (nx := 79) (k := 104) ⟨dX12_copy_78, rfl⟩ q_104 (by first | assumption | decide | (unfold vp_in; decide)) ?_
                  refine G_iload_5 (nx := 81) ⟨dX12_copy_79, rfl⟩ ?_
                  refine G_isub (nx := 82) ⟨dX12_copy_81, rfl⟩ ?_
                  rw [ecs, hz]
                  refine G_icmpgt (tgt := 99) (nx := 85) ⟨dX12_copy_82, rfl⟩ rfl (fun c_82 => ?_) (fun c_82 => ?_)
                  · refine G_bipush (nx := 101) ⟨dX12_copy_99, rfl⟩ cb_m12 ?_
                    refine G_iret ⟨dX12_copy_101, rfl⟩ rfl ?_
                    refine hk4 s0 o0 z y rfl hs0 rfl ho0 c_24 c_34 c_52 hz hz60 hy hy60 (fun ⟨h5, h1, h2, h3, h4⟩ => ?_)
                    rw [i32_lt, sub_toInt_nI (by omega) (by omega)] at c_82
                    rw [nI_toInt (by omega)] at h3 h4 h5
                    omega
                  · refine G_iload_4 (nx := 87) ⟨dX12_copy_85, rfl⟩ ?_
                    refine G_aload_0 (nx := 88) ⟨dX12_copy_87, rfl⟩ ?_
                    refine G_getr (nx := 91) (k := 75) (r := 104) ⟨dX12_copy_88, rfl⟩ fX12_100 q_75 yr_12_44 (r_75_44 _) ?_
                    refine G_iload_3 (nx := 92) ⟨dX12_copy_91, rfl⟩ ?_
                    refine G_iald (nx := 93) (k := 104) ⟨dX12_copy_92, rfl⟩ q_104 (by first | assumption | decide | (unfold vp_in; decide)) ?_
                    refine G_iload_5 (nx := 95) ⟨dX12_copy_93, rfl⟩ ?_
                    refine G_isub (nx := 96) ⟨dX12_copy_95, rfl⟩ ?_
                    rw [eco, hy]
                    refine G_icmple (tgt := 102) (nx := 99) ⟨dX12_copy_96, rfl⟩ rfl (fun c_96 => ?_) (fun c_96 => ?_)
                    · refine G_bipush (nx := 104) ⟨dX12_copy_102, rfl⟩ cb_60 ?_
                      refine G_iload_1 (nx := 105) ⟨dX12_copy_104, rfl⟩ ?_
                      refine G_imul (nx := 106) ⟨dX12_copy_105, rfl⟩ ?_
                      refine G_iload_2 (nx := 107) ⟨dX12_copy_106, rfl⟩ ?_
                      refine G_iadd (nx := 108) ⟨dX12_copy_107, rfl⟩ ?_
                      refine G_bipush (nx := 110) ⟨dX12_copy_108, rfl⟩ cb_60 ?_
                      refine G_iload_3 (nx := 111) ⟨dX12_copy_110, rfl⟩ ?_
                      refine G_imul (nx := 112) ⟨dX12_copy_111, rfl⟩ ?_
                      refine G_iload_4 (nx := 114) ⟨dX12_copy_112, rfl⟩ ?_
                      refine G_iadd (nx := 115) ⟨dX12_copy_114, rfl⟩ ?_
                      refine G_icmpge (tgt := 122) (nx := 118) ⟨dX12_copy_115, rfl⟩ rfl (fun c_115 => ?_) (fun c_115 => ?_)
                      · refine G_iconst (nx := 123) ⟨dX12_copy_122, rfl⟩ ci_0 ?_
                        refine G_istore_6 (nx := 125) ⟨dX12_copy_123, rfl⟩ rfl rfl ?_
                        refine G_iconst (nx := 126) ⟨dX12_copy_125, rfl⟩ ci_0 ?_
                        refine G_istore_7 (nx := 128) ⟨dX12_copy_126, rfl⟩ rfl rfl ?_
                        obtain ⟨i0, hi0, ei⟩ := i32_nat c_64
                        obtain ⟨j0, hj0, ej⟩ := i32_nat c_69
                        subst ei
                        subst ej
                        rw [i32_lt, sub_toInt_nI (by omega) (by omega), nI_toInt hi0] at c_82
                        rw [i32_le, sub_toInt_nI (by omega) (by omega), nI_toInt hj0] at c_96
                        rw [it_nI, it_nI, nI_le_iff (by omega) (by omega)] at c_115
                        refine G_L (by rw [← nI_0]; rfl) (lM_copy (up := false) hs0 ho0 (by omega) (by omega) (by symm; rw [decide_eq_false_iff_not]; omega) (hk s0 o0 z y i0 j0 N rfl hs0 rfl ho0 c_24 c_34 c_52 hz hz60 hy hy60 rfl rfl rfl (by omega) (by omega)) _ 0 I UU rfl rfl (by omega) (fun a _ => rfl) (fun x => ?_))
                        first | (rw [if_pos rfl, if_neg (by omega)]) | (rw [if_neg (by decide), if_neg (by omega)])
                      · refine G_iconst (nx := 119) ⟨dX12_copy_118, rfl⟩ ci_1 ?_
                        refine G_goto (tgt := 123) ⟨dX12_copy_119, rfl⟩ rfl ?_
                        refine G_istore_6 (nx := 125) ⟨dX12_copy_123, rfl⟩ rfl rfl ?_
                        refine G_iconst (nx := 126) ⟨dX12_copy_125, rfl⟩ ci_0 ?_
                        refine G_istore_7 (nx := 128) ⟨dX12_copy_126, rfl⟩ rfl rfl ?_
                        obtain ⟨i0, hi0, ei⟩ := i32_nat c_64
                        obtain ⟨j0, hj0, ej⟩ := i32_nat c_69
                        subst ei
                        subst ej
                        rw [i32_lt, sub_toInt_nI (by omega) (by omega), nI_toInt hi0] at c_82
                        rw [i32_le, sub_toInt_nI (by omega) (by omega), nI_toInt hj0] at c_96
                        rw [it_nI, it_nI, nI_le_iff (by omega) (by omega)] at c_115
                        refine G_L (by rw [← nI_0]; rfl) (lM_copy (up := true) hs0 ho0 (by omega) (by omega) (by symm; rw [decide_eq_true_eq]; omega) (hk s0 o0 z y i0 j0 N rfl hs0 rfl ho0 c_24 c_34 c_52 hz hz60 hy hy60 rfl rfl rfl (by omega) (by omega)) _ 0 I UU rfl rfl (by omega) (fun a _ => rfl) (fun x => ?_))
                        first | (rw [if_pos rfl, if_neg (by omega)]) | (rw [if_neg (by decide), if_neg (by omega)])
                    · refine G_bipush (nx := 101) ⟨dX12_copy_99, rfl⟩ cb_m12 ?_
                      refine G_iret ⟨dX12_copy_101, rfl⟩ rfl ?_
                      refine hk4 s0 o0 z y rfl hs0 rfl ho0 c_24 c_34 c_52 hz hz60 hy hy60 (fun ⟨h5, h1, h2, h3, h4⟩ => ?_)
                      rw [i32_le, sub_toInt_nI (by omega) (by omega)] at c_96
                      rw [nI_toInt (by omega)] at h3 h4 h5
                      omega
          · refine G_bipush (nx := 57) ⟨dX12_copy_55, rfl⟩ cb_m13 ?_
            refine G_iret ⟨dX12_copy_57, rfl⟩ rfl ?_
            exact hk3 s0 o0 rfl hs0 rfl ho0 c_24 c_34 c_52
        · refine G_bipush (nx := 39) ⟨dX12_copy_37, rfl⟩ cb_m11 ?_
          refine G_iret ⟨dX12_copy_39, rfl⟩ rfl ?_
          exact hk2 s0 o0 rfl hs0 rfl ho0 (Or.inr c_34)
    · refine G_bipush (nx := 16) ⟨dX12_copy_14, rfl⟩ cb_m2 ?_
      refine G_iret ⟨dX12_copy_16, rfl⟩ rfl ?_
      rw [bi_0] at c_11
      exact hk1 (by simp [c_11])

end M56
