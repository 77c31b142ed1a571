
theorem sr_br {n : Nat} {gr : Nat → Nat} : ∀ (f P ta : Nat) (k : Int) (dp : Nat) (nd : ND) (p : Nat), nd ∈ (sr n gr f P ta k dp).1 → nd.1 = some p → p < n := by
  intro f
  induction f with
  | zero => intro P ta k dp nd p h; simp [sr] at h
  | succ f ih =>
    intro P ta k dp nd p h e
    simp only [sr] at h
    split at h
    · simp at h; rw [h] at e; cases e
    · split at h
      · simp at h; rw [h] at e; cases e
      · rename_i q hq
        have hqn := (bz_lt gr P n q hq).1
        split at h
        · rw [List.mem_cons] at h
          rcases h with h | h
          · rw [h] at e; cases e; exact hqn
          · exact ih _ _ _ _ nd p h e
        · rw [List.mem_cons, List.mem_append] at h
          rcases h with h | h | h
          · rw [h] at e; cases e; exact hqn
          · exact ih _ _ _ _ nd p h e
          · exact ih _ _ _ _ nd p h e
theorem cvS_small {x : Option Nat} (h : ∀ p, x = some p → p < 12) : cvS 1 (mv x) = mv x := by
  cases x with
  | none => rfl
  | some p =>
    have hp := h p rfl
    show cvS 1 (nI p) = nI p
    rcases (show p = 0 ∨ p = 1 ∨ p = 2 ∨ p = 3 ∨ p = 4 ∨ p = 5 ∨ p = 6 ∨ p = 7 ∨ p = 8 ∨ p = 9 ∨ p = 10 ∨ p = 11 by omega) with z | z | z | z | z | z | z | z | z | z | z | z <;> subst z <;> rfl
section X89
variable {l : Launch} {d : Nat} {K : AK} {I : AI} {J : AJ} {g : Bool} {n : Nat} {gr : Nat → Nat}

theorem cX_kernel {k q : Int32} (hX : XG I 1 4 n gr) (hW : WG n gr) (hk1 : (inR k 0 12 && inR q 0 4) = false → K (.int (-2)) I J (rX g)) (hk : ∀ (k0 : Nat) (I' : AI), k = nI k0 → k0 ≤ 12 → inR q 0 4 = true → sb fKr I I' → K (.int (if q = 0 then nI (kit n gr k0 (kR n gr k0)).1 else if q = 1 then nI (kit n gr k0 (kR n gr k0)).2.1 else if q = 2 then iI ((kit n gr k0 (kR n gr k0)).2.2 + 20) else if q = 3 then nI (kR n gr k0) else bi (decide ((kit n gr k0 (kR n gr k0)).2.2 < 0 ∨ 2 * (kit n gr k0 (kR n gr k0)).2.2 < (pc (kit n gr k0 (kR n gr k0)).1 : Int))))) I' J (rX g)) : G l (d + 40) mX11_kernel K 0 [.ref 0, .int k, .int q] [] I J (rX g) := by
  refine G_iload_1 (nx := 1) ⟨dX11_kernel_0, rfl⟩ ?_
  refine G_cs1 (nx := 4) ⟨dX11_kernel_1, rfl⟩ kX11_261 rfl rfl (Nat.le_of_ble_eq_true rfl) (Nat.le_of_ble_eq_true rfl) (cX_isK ?_)
  refine G_ifeq (tgt := 16) (nx := 7) ⟨dX11_kernel_4, rfl⟩ rfl (fun c_4 => ?_) (fun c_4 => ?_)
  · refine G_bipush (nx := 18) ⟨dX11_kernel_16, rfl⟩ cb_m2 ?_
    refine G_iret ⟨dX11_kernel_18, rfl⟩ rfl ?_
    rw [bi_0] at c_4
    exact hk1 (by rw [c_4]; rfl)
  · rw [bi_n0] at c_4
    obtain ⟨k0, hk0, ek⟩ := k_ex c_4
    subst ek
    refine G_iload_2 (nx := 8) ⟨dX11_kernel_7, rfl⟩ ?_
    refine G_iconst (nx := 9) ⟨dX11_kernel_8, rfl⟩ ci_0 ?_
    refine G_iconst (nx := 10) ⟨dX11_kernel_9, rfl⟩ ci_4 ?_
    refine G_cs3 (nx := 13) ⟨dX11_kernel_10, rfl⟩ kX11_126 rfl rfl (Nat.le_of_ble_eq_true rfl) (Nat.le_of_ble_eq_true rfl) (cX_within ?_)
    refine G_ifne (tgt := 19) (nx := 16) ⟨dX11_kernel_13, rfl⟩ rfl (fun c_13 => ?_) (fun c_13 => ?_)
    · rw [bi_n0] at c_13
      have hn := hX.2.1
      have hp12 := pow12 hn
      have hkl := kit_lt (k0 := (k0 : Int)) hW.1 (kR n gr k0)
      have hkk := kit_k (n := n) (gr := gr) (k0 := (k0 : Int)) (kR n gr k0)
      obtain ⟨_, _, hkr⟩ := kR_s (k0 := (k0 : Int)) hn hW.1
      refine G_aload_0 (nx := 20) ⟨dX11_kernel_19, rfl⟩ ?_
      refine G_getr (nx := 23) (k := 0) (r := 25) ⟨dX11_kernel_20, rfl⟩ fX11_48 q_0 yr_11_6 (r_0_6 _) ?_
      refine G_aload_0 (nx := 24) ⟨dX11_kernel_23, rfl⟩ ?_
      refine G_getr (nx := 27) (k := 0) (r := 1) ⟨dX11_kernel_24, rfl⟩ fX11_10 q_0 yr_11_0 (r_0_0 _) ?_
      refine G_iload_1 (nx := 28) ⟨dX11_kernel_27, rfl⟩ ?_
      refine G_cvv2 (nx := 31) ⟨dX11_kernel_28, rfl⟩ kX11_264 rfl q_25 rfl (Nat.le_of_ble_eq_true rfl) (Nat.le_of_ble_eq_true rfl) (cK_reduce hX hW hk0 (fun I1 hKS hKR hs1 => ?_))
      refine G_iload_2 (nx := 32) ⟨dX11_kernel_31, rfl⟩ ?_
      rcases sw_0_3 _ with c_32 | c_32 | c_32 | c_32 | c_32
      · refine G_tabAt (v := 0) (tgt := 64) (nx := 64) ⟨dX11_kernel_32, rfl⟩ c_32 (by decide) (by decide) (off := 32) rfl rfl ?_
        refine G_aload_0 (nx := 65) ⟨dX11_kernel_64, rfl⟩ ?_
        refine G_getr (nx := 68) (k := 0) (r := 25) ⟨dX11_kernel_65, rfl⟩ fX11_48 q_0 yr_11_6 (r_0_6 _) ?_
        refine G_geti (nx := 71) (k := 25) ⟨dX11_kernel_68, rfl⟩ fX11_268 q_25 yi_3_5 ?_
        refine G_iret ⟨dX11_kernel_71, rfl⟩ rfl ?_
        refine K_v (congrArg Value.int ?_) (hk k0 I1 rfl hk0 c_13 hs1)
        rw [hKS.2.1]
        simp [c_32]
      · refine G_tabAt (v := 1) (tgt := 72) (nx := 64) ⟨dX11_kernel_32, rfl⟩ c_32 (by decide) (by decide) (off := 40) rfl rfl ?_
        refine G_aload_0 (nx := 73) ⟨dX11_kernel_72, rfl⟩ ?_
        refine G_getr (nx := 76) (k := 0) (r := 25) ⟨dX11_kernel_73, rfl⟩ fX11_48 q_0 yr_11_6 (r_0_6 _) ?_
        refine G_geti (nx := 79) (k := 25) ⟨dX11_kernel_76, rfl⟩ fX11_271 q_25 yi_3_6 ?_
        refine G_iret ⟨dX11_kernel_79, rfl⟩ rfl ?_
        refine K_v (congrArg Value.int ?_) (hk k0 I1 rfl hk0 c_13 hs1)
        rw [hKS.2.2.1]
        simp [c_32]
      · refine G_tabAt (v := 2) (tgt := 80) (nx := 64) ⟨dX11_kernel_32, rfl⟩ c_32 (by decide) (by decide) (off := 48) rfl rfl ?_
        refine G_aload_0 (nx := 81) ⟨dX11_kernel_80, rfl⟩ ?_
        refine G_getr (nx := 84) (k := 0) (r := 25) ⟨dX11_kernel_81, rfl⟩ fX11_48 q_0 yr_11_6 (r_0_6 _) ?_
        refine G_geti (nx := 87) (k := 25) ⟨dX11_kernel_84, rfl⟩ fX11_274 q_25 yi_3_7 ?_
        refine G_bipush (nx := 89) ⟨dX11_kernel_87, rfl⟩ cb_20 ?_
        refine G_iadd (nx := 90) ⟨dX11_kernel_89, rfl⟩ ?_
        refine G_iret ⟨dX11_kernel_90, rfl⟩ rfl ?_
        refine K_v (congrArg Value.int ?_) (hk k0 I1 rfl hk0 c_13 hs1)
        rw [hKS.2.2.2, show (20 : Int32) = iI 20 by decide, iI_add]
        simp [c_32]
      · refine G_tabAt (v := 3) (tgt := 91) (nx := 64) ⟨dX11_kernel_32, rfl⟩ c_32 (by decide) (by decide) (off := 59) rfl rfl ?_
        refine G_aload_0 (nx := 92) ⟨dX11_kernel_91, rfl⟩ ?_
        refine G_getr (nx := 95) (k := 0) (r := 25) ⟨dX11_kernel_92, rfl⟩ fX11_48 q_0 yr_11_6 (r_0_6 _) ?_
        refine G_geti (nx := 98) (k := 25) ⟨dX11_kernel_95, rfl⟩ fX11_277 q_25 yi_3_4 ?_
        refine G_iret ⟨dX11_kernel_98, rfl⟩ rfl ?_
        refine K_v (congrArg Value.int ?_) (hk k0 I1 rfl hk0 c_13 hs1)
        rw [hKS.1]
        simp [c_32]
      · refine G_tabOut (tgt := 99) (nx := 64) ⟨dX11_kernel_32, rfl⟩ c_32 rfl ?_
        refine G_aload_0 (nx := 100) ⟨dX11_kernel_99, rfl⟩ ?_
        refine G_getr (nx := 103) (k := 0) (r := 25) ⟨dX11_kernel_100, rfl⟩ fX11_48 q_0 yr_11_6 (r_0_6 _) ?_
        refine G_cv0 (nx := 106) ⟨dX11_kernel_103, rfl⟩ kX11_280 rfl q_25 rfl (Nat.le_of_ble_eq_true rfl) (Nat.le_of_ble_eq_true rfl) (cK_refuses (by omega) (by omega) (by omega) hKS ?_)
        refine G_ifeq (tgt := 113) (nx := 109) ⟨dX11_kernel_106, rfl⟩ rfl (fun c_106 => ?_) (fun c_106 => ?_)
        · refine G_iconst (nx := 114) ⟨dX11_kernel_113, rfl⟩ ci_0 ?_
          refine G_iret ⟨dX11_kernel_114, rfl⟩ rfl ?_
          refine K_v (congrArg Value.int ?_) (hk k0 I1 rfl hk0 c_13 hs1)
          obtain ⟨n0, n1, n2, n3⟩ := sw_ne03 c_32
          rw [if_neg n0, if_neg n1, if_neg n2, if_neg n3]
          rw [bi_0] at c_106
          rw [c_106]
          rfl
        · refine G_iconst (nx := 110) ⟨dX11_kernel_109, rfl⟩ ci_1 ?_
          refine G_goto (tgt := 114) ⟨dX11_kernel_110, rfl⟩ rfl ?_
          refine G_iret ⟨dX11_kernel_114, rfl⟩ rfl ?_
          refine K_v (congrArg Value.int ?_) (hk k0 I1 rfl hk0 c_13 hs1)
          obtain ⟨n0, n1, n2, n3⟩ := sw_ne03 c_32
          rw [if_neg n0, if_neg n1, if_neg n2, if_neg n3]
          rw [bi_n0] at c_106
          rw [c_106]
          rfl
    · refine G_bipush (nx := 18) ⟨dX11_kernel_16, rfl⟩ cb_m2 ?_
      refine G_iret ⟨dX11_kernel_18, rfl⟩ rfl ?_
      rw [bi_0] at c_13
      exact hk1 (by rw [c_13, Bool.and_false])

theorem cX_round {k i q : Int32} (hX : XG I 1 4 n gr) (hW : WG n gr) (hk1 : (inR k 0 12 && inR q 0 2) = false → K (.int (-2)) I J (rX g)) (hk0 : ∀ (k0 : Nat) (I' : AI), k = nI k0 → k0 ≤ 12 → inR q 0 2 = true → i < 0 → sb fKr I I' → K (.int (-2)) I' J (rX g)) (hk : ∀ (k0 : Nat) (I' : AI), k = nI k0 → k0 ≤ 12 → inR q 0 2 = true → sb fKr I I' → (∀ j, i = nI j → j < 2 ^ 31 → K (.int (if j < kR n gr k0 then (match ks n gr (kit n gr k0 j).1 (kit n gr k0 j).2.2 with | some x => if q = 0 then nI x.1 else if q = 1 then nI x.2.1 else nI x.2.2 | none => -2) else -2)) I' J (rX g))) : G l (d + 40) mX11_round K 0 [.ref 0, .int k, .int i, .int q] [] I J (rX g) := by
  refine G_iload_1 (nx := 1) ⟨dX11_round_0, rfl⟩ ?_
  refine G_cs1 (nx := 4) ⟨dX11_round_1, rfl⟩ kX11_261 rfl rfl (Nat.le_of_ble_eq_true rfl) (Nat.le_of_ble_eq_true rfl) (cX_isK ?_)
  refine G_ifeq (tgt := 16) (nx := 7) ⟨dX11_round_4, rfl⟩ rfl (fun c_4 => ?_) (fun c_4 => ?_)
  · refine G_bipush (nx := 18) ⟨dX11_round_16, rfl⟩ cb_m2 ?_
    refine G_iret ⟨dX11_round_18, rfl⟩ rfl ?_
    rw [bi_0] at c_4
    exact hk1 (by rw [c_4]; rfl)
  · rw [bi_n0] at c_4
    obtain ⟨k0, hk0', ek⟩ := k_ex c_4
    subst ek
    refine G_iload_3 (nx := 8) ⟨dX11_round_7, rfl⟩ ?_
    refine G_iconst (nx := 9) ⟨dX11_round_8, rfl⟩ ci_0 ?_
    refine G_iconst (nx := 10) ⟨dX11_round_9, rfl⟩ ci_2 ?_
    refine G_cs3 (nx := 13) ⟨dX11_round_10, rfl⟩ kX11_126 rfl rfl (Nat.le_of_ble_eq_true rfl) (Nat.le_of_ble_eq_true rfl) (cX_within ?_)
    refine G_ifne (tgt := 19) (nx := 16) ⟨dX11_round_13, rfl⟩ rfl (fun c_13 => ?_) (fun c_13 => ?_)
    · rw [bi_n0] at c_13
      have hn := hX.2.1
      have hp12 := pow12 hn
      have hkl := kit_lt (k0 := (k0 : Int)) hW.1 (kR n gr k0)
      have hkk := kit_k (n := n) (gr := gr) (k0 := (k0 : Int)) (kR n gr k0)
      obtain ⟨hkg, _, hkr⟩ := kR_s (k0 := (k0 : Int)) hn hW.1
      refine G_aload_0 (nx := 20) ⟨dX11_round_19, rfl⟩ ?_
      refine G_getr (nx := 23) (k := 0) (r := 25) ⟨dX11_round_20, rfl⟩ fX11_48 q_0 yr_11_6 (r_0_6 _) ?_
      refine G_aload_0 (nx := 24) ⟨dX11_round_23, rfl⟩ ?_
      refine G_getr (nx := 27) (k := 0) (r := 1) ⟨dX11_round_24, rfl⟩ fX11_10 q_0 yr_11_0 (r_0_0 _) ?_
      refine G_iload_1 (nx := 28) ⟨dX11_round_27, rfl⟩ ?_
      refine G_cvv2 (nx := 31) ⟨dX11_round_28, rfl⟩ kX11_264 rfl q_25 rfl (Nat.le_of_ble_eq_true rfl) (Nat.le_of_ble_eq_true rfl) (cK_reduce hX hW hk0' (fun I1 hKS hKR hs1 => ?_))
      refine G_iload_2 (nx := 32) ⟨dX11_round_31, rfl⟩ ?_
      refine G_iflt (tgt := 46) (nx := 35) ⟨dX11_round_32, rfl⟩ rfl (fun c_32 => ?_) (fun c_32 => ?_)
      · refine G_bipush (nx := 48) ⟨dX11_round_46, rfl⟩ cb_m2 ?_
        refine G_iret ⟨dX11_round_48, rfl⟩ rfl ?_
        exact hk0 k0 I1 rfl hk0' c_13 c_32 hs1
      · obtain ⟨j, hj, ej⟩ := i32_nat c_32
        subst ej
        refine G_iload_2 (nx := 36) ⟨dX11_round_35, rfl⟩ ?_
        refine G_aload_0 (nx := 37) ⟨dX11_round_36, rfl⟩ ?_
        refine G_getr (nx := 40) (k := 0) (r := 25) ⟨dX11_round_37, rfl⟩ fX11_48 q_0 yr_11_6 (r_0_6 _) ?_
        refine G_geti (nx := 43) (k := 25) ⟨dX11_round_40, rfl⟩ fX11_277 q_25 yi_3_4 ?_
        rw [hKS.1]
        refine G_icmplt (tgt := 49) (nx := 46) ⟨dX11_round_43, rfl⟩ rfl (fun c_43 => ?_) (fun c_43 => ?_)
        · rw [nI_lt_iff (by omega) (by omega)] at c_43
          have hjr : j < kR n gr k0 := by omega
          have hin : vp_in (nI j) 12 := vp_in_nI (by omega) (by decide)
          have eci := cl_nI (p := j) (by omega)
          obtain ⟨x, hks⟩ : ∃ x, ks n gr (kit n gr k0 j).1 (kit n gr k0 j).2.2 = some x := by
            have h1 := hkg j hjr
            unfold kgo at h1
            rw [Bool.and_eq_true] at h1
            exact Option.isSome_iff_exists.mp h1.2
          refine G_iload_3 (nx := 50) ⟨dX11_round_49, rfl⟩ ?_
          rcases (q3 c_13) with c_50 | c_50 | c_50
          · refine G_lookAt (v := 0) (tgt := 76) (nx := 76) ⟨dX11_round_50, rfl⟩ c_50 (by decide) (off := 26) (by decide) rfl ?_
            refine G_aload_0 (nx := 77) ⟨dX11_round_76, rfl⟩ ?_
            refine G_getr (nx := 80) (k := 0) (r := 25) ⟨dX11_round_77, rfl⟩ fX11_48 q_0 yr_11_6 (r_0_6 _) ?_
            refine G_getr (nx := 83) (k := 25) (r := 26) ⟨dX11_round_80, rfl⟩ fX11_284 q_25 yr_3_1 (r_25_1 _) ?_
            refine G_iload_2 (nx := 84) ⟨dX11_round_83, rfl⟩ ?_
            refine G_iald (nx := 85) (k := 26) ⟨dX11_round_84, rfl⟩ q_26 (by first | assumption | decide | (unfold vp_in; decide)) ?_
            refine G_iret ⟨dX11_round_85, rfl⟩ rfl ?_
            refine K_v (congrArg Value.int ?_) (hk k0 I1 rfl hk0' c_13 hs1 j rfl hj)
            rw [if_pos hjr, hks, eci, (hKR j hjr x hks).1]
            simp [c_50]
          · refine G_lookAt (v := 1) (tgt := 86) (nx := 76) ⟨dX11_round_50, rfl⟩ c_50 (by decide) (off := 36) (by decide) rfl ?_
            refine G_aload_0 (nx := 87) ⟨dX11_round_86, rfl⟩ ?_
            refine G_getr (nx := 90) (k := 0) (r := 25) ⟨dX11_round_87, rfl⟩ fX11_48 q_0 yr_11_6 (r_0_6 _) ?_
            refine G_getr (nx := 93) (k := 25) (r := 27) ⟨dX11_round_90, rfl⟩ fX11_287 q_25 yr_3_2 (r_25_2 _) ?_
            refine G_iload_2 (nx := 94) ⟨dX11_round_93, rfl⟩ ?_
            refine G_iald (nx := 95) (k := 27) ⟨dX11_round_94, rfl⟩ q_27 (by first | assumption | decide | (unfold vp_in; decide)) ?_
            refine G_iret ⟨dX11_round_95, rfl⟩ rfl ?_
            refine K_v (congrArg Value.int ?_) (hk k0 I1 rfl hk0' c_13 hs1 j rfl hj)
            rw [if_pos hjr, hks, eci, (hKR j hjr x hks).2.1]
            simp [c_50]
          · refine G_lookAt (v := 2) (tgt := 96) (nx := 76) ⟨dX11_round_50, rfl⟩ c_50 (by decide) (off := 46) (by decide) rfl ?_
            refine G_aload_0 (nx := 97) ⟨dX11_round_96, rfl⟩ ?_
            refine G_getr (nx := 100) (k := 0) (r := 25) ⟨dX11_round_97, rfl⟩ fX11_48 q_0 yr_11_6 (r_0_6 _) ?_
            refine G_getr (nx := 103) (k := 25) (r := 28) ⟨dX11_round_100, rfl⟩ fX11_290 q_25 yr_3_3 (r_25_3 _) ?_
            refine G_iload_2 (nx := 104) ⟨dX11_round_103, rfl⟩ ?_
            refine G_iald (nx := 105) (k := 28) ⟨dX11_round_104, rfl⟩ q_28 (by first | assumption | decide | (unfold vp_in; decide)) ?_
            refine G_iret ⟨dX11_round_105, rfl⟩ rfl ?_
            refine K_v (congrArg Value.int ?_) (hk k0 I1 rfl hk0' c_13 hs1 j rfl hj)
            rw [if_pos hjr, hks, eci, (hKR j hjr x hks).2.2]
            simp [c_50]
        · refine G_bipush (nx := 48) ⟨dX11_round_46, rfl⟩ cb_m2 ?_
          refine G_iret ⟨dX11_round_48, rfl⟩ rfl ?_
          rw [nI_lt_iff (by omega) (by omega)] at c_43
          refine K_v (congrArg Value.int ?_) (hk k0 I1 rfl hk0' c_13 hs1 j rfl hj)
          rw [if_neg (by omega)]
    · refine G_bipush (nx := 18) ⟨dX11_round_16, rfl⟩ cb_m2 ?_
      refine G_iret ⟨dX11_round_18, rfl⟩ rfl ?_
      rw [bi_0] at c_13
      exact hk1 (by rw [c_13, Bool.and_false])

theorem cX_pack {wh : Int32} (hX : XG I 1 4 n gr) (hk1 : inR wh 0 1 = false → K (.int (-2)) I J (rX g)) (hk : ∀ (I' : AI), inR wh 0 1 = true → sb fPk I I' → K (.int (if wh = 0 then nI (pkA n gr (2 ^ n) (2 ^ n - 1)).1 else nI (pkA n gr (2 ^ n) (2 ^ n - 1)).2)) I' J (rX g)) : G l (d + 40) mX11_pack K 0 [.ref 0, .int wh] [] I J (rX g) := by
  refine G_iload_1 (nx := 1) ⟨dX11_pack_0, rfl⟩ ?_
  refine G_iconst (nx := 2) ⟨dX11_pack_1, rfl⟩ ci_0 ?_
  refine G_iconst (nx := 3) ⟨dX11_pack_2, rfl⟩ ci_1 ?_
  refine G_cs3 (nx := 6) ⟨dX11_pack_3, rfl⟩ kX11_126 rfl rfl (Nat.le_of_ble_eq_true rfl) (Nat.le_of_ble_eq_true rfl) (cX_within ?_)
  refine G_ifne (tgt := 12) (nx := 9) ⟨dX11_pack_6, rfl⟩ rfl (fun c_6 => ?_) (fun c_6 => ?_)
  · rw [bi_n0] at c_6
    refine G_aload_0 (nx := 13) ⟨dX11_pack_12, rfl⟩ ?_
    refine G_getr (nx := 16) (k := 0) (r := 34) ⟨dX11_pack_13, rfl⟩ fX11_55 q_0 yr_11_7 (r_0_7 _) ?_
    refine G_aload_0 (nx := 17) ⟨dX11_pack_16, rfl⟩ ?_
    refine G_getr (nx := 20) (k := 0) (r := 1) ⟨dX11_pack_17, rfl⟩ fX11_10 q_0 yr_11_0 (r_0_0 _) ?_
    refine G_cvv1 (nx := 23) ⟨dX11_pack_20, rfl⟩ kX11_293 rfl q_34 rfl (Nat.le_of_ble_eq_true rfl) (Nat.le_of_ble_eq_true rfl) (cP_best hX (fun I1 f1 f2 hs1 => ?_))
    refine G_iload_1 (nx := 24) ⟨dX11_pack_23, rfl⟩ ?_
    refine G_ifne (tgt := 37) (nx := 27) ⟨dX11_pack_24, rfl⟩ rfl (fun c_24 => ?_) (fun c_24 => ?_)
    · refine G_aload_0 (nx := 38) ⟨dX11_pack_37, rfl⟩ ?_
      refine G_getr (nx := 41) (k := 0) (r := 34) ⟨dX11_pack_38, rfl⟩ fX11_55 q_0 yr_11_7 (r_0_7 _) ?_
      refine G_geti (nx := 44) (k := 34) ⟨dX11_pack_41, rfl⟩ fX11_299 q_34 yi_5_2 ?_
      refine G_iret ⟨dX11_pack_44, rfl⟩ rfl ?_
      refine K_v (congrArg Value.int ?_) (hk I1 c_6 hs1)
      rw [if_neg c_24, f2]
    · refine G_aload_0 (nx := 28) ⟨dX11_pack_27, rfl⟩ ?_
      refine G_getr (nx := 31) (k := 0) (r := 34) ⟨dX11_pack_28, rfl⟩ fX11_55 q_0 yr_11_7 (r_0_7 _) ?_
      refine G_geti (nx := 34) (k := 34) ⟨dX11_pack_31, rfl⟩ fX11_296 q_34 yi_5_1 ?_
      refine G_goto (tgt := 44) ⟨dX11_pack_34, rfl⟩ rfl ?_
      refine G_iret ⟨dX11_pack_44, rfl⟩ rfl ?_
      refine K_v (congrArg Value.int ?_) (hk I1 c_6 hs1)
      rw [if_pos c_24, f1]
  · refine G_bipush (nx := 11) ⟨dX11_pack_9, rfl⟩ cb_m2 ?_
    refine G_iret ⟨dX11_pack_11, rfl⟩ rfl ?_
    rw [bi_0] at c_6
    exact hk1 c_6

theorem cX_search {k q : Int32} (hX : XG I 1 4 n gr) (hW : WG n gr) (hk1 : (inR k 0 12 && inR q 0 4) = false → K (.int (-2)) I J (rX g)) (hk : ∀ (k0 : Nat) (I' : AI), k = nI k0 → k0 ≤ 12 → inR q 0 4 = true → sb fSr I I' → K (.int (if q = 0 then bi (sa n gr k0).2.isSome else if q = 1 then nI (sa n gr k0).1.length else if q = 2 then mv (sa n gr k0).2 else if q = 3 then nI (rfc (sa n gr k0).1) else nI (dpm (sa n gr k0).1))) I' J (rX g)) : G l (d + 40) mX11_search K 0 [.ref 0, .int k, .int q] [] I J (rX g) := by
  refine G_iload_1 (nx := 1) ⟨dX11_search_0, rfl⟩ ?_
  refine G_cs1 (nx := 4) ⟨dX11_search_1, rfl⟩ kX11_261 rfl rfl (Nat.le_of_ble_eq_true rfl) (Nat.le_of_ble_eq_true rfl) (cX_isK ?_)
  refine G_ifeq (tgt := 16) (nx := 7) ⟨dX11_search_4, rfl⟩ rfl (fun c_4 => ?_) (fun c_4 => ?_)
  · refine G_bipush (nx := 18) ⟨dX11_search_16, rfl⟩ cb_m2 ?_
    refine G_iret ⟨dX11_search_18, rfl⟩ rfl ?_
    rw [bi_0] at c_4
    exact hk1 (by rw [c_4]; rfl)
  · rw [bi_n0] at c_4
    obtain ⟨k0, hk0, ek⟩ := k_ex c_4
    subst ek
    refine G_iload_2 (nx := 8) ⟨dX11_search_7, rfl⟩ ?_
    refine G_iconst (nx := 9) ⟨dX11_search_8, rfl⟩ ci_0 ?_
    refine G_iconst (nx := 10) ⟨dX11_search_9, rfl⟩ ci_4 ?_
    refine G_cs3 (nx := 13) ⟨dX11_search_10, rfl⟩ kX11_126 rfl rfl (Nat.le_of_ble_eq_true rfl) (Nat.le_of_ble_eq_true rfl) (cX_within ?_)
    refine G_ifne (tgt := 19) (nx := 16) ⟨dX11_search_13, rfl⟩ rfl (fun c_13 => ?_) (fun c_13 => ?_)
    · rw [bi_n0] at c_13
      refine G_aload_0 (nx := 20) ⟨dX11_search_19, rfl⟩ ?_
      refine G_getr (nx := 23) (k := 0) (r := 35) ⟨dX11_search_20, rfl⟩ fX11_62 q_0 yr_11_8 (r_0_8 _) ?_
      refine G_aload_0 (nx := 24) ⟨dX11_search_23, rfl⟩ ?_
      refine G_getr (nx := 27) (k := 0) (r := 1) ⟨dX11_search_24, rfl⟩ fX11_10 q_0 yr_11_0 (r_0_0 _) ?_
      refine G_iload_1 (nx := 28) ⟨dX11_search_27, rfl⟩ ?_
      refine G_iconst (nx := 29) ⟨dX11_search_28, rfl⟩ ci_m1 ?_
      refine G_cvv3 (nx := 32) ⟨dX11_search_29, rfl⟩ kX11_317 rfl q_35 rfl (Nat.le_of_ble_eq_true rfl) (Nat.le_of_ble_eq_true rfl) (cY_run hX hW hk0 (fun I1 hSY hFN hs1 => ?_))
      refine G_iload_2 (nx := 33) ⟨dX11_search_32, rfl⟩ ?_
      rcases sw_0_3 _ with c_33 | c_33 | c_33 | c_33 | c_33
      · refine G_tabAt (v := 0) (tgt := 64) (nx := 64) ⟨dX11_search_33, rfl⟩ c_33 (by decide) (by decide) (off := 31) rfl rfl ?_
        refine G_aload_0 (nx := 65) ⟨dX11_search_64, rfl⟩ ?_
        refine G_getr (nx := 68) (k := 0) (r := 35) ⟨dX11_search_65, rfl⟩ fX11_62 q_0 yr_11_8 (r_0_8 _) ?_
        refine G_geti (nx := 71) (k := 35) ⟨dX11_search_68, rfl⟩ fX11_321 q_35 yi_6_6 ?_
        refine G_ifeq (tgt := 78) (nx := 74) ⟨dX11_search_71, rfl⟩ rfl (fun c_71 => ?_) (fun c_71 => ?_)
        · refine G_iconst (nx := 79) ⟨dX11_search_78, rfl⟩ ci_0 ?_
          refine G_iret ⟨dX11_search_79, rfl⟩ rfl ?_
          refine K_v (congrArg Value.int ?_) (hk k0 I1 rfl hk0 c_13 hs1)
          rw [c_33, if_pos rfl]
          cases e : (sa n gr k0).2 with
          | none => rw [e] at hFN; have hF : I1 35 6 = 0 := hFN; rfl
          | some x => rw [e] at hFN; have hF : I1 35 6 = 1 ∧ I1 35 5 = nI x := hFN; rw [hF.1] at c_71; exact absurd c_71 (by decide)
        · refine G_iconst (nx := 75) ⟨dX11_search_74, rfl⟩ ci_1 ?_
          refine G_goto (tgt := 79) ⟨dX11_search_75, rfl⟩ rfl ?_
          refine G_iret ⟨dX11_search_79, rfl⟩ rfl ?_
          refine K_v (congrArg Value.int ?_) (hk k0 I1 rfl hk0 c_13 hs1)
          rw [c_33, if_pos rfl]
          cases e : (sa n gr k0).2 with
          | none => rw [e] at hFN; have hF : I1 35 6 = 0 := hFN; exact absurd hF c_71
          | some x => rw [e] at hFN; have hF : I1 35 6 = 1 ∧ I1 35 5 = nI x := hFN; rfl
      · refine G_tabAt (v := 1) (tgt := 80) (nx := 64) ⟨dX11_search_33, rfl⟩ c_33 (by decide) (by decide) (off := 47) rfl rfl ?_
        refine G_aload_0 (nx := 81) ⟨dX11_search_80, rfl⟩ ?_
        refine G_getr (nx := 84) (k := 0) (r := 35) ⟨dX11_search_81, rfl⟩ fX11_62 q_0 yr_11_8 (r_0_8 _) ?_
        refine G_geti (nx := 87) (k := 35) ⟨dX11_search_84, rfl⟩ fX11_324 q_35 yi_6_2 ?_
        refine G_iret ⟨dX11_search_87, rfl⟩ rfl ?_
        refine K_v (congrArg Value.int ?_) (hk k0 I1 rfl hk0 c_13 hs1)
        rw [hSY.1]
        simp [c_33]
      · refine G_tabAt (v := 2) (tgt := 88) (nx := 64) ⟨dX11_search_33, rfl⟩ c_33 (by decide) (by decide) (off := 55) rfl rfl ?_
        refine G_aload_0 (nx := 89) ⟨dX11_search_88, rfl⟩ ?_
        refine G_getr (nx := 92) (k := 0) (r := 35) ⟨dX11_search_89, rfl⟩ fX11_62 q_0 yr_11_8 (r_0_8 _) ?_
        refine G_geti (nx := 95) (k := 35) ⟨dX11_search_92, rfl⟩ fX11_321 q_35 yi_6_6 ?_
        refine G_ifeq (tgt := 108) (nx := 98) ⟨dX11_search_95, rfl⟩ rfl (fun c_95 => ?_) (fun c_95 => ?_)
        · refine G_iconst (nx := 109) ⟨dX11_search_108, rfl⟩ ci_m1 ?_
          refine G_iret ⟨dX11_search_109, rfl⟩ rfl ?_
          refine K_v (congrArg Value.int ?_) (hk k0 I1 rfl hk0 c_13 hs1)
          rw [c_33]
          rw [if_neg (show ¬ (2 : Int32) = 0 by decide), if_neg (show ¬ (2 : Int32) = 1 by decide), if_pos rfl]
          cases e : (sa n gr k0).2 with
          | none => rw [e] at hFN; have hF : I1 35 6 = 0 := hFN; rfl
          | some x => rw [e] at hFN; have hF : I1 35 6 = 1 ∧ I1 35 5 = nI x := hFN; rw [hF.1] at c_95; exact absurd c_95 (by decide)
        · refine G_aload_0 (nx := 99) ⟨dX11_search_98, rfl⟩ ?_
          refine G_getr (nx := 102) (k := 0) (r := 35) ⟨dX11_search_99, rfl⟩ fX11_62 q_0 yr_11_8 (r_0_8 _) ?_
          refine G_geti (nx := 105) (k := 35) ⟨dX11_search_102, rfl⟩ fX11_327 q_35 yi_6_5 ?_
          refine G_goto (tgt := 109) ⟨dX11_search_105, rfl⟩ rfl ?_
          refine G_iret ⟨dX11_search_109, rfl⟩ rfl ?_
          refine K_v (congrArg Value.int ?_) (hk k0 I1 rfl hk0 c_13 hs1)
          rw [c_33]
          rw [if_neg (show ¬ (2 : Int32) = 0 by decide), if_neg (show ¬ (2 : Int32) = 1 by decide), if_pos rfl]
          cases e : (sa n gr k0).2 with
          | none => rw [e] at hFN; have hF : I1 35 6 = 0 := hFN; exact absurd hF c_95
          | some x => rw [e] at hFN; have hF : I1 35 6 = 1 ∧ I1 35 5 = nI x := hFN; exact hF.2
      · refine G_tabAt (v := 3) (tgt := 110) (nx := 64) ⟨dX11_search_33, rfl⟩ c_33 (by decide) (by decide) (off := 77) rfl rfl ?_
        refine G_aload_0 (nx := 111) ⟨dX11_search_110, rfl⟩ ?_
        refine G_getr (nx := 114) (k := 0) (r := 35) ⟨dX11_search_111, rfl⟩ fX11_62 q_0 yr_11_8 (r_0_8 _) ?_
        refine G_geti (nx := 117) (k := 35) ⟨dX11_search_114, rfl⟩ fX11_330 q_35 yi_6_3 ?_
        refine G_iret ⟨dX11_search_117, rfl⟩ rfl ?_
        refine K_v (congrArg Value.int ?_) (hk k0 I1 rfl hk0 c_13 hs1)
        rw [hSY.2.1]
        simp [c_33]
      · refine G_tabOut (tgt := 118) (nx := 64) ⟨dX11_search_33, rfl⟩ c_33 rfl ?_
        refine G_aload_0 (nx := 119) ⟨dX11_search_118, rfl⟩ ?_
        refine G_getr (nx := 122) (k := 0) (r := 35) ⟨dX11_search_119, rfl⟩ fX11_62 q_0 yr_11_8 (r_0_8 _) ?_
        refine G_geti (nx := 125) (k := 35) ⟨dX11_search_122, rfl⟩ fX11_333 q_35 yi_6_4 ?_
        refine G_iret ⟨dX11_search_125, rfl⟩ rfl ?_
        refine K_v (congrArg Value.int ?_) (hk k0 I1 rfl hk0 c_13 hs1)
        obtain ⟨n0, n1, n2, n3⟩ := sw_ne03 c_33
        rw [if_neg n0, if_neg n1, if_neg n2, if_neg n3, hSY.2.2.1]
    · refine G_bipush (nx := 18) ⟨dX11_search_16, rfl⟩ cb_m2 ?_
      refine G_iret ⟨dX11_search_18, rfl⟩ rfl ?_
      rw [bi_0] at c_13
      exact hk1 (by rw [c_13, Bool.and_false])

theorem cX_node {k i q : Int32} (hX : XG I 1 4 n gr) (hW : WG n gr) (hk1 : (inR k 0 12 && inR q 0 4) = false → K (.int (-2)) I J (rX g)) (hk00 : ∀ (k0 : Nat) (I' : AI), k = nI k0 → k0 ≤ 12 → inR q 0 4 = true → i < 0 → sb fSr I I' → K (.int (-2)) I' J (rX g)) (hk : ∀ (k0 : Nat) (I' : AI), k = nI k0 → k0 ≤ 12 → inR q 0 4 = true → sb fSr I I' → (∀ j, i = nI j → j < 2 ^ 31 → K (.int (match (sa n gr k0).1[j]? with | some nd => nodeR nd q | none => -2)) I' J (rX g))) : G l (d + 40) mX11_node K 0 [.ref 0, .int k, .int i, .int q] [] I J (rX g) := by
  refine G_iload_1 (nx := 1) ⟨dX11_node_0, rfl⟩ ?_
  refine G_cs1 (nx := 4) ⟨dX11_node_1, rfl⟩ kX11_261 rfl rfl (Nat.le_of_ble_eq_true rfl) (Nat.le_of_ble_eq_true rfl) (cX_isK ?_)
  refine G_ifeq (tgt := 16) (nx := 7) ⟨dX11_node_4, rfl⟩ rfl (fun c_4 => ?_) (fun c_4 => ?_)
  · refine G_bipush (nx := 18) ⟨dX11_node_16, rfl⟩ cb_m2 ?_
    refine G_iret ⟨dX11_node_18, rfl⟩ rfl ?_
    rw [bi_0] at c_4
    exact hk1 (by rw [c_4]; rfl)
  · rw [bi_n0] at c_4
    obtain ⟨k0, hk0, ek⟩ := k_ex c_4
    subst ek
    refine G_iload_3 (nx := 8) ⟨dX11_node_7, rfl⟩ ?_
    refine G_iconst (nx := 9) ⟨dX11_node_8, rfl⟩ ci_0 ?_
    refine G_iconst (nx := 10) ⟨dX11_node_9, rfl⟩ ci_4 ?_
    refine G_cs3 (nx := 13) ⟨dX11_node_10, rfl⟩ kX11_126 rfl rfl (Nat.le_of_ble_eq_true rfl) (Nat.le_of_ble_eq_true rfl) (cX_within ?_)
    refine G_ifne (tgt := 19) (nx := 16) ⟨dX11_node_13, rfl⟩ rfl (fun c_13 => ?_) (fun c_13 => ?_)
    · rw [bi_n0] at c_13
      have hsl := sr_len n gr 13 (2 ^ n - 1) 0 k0 0
      have h13 : (2:Nat) ^ 13 = 8192 := by decide
      have hsl2 : (sa n gr k0).1.length < 8192 := by show (sr n gr 13 (2 ^ n - 1) 0 k0 0).1.length < 8192; omega
      refine G_aload_0 (nx := 20) ⟨dX11_node_19, rfl⟩ ?_
      refine G_getr (nx := 23) (k := 0) (r := 35) ⟨dX11_node_20, rfl⟩ fX11_62 q_0 yr_11_8 (r_0_8 _) ?_
      refine G_aload_0 (nx := 24) ⟨dX11_node_23, rfl⟩ ?_
      refine G_getr (nx := 27) (k := 0) (r := 1) ⟨dX11_node_24, rfl⟩ fX11_10 q_0 yr_11_0 (r_0_0 _) ?_
      refine G_iload_1 (nx := 28) ⟨dX11_node_27, rfl⟩ ?_
      refine G_iload_2 (nx := 29) ⟨dX11_node_28, rfl⟩ ?_
      refine G_cvv3 (nx := 32) ⟨dX11_node_29, rfl⟩ kX11_317 rfl q_35 rfl (Nat.le_of_ble_eq_true rfl) (Nat.le_of_ble_eq_true rfl) (cY_run hX hW hk0 (fun I1 hSY hFN hs1 => ?_))
      refine G_iload_2 (nx := 33) ⟨dX11_node_32, rfl⟩ ?_
      refine G_iflt (tgt := 47) (nx := 36) ⟨dX11_node_33, rfl⟩ rfl (fun c_33 => ?_) (fun c_33 => ?_)
      · refine G_bipush (nx := 49) ⟨dX11_node_47, rfl⟩ cb_m2 ?_
        refine G_iret ⟨dX11_node_49, rfl⟩ rfl ?_
        exact hk00 k0 I1 rfl hk0 c_13 c_33 hs1
      · obtain ⟨j, hj, ej⟩ := i32_nat c_33
        subst ej
        refine G_iload_2 (nx := 37) ⟨dX11_node_36, rfl⟩ ?_
        refine G_aload_0 (nx := 38) ⟨dX11_node_37, rfl⟩ ?_
        refine G_getr (nx := 41) (k := 0) (r := 35) ⟨dX11_node_38, rfl⟩ fX11_62 q_0 yr_11_8 (r_0_8 _) ?_
        refine G_geti (nx := 44) (k := 35) ⟨dX11_node_41, rfl⟩ fX11_324 q_35 yi_6_2 ?_
        rw [hSY.1]
        refine G_icmplt (tgt := 50) (nx := 47) ⟨dX11_node_44, rfl⟩ rfl (fun c_44 => ?_) (fun c_44 => ?_)
        · rw [nI_lt_iff (by omega) (by omega)] at c_44
          obtain ⟨nd, hnd⟩ : ∃ nd, (sa n gr k0).1[j]? = some nd := ⟨_, List.getElem?_eq_getElem (show j < (sa n gr k0).1.length by omega)⟩
          refine G_iload_3 (nx := 51) ⟨dX11_node_50, rfl⟩ ?_
          rcases sw_0_3 _ with c_51 | c_51 | c_51 | c_51 | c_51
          · refine G_tabAt (v := 0) (tgt := 80) (nx := 80) ⟨dX11_node_51, rfl⟩ c_51 (by decide) (by decide) (off := 29) rfl rfl ?_
            refine G_aload_0 (nx := 81) ⟨dX11_node_80, rfl⟩ ?_
            refine G_getr (nx := 84) (k := 0) (r := 35) ⟨dX11_node_81, rfl⟩ fX11_62 q_0 yr_11_8 (r_0_8 _) ?_
            refine G_geti (nx := 87) (k := 35) ⟨dX11_node_84, rfl⟩ fX11_336 q_35 yi_6_8 ?_
            refine G_iret ⟨dX11_node_87, rfl⟩ rfl ?_
            refine K_v (congrArg Value.int ?_) (hk k0 I1 rfl hk0 c_13 hs1 j rfl hj)
            rw [hnd]
            show _ = nodeR nd q
            unfold nodeR
            obtain ⟨b1, b2, b3, b4, b5⟩ := hSY.2.2.2.2.2 j nd hnd rfl
            rw [b1]
            simp [c_51]
          · refine G_tabAt (v := 1) (tgt := 88) (nx := 80) ⟨dX11_node_51, rfl⟩ c_51 (by decide) (by decide) (off := 37) rfl rfl ?_
            refine G_aload_0 (nx := 89) ⟨dX11_node_88, rfl⟩ ?_
            refine G_getr (nx := 92) (k := 0) (r := 35) ⟨dX11_node_89, rfl⟩ fX11_62 q_0 yr_11_8 (r_0_8 _) ?_
            refine G_geti (nx := 95) (k := 35) ⟨dX11_node_92, rfl⟩ fX11_339 q_35 yi_6_9 ?_
            refine G_iret ⟨dX11_node_95, rfl⟩ rfl ?_
            refine K_v (congrArg Value.int ?_) (hk k0 I1 rfl hk0 c_13 hs1 j rfl hj)
            rw [hnd]
            show _ = nodeR nd q
            unfold nodeR
            obtain ⟨b1, b2, b3, b4, b5⟩ := hSY.2.2.2.2.2 j nd hnd rfl
            rw [b2]
            simp [c_51]
          · refine G_tabAt (v := 2) (tgt := 96) (nx := 80) ⟨dX11_node_51, rfl⟩ c_51 (by decide) (by decide) (off := 45) rfl rfl ?_
            refine G_aload_0 (nx := 97) ⟨dX11_node_96, rfl⟩ ?_
            refine G_getr (nx := 100) (k := 0) (r := 35) ⟨dX11_node_97, rfl⟩ fX11_62 q_0 yr_11_8 (r_0_8 _) ?_
            refine G_geti (nx := 103) (k := 35) ⟨dX11_node_100, rfl⟩ fX11_342 q_35 yi_6_10 ?_
            refine G_iret ⟨dX11_node_103, rfl⟩ rfl ?_
            refine K_v (congrArg Value.int ?_) (hk k0 I1 rfl hk0 c_13 hs1 j rfl hj)
            rw [hnd]
            show _ = nodeR nd q
            unfold nodeR
            obtain ⟨b1, b2, b3, b4, b5⟩ := hSY.2.2.2.2.2 j nd hnd rfl
            rw [b3]
            simp [c_51]
          · refine G_tabAt (v := 3) (tgt := 104) (nx := 80) ⟨dX11_node_51, rfl⟩ c_51 (by decide) (by decide) (off := 53) rfl rfl ?_
            refine G_aload_0 (nx := 105) ⟨dX11_node_104, rfl⟩ ?_
            refine G_getr (nx := 108) (k := 0) (r := 35) ⟨dX11_node_105, rfl⟩ fX11_62 q_0 yr_11_8 (r_0_8 _) ?_
            refine G_geti (nx := 111) (k := 35) ⟨dX11_node_108, rfl⟩ fX11_345 q_35 yi_6_11 ?_
            refine G_bipush (nx := 113) ⟨dX11_node_111, rfl⟩ cb_20 ?_
            refine G_iadd (nx := 114) ⟨dX11_node_113, rfl⟩ ?_
            refine G_iret ⟨dX11_node_114, rfl⟩ rfl ?_
            refine K_v (congrArg Value.int ?_) (hk k0 I1 rfl hk0 c_13 hs1 j rfl hj)
            rw [hnd]
            show _ = nodeR nd q
            unfold nodeR
            obtain ⟨b1, b2, b3, b4, b5⟩ := hSY.2.2.2.2.2 j nd hnd rfl
            rw [b4, show (20 : Int32) = iI 20 by decide, iI_add]
            simp [c_51]
          · refine G_tabOut (tgt := 115) (nx := 80) ⟨dX11_node_51, rfl⟩ c_51 rfl ?_
            refine G_aload_0 (nx := 116) ⟨dX11_node_115, rfl⟩ ?_
            refine G_getr (nx := 119) (k := 0) (r := 35) ⟨dX11_node_116, rfl⟩ fX11_62 q_0 yr_11_8 (r_0_8 _) ?_
            refine G_geti (nx := 122) (k := 35) ⟨dX11_node_119, rfl⟩ fX11_348 q_35 yi_6_12 ?_
            refine G_iret ⟨dX11_node_122, rfl⟩ rfl ?_
            refine K_v (congrArg Value.int ?_) (hk k0 I1 rfl hk0 c_13 hs1 j rfl hj)
            rw [hnd]
            show _ = nodeR nd q
            unfold nodeR
            obtain ⟨b1, b2, b3, b4, b5⟩ := hSY.2.2.2.2.2 j nd hnd rfl
            obtain ⟨n0, n1, n2, n3⟩ := sw_ne03 c_51
            rw [if_neg n0, if_neg n1, if_neg n2, if_neg n3, b5]
        · refine G_bipush (nx := 49) ⟨dX11_node_47, rfl⟩ cb_m2 ?_
          refine G_iret ⟨dX11_node_49, rfl⟩ rfl ?_
          rw [nI_lt_iff (by omega) (by omega)] at c_44
          have hnone : (sa n gr k0).1[j]? = none := List.getElem?_eq_none (by omega)
          refine K_v (congrArg Value.int ?_) (hk k0 I1 rfl hk0 c_13 hs1 j rfl hj)
          rw [hnone]
    · refine G_bipush (nx := 18) ⟨dX11_node_16, rfl⟩ cb_m2 ?_
      refine G_iret ⟨dX11_node_18, rfl⟩ rfl ?_
      rw [bi_0] at c_13
      exact hk1 (by rw [c_13, Bool.and_false])

end X89
