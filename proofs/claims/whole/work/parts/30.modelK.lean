theorem nI_ex {q : Int32} {a b : Nat} (hb : b < 2 ^ 31) (h : inR q (nI a) (nI b) = true) (ha : a < 2 ^ 31) : ∃ j, a ≤ j ∧ j ≤ b ∧ q = nI j := by
  rw [inR_iff, nI_toInt ha, nI_toInt hb] at h
  exact ⟨q.toInt.toNat, by omega, by omega, nI_of_toInt (by omega) (by omega)⟩
theorem k_ex {q : Int32} (h : inR q 0 12 = true) : ∃ j, j ≤ 12 ∧ q = nI j := by
  obtain ⟨j, -, h1, h2⟩ := nI_ex (a := 0) (b := 12) (by decide) h (by decide)
  exact ⟨j, h1, h2⟩
theorem s_ex {q : Int32} (h : inR q 0 3 = true) : ∃ j, j < 4 ∧ q = nI j := by
  obtain ⟨j, -, h1, h2⟩ := nI_ex (a := 0) (b := 3) (by decide) h (by decide)
  exact ⟨j, by omega, h2⟩
theorem or_r {a b : Bool} (h : (a || b) = false) : b = false := by cases a <;> simp_all
/-- the search from all points -/
noncomputable def sa (n : Nat) (gr : Nat → Nat) (k : Nat) : List ND × Option Nat := sr n gr 13 (2 ^ n - 1) 0 k 0
def nodeR (nd : ND) (q : Int32) : Int32 := if q = 0 then mv nd.1 else if q = 1 then nI nd.2.1 else if q = 2 then nI nd.2.2.1 else if q = 3 then iI (nd.2.2.2.1 + 20) else nI nd.2.2.2.2.1
section M30
variable {l : Launch} {d : Nat} {K : AK} {I : AI} {J : AJ} {g : Bool} {n : Nat} {gr : Nat → Nat}

theorem cM_isSheet {s : Int32} (hk : K (.int (bi (inR s 0 3))) I J (rX g)) : G l (d + 1) mX12_isSheet K 0 [.int s] [] I J (rX g) := by
  refine G_iload_0 (nx := 1) ⟨dX12_isSheet_0, rfl⟩ ?_
  refine G_iconst (nx := 2) ⟨dX12_isSheet_1, rfl⟩ ci_0 ?_
  refine G_iconst (nx := 3) ⟨dX12_isSheet_2, rfl⟩ ci_3 ?_
  refine G_cs3 (nx := 6) ⟨dX12_isSheet_3, rfl⟩ kX12_125 rfl rfl (Nat.le_of_ble_eq_true rfl) (Nat.le_of_ble_eq_true rfl) (cM_in ?_)
  refine G_zret ⟨dX12_isSheet_6, rfl⟩ rfl (by first | assumption | decide | exact bi_01 _) ?_
  exact hk

theorem cM_search {k q : Int32} (hG : MG I n gr) (hk1 : (inR k 0 12 && inR q 0 4) = false → K (.int (-2)) I J (rX g)) (hk : ∀ (k0 : Nat) (I' : AI), k = nI k0 → k0 ≤ 12 → inR q 0 4 = true → sb fT I I' → K (.int (if q = 0 then bi (sa n gr k0).2.isSome else if q = 1 then nI (sa n gr k0).1.length else if q = 2 then mv (sa n gr k0).2 else if q = 3 then nI (rfc (sa n gr k0).1) else nI (dpm (sa n gr k0).1))) I' J (rX g)) : G l (d + 29) mX12_search K 0 [.ref 75, .int k, .int q, UU] [] I J (rX g) := by
  refine G_iload_1 (nx := 1) ⟨dX12_search_0, rfl⟩ ?_
  refine G_iconst (nx := 2) ⟨dX12_search_1, rfl⟩ ci_0 ?_
  refine G_bipush (nx := 4) ⟨dX12_search_2, rfl⟩ cb_12 ?_
  refine G_cs3 (nx := 7) ⟨dX12_search_4, rfl⟩ kX12_125 rfl rfl (Nat.le_of_ble_eq_true rfl) (Nat.le_of_ble_eq_true rfl) (cM_in ?_)
  refine G_ifeq (tgt := 19) (nx := 10) ⟨dX12_search_7, rfl⟩ rfl (fun c_7 => ?_) (fun c_7 => ?_)
  · refine G_bipush (nx := 21) ⟨dX12_search_19, rfl⟩ cb_m2 ?_
    refine G_iret ⟨dX12_search_21, rfl⟩ rfl ?_
    rw [bi_0] at c_7
    exact hk1 (by simp [c_7])
  · rw [bi_n0] at c_7
    refine G_iload_2 (nx := 11) ⟨dX12_search_10, rfl⟩ ?_
    refine G_iconst (nx := 12) ⟨dX12_search_11, rfl⟩ ci_0 ?_
    refine G_iconst (nx := 13) ⟨dX12_search_12, rfl⟩ ci_4 ?_
    refine G_cs3 (nx := 16) ⟨dX12_search_13, rfl⟩ kX12_125 rfl rfl (Nat.le_of_ble_eq_true rfl) (Nat.le_of_ble_eq_true rfl) (cM_in ?_)
    refine G_ifne (tgt := 22) (nx := 19) ⟨dX12_search_16, rfl⟩ rfl (fun c_16 => ?_) (fun c_16 => ?_)
    · rw [bi_n0] at c_16
      obtain ⟨k0, hk0, ek⟩ := k_ex c_7
      subst ek
      refine G_aload_0 (nx := 23) ⟨dX12_search_22, rfl⟩ ?_
      refine G_iload_1 (nx := 24) ⟨dX12_search_23, rfl⟩ ?_
      refine G_iconst (nx := 25) ⟨dX12_search_24, rfl⟩ ci_m1 ?_
      refine G_cv2 (nx := 28) ⟨dX12_search_25, rfl⟩ kX12_277 rfl q_75 rfl (Nat.le_of_ble_eq_true rfl) (Nat.le_of_ble_eq_true rfl) (cM_searchFor hG hk0 (fun I1 hx hs1 => ?_))
      refine G_istore_3 (nx := 29) ⟨dX12_search_28, rfl⟩ rfl rfl ?_
      refine G_iload_2 (nx := 30) ⟨dX12_search_29, rfl⟩ ?_
      rcases sw_0_3 _ with c_30 | c_30 | c_30 | c_30 | c_30
      · refine G_tabAt (v := 0) (tgt := 60) (nx := 60) ⟨dX12_search_30, rfl⟩ c_30 (by decide) (by decide) (off := 30) rfl rfl ?_
        refine G_iload_3 (nx := 61) ⟨dX12_search_60, rfl⟩ ?_
        refine G_iconst (nx := 62) ⟨dX12_search_61, rfl⟩ ci_m1 ?_
        refine G_icmpne (tgt := 69) (nx := 65) ⟨dX12_search_62, rfl⟩ rfl (fun c_62 => ?_) (fun c_62 => ?_)
        · refine G_iconst (nx := 70) ⟨dX12_search_69, rfl⟩ ci_1 ?_
          refine G_iret ⟨dX12_search_70, rfl⟩ rfl ?_
          refine K_v (congrArg Value.int ?_) (hk k0 I1 rfl hk0 c_16 hs1)
          rw [c_30]
          cases e : (sr n gr 13 (2 ^ n - 1) 0 k0 0).2 with
          | none => rw [e] at c_62; first | (exact absurd rfl c_62) | (simp [sa, e, bi])
          | some x => rw [e] at c_62; first | (exact absurd c_62 (nI_ne_m1 (by have := sr_lt hG.2.2.2 13 _ _ _ _ x (allLt n) (Nat.two_pow_pos n) e; have := pow12 hG.2.1; omega))) | (simp [sa, e, bi])
        · refine G_iconst (nx := 66) ⟨dX12_search_65, rfl⟩ ci_0 ?_
          refine G_goto (tgt := 70) ⟨dX12_search_66, rfl⟩ rfl ?_
          refine G_iret ⟨dX12_search_70, rfl⟩ rfl ?_
          refine K_v (congrArg Value.int ?_) (hk k0 I1 rfl hk0 c_16 hs1)
          rw [c_30]
          cases e : (sr n gr 13 (2 ^ n - 1) 0 k0 0).2 with
          | none => rw [e] at c_62; first | (exact absurd rfl c_62) | (simp [sa, e, bi])
          | some x => rw [e] at c_62; first | (exact absurd c_62 (nI_ne_m1 (by have := sr_lt hG.2.2.2 13 _ _ _ _ x (allLt n) (Nat.two_pow_pos n) e; have := pow12 hG.2.1; omega))) | (simp [sa, e, bi])
      · refine G_tabAt (v := 1) (tgt := 71) (nx := 60) ⟨dX12_search_30, rfl⟩ c_30 (by decide) (by decide) (off := 41) rfl rfl ?_
        refine G_aload_0 (nx := 72) ⟨dX12_search_71, rfl⟩ ?_
        refine G_geti (nx := 75) (k := 75) ⟨dX12_search_72, rfl⟩ fX12_259 q_75 yi_12_16 ?_
        refine G_iret ⟨dX12_search_75, rfl⟩ rfl ?_
        refine K_v (congrArg Value.int ?_) (hk k0 I1 rfl hk0 c_16 hs1)
        rw [c_30, hx.1]
        rfl
      · refine G_tabAt (v := 2) (tgt := 76) (nx := 60) ⟨dX12_search_30, rfl⟩ c_30 (by decide) (by decide) (off := 46) rfl rfl ?_
        refine G_iload_3 (nx := 77) ⟨dX12_search_76, rfl⟩ ?_
        refine G_iret ⟨dX12_search_77, rfl⟩ rfl ?_
        refine K_v (congrArg Value.int ?_) (hk k0 I1 rfl hk0 c_16 hs1)
        rw [c_30]
        rfl
      · refine G_tabAt (v := 3) (tgt := 78) (nx := 60) ⟨dX12_search_30, rfl⟩ c_30 (by decide) (by decide) (off := 48) rfl rfl ?_
        refine G_aload_0 (nx := 79) ⟨dX12_search_78, rfl⟩ ?_
        refine G_geti (nx := 82) (k := 75) ⟨dX12_search_79, rfl⟩ fX12_271 q_75 yi_12_17 ?_
        refine G_iret ⟨dX12_search_82, rfl⟩ rfl ?_
        refine K_v (congrArg Value.int ?_) (hk k0 I1 rfl hk0 c_16 hs1)
        rw [c_30, hx.2.1]
        rfl
      · refine G_tabOut (tgt := 83) (nx := 60) ⟨dX12_search_30, rfl⟩ c_30 rfl ?_
        refine G_aload_0 (nx := 84) ⟨dX12_search_83, rfl⟩ ?_
        refine G_geti (nx := 87) (k := 75) ⟨dX12_search_84, rfl⟩ fX12_262 q_75 yi_12_18 ?_
        refine G_iret ⟨dX12_search_87, rfl⟩ rfl ?_
        refine K_v (congrArg Value.int ?_) (hk k0 I1 rfl hk0 c_16 hs1)
        rcases inR04 c_16 with e | e | e | e | e
        · subst e; exact absurd c_30 (by decide)
        · subst e; exact absurd c_30 (by decide)
        · subst e; exact absurd c_30 (by decide)
        · subst e; exact absurd c_30 (by decide)
        · rw [e, hx.2.2.1]; rfl
    · refine G_bipush (nx := 21) ⟨dX12_search_19, rfl⟩ cb_m2 ?_
      refine G_iret ⟨dX12_search_21, rfl⟩ rfl ?_
      (first | rw [bi_0] at c_7 | skip)
      (first | rw [bi_0] at c_16 | skip)
      exact hk1 (by simp [c_7, c_16])

theorem cM_node {k i q : Int32} (hG : MG I n gr) (hk1 : (inR k 0 12 && inR q 0 4 && !decide (i < 0)) = false → K (.int (-2)) I J (rX g)) (hk : ∀ (k0 : Nat) (I' : AI), k = nI k0 → k0 ≤ 12 → inR q 0 4 = true → sb fT I I' → (∀ j, i = nI j → j < 2 ^ 31 → K (.int (match (sa n gr k0).1[j]? with | some nd => nodeR nd q | none => -2)) I' J (rX g))) : G l (d + 29) mX12_node K 0 [.ref 75, .int k, .int i, .int q, UU] [] I J (rX g) := by
  refine G_iload_1 (nx := 1) ⟨dX12_node_0, rfl⟩ ?_
  refine G_iconst (nx := 2) ⟨dX12_node_1, rfl⟩ ci_0 ?_
  refine G_bipush (nx := 4) ⟨dX12_node_2, rfl⟩ cb_12 ?_
  refine G_cs3 (nx := 7) ⟨dX12_node_4, rfl⟩ kX12_125 rfl rfl (Nat.le_of_ble_eq_true rfl) (Nat.le_of_ble_eq_true rfl) (cM_in ?_)
  refine G_ifeq (tgt := 23) (nx := 10) ⟨dX12_node_7, rfl⟩ rfl (fun c_7 => ?_) (fun c_7 => ?_)
  · refine G_bipush (nx := 25) ⟨dX12_node_23, rfl⟩ cb_m2 ?_
    refine G_iret ⟨dX12_node_25, rfl⟩ rfl ?_
    rw [bi_0] at c_7
    exact hk1 (by simp [c_7])
  · rw [bi_n0] at c_7
    refine G_iload_2 (nx := 11) ⟨dX12_node_10, rfl⟩ ?_
    refine G_iflt (tgt := 23) (nx := 14) ⟨dX12_node_11, rfl⟩ rfl (fun c_11 => ?_) (fun c_11 => ?_)
    · refine G_bipush (nx := 25) ⟨dX12_node_23, rfl⟩ cb_m2 ?_
      refine G_iret ⟨dX12_node_25, rfl⟩ rfl ?_
      exact hk1 (by simp [c_11])
    · refine G_iload_3 (nx := 15) ⟨dX12_node_14, rfl⟩ ?_
      refine G_iconst (nx := 16) ⟨dX12_node_15, rfl⟩ ci_0 ?_
      refine G_iconst (nx := 17) ⟨dX12_node_16, rfl⟩ ci_4 ?_
      refine G_cs3 (nx := 20) ⟨dX12_node_17, rfl⟩ kX12_125 rfl rfl (Nat.le_of_ble_eq_true rfl) (Nat.le_of_ble_eq_true rfl) (cM_in ?_)
      refine G_ifne (tgt := 26) (nx := 23) ⟨dX12_node_20, rfl⟩ rfl (fun c_20 => ?_) (fun c_20 => ?_)
      · rw [bi_n0] at c_20
        obtain ⟨k0, hk0, ek⟩ := k_ex c_7
        subst ek
        obtain ⟨j, hj, ej⟩ := nI_of c_11
        subst ej
        refine G_aload_0 (nx := 27) ⟨dX12_node_26, rfl⟩ ?_
        refine G_iload_1 (nx := 28) ⟨dX12_node_27, rfl⟩ ?_
        refine G_iload_2 (nx := 29) ⟨dX12_node_28, rfl⟩ ?_
        refine G_cv2 (nx := 32) ⟨dX12_node_29, rfl⟩ kX12_277 rfl q_75 rfl (Nat.le_of_ble_eq_true rfl) (Nat.le_of_ble_eq_true rfl) (cM_searchFor hG hk0 (fun I1 hx hs1 => ?_))
        refine G_istore_4 (nx := 34) ⟨dX12_node_32, rfl⟩ rfl rfl ?_
        refine G_iload_2 (nx := 35) ⟨dX12_node_34, rfl⟩ ?_
        refine G_aload_0 (nx := 36) ⟨dX12_node_35, rfl⟩ ?_
        refine G_geti (nx := 39) (k := 75) ⟨dX12_node_36, rfl⟩ fX12_259 q_75 yi_12_16 ?_
        rw [hx.1]
        refine G_icmpge (tgt := 51) (nx := 42) ⟨dX12_node_39, rfl⟩ rfl (fun c_39 => ?_) (fun c_39 => ?_)
        · refine G_bipush (nx := 53) ⟨dX12_node_51, rfl⟩ cb_m2 ?_
          refine G_iret ⟨dX12_node_53, rfl⟩ rfl ?_
          have hsl := sr_len n gr 13 (2 ^ n - 1) 0 k0 0
          have h13 : (2:Nat) ^ 13 = 8192 := by decide
          rw [nI_le_iff (by omega) (by omega)] at c_39
          have hnone : (sa n gr k0).1[j]? = none := List.getElem?_eq_none (by exact c_39)
          have := hk k0 I1 rfl hk0 c_20 hs1 j rfl hj
          rw [hnone] at this
          exact this
        · have hsl := sr_len n gr 13 (2 ^ n - 1) 0 k0 0
          have h13 : (2:Nat) ^ 13 = 8192 := by decide
          rw [nI_le_iff (by omega) (by omega)] at c_39
          have hq5 : vp_in q 5 := by
            rcases inR04 c_20 with e | e | e | e | e <;> subst e <;> (unfold vp_in; decide)
          refine G_aload_0 (nx := 43) ⟨dX12_node_42, rfl⟩ ?_
          refine G_getr (nx := 46) (k := 75) (r := 85) ⟨dX12_node_43, rfl⟩ fX12_41 q_75 yr_12_20 (r_75_20 _) ?_
          refine G_iload_3 (nx := 47) ⟨dX12_node_46, rfl⟩ ?_
          refine G_iald (nx := 48) (k := 85) ⟨dX12_node_47, rfl⟩ q_85 (by first | assumption | decide | (unfold vp_in; decide)) ?_
          refine G_goto (tgt := 53) ⟨dX12_node_48, rfl⟩ rfl ?_
          refine G_iret ⟨dX12_node_53, rfl⟩ rfl ?_
          obtain ⟨nd, hnd⟩ : ∃ nd, (sa n gr k0).1[j]? = some nd := ⟨_, List.getElem?_eq_getElem (show j < (sa n gr k0).1.length by have : ¬ (sa n gr k0).1.length ≤ j := c_39; omega)⟩
          have hnr := hx.2.2.2.2.2 j nd hnd rfl
          have := hk k0 I1 rfl hk0 c_20 hs1 j rfl hj
          rw [hnd] at this
          refine K_v (congrArg Value.int ?_) this
          rcases inR04 c_20 with e | e | e | e | e
          · subst e; exact hnr.1
          · subst e; exact hnr.2.1
          · subst e; exact hnr.2.2.1
          · subst e; exact hnr.2.2.2.1
          · subst e; exact hnr.2.2.2.2
      · refine G_bipush (nx := 25) ⟨dX12_node_23, rfl⟩ cb_m2 ?_
        refine G_iret ⟨dX12_node_25, rfl⟩ rfl ?_
        rw [bi_0] at c_20
        exact hk1 (by simp [c_20])

theorem cM_kernel {k q : Int32} (hW : WG n gr) (hG : MG I n gr) (hk1 : (inR k 0 12 && inR q 0 4) = false → K (.int (-2)) I J (rX g)) (hk : ∀ (k0 : Nat) (I' : AI), k = nI k0 → k0 ≤ 12 → inR q 0 4 = true → sb fK I I' → K (.int (if q = 0 then nI (kit n gr k0 (kR n gr k0)).1 else if q = 1 then nI (kit n gr k0 (kR n gr k0)).2.1 else if q = 2 then iI ((kit n gr k0 (kR n gr k0)).2.2 + 20) else if q = 3 then nI (kR n gr k0) else bi (decide ((kit n gr k0 (kR n gr k0)).2.2 < 0 ∨ 2 * (kit n gr k0 (kR n gr k0)).2.2 < (pc (kit n gr k0 (kR n gr k0)).1 : Int))))) I' J (rX g)) : G l (d + 31) mX12_kernel K 0 [.ref 75, .int k, .int q] [] I J (rX g) := by
  refine G_iload_1 (nx := 1) ⟨dX12_kernel_0, rfl⟩ ?_
  refine G_iconst (nx := 2) ⟨dX12_kernel_1, rfl⟩ ci_0 ?_
  refine G_bipush (nx := 4) ⟨dX12_kernel_2, rfl⟩ cb_12 ?_
  refine G_cs3 (nx := 7) ⟨dX12_kernel_4, rfl⟩ kX12_125 rfl rfl (Nat.le_of_ble_eq_true rfl) (Nat.le_of_ble_eq_true rfl) (cM_in ?_)
  refine G_ifeq (tgt := 19) (nx := 10) ⟨dX12_kernel_7, rfl⟩ rfl (fun c_7 => ?_) (fun c_7 => ?_)
  · refine G_bipush (nx := 21) ⟨dX12_kernel_19, rfl⟩ cb_m2 ?_
    refine G_iret ⟨dX12_kernel_21, rfl⟩ rfl ?_
    rw [bi_0] at c_7
    exact hk1 (by simp [c_7])
  · rw [bi_n0] at c_7
    refine G_iload_2 (nx := 11) ⟨dX12_kernel_10, rfl⟩ ?_
    refine G_iconst (nx := 12) ⟨dX12_kernel_11, rfl⟩ ci_0 ?_
    refine G_iconst (nx := 13) ⟨dX12_kernel_12, rfl⟩ ci_4 ?_
    refine G_cs3 (nx := 16) ⟨dX12_kernel_13, rfl⟩ kX12_125 rfl rfl (Nat.le_of_ble_eq_true rfl) (Nat.le_of_ble_eq_true rfl) (cM_in ?_)
    refine G_ifne (tgt := 22) (nx := 19) ⟨dX12_kernel_16, rfl⟩ rfl (fun c_16 => ?_) (fun c_16 => ?_)
    · rw [bi_n0] at c_16
      obtain ⟨k0, hk0, ek⟩ := k_ex c_7
      subst ek
      refine G_aload_0 (nx := 23) ⟨dX12_kernel_22, rfl⟩ ?_
      refine G_iload_1 (nx := 24) ⟨dX12_kernel_23, rfl⟩ ?_
      refine G_ldc (nx := 26) ⟨dX12_kernel_24, rfl⟩ nX12_183 ?_
      rw [show (1000000 : Int32) = nI 1000000 by decide]
      refine G_cvv2 (nx := 29) ⟨dX12_kernel_26, rfl⟩ kX12_247 rfl q_75 rfl (Nat.le_of_ble_eq_true rfl) (Nat.le_of_ble_eq_true rfl) (cM_kernels hW hG hk0 (by omega) (fun r I1 hr1 hr2 f9 f10 f11 f12 hrow hs1 => ?_))
      have hn := hG.2.1
      have hrr : r = kR n gr k0 := by
        rcases hr2 with e | e
        · exfalso
          have := kit_pc hn hG.2.2.2 r hr1
          omega
        · exact (kR_eq hn hG.2.2.2 hr1 e.2).symm
      subst hrr
      obtain ⟨hb1, hb2⟩ := kit_k (n := n) (gr := gr) (k0 := (k0 : Int)) (kR n gr k0)
      have hkr := (kR_s (k0 := (k0 : Int)) hn hG.2.2.2).2.2
      have hkl := (kit_lt (k0 := (k0 : Int)) hG.2.2.2 (kR n gr k0)).1
      have hp2 := pow12 hn
      have hpl := pc_le (kit n gr k0 (kR n gr k0)).1
      refine G_iload_2 (nx := 30) ⟨dX12_kernel_29, rfl⟩ ?_
      rcases sw_0_3 _ with c_30 | c_30 | c_30 | c_30 | c_30
      · refine G_tabAt (v := 0) (tgt := 60) (nx := 60) ⟨dX12_kernel_30, rfl⟩ c_30 (by decide) (by decide) (off := 30) rfl rfl ?_
        refine G_aload_0 (nx := 61) ⟨dX12_kernel_60, rfl⟩ ?_
        refine G_geti (nx := 64) (k := 75) ⟨dX12_kernel_61, rfl⟩ fX12_225 q_75 yi_12_9 ?_
        refine G_iret ⟨dX12_kernel_64, rfl⟩ rfl ?_
        refine K_v (congrArg Value.int ?_) (hk k0 I1 rfl hk0 c_16 hs1)
        rw [c_30, f9]
        rfl
      · refine G_tabAt (v := 1) (tgt := 65) (nx := 60) ⟨dX12_kernel_30, rfl⟩ c_30 (by decide) (by decide) (off := 35) rfl rfl ?_
        refine G_aload_0 (nx := 66) ⟨dX12_kernel_65, rfl⟩ ?_
        refine G_geti (nx := 69) (k := 75) ⟨dX12_kernel_66, rfl⟩ fX12_237 q_75 yi_12_10 ?_
        refine G_iret ⟨dX12_kernel_69, rfl⟩ rfl ?_
        refine K_v (congrArg Value.int ?_) (hk k0 I1 rfl hk0 c_16 hs1)
        rw [c_30, f10]
        rfl
      · refine G_tabAt (v := 2) (tgt := 70) (nx := 60) ⟨dX12_kernel_30, rfl⟩ c_30 (by decide) (by decide) (off := 40) rfl rfl ?_
        refine G_aload_0 (nx := 71) ⟨dX12_kernel_70, rfl⟩ ?_
        refine G_geti (nx := 74) (k := 75) ⟨dX12_kernel_71, rfl⟩ fX12_231 q_75 yi_12_11 ?_
        refine G_bipush (nx := 76) ⟨dX12_kernel_74, rfl⟩ cb_20 ?_
        refine G_iadd (nx := 77) ⟨dX12_kernel_76, rfl⟩ ?_
        refine G_iret ⟨dX12_kernel_77, rfl⟩ rfl ?_
        refine K_v (congrArg Value.int ?_) (hk k0 I1 rfl hk0 c_16 hs1)
        rw [c_30, f11, show (20 : Int32) = iI 20 by decide, iI_add]
        rfl
      · refine G_tabAt (v := 3) (tgt := 78) (nx := 60) ⟨dX12_kernel_30, rfl⟩ c_30 (by decide) (by decide) (off := 48) rfl rfl ?_
        refine G_aload_0 (nx := 79) ⟨dX12_kernel_78, rfl⟩ ?_
        refine G_geti (nx := 82) (k := 75) ⟨dX12_kernel_79, rfl⟩ fX12_240 q_75 yi_12_12 ?_
        refine G_iret ⟨dX12_kernel_82, rfl⟩ rfl ?_
        refine K_v (congrArg Value.int ?_) (hk k0 I1 rfl hk0 c_16 hs1)
        rw [c_30, f12]
        rfl
      · refine G_tabOut (tgt := 83) (nx := 60) ⟨dX12_kernel_30, rfl⟩ c_30 rfl ?_
        refine G_aload_0 (nx := 84) ⟨dX12_kernel_83, rfl⟩ ?_
        refine G_geti (nx := 87) (k := 75) ⟨dX12_kernel_84, rfl⟩ fX12_231 q_75 yi_12_11 ?_
        rw [f11]
        refine G_iflt (tgt := 106) (nx := 90) ⟨dX12_kernel_87, rfl⟩ rfl (fun c_87 => ?_) (fun c_87 => ?_)
        · refine G_iconst (nx := 107) ⟨dX12_kernel_106, rfl⟩ ci_1 ?_
          refine G_goto (tgt := 111) ⟨dX12_kernel_107, rfl⟩ rfl ?_
          refine G_iret ⟨dX12_kernel_111, rfl⟩ rfl ?_
          refine K_v (congrArg Value.int ?_) (hk k0 I1 rfl hk0 c_16 hs1)
          have hq : q = 4 := by
            rcases inR04 c_16 with e | e | e | e | e
            · subst e; exact absurd c_30 (by decide)
            · subst e; exact absurd c_30 (by decide)
            · subst e; exact absurd c_30 (by decide)
            · subst e; exact absurd c_30 (by decide)
            · exact e
          subst hq
          rw [if_neg (by decide), if_neg (by decide), if_neg (by decide), if_neg (by decide)]
          rw [i32_lt, iI_toInt (by omega) (by omega), show (0 : Int32).toInt = 0 by decide] at c_87
          rw [decide_eq_true (Or.inl c_87)]
          rfl
        · refine G_aload_0 (nx := 91) ⟨dX12_kernel_90, rfl⟩ ?_
          refine G_geti (nx := 94) (k := 75) ⟨dX12_kernel_91, rfl⟩ fX12_225 q_75 yi_12_9 ?_
          rw [f9]
          refine G_cs1 (nx := 97) ⟨dX12_kernel_94, rfl⟩ kX12_133 rfl rfl (Nat.le_of_ble_eq_true rfl) (Nat.le_of_ble_eq_true rfl) (cM_bits (by omega) ?_)
          refine G_iconst (nx := 98) ⟨dX12_kernel_97, rfl⟩ ci_2 ?_
          refine G_aload_0 (nx := 99) ⟨dX12_kernel_98, rfl⟩ ?_
          refine G_geti (nx := 102) (k := 75) ⟨dX12_kernel_99, rfl⟩ fX12_231 q_75 yi_12_11 ?_
          rw [f11]
          refine G_imul (nx := 103) ⟨dX12_kernel_102, rfl⟩ ?_
          rw [show (2 : Int32) = iI 2 by decide, show ∀ z, iI 2 * iI z = iI (2 * z) from fun z => by unfold iI; rw [Int32.ofInt_mul]]
          refine G_icmple (tgt := 110) (nx := 106) ⟨dX12_kernel_103, rfl⟩ rfl (fun c_103 => ?_) (fun c_103 => ?_)
          · refine G_iconst (nx := 111) ⟨dX12_kernel_110, rfl⟩ ci_0 ?_
            refine G_iret ⟨dX12_kernel_111, rfl⟩ rfl ?_
            refine K_v (congrArg Value.int ?_) (hk k0 I1 rfl hk0 c_16 hs1)
            have hq : q = 4 := by
              rcases inR04 c_16 with e | e | e | e | e
              · subst e; exact absurd c_30 (by decide)
              · subst e; exact absurd c_30 (by decide)
              · subst e; exact absurd c_30 (by decide)
              · subst e; exact absurd c_30 (by decide)
              · exact e
            subst hq
            rw [if_neg (by decide), if_neg (by decide), if_neg (by decide), if_neg (by decide)]
            rw [i32_lt, iI_toInt (by omega) (by omega), show (0 : Int32).toInt = 0 by decide] at c_87
            rw [i32_le, nI_toInt (by omega), iI_toInt (by omega) (by omega)] at c_103
            rw [decide_eq_false (by omega)]
            rfl
          · refine G_iconst (nx := 107) ⟨dX12_kernel_106, rfl⟩ ci_1 ?_
            refine G_goto (tgt := 111) ⟨dX12_kernel_107, rfl⟩ rfl ?_
            refine G_iret ⟨dX12_kernel_111, rfl⟩ rfl ?_
            refine K_v (congrArg Value.int ?_) (hk k0 I1 rfl hk0 c_16 hs1)
            have hq : q = 4 := by
              rcases inR04 c_16 with e | e | e | e | e
              · subst e; exact absurd c_30 (by decide)
              · subst e; exact absurd c_30 (by decide)
              · subst e; exact absurd c_30 (by decide)
              · subst e; exact absurd c_30 (by decide)
              · exact e
            subst hq
            rw [if_neg (by decide), if_neg (by decide), if_neg (by decide), if_neg (by decide)]
            rw [i32_lt, iI_toInt (by omega) (by omega), show (0 : Int32).toInt = 0 by decide] at c_87
            rw [i32_le, nI_toInt (by omega), iI_toInt (by omega) (by omega)] at c_103
            rw [decide_eq_true (by omega)]
            rfl
    · refine G_bipush (nx := 21) ⟨dX12_kernel_19, rfl⟩ cb_m2 ?_
      refine G_iret ⟨dX12_kernel_21, rfl⟩ rfl ?_
      rw [bi_0] at c_16
      exact hk1 (by simp [c_16])

theorem cM_round {k i q : Int32} (hW : WG n gr) (hG : MG I n gr) (hk1 : (inR k 0 12 && inR q 0 2 && !decide (i < 0)) = false → K (.int (-2)) I J (rX g)) (hk : ∀ (k0 : Nat) (I' : AI), k = nI k0 → k0 ≤ 12 → inR q 0 2 = true → sb fK I I' → (∀ j, i = nI j → j < 2 ^ 31 → K (.int (if j < kR n gr k0 then (match ks n gr (kit n gr k0 j).1 (kit n gr k0 j).2.2 with | some x => if q = 0 then nI x.1 else if q = 1 then nI x.2.1 else nI x.2.2 | none => -2) else -2)) I' J (rX g))) : G l (d + 31) mX12_round K 0 [.ref 75, .int k, .int i, .int q] [] I J (rX g) := by
  refine G_iload_1 (nx := 1) ⟨dX12_round_0, rfl⟩ ?_
  refine G_iconst (nx := 2) ⟨dX12_round_1, rfl⟩ ci_0 ?_
  refine G_bipush (nx := 4) ⟨dX12_round_2, rfl⟩ cb_12 ?_
  refine G_cs3 (nx := 7) ⟨dX12_round_4, rfl⟩ kX12_125 rfl rfl (Nat.le_of_ble_eq_true rfl) (Nat.le_of_ble_eq_true rfl) (cM_in ?_)
  refine G_ifeq (tgt := 23) (nx := 10) ⟨dX12_round_7, rfl⟩ rfl (fun c_7 => ?_) (fun c_7 => ?_)
  · refine G_bipush (nx := 25) ⟨dX12_round_23, rfl⟩ cb_m2 ?_
    refine G_iret ⟨dX12_round_25, rfl⟩ rfl ?_
    rw [bi_0] at c_7
    exact hk1 (by simp [c_7])
  · rw [bi_n0] at c_7
    refine G_iload_2 (nx := 11) ⟨dX12_round_10, rfl⟩ ?_
    refine G_iflt (tgt := 23) (nx := 14) ⟨dX12_round_11, rfl⟩ rfl (fun c_11 => ?_) (fun c_11 => ?_)
    · refine G_bipush (nx := 25) ⟨dX12_round_23, rfl⟩ cb_m2 ?_
      refine G_iret ⟨dX12_round_25, rfl⟩ rfl ?_
      exact hk1 (by simp [c_11])
    · refine G_iload_3 (nx := 15) ⟨dX12_round_14, rfl⟩ ?_
      refine G_iconst (nx := 16) ⟨dX12_round_15, rfl⟩ ci_0 ?_
      refine G_iconst (nx := 17) ⟨dX12_round_16, rfl⟩ ci_2 ?_
      refine G_cs3 (nx := 20) ⟨dX12_round_17, rfl⟩ kX12_125 rfl rfl (Nat.le_of_ble_eq_true rfl) (Nat.le_of_ble_eq_true rfl) (cM_in ?_)
      refine G_ifne (tgt := 26) (nx := 23) ⟨dX12_round_20, rfl⟩ rfl (fun c_20 => ?_) (fun c_20 => ?_)
      · rw [bi_n0] at c_20
        obtain ⟨k0, hk0, ek⟩ := k_ex c_7
        subst ek
        obtain ⟨j, hj, ej⟩ := nI_of c_11
        subst ej
        have hq3 : vp_in q 3 := by
          rcases inR02 c_20 with e | e | e <;> subst e <;> (unfold vp_in; decide)
        refine G_aload_0 (nx := 27) ⟨dX12_round_26, rfl⟩ ?_
        refine G_iload_1 (nx := 28) ⟨dX12_round_27, rfl⟩ ?_
        refine G_iload_2 (nx := 29) ⟨dX12_round_28, rfl⟩ ?_
        refine G_bipush (nx := 31) ⟨dX12_round_29, rfl⟩ cb_12 ?_
        rw [show (12 : Int32) = nI 12 by decide]
        refine G_icmple (tgt := 39) (nx := 34) ⟨dX12_round_31, rfl⟩ rfl (fun c_31 => ?_) (fun c_31 => ?_)
        · rw [nI_le_iff (by omega) (by omega)] at c_31
          refine G_iload_2 (nx := 40) ⟨dX12_round_39, rfl⟩ ?_
          refine G_iconst (nx := 41) ⟨dX12_round_40, rfl⟩ ci_1 ?_
          refine G_iadd (nx := 42) ⟨dX12_round_41, rfl⟩ ?_
          rw [nI_1]
          refine G_cvv2 (nx := 45) ⟨dX12_round_42, rfl⟩ kX12_247 rfl q_75 rfl (Nat.le_of_ble_eq_true rfl) (Nat.le_of_ble_eq_true rfl) (cM_kernels (most := j + 1) hW hG hk0 (by omega) (fun r I1 hr1 hr2 f9 f10 f11 f12 hrow hs1 => ?_))
          have hn := hG.2.1
          have hkr := kR_s (k0 := (k0 : Int)) hn hG.2.2.2
          have hpcr := kit_pc hn hG.2.2.2 r hr1
          refine G_aload_0 (nx := 46) ⟨dX12_round_45, rfl⟩ ?_
          refine G_geti (nx := 49) (k := 75) ⟨dX12_round_46, rfl⟩ fX12_240 q_75 yi_12_12 ?_
          rw [f12]
          refine G_iload_2 (nx := 50) ⟨dX12_round_49, rfl⟩ ?_
          refine G_iconst (nx := 51) ⟨dX12_round_50, rfl⟩ ci_1 ?_
          refine G_iadd (nx := 52) ⟨dX12_round_51, rfl⟩ ?_
          rw [nI_1]
          refine G_icmpne (tgt := 64) (nx := 55) ⟨dX12_round_52, rfl⟩ rfl (fun c_52 => ?_) (fun c_52 => ?_)
          · refine G_bipush (nx := 66) ⟨dX12_round_64, rfl⟩ cb_m2 ?_
            refine G_iret ⟨dX12_round_66, rfl⟩ rfl ?_
            have hrr : r = kR n gr k0 := by
              rcases hr2 with e | e
              · exact absurd (by rw [e]) c_52
              · exact (kR_eq hn hG.2.2.2 hr1 e.2).symm
            have := hk k0 I1 rfl hk0 c_20 hs1 j rfl hj
            rw [if_neg (by
              rcases hr2 with e | e
              · exact absurd (by rw [e]) c_52
              · omega)] at this
            exact this
          · refine G_aload_0 (nx := 56) ⟨dX12_round_55, rfl⟩ ?_
            refine G_getr (nx := 59) (k := 75) (r := 82) ⟨dX12_round_56, rfl⟩ fX12_32 q_75 yr_12_13 (r_75_13 _) ?_
            refine G_iload_3 (nx := 60) ⟨dX12_round_59, rfl⟩ ?_
            refine G_iald (nx := 61) (k := 82) ⟨dX12_round_60, rfl⟩ q_82 (by first | assumption | decide | (unfold vp_in; decide)) ?_
            refine G_goto (tgt := 66) ⟨dX12_round_61, rfl⟩ rfl ?_
            refine G_iret ⟨dX12_round_66, rfl⟩ rfl ?_
            have hrj : r = j + 1 := nI_inj32 (by omega) (by omega) c_52
            have hjk : j < kR n gr k0 := by
              rcases Nat.lt_or_ge j (kR n gr k0) with h | h
              · exact h
              · have := hr1 (kR n gr k0) (by omega)
                rw [hkr.2.1] at this
                cases this
            have hgj := hr1 j (by omega)
            unfold kgo at hgj
            simp only [Bool.and_eq_true] at hgj
            obtain ⟨x, hx⟩ := Option.isSome_iff_exists.mp hgj.2
            obtain ⟨g0, g1, g2⟩ := hrow j x hrj hx
            have := hk k0 I1 rfl hk0 c_20 hs1 j rfl hj
            rw [if_pos hjk, hx] at this
            refine K_v (congrArg Value.int ?_) this
            rcases inR02 c_20 with e | e | e
            · subst e; exact g0
            · subst e; exact g1
            · subst e; exact g2
        · rw [nI_le_iff (by omega) (by omega)] at c_31
          refine G_ldc (nx := 36) ⟨dX12_round_34, rfl⟩ nX12_183 ?_
          refine G_goto (tgt := 42) ⟨dX12_round_36, rfl⟩ rfl ?_
          rw [show (1000000 : Int32) = nI 1000000 by decide]
          refine G_cvv2 (nx := 45) ⟨dX12_round_42, rfl⟩ kX12_247 rfl q_75 rfl (Nat.le_of_ble_eq_true rfl) (Nat.le_of_ble_eq_true rfl) (cM_kernels (most := 1000000) hW hG hk0 (by omega) (fun r I1 hr1 hr2 f9 f10 f11 f12 hrow hs1 => ?_))
          have hn := hG.2.1
          have hkr := kR_s (k0 := (k0 : Int)) hn hG.2.2.2
          have hpcr := kit_pc hn hG.2.2.2 r hr1
          refine G_aload_0 (nx := 46) ⟨dX12_round_45, rfl⟩ ?_
          refine G_geti (nx := 49) (k := 75) ⟨dX12_round_46, rfl⟩ fX12_240 q_75 yi_12_12 ?_
          rw [f12]
          refine G_iload_2 (nx := 50) ⟨dX12_round_49, rfl⟩ ?_
          refine G_iconst (nx := 51) ⟨dX12_round_50, rfl⟩ ci_1 ?_
          refine G_iadd (nx := 52) ⟨dX12_round_51, rfl⟩ ?_
          rw [nI_1]
          refine G_icmpne (tgt := 64) (nx := 55) ⟨dX12_round_52, rfl⟩ rfl (fun c_52 => ?_) (fun c_52 => ?_)
          · refine G_bipush (nx := 66) ⟨dX12_round_64, rfl⟩ cb_m2 ?_
            refine G_iret ⟨dX12_round_66, rfl⟩ rfl ?_
            have hrr : r = kR n gr k0 := by
              rcases hr2 with e | e
              · omega
              · exact (kR_eq hn hG.2.2.2 hr1 e.2).symm
            have := hk k0 I1 rfl hk0 c_20 hs1 j rfl hj
            rw [if_neg (by omega)] at this
            exact this
          · refine G_aload_0 (nx := 56) ⟨dX12_round_55, rfl⟩ ?_
            refine G_getr (nx := 59) (k := 75) (r := 82) ⟨dX12_round_56, rfl⟩ fX12_32 q_75 yr_12_13 (r_75_13 _) ?_
            refine G_iload_3 (nx := 60) ⟨dX12_round_59, rfl⟩ ?_
            refine G_iald (nx := 61) (k := 82) ⟨dX12_round_60, rfl⟩ q_82 (by first | assumption | decide | (unfold vp_in; decide)) ?_
            refine G_goto (tgt := 66) ⟨dX12_round_61, rfl⟩ rfl ?_
            refine G_iret ⟨dX12_round_66, rfl⟩ rfl ?_
            have hrj : r = j + 1 := nI_inj32 (by omega) (by omega) c_52
            omega
      · refine G_bipush (nx := 25) ⟨dX12_round_23, rfl⟩ cb_m2 ?_
        refine G_iret ⟨dX12_round_25, rfl⟩ rfl ?_
        rw [bi_0] at c_20
        exact hk1 (by simp [c_20])

theorem lM_mateA {q x2 : Int32} (hgo : ∀ (I' : AI), (∀ x, x < 12 → I' 81 x = -1) → sb fP I I' → G l (d + 29) mX12_mate K 41 [.ref 75, .int q, .int x2, .int (nI 12)] [] I' J (rX g)) : ∀ (k p : Nat) (I1 : AI), 12 - p = k → p ≤ 12 → (∀ x, x < p → I1 81 x = -1) → sb fP I I1 → G l (d + 29) mX12_mate K 22 [.ref 75, .int q, .int x2, .int (nI p)] [] I1 J (rX g) := by
  intro k
  induction k using Nat.strongRecOn with
  | _ k ih =>
  intro p I1 hpk hp hrow hsb
  refine G_iload_3 (nx := 23) ⟨dX12_mate_22, rfl⟩ ?_
  refine G_bipush (nx := 25) ⟨dX12_mate_23, rfl⟩ cb_12 ?_
  rw [show (12 : Int32) = nI 12 by decide]
  refine G_icmpge (tgt := 41) (nx := 28) ⟨dX12_mate_25, rfl⟩ rfl (fun c_25 => ?_) (fun c_25 => ?_)
  · rw [nI_le_iff (by omega) (by omega)] at c_25
    have : p = 12 := by omega
    subst this
    exact hgo I1 hrow hsb
  · rw [nI_le_iff (by omega) (by omega)] at c_25
    have hin : vp_in (nI p) 12 := vp_in_nI (by omega) (by decide)
    have ecp := cl_nI (p := p) (by omega)
    refine G_aload_0 (nx := 29) ⟨dX12_mate_28, rfl⟩ ?_
    refine G_getr (nx := 32) (k := 75) (r := 81) ⟨dX12_mate_29, rfl⟩ fX12_29 q_75 yr_12_8 (r_75_8 _) ?_
    refine G_iload_3 (nx := 33) ⟨dX12_mate_32, rfl⟩ ?_
    refine G_iconst (nx := 34) ⟨dX12_mate_33, rfl⟩ ci_m1 ?_
    refine G_iast (nx := 35) (k := 81) ⟨dX12_mate_34, rfl⟩ q_81 (by first | assumption | decide | (unfold vp_in; decide)) ?_
    refine G_iinc_3 (nx := 38) ⟨dX12_mate_35, rfl⟩ ci_1 rfl ?_
    refine G_goto (tgt := 22) ⟨dX12_mate_38, rfl⟩ rfl ?_
    refine G_L (by rw [nI_1]) (ih (12 - (p + 1)) (by omega) (p + 1) _ rfl (by omega) (fun x hx => ?_) (hsb.w rfl))
    rw [ecp]
    by_cases e : x = p
    · rw [e, w2_at]
    · rw [w2_ne _ _ _ _ (by omega)]
      exact hrow x (by omega)

def fM (a b : Nat) : Bool := fG a b || a == 81
theorem cM_mate {q : Int32} (hW : WG n gr) (hG : MG I n gr) (hk1 : ptB n q = false → K (.int (-2)) I J (rX g)) (hk : ∀ (p : Nat) (ma : Nat → Nat) (r : Int32) (I' : AI), p < n → q = nI p → LM gr (pc (hz n gr (2 ^ n - 1) 2)) (hz n gr (2 ^ n - 1) 2) (hz n gr (2 ^ n - 1) 0) ma → ((hz n gr (2 ^ n - 1) 2).testBit p = true → r = nI (ma p)) → (∀ h, (hz n gr (2 ^ n - 1) 2).testBit h = true → ma h = p → r = nI h) → ((hz n gr (2 ^ n - 1) 2).testBit p = false → (∀ h, (hz n gr (2 ^ n - 1) 2).testBit h = true → ¬ ma h = p) → r = -1) → sb fM I I' → K (.int r) I' J (rX g)) : G l (d + 29) mX12_mate K 0 [.ref 75, .int q, UU, UU] [] I J (rX g) := by
  have hn := hG.2.1
  refine G_aload_0 (nx := 1) ⟨dX12_mate_0, rfl⟩ ?_
  refine G_iload_1 (nx := 2) ⟨dX12_mate_1, rfl⟩ ?_
  refine G_cv1 (nx := 5) ⟨dX12_mate_2, rfl⟩ kX12_145 rfl q_75 rfl (Nat.le_of_ble_eq_true rfl) (Nat.le_of_ble_eq_true rfl) (cM_isPoint hG ?_)
  refine G_ifne (tgt := 11) (nx := 8) ⟨dX12_mate_5, rfl⟩ rfl (fun c_5 => ?_) (fun c_5 => ?_)
  · rw [bi_n0] at c_5
    obtain ⟨p, hp, ep⟩ := ptB_ex (by omega) c_5
    subst ep
    have h12 := in12 hp hn
    have ecp := cl_nI (p := p) (by omega)
    refine G_aload_0 (nx := 12) ⟨dX12_mate_11, rfl⟩ ?_
    refine G_aload_0 (nx := 13) ⟨dX12_mate_12, rfl⟩ ?_
    refine G_cv0 (nx := 16) ⟨dX12_mate_13, rfl⟩ kX12_129 rfl q_75 rfl (Nat.le_of_ble_eq_true rfl) (Nat.le_of_ble_eq_true rfl) (cM_all hG ?_)
    refine G_cv1 (nx := 19) ⟨dX12_mate_16, rfl⟩ kX12_206 rfl q_75 rfl (Nat.le_of_ble_eq_true rfl) (Nat.le_of_ble_eq_true rfl) (cM_laysHalves hW hG (allLt n) (fun H I1 hv hr hs1 => ?_))
    refine G_istore_2 (nx := 20) ⟨dX12_mate_19, rfl⟩ rfl rfl ?_
    refine G_iconst (nx := 21) ⟨dX12_mate_20, rfl⟩ ci_0 ?_
    refine G_istore_3 (nx := 22) ⟨dX12_mate_21, rfl⟩ rfl rfl ?_
    refine lM_mateA (d := d) (fun I2 hr81 hs2 => ?_) _ 0 I1 rfl (Nat.zero_le _) (fun x hx => absurd hx (Nat.not_lt_zero _)) sb.rf
    have hG2 : MG I2 n gr := (hG.sb hs1 rfl (fun _ => rfl)).sb hs2 rfl (fun _ => rfl)
    have hr2 : ∀ q, q < n → (2 ^ n - 1).testBit q = true → I2 80 q = nI (H q) := fun q h1 h2 => by rw [hs2 80 q rfl]; exact hr q h1 h2
    have hpl := pc_le (hz n gr (2 ^ n - 1) 2)
    have hh4 : hz n gr (2 ^ n - 1) 2 < 4096 := Nat.lt_of_lt_of_le (hset_lt (n := n) (P := 2 ^ n - 1) (H := hvf n gr (2 ^ n - 1)) (v := 2)) (pow12 hn)
    have hdis : ∀ x, (hz n gr (2 ^ n - 1) 2).testBit x = true → (hz n gr (2 ^ n - 1) 0).testBit x = false := by
      intro x hx
      cases e : (hz n gr (2 ^ n - 1) 0).testBit x with
      | false => rfl
      | true =>
        obtain ⟨-, -, a⟩ := hset_t.mp hx
        obtain ⟨-, -, b⟩ := hset_t.mp e
        rw [a] at b; cases b
    have hem : EM gr (hz n gr (2 ^ n - 1) 2) (hz n gr (2 ^ n - 1) 0) := HV_EM hn hW (allLt n) (hvf_HV hv) (fun q => hset_t) (fun q => hset_t)
    refine G_aload_0 (nx := 42) ⟨dX12_mate_41, rfl⟩ ?_
    refine G_aload_0 (nx := 43) ⟨dX12_mate_42, rfl⟩ ?_
    
    refine G_iconst (nx := 44) ⟨dX12_mate_43, rfl⟩ ci_2 ?_
    refine G_aload_0 (nx := 45) ⟨dX12_mate_44, rfl⟩ ?_
    refine G_cv0 (nx := 48) ⟨dX12_mate_45, rfl⟩ kX12_129 rfl q_75 rfl (Nat.le_of_ble_eq_true rfl) (Nat.le_of_ble_eq_true rfl) (cM_all hG2 ?_)
    refine G_cv2 (nx := 51) ⟨dX12_mate_48, rfl⟩ kX12_209 rfl q_75 rfl (Nat.le_of_ble_eq_true rfl) (Nat.le_of_ble_eq_true rfl) (cM_halvesWith (v := 2) (H := H) hG2 (allLt n) (by omega) hr2 (HV_le hv) ?_)
    refine G_aload_0 (nx := 52) ⟨dX12_mate_51, rfl⟩ ?_
    refine G_iconst (nx := 53) ⟨dX12_mate_52, rfl⟩ ci_0 ?_
    refine G_aload_0 (nx := 54) ⟨dX12_mate_53, rfl⟩ ?_
    refine G_cv0 (nx := 57) ⟨dX12_mate_54, rfl⟩ kX12_129 rfl q_75 rfl (Nat.le_of_ble_eq_true rfl) (Nat.le_of_ble_eq_true rfl) (cM_all hG2 ?_)
    refine G_cv2 (nx := 60) ⟨dX12_mate_57, rfl⟩ kX12_209 rfl q_75 rfl (Nat.le_of_ble_eq_true rfl) (Nat.le_of_ble_eq_true rfl) (cM_halvesWith (v := 0) (H := H) hG2 (allLt n) (by omega) hr2 (HV_le hv) ?_)
    rw [hz_eq hv, hz_eq hv]
    refine G_cv2 (nx := 63) ⟨dX12_mate_60, rfl⟩ kX12_216 rfl q_75 rfl (Nat.le_of_ble_eq_true rfl) (Nat.le_of_ble_eq_true rfl) (G_d (show d + 28 = (d + (26 - pc (hz n gr (2 ^ n - 1) 2))) + pc (hz n gr (2 ^ n - 1) 2) + 2 by omega) (cM_pairsAll (pc (hz n gr (2 ^ n - 1) 2)) _ _ (hz n gr (2 ^ n - 1) 2) (hz n gr (2 ^ n - 1) 0) hG2 hset_lt hset_lt hdis rfl (fun ma I3 hlm hr3 hp3 hs3 => ?_) (fun I3 hnem _ _ => absurd hem hnem)))
    refine G_istore_3 (nx := 64) ⟨dX12_mate_63, rfl⟩ rfl rfl ?_
    refine G_aload_0 (nx := 65) ⟨dX12_mate_64, rfl⟩ ?_
    refine G_getr (nx := 68) (k := 75) (r := 81) ⟨dX12_mate_65, rfl⟩ fX12_29 q_75 yr_12_8 (r_75_8 _) ?_
    refine G_iload_1 (nx := 69) ⟨dX12_mate_68, rfl⟩ ?_
    refine G_iald (nx := 70) (k := 81) ⟨dX12_mate_69, rfl⟩ q_81 (by first | assumption | decide | (unfold vp_in; decide)) ?_
    refine G_iret ⟨dX12_mate_70, rfl⟩ rfl ?_
    rw [ecp]
    have hok := LM_ok _ _ _ hh4 rfl hlm
    refine hk p ma (I3 81 p) I3 hp rfl hlm (fun h => (hr3 p h).1) (fun h hh e => by rw [← e]; exact (hr3 h hh).2) (fun h1 h2 => ?_) (((hs1.mono (fun _ _ h => or_f h)).tr (hs2.mono (fun _ _ h => or_r h))).tr (hs3.mono (fun _ _ h => or_r h)))
    rcases hp3 p h1 h2 with e | e
    · rw [e]; exact hr81 p (by omega)
    · exact e.2
    
  · rw [bi_0] at c_5
    refine G_bipush (nx := 10) ⟨dX12_mate_8, rfl⟩ cb_m2 ?_
    refine G_iret ⟨dX12_mate_10, rfl⟩ rfl ?_
    exact hk1 c_5

theorem lM_persists {hd cr x1 : Nat} (hG : MG I n gr) (hh : hd < 2 ^ n) (hc : cr < 2 ^ n) (hk : K (.int (nI (peN n gr (leN n gr) hd cr))) I J (rX g)) : ∀ (k s : Nat), 2 ^ n - s = k → s ≤ 2 ^ n → G l (d + 29) mX12_persists K 41 [.ref 75, .int (nI x1), .int (nI cr), .int (nI hd), .int (nI (leN n gr)), .int (nI (lp (peF n gr (leN n gr) hd cr) s 0)), .int (nI s)] [] I J (rX g) := by
  intro k
  induction k using Nat.strongRecOn with
  | _ k ih =>
  intro s hsk hsn
  have hn := hG.2.1
  have hp2 := pow12 hn
  have h1p : 0 < 2 ^ n := Nat.two_pow_pos n
  have hle : leN n gr ≤ n := leF_le n gr (2 ^ n)
  refine G_iload_6 (nx := 43) ⟨dX12_persists_41, rfl⟩ ?_
  refine G_aload_0 (nx := 44) ⟨dX12_persists_43, rfl⟩ ?_
  refine G_cv0 (nx := 47) ⟨dX12_persists_44, rfl⟩ kX12_129 rfl q_75 rfl (Nat.le_of_ble_eq_true rfl) (Nat.le_of_ble_eq_true rfl) (cM_all hG ?_)
  refine G_icmpgt (tgt := 101) (nx := 50) ⟨dX12_persists_47, rfl⟩ rfl (fun c_47 => ?_) (fun c_47 => ?_)
  · refine G_iload_5 (nx := 103) ⟨dX12_persists_101, rfl⟩ ?_
    refine G_iret ⟨dX12_persists_103, rfl⟩ rfl ?_
    rw [nI_lt_iff (by omega) (by omega)] at c_47
    have hse : s = 2 ^ n := by omega
    subst hse
    exact hk
  · rw [nI_lt_iff (by omega) (by omega)] at c_47
    have hs : s < 2 ^ n := by omega
    have hs4 : s < 4096 := by omega
    have hpc := pc_le s
    refine G_iload_5 (nx := 52) ⟨dX12_persists_50, rfl⟩ ?_
    refine G_iload_6 (nx := 54) ⟨dX12_persists_52, rfl⟩ ?_
    refine G_cs1 (nx := 57) ⟨dX12_persists_54, rfl⟩ kX12_133 rfl rfl (Nat.le_of_ble_eq_true rfl) (Nat.le_of_ble_eq_true rfl) (cM_bits hs4 ?_)
    refine G_iload_4 (nx := 59) ⟨dX12_persists_57, rfl⟩ ?_
    refine G_icmpne (tgt := 91) (nx := 62) ⟨dX12_persists_59, rfl⟩ rfl (fun c_59 => ?_) (fun c_59 => ?_)
    · refine G_iconst (nx := 92) ⟨dX12_persists_91, rfl⟩ ci_0 ?_
      refine G_iadd (nx := 93) ⟨dX12_persists_92, rfl⟩ ?_
      refine G_istore_5 (nx := 95) ⟨dX12_persists_93, rfl⟩ rfl rfl ?_
      refine G_iinc_6 (nx := 98) ⟨dX12_persists_95, rfl⟩ ci_1 rfl ?_
      refine G_goto (tgt := 41) ⟨dX12_persists_98, rfl⟩ rfl ?_
      rw [nI_eq (by omega) (by omega)] at c_59
      refine G_L ?_ (ih (2 ^ n - (s + 1)) (by omega) (s + 1) rfl (by omega))
      simp [lp_s, peF, c_59, nI_1]
    · rw [nI_eq (by omega) (by omega)] at c_59
      refine G_iload_6 (nx := 64) ⟨dX12_persists_62, rfl⟩ ?_
      refine G_iload_2 (nx := 65) ⟨dX12_persists_64, rfl⟩ ?_
      refine G_iand (nx := 66) ⟨dX12_persists_65, rfl⟩ ?_
      rw [nI_and]
      refine G_ifne (tgt := 91) (nx := 69) ⟨dX12_persists_66, rfl⟩ rfl (fun c_66 => ?_) (fun c_66 => ?_)
      · refine G_iconst (nx := 92) ⟨dX12_persists_91, rfl⟩ ci_0 ?_
        refine G_iadd (nx := 93) ⟨dX12_persists_92, rfl⟩ ?_
        refine G_istore_5 (nx := 95) ⟨dX12_persists_93, rfl⟩ rfl rfl ?_
        refine G_iinc_6 (nx := 98) ⟨dX12_persists_95, rfl⟩ ci_1 rfl ?_
        refine G_goto (tgt := 41) ⟨dX12_persists_98, rfl⟩ rfl ?_
        rw [nI_0iff (Nat.lt_of_le_of_lt Nat.and_le_left (by omega))] at c_66
        refine G_L ?_ (ih (2 ^ n - (s + 1)) (by omega) (s + 1) rfl (by omega))
        simp [lp_s, peF, c_59, c_66, nI_1]
      · rw [nI_0iff (Nat.lt_of_le_of_lt Nat.and_le_left (by omega))] at c_66
        refine G_iload_3 (nx := 70) ⟨dX12_persists_69, rfl⟩ ?_
        refine G_iload_6 (nx := 72) ⟨dX12_persists_70, rfl⟩ ?_
        refine G_iconst (nx := 73) ⟨dX12_persists_72, rfl⟩ ci_m1 ?_
        refine G_ixor (nx := 74) ⟨dX12_persists_73, rfl⟩ ?_
        refine G_iand (nx := 75) ⟨dX12_persists_74, rfl⟩ ?_
        rw [nI_df _ (by omega)]
        refine G_ifne (tgt := 91) (nx := 78) ⟨dX12_persists_75, rfl⟩ rfl (fun c_75 => ?_) (fun c_75 => ?_)
        · refine G_iconst (nx := 92) ⟨dX12_persists_91, rfl⟩ ci_0 ?_
          refine G_iadd (nx := 93) ⟨dX12_persists_92, rfl⟩ ?_
          refine G_istore_5 (nx := 95) ⟨dX12_persists_93, rfl⟩ rfl rfl ?_
          refine G_iinc_6 (nx := 98) ⟨dX12_persists_95, rfl⟩ ci_1 rfl ?_
          refine G_goto (tgt := 41) ⟨dX12_persists_98, rfl⟩ rfl ?_
          rw [nI_0iff (Nat.lt_of_le_of_lt (df_le _ _) (by omega))] at c_75
          refine G_L ?_ (ih (2 ^ n - (s + 1)) (by omega) (s + 1) rfl (by omega))
          simp [lp_s, peF, c_59, c_66, c_75, nI_1]
        · rw [nI_0iff (Nat.lt_of_le_of_lt (df_le _ _) (by omega))] at c_75
          refine G_aload_0 (nx := 79) ⟨dX12_persists_78, rfl⟩ ?_
          refine G_iload_6 (nx := 81) ⟨dX12_persists_79, rfl⟩ ?_
          refine G_cv1 (nx := 84) ⟨dX12_persists_81, rfl⟩ kX12_168 rfl q_75 rfl (Nat.le_of_ble_eq_true rfl) (Nat.le_of_ble_eq_true rfl) (cM_covers hG hs4 ?_)
          refine G_ifeq (tgt := 91) (nx := 87) ⟨dX12_persists_84, rfl⟩ rfl (fun c_84 => ?_) (fun c_84 => ?_)
          · refine G_iconst (nx := 92) ⟨dX12_persists_91, rfl⟩ ci_0 ?_
            refine G_iadd (nx := 93) ⟨dX12_persists_92, rfl⟩ ?_
            refine G_istore_5 (nx := 95) ⟨dX12_persists_93, rfl⟩ rfl rfl ?_
            refine G_iinc_6 (nx := 98) ⟨dX12_persists_95, rfl⟩ ci_1 rfl ?_
            refine G_goto (tgt := 41) ⟨dX12_persists_98, rfl⟩ rfl ?_
            simp only [bi_0, bi_n0] at c_84
            refine G_L ?_ (ih (2 ^ n - (s + 1)) (by omega) (s + 1) rfl (by omega))
            simp [lp_s, peF, c_59, c_66, c_75, c_84, nI_1]
          · refine G_iconst (nx := 88) ⟨dX12_persists_87, rfl⟩ ci_1 ?_
            refine G_goto (tgt := 92) ⟨dX12_persists_88, rfl⟩ rfl ?_
            refine G_iadd (nx := 93) ⟨dX12_persists_92, rfl⟩ ?_
            refine G_istore_5 (nx := 95) ⟨dX12_persists_93, rfl⟩ rfl rfl ?_
            refine G_iinc_6 (nx := 98) ⟨dX12_persists_95, rfl⟩ ci_1 rfl ?_
            refine G_goto (tgt := 41) ⟨dX12_persists_98, rfl⟩ rfl ?_
            simp only [bi_0, bi_n0] at c_84
            refine G_L ?_ (ih (2 ^ n - (s + 1)) (by omega) (s + 1) rfl (by omega))
            simp [lp_s, peF, c_59, c_66, c_75, c_84, nI_1]

theorem cM_persists (hW : WG n gr) (hG : MG I n gr) (hk : ∀ (I' : AI), sb fG I I' → K (.int (nI (peN n gr (leN n gr) (hz n gr (2 ^ n - 1) 2) (hz n gr (2 ^ n - 1) 0)))) I' J (rX g)) : G l (d + 29) mX12_persists K 0 [.ref 75, UU, UU, UU, UU, UU, UU] [] I J (rX g) := by
  refine G_aload_0 (nx := 1) ⟨dX12_persists_0, rfl⟩ ?_
  refine G_aload_0 (nx := 2) ⟨dX12_persists_1, rfl⟩ ?_
  refine G_cv0 (nx := 5) ⟨dX12_persists_2, rfl⟩ kX12_129 rfl q_75 rfl (Nat.le_of_ble_eq_true rfl) (Nat.le_of_ble_eq_true rfl) (cM_all hG ?_)
  refine G_cv1 (nx := 8) ⟨dX12_persists_5, rfl⟩ kX12_206 rfl q_75 rfl (Nat.le_of_ble_eq_true rfl) (Nat.le_of_ble_eq_true rfl) (cM_laysHalves hW hG (allLt n) (fun H I1 hv hr hs1 => ?_))
  refine G_istore_1 (nx := 9) ⟨dX12_persists_8, rfl⟩ rfl rfl ?_
  refine G_aload_0 (nx := 10) ⟨dX12_persists_9, rfl⟩ ?_
  refine G_iconst (nx := 11) ⟨dX12_persists_10, rfl⟩ ci_0 ?_
  refine G_aload_0 (nx := 12) ⟨dX12_persists_11, rfl⟩ ?_
  refine G_cv0 (nx := 15) ⟨dX12_persists_12, rfl⟩ kX12_129 rfl q_75 rfl (Nat.le_of_ble_eq_true rfl) (Nat.le_of_ble_eq_true rfl) (cM_all (hG.sb hs1 rfl (fun _ => rfl)) ?_)
  refine G_cv2 (nx := 18) ⟨dX12_persists_15, rfl⟩ kX12_209 rfl q_75 rfl (Nat.le_of_ble_eq_true rfl) (Nat.le_of_ble_eq_true rfl) (cM_halvesWith (v := 0) (H := H) (hG.sb hs1 rfl (fun _ => rfl)) (allLt n) (by omega) hr (HV_le hv) ?_)
  rw [hz_eq hv]
  refine G_istore_2 (nx := 19) ⟨dX12_persists_18, rfl⟩ rfl rfl ?_
  refine G_aload_0 (nx := 20) ⟨dX12_persists_19, rfl⟩ ?_
  refine G_iconst (nx := 21) ⟨dX12_persists_20, rfl⟩ ci_2 ?_
  refine G_aload_0 (nx := 22) ⟨dX12_persists_21, rfl⟩ ?_
  refine G_cv0 (nx := 25) ⟨dX12_persists_22, rfl⟩ kX12_129 rfl q_75 rfl (Nat.le_of_ble_eq_true rfl) (Nat.le_of_ble_eq_true rfl) (cM_all (hG.sb hs1 rfl (fun _ => rfl)) ?_)
  refine G_cv2 (nx := 28) ⟨dX12_persists_25, rfl⟩ kX12_209 rfl q_75 rfl (Nat.le_of_ble_eq_true rfl) (Nat.le_of_ble_eq_true rfl) (cM_halvesWith (v := 2) (H := H) (hG.sb hs1 rfl (fun _ => rfl)) (allLt n) (by omega) hr (HV_le hv) ?_)
  rw [hz_eq hv]
  refine G_istore_3 (nx := 29) ⟨dX12_persists_28, rfl⟩ rfl rfl ?_
  refine G_aload_0 (nx := 30) ⟨dX12_persists_29, rfl⟩ ?_
  refine G_cv0 (nx := 33) ⟨dX12_persists_30, rfl⟩ kX12_180 rfl q_75 rfl (Nat.le_of_ble_eq_true rfl) (Nat.le_of_ble_eq_true rfl) (cM_least (hG.sb hs1 rfl (fun _ => rfl)) ?_)
  refine G_istore_4 (nx := 35) ⟨dX12_persists_33, rfl⟩ rfl rfl ?_
  refine G_iconst (nx := 36) ⟨dX12_persists_35, rfl⟩ ci_0 ?_
  refine G_istore_5 (nx := 38) ⟨dX12_persists_36, rfl⟩ rfl rfl ?_
  refine G_iconst (nx := 39) ⟨dX12_persists_38, rfl⟩ ci_0 ?_
  refine G_istore_6 (nx := 41) ⟨dX12_persists_39, rfl⟩ rfl rfl ?_
  exact lM_persists (hG.sb hs1 rfl (fun _ => rfl)) hset_lt hset_lt (hk I1 hs1) _ 0 rfl (Nat.zero_le _)

end M30
