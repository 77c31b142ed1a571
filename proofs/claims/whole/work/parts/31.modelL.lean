def fPr (s a b : Nat) : Bool := fT a b || (a == 103 && b == s) || (a == 104 && b == s) || (a == 105 && (decide (60 * s ≤ b) && decide (b < 60 * s + 60)))
theorem it_nI {s i : Nat} : (60 : Int32) * nI s + nI i = nI (60 * s + i) := by
  rw [show (60 : Int32) = nI 60 by decide, pk_mul, nI_add]
theorem in240 {s i : Nat} (hs : s < 4) (hi : i < 60) : vp_in (nI (60 * s + i)) 240 := vp_in_nI (by omega) (by decide)
theorem in4 {s : Nat} (hs : s < 4) : vp_in (nI s) 4 := vp_in_nI hs (by decide)
def prR (t : List ND) (i : Nat) : Int32 := match t[i]? with | some nd => mv nd.1 | none => 0
def fI (a b : Nat) : Bool := fH a b || (a == 75 && b == 22)
def IsC (l : Launch) (D n : Nat) (gr : Nat → Nat) (s sz : Nat) (row : Nat → Int32) (J : AJ) (g : Bool) (f : Nat) : Prop := ∀ (K : AK) (I : AI) (P : Nat) (k : Int) (dp at0 : Nat), MG I n gr → I 104 s = nI sz → (∀ j, j < 60 → I 105 (60 * s + j) = row j) → P < 2 ^ n → -12 * (dp : Int) ≤ k → k ≤ 12 → dp + pc P ≤ 12 → pc P < f → I 75 22 = nI at0 → at0 ≤ 60 →
  (∀ (I' : AI), I' 75 22 = nI (rd n gr row sz f P k dp at0).2 → (rd n gr row sz f P k dp at0).2 ≤ 60 → sb fI I I' → K (.int (bi (rd n gr row sz f P k dp at0).1)) I' J (rX g)) →
  G l D mX12_isTold K 0 [.ref 75, .int (nI s), .int (nI P), .int (iI k), .int (nI dp), UU, UU, UU] [] I J (rX g)
section M31
variable {l : Launch} {d : Nat} {K : AK} {I : AI} {J : AJ} {g : Bool} {n : Nat} {gr : Nat → Nat}

theorem lM_prove {s k0 : Nat} {q : Int32} {t : List ND} (hs : s < 4) (hlen : t.length ≤ 60) (hx : SX I t t t t t (-1)) (hk : ∀ (I' : AI), (∀ i, i < 60 → I' 105 (60 * s + i) = prR t i) → sb (fun a b => a == 105 && (decide (60 * s ≤ b) && decide (b < 60 * s + 60))) I I' → K (.int (nI t.length)) I' J (rX g)) : ∀ (k i : Nat) (I1 : AI), 60 - i = k → i ≤ 60 → (∀ j, j < i → I1 105 (60 * s + j) = prR t j) → sb (fun a b => a == 105 && (decide (60 * s ≤ b) && decide (b < 60 * s + 60))) I I1 → G l d mX12_prove K 63 [.ref 75, .int (nI s), .int q, .int (nI i)] [] I1 J (rX g) := by
  intro k
  induction k using Nat.strongRecOn with
  | _ k ih =>
  intro i I1 hik hi hrow hsb
  have e16 : I1 75 16 = nI t.length := by rw [hsb 75 16 rfl]; exact hx.1
  refine G_iload_3 (nx := 64) ⟨dX12_prove_63, rfl⟩ ?_
  refine G_bipush (nx := 66) ⟨dX12_prove_64, rfl⟩ cb_60 ?_
  rw [show (60 : Int32) = nI 60 by decide]
  refine G_icmpge (tgt := 104) (nx := 69) ⟨dX12_prove_66, rfl⟩ rfl (fun c_66 => ?_) (fun c_66 => ?_)
  · refine G_aload_0 (nx := 105) ⟨dX12_prove_104, rfl⟩ ?_
    refine G_geti (nx := 108) (k := 75) ⟨dX12_prove_105, rfl⟩ fX12_259 q_75 yi_12_16 ?_
    rw [e16]
    refine G_iret ⟨dX12_prove_108, rfl⟩ rfl ?_
    rw [nI_le_iff (by omega) (by omega)] at c_66
    have : i = 60 := by omega
    subst this
    exact hk I1 hrow hsb
  · rw [nI_le_iff (by omega) (by omega)] at c_66
    have hin := in240 hs (show i < 60 by omega)
    have hi60 : vp_in (nI i) 60 := vp_in_nI (by omega) (by decide)
    have eci := cl_nI (p := i) (by omega)
    have ecs := cl_nI (p := 60 * s + i) (by omega)
    refine G_aload_0 (nx := 70) ⟨dX12_prove_69, rfl⟩ ?_
    refine G_getr (nx := 73) (k := 75) (r := 105) ⟨dX12_prove_70, rfl⟩ fX12_103 q_75 yr_12_45 (r_75_45 _) ?_
    refine G_bipush (nx := 75) ⟨dX12_prove_73, rfl⟩ cb_60 ?_
    refine G_iload_1 (nx := 76) ⟨dX12_prove_75, rfl⟩ ?_
    refine G_imul (nx := 77) ⟨dX12_prove_76, rfl⟩ ?_
    refine G_iload_3 (nx := 78) ⟨dX12_prove_77, rfl⟩ ?_
    refine G_iadd (nx := 79) ⟨dX12_prove_78, rfl⟩ ?_
    rw [it_nI]
    refine G_iload_3 (nx := 80) ⟨dX12_prove_79, rfl⟩ ?_
    refine G_aload_0 (nx := 81) ⟨dX12_prove_80, rfl⟩ ?_
    refine G_geti (nx := 84) (k := 75) ⟨dX12_prove_81, rfl⟩ fX12_259 q_75 yi_12_16 ?_
    rw [e16]
    refine G_icmpge (tgt := 96) (nx := 87) ⟨dX12_prove_84, rfl⟩ rfl (fun c_84 => ?_) (fun c_84 => ?_)
    · rw [nI_le_iff (by omega) (by omega)] at c_84
      refine G_iconst (nx := 97) ⟨dX12_prove_96, rfl⟩ ci_0 ?_
      refine G_iast (nx := 98) (k := 105) ⟨dX12_prove_97, rfl⟩ q_105 (by first | assumption | decide | (unfold vp_in; decide)) ?_
      refine G_iinc_3 (nx := 101) ⟨dX12_prove_98, rfl⟩ ci_1 rfl ?_
      refine G_goto (tgt := 63) ⟨dX12_prove_101, rfl⟩ rfl ?_
      rw [ecs]
      refine G_L (by rw [nI_1]) (ih (60 - (i + 1)) (by omega) (i + 1) _ rfl (by omega) (fun j hj => ?_) (hsb.w (by simp; omega)))
      by_cases e : j = i
      · subst e
        rw [w2_at]
        unfold prR; rw [List.getElem?_eq_none (by omega)]
      · rw [w2_ne _ _ _ _ (by omega)]
        exact hrow j (by omega)
    · rw [nI_le_iff (by omega) (by omega)] at c_84
      refine G_aload_0 (nx := 88) ⟨dX12_prove_87, rfl⟩ ?_
      refine G_getr (nx := 91) (k := 75) (r := 86) ⟨dX12_prove_88, rfl⟩ fX12_44 q_75 yr_12_21 (r_75_21 _) ?_
      refine G_iload_3 (nx := 92) ⟨dX12_prove_91, rfl⟩ ?_
      refine G_iald (nx := 93) (k := 86) ⟨dX12_prove_92, rfl⟩ q_86 (by first | assumption | decide | (unfold vp_in; decide)) ?_
      rw [eci, hsb 86 i rfl]
      obtain ⟨nd, hnd⟩ : ∃ nd, t[i]? = some nd := ⟨_, List.getElem?_eq_getElem (by omega)⟩
      rw [hx.2.2.2.2.1 i nd (by omega) hnd]
      refine G_goto (tgt := 97) ⟨dX12_prove_93, rfl⟩ rfl ?_
      refine G_iast (nx := 98) (k := 105) ⟨dX12_prove_97, rfl⟩ q_105 (by first | assumption | decide | (unfold vp_in; decide)) ?_
      refine G_iinc_3 (nx := 101) ⟨dX12_prove_98, rfl⟩ ci_1 rfl ?_
      refine G_goto (tgt := 63) ⟨dX12_prove_101, rfl⟩ rfl ?_
      rw [ecs]
      refine G_L (by rw [nI_1]) (ih (60 - (i + 1)) (by omega) (i + 1) _ rfl (by omega) (fun j hj => ?_) (hsb.w (by simp; omega)))
      by_cases e : j = i
      · subst e
        rw [w2_at]
        unfold prR; rw [hnd]
      · rw [w2_ne _ _ _ _ (by omega)]
        exact hrow j (by omega)

theorem cM_prove {s k : Int32} (hG : MG I n gr) (hk1 : (inR s 0 3 && inR k 0 12) = false → K (.int (-2)) I J (rX g)) (hk : ∀ (s0 k0 : Nat) (I' : AI), s = nI s0 → s0 < 4 → k = nI k0 → k0 ≤ 12 →
  (((sa n gr k0).2.isSome = true → sb fT I I' → K (.int (-1)) I' J (rX g)) ∧ ((sa n gr k0).2 = none → 60 < (sa n gr k0).1.length → sb fT I I' → K (.int (-4)) I' J (rX g)) ∧
   ((sa n gr k0).2 = none → (sa n gr k0).1.length ≤ 60 → I' 103 s0 = 1 → I' 104 s0 = nI (sa n gr k0).1.length → (∀ i, i < 60 → I' 105 (60 * s0 + i) = prR (sa n gr k0).1 i) → sb (fPr s0) I I' → K (.int (nI (sa n gr k0).1.length)) I' J (rX g)))) : G l (d + 29) mX12_prove K 0 [.ref 75, .int s, .int k, UU] [] I J (rX g) := by
  refine G_iload_1 (nx := 1) ⟨dX12_prove_0, rfl⟩ ?_
  refine G_cs1 (nx := 4) ⟨dX12_prove_1, rfl⟩ kX12_253 rfl rfl (Nat.le_of_ble_eq_true rfl) (Nat.le_of_ble_eq_true rfl) (cM_isSheet ?_)
  refine G_ifeq (tgt := 17) (nx := 7) ⟨dX12_prove_4, rfl⟩ rfl (fun c_4 => ?_) (fun c_4 => ?_)
  · refine G_bipush (nx := 19) ⟨dX12_prove_17, rfl⟩ cb_m2 ?_
    refine G_iret ⟨dX12_prove_19, rfl⟩ rfl ?_
    rw [bi_0] at c_4
    exact hk1 (by simp [c_4])
  · rw [bi_n0] at c_4
    refine G_iload_2 (nx := 8) ⟨dX12_prove_7, rfl⟩ ?_
    refine G_iconst (nx := 9) ⟨dX12_prove_8, rfl⟩ ci_0 ?_
    refine G_bipush (nx := 11) ⟨dX12_prove_9, rfl⟩ cb_12 ?_
    refine G_cs3 (nx := 14) ⟨dX12_prove_11, rfl⟩ kX12_125 rfl rfl (Nat.le_of_ble_eq_true rfl) (Nat.le_of_ble_eq_true rfl) (cM_in ?_)
    refine G_ifne (tgt := 20) (nx := 17) ⟨dX12_prove_14, rfl⟩ rfl (fun c_14 => ?_) (fun c_14 => ?_)
    · rw [bi_n0] at c_14
      obtain ⟨s0, hs0, es⟩ := s_ex c_4
      subst es
      obtain ⟨k0, hk0, ek⟩ := k_ex c_14
      subst ek
      have hin4 := in4 hs0
      have ecs := cl_nI (p := s0) (by omega)
      refine G_aload_0 (nx := 21) ⟨dX12_prove_20, rfl⟩ ?_
      refine G_iload_2 (nx := 22) ⟨dX12_prove_21, rfl⟩ ?_
      refine G_iconst (nx := 23) ⟨dX12_prove_22, rfl⟩ ci_m1 ?_
      refine G_cv2 (nx := 26) ⟨dX12_prove_23, rfl⟩ kX12_277 rfl q_75 rfl (Nat.le_of_ble_eq_true rfl) (Nat.le_of_ble_eq_true rfl) (cM_searchFor hG hk0 (fun I1 hx hs1 => ?_))
      refine G_iconst (nx := 27) ⟨dX12_prove_26, rfl⟩ ci_m1 ?_
      refine G_icmpeq (tgt := 32) (nx := 30) ⟨dX12_prove_27, rfl⟩ rfl (fun c_27 => ?_) (fun c_27 => ?_)
      · have hnone : (sa n gr k0).2 = none := by
          cases e : (sa n gr k0).2 with
          | none => rfl
          | some x => exact absurd (show mv (sa n gr k0).2 = -1 from c_27) (by rw [e]; exact nI_ne_m1 (by have := sr_lt hG.2.2.2 13 _ _ _ _ x (allLt n) (Nat.two_pow_pos n) e; have := pow12 hG.2.1; omega))
        have hsl := sr_len n gr 13 (2 ^ n - 1) 0 k0 0
        have h13 : (2:Nat) ^ 13 = 8192 := by decide
        have hsa : (sa n gr k0).1.length = (sr n gr 13 (2 ^ n - 1) 0 k0 0).1.length := rfl
        refine G_aload_0 (nx := 33) ⟨dX12_prove_32, rfl⟩ ?_
        refine G_geti (nx := 36) (k := 75) ⟨dX12_prove_33, rfl⟩ fX12_259 q_75 yi_12_16 ?_
        refine G_bipush (nx := 38) ⟨dX12_prove_36, rfl⟩ cb_60 ?_
        rw [hx.1, show (60 : Int32) = nI 60 by decide]
        refine G_icmple (tgt := 44) (nx := 41) ⟨dX12_prove_38, rfl⟩ rfl (fun c_38 => ?_) (fun c_38 => ?_)
        · rw [nI_le_iff (by omega) (by omega)] at c_38
          refine G_aload_0 (nx := 45) ⟨dX12_prove_44, rfl⟩ ?_
          refine G_getr (nx := 48) (k := 75) (r := 103) ⟨dX12_prove_45, rfl⟩ fX12_97 q_75 yr_12_43 (r_75_43 _) ?_
          refine G_iload_1 (nx := 49) ⟨dX12_prove_48, rfl⟩ ?_
          refine G_iconst (nx := 50) ⟨dX12_prove_49, rfl⟩ ci_1 ?_
          refine G_iast (nx := 51) (k := 103) ⟨dX12_prove_50, rfl⟩ q_103 (by first | assumption | decide | (unfold vp_in; decide)) ?_
          refine G_aload_0 (nx := 52) ⟨dX12_prove_51, rfl⟩ ?_
          refine G_getr (nx := 55) (k := 75) (r := 104) ⟨dX12_prove_52, rfl⟩ fX12_100 q_75 yr_12_44 (r_75_44 _) ?_
          refine G_iload_1 (nx := 56) ⟨dX12_prove_55, rfl⟩ ?_
          refine G_aload_0 (nx := 57) ⟨dX12_prove_56, rfl⟩ ?_
          refine G_geti (nx := 60) (k := 75) ⟨dX12_prove_57, rfl⟩ fX12_259 q_75 yi_12_16 ?_
          rw [w2_row _ _ _ _ (show ¬ 75 = 103 by decide), hx.1]
          refine G_iast (nx := 61) (k := 104) ⟨dX12_prove_60, rfl⟩ q_104 (by first | assumption | decide | (unfold vp_in; decide)) ?_
          refine G_iconst (nx := 62) ⟨dX12_prove_61, rfl⟩ ci_0 ?_
          refine G_istore_3 (nx := 63) ⟨dX12_prove_62, rfl⟩ rfl rfl ?_
          rw [ecs]
          refine lM_prove (t := (sa n gr k0).1) (k0 := k0) hs0 (by omega) ?_ (fun I2 h105 hs2 => ?_) _ 0 _ rfl (Nat.zero_le _) (fun j hj => absurd hj (Nat.not_lt_zero _)) sb.rf
          · exact (hx.sb (F := fun a _ => a == 103) (sb.rf.w rfl) rfl rfl rfl rfl (fun _ => rfl) (fun _ => rfl)).sb (F := fun a _ => a == 104) (sb.rf.w rfl) rfl rfl rfl rfl (fun _ => rfl) (fun _ => rfl)
          · refine (hk s0 k0 I2 rfl hs0 rfl hk0).2.2 hnone (by omega) ?_ ?_ h105 (fun a b h => ?_)
            · rw [hs2 103 s0 rfl, w2_row _ _ _ _ (show ¬ 103 = 104 by decide), w2_at]
            · rw [hs2 104 s0 rfl, w2_at]; rfl
            · have h1 := or_f h
              have h2 := or_f h1
              rw [hs2 a b (or_r h), w2_ne _ _ _ _ (fun e => by rw [e.1, e.2] at h; simp [fPr] at h), w2_ne _ _ _ _ (fun e => by rw [e.1, e.2] at h; simp [fPr] at h)]
              exact hs1 a b (or_f h2)
        · rw [nI_le_iff (by omega) (by omega)] at c_38
          refine G_bipush (nx := 43) ⟨dX12_prove_41, rfl⟩ cb_m4 ?_
          refine G_iret ⟨dX12_prove_43, rfl⟩ rfl ?_
          exact (hk s0 k0 I1 rfl hs0 rfl hk0).2.1 hnone (by omega) hs1
      · refine G_iconst (nx := 31) ⟨dX12_prove_30, rfl⟩ ci_m1 ?_
        refine G_iret ⟨dX12_prove_31, rfl⟩ rfl ?_
        have hso : (sa n gr k0).2.isSome = true := by
          cases e : (sa n gr k0).2 with
          | none => exact absurd (show mv (sa n gr k0).2 = -1 by rw [e]; rfl) c_27
          | some x => rfl
        exact (hk s0 k0 I1 rfl hs0 rfl hk0).1 hso hs1
    · refine G_bipush (nx := 19) ⟨dX12_prove_17, rfl⟩ cb_m2 ?_
      refine G_iret ⟨dX12_prove_19, rfl⟩ rfl ?_
      rw [bi_0] at c_14
      exact hk1 (by simp [c_14])

theorem lM_isToldW {f' s sz P dp tk v : Nat} {k : Int} {row : Nat → Int32} {x6 : Int32} {x7 : Value} {at0 : Nat} (hrec : IsC l (d + f' + 14) n gr s sz row J g f') (hs4 : s < 4) (hG : MG I n gr) (hsz : I 104 s = nI sz) (hrow : ∀ j, j < 60 → I 105 (60 * s + j) = row j) (hP : P < 2 ^ n) (htk : tk < 2 ^ n) (hvn : v < n) (hPv : P.testBit v = true) (hk1 : -12 * (dp : Int) ≤ k) (hk2 : k ≤ 12) (hdp : dp + pc P ≤ 12) (hpc : pc P < f' + 1) (hat : I 75 22 = nI at0) (hat60 : at0 ≤ 60)
  (hno : ∀ (I' : AI), (rd n gr row sz f' (df P (tk ||| 2 ^ v)) (k - (pc tk : Int)) (dp + 1) at0).1 = false → I' 75 22 = nI (rd n gr row sz f' (df P (tk ||| 2 ^ v)) (k - (pc tk : Int)) (dp + 1) at0).2 → (rd n gr row sz f' (df P (tk ||| 2 ^ v)) (k - (pc tk : Int)) (dp + 1) at0).2 ≤ 60 → sb fI I I' → K (.int 0) I' J (rX g))
  (hyes : ∀ (I' : AI), (rd n gr row sz f' (df P (tk ||| 2 ^ v)) (k - (pc tk : Int)) (dp + 1) at0).1 = true → I' 75 22 = nI (rd n gr row sz f' (df P (tk ||| 2 ^ v)) (k - (pc tk : Int)) (dp + 1) at0).2 → (rd n gr row sz f' (df P (tk ||| 2 ^ v)) (k - (pc tk : Int)) (dp + 1) at0).2 ≤ 60 → sb fI I I' → G l (d + (f' + 1) + 14) mX12_isTold K 165 [.ref 75, .int (nI s), .int (nI P), .int (iI k), .int (nI dp), .int (nI v), .int x6, .int (nI tk)] [] I' J (rX g)) :
  G l (d + (f' + 1) + 14) mX12_isTold K 133 [.ref 75, .int (nI s), .int (nI P), .int (iI k), .int (nI dp), .int (nI v), .int x6, .int (nI tk)] [] I J (rX g) := by
  have hn := hG.2.1
  have hp2 := pow12 hn
  have hpt := pc_le tk
  have hpp : 2 ^ v < 2 ^ n := Nat.pow_lt_pow_right (by omega) hvn
  have hor : tk ||| 2 ^ v < 2 ^ n := Nat.or_lt_two_pow htk hpp
  have hsub := pc_dfs (a := P) (b := tk ||| 2 ^ v) (show v < 12 by omega) hPv (by rw [tb_ins]; simp)
  refine G_aload_0 (nx := 134) ⟨dX12_isTold_133, rfl⟩ ?_
  refine G_iload_1 (nx := 135) ⟨dX12_isTold_134, rfl⟩ ?_
  refine G_iload_2 (nx := 136) ⟨dX12_isTold_135, rfl⟩ ?_
  refine G_iload_7 (nx := 138) ⟨dX12_isTold_136, rfl⟩ ?_
  refine G_iconst (nx := 139) ⟨dX12_isTold_138, rfl⟩ ci_1 ?_
  refine G_iload_5 (nx := 141) ⟨dX12_isTold_139, rfl⟩ ?_
  refine G_ishl (nx := 142) ⟨dX12_isTold_141, rfl⟩ ?_
  rw [one_shl (by omega)]
  refine G_ior (nx := 143) ⟨dX12_isTold_142, rfl⟩ ?_
  rw [nI_or]
  refine G_iconst (nx := 144) ⟨dX12_isTold_143, rfl⟩ ci_m1 ?_
  refine G_ixor (nx := 145) ⟨dX12_isTold_144, rfl⟩ ?_
  refine G_iand (nx := 146) ⟨dX12_isTold_145, rfl⟩ ?_
  rw [nI_df _ (by omega)]
  refine G_iload_3 (nx := 147) ⟨dX12_isTold_146, rfl⟩ ?_
  refine G_iload_7 (nx := 149) ⟨dX12_isTold_147, rfl⟩ ?_
  refine G_cs1 (nx := 152) ⟨dX12_isTold_149, rfl⟩ kX12_133 rfl rfl (Nat.le_of_ble_eq_true rfl) (Nat.le_of_ble_eq_true rfl) (cM_bits (by omega) ?_)
  refine G_isub (nx := 153) ⟨dX12_isTold_152, rfl⟩ ?_
  rw [iI_subN]
  refine G_iload_4 (nx := 155) ⟨dX12_isTold_153, rfl⟩ ?_
  refine G_iconst (nx := 156) ⟨dX12_isTold_155, rfl⟩ ci_1 ?_
  refine G_iadd (nx := 157) ⟨dX12_isTold_156, rfl⟩ ?_
  rw [nI_1]
  refine G_cv4 (nx := 160) ⟨dX12_isTold_157, rfl⟩ kX12_283 rfl q_75 rfl (Nat.le_of_ble_eq_true rfl) (Nat.le_of_ble_eq_true rfl) (hrec _ _ (df P (tk ||| 2 ^ v)) (k - (pc tk : Int)) (dp + 1) at0 hG hsz hrow (Nat.lt_of_le_of_lt (df_le _ _) hP) (by omega) (by omega) (by omega) (by omega) hat hat60 (fun I1 h22 h60 hs1 => ?_))
  refine G_ifne (tgt := 165) (nx := 163) ⟨dX12_isTold_160, rfl⟩ rfl (fun c_160 => ?_) (fun c_160 => ?_)
  · rw [bi_n0] at c_160
    exact hyes I1 c_160 h22 h60 hs1
  · rw [bi_0] at c_160
    refine G_iconst (nx := 164) ⟨dX12_isTold_163, rfl⟩ ci_0 ?_
    refine G_zret ⟨dX12_isTold_164, rfl⟩ rfl (by first | assumption | decide | exact bi_01 _) ?_
    exact hno I1 c_160 h22 h60 hs1

theorem cM_isTold {s sz : Nat} {row : Nat → Int32} (hs4 : s < 4) (hsz60 : sz ≤ 60) : ∀ f, IsC l (d + f + 14) n gr s sz row J g f := by
  intro f
  induction f with
  | zero => intro K I P k dp at0 _ _ _ _ _ _ _ hpc; exact absurd hpc (Nat.not_lt_zero _)
  | succ f' ih =>
    intro K I P k dp at0 hG hsz hrow hP hk1 hk2 hdp hpc hat hat60 hk
    have hn := hG.2.1
    have hp2 := pow12 hn
    have hpl := pc_le P
    have htl := tau_le_pc (gr := gr) (A := P) (B := P)
    have hin4 := in4 hs4
    have ecs := cl_nI (p := s) (by omega)
    have fls : ∀ I', (rd n gr row sz (f' + 1) P k dp at0) = (false, at0) → I' 75 22 = nI at0 → sb fI I I' → K (.int 0) I' J (rX g) := fun I' h1 h2 h3 => by
      have := hk I' (by rw [h1]; exact h2) (by rw [h1]; exact hat60) h3
      rw [h1] at this
      exact this
    refine G_aload_0 (nx := 1) ⟨dX12_isTold_0, rfl⟩ ?_
    refine G_geti (nx := 4) (k := 75) ⟨dX12_isTold_1, rfl⟩ fX12_280 q_75 yi_12_22 ?_
    rw [hat]
    refine G_aload_0 (nx := 5) ⟨dX12_isTold_4, rfl⟩ ?_
    refine G_getr (nx := 8) (k := 75) (r := 104) ⟨dX12_isTold_5, rfl⟩ fX12_100 q_75 yr_12_44 (r_75_44 _) ?_
    refine G_iload_1 (nx := 9) ⟨dX12_isTold_8, rfl⟩ ?_
    refine G_iald (nx := 10) (k := 104) ⟨dX12_isTold_9, rfl⟩ q_104 (by first | assumption | decide | (unfold vp_in; decide)) ?_
    rw [ecs, hsz]
    refine G_icmplt (tgt := 15) (nx := 13) ⟨dX12_isTold_10, rfl⟩ rfl (fun c_10 => ?_) (fun c_10 => ?_)
    · rw [nI_lt_iff (by omega) (by omega)] at c_10
      have hin := in240 hs4 (show at0 < 60 by omega)
      refine G_aload_0 (nx := 16) ⟨dX12_isTold_15, rfl⟩ ?_
      refine G_getr (nx := 19) (k := 75) (r := 105) ⟨dX12_isTold_16, rfl⟩ fX12_103 q_75 yr_12_45 (r_75_45 _) ?_
      refine G_bipush (nx := 21) ⟨dX12_isTold_19, rfl⟩ cb_60 ?_
      refine G_iload_1 (nx := 22) ⟨dX12_isTold_21, rfl⟩ ?_
      refine G_imul (nx := 23) ⟨dX12_isTold_22, rfl⟩ ?_
      refine G_aload_0 (nx := 24) ⟨dX12_isTold_23, rfl⟩ ?_
      refine G_geti (nx := 27) (k := 75) ⟨dX12_isTold_24, rfl⟩ fX12_280 q_75 yi_12_22 ?_
      rw [hat]
      refine G_iadd (nx := 28) ⟨dX12_isTold_27, rfl⟩ ?_
      rw [it_nI]
      refine G_iald (nx := 29) (k := 105) ⟨dX12_isTold_28, rfl⟩ q_105 (by first | assumption | decide | (unfold vp_in; decide)) ?_
      rw [cl_nI (by omega), hrow at0 (by omega)]
      refine G_istore_5 (nx := 31) ⟨dX12_isTold_29, rfl⟩ rfl rfl ?_
      refine G_iload_5 (nx := 33) ⟨dX12_isTold_31, rfl⟩ ?_
      refine G_iconst (nx := 34) ⟨dX12_isTold_33, rfl⟩ ci_m1 ?_
      refine G_icmpne (tgt := 51) (nx := 37) ⟨dX12_isTold_34, rfl⟩ rfl (fun c_34 => ?_) (fun c_34 => ?_)
      · refine G_aload_0 (nx := 52) ⟨dX12_isTold_51, rfl⟩ ?_
        refine G_iload_5 (nx := 54) ⟨dX12_isTold_52, rfl⟩ ?_
        refine G_cv1 (nx := 57) ⟨dX12_isTold_54, rfl⟩ kX12_145 rfl q_75 rfl (Nat.le_of_ble_eq_true rfl) (Nat.le_of_ble_eq_true rfl) (cM_isPoint hG ?_)
        refine G_ifeq (tgt := 79) (nx := 60) ⟨dX12_isTold_57, rfl⟩ rfl (fun c_57 => ?_) (fun c_57 => ?_)
        · refine G_iconst (nx := 80) ⟨dX12_isTold_79, rfl⟩ ci_0 ?_
          refine G_zret ⟨dX12_isTold_80, rfl⟩ rfl (by first | assumption | decide | exact bi_01 _) ?_
          rw [bi_0] at c_57
          have hlb : lb (fun v => decide (row at0 = nI v)) n = none := lb_none (fun q hq => decide_eq_false (fun e => by rw [e, ptB_nI hq (by omega)] at c_57; cases c_57))
          exact fls I (by simp only [rd, if_neg (show ¬ sz ≤ at0 by omega), c_34, if_false, hlb]) hat sb.rf
        · rw [bi_n0] at c_57
          obtain ⟨v, hv, ev⟩ := ptB_ex (by omega) c_57
          rw [ev]
          have hlb : lb (fun v => decide (row at0 = nI v)) n = some v := lb_some hv (decide_eq_true ev) (fun q hq => decide_eq_false (fun e => by have := nI_inj (by omega) (by omega) (ev.symm.trans e); omega))
          refine G_iload_2 (nx := 61) ⟨dX12_isTold_60, rfl⟩ ?_
          refine G_iload_5 (nx := 63) ⟨dX12_isTold_61, rfl⟩ ?_
          refine G_cs2 (nx := 66) ⟨dX12_isTold_63, rfl⟩ kX12_118 rfl rfl (Nat.le_of_ble_eq_true rfl) (Nat.le_of_ble_eq_true rfl) (cM_has (by omega) (by omega) ?_)
          refine G_ifeq (tgt := 79) (nx := 69) ⟨dX12_isTold_66, rfl⟩ rfl (fun c_66 => ?_) (fun c_66 => ?_)
          · refine G_iconst (nx := 80) ⟨dX12_isTold_79, rfl⟩ ci_0 ?_
            refine G_zret ⟨dX12_isTold_80, rfl⟩ rfl (by first | assumption | decide | exact bi_01 _) ?_
            rw [bi_0] at c_66
            exact fls I (by simp only [rd, if_neg (show ¬ sz ≤ at0 by omega), c_34, if_false, hlb, c_66, true_or, if_true]) hat sb.rf
          · rw [bi_n0] at c_66
            refine G_aload_0 (nx := 70) ⟨dX12_isTold_69, rfl⟩ ?_
            refine G_iload_5 (nx := 72) ⟨dX12_isTold_70, rfl⟩ ?_
            refine G_iload_2 (nx := 73) ⟨dX12_isTold_72, rfl⟩ ?_
            refine G_cv2 (nx := 76) ⟨dX12_isTold_73, rfl⟩ kX12_228 rfl q_75 rfl (Nat.le_of_ble_eq_true rfl) (Nat.le_of_ble_eq_true rfl) (cM_degree hG hv (by omega) ?_)
            refine G_ifne (tgt := 81) (nx := 79) ⟨dX12_isTold_76, rfl⟩ rfl (fun c_76 => ?_) (fun c_76 => ?_)
            · refine G_aload_0 (nx := 82) ⟨dX12_isTold_81, rfl⟩ ?_
              refine G_dup (nx := 83) ⟨dX12_isTold_82, rfl⟩ rfl ?_
              refine G_geti (nx := 86) (k := 75) ⟨dX12_isTold_83, rfl⟩ fX12_280 q_75 yi_12_22 ?_
              rw [hat]
              refine G_iconst (nx := 87) ⟨dX12_isTold_86, rfl⟩ ci_1 ?_
              refine G_iadd (nx := 88) ⟨dX12_isTold_87, rfl⟩ ?_
              rw [nI_1]
              refine G_puti (nx := 91) (k := 75) ⟨dX12_isTold_88, rfl⟩ pX12_280 q_75 yt_12_22 ?_
              have hno : ¬ (P.testBit v = false ∨ gr v &&& P = 0) := fun h => by
                rcases h with h | h
                · rw [c_66] at h; cases h
                · rw [h] at c_76; exact c_76 (by decide)
              have hpp : 2 ^ v < 2 ^ n := Nat.pow_lt_pow_right (by omega) hv
              have hgp : gr v &&& P < 2 ^ n := Nat.lt_of_le_of_lt Nat.and_le_right hP
              have h12 := in12 hv hn
              have hsz1 : (w2 I 75 22 (nI (at0 + 1))) 104 s = nI sz := by rw [w2_row _ _ _ _ (show ¬ 104 = 75 by decide)]; exact hsz
              have hrow1 : ∀ j, j < 60 → (w2 I 75 22 (nI (at0 + 1))) 105 (60 * s + j) = row j := fun j hj => by rw [w2_row _ _ _ _ (show ¬ 105 = 75 by decide)]; exact hrow j hj
              refine G_iconst (nx := 92) ⟨dX12_isTold_91, rfl⟩ ci_0 ?_
              refine G_istore_6 (nx := 94) ⟨dX12_isTold_92, rfl⟩ rfl rfl ?_
              refine G_iload_5 (nx := 96) ⟨dX12_isTold_94, rfl⟩ ?_
              refine G_iconst (nx := 97) ⟨dX12_isTold_96, rfl⟩ ci_m1 ?_
              refine G_icmpeq (tgt := 171) (nx := 100) ⟨dX12_isTold_97, rfl⟩ rfl (fun c_97 => ?_) (fun c_97 => ?_)
              · exact absurd c_97 (nI_ne_m1 (by omega))
              · refine G_iload_6 (nx := 102) ⟨dX12_isTold_100, rfl⟩ ?_
                refine G_iconst (nx := 103) ⟨dX12_isTold_102, rfl⟩ ci_2 ?_
                refine G_icmpge (tgt := 171) (nx := 106) ⟨dX12_isTold_103, rfl⟩ rfl (fun c_103 => ?_) (fun c_103 => ?_)
                · exact absurd c_103 (by decide)
                · refine G_iload_6 (nx := 108) ⟨dX12_isTold_106, rfl⟩ ?_
                  refine G_iload_4 (nx := 110) ⟨dX12_isTold_108, rfl⟩ ?_
                  refine G_iconst (nx := 111) ⟨dX12_isTold_110, rfl⟩ ci_2 ?_
                  refine G_irem (nx := 112) ⟨dX12_isTold_111, rfl⟩ (by decide) ?_
                  rw [show (2 : Int32) = nI 2 by decide, pk_rem (by omega) (by omega) (by omega)]
                  refine G_icmpne (tgt := 122) (nx := 115) ⟨dX12_isTold_112, rfl⟩ rfl (fun c_112 => ?_) (fun c_112 => ?_)
                  · refine G_aload_0 (nx := 123) ⟨dX12_isTold_122, rfl⟩ ?_
                    refine G_getr (nx := 126) (k := 75) (r := 78) ⟨dX12_isTold_123, rfl⟩ fX12_20 q_75 yr_12_4 (r_75_4 _) ?_
                    refine G_iload_5 (nx := 128) ⟨dX12_isTold_126, rfl⟩ ?_
                    refine G_iald (nx := 129) (k := 78) ⟨dX12_isTold_128, rfl⟩ q_78 (by first | assumption | decide | (unfold vp_in; decide)) ?_
                    rw [(hG.w (by decide) (by decide)).row hv]
                    have hpar : ¬ dp % 2 = 0 := fun e => c_112 (by rw [e, nI_0])
                    refine G_iload_2 (nx := 130) ⟨dX12_isTold_129, rfl⟩ ?_
                    refine G_iand (nx := 131) ⟨dX12_isTold_130, rfl⟩ ?_
                    refine G_istore_7 (nx := 133) ⟨dX12_isTold_131, rfl⟩ rfl rfl ?_
                    rw [nI_and]
                    refine lM_isToldW (x7 := UU) (tk := gr v &&& P) ih hs4 (hG.w (by decide) (by decide)) hsz1 hrow1 hP hgp hv c_66 hk1 hk2 hdp hpc (w2_at _ _ _ _) (by omega) (fun I2 hf1 h22 h60 hs2 => ?_) (fun I2 hf1 h22 h60 hs2 => ?_)
                    · have e : rd n gr row sz (f' + 1) P k dp at0 = rd n gr row sz f' (df P ((gr v &&& P) ||| 2 ^ v)) (k - (pc (gr v &&& P) : Int)) (dp + 1) (at0 + 1) := by
                        simp only [rd, if_neg (show ¬ sz ≤ at0 by omega), c_34, if_false, hlb, if_neg hno, hpar, if_false]
                        simp only [hf1, Bool.false_eq_true, if_false]
                      have := hk I2 (by rw [e]; exact h22) (by rw [e]; exact h60) ((sb.rf.w rfl).tr hs2)
                      rw [e, hf1] at this
                      exact this
                    · have hG2 : MG I2 n gr := (hG.w (by decide) (by decide)).sb hs2 rfl (fun _ => rfl)
                      refine G_iinc_6 (nx := 168) ⟨dX12_isTold_165, rfl⟩ ci_1 rfl ?_
                      refine G_goto (tgt := 94) ⟨dX12_isTold_168, rfl⟩ rfl ?_
                      refine G_iload_5 (nx := 96) ⟨dX12_isTold_94, rfl⟩ ?_
                      refine G_iconst (nx := 97) ⟨dX12_isTold_96, rfl⟩ ci_m1 ?_
                      refine G_icmpeq (tgt := 171) (nx := 100) ⟨dX12_isTold_97, rfl⟩ rfl (fun c_97 => ?_) (fun c_97 => ?_)
                      · exact absurd c_97 (nI_ne_m1 (by omega))
                      · refine G_iload_6 (nx := 102) ⟨dX12_isTold_100, rfl⟩ ?_
                        refine G_iconst (nx := 103) ⟨dX12_isTold_102, rfl⟩ ci_2 ?_
                        refine G_icmpge (tgt := 171) (nx := 106) ⟨dX12_isTold_103, rfl⟩ rfl (fun c_103 => ?_) (fun c_103 => ?_)
                        · exact absurd c_103 (by decide)
                        · refine G_iload_6 (nx := 108) ⟨dX12_isTold_106, rfl⟩ ?_
                          refine G_iload_4 (nx := 110) ⟨dX12_isTold_108, rfl⟩ ?_
                          refine G_iconst (nx := 111) ⟨dX12_isTold_110, rfl⟩ ci_2 ?_
                          refine G_irem (nx := 112) ⟨dX12_isTold_111, rfl⟩ (by decide) ?_
                          rw [show (2 : Int32) = nI 2 by decide, pk_rem (by omega) (by omega) (by omega)]
                          refine G_icmpne (tgt := 122) (nx := 115) ⟨dX12_isTold_112, rfl⟩ rfl (fun c_112 => ?_) (fun c_112 => ?_)
                          · exact absurd (show (0 : Int32) + 1 = nI (dp % 2) by rw [show dp % 2 = 1 by omega]; rfl) c_112
                          · refine G_iconst (nx := 116) ⟨dX12_isTold_115, rfl⟩ ci_1 ?_
                            refine G_iload_5 (nx := 118) ⟨dX12_isTold_116, rfl⟩ ?_
                            refine G_ishl (nx := 119) ⟨dX12_isTold_118, rfl⟩ ?_
                            rw [one_shl (by omega)]
                            refine G_goto (tgt := 131) ⟨dX12_isTold_119, rfl⟩ rfl ?_
                            
                            refine G_istore_7 (nx := 133) ⟨dX12_isTold_131, rfl⟩ rfl rfl ?_
                            refine lM_isToldW (x7 := UU) (tk := 2 ^ v) ih hs4 hG2 (by rw [hs2 104 s rfl]; exact hsz1) (fun j hj => by rw [hs2 105 _ rfl]; exact hrow1 j hj) hP hpp hv c_66 hk1 hk2 hdp hpc h22 h60 (fun I3 hf2 h22b h60b hs3 => ?_) (fun I3 hf2 h22b h60b hs3 => ?_)
                            · have e : rd n gr row sz (f' + 1) P k dp at0 = rd n gr row sz f' (df P ((2 ^ v) ||| 2 ^ v)) (k - (pc (2 ^ v) : Int)) (dp + 1) (rd n gr row sz f' (df P ((gr v &&& P) ||| 2 ^ v)) (k - (pc (gr v &&& P) : Int)) (dp + 1) (at0 + 1)).2 := by
                                simp only [rd, if_neg (show ¬ sz ≤ at0 by omega), c_34, if_false, hlb, if_neg hno, hpar, if_false]
                                simp only [hf1, if_true]
                              have fin := hk I3 (by rw [e]; exact h22b) (by rw [e]; exact h60b) (((sb.rf.w rfl).tr hs2).tr hs3)
                              rw [e, hf2] at fin
                              exact fin
                            · have e : rd n gr row sz (f' + 1) P k dp at0 = rd n gr row sz f' (df P ((2 ^ v) ||| 2 ^ v)) (k - (pc (2 ^ v) : Int)) (dp + 1) (rd n gr row sz f' (df P ((gr v &&& P) ||| 2 ^ v)) (k - (pc (gr v &&& P) : Int)) (dp + 1) (at0 + 1)).2 := by
                                simp only [rd, if_neg (show ¬ sz ≤ at0 by omega), c_34, if_false, hlb, if_neg hno, hpar, if_false]
                                simp only [hf1, if_true]
                              have fin := hk I3 (by rw [e]; exact h22b) (by rw [e]; exact h60b) (((sb.rf.w rfl).tr hs2).tr hs3)
                              rw [e, hf2] at fin
                              refine G_iinc_6 (nx := 168) ⟨dX12_isTold_165, rfl⟩ ci_1 rfl ?_
                              refine G_goto (tgt := 94) ⟨dX12_isTold_168, rfl⟩ rfl ?_
                              refine G_iload_5 (nx := 96) ⟨dX12_isTold_94, rfl⟩ ?_
                              refine G_iconst (nx := 97) ⟨dX12_isTold_96, rfl⟩ ci_m1 ?_
                              refine G_icmpeq (tgt := 171) (nx := 100) ⟨dX12_isTold_97, rfl⟩ rfl (fun c_97 => ?_) (fun c_97 => ?_)
                              · exact absurd c_97 (nI_ne_m1 (by omega))
                              · refine G_iload_6 (nx := 102) ⟨dX12_isTold_100, rfl⟩ ?_
                                refine G_iconst (nx := 103) ⟨dX12_isTold_102, rfl⟩ ci_2 ?_
                                refine G_icmpge (tgt := 171) (nx := 106) ⟨dX12_isTold_103, rfl⟩ rfl (fun c_103 => ?_) (fun c_103 => ?_)
                                · refine G_iconst (nx := 172) ⟨dX12_isTold_171, rfl⟩ ci_1 ?_
                                  refine G_zret ⟨dX12_isTold_172, rfl⟩ rfl (by first | assumption | decide | exact bi_01 _) ?_
                                  exact fin
                                · exact absurd (by decide) c_103
                  · refine G_iconst (nx := 116) ⟨dX12_isTold_115, rfl⟩ ci_1 ?_
                    refine G_iload_5 (nx := 118) ⟨dX12_isTold_116, rfl⟩ ?_
                    refine G_ishl (nx := 119) ⟨dX12_isTold_118, rfl⟩ ?_
                    rw [one_shl (by omega)]
                    have hpar : dp % 2 = 0 := by
                      have := nI_inj (a := 0) (b := dp % 2) (by omega) (by omega) (by rw [nI_0]; exact c_112)
                      omega
                    refine G_goto (tgt := 131) ⟨dX12_isTold_119, rfl⟩ rfl ?_
                    refine G_istore_7 (nx := 133) ⟨dX12_isTold_131, rfl⟩ rfl rfl ?_
                    refine lM_isToldW (x7 := UU) (tk := 2 ^ v) ih hs4 (hG.w (by decide) (by decide)) hsz1 hrow1 hP hpp hv c_66 hk1 hk2 hdp hpc (w2_at _ _ _ _) (by omega) (fun I2 hf1 h22 h60 hs2 => ?_) (fun I2 hf1 h22 h60 hs2 => ?_)
                    · have e : rd n gr row sz (f' + 1) P k dp at0 = rd n gr row sz f' (df P ((2 ^ v) ||| 2 ^ v)) (k - (pc (2 ^ v) : Int)) (dp + 1) (at0 + 1) := by
                        simp only [rd, if_neg (show ¬ sz ≤ at0 by omega), c_34, if_false, hlb, if_neg hno, hpar, if_true, if_false]
                        simp only [hf1, Bool.false_eq_true, if_false]
                      have := hk I2 (by rw [e]; exact h22) (by rw [e]; exact h60) ((sb.rf.w rfl).tr hs2)
                      rw [e, hf1] at this
                      exact this
                    · have hG2 : MG I2 n gr := (hG.w (by decide) (by decide)).sb hs2 rfl (fun _ => rfl)
                      refine G_iinc_6 (nx := 168) ⟨dX12_isTold_165, rfl⟩ ci_1 rfl ?_
                      refine G_goto (tgt := 94) ⟨dX12_isTold_168, rfl⟩ rfl ?_
                      refine G_iload_5 (nx := 96) ⟨dX12_isTold_94, rfl⟩ ?_
                      refine G_iconst (nx := 97) ⟨dX12_isTold_96, rfl⟩ ci_m1 ?_
                      refine G_icmpeq (tgt := 171) (nx := 100) ⟨dX12_isTold_97, rfl⟩ rfl (fun c_97 => ?_) (fun c_97 => ?_)
                      · exact absurd c_97 (nI_ne_m1 (by omega))
                      · refine G_iload_6 (nx := 102) ⟨dX12_isTold_100, rfl⟩ ?_
                        refine G_iconst (nx := 103) ⟨dX12_isTold_102, rfl⟩ ci_2 ?_
                        refine G_icmpge (tgt := 171) (nx := 106) ⟨dX12_isTold_103, rfl⟩ rfl (fun c_103 => ?_) (fun c_103 => ?_)
                        · exact absurd c_103 (by decide)
                        · refine G_iload_6 (nx := 108) ⟨dX12_isTold_106, rfl⟩ ?_
                          refine G_iload_4 (nx := 110) ⟨dX12_isTold_108, rfl⟩ ?_
                          refine G_iconst (nx := 111) ⟨dX12_isTold_110, rfl⟩ ci_2 ?_
                          refine G_irem (nx := 112) ⟨dX12_isTold_111, rfl⟩ (by decide) ?_
                          rw [show (2 : Int32) = nI 2 by decide, pk_rem (by omega) (by omega) (by omega)]
                          refine G_icmpne (tgt := 122) (nx := 115) ⟨dX12_isTold_112, rfl⟩ rfl (fun c_112 => ?_) (fun c_112 => ?_)
                          · refine G_aload_0 (nx := 123) ⟨dX12_isTold_122, rfl⟩ ?_
                            refine G_getr (nx := 126) (k := 75) (r := 78) ⟨dX12_isTold_123, rfl⟩ fX12_20 q_75 yr_12_4 (r_75_4 _) ?_
                            refine G_iload_5 (nx := 128) ⟨dX12_isTold_126, rfl⟩ ?_
                            refine G_iald (nx := 129) (k := 78) ⟨dX12_isTold_128, rfl⟩ q_78 (by first | assumption | decide | (unfold vp_in; decide)) ?_
                            rw [hG2.row hv]
                            refine G_iload_2 (nx := 130) ⟨dX12_isTold_129, rfl⟩ ?_
                            refine G_iand (nx := 131) ⟨dX12_isTold_130, rfl⟩ ?_
                            
                            rw [nI_and]
                            refine G_istore_7 (nx := 133) ⟨dX12_isTold_131, rfl⟩ rfl rfl ?_
                            refine lM_isToldW (x7 := UU) (tk := gr v &&& P) ih hs4 hG2 (by rw [hs2 104 s rfl]; exact hsz1) (fun j hj => by rw [hs2 105 _ rfl]; exact hrow1 j hj) hP hgp hv c_66 hk1 hk2 hdp hpc h22 h60 (fun I3 hf2 h22b h60b hs3 => ?_) (fun I3 hf2 h22b h60b hs3 => ?_)
                            · have e : rd n gr row sz (f' + 1) P k dp at0 = rd n gr row sz f' (df P ((gr v &&& P) ||| 2 ^ v)) (k - (pc (gr v &&& P) : Int)) (dp + 1) (rd n gr row sz f' (df P ((2 ^ v) ||| 2 ^ v)) (k - (pc (2 ^ v) : Int)) (dp + 1) (at0 + 1)).2 := by
                                simp only [rd, if_neg (show ¬ sz ≤ at0 by omega), c_34, if_false, hlb, if_neg hno, hpar, if_true, if_false]
                                simp only [hf1, if_true]
                              have fin := hk I3 (by rw [e]; exact h22b) (by rw [e]; exact h60b) (((sb.rf.w rfl).tr hs2).tr hs3)
                              rw [e, hf2] at fin
                              exact fin
                            · have e : rd n gr row sz (f' + 1) P k dp at0 = rd n gr row sz f' (df P ((gr v &&& P) ||| 2 ^ v)) (k - (pc (gr v &&& P) : Int)) (dp + 1) (rd n gr row sz f' (df P ((2 ^ v) ||| 2 ^ v)) (k - (pc (2 ^ v) : Int)) (dp + 1) (at0 + 1)).2 := by
                                simp only [rd, if_neg (show ¬ sz ≤ at0 by omega), c_34, if_false, hlb, if_neg hno, hpar, if_true, if_false]
                                simp only [hf1, if_true]
                              have fin := hk I3 (by rw [e]; exact h22b) (by rw [e]; exact h60b) (((sb.rf.w rfl).tr hs2).tr hs3)
                              rw [e, hf2] at fin
                              refine G_iinc_6 (nx := 168) ⟨dX12_isTold_165, rfl⟩ ci_1 rfl ?_
                              refine G_goto (tgt := 94) ⟨dX12_isTold_168, rfl⟩ rfl ?_
                              refine G_iload_5 (nx := 96) ⟨dX12_isTold_94, rfl⟩ ?_
                              refine G_iconst (nx := 97) ⟨dX12_isTold_96, rfl⟩ ci_m1 ?_
                              refine G_icmpeq (tgt := 171) (nx := 100) ⟨dX12_isTold_97, rfl⟩ rfl (fun c_97 => ?_) (fun c_97 => ?_)
                              · exact absurd c_97 (nI_ne_m1 (by omega))
                              · refine G_iload_6 (nx := 102) ⟨dX12_isTold_100, rfl⟩ ?_
                                refine G_iconst (nx := 103) ⟨dX12_isTold_102, rfl⟩ ci_2 ?_
                                refine G_icmpge (tgt := 171) (nx := 106) ⟨dX12_isTold_103, rfl⟩ rfl (fun c_103 => ?_) (fun c_103 => ?_)
                                · refine G_iconst (nx := 172) ⟨dX12_isTold_171, rfl⟩ ci_1 ?_
                                  refine G_zret ⟨dX12_isTold_172, rfl⟩ rfl (by first | assumption | decide | exact bi_01 _) ?_
                                  exact fin
                                · exact absurd (by decide) c_103
                          · exact absurd c_112 (fun e => by have := nI_inj (a := 1) (b := dp % 2) (by omega) (by omega) e; omega)
            · refine G_iconst (nx := 80) ⟨dX12_isTold_79, rfl⟩ ci_0 ?_
              refine G_zret ⟨dX12_isTold_80, rfl⟩ rfl (by first | assumption | decide | exact bi_01 _) ?_
              have hz : gr v &&& P = 0 := pc_0 (Nat.lt_of_le_of_lt Nat.and_le_right (by omega)) ((nI_0iff (by have := pc_le (gr v &&& P); omega)).mp c_76)
              exact fls I (by simp only [rd, if_neg (show ¬ sz ≤ at0 by omega), c_34, if_false, hlb, hz, or_true, if_true]) hat sb.rf
      · refine G_aload_0 (nx := 38) ⟨dX12_isTold_37, rfl⟩ ?_
        refine G_iload_2 (nx := 39) ⟨dX12_isTold_38, rfl⟩ ?_
        refine G_cv1 (nx := 42) ⟨dX12_isTold_39, rfl⟩ kX12_203 rfl q_75 rfl (Nat.le_of_ble_eq_true rfl) (Nat.le_of_ble_eq_true rfl) (cM_leastHalves (d := d + f') hP hG (fun r I1 hnu hs1 => ?_))
        refine G_iconst (nx := 43) ⟨dX12_isTold_42, rfl⟩ ci_2 ?_
        refine G_iload_3 (nx := 44) ⟨dX12_isTold_43, rfl⟩ ?_
        refine G_imul (nx := 45) ⟨dX12_isTold_44, rfl⟩ ?_
        rw [show (2 : Int32) = iI 2 by decide, show iI 2 * iI k = iI (2 * k) from by unfold iI; rw [Int32.ofInt_mul], hnu.tau (by omega)]
        refine G_icmpgt (tgt := 81) (nx := 48) ⟨dX12_isTold_45, rfl⟩ rfl (fun c_45 => ?_) (fun c_45 => ?_)
        · refine G_aload_0 (nx := 82) ⟨dX12_isTold_81, rfl⟩ ?_
          refine G_dup (nx := 83) ⟨dX12_isTold_82, rfl⟩ rfl ?_
          refine G_geti (nx := 86) (k := 75) ⟨dX12_isTold_83, rfl⟩ fX12_280 q_75 yi_12_22 ?_
          rw [hs1 75 22 rfl, hat]
          refine G_iconst (nx := 87) ⟨dX12_isTold_86, rfl⟩ ci_1 ?_
          refine G_iadd (nx := 88) ⟨dX12_isTold_87, rfl⟩ ?_
          rw [nI_1]
          refine G_puti (nx := 91) (k := 75) ⟨dX12_isTold_88, rfl⟩ pX12_280 q_75 yt_12_22 ?_
          refine G_iconst (nx := 92) ⟨dX12_isTold_91, rfl⟩ ci_0 ?_
          refine G_istore_6 (nx := 94) ⟨dX12_isTold_92, rfl⟩ rfl rfl ?_
          refine G_iload_5 (nx := 96) ⟨dX12_isTold_94, rfl⟩ ?_
          refine G_iconst (nx := 97) ⟨dX12_isTold_96, rfl⟩ ci_m1 ?_
          refine G_icmpeq (tgt := 171) (nx := 100) ⟨dX12_isTold_97, rfl⟩ rfl (fun c_97 => ?_) (fun c_97 => ?_)
          · refine G_iconst (nx := 172) ⟨dX12_isTold_171, rfl⟩ ci_1 ?_
            refine G_zret ⟨dX12_isTold_172, rfl⟩ rfl (by first | assumption | decide | exact bi_01 _) ?_
            rw [i32_lt, nI_toInt (by omega), iI_toInt (by omega) (by omega)] at c_45
            have e : rd n gr row sz (f' + 1) P k dp at0 = (true, at0 + 1) := by simp only [rd, if_neg (show ¬ sz ≤ at0 by omega), c_34, if_true, if_neg (show ¬ (tau gr P P : Int) ≤ 2 * k by omega)]
            have := hk (w2 I1 75 22 (nI (at0 + 1))) (by rw [e, w2_at]) (by rw [e]; show at0 + 1 ≤ 60; omega) ((hs1.mono (fun _ _ h => or_f h)).w rfl)
            rw [e] at this
            exact this
          · exact absurd c_34 c_97
        · refine G_goto (tgt := 79) ⟨dX12_isTold_48, rfl⟩ rfl ?_
          refine G_iconst (nx := 80) ⟨dX12_isTold_79, rfl⟩ ci_0 ?_
          refine G_zret ⟨dX12_isTold_80, rfl⟩ rfl (by first | assumption | decide | exact bi_01 _) ?_
          rw [i32_lt, nI_toInt (by omega), iI_toInt (by omega) (by omega)] at c_45
          exact fls I1 (by simp only [rd, if_neg (show ¬ sz ≤ at0 by omega), c_34, if_true, if_pos (show (tau gr P P : Int) ≤ 2 * k by omega)]) (by rw [hs1 75 22 rfl]; exact hat) (hs1.mono (fun _ _ h => or_f h))
    · refine G_iconst (nx := 14) ⟨dX12_isTold_13, rfl⟩ ci_0 ?_
      refine G_zret ⟨dX12_isTold_14, rfl⟩ rfl (by first | assumption | decide | exact bi_01 _) ?_
      rw [nI_lt_iff (by omega) (by omega)] at c_10
      exact fls I (by simp only [rd, if_pos (show sz ≤ at0 by omega)]) hat sb.rf

end M31
