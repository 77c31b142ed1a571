
def RdC (l : Launch) (D n : Nat) (gr : Nat → Nat) (kr sz : Nat) (row : Nat → Int32) (J : AJ) (g : Bool) (f : Nat) : Prop := ∀ (K : AK) (I : AI) (P : Nat) (k : Int) (dp at0 : Nat), RG I 4 n gr → (∀ j, j < 60 → I kr j = row j) → P < 2 ^ n → -12 * (dp : Int) ≤ k → k ≤ 12 → dp + pc P ≤ 12 → pc P < f → I 35 13 = nI at0 → at0 ≤ 60 →
  (∀ (I' : AI), I' 35 13 = nI (rd n gr row sz f P k dp at0).2 → (rd n gr row sz f P k dp at0).2 ≤ 60 → sb fSr I I' → K (.int (bi (rd n gr row sz f P k dp at0).1)) I' J (rX g)) → G l D mX6_readsRight K 0 [.ref 35, .ref 4, .ref kr, .int (nI sz), .int (nI P), .int (iI k), .int (nI dp), UU, UU, UU, UU] [] I J (rX g)
section X82
variable {l : Launch} {d : Nat} {K : AK} {I : AI} {J : AJ} {g : Bool} {n : Nat} {gr : Nat → Nat}

theorem cY_run {k0 : Nat} {wt : Int32} (hX : XG I 1 4 n gr) (hW : WG n gr) (hk0 : k0 ≤ 12) (hk : ∀ (I' : AI), SY I' (sa n gr k0).1 (sa n gr k0).1 wt → FN I' (sa n gr k0).2 → sb fSr I I' → K .null I' J (rX g)) : G l (d + 18) mX6_run K 0 [.ref 35, .ref 1, .int (nI k0), .int wt] [] I J (rX g) := by
  have hn := hX.2.1
  have h1p := Nat.two_pow_pos n
  have hpa := pc_le (2 ^ n - 1)
  refine G_aload_0 (nx := 1) ⟨dX6_run_0, rfl⟩ ?_
  refine G_iconst (nx := 2) ⟨dX6_run_1, rfl⟩ ci_0 ?_
  refine G_puti (nx := 5) (k := 35) ⟨dX6_run_2, rfl⟩ pX6_22 q_35 yt_6_2 ?_
  refine G_aload_0 (nx := 6) ⟨dX6_run_5, rfl⟩ ?_
  refine G_iconst (nx := 7) ⟨dX6_run_6, rfl⟩ ci_0 ?_
  refine G_puti (nx := 10) (k := 35) ⟨dX6_run_7, rfl⟩ pX6_26 q_35 yt_6_3 ?_
  refine G_aload_0 (nx := 11) ⟨dX6_run_10, rfl⟩ ?_
  refine G_iconst (nx := 12) ⟨dX6_run_11, rfl⟩ ci_0 ?_
  refine G_puti (nx := 15) (k := 35) ⟨dX6_run_12, rfl⟩ pX6_29 q_35 yt_6_4 ?_
  refine G_aload_0 (nx := 16) ⟨dX6_run_15, rfl⟩ ?_
  refine G_iconst (nx := 17) ⟨dX6_run_16, rfl⟩ ci_0 ?_
  refine G_puti (nx := 20) (k := 35) ⟨dX6_run_17, rfl⟩ pX6_32 q_35 yt_6_5 ?_
  refine G_aload_0 (nx := 21) ⟨dX6_run_20, rfl⟩ ?_
  refine G_iconst (nx := 22) ⟨dX6_run_21, rfl⟩ ci_0 ?_
  refine G_putz (nx := 25) (k := 35) ⟨dX6_run_22, rfl⟩ pX6_35 q_35 yt_6_6 (by first | assumption | decide | (unfold vp_in; decide)) ?_
  refine G_aload_0 (nx := 26) ⟨dX6_run_25, rfl⟩ ?_
  refine G_iload_3 (nx := 27) ⟨dX6_run_26, rfl⟩ ?_
  refine G_puti (nx := 30) (k := 35) ⟨dX6_run_27, rfl⟩ pX6_39 q_35 yt_6_7 ?_
  refine G_aload_0 (nx := 31) ⟨dX6_run_30, rfl⟩ ?_
  refine G_aload_1 (nx := 32) ⟨dX6_run_31, rfl⟩ ?_
  refine G_getr (nx := 35) (k := 1) (r := 4) ⟨dX6_run_32, rfl⟩ fX6_60 q_1 yr_4_2 (r_1_2 _) ?_
  refine G_aload_1 (nx := 36) ⟨dX6_run_35, rfl⟩ ?_
  have hs0 : sb fSr I (w2 (w2 (w2 (w2 (w2 (w2 I 35 2 0) 35 3 0) 35 4 0) 35 5 0) 35 6 0) 35 7 wt) := (((((sb.rf.w rfl).w rfl).w rfl).w rfl).w rfl).w rfl
  have hX1 : XG (w2 (w2 (w2 (w2 (w2 (w2 I 35 2 0) 35 3 0) 35 4 0) 35 5 0) 35 6 0) 35 7 wt) 1 4 n gr := hX.sb hs0 rfl (fun _ => rfl)
  refine G_cv0 (nx := 39) ⟨dX6_run_36, rfl⟩ kX6_65 rfl q_1 rfl (Nat.le_of_ble_eq_true rfl) (Nat.le_of_ble_eq_true rfl) (cN_all nt1 hX1 ?_)
  refine G_iconst (nx := 40) ⟨dX6_run_39, rfl⟩ ci_0 ?_
  refine G_iload_2 (nx := 41) ⟨dX6_run_40, rfl⟩ ?_
  refine G_iconst (nx := 42) ⟨dX6_run_41, rfl⟩ ci_0 ?_
  rw [← nI_0, ← iI_nat k0]
  refine G_cvv5 (nx := 45) ⟨dX6_run_42, rfl⟩ kX6_69 rfl q_35 rfl (Nat.le_of_ble_eq_true rfl) (Nat.le_of_ble_eq_true rfl) (cY_begins (d := d) hW 13 _ _ (2 ^ n - 1) 0 (k0 : Int) 0 [] wt hX1.2 (by omega) h1p (by omega) (by omega) (by omega) (by omega) (by decide) ⟨by rw [w2_ne _ _ _ _ (by decide), w2_ne _ _ _ _ (by decide), w2_ne _ _ _ _ (by decide), w2_ne _ _ _ _ (by decide), w2_ne _ _ _ _ (by decide), w2_at]; rfl, by rw [w2_ne _ _ _ _ (by decide), w2_ne _ _ _ _ (by decide), w2_ne _ _ _ _ (by decide), w2_ne _ _ _ _ (by decide), w2_at]; rfl, by rw [w2_ne _ _ _ _ (by decide), w2_ne _ _ _ _ (by decide), w2_ne _ _ _ _ (by decide), w2_at]; rfl, by rw [w2_at], fun i nd _ h => (by simp at h), fun i nd h => (by simp at h)⟩ (by decide) (by rw [w2_ne _ _ _ _ (by decide), w2_at]; rfl) (fun I1 hS1 _ hF1 hs1 => ?_))
  refine G_vret ⟨dX6_run_45, rfl⟩ rfl ?_
  exact hk I1 hS1 hF1 (hs0.tr hs1)

theorem cY_reads {kr sz : Nat} {row : Nat → Int32} (hW : WG n gr) (hA : isA kr 60) (hkr : 41 < kr) (hsz : sz ≤ 60) : ∀ f, RdC l (d + f + 4) n gr kr sz row J g f := by
  intro f
  induction f with
  | zero => intro K I P k dp at0 _ _ _ _ _ _ h; exact absurd h (by omega)
  | succ f ih =>
  intro K I P k dp at0 hR hrow hP hk1 hk2 hdp hpc h13 hat hk
  have hn := hR.1
  have hp12 := pow12 hn
  have hpl := pc_le P
  have tml : tau gr P P ≤ 12 := Nat.le_trans tau_le_pc hpl
  have eT2 := iI_toInt (z := 2 * k) (by omega) (by omega)
  have e2k : (2 : Int32) * iI k = iI (2 * k) := by
    rw [show (2 : Int32) = iI 2 by decide]
    unfold iI
    rw [Int32.ofInt_mul]
  have eca := cl_nI (p := at0) (by omega)
  have ek1 : iI k - 1 = iI (k - 1) := iI_sub k 1
  refine G_d (d' := d + f + 4 + 1) (by omega) ?_
  refine G_aload_0 (nx := 1) ⟨dX6_readsRight_0, rfl⟩ ?_
  refine G_geti (nx := 4) (k := 35) ⟨dX6_readsRight_1, rfl⟩ fX6_57 q_35 yi_6_13 ?_
  rw [h13]
  refine G_iload_3 (nx := 5) ⟨dX6_readsRight_4, rfl⟩ ?_
  refine G_icmpge (tgt := 15) (nx := 8) ⟨dX6_readsRight_5, rfl⟩ rfl (fun c_5 => ?_) (fun c_5 => ?_)
  · refine G_iconst (nx := 16) ⟨dX6_readsRight_15, rfl⟩ ci_0 ?_
    refine G_zret ⟨dX6_readsRight_16, rfl⟩ rfl (by first | assumption | decide | exact bi_01 _) ?_
    rw [nI_le_iff (by omega) (by omega)] at c_5
    have erd : rd n gr row sz (f + 1) P k dp at0 = (false, at0) := by rw [rd, if_pos (by omega)]
    have fin := hk I (by rw [erd]; exact h13) (by rw [erd]; show _ ≤ 60; omega) sb.rf
    rw [erd] at fin
    exact fin
  · refine G_iload_6 (nx := 10) ⟨dX6_readsRight_8, rfl⟩ ?_
    refine G_bipush (nx := 12) ⟨dX6_readsRight_10, rfl⟩ cb_12 ?_
    rw [show (12 : Int32) = nI 12 by decide]
    refine G_icmple (tgt := 17) (nx := 15) ⟨dX6_readsRight_12, rfl⟩ rfl (fun c_12 => ?_) (fun c_12 => ?_)
    · rw [nI_le_iff (by omega) (by omega)] at c_5
      have hlt : at0 < sz := by omega
      have hi60 := in60 (show at0 < 60 by omega)
      refine G_aload_2 (nx := 18) ⟨dX6_readsRight_17, rfl⟩ ?_
      refine G_aload_0 (nx := 19) ⟨dX6_readsRight_18, rfl⟩ ?_
      refine G_geti (nx := 22) (k := 35) ⟨dX6_readsRight_19, rfl⟩ fX6_57 q_35 yi_6_13 ?_
      rw [h13]
      refine G_iald (nx := 23) (k := kr) ⟨dX6_readsRight_22, rfl⟩ hA (by first | assumption | decide | (unfold vp_in; decide)) ?_
      rw [eca, hrow at0 (by omega)]
      refine G_istore_7 (nx := 25) ⟨dX6_readsRight_23, rfl⟩ rfl rfl ?_
      refine G_iload_7 (nx := 27) ⟨dX6_readsRight_25, rfl⟩ ?_
      refine G_iconst (nx := 28) ⟨dX6_readsRight_27, rfl⟩ ci_m1 ?_
      refine G_icmpne (tgt := 62) (nx := 31) ⟨dX6_readsRight_28, rfl⟩ rfl (fun c_28 => ?_) (fun c_28 => ?_)
      · refine G_iload_7 (nx := 64) ⟨dX6_readsRight_62, rfl⟩ ?_
        refine G_iconst (nx := 65) ⟨dX6_readsRight_64, rfl⟩ ci_0 ?_
        refine G_bipush (nx := 67) ⟨dX6_readsRight_65, rfl⟩ cb_11 ?_
        refine G_cs3 (nx := 70) ⟨dX6_readsRight_67, rfl⟩ kX6_100 rfl rfl (Nat.le_of_ble_eq_true rfl) (Nat.le_of_ble_eq_true rfl) (cX_within ?_)
        
        refine G_ifeq (tgt := 83) (nx := 73) ⟨dX6_readsRight_70, rfl⟩ rfl (fun c_70 => ?_) (fun c_70 => ?_)
        · refine G_iconst (nx := 84) ⟨dX6_readsRight_83, rfl⟩ ci_0 ?_
          refine G_zret ⟨dX6_readsRight_84, rfl⟩ rfl (by first | assumption | decide | exact bi_01 _) ?_
          rw [bi_0] at c_70
          have erd : rd n gr row sz (f + 1) P k dp at0 = (false, at0) := by
            rw [rd, if_neg (by omega), if_neg c_28, lb_none (fun q hq => ?_)]
            refine decide_eq_false (fun e0 => ?_)
            rw [e0, show (11 : Int32) = nI 11 by decide, show (0 : Int32) = nI 0 by decide, inR_nI (by omega) (by omega) (by omega), decide_eq_false_iff_not] at c_70
            omega
          have fin := hk I (by rw [erd]; exact h13) (by rw [erd]; show _ ≤ 60; omega) sb.rf
          rw [erd] at fin
          exact fin
        · rw [bi_n0] at c_70
          obtain ⟨v, hv0, hv11, ev⟩ := nI_ex (a := 0) (b := 11) (by omega) c_70 (by omega)
          refine G_iload_4 (nx := 75) ⟨dX6_readsRight_73, rfl⟩ ?_
          refine G_iload_7 (nx := 77) ⟨dX6_readsRight_75, rfl⟩ ?_
          refine G_ishr (nx := 78) ⟨dX6_readsRight_77, rfl⟩ ?_
          refine G_iconst (nx := 79) ⟨dX6_readsRight_78, rfl⟩ ci_1 ?_
          refine G_iand (nx := 80) ⟨dX6_readsRight_79, rfl⟩ ?_
          rw [ev, bit_nI (by omega) (by omega)]
          refine G_ifne (tgt := 85) (nx := 83) ⟨dX6_readsRight_80, rfl⟩ rfl (fun c_80 => ?_) (fun c_80 => ?_)
          · rw [bi_n0] at c_80
            have hvn : v < n := tb_ltn hP c_80
            have hiv := in12 hvn hn
            have hlb : lb (fun u => decide (row at0 = nI u)) n = some v := lb_some hvn (by rw [ev]; exact decide_eq_true rfl) (fun q hq => by rw [ev]; exact decide_eq_false (fun e0 => by rw [nI_eq (by omega) (by omega)] at e0; omega))
            have hna : gr v &&& P ≤ P := Nat.and_le_right
            have hnl := pc_le (gr v &&& P)
            refine G_aload_1 (nx := 86) ⟨dX6_readsRight_85, rfl⟩ ?_
            refine G_iload_7 (nx := 88) ⟨dX6_readsRight_86, rfl⟩ ?_
            refine G_iald (nx := 89) (k := 4) ⟨dX6_readsRight_88, rfl⟩ q_4 (by first | assumption | decide | (unfold vp_in; decide)) ?_
            rw [hR.row hvn]
            refine G_iload_4 (nx := 91) ⟨dX6_readsRight_89, rfl⟩ ?_
            refine G_iand (nx := 92) ⟨dX6_readsRight_91, rfl⟩ ?_
            rw [nI_and]
            refine G_istore_8 (nx := 94) ⟨dX6_readsRight_92, rfl⟩ rfl rfl ?_
            refine G_iload_8 (nx := 96) ⟨dX6_readsRight_94, rfl⟩ ?_
            refine G_ifne (tgt := 101) (nx := 99) ⟨dX6_readsRight_96, rfl⟩ rfl (fun c_96 => ?_) (fun c_96 => ?_)
            · rw [nI_0iff (by omega)] at c_96
              have hpcx := pc_del (show v < 12 by omega) c_80
              have hpw : 2 ^ v < 2 ^ n := Nat.pow_lt_pow_right (by omega) hvn
              have hr1 : df P (2 ^ v) < 2 ^ n := Nat.lt_of_le_of_lt (df_le _ _) hP
              have hr2 : df (df P (2 ^ v)) (gr v &&& P) < 2 ^ n := Nat.lt_of_le_of_lt (df_le _ _) hr1
              have hc2 : pc (df (df P (2 ^ v)) (gr v &&& P)) ≤ pc (df P (2 ^ v)) := by
                rw [pc_cn, pc_cn]
                exact cn_mono (fun k _ h => by rw [tb_df, Bool.and_eq_true] at h; exact h.1)
              have hpw1 : (pc (2 ^ v) : Int) = 1 := by rw [pc_pow1 (by omega)]; rfl
              have hor : df P ((gr v &&& P) ||| 2 ^ v) = df (df P (2 ^ v)) (gr v &&& P) := by rw [Nat.or_comm, df_or3]
              have hR0 : RG (w2 I 35 13 (nI (at0 + 1))) 4 n gr := hR.cg (fun p _ => by rw [w2_row _ _ _ _ (show ¬ 4 = 35 by decide)])
              have hrow0 : ∀ j, j < 60 → w2 I 35 13 (nI (at0 + 1)) kr j = row j := fun j hj => by rw [w2_row _ _ _ _ (show ¬ kr = 35 by omega)]; exact hrow j hj
              refine G_aload_0 (nx := 102) ⟨dX6_readsRight_101, rfl⟩ ?_
              refine G_dup (nx := 103) ⟨dX6_readsRight_102, rfl⟩ rfl ?_
              refine G_geti (nx := 106) (k := 35) ⟨dX6_readsRight_103, rfl⟩ fX6_57 q_35 yi_6_13 ?_
              rw [h13]
              refine G_iconst (nx := 107) ⟨dX6_readsRight_106, rfl⟩ ci_1 ?_
              refine G_iadd (nx := 108) ⟨dX6_readsRight_107, rfl⟩ ?_
              rw [nI_1]
              refine G_puti (nx := 111) (k := 35) ⟨dX6_readsRight_108, rfl⟩ pX6_57 q_35 yt_6_13 ?_
              refine G_iload_4 (nx := 113) ⟨dX6_readsRight_111, rfl⟩ ?_
              refine G_iconst (nx := 114) ⟨dX6_readsRight_113, rfl⟩ ci_1 ?_
              refine G_iload_7 (nx := 116) ⟨dX6_readsRight_114, rfl⟩ ?_
              refine G_ishl (nx := 117) ⟨dX6_readsRight_116, rfl⟩ ?_
              refine G_iconst (nx := 118) ⟨dX6_readsRight_117, rfl⟩ ci_m1 ?_
              refine G_ixor (nx := 119) ⟨dX6_readsRight_118, rfl⟩ ?_
              refine G_iand (nx := 120) ⟨dX6_readsRight_119, rfl⟩ ?_
              rw [one_shl (show v < 31 by omega), nI_df _ (by omega)]
              refine G_istore_9 (nx := 122) ⟨dX6_readsRight_120, rfl⟩ rfl rfl ?_
              refine G_iload_5 (nx := 124) ⟨dX6_readsRight_122, rfl⟩ ?_
              refine G_iload_8 (nx := 126) ⟨dX6_readsRight_124, rfl⟩ ?_
              refine G_cs1 (nx := 129) ⟨dX6_readsRight_126, rfl⟩ kX6_90 rfl rfl (Nat.le_of_ble_eq_true rfl) (Nat.le_of_ble_eq_true rfl) (cJ_bc (by omega) ?_)
              refine G_isub (nx := 130) ⟨dX6_readsRight_129, rfl⟩ ?_
              rw [iI_subN]
              refine G_istore_10 (nx := 132) ⟨dX6_readsRight_130, rfl⟩ rfl rfl ?_
              refine G_iload_6 (nx := 134) ⟨dX6_readsRight_132, rfl⟩ ?_
              refine G_iconst (nx := 135) ⟨dX6_readsRight_134, rfl⟩ ci_2 ?_
              refine G_irem (nx := 136) ⟨dX6_readsRight_135, rfl⟩ (by decide) ?_
              rw [rem2 (by omega)]
              refine G_ifne (tgt := 188) (nx := 139) ⟨dX6_readsRight_136, rfl⟩ rfl (fun c_136 => ?_) (fun c_136 => ?_)
              · rw [nI_0iff (by omega)] at c_136
                have hev : (dp % 2 = 0) = False := eq_false c_136
                have erd : rd n gr row sz (f + 1) P k dp at0 = if (rd n gr row sz f (df (df P (2 ^ v)) (gr v &&& P)) (k - (pc (gr v &&& P) : Int)) (dp + 1) (at0 + 1)).1 = true then rd n gr row sz f (df P (2 ^ v)) (k - 1) (dp + 1) (rd n gr row sz f (df (df P (2 ^ v)) (gr v &&& P)) (k - (pc (gr v &&& P) : Int)) (dp + 1) (at0 + 1)).2 else rd n gr row sz f (df (df P (2 ^ v)) (gr v &&& P)) (k - (pc (gr v &&& P) : Int)) (dp + 1) (at0 + 1) := by
                  rw [rd, if_neg (by omega), if_neg c_28, hlb]
                  simp only
                  rw [if_neg (by rintro (h | h) <;> first | (rw [c_80] at h; cases h) | exact c_96 h)]
                  simp only [hev, hpw1, hor, Nat.or_self, reduceIte]
                  try rfl
                rw [erd] at hk
                refine G_aload_0 (nx := 189) ⟨dX6_readsRight_188, rfl⟩ ?_
                refine G_aload_1 (nx := 190) ⟨dX6_readsRight_189, rfl⟩ ?_
                refine G_aload_2 (nx := 191) ⟨dX6_readsRight_190, rfl⟩ ?_
                refine G_iload_3 (nx := 192) ⟨dX6_readsRight_191, rfl⟩ ?_
                refine G_iload_9 (nx := 194) ⟨dX6_readsRight_192, rfl⟩ ?_
                refine G_iload_8 (nx := 196) ⟨dX6_readsRight_194, rfl⟩ ?_
                refine G_iconst (nx := 197) ⟨dX6_readsRight_196, rfl⟩ ci_m1 ?_
                refine G_ixor (nx := 198) ⟨dX6_readsRight_197, rfl⟩ ?_
                refine G_iand (nx := 199) ⟨dX6_readsRight_198, rfl⟩ ?_
                refine G_iload_10 (nx := 201) ⟨dX6_readsRight_199, rfl⟩ ?_
                refine G_iload_6 (nx := 203) ⟨dX6_readsRight_201, rfl⟩ ?_
                refine G_iconst (nx := 204) ⟨dX6_readsRight_203, rfl⟩ ci_1 ?_
                refine G_iadd (nx := 205) ⟨dX6_readsRight_204, rfl⟩ ?_
                rw [nI_df _ (by omega), nI_1]
                refine G_cv6 (nx := 208) ⟨dX6_readsRight_205, rfl⟩ kX6_96 rfl q_35 rfl (Nat.le_of_ble_eq_true rfl) (Nat.le_of_ble_eq_true rfl) (ih _ _ (df (df P (2 ^ v)) (gr v &&& P)) (k - (pc (gr v &&& P) : Int)) (dp + 1) (at0 + 1) hR0 hrow0 hr2 (by omega) (by omega) (by omega) (by omega) (w2_at _ _ _ _) (by omega) (fun I2 h132 hl2 hs2 => ?_))
                refine G_ifeq (tgt := 235) (nx := 211) ⟨dX6_readsRight_208, rfl⟩ rfl (fun c_208 => ?_) (fun c_208 => ?_)
                · refine G_iconst (nx := 236) ⟨dX6_readsRight_235, rfl⟩ ci_0 ?_
                  refine G_zret ⟨dX6_readsRight_236, rfl⟩ rfl (by first | assumption | decide | exact bi_01 _) ?_
                  rw [bi_0] at c_208
                  rw [if_neg (by rw [c_208]; decide)] at hk
                  have fin := hk I2 h132 hl2 ((sb.rf.w rfl).tr hs2)
                  rw [c_208] at fin
                  exact fin
                · rw [bi_n0] at c_208
                  rw [if_pos c_208] at hk
                  have hR2 : RG I2 4 n gr := hR0.sb hs2 (fun _ => fSr_f (by omega))
                  have hrow2 : ∀ j, j < 60 → I2 kr j = row j := fun j hj => by rw [hs2 kr j (fSr_f (by omega))]; exact hrow0 j hj
                  refine G_aload_0 (nx := 212) ⟨dX6_readsRight_211, rfl⟩ ?_
                  refine G_aload_1 (nx := 213) ⟨dX6_readsRight_212, rfl⟩ ?_
                  refine G_aload_2 (nx := 214) ⟨dX6_readsRight_213, rfl⟩ ?_
                  refine G_iload_3 (nx := 215) ⟨dX6_readsRight_214, rfl⟩ ?_
                  refine G_iload_9 (nx := 217) ⟨dX6_readsRight_215, rfl⟩ ?_
                  refine G_iload_5 (nx := 219) ⟨dX6_readsRight_217, rfl⟩ ?_
                  refine G_iconst (nx := 220) ⟨dX6_readsRight_219, rfl⟩ ci_1 ?_
                  refine G_isub (nx := 221) ⟨dX6_readsRight_220, rfl⟩ ?_
                  refine G_iload_6 (nx := 223) ⟨dX6_readsRight_221, rfl⟩ ?_
                  refine G_iconst (nx := 224) ⟨dX6_readsRight_223, rfl⟩ ci_1 ?_
                  refine G_iadd (nx := 225) ⟨dX6_readsRight_224, rfl⟩ ?_
                  rw [ek1, nI_1]
                  refine G_cv6 (nx := 228) ⟨dX6_readsRight_225, rfl⟩ kX6_96 rfl q_35 rfl (Nat.le_of_ble_eq_true rfl) (Nat.le_of_ble_eq_true rfl) (ih _ I2 (df P (2 ^ v)) (k - 1) (dp + 1) _ hR2 hrow2 hr1 (by omega) (by omega) (by omega) (by omega) h132 hl2 (fun I3 h133 hl3 hs3 => ?_))
                  refine G_ifeq (tgt := 235) (nx := 231) ⟨dX6_readsRight_228, rfl⟩ rfl (fun c_228 => ?_) (fun c_228 => ?_)
                  · refine G_iconst (nx := 236) ⟨dX6_readsRight_235, rfl⟩ ci_0 ?_
                    refine G_zret ⟨dX6_readsRight_236, rfl⟩ rfl (by first | assumption | decide | exact bi_01 _) ?_
                    rw [bi_0] at c_228
                    have fin := hk I3 h133 hl3 (((sb.rf.w rfl).tr hs2).tr hs3)
                    rw [c_228] at fin
                    exact fin
                  · refine G_iconst (nx := 232) ⟨dX6_readsRight_231, rfl⟩ ci_1 ?_
                    refine G_goto (tgt := 236) ⟨dX6_readsRight_232, rfl⟩ rfl ?_
                    refine G_zret ⟨dX6_readsRight_236, rfl⟩ rfl (by first | assumption | decide | exact bi_01 _) ?_
                    rw [bi_n0] at c_228
                    have fin := hk I3 h133 hl3 (((sb.rf.w rfl).tr hs2).tr hs3)
                    rw [c_228] at fin
                    exact fin
                
              · rw [nI_0iff (by omega)] at c_136
                have hev : (dp % 2 = 0) = True := eq_true c_136
                have erd : rd n gr row sz (f + 1) P k dp at0 = if (rd n gr row sz f (df P (2 ^ v)) (k - 1) (dp + 1) (at0 + 1)).1 = true then rd n gr row sz f (df (df P (2 ^ v)) (gr v &&& P)) (k - (pc (gr v &&& P) : Int)) (dp + 1) (rd n gr row sz f (df P (2 ^ v)) (k - 1) (dp + 1) (at0 + 1)).2 else rd n gr row sz f (df P (2 ^ v)) (k - 1) (dp + 1) (at0 + 1) := by
                  rw [rd, if_neg (by omega), if_neg c_28, hlb]
                  simp only
                  rw [if_neg (by rintro (h | h) <;> first | (rw [c_80] at h; cases h) | exact c_96 h)]
                  simp only [hev, hpw1, hor, Nat.or_self, reduceIte]
                  try rfl
                rw [erd] at hk
                refine G_aload_0 (nx := 140) ⟨dX6_readsRight_139, rfl⟩ ?_
                refine G_aload_1 (nx := 141) ⟨dX6_readsRight_140, rfl⟩ ?_
                refine G_aload_2 (nx := 142) ⟨dX6_readsRight_141, rfl⟩ ?_
                refine G_iload_3 (nx := 143) ⟨dX6_readsRight_142, rfl⟩ ?_
                refine G_iload_9 (nx := 145) ⟨dX6_readsRight_143, rfl⟩ ?_
                refine G_iload_5 (nx := 147) ⟨dX6_readsRight_145, rfl⟩ ?_
                refine G_iconst (nx := 148) ⟨dX6_readsRight_147, rfl⟩ ci_1 ?_
                refine G_isub (nx := 149) ⟨dX6_readsRight_148, rfl⟩ ?_
                refine G_iload_6 (nx := 151) ⟨dX6_readsRight_149, rfl⟩ ?_
                refine G_iconst (nx := 152) ⟨dX6_readsRight_151, rfl⟩ ci_1 ?_
                refine G_iadd (nx := 153) ⟨dX6_readsRight_152, rfl⟩ ?_
                rw [ek1, nI_1]
                refine G_cv6 (nx := 156) ⟨dX6_readsRight_153, rfl⟩ kX6_96 rfl q_35 rfl (Nat.le_of_ble_eq_true rfl) (Nat.le_of_ble_eq_true rfl) (ih _ _ (df P (2 ^ v)) (k - 1) (dp + 1) (at0 + 1) hR0 hrow0 hr1 (by omega) (by omega) (by omega) (by omega) (w2_at _ _ _ _) (by omega) (fun I2 h132 hl2 hs2 => ?_))
                refine G_ifeq (tgt := 186) (nx := 159) ⟨dX6_readsRight_156, rfl⟩ rfl (fun c_156 => ?_) (fun c_156 => ?_)
                · refine G_iconst (nx := 187) ⟨dX6_readsRight_186, rfl⟩ ci_0 ?_
                  refine G_zret ⟨dX6_readsRight_187, rfl⟩ rfl (by first | assumption | decide | exact bi_01 _) ?_
                  rw [bi_0] at c_156
                  rw [if_neg (by rw [c_156]; decide)] at hk
                  have fin := hk I2 h132 hl2 ((sb.rf.w rfl).tr hs2)
                  rw [c_156] at fin
                  exact fin
                · rw [bi_n0] at c_156
                  rw [if_pos c_156] at hk
                  have hR2 : RG I2 4 n gr := hR0.sb hs2 (fun _ => fSr_f (by omega))
                  have hrow2 : ∀ j, j < 60 → I2 kr j = row j := fun j hj => by rw [hs2 kr j (fSr_f (by omega))]; exact hrow0 j hj
                  refine G_aload_0 (nx := 160) ⟨dX6_readsRight_159, rfl⟩ ?_
                  refine G_aload_1 (nx := 161) ⟨dX6_readsRight_160, rfl⟩ ?_
                  refine G_aload_2 (nx := 162) ⟨dX6_readsRight_161, rfl⟩ ?_
                  refine G_iload_3 (nx := 163) ⟨dX6_readsRight_162, rfl⟩ ?_
                  refine G_iload_9 (nx := 165) ⟨dX6_readsRight_163, rfl⟩ ?_
                  refine G_iload_8 (nx := 167) ⟨dX6_readsRight_165, rfl⟩ ?_
                  refine G_iconst (nx := 168) ⟨dX6_readsRight_167, rfl⟩ ci_m1 ?_
                  refine G_ixor (nx := 169) ⟨dX6_readsRight_168, rfl⟩ ?_
                  refine G_iand (nx := 170) ⟨dX6_readsRight_169, rfl⟩ ?_
                  refine G_iload_10 (nx := 172) ⟨dX6_readsRight_170, rfl⟩ ?_
                  refine G_iload_6 (nx := 174) ⟨dX6_readsRight_172, rfl⟩ ?_
                  refine G_iconst (nx := 175) ⟨dX6_readsRight_174, rfl⟩ ci_1 ?_
                  refine G_iadd (nx := 176) ⟨dX6_readsRight_175, rfl⟩ ?_
                  rw [nI_df _ (by omega), nI_1]
                  refine G_cv6 (nx := 179) ⟨dX6_readsRight_176, rfl⟩ kX6_96 rfl q_35 rfl (Nat.le_of_ble_eq_true rfl) (Nat.le_of_ble_eq_true rfl) (ih _ I2 (df (df P (2 ^ v)) (gr v &&& P)) (k - (pc (gr v &&& P) : Int)) (dp + 1) _ hR2 hrow2 hr2 (by omega) (by omega) (by omega) (by omega) h132 hl2 (fun I3 h133 hl3 hs3 => ?_))
                  refine G_ifeq (tgt := 186) (nx := 182) ⟨dX6_readsRight_179, rfl⟩ rfl (fun c_179 => ?_) (fun c_179 => ?_)
                  · refine G_iconst (nx := 187) ⟨dX6_readsRight_186, rfl⟩ ci_0 ?_
                    refine G_zret ⟨dX6_readsRight_187, rfl⟩ rfl (by first | assumption | decide | exact bi_01 _) ?_
                    rw [bi_0] at c_179
                    have fin := hk I3 h133 hl3 (((sb.rf.w rfl).tr hs2).tr hs3)
                    rw [c_179] at fin
                    exact fin
                  · refine G_iconst (nx := 183) ⟨dX6_readsRight_182, rfl⟩ ci_1 ?_
                    refine G_goto (tgt := 187) ⟨dX6_readsRight_183, rfl⟩ rfl ?_
                    refine G_zret ⟨dX6_readsRight_187, rfl⟩ rfl (by first | assumption | decide | exact bi_01 _) ?_
                    rw [bi_n0] at c_179
                    have fin := hk I3 h133 hl3 (((sb.rf.w rfl).tr hs2).tr hs3)
                    rw [c_179] at fin
                    exact fin
                
            · refine G_iconst (nx := 100) ⟨dX6_readsRight_99, rfl⟩ ci_0 ?_
              refine G_zret ⟨dX6_readsRight_100, rfl⟩ rfl (by first | assumption | decide | exact bi_01 _) ?_
              rw [nI_0iff (by omega)] at c_96
              have erd : rd n gr row sz (f + 1) P k dp at0 = (false, at0) := by
                rw [rd, if_neg (by omega), if_neg c_28, hlb]
                simp only
                rw [if_pos (Or.inr c_96)]
              have fin := hk I (by rw [erd]; exact h13) (by rw [erd]; show _ ≤ 60; omega) sb.rf
              rw [erd] at fin
              exact fin
          · refine G_iconst (nx := 84) ⟨dX6_readsRight_83, rfl⟩ ci_0 ?_
            refine G_zret ⟨dX6_readsRight_84, rfl⟩ rfl (by first | assumption | decide | exact bi_01 _) ?_
            rw [bi_0] at c_80
            have erd : rd n gr row sz (f + 1) P k dp at0 = (false, at0) := by
              rw [rd, if_neg (by omega), if_neg c_28]
              rcases hlb : lb (fun v => decide (row at0 = nI v)) n with _ | u
              · rfl
              · obtain ⟨b1, b2, b3⟩ := (lb_spec _ n).2 u hlb
                have e0 := of_decide_eq_true b2
                rw [ev, nI_eq (by omega) (by omega)] at e0
                simp only
                rw [if_pos (Or.inl (by rw [← e0]; exact c_80))]
            have fin := hk I (by rw [erd]; exact h13) (by rw [erd]; show _ ≤ 60; omega) sb.rf
            rw [erd] at fin
            exact fin
      · refine G_aload_0 (nx := 32) ⟨dX6_readsRight_31, rfl⟩ ?_
        refine G_getr (nx := 35) (k := 35) (r := 37) ⟨dX6_readsRight_32, rfl⟩ fX6_12 q_35 yr_6_0 (r_35_0 _) ?_
        refine G_aload_1 (nx := 36) ⟨dX6_readsRight_35, rfl⟩ ?_
        refine G_iload_4 (nx := 38) ⟨dX6_readsRight_36, rfl⟩ ?_
        refine G_cv2 (nx := 41) ⟨dX6_readsRight_38, rfl⟩ kX6_73 rfl q_37 rfl (Nat.le_of_ble_eq_true rfl) (Nat.le_of_ble_eq_true rfl) (cH_least (d := d + f + 1) ht37 q_4 (by decide) hR hP (fun I1 hs1 => ?_))
        refine G_iconst (nx := 42) ⟨dX6_readsRight_41, rfl⟩ ci_2 ?_
        refine G_iload_5 (nx := 44) ⟨dX6_readsRight_42, rfl⟩ ?_
        refine G_imul (nx := 45) ⟨dX6_readsRight_44, rfl⟩ ?_
        rw [e2k]
        refine G_icmpgt (tgt := 50) (nx := 48) ⟨dX6_readsRight_45, rfl⟩ rfl (fun c_45 => ?_) (fun c_45 => ?_)
        · refine G_aload_0 (nx := 51) ⟨dX6_readsRight_50, rfl⟩ ?_
          refine G_dup (nx := 52) ⟨dX6_readsRight_51, rfl⟩ rfl ?_
          
          refine G_geti (nx := 55) (k := 35) ⟨dX6_readsRight_52, rfl⟩ fX6_57 q_35 yi_6_13 ?_
          rw [hs1 35 13 (fMp_f (by omega)), h13]
          refine G_iconst (nx := 56) ⟨dX6_readsRight_55, rfl⟩ ci_1 ?_
          refine G_iadd (nx := 57) ⟨dX6_readsRight_56, rfl⟩ ?_
          rw [nI_1]
          refine G_puti (nx := 60) (k := 35) ⟨dX6_readsRight_57, rfl⟩ pX6_57 q_35 yt_6_13 ?_
          refine G_iconst (nx := 61) ⟨dX6_readsRight_60, rfl⟩ ci_1 ?_
          refine G_zret ⟨dX6_readsRight_61, rfl⟩ rfl (by first | assumption | decide | exact bi_01 _) ?_
          rw [i32_lt, eT2, nI_toInt (by omega)] at c_45
          have erd : rd n gr row sz (f + 1) P k dp at0 = (true, at0 + 1) := by rw [rd, if_neg (by omega), if_pos c_28, if_neg (by omega)]
          have fin := hk _ (by rw [erd]; rw [w2_at]) (by rw [erd]; show _ ≤ 60; omega) ((sb_MS hs1).w rfl)
          rw [erd] at fin
          exact fin
        · refine G_iconst (nx := 49) ⟨dX6_readsRight_48, rfl⟩ ci_0 ?_
          refine G_zret ⟨dX6_readsRight_49, rfl⟩ rfl (by first | assumption | decide | exact bi_01 _) ?_
          rw [i32_lt, eT2, nI_toInt (by omega)] at c_45
          have erd : rd n gr row sz (f + 1) P k dp at0 = (false, at0) := by rw [rd, if_neg (by omega), if_pos c_28, if_pos (by omega)]
          have fin := hk I1 (by rw [erd]; rw [hs1 35 13 (fMp_f (by omega))]; exact h13) (by rw [erd]; show _ ≤ 60; omega) (sb_MS hs1)
          rw [erd] at fin
          exact fin
    · (rw [nI_le_iff (by omega) (by omega)] at c_12; omega)

theorem cY_first {k0 kr sz : Nat} {row : Nat → Int32} (hX : XG I 1 4 n gr) (hW : WG n gr) (hk0 : k0 ≤ 12) (hA : isA kr 60) (hkr : 41 < kr) (hsz : sz ≤ 60) (hrow : ∀ j, j < 60 → I kr j = row j) (hk : ∀ (I' : AI), sb fSr I I' → K (.int (if (rd n gr row sz 13 (2 ^ n - 1) k0 0 0).1 = true ∧ (rd n gr row sz 13 (2 ^ n - 1) k0 0 0).2 = sz then -1 else nI (rd n gr row sz 13 (2 ^ n - 1) k0 0 0).2)) I' J (rX g)) : G l (d + 18) mX6_firstWrong K 0 [.ref 35, .ref 1, .int (nI k0), .ref kr, .int (nI sz), UU] [] I J (rX g) := by
  have hn := hX.2.1
  have h1p := Nat.two_pow_pos n
  have hpa := pc_le (2 ^ n - 1)
  have hX1 : XG (w2 I 35 13 0) 1 4 n gr := hX.cg (by rw [w2_row _ _ _ _ (show ¬ 1 = 35 by decide)]) (fun p _ => by rw [w2_row _ _ _ _ (show ¬ 4 = 35 by decide)])
  refine G_aload_0 (nx := 1) ⟨dX6_firstWrong_0, rfl⟩ ?_
  refine G_iconst (nx := 2) ⟨dX6_firstWrong_1, rfl⟩ ci_0 ?_
  refine G_puti (nx := 5) (k := 35) ⟨dX6_firstWrong_2, rfl⟩ pX6_57 q_35 yt_6_13 ?_
  refine G_aload_0 (nx := 6) ⟨dX6_firstWrong_5, rfl⟩ ?_
  refine G_aload_1 (nx := 7) ⟨dX6_firstWrong_6, rfl⟩ ?_
  refine G_getr (nx := 10) (k := 1) (r := 4) ⟨dX6_firstWrong_7, rfl⟩ fX6_60 q_1 yr_4_2 (r_1_2 _) ?_
  refine G_aload_3 (nx := 11) ⟨dX6_firstWrong_10, rfl⟩ ?_
  refine G_iload_4 (nx := 13) ⟨dX6_firstWrong_11, rfl⟩ ?_
  refine G_aload_1 (nx := 14) ⟨dX6_firstWrong_13, rfl⟩ ?_
  refine G_cv0 (nx := 17) ⟨dX6_firstWrong_14, rfl⟩ kX6_65 rfl q_1 rfl (Nat.le_of_ble_eq_true rfl) (Nat.le_of_ble_eq_true rfl) (cN_all nt1 hX1 ?_)
  refine G_iload_2 (nx := 18) ⟨dX6_firstWrong_17, rfl⟩ ?_
  refine G_iconst (nx := 19) ⟨dX6_firstWrong_18, rfl⟩ ci_0 ?_
  rw [← nI_0, ← iI_nat k0]
  refine G_cv6 (nx := 22) ⟨dX6_firstWrong_19, rfl⟩ kX6_96 rfl q_35 rfl (Nat.le_of_ble_eq_true rfl) (Nat.le_of_ble_eq_true rfl) (cY_reads (d := d) (row := row) hW hA hkr hsz 13 _ _ (2 ^ n - 1) (k0 : Int) 0 0 hX1.2 (fun j hj => by rw [w2_row _ _ _ _ (show ¬ kr = 35 by omega)]; exact hrow j hj) (by omega) (by omega) (by omega) (by omega) (by omega) (by rw [w2_at]) (by omega) (fun I1 h131 hl1 hs1 => ?_))
  refine G_istore_5 (nx := 24) ⟨dX6_firstWrong_22, rfl⟩ rfl rfl ?_
  refine G_iload_5 (nx := 26) ⟨dX6_firstWrong_24, rfl⟩ ?_
  refine G_ifeq (tgt := 42) (nx := 29) ⟨dX6_firstWrong_26, rfl⟩ rfl (fun c_26 => ?_) (fun c_26 => ?_)
  · refine G_aload_0 (nx := 43) ⟨dX6_firstWrong_42, rfl⟩ ?_
    refine G_geti (nx := 46) (k := 35) ⟨dX6_firstWrong_43, rfl⟩ fX6_57 q_35 yi_6_13 ?_
    try rw [h131]
    refine G_iret ⟨dX6_firstWrong_46, rfl⟩ rfl ?_
    rw [bi_0] at c_26
    have fin := hk I1 ((sb.rf.w rfl).tr hs1)
    rw [if_neg (fun h => by rw [c_26] at h; cases h.1)] at fin
    exact fin
  · refine G_aload_0 (nx := 30) ⟨dX6_firstWrong_29, rfl⟩ ?_
    refine G_geti (nx := 33) (k := 35) ⟨dX6_firstWrong_30, rfl⟩ fX6_57 q_35 yi_6_13 ?_
    rw [h131]
    refine G_iload_4 (nx := 35) ⟨dX6_firstWrong_33, rfl⟩ ?_
    refine G_icmpne (tgt := 42) (nx := 38) ⟨dX6_firstWrong_35, rfl⟩ rfl (fun c_35 => ?_) (fun c_35 => ?_)
    · refine G_aload_0 (nx := 43) ⟨dX6_firstWrong_42, rfl⟩ ?_
      refine G_geti (nx := 46) (k := 35) ⟨dX6_firstWrong_43, rfl⟩ fX6_57 q_35 yi_6_13 ?_
      try rw [h131]
      refine G_iret ⟨dX6_firstWrong_46, rfl⟩ rfl ?_
      rw [nI_eq (by omega) (by omega)] at c_35
      have fin := hk I1 ((sb.rf.w rfl).tr hs1)
      rw [if_neg (fun h => c_35 h.2)] at fin
      exact fin
    · refine G_iconst (nx := 39) ⟨dX6_firstWrong_38, rfl⟩ ci_m1 ?_
      refine G_goto (tgt := 46) ⟨dX6_firstWrong_39, rfl⟩ rfl ?_
      try rw [h131]
      refine G_iret ⟨dX6_firstWrong_46, rfl⟩ rfl ?_
      rw [bi_n0] at c_26
      rw [nI_eq (by omega) (by omega)] at c_35
      have fin := hk I1 ((sb.rf.w rfl).tr hs1)
      rw [if_pos ⟨c_26, c_35⟩] at fin
      exact fin

end X82
