
theorem rem2 {dp : Nat} (h : dp ≤ 100) : nI dp - nI dp / 2 * 2 = nI (dp % 2) := by
  have h2 : (2 : Int32) = nI 2 := by decide
  rw [h2, pk_div (by omega) (by decide) (by decide), nI_mul, nI_sub (by omega)]
  congr 1
  omega
theorem pc_pow1 {p : Nat} (hp : p < 12) : pc (2 ^ p) = 1 := by
  have h : ∀ p, p < 12 → pc (2 ^ p) = 1 := by decide +kernel
  exact h p hp
def BgC (l : Launch) (D n : Nat) (gr : Nat → Nat) (J : AJ) (g : Bool) (f : Nat) : Prop := ∀ (K : AK) (I : AI) (P ta : Nat) (k : Int) (dp : Nat) (t : List ND) (wt : Int32), RG I 4 n gr → P < 2 ^ n → ta < 2 ^ n → -12 * (dp : Int) ≤ k → k ≤ 12 → dp + pc P ≤ 12 → pc P < f → t.length + 2 ^ f ≤ 16384 → SY I t t wt → dpm t ≤ 13 → I 35 6 = 0 →
  (∀ (I' : AI), SY I' (t ++ (sr n gr f P ta k dp).1) (t ++ (sr n gr f P ta k dp).1) wt → dpm (t ++ (sr n gr f P ta k dp).1) ≤ 13 → FN I' (sr n gr f P ta k dp).2 → sb fSr I I' → K .null I' J (rX g)) → G l D mX6_begins K 0 [.ref 35, .ref 4, .int (nI P), .int (nI ta), .int (iI k), .int (nI dp), UU, UU, UU, UU, UU, UU] [] I J (rX g)
theorem SY_rf {I : AI} {t : List ND} {nd : ND} {wt : Int32} (h : SY I (t ++ [nd]) t wt) (hf : nd.2.2.2.2.2 = false) : SY I (t ++ [nd]) (t ++ [nd]) wt := by
  refine ⟨h.1, ?_, h.2.2⟩
  rw [rfc_app, hf, Bool.toNat_false, Nat.add_zero]
  exact h.2.1
theorem dpm1 {t : List ND} {nd : ND} (h : dpm t ≤ 13) (hd : nd.2.2.2.2.1 ≤ 12) : dpm (t ++ [nd]) ≤ 13 := by
  rw [dpm_app]
  split <;> omega
section X81
variable {l : Launch} {d : Nat} {K : AK} {I : AI} {J : AJ} {g : Bool} {n : Nat} {gr : Nat → Nat}

theorem cY_begins (hW : WG n gr) : ∀ f, BgC l (d + f + 4) n gr J g f := by
  intro f
  induction f with
  | zero => intro K I P ta k dp t wt _ _ _ _ _ _ h; exact absurd h (by omega)
  | succ f ih =>
  intro K I P ta k dp t wt hR hP hta hk1 hk2 hdp hpc hlen hS hd13 h6 hk
  have hn := hR.1
  have hp12 := pow12 hn
  have hpl := pc_le P
  have h2f : 2 ^ (f + 1) = 2 * 2 ^ f := by rw [Nat.pow_succ]; omega
  have h1f := Nat.two_pow_pos f
  have tml : tau gr P P ≤ 12 := Nat.le_trans tau_le_pc hpl
  have eT2 := iI_toInt (z := 2 * k) (by omega) (by omega)
  have e2k : (2 : Int32) * iI k = iI (2 * k) := by
    rw [show (2 : Int32) = iI 2 by decide]
    unfold iI
    rw [Int32.ofInt_mul]
  have htl : t.length < 20000 := by omega
  refine G_d (d' := d + f + 4 + 1) (by omega) ?_
  refine G_aload_0 (nx := 1) ⟨dX6_begins_0, rfl⟩ ?_
  refine G_geti (nx := 4) (k := 35) ⟨dX6_begins_1, rfl⟩ fX6_35 q_35 yi_6_6 ?_
  rw [h6]
  refine G_ifne (tgt := 14) (nx := 7) ⟨dX6_begins_4, rfl⟩ rfl (fun c_4 => ?_) (fun c_4 => ?_)
  · exact absurd rfl c_4
  · refine G_iload_5 (nx := 9) ⟨dX6_begins_7, rfl⟩ ?_
    refine G_bipush (nx := 11) ⟨dX6_begins_9, rfl⟩ cb_12 ?_
    rw [show (12 : Int32) = nI 12 by decide]
    refine G_icmple (tgt := 15) (nx := 14) ⟨dX6_begins_11, rfl⟩ rfl (fun c_11 => ?_) (fun c_11 => ?_)
    · refine G_aload_0 (nx := 16) ⟨dX6_begins_15, rfl⟩ ?_
      refine G_getr (nx := 19) (k := 35) (r := 37) ⟨dX6_begins_16, rfl⟩ fX6_12 q_35 yr_6_0 (r_35_0 _) ?_
      refine G_aload_1 (nx := 20) ⟨dX6_begins_19, rfl⟩ ?_
      refine G_iload_2 (nx := 21) ⟨dX6_begins_20, rfl⟩ ?_
      refine G_cv2 (nx := 24) ⟨dX6_begins_21, rfl⟩ kX6_73 rfl q_37 rfl (Nat.le_of_ble_eq_true rfl) (Nat.le_of_ble_eq_true rfl) (cH_least (d := d + f + 1) ht37 q_4 (by decide) hR hP (fun I1 hs1 => ?_))
      
      refine G_iconst (nx := 25) ⟨dX6_begins_24, rfl⟩ ci_2 ?_
      refine G_iload_4 (nx := 27) ⟨dX6_begins_25, rfl⟩ ?_
      refine G_imul (nx := 28) ⟨dX6_begins_27, rfl⟩ ?_
      rw [e2k]
      refine G_icmple (tgt := 35) (nx := 31) ⟨dX6_begins_28, rfl⟩ rfl (fun c_28 => ?_) (fun c_28 => ?_)
      · refine G_iconst (nx := 36) ⟨dX6_begins_35, rfl⟩ ci_0 ?_
        refine G_istore_6 (nx := 38) ⟨dX6_begins_36, rfl⟩ rfl rfl ?_
        refine G_iload_6 (nx := 40) ⟨dX6_begins_38, rfl⟩ ?_
        refine G_ifeq (tgt := 47) (nx := 43) ⟨dX6_begins_40, rfl⟩ rfl (fun c_40 => ?_) (fun c_40 => ?_)
        · refine G_aload_1 (nx := 48) ⟨dX6_begins_47, rfl⟩ ?_
          refine G_iload_2 (nx := 49) ⟨dX6_begins_48, rfl⟩ ?_
          refine G_cs2 (nx := 52) ⟨dX6_begins_49, rfl⟩ kX6_77 rfl rfl (Nat.le_of_ble_eq_true rfl) (Nat.le_of_ble_eq_true rfl) (cN_busiest (d := d + f + 3) q_4 (hR.sb hs1 (fun _ => fMp_f (by omega))) hP ?_)
          refine G_istore_7 (nx := 54) ⟨dX6_begins_52, rfl⟩ rfl rfl ?_
          rw [i32_le, eT2, nI_toInt (by omega)] at c_28
          have hnr : ¬ 2 * k < (tau gr P P : Int) := by omega
          rcases hb : bz n gr P with _ | p
          · have esr : sr n gr (f + 1) P ta k dp = ([(none, P, ta, k, dp, false)], some ta) := by
              unfold sr
              rw [if_neg hnr, hb]
            rw [esr] at hk
            refine lY_rec (d := d + f + 4) (rf := false) (po := none) (SY_M hS hs1) htl hd13 (by omega) (fun I2 hS2 h62 hs2 => ?_)
            refine G_iload_6 (nx := 122) ⟨dX6_begins_120, rfl⟩ ?_
            refine G_ifeq (tgt := 136) (nx := 125) ⟨dX6_begins_122, rfl⟩ rfl (fun c_122 => ?_) (fun c_122 => ?_)
            · refine G_iload_7 (nx := 138) ⟨dX6_begins_136, rfl⟩ ?_
              refine G_ifge (tgt := 152) (nx := 141) ⟨dX6_begins_138, rfl⟩ rfl (fun c_138 => ?_) (fun c_138 => ?_)
              · exact absurd c_138 (by decide)
              · refine G_aload_0 (nx := 142) ⟨dX6_begins_141, rfl⟩ ?_
                refine G_iconst (nx := 143) ⟨dX6_begins_142, rfl⟩ ci_1 ?_
                refine G_putz (nx := 146) (k := 35) ⟨dX6_begins_143, rfl⟩ pX6_35 q_35 yt_6_6 (by first | assumption | decide | (unfold vp_in; decide)) ?_
                refine G_aload_0 (nx := 147) ⟨dX6_begins_146, rfl⟩ ?_
                refine G_iload_3 (nx := 148) ⟨dX6_begins_147, rfl⟩ ?_
                refine G_puti (nx := 151) (k := 35) ⟨dX6_begins_148, rfl⟩ pX6_32 q_35 yt_6_5 ?_
                refine G_vret ⟨dX6_begins_151, rfl⟩ rfl ?_
                refine hk _ ?_ (dpm1 hd13 (by show dp ≤ 12; omega)) ⟨by rw [w2_ne _ _ _ _ (by decide), w2_at], by rw [w2_at]⟩ ((((sb_MS hs1).tr hs2).w rfl).w rfl)
                obtain ⟨g1, g2, g3, g4, g5, g6⟩ := SY_rf hS2 rfl
                refine ⟨by rw [w2_ne _ _ _ _ (by decide), w2_ne _ _ _ _ (by decide)]; exact g1, by rw [w2_ne _ _ _ _ (by decide), w2_ne _ _ _ _ (by decide)]; exact g2, by rw [w2_ne _ _ _ _ (by decide), w2_ne _ _ _ _ (by decide)]; exact g3, by rw [w2_ne _ _ _ _ (by decide), w2_ne _ _ _ _ (by decide)]; exact g4, fun i nd hi hx => by rw [w2_row _ _ _ _ (show ¬ 36 = 35 by decide), w2_row _ _ _ _ (show ¬ 36 = 35 by decide)]; exact g5 i nd hi hx, fun i nd hx hw => ?_⟩
                simp only [w2_ne _ _ _ _ (show ¬ ((35 : Nat) = 35 ∧ (8 : Nat) = 5) by decide), w2_ne _ _ _ _ (show ¬ ((35 : Nat) = 35 ∧ (8 : Nat) = 6) by decide), w2_ne _ _ _ _ (show ¬ ((35 : Nat) = 35 ∧ (9 : Nat) = 5) by decide), w2_ne _ _ _ _ (show ¬ ((35 : Nat) = 35 ∧ (9 : Nat) = 6) by decide), w2_ne _ _ _ _ (show ¬ ((35 : Nat) = 35 ∧ (10 : Nat) = 5) by decide), w2_ne _ _ _ _ (show ¬ ((35 : Nat) = 35 ∧ (10 : Nat) = 6) by decide), w2_ne _ _ _ _ (show ¬ ((35 : Nat) = 35 ∧ (11 : Nat) = 5) by decide), w2_ne _ _ _ _ (show ¬ ((35 : Nat) = 35 ∧ (11 : Nat) = 6) by decide), w2_ne _ _ _ _ (show ¬ ((35 : Nat) = 35 ∧ (12 : Nat) = 5) by decide), w2_ne _ _ _ _ (show ¬ ((35 : Nat) = 35 ∧ (12 : Nat) = 6) by decide)]
                exact g6 i nd hx hw
            · exact absurd rfl c_122
          · obtain ⟨hx1, hx2, hx3⟩ := bz_lt gr P n p hb
            have hip := in12 hx1 hn
            have hpcx := pc_del (show p < 12 by omega) hx2
            have hpw : 2 ^ p < 2 ^ n := Nat.pow_lt_pow_right (by omega) hx1
            have hna : gr p &&& P ≤ P := Nat.and_le_right
            have hnl := pc_le (gr p &&& P)
            have hr1 : df P (2 ^ p) < 2 ^ n := Nat.lt_of_le_of_lt (df_le _ _) hP
            have hr2 : df (df P (2 ^ p)) (gr p &&& P) < 2 ^ n := Nat.lt_of_le_of_lt (df_le _ _) hr1
            have hc2 : pc (df (df P (2 ^ p)) (gr p &&& P)) ≤ pc (df P (2 ^ p)) := by
              rw [pc_cn, pc_cn]
              exact cn_mono (fun k _ h => by rw [tb_df, Bool.and_eq_true] at h; exact h.1)
            have hta1 : ta ||| 2 ^ p < 2 ^ n := Nat.or_lt_two_pow hta hpw
            have hta2 : ta ||| (gr p &&& P) < 2 ^ n := Nat.or_lt_two_pow hta (by omega)
            have hpw1 : (pc (2 ^ p) : Int) = 1 := by rw [pc_pow1 (by omega)]; rfl
            have hor : df P ((gr p &&& P) ||| 2 ^ p) = df (df P (2 ^ p)) (gr p &&& P) := by rw [Nat.or_comm, df_or3]
            refine lY_rec (d := d + f + 4) (rf := false) (po := some p) (SY_M hS hs1) htl hd13 (by omega) (fun I2 hS2 h62 hs2 => ?_)
            have hR1 : RG I1 4 n gr := hR.sb hs1 (fun _ => fMp_f (by omega))
            have hR2 : RG I2 4 n gr := hR1.sb hs2 (fun _ => fSr_f (by omega))
            have hS2' := SY_rf hS2 rfl
            have hd2 : dpm (t ++ [(some p, P, ta, k, dp, false)]) ≤ 13 := dpm1 hd13 (by show dp ≤ 12; omega)
            have h62' : I2 35 6 = 0 := by rw [h62, hs1 35 6 (fMp_f (by omega))]; exact h6
            have ek1 : iI k - 1 = iI (k - 1) := iI_sub k 1
            refine G_iload_6 (nx := 122) ⟨dX6_begins_120, rfl⟩ ?_
            refine G_ifeq (tgt := 136) (nx := 125) ⟨dX6_begins_122, rfl⟩ rfl (fun c_122 => ?_) (fun c_122 => ?_)
            · refine G_iload_7 (nx := 138) ⟨dX6_begins_136, rfl⟩ ?_
              refine G_ifge (tgt := 152) (nx := 141) ⟨dX6_begins_138, rfl⟩ rfl (fun c_138 => ?_) (fun c_138 => ?_)
              · rw [show mv (some p) = nI p from rfl]
                refine G_aload_1 (nx := 153) ⟨dX6_begins_152, rfl⟩ ?_
                refine G_iload_7 (nx := 155) ⟨dX6_begins_153, rfl⟩ ?_
                refine G_iald (nx := 156) (k := 4) ⟨dX6_begins_155, rfl⟩ q_4 (by first | assumption | decide | (unfold vp_in; decide)) ?_
                rw [hR2.row hx1]
                refine G_iload_2 (nx := 157) ⟨dX6_begins_156, rfl⟩ ?_
                refine G_iand (nx := 158) ⟨dX6_begins_157, rfl⟩ ?_
                rw [nI_and]
                refine G_istore_8 (nx := 160) ⟨dX6_begins_158, rfl⟩ rfl rfl ?_
                refine G_iload_2 (nx := 161) ⟨dX6_begins_160, rfl⟩ ?_
                refine G_iconst (nx := 162) ⟨dX6_begins_161, rfl⟩ ci_1 ?_
                refine G_iload_7 (nx := 164) ⟨dX6_begins_162, rfl⟩ ?_
                refine G_ishl (nx := 165) ⟨dX6_begins_164, rfl⟩ ?_
                refine G_iconst (nx := 166) ⟨dX6_begins_165, rfl⟩ ci_m1 ?_
                refine G_ixor (nx := 167) ⟨dX6_begins_166, rfl⟩ ?_
                refine G_iand (nx := 168) ⟨dX6_begins_167, rfl⟩ ?_
                rw [one_shl (show p < 31 by omega), nI_df _ (by omega)]
                refine G_istore_9 (nx := 170) ⟨dX6_begins_168, rfl⟩ rfl rfl ?_
                refine G_iload_4 (nx := 172) ⟨dX6_begins_170, rfl⟩ ?_
                refine G_iload_8 (nx := 174) ⟨dX6_begins_172, rfl⟩ ?_
                refine G_cs1 (nx := 177) ⟨dX6_begins_174, rfl⟩ kX6_90 rfl rfl (Nat.le_of_ble_eq_true rfl) (Nat.le_of_ble_eq_true rfl) (cJ_bc (by omega) ?_)
                refine G_isub (nx := 178) ⟨dX6_begins_177, rfl⟩ ?_
                rw [iI_subN]
                refine G_istore_10 (nx := 180) ⟨dX6_begins_178, rfl⟩ rfl rfl ?_
                refine G_iload_5 (nx := 182) ⟨dX6_begins_180, rfl⟩ ?_
                refine G_iconst (nx := 183) ⟨dX6_begins_182, rfl⟩ ci_2 ?_
                refine G_irem (nx := 184) ⟨dX6_begins_183, rfl⟩ (by decide) ?_
                rw [rem2 (by omega)]
                refine G_ifne (tgt := 191) (nx := 187) ⟨dX6_begins_184, rfl⟩ rfl (fun c_184 => ?_) (fun c_184 => ?_)
                · refine G_iconst (nx := 192) ⟨dX6_begins_191, rfl⟩ ci_0 ?_
                  refine G_istore_11 (nx := 194) ⟨dX6_begins_192, rfl⟩ rfl rfl ?_
                  rw [nI_0iff (by omega)] at c_184
                  have hev : (dp % 2 = 0) = False := eq_false c_184
                  have esr : sr n gr (f + 1) P ta k dp = (match (sr n gr f (df (df P (2 ^ p)) (gr p &&& P)) (ta ||| (gr p &&& P)) (k - (pc (gr p &&& P) : Int)) (dp + 1)).2 with | some x => ((some p, P, ta, k, dp, false) :: (sr n gr f (df (df P (2 ^ p)) (gr p &&& P)) (ta ||| (gr p &&& P)) (k - (pc (gr p &&& P) : Int)) (dp + 1)).1, some x) | none => ((some p, P, ta, k, dp, false) :: ((sr n gr f (df (df P (2 ^ p)) (gr p &&& P)) (ta ||| (gr p &&& P)) (k - (pc (gr p &&& P) : Int)) (dp + 1)).1 ++ (sr n gr f (df P (2 ^ p)) (ta ||| 2 ^ p) (k - 1) (dp + 1)).1), (sr n gr f (df P (2 ^ p)) (ta ||| 2 ^ p) (k - 1) (dp + 1)).2)) := by
                    rw [sr, if_neg hnr, hb]
                    simp only [hev, hpw1, hor, Nat.or_self, reduceIte]
                    try rfl
                  rw [esr] at hk
                  refine G_iload_11 (nx := 196) ⟨dX6_begins_194, rfl⟩ ?_
                  refine G_ifeq (tgt := 220) (nx := 199) ⟨dX6_begins_196, rfl⟩ rfl (fun c_196 => ?_) (fun c_196 => ?_)
                  · refine G_aload_0 (nx := 221) ⟨dX6_begins_220, rfl⟩ ?_
                    refine G_aload_1 (nx := 222) ⟨dX6_begins_221, rfl⟩ ?_
                    refine G_iload_9 (nx := 224) ⟨dX6_begins_222, rfl⟩ ?_
                    refine G_iload_8 (nx := 226) ⟨dX6_begins_224, rfl⟩ ?_
                    refine G_iconst (nx := 227) ⟨dX6_begins_226, rfl⟩ ci_m1 ?_
                    refine G_ixor (nx := 228) ⟨dX6_begins_227, rfl⟩ ?_
                    refine G_iand (nx := 229) ⟨dX6_begins_228, rfl⟩ ?_
                    refine G_iload_3 (nx := 230) ⟨dX6_begins_229, rfl⟩ ?_
                    refine G_iload_8 (nx := 232) ⟨dX6_begins_230, rfl⟩ ?_
                    refine G_ior (nx := 233) ⟨dX6_begins_232, rfl⟩ ?_
                    refine G_iload_10 (nx := 235) ⟨dX6_begins_233, rfl⟩ ?_
                    refine G_iload_5 (nx := 237) ⟨dX6_begins_235, rfl⟩ ?_
                    refine G_iconst (nx := 238) ⟨dX6_begins_237, rfl⟩ ci_1 ?_
                    refine G_iadd (nx := 239) ⟨dX6_begins_238, rfl⟩ ?_
                    rw [nI_df _ (by omega), nI_or, nI_1]
                    refine G_cvv5 (nx := 242) ⟨dX6_begins_239, rfl⟩ kX6_69 rfl q_35 rfl (Nat.le_of_ble_eq_true rfl) (Nat.le_of_ble_eq_true rfl) (ih _ I2 (df (df P (2 ^ p)) (gr p &&& P)) (ta ||| (gr p &&& P)) (k - (pc (gr p &&& P) : Int)) (dp + 1) (t ++ [(some p, P, ta, k, dp, false)]) wt hR2 hr2 hta2 (by omega) (by omega) (by omega) (by omega) (by rw [List.length_append, List.length_singleton]; omega) hS2' hd2 h62' (fun I3 hS3 hd3 hF3 hs3 => ?_))
                    have hR3 : RG I3 4 n gr := hR2.sb hs3 (fun _ => fSr_f (by omega))
                    rcases hq : (sr n gr f (df (df P (2 ^ p)) (gr p &&& P)) (ta ||| (gr p &&& P)) (k - (pc (gr p &&& P) : Int)) (dp + 1)).2 with _ | x
                    · rw [hq] at hF3
                      refine G_iload_11 (nx := 244) ⟨dX6_begins_242, rfl⟩ ?_
                      refine G_ifne (tgt := 268) (nx := 247) ⟨dX6_begins_244, rfl⟩ rfl (fun c_244 => ?_) (fun c_244 => ?_)
                      · exact absurd rfl c_244
                      · refine G_aload_0 (nx := 248) ⟨dX6_begins_247, rfl⟩ ?_
                        refine G_aload_1 (nx := 249) ⟨dX6_begins_248, rfl⟩ ?_
                        refine G_iload_9 (nx := 251) ⟨dX6_begins_249, rfl⟩ ?_
                        refine G_iload_3 (nx := 252) ⟨dX6_begins_251, rfl⟩ ?_
                        refine G_iconst (nx := 253) ⟨dX6_begins_252, rfl⟩ ci_1 ?_
                        refine G_iload_7 (nx := 255) ⟨dX6_begins_253, rfl⟩ ?_
                        refine G_ishl (nx := 256) ⟨dX6_begins_255, rfl⟩ ?_
                        refine G_ior (nx := 257) ⟨dX6_begins_256, rfl⟩ ?_
                        refine G_iload_4 (nx := 259) ⟨dX6_begins_257, rfl⟩ ?_
                        refine G_iconst (nx := 260) ⟨dX6_begins_259, rfl⟩ ci_1 ?_
                        refine G_isub (nx := 261) ⟨dX6_begins_260, rfl⟩ ?_
                        refine G_iload_5 (nx := 263) ⟨dX6_begins_261, rfl⟩ ?_
                        refine G_iconst (nx := 264) ⟨dX6_begins_263, rfl⟩ ci_1 ?_
                        refine G_iadd (nx := 265) ⟨dX6_begins_264, rfl⟩ ?_
                        rw [one_shl (show p < 31 by omega), nI_or, ek1, nI_1]
                        refine G_cvv5 (nx := 268) ⟨dX6_begins_265, rfl⟩ kX6_69 rfl q_35 rfl (Nat.le_of_ble_eq_true rfl) (Nat.le_of_ble_eq_true rfl) (ih _ I3 (df P (2 ^ p)) (ta ||| 2 ^ p) (k - 1) (dp + 1) _ wt hR3 hr1 hta1 (by omega) (by omega) (by omega) (by omega) (by have hsl := sr_len n gr f (df (df P (2 ^ p)) (gr p &&& P)) (ta ||| (gr p &&& P)) (k - (pc (gr p &&& P) : Int)) (dp + 1); rw [List.length_append, List.length_append, List.length_singleton]; omega) hS3 hd3 hF3 (fun I4 hS4 hd4 hF4 hs4 => ?_))
                        refine G_vret ⟨dX6_begins_268, rfl⟩ rfl ?_
                        simp only [hq] at hk
                        refine hk I4 ?_ ?_ hF4 ((((sb_MS hs1).tr hs2).tr hs3).tr hs4)
                        · have := hS4
                          rw [List.append_assoc, List.append_assoc] at this
                          exact this
                        · have := hd4
                          rw [List.append_assoc, List.append_assoc] at this
                          exact this
                    
                    · rw [hq] at hF3
                      refine G_iload_11 (nx := 244) ⟨dX6_begins_242, rfl⟩ ?_
                      refine G_ifne (tgt := 268) (nx := 247) ⟨dX6_begins_244, rfl⟩ rfl (fun c_244 => ?_) (fun c_244 => ?_)
                      · exact absurd rfl c_244
                      · refine G_aload_0 (nx := 248) ⟨dX6_begins_247, rfl⟩ ?_
                        refine G_aload_1 (nx := 249) ⟨dX6_begins_248, rfl⟩ ?_
                        refine G_iload_9 (nx := 251) ⟨dX6_begins_249, rfl⟩ ?_
                        refine G_iload_3 (nx := 252) ⟨dX6_begins_251, rfl⟩ ?_
                        refine G_iconst (nx := 253) ⟨dX6_begins_252, rfl⟩ ci_1 ?_
                        refine G_iload_7 (nx := 255) ⟨dX6_begins_253, rfl⟩ ?_
                        refine G_ishl (nx := 256) ⟨dX6_begins_255, rfl⟩ ?_
                        refine G_ior (nx := 257) ⟨dX6_begins_256, rfl⟩ ?_
                        refine G_iload_4 (nx := 259) ⟨dX6_begins_257, rfl⟩ ?_
                        refine G_iconst (nx := 260) ⟨dX6_begins_259, rfl⟩ ci_1 ?_
                        refine G_isub (nx := 261) ⟨dX6_begins_260, rfl⟩ ?_
                        refine G_iload_5 (nx := 263) ⟨dX6_begins_261, rfl⟩ ?_
                        refine G_iconst (nx := 264) ⟨dX6_begins_263, rfl⟩ ci_1 ?_
                        refine G_iadd (nx := 265) ⟨dX6_begins_264, rfl⟩ ?_
                        rw [one_shl (show p < 31 by omega), nI_or, ek1, nI_1]
                        refine G_cvv5 (nx := 268) ⟨dX6_begins_265, rfl⟩ kX6_69 rfl q_35 rfl (Nat.le_of_ble_eq_true rfl) (Nat.le_of_ble_eq_true rfl) (cY_beginsF hF3.1 ?_)
                        refine G_vret ⟨dX6_begins_268, rfl⟩ rfl ?_
                        simp only [hq] at hk
                        refine hk I3 ?_ ?_ hF3 (((sb_MS hs1).tr hs2).tr hs3)
                        · have := hS3
                          rw [List.append_assoc] at this
                          exact this
                        · have := hd3
                          rw [List.append_assoc] at this
                          exact this
                    
                  · exact absurd rfl c_196
                  
                · refine G_iconst (nx := 188) ⟨dX6_begins_187, rfl⟩ ci_1 ?_
                  refine G_goto (tgt := 192) ⟨dX6_begins_188, rfl⟩ rfl ?_
                  refine G_istore_11 (nx := 194) ⟨dX6_begins_192, rfl⟩ rfl rfl ?_
                  rw [nI_0iff (by omega)] at c_184
                  have hev : (dp % 2 = 0) = True := eq_true c_184
                  have esr : sr n gr (f + 1) P ta k dp = (match (sr n gr f (df P (2 ^ p)) (ta ||| 2 ^ p) (k - 1) (dp + 1)).2 with | some x => ((some p, P, ta, k, dp, false) :: (sr n gr f (df P (2 ^ p)) (ta ||| 2 ^ p) (k - 1) (dp + 1)).1, some x) | none => ((some p, P, ta, k, dp, false) :: ((sr n gr f (df P (2 ^ p)) (ta ||| 2 ^ p) (k - 1) (dp + 1)).1 ++ (sr n gr f (df (df P (2 ^ p)) (gr p &&& P)) (ta ||| (gr p &&& P)) (k - (pc (gr p &&& P) : Int)) (dp + 1)).1), (sr n gr f (df (df P (2 ^ p)) (gr p &&& P)) (ta ||| (gr p &&& P)) (k - (pc (gr p &&& P) : Int)) (dp + 1)).2)) := by
                    rw [sr, if_neg hnr, hb]
                    simp only [hev, hpw1, hor, Nat.or_self, reduceIte]
                    try rfl
                  rw [esr] at hk
                  refine G_iload_11 (nx := 196) ⟨dX6_begins_194, rfl⟩ ?_
                  refine G_ifeq (tgt := 220) (nx := 199) ⟨dX6_begins_196, rfl⟩ rfl (fun c_196 => ?_) (fun c_196 => ?_)
                  · exact absurd c_196 (by decide)
                  · refine G_aload_0 (nx := 200) ⟨dX6_begins_199, rfl⟩ ?_
                    refine G_aload_1 (nx := 201) ⟨dX6_begins_200, rfl⟩ ?_
                    refine G_iload_9 (nx := 203) ⟨dX6_begins_201, rfl⟩ ?_
                    refine G_iload_3 (nx := 204) ⟨dX6_begins_203, rfl⟩ ?_
                    refine G_iconst (nx := 205) ⟨dX6_begins_204, rfl⟩ ci_1 ?_
                    refine G_iload_7 (nx := 207) ⟨dX6_begins_205, rfl⟩ ?_
                    refine G_ishl (nx := 208) ⟨dX6_begins_207, rfl⟩ ?_
                    refine G_ior (nx := 209) ⟨dX6_begins_208, rfl⟩ ?_
                    refine G_iload_4 (nx := 211) ⟨dX6_begins_209, rfl⟩ ?_
                    refine G_iconst (nx := 212) ⟨dX6_begins_211, rfl⟩ ci_1 ?_
                    refine G_isub (nx := 213) ⟨dX6_begins_212, rfl⟩ ?_
                    refine G_iload_5 (nx := 215) ⟨dX6_begins_213, rfl⟩ ?_
                    refine G_iconst (nx := 216) ⟨dX6_begins_215, rfl⟩ ci_1 ?_
                    refine G_iadd (nx := 217) ⟨dX6_begins_216, rfl⟩ ?_
                    rw [one_shl (show p < 31 by omega), nI_or, ek1, nI_1]
                    refine G_cvv5 (nx := 220) ⟨dX6_begins_217, rfl⟩ kX6_69 rfl q_35 rfl (Nat.le_of_ble_eq_true rfl) (Nat.le_of_ble_eq_true rfl) (ih _ I2 (df P (2 ^ p)) (ta ||| 2 ^ p) (k - 1) (dp + 1) (t ++ [(some p, P, ta, k, dp, false)]) wt hR2 hr1 hta1 (by omega) (by omega) (by omega) (by omega) (by rw [List.length_append, List.length_singleton]; omega) hS2' hd2 h62' (fun I3 hS3 hd3 hF3 hs3 => ?_))
                    have hR3 : RG I3 4 n gr := hR2.sb hs3 (fun _ => fSr_f (by omega))
                    rcases hq : (sr n gr f (df P (2 ^ p)) (ta ||| 2 ^ p) (k - 1) (dp + 1)).2 with _ | x
                    · rw [hq] at hF3
                      refine G_aload_0 (nx := 221) ⟨dX6_begins_220, rfl⟩ ?_
                      refine G_aload_1 (nx := 222) ⟨dX6_begins_221, rfl⟩ ?_
                      refine G_iload_9 (nx := 224) ⟨dX6_begins_222, rfl⟩ ?_
                      refine G_iload_8 (nx := 226) ⟨dX6_begins_224, rfl⟩ ?_
                      refine G_iconst (nx := 227) ⟨dX6_begins_226, rfl⟩ ci_m1 ?_
                      refine G_ixor (nx := 228) ⟨dX6_begins_227, rfl⟩ ?_
                      refine G_iand (nx := 229) ⟨dX6_begins_228, rfl⟩ ?_
                      refine G_iload_3 (nx := 230) ⟨dX6_begins_229, rfl⟩ ?_
                      refine G_iload_8 (nx := 232) ⟨dX6_begins_230, rfl⟩ ?_
                      refine G_ior (nx := 233) ⟨dX6_begins_232, rfl⟩ ?_
                      refine G_iload_10 (nx := 235) ⟨dX6_begins_233, rfl⟩ ?_
                      refine G_iload_5 (nx := 237) ⟨dX6_begins_235, rfl⟩ ?_
                      refine G_iconst (nx := 238) ⟨dX6_begins_237, rfl⟩ ci_1 ?_
                      refine G_iadd (nx := 239) ⟨dX6_begins_238, rfl⟩ ?_
                      rw [nI_df _ (by omega), nI_or, nI_1]
                      refine G_cvv5 (nx := 242) ⟨dX6_begins_239, rfl⟩ kX6_69 rfl q_35 rfl (Nat.le_of_ble_eq_true rfl) (Nat.le_of_ble_eq_true rfl) (ih _ I3 (df (df P (2 ^ p)) (gr p &&& P)) (ta ||| (gr p &&& P)) (k - (pc (gr p &&& P) : Int)) (dp + 1) _ wt hR3 hr2 hta2 (by omega) (by omega) (by omega) (by omega) (by have hsl := sr_len n gr f (df P (2 ^ p)) (ta ||| 2 ^ p) (k - 1) (dp + 1); rw [List.length_append, List.length_append, List.length_singleton]; omega) hS3 hd3 hF3 (fun I4 hS4 hd4 hF4 hs4 => ?_))
                      refine G_iload_11 (nx := 244) ⟨dX6_begins_242, rfl⟩ ?_
                      refine G_ifne (tgt := 268) (nx := 247) ⟨dX6_begins_244, rfl⟩ rfl (fun c_244 => ?_) (fun c_244 => ?_)
                      · refine G_vret ⟨dX6_begins_268, rfl⟩ rfl ?_
                        simp only [hq] at hk
                        refine hk I4 ?_ ?_ hF4 ((((sb_MS hs1).tr hs2).tr hs3).tr hs4)
                        · have := hS4
                          rw [List.append_assoc, List.append_assoc] at this
                          exact this
                        · have := hd4
                          rw [List.append_assoc, List.append_assoc] at this
                          exact this
                      · exact absurd c_244 (by decide)
                    
                    · rw [hq] at hF3
                      refine G_aload_0 (nx := 221) ⟨dX6_begins_220, rfl⟩ ?_
                      refine G_aload_1 (nx := 222) ⟨dX6_begins_221, rfl⟩ ?_
                      refine G_iload_9 (nx := 224) ⟨dX6_begins_222, rfl⟩ ?_
                      refine G_iload_8 (nx := 226) ⟨dX6_begins_224, rfl⟩ ?_
                      refine G_iconst (nx := 227) ⟨dX6_begins_226, rfl⟩ ci_m1 ?_
                      refine G_ixor (nx := 228) ⟨dX6_begins_227, rfl⟩ ?_
                      refine G_iand (nx := 229) ⟨dX6_begins_228, rfl⟩ ?_
                      refine G_iload_3 (nx := 230) ⟨dX6_begins_229, rfl⟩ ?_
                      refine G_iload_8 (nx := 232) ⟨dX6_begins_230, rfl⟩ ?_
                      refine G_ior (nx := 233) ⟨dX6_begins_232, rfl⟩ ?_
                      refine G_iload_10 (nx := 235) ⟨dX6_begins_233, rfl⟩ ?_
                      refine G_iload_5 (nx := 237) ⟨dX6_begins_235, rfl⟩ ?_
                      refine G_iconst (nx := 238) ⟨dX6_begins_237, rfl⟩ ci_1 ?_
                      refine G_iadd (nx := 239) ⟨dX6_begins_238, rfl⟩ ?_
                      rw [nI_df _ (by omega), nI_or, nI_1]
                      refine G_cvv5 (nx := 242) ⟨dX6_begins_239, rfl⟩ kX6_69 rfl q_35 rfl (Nat.le_of_ble_eq_true rfl) (Nat.le_of_ble_eq_true rfl) (cY_beginsF hF3.1 ?_)
                      refine G_iload_11 (nx := 244) ⟨dX6_begins_242, rfl⟩ ?_
                      refine G_ifne (tgt := 268) (nx := 247) ⟨dX6_begins_244, rfl⟩ rfl (fun c_244 => ?_) (fun c_244 => ?_)
                      · refine G_vret ⟨dX6_begins_268, rfl⟩ rfl ?_
                        simp only [hq] at hk
                        refine hk I3 ?_ ?_ hF3 (((sb_MS hs1).tr hs2).tr hs3)
                        · have := hS3
                          rw [List.append_assoc] at this
                          exact this
                        · have := hd3
                          rw [List.append_assoc] at this
                          exact this
                      · exact absurd c_244 (by decide)
                    
                  
              · exact absurd (by show (0 : Int32) ≤ nI p; rw [← nI_0, nI_le_iff (by omega) (by omega)]; omega) c_138
            · exact absurd rfl c_122
          
        · exact absurd rfl c_40
      · refine G_iconst (nx := 32) ⟨dX6_begins_31, rfl⟩ ci_1 ?_
        refine G_goto (tgt := 36) ⟨dX6_begins_32, rfl⟩ rfl ?_
        refine G_istore_6 (nx := 38) ⟨dX6_begins_36, rfl⟩ rfl rfl ?_
        refine G_iload_6 (nx := 40) ⟨dX6_begins_38, rfl⟩ ?_
        refine G_ifeq (tgt := 47) (nx := 43) ⟨dX6_begins_40, rfl⟩ rfl (fun c_40 => ?_) (fun c_40 => ?_)
        · exact absurd c_40 (by decide)
        · refine G_iconst (nx := 44) ⟨dX6_begins_43, rfl⟩ ci_m1 ?_
          refine G_goto (tgt := 52) ⟨dX6_begins_44, rfl⟩ rfl ?_
          refine G_istore_7 (nx := 54) ⟨dX6_begins_52, rfl⟩ rfl rfl ?_
          rw [i32_le, eT2, nI_toInt (by omega)] at c_28
          have esr : sr n gr (f + 1) P ta k dp = ([(none, P, ta, k, dp, true)], none) := by
            unfold sr
            rw [if_pos (by omega)]
          rw [esr] at hk
          refine lY_rec (d := d + f + 4) (rf := true) (po := none) (SY_M hS hs1) htl hd13 (by omega) (fun I2 hS2 h62 hs2 => ?_)
          refine G_iload_6 (nx := 122) ⟨dX6_begins_120, rfl⟩ ?_
          refine G_ifeq (tgt := 136) (nx := 125) ⟨dX6_begins_122, rfl⟩ rfl (fun c_122 => ?_) (fun c_122 => ?_)
          · exact absurd c_122 (by decide)
          · refine G_aload_0 (nx := 126) ⟨dX6_begins_125, rfl⟩ ?_
            refine G_dup (nx := 127) ⟨dX6_begins_126, rfl⟩ rfl ?_
            refine G_geti (nx := 130) (k := 35) ⟨dX6_begins_127, rfl⟩ fX6_26 q_35 yi_6_3 ?_
            rw [hS2.2.1]
            refine G_iconst (nx := 131) ⟨dX6_begins_130, rfl⟩ ci_1 ?_
            refine G_iadd (nx := 132) ⟨dX6_begins_131, rfl⟩ ?_
            refine G_puti (nx := 135) (k := 35) ⟨dX6_begins_132, rfl⟩ pX6_26 q_35 yt_6_3 ?_
            refine G_vret ⟨dX6_begins_135, rfl⟩ rfl ?_
            refine hk _ ?_ (dpm1 hd13 (by show dp ≤ 12; omega)) ?_ (((sb_MS hs1).tr hs2).w rfl)
            · obtain ⟨g1, g2, g3, g4, g5, g6⟩ := hS2
              refine ⟨by rw [w2_ne _ _ _ _ (by decide)]; exact g1, ?_, by rw [w2_ne _ _ _ _ (by decide)]; exact g3, by rw [w2_ne _ _ _ _ (by decide)]; exact g4, fun i nd hi hx => by rw [w2_row _ _ _ _ (show ¬ 36 = 35 by decide)]; exact g5 i nd hi hx, fun i nd hx hw => ?_⟩
              · rw [w2_at, rfc_app, nI_1]; rfl
              · rw [w2_ne _ _ _ _ (by decide), w2_ne _ _ _ _ (by decide), w2_ne _ _ _ _ (by decide), w2_ne _ _ _ _ (by decide), w2_ne _ _ _ _ (by decide)]
                exact g6 i nd hx hw
            · show w2 I2 35 3 _ 35 6 = 0
              rw [w2_ne _ _ _ _ (by decide), h62, hs1 35 6 (fMp_f (by omega))]
              exact h6
          
    · (rw [nI_le_iff (by omega) (by omega)] at c_11; omega)

end X81
