
theorem eT_b {tp : Nat → Int32} {t p : Nat} (hp : p < t) : p < eT tp t p ∧ eT tp t p ≤ t := by
  unfold eT
  split
  · rename_i h
    exact ⟨rn_gt hp h, rn_le _ _ _ _ _ _ (by omega)⟩
  · split
    · rename_i h
      exact ⟨rn_gt hp h, rn_le _ _ _ _ _ _ (by omega)⟩
    · omega
theorem let_dig {x : Int32} (h1 : inR x 97 122 = true) (h2 : inR x 48 57 = true) : False := by
  simp only [inR, decide_eq_true_eq, i32_le] at h1 h2
  have e1 : (97 : Int32).toInt = 97 := by decide
  have e2 : (57 : Int32).toInt = 57 := by decide
  omega
theorem TV_0 (t : Nat) (k x i : Nat → Int32) : TV t (0, -1, 0, 0, 0, k, x, i) := ⟨Nat.zero_le t, Nat.zero_le 60, Nat.zero_le 20, rfl, fun h => absurd h (Nat.not_succ_le_zero 0), Nat.zero_le 2⟩
section X9K
variable {l : Launch} {d : Nat} {K : AK} {I : AI} {J : AJ} {g : Bool} {n : Nat} {gr : Nat → Nat}
theorem cA_token {t P : Nat} {tp : Nat → Int32} {s : TS} {o a b c e f j1 j2 j3 : Nat} (hT : TT o a b c e f j1 j2 j3) (ho : o = 57 ∨ o = 66) (ht2 : t ≤ 200) (hV : TV t s) (hC : CR I tp t o a b c s) (hP : rn tp t 32 32 (t - s.p) s.p = P) (hPt : P < t) (hk : ∀ (r : Int32) (I' : AI), BTR I tp t o a b c P s r I' → K (.int r) I' J (rX g)) : G l (d + 6) mX9_behindToken K 0 [.ref 42, .int (cmI s), .int (nI P), .int (nI (eT tp t P)), .ref o, UU, UU] [] I J (rX g) := by
  have hab := hT.2.2.2.2.2.2.2.2.2.2
  have hPne : ¬ P = t := by omega
  have heb := eT_b (tp := tp) hPt
  have hm60 := hV.2.1
  have hd20 := hV.2.2.1
  have hCH := hV.2.2.2.1
  have h2 : I 43 = tp := hC.2.1
  have h5 : I o 8 = nI s.m := hC.2.2.2.2.1
  refine G_aload_0 (nx := 1) ⟨dX9_behindToken_0, rfl⟩ ?_
  refine G_getr (nx := 4) (k := 42) (r := 43) ⟨dX9_behindToken_1, rfl⟩ fX9_9 q_42 yr_9_0 (r_42_0 _) ?_
  refine G_iload_2 (nx := 5) ⟨dX9_behindToken_4, rfl⟩ ?_
  refine G_iald (nx := 6) (k := 43) ⟨dX9_behindToken_5, rfl⟩ q_43 (by exact in200 (by omega)) ?_
  rw [cl_nI (by omega), h2]
  refine G_istore_5 (nx := 8) ⟨dX9_behindToken_6, rfl⟩ rfl rfl ?_
  refine G_iload_5 (nx := 10) ⟨dX9_behindToken_8, rfl⟩ ?_
  refine G_bipush (nx := 12) ⟨dX9_behindToken_10, rfl⟩ cb_40 ?_
  refine G_icmpne (tgt := 23) (nx := 15) ⟨dX9_behindToken_12, rfl⟩ rfl (fun c_12 => ?_) (fun c_12 => ?_)
  · refine G_iload_5 (nx := 25) ⟨dX9_behindToken_23, rfl⟩ ?_
    refine G_bipush (nx := 27) ⟨dX9_behindToken_25, rfl⟩ cb_41 ?_
    refine G_icmpne (tgt := 36) (nx := 30) ⟨dX9_behindToken_27, rfl⟩ rfl (fun c_27 => ?_) (fun c_27 => ?_)
    · refine G_iload_5 (nx := 38) ⟨dX9_behindToken_36, rfl⟩ ?_
      refine G_cs1 (nx := 41) ⟨dX9_behindToken_38, rfl⟩ kX9_36 rfl rfl (Nat.le_of_ble_eq_true rfl) (Nat.le_of_ble_eq_true rfl) (cA_isLetter ?_)
      refine G_ifeq (tgt := 73) (nx := 44) ⟨dX9_behindToken_41, rfl⟩ rfl (fun c_41 => ?_) (fun c_41 => ?_)
      · refine G_iload_5 (nx := 75) ⟨dX9_behindToken_73, rfl⟩ ?_
        refine G_cs1 (nx := 78) ⟨dX9_behindToken_75, rfl⟩ kX9_40 rfl rfl (Nat.le_of_ble_eq_true rfl) (Nat.le_of_ble_eq_true rfl) (cA_isDigit ?_)
        refine G_ifeq (tgt := 119) (nx := 81) ⟨dX9_behindToken_78, rfl⟩ rfl (fun c_78 => ?_) (fun c_78 => ?_)
        · refine G_iconst (nx := 120) ⟨dX9_behindToken_119, rfl⟩ ci_5 ?_
          refine G_iret ⟨dX9_behindToken_120, rfl⟩ rfl ?_
          rw [bi_0] at c_41 c_78
          have hnl : ¬ inR (tp P) 97 122 = true := by rw [c_41]; decide
          have hnd : ¬ inR (tp P) 48 57 = true := by rw [c_78]; decide
          refine hk 5 I (Or.inl ⟨rfl, rfl, ?_⟩)
          unfold stp
          rw [hP, if_neg hPne, if_neg hnl, if_neg hnd, if_neg c_12, if_neg c_27]
        · refine G_iload_1 (nx := 82) ⟨dX9_behindToken_81, rfl⟩ ?_
          refine G_iconst (nx := 83) ⟨dX9_behindToken_82, rfl⟩ ci_1 ?_
          refine G_icmpeq (tgt := 91) (nx := 86) ⟨dX9_behindToken_83, rfl⟩ rfl (fun c_83 => ?_) (fun c_83 => ?_)
          · rw [bi_n0] at c_78
            have hnl : ¬ inR (tp P) 97 122 = true := by rw [bi_0.mp c_41]; decide
            have heD : eT tp t P = rn tp t 48 57 (t - P) P := by unfold eT; rw [if_neg hnl, if_pos c_78]
            have hls : 1 ≤ s.ls := by
              first
                | (have := (cm_1 hV).mp c_83; omega)
                | (have := (cm_2 hV).mp c_88; omega)
            have hdp := hV.2.2.2.2.1 hls
            have hmp := TV_m hV hdp
            refine G_iload_3 (nx := 92) ⟨dX9_behindToken_91, rfl⟩ ?_
            refine G_iload_2 (nx := 93) ⟨dX9_behindToken_92, rfl⟩ ?_
            refine G_isub (nx := 94) ⟨dX9_behindToken_93, rfl⟩ ?_
            rw [nI_sub (by omega)]
            refine G_iconst (nx := 95) ⟨dX9_behindToken_94, rfl⟩ ci_1 ?_
            refine G_icmpne (tgt := 105) (nx := 98) ⟨dX9_behindToken_95, rfl⟩ rfl (fun c_95 => ?_) (fun c_95 => ?_)
            · refine G_iconst (nx := 106) ⟨dX9_behindToken_105, rfl⟩ ci_5 ?_
              refine G_iret ⟨dX9_behindToken_106, rfl⟩ rfl ?_
              have hlt : 1 < rn tp t 48 57 (t - P) P - P := by
                have : ¬ eT tp t P - P = 1 := fun h => c_95 (by rw [h]; rfl)
                rw [← heD]
                omega
              refine hk 5 I (Or.inl ⟨rfl, rfl, ?_⟩)
              unfold stp
              rw [hP, if_neg hPne, if_neg hnl, if_pos c_78, if_pos (Or.inr (Or.inl hlt))]
            · refine G_iload_5 (nx := 100) ⟨dX9_behindToken_98, rfl⟩ ?_
              refine G_bipush (nx := 102) ⟨dX9_behindToken_100, rfl⟩ cb_48 ?_
              refine G_icmpne (tgt := 107) (nx := 105) ⟨dX9_behindToken_102, rfl⟩ rfl (fun c_102 => ?_) (fun c_102 => ?_)
              · refine G_aload_4 (nx := 109) ⟨dX9_behindToken_107, rfl⟩ ?_
                refine G_iload_5 (nx := 111) ⟨dX9_behindToken_109, rfl⟩ ?_
                refine G_bipush (nx := 113) ⟨dX9_behindToken_111, rfl⟩ cb_48 ?_
                refine G_isub (nx := 114) ⟨dX9_behindToken_113, rfl⟩ ?_
                refine G_cvv1 (nx := 117) ⟨dX9_behindToken_114, rfl⟩ kX9_58 rfl hT.1 rfl (Nat.le_of_ble_eq_true rfl) (Nat.le_of_ble_eq_true rfl) (cT_lastWeighs hT ⟨h5, hm60⟩ hmp ?_)
                refine G_iconst (nx := 118) ⟨dX9_behindToken_117, rfl⟩ ci_3 ?_
                refine G_iret ⟨dX9_behindToken_118, rfl⟩ rfl ?_
                have h1 : ¬ 1 < rn tp t 48 57 (t - P) P - P := by
                  have : eT tp t P - P = 1 := nI_inj (by omega) (by omega) c_95
                  rw [← heD]
                  omega
                refine hk 3 _ (Or.inr ⟨(rn tp t 48 57 (t - P) P, s.at0, s.dp, 0, s.m, s.ks, upd s.ws s.at0.toNatClampNeg (tp P - 48), s.is), ?_, ?_, heD.symm, ?_, CR_wt ho (by omega) (by omega) (by omega) hV hls hC _, sb.rf.w (by simp [fTp]; omega)⟩)
                · unfold stp
                  rw [hP, if_neg hPne, if_neg hnl, if_pos c_78, if_neg]
                  rintro (h | h | h)
                  · omega
                  · exact h1 h
                  · exact c_102 h
                · unfold cmI
                  rw [if_neg (by show ¬ s.dp = 0; omega), if_neg (by show ¬ 0 = 2; decide), if_neg (by show ¬ 0 = 1; decide)]
                · exact ⟨by rw [heD] at heb; exact heb.2, hm60, hd20, hCH, fun h => absurd h (by show ¬ 1 ≤ 0; decide), by show 0 ≤ 2; decide⟩
              · refine G_iconst (nx := 106) ⟨dX9_behindToken_105, rfl⟩ ci_5 ?_
                refine G_iret ⟨dX9_behindToken_106, rfl⟩ rfl ?_
                refine hk 5 I (Or.inl ⟨rfl, rfl, ?_⟩)
                unfold stp
                rw [hP, if_neg hPne, if_neg hnl, if_pos c_78, if_pos (Or.inr (Or.inr c_102))]
          · refine G_iload_1 (nx := 87) ⟨dX9_behindToken_86, rfl⟩ ?_
            refine G_iconst (nx := 88) ⟨dX9_behindToken_87, rfl⟩ ci_2 ?_
            refine G_icmpne (tgt := 119) (nx := 91) ⟨dX9_behindToken_88, rfl⟩ rfl (fun c_88 => ?_) (fun c_88 => ?_)
            · refine G_iconst (nx := 120) ⟨dX9_behindToken_119, rfl⟩ ci_5 ?_
              refine G_iret ⟨dX9_behindToken_120, rfl⟩ rfl ?_
              rw [bi_0] at c_41
              rw [bi_n0] at c_78
              have hnl : ¬ inR (tp P) 97 122 = true := by rw [c_41]; decide
              have hl1 : s.ls < 1 := by
                have h6 := hV.2.2.2.2.2
                have : ¬ s.ls = 2 := fun h => c_83 ((cm_1 hV).mpr h)
                have : ¬ s.ls = 1 := fun h => c_88 ((cm_2 hV).mpr h)
                omega
              refine hk 5 I (Or.inl ⟨rfl, rfl, ?_⟩)
              unfold stp
              rw [hP, if_neg hPne, if_neg hnl, if_pos c_78, if_pos (Or.inl hl1)]
            · rw [bi_n0] at c_78
              have hnl : ¬ inR (tp P) 97 122 = true := by rw [bi_0.mp c_41]; decide
              have heD : eT tp t P = rn tp t 48 57 (t - P) P := by unfold eT; rw [if_neg hnl, if_pos c_78]
              have hls : 1 ≤ s.ls := by
                first
                  | (have := (cm_1 hV).mp c_83; omega)
                  | (have := (cm_2 hV).mp c_88; omega)
              have hdp := hV.2.2.2.2.1 hls
              have hmp := TV_m hV hdp
              refine G_iload_3 (nx := 92) ⟨dX9_behindToken_91, rfl⟩ ?_
              refine G_iload_2 (nx := 93) ⟨dX9_behindToken_92, rfl⟩ ?_
              refine G_isub (nx := 94) ⟨dX9_behindToken_93, rfl⟩ ?_
              rw [nI_sub (by omega)]
              refine G_iconst (nx := 95) ⟨dX9_behindToken_94, rfl⟩ ci_1 ?_
              refine G_icmpne (tgt := 105) (nx := 98) ⟨dX9_behindToken_95, rfl⟩ rfl (fun c_95 => ?_) (fun c_95 => ?_)
              · refine G_iconst (nx := 106) ⟨dX9_behindToken_105, rfl⟩ ci_5 ?_
                refine G_iret ⟨dX9_behindToken_106, rfl⟩ rfl ?_
                have hlt : 1 < rn tp t 48 57 (t - P) P - P := by
                  have : ¬ eT tp t P - P = 1 := fun h => c_95 (by rw [h]; rfl)
                  rw [← heD]
                  omega
                refine hk 5 I (Or.inl ⟨rfl, rfl, ?_⟩)
                unfold stp
                rw [hP, if_neg hPne, if_neg hnl, if_pos c_78, if_pos (Or.inr (Or.inl hlt))]
              · refine G_iload_5 (nx := 100) ⟨dX9_behindToken_98, rfl⟩ ?_
                refine G_bipush (nx := 102) ⟨dX9_behindToken_100, rfl⟩ cb_48 ?_
                refine G_icmpne (tgt := 107) (nx := 105) ⟨dX9_behindToken_102, rfl⟩ rfl (fun c_102 => ?_) (fun c_102 => ?_)
                · refine G_aload_4 (nx := 109) ⟨dX9_behindToken_107, rfl⟩ ?_
                  refine G_iload_5 (nx := 111) ⟨dX9_behindToken_109, rfl⟩ ?_
                  refine G_bipush (nx := 113) ⟨dX9_behindToken_111, rfl⟩ cb_48 ?_
                  refine G_isub (nx := 114) ⟨dX9_behindToken_113, rfl⟩ ?_
                  refine G_cvv1 (nx := 117) ⟨dX9_behindToken_114, rfl⟩ kX9_58 rfl hT.1 rfl (Nat.le_of_ble_eq_true rfl) (Nat.le_of_ble_eq_true rfl) (cT_lastWeighs hT ⟨h5, hm60⟩ hmp ?_)
                  refine G_iconst (nx := 118) ⟨dX9_behindToken_117, rfl⟩ ci_3 ?_
                  refine G_iret ⟨dX9_behindToken_118, rfl⟩ rfl ?_
                  have h1 : ¬ 1 < rn tp t 48 57 (t - P) P - P := by
                    have : eT tp t P - P = 1 := nI_inj (by omega) (by omega) c_95
                    rw [← heD]
                    omega
                  refine hk 3 _ (Or.inr ⟨(rn tp t 48 57 (t - P) P, s.at0, s.dp, 0, s.m, s.ks, upd s.ws s.at0.toNatClampNeg (tp P - 48), s.is), ?_, ?_, heD.symm, ?_, CR_wt ho (by omega) (by omega) (by omega) hV hls hC _, sb.rf.w (by simp [fTp]; omega)⟩)
                  · unfold stp
                    rw [hP, if_neg hPne, if_neg hnl, if_pos c_78, if_neg]
                    rintro (h | h | h)
                    · omega
                    · exact h1 h
                    · exact c_102 h
                  · unfold cmI
                    rw [if_neg (by show ¬ s.dp = 0; omega), if_neg (by show ¬ 0 = 2; decide), if_neg (by show ¬ 0 = 1; decide)]
                  · exact ⟨by rw [heD] at heb; exact heb.2, hm60, hd20, hCH, fun h => absurd h (by show ¬ 1 ≤ 0; decide), by show 0 ≤ 2; decide⟩
                · refine G_iconst (nx := 106) ⟨dX9_behindToken_105, rfl⟩ ci_5 ?_
                  refine G_iret ⟨dX9_behindToken_106, rfl⟩ rfl ?_
                  refine hk 5 I (Or.inl ⟨rfl, rfl, ?_⟩)
                  unfold stp
                  rw [hP, if_neg hPne, if_neg hnl, if_pos c_78, if_pos (Or.inr (Or.inr c_102))]
      · refine G_iload_1 (nx := 45) ⟨dX9_behindToken_44, rfl⟩ ?_
        refine G_iconst (nx := 46) ⟨dX9_behindToken_45, rfl⟩ ci_1 ?_
        refine G_icmpne (tgt := 73) (nx := 49) ⟨dX9_behindToken_46, rfl⟩ rfl (fun c_46 => ?_) (fun c_46 => ?_)
        · refine G_iload_5 (nx := 75) ⟨dX9_behindToken_73, rfl⟩ ?_
          refine G_cs1 (nx := 78) ⟨dX9_behindToken_75, rfl⟩ kX9_40 rfl rfl (Nat.le_of_ble_eq_true rfl) (Nat.le_of_ble_eq_true rfl) (cA_isDigit ?_)
          refine G_ifeq (tgt := 119) (nx := 81) ⟨dX9_behindToken_78, rfl⟩ rfl (fun c_78 => ?_) (fun c_78 => ?_)
          · refine G_iconst (nx := 120) ⟨dX9_behindToken_119, rfl⟩ ci_5 ?_
            refine G_iret ⟨dX9_behindToken_120, rfl⟩ rfl ?_
            rw [bi_n0] at c_41
            have hl2 : s.ls < 2 := by
              have h6 := hV.2.2.2.2.2
              have : ¬ s.ls = 2 := fun h => c_46 ((cm_1 hV).mpr h)
              omega
            refine hk 5 I (Or.inl ⟨rfl, rfl, ?_⟩)
            unfold stp
            rw [hP, if_neg hPne, if_pos c_41, if_pos (Or.inl hl2)]
          · exact (let_dig (bi_n0.mp c_41) (bi_n0.mp c_78)).elim
        · rw [bi_n0] at c_41
          have heL : eT tp t P = rn tp t 97 122 (t - P) P := by unfold eT; rw [if_pos c_41]
          have hls2 := (cm_1 hV).mp c_46
          have hdp := hV.2.2.2.2.1 (by omega)
          have hmp := TV_m hV hdp
          refine G_aload_0 (nx := 50) ⟨dX9_behindToken_49, rfl⟩ ?_
          refine G_iload_2 (nx := 51) ⟨dX9_behindToken_50, rfl⟩ ?_
          refine G_iload_3 (nx := 52) ⟨dX9_behindToken_51, rfl⟩ ?_
          refine G_cv2 (nx := 55) ⟨dX9_behindToken_52, rfl⟩ kX9_50 rfl q_42 rfl (Nat.le_of_ble_eq_true rfl) (Nat.le_of_ble_eq_true rfl) (cA_kindOf (by omega) (by omega) ?_)
          rw [h2, heL]
          refine G_istore_6 (nx := 57) ⟨dX9_behindToken_55, rfl⟩ rfl rfl ?_
          refine G_iload_6 (nx := 59) ⟨dX9_behindToken_57, rfl⟩ ?_
          refine G_ifge (tgt := 64) (nx := 62) ⟨dX9_behindToken_59, rfl⟩ rfl (fun c_59 => ?_) (fun c_59 => ?_)
          · refine G_aload_4 (nx := 66) ⟨dX9_behindToken_64, rfl⟩ ?_
            refine G_iload_6 (nx := 68) ⟨dX9_behindToken_66, rfl⟩ ?_
            refine G_cvv1 (nx := 71) ⟨dX9_behindToken_68, rfl⟩ kX9_54 rfl hT.1 rfl (Nat.le_of_ble_eq_true rfl) (Nat.le_of_ble_eq_true rfl) (cT_lastIsOf hT ⟨h5, hm60⟩ hmp ?_)
            refine G_iconst (nx := 72) ⟨dX9_behindToken_71, rfl⟩ ci_2 ?_
            refine G_iret ⟨dX9_behindToken_72, rfl⟩ rfl ?_
            have hkm : ¬ kdI tp P (rn tp t 97 122 (t - P) P) = -1 := fun h => by rw [h] at c_59; exact absurd c_59 (by decide)
            refine hk 2 _ (Or.inr ⟨(rn tp t 97 122 (t - P) P, s.at0, s.dp, 1, s.m, upd s.ks s.at0.toNatClampNeg (kdI tp P (rn tp t 97 122 (t - P) P)), s.ws, s.is), ?_, ?_, heL.symm, ?_, CR_kind ho (by omega) (by omega) (by omega) hV (by omega) hC _, sb.rf.w (by simp [fTp]; omega)⟩)
            · unfold stp
              rw [hP, if_neg hPne, if_pos c_41, if_neg (fun h => h.elim (fun h => absurd h (by omega)) hkm)]
            · unfold cmI
              rw [if_neg (by show ¬ s.dp = 0; omega), if_neg (by show ¬ 1 = 2; decide), if_pos rfl]
            · exact ⟨by rw [heL] at heb; exact heb.2, hm60, hd20, hCH, fun _ => hdp, by show 1 ≤ 2; decide⟩
          · refine G_iconst (nx := 63) ⟨dX9_behindToken_62, rfl⟩ ci_5 ?_
            refine G_iret ⟨dX9_behindToken_63, rfl⟩ rfl ?_
            have hkm : kdI tp P (rn tp t 97 122 (t - P) P) = -1 := (kd_n _ _ _).resolve_right c_59
            refine hk 5 I (Or.inl ⟨rfl, rfl, ?_⟩)
            unfold stp
            rw [hP, if_neg hPne, if_pos c_41, if_pos (Or.inr hkm)]
    · refine G_aload_0 (nx := 31) ⟨dX9_behindToken_30, rfl⟩ ?_
      refine G_iload_1 (nx := 32) ⟨dX9_behindToken_31, rfl⟩ ?_
      refine G_cv1 (nx := 35) ⟨dX9_behindToken_32, rfl⟩ kX9_47 rfl q_42 rfl (Nat.le_of_ble_eq_true rfl) (Nat.le_of_ble_eq_true rfl) (cA_close hV hC.2.2.1 ?_)
      refine G_iret ⟨dX9_behindToken_35, rfl⟩ rfl ?_
      have hnl : ¬ inR (tp P) 97 122 = true := by rw [c_27]; decide
      have hnd : ¬ inR (tp P) 48 57 = true := by rw [c_27]; decide
      have h40 : ¬ tp P = 40 := by rw [c_27]; decide
      have heP : eT tp t P = P + 1 := by unfold eT; rw [if_neg hnl, if_neg hnd]
      by_cases h0 : s.dp = 0
      · rw [if_pos h0, if_pos h0]
        refine hk 5 I (Or.inl ⟨rfl, rfl, ?_⟩)
        unfold stp
        rw [hP, if_neg hPne, if_neg hnl, if_neg hnd, if_neg h40, if_pos c_27, if_pos h0]
      · rw [if_neg h0, if_neg h0]
        have hmp := TV_m hV (by omega)
        obtain ⟨x, ex, hx, hx2⟩ := CH_ex hCH (by omega)
        refine hk _ _ (Or.inr ⟨(P + 1, s.is s.at0.toNatClampNeg, s.dp - 1, 0, s.m, s.ks, s.ws, s.is), ?_, ?_, heP.symm, ?_, CR_close ho (by omega) (by omega) (by omega) (by omega) hC _, sb.rf.w (by simp [fTp])⟩)
        · unfold stp
          rw [hP, if_neg hPne, if_neg hnl, if_neg hnd, if_neg h40, if_pos c_27, if_neg h0]
        · unfold cmI
          show _ = if s.dp - 1 = 0 then (if s.m = 0 then (0 : Int32) else 4) else if 0 = 2 then 1 else if 0 = 1 then 2 else 3
          by_cases h1 : s.dp = 1
          · rw [if_pos h1, if_pos (by omega), if_neg (by omega)]
          · rw [if_neg h1, if_neg (by omega), if_neg (by decide), if_neg (by decide)]
        · refine ⟨by show P + 1 ≤ t; omega, hm60, by show s.dp - 1 ≤ 20; omega, ?_, fun h => absurd h (Nat.not_succ_le_zero 0), by show 0 ≤ 2; decide⟩
          show CH s.is s.m (s.dp - 1) (s.is s.at0.toNatClampNeg)
          rw [ex, cl_nI (by omega)]
          exact hx2
  · refine G_aload_0 (nx := 16) ⟨dX9_behindToken_15, rfl⟩ ?_
    refine G_iload_1 (nx := 17) ⟨dX9_behindToken_16, rfl⟩ ?_
    refine G_aload_4 (nx := 19) ⟨dX9_behindToken_17, rfl⟩ ?_
    refine G_cv2 (nx := 22) ⟨dX9_behindToken_19, rfl⟩ kX9_43 rfl q_42 rfl (Nat.le_of_ble_eq_true rfl) (Nat.le_of_ble_eq_true rfl) (cA_open hT ho hV hC ?_)
    refine G_iret ⟨dX9_behindToken_22, rfl⟩ rfl ?_
    have hnl : ¬ inR (tp P) 97 122 = true := by rw [c_12]; decide
    have hnd : ¬ inR (tp P) 48 57 = true := by rw [c_12]; decide
    have heP : eT tp t P = P + 1 := by unfold eT; rw [if_neg hnl, if_neg hnd]
    by_cases hb : opB s = true
    · rw [if_pos hb, if_pos hb]
      refine hk 5 I (Or.inl ⟨rfl, rfl, ?_⟩)
      unfold stp
      rw [hP, if_neg hPne, if_neg hnl, if_neg hnd, if_pos c_12, if_pos (of_decide_eq_true hb)]
    · rw [if_neg hb, if_neg hb]
      have hb' : ¬ ((s.dp = 0 ∧ 0 < s.m) ∨ s.dp = 20 ∨ s.m = 60) := fun h => hb (decide_eq_true h)
      refine hk 1 _ (Or.inr ⟨(P + 1, nI s.m, s.dp + 1, 2, s.m + 1, upd s.ks s.m 0, upd s.ws s.m 1, upd s.is s.m s.at0), ?_, ?_, heP.symm, ?_, CR_open ho (by omega) (by omega) (by omega) hV hC _, ?_⟩)
      · unfold stp
        rw [hP, if_neg hPne, if_neg hnl, if_neg hnd, if_pos c_12, if_neg hb']
      · unfold cmI
        rw [if_neg (Nat.succ_ne_zero _), if_pos rfl]
      · refine ⟨by show P + 1 ≤ t; omega, by show s.m + 1 ≤ 60; omega, by show s.dp + 1 ≤ 20; omega, ⟨s.m, rfl, Nat.lt_succ_self _, ?_⟩, fun _ => Nat.succ_le_succ (Nat.zero_le _), Nat.le_refl _⟩
        have : upd s.is s.m s.at0 s.m = s.at0 := by simp [upd]
        show CH (upd s.is s.m s.at0) (s.m + 1) s.dp (upd s.is s.m s.at0 s.m)
        rw [this]
        exact CH_up _ _ hCH
      · exact ((addI_sb I (by omega) (by omega) (by omega) _ _).w (by simp [fTp])).w (by simp [fTp])

theorem lA_fault {t : Nat} {tp : Nat → Int32} {o a b c e f j1 j2 j3 : Nat} (hT : TT o a b c e f j1 j2 j3) (ho : o = 57 ∨ o = 66) (ht2 : t ≤ 200) : ∀ (k : Nat) (f : Nat) (s : TS) (p0 sp : Nat) (I1 : AI) (x5 : Value), t - p0 = k → notL x5 = true → s.p ≤ p0 → p0 ≤ t → rn tp t 32 32 (t - s.p) s.p = rn tp t 32 32 (t - p0) p0 → sp ≤ p0 → t - s.p < f → TV t s → CR I1 tp t o a b c s → sb (fTp o) I I1 → (∀ (I' : AI), ((ft tp t f s).1 = -1 ∨ ∃ q, q ≤ 200 ∧ (ft tp t f s).1 = nI q) → TV t (ft tp t f s).2 → CR I' tp t o a b c (ft tp t f s).2 → sb (fTp o) I I' → K (.int (ft tp t f s).1) I' J (rX g)) → G l (d + 7) mX9_fault K 17 [.ref 42, .ref o, .int (cmI s), .int (nI p0), .int (nI sp), x5] [] I1 J (rX g) := by
  intro k
  induction k using Nat.strongRecOn with
  | _ k ih =>
  intro f s p0 sp I1 x5 hpk hx5 hsp hp0 hrn hspp hf hV hC hs1 hk
  obtain ⟨f, rfl⟩ : ∃ f', f = f' + 1 := ⟨f - 1, by omega⟩
  have h3 : I1 42 3 = nI t := hC.1
  have h2 : I1 43 = tp := hC.2.1
  refine G_iload_4 (nx := 19) ⟨dX9_fault_17, rfl⟩ ?_
  refine G_sipush (nx := 22) ⟨dX9_fault_19, rfl⟩ cs_200 ?_
  refine G_icmpge (tgt := 77) (nx := 25) ⟨dX9_fault_22, rfl⟩ rfl (fun c_22 => ?_) (fun c_22 => ?_)
  · refine G_iload_2 (nx := 78) ⟨dX9_fault_77, rfl⟩ ?_
    refine G_iconst (nx := 79) ⟨dX9_fault_78, rfl⟩ ci_4 ?_
    refine G_icmpne (tgt := 86) (nx := 82) ⟨dX9_fault_79, rfl⟩ rfl (fun c_79 => ?_) (fun c_79 => ?_)
    · refine G_aload_0 (nx := 87) ⟨dX9_fault_86, rfl⟩ ?_
      refine G_geti (nx := 90) (k := 42) ⟨dX9_fault_87, rfl⟩ fX9_22 q_42 yi_9_3 ?_
      try rw [h3]
      refine G_iret ⟨dX9_fault_90, rfl⟩ rfl ?_
      have hpt : p0 = t := by
        have := (nI_le_iff (a := 200) (b := sp) (by omega) (by omega)).mp c_22
        omega
      have hst : stp tp t s = .inl (if 0 < s.m ∧ s.dp = 0 then -1 else nI t) := by
        unfold stp
        rw [if_pos (by rw [hrn, hpt]; exact rn_stop (fun h => by omega) _)]
      rw [ft_inl hst] at hk
      have h4 : ¬ (0 < s.m ∧ s.dp = 0) := fun h => c_79 (cm_4.mpr ⟨h.2, h.1⟩)
      have hkk := hk I1 (Or.inr ⟨t, by omega, if_neg h4⟩) hV hC hs1
      rw [if_neg h4] at hkk
      exact hkk
    · refine G_iconst (nx := 83) ⟨dX9_fault_82, rfl⟩ ci_m1 ?_
      refine G_goto (tgt := 90) ⟨dX9_fault_83, rfl⟩ rfl ?_
      try rw [h3]
      refine G_iret ⟨dX9_fault_90, rfl⟩ rfl ?_
      have hpt : p0 = t := by
        have := (nI_le_iff (a := 200) (b := sp) (by omega) (by omega)).mp c_22
        omega
      have hst : stp tp t s = .inl (if 0 < s.m ∧ s.dp = 0 then -1 else nI t) := by
        unfold stp
        rw [if_pos (by rw [hrn, hpt]; exact rn_stop (fun h => by omega) _)]
      rw [ft_inl hst] at hk
      have h4 := cm_4.mp c_79
      have hkk := hk I1 (Or.inl (if_pos ⟨h4.2, h4.1⟩)) hV hC hs1
      rw [if_pos ⟨h4.2, h4.1⟩] at hkk
      exact hkk
  · refine G_iload_3 (nx := 26) ⟨dX9_fault_25, rfl⟩ ?_
    refine G_aload_0 (nx := 27) ⟨dX9_fault_26, rfl⟩ ?_
    refine G_geti (nx := 30) (k := 42) ⟨dX9_fault_27, rfl⟩ fX9_22 q_42 yi_9_3 ?_
    rw [h3]
    refine G_icmpge (tgt := 77) (nx := 33) ⟨dX9_fault_30, rfl⟩ rfl (fun c_30 => ?_) (fun c_30 => ?_)
    · refine G_iload_2 (nx := 78) ⟨dX9_fault_77, rfl⟩ ?_
      refine G_iconst (nx := 79) ⟨dX9_fault_78, rfl⟩ ci_4 ?_
      refine G_icmpne (tgt := 86) (nx := 82) ⟨dX9_fault_79, rfl⟩ rfl (fun c_79 => ?_) (fun c_79 => ?_)
      · refine G_aload_0 (nx := 87) ⟨dX9_fault_86, rfl⟩ ?_
        refine G_geti (nx := 90) (k := 42) ⟨dX9_fault_87, rfl⟩ fX9_22 q_42 yi_9_3 ?_
        try rw [h3]
        refine G_iret ⟨dX9_fault_90, rfl⟩ rfl ?_
        have hpt : p0 = t := by
          have := (nI_le_iff (a := t) (b := p0) (by omega) (by omega)).mp c_30
          omega
        have hst : stp tp t s = .inl (if 0 < s.m ∧ s.dp = 0 then -1 else nI t) := by
          unfold stp
          rw [if_pos (by rw [hrn, hpt]; exact rn_stop (fun h => by omega) _)]
        rw [ft_inl hst] at hk
        have h4 : ¬ (0 < s.m ∧ s.dp = 0) := fun h => c_79 (cm_4.mpr ⟨h.2, h.1⟩)
        have hkk := hk I1 (Or.inr ⟨t, by omega, if_neg h4⟩) hV hC hs1
        rw [if_neg h4] at hkk
        exact hkk
      · refine G_iconst (nx := 83) ⟨dX9_fault_82, rfl⟩ ci_m1 ?_
        refine G_goto (tgt := 90) ⟨dX9_fault_83, rfl⟩ rfl ?_
        try rw [h3]
        refine G_iret ⟨dX9_fault_90, rfl⟩ rfl ?_
        have hpt : p0 = t := by
          have := (nI_le_iff (a := t) (b := p0) (by omega) (by omega)).mp c_30
          omega
        have hst : stp tp t s = .inl (if 0 < s.m ∧ s.dp = 0 then -1 else nI t) := by
          unfold stp
          rw [if_pos (by rw [hrn, hpt]; exact rn_stop (fun h => by omega) _)]
        rw [ft_inl hst] at hk
        have h4 := cm_4.mp c_79
        have hkk := hk I1 (Or.inl (if_pos ⟨h4.2, h4.1⟩)) hV hC hs1
        rw [if_pos ⟨h4.2, h4.1⟩] at hkk
        exact hkk
    · have hpt : p0 < t := by
        have := mt (nI_le_iff (a := t) (b := p0) (by omega) (by omega)).mpr c_30
        omega
      have heb := eT_b (tp := tp) hpt
      refine G_aload_0 (nx := 34) ⟨dX9_fault_33, rfl⟩ ?_
      refine G_iload_3 (nx := 35) ⟨dX9_fault_34, rfl⟩ ?_
      refine G_cv1 (nx := 38) ⟨dX9_fault_35, rfl⟩ kX9_28 rfl q_42 rfl (Nat.le_of_ble_eq_true rfl) (Nat.le_of_ble_eq_true rfl) (cA_end h3 ht2 hpt ?_)
      rw [h2]
      refine G_istore_5 (nx := 40) ⟨dX9_fault_38, rfl⟩ rfl rfl ?_
      refine G_aload_0 (nx := 41) ⟨dX9_fault_40, rfl⟩ ?_
      refine G_getr (nx := 44) (k := 42) (r := 43) ⟨dX9_fault_41, rfl⟩ fX9_9 q_42 yr_9_0 (r_42_0 _) ?_
      refine G_iload_3 (nx := 45) ⟨dX9_fault_44, rfl⟩ ?_
      refine G_iald (nx := 46) (k := 43) ⟨dX9_fault_45, rfl⟩ q_43 (by exact in200 (by omega)) ?_
      rw [cl_nI (by omega), h2]
      refine G_bipush (nx := 48) ⟨dX9_fault_46, rfl⟩ cb_32 ?_
      refine G_icmpeq (tgt := 61) (nx := 51) ⟨dX9_fault_48, rfl⟩ rfl (fun c_48 => ?_) (fun c_48 => ?_)
      · refine G_iload_2 (nx := 62) ⟨dX9_fault_61, rfl⟩ ?_
        refine G_iconst (nx := 63) ⟨dX9_fault_62, rfl⟩ ci_5 ?_
        refine G_icmpne (tgt := 68) (nx := 66) ⟨dX9_fault_63, rfl⟩ rfl (fun c_63 => ?_) (fun c_63 => ?_)
        · refine G_iload_5 (nx := 70) ⟨dX9_fault_68, rfl⟩ ?_
          refine G_istore_3 (nx := 71) ⟨dX9_fault_70, rfl⟩ rfl rfl ?_
          refine G_iinc_4 (nx := 74) ⟨dX9_fault_71, rfl⟩ ci_1 rfl ?_
          refine G_goto (tgt := 17) ⟨dX9_fault_74, rfl⟩ rfl ?_
          have heP : eT tp t p0 = p0 + 1 := by
            unfold eT
            rw [if_neg (by rw [c_48]; decide), if_neg (by rw [c_48]; decide)]
          rw [heP, nI_1]
          refine ih (t - (p0 + 1)) (by omega) (f + 1) s (p0 + 1) (sp + 1) I1 _ rfl rfl (by omega) (by omega) ?_ (by omega) hf hV hC hs1 hk
          rw [hrn, rn_next (by omega) (by rw [c_48]; decide)]
        · refine G_iload_3 (nx := 67) ⟨dX9_fault_66, rfl⟩ ?_
          refine G_iret ⟨dX9_fault_67, rfl⟩ rfl ?_
          exact absurd c_63 (cm_5 s)
      · have hnsp : rn tp t 32 32 (t - s.p) s.p = p0 := by
          rw [hrn]
          refine rn_stop (fun h => c_48 ?_) _
          have := h.2
          simp only [inR, decide_eq_true_eq] at this
          exact Int32.le_antisymm this.2 this.1
        refine G_aload_0 (nx := 52) ⟨dX9_fault_51, rfl⟩ ?_
        refine G_iload_2 (nx := 53) ⟨dX9_fault_52, rfl⟩ ?_
        refine G_iload_3 (nx := 54) ⟨dX9_fault_53, rfl⟩ ?_
        refine G_iload_5 (nx := 56) ⟨dX9_fault_54, rfl⟩ ?_
        refine G_aload_1 (nx := 57) ⟨dX9_fault_56, rfl⟩ ?_
        refine G_cv4 (nx := 60) ⟨dX9_fault_57, rfl⟩ kX9_32 rfl q_42 rfl (Nat.le_of_ble_eq_true rfl) (Nat.le_of_ble_eq_true rfl) (cA_token hT ho ht2 hV hC hnsp hpt (fun r I2 hb => ?_))
        refine G_istore_2 (nx := 61) ⟨dX9_fault_60, rfl⟩ rfl rfl ?_
        refine G_iload_2 (nx := 62) ⟨dX9_fault_61, rfl⟩ ?_
        refine G_iconst (nx := 63) ⟨dX9_fault_62, rfl⟩ ci_5 ?_
        refine G_icmpne (tgt := 68) (nx := 66) ⟨dX9_fault_63, rfl⟩ rfl (fun c_63 => ?_) (fun c_63 => ?_)
        · refine G_iload_5 (nx := 70) ⟨dX9_fault_68, rfl⟩ ?_
          refine G_istore_3 (nx := 71) ⟨dX9_fault_70, rfl⟩ rfl rfl ?_
          refine G_iinc_4 (nx := 74) ⟨dX9_fault_71, rfl⟩ ci_1 rfl ?_
          refine G_goto (tgt := 17) ⟨dX9_fault_74, rfl⟩ rfl ?_
          rcases hb with ⟨e1, e2, e3⟩ | ⟨s', e1, e2, e3, e4, e5, e6⟩
          · exact absurd e1 c_63
          rw [e2, ← e3, nI_1]
          rw [ft_inr e1] at hk
          refine ih (t - s'.p) (by rw [e3]; omega) f s' s'.p (sp + 1) I2 _ rfl rfl (Nat.le_refl _) e4.1 rfl (by rw [e3]; omega) (by rw [e3]; omega) e4 e5 (hs1.tr e6) hk
        · refine G_iload_3 (nx := 67) ⟨dX9_fault_66, rfl⟩ ?_
          refine G_iret ⟨dX9_fault_67, rfl⟩ rfl ?_
          rcases hb with ⟨e1, e2, e3⟩ | ⟨s', e1, e2, -⟩
          · rw [ft_inl e3] at hk
            rw [e2]
            exact hk I1 (Or.inr ⟨p0, by omega, rfl⟩) hV hC hs1
          · exact absurd (e2 ▸ c_63) (cm_5 s')

theorem cA_fault {t : Nat} {o a b c e f j1 j2 j3 : Nat} (hT : TT o a b c e f j1 j2 j3) (ho : o = 57 ∨ o = 66) (ht2 : t ≤ 200) (ht : I 42 3 = nI t) (hk : ∀ (I' : AI), ((ft (I 43) t (t + 1) (0, -1, 0, 0, 0, I a, I b, I c)).1 = -1 ∨ ∃ q, q ≤ 200 ∧ (ft (I 43) t (t + 1) (0, -1, 0, 0, 0, I a, I b, I c)).1 = nI q) → TV t (ft (I 43) t (t + 1) (0, -1, 0, 0, 0, I a, I b, I c)).2 → CR I' (I 43) t o a b c (ft (I 43) t (t + 1) (0, -1, 0, 0, 0, I a, I b, I c)).2 → sb (fTp o) I I' → K (.int (ft (I 43) t (t + 1) (0, -1, 0, 0, 0, I a, I b, I c)).1) I' J (rX g)) : G l (d + 7) mX9_fault K 0 [.ref 42, .ref o, UU, UU, UU, UU] [] I J (rX g) := by
  have hab := hT.2.2.2.2.2.2.2.2.2.2
  refine G_iconst (nx := 1) ⟨dX9_fault_0, rfl⟩ ci_0 ?_
  refine G_istore_2 (nx := 2) ⟨dX9_fault_1, rfl⟩ rfl rfl ?_
  refine G_iconst (nx := 3) ⟨dX9_fault_2, rfl⟩ ci_0 ?_
  refine G_istore_3 (nx := 4) ⟨dX9_fault_3, rfl⟩ rfl rfl ?_
  refine G_aload_1 (nx := 5) ⟨dX9_fault_4, rfl⟩ ?_
  refine G_iconst (nx := 6) ⟨dX9_fault_5, rfl⟩ ci_0 ?_
  refine G_puti (nx := 9) (k := o) ⟨dX9_fault_6, rfl⟩ pX9_25 hT.1 yt_10_8 ?_
  refine G_aload_0 (nx := 10) ⟨dX9_fault_9, rfl⟩ ?_
  refine G_iconst (nx := 11) ⟨dX9_fault_10, rfl⟩ ci_0 ?_
  refine G_puti (nx := 14) (k := 42) ⟨dX9_fault_11, rfl⟩ pX9_18 q_42 yt_9_2 ?_
  refine G_iconst (nx := 15) ⟨dX9_fault_14, rfl⟩ ci_0 ?_
  refine G_istore_4 (nx := 17) ⟨dX9_fault_15, rfl⟩ rfl rfl ?_
  refine lA_fault hT ho ht2 _ (t + 1) (0, -1, 0, 0, 0, I a, I b, I c) 0 0 _ UU rfl rfl (Nat.le_refl _) (by omega) rfl (Nat.le_refl _) (by show t - 0 < t + 1; omega) (TV_0 t _ _ _) ?_ ((sb.rf.w (by simp [fTp])).w (by simp [fTp])) hk
  refine ⟨?_, ?_, w2_at _ _ _ _, trivial, ?_, ?_, ?_, ?_, fun h => absurd h (Nat.not_succ_le_zero 0)⟩
  · rw [w2_ne _ _ _ _ (by decide), w2_row _ _ _ _ (by omega)]; exact ht
  · rw [w2_row _ _ _ _ (by decide), w2_row _ _ _ _ (by omega)]
  · rw [w2_row _ _ _ _ (by omega)]; exact w2_at _ _ _ _
  · rw [w2_row _ _ _ _ (by omega), w2_row _ _ _ _ (by omega)]
  · rw [w2_row _ _ _ _ (by omega), w2_row _ _ _ _ (by omega)]
  · rw [w2_row _ _ _ _ (by omega), w2_row _ _ _ _ (by omega)]

theorem rX0 (g : Bool) : ∀ j, ¬ j = 12 → ¬ j = 13 → rX g 0 j = rX (!g) 0 j := by
  intro j h1 h2
  match j, h1, h2 with
  | 0, h1, h2 => cases g <;> rfl
  | 1, h1, h2 => cases g <;> rfl
  | 2, h1, h2 => cases g <;> rfl
  | 3, h1, h2 => cases g <;> rfl
  | 4, h1, h2 => cases g <;> rfl
  | 5, h1, h2 => cases g <;> rfl
  | 6, h1, h2 => cases g <;> rfl
  | 7, h1, h2 => cases g <;> rfl
  | 8, h1, h2 => cases g <;> rfl
  | 9, h1, h2 => cases g <;> rfl
  | 10, h1, h2 => cases g <;> rfl
  | 11, h1, h2 => cases g <;> rfl
  | 12, h1, h2 => exact absurd rfl h1
  | 13, h1, h2 => exact absurd rfl h2
  | j + 14, _, _ => cases g <;> rfl
theorem rX_sw {g : Bool} {o o1 : Nat} (hs : rX g 0 13 = some o) (hg : rX g 0 12 = some o1) : w2 (w2 (rX g) 0 12 (some o)) 0 13 (some o1) = rX (!g) := by
  funext k j
  by_cases hk : k = 0
  · subst hk
    by_cases h1 : j = 13
    · subst h1
      rw [w2_at, ← hg]
      cases g <;> rfl
    · rw [w2_ne _ _ _ _ (by omega)]
      by_cases h2 : j = 12
      · subst h2
        rw [w2_at, ← hs]
        cases g <;> rfl
      · rw [w2_ne _ _ _ _ (by omega)]
        exact rX0 g j h2 h1
  · rw [w2_row _ _ _ _ hk, w2_row _ _ _ _ hk]
    obtain ⟨k, rfl⟩ : ∃ k', k = k' + 1 := ⟨k - 1, by omega⟩
    cases g <;> rfl
theorem cX_text {t o1 a1 b1 c1 e1 f1 i1 i2 i3 : Nat} {o a b c e f j1 j2 j3 : Nat} (hT : TT o a b c e f j1 j2 j3) (hT1 : TT o1 a1 b1 c1 e1 f1 i1 i2 i3) (hs : rX g 0 13 = some o) (hg : rX g 0 12 = some o1) (ho : o = 57 ∨ o = 66) (ht2 : t ≤ 200) (ht : I 42 3 = nI t) (hk1 : ∀ (I' : AI), ¬ (ft (I 43) t (t + 1) (0, -1, 0, 0, 0, I a, I b, I c)).1 = -1 → sb (fTp o) I I' → K (.int (-100 - (ft (I 43) t (t + 1) (0, -1, 0, 0, 0, I a, I b, I c)).1)) (w2 I' 42 3 0) J (rX g)) (hk : ∀ (I' : AI), (ft (I 43) t (t + 1) (0, -1, 0, 0, 0, I a, I b, I c)).1 = -1 → TV t (ft (I 43) t (t + 1) (0, -1, 0, 0, 0, I a, I b, I c)).2 → CR I' (I 43) t o a b c (ft (I 43) t (t + 1) (0, -1, 0, 0, 0, I a, I b, I c)).2 → sb (fTp o) I I' → rX (!g) 0 12 = some o → K (.int (nI (ft (I 43) t (t + 1) (0, -1, 0, 0, 0, I a, I b, I c)).2.m)) (w2 I' 42 3 0) J (rX (!g))) : G l (d + 40) mX11_text K 0 [.ref 0, UU, UU] [] I J (rX g) := by
  have hg2 : rX (!g) 0 12 = some o := by rw [← hs]; cases g <;> rfl
  refine G_aload_0 (nx := 1) ⟨dX11_text_0, rfl⟩ ?_
  refine G_getr (nx := 4) (k := 0) (r := 42) ⟨dX11_text_1, rfl⟩ fX11_69 q_0 yr_11_9 (r_0_9 _) ?_
  refine G_aload_0 (nx := 5) ⟨dX11_text_4, rfl⟩ ?_
  refine G_getr (nx := 8) (k := 0) (r := o) ⟨dX11_text_5, rfl⟩ fX11_94 q_0 yr_11_13 hs ?_
  refine G_cv1 (nx := 11) ⟨dX11_text_8, rfl⟩ kX11_391 rfl q_42 rfl (Nat.le_of_ble_eq_true rfl) (Nat.le_of_ble_eq_true rfl) (cA_fault (d := d + 32) hT ho ht2 ht (fun I1 hr hV hC hs1 => ?_))
  refine G_istore_1 (nx := 12) ⟨dX11_text_11, rfl⟩ rfl rfl ?_
  refine G_aload_0 (nx := 13) ⟨dX11_text_12, rfl⟩ ?_
  refine G_getr (nx := 16) (k := 0) (r := 42) ⟨dX11_text_13, rfl⟩ fX11_69 q_0 yr_11_9 (r_0_9 _) ?_
  refine G_iconst (nx := 17) ⟨dX11_text_16, rfl⟩ ci_0 ?_
  refine G_puti (nx := 20) (k := 42) ⟨dX11_text_17, rfl⟩ pX11_164 q_42 yt_9_3 ?_
  refine G_iload_1 (nx := 21) ⟨dX11_text_20, rfl⟩ ?_
  refine G_iflt (tgt := 29) (nx := 24) ⟨dX11_text_21, rfl⟩ rfl (fun c_21 => ?_) (fun c_21 => ?_)
  · refine G_aload_0 (nx := 30) ⟨dX11_text_29, rfl⟩ ?_
    refine G_getr (nx := 33) (k := 0) (r := o1) ⟨dX11_text_30, rfl⟩ fX11_90 q_0 yr_11_12 hg ?_
    refine G_astore_2 (nx := 34) ⟨dX11_text_33, rfl⟩ rfl rfl ?_
    refine G_aload_0 (nx := 35) ⟨dX11_text_34, rfl⟩ ?_
    refine G_aload_0 (nx := 36) ⟨dX11_text_35, rfl⟩ ?_
    refine G_getr (nx := 39) (k := 0) (r := o) ⟨dX11_text_36, rfl⟩ fX11_94 q_0 yr_11_13 hs ?_
    refine G_putr (nx := 42) (k := 0) ⟨dX11_text_39, rfl⟩ pX11_90 q_0 yt_11_12 ?_
    refine G_aload_0 (nx := 43) ⟨dX11_text_42, rfl⟩ ?_
    refine G_aload_2 (nx := 44) ⟨dX11_text_43, rfl⟩ ?_
    refine G_putr (nx := 47) (k := 0) ⟨dX11_text_44, rfl⟩ pX11_94 q_0 yt_11_13 ?_
    rw [rX_sw hs hg]
    refine G_aload_0 (nx := 48) ⟨dX11_text_47, rfl⟩ ?_
    refine G_getr (nx := 51) (k := 0) (r := o) ⟨dX11_text_48, rfl⟩ fX11_90 q_0 yr_11_12 hg2 ?_
    skip
    refine G_geti (nx := 54) (k := o) ⟨dX11_text_51, rfl⟩ fX11_165 hT.1 yi_10_8 ?_
    rw [w2_row _ _ _ _ (show ¬ o = 42 by omega), hC.2.2.2.2.1]
    refine G_iret ⟨dX11_text_54, rfl⟩ rfl ?_
    have hm1 : (ft (I 43) t (t + 1) (0, -1, 0, 0, 0, I a, I b, I c)).1 = -1 := by
      rcases hr with h | ⟨q, hq, h⟩
      · exact h
      · rw [h] at c_21
        exact absurd ((nI_lt_iff (b := 0) (by omega) (by omega)).mp c_21) (by omega)
    exact hk I1 hm1 hV hC hs1 hg2
  · refine G_bipush (nx := 26) ⟨dX11_text_24, rfl⟩ cb_m100 ?_
    refine G_iload_1 (nx := 27) ⟨dX11_text_26, rfl⟩ ?_
    refine G_isub (nx := 28) ⟨dX11_text_27, rfl⟩ ?_
    refine G_iret ⟨dX11_text_28, rfl⟩ rfl ?_
    refine hk1 I1 (fun h => c_21 ?_) hs1
    rw [h]
    decide

end X9K
