
def ukB : Nat → Int32 → Int32 → Bool
  | 0, _, _ => false
  | f + 1, x, q => if inR x 0 5 = false then false else if x = q then true else ukB f (kab x.toNatClampNeg) q
theorem inR1012 {q : Int32} (h : inR q 10 12 = true) : q = 10 ∨ q = 11 ∨ q = 12 := by
  rw [inR_iff, show (10 : Int32).toInt = 10 by decide, show (12 : Int32).toInt = 12 by decide] at h
  rcases (show q.toInt = 10 ∨ q.toInt = 11 ∨ q.toInt = 12 by omega) with e | e | e
  · exact Or.inl (Int32.toInt_inj.mp e)
  · exact Or.inr (Or.inl (Int32.toInt_inj.mp e))
  · exact Or.inr (Or.inr (Int32.toInt_inj.mp e))
theorem uk_tk {x q : Int32} (hx : inR x 0 5 = true) (hq : (inR q 0 5 || inR q 10 12) = true) : (inR q 10 12 = false ∧ ukB 6 x q = true) ↔ tkB 5 x q = true := by
  rw [Bool.or_eq_true] at hq
  have hq' : q = 0 ∨ q = 1 ∨ q = 2 ∨ q = 3 ∨ q = 4 ∨ q = 5 ∨ q = 10 ∨ q = 11 ∨ q = 12 := by
    rcases hq with h | h
    · rcases inR05 h with e | e | e | e | e | e <;> simp [e]
    · rcases inR1012 h with e | e | e <;> simp [e]
  rcases inR05 hx with rfl | rfl | rfl | rfl | rfl | rfl <;> rcases hq' with rfl | rfl | rfl | rfl | rfl | rfl | rfl | rfl | rfl <;> decide
section X9L
variable {l : Launch} {d : Nat} {K : AK} {I : AI} {J : AJ} {g : Bool} {n : Nat} {gr : Nat → Nat}
theorem lX_under {q : Int32} : ∀ (f j : Nat) (x y : Int32), j + f = 6 → (K (.int (bi (ukB f x q))) I J (rX g)) → G l (d + 2) mX11_isUnderOrLike K 4 [.int y, .int q, .int x, .int (nI j)] [] I J (rX g) := by
  intro f
  induction f with
  | zero =>
    intro j x y hf hk
    refine G_iload_3 (nx := 5) ⟨dX11_isUnderOrLike_4, rfl⟩ ?_
    refine G_bipush (nx := 7) ⟨dX11_isUnderOrLike_5, rfl⟩ cb_6 ?_
    refine G_icmpge (tgt := 36) (nx := 10) ⟨dX11_isUnderOrLike_7, rfl⟩ rfl (fun c_7 => ?_) (fun c_7 => ?_)
    · refine G_iconst (nx := 37) ⟨dX11_isUnderOrLike_36, rfl⟩ ci_0 ?_
      refine G_zret ⟨dX11_isUnderOrLike_37, rfl⟩ rfl (by first | assumption | decide | exact bi_01 _) ?_
      exact hk
    · exact absurd ((nI_le_iff (a := 6) (b := j) (by omega) (by omega)).mpr (by omega)) c_7

  | succ f ih =>
    intro j x y hf hk
    unfold ukB at hk
    refine G_iload_3 (nx := 5) ⟨dX11_isUnderOrLike_4, rfl⟩ ?_
    refine G_bipush (nx := 7) ⟨dX11_isUnderOrLike_5, rfl⟩ cb_6 ?_
    refine G_icmpge (tgt := 36) (nx := 10) ⟨dX11_isUnderOrLike_7, rfl⟩ rfl (fun c_7 => ?_) (fun c_7 => ?_)
    · exact absurd ((nI_le_iff (a := 6) (b := j) (by omega) (by omega)).mp c_7) (by omega)
    · refine G_iload_2 (nx := 11) ⟨dX11_isUnderOrLike_10, rfl⟩ ?_
      refine G_cs1 (nx := 14) ⟨dX11_isUnderOrLike_11, rfl⟩ kX11_108 rfl rfl (Nat.le_of_ble_eq_true rfl) (Nat.le_of_ble_eq_true rfl) (cX_isKind ?_)
      refine G_ifeq (tgt := 36) (nx := 17) ⟨dX11_isUnderOrLike_14, rfl⟩ rfl (fun c_14 => ?_) (fun c_14 => ?_)
      · refine G_iconst (nx := 37) ⟨dX11_isUnderOrLike_36, rfl⟩ ci_0 ?_
        refine G_zret ⟨dX11_isUnderOrLike_37, rfl⟩ rfl (by first | assumption | decide | exact bi_01 _) ?_
        rw [bi_0] at c_14
        rw [if_pos c_14] at hk
        exact hk
      · rw [bi_n0] at c_14
        rw [if_neg (by rw [c_14]; decide)] at hk
        refine G_iload_2 (nx := 18) ⟨dX11_isUnderOrLike_17, rfl⟩ ?_
        refine G_iload_1 (nx := 19) ⟨dX11_isUnderOrLike_18, rfl⟩ ?_
        refine G_icmpne (tgt := 24) (nx := 22) ⟨dX11_isUnderOrLike_19, rfl⟩ rfl (fun c_19 => ?_) (fun c_19 => ?_)
        · refine G_gsKA (nx := 27) ⟨dX11_isUnderOrLike_24, rfl⟩ gsX11_470 ?_
          refine G_iload_2 (nx := 28) ⟨dX11_isUnderOrLike_27, rfl⟩ ?_
          refine G_kald (nx := 29) ⟨dX11_isUnderOrLike_28, rfl⟩ (by rcases inR05 c_14 with rfl | rfl | rfl | rfl | rfl | rfl <;> (unfold vp_in; decide)) ?_
          refine G_istore_2 (nx := 30) ⟨dX11_isUnderOrLike_29, rfl⟩ rfl rfl ?_
          refine G_iinc_3 (nx := 33) ⟨dX11_isUnderOrLike_30, rfl⟩ ci_1 rfl ?_
          refine G_goto (tgt := 4) ⟨dX11_isUnderOrLike_33, rfl⟩ rfl ?_
          rw [nI_1]
          rw [if_neg c_19] at hk
          exact ih (j + 1) _ y (by omega) hk
        · refine G_iconst (nx := 23) ⟨dX11_isUnderOrLike_22, rfl⟩ ci_1 ?_
          refine G_zret ⟨dX11_isUnderOrLike_23, rfl⟩ rfl (by first | assumption | decide | exact bi_01 _) ?_
          rw [if_pos c_19] at hk
          exact hk

theorem cX_under {x q : Int32} (hk : K (.int (bi (ukB 6 x q))) I J (rX g)) : G l (d + 2) mX11_isUnderOrLike K 0 [.int x, .int q, UU, UU] [] I J (rX g) := by
  refine G_iload_0 (nx := 1) ⟨dX11_isUnderOrLike_0, rfl⟩ ?_
  refine G_istore_2 (nx := 2) ⟨dX11_isUnderOrLike_1, rfl⟩ rfl rfl ?_
  refine G_iconst (nx := 3) ⟨dX11_isUnderOrLike_2, rfl⟩ ci_0 ?_
  refine G_istore_3 (nx := 4) ⟨dX11_isUnderOrLike_3, rfl⟩ rfl rfl ?_
  exact lX_under 6 0 x x rfl hk

theorem cX_taken {h q : Int32} (hX : XG I 1 4 n gr) (hk1 : (inR h 0 3 && (inR q 0 5 || inR q 10 12)) = false → K (.int (-2)) I J (rX g)) (hk2 : ∀ h0, h = nI h0 → h0 < 4 → (inR q 0 5 || inR q 10 12) = true → ¬ I 54 h0 = 2 → (I 54 h0 = 0 ∨ ptB n (I 56 h0) = false) → K (.int (-11)) I J (rX g)) (hk3 : ∀ h0, h = nI h0 → h0 < 4 → (inR q 0 5 || inR q 10 12) = true → I 54 h0 = 2 → K (.int (if inR q 10 12 = true ∧ I 55 h0 = q - 10 then I 56 h0 else -13)) I J (rX g)) (hk4 : ∀ h0 p0, h = nI h0 → h0 < 4 → (inR q 0 5 || inR q 10 12) = true → ¬ I 54 h0 = 2 → ¬ I 54 h0 = 0 → I 56 h0 = nI p0 → p0 < n → K (.int (if inR q 10 12 = false ∧ ukB 6 (I 2 p0) q = true then I 56 h0 else -13)) I J (rX g)) : G l (d + 40) mX11_taken K 0 [.ref 0, .int h, .int q, UU, UU] [] I J (rX g) := by
  have hn := hX.2.1
  refine G_iload_2 (nx := 1) ⟨dX11_taken_0, rfl⟩ ?_
  refine G_bipush (nx := 3) ⟨dX11_taken_1, rfl⟩ cb_10 ?_
  refine G_bipush (nx := 5) ⟨dX11_taken_3, rfl⟩ cb_12 ?_
  refine G_cs3 (nx := 8) ⟨dX11_taken_5, rfl⟩ kX11_126 rfl rfl (Nat.le_of_ble_eq_true rfl) (Nat.le_of_ble_eq_true rfl) (cX_within ?_)
  refine G_istore_3 (nx := 9) ⟨dX11_taken_8, rfl⟩ rfl rfl ?_
  refine G_aload_0 (nx := 10) ⟨dX11_taken_9, rfl⟩ ?_
  refine G_getr (nx := 13) (k := 0) (r := 53) ⟨dX11_taken_10, rfl⟩ fX11_83 q_0 yr_11_11 (r_0_11 _) ?_
  refine G_iload_1 (nx := 14) ⟨dX11_taken_13, rfl⟩ ?_
  refine G_cv1 (nx := 17) ⟨dX11_taken_14, rfl⟩ kX11_449 rfl q_53 rfl (Nat.le_of_ble_eq_true rfl) (Nat.le_of_ble_eq_true rfl) (cV_has ?_)
  refine G_ifeq (tgt := 31) (nx := 20) ⟨dX11_taken_17, rfl⟩ rfl (fun c_17 => ?_) (fun c_17 => ?_)
  · refine G_bipush (nx := 33) ⟨dX11_taken_31, rfl⟩ cb_m2 ?_
    refine G_iret ⟨dX11_taken_33, rfl⟩ rfl ?_
    rw [bi_0] at c_17
    exact hk1 (by rw [c_17]; rfl)
  · refine G_iload_2 (nx := 21) ⟨dX11_taken_20, rfl⟩ ?_
    refine G_cs1 (nx := 24) ⟨dX11_taken_21, rfl⟩ kX11_108 rfl rfl (Nat.le_of_ble_eq_true rfl) (Nat.le_of_ble_eq_true rfl) (cX_isKind ?_)
    refine G_ifne (tgt := 34) (nx := 27) ⟨dX11_taken_24, rfl⟩ rfl (fun c_24 => ?_) (fun c_24 => ?_)
    · rw [bi_n0] at c_17
      have hqq : (inR q 0 5 || inR q 10 12) = true := by
        first
          | (rw [bi_n0.mp c_24]; rfl)
          | (rw [bi_n0.mp c_28]; exact Bool.or_true _)
      obtain ⟨h0, rfl, h04⟩ : ∃ h0, h = nI h0 ∧ h0 < 4 := by
        rcases inR03 c_17 with e | e | e | e
        · exact ⟨0, e, by decide⟩
        · exact ⟨1, e, by decide⟩
        · exact ⟨2, e, by decide⟩
        · exact ⟨3, e, by decide⟩
      have hin4 : vp_in (nI h0) 4 := vp_in_nI h04 (by omega)
      refine G_aload_0 (nx := 35) ⟨dX11_taken_34, rfl⟩ ?_
      refine G_getr (nx := 38) (k := 0) (r := 53) ⟨dX11_taken_35, rfl⟩ fX11_83 q_0 yr_11_11 (r_0_11 _) ?_
      refine G_getr (nx := 41) (k := 53) (r := 56) ⟨dX11_taken_38, rfl⟩ fX11_460 q_53 yr_8_2 (r_53_2 _) ?_
      refine G_iload_1 (nx := 42) ⟨dX11_taken_41, rfl⟩ ?_
      refine G_iald (nx := 43) (k := 56) ⟨dX11_taken_42, rfl⟩ q_56 (by exact hin4) ?_
      rw [cl_nI (by omega)]
      refine G_istore_4 (nx := 45) ⟨dX11_taken_43, rfl⟩ rfl rfl ?_
      refine G_aload_0 (nx := 46) ⟨dX11_taken_45, rfl⟩ ?_
      refine G_getr (nx := 49) (k := 0) (r := 53) ⟨dX11_taken_46, rfl⟩ fX11_83 q_0 yr_11_11 (r_0_11 _) ?_
      refine G_getr (nx := 52) (k := 53) (r := 54) ⟨dX11_taken_49, rfl⟩ fX11_463 q_53 yr_8_0 (r_53_0 _) ?_
      refine G_iload_1 (nx := 53) ⟨dX11_taken_52, rfl⟩ ?_
      refine G_iald (nx := 54) (k := 54) ⟨dX11_taken_53, rfl⟩ q_54 (by exact hin4) ?_
      rw [cl_nI (by omega)]
      refine G_iconst (nx := 55) ⟨dX11_taken_54, rfl⟩ ci_2 ?_
      refine G_icmpne (tgt := 86) (nx := 58) ⟨dX11_taken_55, rfl⟩ rfl (fun c_55 => ?_) (fun c_55 => ?_)
      · refine G_aload_0 (nx := 87) ⟨dX11_taken_86, rfl⟩ ?_
        refine G_getr (nx := 90) (k := 0) (r := 53) ⟨dX11_taken_87, rfl⟩ fX11_83 q_0 yr_11_11 (r_0_11 _) ?_
        refine G_getr (nx := 93) (k := 53) (r := 54) ⟨dX11_taken_90, rfl⟩ fX11_463 q_53 yr_8_0 (r_53_0 _) ?_
        refine G_iload_1 (nx := 94) ⟨dX11_taken_93, rfl⟩ ?_
        refine G_iald (nx := 95) (k := 54) ⟨dX11_taken_94, rfl⟩ q_54 (by exact hin4) ?_
        rw [cl_nI (by omega)]
        refine G_ifeq (tgt := 110) (nx := 98) ⟨dX11_taken_95, rfl⟩ rfl (fun c_95 => ?_) (fun c_95 => ?_)
        · refine G_bipush (nx := 112) ⟨dX11_taken_110, rfl⟩ cb_m11 ?_
          refine G_iret ⟨dX11_taken_112, rfl⟩ rfl ?_
          exact hk2 h0 rfl h04 hqq c_55 (Or.inl c_95)
        · refine G_aload_0 (nx := 99) ⟨dX11_taken_98, rfl⟩ ?_
          refine G_getr (nx := 102) (k := 0) (r := 1) ⟨dX11_taken_99, rfl⟩ fX11_10 q_0 yr_11_0 (r_0_0 _) ?_
          refine G_iload_4 (nx := 104) ⟨dX11_taken_102, rfl⟩ ?_
          refine G_cv1 (nx := 107) ⟨dX11_taken_104, rfl⟩ kX11_137 rfl q_1 rfl (Nat.le_of_ble_eq_true rfl) (Nat.le_of_ble_eq_true rfl) (cN_has nt1 hX ?_)
          refine G_ifne (tgt := 113) (nx := 110) ⟨dX11_taken_107, rfl⟩ rfl (fun c_107 => ?_) (fun c_107 => ?_)
          · rw [bi_n0] at c_107
            obtain ⟨p0, hp0, ep⟩ := ptB_ex (by omega) c_107
            refine G_iload_3 (nx := 114) ⟨dX11_taken_113, rfl⟩ ?_
            refine G_ifne (tgt := 139) (nx := 117) ⟨dX11_taken_114, rfl⟩ rfl (fun c_114 => ?_) (fun c_114 => ?_)
            · refine G_bipush (nx := 141) ⟨dX11_taken_139, rfl⟩ cb_m13 ?_
              refine G_iret ⟨dX11_taken_141, rfl⟩ rfl ?_
              rw [bi_n0] at c_114
              have hkk := hk4 h0 p0 rfl h04 hqq c_55 c_95 ep hp0
              rw [if_neg (fun h => by rw [c_114] at h; exact absurd h.1 (by decide))] at hkk
              exact hkk
            · refine G_aload_0 (nx := 118) ⟨dX11_taken_117, rfl⟩ ?_
              refine G_getr (nx := 121) (k := 0) (r := 1) ⟨dX11_taken_118, rfl⟩ fX11_10 q_0 yr_11_0 (r_0_0 _) ?_
              refine G_getr (nx := 124) (k := 1) (r := 2) ⟨dX11_taken_121, rfl⟩ fX11_140 q_1 yr_4_0 (r_1_0 _) ?_
              rw [ep]
              refine G_iload_4 (nx := 126) ⟨dX11_taken_124, rfl⟩ ?_
              refine G_iald (nx := 127) (k := 2) ⟨dX11_taken_126, rfl⟩ q_2 (by exact vp_in_nI (show p0 < 12 by omega) (by omega)) ?_
              rw [cl_nI (by omega)]
              refine G_iload_2 (nx := 128) ⟨dX11_taken_127, rfl⟩ ?_
              refine G_cs2 (nx := 131) ⟨dX11_taken_128, rfl⟩ kX11_467 rfl rfl (Nat.le_of_ble_eq_true rfl) (Nat.le_of_ble_eq_true rfl) (cX_under ?_)
              refine G_ifeq (tgt := 139) (nx := 134) ⟨dX11_taken_131, rfl⟩ rfl (fun c_131 => ?_) (fun c_131 => ?_)
              · refine G_bipush (nx := 141) ⟨dX11_taken_139, rfl⟩ cb_m13 ?_
                refine G_iret ⟨dX11_taken_141, rfl⟩ rfl ?_
                rw [bi_0] at c_131
                have hkk := hk4 h0 p0 rfl h04 hqq c_55 c_95 ep hp0
                rw [if_neg (fun h => by rw [c_131] at h; exact absurd h.2 (by decide))] at hkk
                exact hkk
              · refine G_iload_4 (nx := 136) ⟨dX11_taken_134, rfl⟩ ?_
                refine G_goto (tgt := 141) ⟨dX11_taken_136, rfl⟩ rfl ?_
                refine G_iret ⟨dX11_taken_141, rfl⟩ rfl ?_
                rw [bi_0] at c_114
                rw [bi_n0] at c_131
                have hkk := hk4 h0 p0 rfl h04 hqq c_55 c_95 ep hp0
                rw [if_pos ⟨c_114, c_131⟩] at hkk
                rw [← ep]
                exact hkk
          · refine G_bipush (nx := 112) ⟨dX11_taken_110, rfl⟩ cb_m11 ?_
            refine G_iret ⟨dX11_taken_112, rfl⟩ rfl ?_
            rw [bi_0] at c_107
            exact hk2 h0 rfl h04 hqq c_55 (Or.inr c_107)
      · refine G_iload_3 (nx := 59) ⟨dX11_taken_58, rfl⟩ ?_
        refine G_ifeq (tgt := 83) (nx := 62) ⟨dX11_taken_59, rfl⟩ rfl (fun c_59 => ?_) (fun c_59 => ?_)
        · refine G_bipush (nx := 85) ⟨dX11_taken_83, rfl⟩ cb_m13 ?_
          refine G_iret ⟨dX11_taken_85, rfl⟩ rfl ?_
          rw [bi_0] at c_59
          have hkk := hk3 h0 rfl h04 hqq c_55
          rw [if_neg (fun h => by rw [c_59] at h; exact absurd h.1 (by decide))] at hkk
          exact hkk
        · refine G_aload_0 (nx := 63) ⟨dX11_taken_62, rfl⟩ ?_
          refine G_getr (nx := 66) (k := 0) (r := 53) ⟨dX11_taken_63, rfl⟩ fX11_83 q_0 yr_11_11 (r_0_11 _) ?_
          refine G_getr (nx := 69) (k := 53) (r := 55) ⟨dX11_taken_66, rfl⟩ fX11_466 q_53 yr_8_1 (r_53_1 _) ?_
          refine G_iload_1 (nx := 70) ⟨dX11_taken_69, rfl⟩ ?_
          refine G_iald (nx := 71) (k := 55) ⟨dX11_taken_70, rfl⟩ q_55 (by exact hin4) ?_
          rw [cl_nI (by omega)]
          refine G_iload_2 (nx := 72) ⟨dX11_taken_71, rfl⟩ ?_
          refine G_bipush (nx := 74) ⟨dX11_taken_72, rfl⟩ cb_10 ?_
          refine G_isub (nx := 75) ⟨dX11_taken_74, rfl⟩ ?_
          refine G_icmpne (tgt := 83) (nx := 78) ⟨dX11_taken_75, rfl⟩ rfl (fun c_75 => ?_) (fun c_75 => ?_)
          · refine G_bipush (nx := 85) ⟨dX11_taken_83, rfl⟩ cb_m13 ?_
            refine G_iret ⟨dX11_taken_85, rfl⟩ rfl ?_
            have hkk := hk3 h0 rfl h04 hqq c_55
            rw [if_neg (fun h => c_75 h.2)] at hkk
            exact hkk
          · refine G_iload_4 (nx := 80) ⟨dX11_taken_78, rfl⟩ ?_
            refine G_goto (tgt := 85) ⟨dX11_taken_80, rfl⟩ rfl ?_
            refine G_iret ⟨dX11_taken_85, rfl⟩ rfl ?_
            rw [bi_n0] at c_59
            have hkk := hk3 h0 rfl h04 hqq c_55
            rw [if_pos ⟨c_59, c_75⟩] at hkk
            exact hkk
    · refine G_iload_3 (nx := 28) ⟨dX11_taken_27, rfl⟩ ?_
      refine G_ifne (tgt := 34) (nx := 31) ⟨dX11_taken_28, rfl⟩ rfl (fun c_28 => ?_) (fun c_28 => ?_)
      · rw [bi_n0] at c_17
        have hqq : (inR q 0 5 || inR q 10 12) = true := by
          first
            | (rw [bi_n0.mp c_24]; rfl)
            | (rw [bi_n0.mp c_28]; exact Bool.or_true _)
        obtain ⟨h0, rfl, h04⟩ : ∃ h0, h = nI h0 ∧ h0 < 4 := by
          rcases inR03 c_17 with e | e | e | e
          · exact ⟨0, e, by decide⟩
          · exact ⟨1, e, by decide⟩
          · exact ⟨2, e, by decide⟩
          · exact ⟨3, e, by decide⟩
        have hin4 : vp_in (nI h0) 4 := vp_in_nI h04 (by omega)
        refine G_aload_0 (nx := 35) ⟨dX11_taken_34, rfl⟩ ?_
        refine G_getr (nx := 38) (k := 0) (r := 53) ⟨dX11_taken_35, rfl⟩ fX11_83 q_0 yr_11_11 (r_0_11 _) ?_
        refine G_getr (nx := 41) (k := 53) (r := 56) ⟨dX11_taken_38, rfl⟩ fX11_460 q_53 yr_8_2 (r_53_2 _) ?_
        refine G_iload_1 (nx := 42) ⟨dX11_taken_41, rfl⟩ ?_
        refine G_iald (nx := 43) (k := 56) ⟨dX11_taken_42, rfl⟩ q_56 (by exact hin4) ?_
        rw [cl_nI (by omega)]
        refine G_istore_4 (nx := 45) ⟨dX11_taken_43, rfl⟩ rfl rfl ?_
        refine G_aload_0 (nx := 46) ⟨dX11_taken_45, rfl⟩ ?_
        refine G_getr (nx := 49) (k := 0) (r := 53) ⟨dX11_taken_46, rfl⟩ fX11_83 q_0 yr_11_11 (r_0_11 _) ?_
        refine G_getr (nx := 52) (k := 53) (r := 54) ⟨dX11_taken_49, rfl⟩ fX11_463 q_53 yr_8_0 (r_53_0 _) ?_
        refine G_iload_1 (nx := 53) ⟨dX11_taken_52, rfl⟩ ?_
        refine G_iald (nx := 54) (k := 54) ⟨dX11_taken_53, rfl⟩ q_54 (by exact hin4) ?_
        rw [cl_nI (by omega)]
        refine G_iconst (nx := 55) ⟨dX11_taken_54, rfl⟩ ci_2 ?_
        refine G_icmpne (tgt := 86) (nx := 58) ⟨dX11_taken_55, rfl⟩ rfl (fun c_55 => ?_) (fun c_55 => ?_)
        · refine G_aload_0 (nx := 87) ⟨dX11_taken_86, rfl⟩ ?_
          refine G_getr (nx := 90) (k := 0) (r := 53) ⟨dX11_taken_87, rfl⟩ fX11_83 q_0 yr_11_11 (r_0_11 _) ?_
          refine G_getr (nx := 93) (k := 53) (r := 54) ⟨dX11_taken_90, rfl⟩ fX11_463 q_53 yr_8_0 (r_53_0 _) ?_
          refine G_iload_1 (nx := 94) ⟨dX11_taken_93, rfl⟩ ?_
          refine G_iald (nx := 95) (k := 54) ⟨dX11_taken_94, rfl⟩ q_54 (by exact hin4) ?_
          rw [cl_nI (by omega)]
          refine G_ifeq (tgt := 110) (nx := 98) ⟨dX11_taken_95, rfl⟩ rfl (fun c_95 => ?_) (fun c_95 => ?_)
          · refine G_bipush (nx := 112) ⟨dX11_taken_110, rfl⟩ cb_m11 ?_
            refine G_iret ⟨dX11_taken_112, rfl⟩ rfl ?_
            exact hk2 h0 rfl h04 hqq c_55 (Or.inl c_95)
          · refine G_aload_0 (nx := 99) ⟨dX11_taken_98, rfl⟩ ?_
            refine G_getr (nx := 102) (k := 0) (r := 1) ⟨dX11_taken_99, rfl⟩ fX11_10 q_0 yr_11_0 (r_0_0 _) ?_
            refine G_iload_4 (nx := 104) ⟨dX11_taken_102, rfl⟩ ?_
            refine G_cv1 (nx := 107) ⟨dX11_taken_104, rfl⟩ kX11_137 rfl q_1 rfl (Nat.le_of_ble_eq_true rfl) (Nat.le_of_ble_eq_true rfl) (cN_has nt1 hX ?_)
            refine G_ifne (tgt := 113) (nx := 110) ⟨dX11_taken_107, rfl⟩ rfl (fun c_107 => ?_) (fun c_107 => ?_)
            · rw [bi_n0] at c_107
              obtain ⟨p0, hp0, ep⟩ := ptB_ex (by omega) c_107
              refine G_iload_3 (nx := 114) ⟨dX11_taken_113, rfl⟩ ?_
              refine G_ifne (tgt := 139) (nx := 117) ⟨dX11_taken_114, rfl⟩ rfl (fun c_114 => ?_) (fun c_114 => ?_)
              · refine G_bipush (nx := 141) ⟨dX11_taken_139, rfl⟩ cb_m13 ?_
                refine G_iret ⟨dX11_taken_141, rfl⟩ rfl ?_
                rw [bi_n0] at c_114
                have hkk := hk4 h0 p0 rfl h04 hqq c_55 c_95 ep hp0
                rw [if_neg (fun h => by rw [c_114] at h; exact absurd h.1 (by decide))] at hkk
                exact hkk
              · refine G_aload_0 (nx := 118) ⟨dX11_taken_117, rfl⟩ ?_
                refine G_getr (nx := 121) (k := 0) (r := 1) ⟨dX11_taken_118, rfl⟩ fX11_10 q_0 yr_11_0 (r_0_0 _) ?_
                refine G_getr (nx := 124) (k := 1) (r := 2) ⟨dX11_taken_121, rfl⟩ fX11_140 q_1 yr_4_0 (r_1_0 _) ?_
                rw [ep]
                refine G_iload_4 (nx := 126) ⟨dX11_taken_124, rfl⟩ ?_
                refine G_iald (nx := 127) (k := 2) ⟨dX11_taken_126, rfl⟩ q_2 (by exact vp_in_nI (show p0 < 12 by omega) (by omega)) ?_
                rw [cl_nI (by omega)]
                refine G_iload_2 (nx := 128) ⟨dX11_taken_127, rfl⟩ ?_
                refine G_cs2 (nx := 131) ⟨dX11_taken_128, rfl⟩ kX11_467 rfl rfl (Nat.le_of_ble_eq_true rfl) (Nat.le_of_ble_eq_true rfl) (cX_under ?_)
                refine G_ifeq (tgt := 139) (nx := 134) ⟨dX11_taken_131, rfl⟩ rfl (fun c_131 => ?_) (fun c_131 => ?_)
                · refine G_bipush (nx := 141) ⟨dX11_taken_139, rfl⟩ cb_m13 ?_
                  refine G_iret ⟨dX11_taken_141, rfl⟩ rfl ?_
                  rw [bi_0] at c_131
                  have hkk := hk4 h0 p0 rfl h04 hqq c_55 c_95 ep hp0
                  rw [if_neg (fun h => by rw [c_131] at h; exact absurd h.2 (by decide))] at hkk
                  exact hkk
                · refine G_iload_4 (nx := 136) ⟨dX11_taken_134, rfl⟩ ?_
                  refine G_goto (tgt := 141) ⟨dX11_taken_136, rfl⟩ rfl ?_
                  refine G_iret ⟨dX11_taken_141, rfl⟩ rfl ?_
                  rw [bi_0] at c_114
                  rw [bi_n0] at c_131
                  have hkk := hk4 h0 p0 rfl h04 hqq c_55 c_95 ep hp0
                  rw [if_pos ⟨c_114, c_131⟩] at hkk
                  rw [← ep]
                  exact hkk
            · refine G_bipush (nx := 112) ⟨dX11_taken_110, rfl⟩ cb_m11 ?_
              refine G_iret ⟨dX11_taken_112, rfl⟩ rfl ?_
              rw [bi_0] at c_107
              exact hk2 h0 rfl h04 hqq c_55 (Or.inr c_107)
        · refine G_iload_3 (nx := 59) ⟨dX11_taken_58, rfl⟩ ?_
          refine G_ifeq (tgt := 83) (nx := 62) ⟨dX11_taken_59, rfl⟩ rfl (fun c_59 => ?_) (fun c_59 => ?_)
          · refine G_bipush (nx := 85) ⟨dX11_taken_83, rfl⟩ cb_m13 ?_
            refine G_iret ⟨dX11_taken_85, rfl⟩ rfl ?_
            rw [bi_0] at c_59
            have hkk := hk3 h0 rfl h04 hqq c_55
            rw [if_neg (fun h => by rw [c_59] at h; exact absurd h.1 (by decide))] at hkk
            exact hkk
          · refine G_aload_0 (nx := 63) ⟨dX11_taken_62, rfl⟩ ?_
            refine G_getr (nx := 66) (k := 0) (r := 53) ⟨dX11_taken_63, rfl⟩ fX11_83 q_0 yr_11_11 (r_0_11 _) ?_
            refine G_getr (nx := 69) (k := 53) (r := 55) ⟨dX11_taken_66, rfl⟩ fX11_466 q_53 yr_8_1 (r_53_1 _) ?_
            refine G_iload_1 (nx := 70) ⟨dX11_taken_69, rfl⟩ ?_
            refine G_iald (nx := 71) (k := 55) ⟨dX11_taken_70, rfl⟩ q_55 (by exact hin4) ?_
            rw [cl_nI (by omega)]
            refine G_iload_2 (nx := 72) ⟨dX11_taken_71, rfl⟩ ?_
            refine G_bipush (nx := 74) ⟨dX11_taken_72, rfl⟩ cb_10 ?_
            refine G_isub (nx := 75) ⟨dX11_taken_74, rfl⟩ ?_
            refine G_icmpne (tgt := 83) (nx := 78) ⟨dX11_taken_75, rfl⟩ rfl (fun c_75 => ?_) (fun c_75 => ?_)
            · refine G_bipush (nx := 85) ⟨dX11_taken_83, rfl⟩ cb_m13 ?_
              refine G_iret ⟨dX11_taken_85, rfl⟩ rfl ?_
              have hkk := hk3 h0 rfl h04 hqq c_55
              rw [if_neg (fun h => c_75 h.2)] at hkk
              exact hkk
            · refine G_iload_4 (nx := 80) ⟨dX11_taken_78, rfl⟩ ?_
              refine G_goto (tgt := 85) ⟨dX11_taken_80, rfl⟩ rfl ?_
              refine G_iret ⟨dX11_taken_85, rfl⟩ rfl ?_
              rw [bi_n0] at c_59
              have hkk := hk3 h0 rfl h04 hqq c_55
              rw [if_pos ⟨c_59, c_75⟩] at hkk
              exact hkk
      · refine G_bipush (nx := 33) ⟨dX11_taken_31, rfl⟩ cb_m2 ?_
        refine G_iret ⟨dX11_taken_33, rfl⟩ rfl ?_
        rw [bi_0] at c_24 c_28
        exact hk1 (by rw [c_24, c_28, Bool.or_false, Bool.and_false])

end X9L
