
theorem rn_in {tp : Nat → Int32} {t : Nat} {a b : Int32} : ∀ k p j, p ≤ j → j < rn tp t a b k p → inR (tp j) a b = true ∧ j < t := by
  intro k
  induction k with
  | zero => intro p j h1 h2; unfold rn at h2; omega
  | succ k ih =>
    intro p j h1 h2
    unfold rn at h2
    split at h2
    · rename_i h
      rw [Bool.and_eq_true, decide_eq_true_eq] at h
      by_cases e : j = p
      · subst e
        exact ⟨h.2, h.1⟩
      · exact ih (p + 1) j (by omega) h2
    · omega
section XA5m
variable {l : Launch} {d : Nat} {K : AK} {I : AI} {J : AJ} {g : Bool} {n : Nat} {gr : Nat → Nat}
theorem cM_proves2 {s k : Int32} (hG : MG I n gr) (hsz : ∀ s, s < 4 → ∃ z, z ≤ 60 ∧ I 104 s = nI z) (hk1 : (inR s 0 3 && inR k 0 12) = false → K (.int (-2)) I J (rX g)) (hk2 : ∀ s0 k0, s = nI s0 → s0 < 4 → k = nI k0 → k0 ≤ 12 → I 103 s0 = -1 → K (.int (-11)) I J (rX g)) (hk : ∀ (s0 k0 z : Nat) (I' : AI), s = nI s0 → s0 < 4 → k = nI k0 → k0 ≤ 12 → ¬ I 103 s0 = -1 → I 104 s0 = nI z → z ≤ 60 → sb fI I I' → K (.int (if (rd n gr (fun j => I 105 (60 * s0 + j)) z 13 (2 ^ n - 1) k0 0 0).1 = true ∧ (rd n gr (fun j => I 105 (60 * s0 + j)) z 13 (2 ^ n - 1) k0 0 0).2 = z then 0 else nI (1 + (rd n gr (fun j => I 105 (60 * s0 + j)) z 13 (2 ^ n - 1) k0 0 0).2))) I' J (rX g)) : G l (d + 28) mX12_proves K 0 [.ref 75, .int s, .int k] [] I J (rX g) := by
  have hpl := pc_le (2 ^ n - 1)
  refine G_iload_1 (nx := 1) ⟨dX12_proves_0, rfl⟩ ?_
  refine G_cs1 (nx := 4) ⟨dX12_proves_1, rfl⟩ kX12_253 rfl rfl (Nat.le_of_ble_eq_true rfl) (Nat.le_of_ble_eq_true rfl) (cM_isSheet ?_)
  refine G_ifeq (tgt := 17) (nx := 7) ⟨dX12_proves_4, rfl⟩ rfl (fun c_4 => ?_) (fun c_4 => ?_)
  · refine G_bipush (nx := 19) ⟨dX12_proves_17, rfl⟩ cb_m2 ?_
    refine G_iret ⟨dX12_proves_19, rfl⟩ rfl ?_
    rw [bi_0] at c_4
    exact hk1 (by simp [c_4])
  · rw [bi_n0] at c_4
    refine G_iload_2 (nx := 8) ⟨dX12_proves_7, rfl⟩ ?_
    refine G_iconst (nx := 9) ⟨dX12_proves_8, rfl⟩ ci_0 ?_
    refine G_bipush (nx := 11) ⟨dX12_proves_9, rfl⟩ cb_12 ?_
    refine G_cs3 (nx := 14) ⟨dX12_proves_11, rfl⟩ kX12_125 rfl rfl (Nat.le_of_ble_eq_true rfl) (Nat.le_of_ble_eq_true rfl) (cM_in ?_)
    refine G_ifne (tgt := 20) (nx := 17) ⟨dX12_proves_14, rfl⟩ rfl (fun c_14 => ?_) (fun c_14 => ?_)
    · rw [bi_n0] at c_14
      obtain ⟨s0, hs0, es⟩ := s_ex c_4
      subst es
      obtain ⟨k0, hk0, ek⟩ := k_ex c_14
      subst ek
      have hin4 := in4 hs0
      have ecs := cl_nI (p := s0) (by omega)
      obtain ⟨z, hz60, hz⟩ := hsz s0 hs0
      refine G_aload_0 (nx := 21) ⟨dX12_proves_20, rfl⟩ ?_
      refine G_getr (nx := 24) (k := 75) (r := 103) ⟨dX12_proves_21, rfl⟩ fX12_97 q_75 yr_12_43 (r_75_43 _) ?_
      refine G_iload_1 (nx := 25) ⟨dX12_proves_24, rfl⟩ ?_
      refine G_iald (nx := 26) (k := 103) ⟨dX12_proves_25, rfl⟩ q_103 (by first | assumption | decide | (unfold vp_in; decide)) ?_
      rw [ecs]
      refine G_iconst (nx := 27) ⟨dX12_proves_26, rfl⟩ ci_m1 ?_
      refine G_icmpne (tgt := 33) (nx := 30) ⟨dX12_proves_27, rfl⟩ rfl (fun c_27 => ?_) (fun c_27 => ?_)
      · refine G_aload_0 (nx := 34) ⟨dX12_proves_33, rfl⟩ ?_
        refine G_iconst (nx := 35) ⟨dX12_proves_34, rfl⟩ ci_0 ?_
        refine G_puti (nx := 38) (k := 75) ⟨dX12_proves_35, rfl⟩ pX12_280 q_75 yt_12_22 ?_
        refine G_aload_0 (nx := 39) ⟨dX12_proves_38, rfl⟩ ?_
        refine G_iload_1 (nx := 40) ⟨dX12_proves_39, rfl⟩ ?_
        refine G_aload_0 (nx := 41) ⟨dX12_proves_40, rfl⟩ ?_
        refine G_cv0 (nx := 44) ⟨dX12_proves_41, rfl⟩ kX12_129 rfl q_75 rfl (Nat.le_of_ble_eq_true rfl) (Nat.le_of_ble_eq_true rfl) (cM_all (hG.w (by decide) (by decide)) ?_)
        refine G_iload_2 (nx := 45) ⟨dX12_proves_44, rfl⟩ ?_
        refine G_iconst (nx := 46) ⟨dX12_proves_45, rfl⟩ ci_0 ?_
        rw [← iI_nat k0, show (0 : Int32) = nI 0 from nI_0.symm]
        refine G_cv4 (nx := 49) ⟨dX12_proves_46, rfl⟩ kX12_283 rfl q_75 rfl (Nat.le_of_ble_eq_true rfl) (Nat.le_of_ble_eq_true rfl) (cM_isTold (d := d) (row := fun j => I 105 (60 * s0 + j)) hs0 hz60 13 _ _ (2 ^ n - 1) k0 0 0 (hG.w (by decide) (by decide)) (by rw [w2_row _ _ _ _ (show ¬ 104 = 75 by decide)]; exact hz) (fun j hj => by rw [w2_row _ _ _ _ (show ¬ 105 = 75 by decide)]) (allLt n) (by omega) (by omega) (by omega) (by omega) (w2_at _ _ _ _) (by omega) (fun I1 h22 h60 hs1 => ?_))
        refine G_ifeq (tgt := 69) (nx := 52) ⟨dX12_proves_49, rfl⟩ rfl (fun c_49 => ?_) (fun c_49 => ?_)
        · refine G_iconst (nx := 70) ⟨dX12_proves_69, rfl⟩ ci_1 ?_
          refine G_aload_0 (nx := 71) ⟨dX12_proves_70, rfl⟩ ?_
          refine G_geti (nx := 74) (k := 75) ⟨dX12_proves_71, rfl⟩ fX12_280 q_75 yi_12_22 ?_
          rw [h22]
          refine G_iadd (nx := 75) ⟨dX12_proves_74, rfl⟩ ?_
          refine G_iret ⟨dX12_proves_75, rfl⟩ rfl ?_
          have fin := hk s0 k0 z I1 rfl hs0 rfl hk0 c_27 hz hz60 ((sb.rf.w rfl).tr hs1)
          rw [bi_0] at c_49
          rw [if_neg (fun h => by rw [c_49] at h; cases h.1)] at fin
          rw [show (1 : Int32) = nI 1 by decide, nI_add]
          exact fin
        · refine G_aload_0 (nx := 53) ⟨dX12_proves_52, rfl⟩ ?_
          refine G_geti (nx := 56) (k := 75) ⟨dX12_proves_53, rfl⟩ fX12_280 q_75 yi_12_22 ?_
          rw [h22]
          refine G_aload_0 (nx := 57) ⟨dX12_proves_56, rfl⟩ ?_
          refine G_getr (nx := 60) (k := 75) (r := 104) ⟨dX12_proves_57, rfl⟩ fX12_100 q_75 yr_12_44 (r_75_44 _) ?_
          refine G_iload_1 (nx := 61) ⟨dX12_proves_60, rfl⟩ ?_
          refine G_iald (nx := 62) (k := 104) ⟨dX12_proves_61, rfl⟩ q_104 (by first | assumption | decide | (unfold vp_in; decide)) ?_
          rw [ecs, hs1 104 s0 rfl, w2_row _ _ _ _ (show ¬ 104 = 75 by decide), hz]
          refine G_icmpne (tgt := 69) (nx := 65) ⟨dX12_proves_62, rfl⟩ rfl (fun c_62 => ?_) (fun c_62 => ?_)
          · refine G_iconst (nx := 70) ⟨dX12_proves_69, rfl⟩ ci_1 ?_
            refine G_aload_0 (nx := 71) ⟨dX12_proves_70, rfl⟩ ?_
            refine G_geti (nx := 74) (k := 75) ⟨dX12_proves_71, rfl⟩ fX12_280 q_75 yi_12_22 ?_
            rw [h22]
            refine G_iadd (nx := 75) ⟨dX12_proves_74, rfl⟩ ?_
            refine G_iret ⟨dX12_proves_75, rfl⟩ rfl ?_
            have fin := hk s0 k0 z I1 rfl hs0 rfl hk0 c_27 hz hz60 ((sb.rf.w rfl).tr hs1)
            rw [bi_n0] at c_49
            rw [nI_eq (by omega) (by omega)] at c_62
            rw [if_neg (fun h => c_62 h.2)] at fin
            rw [show (1 : Int32) = nI 1 by decide, nI_add]
            exact fin
          · refine G_iconst (nx := 66) ⟨dX12_proves_65, rfl⟩ ci_0 ?_
            refine G_goto (tgt := 75) ⟨dX12_proves_66, rfl⟩ rfl ?_
            refine G_iret ⟨dX12_proves_75, rfl⟩ rfl ?_
            have fin := hk s0 k0 z I1 rfl hs0 rfl hk0 c_27 hz hz60 ((sb.rf.w rfl).tr hs1)
            rw [bi_n0] at c_49
            rw [nI_eq (by omega) (by omega)] at c_62
            rw [if_pos ⟨c_49, c_62⟩] at fin
            exact fin
      · refine G_bipush (nx := 32) ⟨dX12_proves_30, rfl⟩ cb_m11 ?_
        refine G_iret ⟨dX12_proves_32, rfl⟩ rfl ?_
        exact hk2 s0 k0 rfl hs0 rfl hk0 c_27
    · refine G_bipush (nx := 19) ⟨dX12_proves_17, rfl⟩ cb_m2 ?_
      refine G_iret ⟨dX12_proves_19, rfl⟩ rfl ?_
      rw [bi_0] at c_14
      exact hk1 (by simp [c_14])
end XA5m
theorem skN {s k : Int32} {s0 k0 : Nat} (e : s = nI s0) (hs : s0 < 4) (ek : k = nI k0) (hk : k0 ≤ 12) : ¬ (inR s 0 3 && inR k 0 12) = false := by
  rw [e, s03 hs, ek, show (0 : Int32) = nI 0 from rfl, show (12 : Int32) = nI 12 from rfl, inR_nI (by omega) (by omega) (by omega), decide_eq_true ⟨by omega, hk⟩]
  decide
section XA5
variable {l : Launch} {d : Nat} {I : AI} {J : AJ} {g : Bool}

theorem op_proves {s k : Int32} (hI : INV I g) : OPi l d mX11_proves mX12_proves [.ref 0, .int s, .int k, UU] [.ref 75, .int s, .int k] I J g := by
  obtain ⟨n, gr, hN, hR⟩ := hI
  have hS := hR.sh
  refine cX_proves hN.1 hN.2.2.1 hS.szc (fun h => ?_) (fun s0 k0 e hs ek hk hm => ?_) (fun s0 k0 z I1 e hs ek hk hm hz hz6 hs1 => ?_)
  · exact cM_proves2 (d := d + 12) hN.2.1 hS.sz (fun _ => fin rfl hN hR) (fun s0 k0 e hs ek hk _ => absurd h (skN e hs ek hk)) (fun s0 k0 z _ e hs ek hk _ _ _ _ => absurd h (skN e hs ek hk))
  · exact cM_proves2 (d := d + 12) hN.2.1 hS.sz (fun h => absurd h (skN e hs ek hk)) (fun _ _ _ _ _ _ _ => fin rfl hN hR) (fun s1 k1 z _ e1 hs1 ek1 hk1 hn _ _ _ => absurd ((hS.i hs).symm.trans hm) (by rw [s4 hs hs1 (e.symm.trans e1)]; exact hn))
  · have hv1 := hs1.sq (v_fSr g)
    have hN1 := hN.fr hv1.N
    have hR1 := hR.fr hv1
    have hS1 := hR1.sh
    refine cM_proves2 (d := d + 12) hN1.2.1 hS1.sz (fun h => absurd h (skN e hs ek hk)) (fun s1 k1 e1 hs1' _ _ hm1 => absurd ((hS.i hs).trans (by rw [s4 hs hs1' (e.symm.trans e1), ← hv1.S 103 s1 (by unfold pS; omega)]; exact hm1)) hm) (fun s1 k1 z1 I2 e1 hs1' ek1 hk1 _ hz1 hz16 hs2 => ?_)
    have hv2 := hs2.sq (v_fI g)
    have hN2 := hN1.fr hv2.N
    have hR2 := hR1.fr hv2
    obtain rfl := s4 hs hs1' (e.symm.trans e1)
    have : k0 = k1 := nI_inj (by omega) (by omega) (ek.symm.trans ek1)
    subst this
    rw [hv1.S 104 _ (by unfold pS; omega)] at hz1
    obtain rfl := hS.z2 hs hz6 hz16 hz hz1
    have er : ∀ a b c q i, rd n gr (I (49 + s0)) z a b c q i = rd n gr (fun j => I1 105 (60 * s0 + j)) z a b c q i := rd_cg (fun j hj => by
      show I (49 + s0) j = I1 105 (60 * s0 + j)
      rw [hv1.S 105 _ (by unfold pS; omega)]
      exact hS.r hs j (by omega))
    exact fin (by rw [er]) hN2 hR2

theorem op_prove {s k : Int32} (hI : INV I g) : OPi l d mX11_prove mX12_prove [.ref 0, .int s, .int k, UU] [.ref 75, .int s, .int k, UU] I J g := by
  obtain ⟨n, gr, hN, hR⟩ := hI
  have hS := hR.sh
  have hg := go_c g
  refine cX_prove hN.1 hN.2.2.1 (fun h => ?_) (fun s0 k0 I1 e hs ek hk => ⟨fun hf hs1 => ?_, fun hf hl hs1 => ?_, fun hf hl c1 c2 c3 hs1 => ?_⟩)
  · exact cM_prove (d := d + 11) hN.2.1 (fun _ => fin rfl hN hR) (fun s0 k0 _ e hs ek hk => absurd h (skN e hs ek hk))
  · have hv1 := hs1.sq (v_fSr g)
    have hN1 := hN.fr hv1.N
    have hR1 := hR.fr hv1
    refine cM_prove (d := d + 11) hN1.2.1 (fun h => absurd h (skN e hs ek hk)) (fun s1 k1 I2 e1 hs1' ek1 hk1 => ?_)
    have : k0 = k1 := nI_inj (by omega) (by omega) (ek.symm.trans ek1)
    subst this
    refine ⟨fun _ hs2 => ?_, fun hf2 _ _ => ?_, fun hf2 _ _ _ _ _ => ?_⟩
    · have hv2 := hs2.sq (v_fT g)
      have hN2 := hN1.fr hv2.N
      have hR2 := hR1.fr hv2
      exact fin rfl hN2 hR2
    · rw [hf2] at hf; cases hf
    · rw [hf2] at hf; cases hf
  · have hv1 := hs1.sq (v_fSr g)
    have hN1 := hN.fr hv1.N
    have hR1 := hR.fr hv1
    refine cM_prove (d := d + 11) hN1.2.1 (fun h => absurd h (skN e hs ek hk)) (fun s1 k1 I2 e1 hs1' ek1 hk1 => ?_)
    have : k0 = k1 := nI_inj (by omega) (by omega) (ek.symm.trans ek1)
    subst this
    refine ⟨fun hf2 _ => ?_, fun _ _ hs2 => ?_, fun _ hl2 _ _ _ _ => ?_⟩
    · rw [hf] at hf2; cases hf2
    · have hv2 := hs2.sq (v_fT g)
      have hN2 := hN1.fr hv2.N
      have hR2 := hR1.fr hv2
      exact fin rfl hN2 hR2
    · omega
  · have f1 : ∀ a b, fPv s0 a b = true → (35 ≤ a ∧ a ≤ 41) ∨ (a = 47 ∨ a = 48) ∧ b = s0 ∨ a = 49 + s0 := by
      intro a b h
      simp only [fPv, fSr, Bool.or_eq_true, Bool.and_eq_true, beq_iff_eq, decide_eq_true_eq] at h
      omega
    have e1 : ∀ a b, ¬ ((35 ≤ a ∧ a ≤ 41) ∨ (a = 47 ∨ a = 48) ∧ b = s0 ∨ a = 49 + s0) → I1 a b = I a b := fun a b h => hs1 a b (Bool.eq_false_iff.mpr (fun q => h (f1 a b q)))
    have hG1 : MG I1 n gr := hN.2.1.fr (fun a b h => e1 a b (by omega))
    refine cM_prove (d := d + 11) hG1 (fun h => absurd h (skN e hs ek hk)) (fun s1 k1 I2 ee1 hs1' ek1 hk1 => ?_)
    have : k0 = k1 := nI_inj (by omega) (by omega) (ek.symm.trans ek1)
    subst this
    obtain rfl := s4 hs hs1' (e.symm.trans ee1)
    refine ⟨fun hf2 _ => ?_, fun _ hl2 _ => ?_, fun _ _ m1 m2 m3 hs2 => ?_⟩
    · rw [hf] at hf2; cases hf2
    · omega
    · have f2 : ∀ a b, fPr s0 a b = true → (a = 75 ∧ (b = 6 ∨ b = 16 ∨ b = 17 ∨ b = 18 ∨ b = 19)) ∨ a = 79 ∨ a = 85 ∨ a = 86 ∨ (a = 103 ∨ a = 104) ∧ b = s0 ∨ a = 105 ∧ 60 * s0 ≤ b ∧ b < 60 * s0 + 60 := by
        intro a b h
        simp only [fPr, fT, fS, fH, Bool.or_eq_true, Bool.and_eq_true, beq_iff_eq, decide_eq_true_eq] at h
        omega
      have e3 : ∀ a b, ¬ ((a = 75 ∧ (b = 6 ∨ b = 16 ∨ b = 17 ∨ b = 18 ∨ b = 19)) ∨ a = 79 ∨ a = 85 ∨ a = 86 ∨ (a = 103 ∨ a = 104) ∧ b = s0 ∨ a = 105 ∧ 60 * s0 ≤ b ∧ b < 60 * s0 + 60) → I2 a b = I1 a b := fun a b h => hs2 a b (Bool.eq_false_iff.mpr (fun q => h (f2 a b q)))
      have e2 : ∀ a b, ¬ ((35 ≤ a ∧ a ≤ 41) ∨ (a = 47 ∨ a = 48) ∧ b = s0 ∨ a = 49 + s0) → ¬ ((a = 75 ∧ (b = 6 ∨ b = 16 ∨ b = 17 ∨ b = 18 ∨ b = 19)) ∨ a = 79 ∨ a = 85 ∨ a = 86 ∨ (a = 103 ∨ a = 104) ∧ b = s0 ∨ a = 105 ∧ 60 * s0 ≤ b ∧ b < 60 * s0 + 60) → I2 a b = I a b := fun a b h1 h2 => (e3 a b h2).trans (e1 a b h1)
      refine fin rfl (n := n) (gr := gr) (hN.fr (fun a b h => e2 a b (by unfold pN at h; omega) (by unfold pN at h; omega))) (hR.fS (fun s hs' => ?_) (fun a b h => e2 a b (by unfold rsS pZ pT pR pV pI at h; omega) (by unfold rsS pZ pT pR pV pI at h; omega)))
      by_cases h : s = s0
      · subst h
        rw [e3 47 s (by omega), e3 48 s (by omega), c1, c2, m1, m2]
        refine ⟨rfl, rfl, Or.inr (by decide), ⟨_, hl, rfl⟩, fun j hj => ?_⟩
        rw [e3 _ j (by omega), c3 j hj, m3 j hj]
      · obtain ⟨q1, q2, q3, q4, q5⟩ := hS s hs'
        rw [e2 47 s (by omega) (by omega), e2 48 s (by omega) (by omega), e2 103 s (by omega) (by omega), e2 104 s (by omega) (by omega)]
        refine ⟨q1, q2, q3, q4, fun j hj => ?_⟩
        rw [e2 _ j (by omega) (by omega), e2 105 _ (by omega) (by omega)]
        exact q5 j hj

theorem op_judge {s : Int32} (hI : INV I g) : OPi l d mX11_judge mX12_judge [.ref 0, .int s, UU, UU] [.ref 75, .int s, UU, UU, UU, UU] I J g := by
  obtain ⟨n, gr, hN, hR⟩ := hI
  have hS := hR.sh
  refine cX_judge hN.1 hN.2.2.1 hS.szc (fun h => ?_) (fun s0 e hs hm => ?_) (fun s0 z Q I1 v e hs hm hz hz6 hQ hs1 hv => ?_)
  · exact cM_judge (d := d + 25) hN.2.1 hS.sz (fun _ => fin rfl hN hR) (fun s0 e hs _ => absurd h (by rw [e]; exact s03n hs)) (fun s0 z _ _ _ e hs _ _ _ _ _ _ => absurd h (by rw [e]; exact s03n hs))
  · subst e
    exact cM_judge (d := d + 25) hN.2.1 hS.sz (fun h => absurd h (s03n hs)) (fun _ _ _ _ => fin rfl hN hR) (fun s1 z _ _ _ e1 hs1 hn _ _ _ _ _ => absurd ((hS.i hs).symm.trans hm) (by rw [s4 hs hs1 e1]; exact hn))
  · subst e
    have hv1 := hs1.sq (v_fMp g)
    have hN1 := hN.fr hv1.N
    have hR1 := hR.fr hv1
    have hS1 := hR1.sh
    refine cM_judge (d := d + 25) hN1.2.1 hS1.sz (fun h => absurd h (s03n hs)) (fun s1 e1 hs1' hm1 => absurd ((hS.i hs).trans (by rw [s4 hs hs1' e1, ← hv1.S 103 s1 (by unfold pS; omega)]; exact hm1)) hm) (fun s1 z1 Q1 I2 v1 e1 hs1' _ hz1 hz16 hQ1 hs2 hw => ?_)
    have hv2 := hs2.sq (v_fH g)
    have hN2 := hN1.fr hv2.N
    have hR2 := hR1.fr hv2
    obtain rfl := s4 hs hs1' e1
    rw [hv1.S 104 _ (by unfold pS; omega)] at hz1
    obtain rfl := hS.z2 hs hz6 hz16 hz hz1
    have hQQ : Q = Q1 := by
      rw [← hQ, ← hQ1]
      exact jdL_cg (z := z) (fun j hj => by
        show I (49 + s0) j = I1 105 (60 * s0 + j)
        rw [hv1.S 105 _ (by unfold pS; omega)]
        exact hS.r hs j (by omega)) z 0 0 (by omega)
    subst hQQ
    refine fin ?_ hN2 hR2
    have hp12 : 2 ^ n ≤ 2 ^ 12 := Nat.pow_le_pow_right (by decide) hN.le
    rcases hv with ⟨i, a1, a2⟩ | ⟨a1, a2, a3⟩ | ⟨a1, a2, a3⟩ <;> rcases hw with ⟨i', b1, b2⟩ | ⟨b1, b2, b3⟩ | ⟨b1, b2, b3⟩
    · rw [a1] at b1
      injection b1 with b1
      rw [a2, b2, b1]
    · rw [a1] at b1; cases b1
    · rw [a1] at b1; cases b1
    · rw [a1] at b1; cases b1
    · rw [a3, b3]
    · exact absurd b2 a2
    · rw [a1] at b1; cases b1
    · exact absurd a2 b2
    · obtain ⟨r, hr, er⟩ := b3
      rw [a3, er, ← IsNu.tau (by omega) hr]

theorem op_load {s : Int32} (hI : INV I g) : OPi l d mX11_load mX12_load [.ref 0, .int s, UU, UU, UU] [.ref 75, .int s, UU] I J g := by
  obtain ⟨n, gr, hN, hR⟩ := hI
  have hS := hR.sh
  have hg := go_c g
  have h12 := hN.le
  refine cX_load hN.1 hS.szc (fun h => ?_) (fun s0 e hs hm => ?_) (fun s0 z I1 e hs hm hz hz6 hI1 hs1 => ?_)
  · exact cM_load (d := d + 38) hN.2.1 hS.sz (fun _ => fin rfl hN hR) (fun s0 e hs _ => absurd h (by rw [e]; exact s03n hs)) (fun s0 z _ e hs _ _ _ _ _ => absurd h (by rw [e]; exact s03n hs))
  · subst e
    exact cM_load (d := d + 38) hN.2.1 hS.sz (fun h => absurd h (s03n hs)) (fun _ _ _ _ => fin rfl hN hR) (fun s1 z _ e1 hs1 hn _ _ _ _ => absurd ((hS.i hs).symm.trans hm) (by rw [s4 hs hs1 e1]; exact hn))
  · subst e
    have e1 : ∀ a b, ¬ a = 3 → I1 a b = I a b := fun a b h => hs1 a b (by simp [fE, h])
    refine cM_load (d := d + 38) (hN.2.1.fr (fun a b h => e1 a b (by omega))) (fun s h => by rw [e1 104 s (by decide)]; exact hS.sz s h) (fun h => absurd h (s03n hs)) (fun s1 ee hs1' hm1 => absurd ((hS.i hs).trans (by rw [s4 hs hs1' ee, ← e1 103 s1 (by decide)]; exact hm1)) hm) (fun s1 z1 I2 ee hs1' _ hz1 hz16 hI2 hs2 => ?_)
    obtain rfl := s4 hs hs1' ee
    rw [e1 104 _ (by decide)] at hz1
    obtain rfl := hS.z2 hs hz6 hz16 hz hz1
    have er : rn (fun j => I1 105 (60 * s0 + j)) (min z n) 1 9 (min z n) 0 = rn (I (49 + s0)) (min z n) 1 9 (min z n) 0 := rn_cg (fun j hj => by
      show I1 105 (60 * s0 + j) = I (49 + s0) j
      rw [e1 105 _ (by decide)]
      exact (hS.r hs j (by omega)).symm) _ _
    rw [er] at hI2 ⊢
    have e2 : ∀ a b, ¬ a = 77 → I2 a b = I1 a b := fun a b h => hs2 a b (by simp [f77, h])
    have e3 : ∀ a b, ¬ a = 77 → ¬ a = 3 → I2 a b = I a b := fun a b h h2 => (e2 a b h).trans (e1 a b h2)
    refine fin rfl (n := n) (gr := gr) ⟨hN.1.fr (fun a b h => e3 a b (by omega) (by omega)), hN.2.1.fr (fun a b h => e3 a b (by omega) (by omega)), hN.2.2.1, fun p hp => ?_⟩ (hR.f2 (hR.1.fr (fun a b h => e3 a b (by unfold pZ at h; omega) (by unfold pZ at h; omega))) (fun a b h => e3 a b (by unfold rst pT pR pS pV pI at h; omega) (by unfold rst pT pR pS pV pI at h; omega)))
    obtain ⟨q1, q2, q3, q4⟩ := hN.2.2.2 p hp
    rw [e3 2 p (by decide) (by decide), e3 76 p (by decide) (by decide), e2 3 p (by decide), hI1 p, hI2 p]
    by_cases hc : p < rn (I (49 + s0)) (min z n) 1 9 (min z n) 0
    · have h9 := rn_in _ _ p (Nat.zero_le _) hc
      rw [if_pos hc, if_pos hc, e1 105 _ (by decide), ← hS.r hs p (by omega)]
      exact ⟨q1, rfl, q3, h9.1⟩
    · rw [if_neg hc, if_neg hc, e1 77 p (by decide)]
      exact ⟨q1, q2, q3, q4⟩

end XA5
