theorem pf_shr {a d : Nat} {D : Int64} (hD : (D.toBitVec.smod 64).toNat = d) (h : a < 2 ^ 62) : lN a >>> D = lN (a / 2 ^ d) := by
  have hd : a / 2 ^ d ≤ a := Nat.div_le_self _ _
  apply Int64.toInt_inj.mp
  have e : (lN a >>> D).toInt = (lN a).toInt >>> d := by
    rw [← hD]
    exact BitVec.toInt_sshiftRight ..
  rw [e, Int.shiftRight_eq_div_pow, pk_lT (by omega), pk_lT (by omega)]
  rfl

theorem q3 {q : Int32} (h : inR q 0 2 = true) : q = 0 ∨ q = 1 ∨ q = 2 := by
  obtain ⟨j, h1, h2, h3⟩ := nI_ex (a := 0) (b := 2) (by omega) h (by omega)
  rcases (show j = 0 ∨ j = 1 ∨ j = 2 by omega) with z | z | z <;> rw [z] at h3
  · exact Or.inl h3
  · exact Or.inr (Or.inl h3)
  · exact Or.inr (Or.inr h3)
theorem sw_ne02 {x : Int32} (h : x.toInt < 0 ∨ 2 < x.toInt) : ¬ x = 0 ∧ ¬ x = 1 ∧ ¬ x = 2 := by
  refine ⟨?_, ?_, ?_⟩ <;> (intro q; subst q; revert h; decide)
theorem cop2 {A : Nat} (h : A % 2 = 1) : ∀ k, Nat.gcd A (2 ^ k) = 1 := by
  intro k
  have h1 : Nat.Coprime A 2 := by
    show Nat.gcd A 2 = 1
    rw [Nat.gcd_comm, Nat.gcd_rec, h]
    exact Nat.gcd_one_left 2
  exact Nat.Coprime.pow_right k h1
theorem gcd_sh {S A n i : Nat} (hS : S = A * 2 ^ i) (hi : i ≤ n) (h : i = n ∨ A % 2 = 1) : Nat.gcd S (2 ^ n) = 2 ^ i := by
  have e : 2 ^ n = 2 ^ (n - i) * 2 ^ i := by rw [← Nat.pow_add]; congr 1; omega
  rw [hS, e, Nat.gcd_mul_right]
  have : Nat.gcd A (2 ^ (n - i)) = 1 := by
    rcases h with h | h
    · rw [show n - i = 0 by omega, Nat.pow_zero, Nat.gcd_one_right]
    · exact cop2 h _
  rw [this, Nat.one_mul]
theorem sh1 {a : Nat} (h : a < 2 ^ 62) : lN a >>> ((1 : Int32).toInt64 &&& 63) = lN (a / 2) := by
  have := pf_shr (a := a) (d := 1) (D := (1 : Int32).toInt64 &&& 63) (by decide) h
  rw [Nat.pow_one] at this
  exact this
section X88
variable {l : Launch} {d : Nat} {K : AK} {I : AI} {J : AJ} {g : Bool} {n : Nat} {gr : Nat → Nat}

theorem cX_dear {kd wt : Nat → Int32} {q : Int32} (hX : XG I 1 4 n gr) (hkd : ∀ p, p < n → I 2 p = kd p) (hwt : ∀ p, p < n → I 3 p = wt p) (hw : ∀ p, p < n → ∃ v, 1 ≤ v ∧ v ≤ 9 ∧ wt p = nI v) (hk1 : inR q 0 2 = false → K (.int (-2)) I J (rX g)) (hk : inR q 0 2 = true → ∀ (I' : AI), sb fC I I' → K (.int (if q = 0 then (deN n gr (coN n kd wt gr)).1 else if q = 1 then (deN n gr (coN n kd wt gr)).2.1 else (deN n gr (coN n kd wt gr)).2.2)) I' J (rX g)) : G l (d + 40) mX11_dear K 0 [.ref 0, .int q] [] I J (rX g) := by
  refine G_iload_1 (nx := 1) ⟨dX11_dear_0, rfl⟩ ?_
  refine G_iconst (nx := 2) ⟨dX11_dear_1, rfl⟩ ci_0 ?_
  refine G_iconst (nx := 3) ⟨dX11_dear_2, rfl⟩ ci_2 ?_
  refine G_cs3 (nx := 6) ⟨dX11_dear_3, rfl⟩ kX11_126 rfl rfl (Nat.le_of_ble_eq_true rfl) (Nat.le_of_ble_eq_true rfl) (cX_within ?_)
  refine G_ifne (tgt := 12) (nx := 9) ⟨dX11_dear_6, rfl⟩ rfl (fun c_6 => ?_) (fun c_6 => ?_)
  · rw [bi_n0] at c_6
    refine G_aload_0 (nx := 13) ⟨dX11_dear_12, rfl⟩ ?_
    refine G_getr (nx := 16) (k := 0) (r := 22) ⟨dX11_dear_13, rfl⟩ fX11_34 q_0 yr_11_4 (r_0_4 _) ?_
    refine G_aload_0 (nx := 17) ⟨dX11_dear_16, rfl⟩ ?_
    refine G_getr (nx := 20) (k := 0) (r := 1) ⟨dX11_dear_17, rfl⟩ fX11_10 q_0 yr_11_0 (r_0_0 _) ?_
    refine G_cvv1 (nx := 23) ⟨dX11_dear_20, rfl⟩ kX11_200 rfl q_22 rfl (Nat.le_of_ble_eq_true rfl) (Nat.le_of_ble_eq_true rfl) (cC_findCheapest hX hkd hwt hw (fun I1 f2 f3 f4 hs1 => ?_))
    refine G_iload_1 (nx := 24) ⟨dX11_dear_23, rfl⟩ ?_
    rcases (q3 c_6) with c_24 | c_24 | c_24
    · refine G_lookAt (v := 0) (tgt := 52) (nx := 52) ⟨dX11_dear_24, rfl⟩ c_24 (by decide) (off := 28) (by decide) rfl ?_
      refine G_aload_0 (nx := 53) ⟨dX11_dear_52, rfl⟩ ?_
      refine G_getr (nx := 56) (k := 0) (r := 22) ⟨dX11_dear_53, rfl⟩ fX11_34 q_0 yr_11_4 (r_0_4 _) ?_
      refine G_geti (nx := 59) (k := 22) ⟨dX11_dear_56, rfl⟩ fX11_182 q_22 yi_0_2 ?_
      refine G_iret ⟨dX11_dear_59, rfl⟩ rfl ?_
      refine K_v (congrArg Value.int ?_) (hk c_6 I1 hs1)
      rw [f2]
      simp [c_24]
    · refine G_lookAt (v := 1) (tgt := 60) (nx := 52) ⟨dX11_dear_24, rfl⟩ c_24 (by decide) (off := 36) (by decide) rfl ?_
      refine G_aload_0 (nx := 61) ⟨dX11_dear_60, rfl⟩ ?_
      refine G_getr (nx := 64) (k := 0) (r := 22) ⟨dX11_dear_61, rfl⟩ fX11_34 q_0 yr_11_4 (r_0_4 _) ?_
      refine G_geti (nx := 67) (k := 22) ⟨dX11_dear_64, rfl⟩ fX11_185 q_22 yi_0_3 ?_
      refine G_iret ⟨dX11_dear_67, rfl⟩ rfl ?_
      refine K_v (congrArg Value.int ?_) (hk c_6 I1 hs1)
      rw [f3]
      simp [c_24]
    · refine G_lookAt (v := 2) (tgt := 68) (nx := 52) ⟨dX11_dear_24, rfl⟩ c_24 (by decide) (off := 44) (by decide) rfl ?_
      refine G_aload_0 (nx := 69) ⟨dX11_dear_68, rfl⟩ ?_
      refine G_getr (nx := 72) (k := 0) (r := 22) ⟨dX11_dear_69, rfl⟩ fX11_34 q_0 yr_11_4 (r_0_4 _) ?_
      refine G_geti (nx := 75) (k := 22) ⟨dX11_dear_72, rfl⟩ fX11_188 q_22 yi_0_4 ?_
      refine G_iret ⟨dX11_dear_75, rfl⟩ rfl ?_
      refine K_v (congrArg Value.int ?_) (hk c_6 I1 hs1)
      rw [f4]
      simp [c_24]
  · refine G_bipush (nx := 11) ⟨dX11_dear_9, rfl⟩ cb_m2 ?_
    refine G_iret ⟨dX11_dear_11, rfl⟩ rfl ?_
    rw [bi_0] at c_6
    exact hk1 c_6

theorem cX_bare {q : Int32} (hX : XG I 1 4 n gr) (hW : WG n gr) (hk1 : inR q 0 2 = false → K (.int (-2)) I J (rX g)) (hk : inR q 0 2 = true → ∀ (I' : AI), sb fC I I' → K (.int (if q = 0 then (baN n gr).1 else if q = 1 then (baN n gr).2.1 else (baN n gr).2.2)) I' J (rX g)) : G l (d + 40) mX11_bare K 0 [.ref 0, .int q] [] I J (rX g) := by
  refine G_iload_1 (nx := 1) ⟨dX11_bare_0, rfl⟩ ?_
  refine G_iconst (nx := 2) ⟨dX11_bare_1, rfl⟩ ci_0 ?_
  refine G_iconst (nx := 3) ⟨dX11_bare_2, rfl⟩ ci_2 ?_
  refine G_cs3 (nx := 6) ⟨dX11_bare_3, rfl⟩ kX11_126 rfl rfl (Nat.le_of_ble_eq_true rfl) (Nat.le_of_ble_eq_true rfl) (cX_within ?_)
  refine G_ifne (tgt := 12) (nx := 9) ⟨dX11_bare_6, rfl⟩ rfl (fun c_6 => ?_) (fun c_6 => ?_)
  · rw [bi_n0] at c_6
    refine G_aload_0 (nx := 13) ⟨dX11_bare_12, rfl⟩ ?_
    refine G_getr (nx := 16) (k := 0) (r := 22) ⟨dX11_bare_13, rfl⟩ fX11_34 q_0 yr_11_4 (r_0_4 _) ?_
    refine G_aload_0 (nx := 17) ⟨dX11_bare_16, rfl⟩ ?_
    refine G_getr (nx := 20) (k := 0) (r := 1) ⟨dX11_bare_17, rfl⟩ fX11_10 q_0 yr_11_0 (r_0_0 _) ?_
    refine G_cvv1 (nx := 23) ⟨dX11_bare_20, rfl⟩ kX11_207 rfl q_22 rfl (Nat.le_of_ble_eq_true rfl) (Nat.le_of_ble_eq_true rfl) (cC_findBare hX hW (fun I1 f4 f2 f3 hs1 => ?_))
    refine G_iload_1 (nx := 24) ⟨dX11_bare_23, rfl⟩ ?_
    rcases (q3 c_6) with c_24 | c_24 | c_24
    · refine G_lookAt (v := 0) (tgt := 52) (nx := 52) ⟨dX11_bare_24, rfl⟩ c_24 (by decide) (off := 28) (by decide) rfl ?_
      refine G_aload_0 (nx := 53) ⟨dX11_bare_52, rfl⟩ ?_
      refine G_getr (nx := 56) (k := 0) (r := 22) ⟨dX11_bare_53, rfl⟩ fX11_34 q_0 yr_11_4 (r_0_4 _) ?_
      refine G_geti (nx := 59) (k := 22) ⟨dX11_bare_56, rfl⟩ fX11_188 q_22 yi_0_4 ?_
      refine G_iret ⟨dX11_bare_59, rfl⟩ rfl ?_
      refine K_v (congrArg Value.int ?_) (hk c_6 I1 hs1)
      rw [f4]
      simp [c_24]
    · refine G_lookAt (v := 1) (tgt := 60) (nx := 52) ⟨dX11_bare_24, rfl⟩ c_24 (by decide) (off := 36) (by decide) rfl ?_
      refine G_aload_0 (nx := 61) ⟨dX11_bare_60, rfl⟩ ?_
      refine G_getr (nx := 64) (k := 0) (r := 22) ⟨dX11_bare_61, rfl⟩ fX11_34 q_0 yr_11_4 (r_0_4 _) ?_
      refine G_geti (nx := 67) (k := 22) ⟨dX11_bare_64, rfl⟩ fX11_182 q_22 yi_0_2 ?_
      refine G_iret ⟨dX11_bare_67, rfl⟩ rfl ?_
      refine K_v (congrArg Value.int ?_) (hk c_6 I1 hs1)
      rw [f2]
      simp [c_24]
    · refine G_lookAt (v := 2) (tgt := 68) (nx := 52) ⟨dX11_bare_24, rfl⟩ c_24 (by decide) (off := 44) (by decide) rfl ?_
      refine G_aload_0 (nx := 69) ⟨dX11_bare_68, rfl⟩ ?_
      refine G_getr (nx := 72) (k := 0) (r := 22) ⟨dX11_bare_69, rfl⟩ fX11_34 q_0 yr_11_4 (r_0_4 _) ?_
      refine G_geti (nx := 75) (k := 22) ⟨dX11_bare_72, rfl⟩ fX11_185 q_22 yi_0_3 ?_
      refine G_iret ⟨dX11_bare_75, rfl⟩ rfl ?_
      refine K_v (congrArg Value.int ?_) (hk c_6 I1 hs1)
      rw [f3]
      simp [c_24]
  · refine G_bipush (nx := 11) ⟨dX11_bare_9, rfl⟩ cb_m2 ?_
    refine G_iret ⟨dX11_bare_11, rfl⟩ rfl ?_
    rw [bi_0] at c_6
    exact hk1 c_6

theorem lX_share {q : Int32} {S : Nat} (hX : XG I 1 4 n gr) (hS : S ≤ 4096) (hk : K (.long (lN ((if q = 0 then S else 2 ^ n) / Nat.gcd S (2 ^ n)))) I J (rX g)) : ∀ (k i A : Nat), n - i = k → i ≤ n → S = A * 2 ^ i → G l (d + 40) mX11_share K 40 [.ref 0, .int q, .long (lN A), UU, .long (lN (2 ^ (n - i))), UU, .int (nI i)] [] I J (rX g) := by
  intro k
  induction k using Nat.strongRecOn with
  | _ k ih =>
  intro i A hik hi hA
  have hn := hX.2.1
  have hp12 := pow12 hn
  have hpi := Nat.two_pow_pos i
  have hAl : A ≤ 4096 := Nat.le_trans (by rw [hA]; exact Nat.le_mul_of_pos_right A hpi) hS
  have hBl : 2 ^ (n - i) ≤ 2 ^ n := Nat.pow_le_pow_right (by omega) (by omega)
  have hfin : (i = n ∨ A % 2 = 1) → (if q = 0 then S else 2 ^ n) / Nat.gcd S (2 ^ n) = if q = 0 then A else 2 ^ (n - i) := fun h => by
    rw [gcd_sh hA hi h]
    by_cases c : q = 0
    · rw [if_pos c, if_pos c, hA, Nat.mul_div_cancel _ hpi]
    · rw [if_neg c, if_neg c, show 2 ^ n = 2 ^ (n - i) * 2 ^ i by rw [← Nat.pow_add]; congr 1; omega, Nat.mul_div_cancel _ hpi]
  refine G_iload_6 (nx := 42) ⟨dX11_share_40, rfl⟩ ?_
  refine G_aload_0 (nx := 43) ⟨dX11_share_42, rfl⟩ ?_
  refine G_getr (nx := 46) (k := 0) (r := 1) ⟨dX11_share_43, rfl⟩ fX11_10 q_0 yr_11_0 (r_0_0 _) ?_
  refine G_geti (nx := 49) (k := 1) ⟨dX11_share_46, rfl⟩ fX11_115 q_1 yi_4_4 ?_
  rw [hX.1]
  refine G_icmpge (tgt := 76) (nx := 52) ⟨dX11_share_49, rfl⟩ rfl (fun c_49 => ?_) (fun c_49 => ?_)
  · refine G_iload_1 (nx := 77) ⟨dX11_share_76, rfl⟩ ?_
    refine G_ifne (tgt := 84) (nx := 80) ⟨dX11_share_77, rfl⟩ rfl (fun c_77 => ?_) (fun c_77 => ?_)
    · refine G_lload_4 (nx := 86) ⟨dX11_share_84, rfl⟩ ?_
      refine G_lret ⟨dX11_share_86, rfl⟩ rfl ?_
      rw [nI_le_iff (by omega) (by omega)] at c_49
      rw [hfin (Or.inl (by omega))] at hk
      rw [if_neg c_77] at hk
      exact hk
    · refine G_lload_2 (nx := 81) ⟨dX11_share_80, rfl⟩ ?_
      refine G_goto (tgt := 86) ⟨dX11_share_81, rfl⟩ rfl ?_
      refine G_lret ⟨dX11_share_86, rfl⟩ rfl ?_
      rw [nI_le_iff (by omega) (by omega)] at c_49
      rw [hfin (Or.inl (by omega))] at hk
      rw [if_pos c_77] at hk
      exact hk
  · rw [nI_le_iff (by omega) (by omega)] at c_49
    refine G_lload_2 (nx := 53) ⟨dX11_share_52, rfl⟩ ?_
    refine G_lconst (nx := 54) (v := 1) ⟨dX11_share_53, rfl⟩ (by decide) ?_
    refine G_land (nx := 55) ⟨dX11_share_54, rfl⟩ ?_
    rw [wb_a1 (by omega)]
    refine G_lconst (nx := 56) (v := 0) ⟨dX11_share_55, rfl⟩ (by decide) ?_
    refine G_lcmp (nx := 57) ⟨dX11_share_56, rfl⟩ ?_
    refine G_ifne (tgt := 76) (nx := 60) ⟨dX11_share_57, rfl⟩ rfl (fun c_57 => ?_) (fun c_57 => ?_)
    · refine G_iload_1 (nx := 77) ⟨dX11_share_76, rfl⟩ ?_
      refine G_ifne (tgt := 84) (nx := 80) ⟨dX11_share_77, rfl⟩ rfl (fun c_77 => ?_) (fun c_77 => ?_)
      · refine G_lload_4 (nx := 86) ⟨dX11_share_84, rfl⟩ ?_
        refine G_lret ⟨dX11_share_86, rfl⟩ rfl ?_
        rw [show (0 : Int64) = lN 0 from rfl, lg_cmp_eq, pk_lEQ (by omega) (by omega)] at c_57
        rw [hfin (Or.inr (by omega))] at hk
        rw [if_neg c_77] at hk
        exact hk
      · refine G_lload_2 (nx := 81) ⟨dX11_share_80, rfl⟩ ?_
        refine G_goto (tgt := 86) ⟨dX11_share_81, rfl⟩ rfl ?_
        refine G_lret ⟨dX11_share_86, rfl⟩ rfl ?_
        rw [show (0 : Int64) = lN 0 from rfl, lg_cmp_eq, pk_lEQ (by omega) (by omega)] at c_57
        rw [hfin (Or.inr (by omega))] at hk
        rw [if_pos c_77] at hk
        exact hk
    · refine G_lload_2 (nx := 61) ⟨dX11_share_60, rfl⟩ ?_
      refine G_iconst (nx := 62) ⟨dX11_share_61, rfl⟩ ci_1 ?_
      refine G_lshr (nx := 63) ⟨dX11_share_62, rfl⟩ ?_
      rw [sh1 (by omega)]
      refine G_lstore_2 (nx := 64) ⟨dX11_share_63, rfl⟩ rfl rfl ?_
      refine G_lload_4 (nx := 66) ⟨dX11_share_64, rfl⟩ ?_
      refine G_iconst (nx := 67) ⟨dX11_share_66, rfl⟩ ci_1 ?_
      refine G_lshr (nx := 68) ⟨dX11_share_67, rfl⟩ ?_
      rw [sh1 (by omega)]
      refine G_lstore_4 (nx := 70) ⟨dX11_share_68, rfl⟩ rfl rfl ?_
      refine G_iinc_6 (nx := 73) ⟨dX11_share_70, rfl⟩ ci_1 rfl ?_
      refine G_goto (tgt := 40) ⟨dX11_share_73, rfl⟩ rfl ?_
      rw [show (0 : Int64) = lN 0 from rfl, lg_cmp_eq, pk_lEQ (by omega) (by omega)] at c_57
      have e2 : 2 ^ (n - i) / 2 = 2 ^ (n - (i + 1)) := by
        rw [show n - i = (n - (i + 1)) + 1 by omega, Nat.pow_succ, Nat.mul_div_cancel _ (by decide)]
      refine G_L (by rw [nI_1, e2]) (ih (n - (i + 1)) (by omega) (i + 1) (A / 2) rfl (by omega) ?_)
      rw [hA, Nat.pow_succ, Nat.mul_comm (2 ^ i) 2, ← Nat.mul_assoc]
      congr 1
      omega

theorem cX_share {q : Int32} (hX : XG I 1 4 n gr) (hk1 : inR q 0 1 = false → K (.long (-2)) I J (rX g)) (hk : inR q 0 1 = true → ∀ (I' : AI), sb fC I I' → K (.long (lN ((if q = 0 then shN n gr else 2 ^ n) / Nat.gcd (shN n gr) (2 ^ n)))) I' J (rX g)) : G l (d + 40) mX11_share K 0 [.ref 0, .int q, UU, UU, UU, UU, UU] [] I J (rX g) := by
  have hn := hX.2.1
  have hp12 := pow12 hn
  have hsl := shF_le n gr (2 ^ n)
  refine G_iload_1 (nx := 1) ⟨dX11_share_0, rfl⟩ ?_
  refine G_iconst (nx := 2) ⟨dX11_share_1, rfl⟩ ci_0 ?_
  refine G_iconst (nx := 3) ⟨dX11_share_2, rfl⟩ ci_1 ?_
  refine G_cs3 (nx := 6) ⟨dX11_share_3, rfl⟩ kX11_126 rfl rfl (Nat.le_of_ble_eq_true rfl) (Nat.le_of_ble_eq_true rfl) (cX_within ?_)
  refine G_ifne (tgt := 13) (nx := 9) ⟨dX11_share_6, rfl⟩ rfl (fun c_6 => ?_) (fun c_6 => ?_)
  · rw [bi_n0] at c_6
    refine G_aload_0 (nx := 14) ⟨dX11_share_13, rfl⟩ ?_
    refine G_getr (nx := 17) (k := 0) (r := 22) ⟨dX11_share_14, rfl⟩ fX11_34 q_0 yr_11_4 (r_0_4 _) ?_
    refine G_aload_0 (nx := 18) ⟨dX11_share_17, rfl⟩ ?_
    refine G_getr (nx := 21) (k := 0) (r := 1) ⟨dX11_share_18, rfl⟩ fX11_10 q_0 yr_11_0 (r_0_0 _) ?_
    refine G_cv1 (nx := 24) ⟨dX11_share_21, rfl⟩ kX11_212 rfl q_22 rfl (Nat.le_of_ble_eq_true rfl) (Nat.le_of_ble_eq_true rfl) (cC_howMany hX (fun I1 hs1 => ?_))
    refine G_i2l (nx := 25) ⟨dX11_share_24, rfl⟩ ?_
    rw [nI_l (show shN n gr < 2 ^ 31 by unfold shN; omega)]
    have hX1 : XG I1 1 4 n gr := hX.sb hs1 rfl (fun _ => rfl)
    refine G_lstore_2 (nx := 26) ⟨dX11_share_25, rfl⟩ rfl rfl ?_
    refine G_lconst (nx := 27) (v := 1) ⟨dX11_share_26, rfl⟩ (by decide) ?_
    refine G_aload_0 (nx := 28) ⟨dX11_share_27, rfl⟩ ?_
    refine G_getr (nx := 31) (k := 0) (r := 1) ⟨dX11_share_28, rfl⟩ fX11_10 q_0 yr_11_0 (r_0_0 _) ?_
    refine G_geti (nx := 34) (k := 1) ⟨dX11_share_31, rfl⟩ fX11_115 q_1 yi_4_4 ?_
    rw [hX1.1]
    refine G_lshl (nx := 35) ⟨dX11_share_34, rfl⟩ ?_
    rw [show (1 : Int64) = lN 1 from rfl, wb_shl 1 (show n < 64 by omega), Nat.one_mul]
    refine G_lstore_4 (nx := 37) ⟨dX11_share_35, rfl⟩ rfl rfl ?_
    refine G_iconst (nx := 38) ⟨dX11_share_37, rfl⟩ ci_0 ?_
    refine G_istore_6 (nx := 40) ⟨dX11_share_38, rfl⟩ rfl rfl ?_
    exact G_L (by rw [← nI_0]; rfl) (lX_share (S := shN n gr) hX1 (by unfold shN; omega) (hk c_6 I1 hs1) _ 0 (shN n gr) rfl (Nat.zero_le _) (by rw [Nat.pow_zero, Nat.mul_one]))
  · refine G_ldc2 (nx := 12) ⟨dX11_share_9, rfl⟩ nX11_210 ?_
    refine G_lret ⟨dX11_share_12, rfl⟩ rfl ?_
    rw [bi_0] at c_6
    exact hk1 c_6

theorem cX_halves {q : Int32} (hX : XG I 1 4 n gr) (hW : WG n gr) (hk1 : inR q 0 3 = false → K (.int (-2)) I J (rX g)) (hk : inR q 0 3 = true → ∀ (I' : AI), sb (fHs 16) I I' → K (.int (if q = 0 then nI (pc (hz n gr (2 ^ n - 1) 1) + 2 * pc (hz n gr (2 ^ n - 1) 2)) else if q = 1 then nI (hz n gr (2 ^ n - 1) 0) else if q = 2 then nI (hz n gr (2 ^ n - 1) 1) else nI (hz n gr (2 ^ n - 1) 2))) I' J (rX g)) : G l (d + 40) mX11_halves K 0 [.ref 0, .int q] [] I J (rX g) := by
  have hn := hX.2.1
  have hp12 := pow12 hn
  have h1p := Nat.two_pow_pos n
  have z0l := hz_lt (n := n) (gr := gr) (P := 2 ^ n - 1) (v := 0)
  have z1l := hz_lt (n := n) (gr := gr) (P := 2 ^ n - 1) (v := 1)
  have z2l := hz_lt (n := n) (gr := gr) (P := 2 ^ n - 1) (v := 2)
  refine G_iload_1 (nx := 1) ⟨dX11_halves_0, rfl⟩ ?_
  refine G_iconst (nx := 2) ⟨dX11_halves_1, rfl⟩ ci_0 ?_
  refine G_iconst (nx := 3) ⟨dX11_halves_2, rfl⟩ ci_3 ?_
  refine G_cs3 (nx := 6) ⟨dX11_halves_3, rfl⟩ kX11_126 rfl rfl (Nat.le_of_ble_eq_true rfl) (Nat.le_of_ble_eq_true rfl) (cX_within ?_)
  refine G_ifne (tgt := 12) (nx := 9) ⟨dX11_halves_6, rfl⟩ rfl (fun c_6 => ?_) (fun c_6 => ?_)
  · rw [bi_n0] at c_6
    refine G_aload_0 (nx := 13) ⟨dX11_halves_12, rfl⟩ ?_
    refine G_getr (nx := 16) (k := 0) (r := 16) ⟨dX11_halves_13, rfl⟩ fX11_25 q_0 yr_11_3 (r_0_3 _) ?_
    refine G_aload_0 (nx := 17) ⟨dX11_halves_16, rfl⟩ ?_
    refine G_getr (nx := 20) (k := 0) (r := 1) ⟨dX11_halves_17, rfl⟩ fX11_10 q_0 yr_11_0 (r_0_0 _) ?_
    refine G_getr (nx := 23) (k := 1) (r := 4) ⟨dX11_halves_20, rfl⟩ fX11_151 q_1 yr_4_2 (r_1_2 _) ?_
    refine G_aload_0 (nx := 24) ⟨dX11_halves_23, rfl⟩ ?_
    refine G_getr (nx := 27) (k := 0) (r := 1) ⟨dX11_halves_24, rfl⟩ fX11_10 q_0 yr_11_0 (r_0_0 _) ?_
    refine G_cv0 (nx := 30) ⟨dX11_halves_27, rfl⟩ kX11_194 rfl q_1 rfl (Nat.le_of_ble_eq_true rfl) (Nat.le_of_ble_eq_true rfl) (cN_all nt1 hX ?_)
    refine G_cvv2 (nx := 33) ⟨dX11_halves_30, rfl⟩ kX11_216 rfl q_16 rfl (Nat.le_of_ble_eq_true rfl) (Nat.le_of_ble_eq_true rfl) (cH_settle ht16 q_4 (by decide) hX.2 hW (show 2 ^ n - 1 < 2 ^ n by omega) (fun I1 g5 g6 g7 hs1 => ?_))
    refine G_iload_1 (nx := 34) ⟨dX11_halves_33, rfl⟩ ?_
    rcases sw_0_2 _ with c_34 | c_34 | c_34 | c_34
    · refine G_tabAt (v := 0) (tgt := 60) (nx := 60) ⟨dX11_halves_34, rfl⟩ c_34 (by decide) (by decide) (off := 26) rfl rfl ?_
      refine G_aload_0 (nx := 61) ⟨dX11_halves_60, rfl⟩ ?_
      refine G_getr (nx := 64) (k := 0) (r := 16) ⟨dX11_halves_61, rfl⟩ fX11_25 q_0 yr_11_3 (r_0_3 _) ?_
      refine G_geti (nx := 67) (k := 16) ⟨dX11_halves_64, rfl⟩ fX11_220 q_16 yi_2_6 ?_
      rw [g6]
      refine G_cs1 (nx := 70) ⟨dX11_halves_67, rfl⟩ kX11_223 rfl rfl (Nat.le_of_ble_eq_true rfl) (Nat.le_of_ble_eq_true rfl) (cJ_bc (by omega) ?_)
      refine G_iconst (nx := 71) ⟨dX11_halves_70, rfl⟩ ci_2 ?_
      refine G_aload_0 (nx := 72) ⟨dX11_halves_71, rfl⟩ ?_
      refine G_getr (nx := 75) (k := 0) (r := 16) ⟨dX11_halves_72, rfl⟩ fX11_25 q_0 yr_11_3 (r_0_3 _) ?_
      refine G_geti (nx := 78) (k := 16) ⟨dX11_halves_75, rfl⟩ fX11_228 q_16 yi_2_7 ?_
      rw [g7]
      refine G_cs1 (nx := 81) ⟨dX11_halves_78, rfl⟩ kX11_223 rfl rfl (Nat.le_of_ble_eq_true rfl) (Nat.le_of_ble_eq_true rfl) (cJ_bc (by omega) ?_)
      refine G_imul (nx := 82) ⟨dX11_halves_81, rfl⟩ ?_
      rw [show (2 : Int32) = nI 2 by decide, nI_mul]
      refine G_iadd (nx := 83) ⟨dX11_halves_82, rfl⟩ ?_
      rw [nI_add]
      refine G_iret ⟨dX11_halves_83, rfl⟩ rfl ?_
      refine K_v (congrArg Value.int ?_) (hk c_6 I1 hs1)
      simp [c_34]
    · refine G_tabAt (v := 1) (tgt := 84) (nx := 60) ⟨dX11_halves_34, rfl⟩ c_34 (by decide) (by decide) (off := 50) rfl rfl ?_
      refine G_aload_0 (nx := 85) ⟨dX11_halves_84, rfl⟩ ?_
      refine G_getr (nx := 88) (k := 0) (r := 16) ⟨dX11_halves_85, rfl⟩ fX11_25 q_0 yr_11_3 (r_0_3 _) ?_
      refine G_geti (nx := 91) (k := 16) ⟨dX11_halves_88, rfl⟩ fX11_231 q_16 yi_2_5 ?_
      rw [g5]
      refine G_iret ⟨dX11_halves_91, rfl⟩ rfl ?_
      refine K_v (congrArg Value.int ?_) (hk c_6 I1 hs1)
      simp [c_34]
    · refine G_tabAt (v := 2) (tgt := 92) (nx := 60) ⟨dX11_halves_34, rfl⟩ c_34 (by decide) (by decide) (off := 58) rfl rfl ?_
      refine G_aload_0 (nx := 93) ⟨dX11_halves_92, rfl⟩ ?_
      refine G_getr (nx := 96) (k := 0) (r := 16) ⟨dX11_halves_93, rfl⟩ fX11_25 q_0 yr_11_3 (r_0_3 _) ?_
      refine G_geti (nx := 99) (k := 16) ⟨dX11_halves_96, rfl⟩ fX11_220 q_16 yi_2_6 ?_
      rw [g6]
      refine G_iret ⟨dX11_halves_99, rfl⟩ rfl ?_
      refine K_v (congrArg Value.int ?_) (hk c_6 I1 hs1)
      simp [c_34]
    · refine G_tabOut (tgt := 100) (nx := 60) ⟨dX11_halves_34, rfl⟩ c_34 rfl ?_
      refine G_aload_0 (nx := 101) ⟨dX11_halves_100, rfl⟩ ?_
      refine G_getr (nx := 104) (k := 0) (r := 16) ⟨dX11_halves_101, rfl⟩ fX11_25 q_0 yr_11_3 (r_0_3 _) ?_
      refine G_geti (nx := 107) (k := 16) ⟨dX11_halves_104, rfl⟩ fX11_228 q_16 yi_2_7 ?_
      rw [g7]
      refine G_iret ⟨dX11_halves_107, rfl⟩ rfl ?_
      refine K_v (congrArg Value.int ?_) (hk c_6 I1 hs1)
      obtain ⟨n0, n1, n2⟩ := sw_ne02 c_34
      rw [if_neg n0, if_neg n1, if_neg n2]
  · refine G_bipush (nx := 11) ⟨dX11_halves_9, rfl⟩ cb_m2 ?_
    refine G_iret ⟨dX11_halves_11, rfl⟩ rfl ?_
    rw [bi_0] at c_6
    exact hk1 c_6

theorem cX_half {q : Int32} (hX : XG I 1 4 n gr) (hW : WG n gr) (hk1 : ptB n q = false → K (.int (-2)) I J (rX g)) (hk : ∀ (p : Nat) (I' : AI), p < n → q = nI p → sb (fHs 16) I I' → K (.int (if (hz n gr (2 ^ n - 1) 0).testBit p = true then 0 else if (hz n gr (2 ^ n - 1) 1).testBit p = true then 1 else 2)) I' J (rX g)) : G l (d + 40) mX11_half K 0 [.ref 0, .int q] [] I J (rX g) := by
  have hn := hX.2.1
  have hp12 := pow12 hn
  have h1p := Nat.two_pow_pos n
  have z0l := hz_lt (n := n) (gr := gr) (P := 2 ^ n - 1) (v := 0)
  have z1l := hz_lt (n := n) (gr := gr) (P := 2 ^ n - 1) (v := 1)
  have z2l := hz_lt (n := n) (gr := gr) (P := 2 ^ n - 1) (v := 2)
  refine G_aload_0 (nx := 1) ⟨dX11_half_0, rfl⟩ ?_
  refine G_getr (nx := 4) (k := 0) (r := 1) ⟨dX11_half_1, rfl⟩ fX11_10 q_0 yr_11_0 (r_0_0 _) ?_
  refine G_iload_1 (nx := 5) ⟨dX11_half_4, rfl⟩ ?_
  refine G_cv1 (nx := 8) ⟨dX11_half_5, rfl⟩ kX11_137 rfl q_1 rfl (Nat.le_of_ble_eq_true rfl) (Nat.le_of_ble_eq_true rfl) (cN_has nt1 hX ?_)
  refine G_ifne (tgt := 14) (nx := 11) ⟨dX11_half_8, rfl⟩ rfl (fun c_8 => ?_) (fun c_8 => ?_)
  · rw [bi_n0] at c_8
    obtain ⟨p0, hp0, ep⟩ := ptB_ex (by omega) c_8
    subst ep
    refine G_aload_0 (nx := 15) ⟨dX11_half_14, rfl⟩ ?_
    refine G_getr (nx := 18) (k := 0) (r := 16) ⟨dX11_half_15, rfl⟩ fX11_25 q_0 yr_11_3 (r_0_3 _) ?_
    refine G_aload_0 (nx := 19) ⟨dX11_half_18, rfl⟩ ?_
    refine G_getr (nx := 22) (k := 0) (r := 1) ⟨dX11_half_19, rfl⟩ fX11_10 q_0 yr_11_0 (r_0_0 _) ?_
    refine G_getr (nx := 25) (k := 1) (r := 4) ⟨dX11_half_22, rfl⟩ fX11_151 q_1 yr_4_2 (r_1_2 _) ?_
    refine G_aload_0 (nx := 26) ⟨dX11_half_25, rfl⟩ ?_
    refine G_getr (nx := 29) (k := 0) (r := 1) ⟨dX11_half_26, rfl⟩ fX11_10 q_0 yr_11_0 (r_0_0 _) ?_
    refine G_cv0 (nx := 32) ⟨dX11_half_29, rfl⟩ kX11_194 rfl q_1 rfl (Nat.le_of_ble_eq_true rfl) (Nat.le_of_ble_eq_true rfl) (cN_all nt1 hX ?_)
    refine G_cvv2 (nx := 35) ⟨dX11_half_32, rfl⟩ kX11_216 rfl q_16 rfl (Nat.le_of_ble_eq_true rfl) (Nat.le_of_ble_eq_true rfl) (cH_settle ht16 q_4 (by decide) hX.2 hW (show 2 ^ n - 1 < 2 ^ n by omega) (fun I1 g5 g6 g7 hs1 => ?_))
    refine G_aload_0 (nx := 36) ⟨dX11_half_35, rfl⟩ ?_
    refine G_getr (nx := 39) (k := 0) (r := 16) ⟨dX11_half_36, rfl⟩ fX11_25 q_0 yr_11_3 (r_0_3 _) ?_
    refine G_geti (nx := 42) (k := 16) ⟨dX11_half_39, rfl⟩ fX11_231 q_16 yi_2_5 ?_
    rw [g5]
    refine G_iload_1 (nx := 43) ⟨dX11_half_42, rfl⟩ ?_
    refine G_ishr (nx := 44) ⟨dX11_half_43, rfl⟩ ?_
    refine G_iconst (nx := 45) ⟨dX11_half_44, rfl⟩ ci_1 ?_
    refine G_iand (nx := 46) ⟨dX11_half_45, rfl⟩ ?_
    rw [bit_nI (by omega) (by omega)]
    refine G_ifeq (tgt := 51) (nx := 49) ⟨dX11_half_46, rfl⟩ rfl (fun c_46 => ?_) (fun c_46 => ?_)
    · refine G_aload_0 (nx := 52) ⟨dX11_half_51, rfl⟩ ?_
      refine G_getr (nx := 55) (k := 0) (r := 16) ⟨dX11_half_52, rfl⟩ fX11_25 q_0 yr_11_3 (r_0_3 _) ?_
      refine G_geti (nx := 58) (k := 16) ⟨dX11_half_55, rfl⟩ fX11_220 q_16 yi_2_6 ?_
      rw [g6]
      refine G_iload_1 (nx := 59) ⟨dX11_half_58, rfl⟩ ?_
      refine G_ishr (nx := 60) ⟨dX11_half_59, rfl⟩ ?_
      refine G_iconst (nx := 61) ⟨dX11_half_60, rfl⟩ ci_1 ?_
      refine G_iand (nx := 62) ⟨dX11_half_61, rfl⟩ ?_
      rw [bit_nI (by omega) (by omega)]
      refine G_ifeq (tgt := 69) (nx := 65) ⟨dX11_half_62, rfl⟩ rfl (fun c_62 => ?_) (fun c_62 => ?_)
      · refine G_iconst (nx := 70) ⟨dX11_half_69, rfl⟩ ci_2 ?_
        refine G_iret ⟨dX11_half_70, rfl⟩ rfl ?_
        (try simp only [bi_0, bi_n0] at c_46 c_62)
        refine K_v (congrArg Value.int ?_) (hk p0 I1 hp0 rfl hs1)
        simp [c_46, c_62]
      · refine G_iconst (nx := 66) ⟨dX11_half_65, rfl⟩ ci_1 ?_
        refine G_goto (tgt := 70) ⟨dX11_half_66, rfl⟩ rfl ?_
        refine G_iret ⟨dX11_half_70, rfl⟩ rfl ?_
        (try simp only [bi_0, bi_n0] at c_46 c_62)
        refine K_v (congrArg Value.int ?_) (hk p0 I1 hp0 rfl hs1)
        simp [c_46, c_62]
    · refine G_iconst (nx := 50) ⟨dX11_half_49, rfl⟩ ci_0 ?_
      refine G_iret ⟨dX11_half_50, rfl⟩ rfl ?_
      (try simp only [bi_0, bi_n0] at c_46)
      refine K_v (congrArg Value.int ?_) (hk p0 I1 hp0 rfl hs1)
      simp [c_46]
  · refine G_bipush (nx := 13) ⟨dX11_half_11, rfl⟩ cb_m2 ?_
    refine G_iret ⟨dX11_half_13, rfl⟩ rfl ?_
    rw [bi_0] at c_8
    exact hk1 c_8

theorem cX_mayHave {q : Int32} (hX : XG I 1 4 n gr) (hW : WG n gr) (hk1 : ptB n q = false → K (.int (-2)) I J (rX g)) (hk : ∀ (p r : Nat) (I' : AI), p < n → q = nI p → r < 8 → (∀ v, v < 3 → (r.testBit v = true ↔ Ex n gr (2 ^ n - 1) 0 (fun _ => 0) (tau gr (2 ^ n - 1) (2 ^ n - 1)) (some p) v)) → sb (fMp 16) I I' → K (.int (nI r)) I' J (rX g)) : G l (d + 40) mX11_mayHave K 0 [.ref 0, .int q] [] I J (rX g) := by
  have hn := hX.2.1
  have h1p := Nat.two_pow_pos n
  refine G_aload_0 (nx := 1) ⟨dX11_mayHave_0, rfl⟩ ?_
  refine G_getr (nx := 4) (k := 0) (r := 1) ⟨dX11_mayHave_1, rfl⟩ fX11_10 q_0 yr_11_0 (r_0_0 _) ?_
  refine G_iload_1 (nx := 5) ⟨dX11_mayHave_4, rfl⟩ ?_
  refine G_cv1 (nx := 8) ⟨dX11_mayHave_5, rfl⟩ kX11_137 rfl q_1 rfl (Nat.le_of_ble_eq_true rfl) (Nat.le_of_ble_eq_true rfl) (cN_has nt1 hX ?_)
  refine G_ifne (tgt := 14) (nx := 11) ⟨dX11_mayHave_8, rfl⟩ rfl (fun c_8 => ?_) (fun c_8 => ?_)
  · rw [bi_n0] at c_8
    obtain ⟨p0, hp0, ep⟩ := ptB_ex (by omega) c_8
    subst ep
    refine G_aload_0 (nx := 15) ⟨dX11_mayHave_14, rfl⟩ ?_
    refine G_getr (nx := 18) (k := 0) (r := 16) ⟨dX11_mayHave_15, rfl⟩ fX11_25 q_0 yr_11_3 (r_0_3 _) ?_
    refine G_aload_0 (nx := 19) ⟨dX11_mayHave_18, rfl⟩ ?_
    refine G_getr (nx := 22) (k := 0) (r := 1) ⟨dX11_mayHave_19, rfl⟩ fX11_10 q_0 yr_11_0 (r_0_0 _) ?_
    refine G_getr (nx := 25) (k := 1) (r := 4) ⟨dX11_mayHave_22, rfl⟩ fX11_151 q_1 yr_4_2 (r_1_2 _) ?_
    refine G_aload_0 (nx := 26) ⟨dX11_mayHave_25, rfl⟩ ?_
    refine G_getr (nx := 29) (k := 0) (r := 1) ⟨dX11_mayHave_26, rfl⟩ fX11_10 q_0 yr_11_0 (r_0_0 _) ?_
    refine G_cv0 (nx := 32) ⟨dX11_mayHave_29, rfl⟩ kX11_194 rfl q_1 rfl (Nat.le_of_ble_eq_true rfl) (Nat.le_of_ble_eq_true rfl) (cN_all nt1 hX ?_)
    refine G_iload_1 (nx := 33) ⟨dX11_mayHave_32, rfl⟩ ?_
    refine G_cv3 (nx := 36) ⟨dX11_mayHave_33, rfl⟩ kX11_234 rfl q_16 rfl (Nat.le_of_ble_eq_true rfl) (Nat.le_of_ble_eq_true rfl) (cH_possible ht16 q_4 (by decide) hX.2 hW (show 2 ^ n - 1 < 2 ^ n by omega) (by rw [Nat.testBit_two_pow_sub_one]; simp [hp0]) (fun r I1 h8 hb hs1 => ?_))
    refine G_iret ⟨dX11_mayHave_36, rfl⟩ rfl ?_
    exact hk p0 r I1 hp0 rfl h8 hb hs1
  · refine G_bipush (nx := 13) ⟨dX11_mayHave_11, rfl⟩ cb_m2 ?_
    refine G_iret ⟨dX11_mayHave_13, rfl⟩ rfl ?_
    rw [bi_0] at c_8
    exact hk1 c_8

theorem cX_mate {q : Int32} {ma : Nat → Nat} (hX : XG I 1 4 n gr) (hW : WG n gr) (hLM : LM gr (pc (hz n gr (2 ^ n - 1) 2)) (hz n gr (2 ^ n - 1) 2) (hz n gr (2 ^ n - 1) 0) ma) (hk1 : ptB n q = false → K (.int (-2)) I J (rX g)) (hk : ∀ (p : Nat) (r : Int32) (I' : AI), p < n → q = nI p → ((hz n gr (2 ^ n - 1) 2).testBit p = true → r = nI (ma p)) → (∀ h, (hz n gr (2 ^ n - 1) 2).testBit h = true → ma h = p → r = nI h) → ((hz n gr (2 ^ n - 1) 2).testBit p = false → (∀ h, (hz n gr (2 ^ n - 1) 2).testBit h = true → ¬ ma h = p) → r = -1) → sb (fHs 16) I I' → K (.int r) I' J (rX g)) : G l (d + 40) mX11_mate K 0 [.ref 0, .int q] [] I J (rX g) := by
  have hn := hX.2.1
  have hp12 := pow12 hn
  have h1p := Nat.two_pow_pos n
  have z0l := hz_lt (n := n) (gr := gr) (P := 2 ^ n - 1) (v := 0)
  have z1l := hz_lt (n := n) (gr := gr) (P := 2 ^ n - 1) (v := 1)
  have z2l := hz_lt (n := n) (gr := gr) (P := 2 ^ n - 1) (v := 2)
  have hdis : ∀ x, (hz n gr (2 ^ n - 1) 2).testBit x = true → (hz n gr (2 ^ n - 1) 0).testBit x = false := fun x hx => by
    have h2 := (hset_t.mp hx).2.2
    cases q0 : (hz n gr (2 ^ n - 1) 0).testBit x with
    | false => rfl
    | true => rw [(hset_t.mp q0).2.2] at h2; cases h2
  refine G_aload_0 (nx := 1) ⟨dX11_mate_0, rfl⟩ ?_
  refine G_getr (nx := 4) (k := 0) (r := 1) ⟨dX11_mate_1, rfl⟩ fX11_10 q_0 yr_11_0 (r_0_0 _) ?_
  refine G_iload_1 (nx := 5) ⟨dX11_mate_4, rfl⟩ ?_
  refine G_cv1 (nx := 8) ⟨dX11_mate_5, rfl⟩ kX11_137 rfl q_1 rfl (Nat.le_of_ble_eq_true rfl) (Nat.le_of_ble_eq_true rfl) (cN_has nt1 hX ?_)
  refine G_ifne (tgt := 14) (nx := 11) ⟨dX11_mate_8, rfl⟩ rfl (fun c_8 => ?_) (fun c_8 => ?_)
  · rw [bi_n0] at c_8
    obtain ⟨p0, hp0, ep⟩ := ptB_ex (by omega) c_8
    subst ep
    refine G_aload_0 (nx := 15) ⟨dX11_mate_14, rfl⟩ ?_
    refine G_getr (nx := 18) (k := 0) (r := 16) ⟨dX11_mate_15, rfl⟩ fX11_25 q_0 yr_11_3 (r_0_3 _) ?_
    refine G_aload_0 (nx := 19) ⟨dX11_mate_18, rfl⟩ ?_
    refine G_getr (nx := 22) (k := 0) (r := 1) ⟨dX11_mate_19, rfl⟩ fX11_10 q_0 yr_11_0 (r_0_0 _) ?_
    refine G_getr (nx := 25) (k := 1) (r := 4) ⟨dX11_mate_22, rfl⟩ fX11_151 q_1 yr_4_2 (r_1_2 _) ?_
    refine G_aload_0 (nx := 26) ⟨dX11_mate_25, rfl⟩ ?_
    refine G_getr (nx := 29) (k := 0) (r := 1) ⟨dX11_mate_26, rfl⟩ fX11_10 q_0 yr_11_0 (r_0_0 _) ?_
    refine G_cv0 (nx := 32) ⟨dX11_mate_29, rfl⟩ kX11_194 rfl q_1 rfl (Nat.le_of_ble_eq_true rfl) (Nat.le_of_ble_eq_true rfl) (cN_all nt1 hX ?_)
    refine G_cvv2 (nx := 35) ⟨dX11_mate_32, rfl⟩ kX11_216 rfl q_16 rfl (Nat.le_of_ble_eq_true rfl) (Nat.le_of_ble_eq_true rfl) (cH_settle ht16 q_4 (by decide) hX.2 hW (show 2 ^ n - 1 < 2 ^ n by omega) (fun I1 g5 g6 g7 hs1 => ?_))
    have hR1 : RG I1 4 n gr := hX.2.sb hs1 (fun _ => fHs_f (by omega))
    refine G_aload_0 (nx := 36) ⟨dX11_mate_35, rfl⟩ ?_
    refine G_getr (nx := 39) (k := 0) (r := 16) ⟨dX11_mate_36, rfl⟩ fX11_25 q_0 yr_11_3 (r_0_3 _) ?_
    refine G_aload_0 (nx := 40) ⟨dX11_mate_39, rfl⟩ ?_
    refine G_getr (nx := 43) (k := 0) (r := 1) ⟨dX11_mate_40, rfl⟩ fX11_10 q_0 yr_11_0 (r_0_0 _) ?_
    refine G_getr (nx := 46) (k := 1) (r := 4) ⟨dX11_mate_43, rfl⟩ fX11_151 q_1 yr_4_2 (r_1_2 _) ?_
    refine G_aload_0 (nx := 47) ⟨dX11_mate_46, rfl⟩ ?_
    refine G_getr (nx := 50) (k := 0) (r := 16) ⟨dX11_mate_47, rfl⟩ fX11_25 q_0 yr_11_3 (r_0_3 _) ?_
    refine G_geti (nx := 53) (k := 16) ⟨dX11_mate_50, rfl⟩ fX11_228 q_16 yi_2_7 ?_
    rw [g7]
    refine G_aload_0 (nx := 54) ⟨dX11_mate_53, rfl⟩ ?_
    refine G_getr (nx := 57) (k := 0) (r := 16) ⟨dX11_mate_54, rfl⟩ fX11_25 q_0 yr_11_3 (r_0_3 _) ?_
    refine G_geti (nx := 60) (k := 16) ⟨dX11_mate_57, rfl⟩ fX11_231 q_16 yi_2_5 ?_
    rw [g5]
    refine G_iload_1 (nx := 61) ⟨dX11_mate_60, rfl⟩ ?_
    refine G_cv4 (nx := 64) ⟨dX11_mate_61, rfl⟩ kX11_238 rfl q_16 rfl (Nat.le_of_ble_eq_true rfl) (Nat.le_of_ble_eq_true rfl) (cH_firstMate ht16 q_4 (by decide) hR1 z2l z0l hp0 hdis hLM (fun I2 r h1 h2 h3 hs2 => ?_))
    refine G_iret ⟨dX11_mate_64, rfl⟩ rfl ?_
    exact hk p0 r I2 hp0 rfl h1 h2 h3 (hs1.tr (sb_Ms hs2))
  · refine G_bipush (nx := 13) ⟨dX11_mate_11, rfl⟩ cb_m2 ?_
    refine G_iret ⟨dX11_mate_13, rfl⟩ rfl ?_
    rw [bi_0] at c_8
    exact hk1 c_8

def fPe (x y : Nat) : Bool := fC x y || fHs 16 x y
theorem cX_persists (hX : XG I 1 4 n gr) (hW : WG n gr) (hk : ∀ (I' : AI), sb fPe I I' → K (.int (nI (peN n gr (leN n gr) (hz n gr (2 ^ n - 1) 2) (hz n gr (2 ^ n - 1) 0)))) I' J (rX g)) : G l (d + 40) mX11_persists K 0 [.ref 0, UU] [] I J (rX g) := by
  have hn := hX.2.1
  have hp12 := pow12 hn
  have h1p := Nat.two_pow_pos n
  have z0l := hz_lt (n := n) (gr := gr) (P := 2 ^ n - 1) (v := 0)
  have z1l := hz_lt (n := n) (gr := gr) (P := 2 ^ n - 1) (v := 1)
  have z2l := hz_lt (n := n) (gr := gr) (P := 2 ^ n - 1) (v := 2)
  have hll := leN_le n gr
  refine G_aload_0 (nx := 1) ⟨dX11_persists_0, rfl⟩ ?_
  refine G_getr (nx := 4) (k := 0) (r := 16) ⟨dX11_persists_1, rfl⟩ fX11_25 q_0 yr_11_3 (r_0_3 _) ?_
  refine G_aload_0 (nx := 5) ⟨dX11_persists_4, rfl⟩ ?_
  refine G_getr (nx := 8) (k := 0) (r := 1) ⟨dX11_persists_5, rfl⟩ fX11_10 q_0 yr_11_0 (r_0_0 _) ?_
  refine G_getr (nx := 11) (k := 1) (r := 4) ⟨dX11_persists_8, rfl⟩ fX11_151 q_1 yr_4_2 (r_1_2 _) ?_
  refine G_aload_0 (nx := 12) ⟨dX11_persists_11, rfl⟩ ?_
  refine G_getr (nx := 15) (k := 0) (r := 1) ⟨dX11_persists_12, rfl⟩ fX11_10 q_0 yr_11_0 (r_0_0 _) ?_
  refine G_cv0 (nx := 18) ⟨dX11_persists_15, rfl⟩ kX11_194 rfl q_1 rfl (Nat.le_of_ble_eq_true rfl) (Nat.le_of_ble_eq_true rfl) (cN_all nt1 hX ?_)
  refine G_cvv2 (nx := 21) ⟨dX11_persists_18, rfl⟩ kX11_216 rfl q_16 rfl (Nat.le_of_ble_eq_true rfl) (Nat.le_of_ble_eq_true rfl) (cH_settle ht16 q_4 (by decide) hX.2 hW (show 2 ^ n - 1 < 2 ^ n by omega) (fun I1 g5 g6 g7 hs1 => ?_))
  have hX1 : XG I1 1 4 n gr := hX.sb hs1 (fHs_f (by omega)) (fun _ => fHs_f (by omega))
  refine G_aload_0 (nx := 22) ⟨dX11_persists_21, rfl⟩ ?_
  refine G_getr (nx := 25) (k := 0) (r := 1) ⟨dX11_persists_22, rfl⟩ fX11_10 q_0 yr_11_0 (r_0_0 _) ?_
  refine G_getr (nx := 28) (k := 1) (r := 4) ⟨dX11_persists_25, rfl⟩ fX11_151 q_1 yr_4_2 (r_1_2 _) ?_
  refine G_aload_0 (nx := 29) ⟨dX11_persists_28, rfl⟩ ?_
  refine G_getr (nx := 32) (k := 0) (r := 1) ⟨dX11_persists_29, rfl⟩ fX11_10 q_0 yr_11_0 (r_0_0 _) ?_
  refine G_cv0 (nx := 35) ⟨dX11_persists_32, rfl⟩ kX11_194 rfl q_1 rfl (Nat.le_of_ble_eq_true rfl) (Nat.le_of_ble_eq_true rfl) (cN_all nt1 hX1 ?_)
  refine G_cs2 (nx := 38) ⟨dX11_persists_35, rfl⟩ kX11_242 rfl rfl (Nat.le_of_ble_eq_true rfl) (Nat.le_of_ble_eq_true rfl) (cC_fewestOf q_4 hX1.2 hW (show 2 ^ n - 1 < 2 ^ n by omega) (fun k hT1 => ?_))
  rw [T_all hn hW.1 hT1]
  refine G_istore_1 (nx := 39) ⟨dX11_persists_38, rfl⟩ rfl rfl ?_
  refine G_aload_0 (nx := 40) ⟨dX11_persists_39, rfl⟩ ?_
  refine G_getr (nx := 43) (k := 0) (r := 22) ⟨dX11_persists_40, rfl⟩ fX11_34 q_0 yr_11_4 (r_0_4 _) ?_
  refine G_aload_0 (nx := 44) ⟨dX11_persists_43, rfl⟩ ?_
  refine G_getr (nx := 47) (k := 0) (r := 1) ⟨dX11_persists_44, rfl⟩ fX11_10 q_0 yr_11_0 (r_0_0 _) ?_
  refine G_iload_1 (nx := 48) ⟨dX11_persists_47, rfl⟩ ?_
  refine G_aload_0 (nx := 49) ⟨dX11_persists_48, rfl⟩ ?_
  refine G_getr (nx := 52) (k := 0) (r := 16) ⟨dX11_persists_49, rfl⟩ fX11_25 q_0 yr_11_3 (r_0_3 _) ?_
  refine G_geti (nx := 55) (k := 16) ⟨dX11_persists_52, rfl⟩ fX11_228 q_16 yi_2_7 ?_
  rw [g7]
  refine G_aload_0 (nx := 56) ⟨dX11_persists_55, rfl⟩ ?_
  refine G_getr (nx := 59) (k := 0) (r := 16) ⟨dX11_persists_56, rfl⟩ fX11_25 q_0 yr_11_3 (r_0_3 _) ?_
  refine G_geti (nx := 62) (k := 16) ⟨dX11_persists_59, rfl⟩ fX11_231 q_16 yi_2_5 ?_
  rw [g5]
  refine G_cv4 (nx := 65) ⟨dX11_persists_62, rfl⟩ kX11_203 rfl q_22 rfl (Nat.le_of_ble_eq_true rfl) (Nat.le_of_ble_eq_true rfl) (cC_howManyOf hX1 (by omega) (by omega) (by omega) (fun I2 hs2 => ?_))
  refine G_iret ⟨dX11_persists_65, rfl⟩ rfl ?_
  exact hk I2 ((hs1.mono (fun x y h => by unfold fPe at h; rw [Bool.or_eq_false_iff] at h; exact h.2)).tr (hs2.mono (fun x y h => by unfold fPe at h; rw [Bool.or_eq_false_iff] at h; exact h.1)))

theorem cX_isCrown {q : Int32} (hX : XG I 1 4 n gr) (hk1 : stB n q = false → K (.int (-2)) I J (rX g)) (hk : ∀ (s : Nat) (I' : AI), s < 2 ^ n → q = nI s → sb (fMp 16) I I' → K (.int (bi (crB n gr s))) I' J (rX g)) : G l (d + 40) mX11_isCrown K 0 [.ref 0, .int q] [] I J (rX g) := by
  have hn := hX.2.1
  have hp12 := pow12 hn
  refine G_aload_0 (nx := 1) ⟨dX11_isCrown_0, rfl⟩ ?_
  refine G_getr (nx := 4) (k := 0) (r := 1) ⟨dX11_isCrown_1, rfl⟩ fX11_10 q_0 yr_11_0 (r_0_0 _) ?_
  refine G_iload_1 (nx := 5) ⟨dX11_isCrown_4, rfl⟩ ?_
  refine G_cv1 (nx := 8) ⟨dX11_isCrown_5, rfl⟩ kX11_166 rfl q_1 rfl (Nat.le_of_ble_eq_true rfl) (Nat.le_of_ble_eq_true rfl) (cN_hasAll nt1 hX ?_)
  refine G_ifne (tgt := 14) (nx := 11) ⟨dX11_isCrown_8, rfl⟩ rfl (fun c_8 => ?_) (fun c_8 => ?_)
  · rw [bi_n0] at c_8
    obtain ⟨s, hs, es⟩ := stB_ex hn c_8
    subst es
    refine G_aload_0 (nx := 15) ⟨dX11_isCrown_14, rfl⟩ ?_
    refine G_getr (nx := 18) (k := 0) (r := 1) ⟨dX11_isCrown_15, rfl⟩ fX11_10 q_0 yr_11_0 (r_0_0 _) ?_
    refine G_aload_0 (nx := 19) ⟨dX11_isCrown_18, rfl⟩ ?_
    refine G_getr (nx := 22) (k := 0) (r := 16) ⟨dX11_isCrown_19, rfl⟩ fX11_25 q_0 yr_11_3 (r_0_3 _) ?_
    refine G_iload_1 (nx := 23) ⟨dX11_isCrown_22, rfl⟩ ?_
    refine G_aload_0 (nx := 24) ⟨dX11_isCrown_23, rfl⟩ ?_
    refine G_getr (nx := 27) (k := 0) (r := 1) ⟨dX11_isCrown_24, rfl⟩ fX11_10 q_0 yr_11_0 (r_0_0 _) ?_
    refine G_iload_1 (nx := 28) ⟨dX11_isCrown_27, rfl⟩ ?_
    refine G_cv1 (nx := 31) ⟨dX11_isCrown_28, rfl⟩ kX11_246 rfl q_1 rfl (Nat.le_of_ble_eq_true rfl) (Nat.le_of_ble_eq_true rfl) (cN_near nt1 hX (show s < 4096 by omega) ?_)
    refine G_cs4 (nx := 34) ⟨dX11_isCrown_31, rfl⟩ kX11_249 rfl rfl (Nat.le_of_ble_eq_true rfl) (Nat.le_of_ble_eq_true rfl) (cW_isOne hX hs (fun I1 hs1 => ?_))
    refine G_ifeq (tgt := 41) (nx := 37) ⟨dX11_isCrown_34, rfl⟩ rfl (fun c_34 => ?_) (fun c_34 => ?_)
    · refine G_iconst (nx := 42) ⟨dX11_isCrown_41, rfl⟩ ci_0 ?_
      refine G_iret ⟨dX11_isCrown_42, rfl⟩ rfl ?_
      rw [bi_0] at c_34
      refine K_v (congrArg Value.int ?_) (hk s I1 hs rfl hs1)
      rw [c_34]
      rfl
    · refine G_iconst (nx := 38) ⟨dX11_isCrown_37, rfl⟩ ci_1 ?_
      refine G_goto (tgt := 42) ⟨dX11_isCrown_38, rfl⟩ rfl ?_
      refine G_iret ⟨dX11_isCrown_42, rfl⟩ rfl ?_
      rw [bi_n0] at c_34
      refine K_v (congrArg Value.int ?_) (hk s I1 hs rfl hs1)
      rw [c_34]
      rfl
  · refine G_bipush (nx := 13) ⟨dX11_isCrown_11, rfl⟩ cb_m2 ?_
    refine G_iret ⟨dX11_isCrown_13, rfl⟩ rfl ?_
    rw [bi_0] at c_8
    exact hk1 c_8

theorem cX_crowns {q : Int32} (hX : XG I 1 4 n gr) (hk1 : inR q 0 2 = false → K (.int (-2)) I J (rX g)) (hk : inR q 0 2 = true → ∀ (I' : AI), sb fW I I' → K (.int (if q = 0 then nI (crN n gr).1 else if (crN n gr).1 = 0 then -1 else if q = 1 then nI (crN n gr).2 else nI (ntN n gr (crN n gr).2))) I' J (rX g)) : G l (d + 40) mX11_crowns K 0 [.ref 0, .int q] [] I J (rX g) := by
  have hn := hX.2.1
  have hp12 := pow12 hn
  obtain ⟨hc1, hc2⟩ := crN_lt (n := n) (gr := gr) (2 ^ n) (Nat.le_refl _)
  have hc1' : (crN n gr).2 < 2 ^ n := hc1
  have hc2' : (crN n gr).1 ≤ 2 ^ n := hc2
  refine G_iload_1 (nx := 1) ⟨dX11_crowns_0, rfl⟩ ?_
  refine G_iconst (nx := 2) ⟨dX11_crowns_1, rfl⟩ ci_0 ?_
  refine G_iconst (nx := 3) ⟨dX11_crowns_2, rfl⟩ ci_2 ?_
  refine G_cs3 (nx := 6) ⟨dX11_crowns_3, rfl⟩ kX11_126 rfl rfl (Nat.le_of_ble_eq_true rfl) (Nat.le_of_ble_eq_true rfl) (cX_within ?_)
  refine G_ifne (tgt := 12) (nx := 9) ⟨dX11_crowns_6, rfl⟩ rfl (fun c_6 => ?_) (fun c_6 => ?_)
  · rw [bi_n0] at c_6
    refine G_aload_0 (nx := 13) ⟨dX11_crowns_12, rfl⟩ ?_
    refine G_getr (nx := 16) (k := 0) (r := 24) ⟨dX11_crowns_13, rfl⟩ fX11_41 q_0 yr_11_5 (r_0_5 _) ?_
    refine G_aload_0 (nx := 17) ⟨dX11_crowns_16, rfl⟩ ?_
    refine G_getr (nx := 20) (k := 0) (r := 1) ⟨dX11_crowns_17, rfl⟩ fX11_10 q_0 yr_11_0 (r_0_0 _) ?_
    refine G_aload_0 (nx := 21) ⟨dX11_crowns_20, rfl⟩ ?_
    refine G_getr (nx := 24) (k := 0) (r := 16) ⟨dX11_crowns_21, rfl⟩ fX11_25 q_0 yr_11_3 (r_0_3 _) ?_
    refine G_aload_0 (nx := 25) ⟨dX11_crowns_24, rfl⟩ ?_
    refine G_getr (nx := 28) (k := 0) (r := 22) ⟨dX11_crowns_25, rfl⟩ fX11_34 q_0 yr_11_4 (r_0_4 _) ?_
    refine G_cvv3 (nx := 31) ⟨dX11_crowns_28, rfl⟩ kX11_253 rfl q_24 rfl (Nat.le_of_ble_eq_true rfl) (Nat.le_of_ble_eq_true rfl) (cW_find hX (fun I1 f0 f1 hs1 => ?_))
    refine G_iload_1 (nx := 32) ⟨dX11_crowns_31, rfl⟩ ?_
    refine G_ifne (tgt := 43) (nx := 35) ⟨dX11_crowns_32, rfl⟩ rfl (fun c_32 => ?_) (fun c_32 => ?_)
    · refine G_aload_0 (nx := 44) ⟨dX11_crowns_43, rfl⟩ ?_
      refine G_getr (nx := 47) (k := 0) (r := 24) ⟨dX11_crowns_44, rfl⟩ fX11_41 q_0 yr_11_5 (r_0_5 _) ?_
      refine G_geti (nx := 50) (k := 24) ⟨dX11_crowns_47, rfl⟩ fX11_257 q_24 yi_1_0 ?_
      rw [f0]
      refine G_ifne (tgt := 55) (nx := 53) ⟨dX11_crowns_50, rfl⟩ rfl (fun c_50 => ?_) (fun c_50 => ?_)
      · refine G_iload_1 (nx := 56) ⟨dX11_crowns_55, rfl⟩ ?_
        refine G_iconst (nx := 57) ⟨dX11_crowns_56, rfl⟩ ci_1 ?_
        refine G_icmpne (tgt := 70) (nx := 60) ⟨dX11_crowns_57, rfl⟩ rfl (fun c_57 => ?_) (fun c_57 => ?_)
        · refine G_aload_0 (nx := 71) ⟨dX11_crowns_70, rfl⟩ ?_
          refine G_getr (nx := 74) (k := 0) (r := 1) ⟨dX11_crowns_71, rfl⟩ fX11_10 q_0 yr_11_0 (r_0_0 _) ?_
          refine G_aload_0 (nx := 75) ⟨dX11_crowns_74, rfl⟩ ?_
          refine G_getr (nx := 78) (k := 0) (r := 24) ⟨dX11_crowns_75, rfl⟩ fX11_41 q_0 yr_11_5 (r_0_5 _) ?_
          refine G_geti (nx := 81) (k := 24) ⟨dX11_crowns_78, rfl⟩ fX11_258 q_24 yi_1_1 ?_
          rw [f1]
          refine G_cv1 (nx := 84) ⟨dX11_crowns_81, rfl⟩ kX11_246 rfl q_1 rfl (Nat.le_of_ble_eq_true rfl) (Nat.le_of_ble_eq_true rfl) (cN_near nt1 (hX.sb hs1 rfl (fun _ => rfl)) (show (crN n gr).2 < 4096 by omega) ?_)
          refine G_iret ⟨dX11_crowns_84, rfl⟩ rfl ?_
          rw [nI_0iff (by omega)] at c_50
          refine K_v (congrArg Value.int ?_) (hk c_6 I1 hs1)
          simp [c_32, c_50, c_57]
        · refine G_aload_0 (nx := 61) ⟨dX11_crowns_60, rfl⟩ ?_
          refine G_getr (nx := 64) (k := 0) (r := 24) ⟨dX11_crowns_61, rfl⟩ fX11_41 q_0 yr_11_5 (r_0_5 _) ?_
          refine G_geti (nx := 67) (k := 24) ⟨dX11_crowns_64, rfl⟩ fX11_258 q_24 yi_1_1 ?_
          rw [f1]
          refine G_goto (tgt := 84) ⟨dX11_crowns_67, rfl⟩ rfl ?_
          refine G_iret ⟨dX11_crowns_84, rfl⟩ rfl ?_
          rw [nI_0iff (by omega)] at c_50
          refine K_v (congrArg Value.int ?_) (hk c_6 I1 hs1)
          simp [c_32, c_50, c_57]
      · refine G_iconst (nx := 54) ⟨dX11_crowns_53, rfl⟩ ci_m1 ?_
        refine G_iret ⟨dX11_crowns_54, rfl⟩ rfl ?_
        rw [nI_0iff (by omega)] at c_50
        refine K_v (congrArg Value.int ?_) (hk c_6 I1 hs1)
        simp [c_32, c_50]
    · refine G_aload_0 (nx := 36) ⟨dX11_crowns_35, rfl⟩ ?_
      refine G_getr (nx := 39) (k := 0) (r := 24) ⟨dX11_crowns_36, rfl⟩ fX11_41 q_0 yr_11_5 (r_0_5 _) ?_
      refine G_geti (nx := 42) (k := 24) ⟨dX11_crowns_39, rfl⟩ fX11_257 q_24 yi_1_0 ?_
      rw [f0]
      refine G_iret ⟨dX11_crowns_42, rfl⟩ rfl ?_
      refine K_v (congrArg Value.int ?_) (hk c_6 I1 hs1)
      simp [c_32]
  · refine G_bipush (nx := 11) ⟨dX11_crowns_9, rfl⟩ cb_m2 ?_
    refine G_iret ⟨dX11_crowns_11, rfl⟩ rfl ?_
    rw [bi_0] at c_6
    exact hk1 c_6

end X88
