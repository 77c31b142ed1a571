
/-- a fewest cover is bare -/
theorem bar_ex {n : Nat} {gr : Nat → Nat} (hn : n ≤ 12) (hW : WG n gr) : ∃ s, s < 2 ^ n ∧ barB n gr s = true := by
  obtain ⟨s, h1, h2, h3⟩ := (leN_spec (gr := gr) hn).2
  refine ⟨s, h1, ?_⟩
  rw [ndB_bar, h2, Bool.true_and, ndB_iff]
  intro p hp
  cases q : s.testBit p with
  | false => exact Or.inl rfl
  | true =>
    refine Or.inr (fun h0 => ?_)
    have hd : df s (2 ^ p) < 2 ^ n := Nat.lt_of_le_of_lt (df_le _ _) h1
    have hc : covB n gr (df s (2 ^ p)) = true := by
      rw [covB_iff]
      intro r hr
      by_cases e : r = p
      · refine Or.inr (df_0.mpr (fun x hx => ?_))
        rw [e] at hx
        have h4 := df_0.mp h0 x hx
        refine del_t.mpr ⟨h4, fun e2 => ?_⟩
        rw [e2, hW.2.1 p hp] at hx
        cases hx
      · rcases (covB_iff n).mp h2 r hr with h5 | h5
        · exact Or.inl (del_t.mpr ⟨h5, e⟩)
        · cases q2 : s.testBit r with
          | true => exact Or.inl (del_t.mpr ⟨q2, e⟩)
          | false =>
            refine Or.inr (df_0.mpr (fun x hx => ?_))
            refine del_t.mpr ⟨df_0.mp h5 x hx, fun e2 => ?_⟩
            rw [e2, hW.2.2 r p hr hp] at hx
            rw [df_0.mp h0 r hx] at q2
            cases q2
    have := (leN_spec (gr := gr) hn).1 _ hd hc
    have := pc_del (show p < 12 by omega) q
    omega
def BV (I : AI) (n : Nat) (gr : Nat → Nat) (k : Nat) : Prop := I 22 4 = (lp (baF n gr) k (0, -1, -1)).1 ∧ I 22 2 = (lp (baF n gr) k (0, -1, -1)).2.1 ∧ ((∀ s, s < k → barB n gr s = false) ∧ (lp (baF n gr) k (0, -1, -1)).2.1 = -1 ∨ (∃ a, a ≤ 12 ∧ (lp (baF n gr) k (0, -1, -1)).2.1 = nI a) ∧ I 22 3 = (lp (baF n gr) k (0, -1, -1)).2.2)
theorem BV_no {I : AI} {n : Nat} {gr : Nat → Nat} {k : Nat} (h : BV I n gr k) (hc : barB n gr k = false) : BV I n gr (k + 1) := by
  have e : lp (baF n gr) (k + 1) (0, -1, -1) = lp (baF n gr) k (0, -1, -1) := by rw [lp_s, baF, if_neg (by rw [hc]; simp)]
  unfold BV at *
  rw [e]
  refine ⟨h.1, h.2.1, ?_⟩
  rcases h.2.2 with ⟨h1, h2⟩ | h1
  · refine Or.inl ⟨fun s hs => ?_, h2⟩
    by_cases q : s = k
    · rw [q]; exact hc
    · exact h1 s (by omega)
  · exact Or.inr h1
theorem m1_lt (a : Nat) (h : a < 2 ^ 31) : (-1 : Int32) < nI a := by
  rw [i32_lt, nI_toInt h]
  have : (-1 : Int32).toInt = -1 := by decide
  omega
theorem BV_up {I I' : AI} {n : Nat} {gr : Nat → Nat} {k : Nat} (h : BV I n gr k) (hc : barB n gr k = true) (hlt : I 22 2 < nI (pc k)) (e4 : I' 22 4 = I 22 4 + 1) (e2 : I' 22 2 = nI (pc k)) (e3 : I' 22 3 = nI k) : BV I' n gr (k + 1) := by
  have e : lp (baF n gr) (k + 1) (0, -1, -1) = ((lp (baF n gr) k (0, -1, -1)).1 + 1, nI (pc k), nI k) := by
    rw [h.2.1] at hlt
    rw [lp_s, baF, if_pos hc, if_pos hlt, if_pos hlt]
  unfold BV
  rw [e]
  exact ⟨by rw [e4, h.1], e2, Or.inr ⟨⟨pc k, pc_le k, rfl⟩, e3⟩⟩
theorem BV_st {I I' : AI} {n : Nat} {gr : Nat → Nat} {k : Nat} (h : BV I n gr k) (hc : barB n gr k = true) (hlt : ¬ I 22 2 < nI (pc k)) (e4 : I' 22 4 = I 22 4 + 1) (e2 : I' 22 2 = I 22 2) (e3 : I' 22 3 = I 22 3) : BV I' n gr (k + 1) := by
  have hl2 := hlt
  rw [h.2.1] at hl2
  have e : lp (baF n gr) (k + 1) (0, -1, -1) = ((lp (baF n gr) k (0, -1, -1)).1 + 1, (lp (baF n gr) k (0, -1, -1)).2.1, (lp (baF n gr) k (0, -1, -1)).2.2) := by
    rw [lp_s, baF, if_pos hc, if_neg hl2, if_neg hl2]
  unfold BV
  rw [e]
  refine ⟨by rw [e4, h.1], by rw [e2]; exact h.2.1, ?_⟩
  rcases h.2.2 with ⟨h1, h2⟩ | ⟨h1, h2⟩
  · exact absurd (m1_lt (pc k) (by have := pc_le k; omega)) (h2 ▸ hl2)
  · exact Or.inr ⟨h1, by rw [e3]; exact h2⟩
theorem BV_end {I : AI} {n : Nat} {gr : Nat → Nat} (hn : n ≤ 12) (hW : WG n gr) (h : BV I n gr (2 ^ n)) : I 22 4 = (baN n gr).1 ∧ I 22 2 = (baN n gr).2.1 ∧ I 22 3 = (baN n gr).2.2 := by
  refine ⟨h.1, h.2.1, ?_⟩
  rcases h.2.2 with ⟨h1, -⟩ | ⟨-, h⟩
  · obtain ⟨s, hs1, hs2⟩ := bar_ex (gr := gr) hn hW
    rw [h1 s hs1] at hs2
    cases hs2
  · exact h
section X66
variable {l : Launch} {d : Nat} {K : AK} {I : AI} {J : AJ} {g : Bool} {n : Nat} {gr : Nat → Nat}

theorem lC_fb (hX : XG I 1 4 n gr) (hW : WG n gr) (hk : ∀ (I' : AI), BV I' n gr (2 ^ n) → sb fC I I' → K .null I' J (rX g)) : ∀ (k s : Nat) (I1 : AI) (x4 : Value), notL x4 = true → 2 ^ n - s = k → s ≤ 2 ^ n → BV I1 n gr s → SP I1 n gr → sb fC I I1 → G l (d + 1) mX0_findBare K 22 [.ref 22, .ref 1, .int (nI (2 ^ n - 1)), .int (nI s), x4] [] I1 J (rX g) := by
  intro k
  induction k using Nat.strongRecOn with
  | _ k ih =>
  intro s I1 x4 hx4 hsk hsn hF hS hs1
  have hn := hX.2.1
  have hp12 := pow12 hn
  have h1p : 0 < 2 ^ n := Nat.two_pow_pos n
  refine G_iload_3 (nx := 23) ⟨dX0_findBare_22, rfl⟩ ?_
  refine G_iload_2 (nx := 24) ⟨dX0_findBare_23, rfl⟩ ?_
  refine G_icmpgt (tgt := 84) (nx := 27) ⟨dX0_findBare_24, rfl⟩ rfl (fun c_24 => ?_) (fun c_24 => ?_)
  · refine G_vret ⟨dX0_findBare_84, rfl⟩ rfl ?_
    rw [nI_lt_iff (by omega) (by omega)] at c_24
    have e : s = 2 ^ n := by omega
    subst e
    exact hk I1 hF hs1
  · rw [nI_lt_iff (by omega) (by omega)] at c_24
    have hs : s < 2 ^ n := by omega
    have hs4 : s < 4096 := by omega
    have hpl := pc_le s
    have hc := cp_lt hs
    have hic := in4k (show cp n s < 4096 by omega)
    have ec := cl_nI (p := cp n s) (by omega)
    have hnt := ntN_lt hW.1 (cp n s) n (Nat.le_refl n)
    refine G_aload_0 (nx := 28) ⟨dX0_findBare_27, rfl⟩ ?_
    refine G_getr (nx := 31) (k := 22) (r := 21) ⟨dX0_findBare_28, rfl⟩ fX0_31 q_22 yr_0_0 (r_22_0 _) ?_
    refine G_iload_2 (nx := 32) ⟨dX0_findBare_31, rfl⟩ ?_
    refine G_iload_3 (nx := 33) ⟨dX0_findBare_32, rfl⟩ ?_
    refine G_ixor (nx := 34) ⟨dX0_findBare_33, rfl⟩ ?_
    rw [show nI (2 ^ n - 1) ^^^ nI s = nI (cp n s) from nI_xor _ _]
    refine G_iald (nx := 35) (k := 21) ⟨dX0_findBare_34, rfl⟩ q_21 (by first | assumption | decide | (unfold vp_in; decide)) ?_
    rw [ec, hS _ hc]
    refine G_iload_3 (nx := 36) ⟨dX0_findBare_35, rfl⟩ ?_
    refine G_icmpeq (tgt := 42) (nx := 39) ⟨dX0_findBare_36, rfl⟩ rfl (fun c_36 => ?_) (fun c_36 => ?_)
    · refine G_aload_0 (nx := 43) ⟨dX0_findBare_42, rfl⟩ ?_
      refine G_dup (nx := 44) ⟨dX0_findBare_43, rfl⟩ rfl ?_
      refine G_geti (nx := 47) (k := 22) ⟨dX0_findBare_44, rfl⟩ fX0_22 q_22 yi_0_4 ?_
      refine G_iconst (nx := 48) ⟨dX0_findBare_47, rfl⟩ ci_1 ?_
      refine G_iadd (nx := 49) ⟨dX0_findBare_48, rfl⟩ ?_
      refine G_puti (nx := 52) (k := 22) ⟨dX0_findBare_49, rfl⟩ pX0_22 q_22 yt_0_4 ?_
      refine G_iload_3 (nx := 53) ⟨dX0_findBare_52, rfl⟩ ?_
      refine G_cs1 (nx := 56) ⟨dX0_findBare_53, rfl⟩ kX0_53 rfl rfl (Nat.le_of_ble_eq_true rfl) (Nat.le_of_ble_eq_true rfl) (cJ_bc hs4 ?_)
      refine G_istore_4 (nx := 58) ⟨dX0_findBare_56, rfl⟩ rfl rfl ?_
      refine G_iload_4 (nx := 60) ⟨dX0_findBare_58, rfl⟩ ?_
      refine G_aload_0 (nx := 61) ⟨dX0_findBare_60, rfl⟩ ?_
      refine G_geti (nx := 64) (k := 22) ⟨dX0_findBare_61, rfl⟩ fX0_15 q_22 yi_0_2 ?_
      refine G_icmple (tgt := 78) (nx := 67) ⟨dX0_findBare_64, rfl⟩ rfl (fun c_64 => ?_) (fun c_64 => ?_)
      · refine G_iinc_3 (nx := 81) ⟨dX0_findBare_78, rfl⟩ ci_1 rfl ?_
        refine G_goto (tgt := 22) ⟨dX0_findBare_81, rfl⟩ rfl ?_
        rw [nI_eq (by omega) (by omega), nt_bar hW hs] at c_36
        rw [w2_ne _ _ _ _ (by decide)] at c_64
        exact G_L (by rw [nI_1]) (ih (2 ^ n - (s + 1)) (by omega) (s + 1) _ _ rfl rfl (by omega) (BV_st hF c_36 (i32_nlt c_64) (w2_at _ _ _ _) (w2_ne _ _ _ _ (by decide)) (w2_ne _ _ _ _ (by decide))) (fun t ht => by rw [w2_row _ _ _ _ (show ¬ 21 = 22 by decide)]; exact hS t ht) (hs1.w rfl))
      · refine G_aload_0 (nx := 68) ⟨dX0_findBare_67, rfl⟩ ?_
        refine G_iload_4 (nx := 70) ⟨dX0_findBare_68, rfl⟩ ?_
        refine G_puti (nx := 73) (k := 22) ⟨dX0_findBare_70, rfl⟩ pX0_15 q_22 yt_0_2 ?_
        refine G_aload_0 (nx := 74) ⟨dX0_findBare_73, rfl⟩ ?_
        refine G_iload_3 (nx := 75) ⟨dX0_findBare_74, rfl⟩ ?_
        refine G_puti (nx := 78) (k := 22) ⟨dX0_findBare_75, rfl⟩ pX0_19 q_22 yt_0_3 ?_
        refine G_iinc_3 (nx := 81) ⟨dX0_findBare_78, rfl⟩ ci_1 rfl ?_
        refine G_goto (tgt := 22) ⟨dX0_findBare_81, rfl⟩ rfl ?_
        rw [nI_eq (by omega) (by omega), nt_bar hW hs] at c_36
        rw [w2_ne _ _ _ _ (by decide)] at c_64
        exact G_L (by rw [nI_1]) (ih (2 ^ n - (s + 1)) (by omega) (s + 1) _ _ rfl rfl (by omega) (BV_up hF c_36 (i32_lto c_64) (by rw [w2_ne _ _ _ _ (by decide), w2_ne _ _ _ _ (by decide), w2_at]) (by rw [w2_ne _ _ _ _ (by decide), w2_at]) (by rw [w2_at])) (fun t ht => by rw [w2_row _ _ _ _ (show ¬ 21 = 22 by decide), w2_row _ _ _ _ (show ¬ 21 = 22 by decide), w2_row _ _ _ _ (show ¬ 21 = 22 by decide)]; exact hS t ht) (((hs1.w rfl).w rfl).w rfl))
    · refine G_goto (tgt := 78) ⟨dX0_findBare_39, rfl⟩ rfl ?_
      refine G_iinc_3 (nx := 81) ⟨dX0_findBare_78, rfl⟩ ci_1 rfl ?_
      refine G_goto (tgt := 22) ⟨dX0_findBare_81, rfl⟩ rfl ?_
      rw [nI_eq (by omega) (by omega), nt_bar hW hs, Bool.not_eq_true] at c_36
      exact G_L (by rw [nI_1]) (ih (2 ^ n - (s + 1)) (by omega) (s + 1) I1 _ hx4 rfl (by omega) (BV_no hF c_36) hS hs1)

theorem cC_findBare (hX : XG I 1 4 n gr) (hW : WG n gr) (hk : ∀ (I' : AI), I' 22 4 = (baN n gr).1 → I' 22 2 = (baN n gr).2.1 → I' 22 3 = (baN n gr).2.2 → sb fC I I' → K .null I' J (rX g)) : G l (d + 2) mX0_findBare K 0 [.ref 22, .ref 1, UU, UU, UU] [] I J (rX g) := by
  refine G_aload_1 (nx := 1) ⟨dX0_findBare_0, rfl⟩ ?_
  refine G_cv0 (nx := 4) ⟨dX0_findBare_1, rfl⟩ kX0_34 rfl q_1 rfl (Nat.le_of_ble_eq_true rfl) (Nat.le_of_ble_eq_true rfl) (cN_all nt1 hX ?_)
  refine G_istore_2 (nx := 5) ⟨dX0_findBare_4, rfl⟩ rfl rfl ?_
  refine G_aload_0 (nx := 6) ⟨dX0_findBare_5, rfl⟩ ?_
  refine G_aload_1 (nx := 7) ⟨dX0_findBare_6, rfl⟩ ?_
  refine G_cvv1 (nx := 10) ⟨dX0_findBare_7, rfl⟩ kX0_49 rfl q_22 rfl (Nat.le_of_ble_eq_true rfl) (Nat.le_of_ble_eq_true rfl) (cC_spread hX (fun I1 hS hs1 => ?_))
  refine G_aload_0 (nx := 11) ⟨dX0_findBare_10, rfl⟩ ?_
  refine G_iconst (nx := 12) ⟨dX0_findBare_11, rfl⟩ ci_m1 ?_
  refine G_puti (nx := 15) (k := 22) ⟨dX0_findBare_12, rfl⟩ pX0_15 q_22 yt_0_2 ?_
  refine G_aload_0 (nx := 16) ⟨dX0_findBare_15, rfl⟩ ?_
  refine G_iconst (nx := 17) ⟨dX0_findBare_16, rfl⟩ ci_0 ?_
  refine G_puti (nx := 20) (k := 22) ⟨dX0_findBare_17, rfl⟩ pX0_22 q_22 yt_0_4 ?_
  refine G_iconst (nx := 21) ⟨dX0_findBare_20, rfl⟩ ci_0 ?_
  refine G_istore_3 (nx := 22) ⟨dX0_findBare_21, rfl⟩ rfl rfl ?_
  have hs2 : sb fC I I1 := hs1.mono (fun a b h => by simp only [fC, fE, Bool.or_eq_false_iff] at *; exact h.1.1)
  exact G_L (by rw [← nI_0]) (lC_fb hX hW (fun I2 h1 h2 => by
    obtain ⟨r1, r2, r3⟩ := BV_end hX.2.1 hW h1
    exact hk I2 r1 r2 r3 h2) _ 0 _ UU rfl rfl (Nat.zero_le _) ⟨w2_at _ _ _ _, by rw [w2_ne _ _ _ _ (by decide), w2_at]; rfl, Or.inl ⟨fun s hs => absurd hs (by omega), rfl⟩⟩ (fun t ht => by rw [w2_row _ _ _ _ (show ¬ 21 = 22 by decide), w2_row _ _ _ _ (show ¬ 21 = 22 by decide)]; exact hS t ht) ((hs2.w rfl).w rfl))

theorem lC_hm (hX : XG I 1 4 n gr) (hS : SP I n gr) (hk : K (.int (nI (shN n gr))) I J (rX g)) : ∀ (k s : Nat), 2 ^ n - s = k → s ≤ 2 ^ n → G l (d + 1) mX0_howMany K 15 [.ref 22, .ref 1, .int (nI (2 ^ n - 1)), .int (nI (lp (shF n gr) s 0)), .int (nI s)] [] I J (rX g) := by
  intro k
  induction k using Nat.strongRecOn with
  | _ k ih =>
  intro s hsk hsn
  have hn := hX.2.1
  have hg := hX.2.2.2
  have hp12 := pow12 hn
  have h1p : 0 < 2 ^ n := Nat.two_pow_pos n
  refine G_iload_4 (nx := 17) ⟨dX0_howMany_15, rfl⟩ ?_
  refine G_iload_2 (nx := 18) ⟨dX0_howMany_17, rfl⟩ ?_
  refine G_icmpgt (tgt := 41) (nx := 21) ⟨dX0_howMany_18, rfl⟩ rfl (fun c_18 => ?_) (fun c_18 => ?_)
  · refine G_iload_3 (nx := 42) ⟨dX0_howMany_41, rfl⟩ ?_
    refine G_iret ⟨dX0_howMany_42, rfl⟩ rfl ?_
    rw [nI_lt_iff (by omega) (by omega)] at c_18
    have e : s = 2 ^ n := by omega
    subst e
    exact hk
  · rw [nI_lt_iff (by omega) (by omega)] at c_18
    have hs : s < 2 ^ n := by omega
    have hs4 : s < 4096 := by omega
    have hpl := pc_le s
    refine G_aload_0 (nx := 22) ⟨dX0_howMany_21, rfl⟩ ?_
    refine G_iload_2 (nx := 23) ⟨dX0_howMany_22, rfl⟩ ?_
    refine G_iload_4 (nx := 25) ⟨dX0_howMany_23, rfl⟩ ?_
    refine G_ixor (nx := 26) ⟨dX0_howMany_25, rfl⟩ ?_
    rw [show nI (2 ^ n - 1) ^^^ nI s = nI (cp n s) from nI_xor _ _]
    refine G_cv1 (nx := 29) ⟨dX0_howMany_26, rfl⟩ kX0_56 rfl q_22 rfl (Nat.le_of_ble_eq_true rfl) (Nat.le_of_ble_eq_true rfl) (cC_cw hS hn hg hs ?_)
    refine G_ifeq (tgt := 35) (nx := 32) ⟨dX0_howMany_29, rfl⟩ rfl (fun c_29 => ?_) (fun c_29 => ?_)
    · refine G_iinc_4 (nx := 38) ⟨dX0_howMany_35, rfl⟩ ci_1 rfl ?_
      refine G_goto (tgt := 15) ⟨dX0_howMany_38, rfl⟩ rfl ?_
      simp only [bi_0, bi_n0] at c_29
      refine G_L (by simp [lp_s, shF, c_29, nI_1]) (ih (2 ^ n - (s + 1)) (by omega) (s + 1) rfl (by omega))
    · refine G_iinc_3 (nx := 35) ⟨dX0_howMany_32, rfl⟩ ci_1 rfl ?_
      refine G_iinc_4 (nx := 38) ⟨dX0_howMany_35, rfl⟩ ci_1 rfl ?_
      refine G_goto (tgt := 15) ⟨dX0_howMany_38, rfl⟩ rfl ?_
      simp only [bi_0, bi_n0] at c_29
      refine G_L (by simp [lp_s, shF, c_29, nI_1]) (ih (2 ^ n - (s + 1)) (by omega) (s + 1) rfl (by omega))

theorem cC_howMany (hX : XG I 1 4 n gr) (hk : ∀ (I' : AI), sb fC I I' → K (.int (nI (shN n gr))) I' J (rX g)) : G l (d + 2) mX0_howMany K 0 [.ref 22, .ref 1, UU, UU, UU] [] I J (rX g) := by
  refine G_aload_1 (nx := 1) ⟨dX0_howMany_0, rfl⟩ ?_
  refine G_cv0 (nx := 4) ⟨dX0_howMany_1, rfl⟩ kX0_34 rfl q_1 rfl (Nat.le_of_ble_eq_true rfl) (Nat.le_of_ble_eq_true rfl) (cN_all nt1 hX ?_)
  refine G_istore_2 (nx := 5) ⟨dX0_howMany_4, rfl⟩ rfl rfl ?_
  refine G_iconst (nx := 6) ⟨dX0_howMany_5, rfl⟩ ci_0 ?_
  refine G_istore_3 (nx := 7) ⟨dX0_howMany_6, rfl⟩ rfl rfl ?_
  refine G_aload_0 (nx := 8) ⟨dX0_howMany_7, rfl⟩ ?_
  refine G_aload_1 (nx := 9) ⟨dX0_howMany_8, rfl⟩ ?_
  refine G_cvv1 (nx := 12) ⟨dX0_howMany_9, rfl⟩ kX0_49 rfl q_22 rfl (Nat.le_of_ble_eq_true rfl) (Nat.le_of_ble_eq_true rfl) (cC_spread hX (fun I1 hS hs1 => ?_))
  refine G_iconst (nx := 13) ⟨dX0_howMany_12, rfl⟩ ci_0 ?_
  refine G_istore_4 (nx := 15) ⟨dX0_howMany_13, rfl⟩ rfl rfl ?_
  have hs2 : sb fC I I1 := hs1.mono (fun a b h => by simp only [fC, fE, Bool.or_eq_false_iff] at *; exact h.1.1)
  have hX1 : XG I1 1 4 n gr := hX.sb hs2 rfl (fun _ => rfl)
  exact G_L (by rw [← nI_0]; rfl) (lC_hm hX1 hS (hk I1 hs2) _ 0 rfl (Nat.zero_le _))

theorem ins_eq {s i : Nat} : s &&& i = i ↔ df i s = 0 := by
  rw [df_0]
  constructor
  · intro h x hx
    rw [← h, Nat.testBit_and, Bool.and_eq_true] at hx
    exact hx.1
  · intro h
    apply Nat.eq_of_testBit_eq
    intro x
    rw [Nat.testBit_and]
    cases q : i.testBit x with
    | false => simp
    | true => rw [h x q]; rfl
theorem lC_ho {z ins out : Nat} (hX : XG I 1 4 n gr) (hz : z ≤ 12) (hi : ins < 4096) (ho : out < 4096) (hS : SP I n gr) (hk : K (.int (nI (peN n gr z ins out))) I J (rX g)) : ∀ (k s : Nat), 2 ^ n - s = k → s ≤ 2 ^ n → G l (d + 1) mX0_howManyOf K 17 [.ref 22, .ref 1, .int (nI z), .int (nI ins), .int (nI out), .int (nI (2 ^ n - 1)), .int (nI (lp (peF n gr z ins out) s 0)), .int (nI s)] [] I J (rX g) := by
  intro k
  induction k using Nat.strongRecOn with
  | _ k ih =>
  intro s hsk hsn
  have hn := hX.2.1
  have hg := hX.2.2.2
  have hp12 := pow12 hn
  have h1p : 0 < 2 ^ n := Nat.two_pow_pos n
  refine G_iload_7 (nx := 19) ⟨dX0_howManyOf_17, rfl⟩ ?_
  refine G_iload_5 (nx := 21) ⟨dX0_howManyOf_19, rfl⟩ ?_
  refine G_icmpgt (tgt := 73) (nx := 24) ⟨dX0_howManyOf_21, rfl⟩ rfl (fun c_21 => ?_) (fun c_21 => ?_)
  · refine G_iload_6 (nx := 75) ⟨dX0_howManyOf_73, rfl⟩ ?_
    refine G_iret ⟨dX0_howManyOf_75, rfl⟩ rfl ?_
    rw [nI_lt_iff (by omega) (by omega)] at c_21
    have e : s = 2 ^ n := by omega
    subst e
    exact hk
  · rw [nI_lt_iff (by omega) (by omega)] at c_21
    have hs : s < 2 ^ n := by omega
    have hs4 : s < 4096 := by omega
    have hpl := pc_le s
    have ha1 : s &&& ins ≤ ins := Nat.and_le_right
    have ha2 : s &&& out ≤ out := Nat.and_le_right
    refine G_iload_7 (nx := 26) ⟨dX0_howManyOf_24, rfl⟩ ?_
    refine G_iload_3 (nx := 27) ⟨dX0_howManyOf_26, rfl⟩ ?_
    refine G_iand (nx := 28) ⟨dX0_howManyOf_27, rfl⟩ ?_
    refine G_iload_3 (nx := 29) ⟨dX0_howManyOf_28, rfl⟩ ?_
    refine G_icmpne (tgt := 67) (nx := 32) ⟨dX0_howManyOf_29, rfl⟩ rfl (fun c_29 => ?_) (fun c_29 => ?_)
    · refine G_iinc_7 (nx := 70) ⟨dX0_howManyOf_67, rfl⟩ ci_1 rfl ?_
      refine G_goto (tgt := 17) ⟨dX0_howManyOf_70, rfl⟩ rfl ?_
      rw [nI_and, nI_eq (by omega) (by omega), ins_eq] at c_29
      refine G_L (by simp [lp_s, peF, c_29, nI_1]) (ih (2 ^ n - (s + 1)) (by omega) (s + 1) rfl (by omega))
    · refine G_iload_7 (nx := 34) ⟨dX0_howManyOf_32, rfl⟩ ?_
      refine G_iload_4 (nx := 36) ⟨dX0_howManyOf_34, rfl⟩ ?_
      refine G_iand (nx := 37) ⟨dX0_howManyOf_36, rfl⟩ ?_
      refine G_ifeq (tgt := 43) (nx := 40) ⟨dX0_howManyOf_37, rfl⟩ rfl (fun c_37 => ?_) (fun c_37 => ?_)
      · refine G_iload_7 (nx := 45) ⟨dX0_howManyOf_43, rfl⟩ ?_
        refine G_cs1 (nx := 48) ⟨dX0_howManyOf_45, rfl⟩ kX0_53 rfl rfl (Nat.le_of_ble_eq_true rfl) (Nat.le_of_ble_eq_true rfl) (cJ_bc hs4 ?_)
        refine G_iload_2 (nx := 49) ⟨dX0_howManyOf_48, rfl⟩ ?_
        refine G_icmpne (tgt := 67) (nx := 52) ⟨dX0_howManyOf_49, rfl⟩ rfl (fun c_49 => ?_) (fun c_49 => ?_)
        · refine G_iinc_7 (nx := 70) ⟨dX0_howManyOf_67, rfl⟩ ci_1 rfl ?_
          refine G_goto (tgt := 17) ⟨dX0_howManyOf_70, rfl⟩ rfl ?_
          rw [nI_and, nI_eq (by omega) (by omega), ins_eq] at c_29
          rw [nI_and, nI_0iff (by omega)] at c_37
          rw [nI_eq (by omega) (by omega)] at c_49
          refine G_L (by simp [lp_s, peF, c_29, c_37, c_49, nI_1]) (ih (2 ^ n - (s + 1)) (by omega) (s + 1) rfl (by omega))
        · refine G_aload_0 (nx := 53) ⟨dX0_howManyOf_52, rfl⟩ ?_
          refine G_iload_5 (nx := 55) ⟨dX0_howManyOf_53, rfl⟩ ?_
          refine G_iload_7 (nx := 57) ⟨dX0_howManyOf_55, rfl⟩ ?_
          refine G_ixor (nx := 58) ⟨dX0_howManyOf_57, rfl⟩ ?_
          rw [show nI (2 ^ n - 1) ^^^ nI s = nI (cp n s) from nI_xor _ _]
          refine G_cv1 (nx := 61) ⟨dX0_howManyOf_58, rfl⟩ kX0_56 rfl q_22 rfl (Nat.le_of_ble_eq_true rfl) (Nat.le_of_ble_eq_true rfl) (cC_cw hS hn hg hs ?_)
          refine G_ifeq (tgt := 67) (nx := 64) ⟨dX0_howManyOf_61, rfl⟩ rfl (fun c_61 => ?_) (fun c_61 => ?_)
          · refine G_iinc_7 (nx := 70) ⟨dX0_howManyOf_67, rfl⟩ ci_1 rfl ?_
            refine G_goto (tgt := 17) ⟨dX0_howManyOf_70, rfl⟩ rfl ?_
            rw [nI_and, nI_eq (by omega) (by omega), ins_eq] at c_29
            rw [nI_and, nI_0iff (by omega)] at c_37
            rw [nI_eq (by omega) (by omega)] at c_49
            rw [bi_0] at c_61
            refine G_L (by simp [lp_s, peF, c_29, c_37, c_49, c_61, nI_1]) (ih (2 ^ n - (s + 1)) (by omega) (s + 1) rfl (by omega))
          · refine G_iinc_6 (nx := 67) ⟨dX0_howManyOf_64, rfl⟩ ci_1 rfl ?_
            refine G_iinc_7 (nx := 70) ⟨dX0_howManyOf_67, rfl⟩ ci_1 rfl ?_
            refine G_goto (tgt := 17) ⟨dX0_howManyOf_70, rfl⟩ rfl ?_
            rw [nI_and, nI_eq (by omega) (by omega), ins_eq] at c_29
            rw [nI_and, nI_0iff (by omega)] at c_37
            rw [nI_eq (by omega) (by omega)] at c_49
            rw [bi_n0] at c_61
            refine G_L (by simp [lp_s, peF, c_29, c_37, c_49, c_61, nI_1]) (ih (2 ^ n - (s + 1)) (by omega) (s + 1) rfl (by omega))
      · refine G_goto (tgt := 67) ⟨dX0_howManyOf_40, rfl⟩ rfl ?_
        refine G_iinc_7 (nx := 70) ⟨dX0_howManyOf_67, rfl⟩ ci_1 rfl ?_
        refine G_goto (tgt := 17) ⟨dX0_howManyOf_70, rfl⟩ rfl ?_
        rw [nI_and, nI_eq (by omega) (by omega), ins_eq] at c_29
        rw [nI_and, nI_0iff (by omega)] at c_37
        refine G_L (by simp [lp_s, peF, c_29, c_37, nI_1]) (ih (2 ^ n - (s + 1)) (by omega) (s + 1) rfl (by omega))

theorem cC_howManyOf {z ins out : Nat} (hX : XG I 1 4 n gr) (hz : z ≤ 12) (hi : ins < 4096) (ho : out < 4096) (hk : ∀ (I' : AI), sb fC I I' → K (.int (nI (peN n gr z ins out))) I' J (rX g)) : G l (d + 2) mX0_howManyOf K 0 [.ref 22, .ref 1, .int (nI z), .int (nI ins), .int (nI out), UU, UU, UU] [] I J (rX g) := by
  refine G_aload_1 (nx := 1) ⟨dX0_howManyOf_0, rfl⟩ ?_
  refine G_cv0 (nx := 4) ⟨dX0_howManyOf_1, rfl⟩ kX0_34 rfl q_1 rfl (Nat.le_of_ble_eq_true rfl) (Nat.le_of_ble_eq_true rfl) (cN_all nt1 hX ?_)
  refine G_istore_5 (nx := 6) ⟨dX0_howManyOf_4, rfl⟩ rfl rfl ?_
  refine G_iconst (nx := 7) ⟨dX0_howManyOf_6, rfl⟩ ci_0 ?_
  refine G_istore_6 (nx := 9) ⟨dX0_howManyOf_7, rfl⟩ rfl rfl ?_
  refine G_aload_0 (nx := 10) ⟨dX0_howManyOf_9, rfl⟩ ?_
  refine G_aload_1 (nx := 11) ⟨dX0_howManyOf_10, rfl⟩ ?_
  refine G_cvv1 (nx := 14) ⟨dX0_howManyOf_11, rfl⟩ kX0_49 rfl q_22 rfl (Nat.le_of_ble_eq_true rfl) (Nat.le_of_ble_eq_true rfl) (cC_spread hX (fun I1 hS hs1 => ?_))
  refine G_iconst (nx := 15) ⟨dX0_howManyOf_14, rfl⟩ ci_0 ?_
  refine G_istore_7 (nx := 17) ⟨dX0_howManyOf_15, rfl⟩ rfl rfl ?_
  have hs2 : sb fC I I1 := hs1.mono (fun a b h => by simp only [fC, fE, Bool.or_eq_false_iff] at *; exact h.1.1)
  have hX1 : XG I1 1 4 n gr := hX.sb hs2 rfl (fun _ => rfl)
  exact G_L (by rw [← nI_0]; rfl) (lC_ho hX1 hz hi ho hS (hk I1 hs2) _ 0 rfl (Nat.zero_le _))

end X66
