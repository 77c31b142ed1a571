
theorem pkA_s (n : Nat) (gr : Nat → Nat) (k j : Nat) : pkA n gr (k + 1) j = if j = k then (if k = 0 then (0, 0) else pkT n gr (pkA n gr k) k) else pkA n gr k j := rfl
section X79
variable {l : Launch} {d : Nat} {K : AK} {I : AI} {J : AJ} {g : Bool} {n : Nat} {gr : Nat → Nat}

theorem lP_out {set rest p : Nat} {T : Nat → Nat × Nat} {s0 : Nat × Nat} (hR : RG I 4 n gr) (hset : set < 2 ^ n) (hrest : rest < set) (hrow : ∀ j, j < set → I 21 j = nI (bv (T j))) (hTb : ∀ j, j < set → (T j).2 ≤ (T j).1 ∧ (T j).1 ≤ 12) (hk : bP (lp (pkO n gr T p rest) n s0) → K (.int (nI (bv (lp (pkO n gr T p rest) n s0)))) I J (rX g)) : ∀ (kk q : Nat) (x7 x8 x9 : Value), notL x7 = true → notL x8 = true → notL x9 = true → 12 - q = kk → q ≤ 12 → bP (lp (pkO n gr T p rest) q s0) → G l (d + 1) mX5_bestOf K 27 [.ref 34, .ref 4, .int (nI set), .int (nI rest), .int (nI (gr p &&& rest)), .int (nI (bv (lp (pkO n gr T p rest) q s0))), .int (nI q), x7, x8, x9] [] I J (rX g) := by
  intro kk
  induction kk using Nat.strongRecOn with
  | _ kk ih =>
  intro q x7 x8 x9 hx7 hx8 hx9 hqk hq hb
  have hn := hR.1
  have hp12 := pow12 hn
  have hrn : rest < 2 ^ n := by omega
  have hnl : gr p &&& rest ≤ rest := Nat.and_le_right
  have hbl := bv_le hb
  refine G_iload_6 (nx := 29) ⟨dX5_bestOf_27, rfl⟩ ?_
  refine G_bipush (nx := 31) ⟨dX5_bestOf_29, rfl⟩ cb_12 ?_
  rw [show (12 : Int32) = nI 12 by decide]
  refine G_icmpge (tgt := 162) (nx := 34) ⟨dX5_bestOf_31, rfl⟩ rfl (fun c_31 => ?_) (fun c_31 => ?_)
  · refine G_iload_5 (nx := 164) ⟨dX5_bestOf_162, rfl⟩ ?_
    refine G_iret ⟨dX5_bestOf_164, rfl⟩ rfl ?_
    rw [nI_le_iff (by omega) (by omega)] at c_31
    have e12 : q = 12 := by omega
    subst e12
    have hst := pkO_stop (gr := gr) (T := T) (p := p) (s := s0) hrn (12 - n)
    rw [show n + (12 - n) = 12 by omega] at hst
    rw [hst] at hb ⊢
    exact hk hb
  · rw [nI_le_iff (by omega) (by omega)] at c_31
    have hq12 : q < 12 := by omega
    refine G_iload_4 (nx := 36) ⟨dX5_bestOf_34, rfl⟩ ?_
    refine G_iload_6 (nx := 38) ⟨dX5_bestOf_36, rfl⟩ ?_
    refine G_ishr (nx := 39) ⟨dX5_bestOf_38, rfl⟩ ?_
    refine G_iconst (nx := 40) ⟨dX5_bestOf_39, rfl⟩ ci_1 ?_
    refine G_iand (nx := 41) ⟨dX5_bestOf_40, rfl⟩ ?_
    rw [bit_nI (by omega) (by omega)]
    refine G_ifne (tgt := 47) (nx := 44) ⟨dX5_bestOf_41, rfl⟩ rfl (fun c_41 => ?_) (fun c_41 => ?_)
    · rw [bi_n0] at c_41
      have hqn : q < n := by
        rw [Nat.testBit_and, Bool.and_eq_true] at c_41
        exact tb_ltn hrn c_41.2
      have hiq := in12 hqn hn
      have hpw : 2 ^ q < 2 ^ 12 := Nat.pow_lt_pow_right (by omega) (by omega)
      have hdl : df rest (2 ^ q) < set := Nat.lt_of_le_of_lt (df_le _ _) hrest
      have hdi := in4k (show df rest (2 ^ q) < 4096 by omega)
      have hdc := cl_nI (p := df rest (2 ^ q)) (by omega)
      have htq := hTb _ hdl
      have hcb : bP ((T (df rest (2 ^ q))).1 + 1, (T (df rest (2 ^ q))).2 + 1) := by unfold bP; simp only; omega
      have hcl := bv_le hcb
      have hgq := hR.lt hqn
      have hal : gr p &&& rest &&& gr q ≤ gr p &&& rest := Nat.and_le_left
      have ev : (if nI (bv (lp (pkO n gr T p rest) q s0)) < nI (bv ((T (df rest (2 ^ q))).1 + 1, (T (df rest (2 ^ q))).2 + 1)) then nI (bv ((T (df rest (2 ^ q))).1 + 1, (T (df rest (2 ^ q))).2 + 1)) else nI (bv (lp (pkO n gr T p rest) q s0))) = nI (bv (bt (lp (pkO n gr T p rest) q s0) ((T (df rest (2 ^ q))).1 + 1, (T (df rest (2 ^ q))).2 + 1))) := by
        rw [bv_bt hb hcb]
        by_cases c : bv (lp (pkO n gr T p rest) q s0) < bv ((T (df rest (2 ^ q))).1 + 1, (T (df rest (2 ^ q))).2 + 1)
        · rw [if_pos (by rw [nI_lt_iff (by omega) (by omega)]; exact c), if_pos c]
        · rw [if_neg (by rw [nI_lt_iff (by omega) (by omega)]; exact c), if_neg c]
      refine G_iload_3 (nx := 48) ⟨dX5_bestOf_47, rfl⟩ ?_
      refine G_iconst (nx := 49) ⟨dX5_bestOf_48, rfl⟩ ci_1 ?_
      refine G_iload_6 (nx := 51) ⟨dX5_bestOf_49, rfl⟩ ?_
      refine G_ishl (nx := 52) ⟨dX5_bestOf_51, rfl⟩ ?_
      refine G_iconst (nx := 53) ⟨dX5_bestOf_52, rfl⟩ ci_m1 ?_
      refine G_ixor (nx := 54) ⟨dX5_bestOf_53, rfl⟩ ?_
      refine G_iand (nx := 55) ⟨dX5_bestOf_54, rfl⟩ ?_
      rw [one_shl (show q < 31 by omega), nI_df _ (by omega)]
      refine G_istore_7 (nx := 57) ⟨dX5_bestOf_55, rfl⟩ rfl rfl ?_
      refine G_iload_5 (nx := 59) ⟨dX5_bestOf_57, rfl⟩ ?_
      refine G_aload_0 (nx := 60) ⟨dX5_bestOf_59, rfl⟩ ?_
      refine G_getr (nx := 63) (k := 34) (r := 21) ⟨dX5_bestOf_60, rfl⟩ fX5_18 q_34 yr_5_0 (r_34_0 _) ?_
      refine G_iload_7 (nx := 65) ⟨dX5_bestOf_63, rfl⟩ ?_
      refine G_iald (nx := 66) (k := 21) ⟨dX5_bestOf_65, rfl⟩ q_21 (by first | assumption | decide | (unfold vp_in; decide)) ?_
      rw [hdc, hrow _ hdl]
      refine G_bipush (nx := 68) ⟨dX5_bestOf_66, rfl⟩ cb_16 ?_
      refine G_iadd (nx := 69) ⟨dX5_bestOf_68, rfl⟩ ?_
      refine G_iconst (nx := 70) ⟨dX5_bestOf_69, rfl⟩ ci_1 ?_
      refine G_isub (nx := 71) ⟨dX5_bestOf_70, rfl⟩ ?_
      rw [show (16 : Int32) = nI 16 by decide, show (1 : Int32) = nI 1 by decide, nI_add, nI_sub (by omega), show bv (T (df rest (2 ^ q))) + 16 - 1 = bv ((T (df rest (2 ^ q))).1 + 1, (T (df rest (2 ^ q))).2 + 1) by unfold bv; simp only; omega]
      refine G_mmax (nx := 74) ⟨dX5_bestOf_71, rfl⟩ kX5_41 (Nat.le_of_ble_eq_true rfl) ?_
      refine G_istore_5 (nx := 76) ⟨dX5_bestOf_74, rfl⟩ rfl rfl ?_
      refine G_iload_4 (nx := 78) ⟨dX5_bestOf_76, rfl⟩ ?_
      refine G_aload_1 (nx := 79) ⟨dX5_bestOf_78, rfl⟩ ?_
      refine G_iload_6 (nx := 81) ⟨dX5_bestOf_79, rfl⟩ ?_
      refine G_iald (nx := 82) (k := 4) ⟨dX5_bestOf_81, rfl⟩ q_4 (by first | assumption | decide | (unfold vp_in; decide)) ?_
      rw [hR.row hqn]
      refine G_iand (nx := 83) ⟨dX5_bestOf_82, rfl⟩ ?_
      rw [nI_and]
      refine G_iconst (nx := 84) ⟨dX5_bestOf_83, rfl⟩ ci_m1 ?_
      refine G_iload_6 (nx := 86) ⟨dX5_bestOf_84, rfl⟩ ?_
      refine G_ishl (nx := 87) ⟨dX5_bestOf_86, rfl⟩ ?_
      refine G_iand (nx := 88) ⟨dX5_bestOf_87, rfl⟩ ?_
      rw [m1shl hq12, nI_df _ (by omega)]
      refine G_istore_8 (nx := 90) ⟨dX5_bestOf_88, rfl⟩ rfl rfl ?_
      refine G_iload_6 (nx := 92) ⟨dX5_bestOf_90, rfl⟩ ?_
      refine G_iconst (nx := 93) ⟨dX5_bestOf_92, rfl⟩ ci_1 ?_
      refine G_iadd (nx := 94) ⟨dX5_bestOf_93, rfl⟩ ?_
      refine G_istore_9 (nx := 96) ⟨dX5_bestOf_94, rfl⟩ rfl rfl ?_
      have hb1 := bt_b hb hcb
      have hin : ∀ X : Nat, lp (pkI T X rest q) (q + 1) (bt (lp (pkO n gr T p rest) q s0) ((T (df rest (2 ^ q))).1 + 1, (T (df rest (2 ^ q))).2 + 1)) = (bt (lp (pkO n gr T p rest) q s0) ((T (df rest (2 ^ q))).1 + 1, (T (df rest (2 ^ q))).2 + 1)) := by
        intro X
        have : ∀ k, k ≤ q + 1 → lp (pkI T X rest q) k (bt (lp (pkO n gr T p rest) q s0) ((T (df rest (2 ^ q))).1 + 1, (T (df rest (2 ^ q))).2 + 1)) = (bt (lp (pkO n gr T p rest) q s0) ((T (df rest (2 ^ q))).1 + 1, (T (df rest (2 ^ q))).2 + 1)) := by
          intro k
          induction k with
          | zero => intro _; rfl
          | succ k ih => intro hk; rw [lp_s, ih (by omega), pkI, if_neg (by omega)]
        exact this _ (Nat.le_refl _)
      have hcd : (rest &&& gr p).testBit q = true := by rw [Nat.and_comm]; exact c_41
      have est : (lp (pkO n gr T p rest) (q + 1) s0) = lp (pkI T (rest &&& gr p &&& gr q) rest q) n (bt (lp (pkO n gr T p rest) q s0) ((T (df rest (2 ^ q))).1 + 1, (T (df rest (2 ^ q))).2 + 1)) := by rw [lp_s, pkO, if_pos hcd]
      have hall : ∀ r, r ≤ 12 → bP (lp (pkI T (rest &&& gr p &&& gr q) rest q) r (bt (lp (pkO n gr T p rest) q s0) ((T (df rest (2 ^ q))).1 + 1, (T (df rest (2 ^ q))).2 + 1))) := by
        intro r
        induction r with
        | zero => intro _; exact hb1
        | succ r ihr =>
          intro hr
          rw [lp_s, pkI]
          split
          · refine bt_b (ihr (by omega)) ?_
            have := hTb (df rest (2 ^ q ||| 2 ^ r)) (Nat.lt_of_le_of_lt (df_le _ _) hrest)
            unfold bP
            simp only
            omega
          · exact ihr (by omega)
      refine G_L (by rw [nI_1, ev, hin]) (lP_in (d := d) (s0 := (bt (lp (pkO n gr T p rest) q s0) ((T (df rest (2 ^ q))).1 + 1, (T (df rest (2 ^ q))).2 + 1))) hn hset hrest (by omega) hrow hTb hb1 (fun y9 hy9 => ?_) _ (q + 1) rfl (by omega) (by omega) (hall _ (by omega)))
      refine G_iinc_6 (nx := 159) ⟨dX5_bestOf_156, rfl⟩ ci_1 rfl ?_
      refine G_goto (tgt := 27) ⟨dX5_bestOf_159, rfl⟩ rfl ?_
      exact G_L (by rw [nI_1, est]) (ih (12 - (q + 1)) (by omega) (q + 1) _ _ y9 rfl rfl hy9 rfl (by omega) (by rw [est]; exact hall n hn))
      
    · refine G_goto (tgt := 156) ⟨dX5_bestOf_44, rfl⟩ rfl ?_
      refine G_iinc_6 (nx := 159) ⟨dX5_bestOf_156, rfl⟩ ci_1 rfl ?_
      refine G_goto (tgt := 27) ⟨dX5_bestOf_159, rfl⟩ rfl ?_
      rw [bi_0] at c_41
      have hcd : (rest &&& gr p).testBit q = false := by rw [Nat.and_comm]; exact c_41
      have est : (lp (pkO n gr T p rest) (q + 1) s0) = (lp (pkO n gr T p rest) q s0) := by rw [lp_s, pkO, if_neg (by rw [hcd]; decide)]
      exact G_L (by rw [nI_1, est]) (ih (12 - (q + 1)) (by omega) (q + 1) x7 x8 x9 hx7 hx8 hx9 rfl (by omega) (by rw [est]; exact hb))

theorem cP_bestOf {set : Nat} {T : Nat → Nat × Nat} (hR : RG I 4 n gr) (hset : set < 2 ^ n) (h0 : ¬ set = 0) (hrow : ∀ j, j < set → I 21 j = nI (bv (T j))) (hTb : ∀ j, j < set → (T j).2 ≤ (T j).1 ∧ (T j).1 ≤ 12) (hk : K (.int (nI (bv (pkT n gr T set)))) I J (rX g)) : G l (d + 1) mX5_bestOf K 0 [.ref 34, .ref 4, .int (nI set), UU, UU, UU, UU, UU, UU, UU] [] I J (rX g) := by
  have hn := hR.1
  have hp12 := pow12 hn
  have hset4 : set < 4096 := by omega
  obtain ⟨f1, f2, f3⟩ := fb_s hset4 h0
  have hfl : fb set < n := tb_ltn hset f2
  have hif := in12 hfl hn
  have e1 : nI set - 1 = nI (set - 1) := by
    obtain ⟨b, rfl⟩ : ∃ b, set = b + 1 := ⟨set - 1, by omega⟩
    exact nI_pred b
  have hrl : df set (2 ^ fb set) < set := by rw [← f1]; exact and_pred_lt h0
  have hri := in4k (show df set (2 ^ fb set) < 4096 by omega)
  have hrc := cl_nI (p := df set (2 ^ fb set)) (by omega)
  have htr := hTb _ hrl
  refine G_iload_2 (nx := 1) ⟨dX5_bestOf_0, rfl⟩ ?_
  refine G_iload_2 (nx := 2) ⟨dX5_bestOf_1, rfl⟩ ?_
  refine G_iconst (nx := 3) ⟨dX5_bestOf_2, rfl⟩ ci_1 ?_
  refine G_isub (nx := 4) ⟨dX5_bestOf_3, rfl⟩ ?_
  refine G_iand (nx := 5) ⟨dX5_bestOf_4, rfl⟩ ?_
  rw [e1, nI_and, f1]
  refine G_istore_3 (nx := 6) ⟨dX5_bestOf_5, rfl⟩ rfl rfl ?_
  refine G_aload_1 (nx := 7) ⟨dX5_bestOf_6, rfl⟩ ?_
  refine G_iload_2 (nx := 8) ⟨dX5_bestOf_7, rfl⟩ ?_
  refine G_cs1 (nx := 11) ⟨dX5_bestOf_8, rfl⟩ kX5_35 rfl rfl (Nat.le_of_ble_eq_true rfl) (Nat.le_of_ble_eq_true rfl) (cJ_tz hset4 h0 ?_)
  refine G_iald (nx := 12) (k := 4) ⟨dX5_bestOf_11, rfl⟩ q_4 (by first | assumption | decide | (unfold vp_in; decide)) ?_
  rw [hR.row hfl]
  refine G_iload_3 (nx := 13) ⟨dX5_bestOf_12, rfl⟩ ?_
  refine G_iand (nx := 14) ⟨dX5_bestOf_13, rfl⟩ ?_
  rw [nI_and]
  refine G_istore_4 (nx := 16) ⟨dX5_bestOf_14, rfl⟩ rfl rfl ?_
  refine G_aload_0 (nx := 17) ⟨dX5_bestOf_16, rfl⟩ ?_
  refine G_getr (nx := 20) (k := 34) (r := 21) ⟨dX5_bestOf_17, rfl⟩ fX5_18 q_34 yr_5_0 (r_34_0 _) ?_
  refine G_iload_3 (nx := 21) ⟨dX5_bestOf_20, rfl⟩ ?_
  refine G_iald (nx := 22) (k := 21) ⟨dX5_bestOf_21, rfl⟩ q_21 (by first | assumption | decide | (unfold vp_in; decide)) ?_
  rw [hrc, hrow _ hrl]
  refine G_istore_5 (nx := 24) ⟨dX5_bestOf_22, rfl⟩ rfl rfl ?_
  refine G_iconst (nx := 25) ⟨dX5_bestOf_24, rfl⟩ ci_0 ?_
  refine G_istore_6 (nx := 27) ⟨dX5_bestOf_25, rfl⟩ rfl rfl ?_
  exact G_L (by rw [← nI_0]; rfl) (lP_out (p := fb set) hR hset hrl hrow hTb (fun _ => hk) _ 0 UU UU UU rfl rfl rfl rfl (by omega) (by show bP (T _); unfold bP; omega))

def fPk (x y : Nat) : Bool := x == 21 || (x == 34 && decide (1 ≤ y))
theorem lP_best (hX : XG I 1 4 n gr) (hk : ∀ (I' : AI), I' 34 1 = nI (pkA n gr (2 ^ n) (2 ^ n - 1)).1 → I' 34 2 = nI (pkA n gr (2 ^ n) (2 ^ n - 1)).2 → sb fPk I I' → K .null I' J (rX g)) : ∀ (kk set : Nat) (I1 : AI), 2 ^ n - set = kk → 0 < set → set ≤ 2 ^ n → (∀ j, j < set → I1 21 j = nI (bv (pkA n gr set j))) → sb fPk I I1 → G l (d + 2) mX5_findBest K 14 [.ref 34, .ref 1, .int (nI (2 ^ n - 1)), .int (nI set)] [] I1 J (rX g) := by
  intro kk
  induction kk using Nat.strongRecOn with
  | _ kk ih =>
  intro set I1 hsk h0 hsn hrow hs1
  have hn := hX.2.1
  have hp12 := pow12 hn
  have hR1 : RG I1 4 n gr := hX.2.sb hs1 (fun _ => rfl)
  have hi4 : vp_in (nI (2 ^ n - 1)) 4096 := in4k (by omega)
  have ec4 := cl_nI (p := 2 ^ n - 1) (by omega)
  have hTb : ∀ j, j < set → (pkA n gr set j).2 ≤ (pkA n gr set j).1 ∧ (pkA n gr set j).1 ≤ 12 := fun j _ => by
    have := pkA_P (gr := gr) hn set (by omega) j
    have := pc_le j
    unfold pkP at *
    omega
  refine G_iload_3 (nx := 15) ⟨dX5_findBest_14, rfl⟩ ?_
  refine G_iload_2 (nx := 16) ⟨dX5_findBest_15, rfl⟩ ?_
  refine G_icmpgt (tgt := 40) (nx := 19) ⟨dX5_findBest_16, rfl⟩ rfl (fun c_16 => ?_) (fun c_16 => ?_)
  · rw [nI_lt_iff (by omega) (by omega)] at c_16
    have e : set = 2 ^ n := by omega
    subst e
    have hfi := hTb (2 ^ n - 1) (by omega)
    have hro := hrow (2 ^ n - 1) (by omega)
    generalize hWW : pkA n gr (2 ^ n) (2 ^ n - 1) = WW at *
    have hbl : bv WW ≤ 300 := by unfold bv; omega
    have ed : (nI (bv WW) + 16 - 1) / 16 = nI WW.1 := by
      rw [show (16 : Int32) = nI 16 by decide, show (1 : Int32) = nI 1 by decide, nI_add, nI_sub (by omega), pk_div (by omega) (by decide) (by decide)]
      congr 1
      unfold bv
      omega
    refine G_aload_0 (nx := 41) ⟨dX5_findBest_40, rfl⟩ ?_
    refine G_aload_0 (nx := 42) ⟨dX5_findBest_41, rfl⟩ ?_
    refine G_getr (nx := 45) (k := 34) (r := 21) ⟨dX5_findBest_42, rfl⟩ fX5_18 q_34 yr_5_0 (r_34_0 _) ?_
    refine G_iload_2 (nx := 46) ⟨dX5_findBest_45, rfl⟩ ?_
    refine G_iald (nx := 47) (k := 21) ⟨dX5_findBest_46, rfl⟩ q_21 (by first | assumption | decide | (unfold vp_in; decide)) ?_
    rw [ec4, hro]
    refine G_bipush (nx := 49) ⟨dX5_findBest_47, rfl⟩ cb_16 ?_
    refine G_iadd (nx := 50) ⟨dX5_findBest_49, rfl⟩ ?_
    refine G_iconst (nx := 51) ⟨dX5_findBest_50, rfl⟩ ci_1 ?_
    refine G_isub (nx := 52) ⟨dX5_findBest_51, rfl⟩ ?_
    refine G_bipush (nx := 54) ⟨dX5_findBest_52, rfl⟩ cb_16 ?_
    refine G_idiv (nx := 55) ⟨dX5_findBest_54, rfl⟩ (by decide) ?_
    rw [ed]
    refine G_puti (nx := 58) (k := 34) ⟨dX5_findBest_55, rfl⟩ pX5_9 q_34 yt_5_1 ?_
    refine G_aload_0 (nx := 59) ⟨dX5_findBest_58, rfl⟩ ?_
    refine G_aload_0 (nx := 60) ⟨dX5_findBest_59, rfl⟩ ?_
    refine G_geti (nx := 63) (k := 34) ⟨dX5_findBest_60, rfl⟩ fX5_9 q_34 yi_5_1 ?_
    rw [w2_at]
    refine G_bipush (nx := 65) ⟨dX5_findBest_63, rfl⟩ cb_16 ?_
    refine G_imul (nx := 66) ⟨dX5_findBest_65, rfl⟩ ?_
    refine G_aload_0 (nx := 67) ⟨dX5_findBest_66, rfl⟩ ?_
    refine G_getr (nx := 70) (k := 34) (r := 21) ⟨dX5_findBest_67, rfl⟩ fX5_18 q_34 yr_5_0 (r_34_0 _) ?_
    refine G_iload_2 (nx := 71) ⟨dX5_findBest_70, rfl⟩ ?_
    refine G_iald (nx := 72) (k := 21) ⟨dX5_findBest_71, rfl⟩ q_21 (by first | assumption | decide | (unfold vp_in; decide)) ?_
    rw [ec4, w2_row _ _ _ _ (show ¬ 21 = 34 by decide), hro]
    refine G_isub (nx := 73) ⟨dX5_findBest_72, rfl⟩ ?_
    rw [show (16 : Int32) = nI 16 by decide, nI_mul, nI_sub (by unfold bv; omega), show WW.1 * 16 - bv WW = WW.2 by unfold bv; omega]
    refine G_puti (nx := 76) (k := 34) ⟨dX5_findBest_73, rfl⟩ pX5_15 q_34 yt_5_2 ?_
    refine G_vret ⟨dX5_findBest_76, rfl⟩ rfl ?_
    exact hk _ (by rw [w2_ne _ _ _ _ (by decide), w2_at]) (by rw [w2_at]) ((hs1.w rfl).w rfl)
  · rw [nI_lt_iff (by omega) (by omega)] at c_16
    have hset : set < 2 ^ n := by omega
    have hi5 := in4k (show set < 4096 by omega)
    have ec5 := cl_nI (p := set) (by omega)
    refine G_aload_0 (nx := 20) ⟨dX5_findBest_19, rfl⟩ ?_
    refine G_getr (nx := 23) (k := 34) (r := 21) ⟨dX5_findBest_20, rfl⟩ fX5_18 q_34 yr_5_0 (r_34_0 _) ?_
    refine G_iload_3 (nx := 24) ⟨dX5_findBest_23, rfl⟩ ?_
    refine G_aload_0 (nx := 25) ⟨dX5_findBest_24, rfl⟩ ?_
    refine G_aload_1 (nx := 26) ⟨dX5_findBest_25, rfl⟩ ?_
    refine G_getr (nx := 29) (k := 1) (r := 4) ⟨dX5_findBest_26, rfl⟩ fX5_28 q_1 yr_4_2 (r_1_2 _) ?_
    refine G_iload_3 (nx := 30) ⟨dX5_findBest_29, rfl⟩ ?_
    refine G_cv2 (nx := 33) ⟨dX5_findBest_30, rfl⟩ kX5_31 rfl q_34 rfl (Nat.le_of_ble_eq_true rfl) (Nat.le_of_ble_eq_true rfl) (cP_bestOf (d := d) (T := pkA n gr set) hR1 hset (by omega) hrow hTb ?_)
    refine G_iast (nx := 34) (k := 21) ⟨dX5_findBest_33, rfl⟩ q_21 (by first | assumption | decide | (unfold vp_in; decide)) ?_
    rw [ec5]
    refine G_iinc_3 (nx := 37) ⟨dX5_findBest_34, rfl⟩ ci_1 rfl ?_
    refine G_goto (tgt := 14) ⟨dX5_findBest_37, rfl⟩ rfl ?_
    refine G_L (by rw [nI_1]) (ih (2 ^ n - (set + 1)) (by omega) (set + 1) _ rfl (by omega) (by omega) (fun j hj => ?_) (hs1.w rfl))
    rw [pkA_s]
    by_cases e : j = set
    · rw [if_pos e, if_neg (by omega), e, w2_at]
    · rw [if_neg e, w2_ne _ _ _ _ (by omega)]
      exact hrow j (by omega)

theorem cP_best (hX : XG I 1 4 n gr) (hk : ∀ (I' : AI), I' 34 1 = nI (pkA n gr (2 ^ n) (2 ^ n - 1)).1 → I' 34 2 = nI (pkA n gr (2 ^ n) (2 ^ n - 1)).2 → sb fPk I I' → K .null I' J (rX g)) : G l (d + 2) mX5_findBest K 0 [.ref 34, .ref 1, UU, UU] [] I J (rX g) := by
  have h1p := Nat.two_pow_pos n
  have hi0 : vp_in (0 : Int32) 4096 := in4k (p := 0) (by decide)
  have ec0 : (0 : Int32).toNatClampNeg = 0 := by decide
  refine G_aload_1 (nx := 1) ⟨dX5_findBest_0, rfl⟩ ?_
  refine G_cv0 (nx := 4) ⟨dX5_findBest_1, rfl⟩ kX5_22 rfl q_1 rfl (Nat.le_of_ble_eq_true rfl) (Nat.le_of_ble_eq_true rfl) (cN_all nt1 hX ?_)
  refine G_istore_2 (nx := 5) ⟨dX5_findBest_4, rfl⟩ rfl rfl ?_
  refine G_aload_0 (nx := 6) ⟨dX5_findBest_5, rfl⟩ ?_
  refine G_getr (nx := 9) (k := 34) (r := 21) ⟨dX5_findBest_6, rfl⟩ fX5_18 q_34 yr_5_0 (r_34_0 _) ?_
  refine G_iconst (nx := 10) ⟨dX5_findBest_9, rfl⟩ ci_0 ?_
  refine G_iconst (nx := 11) ⟨dX5_findBest_10, rfl⟩ ci_0 ?_
  refine G_iast (nx := 12) (k := 21) ⟨dX5_findBest_11, rfl⟩ q_21 (by first | assumption | decide | (unfold vp_in; decide)) ?_
  rw [ec0]
  refine G_iconst (nx := 13) ⟨dX5_findBest_12, rfl⟩ ci_1 ?_
  refine G_istore_3 (nx := 14) ⟨dX5_findBest_13, rfl⟩ rfl rfl ?_
  refine G_L (by rw [show (1 : Int32) = nI 1 by decide]) (lP_best hX hk _ 1 _ rfl (by omega) (by omega) (fun j hj => ?_) (sb.rf.w rfl))
  have e : j = 0 := by omega
  subst e
  rw [w2_at]
  rfl

theorem ip_eq {gr : Nat → Nat} {S p : Nat} (hS : S.testBit p = true) (hl : (gr p).testBit p = false) : df (df S (2 ^ p)) (gr p) = 0 ↔ df S (gr p) = 2 ^ p := by
  rw [df_0]
  constructor
  · intro h
    apply Nat.eq_of_testBit_eq
    intro x
    rw [tb_df, tb_pow]
    by_cases e : p = x
    · rw [← e, hS, hl]; simp
    · rw [decide_eq_false e]
      cases q : S.testBit x with
      | false => rfl
      | true => rw [h x (del_t.mpr ⟨q, fun z => e z.symm⟩)]; rfl
  · intro h x hx
    obtain ⟨h1, h2⟩ := del_t.mp hx
    have := congrArg (fun y : Nat => y.testBit x) h
    simp only [tb_df, h1, tb_pow, decide_eq_false (fun z : p = x => h2 z.symm), Bool.true_and] at this
    simpa using this
theorem lP_can {S : Nat} (hX : XG I 1 4 n gr) (hW : WG n gr) (hS : S < 2 ^ n) (hk : K (.int (bi (ipK gr S n))) I J (rX g)) : ∀ (kk p : Nat), n - p = kk → p ≤ n → ipK gr S p = true → G l (d + 2) mX5_canHold K 24 [.ref 34, .ref 1, .int (nI S), .int (nI p)] [] I J (rX g) := by
  intro kk
  induction kk using Nat.strongRecOn with
  | _ kk ih =>
  intro p hpk hpn hok
  have hn := hX.2.1
  have hS4 : S < 4096 := Nat.lt_of_lt_of_le hS (pow12 hn)
  have hdl := df_le S (2 ^ p)
  refine G_iload_3 (nx := 25) ⟨dX5_canHold_24, rfl⟩ ?_
  refine G_aload_1 (nx := 26) ⟨dX5_canHold_25, rfl⟩ ?_
  refine G_geti (nx := 29) (k := 1) ⟨dX5_canHold_26, rfl⟩ fX5_58 q_1 yi_4_4 ?_
  rw [hX.1]
  refine G_icmpge (tgt := 67) (nx := 32) ⟨dX5_canHold_29, rfl⟩ rfl (fun c_29 => ?_) (fun c_29 => ?_)
  · refine G_iconst (nx := 68) ⟨dX5_canHold_67, rfl⟩ ci_1 ?_
    refine G_zret ⟨dX5_canHold_68, rfl⟩ rfl (by first | assumption | decide | exact bi_01 _) ?_
    rw [nI_le_iff (by omega) (by omega)] at c_29
    have hpe : p = n := by omega
    subst hpe
    rw [hok] at hk
    exact hk
  · rw [nI_le_iff (by omega) (by omega)] at c_29
    have hp : p < n := by omega
    have h12 := in12 hp hn
    have hpw : 2 ^ p < 2 ^ 12 := Nat.pow_lt_pow_right (by omega) (by omega)
    refine G_iload_2 (nx := 33) ⟨dX5_canHold_32, rfl⟩ ?_
    refine G_iload_3 (nx := 34) ⟨dX5_canHold_33, rfl⟩ ?_
    refine G_ishr (nx := 35) ⟨dX5_canHold_34, rfl⟩ ?_
    refine G_iconst (nx := 36) ⟨dX5_canHold_35, rfl⟩ ci_1 ?_
    refine G_iand (nx := 37) ⟨dX5_canHold_36, rfl⟩ ?_
    rw [bit_nI (lt31 hS4) (by omega)]
    refine G_ifeq (tgt := 61) (nx := 40) ⟨dX5_canHold_37, rfl⟩ rfl (fun c_37 => ?_) (fun c_37 => ?_)
    · refine G_iinc_3 (nx := 64) ⟨dX5_canHold_61, rfl⟩ ci_1 rfl ?_
      refine G_goto (tgt := 24) ⟨dX5_canHold_64, rfl⟩ rfl ?_
      rw [bi_0] at c_37
      have est : ipK gr S (p + 1) = true := by rw [ipK, hok, c_37]; rfl
      exact G_L (by rw [nI_1]) (ih (n - (p + 1)) (by omega) (p + 1) rfl (by omega) est)
    · rw [bi_n0] at c_37
      refine G_iload_2 (nx := 41) ⟨dX5_canHold_40, rfl⟩ ?_
      refine G_iconst (nx := 42) ⟨dX5_canHold_41, rfl⟩ ci_1 ?_
      refine G_iload_3 (nx := 43) ⟨dX5_canHold_42, rfl⟩ ?_
      refine G_ishl (nx := 44) ⟨dX5_canHold_43, rfl⟩ ?_
      refine G_iconst (nx := 45) ⟨dX5_canHold_44, rfl⟩ ci_m1 ?_
      refine G_ixor (nx := 46) ⟨dX5_canHold_45, rfl⟩ ?_
      refine G_iand (nx := 47) ⟨dX5_canHold_46, rfl⟩ ?_
      rw [one_shl (show p < 31 by omega), nI_df _ (by omega)]
      refine G_aload_1 (nx := 48) ⟨dX5_canHold_47, rfl⟩ ?_
      refine G_getr (nx := 51) (k := 1) (r := 4) ⟨dX5_canHold_48, rfl⟩ fX5_28 q_1 yr_4_2 (r_1_2 _) ?_
      refine G_iload_3 (nx := 52) ⟨dX5_canHold_51, rfl⟩ ?_
      refine G_iald (nx := 53) (k := 4) ⟨dX5_canHold_52, rfl⟩ q_4 (by first | assumption | decide | (unfold vp_in; decide)) ?_
      rw [hX.2.row hp]
      refine G_iconst (nx := 54) ⟨dX5_canHold_53, rfl⟩ ci_m1 ?_
      refine G_ixor (nx := 55) ⟨dX5_canHold_54, rfl⟩ ?_
      refine G_iand (nx := 56) ⟨dX5_canHold_55, rfl⟩ ?_
      rw [nI_df _ (by omega)]
      refine G_ifeq (tgt := 61) (nx := 59) ⟨dX5_canHold_56, rfl⟩ rfl (fun c_56 => ?_) (fun c_56 => ?_)
      · refine G_iinc_3 (nx := 64) ⟨dX5_canHold_61, rfl⟩ ci_1 rfl ?_
        refine G_goto (tgt := 24) ⟨dX5_canHold_64, rfl⟩ rfl ?_
        rw [nI_0iff (by have := df_le (df S (2 ^ p)) (gr p); omega), ip_eq c_37 (hW.2.1 p hp)] at c_56
        have est : ipK gr S (p + 1) = true := by rw [ipK, hok, c_37, decide_eq_true c_56]; rfl
        exact G_L (by rw [nI_1]) (ih (n - (p + 1)) (by omega) (p + 1) rfl (by omega) est)
      · refine G_iconst (nx := 60) ⟨dX5_canHold_59, rfl⟩ ci_0 ?_
        refine G_zret ⟨dX5_canHold_60, rfl⟩ rfl (by first | assumption | decide | exact bi_01 _) ?_
        rw [nI_0iff (by have := df_le (df S (2 ^ p)) (gr p); omega), ip_eq c_37 (hW.2.1 p hp)] at c_56
        have ef : ipK gr S n = false := by
          rcases hb : ipK gr S n with _ | _
          · rfl
          · have h := ipK_mono hb (show p + 1 ≤ n by omega)
            rw [ipK, c_37, decide_eq_false c_56] at h
            simp at h
        rw [ef] at hk
        exact hk

theorem cP_canHold {x : Int32} (hX : XG I 1 4 n gr) (hW : WG n gr) (hk : K (.int (bi (pkB n gr x))) I J (rX g)) : G l (d + 2) mX5_canHold K 0 [.ref 34, .ref 1, .int x, UU] [] I J (rX g) := by
  have hn := hX.2.1
  unfold pkB at hk
  refine G_aload_1 (nx := 1) ⟨dX5_canHold_0, rfl⟩ ?_
  refine G_iload_2 (nx := 2) ⟨dX5_canHold_1, rfl⟩ ?_
  refine G_cv1 (nx := 5) ⟨dX5_canHold_2, rfl⟩ kX5_47 rfl q_1 rfl (Nat.le_of_ble_eq_true rfl) (Nat.le_of_ble_eq_true rfl) (cN_hasAll nt1 hX ?_)
  refine G_ifeq (tgt := 20) (nx := 8) ⟨dX5_canHold_5, rfl⟩ rfl (fun c_5 => ?_) (fun c_5 => ?_)
  · refine G_iconst (nx := 21) ⟨dX5_canHold_20, rfl⟩ ci_0 ?_
    refine G_zret ⟨dX5_canHold_21, rfl⟩ rfl (by first | assumption | decide | exact bi_01 _) ?_
    rw [bi_0] at c_5
    rw [c_5, Bool.false_and] at hk
    exact hk
  · rw [bi_n0] at c_5
    obtain ⟨S, hS, eS⟩ := stB_ex hn c_5
    have hS4 : S < 4096 := Nat.lt_of_lt_of_le hS (pow12 hn)
    subst eS
    rw [c_5, Bool.true_and, cl_nI (by omega), ipB] at hk
    refine G_iload_2 (nx := 9) ⟨dX5_canHold_8, rfl⟩ ?_
    refine G_cs1 (nx := 12) ⟨dX5_canHold_9, rfl⟩ kX5_51 rfl rfl (Nat.le_of_ble_eq_true rfl) (Nat.le_of_ble_eq_true rfl) (cJ_bc hS4 ?_)
    refine G_iconst (nx := 13) ⟨dX5_canHold_12, rfl⟩ ci_2 ?_
    refine G_iconst (nx := 14) ⟨dX5_canHold_13, rfl⟩ ci_3 ?_
    refine G_cs3 (nx := 17) ⟨dX5_canHold_14, rfl⟩ kX5_54 rfl rfl (Nat.le_of_ble_eq_true rfl) (Nat.le_of_ble_eq_true rfl) (cX_within ?_)
    refine G_ifne (tgt := 22) (nx := 20) ⟨dX5_canHold_17, rfl⟩ rfl (fun c_17 => ?_) (fun c_17 => ?_)
    · refine G_iconst (nx := 23) ⟨dX5_canHold_22, rfl⟩ ci_0 ?_
      refine G_istore_3 (nx := 24) ⟨dX5_canHold_23, rfl⟩ rfl rfl ?_
      rw [bi_n0] at c_17
      rw [c_17, Bool.true_and] at hk
      exact G_L (by rw [← nI_0]) (lP_can hX hW hS hk _ 0 rfl (Nat.zero_le _) rfl)
    · refine G_iconst (nx := 21) ⟨dX5_canHold_20, rfl⟩ ci_0 ?_
      refine G_zret ⟨dX5_canHold_21, rfl⟩ rfl (by first | assumption | decide | exact bi_01 _) ?_
      rw [bi_0] at c_17
      rw [c_17, Bool.false_and] at hk
      exact hk

end X79
