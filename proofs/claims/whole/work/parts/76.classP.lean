
theorem lb_congr {P Q : Nat → Bool} {n : Nat} (h : ∀ q, q < n → P q = Q q) : lb P n = lb Q n := by
  cases e : lb P n with
  | none => exact (lb_none (fun q hq => by rw [← h q hq]; exact (lb_spec P n).1 e q hq)).symm
  | some x =>
    obtain ⟨h1, h2, h3⟩ := (lb_spec P n).2 x e
    exact (lb_some h1 (by rw [← h x h1]; exact h2) (fun q hq => by rw [← h q (by omega)]; exact h3 q hq)).symm
theorem inR_nI {a b c : Nat} (ha : a < 2 ^ 31) (hb : b < 2 ^ 31) (hc : c < 2 ^ 31) : inR (nI a) (nI b) (nI c) = decide (b ≤ a ∧ a ≤ c) := decide_eq_decide.mpr (by rw [nI_le_iff hb ha, nI_le_iff ha hc])
theorem hz_0 {n : Nat} {gr : Nat → Nat} {v : Nat} : hz n gr 0 v = 0 := by
  apply Nat.eq_of_testBit_eq
  intro x
  rw [z0]
  cases q : (hz n gr 0 v).testBit x with
  | false => rfl
  | true =>
    have := (hset_t.mp q).2.1
    rw [z0] at this
    cases this
theorem hz_lt {n : Nat} {gr : Nat → Nat} {P v : Nat} : hz n gr P v < 2 ^ n := hset_lt
/-- the class's kernel: what is left, taken, k, how many rounds -/
def KS (I : AI) (P ta : Nat) (k : Int) (i : Nat) : Prop := I 25 4 = nI i ∧ I 25 5 = nI P ∧ I 25 6 = nI ta ∧ I 25 7 = iI k
def fKr (x _ : Nat) : Bool := decide (25 ≤ x) && decide (x ≤ 33)
theorem fKr_f {x y : Nat} (h : x < 25 ∨ 33 < x) : fKr x y = false := by
  simp only [fKr, Bool.and_eq_false_iff, decide_eq_false_iff_not]
  omega
theorem sb_sK {I I' : AI} (h : sb (fHs 29) I I') : sb fKr I I' := h.mono (fun x y hf => by
  simp only [fKr, Bool.and_eq_false_iff, decide_eq_false_iff_not] at hf
  exact fHs_f (by omega))
section X76
variable {l : Launch} {d : Nat} {K : AK} {I : AI} {J : AJ} {g : Bool} {n : Nat} {gr : Nat → Nat}

theorem lK_lw {P : Nat} {u v : Int32} (hR : RG I 4 n gr) (hP : P < 2 ^ n) (h5 : I 25 5 = nI P) (hk : K (.int (mv (lb (fun p => P.testBit p && inR (nI (dg gr P p)) u v) n))) I J (rX g)) : ∀ (kk p : Nat), 12 - p = kk → p ≤ 12 → (∀ q, q < p → (fun p => P.testBit p && inR (nI (dg gr P p)) u v) q = false) → G l (d + 1) mX3_leastWith K 3 [.ref 25, .ref 4, .int u, .int v, .int (nI p)] [] I J (rX g) := by
  intro kk
  induction kk using Nat.strongRecOn with
  | _ kk ih =>
  intro p hpk hp hno
  have hn := hR.1
  have hP4 : P < 4096 := Nat.lt_of_lt_of_le hP (pow12 hn)
  refine G_iload_4 (nx := 5) ⟨dX3_leastWith_3, rfl⟩ ?_
  refine G_bipush (nx := 7) ⟨dX3_leastWith_5, rfl⟩ cb_12 ?_
  rw [show (12 : Int32) = nI 12 by decide]
  refine G_icmpge (tgt := 51) (nx := 10) ⟨dX3_leastWith_7, rfl⟩ rfl (fun c_7 => ?_) (fun c_7 => ?_)
  · refine G_iconst (nx := 52) ⟨dX3_leastWith_51, rfl⟩ ci_m1 ?_
    refine G_iret ⟨dX3_leastWith_52, rfl⟩ rfl ?_
    rw [nI_le_iff (by omega) (by omega)] at c_7
    rw [lb_none (fun q hq => hno q (by omega))] at hk
    exact hk
  · rw [nI_le_iff (by omega) (by omega)] at c_7
    have hp12 : p < 12 := by omega
    refine G_aload_0 (nx := 11) ⟨dX3_leastWith_10, rfl⟩ ?_
    refine G_geti (nx := 14) (k := 25) ⟨dX3_leastWith_11, rfl⟩ fX3_32 q_25 yi_3_5 ?_
    rw [h5]
    refine G_iload_4 (nx := 16) ⟨dX3_leastWith_14, rfl⟩ ?_
    refine G_ishr (nx := 17) ⟨dX3_leastWith_16, rfl⟩ ?_
    refine G_iconst (nx := 18) ⟨dX3_leastWith_17, rfl⟩ ci_1 ?_
    refine G_iand (nx := 19) ⟨dX3_leastWith_18, rfl⟩ ?_
    rw [bit_nI (lt31 hP4) (by omega)]
    refine G_ifeq (tgt := 45) (nx := 22) ⟨dX3_leastWith_19, rfl⟩ rfl (fun c_19 => ?_) (fun c_19 => ?_)
    · refine G_iinc_4 (nx := 48) ⟨dX3_leastWith_45, rfl⟩ ci_1 rfl ?_
      refine G_goto (tgt := 3) ⟨dX3_leastWith_48, rfl⟩ rfl ?_
      rw [bi_0] at c_19
      have ez : (fun p => P.testBit p && inR (nI (dg gr P p)) u v) p = false := by simp only [c_19, Bool.false_and]
      exact G_L (by rw [nI_1]) (ih (12 - (p + 1)) (by omega) (p + 1) rfl (by omega) (fun q hq => by
        by_cases e0 : q = p
        · rw [e0]; exact ez
        · exact hno q (by omega)))
    · rw [bi_n0] at c_19
      have hpn : p < n := tb_ltn hP c_19
      have hip := in12 hpn hn
      refine G_aload_1 (nx := 23) ⟨dX3_leastWith_22, rfl⟩ ?_
      refine G_iload_4 (nx := 25) ⟨dX3_leastWith_23, rfl⟩ ?_
      refine G_iald (nx := 26) (k := 4) ⟨dX3_leastWith_25, rfl⟩ q_4 (by first | assumption | decide | (unfold vp_in; decide)) ?_
      rw [hR.row hpn]
      refine G_aload_0 (nx := 27) ⟨dX3_leastWith_26, rfl⟩ ?_
      refine G_geti (nx := 30) (k := 25) ⟨dX3_leastWith_27, rfl⟩ fX3_32 q_25 yi_3_5 ?_
      rw [h5]
      refine G_iand (nx := 31) ⟨dX3_leastWith_30, rfl⟩ ?_
      rw [nI_and]
      refine G_cs1 (nx := 34) ⟨dX3_leastWith_31, rfl⟩ kX3_72 rfl rfl (Nat.le_of_ble_eq_true rfl) (Nat.le_of_ble_eq_true rfl) (cJ_bc (Nat.lt_of_le_of_lt Nat.and_le_right hP4) ?_)
      refine G_iload_2 (nx := 35) ⟨dX3_leastWith_34, rfl⟩ ?_
      refine G_iload_3 (nx := 36) ⟨dX3_leastWith_35, rfl⟩ ?_
      refine G_cs3 (nx := 39) ⟨dX3_leastWith_36, rfl⟩ kX3_78 rfl rfl (Nat.le_of_ble_eq_true rfl) (Nat.le_of_ble_eq_true rfl) (cX_within ?_)
      refine G_ifeq (tgt := 45) (nx := 42) ⟨dX3_leastWith_39, rfl⟩ rfl (fun c_39 => ?_) (fun c_39 => ?_)
      · refine G_iinc_4 (nx := 48) ⟨dX3_leastWith_45, rfl⟩ ci_1 rfl ?_
        refine G_goto (tgt := 3) ⟨dX3_leastWith_48, rfl⟩ rfl ?_
        rw [bi_0] at c_39
        have ez : (fun p => P.testBit p && inR (nI (dg gr P p)) u v) p = false := by show (P.testBit p && inR (nI (pc (gr p &&& P))) u v) = false; rw [c_39, Bool.and_false]
        exact G_L (by rw [nI_1]) (ih (12 - (p + 1)) (by omega) (p + 1) rfl (by omega) (fun q hq => by
          by_cases e0 : q = p
          · rw [e0]; exact ez
          · exact hno q (by omega)))
      · refine G_iload_4 (nx := 44) ⟨dX3_leastWith_42, rfl⟩ ?_
        refine G_iret ⟨dX3_leastWith_44, rfl⟩ rfl ?_
        rw [bi_n0] at c_39
        rw [lb_some hpn (by show (P.testBit p && inR (nI (pc (gr p &&& P))) u v) = true; rw [c_19, c_39]; rfl) hno] at hk
        exact hk

theorem cK_lw {P : Nat} {u v : Int32} (hR : RG I 4 n gr) (hP : P < 2 ^ n) (h5 : I 25 5 = nI P) (hk : K (.int (mv (lb (fun p => P.testBit p && inR (nI (dg gr P p)) u v) n))) I J (rX g)) : G l (d + 1) mX3_leastWith K 0 [.ref 25, .ref 4, .int u, .int v, UU] [] I J (rX g) := by
  refine G_iconst (nx := 1) ⟨dX3_leastWith_0, rfl⟩ ci_0 ?_
  refine G_istore_4 (nx := 3) ⟨dX3_leastWith_1, rfl⟩ rfl rfl ?_
  exact G_L (by rw [← nI_0]) (lK_lw hR hP h5 hk _ 0 rfl (by omega) (fun q hq => absurd hq (by omega)))

theorem cK_goes {P ta i S t : Nat} {k : Int} {r : Int32} (hK : KS I P ta k i) (hi : i < 12) (hP : P < 4096) (ht : t < 4096) (hk : K (.int 1) (w2 (w2 (w2 (w2 (w2 (w2 (w2 I 26 i r) 27 i (nI S)) 28 i (nI t)) 25 4 (nI (i + 1))) 25 5 (nI (df P S))) 25 6 (nI (ta ||| t))) 25 7 (iI (k - (pc t : Int)))) J (rX g)) : G l (d + 1) mX3_goes K 0 [.ref 25, .int r, .int (nI S), .int (nI t)] [] I J (rX g) := by
  obtain ⟨h4, h5, h6, h7⟩ := hK
  have hii : vp_in (nI i) 12 := vp_in_nI hi (by decide)
  have eci := cl_nI (p := i) (by omega)
  refine G_aload_0 (nx := 1) ⟨dX3_goes_0, rfl⟩ ?_
  refine G_geti (nx := 4) (k := 25) ⟨dX3_goes_1, rfl⟩ fX3_28 q_25 yi_3_4 ?_
  rw [h4]
  refine G_bipush (nx := 6) ⟨dX3_goes_4, rfl⟩ cb_12 ?_
  rw [show (12 : Int32) = nI 12 by decide]
  refine G_icmplt (tgt := 11) (nx := 9) ⟨dX3_goes_6, rfl⟩ rfl (fun c_6 => ?_) (fun c_6 => ?_)
  · refine G_aload_0 (nx := 12) ⟨dX3_goes_11, rfl⟩ ?_
    refine G_getr (nx := 15) (k := 25) (r := 26) ⟨dX3_goes_12, rfl⟩ fX3_18 q_25 yr_3_1 (r_25_1 _) ?_
    refine G_aload_0 (nx := 16) ⟨dX3_goes_15, rfl⟩ ?_
    refine G_geti (nx := 19) (k := 25) ⟨dX3_goes_16, rfl⟩ fX3_28 q_25 yi_3_4 ?_
    rw [h4]
    refine G_iload_1 (nx := 20) ⟨dX3_goes_19, rfl⟩ ?_
    refine G_iast (nx := 21) (k := 26) ⟨dX3_goes_20, rfl⟩ q_26 (by first | assumption | decide | (unfold vp_in; decide)) ?_
    refine G_aload_0 (nx := 22) ⟨dX3_goes_21, rfl⟩ ?_
    refine G_getr (nx := 25) (k := 25) (r := 27) ⟨dX3_goes_22, rfl⟩ fX3_22 q_25 yr_3_2 (r_25_2 _) ?_
    refine G_aload_0 (nx := 26) ⟨dX3_goes_25, rfl⟩ ?_
    refine G_geti (nx := 29) (k := 25) ⟨dX3_goes_26, rfl⟩ fX3_28 q_25 yi_3_4 ?_
    simp only [w2_row _ _ _ _ (show ¬ 25 = 26 by decide)]
    rw [h4]
    refine G_iload_2 (nx := 30) ⟨dX3_goes_29, rfl⟩ ?_
    refine G_iast (nx := 31) (k := 27) ⟨dX3_goes_30, rfl⟩ q_27 (by first | assumption | decide | (unfold vp_in; decide)) ?_
    refine G_aload_0 (nx := 32) ⟨dX3_goes_31, rfl⟩ ?_
    refine G_getr (nx := 35) (k := 25) (r := 28) ⟨dX3_goes_32, rfl⟩ fX3_25 q_25 yr_3_3 (r_25_3 _) ?_
    refine G_aload_0 (nx := 36) ⟨dX3_goes_35, rfl⟩ ?_
    refine G_geti (nx := 39) (k := 25) ⟨dX3_goes_36, rfl⟩ fX3_28 q_25 yi_3_4 ?_
    simp only [w2_row _ _ _ _ (show ¬ 25 = 26 by decide), w2_row _ _ _ _ (show ¬ 25 = 27 by decide)]
    rw [h4]
    refine G_iload_3 (nx := 40) ⟨dX3_goes_39, rfl⟩ ?_
    refine G_iast (nx := 41) (k := 28) ⟨dX3_goes_40, rfl⟩ q_28 (by first | assumption | decide | (unfold vp_in; decide)) ?_
    refine G_aload_0 (nx := 42) ⟨dX3_goes_41, rfl⟩ ?_
    refine G_dup (nx := 43) ⟨dX3_goes_42, rfl⟩ rfl ?_
    refine G_geti (nx := 46) (k := 25) ⟨dX3_goes_43, rfl⟩ fX3_28 q_25 yi_3_4 ?_
    simp only [w2_row _ _ _ _ (show ¬ 25 = 26 by decide), w2_row _ _ _ _ (show ¬ 25 = 27 by decide), w2_row _ _ _ _ (show ¬ 25 = 28 by decide)]
    rw [h4]
    refine G_iconst (nx := 47) ⟨dX3_goes_46, rfl⟩ ci_1 ?_
    refine G_iadd (nx := 48) ⟨dX3_goes_47, rfl⟩ ?_
    refine G_puti (nx := 51) (k := 25) ⟨dX3_goes_48, rfl⟩ pX3_28 q_25 yt_3_4 ?_
    rw [nI_1, eci]
    refine G_aload_0 (nx := 52) ⟨dX3_goes_51, rfl⟩ ?_
    refine G_dup (nx := 53) ⟨dX3_goes_52, rfl⟩ rfl ?_
    refine G_geti (nx := 56) (k := 25) ⟨dX3_goes_53, rfl⟩ fX3_32 q_25 yi_3_5 ?_
    rw [w2_ne _ _ _ _ (by decide), w2_row _ _ _ _ (show ¬ 25 = 28 by decide), w2_row _ _ _ _ (show ¬ 25 = 27 by decide), w2_row _ _ _ _ (show ¬ 25 = 26 by decide), h5]
    refine G_iload_2 (nx := 57) ⟨dX3_goes_56, rfl⟩ ?_
    refine G_iconst (nx := 58) ⟨dX3_goes_57, rfl⟩ ci_m1 ?_
    refine G_ixor (nx := 59) ⟨dX3_goes_58, rfl⟩ ?_
    refine G_iand (nx := 60) ⟨dX3_goes_59, rfl⟩ ?_
    rw [nI_df _ (by omega)]
    refine G_puti (nx := 63) (k := 25) ⟨dX3_goes_60, rfl⟩ pX3_32 q_25 yt_3_5 ?_
    refine G_aload_0 (nx := 64) ⟨dX3_goes_63, rfl⟩ ?_
    refine G_dup (nx := 65) ⟨dX3_goes_64, rfl⟩ rfl ?_
    refine G_geti (nx := 68) (k := 25) ⟨dX3_goes_65, rfl⟩ fX3_35 q_25 yi_3_6 ?_
    rw [w2_ne _ _ _ _ (by decide), w2_ne _ _ _ _ (by decide), w2_row _ _ _ _ (show ¬ 25 = 28 by decide), w2_row _ _ _ _ (show ¬ 25 = 27 by decide), w2_row _ _ _ _ (show ¬ 25 = 26 by decide), h6]
    refine G_iload_3 (nx := 69) ⟨dX3_goes_68, rfl⟩ ?_
    refine G_ior (nx := 70) ⟨dX3_goes_69, rfl⟩ ?_
    rw [nI_or]
    refine G_puti (nx := 73) (k := 25) ⟨dX3_goes_70, rfl⟩ pX3_35 q_25 yt_3_6 ?_
    refine G_aload_0 (nx := 74) ⟨dX3_goes_73, rfl⟩ ?_
    refine G_dup (nx := 75) ⟨dX3_goes_74, rfl⟩ rfl ?_
    refine G_geti (nx := 78) (k := 25) ⟨dX3_goes_75, rfl⟩ fX3_38 q_25 yi_3_7 ?_
    rw [w2_ne _ _ _ _ (by decide), w2_ne _ _ _ _ (by decide), w2_ne _ _ _ _ (by decide), w2_row _ _ _ _ (show ¬ 25 = 28 by decide), w2_row _ _ _ _ (show ¬ 25 = 27 by decide), w2_row _ _ _ _ (show ¬ 25 = 26 by decide), h7]
    refine G_iload_3 (nx := 79) ⟨dX3_goes_78, rfl⟩ ?_
    refine G_cs1 (nx := 82) ⟨dX3_goes_79, rfl⟩ kX3_72 rfl rfl (Nat.le_of_ble_eq_true rfl) (Nat.le_of_ble_eq_true rfl) (cJ_bc ht ?_)
    refine G_isub (nx := 83) ⟨dX3_goes_82, rfl⟩ ?_
    rw [iI_subN]
    refine G_puti (nx := 86) (k := 25) ⟨dX3_goes_83, rfl⟩ pX3_38 q_25 yt_3_7 ?_
    refine G_iconst (nx := 87) ⟨dX3_goes_86, rfl⟩ ci_1 ?_
    refine G_zret ⟨dX3_goes_87, rfl⟩ rfl (by first | assumption | decide | exact bi_01 _) ?_
    exact hk
  · (rw [nI_lt_iff (by omega) (by omega)] at c_6; omega)

theorem lK_fin {I0 : AI} {P ta i S t r : Nat} {k : Int} (hs0 : sb fKr I0 I) (hrow : ∀ j, I 26 j = I0 26 j ∧ I 27 j = I0 27 j ∧ I 28 j = I0 28 j) : KS (w2 (w2 (w2 (w2 (w2 (w2 (w2 I 26 i (nI r)) 27 i (nI S)) 28 i (nI t)) 25 4 (nI (i + 1))) 25 5 (nI (df P S))) 25 6 (nI (ta ||| t))) 25 7 (iI (k - (pc t : Int)))) (df P S) (ta ||| t) (k - (pc t : Int)) (i + 1) ∧ ((w2 (w2 (w2 (w2 (w2 (w2 (w2 I 26 i (nI r)) 27 i (nI S)) 28 i (nI t)) 25 4 (nI (i + 1))) 25 5 (nI (df P S))) 25 6 (nI (ta ||| t))) 25 7 (iI (k - (pc t : Int)))) 26 i = nI r ∧ (w2 (w2 (w2 (w2 (w2 (w2 (w2 I 26 i (nI r)) 27 i (nI S)) 28 i (nI t)) 25 4 (nI (i + 1))) 25 5 (nI (df P S))) 25 6 (nI (ta ||| t))) 25 7 (iI (k - (pc t : Int)))) 27 i = nI S ∧ (w2 (w2 (w2 (w2 (w2 (w2 (w2 I 26 i (nI r)) 27 i (nI S)) 28 i (nI t)) 25 4 (nI (i + 1))) 25 5 (nI (df P S))) 25 6 (nI (ta ||| t))) 25 7 (iI (k - (pc t : Int)))) 28 i = nI t) ∧ (∀ j, ¬ j = i → (w2 (w2 (w2 (w2 (w2 (w2 (w2 I 26 i (nI r)) 27 i (nI S)) 28 i (nI t)) 25 4 (nI (i + 1))) 25 5 (nI (df P S))) 25 6 (nI (ta ||| t))) 25 7 (iI (k - (pc t : Int)))) 26 j = I0 26 j ∧ (w2 (w2 (w2 (w2 (w2 (w2 (w2 I 26 i (nI r)) 27 i (nI S)) 28 i (nI t)) 25 4 (nI (i + 1))) 25 5 (nI (df P S))) 25 6 (nI (ta ||| t))) 25 7 (iI (k - (pc t : Int)))) 27 j = I0 27 j ∧ (w2 (w2 (w2 (w2 (w2 (w2 (w2 I 26 i (nI r)) 27 i (nI S)) 28 i (nI t)) 25 4 (nI (i + 1))) 25 5 (nI (df P S))) 25 6 (nI (ta ||| t))) 25 7 (iI (k - (pc t : Int)))) 28 j = I0 28 j) ∧ sb fKr I0 (w2 (w2 (w2 (w2 (w2 (w2 (w2 I 26 i (nI r)) 27 i (nI S)) 28 i (nI t)) 25 4 (nI (i + 1))) 25 5 (nI (df P S))) 25 6 (nI (ta ||| t))) 25 7 (iI (k - (pc t : Int)))) := by
  refine ⟨⟨by rw [w2_ne _ _ _ _ (by decide), w2_ne _ _ _ _ (by decide), w2_ne _ _ _ _ (by decide), w2_at], by rw [w2_ne _ _ _ _ (by decide), w2_ne _ _ _ _ (by decide), w2_at], by rw [w2_ne _ _ _ _ (by decide), w2_at], by rw [w2_at]⟩, ⟨by rw [w2_row _ _ _ _ (show ¬ 26 = 25 by decide), w2_row _ _ _ _ (show ¬ 26 = 25 by decide), w2_row _ _ _ _ (show ¬ 26 = 25 by decide), w2_row _ _ _ _ (show ¬ 26 = 25 by decide), w2_row _ _ _ _ (show ¬ 26 = 28 by decide), w2_row _ _ _ _ (show ¬ 26 = 27 by decide), w2_at], by rw [w2_row _ _ _ _ (show ¬ 27 = 25 by decide), w2_row _ _ _ _ (show ¬ 27 = 25 by decide), w2_row _ _ _ _ (show ¬ 27 = 25 by decide), w2_row _ _ _ _ (show ¬ 27 = 25 by decide), w2_row _ _ _ _ (show ¬ 27 = 28 by decide), w2_at], by rw [w2_row _ _ _ _ (show ¬ 28 = 25 by decide), w2_row _ _ _ _ (show ¬ 28 = 25 by decide), w2_row _ _ _ _ (show ¬ 28 = 25 by decide), w2_row _ _ _ _ (show ¬ 28 = 25 by decide), w2_at]⟩, fun j hj => ⟨by rw [w2_row _ _ _ _ (show ¬ 26 = 25 by decide), w2_row _ _ _ _ (show ¬ 26 = 25 by decide), w2_row _ _ _ _ (show ¬ 26 = 25 by decide), w2_row _ _ _ _ (show ¬ 26 = 25 by decide), w2_row _ _ _ _ (show ¬ 26 = 28 by decide), w2_row _ _ _ _ (show ¬ 26 = 27 by decide), w2_ne _ _ _ _ (by omega)]; exact (hrow j).1, by rw [w2_row _ _ _ _ (show ¬ 27 = 25 by decide), w2_row _ _ _ _ (show ¬ 27 = 25 by decide), w2_row _ _ _ _ (show ¬ 27 = 25 by decide), w2_row _ _ _ _ (show ¬ 27 = 25 by decide), w2_row _ _ _ _ (show ¬ 27 = 28 by decide), w2_ne _ _ _ _ (by omega), w2_row _ _ _ _ (show ¬ 27 = 26 by decide)]; exact (hrow j).2.1, by rw [w2_row _ _ _ _ (show ¬ 28 = 25 by decide), w2_row _ _ _ _ (show ¬ 28 = 25 by decide), w2_row _ _ _ _ (show ¬ 28 = 25 by decide), w2_row _ _ _ _ (show ¬ 28 = 25 by decide), w2_ne _ _ _ _ (by omega), w2_row _ _ _ _ (show ¬ 28 = 27 by decide), w2_row _ _ _ _ (show ¬ 28 = 26 by decide)]; exact (hrow j).2.2⟩, ((((((hs0.w rfl).w rfl).w rfl).w rfl).w rfl).w rfl).w rfl⟩
theorem cK_round {P ta i : Nat} {k : Int} (hR : RG I 4 n gr) (hW : WG n gr) (hP : P < 2 ^ n) (hta : ta < 2 ^ n) (hi : i < 12) (h0 : 0 ≤ k) (hk12 : k ≤ 12) (hK : KS I P ta k i) (hkN : ks n gr P k = none → ∀ (I' : AI), KS I' P ta k i → (∀ j, I' 26 j = I 26 j ∧ I' 27 j = I 27 j ∧ I' 28 j = I 28 j) → sb fKr I I' → K (.int 0) I' J (rX g)) (hkS : ∀ x, ks n gr P k = some x → ∀ (I' : AI), KS I' (df P x.2.1) (ta ||| x.2.2) (k - (pc x.2.2 : Int)) (i + 1) → (I' 26 i = nI x.1 ∧ I' 27 i = nI x.2.1 ∧ I' 28 i = nI x.2.2) → (∀ j, ¬ j = i → I' 26 j = I 26 j ∧ I' 27 j = I 27 j ∧ I' 28 j = I 28 j) → sb fKr I I' → K (.int 1) I' J (rX g)) : G l (d + 5) mX3_doesRound K 0 [.ref 25, .ref 4, UU] [] I J (rX g) := by
  have hn := hR.1
  have hp12 := pow12 hn
  obtain ⟨h4, h5, h6, h7⟩ := id hK
  have hdg : ∀ p, dg gr P p ≤ 12 := fun p => pc_le _
  have e1 : lb (fun p => P.testBit p && inR (nI (dg gr P p)) 0 0) n = lb (fun p => P.testBit p && decide (dg gr P p = 0)) n := lb_congr (fun q _ => by
    congr 1
    rw [show (0 : Int32) = nI 0 by decide]
    have := hdg q
    rw [inR_nI (by omega) (by omega) (by omega)]
    exact decide_eq_decide.mpr (by omega))
  have e2 : lb (fun p => P.testBit p && inR (nI (dg gr P p)) (iI k + 1) 12) n = lb (fun p => P.testBit p && decide (k < (dg gr P p : Int))) n := lb_congr (fun q _ => by
    congr 1
    have hk1 : iI k + 1 = nI (k.toNat + 1) := by
      rw [← nI_1, ← iI_nat, Int.toNat_of_nonneg h0]
    rw [hk1, show (12 : Int32) = nI 12 by decide]
    have := hdg q
    rw [inR_nI (by omega) (by omega) (by omega)]
    exact decide_eq_decide.mpr (by omega))
  have e3 : lb (fun p => P.testBit p && inR (nI (dg gr P p)) 1 1) n = lb (fun p => P.testBit p && decide (dg gr P p = 1)) n := lb_congr (fun q _ => by
    congr 1
    rw [show (1 : Int32) = nI 1 by decide]
    have := hdg q
    rw [inR_nI (by omega) (by omega) (by omega)]
    exact decide_eq_decide.mpr (by omega))
  rcases q1 : lb (fun p => P.testBit p && decide (dg gr P p = 0)) n with _ | p1
  rotate_left
  · obtain ⟨b1, b2, b3⟩ := (lb_spec _ n).2 p1 q1
    have hks : ks n gr P k = some (0, 2 ^ p1, 0) := by unfold ks; rw [q1]
    have hpw : 2 ^ p1 < 2 ^ n := Nat.pow_lt_pow_right (by omega) b1
    obtain ⟨r1, r2, r3, r4⟩ := lK_fin (I0 := I) (I := I) (P := P) (ta := ta) (i := i) (S := 2 ^ p1) (t := 0) (r := 0) (k := k) sb.rf (fun _ => ⟨rfl, rfl, rfl⟩)
    refine G_aload_0 (nx := 1) ⟨dX3_doesRound_0, rfl⟩ ?_
    refine G_aload_1 (nx := 2) ⟨dX3_doesRound_1, rfl⟩ ?_
    refine G_iconst (nx := 3) ⟨dX3_doesRound_2, rfl⟩ ci_0 ?_
    refine G_iconst (nx := 4) ⟨dX3_doesRound_3, rfl⟩ ci_0 ?_
    refine G_cv3 (nx := 7) ⟨dX3_doesRound_4, rfl⟩ kX3_54 rfl q_25 rfl (Nat.le_of_ble_eq_true rfl) (Nat.le_of_ble_eq_true rfl) (cK_lw (d := d + 3) hR hP h5 ?_)
    rw [e1, q1, show mv (some p1) = nI p1 from rfl]
    refine G_istore_2 (nx := 8) ⟨dX3_doesRound_7, rfl⟩ rfl rfl ?_
    refine G_iload_2 (nx := 9) ⟨dX3_doesRound_8, rfl⟩ ?_
    refine G_iflt (tgt := 22) (nx := 12) ⟨dX3_doesRound_9, rfl⟩ rfl (fun c_9 => ?_) (fun c_9 => ?_)
    · (rw [← nI_0, nI_lt_iff (by omega) (by omega)] at c_9; omega)
    · refine G_aload_0 (nx := 13) ⟨dX3_doesRound_12, rfl⟩ ?_
      refine G_iconst (nx := 14) ⟨dX3_doesRound_13, rfl⟩ ci_0 ?_
      refine G_iconst (nx := 15) ⟨dX3_doesRound_14, rfl⟩ ci_1 ?_
      refine G_iload_2 (nx := 16) ⟨dX3_doesRound_15, rfl⟩ ?_
      refine G_ishl (nx := 17) ⟨dX3_doesRound_16, rfl⟩ ?_
      refine G_iconst (nx := 18) ⟨dX3_doesRound_17, rfl⟩ ci_0 ?_
      rw [one_shl (show p1 < 31 by omega), ← nI_0]
      refine G_cv3 (nx := 21) ⟨dX3_doesRound_18, rfl⟩ kX3_58 rfl q_25 rfl (Nat.le_of_ble_eq_true rfl) (Nat.le_of_ble_eq_true rfl) (cK_goes (d := d + 3) hK hi (by omega) (by omega) ?_)
      refine G_zret ⟨dX3_doesRound_21, rfl⟩ rfl (by first | assumption | decide | exact bi_01 _) ?_
      exact hkS _ hks _ r1 r2 r3 r4

  rcases q2 : lb (fun p => P.testBit p && decide (k < (dg gr P p : Int))) n with _ | p2
  rotate_left
  · obtain ⟨b1, b2, b3⟩ := (lb_spec _ n).2 p2 q2
    have hks : ks n gr P k = some (1, 2 ^ p2, 2 ^ p2) := by unfold ks; rw [q1]; simp only; rw [q2]
    have hpw : 2 ^ p2 < 2 ^ n := Nat.pow_lt_pow_right (by omega) b1
    obtain ⟨r1, r2, r3, r4⟩ := lK_fin (I0 := I) (I := I) (P := P) (ta := ta) (i := i) (S := 2 ^ p2) (t := 2 ^ p2) (r := 1) (k := k) sb.rf (fun _ => ⟨rfl, rfl, rfl⟩)
    refine G_aload_0 (nx := 1) ⟨dX3_doesRound_0, rfl⟩ ?_
    refine G_aload_1 (nx := 2) ⟨dX3_doesRound_1, rfl⟩ ?_
    refine G_iconst (nx := 3) ⟨dX3_doesRound_2, rfl⟩ ci_0 ?_
    refine G_iconst (nx := 4) ⟨dX3_doesRound_3, rfl⟩ ci_0 ?_
    refine G_cv3 (nx := 7) ⟨dX3_doesRound_4, rfl⟩ kX3_54 rfl q_25 rfl (Nat.le_of_ble_eq_true rfl) (Nat.le_of_ble_eq_true rfl) (cK_lw (d := d + 3) hR hP h5 ?_)
    rw [e1, q1, show mv none = -1 from rfl]
    refine G_istore_2 (nx := 8) ⟨dX3_doesRound_7, rfl⟩ rfl rfl ?_
    refine G_iload_2 (nx := 9) ⟨dX3_doesRound_8, rfl⟩ ?_
    refine G_iflt (tgt := 22) (nx := 12) ⟨dX3_doesRound_9, rfl⟩ rfl (fun c_9 => ?_) (fun c_9 => ?_)
    · refine G_aload_0 (nx := 23) ⟨dX3_doesRound_22, rfl⟩ ?_
      refine G_aload_1 (nx := 24) ⟨dX3_doesRound_23, rfl⟩ ?_
      refine G_aload_0 (nx := 25) ⟨dX3_doesRound_24, rfl⟩ ?_
      refine G_geti (nx := 28) (k := 25) ⟨dX3_doesRound_25, rfl⟩ fX3_38 q_25 yi_3_7 ?_
      rw [h7]
      refine G_iconst (nx := 29) ⟨dX3_doesRound_28, rfl⟩ ci_1 ?_
      refine G_iadd (nx := 30) ⟨dX3_doesRound_29, rfl⟩ ?_
      refine G_bipush (nx := 32) ⟨dX3_doesRound_30, rfl⟩ cb_12 ?_
      refine G_cv3 (nx := 35) ⟨dX3_doesRound_32, rfl⟩ kX3_54 rfl q_25 rfl (Nat.le_of_ble_eq_true rfl) (Nat.le_of_ble_eq_true rfl) (cK_lw (d := d + 3) hR hP h5 ?_)
      rw [e2, q2, show mv (some p2) = nI p2 from rfl]
      refine G_istore_2 (nx := 36) ⟨dX3_doesRound_35, rfl⟩ rfl rfl ?_
      refine G_iload_2 (nx := 37) ⟨dX3_doesRound_36, rfl⟩ ?_
      refine G_iflt (tgt := 52) (nx := 40) ⟨dX3_doesRound_37, rfl⟩ rfl (fun c_37 => ?_) (fun c_37 => ?_)
      · (rw [← nI_0, nI_lt_iff (by omega) (by omega)] at c_37; omega)
      · refine G_aload_0 (nx := 41) ⟨dX3_doesRound_40, rfl⟩ ?_
        refine G_iconst (nx := 42) ⟨dX3_doesRound_41, rfl⟩ ci_1 ?_
        refine G_iconst (nx := 43) ⟨dX3_doesRound_42, rfl⟩ ci_1 ?_
        refine G_iload_2 (nx := 44) ⟨dX3_doesRound_43, rfl⟩ ?_
        refine G_ishl (nx := 45) ⟨dX3_doesRound_44, rfl⟩ ?_
        refine G_iconst (nx := 46) ⟨dX3_doesRound_45, rfl⟩ ci_1 ?_
        refine G_iload_2 (nx := 47) ⟨dX3_doesRound_46, rfl⟩ ?_
        refine G_ishl (nx := 48) ⟨dX3_doesRound_47, rfl⟩ ?_
        rw [one_shl (show p2 < 31 by omega)]
        refine G_cv3 (nx := 51) ⟨dX3_doesRound_48, rfl⟩ kX3_58 rfl q_25 rfl (Nat.le_of_ble_eq_true rfl) (Nat.le_of_ble_eq_true rfl) (cK_goes (d := d + 3) hK hi (by omega) (by omega) ?_)
        refine G_zret ⟨dX3_doesRound_51, rfl⟩ rfl (by first | assumption | decide | exact bi_01 _) ?_
        exact hkS _ hks _ r1 r2 r3 r4
    · exact absurd (by decide) c_9

  rcases q3 : lb (fun p => P.testBit p && decide (dg gr P p = 1)) n with _ | p3
  rotate_left
  · obtain ⟨b1, b2, b3⟩ := (lb_spec _ n).2 p3 q3
    have hks : ks n gr P k = some (2, 2 ^ p3 ||| (gr p3 &&& P), gr p3 &&& P) := by unfold ks; rw [q1]; simp only; rw [q2]; simp only; rw [q3]
    have hip := in12 b1 hn
    have hna : gr p3 &&& P ≤ P := Nat.and_le_right
    have hpw : 2 ^ p3 < 2 ^ n := Nat.pow_lt_pow_right (by omega) b1
    obtain ⟨r1, r2, r3, r4⟩ := lK_fin (I0 := I) (I := I) (P := P) (ta := ta) (i := i) (S := 2 ^ p3 ||| (gr p3 &&& P)) (t := gr p3 &&& P) (r := 2) (k := k) sb.rf (fun _ => ⟨rfl, rfl, rfl⟩)
    refine G_aload_0 (nx := 1) ⟨dX3_doesRound_0, rfl⟩ ?_
    refine G_aload_1 (nx := 2) ⟨dX3_doesRound_1, rfl⟩ ?_
    refine G_iconst (nx := 3) ⟨dX3_doesRound_2, rfl⟩ ci_0 ?_
    refine G_iconst (nx := 4) ⟨dX3_doesRound_3, rfl⟩ ci_0 ?_
    refine G_cv3 (nx := 7) ⟨dX3_doesRound_4, rfl⟩ kX3_54 rfl q_25 rfl (Nat.le_of_ble_eq_true rfl) (Nat.le_of_ble_eq_true rfl) (cK_lw (d := d + 3) hR hP h5 ?_)
    rw [e1, q1, show mv none = -1 from rfl]
    refine G_istore_2 (nx := 8) ⟨dX3_doesRound_7, rfl⟩ rfl rfl ?_
    refine G_iload_2 (nx := 9) ⟨dX3_doesRound_8, rfl⟩ ?_
    refine G_iflt (tgt := 22) (nx := 12) ⟨dX3_doesRound_9, rfl⟩ rfl (fun c_9 => ?_) (fun c_9 => ?_)
    · refine G_aload_0 (nx := 23) ⟨dX3_doesRound_22, rfl⟩ ?_
      refine G_aload_1 (nx := 24) ⟨dX3_doesRound_23, rfl⟩ ?_
      refine G_aload_0 (nx := 25) ⟨dX3_doesRound_24, rfl⟩ ?_
      refine G_geti (nx := 28) (k := 25) ⟨dX3_doesRound_25, rfl⟩ fX3_38 q_25 yi_3_7 ?_
      rw [h7]
      refine G_iconst (nx := 29) ⟨dX3_doesRound_28, rfl⟩ ci_1 ?_
      refine G_iadd (nx := 30) ⟨dX3_doesRound_29, rfl⟩ ?_
      refine G_bipush (nx := 32) ⟨dX3_doesRound_30, rfl⟩ cb_12 ?_
      refine G_cv3 (nx := 35) ⟨dX3_doesRound_32, rfl⟩ kX3_54 rfl q_25 rfl (Nat.le_of_ble_eq_true rfl) (Nat.le_of_ble_eq_true rfl) (cK_lw (d := d + 3) hR hP h5 ?_)
      rw [e2, q2, show mv none = -1 from rfl]
      refine G_istore_2 (nx := 36) ⟨dX3_doesRound_35, rfl⟩ rfl rfl ?_
      refine G_iload_2 (nx := 37) ⟨dX3_doesRound_36, rfl⟩ ?_
      refine G_iflt (tgt := 52) (nx := 40) ⟨dX3_doesRound_37, rfl⟩ rfl (fun c_37 => ?_) (fun c_37 => ?_)
      · refine G_aload_0 (nx := 53) ⟨dX3_doesRound_52, rfl⟩ ?_
        refine G_aload_1 (nx := 54) ⟨dX3_doesRound_53, rfl⟩ ?_
        refine G_iconst (nx := 55) ⟨dX3_doesRound_54, rfl⟩ ci_1 ?_
        refine G_iconst (nx := 56) ⟨dX3_doesRound_55, rfl⟩ ci_1 ?_
        refine G_cv3 (nx := 59) ⟨dX3_doesRound_56, rfl⟩ kX3_54 rfl q_25 rfl (Nat.le_of_ble_eq_true rfl) (Nat.le_of_ble_eq_true rfl) (cK_lw (d := d + 3) hR hP h5 ?_)
        rw [e3, q3, show mv (some p3) = nI p3 from rfl]
        refine G_istore_2 (nx := 60) ⟨dX3_doesRound_59, rfl⟩ rfl rfl ?_
        refine G_iload_2 (nx := 61) ⟨dX3_doesRound_60, rfl⟩ ?_
        refine G_iflt (tgt := 90) (nx := 64) ⟨dX3_doesRound_61, rfl⟩ rfl (fun c_61 => ?_) (fun c_61 => ?_)
        · (rw [← nI_0, nI_lt_iff (by omega) (by omega)] at c_61; omega)
        · refine G_aload_0 (nx := 65) ⟨dX3_doesRound_64, rfl⟩ ?_
          refine G_iconst (nx := 66) ⟨dX3_doesRound_65, rfl⟩ ci_2 ?_
          refine G_iconst (nx := 67) ⟨dX3_doesRound_66, rfl⟩ ci_1 ?_
          refine G_iload_2 (nx := 68) ⟨dX3_doesRound_67, rfl⟩ ?_
          refine G_ishl (nx := 69) ⟨dX3_doesRound_68, rfl⟩ ?_
          refine G_aload_1 (nx := 70) ⟨dX3_doesRound_69, rfl⟩ ?_
          refine G_iload_2 (nx := 71) ⟨dX3_doesRound_70, rfl⟩ ?_
          refine G_iald (nx := 72) (k := 4) ⟨dX3_doesRound_71, rfl⟩ q_4 (by first | assumption | decide | (unfold vp_in; decide)) ?_
          rw [hR.row b1]
          refine G_aload_0 (nx := 73) ⟨dX3_doesRound_72, rfl⟩ ?_
          refine G_geti (nx := 76) (k := 25) ⟨dX3_doesRound_73, rfl⟩ fX3_32 q_25 yi_3_5 ?_
          rw [h5]
          refine G_iand (nx := 77) ⟨dX3_doesRound_76, rfl⟩ ?_
          refine G_ior (nx := 78) ⟨dX3_doesRound_77, rfl⟩ ?_
          rw [nI_and, one_shl (show p3 < 31 by omega), nI_or]
          refine G_aload_1 (nx := 79) ⟨dX3_doesRound_78, rfl⟩ ?_
          refine G_iload_2 (nx := 80) ⟨dX3_doesRound_79, rfl⟩ ?_
          refine G_iald (nx := 81) (k := 4) ⟨dX3_doesRound_80, rfl⟩ q_4 (by first | assumption | decide | (unfold vp_in; decide)) ?_
          rw [hR.row b1]
          refine G_aload_0 (nx := 82) ⟨dX3_doesRound_81, rfl⟩ ?_
          refine G_geti (nx := 85) (k := 25) ⟨dX3_doesRound_82, rfl⟩ fX3_32 q_25 yi_3_5 ?_
          rw [h5]
          refine G_iand (nx := 86) ⟨dX3_doesRound_85, rfl⟩ ?_
          rw [nI_and]
          refine G_cv3 (nx := 89) ⟨dX3_doesRound_86, rfl⟩ kX3_58 rfl q_25 rfl (Nat.le_of_ble_eq_true rfl) (Nat.le_of_ble_eq_true rfl) (cK_goes (d := d + 3) hK hi (by omega) (by omega) ?_)
          refine G_zret ⟨dX3_doesRound_89, rfl⟩ rfl (by first | assumption | decide | exact bi_01 _) ?_
          exact hkS _ hks _ r1 r2 r3 r4
      · exact absurd (by decide) c_37
    · exact absurd (by decide) c_9

  · have hksE : ks n gr P k = if hz n gr P 0 = 0 then none else some (3, hz n gr P 0 ||| hz n gr P 2, hz n gr P 2) := by unfold ks; rw [q1]; simp only; rw [q2]; simp only; rw [q3]
    have z1 := hz_lt (n := n) (gr := gr) (P := P) (v := 0)
    have z2 := hz_lt (n := n) (gr := gr) (P := P) (v := 2)
    refine G_aload_0 (nx := 1) ⟨dX3_doesRound_0, rfl⟩ ?_
    refine G_aload_1 (nx := 2) ⟨dX3_doesRound_1, rfl⟩ ?_
    refine G_iconst (nx := 3) ⟨dX3_doesRound_2, rfl⟩ ci_0 ?_
    refine G_iconst (nx := 4) ⟨dX3_doesRound_3, rfl⟩ ci_0 ?_
    refine G_cv3 (nx := 7) ⟨dX3_doesRound_4, rfl⟩ kX3_54 rfl q_25 rfl (Nat.le_of_ble_eq_true rfl) (Nat.le_of_ble_eq_true rfl) (cK_lw (d := d + 3) hR hP h5 ?_)
    rw [e1, q1, show mv none = -1 from rfl]
    refine G_istore_2 (nx := 8) ⟨dX3_doesRound_7, rfl⟩ rfl rfl ?_
    refine G_iload_2 (nx := 9) ⟨dX3_doesRound_8, rfl⟩ ?_
    refine G_iflt (tgt := 22) (nx := 12) ⟨dX3_doesRound_9, rfl⟩ rfl (fun c_9 => ?_) (fun c_9 => ?_)
    · refine G_aload_0 (nx := 23) ⟨dX3_doesRound_22, rfl⟩ ?_
      refine G_aload_1 (nx := 24) ⟨dX3_doesRound_23, rfl⟩ ?_
      refine G_aload_0 (nx := 25) ⟨dX3_doesRound_24, rfl⟩ ?_
      refine G_geti (nx := 28) (k := 25) ⟨dX3_doesRound_25, rfl⟩ fX3_38 q_25 yi_3_7 ?_
      rw [h7]
      refine G_iconst (nx := 29) ⟨dX3_doesRound_28, rfl⟩ ci_1 ?_
      refine G_iadd (nx := 30) ⟨dX3_doesRound_29, rfl⟩ ?_
      refine G_bipush (nx := 32) ⟨dX3_doesRound_30, rfl⟩ cb_12 ?_
      refine G_cv3 (nx := 35) ⟨dX3_doesRound_32, rfl⟩ kX3_54 rfl q_25 rfl (Nat.le_of_ble_eq_true rfl) (Nat.le_of_ble_eq_true rfl) (cK_lw (d := d + 3) hR hP h5 ?_)
      rw [e2, q2, show mv none = -1 from rfl]
      refine G_istore_2 (nx := 36) ⟨dX3_doesRound_35, rfl⟩ rfl rfl ?_
      refine G_iload_2 (nx := 37) ⟨dX3_doesRound_36, rfl⟩ ?_
      refine G_iflt (tgt := 52) (nx := 40) ⟨dX3_doesRound_37, rfl⟩ rfl (fun c_37 => ?_) (fun c_37 => ?_)
      · refine G_aload_0 (nx := 53) ⟨dX3_doesRound_52, rfl⟩ ?_
        refine G_aload_1 (nx := 54) ⟨dX3_doesRound_53, rfl⟩ ?_
        refine G_iconst (nx := 55) ⟨dX3_doesRound_54, rfl⟩ ci_1 ?_
        refine G_iconst (nx := 56) ⟨dX3_doesRound_55, rfl⟩ ci_1 ?_
        refine G_cv3 (nx := 59) ⟨dX3_doesRound_56, rfl⟩ kX3_54 rfl q_25 rfl (Nat.le_of_ble_eq_true rfl) (Nat.le_of_ble_eq_true rfl) (cK_lw (d := d + 3) hR hP h5 ?_)
        rw [e3, q3, show mv none = -1 from rfl]
        refine G_istore_2 (nx := 60) ⟨dX3_doesRound_59, rfl⟩ rfl rfl ?_
        refine G_iload_2 (nx := 61) ⟨dX3_doesRound_60, rfl⟩ ?_
        refine G_iflt (tgt := 90) (nx := 64) ⟨dX3_doesRound_61, rfl⟩ rfl (fun c_61 => ?_) (fun c_61 => ?_)
        · refine G_aload_0 (nx := 91) ⟨dX3_doesRound_90, rfl⟩ ?_
          refine G_geti (nx := 94) (k := 25) ⟨dX3_doesRound_91, rfl⟩ fX3_32 q_25 yi_3_5 ?_
          rw [h5]
          refine G_ifne (tgt := 99) (nx := 97) ⟨dX3_doesRound_94, rfl⟩ rfl (fun c_94 => ?_) (fun c_94 => ?_)
          · rw [nI_0iff (by omega)] at c_94
            refine G_aload_0 (nx := 100) ⟨dX3_doesRound_99, rfl⟩ ?_
            refine G_getr (nx := 103) (k := 25) (r := 29) ⟨dX3_doesRound_100, rfl⟩ fX3_12 q_25 yr_3_0 (r_25_0 _) ?_
            refine G_aload_1 (nx := 104) ⟨dX3_doesRound_103, rfl⟩ ?_
            refine G_aload_0 (nx := 105) ⟨dX3_doesRound_104, rfl⟩ ?_
            refine G_geti (nx := 108) (k := 25) ⟨dX3_doesRound_105, rfl⟩ fX3_32 q_25 yi_3_5 ?_
            rw [h5]
            refine G_cvv2 (nx := 111) ⟨dX3_doesRound_108, rfl⟩ kX3_62 rfl q_29 rfl (Nat.le_of_ble_eq_true rfl) (Nat.le_of_ble_eq_true rfl) (cH_settle (d := d) ht29 q_4 (by decide) hR hW hP (fun I1 g5 g6 g7 hs1 => ?_))
            have hs1' := sb_sK hs1
            have rw1 : ∀ j, I1 26 j = I 26 j ∧ I1 27 j = I 27 j ∧ I1 28 j = I 28 j := fun j => ⟨hs1 26 j (fHs_f (by omega)), hs1 27 j (fHs_f (by omega)), hs1 28 j (fHs_f (by omega))⟩
            have hK1 : KS I1 P ta k i := ⟨by rw [hs1 25 4 (fHs_f (by omega))]; exact h4, by rw [hs1 25 5 (fHs_f (by omega))]; exact h5, by rw [hs1 25 6 (fHs_f (by omega))]; exact h6, by rw [hs1 25 7 (fHs_f (by omega))]; exact h7⟩
            refine G_aload_0 (nx := 112) ⟨dX3_doesRound_111, rfl⟩ ?_
            refine G_getr (nx := 115) (k := 25) (r := 29) ⟨dX3_doesRound_112, rfl⟩ fX3_12 q_25 yr_3_0 (r_25_0 _) ?_
            refine G_geti (nx := 118) (k := 29) ⟨dX3_doesRound_115, rfl⟩ fX3_66 q_29 yi_2_5 ?_
            rw [g5]
            refine G_ifne (tgt := 123) (nx := 121) ⟨dX3_doesRound_118, rfl⟩ rfl (fun c_118 => ?_) (fun c_118 => ?_)
            · rw [nI_0iff (by omega)] at c_118
              have hks := hksE
              rw [if_neg c_118] at hks
              obtain ⟨r1, r2, r3, r4⟩ := lK_fin (I0 := I) (I := I1) (P := P) (ta := ta) (i := i) (S := hz n gr P 0 ||| hz n gr P 2) (t := hz n gr P 2) (r := 3) (k := k) hs1' rw1
              refine G_aload_0 (nx := 124) ⟨dX3_doesRound_123, rfl⟩ ?_
              refine G_iconst (nx := 125) ⟨dX3_doesRound_124, rfl⟩ ci_3 ?_
              refine G_aload_0 (nx := 126) ⟨dX3_doesRound_125, rfl⟩ ?_
              refine G_getr (nx := 129) (k := 25) (r := 29) ⟨dX3_doesRound_126, rfl⟩ fX3_12 q_25 yr_3_0 (r_25_0 _) ?_
              refine G_geti (nx := 132) (k := 29) ⟨dX3_doesRound_129, rfl⟩ fX3_66 q_29 yi_2_5 ?_
              rw [g5]
              refine G_aload_0 (nx := 133) ⟨dX3_doesRound_132, rfl⟩ ?_
              refine G_getr (nx := 136) (k := 25) (r := 29) ⟨dX3_doesRound_133, rfl⟩ fX3_12 q_25 yr_3_0 (r_25_0 _) ?_
              refine G_geti (nx := 139) (k := 29) ⟨dX3_doesRound_136, rfl⟩ fX3_69 q_29 yi_2_7 ?_
              rw [g7]
              refine G_ior (nx := 140) ⟨dX3_doesRound_139, rfl⟩ ?_
              rw [nI_or]
              refine G_aload_0 (nx := 141) ⟨dX3_doesRound_140, rfl⟩ ?_
              refine G_getr (nx := 144) (k := 25) (r := 29) ⟨dX3_doesRound_141, rfl⟩ fX3_12 q_25 yr_3_0 (r_25_0 _) ?_
              refine G_geti (nx := 147) (k := 29) ⟨dX3_doesRound_144, rfl⟩ fX3_69 q_29 yi_2_7 ?_
              rw [g7]
              refine G_cv3 (nx := 150) ⟨dX3_doesRound_147, rfl⟩ kX3_58 rfl q_25 rfl (Nat.le_of_ble_eq_true rfl) (Nat.le_of_ble_eq_true rfl) (cK_goes (d := d + 3) hK1 hi (by omega) (by omega) ?_)
              refine G_zret ⟨dX3_doesRound_150, rfl⟩ rfl (by first | assumption | decide | exact bi_01 _) ?_
              exact hkS _ hks _ r1 r2 r3 r4
            · refine G_iconst (nx := 122) ⟨dX3_doesRound_121, rfl⟩ ci_0 ?_
              refine G_zret ⟨dX3_doesRound_122, rfl⟩ rfl (by first | assumption | decide | exact bi_01 _) ?_
              rw [nI_0iff (by omega)] at c_118
              rw [if_pos c_118] at hksE
              exact hkN hksE I1 hK1 rw1 hs1'
          · refine G_iconst (nx := 98) ⟨dX3_doesRound_97, rfl⟩ ci_0 ?_
            refine G_zret ⟨dX3_doesRound_98, rfl⟩ rfl (by first | assumption | decide | exact bi_01 _) ?_
            rw [nI_0iff (by omega)] at c_94
            rw [c_94, hz_0, if_pos rfl, ← c_94] at hksE
            exact hkN hksE I hK (fun _ => ⟨rfl, rfl, rfl⟩) sb.rf
        · exact absurd (by decide) c_61
      · exact absurd (by decide) c_37
    · exact absurd (by decide) c_9

end X76
