
/-- a tree of the class -/
def TT (o a b c e f j1 j2 j3 : Nat) : Prop := isO o 10 ∧ isA a 60 ∧ isA b 60 ∧ isA c 60 ∧ isA e 60 ∧ isA f 60 ∧ isJ j1 60 ∧ isJ j2 60 ∧ isJ j3 60 ∧ (∀ g, rX g o 0 = some a ∧ rX g o 1 = some b ∧ rX g o 2 = some c ∧ rX g o 3 = some e ∧ rX g o 4 = some f ∧ rX g o 5 = some j1 ∧ rX g o 6 = some j2 ∧ rX g o 7 = some j3) ∧ a = o + 1 ∧ b = o + 2 ∧ c = o + 3 ∧ e = o + 4 ∧ f = o + 5 ∧ j1 = o + 6 ∧ j2 = o + 7 ∧ j3 = o + 8
theorem tt57 : TT 57 58 59 60 61 62 63 64 65 := ⟨q_57, q_58, q_59, q_60, q_61, q_62, q_63, q_64, q_65, fun g => ⟨r_57_0 g, r_57_1 g, r_57_2 g, r_57_3 g, r_57_4 g, r_57_5 g, r_57_6 g, r_57_7 g⟩, rfl, rfl, rfl, rfl, rfl, rfl, rfl, rfl⟩
theorem tt66 : TT 66 67 68 69 70 71 72 73 74 := ⟨q_66, q_67, q_68, q_69, q_70, q_71, q_72, q_73, q_74, fun g => ⟨r_66_0 g, r_66_1 g, r_66_2 g, r_66_3 g, r_66_4 g, r_66_5 g, r_66_6 g, r_66_7 g⟩, rfl, rfl, rfl, rfl, rfl, rfl, rfl, rfl⟩
def XT (I : AI) (o m : Nat) : Prop := I o 8 = nI m ∧ m ≤ 60
theorem upB_le {is : Nat → Int32} {m q : Nat} (hT : TP is m) (hm : m ≤ 60) (hq : q < 100) : ∀ f p, p < m → p ≤ q → upB is q f p = false := by
  intro f
  induction f with
  | zero => intro p _ _; rfl
  | succ f ih =>
    intro p hp hpq
    rw [upB]
    by_cases e : is p = -1
    · rw [if_pos e]
    · rw [if_neg e]
      rcases Nat.eq_zero_or_pos p with z | z
      · rw [z] at e hp; exact absurd (hT.1 hp) e
      · obtain ⟨a, ha1, ha2⟩ := hT.2 p z hp
        rw [ha1, if_neg (by rw [nI_eq (by omega) (by omega)]; omega), cl_nI (by omega)]
        exact ih a (by omega) (by omega)
theorem upB_fuel {is : Nat → Int32} {m q : Nat} (hT : TP is m) (hm : m ≤ 60) : ∀ p f, p < f → p < m → upB is q f p = upB is q (p + 1) p := by
  intro p
  induction p using Nat.strongRecOn with
  | _ p ih =>
  intro f hf hp
  obtain ⟨f', rfl⟩ : ∃ f', f = f' + 1 := ⟨f - 1, by omega⟩
  rw [upB, upB]
  by_cases e : is p = -1
  · rw [if_pos e, if_pos e]
  · rw [if_neg e, if_neg e]
    rcases Nat.eq_zero_or_pos p with z | z
    · rw [z] at e hp; exact absurd (hT.1 hp) e
    · obtain ⟨a, ha1, ha2⟩ := hT.2 p z hp
      rw [ha1, cl_nI (by omega), ih a ha2 f' (by omega) (by omega), ih a ha2 p ha2 (by omega)]
theorem upB_step {is : Nat → Int32} {m q u a : Nat} (hT : TP is m) (hm : m ≤ 60) (hq : q < 100) (hu : u < m) (ha : is u = nI a) (hau : a < u) : upB is q (u + 1) u = (decide (a = q) || upB is q (a + 1) a) := by
  rw [upB, ha, if_neg (by
    intro e
    have := congrArg Int32.toInt e
    rw [nI_toInt (by omega)] at this
    have h1 : (-1 : Int32).toInt = -1 := by decide
    omega), cl_nI (by omega)]
  by_cases e : a = q
  · rw [if_pos (by rw [e]), decide_eq_true e]; rfl
  · rw [if_neg (by rw [nI_eq (by omega) (by omega)]; exact e), decide_eq_false e, Bool.false_or]
    exact upB_fuel hT hm a u hau (by omega)
theorem un_cn (is : Nat → Int32) (p : Nat) : ∀ m, unN is m p = cn m (fun i => !decide (i = p) && upB is p (i + 1) i) := by
  intro m
  unfold unN
  induction m with
  | zero => rfl
  | succ m ih =>
    rw [lp_s, ih, cn_s, unF]
    by_cases c : ¬ m = p ∧ upB is p (m + 1) m = true
    · rw [if_pos c, c.2, decide_eq_false c.1]; rfl
    · rw [if_neg c]
      have : (!decide (m = p) && upB is p (m + 1) m) = false := by
        by_cases e : m = p
        · simp [e]
        · have : upB is p (m + 1) m = false := by
            cases q : upB is p (m + 1) m with
            | false => rfl
            | true => exact absurd ⟨e, q⟩ c
          simp [this]
      rw [this]; rfl
theorem tb64 {F a : Nat} : F / 2 ^ a % 2 = 0 ↔ F.testBit a = false := by
  rw [← Nat.toNat_testBit]
  cases F.testBit a <;> simp
section X84
variable {l : Launch} {d : Nat} {K : AK} {I : AI} {J : AJ} {g : Bool}

theorem cT_has {p : Int32} {o a b c e f j1 j2 j3 : Nat} (hT : TT o a b c e f j1 j2 j3) {m : Nat} (hX : XT I o m) (hk : K (.int (bi (ptB m p))) I J (rX g)) : G l d mX10_has K 0 [.ref o, .int p] [] I J (rX g) := by
  have hn := hX.2
  refine G_iload_1 (nx := 1) ⟨dX10_has_0, rfl⟩ ?_
  refine G_iflt (tgt := 16) (nx := 4) ⟨dX10_has_1, rfl⟩ rfl (fun c_1 => ?_) (fun c_1 => ?_)
  · refine G_iconst (nx := 17) ⟨dX10_has_16, rfl⟩ ci_0 ?_
    refine G_zret ⟨dX10_has_17, rfl⟩ rfl (by first | assumption | decide | exact bi_01 _) ?_
    refine K_v (congrArg Value.int ?_) hk
    rw [show ptB m p = false from decide_eq_false (by rw [i32_lt, toInt_0] at c_1; omega)]; rfl
  · refine G_iload_1 (nx := 5) ⟨dX10_has_4, rfl⟩ ?_
    refine G_aload_0 (nx := 6) ⟨dX10_has_5, rfl⟩ ?_
    refine G_geti (nx := 9) (k := o) ⟨dX10_has_6, rfl⟩ fX10_37 hT.1 yi_10_8 ?_
    rw [hX.1]
    refine G_icmpge (tgt := 16) (nx := 12) ⟨dX10_has_9, rfl⟩ rfl (fun c_9 => ?_) (fun c_9 => ?_)
    · refine G_iconst (nx := 17) ⟨dX10_has_16, rfl⟩ ci_0 ?_
      refine G_zret ⟨dX10_has_17, rfl⟩ rfl (by first | assumption | decide | exact bi_01 _) ?_
      refine K_v (congrArg Value.int ?_) hk
      rw [show ptB m p = false from decide_eq_false (by rw [i32_le, nI_toInt (by omega)] at c_9; omega)]; rfl
    · refine G_iconst (nx := 13) ⟨dX10_has_12, rfl⟩ ci_1 ?_
      refine G_goto (tgt := 17) ⟨dX10_has_13, rfl⟩ rfl ?_
      refine G_zret ⟨dX10_has_17, rfl⟩ rfl (by first | assumption | decide | exact bi_01 _) ?_
      refine K_v (congrArg Value.int ?_) hk
      rw [show ptB m p = true from decide_eq_true (by rw [i32_le, nI_toInt (by omega)] at c_9; rw [i32_lt, toInt_0] at c_1; omega)]; rfl

theorem lT_price {v m : Nat} {o a b c e f j1 j2 j3 : Nat} (hT : TT o a b c e f j1 j2 j3) (hX : XT I o m) (hv : v < m) (hk : K (.int (cst (I a v) (I b v) (nI (ltN (I c) m v)) (nI v))) I J (rX g)) : ∀ (kk u : Nat), m - u = kk → v < u → u ≤ m → G l (d + 2) mX10_price K 14 [.ref o, .int (nI v), .int (nI (lp (ltF (I c) v) u (if v = 0 then 0 else 1))), .int (nI u)] [] I J (rX g) := by
  intro kk
  induction kk using Nat.strongRecOn with
  | _ kk ih =>
  intro u huk hvu hum
  have hm := hX.2
  have hiv := in60 (p := v) (by omega)
  have ecv := cl_nI (p := v) (by omega)
  have ecu := cl_nI (p := u) (by omega)
  refine G_iload_3 (nx := 15) ⟨dX10_price_14, rfl⟩ ?_
  refine G_aload_0 (nx := 16) ⟨dX10_price_15, rfl⟩ ?_
  refine G_geti (nx := 19) (k := o) ⟨dX10_price_16, rfl⟩ fX10_37 hT.1 yi_10_8 ?_
  rw [hX.1]
  refine G_icmpge (tgt := 41) (nx := 22) ⟨dX10_price_19, rfl⟩ rfl (fun c_19 => ?_) (fun c_19 => ?_)
  · rw [nI_le_iff (by omega) (by omega)] at c_19
    have e0 : u = m := by omega
    subst e0
    refine G_aload_0 (nx := 42) ⟨dX10_price_41, rfl⟩ ?_
    refine G_getr (nx := 45) (k := o) (r := a) ⟨dX10_price_42, rfl⟩ fX10_9 hT.1 yr_10_0 (hT.2.2.2.2.2.2.2.2.2.1 _).1 ?_
    refine G_iload_1 (nx := 46) ⟨dX10_price_45, rfl⟩ ?_
    refine G_iald (nx := 47) (k := a) ⟨dX10_price_46, rfl⟩ hT.2.1 (by first | assumption | decide | (unfold vp_in; decide)) ?_
    rw [ecv]
    refine G_aload_0 (nx := 48) ⟨dX10_price_47, rfl⟩ ?_
    refine G_getr (nx := 51) (k := o) (r := b) ⟨dX10_price_48, rfl⟩ fX10_15 hT.1 yr_10_1 (hT.2.2.2.2.2.2.2.2.2.1 _).2.1 ?_
    refine G_iload_1 (nx := 52) ⟨dX10_price_51, rfl⟩ ?_
    refine G_iald (nx := 53) (k := b) ⟨dX10_price_52, rfl⟩ hT.2.2.1 (by first | assumption | decide | (unfold vp_in; decide)) ?_
    rw [ecv]
    refine G_iload_2 (nx := 54) ⟨dX10_price_53, rfl⟩ ?_
    refine G_iload_1 (nx := 55) ⟨dX10_price_54, rfl⟩ ?_
    refine G_cs4 (nx := 58) ⟨dX10_price_55, rfl⟩ kX10_41 rfl rfl (Nat.le_of_ble_eq_true rfl) (Nat.le_of_ble_eq_true rfl) (cX_priceBy ?_)
    refine G_iret ⟨dX10_price_58, rfl⟩ rfl ?_
    exact hk
  · rw [nI_le_iff (by omega) (by omega)] at c_19
    have hiu := in60 (p := u) (by omega)
    refine G_aload_0 (nx := 23) ⟨dX10_price_22, rfl⟩ ?_
    refine G_getr (nx := 26) (k := o) (r := c) ⟨dX10_price_23, rfl⟩ fX10_18 hT.1 yr_10_2 (hT.2.2.2.2.2.2.2.2.2.1 _).2.2.1 ?_
    refine G_iload_3 (nx := 27) ⟨dX10_price_26, rfl⟩ ?_
    refine G_iald (nx := 28) (k := c) ⟨dX10_price_27, rfl⟩ hT.2.2.2.1 (by first | assumption | decide | (unfold vp_in; decide)) ?_
    rw [ecu]
    refine G_iload_1 (nx := 29) ⟨dX10_price_28, rfl⟩ ?_
    refine G_icmpne (tgt := 35) (nx := 32) ⟨dX10_price_29, rfl⟩ rfl (fun c_29 => ?_) (fun c_29 => ?_)
    · refine G_iinc_3 (nx := 38) ⟨dX10_price_35, rfl⟩ ci_1 rfl ?_
      refine G_goto (tgt := 14) ⟨dX10_price_38, rfl⟩ rfl ?_
      have est : lp (ltF (I c) v) (u + 1) (if v = 0 then 0 else 1) = lp (ltF (I c) v) u (if v = 0 then 0 else 1) := by rw [lp_s, ltF, if_neg (fun h => c_29 h.2)]
      exact G_L (by rw [nI_1, est]) (ih (m - (u + 1)) (by omega) (u + 1) rfl (by omega) (by omega))
    · refine G_iinc_2 (nx := 35) ⟨dX10_price_32, rfl⟩ ci_1 rfl ?_
      refine G_iinc_3 (nx := 38) ⟨dX10_price_35, rfl⟩ ci_1 rfl ?_
      refine G_goto (tgt := 14) ⟨dX10_price_38, rfl⟩ rfl ?_
      have est : lp (ltF (I c) v) (u + 1) (if v = 0 then 0 else 1) = lp (ltF (I c) v) u (if v = 0 then 0 else 1) + 1 := by rw [lp_s, ltF, if_pos ⟨hvu, c_29⟩]
      exact G_L (by rw [est]; simp only [nI_1]) (ih (m - (u + 1)) (by omega) (u + 1) rfl (by omega) (by omega))

theorem cT_price {v m : Nat} {o a b c e f j1 j2 j3 : Nat} (hT : TT o a b c e f j1 j2 j3) (hX : XT I o m) (hv : v < m) (hk : K (.int (cst (I a v) (I b v) (nI (ltN (I c) m v)) (nI v))) I J (rX g)) : G l (d + 2) mX10_price K 0 [.ref o, .int (nI v), UU, UU] [] I J (rX g) := by
  have hm := hX.2
  have hin := ltF_le (I c) v (v + 1) (Nat.le_refl _) (if v = 0 then 0 else 1)
  refine G_iload_1 (nx := 1) ⟨dX10_price_0, rfl⟩ ?_
  refine G_ifne (tgt := 8) (nx := 4) ⟨dX10_price_1, rfl⟩ rfl (fun c_1 => ?_) (fun c_1 => ?_)
  · refine G_iconst (nx := 9) ⟨dX10_price_8, rfl⟩ ci_1 ?_
    refine G_istore_2 (nx := 10) ⟨dX10_price_9, rfl⟩ rfl rfl ?_
    refine G_iload_1 (nx := 11) ⟨dX10_price_10, rfl⟩ ?_
    refine G_iconst (nx := 12) ⟨dX10_price_11, rfl⟩ ci_1 ?_
    refine G_iadd (nx := 13) ⟨dX10_price_12, rfl⟩ ?_
    refine G_istore_3 (nx := 14) ⟨dX10_price_13, rfl⟩ rfl rfl ?_
    rw [nI_0iff (by omega)] at c_1
    exact G_L (by rw [hin, if_neg c_1, nI_1]; rfl) (lT_price hT hX hv hk _ (v + 1) rfl (by omega) (by omega))
  · refine G_iconst (nx := 5) ⟨dX10_price_4, rfl⟩ ci_0 ?_
    refine G_goto (tgt := 9) ⟨dX10_price_5, rfl⟩ rfl ?_
    refine G_istore_2 (nx := 10) ⟨dX10_price_9, rfl⟩ rfl rfl ?_
    refine G_iload_1 (nx := 11) ⟨dX10_price_10, rfl⟩ ?_
    refine G_iconst (nx := 12) ⟨dX10_price_11, rfl⟩ ci_1 ?_
    refine G_iadd (nx := 13) ⟨dX10_price_12, rfl⟩ ?_
    refine G_istore_3 (nx := 14) ⟨dX10_price_13, rfl⟩ rfl rfl ?_
    rw [nI_0iff (by omega)] at c_1
    exact G_L (by rw [hin, if_pos c_1, nI_1]; rfl) (lT_price hT hX hv hk _ (v + 1) rfl (by omega) (by omega))

theorem lT_under {v m : Nat} {o a b c e f j1 j2 j3 : Nat} (hT : TT o a b c e f j1 j2 j3) (hX : XT I o m) (hP : TP (I c) m) (hv : v < m) (hk : K (.int (nI (unN (I c) m v))) I J (rX g)) : ∀ (kk u F : Nat), m - u = kk → v < u → u ≤ m → F < 2 ^ u → (∀ x, F.testBit x = true ↔ x < u ∧ (x = v ∨ (v < x ∧ upB (I c) v (x + 1) x = true))) → G l (d + 1) mX10_under K 9 [.ref o, .int (nI v), .long (lN F), UU, .int (nI u)] [] I J (rX g) := by
  intro kk
  induction kk using Nat.strongRecOn with
  | _ kk ih =>
  intro u F huk hvu hum hF hFt
  have hm := hX.2
  have ecu := cl_nI (p := u) (by omega)
  have h2u : 2 ^ u ≤ 2 ^ 60 := Nat.pow_le_pow_right (by omega) (by omega)
  have hF64 : F < 2 ^ 64 := by omega
  refine G_iload_4 (nx := 11) ⟨dX10_under_9, rfl⟩ ?_
  refine G_aload_0 (nx := 12) ⟨dX10_under_11, rfl⟩ ?_
  refine G_geti (nx := 15) (k := o) ⟨dX10_under_12, rfl⟩ fX10_37 hT.1 yi_10_8 ?_
  rw [hX.1]
  refine G_icmpge (tgt := 47) (nx := 18) ⟨dX10_under_15, rfl⟩ rfl (fun c_15 => ?_) (fun c_15 => ?_)
  · refine G_lload_2 (nx := 48) ⟨dX10_under_47, rfl⟩ ?_
    rw [nI_le_iff (by omega) (by omega)] at c_15
    have e0 : u = m := by omega
    subst e0
    have hcn : cn 64 (fun i => F.testBit i) = unN (I c) u v + 1 := by
      have hz : ∀ k, u ≤ k → F.testBit k = false := fun k hk => Nat.testBit_lt_two_pow (Nat.lt_of_lt_of_le hF (Nat.pow_le_pow_right (by omega) hk))
      have e1 := cn_more (N := u) (64 - u) (P := fun i => F.testBit i) hz
      rw [show u + (64 - u) = 64 by omega] at e1
      rw [e1, un_cn, ← cn_add1 hv (by simp)]
      refine cn_congr (fun k hk => ?_)
      apply Bool.eq_iff_iff.mpr
      rw [hFt, Bool.or_eq_true, Bool.and_eq_true, Bool.not_eq_true', decide_eq_false_iff_not, decide_eq_true_eq]
      constructor
      · rintro ⟨-, z | ⟨z1, z2⟩⟩
        · exact Or.inr z
        · exact Or.inl ⟨by omega, z2⟩
      · rintro (⟨z1, z2⟩ | z)
        · refine ⟨hk, Or.inr ⟨?_, z2⟩⟩
          rcases Nat.lt_or_ge v k with y | y
          · exact y
          · rw [upB_le hP hm (by omega) _ k hk y] at z2; cases z2
        · exact ⟨hk, Or.inl z⟩
    refine G_csL1 (nx := 51) ⟨dX10_under_48, rfl⟩ kX10_45 rfl (Nat.le_of_ble_eq_true rfl) (Nat.le_of_ble_eq_true rfl) (cJ_lbc hF64 ?_)
    rw [hcn]
    refine G_iconst (nx := 52) ⟨dX10_under_51, rfl⟩ ci_1 ?_
    refine G_isub (nx := 53) ⟨dX10_under_52, rfl⟩ ?_
    rw [show (1 : Int32) = nI 1 by decide, nI_sub (by omega), Nat.add_sub_cancel]
    refine G_iret ⟨dX10_under_53, rfl⟩ rfl ?_
    exact hk
    
  · rw [nI_le_iff (by omega) (by omega)] at c_15
    have hum' : u < m := by omega
    have hiu := in60 (p := u) (by omega)
    obtain ⟨q, eq0, hqu⟩ := hP.2 u (by omega) hum'
    have hdv : F / 2 ^ q % 2 < 2 := Nat.mod_lt _ (by decide)
    refine G_lload_2 (nx := 19) ⟨dX10_under_18, rfl⟩ ?_
    refine G_aload_0 (nx := 20) ⟨dX10_under_19, rfl⟩ ?_
    refine G_getr (nx := 23) (k := o) (r := c) ⟨dX10_under_20, rfl⟩ fX10_18 hT.1 yr_10_2 (hT.2.2.2.2.2.2.2.2.2.1 _).2.2.1 ?_
    refine G_iload_4 (nx := 25) ⟨dX10_under_23, rfl⟩ ?_
    refine G_iald (nx := 26) (k := c) ⟨dX10_under_25, rfl⟩ hT.2.2.2.1 (by first | assumption | decide | (unfold vp_in; decide)) ?_
    rw [ecu, eq0]
    refine G_lushr (nx := 27) ⟨dX10_under_26, rfl⟩ ?_
    refine G_lconst (nx := 28) (v := 1) ⟨dX10_under_27, rfl⟩ (by decide) ?_
    refine G_land (nx := 29) ⟨dX10_under_28, rfl⟩ ?_
    rw [wb_bit hF64 (by omega)]
    refine G_lconst (nx := 30) (v := 0) ⟨dX10_under_29, rfl⟩ (by decide) ?_
    refine G_lcmp (nx := 31) ⟨dX10_under_30, rfl⟩ ?_
    refine G_ifeq (tgt := 41) (nx := 34) ⟨dX10_under_31, rfl⟩ rfl (fun c_31 => ?_) (fun c_31 => ?_)
    · refine G_iinc_4 (nx := 44) ⟨dX10_under_41, rfl⟩ ci_1 rfl ?_
      refine G_goto (tgt := 9) ⟨dX10_under_44, rfl⟩ rfl ?_
      rw [show (0 : Int64) = lN 0 from rfl, lg_cmp_eq, pk_lEQ (by omega) (by omega), tb64] at c_31
      refine G_L (by rw [nI_1]) (ih (m - (u + 1)) (by omega) (u + 1) F rfl (by omega) (by omega) (Nat.lt_trans hF (Nat.pow_lt_pow_right (by omega) (by omega))) (fun x => ?_))
      rw [hFt]
      constructor
      · rintro ⟨h1, h2⟩; exact ⟨by omega, h2⟩
      · rintro ⟨h1, h2⟩
        by_cases ex : x = u
        · rw [ex] at h2
          rcases h2 with h2 | ⟨-, h2⟩
          · omega
          · have hF0 : ¬ (q < u ∧ (q = v ∨ (v < q ∧ upB (I c) v (q + 1) q = true))) := fun h => by rw [(hFt q).mpr h] at c_31; cases c_31
            rw [upB_step hP hm (by omega) hum' eq0 hqu, Bool.or_eq_true, decide_eq_true_eq] at h2
            rcases h2 with h2 | h2
            · exact absurd ⟨hqu, Or.inl h2⟩ hF0
            · rcases Nat.lt_or_ge v q with z | z
              · exact absurd ⟨hqu, Or.inr ⟨z, h2⟩⟩ hF0
              · rw [upB_le hP hm (by omega) _ q (by omega) z] at h2; cases h2
        · exact ⟨by omega, h2⟩
    · refine G_lload_2 (nx := 35) ⟨dX10_under_34, rfl⟩ ?_
      refine G_lconst (nx := 36) (v := 1) ⟨dX10_under_35, rfl⟩ (by decide) ?_
      refine G_iload_4 (nx := 38) ⟨dX10_under_36, rfl⟩ ?_
      refine G_lshl (nx := 39) ⟨dX10_under_38, rfl⟩ ?_
      rw [show (1 : Int64) = lN 1 from rfl, wb_shl 1 (by omega), Nat.one_mul]
      refine G_lor (nx := 40) ⟨dX10_under_39, rfl⟩ ?_
      rw [wb_or hF64 (by omega)]
      refine G_lstore_2 (nx := 41) ⟨dX10_under_40, rfl⟩ rfl rfl ?_
      refine G_iinc_4 (nx := 44) ⟨dX10_under_41, rfl⟩ ci_1 rfl ?_
      refine G_goto (tgt := 9) ⟨dX10_under_44, rfl⟩ rfl ?_
      rw [show (0 : Int64) = lN 0 from rfl, lg_cmp_eq, pk_lEQ (by omega) (by omega), tb64] at c_31
      rw [Bool.not_eq_false] at c_31
      have h2p : 2 ^ (u + 1) = 2 * 2 ^ u := by rw [Nat.pow_succ]; omega
      have hor : F ||| 2 ^ u < 2 ^ (u + 1) := Nat.or_lt_two_pow (by omega) (by omega)
      refine G_L (by rw [nI_1]) (ih (m - (u + 1)) (by omega) (u + 1) (F ||| 2 ^ u) rfl (by omega) (by omega) hor (fun x => ?_))
      rw [tb_ins_t, hFt]
      constructor
      · rintro (⟨h1, h2⟩ | h1)
        · exact ⟨by omega, h2⟩
        · rw [h1]
          refine ⟨by omega, Or.inr ⟨hvu, ?_⟩⟩
          rw [upB_step hP hm (by omega) hum' eq0 hqu, Bool.or_eq_true, decide_eq_true_eq]
          rcases ((hFt q).mp c_31).2 with z | z
          · exact Or.inl z
          · exact Or.inr z.2
      · rintro ⟨h1, h2⟩
        by_cases ex : x = u
        · exact Or.inr ex
        · exact Or.inl ⟨by omega, h2⟩

theorem cT_under {v m : Nat} {o a b c e f j1 j2 j3 : Nat} (hT : TT o a b c e f j1 j2 j3) (hX : XT I o m) (hP : TP (I c) m) (hv : v < m) (hk : K (.int (nI (unN (I c) m v))) I J (rX g)) : G l (d + 1) mX10_under K 0 [.ref o, .int (nI v), UU, UU, UU] [] I J (rX g) := by
  have hm := hX.2
  refine G_lconst (nx := 1) (v := 1) ⟨dX10_under_0, rfl⟩ (by decide) ?_
  refine G_iload_1 (nx := 2) ⟨dX10_under_1, rfl⟩ ?_
  refine G_lshl (nx := 3) ⟨dX10_under_2, rfl⟩ ?_
  rw [show (1 : Int64) = lN 1 from rfl, wb_shl 1 (show v < 64 by omega), Nat.one_mul]
  refine G_lstore_2 (nx := 4) ⟨dX10_under_3, rfl⟩ rfl rfl ?_
  refine G_iload_1 (nx := 5) ⟨dX10_under_4, rfl⟩ ?_
  refine G_iconst (nx := 6) ⟨dX10_under_5, rfl⟩ ci_1 ?_
  refine G_iadd (nx := 7) ⟨dX10_under_6, rfl⟩ ?_
  refine G_istore_4 (nx := 9) ⟨dX10_under_7, rfl⟩ rfl rfl ?_
  refine G_L (by rw [nI_1]) (lT_under hT hX hP hv hk _ (v + 1) (2 ^ v) rfl (by omega) (by omega) (Nat.pow_lt_pow_right (by omega) (by omega)) (fun x => ?_))
  rw [tb_pow_t]
  constructor
  · intro z; exact ⟨by omega, Or.inl z⟩
  · rintro ⟨z1, z | ⟨z2, -⟩⟩
    · exact z
    · omega

theorem lT_marks {m : Nat} {o a b c e f j1 j2 j3 : Nat} (hT : TT o a b c e f j1 j2 j3) (hX : XT I o m) (hP : TP (I c) m) : ∀ (v M : Nat) (f0 : Nat → Bool), v < m → M < 2 ^ 60 → (∀ x, M.testBit x = f0 x) → (∀ N : Nat, N < 2 ^ 60 → (∀ x, N.testBit x = mkD (I c) v f0 x) → K (.long (lN N)) I J (rX g)) → G l d mX10_marks K 9 [.ref o, .long (lN M), UU, .int (nI v)] [] I J (rX g) := by
  have hm := hX.2
  intro v
  induction v with
  | zero =>
    intro M f0 hvm hM hf hk
    rw [nI_0]
    refine G_iload_3 (nx := 10) ⟨dX10_marks_9, rfl⟩ ?_
    refine G_ifle (tgt := 49) (nx := 13) ⟨dX10_marks_10, rfl⟩ rfl (fun c_10 => ?_) (fun c_10 => ?_)
    · refine G_lload_1 (nx := 50) ⟨dX10_marks_49, rfl⟩ ?_
      refine G_lret ⟨dX10_marks_50, rfl⟩ rfl ?_
      exact hk M hM hf
    · exact absurd (by decide) c_10

  | succ v ih =>
    intro M f0 hvm hM hf hk
    have hiv := in60 (p := v + 1) (by omega)
    have ecv := cl_nI (p := v + 1) (by omega)
    obtain ⟨q, eq0, hqu⟩ := hP.2 (v + 1) (by omega) hvm
    have hM64 : M < 2 ^ 64 := by omega
    have em1 : nI (v + 1) + (-1) = nI v := by rw [← nI_1, Int32.add_assoc]; exact Int32.add_zero _
    have hpq : 2 ^ q < 2 ^ 60 := Nat.pow_lt_pow_right (by omega) (by omega)
    have hd1 : M / 2 ^ (v + 1) < 2 ^ 64 := Nat.lt_of_le_of_lt (Nat.div_le_self _ _) hM64
    have hd2 : M / 2 ^ q < 2 ^ 64 := Nat.lt_of_le_of_lt (Nat.div_le_self _ _) hM64
    have hor : M / 2 ^ (v + 1) ||| M / 2 ^ q < 2 ^ 64 := Nat.or_lt_two_pow hd1 hd2
    have hbit : (M / 2 ^ (v + 1) ||| M / 2 ^ q) % 2 = 0 ↔ f0 (v + 1) = false ∧ f0 q = false := by
      rw [← hf, ← hf, ← Bool.or_eq_false_iff]
      have e1 : (M / 2 ^ (v + 1) ||| M / 2 ^ q) % 2 = ((M / 2 ^ (v + 1) ||| M / 2 ^ q).testBit 0).toNat := by rw [Nat.toNat_testBit, Nat.pow_zero, Nat.div_one]
      rw [e1, Nat.testBit_or, Nat.testBit_div_two_pow, Nat.testBit_div_two_pow, Nat.zero_add, Nat.zero_add]
      cases (M.testBit (v + 1) || M.testBit q) <;> simp
    have hml : (M / 2 ^ (v + 1) ||| M / 2 ^ q) % 2 < 2 := Nat.mod_lt _ (by decide)
    rw [mkD, mkF, eq0, cl_nI (by omega)] at hk
    refine G_iload_3 (nx := 10) ⟨dX10_marks_9, rfl⟩ ?_
    refine G_ifle (tgt := 49) (nx := 13) ⟨dX10_marks_10, rfl⟩ rfl (fun c_10 => ?_) (fun c_10 => ?_)
    · (rw [← nI_0, nI_le_iff (by omega) (by omega)] at c_10; omega)
    · refine G_lload_1 (nx := 14) ⟨dX10_marks_13, rfl⟩ ?_
      refine G_iload_3 (nx := 15) ⟨dX10_marks_14, rfl⟩ ?_
      refine G_lushr (nx := 16) ⟨dX10_marks_15, rfl⟩ ?_
      rw [wb_shr hM64 (by omega)]
      refine G_lload_1 (nx := 17) ⟨dX10_marks_16, rfl⟩ ?_
      refine G_aload_0 (nx := 18) ⟨dX10_marks_17, rfl⟩ ?_
      refine G_getr (nx := 21) (k := o) (r := c) ⟨dX10_marks_18, rfl⟩ fX10_18 hT.1 yr_10_2 (hT.2.2.2.2.2.2.2.2.2.1 _).2.2.1 ?_
      refine G_iload_3 (nx := 22) ⟨dX10_marks_21, rfl⟩ ?_
      refine G_iald (nx := 23) (k := c) ⟨dX10_marks_22, rfl⟩ hT.2.2.2.1 (by first | assumption | decide | (unfold vp_in; decide)) ?_
      rw [ecv, eq0]
      refine G_lushr (nx := 24) ⟨dX10_marks_23, rfl⟩ ?_
      rw [wb_shr hM64 (by omega)]
      refine G_lor (nx := 25) ⟨dX10_marks_24, rfl⟩ ?_
      rw [wb_or hd1 hd2]
      refine G_lconst (nx := 26) (v := 1) ⟨dX10_marks_25, rfl⟩ (by decide) ?_
      refine G_land (nx := 27) ⟨dX10_marks_26, rfl⟩ ?_
      rw [wb_a1 hor]
      refine G_lconst (nx := 28) (v := 0) ⟨dX10_marks_27, rfl⟩ (by decide) ?_
      refine G_lcmp (nx := 29) ⟨dX10_marks_28, rfl⟩ ?_
      refine G_ifne (tgt := 43) (nx := 32) ⟨dX10_marks_29, rfl⟩ rfl (fun c_29 => ?_) (fun c_29 => ?_)
      · refine G_iinc_3 (nx := 46) ⟨dX10_marks_43, rfl⟩ ci_m1 rfl ?_
        refine G_goto (tgt := 9) ⟨dX10_marks_46, rfl⟩ rfl ?_
        rw [show (0 : Int64) = lN 0 from rfl, lg_cmp_eq, pk_lEQ (by omega) (by omega), hbit] at c_29
        rw [if_pos (by
          cases e1 : f0 (v + 1) with
          | true => exact Or.inl rfl
          | false =>
            cases e2 : f0 q with
            | true => exact Or.inr rfl
            | false => exact absurd ⟨e1, e2⟩ c_29)] at hk
        exact G_L (by rw [em1]) (ih M f0 (by omega) hM hf hk)
      · refine G_lload_1 (nx := 33) ⟨dX10_marks_32, rfl⟩ ?_
        refine G_lconst (nx := 34) (v := 1) ⟨dX10_marks_33, rfl⟩ (by decide) ?_
        refine G_aload_0 (nx := 35) ⟨dX10_marks_34, rfl⟩ ?_
        refine G_getr (nx := 38) (k := o) (r := c) ⟨dX10_marks_35, rfl⟩ fX10_18 hT.1 yr_10_2 (hT.2.2.2.2.2.2.2.2.2.1 _).2.2.1 ?_
        refine G_iload_3 (nx := 39) ⟨dX10_marks_38, rfl⟩ ?_
        refine G_iald (nx := 40) (k := c) ⟨dX10_marks_39, rfl⟩ hT.2.2.2.1 (by first | assumption | decide | (unfold vp_in; decide)) ?_
        rw [ecv, eq0]
        refine G_lshl (nx := 41) ⟨dX10_marks_40, rfl⟩ ?_
        rw [show (1 : Int64) = lN 1 from rfl, wb_shl 1 (by omega), Nat.one_mul]
        refine G_lor (nx := 42) ⟨dX10_marks_41, rfl⟩ ?_
        rw [wb_or hM64 (by omega)]
        refine G_lstore_1 (nx := 43) ⟨dX10_marks_42, rfl⟩ rfl rfl ?_
        refine G_iinc_3 (nx := 46) ⟨dX10_marks_43, rfl⟩ ci_m1 rfl ?_
        refine G_goto (tgt := 9) ⟨dX10_marks_46, rfl⟩ rfl ?_
        rw [show (0 : Int64) = lN 0 from rfl, lg_cmp_eq, pk_lEQ (by omega) (by omega), hbit] at c_29
        rw [if_neg (by rw [c_29.1, c_29.2]; decide)] at hk
        refine G_L (by rw [em1]) (ih (M ||| 2 ^ q) _ (by omega) (Nat.or_lt_two_pow hM hpq) (fun x => ?_) hk)
        rw [tb_ins, hf]
        by_cases ex : x = q
        · rw [if_pos ex, ex]; simp
        · rw [if_neg ex, decide_eq_false (fun z => ex z.symm), Bool.or_false]

theorem cT_marks {m : Nat} {o a b c e f j1 j2 j3 : Nat} (hT : TT o a b c e f j1 j2 j3) (hX : XT I o m) (hP : TP (I c) m) (hm0 : 0 < m) (hk : ∀ N : Nat, N < 2 ^ 60 → (∀ x, N.testBit x = mkD (I c) (m - 1) (fun _ => false) x) → K (.long (lN N)) I J (rX g)) : G l d mX10_marks K 0 [.ref o, UU, UU, UU] [] I J (rX g) := by
  refine G_lconst (nx := 1) (v := 0) ⟨dX10_marks_0, rfl⟩ (by decide) ?_
  refine G_lstore_1 (nx := 2) ⟨dX10_marks_1, rfl⟩ rfl rfl ?_
  refine G_aload_0 (nx := 3) ⟨dX10_marks_2, rfl⟩ ?_
  refine G_geti (nx := 6) (k := o) ⟨dX10_marks_3, rfl⟩ fX10_37 hT.1 yi_10_8 ?_
  rw [hX.1]
  refine G_iconst (nx := 7) ⟨dX10_marks_6, rfl⟩ ci_1 ?_
  refine G_isub (nx := 8) ⟨dX10_marks_7, rfl⟩ ?_
  rw [show (1 : Int32) = nI 1 by decide, nI_sub (by omega)]
  refine G_istore_3 (nx := 9) ⟨dX10_marks_8, rfl⟩ rfl rfl ?_
  exact lT_marks hT hX hP (m - 1) 0 (fun _ => false) (by omega) (by decide) (fun x => z0 x) hk

end X84
