
def bcE (x0 : Int32) : Int32 :=
  let u (x y : Int32) : Int32 := (x.toUInt32 >>> (y.toUInt32 &&& Int32.toUInt32 31)).toInt32
  let x1 := x0 - (u x0 1 &&& 1431655765)
  let x2 := (x1 &&& 858993459) + (u x1 2 &&& 858993459)
  let x3 := (x2 + u x2 4) &&& 252645135
  let x4 := x3 + u x3 8
  let x5 := x4 + u x4 16
  x5 &&& 63
theorem bcE_0 : ∀ x, x < 64 → ∀ y, y < 64 → bcE (nI (64 * x + y)) = nI (pc (64 * x + y)) := by decide +kernel
theorem bcE_s {a : Nat} (ha : a < 4096) : bcE (nI a) = nI (pc a) := by64 (P := fun a => bcE (nI a) = nI (pc a)) bcE_0 ha
theorem tzE_0 : ∀ x, x < 64 → ∀ y, y < 64 → ¬ 64 * x + y = 0 → (nI (64 * x + y) ^^^ (-1)) &&& (nI (64 * x + y) - 1) = nI (2 ^ fb (64 * x + y) - 1) ∧ fb (64 * x + y) < 12 := by decide +kernel
theorem tzE_s {a : Nat} (ha : a < 4096) (h : ¬ a = 0) : (nI a ^^^ (-1)) &&& (nI a - 1) = nI (2 ^ fb a - 1) ∧ fb a < 12 := by64 (P := fun a => ¬ a = 0 → (nI a ^^^ (-1)) &&& (nI a - 1) = nI (2 ^ fb a - 1) ∧ fb a < 12) tzE_0 ha h
theorem f12 {f : Nat} (h : f < 12) : f = 0 ∨ f = 1 ∨ f = 2 ∨ f = 3 ∨ f = 4 ∨ f = 5 ∨ f = 6 ∨ f = 7 ∨ f = 8 ∨ f = 9 ∨ f = 10 ∨ f = 11 := by omega
def ushr (x y : Int32) : Int32 := (x.toUInt32 >>> (y.toUInt32 &&& Int32.toUInt32 31)).toInt32
section X60
variable {l : Launch} {d : Nat} {K : AK} {I : AI} {J : AJ} {R : AR}

theorem cJ_bc {a : Nat} (ha : a < 4096) (hk : K (.int (nI (pc a))) I J R) : G l d mJ6_bitCount_0f7a4 K 0 [.int (nI a)] [] I J R := by
  refine G_iload_0 (nx := 1) ⟨dJ6_bitCount_0f7a4_0, rfl⟩ ?_
  refine G_iload_0 (nx := 2) ⟨dJ6_bitCount_0f7a4_1, rfl⟩ ?_
  refine G_iconst (nx := 3) ⟨dJ6_bitCount_0f7a4_2, rfl⟩ ci_1 ?_
  refine G_iushr (nx := 4) ⟨dJ6_bitCount_0f7a4_3, rfl⟩ ?_
  refine G_ldcw (nx := 7) ⟨dJ6_bitCount_0f7a4_4, rfl⟩ nJ6_265 ?_
  refine G_iand (nx := 8) ⟨dJ6_bitCount_0f7a4_7, rfl⟩ ?_
  refine G_isub (nx := 9) ⟨dJ6_bitCount_0f7a4_8, rfl⟩ ?_
  refine G_istore_0 (nx := 10) ⟨dJ6_bitCount_0f7a4_9, rfl⟩ rfl ?_
  refine G_iload_0 (nx := 11) ⟨dJ6_bitCount_0f7a4_10, rfl⟩ ?_
  refine G_ldcw (nx := 14) ⟨dJ6_bitCount_0f7a4_11, rfl⟩ nJ6_266 ?_
  refine G_iand (nx := 15) ⟨dJ6_bitCount_0f7a4_14, rfl⟩ ?_
  refine G_iload_0 (nx := 16) ⟨dJ6_bitCount_0f7a4_15, rfl⟩ ?_
  refine G_iconst (nx := 17) ⟨dJ6_bitCount_0f7a4_16, rfl⟩ ci_2 ?_
  refine G_iushr (nx := 18) ⟨dJ6_bitCount_0f7a4_17, rfl⟩ ?_
  refine G_ldcw (nx := 21) ⟨dJ6_bitCount_0f7a4_18, rfl⟩ nJ6_266 ?_
  refine G_iand (nx := 22) ⟨dJ6_bitCount_0f7a4_21, rfl⟩ ?_
  refine G_iadd (nx := 23) ⟨dJ6_bitCount_0f7a4_22, rfl⟩ ?_
  refine G_istore_0 (nx := 24) ⟨dJ6_bitCount_0f7a4_23, rfl⟩ rfl ?_
  refine G_iload_0 (nx := 25) ⟨dJ6_bitCount_0f7a4_24, rfl⟩ ?_
  refine G_iload_0 (nx := 26) ⟨dJ6_bitCount_0f7a4_25, rfl⟩ ?_
  refine G_iconst (nx := 27) ⟨dJ6_bitCount_0f7a4_26, rfl⟩ ci_4 ?_
  refine G_iushr (nx := 28) ⟨dJ6_bitCount_0f7a4_27, rfl⟩ ?_
  refine G_iadd (nx := 29) ⟨dJ6_bitCount_0f7a4_28, rfl⟩ ?_
  refine G_ldcw (nx := 32) ⟨dJ6_bitCount_0f7a4_29, rfl⟩ nJ6_267 ?_
  refine G_iand (nx := 33) ⟨dJ6_bitCount_0f7a4_32, rfl⟩ ?_
  refine G_istore_0 (nx := 34) ⟨dJ6_bitCount_0f7a4_33, rfl⟩ rfl ?_
  refine G_iload_0 (nx := 35) ⟨dJ6_bitCount_0f7a4_34, rfl⟩ ?_
  refine G_iload_0 (nx := 36) ⟨dJ6_bitCount_0f7a4_35, rfl⟩ ?_
  refine G_bipush (nx := 38) ⟨dJ6_bitCount_0f7a4_36, rfl⟩ cb_8 ?_
  refine G_iushr (nx := 39) ⟨dJ6_bitCount_0f7a4_38, rfl⟩ ?_
  refine G_iadd (nx := 40) ⟨dJ6_bitCount_0f7a4_39, rfl⟩ ?_
  refine G_istore_0 (nx := 41) ⟨dJ6_bitCount_0f7a4_40, rfl⟩ rfl ?_
  refine G_iload_0 (nx := 42) ⟨dJ6_bitCount_0f7a4_41, rfl⟩ ?_
  refine G_iload_0 (nx := 43) ⟨dJ6_bitCount_0f7a4_42, rfl⟩ ?_
  refine G_bipush (nx := 45) ⟨dJ6_bitCount_0f7a4_43, rfl⟩ cb_16 ?_
  refine G_iushr (nx := 46) ⟨dJ6_bitCount_0f7a4_45, rfl⟩ ?_
  refine G_iadd (nx := 47) ⟨dJ6_bitCount_0f7a4_46, rfl⟩ ?_
  refine G_istore_0 (nx := 48) ⟨dJ6_bitCount_0f7a4_47, rfl⟩ rfl ?_
  refine G_iload_0 (nx := 49) ⟨dJ6_bitCount_0f7a4_48, rfl⟩ ?_
  refine G_bipush (nx := 51) ⟨dJ6_bitCount_0f7a4_49, rfl⟩ cb_63 ?_
  refine G_iand (nx := 52) ⟨dJ6_bitCount_0f7a4_51, rfl⟩ ?_
  refine G_iret ⟨dJ6_bitCount_0f7a4_52, rfl⟩ rfl ?_
  exact K_v (congrArg Value.int (bcE_s ha)) hk

theorem cJ_tz {a : Nat} (ha : a < 4096) (h0 : ¬ a = 0) (hk : K (.int (nI (fb a))) I J R) : G l d mJ6_numberOfTrailingZeros_0f7a4 K 0 [.int (nI a), UU] [] I J R := by
  obtain ⟨e1, e2⟩ := tzE_s ha h0
  generalize fb a = f at *
  refine G_iload_0 (nx := 1) ⟨dJ6_numberOfTrailingZeros_0f7a4_0, rfl⟩ ?_
  refine G_iconst (nx := 2) ⟨dJ6_numberOfTrailingZeros_0f7a4_1, rfl⟩ ci_m1 ?_
  refine G_ixor (nx := 3) ⟨dJ6_numberOfTrailingZeros_0f7a4_2, rfl⟩ ?_
  refine G_iload_0 (nx := 4) ⟨dJ6_numberOfTrailingZeros_0f7a4_3, rfl⟩ ?_
  refine G_iconst (nx := 5) ⟨dJ6_numberOfTrailingZeros_0f7a4_4, rfl⟩ ci_1 ?_
  refine G_isub (nx := 6) ⟨dJ6_numberOfTrailingZeros_0f7a4_5, rfl⟩ ?_
  refine G_iand (nx := 7) ⟨dJ6_numberOfTrailingZeros_0f7a4_6, rfl⟩ ?_
  rw [e1]
  refine G_istore_0 (nx := 8) ⟨dJ6_numberOfTrailingZeros_0f7a4_7, rfl⟩ rfl ?_
  refine G_iload_0 (nx := 9) ⟨dJ6_numberOfTrailingZeros_0f7a4_8, rfl⟩ ?_
  refine G_ifgt (tgt := 17) (nx := 12) ⟨dJ6_numberOfTrailingZeros_0f7a4_9, rfl⟩ rfl (fun c_9 => ?_) (fun c_9 => ?_)
  · refine G_iconst (nx := 18) ⟨dJ6_numberOfTrailingZeros_0f7a4_17, rfl⟩ ci_1 ?_
    refine G_istore_1 (nx := 19) ⟨dJ6_numberOfTrailingZeros_0f7a4_18, rfl⟩ rfl rfl ?_
    refine G_iload_0 (nx := 20) ⟨dJ6_numberOfTrailingZeros_0f7a4_19, rfl⟩ ?_
    refine G_ldcw (nx := 23) ⟨dJ6_numberOfTrailingZeros_0f7a4_20, rfl⟩ nJ6_264 ?_
    refine G_icmple (tgt := 34) (nx := 26) ⟨dJ6_numberOfTrailingZeros_0f7a4_23, rfl⟩ rfl (fun c_23 => ?_) (fun c_23 => ?_)
    · refine G_iload_0 (nx := 35) ⟨dJ6_numberOfTrailingZeros_0f7a4_34, rfl⟩ ?_
      refine G_sipush (nx := 38) ⟨dJ6_numberOfTrailingZeros_0f7a4_35, rfl⟩ cs_256 ?_
      refine G_icmple (tgt := 49) (nx := 41) ⟨dJ6_numberOfTrailingZeros_0f7a4_38, rfl⟩ rfl (fun c_38 => ?_) (fun c_38 => ?_)
      · refine G_iload_0 (nx := 50) ⟨dJ6_numberOfTrailingZeros_0f7a4_49, rfl⟩ ?_
        refine G_bipush (nx := 52) ⟨dJ6_numberOfTrailingZeros_0f7a4_50, rfl⟩ cb_16 ?_
        refine G_icmple (tgt := 62) (nx := 55) ⟨dJ6_numberOfTrailingZeros_0f7a4_52, rfl⟩ rfl (fun c_52 => ?_) (fun c_52 => ?_)
        · refine G_iload_0 (nx := 63) ⟨dJ6_numberOfTrailingZeros_0f7a4_62, rfl⟩ ?_
          refine G_iconst (nx := 64) ⟨dJ6_numberOfTrailingZeros_0f7a4_63, rfl⟩ ci_4 ?_
          refine G_icmple (tgt := 74) (nx := 67) ⟨dJ6_numberOfTrailingZeros_0f7a4_64, rfl⟩ rfl (fun c_64 => ?_) (fun c_64 => ?_)
          · refine G_iload_1 (nx := 75) ⟨dJ6_numberOfTrailingZeros_0f7a4_74, rfl⟩ ?_
            refine G_iload_0 (nx := 76) ⟨dJ6_numberOfTrailingZeros_0f7a4_75, rfl⟩ ?_
            refine G_iconst (nx := 77) ⟨dJ6_numberOfTrailingZeros_0f7a4_76, rfl⟩ ci_1 ?_
            refine G_iushr (nx := 78) ⟨dJ6_numberOfTrailingZeros_0f7a4_77, rfl⟩ ?_
            refine G_iadd (nx := 79) ⟨dJ6_numberOfTrailingZeros_0f7a4_78, rfl⟩ ?_
            refine G_iret ⟨dJ6_numberOfTrailingZeros_0f7a4_79, rfl⟩ rfl ?_
            refine K_v (congrArg Value.int ?_) hk
            clear hk e1
            rcases f12 e2 with rfl | rfl | rfl | rfl | rfl | rfl | rfl | rfl | rfl | rfl | rfl | rfl <;> (revert c_9 c_23 c_38 c_52 c_64; decide)
          · refine G_iinc_1 (nx := 70) ⟨dJ6_numberOfTrailingZeros_0f7a4_67, rfl⟩ ci_2 rfl ?_
            refine G_iload_0 (nx := 71) ⟨dJ6_numberOfTrailingZeros_0f7a4_70, rfl⟩ ?_
            refine G_iconst (nx := 72) ⟨dJ6_numberOfTrailingZeros_0f7a4_71, rfl⟩ ci_2 ?_
            refine G_iushr (nx := 73) ⟨dJ6_numberOfTrailingZeros_0f7a4_72, rfl⟩ ?_
            refine G_istore_0 (nx := 74) ⟨dJ6_numberOfTrailingZeros_0f7a4_73, rfl⟩ rfl ?_
            refine G_iload_1 (nx := 75) ⟨dJ6_numberOfTrailingZeros_0f7a4_74, rfl⟩ ?_
            refine G_iload_0 (nx := 76) ⟨dJ6_numberOfTrailingZeros_0f7a4_75, rfl⟩ ?_
            refine G_iconst (nx := 77) ⟨dJ6_numberOfTrailingZeros_0f7a4_76, rfl⟩ ci_1 ?_
            refine G_iushr (nx := 78) ⟨dJ6_numberOfTrailingZeros_0f7a4_77, rfl⟩ ?_
            refine G_iadd (nx := 79) ⟨dJ6_numberOfTrailingZeros_0f7a4_78, rfl⟩ ?_
            refine G_iret ⟨dJ6_numberOfTrailingZeros_0f7a4_79, rfl⟩ rfl ?_
            refine K_v (congrArg Value.int ?_) hk
            clear hk e1
            rcases f12 e2 with rfl | rfl | rfl | rfl | rfl | rfl | rfl | rfl | rfl | rfl | rfl | rfl <;> (revert c_9 c_23 c_38 c_52 c_64; decide)
        · refine G_iinc_1 (nx := 58) ⟨dJ6_numberOfTrailingZeros_0f7a4_55, rfl⟩ ci_4 rfl ?_
          refine G_iload_0 (nx := 59) ⟨dJ6_numberOfTrailingZeros_0f7a4_58, rfl⟩ ?_
          refine G_iconst (nx := 60) ⟨dJ6_numberOfTrailingZeros_0f7a4_59, rfl⟩ ci_4 ?_
          refine G_iushr (nx := 61) ⟨dJ6_numberOfTrailingZeros_0f7a4_60, rfl⟩ ?_
          refine G_istore_0 (nx := 62) ⟨dJ6_numberOfTrailingZeros_0f7a4_61, rfl⟩ rfl ?_
          refine G_iload_0 (nx := 63) ⟨dJ6_numberOfTrailingZeros_0f7a4_62, rfl⟩ ?_
          refine G_iconst (nx := 64) ⟨dJ6_numberOfTrailingZeros_0f7a4_63, rfl⟩ ci_4 ?_
          refine G_icmple (tgt := 74) (nx := 67) ⟨dJ6_numberOfTrailingZeros_0f7a4_64, rfl⟩ rfl (fun c_64 => ?_) (fun c_64 => ?_)
          · refine G_iload_1 (nx := 75) ⟨dJ6_numberOfTrailingZeros_0f7a4_74, rfl⟩ ?_
            refine G_iload_0 (nx := 76) ⟨dJ6_numberOfTrailingZeros_0f7a4_75, rfl⟩ ?_
            refine G_iconst (nx := 77) ⟨dJ6_numberOfTrailingZeros_0f7a4_76, rfl⟩ ci_1 ?_
            refine G_iushr (nx := 78) ⟨dJ6_numberOfTrailingZeros_0f7a4_77, rfl⟩ ?_
            refine G_iadd (nx := 79) ⟨dJ6_numberOfTrailingZeros_0f7a4_78, rfl⟩ ?_
            refine G_iret ⟨dJ6_numberOfTrailingZeros_0f7a4_79, rfl⟩ rfl ?_
            refine K_v (congrArg Value.int ?_) hk
            clear hk e1
            rcases f12 e2 with rfl | rfl | rfl | rfl | rfl | rfl | rfl | rfl | rfl | rfl | rfl | rfl <;> (revert c_9 c_23 c_38 c_52 c_64; decide)
          · refine G_iinc_1 (nx := 70) ⟨dJ6_numberOfTrailingZeros_0f7a4_67, rfl⟩ ci_2 rfl ?_
            refine G_iload_0 (nx := 71) ⟨dJ6_numberOfTrailingZeros_0f7a4_70, rfl⟩ ?_
            refine G_iconst (nx := 72) ⟨dJ6_numberOfTrailingZeros_0f7a4_71, rfl⟩ ci_2 ?_
            refine G_iushr (nx := 73) ⟨dJ6_numberOfTrailingZeros_0f7a4_72, rfl⟩ ?_
            refine G_istore_0 (nx := 74) ⟨dJ6_numberOfTrailingZeros_0f7a4_73, rfl⟩ rfl ?_
            refine G_iload_1 (nx := 75) ⟨dJ6_numberOfTrailingZeros_0f7a4_74, rfl⟩ ?_
            refine G_iload_0 (nx := 76) ⟨dJ6_numberOfTrailingZeros_0f7a4_75, rfl⟩ ?_
            refine G_iconst (nx := 77) ⟨dJ6_numberOfTrailingZeros_0f7a4_76, rfl⟩ ci_1 ?_
            refine G_iushr (nx := 78) ⟨dJ6_numberOfTrailingZeros_0f7a4_77, rfl⟩ ?_
            refine G_iadd (nx := 79) ⟨dJ6_numberOfTrailingZeros_0f7a4_78, rfl⟩ ?_
            refine G_iret ⟨dJ6_numberOfTrailingZeros_0f7a4_79, rfl⟩ rfl ?_
            refine K_v (congrArg Value.int ?_) hk
            clear hk e1
            rcases f12 e2 with rfl | rfl | rfl | rfl | rfl | rfl | rfl | rfl | rfl | rfl | rfl | rfl <;> (revert c_9 c_23 c_38 c_52 c_64; decide)
      · refine G_iinc_1 (nx := 44) ⟨dJ6_numberOfTrailingZeros_0f7a4_41, rfl⟩ ci_8 rfl ?_
        refine G_iload_0 (nx := 45) ⟨dJ6_numberOfTrailingZeros_0f7a4_44, rfl⟩ ?_
        refine G_bipush (nx := 47) ⟨dJ6_numberOfTrailingZeros_0f7a4_45, rfl⟩ cb_8 ?_
        refine G_iushr (nx := 48) ⟨dJ6_numberOfTrailingZeros_0f7a4_47, rfl⟩ ?_
        refine G_istore_0 (nx := 49) ⟨dJ6_numberOfTrailingZeros_0f7a4_48, rfl⟩ rfl ?_
        refine G_iload_0 (nx := 50) ⟨dJ6_numberOfTrailingZeros_0f7a4_49, rfl⟩ ?_
        refine G_bipush (nx := 52) ⟨dJ6_numberOfTrailingZeros_0f7a4_50, rfl⟩ cb_16 ?_
        refine G_icmple (tgt := 62) (nx := 55) ⟨dJ6_numberOfTrailingZeros_0f7a4_52, rfl⟩ rfl (fun c_52 => ?_) (fun c_52 => ?_)
        · refine G_iload_0 (nx := 63) ⟨dJ6_numberOfTrailingZeros_0f7a4_62, rfl⟩ ?_
          refine G_iconst (nx := 64) ⟨dJ6_numberOfTrailingZeros_0f7a4_63, rfl⟩ ci_4 ?_
          refine G_icmple (tgt := 74) (nx := 67) ⟨dJ6_numberOfTrailingZeros_0f7a4_64, rfl⟩ rfl (fun c_64 => ?_) (fun c_64 => ?_)
          · refine G_iload_1 (nx := 75) ⟨dJ6_numberOfTrailingZeros_0f7a4_74, rfl⟩ ?_
            refine G_iload_0 (nx := 76) ⟨dJ6_numberOfTrailingZeros_0f7a4_75, rfl⟩ ?_
            refine G_iconst (nx := 77) ⟨dJ6_numberOfTrailingZeros_0f7a4_76, rfl⟩ ci_1 ?_
            refine G_iushr (nx := 78) ⟨dJ6_numberOfTrailingZeros_0f7a4_77, rfl⟩ ?_
            refine G_iadd (nx := 79) ⟨dJ6_numberOfTrailingZeros_0f7a4_78, rfl⟩ ?_
            refine G_iret ⟨dJ6_numberOfTrailingZeros_0f7a4_79, rfl⟩ rfl ?_
            refine K_v (congrArg Value.int ?_) hk
            clear hk e1
            rcases f12 e2 with rfl | rfl | rfl | rfl | rfl | rfl | rfl | rfl | rfl | rfl | rfl | rfl <;> (revert c_9 c_23 c_38 c_52 c_64; decide)
          · refine G_iinc_1 (nx := 70) ⟨dJ6_numberOfTrailingZeros_0f7a4_67, rfl⟩ ci_2 rfl ?_
            refine G_iload_0 (nx := 71) ⟨dJ6_numberOfTrailingZeros_0f7a4_70, rfl⟩ ?_
            refine G_iconst (nx := 72) ⟨dJ6_numberOfTrailingZeros_0f7a4_71, rfl⟩ ci_2 ?_
            refine G_iushr (nx := 73) ⟨dJ6_numberOfTrailingZeros_0f7a4_72, rfl⟩ ?_
            refine G_istore_0 (nx := 74) ⟨dJ6_numberOfTrailingZeros_0f7a4_73, rfl⟩ rfl ?_
            refine G_iload_1 (nx := 75) ⟨dJ6_numberOfTrailingZeros_0f7a4_74, rfl⟩ ?_
            refine G_iload_0 (nx := 76) ⟨dJ6_numberOfTrailingZeros_0f7a4_75, rfl⟩ ?_
            refine G_iconst (nx := 77) ⟨dJ6_numberOfTrailingZeros_0f7a4_76, rfl⟩ ci_1 ?_
            refine G_iushr (nx := 78) ⟨dJ6_numberOfTrailingZeros_0f7a4_77, rfl⟩ ?_
            refine G_iadd (nx := 79) ⟨dJ6_numberOfTrailingZeros_0f7a4_78, rfl⟩ ?_
            refine G_iret ⟨dJ6_numberOfTrailingZeros_0f7a4_79, rfl⟩ rfl ?_
            refine K_v (congrArg Value.int ?_) hk
            clear hk e1
            rcases f12 e2 with rfl | rfl | rfl | rfl | rfl | rfl | rfl | rfl | rfl | rfl | rfl | rfl <;> (revert c_9 c_23 c_38 c_52 c_64; decide)
        · refine G_iinc_1 (nx := 58) ⟨dJ6_numberOfTrailingZeros_0f7a4_55, rfl⟩ ci_4 rfl ?_
          refine G_iload_0 (nx := 59) ⟨dJ6_numberOfTrailingZeros_0f7a4_58, rfl⟩ ?_
          refine G_iconst (nx := 60) ⟨dJ6_numberOfTrailingZeros_0f7a4_59, rfl⟩ ci_4 ?_
          refine G_iushr (nx := 61) ⟨dJ6_numberOfTrailingZeros_0f7a4_60, rfl⟩ ?_
          refine G_istore_0 (nx := 62) ⟨dJ6_numberOfTrailingZeros_0f7a4_61, rfl⟩ rfl ?_
          refine G_iload_0 (nx := 63) ⟨dJ6_numberOfTrailingZeros_0f7a4_62, rfl⟩ ?_
          refine G_iconst (nx := 64) ⟨dJ6_numberOfTrailingZeros_0f7a4_63, rfl⟩ ci_4 ?_
          refine G_icmple (tgt := 74) (nx := 67) ⟨dJ6_numberOfTrailingZeros_0f7a4_64, rfl⟩ rfl (fun c_64 => ?_) (fun c_64 => ?_)
          · refine G_iload_1 (nx := 75) ⟨dJ6_numberOfTrailingZeros_0f7a4_74, rfl⟩ ?_
            refine G_iload_0 (nx := 76) ⟨dJ6_numberOfTrailingZeros_0f7a4_75, rfl⟩ ?_
            refine G_iconst (nx := 77) ⟨dJ6_numberOfTrailingZeros_0f7a4_76, rfl⟩ ci_1 ?_
            refine G_iushr (nx := 78) ⟨dJ6_numberOfTrailingZeros_0f7a4_77, rfl⟩ ?_
            refine G_iadd (nx := 79) ⟨dJ6_numberOfTrailingZeros_0f7a4_78, rfl⟩ ?_
            refine G_iret ⟨dJ6_numberOfTrailingZeros_0f7a4_79, rfl⟩ rfl ?_
            refine K_v (congrArg Value.int ?_) hk
            clear hk e1
            rcases f12 e2 with rfl | rfl | rfl | rfl | rfl | rfl | rfl | rfl | rfl | rfl | rfl | rfl <;> (revert c_9 c_23 c_38 c_52 c_64; decide)
          · refine G_iinc_1 (nx := 70) ⟨dJ6_numberOfTrailingZeros_0f7a4_67, rfl⟩ ci_2 rfl ?_
            refine G_iload_0 (nx := 71) ⟨dJ6_numberOfTrailingZeros_0f7a4_70, rfl⟩ ?_
            refine G_iconst (nx := 72) ⟨dJ6_numberOfTrailingZeros_0f7a4_71, rfl⟩ ci_2 ?_
            refine G_iushr (nx := 73) ⟨dJ6_numberOfTrailingZeros_0f7a4_72, rfl⟩ ?_
            refine G_istore_0 (nx := 74) ⟨dJ6_numberOfTrailingZeros_0f7a4_73, rfl⟩ rfl ?_
            refine G_iload_1 (nx := 75) ⟨dJ6_numberOfTrailingZeros_0f7a4_74, rfl⟩ ?_
            refine G_iload_0 (nx := 76) ⟨dJ6_numberOfTrailingZeros_0f7a4_75, rfl⟩ ?_
            refine G_iconst (nx := 77) ⟨dJ6_numberOfTrailingZeros_0f7a4_76, rfl⟩ ci_1 ?_
            refine G_iushr (nx := 78) ⟨dJ6_numberOfTrailingZeros_0f7a4_77, rfl⟩ ?_
            refine G_iadd (nx := 79) ⟨dJ6_numberOfTrailingZeros_0f7a4_78, rfl⟩ ?_
            refine G_iret ⟨dJ6_numberOfTrailingZeros_0f7a4_79, rfl⟩ rfl ?_
            refine K_v (congrArg Value.int ?_) hk
            clear hk e1
            rcases f12 e2 with rfl | rfl | rfl | rfl | rfl | rfl | rfl | rfl | rfl | rfl | rfl | rfl <;> (revert c_9 c_23 c_38 c_52 c_64; decide)
    · refine G_iinc_1 (nx := 29) ⟨dJ6_numberOfTrailingZeros_0f7a4_26, rfl⟩ ci_16 rfl ?_
      refine G_iload_0 (nx := 30) ⟨dJ6_numberOfTrailingZeros_0f7a4_29, rfl⟩ ?_
      refine G_bipush (nx := 32) ⟨dJ6_numberOfTrailingZeros_0f7a4_30, rfl⟩ cb_16 ?_
      refine G_iushr (nx := 33) ⟨dJ6_numberOfTrailingZeros_0f7a4_32, rfl⟩ ?_
      refine G_istore_0 (nx := 34) ⟨dJ6_numberOfTrailingZeros_0f7a4_33, rfl⟩ rfl ?_
      refine G_iload_0 (nx := 35) ⟨dJ6_numberOfTrailingZeros_0f7a4_34, rfl⟩ ?_
      refine G_sipush (nx := 38) ⟨dJ6_numberOfTrailingZeros_0f7a4_35, rfl⟩ cs_256 ?_
      refine G_icmple (tgt := 49) (nx := 41) ⟨dJ6_numberOfTrailingZeros_0f7a4_38, rfl⟩ rfl (fun c_38 => ?_) (fun c_38 => ?_)
      · refine G_iload_0 (nx := 50) ⟨dJ6_numberOfTrailingZeros_0f7a4_49, rfl⟩ ?_
        refine G_bipush (nx := 52) ⟨dJ6_numberOfTrailingZeros_0f7a4_50, rfl⟩ cb_16 ?_
        refine G_icmple (tgt := 62) (nx := 55) ⟨dJ6_numberOfTrailingZeros_0f7a4_52, rfl⟩ rfl (fun c_52 => ?_) (fun c_52 => ?_)
        · refine G_iload_0 (nx := 63) ⟨dJ6_numberOfTrailingZeros_0f7a4_62, rfl⟩ ?_
          refine G_iconst (nx := 64) ⟨dJ6_numberOfTrailingZeros_0f7a4_63, rfl⟩ ci_4 ?_
          refine G_icmple (tgt := 74) (nx := 67) ⟨dJ6_numberOfTrailingZeros_0f7a4_64, rfl⟩ rfl (fun c_64 => ?_) (fun c_64 => ?_)
          · refine G_iload_1 (nx := 75) ⟨dJ6_numberOfTrailingZeros_0f7a4_74, rfl⟩ ?_
            refine G_iload_0 (nx := 76) ⟨dJ6_numberOfTrailingZeros_0f7a4_75, rfl⟩ ?_
            refine G_iconst (nx := 77) ⟨dJ6_numberOfTrailingZeros_0f7a4_76, rfl⟩ ci_1 ?_
            refine G_iushr (nx := 78) ⟨dJ6_numberOfTrailingZeros_0f7a4_77, rfl⟩ ?_
            refine G_iadd (nx := 79) ⟨dJ6_numberOfTrailingZeros_0f7a4_78, rfl⟩ ?_
            refine G_iret ⟨dJ6_numberOfTrailingZeros_0f7a4_79, rfl⟩ rfl ?_
            refine K_v (congrArg Value.int ?_) hk
            clear hk e1
            rcases f12 e2 with rfl | rfl | rfl | rfl | rfl | rfl | rfl | rfl | rfl | rfl | rfl | rfl <;> (revert c_9 c_23 c_38 c_52 c_64; decide)
          · refine G_iinc_1 (nx := 70) ⟨dJ6_numberOfTrailingZeros_0f7a4_67, rfl⟩ ci_2 rfl ?_
            refine G_iload_0 (nx := 71) ⟨dJ6_numberOfTrailingZeros_0f7a4_70, rfl⟩ ?_
            refine G_iconst (nx := 72) ⟨dJ6_numberOfTrailingZeros_0f7a4_71, rfl⟩ ci_2 ?_
            refine G_iushr (nx := 73) ⟨dJ6_numberOfTrailingZeros_0f7a4_72, rfl⟩ ?_
            refine G_istore_0 (nx := 74) ⟨dJ6_numberOfTrailingZeros_0f7a4_73, rfl⟩ rfl ?_
            refine G_iload_1 (nx := 75) ⟨dJ6_numberOfTrailingZeros_0f7a4_74, rfl⟩ ?_
            refine G_iload_0 (nx := 76) ⟨dJ6_numberOfTrailingZeros_0f7a4_75, rfl⟩ ?_
            refine G_iconst (nx := 77) ⟨dJ6_numberOfTrailingZeros_0f7a4_76, rfl⟩ ci_1 ?_
            refine G_iushr (nx := 78) ⟨dJ6_numberOfTrailingZeros_0f7a4_77, rfl⟩ ?_
            refine G_iadd (nx := 79) ⟨dJ6_numberOfTrailingZeros_0f7a4_78, rfl⟩ ?_
            refine G_iret ⟨dJ6_numberOfTrailingZeros_0f7a4_79, rfl⟩ rfl ?_
            refine K_v (congrArg Value.int ?_) hk
            clear hk e1
            rcases f12 e2 with rfl | rfl | rfl | rfl | rfl | rfl | rfl | rfl | rfl | rfl | rfl | rfl <;> (revert c_9 c_23 c_38 c_52 c_64; decide)
        · refine G_iinc_1 (nx := 58) ⟨dJ6_numberOfTrailingZeros_0f7a4_55, rfl⟩ ci_4 rfl ?_
          refine G_iload_0 (nx := 59) ⟨dJ6_numberOfTrailingZeros_0f7a4_58, rfl⟩ ?_
          refine G_iconst (nx := 60) ⟨dJ6_numberOfTrailingZeros_0f7a4_59, rfl⟩ ci_4 ?_
          refine G_iushr (nx := 61) ⟨dJ6_numberOfTrailingZeros_0f7a4_60, rfl⟩ ?_
          refine G_istore_0 (nx := 62) ⟨dJ6_numberOfTrailingZeros_0f7a4_61, rfl⟩ rfl ?_
          refine G_iload_0 (nx := 63) ⟨dJ6_numberOfTrailingZeros_0f7a4_62, rfl⟩ ?_
          refine G_iconst (nx := 64) ⟨dJ6_numberOfTrailingZeros_0f7a4_63, rfl⟩ ci_4 ?_
          refine G_icmple (tgt := 74) (nx := 67) ⟨dJ6_numberOfTrailingZeros_0f7a4_64, rfl⟩ rfl (fun c_64 => ?_) (fun c_64 => ?_)
          · refine G_iload_1 (nx := 75) ⟨dJ6_numberOfTrailingZeros_0f7a4_74, rfl⟩ ?_
            refine G_iload_0 (nx := 76) ⟨dJ6_numberOfTrailingZeros_0f7a4_75, rfl⟩ ?_
            refine G_iconst (nx := 77) ⟨dJ6_numberOfTrailingZeros_0f7a4_76, rfl⟩ ci_1 ?_
            refine G_iushr (nx := 78) ⟨dJ6_numberOfTrailingZeros_0f7a4_77, rfl⟩ ?_
            refine G_iadd (nx := 79) ⟨dJ6_numberOfTrailingZeros_0f7a4_78, rfl⟩ ?_
            refine G_iret ⟨dJ6_numberOfTrailingZeros_0f7a4_79, rfl⟩ rfl ?_
            refine K_v (congrArg Value.int ?_) hk
            clear hk e1
            rcases f12 e2 with rfl | rfl | rfl | rfl | rfl | rfl | rfl | rfl | rfl | rfl | rfl | rfl <;> (revert c_9 c_23 c_38 c_52 c_64; decide)
          · refine G_iinc_1 (nx := 70) ⟨dJ6_numberOfTrailingZeros_0f7a4_67, rfl⟩ ci_2 rfl ?_
            refine G_iload_0 (nx := 71) ⟨dJ6_numberOfTrailingZeros_0f7a4_70, rfl⟩ ?_
            refine G_iconst (nx := 72) ⟨dJ6_numberOfTrailingZeros_0f7a4_71, rfl⟩ ci_2 ?_
            refine G_iushr (nx := 73) ⟨dJ6_numberOfTrailingZeros_0f7a4_72, rfl⟩ ?_
            refine G_istore_0 (nx := 74) ⟨dJ6_numberOfTrailingZeros_0f7a4_73, rfl⟩ rfl ?_
            refine G_iload_1 (nx := 75) ⟨dJ6_numberOfTrailingZeros_0f7a4_74, rfl⟩ ?_
            refine G_iload_0 (nx := 76) ⟨dJ6_numberOfTrailingZeros_0f7a4_75, rfl⟩ ?_
            refine G_iconst (nx := 77) ⟨dJ6_numberOfTrailingZeros_0f7a4_76, rfl⟩ ci_1 ?_
            refine G_iushr (nx := 78) ⟨dJ6_numberOfTrailingZeros_0f7a4_77, rfl⟩ ?_
            refine G_iadd (nx := 79) ⟨dJ6_numberOfTrailingZeros_0f7a4_78, rfl⟩ ?_
            refine G_iret ⟨dJ6_numberOfTrailingZeros_0f7a4_79, rfl⟩ rfl ?_
            refine K_v (congrArg Value.int ?_) hk
            clear hk e1
            rcases f12 e2 with rfl | rfl | rfl | rfl | rfl | rfl | rfl | rfl | rfl | rfl | rfl | rfl <;> (revert c_9 c_23 c_38 c_52 c_64; decide)
      · refine G_iinc_1 (nx := 44) ⟨dJ6_numberOfTrailingZeros_0f7a4_41, rfl⟩ ci_8 rfl ?_
        refine G_iload_0 (nx := 45) ⟨dJ6_numberOfTrailingZeros_0f7a4_44, rfl⟩ ?_
        refine G_bipush (nx := 47) ⟨dJ6_numberOfTrailingZeros_0f7a4_45, rfl⟩ cb_8 ?_
        refine G_iushr (nx := 48) ⟨dJ6_numberOfTrailingZeros_0f7a4_47, rfl⟩ ?_
        refine G_istore_0 (nx := 49) ⟨dJ6_numberOfTrailingZeros_0f7a4_48, rfl⟩ rfl ?_
        refine G_iload_0 (nx := 50) ⟨dJ6_numberOfTrailingZeros_0f7a4_49, rfl⟩ ?_
        refine G_bipush (nx := 52) ⟨dJ6_numberOfTrailingZeros_0f7a4_50, rfl⟩ cb_16 ?_
        refine G_icmple (tgt := 62) (nx := 55) ⟨dJ6_numberOfTrailingZeros_0f7a4_52, rfl⟩ rfl (fun c_52 => ?_) (fun c_52 => ?_)
        · refine G_iload_0 (nx := 63) ⟨dJ6_numberOfTrailingZeros_0f7a4_62, rfl⟩ ?_
          refine G_iconst (nx := 64) ⟨dJ6_numberOfTrailingZeros_0f7a4_63, rfl⟩ ci_4 ?_
          refine G_icmple (tgt := 74) (nx := 67) ⟨dJ6_numberOfTrailingZeros_0f7a4_64, rfl⟩ rfl (fun c_64 => ?_) (fun c_64 => ?_)
          · refine G_iload_1 (nx := 75) ⟨dJ6_numberOfTrailingZeros_0f7a4_74, rfl⟩ ?_
            refine G_iload_0 (nx := 76) ⟨dJ6_numberOfTrailingZeros_0f7a4_75, rfl⟩ ?_
            refine G_iconst (nx := 77) ⟨dJ6_numberOfTrailingZeros_0f7a4_76, rfl⟩ ci_1 ?_
            refine G_iushr (nx := 78) ⟨dJ6_numberOfTrailingZeros_0f7a4_77, rfl⟩ ?_
            refine G_iadd (nx := 79) ⟨dJ6_numberOfTrailingZeros_0f7a4_78, rfl⟩ ?_
            refine G_iret ⟨dJ6_numberOfTrailingZeros_0f7a4_79, rfl⟩ rfl ?_
            refine K_v (congrArg Value.int ?_) hk
            clear hk e1
            rcases f12 e2 with rfl | rfl | rfl | rfl | rfl | rfl | rfl | rfl | rfl | rfl | rfl | rfl <;> (revert c_9 c_23 c_38 c_52 c_64; decide)
          · refine G_iinc_1 (nx := 70) ⟨dJ6_numberOfTrailingZeros_0f7a4_67, rfl⟩ ci_2 rfl ?_
            refine G_iload_0 (nx := 71) ⟨dJ6_numberOfTrailingZeros_0f7a4_70, rfl⟩ ?_
            refine G_iconst (nx := 72) ⟨dJ6_numberOfTrailingZeros_0f7a4_71, rfl⟩ ci_2 ?_
            refine G_iushr (nx := 73) ⟨dJ6_numberOfTrailingZeros_0f7a4_72, rfl⟩ ?_
            refine G_istore_0 (nx := 74) ⟨dJ6_numberOfTrailingZeros_0f7a4_73, rfl⟩ rfl ?_
            refine G_iload_1 (nx := 75) ⟨dJ6_numberOfTrailingZeros_0f7a4_74, rfl⟩ ?_
            refine G_iload_0 (nx := 76) ⟨dJ6_numberOfTrailingZeros_0f7a4_75, rfl⟩ ?_
            refine G_iconst (nx := 77) ⟨dJ6_numberOfTrailingZeros_0f7a4_76, rfl⟩ ci_1 ?_
            refine G_iushr (nx := 78) ⟨dJ6_numberOfTrailingZeros_0f7a4_77, rfl⟩ ?_
            refine G_iadd (nx := 79) ⟨dJ6_numberOfTrailingZeros_0f7a4_78, rfl⟩ ?_
            refine G_iret ⟨dJ6_numberOfTrailingZeros_0f7a4_79, rfl⟩ rfl ?_
            refine K_v (congrArg Value.int ?_) hk
            clear hk e1
            rcases f12 e2 with rfl | rfl | rfl | rfl | rfl | rfl | rfl | rfl | rfl | rfl | rfl | rfl <;> (revert c_9 c_23 c_38 c_52 c_64; decide)
        · refine G_iinc_1 (nx := 58) ⟨dJ6_numberOfTrailingZeros_0f7a4_55, rfl⟩ ci_4 rfl ?_
          refine G_iload_0 (nx := 59) ⟨dJ6_numberOfTrailingZeros_0f7a4_58, rfl⟩ ?_
          refine G_iconst (nx := 60) ⟨dJ6_numberOfTrailingZeros_0f7a4_59, rfl⟩ ci_4 ?_
          refine G_iushr (nx := 61) ⟨dJ6_numberOfTrailingZeros_0f7a4_60, rfl⟩ ?_
          refine G_istore_0 (nx := 62) ⟨dJ6_numberOfTrailingZeros_0f7a4_61, rfl⟩ rfl ?_
          refine G_iload_0 (nx := 63) ⟨dJ6_numberOfTrailingZeros_0f7a4_62, rfl⟩ ?_
          refine G_iconst (nx := 64) ⟨dJ6_numberOfTrailingZeros_0f7a4_63, rfl⟩ ci_4 ?_
          refine G_icmple (tgt := 74) (nx := 67) ⟨dJ6_numberOfTrailingZeros_0f7a4_64, rfl⟩ rfl (fun c_64 => ?_) (fun c_64 => ?_)
          · refine G_iload_1 (nx := 75) ⟨dJ6_numberOfTrailingZeros_0f7a4_74, rfl⟩ ?_
            refine G_iload_0 (nx := 76) ⟨dJ6_numberOfTrailingZeros_0f7a4_75, rfl⟩ ?_
            refine G_iconst (nx := 77) ⟨dJ6_numberOfTrailingZeros_0f7a4_76, rfl⟩ ci_1 ?_
            refine G_iushr (nx := 78) ⟨dJ6_numberOfTrailingZeros_0f7a4_77, rfl⟩ ?_
            refine G_iadd (nx := 79) ⟨dJ6_numberOfTrailingZeros_0f7a4_78, rfl⟩ ?_
            refine G_iret ⟨dJ6_numberOfTrailingZeros_0f7a4_79, rfl⟩ rfl ?_
            refine K_v (congrArg Value.int ?_) hk
            clear hk e1
            rcases f12 e2 with rfl | rfl | rfl | rfl | rfl | rfl | rfl | rfl | rfl | rfl | rfl | rfl <;> (revert c_9 c_23 c_38 c_52 c_64; decide)
          · refine G_iinc_1 (nx := 70) ⟨dJ6_numberOfTrailingZeros_0f7a4_67, rfl⟩ ci_2 rfl ?_
            refine G_iload_0 (nx := 71) ⟨dJ6_numberOfTrailingZeros_0f7a4_70, rfl⟩ ?_
            refine G_iconst (nx := 72) ⟨dJ6_numberOfTrailingZeros_0f7a4_71, rfl⟩ ci_2 ?_
            refine G_iushr (nx := 73) ⟨dJ6_numberOfTrailingZeros_0f7a4_72, rfl⟩ ?_
            refine G_istore_0 (nx := 74) ⟨dJ6_numberOfTrailingZeros_0f7a4_73, rfl⟩ rfl ?_
            refine G_iload_1 (nx := 75) ⟨dJ6_numberOfTrailingZeros_0f7a4_74, rfl⟩ ?_
            refine G_iload_0 (nx := 76) ⟨dJ6_numberOfTrailingZeros_0f7a4_75, rfl⟩ ?_
            refine G_iconst (nx := 77) ⟨dJ6_numberOfTrailingZeros_0f7a4_76, rfl⟩ ci_1 ?_
            refine G_iushr (nx := 78) ⟨dJ6_numberOfTrailingZeros_0f7a4_77, rfl⟩ ?_
            refine G_iadd (nx := 79) ⟨dJ6_numberOfTrailingZeros_0f7a4_78, rfl⟩ ?_
            refine G_iret ⟨dJ6_numberOfTrailingZeros_0f7a4_79, rfl⟩ rfl ?_
            refine K_v (congrArg Value.int ?_) hk
            clear hk e1
            rcases f12 e2 with rfl | rfl | rfl | rfl | rfl | rfl | rfl | rfl | rfl | rfl | rfl | rfl <;> (revert c_9 c_23 c_38 c_52 c_64; decide)
  · refine G_iload_0 (nx := 13) ⟨dJ6_numberOfTrailingZeros_0f7a4_12, rfl⟩ ?_
    refine G_bipush (nx := 15) ⟨dJ6_numberOfTrailingZeros_0f7a4_13, rfl⟩ cb_32 ?_
    refine G_iand (nx := 16) ⟨dJ6_numberOfTrailingZeros_0f7a4_15, rfl⟩ ?_
    refine G_iret ⟨dJ6_numberOfTrailingZeros_0f7a4_16, rfl⟩ rfl ?_
    refine K_v (congrArg Value.int ?_) hk
    clear hk e1
    rcases f12 e2 with rfl | rfl | rfl | rfl | rfl | rfl | rfl | rfl | rfl | rfl | rfl | rfl <;> (revert c_9; decide)

theorem lJ_fill {k n : Nat} {v : Int32} (hk0 : isA k n) (hn : n < 2 ^ 31) (hk : K .null (wr I k (fun j => if j < n then v else I k j)) J R) : ∀ (t i : Nat) (I1 : AI), n - i = t → i ≤ n → I1 = wr I k (fun j => if j < i then v else I k j) → G l d mJ7_fill_53178 K 5 [.ref k, .int v, .int (nI i), .int (nI n)] [] I1 J R := by
  intro t
  induction t using Nat.strongRecOn with
  | _ t ih =>
  intro i I1 hit hin hI
  have eci := cl_nI (p := i) (by omega)
  refine G_iload_2 (nx := 6) ⟨dJ7_fill_53178_5, rfl⟩ ?_
  refine G_iload_3 (nx := 7) ⟨dJ7_fill_53178_6, rfl⟩ ?_
  refine G_icmpge (tgt := 20) (nx := 10) ⟨dJ7_fill_53178_7, rfl⟩ rfl (fun c_7 => ?_) (fun c_7 => ?_)
  · refine G_vret ⟨dJ7_fill_53178_20, rfl⟩ rfl ?_
    rw [nI_le_iff (by omega) (by omega)] at c_7
    have e : i = n := by omega
    subst e
    rw [hI]
    exact hk
  · rw [nI_le_iff (by omega) (by omega)] at c_7
    have hi : i < n := by omega
    have hvi : vp_in (nI i) n := vp_in_nI hi hn
    refine G_aload_0 (nx := 11) ⟨dJ7_fill_53178_10, rfl⟩ ?_
    refine G_iload_2 (nx := 12) ⟨dJ7_fill_53178_11, rfl⟩ ?_
    refine G_iload_1 (nx := 13) ⟨dJ7_fill_53178_12, rfl⟩ ?_
    refine G_iast (nx := 14) (k := k) ⟨dJ7_fill_53178_13, rfl⟩ hk0 (by first | assumption | decide | (unfold vp_in; decide)) ?_
    rw [eci]
    refine G_iinc_2 (nx := 17) ⟨dJ7_fill_53178_14, rfl⟩ ci_1 rfl ?_
    refine G_goto (tgt := 5) ⟨dJ7_fill_53178_17, rfl⟩ rfl ?_
    refine G_L (by rw [nI_1]) (ih (n - (i + 1)) (by omega) (i + 1) _ rfl (by omega) ?_)
    rw [hI]
    funext a b
    by_cases ha : a = k
    · subst ha
      rw [wr_at]
      by_cases hb : b = i
      · rw [hb, w2_at, if_pos (by omega)]
      · rw [w2_ne _ _ _ _ (by omega), wr_at]
        by_cases hbi : b < i
        · rw [if_pos hbi, if_pos (by omega)]
        · rw [if_neg hbi, if_neg (by omega)]
    · rw [w2_row _ _ _ _ ha, wr_ne _ _ _ ha, wr_ne _ _ _ ha]

theorem wr_0 (I : AI) (k : Nat) (v : Int32) : I = wr I k (fun j => if j < 0 then v else I k j) := by
  funext a b
  by_cases ha : a = k
  · subst ha; rw [wr_at, if_neg (by omega)]
  · rw [wr_ne _ _ _ ha]
theorem cJ_fill {k n : Nat} {v : Int32} (hk0 : isA k n) (hn : n < 2 ^ 31) (hk : K .null (wr I k (fun j => if j < n then v else I k j)) J R) : G l d mJ7_fill_53178 K 0 [.ref k, .int v, UU, UU] [] I J R := by
  refine G_iconst (nx := 1) ⟨dJ7_fill_53178_0, rfl⟩ ci_0 ?_
  refine G_istore_2 (nx := 2) ⟨dJ7_fill_53178_1, rfl⟩ rfl rfl ?_
  refine G_aload_0 (nx := 3) ⟨dJ7_fill_53178_2, rfl⟩ ?_
  refine G_alenA (nx := 4) (k := k) (v := nI n) ⟨dJ7_fill_53178_3, rfl⟩ hk0 (by rfl) ?_
  refine G_istore_3 (nx := 5) ⟨dJ7_fill_53178_4, rfl⟩ rfl rfl ?_
  exact G_L (by rw [← nI_0]) (lJ_fill hk0 hn hk _ 0 I rfl (by omega) (wr_0 I k v))

theorem cX_within {v a b : Int32} (hk : K (.int (bi (inR v a b))) I J R) : G l d mX11_within K 0 [.int v, .int a, .int b] [] I J R := by
  refine G_iload_0 (nx := 1) ⟨dX11_within_0, rfl⟩ ?_
  refine G_iload_1 (nx := 2) ⟨dX11_within_1, rfl⟩ ?_
  refine G_icmplt (tgt := 14) (nx := 5) ⟨dX11_within_2, rfl⟩ rfl (fun c_2 => ?_) (fun c_2 => ?_)
  · refine G_iconst (nx := 15) ⟨dX11_within_14, rfl⟩ ci_0 ?_
    refine G_zret ⟨dX11_within_15, rfl⟩ rfl (by first | assumption | decide | exact bi_01 _) ?_
    first | (rw [inR_1 c_2 c_7] at hk; exact hk) | (rw [inR_0 (Or.inl c_2)] at hk; exact hk) | (rw [inR_0 (Or.inr c_7)] at hk; exact hk)
  · refine G_iload_0 (nx := 6) ⟨dX11_within_5, rfl⟩ ?_
    refine G_iload_2 (nx := 7) ⟨dX11_within_6, rfl⟩ ?_
    refine G_icmpgt (tgt := 14) (nx := 10) ⟨dX11_within_7, rfl⟩ rfl (fun c_7 => ?_) (fun c_7 => ?_)
    · refine G_iconst (nx := 15) ⟨dX11_within_14, rfl⟩ ci_0 ?_
      refine G_zret ⟨dX11_within_15, rfl⟩ rfl (by first | assumption | decide | exact bi_01 _) ?_
      first | (rw [inR_1 c_2 c_7] at hk; exact hk) | (rw [inR_0 (Or.inl c_2)] at hk; exact hk) | (rw [inR_0 (Or.inr c_7)] at hk; exact hk)
    · refine G_iconst (nx := 11) ⟨dX11_within_10, rfl⟩ ci_1 ?_
      refine G_goto (tgt := 15) ⟨dX11_within_11, rfl⟩ rfl ?_
      refine G_zret ⟨dX11_within_15, rfl⟩ rfl (by first | assumption | decide | exact bi_01 _) ?_
      first | (rw [inR_1 c_2 c_7] at hk; exact hk) | (rw [inR_0 (Or.inl c_2)] at hk; exact hk) | (rw [inR_0 (Or.inr c_7)] at hk; exact hk)

theorem cX_isKind {v : Int32} (hk : K (.int (bi (inR v 0 5))) I J R) : G l (d + 1) mX11_isKind K 0 [.int v] [] I J R := by
  refine G_iload_0 (nx := 1) ⟨dX11_isKind_0, rfl⟩ ?_
  refine G_iconst (nx := 2) ⟨dX11_isKind_1, rfl⟩ ci_0 ?_
  refine G_iconst (nx := 3) ⟨dX11_isKind_2, rfl⟩ ci_5 ?_
  refine G_cs3 (nx := 6) ⟨dX11_isKind_3, rfl⟩ kX11_126 rfl rfl (Nat.le_of_ble_eq_true rfl) (Nat.le_of_ble_eq_true rfl) (cX_within ?_)
  refine G_zret ⟨dX11_isKind_6, rfl⟩ rfl (by first | assumption | decide | exact bi_01 _) ?_
  exact hk

theorem cX_isWeight {v : Int32} (hk : K (.int (bi (inR v 1 9))) I J R) : G l (d + 1) mX11_isWeight K 0 [.int v] [] I J R := by
  refine G_iload_0 (nx := 1) ⟨dX11_isWeight_0, rfl⟩ ?_
  refine G_iconst (nx := 2) ⟨dX11_isWeight_1, rfl⟩ ci_1 ?_
  refine G_bipush (nx := 4) ⟨dX11_isWeight_2, rfl⟩ cb_9 ?_
  refine G_cs3 (nx := 7) ⟨dX11_isWeight_4, rfl⟩ kX11_126 rfl rfl (Nat.le_of_ble_eq_true rfl) (Nat.le_of_ble_eq_true rfl) (cX_within ?_)
  refine G_zret ⟨dX11_isWeight_7, rfl⟩ rfl (by first | assumption | decide | exact bi_01 _) ?_
  exact hk

theorem cX_isK {v : Int32} (hk : K (.int (bi (inR v 0 12))) I J R) : G l (d + 1) mX11_isK K 0 [.int v] [] I J R := by
  refine G_iload_0 (nx := 1) ⟨dX11_isK_0, rfl⟩ ?_
  refine G_iconst (nx := 2) ⟨dX11_isK_1, rfl⟩ ci_0 ?_
  refine G_bipush (nx := 4) ⟨dX11_isK_2, rfl⟩ cb_12 ?_
  refine G_cs3 (nx := 7) ⟨dX11_isK_4, rfl⟩ kX11_126 rfl rfl (Nat.le_of_ble_eq_true rfl) (Nat.le_of_ble_eq_true rfl) (cX_within ?_)
  refine G_zret ⟨dX11_isK_7, rfl⟩ rfl (by first | assumption | decide | exact bi_01 _) ?_
  exact hk

theorem cX_priceBy {k w l0 p : Int32} (hk : K (.int (cst k w l0 p)) I J R) : G l (d + 1) mX11_priceBy K 0 [.int k, .int w, .int l0, .int p, UU] [] I J R := by
  have ek : (if (1 : Int32) < w + l0 - 2 then w + l0 - 2 else 1) = (if 1 ≤ w + l0 - 2 then w + l0 - 2 else 1) := by
    by_cases h : (1 : Int32) < w + l0 - 2
    · rw [if_pos h, if_pos (by rw [i32_lt] at h; rw [i32_le]; omega)]
    · rw [if_neg h]
      by_cases h2 : (1 : Int32) ≤ w + l0 - 2
      · rw [if_pos h2]
        apply i32_of_toInt
        rw [i32_lt] at h
        rw [i32_le] at h2
        omega
      · rw [if_neg h2]
  refine G_iconst (nx := 1) ⟨dX11_priceBy_0, rfl⟩ ci_1 ?_
  refine G_iload_1 (nx := 2) ⟨dX11_priceBy_1, rfl⟩ ?_
  refine G_iload_2 (nx := 3) ⟨dX11_priceBy_2, rfl⟩ ?_
  refine G_iadd (nx := 4) ⟨dX11_priceBy_3, rfl⟩ ?_
  refine G_iconst (nx := 5) ⟨dX11_priceBy_4, rfl⟩ ci_2 ?_
  refine G_isub (nx := 6) ⟨dX11_priceBy_5, rfl⟩ ?_
  refine G_mmax (nx := 9) ⟨dX11_priceBy_6, rfl⟩ kX11_382 (Nat.le_of_ble_eq_true rfl) ?_
  rw [ek]
  refine G_istore_4 (nx := 11) ⟨dX11_priceBy_9, rfl⟩ rfl rfl ?_
  refine G_iload_0 (nx := 12) ⟨dX11_priceBy_11, rfl⟩ ?_
  rcases sw_1_5 _ with c_12 | c_12 | c_12 | c_12 | c_12 | c_12
  · refine G_tabAt (v := 1) (tgt := 48) (nx := 48) ⟨dX11_priceBy_12, rfl⟩ c_12 (by decide) (by decide) (off := 36) rfl rfl ?_
    refine G_iload_1 (nx := 49) ⟨dX11_priceBy_48, rfl⟩ ?_
    refine G_iload_2 (nx := 50) ⟨dX11_priceBy_49, rfl⟩ ?_
    refine G_iadd (nx := 51) ⟨dX11_priceBy_50, rfl⟩ ?_
    refine G_iret ⟨dX11_priceBy_51, rfl⟩ rfl ?_
    refine K_v (congrArg Value.int ?_) hk
    first | (simp [cst, c_12]; done) | (simp only [sw_ne15 c_12, cst]; simp; done)
  · refine G_tabAt (v := 2) (tgt := 52) (nx := 48) ⟨dX11_priceBy_12, rfl⟩ c_12 (by decide) (by decide) (off := 40) rfl rfl ?_
    refine G_iconst (nx := 53) ⟨dX11_priceBy_52, rfl⟩ ci_2 ?_
    refine G_iload_1 (nx := 54) ⟨dX11_priceBy_53, rfl⟩ ?_
    refine G_imul (nx := 55) ⟨dX11_priceBy_54, rfl⟩ ?_
    refine G_iret ⟨dX11_priceBy_55, rfl⟩ rfl ?_
    refine K_v (congrArg Value.int ?_) hk
    first | (simp [cst, c_12]; done) | (simp only [sw_ne15 c_12, cst]; simp; done)
  · refine G_tabAt (v := 3) (tgt := 56) (nx := 48) ⟨dX11_priceBy_12, rfl⟩ c_12 (by decide) (by decide) (off := 44) rfl rfl ?_
    refine G_iload_4 (nx := 58) ⟨dX11_priceBy_56, rfl⟩ ?_
    refine G_iret ⟨dX11_priceBy_58, rfl⟩ rfl ?_
    refine K_v (congrArg Value.int ?_) hk
    first | (simp [cst, c_12]; done) | (simp only [sw_ne15 c_12, cst]; simp; done)
  · refine G_tabAt (v := 4) (tgt := 59) (nx := 48) ⟨dX11_priceBy_12, rfl⟩ c_12 (by decide) (by decide) (off := 47) rfl rfl ?_
    refine G_iconst (nx := 60) ⟨dX11_priceBy_59, rfl⟩ ci_2 ?_
    refine G_iload_1 (nx := 61) ⟨dX11_priceBy_60, rfl⟩ ?_
    refine G_imul (nx := 62) ⟨dX11_priceBy_61, rfl⟩ ?_
    refine G_iload_3 (nx := 63) ⟨dX11_priceBy_62, rfl⟩ ?_
    refine G_iadd (nx := 64) ⟨dX11_priceBy_63, rfl⟩ ?_
    refine G_iret ⟨dX11_priceBy_64, rfl⟩ rfl ?_
    refine K_v (congrArg Value.int ?_) hk
    first | (simp [cst, c_12]; done) | (simp only [sw_ne15 c_12, cst]; simp; done)
  · refine G_tabAt (v := 5) (tgt := 65) (nx := 48) ⟨dX11_priceBy_12, rfl⟩ c_12 (by decide) (by decide) (off := 53) rfl rfl ?_
    refine G_iload_4 (nx := 67) ⟨dX11_priceBy_65, rfl⟩ ?_
    refine G_iconst (nx := 68) ⟨dX11_priceBy_67, rfl⟩ ci_2 ?_
    refine G_idiv (nx := 69) ⟨dX11_priceBy_68, rfl⟩ (by decide) ?_
    refine G_iconst (nx := 70) ⟨dX11_priceBy_69, rfl⟩ ci_1 ?_
    refine G_iadd (nx := 71) ⟨dX11_priceBy_70, rfl⟩ ?_
    refine G_iret ⟨dX11_priceBy_71, rfl⟩ rfl ?_
    refine K_v (congrArg Value.int ?_) hk
    first | (simp [cst, c_12]; done) | (simp only [sw_ne15 c_12, cst]; simp; done)
  · refine G_tabOut (tgt := 72) (nx := 48) ⟨dX11_priceBy_12, rfl⟩ c_12 rfl ?_
    refine G_iload_1 (nx := 73) ⟨dX11_priceBy_72, rfl⟩ ?_
    refine G_iret ⟨dX11_priceBy_73, rfl⟩ rfl ?_
    refine K_v (congrArg Value.int ?_) hk
    first | (simp [cst, c_12]; done) | (simp only [sw_ne15 c_12, cst]; simp; done)

theorem cX_drawn {z : Int32} (hk : K (.int (dz z)) I J R) : G l d mX4_drawn K 0 [.int z] [] I J R := by
  refine G_iload_0 (nx := 1) ⟨dX4_drawn_0, rfl⟩ ?_
  refine G_ldc (nx := 3) ⟨dX4_drawn_1, rfl⟩ nX4_67 ?_
  refine G_imul (nx := 4) ⟨dX4_drawn_3, rfl⟩ ?_
  refine G_sipush (nx := 7) ⟨dX4_drawn_4, rfl⟩ cs_12345 ?_
  refine G_iadd (nx := 8) ⟨dX4_drawn_7, rfl⟩ ?_
  refine G_iret ⟨dX4_drawn_8, rfl⟩ rfl ?_
  exact hk

end X60
