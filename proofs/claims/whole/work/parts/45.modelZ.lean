
def unF (is : Nat → Int32) (p i c : Nat) : Nat := if ¬ i = p ∧ upB is p (i + 1) i = true then c + 1 else c
def unN (is : Nat → Int32) (m p : Nat) : Nat := lp (unF is p) m 0
section M45
variable {l : Launch} {d : Nat} {K : AK} {I : AI} {J : AJ} {g : Bool} {n : Nat} {gr : Nat → Nat}

theorem lM_treeOf {m p : Nat} {q : Int32} (hT0 : MT I m) (hp : p < m) (hT : TP (I 91) m) (hgo : G l (d + 2) mX12_treeOf K 70 [.ref 75, .int (nI p), .int q, .int (nI (lp (unF (I 91) p) m 0)), .int (nI m)] [] I J (rX g)) : ∀ (k i : Nat), m - i = k → i ≤ m → G l (d + 2) mX12_treeOf K 31 [.ref 75, .int (nI p), .int q, .int (nI (lp (unF (I 91) p) i 0)), .int (nI i)] [] I J (rX g) := by
  intro k
  induction k using Nat.strongRecOn with
  | _ k ih =>
  intro i hik him
  have e26 := hT0.1
  have hm60 := hT0.2
  refine G_iload_4 (nx := 33) ⟨dX12_treeOf_31, rfl⟩ ?_
  refine G_aload_0 (nx := 34) ⟨dX12_treeOf_33, rfl⟩ ?_
  refine G_geti (nx := 37) (k := 75) ⟨dX12_treeOf_34, rfl⟩ fX12_165 q_75 yi_12_26 ?_
  rw [e26]
  refine G_icmpge (tgt := 70) (nx := 40) ⟨dX12_treeOf_37, rfl⟩ rfl (fun c_37 => ?_) (fun c_37 => ?_)
  · rw [nI_le_iff (by omega) (by omega)] at c_37
    have e : i = m := by omega
    subst e
    exact hgo
  · rw [nI_le_iff (by omega) (by omega)] at c_37
    have hi : i < m := by omega
    refine G_iload_3 (nx := 41) ⟨dX12_treeOf_40, rfl⟩ ?_
    refine G_iload_4 (nx := 43) ⟨dX12_treeOf_41, rfl⟩ ?_
    refine G_iload_1 (nx := 44) ⟨dX12_treeOf_43, rfl⟩ ?_
    refine G_icmpeq (tgt := 61) (nx := 47) ⟨dX12_treeOf_44, rfl⟩ rfl (fun c_44 => ?_) (fun c_44 => ?_)
    · refine G_iconst (nx := 62) ⟨dX12_treeOf_61, rfl⟩ ci_0 ?_
      refine G_iadd (nx := 63) ⟨dX12_treeOf_62, rfl⟩ ?_
      refine G_istore_3 (nx := 64) ⟨dX12_treeOf_63, rfl⟩ rfl rfl ?_
      refine G_iinc_4 (nx := 67) ⟨dX12_treeOf_64, rfl⟩ ci_1 rfl ?_
      refine G_goto (tgt := 31) ⟨dX12_treeOf_67, rfl⟩ rfl ?_
      rw [nI_eq (by omega) (by omega)] at c_44
      have est : lp (unF (I 91) p) (i + 1) 0 = lp (unF (I 91) p) i 0 := by rw [lp_s, unF, if_neg (fun h => h.1 c_44)]
      exact G_L (by rw [est]; simp only [nI_1, Int32.add_zero]) (ih (m - (i + 1)) (by omega) (i + 1) rfl (by omega))
    · refine G_aload_0 (nx := 48) ⟨dX12_treeOf_47, rfl⟩ ?_
      refine G_iload_4 (nx := 50) ⟨dX12_treeOf_48, rfl⟩ ?_
      refine G_iload_1 (nx := 51) ⟨dX12_treeOf_50, rfl⟩ ?_
      refine G_cv2 (nx := 54) ⟨dX12_treeOf_51, rfl⟩ kX12_326 rfl q_75 rfl (Nat.le_of_ble_eq_true rfl) (Nat.le_of_ble_eq_true rfl) (cM_isUnder hm60 hp hT hi ?_)
      refine G_ifeq (tgt := 61) (nx := 57) ⟨dX12_treeOf_54, rfl⟩ rfl (fun c_54 => ?_) (fun c_54 => ?_)
      · refine G_iconst (nx := 62) ⟨dX12_treeOf_61, rfl⟩ ci_0 ?_
        refine G_iadd (nx := 63) ⟨dX12_treeOf_62, rfl⟩ ?_
        refine G_istore_3 (nx := 64) ⟨dX12_treeOf_63, rfl⟩ rfl rfl ?_
        refine G_iinc_4 (nx := 67) ⟨dX12_treeOf_64, rfl⟩ ci_1 rfl ?_
        refine G_goto (tgt := 31) ⟨dX12_treeOf_67, rfl⟩ rfl ?_
        rw [bi_0] at c_54
        have est : lp (unF (I 91) p) (i + 1) 0 = lp (unF (I 91) p) i 0 := by rw [lp_s, unF, if_neg (fun h => by rw [c_54] at h; cases h.2)]
        exact G_L (by rw [est]; simp only [nI_1, Int32.add_zero]) (ih (m - (i + 1)) (by omega) (i + 1) rfl (by omega))
      · refine G_iconst (nx := 58) ⟨dX12_treeOf_57, rfl⟩ ci_1 ?_
        refine G_goto (tgt := 62) ⟨dX12_treeOf_58, rfl⟩ rfl ?_
        refine G_iadd (nx := 63) ⟨dX12_treeOf_62, rfl⟩ ?_
        refine G_istore_3 (nx := 64) ⟨dX12_treeOf_63, rfl⟩ rfl rfl ?_
        refine G_iinc_4 (nx := 67) ⟨dX12_treeOf_64, rfl⟩ ci_1 rfl ?_
        refine G_goto (tgt := 31) ⟨dX12_treeOf_67, rfl⟩ rfl ?_
        rw [nI_eq (by omega) (by omega)] at c_44
        rw [bi_n0] at c_54
        have est : lp (unF (I 91) p) (i + 1) 0 = lp (unF (I 91) p) i 0 + 1 := by rw [lp_s, unF, if_pos ⟨c_44, c_54⟩]
        exact G_L (by rw [est]; simp only [nI_1, Int32.add_zero]) (ih (m - (i + 1)) (by omega) (i + 1) rfl (by omega))

theorem cM_treeOf {m : Nat} {p q : Int32} (hT0 : MT I m) (hT : TP (I 91) m) (hk1 : (ptB m p && inR q 0 5) = false → K (.int (-2)) I J (rX g)) (hk : ∀ (p0 : Nat) (I' : AI), p = nI p0 → p0 < m → inR q 0 5 = true → sb f100 I I' → K (.int (if q = 0 then I 89 p0 else if q = 1 then I 90 p0 else if q = 2 then I 91 p0 else if q = 3 then nI (unN (I 91) m p0) else if q = 4 then cst (I 89 p0) (I 90 p0) (nI (ltN (I 91) m p0)) (nI p0) else bi (mkD (I 91) (m - 1) (fun _ => false) p0))) I' J (rX g)) : G l (d + 2) mX12_treeOf K 0 [.ref 75, .int p, .int q, UU, UU] [] I J (rX g) := by
  have e26 := hT0.1
  have hm60 := hT0.2
  refine G_iload_1 (nx := 1) ⟨dX12_treeOf_0, rfl⟩ ?_
  refine G_iconst (nx := 2) ⟨dX12_treeOf_1, rfl⟩ ci_0 ?_
  refine G_aload_0 (nx := 3) ⟨dX12_treeOf_2, rfl⟩ ?_
  
  refine G_geti (nx := 6) (k := 75) ⟨dX12_treeOf_3, rfl⟩ fX12_165 q_75 yi_12_26 ?_
  rw [e26]
  refine G_iconst (nx := 7) ⟨dX12_treeOf_6, rfl⟩ ci_1 ?_
  refine G_isub (nx := 8) ⟨dX12_treeOf_7, rfl⟩ ?_
  refine G_cs3 (nx := 11) ⟨dX12_treeOf_8, rfl⟩ kX12_125 rfl rfl (Nat.le_of_ble_eq_true rfl) (Nat.le_of_ble_eq_true rfl) (cM_in ?_)
  refine G_ifeq (tgt := 23) (nx := 14) ⟨dX12_treeOf_11, rfl⟩ rfl (fun c_11 => ?_) (fun c_11 => ?_)
  · try rw [ptB_in (by omega)] at c_11
    refine G_bipush (nx := 25) ⟨dX12_treeOf_23, rfl⟩ cb_m2 ?_
    refine G_iret ⟨dX12_treeOf_25, rfl⟩ rfl ?_
    rw [bi_0] at c_11
    exact hk1 (by simp [c_11])
  · rw [ptB_in (by omega), bi_n0] at c_11
    refine G_iload_2 (nx := 15) ⟨dX12_treeOf_14, rfl⟩ ?_
    refine G_iconst (nx := 16) ⟨dX12_treeOf_15, rfl⟩ ci_0 ?_
    refine G_iconst (nx := 17) ⟨dX12_treeOf_16, rfl⟩ ci_5 ?_
    refine G_cs3 (nx := 20) ⟨dX12_treeOf_17, rfl⟩ kX12_125 rfl rfl (Nat.le_of_ble_eq_true rfl) (Nat.le_of_ble_eq_true rfl) (cM_in ?_)
    refine G_ifne (tgt := 26) (nx := 23) ⟨dX12_treeOf_20, rfl⟩ rfl (fun c_20 => ?_) (fun c_20 => ?_)
    · rw [bi_n0] at c_20
      obtain ⟨p0, hp0, ep⟩ := ptB_ex (by omega) c_11
      subst ep
      have hip := in60 (p := p0) (by omega)
      have ecp := cl_nI (p := p0) (by omega)
      refine G_iconst (nx := 27) ⟨dX12_treeOf_26, rfl⟩ ci_0 ?_
      refine G_istore_3 (nx := 28) ⟨dX12_treeOf_27, rfl⟩ rfl rfl ?_
      refine G_iconst (nx := 29) ⟨dX12_treeOf_28, rfl⟩ ci_0 ?_
      refine G_istore_4 (nx := 31) ⟨dX12_treeOf_29, rfl⟩ rfl rfl ?_
      refine G_L (by rw [← nI_0]; rfl) (lM_treeOf (d := d) hT0 hp0 hT ?_ _ 0 rfl (by omega))
      refine G_iload_2 (nx := 71) ⟨dX12_treeOf_70, rfl⟩ ?_
      rcases sw_0_4 _ with c_71 | c_71 | c_71 | c_71 | c_71 | c_71
      · refine G_tabAt (v := 0) (tgt := 104) (nx := 104) ⟨dX12_treeOf_71, rfl⟩ c_71 (by decide) (by decide) (off := 33) rfl rfl ?_
        refine G_aload_0 (nx := 105) ⟨dX12_treeOf_104, rfl⟩ ?_
        refine G_getr (nx := 108) (k := 75) (r := 89) ⟨dX12_treeOf_105, rfl⟩ fX12_53 q_75 yr_12_27 (r_75_27 _) ?_
        refine G_iload_1 (nx := 109) ⟨dX12_treeOf_108, rfl⟩ ?_
        refine G_iald (nx := 110) (k := 89) ⟨dX12_treeOf_109, rfl⟩ q_89 (by first | assumption | decide | (unfold vp_in; decide)) ?_
        rw [ecp]
        refine G_iret ⟨dX12_treeOf_110, rfl⟩ rfl ?_
        exact K_v (congrArg Value.int (by simp [c_71, unN])) (hk p0 I rfl hp0 c_20 sb.rf)
      · refine G_tabAt (v := 1) (tgt := 111) (nx := 104) ⟨dX12_treeOf_71, rfl⟩ c_71 (by decide) (by decide) (off := 40) rfl rfl ?_
        refine G_aload_0 (nx := 112) ⟨dX12_treeOf_111, rfl⟩ ?_
        refine G_getr (nx := 115) (k := 75) (r := 90) ⟨dX12_treeOf_112, rfl⟩ fX12_56 q_75 yr_12_28 (r_75_28 _) ?_
        refine G_iload_1 (nx := 116) ⟨dX12_treeOf_115, rfl⟩ ?_
        refine G_iald (nx := 117) (k := 90) ⟨dX12_treeOf_116, rfl⟩ q_90 (by first | assumption | decide | (unfold vp_in; decide)) ?_
        rw [ecp]
        refine G_iret ⟨dX12_treeOf_117, rfl⟩ rfl ?_
        exact K_v (congrArg Value.int (by simp [c_71, unN])) (hk p0 I rfl hp0 c_20 sb.rf)
      · refine G_tabAt (v := 2) (tgt := 118) (nx := 104) ⟨dX12_treeOf_71, rfl⟩ c_71 (by decide) (by decide) (off := 47) rfl rfl ?_
        refine G_aload_0 (nx := 119) ⟨dX12_treeOf_118, rfl⟩ ?_
        refine G_getr (nx := 122) (k := 75) (r := 91) ⟨dX12_treeOf_119, rfl⟩ fX12_59 q_75 yr_12_29 (r_75_29 _) ?_
        refine G_iload_1 (nx := 123) ⟨dX12_treeOf_122, rfl⟩ ?_
        refine G_iald (nx := 124) (k := 91) ⟨dX12_treeOf_123, rfl⟩ q_91 (by first | assumption | decide | (unfold vp_in; decide)) ?_
        rw [ecp]
        refine G_iret ⟨dX12_treeOf_124, rfl⟩ rfl ?_
        exact K_v (congrArg Value.int (by simp [c_71, unN])) (hk p0 I rfl hp0 c_20 sb.rf)
      · refine G_tabAt (v := 3) (tgt := 125) (nx := 104) ⟨dX12_treeOf_71, rfl⟩ c_71 (by decide) (by decide) (off := 54) rfl rfl ?_
        refine G_iload_3 (nx := 126) ⟨dX12_treeOf_125, rfl⟩ ?_
        refine G_iret ⟨dX12_treeOf_126, rfl⟩ rfl ?_
        exact K_v (congrArg Value.int (by simp [c_71, unN])) (hk p0 I rfl hp0 c_20 sb.rf)
      · refine G_tabAt (v := 4) (tgt := 127) (nx := 104) ⟨dX12_treeOf_71, rfl⟩ c_71 (by decide) (by decide) (off := 56) rfl rfl ?_
        refine G_aload_0 (nx := 128) ⟨dX12_treeOf_127, rfl⟩ ?_
        refine G_iload_1 (nx := 129) ⟨dX12_treeOf_128, rfl⟩ ?_
        refine G_cv1 (nx := 132) ⟨dX12_treeOf_129, rfl⟩ kX12_313 rfl q_75 rfl (Nat.le_of_ble_eq_true rfl) (Nat.le_of_ble_eq_true rfl) (cM_costIn hT0 hp0 ?_)
        refine G_iret ⟨dX12_treeOf_132, rfl⟩ rfl ?_
        exact K_v (congrArg Value.int (by simp [c_71, unN])) (hk p0 I rfl hp0 c_20 sb.rf)
      · refine G_tabOut (tgt := 133) (nx := 104) ⟨dX12_treeOf_71, rfl⟩ c_71 rfl ?_
        refine G_aload_0 (nx := 134) ⟨dX12_treeOf_133, rfl⟩ ?_
        refine G_iload_1 (nx := 135) ⟨dX12_treeOf_134, rfl⟩ ?_
        refine G_cv1 (nx := 138) ⟨dX12_treeOf_135, rfl⟩ kX12_329 rfl q_75 rfl (Nat.le_of_ble_eq_true rfl) (Nat.le_of_ble_eq_true rfl) (cM_isMarked e26 hm60 hp0 hT (fun I2 hs2 => ?_))
        refine G_ifeq (tgt := 145) (nx := 141) ⟨dX12_treeOf_138, rfl⟩ rfl (fun c_138 => ?_) (fun c_138 => ?_)
        · refine G_iconst (nx := 146) ⟨dX12_treeOf_145, rfl⟩ ci_0 ?_
          refine G_iret ⟨dX12_treeOf_146, rfl⟩ rfl ?_
          rw [bi_0] at c_138
          have fin := hk p0 I2 rfl hp0 c_20 hs2
          rw [if_neg (fun e => by rw [e] at c_71; revert c_71; decide), if_neg (fun e => by rw [e] at c_71; revert c_71; decide), if_neg (fun e => by rw [e] at c_71; revert c_71; decide), if_neg (fun e => by rw [e] at c_71; revert c_71; decide), if_neg (fun e => by rw [e] at c_71; revert c_71; decide), c_138] at fin
          exact fin
        · refine G_iconst (nx := 142) ⟨dX12_treeOf_141, rfl⟩ ci_1 ?_
          refine G_goto (tgt := 146) ⟨dX12_treeOf_142, rfl⟩ rfl ?_
          refine G_iret ⟨dX12_treeOf_146, rfl⟩ rfl ?_
          rw [bi_n0] at c_138
          have fin := hk p0 I2 rfl hp0 c_20 hs2
          rw [if_neg (fun e => by rw [e] at c_71; revert c_71; decide), if_neg (fun e => by rw [e] at c_71; revert c_71; decide), if_neg (fun e => by rw [e] at c_71; revert c_71; decide), if_neg (fun e => by rw [e] at c_71; revert c_71; decide), if_neg (fun e => by rw [e] at c_71; revert c_71; decide), c_138] at fin
          exact fin
      
    · try rw [ptB_in (by omega)] at c_11
      refine G_bipush (nx := 25) ⟨dX12_treeOf_23, rfl⟩ cb_m2 ?_
      refine G_iret ⟨dX12_treeOf_25, rfl⟩ rfl ?_
      rw [bi_0] at c_20
      exact hk1 (by simp [c_20])

end M45
