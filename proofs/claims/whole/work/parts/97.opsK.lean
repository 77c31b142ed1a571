
theorem lbit_bi {N p : Nat} : (lN (N / 2 ^ p % 2)).toInt32 = bi (N.testBit p) := by
  cases q : N.testBit p with
  | false => rw [tb64.mpr q]; rfl
  | true =>
    have h : ¬ N / 2 ^ p % 2 = 0 := fun h => by rw [tb64.mp h] at q; cases q
    rw [show N / 2 ^ p % 2 = 1 by omega]
    rfl
section X97
variable {l : Launch} {d : Nat} {K : AK} {I : AI} {J : AJ} {g : Bool} {n : Nat} {gr : Nat → Nat}

theorem cX_treeOf {p q : Int32} {m : Nat} {o a b c e f j1 j2 j3 : Nat} (hg : rX g 0 12 = some o) (hT : TT o a b c e f j1 j2 j3) (hM : XT I o m) (hP : TP (I c) m) (hk1 : (ptB m p && inR q 0 5) = false → K (.int (-2)) I J (rX g)) (hk : ∀ (p0 : Nat), p = nI p0 → p0 < m → inR q 0 5 = true → K (.int (if q = 0 then I a p0 else if q = 1 then I b p0 else if q = 2 then I c p0 else if q = 3 then nI (unN (I c) m p0) else if q = 4 then cst (I a p0) (I b p0) (nI (ltN (I c) m p0)) (nI p0) else bi (mkD (I c) (m - 1) (fun _ => false) p0))) I J (rX g)) : G l (d + 40) mX11_treeOf K 0 [.ref 0, .int p, .int q] [] I J (rX g) := by
  refine G_aload_0 (nx := 1) ⟨dX11_treeOf_0, rfl⟩ ?_
  refine G_getr (nx := 4) (k := 0) (r := o) ⟨dX11_treeOf_1, rfl⟩ fX11_90 q_0 yr_11_12 hg ?_
  refine G_iload_1 (nx := 5) ⟨dX11_treeOf_4, rfl⟩ ?_
  refine G_cv1 (nx := 8) ⟨dX11_treeOf_5, rfl⟩ kX11_408 rfl hT.1 rfl (Nat.le_of_ble_eq_true rfl) (Nat.le_of_ble_eq_true rfl) (cT_has hT hM ?_)
  refine G_ifne (tgt := 14) (nx := 11) ⟨dX11_treeOf_8, rfl⟩ rfl (fun c_8 => ?_) (fun c_8 => ?_)
  · rw [bi_n0] at c_8
    have hm60 := hM.2
    obtain ⟨p0, hp0, ep⟩ := ptB_ex (by omega) c_8
    subst ep
    have hi60 := in60 (show p0 < 60 by omega)
    have eci := cl_nI (p := p0) (by omega)
    refine G_iload_2 (nx := 15) ⟨dX11_treeOf_14, rfl⟩ ?_
    rcases sw_0_5 _ with c_15 | c_15 | c_15 | c_15 | c_15 | c_15 | c_15
    · refine G_tabAt (v := 0) (tgt := 52) (nx := 52) ⟨dX11_treeOf_15, rfl⟩ c_15 (by decide) (by decide) (off := 37) rfl rfl ?_
      refine G_aload_0 (nx := 53) ⟨dX11_treeOf_52, rfl⟩ ?_
      refine G_getr (nx := 56) (k := 0) (r := o) ⟨dX11_treeOf_53, rfl⟩ fX11_90 q_0 yr_11_12 hg ?_
      refine G_getr (nx := 59) (k := o) (r := a) ⟨dX11_treeOf_56, rfl⟩ fX11_409 hT.1 yr_10_0 (hT.2.2.2.2.2.2.2.2.2.1 _).1 ?_
      refine G_iload_1 (nx := 60) ⟨dX11_treeOf_59, rfl⟩ ?_
      refine G_iald (nx := 61) (k := a) ⟨dX11_treeOf_60, rfl⟩ hT.2.1 (by first | assumption | decide | (unfold vp_in; decide)) ?_
      refine G_iret ⟨dX11_treeOf_61, rfl⟩ rfl ?_
      refine K_v (congrArg Value.int ?_) (hk p0 rfl hp0 (by rw [c_15]; decide))
      rw [eci]
      simp [c_15]
    · refine G_tabAt (v := 1) (tgt := 62) (nx := 52) ⟨dX11_treeOf_15, rfl⟩ c_15 (by decide) (by decide) (off := 47) rfl rfl ?_
      refine G_aload_0 (nx := 63) ⟨dX11_treeOf_62, rfl⟩ ?_
      refine G_getr (nx := 66) (k := 0) (r := o) ⟨dX11_treeOf_63, rfl⟩ fX11_90 q_0 yr_11_12 hg ?_
      refine G_getr (nx := 69) (k := o) (r := b) ⟨dX11_treeOf_66, rfl⟩ fX11_410 hT.1 yr_10_1 (hT.2.2.2.2.2.2.2.2.2.1 _).2.1 ?_
      refine G_iload_1 (nx := 70) ⟨dX11_treeOf_69, rfl⟩ ?_
      refine G_iald (nx := 71) (k := b) ⟨dX11_treeOf_70, rfl⟩ hT.2.2.1 (by first | assumption | decide | (unfold vp_in; decide)) ?_
      refine G_iret ⟨dX11_treeOf_71, rfl⟩ rfl ?_
      refine K_v (congrArg Value.int ?_) (hk p0 rfl hp0 (by rw [c_15]; decide))
      rw [eci]
      simp [c_15]
    · refine G_tabAt (v := 2) (tgt := 72) (nx := 52) ⟨dX11_treeOf_15, rfl⟩ c_15 (by decide) (by decide) (off := 57) rfl rfl ?_
      refine G_iload_1 (nx := 73) ⟨dX11_treeOf_72, rfl⟩ ?_
      refine G_ifne (tgt := 80) (nx := 76) ⟨dX11_treeOf_73, rfl⟩ rfl (fun c_73 => ?_) (fun c_73 => ?_)
      · refine G_aload_0 (nx := 81) ⟨dX11_treeOf_80, rfl⟩ ?_
        refine G_getr (nx := 84) (k := 0) (r := o) ⟨dX11_treeOf_81, rfl⟩ fX11_90 q_0 yr_11_12 hg ?_
        refine G_getr (nx := 87) (k := o) (r := c) ⟨dX11_treeOf_84, rfl⟩ fX11_411 hT.1 yr_10_2 (hT.2.2.2.2.2.2.2.2.2.1 _).2.2.1 ?_
        refine G_iload_1 (nx := 88) ⟨dX11_treeOf_87, rfl⟩ ?_
        refine G_iald (nx := 89) (k := c) ⟨dX11_treeOf_88, rfl⟩ hT.2.2.2.1 (by first | assumption | decide | (unfold vp_in; decide)) ?_
        refine G_iret ⟨dX11_treeOf_89, rfl⟩ rfl ?_
        refine K_v (congrArg Value.int ?_) (hk p0 rfl hp0 (by rw [c_15]; decide))
        rw [eci]
        simp [c_15]
      · refine G_iconst (nx := 77) ⟨dX11_treeOf_76, rfl⟩ ci_m1 ?_
        refine G_goto (tgt := 89) ⟨dX11_treeOf_77, rfl⟩ rfl ?_
        refine G_iret ⟨dX11_treeOf_89, rfl⟩ rfl ?_
        refine K_v (congrArg Value.int ?_) (hk p0 rfl hp0 (by rw [c_15]; decide))
        rw [nI_0iff (by omega)] at c_73
        rw [c_73, hP.1 (by omega)]
        simp [c_15]
    · refine G_tabAt (v := 3) (tgt := 90) (nx := 52) ⟨dX11_treeOf_15, rfl⟩ c_15 (by decide) (by decide) (off := 75) rfl rfl ?_
      refine G_aload_0 (nx := 91) ⟨dX11_treeOf_90, rfl⟩ ?_
      refine G_getr (nx := 94) (k := 0) (r := o) ⟨dX11_treeOf_91, rfl⟩ fX11_90 q_0 yr_11_12 hg ?_
      refine G_iload_1 (nx := 95) ⟨dX11_treeOf_94, rfl⟩ ?_
      refine G_cv1 (nx := 98) ⟨dX11_treeOf_95, rfl⟩ kX11_414 rfl hT.1 rfl (Nat.le_of_ble_eq_true rfl) (Nat.le_of_ble_eq_true rfl) (cT_under hT hM hP hp0 ?_)
      refine G_iret ⟨dX11_treeOf_98, rfl⟩ rfl ?_
      refine K_v (congrArg Value.int ?_) (hk p0 rfl hp0 (by rw [c_15]; decide))
      simp [c_15]
    · refine G_tabAt (v := 4) (tgt := 99) (nx := 52) ⟨dX11_treeOf_15, rfl⟩ c_15 (by decide) (by decide) (off := 84) rfl rfl ?_
      refine G_aload_0 (nx := 100) ⟨dX11_treeOf_99, rfl⟩ ?_
      refine G_getr (nx := 103) (k := 0) (r := o) ⟨dX11_treeOf_100, rfl⟩ fX11_90 q_0 yr_11_12 hg ?_
      refine G_iload_1 (nx := 104) ⟨dX11_treeOf_103, rfl⟩ ?_
      refine G_cv1 (nx := 107) ⟨dX11_treeOf_104, rfl⟩ kX11_417 rfl hT.1 rfl (Nat.le_of_ble_eq_true rfl) (Nat.le_of_ble_eq_true rfl) (cT_price hT hM hp0 ?_)
      refine G_iret ⟨dX11_treeOf_107, rfl⟩ rfl ?_
      refine K_v (congrArg Value.int ?_) (hk p0 rfl hp0 (by rw [c_15]; decide))
      simp [c_15]
    · refine G_tabAt (v := 5) (tgt := 108) (nx := 52) ⟨dX11_treeOf_15, rfl⟩ c_15 (by decide) (by decide) (off := 93) rfl rfl ?_
      refine G_aload_0 (nx := 109) ⟨dX11_treeOf_108, rfl⟩ ?_
      refine G_getr (nx := 112) (k := 0) (r := o) ⟨dX11_treeOf_109, rfl⟩ fX11_90 q_0 yr_11_12 hg ?_
      refine G_cv0 (nx := 115) ⟨dX11_treeOf_112, rfl⟩ kX11_418 rfl hT.1 rfl (Nat.le_of_ble_eq_true rfl) (Nat.le_of_ble_eq_true rfl) (cT_marks hT hM hP (by omega) (fun N hN60 hN => ?_))
      refine G_iload_1 (nx := 116) ⟨dX11_treeOf_115, rfl⟩ ?_
      refine G_lushr (nx := 117) ⟨dX11_treeOf_116, rfl⟩ ?_
      refine G_lconst (nx := 118) (v := 1) ⟨dX11_treeOf_117, rfl⟩ (by decide) ?_
      refine G_land (nx := 119) ⟨dX11_treeOf_118, rfl⟩ ?_
      refine G_l2i (nx := 120) ⟨dX11_treeOf_119, rfl⟩ ?_
      refine G_iret ⟨dX11_treeOf_120, rfl⟩ rfl ?_
      refine K_v (congrArg Value.int ?_) (hk p0 rfl hp0 (by rw [c_15]; decide))
      rw [wb_bit (by omega) (by omega), lbit_bi, hN p0]
      simp [c_15]
    · refine G_tabOut (tgt := 121) (nx := 52) ⟨dX11_treeOf_15, rfl⟩ c_15 rfl ?_
      refine G_bipush (nx := 123) ⟨dX11_treeOf_121, rfl⟩ cb_m2 ?_
      refine G_iret ⟨dX11_treeOf_123, rfl⟩ rfl ?_
      refine hk1 ?_
      rw [c_8, Bool.true_and]
      cases e : inR q 0 5 with
      | false => rfl
      | true =>
        obtain ⟨n0, n1, n2, n3, n4, n5⟩ := sw_ne05 c_15
        rcases inR05 e with z | z | z | z | z | z
        · exact absurd z n0
        · exact absurd z n1
        · exact absurd z n2
        · exact absurd z n3
        · exact absurd z n4
        · exact absurd z n5
  · refine G_bipush (nx := 13) ⟨dX11_treeOf_11, rfl⟩ cb_m2 ?_
    refine G_iret ⟨dX11_treeOf_13, rfl⟩ rfl ?_
    rw [bi_0] at c_8
    exact hk1 (by rw [c_8]; rfl)

end X97
