
theorem msz_0 : msz (fun _ => none) = 0 := cn_all0 (fun _ _ => rfl)
theorem msz_le (m : Nat → Option Nat) : msz m ≤ 12 := cn_le 12 _
section X71
variable {l : Launch} {d : Nat} {K : AK} {I : AI} {J : AJ} {g : Bool} {n : Nat} {gr : Nat → Nat}

theorem lH_most {o a b c e k : Nat} (hH : HT o a b c e) (hk12 : isA k 12) (hko : k < o) {A B : Nat} (hR : RG I k n gr) (hA : A < 2 ^ n) (hB : B < 2 ^ n) (hk : ∀ (I' : AI), sb (fMp o) I I' → K (.int (nI (tau gr A B))) I' J (rX g)) : ∀ (kk p : Nat) (I1 : AI) (m ml : Nat → Option Nat) (U : Nat) (Z : Nat → Prop), 12 - p = kk → p ≤ 12 → RT gr n A B m Z p → PR I1 o a b m ml U → sb (fMp o) I I1 → G l (d + 2) mX2_mostPairs K 27 [.ref o, .ref k, .int (nI A), .int (nI B), .int (nI (msz m)), .int (nI p)] [] I1 J (rX g) := by
  obtain ⟨qa, qb, qc, qe⟩ := hH.2.2.2.2.2.2
  intro kk
  induction kk using Nat.strongRecOn with
  | _ kk ih =>
  intro p I1 m ml U Z hpk hp hRT hPR hs1
  have hn := hR.1
  have hA4 : A < 4096 := Nat.lt_of_lt_of_le hA (pow12 hn)
  have hR1 : RG I1 k n gr := hR.sb hs1 (fun _ => fMp_f (by omega))
  have hml := msz_le m
  refine G_iload_5 (nx := 29) ⟨dX2_mostPairs_27, rfl⟩ ?_
  refine G_bipush (nx := 31) ⟨dX2_mostPairs_29, rfl⟩ cb_12 ?_
  rw [show (12 : Int32) = nI 12 by decide]
  refine G_icmpge (tgt := 63) (nx := 34) ⟨dX2_mostPairs_31, rfl⟩ rfl (fun c_31 => ?_) (fun c_31 => ?_)
  · refine G_iload_4 (nx := 65) ⟨dX2_mostPairs_63, rfl⟩ ?_
    refine G_iret ⟨dX2_mostPairs_65, rfl⟩ rfl ?_
    rw [nI_le_iff (by omega) (by omega)] at c_31
    have e12 : p = 12 := by omega
    have hRn : RT gr n A B m Z n := ⟨hRT.1, hRT.2.1, fun q r hq => (hRT.1 q r hq).1, hRT.2.2.2.1, fun r hr => hRT.2.2.2.2 r (by omega)⟩
    have hnu := RT_nu hRn hn hA
    rw [hnu.tau hA4]
    exact hk I1 hs1
  · rw [nI_le_iff (by omega) (by omega)] at c_31
    have hp12 : p < 12 := by omega
    refine G_iload_2 (nx := 35) ⟨dX2_mostPairs_34, rfl⟩ ?_
    refine G_iload_5 (nx := 37) ⟨dX2_mostPairs_35, rfl⟩ ?_
    refine G_ishr (nx := 38) ⟨dX2_mostPairs_37, rfl⟩ ?_
    refine G_iconst (nx := 39) ⟨dX2_mostPairs_38, rfl⟩ ci_1 ?_
    refine G_iand (nx := 40) ⟨dX2_mostPairs_39, rfl⟩ ?_
    rw [bit_nI (lt31 hA4) (by omega)]
    refine G_ifeq (tgt := 57) (nx := 43) ⟨dX2_mostPairs_40, rfl⟩ rfl (fun c_40 => ?_) (fun c_40 => ?_)
    · refine G_iinc_5 (nx := 60) ⟨dX2_mostPairs_57, rfl⟩ ci_1 rfl ?_
      refine G_goto (tgt := 27) ⟨dX2_mostPairs_60, rfl⟩ rfl ?_
      exact G_L (by rw [nI_1]) (ih (12 - (p + 1)) (by omega) (p + 1) I1 m ml U Z rfl (by omega) (RT_skip hRT (by rw [bi_0] at c_40; exact c_40)) hPR hs1)
    · rw [bi_n0] at c_40
      have hpn : p < n := tb_ltn hA c_40
      refine G_aload_0 (nx := 44) ⟨dX2_mostPairs_43, rfl⟩ ?_
      refine G_aload_1 (nx := 45) ⟨dX2_mostPairs_44, rfl⟩ ?_
      refine G_iload_5 (nx := 47) ⟨dX2_mostPairs_45, rfl⟩ ?_
      refine G_iload_3 (nx := 48) ⟨dX2_mostPairs_47, rfl⟩ ?_
      refine G_cv3 (nx := 51) ⟨dX2_mostPairs_48, rfl⟩ kX2_43 rfl hH.1 rfl (Nat.le_of_ble_eq_true rfl) (Nat.le_of_ble_eq_true rfl) (cH_one (A := A) (m := m) (ml := ml) (U := U) hH hk12 hko hRT.1 hRT.2.1 (fun x hx => Nat.lt_irrefl _ (hRT.2.2.1 x p hx)) hpn c_40 hB hn hR1 hPR (fun I2 mf mlf U2 hPS hPR2 hs2 => ?_) (fun I2 S2 hPF hPR2 hs2 => ?_))
      · refine G_ifeq (tgt := 57) (nx := 54) ⟨dX2_mostPairs_51, rfl⟩ rfl (fun c_51 => ?_) (fun c_51 => ?_)
        · exact absurd c_51 (by decide)
        · refine G_iinc_4 (nx := 57) ⟨dX2_mostPairs_54, rfl⟩ ci_1 rfl ?_
          refine G_iinc_5 (nx := 60) ⟨dX2_mostPairs_57, rfl⟩ ci_1 rfl ?_
          refine G_goto (tgt := 27) ⟨dX2_mostPairs_60, rfl⟩ rfl ?_
          have hm1 := msz_ok hRT.1 hRT.2.1 hn (fun x hx => Nat.lt_irrefl _ (hRT.2.2.1 x p hx)) hPS hpn
          exact G_L (by rw [nI_1, nI_1, hm1]) (ih (12 - (p + 1)) (by omega) (p + 1) I2 mf mlf U2 Z rfl (by omega) (RT_ok hRT hPS) hPR2 (hs1.tr hs2))
      · refine G_ifeq (tgt := 57) (nx := 54) ⟨dX2_mostPairs_51, rfl⟩ rfl (fun c_51 => ?_) (fun c_51 => ?_)
        · refine G_iinc_5 (nx := 60) ⟨dX2_mostPairs_57, rfl⟩ ci_1 rfl ?_
          refine G_goto (tgt := 27) ⟨dX2_mostPairs_60, rfl⟩ rfl ?_
          exact G_L (by rw [nI_1]) (ih (12 - (p + 1)) (by omega) (p + 1) I2 m ml U _ rfl (by omega) (RT_no hRT hPF) hPR2 (hs1.tr hs2))
        · exact absurd rfl c_51

theorem cH_most {o a b c e k : Nat} (hH : HT o a b c e) (hk12 : isA k 12) (hko : k < o) {A B : Nat} (hR : RG I k n gr) (hA : A < 2 ^ n) (hB : B < 2 ^ n) (hk : ∀ (I' : AI), sb (fMp o) I I' → K (.int (nI (tau gr A B))) I' J (rX g)) : G l (d + 2) mX2_mostPairs K 0 [.ref o, .ref k, .int (nI A), .int (nI B), UU, UU] [] I J (rX g) := by
  obtain ⟨qa, qb, qc, qe⟩ := hH.2.2.2.2.2.2

  refine G_iconst (nx := 1) ⟨dX2_mostPairs_0, rfl⟩ ci_0 ?_
  refine G_istore_4 (nx := 3) ⟨dX2_mostPairs_1, rfl⟩ rfl rfl ?_
  refine G_aload_0 (nx := 4) ⟨dX2_mostPairs_3, rfl⟩ ?_
  refine G_iconst (nx := 5) ⟨dX2_mostPairs_4, rfl⟩ ci_0 ?_
  refine G_puti (nx := 8) (k := o) ⟨dX2_mostPairs_5, rfl⟩ pX2_24 hH.1 yt_2_4 ?_
  refine G_aload_0 (nx := 9) ⟨dX2_mostPairs_8, rfl⟩ ?_
  refine G_getr (nx := 12) (k := o) (r := a) ⟨dX2_mostPairs_9, rfl⟩ fX2_9 hH.1 yr_2_0 (hH.2.2.2.2.2.1 _).1 ?_
  refine G_iconst (nx := 13) ⟨dX2_mostPairs_12, rfl⟩ ci_m1 ?_
  refine G_csv2 (nx := 16) ⟨dX2_mostPairs_13, rfl⟩ kX2_37 rfl rfl (Nat.le_of_ble_eq_true rfl) (Nat.le_of_ble_eq_true rfl) (cJ_fill hH.2.1 (by decide) ?_)
  refine G_aload_0 (nx := 17) ⟨dX2_mostPairs_16, rfl⟩ ?_
  refine G_getr (nx := 20) (k := o) (r := b) ⟨dX2_mostPairs_17, rfl⟩ fX2_15 hH.1 yr_2_1 (hH.2.2.2.2.2.1 _).2.1 ?_
  refine G_iconst (nx := 21) ⟨dX2_mostPairs_20, rfl⟩ ci_m1 ?_
  refine G_csv2 (nx := 24) ⟨dX2_mostPairs_21, rfl⟩ kX2_37 rfl rfl (Nat.le_of_ble_eq_true rfl) (Nat.le_of_ble_eq_true rfl) (cJ_fill hH.2.2.1 (by decide) ?_)
  refine G_iconst (nx := 25) ⟨dX2_mostPairs_24, rfl⟩ ci_0 ?_
  refine G_istore_5 (nx := 27) ⟨dX2_mostPairs_25, rfl⟩ rfl rfl ?_
  refine G_L (by rw [← nI_0, ← msz_0]) (lH_most hH hk12 hko hR hA hB hk _ 0 _ (fun _ => none) (fun _ => none) 0 (fun _ => False) rfl (by omega) RT_0 ⟨fun x r => ⟨fun h => (by cases h), fun h => (by cases h)⟩, fun x hx => ?_, fun r hr => ?_, ?_, by omega, fun x => z0 x⟩ (((sb.rf.w fMp_o).wr (fun _ => fMp_t (by omega))).wr (fun _ => fMp_t (by omega))))
  · rw [wr_at, if_pos hx]; rfl
  · rw [wr_ne _ _ _ (by omega), wr_at, if_pos hr]; rfl
  · rw [wr_ne _ _ _ (by omega), wr_ne _ _ _ (by omega), w2_at]; rfl

theorem cH_least {o a b c e k : Nat} (hH : HT o a b c e) (hk12 : isA k 12) (hko : k < o) {P : Nat} (hR : RG I k n gr) (hP : P < 2 ^ n) (hk : ∀ (I' : AI), sb (fMp o) I I' → K (.int (nI (tau gr P P))) I' J (rX g)) : G l (d + 3) mX2_least K 0 [.ref o, .ref k, .int (nI P)] [] I J (rX g) := by
  refine G_aload_0 (nx := 1) ⟨dX2_least_0, rfl⟩ ?_
  refine G_aload_1 (nx := 2) ⟨dX2_least_1, rfl⟩ ?_
  refine G_iload_2 (nx := 3) ⟨dX2_least_2, rfl⟩ ?_
  refine G_iload_2 (nx := 4) ⟨dX2_least_3, rfl⟩ ?_
  refine G_cv3 (nx := 7) ⟨dX2_least_4, rfl⟩ kX2_57 rfl hH.1 rfl (Nat.le_of_ble_eq_true rfl) (Nat.le_of_ble_eq_true rfl) (cH_most hH hk12 hko hR hP hP (fun I1 hs1 => ?_))
  refine G_iret ⟨dX2_least_7, rfl⟩ rfl ?_
  exact hk I1 hs1

theorem cH_leastWith {o a b c e k : Nat} (hH : HT o a b c e) (hk12 : isA k 12) (hko : k < o) {a0 b0 a1 b1 : Nat} (hR : RG I k n gr) (h1 : a0 < 4096) (h2 : a1 < 2 ^ n) (h3 : b0 < 4096) (h4 : b1 < 2 ^ n) (hk : ∀ (I' : AI), sb (fMp o) I I' → K (.int (nI (pc a0 + pc b0 + tau gr a1 b1))) I' J (rX g)) : G l (d + 3) mX2_leastWith K 0 [.ref o, .ref k, .int (nI a0), .int (nI a1), .int (nI b0), .int (nI b1), UU] [] I J (rX g) := by
  refine G_iload_2 (nx := 1) ⟨dX2_leastWith_0, rfl⟩ ?_
  refine G_cs1 (nx := 4) ⟨dX2_leastWith_1, rfl⟩ kX2_61 rfl rfl (Nat.le_of_ble_eq_true rfl) (Nat.le_of_ble_eq_true rfl) (cJ_bc h1 ?_)
  refine G_iload_4 (nx := 6) ⟨dX2_leastWith_4, rfl⟩ ?_
  refine G_cs1 (nx := 9) ⟨dX2_leastWith_6, rfl⟩ kX2_61 rfl rfl (Nat.le_of_ble_eq_true rfl) (Nat.le_of_ble_eq_true rfl) (cJ_bc h3 ?_)
  refine G_iadd (nx := 10) ⟨dX2_leastWith_9, rfl⟩ ?_
  rw [nI_add]
  refine G_istore_6 (nx := 12) ⟨dX2_leastWith_10, rfl⟩ rfl rfl ?_
  refine G_iload_6 (nx := 14) ⟨dX2_leastWith_12, rfl⟩ ?_
  refine G_aload_0 (nx := 15) ⟨dX2_leastWith_14, rfl⟩ ?_
  refine G_aload_1 (nx := 16) ⟨dX2_leastWith_15, rfl⟩ ?_
  refine G_iload_3 (nx := 17) ⟨dX2_leastWith_16, rfl⟩ ?_
  refine G_iload_5 (nx := 19) ⟨dX2_leastWith_17, rfl⟩ ?_
  refine G_cv3 (nx := 22) ⟨dX2_leastWith_19, rfl⟩ kX2_57 rfl hH.1 rfl (Nat.le_of_ble_eq_true rfl) (Nat.le_of_ble_eq_true rfl) (cH_most hH hk12 hko hR h2 h4 (fun I1 hs1 => ?_))
  refine G_iadd (nx := 23) ⟨dX2_leastWith_22, rfl⟩ ?_
  rw [nI_add]
  refine G_iret ⟨dX2_leastWith_23, rfl⟩ rfl ?_
  exact hk I1 hs1

end X71
