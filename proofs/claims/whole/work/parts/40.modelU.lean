
def tmI (m : Nat) (v : Int32) (k : Nat) (_ : Nat) (s : Int32 × Nat) : Int32 × Nat := (zn s.1 (dlN s.1 v m).1, s.2 + (if leN m (dlN s.1 v m).2 ≤ k then 1 else 0))
theorem tmI_le (m : Nat) (v : Int32) (k : Nat) (z : Int32) : ∀ i, (lp (tmI m v k) i (z, 0)).2 ≤ i
  | 0 => Nat.le_refl _
  | i + 1 => by
    have := tmI_le m v k z i
    rw [lp_s]
    show (lp (tmI m v k) i (z, 0)).2 + (if _ then 1 else 0) ≤ i + 1
    split <;> omega
theorem leN_le (n : Nat) (gr : Nat → Nat) : leN n gr ≤ n := leF_le n gr _
section M40
variable {l : Launch} {d : Nat} {K : AK} {I : AI} {J : AJ} {g : Bool} {n : Nat} {gr : Nat → Nat}

theorem lM_times {z v : Int32} {t0 m k0 : Nat} (hm : m ≤ 12) (ht : t0 ≤ 20) (hk0 : k0 ≤ 12) (hgo : ∀ (I' : AI), sb fB I I' → G l (d + 3) mX12_times K 95 [.ref 75, .int (nI t0), .int (nI m), .int v, .int (nI k0), .int (nI (lp (tmI m v k0) t0 (z, 0)).2), .int (nI t0)] [] I' J (rX g)) : ∀ (k i : Nat) (I1 : AI), t0 - i = k → i ≤ t0 → I1 75 1 = (lp (tmI m v k0) i (z, 0)).1 → sb fB I I1 → G l (d + 3) mX12_times K 58 [.ref 75, .int (nI t0), .int (nI m), .int v, .int (nI k0), .int (nI (lp (tmI m v k0) i (z, 0)).2), .int (nI i)] [] I1 J (rX g) := by
  intro k
  induction k using Nat.strongRecOn with
  | _ k ih =>
  intro i I1 hik hi ez hs1
  have hle := tmI_le m v k0 z i
  refine G_iload_6 (nx := 60) ⟨dX12_times_58, rfl⟩ ?_
  refine G_iload_1 (nx := 61) ⟨dX12_times_60, rfl⟩ ?_
  refine G_icmpge (tgt := 95) (nx := 64) ⟨dX12_times_61, rfl⟩ rfl (fun c_61 => ?_) (fun c_61 => ?_)
  · rw [nI_le_iff (by omega) (by omega)] at c_61
    have e : i = t0 := by omega
    subst e
    exact hgo I1 hs1
  · rw [nI_le_iff (by omega) (by omega)] at c_61
    refine G_aload_0 (nx := 65) ⟨dX12_times_64, rfl⟩ ?_
    refine G_iload_2 (nx := 66) ⟨dX12_times_65, rfl⟩ ?_
    refine G_iload_3 (nx := 67) ⟨dX12_times_66, rfl⟩ ?_
    refine G_cvv2 (nx := 70) ⟨dX12_times_67, rfl⟩ kX12_336 rfl q_75 rfl (Nat.le_of_ble_eq_true rfl) (Nat.le_of_ble_eq_true rfl) (cM_deals hm ez (fun I2 hG2 ez2 hD2 hs2 => ?_))
    refine G_iload_5 (nx := 72) ⟨dX12_times_70, rfl⟩ ?_
    refine G_aload_0 (nx := 73) ⟨dX12_times_72, rfl⟩ ?_
    refine G_cv0 (nx := 76) ⟨dX12_times_73, rfl⟩ kX12_180 rfl q_75 rfl (Nat.le_of_ble_eq_true rfl) (Nat.le_of_ble_eq_true rfl) (cM_least hG2 ?_)
    refine G_iload_4 (nx := 78) ⟨dX12_times_76, rfl⟩ ?_
    refine G_icmpgt (tgt := 85) (nx := 81) ⟨dX12_times_78, rfl⟩ rfl (fun c_78 => ?_) (fun c_78 => ?_)
    · refine G_iconst (nx := 86) ⟨dX12_times_85, rfl⟩ ci_0 ?_
      
      refine G_iadd (nx := 87) ⟨dX12_times_86, rfl⟩ ?_
      refine G_istore_5 (nx := 89) ⟨dX12_times_87, rfl⟩ rfl rfl ?_
      refine G_iinc_6 (nx := 92) ⟨dX12_times_89, rfl⟩ ci_1 rfl ?_
      refine G_goto (tgt := 58) ⟨dX12_times_92, rfl⟩ rfl ?_
      rw [nI_lt_iff (by omega) (by have := leN_le m (dlN (lp (tmI m v k0) i (z, 0)).1 v m).2; omega)] at c_78
      have est : tmI m v k0 i (lp (tmI m v k0) i (z, 0)) = (zn (lp (tmI m v k0) i (z, 0)).1 (dlN (lp (tmI m v k0) i (z, 0)).1 v m).1, (lp (tmI m v k0) i (z, 0)).2 + 0) := by
        rw [tmI, if_neg (by omega)]
      refine G_L (by rw [lp_s, est]; simp only [nI_1, Int32.add_zero, Nat.add_zero]) (ih (t0 - (i + 1)) (by omega) (i + 1) I2 rfl (by omega) (by rw [lp_s, est]; exact ez2) (hs1.tr hs2))
    · refine G_iconst (nx := 82) ⟨dX12_times_81, rfl⟩ ci_1 ?_
      refine G_goto (tgt := 86) ⟨dX12_times_82, rfl⟩ rfl ?_
      
      refine G_iadd (nx := 87) ⟨dX12_times_86, rfl⟩ ?_
      refine G_istore_5 (nx := 89) ⟨dX12_times_87, rfl⟩ rfl rfl ?_
      refine G_iinc_6 (nx := 92) ⟨dX12_times_89, rfl⟩ ci_1 rfl ?_
      refine G_goto (tgt := 58) ⟨dX12_times_92, rfl⟩ rfl ?_
      rw [nI_lt_iff (by omega) (by have := leN_le m (dlN (lp (tmI m v k0) i (z, 0)).1 v m).2; omega)] at c_78
      have est : tmI m v k0 i (lp (tmI m v k0) i (z, 0)) = (zn (lp (tmI m v k0) i (z, 0)).1 (dlN (lp (tmI m v k0) i (z, 0)).1 v m).1, (lp (tmI m v k0) i (z, 0)).2 + 1) := by
        rw [tmI, if_pos (by omega)]
      refine G_L (by rw [lp_s, est]; simp only [nI_1, Int32.add_zero, Nat.add_zero]) (ih (t0 - (i + 1)) (by omega) (i + 1) I2 rfl (by omega) (by rw [lp_s, est]; exact ez2) (hs1.tr hs2))

theorem cM_times {z a b v c : Int32} (hz : I 75 1 = z) (hk1 : (inR a 1 20 && inR b 0 12 && inR v 0 10 && inR c 0 12) = false → K (.int (-2)) I J (rX g)) (hk : ∀ (t0 m k0 : Nat) (I' : AI), a = nI t0 → 1 ≤ t0 → t0 ≤ 20 → b = nI m → m ≤ 12 → inR v 0 10 = true → c = nI k0 → k0 ≤ 12 → I' 75 0 = I 75 0 → I' 75 1 = I 75 1 → (∀ j, j < 12 → I' 76 j = I 76 j ∧ I' 77 j = I 77 j ∧ I' 78 j = I 78 j) → sb (fun a b => fB a b || a == 101) I I' → K (.int (nI (lp (tmI m v k0) t0 (z, 0)).2)) I' J (rX g)) : G l (d + 4) mX12_times K 0 [.ref 75, .int a, .int b, .int v, .int c, UU, UU] [] I J (rX g) := by
  refine G_iload_1 (nx := 1) ⟨dX12_times_0, rfl⟩ ?_
  refine G_iconst (nx := 2) ⟨dX12_times_1, rfl⟩ ci_1 ?_
  refine G_bipush (nx := 4) ⟨dX12_times_2, rfl⟩ cb_20 ?_
  refine G_cs3 (nx := 7) ⟨dX12_times_4, rfl⟩ kX12_125 rfl rfl (Nat.le_of_ble_eq_true rfl) (Nat.le_of_ble_eq_true rfl) (cM_in ?_)
  refine G_ifeq (tgt := 41) (nx := 10) ⟨dX12_times_7, rfl⟩ rfl (fun c_7 => ?_) (fun c_7 => ?_)
  · refine G_bipush (nx := 43) ⟨dX12_times_41, rfl⟩ cb_m2 ?_
    refine G_iret ⟨dX12_times_43, rfl⟩ rfl ?_
    rw [bi_0] at c_7
    exact hk1 (by simp [c_7])
  · refine G_iload_2 (nx := 11) ⟨dX12_times_10, rfl⟩ ?_
    refine G_iconst (nx := 12) ⟨dX12_times_11, rfl⟩ ci_0 ?_
    refine G_bipush (nx := 14) ⟨dX12_times_12, rfl⟩ cb_12 ?_
    refine G_cs3 (nx := 17) ⟨dX12_times_14, rfl⟩ kX12_125 rfl rfl (Nat.le_of_ble_eq_true rfl) (Nat.le_of_ble_eq_true rfl) (cM_in ?_)
    refine G_ifeq (tgt := 41) (nx := 20) ⟨dX12_times_17, rfl⟩ rfl (fun c_17 => ?_) (fun c_17 => ?_)
    · refine G_bipush (nx := 43) ⟨dX12_times_41, rfl⟩ cb_m2 ?_
      refine G_iret ⟨dX12_times_43, rfl⟩ rfl ?_
      rw [bi_0] at c_17
      exact hk1 (by simp [c_17])
    · refine G_iload_3 (nx := 21) ⟨dX12_times_20, rfl⟩ ?_
      refine G_iconst (nx := 22) ⟨dX12_times_21, rfl⟩ ci_0 ?_
      refine G_bipush (nx := 24) ⟨dX12_times_22, rfl⟩ cb_10 ?_
      refine G_cs3 (nx := 27) ⟨dX12_times_24, rfl⟩ kX12_125 rfl rfl (Nat.le_of_ble_eq_true rfl) (Nat.le_of_ble_eq_true rfl) (cM_in ?_)
      refine G_ifeq (tgt := 41) (nx := 30) ⟨dX12_times_27, rfl⟩ rfl (fun c_27 => ?_) (fun c_27 => ?_)
      · refine G_bipush (nx := 43) ⟨dX12_times_41, rfl⟩ cb_m2 ?_
        refine G_iret ⟨dX12_times_43, rfl⟩ rfl ?_
        rw [bi_0] at c_27
        exact hk1 (by simp [c_27])
      · refine G_iload_4 (nx := 32) ⟨dX12_times_30, rfl⟩ ?_
        refine G_iconst (nx := 33) ⟨dX12_times_32, rfl⟩ ci_0 ?_
        refine G_bipush (nx := 35) ⟨dX12_times_33, rfl⟩ cb_12 ?_
        refine G_cs3 (nx := 38) ⟨dX12_times_35, rfl⟩ kX12_125 rfl rfl (Nat.le_of_ble_eq_true rfl) (Nat.le_of_ble_eq_true rfl) (cM_in ?_)
        refine G_ifne (tgt := 44) (nx := 41) ⟨dX12_times_38, rfl⟩ rfl (fun c_38 => ?_) (fun c_38 => ?_)
        · rw [bi_n0] at c_7
          rw [bi_n0] at c_17
          rw [bi_n0] at c_27
          rw [bi_n0] at c_38
          obtain ⟨t0, ht1, ht20, et⟩ := nI_ex (a := 1) (b := 20) (by omega) c_7 (by omega)
          subst et
          obtain ⟨m, hm, em⟩ := k_ex c_17
          subst em
          obtain ⟨k0, hk0, ek⟩ := k_ex c_38
          subst ek
          refine G_aload_0 (nx := 45) ⟨dX12_times_44, rfl⟩ ?_
          refine G_aload_0 (nx := 46) ⟨dX12_times_45, rfl⟩ ?_
          refine G_getr (nx := 49) (k := 75) (r := 101) ⟨dX12_times_46, rfl⟩ fX12_91 q_75 yr_12_40 (r_75_40 _) ?_
          refine G_cvv1 (nx := 52) ⟨dX12_times_49, rfl⟩ kX12_339 rfl q_75 rfl (Nat.le_of_ble_eq_true rfl) (Nat.le_of_ble_eq_true rfl) (cM_keeps101 (fun I1 hK1 hr1 => ?_))
          refine G_iconst (nx := 53) ⟨dX12_times_52, rfl⟩ ci_0 ?_
          refine G_istore_5 (nx := 55) ⟨dX12_times_53, rfl⟩ rfl rfl ?_
          refine G_iconst (nx := 56) ⟨dX12_times_55, rfl⟩ ci_0 ?_
          refine G_istore_6 (nx := 58) ⟨dX12_times_56, rfl⟩ rfl rfl ?_
          refine G_L (by rw [← nI_0]; rfl) (lM_times (I := I1) (d := d + 1) (z := z) hm ht20 hk0 (fun I2 hs2 => ?_) _ 0 I1 rfl (by omega) (by rw [hr1 75 (by decide)]; exact hz) sb.rf)
          refine G_aload_0 (nx := 96) ⟨dX12_times_95, rfl⟩ ?_
          refine G_aload_0 (nx := 97) ⟨dX12_times_96, rfl⟩ ?_
          refine G_getr (nx := 100) (k := 75) (r := 101) ⟨dX12_times_97, rfl⟩ fX12_91 q_75 yr_12_40 (r_75_40 _) ?_
          refine G_cvv1 (nx := 103) ⟨dX12_times_100, rfl⟩ kX12_343 rfl q_75 rfl (Nat.le_of_ble_eq_true rfl) (Nat.le_of_ble_eq_true rfl) (cM_putsBack101 (fun I3 hP3 hs3 => ?_))
          refine G_iload_5 (nx := 105) ⟨dX12_times_103, rfl⟩ ?_
          refine G_iret ⟨dX12_times_105, rfl⟩ rfl ?_
          have h101 : ∀ b, I2 101 b = I1 101 b := fun b => hs2 101 b rfl
          refine hk t0 m k0 I3 rfl ht1 ht20 rfl hm c_27 rfl hk0 ?_ ?_ (fun j hj => ⟨?_, ?_, ?_⟩) (fun a b hf => ?_)
          · rw [hP3.1, h101, hK1.1]
          · rw [hP3.2.1, h101, hK1.2.1]
          · rw [(hP3.2.2 j hj).1, h101, (hK1.2.2 j hj).1]
          · rw [(hP3.2.2 j hj).2.1, h101, (hK1.2.2 j hj).2.1]
          · rw [(hP3.2.2 j hj).2.2, h101, (hK1.2.2 j hj).2.2]
          · simp only [Bool.or_eq_false_iff, beq_eq_false_iff_ne] at hf
            rw [hs3 a b hf.1, hs2 a b hf.1, hr1 a hf.2]
          
        · refine G_bipush (nx := 43) ⟨dX12_times_41, rfl⟩ cb_m2 ?_
          refine G_iret ⟨dX12_times_43, rfl⟩ rfl ?_
          rw [bi_0] at c_38
          exact hk1 (by simp [c_38])

end M40
