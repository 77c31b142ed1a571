
/-- the length of a word whose last signs may be 0 -/
def wdL (b3 b4 b5 : Int32) : Nat := if b3 = 0 then 3 else if b4 = 0 then 4 else if b5 = 0 then 5 else 6
def wdB (tp : Nat → Int32) (p q : Nat) (b0 b1 b2 b3 b4 b5 : Int32) : Bool := decide (q - p = wdL b3 b4 b5 ∧ tp p = b0 ∧ tp (p + 1) = b1 ∧ tp (p + 2) = b2 ∧ (4 ≤ wdL b3 b4 b5 → tp (p + 3) = b3) ∧ (5 ≤ wdL b3 b4 b5 → tp (p + 4) = b4) ∧ (6 ≤ wdL b3 b4 b5 → tp (p + 5) = b5))
/-- the heap when i bytes of v's k have come behind the tape's t -/
def fdI (I : AI) (v : Int32) (t k : Nat) : Nat → AI
  | 0 => I
  | i + 1 => w2 (w2 (fdI I v t k i) 88 (t + i) ((v >>> (nI (8 * (k - 1 - i)) &&& 31)) &&& 255)) 75 25 (nI (t + i + 1))
theorem nI_mul (a b : Nat) : nI a * nI b = nI (a * b) := by
  unfold nI
  rw [Int32.ofNat_mul]
theorem nI_sub {a b : Nat} (h : b ≤ a) : nI a - nI b = nI (a - b) := by
  have e : nI a = nI (a - b) + nI b := by rw [nI_add]; congr 1; omega
  rw [e, Int32.sub_eq_add_neg, Int32.add_assoc, Int32.add_right_neg, Int32.add_zero]
theorem in200 {p : Nat} (h : p < 200) : vp_in (nI p) 200 := vp_in_nI h (by decide)
section M33R
variable {l : Launch} {d pc nx : Nat} {mi : MI} {K : AK} {L S : List Value} {I : AI} {J : AJ} {R : AR}
theorem G_cv8 {idx o ci : Nat} {mj : MI} {a1 a2 a3 a4 a5 a6 a7 a8 : Value} (hd : D mi.2.1 pc (.invokevirtual idx) 3 nx) (ho : okV mi.1.cls idx mj ci 8) (hv : mj.2.2.2.isNone = false) (hO : isO o ci) (ha : ([a1, a2, a3, a4, a5, a6, a7, a8] : List Value).all notL = true) (hw : (S.map fun v => v.category).sum ≤ 8) (hn : 8 + 1 ≤ mj.2.2.1) (k : G l d mj (fun v I J R => G l (d + 1) mi K nx L (v :: S) I J R) 0 (.ref o :: a1 :: a2 :: a3 :: a4 :: a5 :: a6 :: a7 :: a8 :: List.replicate (mj.2.2.1 - 9) UU) [] I J R) : G l (d + 1) mi K pc L (a8 :: a7 :: a6 :: a5 :: a4 :: a3 :: a2 :: a1 :: .ref o :: S) I J R := G_callV (As := [a1, a2, a3, a4, a5, a6, a7, a8]) hd ho hv hO ha hw hn k
end M33R
section M33
variable {l : Launch} {d : Nat} {K : AK} {I : AI} {J : AJ} {g : Bool} {n : Nat} {gr : Nat → Nat}

theorem cM_point {k v : Int32} (hG : MG I n gr) (hk1 : (inR k 0 5 && inR v 1 9) = false → K (.int (-2)) I J (rX g)) (hk2 : inR k 0 5 = true → inR v 1 9 = true → n = 12 → K (.int (-4)) I J (rX g)) (hk : inR k 0 5 = true → inR v 1 9 = true → n < 12 → K (.int (nI n)) (w2 (w2 (w2 (w2 I 76 n k) 77 n v) 78 n 0) 75 0 (nI (n + 1))) J (rX g)) : G l (d + 2) mX12_point K 0 [.ref 75, .int k, .int v] [] I J (rX g) := by
  have hn := hG.2.1
  have e0 := hG.1
  refine G_iload_1 (nx := 1) ⟨dX12_point_0, rfl⟩ ?_
  refine G_iconst (nx := 2) ⟨dX12_point_1, rfl⟩ ci_0 ?_
  refine G_iconst (nx := 3) ⟨dX12_point_2, rfl⟩ ci_5 ?_
  refine G_cs3 (nx := 6) ⟨dX12_point_3, rfl⟩ kX12_125 rfl rfl (Nat.le_of_ble_eq_true rfl) (Nat.le_of_ble_eq_true rfl) (cM_in ?_)
  refine G_ifeq (tgt := 19) (nx := 9) ⟨dX12_point_6, rfl⟩ rfl (fun c_6 => ?_) (fun c_6 => ?_)
  · refine G_bipush (nx := 21) ⟨dX12_point_19, rfl⟩ cb_m2 ?_
    refine G_iret ⟨dX12_point_21, rfl⟩ rfl ?_
    rw [bi_0] at c_6
    exact hk1 (by simp [c_6])
  · rw [bi_n0] at c_6
    refine G_iload_2 (nx := 10) ⟨dX12_point_9, rfl⟩ ?_
    refine G_iconst (nx := 11) ⟨dX12_point_10, rfl⟩ ci_1 ?_
    refine G_bipush (nx := 13) ⟨dX12_point_11, rfl⟩ cb_9 ?_
    refine G_cs3 (nx := 16) ⟨dX12_point_13, rfl⟩ kX12_125 rfl rfl (Nat.le_of_ble_eq_true rfl) (Nat.le_of_ble_eq_true rfl) (cM_in ?_)
    refine G_ifne (tgt := 22) (nx := 19) ⟨dX12_point_16, rfl⟩ rfl (fun c_16 => ?_) (fun c_16 => ?_)
    · rw [bi_n0] at c_16
      refine G_aload_0 (nx := 23) ⟨dX12_point_22, rfl⟩ ?_
      refine G_geti (nx := 26) (k := 75) ⟨dX12_point_23, rfl⟩ fX12_122 q_75 yi_12_0 ?_
      refine G_bipush (nx := 28) ⟨dX12_point_26, rfl⟩ cb_12 ?_
      rw [e0, show (12 : Int32) = nI 12 by decide]
      refine G_icmpne (tgt := 34) (nx := 31) ⟨dX12_point_28, rfl⟩ rfl (fun c_28 => ?_) (fun c_28 => ?_)
      · rw [nI_eq (by omega) (by omega)] at c_28
        refine G_aload_0 (nx := 35) ⟨dX12_point_34, rfl⟩ ?_
        refine G_iload_1 (nx := 36) ⟨dX12_point_35, rfl⟩ ?_
        refine G_iload_2 (nx := 37) ⟨dX12_point_36, rfl⟩ ?_
        refine G_cvv2 (nx := 40) ⟨dX12_point_37, rfl⟩ kX12_141 rfl q_75 rfl (Nat.le_of_ble_eq_true rfl) (Nat.le_of_ble_eq_true rfl) (cM_comes e0 (by omega) ?_)
        refine G_aload_0 (nx := 41) ⟨dX12_point_40, rfl⟩ ?_
        refine G_geti (nx := 44) (k := 75) ⟨dX12_point_41, rfl⟩ fX12_122 q_75 yi_12_0 ?_
        rw [w2_at]
        refine G_iconst (nx := 45) ⟨dX12_point_44, rfl⟩ ci_1 ?_
        refine G_isub (nx := 46) ⟨dX12_point_45, rfl⟩ ?_
        refine G_iret ⟨dX12_point_46, rfl⟩ rfl ?_
        refine K_v (congrArg Value.int ?_) (hk c_6 c_16 (by omega))
        rw [show (1 : Int32) = nI 1 by decide, nI_sub (by omega)]
        rfl
      · refine G_bipush (nx := 33) ⟨dX12_point_31, rfl⟩ cb_m4 ?_
        refine G_iret ⟨dX12_point_33, rfl⟩ rfl ?_
        rw [nI_eq (by omega) (by omega)] at c_28
        exact hk2 c_6 c_16 c_28
    · refine G_bipush (nx := 21) ⟨dX12_point_19, rfl⟩ cb_m2 ?_
      refine G_iret ⟨dX12_point_21, rfl⟩ rfl ?_
      rw [bi_0] at c_16
      exact hk1 (by simp [c_16])

theorem cM_line {a b q : Int32} (hG : MG I n gr) (hk1 : (ptB n a && ptB n b && !decide (a = b) && inR q 0 1) = false → K (.int (-2)) I J (rX g)) (hk : ∀ (a0 b0 on : Nat), a = nI a0 → b = nI b0 → q = nI on → a0 < n → b0 < n → ¬ a0 = b0 → on ≤ 1 → K (.int (bi ((gr a0).testBit b0))) (w2 (w2 I 78 a0 (nI (setb (gr a0) b0 on))) 78 b0 (nI (setb (gr b0) a0 on))) J (rX g)) : G l (d + 3) mX12_line K 0 [.ref 75, .int a, .int b, .int q, UU] [] I J (rX g) := by
  have hn := hG.2.1
  refine G_aload_0 (nx := 1) ⟨dX12_line_0, rfl⟩ ?_
  refine G_iload_1 (nx := 2) ⟨dX12_line_1, rfl⟩ ?_
  refine G_iload_2 (nx := 3) ⟨dX12_line_2, rfl⟩ ?_
  refine G_cv2 (nx := 6) ⟨dX12_line_3, rfl⟩ kX12_149 rfl q_75 rfl (Nat.le_of_ble_eq_true rfl) (Nat.le_of_ble_eq_true rfl) (cM_areTwo hG ?_)
  refine G_ifeq (tgt := 18) (nx := 9) ⟨dX12_line_6, rfl⟩ rfl (fun c_6 => ?_) (fun c_6 => ?_)
  · refine G_bipush (nx := 20) ⟨dX12_line_18, rfl⟩ cb_m2 ?_
    refine G_iret ⟨dX12_line_20, rfl⟩ rfl ?_
    rw [bi_0] at c_6
    exact hk1 (by simp [c_6])
  · rw [bi_n0] at c_6
    have h0 := c_6
    rw [Bool.and_eq_true, Bool.and_eq_true] at h0
    obtain ⟨a0, ha0, ea⟩ := ptB_ex (by omega) h0.1.1
    subst ea
    obtain ⟨b0, hb0, eb⟩ := ptB_ex (by omega) h0.1.2
    subst eb
    have hab : ¬ a0 = b0 := fun e => by rw [e] at h0; simp at h0
    have h12 := in12 ha0 hn
    refine G_iload_3 (nx := 10) ⟨dX12_line_9, rfl⟩ ?_
    refine G_iconst (nx := 11) ⟨dX12_line_10, rfl⟩ ci_0 ?_
    refine G_iconst (nx := 12) ⟨dX12_line_11, rfl⟩ ci_1 ?_
    refine G_cs3 (nx := 15) ⟨dX12_line_12, rfl⟩ kX12_125 rfl rfl (Nat.le_of_ble_eq_true rfl) (Nat.le_of_ble_eq_true rfl) (cM_in ?_)
    refine G_ifne (tgt := 21) (nx := 18) ⟨dX12_line_15, rfl⟩ rfl (fun c_15 => ?_) (fun c_15 => ?_)
    · rw [bi_n0] at c_15
      obtain ⟨on, hon, eq⟩ : ∃ on, on ≤ 1 ∧ q = nI on := by
        rcases inR01 c_15 with h | h
        · exact ⟨0, by omega, by rw [h, nI_0]⟩
        · exact ⟨1, by omega, by rw [h, show (1 : Int32) = nI 1 by decide]⟩
      subst eq
      refine G_aload_0 (nx := 22) ⟨dX12_line_21, rfl⟩ ?_
      refine G_getr (nx := 25) (k := 75) (r := 78) ⟨dX12_line_22, rfl⟩ fX12_20 q_75 yr_12_4 (r_75_4 _) ?_
      refine G_iload_1 (nx := 26) ⟨dX12_line_25, rfl⟩ ?_
      refine G_iald (nx := 27) (k := 78) ⟨dX12_line_26, rfl⟩ q_78 (by first | assumption | decide | (unfold vp_in; decide)) ?_
      rw [hG.row ha0]
      refine G_iload_2 (nx := 28) ⟨dX12_line_27, rfl⟩ ?_
      refine G_ishr (nx := 29) ⟨dX12_line_28, rfl⟩ ?_
      refine G_iconst (nx := 30) ⟨dX12_line_29, rfl⟩ ci_1 ?_
      refine G_iand (nx := 31) ⟨dX12_line_30, rfl⟩ ?_
      rw [bit_nI (lt31 (hG.lt ha0)) (by omega)]
      refine G_istore_4 (nx := 33) ⟨dX12_line_31, rfl⟩ rfl rfl ?_
      refine G_aload_0 (nx := 34) ⟨dX12_line_33, rfl⟩ ?_
      refine G_iload_1 (nx := 35) ⟨dX12_line_34, rfl⟩ ?_
      refine G_iload_2 (nx := 36) ⟨dX12_line_35, rfl⟩ ?_
      refine G_iload_3 (nx := 37) ⟨dX12_line_36, rfl⟩ ?_
      refine G_cvv3 (nx := 40) ⟨dX12_line_37, rfl⟩ kX12_152 rfl q_75 rfl (Nat.le_of_ble_eq_true rfl) (Nat.le_of_ble_eq_true rfl) (cM_lays hG ha0 hb0 hab hon ?_)
      refine G_iload_4 (nx := 42) ⟨dX12_line_40, rfl⟩ ?_
      refine G_iret ⟨dX12_line_42, rfl⟩ rfl ?_
      exact hk a0 b0 on rfl rfl rfl ha0 hb0 hab hon
    · refine G_bipush (nx := 20) ⟨dX12_line_18, rfl⟩ cb_m2 ?_
      refine G_iret ⟨dX12_line_20, rfl⟩ rfl ?_
      rw [bi_0] at c_15
      exact hk1 (by simp [c_15])

theorem cM_pointOf {p q : Int32} (hG : MG I n gr) (hk1 : ptB n p = false → K (.int (-2)) I J (rX g)) (hk : ∀ p0, p0 < n → p = nI p0 → K (.int (if q = 0 then I 76 p0 else if q = 1 then I 77 p0 else if q = 2 then cst (I 76 p0) (I 77 p0) (nI (pc (gr p0))) (nI p0) else if q = 3 then nI (gr p0) else if q = 4 then nI (pc (gr p0)) else -2)) I J (rX g)) : G l (d + 2) mX12_pointOf K 0 [.ref 75, .int p, .int q] [] I J (rX g) := by
  have hn := hG.2.1
  refine G_aload_0 (nx := 1) ⟨dX12_pointOf_0, rfl⟩ ?_
  refine G_iload_1 (nx := 2) ⟨dX12_pointOf_1, rfl⟩ ?_
  refine G_cv1 (nx := 5) ⟨dX12_pointOf_2, rfl⟩ kX12_145 rfl q_75 rfl (Nat.le_of_ble_eq_true rfl) (Nat.le_of_ble_eq_true rfl) (cM_isPoint hG ?_)
  refine G_ifne (tgt := 11) (nx := 8) ⟨dX12_pointOf_5, rfl⟩ rfl (fun c_5 => ?_) (fun c_5 => ?_)
  · rw [bi_n0] at c_5
    obtain ⟨p0, hp, ep⟩ := ptB_ex (by omega) c_5
    subst ep
    have h12 := in12 hp hn
    have ec := cl_nI (p := p0) (by omega)
    refine G_iload_2 (nx := 12) ⟨dX12_pointOf_11, rfl⟩ ?_
    rcases sw_0_4 _ with c_12 | c_12 | c_12 | c_12 | c_12 | c_12
    · refine G_tabAt (v := 0) (tgt := 48) (nx := 48) ⟨dX12_pointOf_12, rfl⟩ c_12 (by decide) (by decide) (off := 36) rfl rfl ?_
      refine G_aload_0 (nx := 49) ⟨dX12_pointOf_48, rfl⟩ ?_
      refine G_getr (nx := 52) (k := 75) (r := 76) ⟨dX12_pointOf_49, rfl⟩ fX12_13 q_75 yr_12_2 (r_75_2 _) ?_
      refine G_iload_1 (nx := 53) ⟨dX12_pointOf_52, rfl⟩ ?_
      refine G_iald (nx := 54) (k := 76) ⟨dX12_pointOf_53, rfl⟩ q_76 (by first | assumption | decide | (unfold vp_in; decide)) ?_
      rw [ec]
      refine G_iret ⟨dX12_pointOf_54, rfl⟩ rfl ?_
      exact K_v (congrArg Value.int (by simp [c_12])) (hk p0 hp rfl)
    · refine G_tabAt (v := 1) (tgt := 55) (nx := 48) ⟨dX12_pointOf_12, rfl⟩ c_12 (by decide) (by decide) (off := 43) rfl rfl ?_
      refine G_aload_0 (nx := 56) ⟨dX12_pointOf_55, rfl⟩ ?_
      refine G_getr (nx := 59) (k := 75) (r := 77) ⟨dX12_pointOf_56, rfl⟩ fX12_17 q_75 yr_12_3 (r_75_3 _) ?_
      refine G_iload_1 (nx := 60) ⟨dX12_pointOf_59, rfl⟩ ?_
      refine G_iald (nx := 61) (k := 77) ⟨dX12_pointOf_60, rfl⟩ q_77 (by first | assumption | decide | (unfold vp_in; decide)) ?_
      rw [ec]
      refine G_iret ⟨dX12_pointOf_61, rfl⟩ rfl ?_
      exact K_v (congrArg Value.int (by simp [c_12])) (hk p0 hp rfl)
    · refine G_tabAt (v := 2) (tgt := 62) (nx := 48) ⟨dX12_pointOf_12, rfl⟩ c_12 (by decide) (by decide) (off := 50) rfl rfl ?_
      refine G_aload_0 (nx := 63) ⟨dX12_pointOf_62, rfl⟩ ?_
      refine G_iload_1 (nx := 64) ⟨dX12_pointOf_63, rfl⟩ ?_
      refine G_cv1 (nx := 67) ⟨dX12_pointOf_64, rfl⟩ kX12_156 rfl q_75 rfl (Nat.le_of_ble_eq_true rfl) (Nat.le_of_ble_eq_true rfl) (cM_costAt hG hp ?_)
      refine G_iret ⟨dX12_pointOf_67, rfl⟩ rfl ?_
      exact K_v (congrArg Value.int (by simp [c_12])) (hk p0 hp rfl)
    · refine G_tabAt (v := 3) (tgt := 68) (nx := 48) ⟨dX12_pointOf_12, rfl⟩ c_12 (by decide) (by decide) (off := 56) rfl rfl ?_
      refine G_aload_0 (nx := 69) ⟨dX12_pointOf_68, rfl⟩ ?_
      refine G_getr (nx := 72) (k := 75) (r := 78) ⟨dX12_pointOf_69, rfl⟩ fX12_20 q_75 yr_12_4 (r_75_4 _) ?_
      refine G_iload_1 (nx := 73) ⟨dX12_pointOf_72, rfl⟩ ?_
      refine G_iald (nx := 74) (k := 78) ⟨dX12_pointOf_73, rfl⟩ q_78 (by first | assumption | decide | (unfold vp_in; decide)) ?_
      rw [hG.row hp]
      refine G_iret ⟨dX12_pointOf_74, rfl⟩ rfl ?_
      exact K_v (congrArg Value.int (by simp [c_12])) (hk p0 hp rfl)
    · refine G_tabAt (v := 4) (tgt := 75) (nx := 48) ⟨dX12_pointOf_12, rfl⟩ c_12 (by decide) (by decide) (off := 63) rfl rfl ?_
      refine G_aload_0 (nx := 76) ⟨dX12_pointOf_75, rfl⟩ ?_
      refine G_getr (nx := 79) (k := 75) (r := 78) ⟨dX12_pointOf_76, rfl⟩ fX12_20 q_75 yr_12_4 (r_75_4 _) ?_
      refine G_iload_1 (nx := 80) ⟨dX12_pointOf_79, rfl⟩ ?_
      refine G_iald (nx := 81) (k := 78) ⟨dX12_pointOf_80, rfl⟩ q_78 (by first | assumption | decide | (unfold vp_in; decide)) ?_
      rw [hG.row hp]
      refine G_cs1 (nx := 84) ⟨dX12_pointOf_81, rfl⟩ kX12_133 rfl rfl (Nat.le_of_ble_eq_true rfl) (Nat.le_of_ble_eq_true rfl) (cM_bits (hG.lt hp) ?_)
      refine G_iret ⟨dX12_pointOf_84, rfl⟩ rfl ?_
      exact K_v (congrArg Value.int (by simp [c_12])) (hk p0 hp rfl)
    · refine G_tabOut (tgt := 85) (nx := 48) ⟨dX12_pointOf_12, rfl⟩ c_12 rfl ?_
      refine G_bipush (nx := 87) ⟨dX12_pointOf_85, rfl⟩ cb_m2 ?_
      refine G_iret ⟨dX12_pointOf_87, rfl⟩ rfl ?_
      refine K_v (congrArg Value.int ?_) (hk p0 hp rfl)
      rw [if_neg (fun e => by rw [e] at c_12; revert c_12; decide), if_neg (fun e => by rw [e] at c_12; revert c_12; decide), if_neg (fun e => by rw [e] at c_12; revert c_12; decide), if_neg (fun e => by rw [e] at c_12; revert c_12; decide), if_neg (fun e => by rw [e] at c_12; revert c_12; decide)]
  · refine G_bipush (nx := 10) ⟨dX12_pointOf_8, rfl⟩ cb_m2 ?_
    refine G_iret ⟨dX12_pointOf_10, rfl⟩ rfl ?_
    rw [bi_0] at c_5
    exact hk1 c_5

theorem cM_change {p q v : Int32} (hG : MG I n gr) (hk1 : (ptB n p && inR q 0 1 && inR v q (if q = 0 then 5 else 9)) = false → K (.int (-2)) I J (rX g)) (hk2 : ∀ p0, p0 < n → p = nI p0 → q = 0 → inR v 0 5 = true → K (.int (I 76 p0)) (w2 I 76 p0 v) J (rX g)) (hk3 : ∀ p0, p0 < n → p = nI p0 → q = 1 → inR v 1 9 = true → K (.int (I 77 p0)) (w2 I 77 p0 v) J (rX g)) : G l (d + 2) mX12_change K 0 [.ref 75, .int p, .int q, .int v, UU] [] I J (rX g) := by
  have hn := hG.2.1
  refine G_aload_0 (nx := 1) ⟨dX12_change_0, rfl⟩ ?_
  refine G_iload_1 (nx := 2) ⟨dX12_change_1, rfl⟩ ?_
  refine G_cv1 (nx := 5) ⟨dX12_change_2, rfl⟩ kX12_145 rfl q_75 rfl (Nat.le_of_ble_eq_true rfl) (Nat.le_of_ble_eq_true rfl) (cM_isPoint hG ?_)
  refine G_ifeq (tgt := 35) (nx := 8) ⟨dX12_change_5, rfl⟩ rfl (fun c_5 => ?_) (fun c_5 => ?_)
  · refine G_bipush (nx := 37) ⟨dX12_change_35, rfl⟩ cb_m2 ?_
    refine G_iret ⟨dX12_change_37, rfl⟩ rfl ?_
    rw [bi_0] at c_5
    exact hk1 (by simp [c_5])
  · rw [bi_n0] at c_5
    obtain ⟨p0, hp, ep⟩ := ptB_ex (by omega) c_5
    subst ep
    have h12 := in12 hp hn
    have ec := cl_nI (p := p0) (by omega)
    refine G_iload_2 (nx := 9) ⟨dX12_change_8, rfl⟩ ?_
    refine G_iconst (nx := 10) ⟨dX12_change_9, rfl⟩ ci_0 ?_
    refine G_iconst (nx := 11) ⟨dX12_change_10, rfl⟩ ci_1 ?_
    refine G_cs3 (nx := 14) ⟨dX12_change_11, rfl⟩ kX12_125 rfl rfl (Nat.le_of_ble_eq_true rfl) (Nat.le_of_ble_eq_true rfl) (cM_in ?_)
    refine G_ifeq (tgt := 35) (nx := 17) ⟨dX12_change_14, rfl⟩ rfl (fun c_14 => ?_) (fun c_14 => ?_)
    · refine G_bipush (nx := 37) ⟨dX12_change_35, rfl⟩ cb_m2 ?_
      refine G_iret ⟨dX12_change_37, rfl⟩ rfl ?_
      rw [bi_0] at c_14
      exact hk1 (by simp [c_14])
    · rw [bi_n0] at c_14
      have hq1 : ¬ q = 0 → q = 1 := fun h => (inR01 c_14).resolve_left h
      refine G_iload_3 (nx := 18) ⟨dX12_change_17, rfl⟩ ?_
      refine G_iload_2 (nx := 19) ⟨dX12_change_18, rfl⟩ ?_
      refine G_iload_2 (nx := 20) ⟨dX12_change_19, rfl⟩ ?_
      refine G_ifne (tgt := 27) (nx := 23) ⟨dX12_change_20, rfl⟩ rfl (fun c_20 => ?_) (fun c_20 => ?_)
      · refine G_bipush (nx := 29) ⟨dX12_change_27, rfl⟩ cb_9 ?_
        refine G_cs3 (nx := 32) ⟨dX12_change_29, rfl⟩ kX12_125 rfl rfl (Nat.le_of_ble_eq_true rfl) (Nat.le_of_ble_eq_true rfl) (cM_in ?_)
        refine G_ifne (tgt := 38) (nx := 35) ⟨dX12_change_32, rfl⟩ rfl (fun c_32 => ?_) (fun c_32 => ?_)
        · rw [bi_n0] at c_32
          refine G_iload_2 (nx := 39) ⟨dX12_change_38, rfl⟩ ?_
          refine G_ifne (tgt := 51) (nx := 42) ⟨dX12_change_39, rfl⟩ rfl (fun c_39 => ?_) (fun c_39 => ?_)
          · refine G_aload_0 (nx := 52) ⟨dX12_change_51, rfl⟩ ?_
            refine G_getr (nx := 55) (k := 75) (r := 77) ⟨dX12_change_52, rfl⟩ fX12_17 q_75 yr_12_3 (r_75_3 _) ?_
            refine G_iload_1 (nx := 56) ⟨dX12_change_55, rfl⟩ ?_
            refine G_iald (nx := 57) (k := 77) ⟨dX12_change_56, rfl⟩ q_77 (by first | assumption | decide | (unfold vp_in; decide)) ?_
            refine G_istore_4 (nx := 59) ⟨dX12_change_57, rfl⟩ rfl rfl ?_
            refine G_iload_2 (nx := 60) ⟨dX12_change_59, rfl⟩ ?_
            refine G_ifne (tgt := 73) (nx := 63) ⟨dX12_change_60, rfl⟩ rfl (fun c_60 => ?_) (fun c_60 => ?_)
            · refine G_aload_0 (nx := 74) ⟨dX12_change_73, rfl⟩ ?_
              refine G_getr (nx := 77) (k := 75) (r := 77) ⟨dX12_change_74, rfl⟩ fX12_17 q_75 yr_12_3 (r_75_3 _) ?_
              refine G_iload_1 (nx := 78) ⟨dX12_change_77, rfl⟩ ?_
              refine G_iload_3 (nx := 79) ⟨dX12_change_78, rfl⟩ ?_
              refine G_iast (nx := 80) (k := 77) ⟨dX12_change_79, rfl⟩ q_77 (by first | assumption | decide | (unfold vp_in; decide)) ?_
              refine G_iload_4 (nx := 82) ⟨dX12_change_80, rfl⟩ ?_
              rw [ec]
              refine G_iret ⟨dX12_change_82, rfl⟩ rfl ?_
              exact hk3 p0 hp rfl (hq1 c_20) (by rw [← hq1 c_20]; exact c_32)
            · refine G_aload_0 (nx := 64) ⟨dX12_change_63, rfl⟩ ?_
              refine G_getr (nx := 67) (k := 75) (r := 76) ⟨dX12_change_64, rfl⟩ fX12_13 q_75 yr_12_2 (r_75_2 _) ?_
              refine G_iload_1 (nx := 68) ⟨dX12_change_67, rfl⟩ ?_
              refine G_iload_3 (nx := 69) ⟨dX12_change_68, rfl⟩ ?_
              refine G_iast (nx := 70) (k := 76) ⟨dX12_change_69, rfl⟩ q_76 (by first | assumption | decide | (unfold vp_in; decide)) ?_
              refine G_goto (tgt := 80) ⟨dX12_change_70, rfl⟩ rfl ?_
              refine G_iload_4 (nx := 82) ⟨dX12_change_80, rfl⟩ ?_
              rw [ec]
              refine G_iret ⟨dX12_change_82, rfl⟩ rfl ?_
              exact absurd c_60 c_20
          · refine G_aload_0 (nx := 43) ⟨dX12_change_42, rfl⟩ ?_
            refine G_getr (nx := 46) (k := 75) (r := 76) ⟨dX12_change_43, rfl⟩ fX12_13 q_75 yr_12_2 (r_75_2 _) ?_
            refine G_iload_1 (nx := 47) ⟨dX12_change_46, rfl⟩ ?_
            refine G_iald (nx := 48) (k := 76) ⟨dX12_change_47, rfl⟩ q_76 (by first | assumption | decide | (unfold vp_in; decide)) ?_
            refine G_goto (tgt := 57) ⟨dX12_change_48, rfl⟩ rfl ?_
            refine G_istore_4 (nx := 59) ⟨dX12_change_57, rfl⟩ rfl rfl ?_
            refine G_iload_2 (nx := 60) ⟨dX12_change_59, rfl⟩ ?_
            refine G_ifne (tgt := 73) (nx := 63) ⟨dX12_change_60, rfl⟩ rfl (fun c_60 => ?_) (fun c_60 => ?_)
            · refine G_aload_0 (nx := 74) ⟨dX12_change_73, rfl⟩ ?_
              refine G_getr (nx := 77) (k := 75) (r := 77) ⟨dX12_change_74, rfl⟩ fX12_17 q_75 yr_12_3 (r_75_3 _) ?_
              refine G_iload_1 (nx := 78) ⟨dX12_change_77, rfl⟩ ?_
              refine G_iload_3 (nx := 79) ⟨dX12_change_78, rfl⟩ ?_
              refine G_iast (nx := 80) (k := 77) ⟨dX12_change_79, rfl⟩ q_77 (by first | assumption | decide | (unfold vp_in; decide)) ?_
              refine G_iload_4 (nx := 82) ⟨dX12_change_80, rfl⟩ ?_
              rw [ec]
              refine G_iret ⟨dX12_change_82, rfl⟩ rfl ?_
              exact absurd c_39 c_20
            · refine G_aload_0 (nx := 64) ⟨dX12_change_63, rfl⟩ ?_
              refine G_getr (nx := 67) (k := 75) (r := 76) ⟨dX12_change_64, rfl⟩ fX12_13 q_75 yr_12_2 (r_75_2 _) ?_
              refine G_iload_1 (nx := 68) ⟨dX12_change_67, rfl⟩ ?_
              refine G_iload_3 (nx := 69) ⟨dX12_change_68, rfl⟩ ?_
              refine G_iast (nx := 70) (k := 76) ⟨dX12_change_69, rfl⟩ q_76 (by first | assumption | decide | (unfold vp_in; decide)) ?_
              refine G_goto (tgt := 80) ⟨dX12_change_70, rfl⟩ rfl ?_
              refine G_iload_4 (nx := 82) ⟨dX12_change_80, rfl⟩ ?_
              rw [ec]
              refine G_iret ⟨dX12_change_82, rfl⟩ rfl ?_
              exact absurd c_39 c_20
        · refine G_bipush (nx := 37) ⟨dX12_change_35, rfl⟩ cb_m2 ?_
          refine G_iret ⟨dX12_change_37, rfl⟩ rfl ?_
          rw [bi_0] at c_32
          exact hk1 (by rw [if_neg c_20, c_32, Bool.and_false])
      · refine G_iconst (nx := 24) ⟨dX12_change_23, rfl⟩ ci_5 ?_
        refine G_goto (tgt := 29) ⟨dX12_change_24, rfl⟩ rfl ?_
        refine G_cs3 (nx := 32) ⟨dX12_change_29, rfl⟩ kX12_125 rfl rfl (Nat.le_of_ble_eq_true rfl) (Nat.le_of_ble_eq_true rfl) (cM_in ?_)
        refine G_ifne (tgt := 38) (nx := 35) ⟨dX12_change_32, rfl⟩ rfl (fun c_32 => ?_) (fun c_32 => ?_)
        · rw [bi_n0] at c_32
          refine G_iload_2 (nx := 39) ⟨dX12_change_38, rfl⟩ ?_
          refine G_ifne (tgt := 51) (nx := 42) ⟨dX12_change_39, rfl⟩ rfl (fun c_39 => ?_) (fun c_39 => ?_)
          · refine G_aload_0 (nx := 52) ⟨dX12_change_51, rfl⟩ ?_
            refine G_getr (nx := 55) (k := 75) (r := 77) ⟨dX12_change_52, rfl⟩ fX12_17 q_75 yr_12_3 (r_75_3 _) ?_
            refine G_iload_1 (nx := 56) ⟨dX12_change_55, rfl⟩ ?_
            refine G_iald (nx := 57) (k := 77) ⟨dX12_change_56, rfl⟩ q_77 (by first | assumption | decide | (unfold vp_in; decide)) ?_
            refine G_istore_4 (nx := 59) ⟨dX12_change_57, rfl⟩ rfl rfl ?_
            refine G_iload_2 (nx := 60) ⟨dX12_change_59, rfl⟩ ?_
            refine G_ifne (tgt := 73) (nx := 63) ⟨dX12_change_60, rfl⟩ rfl (fun c_60 => ?_) (fun c_60 => ?_)
            · refine G_aload_0 (nx := 74) ⟨dX12_change_73, rfl⟩ ?_
              refine G_getr (nx := 77) (k := 75) (r := 77) ⟨dX12_change_74, rfl⟩ fX12_17 q_75 yr_12_3 (r_75_3 _) ?_
              refine G_iload_1 (nx := 78) ⟨dX12_change_77, rfl⟩ ?_
              refine G_iload_3 (nx := 79) ⟨dX12_change_78, rfl⟩ ?_
              refine G_iast (nx := 80) (k := 77) ⟨dX12_change_79, rfl⟩ q_77 (by first | assumption | decide | (unfold vp_in; decide)) ?_
              refine G_iload_4 (nx := 82) ⟨dX12_change_80, rfl⟩ ?_
              rw [ec]
              refine G_iret ⟨dX12_change_82, rfl⟩ rfl ?_
              exact absurd c_20 c_39
            · refine G_aload_0 (nx := 64) ⟨dX12_change_63, rfl⟩ ?_
              refine G_getr (nx := 67) (k := 75) (r := 76) ⟨dX12_change_64, rfl⟩ fX12_13 q_75 yr_12_2 (r_75_2 _) ?_
              refine G_iload_1 (nx := 68) ⟨dX12_change_67, rfl⟩ ?_
              refine G_iload_3 (nx := 69) ⟨dX12_change_68, rfl⟩ ?_
              refine G_iast (nx := 70) (k := 76) ⟨dX12_change_69, rfl⟩ q_76 (by first | assumption | decide | (unfold vp_in; decide)) ?_
              refine G_goto (tgt := 80) ⟨dX12_change_70, rfl⟩ rfl ?_
              refine G_iload_4 (nx := 82) ⟨dX12_change_80, rfl⟩ ?_
              rw [ec]
              refine G_iret ⟨dX12_change_82, rfl⟩ rfl ?_
              exact absurd c_20 c_39
          · refine G_aload_0 (nx := 43) ⟨dX12_change_42, rfl⟩ ?_
            refine G_getr (nx := 46) (k := 75) (r := 76) ⟨dX12_change_43, rfl⟩ fX12_13 q_75 yr_12_2 (r_75_2 _) ?_
            refine G_iload_1 (nx := 47) ⟨dX12_change_46, rfl⟩ ?_
            refine G_iald (nx := 48) (k := 76) ⟨dX12_change_47, rfl⟩ q_76 (by first | assumption | decide | (unfold vp_in; decide)) ?_
            refine G_goto (tgt := 57) ⟨dX12_change_48, rfl⟩ rfl ?_
            refine G_istore_4 (nx := 59) ⟨dX12_change_57, rfl⟩ rfl rfl ?_
            refine G_iload_2 (nx := 60) ⟨dX12_change_59, rfl⟩ ?_
            refine G_ifne (tgt := 73) (nx := 63) ⟨dX12_change_60, rfl⟩ rfl (fun c_60 => ?_) (fun c_60 => ?_)
            · refine G_aload_0 (nx := 74) ⟨dX12_change_73, rfl⟩ ?_
              refine G_getr (nx := 77) (k := 75) (r := 77) ⟨dX12_change_74, rfl⟩ fX12_17 q_75 yr_12_3 (r_75_3 _) ?_
              refine G_iload_1 (nx := 78) ⟨dX12_change_77, rfl⟩ ?_
              refine G_iload_3 (nx := 79) ⟨dX12_change_78, rfl⟩ ?_
              refine G_iast (nx := 80) (k := 77) ⟨dX12_change_79, rfl⟩ q_77 (by first | assumption | decide | (unfold vp_in; decide)) ?_
              refine G_iload_4 (nx := 82) ⟨dX12_change_80, rfl⟩ ?_
              rw [ec]
              refine G_iret ⟨dX12_change_82, rfl⟩ rfl ?_
              exact absurd c_20 c_60
            · refine G_aload_0 (nx := 64) ⟨dX12_change_63, rfl⟩ ?_
              refine G_getr (nx := 67) (k := 75) (r := 76) ⟨dX12_change_64, rfl⟩ fX12_13 q_75 yr_12_2 (r_75_2 _) ?_
              refine G_iload_1 (nx := 68) ⟨dX12_change_67, rfl⟩ ?_
              refine G_iload_3 (nx := 69) ⟨dX12_change_68, rfl⟩ ?_
              refine G_iast (nx := 70) (k := 76) ⟨dX12_change_69, rfl⟩ q_76 (by first | assumption | decide | (unfold vp_in; decide)) ?_
              refine G_goto (tgt := 80) ⟨dX12_change_70, rfl⟩ rfl ?_
              refine G_iload_4 (nx := 82) ⟨dX12_change_80, rfl⟩ ?_
              rw [ec]
              refine G_iret ⟨dX12_change_82, rfl⟩ rfl ?_
              exact hk2 p0 hp rfl c_20 (by rw [← c_20]; exact c_32)
        · refine G_bipush (nx := 37) ⟨dX12_change_35, rfl⟩ cb_m2 ?_
          refine G_iret ⟨dX12_change_37, rfl⟩ rfl ?_
          rw [bi_0] at c_32
          exact hk1 (by rw [if_pos c_20, c_32, Bool.and_false])

theorem cM_wipe (hk : K (.int (I 75 25)) (w2 I 75 25 0) J (rX g)) : G l d mX12_wipe K 0 [.ref 75, UU] [] I J (rX g) := by
  refine G_aload_0 (nx := 1) ⟨dX12_wipe_0, rfl⟩ ?_
  refine G_geti (nx := 4) (k := 75) ⟨dX12_wipe_1, rfl⟩ fX12_162 q_75 yi_12_25 ?_
  refine G_istore_1 (nx := 5) ⟨dX12_wipe_4, rfl⟩ rfl rfl ?_
  refine G_aload_0 (nx := 6) ⟨dX12_wipe_5, rfl⟩ ?_
  refine G_iconst (nx := 7) ⟨dX12_wipe_6, rfl⟩ ci_0 ?_
  refine G_puti (nx := 10) (k := 75) ⟨dX12_wipe_7, rfl⟩ pX12_162 q_75 yt_12_25 ?_
  refine G_iload_1 (nx := 11) ⟨dX12_wipe_10, rfl⟩ ?_
  refine G_iret ⟨dX12_wipe_11, rfl⟩ rfl ?_
  exact hk

theorem cM_isFrom {p t : Nat} {a b : Int32} (ht : I 75 25 = nI t) (ht2 : t ≤ 200) (hp : p ≤ t) (hk : K (.int (bi (decide (p < t) && inR (I 88 p) a b))) I J (rX g)) : G l (d + 1) mX12_isFrom K 0 [.ref 75, .int (nI p), .int a, .int b] [] I J (rX g) := by
  have ec := cl_nI (p := p) (by omega)
  refine G_iload_1 (nx := 1) ⟨dX12_isFrom_0, rfl⟩ ?_
  refine G_aload_0 (nx := 2) ⟨dX12_isFrom_1, rfl⟩ ?_
  refine G_geti (nx := 5) (k := 75) ⟨dX12_isFrom_2, rfl⟩ fX12_162 q_75 yi_12_25 ?_
  rw [ht]
  refine G_icmpge (tgt := 26) (nx := 8) ⟨dX12_isFrom_5, rfl⟩ rfl (fun c_5 => ?_) (fun c_5 => ?_)
  · refine G_iconst (nx := 27) ⟨dX12_isFrom_26, rfl⟩ ci_0 ?_
    refine G_zret ⟨dX12_isFrom_27, rfl⟩ rfl (by first | assumption | decide | exact bi_01 _) ?_
    rw [nI_le_iff (by omega) (by omega)] at c_5
    rw [show (decide (p < t)) = false from decide_eq_false (by omega)] at hk
    exact hk
  · rw [nI_le_iff (by omega) (by omega)] at c_5
    have hin := in200 (p := p) (by omega)
    refine G_aload_0 (nx := 9) ⟨dX12_isFrom_8, rfl⟩ ?_
    refine G_getr (nx := 12) (k := 75) (r := 88) ⟨dX12_isFrom_9, rfl⟩ fX12_50 q_75 yr_12_24 (r_75_24 _) ?_
    refine G_iload_1 (nx := 13) ⟨dX12_isFrom_12, rfl⟩ ?_
    refine G_iald (nx := 14) (k := 88) ⟨dX12_isFrom_13, rfl⟩ q_88 (by first | assumption | decide | (unfold vp_in; decide)) ?_
    rw [ec]
    refine G_iload_2 (nx := 15) ⟨dX12_isFrom_14, rfl⟩ ?_
    refine G_iload_3 (nx := 16) ⟨dX12_isFrom_15, rfl⟩ ?_
    refine G_cs3 (nx := 19) ⟨dX12_isFrom_16, rfl⟩ kX12_125 rfl rfl (Nat.le_of_ble_eq_true rfl) (Nat.le_of_ble_eq_true rfl) (cM_in ?_)
    refine G_ifeq (tgt := 26) (nx := 22) ⟨dX12_isFrom_19, rfl⟩ rfl (fun c_19 => ?_) (fun c_19 => ?_)
    · refine G_iconst (nx := 27) ⟨dX12_isFrom_26, rfl⟩ ci_0 ?_
      refine G_zret ⟨dX12_isFrom_27, rfl⟩ rfl (by first | assumption | decide | exact bi_01 _) ?_
      rw [bi_0] at c_19
      rw [c_19, Bool.and_false] at hk
      exact hk
    · refine G_iconst (nx := 23) ⟨dX12_isFrom_22, rfl⟩ ci_1 ?_
      refine G_goto (tgt := 27) ⟨dX12_isFrom_23, rfl⟩ rfl ?_
      refine G_zret ⟨dX12_isFrom_27, rfl⟩ rfl (by first | assumption | decide | exact bi_01 _) ?_
      rw [bi_n0] at c_19
      rw [c_19, show (decide (p < t)) = true from decide_eq_true (by omega)] at hk
      exact hk

theorem fdI_t {I : AI} {t : Nat} (v : Int32) (k : Nat) (ht : I 75 25 = nI t) : ∀ i, fdI I v t k i 75 25 = nI (t + i)
  | 0 => ht
  | _ + 1 => w2_at _ _ _ _
theorem lM_feed {v : Int32} {t k : Nat} (ht : I 75 25 = nI t) (hk4 : k ≤ 4) (htk : t + k ≤ 200) (hk : K (.int (nI (t + k))) (fdI I v t k k) J (rX g)) : ∀ (r i : Nat), i + r = k → G l d mX12_feed K 31 [.ref 75, .int v, .int (nI k), .int (nI r - 1)] [] (fdI I v t k i) J (rX g) := by
  intro r
  induction r with
  | zero =>
    intro i hi
    have hik : i = k := by omega
    subst hik
    have e25 := fdI_t v i ht i
    rw [show nI 0 - 1 = -1 by decide]
    refine G_iload_3 (nx := 32) ⟨dX12_feed_31, rfl⟩ ?_
    refine G_iflt (tgt := 70) (nx := 35) ⟨dX12_feed_32, rfl⟩ rfl (fun c_32 => ?_) (fun c_32 => ?_)
    · refine G_aload_0 (nx := 71) ⟨dX12_feed_70, rfl⟩ ?_
      refine G_geti (nx := 74) (k := 75) ⟨dX12_feed_71, rfl⟩ fX12_162 q_75 yi_12_25 ?_
      rw [e25]
      refine G_iret ⟨dX12_feed_74, rfl⟩ rfl ?_
      exact hk
    · exact absurd c_32 (by decide)

  | succ r ih =>
    intro i hi
    have e25 := fdI_t v k ht i
    have hin := in200 (p := t + i) (by omega)
    have ec := cl_nI (p := t + i) (by omega)
    rw [show nI (r + 1) - 1 = nI r by rw [show (1 : Int32) = nI 1 by decide, nI_sub (by omega)]; rfl]
    refine G_iload_3 (nx := 32) ⟨dX12_feed_31, rfl⟩ ?_
    refine G_iflt (tgt := 70) (nx := 35) ⟨dX12_feed_32, rfl⟩ rfl (fun c_32 => ?_) (fun c_32 => ?_)
    · exact absurd c_32 (by rw [← nI_0, nI_lt_iff (by omega) (by omega)]; omega)
    · refine G_aload_0 (nx := 36) ⟨dX12_feed_35, rfl⟩ ?_
      refine G_getr (nx := 39) (k := 75) (r := 88) ⟨dX12_feed_36, rfl⟩ fX12_50 q_75 yr_12_24 (r_75_24 _) ?_
      refine G_aload_0 (nx := 40) ⟨dX12_feed_39, rfl⟩ ?_
      refine G_geti (nx := 43) (k := 75) ⟨dX12_feed_40, rfl⟩ fX12_162 q_75 yi_12_25 ?_
      rw [e25]
      refine G_iload_1 (nx := 44) ⟨dX12_feed_43, rfl⟩ ?_
      refine G_bipush (nx := 46) ⟨dX12_feed_44, rfl⟩ cb_8 ?_
      refine G_iload_3 (nx := 47) ⟨dX12_feed_46, rfl⟩ ?_
      refine G_imul (nx := 48) ⟨dX12_feed_47, rfl⟩ ?_
      rw [show (8 : Int32) = nI 8 by decide, nI_mul]
      refine G_ishr (nx := 49) ⟨dX12_feed_48, rfl⟩ ?_
      refine G_sipush (nx := 52) ⟨dX12_feed_49, rfl⟩ cs_255 ?_
      refine G_iand (nx := 53) ⟨dX12_feed_52, rfl⟩ ?_
      refine G_iast (nx := 54) (k := 88) ⟨dX12_feed_53, rfl⟩ q_88 (by first | assumption | decide | (unfold vp_in; decide)) ?_
      rw [ec]
      refine G_aload_0 (nx := 55) ⟨dX12_feed_54, rfl⟩ ?_
      refine G_dup (nx := 56) ⟨dX12_feed_55, rfl⟩ rfl ?_
      refine G_geti (nx := 59) (k := 75) ⟨dX12_feed_56, rfl⟩ fX12_162 q_75 yi_12_25 ?_
      rw [w2_ne _ _ _ _ (show ¬ (75 = 88 ∧ 25 = t + i) by omega), e25]
      refine G_iconst (nx := 60) ⟨dX12_feed_59, rfl⟩ ci_1 ?_
      refine G_iadd (nx := 61) ⟨dX12_feed_60, rfl⟩ ?_
      rw [show (1 : Int32) = nI 1 by decide, nI_add]
      refine G_puti (nx := 64) (k := 75) ⟨dX12_feed_61, rfl⟩ pX12_162 q_75 yt_12_25 ?_
      refine G_iinc_3 (nx := 67) ⟨dX12_feed_64, rfl⟩ ci_m1 rfl ?_
      refine G_goto (tgt := 31) ⟨dX12_feed_67, rfl⟩ rfl ?_
      have := ih (i + 1) (by omega)
      unfold fdI at this
      rw [show k - 1 - i = r by omega] at this
      exact G_L (by rw [show nI r + (-1) = nI r - 1 by rw [Int32.sub_eq_add_neg]]) this

theorem cM_feed {v k : Int32} {t : Nat} (ht : I 75 25 = nI t) (ht2 : t ≤ 200) (hk1 : inR k 1 4 = false → K (.int (-2)) I J (rX g)) (hk2 : ∀ k0, k = nI k0 → 1 ≤ k0 → k0 ≤ 4 → 200 < t + k0 → K (.int (-4)) I J (rX g)) (hk : ∀ k0, k = nI k0 → 1 ≤ k0 → k0 ≤ 4 → t + k0 ≤ 200 → K (.int (nI (t + k0))) (fdI I v t k0 k0) J (rX g)) : G l (d + 1) mX12_feed K 0 [.ref 75, .int v, .int k, UU] [] I J (rX g) := by
  refine G_iload_2 (nx := 1) ⟨dX12_feed_0, rfl⟩ ?_
  refine G_iconst (nx := 2) ⟨dX12_feed_1, rfl⟩ ci_1 ?_
  refine G_iconst (nx := 3) ⟨dX12_feed_2, rfl⟩ ci_4 ?_
  refine G_cs3 (nx := 6) ⟨dX12_feed_3, rfl⟩ kX12_125 rfl rfl (Nat.le_of_ble_eq_true rfl) (Nat.le_of_ble_eq_true rfl) (cM_in ?_)
  refine G_ifne (tgt := 12) (nx := 9) ⟨dX12_feed_6, rfl⟩ rfl (fun c_6 => ?_) (fun c_6 => ?_)
  · rw [bi_n0] at c_6
    obtain ⟨k0, hk01, hk04, ek⟩ := nI_ex (a := 1) (b := 4) (by omega) c_6 (by omega)
    subst ek
    refine G_aload_0 (nx := 13) ⟨dX12_feed_12, rfl⟩ ?_
    refine G_geti (nx := 16) (k := 75) ⟨dX12_feed_13, rfl⟩ fX12_162 q_75 yi_12_25 ?_
    rw [ht]
    refine G_iload_2 (nx := 17) ⟨dX12_feed_16, rfl⟩ ?_
    refine G_iadd (nx := 18) ⟨dX12_feed_17, rfl⟩ ?_
    refine G_sipush (nx := 21) ⟨dX12_feed_18, rfl⟩ cs_200 ?_
    rw [nI_add, show (200 : Int32) = nI 200 by decide]
    refine G_icmple (tgt := 27) (nx := 24) ⟨dX12_feed_21, rfl⟩ rfl (fun c_21 => ?_) (fun c_21 => ?_)
    · rw [nI_le_iff (by omega) (by omega)] at c_21
      refine G_iload_2 (nx := 28) ⟨dX12_feed_27, rfl⟩ ?_
      refine G_iconst (nx := 29) ⟨dX12_feed_28, rfl⟩ ci_1 ?_
      refine G_isub (nx := 30) ⟨dX12_feed_29, rfl⟩ ?_
      refine G_istore_3 (nx := 31) ⟨dX12_feed_30, rfl⟩ rfl rfl ?_
      exact lM_feed (d := d + 1) ht hk04 c_21 (hk k0 rfl hk01 hk04 c_21) k0 0 (by omega)
    · rw [nI_le_iff (by omega) (by omega)] at c_21
      refine G_bipush (nx := 26) ⟨dX12_feed_24, rfl⟩ cb_m4 ?_
      refine G_iret ⟨dX12_feed_26, rfl⟩ rfl ?_
      exact hk2 k0 rfl hk01 hk04 (by omega)
  · refine G_bipush (nx := 11) ⟨dX12_feed_9, rfl⟩ cb_m2 ?_
    refine G_iret ⟨dX12_feed_11, rfl⟩ rfl ?_
    rw [bi_0] at c_6
    exact hk1 c_6

theorem lM_isWord {p q wl : Nat} {b0 b1 b2 b3 b4 b5 : Int32} (hq : q ≤ 200) (hpq : p ≤ q) (hw : wdL b3 b4 b5 = wl) (hw3 : 3 ≤ wl) (hw6 : wl ≤ 6) (hk : K (.int (bi (wdB (I 88) p q b0 b1 b2 b3 b4 b5))) I J (rX g)) : G l d mX12_isWord K 29 [.ref 75, .int (nI p), .int (nI q), .int b0, .int b1, .int b2, .int b3, .int b4, .int b5, UU] [.int (nI wl)] I J (rX g) := by
  have hno : (¬ wdB (I 88) p q b0 b1 b2 b3 b4 b5 = true) → K (.int 0) I J (rX g) := fun h => by
    rw [Bool.not_eq_true] at h; rw [h] at hk; exact hk
  have hyes : wdB (I 88) p q b0 b1 b2 b3 b4 b5 = true → K (.int 1) I J (rX g) := fun h => by
    rw [h] at hk; exact hk
  unfold wdB at hno hyes
  rw [hw] at hno hyes
  simp only [decide_eq_true_eq] at hno hyes
  refine G_istore_9 (nx := 31) ⟨dX12_isWord_29, rfl⟩ rfl rfl ?_
  refine G_iload_2 (nx := 32) ⟨dX12_isWord_31, rfl⟩ ?_
  refine G_iload_1 (nx := 33) ⟨dX12_isWord_32, rfl⟩ ?_
  refine G_isub (nx := 34) ⟨dX12_isWord_33, rfl⟩ ?_
  refine G_iload_9 (nx := 36) ⟨dX12_isWord_34, rfl⟩ ?_
  rw [nI_sub hpq]
  refine G_icmpne (tgt := 75) (nx := 39) ⟨dX12_isWord_36, rfl⟩ rfl (fun c_36 => ?_) (fun c_36 => ?_)
  · refine G_iconst (nx := 76) ⟨dX12_isWord_75, rfl⟩ ci_0 ?_
    refine G_zret ⟨dX12_isWord_76, rfl⟩ rfl (by first | assumption | decide | exact bi_01 _) ?_
    rw [nI_eq (by omega) (by omega)] at c_36
    exact hno (fun h => c_36 h.1)
  · rw [nI_eq (by omega) (by omega)] at c_36
    have hi0 := in200 (p := p) (by omega)
    have hi1 := in200 (p := p + 1) (by omega)
    have hi2 := in200 (p := p + 2) (by omega)
    refine G_aload_0 (nx := 40) ⟨dX12_isWord_39, rfl⟩ ?_
    refine G_getr (nx := 43) (k := 75) (r := 88) ⟨dX12_isWord_40, rfl⟩ fX12_50 q_75 yr_12_24 (r_75_24 _) ?_
    refine G_iload_1 (nx := 44) ⟨dX12_isWord_43, rfl⟩ ?_
    refine G_iald (nx := 45) (k := 88) ⟨dX12_isWord_44, rfl⟩ q_88 (by first | assumption | decide | (unfold vp_in; decide)) ?_
    rw [cl_nI (by omega)]
    refine G_iload_3 (nx := 46) ⟨dX12_isWord_45, rfl⟩ ?_
    refine G_icmpne (tgt := 75) (nx := 49) ⟨dX12_isWord_46, rfl⟩ rfl (fun c_46 => ?_) (fun c_46 => ?_)
    · refine G_iconst (nx := 76) ⟨dX12_isWord_75, rfl⟩ ci_0 ?_
      refine G_zret ⟨dX12_isWord_76, rfl⟩ rfl (by first | assumption | decide | exact bi_01 _) ?_
      exact hno (fun h => c_46 h.2.1)
    · refine G_aload_0 (nx := 50) ⟨dX12_isWord_49, rfl⟩ ?_
      refine G_getr (nx := 53) (k := 75) (r := 88) ⟨dX12_isWord_50, rfl⟩ fX12_50 q_75 yr_12_24 (r_75_24 _) ?_
      refine G_iload_1 (nx := 54) ⟨dX12_isWord_53, rfl⟩ ?_
      refine G_iconst (nx := 55) ⟨dX12_isWord_54, rfl⟩ ci_1 ?_
      refine G_iadd (nx := 56) ⟨dX12_isWord_55, rfl⟩ ?_
      rw [show (1 : Int32) = nI 1 by decide, nI_add]
      refine G_iald (nx := 57) (k := 88) ⟨dX12_isWord_56, rfl⟩ q_88 (by first | assumption | decide | (unfold vp_in; decide)) ?_
      rw [cl_nI (by omega)]
      refine G_iload_4 (nx := 59) ⟨dX12_isWord_57, rfl⟩ ?_
      refine G_icmpne (tgt := 75) (nx := 62) ⟨dX12_isWord_59, rfl⟩ rfl (fun c_59 => ?_) (fun c_59 => ?_)
      · refine G_iconst (nx := 76) ⟨dX12_isWord_75, rfl⟩ ci_0 ?_
        refine G_zret ⟨dX12_isWord_76, rfl⟩ rfl (by first | assumption | decide | exact bi_01 _) ?_
        exact hno (fun h => c_59 h.2.2.1)
      · refine G_aload_0 (nx := 63) ⟨dX12_isWord_62, rfl⟩ ?_
        refine G_getr (nx := 66) (k := 75) (r := 88) ⟨dX12_isWord_63, rfl⟩ fX12_50 q_75 yr_12_24 (r_75_24 _) ?_
        refine G_iload_1 (nx := 67) ⟨dX12_isWord_66, rfl⟩ ?_
        refine G_iconst (nx := 68) ⟨dX12_isWord_67, rfl⟩ ci_2 ?_
        refine G_iadd (nx := 69) ⟨dX12_isWord_68, rfl⟩ ?_
        rw [show (2 : Int32) = nI 2 by decide, nI_add]
        refine G_iald (nx := 70) (k := 88) ⟨dX12_isWord_69, rfl⟩ q_88 (by first | assumption | decide | (unfold vp_in; decide)) ?_
        rw [cl_nI (by omega)]
        refine G_iload_5 (nx := 72) ⟨dX12_isWord_70, rfl⟩ ?_
        refine G_icmpeq (tgt := 77) (nx := 75) ⟨dX12_isWord_72, rfl⟩ rfl (fun c_72 => ?_) (fun c_72 => ?_)
        · refine G_iload_9 (nx := 79) ⟨dX12_isWord_77, rfl⟩ ?_
          refine G_iconst (nx := 80) ⟨dX12_isWord_79, rfl⟩ ci_4 ?_
          rw [show (4 : Int32) = nI 4 by decide]
          refine G_icmplt (tgt := 96) (nx := 83) ⟨dX12_isWord_80, rfl⟩ rfl (fun c_80 => ?_) (fun c_80 => ?_)
          · refine G_iload_9 (nx := 98) ⟨dX12_isWord_96, rfl⟩ ?_
            refine G_iconst (nx := 99) ⟨dX12_isWord_98, rfl⟩ ci_5 ?_
            rw [show (5 : Int32) = nI 5 by decide]
            refine G_icmplt (tgt := 115) (nx := 102) ⟨dX12_isWord_99, rfl⟩ rfl (fun c_99 => ?_) (fun c_99 => ?_)
            · refine G_iload_9 (nx := 117) ⟨dX12_isWord_115, rfl⟩ ?_
              refine G_bipush (nx := 119) ⟨dX12_isWord_117, rfl⟩ cb_6 ?_
              rw [show (6 : Int32) = nI 6 by decide]
              refine G_icmplt (tgt := 135) (nx := 122) ⟨dX12_isWord_119, rfl⟩ rfl (fun c_119 => ?_) (fun c_119 => ?_)
              · refine G_iconst (nx := 136) ⟨dX12_isWord_135, rfl⟩ ci_1 ?_
                refine G_goto (tgt := 140) ⟨dX12_isWord_136, rfl⟩ rfl ?_
                refine G_zret ⟨dX12_isWord_140, rfl⟩ rfl (by first | assumption | decide | exact bi_01 _) ?_
                rw [nI_lt_iff (by omega) (by omega)] at c_80
                rw [nI_lt_iff (by omega) (by omega)] at c_99
                rw [nI_lt_iff (by omega) (by omega)] at c_119
                exact hyes ⟨c_36, c_46, c_59, c_72, (fun h => absurd h (by omega)), (fun h => absurd h (by omega)), (fun h => absurd h (by omega))⟩
              · rw [nI_lt_iff (by omega) (by omega)] at c_119
                have hi5 := in200 (p := p + 5) (by omega)
                refine G_aload_0 (nx := 123) ⟨dX12_isWord_122, rfl⟩ ?_
                refine G_getr (nx := 126) (k := 75) (r := 88) ⟨dX12_isWord_123, rfl⟩ fX12_50 q_75 yr_12_24 (r_75_24 _) ?_
                refine G_iload_1 (nx := 127) ⟨dX12_isWord_126, rfl⟩ ?_
                refine G_iconst (nx := 128) ⟨dX12_isWord_127, rfl⟩ ci_5 ?_
                refine G_iadd (nx := 129) ⟨dX12_isWord_128, rfl⟩ ?_
                rw [show (5 : Int32) = nI 5 by decide, nI_add]
                refine G_iald (nx := 130) (k := 88) ⟨dX12_isWord_129, rfl⟩ q_88 (by first | assumption | decide | (unfold vp_in; decide)) ?_
                rw [cl_nI (by omega)]
                refine G_iload_8 (nx := 132) ⟨dX12_isWord_130, rfl⟩ ?_
                refine G_icmpne (tgt := 139) (nx := 135) ⟨dX12_isWord_132, rfl⟩ rfl (fun c_132 => ?_) (fun c_132 => ?_)
                · refine G_iconst (nx := 140) ⟨dX12_isWord_139, rfl⟩ ci_0 ?_
                  refine G_zret ⟨dX12_isWord_140, rfl⟩ rfl (by first | assumption | decide | exact bi_01 _) ?_
                  rw [nI_lt_iff (by omega) (by omega)] at c_80
                  rw [nI_lt_iff (by omega) (by omega)] at c_99
                  exact hno (fun h => c_132 (h.2.2.2.2.2.2 (by omega)))
                · refine G_iconst (nx := 136) ⟨dX12_isWord_135, rfl⟩ ci_1 ?_
                  refine G_goto (tgt := 140) ⟨dX12_isWord_136, rfl⟩ rfl ?_
                  refine G_zret ⟨dX12_isWord_140, rfl⟩ rfl (by first | assumption | decide | exact bi_01 _) ?_
                  rw [nI_lt_iff (by omega) (by omega)] at c_80
                  rw [nI_lt_iff (by omega) (by omega)] at c_99
                  exact hyes ⟨c_36, c_46, c_59, c_72, (fun h => absurd h (by omega)), (fun h => absurd h (by omega)), (fun _ => c_132)⟩
            · rw [nI_lt_iff (by omega) (by omega)] at c_99
              have hi4 := in200 (p := p + 4) (by omega)
              refine G_aload_0 (nx := 103) ⟨dX12_isWord_102, rfl⟩ ?_
              refine G_getr (nx := 106) (k := 75) (r := 88) ⟨dX12_isWord_103, rfl⟩ fX12_50 q_75 yr_12_24 (r_75_24 _) ?_
              refine G_iload_1 (nx := 107) ⟨dX12_isWord_106, rfl⟩ ?_
              refine G_iconst (nx := 108) ⟨dX12_isWord_107, rfl⟩ ci_4 ?_
              refine G_iadd (nx := 109) ⟨dX12_isWord_108, rfl⟩ ?_
              rw [show (4 : Int32) = nI 4 by decide, nI_add]
              refine G_iald (nx := 110) (k := 88) ⟨dX12_isWord_109, rfl⟩ q_88 (by first | assumption | decide | (unfold vp_in; decide)) ?_
              rw [cl_nI (by omega)]
              refine G_iload_7 (nx := 112) ⟨dX12_isWord_110, rfl⟩ ?_
              refine G_icmpne (tgt := 139) (nx := 115) ⟨dX12_isWord_112, rfl⟩ rfl (fun c_112 => ?_) (fun c_112 => ?_)
              · refine G_iconst (nx := 140) ⟨dX12_isWord_139, rfl⟩ ci_0 ?_
                refine G_zret ⟨dX12_isWord_140, rfl⟩ rfl (by first | assumption | decide | exact bi_01 _) ?_
                rw [nI_lt_iff (by omega) (by omega)] at c_80
                exact hno (fun h => c_112 (h.2.2.2.2.2.1 (by omega)))
              · refine G_iload_9 (nx := 117) ⟨dX12_isWord_115, rfl⟩ ?_
                refine G_bipush (nx := 119) ⟨dX12_isWord_117, rfl⟩ cb_6 ?_
                rw [show (6 : Int32) = nI 6 by decide]
                refine G_icmplt (tgt := 135) (nx := 122) ⟨dX12_isWord_119, rfl⟩ rfl (fun c_119 => ?_) (fun c_119 => ?_)
                · refine G_iconst (nx := 136) ⟨dX12_isWord_135, rfl⟩ ci_1 ?_
                  refine G_goto (tgt := 140) ⟨dX12_isWord_136, rfl⟩ rfl ?_
                  refine G_zret ⟨dX12_isWord_140, rfl⟩ rfl (by first | assumption | decide | exact bi_01 _) ?_
                  rw [nI_lt_iff (by omega) (by omega)] at c_80
                  rw [nI_lt_iff (by omega) (by omega)] at c_119
                  exact hyes ⟨c_36, c_46, c_59, c_72, (fun h => absurd h (by omega)), (fun _ => c_112), (fun h => absurd h (by omega))⟩
                · rw [nI_lt_iff (by omega) (by omega)] at c_119
                  have hi5 := in200 (p := p + 5) (by omega)
                  refine G_aload_0 (nx := 123) ⟨dX12_isWord_122, rfl⟩ ?_
                  refine G_getr (nx := 126) (k := 75) (r := 88) ⟨dX12_isWord_123, rfl⟩ fX12_50 q_75 yr_12_24 (r_75_24 _) ?_
                  refine G_iload_1 (nx := 127) ⟨dX12_isWord_126, rfl⟩ ?_
                  refine G_iconst (nx := 128) ⟨dX12_isWord_127, rfl⟩ ci_5 ?_
                  refine G_iadd (nx := 129) ⟨dX12_isWord_128, rfl⟩ ?_
                  rw [show (5 : Int32) = nI 5 by decide, nI_add]
                  refine G_iald (nx := 130) (k := 88) ⟨dX12_isWord_129, rfl⟩ q_88 (by first | assumption | decide | (unfold vp_in; decide)) ?_
                  rw [cl_nI (by omega)]
                  refine G_iload_8 (nx := 132) ⟨dX12_isWord_130, rfl⟩ ?_
                  refine G_icmpne (tgt := 139) (nx := 135) ⟨dX12_isWord_132, rfl⟩ rfl (fun c_132 => ?_) (fun c_132 => ?_)
                  · refine G_iconst (nx := 140) ⟨dX12_isWord_139, rfl⟩ ci_0 ?_
                    refine G_zret ⟨dX12_isWord_140, rfl⟩ rfl (by first | assumption | decide | exact bi_01 _) ?_
                    rw [nI_lt_iff (by omega) (by omega)] at c_80
                    exact hno (fun h => c_132 (h.2.2.2.2.2.2 (by omega)))
                  · refine G_iconst (nx := 136) ⟨dX12_isWord_135, rfl⟩ ci_1 ?_
                    refine G_goto (tgt := 140) ⟨dX12_isWord_136, rfl⟩ rfl ?_
                    refine G_zret ⟨dX12_isWord_140, rfl⟩ rfl (by first | assumption | decide | exact bi_01 _) ?_
                    rw [nI_lt_iff (by omega) (by omega)] at c_80
                    exact hyes ⟨c_36, c_46, c_59, c_72, (fun h => absurd h (by omega)), (fun _ => c_112), (fun _ => c_132)⟩
          · rw [nI_lt_iff (by omega) (by omega)] at c_80
            have hi3 := in200 (p := p + 3) (by omega)
            refine G_aload_0 (nx := 84) ⟨dX12_isWord_83, rfl⟩ ?_
            refine G_getr (nx := 87) (k := 75) (r := 88) ⟨dX12_isWord_84, rfl⟩ fX12_50 q_75 yr_12_24 (r_75_24 _) ?_
            refine G_iload_1 (nx := 88) ⟨dX12_isWord_87, rfl⟩ ?_
            refine G_iconst (nx := 89) ⟨dX12_isWord_88, rfl⟩ ci_3 ?_
            refine G_iadd (nx := 90) ⟨dX12_isWord_89, rfl⟩ ?_
            rw [show (3 : Int32) = nI 3 by decide, nI_add]
            refine G_iald (nx := 91) (k := 88) ⟨dX12_isWord_90, rfl⟩ q_88 (by first | assumption | decide | (unfold vp_in; decide)) ?_
            rw [cl_nI (by omega)]
            refine G_iload_6 (nx := 93) ⟨dX12_isWord_91, rfl⟩ ?_
            refine G_icmpne (tgt := 139) (nx := 96) ⟨dX12_isWord_93, rfl⟩ rfl (fun c_93 => ?_) (fun c_93 => ?_)
            · refine G_iconst (nx := 140) ⟨dX12_isWord_139, rfl⟩ ci_0 ?_
              refine G_zret ⟨dX12_isWord_140, rfl⟩ rfl (by first | assumption | decide | exact bi_01 _) ?_
              exact hno (fun h => c_93 (h.2.2.2.2.1 (by omega)))
            · refine G_iload_9 (nx := 98) ⟨dX12_isWord_96, rfl⟩ ?_
              refine G_iconst (nx := 99) ⟨dX12_isWord_98, rfl⟩ ci_5 ?_
              rw [show (5 : Int32) = nI 5 by decide]
              refine G_icmplt (tgt := 115) (nx := 102) ⟨dX12_isWord_99, rfl⟩ rfl (fun c_99 => ?_) (fun c_99 => ?_)
              · refine G_iload_9 (nx := 117) ⟨dX12_isWord_115, rfl⟩ ?_
                refine G_bipush (nx := 119) ⟨dX12_isWord_117, rfl⟩ cb_6 ?_
                rw [show (6 : Int32) = nI 6 by decide]
                refine G_icmplt (tgt := 135) (nx := 122) ⟨dX12_isWord_119, rfl⟩ rfl (fun c_119 => ?_) (fun c_119 => ?_)
                · refine G_iconst (nx := 136) ⟨dX12_isWord_135, rfl⟩ ci_1 ?_
                  refine G_goto (tgt := 140) ⟨dX12_isWord_136, rfl⟩ rfl ?_
                  refine G_zret ⟨dX12_isWord_140, rfl⟩ rfl (by first | assumption | decide | exact bi_01 _) ?_
                  rw [nI_lt_iff (by omega) (by omega)] at c_99
                  rw [nI_lt_iff (by omega) (by omega)] at c_119
                  exact hyes ⟨c_36, c_46, c_59, c_72, (fun _ => c_93), (fun h => absurd h (by omega)), (fun h => absurd h (by omega))⟩
                · rw [nI_lt_iff (by omega) (by omega)] at c_119
                  have hi5 := in200 (p := p + 5) (by omega)
                  refine G_aload_0 (nx := 123) ⟨dX12_isWord_122, rfl⟩ ?_
                  refine G_getr (nx := 126) (k := 75) (r := 88) ⟨dX12_isWord_123, rfl⟩ fX12_50 q_75 yr_12_24 (r_75_24 _) ?_
                  refine G_iload_1 (nx := 127) ⟨dX12_isWord_126, rfl⟩ ?_
                  refine G_iconst (nx := 128) ⟨dX12_isWord_127, rfl⟩ ci_5 ?_
                  refine G_iadd (nx := 129) ⟨dX12_isWord_128, rfl⟩ ?_
                  rw [show (5 : Int32) = nI 5 by decide, nI_add]
                  refine G_iald (nx := 130) (k := 88) ⟨dX12_isWord_129, rfl⟩ q_88 (by first | assumption | decide | (unfold vp_in; decide)) ?_
                  rw [cl_nI (by omega)]
                  refine G_iload_8 (nx := 132) ⟨dX12_isWord_130, rfl⟩ ?_
                  refine G_icmpne (tgt := 139) (nx := 135) ⟨dX12_isWord_132, rfl⟩ rfl (fun c_132 => ?_) (fun c_132 => ?_)
                  · refine G_iconst (nx := 140) ⟨dX12_isWord_139, rfl⟩ ci_0 ?_
                    refine G_zret ⟨dX12_isWord_140, rfl⟩ rfl (by first | assumption | decide | exact bi_01 _) ?_
                    rw [nI_lt_iff (by omega) (by omega)] at c_99
                    exact hno (fun h => c_132 (h.2.2.2.2.2.2 (by omega)))
                  · refine G_iconst (nx := 136) ⟨dX12_isWord_135, rfl⟩ ci_1 ?_
                    refine G_goto (tgt := 140) ⟨dX12_isWord_136, rfl⟩ rfl ?_
                    refine G_zret ⟨dX12_isWord_140, rfl⟩ rfl (by first | assumption | decide | exact bi_01 _) ?_
                    rw [nI_lt_iff (by omega) (by omega)] at c_99
                    exact hyes ⟨c_36, c_46, c_59, c_72, (fun _ => c_93), (fun h => absurd h (by omega)), (fun _ => c_132)⟩
              · rw [nI_lt_iff (by omega) (by omega)] at c_99
                have hi4 := in200 (p := p + 4) (by omega)
                refine G_aload_0 (nx := 103) ⟨dX12_isWord_102, rfl⟩ ?_
                refine G_getr (nx := 106) (k := 75) (r := 88) ⟨dX12_isWord_103, rfl⟩ fX12_50 q_75 yr_12_24 (r_75_24 _) ?_
                refine G_iload_1 (nx := 107) ⟨dX12_isWord_106, rfl⟩ ?_
                refine G_iconst (nx := 108) ⟨dX12_isWord_107, rfl⟩ ci_4 ?_
                refine G_iadd (nx := 109) ⟨dX12_isWord_108, rfl⟩ ?_
                rw [show (4 : Int32) = nI 4 by decide, nI_add]
                refine G_iald (nx := 110) (k := 88) ⟨dX12_isWord_109, rfl⟩ q_88 (by first | assumption | decide | (unfold vp_in; decide)) ?_
                rw [cl_nI (by omega)]
                refine G_iload_7 (nx := 112) ⟨dX12_isWord_110, rfl⟩ ?_
                refine G_icmpne (tgt := 139) (nx := 115) ⟨dX12_isWord_112, rfl⟩ rfl (fun c_112 => ?_) (fun c_112 => ?_)
                · refine G_iconst (nx := 140) ⟨dX12_isWord_139, rfl⟩ ci_0 ?_
                  refine G_zret ⟨dX12_isWord_140, rfl⟩ rfl (by first | assumption | decide | exact bi_01 _) ?_
                  exact hno (fun h => c_112 (h.2.2.2.2.2.1 (by omega)))
                · refine G_iload_9 (nx := 117) ⟨dX12_isWord_115, rfl⟩ ?_
                  refine G_bipush (nx := 119) ⟨dX12_isWord_117, rfl⟩ cb_6 ?_
                  rw [show (6 : Int32) = nI 6 by decide]
                  refine G_icmplt (tgt := 135) (nx := 122) ⟨dX12_isWord_119, rfl⟩ rfl (fun c_119 => ?_) (fun c_119 => ?_)
                  · refine G_iconst (nx := 136) ⟨dX12_isWord_135, rfl⟩ ci_1 ?_
                    refine G_goto (tgt := 140) ⟨dX12_isWord_136, rfl⟩ rfl ?_
                    refine G_zret ⟨dX12_isWord_140, rfl⟩ rfl (by first | assumption | decide | exact bi_01 _) ?_
                    rw [nI_lt_iff (by omega) (by omega)] at c_119
                    exact hyes ⟨c_36, c_46, c_59, c_72, (fun _ => c_93), (fun _ => c_112), (fun h => absurd h (by omega))⟩
                  · rw [nI_lt_iff (by omega) (by omega)] at c_119
                    have hi5 := in200 (p := p + 5) (by omega)
                    refine G_aload_0 (nx := 123) ⟨dX12_isWord_122, rfl⟩ ?_
                    refine G_getr (nx := 126) (k := 75) (r := 88) ⟨dX12_isWord_123, rfl⟩ fX12_50 q_75 yr_12_24 (r_75_24 _) ?_
                    refine G_iload_1 (nx := 127) ⟨dX12_isWord_126, rfl⟩ ?_
                    refine G_iconst (nx := 128) ⟨dX12_isWord_127, rfl⟩ ci_5 ?_
                    refine G_iadd (nx := 129) ⟨dX12_isWord_128, rfl⟩ ?_
                    rw [show (5 : Int32) = nI 5 by decide, nI_add]
                    refine G_iald (nx := 130) (k := 88) ⟨dX12_isWord_129, rfl⟩ q_88 (by first | assumption | decide | (unfold vp_in; decide)) ?_
                    rw [cl_nI (by omega)]
                    refine G_iload_8 (nx := 132) ⟨dX12_isWord_130, rfl⟩ ?_
                    refine G_icmpne (tgt := 139) (nx := 135) ⟨dX12_isWord_132, rfl⟩ rfl (fun c_132 => ?_) (fun c_132 => ?_)
                    · refine G_iconst (nx := 140) ⟨dX12_isWord_139, rfl⟩ ci_0 ?_
                      refine G_zret ⟨dX12_isWord_140, rfl⟩ rfl (by first | assumption | decide | exact bi_01 _) ?_
                      exact hno (fun h => c_132 (h.2.2.2.2.2.2 (by omega)))
                    · refine G_iconst (nx := 136) ⟨dX12_isWord_135, rfl⟩ ci_1 ?_
                      refine G_goto (tgt := 140) ⟨dX12_isWord_136, rfl⟩ rfl ?_
                      refine G_zret ⟨dX12_isWord_140, rfl⟩ rfl (by first | assumption | decide | exact bi_01 _) ?_
                      exact hyes ⟨c_36, c_46, c_59, c_72, (fun _ => c_93), (fun _ => c_112), (fun _ => c_132)⟩
        · refine G_iconst (nx := 76) ⟨dX12_isWord_75, rfl⟩ ci_0 ?_
          refine G_zret ⟨dX12_isWord_76, rfl⟩ rfl (by first | assumption | decide | exact bi_01 _) ?_
          exact hno (fun h => c_72 h.2.2.2.1)

theorem cM_isWord {p q : Nat} {b0 b1 b2 b3 b4 b5 : Int32} (hq : q ≤ 200) (hpq : p ≤ q) (hk : K (.int (bi (wdB (I 88) p q b0 b1 b2 b3 b4 b5))) I J (rX g)) : G l d mX12_isWord K 0 [.ref 75, .int (nI p), .int (nI q), .int b0, .int b1, .int b2, .int b3, .int b4, .int b5, UU] [] I J (rX g) := by
  refine G_iload_6 (nx := 2) ⟨dX12_isWord_0, rfl⟩ ?_
  refine G_ifne (tgt := 9) (nx := 5) ⟨dX12_isWord_2, rfl⟩ rfl (fun c_2 => ?_) (fun c_2 => ?_)
  · refine G_iload_7 (nx := 11) ⟨dX12_isWord_9, rfl⟩ ?_
    refine G_ifne (tgt := 18) (nx := 14) ⟨dX12_isWord_11, rfl⟩ rfl (fun c_11 => ?_) (fun c_11 => ?_)
    · refine G_iload_8 (nx := 20) ⟨dX12_isWord_18, rfl⟩ ?_
      refine G_ifne (tgt := 27) (nx := 23) ⟨dX12_isWord_20, rfl⟩ rfl (fun c_20 => ?_) (fun c_20 => ?_)
      · refine G_bipush (nx := 29) ⟨dX12_isWord_27, rfl⟩ cb_6 ?_
        exact G_S (by rw [show (6 : Int32) = nI 6 by decide]) (lM_isWord (wl := 6) hq hpq (by simp [wdL, c_2, c_11, c_20]) (by omega) (by omega) hk)
      · refine G_iconst (nx := 24) ⟨dX12_isWord_23, rfl⟩ ci_5 ?_
        refine G_goto (tgt := 29) ⟨dX12_isWord_24, rfl⟩ rfl ?_
        exact G_S (by rw [show (5 : Int32) = nI 5 by decide]) (lM_isWord (wl := 5) hq hpq (by simp [wdL, c_2, c_11, c_20]) (by omega) (by omega) hk)
    · refine G_iconst (nx := 15) ⟨dX12_isWord_14, rfl⟩ ci_4 ?_
      refine G_goto (tgt := 29) ⟨dX12_isWord_15, rfl⟩ rfl ?_
      exact G_S (by rw [show (4 : Int32) = nI 4 by decide]) (lM_isWord (wl := 4) hq hpq (by simp [wdL, c_2, c_11]) (by omega) (by omega) hk)
  · refine G_iconst (nx := 6) ⟨dX12_isWord_5, rfl⟩ ci_3 ?_
    refine G_goto (tgt := 29) ⟨dX12_isWord_6, rfl⟩ rfl ?_
    exact G_S (by rw [show (3 : Int32) = nI 3 by decide]) (lM_isWord (wl := 3) hq hpq (by simp [wdL, c_2]) (by omega) (by omega) hk)

def kdI (tp : Nat → Int32) (p q : Nat) : Int32 := if wdB tp p q 112 111 105 110 116 0 = true then 0 else if wdB tp p q 116 111 108 108 0 0 = true then 1 else if wdB tp p q 99 108 117 98 0 0 = true then 2 else if wdB tp p q 107 101 101 112 101 114 = true then 3 else if wdB tp p q 103 117 105 108 100 0 = true then 4 else if wdB tp p q 119 97 114 100 101 110 = true then 5 else -1
theorem cM_kindOf {p q : Nat} (hq : q ≤ 200) (hpq : p ≤ q) (hk : K (.int (kdI (I 88) p q)) I J (rX g)) : G l (d + 1) mX12_kindOf K 0 [.ref 75, .int (nI p), .int (nI q)] [] I J (rX g) := by
  unfold kdI at hk
  refine G_aload_0 (nx := 1) ⟨dX12_kindOf_0, rfl⟩ ?_
  refine G_iload_1 (nx := 2) ⟨dX12_kindOf_1, rfl⟩ ?_
  refine G_iload_2 (nx := 3) ⟨dX12_kindOf_2, rfl⟩ ?_
  refine G_bipush (nx := 5) ⟨dX12_kindOf_3, rfl⟩ cb_112 ?_
  refine G_bipush (nx := 7) ⟨dX12_kindOf_5, rfl⟩ cb_111 ?_
  refine G_bipush (nx := 9) ⟨dX12_kindOf_7, rfl⟩ cb_105 ?_
  refine G_bipush (nx := 11) ⟨dX12_kindOf_9, rfl⟩ cb_110 ?_
  refine G_bipush (nx := 13) ⟨dX12_kindOf_11, rfl⟩ cb_116 ?_
  refine G_iconst (nx := 14) ⟨dX12_kindOf_13, rfl⟩ ci_0 ?_
  refine G_cv8 (nx := 17) ⟨dX12_kindOf_14, rfl⟩ kX12_294 rfl q_75 rfl (Nat.le_of_ble_eq_true rfl) (Nat.le_of_ble_eq_true rfl) (cM_isWord hq hpq ?_)
  refine G_ifeq (tgt := 22) (nx := 20) ⟨dX12_kindOf_17, rfl⟩ rfl (fun c_17 => ?_) (fun c_17 => ?_)
  · rw [bi_0] at c_17
    rw [if_neg (by rw [c_17]; decide)] at hk
    refine G_aload_0 (nx := 23) ⟨dX12_kindOf_22, rfl⟩ ?_
    refine G_iload_1 (nx := 24) ⟨dX12_kindOf_23, rfl⟩ ?_
    refine G_iload_2 (nx := 25) ⟨dX12_kindOf_24, rfl⟩ ?_
    refine G_bipush (nx := 27) ⟨dX12_kindOf_25, rfl⟩ cb_116 ?_
    refine G_bipush (nx := 29) ⟨dX12_kindOf_27, rfl⟩ cb_111 ?_
    refine G_bipush (nx := 31) ⟨dX12_kindOf_29, rfl⟩ cb_108 ?_
    refine G_bipush (nx := 33) ⟨dX12_kindOf_31, rfl⟩ cb_108 ?_
    refine G_iconst (nx := 34) ⟨dX12_kindOf_33, rfl⟩ ci_0 ?_
    refine G_iconst (nx := 35) ⟨dX12_kindOf_34, rfl⟩ ci_0 ?_
    refine G_cv8 (nx := 38) ⟨dX12_kindOf_35, rfl⟩ kX12_294 rfl q_75 rfl (Nat.le_of_ble_eq_true rfl) (Nat.le_of_ble_eq_true rfl) (cM_isWord hq hpq ?_)
    refine G_ifeq (tgt := 43) (nx := 41) ⟨dX12_kindOf_38, rfl⟩ rfl (fun c_38 => ?_) (fun c_38 => ?_)
    · rw [bi_0] at c_38
      rw [if_neg (by rw [c_38]; decide)] at hk
      refine G_aload_0 (nx := 44) ⟨dX12_kindOf_43, rfl⟩ ?_
      refine G_iload_1 (nx := 45) ⟨dX12_kindOf_44, rfl⟩ ?_
      refine G_iload_2 (nx := 46) ⟨dX12_kindOf_45, rfl⟩ ?_
      refine G_bipush (nx := 48) ⟨dX12_kindOf_46, rfl⟩ cb_99 ?_
      refine G_bipush (nx := 50) ⟨dX12_kindOf_48, rfl⟩ cb_108 ?_
      refine G_bipush (nx := 52) ⟨dX12_kindOf_50, rfl⟩ cb_117 ?_
      refine G_bipush (nx := 54) ⟨dX12_kindOf_52, rfl⟩ cb_98 ?_
      refine G_iconst (nx := 55) ⟨dX12_kindOf_54, rfl⟩ ci_0 ?_
      refine G_iconst (nx := 56) ⟨dX12_kindOf_55, rfl⟩ ci_0 ?_
      refine G_cv8 (nx := 59) ⟨dX12_kindOf_56, rfl⟩ kX12_294 rfl q_75 rfl (Nat.le_of_ble_eq_true rfl) (Nat.le_of_ble_eq_true rfl) (cM_isWord hq hpq ?_)
      refine G_ifeq (tgt := 64) (nx := 62) ⟨dX12_kindOf_59, rfl⟩ rfl (fun c_59 => ?_) (fun c_59 => ?_)
      · rw [bi_0] at c_59
        rw [if_neg (by rw [c_59]; decide)] at hk
        refine G_aload_0 (nx := 65) ⟨dX12_kindOf_64, rfl⟩ ?_
        refine G_iload_1 (nx := 66) ⟨dX12_kindOf_65, rfl⟩ ?_
        refine G_iload_2 (nx := 67) ⟨dX12_kindOf_66, rfl⟩ ?_
        refine G_bipush (nx := 69) ⟨dX12_kindOf_67, rfl⟩ cb_107 ?_
        refine G_bipush (nx := 71) ⟨dX12_kindOf_69, rfl⟩ cb_101 ?_
        refine G_bipush (nx := 73) ⟨dX12_kindOf_71, rfl⟩ cb_101 ?_
        refine G_bipush (nx := 75) ⟨dX12_kindOf_73, rfl⟩ cb_112 ?_
        refine G_bipush (nx := 77) ⟨dX12_kindOf_75, rfl⟩ cb_101 ?_
        refine G_bipush (nx := 79) ⟨dX12_kindOf_77, rfl⟩ cb_114 ?_
        refine G_cv8 (nx := 82) ⟨dX12_kindOf_79, rfl⟩ kX12_294 rfl q_75 rfl (Nat.le_of_ble_eq_true rfl) (Nat.le_of_ble_eq_true rfl) (cM_isWord hq hpq ?_)
        refine G_ifeq (tgt := 87) (nx := 85) ⟨dX12_kindOf_82, rfl⟩ rfl (fun c_82 => ?_) (fun c_82 => ?_)
        · rw [bi_0] at c_82
          rw [if_neg (by rw [c_82]; decide)] at hk
          refine G_aload_0 (nx := 88) ⟨dX12_kindOf_87, rfl⟩ ?_
          refine G_iload_1 (nx := 89) ⟨dX12_kindOf_88, rfl⟩ ?_
          refine G_iload_2 (nx := 90) ⟨dX12_kindOf_89, rfl⟩ ?_
          refine G_bipush (nx := 92) ⟨dX12_kindOf_90, rfl⟩ cb_103 ?_
          refine G_bipush (nx := 94) ⟨dX12_kindOf_92, rfl⟩ cb_117 ?_
          refine G_bipush (nx := 96) ⟨dX12_kindOf_94, rfl⟩ cb_105 ?_
          refine G_bipush (nx := 98) ⟨dX12_kindOf_96, rfl⟩ cb_108 ?_
          refine G_bipush (nx := 100) ⟨dX12_kindOf_98, rfl⟩ cb_100 ?_
          refine G_iconst (nx := 101) ⟨dX12_kindOf_100, rfl⟩ ci_0 ?_
          refine G_cv8 (nx := 104) ⟨dX12_kindOf_101, rfl⟩ kX12_294 rfl q_75 rfl (Nat.le_of_ble_eq_true rfl) (Nat.le_of_ble_eq_true rfl) (cM_isWord hq hpq ?_)
          refine G_ifeq (tgt := 109) (nx := 107) ⟨dX12_kindOf_104, rfl⟩ rfl (fun c_104 => ?_) (fun c_104 => ?_)
          · rw [bi_0] at c_104
            rw [if_neg (by rw [c_104]; decide)] at hk
            refine G_aload_0 (nx := 110) ⟨dX12_kindOf_109, rfl⟩ ?_
            refine G_iload_1 (nx := 111) ⟨dX12_kindOf_110, rfl⟩ ?_
            refine G_iload_2 (nx := 112) ⟨dX12_kindOf_111, rfl⟩ ?_
            refine G_bipush (nx := 114) ⟨dX12_kindOf_112, rfl⟩ cb_119 ?_
            refine G_bipush (nx := 116) ⟨dX12_kindOf_114, rfl⟩ cb_97 ?_
            refine G_bipush (nx := 118) ⟨dX12_kindOf_116, rfl⟩ cb_114 ?_
            refine G_bipush (nx := 120) ⟨dX12_kindOf_118, rfl⟩ cb_100 ?_
            refine G_bipush (nx := 122) ⟨dX12_kindOf_120, rfl⟩ cb_101 ?_
            refine G_bipush (nx := 124) ⟨dX12_kindOf_122, rfl⟩ cb_110 ?_
            refine G_cv8 (nx := 127) ⟨dX12_kindOf_124, rfl⟩ kX12_294 rfl q_75 rfl (Nat.le_of_ble_eq_true rfl) (Nat.le_of_ble_eq_true rfl) (cM_isWord hq hpq ?_)
            refine G_ifeq (tgt := 134) (nx := 130) ⟨dX12_kindOf_127, rfl⟩ rfl (fun c_127 => ?_) (fun c_127 => ?_)
            · rw [bi_0] at c_127
              rw [if_neg (by rw [c_127]; decide)] at hk
              refine G_iconst (nx := 135) ⟨dX12_kindOf_134, rfl⟩ ci_m1 ?_
              refine G_iret ⟨dX12_kindOf_135, rfl⟩ rfl ?_
              exact hk
            · rw [bi_n0] at c_127
              rw [if_pos c_127] at hk
              refine G_iconst (nx := 131) ⟨dX12_kindOf_130, rfl⟩ ci_5 ?_
              refine G_goto (tgt := 135) ⟨dX12_kindOf_131, rfl⟩ rfl ?_
              refine G_iret ⟨dX12_kindOf_135, rfl⟩ rfl ?_
              exact hk
          · rw [bi_n0] at c_104
            rw [if_pos c_104] at hk
            refine G_iconst (nx := 108) ⟨dX12_kindOf_107, rfl⟩ ci_4 ?_
            refine G_iret ⟨dX12_kindOf_108, rfl⟩ rfl ?_
            exact hk
        · rw [bi_n0] at c_82
          rw [if_pos c_82] at hk
          refine G_iconst (nx := 86) ⟨dX12_kindOf_85, rfl⟩ ci_3 ?_
          refine G_iret ⟨dX12_kindOf_86, rfl⟩ rfl ?_
          exact hk
      · rw [bi_n0] at c_59
        rw [if_pos c_59] at hk
        refine G_iconst (nx := 63) ⟨dX12_kindOf_62, rfl⟩ ci_2 ?_
        refine G_iret ⟨dX12_kindOf_63, rfl⟩ rfl ?_
        exact hk
    · rw [bi_n0] at c_38
      rw [if_pos c_38] at hk
      refine G_iconst (nx := 42) ⟨dX12_kindOf_41, rfl⟩ ci_1 ?_
      refine G_iret ⟨dX12_kindOf_42, rfl⟩ rfl ?_
      exact hk
  · rw [bi_n0] at c_17
    rw [if_pos c_17] at hk
    refine G_iconst (nx := 21) ⟨dX12_kindOf_20, rfl⟩ ci_0 ?_
    refine G_iret ⟨dX12_kindOf_21, rfl⟩ rfl ?_
    exact hk

end M33
