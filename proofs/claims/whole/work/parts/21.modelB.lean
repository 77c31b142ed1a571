def MG (I : AI) (n : Nat) (gr : Nat → Nat) : Prop := I 75 0 = nI n ∧ n ≤ 12 ∧ (∀ p, p < n → I 78 p = nI (gr p)) ∧ ∀ p, p < n → gr p < 2 ^ n
theorem cl_nI {p : Nat} (h : p < 2 ^ 31) : (nI p).toNatClampNeg = p := nI_clamp h
theorem MG.row {I : AI} {n p : Nat} {gr : Nat → Nat} (h : MG I n gr) (hp : p < n) : I 78 (nI p).toNatClampNeg = nI (gr p) := by
  rw [cl_nI (by have := h.2.1; omega)]
  exact h.2.2.1 p hp
theorem MG.lt {I : AI} {n p : Nat} {gr : Nat → Nat} (h : MG I n gr) (hp : p < n) : gr p < 4096 := Nat.lt_of_lt_of_le (h.2.2.2 p hp) (pow12 h.2.1)
theorem in12 {p n : Nat} (hp : p < n) (hn : n ≤ 12) : vp_in (nI p) 12 := vp_in_nI (by omega) (by decide)
theorem all_nI {n : Nat} (hn : n ≤ 12) : (1 : Int32) <<< (nI n &&& 31) - 1 = nI (2 ^ n - 1) := by
  rw [one_shl (by omega)]
  have h1 : (1 : Int32) = nI 1 := by decide
  rw [h1, pk_sub (Nat.one_le_two_pow)]
def stB (n : Nat) (s : Int32) : Bool := decide (s &&& (nI (2 ^ n - 1) ^^^ (-1)) = 0)
theorem i32_nI (s : Int32) : s = nI s.toBitVec.toNat := by
  apply i32_bv
  rw [nI_bv]
  apply BitVec.eq_of_toNat_eq
  simp
theorem nI_0iff {a : Nat} (h : a < 2 ^ 32) : nI a = 0 ↔ a = 0 := by
  constructor
  · intro q
    have := congrArg (fun x : Int32 => x.toBitVec.toNat) q
    simp only [nI_bv, BitVec.toNat_ofNat, Nat.mod_eq_of_lt h] at this
    simpa using this
  · intro q
    rw [q]
    rfl
theorem stB_ex {n : Nat} (hn : n ≤ 12) {s : Int32} (h : stB n s = true) : ∃ a, a < 2 ^ n ∧ s = nI a := by
  simp only [stB, decide_eq_true_eq] at h
  refine ⟨s.toBitVec.toNat, ?_, i32_nI s⟩
  have hlt : s.toBitVec.toNat < 2 ^ 32 := s.toBitVec.isLt
  rw [i32_nI s, nI_df _ hlt, nI_0iff (Nat.lt_of_le_of_lt (df_le _ _) hlt)] at h
  have hb : ∀ p, s.toBitVec.toNat.testBit p = true → p < n := by
    intro p hp
    have := congrArg (fun x : Nat => x.testBit p) h
    simp only [tb_df, hp, Nat.zero_testBit, Bool.true_and, Nat.testBit_two_pow_sub_one] at this
    simpa using this
  exact Nat.lt_pow_two_of_testBit _ (fun i hi => by
    cases q : s.toBitVec.toNat.testBit i with
    | false => rfl
    | true => exact absurd (hb i q) (by omega))
theorem stB_nI {n a : Nat} (hn : n ≤ 12) (ha : a < 2 ^ n) : stB n (nI a) = true := by
  simp only [stB, decide_eq_true_eq]
  have h1 := pow12 hn
  rw [nI_df _ (by omega), nI_0iff (Nat.lt_of_le_of_lt (df_le _ _) (by omega))]
  apply Nat.eq_of_testBit_eq
  intro p
  rw [tb_df, Nat.testBit_two_pow_sub_one, Nat.zero_testBit]
  cases q : a.testBit p with
  | false => rfl
  | true => simp [tb_ltn ha q]
/-- what one costs -/
def cst (k w l p : Int32) : Int32 :=
  let kp : Int32 := if 1 ≤ w + l - 2 then w + l - 2 else 1
  if k = 1 then w + l else if k = 2 then 2 * w else if k = 3 then kp else if k = 4 then 2 * w + p else if k = 5 then kp / 2 + 1 else w
theorem sw_ne15 {x : Int32} (h : x.toInt < 1 ∨ 5 < x.toInt) : ¬ x = 1 ∧ ¬ x = 2 ∧ ¬ x = 3 ∧ ¬ x = 4 ∧ ¬ x = 5 := by
  refine ⟨?_, ?_, ?_, ?_, ?_⟩ <;> (intro q; subst q; revert h; decide)
def cvF (gr : Nat → Nat) (s : Nat) (p : Nat) (b : Bool) : Bool := b && (s.testBit p || decide (df (gr p) s = 0))
def covB (n : Nat) (gr : Nat → Nat) (s : Nat) : Bool := lp (cvF gr s) n true
def brF (gr : Nat → Nat) (s : Nat) (p : Nat) (b : Bool) : Bool := b && (!s.testBit p || !decide (df (gr p) s = 0))
def barB (n : Nat) (gr : Nat → Nat) (s : Nat) : Bool := lp (brF gr s) n (covB n gr s)
section M21
variable {l : Launch} {d : Nat} {K : AK} {I : AI} {J : AJ} {g : Bool} {n : Nat} {gr : Nat → Nat}

theorem lM_first {a q : Nat} (ha : a < 4096) (hq : a.testBit q = true) (hmin : ∀ p, p < q → a.testBit p = false) (hk : K (.int (nI q)) I J (rX g)) : ∀ (k p : Nat), q - p = k → p ≤ q → G l (d + 1) mX12_first K 2 [.int (nI a), .int (nI p)] [] I J (rX g) := by
  intro k
  induction k using Nat.strongRecOn with
  | _ k ih =>
  intro p hp hpq
  have hq12 : q < 12 := tb_lt ha hq
  refine G_iload_0 (nx := 3) ⟨dX12_first_2, rfl⟩ ?_
  refine G_iload_1 (nx := 4) ⟨dX12_first_3, rfl⟩ ?_
  refine G_cs2 (nx := 7) ⟨dX12_first_4, rfl⟩ kX12_118 rfl rfl (Nat.le_of_ble_eq_true rfl) (Nat.le_of_ble_eq_true rfl) (cM_has (lt31 ha) (by omega) ?_)
  refine G_ifne (tgt := 16) (nx := 10) ⟨dX12_first_7, rfl⟩ rfl (fun c_7 => ?_) (fun c_7 => ?_)
  · refine G_iload_1 (nx := 17) ⟨dX12_first_16, rfl⟩ ?_
    refine G_iret ⟨dX12_first_17, rfl⟩ rfl ?_
    rw [bi_n0] at c_7
    have : p = q := by
      rcases Nat.lt_or_ge p q with h | h
      · rw [hmin p h] at c_7
        cases c_7
      · omega
    rw [this]
    exact hk
  · refine G_iinc_1 (nx := 13) ⟨dX12_first_10, rfl⟩ ci_1 rfl ?_
    refine G_goto (tgt := 2) ⟨dX12_first_13, rfl⟩ rfl ?_
    rw [bi_0] at c_7
    have hpq' : p < q := by
      rcases Nat.lt_or_ge p q with h | h
      · exact h
      · rw [show p = q by omega, hq] at c_7
        cases c_7
    refine G_L (by rw [nI_1]) (ih (q - (p + 1)) (by omega) (p + 1) rfl (by omega))

theorem cM_first {a q : Nat} (ha : a < 4096) (hq : a.testBit q = true) (hmin : ∀ p, p < q → a.testBit p = false) (hk : K (.int (nI q)) I J (rX g)) : G l (d + 1) mX12_first K 0 [.int (nI a), UU] [] I J (rX g) := by
  refine G_iconst (nx := 1) ⟨dX12_first_0, rfl⟩ ci_0 ?_
  refine G_istore_1 (nx := 2) ⟨dX12_first_1, rfl⟩ rfl rfl ?_
  exact lM_first ha hq hmin hk _ 0 rfl (Nat.zero_le _)

theorem cM_all (hG : MG I n gr) (hk : K (.int (nI (2 ^ n - 1))) I J (rX g)) : G l d mX12_all K 0 [.ref 75] [] I J (rX g) := by
  refine G_iconst (nx := 1) ⟨dX12_all_0, rfl⟩ ci_1 ?_
  refine G_aload_0 (nx := 2) ⟨dX12_all_1, rfl⟩ ?_
  refine G_geti (nx := 5) (k := 75) ⟨dX12_all_2, rfl⟩ fX12_122 q_75 yi_12_0 ?_
  refine G_ishl (nx := 6) ⟨dX12_all_5, rfl⟩ ?_
  refine G_iconst (nx := 7) ⟨dX12_all_6, rfl⟩ ci_1 ?_
  refine G_isub (nx := 8) ⟨dX12_all_7, rfl⟩ ?_
  refine G_iret ⟨dX12_all_8, rfl⟩ rfl ?_
  rw [hG.1, all_nI hG.2.1]
  exact hk

theorem cM_isPoint {p : Int32} (hG : MG I n gr) (hk : K (.int (bi (ptB n p))) I J (rX g)) : G l (d + 1) mX12_isPoint K 0 [.ref 75, .int p] [] I J (rX g) := by
  refine G_iload_1 (nx := 1) ⟨dX12_isPoint_0, rfl⟩ ?_
  refine G_iconst (nx := 2) ⟨dX12_isPoint_1, rfl⟩ ci_0 ?_
  refine G_aload_0 (nx := 3) ⟨dX12_isPoint_2, rfl⟩ ?_
  refine G_geti (nx := 6) (k := 75) ⟨dX12_isPoint_3, rfl⟩ fX12_122 q_75 yi_12_0 ?_
  refine G_iconst (nx := 7) ⟨dX12_isPoint_6, rfl⟩ ci_1 ?_
  refine G_isub (nx := 8) ⟨dX12_isPoint_7, rfl⟩ ?_
  refine G_cs3 (nx := 11) ⟨dX12_isPoint_8, rfl⟩ kX12_125 rfl rfl (Nat.le_of_ble_eq_true rfl) (Nat.le_of_ble_eq_true rfl) (cM_in ?_)
  refine G_zret ⟨dX12_isPoint_11, rfl⟩ rfl (by first | assumption | decide | exact bi_01 _) ?_
  rw [hG.1, ptB_in (by have := hG.2.1; omega)]
  exact hk

theorem cM_isSet {s : Int32} (hG : MG I n gr) (hk : K (.int (bi (stB n s))) I J (rX g)) : G l (d + 1) mX12_isSet K 0 [.ref 75, .int s] [] I J (rX g) := by
  refine G_iload_1 (nx := 1) ⟨dX12_isSet_0, rfl⟩ ?_
  refine G_aload_0 (nx := 2) ⟨dX12_isSet_1, rfl⟩ ?_
  refine G_cv0 (nx := 5) ⟨dX12_isSet_2, rfl⟩ kX12_129 rfl q_75 rfl (Nat.le_of_ble_eq_true rfl) (Nat.le_of_ble_eq_true rfl) (cM_all hG ?_)
  refine G_iconst (nx := 6) ⟨dX12_isSet_5, rfl⟩ ci_m1 ?_
  refine G_ixor (nx := 7) ⟨dX12_isSet_6, rfl⟩ ?_
  refine G_iand (nx := 8) ⟨dX12_isSet_7, rfl⟩ ?_
  refine G_ifne (tgt := 15) (nx := 11) ⟨dX12_isSet_8, rfl⟩ rfl (fun c_8 => ?_) (fun c_8 => ?_)
  · refine G_iconst (nx := 16) ⟨dX12_isSet_15, rfl⟩ ci_0 ?_
    refine G_zret ⟨dX12_isSet_16, rfl⟩ rfl (by first | assumption | decide | exact bi_01 _) ?_
    first | (rw [show stB n s = true from decide_eq_true c_8] at hk; exact hk) | (rw [show stB n s = false from decide_eq_false c_8] at hk; exact hk)
  · refine G_iconst (nx := 12) ⟨dX12_isSet_11, rfl⟩ ci_1 ?_
    refine G_goto (tgt := 16) ⟨dX12_isSet_12, rfl⟩ rfl ?_
    refine G_zret ⟨dX12_isSet_16, rfl⟩ rfl (by first | assumption | decide | exact bi_01 _) ?_
    first | (rw [show stB n s = true from decide_eq_true c_8] at hk; exact hk) | (rw [show stB n s = false from decide_eq_false c_8] at hk; exact hk)

theorem cM_cost {k w l0 p : Int32} (hk : K (.int (cst k w l0 p)) I J (rX g)) : G l d mX12_cost K 0 [.int k, .int w, .int l0, .int p, UU] [] I J (rX g) := by
  refine G_iload_1 (nx := 1) ⟨dX12_cost_0, rfl⟩ ?_
  refine G_iload_2 (nx := 2) ⟨dX12_cost_1, rfl⟩ ?_
  refine G_iadd (nx := 3) ⟨dX12_cost_2, rfl⟩ ?_
  refine G_iconst (nx := 4) ⟨dX12_cost_3, rfl⟩ ci_2 ?_
  refine G_isub (nx := 5) ⟨dX12_cost_4, rfl⟩ ?_
  refine G_iconst (nx := 6) ⟨dX12_cost_5, rfl⟩ ci_1 ?_
  refine G_icmpge (tgt := 13) (nx := 9) ⟨dX12_cost_6, rfl⟩ rfl (fun c_6 => ?_) (fun c_6 => ?_)
  · refine G_iload_1 (nx := 14) ⟨dX12_cost_13, rfl⟩ ?_
    refine G_iload_2 (nx := 15) ⟨dX12_cost_14, rfl⟩ ?_
    refine G_iadd (nx := 16) ⟨dX12_cost_15, rfl⟩ ?_
    refine G_iconst (nx := 17) ⟨dX12_cost_16, rfl⟩ ci_2 ?_
    refine G_isub (nx := 18) ⟨dX12_cost_17, rfl⟩ ?_
    refine G_istore_4 (nx := 20) ⟨dX12_cost_18, rfl⟩ rfl rfl ?_
    refine G_iload_0 (nx := 21) ⟨dX12_cost_20, rfl⟩ ?_
    rcases sw_1_5 _ with c_21 | c_21 | c_21 | c_21 | c_21 | c_21
    · refine G_tabAt (v := 1) (tgt := 56) (nx := 56) ⟨dX12_cost_21, rfl⟩ c_21 (by decide) (by decide) (off := 35) rfl rfl ?_
      refine G_iload_1 (nx := 57) ⟨dX12_cost_56, rfl⟩ ?_
      refine G_iload_2 (nx := 58) ⟨dX12_cost_57, rfl⟩ ?_
      refine G_iadd (nx := 59) ⟨dX12_cost_58, rfl⟩ ?_
      refine G_iret ⟨dX12_cost_59, rfl⟩ rfl ?_
      refine K_v (congrArg Value.int ?_) hk
      first | (simp [cst, c_6, c_21]; done) | (simp only [sw_ne15 c_21, cst, c_6, c_21]; simp; done)
    · refine G_tabAt (v := 2) (tgt := 60) (nx := 56) ⟨dX12_cost_21, rfl⟩ c_21 (by decide) (by decide) (off := 39) rfl rfl ?_
      refine G_iconst (nx := 61) ⟨dX12_cost_60, rfl⟩ ci_2 ?_
      refine G_iload_1 (nx := 62) ⟨dX12_cost_61, rfl⟩ ?_
      refine G_imul (nx := 63) ⟨dX12_cost_62, rfl⟩ ?_
      refine G_iret ⟨dX12_cost_63, rfl⟩ rfl ?_
      refine K_v (congrArg Value.int ?_) hk
      first | (simp [cst, c_6, c_21]; done) | (simp only [sw_ne15 c_21, cst, c_6, c_21]; simp; done)
    · refine G_tabAt (v := 3) (tgt := 64) (nx := 56) ⟨dX12_cost_21, rfl⟩ c_21 (by decide) (by decide) (off := 43) rfl rfl ?_
      refine G_iload_4 (nx := 66) ⟨dX12_cost_64, rfl⟩ ?_
      refine G_iret ⟨dX12_cost_66, rfl⟩ rfl ?_
      refine K_v (congrArg Value.int ?_) hk
      first | (simp [cst, c_6, c_21]; done) | (simp only [sw_ne15 c_21, cst, c_6, c_21]; simp; done)
    · refine G_tabAt (v := 4) (tgt := 67) (nx := 56) ⟨dX12_cost_21, rfl⟩ c_21 (by decide) (by decide) (off := 46) rfl rfl ?_
      refine G_iconst (nx := 68) ⟨dX12_cost_67, rfl⟩ ci_2 ?_
      refine G_iload_1 (nx := 69) ⟨dX12_cost_68, rfl⟩ ?_
      refine G_imul (nx := 70) ⟨dX12_cost_69, rfl⟩ ?_
      refine G_iload_3 (nx := 71) ⟨dX12_cost_70, rfl⟩ ?_
      refine G_iadd (nx := 72) ⟨dX12_cost_71, rfl⟩ ?_
      refine G_iret ⟨dX12_cost_72, rfl⟩ rfl ?_
      refine K_v (congrArg Value.int ?_) hk
      first | (simp [cst, c_6, c_21]; done) | (simp only [sw_ne15 c_21, cst, c_6, c_21]; simp; done)
    · refine G_tabAt (v := 5) (tgt := 73) (nx := 56) ⟨dX12_cost_21, rfl⟩ c_21 (by decide) (by decide) (off := 52) rfl rfl ?_
      refine G_iload_4 (nx := 75) ⟨dX12_cost_73, rfl⟩ ?_
      refine G_iconst (nx := 76) ⟨dX12_cost_75, rfl⟩ ci_2 ?_
      refine G_idiv (nx := 77) ⟨dX12_cost_76, rfl⟩ (by decide) ?_
      refine G_iconst (nx := 78) ⟨dX12_cost_77, rfl⟩ ci_1 ?_
      refine G_iadd (nx := 79) ⟨dX12_cost_78, rfl⟩ ?_
      refine G_iret ⟨dX12_cost_79, rfl⟩ rfl ?_
      refine K_v (congrArg Value.int ?_) hk
      first | (simp [cst, c_6, c_21]; done) | (simp only [sw_ne15 c_21, cst, c_6, c_21]; simp; done)
    · refine G_tabOut (tgt := 80) (nx := 56) ⟨dX12_cost_21, rfl⟩ c_21 rfl ?_
      refine G_iload_1 (nx := 81) ⟨dX12_cost_80, rfl⟩ ?_
      refine G_iret ⟨dX12_cost_81, rfl⟩ rfl ?_
      refine K_v (congrArg Value.int ?_) hk
      first | (simp [cst, c_6, c_21]; done) | (simp only [sw_ne15 c_21, cst, c_6, c_21]; simp; done)
  · refine G_iconst (nx := 10) ⟨dX12_cost_9, rfl⟩ ci_1 ?_
    refine G_goto (tgt := 18) ⟨dX12_cost_10, rfl⟩ rfl ?_
    refine G_istore_4 (nx := 20) ⟨dX12_cost_18, rfl⟩ rfl rfl ?_
    refine G_iload_0 (nx := 21) ⟨dX12_cost_20, rfl⟩ ?_
    rcases sw_1_5 _ with c_21 | c_21 | c_21 | c_21 | c_21 | c_21
    · refine G_tabAt (v := 1) (tgt := 56) (nx := 56) ⟨dX12_cost_21, rfl⟩ c_21 (by decide) (by decide) (off := 35) rfl rfl ?_
      refine G_iload_1 (nx := 57) ⟨dX12_cost_56, rfl⟩ ?_
      refine G_iload_2 (nx := 58) ⟨dX12_cost_57, rfl⟩ ?_
      refine G_iadd (nx := 59) ⟨dX12_cost_58, rfl⟩ ?_
      refine G_iret ⟨dX12_cost_59, rfl⟩ rfl ?_
      refine K_v (congrArg Value.int ?_) hk
      first | (simp [cst, c_6, c_21]; done) | (simp only [sw_ne15 c_21, cst, c_6, c_21]; simp; done)
    · refine G_tabAt (v := 2) (tgt := 60) (nx := 56) ⟨dX12_cost_21, rfl⟩ c_21 (by decide) (by decide) (off := 39) rfl rfl ?_
      refine G_iconst (nx := 61) ⟨dX12_cost_60, rfl⟩ ci_2 ?_
      refine G_iload_1 (nx := 62) ⟨dX12_cost_61, rfl⟩ ?_
      refine G_imul (nx := 63) ⟨dX12_cost_62, rfl⟩ ?_
      refine G_iret ⟨dX12_cost_63, rfl⟩ rfl ?_
      refine K_v (congrArg Value.int ?_) hk
      first | (simp [cst, c_6, c_21]; done) | (simp only [sw_ne15 c_21, cst, c_6, c_21]; simp; done)
    · refine G_tabAt (v := 3) (tgt := 64) (nx := 56) ⟨dX12_cost_21, rfl⟩ c_21 (by decide) (by decide) (off := 43) rfl rfl ?_
      refine G_iload_4 (nx := 66) ⟨dX12_cost_64, rfl⟩ ?_
      refine G_iret ⟨dX12_cost_66, rfl⟩ rfl ?_
      refine K_v (congrArg Value.int ?_) hk
      first | (simp [cst, c_6, c_21]; done) | (simp only [sw_ne15 c_21, cst, c_6, c_21]; simp; done)
    · refine G_tabAt (v := 4) (tgt := 67) (nx := 56) ⟨dX12_cost_21, rfl⟩ c_21 (by decide) (by decide) (off := 46) rfl rfl ?_
      refine G_iconst (nx := 68) ⟨dX12_cost_67, rfl⟩ ci_2 ?_
      refine G_iload_1 (nx := 69) ⟨dX12_cost_68, rfl⟩ ?_
      refine G_imul (nx := 70) ⟨dX12_cost_69, rfl⟩ ?_
      refine G_iload_3 (nx := 71) ⟨dX12_cost_70, rfl⟩ ?_
      refine G_iadd (nx := 72) ⟨dX12_cost_71, rfl⟩ ?_
      refine G_iret ⟨dX12_cost_72, rfl⟩ rfl ?_
      refine K_v (congrArg Value.int ?_) hk
      first | (simp [cst, c_6, c_21]; done) | (simp only [sw_ne15 c_21, cst, c_6, c_21]; simp; done)
    · refine G_tabAt (v := 5) (tgt := 73) (nx := 56) ⟨dX12_cost_21, rfl⟩ c_21 (by decide) (by decide) (off := 52) rfl rfl ?_
      refine G_iload_4 (nx := 75) ⟨dX12_cost_73, rfl⟩ ?_
      refine G_iconst (nx := 76) ⟨dX12_cost_75, rfl⟩ ci_2 ?_
      refine G_idiv (nx := 77) ⟨dX12_cost_76, rfl⟩ (by decide) ?_
      refine G_iconst (nx := 78) ⟨dX12_cost_77, rfl⟩ ci_1 ?_
      refine G_iadd (nx := 79) ⟨dX12_cost_78, rfl⟩ ?_
      refine G_iret ⟨dX12_cost_79, rfl⟩ rfl ?_
      refine K_v (congrArg Value.int ?_) hk
      first | (simp [cst, c_6, c_21]; done) | (simp only [sw_ne15 c_21, cst, c_6, c_21]; simp; done)
    · refine G_tabOut (tgt := 80) (nx := 56) ⟨dX12_cost_21, rfl⟩ c_21 rfl ?_
      refine G_iload_1 (nx := 81) ⟨dX12_cost_80, rfl⟩ ?_
      refine G_iret ⟨dX12_cost_81, rfl⟩ rfl ?_
      refine K_v (congrArg Value.int ?_) hk
      first | (simp [cst, c_6, c_21]; done) | (simp only [sw_ne15 c_21, cst, c_6, c_21]; simp; done)

theorem cM_costAt {p : Nat} (hG : MG I n gr) (hp : p < n) (hk : K (.int (cst (I 76 p) (I 77 p) (nI (pc (gr p))) (nI p))) I J (rX g)) : G l (d + 1) mX12_costAt K 0 [.ref 75, .int (nI p)] [] I J (rX g) := by
  have h12 := in12 hp hG.2.1
  have ec := cl_nI (p := p) (by have := hG.2.1; omega)
  refine G_aload_0 (nx := 1) ⟨dX12_costAt_0, rfl⟩ ?_
  refine G_getr (nx := 4) (k := 75) (r := 76) ⟨dX12_costAt_1, rfl⟩ fX12_13 q_75 yr_12_2 (r_75_2 _) ?_
  refine G_iload_1 (nx := 5) ⟨dX12_costAt_4, rfl⟩ ?_
  refine G_iald (nx := 6) (k := 76) ⟨dX12_costAt_5, rfl⟩ q_76 (by first | assumption | decide) ?_
  refine G_aload_0 (nx := 7) ⟨dX12_costAt_6, rfl⟩ ?_
  refine G_getr (nx := 10) (k := 75) (r := 77) ⟨dX12_costAt_7, rfl⟩ fX12_17 q_75 yr_12_3 (r_75_3 _) ?_
  refine G_iload_1 (nx := 11) ⟨dX12_costAt_10, rfl⟩ ?_
  refine G_iald (nx := 12) (k := 77) ⟨dX12_costAt_11, rfl⟩ q_77 (by first | assumption | decide) ?_
  refine G_aload_0 (nx := 13) ⟨dX12_costAt_12, rfl⟩ ?_
  refine G_getr (nx := 16) (k := 75) (r := 78) ⟨dX12_costAt_13, rfl⟩ fX12_20 q_75 yr_12_4 (r_75_4 _) ?_
  refine G_iload_1 (nx := 17) ⟨dX12_costAt_16, rfl⟩ ?_
  refine G_iald (nx := 18) (k := 78) ⟨dX12_costAt_17, rfl⟩ q_78 (by first | assumption | decide) ?_
  rw [hG.row hp, ec]
  refine G_cs1 (nx := 21) ⟨dX12_costAt_18, rfl⟩ kX12_133 rfl rfl (Nat.le_of_ble_eq_true rfl) (Nat.le_of_ble_eq_true rfl) (cM_bits (hG.lt hp) ?_)
  refine G_iload_1 (nx := 22) ⟨dX12_costAt_21, rfl⟩ ?_
  refine G_cs4 (nx := 25) ⟨dX12_costAt_22, rfl⟩ kX12_137 rfl rfl (Nat.le_of_ble_eq_true rfl) (Nat.le_of_ble_eq_true rfl) (cM_cost ?_)
  refine G_iret ⟨dX12_costAt_25, rfl⟩ rfl ?_
  exact hk

theorem lM_covers {s : Nat} (hG : MG I n gr) (hs : s < 4096) (hk : K (.int (bi (covB n gr s))) I J (rX g)) : ∀ (k p : Nat), n - p = k → p ≤ n → G l (d + 1) mX12_covers K 4 [.ref 75, .int (nI s), .int (bi (lp (cvF gr s) p true)), .int (nI p)] [] I J (rX g) := by
  intro k
  induction k using Nat.strongRecOn with
  | _ k ih =>
  intro p hpk hpn
  have hn := hG.2.1
  have e0 := hG.1
  refine G_iload_3 (nx := 5) ⟨dX12_covers_4, rfl⟩ ?_
  refine G_aload_0 (nx := 6) ⟨dX12_covers_5, rfl⟩ ?_
  refine G_geti (nx := 9) (k := 75) ⟨dX12_covers_6, rfl⟩ fX12_122 q_75 yi_12_0 ?_
  rw [e0]
  refine G_icmpge (tgt := 49) (nx := 12) ⟨dX12_covers_9, rfl⟩ rfl (fun c_9 => ?_) (fun c_9 => ?_)
  · refine G_iload_2 (nx := 50) ⟨dX12_covers_49, rfl⟩ ?_
    refine G_zret ⟨dX12_covers_50, rfl⟩ rfl (by exact bi_01 _) ?_
    rw [nI_le_iff (by omega) (by omega)] at c_9
    have : p = n := by omega
    rw [this]
    exact hk
  · rw [nI_le_iff (by omega) (by omega)] at c_9
    have hp : p < n := by omega
    have h12 := in12 hp hn
    refine G_iload_2 (nx := 13) ⟨dX12_covers_12, rfl⟩ ?_
    refine G_ifeq (tgt := 41) (nx := 16) ⟨dX12_covers_13, rfl⟩ rfl (fun c_13 => ?_) (fun c_13 => ?_)
    · refine G_iconst (nx := 42) ⟨dX12_covers_41, rfl⟩ ci_0 ?_
      refine G_istore_2 (nx := 43) ⟨dX12_covers_42, rfl⟩ rfl rfl ?_
      refine G_iinc_3 (nx := 46) ⟨dX12_covers_43, rfl⟩ ci_1 rfl ?_
      refine G_goto (tgt := 4) ⟨dX12_covers_46, rfl⟩ rfl ?_
      rw [bi_0] at c_13
      refine G_L (by simp [lp_s, cvF, c_9, c_13, nI_1, bi]) (ih (n - (p + 1)) (by omega) (p + 1) rfl (by omega))
    · rw [bi_n0] at c_13
      refine G_iload_1 (nx := 17) ⟨dX12_covers_16, rfl⟩ ?_
      refine G_iload_3 (nx := 18) ⟨dX12_covers_17, rfl⟩ ?_
      refine G_cs2 (nx := 21) ⟨dX12_covers_18, rfl⟩ kX12_118 rfl rfl (Nat.le_of_ble_eq_true rfl) (Nat.le_of_ble_eq_true rfl) (cM_has (lt31 hs) (by omega) ?_)
      refine G_ifne (tgt := 37) (nx := 24) ⟨dX12_covers_21, rfl⟩ rfl (fun c_21 => ?_) (fun c_21 => ?_)
      · refine G_iconst (nx := 38) ⟨dX12_covers_37, rfl⟩ ci_1 ?_
        refine G_goto (tgt := 42) ⟨dX12_covers_38, rfl⟩ rfl ?_
        refine G_istore_2 (nx := 43) ⟨dX12_covers_42, rfl⟩ rfl rfl ?_
        refine G_iinc_3 (nx := 46) ⟨dX12_covers_43, rfl⟩ ci_1 rfl ?_
        refine G_goto (tgt := 4) ⟨dX12_covers_46, rfl⟩ rfl ?_
        rw [bi_n0] at c_21
        refine G_L (by simp [lp_s, cvF, c_9, c_13, c_21, nI_1, bi]) (ih (n - (p + 1)) (by omega) (p + 1) rfl (by omega))
      · rw [bi_0] at c_21
        refine G_aload_0 (nx := 25) ⟨dX12_covers_24, rfl⟩ ?_
        refine G_getr (nx := 28) (k := 75) (r := 78) ⟨dX12_covers_25, rfl⟩ fX12_20 q_75 yr_12_4 (r_75_4 _) ?_
        refine G_iload_3 (nx := 29) ⟨dX12_covers_28, rfl⟩ ?_
        refine G_iald (nx := 30) (k := 78) ⟨dX12_covers_29, rfl⟩ q_78 (by first | assumption | decide) ?_
        rw [hG.row hp]
        refine G_iload_1 (nx := 31) ⟨dX12_covers_30, rfl⟩ ?_
        refine G_iconst (nx := 32) ⟨dX12_covers_31, rfl⟩ ci_m1 ?_
        refine G_ixor (nx := 33) ⟨dX12_covers_32, rfl⟩ ?_
        refine G_iand (nx := 34) ⟨dX12_covers_33, rfl⟩ ?_
        rw [nI_df _ (by have := hG.lt hp; omega)]
        refine G_ifne (tgt := 41) (nx := 37) ⟨dX12_covers_34, rfl⟩ rfl (fun c_34 => ?_) (fun c_34 => ?_)
        · refine G_iconst (nx := 42) ⟨dX12_covers_41, rfl⟩ ci_0 ?_
          refine G_istore_2 (nx := 43) ⟨dX12_covers_42, rfl⟩ rfl rfl ?_
          refine G_iinc_3 (nx := 46) ⟨dX12_covers_43, rfl⟩ ci_1 rfl ?_
          refine G_goto (tgt := 4) ⟨dX12_covers_46, rfl⟩ rfl ?_
          rw [nI_0iff (Nat.lt_of_le_of_lt (df_le _ _) (by have := hG.lt hp; omega))] at c_34
          refine G_L (by simp [lp_s, cvF, c_9, c_13, c_21, c_34, nI_1, bi]) (ih (n - (p + 1)) (by omega) (p + 1) rfl (by omega))
        · refine G_iconst (nx := 38) ⟨dX12_covers_37, rfl⟩ ci_1 ?_
          refine G_goto (tgt := 42) ⟨dX12_covers_38, rfl⟩ rfl ?_
          refine G_istore_2 (nx := 43) ⟨dX12_covers_42, rfl⟩ rfl rfl ?_
          refine G_iinc_3 (nx := 46) ⟨dX12_covers_43, rfl⟩ ci_1 rfl ?_
          refine G_goto (tgt := 4) ⟨dX12_covers_46, rfl⟩ rfl ?_
          rw [nI_0iff (Nat.lt_of_le_of_lt (df_le _ _) (by have := hG.lt hp; omega))] at c_34
          refine G_L (by simp [lp_s, cvF, c_9, c_13, c_21, c_34, nI_1, bi]) (ih (n - (p + 1)) (by omega) (p + 1) rfl (by omega))

theorem cM_covers {s : Nat} (hG : MG I n gr) (hs : s < 4096) (hk : K (.int (bi (covB n gr s))) I J (rX g)) : G l (d + 1) mX12_covers K 0 [.ref 75, .int (nI s), UU, UU] [] I J (rX g) := by
  refine G_iconst (nx := 1) ⟨dX12_covers_0, rfl⟩ ci_1 ?_
  refine G_istore_2 (nx := 2) ⟨dX12_covers_1, rfl⟩ rfl rfl ?_
  refine G_iconst (nx := 3) ⟨dX12_covers_2, rfl⟩ ci_0 ?_
  refine G_istore_3 (nx := 4) ⟨dX12_covers_3, rfl⟩ rfl rfl ?_
  exact lM_covers hG hs hk _ 0 rfl (Nat.zero_le _)

end M21
