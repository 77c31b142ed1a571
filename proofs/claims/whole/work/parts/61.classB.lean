
/-- a net of the class: its object and rows -/
def NT (o a b c e : Nat) : Prop := isO o 4 ∧ isA a 12 ∧ isA b 12 ∧ isA c 12 ∧ isA e 12 ∧ (∀ g, rX g o 0 = some a ∧ rX g o 1 = some b ∧ rX g o 2 = some c ∧ rX g o 3 = some e) ∧ o < a ∧ a < b ∧ b < c ∧ c < e
theorem nt1 : NT 1 2 3 4 5 := ⟨q_1, q_2, q_3, q_4, q_5, fun g => ⟨r_1_0 g, r_1_1 g, r_1_2 g, r_1_3 g⟩, by decide, by decide, by decide, by decide⟩
theorem nt6 : NT 6 7 8 9 10 := ⟨q_6, q_7, q_8, q_9, q_10, fun g => ⟨r_6_0 g, r_6_1 g, r_6_2 g, r_6_3 g⟩, by decide, by decide, by decide, by decide⟩
theorem nt11 : NT 11 12 13 14 15 := ⟨q_11, q_12, q_13, q_14, q_15, fun g => ⟨r_11_0 g, r_11_1 g, r_11_2 g, r_11_3 g⟩, by decide, by decide, by decide, by decide⟩
def RG (I : AI) (c n : Nat) (gr : Nat → Nat) : Prop := n ≤ 12 ∧ (∀ p, p < n → I c p = nI (gr p)) ∧ ∀ p, p < n → gr p < 2 ^ n
def XG (I : AI) (o c n : Nat) (gr : Nat → Nat) : Prop := I o 4 = nI n ∧ RG I c n gr
theorem RG.row {I : AI} {c n p : Nat} {gr : Nat → Nat} (h : RG I c n gr) (hp : p < n) : I c (nI p).toNatClampNeg = nI (gr p) := by
  rw [cl_nI (by have := h.1; omega)]
  exact h.2.1 p hp
theorem RG.lt {I : AI} {c n p : Nat} {gr : Nat → Nat} (h : RG I c n gr) (hp : p < n) : gr p < 4096 := Nat.lt_of_lt_of_le (h.2.2 p hp) (pow12 h.1)
theorem RG.cg {I I' : AI} {c n : Nat} {gr : Nat → Nat} (h : RG I c n gr) (e : ∀ p, p < 12 → I' c p = I c p) : RG I' c n gr := ⟨h.1, fun p hp => by rw [e p (by have := h.1; omega)]; exact h.2.1 p hp, h.2.2⟩
theorem XG.cg {I I' : AI} {o c n : Nat} {gr : Nat → Nat} (h : XG I o c n gr) (e0 : I' o 4 = I o 4) (e : ∀ p, p < 12 → I' c p = I c p) : XG I' o c n gr := ⟨by rw [e0]; exact h.1, h.2.cg e⟩
theorem XG.sb {I I' : AI} {o c n : Nat} {gr : Nat → Nat} {F : Nat → Nat → Bool} (h : XG I o c n gr) (hs : sb F I I') (e0 : F o 4 = false) (e : ∀ p, F c p = false) : XG I' o c n gr := h.cg (hs o 4 e0) (fun p _ => hs c p (e p))
theorem RG.sb {I I' : AI} {c n : Nat} {gr : Nat → Nat} {F : Nat → Nat → Bool} (h : RG I c n gr) (hs : sb F I I') (e : ∀ p, F c p = false) : RG I' c n gr := h.cg (fun p _ => hs c p (e p))
theorem brF_b (gr : Nat → Nat) (s : Nat) (b : Bool) : ∀ n, lp (brF gr s) n b = (b && lp (brF gr s) n true) := by
  intro n
  induction n with
  | zero => simp [lp]
  | succ n ih => rw [lp_s, lp_s, ih]; unfold brF; rw [Bool.and_assoc]
def ndB (n : Nat) (gr : Nat → Nat) (s : Nat) : Bool := lp (brF gr s) n true
theorem ndB_bar (n : Nat) (gr : Nat → Nat) (s : Nat) : barB n gr s = (covB n gr s && ndB n gr s) := brF_b gr s (covB n gr s) n
theorem setb_1 (x b : Nat) : setb x b 1 = x ||| 2 ^ b := by
  unfold setb
  apply Nat.eq_of_testBit_eq
  intro p
  rw [Nat.one_mul, Nat.testBit_or, Nat.testBit_or, tb_df]
  cases x.testBit p <;> cases (2 ^ b).testBit p <;> rfl
theorem setb_0 (x b : Nat) : setb x b 0 = df x (2 ^ b) := by
  unfold setb
  rw [Nat.zero_mul, Nat.or_zero]
theorem cvF_f (gr : Nat → Nat) (s : Nat) : ∀ n k, k ≤ n → lp (cvF gr s) k true = false → lp (cvF gr s) n true = false := by
  intro n
  induction n with
  | zero => intro k hk h; have : k = 0 := by omega
            subst this; exact h
  | succ n ih =>
    intro k hk h
    by_cases e : k = n + 1
    · rw [← e]; exact h
    · rw [lp_s, cvF, ih k (by omega) h, Bool.false_and]
theorem brF_f (gr : Nat → Nat) (s : Nat) : ∀ n k, k ≤ n → lp (brF gr s) k true = false → lp (brF gr s) n true = false := by
  intro n
  induction n with
  | zero => intro k hk h; have : k = 0 := by omega
            subst this; exact h
  | succ n ih =>
    intro k hk h
    by_cases e : k = n + 1
    · rw [← e]; exact h
    · rw [lp_s, brF, ih k (by omega) h, Bool.false_and]
section X61
variable {l : Launch} {d : Nat} {K : AK} {I : AI} {J : AJ} {g : Bool} {n : Nat} {gr : Nat → Nat}

theorem cN_has {p : Int32} {o a b c e : Nat} (hN : NT o a b c e) (hX : XG I o c n gr) (hk : K (.int (bi (ptB n p))) I J (rX g)) : G l d mX4_has K 0 [.ref o, .int p] [] I J (rX g) := by
  have hn := hX.2.1
  refine G_iload_1 (nx := 1) ⟨dX4_has_0, rfl⟩ ?_
  refine G_iflt (tgt := 16) (nx := 4) ⟨dX4_has_1, rfl⟩ rfl (fun c_1 => ?_) (fun c_1 => ?_)
  · refine G_iconst (nx := 17) ⟨dX4_has_16, rfl⟩ ci_0 ?_
    refine G_zret ⟨dX4_has_17, rfl⟩ rfl (by first | assumption | decide | exact bi_01 _) ?_
    refine K_v (congrArg Value.int ?_) hk
    rw [show ptB n p = false from decide_eq_false (by rw [i32_lt, toInt_0] at c_1; omega)]; rfl
  · refine G_iload_1 (nx := 5) ⟨dX4_has_4, rfl⟩ ?_
    refine G_aload_0 (nx := 6) ⟨dX4_has_5, rfl⟩ ?_
    refine G_geti (nx := 9) (k := o) ⟨dX4_has_6, rfl⟩ fX4_24 hN.1 yi_4_4 ?_
    rw [hX.1]
    refine G_icmpge (tgt := 16) (nx := 12) ⟨dX4_has_9, rfl⟩ rfl (fun c_9 => ?_) (fun c_9 => ?_)
    · refine G_iconst (nx := 17) ⟨dX4_has_16, rfl⟩ ci_0 ?_
      refine G_zret ⟨dX4_has_17, rfl⟩ rfl (by first | assumption | decide | exact bi_01 _) ?_
      refine K_v (congrArg Value.int ?_) hk
      rw [show ptB n p = false from decide_eq_false (by rw [i32_le, nI_toInt (by omega)] at c_9; omega)]; rfl
    · refine G_iconst (nx := 13) ⟨dX4_has_12, rfl⟩ ci_1 ?_
      refine G_goto (tgt := 17) ⟨dX4_has_13, rfl⟩ rfl ?_
      refine G_zret ⟨dX4_has_17, rfl⟩ rfl (by first | assumption | decide | exact bi_01 _) ?_
      refine K_v (congrArg Value.int ?_) hk
      rw [show ptB n p = true from decide_eq_true (by rw [i32_le, nI_toInt (by omega)] at c_9; rw [i32_lt, toInt_0] at c_1; omega)]; rfl

theorem cN_hasTwo {x y : Int32} {o a b c e : Nat} (hN : NT o a b c e) (hX : XG I o c n gr) (hk : K (.int (bi (ptB n x && ptB n y && !decide (x = y)))) I J (rX g)) : G l (d + 1) mX4_hasTwo K 0 [.ref o, .int x, .int y] [] I J (rX g) := by
  refine G_aload_0 (nx := 1) ⟨dX4_hasTwo_0, rfl⟩ ?_
  refine G_iload_1 (nx := 2) ⟨dX4_hasTwo_1, rfl⟩ ?_
  refine G_cv1 (nx := 5) ⟨dX4_hasTwo_2, rfl⟩ kX4_28 rfl hN.1 rfl (Nat.le_of_ble_eq_true rfl) (Nat.le_of_ble_eq_true rfl) (cN_has hN hX ?_)
  refine G_ifeq (tgt := 25) (nx := 8) ⟨dX4_hasTwo_5, rfl⟩ rfl (fun c_5 => ?_) (fun c_5 => ?_)
  · refine G_iconst (nx := 26) ⟨dX4_hasTwo_25, rfl⟩ ci_0 ?_
    refine G_zret ⟨dX4_hasTwo_26, rfl⟩ rfl (by first | assumption | decide | exact bi_01 _) ?_
    (try simp only [bi_0, bi_n0] at c_5)
    refine K_v (congrArg Value.int ?_) hk
    simp [c_5, bi]
  · refine G_aload_0 (nx := 9) ⟨dX4_hasTwo_8, rfl⟩ ?_
    refine G_iload_2 (nx := 10) ⟨dX4_hasTwo_9, rfl⟩ ?_
    refine G_cv1 (nx := 13) ⟨dX4_hasTwo_10, rfl⟩ kX4_28 rfl hN.1 rfl (Nat.le_of_ble_eq_true rfl) (Nat.le_of_ble_eq_true rfl) (cN_has hN hX ?_)
    refine G_ifeq (tgt := 25) (nx := 16) ⟨dX4_hasTwo_13, rfl⟩ rfl (fun c_13 => ?_) (fun c_13 => ?_)
    · refine G_iconst (nx := 26) ⟨dX4_hasTwo_25, rfl⟩ ci_0 ?_
      refine G_zret ⟨dX4_hasTwo_26, rfl⟩ rfl (by first | assumption | decide | exact bi_01 _) ?_
      (try simp only [bi_0, bi_n0] at c_5 c_13)
      refine K_v (congrArg Value.int ?_) hk
      simp [c_5, c_13, bi]
    · refine G_iload_1 (nx := 17) ⟨dX4_hasTwo_16, rfl⟩ ?_
      refine G_iload_2 (nx := 18) ⟨dX4_hasTwo_17, rfl⟩ ?_
      refine G_icmpeq (tgt := 25) (nx := 21) ⟨dX4_hasTwo_18, rfl⟩ rfl (fun c_18 => ?_) (fun c_18 => ?_)
      · refine G_iconst (nx := 26) ⟨dX4_hasTwo_25, rfl⟩ ci_0 ?_
        refine G_zret ⟨dX4_hasTwo_26, rfl⟩ rfl (by first | assumption | decide | exact bi_01 _) ?_
        (try simp only [bi_0, bi_n0] at c_5 c_13 c_18)
        refine K_v (congrArg Value.int ?_) hk
        simp [c_5, c_13, c_18, bi]
      · refine G_iconst (nx := 22) ⟨dX4_hasTwo_21, rfl⟩ ci_1 ?_
        refine G_goto (tgt := 26) ⟨dX4_hasTwo_22, rfl⟩ rfl ?_
        refine G_zret ⟨dX4_hasTwo_26, rfl⟩ rfl (by first | assumption | decide | exact bi_01 _) ?_
        (try simp only [bi_0, bi_n0] at c_5 c_13 c_18)
        refine K_v (congrArg Value.int ?_) hk
        simp [c_5, c_13, c_18, bi]

theorem cN_all {o a b c e : Nat} (hN : NT o a b c e) (hX : XG I o c n gr) (hk : K (.int (nI (2 ^ n - 1))) I J (rX g)) : G l d mX4_all K 0 [.ref o] [] I J (rX g) := by
  refine G_iconst (nx := 1) ⟨dX4_all_0, rfl⟩ ci_1 ?_
  refine G_aload_0 (nx := 2) ⟨dX4_all_1, rfl⟩ ?_
  refine G_geti (nx := 5) (k := o) ⟨dX4_all_2, rfl⟩ fX4_24 hN.1 yi_4_4 ?_
  refine G_ishl (nx := 6) ⟨dX4_all_5, rfl⟩ ?_
  refine G_iconst (nx := 7) ⟨dX4_all_6, rfl⟩ ci_1 ?_
  refine G_isub (nx := 8) ⟨dX4_all_7, rfl⟩ ?_
  refine G_iret ⟨dX4_all_8, rfl⟩ rfl ?_
  rw [hX.1, all_nI hX.2.1]
  exact hk

theorem cN_hasAll {s : Int32} {o a b c e : Nat} (hN : NT o a b c e) (hX : XG I o c n gr) (hk : K (.int (bi (stB n s))) I J (rX g)) : G l (d + 1) mX4_hasAll K 0 [.ref o, .int s] [] I J (rX g) := by
  refine G_iload_1 (nx := 1) ⟨dX4_hasAll_0, rfl⟩ ?_
  refine G_aload_0 (nx := 2) ⟨dX4_hasAll_1, rfl⟩ ?_
  refine G_cv0 (nx := 5) ⟨dX4_hasAll_2, rfl⟩ kX4_32 rfl hN.1 rfl (Nat.le_of_ble_eq_true rfl) (Nat.le_of_ble_eq_true rfl) (cN_all hN hX ?_)
  refine G_iconst (nx := 6) ⟨dX4_hasAll_5, rfl⟩ ci_m1 ?_
  refine G_ixor (nx := 7) ⟨dX4_hasAll_6, rfl⟩ ?_
  refine G_iand (nx := 8) ⟨dX4_hasAll_7, rfl⟩ ?_
  refine G_ifne (tgt := 15) (nx := 11) ⟨dX4_hasAll_8, rfl⟩ rfl (fun c_8 => ?_) (fun c_8 => ?_)
  · refine G_iconst (nx := 16) ⟨dX4_hasAll_15, rfl⟩ ci_0 ?_
    refine G_zret ⟨dX4_hasAll_16, rfl⟩ rfl (by first | assumption | decide | exact bi_01 _) ?_
    first | (rw [show stB n s = true from decide_eq_true c_8] at hk; exact hk) | (rw [show stB n s = false from decide_eq_false c_8] at hk; exact hk)
  · refine G_iconst (nx := 12) ⟨dX4_hasAll_11, rfl⟩ ci_1 ?_
    refine G_goto (tgt := 16) ⟨dX4_hasAll_12, rfl⟩ rfl ?_
    refine G_zret ⟨dX4_hasAll_16, rfl⟩ rfl (by first | assumption | decide | exact bi_01 _) ?_
    first | (rw [show stB n s = true from decide_eq_true c_8] at hk; exact hk) | (rw [show stB n s = false from decide_eq_false c_8] at hk; exact hk)

theorem cN_joined {x y : Nat} {o a b c e : Nat} (hN : NT o a b c e) (hX : XG I o c n gr) (hx : x < n) (hy : y < n) (hk : K (.int (bi ((gr x).testBit y))) I J (rX g)) : G l (d + 1) mX4_joined K 0 [.ref o, .int (nI x), .int (nI y)] [] I J (rX g) := by
  have hn := hX.2.1
  have h12 := in12 hx hn
  refine G_aload_0 (nx := 1) ⟨dX4_joined_0, rfl⟩ ?_
  refine G_iload_1 (nx := 2) ⟨dX4_joined_1, rfl⟩ ?_
  refine G_cv1 (nx := 5) ⟨dX4_joined_2, rfl⟩ kX4_28 rfl hN.1 rfl (Nat.le_of_ble_eq_true rfl) (Nat.le_of_ble_eq_true rfl) (cN_has hN hX ?_)
  rw [ptB_nI hx (by omega)]
  refine G_ifeq (tgt := 33) (nx := 8) ⟨dX4_joined_5, rfl⟩ rfl (fun c_5 => ?_) (fun c_5 => ?_)
  · exact absurd c_5 (by decide)
  · refine G_aload_0 (nx := 9) ⟨dX4_joined_8, rfl⟩ ?_
    refine G_iload_2 (nx := 10) ⟨dX4_joined_9, rfl⟩ ?_
    refine G_cv1 (nx := 13) ⟨dX4_joined_10, rfl⟩ kX4_28 rfl hN.1 rfl (Nat.le_of_ble_eq_true rfl) (Nat.le_of_ble_eq_true rfl) (cN_has hN hX ?_)
    rw [ptB_nI hy (by omega)]
    refine G_ifeq (tgt := 33) (nx := 16) ⟨dX4_joined_13, rfl⟩ rfl (fun c_13 => ?_) (fun c_13 => ?_)
    · exact absurd c_13 (by decide)
    · refine G_aload_0 (nx := 17) ⟨dX4_joined_16, rfl⟩ ?_
      refine G_getr (nx := 20) (k := o) (r := c) ⟨dX4_joined_17, rfl⟩ fX4_18 hN.1 yr_4_2 (hN.2.2.2.2.2.1 _).2.2.1 ?_
      refine G_iload_1 (nx := 21) ⟨dX4_joined_20, rfl⟩ ?_
      refine G_iald (nx := 22) (k := c) ⟨dX4_joined_21, rfl⟩ hN.2.2.2.1 (by first | assumption | decide | (unfold vp_in; decide)) ?_
      refine G_iload_2 (nx := 23) ⟨dX4_joined_22, rfl⟩ ?_
      refine G_ishr (nx := 24) ⟨dX4_joined_23, rfl⟩ ?_
      refine G_iconst (nx := 25) ⟨dX4_joined_24, rfl⟩ ci_1 ?_
      refine G_iand (nx := 26) ⟨dX4_joined_25, rfl⟩ ?_
      rw [hX.2.row hx, bit_nI (lt31 (hX.2.lt hx)) (by omega)]
      refine G_ifeq (tgt := 33) (nx := 29) ⟨dX4_joined_26, rfl⟩ rfl (fun c_26 => ?_) (fun c_26 => ?_)
      · refine G_iconst (nx := 34) ⟨dX4_joined_33, rfl⟩ ci_0 ?_
        refine G_zret ⟨dX4_joined_34, rfl⟩ rfl (by first | assumption | decide | exact bi_01 _) ?_
        rw [bi_0] at c_26
        rw [c_26] at hk
        exact hk
      · refine G_iconst (nx := 30) ⟨dX4_joined_29, rfl⟩ ci_1 ?_
        refine G_goto (tgt := 34) ⟨dX4_joined_30, rfl⟩ rfl ?_
        refine G_zret ⟨dX4_joined_34, rfl⟩ rfl (by first | assumption | decide | exact bi_01 _) ?_
        rw [bi_n0] at c_26
        rw [c_26] at hk
        exact hk

theorem cN_join {x y on : Nat} {o a b c e : Nat} (hN : NT o a b c e) (hX : XG I o c n gr) (hx : x < n) (hy : y < n) (hxy : ¬ x = y) (ho : on ≤ 1) (hk : K .null (w2 (w2 I c x (nI (setb (gr x) y on))) c y (nI (setb (gr y) x on))) J (rX g)) : G l (d + 2) mX4_join K 0 [.ref o, .int (nI x), .int (nI y), .int (nI on)] [] I J (rX g) := by
  have hn := hX.2.1
  have h1 := in12 hx hn
  have h2 := in12 hy hn
  have e1 := cl_nI (p := x) (by omega)
  have e2 := cl_nI (p := y) (by omega)
  have hx4 := hX.2.lt hx
  have hy4 := hX.2.lt hy
  have p1 : 2 ^ x < 2 ^ 12 := Nat.pow_lt_pow_right (by omega) (by omega)
  have p2 : 2 ^ y < 2 ^ 12 := Nat.pow_lt_pow_right (by omega) (by omega)
  refine G_aload_0 (nx := 1) ⟨dX4_join_0, rfl⟩ ?_
  refine G_iload_1 (nx := 2) ⟨dX4_join_1, rfl⟩ ?_
  refine G_iload_2 (nx := 3) ⟨dX4_join_2, rfl⟩ ?_
  refine G_cv2 (nx := 6) ⟨dX4_join_3, rfl⟩ kX4_42 rfl hN.1 rfl (Nat.le_of_ble_eq_true rfl) (Nat.le_of_ble_eq_true rfl) (cN_hasTwo hN hX ?_)
  rw [ptB_nI hx (by omega), ptB_nI hy (by omega), decide_eq_false (by rw [nI_eq (by omega) (by omega)]; exact hxy)]
  refine G_ifne (tgt := 10) (nx := 9) ⟨dX4_join_6, rfl⟩ rfl (fun c_6 => ?_) (fun c_6 => ?_)
  · refine G_iload_3 (nx := 11) ⟨dX4_join_10, rfl⟩ ?_
    refine G_ifeq (tgt := 41) (nx := 14) ⟨dX4_join_11, rfl⟩ rfl (fun c_11 => ?_) (fun c_11 => ?_)
    · rw [nI_0iff (by omega)] at c_11
      subst c_11
      rw [setb_0, setb_0] at hk
      refine G_aload_0 (nx := 42) ⟨dX4_join_41, rfl⟩ ?_
      refine G_getr (nx := 45) (k := o) (r := c) ⟨dX4_join_42, rfl⟩ fX4_18 hN.1 yr_4_2 (hN.2.2.2.2.2.1 _).2.2.1 ?_
      refine G_iload_1 (nx := 46) ⟨dX4_join_45, rfl⟩ ?_
      refine G_dup2 (nx := 47) ⟨dX4_join_46, rfl⟩ rfl rfl ?_
      refine G_iald (nx := 48) (k := c) ⟨dX4_join_47, rfl⟩ hN.2.2.2.1 (by first | assumption | decide | (unfold vp_in; decide)) ?_
      refine G_iconst (nx := 49) ⟨dX4_join_48, rfl⟩ ci_1 ?_
      refine G_iload_2 (nx := 50) ⟨dX4_join_49, rfl⟩ ?_
      refine G_ishl (nx := 51) ⟨dX4_join_50, rfl⟩ ?_
      refine G_iconst (nx := 52) ⟨dX4_join_51, rfl⟩ ci_m1 ?_
      refine G_ixor (nx := 53) ⟨dX4_join_52, rfl⟩ ?_
      refine G_iand (nx := 54) ⟨dX4_join_53, rfl⟩ ?_
      rw [hX.2.row hx, one_shl (show y < 31 by omega), nI_df _ (by omega)]
      refine G_iast (nx := 55) (k := c) ⟨dX4_join_54, rfl⟩ hN.2.2.2.1 (by first | assumption | decide | (unfold vp_in; decide)) ?_
      refine G_aload_0 (nx := 56) ⟨dX4_join_55, rfl⟩ ?_
      refine G_getr (nx := 59) (k := o) (r := c) ⟨dX4_join_56, rfl⟩ fX4_18 hN.1 yr_4_2 (hN.2.2.2.2.2.1 _).2.2.1 ?_
      refine G_iload_2 (nx := 60) ⟨dX4_join_59, rfl⟩ ?_
      refine G_dup2 (nx := 61) ⟨dX4_join_60, rfl⟩ rfl rfl ?_
      refine G_iald (nx := 62) (k := c) ⟨dX4_join_61, rfl⟩ hN.2.2.2.1 (by first | assumption | decide | (unfold vp_in; decide)) ?_
      refine G_iconst (nx := 63) ⟨dX4_join_62, rfl⟩ ci_1 ?_
      refine G_iload_1 (nx := 64) ⟨dX4_join_63, rfl⟩ ?_
      refine G_ishl (nx := 65) ⟨dX4_join_64, rfl⟩ ?_
      refine G_iconst (nx := 66) ⟨dX4_join_65, rfl⟩ ci_m1 ?_
      refine G_ixor (nx := 67) ⟨dX4_join_66, rfl⟩ ?_
      refine G_iand (nx := 68) ⟨dX4_join_67, rfl⟩ ?_
      rw [e1, e2, w2_ne _ _ _ _ (by omega), hX.2.2.1 y hy, one_shl (show x < 31 by omega), nI_df _ (by omega)]
      refine G_iast (nx := 69) (k := c) ⟨dX4_join_68, rfl⟩ hN.2.2.2.1 (by first | assumption | decide | (unfold vp_in; decide)) ?_
      refine G_vret ⟨dX4_join_69, rfl⟩ rfl ?_
      rw [e2]
      exact hk
    · rw [nI_0iff (by omega)] at c_11
      have eo : on = 1 := by omega
      subst eo
      rw [setb_1, setb_1] at hk
      refine G_aload_0 (nx := 15) ⟨dX4_join_14, rfl⟩ ?_
      refine G_getr (nx := 18) (k := o) (r := c) ⟨dX4_join_15, rfl⟩ fX4_18 hN.1 yr_4_2 (hN.2.2.2.2.2.1 _).2.2.1 ?_
      refine G_iload_1 (nx := 19) ⟨dX4_join_18, rfl⟩ ?_
      refine G_dup2 (nx := 20) ⟨dX4_join_19, rfl⟩ rfl rfl ?_
      refine G_iald (nx := 21) (k := c) ⟨dX4_join_20, rfl⟩ hN.2.2.2.1 (by first | assumption | decide | (unfold vp_in; decide)) ?_
      refine G_iconst (nx := 22) ⟨dX4_join_21, rfl⟩ ci_1 ?_
      refine G_iload_2 (nx := 23) ⟨dX4_join_22, rfl⟩ ?_
      refine G_ishl (nx := 24) ⟨dX4_join_23, rfl⟩ ?_
      refine G_ior (nx := 25) ⟨dX4_join_24, rfl⟩ ?_
      rw [hX.2.row hx, one_shl (show y < 31 by omega), nI_or]
      refine G_iast (nx := 26) (k := c) ⟨dX4_join_25, rfl⟩ hN.2.2.2.1 (by first | assumption | decide | (unfold vp_in; decide)) ?_
      refine G_aload_0 (nx := 27) ⟨dX4_join_26, rfl⟩ ?_
      refine G_getr (nx := 30) (k := o) (r := c) ⟨dX4_join_27, rfl⟩ fX4_18 hN.1 yr_4_2 (hN.2.2.2.2.2.1 _).2.2.1 ?_
      refine G_iload_2 (nx := 31) ⟨dX4_join_30, rfl⟩ ?_
      refine G_dup2 (nx := 32) ⟨dX4_join_31, rfl⟩ rfl rfl ?_
      refine G_iald (nx := 33) (k := c) ⟨dX4_join_32, rfl⟩ hN.2.2.2.1 (by first | assumption | decide | (unfold vp_in; decide)) ?_
      refine G_iconst (nx := 34) ⟨dX4_join_33, rfl⟩ ci_1 ?_
      refine G_iload_1 (nx := 35) ⟨dX4_join_34, rfl⟩ ?_
      refine G_ishl (nx := 36) ⟨dX4_join_35, rfl⟩ ?_
      refine G_ior (nx := 37) ⟨dX4_join_36, rfl⟩ ?_
      rw [e1, e2, w2_ne _ _ _ _ (by omega), hX.2.2.1 y hy, one_shl (show x < 31 by omega), nI_or]
      refine G_iast (nx := 38) (k := c) ⟨dX4_join_37, rfl⟩ hN.2.2.2.1 (by first | assumption | decide | (unfold vp_in; decide)) ?_
      refine G_goto (tgt := 69) ⟨dX4_join_38, rfl⟩ rfl ?_
      refine G_vret ⟨dX4_join_69, rfl⟩ rfl ?_
      rw [e2]
      exact hk
  · exact absurd c_6 (by decide)

theorem cN_add {k v : Int32} {o a b c e : Nat} (hN : NT o a b c e) (hX : XG I o c n gr) (h12 : n < 12) (hk : K (.int (nI n)) (w2 (w2 (w2 (w2 I a n k) b n v) c n 0) o 4 (nI (n + 1))) J (rX g)) : G l d mX4_add K 0 [.ref o, .int k, .int v] [] I J (rX g) := by
  have hin : vp_in (nI n) 12 := vp_in_nI h12 (by decide)
  have ec := cl_nI (p := n) (by omega)
  obtain ⟨q1, q2, q3, q4⟩ := hN.2.2.2.2.2.2
  refine G_aload_0 (nx := 1) ⟨dX4_add_0, rfl⟩ ?_
  refine G_geti (nx := 4) (k := o) ⟨dX4_add_1, rfl⟩ fX4_24 hN.1 yi_4_4 ?_
  refine G_bipush (nx := 6) ⟨dX4_add_4, rfl⟩ cb_12 ?_
  rw [hX.1, show (12 : Int32) = nI 12 by decide]
  refine G_icmplt (tgt := 12) (nx := 9) ⟨dX4_add_6, rfl⟩ rfl (fun c_6 => ?_) (fun c_6 => ?_)
  · refine G_aload_0 (nx := 13) ⟨dX4_add_12, rfl⟩ ?_
    refine G_getr (nx := 16) (k := o) (r := a) ⟨dX4_add_13, rfl⟩ fX4_9 hN.1 yr_4_0 (hN.2.2.2.2.2.1 _).1 ?_
    refine G_aload_0 (nx := 17) ⟨dX4_add_16, rfl⟩ ?_
    refine G_geti (nx := 20) (k := o) ⟨dX4_add_17, rfl⟩ fX4_24 hN.1 yi_4_4 ?_
    rw [hX.1]
    refine G_iload_1 (nx := 21) ⟨dX4_add_20, rfl⟩ ?_
    refine G_iast (nx := 22) (k := a) ⟨dX4_add_21, rfl⟩ hN.2.1 (by first | assumption | decide | (unfold vp_in; decide)) ?_
    refine G_aload_0 (nx := 23) ⟨dX4_add_22, rfl⟩ ?_
    refine G_getr (nx := 26) (k := o) (r := b) ⟨dX4_add_23, rfl⟩ fX4_15 hN.1 yr_4_1 (hN.2.2.2.2.2.1 _).2.1 ?_
    refine G_aload_0 (nx := 27) ⟨dX4_add_26, rfl⟩ ?_
    refine G_geti (nx := 30) (k := o) ⟨dX4_add_27, rfl⟩ fX4_24 hN.1 yi_4_4 ?_
    simp only [w2_row _ _ _ _ (show ¬ o = a by omega)]
    rw [hX.1]
    refine G_iload_2 (nx := 31) ⟨dX4_add_30, rfl⟩ ?_
    
    refine G_iast (nx := 32) (k := b) ⟨dX4_add_31, rfl⟩ hN.2.2.1 (by first | assumption | decide | (unfold vp_in; decide)) ?_
    refine G_aload_0 (nx := 33) ⟨dX4_add_32, rfl⟩ ?_
    refine G_getr (nx := 36) (k := o) (r := c) ⟨dX4_add_33, rfl⟩ fX4_18 hN.1 yr_4_2 (hN.2.2.2.2.2.1 _).2.2.1 ?_
    refine G_aload_0 (nx := 37) ⟨dX4_add_36, rfl⟩ ?_
    refine G_geti (nx := 40) (k := o) ⟨dX4_add_37, rfl⟩ fX4_24 hN.1 yi_4_4 ?_
    simp only [w2_row _ _ _ _ (show ¬ o = a by omega), w2_row _ _ _ _ (show ¬ o = b by omega)]
    rw [hX.1]
    refine G_iconst (nx := 41) ⟨dX4_add_40, rfl⟩ ci_0 ?_
    refine G_iast (nx := 42) (k := c) ⟨dX4_add_41, rfl⟩ hN.2.2.2.1 (by first | assumption | decide | (unfold vp_in; decide)) ?_
    refine G_aload_0 (nx := 43) ⟨dX4_add_42, rfl⟩ ?_
    refine G_dup (nx := 44) ⟨dX4_add_43, rfl⟩ rfl ?_
    refine G_geti (nx := 47) (k := o) ⟨dX4_add_44, rfl⟩ fX4_24 hN.1 yi_4_4 ?_
    simp only [w2_row _ _ _ _ (show ¬ o = a by omega), w2_row _ _ _ _ (show ¬ o = b by omega), w2_row _ _ _ _ (show ¬ o = c by omega)]
    rw [hX.1]
    refine G_iconst (nx := 48) ⟨dX4_add_47, rfl⟩ ci_1 ?_
    refine G_iadd (nx := 49) ⟨dX4_add_48, rfl⟩ ?_
    refine G_puti (nx := 52) (k := o) ⟨dX4_add_49, rfl⟩ pX4_24 hN.1 yt_4_4 ?_
    rw [ec, nI_1]
    refine G_aload_0 (nx := 53) ⟨dX4_add_52, rfl⟩ ?_
    refine G_geti (nx := 56) (k := o) ⟨dX4_add_53, rfl⟩ fX4_24 hN.1 yi_4_4 ?_
    rw [w2_at]
    refine G_iconst (nx := 57) ⟨dX4_add_56, rfl⟩ ci_1 ?_
    refine G_isub (nx := 58) ⟨dX4_add_57, rfl⟩ ?_
    rw [show (1 : Int32) = nI 1 by decide, nI_sub (by omega)]
    refine G_iret ⟨dX4_add_58, rfl⟩ rfl ?_
    exact hk
  · exact absurd (by rw [nI_lt_iff (by omega) (by omega)]; exact h12) c_6

theorem cN_degree {p : Nat} {o a b c e : Nat} (hN : NT o a b c e) (hX : XG I o c n gr) (hp : p < n) (hk : K (.int (nI (pc (gr p)))) I J (rX g)) : G l (d + 1) mX4_degree K 0 [.ref o, .int (nI p)] [] I J (rX g) := by
  have h12 := in12 hp hX.2.1
  refine G_aload_0 (nx := 1) ⟨dX4_degree_0, rfl⟩ ?_
  refine G_getr (nx := 4) (k := o) (r := c) ⟨dX4_degree_1, rfl⟩ fX4_18 hN.1 yr_4_2 (hN.2.2.2.2.2.1 _).2.2.1 ?_
  refine G_iload_1 (nx := 5) ⟨dX4_degree_4, rfl⟩ ?_
  refine G_iald (nx := 6) (k := c) ⟨dX4_degree_5, rfl⟩ hN.2.2.2.1 (by first | assumption | decide | (unfold vp_in; decide)) ?_
  rw [hX.2.row hp]
  refine G_cs1 (nx := 9) ⟨dX4_degree_6, rfl⟩ kX4_68 rfl rfl (Nat.le_of_ble_eq_true rfl) (Nat.le_of_ble_eq_true rfl) (cJ_bc (hX.2.lt hp) ?_)
  refine G_iret ⟨dX4_degree_9, rfl⟩ rfl ?_
  exact hk

theorem cN_price {p : Nat} {o a b c e : Nat} (hN : NT o a b c e) (hX : XG I o c n gr) (hp : p < n) (hk : K (.int (cst (I a p) (I b p) (nI (pc (gr p))) (nI p))) I J (rX g)) : G l (d + 2) mX4_price K 0 [.ref o, .int (nI p)] [] I J (rX g) := by
  have hn := hX.2.1
  have h12 := in12 hp hn
  have ec := cl_nI (p := p) (by omega)
  refine G_aload_0 (nx := 1) ⟨dX4_price_0, rfl⟩ ?_
  refine G_getr (nx := 4) (k := o) (r := a) ⟨dX4_price_1, rfl⟩ fX4_9 hN.1 yr_4_0 (hN.2.2.2.2.2.1 _).1 ?_
  refine G_iload_1 (nx := 5) ⟨dX4_price_4, rfl⟩ ?_
  refine G_iald (nx := 6) (k := a) ⟨dX4_price_5, rfl⟩ hN.2.1 (by first | assumption | decide | (unfold vp_in; decide)) ?_
  rw [ec]
  refine G_aload_0 (nx := 7) ⟨dX4_price_6, rfl⟩ ?_
  refine G_getr (nx := 10) (k := o) (r := b) ⟨dX4_price_7, rfl⟩ fX4_15 hN.1 yr_4_1 (hN.2.2.2.2.2.1 _).2.1 ?_
  refine G_iload_1 (nx := 11) ⟨dX4_price_10, rfl⟩ ?_
  refine G_iald (nx := 12) (k := b) ⟨dX4_price_11, rfl⟩ hN.2.2.1 (by first | assumption | decide | (unfold vp_in; decide)) ?_
  rw [ec]
  refine G_aload_0 (nx := 13) ⟨dX4_price_12, rfl⟩ ?_
  refine G_iload_1 (nx := 14) ⟨dX4_price_13, rfl⟩ ?_
  refine G_cv1 (nx := 17) ⟨dX4_price_14, rfl⟩ kX4_73 rfl hN.1 rfl (Nat.le_of_ble_eq_true rfl) (Nat.le_of_ble_eq_true rfl) (cN_degree hN hX hp ?_)
  refine G_iload_1 (nx := 18) ⟨dX4_price_17, rfl⟩ ?_
  refine G_cs4 (nx := 21) ⟨dX4_price_18, rfl⟩ kX4_76 rfl rfl (Nat.le_of_ble_eq_true rfl) (Nat.le_of_ble_eq_true rfl) (cX_priceBy ?_)
  refine G_iret ⟨dX4_price_21, rfl⟩ rfl ?_
  exact hk

theorem lN_lines {o a b c e : Nat} (hN : NT o a b c e) (hX : XG I o c n gr) (hk : K (.int (nI (lnN n gr))) I J (rX g)) : ∀ (k p : Nat), n - p = k → p ≤ n → G l (d + 2) mX4_lines K 4 [.ref o, .int (nI (lp (lnF gr) p 0)), .int (nI p)] [] I J (rX g) := by
  intro k
  induction k using Nat.strongRecOn with
  | _ k ih =>
  intro p hpk hpn
  have hn := hX.2.1
  have e0 := hX.1
  refine G_iload_2 (nx := 5) ⟨dX4_lines_4, rfl⟩ ?_
  refine G_aload_0 (nx := 6) ⟨dX4_lines_5, rfl⟩ ?_
  refine G_geti (nx := 9) (k := o) ⟨dX4_lines_6, rfl⟩ fX4_24 hN.1 yi_4_4 ?_
  rw [e0]
  refine G_icmpge (tgt := 26) (nx := 12) ⟨dX4_lines_9, rfl⟩ rfl (fun c_9 => ?_) (fun c_9 => ?_)
  · refine G_iload_1 (nx := 27) ⟨dX4_lines_26, rfl⟩ ?_
    refine G_iconst (nx := 28) ⟨dX4_lines_27, rfl⟩ ci_2 ?_
    refine G_idiv (nx := 29) ⟨dX4_lines_28, rfl⟩ (by decide) ?_
    refine G_iret ⟨dX4_lines_29, rfl⟩ rfl ?_
    rw [nI_le_iff (by omega) (by omega)] at c_9
    have hpe : p = n := by omega
    subst hpe
    have h2 : (2 : Int32) = nI 2 := by decide
    rw [h2, pk_div (by have := lnF_le gr p; omega) (by decide) (by decide)]
    exact hk
  · rw [nI_le_iff (by omega) (by omega)] at c_9
    have hp : p < n := by omega
    have h12 := in12 hp hn
    refine G_iload_1 (nx := 13) ⟨dX4_lines_12, rfl⟩ ?_
    refine G_aload_0 (nx := 14) ⟨dX4_lines_13, rfl⟩ ?_
    refine G_iload_2 (nx := 15) ⟨dX4_lines_14, rfl⟩ ?_
    refine G_cv1 (nx := 18) ⟨dX4_lines_15, rfl⟩ kX4_73 rfl hN.1 rfl (Nat.le_of_ble_eq_true rfl) (Nat.le_of_ble_eq_true rfl) (cN_degree hN hX hp ?_)
    refine G_iadd (nx := 19) ⟨dX4_lines_18, rfl⟩ ?_
    refine G_istore_1 (nx := 20) ⟨dX4_lines_19, rfl⟩ rfl rfl ?_
    refine G_iinc_2 (nx := 23) ⟨dX4_lines_20, rfl⟩ ci_1 rfl ?_
    refine G_goto (tgt := 4) ⟨dX4_lines_23, rfl⟩ rfl ?_
    refine G_L (by rw [nI_add, nI_1]; rfl) (ih (n - (p + 1)) (by omega) (p + 1) rfl (by omega))

theorem cN_lines {o a b c e : Nat} (hN : NT o a b c e) (hX : XG I o c n gr) (hk : K (.int (nI (lnN n gr))) I J (rX g)) : G l (d + 2) mX4_lines K 0 [.ref o, UU, UU] [] I J (rX g) := by
  refine G_iconst (nx := 1) ⟨dX4_lines_0, rfl⟩ ci_0 ?_
  refine G_istore_1 (nx := 2) ⟨dX4_lines_1, rfl⟩ rfl rfl ?_
  refine G_iconst (nx := 3) ⟨dX4_lines_2, rfl⟩ ci_0 ?_
  refine G_istore_2 (nx := 4) ⟨dX4_lines_3, rfl⟩ rfl rfl ?_
  exact lN_lines hN hX hk _ 0 rfl (Nat.zero_le _)

theorem lN_lonely {o a b c e : Nat} (hN : NT o a b c e) (hX : XG I o c n gr) (hk : K (.int (nI (loN n gr))) I J (rX g)) : ∀ (k p : Nat), n - p = k → p ≤ n → G l (d + 0) mX4_lonely K 4 [.ref o, .int (nI (lp (loF gr) p 0)), .int (nI p)] [] I J (rX g) := by
  intro k
  induction k using Nat.strongRecOn with
  | _ k ih =>
  intro p hpk hpn
  have hn := hX.2.1
  have e0 := hX.1
  refine G_iload_2 (nx := 5) ⟨dX4_lonely_4, rfl⟩ ?_
  refine G_aload_0 (nx := 6) ⟨dX4_lonely_5, rfl⟩ ?_
  refine G_geti (nx := 9) (k := o) ⟨dX4_lonely_6, rfl⟩ fX4_24 hN.1 yi_4_4 ?_
  rw [e0]
  refine G_icmpge (tgt := 30) (nx := 12) ⟨dX4_lonely_9, rfl⟩ rfl (fun c_9 => ?_) (fun c_9 => ?_)
  · refine G_iload_1 (nx := 31) ⟨dX4_lonely_30, rfl⟩ ?_
    refine G_iret ⟨dX4_lonely_31, rfl⟩ rfl ?_
    rw [nI_le_iff (by omega) (by omega)] at c_9
    have hpe : p = n := by omega
    subst hpe
    exact hk
  · rw [nI_le_iff (by omega) (by omega)] at c_9
    have hp : p < n := by omega
    have h12 := in12 hp hn
    refine G_aload_0 (nx := 13) ⟨dX4_lonely_12, rfl⟩ ?_
    refine G_getr (nx := 16) (k := o) (r := c) ⟨dX4_lonely_13, rfl⟩ fX4_18 hN.1 yr_4_2 (hN.2.2.2.2.2.1 _).2.2.1 ?_
    refine G_iload_2 (nx := 17) ⟨dX4_lonely_16, rfl⟩ ?_
    refine G_iald (nx := 18) (k := c) ⟨dX4_lonely_17, rfl⟩ hN.2.2.2.1 (by first | assumption | decide | (unfold vp_in; decide)) ?_
    rw [hX.2.row hp]
    refine G_ifne (tgt := 24) (nx := 21) ⟨dX4_lonely_18, rfl⟩ rfl (fun c_18 => ?_) (fun c_18 => ?_)
    · refine G_iinc_2 (nx := 27) ⟨dX4_lonely_24, rfl⟩ ci_1 rfl ?_
      refine G_goto (tgt := 4) ⟨dX4_lonely_27, rfl⟩ rfl ?_
      rw [nI_0iff (by have := hX.2.lt hp; omega)] at c_18
      refine G_L ?_ (ih (n - (p + 1)) (by omega) (p + 1) rfl (by omega))
      simp only [lp_s, loF, c_18, nI_1, if_pos, if_neg, not_false_eq_true, Int32.add_zero, Nat.add_zero]
    · refine G_iinc_1 (nx := 24) ⟨dX4_lonely_21, rfl⟩ ci_1 rfl ?_
      refine G_iinc_2 (nx := 27) ⟨dX4_lonely_24, rfl⟩ ci_1 rfl ?_
      refine G_goto (tgt := 4) ⟨dX4_lonely_27, rfl⟩ rfl ?_
      rw [nI_0iff (by have := hX.2.lt hp; omega)] at c_18
      refine G_L ?_ (ih (n - (p + 1)) (by omega) (p + 1) rfl (by omega))
      simp only [lp_s, loF, c_18, nI_1, if_pos, if_neg, not_false_eq_true, Int32.add_zero, Nat.add_zero]

theorem cN_lonely {o a b c e : Nat} (hN : NT o a b c e) (hX : XG I o c n gr) (hk : K (.int (nI (loN n gr))) I J (rX g)) : G l (d + 0) mX4_lonely K 0 [.ref o, UU, UU] [] I J (rX g) := by
  refine G_iconst (nx := 1) ⟨dX4_lonely_0, rfl⟩ ci_0 ?_
  refine G_istore_1 (nx := 2) ⟨dX4_lonely_1, rfl⟩ rfl rfl ?_
  refine G_iconst (nx := 3) ⟨dX4_lonely_2, rfl⟩ ci_0 ?_
  refine G_istore_2 (nx := 4) ⟨dX4_lonely_3, rfl⟩ rfl rfl ?_
  exact lN_lonely hN hX hk _ 0 rfl (Nat.zero_le _)

theorem lN_covers {s : Nat} {o a b c e : Nat} (hN : NT o a b c e) (hX : XG I o c n gr) (hs : s < 4096) (hk : K (.int (bi (covB n gr s))) I J (rX g)) : ∀ (k p : Nat), n - p = k → p ≤ n → lp (cvF gr s) p true = true → G l d mX4_covers K 2 [.ref o, .int (nI s), .int (nI p)] [] I J (rX g) := by
  intro k
  induction k using Nat.strongRecOn with
  | _ k ih =>
  intro p hpk hpn hT
  have hn := hX.2.1
  have e0 := hX.1
  refine G_iload_2 (nx := 3) ⟨dX4_covers_2, rfl⟩ ?_
  refine G_aload_0 (nx := 4) ⟨dX4_covers_3, rfl⟩ ?_
  refine G_geti (nx := 7) (k := o) ⟨dX4_covers_4, rfl⟩ fX4_24 hN.1 yi_4_4 ?_
  rw [e0]
  refine G_icmpge (tgt := 39) (nx := 10) ⟨dX4_covers_7, rfl⟩ rfl (fun c_7 => ?_) (fun c_7 => ?_)
  · refine G_iconst (nx := 40) ⟨dX4_covers_39, rfl⟩ ci_1 ?_
    refine G_zret ⟨dX4_covers_40, rfl⟩ rfl (by first | assumption | decide | exact bi_01 _) ?_
    rw [nI_le_iff (by omega) (by omega)] at c_7
    have hpe : p = n := by omega
    subst hpe
    have e : covB p gr s = true := hT
    rw [e] at hk
    exact hk
  · rw [nI_le_iff (by omega) (by omega)] at c_7
    have hp : p < n := by omega
    have h12 := in12 hp hn
    refine G_iload_1 (nx := 11) ⟨dX4_covers_10, rfl⟩ ?_
    refine G_iload_2 (nx := 12) ⟨dX4_covers_11, rfl⟩ ?_
    refine G_ishr (nx := 13) ⟨dX4_covers_12, rfl⟩ ?_
    refine G_iconst (nx := 14) ⟨dX4_covers_13, rfl⟩ ci_1 ?_
    refine G_iand (nx := 15) ⟨dX4_covers_14, rfl⟩ ?_
    rw [bit_nI (lt31 hs) (by omega)]
    refine G_ifne (tgt := 33) (nx := 18) ⟨dX4_covers_15, rfl⟩ rfl (fun c_15 => ?_) (fun c_15 => ?_)
    · refine G_iinc_2 (nx := 36) ⟨dX4_covers_33, rfl⟩ ci_1 rfl ?_
      refine G_goto (tgt := 2) ⟨dX4_covers_36, rfl⟩ rfl ?_
      rw [bi_n0] at c_15
      exact ih (n - (p + 1)) (by omega) (p + 1) rfl (by omega) (by rw [lp_s, cvF, hT]; simp [c_15]) |> G_L (by rw [nI_1])
    · refine G_aload_0 (nx := 19) ⟨dX4_covers_18, rfl⟩ ?_
      refine G_getr (nx := 22) (k := o) (r := c) ⟨dX4_covers_19, rfl⟩ fX4_18 hN.1 yr_4_2 (hN.2.2.2.2.2.1 _).2.2.1 ?_
      refine G_iload_2 (nx := 23) ⟨dX4_covers_22, rfl⟩ ?_
      refine G_iald (nx := 24) (k := c) ⟨dX4_covers_23, rfl⟩ hN.2.2.2.1 (by first | assumption | decide | (unfold vp_in; decide)) ?_
      rw [hX.2.row hp]
      refine G_iload_1 (nx := 25) ⟨dX4_covers_24, rfl⟩ ?_
      refine G_iconst (nx := 26) ⟨dX4_covers_25, rfl⟩ ci_m1 ?_
      refine G_ixor (nx := 27) ⟨dX4_covers_26, rfl⟩ ?_
      refine G_iand (nx := 28) ⟨dX4_covers_27, rfl⟩ ?_
      rw [nI_df _ (by have := hX.2.lt hp; omega)]
      refine G_ifeq (tgt := 33) (nx := 31) ⟨dX4_covers_28, rfl⟩ rfl (fun c_28 => ?_) (fun c_28 => ?_)
      · refine G_iinc_2 (nx := 36) ⟨dX4_covers_33, rfl⟩ ci_1 rfl ?_
        refine G_goto (tgt := 2) ⟨dX4_covers_36, rfl⟩ rfl ?_
        rw [bi_0] at c_15
        rw [nI_0iff (Nat.lt_of_le_of_lt (df_le _ _) (by have := hX.2.lt hp; omega))] at c_28
        exact ih (n - (p + 1)) (by omega) (p + 1) rfl (by omega) (by rw [lp_s, cvF, hT]; simp [c_15, c_28]) |> G_L (by rw [nI_1])
      · refine G_iconst (nx := 32) ⟨dX4_covers_31, rfl⟩ ci_0 ?_
        refine G_zret ⟨dX4_covers_32, rfl⟩ rfl (by first | assumption | decide | exact bi_01 _) ?_
        rw [bi_0] at c_15
        rw [nI_0iff (Nat.lt_of_le_of_lt (df_le _ _) (by have := hX.2.lt hp; omega))] at c_28
        have e : covB n gr s = false := cvF_f gr s n (p + 1) (by omega) (by rw [lp_s, cvF, hT]; simp [c_15, c_28])
        rw [e] at hk
        exact hk

theorem cN_covers {s : Nat} {o a b c e : Nat} (hN : NT o a b c e) (hX : XG I o c n gr) (hs : s < 4096) (hk : K (.int (bi (covB n gr s))) I J (rX g)) : G l d mX4_covers K 0 [.ref o, .int (nI s), UU] [] I J (rX g) := by
  refine G_iconst (nx := 1) ⟨dX4_covers_0, rfl⟩ ci_0 ?_
  refine G_istore_2 (nx := 2) ⟨dX4_covers_1, rfl⟩ rfl rfl ?_
  exact lN_covers hN hX hs hk _ 0 rfl (Nat.zero_le _) rfl

theorem lN_needsAll {s : Nat} {o a b c e : Nat} (hN : NT o a b c e) (hX : XG I o c n gr) (hs : s < 4096) (hk : K (.int (bi (ndB n gr s))) I J (rX g)) : ∀ (k p : Nat), n - p = k → p ≤ n → lp (brF gr s) p true = true → G l d mX4_needsAll K 2 [.ref o, .int (nI s), .int (nI p)] [] I J (rX g) := by
  intro k
  induction k using Nat.strongRecOn with
  | _ k ih =>
  intro p hpk hpn hT
  have hn := hX.2.1
  have e0 := hX.1
  refine G_iload_2 (nx := 3) ⟨dX4_needsAll_2, rfl⟩ ?_
  refine G_aload_0 (nx := 4) ⟨dX4_needsAll_3, rfl⟩ ?_
  refine G_geti (nx := 7) (k := o) ⟨dX4_needsAll_4, rfl⟩ fX4_24 hN.1 yi_4_4 ?_
  rw [e0]
  refine G_icmpge (tgt := 39) (nx := 10) ⟨dX4_needsAll_7, rfl⟩ rfl (fun c_7 => ?_) (fun c_7 => ?_)
  · refine G_iconst (nx := 40) ⟨dX4_needsAll_39, rfl⟩ ci_1 ?_
    refine G_zret ⟨dX4_needsAll_40, rfl⟩ rfl (by first | assumption | decide | exact bi_01 _) ?_
    rw [nI_le_iff (by omega) (by omega)] at c_7
    have hpe : p = n := by omega
    subst hpe
    have e : ndB p gr s = true := hT
    rw [e] at hk
    exact hk
  · rw [nI_le_iff (by omega) (by omega)] at c_7
    have hp : p < n := by omega
    have h12 := in12 hp hn
    refine G_iload_1 (nx := 11) ⟨dX4_needsAll_10, rfl⟩ ?_
    refine G_iload_2 (nx := 12) ⟨dX4_needsAll_11, rfl⟩ ?_
    refine G_ishr (nx := 13) ⟨dX4_needsAll_12, rfl⟩ ?_
    refine G_iconst (nx := 14) ⟨dX4_needsAll_13, rfl⟩ ci_1 ?_
    refine G_iand (nx := 15) ⟨dX4_needsAll_14, rfl⟩ ?_
    rw [bit_nI (lt31 hs) (by omega)]
    refine G_ifeq (tgt := 33) (nx := 18) ⟨dX4_needsAll_15, rfl⟩ rfl (fun c_15 => ?_) (fun c_15 => ?_)
    · refine G_iinc_2 (nx := 36) ⟨dX4_needsAll_33, rfl⟩ ci_1 rfl ?_
      refine G_goto (tgt := 2) ⟨dX4_needsAll_36, rfl⟩ rfl ?_
      rw [bi_0] at c_15
      exact ih (n - (p + 1)) (by omega) (p + 1) rfl (by omega) (by rw [lp_s, brF, hT]; simp [c_15]) |> G_L (by rw [nI_1])
    · refine G_aload_0 (nx := 19) ⟨dX4_needsAll_18, rfl⟩ ?_
      refine G_getr (nx := 22) (k := o) (r := c) ⟨dX4_needsAll_19, rfl⟩ fX4_18 hN.1 yr_4_2 (hN.2.2.2.2.2.1 _).2.2.1 ?_
      refine G_iload_2 (nx := 23) ⟨dX4_needsAll_22, rfl⟩ ?_
      refine G_iald (nx := 24) (k := c) ⟨dX4_needsAll_23, rfl⟩ hN.2.2.2.1 (by first | assumption | decide | (unfold vp_in; decide)) ?_
      rw [hX.2.row hp]
      refine G_iload_1 (nx := 25) ⟨dX4_needsAll_24, rfl⟩ ?_
      refine G_iconst (nx := 26) ⟨dX4_needsAll_25, rfl⟩ ci_m1 ?_
      refine G_ixor (nx := 27) ⟨dX4_needsAll_26, rfl⟩ ?_
      refine G_iand (nx := 28) ⟨dX4_needsAll_27, rfl⟩ ?_
      rw [nI_df _ (by have := hX.2.lt hp; omega)]
      refine G_ifne (tgt := 33) (nx := 31) ⟨dX4_needsAll_28, rfl⟩ rfl (fun c_28 => ?_) (fun c_28 => ?_)
      · refine G_iinc_2 (nx := 36) ⟨dX4_needsAll_33, rfl⟩ ci_1 rfl ?_
        refine G_goto (tgt := 2) ⟨dX4_needsAll_36, rfl⟩ rfl ?_
        rw [bi_n0] at c_15
        rw [nI_0iff (Nat.lt_of_le_of_lt (df_le _ _) (by have := hX.2.lt hp; omega))] at c_28
        exact ih (n - (p + 1)) (by omega) (p + 1) rfl (by omega) (by rw [lp_s, brF, hT]; simp [c_15, c_28]) |> G_L (by rw [nI_1])
      · refine G_iconst (nx := 32) ⟨dX4_needsAll_31, rfl⟩ ci_0 ?_
        refine G_zret ⟨dX4_needsAll_32, rfl⟩ rfl (by first | assumption | decide | exact bi_01 _) ?_
        rw [bi_n0] at c_15
        rw [nI_0iff (Nat.lt_of_le_of_lt (df_le _ _) (by have := hX.2.lt hp; omega))] at c_28
        have e : ndB n gr s = false := brF_f gr s n (p + 1) (by omega) (by rw [lp_s, brF, hT]; simp [c_15, c_28])
        rw [e] at hk
        exact hk

theorem cN_needsAll {s : Nat} {o a b c e : Nat} (hN : NT o a b c e) (hX : XG I o c n gr) (hs : s < 4096) (hk : K (.int (bi (ndB n gr s))) I J (rX g)) : G l d mX4_needsAll K 0 [.ref o, .int (nI s), UU] [] I J (rX g) := by
  refine G_iconst (nx := 1) ⟨dX4_needsAll_0, rfl⟩ ci_0 ?_
  refine G_istore_2 (nx := 2) ⟨dX4_needsAll_1, rfl⟩ rfl rfl ?_
  exact lN_needsAll hN hX hs hk _ 0 rfl (Nat.zero_le _) rfl

theorem lN_priceOfAll {s : Nat} {kd wt : Nat → Int32} {o a b c e : Nat} (hN : NT o a b c e) (hX : XG I o c n gr) (hkd : ∀ p, p < n → I a p = kd p) (hwt : ∀ p, p < n → I b p = wt p) (hs : s < 4096) (hk : K (.int (coN n kd wt gr s)) I J (rX g)) : ∀ (k p : Nat), n - p = k → p ≤ n → G l (d + 3) mX4_priceOfAll K 4 [.ref o, .int (nI s), .int (lp (coF kd wt gr s) p 0), .int (nI p)] [] I J (rX g) := by
  intro k
  induction k using Nat.strongRecOn with
  | _ k ih =>
  intro p hpk hpn
  have hn := hX.2.1
  have e0 := hX.1
  refine G_iload_3 (nx := 5) ⟨dX4_priceOfAll_4, rfl⟩ ?_
  refine G_aload_0 (nx := 6) ⟨dX4_priceOfAll_5, rfl⟩ ?_
  refine G_geti (nx := 9) (k := o) ⟨dX4_priceOfAll_6, rfl⟩ fX4_24 hN.1 yi_4_4 ?_
  rw [e0]
  refine G_icmpge (tgt := 34) (nx := 12) ⟨dX4_priceOfAll_9, rfl⟩ rfl (fun c_9 => ?_) (fun c_9 => ?_)
  · refine G_iload_2 (nx := 35) ⟨dX4_priceOfAll_34, rfl⟩ ?_
    refine G_iret ⟨dX4_priceOfAll_35, rfl⟩ rfl ?_
    rw [nI_le_iff (by omega) (by omega)] at c_9
    have hpe : p = n := by omega
    subst hpe
    exact hk
  · rw [nI_le_iff (by omega) (by omega)] at c_9
    have hp : p < n := by omega
    have h12 := in12 hp hn
    refine G_iload_1 (nx := 13) ⟨dX4_priceOfAll_12, rfl⟩ ?_
    refine G_iload_3 (nx := 14) ⟨dX4_priceOfAll_13, rfl⟩ ?_
    refine G_ishr (nx := 15) ⟨dX4_priceOfAll_14, rfl⟩ ?_
    refine G_iconst (nx := 16) ⟨dX4_priceOfAll_15, rfl⟩ ci_1 ?_
    refine G_iand (nx := 17) ⟨dX4_priceOfAll_16, rfl⟩ ?_
    rw [bit_nI (lt31 hs) (by omega)]
    refine G_ifeq (tgt := 28) (nx := 20) ⟨dX4_priceOfAll_17, rfl⟩ rfl (fun c_17 => ?_) (fun c_17 => ?_)
    · refine G_iinc_3 (nx := 31) ⟨dX4_priceOfAll_28, rfl⟩ ci_1 rfl ?_
      refine G_goto (tgt := 4) ⟨dX4_priceOfAll_31, rfl⟩ rfl ?_
      simp only [bi_0, bi_n0] at c_17
      refine G_L (by simp [lp_s, coF, c_17, nI_1, hkd p hp, hwt p hp]) (ih (n - (p + 1)) (by omega) (p + 1) rfl (by omega))
    · refine G_iload_2 (nx := 21) ⟨dX4_priceOfAll_20, rfl⟩ ?_
      refine G_aload_0 (nx := 22) ⟨dX4_priceOfAll_21, rfl⟩ ?_
      refine G_iload_3 (nx := 23) ⟨dX4_priceOfAll_22, rfl⟩ ?_
      refine G_cv1 (nx := 26) ⟨dX4_priceOfAll_23, rfl⟩ kX4_80 rfl hN.1 rfl (Nat.le_of_ble_eq_true rfl) (Nat.le_of_ble_eq_true rfl) (cN_price hN hX hp ?_)
      refine G_iadd (nx := 27) ⟨dX4_priceOfAll_26, rfl⟩ ?_
      refine G_istore_2 (nx := 28) ⟨dX4_priceOfAll_27, rfl⟩ rfl rfl ?_
      refine G_iinc_3 (nx := 31) ⟨dX4_priceOfAll_28, rfl⟩ ci_1 rfl ?_
      refine G_goto (tgt := 4) ⟨dX4_priceOfAll_31, rfl⟩ rfl ?_
      simp only [bi_0, bi_n0] at c_17
      refine G_L (by simp [lp_s, coF, c_17, nI_1, hkd p hp, hwt p hp]) (ih (n - (p + 1)) (by omega) (p + 1) rfl (by omega))

theorem cN_priceOfAll {s : Nat} {kd wt : Nat → Int32} {o a b c e : Nat} (hN : NT o a b c e) (hX : XG I o c n gr) (hkd : ∀ p, p < n → I a p = kd p) (hwt : ∀ p, p < n → I b p = wt p) (hs : s < 4096) (hk : K (.int (coN n kd wt gr s)) I J (rX g)) : G l (d + 3) mX4_priceOfAll K 0 [.ref o, .int (nI s), UU, UU] [] I J (rX g) := by
  refine G_iconst (nx := 1) ⟨dX4_priceOfAll_0, rfl⟩ ci_0 ?_
  refine G_istore_2 (nx := 2) ⟨dX4_priceOfAll_1, rfl⟩ rfl rfl ?_
  refine G_iconst (nx := 3) ⟨dX4_priceOfAll_2, rfl⟩ ci_0 ?_
  refine G_istore_3 (nx := 4) ⟨dX4_priceOfAll_3, rfl⟩ rfl rfl ?_
  exact lN_priceOfAll hN hX hkd hwt hs hk _ 0 rfl (Nat.zero_le _)

theorem lN_near {s : Nat} {o a b c e : Nat} (hN : NT o a b c e) (hX : XG I o c n gr) (hs : s < 4096) (hk : K (.int (nI (ntN n gr s))) I J (rX g)) : ∀ (k p : Nat), n - p = k → p ≤ n → G l (d + 0) mX4_near K 4 [.ref o, .int (nI s), .int (nI (lp (ntF gr s) p 0)), .int (nI p)] [] I J (rX g) := by
  intro k
  induction k using Nat.strongRecOn with
  | _ k ih =>
  intro p hpk hpn
  have hn := hX.2.1
  have e0 := hX.1
  refine G_iload_3 (nx := 5) ⟨dX4_near_4, rfl⟩ ?_
  refine G_aload_0 (nx := 6) ⟨dX4_near_5, rfl⟩ ?_
  refine G_geti (nx := 9) (k := o) ⟨dX4_near_6, rfl⟩ fX4_24 hN.1 yi_4_4 ?_
  rw [e0]
  refine G_icmpge (tgt := 35) (nx := 12) ⟨dX4_near_9, rfl⟩ rfl (fun c_9 => ?_) (fun c_9 => ?_)
  · refine G_iload_2 (nx := 36) ⟨dX4_near_35, rfl⟩ ?_
    refine G_iret ⟨dX4_near_36, rfl⟩ rfl ?_
    rw [nI_le_iff (by omega) (by omega)] at c_9
    have hpe : p = n := by omega
    subst hpe
    exact hk
  · rw [nI_le_iff (by omega) (by omega)] at c_9
    have hp : p < n := by omega
    have h12 := in12 hp hn
    refine G_iload_1 (nx := 13) ⟨dX4_near_12, rfl⟩ ?_
    refine G_iload_3 (nx := 14) ⟨dX4_near_13, rfl⟩ ?_
    refine G_ishr (nx := 15) ⟨dX4_near_14, rfl⟩ ?_
    refine G_iconst (nx := 16) ⟨dX4_near_15, rfl⟩ ci_1 ?_
    refine G_iand (nx := 17) ⟨dX4_near_16, rfl⟩ ?_
    rw [bit_nI (lt31 hs) (by omega)]
    refine G_ifeq (tgt := 29) (nx := 20) ⟨dX4_near_17, rfl⟩ rfl (fun c_17 => ?_) (fun c_17 => ?_)
    · refine G_iinc_3 (nx := 32) ⟨dX4_near_29, rfl⟩ ci_1 rfl ?_
      refine G_goto (tgt := 4) ⟨dX4_near_32, rfl⟩ rfl ?_
      simp only [bi_0, bi_n0] at c_17
      refine G_L (by simp [lp_s, ntF, c_17, nI_1, nI_or]) (ih (n - (p + 1)) (by omega) (p + 1) rfl (by omega))
    · refine G_iload_2 (nx := 21) ⟨dX4_near_20, rfl⟩ ?_
      refine G_aload_0 (nx := 22) ⟨dX4_near_21, rfl⟩ ?_
      refine G_getr (nx := 25) (k := o) (r := c) ⟨dX4_near_22, rfl⟩ fX4_18 hN.1 yr_4_2 (hN.2.2.2.2.2.1 _).2.2.1 ?_
      refine G_iload_3 (nx := 26) ⟨dX4_near_25, rfl⟩ ?_
      refine G_iald (nx := 27) (k := c) ⟨dX4_near_26, rfl⟩ hN.2.2.2.1 (by first | assumption | decide | (unfold vp_in; decide)) ?_
      rw [hX.2.row hp]
      refine G_ior (nx := 28) ⟨dX4_near_27, rfl⟩ ?_
      refine G_istore_2 (nx := 29) ⟨dX4_near_28, rfl⟩ rfl rfl ?_
      refine G_iinc_3 (nx := 32) ⟨dX4_near_29, rfl⟩ ci_1 rfl ?_
      refine G_goto (tgt := 4) ⟨dX4_near_32, rfl⟩ rfl ?_
      simp only [bi_0, bi_n0] at c_17
      refine G_L (by simp [lp_s, ntF, c_17, nI_1, nI_or]) (ih (n - (p + 1)) (by omega) (p + 1) rfl (by omega))

theorem cN_near {s : Nat} {o a b c e : Nat} (hN : NT o a b c e) (hX : XG I o c n gr) (hs : s < 4096) (hk : K (.int (nI (ntN n gr s))) I J (rX g)) : G l (d + 0) mX4_near K 0 [.ref o, .int (nI s), UU, UU] [] I J (rX g) := by
  refine G_iconst (nx := 1) ⟨dX4_near_0, rfl⟩ ci_0 ?_
  refine G_istore_2 (nx := 2) ⟨dX4_near_1, rfl⟩ rfl rfl ?_
  refine G_iconst (nx := 3) ⟨dX4_near_2, rfl⟩ ci_0 ?_
  refine G_istore_3 (nx := 4) ⟨dX4_near_3, rfl⟩ rfl rfl ?_
  exact lN_near hN hX hs hk _ 0 rfl (Nat.zero_le _)

theorem lN_spent {o a b c e : Nat} (hN : NT o a b c e) (hX : XG I o c n gr) (hk : K (.int (nI (spN n (I e)))) I J (rX g)) : ∀ (k p : Nat), n - p = k → p ≤ n → G l (d + 0) mX4_spent K 4 [.ref o, .int (nI (lp (spF (I e)) p 0)), .int (nI p)] [] I J (rX g) := by
  intro k
  induction k using Nat.strongRecOn with
  | _ k ih =>
  intro p hpk hpn
  have hn := hX.2.1
  have e0 := hX.1
  refine G_iload_2 (nx := 5) ⟨dX4_spent_4, rfl⟩ ?_
  refine G_aload_0 (nx := 6) ⟨dX4_spent_5, rfl⟩ ?_
  refine G_geti (nx := 9) (k := o) ⟨dX4_spent_6, rfl⟩ fX4_24 hN.1 yi_4_4 ?_
  rw [e0]
  refine G_icmpge (tgt := 33) (nx := 12) ⟨dX4_spent_9, rfl⟩ rfl (fun c_9 => ?_) (fun c_9 => ?_)
  · refine G_iload_1 (nx := 34) ⟨dX4_spent_33, rfl⟩ ?_
    refine G_iret ⟨dX4_spent_34, rfl⟩ rfl ?_
    rw [nI_le_iff (by omega) (by omega)] at c_9
    have hpe : p = n := by omega
    subst hpe
    exact hk
  · rw [nI_le_iff (by omega) (by omega)] at c_9
    have hp : p < n := by omega
    have h12 := in12 hp hn
    refine G_aload_0 (nx := 13) ⟨dX4_spent_12, rfl⟩ ?_
    refine G_getr (nx := 16) (k := o) (r := e) ⟨dX4_spent_13, rfl⟩ fX4_21 hN.1 yr_4_3 (hN.2.2.2.2.2.1 _).2.2.2 ?_
    refine G_iload_2 (nx := 17) ⟨dX4_spent_16, rfl⟩ ?_
    refine G_iald (nx := 18) (k := e) ⟨dX4_spent_17, rfl⟩ hN.2.2.2.2.1 (by first | assumption | decide | (unfold vp_in; decide)) ?_
    rw [cl_nI (show p < 2 ^ 31 by omega)]
    refine G_ifne (tgt := 27) (nx := 21) ⟨dX4_spent_18, rfl⟩ rfl (fun c_18 => ?_) (fun c_18 => ?_)
    · refine G_iinc_2 (nx := 30) ⟨dX4_spent_27, rfl⟩ ci_1 rfl ?_
      refine G_goto (tgt := 4) ⟨dX4_spent_30, rfl⟩ rfl ?_
      refine G_L ?_ (ih (n - (p + 1)) (by omega) (p + 1) rfl (by omega))
      rw [lp_s, spF, if_neg c_18, nI_1, Nat.or_zero]
    · refine G_iload_1 (nx := 22) ⟨dX4_spent_21, rfl⟩ ?_
      refine G_iconst (nx := 23) ⟨dX4_spent_22, rfl⟩ ci_1 ?_
      refine G_iload_2 (nx := 24) ⟨dX4_spent_23, rfl⟩ ?_
      refine G_ishl (nx := 25) ⟨dX4_spent_24, rfl⟩ ?_
      rw [one_shl (show p < 31 by omega)]
      refine G_ior (nx := 26) ⟨dX4_spent_25, rfl⟩ ?_
      rw [nI_or]
      refine G_istore_1 (nx := 27) ⟨dX4_spent_26, rfl⟩ rfl rfl ?_
      refine G_iinc_2 (nx := 30) ⟨dX4_spent_27, rfl⟩ ci_1 rfl ?_
      refine G_goto (tgt := 4) ⟨dX4_spent_30, rfl⟩ rfl ?_
      refine G_L ?_ (ih (n - (p + 1)) (by omega) (p + 1) rfl (by omega))
      rw [lp_s, spF, if_pos c_18, nI_1]

theorem cN_spent {o a b c e : Nat} (hN : NT o a b c e) (hX : XG I o c n gr) (hk : K (.int (nI (spN n (I e)))) I J (rX g)) : G l (d + 0) mX4_spent K 0 [.ref o, UU, UU] [] I J (rX g) := by
  refine G_iconst (nx := 1) ⟨dX4_spent_0, rfl⟩ ci_0 ?_
  refine G_istore_1 (nx := 2) ⟨dX4_spent_1, rfl⟩ rfl rfl ?_
  refine G_iconst (nx := 3) ⟨dX4_spent_2, rfl⟩ ci_0 ?_
  refine G_istore_2 (nx := 4) ⟨dX4_spent_3, rfl⟩ rfl rfl ?_
  exact lN_spent hN hX hk _ 0 rfl (Nat.zero_le _)

def bzD (gr : Nat → Nat) (P : Nat) (q : Option Nat) : Nat := match q with | none => 0 | some q => dg gr P q
theorem bzF_eq (gr : Nat → Nat) (P p : Nat) (q : Option Nat) : bzF gr P p q = if P.testBit p = true ∧ bzD gr P q < dg gr P p then some p else q := by cases q <;> rfl
theorem bzD_le (gr : Nat → Nat) (P : Nat) (q : Option Nat) : bzD gr P q ≤ 12 := by
  cases q with
  | none => exact Nat.zero_le _
  | some q => exact pc_le _
theorem bz_more {gr : Nat → Nat} {P n : Nat} (hP : P < 2 ^ n) : ∀ m, lp (bzF gr P) (n + m) none = lp (bzF gr P) n none := by
  intro m
  induction m with
  | zero => rfl
  | succ m ih =>
    have ht : P.testBit (n + m) = false := Nat.testBit_lt_two_pow (Nat.lt_of_lt_of_le hP (Nat.pow_le_pow_right (by omega) (by omega)))
    rw [← Nat.add_assoc, lp_s, bzF_eq, if_neg (by rw [ht]; simp), ih]
theorem lN_busiest {c P : Nat} (hc : isA c 12) (hR : RG I c n gr) (hP : P < 2 ^ n) (hk : K (.int (mv (bz n gr P))) I J (rX g)) : ∀ (k p : Nat) (x5 : Value), notL x5 = true → 12 - p = k → p ≤ 12 → G l (d + 1) mX4_busiest K 7 [.ref c, .int (nI P), .int (mv (lp (bzF gr P) p none)), .int (nI (bzD gr P (lp (bzF gr P) p none))), .int (nI p), x5] [] I J (rX g) := by
  intro k
  induction k using Nat.strongRecOn with
  | _ k ih =>
  intro p x5 hx5 hpk hp12
  have hn := hR.1
  have hP4 : P < 4096 := Nat.lt_of_lt_of_le hP (pow12 hn)
  have hbd := bzD_le gr P (lp (bzF gr P) p none)
  refine G_iload_4 (nx := 9) ⟨dX4_busiest_7, rfl⟩ ?_
  refine G_bipush (nx := 11) ⟨dX4_busiest_9, rfl⟩ cb_12 ?_
  rw [show (12 : Int32) = nI 12 by decide]
  refine G_icmpge (tgt := 55) (nx := 14) ⟨dX4_busiest_11, rfl⟩ rfl (fun c_11 => ?_) (fun c_11 => ?_)
  · refine G_iload_2 (nx := 56) ⟨dX4_busiest_55, rfl⟩ ?_
    refine G_iret ⟨dX4_busiest_56, rfl⟩ rfl ?_
    rw [nI_le_iff (by omega) (by omega)] at c_11
    have e : p = 12 := by omega
    have e2 := bz_more (gr := gr) hP (12 - n)
    rw [show n + (12 - n) = 12 by omega] at e2
    rw [e, e2]
    exact hk
  · rw [nI_le_iff (by omega) (by omega)] at c_11
    have hp : p < 12 := by omega
    have h12 : vp_in (nI p) 12 := vp_in_nI hp (by decide)
    refine G_iload_1 (nx := 15) ⟨dX4_busiest_14, rfl⟩ ?_
    refine G_iload_4 (nx := 17) ⟨dX4_busiest_15, rfl⟩ ?_
    refine G_ishr (nx := 18) ⟨dX4_busiest_17, rfl⟩ ?_
    refine G_iconst (nx := 19) ⟨dX4_busiest_18, rfl⟩ ci_1 ?_
    refine G_iand (nx := 20) ⟨dX4_busiest_19, rfl⟩ ?_
    rw [bit_nI (lt31 hP4) (by omega)]
    refine G_ifne (tgt := 26) (nx := 23) ⟨dX4_busiest_20, rfl⟩ rfl (fun c_20 => ?_) (fun c_20 => ?_)
    · rw [bi_n0] at c_20
      have hpn : p < n := tb_ltn hP c_20
      refine G_aload_0 (nx := 27) ⟨dX4_busiest_26, rfl⟩ ?_
      refine G_iload_4 (nx := 29) ⟨dX4_busiest_27, rfl⟩ ?_
      refine G_iald (nx := 30) (k := c) ⟨dX4_busiest_29, rfl⟩ hc (by first | assumption | decide | (unfold vp_in; decide)) ?_
      rw [hR.row hpn]
      refine G_iload_1 (nx := 31) ⟨dX4_busiest_30, rfl⟩ ?_
      refine G_iand (nx := 32) ⟨dX4_busiest_31, rfl⟩ ?_
      rw [nI_and]
      refine G_cs1 (nx := 35) ⟨dX4_busiest_32, rfl⟩ kX4_68 rfl rfl (Nat.le_of_ble_eq_true rfl) (Nat.le_of_ble_eq_true rfl) (cJ_bc (Nat.lt_of_le_of_lt Nat.and_le_right hP4) ?_)
      refine G_istore_5 (nx := 37) ⟨dX4_busiest_35, rfl⟩ rfl rfl ?_
      refine G_iload_5 (nx := 39) ⟨dX4_busiest_37, rfl⟩ ?_
      refine G_iload_3 (nx := 40) ⟨dX4_busiest_39, rfl⟩ ?_
      refine G_icmple (tgt := 49) (nx := 43) ⟨dX4_busiest_40, rfl⟩ rfl (fun c_40 => ?_) (fun c_40 => ?_)
      · refine G_iinc_4 (nx := 52) ⟨dX4_busiest_49, rfl⟩ ci_1 rfl ?_
        refine G_goto (tgt := 7) ⟨dX4_busiest_52, rfl⟩ rfl ?_
        rw [nI_le_iff (by have := pc_le (gr p &&& P); omega) (by omega)] at c_40
        have est : lp (bzF gr P) (p + 1) none = lp (bzF gr P) p none := by
          rw [lp_s, bzF_eq, if_neg]
          intro h
          have h2 : bzD gr P (lp (bzF gr P) p none) < dg gr P p := h.2
          unfold dg at h2
          omega
        exact G_L (by rw [est, nI_1]) (ih (12 - (p + 1)) (by omega) (p + 1) _ rfl rfl (by omega))
      · refine G_iload_5 (nx := 45) ⟨dX4_busiest_43, rfl⟩ ?_
        refine G_istore_3 (nx := 46) ⟨dX4_busiest_45, rfl⟩ rfl rfl ?_
        refine G_iload_4 (nx := 48) ⟨dX4_busiest_46, rfl⟩ ?_
        refine G_istore_2 (nx := 49) ⟨dX4_busiest_48, rfl⟩ rfl rfl ?_
        refine G_iinc_4 (nx := 52) ⟨dX4_busiest_49, rfl⟩ ci_1 rfl ?_
        refine G_goto (tgt := 7) ⟨dX4_busiest_52, rfl⟩ rfl ?_
        rw [nI_le_iff (by have := pc_le (gr p &&& P); omega) (by omega)] at c_40
        have est : lp (bzF gr P) (p + 1) none = some p := by
          rw [lp_s, bzF_eq, if_pos]
          refine ⟨c_20, ?_⟩
          show bzD gr P (lp (bzF gr P) p none) < dg gr P p
          unfold dg
          omega
        exact G_L (by rw [est, nI_1]; rfl) (ih (12 - (p + 1)) (by omega) (p + 1) _ rfl rfl (by omega))
    · refine G_goto (tgt := 49) ⟨dX4_busiest_23, rfl⟩ rfl ?_
      refine G_iinc_4 (nx := 52) ⟨dX4_busiest_49, rfl⟩ ci_1 rfl ?_
      refine G_goto (tgt := 7) ⟨dX4_busiest_52, rfl⟩ rfl ?_
      rw [bi_0] at c_20
      have est : lp (bzF gr P) (p + 1) none = lp (bzF gr P) p none := by rw [lp_s, bzF_eq, if_neg (by rw [c_20]; simp)]
      exact G_L (by rw [est, nI_1]) (ih (12 - (p + 1)) (by omega) (p + 1) x5 hx5 rfl (by omega))

theorem cN_busiest {c P : Nat} (hc : isA c 12) (hR : RG I c n gr) (hP : P < 2 ^ n) (hk : K (.int (mv (bz n gr P))) I J (rX g)) : G l (d + 1) mX4_busiest K 0 [.ref c, .int (nI P), UU, UU, UU, UU] [] I J (rX g) := by
  refine G_iconst (nx := 1) ⟨dX4_busiest_0, rfl⟩ ci_m1 ?_
  refine G_istore_2 (nx := 2) ⟨dX4_busiest_1, rfl⟩ rfl rfl ?_
  refine G_iconst (nx := 3) ⟨dX4_busiest_2, rfl⟩ ci_0 ?_
  refine G_istore_3 (nx := 4) ⟨dX4_busiest_3, rfl⟩ rfl rfl ?_
  refine G_iconst (nx := 5) ⟨dX4_busiest_4, rfl⟩ ci_0 ?_
  refine G_istore_4 (nx := 7) ⟨dX4_busiest_5, rfl⟩ rfl rfl ?_
  exact G_L (by rw [← nI_0]; rfl) (lN_busiest hc hR hP hk _ 0 UU rfl rfl (by omega))

end X61
