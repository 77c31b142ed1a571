
/-- a pack's worth and sets as the class keeps them in one number -/
def bv (s : Nat × Nat) : Nat := 16 * s.1 - s.2
def bP (s : Nat × Nat) : Prop := s.2 ≤ s.1 ∧ s.1 ≤ 14
theorem bv_bt {s c : Nat × Nat} (hs : bP s) (hc : bP c) : bv (bt s c) = if bv s < bv c then bv c else bv s := by
  unfold bv bt bP at *
  split
  · split <;> omega
  · split
    · rfl
    · omega
theorem bt_b {s c : Nat × Nat} (hs : bP s) (hc : bP c) : bP (bt s c) := bt_P (P := bP) hs hc
theorem bv_le {s : Nat × Nat} (h : bP s) : bv s ≤ 300 := by unfold bv bP at *; omega
theorem pkI_stop {T : Nat → Nat × Nat} {X rest q : Nat} {s : Nat × Nat} : ∀ m r, (∀ x, r ≤ x → X.testBit x = false) → lp (pkI T X rest q) (r + m) s = lp (pkI T X rest q) r s := by
  intro m
  induction m with
  | zero => intro r _; rfl
  | succ m ih =>
    intro r h
    rw [← Nat.add_assoc, lp_s, ih r h, pkI, if_neg (by rw [h (r + m) (by omega)]; simp)]
theorem pkO_stop {n : Nat} {gr : Nat → Nat} {T : Nat → Nat × Nat} {p rest : Nat} {s : Nat × Nat} (hr : rest < 2 ^ n) : ∀ m, lp (pkO n gr T p rest) (n + m) s = lp (pkO n gr T p rest) n s := by
  intro m
  induction m with
  | zero => rfl
  | succ m ih =>
    have : (rest &&& gr p).testBit (n + m) = false := by
      rw [Nat.testBit_and]
      have : rest.testBit (n + m) = false := Nat.testBit_lt_two_pow (Nat.lt_of_lt_of_le hr (Nat.pow_le_pow_right (by omega) (by omega)))
      rw [this]; rfl
    rw [← Nat.add_assoc, lp_s, ih, pkO, if_neg (by rw [this]; decide)]
theorem m1shl {q : Nat} (hq : q < 12) : (-1 : Int32) <<< (nI q &&& 31) = nI (2 ^ q - 1) ^^^ (-1) := by
  have h : ∀ q, q < 12 → (-1 : Int32) <<< (nI q &&& 31) = nI (2 ^ q - 1) ^^^ (-1) := by decide +kernel
  exact h q hq
theorem div_0 {a r : Nat} : a / 2 ^ r = 0 ↔ ∀ x, r ≤ x → a.testBit x = false := by
  constructor
  · intro h x hx
    have : a < 2 ^ r := (Nat.div_eq_zero_iff_lt (Nat.two_pow_pos r)).mp h
    exact Nat.testBit_lt_two_pow (Nat.lt_of_lt_of_le this (Nat.pow_le_pow_right (by omega) hx))
  · intro h
    rw [Nat.div_eq_zero_iff_lt (Nat.two_pow_pos r)]
    exact Nat.lt_pow_two_of_testBit _ (fun i hi => h i hi)
section X78
variable {l : Launch} {d : Nat} {K : AK} {I : AI} {J : AJ} {g : Bool} {n : Nat} {gr : Nat → Nat}

theorem lP_in {set rest p q : Nat} {T : Nat → Nat × Nat} {s0 : Nat × Nat} (hn : n ≤ 12) (hset : set < 2 ^ n) (hrest : rest < set) (hq : q < 12) (hrow : ∀ j, j < set → I 21 j = nI (bv (T j))) (hTb : ∀ j, j < set → (T j).2 ≤ (T j).1 ∧ (T j).1 ≤ 12) (hs0 : bP s0) (hgo : ∀ (x9 : Value), notL x9 = true → G l (d + 1) mX5_bestOf K 156 [.ref 34, .ref 4, .int (nI set), .int (nI rest), .int (nI (gr p &&& rest)), .int (nI (bv (lp (pkI T (rest &&& gr p &&& gr q) rest q) n s0))), .int (nI q), .int (nI (df rest (2 ^ q))), .int (nI (df (gr p &&& rest &&& gr q) (2 ^ q - 1))), x9] [] I J (rX g)) : ∀ (kk r : Nat), 12 - r = kk → q < r → r ≤ 12 → bP (lp (pkI T (rest &&& gr p &&& gr q) rest q) r s0) → G l (d + 1) mX5_bestOf K 96 [.ref 34, .ref 4, .int (nI set), .int (nI rest), .int (nI (gr p &&& rest)), .int (nI (bv (lp (pkI T (rest &&& gr p &&& gr q) rest q) r s0))), .int (nI q), .int (nI (df rest (2 ^ q))), .int (nI (df (gr p &&& rest &&& gr q) (2 ^ q - 1))), .int (nI r)] [] I J (rX g) := by
  intro kk
  induction kk using Nat.strongRecOn with
  | _ kk ih =>
  intro r hrk hqr hr hb
  have hp12 := pow12 hn
  have hset4 : set < 4096 := by omega
  have hXle : rest &&& gr p &&& gr q ≤ rest := Nat.le_trans Nat.and_le_left Nat.and_le_left
  have hThle := df_le (gr p &&& rest &&& gr q) (2 ^ q - 1)
  have hThl2 : gr p &&& rest &&& gr q ≤ rest := Nat.le_trans Nat.and_le_left Nat.and_le_right
  have hTh : ∀ x, q ≤ x → (df (gr p &&& rest &&& gr q) (2 ^ q - 1)).testBit x = (rest &&& gr p &&& gr q).testBit x := fun x hx => by
    rw [tb_df, Nat.testBit_two_pow_sub_one, decide_eq_false (by omega), Nat.testBit_and, Nat.testBit_and, Nat.testBit_and, Nat.testBit_and, Bool.and_comm ((gr p).testBit x)]
    simp
  have hbl := bv_le hb
  have hXn : ∀ x, n ≤ x → (rest &&& gr p &&& gr q).testBit x = false := fun x hx => Nat.testBit_lt_two_pow (Nat.lt_of_lt_of_le (show rest &&& gr p &&& gr q < 2 ^ n by omega) (Nat.pow_le_pow_right (by omega) hx))
  have h12n : lp (pkI T (rest &&& gr p &&& gr q) rest q) 12 s0 = lp (pkI T (rest &&& gr p &&& gr q) rest q) n s0 := by
    have := pkI_stop (T := T) (rest := rest) (q := q) (s := s0) (12 - n) n hXn
    rw [show n + (12 - n) = 12 by omega] at this
    exact this
  refine G_iload_9 (nx := 98) ⟨dX5_bestOf_96, rfl⟩ ?_
  refine G_bipush (nx := 100) ⟨dX5_bestOf_98, rfl⟩ cb_12 ?_
  rw [show (12 : Int32) = nI 12 by decide]
  refine G_icmpge (tgt := 156) (nx := 103) ⟨dX5_bestOf_100, rfl⟩ rfl (fun c_100 => ?_) (fun c_100 => ?_)
  · rw [nI_le_iff (by omega) (by omega)] at c_100
    have e12 : r = 12 := by omega
    subst e12
    exact G_L (by rw [h12n]) (hgo _ rfl)
  · rw [nI_le_iff (by omega) (by omega)] at c_100
    have hr12 : r < 12 := by omega
    have hpw : 2 ^ r < 2 ^ 12 := Nat.pow_lt_pow_right (by omega) (by omega)
    have hdl : df rest (2 ^ q ||| 2 ^ r) < set := Nat.lt_of_le_of_lt (df_le _ _) hrest
    have hdi := in4k (show df rest (2 ^ q ||| 2 ^ r) < 4096 by omega)
    have hdc := cl_nI (p := df rest (2 ^ q ||| 2 ^ r)) (by omega)
    have hdq := df_le rest (2 ^ q)
    refine G_iload_8 (nx := 105) ⟨dX5_bestOf_103, rfl⟩ ?_
    refine G_iload_9 (nx := 107) ⟨dX5_bestOf_105, rfl⟩ ?_
    refine G_ishr (nx := 108) ⟨dX5_bestOf_107, rfl⟩ ?_
    rw [shr_nI (by omega) (by omega)]
    refine G_ifeq (tgt := 156) (nx := 111) ⟨dX5_bestOf_108, rfl⟩ rfl (fun c_108 => ?_) (fun c_108 => ?_)
    · rw [nI_0iff (Nat.lt_of_le_of_lt (Nat.div_le_self _ _) (by omega)), div_0] at c_108
      have hst := pkI_stop (T := T) (rest := rest) (q := q) (s := s0) (12 - r) r (fun x hx => by rw [← hTh x (by omega)]; exact c_108 x hx)
      rw [show r + (12 - r) = 12 by omega] at hst
      exact G_L (by rw [← h12n, hst]) (hgo _ rfl)
    · refine G_iload_8 (nx := 113) ⟨dX5_bestOf_111, rfl⟩ ?_
      refine G_iload_9 (nx := 115) ⟨dX5_bestOf_113, rfl⟩ ?_
      refine G_ishr (nx := 116) ⟨dX5_bestOf_115, rfl⟩ ?_
      refine G_iconst (nx := 117) ⟨dX5_bestOf_116, rfl⟩ ci_1 ?_
      refine G_iand (nx := 118) ⟨dX5_bestOf_117, rfl⟩ ?_
      rw [bit_nI (by omega) (by omega)]
      refine G_ifne (tgt := 124) (nx := 121) ⟨dX5_bestOf_118, rfl⟩ rfl (fun c_118 => ?_) (fun c_118 => ?_)
      · refine G_iload_5 (nx := 126) ⟨dX5_bestOf_124, rfl⟩ ?_
        refine G_aload_0 (nx := 127) ⟨dX5_bestOf_126, rfl⟩ ?_
        refine G_getr (nx := 130) (k := 34) (r := 21) ⟨dX5_bestOf_127, rfl⟩ fX5_18 q_34 yr_5_0 (r_34_0 _) ?_
        refine G_iload_7 (nx := 132) ⟨dX5_bestOf_130, rfl⟩ ?_
        refine G_iconst (nx := 133) ⟨dX5_bestOf_132, rfl⟩ ci_1 ?_
        refine G_iload_9 (nx := 135) ⟨dX5_bestOf_133, rfl⟩ ?_
        refine G_ishl (nx := 136) ⟨dX5_bestOf_135, rfl⟩ ?_
        refine G_iconst (nx := 137) ⟨dX5_bestOf_136, rfl⟩ ci_m1 ?_
        refine G_ixor (nx := 138) ⟨dX5_bestOf_137, rfl⟩ ?_
        refine G_iand (nx := 139) ⟨dX5_bestOf_138, rfl⟩ ?_
        rw [one_shl (show r < 31 by omega), nI_df _ (by omega), ← df_or3]
        refine G_iald (nx := 140) (k := 21) ⟨dX5_bestOf_139, rfl⟩ q_21 (by first | assumption | decide | (unfold vp_in; decide)) ?_
        rw [hdc, hrow _ hdl]
        refine G_bipush (nx := 142) ⟨dX5_bestOf_140, rfl⟩ cb_32 ?_
        refine G_iadd (nx := 143) ⟨dX5_bestOf_142, rfl⟩ ?_
        refine G_iconst (nx := 144) ⟨dX5_bestOf_143, rfl⟩ ci_1 ?_
        refine G_isub (nx := 145) ⟨dX5_bestOf_144, rfl⟩ ?_
        rw [show (32 : Int32) = nI 32 by decide, show (1 : Int32) = nI 1 by decide, nI_add, nI_sub (by omega), show bv (T (df rest (2 ^ q ||| 2 ^ r))) + 32 - 1 = bv ((T (df rest (2 ^ q ||| 2 ^ r))).1 + 2, (T (df rest (2 ^ q ||| 2 ^ r))).2 + 1) by have := hTb _ hdl; unfold bv; simp only; omega]
        refine G_mmax (nx := 148) ⟨dX5_bestOf_145, rfl⟩ kX5_41 (Nat.le_of_ble_eq_true rfl) ?_
        refine G_istore_5 (nx := 150) ⟨dX5_bestOf_148, rfl⟩ rfl rfl ?_
        refine G_iinc_9 (nx := 153) ⟨dX5_bestOf_150, rfl⟩ ci_1 rfl ?_
        refine G_goto (tgt := 96) ⟨dX5_bestOf_153, rfl⟩ rfl ?_
        rw [bi_n0, hTh r (by omega)] at c_118
        have est : lp (pkI T (rest &&& gr p &&& gr q) rest q) (r + 1) s0 = bt (lp (pkI T (rest &&& gr p &&& gr q) rest q) r s0) ((T (df rest (2 ^ q ||| 2 ^ r))).1 + 2, (T (df rest (2 ^ q ||| 2 ^ r))).2 + 1) := by rw [lp_s, pkI, if_pos ⟨hqr, c_118⟩]
        have hcb : bP ((T (df rest (2 ^ q ||| 2 ^ r))).1 + 2, (T (df rest (2 ^ q ||| 2 ^ r))).2 + 1) := by have := hTb _ hdl; unfold bP; simp only; omega
        have hcl := bv_le hcb
        have ev : (if nI (bv (lp (pkI T (rest &&& gr p &&& gr q) rest q) r s0)) < nI (bv ((T (df rest (2 ^ q ||| 2 ^ r))).1 + 2, (T (df rest (2 ^ q ||| 2 ^ r))).2 + 1)) then nI (bv ((T (df rest (2 ^ q ||| 2 ^ r))).1 + 2, (T (df rest (2 ^ q ||| 2 ^ r))).2 + 1)) else nI (bv (lp (pkI T (rest &&& gr p &&& gr q) rest q) r s0))) = nI (bv (lp (pkI T (rest &&& gr p &&& gr q) rest q) (r + 1) s0)) := by
          rw [est, bv_bt hb hcb]
          by_cases c : bv (lp (pkI T (rest &&& gr p &&& gr q) rest q) r s0) < bv ((T (df rest (2 ^ q ||| 2 ^ r))).1 + 2, (T (df rest (2 ^ q ||| 2 ^ r))).2 + 1)
          · rw [if_pos (by rw [nI_lt_iff (by omega) (by omega)]; exact c), if_pos c]
          · rw [if_neg (by rw [nI_lt_iff (by omega) (by omega)]; exact c), if_neg c]
        exact G_L (by rw [ev, nI_1]) (ih (12 - (r + 1)) (by omega) (r + 1) rfl (by omega) (by omega) (by rw [est]; exact bt_b hb hcb))
      · refine G_goto (tgt := 150) ⟨dX5_bestOf_121, rfl⟩ rfl ?_
        refine G_iinc_9 (nx := 153) ⟨dX5_bestOf_150, rfl⟩ ci_1 rfl ?_
        refine G_goto (tgt := 96) ⟨dX5_bestOf_153, rfl⟩ rfl ?_
        rw [bi_0, hTh r (by omega)] at c_118
        have est : lp (pkI T (rest &&& gr p &&& gr q) rest q) (r + 1) s0 = lp (pkI T (rest &&& gr p &&& gr q) rest q) r s0 := by rw [lp_s, pkI, if_neg (by rw [c_118]; simp)]
        exact G_L (by rw [est, nI_1]) (ih (12 - (r + 1)) (by omega) (r + 1) rfl (by omega) (by omega) (by rw [est]; exact hb))

end X78
