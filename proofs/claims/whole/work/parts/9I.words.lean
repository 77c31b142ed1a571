
def syB (tp : Nat → Int32) (p q i : Nat) : Bool := decide (q - p = swL i) && (List.range (swL i)).all (fun j => decide (tp (p + j) = swB i j))
def wi (k : Nat) : Nat := if k = 0 then 5 else k - 1
def kgI (tp : Nat → Int32) (p q : Nat) : Nat → Nat → Int32
  | 0, _ => -1
  | f + 1, k => if syB tp p q (wi k) = true then nI k else kgI tp p q f (k + 1)
theorem kg_kd (tp : Nat → Int32) (p q : Nat) : kgI tp p q 6 0 = kdI tp p q := by
  have h5 : syB tp p q 5 = wdB tp p q 112 111 105 110 116 0 := by
    rw [Bool.eq_iff_iff]
    simp [syB, wdB, swL, swB, stLen, stByt, wdL, List.range_succ, and_assoc]
  have h0 : syB tp p q 0 = wdB tp p q 116 111 108 108 0 0 := by
    rw [Bool.eq_iff_iff]
    simp [syB, wdB, swL, swB, stLen, stByt, wdL, List.range_succ, and_assoc]
  have h1 : syB tp p q 1 = wdB tp p q 99 108 117 98 0 0 := by
    rw [Bool.eq_iff_iff]
    simp [syB, wdB, swL, swB, stLen, stByt, wdL, List.range_succ, and_assoc]
  have h2 : syB tp p q 2 = wdB tp p q 107 101 101 112 101 114 := by
    rw [Bool.eq_iff_iff]
    simp [syB, wdB, swL, swB, stLen, stByt, wdL, List.range_succ, and_assoc]
  have h3 : syB tp p q 3 = wdB tp p q 103 117 105 108 100 0 := by
    rw [Bool.eq_iff_iff]
    simp [syB, wdB, swL, swB, stLen, stByt, wdL, List.range_succ, and_assoc]
  have h4 : syB tp p q 4 = wdB tp p q 119 97 114 100 101 110 := by
    rw [Bool.eq_iff_iff]
    simp [syB, wdB, swL, swB, stLen, stByt, wdL, List.range_succ, and_assoc]
  simp only [kgI, wi, kdI, ← h0, ← h1, ← h2, ← h3, ← h4, ← h5]
  rfl
section X9I
variable {l : Launch} {d : Nat} {K : AK} {I : AI} {J : AJ} {g : Bool} {i : Nat}

theorem cA_isLetter {x : Int32} (hk : K (.int (bi (inR x 97 122))) I J (rX g)) : G l d mX9_isLetter K 0 [.int x] [] I J (rX g) := by
  refine G_iload_0 (nx := 1) ⟨dX9_isLetter_0, rfl⟩ ?_
  refine G_bipush (nx := 3) ⟨dX9_isLetter_1, rfl⟩ cb_97 ?_
  refine G_icmplt (tgt := 16) (nx := 6) ⟨dX9_isLetter_3, rfl⟩ rfl (fun c_3 => ?_) (fun c_3 => ?_)
  · refine G_iconst (nx := 17) ⟨dX9_isLetter_16, rfl⟩ ci_0 ?_
    refine G_zret ⟨dX9_isLetter_17, rfl⟩ rfl (by first | assumption | decide | exact bi_01 _) ?_
    first | (rw [inR_1 c_3 c_9] at hk; exact hk) | (rw [inR_0 (Or.inl c_3)] at hk; exact hk) | (rw [inR_0 (Or.inr c_9)] at hk; exact hk)
  · refine G_iload_0 (nx := 7) ⟨dX9_isLetter_6, rfl⟩ ?_
    refine G_bipush (nx := 9) ⟨dX9_isLetter_7, rfl⟩ cb_122 ?_
    refine G_icmpgt (tgt := 16) (nx := 12) ⟨dX9_isLetter_9, rfl⟩ rfl (fun c_9 => ?_) (fun c_9 => ?_)
    · refine G_iconst (nx := 17) ⟨dX9_isLetter_16, rfl⟩ ci_0 ?_
      refine G_zret ⟨dX9_isLetter_17, rfl⟩ rfl (by first | assumption | decide | exact bi_01 _) ?_
      first | (rw [inR_1 c_3 c_9] at hk; exact hk) | (rw [inR_0 (Or.inl c_3)] at hk; exact hk) | (rw [inR_0 (Or.inr c_9)] at hk; exact hk)
    · refine G_iconst (nx := 13) ⟨dX9_isLetter_12, rfl⟩ ci_1 ?_
      refine G_goto (tgt := 17) ⟨dX9_isLetter_13, rfl⟩ rfl ?_
      refine G_zret ⟨dX9_isLetter_17, rfl⟩ rfl (by first | assumption | decide | exact bi_01 _) ?_
      first | (rw [inR_1 c_3 c_9] at hk; exact hk) | (rw [inR_0 (Or.inl c_3)] at hk; exact hk) | (rw [inR_0 (Or.inr c_9)] at hk; exact hk)

theorem cA_isDigit {x : Int32} (hk : K (.int (bi (inR x 48 57))) I J (rX g)) : G l d mX9_isDigit K 0 [.int x] [] I J (rX g) := by
  refine G_iload_0 (nx := 1) ⟨dX9_isDigit_0, rfl⟩ ?_
  refine G_bipush (nx := 3) ⟨dX9_isDigit_1, rfl⟩ cb_48 ?_
  refine G_icmplt (tgt := 16) (nx := 6) ⟨dX9_isDigit_3, rfl⟩ rfl (fun c_3 => ?_) (fun c_3 => ?_)
  · refine G_iconst (nx := 17) ⟨dX9_isDigit_16, rfl⟩ ci_0 ?_
    refine G_zret ⟨dX9_isDigit_17, rfl⟩ rfl (by first | assumption | decide | exact bi_01 _) ?_
    first | (rw [inR_1 c_3 c_9] at hk; exact hk) | (rw [inR_0 (Or.inl c_3)] at hk; exact hk) | (rw [inR_0 (Or.inr c_9)] at hk; exact hk)
  · refine G_iload_0 (nx := 7) ⟨dX9_isDigit_6, rfl⟩ ?_
    refine G_bipush (nx := 9) ⟨dX9_isDigit_7, rfl⟩ cb_57 ?_
    refine G_icmpgt (tgt := 16) (nx := 12) ⟨dX9_isDigit_9, rfl⟩ rfl (fun c_9 => ?_) (fun c_9 => ?_)
    · refine G_iconst (nx := 17) ⟨dX9_isDigit_16, rfl⟩ ci_0 ?_
      refine G_zret ⟨dX9_isDigit_17, rfl⟩ rfl (by first | assumption | decide | exact bi_01 _) ?_
      first | (rw [inR_1 c_3 c_9] at hk; exact hk) | (rw [inR_0 (Or.inl c_3)] at hk; exact hk) | (rw [inR_0 (Or.inr c_9)] at hk; exact hk)
    · refine G_iconst (nx := 13) ⟨dX9_isDigit_12, rfl⟩ ci_1 ?_
      refine G_goto (tgt := 17) ⟨dX9_isDigit_13, rfl⟩ rfl ?_
      refine G_zret ⟨dX9_isDigit_17, rfl⟩ rfl (by first | assumption | decide | exact bi_01 _) ?_
      first | (rw [inR_1 c_3 c_9] at hk; exact hk) | (rw [inR_0 (Or.inl c_3)] at hk; exact hk) | (rw [inR_0 (Or.inr c_9)] at hk; exact hk)

theorem cA_wordOf {k : Nat} (hk6 : k < 6) (hk : K (.ref (1001 + wi k)) I J (rX g)) : G l d mX9_wordOf K 0 [.int (nI k)] [] I J (rX g) := by
  have hz : ∀ v : Nat, v < 6 → nI k = nI v → k = v := fun v hv h => nI_inj (by omega) (by omega) h
  refine G_iload_0 (nx := 1) ⟨dX9_wordOf_0, rfl⟩ ?_
  rcases sw_1_5 _ with c_1 | c_1 | c_1 | c_1 | c_1 | c_1
  · refine G_tabAt (v := 1) (tgt := 36) (nx := 36) ⟨dX9_wordOf_1, rfl⟩ c_1 (by decide) (by decide) (off := 35) rfl rfl ?_
    refine G_ldcS (i := 0) (nx := 38) ⟨dX9_wordOf_36, rfl⟩ rfl (by decide) rfl ?_
    refine G_aret ⟨dX9_wordOf_38, rfl⟩ rfl ?_
    obtain rfl := hz 1 (by decide) c_1
    exact hk
  · refine G_tabAt (v := 2) (tgt := 39) (nx := 36) ⟨dX9_wordOf_1, rfl⟩ c_1 (by decide) (by decide) (off := 38) rfl rfl ?_
    refine G_ldcS (i := 1) (nx := 41) ⟨dX9_wordOf_39, rfl⟩ rfl (by decide) rfl ?_
    refine G_aret ⟨dX9_wordOf_41, rfl⟩ rfl ?_
    obtain rfl := hz 2 (by decide) c_1
    exact hk
  · refine G_tabAt (v := 3) (tgt := 42) (nx := 36) ⟨dX9_wordOf_1, rfl⟩ c_1 (by decide) (by decide) (off := 41) rfl rfl ?_
    refine G_ldcS (i := 2) (nx := 44) ⟨dX9_wordOf_42, rfl⟩ rfl (by decide) rfl ?_
    refine G_aret ⟨dX9_wordOf_44, rfl⟩ rfl ?_
    obtain rfl := hz 3 (by decide) c_1
    exact hk
  · refine G_tabAt (v := 4) (tgt := 45) (nx := 36) ⟨dX9_wordOf_1, rfl⟩ c_1 (by decide) (by decide) (off := 44) rfl rfl ?_
    refine G_ldcS (i := 3) (nx := 47) ⟨dX9_wordOf_45, rfl⟩ rfl (by decide) rfl ?_
    refine G_aret ⟨dX9_wordOf_47, rfl⟩ rfl ?_
    obtain rfl := hz 4 (by decide) c_1
    exact hk
  · refine G_tabAt (v := 5) (tgt := 48) (nx := 36) ⟨dX9_wordOf_1, rfl⟩ c_1 (by decide) (by decide) (off := 47) rfl rfl ?_
    refine G_ldcS (i := 4) (nx := 50) ⟨dX9_wordOf_48, rfl⟩ rfl (by decide) rfl ?_
    refine G_aret ⟨dX9_wordOf_50, rfl⟩ rfl ?_
    obtain rfl := hz 5 (by decide) c_1
    exact hk
  · refine G_tabOut (tgt := 51) (nx := 36) ⟨dX9_wordOf_1, rfl⟩ c_1 rfl ?_
    refine G_ldcS (i := 5) (nx := 53) ⟨dX9_wordOf_51, rfl⟩ rfl (by decide) rfl ?_
    refine G_aret ⟨dX9_wordOf_53, rfl⟩ rfl ?_
    have h0 : k = 0 := by
      rcases (show k = 0 ∨ k = 1 ∨ k = 2 ∨ k = 3 ∨ k = 4 ∨ k = 5 by omega) with rfl | rfl | rfl | rfl | rfl | rfl
      · rfl
      all_goals exact absurd c_1 (by decide)
    subst h0
    exact hk

theorem lA_says {p q : Nat} (hi : i < 6) (hpq : p ≤ q) (hq : q ≤ 200) (hl : q - p = swL i) (hk : K (.int (bi (syB (I 43) p q i))) I J (rX g)) : ∀ (k j : Nat), swL i - j = k → j ≤ swL i → (∀ x, x < j → I 43 (p + x) = swB i x) → G l (d + 4) mX9_says K 15 [.ref 42, .ref (1001 + i), .int (nI p), .int (nI q), .int (nI j)] [] I J (rX g) := by
  intro k
  induction k using Nat.strongRecOn with
  | _ k ih =>
  intro j hjk hj hall
  have hL := swL_le i hi
  refine G_iload_4 (nx := 17) ⟨dX9_says_15, rfl⟩ ?_
  refine G_aload_1 (nx := 18) ⟨dX9_says_17, rfl⟩ ?_
  refine G_cq0 (nx := 21) ⟨dX9_says_18, rfl⟩ kX9_72 rfl hi rfl (Nat.le_of_ble_eq_true rfl) (Nat.le_of_ble_eq_true rfl) (cJ_length hi ?_)
  refine G_icmpge (tgt := 50) (nx := 24) ⟨dX9_says_21, rfl⟩ rfl (fun c_21 => ?_) (fun c_21 => ?_)
  · refine G_iconst (nx := 51) ⟨dX9_says_50, rfl⟩ ci_1 ?_
    refine G_zret ⟨dX9_says_51, rfl⟩ rfl (by first | assumption | decide | exact bi_01 _) ?_
    have e0 : syB (I 43) p q i = true := by
      rw [nI_le_iff (by omega) (by omega)] at c_21
      unfold syB
      rw [hl, decide_eq_true rfl, Bool.true_and, List.all_eq_true]
      intro x hx
      exact decide_eq_true (hall x (by have := List.mem_range.mp hx; omega))
    rw [e0] at hk
    exact hk
  · rw [nI_le_iff (by omega) (by omega)] at c_21
    have hjl : j < swL i := by omega
    refine G_aload_0 (nx := 25) ⟨dX9_says_24, rfl⟩ ?_
    refine G_getr (nx := 28) (k := 42) (r := 43) ⟨dX9_says_25, rfl⟩ fX9_9 q_42 yr_9_0 (r_42_0 _) ?_
    refine G_iload_2 (nx := 29) ⟨dX9_says_28, rfl⟩ ?_
    refine G_iload_4 (nx := 31) ⟨dX9_says_29, rfl⟩ ?_
    refine G_iadd (nx := 32) ⟨dX9_says_31, rfl⟩ ?_
    rw [nI_add]
    refine G_iald (nx := 33) (k := 43) ⟨dX9_says_32, rfl⟩ q_43 (by exact in200 (by omega)) ?_
    rw [cl_nI (by omega)]
    refine G_aload_1 (nx := 34) ⟨dX9_says_33, rfl⟩ ?_
    refine G_iload_4 (nx := 36) ⟨dX9_says_34, rfl⟩ ?_
    refine G_cq1 (nx := 39) ⟨dX9_says_36, rfl⟩ kX9_78 rfl hi rfl (Nat.le_of_ble_eq_true rfl) (Nat.le_of_ble_eq_true rfl) (cJ_charAt hi hjl ?_)
    refine G_icmpeq (tgt := 44) (nx := 42) ⟨dX9_says_39, rfl⟩ rfl (fun c_39 => ?_) (fun c_39 => ?_)
    · refine G_iinc_4 (nx := 47) ⟨dX9_says_44, rfl⟩ ci_1 rfl ?_
      refine G_goto (tgt := 15) ⟨dX9_says_47, rfl⟩ rfl ?_
      rw [nI_1]
      refine ih (swL i - (j + 1)) (by omega) (j + 1) rfl (by omega) (fun x hx => ?_)
      rcases Nat.lt_succ_iff_lt_or_eq.mp hx with h | h
      · exact hall x h
      · rw [h]; exact c_39
    · refine G_iconst (nx := 43) ⟨dX9_says_42, rfl⟩ ci_0 ?_
      refine G_zret ⟨dX9_says_43, rfl⟩ rfl (by first | assumption | decide | exact bi_01 _) ?_
      have e0 : syB (I 43) p q i = false := by
        unfold syB
        rw [hl, decide_eq_true rfl, Bool.true_and, Bool.eq_false_iff]
        intro h
        rw [List.all_eq_true] at h
        exact c_39 (of_decide_eq_true (h j (List.mem_range.mpr hjl)))
      rw [e0] at hk
      exact hk

theorem cA_says {p q : Nat} (hi : i < 6) (hpq : p ≤ q) (hq : q ≤ 200) (hk : K (.int (bi (syB (I 43) p q i))) I J (rX g)) : G l (d + 4) mX9_says K 0 [.ref 42, .ref (1001 + i), .int (nI p), .int (nI q), UU] [] I J (rX g) := by
  have hL := swL_le i hi
  refine G_aload_1 (nx := 1) ⟨dX9_says_0, rfl⟩ ?_
  refine G_cq0 (nx := 4) ⟨dX9_says_1, rfl⟩ kX9_72 rfl hi rfl (Nat.le_of_ble_eq_true rfl) (Nat.le_of_ble_eq_true rfl) (cJ_length hi ?_)
  refine G_iload_3 (nx := 5) ⟨dX9_says_4, rfl⟩ ?_
  refine G_iload_2 (nx := 6) ⟨dX9_says_5, rfl⟩ ?_
  refine G_isub (nx := 7) ⟨dX9_says_6, rfl⟩ ?_
  rw [nI_sub hpq]
  refine G_icmpeq (tgt := 12) (nx := 10) ⟨dX9_says_7, rfl⟩ rfl (fun c_7 => ?_) (fun c_7 => ?_)
  · refine G_iconst (nx := 13) ⟨dX9_says_12, rfl⟩ ci_0 ?_
    refine G_istore_4 (nx := 15) ⟨dX9_says_13, rfl⟩ rfl rfl ?_
    exact lA_says hi hpq hq (nI_inj (by omega) (by omega) c_7).symm hk _ 0 rfl (by omega) (fun x h => absurd h (by omega))
  · refine G_iconst (nx := 11) ⟨dX9_says_10, rfl⟩ ci_0 ?_
    refine G_zret ⟨dX9_says_11, rfl⟩ rfl (by first | assumption | decide | exact bi_01 _) ?_
    have e0 : syB (I 43) p q i = false := by
      unfold syB
      rw [decide_eq_false (fun h => c_7 (by rw [h])), Bool.false_and]
    rw [e0] at hk
    exact hk

theorem lA_kindOf {p q : Nat} (hpq : p ≤ q) (hq : q ≤ 200) : ∀ (f k : Nat), k + f = 6 → (K (.int (kgI (I 43) p q f k)) I J (rX g)) → G l (d + 5) mX9_kindOf K 2 [.ref 42, .int (nI p), .int (nI q), .int (nI k)] [] I J (rX g) := by
  intro f
  induction f with
  | zero =>
    intro k hf hk
    refine G_iload_3 (nx := 3) ⟨dX9_kindOf_2, rfl⟩ ?_
    refine G_bipush (nx := 5) ⟨dX9_kindOf_3, rfl⟩ cb_6 ?_
    refine G_icmpge (tgt := 29) (nx := 8) ⟨dX9_kindOf_5, rfl⟩ rfl (fun c_5 => ?_) (fun c_5 => ?_)
    · refine G_iconst (nx := 30) ⟨dX9_kindOf_29, rfl⟩ ci_m1 ?_
      refine G_iret ⟨dX9_kindOf_30, rfl⟩ rfl ?_
      exact hk
    · exact absurd ((nI_le_iff (a := 6) (b := k) (by omega) (by omega)).mpr (by omega)) c_5

  | succ f ih =>
    intro k hf hk
    have hk6 : k < 6 := by omega
    have hw : wi k < 6 := by unfold wi; split <;> omega
    unfold kgI at hk
    refine G_iload_3 (nx := 3) ⟨dX9_kindOf_2, rfl⟩ ?_
    refine G_bipush (nx := 5) ⟨dX9_kindOf_3, rfl⟩ cb_6 ?_
    refine G_icmpge (tgt := 29) (nx := 8) ⟨dX9_kindOf_5, rfl⟩ rfl (fun c_5 => ?_) (fun c_5 => ?_)
    · exact absurd ((nI_le_iff (a := 6) (b := k) (by omega) (by omega)).mp c_5) (by omega)
    · refine G_aload_0 (nx := 9) ⟨dX9_kindOf_8, rfl⟩ ?_
      refine G_iload_3 (nx := 10) ⟨dX9_kindOf_9, rfl⟩ ?_
      refine G_cs1 (nx := 13) ⟨dX9_kindOf_10, rfl⟩ kX9_64 rfl rfl (Nat.le_of_ble_eq_true rfl) (Nat.le_of_ble_eq_true rfl) (cA_wordOf hk6 ?_)
      refine G_iload_1 (nx := 14) ⟨dX9_kindOf_13, rfl⟩ ?_
      refine G_iload_2 (nx := 15) ⟨dX9_kindOf_14, rfl⟩ ?_
      refine G_cv3 (nx := 18) ⟨dX9_kindOf_15, rfl⟩ kX9_68 rfl q_42 rfl (Nat.le_of_ble_eq_true rfl) (Nat.le_of_ble_eq_true rfl) (cA_says hw hpq hq ?_)
      refine G_ifeq (tgt := 23) (nx := 21) ⟨dX9_kindOf_18, rfl⟩ rfl (fun c_18 => ?_) (fun c_18 => ?_)
      · refine G_iinc_3 (nx := 26) ⟨dX9_kindOf_23, rfl⟩ ci_1 rfl ?_
        refine G_goto (tgt := 2) ⟨dX9_kindOf_26, rfl⟩ rfl ?_
        rw [bi_0] at c_18
        rw [nI_1]
        rw [c_18, if_neg (by decide)] at hk
        exact ih (k + 1) (by omega) hk
      · refine G_iload_3 (nx := 22) ⟨dX9_kindOf_21, rfl⟩ ?_
        refine G_iret ⟨dX9_kindOf_22, rfl⟩ rfl ?_
        rw [bi_n0] at c_18
        rw [c_18, if_pos rfl] at hk
        exact hk

theorem cA_kindOf {p q : Nat} (hpq : p ≤ q) (hq : q ≤ 200) (hk : K (.int (kdI (I 43) p q)) I J (rX g)) : G l (d + 5) mX9_kindOf K 0 [.ref 42, .int (nI p), .int (nI q), UU] [] I J (rX g) := by
  rw [← kg_kd] at hk
  refine G_iconst (nx := 1) ⟨dX9_kindOf_0, rfl⟩ ci_0 ?_
  refine G_istore_3 (nx := 2) ⟨dX9_kindOf_1, rfl⟩ rfl rfl ?_
  exact lA_kindOf hpq hq 6 0 rfl hk

def eT (tp : Nat → Int32) (t p : Nat) : Nat := if inR (tp p) 97 122 = true then rn tp t 97 122 (t - p) p else if inR (tp p) 48 57 = true then rn tp t 48 57 (t - p) p else p + 1
theorem rn_next {tp : Nat → Int32} {t : Nat} {a b : Int32} {p : Nat} (hp : p < t) (h : inR (tp p) a b = true) : rn tp t a b (t - p) p = rn tp t a b (t - (p + 1)) (p + 1) := by
  obtain ⟨k, hk⟩ : ∃ k, t - p = k + 1 := ⟨t - p - 1, by omega⟩
  rw [hk, show t - (p + 1) = k by omega, rn, decide_eq_true hp, h]
  rfl
theorem rn_stop {tp : Nat → Int32} {t : Nat} {a b : Int32} {p : Nat} (h : ¬ (p < t ∧ inR (tp p) a b = true)) (f : Nat) : rn tp t a b f p = p := by
  cases f with
  | zero => rfl
  | succ f =>
    rw [rn, if_neg (fun q => h ?_)]
    rw [Bool.and_eq_true] at q
    exact ⟨of_decide_eq_true q.1, q.2⟩
theorem lA_let {t : Nat} {x1 : Int32} (ht : I 42 3 = nI t) (ht2 : t ≤ 200) : ∀ (k p : Nat), t - p = k → p ≤ t → (K (.int (nI (rn (I 43) t 97 122 k p))) I J (rX g)) → G l (d + 1) mX9_endOfToken K 16 [.ref 42, .int x1, .int (nI p)] [] I J (rX g) := by
  intro k
  induction k using Nat.strongRecOn with
  | _ k ih =>
  intro p hpk hp hk
  refine G_iload_2 (nx := 17) ⟨dX9_endOfToken_16, rfl⟩ ?_
  refine G_aload_0 (nx := 18) ⟨dX9_endOfToken_17, rfl⟩ ?_
  refine G_geti (nx := 21) (k := 42) ⟨dX9_endOfToken_18, rfl⟩ fX9_22 q_42 yi_9_3 ?_
  rw [ht]
  refine G_icmpge (tgt := 80) (nx := 24) ⟨dX9_endOfToken_21, rfl⟩ rfl (fun c_21 => ?_) (fun c_21 => ?_)
  · refine G_iload_2 (nx := 81) ⟨dX9_endOfToken_80, rfl⟩ ?_
    refine G_iret ⟨dX9_endOfToken_81, rfl⟩ rfl ?_
    rw [nI_le_iff (by omega) (by omega)] at c_21
    rw [rn_stop (fun h => by omega)] at hk
    exact hk
  · rw [nI_le_iff (by omega) (by omega)] at c_21
    refine G_aload_0 (nx := 25) ⟨dX9_endOfToken_24, rfl⟩ ?_
    refine G_getr (nx := 28) (k := 42) (r := 43) ⟨dX9_endOfToken_25, rfl⟩ fX9_9 q_42 yr_9_0 (r_42_0 _) ?_
    refine G_iload_2 (nx := 29) ⟨dX9_endOfToken_28, rfl⟩ ?_
    refine G_iald (nx := 30) (k := 43) ⟨dX9_endOfToken_29, rfl⟩ q_43 (by exact in200 (by omega)) ?_
    rw [cl_nI (by omega)]
    refine G_cs1 (nx := 33) ⟨dX9_endOfToken_30, rfl⟩ kX9_36 rfl rfl (Nat.le_of_ble_eq_true rfl) (Nat.le_of_ble_eq_true rfl) (cA_isLetter ?_)
    refine G_ifeq (tgt := 80) (nx := 36) ⟨dX9_endOfToken_33, rfl⟩ rfl (fun c_33 => ?_) (fun c_33 => ?_)
    · refine G_iload_2 (nx := 81) ⟨dX9_endOfToken_80, rfl⟩ ?_
      refine G_iret ⟨dX9_endOfToken_81, rfl⟩ rfl ?_
      rw [bi_0] at c_33
      rw [rn_stop (fun h => by rw [c_33] at h; exact absurd h.2 (by decide))] at hk
      exact hk
    · refine G_iinc_2 (nx := 39) ⟨dX9_endOfToken_36, rfl⟩ ci_1 rfl ?_
      refine G_goto (tgt := 16) ⟨dX9_endOfToken_39, rfl⟩ rfl ?_
      rw [bi_n0] at c_33
      rw [nI_1]
      refine ih (t - (p + 1)) (by omega) (p + 1) rfl (by omega) ?_
      rw [← rn_next (by omega) c_33, hpk]
      exact hk

theorem lA_dig {t : Nat} {x1 : Int32} (ht : I 42 3 = nI t) (ht2 : t ≤ 200) : ∀ (k p : Nat), t - p = k → p ≤ t → (K (.int (nI (rn (I 43) t 48 57 k p))) I J (rX g)) → G l (d + 1) mX9_endOfToken K 54 [.ref 42, .int x1, .int (nI p)] [] I J (rX g) := by
  intro k
  induction k using Nat.strongRecOn with
  | _ k ih =>
  intro p hpk hp hk
  refine G_iload_2 (nx := 55) ⟨dX9_endOfToken_54, rfl⟩ ?_
  refine G_aload_0 (nx := 56) ⟨dX9_endOfToken_55, rfl⟩ ?_
  refine G_geti (nx := 59) (k := 42) ⟨dX9_endOfToken_56, rfl⟩ fX9_22 q_42 yi_9_3 ?_
  rw [ht]
  refine G_icmpge (tgt := 80) (nx := 62) ⟨dX9_endOfToken_59, rfl⟩ rfl (fun c_59 => ?_) (fun c_59 => ?_)
  · refine G_iload_2 (nx := 81) ⟨dX9_endOfToken_80, rfl⟩ ?_
    refine G_iret ⟨dX9_endOfToken_81, rfl⟩ rfl ?_
    rw [nI_le_iff (by omega) (by omega)] at c_59
    rw [rn_stop (fun h => by omega)] at hk
    exact hk
  · rw [nI_le_iff (by omega) (by omega)] at c_59
    refine G_aload_0 (nx := 63) ⟨dX9_endOfToken_62, rfl⟩ ?_
    refine G_getr (nx := 66) (k := 42) (r := 43) ⟨dX9_endOfToken_63, rfl⟩ fX9_9 q_42 yr_9_0 (r_42_0 _) ?_
    refine G_iload_2 (nx := 67) ⟨dX9_endOfToken_66, rfl⟩ ?_
    refine G_iald (nx := 68) (k := 43) ⟨dX9_endOfToken_67, rfl⟩ q_43 (by exact in200 (by omega)) ?_
    rw [cl_nI (by omega)]
    refine G_cs1 (nx := 71) ⟨dX9_endOfToken_68, rfl⟩ kX9_40 rfl rfl (Nat.le_of_ble_eq_true rfl) (Nat.le_of_ble_eq_true rfl) (cA_isDigit ?_)
    refine G_ifeq (tgt := 80) (nx := 74) ⟨dX9_endOfToken_71, rfl⟩ rfl (fun c_71 => ?_) (fun c_71 => ?_)
    · refine G_iload_2 (nx := 81) ⟨dX9_endOfToken_80, rfl⟩ ?_
      refine G_iret ⟨dX9_endOfToken_81, rfl⟩ rfl ?_
      rw [bi_0] at c_71
      rw [rn_stop (fun h => by rw [c_71] at h; exact absurd h.2 (by decide))] at hk
      exact hk
    · refine G_iinc_2 (nx := 77) ⟨dX9_endOfToken_74, rfl⟩ ci_1 rfl ?_
      refine G_goto (tgt := 54) ⟨dX9_endOfToken_77, rfl⟩ rfl ?_
      rw [bi_n0] at c_71
      rw [nI_1]
      refine ih (t - (p + 1)) (by omega) (p + 1) rfl (by omega) ?_
      rw [← rn_next (by omega) c_71, hpk]
      exact hk

theorem cA_end {t p : Nat} (ht : I 42 3 = nI t) (ht2 : t ≤ 200) (hp : p < t) (hk : K (.int (nI (eT (I 43) t p))) I J (rX g)) : G l (d + 1) mX9_endOfToken K 0 [.ref 42, .int (nI p), UU] [] I J (rX g) := by
  unfold eT at hk
  refine G_iload_1 (nx := 1) ⟨dX9_endOfToken_0, rfl⟩ ?_
  refine G_iconst (nx := 2) ⟨dX9_endOfToken_1, rfl⟩ ci_1 ?_
  refine G_iadd (nx := 3) ⟨dX9_endOfToken_2, rfl⟩ ?_
  rw [nI_1]
  refine G_istore_2 (nx := 4) ⟨dX9_endOfToken_3, rfl⟩ rfl rfl ?_
  refine G_aload_0 (nx := 5) ⟨dX9_endOfToken_4, rfl⟩ ?_
  refine G_getr (nx := 8) (k := 42) (r := 43) ⟨dX9_endOfToken_5, rfl⟩ fX9_9 q_42 yr_9_0 (r_42_0 _) ?_
  refine G_iload_1 (nx := 9) ⟨dX9_endOfToken_8, rfl⟩ ?_
  refine G_iald (nx := 10) (k := 43) ⟨dX9_endOfToken_9, rfl⟩ q_43 (by exact in200 (by omega)) ?_
  rw [cl_nI (by omega)]
  refine G_cs1 (nx := 13) ⟨dX9_endOfToken_10, rfl⟩ kX9_36 rfl rfl (Nat.le_of_ble_eq_true rfl) (Nat.le_of_ble_eq_true rfl) (cA_isLetter ?_)
  refine G_ifeq (tgt := 42) (nx := 16) ⟨dX9_endOfToken_13, rfl⟩ rfl (fun c_13 => ?_) (fun c_13 => ?_)
  · refine G_aload_0 (nx := 43) ⟨dX9_endOfToken_42, rfl⟩ ?_
    refine G_getr (nx := 46) (k := 42) (r := 43) ⟨dX9_endOfToken_43, rfl⟩ fX9_9 q_42 yr_9_0 (r_42_0 _) ?_
    refine G_iload_1 (nx := 47) ⟨dX9_endOfToken_46, rfl⟩ ?_
    refine G_iald (nx := 48) (k := 43) ⟨dX9_endOfToken_47, rfl⟩ q_43 (by exact in200 (by omega)) ?_
    rw [cl_nI (by omega)]
    refine G_cs1 (nx := 51) ⟨dX9_endOfToken_48, rfl⟩ kX9_40 rfl rfl (Nat.le_of_ble_eq_true rfl) (Nat.le_of_ble_eq_true rfl) (cA_isDigit ?_)
    refine G_ifeq (tgt := 80) (nx := 54) ⟨dX9_endOfToken_51, rfl⟩ rfl (fun c_51 => ?_) (fun c_51 => ?_)
    · refine G_iload_2 (nx := 81) ⟨dX9_endOfToken_80, rfl⟩ ?_
      refine G_iret ⟨dX9_endOfToken_81, rfl⟩ rfl ?_
      rw [bi_0] at c_13 c_51
      rw [if_neg (by rw [c_13]; decide), if_neg (by rw [c_51]; decide)] at hk
      exact hk
    · rw [bi_0] at c_13
      rw [bi_n0] at c_51
      rw [if_neg (by rw [c_13]; decide), if_pos c_51, rn_next hp c_51] at hk
      exact lA_dig ht ht2 _ (p + 1) rfl (by omega) hk
  · rw [bi_n0] at c_13
    rw [if_pos c_13, rn_next hp c_13] at hk
    exact lA_let ht ht2 _ (p + 1) rfl (by omega) hk

end X9I
