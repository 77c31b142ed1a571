def fR (a b : Nat) : Bool := fG a b || a == 82
def fK (a b : Nat) : Bool := fR a b || (a == 75 && (b == 9 || b == 10 || b == 11 || b == 12))
theorem cl_0 : (0 : Int32).toNatClampNeg = 0 := by decide
theorem cl_1 : (1 : Int32).toNatClampNeg = 1 := by decide
theorem cl_2 : (2 : Int32).toNatClampNeg = 2 := by decide
theorem or_f {a b : Bool} (h : (a || b) = false) : a = false := by cases a <;> simp_all
theorem nI_inj32 {a b : Nat} (ha : a < 2 ^ 32) (hb : b < 2 ^ 32) (h : nI a = nI b) : a = b := by
  have := congrArg (fun x : Int32 => x.toBitVec.toNat) h
  simp only [nI_bv, BitVec.toNat_ofNat] at this
  rwa [Nat.mod_eq_of_lt ha, Nat.mod_eq_of_lt hb] at this
def LBR (P : Nat → Bool) (j n : Nat) (b : Option Nat) : Prop := (b = none → ∀ q, j ≤ q → q < n → P q = false) ∧ ∀ x, b = some x → j ≤ x ∧ x < n ∧ P x = true ∧ ∀ q, j ≤ q → q < x → P q = false
theorem LBR_n (P : Nat → Bool) (n : Nat) : LBR P n n none := ⟨fun _ q h1 h2 => (by omega), fun x h => (by cases h)⟩
theorem LBR_s {P : Nat → Bool} {j n : Nat} {b : Option Nat} (h : LBR P (j + 1) n b) (hj : j < n) : LBR P j n (if P j = true then some j else b) := by
  by_cases e : P j = true
  · rw [if_pos e]
    exact ⟨fun h => (by cases h), fun x hx => (by cases hx; exact ⟨Nat.le_refl _, hj, e, fun q h1 h2 => (by omega)⟩)⟩
  · rw [if_neg e]
    simp only [Bool.not_eq_true] at e
    refine ⟨fun hb q h1 h2 => ?_, fun x hx => ?_⟩
    · by_cases z : q = j
      · rw [z]; exact e
      · exact h.1 hb q (by omega) h2
    · obtain ⟨a1, a2, a3, a4⟩ := h.2 x hx
      refine ⟨by omega, a2, a3, fun q h1 h2 => ?_⟩
      by_cases z : q = j
      · rw [z]; exact e
      · exact a4 q (by omega) h2
theorem LBR_0 {P : Nat → Bool} {n : Nat} {b : Option Nat} (h : LBR P 0 n b) : lb P n = b := by
  cases b with
  | none => exact lb_none (fun q hq => h.1 rfl q (Nat.zero_le _) hq)
  | some x => obtain ⟨-, a2, a3, a4⟩ := h.2 x rfl; exact lb_some a2 a3 (fun q hq => a4 q (Nat.zero_le _) hq)
noncomputable def kR (n : Nat) (gr : Nat → Nat) (k0 : Int) : Nat := (lb (fun i => !kgo n gr k0 i) 14).getD 0
theorem kR_eq {n : Nat} {gr : Nat → Nat} {k0 : Int} {r : Nat} (hn : n ≤ 12) (hg : ∀ p, p < n → gr p < 2 ^ n) (h1 : ∀ j, j < r → kgo n gr k0 j = true) (h2 : kgo n gr k0 r = false) : kR n gr k0 = r := by
  have hr := kit_pc hn hg r h1
  unfold kR
  rw [lb_some (x := r) (by omega) (by rw [h2]; rfl) (fun q hq => by rw [h1 q hq]; rfl)]
  rfl
theorem kR_s {n : Nat} {gr : Nat → Nat} {k0 : Int} (hn : n ≤ 12) (hg : ∀ p, p < n → gr p < 2 ^ n) : (∀ j, j < kR n gr k0 → kgo n gr k0 j = true) ∧ kgo n gr k0 (kR n gr k0) = false ∧ kR n gr k0 ≤ 12 := by
  cases e : lb (fun i => !kgo n gr k0 i) 14 with
  | none =>
    exfalso
    have h := (lb_spec _ 14).1 e
    have := kit_pc hn hg 13 (fun j hj => by have := h j (by omega); simpa using this)
    omega
  | some x =>
    obtain ⟨a, b, c⟩ := (lb_spec _ 14).2 x e
    have hx : kR n gr k0 = x := by unfold kR; rw [e]; rfl
    rw [hx]
    have hj : ∀ j, j < x → kgo n gr k0 j = true := fun j hj => by have := c j hj; simpa using this
    have := kit_pc hn hg x hj
    exact ⟨hj, by simpa using b, by omega⟩
section M28
variable {l : Launch} {d : Nat} {K : AK} {I : AI} {J : AJ} {g : Bool} {n : Nat} {gr : Nat → Nat}

theorem cM_rule {a b c : Int32} (hk : K (.int 1) (w2 (w2 (w2 I 82 0 a) 82 1 b) 82 2 c) J (rX g)) : G l d mX12_rule K 0 [.ref 75, .int a, .int b, .int c] [] I J (rX g) := by
  refine G_aload_0 (nx := 1) ⟨dX12_rule_0, rfl⟩ ?_
  refine G_getr (nx := 4) (k := 75) (r := 82) ⟨dX12_rule_1, rfl⟩ fX12_32 q_75 yr_12_13 (r_75_13 _) ?_
  refine G_iconst (nx := 5) ⟨dX12_rule_4, rfl⟩ ci_0 ?_
  refine G_iload_1 (nx := 6) ⟨dX12_rule_5, rfl⟩ ?_
  refine G_iast (nx := 7) (k := 82) ⟨dX12_rule_6, rfl⟩ q_82 (by first | assumption | decide | (unfold vp_in; decide)) ?_
  refine G_aload_0 (nx := 8) ⟨dX12_rule_7, rfl⟩ ?_
  refine G_getr (nx := 11) (k := 75) (r := 82) ⟨dX12_rule_8, rfl⟩ fX12_32 q_75 yr_12_13 (r_75_13 _) ?_
  refine G_iconst (nx := 12) ⟨dX12_rule_11, rfl⟩ ci_1 ?_
  refine G_iload_2 (nx := 13) ⟨dX12_rule_12, rfl⟩ ?_
  refine G_iast (nx := 14) (k := 82) ⟨dX12_rule_13, rfl⟩ q_82 (by first | assumption | decide | (unfold vp_in; decide)) ?_
  refine G_aload_0 (nx := 15) ⟨dX12_rule_14, rfl⟩ ?_
  refine G_getr (nx := 18) (k := 75) (r := 82) ⟨dX12_rule_15, rfl⟩ fX12_32 q_75 yr_12_13 (r_75_13 _) ?_
  refine G_iconst (nx := 19) ⟨dX12_rule_18, rfl⟩ ci_2 ?_
  refine G_iload_3 (nx := 20) ⟨dX12_rule_19, rfl⟩ ?_
  refine G_iast (nx := 21) (k := 82) ⟨dX12_rule_20, rfl⟩ q_82 (by first | assumption | decide | (unfold vp_in; decide)) ?_
  refine G_iconst (nx := 22) ⟨dX12_rule_21, rfl⟩ ci_1 ?_
  refine G_zret ⟨dX12_rule_22, rfl⟩ rfl (by first | assumption | decide | exact bi_01 _) ?_
  exact hk

theorem lM_rules {P : Nat} {k : Int} (hG : MG I n gr) (hP : P < 2 ^ n) (hL : I 75 9 = nI P) (hK : I 75 11 = iI k) (hk1 : -1000 ≤ k) (hk2 : k ≤ 1000)
  (hgo : ∀ x5 : Value, G l (d + 2) mX12_rules K 93 [.ref 75, .int (mv (lb (fun p => P.testBit p && decide (dg gr P p = 0)) n)), .int (mv (lb (fun p => P.testBit p && decide (k < (dg gr P p : Int))) n)), .int (mv (lb (fun p => P.testBit p && decide (dg gr P p = 1)) n)), .int (iI (-1)), x5, UU] [] I J (rX g)) :
  ∀ (j : Nat) (b0 b1 b2 : Option Nat) (x5 : Value), notL x5 = true → j ≤ n → LBR (fun p => P.testBit p && decide (dg gr P p = 0)) j n b0 → LBR (fun p => P.testBit p && decide (k < (dg gr P p : Int))) j n b1 → LBR (fun p => P.testBit p && decide (dg gr P p = 1)) j n b2 → G l (d + 2) mX12_rules K 14 [.ref 75, .int (mv b0), .int (mv b1), .int (mv b2), .int (iI ((j : Int) - 1)), x5, UU] [] I J (rX g) := by
  intro j
  have hn := hG.2.1
  have hP4 : P < 4096 := Nat.lt_of_lt_of_le hP (pow12 hn)
  induction j with
  | zero =>
    intro b0 b1 b2 x5 hx5 hj h0 h1 h2
    refine G_iload_4 (nx := 16) ⟨dX12_rules_14, rfl⟩ ?_
    refine G_iflt (tgt := 93) (nx := 19) ⟨dX12_rules_16, rfl⟩ rfl (fun c_16 => ?_) (fun c_16 => ?_)
    · rw [← LBR_0 h0, ← LBR_0 h1, ← LBR_0 h2]
      exact hgo x5
    · exact absurd (by decide) c_16

  | succ j ih =>
    intro b0 b1 b2 x5 hx5 hj h0 h1 h2
    have hjn : j < n := by omega
    have ej : iI (((j + 1 : Nat) : Int) - 1) = nI j := by rw [← iI_nat]; congr 1; omega
    have hdl := pc_le (gr j &&& P)
    have hm : iI ((j : Int) - 1) = nI j + (-1) := by rw [show (-1 : Int32) = iI (-1) by decide, ← iI_nat, iI_add]; congr 1
    rw [ej]
    have s0 := LBR_s h0 hjn
    have s1 := LBR_s h1 hjn
    have s2 := LBR_s h2 hjn
    refine G_iload_4 (nx := 16) ⟨dX12_rules_14, rfl⟩ ?_
    refine G_iflt (tgt := 93) (nx := 19) ⟨dX12_rules_16, rfl⟩ rfl (fun c_16 => ?_) (fun c_16 => ?_)
    · exact absurd c_16 (nI_pos (by omega))
    · refine G_aload_0 (nx := 20) ⟨dX12_rules_19, rfl⟩ ?_
      refine G_geti (nx := 23) (k := 75) ⟨dX12_rules_20, rfl⟩ fX12_225 q_75 yi_12_9 ?_
      rw [hL]
      refine G_iload_4 (nx := 25) ⟨dX12_rules_23, rfl⟩ ?_
      refine G_cs2 (nx := 28) ⟨dX12_rules_25, rfl⟩ kX12_118 rfl rfl (Nat.le_of_ble_eq_true rfl) (Nat.le_of_ble_eq_true rfl) (cM_has (lt31 hP4) (by omega) ?_)
      refine G_ifne (tgt := 34) (nx := 31) ⟨dX12_rules_28, rfl⟩ rfl (fun c_28 => ?_) (fun c_28 => ?_)
      · rw [bi_n0] at c_28
        refine G_aload_0 (nx := 35) ⟨dX12_rules_34, rfl⟩ ?_
        refine G_iload_4 (nx := 37) ⟨dX12_rules_35, rfl⟩ ?_
        refine G_aload_0 (nx := 38) ⟨dX12_rules_37, rfl⟩ ?_
        refine G_geti (nx := 41) (k := 75) ⟨dX12_rules_38, rfl⟩ fX12_225 q_75 yi_12_9 ?_
        rw [hL]
        refine G_cv2 (nx := 44) ⟨dX12_rules_41, rfl⟩ kX12_228 rfl q_75 rfl (Nat.le_of_ble_eq_true rfl) (Nat.le_of_ble_eq_true rfl) (cM_degree hG hjn hP4 ?_)
        refine G_istore_5 (nx := 46) ⟨dX12_rules_44, rfl⟩ rfl rfl ?_
        refine G_iload_5 (nx := 48) ⟨dX12_rules_46, rfl⟩ ?_
        refine G_ifne (tgt := 56) (nx := 51) ⟨dX12_rules_48, rfl⟩ rfl (fun c_48 => ?_) (fun c_48 => ?_)
        · refine G_iload_1 (nx := 57) ⟨dX12_rules_56, rfl⟩ ?_
          refine G_istore_1 (nx := 58) ⟨dX12_rules_57, rfl⟩ rfl rfl ?_
          refine G_iload_5 (nx := 60) ⟨dX12_rules_58, rfl⟩ ?_
          refine G_aload_0 (nx := 61) ⟨dX12_rules_60, rfl⟩ ?_
          refine G_geti (nx := 64) (k := 75) ⟨dX12_rules_61, rfl⟩ fX12_231 q_75 yi_12_11 ?_
          rw [hK]
          refine G_icmple (tgt := 72) (nx := 67) ⟨dX12_rules_64, rfl⟩ rfl (fun c_64 => ?_) (fun c_64 => ?_)
          · refine G_iload_2 (nx := 73) ⟨dX12_rules_72, rfl⟩ ?_
            refine G_istore_2 (nx := 74) ⟨dX12_rules_73, rfl⟩ rfl rfl ?_
            refine G_iload_5 (nx := 76) ⟨dX12_rules_74, rfl⟩ ?_
            refine G_iconst (nx := 77) ⟨dX12_rules_76, rfl⟩ ci_1 ?_
            refine G_icmpne (tgt := 85) (nx := 80) ⟨dX12_rules_77, rfl⟩ rfl (fun c_77 => ?_) (fun c_77 => ?_)
            · refine G_iload_3 (nx := 86) ⟨dX12_rules_85, rfl⟩ ?_
              refine G_istore_3 (nx := 87) ⟨dX12_rules_86, rfl⟩ rfl rfl ?_
              refine G_iinc_4 (nx := 90) ⟨dX12_rules_87, rfl⟩ ci_m1 rfl ?_
              refine G_goto (tgt := 14) ⟨dX12_rules_90, rfl⟩ rfl ?_
              rw [nI_0iff (by omega)] at c_48
              rw [i32_le, nI_toInt (by omega), iI_toInt (by omega) (by omega)] at c_64
              rw [show (1 : Int32) = nI 1 by decide, nI_eq (by omega) (by omega)] at c_77
              simp only [c_28, Bool.true_and, decide_eq_true_eq] at s0 s1 s2
              have hdg : dg gr P j = pc (gr j &&& P) := rfl
              first | rw [if_pos (show dg gr P j = 0 from c_48)] at s0 | rw [if_neg (show ¬ dg gr P j = 0 from c_48)] at s0
              first | rw [if_pos (show k < (dg gr P j : Int) by rw [hdg]; omega)] at s1 | rw [if_neg (show ¬ k < (dg gr P j : Int) by rw [hdg]; omega)] at s1
              first | rw [if_pos (show dg gr P j = 1 from c_77)] at s2 | rw [if_neg (show ¬ dg gr P j = 1 from c_77)] at s2
              refine G_L ?_ (ih _ _ _ (.int (nI (pc (gr j &&& P)))) rfl (by omega) s0 s1 s2)
              rw [hm]
              try rfl
            · refine G_iload_4 (nx := 82) ⟨dX12_rules_80, rfl⟩ ?_
              refine G_goto (tgt := 86) ⟨dX12_rules_82, rfl⟩ rfl ?_
              refine G_istore_3 (nx := 87) ⟨dX12_rules_86, rfl⟩ rfl rfl ?_
              refine G_iinc_4 (nx := 90) ⟨dX12_rules_87, rfl⟩ ci_m1 rfl ?_
              refine G_goto (tgt := 14) ⟨dX12_rules_90, rfl⟩ rfl ?_
              rw [nI_0iff (by omega)] at c_48
              rw [i32_le, nI_toInt (by omega), iI_toInt (by omega) (by omega)] at c_64
              rw [show (1 : Int32) = nI 1 by decide, nI_eq (by omega) (by omega)] at c_77
              simp only [c_28, Bool.true_and, decide_eq_true_eq] at s0 s1 s2
              have hdg : dg gr P j = pc (gr j &&& P) := rfl
              first | rw [if_pos (show dg gr P j = 0 from c_48)] at s0 | rw [if_neg (show ¬ dg gr P j = 0 from c_48)] at s0
              first | rw [if_pos (show k < (dg gr P j : Int) by rw [hdg]; omega)] at s1 | rw [if_neg (show ¬ k < (dg gr P j : Int) by rw [hdg]; omega)] at s1
              first | rw [if_pos (show dg gr P j = 1 from c_77)] at s2 | rw [if_neg (show ¬ dg gr P j = 1 from c_77)] at s2
              refine G_L ?_ (ih _ _ _ (.int (nI (pc (gr j &&& P)))) rfl (by omega) s0 s1 s2)
              rw [hm]
              try rfl
          · refine G_iload_4 (nx := 69) ⟨dX12_rules_67, rfl⟩ ?_
            refine G_goto (tgt := 73) ⟨dX12_rules_69, rfl⟩ rfl ?_
            refine G_istore_2 (nx := 74) ⟨dX12_rules_73, rfl⟩ rfl rfl ?_
            refine G_iload_5 (nx := 76) ⟨dX12_rules_74, rfl⟩ ?_
            refine G_iconst (nx := 77) ⟨dX12_rules_76, rfl⟩ ci_1 ?_
            refine G_icmpne (tgt := 85) (nx := 80) ⟨dX12_rules_77, rfl⟩ rfl (fun c_77 => ?_) (fun c_77 => ?_)
            · refine G_iload_3 (nx := 86) ⟨dX12_rules_85, rfl⟩ ?_
              refine G_istore_3 (nx := 87) ⟨dX12_rules_86, rfl⟩ rfl rfl ?_
              refine G_iinc_4 (nx := 90) ⟨dX12_rules_87, rfl⟩ ci_m1 rfl ?_
              refine G_goto (tgt := 14) ⟨dX12_rules_90, rfl⟩ rfl ?_
              rw [nI_0iff (by omega)] at c_48
              rw [i32_le, nI_toInt (by omega), iI_toInt (by omega) (by omega)] at c_64
              rw [show (1 : Int32) = nI 1 by decide, nI_eq (by omega) (by omega)] at c_77
              simp only [c_28, Bool.true_and, decide_eq_true_eq] at s0 s1 s2
              have hdg : dg gr P j = pc (gr j &&& P) := rfl
              first | rw [if_pos (show dg gr P j = 0 from c_48)] at s0 | rw [if_neg (show ¬ dg gr P j = 0 from c_48)] at s0
              first | rw [if_pos (show k < (dg gr P j : Int) by rw [hdg]; omega)] at s1 | rw [if_neg (show ¬ k < (dg gr P j : Int) by rw [hdg]; omega)] at s1
              first | rw [if_pos (show dg gr P j = 1 from c_77)] at s2 | rw [if_neg (show ¬ dg gr P j = 1 from c_77)] at s2
              refine G_L ?_ (ih _ _ _ (.int (nI (pc (gr j &&& P)))) rfl (by omega) s0 s1 s2)
              rw [hm]
              try rfl
            · refine G_iload_4 (nx := 82) ⟨dX12_rules_80, rfl⟩ ?_
              refine G_goto (tgt := 86) ⟨dX12_rules_82, rfl⟩ rfl ?_
              refine G_istore_3 (nx := 87) ⟨dX12_rules_86, rfl⟩ rfl rfl ?_
              refine G_iinc_4 (nx := 90) ⟨dX12_rules_87, rfl⟩ ci_m1 rfl ?_
              refine G_goto (tgt := 14) ⟨dX12_rules_90, rfl⟩ rfl ?_
              rw [nI_0iff (by omega)] at c_48
              rw [i32_le, nI_toInt (by omega), iI_toInt (by omega) (by omega)] at c_64
              rw [show (1 : Int32) = nI 1 by decide, nI_eq (by omega) (by omega)] at c_77
              simp only [c_28, Bool.true_and, decide_eq_true_eq] at s0 s1 s2
              have hdg : dg gr P j = pc (gr j &&& P) := rfl
              first | rw [if_pos (show dg gr P j = 0 from c_48)] at s0 | rw [if_neg (show ¬ dg gr P j = 0 from c_48)] at s0
              first | rw [if_pos (show k < (dg gr P j : Int) by rw [hdg]; omega)] at s1 | rw [if_neg (show ¬ k < (dg gr P j : Int) by rw [hdg]; omega)] at s1
              first | rw [if_pos (show dg gr P j = 1 from c_77)] at s2 | rw [if_neg (show ¬ dg gr P j = 1 from c_77)] at s2
              refine G_L ?_ (ih _ _ _ (.int (nI (pc (gr j &&& P)))) rfl (by omega) s0 s1 s2)
              rw [hm]
              try rfl
        · refine G_iload_4 (nx := 53) ⟨dX12_rules_51, rfl⟩ ?_
          refine G_goto (tgt := 57) ⟨dX12_rules_53, rfl⟩ rfl ?_
          refine G_istore_1 (nx := 58) ⟨dX12_rules_57, rfl⟩ rfl rfl ?_
          refine G_iload_5 (nx := 60) ⟨dX12_rules_58, rfl⟩ ?_
          refine G_aload_0 (nx := 61) ⟨dX12_rules_60, rfl⟩ ?_
          refine G_geti (nx := 64) (k := 75) ⟨dX12_rules_61, rfl⟩ fX12_231 q_75 yi_12_11 ?_
          rw [hK]
          refine G_icmple (tgt := 72) (nx := 67) ⟨dX12_rules_64, rfl⟩ rfl (fun c_64 => ?_) (fun c_64 => ?_)
          · refine G_iload_2 (nx := 73) ⟨dX12_rules_72, rfl⟩ ?_
            refine G_istore_2 (nx := 74) ⟨dX12_rules_73, rfl⟩ rfl rfl ?_
            refine G_iload_5 (nx := 76) ⟨dX12_rules_74, rfl⟩ ?_
            refine G_iconst (nx := 77) ⟨dX12_rules_76, rfl⟩ ci_1 ?_
            refine G_icmpne (tgt := 85) (nx := 80) ⟨dX12_rules_77, rfl⟩ rfl (fun c_77 => ?_) (fun c_77 => ?_)
            · refine G_iload_3 (nx := 86) ⟨dX12_rules_85, rfl⟩ ?_
              refine G_istore_3 (nx := 87) ⟨dX12_rules_86, rfl⟩ rfl rfl ?_
              refine G_iinc_4 (nx := 90) ⟨dX12_rules_87, rfl⟩ ci_m1 rfl ?_
              refine G_goto (tgt := 14) ⟨dX12_rules_90, rfl⟩ rfl ?_
              rw [nI_0iff (by omega)] at c_48
              rw [i32_le, nI_toInt (by omega), iI_toInt (by omega) (by omega)] at c_64
              rw [show (1 : Int32) = nI 1 by decide, nI_eq (by omega) (by omega)] at c_77
              simp only [c_28, Bool.true_and, decide_eq_true_eq] at s0 s1 s2
              have hdg : dg gr P j = pc (gr j &&& P) := rfl
              first | rw [if_pos (show dg gr P j = 0 from c_48)] at s0 | rw [if_neg (show ¬ dg gr P j = 0 from c_48)] at s0
              first | rw [if_pos (show k < (dg gr P j : Int) by rw [hdg]; omega)] at s1 | rw [if_neg (show ¬ k < (dg gr P j : Int) by rw [hdg]; omega)] at s1
              first | rw [if_pos (show dg gr P j = 1 from c_77)] at s2 | rw [if_neg (show ¬ dg gr P j = 1 from c_77)] at s2
              refine G_L ?_ (ih _ _ _ (.int (nI (pc (gr j &&& P)))) rfl (by omega) s0 s1 s2)
              rw [hm]
              try rfl
            · refine G_iload_4 (nx := 82) ⟨dX12_rules_80, rfl⟩ ?_
              refine G_goto (tgt := 86) ⟨dX12_rules_82, rfl⟩ rfl ?_
              refine G_istore_3 (nx := 87) ⟨dX12_rules_86, rfl⟩ rfl rfl ?_
              refine G_iinc_4 (nx := 90) ⟨dX12_rules_87, rfl⟩ ci_m1 rfl ?_
              refine G_goto (tgt := 14) ⟨dX12_rules_90, rfl⟩ rfl ?_
              rw [nI_0iff (by omega)] at c_48
              rw [show (1 : Int32) = nI 1 by decide, nI_eq (by omega) (by omega)] at c_77
              exfalso
              omega
          · refine G_iload_4 (nx := 69) ⟨dX12_rules_67, rfl⟩ ?_
            refine G_goto (tgt := 73) ⟨dX12_rules_69, rfl⟩ rfl ?_
            refine G_istore_2 (nx := 74) ⟨dX12_rules_73, rfl⟩ rfl rfl ?_
            refine G_iload_5 (nx := 76) ⟨dX12_rules_74, rfl⟩ ?_
            refine G_iconst (nx := 77) ⟨dX12_rules_76, rfl⟩ ci_1 ?_
            refine G_icmpne (tgt := 85) (nx := 80) ⟨dX12_rules_77, rfl⟩ rfl (fun c_77 => ?_) (fun c_77 => ?_)
            · refine G_iload_3 (nx := 86) ⟨dX12_rules_85, rfl⟩ ?_
              refine G_istore_3 (nx := 87) ⟨dX12_rules_86, rfl⟩ rfl rfl ?_
              refine G_iinc_4 (nx := 90) ⟨dX12_rules_87, rfl⟩ ci_m1 rfl ?_
              refine G_goto (tgt := 14) ⟨dX12_rules_90, rfl⟩ rfl ?_
              rw [nI_0iff (by omega)] at c_48
              rw [i32_le, nI_toInt (by omega), iI_toInt (by omega) (by omega)] at c_64
              rw [show (1 : Int32) = nI 1 by decide, nI_eq (by omega) (by omega)] at c_77
              simp only [c_28, Bool.true_and, decide_eq_true_eq] at s0 s1 s2
              have hdg : dg gr P j = pc (gr j &&& P) := rfl
              first | rw [if_pos (show dg gr P j = 0 from c_48)] at s0 | rw [if_neg (show ¬ dg gr P j = 0 from c_48)] at s0
              first | rw [if_pos (show k < (dg gr P j : Int) by rw [hdg]; omega)] at s1 | rw [if_neg (show ¬ k < (dg gr P j : Int) by rw [hdg]; omega)] at s1
              first | rw [if_pos (show dg gr P j = 1 from c_77)] at s2 | rw [if_neg (show ¬ dg gr P j = 1 from c_77)] at s2
              refine G_L ?_ (ih _ _ _ (.int (nI (pc (gr j &&& P)))) rfl (by omega) s0 s1 s2)
              rw [hm]
              try rfl
            · refine G_iload_4 (nx := 82) ⟨dX12_rules_80, rfl⟩ ?_
              refine G_goto (tgt := 86) ⟨dX12_rules_82, rfl⟩ rfl ?_
              refine G_istore_3 (nx := 87) ⟨dX12_rules_86, rfl⟩ rfl rfl ?_
              refine G_iinc_4 (nx := 90) ⟨dX12_rules_87, rfl⟩ ci_m1 rfl ?_
              refine G_goto (tgt := 14) ⟨dX12_rules_90, rfl⟩ rfl ?_
              rw [nI_0iff (by omega)] at c_48
              rw [show (1 : Int32) = nI 1 by decide, nI_eq (by omega) (by omega)] at c_77
              exfalso
              omega
      · refine G_goto (tgt := 87) ⟨dX12_rules_31, rfl⟩ rfl ?_
        refine G_iinc_4 (nx := 90) ⟨dX12_rules_87, rfl⟩ ci_m1 rfl ?_
        refine G_goto (tgt := 14) ⟨dX12_rules_90, rfl⟩ rfl ?_
        rw [bi_0] at c_28
        simp only [c_28, Bool.false_and, Bool.false_eq_true, if_false] at s0 s1 s2
        refine G_L (by rw [hm]) (ih b0 b1 b2 x5 hx5 (by omega) s0 s1 s2)

theorem cM_rules {P : Nat} {k : Int} (hW : WG n gr) (hG : MG I n gr) (hP : P < 2 ^ n) (hL : I 75 9 = nI P) (hK : I 75 11 = iI k) (hk1 : -1000 ≤ k) (hk2 : k ≤ 1000)
  (hs : ∀ (r : Nat × Nat × Nat) (I' : AI), ks n gr P k = some r → I' 82 0 = nI r.1 → I' 82 1 = nI r.2.1 → I' 82 2 = nI r.2.2 → sb fR I I' → K (.int 1) I' J (rX g)) (hf : ∀ (I' : AI), ks n gr P k = none → (∀ b, I' 82 b = I 82 b) → sb fR I I' → K (.int 0) I' J (rX g)) : G l (d + 29) mX12_rules K 0 [.ref 75, UU, UU, UU, UU, UU, UU] [] I J (rX g) := by
  have hn := hG.2.1
  have hP4 : P < 4096 := Nat.lt_of_lt_of_le hP (pow12 hn)
  have fin : ∀ (a b c : Nat) (I1 : AI), ks n gr P k = some (a, b, c) → sb fR I I1 → K (.int 1) (w2 (w2 (w2 I1 82 0 (nI a)) 82 1 (nI b)) 82 2 (nI c)) J (rX g) := fun a b c I1 hk hs1 =>
    hs (a, b, c) _ hk (by rw [w2_ne _ _ _ _ (by omega), w2_ne _ _ _ _ (by omega), w2_at]) (by rw [w2_ne _ _ _ _ (by omega), w2_at]) (w2_at _ _ _ _) (((hs1.w rfl).w rfl).w rfl)
  refine G_iconst (nx := 1) ⟨dX12_rules_0, rfl⟩ ci_m1 ?_
  refine G_istore_1 (nx := 2) ⟨dX12_rules_1, rfl⟩ rfl rfl ?_
  refine G_iconst (nx := 3) ⟨dX12_rules_2, rfl⟩ ci_m1 ?_
  refine G_istore_2 (nx := 4) ⟨dX12_rules_3, rfl⟩ rfl rfl ?_
  refine G_iconst (nx := 5) ⟨dX12_rules_4, rfl⟩ ci_m1 ?_
  refine G_istore_3 (nx := 6) ⟨dX12_rules_5, rfl⟩ rfl rfl ?_
  refine G_aload_0 (nx := 7) ⟨dX12_rules_6, rfl⟩ ?_
  refine G_geti (nx := 10) (k := 75) ⟨dX12_rules_7, rfl⟩ fX12_122 q_75 yi_12_0 ?_
  refine G_iconst (nx := 11) ⟨dX12_rules_10, rfl⟩ ci_1 ?_
  refine G_isub (nx := 12) ⟨dX12_rules_11, rfl⟩ ?_
  rw [hG.1]
  refine G_istore_4 (nx := 14) ⟨dX12_rules_12, rfl⟩ rfl rfl ?_
  have e1 : nI n - 1 = iI ((n : Int) - 1) := by rw [show (1 : Int32) = iI 1 by decide, ← iI_nat, iI_sub]
  refine G_L (by rw [e1]; rfl) (lM_rules (d := d + 27) hG hP hL hK hk1 hk2 (fun x5 => ?_) n none none none UU rfl (Nat.le_refl _) (LBR_n _ n) (LBR_n _ n) (LBR_n _ n))
  refine G_iload_1 (nx := 94) ⟨dX12_rules_93, rfl⟩ ?_
  refine G_iconst (nx := 95) ⟨dX12_rules_94, rfl⟩ ci_m1 ?_
  refine G_icmpeq (tgt := 108) (nx := 98) ⟨dX12_rules_95, rfl⟩ rfl (fun c_95 => ?_) (fun c_95 => ?_)
  · refine G_iload_2 (nx := 109) ⟨dX12_rules_108, rfl⟩ ?_
    refine G_iconst (nx := 110) ⟨dX12_rules_109, rfl⟩ ci_m1 ?_
    refine G_icmpeq (tgt := 125) (nx := 113) ⟨dX12_rules_110, rfl⟩ rfl (fun c_110 => ?_) (fun c_110 => ?_)
    · refine G_iload_3 (nx := 126) ⟨dX12_rules_125, rfl⟩ ?_
      refine G_iconst (nx := 127) ⟨dX12_rules_126, rfl⟩ ci_m1 ?_
      refine G_icmpeq (tgt := 162) (nx := 130) ⟨dX12_rules_127, rfl⟩ rfl (fun c_127 => ?_) (fun c_127 => ?_)
      · have z0 : lb (fun p => P.testBit p && decide (dg gr P p = 0)) n = none := by
          cases e : lb (fun p => P.testBit p && decide (dg gr P p = 0)) n with
          | none => rfl
          | some p => rw [e] at c_95; exact absurd c_95 (nI_ne_m1 (by have := ((lb_spec _ n).2 p e).1; omega))
        have z1 : lb (fun p => P.testBit p && decide (k < (dg gr P p : Int))) n = none := by
          cases e : lb (fun p => P.testBit p && decide (k < (dg gr P p : Int))) n with
          | none => rfl
          | some p => rw [e] at c_110; exact absurd c_110 (nI_ne_m1 (by have := ((lb_spec _ n).2 p e).1; omega))
        have z2 : lb (fun p => P.testBit p && decide (dg gr P p = 1)) n = none := by
          cases e : lb (fun p => P.testBit p && decide (dg gr P p = 1)) n with
          | none => rfl
          | some p => rw [e] at c_127; exact absurd c_127 (nI_ne_m1 (by have := ((lb_spec _ n).2 p e).1; omega))
        have hks : ks n gr P k = if hz n gr P 0 = 0 then none else some (3, hz n gr P 0 ||| hz n gr P 2, hz n gr P 2) := by unfold ks; rw [z0, z1, z2]
        refine G_aload_0 (nx := 163) ⟨dX12_rules_162, rfl⟩ ?_
        have hz4 : hz n gr P 0 < 4096 := Nat.lt_of_lt_of_le (hset_lt (n := n) (P := P) (H := hvf n gr P) (v := 0)) (pow12 hn)
        refine G_aload_0 (nx := 164) ⟨dX12_rules_163, rfl⟩ ?_
        refine G_geti (nx := 167) (k := 75) ⟨dX12_rules_164, rfl⟩ fX12_225 q_75 yi_12_9 ?_
        rw [hL]
        refine G_cv1 (nx := 170) ⟨dX12_rules_167, rfl⟩ kX12_206 rfl q_75 rfl (Nat.le_of_ble_eq_true rfl) (Nat.le_of_ble_eq_true rfl) (cM_laysHalves hW hG hP (fun H I1 hv hr hs1 => ?_))
        refine G_istore_4 (nx := 172) ⟨dX12_rules_170, rfl⟩ rfl rfl ?_
        refine G_aload_0 (nx := 173) ⟨dX12_rules_172, rfl⟩ ?_
        refine G_iconst (nx := 174) ⟨dX12_rules_173, rfl⟩ ci_0 ?_
        refine G_aload_0 (nx := 175) ⟨dX12_rules_174, rfl⟩ ?_
        refine G_geti (nx := 178) (k := 75) ⟨dX12_rules_175, rfl⟩ fX12_225 q_75 yi_12_9 ?_
        rw [hs1 75 9 rfl, hL, show (0 : Int32) = nI 0 from nI_0.symm]
        refine G_cv2 (nx := 181) ⟨dX12_rules_178, rfl⟩ kX12_209 rfl q_75 rfl (Nat.le_of_ble_eq_true rfl) (Nat.le_of_ble_eq_true rfl) (cM_halvesWith (v := 0) (H := H) (hG.sb hs1 rfl (fun _ => rfl)) hP (by omega) hr (HV_le hv) ?_)
        rw [hz_eq hv]
        refine G_istore_5 (nx := 183) ⟨dX12_rules_181, rfl⟩ rfl rfl ?_
        refine G_aload_0 (nx := 184) ⟨dX12_rules_183, rfl⟩ ?_
        refine G_iconst (nx := 185) ⟨dX12_rules_184, rfl⟩ ci_2 ?_
        refine G_aload_0 (nx := 186) ⟨dX12_rules_185, rfl⟩ ?_
        refine G_geti (nx := 189) (k := 75) ⟨dX12_rules_186, rfl⟩ fX12_225 q_75 yi_12_9 ?_
        rw [hs1 75 9 rfl, hL, show (2 : Int32) = nI 2 by decide]
        refine G_cv2 (nx := 192) ⟨dX12_rules_189, rfl⟩ kX12_209 rfl q_75 rfl (Nat.le_of_ble_eq_true rfl) (Nat.le_of_ble_eq_true rfl) (cM_halvesWith (v := 2) (H := H) (hG.sb hs1 rfl (fun _ => rfl)) hP (by omega) hr (HV_le hv) ?_)
        rw [hz_eq hv]
        refine G_istore_6 (nx := 194) ⟨dX12_rules_192, rfl⟩ rfl rfl ?_
        refine G_iload_5 (nx := 196) ⟨dX12_rules_194, rfl⟩ ?_
        refine G_ifeq (tgt := 218) (nx := 199) ⟨dX12_rules_196, rfl⟩ rfl (fun c_196 => ?_) (fun c_196 => ?_)
        · refine G_iconst (nx := 219) ⟨dX12_rules_218, rfl⟩ ci_0 ?_
          refine G_zret ⟨dX12_rules_219, rfl⟩ rfl (by first | assumption | decide | exact bi_01 _) ?_
          rw [nI_0iff (by omega)] at c_196
          exact hf I1 (by rw [hks, if_pos c_196]) (fun b => hs1 82 b rfl) (hs1.mono (fun _ _ h => or_f h))
        · rw [nI_0iff (by omega)] at c_196
          refine G_aload_0 (nx := 200) ⟨dX12_rules_199, rfl⟩ ?_
          refine G_iconst (nx := 201) ⟨dX12_rules_200, rfl⟩ ci_3 ?_
          refine G_iload_5 (nx := 203) ⟨dX12_rules_201, rfl⟩ ?_
          refine G_iload_6 (nx := 205) ⟨dX12_rules_203, rfl⟩ ?_
          refine G_ior (nx := 206) ⟨dX12_rules_205, rfl⟩ ?_
          refine G_iload_6 (nx := 208) ⟨dX12_rules_206, rfl⟩ ?_
          rw [nI_or]
          refine G_cv3 (nx := 211) ⟨dX12_rules_208, rfl⟩ kX12_234 rfl q_75 rfl (Nat.le_of_ble_eq_true rfl) (Nat.le_of_ble_eq_true rfl) (cM_rule ?_)
          refine G_ifeq (tgt := 218) (nx := 214) ⟨dX12_rules_211, rfl⟩ rfl (fun c_211 => ?_) (fun c_211 => ?_)
          · exact absurd c_211 (by decide)
          · refine G_iconst (nx := 215) ⟨dX12_rules_214, rfl⟩ ci_1 ?_
            refine G_goto (tgt := 219) ⟨dX12_rules_215, rfl⟩ rfl ?_
            refine G_zret ⟨dX12_rules_219, rfl⟩ rfl (by first | assumption | decide | exact bi_01 _) ?_
            exact fin 3 _ _ I1 (by rw [hks, if_neg c_196]) (hs1.mono (fun _ _ h => or_f h))
      · have z0 : lb (fun p => P.testBit p && decide (dg gr P p = 0)) n = none := by
          cases e : lb (fun p => P.testBit p && decide (dg gr P p = 0)) n with
          | none => rfl
          | some p => rw [e] at c_95; exact absurd c_95 (nI_ne_m1 (by have := ((lb_spec _ n).2 p e).1; omega))
        have z1 : lb (fun p => P.testBit p && decide (k < (dg gr P p : Int))) n = none := by
          cases e : lb (fun p => P.testBit p && decide (k < (dg gr P p : Int))) n with
          | none => rfl
          | some p => rw [e] at c_110; exact absurd c_110 (nI_ne_m1 (by have := ((lb_spec _ n).2 p e).1; omega))
        obtain ⟨p, hp⟩ : ∃ p, lb (fun p => P.testBit p && decide (dg gr P p = 1)) n = some p := by
          cases e : lb (fun p => P.testBit p && decide (dg gr P p = 1)) n with
          | none => rw [e] at c_127; exact absurd rfl c_127
          | some p => exact ⟨p, rfl⟩
        obtain ⟨hpn, hpt, -⟩ := (lb_spec _ n).2 p hp
        have h12 := in12 hpn hn
        have ecp := cl_nI (p := p) (by omega)
        rw [hp]
        refine G_aload_0 (nx := 131) ⟨dX12_rules_130, rfl⟩ ?_
        refine G_iconst (nx := 132) ⟨dX12_rules_131, rfl⟩ ci_2 ?_
        refine G_iconst (nx := 133) ⟨dX12_rules_132, rfl⟩ ci_1 ?_
        refine G_iload_3 (nx := 134) ⟨dX12_rules_133, rfl⟩ ?_
        refine G_ishl (nx := 135) ⟨dX12_rules_134, rfl⟩ ?_
        refine G_aload_0 (nx := 136) ⟨dX12_rules_135, rfl⟩ ?_
        refine G_getr (nx := 139) (k := 75) (r := 78) ⟨dX12_rules_136, rfl⟩ fX12_20 q_75 yr_12_4 (r_75_4 _) ?_
        refine G_iload_3 (nx := 140) ⟨dX12_rules_139, rfl⟩ ?_
        refine G_iald (nx := 141) (k := 78) ⟨dX12_rules_140, rfl⟩ q_78 (by first | assumption | decide | (unfold vp_in; decide)) ?_
        rw [show mv (some p) = nI p from rfl, hG.row hpn]
        refine G_aload_0 (nx := 142) ⟨dX12_rules_141, rfl⟩ ?_
        refine G_geti (nx := 145) (k := 75) ⟨dX12_rules_142, rfl⟩ fX12_225 q_75 yi_12_9 ?_
        rw [hL]
        refine G_iand (nx := 146) ⟨dX12_rules_145, rfl⟩ ?_
        refine G_ior (nx := 147) ⟨dX12_rules_146, rfl⟩ ?_
        refine G_aload_0 (nx := 148) ⟨dX12_rules_147, rfl⟩ ?_
        refine G_getr (nx := 151) (k := 75) (r := 78) ⟨dX12_rules_148, rfl⟩ fX12_20 q_75 yr_12_4 (r_75_4 _) ?_
        refine G_iload_3 (nx := 152) ⟨dX12_rules_151, rfl⟩ ?_
        refine G_iald (nx := 153) (k := 78) ⟨dX12_rules_152, rfl⟩ q_78 (by first | assumption | decide | (unfold vp_in; decide)) ?_
        rw [hG.row hpn]
        refine G_aload_0 (nx := 154) ⟨dX12_rules_153, rfl⟩ ?_
        refine G_geti (nx := 157) (k := 75) ⟨dX12_rules_154, rfl⟩ fX12_225 q_75 yi_12_9 ?_
        rw [hL]
        refine G_iand (nx := 158) ⟨dX12_rules_157, rfl⟩ ?_
        rw [one_shl (by omega), nI_and, nI_or]
        refine G_cv3 (nx := 161) ⟨dX12_rules_158, rfl⟩ kX12_234 rfl q_75 rfl (Nat.le_of_ble_eq_true rfl) (Nat.le_of_ble_eq_true rfl) (cM_rule ?_)
        refine G_zret ⟨dX12_rules_161, rfl⟩ rfl (by first | assumption | decide | exact bi_01 _) ?_
        exact fin 2 (2 ^ p ||| (gr p &&& P)) (gr p &&& P) I (by unfold ks; rw [z0, z1, hp]) sb.rf
    · have z0 : lb (fun p => P.testBit p && decide (dg gr P p = 0)) n = none := by
        cases e : lb (fun p => P.testBit p && decide (dg gr P p = 0)) n with
        | none => rfl
        | some p => rw [e] at c_95; exact absurd c_95 (nI_ne_m1 (by have := ((lb_spec _ n).2 p e).1; omega))
      obtain ⟨p, hp⟩ : ∃ p, lb (fun p => P.testBit p && decide (k < (dg gr P p : Int))) n = some p := by
        cases e : lb (fun p => P.testBit p && decide (k < (dg gr P p : Int))) n with
        | none => rw [e] at c_110; exact absurd rfl c_110
        | some p => exact ⟨p, rfl⟩
      obtain ⟨hpn, hpt, -⟩ := (lb_spec _ n).2 p hp
      rw [hp]
      refine G_aload_0 (nx := 114) ⟨dX12_rules_113, rfl⟩ ?_
      refine G_iconst (nx := 115) ⟨dX12_rules_114, rfl⟩ ci_1 ?_
      refine G_iconst (nx := 116) ⟨dX12_rules_115, rfl⟩ ci_1 ?_
      refine G_iload_2 (nx := 117) ⟨dX12_rules_116, rfl⟩ ?_
      refine G_ishl (nx := 118) ⟨dX12_rules_117, rfl⟩ ?_
      refine G_iconst (nx := 119) ⟨dX12_rules_118, rfl⟩ ci_1 ?_
      refine G_iload_2 (nx := 120) ⟨dX12_rules_119, rfl⟩ ?_
      refine G_ishl (nx := 121) ⟨dX12_rules_120, rfl⟩ ?_
      rw [show mv (some p) = nI p from rfl, one_shl (by omega)]
      refine G_cv3 (nx := 124) ⟨dX12_rules_121, rfl⟩ kX12_234 rfl q_75 rfl (Nat.le_of_ble_eq_true rfl) (Nat.le_of_ble_eq_true rfl) (cM_rule ?_)
      refine G_zret ⟨dX12_rules_124, rfl⟩ rfl (by first | assumption | decide | exact bi_01 _) ?_
      exact fin 1 (2 ^ p) (2 ^ p) I (by unfold ks; rw [z0, hp]) sb.rf
  · obtain ⟨p, hp⟩ : ∃ p, lb (fun p => P.testBit p && decide (dg gr P p = 0)) n = some p := by
      cases e : lb (fun p => P.testBit p && decide (dg gr P p = 0)) n with
      | none => rw [e] at c_95; exact absurd rfl c_95
      | some p => exact ⟨p, rfl⟩
    obtain ⟨hpn, hpt, -⟩ := (lb_spec _ n).2 p hp
    rw [hp]
    refine G_aload_0 (nx := 99) ⟨dX12_rules_98, rfl⟩ ?_
    refine G_iconst (nx := 100) ⟨dX12_rules_99, rfl⟩ ci_0 ?_
    
    refine G_iconst (nx := 101) ⟨dX12_rules_100, rfl⟩ ci_1 ?_
    refine G_iload_1 (nx := 102) ⟨dX12_rules_101, rfl⟩ ?_
    refine G_ishl (nx := 103) ⟨dX12_rules_102, rfl⟩ ?_
    refine G_iconst (nx := 104) ⟨dX12_rules_103, rfl⟩ ci_0 ?_
    rw [show mv (some p) = nI p from rfl, one_shl (by omega)]
    refine G_cv3 (nx := 107) ⟨dX12_rules_104, rfl⟩ kX12_234 rfl q_75 rfl (Nat.le_of_ble_eq_true rfl) (Nat.le_of_ble_eq_true rfl) (cM_rule ?_)
    refine G_zret ⟨dX12_rules_107, rfl⟩ rfl (by first | assumption | decide | exact bi_01 _) ?_
    exact fin 0 (2 ^ p) 0 I (by unfold ks; rw [hp]) sb.rf
  

theorem lM_kernels {k0 most : Nat} {kx : Int32} (hW : WG n gr) (hG : MG I n gr) (hk0 : k0 ≤ 12) (hm : most ≤ 1000000)
  (hk : ∀ (r : Nat) (I' : AI), (∀ j, j < r → kgo n gr k0 j = true) → (r = most ∨ (r < most ∧ kgo n gr k0 r = false)) → I' 75 9 = nI (kit n gr k0 r).1 → I' 75 10 = nI (kit n gr k0 r).2.1 → I' 75 11 = iI (kit n gr k0 r).2.2 → I' 75 12 = nI r → (∀ i x, r = i + 1 → ks n gr (kit n gr k0 i).1 (kit n gr k0 i).2.2 = some x → I' 82 0 = nI x.1 ∧ I' 82 1 = nI x.2.1 ∧ I' 82 2 = nI x.2.2) → sb fK I I' → K .null I' J (rX g)) :
  ∀ (q r : Nat) (I1 : AI), 13 - r = q → r ≤ most → (∀ j, j < r → kgo n gr k0 j = true) → I1 75 9 = nI (kit n gr k0 r).1 → I1 75 10 = nI (kit n gr k0 r).2.1 → I1 75 11 = iI (kit n gr k0 r).2.2 → I1 75 12 = nI r → (∀ i x, r = i + 1 → ks n gr (kit n gr k0 i).1 (kit n gr k0 i).2.2 = some x → I1 82 0 = nI x.1 ∧ I1 82 1 = nI x.2.1 ∧ I1 82 2 = nI x.2.2) → sb fK I I1 → G l (d + 30) mX12_kernels K 23 [.ref 75, .int kx, .int (nI most)] [] I1 J (rX g) := by
  intro q
  induction q using Nat.strongRecOn with
  | _ q ih =>
  intro r I1 hq hrm hgo f9 f10 f11 f12 hrow hsb
  have hn := hG.2.1
  have hG1 : MG I1 n gr := hG.sb hsb rfl (fun _ => rfl)
  have hpcr := kit_pc hn hG.2.2.2 r hgo
  obtain ⟨hl1, hl2⟩ := kit_lt (k0 := (k0 : Int)) hG.2.2.2 r
  obtain ⟨hb1, hb2⟩ := kit_k (n := n) (gr := gr) (k0 := (k0 : Int)) r
  have hp2 := pow12 hn
  refine G_aload_0 (nx := 24) ⟨dX12_kernels_23, rfl⟩ ?_
  refine G_geti (nx := 27) (k := 75) ⟨dX12_kernels_24, rfl⟩ fX12_231 q_75 yi_12_11 ?_
  rw [f11]
  refine G_iflt (tgt := 108) (nx := 30) ⟨dX12_kernels_27, rfl⟩ rfl (fun c_27 => ?_) (fun c_27 => ?_)
  · refine G_vret ⟨dX12_kernels_108, rfl⟩ rfl ?_
    rw [i32_lt, iI_toInt (by omega) (by omega), show (0 : Int32).toInt = 0 by decide] at c_27
    rcases (show r = most ∨ r < most by omega) with e | e
    · exact hk r I1 hgo (Or.inl e) f9 f10 f11 f12 hrow hsb
    · exact hk r I1 hgo (Or.inr ⟨e, by unfold kgo; rw [decide_eq_false (by omega)]; rfl⟩) f9 f10 f11 f12 hrow hsb
  · rw [i32_lt, iI_toInt (by omega) (by omega), show (0 : Int32).toInt = 0 by decide] at c_27
    have hk0n : 0 ≤ (kit n gr k0 r).2.2 := by omega
    refine G_aload_0 (nx := 31) ⟨dX12_kernels_30, rfl⟩ ?_
    refine G_geti (nx := 34) (k := 75) ⟨dX12_kernels_31, rfl⟩ fX12_240 q_75 yi_12_12 ?_
    refine G_iload_2 (nx := 35) ⟨dX12_kernels_34, rfl⟩ ?_
    rw [f12]
    refine G_icmpge (tgt := 108) (nx := 38) ⟨dX12_kernels_35, rfl⟩ rfl (fun c_35 => ?_) (fun c_35 => ?_)
    · refine G_vret ⟨dX12_kernels_108, rfl⟩ rfl ?_
      rw [nI_le_iff (by omega) (by omega)] at c_35
      exact hk r I1 hgo (Or.inl (by omega)) f9 f10 f11 f12 hrow hsb
    · rw [nI_le_iff (by omega) (by omega)] at c_35
      refine G_aload_0 (nx := 39) ⟨dX12_kernels_38, rfl⟩ ?_
      refine G_cv0 (nx := 42) ⟨dX12_kernels_39, rfl⟩ kX12_243 rfl q_75 rfl (Nat.le_of_ble_eq_true rfl) (Nat.le_of_ble_eq_true rfl) (cM_rules hW hG1 hl1 f9 f11 (by omega) (by omega) (fun x I2 hx g82a g82b g82c hs2 => ?_) (fun I2 hx hq82 hs2 => ?_))
      · have g9 : I2 75 9 = nI (kit n gr k0 r).1 := by rw [hs2 75 9 rfl]; exact f9
        have g10 : I2 75 10 = nI (kit n gr k0 r).2.1 := by rw [hs2 75 10 rfl]; exact f10
        have g11 : I2 75 11 = iI (kit n gr k0 r).2.2 := by rw [hs2 75 11 rfl]; exact f11
        have g12 : I2 75 12 = nI r := by rw [hs2 75 12 rfl]; exact f12
        obtain ⟨hx1, hx2, -, -⟩ := ks_ok hG.2.2.2 hl1 hx
        refine G_ifeq (tgt := 108) (nx := 45) ⟨dX12_kernels_42, rfl⟩ rfl (fun c_42 => ?_) (fun c_42 => ?_)
        · exact absurd c_42 (by decide)
        · refine G_aload_0 (nx := 46) ⟨dX12_kernels_45, rfl⟩ ?_
          refine G_dup (nx := 47) ⟨dX12_kernels_46, rfl⟩ rfl ?_
          refine G_geti (nx := 50) (k := 75) ⟨dX12_kernels_47, rfl⟩ fX12_225 q_75 yi_12_9 ?_
          rw [g9]
          refine G_aload_0 (nx := 51) ⟨dX12_kernels_50, rfl⟩ ?_
          refine G_getr (nx := 54) (k := 75) (r := 82) ⟨dX12_kernels_51, rfl⟩ fX12_32 q_75 yr_12_13 (r_75_13 _) ?_
          refine G_iconst (nx := 55) ⟨dX12_kernels_54, rfl⟩ ci_1 ?_
          refine G_iald (nx := 56) (k := 82) ⟨dX12_kernels_55, rfl⟩ q_82 (by first | assumption | decide | (unfold vp_in; decide)) ?_
          rw [cl_1, g82b]
          refine G_iconst (nx := 57) ⟨dX12_kernels_56, rfl⟩ ci_m1 ?_
          refine G_ixor (nx := 58) ⟨dX12_kernels_57, rfl⟩ ?_
          
          refine G_iand (nx := 59) ⟨dX12_kernels_58, rfl⟩ ?_
          rw [nI_df _ (by omega)]
          refine G_puti (nx := 62) (k := 75) ⟨dX12_kernels_59, rfl⟩ pX12_225 q_75 yt_12_9 ?_
          refine G_aload_0 (nx := 63) ⟨dX12_kernels_62, rfl⟩ ?_
          refine G_dup (nx := 64) ⟨dX12_kernels_63, rfl⟩ rfl ?_
          refine G_geti (nx := 67) (k := 75) ⟨dX12_kernels_64, rfl⟩ fX12_237 q_75 yi_12_10 ?_
          
          refine G_aload_0 (nx := 68) ⟨dX12_kernels_67, rfl⟩ ?_
          refine G_getr (nx := 71) (k := 75) (r := 82) ⟨dX12_kernels_68, rfl⟩ fX12_32 q_75 yr_12_13 (r_75_13 _) ?_
          refine G_iconst (nx := 72) ⟨dX12_kernels_71, rfl⟩ ci_2 ?_
          refine G_iald (nx := 73) (k := 82) ⟨dX12_kernels_72, rfl⟩ q_82 (by first | assumption | decide | (unfold vp_in; decide)) ?_
          refine G_ior (nx := 74) ⟨dX12_kernels_73, rfl⟩ ?_
          simp only [w2_ne _ _ _ _ (show ¬ (75 = 75 ∧ 10 = 9) by decide), w2_row _ _ _ _ (show ¬ 82 = 75 by decide)]
          rw [g10, cl_2, g82c, nI_or]
          refine G_puti (nx := 77) (k := 75) ⟨dX12_kernels_74, rfl⟩ pX12_237 q_75 yt_12_10 ?_
          refine G_aload_0 (nx := 78) ⟨dX12_kernels_77, rfl⟩ ?_
          refine G_dup (nx := 79) ⟨dX12_kernels_78, rfl⟩ rfl ?_
          refine G_geti (nx := 82) (k := 75) ⟨dX12_kernels_79, rfl⟩ fX12_231 q_75 yi_12_11 ?_
          refine G_aload_0 (nx := 83) ⟨dX12_kernels_82, rfl⟩ ?_
          refine G_getr (nx := 86) (k := 75) (r := 82) ⟨dX12_kernels_83, rfl⟩ fX12_32 q_75 yr_12_13 (r_75_13 _) ?_
          refine G_iconst (nx := 87) ⟨dX12_kernels_86, rfl⟩ ci_2 ?_
          refine G_iald (nx := 88) (k := 82) ⟨dX12_kernels_87, rfl⟩ q_82 (by first | assumption | decide | (unfold vp_in; decide)) ?_
          simp only [w2_row _ _ _ _ (show ¬ 82 = 75 by decide)]
          rw [cl_2, g82c]
          refine G_cs1 (nx := 91) ⟨dX12_kernels_88, rfl⟩ kX12_133 rfl rfl (Nat.le_of_ble_eq_true rfl) (Nat.le_of_ble_eq_true rfl) (cM_bits (by omega) ?_)
          simp only [w2_ne _ _ _ _ (show ¬ (75 = 75 ∧ 11 = 9) by decide), w2_ne _ _ _ _ (show ¬ (75 = 75 ∧ 11 = 10) by decide)]
          rw [g11]
          refine G_isub (nx := 92) ⟨dX12_kernels_91, rfl⟩ ?_
          rw [iI_subN]
          refine G_puti (nx := 95) (k := 75) ⟨dX12_kernels_92, rfl⟩ pX12_231 q_75 yt_12_11 ?_
          refine G_aload_0 (nx := 96) ⟨dX12_kernels_95, rfl⟩ ?_
          refine G_dup (nx := 97) ⟨dX12_kernels_96, rfl⟩ rfl ?_
          refine G_geti (nx := 100) (k := 75) ⟨dX12_kernels_97, rfl⟩ fX12_240 q_75 yi_12_12 ?_
          refine G_iconst (nx := 101) ⟨dX12_kernels_100, rfl⟩ ci_1 ?_
          refine G_iadd (nx := 102) ⟨dX12_kernels_101, rfl⟩ ?_
          simp only [w2_ne _ _ _ _ (show ¬ (75 = 75 ∧ 12 = 9) by decide), w2_ne _ _ _ _ (show ¬ (75 = 75 ∧ 12 = 10) by decide), w2_ne _ _ _ _ (show ¬ (75 = 75 ∧ 12 = 11) by decide)]
          rw [g12, nI_1]
          refine G_puti (nx := 105) (k := 75) ⟨dX12_kernels_102, rfl⟩ pX12_240 q_75 yt_12_12 ?_
          refine G_goto (tgt := 23) ⟨dX12_kernels_105, rfl⟩ rfl ?_
          have ekit : kit n gr k0 (r + 1) = (df (kit n gr k0 r).1 x.2.1, (kit n gr k0 r).2.1 ||| x.2.2, (kit n gr k0 r).2.2 - (pc x.2.2 : Int)) := by simp only [kit, hx]
          have hgor : kgo n gr k0 r = true := by unfold kgo; rw [hx]; simp only [Option.isSome_some, Bool.and_true, decide_eq_true_eq]; exact hk0n
          refine ih (13 - (r + 1)) (by omega) (r + 1) _ rfl (by omega) (fun j hj => ?_) ?_ ?_ ?_ ?_ (fun i y hi hy => ?_) ((((((hsb.tr (hs2.mono (fun _ _ h => or_f h))).w rfl).w rfl).w rfl).w rfl))
          · by_cases e : j = r
            · rw [e]; exact hgor
            · exact hgo j (by omega)
          · rw [ekit, w2_ne _ _ _ _ (by decide), w2_ne _ _ _ _ (by decide), w2_ne _ _ _ _ (by decide), w2_at]
          · rw [ekit, w2_ne _ _ _ _ (by decide), w2_ne _ _ _ _ (by decide), w2_at]
          · rw [ekit, w2_ne _ _ _ _ (by decide), w2_at]
          · rw [w2_at]
          · have : i = r := by omega
            subst this
            rw [hx] at hy
            cases hy
            simp only [w2_row _ _ _ _ (show ¬ 82 = 75 by decide)]
            exact ⟨g82a, g82b, g82c⟩
      · refine G_ifeq (tgt := 108) (nx := 45) ⟨dX12_kernels_42, rfl⟩ rfl (fun c_42 => ?_) (fun c_42 => ?_)
        · refine G_vret ⟨dX12_kernels_108, rfl⟩ rfl ?_
          refine hk r I2 hgo (Or.inr ⟨by omega, by unfold kgo; rw [hx]; simp⟩) (by rw [hs2 75 9 rfl]; exact f9) (by rw [hs2 75 10 rfl]; exact f10) (by rw [hs2 75 11 rfl]; exact f11) (by rw [hs2 75 12 rfl]; exact f12) (fun i y hi hy => ?_) (hsb.tr (hs2.mono (fun _ _ h => or_f h)))
          obtain ⟨a, b, c⟩ := hrow i y hi hy
          rw [hq82 0, hq82 1, hq82 2]
          exact ⟨a, b, c⟩
        · exact absurd rfl c_42
      

theorem cM_kernels {k0 most : Nat} (hW : WG n gr) (hG : MG I n gr) (hk0 : k0 ≤ 12) (hm : most ≤ 1000000)
  (hk : ∀ (r : Nat) (I' : AI), (∀ j, j < r → kgo n gr k0 j = true) → (r = most ∨ (r < most ∧ kgo n gr k0 r = false)) → I' 75 9 = nI (kit n gr k0 r).1 → I' 75 10 = nI (kit n gr k0 r).2.1 → I' 75 11 = iI (kit n gr k0 r).2.2 → I' 75 12 = nI r → (∀ i x, r = i + 1 → ks n gr (kit n gr k0 i).1 (kit n gr k0 i).2.2 = some x → I' 82 0 = nI x.1 ∧ I' 82 1 = nI x.2.1 ∧ I' 82 2 = nI x.2.2) → sb fK I I' → K .null I' J (rX g)) : G l (d + 30) mX12_kernels K 0 [.ref 75, .int (nI k0), .int (nI most)] [] I J (rX g) := by
  refine G_aload_0 (nx := 1) ⟨dX12_kernels_0, rfl⟩ ?_
  refine G_aload_0 (nx := 2) ⟨dX12_kernels_1, rfl⟩ ?_
  refine G_cv0 (nx := 5) ⟨dX12_kernels_2, rfl⟩ kX12_129 rfl q_75 rfl (Nat.le_of_ble_eq_true rfl) (Nat.le_of_ble_eq_true rfl) (cM_all hG ?_)
  refine G_puti (nx := 8) (k := 75) ⟨dX12_kernels_5, rfl⟩ pX12_225 q_75 yt_12_9 ?_
  refine G_aload_0 (nx := 9) ⟨dX12_kernels_8, rfl⟩ ?_
  refine G_iconst (nx := 10) ⟨dX12_kernels_9, rfl⟩ ci_0 ?_
  refine G_puti (nx := 13) (k := 75) ⟨dX12_kernels_10, rfl⟩ pX12_237 q_75 yt_12_10 ?_
  refine G_aload_0 (nx := 14) ⟨dX12_kernels_13, rfl⟩ ?_
  refine G_iload_1 (nx := 15) ⟨dX12_kernels_14, rfl⟩ ?_
  refine G_puti (nx := 18) (k := 75) ⟨dX12_kernels_15, rfl⟩ pX12_231 q_75 yt_12_11 ?_
  refine G_aload_0 (nx := 19) ⟨dX12_kernels_18, rfl⟩ ?_
  refine G_iconst (nx := 20) ⟨dX12_kernels_19, rfl⟩ ci_0 ?_
  refine G_puti (nx := 23) (k := 75) ⟨dX12_kernels_20, rfl⟩ pX12_240 q_75 yt_12_12 ?_
  refine lM_kernels hW hG hk0 hm hk _ 0 _ rfl (Nat.zero_le _) (fun j hj => absurd hj (Nat.not_lt_zero _)) ?_ ?_ ?_ ?_ (fun i x hi => absurd hi (by omega)) ((((sb.rf.w rfl).w rfl).w rfl).w rfl)
  · rw [w2_ne _ _ _ _ (by decide), w2_ne _ _ _ _ (by decide), w2_ne _ _ _ _ (by decide), w2_at]; rfl
  · rw [w2_ne _ _ _ _ (by decide), w2_ne _ _ _ _ (by decide), w2_at]; rfl
  · rw [w2_ne _ _ _ _ (by decide), w2_at]; exact (iI_nat k0).symm
  · rw [w2_at]; rfl

end M28
