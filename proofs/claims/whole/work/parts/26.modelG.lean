def fP (a _ : Nat) : Bool := a == 81
def PaC (l : Launch) (D n : Nat) (gr : Nat → Nat) (J : AJ) (g : Bool) (k : Nat) : Prop := ∀ (K : AK) (I : AI) (hd cr : Nat), MG I n gr → hd < 2 ^ n → cr < 2 ^ n → (∀ x, hd.testBit x = true → cr.testBit x = false) → pc hd = k →
  (∀ (ma : Nat → Nat) (I' : AI), LM gr k hd cr ma → (∀ h, hd.testBit h = true → I' 81 h = nI (ma h) ∧ I' 81 (ma h) = nI h) → (∀ x, hd.testBit x = false → (∀ h, hd.testBit h = true → ¬ ma h = x) → I' 81 x = I 81 x ∨ (cr.testBit x = true ∧ I' 81 x = -1)) → sb fP I I' → K (.int 1) I' J (rX g)) →
  (∀ (I' : AI), ¬ EM gr hd cr → (∀ x, hd.testBit x = false → I' 81 x = I 81 x ∨ (cr.testBit x = true ∧ I' 81 x = -1)) → sb fP I I' → K (.int 0) I' J (rX g)) →
  G l D mX12_pairsAll K 0 [.ref 75, .int (nI hd), .int (nI cr), UU, UU] [] I J (rX g)
/-- all next to any of a set -/
def ntF (gr : Nat → Nat) (s : Nat) (p : Nat) (a : Nat) : Nat := a ||| (if s.testBit p = true then gr p else 0)
def ntN (n : Nat) (gr : Nat → Nat) (s : Nat) : Nat := lp (ntF gr s) n 0
theorem ntN_lt {n : Nat} {gr : Nat → Nat} (h : ∀ p, p < n → gr p < 2 ^ n) (s : Nat) : ∀ k, k ≤ n → ntN k gr s < 2 ^ n := by
  intro k
  induction k with
  | zero => intro _; exact Nat.two_pow_pos n
  | succ k ih =>
    intro hk
    simp only [ntN, lp_s, ntF]
    refine Nat.or_lt_two_pow (ih (by omega)) ?_
    split
    · exact h k (by omega)
    · exact Nat.two_pow_pos n
theorem ntN_tb (gr : Nat → Nat) (s q : Nat) : ∀ n, (ntN n gr s).testBit q = true ↔ ∃ p, p < n ∧ s.testBit p = true ∧ (gr p).testBit q = true := by
  intro n
  induction n with
  | zero => simp [ntN, lp]
  | succ k ih =>
    have e : ntN (k + 1) gr s = ntN k gr s ||| (if s.testBit k = true then gr k else 0) := rfl
    rw [e, Nat.testBit_or, Bool.or_eq_true, ih]
    constructor
    · rintro (⟨p, h1, h2, h3⟩ | h)
      · exact ⟨p, by omega, h2, h3⟩
      · by_cases hs : s.testBit k = true
        · rw [if_pos hs] at h; exact ⟨k, by omega, hs, h⟩
        · rw [if_neg hs, Nat.zero_testBit] at h; cases h
    · rintro ⟨p, h1, h2, h3⟩
      by_cases e : p = k
      · subst e; right; rw [if_pos h2]; exact h3
      · left; exact ⟨p, by omega, h2, h3⟩
noncomputable def crB (n : Nat) (gr : Nat → Nat) (s : Nat) : Bool := @decide (¬ s = 0 ∧ s &&& ntN n gr s = 0 ∧ EM gr (ntN n gr s) s) (Classical.propDecidable _)
theorem crB_iff {n : Nat} {gr : Nat → Nat} {s : Nat} : crB n gr s = true ↔ ¬ s = 0 ∧ s &&& ntN n gr s = 0 ∧ EM gr (ntN n gr s) s := by unfold crB; simp
noncomputable def crF (n : Nat) (gr : Nat → Nat) (s : Nat) (a : Nat × Nat) : Nat × Nat := if crB n gr s = true then (a.1 + 1, if pc a.2 < pc s then s else a.2) else a
noncomputable def crN (n : Nat) (gr : Nat → Nat) : Nat × Nat := lp (crF n gr) (2 ^ n) (0, 0)
theorem crF_le (n : Nat) (gr : Nat → Nat) : ∀ k, (lp (crF n gr) k (0, 0)).1 ≤ k ∧ ((lp (crF n gr) k (0, 0)).2 = 0 ∨ (lp (crF n gr) k (0, 0)).2 < k) := by
  intro k
  induction k with
  | zero => exact ⟨Nat.le_refl _, Or.inl rfl⟩
  | succ k ih =>
    obtain ⟨h1, h2⟩ := ih
    simp only [lp_s, crF]
    split
    · refine ⟨by simp; omega, ?_⟩
      simp only
      split <;> omega
    · omega
/-- covers of a size with all of one set and none of another -/
def peF (n : Nat) (gr : Nat → Nat) (size ins out : Nat) (s : Nat) (a : Nat) : Nat := a + (if pc s = size ∧ s &&& out = 0 ∧ df ins s = 0 ∧ covB n gr s = true then 1 else 0)
def peN (n : Nat) (gr : Nat → Nat) (size ins out : Nat) : Nat := lp (peF n gr size ins out) (2 ^ n) 0
theorem peF_le (n : Nat) (gr : Nat → Nat) (size ins out : Nat) : ∀ k, lp (peF n gr size ins out) k 0 ≤ k := by
  intro k
  induction k with
  | zero => exact Nat.le_refl _
  | succ k ih => simp only [lp_s, peF]; split <;> omega
section M26
variable {l : Launch} {d : Nat} {K : AK} {I : AI} {J : AJ} {g : Bool} {n : Nat} {gr : Nat → Nat}

theorem lM_pairsAll {D k hd cr : Nat} (hrec : PaC l D n gr J g k) (hD : ∃ d, D = d + 1) (hG : MG I n gr) (hh : hd < 2 ^ n) (hc : cr < 2 ^ n) (hdis : ∀ x, hd.testBit x = true → cr.testBit x = false) (hpc : pc hd = k + 1) (h0 : ¬ hd = 0)
  (hs : ∀ (ma : Nat → Nat) (I' : AI), LM gr (k + 1) hd cr ma → (∀ h, hd.testBit h = true → I' 81 h = nI (ma h) ∧ I' 81 (ma h) = nI h) → (∀ x, hd.testBit x = false → (∀ h, hd.testBit h = true → ¬ ma h = x) → I' 81 x = I 81 x ∨ (cr.testBit x = true ∧ I' 81 x = -1)) → sb fP I I' → K (.int 1) I' J (rX g))
  (hf : ∀ (I' : AI), ¬ EM gr hd cr → (∀ x, hd.testBit x = false → I' 81 x = I 81 x ∨ (cr.testBit x = true ∧ I' 81 x = -1)) → sb fP I I' → K (.int 0) I' J (rX g)) :
  ∀ (j q : Nat) (I1 : AI), n - q = j → q ≤ n → (∀ x, x < q → cr.testBit x = true → (gr (fb hd)).testBit x = true → ¬ EM gr (df hd (2 ^ fb hd)) (df cr (2 ^ x))) → (∀ x, hd.testBit x = false → I1 81 x = I 81 x ∨ (cr.testBit x = true ∧ I1 81 x = -1)) → sb fP I I1 → G l (D + 1) mX12_pairsAll K 14 [.ref 75, .int (nI hd), .int (nI cr), .int (nI (fb hd)), .int (nI q)] [] I1 J (rX g) := by
  intro j
  induction j using Nat.strongRecOn with
  | _ j ih =>
  intro q I1 hqk hqn hno hpar hsb
  have hn := hG.2.1
  have hG1 : MG I1 n gr := hG.sb hsb rfl (fun _ => rfl)
  have e0 := hG1.1
  have hh4 : hd < 4096 := Nat.lt_of_lt_of_le hh (pow12 hn)
  have hc4 : cr < 4096 := Nat.lt_of_lt_of_le hc (pow12 hn)
  obtain ⟨hf1, hf2, hf3⟩ := fb_s hh4 h0
  have hpn : fb hd < n := tb_ltn hh hf2
  have hp12 := in12 hpn hn
  have ecp := cl_nI (p := fb hd) (by omega)
  have hand : cr &&& gr (fb hd) < 4096 := Nat.lt_of_le_of_lt Nat.and_le_left hc4
  have hpd := pc_del (show fb hd < 12 by omega) hf2
  have hpcr := hdis _ hf2
  refine G_iload_4 (nx := 16) ⟨dX12_pairsAll_14, rfl⟩ ?_
  refine G_aload_0 (nx := 17) ⟨dX12_pairsAll_16, rfl⟩ ?_
  refine G_geti (nx := 20) (k := 75) ⟨dX12_pairsAll_17, rfl⟩ fX12_122 q_75 yi_12_0 ?_
  rw [e0]
  refine G_icmpge (tgt := 94) (nx := 23) ⟨dX12_pairsAll_20, rfl⟩ rfl (fun c_20 => ?_) (fun c_20 => ?_)
  · refine G_aload_0 (nx := 95) ⟨dX12_pairsAll_94, rfl⟩ ?_
    refine G_getr (nx := 98) (k := 75) (r := 81) ⟨dX12_pairsAll_95, rfl⟩ fX12_29 q_75 yr_12_8 (r_75_8 _) ?_
    refine G_iload_3 (nx := 99) ⟨dX12_pairsAll_98, rfl⟩ ?_
    refine G_iconst (nx := 100) ⟨dX12_pairsAll_99, rfl⟩ ci_m1 ?_
    refine G_iast (nx := 101) (k := 81) ⟨dX12_pairsAll_100, rfl⟩ q_81 (by first | assumption | decide) ?_
    refine G_iconst (nx := 102) ⟨dX12_pairsAll_101, rfl⟩ ci_0 ?_
    refine G_zret ⟨dX12_pairsAll_102, rfl⟩ rfl (by first | assumption | decide | exact bi_01 _) ?_
    rw [nI_le_iff (by omega) (by omega)] at c_20
    have hqe : q = n := by omega
    subst hqe
    refine hf _ (fun hE => ?_) (fun x hx => ?_) (hsb.w rfl)
    · obtain ⟨x, h1, h2, h3⟩ := (EM_step hf2).mp hE
      exact hno x (tb_ltn hc h1) h1 h2 h3
    · have hxp : ¬ x = fb hd := fun e => by rw [e, hf2] at hx; cases hx
      rw [ecp, w2_ne _ _ _ _ (by omega)]
      exact hpar x hx
  · rw [nI_le_iff (by omega) (by omega)] at c_20
    have hq : q < n := by omega
    have hq12 := in12 hq hn
    have ecq := cl_nI (p := q) (by omega)
    refine G_iload_2 (nx := 24) ⟨dX12_pairsAll_23, rfl⟩ ?_
    refine G_aload_0 (nx := 25) ⟨dX12_pairsAll_24, rfl⟩ ?_
    refine G_getr (nx := 28) (k := 75) (r := 78) ⟨dX12_pairsAll_25, rfl⟩ fX12_20 q_75 yr_12_4 (r_75_4 _) ?_
    refine G_iload_3 (nx := 29) ⟨dX12_pairsAll_28, rfl⟩ ?_
    refine G_iald (nx := 30) (k := 78) ⟨dX12_pairsAll_29, rfl⟩ q_78 (by first | assumption | decide) ?_
    rw [hG1.row hpn]
    refine G_iand (nx := 31) ⟨dX12_pairsAll_30, rfl⟩ ?_
    rw [nI_and]
    refine G_iload_4 (nx := 33) ⟨dX12_pairsAll_31, rfl⟩ ?_
    refine G_cs2 (nx := 36) ⟨dX12_pairsAll_33, rfl⟩ kX12_118 rfl rfl (Nat.le_of_ble_eq_true rfl) (Nat.le_of_ble_eq_true rfl) (cM_has (lt31 hand) (by omega) ?_)
    refine G_ifne (tgt := 42) (nx := 39) ⟨dX12_pairsAll_36, rfl⟩ rfl (fun c_36 => ?_) (fun c_36 => ?_)
    · rw [bi_n0, Nat.testBit_and, Bool.and_eq_true] at c_36
      obtain ⟨hqc, hqg⟩ := c_36
      have hqh : hd.testBit q = false := by
        cases e : hd.testBit q with
        | false => rfl
        | true => rw [hdis q e] at hqc; cases hqc
      have hqp : ¬ fb hd = q := fun e => by rw [e, hqh] at hf2; cases hf2
      refine G_aload_0 (nx := 43) ⟨dX12_pairsAll_42, rfl⟩ ?_
      refine G_getr (nx := 46) (k := 75) (r := 81) ⟨dX12_pairsAll_43, rfl⟩ fX12_29 q_75 yr_12_8 (r_75_8 _) ?_
      refine G_iload_3 (nx := 47) ⟨dX12_pairsAll_46, rfl⟩ ?_
      refine G_iload_4 (nx := 49) ⟨dX12_pairsAll_47, rfl⟩ ?_
      refine G_iast (nx := 50) (k := 81) ⟨dX12_pairsAll_49, rfl⟩ q_81 (by first | assumption | decide) ?_
      refine G_aload_0 (nx := 51) ⟨dX12_pairsAll_50, rfl⟩ ?_
      refine G_getr (nx := 54) (k := 75) (r := 81) ⟨dX12_pairsAll_51, rfl⟩ fX12_29 q_75 yr_12_8 (r_75_8 _) ?_
      refine G_iload_4 (nx := 56) ⟨dX12_pairsAll_54, rfl⟩ ?_
      refine G_iload_3 (nx := 57) ⟨dX12_pairsAll_56, rfl⟩ ?_
      refine G_iast (nx := 58) (k := 81) ⟨dX12_pairsAll_57, rfl⟩ q_81 (by first | assumption | decide) ?_
      refine G_aload_0 (nx := 59) ⟨dX12_pairsAll_58, rfl⟩ ?_
      refine G_iload_1 (nx := 60) ⟨dX12_pairsAll_59, rfl⟩ ?_
      refine G_iload_1 (nx := 61) ⟨dX12_pairsAll_60, rfl⟩ ?_
      refine G_iconst (nx := 62) ⟨dX12_pairsAll_61, rfl⟩ ci_1 ?_
      refine G_isub (nx := 63) ⟨dX12_pairsAll_62, rfl⟩ ?_
      refine G_iand (nx := 64) ⟨dX12_pairsAll_63, rfl⟩ ?_
      rw [show nI hd - 1 = nI (hd - 1) from by rw [show (1 : Int32) = nI 1 by decide, pk_sub (by omega)], nI_and, hf1]
      refine G_iload_2 (nx := 65) ⟨dX12_pairsAll_64, rfl⟩ ?_
      refine G_iconst (nx := 66) ⟨dX12_pairsAll_65, rfl⟩ ci_1 ?_
      refine G_iload_4 (nx := 68) ⟨dX12_pairsAll_66, rfl⟩ ?_
      refine G_ishl (nx := 69) ⟨dX12_pairsAll_68, rfl⟩ ?_
      refine G_iconst (nx := 70) ⟨dX12_pairsAll_69, rfl⟩ ci_m1 ?_
      refine G_ixor (nx := 71) ⟨dX12_pairsAll_70, rfl⟩ ?_
      refine G_iand (nx := 72) ⟨dX12_pairsAll_71, rfl⟩ ?_
      rw [one_shl (by omega), nI_df _ (by omega)]
      refine G_cv2 (nx := 75) ⟨dX12_pairsAll_72, rfl⟩ kX12_216 rfl q_75 rfl (Nat.le_of_ble_eq_true rfl) (Nat.le_of_ble_eq_true rfl) (hrec _ _ (df hd (2 ^ fb hd)) (df cr (2 ^ q)) ((hG1.w (by omega) (by omega)).w (by omega) (by omega)) (Nat.lt_of_le_of_lt (df_le _ _) hh) (Nat.lt_of_le_of_lt (df_le _ _) hc) (fun x hx => by rw [tb_del, hdis x (del_t.mp hx).1]; rfl) (by omega) (fun ma I3 hlm hr3 hp3 hsb3 => ?_) (fun I3 hnem hp3 hsb3 => ?_))
      · refine G_ifeq (tgt := 80) (nx := 78) ⟨dX12_pairsAll_75, rfl⟩ rfl (fun c_75 => ?_) (fun c_75 => ?_)
        · exact absurd c_75 (by decide)
        · refine G_iconst (nx := 79) ⟨dX12_pairsAll_78, rfl⟩ ci_1 ?_
          refine G_zret ⟨dX12_pairsAll_79, rfl⟩ rfl (by first | assumption | decide | exact bi_01 _) ?_
          have hok := LM_ok k _ _ (Nat.lt_of_le_of_lt (df_le _ _) hh4) (by omega) hlm
          have h3p : I3 81 (fb hd) = nI q := by
            rcases hp3 (fb hd) (by rw [tb_del]; simp) (fun h hh e => by
              have := (del_t.mp (hok.1 h hh).1).1
              rw [e, hpcr] at this; cases this) with e | e
            · rw [e, ecq, ecp, w2_ne _ _ _ _ (by omega), w2_at]
            · have := (del_t.mp e.1).1
              rw [hpcr] at this; cases this
          have h3q : I3 81 q = nI (fb hd) := by
            rcases hp3 q (by rw [tb_del, hqh]; rfl) (fun h hh e => (del_t.mp (hok.1 h hh).1).2 e) with e | e
            · rw [e, ecq, ecp, w2_at]
            · exact absurd rfl (del_t.mp e.1).2
          refine hs (upd1 ma (fb hd) q) I3 ⟨?_, ?_, ?_, ?_, ?_⟩ (fun h hh => ?_) (fun x hx hne => ?_) ((((hsb.w rfl).w rfl)).tr hsb3)
          · rw [upd1_at]; exact hqc
          · rw [upd1_at]; exact hqg
          · rw [upd1_at]; exact LM_EM (Nat.lt_of_le_of_lt (df_le _ _) hh4) (by omega) hlm
          · rw [upd1_at]; exact hno
          · rw [upd1_at]
            exact LM_congr k _ _ (Nat.lt_of_le_of_lt (df_le _ _) hh4) (by omega) (fun h hh => upd1_ne (del_t.mp hh).2) hlm
          · by_cases e : h = fb hd
            · rw [e, upd1_at]; exact ⟨h3p, h3q⟩
            · rw [upd1_ne e]; exact hr3 h (del_t.mpr ⟨hh, e⟩)
          · have hxp : ¬ x = fb hd := fun e => by rw [e, hf2] at hx; cases hx
            have hxq : ¬ x = q := fun e => hne (fb hd) hf2 (by rw [upd1_at, e])
            rcases hp3 x (by rw [tb_del, hx]; rfl) (fun h hh e => hne h (del_t.mp hh).1 (by rw [upd1_ne (del_t.mp hh).2]; exact e)) with e | e
            · rw [e, ecq, ecp, w2_ne _ _ _ _ (by omega), w2_ne _ _ _ _ (by omega)]
              exact hpar x hx
            · exact Or.inr ⟨(del_t.mp e.1).1, e.2⟩
      · refine G_ifeq (tgt := 80) (nx := 78) ⟨dX12_pairsAll_75, rfl⟩ rfl (fun c_75 => ?_) (fun c_75 => ?_)
        · refine G_aload_0 (nx := 81) ⟨dX12_pairsAll_80, rfl⟩ ?_
          refine G_getr (nx := 84) (k := 75) (r := 81) ⟨dX12_pairsAll_81, rfl⟩ fX12_29 q_75 yr_12_8 (r_75_8 _) ?_
          refine G_iload_4 (nx := 86) ⟨dX12_pairsAll_84, rfl⟩ ?_
          refine G_iconst (nx := 87) ⟨dX12_pairsAll_86, rfl⟩ ci_m1 ?_
          refine G_iast (nx := 88) (k := 81) ⟨dX12_pairsAll_87, rfl⟩ q_81 (by first | assumption | decide) ?_
          refine G_iinc_4 (nx := 91) ⟨dX12_pairsAll_88, rfl⟩ ci_1 rfl ?_
          refine G_goto (tgt := 14) ⟨dX12_pairsAll_91, rfl⟩ rfl ?_
          refine G_L (by rw [nI_1]) (ih (n - (q + 1)) (by omega) (q + 1) _ rfl (by omega) (fun x hx h1 h2 => ?_) (fun x hx => ?_) (((((hsb.w rfl).w rfl)).tr hsb3).w rfl))
          · by_cases e : x = q
            · subst e; exact hnem
            · exact hno x (by omega) h1 h2
          · rw [ecq]
            by_cases e : x = q
            · subst e; rw [w2_at]; exact Or.inr ⟨hqc, rfl⟩
            · have hxp : ¬ x = fb hd := fun e => by rw [e, hf2] at hx; cases hx
              rw [w2_ne _ _ _ _ (by omega)]
              rcases hp3 x (by rw [tb_del, hx]; rfl) with e' | e'
              · rw [e', ecq, ecp, w2_ne _ _ _ _ (by omega), w2_ne _ _ _ _ (by omega)]
                exact hpar x hx
              · exact Or.inr ⟨(del_t.mp e'.1).1, e'.2⟩
        · exact absurd rfl c_75
      
    · rw [bi_0, Nat.testBit_and] at c_36
      refine G_goto (tgt := 88) ⟨dX12_pairsAll_39, rfl⟩ rfl ?_
      refine G_iinc_4 (nx := 91) ⟨dX12_pairsAll_88, rfl⟩ ci_1 rfl ?_
      refine G_goto (tgt := 14) ⟨dX12_pairsAll_91, rfl⟩ rfl ?_
      refine G_L (by rw [nI_1]) (ih (n - (q + 1)) (by omega) (q + 1) I1 rfl (by omega) (fun x hx h1 h2 => ?_) hpar hsb)
      by_cases e : x = q
      · subst e; rw [h1, h2] at c_36; cases c_36
      · exact hno x (by omega) h1 h2

theorem cM_pairsAll : ∀ k, PaC l (d + k + 2) n gr J g k := by
  intro k
  induction k with
  | zero =>
    intro K I hd cr hG hh hc hdis hpc hs hf
    have h0 := pc_0 (Nat.lt_of_lt_of_le hh (pow12 hG.2.1)) hpc
    subst h0
    refine G_iload_1 (nx := 1) ⟨dX12_pairsAll_0, rfl⟩ ?_
    refine G_ifne (tgt := 6) (nx := 4) ⟨dX12_pairsAll_1, rfl⟩ rfl (fun c_1 => ?_) (fun c_1 => ?_)
    · exact absurd nI_0 c_1
    · refine G_iconst (nx := 5) ⟨dX12_pairsAll_4, rfl⟩ ci_1 ?_
      refine G_zret ⟨dX12_pairsAll_5, rfl⟩ rfl (by first | assumption | decide | exact bi_01 _) ?_
      exact hs (fun _ => 0) I trivial (fun h hh => by rw [Nat.zero_testBit] at hh; cases hh) (fun x _ _ => Or.inl rfl) sb.rf

  | succ k ih =>
    intro K I hd cr hG hh hc hdis hpc hs hf
    have hh4 : hd < 4096 := Nat.lt_of_lt_of_le hh (pow12 hG.2.1)
    have h0 : ¬ hd = 0 := fun e => by rw [e] at hpc; simp [pc_cn, cn_false] at hpc
    obtain ⟨hf1, hf2, hf3⟩ := fb_s hh4 h0
    refine G_iload_1 (nx := 1) ⟨dX12_pairsAll_0, rfl⟩ ?_
    refine G_ifne (tgt := 6) (nx := 4) ⟨dX12_pairsAll_1, rfl⟩ rfl (fun c_1 => ?_) (fun c_1 => ?_)
    · refine G_iload_1 (nx := 7) ⟨dX12_pairsAll_6, rfl⟩ ?_
      refine G_cs1 (nx := 10) ⟨dX12_pairsAll_7, rfl⟩ kX12_213 rfl rfl (Nat.le_of_ble_eq_true rfl) (Nat.le_of_ble_eq_true rfl) (cM_first hh4 hf2 hf3 ?_)
      refine G_istore_3 (nx := 11) ⟨dX12_pairsAll_10, rfl⟩ rfl rfl ?_
      refine G_iconst (nx := 12) ⟨dX12_pairsAll_11, rfl⟩ ci_0 ?_
      refine G_istore_4 (nx := 14) ⟨dX12_pairsAll_12, rfl⟩ rfl rfl ?_
      exact lM_pairsAll (D := d + (k + 1) + 1) ih ⟨d + (k + 1), rfl⟩ hG hh hc hdis hpc h0 hs hf _ 0 I rfl (Nat.zero_le _) (fun x hx => absurd hx (Nat.not_lt_zero _)) (fun x _ => Or.inl rfl) sb.rf
    · exact absurd ((nI_0iff (by omega)).mp c_1) h0

theorem lM_nextTo {s : Nat} (hG : MG I n gr) (hs4 : s < 4096) (hk : K (.int (nI (ntN n gr s))) I J (rX g)) : ∀ (k p : Nat), n - p = k → p ≤ n → G l (d + 1) mX12_nextTo K 4 [.ref 75, .int (nI s), .int (nI (ntN p gr s)), .int (nI p)] [] I J (rX g) := by
  intro k
  induction k using Nat.strongRecOn with
  | _ k ih =>
  intro p hpk hpn
  have hn := hG.2.1
  have e0 := hG.1
  refine G_iload_3 (nx := 5) ⟨dX12_nextTo_4, rfl⟩ ?_
  refine G_aload_0 (nx := 6) ⟨dX12_nextTo_5, rfl⟩ ?_
  refine G_geti (nx := 9) (k := 75) ⟨dX12_nextTo_6, rfl⟩ fX12_122 q_75 yi_12_0 ?_
  rw [e0]
  refine G_icmpge (tgt := 39) (nx := 12) ⟨dX12_nextTo_9, rfl⟩ rfl (fun c_9 => ?_) (fun c_9 => ?_)
  · refine G_iload_2 (nx := 40) ⟨dX12_nextTo_39, rfl⟩ ?_
    refine G_iret ⟨dX12_nextTo_40, rfl⟩ rfl ?_
    rw [nI_le_iff (by omega) (by omega)] at c_9
    have hpe : p = n := by omega
    subst hpe
    exact hk
  · rw [nI_le_iff (by omega) (by omega)] at c_9
    have hp : p < n := by omega
    have h12 := in12 hp hn
    have ecp := cl_nI (p := p) (by omega)
    refine G_iload_2 (nx := 13) ⟨dX12_nextTo_12, rfl⟩ ?_
    refine G_iload_1 (nx := 14) ⟨dX12_nextTo_13, rfl⟩ ?_
    refine G_iload_3 (nx := 15) ⟨dX12_nextTo_14, rfl⟩ ?_
    refine G_cs2 (nx := 18) ⟨dX12_nextTo_15, rfl⟩ kX12_118 rfl rfl (Nat.le_of_ble_eq_true rfl) (Nat.le_of_ble_eq_true rfl) (cM_has (lt31 hs4) (by omega) ?_)
    refine G_ifeq (tgt := 30) (nx := 21) ⟨dX12_nextTo_18, rfl⟩ rfl (fun c_18 => ?_) (fun c_18 => ?_)
    · rw [bi_0] at c_18
      refine G_iconst (nx := 31) ⟨dX12_nextTo_30, rfl⟩ ci_0 ?_
      refine G_ior (nx := 32) ⟨dX12_nextTo_31, rfl⟩ ?_
      refine G_istore_2 (nx := 33) ⟨dX12_nextTo_32, rfl⟩ rfl rfl ?_
      refine G_iinc_3 (nx := 36) ⟨dX12_nextTo_33, rfl⟩ ci_1 rfl ?_
      refine G_goto (tgt := 4) ⟨dX12_nextTo_36, rfl⟩ rfl ?_
      refine G_L ?_ (ih (n - (p + 1)) (by omega) (p + 1) rfl (by omega))
      have e : ntN (p + 1) gr s = ntN p gr s ||| (if s.testBit p = true then gr p else 0) := rfl
      rw [e, nI_1]
      first | (rw [if_pos c_18, nI_or]; done) | (rw [if_neg (by rw [c_18]; exact Bool.false_ne_true), ← nI_0, nI_or])
    · rw [bi_n0] at c_18
      refine G_aload_0 (nx := 22) ⟨dX12_nextTo_21, rfl⟩ ?_
      refine G_getr (nx := 25) (k := 75) (r := 78) ⟨dX12_nextTo_22, rfl⟩ fX12_20 q_75 yr_12_4 (r_75_4 _) ?_
      refine G_iload_3 (nx := 26) ⟨dX12_nextTo_25, rfl⟩ ?_
      refine G_iald (nx := 27) (k := 78) ⟨dX12_nextTo_26, rfl⟩ q_78 (by first | assumption | decide) ?_
      rw [hG.row hp]
      refine G_goto (tgt := 31) ⟨dX12_nextTo_27, rfl⟩ rfl ?_
      refine G_ior (nx := 32) ⟨dX12_nextTo_31, rfl⟩ ?_
      refine G_istore_2 (nx := 33) ⟨dX12_nextTo_32, rfl⟩ rfl rfl ?_
      refine G_iinc_3 (nx := 36) ⟨dX12_nextTo_33, rfl⟩ ci_1 rfl ?_
      refine G_goto (tgt := 4) ⟨dX12_nextTo_36, rfl⟩ rfl ?_
      refine G_L ?_ (ih (n - (p + 1)) (by omega) (p + 1) rfl (by omega))
      have e : ntN (p + 1) gr s = ntN p gr s ||| (if s.testBit p = true then gr p else 0) := rfl
      rw [e, nI_1]
      first | (rw [if_pos c_18, nI_or]; done) | (rw [if_neg (by rw [c_18]; exact Bool.false_ne_true), ← nI_0, nI_or])

theorem cM_nextTo {s : Nat} (hG : MG I n gr) (hs4 : s < 4096) (hk : K (.int (nI (ntN n gr s))) I J (rX g)) : G l (d + 1) mX12_nextTo K 0 [.ref 75, .int (nI s), UU, UU] [] I J (rX g) := by
  refine G_iconst (nx := 1) ⟨dX12_nextTo_0, rfl⟩ ci_0 ?_
  refine G_istore_2 (nx := 2) ⟨dX12_nextTo_1, rfl⟩ rfl rfl ?_
  refine G_iconst (nx := 3) ⟨dX12_nextTo_2, rfl⟩ ci_0 ?_
  refine G_istore_3 (nx := 4) ⟨dX12_nextTo_3, rfl⟩ rfl rfl ?_
  exact lM_nextTo hG hs4 hk _ 0 rfl (Nat.zero_le _)

theorem cM_isHeaded {s : Nat} (hG : MG I n gr) (hs : s < 2 ^ n) (hk : ∀ (I' : AI), sb fP I I' → K (.int (bi (crB n gr s))) I' J (rX g)) : G l (d + 15) mX12_isHeaded K 0 [.ref 75, .int (nI s), .int (nI (ntN n gr s))] [] I J (rX g) := by
  have hn := hG.2.1
  have hs4 : s < 4096 := Nat.lt_of_lt_of_le hs (pow12 hn)
  have hnt := ntN_lt hG.2.2.2 s n (Nat.le_refl _)
  have hnt4 : ntN n gr s < 4096 := Nat.lt_of_lt_of_le hnt (pow12 hn)
  have fls : ∀ I', sb fP I I' → (¬ (¬ s = 0 ∧ s &&& ntN n gr s = 0 ∧ EM gr (ntN n gr s) s)) → K (.int 0) I' J (rX g) := fun I' h1 h2 => by
    have := hk I' h1
    have e : crB n gr s = false := by
      cases e : crB n gr s with
      | false => rfl
      | true => exact absurd (crB_iff.mp e) h2
    rw [e] at this
    exact this
  refine G_iload_1 (nx := 1) ⟨dX12_isHeaded_0, rfl⟩ ?_
  refine G_ifeq (tgt := 23) (nx := 4) ⟨dX12_isHeaded_1, rfl⟩ rfl (fun c_1 => ?_) (fun c_1 => ?_)
  · refine G_iconst (nx := 24) ⟨dX12_isHeaded_23, rfl⟩ ci_0 ?_
    refine G_zret ⟨dX12_isHeaded_24, rfl⟩ rfl (by first | assumption | decide | exact bi_01 _) ?_
    exact fls I sb.rf (fun h => h.1 ((nI_0iff (by omega)).mp c_1))
  · refine G_iload_1 (nx := 5) ⟨dX12_isHeaded_4, rfl⟩ ?_
    refine G_iload_2 (nx := 6) ⟨dX12_isHeaded_5, rfl⟩ ?_
    refine G_iand (nx := 7) ⟨dX12_isHeaded_6, rfl⟩ ?_
    rw [nI_and]
    refine G_ifne (tgt := 23) (nx := 10) ⟨dX12_isHeaded_7, rfl⟩ rfl (fun c_7 => ?_) (fun c_7 => ?_)
    · refine G_iconst (nx := 24) ⟨dX12_isHeaded_23, rfl⟩ ci_0 ?_
      refine G_zret ⟨dX12_isHeaded_24, rfl⟩ rfl (by first | assumption | decide | exact bi_01 _) ?_
      rw [nI_0iff (Nat.lt_of_le_of_lt Nat.and_le_left (by omega))] at c_7
      exact fls I sb.rf (fun h => c_7 h.2.1)
    · rw [nI_0iff (Nat.lt_of_le_of_lt Nat.and_le_left (by omega))] at c_7
      have hpl := pc_le (ntN n gr s)
      refine G_aload_0 (nx := 11) ⟨dX12_isHeaded_10, rfl⟩ ?_
      refine G_iload_2 (nx := 12) ⟨dX12_isHeaded_11, rfl⟩ ?_
      refine G_iload_1 (nx := 13) ⟨dX12_isHeaded_12, rfl⟩ ?_
      refine G_cv2 (nx := 16) ⟨dX12_isHeaded_13, rfl⟩ kX12_216 rfl q_75 rfl (Nat.le_of_ble_eq_true rfl) (Nat.le_of_ble_eq_true rfl) (G_d (show d + 14 = (d + (12 - pc (ntN n gr s))) + pc (ntN n gr s) + 2 by omega) (cM_pairsAll (pc (ntN n gr s)) _ _ (ntN n gr s) s hG hnt hs (fun x hx => ?_) rfl (fun ma I1 hlm hr hp hsb => ?_) (fun I1 hnem hp hsb => ?_)))
      · have := congrArg (fun a : Nat => a.testBit x) c_7
        simp only [Nat.testBit_and, hx, Bool.and_true, Nat.zero_testBit] at this
        exact this
      · refine G_ifeq (tgt := 23) (nx := 19) ⟨dX12_isHeaded_16, rfl⟩ rfl (fun c_16 => ?_) (fun c_16 => ?_)
        · exact absurd c_16 (by decide)
        · refine G_iconst (nx := 20) ⟨dX12_isHeaded_19, rfl⟩ ci_1 ?_
          refine G_goto (tgt := 24) ⟨dX12_isHeaded_20, rfl⟩ rfl ?_
          refine G_zret ⟨dX12_isHeaded_24, rfl⟩ rfl (by first | assumption | decide | exact bi_01 _) ?_
          have := hk I1 hsb
          rw [crB_iff.mpr ⟨fun e => c_1 (by rw [e]; exact nI_0), c_7, LM_EM hnt4 rfl hlm⟩] at this
          exact this
      · refine G_ifeq (tgt := 23) (nx := 19) ⟨dX12_isHeaded_16, rfl⟩ rfl (fun c_16 => ?_) (fun c_16 => ?_)
        · refine G_iconst (nx := 24) ⟨dX12_isHeaded_23, rfl⟩ ci_0 ?_
          refine G_zret ⟨dX12_isHeaded_24, rfl⟩ rfl (by first | assumption | decide | exact bi_01 _) ?_
          exact fls I1 hsb (fun h => hnem h.2.2)
        · exact absurd rfl c_16
      

theorem cM_isCrown {q : Int32} (hG : MG I n gr) (hk1 : stB n q = false → K (.int (-2)) I J (rX g)) (hk : ∀ (s : Nat) (I' : AI), s < 2 ^ n → q = nI s → sb fP I I' → K (.int (bi (crB n gr s))) I' J (rX g)) : G l (d + 16) mX12_isCrown K 0 [.ref 75, .int q] [] I J (rX g) := by
  refine G_aload_0 (nx := 1) ⟨dX12_isCrown_0, rfl⟩ ?_
  refine G_iload_1 (nx := 2) ⟨dX12_isCrown_1, rfl⟩ ?_
  refine G_cv1 (nx := 5) ⟨dX12_isCrown_2, rfl⟩ kX12_171 rfl q_75 rfl (Nat.le_of_ble_eq_true rfl) (Nat.le_of_ble_eq_true rfl) (cM_isSet hG ?_)
  refine G_ifne (tgt := 13) (nx := 8) ⟨dX12_isCrown_5, rfl⟩ rfl (fun c_5 => ?_) (fun c_5 => ?_)
  · rw [bi_n0] at c_5
    obtain ⟨s, hs, es⟩ := stB_ex hG.2.1 c_5
    subst es
    refine G_aload_0 (nx := 14) ⟨dX12_isCrown_13, rfl⟩ ?_
    refine G_iload_1 (nx := 15) ⟨dX12_isCrown_14, rfl⟩ ?_
    refine G_aload_0 (nx := 16) ⟨dX12_isCrown_15, rfl⟩ ?_
    refine G_iload_1 (nx := 17) ⟨dX12_isCrown_16, rfl⟩ ?_
    refine G_cv1 (nx := 20) ⟨dX12_isCrown_17, rfl⟩ kX12_219 rfl q_75 rfl (Nat.le_of_ble_eq_true rfl) (Nat.le_of_ble_eq_true rfl) (cM_nextTo hG (Nat.lt_of_lt_of_le hs (pow12 hG.2.1)) ?_)
    refine G_cv2 (nx := 23) ⟨dX12_isCrown_20, rfl⟩ kX12_222 rfl q_75 rfl (Nat.le_of_ble_eq_true rfl) (Nat.le_of_ble_eq_true rfl) (cM_isHeaded hG hs (fun I1 hs1 => ?_))
    refine G_ifeq (tgt := 30) (nx := 26) ⟨dX12_isCrown_23, rfl⟩ rfl (fun c_23 => ?_) (fun c_23 => ?_)
    · refine G_iconst (nx := 31) ⟨dX12_isCrown_30, rfl⟩ ci_0 ?_
      refine G_iret ⟨dX12_isCrown_31, rfl⟩ rfl ?_
      first | rw [bi_n0] at c_23 | rw [bi_0] at c_23
      have := hk s I1 hs rfl hs1
      rw [c_23] at this
      exact this
    · refine G_iconst (nx := 27) ⟨dX12_isCrown_26, rfl⟩ ci_1 ?_
      refine G_goto (tgt := 31) ⟨dX12_isCrown_27, rfl⟩ rfl ?_
      refine G_iret ⟨dX12_isCrown_31, rfl⟩ rfl ?_
      first | rw [bi_n0] at c_23 | rw [bi_0] at c_23
      have := hk s I1 hs rfl hs1
      rw [c_23] at this
      exact this
  · rw [bi_0] at c_5
    refine G_bipush (nx := 10) ⟨dX12_isCrown_8, rfl⟩ cb_m2 ?_
    refine G_goto (tgt := 31) ⟨dX12_isCrown_10, rfl⟩ rfl ?_
    refine G_iret ⟨dX12_isCrown_31, rfl⟩ rfl ?_
    exact hk1 c_5

theorem lM_crowns {q : Int32} (hG : MG I n gr) (hq : inR q 0 2 = true) (hk : ∀ (I' : AI), sb fP I I' → K (.int (if q = 0 then nI (crN n gr).1 else if (crN n gr).1 = 0 then -1 else if q = 1 then nI (crN n gr).2 else nI (ntN n gr (crN n gr).2))) I' J (rX g)) : ∀ (k s : Nat) (I1 : AI), 2 ^ n - s = k → s ≤ 2 ^ n → sb fP I I1 → G l (d + 16) mX12_crowns K 19 [.ref 75, .int q, .int (nI (lp (crF n gr) s (0, 0)).1), .int (nI (lp (crF n gr) s (0, 0)).2), .int (nI s)] [] I1 J (rX g) := by
  intro k
  induction k using Nat.strongRecOn with
  | _ k ih =>
  intro s I1 hsk hsn hsb
  have hn := hG.2.1
  have hG1 : MG I1 n gr := hG.sb hsb rfl (fun _ => rfl)
  have hp2 := pow12 hn
  have h1p : 0 < 2 ^ n := Nat.two_pow_pos n
  obtain ⟨hle1, hle2⟩ := crF_le n gr s
  refine G_iload_4 (nx := 21) ⟨dX12_crowns_19, rfl⟩ ?_
  refine G_aload_0 (nx := 22) ⟨dX12_crowns_21, rfl⟩ ?_
  refine G_cv0 (nx := 25) ⟨dX12_crowns_22, rfl⟩ kX12_129 rfl q_75 rfl (Nat.le_of_ble_eq_true rfl) (Nat.le_of_ble_eq_true rfl) (cM_all hG1 ?_)
  refine G_icmpgt (tgt := 74) (nx := 28) ⟨dX12_crowns_25, rfl⟩ rfl (fun c_25 => ?_) (fun c_25 => ?_)
  · refine G_iload_1 (nx := 75) ⟨dX12_crowns_74, rfl⟩ ?_
    refine G_ifne (tgt := 82) (nx := 78) ⟨dX12_crowns_75, rfl⟩ rfl (fun c_75 => ?_) (fun c_75 => ?_)
    · refine G_iload_2 (nx := 83) ⟨dX12_crowns_82, rfl⟩ ?_
      refine G_ifne (tgt := 90) (nx := 86) ⟨dX12_crowns_83, rfl⟩ rfl (fun c_83 => ?_) (fun c_83 => ?_)
      · refine G_iload_1 (nx := 91) ⟨dX12_crowns_90, rfl⟩ ?_
        refine G_iconst (nx := 92) ⟨dX12_crowns_91, rfl⟩ ci_1 ?_
        refine G_icmpne (tgt := 99) (nx := 95) ⟨dX12_crowns_92, rfl⟩ rfl (fun c_92 => ?_) (fun c_92 => ?_)
        · refine G_aload_0 (nx := 100) ⟨dX12_crowns_99, rfl⟩ ?_
          refine G_iload_3 (nx := 101) ⟨dX12_crowns_100, rfl⟩ ?_
          refine G_cv1 (nx := 104) ⟨dX12_crowns_101, rfl⟩ kX12_219 rfl q_75 rfl (Nat.le_of_ble_eq_true rfl) (Nat.le_of_ble_eq_true rfl) (cM_nextTo hG1 (by omega) ?_)
          refine G_iret ⟨dX12_crowns_104, rfl⟩ rfl ?_
          rw [nI_lt_iff (by omega) (by omega)] at c_25
          have hse : s = 2 ^ n := by omega
          subst hse
          refine K_v (congrArg Value.int ?_) (hk I1 hsb)
          rw [nI_0iff (by omega)] at c_83
          rw [if_neg c_75, if_neg (show ¬ (crN n gr).1 = 0 from c_83)]
          first | (rw [if_pos c_92]; rfl) | (rw [if_neg c_92]; rfl)
        · refine G_iload_3 (nx := 96) ⟨dX12_crowns_95, rfl⟩ ?_
          refine G_goto (tgt := 104) ⟨dX12_crowns_96, rfl⟩ rfl ?_
          refine G_iret ⟨dX12_crowns_104, rfl⟩ rfl ?_
          rw [nI_lt_iff (by omega) (by omega)] at c_25
          have hse : s = 2 ^ n := by omega
          subst hse
          refine K_v (congrArg Value.int ?_) (hk I1 hsb)
          rw [nI_0iff (by omega)] at c_83
          rw [if_neg c_75, if_neg (show ¬ (crN n gr).1 = 0 from c_83)]
          first | (rw [if_pos c_92]; rfl) | (rw [if_neg c_92]; rfl)
      · refine G_iconst (nx := 87) ⟨dX12_crowns_86, rfl⟩ ci_m1 ?_
        refine G_goto (tgt := 104) ⟨dX12_crowns_87, rfl⟩ rfl ?_
        refine G_iret ⟨dX12_crowns_104, rfl⟩ rfl ?_
        rw [nI_lt_iff (by omega) (by omega)] at c_25
        have hse : s = 2 ^ n := by omega
        subst hse
        refine K_v (congrArg Value.int ?_) (hk I1 hsb)
        rw [nI_0iff (by omega)] at c_83
        rw [if_neg c_75, if_pos (show (crN n gr).1 = 0 from c_83)]
    · refine G_iload_2 (nx := 79) ⟨dX12_crowns_78, rfl⟩ ?_
      refine G_goto (tgt := 104) ⟨dX12_crowns_79, rfl⟩ rfl ?_
      refine G_iret ⟨dX12_crowns_104, rfl⟩ rfl ?_
      rw [nI_lt_iff (by omega) (by omega)] at c_25
      have hse : s = 2 ^ n := by omega
      subst hse
      refine K_v (congrArg Value.int ?_) (hk I1 hsb)
      rw [c_75]
      rfl
  · rw [nI_lt_iff (by omega) (by omega)] at c_25
    have hs : s < 2 ^ n := by omega
    have hs4 : s < 4096 := by omega
    have hpc := pc_le s
    refine G_aload_0 (nx := 29) ⟨dX12_crowns_28, rfl⟩ ?_
    refine G_iload_4 (nx := 31) ⟨dX12_crowns_29, rfl⟩ ?_
    refine G_aload_0 (nx := 32) ⟨dX12_crowns_31, rfl⟩ ?_
    refine G_iload_4 (nx := 34) ⟨dX12_crowns_32, rfl⟩ ?_
    refine G_cv1 (nx := 37) ⟨dX12_crowns_34, rfl⟩ kX12_219 rfl q_75 rfl (Nat.le_of_ble_eq_true rfl) (Nat.le_of_ble_eq_true rfl) (cM_nextTo hG1 hs4 ?_)
    refine G_cv2 (nx := 40) ⟨dX12_crowns_37, rfl⟩ kX12_222 rfl q_75 rfl (Nat.le_of_ble_eq_true rfl) (Nat.le_of_ble_eq_true rfl) (cM_isHeaded hG1 hs (fun I2 hs2 => ?_))
    refine G_ifne (tgt := 46) (nx := 43) ⟨dX12_crowns_40, rfl⟩ rfl (fun c_40 => ?_) (fun c_40 => ?_)
    · rw [bi_n0] at c_40
      have hfl : (lp (crF n gr) s (0, 0)).2 < 4096 := by omega
      have hpc2 := pc_le (lp (crF n gr) s (0, 0)).2
      refine G_iinc_2 (nx := 49) ⟨dX12_crowns_46, rfl⟩ ci_1 rfl ?_
      refine G_iload_4 (nx := 51) ⟨dX12_crowns_49, rfl⟩ ?_
      refine G_cs1 (nx := 54) ⟨dX12_crowns_51, rfl⟩ kX12_133 rfl rfl (Nat.le_of_ble_eq_true rfl) (Nat.le_of_ble_eq_true rfl) (cM_bits hs4 ?_)
      refine G_iload_3 (nx := 55) ⟨dX12_crowns_54, rfl⟩ ?_
      refine G_cs1 (nx := 58) ⟨dX12_crowns_55, rfl⟩ kX12_133 rfl rfl (Nat.le_of_ble_eq_true rfl) (Nat.le_of_ble_eq_true rfl) (cM_bits hfl ?_)
      refine G_icmple (tgt := 66) (nx := 61) ⟨dX12_crowns_58, rfl⟩ rfl (fun c_58 => ?_) (fun c_58 => ?_)
      · refine G_iload_3 (nx := 67) ⟨dX12_crowns_66, rfl⟩ ?_
        refine G_istore_3 (nx := 68) ⟨dX12_crowns_67, rfl⟩ rfl rfl ?_
        refine G_iinc_4 (nx := 71) ⟨dX12_crowns_68, rfl⟩ ci_1 rfl ?_
        refine G_goto (tgt := 19) ⟨dX12_crowns_71, rfl⟩ rfl ?_
        refine G_L ?_ (ih (2 ^ n - (s + 1)) (by omega) (s + 1) I2 rfl (by omega) (hsb.tr hs2))
        rw [nI_le_iff (by omega) (by omega)] at c_58
        simp only [lp_s, crF, c_40, if_true, nI_1]
        first | (rw [if_pos (by omega)]; done) | rw [if_neg (by omega)]
      · refine G_iload_4 (nx := 63) ⟨dX12_crowns_61, rfl⟩ ?_
        refine G_goto (tgt := 67) ⟨dX12_crowns_63, rfl⟩ rfl ?_
        refine G_istore_3 (nx := 68) ⟨dX12_crowns_67, rfl⟩ rfl rfl ?_
        refine G_iinc_4 (nx := 71) ⟨dX12_crowns_68, rfl⟩ ci_1 rfl ?_
        refine G_goto (tgt := 19) ⟨dX12_crowns_71, rfl⟩ rfl ?_
        refine G_L ?_ (ih (2 ^ n - (s + 1)) (by omega) (s + 1) I2 rfl (by omega) (hsb.tr hs2))
        rw [nI_le_iff (by omega) (by omega)] at c_58
        simp only [lp_s, crF, c_40, if_true, nI_1]
        first | (rw [if_pos (by omega)]; done) | rw [if_neg (by omega)]
    · rw [bi_0] at c_40
      refine G_goto (tgt := 68) ⟨dX12_crowns_43, rfl⟩ rfl ?_
      refine G_iinc_4 (nx := 71) ⟨dX12_crowns_68, rfl⟩ ci_1 rfl ?_
      refine G_goto (tgt := 19) ⟨dX12_crowns_71, rfl⟩ rfl ?_
      refine G_L ?_ (ih (2 ^ n - (s + 1)) (by omega) (s + 1) I2 rfl (by omega) (hsb.tr hs2))
      simp [lp_s, crF, c_40, nI_1]

theorem cM_crowns {q : Int32} (hG : MG I n gr) (hk1 : inR q 0 2 = false → K (.int (-2)) I J (rX g)) (hk : inR q 0 2 = true → ∀ (I' : AI), sb fP I I' → K (.int (if q = 0 then nI (crN n gr).1 else if (crN n gr).1 = 0 then -1 else if q = 1 then nI (crN n gr).2 else nI (ntN n gr (crN n gr).2))) I' J (rX g)) : G l (d + 16) mX12_crowns K 0 [.ref 75, .int q, UU, UU, UU] [] I J (rX g) := by
  refine G_iload_1 (nx := 1) ⟨dX12_crowns_0, rfl⟩ ?_
  refine G_iconst (nx := 2) ⟨dX12_crowns_1, rfl⟩ ci_0 ?_
  refine G_iconst (nx := 3) ⟨dX12_crowns_2, rfl⟩ ci_2 ?_
  refine G_cs3 (nx := 6) ⟨dX12_crowns_3, rfl⟩ kX12_125 rfl rfl (Nat.le_of_ble_eq_true rfl) (Nat.le_of_ble_eq_true rfl) (cM_in ?_)
  refine G_ifne (tgt := 12) (nx := 9) ⟨dX12_crowns_6, rfl⟩ rfl (fun c_6 => ?_) (fun c_6 => ?_)
  · rw [bi_n0] at c_6
    refine G_iconst (nx := 13) ⟨dX12_crowns_12, rfl⟩ ci_0 ?_
    refine G_istore_2 (nx := 14) ⟨dX12_crowns_13, rfl⟩ rfl rfl ?_
    refine G_iconst (nx := 15) ⟨dX12_crowns_14, rfl⟩ ci_0 ?_
    refine G_istore_3 (nx := 16) ⟨dX12_crowns_15, rfl⟩ rfl rfl ?_
    refine G_iconst (nx := 17) ⟨dX12_crowns_16, rfl⟩ ci_1 ?_
    refine G_istore_4 (nx := 19) ⟨dX12_crowns_17, rfl⟩ rfl rfl ?_
    have e1 : lp (crF n gr) 1 (0, 0) = (0, 0) := by
      have : crB n gr 0 = false := by
        cases e : crB n gr 0 with
        | false => rfl
        | true => exact absurd rfl (crB_iff.mp e).1
      simp [lp, crF, this]
    have := lM_crowns (l := l) (d := d) hG c_6 (hk c_6) _ 1 I rfl (Nat.two_pow_pos n) sb.rf
    rw [e1] at this
    exact this
  · rw [bi_0] at c_6
    refine G_bipush (nx := 11) ⟨dX12_crowns_9, rfl⟩ cb_m2 ?_
    refine G_iret ⟨dX12_crowns_11, rfl⟩ rfl ?_
    exact hk1 c_6

theorem cM_degree {p P : Nat} (hG : MG I n gr) (hp : p < n) (hP : P < 4096) (hk : K (.int (nI (pc (gr p &&& P)))) I J (rX g)) : G l (d + 1) mX12_degree K 0 [.ref 75, .int (nI p), .int (nI P)] [] I J (rX g) := by
  have h12 := in12 hp hG.2.1
  refine G_aload_0 (nx := 1) ⟨dX12_degree_0, rfl⟩ ?_
  refine G_getr (nx := 4) (k := 75) (r := 78) ⟨dX12_degree_1, rfl⟩ fX12_20 q_75 yr_12_4 (r_75_4 _) ?_
  refine G_iload_1 (nx := 5) ⟨dX12_degree_4, rfl⟩ ?_
  refine G_iald (nx := 6) (k := 78) ⟨dX12_degree_5, rfl⟩ q_78 (by first | assumption | decide) ?_
  rw [hG.row hp]
  refine G_iload_2 (nx := 7) ⟨dX12_degree_6, rfl⟩ ?_
  refine G_iand (nx := 8) ⟨dX12_degree_7, rfl⟩ ?_
  rw [nI_and]
  refine G_cs1 (nx := 11) ⟨dX12_degree_8, rfl⟩ kX12_133 rfl rfl (Nat.le_of_ble_eq_true rfl) (Nat.le_of_ble_eq_true rfl) (cM_bits (Nat.lt_of_le_of_lt Nat.and_le_right hP) ?_)
  refine G_iret ⟨dX12_degree_11, rfl⟩ rfl ?_
  exact hk

end M26
