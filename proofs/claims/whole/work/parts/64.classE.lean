
theorem covB_iff {gr : Nat → Nat} {s : Nat} : ∀ n, covB n gr s = true ↔ ∀ p, p < n → s.testBit p = true ∨ df (gr p) s = 0 := by
  intro n
  unfold covB
  induction n with
  | zero => exact ⟨fun _ p hp => absurd hp (by omega), fun _ => rfl⟩
  | succ n ih =>
    rw [lp_s, cvF, Bool.and_eq_true, ih, Bool.or_eq_true, decide_eq_true_eq]
    constructor
    · intro h p hp
      by_cases e : p = n
      · rw [e]; exact h.2
      · exact h.1 p (by omega)
    · intro h
      exact ⟨fun p hp => h p (by omega), h n (by omega)⟩
theorem ndB_iff {gr : Nat → Nat} {s : Nat} : ∀ n, ndB n gr s = true ↔ ∀ p, p < n → s.testBit p = false ∨ ¬ df (gr p) s = 0 := by
  intro n
  unfold ndB
  induction n with
  | zero => exact ⟨fun _ p hp => absurd hp (by omega), fun _ => rfl⟩
  | succ n ih =>
    rw [lp_s, brF, Bool.and_eq_true, ih, Bool.or_eq_true, Bool.not_eq_true', Bool.not_eq_true', decide_eq_false_iff_not]
    constructor
    · intro h p hp
      by_cases e : p = n
      · rw [e]; exact h.2
      · exact h.1 p (by omega)
    · intro h
      exact ⟨fun p hp => h p (by omega), h n (by omega)⟩
theorem df_0 {a b : Nat} : df a b = 0 ↔ ∀ x, a.testBit x = true → b.testBit x = true := by
  constructor
  · intro h x hx
    have := congrArg (fun y : Nat => y.testBit x) h
    simp only [tb_df, hx, Nat.zero_testBit, Bool.true_and] at this
    simpa using this
  · intro h
    apply Nat.eq_of_testBit_eq
    intro x
    rw [tb_df, Nat.zero_testBit]
    cases q : a.testBit x with
    | false => rfl
    | true => rw [h x q]; rfl
theorem and_0 {a b : Nat} : a &&& b = 0 ↔ ∀ x, a.testBit x = true → b.testBit x = false := by
  constructor
  · intro h x hx
    have := congrArg (fun y : Nat => y.testBit x) h
    simp only [Nat.testBit_and, hx, Nat.zero_testBit, Bool.true_and] at this
    exact this
  · intro h
    apply Nat.eq_of_testBit_eq
    intro x
    rw [Nat.testBit_and, Nat.zero_testBit]
    cases q : a.testBit x with
    | false => rfl
    | true => rw [h x q]; rfl
/-- the others -/
def cp (n s : Nat) : Nat := (2 ^ n - 1) ^^^ s
theorem cp_tb {n s : Nat} (hs : s < 2 ^ n) (x : Nat) : (cp n s).testBit x = (decide (x < n) && !s.testBit x) := by
  unfold cp
  rw [Nat.testBit_xor, Nat.testBit_two_pow_sub_one]
  by_cases h : x < n
  · simp [h]
  · have : s.testBit x = false := by
      cases q : s.testBit x with
      | false => rfl
      | true => exact absurd (tb_ltn hs q) h
    simp [h, this]
theorem cp_lt {n s : Nat} (hs : s < 2 ^ n) : cp n s < 2 ^ n := by
  apply Nat.lt_pow_two_of_testBit
  intro i hi
  rw [cp_tb hs]
  simp
  omega
theorem nt_cov {n : Nat} {gr : Nat → Nat} {s : Nat} (hg : ∀ p, p < n → gr p < 2 ^ n) (hs : s < 2 ^ n) : ntN n gr (cp n s) &&& cp n s = 0 ↔ covB n gr s = true := by
  rw [and_0, covB_iff]
  constructor
  · intro h p hp
    cases q : s.testBit p with
    | true => exact Or.inl rfl
    | false =>
      refine Or.inr (df_0.mpr (fun x hx => ?_))
      have h1 := h x ((ntN_tb gr _ x n).mpr ⟨p, hp, by rw [cp_tb hs]; simp [hp, q], hx⟩)
      rw [cp_tb hs, decide_eq_true (tb_ltn (hg p hp) hx)] at h1
      simpa using h1
  · intro h x hx
    obtain ⟨p, hp, h1, h2⟩ := (ntN_tb gr _ x n).mp hx
    rw [cp_tb hs, decide_eq_true hp] at h1
    rw [cp_tb hs]
    rcases h p hp with h3 | h3
    · rw [h3] at h1; cases h1
    · rw [df_0.mp h3 x h2]; simp
theorem nt_bar {n : Nat} {gr : Nat → Nat} {s : Nat} (hW : WG n gr) (hs : s < 2 ^ n) : ntN n gr (cp n s) = s ↔ barB n gr s = true := by
  rw [ndB_bar, Bool.and_eq_true, ← nt_cov hW.1 hs, ndB_iff]
  constructor
  · intro h
    refine ⟨?_, fun p hp => ?_⟩
    · rw [h, and_0]
      intro x hx
      rw [cp_tb hs, hx]; simp
    · cases q : s.testBit p with
      | false => exact Or.inl rfl
      | true =>
        refine Or.inr (fun h0 => ?_)
        rw [← h] at q
        obtain ⟨r, hr, h1, h2⟩ := (ntN_tb gr _ p n).mp q
        rw [hW.2.2 r p hr hp] at h2
        rw [cp_tb hs, df_0.mp h0 r h2] at h1
        simp at h1
  · rintro ⟨h1, h2⟩
    apply Nat.eq_of_testBit_eq
    intro x
    apply Bool.eq_iff_iff.mpr
    constructor
    · intro hx
      have hxn : x < n := tb_ltn (ntN_lt hW.1 _ n (Nat.le_refl n)) hx
      have := and_0.mp h1 x hx
      rw [cp_tb hs, decide_eq_true hxn] at this
      simpa using this
    · intro hx
      have hxn : x < n := tb_ltn hs hx
      rcases h2 x hxn with h3 | h3
      · rw [hx] at h3; cases h3
      · have : ∃ r, (gr x).testBit r = true ∧ s.testBit r = false := by
          apply Classical.byContradiction
          intro hc
          apply h3
          rw [df_0]
          intro r hr
          cases q : s.testBit r with
          | true => rfl
          | false => exact absurd ⟨r, hr, q⟩ hc
        obtain ⟨r, hr1, hr2⟩ := this
        have hrn : r < n := tb_ltn (hW.1 x hxn) hr1
        exact (ntN_tb gr _ x n).mpr ⟨r, hrn, by rw [cp_tb hs]; simp [hrn, hr2], by rw [hW.2.2 r x hrn hxn]; exact hr1⟩
theorem nt_step {n : Nat} {gr : Nat → Nat} {s : Nat} (hn : n ≤ 12) (hs : s < 2 ^ n) (h0 : ¬ s = 0) : ntN n gr s = ntN n gr (df s (2 ^ fb s)) ||| gr (fb s) := by
  obtain ⟨f1, f2, f3⟩ := fb_s (Nat.lt_of_lt_of_le hs (pow12 hn)) h0
  apply Nat.eq_of_testBit_eq
  intro x
  apply Bool.eq_iff_iff.mpr
  rw [Nat.testBit_or, Bool.or_eq_true, ntN_tb, ntN_tb]
  constructor
  · rintro ⟨p, h1, h2, h3⟩
    by_cases e : p = fb s
    · rw [e] at h3; exact Or.inr h3
    · exact Or.inl ⟨p, h1, del_t.mpr ⟨h2, e⟩, h3⟩
  · rintro (⟨p, h1, h2, h3⟩ | h)
    · exact ⟨p, h1, (del_t.mp h2).1, h3⟩
    · exact ⟨fb s, tb_ltn hs f2, f2, h⟩
theorem nt_0 (n : Nat) (gr : Nat → Nat) : ntN n gr 0 = 0 := by
  apply Nat.eq_of_testBit_eq
  intro x
  rw [Nat.zero_testBit]
  cases q : (ntN n gr 0).testBit x with
  | false => rfl
  | true =>
    obtain ⟨p, -, h, -⟩ := (ntN_tb gr 0 x n).mp q
    rw [Nat.zero_testBit] at h
    cases h
/-- the row that spread leaves -/
def SP (I : AI) (n : Nat) (gr : Nat → Nat) : Prop := ∀ s, s < 2 ^ n → I 21 s = nI (ntN n gr s)
section X64
variable {l : Launch} {d : Nat} {K : AK} {I : AI} {J : AJ} {g : Bool} {n : Nat} {gr : Nat → Nat}

theorem lC_spread (hX : XG I 1 4 n gr) (hk : ∀ (I' : AI), SP I' n gr → sb (fE 21) I I' → K .null I' J (rX g)) : ∀ (k s : Nat) (I1 : AI), 2 ^ n - s = k → 0 < s → s ≤ 2 ^ n → (∀ t, t < s → I1 21 t = nI (ntN n gr t)) → sb (fE 21) I I1 → G l (d + 1) mX0_spread K 14 [.ref 22, .ref 1, .int (nI (2 ^ n - 1)), .int (nI s)] [] I1 J (rX g) := by
  intro k
  induction k using Nat.strongRecOn with
  | _ k ih =>
  intro s I1 hsk h0 hsn hrow hs1
  have hn := hX.2.1
  have hp12 := pow12 hn
  have hR1 : RG I1 4 n gr := hX.2.sb hs1 (fun _ => rfl)
  refine G_iload_3 (nx := 15) ⟨dX0_spread_14, rfl⟩ ?_
  refine G_iload_2 (nx := 16) ⟨dX0_spread_15, rfl⟩ ?_
  refine G_icmpgt (tgt := 51) (nx := 19) ⟨dX0_spread_16, rfl⟩ rfl (fun c_16 => ?_) (fun c_16 => ?_)
  · refine G_vret ⟨dX0_spread_51, rfl⟩ rfl ?_
    rw [nI_lt_iff (by omega) (by omega)] at c_16
    have e : s = 2 ^ n := by omega
    subst e
    exact hk I1 hrow hs1
  · rw [nI_lt_iff (by omega) (by omega)] at c_16
    have hs : s < 2 ^ n := by omega
    have hs4 : s < 4096 := by omega
    have hi5 := in4k hs4
    have ec5 := cl_nI (p := s) (by omega)
    obtain ⟨f1, f2, f3⟩ := fb_s hs4 (by omega)
    have hfl : fb s < n := tb_ltn hs f2
    have h12 := in12 hfl hn
    have e1 : nI s - 1 = nI (s - 1) := by
      obtain ⟨b, rfl⟩ : ∃ b, s = b + 1 := ⟨s - 1, by omega⟩
      exact nI_pred b
    have hrl : df s (2 ^ fb s) < s := by rw [← f1]; exact and_pred_lt (by omega)
    have hi6 := in4k (show df s (2 ^ fb s) < 4096 by omega)
    have ec6 := cl_nI (p := df s (2 ^ fb s)) (by omega)
    refine G_aload_0 (nx := 20) ⟨dX0_spread_19, rfl⟩ ?_
    refine G_getr (nx := 23) (k := 22) (r := 21) ⟨dX0_spread_20, rfl⟩ fX0_31 q_22 yr_0_0 (r_22_0 _) ?_
    refine G_iload_3 (nx := 24) ⟨dX0_spread_23, rfl⟩ ?_
    refine G_aload_0 (nx := 25) ⟨dX0_spread_24, rfl⟩ ?_
    refine G_getr (nx := 28) (k := 22) (r := 21) ⟨dX0_spread_25, rfl⟩ fX0_31 q_22 yr_0_0 (r_22_0 _) ?_
    refine G_iload_3 (nx := 29) ⟨dX0_spread_28, rfl⟩ ?_
    refine G_iload_3 (nx := 30) ⟨dX0_spread_29, rfl⟩ ?_
    refine G_iconst (nx := 31) ⟨dX0_spread_30, rfl⟩ ci_1 ?_
    refine G_isub (nx := 32) ⟨dX0_spread_31, rfl⟩ ?_
    refine G_iand (nx := 33) ⟨dX0_spread_32, rfl⟩ ?_
    rw [e1, nI_and, f1]
    refine G_iald (nx := 34) (k := 21) ⟨dX0_spread_33, rfl⟩ q_21 (by first | assumption | decide | (unfold vp_in; decide)) ?_
    rw [ec6, hrow _ hrl]
    refine G_aload_1 (nx := 35) ⟨dX0_spread_34, rfl⟩ ?_
    refine G_getr (nx := 38) (k := 1) (r := 4) ⟨dX0_spread_35, rfl⟩ fX0_40 q_1 yr_4_2 (r_1_2 _) ?_
    refine G_iload_3 (nx := 39) ⟨dX0_spread_38, rfl⟩ ?_
    refine G_cs1 (nx := 42) ⟨dX0_spread_39, rfl⟩ kX0_43 rfl rfl (Nat.le_of_ble_eq_true rfl) (Nat.le_of_ble_eq_true rfl) (cJ_tz hs4 (by omega) ?_)
    refine G_iald (nx := 43) (k := 4) ⟨dX0_spread_42, rfl⟩ q_4 (by first | assumption | decide | (unfold vp_in; decide)) ?_
    rw [hR1.row hfl]
    refine G_ior (nx := 44) ⟨dX0_spread_43, rfl⟩ ?_
    rw [nI_or]
    refine G_iast (nx := 45) (k := 21) ⟨dX0_spread_44, rfl⟩ q_21 (by first | assumption | decide | (unfold vp_in; decide)) ?_
    rw [ec5]
    refine G_iinc_3 (nx := 48) ⟨dX0_spread_45, rfl⟩ ci_1 rfl ?_
    refine G_goto (tgt := 14) ⟨dX0_spread_48, rfl⟩ rfl ?_
    refine G_L (by rw [nI_1]) (ih (2 ^ n - (s + 1)) (by omega) (s + 1) _ rfl (by omega) (by omega) (fun t ht => ?_) (hs1.w fE_t))
    by_cases e : t = s
    · rw [e, w2_at, nt_step hn hs (by omega)]
    · rw [w2_ne _ _ _ _ (by omega)]; exact hrow t (by omega)

theorem cC_spread (hX : XG I 1 4 n gr) (hk : ∀ (I' : AI), SP I' n gr → sb (fE 21) I I' → K .null I' J (rX g)) : G l (d + 1) mX0_spread K 0 [.ref 22, .ref 1, UU, UU] [] I J (rX g) := by
  have h1p : 0 < 2 ^ n := Nat.two_pow_pos n
  have hi0 : vp_in (0 : Int32) 4096 := in4k (p := 0) (by decide)
  have ec0 : (0 : Int32).toNatClampNeg = 0 := by decide
  refine G_aload_1 (nx := 1) ⟨dX0_spread_0, rfl⟩ ?_
  refine G_cv0 (nx := 4) ⟨dX0_spread_1, rfl⟩ kX0_34 rfl q_1 rfl (Nat.le_of_ble_eq_true rfl) (Nat.le_of_ble_eq_true rfl) (cN_all nt1 hX ?_)
  refine G_istore_2 (nx := 5) ⟨dX0_spread_4, rfl⟩ rfl rfl ?_
  refine G_aload_0 (nx := 6) ⟨dX0_spread_5, rfl⟩ ?_
  refine G_getr (nx := 9) (k := 22) (r := 21) ⟨dX0_spread_6, rfl⟩ fX0_31 q_22 yr_0_0 (r_22_0 _) ?_
  refine G_iconst (nx := 10) ⟨dX0_spread_9, rfl⟩ ci_0 ?_
  refine G_iconst (nx := 11) ⟨dX0_spread_10, rfl⟩ ci_0 ?_
  refine G_iast (nx := 12) (k := 21) ⟨dX0_spread_11, rfl⟩ q_21 (by first | assumption | decide | (unfold vp_in; decide)) ?_
  rw [ec0]
  refine G_iconst (nx := 13) ⟨dX0_spread_12, rfl⟩ ci_1 ?_
  refine G_istore_3 (nx := 14) ⟨dX0_spread_13, rfl⟩ rfl rfl ?_
  refine G_L (by rw [show (1 : Int32) = nI 1 by decide]) (lC_spread hX hk _ 1 _ rfl (by omega) (by omega) (fun t ht => ?_) (sb.rf.w fE_t))
  have e : t = 0 := by omega
  rw [e, w2_at, nt_0]
  rfl

theorem cC_cw {s : Nat} (hS : SP I n gr) (hn : n ≤ 12) (hg : ∀ p, p < n → gr p < 2 ^ n) (hs : s < 2 ^ n) (hk : K (.int (bi (covB n gr s))) I J (rX g)) : G l d mX0_coversWithout K 0 [.ref 22, .int (nI (cp n s))] [] I J (rX g) := by
  have hc := cp_lt hs
  have hp12 := pow12 hn
  have hi := in4k (show cp n s < 4096 by omega)
  have ec := cl_nI (p := cp n s) (by omega)
  have hz : ntN n gr (cp n s) &&& cp n s < 2 ^ 32 := Nat.lt_of_le_of_lt Nat.and_le_right (by omega)
  refine G_aload_0 (nx := 1) ⟨dX0_coversWithout_0, rfl⟩ ?_
  refine G_getr (nx := 4) (k := 22) (r := 21) ⟨dX0_coversWithout_1, rfl⟩ fX0_31 q_22 yr_0_0 (r_22_0 _) ?_
  refine G_iload_1 (nx := 5) ⟨dX0_coversWithout_4, rfl⟩ ?_
  refine G_iald (nx := 6) (k := 21) ⟨dX0_coversWithout_5, rfl⟩ q_21 (by first | assumption | decide | (unfold vp_in; decide)) ?_
  rw [ec, hS _ hc]
  refine G_iload_1 (nx := 7) ⟨dX0_coversWithout_6, rfl⟩ ?_
  refine G_iand (nx := 8) ⟨dX0_coversWithout_7, rfl⟩ ?_
  rw [nI_and]
  refine G_ifne (tgt := 15) (nx := 11) ⟨dX0_coversWithout_8, rfl⟩ rfl (fun c_8 => ?_) (fun c_8 => ?_)
  · refine G_iconst (nx := 16) ⟨dX0_coversWithout_15, rfl⟩ ci_0 ?_
    refine G_zret ⟨dX0_coversWithout_16, rfl⟩ rfl (by first | assumption | decide | exact bi_01 _) ?_
    rw [nI_0iff hz, nt_cov hg hs] at c_8
    rw [Bool.not_eq_true] at c_8
    rw [c_8] at hk
    exact hk
  · refine G_iconst (nx := 12) ⟨dX0_coversWithout_11, rfl⟩ ci_1 ?_
    refine G_goto (tgt := 16) ⟨dX0_coversWithout_12, rfl⟩ rfl ?_
    refine G_zret ⟨dX0_coversWithout_16, rfl⟩ rfl (by first | assumption | decide | exact bi_01 _) ?_
    rw [nI_0iff hz, nt_cov hg hs] at c_8
    rw [c_8] at hk
    exact hk

theorem cC_startWith {s v : Int32} (hk : K .null (w2 (w2 (w2 (w2 (w2 I 22 2 v) 22 3 s) 22 4 1) 22 5 s) 22 6 s) J (rX g)) : G l d mX0_startWith K 0 [.ref 22, .int s, .int v] [] I J (rX g) := by
  refine G_aload_0 (nx := 1) ⟨dX0_startWith_0, rfl⟩ ?_
  refine G_iload_2 (nx := 2) ⟨dX0_startWith_1, rfl⟩ ?_
  refine G_puti (nx := 5) (k := 22) ⟨dX0_startWith_2, rfl⟩ pX0_15 q_22 yt_0_2 ?_
  refine G_aload_0 (nx := 6) ⟨dX0_startWith_5, rfl⟩ ?_
  refine G_iload_1 (nx := 7) ⟨dX0_startWith_6, rfl⟩ ?_
  refine G_puti (nx := 10) (k := 22) ⟨dX0_startWith_7, rfl⟩ pX0_19 q_22 yt_0_3 ?_
  refine G_aload_0 (nx := 11) ⟨dX0_startWith_10, rfl⟩ ?_
  refine G_iconst (nx := 12) ⟨dX0_startWith_11, rfl⟩ ci_1 ?_
  refine G_puti (nx := 15) (k := 22) ⟨dX0_startWith_12, rfl⟩ pX0_22 q_22 yt_0_4 ?_
  refine G_aload_0 (nx := 16) ⟨dX0_startWith_15, rfl⟩ ?_
  refine G_iload_1 (nx := 17) ⟨dX0_startWith_16, rfl⟩ ?_
  refine G_puti (nx := 20) (k := 22) ⟨dX0_startWith_17, rfl⟩ pX0_25 q_22 yt_0_5 ?_
  refine G_aload_0 (nx := 21) ⟨dX0_startWith_20, rfl⟩ ?_
  refine G_iload_1 (nx := 22) ⟨dX0_startWith_21, rfl⟩ ?_
  refine G_puti (nx := 25) (k := 22) ⟨dX0_startWith_22, rfl⟩ pX0_28 q_22 yt_0_6 ?_
  refine G_vret ⟨dX0_startWith_25, rfl⟩ rfl ?_
  exact hk

end X64

theorem le_all {n : Nat} {gr : Nat → Nat} (hn : n ≤ 12) : covB n gr (2 ^ n - 1) = true ∧ pc (2 ^ n - 1) = n := by
  constructor
  · rw [covB_iff]
    intro p hp
    left
    rw [Nat.testBit_two_pow_sub_one]
    simp [hp]
  · have h : ∀ m, m < 13 → pc (2 ^ m - 1) = m := by decide +kernel
    exact h n (by omega)
theorem leN_spec {n : Nat} {gr : Nat → Nat} (hn : n ≤ 12) : (∀ s, s < 2 ^ n → covB n gr s = true → leN n gr ≤ pc s) ∧ ∃ s, s < 2 ^ n ∧ covB n gr s = true ∧ pc s = leN n gr := by
  have key : ∀ k, k ≤ 2 ^ n → (∀ s, s < k → covB n gr s = true → lp (leF n gr) k n ≤ pc s) ∧ (∃ s, s < 2 ^ n ∧ covB n gr s = true ∧ pc s = lp (leF n gr) k n) := by
    intro k
    induction k with
    | zero => intro _; exact ⟨fun s hs => absurd hs (by omega), 2 ^ n - 1, by have := Nat.two_pow_pos n; omega, (le_all hn).1, (le_all (gr := gr) hn).2⟩
    | succ k ih =>
      intro hk
      obtain ⟨h1, h2⟩ := ih (by omega)
      rw [lp_s, leF]
      by_cases c : pc k < lp (leF n gr) k n ∧ covB n gr k = true
      · rw [if_pos c]
        refine ⟨fun s hs hc => ?_, k, by omega, c.2, rfl⟩
        by_cases e : s = k
        · rw [e]; exact Nat.le_refl _
        · have := h1 s (by omega) hc; omega
      · rw [if_neg c]
        refine ⟨fun s hs hc => ?_, h2⟩
        by_cases e : s = k
        · rw [e] at hc ⊢
          rcases Nat.lt_or_ge (pc k) (lp (leF n gr) k n) with q | q
          · exact absurd ⟨q, hc⟩ c
          · exact q
        · exact h1 s (by omega) hc
  exact key _ (Nat.le_refl _)
theorem leN_uniq {n : Nat} {gr : Nat → Nat} (hn : n ≤ 12) {a : Nat} (h1 : ∀ s, s < 2 ^ n → covB n gr s = true → a ≤ pc s) (h2 : ∃ s, s < 2 ^ n ∧ covB n gr s = true ∧ pc s = a) : a = leN n gr := by
  obtain ⟨s, h3, h4, h5⟩ := h2
  obtain ⟨t, h6, h7, h8⟩ := (leN_spec hn).2
  have := (leN_spec (gr := gr) hn).1 s h3 h4
  have := h1 t h6 h7
  omega
theorem fe_none {n : Nat} {gr : Nat → Nat} {v : Nat} {i : FE} : ∀ k, (∀ s, s < k → ¬ (pc s = v ∧ covB n gr s = true)) → lp (feF n gr v) k i = i := by
  intro k
  induction k with
  | zero => intro _; rfl
  | succ k ih => intro h; rw [lp_s, ih (fun s hs => h s (by omega)), feF, if_neg (h k (by omega))]
abbrev fe0 (n : Nat) : FE := (none, 0, 2 ^ n - 1, 0)
/-- what the search for the fewest has found among the sets below k -/
def FV (I : AI) (n : Nat) (gr : Nat → Nat) (k : Nat) : Prop := ∃ a, a ≤ 13 ∧ I 22 2 = nI a ∧ (∀ s, s < k → covB n gr s = true → a ≤ pc s) ∧ (a = 13 ∨ ((∃ s, s < k ∧ covB n gr s = true ∧ pc s = a) ∧ ∃ x, (lp (feF n gr a) k (fe0 n)).1 = some x ∧ I 22 3 = nI x ∧ I 22 4 = nI (lp (feF n gr a) k (fe0 n)).2.1 ∧ I 22 5 = nI (lp (feF n gr a) k (fe0 n)).2.2.1 ∧ I 22 6 = nI (lp (feF n gr a) k (fe0 n)).2.2.2))
theorem FV_0 {I : AI} {n : Nat} {gr : Nat → Nat} (h : I 22 2 = nI 13) : FV I n gr 0 := ⟨13, Nat.le_refl _, h, fun s hs => absurd hs (by omega), Or.inl rfl⟩
theorem FV_end {I : AI} {n : Nat} {gr : Nat → Nat} (hn : n ≤ 12) (h : FV I n gr (2 ^ n)) : I 22 2 = nI (leN n gr) ∧ ∃ x, (feN n gr).1 = some x ∧ I 22 3 = nI x ∧ I 22 4 = nI (feN n gr).2.1 ∧ I 22 5 = nI (feN n gr).2.2.1 ∧ I 22 6 = nI (feN n gr).2.2.2 := by
  obtain ⟨a, h1, h2, h3, h4⟩ := h
  have hall := h3 (2 ^ n - 1) (by have := Nat.two_pow_pos n; omega) (le_all hn).1
  rw [(le_all (gr := gr) hn).2] at hall
  rcases h4 with h4 | ⟨h4, h5⟩
  · omega
  · have e : a = leN n gr := leN_uniq hn h3 h4
    subst e
    exact ⟨h2, h5⟩
theorem FV_skip {I : AI} {n k : Nat} {gr : Nat → Nat} {a : Nat} (hI : I 22 2 = nI a) (ha : a ≤ 13) (h : FV I n gr k) (hs : covB n gr k = true → a < pc k) : FV I n gr (k + 1) := by
  obtain ⟨b, h1, h2, h3, h4⟩ := h
  have e : b = a := nI_inj (by omega) (by omega) (h2.symm.trans hI)
  subst e
  refine ⟨b, h1, h2, fun s hs' hc => ?_, ?_⟩
  · by_cases e : s = k
    · rw [e] at hc ⊢; have := hs hc; omega
    · exact h3 s (by omega) hc
  · rcases h4 with h4 | ⟨⟨s, h5, h6, h7⟩, x, h8⟩
    · exact Or.inl h4
    · refine Or.inr ⟨⟨s, by omega, h6, h7⟩, x, ?_⟩
      have : lp (feF n gr b) (k + 1) (fe0 n) = lp (feF n gr b) k (fe0 n) := by
        rw [lp_s, feF, if_neg]
        rintro ⟨q1, q2⟩
        have := hs q2
        omega
      rw [this]
      exact h8
theorem and_all {n s : Nat} (hs : s < 2 ^ n) : (2 ^ n - 1) &&& s = s := by
  rw [Nat.and_comm, Nat.and_two_pow_sub_one_eq_mod, Nat.mod_eq_of_lt hs]
theorem FV_new {I : AI} {n k : Nat} {gr : Nat → Nat} {a : Nat} (hI : I 22 2 = nI a) (ha : a ≤ 13) (h : FV I n gr k) (hk : k < 2 ^ n) (hc : covB n gr k = true) (hlt : pc k < a) {I' : AI} (e2 : I' 22 2 = nI (pc k)) (e3 : I' 22 3 = nI k) (e4 : I' 22 4 = nI 1) (e5 : I' 22 5 = nI k) (e6 : I' 22 6 = nI k) : FV I' n gr (k + 1) := by
  obtain ⟨b, h1, h2, h3, h4⟩ := h
  have e : b = a := nI_inj (by omega) (by omega) (h2.symm.trans hI)
  subst e
  refine ⟨pc k, by omega, e2, fun s hs' hc' => ?_, Or.inr ⟨⟨k, by omega, hc, rfl⟩, k, ?_⟩⟩
  · by_cases e : s = k
    · rw [e]; exact Nat.le_refl _
    · have := h3 s (by omega) hc'; omega
  · have hf : lp (feF n gr (pc k)) (k + 1) (fe0 n) = (some k, 1, k, k) := by
      rw [lp_s, fe_none k (fun s hs ⟨q1, q2⟩ => by have := h3 s hs q2; omega), feF, if_pos ⟨rfl, hc⟩]
      simp only [fe0, Option.getD_none, Nat.zero_add, Nat.zero_or, and_all hk]
    rw [hf]
    exact ⟨rfl, e3, e4, e5, e6⟩
theorem FV_more {I : AI} {n k : Nat} {gr : Nat → Nat} (h : FV I n gr k) (hI : I 22 2 = nI (pc k)) (hc : covB n gr k = true) {I' : AI} (e2 : I' 22 2 = I 22 2) (e3 : I' 22 3 = I 22 3) (e4 : I' 22 4 = I 22 4 + 1) (e5 : I' 22 5 = I 22 5 &&& nI k) (e6 : I' 22 6 = I 22 6 ||| nI k) : FV I' n gr (k + 1) := by
  obtain ⟨b, h1, h2, h3, h4⟩ := h
  have hpl := pc_le k
  have e : b = pc k := nI_inj (by omega) (by omega) (h2.symm.trans hI)
  subst e
  rcases h4 with h4 | ⟨⟨s, h5, h6, h7⟩, x, h8, h9, h10, h11, h12⟩
  · omega
  · refine ⟨pc k, h1, e2.trans h2, fun s hs' hc' => ?_, Or.inr ⟨⟨s, by omega, h6, h7⟩, x, ?_⟩⟩
    · by_cases e : s = k
      · rw [e]; exact Nat.le_refl _
      · exact h3 s (by omega) hc'
    · have hf : lp (feF n gr (pc k)) (k + 1) (fe0 n) = (some x, (lp (feF n gr (pc k)) k (fe0 n)).2.1 + 1, (lp (feF n gr (pc k)) k (fe0 n)).2.2.1 &&& k, (lp (feF n gr (pc k)) k (fe0 n)).2.2.2 ||| k) := by
        rw [lp_s, feF, if_pos ⟨rfl, hc⟩, h8]
        rfl
      rw [hf]
      refine ⟨rfl, e3.trans h9, ?_, ?_, ?_⟩
      · rw [e4, h10, nI_1]
      · rw [e5, h11, nI_and]
      · rw [e6, h12, nI_or]
/-- what the class's finders of covers write -/
def fC (x y : Nat) : Bool := x == 21 || x == 23 || (x == 22 && decide (2 ≤ y))
section X64B
variable {l : Launch} {d : Nat} {K : AK} {I : AI} {J : AJ} {g : Bool} {n : Nat} {gr : Nat → Nat}

theorem lC_ff (hX : XG I 1 4 n gr) (hk : ∀ (I' : AI), FV I' n gr (2 ^ n) → sb fC I I' → K .null I' J (rX g)) : ∀ (k s : Nat) (I1 : AI) (x4 : Value), notL x4 = true → 2 ^ n - s = k → s ≤ 2 ^ n → FV I1 n gr s → SP I1 n gr → sb fC I I1 → G l (d + 1) mX0_findFewest K 18 [.ref 22, .ref 1, .int (nI (2 ^ n - 1)), .int (nI s), x4] [] I1 J (rX g) := by
  intro k
  induction k using Nat.strongRecOn with
  | _ k ih =>
  intro s I1 x4 hx4 hsk hsn hF hS hs1
  have hn := hX.2.1
  have hg := hX.2.2.2
  have hp12 := pow12 hn
  have h1p : 0 < 2 ^ n := Nat.two_pow_pos n
  refine G_iload_3 (nx := 19) ⟨dX0_findFewest_18, rfl⟩ ?_
  refine G_iload_2 (nx := 20) ⟨dX0_findFewest_19, rfl⟩ ?_
  refine G_icmpgt (tgt := 106) (nx := 23) ⟨dX0_findFewest_20, rfl⟩ rfl (fun c_20 => ?_) (fun c_20 => ?_)
  · refine G_vret ⟨dX0_findFewest_106, rfl⟩ rfl ?_
    rw [nI_lt_iff (by omega) (by omega)] at c_20
    have e : s = 2 ^ n := by omega
    subst e
    exact hk I1 hF hs1
  · rw [nI_lt_iff (by omega) (by omega)] at c_20
    have hs : s < 2 ^ n := by omega
    have hs4 : s < 4096 := by omega
    have hpl := pc_le s
    obtain ⟨a, ha2, ha1, -⟩ := id hF
    refine G_iload_3 (nx := 24) ⟨dX0_findFewest_23, rfl⟩ ?_
    refine G_cs1 (nx := 27) ⟨dX0_findFewest_24, rfl⟩ kX0_53 rfl rfl (Nat.le_of_ble_eq_true rfl) (Nat.le_of_ble_eq_true rfl) (cJ_bc hs4 ?_)
    refine G_istore_4 (nx := 29) ⟨dX0_findFewest_27, rfl⟩ rfl rfl ?_
    refine G_iload_4 (nx := 31) ⟨dX0_findFewest_29, rfl⟩ ?_
    refine G_aload_0 (nx := 32) ⟨dX0_findFewest_31, rfl⟩ ?_
    refine G_geti (nx := 35) (k := 22) ⟨dX0_findFewest_32, rfl⟩ fX0_15 q_22 yi_0_2 ?_
    rw [ha1]
    refine G_icmpgt (tgt := 100) (nx := 38) ⟨dX0_findFewest_35, rfl⟩ rfl (fun c_35 => ?_) (fun c_35 => ?_)
    · refine G_iinc_3 (nx := 103) ⟨dX0_findFewest_100, rfl⟩ ci_1 rfl ?_
      refine G_goto (tgt := 18) ⟨dX0_findFewest_103, rfl⟩ rfl ?_
      rw [nI_lt_iff (by omega) (by omega)] at c_35
      exact G_L (by rw [nI_1]) (ih (2 ^ n - (s + 1)) (by omega) (s + 1) I1 _ rfl rfl (by omega) (FV_skip ha1 ha2 hF (fun _ => c_35)) hS hs1)
    · rw [nI_lt_iff (by omega) (by omega)] at c_35
      refine G_aload_0 (nx := 39) ⟨dX0_findFewest_38, rfl⟩ ?_
      refine G_iload_2 (nx := 40) ⟨dX0_findFewest_39, rfl⟩ ?_
      refine G_iload_3 (nx := 41) ⟨dX0_findFewest_40, rfl⟩ ?_
      refine G_ixor (nx := 42) ⟨dX0_findFewest_41, rfl⟩ ?_
      rw [show nI (2 ^ n - 1) ^^^ nI s = nI (cp n s) from nI_xor _ _]
      refine G_cv1 (nx := 45) ⟨dX0_findFewest_42, rfl⟩ kX0_56 rfl q_22 rfl (Nat.le_of_ble_eq_true rfl) (Nat.le_of_ble_eq_true rfl) (cC_cw hS hn hg hs ?_)
      refine G_ifne (tgt := 51) (nx := 48) ⟨dX0_findFewest_45, rfl⟩ rfl (fun c_45 => ?_) (fun c_45 => ?_)
      · refine G_iload_4 (nx := 53) ⟨dX0_findFewest_51, rfl⟩ ?_
        refine G_aload_0 (nx := 54) ⟨dX0_findFewest_53, rfl⟩ ?_
        refine G_geti (nx := 57) (k := 22) ⟨dX0_findFewest_54, rfl⟩ fX0_15 q_22 yi_0_2 ?_
        rw [ha1]
        refine G_icmpge (tgt := 70) (nx := 60) ⟨dX0_findFewest_57, rfl⟩ rfl (fun c_57 => ?_) (fun c_57 => ?_)
        · refine G_aload_0 (nx := 71) ⟨dX0_findFewest_70, rfl⟩ ?_
          refine G_dup (nx := 72) ⟨dX0_findFewest_71, rfl⟩ rfl ?_
          refine G_geti (nx := 75) (k := 22) ⟨dX0_findFewest_72, rfl⟩ fX0_22 q_22 yi_0_4 ?_
          refine G_iconst (nx := 76) ⟨dX0_findFewest_75, rfl⟩ ci_1 ?_
          refine G_iadd (nx := 77) ⟨dX0_findFewest_76, rfl⟩ ?_
          refine G_puti (nx := 80) (k := 22) ⟨dX0_findFewest_77, rfl⟩ pX0_22 q_22 yt_0_4 ?_
          refine G_aload_0 (nx := 81) ⟨dX0_findFewest_80, rfl⟩ ?_
          refine G_dup (nx := 82) ⟨dX0_findFewest_81, rfl⟩ rfl ?_
          refine G_geti (nx := 85) (k := 22) ⟨dX0_findFewest_82, rfl⟩ fX0_25 q_22 yi_0_5 ?_
          refine G_iload_3 (nx := 86) ⟨dX0_findFewest_85, rfl⟩ ?_
          refine G_iand (nx := 87) ⟨dX0_findFewest_86, rfl⟩ ?_
          refine G_puti (nx := 90) (k := 22) ⟨dX0_findFewest_87, rfl⟩ pX0_25 q_22 yt_0_5 ?_
          refine G_aload_0 (nx := 91) ⟨dX0_findFewest_90, rfl⟩ ?_
          refine G_dup (nx := 92) ⟨dX0_findFewest_91, rfl⟩ rfl ?_
          refine G_geti (nx := 95) (k := 22) ⟨dX0_findFewest_92, rfl⟩ fX0_28 q_22 yi_0_6 ?_
          refine G_iload_3 (nx := 96) ⟨dX0_findFewest_95, rfl⟩ ?_
          refine G_ior (nx := 97) ⟨dX0_findFewest_96, rfl⟩ ?_
          refine G_puti (nx := 100) (k := 22) ⟨dX0_findFewest_97, rfl⟩ pX0_28 q_22 yt_0_6 ?_
          refine G_iinc_3 (nx := 103) ⟨dX0_findFewest_100, rfl⟩ ci_1 rfl ?_
          refine G_goto (tgt := 18) ⟨dX0_findFewest_103, rfl⟩ rfl ?_
          rw [nI_le_iff (by omega) (by omega)] at c_57
          rw [bi_n0] at c_45
          have epc : pc s = a := by omega
          exact G_L (by rw [nI_1]) (ih (2 ^ n - (s + 1)) (by omega) (s + 1) _ _ rfl rfl (by omega) (FV_more hF (by rw [epc]; exact ha1) c_45 (by rw [w2_ne _ _ _ _ (by decide), w2_ne _ _ _ _ (by decide), w2_ne _ _ _ _ (by decide)]) (by rw [w2_ne _ _ _ _ (by decide), w2_ne _ _ _ _ (by decide), w2_ne _ _ _ _ (by decide)]) (by rw [w2_ne _ _ _ _ (by decide), w2_ne _ _ _ _ (by decide), w2_at]) (by rw [w2_ne _ _ _ _ (by decide), w2_at]; rw [w2_ne _ _ _ _ (by decide)]) (by rw [w2_at]; rw [w2_ne _ _ _ _ (by decide), w2_ne _ _ _ _ (by decide)])) (fun t ht => by rw [w2_row _ _ _ _ (show ¬ 21 = 22 by decide), w2_row _ _ _ _ (show ¬ 21 = 22 by decide), w2_row _ _ _ _ (show ¬ 21 = 22 by decide)]; exact hS t ht) (((hs1.w rfl).w rfl).w rfl))
        · refine G_aload_0 (nx := 61) ⟨dX0_findFewest_60, rfl⟩ ?_
          refine G_iload_3 (nx := 62) ⟨dX0_findFewest_61, rfl⟩ ?_
          refine G_iload_4 (nx := 64) ⟨dX0_findFewest_62, rfl⟩ ?_
          refine G_cvv2 (nx := 67) ⟨dX0_findFewest_64, rfl⟩ kX0_60 rfl q_22 rfl (Nat.le_of_ble_eq_true rfl) (Nat.le_of_ble_eq_true rfl) (cC_startWith ?_)
          refine G_goto (tgt := 100) ⟨dX0_findFewest_67, rfl⟩ rfl ?_
          refine G_iinc_3 (nx := 103) ⟨dX0_findFewest_100, rfl⟩ ci_1 rfl ?_
          refine G_goto (tgt := 18) ⟨dX0_findFewest_103, rfl⟩ rfl ?_
          rw [nI_le_iff (by omega) (by omega)] at c_57
          rw [bi_n0] at c_45
          exact G_L (by rw [nI_1]) (ih (2 ^ n - (s + 1)) (by omega) (s + 1) _ _ rfl rfl (by omega) (FV_new ha1 ha2 hF hs c_45 (by omega) (by rw [w2_ne _ _ _ _ (by decide), w2_ne _ _ _ _ (by decide), w2_ne _ _ _ _ (by decide), w2_ne _ _ _ _ (by decide), w2_at]) (by rw [w2_ne _ _ _ _ (by decide), w2_ne _ _ _ _ (by decide), w2_ne _ _ _ _ (by decide), w2_at]) (by rw [w2_ne _ _ _ _ (by decide), w2_ne _ _ _ _ (by decide), w2_at]; rfl) (by rw [w2_ne _ _ _ _ (by decide), w2_at]) (by rw [w2_at])) (fun t ht => by rw [w2_row _ _ _ _ (show ¬ 21 = 22 by decide), w2_row _ _ _ _ (show ¬ 21 = 22 by decide), w2_row _ _ _ _ (show ¬ 21 = 22 by decide), w2_row _ _ _ _ (show ¬ 21 = 22 by decide), w2_row _ _ _ _ (show ¬ 21 = 22 by decide)]; exact hS t ht) (((((hs1.w rfl).w rfl).w rfl).w rfl).w rfl))
      · refine G_goto (tgt := 100) ⟨dX0_findFewest_48, rfl⟩ rfl ?_
        refine G_iinc_3 (nx := 103) ⟨dX0_findFewest_100, rfl⟩ ci_1 rfl ?_
        refine G_goto (tgt := 18) ⟨dX0_findFewest_103, rfl⟩ rfl ?_
        rw [bi_0] at c_45
        exact G_L (by rw [nI_1]) (ih (2 ^ n - (s + 1)) (by omega) (s + 1) I1 _ rfl rfl (by omega) (FV_skip ha1 ha2 hF (fun h => by rw [c_45] at h; cases h)) hS hs1)

theorem cC_findFewest (hX : XG I 1 4 n gr) (hk : ∀ (I' : AI), FV I' n gr (2 ^ n) → sb fC I I' → K .null I' J (rX g)) : G l (d + 2) mX0_findFewest K 0 [.ref 22, .ref 1, UU, UU, UU] [] I J (rX g) := by
  refine G_aload_1 (nx := 1) ⟨dX0_findFewest_0, rfl⟩ ?_
  refine G_cv0 (nx := 4) ⟨dX0_findFewest_1, rfl⟩ kX0_34 rfl q_1 rfl (Nat.le_of_ble_eq_true rfl) (Nat.le_of_ble_eq_true rfl) (cN_all nt1 hX ?_)
  refine G_istore_2 (nx := 5) ⟨dX0_findFewest_4, rfl⟩ rfl rfl ?_
  refine G_aload_0 (nx := 6) ⟨dX0_findFewest_5, rfl⟩ ?_
  refine G_aload_1 (nx := 7) ⟨dX0_findFewest_6, rfl⟩ ?_
  refine G_cvv1 (nx := 10) ⟨dX0_findFewest_7, rfl⟩ kX0_49 rfl q_22 rfl (Nat.le_of_ble_eq_true rfl) (Nat.le_of_ble_eq_true rfl) (cC_spread hX (fun I1 hS hs1 => ?_))
  refine G_aload_0 (nx := 11) ⟨dX0_findFewest_10, rfl⟩ ?_
  refine G_bipush (nx := 13) ⟨dX0_findFewest_11, rfl⟩ cb_13 ?_
  refine G_puti (nx := 16) (k := 22) ⟨dX0_findFewest_13, rfl⟩ pX0_15 q_22 yt_0_2 ?_
  refine G_iconst (nx := 17) ⟨dX0_findFewest_16, rfl⟩ ci_0 ?_
  refine G_istore_3 (nx := 18) ⟨dX0_findFewest_17, rfl⟩ rfl rfl ?_
  have hs2 : sb fC I I1 := hs1.mono (fun a b h => by simp only [fC, fE, Bool.or_eq_false_iff] at *; exact h.1.1)
  have hX1 : XG I1 1 4 n gr := hX.sb hs2 rfl (fun _ => rfl)
  have hX2 : XG (w2 I1 22 2 13) 1 4 n gr := hX1.cg (w2_ne _ _ _ _ (by decide)) (fun p _ => by rw [w2_row _ _ _ _ (show ¬ 4 = 22 by decide)])
  exact G_L (by rw [← nI_0]) (lC_ff hX2 (fun I2 h1 h2 => hk I2 h1 ((hs2.w rfl).tr h2)) _ 0 _ UU rfl rfl (Nat.zero_le _) (FV_0 (by rw [w2_at]; rfl)) (fun t ht => by rw [w2_row _ _ _ _ (show ¬ 21 = 22 by decide)]; exact hS t ht) sb.rf)

end X64B
