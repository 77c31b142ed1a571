theorem MG.congr {I : AI} {n : Nat} {gr gr' : Nat → Nat} (h : MG I n gr) (he : ∀ p, p < n → gr' p = gr p) : MG I n gr' := ⟨h.1, h.2.1, fun p hp => by rw [he p hp]; exact h.2.2.1 p hp, fun p hp => by rw [he p hp]; exact h.2.2.2 p hp⟩
def f78 (a _ : Nat) : Bool := a == 78
/-- without p's lines to those below q -/
def rmG (gr : Nat → Nat) (p q : Nat) : Nat → Nat := fun x => if x = p then df (gr p) (2 ^ q - 1) else if x < q ∧ (gr p).testBit x = true then df (gr x) (2 ^ p) else gr x
/-- with p's lines to those below q alone -/
def adG (gr : Nat → Nat) (p q : Nat) : Nat → Nat := fun x => if x = p then gr p &&& (2 ^ q - 1) else if q ≤ x ∧ (gr p).testBit x = true then df (gr x) (2 ^ p) else gr x
theorem setb0 (x b : Nat) : setb x b 0 = df x (2 ^ b) := by unfold setb; rw [Nat.zero_mul, Nat.or_zero]
theorem setb1 (x b : Nat) : setb x b 1 = x ||| 2 ^ b := by
  unfold setb
  rw [Nat.one_mul]
  apply Nat.eq_of_testBit_eq
  intro i
  rw [Nat.testBit_or, tb_df, Nat.testBit_or, tb_pow]
  by_cases e : b = i <;> simp [e]
theorem rmG_0 (gr : Nat → Nat) (p x : Nat) : rmG gr p 0 x = gr x := by
  unfold rmG
  by_cases e : x = p
  · rw [if_pos e, e]
    apply Nat.eq_of_testBit_eq
    intro i
    rw [tb_df]; simp
  · simp [e]
theorem rmG_s1 {n : Nat} {gr : Nat → Nat} (hW : WG n gr) {p q : Nat} (hp : p < n) (hq : q < n) (hb : (gr p).testBit q = true) (x : Nat) : layG (rmG gr p q) p q 0 x = rmG gr p (q + 1) x := by
  have hpq : ¬ p = q := fun e => by rw [← e, hW.2.1 p hp] at hb; cases hb
  unfold layG
  by_cases e : x = p
  · rw [if_pos e, setb0]
    unfold rmG
    rw [if_pos rfl, if_pos e]
    apply Nat.eq_of_testBit_eq
    intro i
    simp only [tb_df, tb_pow, Nat.testBit_two_pow_sub_one]
    by_cases h1 : q = i
    · subst h1; simp
    · by_cases h2 : i < q
      · simp [h1, h2, show i < q + 1 by omega]
      · simp [h1, h2, show ¬ i < q + 1 by omega]
  · rw [if_neg e]
    by_cases e2 : x = q
    · subst e2
      rw [if_pos rfl, setb0]
      unfold rmG
      rw [if_neg e, if_neg (by omega), if_neg e, if_pos ⟨by omega, hb⟩]
    · rw [if_neg e2]
      unfold rmG
      rw [if_neg e, if_neg e]
      by_cases h : x < q ∧ (gr p).testBit x = true
      · rw [if_pos h, if_pos ⟨by omega, h.2⟩]
      · rw [if_neg h, if_neg (fun z => h ⟨by omega, z.2⟩)]
theorem rmG_s0 {gr : Nat → Nat} {p q : Nat} (hb : (gr p).testBit q = false) (x : Nat) : rmG gr p (q + 1) x = rmG gr p q x := by
  unfold rmG
  by_cases e : x = p
  · rw [if_pos e, if_pos e]
    apply Nat.eq_of_testBit_eq
    intro i
    simp only [tb_df, Nat.testBit_two_pow_sub_one]
    by_cases h1 : i = q
    · subst h1; simp [hb]
    · congr 2
      exact decide_eq_decide.mpr (by omega)
  · rw [if_neg e, if_neg e]
    by_cases h : x < q ∧ (gr p).testBit x = true
    · rw [if_pos h, if_pos ⟨by omega, h.2⟩]
    · rw [if_neg h, if_neg (fun z => h ⟨by
        by_cases e : x = q
        · rw [e, hb] at z; cases z.2
        · omega, z.2⟩)]
theorem adG_0 {n : Nat} {gr : Nat → Nat} (hg : ∀ p, p < n → gr p < 2 ^ n) {p : Nat} (hp : p < n) (x : Nat) (hx : x < n) : adG gr p 0 x = rmG gr p n x := by
  unfold adG rmG
  by_cases e : x = p
  · rw [if_pos e, if_pos e]
    apply Nat.eq_of_testBit_eq
    intro i
    simp only [tb_df, Nat.testBit_and, Nat.testBit_two_pow_sub_one]
    cases h : (gr p).testBit i with
    | false => simp
    | true => simp [tb_ltn (hg p hp) h]
  · rw [if_neg e, if_neg e]
    by_cases h : (gr p).testBit x = true
    · rw [if_pos ⟨Nat.zero_le _, h⟩, if_pos ⟨hx, h⟩]
    · rw [if_neg (fun z => h z.2), if_neg (fun z => h z.2)]
theorem adG_n {n : Nat} {gr : Nat → Nat} (hg : ∀ p, p < n → gr p < 2 ^ n) {p : Nat} (hp : p < n) (x : Nat) (hx : x < n) : adG gr p n x = gr x := by
  unfold adG
  by_cases e : x = p
  · rw [if_pos e, e]
    apply Nat.eq_of_testBit_eq
    intro i
    simp only [Nat.testBit_and, Nat.testBit_two_pow_sub_one]
    cases h : (gr p).testBit i with
    | false => rfl
    | true => simp [tb_ltn (hg p hp) h]
  · rw [if_neg e, if_neg (by omega)]
theorem adG_s1 {n : Nat} {gr : Nat → Nat} (hW : WG n gr) {p q : Nat} (hp : p < n) (hq : q < n) (hb : (gr p).testBit q = true) (x : Nat) : layG (adG gr p q) p q 1 x = adG gr p (q + 1) x := by
  have hpq : ¬ p = q := fun e => by rw [← e, hW.2.1 p hp] at hb; cases hb
  unfold layG
  by_cases e : x = p
  · rw [if_pos e, setb1]
    unfold adG
    rw [if_pos rfl, if_pos e]
    apply Nat.eq_of_testBit_eq
    intro i
    simp only [Nat.testBit_or, Nat.testBit_and, tb_pow, Nat.testBit_two_pow_sub_one]
    by_cases h1 : q = i
    · subst h1; simp [hb]
    · simp only [h1, decide_false, Bool.or_false]
      congr 1
      exact decide_eq_decide.mpr (by omega)
  · rw [if_neg e]
    by_cases e2 : x = q
    · subst e2
      rw [if_pos rfl, setb1]
      unfold adG
      rw [if_neg e, if_pos ⟨Nat.le_refl _, hb⟩, if_neg e, if_neg (by omega)]
      apply Nat.eq_of_testBit_eq
      intro i
      rw [tb_ins, tb_del]
      by_cases h1 : p = i
      · subst h1
        rw [hW.2.2 p x hp hq] at hb
        simp [hb]
      · simp [h1, show ¬ i = p from fun z => h1 z.symm]
    · rw [if_neg e2]
      unfold adG
      rw [if_neg e, if_neg e]
      by_cases h : q ≤ x ∧ (gr p).testBit x = true
      · rw [if_pos h, if_pos ⟨by omega, h.2⟩]
      · rw [if_neg h, if_neg (fun z => h ⟨by omega, z.2⟩)]
theorem adG_s0 {gr : Nat → Nat} {p q : Nat} (hb : (gr p).testBit q = false) (x : Nat) : adG gr p (q + 1) x = adG gr p q x := by
  unfold adG
  by_cases e : x = p
  · rw [if_pos e, if_pos e]
    apply Nat.eq_of_testBit_eq
    intro i
    simp only [Nat.testBit_and, Nat.testBit_two_pow_sub_one]
    by_cases h1 : i = q
    · subst h1; simp [hb]
    · congr 1
      exact decide_eq_decide.mpr (by omega)
  · rw [if_neg e, if_neg e]
    by_cases h : q ≤ x ∧ (gr p).testBit x = true
    · rw [if_pos h, if_pos ⟨by
        by_cases e : x = q
        · rw [e, hb] at h; cases h.2
        · omega, h.2⟩]
    · rw [if_neg h, if_neg (fun z => h ⟨by omega, z.2⟩)]
theorem lay_back {n : Nat} {gr : Nat → Nat} (hW : WG n gr) {a b on : Nat} (ha : a < n) (hb : b < n) (hab : ¬ a = b) (ho : on ≤ 1) (h : ((gr a).testBit b).toNat = on) (x : Nat) : layG (layG gr a b (1 - on)) a b on x = gr x := by
  have hs : ∀ y z, ((gr y).testBit z).toNat = on → setb (setb (gr y) z (1 - on)) z on = gr y := by
    intro y z hyz
    rcases (show on = 0 ∨ on = 1 by omega) with e | e
    · subst e
      rw [show 1 - 0 = 1 from rfl, setb1, setb0]
      have hf : (gr y).testBit z = false := by cases q : (gr y).testBit z with | false => rfl | true => rw [q] at hyz; cases hyz
      apply Nat.eq_of_testBit_eq
      intro i
      rw [tb_del, tb_ins]
      by_cases h1 : i = z
      · subst h1; simp [hf]
      · simp [h1, show ¬ z = i from fun q => h1 q.symm]
    · subst e
      rw [show 1 - 1 = 0 from rfl, setb0, setb1]
      have hf : (gr y).testBit z = true := by cases q : (gr y).testBit z with | true => rfl | false => rw [q] at hyz; cases hyz
      apply Nat.eq_of_testBit_eq
      intro i
      rw [tb_ins, tb_del]
      by_cases h1 : i = z
      · subst h1; simp [hf]
      · simp [h1, show ¬ z = i from fun q => h1 q.symm]
  unfold layG
  by_cases e : x = a
  · rw [if_pos e, if_pos rfl, e]; exact hs a b h
  · rw [if_neg e]
    by_cases e2 : x = b
    · rw [if_pos e2, if_neg (fun z => hab z.symm), if_pos rfl, e2]
      exact hs b a (by rw [hW.2.2 b a hb ha]; exact h)
    · rw [if_neg e2, if_neg e, if_neg e2]
/-- twos whose turn changes the least size by so much -/
def tnB (n : Nat) (gr : Nat → Nat) (on : Nat) (by0 : Int32) (a b : Nat) : Bool := decide (((gr a).testBit b).toNat = on) && decide (nI (leN n (layG gr a b (1 - on))) = nI (leN n gr) + by0)
abbrev TN : Type := Option Nat × Nat
def tnI (n : Nat) (gr : Nat → Nat) (on : Nat) (by0 : Int32) (a : Nat) (b : Nat) (s : TN) : TN := if a < b ∧ tnB n gr on by0 a b = true then (some (s.1.getD (12 * a + b)), s.2 + 1) else s
def tnO (n : Nat) (gr : Nat → Nat) (on : Nat) (by0 : Int32) (a : Nat) (s : TN) : TN := lp (tnI n gr on by0 a) n s
def tnN (n : Nat) (gr : Nat → Nat) (on : Nat) (by0 : Int32) : TN := lp (tnO n gr on by0) n (none, 0)
theorem tnI_lt (n : Nat) (gr : Nat → Nat) (on : Nat) (by0 : Int32) {a : Nat} (ha : a < 12) : ∀ k, k ≤ 12 → ∀ s : TN, (∀ x, s.1 = some x → x < 200) → ∀ x, (lp (tnI n gr on by0 a) k s).1 = some x → x < 200 := by
  intro k
  induction k with
  | zero => intro _ s hs; exact hs
  | succ k ih =>
    intro hk s hs x hx
    rw [lp_s] at hx
    unfold tnI at hx
    split at hx
    · simp only [Option.some.injEq] at hx
      have := ih (by omega) s hs
      cases e : (lp (tnI n gr on by0 a) k s).1 with
      | none => unfold tnI at e; rw [e] at hx; simp at hx; omega
      | some y => have h2 := this y e; unfold tnI at e; rw [e] at hx; simp at hx; omega
    · exact ih (by omega) s hs x hx
theorem tnO_lt (n : Nat) (gr : Nat → Nat) (on : Nat) (by0 : Int32) (hn : n ≤ 12) : ∀ k, k ≤ n → ∀ x, (lp (tnO n gr on by0) k (none, 0)).1 = some x → x < 200 := by
  intro k
  induction k with
  | zero => intro _ x h; cases h
  | succ k ih =>
    intro hk x hx
    rw [lp_s] at hx
    exact tnI_lt n gr on by0 (by omega) n hn _ (ih (by omega)) x hx
theorem tnI_le (n : Nat) (gr : Nat → Nat) (on : Nat) (by0 : Int32) (a : Nat) : ∀ k, k ≤ a + 1 → ∀ s : TN, lp (tnI n gr on by0 a) k s = s := by
  intro k
  induction k with
  | zero => intro _ s; rfl
  | succ k ih =>
    intro hk s
    rw [lp_s, ih (by omega) s]
    unfold tnI
    rw [if_neg (by omega)]
section M32
variable {l : Launch} {d : Nat} {K : AK} {I : AI} {J : AJ} {g : Bool} {n : Nat} {gr : Nat → Nat}

theorem cM_proves {s k : Int32} (hG : MG I n gr) (hsz : ∀ s, s < 4 → ∃ z, z ≤ 60 ∧ I 104 s = nI z) (hk1 : (inR s 0 3 && inR k 0 12) = false → K (.int (-2)) I J (rX g)) (hk2 : ∀ s0, s = nI s0 → s0 < 4 → I 103 s0 = -1 → K (.int (-11)) I J (rX g)) (hk : ∀ (s0 k0 z : Nat) (I' : AI), s = nI s0 → s0 < 4 → k = nI k0 → k0 ≤ 12 → ¬ I 103 s0 = -1 → I 104 s0 = nI z → z ≤ 60 → sb fI I I' → K (.int (if (rd n gr (fun j => I 105 (60 * s0 + j)) z 13 (2 ^ n - 1) k0 0 0).1 = true ∧ (rd n gr (fun j => I 105 (60 * s0 + j)) z 13 (2 ^ n - 1) k0 0 0).2 = z then 0 else nI (1 + (rd n gr (fun j => I 105 (60 * s0 + j)) z 13 (2 ^ n - 1) k0 0 0).2))) I' J (rX g)) : G l (d + 28) mX12_proves K 0 [.ref 75, .int s, .int k] [] I J (rX g) := by
  have hpl := pc_le (2 ^ n - 1)
  refine G_iload_1 (nx := 1) ⟨dX12_proves_0, rfl⟩ ?_
  refine G_cs1 (nx := 4) ⟨dX12_proves_1, rfl⟩ kX12_253 rfl rfl (Nat.le_of_ble_eq_true rfl) (Nat.le_of_ble_eq_true rfl) (cM_isSheet ?_)
  refine G_ifeq (tgt := 17) (nx := 7) ⟨dX12_proves_4, rfl⟩ rfl (fun c_4 => ?_) (fun c_4 => ?_)
  · refine G_bipush (nx := 19) ⟨dX12_proves_17, rfl⟩ cb_m2 ?_
    refine G_iret ⟨dX12_proves_19, rfl⟩ rfl ?_
    rw [bi_0] at c_4
    exact hk1 (by simp [c_4])
  · rw [bi_n0] at c_4
    refine G_iload_2 (nx := 8) ⟨dX12_proves_7, rfl⟩ ?_
    refine G_iconst (nx := 9) ⟨dX12_proves_8, rfl⟩ ci_0 ?_
    refine G_bipush (nx := 11) ⟨dX12_proves_9, rfl⟩ cb_12 ?_
    refine G_cs3 (nx := 14) ⟨dX12_proves_11, rfl⟩ kX12_125 rfl rfl (Nat.le_of_ble_eq_true rfl) (Nat.le_of_ble_eq_true rfl) (cM_in ?_)
    refine G_ifne (tgt := 20) (nx := 17) ⟨dX12_proves_14, rfl⟩ rfl (fun c_14 => ?_) (fun c_14 => ?_)
    · rw [bi_n0] at c_14
      obtain ⟨s0, hs0, es⟩ := s_ex c_4
      subst es
      obtain ⟨k0, hk0, ek⟩ := k_ex c_14
      subst ek
      have hin4 := in4 hs0
      have ecs := cl_nI (p := s0) (by omega)
      obtain ⟨z, hz60, hz⟩ := hsz s0 hs0
      refine G_aload_0 (nx := 21) ⟨dX12_proves_20, rfl⟩ ?_
      refine G_getr (nx := 24) (k := 75) (r := 103) ⟨dX12_proves_21, rfl⟩ fX12_97 q_75 yr_12_43 (r_75_43 _) ?_
      refine G_iload_1 (nx := 25) ⟨dX12_proves_24, rfl⟩ ?_
      refine G_iald (nx := 26) (k := 103) ⟨dX12_proves_25, rfl⟩ q_103 (by first | assumption | decide | (unfold vp_in; decide)) ?_
      rw [ecs]
      refine G_iconst (nx := 27) ⟨dX12_proves_26, rfl⟩ ci_m1 ?_
      refine G_icmpne (tgt := 33) (nx := 30) ⟨dX12_proves_27, rfl⟩ rfl (fun c_27 => ?_) (fun c_27 => ?_)
      · refine G_aload_0 (nx := 34) ⟨dX12_proves_33, rfl⟩ ?_
        refine G_iconst (nx := 35) ⟨dX12_proves_34, rfl⟩ ci_0 ?_
        refine G_puti (nx := 38) (k := 75) ⟨dX12_proves_35, rfl⟩ pX12_280 q_75 yt_12_22 ?_
        refine G_aload_0 (nx := 39) ⟨dX12_proves_38, rfl⟩ ?_
        refine G_iload_1 (nx := 40) ⟨dX12_proves_39, rfl⟩ ?_
        refine G_aload_0 (nx := 41) ⟨dX12_proves_40, rfl⟩ ?_
        refine G_cv0 (nx := 44) ⟨dX12_proves_41, rfl⟩ kX12_129 rfl q_75 rfl (Nat.le_of_ble_eq_true rfl) (Nat.le_of_ble_eq_true rfl) (cM_all (hG.w (by decide) (by decide)) ?_)
        refine G_iload_2 (nx := 45) ⟨dX12_proves_44, rfl⟩ ?_
        refine G_iconst (nx := 46) ⟨dX12_proves_45, rfl⟩ ci_0 ?_
        rw [← iI_nat k0, show (0 : Int32) = nI 0 from nI_0.symm]
        refine G_cv4 (nx := 49) ⟨dX12_proves_46, rfl⟩ kX12_283 rfl q_75 rfl (Nat.le_of_ble_eq_true rfl) (Nat.le_of_ble_eq_true rfl) (cM_isTold (d := d) (row := fun j => I 105 (60 * s0 + j)) hs0 hz60 13 _ _ (2 ^ n - 1) k0 0 0 (hG.w (by decide) (by decide)) (by rw [w2_row _ _ _ _ (show ¬ 104 = 75 by decide)]; exact hz) (fun j hj => by rw [w2_row _ _ _ _ (show ¬ 105 = 75 by decide)]) (allLt n) (by omega) (by omega) (by omega) (by omega) (w2_at _ _ _ _) (by omega) (fun I1 h22 h60 hs1 => ?_))
        refine G_ifeq (tgt := 69) (nx := 52) ⟨dX12_proves_49, rfl⟩ rfl (fun c_49 => ?_) (fun c_49 => ?_)
        · refine G_iconst (nx := 70) ⟨dX12_proves_69, rfl⟩ ci_1 ?_
          refine G_aload_0 (nx := 71) ⟨dX12_proves_70, rfl⟩ ?_
          refine G_geti (nx := 74) (k := 75) ⟨dX12_proves_71, rfl⟩ fX12_280 q_75 yi_12_22 ?_
          rw [h22]
          refine G_iadd (nx := 75) ⟨dX12_proves_74, rfl⟩ ?_
          refine G_iret ⟨dX12_proves_75, rfl⟩ rfl ?_
          have fin := hk s0 k0 z I1 rfl hs0 rfl hk0 c_27 hz hz60 ((sb.rf.w rfl).tr hs1)
          rw [bi_0] at c_49
          rw [if_neg (fun h => by rw [c_49] at h; cases h.1)] at fin
          rw [show (1 : Int32) = nI 1 by decide, nI_add]
          exact fin
        · refine G_aload_0 (nx := 53) ⟨dX12_proves_52, rfl⟩ ?_
          refine G_geti (nx := 56) (k := 75) ⟨dX12_proves_53, rfl⟩ fX12_280 q_75 yi_12_22 ?_
          rw [h22]
          refine G_aload_0 (nx := 57) ⟨dX12_proves_56, rfl⟩ ?_
          refine G_getr (nx := 60) (k := 75) (r := 104) ⟨dX12_proves_57, rfl⟩ fX12_100 q_75 yr_12_44 (r_75_44 _) ?_
          refine G_iload_1 (nx := 61) ⟨dX12_proves_60, rfl⟩ ?_
          refine G_iald (nx := 62) (k := 104) ⟨dX12_proves_61, rfl⟩ q_104 (by first | assumption | decide | (unfold vp_in; decide)) ?_
          rw [ecs, hs1 104 s0 rfl, w2_row _ _ _ _ (show ¬ 104 = 75 by decide), hz]
          refine G_icmpne (tgt := 69) (nx := 65) ⟨dX12_proves_62, rfl⟩ rfl (fun c_62 => ?_) (fun c_62 => ?_)
          · refine G_iconst (nx := 70) ⟨dX12_proves_69, rfl⟩ ci_1 ?_
            refine G_aload_0 (nx := 71) ⟨dX12_proves_70, rfl⟩ ?_
            refine G_geti (nx := 74) (k := 75) ⟨dX12_proves_71, rfl⟩ fX12_280 q_75 yi_12_22 ?_
            rw [h22]
            refine G_iadd (nx := 75) ⟨dX12_proves_74, rfl⟩ ?_
            refine G_iret ⟨dX12_proves_75, rfl⟩ rfl ?_
            have fin := hk s0 k0 z I1 rfl hs0 rfl hk0 c_27 hz hz60 ((sb.rf.w rfl).tr hs1)
            rw [bi_n0] at c_49
            rw [nI_eq (by omega) (by omega)] at c_62
            rw [if_neg (fun h => c_62 h.2)] at fin
            rw [show (1 : Int32) = nI 1 by decide, nI_add]
            exact fin
          · refine G_iconst (nx := 66) ⟨dX12_proves_65, rfl⟩ ci_0 ?_
            refine G_goto (tgt := 75) ⟨dX12_proves_66, rfl⟩ rfl ?_
            refine G_iret ⟨dX12_proves_75, rfl⟩ rfl ?_
            have fin := hk s0 k0 z I1 rfl hs0 rfl hk0 c_27 hz hz60 ((sb.rf.w rfl).tr hs1)
            rw [bi_n0] at c_49
            rw [nI_eq (by omega) (by omega)] at c_62
            rw [if_pos ⟨c_49, c_62⟩] at fin
            exact fin
      · refine G_bipush (nx := 32) ⟨dX12_proves_30, rfl⟩ cb_m11 ?_
        refine G_iret ⟨dX12_proves_32, rfl⟩ rfl ?_
        exact hk2 s0 rfl hs0 c_27
    · refine G_bipush (nx := 19) ⟨dX12_proves_17, rfl⟩ cb_m2 ?_
      refine G_iret ⟨dX12_proves_19, rfl⟩ rfl ?_
      rw [bi_0] at c_14
      exact hk1 (by simp [c_14])

theorem lM_wiB {p : Nat} {r : Int32} (hW : WG n gr) (hn : n ≤ 12) (hp : p < n) (hk : ∀ (I' : AI), MG I' n gr → sb f78 I I' → K (.int r) I' J (rX g)) : ∀ (k q : Nat) (I1 : AI), n - q = k → q ≤ n → MG I1 n (adG gr p q) → sb f78 I I1 → G l (d + 2) mX12_without K 57 [.ref 75, .int (nI p), .int (nI (gr p)), .int r, .int (nI q)] [] I1 J (rX g) := by
  intro k
  induction k using Nat.strongRecOn with
  | _ k ih =>
  intro q I1 hqk hqn hG1 hs1
  have e0 := hG1.1
  have hgl : gr p < 4096 := Nat.lt_of_lt_of_le (hW.1 p hp) (pow12 hn)
  refine G_iload_4 (nx := 59) ⟨dX12_without_57, rfl⟩ ?_
  refine G_aload_0 (nx := 60) ⟨dX12_without_59, rfl⟩ ?_
  refine G_geti (nx := 63) (k := 75) ⟨dX12_without_60, rfl⟩ fX12_122 q_75 yi_12_0 ?_
  rw [e0]
  refine G_icmpge (tgt := 89) (nx := 66) ⟨dX12_without_63, rfl⟩ rfl (fun c_63 => ?_) (fun c_63 => ?_)
  · refine G_iload_3 (nx := 90) ⟨dX12_without_89, rfl⟩ ?_
    refine G_iret ⟨dX12_without_90, rfl⟩ rfl ?_
    rw [nI_le_iff (by omega) (by omega)] at c_63
    have : q = n := by omega
    subst this
    exact hk I1 (hG1.congr (fun x hx => (adG_n hW.1 hp x hx).symm)) hs1
  · rw [nI_le_iff (by omega) (by omega)] at c_63
    have hq : q < n := by omega
    refine G_iload_2 (nx := 67) ⟨dX12_without_66, rfl⟩ ?_
    refine G_iload_4 (nx := 69) ⟨dX12_without_67, rfl⟩ ?_
    refine G_cs2 (nx := 72) ⟨dX12_without_69, rfl⟩ kX12_118 rfl rfl (Nat.le_of_ble_eq_true rfl) (Nat.le_of_ble_eq_true rfl) (cM_has (lt31 hgl) (by omega) ?_)
    refine G_ifeq (tgt := 83) (nx := 75) ⟨dX12_without_72, rfl⟩ rfl (fun c_72 => ?_) (fun c_72 => ?_)
    · refine G_iinc_4 (nx := 86) ⟨dX12_without_83, rfl⟩ ci_1 rfl ?_
      refine G_goto (tgt := 57) ⟨dX12_without_86, rfl⟩ rfl ?_
      rw [bi_0] at c_72
      refine G_L (by rw [nI_1]) (ih (n - (q + 1)) (by omega) (q + 1) I1 rfl (by omega) (hG1.congr (fun x _ => adG_s0 c_72 x)) hs1)
    · rw [bi_n0] at c_72
      have hpq : ¬ p = q := fun e => by rw [← e, hW.2.1 p hp] at c_72; cases c_72
      refine G_aload_0 (nx := 76) ⟨dX12_without_75, rfl⟩ ?_
      refine G_iload_1 (nx := 77) ⟨dX12_without_76, rfl⟩ ?_
      refine G_iload_4 (nx := 79) ⟨dX12_without_77, rfl⟩ ?_
      refine G_iconst (nx := 80) ⟨dX12_without_79, rfl⟩ ci_1 ?_
      rw [show (1 : Int32) = nI 1 by decide]
      refine G_cvv3 (nx := 83) ⟨dX12_without_80, rfl⟩ kX12_152 rfl q_75 rfl (Nat.le_of_ble_eq_true rfl) (Nat.le_of_ble_eq_true rfl) (cM_lays (on := 1) hG1 hp hq hpq (by omega) ?_)
      refine G_iinc_4 (nx := 86) ⟨dX12_without_83, rfl⟩ ci_1 rfl ?_
      refine G_goto (tgt := 57) ⟨dX12_without_86, rfl⟩ rfl ?_
      refine G_L (by rw [nI_1]) (ih (n - (q + 1)) (by omega) (q + 1) _ rfl (by omega) ((hG1.lay hp hq hpq (by omega)).congr (fun x _ => (adG_s1 hW hp hq c_72 x).symm)) ((hs1.w rfl).w rfl))

theorem lM_wiA {p : Nat} (hW : WG n gr) (hn : n ≤ 12) (hp : p < n) (hk : ∀ (I' : AI), MG I' n (rmG gr p n) → sb f78 I I' → G l (d + 3) mX12_without K 49 [.ref 75, .int (nI p), .int (nI (gr p)), .int (nI n), UU] [] I' J (rX g)) : ∀ (k q : Nat) (I1 : AI), n - q = k → q ≤ n → MG I1 n (rmG gr p q) → sb f78 I I1 → G l (d + 3) mX12_without K 20 [.ref 75, .int (nI p), .int (nI (gr p)), .int (nI q), UU] [] I1 J (rX g) := by
  intro k
  induction k using Nat.strongRecOn with
  | _ k ih =>
  intro q I1 hqk hqn hG1 hs1
  have e0 := hG1.1
  have hgl : gr p < 4096 := Nat.lt_of_lt_of_le (hW.1 p hp) (pow12 hn)
  refine G_iload_3 (nx := 21) ⟨dX12_without_20, rfl⟩ ?_
  refine G_aload_0 (nx := 22) ⟨dX12_without_21, rfl⟩ ?_
  refine G_geti (nx := 25) (k := 75) ⟨dX12_without_22, rfl⟩ fX12_122 q_75 yi_12_0 ?_
  rw [e0]
  refine G_icmpge (tgt := 49) (nx := 28) ⟨dX12_without_25, rfl⟩ rfl (fun c_25 => ?_) (fun c_25 => ?_)
  · rw [nI_le_iff (by omega) (by omega)] at c_25
    have : q = n := by omega
    subst this
    exact hk I1 hG1 hs1
  · rw [nI_le_iff (by omega) (by omega)] at c_25
    have hq : q < n := by omega
    refine G_iload_2 (nx := 29) ⟨dX12_without_28, rfl⟩ ?_
    refine G_iload_3 (nx := 30) ⟨dX12_without_29, rfl⟩ ?_
    refine G_cs2 (nx := 33) ⟨dX12_without_30, rfl⟩ kX12_118 rfl rfl (Nat.le_of_ble_eq_true rfl) (Nat.le_of_ble_eq_true rfl) (cM_has (lt31 hgl) (by omega) ?_)
    refine G_ifeq (tgt := 43) (nx := 36) ⟨dX12_without_33, rfl⟩ rfl (fun c_33 => ?_) (fun c_33 => ?_)
    · refine G_iinc_3 (nx := 46) ⟨dX12_without_43, rfl⟩ ci_1 rfl ?_
      refine G_goto (tgt := 20) ⟨dX12_without_46, rfl⟩ rfl ?_
      rw [bi_0] at c_33
      refine G_L (by rw [nI_1]) (ih (n - (q + 1)) (by omega) (q + 1) I1 rfl (by omega) (hG1.congr (fun x _ => rmG_s0 c_33 x)) hs1)
    · rw [bi_n0] at c_33
      have hpq : ¬ p = q := fun e => by rw [← e, hW.2.1 p hp] at c_33; cases c_33
      refine G_aload_0 (nx := 37) ⟨dX12_without_36, rfl⟩ ?_
      refine G_iload_1 (nx := 38) ⟨dX12_without_37, rfl⟩ ?_
      refine G_iload_3 (nx := 39) ⟨dX12_without_38, rfl⟩ ?_
      refine G_iconst (nx := 40) ⟨dX12_without_39, rfl⟩ ci_0 ?_
      rw [show (0 : Int32) = nI 0 by decide]
      refine G_cvv3 (nx := 43) ⟨dX12_without_40, rfl⟩ kX12_152 rfl q_75 rfl (Nat.le_of_ble_eq_true rfl) (Nat.le_of_ble_eq_true rfl) (cM_lays (on := 0) hG1 hp hq hpq (by omega) ?_)
      refine G_iinc_3 (nx := 46) ⟨dX12_without_43, rfl⟩ ci_1 rfl ?_
      refine G_goto (tgt := 20) ⟨dX12_without_46, rfl⟩ rfl ?_
      refine G_L (by rw [nI_1]) (ih (n - (q + 1)) (by omega) (q + 1) _ rfl (by omega) ((hG1.lay hp hq hpq (by omega)).congr (fun x _ => (rmG_s1 hW hp hq c_33 x).symm)) ((hs1.w rfl).w rfl))

theorem cM_without {q : Int32} (hW : WG n gr) (hG : MG I n gr) (hk1 : ptB n q = false → K (.int (-2)) I J (rX g)) (hk : ∀ (p : Nat) (I' : AI), p < n → q = nI p → MG I' n gr → sb f78 I I' → K (.int (nI (leN n (rmG gr p n)))) I' J (rX g)) : G l (d + 3) mX12_without K 0 [.ref 75, .int q, UU, UU, UU] [] I J (rX g) := by
  have hn := hG.2.1
  refine G_aload_0 (nx := 1) ⟨dX12_without_0, rfl⟩ ?_
  refine G_iload_1 (nx := 2) ⟨dX12_without_1, rfl⟩ ?_
  refine G_cv1 (nx := 5) ⟨dX12_without_2, rfl⟩ kX12_145 rfl q_75 rfl (Nat.le_of_ble_eq_true rfl) (Nat.le_of_ble_eq_true rfl) (cM_isPoint hG ?_)
  refine G_ifne (tgt := 11) (nx := 8) ⟨dX12_without_5, rfl⟩ rfl (fun c_5 => ?_) (fun c_5 => ?_)
  · rw [bi_n0] at c_5
    obtain ⟨p, hp, ep⟩ := ptB_ex (by omega) c_5
    subst ep
    have h12 := in12 hp hn
    refine G_aload_0 (nx := 12) ⟨dX12_without_11, rfl⟩ ?_
    refine G_getr (nx := 15) (k := 75) (r := 78) ⟨dX12_without_12, rfl⟩ fX12_20 q_75 yr_12_4 (r_75_4 _) ?_
    refine G_iload_1 (nx := 16) ⟨dX12_without_15, rfl⟩ ?_
    refine G_iald (nx := 17) (k := 78) ⟨dX12_without_16, rfl⟩ q_78 (by first | assumption | decide | (unfold vp_in; decide)) ?_
    rw [hG.row hp]
    refine G_istore_2 (nx := 18) ⟨dX12_without_17, rfl⟩ rfl rfl ?_
    refine G_iconst (nx := 19) ⟨dX12_without_18, rfl⟩ ci_0 ?_
    refine G_istore_3 (nx := 20) ⟨dX12_without_19, rfl⟩ rfl rfl ?_
    refine lM_wiA hW hn hp (fun I1 hG1 hs1 => ?_) _ 0 I rfl (Nat.zero_le _) (hG.congr (fun x _ => rmG_0 gr p x)) sb.rf
    refine G_aload_0 (nx := 50) ⟨dX12_without_49, rfl⟩ ?_
    refine G_cv0 (nx := 53) ⟨dX12_without_50, rfl⟩ kX12_180 rfl q_75 rfl (Nat.le_of_ble_eq_true rfl) (Nat.le_of_ble_eq_true rfl) (cM_least hG1 ?_)
    refine G_istore_3 (nx := 54) ⟨dX12_without_53, rfl⟩ rfl rfl ?_
    refine G_iconst (nx := 55) ⟨dX12_without_54, rfl⟩ ci_0 ?_
    refine G_istore_4 (nx := 57) ⟨dX12_without_55, rfl⟩ rfl rfl ?_
    exact lM_wiB hW hn hp (fun I2 hG2 hs2 => hk p I2 hp rfl hG2 (hs1.tr hs2)) _ 0 I1 rfl (Nat.zero_le _) (hG1.congr (fun x hx => adG_0 hW.1 hp x hx)) sb.rf
    
  · rw [bi_0] at c_5
    refine G_bipush (nx := 10) ⟨dX12_without_8, rfl⟩ cb_m2 ?_
    refine G_iret ⟨dX12_without_10, rfl⟩ rfl ?_
    exact hk1 c_5

theorem lM_tuI {a on : Nat} {by0 q : Int32} (hW : WG n gr) (hn : n ≤ 12) (ha : a < n) (ho : on ≤ 1) (hgo : ∀ (I' : AI) (x9 : Value), notL x9 = true → MG I' n gr → sb f78 I I' → G l (d + 3) mX12_turning K 126 [.ref 75, .int (nI on), .int by0, .int q, .int (nI (leN n gr)), .int (mv (lp (tnO n gr on by0) (a + 1) (none, 0)).1), .int (nI (lp (tnO n gr on by0) (a + 1) (none, 0)).2), .int (nI a), .int (nI n), x9] [] I' J (rX g)) : ∀ (k b : Nat) (I1 : AI) (x9 : Value), notL x9 = true → n - b = k → a < b → b ≤ n → MG I1 n gr → sb f78 I I1 → G l (d + 3) mX12_turning K 30 [.ref 75, .int (nI on), .int by0, .int q, .int (nI (leN n gr)), .int (mv (lp (tnI n gr on by0 a) b (lp (tnO n gr on by0) a (none, 0))).1), .int (nI (lp (tnI n gr on by0 a) b (lp (tnO n gr on by0) a (none, 0))).2), .int (nI a), .int (nI b), x9] [] I1 J (rX g) := by
  intro k
  induction k using Nat.strongRecOn with
  | _ k ih =>
  intro b I1 x9 hx9 hbk hab hbn hG1 hs1
  have e0 := hG1.1
  have hin := in12 ha hn
  have hgl : gr a < 4096 := Nat.lt_of_lt_of_le (hW.1 a ha) (pow12 hn)
  have hsl := tnI_lt n gr on by0 (show a < 12 by omega) b (by omega) _ (tnO_lt n gr on by0 hn a (by omega))
  refine G_iload_8 (nx := 32) ⟨dX12_turning_30, rfl⟩ ?_
  refine G_aload_0 (nx := 33) ⟨dX12_turning_32, rfl⟩ ?_
  refine G_geti (nx := 36) (k := 75) ⟨dX12_turning_33, rfl⟩ fX12_122 q_75 yi_12_0 ?_
  rw [e0]
  refine G_icmpge (tgt := 126) (nx := 39) ⟨dX12_turning_36, rfl⟩ rfl (fun c_36 => ?_) (fun c_36 => ?_)
  · rw [nI_le_iff (by omega) (by omega)] at c_36
    have : b = n := by omega
    subst this
    exact hgo I1 x9 hx9 hG1 hs1
  · rw [nI_le_iff (by omega) (by omega)] at c_36
    have hb : b < n := by omega
    refine G_aload_0 (nx := 40) ⟨dX12_turning_39, rfl⟩ ?_
    refine G_getr (nx := 43) (k := 75) (r := 78) ⟨dX12_turning_40, rfl⟩ fX12_20 q_75 yr_12_4 (r_75_4 _) ?_
    refine G_iload_7 (nx := 45) ⟨dX12_turning_43, rfl⟩ ?_
    refine G_iald (nx := 46) (k := 78) ⟨dX12_turning_45, rfl⟩ q_78 (by first | assumption | decide | (unfold vp_in; decide)) ?_
    rw [hG1.row ha]
    refine G_iload_8 (nx := 48) ⟨dX12_turning_46, rfl⟩ ?_
    refine G_ishr (nx := 49) ⟨dX12_turning_48, rfl⟩ ?_
    refine G_iconst (nx := 50) ⟨dX12_turning_49, rfl⟩ ci_1 ?_
    refine G_iand (nx := 51) ⟨dX12_turning_50, rfl⟩ ?_
    rw [bit_nI (lt31 hgl) (by omega)]
    refine G_iload_1 (nx := 52) ⟨dX12_turning_51, rfl⟩ ?_
    refine G_icmpeq (tgt := 58) (nx := 55) ⟨dX12_turning_52, rfl⟩ rfl (fun c_52 => ?_) (fun c_52 => ?_)
    · have hon : ((gr a).testBit b).toNat = on := by
        rw [nI_bi] at c_52
        have := b1 ((gr a).testBit b)
        exact nI_inj (by omega) (by omega) c_52
      refine G_aload_0 (nx := 59) ⟨dX12_turning_58, rfl⟩ ?_
      refine G_iload_7 (nx := 61) ⟨dX12_turning_59, rfl⟩ ?_
      refine G_iload_8 (nx := 63) ⟨dX12_turning_61, rfl⟩ ?_
      refine G_iconst (nx := 64) ⟨dX12_turning_63, rfl⟩ ci_1 ?_
      refine G_iload_1 (nx := 65) ⟨dX12_turning_64, rfl⟩ ?_
      refine G_isub (nx := 66) ⟨dX12_turning_65, rfl⟩ ?_
      rw [show (1 : Int32) = nI 1 by decide, pk_sub ho]
      refine G_cvv3 (nx := 69) ⟨dX12_turning_66, rfl⟩ kX12_152 rfl q_75 rfl (Nat.le_of_ble_eq_true rfl) (Nat.le_of_ble_eq_true rfl) (cM_lays (on := 1 - on) hG1 ha hb (by omega) (by omega) ?_)
      have hG2 := hG1.lay (on := 1 - on) ha hb (by omega) (by omega)
      refine G_aload_0 (nx := 70) ⟨dX12_turning_69, rfl⟩ ?_
      refine G_cv0 (nx := 73) ⟨dX12_turning_70, rfl⟩ kX12_180 rfl q_75 rfl (Nat.le_of_ble_eq_true rfl) (Nat.le_of_ble_eq_true rfl) (cM_least hG2 ?_)
      refine G_istore_9 (nx := 75) ⟨dX12_turning_73, rfl⟩ rfl rfl ?_
      refine G_aload_0 (nx := 76) ⟨dX12_turning_75, rfl⟩ ?_
      refine G_iload_7 (nx := 78) ⟨dX12_turning_76, rfl⟩ ?_
      refine G_iload_8 (nx := 80) ⟨dX12_turning_78, rfl⟩ ?_
      refine G_iload_1 (nx := 81) ⟨dX12_turning_80, rfl⟩ ?_
      refine G_cvv3 (nx := 84) ⟨dX12_turning_81, rfl⟩ kX12_152 rfl q_75 rfl (Nat.le_of_ble_eq_true rfl) (Nat.le_of_ble_eq_true rfl) (cM_lays (on := on) hG2 ha hb (by omega) ho ?_)
      have hG3 := (hG2.lay ha hb (by omega) ho).congr (gr' := gr) (fun x _ => (lay_back hW ha hb (by omega) ho hon x).symm)
      refine G_iload_9 (nx := 86) ⟨dX12_turning_84, rfl⟩ ?_
      refine G_iload_4 (nx := 88) ⟨dX12_turning_86, rfl⟩ ?_
      refine G_iload_2 (nx := 89) ⟨dX12_turning_88, rfl⟩ ?_
      refine G_iadd (nx := 90) ⟨dX12_turning_89, rfl⟩ ?_
      refine G_icmpeq (tgt := 96) (nx := 93) ⟨dX12_turning_90, rfl⟩ rfl (fun c_90 => ?_) (fun c_90 => ?_)
      · refine G_iload_5 (nx := 98) ⟨dX12_turning_96, rfl⟩ ?_
        refine G_iconst (nx := 99) ⟨dX12_turning_98, rfl⟩ ci_m1 ?_
        refine G_icmpne (tgt := 113) (nx := 102) ⟨dX12_turning_99, rfl⟩ rfl (fun c_99 => ?_) (fun c_99 => ?_)
        · refine G_iload_5 (nx := 115) ⟨dX12_turning_113, rfl⟩ ?_
          refine G_istore_5 (nx := 117) ⟨dX12_turning_115, rfl⟩ rfl rfl ?_
          refine G_iinc_6 (nx := 120) ⟨dX12_turning_117, rfl⟩ ci_1 rfl ?_
          refine G_iinc_8 (nx := 123) ⟨dX12_turning_120, rfl⟩ ci_1 rfl ?_
          refine G_goto (tgt := 30) ⟨dX12_turning_123, rfl⟩ rfl ?_
          have hbt : tnB n gr on by0 a b = true := by
            unfold tnB
            rw [decide_eq_true hon, decide_eq_true c_90]
            rfl
          refine G_L ?_ (ih (n - (b + 1)) (by omega) (b + 1) _ (.int (nI (leN n (layG gr a b (1 - on))))) rfl rfl (by omega) (by omega) hG3 ((((hs1.w rfl).w rfl).w rfl).w rfl))
          have hst : lp (tnI n gr on by0 a) (b + 1) (lp (tnO n gr on by0) a (none, 0)) = (some ((lp (tnI n gr on by0 a) b (lp (tnO n gr on by0) a (none, 0))).1.getD (12 * a + b)), (lp (tnI n gr on by0 a) b (lp (tnO n gr on by0) a (none, 0))).2 + 1) := by
            rw [lp_s]
            conv => lhs; unfold tnI
            rw [if_pos ⟨hab, hbt⟩]
            rfl
          rw [hst, nI_1, nI_1]
          cases e : (lp (tnI n gr on by0 a) b (lp (tnO n gr on by0) a (none, 0))).1 with
          | none => first | (rw [show (12 : Int32) = nI 12 by decide, pk_mul, nI_add]; rfl) | (rw [e] at c_99; exact absurd rfl c_99)
          | some y => first | (rw [e] at c_99; exact absurd c_99 (nI_ne_m1 (by have := hsl y e; omega))) | rfl
        · refine G_bipush (nx := 104) ⟨dX12_turning_102, rfl⟩ cb_12 ?_
          refine G_iload_7 (nx := 106) ⟨dX12_turning_104, rfl⟩ ?_
          refine G_imul (nx := 107) ⟨dX12_turning_106, rfl⟩ ?_
          refine G_iload_8 (nx := 109) ⟨dX12_turning_107, rfl⟩ ?_
          refine G_iadd (nx := 110) ⟨dX12_turning_109, rfl⟩ ?_
          refine G_goto (tgt := 115) ⟨dX12_turning_110, rfl⟩ rfl ?_
          refine G_istore_5 (nx := 117) ⟨dX12_turning_115, rfl⟩ rfl rfl ?_
          refine G_iinc_6 (nx := 120) ⟨dX12_turning_117, rfl⟩ ci_1 rfl ?_
          refine G_iinc_8 (nx := 123) ⟨dX12_turning_120, rfl⟩ ci_1 rfl ?_
          refine G_goto (tgt := 30) ⟨dX12_turning_123, rfl⟩ rfl ?_
          have hbt : tnB n gr on by0 a b = true := by
            unfold tnB
            rw [decide_eq_true hon, decide_eq_true c_90]
            rfl
          refine G_L ?_ (ih (n - (b + 1)) (by omega) (b + 1) _ (.int (nI (leN n (layG gr a b (1 - on))))) rfl rfl (by omega) (by omega) hG3 ((((hs1.w rfl).w rfl).w rfl).w rfl))
          have hst : lp (tnI n gr on by0 a) (b + 1) (lp (tnO n gr on by0) a (none, 0)) = (some ((lp (tnI n gr on by0 a) b (lp (tnO n gr on by0) a (none, 0))).1.getD (12 * a + b)), (lp (tnI n gr on by0 a) b (lp (tnO n gr on by0) a (none, 0))).2 + 1) := by
            rw [lp_s]
            conv => lhs; unfold tnI
            rw [if_pos ⟨hab, hbt⟩]
            rfl
          rw [hst, nI_1, nI_1]
          cases e : (lp (tnI n gr on by0 a) b (lp (tnO n gr on by0) a (none, 0))).1 with
          | none => first | (rw [show (12 : Int32) = nI 12 by decide, pk_mul, nI_add]; rfl) | (rw [e] at c_99; exact absurd rfl c_99)
          | some y => first | (rw [e] at c_99; exact absurd c_99 (nI_ne_m1 (by have := hsl y e; omega))) | rfl
      · refine G_goto (tgt := 120) ⟨dX12_turning_93, rfl⟩ rfl ?_
        refine G_iinc_8 (nx := 123) ⟨dX12_turning_120, rfl⟩ ci_1 rfl ?_
        refine G_goto (tgt := 30) ⟨dX12_turning_123, rfl⟩ rfl ?_
        have hbf : tnB n gr on by0 a b = false := by
          unfold tnB
          rw [decide_eq_false (p := nI (leN n (layG gr a b (1 - on))) = nI (leN n gr) + by0) c_90, Bool.and_false]
        refine G_L ?_ (ih (n - (b + 1)) (by omega) (b + 1) _ (.int (nI (leN n (layG gr a b (1 - on))))) rfl rfl (by omega) (by omega) hG3 ((((hs1.w rfl).w rfl).w rfl).w rfl))
        simp [lp_s, tnI, hbf, nI_1]
    · 
      refine G_goto (tgt := 120) ⟨dX12_turning_55, rfl⟩ rfl ?_
      refine G_iinc_8 (nx := 123) ⟨dX12_turning_120, rfl⟩ ci_1 rfl ?_
      refine G_goto (tgt := 30) ⟨dX12_turning_123, rfl⟩ rfl ?_
      have hbf : tnB n gr on by0 a b = false := by
        unfold tnB
        rw [decide_eq_false (fun h => c_52 (by rw [← h]; exact nI_bi _)), Bool.false_and]
      refine G_L ?_ (ih (n - (b + 1)) (by omega) (b + 1) I1 x9 hx9 rfl (by omega) (by omega) hG1 hs1)
      simp [lp_s, tnI, hbf, nI_1]

theorem lM_tuO {on : Nat} {by0 q : Int32} (hW : WG n gr) (hn : n ≤ 12) (ho : on ≤ 1) (hk : ∀ (I' : AI), MG I' n gr → sb f78 I I' → K (.int (if q = 0 then mv (tnN n gr on by0).1 else nI (tnN n gr on by0).2)) I' J (rX g)) : ∀ (k a : Nat) (I1 : AI) (x8 x9 : Value), notL x8 = true → notL x9 = true → n - a = k → a ≤ n → MG I1 n gr → sb f78 I I1 → G l (d + 3) mX12_turning K 15 [.ref 75, .int (nI on), .int by0, .int q, .int (nI (leN n gr)), .int (mv (lp (tnO n gr on by0) a (none, 0)).1), .int (nI (lp (tnO n gr on by0) a (none, 0)).2), .int (nI a), x8, x9] [] I1 J (rX g) := by
  intro k
  induction k using Nat.strongRecOn with
  | _ k ih =>
  intro a I1 x8 x9 hx8 hx9 hak han hG1 hs1
  have e0 := hG1.1
  refine G_iload_7 (nx := 17) ⟨dX12_turning_15, rfl⟩ ?_
  refine G_aload_0 (nx := 18) ⟨dX12_turning_17, rfl⟩ ?_
  refine G_geti (nx := 21) (k := 75) ⟨dX12_turning_18, rfl⟩ fX12_122 q_75 yi_12_0 ?_
  rw [e0]
  refine G_icmpge (tgt := 132) (nx := 24) ⟨dX12_turning_21, rfl⟩ rfl (fun c_21 => ?_) (fun c_21 => ?_)
  · refine G_iload_3 (nx := 133) ⟨dX12_turning_132, rfl⟩ ?_
    refine G_ifne (tgt := 141) (nx := 136) ⟨dX12_turning_133, rfl⟩ rfl (fun c_133 => ?_) (fun c_133 => ?_)
    · refine G_iload_6 (nx := 143) ⟨dX12_turning_141, rfl⟩ ?_
      refine G_iret ⟨dX12_turning_143, rfl⟩ rfl ?_
      rw [nI_le_iff (by omega) (by omega)] at c_21
      have : a = n := by omega
      subst this
      refine K_v (congrArg Value.int ?_) (hk I1 hG1 hs1)
      simp [c_133, tnN]
    · refine G_iload_5 (nx := 138) ⟨dX12_turning_136, rfl⟩ ?_
      refine G_goto (tgt := 143) ⟨dX12_turning_138, rfl⟩ rfl ?_
      refine G_iret ⟨dX12_turning_143, rfl⟩ rfl ?_
      rw [nI_le_iff (by omega) (by omega)] at c_21
      have : a = n := by omega
      subst this
      refine K_v (congrArg Value.int ?_) (hk I1 hG1 hs1)
      simp [c_133, tnN]
  · rw [nI_le_iff (by omega) (by omega)] at c_21
    have ha : a < n := by omega
    refine G_iload_7 (nx := 26) ⟨dX12_turning_24, rfl⟩ ?_
    refine G_iconst (nx := 27) ⟨dX12_turning_26, rfl⟩ ci_1 ?_
    refine G_iadd (nx := 28) ⟨dX12_turning_27, rfl⟩ ?_
    refine G_istore_8 (nx := 30) ⟨dX12_turning_28, rfl⟩ rfl rfl ?_
    rw [nI_1]
    have hin := tnI_le n gr on by0 a (a + 1) (Nat.le_refl _) (lp (tnO n gr on by0) a (none, 0))
    have := lM_tuI (l := l) (d := d) (K := K) (J := J) (g := g) (I := I1) (q := q) (by0 := by0) (on := on) hW hn ha ho (fun I2 y9 hy9 hG2 hs2 => ?_) _ (a + 1) I1 x9 hx9 rfl (by omega) (by omega) hG1 sb.rf
    · rw [hin] at this
      exact this
    · refine G_iinc_7 (nx := 129) ⟨dX12_turning_126, rfl⟩ ci_1 rfl ?_
      refine G_goto (tgt := 15) ⟨dX12_turning_129, rfl⟩ rfl ?_
      exact G_L (by rw [nI_1]) (ih (n - (a + 1)) (by omega) (a + 1) I2 (.int (nI n)) y9 rfl hy9 rfl (by omega) hG2 (hs1.tr hs2))

theorem cM_turning {on : Nat} {by0 q : Int32} (hW : WG n gr) (hG : MG I n gr) (ho : on ≤ 1) (hk : ∀ (I' : AI), MG I' n gr → sb f78 I I' → K (.int (if q = 0 then mv (tnN n gr on by0).1 else nI (tnN n gr on by0).2)) I' J (rX g)) : G l (d + 3) mX12_turning K 0 [.ref 75, .int (nI on), .int by0, .int q, UU, UU, UU, UU, UU, UU] [] I J (rX g) := by
  refine G_aload_0 (nx := 1) ⟨dX12_turning_0, rfl⟩ ?_
  refine G_cv0 (nx := 4) ⟨dX12_turning_1, rfl⟩ kX12_180 rfl q_75 rfl (Nat.le_of_ble_eq_true rfl) (Nat.le_of_ble_eq_true rfl) (cM_least hG ?_)
  refine G_istore_4 (nx := 6) ⟨dX12_turning_4, rfl⟩ rfl rfl ?_
  refine G_iconst (nx := 7) ⟨dX12_turning_6, rfl⟩ ci_m1 ?_
  refine G_istore_5 (nx := 9) ⟨dX12_turning_7, rfl⟩ rfl rfl ?_
  refine G_iconst (nx := 10) ⟨dX12_turning_9, rfl⟩ ci_0 ?_
  refine G_istore_6 (nx := 12) ⟨dX12_turning_10, rfl⟩ rfl rfl ?_
  refine G_iconst (nx := 13) ⟨dX12_turning_12, rfl⟩ ci_0 ?_
  refine G_istore_7 (nx := 15) ⟨dX12_turning_13, rfl⟩ rfl rfl ?_
  exact lM_tuO hW hG.2.1 ho hk _ 0 I UU UU rfl rfl rfl (Nat.zero_le _) hG sb.rf

theorem cM_cut {q : Int32} (hW : WG n gr) (hG : MG I n gr) (hk1 : inR q 0 1 = false → K (.int (-2)) I J (rX g)) (hk : ∀ (I' : AI), inR q 0 1 = true → MG I' n gr → sb f78 I I' → K (.int (if q = 0 then mv (tnN n gr 1 (-1)).1 else nI (tnN n gr 1 (-1)).2)) I' J (rX g)) : G l (d + 4) mX12_cut K 0 [.ref 75, .int q] [] I J (rX g) := by
  refine G_iload_1 (nx := 1) ⟨dX12_cut_0, rfl⟩ ?_
  refine G_iconst (nx := 2) ⟨dX12_cut_1, rfl⟩ ci_0 ?_
  refine G_iconst (nx := 3) ⟨dX12_cut_2, rfl⟩ ci_1 ?_
  refine G_cs3 (nx := 6) ⟨dX12_cut_3, rfl⟩ kX12_125 rfl rfl (Nat.le_of_ble_eq_true rfl) (Nat.le_of_ble_eq_true rfl) (cM_in ?_)
  refine G_ifeq (tgt := 19) (nx := 9) ⟨dX12_cut_6, rfl⟩ rfl (fun c_6 => ?_) (fun c_6 => ?_)
  · rw [bi_0] at c_6
    refine G_bipush (nx := 21) ⟨dX12_cut_19, rfl⟩ cb_m2 ?_
    refine G_iret ⟨dX12_cut_21, rfl⟩ rfl ?_
    exact hk1 c_6
  · rw [bi_n0] at c_6
    refine G_aload_0 (nx := 10) ⟨dX12_cut_9, rfl⟩ ?_
    refine G_iconst (nx := 11) ⟨dX12_cut_10, rfl⟩ ci_1 ?_
    refine G_iconst (nx := 12) ⟨dX12_cut_11, rfl⟩ ci_m1 ?_
    refine G_iload_1 (nx := 13) ⟨dX12_cut_12, rfl⟩ ?_
    refine G_cv3 (nx := 16) ⟨dX12_cut_13, rfl⟩ kX12_287 rfl q_75 rfl (Nat.le_of_ble_eq_true rfl) (Nat.le_of_ble_eq_true rfl) (cM_turning (on := 1) (by0 := (-1)) hW hG (by omega) (fun I1 hG1 hs1 => ?_))
    refine G_goto (tgt := 21) ⟨dX12_cut_16, rfl⟩ rfl ?_
    refine G_iret ⟨dX12_cut_21, rfl⟩ rfl ?_
    exact hk I1 c_6 hG1 hs1

theorem cM_joins {q : Int32} (hW : WG n gr) (hG : MG I n gr) (hk1 : inR q 0 1 = false → K (.int (-2)) I J (rX g)) (hk : ∀ (I' : AI), inR q 0 1 = true → MG I' n gr → sb f78 I I' → K (.int (if q = 0 then mv (tnN n gr 0 1).1 else nI (tnN n gr 0 1).2)) I' J (rX g)) : G l (d + 4) mX12_joins K 0 [.ref 75, .int q] [] I J (rX g) := by
  refine G_iload_1 (nx := 1) ⟨dX12_joins_0, rfl⟩ ?_
  refine G_iconst (nx := 2) ⟨dX12_joins_1, rfl⟩ ci_0 ?_
  refine G_iconst (nx := 3) ⟨dX12_joins_2, rfl⟩ ci_1 ?_
  refine G_cs3 (nx := 6) ⟨dX12_joins_3, rfl⟩ kX12_125 rfl rfl (Nat.le_of_ble_eq_true rfl) (Nat.le_of_ble_eq_true rfl) (cM_in ?_)
  refine G_ifeq (tgt := 19) (nx := 9) ⟨dX12_joins_6, rfl⟩ rfl (fun c_6 => ?_) (fun c_6 => ?_)
  · rw [bi_0] at c_6
    refine G_bipush (nx := 21) ⟨dX12_joins_19, rfl⟩ cb_m2 ?_
    refine G_iret ⟨dX12_joins_21, rfl⟩ rfl ?_
    exact hk1 c_6
  · rw [bi_n0] at c_6
    refine G_aload_0 (nx := 10) ⟨dX12_joins_9, rfl⟩ ?_
    refine G_iconst (nx := 11) ⟨dX12_joins_10, rfl⟩ ci_0 ?_
    refine G_iconst (nx := 12) ⟨dX12_joins_11, rfl⟩ ci_1 ?_
    refine G_iload_1 (nx := 13) ⟨dX12_joins_12, rfl⟩ ?_
    refine G_cv3 (nx := 16) ⟨dX12_joins_13, rfl⟩ kX12_287 rfl q_75 rfl (Nat.le_of_ble_eq_true rfl) (Nat.le_of_ble_eq_true rfl) (cM_turning (on := 0) (by0 := 1) hW hG (by omega) (fun I1 hG1 hs1 => ?_))
    refine G_goto (tgt := 21) ⟨dX12_joins_16, rfl⟩ rfl ?_
    refine G_iret ⟨dX12_joins_21, rfl⟩ rfl ?_
    exact hk I1 c_6 hG1 hs1

end M32
