
theorem setb_bit {x b on y : Nat} (ho : on ≤ 1) : (setb x b on).testBit y = if y = b then decide (on = 1) else x.testBit y := by
  rcases (show on = 0 ∨ on = 1 by omega) with e | e
  · rw [e, setb_0, tb_df, Nat.testBit_two_pow]
    by_cases c : y = b
    · rw [if_pos c, c]; simp
    · rw [if_neg c, decide_eq_false (fun q => c q.symm)]; simp
  · rw [e, setb_1, Nat.testBit_or, Nat.testBit_two_pow]
    by_cases c : y = b
    · rw [if_pos c, c]; simp
    · rw [if_neg c, decide_eq_false (fun q => c q.symm)]; simp
theorem lay_bit {gr : Nat → Nat} {a b on x y : Nat} (hab : ¬ a = b) (ho : on ≤ 1) : (layG gr a b on x).testBit y = if (x = a ∧ y = b) ∨ (x = b ∧ y = a) then decide (on = 1) else (gr x).testBit y := by
  unfold layG
  by_cases e : x = a
  · rw [if_pos e, setb_bit ho]
    by_cases c : y = b
    · rw [if_pos c, if_pos (Or.inl ⟨e, c⟩)]
    · rw [if_neg c, if_neg (fun q => by omega), e]
  · rw [if_neg e]
    by_cases e2 : x = b
    · rw [if_pos e2, setb_bit ho]
      by_cases c : y = a
      · rw [if_pos c, if_pos (Or.inr ⟨e2, c⟩)]
      · rw [if_neg c, if_neg (fun q => by omega), e2]
    · rw [if_neg e2, if_neg (fun q => by omega)]
theorem WG.lay {n : Nat} {gr : Nat → Nat} (h : WG n gr) {a b on : Nat} (ha : a < n) (hb : b < n) (hab : ¬ a = b) (ho : on ≤ 1) : WG n (layG gr a b on) := by
  refine ⟨fun p hp => ?_, fun p hp => ?_, fun p q hp hq => ?_⟩
  · unfold layG
    split
    · exact setb_lt (h.1 a ha) hb ho
    · split
      · exact setb_lt (h.1 b hb) ha ho
      · exact h.1 p hp
  · rw [lay_bit hab ho, if_neg (fun q => by omega)]; exact h.2.1 p hp
  · rw [lay_bit hab ho, lay_bit hab ho]
    by_cases c : (p = a ∧ q = b) ∨ (p = b ∧ q = a)
    · rw [if_pos c, if_pos (by omega)]
    · rw [if_neg c, if_neg (by omega)]; exact h.2.2 p q hp hq
theorem cov_CP {n : Nat} {gr : Nat → Nat} (hg : ∀ p, p < n → gr p < 2 ^ n) (s : Nat) : covB n gr s = true ↔ ∀ u v, u < n → v < n → (gr u).testBit v = true → s.testBit u = true ∨ s.testBit v = true := by
  rw [covB_iff]
  constructor
  · intro h u v h1 h2 h3
    rcases h u h1 with q | q
    · exact Or.inl q
    · exact Or.inr (df_0.mp q v h3)
  · intro h p hp
    cases q : s.testBit p with
    | true => exact Or.inl rfl
    | false =>
      refine Or.inr (df_0.mpr (fun x hx => ?_))
      rcases h p x hp (tb_ltn (hg p hp) hx) hx with z | z
      · rw [q] at z; cases z
      · exact z
theorem or_tb {s a x : Nat} (h : s.testBit x = true ∨ x = a) : (s ||| 2 ^ a).testBit x = true := by
  rw [Nat.testBit_or, Nat.testBit_two_pow]
  rcases h with h | h
  · rw [h]; rfl
  · rw [h]; simp
/-- a line less: the same or one less -/
theorem le_lay0 {n : Nat} {gr : Nat → Nat} (hn : n ≤ 12) (hW : WG n gr) {a b : Nat} (ha : a < n) (hb : b < n) (hab : ¬ a = b) : leN n (layG gr a b 0) ≤ leN n gr ∧ leN n gr ≤ leN n (layG gr a b 0) + 1 := by
  have hWl := hW.lay ha hb hab (show 0 ≤ 1 by omega)
  constructor
  · obtain ⟨s, h1, h2, h3⟩ := (leN_spec (gr := gr) hn).2
    rw [← h3]
    refine (leN_spec hn).1 s h1 ((cov_CP hWl.1 s).mpr (fun u v hu hv hb' => ?_))
    rw [lay_bit hab (by omega)] at hb'
    split at hb'
    · simp at hb'
    · exact (cov_CP hW.1 s).mp h2 u v hu hv hb'
  · obtain ⟨s, h1, h2, h3⟩ := (leN_spec (gr := layG gr a b 0) hn).2
    have hpn : 2 ^ a < 2 ^ n := Nat.pow_lt_pow_right (by omega) ha
    have hc : covB n gr (s ||| 2 ^ a) = true := (cov_CP hW.1 _).mpr (fun u v hu hv hb' => by
      by_cases c : (u = a ∧ v = b) ∨ (u = b ∧ v = a)
      · rcases c with c | c
        · exact Or.inl (or_tb (Or.inr c.1))
        · exact Or.inr (or_tb (Or.inr c.2))
      · rcases (cov_CP hWl.1 s).mp h2 u v hu hv (by rw [lay_bit hab (by omega), if_neg c]; exact hb') with z | z
        · exact Or.inl (or_tb (Or.inl z))
        · exact Or.inr (or_tb (Or.inl z)))
    have h4 := (leN_spec (gr := gr) hn).1 _ (Nat.or_lt_two_pow h1 hpn) hc
    have h5 := pc_or s (2 ^ a)
    have h6 := pc_pow (p := a)
    omega
/-- a line more: one more just where no fewest cover has an end of it -/
theorem le_lay1 {n : Nat} {gr : Nat → Nat} (hn : n ≤ 12) (hW : WG n gr) {a b : Nat} (ha : a < n) (hb : b < n) (hab : ¬ a = b) : leN n (layG gr a b 1) = leN n gr + 1 ↔ ∀ s, s < 2 ^ n → covB n gr s = true → pc s = leN n gr → s.testBit a = false ∧ s.testBit b = false := by
  have hWl := hW.lay ha hb hab (show 1 ≤ 1 by omega)
  have hpn : 2 ^ a < 2 ^ n := Nat.pow_lt_pow_right (by omega) ha
  have hcl : ∀ s, covB n (layG gr a b 1) s = true ↔ (covB n gr s = true ∧ ((gr a).testBit b = true ∨ s.testBit a = true ∨ s.testBit b = true)) := by
    intro s
    rw [cov_CP hWl.1, cov_CP hW.1]
    constructor
    · intro h
      refine ⟨fun u v hu hv h' => h u v hu hv ?_, Or.inr (h a b ha hb (by rw [lay_bit hab (by omega), if_pos (Or.inl ⟨rfl, rfl⟩)]; rfl))⟩
      rw [lay_bit hab (by omega)]
      split
      · rfl
      · exact h'
    · intro h u v hu hv h'
      rw [lay_bit hab (by omega)] at h'
      split at h'
      · rename_i c
        rcases h.2 with q | q
        · have := h.1 a b ha hb q
          rcases c with c | c
          · rw [c.1, c.2]; exact this
          · rw [c.1, c.2]; exact this.symm
        · rcases c with c | c
          · rw [c.1, c.2]; exact q
          · rw [c.1, c.2]; exact q.symm
      · exact h.1 u v hu hv h'
  obtain ⟨s0, g1, g2, g3⟩ := (leN_spec (gr := gr) hn).2
  have hup : leN n (layG gr a b 1) ≤ leN n gr + 1 := by
    have hc : covB n (layG gr a b 1) (s0 ||| 2 ^ a) = true := by
      rw [hcl]
      refine ⟨(cov_CP hW.1 _).mpr (fun u v hu hv hb' => ?_), Or.inr (Or.inl (or_tb (Or.inr rfl)))⟩
      rcases (cov_CP hW.1 s0).mp g2 u v hu hv hb' with z | z
      · exact Or.inl (or_tb (Or.inl z))
      · exact Or.inr (or_tb (Or.inl z))
    have h4 := (leN_spec hn).1 _ (Nat.or_lt_two_pow g1 hpn) hc
    have h5 := pc_or s0 (2 ^ a)
    have h6 := pc_pow (p := a)
    omega
  obtain ⟨t, k1, k2, k3⟩ := (leN_spec (gr := layG gr a b 1) hn).2
  have k4 := (hcl t).mp k2
  have hlo : leN n gr ≤ leN n (layG gr a b 1) := by rw [← k3]; exact (leN_spec hn).1 t k1 k4.1
  constructor
  · intro h s hs hc hp
    have key : ¬ covB n (layG gr a b 1) s = true := fun q => by
      have := (leN_spec hn).1 s hs q
      omega
    constructor
    · cases q : s.testBit a with
      | false => rfl
      | true => exact absurd ((hcl s).mpr ⟨hc, Or.inr (Or.inl q)⟩) key
    · cases q : s.testBit b with
      | false => rfl
      | true => exact absurd ((hcl s).mpr ⟨hc, Or.inr (Or.inr q)⟩) key
  · intro h
    by_cases e : leN n (layG gr a b 1) = leN n gr
    · exfalso
      have := h t k1 k4.1 (by omega)
      rcases k4.2 with q | q | q
      · rcases (cov_CP hW.1 t).mp k4.1 a b ha hb q with z | z
        · rw [this.1] at z; cases z
        · rw [this.2] at z; cases z
      · rw [this.1] at q; cases q
      · rw [this.2] at q; cases q
    · omega
theorem tnI_iv (n : Nat) (gr : Nat → Nat) (on : Nat) (by0 : Int32) (a : Nat) : ∀ k, ∀ s : TN, (s.1 = none ↔ s.2 = 0) → (((lp (tnI n gr on by0 a) k s).1 = none ↔ (lp (tnI n gr on by0 a) k s).2 = 0) ∧ (lp (tnI n gr on by0 a) k s).2 ≤ s.2 + k) := by
  intro k
  induction k with
  | zero => intro s h; exact ⟨h, Nat.le_refl _⟩
  | succ k ih =>
    intro s h
    have h1 := ih s h
    rw [lp_s]
    generalize lp (tnI n gr on by0 a) k s = t at h1
    unfold tnI
    split
    · exact ⟨by simp, by show t.2 + 1 ≤ _; omega⟩
    · exact ⟨h1.1, by omega⟩
theorem tnO_iv (n : Nat) (gr : Nat → Nat) (on : Nat) (by0 : Int32) (hn : n ≤ 12) : ∀ k, (((lp (tnO n gr on by0) k (none, 0)).1 = none ↔ (lp (tnO n gr on by0) k (none, 0)).2 = 0) ∧ (lp (tnO n gr on by0) k (none, 0)).2 ≤ 12 * k) := by
  intro k
  induction k with
  | zero => exact ⟨by simp [lp], by simp [lp]⟩
  | succ k ih =>
    rw [lp_s]
    have := tnI_iv n gr on by0 k n _ ih.1
    unfold tnO at *
    exact ⟨this.1, by omega⟩
theorem m1_iff {a b : Nat} (ha : a < 1000) (hb : b < 1000) : nI a = nI b + (-1) ↔ a + 1 = b := by
  rw [← iI_nat, ← iI_nat, show (-1 : Int32) = iI (-1) by decide, iI_add]
  constructor
  · intro h
    have := iI_inj (by omega) (by omega) (by omega) (by omega) h
    omega
  · intro h
    congr 1
    omega
theorem XG.gc {I : AI} {o c n : Nat} {gr gr' : Nat → Nat} (h : XG I o c n gr) (e : ∀ x, x < n → gr x = gr' x) : XG I o c n gr' := ⟨h.1, h.2.1, fun p hp => by rw [← e p hp]; exact h.2.2.1 p hp, fun p hp => by rw [← e p hp]; exact h.2.2.2 p hp⟩
section X91
variable {l : Launch} {d : Nat} {K : AK} {I : AI} {J : AJ} {g : Bool} {n : Nat} {gr : Nat → Nat}
theorem cJ_min {a b : Int32} {R : AR} (hk : K (.int (if a ≤ b then a else b)) I J R) : G l d mJ9_min_7cf53 K 0 [.int a, .int b] [] I J R := by
  refine G_iload_0 (nx := 1) ⟨dJ9_min_7cf53_0, rfl⟩ ?_
  refine G_iload_1 (nx := 2) ⟨dJ9_min_7cf53_1, rfl⟩ ?_
  refine G_icmpgt (tgt := 9) (nx := 5) ⟨dJ9_min_7cf53_2, rfl⟩ rfl (fun c_2 => ?_) (fun c_2 => ?_)
  · refine G_iload_1 (nx := 10) ⟨dJ9_min_7cf53_9, rfl⟩ ?_
    refine G_iret ⟨dJ9_min_7cf53_10, rfl⟩ rfl ?_
    rw [if_neg (by rw [i32_lt] at c_2; rw [i32_le]; omega)] at hk
    exact hk
  · refine G_iload_0 (nx := 6) ⟨dJ9_min_7cf53_5, rfl⟩ ?_
    refine G_goto (tgt := 10) ⟨dJ9_min_7cf53_6, rfl⟩ rfl ?_
    refine G_iret ⟨dJ9_min_7cf53_10, rfl⟩ rfl ?_
    rw [if_pos (by rw [i32_lt] at c_2; rw [i32_le]; omega)] at hk
    exact hk

theorem cJ_max {a b : Int32} {R : AR} (hk : K (.int (if b ≤ a then a else b)) I J R) : G l d mJ9_max_7cf53 K 0 [.int a, .int b] [] I J R := by
  refine G_iload_0 (nx := 1) ⟨dJ9_max_7cf53_0, rfl⟩ ?_
  refine G_iload_1 (nx := 2) ⟨dJ9_max_7cf53_1, rfl⟩ ?_
  refine G_icmplt (tgt := 9) (nx := 5) ⟨dJ9_max_7cf53_2, rfl⟩ rfl (fun c_2 => ?_) (fun c_2 => ?_)
  · refine G_iload_1 (nx := 10) ⟨dJ9_max_7cf53_9, rfl⟩ ?_
    refine G_iret ⟨dJ9_max_7cf53_10, rfl⟩ rfl ?_
    rw [if_neg (by rw [i32_lt] at c_2; rw [i32_le]; omega)] at hk
    exact hk
  · refine G_iload_0 (nx := 6) ⟨dJ9_max_7cf53_5, rfl⟩ ?_
    refine G_goto (tgt := 10) ⟨dJ9_max_7cf53_6, rfl⟩ rfl ?_
    refine G_iret ⟨dJ9_max_7cf53_10, rfl⟩ rfl ?_
    rw [if_pos (by rw [i32_lt] at c_2; rw [i32_le]; omega)] at hk
    exact hk

theorem lX_cuI {a : Nat} {q by0 : Int32} (hby : by0 = -1) (hW : WG n gr) (hn : n ≤ 12) (ha : a < n) (hgo : ∀ (I' : AI), XG I' 1 4 n gr → XG I' 6 9 n gr → sb (fNt 6 7 8 9) I I' → G l (d + 40) mX11_cut K 164 [.ref 0, .int q, .int (nI (leN n gr)), .int (mv (lp (tnO n gr 1 by0) (a + 1) (none, 0)).1), .int (nI (lp (tnO n gr 1 by0) (a + 1) (none, 0)).2), .int (nI a), .int (nI n)] [] I' J (rX g)) : ∀ (k b : Nat) (I1 : AI), n - b = k → a < b → b ≤ n → XG I1 1 4 n gr → XG I1 6 9 n gr → sb (fNt 6 7 8 9) I I1 → G l (d + 40) mX11_cut K 67 [.ref 0, .int q, .int (nI (leN n gr)), .int (mv (lp (tnI n gr 1 by0 a) b (lp (tnO n gr 1 by0) a (none, 0))).1), .int (nI (lp (tnI n gr 1 by0 a) b (lp (tnO n gr 1 by0) a (none, 0))).2), .int (nI a), .int (nI b)] [] I1 J (rX g) := by
  intro k
  induction k using Nat.strongRecOn with
  | _ k ih =>
  intro b I1 hbk hab hbn hX hY hs1
  have h1p := Nat.two_pow_pos n
  have hiv := tnI_iv n gr 1 by0 a b _ (tnO_iv n gr 1 by0 hn a).1
  have hiv2 := (tnO_iv n gr 1 by0 hn a).2
  refine G_iload_6 (nx := 69) ⟨dX11_cut_67, rfl⟩ ?_
  refine G_aload_0 (nx := 70) ⟨dX11_cut_69, rfl⟩ ?_
  refine G_getr (nx := 73) (k := 0) (r := 1) ⟨dX11_cut_70, rfl⟩ fX11_10 q_0 yr_11_0 (r_0_0 _) ?_
  refine G_geti (nx := 76) (k := 1) ⟨dX11_cut_73, rfl⟩ fX11_115 q_1 yi_4_4 ?_
  rw [hX.1]
  refine G_icmpge (tgt := 164) (nx := 79) ⟨dX11_cut_76, rfl⟩ rfl (fun c_76 => ?_) (fun c_76 => ?_)
  · rw [nI_le_iff (by omega) (by omega)] at c_76
    have : b = n := by omega
    subst this
    exact hgo I1 hX hY hs1
  · rw [nI_le_iff (by omega) (by omega)] at c_76
    have hb : b < n := by omega
    have hll := leN_le n gr
    have hll2 := leN_le n (layG gr a b 0)
    obtain ⟨hl0, hl1⟩ := le_lay0 hn hW ha hb (by omega)
    refine G_aload_0 (nx := 80) ⟨dX11_cut_79, rfl⟩ ?_
    refine G_getr (nx := 83) (k := 0) (r := 1) ⟨dX11_cut_80, rfl⟩ fX11_10 q_0 yr_11_0 (r_0_0 _) ?_
    refine G_iload_5 (nx := 85) ⟨dX11_cut_83, rfl⟩ ?_
    refine G_iload_6 (nx := 87) ⟨dX11_cut_85, rfl⟩ ?_
    refine G_cv2 (nx := 90) ⟨dX11_cut_87, rfl⟩ kX11_130 rfl q_1 rfl (Nat.le_of_ble_eq_true rfl) (Nat.le_of_ble_eq_true rfl) (cN_joined nt1 hX ha hb ?_)
    refine G_ifne (tgt := 96) (nx := 93) ⟨dX11_cut_90, rfl⟩ rfl (fun c_90 => ?_) (fun c_90 => ?_)
    · rw [bi_n0] at c_90
      have hgb := c_90
      refine G_aload_0 (nx := 97) ⟨dX11_cut_96, rfl⟩ ?_
      refine G_getr (nx := 100) (k := 0) (r := 6) ⟨dX11_cut_97, rfl⟩ fX11_16 q_0 yr_11_1 (r_0_1 _) ?_
      refine G_iload_5 (nx := 102) ⟨dX11_cut_100, rfl⟩ ?_
      refine G_iload_6 (nx := 104) ⟨dX11_cut_102, rfl⟩ ?_
      refine G_iconst (nx := 105) ⟨dX11_cut_104, rfl⟩ ci_0 ?_
      rw [← nI_0]
      refine G_cvv3 (nx := 108) ⟨dX11_cut_105, rfl⟩ kX11_133 rfl q_6 rfl (Nat.le_of_ble_eq_true rfl) (Nat.le_of_ble_eq_true rfl) (cN_join (on := 0) nt6 hY ha hb (by omega) (by omega) ?_)
      have hY2 := hY.lay (by decide) (on := 0) ha hb (by omega) (by omega)
      have hX2 := (hX.cg (I' := w2 I1 9 a (nI (setb (gr a) b 0))) (by rw [w2_row _ _ _ _ (by decide)]) (fun p _ => by rw [w2_row _ _ _ _ (by decide)])).cg (I' := w2 (w2 I1 9 a (nI (setb (gr a) b 0))) 9 b (nI (setb (gr b) a 0))) (by rw [w2_row _ _ _ _ (by decide)]) (fun p _ => by rw [w2_row _ _ _ _ (by decide)])
      have hWl := hW.lay ha hb (by omega) (show 0 ≤ 1 by omega)
      refine G_aload_0 (nx := 109) ⟨dX11_cut_108, rfl⟩ ?_
      refine G_getr (nx := 112) (k := 0) (r := 6) ⟨dX11_cut_109, rfl⟩ fX11_16 q_0 yr_11_1 (r_0_1 _) ?_
      refine G_getr (nx := 115) (k := 6) (r := 9) ⟨dX11_cut_112, rfl⟩ fX11_151 q_6 yr_4_2 (r_6_2 _) ?_
      refine G_aload_0 (nx := 116) ⟨dX11_cut_115, rfl⟩ ?_
      refine G_getr (nx := 119) (k := 0) (r := 1) ⟨dX11_cut_116, rfl⟩ fX11_10 q_0 yr_11_0 (r_0_0 _) ?_
      refine G_cv0 (nx := 122) ⟨dX11_cut_119, rfl⟩ kX11_194 rfl q_1 rfl (Nat.le_of_ble_eq_true rfl) (Nat.le_of_ble_eq_true rfl) (cN_all nt1 hX2 ?_)
      refine G_cs2 (nx := 125) ⟨dX11_cut_122, rfl⟩ kX11_242 rfl rfl (Nat.le_of_ble_eq_true rfl) (Nat.le_of_ble_eq_true rfl) (cC_fewestOf q_9 hY2.2 hWl (show 2 ^ n - 1 < 2 ^ n by omega) (fun k2 hT2 => ?_))
      rw [T_all hn hWl.1 hT2]
      refine G_iload_2 (nx := 126) ⟨dX11_cut_125, rfl⟩ ?_
      refine G_icmpge (tgt := 146) (nx := 129) ⟨dX11_cut_126, rfl⟩ rfl (fun c_126 => ?_) (fun c_126 => ?_)
      · refine G_aload_0 (nx := 147) ⟨dX11_cut_146, rfl⟩ ?_
        refine G_getr (nx := 150) (k := 0) (r := 6) ⟨dX11_cut_147, rfl⟩ fX11_16 q_0 yr_11_1 (r_0_1 _) ?_
        refine G_iload_5 (nx := 152) ⟨dX11_cut_150, rfl⟩ ?_
        refine G_iload_6 (nx := 154) ⟨dX11_cut_152, rfl⟩ ?_
        refine G_iconst (nx := 155) ⟨dX11_cut_154, rfl⟩ ci_1 ?_
        rw [show (1 : Int32) = nI 1 by decide]
        refine G_cvv3 (nx := 158) ⟨dX11_cut_155, rfl⟩ kX11_133 rfl q_6 rfl (Nat.le_of_ble_eq_true rfl) (Nat.le_of_ble_eq_true rfl) (cN_join (on := 1) nt6 hY2 ha hb (by omega) (by omega) ?_)
        have hY3 := (hY2.lay (by decide) (on := 1) ha hb (by omega) (by omega)).gc (gr' := gr) (fun x _ => lay_back (on := 1) hW ha hb (by omega) (by omega) (by rw [hgb]; rfl) x)
        have hX3 := (hX2.cg (I' := w2 (w2 (w2 I1 9 a (nI (setb (gr a) b 0))) 9 b (nI (setb (gr b) a 0))) 9 a (nI (setb (layG gr a b 0 a) b 1))) (by rw [w2_row _ _ _ _ (by decide)]) (fun p _ => by rw [w2_row _ _ _ _ (by decide)])).cg (I' := w2 (w2 (w2 (w2 I1 9 a (nI (setb (gr a) b 0))) 9 b (nI (setb (gr b) a 0))) 9 a (nI (setb (layG gr a b 0 a) b 1))) 9 b (nI (setb (layG gr a b 0 b) a 1))) (by rw [w2_row _ _ _ _ (by decide)]) (fun p _ => by rw [w2_row _ _ _ _ (by decide)])
        refine G_iinc_6 (nx := 161) ⟨dX11_cut_158, rfl⟩ ci_1 rfl ?_
        refine G_goto (tgt := 67) ⟨dX11_cut_161, rfl⟩ rfl ?_
        rw [nI_le_iff (by omega) (by omega)] at c_126
        have hbf : tnB n gr 1 by0 a b = false := by
          unfold tnB
          rw [hby]
          show (_ && decide (nI (leN n (layG gr a b 0)) = nI (leN n gr) + (-1))) = false
          rw [decide_eq_false (p := nI (leN n (layG gr a b 0)) = nI (leN n gr) + (-1)) (fun e => by have := (m1_iff (by omega) (by omega)).mp e; omega), Bool.and_false]
        refine G_L ?_ (ih (n - (b + 1)) (by omega) (b + 1) _ rfl (by omega) (by omega) hX3 hY3 ((((hs1.w fNt_c).w fNt_c).w fNt_c).w fNt_c))
        simp [lp_s, tnI, hbf, nI_1]
      · refine G_iload_4 (nx := 131) ⟨dX11_cut_129, rfl⟩ ?_
        refine G_ifne (tgt := 143) (nx := 134) ⟨dX11_cut_131, rfl⟩ rfl (fun c_131 => ?_) (fun c_131 => ?_)
        · refine G_iinc_4 (nx := 146) ⟨dX11_cut_143, rfl⟩ ci_1 rfl ?_
          refine G_aload_0 (nx := 147) ⟨dX11_cut_146, rfl⟩ ?_
          refine G_getr (nx := 150) (k := 0) (r := 6) ⟨dX11_cut_147, rfl⟩ fX11_16 q_0 yr_11_1 (r_0_1 _) ?_
          refine G_iload_5 (nx := 152) ⟨dX11_cut_150, rfl⟩ ?_
          refine G_iload_6 (nx := 154) ⟨dX11_cut_152, rfl⟩ ?_
          refine G_iconst (nx := 155) ⟨dX11_cut_154, rfl⟩ ci_1 ?_
          rw [show (1 : Int32) = nI 1 by decide]
          refine G_cvv3 (nx := 158) ⟨dX11_cut_155, rfl⟩ kX11_133 rfl q_6 rfl (Nat.le_of_ble_eq_true rfl) (Nat.le_of_ble_eq_true rfl) (cN_join (on := 1) nt6 hY2 ha hb (by omega) (by omega) ?_)
          have hY3 := (hY2.lay (by decide) (on := 1) ha hb (by omega) (by omega)).gc (gr' := gr) (fun x _ => lay_back (on := 1) hW ha hb (by omega) (by omega) (by rw [hgb]; rfl) x)
          have hX3 := (hX2.cg (I' := w2 (w2 (w2 I1 9 a (nI (setb (gr a) b 0))) 9 b (nI (setb (gr b) a 0))) 9 a (nI (setb (layG gr a b 0 a) b 1))) (by rw [w2_row _ _ _ _ (by decide)]) (fun p _ => by rw [w2_row _ _ _ _ (by decide)])).cg (I' := w2 (w2 (w2 (w2 I1 9 a (nI (setb (gr a) b 0))) 9 b (nI (setb (gr b) a 0))) 9 a (nI (setb (layG gr a b 0 a) b 1))) 9 b (nI (setb (layG gr a b 0 b) a 1))) (by rw [w2_row _ _ _ _ (by decide)]) (fun p _ => by rw [w2_row _ _ _ _ (by decide)])
          refine G_iinc_6 (nx := 161) ⟨dX11_cut_158, rfl⟩ ci_1 rfl ?_
          refine G_goto (tgt := 67) ⟨dX11_cut_161, rfl⟩ rfl ?_
          rw [nI_le_iff (by omega) (by omega)] at c_126
          have hbt : tnB n gr 1 by0 a b = true := by
            unfold tnB
            rw [hby, hgb]
            show (true && decide (nI (leN n (layG gr a b 0)) = nI (leN n gr) + (-1))) = true
            rw [decide_eq_true ((m1_iff (by omega) (by omega)).mpr (by omega))]
            rfl
          refine G_L ?_ (ih (n - (b + 1)) (by omega) (b + 1) _ rfl (by omega) (by omega) hX3 hY3 ((((hs1.w fNt_c).w fNt_c).w fNt_c).w fNt_c))
          have hst : lp (tnI n gr 1 by0 a) (b + 1) (lp (tnO n gr 1 by0) a (none, 0)) = (some ((lp (tnI n gr 1 by0 a) b (lp (tnO n gr 1 by0) a (none, 0))).1.getD (12 * a + b)), (lp (tnI n gr 1 by0 a) b (lp (tnO n gr 1 by0) a (none, 0))).2 + 1) := by
            rw [lp_s]
            conv => lhs; unfold tnI
            rw [if_pos ⟨hab, hbt⟩]
            rfl
          rw [hst, nI_1, nI_add]
          rw [nI_0iff (by omega), ← hiv.1] at c_131
          cases e : (lp (tnI n gr 1 by0 a) b (lp (tnO n gr 1 by0) a (none, 0))).1 with
          | none => first | (rw [show (12 : Int32) = nI 12 by decide, pk_mul, nI_add]; rfl) | (exact absurd e c_131)
          | some y => first | (rw [e] at c_131; cases c_131) | rfl
        · refine G_bipush (nx := 136) ⟨dX11_cut_134, rfl⟩ cb_12 ?_
          refine G_iload_5 (nx := 138) ⟨dX11_cut_136, rfl⟩ ?_
          refine G_imul (nx := 139) ⟨dX11_cut_138, rfl⟩ ?_
          refine G_iload_6 (nx := 141) ⟨dX11_cut_139, rfl⟩ ?_
          refine G_iadd (nx := 142) ⟨dX11_cut_141, rfl⟩ ?_
          refine G_istore_3 (nx := 143) ⟨dX11_cut_142, rfl⟩ rfl rfl ?_
          refine G_iinc_4 (nx := 146) ⟨dX11_cut_143, rfl⟩ ci_1 rfl ?_
          refine G_aload_0 (nx := 147) ⟨dX11_cut_146, rfl⟩ ?_
          refine G_getr (nx := 150) (k := 0) (r := 6) ⟨dX11_cut_147, rfl⟩ fX11_16 q_0 yr_11_1 (r_0_1 _) ?_
          refine G_iload_5 (nx := 152) ⟨dX11_cut_150, rfl⟩ ?_
          refine G_iload_6 (nx := 154) ⟨dX11_cut_152, rfl⟩ ?_
          refine G_iconst (nx := 155) ⟨dX11_cut_154, rfl⟩ ci_1 ?_
          rw [show (1 : Int32) = nI 1 by decide]
          refine G_cvv3 (nx := 158) ⟨dX11_cut_155, rfl⟩ kX11_133 rfl q_6 rfl (Nat.le_of_ble_eq_true rfl) (Nat.le_of_ble_eq_true rfl) (cN_join (on := 1) nt6 hY2 ha hb (by omega) (by omega) ?_)
          have hY3 := (hY2.lay (by decide) (on := 1) ha hb (by omega) (by omega)).gc (gr' := gr) (fun x _ => lay_back (on := 1) hW ha hb (by omega) (by omega) (by rw [hgb]; rfl) x)
          have hX3 := (hX2.cg (I' := w2 (w2 (w2 I1 9 a (nI (setb (gr a) b 0))) 9 b (nI (setb (gr b) a 0))) 9 a (nI (setb (layG gr a b 0 a) b 1))) (by rw [w2_row _ _ _ _ (by decide)]) (fun p _ => by rw [w2_row _ _ _ _ (by decide)])).cg (I' := w2 (w2 (w2 (w2 I1 9 a (nI (setb (gr a) b 0))) 9 b (nI (setb (gr b) a 0))) 9 a (nI (setb (layG gr a b 0 a) b 1))) 9 b (nI (setb (layG gr a b 0 b) a 1))) (by rw [w2_row _ _ _ _ (by decide)]) (fun p _ => by rw [w2_row _ _ _ _ (by decide)])
          refine G_iinc_6 (nx := 161) ⟨dX11_cut_158, rfl⟩ ci_1 rfl ?_
          refine G_goto (tgt := 67) ⟨dX11_cut_161, rfl⟩ rfl ?_
          rw [nI_le_iff (by omega) (by omega)] at c_126
          have hbt : tnB n gr 1 by0 a b = true := by
            unfold tnB
            rw [hby, hgb]
            show (true && decide (nI (leN n (layG gr a b 0)) = nI (leN n gr) + (-1))) = true
            rw [decide_eq_true ((m1_iff (by omega) (by omega)).mpr (by omega))]
            rfl
          refine G_L ?_ (ih (n - (b + 1)) (by omega) (b + 1) _ rfl (by omega) (by omega) hX3 hY3 ((((hs1.w fNt_c).w fNt_c).w fNt_c).w fNt_c))
          have hst : lp (tnI n gr 1 by0 a) (b + 1) (lp (tnO n gr 1 by0) a (none, 0)) = (some ((lp (tnI n gr 1 by0 a) b (lp (tnO n gr 1 by0) a (none, 0))).1.getD (12 * a + b)), (lp (tnI n gr 1 by0 a) b (lp (tnO n gr 1 by0) a (none, 0))).2 + 1) := by
            rw [lp_s]
            conv => lhs; unfold tnI
            rw [if_pos ⟨hab, hbt⟩]
            rfl
          rw [hst, nI_1, nI_add]
          rw [nI_0iff (by omega), ← hiv.1] at c_131
          cases e : (lp (tnI n gr 1 by0 a) b (lp (tnO n gr 1 by0) a (none, 0))).1 with
          | none => first | (rw [show (12 : Int32) = nI 12 by decide, pk_mul, nI_add]; rfl) | (exact absurd e c_131)
          | some y => first | (rw [e] at c_131; cases c_131) | rfl
    · refine G_goto (tgt := 158) ⟨dX11_cut_93, rfl⟩ rfl ?_
      refine G_iinc_6 (nx := 161) ⟨dX11_cut_158, rfl⟩ ci_1 rfl ?_
      refine G_goto (tgt := 67) ⟨dX11_cut_161, rfl⟩ rfl ?_
      rw [bi_0] at c_90
      have hbf : tnB n gr 1 by0 a b = false := by
        unfold tnB
        rw [c_90]
        rfl
      refine G_L ?_ (ih (n - (b + 1)) (by omega) (b + 1) _ rfl (by omega) (by omega) hX hY hs1)
      simp [lp_s, tnI, hbf, nI_1]

theorem lX_cuO {q : Int32} (hW : WG n gr) (hn : n ≤ 12) (hk : ∀ (I' : AI), sb (fNt 6 7 8 9) I I' → K (.int (if q = 0 then mv (tnN n gr 1 (-1)).1 else nI (tnN n gr 1 (-1)).2)) I' J (rX g)) : ∀ (k a : Nat) (I1 : AI) (x6 : Value), notL x6 = true → n - a = k → a ≤ n → XG I1 1 4 n gr → XG I1 6 9 n gr → sb (fNt 6 7 8 9) I I1 → G l (d + 40) mX11_cut K 49 [.ref 0, .int q, .int (nI (leN n gr)), .int (mv (lp (tnO n gr 1 (-1)) a (none, 0)).1), .int (nI (lp (tnO n gr 1 (-1)) a (none, 0)).2), .int (nI a), x6] [] I1 J (rX g) := by
  intro k
  induction k using Nat.strongRecOn with
  | _ k ih =>
  intro a I1 x6 hx6 hak han hX hY hs1
  refine G_iload_5 (nx := 51) ⟨dX11_cut_49, rfl⟩ ?_
  refine G_aload_0 (nx := 52) ⟨dX11_cut_51, rfl⟩ ?_
  refine G_getr (nx := 55) (k := 0) (r := 1) ⟨dX11_cut_52, rfl⟩ fX11_10 q_0 yr_11_0 (r_0_0 _) ?_
  refine G_geti (nx := 58) (k := 1) ⟨dX11_cut_55, rfl⟩ fX11_115 q_1 yi_4_4 ?_
  rw [hX.1]
  refine G_icmpge (tgt := 170) (nx := 61) ⟨dX11_cut_58, rfl⟩ rfl (fun c_58 => ?_) (fun c_58 => ?_)
  · refine G_iload_1 (nx := 171) ⟨dX11_cut_170, rfl⟩ ?_
    refine G_ifne (tgt := 178) (nx := 174) ⟨dX11_cut_171, rfl⟩ rfl (fun c_171 => ?_) (fun c_171 => ?_)
    · refine G_iload_4 (nx := 180) ⟨dX11_cut_178, rfl⟩ ?_
      refine G_iret ⟨dX11_cut_180, rfl⟩ rfl ?_
      rw [nI_le_iff (by omega) (by omega)] at c_58
      have : a = n := by omega
      subst this
      refine K_v (congrArg Value.int ?_) (hk I1 hs1)
      simp [c_171, tnN]
    · refine G_iload_3 (nx := 175) ⟨dX11_cut_174, rfl⟩ ?_
      refine G_goto (tgt := 180) ⟨dX11_cut_175, rfl⟩ rfl ?_
      refine G_iret ⟨dX11_cut_180, rfl⟩ rfl ?_
      rw [nI_le_iff (by omega) (by omega)] at c_58
      have : a = n := by omega
      subst this
      refine K_v (congrArg Value.int ?_) (hk I1 hs1)
      simp [c_171, tnN]
  · rw [nI_le_iff (by omega) (by omega)] at c_58
    have ha : a < n := by omega
    refine G_iload_5 (nx := 63) ⟨dX11_cut_61, rfl⟩ ?_
    refine G_iconst (nx := 64) ⟨dX11_cut_63, rfl⟩ ci_1 ?_
    refine G_iadd (nx := 65) ⟨dX11_cut_64, rfl⟩ ?_
    refine G_istore_6 (nx := 67) ⟨dX11_cut_65, rfl⟩ rfl rfl ?_
    rw [nI_1]
    have hin := tnI_le n gr 1 (-1) a (a + 1) (Nat.le_refl _) (lp (tnO n gr 1 (-1)) a (none, 0))
    have := lX_cuI (l := l) (d := d) (K := K) (J := J) (g := g) (I := I1) (q := q) (by0 := -1) rfl hW hn ha (fun I2 hX2 hY2 hs2 => ?_) _ (a + 1) I1 rfl (by omega) (by omega) hX hY sb.rf
    · rw [hin] at this
      exact this
    · refine G_iinc_5 (nx := 167) ⟨dX11_cut_164, rfl⟩ ci_1 rfl ?_
      refine G_goto (tgt := 49) ⟨dX11_cut_167, rfl⟩ rfl ?_
      exact G_L (by rw [nI_1]) (ih (n - (a + 1)) (by omega) (a + 1) I2 (.int (nI n)) rfl rfl (by omega) hX2 hY2 (hs1.tr hs2))
theorem cX_cut {q : Int32} (hX : XG I 1 4 n gr) (hW : WG n gr) (hk1 : inR q 0 1 = false → K (.int (-2)) I J (rX g)) (hk : ∀ (I' : AI), inR q 0 1 = true → sb (fNt 6 7 8 9) I I' → K (.int (if q = 0 then mv (tnN n gr 1 (-1)).1 else nI (tnN n gr 1 (-1)).2)) I' J (rX g)) : G l (d + 40) mX11_cut K 0 [.ref 0, .int q, UU, UU, UU, UU, UU] [] I J (rX g) := by
  refine G_iload_1 (nx := 1) ⟨dX11_cut_0, rfl⟩ ?_
  refine G_iconst (nx := 2) ⟨dX11_cut_1, rfl⟩ ci_0 ?_
  refine G_iconst (nx := 3) ⟨dX11_cut_2, rfl⟩ ci_1 ?_
  refine G_cs3 (nx := 6) ⟨dX11_cut_3, rfl⟩ kX11_126 rfl rfl (Nat.le_of_ble_eq_true rfl) (Nat.le_of_ble_eq_true rfl) (cX_within ?_)
  refine G_ifne (tgt := 12) (nx := 9) ⟨dX11_cut_6, rfl⟩ rfl (fun c_6 => ?_) (fun c_6 => ?_)
  · rw [bi_n0] at c_6
    have hn := hX.2.1
    have h1p := Nat.two_pow_pos n
    refine G_aload_0 (nx := 13) ⟨dX11_cut_12, rfl⟩ ?_
    refine G_getr (nx := 16) (k := 0) (r := 1) ⟨dX11_cut_13, rfl⟩ fX11_10 q_0 yr_11_0 (r_0_0 _) ?_
    refine G_getr (nx := 19) (k := 1) (r := 4) ⟨dX11_cut_16, rfl⟩ fX11_151 q_1 yr_4_2 (r_1_2 _) ?_
    refine G_aload_0 (nx := 20) ⟨dX11_cut_19, rfl⟩ ?_
    refine G_getr (nx := 23) (k := 0) (r := 1) ⟨dX11_cut_20, rfl⟩ fX11_10 q_0 yr_11_0 (r_0_0 _) ?_
    refine G_cv0 (nx := 26) ⟨dX11_cut_23, rfl⟩ kX11_194 rfl q_1 rfl (Nat.le_of_ble_eq_true rfl) (Nat.le_of_ble_eq_true rfl) (cN_all nt1 hX ?_)
    refine G_cs2 (nx := 29) ⟨dX11_cut_26, rfl⟩ kX11_242 rfl rfl (Nat.le_of_ble_eq_true rfl) (Nat.le_of_ble_eq_true rfl) (cC_fewestOf q_4 hX.2 hW (show 2 ^ n - 1 < 2 ^ n by omega) (fun k hT1 => ?_))
    rw [T_all hn hW.1 hT1]
    refine G_istore_2 (nx := 30) ⟨dX11_cut_29, rfl⟩ rfl rfl ?_
    refine G_iconst (nx := 31) ⟨dX11_cut_30, rfl⟩ ci_m1 ?_
    refine G_istore_3 (nx := 32) ⟨dX11_cut_31, rfl⟩ rfl rfl ?_
    refine G_iconst (nx := 33) ⟨dX11_cut_32, rfl⟩ ci_0 ?_
    refine G_istore_4 (nx := 35) ⟨dX11_cut_33, rfl⟩ rfl rfl ?_
    refine G_aload_0 (nx := 36) ⟨dX11_cut_35, rfl⟩ ?_
    refine G_getr (nx := 39) (k := 0) (r := 6) ⟨dX11_cut_36, rfl⟩ fX11_16 q_0 yr_11_1 (r_0_1 _) ?_
    refine G_aload_0 (nx := 40) ⟨dX11_cut_39, rfl⟩ ?_
    refine G_getr (nx := 43) (k := 0) (r := 1) ⟨dX11_cut_40, rfl⟩ fX11_10 q_0 yr_11_0 (r_0_0 _) ?_
    refine G_cvv1 (nx := 46) ⟨dX11_cut_43, rfl⟩ kX11_365 rfl q_6 rfl (Nat.le_of_ble_eq_true rfl) (Nat.le_of_ble_eq_true rfl) (cN_become nt6 nt1 (Or.inr (by decide)) (fun I1 e4 e12 hs1 => ?_))
    have hX1 : XG I1 1 4 n gr := hX.sb hs1 rfl (fun _ => rfl)
    have hY1 : XG I1 6 9 n gr := ⟨by rw [e4]; exact hX.1, hn, fun p hp => by rw [(e12 p (by omega)).2.2]; exact hX.2.2.1 p hp, hX.2.2.2⟩
    refine G_iconst (nx := 47) ⟨dX11_cut_46, rfl⟩ ci_0 ?_
    refine G_istore_5 (nx := 49) ⟨dX11_cut_47, rfl⟩ rfl rfl ?_
    exact G_L (by rw [← nI_0]; rfl) (lX_cuO hW hn (fun I2 hs2 => hk I2 c_6 hs2) _ 0 I1 UU rfl rfl (Nat.zero_le _) hX1 hY1 hs1)
  · refine G_bipush (nx := 11) ⟨dX11_cut_9, rfl⟩ cb_m2 ?_
    refine G_iret ⟨dX11_cut_11, rfl⟩ rfl ?_
    rw [bi_0] at c_6
    exact hk1 c_6

end X91
