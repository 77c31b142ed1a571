
/-- covers of a part, and how many points the fewest of them have -/
def CP (gr : Nat → Nat) (P s : Nat) : Prop := ∀ u v, P.testBit u = true → P.testBit v = true → (gr u).testBit v = true → s.testBit u = true ∨ s.testBit v = true
def IsT (gr : Nat → Nat) (P k : Nat) : Prop := (∃ s, s < 4096 ∧ CP gr P s ∧ pc s ≤ k) ∧ ∀ s, s < 4096 → CP gr P s → k ≤ pc s
theorem IsT_uniq {gr : Nat → Nat} {P k m : Nat} (h : IsT gr P k) (h' : IsT gr P m) : k = m := by
  obtain ⟨⟨s, h1, h2, h3⟩, h4⟩ := h
  obtain ⟨⟨t, h5, h6, h7⟩, h8⟩ := h'
  have := h4 t h5 h6
  have := h8 s h1 h2
  omega
theorem IsT_le {gr : Nat → Nat} {P k : Nat} (hP : P < 4096) (h : IsT gr P k) : k ≤ pc P := h.2 P hP (fun u v h1 _ _ => Or.inl h1)
theorem pc_or (a b : Nat) : pc (a ||| b) ≤ pc a + pc b := by
  rw [pc_cn, pc_cn, pc_cn]
  have h := cn_or 12 (fun p => a.testBit p) (fun p => b.testBit p)
  have e : cn 12 (fun p => (a ||| b).testBit p) = cn 12 (fun k => a.testBit k || b.testBit k) := cn_congr (fun k _ => Nat.testBit_or a b k)
  omega
theorem pc_pow {p : Nat} : pc (2 ^ p) ≤ 1 := by
  rw [pc_cn]
  by_cases h : p < 12
  · rw [cn_rem h (by rw [tb_pow]; simp), cn_all0 (fun k _ => by rw [tb_pow]; by_cases e : p = k <;> simp [e])]
    omega
  · rw [cn_all0 (fun k hk => by rw [tb_pow]; simp; omega)]
    omega
theorem pc_dfsub {a b : Nat} (h : ∀ x, b.testBit x = true → a.testBit x = true) : pc a = pc (df a b) + pc b := by
  rw [pc_cn, pc_cn, pc_cn]
  rw [cn_split 12 (fun p => a.testBit p) (fun p => b.testBit p)]
  have e1 : cn 12 (fun k => a.testBit k && b.testBit k) = cn 12 (fun p => b.testBit p) := cn_congr (fun k _ => by
    cases q : b.testBit k with
    | false => simp
    | true => simp [h k q])
  have e2 : cn 12 (fun k => a.testBit k && !b.testBit k) = cn 12 (fun p => (df a b).testBit p) := cn_congr (fun k _ => (tb_df a b k).symm)
  omega
theorem bz_spec (gr : Nat → Nat) (P : Nat) : ∀ k, (lp (bzF gr P) k none = none → ∀ p, p < k → P.testBit p = true → dg gr P p = 0) ∧ ∀ x, lp (bzF gr P) k none = some x → ∀ p, p < k → P.testBit p = true → dg gr P p ≤ dg gr P x := by
  intro k
  induction k with
  | zero => exact ⟨fun _ p hp => absurd hp (by omega), fun x _ p hp => absurd hp (by omega)⟩
  | succ k ih =>
    rw [lp_s, bzF_eq]
    by_cases c : P.testBit k = true ∧ bzD gr P (lp (bzF gr P) k none) < dg gr P k
    · rw [if_pos c]
      refine ⟨fun h => (by cases h), fun x hx p hp hP => ?_⟩
      cases hx
      by_cases e : p = k
      · rw [e]; exact Nat.le_refl _
      · cases q : lp (bzF gr P) k none with
        | none => rw [ih.1 q p (by omega) hP]; exact Nat.zero_le _
        | some y =>
          have := ih.2 y q p (by omega) hP
          have h2 := c.2
          rw [q] at h2
          exact Nat.le_of_lt (Nat.lt_of_le_of_lt this h2)
    · rw [if_neg c]
      refine ⟨fun h p hp hP => ?_, fun x hx p hp hP => ?_⟩
      · by_cases e : p = k
        · subst e
          rw [h] at c
          rcases Nat.eq_zero_or_pos (dg gr P p) with q | q
          · exact q
          · exact absurd ⟨hP, q⟩ c
        · exact ih.1 h p (by omega) hP
      · by_cases e : p = k
        · subst e
          rw [hx] at c
          rcases Nat.lt_or_ge (dg gr P x) (dg gr P p) with q | q
          · exact absurd ⟨hP, q⟩ c
          · exact q
        · exact ih.2 x hx p (by omega) hP
theorem T_none {n : Nat} {gr : Nat → Nat} {P : Nat} (hn : n ≤ 12) (hP : P < 2 ^ n) (hb : bz n gr P = none) : IsT gr P 0 := by
  refine ⟨⟨0, by omega, fun u v h1 h2 h3 => ?_, by decide⟩, fun s _ _ => Nat.zero_le _⟩
  have h4 := (bz_spec gr P n).1 hb u (tb_ltn hP h1) h1
  unfold dg at h4
  have h5 := pc_0 (Nat.lt_of_le_of_lt Nat.and_le_right (Nat.lt_of_lt_of_le hP (pow12 hn))) h4
  have : (gr u &&& P).testBit v = true := by rw [Nat.testBit_and, h3, h2]; rfl
  rw [h5, Nat.zero_testBit] at this
  cases this
theorem T_step {n : Nat} {gr : Nat → Nat} {P p k1 k2 : Nat} (hW : WG n gr) (hn : n ≤ 12) (hP : P < 2 ^ n) (hp : P.testBit p = true) (h1 : IsT gr (df P (2 ^ p)) k1) (h2 : IsT gr (df (df P (2 ^ p)) (gr p &&& P)) k2) : IsT gr P (min (1 + k1) (pc (gr p &&& P) + k2)) := by
  have hpn : p < n := tb_ltn hP hp
  have hP4 : P < 4096 := Nat.lt_of_lt_of_le hP (pow12 hn)
  have h12 : 2 ^ p < 2 ^ 12 := Nat.pow_lt_pow_right (by omega) (by omega)
  have hna : gr p &&& P < 2 ^ 12 := Nat.lt_of_le_of_lt Nat.and_le_right (by omega)
  obtain ⟨⟨s1, a1, a2, a3⟩, a4⟩ := h1
  obtain ⟨⟨s2, b1, b2, b3⟩, b4⟩ := h2
  constructor
  · rcases Nat.le_total (1 + k1) (pc (gr p &&& P) + k2) with q | q
    · rw [Nat.min_eq_left q]
      refine ⟨s1 ||| 2 ^ p, Nat.or_lt_two_pow (n := 12) (by omega) h12, fun u v c1 c2 c3 => ?_, ?_⟩
      · rw [tb_ins, tb_ins]
        by_cases e : p = u
        · left; simp [e]
        · by_cases e2 : p = v
          · right; simp [e2]
          · rcases a2 u v (del_t.mpr ⟨c1, fun z => e z.symm⟩) (del_t.mpr ⟨c2, fun z => e2 z.symm⟩) c3 with z | z
            · left; simp [z]
            · right; simp [z]
      · have := pc_or s1 (2 ^ p)
        have := pc_pow (p := p)
        omega
    · rw [Nat.min_eq_right q]
      refine ⟨s2 ||| (gr p &&& P), Nat.or_lt_two_pow (n := 12) (by omega) hna, fun u v c1 c2 c3 => ?_, ?_⟩
      · have hu := tb_ltn hP c1
        have hv := tb_ltn hP c2
        rw [Nat.testBit_or, Nat.testBit_or]
        by_cases e : u = p
        · right
          have : (gr p &&& P).testBit v = true := by rw [Nat.testBit_and, ← e, c3, c2]; rfl
          simp [this]
        · by_cases e2 : v = p
          · left
            have : (gr p &&& P).testBit u = true := by rw [Nat.testBit_and, ← e2, hW.2.2 v u hv hu, c3, c1]; rfl
            simp [this]
          · cases q1 : (gr p &&& P).testBit u with
            | true => left; simp
            | false =>
              cases q2 : (gr p &&& P).testBit v with
              | true => right; simp
              | false =>
                rcases b2 u v (by rw [tb_df, tb_del, c1, q1]; simp [e]) (by rw [tb_df, tb_del, c2, q2]; simp [e2]) c3 with z | z
                · left; simp [z]
                · right; simp [z]
      · have := pc_or s2 (gr p &&& P)
        omega
  · intro s hs hc
    cases q : s.testBit p with
    | true =>
      have c1 := a4 (df s (2 ^ p)) (Nat.lt_of_le_of_lt (df_le _ _) hs) (fun u v d1 d2 d3 => by
        have e1 := del_t.mp d1
        have e2 := del_t.mp d2
        rcases hc u v e1.1 e2.1 d3 with z | z
        · exact Or.inl (del_t.mpr ⟨z, e1.2⟩)
        · exact Or.inr (del_t.mpr ⟨z, e2.2⟩))
      have := pc_del (show p < 12 by omega) q
      have := Nat.min_le_left (1 + k1) (pc (gr p &&& P) + k2)
      omega
    | false =>
      have hsub : ∀ x, (gr p &&& P).testBit x = true → s.testBit x = true := by
        intro x hx
        rw [Nat.testBit_and, Bool.and_eq_true] at hx
        rcases hc p x hp hx.2 hx.1 with z | z
        · rw [q] at z; cases z
        · exact z
      have c1 := b4 (df s (gr p &&& P)) (Nat.lt_of_le_of_lt (df_le _ _) hs) (fun u v d1 d2 d3 => by
        rw [tb_df, Bool.and_eq_true, Bool.not_eq_true'] at d1 d2
        have e1 := del_t.mp d1.1
        have e2 := del_t.mp d2.1
        rw [tb_df, tb_df, d1.2, d2.2]
        rcases hc u v e1.1 e2.1 d3 with z | z
        · left; rw [z]; rfl
        · right; rw [z]; rfl)
      have := pc_dfsub hsub
      have := Nat.min_le_right (1 + k1) (pc (gr p &&& P) + k2)
      omega
theorem T_one {n : Nat} {gr : Nat → Nat} {P p k1 k2 : Nat} (hW : WG n gr) (hn : n ≤ 12) (hP : P < 2 ^ n) (hp : P.testBit p = true) (hd : ∀ q, q < n → P.testBit q = true → dg gr P q ≤ 1) (h1 : IsT gr (df P (2 ^ p)) k1) (h2 : IsT gr (df (df P (2 ^ p)) (gr p &&& P)) k2) : k1 ≤ k2 := by
  have hpn : p < n := tb_ltn hP hp
  obtain ⟨⟨s2, b1, b2, b3⟩, b4⟩ := h2
  refine Nat.le_trans (h1.2 s2 b1 (fun u v c1 c2 c3 => ?_)) b3
  obtain ⟨c1, e1⟩ := del_t.mp c1
  obtain ⟨c2, e2⟩ := del_t.mp c2
  have hu := tb_ltn hP c1
  have hv := tb_ltn hP c2
  have two : ∀ x y, x < n → P.testBit x = true → (gr x).testBit p = true → (gr x).testBit y = true → P.testBit y = true → ¬ y = p → False := by
    intro x y hx hxP hxp hxy hyP hyp
    have h3 := hd x hx hxP
    unfold dg at h3
    have t1 : (gr x &&& P).testBit p = true := by rw [Nat.testBit_and, hxp, hp]; rfl
    have t2 : (gr x &&& P).testBit y = true := by rw [Nat.testBit_and, hxy, hyP]; rfl
    have hy : y < n := tb_ltn hP hyP
    have h4 := pc_del (show p < 12 by omega) t1
    have h5 := pc_del (a := df (gr x &&& P) (2 ^ p)) (show y < 12 by omega) (del_t.mpr ⟨t2, hyp⟩)
    omega
  refine b2 u v ?_ ?_ c3
  · rw [tb_df, del_t.mpr ⟨c1, e1⟩]
    cases q : (gr p &&& P).testBit u with
    | false => rfl
    | true =>
      rw [Nat.testBit_and, Bool.and_eq_true] at q
      exact (two u v hu c1 (by rw [hW.2.2 u p hu hpn]; exact q.1) c3 c2 e2).elim
  · rw [tb_df, del_t.mpr ⟨c2, e2⟩]
    cases q : (gr p &&& P).testBit v with
    | false => rfl
    | true =>
      rw [Nat.testBit_and, Bool.and_eq_true] at q
      exact (two v u hv c2 (by rw [hW.2.2 v p hv hpn]; exact q.1) (by rw [hW.2.2 v u hv hu]; exact c3) c1 e1).elim
theorem T_ex {gr : Nat → Nat} {P : Nat} (hP : P < 4096) : ∃ k, IsT gr P k := by
  obtain ⟨k, h1, h2⟩ := pk_least (fun k => ∃ s, s < 4096 ∧ CP gr P s ∧ pc s = k) ⟨pc P, P, hP, fun u v h _ _ => Or.inl h, rfl⟩
  obtain ⟨s, h3, h4, h5⟩ := h1
  exact ⟨k, ⟨s, h3, h4, by omega⟩, fun t ht hc => Nat.le_of_not_lt (fun hlt => h2 _ hlt ⟨t, ht, hc, rfl⟩)⟩
/-- the fewest of all are the fewest of the whole part -/
theorem T_all {n : Nat} {gr : Nat → Nat} {k : Nat} (hn : n ≤ 12) (hg : ∀ p, p < n → gr p < 2 ^ n) (h : IsT gr (2 ^ n - 1) k) : k = leN n gr := by
  have htb : ∀ x, (2 ^ n - 1).testBit x = true ↔ x < n := fun x => by rw [Nat.testBit_two_pow_sub_one]; simp
  have hp12 := pow12 hn
  have hcv : ∀ s, covB n gr s = true ↔ CP gr (2 ^ n - 1) s := by
    intro s
    rw [covB_iff]
    constructor
    · intro h u v h1 h2 h3
      rcases h u ((htb u).mp h1) with q | q
      · exact Or.inl q
      · exact Or.inr (df_0.mp q v h3)
    · intro h p hp
      cases q : s.testBit p with
      | true => exact Or.inl rfl
      | false =>
        refine Or.inr (df_0.mpr (fun x hx => ?_))
        rcases h p x ((htb p).mpr hp) ((htb x).mpr (tb_ltn (hg p hp) hx)) hx with z | z
        · rw [q] at z; cases z
        · exact z
  obtain ⟨⟨s, h1, h2, h3⟩, h4⟩ := h
  have hpl : pc (s &&& (2 ^ n - 1)) ≤ pc s := by
    rw [pc_cn, pc_cn]
    exact cn_mono (fun k _ h => by rw [Nat.testBit_and, Bool.and_eq_true] at h; exact h.1)
  have hc2 : CP gr (2 ^ n - 1) (s &&& (2 ^ n - 1)) := fun u v c1 c2 c3 => by
    rw [Nat.testBit_and, Nat.testBit_and, c1, c2]
    simpa using h2 u v c1 c2 c3
  have hlt : s &&& (2 ^ n - 1) < 2 ^ n := Nat.lt_of_le_of_lt Nat.and_le_right (by have := Nat.two_pow_pos n; omega)
  refine leN_uniq hn (fun t ht hc => h4 t (by omega) ((hcv t).mp hc)) ⟨_, hlt, (hcv _).mpr hc2, ?_⟩
  have := h4 _ (by omega) hc2
  omega
section X67
variable {l : Launch} {d : Nat} {K : AK} {I : AI} {J : AJ} {g : Bool} {n : Nat} {gr : Nat → Nat}

theorem cC_fewestIn {c : Nat} (hc : isA c 12) (hR : RG I c n gr) (hW : WG n gr) : ∀ (f P dd : Nat) (K : AK), P < 2 ^ n → pc P ≤ f → dd + pc P ≤ 12 → (∀ k, IsT gr P k → K (.int (nI k)) I J (rX g)) → G l (d + f + 2) mX0_fewestIn K 0 [.ref c, .int (nI P), .int (nI dd), UU, UU, UU, UU] [] I J (rX g) := by
  intro f
  induction f with
  | zero =>
    intro P dd K hP hpf hdd hk
    have hn := hR.1
    have e0 : P = 0 := pc_0 (Nat.lt_of_lt_of_le hP (pow12 hn)) (by omega)
    have hb : bz n gr P = none := by
      cases q : bz n gr P with
      | none => rfl
      | some x =>
        have := (bz_lt gr P n x q).2.1
        rw [e0, Nat.zero_testBit] at this
        cases this
    refine G_aload_0 (nx := 1) ⟨dX0_fewestIn_0, rfl⟩ ?_
    refine G_iload_1 (nx := 2) ⟨dX0_fewestIn_1, rfl⟩ ?_
    refine G_cs2 (nx := 5) ⟨dX0_fewestIn_2, rfl⟩ kX0_81 rfl rfl (Nat.le_of_ble_eq_true rfl) (Nat.le_of_ble_eq_true rfl) (cN_busiest hc hR hP ?_)
    rw [hb]
    refine G_istore_3 (nx := 6) ⟨dX0_fewestIn_5, rfl⟩ rfl rfl ?_
    refine G_iload_3 (nx := 7) ⟨dX0_fewestIn_6, rfl⟩ ?_
    refine G_iflt (tgt := 16) (nx := 10) ⟨dX0_fewestIn_7, rfl⟩ rfl (fun c_7 => ?_) (fun c_7 => ?_)
    · refine G_iconst (nx := 17) ⟨dX0_fewestIn_16, rfl⟩ ci_0 ?_
      refine G_iret ⟨dX0_fewestIn_17, rfl⟩ rfl ?_
      exact hk 0 (T_none hn hP hb)
    · exact absurd (by decide) c_7

  | succ f ih =>
    intro P dd K hP hpf hdd hk
    have hn := hR.1
    have hP4 : P < 4096 := Nat.lt_of_lt_of_le hP (pow12 hn)
    rcases hb : bz n gr P with _ | x
    · refine G_d (d' := d + f + 2 + 1) (by omega) ?_
      refine G_aload_0 (nx := 1) ⟨dX0_fewestIn_0, rfl⟩ ?_
      refine G_iload_1 (nx := 2) ⟨dX0_fewestIn_1, rfl⟩ ?_
      refine G_cs2 (nx := 5) ⟨dX0_fewestIn_2, rfl⟩ kX0_81 rfl rfl (Nat.le_of_ble_eq_true rfl) (Nat.le_of_ble_eq_true rfl) (cN_busiest hc hR hP ?_)
      rw [hb]
      refine G_istore_3 (nx := 6) ⟨dX0_fewestIn_5, rfl⟩ rfl rfl ?_
      refine G_iload_3 (nx := 7) ⟨dX0_fewestIn_6, rfl⟩ ?_
      refine G_iflt (tgt := 16) (nx := 10) ⟨dX0_fewestIn_7, rfl⟩ rfl (fun c_7 => ?_) (fun c_7 => ?_)
      · refine G_iconst (nx := 17) ⟨dX0_fewestIn_16, rfl⟩ ci_0 ?_
        refine G_iret ⟨dX0_fewestIn_17, rfl⟩ rfl ?_
        exact hk 0 (T_none hn hP hb)
      · exact absurd (by decide) c_7

    · obtain ⟨hx1, hx2, hx3⟩ := bz_lt gr P n x hb
      have hpcx := pc_del (show x < 12 by omega) hx2
      have h12 := in12 hx1 hn
      have hpw : 2 ^ x < 2 ^ 12 := Nat.pow_lt_pow_right (by omega) (by omega)
      have hna : gr x &&& P ≤ P := Nat.and_le_right
      have hnl := pc_le (gr x &&& P)
      have hr1 : df P (2 ^ x) < 2 ^ n := Nat.lt_of_le_of_lt (df_le _ _) hP
      have hr14 : df P (2 ^ x) < 4096 := Nat.lt_of_lt_of_le hr1 (pow12 hn)
      have hr2 : df (df P (2 ^ x)) (gr x &&& P) < 2 ^ n := Nat.lt_of_le_of_lt (df_le _ _) hr1
      have hpr2 : pc (df (df P (2 ^ x)) (gr x &&& P)) ≤ pc (df P (2 ^ x)) := by
        rw [pc_cn, pc_cn]
        exact cn_mono (fun k _ h => by rw [tb_df, Bool.and_eq_true] at h; exact h.1)
      refine G_d (d' := d + f + 2 + 1) (by omega) ?_
      refine G_aload_0 (nx := 1) ⟨dX0_fewestIn_0, rfl⟩ ?_
      refine G_iload_1 (nx := 2) ⟨dX0_fewestIn_1, rfl⟩ ?_
      refine G_cs2 (nx := 5) ⟨dX0_fewestIn_2, rfl⟩ kX0_81 rfl rfl (Nat.le_of_ble_eq_true rfl) (Nat.le_of_ble_eq_true rfl) (cN_busiest hc hR hP ?_)
      rw [hb]
      rw [show mv (some x) = nI x from rfl]
      refine G_istore_3 (nx := 6) ⟨dX0_fewestIn_5, rfl⟩ rfl rfl ?_
      refine G_iload_3 (nx := 7) ⟨dX0_fewestIn_6, rfl⟩ ?_
      refine G_iflt (tgt := 16) (nx := 10) ⟨dX0_fewestIn_7, rfl⟩ rfl (fun c_7 => ?_) (fun c_7 => ?_)
      · (rw [← nI_0, nI_lt_iff (by omega) (by omega)] at c_7; omega)
      · refine G_iload_2 (nx := 11) ⟨dX0_fewestIn_10, rfl⟩ ?_
        refine G_bipush (nx := 13) ⟨dX0_fewestIn_11, rfl⟩ cb_12 ?_
        rw [show (12 : Int32) = nI 12 by decide]
        refine G_icmple (tgt := 18) (nx := 16) ⟨dX0_fewestIn_13, rfl⟩ rfl (fun c_13 => ?_) (fun c_13 => ?_)
        · refine G_aload_0 (nx := 19) ⟨dX0_fewestIn_18, rfl⟩ ?_
          refine G_iload_3 (nx := 20) ⟨dX0_fewestIn_19, rfl⟩ ?_
          refine G_iald (nx := 21) (k := c) ⟨dX0_fewestIn_20, rfl⟩ hc (by first | assumption | decide | (unfold vp_in; decide)) ?_
          rw [hR.row hx1]
          refine G_iload_1 (nx := 22) ⟨dX0_fewestIn_21, rfl⟩ ?_
          refine G_iand (nx := 23) ⟨dX0_fewestIn_22, rfl⟩ ?_
          rw [nI_and]
          refine G_istore_4 (nx := 25) ⟨dX0_fewestIn_23, rfl⟩ rfl rfl ?_
          refine G_iload_1 (nx := 26) ⟨dX0_fewestIn_25, rfl⟩ ?_
          refine G_iconst (nx := 27) ⟨dX0_fewestIn_26, rfl⟩ ci_1 ?_
          refine G_iload_3 (nx := 28) ⟨dX0_fewestIn_27, rfl⟩ ?_
          refine G_ishl (nx := 29) ⟨dX0_fewestIn_28, rfl⟩ ?_
          refine G_iconst (nx := 30) ⟨dX0_fewestIn_29, rfl⟩ ci_m1 ?_
          refine G_ixor (nx := 31) ⟨dX0_fewestIn_30, rfl⟩ ?_
          refine G_iand (nx := 32) ⟨dX0_fewestIn_31, rfl⟩ ?_
          rw [one_shl (show x < 31 by omega), nI_df _ (by omega)]
          refine G_istore_5 (nx := 34) ⟨dX0_fewestIn_32, rfl⟩ rfl rfl ?_
          refine G_iconst (nx := 35) ⟨dX0_fewestIn_34, rfl⟩ ci_1 ?_
          refine G_aload_0 (nx := 36) ⟨dX0_fewestIn_35, rfl⟩ ?_
          refine G_iload_5 (nx := 38) ⟨dX0_fewestIn_36, rfl⟩ ?_
          refine G_iload_2 (nx := 39) ⟨dX0_fewestIn_38, rfl⟩ ?_
          refine G_iconst (nx := 40) ⟨dX0_fewestIn_39, rfl⟩ ci_1 ?_
          refine G_iadd (nx := 41) ⟨dX0_fewestIn_40, rfl⟩ ?_
          rw [nI_1]
          refine G_cs3 (nx := 44) ⟨dX0_fewestIn_41, rfl⟩ kX0_77 rfl rfl (Nat.le_of_ble_eq_true rfl) (Nat.le_of_ble_eq_true rfl) (ih (df P (2 ^ x)) (dd + 1) _ hr1 (by omega) (by omega) (fun k1 hk1 => ?_))
          refine G_iadd (nx := 45) ⟨dX0_fewestIn_44, rfl⟩ ?_
          rw [show (1 : Int32) = nI 1 by decide, nI_add]
          refine G_istore_6 (nx := 47) ⟨dX0_fewestIn_45, rfl⟩ rfl rfl ?_
          refine G_iload_4 (nx := 49) ⟨dX0_fewestIn_47, rfl⟩ ?_
          refine G_cs1 (nx := 52) ⟨dX0_fewestIn_49, rfl⟩ kX0_53 rfl rfl (Nat.le_of_ble_eq_true rfl) (Nat.le_of_ble_eq_true rfl) (cJ_bc (Nat.lt_of_le_of_lt hna hP4) ?_)
          refine G_iconst (nx := 53) ⟨dX0_fewestIn_52, rfl⟩ ci_1 ?_
          refine G_icmpne (tgt := 59) (nx := 56) ⟨dX0_fewestIn_53, rfl⟩ rfl (fun c_53 => ?_) (fun c_53 => ?_)
          · refine G_iload_6 (nx := 61) ⟨dX0_fewestIn_59, rfl⟩ ?_
            refine G_iload_4 (nx := 63) ⟨dX0_fewestIn_61, rfl⟩ ?_
            refine G_cs1 (nx := 66) ⟨dX0_fewestIn_63, rfl⟩ kX0_53 rfl rfl (Nat.le_of_ble_eq_true rfl) (Nat.le_of_ble_eq_true rfl) (cJ_bc (Nat.lt_of_le_of_lt hna hP4) ?_)
            refine G_aload_0 (nx := 67) ⟨dX0_fewestIn_66, rfl⟩ ?_
            refine G_iload_5 (nx := 69) ⟨dX0_fewestIn_67, rfl⟩ ?_
            refine G_iload_4 (nx := 71) ⟨dX0_fewestIn_69, rfl⟩ ?_
            refine G_iconst (nx := 72) ⟨dX0_fewestIn_71, rfl⟩ ci_m1 ?_
            refine G_ixor (nx := 73) ⟨dX0_fewestIn_72, rfl⟩ ?_
            refine G_iand (nx := 74) ⟨dX0_fewestIn_73, rfl⟩ ?_
            refine G_iload_2 (nx := 75) ⟨dX0_fewestIn_74, rfl⟩ ?_
            refine G_iconst (nx := 76) ⟨dX0_fewestIn_75, rfl⟩ ci_1 ?_
            refine G_iadd (nx := 77) ⟨dX0_fewestIn_76, rfl⟩ ?_
            rw [nI_df _ (by omega), nI_1]
            refine G_cs3 (nx := 80) ⟨dX0_fewestIn_77, rfl⟩ kX0_77 rfl rfl (Nat.le_of_ble_eq_true rfl) (Nat.le_of_ble_eq_true rfl) (ih (df (df P (2 ^ x)) (gr x &&& P)) (dd + 1) _ hr2 (by omega) (by omega) (fun k2 hk2 => ?_))
            refine G_iadd (nx := 81) ⟨dX0_fewestIn_80, rfl⟩ ?_
            rw [nI_add]
            refine G_mmin (nx := 84) ⟨dX0_fewestIn_81, rfl⟩ kX0_85 (Nat.le_of_ble_eq_true rfl) ?_
            refine G_iret ⟨dX0_fewestIn_84, rfl⟩ rfl ?_
            have h2 := T_step hW hn hP hx2 hk1 hk2
            have b1 := IsT_le (Nat.lt_of_lt_of_le hr1 (pow12 hn)) hk1
            have b2 := IsT_le (Nat.lt_of_lt_of_le hr2 (pow12 hn)) hk2
            have hm : (if nI (pc (gr x &&& P) + k2) < nI (1 + k1) then nI (pc (gr x &&& P) + k2) else nI (1 + k1)) = nI (min (1 + k1) (pc (gr x &&& P) + k2)) := by
              by_cases q : pc (gr x &&& P) + k2 < 1 + k1
              · rw [if_pos (by rw [nI_lt_iff (by omega) (by omega)]; exact q), Nat.min_eq_right (by omega)]
              · rw [if_neg (by rw [nI_lt_iff (by omega) (by omega)]; exact q), Nat.min_eq_left (by omega)]
            rw [hm]
            exact hk _ h2
          · refine G_iload_6 (nx := 58) ⟨dX0_fewestIn_56, rfl⟩ ?_
            refine G_iret ⟨dX0_fewestIn_58, rfl⟩ rfl ?_
            rw [show (1 : Int32) = nI 1 by decide, nI_eq (by omega) (by omega)] at c_53
            obtain ⟨k2, hk2⟩ := T_ex (gr := gr) (P := df (df P (2 ^ x)) (gr x &&& P)) (Nat.lt_of_lt_of_le hr2 (pow12 hn))
            have h1 := T_one hW hn hP hx2 (fun q hq hqP => by have := (bz_spec gr P n).2 x hb q hq hqP; unfold dg at this ⊢; omega) hk1 hk2
            have h2 := T_step hW hn hP hx2 hk1 hk2
            rw [c_53, Nat.min_eq_left (by omega)] at h2
            exact hk _ h2
        · (rw [nI_le_iff (by omega) (by omega)] at c_13; omega)

theorem cC_fewestOf {c P : Nat} (hc : isA c 12) (hR : RG I c n gr) (hW : WG n gr) (hP : P < 2 ^ n) (hk : ∀ k, IsT gr P k → K (.int (nI k)) I J (rX g)) : G l (d + 15) mX0_fewestOf K 0 [.ref c, .int (nI P)] [] I J (rX g) := by
  have hpl := pc_le P
  refine G_aload_0 (nx := 1) ⟨dX0_fewestOf_0, rfl⟩ ?_
  refine G_iload_1 (nx := 2) ⟨dX0_fewestOf_1, rfl⟩ ?_
  refine G_iconst (nx := 3) ⟨dX0_fewestOf_2, rfl⟩ ci_0 ?_
  rw [← nI_0]
  refine G_cs3 (nx := 6) ⟨dX0_fewestOf_3, rfl⟩ kX0_77 rfl rfl (Nat.le_of_ble_eq_true rfl) (Nat.le_of_ble_eq_true rfl) (cC_fewestIn (d := d) hc hR hW 12 P 0 _ hP hpl (by omega) (fun k hT => ?_))
  refine G_iret ⟨dX0_fewestOf_6, rfl⟩ rfl ?_
  exact hk k hT

end X67
