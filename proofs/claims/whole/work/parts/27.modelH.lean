abbrev FE : Type := Option Nat × Nat × Nat × Nat
def feF (n : Nat) (gr : Nat → Nat) (size : Nat) (s : Nat) (a : FE) : FE := if pc s = size ∧ covB n gr s = true then (some (a.1.getD s), a.2.1 + 1, a.2.2.1 &&& s, a.2.2.2 ||| s) else a
def feN (n : Nat) (gr : Nat → Nat) : FE := lp (feF n gr (leN n gr)) (2 ^ n) (none, 0, 2 ^ n - 1, 0)
theorem feF_le (n : Nat) (gr : Nat → Nat) (size : Nat) : ∀ k, k ≤ 2 ^ n → (∀ x, (lp (feF n gr size) k (none, 0, 2 ^ n - 1, 0)).1 = some x → x < 2 ^ n) ∧ (lp (feF n gr size) k (none, 0, 2 ^ n - 1, 0)).2.2.1 < 2 ^ n ∧ (lp (feF n gr size) k (none, 0, 2 ^ n - 1, 0)).2.2.2 < 2 ^ n ∧ (lp (feF n gr size) k (none, 0, 2 ^ n - 1, 0)).2.1 ≤ k := by
  intro k
  induction k with
  | zero => intro _; exact ⟨fun x h => (by cases h), allLt n, Nat.two_pow_pos n, Nat.le_refl _⟩
  | succ k ih =>
    intro hk
    obtain ⟨h1, h2, h3, h4⟩ := ih (by omega)
    simp only [lp_s, feF]
    split
    · refine ⟨fun x h => ?_, Nat.lt_of_le_of_lt Nat.and_le_left h2, Nat.or_lt_two_pow h3 (by omega), by simp; omega⟩
      simp only [Option.some.injEq] at h
      cases e : (lp (feF n gr size) k (none, 0, 2 ^ n - 1, 0)).1 with
      | none => rw [e] at h; simp at h; omega
      | some y => rw [e] at h; simp at h; rw [← h]; exact h1 y e
    · exact ⟨h1, h2, h3, by omega⟩
abbrev DE : Type := Int32 × Int32 × Int32
def deF (n : Nat) (gr : Nat → Nat) (co : Nat → Int32) (s : Nat) (a : DE) : DE := if covB n gr s = true ∧ ¬ a.1 < co s then (co s, if co s < a.1 then nI s else a.2.1, if co s < a.1 then 1 else a.2.2 + 1) else a
def deN (n : Nat) (gr : Nat → Nat) (co : Nat → Int32) : DE := lp (deF n gr co) (2 ^ n) (1000000, -1, 0)
def szF (n : Nat) (gr : Nat → Nat) (m : Int32) (s : Nat) (a : Nat) : Nat := a + (if nI (pc s) = m ∧ covB n gr s = true then 1 else 0)
def szN (n : Nat) (gr : Nat → Nat) (m : Int32) : Nat := lp (szF n gr m) (2 ^ n) 0
def baF (n : Nat) (gr : Nat → Nat) (s : Nat) (a : DE) : DE := if barB n gr s = true then (a.1 + 1, if a.2.1 < nI (pc s) then nI (pc s) else a.2.1, if a.2.1 < nI (pc s) then nI s else a.2.2) else a
def baN (n : Nat) (gr : Nat → Nat) : DE := lp (baF n gr) (2 ^ n) (0, -1, -1)
def shF (n : Nat) (gr : Nat → Nat) (s : Nat) (a : Nat) : Nat := a + (if covB n gr s = true then 1 else 0)
def shN (n : Nat) (gr : Nat → Nat) : Nat := lp (shF n gr) (2 ^ n) 0
theorem shF_le (n : Nat) (gr : Nat → Nat) : ∀ k, lp (shF n gr) k 0 ≤ k := by
  intro k
  induction k with
  | zero => exact Nat.le_refl _
  | succ k ih => simp only [lp_s, shF]; split <;> omega
theorem lg0 (x : Int64) : lg_cmp x 0 = 0 ↔ x = 0 := by
  unfold lg_cmp
  by_cases h : x = 0
  · subst h; simp
  · simp only [h, if_false, iff_false]
    split <;> decide
theorem lN_0iff {a : Nat} (h : a < 2 ^ 63) : lN a = 0 ↔ a = 0 := by
  have := pk_lEQ (a := a) (b := 0) h (by decide)
  exact this
section M27
variable {l : Launch} {d : Nat} {K : AK} {I : AI} {J : AJ} {g : Bool} {n : Nat} {gr : Nat → Nat}

theorem lM_fewest {q : Int32} (hG : MG I n gr) (hq : inR q 0 4 = true) (hk : K (.int (if q = 0 then nI (leN n gr) else if q = 1 then mv (feN n gr).1 else if q = 2 then nI (feN n gr).2.1 else if q = 3 then nI (feN n gr).2.2.1 else nI (df (2 ^ n - 1) (feN n gr).2.2.2))) I J (rX g)) : ∀ (k s : Nat), 2 ^ n - s = k → s ≤ 2 ^ n → G l (d + 2) mX12_fewest K 34 [.ref 75, .int q, .int (nI (leN n gr)), .int (mv (lp (feF n gr (leN n gr)) s (none, 0, 2 ^ n - 1, 0)).1), .int (nI (lp (feF n gr (leN n gr)) s (none, 0, 2 ^ n - 1, 0)).2.1), .int (nI (lp (feF n gr (leN n gr)) s (none, 0, 2 ^ n - 1, 0)).2.2.1), .int (nI (lp (feF n gr (leN n gr)) s (none, 0, 2 ^ n - 1, 0)).2.2.2), .int (nI s)] [] I J (rX g) := by
  intro k
  induction k using Nat.strongRecOn with
  | _ k ih =>
  intro s hsk hsn
  have hn := hG.2.1
  have e0 := hG.1
  have hp2 := pow12 hn
  have h1p : 0 < 2 ^ n := Nat.two_pow_pos n
  have hle := leF_le n gr (2 ^ n)
  have hle : leN n gr ≤ n := hle
  obtain ⟨a1, a2, a3, a4⟩ := feF_le n gr (leN n gr) s hsn
  refine G_iload_7 (nx := 36) ⟨dX12_fewest_34, rfl⟩ ?_
  refine G_aload_0 (nx := 37) ⟨dX12_fewest_36, rfl⟩ ?_
  refine G_cv0 (nx := 40) ⟨dX12_fewest_37, rfl⟩ kX12_129 rfl q_75 rfl (Nat.le_of_ble_eq_true rfl) (Nat.le_of_ble_eq_true rfl) (cM_all hG ?_)
  refine G_icmpgt (tgt := 99) (nx := 43) ⟨dX12_fewest_40, rfl⟩ rfl (fun c_40 => ?_) (fun c_40 => ?_)
  · refine G_iload_1 (nx := 100) ⟨dX12_fewest_99, rfl⟩ ?_
    rcases sw_0_3 _ with c_100 | c_100 | c_100 | c_100 | c_100
    · refine G_tabAt (v := 0) (tgt := 132) (nx := 132) ⟨dX12_fewest_100, rfl⟩ c_100 (by decide) (by decide) (off := 32) rfl rfl ?_
      refine G_iload_2 (nx := 133) ⟨dX12_fewest_132, rfl⟩ ?_
      refine G_iret ⟨dX12_fewest_133, rfl⟩ rfl ?_
      rw [nI_lt_iff (by omega) (by omega)] at c_40
      have hse : s = 2 ^ n := by omega
      subst hse
      refine K_v (congrArg Value.int ?_) hk
      rw [c_100]
      rfl
    · refine G_tabAt (v := 1) (tgt := 134) (nx := 132) ⟨dX12_fewest_100, rfl⟩ c_100 (by decide) (by decide) (off := 34) rfl rfl ?_
      refine G_iload_3 (nx := 135) ⟨dX12_fewest_134, rfl⟩ ?_
      refine G_iret ⟨dX12_fewest_135, rfl⟩ rfl ?_
      rw [nI_lt_iff (by omega) (by omega)] at c_40
      have hse : s = 2 ^ n := by omega
      subst hse
      refine K_v (congrArg Value.int ?_) hk
      rw [c_100]
      rfl
    · refine G_tabAt (v := 2) (tgt := 136) (nx := 132) ⟨dX12_fewest_100, rfl⟩ c_100 (by decide) (by decide) (off := 36) rfl rfl ?_
      refine G_iload_4 (nx := 138) ⟨dX12_fewest_136, rfl⟩ ?_
      refine G_iret ⟨dX12_fewest_138, rfl⟩ rfl ?_
      rw [nI_lt_iff (by omega) (by omega)] at c_40
      have hse : s = 2 ^ n := by omega
      subst hse
      refine K_v (congrArg Value.int ?_) hk
      rw [c_100]
      rfl
    · refine G_tabAt (v := 3) (tgt := 139) (nx := 132) ⟨dX12_fewest_100, rfl⟩ c_100 (by decide) (by decide) (off := 39) rfl rfl ?_
      refine G_iload_5 (nx := 141) ⟨dX12_fewest_139, rfl⟩ ?_
      refine G_iret ⟨dX12_fewest_141, rfl⟩ rfl ?_
      rw [nI_lt_iff (by omega) (by omega)] at c_40
      have hse : s = 2 ^ n := by omega
      subst hse
      refine K_v (congrArg Value.int ?_) hk
      rw [c_100]
      rfl
    · refine G_tabOut (tgt := 142) (nx := 132) ⟨dX12_fewest_100, rfl⟩ c_100 rfl ?_
      refine G_aload_0 (nx := 143) ⟨dX12_fewest_142, rfl⟩ ?_
      refine G_cv0 (nx := 146) ⟨dX12_fewest_143, rfl⟩ kX12_129 rfl q_75 rfl (Nat.le_of_ble_eq_true rfl) (Nat.le_of_ble_eq_true rfl) (cM_all hG ?_)
      refine G_iload_6 (nx := 148) ⟨dX12_fewest_146, rfl⟩ ?_
      refine G_iconst (nx := 149) ⟨dX12_fewest_148, rfl⟩ ci_m1 ?_
      refine G_ixor (nx := 150) ⟨dX12_fewest_149, rfl⟩ ?_
      refine G_iand (nx := 151) ⟨dX12_fewest_150, rfl⟩ ?_
      refine G_iret ⟨dX12_fewest_151, rfl⟩ rfl ?_
      rw [nI_lt_iff (by omega) (by omega)] at c_40
      have hse : s = 2 ^ n := by omega
      subst hse
      refine K_v (congrArg Value.int ?_) hk
      rw [nI_df _ (by omega)]
      rcases inR04 hq with e | e | e | e | e
      · subst e; exact absurd c_100 (by decide)
      · subst e; exact absurd c_100 (by decide)
      · subst e; exact absurd c_100 (by decide)
      · subst e; exact absurd c_100 (by decide)
      · subst e; rfl
  · rw [nI_lt_iff (by omega) (by omega)] at c_40
    have hs : s < 2 ^ n := by omega
    have hs4 : s < 4096 := by omega
    have hpc := pc_le s
    refine G_iload_7 (nx := 45) ⟨dX12_fewest_43, rfl⟩ ?_
    refine G_cs1 (nx := 48) ⟨dX12_fewest_45, rfl⟩ kX12_133 rfl rfl (Nat.le_of_ble_eq_true rfl) (Nat.le_of_ble_eq_true rfl) (cM_bits hs4 ?_)
    refine G_iload_2 (nx := 49) ⟨dX12_fewest_48, rfl⟩ ?_
    refine G_icmpne (tgt := 93) (nx := 52) ⟨dX12_fewest_49, rfl⟩ rfl (fun c_49 => ?_) (fun c_49 => ?_)
    · refine G_iinc_7 (nx := 96) ⟨dX12_fewest_93, rfl⟩ ci_1 rfl ?_
      refine G_goto (tgt := 34) ⟨dX12_fewest_96, rfl⟩ rfl ?_
      rw [nI_eq (by omega) (by omega)] at c_49
      refine G_L ?_ (ih (2 ^ n - (s + 1)) (by omega) (s + 1) rfl (by omega))
      simp [lp_s, feF, c_49, nI_1]
    · rw [nI_eq (by omega) (by omega)] at c_49
      refine G_aload_0 (nx := 53) ⟨dX12_fewest_52, rfl⟩ ?_
      refine G_iload_7 (nx := 55) ⟨dX12_fewest_53, rfl⟩ ?_
      refine G_cv1 (nx := 58) ⟨dX12_fewest_55, rfl⟩ kX12_168 rfl q_75 rfl (Nat.le_of_ble_eq_true rfl) (Nat.le_of_ble_eq_true rfl) (cM_covers hG hs4 ?_)
      refine G_ifne (tgt := 64) (nx := 61) ⟨dX12_fewest_58, rfl⟩ rfl (fun c_58 => ?_) (fun c_58 => ?_)
      · rw [bi_n0] at c_58
        refine G_iload_3 (nx := 65) ⟨dX12_fewest_64, rfl⟩ ?_
        refine G_iconst (nx := 66) ⟨dX12_fewest_65, rfl⟩ ci_m1 ?_
        refine G_icmpne (tgt := 74) (nx := 69) ⟨dX12_fewest_66, rfl⟩ rfl (fun c_66 => ?_) (fun c_66 => ?_)
        · refine G_iload_3 (nx := 75) ⟨dX12_fewest_74, rfl⟩ ?_
          refine G_istore_3 (nx := 76) ⟨dX12_fewest_75, rfl⟩ rfl rfl ?_
          refine G_iinc_4 (nx := 79) ⟨dX12_fewest_76, rfl⟩ ci_1 rfl ?_
          refine G_iload_5 (nx := 81) ⟨dX12_fewest_79, rfl⟩ ?_
          refine G_iload_7 (nx := 83) ⟨dX12_fewest_81, rfl⟩ ?_
          refine G_iand (nx := 84) ⟨dX12_fewest_83, rfl⟩ ?_
          refine G_istore_5 (nx := 86) ⟨dX12_fewest_84, rfl⟩ rfl rfl ?_
          refine G_iload_6 (nx := 88) ⟨dX12_fewest_86, rfl⟩ ?_
          refine G_iload_7 (nx := 90) ⟨dX12_fewest_88, rfl⟩ ?_
          refine G_ior (nx := 91) ⟨dX12_fewest_90, rfl⟩ ?_
          refine G_istore_6 (nx := 93) ⟨dX12_fewest_91, rfl⟩ rfl rfl ?_
          refine G_iinc_7 (nx := 96) ⟨dX12_fewest_93, rfl⟩ ci_1 rfl ?_
          refine G_goto (tgt := 34) ⟨dX12_fewest_96, rfl⟩ rfl ?_
          refine G_L ?_ (ih (2 ^ n - (s + 1)) (by omega) (s + 1) rfl (by omega))
          simp only [lp_s, feF, c_49, c_58, and_self, if_true, nI_1, nI_and, nI_or]
          cases e : (lp (feF n gr (leN n gr)) s (none, 0, 2 ^ n - 1, 0)).1 with
          | none => first | rfl | (rw [e] at c_66; exact absurd rfl c_66)
          | some y => first | rfl | (rw [e] at c_66; exact absurd c_66 (nI_ne_m1 (by have := a1 y e; omega)))
        · refine G_iload_7 (nx := 71) ⟨dX12_fewest_69, rfl⟩ ?_
          refine G_goto (tgt := 75) ⟨dX12_fewest_71, rfl⟩ rfl ?_
          refine G_istore_3 (nx := 76) ⟨dX12_fewest_75, rfl⟩ rfl rfl ?_
          refine G_iinc_4 (nx := 79) ⟨dX12_fewest_76, rfl⟩ ci_1 rfl ?_
          refine G_iload_5 (nx := 81) ⟨dX12_fewest_79, rfl⟩ ?_
          refine G_iload_7 (nx := 83) ⟨dX12_fewest_81, rfl⟩ ?_
          refine G_iand (nx := 84) ⟨dX12_fewest_83, rfl⟩ ?_
          refine G_istore_5 (nx := 86) ⟨dX12_fewest_84, rfl⟩ rfl rfl ?_
          refine G_iload_6 (nx := 88) ⟨dX12_fewest_86, rfl⟩ ?_
          refine G_iload_7 (nx := 90) ⟨dX12_fewest_88, rfl⟩ ?_
          refine G_ior (nx := 91) ⟨dX12_fewest_90, rfl⟩ ?_
          refine G_istore_6 (nx := 93) ⟨dX12_fewest_91, rfl⟩ rfl rfl ?_
          refine G_iinc_7 (nx := 96) ⟨dX12_fewest_93, rfl⟩ ci_1 rfl ?_
          refine G_goto (tgt := 34) ⟨dX12_fewest_96, rfl⟩ rfl ?_
          refine G_L ?_ (ih (2 ^ n - (s + 1)) (by omega) (s + 1) rfl (by omega))
          simp only [lp_s, feF, c_49, c_58, and_self, if_true, nI_1, nI_and, nI_or]
          cases e : (lp (feF n gr (leN n gr)) s (none, 0, 2 ^ n - 1, 0)).1 with
          | none => first | rfl | (rw [e] at c_66; exact absurd rfl c_66)
          | some y => first | rfl | (rw [e] at c_66; exact absurd c_66 (nI_ne_m1 (by have := a1 y e; omega)))
      · rw [bi_0] at c_58
        refine G_goto (tgt := 93) ⟨dX12_fewest_61, rfl⟩ rfl ?_
        refine G_iinc_7 (nx := 96) ⟨dX12_fewest_93, rfl⟩ ci_1 rfl ?_
        refine G_goto (tgt := 34) ⟨dX12_fewest_96, rfl⟩ rfl ?_
        refine G_L ?_ (ih (2 ^ n - (s + 1)) (by omega) (s + 1) rfl (by omega))
        simp [lp_s, feF, c_58, nI_1]

theorem cM_fewest {q : Int32} (hG : MG I n gr) (hk1 : inR q 0 4 = false → K (.int (-2)) I J (rX g)) (hk : inR q 0 4 = true → K (.int (if q = 0 then nI (leN n gr) else if q = 1 then mv (feN n gr).1 else if q = 2 then nI (feN n gr).2.1 else if q = 3 then nI (feN n gr).2.2.1 else nI (df (2 ^ n - 1) (feN n gr).2.2.2))) I J (rX g)) : G l (d + 3) mX12_fewest K 0 [.ref 75, .int q, UU, UU, UU, UU, UU, UU] [] I J (rX g) := by
  refine G_iload_1 (nx := 1) ⟨dX12_fewest_0, rfl⟩ ?_
  refine G_iconst (nx := 2) ⟨dX12_fewest_1, rfl⟩ ci_0 ?_
  refine G_iconst (nx := 3) ⟨dX12_fewest_2, rfl⟩ ci_4 ?_
  refine G_cs3 (nx := 6) ⟨dX12_fewest_3, rfl⟩ kX12_125 rfl rfl (Nat.le_of_ble_eq_true rfl) (Nat.le_of_ble_eq_true rfl) (cM_in ?_)
  refine G_ifne (tgt := 12) (nx := 9) ⟨dX12_fewest_6, rfl⟩ rfl (fun c_6 => ?_) (fun c_6 => ?_)
  · rw [bi_n0] at c_6
    refine G_aload_0 (nx := 13) ⟨dX12_fewest_12, rfl⟩ ?_
    refine G_cv0 (nx := 16) ⟨dX12_fewest_13, rfl⟩ kX12_180 rfl q_75 rfl (Nat.le_of_ble_eq_true rfl) (Nat.le_of_ble_eq_true rfl) (cM_least hG ?_)
    refine G_istore_2 (nx := 17) ⟨dX12_fewest_16, rfl⟩ rfl rfl ?_
    refine G_iconst (nx := 18) ⟨dX12_fewest_17, rfl⟩ ci_m1 ?_
    refine G_istore_3 (nx := 19) ⟨dX12_fewest_18, rfl⟩ rfl rfl ?_
    refine G_iconst (nx := 20) ⟨dX12_fewest_19, rfl⟩ ci_0 ?_
    refine G_istore_4 (nx := 22) ⟨dX12_fewest_20, rfl⟩ rfl rfl ?_
    refine G_aload_0 (nx := 23) ⟨dX12_fewest_22, rfl⟩ ?_
    refine G_cv0 (nx := 26) ⟨dX12_fewest_23, rfl⟩ kX12_129 rfl q_75 rfl (Nat.le_of_ble_eq_true rfl) (Nat.le_of_ble_eq_true rfl) (cM_all hG ?_)
    refine G_istore_5 (nx := 28) ⟨dX12_fewest_26, rfl⟩ rfl rfl ?_
    refine G_iconst (nx := 29) ⟨dX12_fewest_28, rfl⟩ ci_0 ?_
    refine G_istore_6 (nx := 31) ⟨dX12_fewest_29, rfl⟩ rfl rfl ?_
    refine G_iconst (nx := 32) ⟨dX12_fewest_31, rfl⟩ ci_0 ?_
    refine G_istore_7 (nx := 34) ⟨dX12_fewest_32, rfl⟩ rfl rfl ?_
    exact lM_fewest hG c_6 (hk c_6) _ 0 rfl (Nat.zero_le _)
  · rw [bi_0] at c_6
    refine G_bipush (nx := 11) ⟨dX12_fewest_9, rfl⟩ cb_m2 ?_
    refine G_iret ⟨dX12_fewest_11, rfl⟩ rfl ?_
    exact hk1 c_6

theorem lM_dear {q : Int32} {kd wt : Nat → Int32} (hG : MG I n gr) (hkd : ∀ p, p < n → I 76 p = kd p) (hwt : ∀ p, p < n → I 77 p = wt p) (hk : K (.int (if q = 0 then (deN n gr (coN n kd wt gr)).1 else if q = 1 then (deN n gr (coN n kd wt gr)).2.1 else (deN n gr (coN n kd wt gr)).2.2)) I J (rX g)) : ∀ (k s : Nat), 2 ^ n - s = k → s ≤ 2 ^ n → G l (d + 3) mX12_dear K 23 [.ref 75, .int q, .int (lp (deF n gr (coN n kd wt gr)) s (1000000, -1, 0)).1, .int (lp (deF n gr (coN n kd wt gr)) s (1000000, -1, 0)).2.1, .int (lp (deF n gr (coN n kd wt gr)) s (1000000, -1, 0)).2.2, .int (nI s)] [] I J (rX g) := by
  intro k
  induction k using Nat.strongRecOn with
  | _ k ih =>
  intro s hsk hsn
  have hn := hG.2.1
  have e0 := hG.1
  have hp2 := pow12 hn
  have h1p : 0 < 2 ^ n := Nat.two_pow_pos n
  refine G_iload_5 (nx := 25) ⟨dX12_dear_23, rfl⟩ ?_
  refine G_aload_0 (nx := 26) ⟨dX12_dear_25, rfl⟩ ?_
  refine G_cv0 (nx := 29) ⟨dX12_dear_26, rfl⟩ kX12_129 rfl q_75 rfl (Nat.le_of_ble_eq_true rfl) (Nat.le_of_ble_eq_true rfl) (cM_all hG ?_)
  refine G_icmpgt (tgt := 104) (nx := 32) ⟨dX12_dear_29, rfl⟩ rfl (fun c_29 => ?_) (fun c_29 => ?_)
  · refine G_iload_1 (nx := 105) ⟨dX12_dear_104, rfl⟩ ?_
    refine G_ifne (tgt := 112) (nx := 108) ⟨dX12_dear_105, rfl⟩ rfl (fun c_105 => ?_) (fun c_105 => ?_)
    · refine G_iload_1 (nx := 113) ⟨dX12_dear_112, rfl⟩ ?_
      refine G_iconst (nx := 114) ⟨dX12_dear_113, rfl⟩ ci_1 ?_
      refine G_icmpne (tgt := 121) (nx := 117) ⟨dX12_dear_114, rfl⟩ rfl (fun c_114 => ?_) (fun c_114 => ?_)
      · refine G_iload_4 (nx := 123) ⟨dX12_dear_121, rfl⟩ ?_
        refine G_iret ⟨dX12_dear_123, rfl⟩ rfl ?_
        rw [nI_lt_iff (by omega) (by omega)] at c_29
        have hse : s = 2 ^ n := by omega
        subst hse
        refine K_v (congrArg Value.int ?_) hk
        simp [c_105, c_114, deN]
      · refine G_iload_3 (nx := 118) ⟨dX12_dear_117, rfl⟩ ?_
        refine G_goto (tgt := 123) ⟨dX12_dear_118, rfl⟩ rfl ?_
        refine G_iret ⟨dX12_dear_123, rfl⟩ rfl ?_
        rw [nI_lt_iff (by omega) (by omega)] at c_29
        have hse : s = 2 ^ n := by omega
        subst hse
        refine K_v (congrArg Value.int ?_) hk
        simp [c_105, c_114, deN]
    · refine G_iload_2 (nx := 109) ⟨dX12_dear_108, rfl⟩ ?_
      refine G_goto (tgt := 123) ⟨dX12_dear_109, rfl⟩ rfl ?_
      refine G_iret ⟨dX12_dear_123, rfl⟩ rfl ?_
      rw [nI_lt_iff (by omega) (by omega)] at c_29
      have hse : s = 2 ^ n := by omega
      subst hse
      refine K_v (congrArg Value.int ?_) hk
      simp [c_105, deN]
  · rw [nI_lt_iff (by omega) (by omega)] at c_29
    have hs : s < 2 ^ n := by omega
    have hs4 : s < 4096 := by omega
    have hpc := pc_le s
    refine G_aload_0 (nx := 33) ⟨dX12_dear_32, rfl⟩ ?_
    refine G_iload_5 (nx := 35) ⟨dX12_dear_33, rfl⟩ ?_
    refine G_cv1 (nx := 38) ⟨dX12_dear_35, rfl⟩ kX12_168 rfl q_75 rfl (Nat.le_of_ble_eq_true rfl) (Nat.le_of_ble_eq_true rfl) (cM_covers hG hs4 ?_)
    refine G_ifeq (tgt := 98) (nx := 41) ⟨dX12_dear_38, rfl⟩ rfl (fun c_38 => ?_) (fun c_38 => ?_)
    · refine G_iinc_5 (nx := 101) ⟨dX12_dear_98, rfl⟩ ci_1 rfl ?_
      refine G_goto (tgt := 23) ⟨dX12_dear_101, rfl⟩ rfl ?_
      rw [bi_0] at c_38
      refine G_L ?_ (ih (2 ^ n - (s + 1)) (by omega) (s + 1) rfl (by omega))
      simp [lp_s, deF, c_38, nI_1]
    · rw [bi_n0] at c_38
      refine G_aload_0 (nx := 42) ⟨dX12_dear_41, rfl⟩ ?_
      refine G_iload_5 (nx := 44) ⟨dX12_dear_42, rfl⟩ ?_
      refine G_cv1 (nx := 47) ⟨dX12_dear_44, rfl⟩ kX12_177 rfl q_75 rfl (Nat.le_of_ble_eq_true rfl) (Nat.le_of_ble_eq_true rfl) (cM_costs hG hkd hwt hs4 ?_)
      refine G_iload_2 (nx := 48) ⟨dX12_dear_47, rfl⟩ ?_
      refine G_icmple (tgt := 54) (nx := 51) ⟨dX12_dear_48, rfl⟩ rfl (fun c_48 => ?_) (fun c_48 => ?_)
      · have c_48b : ¬ (lp (deF n gr (coN n kd wt gr)) s (1000000, -1, 0)).1 < coN n kd wt gr s := by rw [i32_le] at c_48; rw [i32_lt]; omega
        refine G_aload_0 (nx := 55) ⟨dX12_dear_54, rfl⟩ ?_
        refine G_iload_5 (nx := 57) ⟨dX12_dear_55, rfl⟩ ?_
        refine G_cv1 (nx := 60) ⟨dX12_dear_57, rfl⟩ kX12_177 rfl q_75 rfl (Nat.le_of_ble_eq_true rfl) (Nat.le_of_ble_eq_true rfl) (cM_costs hG hkd hwt hs4 ?_)
        refine G_iload_2 (nx := 61) ⟨dX12_dear_60, rfl⟩ ?_
        refine G_icmpge (tgt := 68) (nx := 64) ⟨dX12_dear_61, rfl⟩ rfl (fun c_61 => ?_) (fun c_61 => ?_)
        · refine G_iload_4 (nx := 70) ⟨dX12_dear_68, rfl⟩ ?_
          refine G_iconst (nx := 71) ⟨dX12_dear_70, rfl⟩ ci_1 ?_
          refine G_iadd (nx := 72) ⟨dX12_dear_71, rfl⟩ ?_
          refine G_istore_4 (nx := 74) ⟨dX12_dear_72, rfl⟩ rfl rfl ?_
          refine G_aload_0 (nx := 75) ⟨dX12_dear_74, rfl⟩ ?_
          refine G_iload_5 (nx := 77) ⟨dX12_dear_75, rfl⟩ ?_
          refine G_cv1 (nx := 80) ⟨dX12_dear_77, rfl⟩ kX12_177 rfl q_75 rfl (Nat.le_of_ble_eq_true rfl) (Nat.le_of_ble_eq_true rfl) (cM_costs hG hkd hwt hs4 ?_)
          refine G_iload_2 (nx := 81) ⟨dX12_dear_80, rfl⟩ ?_
          refine G_icmpge (tgt := 89) (nx := 84) ⟨dX12_dear_81, rfl⟩ rfl (fun c_81 => ?_) (fun c_81 => ?_)
          · refine G_iload_3 (nx := 90) ⟨dX12_dear_89, rfl⟩ ?_
            refine G_istore_3 (nx := 91) ⟨dX12_dear_90, rfl⟩ rfl rfl ?_
            refine G_aload_0 (nx := 92) ⟨dX12_dear_91, rfl⟩ ?_
            refine G_iload_5 (nx := 94) ⟨dX12_dear_92, rfl⟩ ?_
            refine G_cv1 (nx := 97) ⟨dX12_dear_94, rfl⟩ kX12_177 rfl q_75 rfl (Nat.le_of_ble_eq_true rfl) (Nat.le_of_ble_eq_true rfl) (cM_costs hG hkd hwt hs4 ?_)
            refine G_istore_2 (nx := 98) ⟨dX12_dear_97, rfl⟩ rfl rfl ?_
            refine G_iinc_5 (nx := 101) ⟨dX12_dear_98, rfl⟩ ci_1 rfl ?_
            refine G_goto (tgt := 23) ⟨dX12_dear_101, rfl⟩ rfl ?_
            first | exact absurd c_81 c_61 | exact absurd c_61 c_81 | skip
            all_goals refine G_L ?_ (ih (2 ^ n - (s + 1)) (by omega) (s + 1) rfl (by omega))
            all_goals rw [i32_le] at c_61
            all_goals simp only [lp_s, deF, c_38, c_48b, not_false_eq_true, and_self, if_true, nI_1]
            all_goals (by_cases h : coN n kd wt gr s < (lp (deF n gr (coN n kd wt gr)) s (1000000, -1, 0)).1 <;> first | (exfalso; rw [i32_lt] at h; omega) | (simp only [h, if_true]; done) | (simp only [h, if_false]; done))
          · refine G_iload_5 (nx := 86) ⟨dX12_dear_84, rfl⟩ ?_
            refine G_goto (tgt := 90) ⟨dX12_dear_86, rfl⟩ rfl ?_
            refine G_istore_3 (nx := 91) ⟨dX12_dear_90, rfl⟩ rfl rfl ?_
            refine G_aload_0 (nx := 92) ⟨dX12_dear_91, rfl⟩ ?_
            refine G_iload_5 (nx := 94) ⟨dX12_dear_92, rfl⟩ ?_
            refine G_cv1 (nx := 97) ⟨dX12_dear_94, rfl⟩ kX12_177 rfl q_75 rfl (Nat.le_of_ble_eq_true rfl) (Nat.le_of_ble_eq_true rfl) (cM_costs hG hkd hwt hs4 ?_)
            refine G_istore_2 (nx := 98) ⟨dX12_dear_97, rfl⟩ rfl rfl ?_
            refine G_iinc_5 (nx := 101) ⟨dX12_dear_98, rfl⟩ ci_1 rfl ?_
            refine G_goto (tgt := 23) ⟨dX12_dear_101, rfl⟩ rfl ?_
            first | exact absurd c_81 c_61 | exact absurd c_61 c_81 | skip
            all_goals refine G_L ?_ (ih (2 ^ n - (s + 1)) (by omega) (s + 1) rfl (by omega))
            all_goals rw [i32_le] at c_61
            all_goals simp only [lp_s, deF, c_38, c_48b, not_false_eq_true, and_self, if_true, nI_1]
            all_goals (by_cases h : coN n kd wt gr s < (lp (deF n gr (coN n kd wt gr)) s (1000000, -1, 0)).1 <;> first | (exfalso; rw [i32_lt] at h; omega) | (simp only [h, if_true]; done) | (simp only [h, if_false]; done))
        · refine G_iconst (nx := 65) ⟨dX12_dear_64, rfl⟩ ci_1 ?_
          refine G_goto (tgt := 72) ⟨dX12_dear_65, rfl⟩ rfl ?_
          refine G_istore_4 (nx := 74) ⟨dX12_dear_72, rfl⟩ rfl rfl ?_
          refine G_aload_0 (nx := 75) ⟨dX12_dear_74, rfl⟩ ?_
          refine G_iload_5 (nx := 77) ⟨dX12_dear_75, rfl⟩ ?_
          refine G_cv1 (nx := 80) ⟨dX12_dear_77, rfl⟩ kX12_177 rfl q_75 rfl (Nat.le_of_ble_eq_true rfl) (Nat.le_of_ble_eq_true rfl) (cM_costs hG hkd hwt hs4 ?_)
          refine G_iload_2 (nx := 81) ⟨dX12_dear_80, rfl⟩ ?_
          refine G_icmpge (tgt := 89) (nx := 84) ⟨dX12_dear_81, rfl⟩ rfl (fun c_81 => ?_) (fun c_81 => ?_)
          · refine G_iload_3 (nx := 90) ⟨dX12_dear_89, rfl⟩ ?_
            refine G_istore_3 (nx := 91) ⟨dX12_dear_90, rfl⟩ rfl rfl ?_
            refine G_aload_0 (nx := 92) ⟨dX12_dear_91, rfl⟩ ?_
            refine G_iload_5 (nx := 94) ⟨dX12_dear_92, rfl⟩ ?_
            refine G_cv1 (nx := 97) ⟨dX12_dear_94, rfl⟩ kX12_177 rfl q_75 rfl (Nat.le_of_ble_eq_true rfl) (Nat.le_of_ble_eq_true rfl) (cM_costs hG hkd hwt hs4 ?_)
            refine G_istore_2 (nx := 98) ⟨dX12_dear_97, rfl⟩ rfl rfl ?_
            refine G_iinc_5 (nx := 101) ⟨dX12_dear_98, rfl⟩ ci_1 rfl ?_
            refine G_goto (tgt := 23) ⟨dX12_dear_101, rfl⟩ rfl ?_
            first | exact absurd c_81 c_61 | exact absurd c_61 c_81 | skip
            all_goals refine G_L ?_ (ih (2 ^ n - (s + 1)) (by omega) (s + 1) rfl (by omega))
            all_goals rw [i32_le] at c_61
            all_goals simp only [lp_s, deF, c_38, c_48b, not_false_eq_true, and_self, if_true, nI_1]
            all_goals (by_cases h : coN n kd wt gr s < (lp (deF n gr (coN n kd wt gr)) s (1000000, -1, 0)).1 <;> first | (exfalso; rw [i32_lt] at h; omega) | (simp only [h, if_true]; done) | (simp only [h, if_false]; done))
          · refine G_iload_5 (nx := 86) ⟨dX12_dear_84, rfl⟩ ?_
            refine G_goto (tgt := 90) ⟨dX12_dear_86, rfl⟩ rfl ?_
            refine G_istore_3 (nx := 91) ⟨dX12_dear_90, rfl⟩ rfl rfl ?_
            refine G_aload_0 (nx := 92) ⟨dX12_dear_91, rfl⟩ ?_
            refine G_iload_5 (nx := 94) ⟨dX12_dear_92, rfl⟩ ?_
            refine G_cv1 (nx := 97) ⟨dX12_dear_94, rfl⟩ kX12_177 rfl q_75 rfl (Nat.le_of_ble_eq_true rfl) (Nat.le_of_ble_eq_true rfl) (cM_costs hG hkd hwt hs4 ?_)
            refine G_istore_2 (nx := 98) ⟨dX12_dear_97, rfl⟩ rfl rfl ?_
            refine G_iinc_5 (nx := 101) ⟨dX12_dear_98, rfl⟩ ci_1 rfl ?_
            refine G_goto (tgt := 23) ⟨dX12_dear_101, rfl⟩ rfl ?_
            first | exact absurd c_81 c_61 | exact absurd c_61 c_81 | skip
            all_goals refine G_L ?_ (ih (2 ^ n - (s + 1)) (by omega) (s + 1) rfl (by omega))
            all_goals rw [i32_le] at c_61
            all_goals simp only [lp_s, deF, c_38, c_48b, not_false_eq_true, and_self, if_true, nI_1]
            all_goals (by_cases h : coN n kd wt gr s < (lp (deF n gr (coN n kd wt gr)) s (1000000, -1, 0)).1 <;> first | (exfalso; rw [i32_lt] at h; omega) | (simp only [h, if_true]; done) | (simp only [h, if_false]; done))
      · refine G_goto (tgt := 98) ⟨dX12_dear_51, rfl⟩ rfl ?_
        refine G_iinc_5 (nx := 101) ⟨dX12_dear_98, rfl⟩ ci_1 rfl ?_
        refine G_goto (tgt := 23) ⟨dX12_dear_101, rfl⟩ rfl ?_
        refine G_L ?_ (ih (2 ^ n - (s + 1)) (by omega) (s + 1) rfl (by omega))
        have c_48b : (lp (deF n gr (coN n kd wt gr)) s (1000000, -1, 0)).1 < coN n kd wt gr s := by rw [i32_le] at c_48; rw [i32_lt]; omega
        simp only [lp_s, deF, c_38, c_48b, not_true_eq_false, and_false, if_false, nI_1]

theorem cM_dear {q : Int32} {kd wt : Nat → Int32} (hG : MG I n gr) (hkd : ∀ p, p < n → I 76 p = kd p) (hwt : ∀ p, p < n → I 77 p = wt p) (hk1 : inR q 0 2 = false → K (.int (-2)) I J (rX g)) (hk : inR q 0 2 = true → K (.int (if q = 0 then (deN n gr (coN n kd wt gr)).1 else if q = 1 then (deN n gr (coN n kd wt gr)).2.1 else (deN n gr (coN n kd wt gr)).2.2)) I J (rX g)) : G l (d + 3) mX12_dear K 0 [.ref 75, .int q, UU, UU, UU, UU] [] I J (rX g) := by
  refine G_iload_1 (nx := 1) ⟨dX12_dear_0, rfl⟩ ?_
  refine G_iconst (nx := 2) ⟨dX12_dear_1, rfl⟩ ci_0 ?_
  refine G_iconst (nx := 3) ⟨dX12_dear_2, rfl⟩ ci_2 ?_
  refine G_cs3 (nx := 6) ⟨dX12_dear_3, rfl⟩ kX12_125 rfl rfl (Nat.le_of_ble_eq_true rfl) (Nat.le_of_ble_eq_true rfl) (cM_in ?_)
  refine G_ifne (tgt := 12) (nx := 9) ⟨dX12_dear_6, rfl⟩ rfl (fun c_6 => ?_) (fun c_6 => ?_)
  · rw [bi_n0] at c_6
    refine G_ldc (nx := 14) ⟨dX12_dear_12, rfl⟩ nX12_183 ?_
    refine G_istore_2 (nx := 15) ⟨dX12_dear_14, rfl⟩ rfl rfl ?_
    refine G_iconst (nx := 16) ⟨dX12_dear_15, rfl⟩ ci_m1 ?_
    refine G_istore_3 (nx := 17) ⟨dX12_dear_16, rfl⟩ rfl rfl ?_
    refine G_iconst (nx := 18) ⟨dX12_dear_17, rfl⟩ ci_0 ?_
    refine G_istore_4 (nx := 20) ⟨dX12_dear_18, rfl⟩ rfl rfl ?_
    refine G_iconst (nx := 21) ⟨dX12_dear_20, rfl⟩ ci_0 ?_
    refine G_istore_5 (nx := 23) ⟨dX12_dear_21, rfl⟩ rfl rfl ?_
    exact lM_dear hG hkd hwt (hk c_6) _ 0 rfl (Nat.zero_le _)
  · rw [bi_0] at c_6
    refine G_bipush (nx := 11) ⟨dX12_dear_9, rfl⟩ cb_m2 ?_
    refine G_iret ⟨dX12_dear_11, rfl⟩ rfl ?_
    exact hk1 c_6

theorem lM_sized {q : Int32} (hG : MG I n gr) (hk : K (.int (nI (szN n gr q))) I J (rX g)) : ∀ (k s : Nat), 2 ^ n - s = k → s ≤ 2 ^ n → G l (d + 2) mX12_sized K 17 [.ref 75, .int q, .int (nI (lp (szF n gr q) s 0)), .int (nI s)] [] I J (rX g) := by
  intro k
  induction k using Nat.strongRecOn with
  | _ k ih =>
  intro s hsk hsn
  have hn := hG.2.1
  have e0 := hG.1
  have hp2 := pow12 hn
  have h1p : 0 < 2 ^ n := Nat.two_pow_pos n
  refine G_iload_3 (nx := 18) ⟨dX12_sized_17, rfl⟩ ?_
  refine G_aload_0 (nx := 19) ⟨dX12_sized_18, rfl⟩ ?_
  refine G_cv0 (nx := 22) ⟨dX12_sized_19, rfl⟩ kX12_129 rfl q_75 rfl (Nat.le_of_ble_eq_true rfl) (Nat.le_of_ble_eq_true rfl) (cM_all hG ?_)
  refine G_icmpgt (tgt := 55) (nx := 25) ⟨dX12_sized_22, rfl⟩ rfl (fun c_22 => ?_) (fun c_22 => ?_)
  · refine G_iload_2 (nx := 56) ⟨dX12_sized_55, rfl⟩ ?_
    refine G_iret ⟨dX12_sized_56, rfl⟩ rfl ?_
    rw [nI_lt_iff (by omega) (by omega)] at c_22
    have hse : s = 2 ^ n := by omega
    subst hse
    exact hk
  · rw [nI_lt_iff (by omega) (by omega)] at c_22
    have hs : s < 2 ^ n := by omega
    have hs4 : s < 4096 := by omega
    have hpc := pc_le s
    refine G_iload_2 (nx := 26) ⟨dX12_sized_25, rfl⟩ ?_
    refine G_iload_3 (nx := 27) ⟨dX12_sized_26, rfl⟩ ?_
    refine G_cs1 (nx := 30) ⟨dX12_sized_27, rfl⟩ kX12_133 rfl rfl (Nat.le_of_ble_eq_true rfl) (Nat.le_of_ble_eq_true rfl) (cM_bits hs4 ?_)
    refine G_iload_1 (nx := 31) ⟨dX12_sized_30, rfl⟩ ?_
    refine G_icmpne (tgt := 46) (nx := 34) ⟨dX12_sized_31, rfl⟩ rfl (fun c_31 => ?_) (fun c_31 => ?_)
    · refine G_iconst (nx := 47) ⟨dX12_sized_46, rfl⟩ ci_0 ?_
      refine G_iadd (nx := 48) ⟨dX12_sized_47, rfl⟩ ?_
      refine G_istore_2 (nx := 49) ⟨dX12_sized_48, rfl⟩ rfl rfl ?_
      refine G_iinc_3 (nx := 52) ⟨dX12_sized_49, rfl⟩ ci_1 rfl ?_
      refine G_goto (tgt := 17) ⟨dX12_sized_52, rfl⟩ rfl ?_
      refine G_L ?_ (ih (2 ^ n - (s + 1)) (by omega) (s + 1) rfl (by omega))
      simp [lp_s, szF, c_31, nI_1]
    · refine G_aload_0 (nx := 35) ⟨dX12_sized_34, rfl⟩ ?_
      refine G_iload_3 (nx := 36) ⟨dX12_sized_35, rfl⟩ ?_
      refine G_cv1 (nx := 39) ⟨dX12_sized_36, rfl⟩ kX12_168 rfl q_75 rfl (Nat.le_of_ble_eq_true rfl) (Nat.le_of_ble_eq_true rfl) (cM_covers hG hs4 ?_)
      refine G_ifeq (tgt := 46) (nx := 42) ⟨dX12_sized_39, rfl⟩ rfl (fun c_39 => ?_) (fun c_39 => ?_)
      · refine G_iconst (nx := 47) ⟨dX12_sized_46, rfl⟩ ci_0 ?_
        refine G_iadd (nx := 48) ⟨dX12_sized_47, rfl⟩ ?_
        refine G_istore_2 (nx := 49) ⟨dX12_sized_48, rfl⟩ rfl rfl ?_
        refine G_iinc_3 (nx := 52) ⟨dX12_sized_49, rfl⟩ ci_1 rfl ?_
        refine G_goto (tgt := 17) ⟨dX12_sized_52, rfl⟩ rfl ?_
        simp only [bi_0, bi_n0] at c_39
        refine G_L ?_ (ih (2 ^ n - (s + 1)) (by omega) (s + 1) rfl (by omega))
        simp [lp_s, szF, c_31, c_39, nI_1]
      · refine G_iconst (nx := 43) ⟨dX12_sized_42, rfl⟩ ci_1 ?_
        refine G_goto (tgt := 47) ⟨dX12_sized_43, rfl⟩ rfl ?_
        refine G_iadd (nx := 48) ⟨dX12_sized_47, rfl⟩ ?_
        refine G_istore_2 (nx := 49) ⟨dX12_sized_48, rfl⟩ rfl rfl ?_
        refine G_iinc_3 (nx := 52) ⟨dX12_sized_49, rfl⟩ ci_1 rfl ?_
        refine G_goto (tgt := 17) ⟨dX12_sized_52, rfl⟩ rfl ?_
        simp only [bi_0, bi_n0] at c_39
        refine G_L ?_ (ih (2 ^ n - (s + 1)) (by omega) (s + 1) rfl (by omega))
        simp [lp_s, szF, c_31, c_39, nI_1]

theorem cM_sized {q : Int32} (hG : MG I n gr) (hk1 : inR q 0 12 = false → K (.int (-2)) I J (rX g)) (hk : inR q 0 12 = true → K (.int (nI (szN n gr q))) I J (rX g)) : G l (d + 2) mX12_sized K 0 [.ref 75, .int q, UU, UU] [] I J (rX g) := by
  refine G_iload_1 (nx := 1) ⟨dX12_sized_0, rfl⟩ ?_
  refine G_iconst (nx := 2) ⟨dX12_sized_1, rfl⟩ ci_0 ?_
  refine G_bipush (nx := 4) ⟨dX12_sized_2, rfl⟩ cb_12 ?_
  refine G_cs3 (nx := 7) ⟨dX12_sized_4, rfl⟩ kX12_125 rfl rfl (Nat.le_of_ble_eq_true rfl) (Nat.le_of_ble_eq_true rfl) (cM_in ?_)
  refine G_ifne (tgt := 13) (nx := 10) ⟨dX12_sized_7, rfl⟩ rfl (fun c_7 => ?_) (fun c_7 => ?_)
  · rw [bi_n0] at c_7
    refine G_iconst (nx := 14) ⟨dX12_sized_13, rfl⟩ ci_0 ?_
    refine G_istore_2 (nx := 15) ⟨dX12_sized_14, rfl⟩ rfl rfl ?_
    refine G_iconst (nx := 16) ⟨dX12_sized_15, rfl⟩ ci_0 ?_
    refine G_istore_3 (nx := 17) ⟨dX12_sized_16, rfl⟩ rfl rfl ?_
    exact lM_sized hG (hk c_7) _ 0 rfl (Nat.zero_le _)
  · rw [bi_0] at c_7
    refine G_bipush (nx := 12) ⟨dX12_sized_10, rfl⟩ cb_m2 ?_
    refine G_iret ⟨dX12_sized_12, rfl⟩ rfl ?_
    exact hk1 c_7

theorem lM_bare {q : Int32} (hG : MG I n gr) (hk : K (.int (if q = 0 then (baN n gr).1 else if q = 1 then (baN n gr).2.1 else (baN n gr).2.2)) I J (rX g)) : ∀ (k s : Nat), 2 ^ n - s = k → s ≤ 2 ^ n → G l (d + 3) mX12_bare K 22 [.ref 75, .int q, .int (lp (baF n gr) s (0, -1, -1)).1, .int (lp (baF n gr) s (0, -1, -1)).2.1, .int (lp (baF n gr) s (0, -1, -1)).2.2, .int (nI s)] [] I J (rX g) := by
  intro k
  induction k using Nat.strongRecOn with
  | _ k ih =>
  intro s hsk hsn
  have hn := hG.2.1
  have e0 := hG.1
  have hp2 := pow12 hn
  have h1p : 0 < 2 ^ n := Nat.two_pow_pos n
  refine G_iload_5 (nx := 24) ⟨dX12_bare_22, rfl⟩ ?_
  refine G_aload_0 (nx := 25) ⟨dX12_bare_24, rfl⟩ ?_
  refine G_cv0 (nx := 28) ⟨dX12_bare_25, rfl⟩ kX12_129 rfl q_75 rfl (Nat.le_of_ble_eq_true rfl) (Nat.le_of_ble_eq_true rfl) (cM_all hG ?_)
  refine G_icmpgt (tgt := 89) (nx := 31) ⟨dX12_bare_28, rfl⟩ rfl (fun c_28 => ?_) (fun c_28 => ?_)
  · refine G_iload_1 (nx := 90) ⟨dX12_bare_89, rfl⟩ ?_
    refine G_ifne (tgt := 97) (nx := 93) ⟨dX12_bare_90, rfl⟩ rfl (fun c_90 => ?_) (fun c_90 => ?_)
    · refine G_iload_1 (nx := 98) ⟨dX12_bare_97, rfl⟩ ?_
      refine G_iconst (nx := 99) ⟨dX12_bare_98, rfl⟩ ci_1 ?_
      refine G_icmpne (tgt := 106) (nx := 102) ⟨dX12_bare_99, rfl⟩ rfl (fun c_99 => ?_) (fun c_99 => ?_)
      · refine G_iload_4 (nx := 108) ⟨dX12_bare_106, rfl⟩ ?_
        refine G_iret ⟨dX12_bare_108, rfl⟩ rfl ?_
        rw [nI_lt_iff (by omega) (by omega)] at c_28
        have hse : s = 2 ^ n := by omega
        subst hse
        refine K_v (congrArg Value.int ?_) hk
        simp [c_90, c_99, baN]
      · refine G_iload_3 (nx := 103) ⟨dX12_bare_102, rfl⟩ ?_
        refine G_goto (tgt := 108) ⟨dX12_bare_103, rfl⟩ rfl ?_
        refine G_iret ⟨dX12_bare_108, rfl⟩ rfl ?_
        rw [nI_lt_iff (by omega) (by omega)] at c_28
        have hse : s = 2 ^ n := by omega
        subst hse
        refine K_v (congrArg Value.int ?_) hk
        simp [c_90, c_99, baN]
    · refine G_iload_2 (nx := 94) ⟨dX12_bare_93, rfl⟩ ?_
      refine G_goto (tgt := 108) ⟨dX12_bare_94, rfl⟩ rfl ?_
      refine G_iret ⟨dX12_bare_108, rfl⟩ rfl ?_
      rw [nI_lt_iff (by omega) (by omega)] at c_28
      have hse : s = 2 ^ n := by omega
      subst hse
      refine K_v (congrArg Value.int ?_) hk
      simp [c_90, baN]
  · rw [nI_lt_iff (by omega) (by omega)] at c_28
    have hs : s < 2 ^ n := by omega
    have hs4 : s < 4096 := by omega
    have hpc := pc_le s
    refine G_aload_0 (nx := 32) ⟨dX12_bare_31, rfl⟩ ?_
    refine G_iload_5 (nx := 34) ⟨dX12_bare_32, rfl⟩ ?_
    refine G_cv1 (nx := 37) ⟨dX12_bare_34, rfl⟩ kX12_174 rfl q_75 rfl (Nat.le_of_ble_eq_true rfl) (Nat.le_of_ble_eq_true rfl) (cM_isBare hG hs4 ?_)
    refine G_ifne (tgt := 43) (nx := 40) ⟨dX12_bare_37, rfl⟩ rfl (fun c_37 => ?_) (fun c_37 => ?_)
    · rw [bi_n0] at c_37
      refine G_iinc_2 (nx := 46) ⟨dX12_bare_43, rfl⟩ ci_1 rfl ?_
      refine G_iload_5 (nx := 48) ⟨dX12_bare_46, rfl⟩ ?_
      refine G_cs1 (nx := 51) ⟨dX12_bare_48, rfl⟩ kX12_133 rfl rfl (Nat.le_of_ble_eq_true rfl) (Nat.le_of_ble_eq_true rfl) (cM_bits hs4 ?_)
      refine G_iload_3 (nx := 52) ⟨dX12_bare_51, rfl⟩ ?_
      refine G_icmple (tgt := 60) (nx := 55) ⟨dX12_bare_52, rfl⟩ rfl (fun c_52 => ?_) (fun c_52 => ?_)
      · refine G_iload_4 (nx := 62) ⟨dX12_bare_60, rfl⟩ ?_
        refine G_istore_4 (nx := 64) ⟨dX12_bare_62, rfl⟩ rfl rfl ?_
        refine G_iload_5 (nx := 66) ⟨dX12_bare_64, rfl⟩ ?_
        refine G_cs1 (nx := 69) ⟨dX12_bare_66, rfl⟩ kX12_133 rfl rfl (Nat.le_of_ble_eq_true rfl) (Nat.le_of_ble_eq_true rfl) (cM_bits hs4 ?_)
        refine G_iload_3 (nx := 70) ⟨dX12_bare_69, rfl⟩ ?_
        refine G_icmple (tgt := 81) (nx := 73) ⟨dX12_bare_70, rfl⟩ rfl (fun c_70 => ?_) (fun c_70 => ?_)
        · refine G_iload_3 (nx := 82) ⟨dX12_bare_81, rfl⟩ ?_
          refine G_istore_3 (nx := 83) ⟨dX12_bare_82, rfl⟩ rfl rfl ?_
          refine G_iinc_5 (nx := 86) ⟨dX12_bare_83, rfl⟩ ci_1 rfl ?_
          refine G_goto (tgt := 22) ⟨dX12_bare_86, rfl⟩ rfl ?_
          first | exact absurd c_52 c_70 | exact absurd c_70 c_52 | skip
          all_goals refine G_L ?_ (ih (2 ^ n - (s + 1)) (by omega) (s + 1) rfl (by omega))
          all_goals rw [i32_le] at c_52
          all_goals simp only [lp_s, baF, c_37, if_true, nI_1]
          all_goals (by_cases h : (lp (baF n gr) s (0, -1, -1)).2.1 < nI (pc s) <;> first | (exfalso; rw [i32_lt] at h; omega) | (simp only [h, if_true]; done) | (simp only [h, if_false]; done))
        · refine G_iload_5 (nx := 75) ⟨dX12_bare_73, rfl⟩ ?_
          refine G_cs1 (nx := 78) ⟨dX12_bare_75, rfl⟩ kX12_133 rfl rfl (Nat.le_of_ble_eq_true rfl) (Nat.le_of_ble_eq_true rfl) (cM_bits hs4 ?_)
          refine G_goto (tgt := 82) ⟨dX12_bare_78, rfl⟩ rfl ?_
          refine G_istore_3 (nx := 83) ⟨dX12_bare_82, rfl⟩ rfl rfl ?_
          refine G_iinc_5 (nx := 86) ⟨dX12_bare_83, rfl⟩ ci_1 rfl ?_
          refine G_goto (tgt := 22) ⟨dX12_bare_86, rfl⟩ rfl ?_
          first | exact absurd c_52 c_70 | exact absurd c_70 c_52 | skip
          all_goals refine G_L ?_ (ih (2 ^ n - (s + 1)) (by omega) (s + 1) rfl (by omega))
          all_goals rw [i32_le] at c_52
          all_goals simp only [lp_s, baF, c_37, if_true, nI_1]
          all_goals (by_cases h : (lp (baF n gr) s (0, -1, -1)).2.1 < nI (pc s) <;> first | (exfalso; rw [i32_lt] at h; omega) | (simp only [h, if_true]; done) | (simp only [h, if_false]; done))
      · refine G_iload_5 (nx := 57) ⟨dX12_bare_55, rfl⟩ ?_
        refine G_goto (tgt := 62) ⟨dX12_bare_57, rfl⟩ rfl ?_
        refine G_istore_4 (nx := 64) ⟨dX12_bare_62, rfl⟩ rfl rfl ?_
        refine G_iload_5 (nx := 66) ⟨dX12_bare_64, rfl⟩ ?_
        refine G_cs1 (nx := 69) ⟨dX12_bare_66, rfl⟩ kX12_133 rfl rfl (Nat.le_of_ble_eq_true rfl) (Nat.le_of_ble_eq_true rfl) (cM_bits hs4 ?_)
        refine G_iload_3 (nx := 70) ⟨dX12_bare_69, rfl⟩ ?_
        refine G_icmple (tgt := 81) (nx := 73) ⟨dX12_bare_70, rfl⟩ rfl (fun c_70 => ?_) (fun c_70 => ?_)
        · refine G_iload_3 (nx := 82) ⟨dX12_bare_81, rfl⟩ ?_
          refine G_istore_3 (nx := 83) ⟨dX12_bare_82, rfl⟩ rfl rfl ?_
          refine G_iinc_5 (nx := 86) ⟨dX12_bare_83, rfl⟩ ci_1 rfl ?_
          refine G_goto (tgt := 22) ⟨dX12_bare_86, rfl⟩ rfl ?_
          first | exact absurd c_52 c_70 | exact absurd c_70 c_52 | skip
          all_goals refine G_L ?_ (ih (2 ^ n - (s + 1)) (by omega) (s + 1) rfl (by omega))
          all_goals rw [i32_le] at c_52
          all_goals simp only [lp_s, baF, c_37, if_true, nI_1]
          all_goals (by_cases h : (lp (baF n gr) s (0, -1, -1)).2.1 < nI (pc s) <;> first | (exfalso; rw [i32_lt] at h; omega) | (simp only [h, if_true]; done) | (simp only [h, if_false]; done))
        · refine G_iload_5 (nx := 75) ⟨dX12_bare_73, rfl⟩ ?_
          refine G_cs1 (nx := 78) ⟨dX12_bare_75, rfl⟩ kX12_133 rfl rfl (Nat.le_of_ble_eq_true rfl) (Nat.le_of_ble_eq_true rfl) (cM_bits hs4 ?_)
          refine G_goto (tgt := 82) ⟨dX12_bare_78, rfl⟩ rfl ?_
          refine G_istore_3 (nx := 83) ⟨dX12_bare_82, rfl⟩ rfl rfl ?_
          refine G_iinc_5 (nx := 86) ⟨dX12_bare_83, rfl⟩ ci_1 rfl ?_
          refine G_goto (tgt := 22) ⟨dX12_bare_86, rfl⟩ rfl ?_
          first | exact absurd c_52 c_70 | exact absurd c_70 c_52 | skip
          all_goals refine G_L ?_ (ih (2 ^ n - (s + 1)) (by omega) (s + 1) rfl (by omega))
          all_goals rw [i32_le] at c_52
          all_goals simp only [lp_s, baF, c_37, if_true, nI_1]
          all_goals (by_cases h : (lp (baF n gr) s (0, -1, -1)).2.1 < nI (pc s) <;> first | (exfalso; rw [i32_lt] at h; omega) | (simp only [h, if_true]; done) | (simp only [h, if_false]; done))
    · rw [bi_0] at c_37
      refine G_goto (tgt := 83) ⟨dX12_bare_40, rfl⟩ rfl ?_
      refine G_iinc_5 (nx := 86) ⟨dX12_bare_83, rfl⟩ ci_1 rfl ?_
      refine G_goto (tgt := 22) ⟨dX12_bare_86, rfl⟩ rfl ?_
      refine G_L ?_ (ih (2 ^ n - (s + 1)) (by omega) (s + 1) rfl (by omega))
      simp [lp_s, baF, c_37, nI_1]

theorem cM_bare {q : Int32} (hG : MG I n gr) (hk1 : inR q 0 2 = false → K (.int (-2)) I J (rX g)) (hk : inR q 0 2 = true → K (.int (if q = 0 then (baN n gr).1 else if q = 1 then (baN n gr).2.1 else (baN n gr).2.2)) I J (rX g)) : G l (d + 3) mX12_bare K 0 [.ref 75, .int q, UU, UU, UU, UU] [] I J (rX g) := by
  refine G_iload_1 (nx := 1) ⟨dX12_bare_0, rfl⟩ ?_
  refine G_iconst (nx := 2) ⟨dX12_bare_1, rfl⟩ ci_0 ?_
  refine G_iconst (nx := 3) ⟨dX12_bare_2, rfl⟩ ci_2 ?_
  refine G_cs3 (nx := 6) ⟨dX12_bare_3, rfl⟩ kX12_125 rfl rfl (Nat.le_of_ble_eq_true rfl) (Nat.le_of_ble_eq_true rfl) (cM_in ?_)
  refine G_ifne (tgt := 12) (nx := 9) ⟨dX12_bare_6, rfl⟩ rfl (fun c_6 => ?_) (fun c_6 => ?_)
  · rw [bi_n0] at c_6
    refine G_iconst (nx := 13) ⟨dX12_bare_12, rfl⟩ ci_0 ?_
    refine G_istore_2 (nx := 14) ⟨dX12_bare_13, rfl⟩ rfl rfl ?_
    refine G_iconst (nx := 15) ⟨dX12_bare_14, rfl⟩ ci_m1 ?_
    refine G_istore_3 (nx := 16) ⟨dX12_bare_15, rfl⟩ rfl rfl ?_
    refine G_iconst (nx := 17) ⟨dX12_bare_16, rfl⟩ ci_m1 ?_
    refine G_istore_4 (nx := 19) ⟨dX12_bare_17, rfl⟩ rfl rfl ?_
    refine G_iconst (nx := 20) ⟨dX12_bare_19, rfl⟩ ci_0 ?_
    refine G_istore_5 (nx := 22) ⟨dX12_bare_20, rfl⟩ rfl rfl ?_
    exact lM_bare hG (hk c_6) _ 0 rfl (Nat.zero_le _)
  · rw [bi_0] at c_6
    refine G_bipush (nx := 11) ⟨dX12_bare_9, rfl⟩ cb_m2 ?_
    refine G_iret ⟨dX12_bare_11, rfl⟩ rfl ?_
    exact hk1 c_6

theorem lM_gcd {a0 b0 : Int64} {z8 z9 : Value} : ∀ (k x y : Nat) (w8 : Value), y = k → x < 2 ^ 40 → y < 2 ^ 40 → K (.long (lN (Nat.gcd x y))) I J (rX g) → G l d mX12_gcd K 6 [.long a0, UU, .long b0, UU, .long (lN x), UU, .long (lN y), UU, w8, UU] [] I J (rX g) := by
  intro k
  induction k using Nat.strongRecOn with
  | _ k ih =>
  intro x y w8 hyk hx hy hk
  refine G_lload_6 (nx := 8) ⟨dX12_gcd_6, rfl⟩ ?_
  refine G_lconst (nx := 9) (v := 0) ⟨dX12_gcd_8, rfl⟩ (by decide) ?_
  refine G_lcmp (nx := 10) ⟨dX12_gcd_9, rfl⟩ ?_
  refine G_ifeq (tgt := 31) (nx := 13) ⟨dX12_gcd_10, rfl⟩ rfl (fun c_10 => ?_) (fun c_10 => ?_)
  · refine G_lload_4 (nx := 33) ⟨dX12_gcd_31, rfl⟩ ?_
    refine G_lret ⟨dX12_gcd_33, rfl⟩ rfl ?_
    rw [lg0, lN_0iff (by omega)] at c_10
    subst c_10
    rw [Nat.gcd_zero_right] at hk
    exact hk
  · rw [lg0, lN_0iff (by omega)] at c_10
    refine G_lload_4 (nx := 15) ⟨dX12_gcd_13, rfl⟩ ?_
    refine G_lload_6 (nx := 17) ⟨dX12_gcd_15, rfl⟩ ?_
    refine G_lrem (nx := 18) ⟨dX12_gcd_17, rfl⟩ (by intro e; exact c_10 ((lN_0iff (by omega)).mp e)) ?_
    rw [pk_lRem (by omega) (by omega) (by omega)]
    refine G_lstore_8 (nx := 20) ⟨dX12_gcd_18, rfl⟩ rfl rfl ?_
    refine G_lload_6 (nx := 22) ⟨dX12_gcd_20, rfl⟩ ?_
    refine G_lstore_4 (nx := 24) ⟨dX12_gcd_22, rfl⟩ rfl rfl ?_
    refine G_lload_8 (nx := 26) ⟨dX12_gcd_24, rfl⟩ ?_
    refine G_lstore_6 (nx := 28) ⟨dX12_gcd_26, rfl⟩ rfl rfl ?_
    refine G_goto (tgt := 6) ⟨dX12_gcd_28, rfl⟩ rfl ?_
    refine ih (x % y) (by rw [← hyk]; exact Nat.mod_lt _ (by omega)) y (x % y) _ rfl hy (Nat.lt_trans (Nat.mod_lt _ (by omega)) hy) ?_
    rw [Nat.gcd_comm, ← Nat.gcd_rec, Nat.gcd_comm]
    exact hk

theorem cM_gcd {x y : Nat} (hx : x < 2 ^ 40) (hy : y < 2 ^ 40) (hk : K (.long (lN (Nat.gcd x y))) I J (rX g)) : G l d mX12_gcd K 0 [.long (lN x), UU, .long (lN y), UU, UU, UU, UU, UU, UU, UU] [] I J (rX g) := by
  refine G_lload_0 (nx := 1) ⟨dX12_gcd_0, rfl⟩ ?_
  refine G_lstore_4 (nx := 3) ⟨dX12_gcd_1, rfl⟩ rfl rfl ?_
  refine G_lload_2 (nx := 4) ⟨dX12_gcd_3, rfl⟩ ?_
  refine G_lstore_6 (nx := 6) ⟨dX12_gcd_4, rfl⟩ rfl rfl ?_
  exact lM_gcd (z8 := UU) (z9 := UU) y x y UU rfl hx hy hk

theorem lM_share {q : Int32} (hG : MG I n gr) (hk : K (.long (lN ((if q = 0 then shN n gr else 2 ^ n) / Nat.gcd (shN n gr) (2 ^ n)))) I J (rX g)) : ∀ (k s : Nat), 2 ^ n - s = k → s ≤ 2 ^ n → G l (d + 2) mX12_share K 27 [.ref 75, .int q, .long (lN (lp (shF n gr) s 0)), UU, .long (lN (2 ^ n)), UU, .int (nI s)] [] I J (rX g) := by
  intro k
  induction k using Nat.strongRecOn with
  | _ k ih =>
  intro s hsk hsn
  have hn := hG.2.1
  have e0 := hG.1
  have hp2 := pow12 hn
  have h1p : 0 < 2 ^ n := Nat.two_pow_pos n
  have hle := shF_le n gr s
  refine G_iload_6 (nx := 29) ⟨dX12_share_27, rfl⟩ ?_
  refine G_aload_0 (nx := 30) ⟨dX12_share_29, rfl⟩ ?_
  refine G_cv0 (nx := 33) ⟨dX12_share_30, rfl⟩ kX12_129 rfl q_75 rfl (Nat.le_of_ble_eq_true rfl) (Nat.le_of_ble_eq_true rfl) (cM_all hG ?_)
  refine G_icmpgt (tgt := 59) (nx := 36) ⟨dX12_share_33, rfl⟩ rfl (fun c_33 => ?_) (fun c_33 => ?_)
  · refine G_iload_1 (nx := 60) ⟨dX12_share_59, rfl⟩ ?_
    refine G_ifne (tgt := 67) (nx := 63) ⟨dX12_share_60, rfl⟩ rfl (fun c_60 => ?_) (fun c_60 => ?_)
    · refine G_lload_4 (nx := 69) ⟨dX12_share_67, rfl⟩ ?_
      refine G_lload_2 (nx := 70) ⟨dX12_share_69, rfl⟩ ?_
      refine G_lload_4 (nx := 72) ⟨dX12_share_70, rfl⟩ ?_
      rw [nI_lt_iff (by omega) (by omega)] at c_33
      have hse : s = 2 ^ n := by omega
      subst hse
      refine G_csLL (nx := 75) ⟨dX12_share_72, rfl⟩ kX12_186 rfl (Nat.le_of_ble_eq_true rfl) (Nat.le_of_ble_eq_true rfl) (cM_gcd (by omega) (by omega) ?_)
      have hgp : 0 < Nat.gcd (shN n gr) (2 ^ n) := Nat.gcd_pos_of_pos_right _ h1p
      have hgl : Nat.gcd (shN n gr) (2 ^ n) ≤ 2 ^ n := Nat.gcd_le_right _ h1p
      refine G_ldiv (nx := 76) ⟨dX12_share_75, rfl⟩ (fun e => absurd ((lN_0iff (show Nat.gcd (shN n gr) (2 ^ n) < 2 ^ 63 by omega)).mp e) (by omega)) ?_
      refine G_lret ⟨dX12_share_76, rfl⟩ rfl ?_
      have hsl : shN n gr ≤ 2 ^ n := hle
      have hx := pk_lDiv (a := 2 ^ n) (b := Nat.gcd (shN n gr) (2 ^ n)) (by omega) (by omega) (by omega)
      refine K_v (congrArg Value.long ?_) hk
      refine Eq.trans hx ?_
      simp [c_60]
    · refine G_lload_2 (nx := 64) ⟨dX12_share_63, rfl⟩ ?_
      refine G_goto (tgt := 69) ⟨dX12_share_64, rfl⟩ rfl ?_
      refine G_lload_2 (nx := 70) ⟨dX12_share_69, rfl⟩ ?_
      refine G_lload_4 (nx := 72) ⟨dX12_share_70, rfl⟩ ?_
      rw [nI_lt_iff (by omega) (by omega)] at c_33
      have hse : s = 2 ^ n := by omega
      subst hse
      refine G_csLL (nx := 75) ⟨dX12_share_72, rfl⟩ kX12_186 rfl (Nat.le_of_ble_eq_true rfl) (Nat.le_of_ble_eq_true rfl) (cM_gcd (by omega) (by omega) ?_)
      have hgp : 0 < Nat.gcd (shN n gr) (2 ^ n) := Nat.gcd_pos_of_pos_right _ h1p
      have hgl : Nat.gcd (shN n gr) (2 ^ n) ≤ 2 ^ n := Nat.gcd_le_right _ h1p
      refine G_ldiv (nx := 76) ⟨dX12_share_75, rfl⟩ (fun e => absurd ((lN_0iff (show Nat.gcd (shN n gr) (2 ^ n) < 2 ^ 63 by omega)).mp e) (by omega)) ?_
      refine G_lret ⟨dX12_share_76, rfl⟩ rfl ?_
      have hsl : shN n gr ≤ 2 ^ n := hle
      have hx := pk_lDiv (a := shN n gr) (b := Nat.gcd (shN n gr) (2 ^ n)) (by omega) (by omega) (by omega)
      refine K_v (congrArg Value.long ?_) hk
      refine Eq.trans hx ?_
      simp [c_60]
  · rw [nI_lt_iff (by omega) (by omega)] at c_33
    have hs : s < 2 ^ n := by omega
    have hs4 : s < 4096 := by omega
    have hpc := pc_le s
    refine G_lload_2 (nx := 37) ⟨dX12_share_36, rfl⟩ ?_
    refine G_aload_0 (nx := 38) ⟨dX12_share_37, rfl⟩ ?_
    refine G_iload_6 (nx := 40) ⟨dX12_share_38, rfl⟩ ?_
    refine G_cv1 (nx := 43) ⟨dX12_share_40, rfl⟩ kX12_168 rfl q_75 rfl (Nat.le_of_ble_eq_true rfl) (Nat.le_of_ble_eq_true rfl) (cM_covers hG hs4 ?_)
    refine G_ifeq (tgt := 50) (nx := 46) ⟨dX12_share_43, rfl⟩ rfl (fun c_43 => ?_) (fun c_43 => ?_)
    · refine G_lconst (nx := 51) (v := 0) ⟨dX12_share_50, rfl⟩ (by decide) ?_
      refine G_ladd (nx := 52) ⟨dX12_share_51, rfl⟩ ?_
      refine G_lstore_2 (nx := 53) ⟨dX12_share_52, rfl⟩ rfl rfl ?_
      refine G_iinc_6 (nx := 56) ⟨dX12_share_53, rfl⟩ ci_1 rfl ?_
      refine G_goto (tgt := 27) ⟨dX12_share_56, rfl⟩ rfl ?_
      simp only [bi_0, bi_n0] at c_43
      refine G_L ?_ (ih (2 ^ n - (s + 1)) (by omega) (s + 1) rfl (by omega))
      have e1 : lN (lp (shF n gr) s 0) + 1 = lN (lp (shF n gr) s 0 + 1) := lN_1 _
      have e2 : lN (lp (shF n gr) s 0) + 0 = lN (lp (shF n gr) s 0) := Int64.add_zero _
      simp [lp_s, shF, c_43, nI_1, e1, e2]
    · refine G_lconst (nx := 47) (v := 1) ⟨dX12_share_46, rfl⟩ (by decide) ?_
      refine G_goto (tgt := 51) ⟨dX12_share_47, rfl⟩ rfl ?_
      refine G_ladd (nx := 52) ⟨dX12_share_51, rfl⟩ ?_
      refine G_lstore_2 (nx := 53) ⟨dX12_share_52, rfl⟩ rfl rfl ?_
      refine G_iinc_6 (nx := 56) ⟨dX12_share_53, rfl⟩ ci_1 rfl ?_
      refine G_goto (tgt := 27) ⟨dX12_share_56, rfl⟩ rfl ?_
      simp only [bi_0, bi_n0] at c_43
      refine G_L ?_ (ih (2 ^ n - (s + 1)) (by omega) (s + 1) rfl (by omega))
      have e1 : lN (lp (shF n gr) s 0) + 1 = lN (lp (shF n gr) s 0 + 1) := lN_1 _
      have e2 : lN (lp (shF n gr) s 0) + 0 = lN (lp (shF n gr) s 0) := Int64.add_zero _
      simp [lp_s, shF, c_43, nI_1, e1, e2]

theorem cM_share {q : Int32} (hG : MG I n gr) (hk1 : inR q 0 1 = false → K (.long (-2)) I J (rX g)) (hk : inR q 0 1 = true → K (.long (lN ((if q = 0 then shN n gr else 2 ^ n) / Nat.gcd (shN n gr) (2 ^ n)))) I J (rX g)) : G l (d + 2) mX12_share K 0 [.ref 75, .int q, UU, UU, UU, UU, UU] [] I J (rX g) := by
  refine G_iload_1 (nx := 1) ⟨dX12_share_0, rfl⟩ ?_
  refine G_iconst (nx := 2) ⟨dX12_share_1, rfl⟩ ci_0 ?_
  refine G_iconst (nx := 3) ⟨dX12_share_2, rfl⟩ ci_1 ?_
  refine G_cs3 (nx := 6) ⟨dX12_share_3, rfl⟩ kX12_125 rfl rfl (Nat.le_of_ble_eq_true rfl) (Nat.le_of_ble_eq_true rfl) (cM_in ?_)
  refine G_ifne (tgt := 13) (nx := 9) ⟨dX12_share_6, rfl⟩ rfl (fun c_6 => ?_) (fun c_6 => ?_)
  · rw [bi_n0] at c_6
    have h1p : 0 < 2 ^ n := Nat.two_pow_pos n
    have hp2 := pow12 hG.2.1
    refine G_lconst (nx := 14) (v := 0) ⟨dX12_share_13, rfl⟩ (by decide) ?_
    refine G_lstore_2 (nx := 15) ⟨dX12_share_14, rfl⟩ rfl rfl ?_
    refine G_aload_0 (nx := 16) ⟨dX12_share_15, rfl⟩ ?_
    refine G_cv0 (nx := 19) ⟨dX12_share_16, rfl⟩ kX12_129 rfl q_75 rfl (Nat.le_of_ble_eq_true rfl) (Nat.le_of_ble_eq_true rfl) (cM_all hG ?_)
    refine G_i2l (nx := 20) ⟨dX12_share_19, rfl⟩ ?_
    refine G_lconst (nx := 21) (v := 1) ⟨dX12_share_20, rfl⟩ (by decide) ?_
    refine G_ladd (nx := 22) ⟨dX12_share_21, rfl⟩ ?_
    rw [nI_l (by omega), lN_1, show 2 ^ n - 1 + 1 = 2 ^ n by omega]
    refine G_lstore_4 (nx := 24) ⟨dX12_share_22, rfl⟩ rfl rfl ?_
    refine G_iconst (nx := 25) ⟨dX12_share_24, rfl⟩ ci_0 ?_
    refine G_istore_6 (nx := 27) ⟨dX12_share_25, rfl⟩ rfl rfl ?_
    exact lM_share hG (hk c_6) _ 0 rfl (Nat.zero_le _)
  · rw [bi_0] at c_6
    refine G_ldc2 (nx := 12) ⟨dX12_share_9, rfl⟩ nX12_184 ?_
    refine G_lret ⟨dX12_share_12, rfl⟩ rfl ?_
    exact hk1 c_6

end M27
