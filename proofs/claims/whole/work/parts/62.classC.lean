
def fNt (o a b c : Nat) (x y : Nat) : Bool := (x == o && y == 4) || x == a || x == b || x == c
theorem fNt_f {o a b c x y : Nat} (h : fNt o a b c x y = false) : ¬ (x = o ∧ y = 4) ∧ ¬ x = a ∧ ¬ x = b ∧ ¬ x = c := by
  simp only [fNt, Bool.or_eq_false_iff, Bool.and_eq_false_iff, beq_eq_false_iff_ne] at h
  omega
theorem fNt_o {o a b c : Nat} : fNt o a b c o 4 = true := by simp [fNt]
theorem fNt_a {o a b c y : Nat} : fNt o a b c a y = true := by simp [fNt]
theorem fNt_b {o a b c y : Nat} : fNt o a b c b y = true := by simp [fNt]
theorem fNt_c {o a b c y : Nat} : fNt o a b c c y = true := by simp [fNt]
theorem sb.wr {F : Nat → Nat → Bool} {I I1 : AI} (h : sb F I I1) {k : Nat} {r : Nat → Int32} (hF : ∀ j, F k j = true) : sb F I (wr I1 k r) := fun a b hf => by
  by_cases e : a = k
  · subst e; rw [hF b] at hf; cases hf
  · rw [wr_ne _ _ _ e]; exact h a b hf
theorem XG.lay {I : AI} {o c n : Nat} {gr : Nat → Nat} (h : XG I o c n gr) (hoc : ¬ o = c) {x y on : Nat} (hx : x < n) (hy : y < n) (hxy : ¬ x = y) (ho : on ≤ 1) : XG (w2 (w2 I c x (nI (setb (gr x) y on))) c y (nI (setb (gr y) x on))) o c n (layG gr x y on) := by
  refine ⟨by rw [w2_row _ _ _ _ hoc, w2_row _ _ _ _ hoc]; exact h.1, h.2.1, fun p hp => ?_, fun p hp => ?_⟩
  · unfold layG
    by_cases e1 : p = x
    · subst e1
      rw [if_pos rfl, w2_ne _ _ _ _ (by omega), w2_at]
    · rw [if_neg e1]
      by_cases e2 : p = y
      · subst e2
        rw [if_pos rfl, w2_at]
      · rw [if_neg e2, w2_ne _ _ _ _ (by omega), w2_ne _ _ _ _ (by omega)]
        exact h.2.2.1 p hp
  · unfold layG
    by_cases e1 : p = x
    · subst e1
      rw [if_pos rfl]
      exact setb_lt (h.2.2.2 p hp) hy ho
    · rw [if_neg e1]
      by_cases e2 : p = y
      · subst e2
        rw [if_pos rfl]
        exact setb_lt (h.2.2.2 p hp) hx ho
      · rw [if_neg e2]
        exact h.2.2.2 p hp
theorem cp12 (f h : Nat → Int32) {j : Nat} (hj : j < 12) : va_cpy f h (0 : Int32).toNatClampNeg (0 : Int32).toNatClampNeg (12 : Int32).toNatClampNeg j = f j := by
  unfold va_cpy
  rw [show (0 : Int32).toNatClampNeg = 0 by decide, show (12 : Int32).toNatClampNeg = 12 by decide, if_pos (by omega)]
  congr 1
  omega
theorem i32_nlt {x y : Int32} (h : y ≤ x) : ¬ x < y := by rw [i32_le] at h; rw [i32_lt]; omega
theorem i32_lto {x y : Int32} (h : ¬ y ≤ x) : x < y := by rw [i32_le] at h; rw [i32_lt]; omega
section X62
variable {l : Launch} {d : Nat} {K : AK} {I : AI} {J : AJ} {g : Bool} {n : Nat} {gr : Nat → Nat}

theorem cN_become {o a b c e o' a' b' c' e' : Nat} (hN : NT o a b c e) (hM : NT o' a' b' c' e') (hd : e < o' ∨ e' < o) (hk : ∀ (I' : AI), I' o 4 = I o' 4 → (∀ j, j < 12 → I' a j = I a' j ∧ I' b j = I b' j ∧ I' c j = I c' j) → sb (fNt o a b c) I I' → K .null I' J (rX g)) : G l (d + 1) mX4_become K 0 [.ref o, .ref o'] [] I J (rX g) := by
  obtain ⟨q1, q2, q3, q4⟩ := hN.2.2.2.2.2.2
  obtain ⟨s1, s2, s3, s4⟩ := hM.2.2.2.2.2.2
  refine G_aload_0 (nx := 1) ⟨dX4_become_0, rfl⟩ ?_
  refine G_aload_1 (nx := 2) ⟨dX4_become_1, rfl⟩ ?_
  refine G_geti (nx := 5) (k := o') ⟨dX4_become_2, rfl⟩ fX4_24 hM.1 yi_4_4 ?_
  refine G_puti (nx := 8) (k := o) ⟨dX4_become_5, rfl⟩ pX4_24 hN.1 yt_4_4 ?_
  refine G_aload_1 (nx := 9) ⟨dX4_become_8, rfl⟩ ?_
  refine G_getr (nx := 12) (k := o') (r := a') ⟨dX4_become_9, rfl⟩ fX4_9 hM.1 yr_4_0 (hM.2.2.2.2.2.1 _).1 ?_
  refine G_iconst (nx := 13) ⟨dX4_become_12, rfl⟩ ci_0 ?_
  refine G_aload_0 (nx := 14) ⟨dX4_become_13, rfl⟩ ?_
  refine G_getr (nx := 17) (k := o) (r := a) ⟨dX4_become_14, rfl⟩ fX4_9 hN.1 yr_4_0 (hN.2.2.2.2.2.1 _).1 ?_
  refine G_iconst (nx := 18) ⟨dX4_become_17, rfl⟩ ci_0 ?_
  refine G_bipush (nx := 20) ⟨dX4_become_18, rfl⟩ cb_12 ?_
  refine G_acopy (nx := 23) ⟨dX4_become_20, rfl⟩ kX4_46 (Nat.le_of_ble_eq_true rfl) hM.2.1 hN.2.1 (by decide) (by decide) (by decide) (by decide) (by decide) ?_
  refine G_aload_1 (nx := 24) ⟨dX4_become_23, rfl⟩ ?_
  refine G_getr (nx := 27) (k := o') (r := b') ⟨dX4_become_24, rfl⟩ fX4_15 hM.1 yr_4_1 (hM.2.2.2.2.2.1 _).2.1 ?_
  refine G_iconst (nx := 28) ⟨dX4_become_27, rfl⟩ ci_0 ?_
  refine G_aload_0 (nx := 29) ⟨dX4_become_28, rfl⟩ ?_
  refine G_getr (nx := 32) (k := o) (r := b) ⟨dX4_become_29, rfl⟩ fX4_15 hN.1 yr_4_1 (hN.2.2.2.2.2.1 _).2.1 ?_
  refine G_iconst (nx := 33) ⟨dX4_become_32, rfl⟩ ci_0 ?_
  refine G_bipush (nx := 35) ⟨dX4_become_33, rfl⟩ cb_12 ?_
  refine G_acopy (nx := 38) ⟨dX4_become_35, rfl⟩ kX4_46 (Nat.le_of_ble_eq_true rfl) hM.2.2.1 hN.2.2.1 (by decide) (by decide) (by decide) (by decide) (by decide) ?_
  refine G_aload_1 (nx := 39) ⟨dX4_become_38, rfl⟩ ?_
  refine G_getr (nx := 42) (k := o') (r := c') ⟨dX4_become_39, rfl⟩ fX4_18 hM.1 yr_4_2 (hM.2.2.2.2.2.1 _).2.2.1 ?_
  refine G_iconst (nx := 43) ⟨dX4_become_42, rfl⟩ ci_0 ?_
  refine G_aload_0 (nx := 44) ⟨dX4_become_43, rfl⟩ ?_
  refine G_getr (nx := 47) (k := o) (r := c) ⟨dX4_become_44, rfl⟩ fX4_18 hN.1 yr_4_2 (hN.2.2.2.2.2.1 _).2.2.1 ?_
  refine G_iconst (nx := 48) ⟨dX4_become_47, rfl⟩ ci_0 ?_
  refine G_bipush (nx := 50) ⟨dX4_become_48, rfl⟩ cb_12 ?_
  refine G_acopy (nx := 53) ⟨dX4_become_50, rfl⟩ kX4_46 (Nat.le_of_ble_eq_true rfl) hM.2.2.2.1 hN.2.2.2.1 (by decide) (by decide) (by decide) (by decide) (by decide) ?_
  refine G_vret ⟨dX4_become_53, rfl⟩ rfl ?_
  refine hk _ ?_ (fun j hj => ⟨?_, ?_, ?_⟩) ((((sb.rf.w fNt_o).wr (fun _ => fNt_a)).wr (fun _ => fNt_b)).wr (fun _ => fNt_c))
  · rw [wr_ne _ _ _ (by omega), wr_ne _ _ _ (by omega), wr_ne _ _ _ (by omega), w2_at]
  · rw [wr_ne _ _ _ (by omega), wr_ne _ _ _ (by omega), wr_at, cp12 _ _ hj, w2_row _ _ _ _ (by omega)]
  · rw [wr_ne _ _ _ (by omega), wr_at, cp12 _ _ hj, wr_ne _ _ _ (by omega), w2_row _ _ _ _ (by omega)]
  · rw [wr_at, cp12 _ _ hj, wr_ne _ _ _ (by omega), wr_ne _ _ _ (by omega), w2_row _ _ _ _ (by omega)]

theorem cN_clear {o a b c e : Nat} (hN : NT o a b c e) (hk : ∀ (I' : AI), I' o 4 = nI 0 → (∀ j, j < 12 → I' c j = 0) → sb (fNt o a b c) I I' → K .null I' J (rX g)) : G l (d + 1) mX4_clear K 0 [.ref o] [] I J (rX g) := by
  obtain ⟨q1, q2, q3, q4⟩ := hN.2.2.2.2.2.2
  refine G_aload_0 (nx := 1) ⟨dX4_clear_0, rfl⟩ ?_
  refine G_iconst (nx := 2) ⟨dX4_clear_1, rfl⟩ ci_0 ?_
  refine G_puti (nx := 5) (k := o) ⟨dX4_clear_2, rfl⟩ pX4_24 hN.1 yt_4_4 ?_
  refine G_aload_0 (nx := 6) ⟨dX4_clear_5, rfl⟩ ?_
  refine G_getr (nx := 9) (k := o) (r := c) ⟨dX4_clear_6, rfl⟩ fX4_18 hN.1 yr_4_2 (hN.2.2.2.2.2.1 _).2.2.1 ?_
  refine G_iconst (nx := 10) ⟨dX4_clear_9, rfl⟩ ci_0 ?_
  refine G_csv2 (nx := 13) ⟨dX4_clear_10, rfl⟩ kX4_36 rfl rfl (Nat.le_of_ble_eq_true rfl) (Nat.le_of_ble_eq_true rfl) (cJ_fill hN.2.2.2.1 (by decide) ?_)
  refine G_vret ⟨dX4_clear_13, rfl⟩ rfl ?_
  refine hk _ ?_ (fun j hj => ?_) ((sb.rf.w fNt_o).wr (fun _ => fNt_c))
  · rw [wr_ne _ _ _ (by omega), w2_at]; rfl
  · rw [wr_at, if_pos hj]

def DX (I : AI) (a b : Nat) (z : Int32) (m : Nat) : Prop := ∀ j, j < m → I a j = dkI z j ∧ I b j = dwI z j
theorem DX.w {I : AI} {a b : Nat} {z : Int32} {m : Nat} (h : DX I a b z m) {k i : Nat} {v : Int32} (h1 : ¬ a = k) (h2 : ¬ b = k) : DX (w2 I k i v) a b z m := fun j hj => ⟨by rw [w2_row _ _ _ _ h1]; exact (h j hj).1, by rw [w2_row _ _ _ _ h2]; exact (h j hj).2⟩
theorem lN_d1 {z0 z v : Int32} {m : Nat} {o a b c e : Nat} (hN : NT o a b c e) (hm : m ≤ 12) (hgo : ∀ (I' : AI) (x6 : Value), notL x6 = true → XG I' o c m (fun _ => 0) → DX I' a b z m → sb (fNt o a b c) I I' → G l (d + 3) mX4_becomeDealt K 70 [.ref o, .int z0, .int (nI m), .int v, .int (zn z (2 * m)), .int (nI m), x6] [] I' J (rX g)) : ∀ (k i : Nat) (I1 : AI) (x6 : Value), notL x6 = true → m - i = k → i ≤ m → XG I1 o c i (fun _ => 0) → DX I1 a b z i → sb (fNt o a b c) I I1 → G l (d + 3) mX4_becomeDealt K 10 [.ref o, .int z0, .int (nI m), .int v, .int (zn z (2 * i)), .int (nI i), x6] [] I1 J (rX g) := by
  intro k
  induction k using Nat.strongRecOn with
  | _ k ih =>
  intro i I1 x6 hx6 hik him hX hD hs1
  obtain ⟨q1, q2, q3, q4⟩ := hN.2.2.2.2.2.2
  refine G_iload_5 (nx := 12) ⟨dX4_becomeDealt_10, rfl⟩ ?_
  refine G_iload_2 (nx := 13) ⟨dX4_becomeDealt_12, rfl⟩ ?_
  refine G_icmpge (tgt := 70) (nx := 16) ⟨dX4_becomeDealt_13, rfl⟩ rfl (fun c_13 => ?_) (fun c_13 => ?_)
  · rw [nI_le_iff (by omega) (by omega)] at c_13
    have e : i = m := by omega
    subst e
    exact hgo I1 x6 hx6 hX hD hs1
  · rw [nI_le_iff (by omega) (by omega)] at c_13
    refine G_iload_5 (nx := 18) ⟨dX4_becomeDealt_16, rfl⟩ ?_
    refine G_bipush (nx := 20) ⟨dX4_becomeDealt_18, rfl⟩ cb_12 ?_
    rw [show (12 : Int32) = nI 12 by decide]
    refine G_icmpge (tgt := 70) (nx := 23) ⟨dX4_becomeDealt_20, rfl⟩ rfl (fun c_20 => ?_) (fun c_20 => ?_)
    · (rw [nI_le_iff (by omega) (by omega)] at c_20; omega)
    · refine G_iload_4 (nx := 25) ⟨dX4_becomeDealt_23, rfl⟩ ?_
      refine G_cs1 (nx := 28) ⟨dX4_becomeDealt_25, rfl⟩ kX4_55 rfl rfl (Nat.le_of_ble_eq_true rfl) (Nat.le_of_ble_eq_true rfl) (cX_drawn ?_)
      refine G_istore_4 (nx := 30) ⟨dX4_becomeDealt_28, rfl⟩ rfl rfl ?_
      refine G_iload_4 (nx := 32) ⟨dX4_becomeDealt_30, rfl⟩ ?_
      refine G_bipush (nx := 34) ⟨dX4_becomeDealt_32, rfl⟩ cb_16 ?_
      refine G_iushr (nx := 35) ⟨dX4_becomeDealt_34, rfl⟩ ?_
      refine G_bipush (nx := 37) ⟨dX4_becomeDealt_35, rfl⟩ cb_6 ?_
      refine G_irem (nx := 38) ⟨dX4_becomeDealt_37, rfl⟩ (by decide) ?_
      refine G_istore_6 (nx := 40) ⟨dX4_becomeDealt_38, rfl⟩ rfl rfl ?_
      refine G_iload_4 (nx := 42) ⟨dX4_becomeDealt_40, rfl⟩ ?_
      refine G_cs1 (nx := 45) ⟨dX4_becomeDealt_42, rfl⟩ kX4_55 rfl rfl (Nat.le_of_ble_eq_true rfl) (Nat.le_of_ble_eq_true rfl) (cX_drawn ?_)
      refine G_istore_4 (nx := 47) ⟨dX4_becomeDealt_45, rfl⟩ rfl rfl ?_
      refine G_aload_0 (nx := 48) ⟨dX4_becomeDealt_47, rfl⟩ ?_
      refine G_iload_6 (nx := 50) ⟨dX4_becomeDealt_48, rfl⟩ ?_
      refine G_iconst (nx := 51) ⟨dX4_becomeDealt_50, rfl⟩ ci_1 ?_
      refine G_iload_4 (nx := 53) ⟨dX4_becomeDealt_51, rfl⟩ ?_
      refine G_bipush (nx := 55) ⟨dX4_becomeDealt_53, rfl⟩ cb_16 ?_
      refine G_iushr (nx := 56) ⟨dX4_becomeDealt_55, rfl⟩ ?_
      refine G_bipush (nx := 58) ⟨dX4_becomeDealt_56, rfl⟩ cb_9 ?_
      refine G_irem (nx := 59) ⟨dX4_becomeDealt_58, rfl⟩ (by decide) ?_
      refine G_iadd (nx := 60) ⟨dX4_becomeDealt_59, rfl⟩ ?_
      refine G_cv2 (nx := 63) ⟨dX4_becomeDealt_60, rfl⟩ kX4_59 rfl hN.1 rfl (Nat.le_of_ble_eq_true rfl) (Nat.le_of_ble_eq_true rfl) (cN_add hN hX (by omega) ?_)
      refine G_pop (nx := 64) ⟨dX4_becomeDealt_63, rfl⟩ rfl ?_
      refine G_iinc_5 (nx := 67) ⟨dX4_becomeDealt_64, rfl⟩ ci_1 rfl ?_
      refine G_goto (tgt := 10) ⟨dX4_becomeDealt_67, rfl⟩ rfl ?_
      refine G_L (by rw [nI_1]; rfl) (ih (m - (i + 1)) (by omega) (i + 1) _ _ rfl rfl (by omega) ?_ (fun j hj => ?_) ((((hs1.w fNt_a).w fNt_b).w fNt_c).w fNt_o))
      · refine ⟨w2_at _ _ _ _, by omega, fun p hp => ?_, fun p hp => Nat.two_pow_pos _⟩
        rw [w2_row _ _ _ _ (show ¬ c = o by omega)]
        by_cases e : p = i
        · subst e; rw [w2_at]; rfl
        · rw [w2_ne _ _ _ _ (by omega), w2_row _ _ _ _ (show ¬ c = b by omega), w2_row _ _ _ _ (show ¬ c = a by omega)]
          exact hX.2.2.1 p (by omega)
      · by_cases e : j = i
        · subst e
          exact ⟨by rw [w2_row _ _ _ _ (show ¬ a = o by omega), w2_row _ _ _ _ (show ¬ a = c by omega), w2_row _ _ _ _ (show ¬ a = b by omega), w2_at]; rfl, by rw [w2_row _ _ _ _ (show ¬ b = o by omega), w2_row _ _ _ _ (show ¬ b = c by omega), w2_at]; rfl⟩
        · have h := hD j (by omega)
          exact ⟨by rw [w2_row _ _ _ _ (show ¬ a = o by omega), w2_row _ _ _ _ (show ¬ a = c by omega), w2_row _ _ _ _ (show ¬ a = b by omega), w2_ne _ _ _ _ (by omega)]; exact h.1, by rw [w2_row _ _ _ _ (show ¬ b = o by omega), w2_row _ _ _ _ (show ¬ b = c by omega), w2_ne _ _ _ _ (by omega), w2_row _ _ _ _ (show ¬ b = a by omega)]; exact h.2⟩

theorem lN_d2I {z0 z v : Int32} {m x : Nat} {S0 : Nat × (Nat → Nat)} {o a b c e : Nat} (hN : NT o a b c e) (hm : m ≤ 12) (hx : x < m) (hgo : ∀ (I' : AI) (x6 : Value), notL x6 = true → XG I' o c m (lp (dlI z v x) m S0).2 → DX I' a b z m → sb (fNt o a b c) I I' → G l (d + 3) mX4_becomeDealt K 131 [.ref o, .int z0, .int (nI m), .int v, .int (zn z (lp (dlI z v x) m S0).1), .int (nI x), x6] [] I' J (rX g)) : ∀ (k y : Nat) (I1 : AI), m - y = k → x < y → y ≤ m → XG I1 o c m (lp (dlI z v x) y S0).2 → DX I1 a b z m → sb (fNt o a b c) I I1 → G l (d + 3) mX4_becomeDealt K 88 [.ref o, .int z0, .int (nI m), .int v, .int (zn z (lp (dlI z v x) y S0).1), .int (nI x), .int (nI y)] [] I1 J (rX g) := by
  intro k
  induction k using Nat.strongRecOn with
  | _ k ih =>
  intro y I1 hyk hxy hym hX hD hs1
  obtain ⟨q1, q2, q3, q4⟩ := hN.2.2.2.2.2.2
  refine G_iload_6 (nx := 90) ⟨dX4_becomeDealt_88, rfl⟩ ?_
  refine G_aload_0 (nx := 91) ⟨dX4_becomeDealt_90, rfl⟩ ?_
  refine G_geti (nx := 94) (k := o) ⟨dX4_becomeDealt_91, rfl⟩ fX4_24 hN.1 yi_4_4 ?_
  rw [hX.1]
  refine G_icmpge (tgt := 131) (nx := 97) ⟨dX4_becomeDealt_94, rfl⟩ rfl (fun c_94 => ?_) (fun c_94 => ?_)
  · rw [nI_le_iff (by omega) (by omega)] at c_94
    have e : y = m := by omega
    subst e
    exact hgo I1 _ rfl hX hD hs1
  · rw [nI_le_iff (by omega) (by omega)] at c_94
    have hy : y < m := by omega
    refine G_iload_4 (nx := 99) ⟨dX4_becomeDealt_97, rfl⟩ ?_
    refine G_cs1 (nx := 102) ⟨dX4_becomeDealt_99, rfl⟩ kX4_55 rfl rfl (Nat.le_of_ble_eq_true rfl) (Nat.le_of_ble_eq_true rfl) (cX_drawn ?_)
    refine G_istore_4 (nx := 104) ⟨dX4_becomeDealt_102, rfl⟩ rfl rfl ?_
    refine G_iload_4 (nx := 106) ⟨dX4_becomeDealt_104, rfl⟩ ?_
    refine G_bipush (nx := 108) ⟨dX4_becomeDealt_106, rfl⟩ cb_16 ?_
    refine G_iushr (nx := 109) ⟨dX4_becomeDealt_108, rfl⟩ ?_
    refine G_bipush (nx := 111) ⟨dX4_becomeDealt_109, rfl⟩ cb_10 ?_
    refine G_irem (nx := 112) ⟨dX4_becomeDealt_111, rfl⟩ (by decide) ?_
    refine G_iload_3 (nx := 113) ⟨dX4_becomeDealt_112, rfl⟩ ?_
    refine G_icmpge (tgt := 125) (nx := 116) ⟨dX4_becomeDealt_113, rfl⟩ rfl (fun c_113 => ?_) (fun c_113 => ?_)
    · refine G_iinc_6 (nx := 128) ⟨dX4_becomeDealt_125, rfl⟩ ci_1 rfl ?_
      refine G_goto (tgt := 88) ⟨dX4_becomeDealt_128, rfl⟩ rfl ?_
      have est : dlI z v x y (lp (dlI z v x) y S0) = ((lp (dlI z v x) y S0).1 + 1, (lp (dlI z v x) y S0).2) := by
        rw [dlI, if_pos hxy, if_neg (show ¬ rmI (dv (zn z (lp (dlI z v x) y S0).1)) 10 < v from i32_nlt c_113)]
      refine G_L (by rw [nI_1, lp_s, est]; rfl) (ih (m - (y + 1)) (by omega) (y + 1) _ rfl (by omega) (by omega) ?_ hD hs1)
      rw [lp_s, est]; exact hX
    · refine G_aload_0 (nx := 117) ⟨dX4_becomeDealt_116, rfl⟩ ?_
      refine G_iload_5 (nx := 119) ⟨dX4_becomeDealt_117, rfl⟩ ?_
      refine G_iload_6 (nx := 121) ⟨dX4_becomeDealt_119, rfl⟩ ?_
      refine G_iconst (nx := 122) ⟨dX4_becomeDealt_121, rfl⟩ ci_1 ?_
      rw [show (1 : Int32) = nI 1 by decide]
      refine G_cvv3 (nx := 125) ⟨dX4_becomeDealt_122, rfl⟩ kX4_63 rfl hN.1 rfl (Nat.le_of_ble_eq_true rfl) (Nat.le_of_ble_eq_true rfl) (cN_join (on := 1) hN hX hx hy (by omega) (by omega) ?_)
      refine G_iinc_6 (nx := 128) ⟨dX4_becomeDealt_125, rfl⟩ ci_1 rfl ?_
      refine G_goto (tgt := 88) ⟨dX4_becomeDealt_128, rfl⟩ rfl ?_
      have est : dlI z v x y (lp (dlI z v x) y S0) = ((lp (dlI z v x) y S0).1 + 1, layG (lp (dlI z v x) y S0).2 x y 1) := by
        rw [dlI, if_pos hxy, if_pos (show rmI (dv (zn z (lp (dlI z v x) y S0).1)) 10 < v from i32_lto c_113)]
      refine G_L (by rw [nI_1, lp_s, est]; rfl) (ih (m - (y + 1)) (by omega) (y + 1) _ rfl (by omega) (by omega) ?_ ((hD.w (by omega) (by omega)).w (by omega) (by omega)) ((hs1.w fNt_c).w fNt_c))
      rw [lp_s, est]; exact hX.lay (by omega) hx hy (by omega) (by omega)

theorem lN_d2O {z0 z v : Int32} {m : Nat} {o a b c e : Nat} (hN : NT o a b c e) (hm : m ≤ 12) (hk : ∀ (I' : AI), XG I' o c m (dlN z v m).2 → DX I' a b z m → sb (fNt o a b c) I I' → K (.int (zn z (dlN z v m).1)) I' J (rX g)) : ∀ (k x : Nat) (I1 : AI) (x6 : Value), notL x6 = true → m - x = k → x ≤ m → XG I1 o c m (lp (dlO z v m) x (2 * m, fun _ => 0)).2 → DX I1 a b z m → sb (fNt o a b c) I I1 → G l (d + 3) mX4_becomeDealt K 73 [.ref o, .int z0, .int (nI m), .int v, .int (zn z (lp (dlO z v m) x (2 * m, fun _ => 0)).1), .int (nI x), x6] [] I1 J (rX g) := by
  intro k
  induction k using Nat.strongRecOn with
  | _ k ih =>
  intro x I1 x6 hx6 hxk hxm hX hD hs1
  refine G_iload_5 (nx := 75) ⟨dX4_becomeDealt_73, rfl⟩ ?_
  refine G_aload_0 (nx := 76) ⟨dX4_becomeDealt_75, rfl⟩ ?_
  refine G_geti (nx := 79) (k := o) ⟨dX4_becomeDealt_76, rfl⟩ fX4_24 hN.1 yi_4_4 ?_
  rw [hX.1]
  refine G_icmpge (tgt := 137) (nx := 82) ⟨dX4_becomeDealt_79, rfl⟩ rfl (fun c_79 => ?_) (fun c_79 => ?_)
  · refine G_iload_4 (nx := 139) ⟨dX4_becomeDealt_137, rfl⟩ ?_
    refine G_iret ⟨dX4_becomeDealt_139, rfl⟩ rfl ?_
    rw [nI_le_iff (by omega) (by omega)] at c_79
    have e : x = m := by omega
    subst e
    exact hk I1 hX hD hs1
  · rw [nI_le_iff (by omega) (by omega)] at c_79
    have hx : x < m := by omega
    refine G_iload_5 (nx := 84) ⟨dX4_becomeDealt_82, rfl⟩ ?_
    refine G_iconst (nx := 85) ⟨dX4_becomeDealt_84, rfl⟩ ci_1 ?_
    refine G_iadd (nx := 86) ⟨dX4_becomeDealt_85, rfl⟩ ?_
    refine G_istore_6 (nx := 88) ⟨dX4_becomeDealt_86, rfl⟩ rfl rfl ?_
    rw [nI_1]
    have hin := dlI_le z v x (x + 1) (Nat.le_refl _) (lp (dlO z v m) x (2 * m, fun _ => 0))
    refine G_L (by rw [hin]) (lN_d2I (z0 := z0) (v := v) (I := I1) (S0 := (lp (dlO z v m) x (2 * m, fun _ => 0))) hN hm hx (fun I2 y6 hy6 hX2 hD2 hs2 => ?_) _ (x + 1) I1 rfl (by omega) (by omega) (by rw [hin]; exact hX) hD sb.rf)
    refine G_iinc_5 (nx := 134) ⟨dX4_becomeDealt_131, rfl⟩ ci_1 rfl ?_
    refine G_goto (tgt := 73) ⟨dX4_becomeDealt_134, rfl⟩ rfl ?_
    exact G_L (by rw [nI_1]; rfl) (ih (m - (x + 1)) (by omega) (x + 1) I2 y6 hy6 rfl (by omega) hX2 hD2 (hs1.tr hs2))
    

theorem cN_becomeDealt {z v : Int32} {m : Nat} {o a b c e : Nat} (hN : NT o a b c e) (hm : m ≤ 12) (hk : ∀ (I' : AI), XG I' o c m (dlN z v m).2 → DX I' a b z m → sb (fNt o a b c) I I' → K (.int (zn z (dlN z v m).1)) I' J (rX g)) : G l (d + 3) mX4_becomeDealt K 0 [.ref o, .int z, .int (nI m), .int v, UU, UU, UU] [] I J (rX g) := by
  refine G_iload_1 (nx := 1) ⟨dX4_becomeDealt_0, rfl⟩ ?_
  refine G_istore_4 (nx := 3) ⟨dX4_becomeDealt_1, rfl⟩ rfl rfl ?_
  refine G_aload_0 (nx := 4) ⟨dX4_becomeDealt_3, rfl⟩ ?_
  refine G_cvv0 (nx := 7) ⟨dX4_becomeDealt_4, rfl⟩ kX4_52 rfl hN.1 rfl (Nat.le_of_ble_eq_true rfl) (Nat.le_of_ble_eq_true rfl) (cN_clear hN (fun I1 h0 hz hs1 => ?_))
  refine G_iconst (nx := 8) ⟨dX4_becomeDealt_7, rfl⟩ ci_0 ?_
  refine G_istore_5 (nx := 10) ⟨dX4_becomeDealt_8, rfl⟩ rfl rfl ?_
  refine G_L (by rw [← nI_0]; rfl) (lN_d1 (I := I) (z := z) hN hm (fun I2 x6 hx6 hX2 hD2 hs2 => ?_) _ 0 I1 UU rfl rfl (by omega) ⟨h0, by omega, fun p hp => absurd hp (by omega), fun p hp => absurd hp (by omega)⟩ (fun j hj => absurd hj (by omega)) hs1)
  refine G_iconst (nx := 71) ⟨dX4_becomeDealt_70, rfl⟩ ci_0 ?_
  refine G_istore_5 (nx := 73) ⟨dX4_becomeDealt_71, rfl⟩ rfl rfl ?_
  exact G_L (by rw [← nI_0]; rfl) (lN_d2O hN hm hk _ 0 I2 x6 hx6 rfl (by omega) hX2 hD2 hs2)
  

theorem lN_may {i k : Nat} {row : Nat → Int32} {o a b c e : Nat} (hN : NT o a b c e) (hX : XG I o c n gr) (hW : WG n gr) (hi : i < n) (hA : isA k 60) (hrow : ∀ j, j < 60 → I k j = row j) (hk : K (.int (bi (jiB gr row i i))) I J (rX g)) : ∀ (t p : Nat), i - p = t → p ≤ i → jiB gr row i p = true → G l (d + 2) mX4_mayFollow K 15 [.ref o, .ref k, .int (nI i), .int (nI p)] [] I J (rX g) := by
  intro t
  induction t using Nat.strongRecOn with
  | _ t ih =>
  intro p hpt hpi hok
  have hn := hX.2.1
  have eci := cl_nI (p := i) (by omega)
  have ecp := cl_nI (p := p) (by omega)
  have hi60 := in60 (p := i) (by omega)
  refine G_iload_3 (nx := 16) ⟨dX4_mayFollow_15, rfl⟩ ?_
  refine G_iload_2 (nx := 17) ⟨dX4_mayFollow_16, rfl⟩ ?_
  refine G_icmpge (tgt := 48) (nx := 20) ⟨dX4_mayFollow_17, rfl⟩ rfl (fun c_17 => ?_) (fun c_17 => ?_)
  · refine G_iconst (nx := 49) ⟨dX4_mayFollow_48, rfl⟩ ci_1 ?_
    refine G_zret ⟨dX4_mayFollow_49, rfl⟩ rfl (by first | assumption | decide | exact bi_01 _) ?_
    rw [nI_le_iff (by omega) (by omega)] at c_17
    have e : p = i := by omega
    subst e
    rw [hok] at hk
    exact hk
  · rw [nI_le_iff (by omega) (by omega)] at c_17
    have hp60 := in60 (p := p) (by omega)
    refine G_aload_0 (nx := 21) ⟨dX4_mayFollow_20, rfl⟩ ?_
    refine G_iload_3 (nx := 22) ⟨dX4_mayFollow_21, rfl⟩ ?_
    refine G_iload_2 (nx := 23) ⟨dX4_mayFollow_22, rfl⟩ ?_
    refine G_cv2 (nx := 26) ⟨dX4_mayFollow_23, rfl⟩ kX4_83 rfl hN.1 rfl (Nat.le_of_ble_eq_true rfl) (Nat.le_of_ble_eq_true rfl) (cN_joined hN hX (show p < n by omega) hi ?_)
    refine G_ifeq (tgt := 42) (nx := 29) ⟨dX4_mayFollow_26, rfl⟩ rfl (fun c_26 => ?_) (fun c_26 => ?_)
    · refine G_iinc_3 (nx := 45) ⟨dX4_mayFollow_42, rfl⟩ ci_1 rfl ?_
      refine G_goto (tgt := 15) ⟨dX4_mayFollow_45, rfl⟩ rfl ?_
      rw [bi_0] at c_26
      have est : jiB gr row i (p + 1) = true := by rw [jiB, hok, hW.2.2 i p hi (by omega), c_26]; rfl
      exact G_L (by rw [nI_1]) (ih (i - (p + 1)) (by omega) (p + 1) rfl (by omega) est)
    · refine G_aload_1 (nx := 30) ⟨dX4_mayFollow_29, rfl⟩ ?_
      refine G_iload_3 (nx := 31) ⟨dX4_mayFollow_30, rfl⟩ ?_
      refine G_iald (nx := 32) (k := k) ⟨dX4_mayFollow_31, rfl⟩ hA (by first | assumption | decide | (unfold vp_in; decide)) ?_
      rw [ecp, hrow p (by omega)]
      refine G_aload_1 (nx := 33) ⟨dX4_mayFollow_32, rfl⟩ ?_
      refine G_iload_2 (nx := 34) ⟨dX4_mayFollow_33, rfl⟩ ?_
      refine G_iald (nx := 35) (k := k) ⟨dX4_mayFollow_34, rfl⟩ hA (by first | assumption | decide | (unfold vp_in; decide)) ?_
      rw [eci, hrow i (by omega)]
      refine G_iadd (nx := 36) ⟨dX4_mayFollow_35, rfl⟩ ?_
      refine G_iconst (nx := 37) ⟨dX4_mayFollow_36, rfl⟩ ci_2 ?_
      refine G_icmpge (tgt := 42) (nx := 40) ⟨dX4_mayFollow_37, rfl⟩ rfl (fun c_37 => ?_) (fun c_37 => ?_)
      · refine G_iinc_3 (nx := 45) ⟨dX4_mayFollow_42, rfl⟩ ci_1 rfl ?_
        refine G_goto (tgt := 15) ⟨dX4_mayFollow_45, rfl⟩ rfl ?_
        have est : jiB gr row i (p + 1) = true := by rw [jiB, hok, show decide (row p + row i < 2) = false from decide_eq_false (by rw [i32_le] at c_37; rw [i32_lt]; omega), Bool.and_false]; rfl
        exact G_L (by rw [nI_1]) (ih (i - (p + 1)) (by omega) (p + 1) rfl (by omega) est)
      · refine G_iconst (nx := 41) ⟨dX4_mayFollow_40, rfl⟩ ci_0 ?_
        refine G_zret ⟨dX4_mayFollow_41, rfl⟩ rfl (by first | assumption | decide | exact bi_01 _) ?_
        rw [bi_n0] at c_26
        have e : jiB gr row i i = false := by
          rcases hb : jiB gr row i i with _ | _
          · rfl
          · have h := jiB_mono hb (show p + 1 ≤ i by omega)
            rw [jiB, hW.2.2 i p hi (by omega), c_26, decide_eq_true (show row p + row i < 2 by rw [i32_le] at c_37; rw [i32_lt]; omega), Bool.and_true, Bool.not_true, Bool.and_false] at h
            cases h
        rw [e] at hk
        exact hk

theorem cN_mayFollow {i k : Nat} {row : Nat → Int32} {o a b c e : Nat} (hN : NT o a b c e) (hX : XG I o c n gr) (hW : WG n gr) (hi : i < n) (hA : isA k 60) (hrow : ∀ j, j < 60 → I k j = row j) (hk : K (.int (bi (inR (row i) 0 2 && jiB gr row i i))) I J (rX g)) : G l (d + 2) mX4_mayFollow K 0 [.ref o, .ref k, .int (nI i), UU] [] I J (rX g) := by
  have hn := hX.2.1
  have eci := cl_nI (p := i) (by omega)
  have hi60 := in60 (p := i) (by omega)
  refine G_aload_1 (nx := 1) ⟨dX4_mayFollow_0, rfl⟩ ?_
  refine G_iload_2 (nx := 2) ⟨dX4_mayFollow_1, rfl⟩ ?_
  refine G_iald (nx := 3) (k := k) ⟨dX4_mayFollow_2, rfl⟩ hA (by first | assumption | decide | (unfold vp_in; decide)) ?_
  rw [eci, hrow i (by omega)]
  refine G_iconst (nx := 4) ⟨dX4_mayFollow_3, rfl⟩ ci_0 ?_
  refine G_iconst (nx := 5) ⟨dX4_mayFollow_4, rfl⟩ ci_2 ?_
  refine G_cs3 (nx := 8) ⟨dX4_mayFollow_5, rfl⟩ kX4_91 rfl rfl (Nat.le_of_ble_eq_true rfl) (Nat.le_of_ble_eq_true rfl) (cX_within ?_)
  refine G_ifne (tgt := 13) (nx := 11) ⟨dX4_mayFollow_8, rfl⟩ rfl (fun c_8 => ?_) (fun c_8 => ?_)
  · refine G_iconst (nx := 14) ⟨dX4_mayFollow_13, rfl⟩ ci_0 ?_
    refine G_istore_3 (nx := 15) ⟨dX4_mayFollow_14, rfl⟩ rfl rfl ?_
    rw [bi_n0] at c_8
    rw [c_8, Bool.true_and] at hk
    exact G_L (by rw [← nI_0]) (lN_may hN hX hW hi hA hrow hk _ 0 rfl (by omega) rfl)
  · refine G_iconst (nx := 12) ⟨dX4_mayFollow_11, rfl⟩ ci_0 ?_
    refine G_zret ⟨dX4_mayFollow_12, rfl⟩ rfl (by first | assumption | decide | exact bi_01 _) ?_
    rw [bi_0] at c_8
    rw [c_8, Bool.false_and] at hk
    exact hk

end X62
