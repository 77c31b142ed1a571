
theorem py_off {gr : Nat → Nat} {A B : Int32} {x : Nat} : ∀ k (s : PY), (∀ y, y < k → x < y → ¬ ((nI x = A ∧ nI y = B) ∨ (nI x = B ∧ nI y = A))) → (lp (pyI gr A B x) k s).2.2 = s.2.2 := by
  intro k
  induction k with
  | zero => intro s _; rfl
  | succ k ih =>
    intro s h
    have := ih s (fun y hy => h y (by omega))
    rw [lp_s]
    generalize lp (pyI gr A B x) k s = t at this
    unfold pyI
    split
    · rename_i c
      show (if _ then _ else t.2.2) = _
      rw [if_neg (h k (by omega) c.1)]
      exact this
    · exact this
theorem py_on {gr : Nat → Nat} {A B : Int32} {x y : Nat} (hxy : x < y) (hl : (gr x).testBit y = true) (hA : (nI x = A ∧ nI y = B) ∨ (nI x = B ∧ nI y = A)) : ∀ k (s : PY), y < k → (∀ z, z < k → x < z → ((nI x = A ∧ nI z = B) ∨ (nI x = B ∧ nI z = A)) → z = y) → (lp (pyI gr A B x) k s).2.2 = pyM (lp (pyI gr A B x) y s).1 x y := by
  intro k
  induction k with
  | zero => intro s h; omega
  | succ k ih =>
    intro s hk h
    rw [lp_s]
    by_cases e : k = y
    · rw [e]
      generalize lp (pyI gr A B x) y s = t
      unfold pyI
      rw [if_pos ⟨hxy, hl⟩]
      exact if_pos hA
    · have := ih s (by omega) (fun z hz => h z (by omega))
      rw [← this]
      generalize lp (pyI gr A B x) k s = t
      unfold pyI
      split
      · rename_i c
        show (if _ then _ else t.2.2) = _
        rw [if_neg (fun q => e (h k (by omega) c.1 q))]
      · rfl
theorem py_paid {n : Nat} {gr : Nat → Nat} {x y : Nat} {P0 : Nat → Int32} {A B : Int32} (hn : n ≤ 12) (hxy : x < y) (hy : y < n) (hl : (gr x).testBit y = true) (hA : (A = nI x ∧ B = nI y) ∨ (A = nI y ∧ B = nI x)) : (pyN n gr A B P0).2.2 = pyM (lp (pyI gr A B x) y (lp (pyO gr A B n) x (P0, 0, 0))).1 x y := by
  have hu : ∀ a b, a < n → b < n → a < b → ((nI a = A ∧ nI b = B) ∨ (nI a = B ∧ nI b = A)) → a = x ∧ b = y := by
    intro a b ha hb hab h
    have hi : ∀ p q, p < n → q < n → nI p = nI q → p = q := fun p q hp hq e => nI_inj (by omega) (by omega) e
    rcases hA with ⟨e1, e2⟩ | ⟨e1, e2⟩ <;> rw [e1, e2] at h <;> rcases h with ⟨h1, h2⟩ | ⟨h1, h2⟩
    · exact ⟨hi _ _ ha (by omega) h1, hi _ _ hb hy h2⟩
    · have := hi _ _ ha hy h1; have := hi _ _ hb (by omega) h2; omega
    · have := hi _ _ ha hy h1; have := hi _ _ hb (by omega) h2; omega
    · exact ⟨hi _ _ ha (by omega) h1, hi _ _ hb hy h2⟩
  have hA' : (nI x = A ∧ nI y = B) ∨ (nI x = B ∧ nI y = A) := by
    rcases hA with ⟨e1, e2⟩ | ⟨e1, e2⟩
    · exact Or.inl ⟨e1.symm, e2.symm⟩
    · exact Or.inr ⟨e2.symm, e1.symm⟩
  have key : ∀ k, x < k → k ≤ n → (lp (pyO gr A B n) k (P0, 0, 0)).2.2 = pyM (lp (pyI gr A B x) y (lp (pyO gr A B n) x (P0, 0, 0))).1 x y := by
    intro k
    induction k with
    | zero => intro h; omega
    | succ k ih =>
      intro h1 h2
      rw [lp_s]
      show (lp (pyI gr A B k) n _).2.2 = _
      by_cases e : k = x
      · rw [e]
        exact py_on hxy hl hA' n _ hy (fun z hz hxz h => (hu x z (by omega) hz hxz h).2)
      · rw [py_off n _ (fun z hz hkz h => e (hu k z (by omega) hz hkz h).1)]
        exact ih (by omega) (by omega)
  exact key n (by omega) (Nat.le_refl _)
theorem pyM_min {P : Nat → Int32} {x y : Nat} : pyM P x y = if P y < P x then P y else P x := by
  unfold pyM
  by_cases c : P y ≤ P x
  · by_cases c2 : P y < P x
    · rw [if_pos c, if_pos c2]
    · rw [if_pos c, if_neg c2]
      rw [i32_le] at c
      rw [i32_lt] at c2
      exact i32_of_toInt (by omega)
  · rw [if_neg c, if_neg (by rw [i32_le] at c; rw [i32_lt]; omega)]
theorem pyM_min2 {P : Nat → Int32} {x y : Nat} : pyM P y x = if P y < P x then P y else P x := by
  unfold pyM
  by_cases c : P x ≤ P y
  · rw [if_pos c, if_neg (by rw [i32_le] at c; rw [i32_lt]; omega)]
  · rw [if_neg c, if_pos (by rw [i32_le] at c; rw [i32_lt]; omega)]
theorem mn_nI {x y : Nat} (hx : x < 1000) (hy : y < 1000) (h : x < y) : (if nI y < nI x then nI y else nI x) = nI x ∧ (if nI x < nI y then nI x else nI y) = nI x ∧ (if nI x < nI y then nI y else nI x) = nI y ∧ (if nI y < nI x then nI x else nI y) = nI y := by
  have h1 : nI x < nI y := (nI_lt_iff (by omega) (by omega)).mpr (by omega)
  have h2 : ¬ nI y < nI x := fun q => by rw [nI_lt_iff (by omega) (by omega)] at q; omega
  exact ⟨if_neg h2, if_pos h1, if_pos h1, if_neg h2⟩
theorem WG_0 (n : Nat) : WG n (fun _ => 0) := ⟨fun _ _ => Nat.two_pow_pos n, fun _ _ => Nat.zero_testBit _, fun _ _ _ _ => by rw [Nat.zero_testBit, Nat.zero_testBit]⟩
theorem dl_WG (z v : Int32) (m : Nat) : WG m (dlN z v m).2 := by
  have h1 : ∀ a, a < m → ∀ k, k ≤ m → ∀ s : Nat × (Nat → Nat), WG m s.2 → WG m (lp (dlI z v a) k s).2 := by
    intro a ha k
    induction k with
    | zero => intro _ s h; exact h
    | succ k ih =>
      intro hk s h
      have h2 := ih (by omega) s h
      rw [lp_s]
      generalize lp (dlI z v a) k s = t at h2
      unfold dlI
      split
      · rename_i c
        show WG m (if _ then _ else _)
        split
        · exact h2.lay ha (by omega) (by omega) (by omega)
        · exact h2
      · exact h2
  have h2 : ∀ k, k ≤ m → WG m (lp (dlO z v m) k (2 * m, fun _ => 0)).2 := by
    intro k
    induction k with
    | zero => intro _; exact WG_0 m
    | succ k ih => intro hk; rw [lp_s]; exact h1 k (by omega) m (Nat.le_refl _) _ (ih (by omega))
  exact h2 m (Nat.le_refl _)
def fdX (I : AI) (v : Int32) (t k : Nat) : Nat → AI
  | 0 => I
  | i + 1 => w2 (w2 (fdX I v t k i) 43 (t + i) ((v.toUInt32 >>> ((nI (8 * (k - 1 - i))).toUInt32 &&& Int32.toUInt32 31)).toInt32 &&& 255)) 42 3 (nI (t + i + 1))
theorem fdX_n {I : AI} {v : Int32} {t k : Nat} (ht : I 42 3 = nI t) : ∀ i, fdX I v t k i 42 3 = nI (t + i)
  | 0 => ht
  | i + 1 => by rw [fdX, w2_at]; rfl
def fDl (x y : Nat) : Bool := fNt 1 2 3 4 x y || (x == 0 && y == 14)
section X93
variable {l : Launch} {d : Nat} {K : AK} {I : AI} {J : AJ} {g : Bool} {n : Nat} {gr : Nat → Nat}

theorem cX_paid {a b : Int32} {P0 : Nat → Int32} (hX : XG I 1 4 n gr) (hW : WG n gr) (hP0 : ∀ j, j < n → cst (I 2 j) (I 3 j) (nI (pc (gr j))) (nI j) = P0 j) (hk1 : (ptB n a && ptB n b && !decide (a = b)) = false → K (.int (-2)) I J (rX g)) (hk2 : ∀ x y, x < n → y < n → ¬ x = y → a = nI x → b = nI y → (gr x).testBit y = false → K (.int (-1)) I J (rX g)) (hk : ∀ x y (I' : AI), x < n → y < n → ¬ x = y → a = nI x → b = nI y → (gr x).testBit y = true → sb (fE 5) I I' → K (.int (pyN n gr a b P0).2.2) I' J (rX g)) : G l (d + 40) mX11_paid K 0 [.ref 0, .int a, .int b] [] I J (rX g) := by
  refine G_aload_0 (nx := 1) ⟨dX11_paid_0, rfl⟩ ?_
  refine G_getr (nx := 4) (k := 0) (r := 1) ⟨dX11_paid_1, rfl⟩ fX11_10 q_0 yr_11_0 (r_0_0 _) ?_
  refine G_iload_1 (nx := 5) ⟨dX11_paid_4, rfl⟩ ?_
  refine G_iload_2 (nx := 6) ⟨dX11_paid_5, rfl⟩ ?_
  refine G_cv2 (nx := 9) ⟨dX11_paid_6, rfl⟩ kX11_122 rfl q_1 rfl (Nat.le_of_ble_eq_true rfl) (Nat.le_of_ble_eq_true rfl) (cN_hasTwo nt1 hX ?_)
  refine G_ifne (tgt := 15) (nx := 12) ⟨dX11_paid_9, rfl⟩ rfl (fun c_9 => ?_) (fun c_9 => ?_)
  · rw [bi_n0, Bool.and_eq_true, Bool.and_eq_true, Bool.not_eq_true', decide_eq_false_iff_not] at c_9
    have hn := hX.2.1
    obtain ⟨x, hx, ex⟩ := ptB_ex (by omega) c_9.1.1
    obtain ⟨y, hy, ey⟩ := ptB_ex (by omega) c_9.1.2
    subst ex
    subst ey
    have hne : ¬ x = y := fun q => c_9.2 (by rw [q])
    have hix := in12 hx hn
    have hiy := in12 hy hn
    have ecx := cl_nI (p := x) (by omega)
    have ecy := cl_nI (p := y) (by omega)
    refine G_aload_0 (nx := 16) ⟨dX11_paid_15, rfl⟩ ?_
    refine G_getr (nx := 19) (k := 0) (r := 1) ⟨dX11_paid_16, rfl⟩ fX11_10 q_0 yr_11_0 (r_0_0 _) ?_
    refine G_iload_1 (nx := 20) ⟨dX11_paid_19, rfl⟩ ?_
    refine G_iload_2 (nx := 21) ⟨dX11_paid_20, rfl⟩ ?_
    refine G_cv2 (nx := 24) ⟨dX11_paid_21, rfl⟩ kX11_130 rfl q_1 rfl (Nat.le_of_ble_eq_true rfl) (Nat.le_of_ble_eq_true rfl) (cN_joined nt1 hX hx hy ?_)
    refine G_ifne (tgt := 29) (nx := 27) ⟨dX11_paid_24, rfl⟩ rfl (fun c_24 => ?_) (fun c_24 => ?_)
    · rw [bi_n0] at c_24
      rcases Nat.lt_or_ge x y with hlt | hge
      · obtain ⟨m1, m2, m3, m4⟩ := mn_nI (show x < 1000 by omega) (show y < 1000 by omega) hlt
        refine G_aload_0 (nx := 30) ⟨dX11_paid_29, rfl⟩ ?_
        refine G_getr (nx := 33) (k := 0) (r := 1) ⟨dX11_paid_30, rfl⟩ fX11_10 q_0 yr_11_0 (r_0_0 _) ?_
        refine G_iload_1 (nx := 34) ⟨dX11_paid_33, rfl⟩ ?_
        refine G_iload_2 (nx := 35) ⟨dX11_paid_34, rfl⟩ ?_
        refine G_mmin (nx := 38) ⟨dX11_paid_35, rfl⟩ kX11_377 (Nat.le_of_ble_eq_true rfl) ?_
        rw [m1]
        refine G_iload_1 (nx := 39) ⟨dX11_paid_38, rfl⟩ ?_
        refine G_iload_2 (nx := 40) ⟨dX11_paid_39, rfl⟩ ?_
        refine G_mmax (nx := 43) ⟨dX11_paid_40, rfl⟩ kX11_382 (Nat.le_of_ble_eq_true rfl) ?_
        rw [m3]
        refine G_cv2 (nx := 46) ⟨dX11_paid_43, rfl⟩ kX11_371 rfl q_1 rfl (Nat.le_of_ble_eq_true rfl) (Nat.le_of_ble_eq_true rfl) (cN_payUpTo (sa := x) (sc := y) (A := nI x) (B := nI y) nt1 hX (by omega) (by omega) hP0 (fun _ _ I1 h5 hs1 => ?_) (fun h => absurd (show x < y ∧ y < n by omega) h))
        refine G_pop (nx := 47) ⟨dX11_paid_46, rfl⟩ rfl ?_
        refine G_aload_0 (nx := 48) ⟨dX11_paid_47, rfl⟩ ?_
        refine G_getr (nx := 51) (k := 0) (r := 1) ⟨dX11_paid_48, rfl⟩ fX11_10 q_0 yr_11_0 (r_0_0 _) ?_
        refine G_getr (nx := 54) (k := 1) (r := 5) ⟨dX11_paid_51, rfl⟩ fX11_385 q_1 yr_4_3 (r_1_3 _) ?_
        refine G_iload_1 (nx := 55) ⟨dX11_paid_54, rfl⟩ ?_
        
        refine G_iald (nx := 56) (k := 5) ⟨dX11_paid_55, rfl⟩ q_5 (by first | assumption | decide | (unfold vp_in; decide)) ?_
        rw [ecx, h5 x hx]
        refine G_aload_0 (nx := 57) ⟨dX11_paid_56, rfl⟩ ?_
        refine G_getr (nx := 60) (k := 0) (r := 1) ⟨dX11_paid_57, rfl⟩ fX11_10 q_0 yr_11_0 (r_0_0 _) ?_
        refine G_getr (nx := 63) (k := 1) (r := 5) ⟨dX11_paid_60, rfl⟩ fX11_385 q_1 yr_4_3 (r_1_3 _) ?_
        refine G_iload_2 (nx := 64) ⟨dX11_paid_63, rfl⟩ ?_
        refine G_iald (nx := 65) (k := 5) ⟨dX11_paid_64, rfl⟩ q_5 (by first | assumption | decide | (unfold vp_in; decide)) ?_
        rw [ecy, h5 y hy]
        refine G_mmin (nx := 68) ⟨dX11_paid_65, rfl⟩ kX11_377 (Nat.le_of_ble_eq_true rfl) ?_
        refine G_iret ⟨dX11_paid_68, rfl⟩ rfl ?_
        refine K_v (congrArg Value.int ?_) (hk x y I1 hx hy hne rfl rfl c_24 hs1)
        rw [py_paid hn hlt hy c_24 (Or.inl ⟨rfl, rfl⟩), pyM_min]
      · obtain ⟨m1, m2, m3, m4⟩ := mn_nI (show y < 1000 by omega) (show x < 1000 by omega) (show y < x by omega)
        refine G_aload_0 (nx := 30) ⟨dX11_paid_29, rfl⟩ ?_
        refine G_getr (nx := 33) (k := 0) (r := 1) ⟨dX11_paid_30, rfl⟩ fX11_10 q_0 yr_11_0 (r_0_0 _) ?_
        refine G_iload_1 (nx := 34) ⟨dX11_paid_33, rfl⟩ ?_
        refine G_iload_2 (nx := 35) ⟨dX11_paid_34, rfl⟩ ?_
        refine G_mmin (nx := 38) ⟨dX11_paid_35, rfl⟩ kX11_377 (Nat.le_of_ble_eq_true rfl) ?_
        rw [m2]
        refine G_iload_1 (nx := 39) ⟨dX11_paid_38, rfl⟩ ?_
        refine G_iload_2 (nx := 40) ⟨dX11_paid_39, rfl⟩ ?_
        refine G_mmax (nx := 43) ⟨dX11_paid_40, rfl⟩ kX11_382 (Nat.le_of_ble_eq_true rfl) ?_
        rw [m4]
        refine G_cv2 (nx := 46) ⟨dX11_paid_43, rfl⟩ kX11_371 rfl q_1 rfl (Nat.le_of_ble_eq_true rfl) (Nat.le_of_ble_eq_true rfl) (cN_payUpTo (sa := y) (sc := x) (A := nI x) (B := nI y) nt1 hX (by omega) (by omega) hP0 (fun _ _ I1 h5 hs1 => ?_) (fun h => absurd (show y < x ∧ x < n by omega) h))
        refine G_pop (nx := 47) ⟨dX11_paid_46, rfl⟩ rfl ?_
        refine G_aload_0 (nx := 48) ⟨dX11_paid_47, rfl⟩ ?_
        refine G_getr (nx := 51) (k := 0) (r := 1) ⟨dX11_paid_48, rfl⟩ fX11_10 q_0 yr_11_0 (r_0_0 _) ?_
        refine G_getr (nx := 54) (k := 1) (r := 5) ⟨dX11_paid_51, rfl⟩ fX11_385 q_1 yr_4_3 (r_1_3 _) ?_
        refine G_iload_1 (nx := 55) ⟨dX11_paid_54, rfl⟩ ?_
        
        refine G_iald (nx := 56) (k := 5) ⟨dX11_paid_55, rfl⟩ q_5 (by first | assumption | decide | (unfold vp_in; decide)) ?_
        rw [ecx, h5 x hx]
        refine G_aload_0 (nx := 57) ⟨dX11_paid_56, rfl⟩ ?_
        refine G_getr (nx := 60) (k := 0) (r := 1) ⟨dX11_paid_57, rfl⟩ fX11_10 q_0 yr_11_0 (r_0_0 _) ?_
        refine G_getr (nx := 63) (k := 1) (r := 5) ⟨dX11_paid_60, rfl⟩ fX11_385 q_1 yr_4_3 (r_1_3 _) ?_
        refine G_iload_2 (nx := 64) ⟨dX11_paid_63, rfl⟩ ?_
        refine G_iald (nx := 65) (k := 5) ⟨dX11_paid_64, rfl⟩ q_5 (by first | assumption | decide | (unfold vp_in; decide)) ?_
        rw [ecy, h5 y hy]
        refine G_mmin (nx := 68) ⟨dX11_paid_65, rfl⟩ kX11_377 (Nat.le_of_ble_eq_true rfl) ?_
        refine G_iret ⟨dX11_paid_68, rfl⟩ rfl ?_
        refine K_v (congrArg Value.int ?_) (hk x y I1 hx hy hne rfl rfl c_24 hs1)
        rw [py_paid hn (show y < x by omega) hx (by rw [hW.2.2 y x hy hx]; exact c_24) (Or.inr ⟨rfl, rfl⟩), pyM_min2]
    · refine G_iconst (nx := 28) ⟨dX11_paid_27, rfl⟩ ci_m1 ?_
      refine G_iret ⟨dX11_paid_28, rfl⟩ rfl ?_
      rw [bi_0] at c_24
      exact hk2 x y hx hy hne rfl rfl c_24
  · refine G_bipush (nx := 14) ⟨dX11_paid_12, rfl⟩ cb_m2 ?_
    refine G_iret ⟨dX11_paid_14, rfl⟩ rfl ?_
    rw [bi_0] at c_9
    exact hk1 c_9
theorem cA_put {t : Nat} {v : Int32} (ht : I 42 3 = nI t) (h2 : t < 200) (hk : K .null (w2 (w2 I 43 t v) 42 3 (nI (t + 1))) J (rX g)) : G l d mX9_put K 0 [.ref 42, .int v] [] I J (rX g) := by
  have hin : vp_in (nI t) 200 := vp_in_nI h2 (by decide)
  have ect := cl_nI (p := t) (by omega)
  refine G_aload_0 (nx := 1) ⟨dX9_put_0, rfl⟩ ?_
  refine G_geti (nx := 4) (k := 42) ⟨dX9_put_1, rfl⟩ fX9_22 q_42 yi_9_3 ?_
  rw [ht]
  refine G_sipush (nx := 7) ⟨dX9_put_4, rfl⟩ cs_200 ?_
  refine G_icmplt (tgt := 11) (nx := 10) ⟨dX9_put_7, rfl⟩ rfl (fun c_7 => ?_) (fun c_7 => ?_)
  · refine G_aload_0 (nx := 12) ⟨dX9_put_11, rfl⟩ ?_
    refine G_getr (nx := 15) (k := 42) (r := 43) ⟨dX9_put_12, rfl⟩ fX9_9 q_42 yr_9_0 (r_42_0 _) ?_
    refine G_aload_0 (nx := 16) ⟨dX9_put_15, rfl⟩ ?_
    refine G_geti (nx := 19) (k := 42) ⟨dX9_put_16, rfl⟩ fX9_22 q_42 yi_9_3 ?_
    rw [ht]
    refine G_iload_1 (nx := 20) ⟨dX9_put_19, rfl⟩ ?_
    refine G_iast (nx := 21) (k := 43) ⟨dX9_put_20, rfl⟩ q_43 (by first | assumption | decide | (unfold vp_in; decide)) ?_
    rw [ect]
    refine G_aload_0 (nx := 22) ⟨dX9_put_21, rfl⟩ ?_
    refine G_dup (nx := 23) ⟨dX9_put_22, rfl⟩ rfl ?_
    refine G_geti (nx := 26) (k := 42) ⟨dX9_put_23, rfl⟩ fX9_22 q_42 yi_9_3 ?_
    rw [w2_row _ _ _ _ (show ¬ 42 = 43 by decide), ht]
    refine G_iconst (nx := 27) ⟨dX9_put_26, rfl⟩ ci_1 ?_
    refine G_iadd (nx := 28) ⟨dX9_put_27, rfl⟩ ?_
    refine G_puti (nx := 31) (k := 42) ⟨dX9_put_28, rfl⟩ pX9_22 q_42 yt_9_3 ?_
    refine G_vret ⟨dX9_put_31, rfl⟩ rfl ?_
    rw [nI_1]
    exact hk
  · refine G_vret ⟨dX9_put_10, rfl⟩ rfl ?_
    rw [show (200 : Int32) = nI 200 by decide, nI_lt_iff (by omega) (by omega)] at c_7
    omega

theorem lX_feed {v k : Int32} {t k0 : Nat} (ht : I 42 3 = nI t) (h4 : k0 ≤ 4) (h200 : t + k0 ≤ 200) (hk : K (.int (nI (t + k0))) (fdX I v t k0 k0) J (rX g)) : ∀ (r i : Nat), k0 - i = r → i ≤ k0 → G l (d + 40) mX11_feed K 34 [.ref 0, .int v, .int k, .int (iI ((k0 : Int) - 1 - (i : Int)))] [] (fdX I v t k0 i) J (rX g) := by
  intro r
  induction r using Nat.strongRecOn with
  | _ r ih =>
  intro i hir hi
  have eT := iI_toInt (z := (k0 : Int) - 1 - (i : Int)) (by omega) (by omega)
  refine G_iload_3 (nx := 35) ⟨dX11_feed_34, rfl⟩ ?_
  refine G_iflt (tgt := 61) (nx := 38) ⟨dX11_feed_35, rfl⟩ rfl (fun c_35 => ?_) (fun c_35 => ?_)
  · rw [i32_lt, toInt_0, eT] at c_35
    have hie : i = k0 := by omega
    subst hie
    refine G_aload_0 (nx := 62) ⟨dX11_feed_61, rfl⟩ ?_
    refine G_getr (nx := 65) (k := 0) (r := 42) ⟨dX11_feed_62, rfl⟩ fX11_69 q_0 yr_11_9 (r_0_9 _) ?_
    refine G_geti (nx := 68) (k := 42) ⟨dX11_feed_65, rfl⟩ fX11_164 q_42 yi_9_3 ?_
    rw [fdX_n ht]
    refine G_iret ⟨dX11_feed_68, rfl⟩ rfl ?_
    exact hk
  · rw [i32_lt, toInt_0, eT] at c_35
    have eN : iI ((k0 : Int) - 1 - (i : Int)) = nI (k0 - 1 - i) := by rw [← iI_nat]; congr 1; omega
    rw [eN]
    refine G_aload_0 (nx := 39) ⟨dX11_feed_38, rfl⟩ ?_
    refine G_getr (nx := 42) (k := 0) (r := 42) ⟨dX11_feed_39, rfl⟩ fX11_69 q_0 yr_11_9 (r_0_9 _) ?_
    refine G_iload_1 (nx := 43) ⟨dX11_feed_42, rfl⟩ ?_
    refine G_bipush (nx := 45) ⟨dX11_feed_43, rfl⟩ cb_8 ?_
    refine G_iload_3 (nx := 46) ⟨dX11_feed_45, rfl⟩ ?_
    refine G_imul (nx := 47) ⟨dX11_feed_46, rfl⟩ ?_
    refine G_iushr (nx := 48) ⟨dX11_feed_47, rfl⟩ ?_
    refine G_sipush (nx := 51) ⟨dX11_feed_48, rfl⟩ cs_255 ?_
    refine G_iand (nx := 52) ⟨dX11_feed_51, rfl⟩ ?_
    rw [show (8 : Int32) = nI 8 by decide, nI_mul]
    refine G_cvv1 (nx := 55) ⟨dX11_feed_52, rfl⟩ kX11_388 rfl q_42 rfl (Nat.le_of_ble_eq_true rfl) (Nat.le_of_ble_eq_true rfl) (cA_put (fdX_n ht i) (by omega) ?_)
    refine G_iinc_3 (nx := 58) ⟨dX11_feed_55, rfl⟩ ci_m1 rfl ?_
    refine G_goto (tgt := 34) ⟨dX11_feed_58, rfl⟩ rfl ?_
    refine G_L ?_ (ih (k0 - (i + 1)) (by omega) (i + 1) rfl (by omega))
    rw [← eN, show (-1 : Int32) = iI (-1) by decide, iI_add, show (k0 : Int) - 1 - (i : Int) + -1 = (k0 : Int) - 1 - ((i + 1 : Nat) : Int) by omega]

theorem cX_feed {v k : Int32} {t : Nat} (ht : I 42 3 = nI t) (ht2 : t ≤ 200) (hk1 : inR k 1 4 = false → K (.int (-2)) I J (rX g)) (hk2 : ∀ k0, k = nI k0 → 1 ≤ k0 → k0 ≤ 4 → 200 < t + k0 → K (.int (-4)) I J (rX g)) (hk : ∀ k0, k = nI k0 → 1 ≤ k0 → k0 ≤ 4 → t + k0 ≤ 200 → K (.int (nI (t + k0))) (fdX I v t k0 k0) J (rX g)) : G l (d + 40) mX11_feed K 0 [.ref 0, .int v, .int k, UU] [] I J (rX g) := by
  refine G_iload_2 (nx := 1) ⟨dX11_feed_0, rfl⟩ ?_
  refine G_iconst (nx := 2) ⟨dX11_feed_1, rfl⟩ ci_1 ?_
  refine G_iconst (nx := 3) ⟨dX11_feed_2, rfl⟩ ci_4 ?_
  refine G_cs3 (nx := 6) ⟨dX11_feed_3, rfl⟩ kX11_126 rfl rfl (Nat.le_of_ble_eq_true rfl) (Nat.le_of_ble_eq_true rfl) (cX_within ?_)
  refine G_ifne (tgt := 12) (nx := 9) ⟨dX11_feed_6, rfl⟩ rfl (fun c_6 => ?_) (fun c_6 => ?_)
  · rw [bi_n0] at c_6
    obtain ⟨k0, h1, h4, ek⟩ := nI_ex (a := 1) (b := 4) (by omega) c_6 (by omega)
    subst ek
    refine G_aload_0 (nx := 13) ⟨dX11_feed_12, rfl⟩ ?_
    refine G_getr (nx := 16) (k := 0) (r := 42) ⟨dX11_feed_13, rfl⟩ fX11_69 q_0 yr_11_9 (r_0_9 _) ?_
    refine G_geti (nx := 19) (k := 42) ⟨dX11_feed_16, rfl⟩ fX11_164 q_42 yi_9_3 ?_
    rw [ht]
    refine G_iload_2 (nx := 20) ⟨dX11_feed_19, rfl⟩ ?_
    refine G_iadd (nx := 21) ⟨dX11_feed_20, rfl⟩ ?_
    rw [nI_add]
    refine G_sipush (nx := 24) ⟨dX11_feed_21, rfl⟩ cs_200 ?_
    refine G_icmple (tgt := 30) (nx := 27) ⟨dX11_feed_24, rfl⟩ rfl (fun c_24 => ?_) (fun c_24 => ?_)
    · rw [show (200 : Int32) = nI 200 by decide, nI_le_iff (by omega) (by omega)] at c_24
      refine G_iload_2 (nx := 31) ⟨dX11_feed_30, rfl⟩ ?_
      refine G_iconst (nx := 32) ⟨dX11_feed_31, rfl⟩ ci_1 ?_
      refine G_isub (nx := 33) ⟨dX11_feed_32, rfl⟩ ?_
      refine G_istore_3 (nx := 34) ⟨dX11_feed_33, rfl⟩ rfl rfl ?_
      refine G_L ?_ (lX_feed (k := nI k0) ht h4 c_24 (hk k0 rfl h1 h4 c_24) _ 0 rfl (Nat.zero_le _))
      rw [← iI_nat, show (1 : Int32) = iI 1 by decide, iI_sub]
      simp
    · refine G_bipush (nx := 29) ⟨dX11_feed_27, rfl⟩ cb_m4 ?_
      refine G_iret ⟨dX11_feed_29, rfl⟩ rfl ?_
      rw [show (200 : Int32) = nI 200 by decide, nI_le_iff (by omega) (by omega)] at c_24
      exact hk2 k0 rfl h1 h4 (by omega)
  · refine G_bipush (nx := 11) ⟨dX11_feed_9, rfl⟩ cb_m2 ?_
    refine G_iret ⟨dX11_feed_11, rfl⟩ rfl ?_
    rw [bi_0] at c_6
    exact hk1 c_6

theorem cX_wipe (hk : K (.int (I 42 3)) (w2 I 42 3 0) J (rX g)) : G l (d + 40) mX11_wipe K 0 [.ref 0, UU] [] I J (rX g) := by
  refine G_aload_0 (nx := 1) ⟨dX11_wipe_0, rfl⟩ ?_
  refine G_getr (nx := 4) (k := 0) (r := 42) ⟨dX11_wipe_1, rfl⟩ fX11_69 q_0 yr_11_9 (r_0_9 _) ?_
  refine G_geti (nx := 7) (k := 42) ⟨dX11_wipe_4, rfl⟩ fX11_164 q_42 yi_9_3 ?_
  refine G_istore_1 (nx := 8) ⟨dX11_wipe_7, rfl⟩ rfl rfl ?_
  refine G_aload_0 (nx := 9) ⟨dX11_wipe_8, rfl⟩ ?_
  refine G_getr (nx := 12) (k := 0) (r := 42) ⟨dX11_wipe_9, rfl⟩ fX11_69 q_0 yr_11_9 (r_0_9 _) ?_
  refine G_iconst (nx := 13) ⟨dX11_wipe_12, rfl⟩ ci_0 ?_
  refine G_puti (nx := 16) (k := 42) ⟨dX11_wipe_13, rfl⟩ pX11_164 q_42 yt_9_3 ?_
  refine G_iload_1 (nx := 17) ⟨dX11_wipe_16, rfl⟩ ?_
  refine G_iret ⟨dX11_wipe_17, rfl⟩ rfl ?_
  exact hk

theorem cX_seed {v : Int32} (hk : K (.int (I 0 14)) (w2 I 0 14 v) J (rX g)) : G l (d + 40) mX11_seed K 0 [.ref 0, .int v, UU] [] I J (rX g) := by
  refine G_aload_0 (nx := 1) ⟨dX11_seed_0, rfl⟩ ?_
  refine G_geti (nx := 4) (k := 0) ⟨dX11_seed_1, rfl⟩ fX11_97 q_0 yi_11_14 ?_
  refine G_istore_2 (nx := 5) ⟨dX11_seed_4, rfl⟩ rfl rfl ?_
  refine G_aload_0 (nx := 6) ⟨dX11_seed_5, rfl⟩ ?_
  refine G_iload_1 (nx := 7) ⟨dX11_seed_6, rfl⟩ ?_
  refine G_puti (nx := 10) (k := 0) ⟨dX11_seed_7, rfl⟩ pX11_97 q_0 yt_11_14 ?_
  refine G_iload_2 (nx := 11) ⟨dX11_seed_10, rfl⟩ ?_
  refine G_iret ⟨dX11_seed_11, rfl⟩ rfl ?_
  exact hk

theorem cX_deal {z a v : Int32} (hz : I 0 14 = z) (hk1 : (inR a 0 12 && inR v 0 10) = false → K (.int (-2)) I J (rX g)) (hk : ∀ (m : Nat) (I' : AI), a = nI m → m ≤ 12 → inR v 0 10 = true → XG I' 1 4 m (dlN z v m).2 → I' 0 14 = zn z (dlN z v m).1 → DX I' 2 3 z m → sb fDl I I' → K (.int (nI (lnN m (dlN z v m).2))) I' J (rX g)) : G l (d + 40) mX11_deal K 0 [.ref 0, .int a, .int v] [] I J (rX g) := by
  refine G_iload_1 (nx := 1) ⟨dX11_deal_0, rfl⟩ ?_
  refine G_iconst (nx := 2) ⟨dX11_deal_1, rfl⟩ ci_0 ?_
  refine G_bipush (nx := 4) ⟨dX11_deal_2, rfl⟩ cb_12 ?_
  refine G_cs3 (nx := 7) ⟨dX11_deal_4, rfl⟩ kX11_126 rfl rfl (Nat.le_of_ble_eq_true rfl) (Nat.le_of_ble_eq_true rfl) (cX_within ?_)
  refine G_ifeq (tgt := 20) (nx := 10) ⟨dX11_deal_7, rfl⟩ rfl (fun c_7 => ?_) (fun c_7 => ?_)
  · refine G_bipush (nx := 22) ⟨dX11_deal_20, rfl⟩ cb_m2 ?_
    refine G_iret ⟨dX11_deal_22, rfl⟩ rfl ?_
    rw [bi_0] at c_7
    exact hk1 (by rw [c_7]; rfl)
  · rw [bi_n0] at c_7
    obtain ⟨m, hm, em⟩ := k_ex c_7
    subst em
    refine G_iload_2 (nx := 11) ⟨dX11_deal_10, rfl⟩ ?_
    refine G_iconst (nx := 12) ⟨dX11_deal_11, rfl⟩ ci_0 ?_
    refine G_bipush (nx := 14) ⟨dX11_deal_12, rfl⟩ cb_10 ?_
    refine G_cs3 (nx := 17) ⟨dX11_deal_14, rfl⟩ kX11_126 rfl rfl (Nat.le_of_ble_eq_true rfl) (Nat.le_of_ble_eq_true rfl) (cX_within ?_)
    refine G_ifne (tgt := 23) (nx := 20) ⟨dX11_deal_17, rfl⟩ rfl (fun c_17 => ?_) (fun c_17 => ?_)
    · rw [bi_n0] at c_17
      refine G_aload_0 (nx := 24) ⟨dX11_deal_23, rfl⟩ ?_
      refine G_aload_0 (nx := 25) ⟨dX11_deal_24, rfl⟩ ?_
      refine G_getr (nx := 28) (k := 0) (r := 1) ⟨dX11_deal_25, rfl⟩ fX11_10 q_0 yr_11_0 (r_0_0 _) ?_
      refine G_aload_0 (nx := 29) ⟨dX11_deal_28, rfl⟩ ?_
      refine G_geti (nx := 32) (k := 0) ⟨dX11_deal_29, rfl⟩ fX11_97 q_0 yi_11_14 ?_
      rw [hz]
      refine G_iload_1 (nx := 33) ⟨dX11_deal_32, rfl⟩ ?_
      refine G_iload_2 (nx := 34) ⟨dX11_deal_33, rfl⟩ ?_
      refine G_cv3 (nx := 37) ⟨dX11_deal_34, rfl⟩ kX11_424 rfl q_1 rfl (Nat.le_of_ble_eq_true rfl) (Nat.le_of_ble_eq_true rfl) (cN_becomeDealt nt1 hm (fun I1 hX1 hD1 hs1 => ?_))
      refine G_puti (nx := 40) (k := 0) ⟨dX11_deal_37, rfl⟩ pX11_97 q_0 yt_11_14 ?_
      have hX2 : XG (w2 I1 0 14 (zn z (dlN z v m).1)) 1 4 m (dlN z v m).2 := hX1.cg (by rw [w2_row _ _ _ _ (by decide)]) (fun p _ => by rw [w2_row _ _ _ _ (by decide)])
      refine G_aload_0 (nx := 41) ⟨dX11_deal_40, rfl⟩ ?_
      refine G_getr (nx := 44) (k := 0) (r := 1) ⟨dX11_deal_41, rfl⟩ fX11_10 q_0 yr_11_0 (r_0_0 _) ?_
      refine G_cv0 (nx := 47) ⟨dX11_deal_44, rfl⟩ kX11_157 rfl q_1 rfl (Nat.le_of_ble_eq_true rfl) (Nat.le_of_ble_eq_true rfl) (cN_lines nt1 hX2 ?_)
      refine G_iret ⟨dX11_deal_47, rfl⟩ rfl ?_
      exact hk m _ rfl hm c_17 hX2 (by rw [w2_at]) (hD1.w (by decide) (by decide)) (((hs1.mono (fun x y h => by unfold fDl at h; rw [Bool.or_eq_false_iff] at h; exact h.1))).w (by decide))
    · refine G_bipush (nx := 22) ⟨dX11_deal_20, rfl⟩ cb_m2 ?_
      refine G_iret ⟨dX11_deal_22, rfl⟩ rfl ?_
      rw [bi_0] at c_17
      exact hk1 (by rw [c_17, Bool.and_false])

theorem lX_times {z v : Int32} {t0 m k0 : Nat} (hm : m ≤ 12) (ht : t0 ≤ 20) (hk0 : k0 ≤ 12) (hk : ∀ (I' : AI), sb (fNt 6 7 8 9) I I' → K (.int (nI (lp (tmI m v k0) t0 (z, 0)).2)) I' J (rX g)) : ∀ (k i : Nat) (I1 : AI), t0 - i = k → i ≤ t0 → sb (fNt 6 7 8 9) I I1 → G l (d + 40) mX11_times K 56 [.ref 0, .int (nI t0), .int (nI m), .int v, .int (nI k0), .int (lp (tmI m v k0) i (z, 0)).1, .int (nI (lp (tmI m v k0) i (z, 0)).2), .int (nI i)] [] I1 J (rX g) := by
  intro k
  induction k using Nat.strongRecOn with
  | _ k ih =>
  intro i I1 hik hi hs1
  have h1p := Nat.two_pow_pos m
  refine G_iload_7 (nx := 58) ⟨dX11_times_56, rfl⟩ ?_
  refine G_iload_1 (nx := 59) ⟨dX11_times_58, rfl⟩ ?_
  refine G_icmpge (tgt := 106) (nx := 62) ⟨dX11_times_59, rfl⟩ rfl (fun c_59 => ?_) (fun c_59 => ?_)
  · refine G_iload_6 (nx := 108) ⟨dX11_times_106, rfl⟩ ?_
    refine G_iret ⟨dX11_times_108, rfl⟩ rfl ?_
    rw [nI_le_iff (by omega) (by omega)] at c_59
    have : i = t0 := by omega
    subst this
    exact hk I1 hs1
  · rw [nI_le_iff (by omega) (by omega)] at c_59
    refine G_aload_0 (nx := 63) ⟨dX11_times_62, rfl⟩ ?_
    refine G_getr (nx := 66) (k := 0) (r := 6) ⟨dX11_times_63, rfl⟩ fX11_16 q_0 yr_11_1 (r_0_1 _) ?_
    refine G_iload_5 (nx := 68) ⟨dX11_times_66, rfl⟩ ?_
    refine G_iload_2 (nx := 69) ⟨dX11_times_68, rfl⟩ ?_
    refine G_iload_3 (nx := 70) ⟨dX11_times_69, rfl⟩ ?_
    refine G_cv3 (nx := 73) ⟨dX11_times_70, rfl⟩ kX11_424 rfl q_6 rfl (Nat.le_of_ble_eq_true rfl) (Nat.le_of_ble_eq_true rfl) (cN_becomeDealt nt6 hm (fun I2 hX2 hD2 hs2 => ?_))
    refine G_istore_5 (nx := 75) ⟨dX11_times_73, rfl⟩ rfl rfl ?_
    refine G_aload_0 (nx := 76) ⟨dX11_times_75, rfl⟩ ?_
    refine G_getr (nx := 79) (k := 0) (r := 6) ⟨dX11_times_76, rfl⟩ fX11_16 q_0 yr_11_1 (r_0_1 _) ?_
    refine G_getr (nx := 82) (k := 6) (r := 9) ⟨dX11_times_79, rfl⟩ fX11_151 q_6 yr_4_2 (r_6_2 _) ?_
    refine G_aload_0 (nx := 83) ⟨dX11_times_82, rfl⟩ ?_
    refine G_getr (nx := 86) (k := 0) (r := 6) ⟨dX11_times_83, rfl⟩ fX11_16 q_0 yr_11_1 (r_0_1 _) ?_
    refine G_cv0 (nx := 89) ⟨dX11_times_86, rfl⟩ kX11_194 rfl q_6 rfl (Nat.le_of_ble_eq_true rfl) (Nat.le_of_ble_eq_true rfl) (cN_all nt6 hX2 ?_)
    refine G_cs2 (nx := 92) ⟨dX11_times_89, rfl⟩ kX11_242 rfl rfl (Nat.le_of_ble_eq_true rfl) (Nat.le_of_ble_eq_true rfl) (cC_fewestOf q_9 hX2.2 (dl_WG _ _ _) (show 2 ^ m - 1 < 2 ^ m by omega) (fun k1 hT1 => ?_))
    rw [T_all hm (dl_WG _ _ _).1 hT1]
    refine G_iload_4 (nx := 94) ⟨dX11_times_92, rfl⟩ ?_
    refine G_icmpgt (tgt := 100) (nx := 97) ⟨dX11_times_94, rfl⟩ rfl (fun c_94 => ?_) (fun c_94 => ?_)
    · refine G_iinc_7 (nx := 103) ⟨dX11_times_100, rfl⟩ ci_1 rfl ?_
      refine G_goto (tgt := 56) ⟨dX11_times_103, rfl⟩ rfl ?_
      have hll := leN_le m (dlN (lp (tmI m v k0) i (z, 0)).1 v m).2
      rw [nI_lt_iff (by omega) (by omega)] at c_94
      refine G_L ?_ (ih (t0 - (i + 1)) (by omega) (i + 1) _ rfl (by omega) (hs1.tr hs2))
      rw [lp_s, tmI, nI_1, if_neg (by omega)]
      simp only [Nat.add_zero]
    · refine G_iinc_6 (nx := 100) ⟨dX11_times_97, rfl⟩ ci_1 rfl ?_
      refine G_iinc_7 (nx := 103) ⟨dX11_times_100, rfl⟩ ci_1 rfl ?_
      refine G_goto (tgt := 56) ⟨dX11_times_103, rfl⟩ rfl ?_
      have hll := leN_le m (dlN (lp (tmI m v k0) i (z, 0)).1 v m).2
      rw [nI_lt_iff (by omega) (by omega)] at c_94
      refine G_L ?_ (ih (t0 - (i + 1)) (by omega) (i + 1) _ rfl (by omega) (hs1.tr hs2))
      rw [lp_s, tmI, nI_1, if_pos (by omega)]
      simp only []
      rw [nI_1]

theorem cX_times {z a b v c : Int32} (hz : I 0 14 = z) (hk1 : (inR a 1 20 && inR b 0 12 && inR v 0 10 && inR c 0 12) = false → K (.int (-2)) I J (rX g)) (hk : ∀ (t0 m k0 : Nat) (I' : AI), a = nI t0 → 1 ≤ t0 → t0 ≤ 20 → b = nI m → m ≤ 12 → inR v 0 10 = true → c = nI k0 → k0 ≤ 12 → sb (fNt 6 7 8 9) I I' → K (.int (nI (lp (tmI m v k0) t0 (z, 0)).2)) I' J (rX g)) : G l (d + 40) mX11_times K 0 [.ref 0, .int a, .int b, .int v, .int c, UU, UU, UU] [] I J (rX g) := by
  refine G_iload_1 (nx := 1) ⟨dX11_times_0, rfl⟩ ?_
  refine G_iconst (nx := 2) ⟨dX11_times_1, rfl⟩ ci_1 ?_
  refine G_bipush (nx := 4) ⟨dX11_times_2, rfl⟩ cb_20 ?_
  refine G_cs3 (nx := 7) ⟨dX11_times_4, rfl⟩ kX11_126 rfl rfl (Nat.le_of_ble_eq_true rfl) (Nat.le_of_ble_eq_true rfl) (cX_within ?_)
  refine G_ifeq (tgt := 20) (nx := 10) ⟨dX11_times_7, rfl⟩ rfl (fun c_7 => ?_) (fun c_7 => ?_)
  · refine G_bipush (nx := 22) ⟨dX11_times_20, rfl⟩ cb_m2 ?_
    refine G_iret ⟨dX11_times_22, rfl⟩ rfl ?_
    rw [bi_0] at c_7
    exact hk1 (by rw [c_7]; simp)
  · rw [bi_n0] at c_7
    obtain ⟨t0, h1, h20, et⟩ := nI_ex (a := 1) (b := 20) (by omega) c_7 (by omega)
    refine G_iload_2 (nx := 11) ⟨dX11_times_10, rfl⟩ ?_
    refine G_iconst (nx := 12) ⟨dX11_times_11, rfl⟩ ci_0 ?_
    refine G_bipush (nx := 14) ⟨dX11_times_12, rfl⟩ cb_12 ?_
    refine G_cs3 (nx := 17) ⟨dX11_times_14, rfl⟩ kX11_126 rfl rfl (Nat.le_of_ble_eq_true rfl) (Nat.le_of_ble_eq_true rfl) (cX_within ?_)
    refine G_ifne (tgt := 23) (nx := 20) ⟨dX11_times_17, rfl⟩ rfl (fun c_17 => ?_) (fun c_17 => ?_)
    · rw [bi_n0] at c_17
      obtain ⟨m, hm, em⟩ := k_ex c_17
      refine G_iload_3 (nx := 24) ⟨dX11_times_23, rfl⟩ ?_
      refine G_iconst (nx := 25) ⟨dX11_times_24, rfl⟩ ci_0 ?_
      refine G_bipush (nx := 27) ⟨dX11_times_25, rfl⟩ cb_10 ?_
      refine G_cs3 (nx := 30) ⟨dX11_times_27, rfl⟩ kX11_126 rfl rfl (Nat.le_of_ble_eq_true rfl) (Nat.le_of_ble_eq_true rfl) (cX_within ?_)
      refine G_ifeq (tgt := 41) (nx := 33) ⟨dX11_times_30, rfl⟩ rfl (fun c_30 => ?_) (fun c_30 => ?_)
      · refine G_bipush (nx := 43) ⟨dX11_times_41, rfl⟩ cb_m2 ?_
        refine G_iret ⟨dX11_times_43, rfl⟩ rfl ?_
        rw [bi_0] at c_30
        exact hk1 (by rw [c_30]; simp)
      · rw [bi_n0] at c_30
        refine G_iload_4 (nx := 35) ⟨dX11_times_33, rfl⟩ ?_
        refine G_cs1 (nx := 38) ⟨dX11_times_35, rfl⟩ kX11_261 rfl rfl (Nat.le_of_ble_eq_true rfl) (Nat.le_of_ble_eq_true rfl) (cX_isK ?_)
        refine G_ifne (tgt := 44) (nx := 41) ⟨dX11_times_38, rfl⟩ rfl (fun c_38 => ?_) (fun c_38 => ?_)
        · rw [bi_n0] at c_38
          obtain ⟨k0, hk0, ek⟩ := k_ex c_38
          subst et
          subst em
          subst ek
          refine G_aload_0 (nx := 45) ⟨dX11_times_44, rfl⟩ ?_
          refine G_geti (nx := 48) (k := 0) ⟨dX11_times_45, rfl⟩ fX11_97 q_0 yi_11_14 ?_
          rw [hz]
          refine G_istore_5 (nx := 50) ⟨dX11_times_48, rfl⟩ rfl rfl ?_
          refine G_iconst (nx := 51) ⟨dX11_times_50, rfl⟩ ci_0 ?_
          refine G_istore_6 (nx := 53) ⟨dX11_times_51, rfl⟩ rfl rfl ?_
          refine G_iconst (nx := 54) ⟨dX11_times_53, rfl⟩ ci_0 ?_
          refine G_istore_7 (nx := 56) ⟨dX11_times_54, rfl⟩ rfl rfl ?_
          exact G_L (by rw [← nI_0]; rfl) (lX_times hm h20 hk0 (fun I1 hs1 => hk t0 m k0 I1 rfl h1 h20 rfl hm c_30 rfl hk0 hs1) _ 0 I rfl (Nat.zero_le _) sb.rf)
        · refine G_bipush (nx := 43) ⟨dX11_times_41, rfl⟩ cb_m2 ?_
          refine G_iret ⟨dX11_times_43, rfl⟩ rfl ?_
          rw [bi_0] at c_38
          exact hk1 (by rw [c_38]; simp)
    · refine G_bipush (nx := 22) ⟨dX11_times_20, rfl⟩ cb_m2 ?_
      refine G_iret ⟨dX11_times_22, rfl⟩ rfl ?_
      rw [bi_0] at c_17
      exact hk1 (by rw [c_17]; simp)

end X93
