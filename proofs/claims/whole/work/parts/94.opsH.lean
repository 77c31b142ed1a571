
def RFS (I : AI) (s i r : Int32) : Prop := (inR s 0 3 = false ∧ r = -2) ∨ (∃ s0, s = nI s0 ∧ s0 < 4 ∧ I 47 s0 = -1 ∧ r = -11) ∨ (∃ s0 z, s = nI s0 ∧ s0 < 4 ∧ ¬ I 47 s0 = -1 ∧ I 48 s0 = nI z ∧ z ≤ 60 ∧ ptB z i = false ∧ r = -12) ∨ ∃ s0 z i0, s = nI s0 ∧ s0 < 4 ∧ ¬ I 47 s0 = -1 ∧ I 48 s0 = nI z ∧ z ≤ 60 ∧ i = nI i0 ∧ i0 < z ∧ r = 0
def fIm (x y : Nat) : Bool := fNt 11 12 13 14 x y || (x == 0 && (y == 15 || y == 16))
theorem K_I {K : AK} {v : Value} {I I' : AI} {J : AJ} {R : AR} (h : I = I') (k : K v I' J R) : K v I J R := h ▸ k
section X94
variable {l : Launch} {d : Nat} {K : AK} {I : AI} {J : AJ} {g : Bool} {n : Nat} {gr : Nat → Nat}
theorem cS_ref1 {s i : Int32} (hsz : SZc I) (hk : ∀ r, RFS I s i r → K (.int r) I J (rX g)) : G l (d + 1) mX7_refusal K 0 [.ref 45, .int s, .int i] [] I J (rX g) :=
  cS_refusal hsz (fun h => hk _ (Or.inl ⟨h, rfl⟩)) (fun s0 h1 h2 h3 => hk _ (Or.inr (Or.inl ⟨s0, h1, h2, h3, rfl⟩))) (fun s0 z h1 h2 h3 h4 h5 h6 => hk _ (Or.inr (Or.inr (Or.inl ⟨s0, z, h1, h2, h3, h4, h5, h6, rfl⟩)))) (fun s0 z i0 h1 h2 h3 h4 h5 h6 h7 => hk _ (Or.inr (Or.inr (Or.inr ⟨s0, z, i0, h1, h2, h3, h4, h5, h6, h7, rfl⟩))))

theorem cX_sheet {s q v : Int32} (hk1 : (inR s 0 3 && inR q (-1) 2 && (decide (q = -1) || decide (v ≤ 60))) = false → K (.int (-2)) I J (rX g)) (hk2 : inR s 0 3 = true → inR q (-1) 2 = true → ¬ q = -1 → v ≤ 60 → v < 0 → K (.int (-14)) I J (rX g)) (hk : ∀ (s0 : Nat) (I' : AI), s = nI s0 → s0 < 4 → inR q (-1) 2 = true → (q = -1 ∨ (0 ≤ v ∧ v ≤ 60)) → (∀ j, j < 60 → I' (49 + s0) j = 0) → I' 47 s0 = q → I' 48 s0 = (if q = -1 then 0 else v) → (∀ x y, ¬ ((x = 47 ∨ x = 48) ∧ y = s0) → ¬ x = 49 + s0 → I' x y = I x y) → K (.int 1) I' J (rX g)) : G l (d + 40) mX11_sheet K 0 [.ref 0, .int s, .int q, .int v] [] I J (rX g) := by
  refine G_aload_0 (nx := 1) ⟨dX11_sheet_0, rfl⟩ ?_
  refine G_getr (nx := 4) (k := 0) (r := 45) ⟨dX11_sheet_1, rfl⟩ fX11_76 q_0 yr_11_10 (r_0_10 _) ?_
  refine G_iload_1 (nx := 5) ⟨dX11_sheet_4, rfl⟩ ?_
  refine G_cv1 (nx := 8) ⟨dX11_sheet_5, rfl⟩ kX11_302 rfl q_45 rfl (Nat.le_of_ble_eq_true rfl) (Nat.le_of_ble_eq_true rfl) (cS_has ?_)
  refine G_ifeq (tgt := 20) (nx := 11) ⟨dX11_sheet_8, rfl⟩ rfl (fun c_8 => ?_) (fun c_8 => ?_)
  · refine G_bipush (nx := 22) ⟨dX11_sheet_20, rfl⟩ cb_m2 ?_
    refine G_iret ⟨dX11_sheet_22, rfl⟩ rfl ?_
    rw [bi_0] at c_8
    exact hk1 (by rw [c_8]; simp)
  · rw [bi_n0] at c_8
    obtain ⟨s0, hs0, es⟩ := s_ex c_8
    subst es
    have hin4 := in4 hs0
    have ecs := cl_nI (p := s0) (by omega)
    refine G_iload_2 (nx := 12) ⟨dX11_sheet_11, rfl⟩ ?_
    refine G_iconst (nx := 13) ⟨dX11_sheet_12, rfl⟩ ci_m1 ?_
    refine G_iconst (nx := 14) ⟨dX11_sheet_13, rfl⟩ ci_2 ?_
    refine G_cs3 (nx := 17) ⟨dX11_sheet_14, rfl⟩ kX11_126 rfl rfl (Nat.le_of_ble_eq_true rfl) (Nat.le_of_ble_eq_true rfl) (cX_within ?_)
    refine G_ifne (tgt := 23) (nx := 20) ⟨dX11_sheet_17, rfl⟩ rfl (fun c_17 => ?_) (fun c_17 => ?_)
    · rw [bi_n0] at c_17
      refine G_iload_2 (nx := 24) ⟨dX11_sheet_23, rfl⟩ ?_
      refine G_iconst (nx := 25) ⟨dX11_sheet_24, rfl⟩ ci_m1 ?_
      refine G_icmpne (tgt := 40) (nx := 28) ⟨dX11_sheet_25, rfl⟩ rfl (fun c_25 => ?_) (fun c_25 => ?_)
      · refine G_iload_3 (nx := 41) ⟨dX11_sheet_40, rfl⟩ ?_
        refine G_bipush (nx := 43) ⟨dX11_sheet_41, rfl⟩ cb_60 ?_
        refine G_icmple (tgt := 49) (nx := 46) ⟨dX11_sheet_43, rfl⟩ rfl (fun c_43 => ?_) (fun c_43 => ?_)
        · refine G_iload_3 (nx := 50) ⟨dX11_sheet_49, rfl⟩ ?_
          refine G_ifge (tgt := 56) (nx := 53) ⟨dX11_sheet_50, rfl⟩ rfl (fun c_50 => ?_) (fun c_50 => ?_)
          · refine G_aload_0 (nx := 57) ⟨dX11_sheet_56, rfl⟩ ?_
            refine G_getr (nx := 60) (k := 0) (r := 45) ⟨dX11_sheet_57, rfl⟩ fX11_76 q_0 yr_11_10 (r_0_10 _) ?_
            refine G_iload_1 (nx := 61) ⟨dX11_sheet_60, rfl⟩ ?_
            refine G_iload_2 (nx := 62) ⟨dX11_sheet_61, rfl⟩ ?_
            refine G_iload_3 (nx := 63) ⟨dX11_sheet_62, rfl⟩ ?_
            refine G_cvv3 (nx := 66) ⟨dX11_sheet_63, rfl⟩ kX11_351 rfl q_45 rfl (Nat.le_of_ble_eq_true rfl) (Nat.le_of_ble_eq_true rfl) (cS_begin hs0 (fun I1 e47 e48 e0 hoth => ?_))
            refine G_iconst (nx := 67) ⟨dX11_sheet_66, rfl⟩ ci_1 ?_
            refine G_iret ⟨dX11_sheet_67, rfl⟩ rfl ?_
            exact hk s0 I1 rfl hs0 c_17 (Or.inr ⟨c_50, c_43⟩) e0 e47 (by rw [e48, if_neg c_25]) hoth
          · refine G_bipush (nx := 55) ⟨dX11_sheet_53, rfl⟩ cb_m14 ?_
            refine G_iret ⟨dX11_sheet_55, rfl⟩ rfl ?_
            refine hk2 c_8 c_17 c_25 c_43 ?_
            rw [i32_le] at c_50
            rw [i32_lt]
            omega
        · refine G_bipush (nx := 48) ⟨dX11_sheet_46, rfl⟩ cb_m2 ?_
          refine G_iret ⟨dX11_sheet_48, rfl⟩ rfl ?_
          exact hk1 (by rw [decide_eq_false c_25, decide_eq_false c_43]; simp)
      · refine G_aload_0 (nx := 29) ⟨dX11_sheet_28, rfl⟩ ?_
        refine G_getr (nx := 32) (k := 0) (r := 45) ⟨dX11_sheet_29, rfl⟩ fX11_76 q_0 yr_11_10 (r_0_10 _) ?_
        refine G_iload_1 (nx := 33) ⟨dX11_sheet_32, rfl⟩ ?_
        refine G_iconst (nx := 34) ⟨dX11_sheet_33, rfl⟩ ci_m1 ?_
        refine G_iconst (nx := 35) ⟨dX11_sheet_34, rfl⟩ ci_0 ?_
        refine G_cvv3 (nx := 38) ⟨dX11_sheet_35, rfl⟩ kX11_351 rfl q_45 rfl (Nat.le_of_ble_eq_true rfl) (Nat.le_of_ble_eq_true rfl) (cS_begin hs0 (fun I1 e47 e48 e0 hoth => ?_))
        refine G_iconst (nx := 39) ⟨dX11_sheet_38, rfl⟩ ci_1 ?_
        refine G_iret ⟨dX11_sheet_39, rfl⟩ rfl ?_
        exact hk s0 I1 rfl hs0 c_17 (Or.inl c_25) e0 (by rw [e47, c_25]) (by rw [e48, if_pos c_25]) hoth
    · refine G_bipush (nx := 22) ⟨dX11_sheet_20, rfl⟩ cb_m2 ?_
      refine G_iret ⟨dX11_sheet_22, rfl⟩ rfl ?_
      rw [bi_0] at c_17
      exact hk1 (by rw [c_17]; simp)

theorem cX_write {s i v : Int32} (hsz : SZc I) (hk1 : inR s 0 3 = false → K (.int (-2)) I J (rX g)) (hk2 : ∀ s0, s = nI s0 → s0 < 4 → I 47 s0 = -1 → K (.int (-11)) I J (rX g)) (hk3 : ∀ s0 z, s = nI s0 → s0 < 4 → ¬ I 47 s0 = -1 → I 48 s0 = nI z → z ≤ 60 → ptB z i = false → K (.int (-12)) I J (rX g)) (hk : ∀ s0 z i0, s = nI s0 → s0 < 4 → ¬ I 47 s0 = -1 → I 48 s0 = nI z → z ≤ 60 → i = nI i0 → i0 < z → K (.int 1) (w2 I (49 + s0) i0 (cvS (I 47 s0) v)) J (rX g)) : G l (d + 40) mX11_write K 0 [.ref 0, .int s, .int i, .int v, UU] [] I J (rX g) := by
  refine G_aload_0 (nx := 1) ⟨dX11_write_0, rfl⟩ ?_
  refine G_getr (nx := 4) (k := 0) (r := 45) ⟨dX11_write_1, rfl⟩ fX11_76 q_0 yr_11_10 (r_0_10 _) ?_
  refine G_iload_1 (nx := 5) ⟨dX11_write_4, rfl⟩ ?_
  refine G_iload_2 (nx := 6) ⟨dX11_write_5, rfl⟩ ?_
  refine G_cv2 (nx := 9) ⟨dX11_write_6, rfl⟩ kX11_428 rfl q_45 rfl (Nat.le_of_ble_eq_true rfl) (Nat.le_of_ble_eq_true rfl) (cS_ref1 hsz (fun r hr => ?_))
  refine G_istore_4 (nx := 11) ⟨dX11_write_9, rfl⟩ rfl rfl ?_
  refine G_iload_4 (nx := 13) ⟨dX11_write_11, rfl⟩ ?_
  refine G_ifeq (tgt := 19) (nx := 16) ⟨dX11_write_13, rfl⟩ rfl (fun c_13 => ?_) (fun c_13 => ?_)
  · obtain ⟨s0, z, i0, es, hs0, h47, hz, hz60, ei, hi⟩ : ∃ s0 z i0, s = nI s0 ∧ s0 < 4 ∧ ¬ I 47 s0 = -1 ∧ I 48 s0 = nI z ∧ z ≤ 60 ∧ i = nI i0 ∧ i0 < z := by
      rcases hr with ⟨h1, h2⟩ | ⟨s0, h1, h2, h3, h4⟩ | ⟨s0, z, h1, h2, h3, h4, h5, h6, h7⟩ | ⟨s0, z, i0, h1, h2, h3, h4, h5, h6, h7, h8⟩
      · rw [h2] at c_13; exact absurd c_13 (by decide)
      · rw [h4] at c_13; exact absurd c_13 (by decide)
      · rw [h7] at c_13; exact absurd c_13 (by decide)
      · exact ⟨s0, z, i0, h1, h2, h3, h4, h5, h6, h7⟩
    subst es
    subst ei
    have hin4 := in4 hs0
    have ecs := cl_nI (p := s0) (by omega)
    have hi60 := in60 (show i0 < 60 by omega)
    have eci := cl_nI (p := i0) (by omega)
    refine G_aload_0 (nx := 20) ⟨dX11_write_19, rfl⟩ ?_
    refine G_getr (nx := 23) (k := 0) (r := 45) ⟨dX11_write_20, rfl⟩ fX11_76 q_0 yr_11_10 (r_0_10 _) ?_
    refine G_iload_1 (nx := 24) ⟨dX11_write_23, rfl⟩ ?_
    refine G_iload_2 (nx := 25) ⟨dX11_write_24, rfl⟩ ?_
    refine G_iload_3 (nx := 26) ⟨dX11_write_25, rfl⟩ ?_
    refine G_cvv3 (nx := 29) ⟨dX11_write_26, rfl⟩ kX11_358 rfl q_45 rfl (Nat.le_of_ble_eq_true rfl) (Nat.le_of_ble_eq_true rfl) (cS_put hs0 (show i0 < 60 by omega) ?_)
    refine G_iconst (nx := 30) ⟨dX11_write_29, rfl⟩ ci_1 ?_
    refine G_iret ⟨dX11_write_30, rfl⟩ rfl ?_
    exact hk s0 z i0 rfl hs0 h47 hz hz60 rfl hi
  · refine G_iload_4 (nx := 18) ⟨dX11_write_16, rfl⟩ ?_
    refine G_iret ⟨dX11_write_18, rfl⟩ rfl ?_
    rcases hr with ⟨h1, h2⟩ | ⟨s0, h1, h2, h3, h4⟩ | ⟨s0, z, h1, h2, h3, h4, h5, h6, h7⟩ | ⟨s0, z, i0, h1, h2, h3, h4, h5, h6, h7, h8⟩
    · rw [h2]; exact hk1 h1
    · rw [h4]; exact hk2 s0 h1 h2 h3
    · rw [h7]; exact hk3 s0 z h1 h2 h3 h4 h5 h6
    · exact absurd h8 c_13

theorem cX_item {s i : Int32} (hsz : SZc I) (hk1 : inR s 0 3 = false → K (.int (-2)) I J (rX g)) (hk2 : ∀ s0, s = nI s0 → s0 < 4 → I 47 s0 = -1 → K (.int (-11)) I J (rX g)) (hk3 : ∀ s0 z, s = nI s0 → s0 < 4 → ¬ I 47 s0 = -1 → I 48 s0 = nI z → z ≤ 60 → ptB z i = false → K (.int (-12)) I J (rX g)) (hk : ∀ s0 z i0, s = nI s0 → s0 < 4 → ¬ I 47 s0 = -1 → I 48 s0 = nI z → z ≤ 60 → i = nI i0 → i0 < z → K (.int (I (49 + s0) i0)) I J (rX g)) : G l (d + 40) mX11_item K 0 [.ref 0, .int s, .int i, UU] [] I J (rX g) := by
  refine G_aload_0 (nx := 1) ⟨dX11_item_0, rfl⟩ ?_
  refine G_getr (nx := 4) (k := 0) (r := 45) ⟨dX11_item_1, rfl⟩ fX11_76 q_0 yr_11_10 (r_0_10 _) ?_
  refine G_iload_1 (nx := 5) ⟨dX11_item_4, rfl⟩ ?_
  refine G_iload_2 (nx := 6) ⟨dX11_item_5, rfl⟩ ?_
  refine G_cv2 (nx := 9) ⟨dX11_item_6, rfl⟩ kX11_428 rfl q_45 rfl (Nat.le_of_ble_eq_true rfl) (Nat.le_of_ble_eq_true rfl) (cS_ref1 hsz (fun r hr => ?_))
  refine G_istore_3 (nx := 10) ⟨dX11_item_9, rfl⟩ rfl rfl ?_
  refine G_iload_3 (nx := 11) ⟨dX11_item_10, rfl⟩ ?_
  refine G_ifeq (tgt := 16) (nx := 14) ⟨dX11_item_11, rfl⟩ rfl (fun c_11 => ?_) (fun c_11 => ?_)
  · obtain ⟨s0, z, i0, es, hs0, h47, hz, hz60, ei, hi⟩ : ∃ s0 z i0, s = nI s0 ∧ s0 < 4 ∧ ¬ I 47 s0 = -1 ∧ I 48 s0 = nI z ∧ z ≤ 60 ∧ i = nI i0 ∧ i0 < z := by
      rcases hr with ⟨h1, h2⟩ | ⟨s0, h1, h2, h3, h4⟩ | ⟨s0, z, h1, h2, h3, h4, h5, h6, h7⟩ | ⟨s0, z, i0, h1, h2, h3, h4, h5, h6, h7, h8⟩
      · rw [h2] at c_11; exact absurd c_11 (by decide)
      · rw [h4] at c_11; exact absurd c_11 (by decide)
      · rw [h7] at c_11; exact absurd c_11 (by decide)
      · exact ⟨s0, z, i0, h1, h2, h3, h4, h5, h6, h7⟩
    subst es
    subst ei
    have hin4 := in4 hs0
    have ecs := cl_nI (p := s0) (by omega)
    have hi60 := in60 (show i0 < 60 by omega)
    have eci := cl_nI (p := i0) (by omega)
    refine G_aload_0 (nx := 17) ⟨dX11_item_16, rfl⟩ ?_
    refine G_getr (nx := 20) (k := 0) (r := 45) ⟨dX11_item_17, rfl⟩ fX11_76 q_0 yr_11_10 (r_0_10 _) ?_
    refine G_getr (nx := 23) (k := 45) (r := 46) ⟨dX11_item_20, rfl⟩ fX11_309 q_45 yr_7_0 (r_45_0 _) ?_
    refine G_iload_1 (nx := 24) ⟨dX11_item_23, rfl⟩ ?_
    refine G_aald (nx := 25) (k := 46) (r := (49 + s0)) ⟨dX11_item_24, rfl⟩ q_46 (by first | assumption | decide | (unfold vp_in; decide)) (rrow hs0 _) ?_
    refine G_iload_2 (nx := 26) ⟨dX11_item_25, rfl⟩ ?_
    refine G_iald (nx := 27) (k := (49 + s0)) ⟨dX11_item_26, rfl⟩ (qrow hs0) (by first | assumption | decide | (unfold vp_in; decide)) ?_
    rw [eci]
    refine G_iret ⟨dX11_item_27, rfl⟩ rfl ?_
    exact hk s0 z i0 rfl hs0 h47 hz hz60 rfl hi
  · refine G_iload_3 (nx := 15) ⟨dX11_item_14, rfl⟩ ?_
    refine G_iret ⟨dX11_item_15, rfl⟩ rfl ?_
    rcases hr with ⟨h1, h2⟩ | ⟨s0, h1, h2, h3, h4⟩ | ⟨s0, z, h1, h2, h3, h4, h5, h6, h7⟩ | ⟨s0, z, i0, h1, h2, h3, h4, h5, h6, h7, h8⟩
    · rw [h2]; exact hk1 h1
    · rw [h4]; exact hk2 s0 h1 h2 h3
    · rw [h7]; exact hk3 s0 z h1 h2 h3 h4 h5 h6
    · exact absurd h8 c_11

theorem cX_shelf {h q p : Int32} (hX : XG I 1 4 n gr) (hk1 : shB n h q p = false → K (.int (-2)) I J (rX g)) (hk : ∀ h0, h = nI h0 → h0 < 4 → shB n h q p = true → K (.int 1) (if q = 0 then w2 (w2 I 54 h0 1) 56 h0 p else if q = 1 then w2 (w2 (w2 I 54 h0 (if I 47 p.toNatClampNeg = -1 then 0 else 2)) 55 h0 (I 47 p.toNatClampNeg)) 56 h0 (I 48 p.toNatClampNeg) else w2 I 54 h0 0) J (rX g)) : G l (d + 40) mX11_shelf K 0 [.ref 0, .int h, .int q, .int p] [] I J (rX g) := by
  refine G_aload_0 (nx := 1) ⟨dX11_shelf_0, rfl⟩ ?_
  refine G_getr (nx := 4) (k := 0) (r := 53) ⟨dX11_shelf_1, rfl⟩ fX11_83 q_0 yr_11_11 (r_0_11 _) ?_
  refine G_iload_1 (nx := 5) ⟨dX11_shelf_4, rfl⟩ ?_
  refine G_cv1 (nx := 8) ⟨dX11_shelf_5, rfl⟩ kX11_449 rfl q_53 rfl (Nat.le_of_ble_eq_true rfl) (Nat.le_of_ble_eq_true rfl) (cV_has ?_)
  refine G_ifeq (tgt := 20) (nx := 11) ⟨dX11_shelf_8, rfl⟩ rfl (fun c_8 => ?_) (fun c_8 => ?_)
  · refine G_bipush (nx := 22) ⟨dX11_shelf_20, rfl⟩ cb_m2 ?_
    refine G_iret ⟨dX11_shelf_22, rfl⟩ rfl ?_
    rw [bi_0] at c_8
    exact hk1 (by unfold shB; simp [c_8])
  · rw [bi_n0] at c_8
    obtain ⟨s0, hs0, es⟩ := s_ex c_8
    subst es
    have hin4 := in4 hs0
    have ecs := cl_nI (p := s0) (by omega)
    refine G_iload_2 (nx := 12) ⟨dX11_shelf_11, rfl⟩ ?_
    refine G_iconst (nx := 13) ⟨dX11_shelf_12, rfl⟩ ci_0 ?_
    refine G_iconst (nx := 14) ⟨dX11_shelf_13, rfl⟩ ci_2 ?_
    refine G_cs3 (nx := 17) ⟨dX11_shelf_14, rfl⟩ kX11_126 rfl rfl (Nat.le_of_ble_eq_true rfl) (Nat.le_of_ble_eq_true rfl) (cX_within ?_)
    refine G_ifne (tgt := 23) (nx := 20) ⟨dX11_shelf_17, rfl⟩ rfl (fun c_17 => ?_) (fun c_17 => ?_)
    · rw [bi_n0] at c_17
      refine G_iload_2 (nx := 24) ⟨dX11_shelf_23, rfl⟩ ?_
      refine G_ifne (tgt := 53) (nx := 27) ⟨dX11_shelf_24, rfl⟩ rfl (fun c_24 => ?_) (fun c_24 => ?_)
      · refine G_iload_2 (nx := 54) ⟨dX11_shelf_53, rfl⟩ ?_
        refine G_iconst (nx := 55) ⟨dX11_shelf_54, rfl⟩ ci_1 ?_
        refine G_icmpne (tgt := 101) (nx := 58) ⟨dX11_shelf_55, rfl⟩ rfl (fun c_55 => ?_) (fun c_55 => ?_)
        · refine G_aload_0 (nx := 102) ⟨dX11_shelf_101, rfl⟩ ?_
          refine G_getr (nx := 105) (k := 0) (r := 53) ⟨dX11_shelf_102, rfl⟩ fX11_83 q_0 yr_11_11 (r_0_11 _) ?_
          refine G_iload_1 (nx := 106) ⟨dX11_shelf_105, rfl⟩ ?_
          refine G_cvv1 (nx := 109) ⟨dX11_shelf_106, rfl⟩ kX11_457 rfl q_53 rfl (Nat.le_of_ble_eq_true rfl) (Nat.le_of_ble_eq_true rfl) (cV_none hs0 ?_)
          refine G_iconst (nx := 110) ⟨dX11_shelf_109, rfl⟩ ci_1 ?_
          refine G_iret ⟨dX11_shelf_110, rfl⟩ rfl ?_
          refine K_I ?_ (hk s0 rfl hs0 (by unfold shB; simp [c_8, c_17, c_24, c_55]))
          rw [if_neg c_24, if_neg c_55]
        · refine G_aload_0 (nx := 59) ⟨dX11_shelf_58, rfl⟩ ?_
          refine G_getr (nx := 62) (k := 0) (r := 45) ⟨dX11_shelf_59, rfl⟩ fX11_76 q_0 yr_11_10 (r_0_10 _) ?_
          refine G_iload_3 (nx := 63) ⟨dX11_shelf_62, rfl⟩ ?_
          refine G_cv1 (nx := 66) ⟨dX11_shelf_63, rfl⟩ kX11_302 rfl q_45 rfl (Nat.le_of_ble_eq_true rfl) (Nat.le_of_ble_eq_true rfl) (cS_has ?_)
          refine G_ifne (tgt := 72) (nx := 69) ⟨dX11_shelf_66, rfl⟩ rfl (fun c_66 => ?_) (fun c_66 => ?_)
          · rw [bi_n0] at c_66
            obtain ⟨p0, hp0, ep⟩ := s_ex c_66
            have hip := in4 hp0
            rw [← ep] at hip
            refine G_aload_0 (nx := 73) ⟨dX11_shelf_72, rfl⟩ ?_
            refine G_getr (nx := 76) (k := 0) (r := 53) ⟨dX11_shelf_73, rfl⟩ fX11_83 q_0 yr_11_11 (r_0_11 _) ?_
            refine G_iload_1 (nx := 77) ⟨dX11_shelf_76, rfl⟩ ?_
            refine G_aload_0 (nx := 78) ⟨dX11_shelf_77, rfl⟩ ?_
            refine G_getr (nx := 81) (k := 0) (r := 45) ⟨dX11_shelf_78, rfl⟩ fX11_76 q_0 yr_11_10 (r_0_10 _) ?_
            refine G_getr (nx := 84) (k := 45) (r := 47) ⟨dX11_shelf_81, rfl⟩ fX11_431 q_45 yr_7_1 (r_45_1 _) ?_
            refine G_iload_3 (nx := 85) ⟨dX11_shelf_84, rfl⟩ ?_
            refine G_iald (nx := 86) (k := 47) ⟨dX11_shelf_85, rfl⟩ q_47 (by first | assumption | decide | (unfold vp_in; decide)) ?_
            refine G_aload_0 (nx := 87) ⟨dX11_shelf_86, rfl⟩ ?_
            refine G_getr (nx := 90) (k := 0) (r := 45) ⟨dX11_shelf_87, rfl⟩ fX11_76 q_0 yr_11_10 (r_0_10 _) ?_
            refine G_getr (nx := 93) (k := 45) (r := 48) ⟨dX11_shelf_90, rfl⟩ fX11_306 q_45 yr_7_2 (r_45_2 _) ?_
            refine G_iload_3 (nx := 94) ⟨dX11_shelf_93, rfl⟩ ?_
            refine G_iald (nx := 95) (k := 48) ⟨dX11_shelf_94, rfl⟩ q_48 (by first | assumption | decide | (unfold vp_in; decide)) ?_
            refine G_cvv3 (nx := 98) ⟨dX11_shelf_95, rfl⟩ kX11_454 rfl q_53 rfl (Nat.le_of_ble_eq_true rfl) (Nat.le_of_ble_eq_true rfl) (cV_row hs0 ?_)
            refine G_goto (tgt := 109) ⟨dX11_shelf_98, rfl⟩ rfl ?_
            refine G_iconst (nx := 110) ⟨dX11_shelf_109, rfl⟩ ci_1 ?_
            refine G_iret ⟨dX11_shelf_110, rfl⟩ rfl ?_
            refine K_I ?_ (hk s0 rfl hs0 (by unfold shB; rw [c_8, c_17, c_66, decide_eq_false c_24]; simp))
            rw [if_neg c_24, if_pos c_55]
          · refine G_bipush (nx := 71) ⟨dX11_shelf_69, rfl⟩ cb_m2 ?_
            refine G_iret ⟨dX11_shelf_71, rfl⟩ rfl ?_
            rw [bi_0] at c_66
            exact hk1 (by unfold shB; simp [c_8, c_17, c_24, c_55, c_66])
      · refine G_aload_0 (nx := 28) ⟨dX11_shelf_27, rfl⟩ ?_
        refine G_getr (nx := 31) (k := 0) (r := 1) ⟨dX11_shelf_28, rfl⟩ fX11_10 q_0 yr_11_0 (r_0_0 _) ?_
        refine G_iload_3 (nx := 32) ⟨dX11_shelf_31, rfl⟩ ?_
        refine G_cv1 (nx := 35) ⟨dX11_shelf_32, rfl⟩ kX11_137 rfl q_1 rfl (Nat.le_of_ble_eq_true rfl) (Nat.le_of_ble_eq_true rfl) (cN_has nt1 hX ?_)
        refine G_ifne (tgt := 41) (nx := 38) ⟨dX11_shelf_35, rfl⟩ rfl (fun c_35 => ?_) (fun c_35 => ?_)
        · rw [bi_n0] at c_35
          refine G_aload_0 (nx := 42) ⟨dX11_shelf_41, rfl⟩ ?_
          refine G_getr (nx := 45) (k := 0) (r := 53) ⟨dX11_shelf_42, rfl⟩ fX11_83 q_0 yr_11_11 (r_0_11 _) ?_
          refine G_iload_1 (nx := 46) ⟨dX11_shelf_45, rfl⟩ ?_
          refine G_iload_3 (nx := 47) ⟨dX11_shelf_46, rfl⟩ ?_
          refine G_cvv2 (nx := 50) ⟨dX11_shelf_47, rfl⟩ kX11_450 rfl q_53 rfl (Nat.le_of_ble_eq_true rfl) (Nat.le_of_ble_eq_true rfl) (cV_point hs0 ?_)
          refine G_goto (tgt := 109) ⟨dX11_shelf_50, rfl⟩ rfl ?_
          refine G_iconst (nx := 110) ⟨dX11_shelf_109, rfl⟩ ci_1 ?_
          refine G_iret ⟨dX11_shelf_110, rfl⟩ rfl ?_
          refine K_I ?_ (hk s0 rfl hs0 (by unfold shB; rw [c_8, c_17, c_35, decide_eq_true c_24]; simp [c_24]))
          rw [if_pos c_24]
        · refine G_bipush (nx := 40) ⟨dX11_shelf_38, rfl⟩ cb_m2 ?_
          refine G_iret ⟨dX11_shelf_40, rfl⟩ rfl ?_
          rw [bi_0] at c_35
          exact hk1 (by unfold shB; simp [c_8, c_17, c_24, c_35])
    · refine G_bipush (nx := 22) ⟨dX11_shelf_20, rfl⟩ cb_m2 ?_
      refine G_iret ⟨dX11_shelf_22, rfl⟩ rfl ?_
      rw [bi_0] at c_17
      exact hk1 (by unfold shB; simp [c_8, c_17])

theorem cX_image (hk : ∀ (I' : AI), I' 11 4 = I 1 4 → (∀ j, j < 12 → I' 12 j = I 2 j ∧ I' 13 j = I 3 j ∧ I' 14 j = I 4 j) → I' 0 15 = I 0 14 → I' 0 16 = 1 → sb fIm I I' → K (.int (I 1 4)) I' J (rX g)) : G l (d + 40) mX11_image K 0 [.ref 0] [] I J (rX g) := by
  refine G_aload_0 (nx := 1) ⟨dX11_image_0, rfl⟩ ?_
  refine G_getr (nx := 4) (k := 0) (r := 11) ⟨dX11_image_1, rfl⟩ fX11_19 q_0 yr_11_2 (r_0_2 _) ?_
  refine G_aload_0 (nx := 5) ⟨dX11_image_4, rfl⟩ ?_
  refine G_getr (nx := 8) (k := 0) (r := 1) ⟨dX11_image_5, rfl⟩ fX11_10 q_0 yr_11_0 (r_0_0 _) ?_
  refine G_cvv1 (nx := 11) ⟨dX11_image_8, rfl⟩ kX11_365 rfl q_11 rfl (Nat.le_of_ble_eq_true rfl) (Nat.le_of_ble_eq_true rfl) (cN_become nt11 nt1 (Or.inr (by decide)) (fun I1 e4 e12 hs1 => ?_))
  refine G_aload_0 (nx := 12) ⟨dX11_image_11, rfl⟩ ?_
  refine G_aload_0 (nx := 13) ⟨dX11_image_12, rfl⟩ ?_
  refine G_geti (nx := 16) (k := 0) ⟨dX11_image_13, rfl⟩ fX11_97 q_0 yi_11_14 ?_
  refine G_puti (nx := 19) (k := 0) ⟨dX11_image_16, rfl⟩ pX11_101 q_0 yt_11_15 ?_
  refine G_aload_0 (nx := 20) ⟨dX11_image_19, rfl⟩ ?_
  refine G_iconst (nx := 21) ⟨dX11_image_20, rfl⟩ ci_1 ?_
  refine G_putz (nx := 24) (k := 0) ⟨dX11_image_21, rfl⟩ pX11_104 q_0 yt_11_16 (by exact Or.inr rfl) ?_
  refine G_aload_0 (nx := 25) ⟨dX11_image_24, rfl⟩ ?_
  refine G_getr (nx := 28) (k := 0) (r := 1) ⟨dX11_image_25, rfl⟩ fX11_10 q_0 yr_11_0 (r_0_0 _) ?_
  refine G_geti (nx := 31) (k := 1) ⟨dX11_image_28, rfl⟩ fX11_115 q_1 yi_4_4 ?_
  refine G_iret ⟨dX11_image_31, rfl⟩ rfl ?_
  rw [w2_row _ _ _ _ (show ¬ 1 = 0 by decide), w2_row _ _ _ _ (show ¬ 1 = 0 by decide), hs1 1 4 rfl]
  refine hk _ ?_ ?_ ?_ (by rw [w2_at]) ?_
  · rw [w2_row _ _ _ _ (show ¬ 11 = 0 by decide), w2_row _ _ _ _ (show ¬ 11 = 0 by decide)]; exact e4
  · intro j hj
    rw [w2_row _ _ _ _ (show ¬ 12 = 0 by decide), w2_row _ _ _ _ (show ¬ 12 = 0 by decide), w2_row _ _ _ _ (show ¬ 13 = 0 by decide), w2_row _ _ _ _ (show ¬ 13 = 0 by decide), w2_row _ _ _ _ (show ¬ 14 = 0 by decide), w2_row _ _ _ _ (show ¬ 14 = 0 by decide)]
    exact e12 j hj
  · rw [w2_ne _ _ _ _ (by decide), w2_at, hs1 0 14 rfl]
  · exact (((hs1.mono (fun x y h => by unfold fIm at h; rw [Bool.or_eq_false_iff] at h; exact h.1))).w (by decide)).w (by decide)

theorem cX_back (hk1 : I 0 16 = 0 → K (.int (-3)) I J (rX g)) (hk : ∀ (I' : AI), ¬ I 0 16 = 0 → I' 1 4 = I 11 4 → (∀ j, j < 12 → I' 2 j = I 12 j ∧ I' 3 j = I 13 j ∧ I' 4 j = I 14 j) → I' 0 14 = I 0 15 → sb fDl I I' → K (.int (I' 1 4)) I' J (rX g)) : G l (d + 40) mX11_back K 0 [.ref 0] [] I J (rX g) := by
  refine G_aload_0 (nx := 1) ⟨dX11_back_0, rfl⟩ ?_
  refine G_geti (nx := 4) (k := 0) ⟨dX11_back_1, rfl⟩ fX11_104 q_0 yi_11_16 ?_
  refine G_ifne (tgt := 10) (nx := 7) ⟨dX11_back_4, rfl⟩ rfl (fun c_4 => ?_) (fun c_4 => ?_)
  · refine G_aload_0 (nx := 11) ⟨dX11_back_10, rfl⟩ ?_
    refine G_getr (nx := 14) (k := 0) (r := 1) ⟨dX11_back_11, rfl⟩ fX11_10 q_0 yr_11_0 (r_0_0 _) ?_
    refine G_aload_0 (nx := 15) ⟨dX11_back_14, rfl⟩ ?_
    refine G_getr (nx := 18) (k := 0) (r := 11) ⟨dX11_back_15, rfl⟩ fX11_19 q_0 yr_11_2 (r_0_2 _) ?_
    refine G_cvv1 (nx := 21) ⟨dX11_back_18, rfl⟩ kX11_365 rfl q_1 rfl (Nat.le_of_ble_eq_true rfl) (Nat.le_of_ble_eq_true rfl) (cN_become nt1 nt11 (Or.inl (by decide)) (fun I1 e4 e12 hs1 => ?_))
    refine G_aload_0 (nx := 22) ⟨dX11_back_21, rfl⟩ ?_
    refine G_aload_0 (nx := 23) ⟨dX11_back_22, rfl⟩ ?_
    refine G_geti (nx := 26) (k := 0) ⟨dX11_back_23, rfl⟩ fX11_101 q_0 yi_11_15 ?_
    refine G_puti (nx := 29) (k := 0) ⟨dX11_back_26, rfl⟩ pX11_97 q_0 yt_11_14 ?_
    refine G_aload_0 (nx := 30) ⟨dX11_back_29, rfl⟩ ?_
    refine G_getr (nx := 33) (k := 0) (r := 1) ⟨dX11_back_30, rfl⟩ fX11_10 q_0 yr_11_0 (r_0_0 _) ?_
    refine G_geti (nx := 36) (k := 1) ⟨dX11_back_33, rfl⟩ fX11_115 q_1 yi_4_4 ?_
    refine G_iret ⟨dX11_back_36, rfl⟩ rfl ?_
    refine hk _ c_4 ?_ ?_ (by rw [w2_at, hs1 0 15 rfl]) ?_
    · rw [w2_row _ _ _ _ (show ¬ 1 = 0 by decide)]; exact e4
    · intro j hj
      rw [w2_row _ _ _ _ (show ¬ 2 = 0 by decide), w2_row _ _ _ _ (show ¬ 3 = 0 by decide), w2_row _ _ _ _ (show ¬ 4 = 0 by decide)]
      exact e12 j hj
    · exact ((hs1.mono (fun x y h => by unfold fDl at h; rw [Bool.or_eq_false_iff] at h; exact h.1))).w (by decide)
  · refine G_bipush (nx := 9) ⟨dX11_back_7, rfl⟩ cb_m3 ?_
    refine G_iret ⟨dX11_back_9, rfl⟩ rfl ?_
    exact hk1 c_4

end X94
