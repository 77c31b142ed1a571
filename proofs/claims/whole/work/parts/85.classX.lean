
abbrev T32 : Type := Int32 × Int32 × Int64 × Int64
def mnI (x y : Int32) : Int32 := if y < x then y else x
def moF (x : T32) (t : Int32) : Int64 := (if x.1 = t then x.2.2.1 else 0) + (if x.2.1 = t then x.2.2.2 else 0)
def cb32 (s x : T32) : T32 := (s.1 + mnI x.1 x.2.1, s.2.1 + x.1, s.2.2.1 * moF x (mnI x.1 x.2.1), s.2.2.2 * x.2.2.1)
/-- from the last node to the first each is given to the one that it stands in -/
def tpu {V : Type} (is : Nat → Int32) (cb : V → V → V) : Nat → (Nat → V) → Nat → V
  | 0, B => B
  | v + 1, B => tpu is cb v (fun j => if j = (is (v + 1)).toNatClampNeg then cb (B j) (B (v + 1)) else B j)
def suR (I : AI) (J : AJ) (e f j1 j2 c : Nat) (x : T32) : Prop := I e c = x.1 ∧ I f c = x.2.1 ∧ J j1 c = x.2.2.1 ∧ J j2 c = x.2.2.2
def in32 (I : AI) (a b c m : Nat) (by0 : Int32) (v : Nat) : T32 := (if by0 = 2 then cst (I a v) (I b v) (nI (ltN (I c) m v)) (nI v) else by0, 0, 1, 1)
def fEF (e f x _ : Nat) : Bool := x == e || x == f
theorem fEF_e {e f y : Nat} : fEF e f e y = true := by simp [fEF]
theorem fEF_f {e f y : Nat} : fEF e f f y = true := by simp [fEF]
theorem fEF_n {e f x y : Nat} (h1 : ¬ x = e) (h2 : ¬ x = f) : fEF e f x y = false := by simp [fEF, h1, h2]
section X85
variable {l : Launch} {d : Nat} {K : AK} {I : AI} {J : AJ} {g : Bool} {R : AR}

theorem lJ_fillL {k n : Nat} {v : Int64} {x1 : Value} (hk0 : isJ k n) (hn : n < 2 ^ 31) (hk : K .null I (wr J k (fun j => if j < n then v else J k j)) R) : ∀ (t i : Nat) (J1 : AJ), n - i = t → i ≤ n → J1 = wr J k (fun j => if j < i then v else J k j) → G l d mJ7_fill_d0a16 K 6 [.ref k, .long v, UU, .int (nI i), .int (nI n)] [] I J1 R := by
  intro t
  induction t using Nat.strongRecOn with
  | _ t ih =>
  intro i J1 hit hin hJ
  have eci := cl_nI (p := i) (by omega)
  refine G_iload_3 (nx := 7) ⟨dJ7_fill_d0a16_6, rfl⟩ ?_
  refine G_iload_4 (nx := 9) ⟨dJ7_fill_d0a16_7, rfl⟩ ?_
  refine G_icmpge (tgt := 22) (nx := 12) ⟨dJ7_fill_d0a16_9, rfl⟩ rfl (fun c_9 => ?_) (fun c_9 => ?_)
  · refine G_vret ⟨dJ7_fill_d0a16_22, rfl⟩ rfl ?_
    rw [nI_le_iff (by omega) (by omega)] at c_9
    have e : i = n := by omega
    subst e
    rw [hJ]
    exact hk
  · rw [nI_le_iff (by omega) (by omega)] at c_9
    have hi : i < n := by omega
    have hvi : vp_in (nI i) n := vp_in_nI hi hn
    refine G_aload_0 (nx := 13) ⟨dJ7_fill_d0a16_12, rfl⟩ ?_
    refine G_iload_3 (nx := 14) ⟨dJ7_fill_d0a16_13, rfl⟩ ?_
    refine G_lload_1 (nx := 15) ⟨dJ7_fill_d0a16_14, rfl⟩ ?_
    refine G_last (nx := 16) (k := k) ⟨dJ7_fill_d0a16_15, rfl⟩ hk0 (by first | assumption | decide | (unfold vp_in; decide)) ?_
    rw [eci]
    refine G_iinc_3 (nx := 19) ⟨dJ7_fill_d0a16_16, rfl⟩ ci_1 rfl ?_
    refine G_goto (tgt := 6) ⟨dJ7_fill_d0a16_19, rfl⟩ rfl ?_
    refine G_L (by rw [nI_1]) (ih (n - (i + 1)) (by omega) (i + 1) _ rfl (by omega) ?_)
    rw [hJ]
    funext a b
    by_cases ha : a = k
    · subst ha
      rw [wr_at]
      by_cases hb : b = i
      · rw [hb, w2_at, if_pos (by omega)]
      · rw [w2_ne _ _ _ _ (by omega), wr_at]
        by_cases hbi : b < i
        · rw [if_pos hbi, if_pos (by omega)]
        · rw [if_neg hbi, if_neg (by omega)]
    · rw [w2_row _ _ _ _ ha, wr_ne _ _ _ ha, wr_ne _ _ _ ha]

theorem cJ_fillL {k n : Nat} {v : Int64} (hk0 : isJ k n) (hn : n < 2 ^ 31) (hk : K .null I (wr J k (fun j => if j < n then v else J k j)) R) : G l d mJ7_fill_d0a16 K 0 [.ref k, .long v, UU, UU, UU] [] I J R := by
  refine G_iconst (nx := 1) ⟨dJ7_fill_d0a16_0, rfl⟩ ci_0 ?_
  refine G_istore_3 (nx := 2) ⟨dJ7_fill_d0a16_1, rfl⟩ rfl rfl ?_
  refine G_aload_0 (nx := 3) ⟨dJ7_fill_d0a16_2, rfl⟩ ?_
  refine G_alenJ (nx := 4) (k := k) (v := nI n) ⟨dJ7_fill_d0a16_3, rfl⟩ hk0 (by rfl) ?_
  refine G_istore_4 (nx := 6) ⟨dJ7_fill_d0a16_4, rfl⟩ rfl rfl ?_
  refine G_L (by rw [← nI_0]) (lJ_fillL (x1 := UU) hk0 hn hk _ 0 J rfl (by omega) ?_)
  funext a b
  by_cases ha : a = k
  · subst ha; rw [wr_at, if_neg (by omega)]
  · rw [wr_ne _ _ _ ha]

theorem cT_manyOf {v : Nat} {t : Int32} {x : T32} {o a b c e f j1 j2 j3 : Nat} (hT : TT o a b c e f j1 j2 j3) (hv : v < 60) (hx : suR I J e f j1 j2 v x) (hk : K (.long (moF x t)) I J (rX g)) : G l d mX10_manyOf K 0 [.ref o, .int (nI v), .int t] [] I J (rX g) := by
  have hiv := in60 (p := v) hv
  have ecv := cl_nI (p := v) (by omega)
  obtain ⟨h1, h2, h3, h4⟩ := hx
  refine G_aload_0 (nx := 1) ⟨dX10_manyOf_0, rfl⟩ ?_
  refine G_getr (nx := 4) (k := o) (r := e) ⟨dX10_manyOf_1, rfl⟩ fX10_21 hT.1 yr_10_3 (hT.2.2.2.2.2.2.2.2.2.1 _).2.2.2.1 ?_
  refine G_iload_1 (nx := 5) ⟨dX10_manyOf_4, rfl⟩ ?_
  refine G_iald (nx := 6) (k := e) ⟨dX10_manyOf_5, rfl⟩ hT.2.2.2.2.1 (by first | assumption | decide | (unfold vp_in; decide)) ?_
  rw [ecv]
  refine G_iload_2 (nx := 7) ⟨dX10_manyOf_6, rfl⟩ ?_
  refine G_icmpne (tgt := 19) (nx := 10) ⟨dX10_manyOf_7, rfl⟩ rfl (fun c_7 => ?_) (fun c_7 => ?_)
  · refine G_lconst (nx := 20) (v := 0) ⟨dX10_manyOf_19, rfl⟩ (by decide) ?_
    refine G_aload_0 (nx := 21) ⟨dX10_manyOf_20, rfl⟩ ?_
    refine G_getr (nx := 24) (k := o) (r := f) ⟨dX10_manyOf_21, rfl⟩ fX10_24 hT.1 yr_10_4 (hT.2.2.2.2.2.2.2.2.2.1 _).2.2.2.2.1 ?_
    refine G_iload_1 (nx := 25) ⟨dX10_manyOf_24, rfl⟩ ?_
    refine G_iald (nx := 26) (k := f) ⟨dX10_manyOf_25, rfl⟩ hT.2.2.2.2.2.1 (by first | assumption | decide | (unfold vp_in; decide)) ?_
    rw [ecv]
    refine G_iload_2 (nx := 27) ⟨dX10_manyOf_26, rfl⟩ ?_
    refine G_icmpne (tgt := 39) (nx := 30) ⟨dX10_manyOf_27, rfl⟩ rfl (fun c_27 => ?_) (fun c_27 => ?_)
    · refine G_lconst (nx := 40) (v := 0) ⟨dX10_manyOf_39, rfl⟩ (by decide) ?_
      refine G_ladd (nx := 41) ⟨dX10_manyOf_40, rfl⟩ ?_
      refine G_lret ⟨dX10_manyOf_41, rfl⟩ rfl ?_
      unfold moF at hk
      rw [if_neg (by rw [← h1]; exact c_7), if_neg (by rw [← h2]; exact c_27)] at hk
      exact hk
    · refine G_aload_0 (nx := 31) ⟨dX10_manyOf_30, rfl⟩ ?_
      refine G_getr (nx := 34) (k := o) (r := j2) ⟨dX10_manyOf_31, rfl⟩ fX10_31 hT.1 yr_10_6 (hT.2.2.2.2.2.2.2.2.2.1 _).2.2.2.2.2.2.1 ?_
      refine G_iload_1 (nx := 35) ⟨dX10_manyOf_34, rfl⟩ ?_
      refine G_lald (nx := 36) (k := j2) ⟨dX10_manyOf_35, rfl⟩ hT.2.2.2.2.2.2.2.1 (by first | assumption | decide | (unfold vp_in; decide)) ?_
      rw [ecv, h4]
      refine G_goto (tgt := 40) ⟨dX10_manyOf_36, rfl⟩ rfl ?_
      refine G_ladd (nx := 41) ⟨dX10_manyOf_40, rfl⟩ ?_
      refine G_lret ⟨dX10_manyOf_41, rfl⟩ rfl ?_
      unfold moF at hk
      rw [if_neg (by rw [← h1]; exact c_7), if_pos (by rw [← h2]; exact c_27)] at hk
      exact hk
  · refine G_aload_0 (nx := 11) ⟨dX10_manyOf_10, rfl⟩ ?_
    refine G_getr (nx := 14) (k := o) (r := j1) ⟨dX10_manyOf_11, rfl⟩ fX10_27 hT.1 yr_10_5 (hT.2.2.2.2.2.2.2.2.2.1 _).2.2.2.2.2.1 ?_
    refine G_iload_1 (nx := 15) ⟨dX10_manyOf_14, rfl⟩ ?_
    refine G_lald (nx := 16) (k := j1) ⟨dX10_manyOf_15, rfl⟩ hT.2.2.2.2.2.2.1 (by first | assumption | decide | (unfold vp_in; decide)) ?_
    rw [ecv, h3]
    refine G_goto (tgt := 20) ⟨dX10_manyOf_16, rfl⟩ rfl ?_
    refine G_aload_0 (nx := 21) ⟨dX10_manyOf_20, rfl⟩ ?_
    refine G_getr (nx := 24) (k := o) (r := f) ⟨dX10_manyOf_21, rfl⟩ fX10_24 hT.1 yr_10_4 (hT.2.2.2.2.2.2.2.2.2.1 _).2.2.2.2.1 ?_
    refine G_iload_1 (nx := 25) ⟨dX10_manyOf_24, rfl⟩ ?_
    refine G_iald (nx := 26) (k := f) ⟨dX10_manyOf_25, rfl⟩ hT.2.2.2.2.2.1 (by first | assumption | decide | (unfold vp_in; decide)) ?_
    rw [ecv]
    refine G_iload_2 (nx := 27) ⟨dX10_manyOf_26, rfl⟩ ?_
    refine G_icmpne (tgt := 39) (nx := 30) ⟨dX10_manyOf_27, rfl⟩ rfl (fun c_27 => ?_) (fun c_27 => ?_)
    · refine G_lconst (nx := 40) (v := 0) ⟨dX10_manyOf_39, rfl⟩ (by decide) ?_
      refine G_ladd (nx := 41) ⟨dX10_manyOf_40, rfl⟩ ?_
      refine G_lret ⟨dX10_manyOf_41, rfl⟩ rfl ?_
      unfold moF at hk
      rw [if_pos (by rw [← h1]; exact c_7), if_neg (by rw [← h2]; exact c_27)] at hk
      exact hk
    · refine G_aload_0 (nx := 31) ⟨dX10_manyOf_30, rfl⟩ ?_
      refine G_getr (nx := 34) (k := o) (r := j2) ⟨dX10_manyOf_31, rfl⟩ fX10_31 hT.1 yr_10_6 (hT.2.2.2.2.2.2.2.2.2.1 _).2.2.2.2.2.2.1 ?_
      refine G_iload_1 (nx := 35) ⟨dX10_manyOf_34, rfl⟩ ?_
      refine G_lald (nx := 36) (k := j2) ⟨dX10_manyOf_35, rfl⟩ hT.2.2.2.2.2.2.2.1 (by first | assumption | decide | (unfold vp_in; decide)) ?_
      rw [ecv, h4]
      refine G_goto (tgt := 40) ⟨dX10_manyOf_36, rfl⟩ rfl ?_
      refine G_ladd (nx := 41) ⟨dX10_manyOf_40, rfl⟩ ?_
      refine G_lret ⟨dX10_manyOf_41, rfl⟩ rfl ?_
      unfold moF at hk
      rw [if_pos (by rw [← h1]; exact c_7), if_pos (by rw [← h2]; exact c_27)] at hk
      exact hk

theorem lT_su1 {m : Nat} {by0 : Int32} {o a b c e f j1 j2 j3 : Nat} (hT : TT o a b c e f j1 j2 j3) (hX : XT I o m) (hgo : ∀ (I' : AI) (J' : AJ), (∀ x, x < m → suR I' J' e f j1 j2 x (in32 I a b c m by0 x)) → sb (fEF e f) I I' → G l (d + 3) mX10_sumUp K 57 [.ref o, .int by0, .int (nI m), UU, UU] [] I' J' (rX g)) : ∀ (kk v : Nat) (I1 : AI) (J1 : AJ), m - v = kk → v ≤ m → (∀ x, x < v → suR I1 J1 e f j1 j2 x (in32 I a b c m by0 x)) → sb (fEF e f) I I1 → G l (d + 3) mX10_sumUp K 2 [.ref o, .int by0, .int (nI v), UU, UU] [] I1 J1 (rX g) := by
  obtain ⟨ea, eb, ec, ee, ef, ej1, ej2, ej3⟩ := hT.2.2.2.2.2.2.2.2.2.2
  intro kk
  induction kk using Nat.strongRecOn with
  | _ kk ih =>
  intro v I1 J1 hvk hvm hr hs1
  have hm := hX.2
  have hX1 : XT I1 o m := ⟨by rw [hs1 o 8 (fEF_n (by omega) (by omega))]; exact hX.1, hm⟩
  have ecv := cl_nI (p := v) (by omega)
  have kp : ∀ x y, ¬ x = e → ¬ x = f → I1 x y = I x y := fun x y h1 h2 => hs1 x y (fEF_n h1 h2)
  have hc : I1 c = I c := funext (fun y => kp c y (by omega) (by omega))
  refine G_iload_2 (nx := 3) ⟨dX10_sumUp_2, rfl⟩ ?_
  refine G_aload_0 (nx := 4) ⟨dX10_sumUp_3, rfl⟩ ?_
  refine G_geti (nx := 7) (k := o) ⟨dX10_sumUp_4, rfl⟩ fX10_37 hT.1 yi_10_8 ?_
  rw [hX1.1]
  refine G_icmpge (tgt := 57) (nx := 10) ⟨dX10_sumUp_7, rfl⟩ rfl (fun c_7 => ?_) (fun c_7 => ?_)
  · rw [nI_le_iff (by omega) (by omega)] at c_7
    have e0 : v = m := by omega
    subst e0
    exact hgo I1 J1 hr hs1
  · rw [nI_le_iff (by omega) (by omega)] at c_7
    have hvl : v < m := by omega
    have hiv := in60 (p := v) (by omega)
    refine G_aload_0 (nx := 11) ⟨dX10_sumUp_10, rfl⟩ ?_
    refine G_getr (nx := 14) (k := o) (r := e) ⟨dX10_sumUp_11, rfl⟩ fX10_21 hT.1 yr_10_3 (hT.2.2.2.2.2.2.2.2.2.1 _).2.2.2.1 ?_
    refine G_iload_2 (nx := 15) ⟨dX10_sumUp_14, rfl⟩ ?_
    refine G_iload_1 (nx := 16) ⟨dX10_sumUp_15, rfl⟩ ?_
    refine G_iconst (nx := 17) ⟨dX10_sumUp_16, rfl⟩ ci_2 ?_
    refine G_icmpne (tgt := 28) (nx := 20) ⟨dX10_sumUp_17, rfl⟩ rfl (fun c_17 => ?_) (fun c_17 => ?_)
    · refine G_iload_1 (nx := 29) ⟨dX10_sumUp_28, rfl⟩ ?_
      refine G_iast (nx := 30) (k := e) ⟨dX10_sumUp_29, rfl⟩ hT.2.2.2.2.1 (by first | assumption | decide | (unfold vp_in; decide)) ?_
      rw [ecv]
      refine G_aload_0 (nx := 31) ⟨dX10_sumUp_30, rfl⟩ ?_
      refine G_getr (nx := 34) (k := o) (r := f) ⟨dX10_sumUp_31, rfl⟩ fX10_24 hT.1 yr_10_4 (hT.2.2.2.2.2.2.2.2.2.1 _).2.2.2.2.1 ?_
      refine G_iload_2 (nx := 35) ⟨dX10_sumUp_34, rfl⟩ ?_
      refine G_iconst (nx := 36) ⟨dX10_sumUp_35, rfl⟩ ci_0 ?_
      refine G_iast (nx := 37) (k := f) ⟨dX10_sumUp_36, rfl⟩ hT.2.2.2.2.2.1 (by first | assumption | decide | (unfold vp_in; decide)) ?_
      rw [ecv]
      refine G_aload_0 (nx := 38) ⟨dX10_sumUp_37, rfl⟩ ?_
      refine G_getr (nx := 41) (k := o) (r := j1) ⟨dX10_sumUp_38, rfl⟩ fX10_27 hT.1 yr_10_5 (hT.2.2.2.2.2.2.2.2.2.1 _).2.2.2.2.2.1 ?_
      refine G_iload_2 (nx := 42) ⟨dX10_sumUp_41, rfl⟩ ?_
      refine G_lconst (nx := 43) (v := 1) ⟨dX10_sumUp_42, rfl⟩ (by decide) ?_
      refine G_last (nx := 44) (k := j1) ⟨dX10_sumUp_43, rfl⟩ hT.2.2.2.2.2.2.1 (by first | assumption | decide | (unfold vp_in; decide)) ?_
      rw [ecv]
      refine G_aload_0 (nx := 45) ⟨dX10_sumUp_44, rfl⟩ ?_
      refine G_getr (nx := 48) (k := o) (r := j2) ⟨dX10_sumUp_45, rfl⟩ fX10_31 hT.1 yr_10_6 (hT.2.2.2.2.2.2.2.2.2.1 _).2.2.2.2.2.2.1 ?_
      refine G_iload_2 (nx := 49) ⟨dX10_sumUp_48, rfl⟩ ?_
      refine G_lconst (nx := 50) (v := 1) ⟨dX10_sumUp_49, rfl⟩ (by decide) ?_
      refine G_last (nx := 51) (k := j2) ⟨dX10_sumUp_50, rfl⟩ hT.2.2.2.2.2.2.2.1 (by first | assumption | decide | (unfold vp_in; decide)) ?_
      rw [ecv]
      refine G_iinc_2 (nx := 54) ⟨dX10_sumUp_51, rfl⟩ ci_1 rfl ?_
      refine G_goto (tgt := 2) ⟨dX10_sumUp_54, rfl⟩ rfl ?_
      refine G_L (by rw [nI_1]) (ih (m - (v + 1)) (by omega) (v + 1) _ _ rfl (by omega) (fun x hx => ?_) ((hs1.w fEF_e).w fEF_f))
      by_cases ex : x = v
      · subst ex
        refine ⟨?_, ?_, ?_, ?_⟩
        · rw [w2_row _ _ _ _ (show ¬ e = f by omega), w2_at]
          unfold in32
          rw [if_neg c_17]
        · rw [w2_at]; rfl
        · rw [w2_row _ _ _ _ (show ¬ j1 = j2 by omega), w2_at]; rfl
        · rw [w2_at]; rfl
      · obtain ⟨g1, g2, g3, g4⟩ := hr x (by omega)
        refine ⟨?_, ?_, ?_, ?_⟩
        · rw [w2_row _ _ _ _ (show ¬ e = f by omega), w2_ne _ _ _ _ (by omega)]; exact g1
        · rw [w2_ne _ _ _ _ (by omega), w2_row _ _ _ _ (show ¬ f = e by omega)]; exact g2
        · rw [w2_row _ _ _ _ (show ¬ j1 = j2 by omega), w2_ne _ _ _ _ (by omega)]; exact g3
        · rw [w2_ne _ _ _ _ (by omega), w2_row _ _ _ _ (show ¬ j2 = j1 by omega)]; exact g4
    · refine G_aload_0 (nx := 21) ⟨dX10_sumUp_20, rfl⟩ ?_
      refine G_iload_2 (nx := 22) ⟨dX10_sumUp_21, rfl⟩ ?_
      refine G_cv1 (nx := 25) ⟨dX10_sumUp_22, rfl⟩ kX10_65 rfl hT.1 rfl (Nat.le_of_ble_eq_true rfl) (Nat.le_of_ble_eq_true rfl) (cT_price (d := d) hT hX1 hvl ?_)
      rw [kp a v (by omega) (by omega), kp b v (by omega) (by omega), hc]
      refine G_goto (tgt := 29) ⟨dX10_sumUp_25, rfl⟩ rfl ?_
      refine G_iast (nx := 30) (k := e) ⟨dX10_sumUp_29, rfl⟩ hT.2.2.2.2.1 (by first | assumption | decide | (unfold vp_in; decide)) ?_
      rw [ecv]
      refine G_aload_0 (nx := 31) ⟨dX10_sumUp_30, rfl⟩ ?_
      refine G_getr (nx := 34) (k := o) (r := f) ⟨dX10_sumUp_31, rfl⟩ fX10_24 hT.1 yr_10_4 (hT.2.2.2.2.2.2.2.2.2.1 _).2.2.2.2.1 ?_
      refine G_iload_2 (nx := 35) ⟨dX10_sumUp_34, rfl⟩ ?_
      refine G_iconst (nx := 36) ⟨dX10_sumUp_35, rfl⟩ ci_0 ?_
      refine G_iast (nx := 37) (k := f) ⟨dX10_sumUp_36, rfl⟩ hT.2.2.2.2.2.1 (by first | assumption | decide | (unfold vp_in; decide)) ?_
      rw [ecv]
      refine G_aload_0 (nx := 38) ⟨dX10_sumUp_37, rfl⟩ ?_
      refine G_getr (nx := 41) (k := o) (r := j1) ⟨dX10_sumUp_38, rfl⟩ fX10_27 hT.1 yr_10_5 (hT.2.2.2.2.2.2.2.2.2.1 _).2.2.2.2.2.1 ?_
      refine G_iload_2 (nx := 42) ⟨dX10_sumUp_41, rfl⟩ ?_
      refine G_lconst (nx := 43) (v := 1) ⟨dX10_sumUp_42, rfl⟩ (by decide) ?_
      refine G_last (nx := 44) (k := j1) ⟨dX10_sumUp_43, rfl⟩ hT.2.2.2.2.2.2.1 (by first | assumption | decide | (unfold vp_in; decide)) ?_
      rw [ecv]
      refine G_aload_0 (nx := 45) ⟨dX10_sumUp_44, rfl⟩ ?_
      refine G_getr (nx := 48) (k := o) (r := j2) ⟨dX10_sumUp_45, rfl⟩ fX10_31 hT.1 yr_10_6 (hT.2.2.2.2.2.2.2.2.2.1 _).2.2.2.2.2.2.1 ?_
      refine G_iload_2 (nx := 49) ⟨dX10_sumUp_48, rfl⟩ ?_
      refine G_lconst (nx := 50) (v := 1) ⟨dX10_sumUp_49, rfl⟩ (by decide) ?_
      refine G_last (nx := 51) (k := j2) ⟨dX10_sumUp_50, rfl⟩ hT.2.2.2.2.2.2.2.1 (by first | assumption | decide | (unfold vp_in; decide)) ?_
      rw [ecv]
      refine G_iinc_2 (nx := 54) ⟨dX10_sumUp_51, rfl⟩ ci_1 rfl ?_
      refine G_goto (tgt := 2) ⟨dX10_sumUp_54, rfl⟩ rfl ?_
      refine G_L (by rw [nI_1]) (ih (m - (v + 1)) (by omega) (v + 1) _ _ rfl (by omega) (fun x hx => ?_) ((hs1.w fEF_e).w fEF_f))
      by_cases ex : x = v
      · subst ex
        refine ⟨?_, ?_, ?_, ?_⟩
        · rw [w2_row _ _ _ _ (show ¬ e = f by omega), w2_at]
          unfold in32
          rw [if_pos c_17]
        · rw [w2_at]; rfl
        · rw [w2_row _ _ _ _ (show ¬ j1 = j2 by omega), w2_at]; rfl
        · rw [w2_at]; rfl
      · obtain ⟨g1, g2, g3, g4⟩ := hr x (by omega)
        refine ⟨?_, ?_, ?_, ?_⟩
        · rw [w2_row _ _ _ _ (show ¬ e = f by omega), w2_ne _ _ _ _ (by omega)]; exact g1
        · rw [w2_ne _ _ _ _ (by omega), w2_row _ _ _ _ (show ¬ f = e by omega)]; exact g2
        · rw [w2_row _ _ _ _ (show ¬ j1 = j2 by omega), w2_ne _ _ _ _ (by omega)]; exact g3
        · rw [w2_ne _ _ _ _ (by omega), w2_row _ _ _ _ (show ¬ j2 = j1 by omega)]; exact g4

theorem lT_su2 {m : Nat} {by0 : Int32} {o a b c e f j1 j2 j3 : Nat} (hT : TT o a b c e f j1 j2 j3) (hX : XT I o m) (hP : TP (I c) m) : ∀ (v : Nat) (B : Nat → T32) (I1 : AI) (J1 : AJ) (x3 x4 : Value), notL x3 = true → notL x4 = true → v < m → (∀ x, x < m → suR I1 J1 e f j1 j2 x (B x)) → sb (fEF e f) I I1 → (∀ (I' : AI) (J' : AJ), (∀ x, x < m → suR I' J' e f j1 j2 x (tpu (I c) cb32 v B x)) → sb (fEF e f) I I' → K .null I' J' (rX g)) → G l (d + 1) mX10_sumUp K 64 [.ref o, .int by0, .int (nI v), x3, x4] [] I1 J1 (rX g) := by
  obtain ⟨ea, eb, ec, ee, ef, ej1, ej2, ej3⟩ := hT.2.2.2.2.2.2.2.2.2.2
  have hm := hX.2
  intro v
  induction v with
  | zero =>
    intro B I1 J1 x3 x4 hx3 hx4 hvm hr hs1 hk
    rw [nI_0]
    refine G_iload_2 (nx := 65) ⟨dX10_sumUp_64, rfl⟩ ?_
    refine G_ifle (tgt := 155) (nx := 68) ⟨dX10_sumUp_65, rfl⟩ rfl (fun c_65 => ?_) (fun c_65 => ?_)
    · refine G_vret ⟨dX10_sumUp_155, rfl⟩ rfl ?_
      exact hk I1 J1 hr hs1
    · exact absurd (by decide) c_65

  | succ v ih =>
    intro B I1 J1 x3 x4 hx3 hx4 hvm hr hs1 hk
    have hiv := in60 (p := v + 1) (by omega)
    have ecv := cl_nI (p := v + 1) (by omega)
    obtain ⟨q, eq0, hqu⟩ := hP.2 (v + 1) (by omega) hvm
    have hiq := in60 (p := q) (by omega)
    have ecq := cl_nI (p := q) (by omega)
    have em1 : nI (v + 1) + (-1) = nI v := by rw [← nI_1, Int32.add_assoc]; exact Int32.add_zero _
    have hpar : I1 c (v + 1) = nI q := by rw [hs1 c (v + 1) (fEF_n (by omega) (by omega))]; exact eq0
    obtain ⟨g1, g2, g3, g4⟩ := hr (v + 1) hvm
    obtain ⟨k1, k2, k3, k4⟩ := hr q (by omega)
    have nv : ∀ {α : Type} (F : Nat → Nat → α) (k : Nat) (y : α) (z : Nat), w2 F k q y z (v + 1) = F z (v + 1) := fun F k y z => w2_ne _ _ _ _ (by omega)
    have hx1 : suR (w2 I1 e q ((B q).1 + mnI (B (v + 1)).1 (B (v + 1)).2.1)) J1 e f j1 j2 (v + 1) (B (v + 1)) := ⟨by rw [nv]; exact g1, by rw [nv]; exact g2, g3, g4⟩
    rw [tpu, eq0, ecq] at hk
    refine G_iload_2 (nx := 65) ⟨dX10_sumUp_64, rfl⟩ ?_
    refine G_ifle (tgt := 155) (nx := 68) ⟨dX10_sumUp_65, rfl⟩ rfl (fun c_65 => ?_) (fun c_65 => ?_)
    · (rw [← nI_0, nI_le_iff (by omega) (by omega)] at c_65; omega)
    · refine G_aload_0 (nx := 69) ⟨dX10_sumUp_68, rfl⟩ ?_
      refine G_getr (nx := 72) (k := o) (r := c) ⟨dX10_sumUp_69, rfl⟩ fX10_18 hT.1 yr_10_2 (hT.2.2.2.2.2.2.2.2.2.1 _).2.2.1 ?_
      refine G_iload_2 (nx := 73) ⟨dX10_sumUp_72, rfl⟩ ?_
      refine G_iald (nx := 74) (k := c) ⟨dX10_sumUp_73, rfl⟩ hT.2.2.2.1 (by first | assumption | decide | (unfold vp_in; decide)) ?_
      rw [ecv, hpar]
      refine G_istore_3 (nx := 75) ⟨dX10_sumUp_74, rfl⟩ rfl rfl ?_
      refine G_aload_0 (nx := 76) ⟨dX10_sumUp_75, rfl⟩ ?_
      refine G_getr (nx := 79) (k := o) (r := e) ⟨dX10_sumUp_76, rfl⟩ fX10_21 hT.1 yr_10_3 (hT.2.2.2.2.2.2.2.2.2.1 _).2.2.2.1 ?_
      refine G_iload_2 (nx := 80) ⟨dX10_sumUp_79, rfl⟩ ?_
      refine G_iald (nx := 81) (k := e) ⟨dX10_sumUp_80, rfl⟩ hT.2.2.2.2.1 (by first | assumption | decide | (unfold vp_in; decide)) ?_
      rw [ecv, g1]
      refine G_aload_0 (nx := 82) ⟨dX10_sumUp_81, rfl⟩ ?_
      refine G_getr (nx := 85) (k := o) (r := f) ⟨dX10_sumUp_82, rfl⟩ fX10_24 hT.1 yr_10_4 (hT.2.2.2.2.2.2.2.2.2.1 _).2.2.2.2.1 ?_
      refine G_iload_2 (nx := 86) ⟨dX10_sumUp_85, rfl⟩ ?_
      refine G_iald (nx := 87) (k := f) ⟨dX10_sumUp_86, rfl⟩ hT.2.2.2.2.2.1 (by first | assumption | decide | (unfold vp_in; decide)) ?_
      rw [ecv, g2]
      refine G_mmin (nx := 90) ⟨dX10_sumUp_87, rfl⟩ kX10_55 (Nat.le_of_ble_eq_true rfl) ?_
      rw [show (if (B (v + 1)).2.1 < (B (v + 1)).1 then (B (v + 1)).2.1 else (B (v + 1)).1) = mnI (B (v + 1)).1 (B (v + 1)).2.1 from rfl]
      refine G_istore_4 (nx := 92) ⟨dX10_sumUp_90, rfl⟩ rfl rfl ?_
      refine G_aload_0 (nx := 93) ⟨dX10_sumUp_92, rfl⟩ ?_
      refine G_getr (nx := 96) (k := o) (r := e) ⟨dX10_sumUp_93, rfl⟩ fX10_21 hT.1 yr_10_3 (hT.2.2.2.2.2.2.2.2.2.1 _).2.2.2.1 ?_
      refine G_iload_3 (nx := 97) ⟨dX10_sumUp_96, rfl⟩ ?_
      refine G_dup2 (nx := 98) ⟨dX10_sumUp_97, rfl⟩ rfl rfl ?_
      refine G_iald (nx := 99) (k := e) ⟨dX10_sumUp_98, rfl⟩ hT.2.2.2.2.1 (by first | assumption | decide | (unfold vp_in; decide)) ?_
      rw [ecq, k1]
      refine G_iload_4 (nx := 101) ⟨dX10_sumUp_99, rfl⟩ ?_
      refine G_iadd (nx := 102) ⟨dX10_sumUp_101, rfl⟩ ?_
      refine G_iast (nx := 103) (k := e) ⟨dX10_sumUp_102, rfl⟩ hT.2.2.2.2.1 (by first | assumption | decide | (unfold vp_in; decide)) ?_
      rw [ecq]
      refine G_aload_0 (nx := 104) ⟨dX10_sumUp_103, rfl⟩ ?_
      refine G_getr (nx := 107) (k := o) (r := j1) ⟨dX10_sumUp_104, rfl⟩ fX10_27 hT.1 yr_10_5 (hT.2.2.2.2.2.2.2.2.2.1 _).2.2.2.2.2.1 ?_
      refine G_iload_3 (nx := 108) ⟨dX10_sumUp_107, rfl⟩ ?_
      refine G_dup2 (nx := 109) ⟨dX10_sumUp_108, rfl⟩ rfl rfl ?_
      refine G_lald (nx := 110) (k := j1) ⟨dX10_sumUp_109, rfl⟩ hT.2.2.2.2.2.2.1 (by first | assumption | decide | (unfold vp_in; decide)) ?_
      rw [ecq, k3]
      refine G_aload_0 (nx := 111) ⟨dX10_sumUp_110, rfl⟩ ?_
      refine G_iload_2 (nx := 112) ⟨dX10_sumUp_111, rfl⟩ ?_
      refine G_iload_4 (nx := 114) ⟨dX10_sumUp_112, rfl⟩ ?_
      refine G_cv2 (nx := 117) ⟨dX10_sumUp_114, rfl⟩ kX10_61 rfl hT.1 rfl (Nat.le_of_ble_eq_true rfl) (Nat.le_of_ble_eq_true rfl) (cT_manyOf hT (by omega) hx1 ?_)
      refine G_lmul (nx := 118) ⟨dX10_sumUp_117, rfl⟩ ?_
      refine G_last (nx := 119) (k := j1) ⟨dX10_sumUp_118, rfl⟩ hT.2.2.2.2.2.2.1 (by first | assumption | decide | (unfold vp_in; decide)) ?_
      rw [ecq]
      refine G_aload_0 (nx := 120) ⟨dX10_sumUp_119, rfl⟩ ?_
      refine G_getr (nx := 123) (k := o) (r := f) ⟨dX10_sumUp_120, rfl⟩ fX10_24 hT.1 yr_10_4 (hT.2.2.2.2.2.2.2.2.2.1 _).2.2.2.2.1 ?_
      refine G_iload_3 (nx := 124) ⟨dX10_sumUp_123, rfl⟩ ?_
      refine G_dup2 (nx := 125) ⟨dX10_sumUp_124, rfl⟩ rfl rfl ?_
      refine G_iald (nx := 126) (k := f) ⟨dX10_sumUp_125, rfl⟩ hT.2.2.2.2.2.1 (by first | assumption | decide | (unfold vp_in; decide)) ?_
      rw [ecq, w2_row _ _ _ _ (show ¬ f = e by omega), k2]
      refine G_aload_0 (nx := 127) ⟨dX10_sumUp_126, rfl⟩ ?_
      refine G_getr (nx := 130) (k := o) (r := e) ⟨dX10_sumUp_127, rfl⟩ fX10_21 hT.1 yr_10_3 (hT.2.2.2.2.2.2.2.2.2.1 _).2.2.2.1 ?_
      refine G_iload_2 (nx := 131) ⟨dX10_sumUp_130, rfl⟩ ?_
      refine G_iald (nx := 132) (k := e) ⟨dX10_sumUp_131, rfl⟩ hT.2.2.2.2.1 (by first | assumption | decide | (unfold vp_in; decide)) ?_
      rw [ecv, nv, g1]
      refine G_iadd (nx := 133) ⟨dX10_sumUp_132, rfl⟩ ?_
      refine G_iast (nx := 134) (k := f) ⟨dX10_sumUp_133, rfl⟩ hT.2.2.2.2.2.1 (by first | assumption | decide | (unfold vp_in; decide)) ?_
      rw [ecq]
      refine G_aload_0 (nx := 135) ⟨dX10_sumUp_134, rfl⟩ ?_
      refine G_getr (nx := 138) (k := o) (r := j2) ⟨dX10_sumUp_135, rfl⟩ fX10_31 hT.1 yr_10_6 (hT.2.2.2.2.2.2.2.2.2.1 _).2.2.2.2.2.2.1 ?_
      refine G_iload_3 (nx := 139) ⟨dX10_sumUp_138, rfl⟩ ?_
      refine G_dup2 (nx := 140) ⟨dX10_sumUp_139, rfl⟩ rfl rfl ?_
      refine G_lald (nx := 141) (k := j2) ⟨dX10_sumUp_140, rfl⟩ hT.2.2.2.2.2.2.2.1 (by first | assumption | decide | (unfold vp_in; decide)) ?_
      rw [ecq, w2_row _ _ _ _ (show ¬ j2 = j1 by omega), k4]
      refine G_aload_0 (nx := 142) ⟨dX10_sumUp_141, rfl⟩ ?_
      refine G_getr (nx := 145) (k := o) (r := j1) ⟨dX10_sumUp_142, rfl⟩ fX10_27 hT.1 yr_10_5 (hT.2.2.2.2.2.2.2.2.2.1 _).2.2.2.2.2.1 ?_
      refine G_iload_2 (nx := 146) ⟨dX10_sumUp_145, rfl⟩ ?_
      refine G_lald (nx := 147) (k := j1) ⟨dX10_sumUp_146, rfl⟩ hT.2.2.2.2.2.2.1 (by first | assumption | decide | (unfold vp_in; decide)) ?_
      rw [ecv, nv, g3]
      refine G_lmul (nx := 148) ⟨dX10_sumUp_147, rfl⟩ ?_
      refine G_last (nx := 149) (k := j2) ⟨dX10_sumUp_148, rfl⟩ hT.2.2.2.2.2.2.2.1 (by first | assumption | decide | (unfold vp_in; decide)) ?_
      rw [ecq]
      refine G_iinc_2 (nx := 152) ⟨dX10_sumUp_149, rfl⟩ ci_m1 rfl ?_
      refine G_goto (tgt := 64) ⟨dX10_sumUp_152, rfl⟩ rfl ?_
      refine G_L (by rw [em1]) (ih _ _ _ _ _ rfl rfl (by omega) (fun x hx => ?_) ((hs1.w fEF_e).w fEF_f) hk)
      by_cases ex : x = q
      · rw [if_pos ex, ex]
        refine ⟨?_, ?_, ?_, ?_⟩
        · rw [w2_row _ _ _ _ (show ¬ e = f by omega), w2_at]; rfl
        · rw [w2_at]; rfl
        · rw [w2_row _ _ _ _ (show ¬ j1 = j2 by omega), w2_at]; rfl
        · rw [w2_at]; rfl
      · rw [if_neg ex]
        obtain ⟨u1, u2, u3, u4⟩ := hr x hx
        refine ⟨?_, ?_, ?_, ?_⟩
        · rw [w2_row _ _ _ _ (show ¬ e = f by omega), w2_ne _ _ _ _ (by omega)]; exact u1
        · rw [w2_ne _ _ _ _ (by omega), w2_row _ _ _ _ (show ¬ f = e by omega)]; exact u2
        · rw [w2_row _ _ _ _ (show ¬ j1 = j2 by omega), w2_ne _ _ _ _ (by omega)]; exact u3
        · rw [w2_ne _ _ _ _ (by omega), w2_row _ _ _ _ (show ¬ j2 = j1 by omega)]; exact u4

theorem cT_sumUp {m : Nat} {by0 : Int32} {o a b c e f j1 j2 j3 : Nat} (hT : TT o a b c e f j1 j2 j3) (hX : XT I o m) (hP : TP (I c) m) (hm0 : 0 < m) (hk : ∀ (I' : AI) (J' : AJ), (∀ x, x < m → suR I' J' e f j1 j2 x ((tpu (I c) cb32 (m - 1) (in32 I a b c m by0)) x)) → sb (fEF e f) I I' → K .null I' J' (rX g)) : G l (d + 3) mX10_sumUp K 0 [.ref o, .int by0, UU, UU, UU] [] I J (rX g) := by
  obtain ⟨ea, eb, ec, ee, ef, ej1, ej2, ej3⟩ := hT.2.2.2.2.2.2.2.2.2.2

  refine G_iconst (nx := 1) ⟨dX10_sumUp_0, rfl⟩ ci_0 ?_
  refine G_istore_2 (nx := 2) ⟨dX10_sumUp_1, rfl⟩ rfl rfl ?_
  refine G_L (by rw [← nI_0]) (lT_su1 (d := d) hT hX (fun I1 J1 hr hs1 => ?_) _ 0 I J rfl (by omega) (fun x hx => absurd hx (by omega)) sb.rf)
  have hX1 : XT I1 o m := ⟨by rw [hs1 o 8 (fEF_n (by omega) (by omega))]; exact hX.1, hX.2⟩
  refine G_aload_0 (nx := 58) ⟨dX10_sumUp_57, rfl⟩ ?_
  refine G_geti (nx := 61) (k := o) ⟨dX10_sumUp_58, rfl⟩ fX10_37 hT.1 yi_10_8 ?_
  rw [hX1.1]
  refine G_iconst (nx := 62) ⟨dX10_sumUp_61, rfl⟩ ci_1 ?_
  refine G_isub (nx := 63) ⟨dX10_sumUp_62, rfl⟩ ?_
  rw [show (1 : Int32) = nI 1 by decide, nI_sub (by omega)]
  refine G_istore_2 (nx := 64) ⟨dX10_sumUp_63, rfl⟩ rfl rfl ?_
  exact lT_su2 (d := d + 2) hT hX hP (m - 1) _ I1 J1 UU UU rfl rfl (by omega) hr hs1 hk
  

theorem cT_leastSum {m : Nat} {by0 : Int32} {o a b c e f j1 j2 j3 : Nat} (hT : TT o a b c e f j1 j2 j3) (hX : XT I o m) (hP : TP (I c) m) (hm0 : 0 < m) (hk : ∀ (I' : AI) (J' : AJ), sb (fEF e f) I I' → K (.int (mnI ((tpu (I c) cb32 (m - 1) (in32 I a b c m by0)) 0).1 ((tpu (I c) cb32 (m - 1) (in32 I a b c m by0)) 0).2.1)) I' J' (rX g)) : G l (d + 4) mX10_leastSum K 0 [.ref o, .int by0] [] I J (rX g) := by
  have hi0 := in60 (p := 0) (by omega)
  have ec0 : (0 : Int32).toNatClampNeg = 0 := by decide
  refine G_aload_0 (nx := 1) ⟨dX10_leastSum_0, rfl⟩ ?_
  refine G_iload_1 (nx := 2) ⟨dX10_leastSum_1, rfl⟩ ?_
  refine G_cvv1 (nx := 5) ⟨dX10_leastSum_2, rfl⟩ kX10_51 rfl hT.1 rfl (Nat.le_of_ble_eq_true rfl) (Nat.le_of_ble_eq_true rfl) (cT_sumUp (d := d) hT hX hP hm0 (fun I1 J1 hr hs1 => ?_))
  obtain ⟨g1, g2, g3, g4⟩ := hr 0 hm0
  refine G_aload_0 (nx := 6) ⟨dX10_leastSum_5, rfl⟩ ?_
  refine G_getr (nx := 9) (k := o) (r := e) ⟨dX10_leastSum_6, rfl⟩ fX10_21 hT.1 yr_10_3 (hT.2.2.2.2.2.2.2.2.2.1 _).2.2.2.1 ?_
  refine G_iconst (nx := 10) ⟨dX10_leastSum_9, rfl⟩ ci_0 ?_
  refine G_iald (nx := 11) (k := e) ⟨dX10_leastSum_10, rfl⟩ hT.2.2.2.2.1 (by first | assumption | decide | (unfold vp_in; decide)) ?_
  rw [ec0, g1]
  refine G_aload_0 (nx := 12) ⟨dX10_leastSum_11, rfl⟩ ?_
  refine G_getr (nx := 15) (k := o) (r := f) ⟨dX10_leastSum_12, rfl⟩ fX10_24 hT.1 yr_10_4 (hT.2.2.2.2.2.2.2.2.2.1 _).2.2.2.2.1 ?_
  refine G_iconst (nx := 16) ⟨dX10_leastSum_15, rfl⟩ ci_0 ?_
  refine G_iald (nx := 17) (k := f) ⟨dX10_leastSum_16, rfl⟩ hT.2.2.2.2.2.1 (by first | assumption | decide | (unfold vp_in; decide)) ?_
  rw [ec0, g2]
  refine G_mmin (nx := 20) ⟨dX10_leastSum_17, rfl⟩ kX10_55 (Nat.le_of_ble_eq_true rfl) ?_
  refine G_iret ⟨dX10_leastSum_20, rfl⟩ rfl ?_
  exact hk I1 J1 hs1

theorem cT_howMany {m : Nat} {by0 : Int32} {o a b c e f j1 j2 j3 : Nat} (hT : TT o a b c e f j1 j2 j3) (hX : XT I o m) (hP : TP (I c) m) (hm0 : 0 < m) (hk : ∀ (I' : AI) (J' : AJ), sb (fEF e f) I I' → K (.long (moF ((tpu (I c) cb32 (m - 1) (in32 I a b c m by0)) 0) (mnI ((tpu (I c) cb32 (m - 1) (in32 I a b c m by0)) 0).1 ((tpu (I c) cb32 (m - 1) (in32 I a b c m by0)) 0).2.1))) I' J' (rX g)) : G l (d + 4) mX10_howManyLeast K 0 [.ref o, .int by0] [] I J (rX g) := by
  have hi0 := in60 (p := 0) (by omega)
  have ec0 : (0 : Int32).toNatClampNeg = 0 := by decide
  refine G_aload_0 (nx := 1) ⟨dX10_howManyLeast_0, rfl⟩ ?_
  refine G_iload_1 (nx := 2) ⟨dX10_howManyLeast_1, rfl⟩ ?_
  refine G_cvv1 (nx := 5) ⟨dX10_howManyLeast_2, rfl⟩ kX10_51 rfl hT.1 rfl (Nat.le_of_ble_eq_true rfl) (Nat.le_of_ble_eq_true rfl) (cT_sumUp (d := d) hT hX hP hm0 (fun I1 J1 hr hs1 => ?_))
  obtain ⟨g1, g2, g3, g4⟩ := hr 0 hm0
  refine G_aload_0 (nx := 6) ⟨dX10_howManyLeast_5, rfl⟩ ?_
  refine G_iconst (nx := 7) ⟨dX10_howManyLeast_6, rfl⟩ ci_0 ?_
  refine G_aload_0 (nx := 8) ⟨dX10_howManyLeast_7, rfl⟩ ?_
  refine G_getr (nx := 11) (k := o) (r := e) ⟨dX10_howManyLeast_8, rfl⟩ fX10_21 hT.1 yr_10_3 (hT.2.2.2.2.2.2.2.2.2.1 _).2.2.2.1 ?_
  refine G_iconst (nx := 12) ⟨dX10_howManyLeast_11, rfl⟩ ci_0 ?_
  refine G_iald (nx := 13) (k := e) ⟨dX10_howManyLeast_12, rfl⟩ hT.2.2.2.2.1 (by first | assumption | decide | (unfold vp_in; decide)) ?_
  rw [ec0, g1]
  refine G_aload_0 (nx := 14) ⟨dX10_howManyLeast_13, rfl⟩ ?_
  refine G_getr (nx := 17) (k := o) (r := f) ⟨dX10_howManyLeast_14, rfl⟩ fX10_24 hT.1 yr_10_4 (hT.2.2.2.2.2.2.2.2.2.1 _).2.2.2.2.1 ?_
  refine G_iconst (nx := 18) ⟨dX10_howManyLeast_17, rfl⟩ ci_0 ?_
  refine G_iald (nx := 19) (k := f) ⟨dX10_howManyLeast_18, rfl⟩ hT.2.2.2.2.2.1 (by first | assumption | decide | (unfold vp_in; decide)) ?_
  rw [ec0, g2]
  refine G_mmin (nx := 22) ⟨dX10_howManyLeast_19, rfl⟩ kX10_55 (Nat.le_of_ble_eq_true rfl) ?_
  rw [← nI_0]
  refine G_cv2 (nx := 25) ⟨dX10_howManyLeast_22, rfl⟩ kX10_61 rfl hT.1 rfl (Nat.le_of_ble_eq_true rfl) (Nat.le_of_ble_eq_true rfl) (cT_manyOf hT (by omega) (hr 0 hm0) ?_)
  refine G_lret ⟨dX10_howManyLeast_25, rfl⟩ rfl ?_
  exact hk I1 J1 hs1

def cbX (s x : T3) : T3 := (s.1 * x.2.1, s.2.1 * (x.1 + (x.2.1 - x.2.2)), s.2.2 * (x.2.1 - x.2.2))
def buR (J : AJ) (j1 j2 j3 c : Nat) (x : T3) : Prop := J j2 c = x.1 ∧ J j1 c = x.2.1 ∧ J j3 c = x.2.2
theorem lT_ba {m : Nat} {o a b c e f j1 j2 j3 : Nat} (hT : TT o a b c e f j1 j2 j3) (hX : XT I o m) (hP : TP (I c) m) : ∀ (v : Nat) (B : Nat → T3) (J1 : AJ) (x2 x3 x4 : Value), notL x2 = true → v < m → (∀ x, x < m → buR J1 j1 j2 j3 x (B x)) → (∀ (J' : AJ), K (.long ((tpu (I c) cbX v B 0).1 + (tpu (I c) cbX v B 0).2.1 - (tpu (I c) cbX v B 0).2.2)) I J' (rX g)) → G l d mX10_howManyBare K 31 [.ref o, .int (nI v), x2, x3, x4] [] I J1 (rX g) := by
  obtain ⟨ea, eb, ec, ee, ef, ej1, ej2, ej3⟩ := hT.2.2.2.2.2.2.2.2.2.2
  have hm := hX.2
  have hi0 := in60 (p := 0) (by omega)
  have ec0 : (0 : Int32).toNatClampNeg = 0 := by decide
  intro v
  induction v with
  | zero =>
    intro B J1 x2 x3 x4 hx2 hvm hr hk
    obtain ⟨g1, g2, g3⟩ := hr 0 (by omega)
    rw [nI_0]
    refine G_iload_1 (nx := 32) ⟨dX10_howManyBare_31, rfl⟩ ?_
    refine G_ifle (tgt := 104) (nx := 35) ⟨dX10_howManyBare_32, rfl⟩ rfl (fun c_32 => ?_) (fun c_32 => ?_)
    · refine G_aload_0 (nx := 105) ⟨dX10_howManyBare_104, rfl⟩ ?_
      refine G_getr (nx := 108) (k := o) (r := j2) ⟨dX10_howManyBare_105, rfl⟩ fX10_31 hT.1 yr_10_6 (hT.2.2.2.2.2.2.2.2.2.1 _).2.2.2.2.2.2.1 ?_
      refine G_iconst (nx := 109) ⟨dX10_howManyBare_108, rfl⟩ ci_0 ?_
      refine G_lald (nx := 110) (k := j2) ⟨dX10_howManyBare_109, rfl⟩ hT.2.2.2.2.2.2.2.1 (by first | assumption | decide | (unfold vp_in; decide)) ?_
      rw [ec0, g1]
      refine G_aload_0 (nx := 111) ⟨dX10_howManyBare_110, rfl⟩ ?_
      refine G_getr (nx := 114) (k := o) (r := j1) ⟨dX10_howManyBare_111, rfl⟩ fX10_27 hT.1 yr_10_5 (hT.2.2.2.2.2.2.2.2.2.1 _).2.2.2.2.2.1 ?_
      refine G_iconst (nx := 115) ⟨dX10_howManyBare_114, rfl⟩ ci_0 ?_
      refine G_lald (nx := 116) (k := j1) ⟨dX10_howManyBare_115, rfl⟩ hT.2.2.2.2.2.2.1 (by first | assumption | decide | (unfold vp_in; decide)) ?_
      rw [ec0, g2]
      refine G_ladd (nx := 117) ⟨dX10_howManyBare_116, rfl⟩ ?_
      refine G_aload_0 (nx := 118) ⟨dX10_howManyBare_117, rfl⟩ ?_
      refine G_getr (nx := 121) (k := o) (r := j3) ⟨dX10_howManyBare_118, rfl⟩ fX10_34 hT.1 yr_10_7 (hT.2.2.2.2.2.2.2.2.2.1 _).2.2.2.2.2.2.2 ?_
      refine G_iconst (nx := 122) ⟨dX10_howManyBare_121, rfl⟩ ci_0 ?_
      refine G_lald (nx := 123) (k := j3) ⟨dX10_howManyBare_122, rfl⟩ hT.2.2.2.2.2.2.2.2.1 (by first | assumption | decide | (unfold vp_in; decide)) ?_
      rw [ec0, g3]
      refine G_lsub (nx := 124) ⟨dX10_howManyBare_123, rfl⟩ ?_
      refine G_lret ⟨dX10_howManyBare_124, rfl⟩ rfl ?_
      exact hk J1
    · exact absurd (by decide) c_32

  | succ v ih =>
    intro B J1 x2 x3 x4 hx2 hvm hr hk
    have hiv := in60 (p := v + 1) (by omega)
    have ecv := cl_nI (p := v + 1) (by omega)
    obtain ⟨q, eq0, hqu⟩ := hP.2 (v + 1) (by omega) hvm
    have hiq := in60 (p := q) (by omega)
    have ecq := cl_nI (p := q) (by omega)
    have em1 : nI (v + 1) + (-1) = nI v := by rw [← nI_1, Int32.add_assoc]; exact Int32.add_zero _
    obtain ⟨g1, g2, g3⟩ := hr (v + 1) hvm
    obtain ⟨k1, k2, k3⟩ := hr q (by omega)
    have nv : ∀ (F : AJ) (k : Nat) (y : Int64) (z : Nat), w2 F k q y z (v + 1) = F z (v + 1) := fun F k y z => w2_ne _ _ _ _ (by omega)
    rw [tpu, eq0, ecq] at hk
    refine G_iload_1 (nx := 32) ⟨dX10_howManyBare_31, rfl⟩ ?_
    refine G_ifle (tgt := 104) (nx := 35) ⟨dX10_howManyBare_32, rfl⟩ rfl (fun c_32 => ?_) (fun c_32 => ?_)
    · (rw [← nI_0, nI_le_iff (by omega) (by omega)] at c_32; omega)
    · refine G_aload_0 (nx := 36) ⟨dX10_howManyBare_35, rfl⟩ ?_
      refine G_getr (nx := 39) (k := o) (r := c) ⟨dX10_howManyBare_36, rfl⟩ fX10_18 hT.1 yr_10_2 (hT.2.2.2.2.2.2.2.2.2.1 _).2.2.1 ?_
      refine G_iload_1 (nx := 40) ⟨dX10_howManyBare_39, rfl⟩ ?_
      refine G_iald (nx := 41) (k := c) ⟨dX10_howManyBare_40, rfl⟩ hT.2.2.2.1 (by first | assumption | decide | (unfold vp_in; decide)) ?_
      rw [ecv, eq0]
      refine G_istore_2 (nx := 42) ⟨dX10_howManyBare_41, rfl⟩ rfl rfl ?_
      refine G_aload_0 (nx := 43) ⟨dX10_howManyBare_42, rfl⟩ ?_
      refine G_getr (nx := 46) (k := o) (r := j1) ⟨dX10_howManyBare_43, rfl⟩ fX10_27 hT.1 yr_10_5 (hT.2.2.2.2.2.2.2.2.2.1 _).2.2.2.2.2.1 ?_
      refine G_iload_1 (nx := 47) ⟨dX10_howManyBare_46, rfl⟩ ?_
      refine G_lald (nx := 48) (k := j1) ⟨dX10_howManyBare_47, rfl⟩ hT.2.2.2.2.2.2.1 (by first | assumption | decide | (unfold vp_in; decide)) ?_
      rw [ecv, g2]
      refine G_aload_0 (nx := 49) ⟨dX10_howManyBare_48, rfl⟩ ?_
      refine G_getr (nx := 52) (k := o) (r := j3) ⟨dX10_howManyBare_49, rfl⟩ fX10_34 hT.1 yr_10_7 (hT.2.2.2.2.2.2.2.2.2.1 _).2.2.2.2.2.2.2 ?_
      refine G_iload_1 (nx := 53) ⟨dX10_howManyBare_52, rfl⟩ ?_
      refine G_lald (nx := 54) (k := j3) ⟨dX10_howManyBare_53, rfl⟩ hT.2.2.2.2.2.2.2.2.1 (by first | assumption | decide | (unfold vp_in; decide)) ?_
      rw [ecv, g3]
      refine G_lsub (nx := 55) ⟨dX10_howManyBare_54, rfl⟩ ?_
      refine G_lstore_3 (nx := 56) ⟨dX10_howManyBare_55, rfl⟩ rfl rfl ?_
      refine G_aload_0 (nx := 57) ⟨dX10_howManyBare_56, rfl⟩ ?_
      refine G_getr (nx := 60) (k := o) (r := j1) ⟨dX10_howManyBare_57, rfl⟩ fX10_27 hT.1 yr_10_5 (hT.2.2.2.2.2.2.2.2.2.1 _).2.2.2.2.2.1 ?_
      refine G_iload_2 (nx := 61) ⟨dX10_howManyBare_60, rfl⟩ ?_
      refine G_dup2 (nx := 62) ⟨dX10_howManyBare_61, rfl⟩ rfl rfl ?_
      refine G_lald (nx := 63) (k := j1) ⟨dX10_howManyBare_62, rfl⟩ hT.2.2.2.2.2.2.1 (by first | assumption | decide | (unfold vp_in; decide)) ?_
      rw [ecq, k2]
      refine G_aload_0 (nx := 64) ⟨dX10_howManyBare_63, rfl⟩ ?_
      refine G_getr (nx := 67) (k := o) (r := j2) ⟨dX10_howManyBare_64, rfl⟩ fX10_31 hT.1 yr_10_6 (hT.2.2.2.2.2.2.2.2.2.1 _).2.2.2.2.2.2.1 ?_
      refine G_iload_1 (nx := 68) ⟨dX10_howManyBare_67, rfl⟩ ?_
      refine G_lald (nx := 69) (k := j2) ⟨dX10_howManyBare_68, rfl⟩ hT.2.2.2.2.2.2.2.1 (by first | assumption | decide | (unfold vp_in; decide)) ?_
      rw [ecv, g1]
      refine G_lload_3 (nx := 70) ⟨dX10_howManyBare_69, rfl⟩ ?_
      refine G_ladd (nx := 71) ⟨dX10_howManyBare_70, rfl⟩ ?_
      refine G_lmul (nx := 72) ⟨dX10_howManyBare_71, rfl⟩ ?_
      refine G_last (nx := 73) (k := j1) ⟨dX10_howManyBare_72, rfl⟩ hT.2.2.2.2.2.2.1 (by first | assumption | decide | (unfold vp_in; decide)) ?_
      rw [ecq]
      refine G_aload_0 (nx := 74) ⟨dX10_howManyBare_73, rfl⟩ ?_
      refine G_getr (nx := 77) (k := o) (r := j3) ⟨dX10_howManyBare_74, rfl⟩ fX10_34 hT.1 yr_10_7 (hT.2.2.2.2.2.2.2.2.2.1 _).2.2.2.2.2.2.2 ?_
      refine G_iload_2 (nx := 78) ⟨dX10_howManyBare_77, rfl⟩ ?_
      refine G_dup2 (nx := 79) ⟨dX10_howManyBare_78, rfl⟩ rfl rfl ?_
      refine G_lald (nx := 80) (k := j3) ⟨dX10_howManyBare_79, rfl⟩ hT.2.2.2.2.2.2.2.2.1 (by first | assumption | decide | (unfold vp_in; decide)) ?_
      rw [ecq, w2_row _ _ _ _ (show ¬ j3 = j1 by omega), k3]
      refine G_lload_3 (nx := 81) ⟨dX10_howManyBare_80, rfl⟩ ?_
      refine G_lmul (nx := 82) ⟨dX10_howManyBare_81, rfl⟩ ?_
      refine G_last (nx := 83) (k := j3) ⟨dX10_howManyBare_82, rfl⟩ hT.2.2.2.2.2.2.2.2.1 (by first | assumption | decide | (unfold vp_in; decide)) ?_
      rw [ecq]
      refine G_aload_0 (nx := 84) ⟨dX10_howManyBare_83, rfl⟩ ?_
      refine G_getr (nx := 87) (k := o) (r := j2) ⟨dX10_howManyBare_84, rfl⟩ fX10_31 hT.1 yr_10_6 (hT.2.2.2.2.2.2.2.2.2.1 _).2.2.2.2.2.2.1 ?_
      refine G_iload_2 (nx := 88) ⟨dX10_howManyBare_87, rfl⟩ ?_
      refine G_dup2 (nx := 89) ⟨dX10_howManyBare_88, rfl⟩ rfl rfl ?_
      refine G_lald (nx := 90) (k := j2) ⟨dX10_howManyBare_89, rfl⟩ hT.2.2.2.2.2.2.2.1 (by first | assumption | decide | (unfold vp_in; decide)) ?_
      rw [ecq, w2_row _ _ _ _ (show ¬ j2 = j3 by omega), w2_row _ _ _ _ (show ¬ j2 = j1 by omega), k1]
      refine G_aload_0 (nx := 91) ⟨dX10_howManyBare_90, rfl⟩ ?_
      refine G_getr (nx := 94) (k := o) (r := j1) ⟨dX10_howManyBare_91, rfl⟩ fX10_27 hT.1 yr_10_5 (hT.2.2.2.2.2.2.2.2.2.1 _).2.2.2.2.2.1 ?_
      refine G_iload_1 (nx := 95) ⟨dX10_howManyBare_94, rfl⟩ ?_
      refine G_lald (nx := 96) (k := j1) ⟨dX10_howManyBare_95, rfl⟩ hT.2.2.2.2.2.2.1 (by first | assumption | decide | (unfold vp_in; decide)) ?_
      rw [ecv, nv, nv, g2]
      refine G_lmul (nx := 97) ⟨dX10_howManyBare_96, rfl⟩ ?_
      refine G_last (nx := 98) (k := j2) ⟨dX10_howManyBare_97, rfl⟩ hT.2.2.2.2.2.2.2.1 (by first | assumption | decide | (unfold vp_in; decide)) ?_
      rw [ecq]
      refine G_iinc_1 (nx := 101) ⟨dX10_howManyBare_98, rfl⟩ ci_m1 rfl ?_
      refine G_goto (tgt := 31) ⟨dX10_howManyBare_101, rfl⟩ rfl ?_
      refine G_L (by rw [em1]) (ih _ _ _ _ _ rfl (by omega) (fun x hx => ?_) hk)
      by_cases ex : x = q
      · rw [if_pos ex, ex]
        refine ⟨?_, ?_, ?_⟩
        · rw [w2_at]; rfl
        · rw [w2_row _ _ _ _ (show ¬ j1 = j2 by omega), w2_row _ _ _ _ (show ¬ j1 = j3 by omega), w2_at]; rfl
        · rw [w2_row _ _ _ _ (show ¬ j3 = j2 by omega), w2_at]; rfl
      · rw [if_neg ex]
        have nx : ∀ (F : AJ) (k : Nat) (y : Int64) (z : Nat), w2 F k q y z x = F z x := fun F k y z => w2_ne _ _ _ _ (by omega)
        obtain ⟨u1, u2, u3⟩ := hr x hx
        exact ⟨by rw [nx, nx, nx]; exact u1, by rw [nx, nx, nx]; exact u2, by rw [nx, nx, nx]; exact u3⟩

theorem cT_bare {m : Nat} {o a b c e f j1 j2 j3 : Nat} (hT : TT o a b c e f j1 j2 j3) (hX : XT I o m) (hP : TP (I c) m) (hm0 : 0 < m) (hk : ∀ (J' : AJ), K (.long ((tpu (I c) cbX (m - 1) bnI 0).1 + (tpu (I c) cbX (m - 1) bnI 0).2.1 - (tpu (I c) cbX (m - 1) bnI 0).2.2)) I J' (rX g)) : G l (d + 1) mX10_howManyBare K 0 [.ref o, UU, UU, UU, UU] [] I J (rX g) := by
  obtain ⟨ea, eb, ec, ee, ef, ej1, ej2, ej3⟩ := hT.2.2.2.2.2.2.2.2.2.2

  refine G_aload_0 (nx := 1) ⟨dX10_howManyBare_0, rfl⟩ ?_
  refine G_getr (nx := 4) (k := o) (r := j1) ⟨dX10_howManyBare_1, rfl⟩ fX10_27 hT.1 yr_10_5 (hT.2.2.2.2.2.2.2.2.2.1 _).2.2.2.2.2.1 ?_
  refine G_lconst (nx := 5) (v := 1) ⟨dX10_howManyBare_4, rfl⟩ (by decide) ?_
  refine G_csRL (nx := 8) ⟨dX10_howManyBare_5, rfl⟩ kX10_69 rfl (Nat.le_of_ble_eq_true rfl) (Nat.le_of_ble_eq_true rfl) (cJ_fillL hT.2.2.2.2.2.2.1 (by decide) ?_)
  refine G_aload_0 (nx := 9) ⟨dX10_howManyBare_8, rfl⟩ ?_
  refine G_getr (nx := 12) (k := o) (r := j2) ⟨dX10_howManyBare_9, rfl⟩ fX10_31 hT.1 yr_10_6 (hT.2.2.2.2.2.2.2.2.2.1 _).2.2.2.2.2.2.1 ?_
  refine G_lconst (nx := 13) (v := 1) ⟨dX10_howManyBare_12, rfl⟩ (by decide) ?_
  refine G_csRL (nx := 16) ⟨dX10_howManyBare_13, rfl⟩ kX10_69 rfl (Nat.le_of_ble_eq_true rfl) (Nat.le_of_ble_eq_true rfl) (cJ_fillL hT.2.2.2.2.2.2.2.1 (by decide) ?_)
  refine G_aload_0 (nx := 17) ⟨dX10_howManyBare_16, rfl⟩ ?_
  refine G_getr (nx := 20) (k := o) (r := j3) ⟨dX10_howManyBare_17, rfl⟩ fX10_34 hT.1 yr_10_7 (hT.2.2.2.2.2.2.2.2.2.1 _).2.2.2.2.2.2.2 ?_
  refine G_lconst (nx := 21) (v := 1) ⟨dX10_howManyBare_20, rfl⟩ (by decide) ?_
  refine G_csRL (nx := 24) ⟨dX10_howManyBare_21, rfl⟩ kX10_69 rfl (Nat.le_of_ble_eq_true rfl) (Nat.le_of_ble_eq_true rfl) (cJ_fillL hT.2.2.2.2.2.2.2.2.1 (by decide) ?_)
  refine G_aload_0 (nx := 25) ⟨dX10_howManyBare_24, rfl⟩ ?_
  refine G_geti (nx := 28) (k := o) ⟨dX10_howManyBare_25, rfl⟩ fX10_37 hT.1 yi_10_8 ?_
  rw [hX.1]
  refine G_iconst (nx := 29) ⟨dX10_howManyBare_28, rfl⟩ ci_1 ?_
  refine G_isub (nx := 30) ⟨dX10_howManyBare_29, rfl⟩ ?_
  rw [show (1 : Int32) = nI 1 by decide, nI_sub (by omega)]
  refine G_istore_1 (nx := 31) ⟨dX10_howManyBare_30, rfl⟩ rfl rfl ?_
  refine lT_ba (d := d + 1) hT hX hP (m - 1) bnI _ UU UU UU rfl (by omega) (fun x hx => ?_) hk
  have hx60 : x < 60 := by have := hX.2; omega
  refine ⟨?_, ?_, ?_⟩
  · rw [wr_ne _ _ _ (by omega), wr_at, if_pos hx60]; rfl
  · rw [wr_ne _ _ _ (by omega), wr_ne _ _ _ (by omega), wr_at, if_pos hx60]; rfl
  · rw [wr_at, if_pos hx60]; rfl
  
  
  

end X85
