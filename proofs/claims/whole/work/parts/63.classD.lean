
def fE (e : Nat) (x _ : Nat) : Bool := x == e
theorem fE_t {e y : Nat} : fE e e y = true := by simp [fE]
theorem fE_f {e x y : Nat} (h : ¬ x = e) : fE e x y = false := by simp [fE, h]
theorem xg_sbE {I I' : AI} {o a b c e n : Nat} {gr : Nat → Nat} (hN : NT o a b c e) (h : XG I o c n gr) (hs : sb (fE e) I I') : XG I' o c n gr := h.sb hs (fE_f (by have := hN.2.2.2.2.2.2; omega)) (fun _ => fE_f (by have := hN.2.2.2.2.2.2; omega))
section X63
variable {l : Launch} {d : Nat} {K : AK} {I : AI} {J : AJ} {g : Bool} {n : Nat} {gr : Nat → Nat}

theorem lN_pay1 {sa sc : Nat} {o a b c e : Nat} (hN : NT o a b c e) (hX : XG I o c n gr) (hgo : ∀ (I' : AI), (∀ j, j < n → I' e j = cst (I a j) (I b j) (nI (pc (gr j))) (nI j)) → sb (fE e) I I' → G l (d + 3) mX4_payUpTo K 33 [.ref o, .int (nI sa), .int (nI sc), .int 0, .int (nI n), UU, UU] [] I' J (rX g)) : ∀ (k i : Nat) (I1 : AI), n - i = k → i ≤ n → (∀ j, j < i → I1 e j = cst (I a j) (I b j) (nI (pc (gr j))) (nI j)) → sb (fE e) I I1 → G l (d + 3) mX4_payUpTo K 5 [.ref o, .int (nI sa), .int (nI sc), .int 0, .int (nI i), UU, UU] [] I1 J (rX g) := by
  intro k
  induction k using Nat.strongRecOn with
  | _ k ih =>
  intro i I1 hik hi hp hs1
  obtain ⟨q1, q2, q3, q4⟩ := hN.2.2.2.2.2.2
  have hn := hX.2.1
  have hX1 := xg_sbE hN hX hs1
  have eci := cl_nI (p := i) (by omega)
  refine G_iload_4 (nx := 7) ⟨dX4_payUpTo_5, rfl⟩ ?_
  refine G_aload_0 (nx := 8) ⟨dX4_payUpTo_7, rfl⟩ ?_
  refine G_geti (nx := 11) (k := o) ⟨dX4_payUpTo_8, rfl⟩ fX4_24 hN.1 yi_4_4 ?_
  rw [hX1.1]
  refine G_icmpge (tgt := 33) (nx := 14) ⟨dX4_payUpTo_11, rfl⟩ rfl (fun c_11 => ?_) (fun c_11 => ?_)
  · rw [nI_le_iff (by omega) (by omega)] at c_11
    have e : i = n := by omega
    subst e
    exact hgo I1 hp hs1
  · rw [nI_le_iff (by omega) (by omega)] at c_11
    have hin : i < n := by omega
    have h12 := in12 hin hn
    refine G_aload_0 (nx := 15) ⟨dX4_payUpTo_14, rfl⟩ ?_
    refine G_getr (nx := 18) (k := o) (r := e) ⟨dX4_payUpTo_15, rfl⟩ fX4_21 hN.1 yr_4_3 (hN.2.2.2.2.2.1 _).2.2.2 ?_
    refine G_iload_4 (nx := 20) ⟨dX4_payUpTo_18, rfl⟩ ?_
    refine G_aload_0 (nx := 21) ⟨dX4_payUpTo_20, rfl⟩ ?_
    refine G_iload_4 (nx := 23) ⟨dX4_payUpTo_21, rfl⟩ ?_
    refine G_cv1 (nx := 26) ⟨dX4_payUpTo_23, rfl⟩ kX4_80 rfl hN.1 rfl (Nat.le_of_ble_eq_true rfl) (Nat.le_of_ble_eq_true rfl) (cN_price hN hX1 hin ?_)
    refine G_iast (nx := 27) (k := e) ⟨dX4_payUpTo_26, rfl⟩ hN.2.2.2.2.1 (by first | assumption | decide | (unfold vp_in; decide)) ?_
    rw [eci, hs1 a i (fE_f (by omega)), hs1 b i (fE_f (by omega))]
    refine G_iinc_4 (nx := 30) ⟨dX4_payUpTo_27, rfl⟩ ci_1 rfl ?_
    refine G_goto (tgt := 5) ⟨dX4_payUpTo_30, rfl⟩ rfl ?_
    refine G_L (by rw [nI_1]) (ih (n - (i + 1)) (by omega) (i + 1) _ rfl (by omega) (fun j hj => ?_) (hs1.w fE_t))
    by_cases e : j = i
    · subst e; rw [w2_at]
    · rw [w2_ne _ _ _ _ (by omega)]; exact hp j (by omega)

theorem lN_pay2 {sa sc : Nat} {A B : Int32} {x : Nat} {S0 : PY} {o a b c e : Nat} (hN : NT o a b c e) (hX : XG I o c n gr) (hsa : sa ≤ 12) (hsc : sc ≤ 12) (hx : x < n) (hret : x = sa → x < sc → sc < n → ∀ (I' : AI), I' e = (lp (pyI gr A B x) sc S0).1 → sb (fE e) I I' → K (.int (lp (pyI gr A B x) sc S0).2.1) I' J (rX g)) (hgo : ¬ (x = sa ∧ x < sc ∧ sc < n) → ∀ (I' : AI) (x6 : Value), notL x6 = true → I' e = (lp (pyI gr A B x) n S0).1 → sb (fE e) I I' → G l (d + 2) mX4_payUpTo K 142 [.ref o, .int (nI sa), .int (nI sc), .int (lp (pyI gr A B x) n S0).2.1, .int (nI x), .int (nI n), x6] [] I' J (rX g)) : ∀ (k y : Nat) (I1 : AI) (x6 : Value), notL x6 = true → n - y = k → x < y → y ≤ n → (x = sa → x < sc → sc < n → y ≤ sc) → I1 e = (lp (pyI gr A B x) y S0).1 → sb (fE e) I I1 → G l (d + 2) mX4_payUpTo K 51 [.ref o, .int (nI sa), .int (nI sc), .int (lp (pyI gr A B x) y S0).2.1, .int (nI x), .int (nI y), x6] [] I1 J (rX g) := by
  intro k
  induction k using Nat.strongRecOn with
  | _ k ih =>
  intro y I1 x6 hx6 hyk hxy hy hst hP hs1
  obtain ⟨q1, q2, q3, q4⟩ := hN.2.2.2.2.2.2
  have hn := hX.2.1
  have hX1 := xg_sbE hN hX hs1
  have hix := in12 hx hn
  have ecx := cl_nI (p := x) (by omega)
  have ecy := cl_nI (p := y) (by omega)
  refine G_iload_5 (nx := 53) ⟨dX4_payUpTo_51, rfl⟩ ?_
  refine G_aload_0 (nx := 54) ⟨dX4_payUpTo_53, rfl⟩ ?_
  refine G_geti (nx := 57) (k := o) ⟨dX4_payUpTo_54, rfl⟩ fX4_24 hN.1 yi_4_4 ?_
  rw [hX1.1]
  refine G_icmpge (tgt := 142) (nx := 60) ⟨dX4_payUpTo_57, rfl⟩ rfl (fun c_57 => ?_) (fun c_57 => ?_)
  · rw [nI_le_iff (by omega) (by omega)] at c_57
    have e : y = n := by omega
    subst e
    exact hgo (fun h => by have := hst h.1 h.2.1 h.2.2; omega) I1 _ hx6 hP hs1
  · rw [nI_le_iff (by omega) (by omega)] at c_57
    have hyn : y < n := by omega
    have hiy := in12 hyn hn
    refine G_iload_4 (nx := 62) ⟨dX4_payUpTo_60, rfl⟩ ?_
    refine G_iload_1 (nx := 63) ⟨dX4_payUpTo_62, rfl⟩ ?_
    refine G_icmpne (tgt := 74) (nx := 66) ⟨dX4_payUpTo_63, rfl⟩ rfl (fun c_63 => ?_) (fun c_63 => ?_)
    · refine G_aload_0 (nx := 75) ⟨dX4_payUpTo_74, rfl⟩ ?_
      refine G_iload_4 (nx := 77) ⟨dX4_payUpTo_75, rfl⟩ ?_
      refine G_iload_5 (nx := 79) ⟨dX4_payUpTo_77, rfl⟩ ?_
      refine G_cv2 (nx := 82) ⟨dX4_payUpTo_79, rfl⟩ kX4_83 rfl hN.1 rfl (Nat.le_of_ble_eq_true rfl) (Nat.le_of_ble_eq_true rfl) (cN_joined hN hX1 hx hyn ?_)
      refine G_ifne (tgt := 88) (nx := 85) ⟨dX4_payUpTo_82, rfl⟩ rfl (fun c_82 => ?_) (fun c_82 => ?_)
      · refine G_aload_0 (nx := 89) ⟨dX4_payUpTo_88, rfl⟩ ?_
        refine G_getr (nx := 92) (k := o) (r := e) ⟨dX4_payUpTo_89, rfl⟩ fX4_21 hN.1 yr_4_3 (hN.2.2.2.2.2.1 _).2.2.2 ?_
        refine G_iload_4 (nx := 94) ⟨dX4_payUpTo_92, rfl⟩ ?_
        refine G_iald (nx := 95) (k := e) ⟨dX4_payUpTo_94, rfl⟩ hN.2.2.2.2.1 (by first | assumption | decide | (unfold vp_in; decide)) ?_
        rw [ecx, hP]
        refine G_aload_0 (nx := 96) ⟨dX4_payUpTo_95, rfl⟩ ?_
        refine G_getr (nx := 99) (k := o) (r := e) ⟨dX4_payUpTo_96, rfl⟩ fX4_21 hN.1 yr_4_3 (hN.2.2.2.2.2.1 _).2.2.2 ?_
        refine G_iload_5 (nx := 101) ⟨dX4_payUpTo_99, rfl⟩ ?_
        refine G_iald (nx := 102) (k := e) ⟨dX4_payUpTo_101, rfl⟩ hN.2.2.2.2.1 (by first | assumption | decide | (unfold vp_in; decide)) ?_
        rw [ecy]
        refine G_mmin (nx := 105) ⟨dX4_payUpTo_102, rfl⟩ kX4_86 (Nat.le_of_ble_eq_true rfl) ?_
        refine G_istore_6 (nx := 107) ⟨dX4_payUpTo_105, rfl⟩ rfl rfl ?_
        refine G_aload_0 (nx := 108) ⟨dX4_payUpTo_107, rfl⟩ ?_
        refine G_getr (nx := 111) (k := o) (r := e) ⟨dX4_payUpTo_108, rfl⟩ fX4_21 hN.1 yr_4_3 (hN.2.2.2.2.2.1 _).2.2.2 ?_
        refine G_iload_4 (nx := 113) ⟨dX4_payUpTo_111, rfl⟩ ?_
        refine G_dup2 (nx := 114) ⟨dX4_payUpTo_113, rfl⟩ rfl rfl ?_
        refine G_iald (nx := 115) (k := e) ⟨dX4_payUpTo_114, rfl⟩ hN.2.2.2.2.1 (by first | assumption | decide | (unfold vp_in; decide)) ?_
        rw [ecx, hP]
        refine G_iload_6 (nx := 117) ⟨dX4_payUpTo_115, rfl⟩ ?_
        refine G_isub (nx := 118) ⟨dX4_payUpTo_117, rfl⟩ ?_
        refine G_iast (nx := 119) (k := e) ⟨dX4_payUpTo_118, rfl⟩ hN.2.2.2.2.1 (by first | assumption | decide | (unfold vp_in; decide)) ?_
        rw [ecx]
        refine G_aload_0 (nx := 120) ⟨dX4_payUpTo_119, rfl⟩ ?_
        refine G_getr (nx := 123) (k := o) (r := e) ⟨dX4_payUpTo_120, rfl⟩ fX4_21 hN.1 yr_4_3 (hN.2.2.2.2.2.1 _).2.2.2 ?_
        refine G_iload_5 (nx := 125) ⟨dX4_payUpTo_123, rfl⟩ ?_
        refine G_dup2 (nx := 126) ⟨dX4_payUpTo_125, rfl⟩ rfl rfl ?_
        refine G_iald (nx := 127) (k := e) ⟨dX4_payUpTo_126, rfl⟩ hN.2.2.2.2.1 (by first | assumption | decide | (unfold vp_in; decide)) ?_
        rw [ecy, w2_ne _ _ _ _ (by omega), hP]
        refine G_iload_6 (nx := 129) ⟨dX4_payUpTo_127, rfl⟩ ?_
        refine G_isub (nx := 130) ⟨dX4_payUpTo_129, rfl⟩ ?_
        refine G_iast (nx := 131) (k := e) ⟨dX4_payUpTo_130, rfl⟩ hN.2.2.2.2.1 (by first | assumption | decide | (unfold vp_in; decide)) ?_
        rw [ecy]
        refine G_iload_3 (nx := 132) ⟨dX4_payUpTo_131, rfl⟩ ?_
        refine G_iload_6 (nx := 134) ⟨dX4_payUpTo_132, rfl⟩ ?_
        refine G_iadd (nx := 135) ⟨dX4_payUpTo_134, rfl⟩ ?_
        refine G_istore_3 (nx := 136) ⟨dX4_payUpTo_135, rfl⟩ rfl rfl ?_
        refine G_iinc_5 (nx := 139) ⟨dX4_payUpTo_136, rfl⟩ ci_1 rfl ?_
        refine G_goto (tgt := 51) ⟨dX4_payUpTo_139, rfl⟩ rfl ?_
        rw [nI_eq (by omega) (by omega)] at c_63
        rw [bi_n0] at c_82
        have em : (if (lp (pyI gr A B x) y S0).1 y < (lp (pyI gr A B x) y S0).1 x then (lp (pyI gr A B x) y S0).1 y else (lp (pyI gr A B x) y S0).1 x) = pyM (lp (pyI gr A B x) y S0).1 x y := by
          unfold pyM
          by_cases h : (lp (pyI gr A B x) y S0).1 y < (lp (pyI gr A B x) y S0).1 x
          · rw [if_pos h, if_pos (by rw [i32_lt] at h; rw [i32_le]; omega)]
          · rw [if_neg h]
            by_cases h2 : (lp (pyI gr A B x) y S0).1 y ≤ (lp (pyI gr A B x) y S0).1 x
            · rw [if_pos h2]
              apply i32_of_toInt
              rw [i32_lt] at h
              rw [i32_le] at h2
              omega
            · rw [if_neg h2]
        have e1 : ((lp (pyI gr A B x) (y + 1) S0)).1 = upd (upd (lp (pyI gr A B x) y S0).1 x ((lp (pyI gr A B x) y S0).1 x - pyM (lp (pyI gr A B x) y S0).1 x y)) y ((lp (pyI gr A B x) y S0).1 y - pyM (lp (pyI gr A B x) y S0).1 x y) := by rw [lp_s, pyI, if_pos ⟨hxy, c_82⟩]
        have e2 : ((lp (pyI gr A B x) (y + 1) S0)).2.1 = (lp (pyI gr A B x) y S0).2.1 + pyM (lp (pyI gr A B x) y S0).1 x y := by rw [lp_s, pyI, if_pos ⟨hxy, c_82⟩]
        refine G_L (by rw [e2, nI_1, em]) (ih (n - (y + 1)) (by omega) (y + 1) _ _ rfl rfl (by omega) (by omega) (fun h1 h2 h3 => by have := hst h1 h2 h3; omega) ?_ ((hs1.w fE_t).w fE_t))
        rw [e1, ← w2_upd, ← w2_upd, hP, em]
      · refine G_goto (tgt := 136) ⟨dX4_payUpTo_85, rfl⟩ rfl ?_
        refine G_iinc_5 (nx := 139) ⟨dX4_payUpTo_136, rfl⟩ ci_1 rfl ?_
        refine G_goto (tgt := 51) ⟨dX4_payUpTo_139, rfl⟩ rfl ?_
        rw [nI_eq (by omega) (by omega)] at c_63
        rw [bi_0] at c_82
        have est : (lp (pyI gr A B x) (y + 1) S0) = (lp (pyI gr A B x) y S0) := by rw [lp_s, pyI, if_neg (fun h => by rw [c_82] at h; cases h.2)]
        exact G_L (by rw [est, nI_1]) (ih (n - (y + 1)) (by omega) (y + 1) I1 _ hx6 rfl (by omega) (by omega) (fun h1 h2 h3 => by have := hst h1 h2 h3; omega) (by rw [est]; exact hP) hs1)
    · refine G_iload_5 (nx := 68) ⟨dX4_payUpTo_66, rfl⟩ ?_
      refine G_iload_2 (nx := 69) ⟨dX4_payUpTo_68, rfl⟩ ?_
      refine G_icmpne (tgt := 74) (nx := 72) ⟨dX4_payUpTo_69, rfl⟩ rfl (fun c_69 => ?_) (fun c_69 => ?_)
      · refine G_aload_0 (nx := 75) ⟨dX4_payUpTo_74, rfl⟩ ?_
        refine G_iload_4 (nx := 77) ⟨dX4_payUpTo_75, rfl⟩ ?_
        refine G_iload_5 (nx := 79) ⟨dX4_payUpTo_77, rfl⟩ ?_
        refine G_cv2 (nx := 82) ⟨dX4_payUpTo_79, rfl⟩ kX4_83 rfl hN.1 rfl (Nat.le_of_ble_eq_true rfl) (Nat.le_of_ble_eq_true rfl) (cN_joined hN hX1 hx hyn ?_)
        refine G_ifne (tgt := 88) (nx := 85) ⟨dX4_payUpTo_82, rfl⟩ rfl (fun c_82 => ?_) (fun c_82 => ?_)
        · refine G_aload_0 (nx := 89) ⟨dX4_payUpTo_88, rfl⟩ ?_
          refine G_getr (nx := 92) (k := o) (r := e) ⟨dX4_payUpTo_89, rfl⟩ fX4_21 hN.1 yr_4_3 (hN.2.2.2.2.2.1 _).2.2.2 ?_
          refine G_iload_4 (nx := 94) ⟨dX4_payUpTo_92, rfl⟩ ?_
          refine G_iald (nx := 95) (k := e) ⟨dX4_payUpTo_94, rfl⟩ hN.2.2.2.2.1 (by first | assumption | decide | (unfold vp_in; decide)) ?_
          rw [ecx, hP]
          refine G_aload_0 (nx := 96) ⟨dX4_payUpTo_95, rfl⟩ ?_
          refine G_getr (nx := 99) (k := o) (r := e) ⟨dX4_payUpTo_96, rfl⟩ fX4_21 hN.1 yr_4_3 (hN.2.2.2.2.2.1 _).2.2.2 ?_
          refine G_iload_5 (nx := 101) ⟨dX4_payUpTo_99, rfl⟩ ?_
          refine G_iald (nx := 102) (k := e) ⟨dX4_payUpTo_101, rfl⟩ hN.2.2.2.2.1 (by first | assumption | decide | (unfold vp_in; decide)) ?_
          rw [ecy]
          refine G_mmin (nx := 105) ⟨dX4_payUpTo_102, rfl⟩ kX4_86 (Nat.le_of_ble_eq_true rfl) ?_
          refine G_istore_6 (nx := 107) ⟨dX4_payUpTo_105, rfl⟩ rfl rfl ?_
          refine G_aload_0 (nx := 108) ⟨dX4_payUpTo_107, rfl⟩ ?_
          refine G_getr (nx := 111) (k := o) (r := e) ⟨dX4_payUpTo_108, rfl⟩ fX4_21 hN.1 yr_4_3 (hN.2.2.2.2.2.1 _).2.2.2 ?_
          refine G_iload_4 (nx := 113) ⟨dX4_payUpTo_111, rfl⟩ ?_
          refine G_dup2 (nx := 114) ⟨dX4_payUpTo_113, rfl⟩ rfl rfl ?_
          refine G_iald (nx := 115) (k := e) ⟨dX4_payUpTo_114, rfl⟩ hN.2.2.2.2.1 (by first | assumption | decide | (unfold vp_in; decide)) ?_
          rw [ecx, hP]
          refine G_iload_6 (nx := 117) ⟨dX4_payUpTo_115, rfl⟩ ?_
          refine G_isub (nx := 118) ⟨dX4_payUpTo_117, rfl⟩ ?_
          refine G_iast (nx := 119) (k := e) ⟨dX4_payUpTo_118, rfl⟩ hN.2.2.2.2.1 (by first | assumption | decide | (unfold vp_in; decide)) ?_
          rw [ecx]
          refine G_aload_0 (nx := 120) ⟨dX4_payUpTo_119, rfl⟩ ?_
          refine G_getr (nx := 123) (k := o) (r := e) ⟨dX4_payUpTo_120, rfl⟩ fX4_21 hN.1 yr_4_3 (hN.2.2.2.2.2.1 _).2.2.2 ?_
          refine G_iload_5 (nx := 125) ⟨dX4_payUpTo_123, rfl⟩ ?_
          refine G_dup2 (nx := 126) ⟨dX4_payUpTo_125, rfl⟩ rfl rfl ?_
          refine G_iald (nx := 127) (k := e) ⟨dX4_payUpTo_126, rfl⟩ hN.2.2.2.2.1 (by first | assumption | decide | (unfold vp_in; decide)) ?_
          rw [ecy, w2_ne _ _ _ _ (by omega), hP]
          refine G_iload_6 (nx := 129) ⟨dX4_payUpTo_127, rfl⟩ ?_
          refine G_isub (nx := 130) ⟨dX4_payUpTo_129, rfl⟩ ?_
          refine G_iast (nx := 131) (k := e) ⟨dX4_payUpTo_130, rfl⟩ hN.2.2.2.2.1 (by first | assumption | decide | (unfold vp_in; decide)) ?_
          rw [ecy]
          refine G_iload_3 (nx := 132) ⟨dX4_payUpTo_131, rfl⟩ ?_
          refine G_iload_6 (nx := 134) ⟨dX4_payUpTo_132, rfl⟩ ?_
          refine G_iadd (nx := 135) ⟨dX4_payUpTo_134, rfl⟩ ?_
          refine G_istore_3 (nx := 136) ⟨dX4_payUpTo_135, rfl⟩ rfl rfl ?_
          refine G_iinc_5 (nx := 139) ⟨dX4_payUpTo_136, rfl⟩ ci_1 rfl ?_
          refine G_goto (tgt := 51) ⟨dX4_payUpTo_139, rfl⟩ rfl ?_
          rw [nI_eq (by omega) (by omega)] at c_63
          rw [nI_eq (by omega) (by omega)] at c_69
          rw [bi_n0] at c_82
          have em : (if (lp (pyI gr A B x) y S0).1 y < (lp (pyI gr A B x) y S0).1 x then (lp (pyI gr A B x) y S0).1 y else (lp (pyI gr A B x) y S0).1 x) = pyM (lp (pyI gr A B x) y S0).1 x y := by
            unfold pyM
            by_cases h : (lp (pyI gr A B x) y S0).1 y < (lp (pyI gr A B x) y S0).1 x
            · rw [if_pos h, if_pos (by rw [i32_lt] at h; rw [i32_le]; omega)]
            · rw [if_neg h]
              by_cases h2 : (lp (pyI gr A B x) y S0).1 y ≤ (lp (pyI gr A B x) y S0).1 x
              · rw [if_pos h2]
                apply i32_of_toInt
                rw [i32_lt] at h
                rw [i32_le] at h2
                omega
              · rw [if_neg h2]
          have e1 : ((lp (pyI gr A B x) (y + 1) S0)).1 = upd (upd (lp (pyI gr A B x) y S0).1 x ((lp (pyI gr A B x) y S0).1 x - pyM (lp (pyI gr A B x) y S0).1 x y)) y ((lp (pyI gr A B x) y S0).1 y - pyM (lp (pyI gr A B x) y S0).1 x y) := by rw [lp_s, pyI, if_pos ⟨hxy, c_82⟩]
          have e2 : ((lp (pyI gr A B x) (y + 1) S0)).2.1 = (lp (pyI gr A B x) y S0).2.1 + pyM (lp (pyI gr A B x) y S0).1 x y := by rw [lp_s, pyI, if_pos ⟨hxy, c_82⟩]
          refine G_L (by rw [e2, nI_1, em]) (ih (n - (y + 1)) (by omega) (y + 1) _ _ rfl rfl (by omega) (by omega) (fun h1 h2 h3 => by have := hst h1 h2 h3; omega) ?_ ((hs1.w fE_t).w fE_t))
          rw [e1, ← w2_upd, ← w2_upd, hP, em]
        · refine G_goto (tgt := 136) ⟨dX4_payUpTo_85, rfl⟩ rfl ?_
          refine G_iinc_5 (nx := 139) ⟨dX4_payUpTo_136, rfl⟩ ci_1 rfl ?_
          refine G_goto (tgt := 51) ⟨dX4_payUpTo_139, rfl⟩ rfl ?_
          rw [nI_eq (by omega) (by omega)] at c_63
          rw [nI_eq (by omega) (by omega)] at c_69
          rw [bi_0] at c_82
          have est : (lp (pyI gr A B x) (y + 1) S0) = (lp (pyI gr A B x) y S0) := by rw [lp_s, pyI, if_neg (fun h => by rw [c_82] at h; cases h.2)]
          exact G_L (by rw [est, nI_1]) (ih (n - (y + 1)) (by omega) (y + 1) I1 _ hx6 rfl (by omega) (by omega) (fun h1 h2 h3 => by have := hst h1 h2 h3; omega) (by rw [est]; exact hP) hs1)
      · refine G_iload_3 (nx := 73) ⟨dX4_payUpTo_72, rfl⟩ ?_
        refine G_iret ⟨dX4_payUpTo_73, rfl⟩ rfl ?_
        rw [nI_eq (by omega) (by omega)] at c_63
        rw [nI_eq (by omega) (by omega)] at c_69
        subst c_69
        exact hret c_63 hxy hyn I1 hP hs1

theorem lN_pay3 {sa sc : Nat} {A B : Int32} {Q0 : Nat → Int32} {o a b c e : Nat} (hN : NT o a b c e) (hX : XG I o c n gr) (hsa : sa ≤ 12) (hsc : sc ≤ 12) (hret : sa < sc → sc < n → ∀ (I' : AI), I' e = (lp (pyI gr A B sa) sc (lp (pyO gr A B n) sa (Q0, 0, 0))).1 → sb (fE e) I I' → K (.int (lp (pyI gr A B sa) sc (lp (pyO gr A B n) sa (Q0, 0, 0))).2.1) I' J (rX g)) (hk : ¬ (sa < sc ∧ sc < n) → ∀ (I' : AI), I' e = (lp (pyO gr A B n) n (Q0, 0, 0)).1 → sb (fE e) I I' → K (.int (lp (pyO gr A B n) n (Q0, 0, 0)).2.1) I' J (rX g)) : ∀ (k x : Nat) (I1 : AI) (x5 x6 : Value), notL x5 = true → notL x6 = true → n - x = k → x ≤ n → (sa < sc → sc < n → x ≤ sa) → I1 e = (lp (pyO gr A B n) x (Q0, 0, 0)).1 → sb (fE e) I I1 → G l (d + 2) mX4_payUpTo K 36 [.ref o, .int (nI sa), .int (nI sc), .int (lp (pyO gr A B n) x (Q0, 0, 0)).2.1, .int (nI x), x5, x6] [] I1 J (rX g) := by
  intro k
  induction k using Nat.strongRecOn with
  | _ k ih =>
  intro x I1 x5 x6 hx5 hx6 hxk hx hst hP hs1
  have hn := hX.2.1
  have hX1 := xg_sbE hN hX hs1
  refine G_iload_4 (nx := 38) ⟨dX4_payUpTo_36, rfl⟩ ?_
  refine G_aload_0 (nx := 39) ⟨dX4_payUpTo_38, rfl⟩ ?_
  refine G_geti (nx := 42) (k := o) ⟨dX4_payUpTo_39, rfl⟩ fX4_24 hN.1 yi_4_4 ?_
  rw [hX1.1]
  refine G_icmpge (tgt := 148) (nx := 45) ⟨dX4_payUpTo_42, rfl⟩ rfl (fun c_42 => ?_) (fun c_42 => ?_)
  · refine G_iload_3 (nx := 149) ⟨dX4_payUpTo_148, rfl⟩ ?_
    refine G_iret ⟨dX4_payUpTo_149, rfl⟩ rfl ?_
    rw [nI_le_iff (by omega) (by omega)] at c_42
    have e : x = n := by omega
    subst e
    exact hk (fun h => by have := hst h.1 h.2; omega) I1 hP hs1
  · rw [nI_le_iff (by omega) (by omega)] at c_42
    have hxn : x < n := by omega
    refine G_iload_4 (nx := 47) ⟨dX4_payUpTo_45, rfl⟩ ?_
    refine G_iconst (nx := 48) ⟨dX4_payUpTo_47, rfl⟩ ci_1 ?_
    refine G_iadd (nx := 49) ⟨dX4_payUpTo_48, rfl⟩ ?_
    refine G_istore_5 (nx := 51) ⟨dX4_payUpTo_49, rfl⟩ rfl rfl ?_
    rw [nI_1]
    have hin := pyI_le gr A B x (x + 1) (Nat.le_refl _) (lp (pyO gr A B n) x (Q0, 0, 0))
    refine G_L (by rw [hin]) (lN_pay2 (A := A) (B := B) (I := I1) (S0 := (lp (pyO gr A B n) x (Q0, 0, 0))) hN hX1 hsa hsc hxn (fun h1 h2 h3 I2 hP2 hs2 => ?_) (fun hne I2 y6 hy6 hP2 hs2 => ?_) _ (x + 1) I1 x6 hx6 rfl (by omega) (by omega) (fun h1 h2 h3 => by omega) (by rw [hin]; exact hP) sb.rf)
    · subst h1
      exact hret h2 h3 I2 hP2 (hs1.tr hs2)
    · refine G_iinc_4 (nx := 145) ⟨dX4_payUpTo_142, rfl⟩ ci_1 rfl ?_
      refine G_goto (tgt := 36) ⟨dX4_payUpTo_145, rfl⟩ rfl ?_
      exact G_L (by rw [nI_1]; rfl) (ih (n - (x + 1)) (by omega) (x + 1) I2 _ y6 rfl hy6 rfl (by omega) (fun h1 h2 => by have := hst h1 h2; omega) hP2 (hs1.tr hs2))
    

theorem cN_payUpTo {sa sc : Nat} {A B : Int32} {P0 : Nat → Int32} {o a b c e : Nat} (hN : NT o a b c e) (hX : XG I o c n gr) (hsa : sa ≤ 12) (hsc : sc ≤ 12) (hP0 : ∀ j, j < n → cst (I a j) (I b j) (nI (pc (gr j))) (nI j) = P0 j) (hret : sa < sc → sc < n → ∀ (I' : AI), (∀ j, j < n → I' e j = (lp (pyI gr A B sa) sc (lp (pyO gr A B n) sa (P0, 0, 0))).1 j) → sb (fE e) I I' → K (.int (lp (pyI gr A B sa) sc (lp (pyO gr A B n) sa (P0, 0, 0))).2.1) I' J (rX g)) (hk : ¬ (sa < sc ∧ sc < n) → ∀ (I' : AI), (∀ j, j < n → I' e j = (pyN n gr A B P0).1 j) → sb (fE e) I I' → K (.int (pyN n gr A B P0).2.1) I' J (rX g)) : G l (d + 3) mX4_payUpTo K 0 [.ref o, .int (nI sa), .int (nI sc), UU, UU, UU, UU] [] I J (rX g) := by
  refine G_iconst (nx := 1) ⟨dX4_payUpTo_0, rfl⟩ ci_0 ?_
  refine G_istore_3 (nx := 2) ⟨dX4_payUpTo_1, rfl⟩ rfl rfl ?_
  refine G_iconst (nx := 3) ⟨dX4_payUpTo_2, rfl⟩ ci_0 ?_
  refine G_istore_4 (nx := 5) ⟨dX4_payUpTo_3, rfl⟩ rfl rfl ?_
  refine G_L (by rw [← nI_0]) (lN_pay1 (d := d) hN hX (fun I1 hp hs1 => ?_) _ 0 I rfl (by omega) (fun j hj => absurd hj (by omega)) sb.rf)
  have hX1 := xg_sbE hN hX hs1
  have hE0 : pyE n (I1 e, 0, 0) (P0, 0, 0) := ⟨fun j hj => (hp j hj).trans (hP0 j hj), rfl⟩
  have hE : pyE n (lp (pyO gr A B n) n (I1 e, 0, 0)) (pyN n gr A B P0) := pyN_congr hE0 n (Nat.le_refl n)
  refine G_iconst (nx := 34) ⟨dX4_payUpTo_33, rfl⟩ ci_0 ?_
  refine G_istore_4 (nx := 36) ⟨dX4_payUpTo_34, rfl⟩ rfl rfl ?_
  refine G_L (by rw [← nI_0]; rfl) (lN_pay3 (d := d + 1) (A := A) (B := B) (Q0 := I1 e) hN hX1 hsa hsc (fun h1 h2 I2 h3 h4 => ?_) (fun hne I2 h3 h4 => ?_) _ 0 I1 UU UU rfl rfl rfl (by omega) (fun _ _ => by omega) rfl sb.rf)
  · have hE2 : pyE n (lp (pyI gr A B sa) sc (lp (pyO gr A B n) sa (I1 e, 0, 0))) (lp (pyI gr A B sa) sc (lp (pyO gr A B n) sa (P0, 0, 0))) := pyO_congr (by omega) (pyN_congr hE0 sa (by omega)) sc (by omega)
    rw [hE2.2]
    exact hret h1 h2 I2 (fun j hj => by rw [h3]; exact hE2.1 j hj) (hs1.tr h4)
  · rw [hE.2]
    exact hk hne I2 (fun j hj => by rw [h3]; exact hE.1 j hj) (hs1.tr h4)
  

end X63
