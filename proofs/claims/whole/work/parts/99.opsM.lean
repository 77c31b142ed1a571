
theorem lay_comm {gr : Nat → Nat} {a b on : Nat} (hab : ¬ a = b) (x : Nat) : layG gr a b on x = layG gr b a on x := by
  unfold layG
  by_cases e : x = a
  · rw [if_pos e, if_neg (by omega), if_pos e]
  · rw [if_neg e, if_neg e]
theorem ptG_s {is : Nat → Int32} {k : Nat} : ptG is (k + 1) = if k = 0 then ptG is k else layG (ptG is k) k (is k).toNatClampNeg 1 := rfl
theorem XG.add {I : AI} {n : Nat} {gr : Nat → Nat} {k v : Int32} (h : XG I 1 4 n gr) (h12 : n < 12) (h0 : gr n = 0) : XG (w2 (w2 (w2 (w2 I 2 n k) 3 n v) 4 n 0) 1 4 (nI (n + 1))) 1 4 (n + 1) gr := by
  refine ⟨by rw [w2_at], by omega, fun p hp => ?_, fun p hp => ?_⟩
  · rw [w2_row _ _ _ _ (show ¬ 4 = 1 by decide)]
    by_cases e : p = n
    · rw [e, w2_at, h0]; rfl
    · rw [w2_ne _ _ _ _ (by omega), w2_row _ _ _ _ (show ¬ 4 = 3 by decide), w2_row _ _ _ _ (show ¬ 4 = 2 by decide)]
      exact h.2.2.1 p (by omega)
  · have h2 : 2 ^ (n + 1) = 2 ^ n + 2 ^ n := by rw [Nat.pow_succ]; omega
    by_cases e : p = n
    · rw [e, h0]; exact Nat.two_pow_pos _
    · have := h.2.2.2 p (by omega)
      omega
theorem ttO {o a b c e f j1 j2 j3 : Nat} (hT : TT o a b c e f j1 j2 j3) : o < a ∧ o < b ∧ o < c := by
  have h := hT.2.2.2.2.2.2.2.2.2.2
  omega
section X99
variable {l : Launch} {d : Nat} {K : AK} {I : AI} {J : AJ} {g : Bool} {n : Nat} {gr : Nat → Nat}

theorem lX_plant {m : Nat} {o a b c e f j1 j2 j3 : Nat} (hg : rX g 0 12 = some o) (hT : TT o a b c e f j1 j2 j3) (h57 : 4 < o) (hM : XT I o m) (hm0 : 0 < m) (hm12 : m ≤ 12) (hpar : ∀ i, 0 < i → i < m → ∃ a', I c i = nI a' ∧ a' < i) (hk : ∀ (I' : AI), 0 < m → m ≤ 12 → XG I' 1 4 m (ptG (I c) m) → (∀ j, j < m → I' 2 j = I a j ∧ I' 3 j = I b j) → sb (fNt 1 2 3 4) I I' → K (.int (nI m)) I' J (rX g)) : ∀ (k v : Nat) (I1 : AI), m - v = k → v ≤ m → XG I1 1 4 v (ptG (I c) v) → (∀ j, j < v → I1 2 j = I a j ∧ I1 3 j = I b j) → sb (fNt 1 2 3 4) I I1 → G l (d + 40) mX11_plant K 36 [.ref 0, .int (nI v)] [] I1 J (rX g) := by
  intro k
  induction k using Nat.strongRecOn with
  | _ k ih =>
  intro v I1 hvk hv hX hab hs1
  have ho := ttO hT
  have fr : ∀ x y, 4 < x → I1 x y = I x y := fun x y hx => hs1 x y (by simp only [fNt, Bool.or_eq_false_iff, Bool.and_eq_false_iff, beq_eq_false_iff_ne]; omega)
  have fr2 : ∀ x y, 4 < x → (w2 (w2 (w2 (w2 I1 2 v (I a v)) 3 v (I b v)) 4 v 0) 1 4 (nI (v + 1))) x y = I x y := fun x y hx => by
    rw [w2_row _ _ _ _ (by omega), w2_row _ _ _ _ (by omega), w2_row _ _ _ _ (by omega), w2_row _ _ _ _ (by omega)]
    exact fr x y hx
  refine G_iload_1 (nx := 37) ⟨dX11_plant_36, rfl⟩ ?_
  refine G_aload_0 (nx := 38) ⟨dX11_plant_37, rfl⟩ ?_
  refine G_getr (nx := 41) (k := 0) (r := o) ⟨dX11_plant_38, rfl⟩ fX11_90 q_0 yr_11_12 hg ?_
  refine G_geti (nx := 44) (k := o) ⟨dX11_plant_41, rfl⟩ fX11_165 hT.1 yi_10_8 ?_
  rw [fr o 8 (by omega), hM.1]
  refine G_icmpge (tgt := 101) (nx := 47) ⟨dX11_plant_44, rfl⟩ rfl (fun c_44 => ?_) (fun c_44 => ?_)
  · rw [nI_le_iff (by omega) (by omega)] at c_44
    have hve : v = m := by omega
    subst hve
    refine G_aload_0 (nx := 102) ⟨dX11_plant_101, rfl⟩ ?_
    refine G_getr (nx := 105) (k := 0) (r := 1) ⟨dX11_plant_102, rfl⟩ fX11_10 q_0 yr_11_0 (r_0_0 _) ?_
    refine G_geti (nx := 108) (k := 1) ⟨dX11_plant_105, rfl⟩ fX11_115 q_1 yi_4_4 ?_
    rw [hX.1]
    refine G_iret ⟨dX11_plant_108, rfl⟩ rfl ?_
    exact hk I1 hm0 hm12 hX hab hs1
  · rw [nI_le_iff (by omega) (by omega)] at c_44
    have hi60 := in60 (show v < 60 by omega)
    have eci := cl_nI (p := v) (by omega)
    have hX2 := hX.add (k := I a v) (v := I b v) (by omega) (ptG_hi hpar (by omega) v (by omega) v (Nat.le_refl _))
    refine G_aload_0 (nx := 48) ⟨dX11_plant_47, rfl⟩ ?_
    refine G_getr (nx := 51) (k := 0) (r := 1) ⟨dX11_plant_48, rfl⟩ fX11_10 q_0 yr_11_0 (r_0_0 _) ?_
    refine G_aload_0 (nx := 52) ⟨dX11_plant_51, rfl⟩ ?_
    refine G_getr (nx := 55) (k := 0) (r := o) ⟨dX11_plant_52, rfl⟩ fX11_90 q_0 yr_11_12 hg ?_
    refine G_getr (nx := 58) (k := o) (r := a) ⟨dX11_plant_55, rfl⟩ fX11_409 hT.1 yr_10_0 (hT.2.2.2.2.2.2.2.2.2.1 _).1 ?_
    refine G_iload_1 (nx := 59) ⟨dX11_plant_58, rfl⟩ ?_
    refine G_iald (nx := 60) (k := a) ⟨dX11_plant_59, rfl⟩ hT.2.1 (by first | assumption | decide | (unfold vp_in; decide)) ?_
    rw [eci, fr a v (by omega)]
    refine G_aload_0 (nx := 61) ⟨dX11_plant_60, rfl⟩ ?_
    refine G_getr (nx := 64) (k := 0) (r := o) ⟨dX11_plant_61, rfl⟩ fX11_90 q_0 yr_11_12 hg ?_
    refine G_getr (nx := 67) (k := o) (r := b) ⟨dX11_plant_64, rfl⟩ fX11_410 hT.1 yr_10_1 (hT.2.2.2.2.2.2.2.2.2.1 _).2.1 ?_
    refine G_iload_1 (nx := 68) ⟨dX11_plant_67, rfl⟩ ?_
    refine G_iald (nx := 69) (k := b) ⟨dX11_plant_68, rfl⟩ hT.2.2.1 (by first | assumption | decide | (unfold vp_in; decide)) ?_
    rw [eci, fr b v (by omega)]
    refine G_cv2 (nx := 72) ⟨dX11_plant_69, rfl⟩ kX11_118 rfl q_1 rfl (Nat.le_of_ble_eq_true rfl) (Nat.le_of_ble_eq_true rfl) (cN_add nt1 hX (by omega) ?_)
    refine G_pop (nx := 73) ⟨dX11_plant_72, rfl⟩ rfl ?_
    refine G_iload_1 (nx := 74) ⟨dX11_plant_73, rfl⟩ ?_
    refine G_ifle (tgt := 95) (nx := 77) ⟨dX11_plant_74, rfl⟩ rfl (fun c_74 => ?_) (fun c_74 => ?_)
    · refine G_iinc_1 (nx := 98) ⟨dX11_plant_95, rfl⟩ ci_1 rfl ?_
      refine G_goto (tgt := 36) ⟨dX11_plant_98, rfl⟩ rfl ?_
      have hv0 : v = 0 := by
        rcases Nat.eq_zero_or_pos v with q | q
        · exact q
        · rw [i32_le, nI_toInt (by omega), toInt_0] at c_74; omega
      refine G_L (by rw [nI_1]) (ih (m - (v + 1)) (by omega) (v + 1) _ rfl (by omega) (by rw [ptG_s, if_pos hv0]; exact hX2) (fun j hj => by
        rw [w2_row _ _ _ _ (show ¬ 2 = 1 by decide), w2_row _ _ _ _ (show ¬ 2 = 4 by decide), w2_row _ _ _ _ (show ¬ 2 = 3 by decide), w2_row _ _ _ _ (show ¬ 3 = 1 by decide), w2_row _ _ _ _ (show ¬ 3 = 4 by decide)]
        by_cases e1 : j = v
        · rw [e1, w2_at, w2_at]; exact ⟨rfl, rfl⟩
        · rw [w2_ne _ _ _ _ (by omega), w2_ne _ _ _ _ (by omega), w2_row _ _ _ _ (show ¬ 3 = 2 by decide)]; exact hab j (by omega)) ((((hs1.w fNt_a).w fNt_b).w fNt_c).w fNt_o))
    · have hv0 : 0 < v := by
        rcases Nat.eq_zero_or_pos v with q | q
        · rw [q] at c_74; exact absurd (by decide) c_74
        · exact q
      obtain ⟨pa, ep, hpa⟩ := hpar v hv0 (by omega)
      refine G_aload_0 (nx := 78) ⟨dX11_plant_77, rfl⟩ ?_
      refine G_getr (nx := 81) (k := 0) (r := 1) ⟨dX11_plant_78, rfl⟩ fX11_10 q_0 yr_11_0 (r_0_0 _) ?_
      refine G_aload_0 (nx := 82) ⟨dX11_plant_81, rfl⟩ ?_
      refine G_getr (nx := 85) (k := 0) (r := o) ⟨dX11_plant_82, rfl⟩ fX11_90 q_0 yr_11_12 hg ?_
      refine G_getr (nx := 88) (k := o) (r := c) ⟨dX11_plant_85, rfl⟩ fX11_411 hT.1 yr_10_2 (hT.2.2.2.2.2.2.2.2.2.1 _).2.2.1 ?_
      refine G_iload_1 (nx := 89) ⟨dX11_plant_88, rfl⟩ ?_
      refine G_iald (nx := 90) (k := c) ⟨dX11_plant_89, rfl⟩ hT.2.2.2.1 (by first | assumption | decide | (unfold vp_in; decide)) ?_
      rw [eci, fr2 c v (by omega), ep]
      refine G_iload_1 (nx := 91) ⟨dX11_plant_90, rfl⟩ ?_
      refine G_iconst (nx := 92) ⟨dX11_plant_91, rfl⟩ ci_1 ?_
      rw [show (1 : Int32) = nI 1 by decide]
      refine G_cvv3 (nx := 95) ⟨dX11_plant_92, rfl⟩ kX11_133 rfl q_1 rfl (Nat.le_of_ble_eq_true rfl) (Nat.le_of_ble_eq_true rfl) (cN_join (on := 1) nt1 hX2 (show pa < v + 1 by omega) (show v < v + 1 by omega) (by omega) (by omega) ?_)
      refine G_iinc_1 (nx := 98) ⟨dX11_plant_95, rfl⟩ ci_1 rfl ?_
      refine G_goto (tgt := 36) ⟨dX11_plant_98, rfl⟩ rfl ?_
      refine G_L (by rw [nI_1]) (ih (m - (v + 1)) (by omega) (v + 1) _ rfl (by omega) (by rw [ptG_s, if_neg (by omega), ep, cl_nI (by omega)]; exact (hX2.lay (by decide) (on := 1) (show pa < v + 1 by omega) (show v < v + 1 by omega) (by omega) (by omega)).gc (fun x _ => lay_comm (by omega) x)) (fun j hj => by
        rw [w2_row _ _ _ _ (show ¬ 2 = 4 by decide), w2_row _ _ _ _ (show ¬ 2 = 4 by decide), w2_row _ _ _ _ (show ¬ 2 = 1 by decide), w2_row _ _ _ _ (show ¬ 2 = 4 by decide), w2_row _ _ _ _ (show ¬ 2 = 3 by decide), w2_row _ _ _ _ (show ¬ 3 = 4 by decide), w2_row _ _ _ _ (show ¬ 3 = 4 by decide), w2_row _ _ _ _ (show ¬ 3 = 1 by decide), w2_row _ _ _ _ (show ¬ 3 = 4 by decide)]
        by_cases e1 : j = v
        · rw [e1, w2_at, w2_at]; exact ⟨rfl, rfl⟩
        · rw [w2_ne _ _ _ _ (by omega), w2_ne _ _ _ _ (by omega), w2_row _ _ _ _ (show ¬ 3 = 2 by decide)]; exact hab j (by omega)) ((((((hs1.w fNt_a).w fNt_b).w fNt_c).w fNt_o).w fNt_c).w fNt_c))

theorem cX_plant {m : Nat} {o a b c e f j1 j2 j3 : Nat} (hg : rX g 0 12 = some o) (hT : TT o a b c e f j1 j2 j3) (h57 : 4 < o) (hM : XT I o m) (hpar : ∀ i, 0 < i → i < m → ∃ a', I c i = nI a' ∧ a' < i) (hk1 : m = 0 → K (.int (-1)) I J (rX g)) (hk2 : 12 < m → K (.int (-3)) I J (rX g)) (hk : ∀ (I' : AI), 0 < m → m ≤ 12 → XG I' 1 4 m (ptG (I c) m) → (∀ j, j < m → I' 2 j = I a j ∧ I' 3 j = I b j) → sb (fNt 1 2 3 4) I I' → K (.int (nI m)) I' J (rX g)) : G l (d + 40) mX11_plant K 0 [.ref 0, UU] [] I J (rX g) := by
  have hm60 := hM.2
  refine G_aload_0 (nx := 1) ⟨dX11_plant_0, rfl⟩ ?_
  refine G_getr (nx := 4) (k := 0) (r := o) ⟨dX11_plant_1, rfl⟩ fX11_90 q_0 yr_11_12 hg ?_
  refine G_geti (nx := 7) (k := o) ⟨dX11_plant_4, rfl⟩ fX11_165 hT.1 yi_10_8 ?_
  rw [hM.1]
  refine G_ifne (tgt := 12) (nx := 10) ⟨dX11_plant_7, rfl⟩ rfl (fun c_7 => ?_) (fun c_7 => ?_)
  · have hm0 : 0 < m := by
      rcases Nat.eq_zero_or_pos m with q0 | q0
      · exact absurd ((nI_0iff (by omega)).mpr q0) c_7
      · exact q0
    refine G_aload_0 (nx := 13) ⟨dX11_plant_12, rfl⟩ ?_
    refine G_getr (nx := 16) (k := 0) (r := o) ⟨dX11_plant_13, rfl⟩ fX11_90 q_0 yr_11_12 hg ?_
    refine G_geti (nx := 19) (k := o) ⟨dX11_plant_16, rfl⟩ fX11_165 hT.1 yi_10_8 ?_
    rw [hM.1]
    refine G_bipush (nx := 21) ⟨dX11_plant_19, rfl⟩ cb_12 ?_
    refine G_icmple (tgt := 27) (nx := 24) ⟨dX11_plant_21, rfl⟩ rfl (fun c_21 => ?_) (fun c_21 => ?_)
    · rw [show (12 : Int32) = nI 12 by decide, nI_le_iff (by omega) (by omega)] at c_21
      refine G_aload_0 (nx := 28) ⟨dX11_plant_27, rfl⟩ ?_
      refine G_getr (nx := 31) (k := 0) (r := 1) ⟨dX11_plant_28, rfl⟩ fX11_10 q_0 yr_11_0 (r_0_0 _) ?_
      refine G_cvv0 (nx := 34) ⟨dX11_plant_31, rfl⟩ kX11_421 rfl q_1 rfl (Nat.le_of_ble_eq_true rfl) (Nat.le_of_ble_eq_true rfl) (cN_clear nt1 (fun I1 e4 e0 hs1 => ?_))
      refine G_iconst (nx := 35) ⟨dX11_plant_34, rfl⟩ ci_0 ?_
      refine G_istore_1 (nx := 36) ⟨dX11_plant_35, rfl⟩ rfl rfl ?_
      exact G_L (by rw [← nI_0]) (lX_plant hg hT h57 hM hm0 c_21 hpar hk _ 0 I1 rfl (Nat.zero_le _) ⟨e4, by omega, fun p hp => absurd hp (by omega), fun p hp => absurd hp (by omega)⟩ (fun j hj => absurd hj (by omega)) hs1)
    · refine G_bipush (nx := 26) ⟨dX11_plant_24, rfl⟩ cb_m3 ?_
      refine G_iret ⟨dX11_plant_26, rfl⟩ rfl ?_
      rw [show (12 : Int32) = nI 12 by decide, nI_le_iff (by omega) (by omega)] at c_21
      exact hk2 (by omega)
  · refine G_iconst (nx := 11) ⟨dX11_plant_10, rfl⟩ ci_m1 ?_
    refine G_iret ⟨dX11_plant_11, rfl⟩ rfl ?_
    exact hk1 ((nI_0iff (by omega)).mp c_7)

end X99
