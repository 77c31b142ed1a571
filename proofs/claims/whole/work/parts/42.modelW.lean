
/-- the net of the first k nodes of a tree -/
def ptG (is : Nat → Int32) : Nat → Nat → Nat
  | 0 => fun _ => 0
  | k + 1 => if k = 0 then ptG is k else layG (ptG is k) k (is k).toNatClampNeg 1
theorem ptG_hi {is : Nat → Int32} {m : Nat} (hpar : ∀ i, 0 < i → i < m → ∃ a, is i = nI a ∧ a < i) (hm : m ≤ 60) : ∀ k, k ≤ m → ∀ x, k ≤ x → ptG is k x = 0 := by
  intro k
  induction k with
  | zero => intro _ x _; rfl
  | succ k ih =>
    intro hk x hx
    rw [ptG]
    by_cases e : k = 0
    · rw [if_pos e]; exact ih (by omega) x (by omega)
    · rw [if_neg e]
      obtain ⟨a, ea, ha⟩ := hpar k (by omega) (by omega)
      rw [ea, cl_nI (by omega)]
      unfold layG
      rw [if_neg (by omega), if_neg (by omega)]
      exact ih (by omega) x (by omega)
theorem MG.come {I : AI} {n : Nat} {gr : Nat → Nat} (h : MG I n gr) (h12 : n < 12) (h0 : gr n = 0) {k v : Int32} : MG (w2 (w2 (w2 (w2 I 76 n k) 77 n v) 78 n 0) 75 0 (nI (n + 1))) (n + 1) gr := by
  refine ⟨w2_at _ _ _ _, by omega, fun p hp => ?_, fun p hp => ?_⟩
  · rw [w2_row _ _ _ _ (show ¬ 78 = 75 by decide)]
    by_cases e : p = n
    · subst e; rw [w2_at, h0, nI_0]
    · rw [w2_ne _ _ _ _ (by omega), w2_row _ _ _ _ (show ¬ 78 = 77 by decide), w2_row _ _ _ _ (show ¬ 78 = 76 by decide)]
      exact h.2.2.1 p (by omega)
  · by_cases e : p = n
    · subst e; rw [h0]; exact Nat.two_pow_pos _
    · exact Nat.lt_of_lt_of_le (h.2.2.2 p (by omega)) (Nat.pow_le_pow_right (by omega) (by omega))
section M42
variable {l : Launch} {d : Nat} {K : AK} {I : AI} {J : AJ} {g : Bool} {n : Nat} {gr : Nat → Nat}

theorem lM_plant {m : Nat} (hm : m ≤ 12) (h26 : I 75 26 = nI m) (hpar : ∀ i, 0 < i → i < m → ∃ a, I 91 i = nI a ∧ a < i) (hk : ∀ (I' : AI), MG I' m (ptG (I 91) m) → (∀ j, j < m → I' 76 j = I 89 j ∧ I' 77 j = I 90 j) → sb fB I I' → K (.int (nI m)) I' J (rX g)) : ∀ (k i : Nat) (I1 : AI), m - i = k → i ≤ m → MG I1 i (ptG (I 91) i) → (∀ j, j < i → I1 76 j = I 89 j ∧ I1 77 j = I 90 j) → sb fB I I1 → G l (d + 1) mX12_plant K 28 [.ref 75, .int (nI i)] [] I1 J (rX g) := by
  intro k
  induction k using Nat.strongRecOn with
  | _ k ih =>
  intro i I1 hik him hG hrow hs1
  have e26 : I1 75 26 = nI m := by rw [hs1 75 26 rfl]; exact h26
  have eci := cl_nI (p := i) (by omega)
  have h0 := ptG_hi hpar (by omega) i him i (Nat.le_refl _)
  refine G_iload_1 (nx := 29) ⟨dX12_plant_28, rfl⟩ ?_
  refine G_aload_0 (nx := 30) ⟨dX12_plant_29, rfl⟩ ?_
  refine G_geti (nx := 33) (k := 75) ⟨dX12_plant_30, rfl⟩ fX12_165 q_75 yi_12_26 ?_
  rw [e26]
  refine G_icmpge (tgt := 74) (nx := 36) ⟨dX12_plant_33, rfl⟩ rfl (fun c_33 => ?_) (fun c_33 => ?_)
  · refine G_aload_0 (nx := 75) ⟨dX12_plant_74, rfl⟩ ?_
    refine G_geti (nx := 78) (k := 75) ⟨dX12_plant_75, rfl⟩ fX12_122 q_75 yi_12_0 ?_
    rw [hG.1]
    refine G_iret ⟨dX12_plant_78, rfl⟩ rfl ?_
    rw [nI_le_iff (by omega) (by omega)] at c_33
    have e : i = m := by omega
    subst e
    exact hk I1 hG hrow hs1
  · rw [nI_le_iff (by omega) (by omega)] at c_33
    have hi60 := in60 (p := i) (by omega)
    refine G_aload_0 (nx := 37) ⟨dX12_plant_36, rfl⟩ ?_
    refine G_aload_0 (nx := 38) ⟨dX12_plant_37, rfl⟩ ?_
    refine G_getr (nx := 41) (k := 75) (r := 89) ⟨dX12_plant_38, rfl⟩ fX12_53 q_75 yr_12_27 (r_75_27 _) ?_
    refine G_iload_1 (nx := 42) ⟨dX12_plant_41, rfl⟩ ?_
    refine G_iald (nx := 43) (k := 89) ⟨dX12_plant_42, rfl⟩ q_89 (by first | assumption | decide | (unfold vp_in; decide)) ?_
    rw [eci, hs1 89 i rfl]
    refine G_aload_0 (nx := 44) ⟨dX12_plant_43, rfl⟩ ?_
    refine G_getr (nx := 47) (k := 75) (r := 90) ⟨dX12_plant_44, rfl⟩ fX12_56 q_75 yr_12_28 (r_75_28 _) ?_
    refine G_iload_1 (nx := 48) ⟨dX12_plant_47, rfl⟩ ?_
    refine G_iald (nx := 49) (k := 90) ⟨dX12_plant_48, rfl⟩ q_90 (by first | assumption | decide | (unfold vp_in; decide)) ?_
    rw [eci, hs1 90 i rfl]
    refine G_cvv2 (nx := 52) ⟨dX12_plant_49, rfl⟩ kX12_141 rfl q_75 rfl (Nat.le_of_ble_eq_true rfl) (Nat.le_of_ble_eq_true rfl) (cM_comes hG.1 (by omega) ?_)
    refine G_iload_1 (nx := 53) ⟨dX12_plant_52, rfl⟩ ?_
    refine G_ifle (tgt := 68) (nx := 56) ⟨dX12_plant_53, rfl⟩ rfl (fun c_53 => ?_) (fun c_53 => ?_)
    · refine G_iinc_1 (nx := 71) ⟨dX12_plant_68, rfl⟩ ci_1 rfl ?_
      refine G_goto (tgt := 28) ⟨dX12_plant_71, rfl⟩ rfl ?_
      rw [← nI_0, nI_le_iff (by omega) (by omega)] at c_53
      have est : ptG (I 91) (i + 1) = ptG (I 91) i := by rw [ptG, if_pos (by omega)]
      refine G_L (by rw [nI_1]) (ih (m - (i + 1)) (by omega) (i + 1) _ rfl (by omega) (by rw [est]; exact hG.come (by omega) h0) (fun j hj => ?_) ((((hs1.w rfl).w rfl).w rfl).w rfl))
      by_cases e : j = i
      · subst e
        exact ⟨by rw [w2_row _ _ _ _ (show ¬ 76 = 75 by decide), w2_row _ _ _ _ (show ¬ 76 = 78 by decide), w2_row _ _ _ _ (show ¬ 76 = 77 by decide), w2_at], by rw [w2_row _ _ _ _ (show ¬ 77 = 75 by decide), w2_row _ _ _ _ (show ¬ 77 = 78 by decide), w2_at]⟩
      · have h := hrow j (by omega)
        exact ⟨by rw [w2_row _ _ _ _ (show ¬ 76 = 75 by decide), w2_row _ _ _ _ (show ¬ 76 = 78 by decide), w2_row _ _ _ _ (show ¬ 76 = 77 by decide), w2_ne _ _ _ _ (by omega)]; exact h.1, by rw [w2_row _ _ _ _ (show ¬ 77 = 75 by decide), w2_row _ _ _ _ (show ¬ 77 = 78 by decide), w2_ne _ _ _ _ (by omega), w2_row _ _ _ _ (show ¬ 77 = 76 by decide)]; exact h.2⟩
    · rw [← nI_0, nI_le_iff (by omega) (by omega)] at c_53
      obtain ⟨a, ea, ha⟩ := hpar i (by omega) (by omega)
      refine G_aload_0 (nx := 57) ⟨dX12_plant_56, rfl⟩ ?_
      refine G_iload_1 (nx := 58) ⟨dX12_plant_57, rfl⟩ ?_
      refine G_aload_0 (nx := 59) ⟨dX12_plant_58, rfl⟩ ?_
      refine G_getr (nx := 62) (k := 75) (r := 91) ⟨dX12_plant_59, rfl⟩ fX12_59 q_75 yr_12_29 (r_75_29 _) ?_
      refine G_iload_1 (nx := 63) ⟨dX12_plant_62, rfl⟩ ?_
      refine G_iald (nx := 64) (k := 91) ⟨dX12_plant_63, rfl⟩ q_91 (by first | assumption | decide | (unfold vp_in; decide)) ?_
      rw [eci, w2_row _ _ _ _ (show ¬ 91 = 75 by decide), w2_row _ _ _ _ (show ¬ 91 = 78 by decide), w2_row _ _ _ _ (show ¬ 91 = 77 by decide), w2_row _ _ _ _ (show ¬ 91 = 76 by decide), hs1 91 i rfl, ea]
      refine G_iconst (nx := 65) ⟨dX12_plant_64, rfl⟩ ci_1 ?_
      rw [show (1 : Int32) = nI 1 by decide]
      refine G_cvv3 (nx := 68) ⟨dX12_plant_65, rfl⟩ kX12_152 rfl q_75 rfl (Nat.le_of_ble_eq_true rfl) (Nat.le_of_ble_eq_true rfl) (cM_lays (on := 1) (hG.come (by omega) h0) (show i < i + 1 by omega) (show a < i + 1 by omega) (by omega) (by omega) ?_)
      refine G_iinc_1 (nx := 71) ⟨dX12_plant_68, rfl⟩ ci_1 rfl ?_
      refine G_goto (tgt := 28) ⟨dX12_plant_71, rfl⟩ rfl ?_
      have est : ptG (I 91) (i + 1) = layG (ptG (I 91) i) i a 1 := by rw [ptG, if_neg (by omega), ea, cl_nI (by omega)]
      refine G_L (by rw [nI_1]) (ih (m - (i + 1)) (by omega) (i + 1) _ rfl (by omega) (by rw [est]; exact (hG.come (by omega) h0).lay (by omega) (by omega) (by omega) (by omega)) (fun j hj => ?_) ((((((hs1.w rfl).w rfl).w rfl).w rfl).w rfl).w rfl))
      by_cases e : j = i
      · subst e
        exact ⟨by rw [w2_row _ _ _ _ (show ¬ 76 = 78 by decide), w2_row _ _ _ _ (show ¬ 76 = 78 by decide), w2_row _ _ _ _ (show ¬ 76 = 75 by decide), w2_row _ _ _ _ (show ¬ 76 = 78 by decide), w2_row _ _ _ _ (show ¬ 76 = 77 by decide), w2_at], by rw [w2_row _ _ _ _ (show ¬ 77 = 78 by decide), w2_row _ _ _ _ (show ¬ 77 = 78 by decide), w2_row _ _ _ _ (show ¬ 77 = 75 by decide), w2_row _ _ _ _ (show ¬ 77 = 78 by decide), w2_at]⟩
      · have h := hrow j (by omega)
        exact ⟨by rw [w2_row _ _ _ _ (show ¬ 76 = 78 by decide), w2_row _ _ _ _ (show ¬ 76 = 78 by decide), w2_row _ _ _ _ (show ¬ 76 = 75 by decide), w2_row _ _ _ _ (show ¬ 76 = 78 by decide), w2_row _ _ _ _ (show ¬ 76 = 77 by decide), w2_ne _ _ _ _ (by omega)]; exact h.1, by rw [w2_row _ _ _ _ (show ¬ 77 = 78 by decide), w2_row _ _ _ _ (show ¬ 77 = 78 by decide), w2_row _ _ _ _ (show ¬ 77 = 75 by decide), w2_row _ _ _ _ (show ¬ 77 = 78 by decide), w2_ne _ _ _ _ (by omega), w2_row _ _ _ _ (show ¬ 77 = 76 by decide)]; exact h.2⟩

theorem cM_plant {m : Nat} (hT : MT I m) (hpar : ∀ i, 0 < i → i < m → ∃ a, I 91 i = nI a ∧ a < i) (hk1 : m = 0 → K (.int (-1)) I J (rX g)) (hk2 : 12 < m → K (.int (-3)) I J (rX g)) (hk : ∀ (I' : AI), 0 < m → m ≤ 12 → MG I' m (ptG (I 91) m) → (∀ j, j < m → I' 76 j = I 89 j ∧ I' 77 j = I 90 j) → sb fB I I' → K (.int (nI m)) I' J (rX g)) : G l (d + 1) mX12_plant K 0 [.ref 75, UU] [] I J (rX g) := by
  have h26 := hT.1
  have hm60 := hT.2
  refine G_aload_0 (nx := 1) ⟨dX12_plant_0, rfl⟩ ?_
  refine G_geti (nx := 4) (k := 75) ⟨dX12_plant_1, rfl⟩ fX12_165 q_75 yi_12_26 ?_
  rw [h26]
  refine G_ifne (tgt := 9) (nx := 7) ⟨dX12_plant_4, rfl⟩ rfl (fun c_4 => ?_) (fun c_4 => ?_)
  · rw [nI_0iff (by omega)] at c_4
    refine G_aload_0 (nx := 10) ⟨dX12_plant_9, rfl⟩ ?_
    refine G_geti (nx := 13) (k := 75) ⟨dX12_plant_10, rfl⟩ fX12_165 q_75 yi_12_26 ?_
    rw [h26]
    refine G_bipush (nx := 15) ⟨dX12_plant_13, rfl⟩ cb_12 ?_
    rw [show (12 : Int32) = nI 12 by decide]
    refine G_icmple (tgt := 21) (nx := 18) ⟨dX12_plant_15, rfl⟩ rfl (fun c_15 => ?_) (fun c_15 => ?_)
    · rw [nI_le_iff (by omega) (by omega)] at c_15
      refine G_aload_0 (nx := 22) ⟨dX12_plant_21, rfl⟩ ?_
      refine G_iconst (nx := 23) ⟨dX12_plant_22, rfl⟩ ci_0 ?_
      refine G_puti (nx := 26) (k := 75) ⟨dX12_plant_23, rfl⟩ pX12_122 q_75 yt_12_0 ?_
      refine G_iconst (nx := 27) ⟨dX12_plant_26, rfl⟩ ci_0 ?_
      refine G_istore_1 (nx := 28) ⟨dX12_plant_27, rfl⟩ rfl rfl ?_
      exact G_L (by rw [← nI_0]) (lM_plant c_15 h26 hpar (fun I1 h1 h2 h3 => hk I1 (by omega) c_15 h1 h2 h3) _ 0 _ rfl (by omega) ⟨by rw [w2_at, nI_0], by omega, fun p hp => absurd hp (by omega), fun p hp => absurd hp (by omega)⟩ (fun j hj => absurd hj (by omega)) (sb.rf.w rfl))
    · rw [nI_le_iff (by omega) (by omega)] at c_15
      refine G_bipush (nx := 20) ⟨dX12_plant_18, rfl⟩ cb_m3 ?_
      refine G_iret ⟨dX12_plant_20, rfl⟩ rfl ?_
      exact hk2 (by omega)
  · refine G_iconst (nx := 8) ⟨dX12_plant_7, rfl⟩ ci_m1 ?_
    refine G_iret ⟨dX12_plant_8, rfl⟩ rfl ?_
    rw [nI_0iff (by omega)] at c_4
    exact hk1 c_4

end M42
