
def dz (z : Int32) : Int32 := z * 1103515245 + 12345
def dv (z : Int32) : Int32 := ((dz z).toUInt32 >>> ((16 : Int32).toUInt32 &&& Int32.toUInt32 31)).toInt32
def rmI (x y : Int32) : Int32 := x - x / y * y
def zn (z : Int32) : Nat → Int32
  | 0 => z
  | k + 1 => dz (zn z k)
def dkI (z : Int32) (i : Nat) : Int32 := rmI (dv (zn z (2 * i))) 6
def dwI (z : Int32) (i : Nat) : Int32 := 1 + rmI (dv (zn z (2 * i + 1))) 9
def dlI (z v : Int32) (a b : Nat) (s : Nat × (Nat → Nat)) : Nat × (Nat → Nat) := if a < b then (s.1 + 1, if rmI (dv (zn z s.1)) 10 < v then layG s.2 a b 1 else s.2) else s
def dlO (z v : Int32) (m a : Nat) (s : Nat × (Nat → Nat)) : Nat × (Nat → Nat) := lp (dlI z v a) m s
def dlN (z v : Int32) (m : Nat) : Nat × (Nat → Nat) := lp (dlO z v m) m (2 * m, fun _ => 0)
theorem dlI_le (z v : Int32) (a : Nat) : ∀ k, k ≤ a + 1 → ∀ s, lp (dlI z v a) k s = s := by
  intro k
  induction k with
  | zero => intro _ s; rfl
  | succ k ih =>
    intro hk s
    rw [lp_s, ih (by omega) s]
    unfold dlI
    rw [if_neg (by omega)]
section M39
variable {l : Launch} {d : Nat} {K : AK} {I : AI} {J : AJ} {g : Bool} {n : Nat} {gr : Nat → Nat}

theorem cM_draw {z : Int32} (hz : I 75 1 = z) (hk : K (.int (dv z)) (w2 I 75 1 (dz z)) J (rX g)) : G l d mX12_draw K 0 [.ref 75] [] I J (rX g) := by
  refine G_aload_0 (nx := 1) ⟨dX12_draw_0, rfl⟩ ?_
  refine G_aload_0 (nx := 2) ⟨dX12_draw_1, rfl⟩ ?_
  refine G_geti (nx := 5) (k := 75) ⟨dX12_draw_2, rfl⟩ fX12_7 q_75 yi_12_1 ?_
  rw [hz]
  refine G_ldcw (nx := 8) ⟨dX12_draw_5, rfl⟩ nX12_332 ?_
  refine G_imul (nx := 9) ⟨dX12_draw_8, rfl⟩ ?_
  refine G_sipush (nx := 12) ⟨dX12_draw_9, rfl⟩ cs_12345 ?_
  refine G_iadd (nx := 13) ⟨dX12_draw_12, rfl⟩ ?_
  refine G_puti (nx := 16) (k := 75) ⟨dX12_draw_13, rfl⟩ pX12_7 q_75 yt_12_1 ?_
  refine G_aload_0 (nx := 17) ⟨dX12_draw_16, rfl⟩ ?_
  refine G_geti (nx := 20) (k := 75) ⟨dX12_draw_17, rfl⟩ fX12_7 q_75 yi_12_1 ?_
  rw [w2_at]
  refine G_bipush (nx := 22) ⟨dX12_draw_20, rfl⟩ cb_16 ?_
  refine G_iushr (nx := 23) ⟨dX12_draw_22, rfl⟩ ?_
  refine G_iret ⟨dX12_draw_23, rfl⟩ rfl ?_
  exact hk

theorem lM_d1 {z v : Int32} {m : Nat} (hm : m ≤ 12) (hgo : ∀ (I' : AI) (x4 : Value), notL x4 = true → I' 75 0 = nI m → I' 75 1 = zn z (2 * m) → (∀ j, j < m → I' 76 j = dkI z j ∧ I' 77 j = dwI z j ∧ I' 78 j = 0) → sb fB I I' → G l (d + 1) mX12_deals K 42 [.ref 75, .int (nI m), .int v, .int (nI m), x4] [] I' J (rX g)) : ∀ (k i : Nat) (I1 : AI) (x4 : Value), notL x4 = true → m - i = k → i ≤ m → I1 75 0 = nI i → I1 75 1 = zn z (2 * i) → (∀ j, j < i → I1 76 j = dkI z j ∧ I1 77 j = dwI z j ∧ I1 78 j = 0) → sb fB I I1 → G l (d + 1) mX12_deals K 7 [.ref 75, .int (nI m), .int v, .int (nI i), x4] [] I1 J (rX g) := by
  intro k
  induction k using Nat.strongRecOn with
  | _ k ih =>
  intro i I1 x4 hx4 hik him e0 ez hrow hs1
  refine G_iload_3 (nx := 8) ⟨dX12_deals_7, rfl⟩ ?_
  refine G_iload_1 (nx := 9) ⟨dX12_deals_8, rfl⟩ ?_
  refine G_icmpge (tgt := 42) (nx := 12) ⟨dX12_deals_9, rfl⟩ rfl (fun c_9 => ?_) (fun c_9 => ?_)
  · rw [nI_le_iff (by omega) (by omega)] at c_9
    have e : i = m := by omega
    subst e
    exact hgo I1 x4 hx4 e0 ez hrow hs1
  · rw [nI_le_iff (by omega) (by omega)] at c_9
    refine G_aload_0 (nx := 13) ⟨dX12_deals_12, rfl⟩ ?_
    refine G_cv0 (nx := 16) ⟨dX12_deals_13, rfl⟩ kX12_333 rfl q_75 rfl (Nat.le_of_ble_eq_true rfl) (Nat.le_of_ble_eq_true rfl) (cM_draw ez ?_)
    refine G_bipush (nx := 18) ⟨dX12_deals_16, rfl⟩ cb_6 ?_
    refine G_irem (nx := 19) ⟨dX12_deals_18, rfl⟩ (by decide) ?_
    refine G_istore_4 (nx := 21) ⟨dX12_deals_19, rfl⟩ rfl rfl ?_
    refine G_aload_0 (nx := 22) ⟨dX12_deals_21, rfl⟩ ?_
    refine G_iload_4 (nx := 24) ⟨dX12_deals_22, rfl⟩ ?_
    refine G_iconst (nx := 25) ⟨dX12_deals_24, rfl⟩ ci_1 ?_
    refine G_aload_0 (nx := 26) ⟨dX12_deals_25, rfl⟩ ?_
    refine G_cv0 (nx := 29) ⟨dX12_deals_26, rfl⟩ kX12_333 rfl q_75 rfl (Nat.le_of_ble_eq_true rfl) (Nat.le_of_ble_eq_true rfl) (cM_draw (z := dz (zn z (2 * i))) (w2_at _ _ _ _) ?_)
    refine G_bipush (nx := 31) ⟨dX12_deals_29, rfl⟩ cb_9 ?_
    refine G_irem (nx := 32) ⟨dX12_deals_31, rfl⟩ (by decide) ?_
    refine G_iadd (nx := 33) ⟨dX12_deals_32, rfl⟩ ?_
    refine G_cvv2 (nx := 36) ⟨dX12_deals_33, rfl⟩ kX12_141 rfl q_75 rfl (Nat.le_of_ble_eq_true rfl) (Nat.le_of_ble_eq_true rfl) (cM_comes (m := i) (by rw [w2_ne _ _ _ _ (by decide), w2_ne _ _ _ _ (by decide)]; exact e0) (by omega) ?_)
    refine G_iinc_3 (nx := 39) ⟨dX12_deals_36, rfl⟩ ci_1 rfl ?_
    refine G_goto (tgt := 7) ⟨dX12_deals_39, rfl⟩ rfl ?_
    refine G_L (by rw [nI_1]) (ih (m - (i + 1)) (by omega) (i + 1) _ _ rfl rfl (by omega) (w2_at _ _ _ _) ?_ (fun j hj => ?_) ((((((hs1.w rfl).w rfl).w rfl).w rfl).w rfl).w rfl))
    · rw [w2_ne _ _ _ _ (by decide), w2_row _ _ _ _ (show ¬ 75 = 78 by decide), w2_row _ _ _ _ (show ¬ 75 = 77 by decide), w2_row _ _ _ _ (show ¬ 75 = 76 by decide), w2_at]
      rfl
    · by_cases e : j = i
      · subst e
        exact ⟨by rw [w2_row _ _ _ _ (show ¬ 76 = 75 by decide), w2_row _ _ _ _ (show ¬ 76 = 78 by decide), w2_row _ _ _ _ (show ¬ 76 = 77 by decide), w2_at]; rfl, by rw [w2_row _ _ _ _ (show ¬ 77 = 75 by decide), w2_row _ _ _ _ (show ¬ 77 = 78 by decide), w2_at]; rfl, by rw [w2_row _ _ _ _ (show ¬ 78 = 75 by decide), w2_at]⟩
      · have h := hrow j (by omega)
        exact ⟨by rw [w2_row _ _ _ _ (show ¬ 76 = 75 by decide), w2_row _ _ _ _ (show ¬ 76 = 78 by decide), w2_row _ _ _ _ (show ¬ 76 = 77 by decide), w2_ne _ _ _ _ (by omega), w2_row _ _ _ _ (show ¬ 76 = 75 by decide), w2_row _ _ _ _ (show ¬ 76 = 75 by decide)]; exact h.1, by rw [w2_row _ _ _ _ (show ¬ 77 = 75 by decide), w2_row _ _ _ _ (show ¬ 77 = 78 by decide), w2_ne _ _ _ _ (by omega), w2_row _ _ _ _ (show ¬ 77 = 76 by decide), w2_row _ _ _ _ (show ¬ 77 = 75 by decide), w2_row _ _ _ _ (show ¬ 77 = 75 by decide)]; exact h.2.1, by rw [w2_row _ _ _ _ (show ¬ 78 = 75 by decide), w2_ne _ _ _ _ (by omega), w2_row _ _ _ _ (show ¬ 78 = 77 by decide), w2_row _ _ _ _ (show ¬ 78 = 76 by decide), w2_row _ _ _ _ (show ¬ 78 = 75 by decide), w2_row _ _ _ _ (show ¬ 78 = 75 by decide)]; exact h.2.2⟩

end M39
def DR (I : AI) (z : Int32) (m : Nat) : Prop := ∀ j, j < m → I 76 j = dkI z j ∧ I 77 j = dwI z j
theorem DR.w {I : AI} {z : Int32} {m : Nat} (h : DR I z m) {k i : Nat} {v : Int32} (h1 : ¬ 76 = k) (h2 : ¬ 77 = k) : DR (w2 I k i v) z m := fun j hj => ⟨by rw [w2_row _ _ _ _ h1]; exact (h j hj).1, by rw [w2_row _ _ _ _ h2]; exact (h j hj).2⟩
section M39B
variable {l : Launch} {d : Nat} {K : AK} {I : AI} {J : AJ} {g : Bool} {n : Nat} {gr : Nat → Nat}
theorem lM_d2I {z v : Int32} {m a : Nat} {S0 : Nat × (Nat → Nat)} (hm : m ≤ 12) (ha : a < m) (hgo : ∀ (I' : AI) (x4 : Value), notL x4 = true → MG I' m (lp (dlI z v a) m S0).2 → I' 75 1 = zn z (lp (dlI z v a) m S0).1 → DR I' z m → sb fB I I' → G l (d + 1) mX12_deals K 85 [.ref 75, .int (nI m), .int v, .int (nI a), x4] [] I' J (rX g)) : ∀ (k b : Nat) (I1 : AI), m - b = k → a < b → b ≤ m → MG I1 m (lp (dlI z v a) b S0).2 → I1 75 1 = zn z (lp (dlI z v a) b S0).1 → DR I1 z m → sb fB I I1 → G l (d + 1) mX12_deals K 54 [.ref 75, .int (nI m), .int v, .int (nI a), .int (nI b)] [] I1 J (rX g) := by
  intro k
  induction k using Nat.strongRecOn with
  | _ k ih =>
  intro b I1 hbk hab hbm hG ez hD hs1
  refine G_iload_4 (nx := 56) ⟨dX12_deals_54, rfl⟩ ?_
  refine G_iload_1 (nx := 57) ⟨dX12_deals_56, rfl⟩ ?_
  refine G_icmpge (tgt := 85) (nx := 60) ⟨dX12_deals_57, rfl⟩ rfl (fun c_57 => ?_) (fun c_57 => ?_)
  · rw [nI_le_iff (by omega) (by omega)] at c_57
    have e : b = m := by omega
    subst e
    exact hgo I1 _ rfl hG ez hD hs1
  · rw [nI_le_iff (by omega) (by omega)] at c_57
    have hb : b < m := by omega
    refine G_aload_0 (nx := 61) ⟨dX12_deals_60, rfl⟩ ?_
    refine G_cv0 (nx := 64) ⟨dX12_deals_61, rfl⟩ kX12_333 rfl q_75 rfl (Nat.le_of_ble_eq_true rfl) (Nat.le_of_ble_eq_true rfl) (cM_draw ez ?_)
    refine G_bipush (nx := 66) ⟨dX12_deals_64, rfl⟩ cb_10 ?_
    refine G_irem (nx := 67) ⟨dX12_deals_66, rfl⟩ (by decide) ?_
    refine G_iload_2 (nx := 68) ⟨dX12_deals_67, rfl⟩ ?_
    refine G_icmpge (tgt := 79) (nx := 71) ⟨dX12_deals_68, rfl⟩ rfl (fun c_68 => ?_) (fun c_68 => ?_)
    · refine G_iinc_4 (nx := 82) ⟨dX12_deals_79, rfl⟩ ci_1 rfl ?_
      refine G_goto (tgt := 54) ⟨dX12_deals_82, rfl⟩ rfl ?_
      have est : dlI z v a b (lp (dlI z v a) b S0) = ((lp (dlI z v a) b S0).1 + 1, (lp (dlI z v a) b S0).2) := by
        rw [dlI, if_pos hab, if_neg (show ¬ rmI (dv (zn z (lp (dlI z v a) b S0).1)) 10 < v by rw [i32_le] at c_68; rw [i32_lt]; unfold rmI; omega)]
      refine G_L (by rw [nI_1]) (ih (m - (b + 1)) (by omega) (b + 1) _ rfl (by omega) (by omega) ?_ ?_ (hD.w (by decide) (by decide)) (hs1.w rfl))
      · rw [lp_s, est]; exact hG.w (by decide) (by decide)
      · rw [lp_s, est, w2_at]; rfl
    · refine G_aload_0 (nx := 72) ⟨dX12_deals_71, rfl⟩ ?_
      refine G_iload_3 (nx := 73) ⟨dX12_deals_72, rfl⟩ ?_
      refine G_iload_4 (nx := 75) ⟨dX12_deals_73, rfl⟩ ?_
      refine G_iconst (nx := 76) ⟨dX12_deals_75, rfl⟩ ci_1 ?_
      rw [show (1 : Int32) = nI 1 by decide]
      refine G_cvv3 (nx := 79) ⟨dX12_deals_76, rfl⟩ kX12_152 rfl q_75 rfl (Nat.le_of_ble_eq_true rfl) (Nat.le_of_ble_eq_true rfl) (cM_lays (on := 1) (hG.w (by decide) (by decide)) ha hb (by omega) (by omega) ?_)
      refine G_iinc_4 (nx := 82) ⟨dX12_deals_79, rfl⟩ ci_1 rfl ?_
      refine G_goto (tgt := 54) ⟨dX12_deals_82, rfl⟩ rfl ?_
      have est : dlI z v a b (lp (dlI z v a) b S0) = ((lp (dlI z v a) b S0).1 + 1, layG (lp (dlI z v a) b S0).2 a b 1) := by
        rw [dlI, if_pos hab, if_pos (show rmI (dv (zn z (lp (dlI z v a) b S0).1)) 10 < v by rw [i32_le] at c_68; rw [i32_lt]; unfold rmI; omega)]
      refine G_L (by rw [nI_1]) (ih (m - (b + 1)) (by omega) (b + 1) _ rfl (by omega) (by omega) ?_ ?_ (((hD.w (by decide) (by decide)).w (by decide) (by decide)).w (by decide) (by decide)) (((hs1.w rfl).w rfl).w rfl))
      · rw [lp_s, est]; exact (hG.w (by decide) (by decide)).lay ha hb (by omega) (by omega)
      · rw [lp_s, est, w2_row _ _ _ _ (show ¬ 75 = 78 by decide), w2_row _ _ _ _ (show ¬ 75 = 78 by decide), w2_at]; rfl

theorem lM_d2O {z v : Int32} {m : Nat} (hm : m ≤ 12) (hk : ∀ (I' : AI), MG I' m (dlN z v m).2 → I' 75 1 = zn z (dlN z v m).1 → DR I' z m → sb fB I I' → K .null I' J (rX g)) : ∀ (k a : Nat) (I1 : AI) (x4 : Value), notL x4 = true → m - a = k → a ≤ m → MG I1 m (lp (dlO z v m) a (2 * m, fun _ => 0)).2 → I1 75 1 = zn z (lp (dlO z v m) a (2 * m, fun _ => 0)).1 → DR I1 z m → sb fB I I1 → G l (d + 1) mX12_deals K 44 [.ref 75, .int (nI m), .int v, .int (nI a), x4] [] I1 J (rX g) := by
  intro k
  induction k using Nat.strongRecOn with
  | _ k ih =>
  intro a I1 x4 hx4 hak ham hG ez hD hs1
  refine G_iload_3 (nx := 45) ⟨dX12_deals_44, rfl⟩ ?_
  refine G_iload_1 (nx := 46) ⟨dX12_deals_45, rfl⟩ ?_
  refine G_icmpge (tgt := 91) (nx := 49) ⟨dX12_deals_46, rfl⟩ rfl (fun c_46 => ?_) (fun c_46 => ?_)
  · refine G_vret ⟨dX12_deals_91, rfl⟩ rfl ?_
    rw [nI_le_iff (by omega) (by omega)] at c_46
    have e : a = m := by omega
    subst e
    exact hk I1 hG ez hD hs1
  · rw [nI_le_iff (by omega) (by omega)] at c_46
    have ha : a < m := by omega
    refine G_iload_3 (nx := 50) ⟨dX12_deals_49, rfl⟩ ?_
    refine G_iconst (nx := 51) ⟨dX12_deals_50, rfl⟩ ci_1 ?_
    refine G_iadd (nx := 52) ⟨dX12_deals_51, rfl⟩ ?_
    refine G_istore_4 (nx := 54) ⟨dX12_deals_52, rfl⟩ rfl rfl ?_
    rw [nI_1]
    have hin := dlI_le z v a (a + 1) (Nat.le_refl _) (lp (dlO z v m) a (2 * m, fun _ => 0))
    refine lM_d2I (I := I1) (S0 := lp (dlO z v m) a (2 * m, fun _ => 0)) hm ha (fun I2 y4 hy4 hG2 ez2 hD2 hs2 => ?_) _ (a + 1) I1 rfl (by omega) (by omega) (by rw [hin]; exact hG) (by rw [hin]; exact ez) hD sb.rf
    refine G_iinc_3 (nx := 88) ⟨dX12_deals_85, rfl⟩ ci_1 rfl ?_
    refine G_goto (tgt := 44) ⟨dX12_deals_88, rfl⟩ rfl ?_
    exact G_L (by rw [nI_1]) (ih (m - (a + 1)) (by omega) (a + 1) I2 y4 hy4 rfl (by omega) hG2 ez2 hD2 (hs1.tr hs2))
    

theorem cM_deals {z v : Int32} {m : Nat} (hm : m ≤ 12) (hz : I 75 1 = z) (hk : ∀ (I' : AI), MG I' m (dlN z v m).2 → I' 75 1 = zn z (dlN z v m).1 → DR I' z m → sb fB I I' → K .null I' J (rX g)) : G l (d + 1) mX12_deals K 0 [.ref 75, .int (nI m), .int v, UU, UU] [] I J (rX g) := by
  refine G_aload_0 (nx := 1) ⟨dX12_deals_0, rfl⟩ ?_
  refine G_iconst (nx := 2) ⟨dX12_deals_1, rfl⟩ ci_0 ?_
  refine G_puti (nx := 5) (k := 75) ⟨dX12_deals_2, rfl⟩ pX12_122 q_75 yt_12_0 ?_
  refine G_iconst (nx := 6) ⟨dX12_deals_5, rfl⟩ ci_0 ?_
  refine G_istore_3 (nx := 7) ⟨dX12_deals_6, rfl⟩ rfl rfl ?_
  refine G_L (by rw [← nI_0]) (lM_d1 (I := I) (z := z) hm (fun I1 x4 hx4 e0 ez hrow hs1 => ?_) _ 0 _ UU rfl rfl (by omega) (by rw [w2_at, ← nI_0]) (by rw [w2_ne _ _ _ _ (by decide)]; exact hz) (fun j hj => absurd hj (by omega)) (sb.rf.w rfl))
  refine G_iconst (nx := 43) ⟨dX12_deals_42, rfl⟩ ci_0 ?_
  refine G_istore_3 (nx := 44) ⟨dX12_deals_43, rfl⟩ rfl rfl ?_
  exact G_L (by rw [← nI_0]) (lM_d2O hm (fun I2 h1 h2 h3 h4 => hk I2 h1 h2 h3 (hs1.tr h4)) _ 0 I1 x4 hx4 rfl (by omega) ⟨e0, hm, fun p hp => by rw [(hrow p hp).2.2, ← nI_0]; rfl, fun p hp => Nat.two_pow_pos m⟩ ez (fun j hj => ⟨(hrow j hj).1, (hrow j hj).2.1⟩) sb.rf)
  

theorem cM_deal {z a v : Int32} (hz : I 75 1 = z) (hk1 : (inR a 0 12 && inR v 0 10) = false → K (.int (-2)) I J (rX g)) (hk : ∀ (m : Nat) (I' : AI), a = nI m → m ≤ 12 → inR v 0 10 = true → MG I' m (dlN z v m).2 → I' 75 1 = zn z (dlN z v m).1 → DR I' z m → sb fB I I' → K (.int (nI (lnN m (dlN z v m).2))) I' J (rX g)) : G l (d + 2) mX12_deal K 0 [.ref 75, .int a, .int v] [] I J (rX g) := by
  refine G_iload_1 (nx := 1) ⟨dX12_deal_0, rfl⟩ ?_
  refine G_iconst (nx := 2) ⟨dX12_deal_1, rfl⟩ ci_0 ?_
  refine G_bipush (nx := 4) ⟨dX12_deal_2, rfl⟩ cb_12 ?_
  refine G_cs3 (nx := 7) ⟨dX12_deal_4, rfl⟩ kX12_125 rfl rfl (Nat.le_of_ble_eq_true rfl) (Nat.le_of_ble_eq_true rfl) (cM_in ?_)
  refine G_ifeq (tgt := 20) (nx := 10) ⟨dX12_deal_7, rfl⟩ rfl (fun c_7 => ?_) (fun c_7 => ?_)
  · refine G_bipush (nx := 22) ⟨dX12_deal_20, rfl⟩ cb_m2 ?_
    refine G_iret ⟨dX12_deal_22, rfl⟩ rfl ?_
    rw [bi_0] at c_7
    exact hk1 (by simp [c_7])
  · refine G_iload_2 (nx := 11) ⟨dX12_deal_10, rfl⟩ ?_
    refine G_iconst (nx := 12) ⟨dX12_deal_11, rfl⟩ ci_0 ?_
    refine G_bipush (nx := 14) ⟨dX12_deal_12, rfl⟩ cb_10 ?_
    refine G_cs3 (nx := 17) ⟨dX12_deal_14, rfl⟩ kX12_125 rfl rfl (Nat.le_of_ble_eq_true rfl) (Nat.le_of_ble_eq_true rfl) (cM_in ?_)
    refine G_ifne (tgt := 23) (nx := 20) ⟨dX12_deal_17, rfl⟩ rfl (fun c_17 => ?_) (fun c_17 => ?_)
    · rw [bi_n0] at c_7
      rw [bi_n0] at c_17
      obtain ⟨m, hm, em⟩ := k_ex c_7
      subst em
      refine G_aload_0 (nx := 24) ⟨dX12_deal_23, rfl⟩ ?_
      refine G_iload_1 (nx := 25) ⟨dX12_deal_24, rfl⟩ ?_
      refine G_iload_2 (nx := 26) ⟨dX12_deal_25, rfl⟩ ?_
      refine G_cvv2 (nx := 29) ⟨dX12_deal_26, rfl⟩ kX12_336 rfl q_75 rfl (Nat.le_of_ble_eq_true rfl) (Nat.le_of_ble_eq_true rfl) (cM_deals hm hz (fun I1 hG1 ez hD hs1 => ?_))
      refine G_aload_0 (nx := 30) ⟨dX12_deal_29, rfl⟩ ?_
      refine G_cv0 (nx := 33) ⟨dX12_deal_30, rfl⟩ kX12_159 rfl q_75 rfl (Nat.le_of_ble_eq_true rfl) (Nat.le_of_ble_eq_true rfl) (cM_lineMany hG1 ?_)
      refine G_iret ⟨dX12_deal_33, rfl⟩ rfl ?_
      exact hk m I1 rfl hm c_17 hG1 ez hD hs1
    · refine G_bipush (nx := 22) ⟨dX12_deal_20, rfl⟩ cb_m2 ?_
      refine G_iret ⟨dX12_deal_22, rfl⟩ rfl ?_
      rw [bi_0] at c_17
      exact hk1 (by simp [c_17])

end M39B
