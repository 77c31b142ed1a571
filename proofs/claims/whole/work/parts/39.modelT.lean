
def dz (z : Int32) : Int32 := z * 1103515245 + 12345
def dv (z : Int32) : Int32 := ((dz z).toUInt32 >>> ((16 : Int32).toUInt32 &&& Int32.toUInt32 31)).toInt32
def rmI (x y : Int32) : Int32 := x - x / y * y
def zn (z : Int32) : Nat → Int32
  | 0 => z
  | k + 1 => dz (zn z k)
def dkI (z : Int32) (i : Nat) : Int32 := rmI (dv (zn z (2 * i))) 6
def dwI (z : Int32) (i : Nat) : Int32 := 1 + rmI (dv (zn z (2 * i + 1))) 9
def dlI (z v : Int32) (a b : Nat) (s : Nat × (Nat → Nat)) : Nat × (Nat → Nat) := if a < b then (s.1 + 1, if rmI (dv (zn z s.1)) 10 < v then layG s.2 a b 1 else s.2) else s
def dlO (z v : Int32) (m a : Nat) (s : Nat × (Nat → Nat)) : Nat × (Nat → Nat) := lp (dlI z v a) m s
def dlN (z v : Int32) (m : Nat) : Nat × (Nat → Nat) := lp (dlO z v m) m (2 * m, fun _ => 0)
theorem dlI_le (z v : Int32) (a : Nat) : ∀ k, k ≤ a + 1 → ∀ s, lp (dlI z v a) k s = s := by
  intro k
  induction k with
  | zero => intro _ s; rfl
  | succ k ih =>
    intro hk s
    rw [lp_s, ih (by omega) s]
    unfold dlI
    rw [if_neg (by omega)]
section M39
variable {l : Launch} {d : Nat} {K : AK} {I : AI} {J : AJ} {g : Bool} {n : Nat} {gr : Nat → Nat}

theorem cM_draw {z : Int32} (hz : I 75 1 = z) (hk : K (.int (dv z)) (w2 I 75 1 (dz z)) J (rX g)) : G l d mX12_draw K 0 [.ref 75] [] I J (rX g) := by
  refine G_aload_0 (nx := 1) ⟨dX12_draw_0, rfl⟩ ?_
  refine G_aload_0 (nx := 2) ⟨dX12_draw_1, rfl⟩ ?_
  refine G_geti (nx := 5) (k := 75) ⟨dX12_draw_2, rfl⟩ fX12_7 q_75 yi_12_1 ?_
  rw [hz]
  refine G_ldcw (nx := 8) ⟨dX12_draw_5, rfl⟩ nX12_332 ?_
  refine G_imul (nx := 9) ⟨dX12_draw_8, rfl⟩ ?_
  refine G_sipush (nx := 12) ⟨dX12_draw_9, rfl⟩ cs_12345 ?_
  refine G_iadd (nx := 13) ⟨dX12_draw_12, rfl⟩ ?_
  refine G_puti (nx := 16) (k := 75) ⟨dX12_draw_13, rfl⟩ pX12_7 q_75 yt_12_1 ?_
  refine G_aload_0 (nx := 17) ⟨dX12_draw_16, rfl⟩ ?_
  refine G_geti (nx := 20) (k := 75) ⟨dX12_draw_17, rfl⟩ fX12_7 q_75 yi_12_1 ?_
  rw [w2_at]
  refine G_bipush (nx := 22) ⟨dX12_draw_20, rfl⟩ cb_16 ?_
  refine G_iushr (nx := 23) ⟨dX12_draw_22, rfl⟩ ?_
  refine G_iret ⟨dX12_draw_23, rfl⟩ rfl ?_
  exact hk

theorem lM_d1 {z v : Int32} {m : Nat} (hm : m ≤ 12) (hgo : ∀ (I' : AI) (x4 : Value), notL x4 = true → I' 75 0 = nI m → I' 75 1 = zn z (2 * m) → (∀ j, j < m → I' 76 j = dkI z j ∧ I' 77 j = dwI z j ∧ I' 78 j = 0) → sb fB I I' → G l (d + 1) mX12_deals K 42 [.ref 75, .int (nI m), .int v, .int (nI m), x4] [] I' J (rX g)) : ∀ (k i : Nat) (I1 : AI) (x4 : Value), notL x4 = true → m - i = k → i ≤ m → I1 75 0 = nI i → I1 75 1 = zn z (2 * i) → (∀ j, j < i → I1 76 j = dkI z j ∧ I1 77 j = dwI z j ∧ I1 78 j = 0) → sb fB I I1 → G l (d + 1) mX12_deals K 7 [.ref 75, .int (nI m), .int v, .int (nI i), x4] [] I1 J (rX g) := by
  intro k
  induction k using Nat.strongRecOn with
  | _ k ih =>
  intro i I1 x4 hx4 hik him e0 ez hrow hs1
  refine G_iload_3 (nx := 8) ⟨dX12_deals_7, rfl⟩ ?_
  refine G_iload_1 (nx := 9) ⟨dX12_deals_8, rfl⟩ ?_
  refine G_icmpge (tgt := 42) (nx := 12) ⟨dX12_deals_9, rfl⟩ rfl (fun c_9 => ?_) (fun c_9 => ?_)
  · rw [nI_le_iff (by omega) (by omega)] at c_9
    have e : i = m := by omega
    subst e
    exact hgo I1 x4 hx4 e0 ez hrow hs1
  · rw [nI_le_iff (by omega) (by omega)] at c_9
    refine G_aload_0 (nx := 13) ⟨dX12_deals_12, rfl⟩ ?_
    refine G_cv0 (nx := 16) ⟨dX12_deals_13, rfl⟩ kX12_333 rfl q_75 rfl (Nat.le_of_ble_eq_true rfl) (Nat.le_of_ble_eq_true rfl) (cM_draw ez ?_)
    refine G_bipush (nx := 18) ⟨dX12_deals_16, rfl⟩ cb_6 ?_
    refine G_irem (nx := 19) ⟨dX12_deals_18, rfl⟩ (by decide) ?_
    refine G_istore_4 (nx := 21) ⟨dX12_deals_19, rfl⟩ rfl rfl ?_
    refine G_aload_0 (nx := 22) ⟨dX12_deals_21, rfl⟩ ?_
    refine G_iload_4 (nx := 24) ⟨dX12_deals_22, rfl⟩ ?_
    refine G_iconst (nx := 25) ⟨dX12_deals_24, rfl⟩ ci_1 ?_
    refine G_aload_0 (nx := 26) ⟨dX12_deals_25, rfl⟩ ?_
    refine G_cv0 (nx := 29) ⟨dX12_deals_26, rfl⟩ kX12_333 rfl q_75 rfl (Nat.le_of_ble_eq_true rfl) (Nat.le_of_ble_eq_true rfl) (cM_draw (z := dz (zn z (2 * i))) (w2_at _ _ _ _) ?_)
    refine G_bipush (nx := 31) ⟨dX12_deals_29, rfl⟩ cb_9 ?_
    refine G_irem (nx := 32) ⟨dX12_deals_31, rfl⟩ (by decide) ?_
    refine G_iadd (nx := 33) ⟨dX12_deals_32, rfl⟩ ?_
    refine G_cvv2 (nx := 36) ⟨dX12_deals_33, rfl⟩ kX12_141 rfl q_75 rfl (Nat.le_of_ble_eq_true rfl) (Nat.le_of_ble_eq_true rfl) (cM_comes (m := i) (by rw [w2_ne _ _ _ _ (by decide), w2_ne _ _ _ _ (by decide)]; exact e0) (by omega) ?_)
    refine G_iinc_3 (nx := 39) ⟨dX12_deals_36, rfl⟩ ci_1 rfl ?_
    refine G_goto (tgt := 7) ⟨dX12_deals_39, rfl⟩ rfl ?_
    refine G_L (by rw [nI_1]) (ih (m - (i + 1)) (by omega) (i + 1) _ _ rfl rfl (by omega) (w2_at _ _ _ _) ?_ (fun j hj => ?_) ((((((hs1.w rfl).w rfl).w rfl).w rfl).w rfl).w rfl))
    · rw [w2_ne _ _ _ _ (by decide), w2_row _ _ _ _ (show ¬ 75 = 78 by decide), w2_row _ _ _ _ (show ¬ 75 = 77 by decide), w2_row _ _ _ _ (show ¬ 75 = 76 by decide), w2_at]
      rfl
    · by_cases e : j = i
      · subst e
        exact ⟨by rw [w2_row _ _ _ _ (show ¬ 76 = 75 by decide), w2_row _ _ _ _ (show ¬ 76 = 78 by decide), w2_row _ _ _ _ (show ¬ 76 = 77 by decide), w2_at]; rfl, by rw [w2_row _ _ _ _ (show ¬ 77 = 75 by decide), w2_row _ _ _ _ (show ¬ 77 = 78 by decide), w2_at]; rfl, by rw [w2_row _ _ _ _ (show ¬ 78 = 75 by decide), w2_at]⟩
      · have h := hrow j (by omega)
        exact ⟨by rw [w2_row _ _ _ _ (show ¬ 76 = 75 by decide), w2_row _ _ _ _ (show ¬ 76 = 78 by decide), w2_row _ _ _ _ (show ¬ 76 = 77 by decide), w2_ne _ _ _ _ (by omega), w2_row _ _ _ _ (show ¬ 76 = 75 by decide), w2_row _ _ _ _ (show ¬ 76 = 75 by decide)]; exact h.1, by rw [w2_row _ _ _ _ (show ¬ 77 = 75 by decide), w2_row _ _ _ _ (show ¬ 77 = 78 by decide), w2_ne _ _ _ _ (by omega), w2_row _ _ _ _ (show ¬ 77 = 76 by decide), w2_row _ _ _ _ (show ¬ 77 = 75 by decide), w2_row _ _ _ _ (show ¬ 77 = 75 by decide)]; exact h.2.1, by rw [w2_row _ _ _ _ (show ¬ 78 = 75 by decide), w2_ne _ _ _ _ (by omega), w2_row _ _ _ _ (show ¬ 78 = 77 by decide), w2_row _ _ _ _ (show ¬ 78 = 76 by decide), w2_row _ _ _ _ (show ¬ 78 = 75 by decide), w2_row _ _ _ _ (show ¬ 78 = 75 by decide)]; exact h.2.2⟩

end M39
