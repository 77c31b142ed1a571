
def fB0 (a b : Nat) : Bool := (a == 75 && b == 0) || a == 76 || a == 77 || a == 78
section XA7m
variable {l : Launch} {d : Nat} {K : AK} {I : AI} {J : AJ} {g : Bool} {n : Nat} {gr : Nat → Nat}
theorem lM_plant2 {m : Nat} (hm : m ≤ 12) (h26 : I 75 26 = nI m) (hpar : ∀ i, 0 < i → i < m → ∃ a, I 91 i = nI a ∧ a < i) (hk : ∀ (I' : AI), MG I' m (ptG (I 91) m) → (∀ j, j < m → I' 76 j = I 89 j ∧ I' 77 j = I 90 j) → sb fB0 I I' → K (.int (nI m)) I' J (rX g)) : ∀ (k i : Nat) (I1 : AI), m - i = k → i ≤ m → MG I1 i (ptG (I 91) i) → (∀ j, j < i → I1 76 j = I 89 j ∧ I1 77 j = I 90 j) → sb fB0 I I1 → G l (d + 1) mX12_plant K 28 [.ref 75, .int (nI i)] [] I1 J (rX g) := by
  intro k
  induction k using Nat.strongRecOn with
  | _ k ih =>
  intro i I1 hik him hG hrow hs1
  have e26 : I1 75 26 = nI m := by rw [hs1 75 26 rfl]; exact h26
  have eci := cl_nI (p := i) (by omega)
  have h0 := ptG_hi hpar (by omega) i him i (Nat.le_refl _)
  refine G_iload_1 (nx := 29) ⟨dX12_plant_28, rfl⟩ ?_
  refine G_aload_0 (nx := 30) ⟨dX12_plant_29, rfl⟩ ?_
  refine G_geti (nx := 33) (k := 75) ⟨dX12_plant_30, rfl⟩ fX12_165 q_75 yi_12_26 ?_
  rw [e26]
  refine G_icmpge (tgt := 74) (nx := 36) ⟨dX12_plant_33, rfl⟩ rfl (fun c_33 => ?_) (fun c_33 => ?_)
  · refine G_aload_0 (nx := 75) ⟨dX12_plant_74, rfl⟩ ?_
    refine G_geti (nx := 78) (k := 75) ⟨dX12_plant_75, rfl⟩ fX12_122 q_75 yi_12_0 ?_
    rw [hG.1]
    refine G_iret ⟨dX12_plant_78, rfl⟩ rfl ?_
    rw [nI_le_iff (by omega) (by omega)] at c_33
    have e : i = m := by omega
    subst e
    exact hk I1 hG hrow hs1
  · rw [nI_le_iff (by omega) (by omega)] at c_33
    have hi60 := in60 (p := i) (by omega)
    refine G_aload_0 (nx := 37) ⟨dX12_plant_36, rfl⟩ ?_
    refine G_aload_0 (nx := 38) ⟨dX12_plant_37, rfl⟩ ?_
    refine G_getr (nx := 41) (k := 75) (r := 89) ⟨dX12_plant_38, rfl⟩ fX12_53 q_75 yr_12_27 (r_75_27 _) ?_
    refine G_iload_1 (nx := 42) ⟨dX12_plant_41, rfl⟩ ?_
    refine G_iald (nx := 43) (k := 89) ⟨dX12_plant_42, rfl⟩ q_89 (by first | assumption | decide | (unfold vp_in; decide)) ?_
    rw [eci, hs1 89 i rfl]
    refine G_aload_0 (nx := 44) ⟨dX12_plant_43, rfl⟩ ?_
    refine G_getr (nx := 47) (k := 75) (r := 90) ⟨dX12_plant_44, rfl⟩ fX12_56 q_75 yr_12_28 (r_75_28 _) ?_
    refine G_iload_1 (nx := 48) ⟨dX12_plant_47, rfl⟩ ?_
    refine G_iald (nx := 49) (k := 90) ⟨dX12_plant_48, rfl⟩ q_90 (by first | assumption | decide | (unfold vp_in; decide)) ?_
    rw [eci, hs1 90 i rfl]
    refine G_cvv2 (nx := 52) ⟨dX12_plant_49, rfl⟩ kX12_141 rfl q_75 rfl (Nat.le_of_ble_eq_true rfl) (Nat.le_of_ble_eq_true rfl) (cM_comes hG.1 (by omega) ?_)
    refine G_iload_1 (nx := 53) ⟨dX12_plant_52, rfl⟩ ?_
    refine G_ifle (tgt := 68) (nx := 56) ⟨dX12_plant_53, rfl⟩ rfl (fun c_53 => ?_) (fun c_53 => ?_)
    · refine G_iinc_1 (nx := 71) ⟨dX12_plant_68, rfl⟩ ci_1 rfl ?_
      refine G_goto (tgt := 28) ⟨dX12_plant_71, rfl⟩ rfl ?_
      rw [← nI_0, nI_le_iff (by omega) (by omega)] at c_53
      have est : ptG (I 91) (i + 1) = ptG (I 91) i := by rw [ptG, if_pos (by omega)]
      refine G_L (by rw [nI_1]) (ih (m - (i + 1)) (by omega) (i + 1) _ rfl (by omega) (by rw [est]; exact hG.come (by omega) h0) (fun j hj => ?_) ((((hs1.w rfl).w rfl).w rfl).w rfl))
      by_cases e : j = i
      · subst e
        exact ⟨by rw [w2_row _ _ _ _ (show ¬ 76 = 75 by decide), w2_row _ _ _ _ (show ¬ 76 = 78 by decide), w2_row _ _ _ _ (show ¬ 76 = 77 by decide), w2_at], by rw [w2_row _ _ _ _ (show ¬ 77 = 75 by decide), w2_row _ _ _ _ (show ¬ 77 = 78 by decide), w2_at]⟩
      · have h := hrow j (by omega)
        exact ⟨by rw [w2_row _ _ _ _ (show ¬ 76 = 75 by decide), w2_row _ _ _ _ (show ¬ 76 = 78 by decide), w2_row _ _ _ _ (show ¬ 76 = 77 by decide), w2_ne _ _ _ _ (by omega)]; exact h.1, by rw [w2_row _ _ _ _ (show ¬ 77 = 75 by decide), w2_row _ _ _ _ (show ¬ 77 = 78 by decide), w2_ne _ _ _ _ (by omega), w2_row _ _ _ _ (show ¬ 77 = 76 by decide)]; exact h.2⟩
    · rw [← nI_0, nI_le_iff (by omega) (by omega)] at c_53
      obtain ⟨a, ea, ha⟩ := hpar i (by omega) (by omega)
      refine G_aload_0 (nx := 57) ⟨dX12_plant_56, rfl⟩ ?_
      refine G_iload_1 (nx := 58) ⟨dX12_plant_57, rfl⟩ ?_
      refine G_aload_0 (nx := 59) ⟨dX12_plant_58, rfl⟩ ?_
      refine G_getr (nx := 62) (k := 75) (r := 91) ⟨dX12_plant_59, rfl⟩ fX12_59 q_75 yr_12_29 (r_75_29 _) ?_
      refine G_iload_1 (nx := 63) ⟨dX12_plant_62, rfl⟩ ?_
      refine G_iald (nx := 64) (k := 91) ⟨dX12_plant_63, rfl⟩ q_91 (by first | assumption | decide | (unfold vp_in; decide)) ?_
      rw [eci, w2_row _ _ _ _ (show ¬ 91 = 75 by decide), w2_row _ _ _ _ (show ¬ 91 = 78 by decide), w2_row _ _ _ _ (show ¬ 91 = 77 by decide), w2_row _ _ _ _ (show ¬ 91 = 76 by decide), hs1 91 i rfl, ea]
      refine G_iconst (nx := 65) ⟨dX12_plant_64, rfl⟩ ci_1 ?_
      rw [show (1 : Int32) = nI 1 by decide]
      refine G_cvv3 (nx := 68) ⟨dX12_plant_65, rfl⟩ kX12_152 rfl q_75 rfl (Nat.le_of_ble_eq_true rfl) (Nat.le_of_ble_eq_true rfl) (cM_lays (on := 1) (hG.come (by omega) h0) (show i < i + 1 by omega) (show a < i + 1 by omega) (by omega) (by omega) ?_)
      refine G_iinc_1 (nx := 71) ⟨dX12_plant_68, rfl⟩ ci_1 rfl ?_
      refine G_goto (tgt := 28) ⟨dX12_plant_71, rfl⟩ rfl ?_
      have est : ptG (I 91) (i + 1) = layG (ptG (I 91) i) i a 1 := by rw [ptG, if_neg (by omega), ea, cl_nI (by omega)]
      refine G_L (by rw [nI_1]) (ih (m - (i + 1)) (by omega) (i + 1) _ rfl (by omega) (by rw [est]; exact (hG.come (by omega) h0).lay (by omega) (by omega) (by omega) (by omega)) (fun j hj => ?_) ((((((hs1.w rfl).w rfl).w rfl).w rfl).w rfl).w rfl))
      by_cases e : j = i
      · subst e
        exact ⟨by rw [w2_row _ _ _ _ (show ¬ 76 = 78 by decide), w2_row _ _ _ _ (show ¬ 76 = 78 by decide), w2_row _ _ _ _ (show ¬ 76 = 75 by decide), w2_row _ _ _ _ (show ¬ 76 = 78 by decide), w2_row _ _ _ _ (show ¬ 76 = 77 by decide), w2_at], by rw [w2_row _ _ _ _ (show ¬ 77 = 78 by decide), w2_row _ _ _ _ (show ¬ 77 = 78 by decide), w2_row _ _ _ _ (show ¬ 77 = 75 by decide), w2_row _ _ _ _ (show ¬ 77 = 78 by decide), w2_at]⟩
      · have h := hrow j (by omega)
        exact ⟨by rw [w2_row _ _ _ _ (show ¬ 76 = 78 by decide), w2_row _ _ _ _ (show ¬ 76 = 78 by decide), w2_row _ _ _ _ (show ¬ 76 = 75 by decide), w2_row _ _ _ _ (show ¬ 76 = 78 by decide), w2_row _ _ _ _ (show ¬ 76 = 77 by decide), w2_ne _ _ _ _ (by omega)]; exact h.1, by rw [w2_row _ _ _ _ (show ¬ 77 = 78 by decide), w2_row _ _ _ _ (show ¬ 77 = 78 by decide), w2_row _ _ _ _ (show ¬ 77 = 75 by decide), w2_row _ _ _ _ (show ¬ 77 = 78 by decide), w2_ne _ _ _ _ (by omega), w2_row _ _ _ _ (show ¬ 77 = 76 by decide)]; exact h.2⟩

theorem cM_plant2 {m : Nat} (hT : MT I m) (hpar : ∀ i, 0 < i → i < m → ∃ a, I 91 i = nI a ∧ a < i) (hk1 : m = 0 → K (.int (-1)) I J (rX g)) (hk2 : 12 < m → K (.int (-3)) I J (rX g)) (hk : ∀ (I' : AI), 0 < m → m ≤ 12 → MG I' m (ptG (I 91) m) → (∀ j, j < m → I' 76 j = I 89 j ∧ I' 77 j = I 90 j) → sb fB0 I I' → K (.int (nI m)) I' J (rX g)) : G l (d + 1) mX12_plant K 0 [.ref 75, UU] [] I J (rX g) := by
  have h26 := hT.1
  have hm60 := hT.2
  refine G_aload_0 (nx := 1) ⟨dX12_plant_0, rfl⟩ ?_
  refine G_geti (nx := 4) (k := 75) ⟨dX12_plant_1, rfl⟩ fX12_165 q_75 yi_12_26 ?_
  rw [h26]
  refine G_ifne (tgt := 9) (nx := 7) ⟨dX12_plant_4, rfl⟩ rfl (fun c_4 => ?_) (fun c_4 => ?_)
  · rw [nI_0iff (by omega)] at c_4
    refine G_aload_0 (nx := 10) ⟨dX12_plant_9, rfl⟩ ?_
    refine G_geti (nx := 13) (k := 75) ⟨dX12_plant_10, rfl⟩ fX12_165 q_75 yi_12_26 ?_
    rw [h26]
    refine G_bipush (nx := 15) ⟨dX12_plant_13, rfl⟩ cb_12 ?_
    rw [show (12 : Int32) = nI 12 by decide]
    refine G_icmple (tgt := 21) (nx := 18) ⟨dX12_plant_15, rfl⟩ rfl (fun c_15 => ?_) (fun c_15 => ?_)
    · rw [nI_le_iff (by omega) (by omega)] at c_15
      refine G_aload_0 (nx := 22) ⟨dX12_plant_21, rfl⟩ ?_
      refine G_iconst (nx := 23) ⟨dX12_plant_22, rfl⟩ ci_0 ?_
      refine G_puti (nx := 26) (k := 75) ⟨dX12_plant_23, rfl⟩ pX12_122 q_75 yt_12_0 ?_
      refine G_iconst (nx := 27) ⟨dX12_plant_26, rfl⟩ ci_0 ?_
      refine G_istore_1 (nx := 28) ⟨dX12_plant_27, rfl⟩ rfl rfl ?_
      exact G_L (by rw [← nI_0]) (lM_plant2 c_15 h26 hpar (fun I1 h1 h2 h3 => hk I1 (by omega) c_15 h1 h2 h3) _ 0 _ rfl (by omega) ⟨by rw [w2_at, nI_0], by omega, fun p hp => absurd hp (by omega), fun p hp => absurd hp (by omega)⟩ (fun j hj => absurd hj (by omega)) (sb.rf.w rfl))
    · rw [nI_le_iff (by omega) (by omega)] at c_15
      refine G_bipush (nx := 20) ⟨dX12_plant_18, rfl⟩ cb_m3 ?_
      refine G_iret ⟨dX12_plant_20, rfl⟩ rfl ?_
      exact hk2 (by omega)
  · refine G_iconst (nx := 8) ⟨dX12_plant_7, rfl⟩ ci_m1 ?_
    refine G_iret ⟨dX12_plant_8, rfl⟩ rfl ?_
    rw [nI_0iff (by omega)] at c_4
    exact hk1 c_4
end XA7m
theorem dv_ex (z : Int32) : ∃ k, k < 65536 ∧ dv z = nI k := by
  unfold dv
  rw [show ((16 : Int32).toUInt32 &&& Int32.toUInt32 31) = 16 by decide]
  refine ⟨((dz z).toUInt32 >>> 16).toNat, ?_, ?_⟩
  · rw [UInt32.toNat_shiftRight, show (16 : UInt32).toNat % 32 = 16 by decide, Nat.shiftRight_eq_div_pow]
    have := (dz z).toUInt32.toNat_lt
    omega
  · generalize (dz z).toUInt32 >>> 16 = x
    apply Int32.toBitVec_inj.mp
    unfold nI
    rw [Int32.toBitVec_ofNat']
    exact (BitVec.ofNat_toNat 32 x.toBitVec).symm ▸ rfl
theorem dk_05 (z : Int32) (i : Nat) : inR (dkI z i) 0 5 = true := by
  obtain ⟨k, hk, e⟩ := dv_ex (zn z (2 * i))
  unfold dkI rmI
  rw [e, show (6 : Int32) = nI 6 from rfl, pk_rem (by omega) (by decide) (by decide), show (0 : Int32) = nI 0 from rfl, show (5 : Int32) = nI 5 from rfl, inR_nI (by omega) (by decide) (by decide)]
  exact decide_eq_true ⟨by omega, by omega⟩
theorem dw_19 (z : Int32) (i : Nat) : inR (dwI z i) 1 9 = true := by
  obtain ⟨k, hk, e⟩ := dv_ex (zn z (2 * i + 1))
  unfold dwI rmI
  rw [e, show (9 : Int32) = nI 9 from rfl, pk_rem (by omega) (by decide) (by decide), show (1 : Int32) = nI 1 from rfl, nI_add, inR_nI (by omega) (by decide) (by decide)]
  exact decide_eq_true ⟨by omega, by omega⟩
theorem ptG_WG {is : Nat → Int32} {m : Nat} (hm : m ≤ 60) (hpar : ∀ i, 0 < i → i < m → ∃ a, is i = nI a ∧ a < i) : ∀ k, k ≤ m → WG m (ptG is k) := by
  intro k
  induction k with
  | zero => intro _; exact WG_0 m
  | succ k ih =>
    intro hk
    unfold ptG
    split
    · exact ih (by omega)
    · obtain ⟨a, ea, ha⟩ := hpar k (by omega) (by omega)
      rw [ea, cl_nI (by omega)]
      exact (ih (by omega)).lay (by omega) (by omega) (by omega) (by decide)
theorem WG_add {n : Nat} {gr : Nat → Nat} (h : WG n gr) : WG (n + 1) (fun p => if p = n then 0 else gr p) := by
  have hb : ∀ p, p < n → (gr p).testBit n = false := fun p hp => Nat.testBit_lt_two_pow (h.1 p hp)
  refine ⟨fun p hp => ?_, fun p hp => ?_, fun p q hp hq => ?_⟩
  · show (if p = n then 0 else gr p) < _
    split
    · exact Nat.two_pow_pos _
    · have := h.1 p (by omega)
      have h2 : 2 ^ n ≤ 2 ^ (n + 1) := Nat.pow_le_pow_right (by decide) (by omega)
      omega
  · show (if p = n then 0 else gr p).testBit p = false
    split
    · exact Nat.zero_testBit _
    · exact h.2.1 p (by omega)
  · show (if p = n then 0 else gr p).testBit q = (if q = n then 0 else gr q).testBit p
    by_cases e1 : p = n <;> by_cases e2 : q = n
    · rw [if_pos e1, if_pos e2, Nat.zero_testBit, Nat.zero_testBit]
    · rw [if_pos e1, if_neg e2, Nat.zero_testBit, e1, hb q (by omega)]
    · rw [if_neg e1, if_pos e2, Nat.zero_testBit, e2, hb p (by omega)]
    · rw [if_neg e1, if_neg e2]
      exact h.2.2 p q (by omega) (by omega)
section XA7
variable {l : Launch} {d : Nat} {I : AI} {J : AJ} {g : Bool}

theorem op_point {k v : Int32} (hI : INV I g) : OPi l d mX11_point mX12_point [.ref 0, .int k, .int v] [.ref 75, .int k, .int v] I J g := by
  obtain ⟨n, gr, hN, hR⟩ := hI
  have hg := go_c g
  have h12 := hN.le
  refine cX_point hN.1 (fun h => ?_) (fun a b c => ?_) (fun a b c => ?_)
  · exact cM_point (d := d + 38) hN.2.1 (fun _ => fin rfl hN hR) (fun a b _ => absurd h (by rw [a, b]; decide)) (fun a b _ => absurd h (by rw [a, b]; decide))
  · exact cM_point (d := d + 38) hN.2.1 (fun h => absurd h (by rw [a, b]; decide)) (fun _ _ _ => fin rfl hN hR) (fun _ _ c2 => by omega)
  · have hX' := (hN.1.gc (gr' := fun p => if p = n then 0 else gr p) (fun x hx => (if_neg (by omega)).symm)).add (k := k) (v := v) c (if_pos rfl)
    have e0 : ∀ a b, ¬ ((a = 1 ∧ b = 4) ∨ ((a = 2 ∨ a = 3 ∨ a = 4) ∧ b = n)) → w2 (w2 (w2 (w2 I 2 n k) 3 n v) 4 n 0) 1 4 (nI (n + 1)) a b = I a b := fun a b h => by rw [w2_ne _ _ _ _ (by omega), w2_ne _ _ _ _ (by omega), w2_ne _ _ _ _ (by omega), w2_ne _ _ _ _ (by omega)]
    have e2 : w2 (w2 (w2 (w2 I 2 n k) 3 n v) 4 n 0) 1 4 (nI (n + 1)) 2 n = k := by rw [w2_ne _ _ _ _ (by omega), w2_ne _ _ _ _ (by omega), w2_ne _ _ _ _ (by omega), w2_at]
    have e3 : w2 (w2 (w2 (w2 I 2 n k) 3 n v) 4 n 0) 1 4 (nI (n + 1)) 3 n = v := by rw [w2_ne _ _ _ _ (by omega), w2_ne _ _ _ _ (by omega), w2_at]
    generalize w2 (w2 (w2 (w2 I 2 n k) 3 n v) 4 n 0) 1 4 (nI (n + 1)) = I1 at hX' e0 e2 e3
    refine cM_point (d := d + 38) (hN.2.1.fr (fun a b h => e0 a b (by omega))) (fun h => absurd h (by rw [a, b]; decide)) (fun _ _ c2 => by omega) (fun _ _ _ => ?_)
    have f0 : ∀ a b, ¬ ((a = 75 ∧ b = 0) ∨ ((a = 76 ∨ a = 77 ∨ a = 78) ∧ b = n)) → w2 (w2 (w2 (w2 I1 76 n k) 77 n v) 78 n 0) 75 0 (nI (n + 1)) a b = I1 a b := fun a b h => by rw [w2_ne _ _ _ _ (by omega), w2_ne _ _ _ _ (by omega), w2_ne _ _ _ _ (by omega), w2_ne _ _ _ _ (by omega)]
    have f6 : w2 (w2 (w2 (w2 I1 76 n k) 77 n v) 78 n 0) 75 0 (nI (n + 1)) 76 n = k := by rw [w2_ne _ _ _ _ (by omega), w2_ne _ _ _ _ (by omega), w2_ne _ _ _ _ (by omega), w2_at]
    have f7 : w2 (w2 (w2 (w2 I1 76 n k) 77 n v) 78 n 0) 75 0 (nI (n + 1)) 77 n = v := by rw [w2_ne _ _ _ _ (by omega), w2_ne _ _ _ _ (by omega), w2_at]
    have f8 : w2 (w2 (w2 (w2 I1 76 n k) 77 n v) 78 n 0) 75 0 (nI (n + 1)) 78 n = 0 := by rw [w2_ne _ _ _ _ (by omega), w2_at]
    have f5 : w2 (w2 (w2 (w2 I1 76 n k) 77 n v) 78 n 0) 75 0 (nI (n + 1)) 75 0 = nI (n + 1) := w2_at _ _ _ _
    generalize w2 (w2 (w2 (w2 I1 76 n k) 77 n v) 78 n 0) 75 0 (nI (n + 1)) = I2 at f0 f5 f6 f7 f8
    have hW' := WG_add hN.2.2.1
    refine fin rfl (n := n + 1) (gr := fun p => if p = n then 0 else gr p) ⟨hX'.fr (fun a b h => f0 a b (by omega)), ⟨f5, by omega, fun p hp => ?_, hW'.1⟩, hW', fun p hp => ?_⟩ (hR.f2 (hR.1.fr (fun a b h => (f0 a b (by unfold pZ at h; omega)).trans (e0 a b (by unfold pZ at h; omega)))) (fun a b h => (f0 a b (by unfold rst pT pR pS pV pI at h; omega)).trans (e0 a b (by unfold rst pT pR pS pV pI at h; omega))))
    · by_cases ep : p = n
      · subst ep
        show I2 78 p = nI (if p = p then 0 else gr p)
        rw [f8, if_pos rfl]
        rfl
      · show I2 78 p = nI (if p = n then 0 else gr p)
        rw [f0 78 p (by omega), e0 78 p (by omega), if_neg ep]
        exact hN.2.1.2.2.1 p (by omega)
    · by_cases ep : p = n
      · subst ep
        rw [f0 2 p (by omega), f0 3 p (by omega), e2, e3, f6, f7]
        exact ⟨rfl, rfl, a, b⟩
      · rw [f0 2 p (by omega), f0 3 p (by omega), f0 76 p (by omega), f0 77 p (by omega), e0 2 p (by omega), e0 3 p (by omega), e0 76 p (by omega), e0 77 p (by omega)]
        exact hN.2.2.2 p (by omega)

theorem op_line {a b q : Int32} (hI : INV I g) : OPi l d mX11_line mX12_line [.ref 0, .int a, .int b, .int q, UU] [.ref 75, .int a, .int b, .int q, UU] I J g := by
  obtain ⟨n, gr, hN, hR⟩ := hI
  have hg := go_c g
  have h12 := hN.le
  have hx : ∀ {x y on : Nat}, a = nI x → b = nI y → q = nI on → x < n → y < n → ¬ x = y → on ≤ 1 → ¬ (ptB n a && ptB n b && !decide (a = b) && inR q 0 1) = false := by
    intro x y on ea eb eq hx hy hne ho
    rw [ea, eb, eq, ptB_nI hx (by omega), ptB_nI hy (by omega), decide_eq_false (fun q => hne (nI_inj (by omega) (by omega) q)), show (0 : Int32) = nI 0 from rfl, show (1 : Int32) = nI 1 from rfl, inR_nI (by omega) (by decide) (by decide), decide_eq_true ⟨by omega, ho⟩]
    decide
  refine cX_line hN.1 (fun h => ?_) (fun x y on ea eb eq hx' hy hne ho => ?_)
  · exact cM_line (d := d + 37) hN.2.1 (fun _ => fin rfl hN hR) (fun x y on ea eb eq hx' hy hne ho => absurd h (hx ea eb eq hx' hy hne ho))
  · have hX' := hN.1.lay (by decide) hx' hy hne ho
    have e0 : ∀ a b, ¬ a = 4 → w2 (w2 I 4 x (nI (setb (gr x) y on))) 4 y (nI (setb (gr y) x on)) a b = I a b := fun a b h => by rw [w2_row _ _ _ _ h, w2_row _ _ _ _ h]
    generalize w2 (w2 I 4 x (nI (setb (gr x) y on))) 4 y (nI (setb (gr y) x on)) = I1 at hX' e0
    have hG1 : MG I1 n gr := hN.2.1.fr (fun a b h => e0 a b (by omega))
    refine cM_line (d := d + 37) hG1 (fun h => absurd h (hx ea eb eq hx' hy hne ho)) (fun x1 y1 on1 ea1 eb1 eq1 hx1 hy1 hne1 ho1 => ?_)
    have : x = x1 := nI_inj (by omega) (by omega) (ea.symm.trans ea1)
    subst this
    have : y = y1 := nI_inj (by omega) (by omega) (eb.symm.trans eb1)
    subst this
    have : on = on1 := nI_inj (by omega) (by omega) (eq.symm.trans eq1)
    subst this
    have hG2 := hG1.lay hx' hy hne ho
    have f0 : ∀ a b, ¬ a = 78 → w2 (w2 I1 78 x (nI (setb (gr x) y on))) 78 y (nI (setb (gr y) x on)) a b = I1 a b := fun a b h => by rw [w2_row _ _ _ _ h, w2_row _ _ _ _ h]
    generalize w2 (w2 I1 78 x (nI (setb (gr x) y on))) 78 y (nI (setb (gr y) x on)) = I2 at hG2 f0
    refine fin rfl ⟨hX'.fr (fun a b h => f0 a b (by omega)), hG2, hN.2.2.1.lay hx' hy hne ho, fun p hp => ?_⟩ (hR.f2 (hR.1.fr (fun a b h => (f0 a b (by unfold pZ at h; omega)).trans (e0 a b (by unfold pZ at h; omega)))) (fun a b h => (f0 a b (by unfold rst pT pR pS pV pI at h; omega)).trans (e0 a b (by unfold rst pT pR pS pV pI at h; omega))))
    rw [f0 2 p (by decide), f0 3 p (by decide), f0 76 p (by decide), f0 77 p (by decide), e0 2 p (by decide), e0 3 p (by decide), e0 76 p (by decide), e0 77 p (by decide)]
    exact hN.2.2.2 p hp

theorem op_change {p q v : Int32} (hI : INV I g) : OPi l d mX11_change mX12_change [.ref 0, .int p, .int q, .int v, UU] [.ref 75, .int p, .int q, .int v, UU] I J g := by
  obtain ⟨n, gr, hN, hR⟩ := hI
  have hg := go_c g
  have h12 := hN.le
  have h0 : ∀ {p0 : Nat}, p0 < n → p = nI p0 → q = 0 → inR v 0 5 = true → ¬ (ptB n p && inR q 0 1 && inR v q (if q = 0 then 5 else 9)) = false := by
    intro p0 hp ep eq hv
    rw [ep, ptB_nI hp (by omega), eq, if_pos rfl, hv]
    decide
  have h1 : ∀ {p0 : Nat}, p0 < n → p = nI p0 → q = 1 → inR v 1 9 = true → ¬ (ptB n p && inR q 0 1 && inR v q (if q = 0 then 5 else 9)) = false := by
    intro p0 hp ep eq hv
    rw [ep, ptB_nI hp (by omega), eq, if_neg (by decide), hv]
    decide
  refine cX_change hN.1 (fun h => ?_) (fun p0 hp ep eq hv => ?_) (fun p0 hp ep eq hv => ?_)
  · exact cM_change (d := d + 38) hN.2.1 (fun _ => fin rfl hN hR) (fun p0 hp ep eq hv => absurd h (h0 hp ep eq hv)) (fun p0 hp ep eq hv => absurd h (h1 hp ep eq hv))

  · have e0 : ∀ a b, ¬ (a = 2 ∧ b = p0) → w2 I 2 p0 v a b = I a b := fun a b h => w2_ne _ _ _ _ h
    have e1 : w2 I 2 p0 v 2 p0 = v := w2_at _ _ _ _
    generalize w2 I 2 p0 v = I1 at e0 e1
    refine cM_change (d := d + 38) (hN.2.1.fr (fun a b h => e0 a b (by omega))) (fun h => absurd h (h0 hp ep eq hv)) (fun p1 hp1 ep1 eq1 hv1 => ?_) (fun p1 hp1 ep1 eq1 hv1 => ?_)
    · have : p0 = p1 := nI_inj (by omega) (by omega) (ep.symm.trans ep1)
      subst this
      rw [e0 76 p0 (by omega)]
      have f0 : ∀ a b, ¬ (a = 76 ∧ b = p0) → w2 I1 76 p0 v a b = I1 a b := fun a b h => w2_ne _ _ _ _ h
      have f1 : w2 I1 76 p0 v 76 p0 = v := w2_at _ _ _ _
      generalize w2 I1 76 p0 v = I2 at f0 f1
      refine fin (hN.kd p0 hp) (n := n) (gr := gr) ⟨hN.1.fr (fun a b h => (f0 a b (by omega)).trans (e0 a b (by omega))), hN.2.1.fr (fun a b h => (f0 a b (by omega)).trans (e0 a b (by omega))), hN.2.2.1, fun p hp' => ?_⟩ (hR.f2 (hR.1.fr (fun a b h => (f0 a b (by unfold pZ at h; omega)).trans (e0 a b (by unfold pZ at h; omega)))) (fun a b h => (f0 a b (by unfold rst pT pR pS pV pI at h; omega)).trans (e0 a b (by unfold rst pT pR pS pV pI at h; omega))))
      obtain ⟨q1, q2, q3, q4⟩ := hN.2.2.2 p hp'
      by_cases epp : p = p0
      · subst epp
        rw [f0 2 p (by omega), f0 3 p (by omega), f1, f0 77 p (by omega), e1, e0 3 p (by omega), e0 77 p (by omega)]
        exact ⟨rfl, q2, hv, q4⟩
      · rw [f0 2 p (by omega), f0 3 p (by omega), f0 76 p (by omega), f0 77 p (by omega), e0 2 p (by omega), e0 3 p (by omega), e0 76 p (by omega), e0 77 p (by omega)]
        exact ⟨q1, q2, q3, q4⟩
    · rw [eq] at eq1
      exact absurd eq1 (by decide)
  · have e0 : ∀ a b, ¬ (a = 3 ∧ b = p0) → w2 I 3 p0 v a b = I a b := fun a b h => w2_ne _ _ _ _ h
    have e1 : w2 I 3 p0 v 3 p0 = v := w2_at _ _ _ _
    generalize w2 I 3 p0 v = I1 at e0 e1
    refine cM_change (d := d + 38) (hN.2.1.fr (fun a b h => e0 a b (by omega))) (fun h => absurd h (h1 hp ep eq hv)) (fun p1 hp1 ep1 eq1 hv1 => ?_) (fun p1 hp1 ep1 eq1 hv1 => ?_)
    · rw [eq] at eq1
      exact absurd eq1 (by decide)
    · have : p0 = p1 := nI_inj (by omega) (by omega) (ep.symm.trans ep1)
      subst this
      rw [e0 77 p0 (by omega)]
      have f0 : ∀ a b, ¬ (a = 77 ∧ b = p0) → w2 I1 77 p0 v a b = I1 a b := fun a b h => w2_ne _ _ _ _ h
      have f1 : w2 I1 77 p0 v 77 p0 = v := w2_at _ _ _ _
      generalize w2 I1 77 p0 v = I2 at f0 f1
      refine fin (hN.wt p0 hp) (n := n) (gr := gr) ⟨hN.1.fr (fun a b h => (f0 a b (by omega)).trans (e0 a b (by omega))), hN.2.1.fr (fun a b h => (f0 a b (by omega)).trans (e0 a b (by omega))), hN.2.2.1, fun p hp' => ?_⟩ (hR.f2 (hR.1.fr (fun a b h => (f0 a b (by unfold pZ at h; omega)).trans (e0 a b (by unfold pZ at h; omega)))) (fun a b h => (f0 a b (by unfold rst pT pR pS pV pI at h; omega)).trans (e0 a b (by unfold rst pT pR pS pV pI at h; omega))))
      obtain ⟨q1, q2, q3, q4⟩ := hN.2.2.2 p hp'
      by_cases epp : p = p0
      · subst epp
        rw [f0 2 p (by omega), f0 3 p (by omega), f1, f0 76 p (by omega), e1, e0 2 p (by omega), e0 76 p (by omega)]
        exact ⟨q1, rfl, q3, hv⟩
      · rw [f0 2 p (by omega), f0 3 p (by omega), f0 76 p (by omega), f0 77 p (by omega), e0 2 p (by omega), e0 3 p (by omega), e0 76 p (by omega), e0 77 p (by omega)]
        exact ⟨q1, q2, q3, q4⟩
theorem op_deal {a v : Int32} (hI : INV I g) : OPi l d mX11_deal mX12_deal [.ref 0, .int a, .int v] [.ref 75, .int a, .int v] I J g := by
  obtain ⟨n, gr, hN, hR⟩ := hI
  have hg := go_c g
  have hx : ∀ {m : Nat}, a = nI m → m ≤ 12 → inR v 0 10 = true → ¬ (inR a 0 12 && inR v 0 10) = false := by
    intro m e hm hv
    rw [e, hv, show (0 : Int32) = nI 0 from rfl, show (12 : Int32) = nI 12 from rfl, inR_nI (by omega) (by decide) (by decide), decide_eq_true ⟨by omega, hm⟩]
    decide
  refine cX_deal (hR.1 : I 0 14 = I 75 1) (fun h => ?_) (fun m I1 e hm hv c1 c2 c3 hs1 => ?_)
  · exact cM_deal (d := d + 38) rfl (fun _ => fin rfl hN hR) (fun m _ e hm hv _ _ _ _ => absurd h (hx e hm hv))
  · have k1 : ∀ a b, fDl a b = true → (a = 1 ∧ b = 4) ∨ (2 ≤ a ∧ a ≤ 4) ∨ (a = 0 ∧ b = 14) := by
      intro a b h
      simp only [fDl, fNt, Bool.or_eq_true, Bool.and_eq_true, beq_iff_eq] at h
      omega
    have e1 : ∀ a b, ¬ ((a = 1 ∧ b = 4) ∨ (2 ≤ a ∧ a ≤ 4) ∨ (a = 0 ∧ b = 14)) → I1 a b = I a b := fun a b h => hs1 a b (Bool.eq_false_iff.mpr (fun q => h (k1 a b q)))
    refine cM_deal (d := d + 38) (e1 75 1 (by omega)) (fun h => absurd h (hx e hm hv)) (fun m1 I2 e' hm1 _ d1 d2 d3 hs2 => ?_)
    have : m = m1 := nI_inj (by omega) (by omega) (e.symm.trans e')
    subst this
    have k2 : ∀ a b, fB a b = true → (a = 75 ∧ (b = 0 ∨ b = 1)) ∨ (76 ≤ a ∧ a ≤ 78) := by
      intro a b h
      simp only [fB, Bool.or_eq_true, Bool.and_eq_true, beq_iff_eq] at h
      omega
    have e2 : ∀ a b, ¬ ((a = 75 ∧ (b = 0 ∨ b = 1)) ∨ (76 ≤ a ∧ a ≤ 78)) → I2 a b = I1 a b := fun a b h => hs2 a b (Bool.eq_false_iff.mpr (fun q => h (k2 a b q)))
    refine fin rfl ⟨c1.fr (fun a b h => e2 a b (by omega)), d1, dl_WG _ _ _, fun p hp => ?_⟩ (hR.f2 ?_ (fun a b h => (e2 a b (by unfold rst pT pR pS pV pI at h; omega)).trans (e1 a b (by unfold rst pT pR pS pV pI at h; omega))))
    · rw [e2 2 p (by omega), e2 3 p (by omega), (c3 p hp).1, (c3 p hp).2, (d3 p hp).1, (d3 p hp).2]
      exact ⟨rfl, rfl, dk_05 _ _, dw_19 _ _⟩
    · show I2 0 14 = I2 75 1
      rw [e2 0 14 (by omega), c2, d2]

theorem op_times {a b v c : Int32} (hI : INV I g) : OPi l d mX11_times mX12_times [.ref 0, .int a, .int b, .int v, .int c, UU, UU, UU] [.ref 75, .int a, .int b, .int v, .int c, UU, UU] I J g := by
  obtain ⟨n, gr, hN, hR⟩ := hI
  have hg := go_c g
  have hx : ∀ {t0 m k0 : Nat}, a = nI t0 → 1 ≤ t0 → t0 ≤ 20 → b = nI m → m ≤ 12 → inR v 0 10 = true → c = nI k0 → k0 ≤ 12 → ¬ (inR a 1 20 && inR b 0 12 && inR v 0 10 && inR c 0 12) = false := by
    intro t0 m k0 e h1 h2 e2 h3 hv e3 h4
    rw [e, e2, e3, hv, show (0 : Int32) = nI 0 from rfl, show (12 : Int32) = nI 12 from rfl, show (1 : Int32) = nI 1 from rfl, show (20 : Int32) = nI 20 from rfl, inR_nI (by omega) (by decide) (by decide), inR_nI (by omega) (by decide) (by decide), inR_nI (by omega) (by decide) (by decide), decide_eq_true ⟨h1, h2⟩, decide_eq_true ⟨by omega, h3⟩, decide_eq_true ⟨by omega, h4⟩]
    decide
  refine cX_times (hR.1 : I 0 14 = I 75 1) (fun h => ?_) (fun t0 m k0 I1 e h1 h2 e2 h3 hv e3 h4 hs1 => ?_)
  · exact cM_times (d := d + 36) rfl (fun _ => fin rfl hN hR) (fun t0 m k0 _ e h1 h2 e2 h3 hv e3 h4 _ _ _ _ => absurd h (hx e h1 h2 e2 h3 hv e3 h4))
  · have hv1 := hs1.sq (v_fNt6 g)
    have hN1 := hN.fr hv1.N
    have hR1 := hR.fr hv1
    refine cM_times (d := d + 36) (hv1.Z 75 1 (by unfold pZ; omega)) (fun h => absurd h (hx e h1 h2 e2 h3 hv e3 h4)) (fun t1 m1 k1 I2 e' h1' h2' e2' h3' _ e3' h4' d1 d2 d3 hs2 => ?_)
    have : t0 = t1 := nI_inj (by omega) (by omega) (e.symm.trans e')
    subst this
    have : m = m1 := nI_inj (by omega) (by omega) (e2.symm.trans e2')
    subst this
    have : k0 = k1 := nI_inj (by omega) (by omega) (e3.symm.trans e3')
    subst this
    have k2 : ∀ a b, (fB a b || a == 101) = true → (a = 75 ∧ (b = 0 ∨ b = 1)) ∨ (76 ≤ a ∧ a ≤ 78) ∨ a = 101 := by
      intro a b h
      simp only [fB, Bool.or_eq_true, Bool.and_eq_true, beq_iff_eq] at h
      omega
    have f0 : ∀ a b, ¬ ((a = 75 ∧ (b = 0 ∨ b = 1)) ∨ (76 ≤ a ∧ a ≤ 78) ∨ a = 101) → I2 a b = I1 a b := fun a b h => hs2 a b (Bool.eq_false_iff.mpr (fun q => h (k2 a b q)))
    have h12 := hN.le
    refine fin rfl (n := n) (gr := gr) ⟨hN1.1.fr (fun a b h => f0 a b (by omega)), ⟨d1.trans hN1.2.1.1, h12, fun p hp => ((d3 p (by omega)).2.2).trans (hN1.2.1.2.2.1 p hp), hN1.2.1.2.2.2⟩, hN.2.2.1, fun p hp => ?_⟩ (hR1.f2 ?_ (fun a b h => f0 a b (by unfold rst pT pR pS pV pI at h; omega)))
    · obtain ⟨x1, x2, _⟩ := d3 p (by omega)
      rw [f0 2 p (by omega), f0 3 p (by omega), x1, x2]
      exact hN1.2.2.2 p hp
    · show I2 0 14 = I2 75 1
      rw [f0 0 14 (by omega), d2]
      exact hR1.1

end XA7
