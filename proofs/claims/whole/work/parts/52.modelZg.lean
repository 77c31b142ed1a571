
theorem pyI_le (gr : Nat → Nat) (A B : Int32) (x : Nat) : ∀ k, k ≤ x + 1 → ∀ s, lp (pyI gr A B x) k s = s := by
  intro k
  induction k with
  | zero => intro _ s; rfl
  | succ k ih =>
    intro hk s
    rw [lp_s, ih (by omega) s]
    unfold pyI
    rw [if_neg (by omega)]
def pyO (gr : Nat → Nat) (A B : Int32) (n x : Nat) (s : PY) : PY := lp (pyI gr A B x) n s
def pyN (n : Nat) (gr : Nat → Nat) (A B : Int32) (P0 : Nat → Int32) : PY := lp (pyO gr A B n) n (P0, 0, 0)
def pyE (n : Nat) (s t : PY) : Prop := (∀ j, j < n → s.1 j = t.1 j) ∧ s.2 = t.2
theorem pyI_congr {n : Nat} {gr : Nat → Nat} {A B : Int32} {x y : Nat} (hx : x < n) (hy : y < n) {s t : PY} (h : pyE n s t) : pyE n (pyI gr A B x y s) (pyI gr A B x y t) := by
  unfold pyI
  by_cases c : x < y ∧ (gr x).testBit y = true
  · rw [if_pos c, if_pos c]
    have em : pyM s.1 x y = pyM t.1 x y := by unfold pyM; rw [h.1 x hx, h.1 y hy]
    refine ⟨fun j hj => ?_, ?_⟩
    · simp only [upd, em, h.1 x hx, h.1 y hy, h.1 j hj]
    · simp only [em, h.2]
  · rw [if_neg c, if_neg c]; exact h
theorem pyO_congr {n : Nat} {gr : Nat → Nat} {A B : Int32} {x : Nat} (hx : x < n) {s t : PY} (h : pyE n s t) : ∀ k, k ≤ n → pyE n (lp (pyI gr A B x) k s) (lp (pyI gr A B x) k t) := by
  intro k
  induction k with
  | zero => intro _; exact h
  | succ k ih => intro hk; rw [lp_s, lp_s]; exact pyI_congr hx (by omega) (ih (by omega))
theorem pyN_congr {n : Nat} {gr : Nat → Nat} {A B : Int32} {s t : PY} (h : pyE n s t) : ∀ k, k ≤ n → pyE n (lp (pyO gr A B n) k s) (lp (pyO gr A B n) k t) := by
  intro k
  induction k with
  | zero => intro _; exact h
  | succ k ih => intro hk; rw [lp_s, lp_s]; exact pyO_congr (by omega) (ih (by omega)) n (Nat.le_refl n)
/-- points whose purse is empty -/
def spF (P : Nat → Int32) (p a : Nat) : Nat := a ||| (if P p = 0 then 2 ^ p else 0)
def spN (n : Nat) (P : Nat → Int32) : Nat := lp (spF P) n 0
theorem spN_congr {P Q : Nat → Int32} : ∀ n, (∀ j, j < n → P j = Q j) → spN n P = spN n Q := by
  intro n
  induction n with
  | zero => intro _; rfl
  | succ n ih =>
    intro h
    have := ih (fun j hj => h j (by omega))
    unfold spN at this ⊢
    rw [lp_s, lp_s, this, spF, spF, h n (by omega)]
theorem spN_lt (P : Nat → Int32) : ∀ n, spN n P < 2 ^ n := by
  intro n
  induction n with
  | zero => exact Nat.one_pos
  | succ n ih =>
    unfold spN at ih ⊢
    rw [lp_s, spF]
    have h1 : 2 ^ n < 2 ^ (n + 1) := Nat.pow_lt_pow_right (by omega) (by omega)
    refine Nat.or_lt_two_pow (by omega) ?_
    split
    · exact h1
    · exact Nat.two_pow_pos _
section M52
variable {l : Launch} {d : Nat} {K : AK} {I : AI} {J : AJ} {g : Bool} {n : Nat} {gr : Nat → Nat}

theorem lM_pay3 {A B : Int32} {Q0 : Nat → Int32} (hG : MG I n gr) (hk : ∀ (I' : AI), I' 87 = (lp (pyO gr A B n) n (Q0, 0, 0)).1 → sb f87 I I' → K (.int (if A = -1 then (lp (pyO gr A B n) n (Q0, 0, 0)).2.1 else (lp (pyO gr A B n) n (Q0, 0, 0)).2.2)) I' J (rX g)) : ∀ (k x : Nat) (I1 : AI) (x6 x7 : Value), notL x6 = true → notL x7 = true → n - x = k → x ≤ n → I1 87 = (lp (pyO gr A B n) x (Q0, 0, 0)).1 → sb f87 I I1 → G l (d + 1) mX12_payments K 39 [.ref 75, .int A, .int B, .int (lp (pyO gr A B n) x (Q0, 0, 0)).2.1, .int (lp (pyO gr A B n) x (Q0, 0, 0)).2.2, .int (nI x), x6, x7] [] I1 J (rX g) := by
  intro k
  induction k using Nat.strongRecOn with
  | _ k ih =>
  intro x I1 x6 x7 hx6 hx7 hxk hx hP hs1
  have hn := hG.2.1
  have hG1 : MG I1 n gr := hG.sb hs1 rfl (fun _ => rfl)
  have e0 := hG1.1
  refine G_iload_5 (nx := 41) ⟨dX12_payments_39, rfl⟩ ?_
  refine G_aload_0 (nx := 42) ⟨dX12_payments_41, rfl⟩ ?_
  refine G_geti (nx := 45) (k := 75) ⟨dX12_payments_42, rfl⟩ fX12_122 q_75 yi_12_0 ?_
  rw [e0]
  refine G_icmpge (tgt := 191) (nx := 48) ⟨dX12_payments_45, rfl⟩ rfl (fun c_45 => ?_) (fun c_45 => ?_)
  · refine G_iload_1 (nx := 192) ⟨dX12_payments_191, rfl⟩ ?_
    refine G_iconst (nx := 193) ⟨dX12_payments_192, rfl⟩ ci_m1 ?_
    refine G_icmpne (tgt := 200) (nx := 196) ⟨dX12_payments_193, rfl⟩ rfl (fun c_193 => ?_) (fun c_193 => ?_)
    · refine G_iload_4 (nx := 202) ⟨dX12_payments_200, rfl⟩ ?_
      refine G_iret ⟨dX12_payments_202, rfl⟩ rfl ?_
      rw [nI_le_iff (by omega) (by omega)] at c_45
      have e : x = n := by omega
      subst e
      have fin := hk I1 hP hs1
      rw [if_neg c_193] at fin
      exact fin
    · refine G_iload_3 (nx := 197) ⟨dX12_payments_196, rfl⟩ ?_
      refine G_goto (tgt := 202) ⟨dX12_payments_197, rfl⟩ rfl ?_
      refine G_iret ⟨dX12_payments_202, rfl⟩ rfl ?_
      rw [nI_le_iff (by omega) (by omega)] at c_45
      have e : x = n := by omega
      subst e
      have fin := hk I1 hP hs1
      rw [if_pos c_193] at fin
      exact fin
  · rw [nI_le_iff (by omega) (by omega)] at c_45
    have hxn : x < n := by omega
    refine G_iload_5 (nx := 50) ⟨dX12_payments_48, rfl⟩ ?_
    refine G_iconst (nx := 51) ⟨dX12_payments_50, rfl⟩ ci_1 ?_
    refine G_iadd (nx := 52) ⟨dX12_payments_51, rfl⟩ ?_
    refine G_istore_6 (nx := 54) ⟨dX12_payments_52, rfl⟩ rfl rfl ?_
    rw [nI_1]
    have hin := pyI_le gr A B x (x + 1) (Nat.le_refl _) (lp (pyO gr A B n) x (Q0, 0, 0))
    refine G_L (by rw [hin]) (lM_pay2 (A := A) (B := B) (I := I1) (S0 := (lp (pyO gr A B n) x (Q0, 0, 0))) hG1 hxn (fun I2 y7 hy7 hP2 hs2 => ?_) _ (x + 1) I1 x7 hx7 rfl (by omega) (by omega) (by rw [hin]; exact hP) sb.rf)
    refine G_iinc_5 (nx := 188) ⟨dX12_payments_185, rfl⟩ ci_1 rfl ?_
    refine G_goto (tgt := 39) ⟨dX12_payments_188, rfl⟩ rfl ?_
    exact G_L (by rw [nI_1]; rfl) (ih (n - (x + 1)) (by omega) (x + 1) I2 _ y7 rfl hy7 rfl (by omega) hP2 (hs1.tr hs2))
    

theorem cM_payments {A B : Int32} {P0 : Nat → Int32} (hG : MG I n gr) (hP0 : ∀ j, j < n → pu0 I gr j = P0 j) (hk : ∀ (I' : AI), (∀ j, j < n → I' 87 j = (pyN n gr A B P0).1 j) → sb f87 I I' → K (.int (if A = -1 then (pyN n gr A B P0).2.1 else (pyN n gr A B P0).2.2)) I' J (rX g)) : G l (d + 2) mX12_payments K 0 [.ref 75, .int A, .int B, UU, UU, UU, UU, UU] [] I J (rX g) := by
  refine G_iconst (nx := 1) ⟨dX12_payments_0, rfl⟩ ci_0 ?_
  refine G_istore_3 (nx := 2) ⟨dX12_payments_1, rfl⟩ rfl rfl ?_
  refine G_iconst (nx := 3) ⟨dX12_payments_2, rfl⟩ ci_0 ?_
  refine G_istore_4 (nx := 5) ⟨dX12_payments_3, rfl⟩ rfl rfl ?_
  refine G_iconst (nx := 6) ⟨dX12_payments_5, rfl⟩ ci_0 ?_
  refine G_istore_5 (nx := 8) ⟨dX12_payments_6, rfl⟩ rfl rfl ?_
  refine G_L (by rw [← nI_0]) (lM_pay1 (d := d) hG (fun I1 hp hs1 => ?_) _ 0 I rfl (by omega) (fun j hj => absurd hj (by omega)) sb.rf)
  have hG1 : MG I1 n gr := hG.sb hs1 rfl (fun _ => rfl)
  have hE : pyE n (lp (pyO gr A B n) n (I1 87, 0, 0)) (pyN n gr A B P0) := pyN_congr (s := (I1 87, 0, 0)) (t := (P0, 0, 0)) ⟨fun j hj => (hp j hj).trans (hP0 j hj), rfl⟩ n (Nat.le_refl n)
  refine G_iconst (nx := 37) ⟨dX12_payments_36, rfl⟩ ci_0 ?_
  refine G_istore_5 (nx := 39) ⟨dX12_payments_37, rfl⟩ rfl rfl ?_
  refine G_L (by rw [← nI_0]; rfl) (lM_pay3 (d := d + 1) (Q0 := I1 87) hG1 (fun I2 h1 h2 => ?_) _ 0 I1 UU UU rfl rfl rfl (by omega) rfl sb.rf)
  rw [hE.2]
  exact hk I2 (fun j hj => by rw [h1]; exact hE.1 j hj) (hs1.tr h2)
  

theorem lM_pays {q t : Int32} (hG : MG I n gr) (hgo : G l (d + 2) mX12_pays K 60 [.ref 75, .int q, .int t, .int (nI (lp (spF (I 87)) n 0)), .int (nI n)] [] I J (rX g)) : ∀ (k p : Nat), n - p = k → p ≤ n → G l (d + 2) mX12_pays K 24 [.ref 75, .int q, .int t, .int (nI (lp (spF (I 87)) p 0)), .int (nI p)] [] I J (rX g) := by
  intro k
  induction k using Nat.strongRecOn with
  | _ k ih =>
  intro p hpk hpn
  have hn := hG.2.1
  have e0 := hG.1
  have ecp := cl_nI (p := p) (by omega)
  refine G_iload_4 (nx := 26) ⟨dX12_pays_24, rfl⟩ ?_
  refine G_aload_0 (nx := 27) ⟨dX12_pays_26, rfl⟩ ?_
  refine G_geti (nx := 30) (k := 75) ⟨dX12_pays_27, rfl⟩ fX12_122 q_75 yi_12_0 ?_
  rw [e0]
  refine G_icmpge (tgt := 60) (nx := 33) ⟨dX12_pays_30, rfl⟩ rfl (fun c_30 => ?_) (fun c_30 => ?_)
  · rw [nI_le_iff (by omega) (by omega)] at c_30
    have e : p = n := by omega
    subst e
    exact hgo
  · rw [nI_le_iff (by omega) (by omega)] at c_30
    have hp : p < n := by omega
    have h12 := in12 hp hn
    refine G_iload_3 (nx := 34) ⟨dX12_pays_33, rfl⟩ ?_
    refine G_aload_0 (nx := 35) ⟨dX12_pays_34, rfl⟩ ?_
    refine G_getr (nx := 38) (k := 75) (r := 87) ⟨dX12_pays_35, rfl⟩ fX12_47 q_75 yr_12_23 (r_75_23 _) ?_
    refine G_iload_4 (nx := 40) ⟨dX12_pays_38, rfl⟩ ?_
    refine G_iald (nx := 41) (k := 87) ⟨dX12_pays_40, rfl⟩ q_87 (by first | assumption | decide | (unfold vp_in; decide)) ?_
    rw [ecp]
    refine G_ifne (tgt := 51) (nx := 44) ⟨dX12_pays_41, rfl⟩ rfl (fun c_41 => ?_) (fun c_41 => ?_)
    · refine G_iconst (nx := 52) ⟨dX12_pays_51, rfl⟩ ci_0 ?_
      refine G_ior (nx := 53) ⟨dX12_pays_52, rfl⟩ ?_
      refine G_istore_3 (nx := 54) ⟨dX12_pays_53, rfl⟩ rfl rfl ?_
      refine G_iinc_4 (nx := 57) ⟨dX12_pays_54, rfl⟩ ci_1 rfl ?_
      refine G_goto (tgt := 24) ⟨dX12_pays_57, rfl⟩ rfl ?_
      refine G_L ?_ (ih (n - (p + 1)) (by omega) (p + 1) rfl (by omega))
      rw [lp_s, spF, if_neg c_41, nI_1, Nat.or_zero, Int32.or_zero]
    · refine G_iconst (nx := 45) ⟨dX12_pays_44, rfl⟩ ci_1 ?_
      refine G_iload_4 (nx := 47) ⟨dX12_pays_45, rfl⟩ ?_
      
      refine G_ishl (nx := 48) ⟨dX12_pays_47, rfl⟩ ?_
      rw [one_shl (show p < 31 by omega)]
      refine G_goto (tgt := 52) ⟨dX12_pays_48, rfl⟩ rfl ?_
      refine G_ior (nx := 53) ⟨dX12_pays_52, rfl⟩ ?_
      refine G_istore_3 (nx := 54) ⟨dX12_pays_53, rfl⟩ rfl rfl ?_
      refine G_iinc_4 (nx := 57) ⟨dX12_pays_54, rfl⟩ ci_1 rfl ?_
      refine G_goto (tgt := 24) ⟨dX12_pays_57, rfl⟩ rfl ?_
      refine G_L ?_ (ih (n - (p + 1)) (by omega) (p + 1) rfl (by omega))
      rw [lp_s, spF, if_pos c_41, nI_1, nI_or]

theorem cM_pays {q : Int32} {P0 : Nat → Int32} {kd wt : Nat → Int32} (hG : MG I n gr) (hP0 : ∀ j, j < n → pu0 I gr j = P0 j) (hkd : ∀ p, p < n → I 76 p = kd p) (hwt : ∀ p, p < n → I 77 p = wt p) (hk1 : inR q 0 2 = false → K (.int (-2)) I J (rX g)) (hk : ∀ (I' : AI), inR q 0 2 = true → sb f87 I I' → K (.int (if q = 0 then (pyN n gr (-1) (-1) P0).2.1 else if q = 1 then nI (spN n (pyN n gr (-1) (-1) P0).1) else coN n kd wt gr (spN n (pyN n gr (-1) (-1) P0).1))) I' J (rX g)) : G l (d + 3) mX12_pays K 0 [.ref 75, .int q, UU, UU, UU] [] I J (rX g) := by
  refine G_iload_1 (nx := 1) ⟨dX12_pays_0, rfl⟩ ?_
  refine G_iconst (nx := 2) ⟨dX12_pays_1, rfl⟩ ci_0 ?_
  refine G_iconst (nx := 3) ⟨dX12_pays_2, rfl⟩ ci_2 ?_
  refine G_cs3 (nx := 6) ⟨dX12_pays_3, rfl⟩ kX12_125 rfl rfl (Nat.le_of_ble_eq_true rfl) (Nat.le_of_ble_eq_true rfl) (cM_in ?_)
  refine G_ifne (tgt := 12) (nx := 9) ⟨dX12_pays_6, rfl⟩ rfl (fun c_6 => ?_) (fun c_6 => ?_)
  · rw [bi_n0] at c_6
    refine G_aload_0 (nx := 13) ⟨dX12_pays_12, rfl⟩ ?_
    refine G_iconst (nx := 14) ⟨dX12_pays_13, rfl⟩ ci_m1 ?_
    refine G_iconst (nx := 15) ⟨dX12_pays_14, rfl⟩ ci_m1 ?_
    refine G_cv2 (nx := 18) ⟨dX12_pays_15, rfl⟩ kX12_291 rfl q_75 rfl (Nat.le_of_ble_eq_true rfl) (Nat.le_of_ble_eq_true rfl) (cM_payments hG hP0 (fun I1 hp hs1 => ?_))
    refine G_istore_2 (nx := 19) ⟨dX12_pays_18, rfl⟩ rfl rfl ?_
    refine G_iconst (nx := 20) ⟨dX12_pays_19, rfl⟩ ci_0 ?_
    refine G_istore_3 (nx := 21) ⟨dX12_pays_20, rfl⟩ rfl rfl ?_
    refine G_iconst (nx := 22) ⟨dX12_pays_21, rfl⟩ ci_0 ?_
    refine G_istore_4 (nx := 24) ⟨dX12_pays_22, rfl⟩ rfl rfl ?_
    rw [if_pos rfl]
    have hG1 : MG I1 n gr := hG.sb hs1 rfl (fun _ => rfl)
    have esp := spN_congr n hp
    have hlt := Nat.lt_of_lt_of_le (spN_lt (pyN n gr (-1) (-1) P0).1 n) (pow12 hG.2.1)
    refine G_L (by rw [← nI_0]; rfl) (lM_pays (d := d + 1) hG1 ?_ _ 0 rfl (by omega))
    have fin := hk I1 c_6 hs1
    refine G_L (L' := [.ref 75, .int q, .int (pyN n gr (-1) (-1) P0).2.1, .int (nI (spN n (pyN n gr (-1) (-1) P0).1)), .int (nI n)]) (by rw [← esp]; rfl) ?_
    refine G_iload_1 (nx := 61) ⟨dX12_pays_60, rfl⟩ ?_
    refine G_ifne (tgt := 68) (nx := 64) ⟨dX12_pays_61, rfl⟩ rfl (fun c_61 => ?_) (fun c_61 => ?_)
    · refine G_iload_1 (nx := 69) ⟨dX12_pays_68, rfl⟩ ?_
      refine G_iconst (nx := 70) ⟨dX12_pays_69, rfl⟩ ci_1 ?_
      refine G_icmpne (tgt := 77) (nx := 73) ⟨dX12_pays_70, rfl⟩ rfl (fun c_70 => ?_) (fun c_70 => ?_)
      · refine G_aload_0 (nx := 78) ⟨dX12_pays_77, rfl⟩ ?_
        refine G_iload_3 (nx := 79) ⟨dX12_pays_78, rfl⟩ ?_
        refine G_cv1 (nx := 82) ⟨dX12_pays_79, rfl⟩ kX12_177 rfl q_75 rfl (Nat.le_of_ble_eq_true rfl) (Nat.le_of_ble_eq_true rfl) (cM_costs hG1 (fun p hp => (hs1 76 p rfl).trans (hkd p hp)) (fun p hp => (hs1 77 p rfl).trans (hwt p hp)) hlt ?_)
        refine G_iret ⟨dX12_pays_82, rfl⟩ rfl ?_
        rw [if_neg c_61, if_neg c_70] at fin
        exact fin
      · refine G_iload_3 (nx := 74) ⟨dX12_pays_73, rfl⟩ ?_
        refine G_goto (tgt := 82) ⟨dX12_pays_74, rfl⟩ rfl ?_
        refine G_iret ⟨dX12_pays_82, rfl⟩ rfl ?_
        rw [if_neg c_61, if_pos c_70] at fin
        exact fin
    · refine G_iload_2 (nx := 65) ⟨dX12_pays_64, rfl⟩ ?_
      refine G_goto (tgt := 82) ⟨dX12_pays_65, rfl⟩ rfl ?_
      refine G_iret ⟨dX12_pays_82, rfl⟩ rfl ?_
      rw [if_pos c_61] at fin
      exact fin
    
  · rw [bi_0] at c_6
    refine G_bipush (nx := 11) ⟨dX12_pays_9, rfl⟩ cb_m2 ?_
    refine G_iret ⟨dX12_pays_11, rfl⟩ rfl ?_
    exact hk1 c_6

theorem cM_paid {a b : Int32} {P0 : Nat → Int32} (hG : MG I n gr) (hP0 : ∀ j, j < n → pu0 I gr j = P0 j) (hk1 : (ptB n a && ptB n b && !decide (a = b)) = false → K (.int (-2)) I J (rX g)) (hk2 : ∀ x y, x < n → y < n → ¬ x = y → a = nI x → b = nI y → (gr x).testBit y = false → K (.int (-1)) I J (rX g)) (hk : ∀ x y (I' : AI), x < n → y < n → ¬ x = y → a = nI x → b = nI y → (gr x).testBit y = true → sb f87 I I' → K (.int (pyN n gr a b P0).2.2) I' J (rX g)) : G l (d + 3) mX12_paid K 0 [.ref 75, .int a, .int b] [] I J (rX g) := by
  have hn := hG.2.1
  refine G_aload_0 (nx := 1) ⟨dX12_paid_0, rfl⟩ ?_
  refine G_iload_1 (nx := 2) ⟨dX12_paid_1, rfl⟩ ?_
  refine G_iload_2 (nx := 3) ⟨dX12_paid_2, rfl⟩ ?_
  refine G_cv2 (nx := 6) ⟨dX12_paid_3, rfl⟩ kX12_149 rfl q_75 rfl (Nat.le_of_ble_eq_true rfl) (Nat.le_of_ble_eq_true rfl) (cM_areTwo hG ?_)
  refine G_ifne (tgt := 14) (nx := 9) ⟨dX12_paid_6, rfl⟩ rfl (fun c_6 => ?_) (fun c_6 => ?_)
  · rw [bi_n0] at c_6
    simp only [Bool.and_eq_true, Bool.not_eq_true', decide_eq_false_iff_not] at c_6
    obtain ⟨x, hx, ea⟩ := ptB_ex (by omega) c_6.1.1
    obtain ⟨y, hy, eb⟩ := ptB_ex (by omega) c_6.1.2
    have hxy : ¬ x = y := fun e => c_6.2 (by rw [ea, eb, e])
    subst ea
    subst eb
    have h12 := in12 hx hn
    refine G_aload_0 (nx := 15) ⟨dX12_paid_14, rfl⟩ ?_
    refine G_getr (nx := 18) (k := 75) (r := 78) ⟨dX12_paid_15, rfl⟩ fX12_20 q_75 yr_12_4 (r_75_4 _) ?_
    refine G_iload_1 (nx := 19) ⟨dX12_paid_18, rfl⟩ ?_
    refine G_iald (nx := 20) (k := 78) ⟨dX12_paid_19, rfl⟩ q_78 (by first | assumption | decide | (unfold vp_in; decide)) ?_
    rw [hG.row hx]
    refine G_iload_2 (nx := 21) ⟨dX12_paid_20, rfl⟩ ?_
    refine G_cs2 (nx := 24) ⟨dX12_paid_21, rfl⟩ kX12_118 rfl rfl (Nat.le_of_ble_eq_true rfl) (Nat.le_of_ble_eq_true rfl) (cM_has (lt31 (hG.lt hx)) (by omega) ?_)
    refine G_ifeq (tgt := 36) (nx := 27) ⟨dX12_paid_24, rfl⟩ rfl (fun c_24 => ?_) (fun c_24 => ?_)
    · refine G_iconst (nx := 37) ⟨dX12_paid_36, rfl⟩ ci_m1 ?_
      refine G_iret ⟨dX12_paid_37, rfl⟩ rfl ?_
      rw [bi_0] at c_24
      exact hk2 x y hx hy hxy rfl rfl c_24
    · refine G_aload_0 (nx := 28) ⟨dX12_paid_27, rfl⟩ ?_
      refine G_iload_1 (nx := 29) ⟨dX12_paid_28, rfl⟩ ?_
      refine G_iload_2 (nx := 30) ⟨dX12_paid_29, rfl⟩ ?_
      refine G_cv2 (nx := 33) ⟨dX12_paid_30, rfl⟩ kX12_291 rfl q_75 rfl (Nat.le_of_ble_eq_true rfl) (Nat.le_of_ble_eq_true rfl) (cM_payments hG hP0 (fun I1 hp hs1 => ?_))
      refine G_goto (tgt := 37) ⟨dX12_paid_33, rfl⟩ rfl ?_
      refine G_iret ⟨dX12_paid_37, rfl⟩ rfl ?_
      rw [bi_n0] at c_24
      rw [if_neg (fun e => by have := congrArg Int32.toInt e; rw [nI_toInt (by omega)] at this; revert this; simp)]
      exact hk x y I1 hx hy hxy rfl rfl c_24 hs1
  · rw [bi_0] at c_6
    refine G_bipush (nx := 11) ⟨dX12_paid_9, rfl⟩ cb_m2 ?_
    refine G_goto (tgt := 37) ⟨dX12_paid_11, rfl⟩ rfl ?_
    refine G_iret ⟨dX12_paid_37, rfl⟩ rfl ?_
    exact hk1 c_6

end M52
