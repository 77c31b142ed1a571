theorem hset_le {n P : Nat} {H : Nat → Nat} {v : Nat} : ∀ k, k ≤ n → hset k P H v < 2 ^ n := fun k hk => Nat.lt_of_lt_of_le hset_lt (Nat.pow_le_pow_right (by omega) hk)
theorem inR_iff {q : Int32} {a b : Int32} : inR q a b = true ↔ a.toInt ≤ q.toInt ∧ q.toInt ≤ b.toInt := by simp only [inR, decide_eq_true_eq, i32_le]
theorem inR01 {q : Int32} (h : inR q 0 1 = true) : q = 0 ∨ q = 1 := by
  rw [inR_iff] at h
  rcases sw_0_1 q with e | e | e
  · exact Or.inl e
  · exact Or.inr e
  · exact absurd h (by rw [show (0 : Int32).toInt = 0 by decide, show (1 : Int32).toInt = 1 by decide]; omega)
theorem inR02 {q : Int32} (h : inR q 0 2 = true) : q = 0 ∨ q = 1 ∨ q = 2 := by
  rw [inR_iff] at h
  rcases sw_0_2 q with e | e | e | e
  · exact Or.inl e
  · exact Or.inr (Or.inl e)
  · exact Or.inr (Or.inr e)
  · exact absurd h (by rw [show (0 : Int32).toInt = 0 by decide, show (2 : Int32).toInt = 2 by decide]; omega)
theorem inR03 {q : Int32} (h : inR q 0 3 = true) : q = 0 ∨ q = 1 ∨ q = 2 ∨ q = 3 := by
  rw [inR_iff] at h
  rcases sw_0_3 q with e | e | e | e | e
  · exact Or.inl e
  · exact Or.inr (Or.inl e)
  · exact Or.inr (Or.inr (Or.inl e))
  · exact Or.inr (Or.inr (Or.inr e))
  · exact absurd h (by rw [show (0 : Int32).toInt = 0 by decide, show (3 : Int32).toInt = 3 by decide]; omega)
theorem inR04 {q : Int32} (h : inR q 0 4 = true) : q = 0 ∨ q = 1 ∨ q = 2 ∨ q = 3 ∨ q = 4 := by
  rw [inR_iff] at h
  rcases sw_0_4 q with e | e | e | e | e | e
  · exact Or.inl e
  · exact Or.inr (Or.inl e)
  · exact Or.inr (Or.inr (Or.inl e))
  · exact Or.inr (Or.inr (Or.inr (Or.inl e)))
  · exact Or.inr (Or.inr (Or.inr (Or.inr e)))
  · exact absurd h (by rw [show (0 : Int32).toInt = 0 by decide, show (4 : Int32).toInt = 4 by decide]; omega)
section M25
variable {l : Launch} {d : Nat} {K : AK} {I : AI} {J : AJ} {g : Bool} {n : Nat} {gr : Nat → Nat}

theorem cM_laysHalves {P : Nat} (hW : WG n gr) (hG : MG I n gr) (hP : P < 2 ^ n) (hk : ∀ (H : Nat → Nat) (I' : AI), HV n gr P H → (∀ q, q < n → P.testBit q = true → I' 80 q = nI (H q)) → sb fG I I' → K (.int (nI (tau gr P P))) I' J (rX g)) : G l (d + 28) mX12_laysHalves K 0 [.ref 75, .int (nI P), UU, UU] [] I J (rX g) := by
  have hn := hG.2.1
  have hP4 : P < 4096 := Nat.lt_of_lt_of_le hP (pow12 hn)
  have hpl := pc_le P
  have htl := tau_le_pc (gr := gr) (A := P) (B := P)
  refine G_aload_0 (nx := 1) ⟨dX12_laysHalves_0, rfl⟩ ?_
  refine G_iload_1 (nx := 2) ⟨dX12_laysHalves_1, rfl⟩ ?_
  refine G_cv1 (nx := 5) ⟨dX12_laysHalves_2, rfl⟩ kX12_203 rfl q_75 rfl (Nat.le_of_ble_eq_true rfl) (Nat.le_of_ble_eq_true rfl) (cM_leastHalves (d := d + 13) hP hG (fun r I1 hnu hs1 => ?_))
  rw [hnu.tau hP4]
  refine G_istore_2 (nx := 6) ⟨dX12_laysHalves_5, rfl⟩ rfl rfl ?_
  refine G_aload_0 (nx := 7) ⟨dX12_laysHalves_6, rfl⟩ ?_
  refine G_iconst (nx := 8) ⟨dX12_laysHalves_7, rfl⟩ ci_0 ?_
  refine G_iload_2 (nx := 9) ⟨dX12_laysHalves_8, rfl⟩ ?_
  refine G_iload_1 (nx := 10) ⟨dX12_laysHalves_9, rfl⟩ ?_
  refine G_iconst (nx := 11) ⟨dX12_laysHalves_10, rfl⟩ ci_m1 ?_
  refine G_iconst (nx := 12) ⟨dX12_laysHalves_11, rfl⟩ ci_0 ?_
  refine G_cv5 (nx := 15) ⟨dX12_laysHalves_12, rfl⟩ kX12_196 rfl q_75 rfl (Nat.le_of_ble_eq_true rfl) (Nat.le_of_ble_eq_true rfl) (G_d (show d + 27 = (d + (12 - n)) + n + 15 by omega) (cM_gives (f := none) (t := 0) hW hP (by omega) (fun q h => by cases h) n 0 (Nat.zero_add n) _ _ (fun _ => 0) (tau gr P P) (hG.sb hs1 rfl (fun _ => rfl)) (by omega) (fun q hq => absurd hq (Nat.not_lt_zero _)) (fun H I2 hlf hr hs2 => ?_) (fun I2 hnex _ _ => absurd (Ex_0 _ hn hP hW 0) hnex)))
  refine G_istore_3 (nx := 16) ⟨dX12_laysHalves_15, rfl⟩ rfl rfl ?_
  refine G_iload_2 (nx := 17) ⟨dX12_laysHalves_16, rfl⟩ ?_
  refine G_iret ⟨dX12_laysHalves_17, rfl⟩ rfl ?_
  exact hk H I2 hlf hr ((hs1.mono (fun _ _ h => fH_G h)).tr hs2)
  

theorem lM_halvesWith {P v : Nat} {H : Nat → Nat} (hG : MG I n gr) (hP : P < 2 ^ n) (hv : v ≤ 2) (hH : ∀ q, q < n → P.testBit q = true → I 80 q = nI (H q)) (hH2 : ∀ q, q < n → P.testBit q = true → H q ≤ 2) (hk : K (.int (nI (hset n P H v))) I J (rX g)) : ∀ (k p : Nat), n - p = k → p ≤ n → G l (d + 1) mX12_halvesWith K 5 [.ref 75, .int (nI v), .int (nI P), .int (nI (hset p P H v)), .int (nI p)] [] I J (rX g) := by
  intro k
  induction k using Nat.strongRecOn with
  | _ k ih =>
  intro p hpk hpn
  have hn := hG.2.1
  have e0 := hG.1
  have hP4 : P < 4096 := Nat.lt_of_lt_of_le hP (pow12 hn)
  refine G_iload_4 (nx := 7) ⟨dX12_halvesWith_5, rfl⟩ ?_
  refine G_aload_0 (nx := 8) ⟨dX12_halvesWith_7, rfl⟩ ?_
  refine G_geti (nx := 11) (k := 75) ⟨dX12_halvesWith_8, rfl⟩ fX12_122 q_75 yi_12_0 ?_
  rw [e0]
  refine G_icmpge (tgt := 51) (nx := 14) ⟨dX12_halvesWith_11, rfl⟩ rfl (fun c_11 => ?_) (fun c_11 => ?_)
  · refine G_iload_3 (nx := 52) ⟨dX12_halvesWith_51, rfl⟩ ?_
    refine G_iret ⟨dX12_halvesWith_52, rfl⟩ rfl ?_
    rw [nI_le_iff (by omega) (by omega)] at c_11
    have hpe : p = n := by omega
    subst hpe
    exact hk
  · rw [nI_le_iff (by omega) (by omega)] at c_11
    have hp : p < n := by omega
    have h12 := in12 hp hn
    have ecp := cl_nI (p := p) (by omega)
    refine G_iload_3 (nx := 15) ⟨dX12_halvesWith_14, rfl⟩ ?_
    refine G_iload_2 (nx := 16) ⟨dX12_halvesWith_15, rfl⟩ ?_
    refine G_iload_4 (nx := 18) ⟨dX12_halvesWith_16, rfl⟩ ?_
    refine G_cs2 (nx := 21) ⟨dX12_halvesWith_18, rfl⟩ kX12_118 rfl rfl (Nat.le_of_ble_eq_true rfl) (Nat.le_of_ble_eq_true rfl) (cM_has (lt31 hP4) (by omega) ?_)
    refine G_ifeq (tgt := 42) (nx := 24) ⟨dX12_halvesWith_21, rfl⟩ rfl (fun c_21 => ?_) (fun c_21 => ?_)
    · refine G_iconst (nx := 43) ⟨dX12_halvesWith_42, rfl⟩ ci_0 ?_
      refine G_ior (nx := 44) ⟨dX12_halvesWith_43, rfl⟩ ?_
      refine G_istore_3 (nx := 45) ⟨dX12_halvesWith_44, rfl⟩ rfl rfl ?_
      refine G_iinc_4 (nx := 48) ⟨dX12_halvesWith_45, rfl⟩ ci_1 rfl ?_
      refine G_goto (tgt := 5) ⟨dX12_halvesWith_48, rfl⟩ rfl ?_
      rw [bi_0] at c_21
      refine G_L ?_ (ih (n - (p + 1)) (by omega) (p + 1) rfl (by omega))
      have e : hset (p + 1) P H v = hset p P H v := by simp [hset, lp_s, hsF, c_21]
      rw [e, nI_1]
      simp [show nI (hset p P H v) ||| 0 = nI (hset p P H v) from by rw [← nI_0, nI_or, Nat.or_zero]]
    · rw [bi_n0] at c_21
      refine G_aload_0 (nx := 25) ⟨dX12_halvesWith_24, rfl⟩ ?_
      refine G_getr (nx := 28) (k := 75) (r := 80) ⟨dX12_halvesWith_25, rfl⟩ fX12_26 q_75 yr_12_7 (r_75_7 _) ?_
      refine G_iload_4 (nx := 30) ⟨dX12_halvesWith_28, rfl⟩ ?_
      refine G_iald (nx := 31) (k := 80) ⟨dX12_halvesWith_30, rfl⟩ q_80 (by first | assumption | decide) ?_
      rw [ecp, hH p hp c_21]
      refine G_iload_1 (nx := 32) ⟨dX12_halvesWith_31, rfl⟩ ?_
      refine G_icmpne (tgt := 42) (nx := 35) ⟨dX12_halvesWith_32, rfl⟩ rfl (fun c_32 => ?_) (fun c_32 => ?_)
      · refine G_iconst (nx := 43) ⟨dX12_halvesWith_42, rfl⟩ ci_0 ?_
        refine G_ior (nx := 44) ⟨dX12_halvesWith_43, rfl⟩ ?_
        refine G_istore_3 (nx := 45) ⟨dX12_halvesWith_44, rfl⟩ rfl rfl ?_
        refine G_iinc_4 (nx := 48) ⟨dX12_halvesWith_45, rfl⟩ ci_1 rfl ?_
        refine G_goto (tgt := 5) ⟨dX12_halvesWith_48, rfl⟩ rfl ?_
        have h2 := hH2 p hp c_21
        rw [nI_eq (by omega) (by omega)] at c_32
        refine G_L ?_ (ih (n - (p + 1)) (by omega) (p + 1) rfl (by omega))
        rw [nI_1]
        first | (have e : hset (p + 1) P H v = hset p P H v ||| 2 ^ p := by { simp [hset, lp_s, hsF, c_21, c_32] }; rw [e, nI_or]; done) | (have e : hset (p + 1) P H v = hset p P H v := by { simp [hset, lp_s, hsF, c_21, c_32] }; rw [e]; simp [show nI (hset p P H v) ||| 0 = nI (hset p P H v) from by rw [← nI_0, nI_or, Nat.or_zero]]; done)
      · refine G_iconst (nx := 36) ⟨dX12_halvesWith_35, rfl⟩ ci_1 ?_
        refine G_iload_4 (nx := 38) ⟨dX12_halvesWith_36, rfl⟩ ?_
        refine G_ishl (nx := 39) ⟨dX12_halvesWith_38, rfl⟩ ?_
        rw [one_shl (by omega)]
        refine G_goto (tgt := 43) ⟨dX12_halvesWith_39, rfl⟩ rfl ?_
        refine G_ior (nx := 44) ⟨dX12_halvesWith_43, rfl⟩ ?_
        refine G_istore_3 (nx := 45) ⟨dX12_halvesWith_44, rfl⟩ rfl rfl ?_
        refine G_iinc_4 (nx := 48) ⟨dX12_halvesWith_45, rfl⟩ ci_1 rfl ?_
        refine G_goto (tgt := 5) ⟨dX12_halvesWith_48, rfl⟩ rfl ?_
        have h2 := hH2 p hp c_21
        rw [nI_eq (by omega) (by omega)] at c_32
        refine G_L ?_ (ih (n - (p + 1)) (by omega) (p + 1) rfl (by omega))
        rw [nI_1]
        first | (have e : hset (p + 1) P H v = hset p P H v ||| 2 ^ p := by { simp [hset, lp_s, hsF, c_21, c_32] }; rw [e, nI_or]; done) | (have e : hset (p + 1) P H v = hset p P H v := by { simp [hset, lp_s, hsF, c_21, c_32] }; rw [e]; simp [show nI (hset p P H v) ||| 0 = nI (hset p P H v) from by rw [← nI_0, nI_or, Nat.or_zero]]; done)

theorem cM_halvesWith {P v : Nat} {H : Nat → Nat} (hG : MG I n gr) (hP : P < 2 ^ n) (hv : v ≤ 2) (hH : ∀ q, q < n → P.testBit q = true → I 80 q = nI (H q)) (hH2 : ∀ q, q < n → P.testBit q = true → H q ≤ 2) (hk : K (.int (nI (hset n P H v))) I J (rX g)) : G l (d + 1) mX12_halvesWith K 0 [.ref 75, .int (nI v), .int (nI P), UU, UU] [] I J (rX g) := by
  refine G_iconst (nx := 1) ⟨dX12_halvesWith_0, rfl⟩ ci_0 ?_
  refine G_istore_3 (nx := 2) ⟨dX12_halvesWith_1, rfl⟩ rfl rfl ?_
  refine G_iconst (nx := 3) ⟨dX12_halvesWith_2, rfl⟩ ci_0 ?_
  refine G_istore_4 (nx := 5) ⟨dX12_halvesWith_3, rfl⟩ rfl rfl ?_
  exact lM_halvesWith hG hP hv hH hH2 hk _ 0 rfl (Nat.zero_le _)

theorem allLt (n : Nat) : 2 ^ n - 1 < 2 ^ n := by have := Nat.two_pow_pos n; omega
theorem all_tb {n q : Nat} : (2 ^ n - 1).testBit q = decide (q < n) := Nat.testBit_two_pow_sub_one n q
theorem HV_le {P : Nat} {H : Nat → Nat} (h : HV n gr P H) : ∀ q, q < n → P.testBit q = true → H q ≤ 2 := by
  have key : ∀ (k p left : Nat) (h : Nat → Nat), (∀ q, q < p → P.testBit q = true → h q ≤ 2) → LF n gr P none 0 k p left h H → ∀ q, q < p + k → P.testBit q = true → H q ≤ 2 := by
    intro k
    induction k with
    | zero => intro p left h hh hl q hq hP; rw [hl q (by omega)]; exact hh q (by omega) hP
    | succ k ih =>
      intro p left h hh hl q hq hPq
      cases hp : P.testBit p with
      | false =>
        obtain ⟨h', h1, h2⟩ := hl.1 hp
        exact ih (p + 1) left h' (fun x hx hPx => by
          have : ¬ x = p := fun e => by rw [e, hp] at hPx; cases hPx
          rw [h1 x (by omega)]
          exact hh x (by omega) hPx) h2 q (by omega) hPq
      | true =>
        obtain ⟨v, o, -, h2⟩ := hl.2 hp
        exact ih (p + 1) (left - v) _ (fun x hx hPx => by
          by_cases e : x = p
          · subst e; rw [upd1_at]; exact o.1
          · rw [upd1_ne e]; exact hh x (by omega) hPx) h2 q (by omega) hPq
  exact fun q hq => key n 0 _ _ (fun q hq => absurd hq (Nat.not_lt_zero _)) h q (by omega)

theorem cM_halves {q : Int32} (hW : WG n gr) (hG : MG I n gr) (hk1 : inR q 0 3 = false → K (.int (-2)) I J (rX g)) (hk : inR q 0 3 = true → ∀ (H : Nat → Nat) (I' : AI), HV n gr (2 ^ n - 1) H → sb fG I I' → K (.int (if q = 0 then nI (tau gr (2 ^ n - 1) (2 ^ n - 1)) else if q = 1 then nI (hset n (2 ^ n - 1) H 0) else if q = 2 then nI (hset n (2 ^ n - 1) H 1) else nI (hset n (2 ^ n - 1) H 2))) I' J (rX g)) : G l (d + 29) mX12_halves K 0 [.ref 75, .int q, UU] [] I J (rX g) := by
  refine G_iload_1 (nx := 1) ⟨dX12_halves_0, rfl⟩ ?_
  refine G_iconst (nx := 2) ⟨dX12_halves_1, rfl⟩ ci_0 ?_
  refine G_iconst (nx := 3) ⟨dX12_halves_2, rfl⟩ ci_3 ?_
  refine G_cs3 (nx := 6) ⟨dX12_halves_3, rfl⟩ kX12_125 rfl rfl (Nat.le_of_ble_eq_true rfl) (Nat.le_of_ble_eq_true rfl) (cM_in ?_)
  refine G_ifne (tgt := 12) (nx := 9) ⟨dX12_halves_6, rfl⟩ rfl (fun c_6 => ?_) (fun c_6 => ?_)
  · rw [bi_n0] at c_6
    refine G_aload_0 (nx := 13) ⟨dX12_halves_12, rfl⟩ ?_
    refine G_aload_0 (nx := 14) ⟨dX12_halves_13, rfl⟩ ?_
    refine G_cv0 (nx := 17) ⟨dX12_halves_14, rfl⟩ kX12_129 rfl q_75 rfl (Nat.le_of_ble_eq_true rfl) (Nat.le_of_ble_eq_true rfl) (cM_all hG ?_)
    refine G_cv1 (nx := 20) ⟨dX12_halves_17, rfl⟩ kX12_206 rfl q_75 rfl (Nat.le_of_ble_eq_true rfl) (Nat.le_of_ble_eq_true rfl) (cM_laysHalves hW hG (allLt n) (fun H I1 hv hr hs1 => ?_))
    refine G_istore_2 (nx := 21) ⟨dX12_halves_20, rfl⟩ rfl rfl ?_
    refine G_iload_1 (nx := 22) ⟨dX12_halves_21, rfl⟩ ?_
    refine G_ifne (tgt := 29) (nx := 25) ⟨dX12_halves_22, rfl⟩ rfl (fun c_22 => ?_) (fun c_22 => ?_)
    · refine G_aload_0 (nx := 30) ⟨dX12_halves_29, rfl⟩ ?_
      refine G_iload_1 (nx := 31) ⟨dX12_halves_30, rfl⟩ ?_
      refine G_iconst (nx := 32) ⟨dX12_halves_31, rfl⟩ ci_1 ?_
      refine G_isub (nx := 33) ⟨dX12_halves_32, rfl⟩ ?_
      refine G_aload_0 (nx := 34) ⟨dX12_halves_33, rfl⟩ ?_
      refine G_cv0 (nx := 37) ⟨dX12_halves_34, rfl⟩ kX12_129 rfl q_75 rfl (Nat.le_of_ble_eq_true rfl) (Nat.le_of_ble_eq_true rfl) (cM_all (hG.sb hs1 rfl (fun _ => rfl)) ?_)
      rcases inR03 c_6 with hq | hq | hq | hq
      · exact absurd hq c_22
      · rw [hq, show (1 : Int32) - 1 = nI 0 by decide]
        refine G_cv2 (nx := 40) ⟨dX12_halves_37, rfl⟩ kX12_209 rfl q_75 rfl (Nat.le_of_ble_eq_true rfl) (Nat.le_of_ble_eq_true rfl) (cM_halvesWith (v := 0) (hG.sb hs1 rfl (fun _ => rfl)) (allLt n) (by omega) hr (HV_le hv) ?_)
        refine G_iret ⟨dX12_halves_40, rfl⟩ rfl ?_
        refine K_v (congrArg Value.int ?_) (hk c_6 H I1 hv hs1)
        rw [hq]
        rfl
      · rw [hq, show (2 : Int32) - 1 = nI 1 by decide]
        refine G_cv2 (nx := 40) ⟨dX12_halves_37, rfl⟩ kX12_209 rfl q_75 rfl (Nat.le_of_ble_eq_true rfl) (Nat.le_of_ble_eq_true rfl) (cM_halvesWith (v := 1) (hG.sb hs1 rfl (fun _ => rfl)) (allLt n) (by omega) hr (HV_le hv) ?_)
        refine G_iret ⟨dX12_halves_40, rfl⟩ rfl ?_
        refine K_v (congrArg Value.int ?_) (hk c_6 H I1 hv hs1)
        rw [hq]
        rfl
      · rw [hq, show (3 : Int32) - 1 = nI 2 by decide]
        refine G_cv2 (nx := 40) ⟨dX12_halves_37, rfl⟩ kX12_209 rfl q_75 rfl (Nat.le_of_ble_eq_true rfl) (Nat.le_of_ble_eq_true rfl) (cM_halvesWith (v := 2) (hG.sb hs1 rfl (fun _ => rfl)) (allLt n) (by omega) hr (HV_le hv) ?_)
        refine G_iret ⟨dX12_halves_40, rfl⟩ rfl ?_
        refine K_v (congrArg Value.int ?_) (hk c_6 H I1 hv hs1)
        rw [hq]
        rfl
    · refine G_iload_2 (nx := 26) ⟨dX12_halves_25, rfl⟩ ?_
      refine G_goto (tgt := 40) ⟨dX12_halves_26, rfl⟩ rfl ?_
      refine G_iret ⟨dX12_halves_40, rfl⟩ rfl ?_
      refine K_v (congrArg Value.int ?_) (hk c_6 H I1 hv hs1)
      rw [c_22]
      rfl
  · rw [bi_0] at c_6
    refine G_bipush (nx := 11) ⟨dX12_halves_9, rfl⟩ cb_m2 ?_
    refine G_iret ⟨dX12_halves_11, rfl⟩ rfl ?_
    exact hk1 c_6

theorem cM_half {q : Int32} (hW : WG n gr) (hG : MG I n gr) (hk1 : ptB n q = false → K (.int (-2)) I J (rX g)) (hk : ∀ (p : Nat) (H : Nat → Nat) (I' : AI), p < n → q = nI p → HV n gr (2 ^ n - 1) H → sb fG I I' → K (.int (nI (H p))) I' J (rX g)) : G l (d + 29) mX12_half K 0 [.ref 75, .int q, UU] [] I J (rX g) := by
  refine G_aload_0 (nx := 1) ⟨dX12_half_0, rfl⟩ ?_
  refine G_iload_1 (nx := 2) ⟨dX12_half_1, rfl⟩ ?_
  refine G_cv1 (nx := 5) ⟨dX12_half_2, rfl⟩ kX12_145 rfl q_75 rfl (Nat.le_of_ble_eq_true rfl) (Nat.le_of_ble_eq_true rfl) (cM_isPoint hG ?_)
  refine G_ifne (tgt := 11) (nx := 8) ⟨dX12_half_5, rfl⟩ rfl (fun c_5 => ?_) (fun c_5 => ?_)
  · rw [bi_n0] at c_5
    obtain ⟨p, hp, ep⟩ := ptB_ex (by have := hG.2.1; omega) c_5
    subst ep
    have h12 := in12 hp hG.2.1
    have ecp := cl_nI (p := p) (by have := hG.2.1; omega)
    refine G_aload_0 (nx := 12) ⟨dX12_half_11, rfl⟩ ?_
    refine G_aload_0 (nx := 13) ⟨dX12_half_12, rfl⟩ ?_
    refine G_cv0 (nx := 16) ⟨dX12_half_13, rfl⟩ kX12_129 rfl q_75 rfl (Nat.le_of_ble_eq_true rfl) (Nat.le_of_ble_eq_true rfl) (cM_all hG ?_)
    refine G_cv1 (nx := 19) ⟨dX12_half_16, rfl⟩ kX12_206 rfl q_75 rfl (Nat.le_of_ble_eq_true rfl) (Nat.le_of_ble_eq_true rfl) (cM_laysHalves hW hG (allLt n) (fun H I1 hv hr hs1 => ?_))
    refine G_istore_2 (nx := 20) ⟨dX12_half_19, rfl⟩ rfl rfl ?_
    refine G_aload_0 (nx := 21) ⟨dX12_half_20, rfl⟩ ?_
    refine G_getr (nx := 24) (k := 75) (r := 80) ⟨dX12_half_21, rfl⟩ fX12_26 q_75 yr_12_7 (r_75_7 _) ?_
    refine G_iload_1 (nx := 25) ⟨dX12_half_24, rfl⟩ ?_
    refine G_iald (nx := 26) (k := 80) ⟨dX12_half_25, rfl⟩ q_80 (by first | assumption | decide) ?_
    refine G_iret ⟨dX12_half_26, rfl⟩ rfl ?_
    rw [ecp, hr p hp (by rw [all_tb]; exact decide_eq_true hp)]
    exact hk p H I1 hp rfl hv hs1
  · rw [bi_0] at c_5
    refine G_bipush (nx := 10) ⟨dX12_half_8, rfl⟩ cb_m2 ?_
    refine G_iret ⟨dX12_half_10, rfl⟩ rfl ?_
    exact hk1 c_5

theorem lM_mayHave {p : Nat} (hW : WG n gr) (hG : MG I n gr) (hp : p < n) (hk : ∀ (r : Nat) (I' : AI), r < 8 → (∀ v, v < 3 → (r.testBit v = true ↔ Ex n gr (2 ^ n - 1) 0 (fun _ => 0) (tau gr (2 ^ n - 1) (2 ^ n - 1)) (some p) v)) → sb fG I I' → K (.int (nI r)) I' J (rX g)) : ∀ (k v r : Nat) (I1 : AI), 3 - v = k → v ≤ 3 → r < 2 ^ v → (∀ x, x < v → (r.testBit x = true ↔ Ex n gr (2 ^ n - 1) 0 (fun _ => 0) (tau gr (2 ^ n - 1) (2 ^ n - 1)) (some p) x)) → sb fG I I1 → G l (d + 28) mX12_mayHave K 25 [.ref 75, .int (nI p), .int (nI (tau gr (2 ^ n - 1) (2 ^ n - 1))), .int (nI r), .int (nI v)] [] I1 J (rX g) := by
  intro k
  induction k using Nat.strongRecOn with
  | _ k ih =>
  intro v r I1 hvk hv hr hx hs
  have hG1 : MG I1 n gr := hG.sb hs rfl (fun _ => rfl)
  have hn := hG.2.1
  have hpl := pc_le (2 ^ n - 1)
  have htl := tau_le_pc (gr := gr) (A := 2 ^ n - 1) (B := 2 ^ n - 1)
  have hr8 : r < 8 := Nat.lt_of_lt_of_le hr (Nat.pow_le_pow_right (n := 2) (by omega) hv)
  refine G_iload_4 (nx := 27) ⟨dX12_mayHave_25, rfl⟩ ?_
  refine G_iconst (nx := 28) ⟨dX12_mayHave_27, rfl⟩ ci_3 ?_
  rw [show (3 : Int32) = nI 3 by decide]
  refine G_icmpge (tgt := 64) (nx := 31) ⟨dX12_mayHave_28, rfl⟩ rfl (fun c_28 => ?_) (fun c_28 => ?_)
  · refine G_iload_3 (nx := 65) ⟨dX12_mayHave_64, rfl⟩ ?_
    refine G_iret ⟨dX12_mayHave_65, rfl⟩ rfl ?_
    rw [nI_le_iff (by omega) (by omega)] at c_28
    have hve : v = 3 := by omega
    subst hve
    exact hk r I1 hr8 hx hs
  · rw [nI_le_iff (by omega) (by omega)] at c_28
    refine G_iload_3 (nx := 32) ⟨dX12_mayHave_31, rfl⟩ ?_
    refine G_aload_0 (nx := 33) ⟨dX12_mayHave_32, rfl⟩ ?_
    refine G_iconst (nx := 34) ⟨dX12_mayHave_33, rfl⟩ ci_0 ?_
    refine G_iload_2 (nx := 35) ⟨dX12_mayHave_34, rfl⟩ ?_
    refine G_aload_0 (nx := 36) ⟨dX12_mayHave_35, rfl⟩ ?_
    refine G_cv0 (nx := 39) ⟨dX12_mayHave_36, rfl⟩ kX12_129 rfl q_75 rfl (Nat.le_of_ble_eq_true rfl) (Nat.le_of_ble_eq_true rfl) (cM_all hG1 ?_)
    refine G_iload_1 (nx := 40) ⟨dX12_mayHave_39, rfl⟩ ?_
    refine G_iload_4 (nx := 42) ⟨dX12_mayHave_40, rfl⟩ ?_
    refine G_cv5 (nx := 45) ⟨dX12_mayHave_42, rfl⟩ kX12_196 rfl q_75 rfl (Nat.le_of_ble_eq_true rfl) (Nat.le_of_ble_eq_true rfl) (G_d (show d + 27 = (d + (12 - n)) + n + 15 by omega) (cM_gives (f := some p) (t := v) hW (allLt n) (by omega) (fun q h => by cases h; omega) n 0 (Nat.zero_add n) _ _ (fun _ => 0) (tau gr (2 ^ n - 1) (2 ^ n - 1)) hG1 (by omega) (fun q hq => absurd hq (Nat.not_lt_zero _)) (fun H I2 hlf hr2 hs2 => ?_) (fun I2 hnex _ hs2 => ?_)))
    · refine G_ifeq (tgt := 55) (nx := 48) ⟨dX12_mayHave_45, rfl⟩ rfl (fun c_45 => ?_) (fun c_45 => ?_)
      · exact absurd c_45 (by decide)
      · refine G_iconst (nx := 49) ⟨dX12_mayHave_48, rfl⟩ ci_1 ?_
        refine G_iload_4 (nx := 51) ⟨dX12_mayHave_49, rfl⟩ ?_
        refine G_ishl (nx := 52) ⟨dX12_mayHave_51, rfl⟩ ?_
        rw [one_shl (by omega)]
        refine G_goto (tgt := 56) ⟨dX12_mayHave_52, rfl⟩ rfl ?_
        refine G_ior (nx := 57) ⟨dX12_mayHave_56, rfl⟩ ?_
        refine G_istore_3 (nx := 58) ⟨dX12_mayHave_57, rfl⟩ rfl rfl ?_
        refine G_iinc_4 (nx := 61) ⟨dX12_mayHave_58, rfl⟩ ci_1 rfl ?_
        refine G_goto (tgt := 25) ⟨dX12_mayHave_61, rfl⟩ rfl ?_
        refine G_L (by rw [nI_or, nI_1]) (ih (3 - (v + 1)) (by omega) (v + 1) (r ||| 2 ^ v) I2 rfl (by omega) (Nat.or_lt_two_pow (Nat.lt_of_lt_of_le hr (Nat.pow_le_pow_right (by omega) (by omega))) (Nat.pow_lt_pow_right (by omega) (by omega))) (fun x hx1 => ?_) (hs.tr hs2))
        rw [tb_ins]
        by_cases e : x = v
        · subst e
          simp only [decide_true, Bool.or_true, true_iff]
          exact LF_Ex n 0 _ _ (Nat.zero_add n) hlf
        · rw [← hx x (by omega)]
          simp [show ¬ v = x from fun q => e q.symm]
    · refine G_ifeq (tgt := 55) (nx := 48) ⟨dX12_mayHave_45, rfl⟩ rfl (fun c_45 => ?_) (fun c_45 => ?_)
      · refine G_iconst (nx := 56) ⟨dX12_mayHave_55, rfl⟩ ci_0 ?_
        refine G_ior (nx := 57) ⟨dX12_mayHave_56, rfl⟩ ?_
        refine G_istore_3 (nx := 58) ⟨dX12_mayHave_57, rfl⟩ rfl rfl ?_
        refine G_iinc_4 (nx := 61) ⟨dX12_mayHave_58, rfl⟩ ci_1 rfl ?_
        refine G_goto (tgt := 25) ⟨dX12_mayHave_61, rfl⟩ rfl ?_
        refine G_L (by rw [← nI_0, nI_or, Nat.or_zero, nI_1]) (ih (3 - (v + 1)) (by omega) (v + 1) r I2 rfl (by omega) (Nat.lt_of_lt_of_le hr (Nat.pow_le_pow_right (by omega) (by omega))) (fun x hx1 => ?_) (hs.tr hs2))
        by_cases e : x = v
        · subst e
          have : r.testBit x = false := Nat.testBit_lt_two_pow hr
          rw [this]
          exact ⟨fun h => (by cases h), fun h => absurd h hnex⟩
        · exact hx x (by omega)
      · exact absurd rfl c_45
    

theorem cM_mayHave {q : Int32} (hW : WG n gr) (hG : MG I n gr) (hk1 : ptB n q = false → K (.int (-2)) I J (rX g)) (hk : ∀ (p r : Nat) (I' : AI), p < n → q = nI p → r < 8 → (∀ v, v < 3 → (r.testBit v = true ↔ Ex n gr (2 ^ n - 1) 0 (fun _ => 0) (tau gr (2 ^ n - 1) (2 ^ n - 1)) (some p) v)) → sb fG I I' → K (.int (nI r)) I' J (rX g)) : G l (d + 28) mX12_mayHave K 0 [.ref 75, .int q, UU, UU, UU] [] I J (rX g) := by
  refine G_aload_0 (nx := 1) ⟨dX12_mayHave_0, rfl⟩ ?_
  refine G_iload_1 (nx := 2) ⟨dX12_mayHave_1, rfl⟩ ?_
  refine G_cv1 (nx := 5) ⟨dX12_mayHave_2, rfl⟩ kX12_145 rfl q_75 rfl (Nat.le_of_ble_eq_true rfl) (Nat.le_of_ble_eq_true rfl) (cM_isPoint hG ?_)
  refine G_ifne (tgt := 11) (nx := 8) ⟨dX12_mayHave_5, rfl⟩ rfl (fun c_5 => ?_) (fun c_5 => ?_)
  · rw [bi_n0] at c_5
    obtain ⟨p, hp, ep⟩ := ptB_ex (by have := hG.2.1; omega) c_5
    subst ep
    refine G_aload_0 (nx := 12) ⟨dX12_mayHave_11, rfl⟩ ?_
    refine G_aload_0 (nx := 13) ⟨dX12_mayHave_12, rfl⟩ ?_
    refine G_cv0 (nx := 16) ⟨dX12_mayHave_13, rfl⟩ kX12_129 rfl q_75 rfl (Nat.le_of_ble_eq_true rfl) (Nat.le_of_ble_eq_true rfl) (cM_all hG ?_)
    refine G_cv1 (nx := 19) ⟨dX12_mayHave_16, rfl⟩ kX12_203 rfl q_75 rfl (Nat.le_of_ble_eq_true rfl) (Nat.le_of_ble_eq_true rfl) (cM_leastHalves (d := d + 13) (allLt n) hG (fun r I1 hnu hs1 => ?_))
    rw [hnu.tau (Nat.lt_of_lt_of_le (allLt n) (pow12 hG.2.1))]
    refine G_istore_2 (nx := 20) ⟨dX12_mayHave_19, rfl⟩ rfl rfl ?_
    refine G_iconst (nx := 21) ⟨dX12_mayHave_20, rfl⟩ ci_0 ?_
    refine G_istore_3 (nx := 22) ⟨dX12_mayHave_21, rfl⟩ rfl rfl ?_
    refine G_iconst (nx := 23) ⟨dX12_mayHave_22, rfl⟩ ci_0 ?_
    refine G_istore_4 (nx := 25) ⟨dX12_mayHave_23, rfl⟩ rfl rfl ?_
    exact lM_mayHave hW hG hp (fun r I2 a b c => hk p r I2 hp rfl a b c) _ 0 0 I1 rfl (Nat.zero_le _) (by decide) (fun x hx => absurd hx (Nat.not_lt_zero _)) (hs1.mono (fun _ _ h => fH_G h))
  · rw [bi_0] at c_5
    refine G_bipush (nx := 10) ⟨dX12_mayHave_8, rfl⟩ cb_m2 ?_
    refine G_iret ⟨dX12_mayHave_10, rfl⟩ rfl ?_
    exact hk1 c_5

end M25
