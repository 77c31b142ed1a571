
def pkL (n : Nat) (gr : Nat → Nat) (row : Nat → Int32) : Nat → Nat → Nat → Nat → Int32
  | 0, _, _, s => nI s
  | f + 1, i, u, s => if pkB n gr (row i) = true ∧ (row i).toNatClampNeg &&& u = 0 then pkL n gr row f (i + 1) (u ||| (row i).toNatClampNeg) (s + (pc (row i).toNatClampNeg - 1)) else -100 - nI i
theorem pkB_ex {n : Nat} (hn : n ≤ 12) {gr : Nat → Nat} {x : Int32} (h : pkB n gr x = true) : ∃ X, X < 2 ^ n ∧ x = nI X ∧ 2 ≤ pc X ∧ pc X ≤ 3 := by
  unfold pkB at h
  rw [Bool.and_eq_true] at h
  obtain ⟨X, hX, e⟩ := stB_ex hn h.1
  have hX4 : X < 4096 := Nat.lt_of_lt_of_le hX (pow12 hn)
  have h2 := h.2
  rw [e, cl_nI (by omega), ipB, Bool.and_eq_true] at h2
  obtain ⟨j, h1, h3, e2⟩ := nI_ex (a := 2) (b := 3) (by omega) h2.1 (by omega)
  have hpl := pc_le X
  rw [nI_eq (by omega) (by omega)] at e2
  exact ⟨X, hX, e, by omega, by omega⟩
section M47
variable {l : Launch} {d : Nat} {K : AK} {I : AI} {J : AJ} {g : Bool} {n : Nat} {gr : Nat → Nat}

theorem lM_packs {s0 z : Nat} {r : Int32} {row : Nat → Int32} (hG : MG I n gr) (hs0 : s0 < 4) (hz60 : z ≤ 60) (hz : I 104 s0 = nI z) (hrow : ∀ j, j < 60 → I 105 (60 * s0 + j) = row j) (hk : K (.int r) I J (rX g)) : ∀ (k i u s : Nat) (x5 : Value), notL x5 = true → z - i = k → i ≤ z → u < 2 ^ n → s ≤ 3 * i → pkL n gr row k i u s = r → G l (d + 3) mX12_packs K 30 [.ref 75, .int (nI s0), .int (nI u), .int (nI s), .int (nI i), x5] [] I J (rX g) := by
  intro k
  induction k using Nat.strongRecOn with
  | _ k ih =>
  intro i u s x5 hx5 hik hi hu hs hr
  have hn := hG.2.1
  have hin4 := in4 hs0
  have ecs := cl_nI (p := s0) (by omega)
  have hu4 : u < 4096 := Nat.lt_of_lt_of_le hu (pow12 hn)
  refine G_iload_4 (nx := 32) ⟨dX12_packs_30, rfl⟩ ?_
  refine G_aload_0 (nx := 33) ⟨dX12_packs_32, rfl⟩ ?_
  refine G_getr (nx := 36) (k := 75) (r := 104) ⟨dX12_packs_33, rfl⟩ fX12_100 q_75 yr_12_44 (r_75_44 _) ?_
  refine G_iload_1 (nx := 37) ⟨dX12_packs_36, rfl⟩ ?_
  refine G_iald (nx := 38) (k := 104) ⟨dX12_packs_37, rfl⟩ q_104 (by first | assumption | decide | (unfold vp_in; decide)) ?_
  rw [ecs, hz]
  refine G_icmpge (tgt := 98) (nx := 41) ⟨dX12_packs_38, rfl⟩ rfl (fun c_38 => ?_) (fun c_38 => ?_)
  · refine G_iload_3 (nx := 99) ⟨dX12_packs_98, rfl⟩ ?_
    refine G_iret ⟨dX12_packs_99, rfl⟩ rfl ?_
    rw [nI_le_iff (by omega) (by omega)] at c_38
    have e : k = 0 := by omega
    subst e
    rw [pkL] at hr
    rw [hr]
    exact hk
  · rw [nI_le_iff (by omega) (by omega)] at c_38
    have hlt : i < z := by omega
    have hi240 := in240 hs0 (show i < 60 by omega)
    have eci := cl_nI (p := 60 * s0 + i) (by omega)
    obtain ⟨k1, ek1⟩ : ∃ k1, k = k1 + 1 := ⟨k - 1, by omega⟩
    rw [ek1, pkL] at hr
    refine G_aload_0 (nx := 42) ⟨dX12_packs_41, rfl⟩ ?_
    refine G_getr (nx := 45) (k := 75) (r := 105) ⟨dX12_packs_42, rfl⟩ fX12_103 q_75 yr_12_45 (r_75_45 _) ?_
    refine G_bipush (nx := 47) ⟨dX12_packs_45, rfl⟩ cb_60 ?_
    refine G_iload_1 (nx := 48) ⟨dX12_packs_47, rfl⟩ ?_
    refine G_imul (nx := 49) ⟨dX12_packs_48, rfl⟩ ?_
    refine G_iload_4 (nx := 51) ⟨dX12_packs_49, rfl⟩ ?_
    refine G_iadd (nx := 52) ⟨dX12_packs_51, rfl⟩ ?_
    rw [it_nI]
    refine G_iald (nx := 53) (k := 105) ⟨dX12_packs_52, rfl⟩ q_105 (by first | assumption | decide | (unfold vp_in; decide)) ?_
    rw [eci, hrow i (by omega)]
    refine G_istore_5 (nx := 55) ⟨dX12_packs_53, rfl⟩ rfl rfl ?_
    refine G_aload_0 (nx := 56) ⟨dX12_packs_55, rfl⟩ ?_
    refine G_iload_5 (nx := 58) ⟨dX12_packs_56, rfl⟩ ?_
    refine G_cv1 (nx := 61) ⟨dX12_packs_58, rfl⟩ kX12_256 rfl q_75 rfl (Nat.le_of_ble_eq_true rfl) (Nat.le_of_ble_eq_true rfl) (cM_isPacked hG ?_)
    refine G_ifeq (tgt := 71) (nx := 64) ⟨dX12_packs_61, rfl⟩ rfl (fun c_61 => ?_) (fun c_61 => ?_)
    · refine G_bipush (nx := 73) ⟨dX12_packs_71, rfl⟩ cb_m100 ?_
      refine G_iload_4 (nx := 75) ⟨dX12_packs_73, rfl⟩ ?_
      refine G_isub (nx := 76) ⟨dX12_packs_75, rfl⟩ ?_
      refine G_iret ⟨dX12_packs_76, rfl⟩ rfl ?_
      rw [bi_0] at c_61
      rw [if_neg (fun h => by rw [c_61] at h; cases h.1)] at hr
      rw [hr]
      exact hk
    · rw [bi_n0] at c_61
      obtain ⟨X, hX, eX, hp2, hp3⟩ := pkB_ex hn c_61
      have hX4 : X < 4096 := Nat.lt_of_lt_of_le hX (pow12 hn)
      rw [eX]
      refine G_iload_5 (nx := 66) ⟨dX12_packs_64, rfl⟩ ?_
      refine G_iload_2 (nx := 67) ⟨dX12_packs_66, rfl⟩ ?_
      refine G_iand (nx := 68) ⟨dX12_packs_67, rfl⟩ ?_
      refine G_ifeq (tgt := 77) (nx := 71) ⟨dX12_packs_68, rfl⟩ rfl (fun c_68 => ?_) (fun c_68 => ?_)
      · rw [nI_and, nI_0iff (by have := Nat.and_le_left (n := X) (m := u); omega)] at c_68
        rw [if_pos ⟨c_61, by rw [eX, cl_nI (by omega)]; exact c_68⟩, eX, cl_nI (by omega)] at hr
        refine G_iload_2 (nx := 78) ⟨dX12_packs_77, rfl⟩ ?_
        refine G_iload_5 (nx := 80) ⟨dX12_packs_78, rfl⟩ ?_
        refine G_ior (nx := 81) ⟨dX12_packs_80, rfl⟩ ?_
        refine G_istore_2 (nx := 82) ⟨dX12_packs_81, rfl⟩ rfl rfl ?_
        refine G_iload_3 (nx := 83) ⟨dX12_packs_82, rfl⟩ ?_
        refine G_iload_5 (nx := 85) ⟨dX12_packs_83, rfl⟩ ?_
        refine G_cs1 (nx := 88) ⟨dX12_packs_85, rfl⟩ kX12_133 rfl rfl (Nat.le_of_ble_eq_true rfl) (Nat.le_of_ble_eq_true rfl) (cM_bits hX4 ?_)
        refine G_iconst (nx := 89) ⟨dX12_packs_88, rfl⟩ ci_1 ?_
        refine G_isub (nx := 90) ⟨dX12_packs_89, rfl⟩ ?_
        rw [show (1 : Int32) = nI 1 by decide, nI_sub (by omega)]
        refine G_iadd (nx := 91) ⟨dX12_packs_90, rfl⟩ ?_
        refine G_istore_3 (nx := 92) ⟨dX12_packs_91, rfl⟩ rfl rfl ?_
        refine G_iinc_4 (nx := 95) ⟨dX12_packs_92, rfl⟩ ci_1 rfl ?_
        refine G_goto (tgt := 30) ⟨dX12_packs_95, rfl⟩ rfl ?_
        exact G_L (by rw [nI_1, nI_or, nI_add]) (ih k1 (by omega) (i + 1) (u ||| X) (s + (pc X - 1)) _ rfl (by omega) (by omega) (Nat.or_lt_two_pow hu hX) (by omega) hr)
      · refine G_bipush (nx := 73) ⟨dX12_packs_71, rfl⟩ cb_m100 ?_
        refine G_iload_4 (nx := 75) ⟨dX12_packs_73, rfl⟩ ?_
        refine G_isub (nx := 76) ⟨dX12_packs_75, rfl⟩ ?_
        refine G_iret ⟨dX12_packs_76, rfl⟩ rfl ?_
        rw [nI_and, nI_0iff (by have := Nat.and_le_left (n := X) (m := u); omega)] at c_68
        rw [if_neg (fun h => c_68 (by rw [eX, cl_nI (by omega)] at h; exact h.2))] at hr
        rw [hr]
        exact hk

theorem cM_packs {s : Int32} (hG : MG I n gr) (hsz : SZ I) (hk1 : inR s 0 3 = false → K (.int (-2)) I J (rX g)) (hk2 : ∀ s0, s = nI s0 → s0 < 4 → I 103 s0 = -1 → K (.int (-11)) I J (rX g)) (hk : ∀ s0 z, s = nI s0 → s0 < 4 → ¬ I 103 s0 = -1 → I 104 s0 = nI z → z ≤ 60 → K (.int (pkL n gr (fun j => I 105 (60 * s0 + j)) z 0 0 0)) I J (rX g)) : G l (d + 3) mX12_packs K 0 [.ref 75, .int s, UU, UU, UU, UU] [] I J (rX g) := by
  refine G_iload_1 (nx := 1) ⟨dX12_packs_0, rfl⟩ ?_
  refine G_cs1 (nx := 4) ⟨dX12_packs_1, rfl⟩ kX12_253 rfl rfl (Nat.le_of_ble_eq_true rfl) (Nat.le_of_ble_eq_true rfl) (cM_isSheet ?_)
  refine G_ifne (tgt := 10) (nx := 7) ⟨dX12_packs_4, rfl⟩ rfl (fun c_4 => ?_) (fun c_4 => ?_)
  · rw [bi_n0] at c_4
    obtain ⟨s0, hs0, es⟩ := s_ex c_4
    subst es
    have hin4 := in4 hs0
    have ecs := cl_nI (p := s0) (by omega)
    obtain ⟨z, hz60, hz⟩ := hsz s0 hs0
    refine G_aload_0 (nx := 11) ⟨dX12_packs_10, rfl⟩ ?_
    refine G_getr (nx := 14) (k := 75) (r := 103) ⟨dX12_packs_11, rfl⟩ fX12_97 q_75 yr_12_43 (r_75_43 _) ?_
    refine G_iload_1 (nx := 15) ⟨dX12_packs_14, rfl⟩ ?_
    refine G_iald (nx := 16) (k := 103) ⟨dX12_packs_15, rfl⟩ q_103 (by first | assumption | decide | (unfold vp_in; decide)) ?_
    rw [ecs]
    refine G_iconst (nx := 17) ⟨dX12_packs_16, rfl⟩ ci_m1 ?_
    refine G_icmpne (tgt := 23) (nx := 20) ⟨dX12_packs_17, rfl⟩ rfl (fun c_17 => ?_) (fun c_17 => ?_)
    · refine G_iconst (nx := 24) ⟨dX12_packs_23, rfl⟩ ci_0 ?_
      refine G_istore_2 (nx := 25) ⟨dX12_packs_24, rfl⟩ rfl rfl ?_
      refine G_iconst (nx := 26) ⟨dX12_packs_25, rfl⟩ ci_0 ?_
      refine G_istore_3 (nx := 27) ⟨dX12_packs_26, rfl⟩ rfl rfl ?_
      refine G_iconst (nx := 28) ⟨dX12_packs_27, rfl⟩ ci_0 ?_
      refine G_istore_4 (nx := 30) ⟨dX12_packs_28, rfl⟩ rfl rfl ?_
      exact G_L (by rw [← nI_0]) (lM_packs (d := d) (row := fun j => I 105 (60 * s0 + j)) hG hs0 hz60 hz (fun j _ => rfl) (hk s0 z rfl hs0 c_17 hz hz60) z 0 0 0 UU rfl (by omega) (by omega) (Nat.two_pow_pos n) (by omega) rfl)
    · refine G_bipush (nx := 22) ⟨dX12_packs_20, rfl⟩ cb_m11 ?_
      refine G_iret ⟨dX12_packs_22, rfl⟩ rfl ?_
      exact hk2 s0 rfl hs0 c_17
  · refine G_bipush (nx := 9) ⟨dX12_packs_7, rfl⟩ cb_m2 ?_
    refine G_iret ⟨dX12_packs_9, rfl⟩ rfl ?_
    rw [bi_0] at c_4
    exact hk1 c_4

end M47
