
theorem rd_le {n : Nat} {gr : Nat → Nat} {row : Nat → Int32} {size : Nat} : ∀ (f P : Nat) (k : Int) (dp at0 : Nat), at0 ≤ size → (rd n gr row size f P k dp at0).2 ≤ size := by
  intro f
  induction f with
  | zero => intro P k dp at0 h; exact h
  | succ f ih =>
    intro P k dp at0 h
    simp only [rd]
    split
    · exact h
    · rename_i h1
      split
      · split
        · exact h
        · show at0 + 1 ≤ size; omega
      · split
        · exact h
        · split
          · exact h
          · rename_i v _ _
            generalize (if dp % 2 = 0 then 2 ^ v else gr v &&& P) = t1
            generalize (if dp % 2 = 0 then gr v &&& P else 2 ^ v) = t2
            split
            · exact ih _ _ _ _ (ih _ _ _ _ (by omega))
            · exact ih _ _ _ _ (by omega)
theorem rm_bit {n : Nat} {gr : Nat → Nat} (hW : WG n gr) {p u v : Nat} (hp : p < n) (hu : u < n) : (rmG gr p n u).testBit v = true ↔ (¬ u = p ∧ ¬ v = p ∧ (gr u).testBit v = true) := by
  unfold rmG
  by_cases e : u = p
  · rw [if_pos e, tb_df, Nat.testBit_two_pow_sub_one]
    constructor
    · intro h
      rw [Bool.and_eq_true] at h
      have := tb_ltn (hW.1 p hp) h.1
      simp [this] at h
    · intro h; exact absurd e h.1
  · rw [if_neg e]
    by_cases c : (gr p).testBit u = true
    · rw [if_pos ⟨hu, c⟩, tb_df, Nat.testBit_two_pow]
      constructor
      · intro h
        rw [Bool.and_eq_true] at h
        refine ⟨e, fun q => ?_, h.1⟩
        rw [q] at h
        simp at h
      · intro h
        rw [h.2.2]
        simp
        exact fun q => h.2.1 q.symm
    · rw [if_neg (fun q => c q.2)]
      constructor
      · intro h
        refine ⟨e, fun q => ?_, h⟩
        rw [q] at h
        rw [hW.2.2 u p hu hp] at h
        exact c h
      · intro h; exact h.2.2
theorem rm_lt {n : Nat} {gr : Nat → Nat} (hW : WG n gr) {p : Nat} (hp : p < n) : ∀ u, u < n → rmG gr p n u < 2 ^ n := by
  intro u hu
  unfold rmG
  split
  · exact Nat.lt_of_le_of_lt (df_le _ _) (hW.1 p hp)
  · split
    · exact Nat.lt_of_le_of_lt (df_le _ _) (hW.1 u hu)
    · exact hW.1 u hu
theorem T_without {n : Nat} {gr : Nat → Nat} {k p : Nat} (hn : n ≤ 12) (hW : WG n gr) (hp : p < n) (h : IsT gr (df (2 ^ n - 1) (2 ^ p)) k) : k = leN n (rmG gr p n) := by
  have htb : ∀ x, (2 ^ n - 1).testBit x = true ↔ x < n := fun x => by rw [Nat.testBit_two_pow_sub_one]; simp
  have hdf : ∀ x, (df (2 ^ n - 1) (2 ^ p)).testBit x = true ↔ (x < n ∧ ¬ x = p) := fun x => by
    rw [tb_df, Bool.and_eq_true, htb, Nat.testBit_two_pow]
    simp
    exact fun _ => ⟨fun h q => h q.symm, fun h q => h q.symm⟩
  have hCP : ∀ s, CP gr (df (2 ^ n - 1) (2 ^ p)) s ↔ CP (rmG gr p n) (2 ^ n - 1) s := by
    intro s
    constructor
    · intro hc u v h1 h2 h3
      rw [htb] at h1 h2
      obtain ⟨a1, a2, a3⟩ := (rm_bit hW hp h1).mp h3
      exact hc u v ((hdf u).mpr ⟨h1, a1⟩) ((hdf v).mpr ⟨h2, a2⟩) a3
    · intro hc u v h1 h2 h3
      rw [hdf] at h1 h2
      exact hc u v ((htb u).mpr h1.1) ((htb v).mpr h2.1) ((rm_bit hW hp h1.1).mpr ⟨h1.2, h2.2, h3⟩)
  refine T_all hn (rm_lt hW hp) ⟨?_, fun s hs hc => h.2 s hs ((hCP s).mpr hc)⟩
  obtain ⟨s, h1, h2, h3⟩ := h.1
  exact ⟨s, h1, (hCP s).mp h2, h3⟩
def fPv (s x y : Nat) : Bool := fSr x y || (((x == 47) || (x == 48)) && y == s) || x == 49 + s
theorem sb_fPv {s : Nat} {I I' : AI} (h : sb fSr I I') : sb (fPv s) I I' := h.mono (fun x y hf => by
  simp only [fPv, Bool.or_eq_false_iff] at hf
  exact hf.1.1)
section X90
variable {l : Launch} {d : Nat} {K : AK} {I : AI} {J : AJ} {g : Bool} {n : Nat} {gr : Nat → Nat}

theorem lX_packs {s0 z : Nat} {r : Int32} {row : Nat → Int32} (hX : XG I 1 4 n gr) (hW : WG n gr) (hs0 : s0 < 4) (hz60 : z ≤ 60) (hz : I 48 s0 = nI z) (hrow : ∀ j, j < 60 → I (49 + s0) j = row j) (hk : K (.int r) I J (rX g)) : ∀ (k i u s : Nat) (x5 : Value), notL x5 = true → z - i = k → i ≤ z → u < 2 ^ n → s ≤ 3 * i → pkL n gr row k i u s = r → G l (d + 40) mX11_packs K 35 [.ref 0, .int (nI s0), .int (nI s), .int (nI u), .int (nI i), x5] [] I J (rX g) := by
  intro k
  induction k using Nat.strongRecOn with
  | _ k ih =>
  intro i u s x5 hx5 hik hi hu hs hr
  have hn := hX.2.1
  have hp12 := pow12 hn
  have hin4 := in4 hs0
  have ecs := cl_nI (p := s0) (by omega)
  refine G_iload_4 (nx := 37) ⟨dX11_packs_35, rfl⟩ ?_
  refine G_aload_0 (nx := 38) ⟨dX11_packs_37, rfl⟩ ?_
  refine G_getr (nx := 41) (k := 0) (r := 45) ⟨dX11_packs_38, rfl⟩ fX11_76 q_0 yr_11_10 (r_0_10 _) ?_
  refine G_getr (nx := 44) (k := 45) (r := 48) ⟨dX11_packs_41, rfl⟩ fX11_306 q_45 yr_7_2 (r_45_2 _) ?_
  refine G_iload_1 (nx := 45) ⟨dX11_packs_44, rfl⟩ ?_
  refine G_iald (nx := 46) (k := 48) ⟨dX11_packs_45, rfl⟩ q_48 (by first | assumption | decide | (unfold vp_in; decide)) ?_
  rw [ecs, hz]
  refine G_icmpge (tgt := 113) (nx := 49) ⟨dX11_packs_46, rfl⟩ rfl (fun c_46 => ?_) (fun c_46 => ?_)
  · refine G_iload_2 (nx := 114) ⟨dX11_packs_113, rfl⟩ ?_
    refine G_iret ⟨dX11_packs_114, rfl⟩ rfl ?_
    rw [nI_le_iff (by omega) (by omega)] at c_46
    have hk0 : k = 0 := by omega
    rw [hk0] at hr
    rw [← hr] at hk
    exact hk
  · rw [nI_le_iff (by omega) (by omega)] at c_46
    have hlt : i < z := by omega
    have hi60 := in60 (show i < 60 by omega)
    have eci := cl_nI (p := i) (by omega)
    obtain ⟨k1, ek1⟩ : ∃ k1, k = k1 + 1 := ⟨k - 1, by omega⟩
    rw [ek1, pkL] at hr
    refine G_aload_0 (nx := 50) ⟨dX11_packs_49, rfl⟩ ?_
    refine G_getr (nx := 53) (k := 0) (r := 45) ⟨dX11_packs_50, rfl⟩ fX11_76 q_0 yr_11_10 (r_0_10 _) ?_
    refine G_getr (nx := 56) (k := 45) (r := 46) ⟨dX11_packs_53, rfl⟩ fX11_309 q_45 yr_7_0 (r_45_0 _) ?_
    refine G_iload_1 (nx := 57) ⟨dX11_packs_56, rfl⟩ ?_
    refine G_aald (nx := 58) (k := 46) (r := (49 + s0)) ⟨dX11_packs_57, rfl⟩ q_46 (by first | assumption | decide | (unfold vp_in; decide)) (rrow hs0 _) ?_
    refine G_iload_4 (nx := 60) ⟨dX11_packs_58, rfl⟩ ?_
    refine G_iald (nx := 61) (k := (49 + s0)) ⟨dX11_packs_60, rfl⟩ (qrow hs0) (by first | assumption | decide | (unfold vp_in; decide)) ?_
    rw [eci, hrow i (by omega)]
    refine G_istore_5 (nx := 63) ⟨dX11_packs_61, rfl⟩ rfl rfl ?_
    refine G_aload_0 (nx := 64) ⟨dX11_packs_63, rfl⟩ ?_
    refine G_getr (nx := 67) (k := 0) (r := 34) ⟨dX11_packs_64, rfl⟩ fX11_55 q_0 yr_11_7 (r_0_7 _) ?_
    refine G_aload_0 (nx := 68) ⟨dX11_packs_67, rfl⟩ ?_
    refine G_getr (nx := 71) (k := 0) (r := 1) ⟨dX11_packs_68, rfl⟩ fX11_10 q_0 yr_11_0 (r_0_0 _) ?_
    refine G_iload_5 (nx := 73) ⟨dX11_packs_71, rfl⟩ ?_
    refine G_cv2 (nx := 76) ⟨dX11_packs_73, rfl⟩ kX11_313 rfl q_34 rfl (Nat.le_of_ble_eq_true rfl) (Nat.le_of_ble_eq_true rfl) (cP_canHold hX hW ?_)
    refine G_ifeq (tgt := 86) (nx := 79) ⟨dX11_packs_76, rfl⟩ rfl (fun c_76 => ?_) (fun c_76 => ?_)
    · refine G_bipush (nx := 88) ⟨dX11_packs_86, rfl⟩ cb_m100 ?_
      refine G_iload_4 (nx := 90) ⟨dX11_packs_88, rfl⟩ ?_
      refine G_isub (nx := 91) ⟨dX11_packs_90, rfl⟩ ?_
      refine G_iret ⟨dX11_packs_91, rfl⟩ rfl ?_
      rw [bi_0] at c_76
      rw [if_neg (fun q => by rw [c_76] at q; exact absurd q.1 (by decide))] at hr
      rw [← hr] at hk
      exact hk
    · rw [bi_n0] at c_76
      obtain ⟨X, hXn, eX, hp2, hp3⟩ := pkB_ex hn c_76
      have hX4 : X < 4096 := Nat.lt_of_lt_of_le hXn (pow12 hn)
      rw [eX]
      refine G_iload_5 (nx := 81) ⟨dX11_packs_79, rfl⟩ ?_
      refine G_iload_3 (nx := 82) ⟨dX11_packs_81, rfl⟩ ?_
      refine G_iand (nx := 83) ⟨dX11_packs_82, rfl⟩ ?_
      refine G_ifeq (tgt := 92) (nx := 86) ⟨dX11_packs_83, rfl⟩ rfl (fun c_83 => ?_) (fun c_83 => ?_)
      · rw [nI_and, nI_0iff (by have := Nat.and_le_left (n := X) (m := u); omega)] at c_83
        rw [if_pos ⟨c_76, by rw [eX, cl_nI (by omega)]; exact c_83⟩, eX, cl_nI (by omega)] at hr
        refine G_iload_3 (nx := 93) ⟨dX11_packs_92, rfl⟩ ?_
        refine G_iload_5 (nx := 95) ⟨dX11_packs_93, rfl⟩ ?_
        refine G_ior (nx := 96) ⟨dX11_packs_95, rfl⟩ ?_
        refine G_istore_3 (nx := 97) ⟨dX11_packs_96, rfl⟩ rfl rfl ?_
        refine G_iload_2 (nx := 98) ⟨dX11_packs_97, rfl⟩ ?_
        refine G_iload_5 (nx := 100) ⟨dX11_packs_98, rfl⟩ ?_
        refine G_cs1 (nx := 103) ⟨dX11_packs_100, rfl⟩ kX11_223 rfl rfl (Nat.le_of_ble_eq_true rfl) (Nat.le_of_ble_eq_true rfl) (cJ_bc hX4 ?_)
        refine G_iconst (nx := 104) ⟨dX11_packs_103, rfl⟩ ci_1 ?_
        refine G_isub (nx := 105) ⟨dX11_packs_104, rfl⟩ ?_
        rw [show (1 : Int32) = nI 1 by decide, nI_sub (by omega)]
        refine G_iadd (nx := 106) ⟨dX11_packs_105, rfl⟩ ?_
        refine G_istore_2 (nx := 107) ⟨dX11_packs_106, rfl⟩ rfl rfl ?_
        refine G_iinc_4 (nx := 110) ⟨dX11_packs_107, rfl⟩ ci_1 rfl ?_
        refine G_goto (tgt := 35) ⟨dX11_packs_110, rfl⟩ rfl ?_
        refine G_L (by rw [nI_or, nI_add, nI_1]) (ih k1 (by omega) (i + 1) (u ||| X) (s + (pc X - 1)) (.int (nI X)) rfl (by omega) (by omega) (Nat.or_lt_two_pow hu hXn) (by omega) hr)
      · refine G_bipush (nx := 88) ⟨dX11_packs_86, rfl⟩ cb_m100 ?_
        refine G_iload_4 (nx := 90) ⟨dX11_packs_88, rfl⟩ ?_
        refine G_isub (nx := 91) ⟨dX11_packs_90, rfl⟩ ?_
        refine G_iret ⟨dX11_packs_91, rfl⟩ rfl ?_
        rw [nI_and, nI_0iff (by have := Nat.and_le_left (n := X) (m := u); omega)] at c_83
        rw [if_neg (fun q => by rw [eX, cl_nI (by omega)] at q; exact c_83 q.2)] at hr
        rw [← hr] at hk
        exact hk

theorem cX_packs {s : Int32} (hX : XG I 1 4 n gr) (hW : WG n gr) (hsz : SZc I) (hk1 : inR s 0 3 = false → K (.int (-2)) I J (rX g)) (hk2 : ∀ s0, s = nI s0 → s0 < 4 → I 47 s0 = -1 → K (.int (-11)) I J (rX g)) (hk : ∀ s0 z, s = nI s0 → s0 < 4 → ¬ I 47 s0 = -1 → I 48 s0 = nI z → z ≤ 60 → K (.int (pkL n gr (I (49 + s0)) z 0 0 0)) I J (rX g)) : G l (d + 40) mX11_packs K 0 [.ref 0, .int s, UU, UU, UU, UU] [] I J (rX g) := by
  refine G_aload_0 (nx := 1) ⟨dX11_packs_0, rfl⟩ ?_
  refine G_getr (nx := 4) (k := 0) (r := 45) ⟨dX11_packs_1, rfl⟩ fX11_76 q_0 yr_11_10 (r_0_10 _) ?_
  refine G_iload_1 (nx := 5) ⟨dX11_packs_4, rfl⟩ ?_
  refine G_cv1 (nx := 8) ⟨dX11_packs_5, rfl⟩ kX11_302 rfl q_45 rfl (Nat.le_of_ble_eq_true rfl) (Nat.le_of_ble_eq_true rfl) (cS_has ?_)
  refine G_ifne (tgt := 14) (nx := 11) ⟨dX11_packs_8, rfl⟩ rfl (fun c_8 => ?_) (fun c_8 => ?_)
  · rw [bi_n0] at c_8
    obtain ⟨s0, hs0, es⟩ := s_ex c_8
    subst es
    have hin4 := in4 hs0
    have ecs := cl_nI (p := s0) (by omega)
    obtain ⟨z, hz60, hz⟩ := hsz s0 hs0
    refine G_aload_0 (nx := 15) ⟨dX11_packs_14, rfl⟩ ?_
    refine G_getr (nx := 18) (k := 0) (r := 45) ⟨dX11_packs_15, rfl⟩ fX11_76 q_0 yr_11_10 (r_0_10 _) ?_
    refine G_iload_1 (nx := 19) ⟨dX11_packs_18, rfl⟩ ?_
    refine G_cv1 (nx := 22) ⟨dX11_packs_19, rfl⟩ kX11_303 rfl q_45 rfl (Nat.le_of_ble_eq_true rfl) (Nat.le_of_ble_eq_true rfl) (cS_miss hs0 ?_)
    refine G_ifeq (tgt := 28) (nx := 25) ⟨dX11_packs_22, rfl⟩ rfl (fun c_22 => ?_) (fun c_22 => ?_)
    · rw [bi_0, decide_eq_false_iff_not] at c_22
      refine G_iconst (nx := 29) ⟨dX11_packs_28, rfl⟩ ci_0 ?_
      refine G_istore_2 (nx := 30) ⟨dX11_packs_29, rfl⟩ rfl rfl ?_
      refine G_iconst (nx := 31) ⟨dX11_packs_30, rfl⟩ ci_0 ?_
      refine G_istore_3 (nx := 32) ⟨dX11_packs_31, rfl⟩ rfl rfl ?_
      refine G_iconst (nx := 33) ⟨dX11_packs_32, rfl⟩ ci_0 ?_
      refine G_istore_4 (nx := 35) ⟨dX11_packs_33, rfl⟩ rfl rfl ?_
      exact G_L (by rw [← nI_0]) (lX_packs (row := I (49 + s0)) hX hW hs0 hz60 hz (fun j _ => rfl) (hk s0 z rfl hs0 c_22 hz hz60) z 0 0 0 UU rfl (by omega) (by omega) (Nat.two_pow_pos n) (by omega) rfl)
    · refine G_bipush (nx := 27) ⟨dX11_packs_25, rfl⟩ cb_m11 ?_
      refine G_iret ⟨dX11_packs_27, rfl⟩ rfl ?_
      rw [bi_n0, decide_eq_true_eq] at c_22
      exact hk2 s0 rfl hs0 c_22
  · refine G_bipush (nx := 13) ⟨dX11_packs_11, rfl⟩ cb_m2 ?_
    refine G_iret ⟨dX11_packs_13, rfl⟩ rfl ?_
    rw [bi_0] at c_8
    exact hk1 c_8

theorem cX_proves {s k : Int32} (hX : XG I 1 4 n gr) (hW : WG n gr) (hsz : SZc I) (hk1 : (inR s 0 3 && inR k 0 12) = false → K (.int (-2)) I J (rX g)) (hk2 : ∀ s0 k0, s = nI s0 → s0 < 4 → k = nI k0 → k0 ≤ 12 → I 47 s0 = -1 → K (.int (-11)) I J (rX g)) (hk : ∀ (s0 k0 z : Nat) (I' : AI), s = nI s0 → s0 < 4 → k = nI k0 → k0 ≤ 12 → ¬ I 47 s0 = -1 → I 48 s0 = nI z → z ≤ 60 → sb fSr I I' → K (.int (if (rd n gr (I (49 + s0)) z 13 (2 ^ n - 1) k0 0 0).1 = true ∧ (rd n gr (I (49 + s0)) z 13 (2 ^ n - 1) k0 0 0).2 = z then 0 else nI (1 + (rd n gr (I (49 + s0)) z 13 (2 ^ n - 1) k0 0 0).2))) I' J (rX g)) : G l (d + 40) mX11_proves K 0 [.ref 0, .int s, .int k, UU] [] I J (rX g) := by
  refine G_aload_0 (nx := 1) ⟨dX11_proves_0, rfl⟩ ?_
  refine G_getr (nx := 4) (k := 0) (r := 45) ⟨dX11_proves_1, rfl⟩ fX11_76 q_0 yr_11_10 (r_0_10 _) ?_
  refine G_iload_1 (nx := 5) ⟨dX11_proves_4, rfl⟩ ?_
  refine G_cv1 (nx := 8) ⟨dX11_proves_5, rfl⟩ kX11_302 rfl q_45 rfl (Nat.le_of_ble_eq_true rfl) (Nat.le_of_ble_eq_true rfl) (cS_has ?_)
  refine G_ifeq (tgt := 18) (nx := 11) ⟨dX11_proves_8, rfl⟩ rfl (fun c_8 => ?_) (fun c_8 => ?_)
  · refine G_bipush (nx := 20) ⟨dX11_proves_18, rfl⟩ cb_m2 ?_
    refine G_iret ⟨dX11_proves_20, rfl⟩ rfl ?_
    rw [bi_0] at c_8
    exact hk1 (by rw [c_8]; rfl)
  · rw [bi_n0] at c_8
    obtain ⟨s0, hs0, es⟩ := s_ex c_8
    subst es
    have hin4 := in4 hs0
    have ecs := cl_nI (p := s0) (by omega)
    obtain ⟨z, hz60, hz⟩ := hsz s0 hs0
    refine G_iload_2 (nx := 12) ⟨dX11_proves_11, rfl⟩ ?_
    refine G_cs1 (nx := 15) ⟨dX11_proves_12, rfl⟩ kX11_261 rfl rfl (Nat.le_of_ble_eq_true rfl) (Nat.le_of_ble_eq_true rfl) (cX_isK ?_)
    refine G_ifne (tgt := 21) (nx := 18) ⟨dX11_proves_15, rfl⟩ rfl (fun c_15 => ?_) (fun c_15 => ?_)
    · rw [bi_n0] at c_15
      obtain ⟨k0, hk0, ek⟩ := k_ex c_15
      subst ek
      have hrl := rd_le (n := n) (gr := gr) (row := I (49 + s0)) (size := z) 13 (2 ^ n - 1) k0 0 0 (Nat.zero_le _)
      refine G_aload_0 (nx := 22) ⟨dX11_proves_21, rfl⟩ ?_
      refine G_getr (nx := 25) (k := 0) (r := 45) ⟨dX11_proves_22, rfl⟩ fX11_76 q_0 yr_11_10 (r_0_10 _) ?_
      refine G_iload_1 (nx := 26) ⟨dX11_proves_25, rfl⟩ ?_
      refine G_cv1 (nx := 29) ⟨dX11_proves_26, rfl⟩ kX11_303 rfl q_45 rfl (Nat.le_of_ble_eq_true rfl) (Nat.le_of_ble_eq_true rfl) (cS_miss hs0 ?_)
      refine G_ifeq (tgt := 35) (nx := 32) ⟨dX11_proves_29, rfl⟩ rfl (fun c_29 => ?_) (fun c_29 => ?_)
      · rw [bi_0, decide_eq_false_iff_not] at c_29
        refine G_aload_0 (nx := 36) ⟨dX11_proves_35, rfl⟩ ?_
        refine G_getr (nx := 39) (k := 0) (r := 35) ⟨dX11_proves_36, rfl⟩ fX11_62 q_0 yr_11_8 (r_0_8 _) ?_
        refine G_aload_0 (nx := 40) ⟨dX11_proves_39, rfl⟩ ?_
        refine G_getr (nx := 43) (k := 0) (r := 1) ⟨dX11_proves_40, rfl⟩ fX11_10 q_0 yr_11_0 (r_0_0 _) ?_
        refine G_iload_2 (nx := 44) ⟨dX11_proves_43, rfl⟩ ?_
        refine G_aload_0 (nx := 45) ⟨dX11_proves_44, rfl⟩ ?_
        refine G_getr (nx := 48) (k := 0) (r := 45) ⟨dX11_proves_45, rfl⟩ fX11_76 q_0 yr_11_10 (r_0_10 _) ?_
        refine G_getr (nx := 51) (k := 45) (r := 46) ⟨dX11_proves_48, rfl⟩ fX11_309 q_45 yr_7_0 (r_45_0 _) ?_
        refine G_iload_1 (nx := 52) ⟨dX11_proves_51, rfl⟩ ?_
        refine G_aald (nx := 53) (k := 46) (r := (49 + s0)) ⟨dX11_proves_52, rfl⟩ q_46 (by first | assumption | decide | (unfold vp_in; decide)) (rrow hs0 _) ?_
        refine G_aload_0 (nx := 54) ⟨dX11_proves_53, rfl⟩ ?_
        refine G_getr (nx := 57) (k := 0) (r := 45) ⟨dX11_proves_54, rfl⟩ fX11_76 q_0 yr_11_10 (r_0_10 _) ?_
        refine G_getr (nx := 60) (k := 45) (r := 48) ⟨dX11_proves_57, rfl⟩ fX11_306 q_45 yr_7_2 (r_45_2 _) ?_
        refine G_iload_1 (nx := 61) ⟨dX11_proves_60, rfl⟩ ?_
        refine G_iald (nx := 62) (k := 48) ⟨dX11_proves_61, rfl⟩ q_48 (by first | assumption | decide | (unfold vp_in; decide)) ?_
        rw [ecs, hz]
        refine G_cv4 (nx := 65) ⟨dX11_proves_62, rfl⟩ kX11_361 rfl q_35 rfl (Nat.le_of_ble_eq_true rfl) (Nat.le_of_ble_eq_true rfl) (cY_first (row := I (49 + s0)) hX hW hk0 (qrow hs0) (by omega) hz60 (fun j _ => rfl) (fun I1 hs1 => ?_))
        refine G_istore_3 (nx := 66) ⟨dX11_proves_65, rfl⟩ rfl rfl ?_
        refine G_iload_3 (nx := 67) ⟨dX11_proves_66, rfl⟩ ?_
        refine G_ifge (tgt := 74) (nx := 70) ⟨dX11_proves_67, rfl⟩ rfl (fun c_67 => ?_) (fun c_67 => ?_)
        · refine G_iconst (nx := 75) ⟨dX11_proves_74, rfl⟩ ci_1 ?_
          refine G_iload_3 (nx := 76) ⟨dX11_proves_75, rfl⟩ ?_
          refine G_iadd (nx := 77) ⟨dX11_proves_76, rfl⟩ ?_
          refine G_iret ⟨dX11_proves_77, rfl⟩ rfl ?_
          refine K_v (congrArg Value.int ?_) (hk s0 k0 z I1 rfl hs0 rfl hk0 c_29 hz hz60 hs1)
          by_cases hc : (rd n gr (I (49 + s0)) z 13 (2 ^ n - 1) k0 0 0).1 = true ∧ (rd n gr (I (49 + s0)) z 13 (2 ^ n - 1) k0 0 0).2 = z
          · rw [if_pos hc] at c_67; exact absurd c_67 (by decide)
          · rw [if_neg hc, if_neg hc, show (1 : Int32) = nI 1 by decide, nI_add]
        · refine G_iconst (nx := 71) ⟨dX11_proves_70, rfl⟩ ci_0 ?_
          refine G_goto (tgt := 77) ⟨dX11_proves_71, rfl⟩ rfl ?_
          refine G_iret ⟨dX11_proves_77, rfl⟩ rfl ?_
          refine K_v (congrArg Value.int ?_) (hk s0 k0 z I1 rfl hs0 rfl hk0 c_29 hz hz60 hs1)
          by_cases hc : (rd n gr (I (49 + s0)) z 13 (2 ^ n - 1) k0 0 0).1 = true ∧ (rd n gr (I (49 + s0)) z 13 (2 ^ n - 1) k0 0 0).2 = z
          · rw [if_pos hc]
          · rw [if_neg hc] at c_67
            rw [i32_le, toInt_0, nI_toInt (by omega)] at c_67
            omega
      · refine G_bipush (nx := 34) ⟨dX11_proves_32, rfl⟩ cb_m11 ?_
        refine G_iret ⟨dX11_proves_34, rfl⟩ rfl ?_
        rw [bi_n0, decide_eq_true_eq] at c_29
        exact hk2 s0 k0 rfl hs0 rfl hk0 c_29
    · refine G_bipush (nx := 20) ⟨dX11_proves_18, rfl⟩ cb_m2 ?_
      refine G_iret ⟨dX11_proves_20, rfl⟩ rfl ?_
      rw [bi_0] at c_15
      exact hk1 (by rw [c_15, Bool.and_false])

theorem lX_prove {s : Nat} {q : Int32} {t : List ND} {I0 : AI} (hs : s < 4) (hlen : t.length ≤ 60) (hsm : ∀ nd ∈ t, ∀ p, nd.1 = some p → p < 12) (hk : ∀ (I' : AI), I' 47 s = 1 → I' 48 s = nI t.length → (∀ i, i < 60 → I' (49 + s) i = prR t i) → sb (fPv s) I0 I' → K (.int (nI t.length)) I' J (rX g)) : ∀ (k i : Nat) (I1 : AI), t.length - i = k → i ≤ t.length → I1 35 2 = nI t.length → (∀ i nd, i < 60 → t[i]? = some nd → I1 36 i = mv nd.1) → I1 47 s = 1 → I1 48 s = nI t.length → (∀ j, j < 60 → I1 (49 + s) j = if j < i then prR t j else 0) → sb (fPv s) I0 I1 → G l (d + 40) mX11_prove K 79 [.ref 0, .int (nI s), .int q, .int (nI i)] [] I1 J (rX g) := by
  intro k
  induction k using Nat.strongRecOn with
  | _ k ih =>
  intro i I1 hik hi h35 h36 h47 h48 hrow hsb
  refine G_iload_3 (nx := 80) ⟨dX11_prove_79, rfl⟩ ?_
  refine G_aload_0 (nx := 81) ⟨dX11_prove_80, rfl⟩ ?_
  refine G_getr (nx := 84) (k := 0) (r := 35) ⟨dX11_prove_81, rfl⟩ fX11_62 q_0 yr_11_8 (r_0_8 _) ?_
  refine G_geti (nx := 87) (k := 35) ⟨dX11_prove_84, rfl⟩ fX11_324 q_35 yi_6_2 ?_
  rw [h35]
  refine G_icmpge (tgt := 114) (nx := 90) ⟨dX11_prove_87, rfl⟩ rfl (fun c_87 => ?_) (fun c_87 => ?_)
  · rw [nI_le_iff (by omega) (by omega)] at c_87
    have hie : i = t.length := by omega
    refine G_aload_0 (nx := 115) ⟨dX11_prove_114, rfl⟩ ?_
    refine G_getr (nx := 118) (k := 0) (r := 35) ⟨dX11_prove_115, rfl⟩ fX11_62 q_0 yr_11_8 (r_0_8 _) ?_
    refine G_geti (nx := 121) (k := 35) ⟨dX11_prove_118, rfl⟩ fX11_324 q_35 yi_6_2 ?_
    rw [h35]
    refine G_iret ⟨dX11_prove_121, rfl⟩ rfl ?_
    refine hk I1 h47 h48 (fun j hj => ?_) hsb
    rw [hrow j hj]
    by_cases c : j < i
    · rw [if_pos c]
    · rw [if_neg c]
      unfold prR
      rw [List.getElem?_eq_none (by omega)]
  · rw [nI_le_iff (by omega) (by omega)] at c_87
    have hlt : i < t.length := by omega
    have hi60 := in60 (show i < 60 by omega)
    have eci := cl_nI (p := i) (by omega)
    obtain ⟨nd, hnd⟩ : ∃ nd, t[i]? = some nd := ⟨_, List.getElem?_eq_getElem hlt⟩
    have hpr : prR t i = mv nd.1 := by unfold prR; rw [hnd]
    have hcv := cvS_small (x := nd.1) (hsm nd (List.mem_of_getElem? hnd))
    refine G_aload_0 (nx := 91) ⟨dX11_prove_90, rfl⟩ ?_
    refine G_getr (nx := 94) (k := 0) (r := 45) ⟨dX11_prove_91, rfl⟩ fX11_76 q_0 yr_11_10 (r_0_10 _) ?_
    refine G_iload_1 (nx := 95) ⟨dX11_prove_94, rfl⟩ ?_
    refine G_iload_3 (nx := 96) ⟨dX11_prove_95, rfl⟩ ?_
    refine G_aload_0 (nx := 97) ⟨dX11_prove_96, rfl⟩ ?_
    refine G_getr (nx := 100) (k := 0) (r := 35) ⟨dX11_prove_97, rfl⟩ fX11_62 q_0 yr_11_8 (r_0_8 _) ?_
    refine G_getr (nx := 103) (k := 35) (r := 36) ⟨dX11_prove_100, rfl⟩ fX11_355 q_35 yr_6_1 (r_35_1 _) ?_
    refine G_iload_3 (nx := 104) ⟨dX11_prove_103, rfl⟩ ?_
    refine G_iald (nx := 105) (k := 36) ⟨dX11_prove_104, rfl⟩ q_36 (by first | assumption | decide | (unfold vp_in; decide)) ?_
    rw [eci, h36 i nd (by omega) hnd]
    refine G_cvv3 (nx := 108) ⟨dX11_prove_105, rfl⟩ kX11_358 rfl q_45 rfl (Nat.le_of_ble_eq_true rfl) (Nat.le_of_ble_eq_true rfl) (cS_put hs (show i < 60 by omega) ?_)
    refine G_iinc_3 (nx := 111) ⟨dX11_prove_108, rfl⟩ ci_1 rfl ?_
    refine G_goto (tgt := 79) ⟨dX11_prove_111, rfl⟩ rfl ?_
    rw [h47, hcv]
    refine G_L (by rw [nI_1]) (ih (t.length - (i + 1)) (by omega) (i + 1) _ rfl (by omega) ?_ ?_ ?_ ?_ ?_ ?_)
    · rw [w2_row _ _ _ _ (show ¬ 35 = 49 + s by omega)]; exact h35
    · intro j nd' h1 h2
      rw [w2_row _ _ _ _ (show ¬ 36 = 49 + s by omega)]; exact h36 j nd' h1 h2
    · rw [w2_row _ _ _ _ (show ¬ 47 = 49 + s by omega)]; exact h47
    · rw [w2_row _ _ _ _ (show ¬ 48 = 49 + s by omega)]; exact h48
    · intro j hj
      by_cases e : j = i
      · rw [e, w2_at, if_pos (by omega), hpr]
      · rw [w2_ne _ _ _ _ (by omega), hrow j hj]
        by_cases c : j < i
        · rw [if_pos c, if_pos (by omega)]
        · rw [if_neg c, if_neg (by omega)]
    · exact hsb.w (by simp [fPv])

theorem cX_prove {s k : Int32} (hX : XG I 1 4 n gr) (hW : WG n gr) (hk1 : (inR s 0 3 && inR k 0 12) = false → K (.int (-2)) I J (rX g)) (hk : ∀ (s0 k0 : Nat) (I' : AI), s = nI s0 → s0 < 4 → k = nI k0 → k0 ≤ 12 →
  (((sa n gr k0).2.isSome = true → sb fSr I I' → K (.int (-1)) I' J (rX g)) ∧ ((sa n gr k0).2 = none → 60 < (sa n gr k0).1.length → sb fSr I I' → K (.int (-4)) I' J (rX g)) ∧
   ((sa n gr k0).2 = none → (sa n gr k0).1.length ≤ 60 → I' 47 s0 = 1 → I' 48 s0 = nI (sa n gr k0).1.length → (∀ i, i < 60 → I' (49 + s0) i = prR (sa n gr k0).1 i) → sb (fPv s0) I I' → K (.int (nI (sa n gr k0).1.length)) I' J (rX g)))) : G l (d + 40) mX11_prove K 0 [.ref 0, .int s, .int k, UU] [] I J (rX g) := by
  refine G_aload_0 (nx := 1) ⟨dX11_prove_0, rfl⟩ ?_
  refine G_getr (nx := 4) (k := 0) (r := 45) ⟨dX11_prove_1, rfl⟩ fX11_76 q_0 yr_11_10 (r_0_10 _) ?_
  refine G_iload_1 (nx := 5) ⟨dX11_prove_4, rfl⟩ ?_
  refine G_cv1 (nx := 8) ⟨dX11_prove_5, rfl⟩ kX11_302 rfl q_45 rfl (Nat.le_of_ble_eq_true rfl) (Nat.le_of_ble_eq_true rfl) (cS_has ?_)
  refine G_ifeq (tgt := 18) (nx := 11) ⟨dX11_prove_8, rfl⟩ rfl (fun c_8 => ?_) (fun c_8 => ?_)
  · refine G_bipush (nx := 20) ⟨dX11_prove_18, rfl⟩ cb_m2 ?_
    refine G_iret ⟨dX11_prove_20, rfl⟩ rfl ?_
    rw [bi_0] at c_8
    exact hk1 (by rw [c_8]; rfl)
  · rw [bi_n0] at c_8
    obtain ⟨s0, hs0, es⟩ := s_ex c_8
    subst es
    have hin4 := in4 hs0
    have ecs := cl_nI (p := s0) (by omega)
    refine G_iload_2 (nx := 12) ⟨dX11_prove_11, rfl⟩ ?_
    refine G_cs1 (nx := 15) ⟨dX11_prove_12, rfl⟩ kX11_261 rfl rfl (Nat.le_of_ble_eq_true rfl) (Nat.le_of_ble_eq_true rfl) (cX_isK ?_)
    refine G_ifne (tgt := 21) (nx := 18) ⟨dX11_prove_15, rfl⟩ rfl (fun c_15 => ?_) (fun c_15 => ?_)
    · rw [bi_n0] at c_15
      obtain ⟨k0, hk0, ek⟩ := k_ex c_15
      subst ek
      have hsl := sr_len n gr 13 (2 ^ n - 1) 0 k0 0
      have h13 : (2:Nat) ^ 13 = 8192 := by decide
      have hsl2 : (sa n gr k0).1.length < 8192 := by show (sr n gr 13 (2 ^ n - 1) 0 k0 0).1.length < 8192; omega
      refine G_aload_0 (nx := 22) ⟨dX11_prove_21, rfl⟩ ?_
      refine G_getr (nx := 25) (k := 0) (r := 35) ⟨dX11_prove_22, rfl⟩ fX11_62 q_0 yr_11_8 (r_0_8 _) ?_
      refine G_aload_0 (nx := 26) ⟨dX11_prove_25, rfl⟩ ?_
      refine G_getr (nx := 29) (k := 0) (r := 1) ⟨dX11_prove_26, rfl⟩ fX11_10 q_0 yr_11_0 (r_0_0 _) ?_
      refine G_iload_2 (nx := 30) ⟨dX11_prove_29, rfl⟩ ?_
      refine G_iconst (nx := 31) ⟨dX11_prove_30, rfl⟩ ci_m1 ?_
      refine G_cvv3 (nx := 34) ⟨dX11_prove_31, rfl⟩ kX11_317 rfl q_35 rfl (Nat.le_of_ble_eq_true rfl) (Nat.le_of_ble_eq_true rfl) (cY_run hX hW hk0 (fun I1 hSY hFN hs1 => ?_))
      refine G_aload_0 (nx := 35) ⟨dX11_prove_34, rfl⟩ ?_
      refine G_getr (nx := 38) (k := 0) (r := 35) ⟨dX11_prove_35, rfl⟩ fX11_62 q_0 yr_11_8 (r_0_8 _) ?_
      refine G_geti (nx := 41) (k := 35) ⟨dX11_prove_38, rfl⟩ fX11_321 q_35 yi_6_6 ?_
      refine G_ifeq (tgt := 46) (nx := 44) ⟨dX11_prove_41, rfl⟩ rfl (fun c_41 => ?_) (fun c_41 => ?_)
      · have hno : (sa n gr k0).2 = none := by
          cases e : (sa n gr k0).2 with
          | none => rfl
          | some x => rw [e] at hFN; have hF : I1 35 6 = 1 ∧ I1 35 5 = nI x := hFN; rw [hF.1] at c_41; exact absurd c_41 (by decide)
        refine G_aload_0 (nx := 47) ⟨dX11_prove_46, rfl⟩ ?_
        refine G_getr (nx := 50) (k := 0) (r := 35) ⟨dX11_prove_47, rfl⟩ fX11_62 q_0 yr_11_8 (r_0_8 _) ?_
        refine G_geti (nx := 53) (k := 35) ⟨dX11_prove_50, rfl⟩ fX11_324 q_35 yi_6_2 ?_
        rw [hSY.1]
        refine G_bipush (nx := 55) ⟨dX11_prove_53, rfl⟩ cb_60 ?_
        refine G_icmple (tgt := 61) (nx := 58) ⟨dX11_prove_55, rfl⟩ rfl (fun c_55 => ?_) (fun c_55 => ?_)
        · rw [show (60 : Int32) = nI 60 by decide, nI_le_iff (by omega) (by omega)] at c_55
          refine G_aload_0 (nx := 62) ⟨dX11_prove_61, rfl⟩ ?_
          refine G_getr (nx := 65) (k := 0) (r := 45) ⟨dX11_prove_62, rfl⟩ fX11_76 q_0 yr_11_10 (r_0_10 _) ?_
          refine G_iload_1 (nx := 66) ⟨dX11_prove_65, rfl⟩ ?_
          refine G_iconst (nx := 67) ⟨dX11_prove_66, rfl⟩ ci_1 ?_
          refine G_aload_0 (nx := 68) ⟨dX11_prove_67, rfl⟩ ?_
          refine G_getr (nx := 71) (k := 0) (r := 35) ⟨dX11_prove_68, rfl⟩ fX11_62 q_0 yr_11_8 (r_0_8 _) ?_
          refine G_geti (nx := 74) (k := 35) ⟨dX11_prove_71, rfl⟩ fX11_324 q_35 yi_6_2 ?_
          rw [hSY.1]
          refine G_cvv3 (nx := 77) ⟨dX11_prove_74, rfl⟩ kX11_351 rfl q_45 rfl (Nat.le_of_ble_eq_true rfl) (Nat.le_of_ble_eq_true rfl) (cS_begin hs0 (fun I2 e47 e48 e0 hoth => ?_))
          refine G_iconst (nx := 78) ⟨dX11_prove_77, rfl⟩ ci_0 ?_
          refine G_istore_3 (nx := 79) ⟨dX11_prove_78, rfl⟩ rfl rfl ?_
          refine G_L (by rw [← nI_0]) (lX_prove (t := (sa n gr k0).1) (I0 := I) hs0 c_55 (fun nd hm p e => Nat.lt_of_lt_of_le (sr_br 13 _ _ _ _ nd p hm e) hX.2.1) (fun I3 g47 g48 grow hs3 => (hk s0 k0 I3 rfl hs0 rfl hk0).2.2 hno c_55 g47 g48 grow hs3) _ 0 I2 rfl (Nat.zero_le _) ?_ ?_ e47 e48 (fun j hj => by rw [e0 j hj, if_neg (by omega)]) ?_)
          · rw [hoth 35 2 (by omega) (by omega)]; exact hSY.1
          · intro i nd h1 h2
            rw [hoth 36 i (by omega) (by omega)]; exact hSY.2.2.2.2.1 i nd h1 h2
          · intro x y hf
            have hf' := hf
            simp only [fPv, Bool.or_eq_false_iff, Bool.and_eq_false_iff, beq_eq_false_iff_ne] at hf'
            rw [hoth x y (by omega) (by omega)]
            exact hs1 x y hf'.1.1
        · refine G_bipush (nx := 60) ⟨dX11_prove_58, rfl⟩ cb_m4 ?_
          refine G_iret ⟨dX11_prove_60, rfl⟩ rfl ?_
          rw [show (60 : Int32) = nI 60 by decide, nI_le_iff (by omega) (by omega)] at c_55
          exact (hk s0 k0 I1 rfl hs0 rfl hk0).2.1 hno (by omega) hs1
      · refine G_iconst (nx := 45) ⟨dX11_prove_44, rfl⟩ ci_m1 ?_
        refine G_iret ⟨dX11_prove_45, rfl⟩ rfl ?_
        refine (hk s0 k0 I1 rfl hs0 rfl hk0).1 ?_ hs1
        cases e : (sa n gr k0).2 with
        | none => rw [e] at hFN; exact absurd hFN c_41
        | some x => rfl
    · refine G_bipush (nx := 20) ⟨dX11_prove_18, rfl⟩ cb_m2 ?_
      refine G_iret ⟨dX11_prove_20, rfl⟩ rfl ?_
      rw [bi_0] at c_15
      exact hk1 (by rw [c_15, Bool.and_false])

theorem cX_without {q : Int32} (hX : XG I 1 4 n gr) (hW : WG n gr) (hk1 : ptB n q = false → K (.int (-2)) I J (rX g)) (hk : ∀ p, p < n → q = nI p → K (.int (nI (leN n (rmG gr p n)))) I J (rX g)) : G l (d + 40) mX11_without K 0 [.ref 0, .int q] [] I J (rX g) := by
  refine G_aload_0 (nx := 1) ⟨dX11_without_0, rfl⟩ ?_
  refine G_getr (nx := 4) (k := 0) (r := 1) ⟨dX11_without_1, rfl⟩ fX11_10 q_0 yr_11_0 (r_0_0 _) ?_
  refine G_iload_1 (nx := 5) ⟨dX11_without_4, rfl⟩ ?_
  refine G_cv1 (nx := 8) ⟨dX11_without_5, rfl⟩ kX11_137 rfl q_1 rfl (Nat.le_of_ble_eq_true rfl) (Nat.le_of_ble_eq_true rfl) (cN_has nt1 hX ?_)
  refine G_ifne (tgt := 14) (nx := 11) ⟨dX11_without_8, rfl⟩ rfl (fun c_8 => ?_) (fun c_8 => ?_)
  · rw [bi_n0] at c_8
    have hn := hX.2.1
    obtain ⟨p, hp, ep⟩ := ptB_ex (by omega) c_8
    subst ep
    have h1p := Nat.two_pow_pos n
    refine G_aload_0 (nx := 15) ⟨dX11_without_14, rfl⟩ ?_
    refine G_getr (nx := 18) (k := 0) (r := 1) ⟨dX11_without_15, rfl⟩ fX11_10 q_0 yr_11_0 (r_0_0 _) ?_
    refine G_getr (nx := 21) (k := 1) (r := 4) ⟨dX11_without_18, rfl⟩ fX11_151 q_1 yr_4_2 (r_1_2 _) ?_
    refine G_aload_0 (nx := 22) ⟨dX11_without_21, rfl⟩ ?_
    refine G_getr (nx := 25) (k := 0) (r := 1) ⟨dX11_without_22, rfl⟩ fX11_10 q_0 yr_11_0 (r_0_0 _) ?_
    refine G_cv0 (nx := 28) ⟨dX11_without_25, rfl⟩ kX11_194 rfl q_1 rfl (Nat.le_of_ble_eq_true rfl) (Nat.le_of_ble_eq_true rfl) (cN_all nt1 hX ?_)
    refine G_iconst (nx := 29) ⟨dX11_without_28, rfl⟩ ci_1 ?_
    refine G_iload_1 (nx := 30) ⟨dX11_without_29, rfl⟩ ?_
    refine G_ishl (nx := 31) ⟨dX11_without_30, rfl⟩ ?_
    refine G_iconst (nx := 32) ⟨dX11_without_31, rfl⟩ ci_m1 ?_
    refine G_ixor (nx := 33) ⟨dX11_without_32, rfl⟩ ?_
    refine G_iand (nx := 34) ⟨dX11_without_33, rfl⟩ ?_
    rw [one_shl (show p < 31 by omega), nI_df _ (by have := pow12 hn; omega)]
    refine G_cs2 (nx := 37) ⟨dX11_without_34, rfl⟩ kX11_242 rfl rfl (Nat.le_of_ble_eq_true rfl) (Nat.le_of_ble_eq_true rfl) (cC_fewestOf q_4 hX.2 hW (Nat.lt_of_le_of_lt (df_le _ _) (show 2 ^ n - 1 < 2 ^ n by omega)) (fun k hT1 => ?_))
    refine G_iret ⟨dX11_without_37, rfl⟩ rfl ?_
    rw [T_without hn hW hp hT1]
    exact hk p hp rfl
  · refine G_bipush (nx := 13) ⟨dX11_without_11, rfl⟩ cb_m2 ?_
    refine G_iret ⟨dX11_without_13, rfl⟩ rfl ?_
    rw [bi_0] at c_8
    exact hk1 c_8

theorem cX_pays {q : Int32} {P0 kd wt : Nat → Int32} (hX : XG I 1 4 n gr) (hP0 : ∀ j, j < n → cst (I 2 j) (I 3 j) (nI (pc (gr j))) (nI j) = P0 j) (hkd : ∀ p, p < n → I 2 p = kd p) (hwt : ∀ p, p < n → I 3 p = wt p) (hk1 : inR q 0 2 = false → K (.int (-2)) I J (rX g)) (hk : ∀ (I' : AI), inR q 0 2 = true → sb (fE 5) I I' → K (.int (if q = 0 then (pyN n gr (-1) (-1) P0).2.1 else if q = 1 then nI (spN n (pyN n gr (-1) (-1) P0).1) else coN n kd wt gr (spN n (pyN n gr (-1) (-1) P0).1))) I' J (rX g)) : G l (d + 40) mX11_pays K 0 [.ref 0, .int q, UU, UU] [] I J (rX g) := by
  refine G_iload_1 (nx := 1) ⟨dX11_pays_0, rfl⟩ ?_
  refine G_iconst (nx := 2) ⟨dX11_pays_1, rfl⟩ ci_0 ?_
  refine G_iconst (nx := 3) ⟨dX11_pays_2, rfl⟩ ci_2 ?_
  refine G_cs3 (nx := 6) ⟨dX11_pays_3, rfl⟩ kX11_126 rfl rfl (Nat.le_of_ble_eq_true rfl) (Nat.le_of_ble_eq_true rfl) (cX_within ?_)
  refine G_ifne (tgt := 12) (nx := 9) ⟨dX11_pays_6, rfl⟩ rfl (fun c_6 => ?_) (fun c_6 => ?_)
  · rw [bi_n0] at c_6
    have hn := hX.2.1
    have hp12 := pow12 hn
    refine G_aload_0 (nx := 13) ⟨dX11_pays_12, rfl⟩ ?_
    refine G_getr (nx := 16) (k := 0) (r := 1) ⟨dX11_pays_13, rfl⟩ fX11_10 q_0 yr_11_0 (r_0_0 _) ?_
    refine G_bipush (nx := 18) ⟨dX11_pays_16, rfl⟩ cb_12 ?_
    refine G_bipush (nx := 20) ⟨dX11_pays_18, rfl⟩ cb_12 ?_
    refine G_cv2 (nx := 23) ⟨dX11_pays_20, rfl⟩ kX11_371 rfl q_1 rfl (Nat.le_of_ble_eq_true rfl) (Nat.le_of_ble_eq_true rfl) (cN_payUpTo (sa := 12) (sc := 12) (A := -1) (B := -1) nt1 hX (by omega) (by omega) hP0 (fun h => absurd h (by omega)) (fun _ I1 h5 hs1 => ?_))
    refine G_istore_2 (nx := 24) ⟨dX11_pays_23, rfl⟩ rfl rfl ?_
    refine G_iload_1 (nx := 25) ⟨dX11_pays_24, rfl⟩ ?_
    refine G_ifne (tgt := 30) (nx := 28) ⟨dX11_pays_25, rfl⟩ rfl (fun c_25 => ?_) (fun c_25 => ?_)
    · have hX1 : XG I1 1 4 n gr := hX.sb hs1 rfl (fun _ => rfl)
      refine G_aload_0 (nx := 31) ⟨dX11_pays_30, rfl⟩ ?_
      refine G_getr (nx := 34) (k := 0) (r := 1) ⟨dX11_pays_31, rfl⟩ fX11_10 q_0 yr_11_0 (r_0_0 _) ?_
      refine G_cv0 (nx := 37) ⟨dX11_pays_34, rfl⟩ kX11_374 rfl q_1 rfl (Nat.le_of_ble_eq_true rfl) (Nat.le_of_ble_eq_true rfl) (cN_spent nt1 hX1 ?_)
      rw [spN_congr n h5]
      have hsp := spN_lt (pyN n gr (-1) (-1) P0).1 n
      refine G_istore_3 (nx := 38) ⟨dX11_pays_37, rfl⟩ rfl rfl ?_
      refine G_iload_1 (nx := 39) ⟨dX11_pays_38, rfl⟩ ?_
      refine G_iconst (nx := 40) ⟨dX11_pays_39, rfl⟩ ci_1 ?_
      refine G_icmpne (tgt := 47) (nx := 43) ⟨dX11_pays_40, rfl⟩ rfl (fun c_40 => ?_) (fun c_40 => ?_)
      · refine G_aload_0 (nx := 48) ⟨dX11_pays_47, rfl⟩ ?_
        refine G_getr (nx := 51) (k := 0) (r := 1) ⟨dX11_pays_48, rfl⟩ fX11_10 q_0 yr_11_0 (r_0_0 _) ?_
        refine G_iload_3 (nx := 52) ⟨dX11_pays_51, rfl⟩ ?_
        refine G_cv1 (nx := 55) ⟨dX11_pays_52, rfl⟩ kX11_175 rfl q_1 rfl (Nat.le_of_ble_eq_true rfl) (Nat.le_of_ble_eq_true rfl) (cN_priceOfAll (kd := kd) (wt := wt) nt1 hX1 (fun p hp => by rw [hs1 2 p rfl]; exact hkd p hp) (fun p hp => by rw [hs1 3 p rfl]; exact hwt p hp) (by omega) ?_)
        refine G_iret ⟨dX11_pays_55, rfl⟩ rfl ?_
        refine K_v (congrArg Value.int ?_) (hk I1 c_6 hs1)
        rw [if_neg c_25, if_neg c_40]
      · refine G_iload_3 (nx := 44) ⟨dX11_pays_43, rfl⟩ ?_
        refine G_goto (tgt := 55) ⟨dX11_pays_44, rfl⟩ rfl ?_
        refine G_iret ⟨dX11_pays_55, rfl⟩ rfl ?_
        refine K_v (congrArg Value.int ?_) (hk I1 c_6 hs1)
        rw [if_neg c_25, if_pos c_40]
    · refine G_iload_2 (nx := 29) ⟨dX11_pays_28, rfl⟩ ?_
      refine G_iret ⟨dX11_pays_29, rfl⟩ rfl ?_
      refine K_v (congrArg Value.int ?_) (hk I1 c_6 hs1)
      rw [if_pos c_25]
  · refine G_bipush (nx := 11) ⟨dX11_pays_9, rfl⟩ cb_m2 ?_
    refine G_iret ⟨dX11_pays_11, rfl⟩ rfl ?_
    rw [bi_0] at c_6
    exact hk1 c_6

end X90
