
theorem EM_tau {n : Nat} {gr : Nat → Nat} {A B : Nat} (hn : n ≤ 12) (hA : A < 2 ^ n) (hB : B < 2 ^ n) : EM gr A B ↔ tau gr A B = pc A := by
  have hp12 := pow12 hn
  obtain ⟨k, hk⟩ := nu_ex (gr := gr) hA hB hn
  rw [EM_iff (by omega) (by omega) hk, hk.tau (by omega)]
theorem LM_ex {gr : Nat → Nat} : ∀ (k hd cr : Nat), hd < 4096 → pc hd = k → EM gr hd cr → ∃ ma, LM gr k hd cr ma := by
  intro k
  induction k with
  | zero => intro hd cr _ _ _; exact ⟨fun _ => 0, trivial⟩
  | succ k ih =>
    intro hd cr h4 hk hE
    have h0 : ¬ hd = 0 := fun e => by rw [e, show pc 0 = 0 by decide] at hk; omega
    obtain ⟨f1, f2, f3⟩ := fb_s h4 h0
    have hfl := tb_lt h4 f2
    have hd4 : df hd (2 ^ fb hd) < 4096 := Nat.lt_of_le_of_lt (df_le _ _) h4
    have hpc := pc_del hfl f2
    obtain ⟨q, ⟨q1, q2, q3⟩, q4⟩ := pk_least (fun q => cr.testBit q = true ∧ (gr (fb hd)).testBit q = true ∧ EM gr (df hd (2 ^ fb hd)) (df cr (2 ^ q))) ((EM_step f2).mp hE)
    obtain ⟨ma, hma⟩ := ih (df hd (2 ^ fb hd)) (df cr (2 ^ q)) hd4 (by omega) q3
    refine ⟨upd1 ma (fb hd) q, ?_⟩
    unfold LM
    rw [upd1_at]
    refine ⟨q1, q2, q3, fun x hx h1 h2 h3 => q4 x hx ⟨h1, h2, h3⟩, LM_congr k _ _ hd4 (by omega) (fun h hh => upd1_ne (fun e => ?_)) hma⟩
    rw [e] at hh
    exact (del_t.mp hh).2 rfl
section POS
variable {n : Nat} {gr : Nat → Nat} {P p : Nat}
theorem FS_o {v Z O L R : Nat} (hp : P.testBit p = true) (hZ : ∀ x, Z.testBit x = true ↔ x = p ∧ v = 0) (hO : ∀ x, O.testBit x = true ↔ x = p ∧ v = 1) (hL : ∀ x, L.testBit x = true ↔ (x = p ∧ 1 ≤ v) ∨ (P.testBit x = true ∧ (gr p).testBit x = true ∧ v ≤ 1)) (hR : ∀ x, R.testBit x = true ↔ (x = p ∧ v = 2) ∨ (P.testBit x = true ∧ (gr p).testBit x = true ∧ v = 0)) : FS gr P (fun x => x = p) (fun _ => v) Z O L R := by
  refine ⟨fun x => ?_, fun x => ?_, fun x => ?_, fun x => ?_⟩
  · rw [hZ]
    exact ⟨fun q => ⟨by rw [q.1]; exact hp, q.1, q.2⟩, fun q => ⟨q.2.1, q.2.2⟩⟩
  · rw [hO]
    exact ⟨fun q => ⟨by rw [q.1]; exact hp, q.1, q.2⟩, fun q => ⟨q.2.1, q.2.2⟩⟩
  · rw [hL]
    constructor
    · rintro (⟨a, b⟩ | ⟨a, b, c⟩)
      · exact ⟨by rw [a]; exact hp, Or.inl ⟨a, b⟩⟩
      · exact ⟨a, Or.inr ⟨p, rfl, hp, c, b⟩⟩
    · rintro ⟨a, ⟨b, c⟩ | ⟨u, b, c, e, g⟩⟩
      · exact Or.inl ⟨b, c⟩
      · have b' : u = p := b
        rw [b'] at g
        exact Or.inr ⟨a, g, e⟩
  · rw [hR]
    constructor
    · rintro (⟨a, b⟩ | ⟨a, b, c⟩)
      · exact ⟨by rw [a]; exact hp, Or.inl ⟨a, b⟩⟩
      · exact ⟨a, Or.inr ⟨p, rfl, hp, c, b⟩⟩
    · rintro ⟨a, ⟨b, c⟩ | ⟨u, b, c, e, g⟩⟩
      · exact Or.inl ⟨b, c⟩
      · have b' : u = p := b
        rw [b'] at g
        exact Or.inr ⟨a, g, e⟩
theorem FC_o {v : Nat} (hW : WG n gr) (hpn : p < n) (hv : v ≤ 2) : FC0 gr P (fun x => x = p) (fun _ => v) := ⟨fun _ _ _ => hv, fun u w _ _ d1 d2 ha => by
  have e1 : u = p := d1
  have e2 : w = p := d2
  rw [e1, e2, hW.2.1 p hpn] at ha
  cases ha⟩
theorem one_iff {v Z O L R : Nat} (hW : WG n gr) (hn : n ≤ 12) (hP : P < 2 ^ n) (hpn : p < n) (hv : v ≤ 2) (hF : FS gr P (fun x => x = p) (fun _ => v) Z O L R) : Ex n gr P 0 (fun _ => 0) (tau gr P P) (some p) v ↔ pc L + pc R + tau gr (df (df P Z) L) (df (df P (Z ||| O)) R) = tau gr P P := by
  rw [Ex_one hW hP, gen_iff hW hn hP hF (FC_o hW hpn hv)]
  have := gen_ge hW hn hP hF (FC_o hW hpn hv)
  omega
end POS
theorem df_or3 (a b c : Nat) : df a (b ||| c) = df (df a b) c := by
  apply Nat.eq_of_testBit_eq
  intro x
  rw [tb_df, tb_df, tb_df, Nat.testBit_or]
  cases a.testBit x <;> cases b.testBit x <;> cases c.testBit x <;> rfl
theorem df_zero (a : Nat) : df a 0 = a := by unfold df; rw [Nat.and_zero, Nat.xor_zero]
section X74
variable {l : Launch} {d : Nat} {K : AK} {I : AI} {J : AJ} {g : Bool} {n : Nat} {gr : Nat → Nat}

theorem cH_possible {o a b c e k : Nat} (hH : HT o a b c e) (hk12 : isA k 12) (hko : k < o) {P p : Nat} (hR : RG I k n gr) (hW : WG n gr) (hP : P < 2 ^ n) (hp : P.testBit p = true) (hk : ∀ (r : Nat) (I' : AI), r < 8 → (∀ v, v < 3 → (r.testBit v = true ↔ Ex n gr P 0 (fun _ => 0) (tau gr P P) (some p) v)) → sb (fMp o) I I' → K (.int (nI r)) I' J (rX g)) : G l (d + 4) mX2_possible K 0 [.ref o, .ref k, .int (nI P), .int (nI p), UU, UU, UU, UU, UU] [] I J (rX g) := by
  obtain ⟨qa, qb, qc, qe⟩ := hH.2.2.2.2.2.2
  have hn := hR.1
  have hp12 := pow12 hn
  have hpn : p < n := tb_ltn hP hp
  have hip := in12 hpn hn
  have hgp := hR.lt hpn
  have hpwn : 2 ^ p < 2 ^ n := Nat.pow_lt_pow_right (by omega) hpn
  have hna : gr p &&& P ≤ P := Nat.and_le_right
  have dlt : ∀ a b : Nat, a < 2 ^ n → df a b < 2 ^ n := fun a b ha => Nat.lt_of_le_of_lt (df_le a b) ha
  have olt : 2 ^ p ||| (gr p &&& P) < 2 ^ n := Nat.or_lt_two_pow hpwn (by omega)
  have hrst := dlt P (2 ^ p) hP
  have h1p := Nat.two_pow_pos n
  have e0 := one_iff hW hn hP hpn (by omega) (FS_o (v := 0) (Z := 2 ^ p) (O := 0) (L := gr p &&& P) (R := gr p &&& P) hp (fun x => by rw [tb_pow_t]; simp) (fun x => by rw [z0]; simp) (fun x => by rw [tb_near]; simp) (fun x => by rw [tb_near]; simp))
  have e1 := one_iff hW hn hP hpn (by omega) (FS_o (v := 1) (Z := 0) (O := 2 ^ p) (L := 2 ^ p ||| (gr p &&& P)) (R := 0) hp (fun x => by rw [z0]; simp) (fun x => by rw [tb_pow_t]; simp) (fun x => by rw [or_t, tb_pow_t, tb_near]; simp) (fun x => by rw [z0]; simp))
  have e2 := one_iff hW hn hP hpn (by omega) (FS_o (gr := gr) (v := 2) (Z := 0) (O := 0) (L := 2 ^ p) (R := 2 ^ p) hp (fun x => by rw [z0]; simp) (fun x => by rw [z0]; simp) (fun x => by rw [tb_pow_t]; simp) (fun x => by rw [tb_pow_t]; simp))
  rw [Nat.or_zero] at e0
  rw [Nat.zero_or, df_zero, df_zero, df_or3 P (2 ^ p)] at e1
  rw [Nat.or_zero, df_zero] at e2
  have tm : ∀ A B : Nat, tau gr A B ≤ 12 := fun A B => Nat.le_trans tau_le_pc (pc_le A)
  have pm := pc_le (gr p &&& P)
  have pm2 := pc_le (2 ^ p ||| (gr p &&& P))
  have pm3 := pc_le (2 ^ p)
  have pm4 : pc 0 = 0 := by decide
  refine G_iconst (nx := 1) ⟨dX2_possible_0, rfl⟩ ci_1 ?_
  refine G_iload_3 (nx := 2) ⟨dX2_possible_1, rfl⟩ ?_
  refine G_ishl (nx := 3) ⟨dX2_possible_2, rfl⟩ ?_
  rw [one_shl (show p < 31 by omega)]
  refine G_istore_4 (nx := 5) ⟨dX2_possible_3, rfl⟩ rfl rfl ?_
  refine G_aload_1 (nx := 6) ⟨dX2_possible_5, rfl⟩ ?_
  refine G_iload_3 (nx := 7) ⟨dX2_possible_6, rfl⟩ ?_
  refine G_iald (nx := 8) (k := k) ⟨dX2_possible_7, rfl⟩ hk12 (by first | assumption | decide | (unfold vp_in; decide)) ?_
  rw [hR.row hpn]
  refine G_iload_2 (nx := 9) ⟨dX2_possible_8, rfl⟩ ?_
  refine G_iand (nx := 10) ⟨dX2_possible_9, rfl⟩ ?_
  rw [nI_and]
  refine G_istore_5 (nx := 12) ⟨dX2_possible_10, rfl⟩ rfl rfl ?_
  refine G_iload_2 (nx := 13) ⟨dX2_possible_12, rfl⟩ ?_
  refine G_iload_4 (nx := 15) ⟨dX2_possible_13, rfl⟩ ?_
  refine G_iconst (nx := 16) ⟨dX2_possible_15, rfl⟩ ci_m1 ?_
  refine G_ixor (nx := 17) ⟨dX2_possible_16, rfl⟩ ?_
  refine G_iand (nx := 18) ⟨dX2_possible_17, rfl⟩ ?_
  rw [nI_df _ (by omega)]
  refine G_istore_6 (nx := 20) ⟨dX2_possible_18, rfl⟩ rfl rfl ?_
  refine G_aload_0 (nx := 21) ⟨dX2_possible_20, rfl⟩ ?_
  refine G_aload_1 (nx := 22) ⟨dX2_possible_21, rfl⟩ ?_
  refine G_iload_2 (nx := 23) ⟨dX2_possible_22, rfl⟩ ?_
  refine G_cv2 (nx := 26) ⟨dX2_possible_23, rfl⟩ kX2_64 rfl hH.1 rfl (Nat.le_of_ble_eq_true rfl) (Nat.le_of_ble_eq_true rfl) (cH_least hH hk12 hko hR hP (fun I1 hs1 => ?_))
  have hR1 : RG I1 k n gr := hR.sb hs1 (fun _ => fMp_f (by omega))
  refine G_istore_7 (nx := 28) ⟨dX2_possible_26, rfl⟩ rfl rfl ?_
  refine G_iconst (nx := 29) ⟨dX2_possible_28, rfl⟩ ci_0 ?_
  refine G_istore_8 (nx := 31) ⟨dX2_possible_29, rfl⟩ rfl rfl ?_
  refine G_aload_0 (nx := 32) ⟨dX2_possible_31, rfl⟩ ?_
  refine G_aload_1 (nx := 33) ⟨dX2_possible_32, rfl⟩ ?_
  refine G_iload_5 (nx := 35) ⟨dX2_possible_33, rfl⟩ ?_
  refine G_iload_6 (nx := 37) ⟨dX2_possible_35, rfl⟩ ?_
  refine G_iload_5 (nx := 39) ⟨dX2_possible_37, rfl⟩ ?_
  refine G_iconst (nx := 40) ⟨dX2_possible_39, rfl⟩ ci_m1 ?_
  refine G_ixor (nx := 41) ⟨dX2_possible_40, rfl⟩ ?_
  refine G_iand (nx := 42) ⟨dX2_possible_41, rfl⟩ ?_
  rw [nI_df _ (by omega)]
  refine G_iload_5 (nx := 44) ⟨dX2_possible_42, rfl⟩ ?_
  refine G_iload_6 (nx := 46) ⟨dX2_possible_44, rfl⟩ ?_
  refine G_iload_5 (nx := 48) ⟨dX2_possible_46, rfl⟩ ?_
  refine G_iconst (nx := 49) ⟨dX2_possible_48, rfl⟩ ci_m1 ?_
  refine G_ixor (nx := 50) ⟨dX2_possible_49, rfl⟩ ?_
  refine G_iand (nx := 51) ⟨dX2_possible_50, rfl⟩ ?_
  rw [nI_df _ (by omega)]
  refine G_cv5 (nx := 54) ⟨dX2_possible_51, rfl⟩ kX2_68 rfl hH.1 rfl (Nat.le_of_ble_eq_true rfl) (Nat.le_of_ble_eq_true rfl) (cH_leastWith (d := d) hH hk12 hko hR1 (by omega) (dlt _ _ hrst) (by omega) (dlt _ _ hrst) (fun I2 hs2 => ?_))
  have hR2 : RG I2 k n gr := hR1.sb hs2 (fun _ => fMp_f (by omega))
  refine G_iload_7 (nx := 56) ⟨dX2_possible_54, rfl⟩ ?_
  refine G_icmpne (tgt := 65) (nx := 59) ⟨dX2_possible_56, rfl⟩ rfl (fun c_56 => ?_) (fun c_56 => ?_)
  · refine G_aload_0 (nx := 66) ⟨dX2_possible_65, rfl⟩ ?_
    refine G_aload_1 (nx := 67) ⟨dX2_possible_66, rfl⟩ ?_
    refine G_iload_4 (nx := 69) ⟨dX2_possible_67, rfl⟩ ?_
    refine G_iload_5 (nx := 71) ⟨dX2_possible_69, rfl⟩ ?_
    refine G_ior (nx := 72) ⟨dX2_possible_71, rfl⟩ ?_
    rw [nI_or]
    refine G_iload_6 (nx := 74) ⟨dX2_possible_72, rfl⟩ ?_
    refine G_iload_5 (nx := 76) ⟨dX2_possible_74, rfl⟩ ?_
    refine G_iconst (nx := 77) ⟨dX2_possible_76, rfl⟩ ci_m1 ?_
    refine G_ixor (nx := 78) ⟨dX2_possible_77, rfl⟩ ?_
    refine G_iand (nx := 79) ⟨dX2_possible_78, rfl⟩ ?_
    rw [nI_df _ (by omega)]
    refine G_iconst (nx := 80) ⟨dX2_possible_79, rfl⟩ ci_0 ?_
    refine G_iload_6 (nx := 82) ⟨dX2_possible_80, rfl⟩ ?_
    rw [← nI_0]
    refine G_cv5 (nx := 85) ⟨dX2_possible_82, rfl⟩ kX2_68 rfl hH.1 rfl (Nat.le_of_ble_eq_true rfl) (Nat.le_of_ble_eq_true rfl) (cH_leastWith (d := d) (b0 := 0) hH hk12 hko hR2 (by omega) (dlt _ _ hrst) (by omega) hrst (fun I3 hs3 => ?_))
    have hR3 : RG I3 k n gr := hR2.sb hs3 (fun _ => fMp_f (by omega))
    refine G_iload_7 (nx := 87) ⟨dX2_possible_85, rfl⟩ ?_
    refine G_icmpne (tgt := 96) (nx := 90) ⟨dX2_possible_87, rfl⟩ rfl (fun c_87 => ?_) (fun c_87 => ?_)
    · refine G_aload_0 (nx := 97) ⟨dX2_possible_96, rfl⟩ ?_
      refine G_aload_1 (nx := 98) ⟨dX2_possible_97, rfl⟩ ?_
      refine G_iload_4 (nx := 100) ⟨dX2_possible_98, rfl⟩ ?_
      refine G_iload_6 (nx := 102) ⟨dX2_possible_100, rfl⟩ ?_
      refine G_iload_4 (nx := 104) ⟨dX2_possible_102, rfl⟩ ?_
      refine G_iload_6 (nx := 106) ⟨dX2_possible_104, rfl⟩ ?_
      refine G_cv5 (nx := 109) ⟨dX2_possible_106, rfl⟩ kX2_68 rfl hH.1 rfl (Nat.le_of_ble_eq_true rfl) (Nat.le_of_ble_eq_true rfl) (cH_leastWith (d := d) hH hk12 hko hR3 (by omega) hrst (by omega) hrst (fun I4 hs4 => ?_))
      refine G_iload_7 (nx := 111) ⟨dX2_possible_109, rfl⟩ ?_
      refine G_icmpne (tgt := 120) (nx := 114) ⟨dX2_possible_111, rfl⟩ rfl (fun c_111 => ?_) (fun c_111 => ?_)
      · refine G_iload_8 (nx := 122) ⟨dX2_possible_120, rfl⟩ ?_
        refine G_iret ⟨dX2_possible_122, rfl⟩ rfl ?_
        have t0 := tm P P
        have t1 := tm (df (df P (2 ^ p)) (gr p &&& P)) (df (df P (2 ^ p)) (gr p &&& P))
        rw [nI_eq (by omega) (by omega)] at c_56
        rw [← e0] at c_56
        have t2 := tm (df (df P (2 ^ p)) (gr p &&& P)) (df P (2 ^ p))
        rw [nI_eq (by omega) (by omega)] at c_87
        rw [← e1] at c_87
        have t3 := tm (df P (2 ^ p)) (df P (2 ^ p))
        rw [nI_eq (by omega) (by omega)] at c_111
        rw [← e2] at c_111
        have fin := hk 0 I4 (by omega) (fun v hv => by
          rcases (show v = 0 ∨ v = 1 ∨ v = 2 by omega) with q | q | q
          · rw [q]; exact (by rw [show (0 : Nat).testBit 0 = false by decide]; exact ⟨fun z => (by cases z), fun z => absurd z c_56⟩)
          · rw [q]; exact (by rw [show (0 : Nat).testBit 1 = false by decide]; exact ⟨fun z => (by cases z), fun z => absurd z c_87⟩)
          · rw [q]; exact (by rw [show (0 : Nat).testBit 2 = false by decide]; exact ⟨fun z => (by cases z), fun z => absurd z c_111⟩)) (((hs1.tr hs2).tr hs3).tr hs4)
        exact fin
      · refine G_iload_8 (nx := 116) ⟨dX2_possible_114, rfl⟩ ?_
        refine G_iconst (nx := 117) ⟨dX2_possible_116, rfl⟩ ci_4 ?_
        refine G_ior (nx := 118) ⟨dX2_possible_117, rfl⟩ ?_
        refine G_istore_8 (nx := 120) ⟨dX2_possible_118, rfl⟩ rfl rfl ?_
        refine G_iload_8 (nx := 122) ⟨dX2_possible_120, rfl⟩ ?_
        refine G_iret ⟨dX2_possible_122, rfl⟩ rfl ?_
        have t0 := tm P P
        have t1 := tm (df (df P (2 ^ p)) (gr p &&& P)) (df (df P (2 ^ p)) (gr p &&& P))
        rw [nI_eq (by omega) (by omega)] at c_56
        rw [← e0] at c_56
        have t2 := tm (df (df P (2 ^ p)) (gr p &&& P)) (df P (2 ^ p))
        rw [nI_eq (by omega) (by omega)] at c_87
        rw [← e1] at c_87
        have t3 := tm (df P (2 ^ p)) (df P (2 ^ p))
        rw [nI_eq (by omega) (by omega)] at c_111
        rw [← e2] at c_111
        have fin := hk 4 I4 (by omega) (fun v hv => by
          rcases (show v = 0 ∨ v = 1 ∨ v = 2 by omega) with q | q | q
          · rw [q]; exact (by rw [show (4 : Nat).testBit 0 = false by decide]; exact ⟨fun z => (by cases z), fun z => absurd z c_56⟩)
          · rw [q]; exact (by rw [show (4 : Nat).testBit 1 = false by decide]; exact ⟨fun z => (by cases z), fun z => absurd z c_87⟩)
          · rw [q]; exact (by rw [show (4 : Nat).testBit 2 = true by decide]; exact ⟨fun _ => c_111, fun _ => rfl⟩)) (((hs1.tr hs2).tr hs3).tr hs4)
        exact fin
    · refine G_iload_8 (nx := 92) ⟨dX2_possible_90, rfl⟩ ?_
      refine G_iconst (nx := 93) ⟨dX2_possible_92, rfl⟩ ci_2 ?_
      refine G_ior (nx := 94) ⟨dX2_possible_93, rfl⟩ ?_
      refine G_istore_8 (nx := 96) ⟨dX2_possible_94, rfl⟩ rfl rfl ?_
      refine G_aload_0 (nx := 97) ⟨dX2_possible_96, rfl⟩ ?_
      refine G_aload_1 (nx := 98) ⟨dX2_possible_97, rfl⟩ ?_
      refine G_iload_4 (nx := 100) ⟨dX2_possible_98, rfl⟩ ?_
      refine G_iload_6 (nx := 102) ⟨dX2_possible_100, rfl⟩ ?_
      refine G_iload_4 (nx := 104) ⟨dX2_possible_102, rfl⟩ ?_
      refine G_iload_6 (nx := 106) ⟨dX2_possible_104, rfl⟩ ?_
      refine G_cv5 (nx := 109) ⟨dX2_possible_106, rfl⟩ kX2_68 rfl hH.1 rfl (Nat.le_of_ble_eq_true rfl) (Nat.le_of_ble_eq_true rfl) (cH_leastWith (d := d) hH hk12 hko hR3 (by omega) hrst (by omega) hrst (fun I4 hs4 => ?_))
      refine G_iload_7 (nx := 111) ⟨dX2_possible_109, rfl⟩ ?_
      refine G_icmpne (tgt := 120) (nx := 114) ⟨dX2_possible_111, rfl⟩ rfl (fun c_111 => ?_) (fun c_111 => ?_)
      · refine G_iload_8 (nx := 122) ⟨dX2_possible_120, rfl⟩ ?_
        refine G_iret ⟨dX2_possible_122, rfl⟩ rfl ?_
        have t0 := tm P P
        have t1 := tm (df (df P (2 ^ p)) (gr p &&& P)) (df (df P (2 ^ p)) (gr p &&& P))
        rw [nI_eq (by omega) (by omega)] at c_56
        rw [← e0] at c_56
        have t2 := tm (df (df P (2 ^ p)) (gr p &&& P)) (df P (2 ^ p))
        rw [nI_eq (by omega) (by omega)] at c_87
        rw [← e1] at c_87
        have t3 := tm (df P (2 ^ p)) (df P (2 ^ p))
        rw [nI_eq (by omega) (by omega)] at c_111
        rw [← e2] at c_111
        have fin := hk 2 I4 (by omega) (fun v hv => by
          rcases (show v = 0 ∨ v = 1 ∨ v = 2 by omega) with q | q | q
          · rw [q]; exact (by rw [show (2 : Nat).testBit 0 = false by decide]; exact ⟨fun z => (by cases z), fun z => absurd z c_56⟩)
          · rw [q]; exact (by rw [show (2 : Nat).testBit 1 = true by decide]; exact ⟨fun _ => c_87, fun _ => rfl⟩)
          · rw [q]; exact (by rw [show (2 : Nat).testBit 2 = false by decide]; exact ⟨fun z => (by cases z), fun z => absurd z c_111⟩)) (((hs1.tr hs2).tr hs3).tr hs4)
        exact fin
      · refine G_iload_8 (nx := 116) ⟨dX2_possible_114, rfl⟩ ?_
        refine G_iconst (nx := 117) ⟨dX2_possible_116, rfl⟩ ci_4 ?_
        refine G_ior (nx := 118) ⟨dX2_possible_117, rfl⟩ ?_
        refine G_istore_8 (nx := 120) ⟨dX2_possible_118, rfl⟩ rfl rfl ?_
        refine G_iload_8 (nx := 122) ⟨dX2_possible_120, rfl⟩ ?_
        refine G_iret ⟨dX2_possible_122, rfl⟩ rfl ?_
        have t0 := tm P P
        have t1 := tm (df (df P (2 ^ p)) (gr p &&& P)) (df (df P (2 ^ p)) (gr p &&& P))
        rw [nI_eq (by omega) (by omega)] at c_56
        rw [← e0] at c_56
        have t2 := tm (df (df P (2 ^ p)) (gr p &&& P)) (df P (2 ^ p))
        rw [nI_eq (by omega) (by omega)] at c_87
        rw [← e1] at c_87
        have t3 := tm (df P (2 ^ p)) (df P (2 ^ p))
        rw [nI_eq (by omega) (by omega)] at c_111
        rw [← e2] at c_111
        have fin := hk 6 I4 (by omega) (fun v hv => by
          rcases (show v = 0 ∨ v = 1 ∨ v = 2 by omega) with q | q | q
          · rw [q]; exact (by rw [show (6 : Nat).testBit 0 = false by decide]; exact ⟨fun z => (by cases z), fun z => absurd z c_56⟩)
          · rw [q]; exact (by rw [show (6 : Nat).testBit 1 = true by decide]; exact ⟨fun _ => c_87, fun _ => rfl⟩)
          · rw [q]; exact (by rw [show (6 : Nat).testBit 2 = true by decide]; exact ⟨fun _ => c_111, fun _ => rfl⟩)) (((hs1.tr hs2).tr hs3).tr hs4)
        exact fin
  · refine G_iload_8 (nx := 61) ⟨dX2_possible_59, rfl⟩ ?_
    refine G_iconst (nx := 62) ⟨dX2_possible_61, rfl⟩ ci_1 ?_
    refine G_ior (nx := 63) ⟨dX2_possible_62, rfl⟩ ?_
    refine G_istore_8 (nx := 65) ⟨dX2_possible_63, rfl⟩ rfl rfl ?_
    refine G_aload_0 (nx := 66) ⟨dX2_possible_65, rfl⟩ ?_
    refine G_aload_1 (nx := 67) ⟨dX2_possible_66, rfl⟩ ?_
    refine G_iload_4 (nx := 69) ⟨dX2_possible_67, rfl⟩ ?_
    refine G_iload_5 (nx := 71) ⟨dX2_possible_69, rfl⟩ ?_
    refine G_ior (nx := 72) ⟨dX2_possible_71, rfl⟩ ?_
    rw [nI_or]
    refine G_iload_6 (nx := 74) ⟨dX2_possible_72, rfl⟩ ?_
    refine G_iload_5 (nx := 76) ⟨dX2_possible_74, rfl⟩ ?_
    refine G_iconst (nx := 77) ⟨dX2_possible_76, rfl⟩ ci_m1 ?_
    refine G_ixor (nx := 78) ⟨dX2_possible_77, rfl⟩ ?_
    refine G_iand (nx := 79) ⟨dX2_possible_78, rfl⟩ ?_
    rw [nI_df _ (by omega)]
    refine G_iconst (nx := 80) ⟨dX2_possible_79, rfl⟩ ci_0 ?_
    refine G_iload_6 (nx := 82) ⟨dX2_possible_80, rfl⟩ ?_
    rw [← nI_0]
    refine G_cv5 (nx := 85) ⟨dX2_possible_82, rfl⟩ kX2_68 rfl hH.1 rfl (Nat.le_of_ble_eq_true rfl) (Nat.le_of_ble_eq_true rfl) (cH_leastWith (d := d) (b0 := 0) hH hk12 hko hR2 (by omega) (dlt _ _ hrst) (by omega) hrst (fun I3 hs3 => ?_))
    have hR3 : RG I3 k n gr := hR2.sb hs3 (fun _ => fMp_f (by omega))
    refine G_iload_7 (nx := 87) ⟨dX2_possible_85, rfl⟩ ?_
    refine G_icmpne (tgt := 96) (nx := 90) ⟨dX2_possible_87, rfl⟩ rfl (fun c_87 => ?_) (fun c_87 => ?_)
    · refine G_aload_0 (nx := 97) ⟨dX2_possible_96, rfl⟩ ?_
      refine G_aload_1 (nx := 98) ⟨dX2_possible_97, rfl⟩ ?_
      refine G_iload_4 (nx := 100) ⟨dX2_possible_98, rfl⟩ ?_
      refine G_iload_6 (nx := 102) ⟨dX2_possible_100, rfl⟩ ?_
      refine G_iload_4 (nx := 104) ⟨dX2_possible_102, rfl⟩ ?_
      refine G_iload_6 (nx := 106) ⟨dX2_possible_104, rfl⟩ ?_
      refine G_cv5 (nx := 109) ⟨dX2_possible_106, rfl⟩ kX2_68 rfl hH.1 rfl (Nat.le_of_ble_eq_true rfl) (Nat.le_of_ble_eq_true rfl) (cH_leastWith (d := d) hH hk12 hko hR3 (by omega) hrst (by omega) hrst (fun I4 hs4 => ?_))
      refine G_iload_7 (nx := 111) ⟨dX2_possible_109, rfl⟩ ?_
      refine G_icmpne (tgt := 120) (nx := 114) ⟨dX2_possible_111, rfl⟩ rfl (fun c_111 => ?_) (fun c_111 => ?_)
      · refine G_iload_8 (nx := 122) ⟨dX2_possible_120, rfl⟩ ?_
        refine G_iret ⟨dX2_possible_122, rfl⟩ rfl ?_
        have t0 := tm P P
        have t1 := tm (df (df P (2 ^ p)) (gr p &&& P)) (df (df P (2 ^ p)) (gr p &&& P))
        rw [nI_eq (by omega) (by omega)] at c_56
        rw [← e0] at c_56
        have t2 := tm (df (df P (2 ^ p)) (gr p &&& P)) (df P (2 ^ p))
        rw [nI_eq (by omega) (by omega)] at c_87
        rw [← e1] at c_87
        have t3 := tm (df P (2 ^ p)) (df P (2 ^ p))
        rw [nI_eq (by omega) (by omega)] at c_111
        rw [← e2] at c_111
        have fin := hk 1 I4 (by omega) (fun v hv => by
          rcases (show v = 0 ∨ v = 1 ∨ v = 2 by omega) with q | q | q
          · rw [q]; exact (by rw [show (1 : Nat).testBit 0 = true by decide]; exact ⟨fun _ => c_56, fun _ => rfl⟩)
          · rw [q]; exact (by rw [show (1 : Nat).testBit 1 = false by decide]; exact ⟨fun z => (by cases z), fun z => absurd z c_87⟩)
          · rw [q]; exact (by rw [show (1 : Nat).testBit 2 = false by decide]; exact ⟨fun z => (by cases z), fun z => absurd z c_111⟩)) (((hs1.tr hs2).tr hs3).tr hs4)
        exact fin
      · refine G_iload_8 (nx := 116) ⟨dX2_possible_114, rfl⟩ ?_
        refine G_iconst (nx := 117) ⟨dX2_possible_116, rfl⟩ ci_4 ?_
        refine G_ior (nx := 118) ⟨dX2_possible_117, rfl⟩ ?_
        refine G_istore_8 (nx := 120) ⟨dX2_possible_118, rfl⟩ rfl rfl ?_
        refine G_iload_8 (nx := 122) ⟨dX2_possible_120, rfl⟩ ?_
        refine G_iret ⟨dX2_possible_122, rfl⟩ rfl ?_
        have t0 := tm P P
        have t1 := tm (df (df P (2 ^ p)) (gr p &&& P)) (df (df P (2 ^ p)) (gr p &&& P))
        rw [nI_eq (by omega) (by omega)] at c_56
        rw [← e0] at c_56
        have t2 := tm (df (df P (2 ^ p)) (gr p &&& P)) (df P (2 ^ p))
        rw [nI_eq (by omega) (by omega)] at c_87
        rw [← e1] at c_87
        have t3 := tm (df P (2 ^ p)) (df P (2 ^ p))
        rw [nI_eq (by omega) (by omega)] at c_111
        rw [← e2] at c_111
        have fin := hk 5 I4 (by omega) (fun v hv => by
          rcases (show v = 0 ∨ v = 1 ∨ v = 2 by omega) with q | q | q
          · rw [q]; exact (by rw [show (5 : Nat).testBit 0 = true by decide]; exact ⟨fun _ => c_56, fun _ => rfl⟩)
          · rw [q]; exact (by rw [show (5 : Nat).testBit 1 = false by decide]; exact ⟨fun z => (by cases z), fun z => absurd z c_87⟩)
          · rw [q]; exact (by rw [show (5 : Nat).testBit 2 = true by decide]; exact ⟨fun _ => c_111, fun _ => rfl⟩)) (((hs1.tr hs2).tr hs3).tr hs4)
        exact fin
    · refine G_iload_8 (nx := 92) ⟨dX2_possible_90, rfl⟩ ?_
      refine G_iconst (nx := 93) ⟨dX2_possible_92, rfl⟩ ci_2 ?_
      refine G_ior (nx := 94) ⟨dX2_possible_93, rfl⟩ ?_
      refine G_istore_8 (nx := 96) ⟨dX2_possible_94, rfl⟩ rfl rfl ?_
      refine G_aload_0 (nx := 97) ⟨dX2_possible_96, rfl⟩ ?_
      refine G_aload_1 (nx := 98) ⟨dX2_possible_97, rfl⟩ ?_
      refine G_iload_4 (nx := 100) ⟨dX2_possible_98, rfl⟩ ?_
      refine G_iload_6 (nx := 102) ⟨dX2_possible_100, rfl⟩ ?_
      refine G_iload_4 (nx := 104) ⟨dX2_possible_102, rfl⟩ ?_
      refine G_iload_6 (nx := 106) ⟨dX2_possible_104, rfl⟩ ?_
      refine G_cv5 (nx := 109) ⟨dX2_possible_106, rfl⟩ kX2_68 rfl hH.1 rfl (Nat.le_of_ble_eq_true rfl) (Nat.le_of_ble_eq_true rfl) (cH_leastWith (d := d) hH hk12 hko hR3 (by omega) hrst (by omega) hrst (fun I4 hs4 => ?_))
      refine G_iload_7 (nx := 111) ⟨dX2_possible_109, rfl⟩ ?_
      refine G_icmpne (tgt := 120) (nx := 114) ⟨dX2_possible_111, rfl⟩ rfl (fun c_111 => ?_) (fun c_111 => ?_)
      · refine G_iload_8 (nx := 122) ⟨dX2_possible_120, rfl⟩ ?_
        refine G_iret ⟨dX2_possible_122, rfl⟩ rfl ?_
        have t0 := tm P P
        have t1 := tm (df (df P (2 ^ p)) (gr p &&& P)) (df (df P (2 ^ p)) (gr p &&& P))
        rw [nI_eq (by omega) (by omega)] at c_56
        rw [← e0] at c_56
        have t2 := tm (df (df P (2 ^ p)) (gr p &&& P)) (df P (2 ^ p))
        rw [nI_eq (by omega) (by omega)] at c_87
        rw [← e1] at c_87
        have t3 := tm (df P (2 ^ p)) (df P (2 ^ p))
        rw [nI_eq (by omega) (by omega)] at c_111
        rw [← e2] at c_111
        have fin := hk 3 I4 (by omega) (fun v hv => by
          rcases (show v = 0 ∨ v = 1 ∨ v = 2 by omega) with q | q | q
          · rw [q]; exact (by rw [show (3 : Nat).testBit 0 = true by decide]; exact ⟨fun _ => c_56, fun _ => rfl⟩)
          · rw [q]; exact (by rw [show (3 : Nat).testBit 1 = true by decide]; exact ⟨fun _ => c_87, fun _ => rfl⟩)
          · rw [q]; exact (by rw [show (3 : Nat).testBit 2 = false by decide]; exact ⟨fun z => (by cases z), fun z => absurd z c_111⟩)) (((hs1.tr hs2).tr hs3).tr hs4)
        exact fin
      · refine G_iload_8 (nx := 116) ⟨dX2_possible_114, rfl⟩ ?_
        refine G_iconst (nx := 117) ⟨dX2_possible_116, rfl⟩ ci_4 ?_
        refine G_ior (nx := 118) ⟨dX2_possible_117, rfl⟩ ?_
        refine G_istore_8 (nx := 120) ⟨dX2_possible_118, rfl⟩ rfl rfl ?_
        refine G_iload_8 (nx := 122) ⟨dX2_possible_120, rfl⟩ ?_
        refine G_iret ⟨dX2_possible_122, rfl⟩ rfl ?_
        have t0 := tm P P
        have t1 := tm (df (df P (2 ^ p)) (gr p &&& P)) (df (df P (2 ^ p)) (gr p &&& P))
        rw [nI_eq (by omega) (by omega)] at c_56
        rw [← e0] at c_56
        have t2 := tm (df (df P (2 ^ p)) (gr p &&& P)) (df P (2 ^ p))
        rw [nI_eq (by omega) (by omega)] at c_87
        rw [← e1] at c_87
        have t3 := tm (df P (2 ^ p)) (df P (2 ^ p))
        rw [nI_eq (by omega) (by omega)] at c_111
        rw [← e2] at c_111
        have fin := hk 7 I4 (by omega) (fun v hv => by
          rcases (show v = 0 ∨ v = 1 ∨ v = 2 by omega) with q | q | q
          · rw [q]; exact (by rw [show (7 : Nat).testBit 0 = true by decide]; exact ⟨fun _ => c_56, fun _ => rfl⟩)
          · rw [q]; exact (by rw [show (7 : Nat).testBit 1 = true by decide]; exact ⟨fun _ => c_87, fun _ => rfl⟩)
          · rw [q]; exact (by rw [show (7 : Nat).testBit 2 = true by decide]; exact ⟨fun _ => c_111, fun _ => rfl⟩)) (((hs1.tr hs2).tr hs3).tr hs4)
        exact fin

theorem lH_lm {o a b c e k : Nat} (hH : HT o a b c e) (hk12 : isA k 12) (hko : k < o) {ch hd op q0 : Nat} (hR : RG I k n gr) (hch : ch < 4096) (hhd : hd < 2 ^ n) (hop : op < 2 ^ n) (hq0 : ch.testBit q0 = true) (hE : EM gr hd (df op (2 ^ q0))) (hmin : ∀ q, q < q0 → ch.testBit q = true → ¬ EM gr hd (df op (2 ^ q))) (hk : ∀ (I' : AI), sb (fMp o) I I' → K (.int (nI q0)) I' J (rX g)) : ∀ (kk q : Nat) (I1 : AI), q0 - q = kk → q ≤ q0 → sb (fMp o) I I1 → G l (d + 3) mX2_leastMate K 3 [.ref o, .ref k, .int (nI ch), .int (nI hd), .int (nI op), .int (nI q)] [] I1 J (rX g) := by
  obtain ⟨qa, qb, qc, qe⟩ := hH.2.2.2.2.2.2
  intro kk
  induction kk using Nat.strongRecOn with
  | _ kk ih =>
  intro q I1 hqk hq hs1
  have hn := hR.1
  have hp12 := pow12 hn
  have hq12 : q0 < 12 := tb_lt hch hq0
  have hR1 : RG I1 k n gr := hR.sb hs1 (fun _ => fMp_f (by omega))
  have hdl : df op (2 ^ q) < 2 ^ n := Nat.lt_of_le_of_lt (df_le _ _) hop
  have hEq := EM_tau (gr := gr) hn hhd hdl
  have hpl := pc_le hd
  have htl : tau gr hd (df op (2 ^ q)) ≤ pc hd := tau_le_pc
  refine G_iload_5 (nx := 5) ⟨dX2_leastMate_3, rfl⟩ ?_
  refine G_bipush (nx := 7) ⟨dX2_leastMate_5, rfl⟩ cb_12 ?_
  rw [show (12 : Int32) = nI 12 by decide]
  refine G_icmpge (tgt := 53) (nx := 10) ⟨dX2_leastMate_7, rfl⟩ rfl (fun c_7 => ?_) (fun c_7 => ?_)
  · (rw [nI_le_iff (by omega) (by omega)] at c_7; omega)
  · refine G_iload_2 (nx := 11) ⟨dX2_leastMate_10, rfl⟩ ?_
    refine G_iload_5 (nx := 13) ⟨dX2_leastMate_11, rfl⟩ ?_
    refine G_ishr (nx := 14) ⟨dX2_leastMate_13, rfl⟩ ?_
    refine G_iconst (nx := 15) ⟨dX2_leastMate_14, rfl⟩ ci_1 ?_
    refine G_iand (nx := 16) ⟨dX2_leastMate_15, rfl⟩ ?_
    rw [bit_nI (lt31 hch) (by omega)]
    refine G_ifne (tgt := 22) (nx := 19) ⟨dX2_leastMate_16, rfl⟩ rfl (fun c_16 => ?_) (fun c_16 => ?_)
    · rw [bi_n0] at c_16
      refine G_aload_0 (nx := 23) ⟨dX2_leastMate_22, rfl⟩ ?_
      refine G_aload_1 (nx := 24) ⟨dX2_leastMate_23, rfl⟩ ?_
      refine G_iload_3 (nx := 25) ⟨dX2_leastMate_24, rfl⟩ ?_
      refine G_iload_4 (nx := 27) ⟨dX2_leastMate_25, rfl⟩ ?_
      refine G_iconst (nx := 28) ⟨dX2_leastMate_27, rfl⟩ ci_1 ?_
      refine G_iload_5 (nx := 30) ⟨dX2_leastMate_28, rfl⟩ ?_
      refine G_ishl (nx := 31) ⟨dX2_leastMate_30, rfl⟩ ?_
      refine G_iconst (nx := 32) ⟨dX2_leastMate_31, rfl⟩ ci_m1 ?_
      refine G_ixor (nx := 33) ⟨dX2_leastMate_32, rfl⟩ ?_
      refine G_iand (nx := 34) ⟨dX2_leastMate_33, rfl⟩ ?_
      rw [one_shl (show q < 31 by omega), nI_df _ (by omega)]
      refine G_cv3 (nx := 37) ⟨dX2_leastMate_34, rfl⟩ kX2_57 rfl hH.1 rfl (Nat.le_of_ble_eq_true rfl) (Nat.le_of_ble_eq_true rfl) (cH_most (d := d) hH hk12 hko hR1 hhd hdl (fun I2 hs2 => ?_))
      refine G_iload_3 (nx := 38) ⟨dX2_leastMate_37, rfl⟩ ?_
      refine G_cs1 (nx := 41) ⟨dX2_leastMate_38, rfl⟩ kX2_61 rfl rfl (Nat.le_of_ble_eq_true rfl) (Nat.le_of_ble_eq_true rfl) (cJ_bc (by omega) ?_)
      refine G_icmpne (tgt := 47) (nx := 44) ⟨dX2_leastMate_41, rfl⟩ rfl (fun c_41 => ?_) (fun c_41 => ?_)
      · refine G_iinc_5 (nx := 50) ⟨dX2_leastMate_47, rfl⟩ ci_1 rfl ?_
        refine G_goto (tgt := 3) ⟨dX2_leastMate_50, rfl⟩ rfl ?_
        rw [nI_eq (by omega) (by omega)] at c_41
        have hne : ¬ q = q0 := fun e0 => c_41 (hEq.mp (by rw [e0]; exact hE))
        exact G_L (by rw [nI_1]) (ih (q0 - (q + 1)) (by omega) (q + 1) I2 rfl (by omega) (hs1.tr hs2))
      · refine G_iload_5 (nx := 46) ⟨dX2_leastMate_44, rfl⟩ ?_
        refine G_iret ⟨dX2_leastMate_46, rfl⟩ rfl ?_
        rw [nI_eq (by omega) (by omega)] at c_41
        have e0 : q = q0 := by
          rcases Nat.lt_or_ge q q0 with z | z
          · exact absurd (hEq.mpr c_41) (hmin q z c_16)
          · omega
        rw [e0]
        exact hk I2 (hs1.tr hs2)
    · refine G_goto (tgt := 47) ⟨dX2_leastMate_19, rfl⟩ rfl ?_
      refine G_iinc_5 (nx := 50) ⟨dX2_leastMate_47, rfl⟩ ci_1 rfl ?_
      refine G_goto (tgt := 3) ⟨dX2_leastMate_50, rfl⟩ rfl ?_
      rw [bi_0] at c_16
      have hne : ¬ q = q0 := fun e0 => by rw [e0, hq0] at c_16; cases c_16
      exact G_L (by rw [nI_1]) (ih (q0 - (q + 1)) (by omega) (q + 1) I1 rfl (by omega) hs1)

theorem cH_leastMate {o a b c e k : Nat} (hH : HT o a b c e) (hk12 : isA k 12) (hko : k < o) {ch hd op q0 : Nat} (hR : RG I k n gr) (hch : ch < 4096) (hhd : hd < 2 ^ n) (hop : op < 2 ^ n) (hq0 : ch.testBit q0 = true) (hE : EM gr hd (df op (2 ^ q0))) (hmin : ∀ q, q < q0 → ch.testBit q = true → ¬ EM gr hd (df op (2 ^ q))) (hk : ∀ (I' : AI), sb (fMp o) I I' → K (.int (nI q0)) I' J (rX g)) : G l (d + 3) mX2_leastMate K 0 [.ref o, .ref k, .int (nI ch), .int (nI hd), .int (nI op), UU] [] I J (rX g) := by
  refine G_iconst (nx := 1) ⟨dX2_leastMate_0, rfl⟩ ci_0 ?_
  refine G_istore_5 (nx := 3) ⟨dX2_leastMate_1, rfl⟩ rfl rfl ?_
  exact G_L (by rw [← nI_0]) (lH_lm hH hk12 hko hR hch hhd hop hq0 hE hmin hk _ 0 I rfl (by omega) sb.rf)

theorem lH_fm {o a b c e k : Nat} (hH : HT o a b c e) (hk12 : isA k 12) (hko : k < o) {hd cr p : Nat} {ma : Nat → Nat} (hR : RG I k n gr) (hhd : hd < 2 ^ n) (hcr : cr < 2 ^ n) (hpn : p < n) (hdis : ∀ x, hd.testBit x = true → cr.testBit x = false) (hinj : (∀ h, hd.testBit h = true → cr.testBit (ma h) = true ∧ (gr h).testBit (ma h) = true) ∧ ∀ h h', hd.testBit h = true → hd.testBit h' = true → ma h = ma h' → h = h') (hk1 : ∀ (I' : AI) (r : Int32), (hd.testBit p = true → r = nI (ma p)) → (∀ h, hd.testBit h = true → ma h = p → r = nI h) → (hd.testBit p = false → (∀ h, hd.testBit h = true → ¬ ma h = p) → r = -1) → sb (fMp o) I I' → K (.int r) I' J (rX g)) : ∀ (kk t : Nat) (I1 : AI) (hs op : Nat) (x8 : Value), notL x8 = true → 12 - t = kk → t ≤ 12 → (∀ x, hs.testBit x = true ↔ hd.testBit x = true ∧ t ≤ x) → hs < 2 ^ n → op < 2 ^ n → (∀ x, op.testBit x = true → cr.testBit x = true) → LM gr (pc hs) hs op ma → (∀ h, h < t → hd.testBit h = true → ¬ h = p ∧ ¬ ma h = p) → sb (fMp o) I I1 → G l (d + 4) mX2_firstMate K 9 [.ref o, .ref k, .int (nI hd), .int (nI cr), .int (nI p), .int (nI hs), .int (nI op), .int (nI t), x8] [] I1 J (rX g) := by
  obtain ⟨qa, qb, qc, qe⟩ := hH.2.2.2.2.2.2
  intro kk
  induction kk using Nat.strongRecOn with
  | _ kk ih =>
  intro t I1 hs op x8 hx8 htk ht hhs hhn hon hoc hLM hno hs1
  have hn := hR.1
  have hp12 := pow12 hn
  have hR1 : RG I1 k n gr := hR.sb hs1 (fun _ => fMp_f (by omega))
  refine G_iload_7 (nx := 11) ⟨dX2_firstMate_9, rfl⟩ ?_
  refine G_bipush (nx := 13) ⟨dX2_firstMate_11, rfl⟩ cb_12 ?_
  rw [show (12 : Int32) = nI 12 by decide]
  refine G_icmpge (tgt := 102) (nx := 16) ⟨dX2_firstMate_13, rfl⟩ rfl (fun c_13 => ?_) (fun c_13 => ?_)
  · refine G_iconst (nx := 103) ⟨dX2_firstMate_102, rfl⟩ ci_m1 ?_
    refine G_iret ⟨dX2_firstMate_103, rfl⟩ rfl ?_
    rw [nI_le_iff (by omega) (by omega)] at c_13
    refine hk1 I1 (-1) (fun h1 => ?_) (fun h h1 h2 => ?_) (fun _ _ => rfl) hs1
    · exact absurd rfl (hno p (by omega) h1).1
    · exact absurd h2 (hno h (by have := tb_ltn hhd h1; omega) h1).2
  · rw [nI_le_iff (by omega) (by omega)] at c_13
    have ht12 : t < 12 := by omega
    refine G_iload_2 (nx := 17) ⟨dX2_firstMate_16, rfl⟩ ?_
    refine G_iload_7 (nx := 19) ⟨dX2_firstMate_17, rfl⟩ ?_
    refine G_ishr (nx := 20) ⟨dX2_firstMate_19, rfl⟩ ?_
    refine G_iconst (nx := 21) ⟨dX2_firstMate_20, rfl⟩ ci_1 ?_
    refine G_iand (nx := 22) ⟨dX2_firstMate_21, rfl⟩ ?_
    rw [bit_nI (lt31 (by omega)) (by omega)]
    refine G_ifne (tgt := 28) (nx := 25) ⟨dX2_firstMate_22, rfl⟩ rfl (fun c_22 => ?_) (fun c_22 => ?_)
    · rw [bi_n0] at c_22
      have htn : t < n := tb_ltn hhd c_22
      have hit := in12 htn hn
      have hgt := hR1.lt htn
      have hst : hs.testBit t = true := (hhs t).mpr ⟨c_22, Nat.le_refl t⟩
      have hs0 : ¬ hs = 0 := fun e0 => by rw [e0, z0] at hst; cases hst
      have hfb : fb hs = t := by
        obtain ⟨g1, g2, g3⟩ := fb_s (show hs < 4096 by omega) hs0
        rcases Nat.lt_trichotomy (fb hs) t with z | z | z
        · have := ((hhs (fb hs)).mp g2).2; omega
        · exact z
        · rw [g3 t z] at hst; cases hst
      have hpcs := pc_del (show t < 12 by omega) hst
      rw [hpcs] at hLM
      unfold LM at hLM
      rw [hfb] at hLM
      obtain ⟨m1, m2, m3, m4, m5⟩ := hLM
      have hmn : ma t < n := tb_ltn hcr (hoc _ m1)
      have hpw : 2 ^ t < 2 ^ 12 := Nat.pow_lt_pow_right (by omega) (by omega)
      have hdl : df hs (2 ^ t) < 2 ^ n := Nat.lt_of_le_of_lt (df_le _ _) hhn
      have hal : gr t &&& op < 4096 := Nat.lt_of_le_of_lt Nat.and_le_left hgt
      refine G_iload_5 (nx := 30) ⟨dX2_firstMate_28, rfl⟩ ?_
      refine G_iconst (nx := 31) ⟨dX2_firstMate_30, rfl⟩ ci_1 ?_
      refine G_iload_7 (nx := 33) ⟨dX2_firstMate_31, rfl⟩ ?_
      refine G_ishl (nx := 34) ⟨dX2_firstMate_33, rfl⟩ ?_
      refine G_iconst (nx := 35) ⟨dX2_firstMate_34, rfl⟩ ci_m1 ?_
      refine G_ixor (nx := 36) ⟨dX2_firstMate_35, rfl⟩ ?_
      refine G_iand (nx := 37) ⟨dX2_firstMate_36, rfl⟩ ?_
      rw [one_shl (show t < 31 by omega), nI_df _ (by omega)]
      refine G_istore_5 (nx := 39) ⟨dX2_firstMate_37, rfl⟩ rfl rfl ?_
      refine G_aload_0 (nx := 40) ⟨dX2_firstMate_39, rfl⟩ ?_
      refine G_aload_1 (nx := 41) ⟨dX2_firstMate_40, rfl⟩ ?_
      refine G_aload_1 (nx := 42) ⟨dX2_firstMate_41, rfl⟩ ?_
      refine G_iload_7 (nx := 44) ⟨dX2_firstMate_42, rfl⟩ ?_
      refine G_iald (nx := 45) (k := k) ⟨dX2_firstMate_44, rfl⟩ hk12 (by first | assumption | decide | (unfold vp_in; decide)) ?_
      rw [hR1.row htn]
      refine G_iload_6 (nx := 47) ⟨dX2_firstMate_45, rfl⟩ ?_
      refine G_iand (nx := 48) ⟨dX2_firstMate_47, rfl⟩ ?_
      rw [nI_and]
      refine G_iload_5 (nx := 50) ⟨dX2_firstMate_48, rfl⟩ ?_
      refine G_iload_6 (nx := 52) ⟨dX2_firstMate_50, rfl⟩ ?_
      refine G_cv4 (nx := 55) ⟨dX2_firstMate_52, rfl⟩ kX2_72 rfl hH.1 rfl (Nat.le_of_ble_eq_true rfl) (Nat.le_of_ble_eq_true rfl) (cH_leastMate (d := d) hH hk12 hko hR1 hal hdl hon (by rw [Nat.testBit_and, m2, m1]; rfl) m3 (fun q hq hq2 => by rw [Nat.testBit_and, Bool.and_eq_true] at hq2; exact m4 q hq hq2.2 hq2.1) (fun I2 hs2 => ?_))
      refine G_istore_8 (nx := 57) ⟨dX2_firstMate_55, rfl⟩ rfl rfl ?_
      refine G_iload_8 (nx := 59) ⟨dX2_firstMate_57, rfl⟩ ?_
      refine G_ifge (tgt := 65) (nx := 62) ⟨dX2_firstMate_59, rfl⟩ rfl (fun c_59 => ?_) (fun c_59 => ?_)
      · refine G_iload_7 (nx := 67) ⟨dX2_firstMate_65, rfl⟩ ?_
        refine G_iload_4 (nx := 69) ⟨dX2_firstMate_67, rfl⟩ ?_
        refine G_icmpne (tgt := 75) (nx := 72) ⟨dX2_firstMate_69, rfl⟩ rfl (fun c_69 => ?_) (fun c_69 => ?_)
        · refine G_iload_8 (nx := 77) ⟨dX2_firstMate_75, rfl⟩ ?_
          refine G_iload_4 (nx := 79) ⟨dX2_firstMate_77, rfl⟩ ?_
          refine G_icmpne (tgt := 85) (nx := 82) ⟨dX2_firstMate_79, rfl⟩ rfl (fun c_79 => ?_) (fun c_79 => ?_)
          · refine G_iload_6 (nx := 87) ⟨dX2_firstMate_85, rfl⟩ ?_
            refine G_iconst (nx := 88) ⟨dX2_firstMate_87, rfl⟩ ci_1 ?_
            refine G_iload_8 (nx := 90) ⟨dX2_firstMate_88, rfl⟩ ?_
            refine G_ishl (nx := 91) ⟨dX2_firstMate_90, rfl⟩ ?_
            refine G_iconst (nx := 92) ⟨dX2_firstMate_91, rfl⟩ ci_m1 ?_
            refine G_ixor (nx := 93) ⟨dX2_firstMate_92, rfl⟩ ?_
            refine G_iand (nx := 94) ⟨dX2_firstMate_93, rfl⟩ ?_
            rw [one_shl (show ma t < 31 by omega), nI_df _ (by omega)]
            refine G_istore_6 (nx := 96) ⟨dX2_firstMate_94, rfl⟩ rfl rfl ?_
            refine G_iinc_7 (nx := 99) ⟨dX2_firstMate_96, rfl⟩ ci_1 rfl ?_
            refine G_goto (tgt := 9) ⟨dX2_firstMate_99, rfl⟩ rfl ?_
            rw [nI_eq (by omega) (by omega)] at c_69
            rw [nI_eq (by omega) (by omega)] at c_79
            exact G_L (by rw [nI_1]) (ih (12 - (t + 1)) (by omega) (t + 1) I2 (df hs (2 ^ t)) (df op (2 ^ ma t)) _ rfl rfl (by omega) (fun x => by
              rw [del_t, hhs]
              exact ⟨fun q => ⟨q.1.1, by omega⟩, fun q => ⟨⟨q.1, by omega⟩, by omega⟩⟩) hdl (Nat.lt_of_le_of_lt (df_le _ _) hon) (fun x hx => hoc x (del_t.mp hx).1) m5 (fun h hh hd' => by
              by_cases e0 : h = t
              · rw [e0]; exact ⟨c_69, c_79⟩
              · exact hno h (by omega) hd') (hs1.tr hs2))
          · refine G_iload_7 (nx := 84) ⟨dX2_firstMate_82, rfl⟩ ?_
            refine G_iret ⟨dX2_firstMate_84, rfl⟩ rfl ?_
            rw [nI_eq (by omega) (by omega)] at c_69
            rw [nI_eq (by omega) (by omega)] at c_79
            refine hk1 I2 _ (fun h1 => ?_) (fun h h1 h2 => ?_) (fun _ h2 => absurd c_79 (h2 t c_22)) (hs1.tr hs2)
            · have := (hinj.1 t c_22).1
              rw [c_79, hdis p h1] at this
              cases this
            · rw [hinj.2 h t h1 c_22 (by rw [h2, c_79])]
        · refine G_iload_8 (nx := 74) ⟨dX2_firstMate_72, rfl⟩ ?_
          refine G_iret ⟨dX2_firstMate_74, rfl⟩ rfl ?_
          rw [nI_eq (by omega) (by omega)] at c_69
          rw [c_69] at c_22 hmn ⊢
          refine hk1 I2 _ (fun _ => rfl) (fun h h1 h2 => ?_) (fun h1 => by rw [c_22] at h1; cases h1) (hs1.tr hs2)
          have := (hinj.1 h h1).1
          rw [h2, hdis p c_22] at this
          cases this
      · exact absurd (by rw [← nI_0, nI_le_iff (by omega) (by omega)]; omega) c_59
    · refine G_goto (tgt := 96) ⟨dX2_firstMate_25, rfl⟩ rfl ?_
      refine G_iinc_7 (nx := 99) ⟨dX2_firstMate_96, rfl⟩ ci_1 rfl ?_
      refine G_goto (tgt := 9) ⟨dX2_firstMate_99, rfl⟩ rfl ?_
      rw [bi_0] at c_22
      exact G_L (by rw [nI_1]) (ih (12 - (t + 1)) (by omega) (t + 1) I1 hs op x8 hx8 rfl (by omega) (fun x => (hhs x).trans ⟨fun q => ⟨q.1, by
        have : ¬ x = t := fun e0 => by rw [e0, c_22] at q; cases q.1
        omega⟩, fun q => ⟨q.1, by omega⟩⟩) hhn hon hoc hLM (fun h hh hd' => by
        by_cases e0 : h = t
        · rw [e0, c_22] at hd'; cases hd'
        · exact hno h (by omega) hd') hs1)

theorem cH_firstMate {o a b c e k : Nat} (hH : HT o a b c e) (hk12 : isA k 12) (hko : k < o) {hd cr p : Nat} {ma : Nat → Nat} (hR : RG I k n gr) (hhd : hd < 2 ^ n) (hcr : cr < 2 ^ n) (hpn : p < n) (hdis : ∀ x, hd.testBit x = true → cr.testBit x = false) (hLM : LM gr (pc hd) hd cr ma) (hk1 : ∀ (I' : AI) (r : Int32), (hd.testBit p = true → r = nI (ma p)) → (∀ h, hd.testBit h = true → ma h = p → r = nI h) → (hd.testBit p = false → (∀ h, hd.testBit h = true → ¬ ma h = p) → r = -1) → sb (fMp o) I I' → K (.int r) I' J (rX g)) : G l (d + 4) mX2_firstMate K 0 [.ref o, .ref k, .int (nI hd), .int (nI cr), .int (nI p), UU, UU, UU, UU] [] I J (rX g) := by
  have hp12 := pow12 hR.1
  refine G_iload_2 (nx := 1) ⟨dX2_firstMate_0, rfl⟩ ?_
  refine G_istore_5 (nx := 3) ⟨dX2_firstMate_1, rfl⟩ rfl rfl ?_
  refine G_iload_3 (nx := 4) ⟨dX2_firstMate_3, rfl⟩ ?_
  refine G_istore_6 (nx := 6) ⟨dX2_firstMate_4, rfl⟩ rfl rfl ?_
  refine G_iconst (nx := 7) ⟨dX2_firstMate_6, rfl⟩ ci_0 ?_
  refine G_istore_7 (nx := 9) ⟨dX2_firstMate_7, rfl⟩ rfl rfl ?_
  exact G_L (by rw [← nI_0]) (lH_fm hH hk12 hko hR hhd hcr hpn hdis (LM_ok _ hd cr (by omega) rfl hLM) hk1 _ 0 I hd cr UU rfl rfl (by omega) (fun x => ⟨fun h => ⟨h, Nat.zero_le _⟩, fun h => h.1⟩) hhd hcr (fun _ h => h) hLM (fun h hh => absurd hh (by omega)) sb.rf)

end X74
