
abbrev T3 : Type := Int64 × Int64 × Int64
def cbB (s x : T3) : T3 := (s.1 * (x.2.1 - x.2.2 + x.2.2), s.2.1 * (x.1 + (x.2.1 - x.2.2)), s.2.2 * (x.2.1 - x.2.2))
def bnI (_ : Nat) : T3 := (1, 1, 1)
def bnR (J : AJ) (c : Nat) (v : T3) : Prop := J 96 c = v.1 ∧ J 95 c = v.2.1 - v.2.2 ∧ J 99 c = v.2.2
def bnS (J : AJ) (c : Nat) (v : T3) : Prop := J 96 c = v.1 ∧ J 95 c = v.2.1 ∧ J 99 c = v.2.2
section M54
variable {l : Launch} {d : Nat} {K : AK} {I : AI} {J : AJ} {g : Bool} {n : Nat} {gr : Nat → Nat}

theorem lM_bn1 {m i : Nat} {A : Nat → T3} {s0 : T3} (hT0 : MT I m) (hi : i < m) (hgo : ∀ (J' : AJ), bnS J' i (lp (tq (I 91) cbB A i) m s0) → (∀ c, i < c → c < m → bnR J' c (A c)) → G l d mX12_bareOnes K 122 [.ref 75, .int (nI i), .int (nI m)] [] I J' (rX g)) : ∀ (k c : Nat) (J1 : AJ), m - c = k → i < c → c ≤ m → bnS J1 i (lp (tq (I 91) cbB A i) c s0) → (∀ c, i < c → c < m → bnR J1 c (A c)) → G l d mX12_bareOnes K 36 [.ref 75, .int (nI i), .int (nI c)] [] I J1 (rX g) := by
  intro k
  induction k using Nat.strongRecOn with
  | _ k ih =>
  intro c J1 hck hic hcm hri hrc
  have e26 := hT0.1
  have hm60 := hT0.2
  have eci := cl_nI (p := i) (by omega)
  have ecc := cl_nI (p := c) (by omega)
  have hni : ∀ (f : AJ) (k : Nat) (v : Int64) (a : Nat), w2 f k i v a c = f a c := fun f k v a => w2_ne _ _ _ _ (by omega)
  have hi60 := in60 (p := i) (by omega)
  refine G_iload_2 (nx := 37) ⟨dX12_bareOnes_36, rfl⟩ ?_
  refine G_aload_0 (nx := 38) ⟨dX12_bareOnes_37, rfl⟩ ?_
  refine G_geti (nx := 41) (k := 75) ⟨dX12_bareOnes_38, rfl⟩ fX12_165 q_75 yi_12_26 ?_
  rw [e26]
  refine G_icmpge (tgt := 122) (nx := 44) ⟨dX12_bareOnes_41, rfl⟩ rfl (fun c_41 => ?_) (fun c_41 => ?_)
  · rw [nI_le_iff (by omega) (by omega)] at c_41
    have e : c = m := by omega
    subst e
    exact hgo J1 hri hrc
  · rw [nI_le_iff (by omega) (by omega)] at c_41
    have hcl : c < m := by omega
    have hc60 := in60 (p := c) (by omega)
    refine G_aload_0 (nx := 45) ⟨dX12_bareOnes_44, rfl⟩ ?_
    refine G_getr (nx := 48) (k := 75) (r := 91) ⟨dX12_bareOnes_45, rfl⟩ fX12_59 q_75 yr_12_29 (r_75_29 _) ?_
    refine G_iload_2 (nx := 49) ⟨dX12_bareOnes_48, rfl⟩ ?_
    refine G_iald (nx := 50) (k := 91) ⟨dX12_bareOnes_49, rfl⟩ q_91 (by first | assumption | decide | (unfold vp_in; decide)) ?_
    rw [ecc]
    refine G_iload_1 (nx := 51) ⟨dX12_bareOnes_50, rfl⟩ ?_
    refine G_icmpeq (tgt := 57) (nx := 54) ⟨dX12_bareOnes_51, rfl⟩ rfl (fun c_51 => ?_) (fun c_51 => ?_)
    · refine G_aload_0 (nx := 58) ⟨dX12_bareOnes_57, rfl⟩ ?_
      refine G_getr (nx := 61) (k := 75) (r := 96) ⟨dX12_bareOnes_58, rfl⟩ fX12_75 q_75 yr_12_35 (r_75_35 _) ?_
      refine G_iload_1 (nx := 62) ⟨dX12_bareOnes_61, rfl⟩ ?_
      refine G_dup2 (nx := 63) ⟨dX12_bareOnes_62, rfl⟩ rfl rfl ?_
      refine G_lald (nx := 64) (k := 96) ⟨dX12_bareOnes_63, rfl⟩ q_96 (by first | assumption | decide | (unfold vp_in; decide)) ?_
      refine G_aload_0 (nx := 65) ⟨dX12_bareOnes_64, rfl⟩ ?_
      refine G_getr (nx := 68) (k := 75) (r := 95) ⟨dX12_bareOnes_65, rfl⟩ fX12_71 q_75 yr_12_34 (r_75_34 _) ?_
      refine G_iload_2 (nx := 69) ⟨dX12_bareOnes_68, rfl⟩ ?_
      refine G_lald (nx := 70) (k := 95) ⟨dX12_bareOnes_69, rfl⟩ q_95 (by first | assumption | decide | (unfold vp_in; decide)) ?_
      refine G_aload_0 (nx := 71) ⟨dX12_bareOnes_70, rfl⟩ ?_
      refine G_getr (nx := 74) (k := 75) (r := 99) ⟨dX12_bareOnes_71, rfl⟩ fX12_84 q_75 yr_12_38 (r_75_38 _) ?_
      refine G_iload_2 (nx := 75) ⟨dX12_bareOnes_74, rfl⟩ ?_
      refine G_lald (nx := 76) (k := 99) ⟨dX12_bareOnes_75, rfl⟩ q_99 (by first | assumption | decide | (unfold vp_in; decide)) ?_
      refine G_ladd (nx := 77) ⟨dX12_bareOnes_76, rfl⟩ ?_
      refine G_lmul (nx := 78) ⟨dX12_bareOnes_77, rfl⟩ ?_
      refine G_last (nx := 79) (k := 96) ⟨dX12_bareOnes_78, rfl⟩ q_96 (by first | assumption | decide | (unfold vp_in; decide)) ?_
      refine G_aload_0 (nx := 80) ⟨dX12_bareOnes_79, rfl⟩ ?_
      refine G_getr (nx := 83) (k := 75) (r := 95) ⟨dX12_bareOnes_80, rfl⟩ fX12_71 q_75 yr_12_34 (r_75_34 _) ?_
      refine G_iload_1 (nx := 84) ⟨dX12_bareOnes_83, rfl⟩ ?_
      refine G_dup2 (nx := 85) ⟨dX12_bareOnes_84, rfl⟩ rfl rfl ?_
      refine G_lald (nx := 86) (k := 95) ⟨dX12_bareOnes_85, rfl⟩ q_95 (by first | assumption | decide | (unfold vp_in; decide)) ?_
      refine G_aload_0 (nx := 87) ⟨dX12_bareOnes_86, rfl⟩ ?_
      refine G_getr (nx := 90) (k := 75) (r := 96) ⟨dX12_bareOnes_87, rfl⟩ fX12_75 q_75 yr_12_35 (r_75_35 _) ?_
      refine G_iload_2 (nx := 91) ⟨dX12_bareOnes_90, rfl⟩ ?_
      refine G_lald (nx := 92) (k := 96) ⟨dX12_bareOnes_91, rfl⟩ q_96 (by first | assumption | decide | (unfold vp_in; decide)) ?_
      refine G_aload_0 (nx := 93) ⟨dX12_bareOnes_92, rfl⟩ ?_
      refine G_getr (nx := 96) (k := 75) (r := 95) ⟨dX12_bareOnes_93, rfl⟩ fX12_71 q_75 yr_12_34 (r_75_34 _) ?_
      refine G_iload_2 (nx := 97) ⟨dX12_bareOnes_96, rfl⟩ ?_
      refine G_lald (nx := 98) (k := 95) ⟨dX12_bareOnes_97, rfl⟩ q_95 (by first | assumption | decide | (unfold vp_in; decide)) ?_
      refine G_ladd (nx := 99) ⟨dX12_bareOnes_98, rfl⟩ ?_
      refine G_lmul (nx := 100) ⟨dX12_bareOnes_99, rfl⟩ ?_
      refine G_last (nx := 101) (k := 95) ⟨dX12_bareOnes_100, rfl⟩ q_95 (by first | assumption | decide | (unfold vp_in; decide)) ?_
      refine G_aload_0 (nx := 102) ⟨dX12_bareOnes_101, rfl⟩ ?_
      refine G_getr (nx := 105) (k := 75) (r := 99) ⟨dX12_bareOnes_102, rfl⟩ fX12_84 q_75 yr_12_38 (r_75_38 _) ?_
      refine G_iload_1 (nx := 106) ⟨dX12_bareOnes_105, rfl⟩ ?_
      refine G_dup2 (nx := 107) ⟨dX12_bareOnes_106, rfl⟩ rfl rfl ?_
      refine G_lald (nx := 108) (k := 99) ⟨dX12_bareOnes_107, rfl⟩ q_99 (by first | assumption | decide | (unfold vp_in; decide)) ?_
      refine G_aload_0 (nx := 109) ⟨dX12_bareOnes_108, rfl⟩ ?_
      refine G_getr (nx := 112) (k := 75) (r := 95) ⟨dX12_bareOnes_109, rfl⟩ fX12_71 q_75 yr_12_34 (r_75_34 _) ?_
      refine G_iload_2 (nx := 113) ⟨dX12_bareOnes_112, rfl⟩ ?_
      refine G_lald (nx := 114) (k := 95) ⟨dX12_bareOnes_113, rfl⟩ q_95 (by first | assumption | decide | (unfold vp_in; decide)) ?_
      refine G_lmul (nx := 115) ⟨dX12_bareOnes_114, rfl⟩ ?_
      refine G_last (nx := 116) (k := 99) ⟨dX12_bareOnes_115, rfl⟩ q_99 (by first | assumption | decide | (unfold vp_in; decide)) ?_
      refine G_iinc_2 (nx := 119) ⟨dX12_bareOnes_116, rfl⟩ ci_1 rfl ?_
      refine G_goto (tgt := 36) ⟨dX12_bareOnes_119, rfl⟩ rfl ?_
      obtain ⟨h1, h2, h3⟩ := hri
      obtain ⟨g1, g2, g3⟩ := hrc c hic (by omega)
      have est : lp (tq (I 91) cbB A i) (c + 1) s0 = cbB (lp (tq (I 91) cbB A i) c s0) (A c) := by rw [lp_s, tq, if_pos ⟨hic, c_51⟩]
      refine G_L (by rw [nI_1]) (ih (m - (c + 1)) (by omega) (c + 1) _ rfl (by omega) (by omega) ?_ (fun x hx hxm => ?_))
      · rw [est]
        refine ⟨?_, ?_, ?_⟩ <;> (simp only [eci, ecc, hni, w2_at, w2_row _ _ _ _ (show ¬ 95 = 96 by decide), w2_row _ _ _ _ (show ¬ 95 = 99 by decide), w2_row _ _ _ _ (show ¬ 96 = 95 by decide), w2_row _ _ _ _ (show ¬ 96 = 99 by decide), w2_row _ _ _ _ (show ¬ 99 = 95 by decide), w2_row _ _ _ _ (show ¬ 99 = 96 by decide)]; simp only [h1, h2, h3, g1, g2, g3, cbB])
      · have hnx : ∀ (f : AJ) (k : Nat) (v : Int64) (a : Nat), w2 f k i v a x = f a x := fun f k v a => w2_ne _ _ _ _ (by omega)
        unfold bnR
        simp only [eci, hnx]
        exact hrc x hx hxm
    · refine G_goto (tgt := 116) ⟨dX12_bareOnes_54, rfl⟩ rfl ?_
      refine G_iinc_2 (nx := 119) ⟨dX12_bareOnes_116, rfl⟩ ci_1 rfl ?_
      refine G_goto (tgt := 36) ⟨dX12_bareOnes_119, rfl⟩ rfl ?_
      have est : lp (tq (I 91) cbB A i) (c + 1) s0 = lp (tq (I 91) cbB A i) c s0 := by rw [lp_s, tq, if_neg (fun h => c_51 h.2)]
      exact G_L (by rw [nI_1]) (ih (m - (c + 1)) (by omega) (c + 1) J1 rfl (by omega) (by omega) (by rw [est]; exact hri) hrc)

theorem lM_bn2 {m : Nat} (hT0 : MT I m) (hm0 : 0 < m) (hk : ∀ (J' : AJ), K (.long ((tN (I 91) cbB bnI m m 0).1 + ((tN (I 91) cbB bnI m m 0).2.1 - (tN (I 91) cbB bnI m m 0).2.2))) I J' (rX g)) : ∀ (t : Nat) (J1 : AJ) (x2 : Value), notL x2 = true → t ≤ m → (∀ c, t ≤ c → c < m → bnR J1 c (tN (I 91) cbB bnI m (m - t) c)) → G l d mX12_bareOnes K 7 [.ref 75, .int (nI t - 1), x2] [] I J1 (rX g) := by
  have e26 := hT0.1
  have hm60 := hT0.2
  intro t
  induction t with
  | zero =>
    intro J1 x2 hx2 htm hr
    obtain ⟨q1, q2, q3⟩ := hr 0 (by omega) hm0
    rw [Nat.sub_zero] at q1 q2 q3
    have ec0 : (0 : Int32).toNatClampNeg = 0 := by decide
    refine G_iload_1 (nx := 8) ⟨dX12_bareOnes_7, rfl⟩ ?_
    rw [nI_0]
    refine G_iflt (tgt := 143) (nx := 11) ⟨dX12_bareOnes_8, rfl⟩ rfl (fun c_8 => ?_) (fun c_8 => ?_)
    · refine G_aload_0 (nx := 144) ⟨dX12_bareOnes_143, rfl⟩ ?_
      refine G_getr (nx := 147) (k := 75) (r := 96) ⟨dX12_bareOnes_144, rfl⟩ fX12_75 q_75 yr_12_35 (r_75_35 _) ?_
      refine G_iconst (nx := 148) ⟨dX12_bareOnes_147, rfl⟩ ci_0 ?_
      refine G_lald (nx := 149) (k := 96) ⟨dX12_bareOnes_148, rfl⟩ q_96 (by first | assumption | decide | (unfold vp_in; decide)) ?_
      refine G_aload_0 (nx := 150) ⟨dX12_bareOnes_149, rfl⟩ ?_
      refine G_getr (nx := 153) (k := 75) (r := 95) ⟨dX12_bareOnes_150, rfl⟩ fX12_71 q_75 yr_12_34 (r_75_34 _) ?_
      refine G_iconst (nx := 154) ⟨dX12_bareOnes_153, rfl⟩ ci_0 ?_
      refine G_lald (nx := 155) (k := 95) ⟨dX12_bareOnes_154, rfl⟩ q_95 (by first | assumption | decide | (unfold vp_in; decide)) ?_
      refine G_ladd (nx := 156) ⟨dX12_bareOnes_155, rfl⟩ ?_
      refine G_lret ⟨dX12_bareOnes_156, rfl⟩ rfl ?_
      rw [ec0, q1, q2]
      exact hk J1
    · exact absurd (by decide) c_8

  | succ i ih =>
    intro J1 x2 hx2 htm hr
    have e1 : nI (i + 1) - 1 = nI i := nI_pred i
    have eci := cl_nI (p := i) (by omega)
    have hi60 := in60 (p := i) (by omega)
    have eT : m - i = (m - (i + 1)) + 1 := by omega
    have eI : m - 1 - (m - (i + 1)) = i := by omega
    refine G_L (by rw [e1]) ?_
    refine G_iload_1 (nx := 8) ⟨dX12_bareOnes_7, rfl⟩ ?_
    
    refine G_iflt (tgt := 143) (nx := 11) ⟨dX12_bareOnes_8, rfl⟩ rfl (fun c_8 => ?_) (fun c_8 => ?_)
    · (rw [← nI_0, nI_lt_iff (by omega) (by omega)] at c_8; omega)
    · refine G_aload_0 (nx := 12) ⟨dX12_bareOnes_11, rfl⟩ ?_
      refine G_getr (nx := 15) (k := 75) (r := 96) ⟨dX12_bareOnes_12, rfl⟩ fX12_75 q_75 yr_12_35 (r_75_35 _) ?_
      refine G_iload_1 (nx := 16) ⟨dX12_bareOnes_15, rfl⟩ ?_
      refine G_lconst (nx := 17) (v := 1) ⟨dX12_bareOnes_16, rfl⟩ (by decide) ?_
      refine G_last (nx := 18) (k := 96) ⟨dX12_bareOnes_17, rfl⟩ q_96 (by first | assumption | decide | (unfold vp_in; decide)) ?_
      refine G_aload_0 (nx := 19) ⟨dX12_bareOnes_18, rfl⟩ ?_
      refine G_getr (nx := 22) (k := 75) (r := 95) ⟨dX12_bareOnes_19, rfl⟩ fX12_71 q_75 yr_12_34 (r_75_34 _) ?_
      refine G_iload_1 (nx := 23) ⟨dX12_bareOnes_22, rfl⟩ ?_
      refine G_lconst (nx := 24) (v := 1) ⟨dX12_bareOnes_23, rfl⟩ (by decide) ?_
      refine G_last (nx := 25) (k := 95) ⟨dX12_bareOnes_24, rfl⟩ q_95 (by first | assumption | decide | (unfold vp_in; decide)) ?_
      refine G_aload_0 (nx := 26) ⟨dX12_bareOnes_25, rfl⟩ ?_
      refine G_getr (nx := 29) (k := 75) (r := 99) ⟨dX12_bareOnes_26, rfl⟩ fX12_84 q_75 yr_12_38 (r_75_38 _) ?_
      refine G_iload_1 (nx := 30) ⟨dX12_bareOnes_29, rfl⟩ ?_
      refine G_lconst (nx := 31) (v := 1) ⟨dX12_bareOnes_30, rfl⟩ (by decide) ?_
      refine G_last (nx := 32) (k := 99) ⟨dX12_bareOnes_31, rfl⟩ q_99 (by first | assumption | decide | (unfold vp_in; decide)) ?_
      refine G_iload_1 (nx := 33) ⟨dX12_bareOnes_32, rfl⟩ ?_
      refine G_iconst (nx := 34) ⟨dX12_bareOnes_33, rfl⟩ ci_1 ?_
      refine G_iadd (nx := 35) ⟨dX12_bareOnes_34, rfl⟩ ?_
      refine G_istore_2 (nx := 36) ⟨dX12_bareOnes_35, rfl⟩ rfl rfl ?_
      rw [nI_1]
      refine lM_bn1 (d := d) (A := tN (I 91) cbB bnI m (m - (i + 1))) (s0 := bnI i) hT0 (by omega) (fun J2 h1 h2 => ?_) _ (i + 1) _ rfl (by omega) (by omega) ?_ ?_
      rotate_left
      · rw [tq_le _ _ _ _ _ (Nat.le_refl _)]
        refine ⟨?_, ?_, ?_⟩ <;> (simp only [eci, w2_at, w2_row _ _ _ _ (show ¬ 95 = 96 by decide), w2_row _ _ _ _ (show ¬ 95 = 99 by decide), w2_row _ _ _ _ (show ¬ 96 = 95 by decide), w2_row _ _ _ _ (show ¬ 96 = 99 by decide), w2_row _ _ _ _ (show ¬ 99 = 95 by decide), w2_row _ _ _ _ (show ¬ 99 = 96 by decide)]; try rfl)
      · intro c h1 h2
        have hnx : ∀ (f : AJ) (k : Nat) (v : Int64) (a : Nat), w2 f k i v a c = f a c := fun f k v a => w2_ne _ _ _ _ (by omega)
        unfold bnR
        simp only [eci, hnx]
        exact hr c (by omega) h2
      refine G_aload_0 (nx := 123) ⟨dX12_bareOnes_122, rfl⟩ ?_
      refine G_getr (nx := 126) (k := 75) (r := 95) ⟨dX12_bareOnes_123, rfl⟩ fX12_71 q_75 yr_12_34 (r_75_34 _) ?_
      refine G_iload_1 (nx := 127) ⟨dX12_bareOnes_126, rfl⟩ ?_
      refine G_dup2 (nx := 128) ⟨dX12_bareOnes_127, rfl⟩ rfl rfl ?_
      refine G_lald (nx := 129) (k := 95) ⟨dX12_bareOnes_128, rfl⟩ q_95 (by first | assumption | decide | (unfold vp_in; decide)) ?_
      refine G_aload_0 (nx := 130) ⟨dX12_bareOnes_129, rfl⟩ ?_
      refine G_getr (nx := 133) (k := 75) (r := 99) ⟨dX12_bareOnes_130, rfl⟩ fX12_84 q_75 yr_12_38 (r_75_38 _) ?_
      refine G_iload_1 (nx := 134) ⟨dX12_bareOnes_133, rfl⟩ ?_
      refine G_lald (nx := 135) (k := 99) ⟨dX12_bareOnes_134, rfl⟩ q_99 (by first | assumption | decide | (unfold vp_in; decide)) ?_
      refine G_lsub (nx := 136) ⟨dX12_bareOnes_135, rfl⟩ ?_
      refine G_last (nx := 137) (k := 95) ⟨dX12_bareOnes_136, rfl⟩ q_95 (by first | assumption | decide | (unfold vp_in; decide)) ?_
      refine G_iinc_1 (nx := 140) ⟨dX12_bareOnes_137, rfl⟩ ci_m1 rfl ?_
      refine G_goto (tgt := 7) ⟨dX12_bareOnes_140, rfl⟩ rfl ?_
      obtain ⟨s1, s2, s3⟩ := h1
      refine G_L (by rw [show nI i + (-1) = nI i - 1 by rw [Int32.sub_eq_add_neg]]) (ih _ (.int (nI m)) rfl (by omega) (fun c hc1 hc2 => ?_))
      rw [eT]
      show bnR _ c (if c = m - 1 - (m - (i + 1)) then _ else _)
      rw [eI]
      by_cases e : c = i
      · rw [if_pos e, e]
        exact ⟨by rw [w2_row _ _ _ _ (show ¬ 96 = 95 by decide)]; exact s1, by simp only [eci, w2_at]; rw [s2, s3], by rw [w2_row _ _ _ _ (show ¬ 99 = 95 by decide)]; exact s3⟩
      · rw [if_neg e]
        have hnx : ∀ (f : AJ) (k : Nat) (v : Int64) (a : Nat), w2 f k i v a c = f a c := fun f k v a => w2_ne _ _ _ _ (by omega)
        unfold bnR
        simp only [eci, hnx]
        exact h2 c (by omega) hc2
      

theorem cM_bareOnes {m : Nat} (hT0 : MT I m) (hm0 : 0 < m) (hk : ∀ (J' : AJ), K (.long ((tN (I 91) cbB bnI m m 0).1 + ((tN (I 91) cbB bnI m m 0).2.1 - (tN (I 91) cbB bnI m m 0).2.2))) I J' (rX g)) : G l d mX12_bareOnes K 0 [.ref 75, UU, UU] [] I J (rX g) := by
  have e26 := hT0.1
  refine G_aload_0 (nx := 1) ⟨dX12_bareOnes_0, rfl⟩ ?_
  refine G_geti (nx := 4) (k := 75) ⟨dX12_bareOnes_1, rfl⟩ fX12_165 q_75 yi_12_26 ?_
  rw [e26]
  refine G_iconst (nx := 5) ⟨dX12_bareOnes_4, rfl⟩ ci_1 ?_
  refine G_isub (nx := 6) ⟨dX12_bareOnes_5, rfl⟩ ?_
  refine G_istore_1 (nx := 7) ⟨dX12_bareOnes_6, rfl⟩ rfl rfl ?_
  exact lM_bn2 hT0 hm0 hk m J UU rfl (Nat.le_refl m) (fun c h1 h2 => by omega)

def hwI (q : Int32) : Int32 := if q = 1 then 2 else if q < 3 then 0 else 1
theorem cM_tree {m : Nat} {q : Int32} (hT0 : MT I m) (hk1 : inR q 0 5 = false → K (.long (-2)) I J (rX g)) (hk2 : inR q 0 5 = true → m = 0 → K (.long (-1)) I J (rX g)) (hk5 : ∀ (J' : AJ), 0 < m → q = 5 → K (.long ((tN (I 91) cbB bnI m m 0).1 + ((tN (I 91) cbB bnI m m 0).2.1 - (tN (I 91) cbB bnI m m 0).2.2))) I J' (rX g)) (hk : ∀ (J' : AJ) (how : Int32), 0 < m → inR q 0 5 = true → ¬ q = 5 → how = hwI q → K (.long (trV q (tN (I 91) (cbC how) (ctI how (ciN I m)) m m 0))) I J' (rX g)) : G l (d + 3) mX12_tree K 0 [.ref 75, .int q, UU] [] I J (rX g) := by
  have e26 := hT0.1
  have hm60 := hT0.2
  have ec0 : (0 : Int32).toNatClampNeg = 0 := by decide
  refine G_iload_1 (nx := 1) ⟨dX12_tree_0, rfl⟩ ?_
  refine G_iconst (nx := 2) ⟨dX12_tree_1, rfl⟩ ci_0 ?_
  refine G_iconst (nx := 3) ⟨dX12_tree_2, rfl⟩ ci_5 ?_
  refine G_cs3 (nx := 6) ⟨dX12_tree_3, rfl⟩ kX12_125 rfl rfl (Nat.le_of_ble_eq_true rfl) (Nat.le_of_ble_eq_true rfl) (cM_in ?_)
  refine G_ifne (tgt := 13) (nx := 9) ⟨dX12_tree_6, rfl⟩ rfl (fun c_6 => ?_) (fun c_6 => ?_)
  · rw [bi_n0] at c_6
    refine G_aload_0 (nx := 14) ⟨dX12_tree_13, rfl⟩ ?_
    refine G_geti (nx := 17) (k := 75) ⟨dX12_tree_14, rfl⟩ fX12_165 q_75 yi_12_26 ?_
    rw [e26]
    refine G_ifne (tgt := 24) (nx := 20) ⟨dX12_tree_17, rfl⟩ rfl (fun c_17 => ?_) (fun c_17 => ?_)
    · rw [nI_0iff (by omega)] at c_17
      refine G_iload_1 (nx := 25) ⟨dX12_tree_24, rfl⟩ ?_
      refine G_iconst (nx := 26) ⟨dX12_tree_25, rfl⟩ ci_5 ?_
      refine G_icmpne (tgt := 34) (nx := 29) ⟨dX12_tree_26, rfl⟩ rfl (fun c_26 => ?_) (fun c_26 => ?_)
      · refine G_aload_0 (nx := 35) ⟨dX12_tree_34, rfl⟩ ?_
        refine G_iload_1 (nx := 36) ⟨dX12_tree_35, rfl⟩ ?_
        refine G_iconst (nx := 37) ⟨dX12_tree_36, rfl⟩ ci_1 ?_
        refine G_icmpne (tgt := 44) (nx := 40) ⟨dX12_tree_37, rfl⟩ rfl (fun c_37 => ?_) (fun c_37 => ?_)
        · refine G_iload_1 (nx := 45) ⟨dX12_tree_44, rfl⟩ ?_
          refine G_iconst (nx := 46) ⟨dX12_tree_45, rfl⟩ ci_3 ?_
          refine G_icmpge (tgt := 53) (nx := 49) ⟨dX12_tree_46, rfl⟩ rfl (fun c_46 => ?_) (fun c_46 => ?_)
          · refine G_iconst (nx := 54) ⟨dX12_tree_53, rfl⟩ ci_1 ?_
            refine G_cvv1 (nx := 57) ⟨dX12_tree_54, rfl⟩ kX12_322 rfl q_75 rfl (Nat.le_of_ble_eq_true rfl) (Nat.le_of_ble_eq_true rfl) (cM_counts hT0 (fun J1 hr => ?_))
            obtain ⟨q1, q2, q3, q4⟩ := hr 0 (by omega)
            have hhow := (show (1 : Int32) = hwI q by rw [hwI, if_neg c_37, if_neg (fun h => by rw [i32_le] at c_46; rw [i32_lt] at h; omega)])
            refine G_iload_1 (nx := 58) ⟨dX12_tree_57, rfl⟩ ?_
            refine G_iconst (nx := 59) ⟨dX12_tree_58, rfl⟩ ci_1 ?_
            refine G_icmpeq (tgt := 78) (nx := 62) ⟨dX12_tree_59, rfl⟩ rfl (fun c_59 => ?_) (fun c_59 => ?_)
            · refine G_iconst (nx := 79) ⟨dX12_tree_78, rfl⟩ ci_1 ?_
              refine G_goto (tgt := 83) ⟨dX12_tree_79, rfl⟩ rfl ?_
              refine G_istore_2 (nx := 84) ⟨dX12_tree_83, rfl⟩ rfl rfl ?_
              refine G_iload_1 (nx := 85) ⟨dX12_tree_84, rfl⟩ ?_
              refine G_ifeq (tgt := 93) (nx := 88) ⟨dX12_tree_85, rfl⟩ rfl (fun c_85 => ?_) (fun c_85 => ?_)
              · refine G_aload_0 (nx := 94) ⟨dX12_tree_93, rfl⟩ ?_
                refine G_getr (nx := 97) (k := 75) (r := 95) ⟨dX12_tree_94, rfl⟩ fX12_71 q_75 yr_12_34 (r_75_34 _) ?_
                refine G_iconst (nx := 98) ⟨dX12_tree_97, rfl⟩ ci_0 ?_
                refine G_lald (nx := 99) (k := 95) ⟨dX12_tree_98, rfl⟩ q_95 (by first | assumption | decide | (unfold vp_in; decide)) ?_
                refine G_aload_0 (nx := 100) ⟨dX12_tree_99, rfl⟩ ?_
                refine G_getr (nx := 103) (k := 75) (r := 96) ⟨dX12_tree_100, rfl⟩ fX12_75 q_75 yr_12_35 (r_75_35 _) ?_
                refine G_iconst (nx := 104) ⟨dX12_tree_103, rfl⟩ ci_0 ?_
                refine G_lald (nx := 105) (k := 96) ⟨dX12_tree_104, rfl⟩ q_96 (by first | assumption | decide | (unfold vp_in; decide)) ?_
                refine G_lcmp (nx := 106) ⟨dX12_tree_105, rfl⟩ ?_
                refine G_ifge (tgt := 118) (nx := 109) ⟨dX12_tree_106, rfl⟩ rfl (fun c_106 => ?_) (fun c_106 => ?_)
                · refine G_aload_0 (nx := 119) ⟨dX12_tree_118, rfl⟩ ?_
                  refine G_getr (nx := 122) (k := 75) (r := 96) ⟨dX12_tree_119, rfl⟩ fX12_75 q_75 yr_12_35 (r_75_35 _) ?_
                  refine G_iconst (nx := 123) ⟨dX12_tree_122, rfl⟩ ci_0 ?_
                  refine G_lald (nx := 124) (k := 96) ⟨dX12_tree_123, rfl⟩ q_96 (by first | assumption | decide | (unfold vp_in; decide)) ?_
                  refine G_lret ⟨dX12_tree_124, rfl⟩ rfl ?_
                  have fin := hk J1 _ (by omega) c_6 c_26 hhow
                  rw [trV] at fin
                  rw [if_pos (Or.inl c_85)] at fin
                  rw [lg_cmp_ge, ec0, q1, q2] at c_106
                  rw [if_pos c_106] at fin
                  rw [ec0]
                  rw [q2]
                  exact fin
                · refine G_aload_0 (nx := 110) ⟨dX12_tree_109, rfl⟩ ?_
                  refine G_getr (nx := 113) (k := 75) (r := 95) ⟨dX12_tree_110, rfl⟩ fX12_71 q_75 yr_12_34 (r_75_34 _) ?_
                  refine G_iconst (nx := 114) ⟨dX12_tree_113, rfl⟩ ci_0 ?_
                  refine G_lald (nx := 115) (k := 95) ⟨dX12_tree_114, rfl⟩ q_95 (by first | assumption | decide | (unfold vp_in; decide)) ?_
                  refine G_goto (tgt := 124) ⟨dX12_tree_115, rfl⟩ rfl ?_
                  refine G_lret ⟨dX12_tree_124, rfl⟩ rfl ?_
                  have fin := hk J1 _ (by omega) c_6 c_26 hhow
                  rw [trV] at fin
                  rw [if_pos (Or.inl c_85)] at fin
                  rw [lg_cmp_ge, ec0, q1, q2] at c_106
                  rw [if_neg c_106] at fin
                  rw [ec0]
                  rw [q1]
                  exact fin
              · refine G_iload_1 (nx := 89) ⟨dX12_tree_88, rfl⟩ ?_
                refine G_iconst (nx := 90) ⟨dX12_tree_89, rfl⟩ ci_3 ?_
                refine G_icmpne (tgt := 125) (nx := 93) ⟨dX12_tree_90, rfl⟩ rfl (fun c_90 => ?_) (fun c_90 => ?_)
                · refine G_iload_2 (nx := 126) ⟨dX12_tree_125, rfl⟩ ?_
                  refine G_ifeq (tgt := 145) (nx := 129) ⟨dX12_tree_126, rfl⟩ rfl (fun c_126 => ?_) (fun c_126 => ?_)
                  · exact absurd c_126 (by decide)
                  · refine G_aload_0 (nx := 130) ⟨dX12_tree_129, rfl⟩ ?_
                    refine G_getr (nx := 133) (k := 75) (r := 97) ⟨dX12_tree_130, rfl⟩ fX12_78 q_75 yr_12_36 (r_75_36 _) ?_
                    refine G_iconst (nx := 134) ⟨dX12_tree_133, rfl⟩ ci_0 ?_
                    refine G_lald (nx := 135) (k := 97) ⟨dX12_tree_134, rfl⟩ q_97 (by first | assumption | decide | (unfold vp_in; decide)) ?_
                    refine G_aload_0 (nx := 136) ⟨dX12_tree_135, rfl⟩ ?_
                    refine G_getr (nx := 139) (k := 75) (r := 98) ⟨dX12_tree_136, rfl⟩ fX12_81 q_75 yr_12_37 (r_75_37 _) ?_
                    refine G_iconst (nx := 140) ⟨dX12_tree_139, rfl⟩ ci_0 ?_
                    refine G_lald (nx := 141) (k := 98) ⟨dX12_tree_140, rfl⟩ q_98 (by first | assumption | decide | (unfold vp_in; decide)) ?_
                    refine G_ladd (nx := 142) ⟨dX12_tree_141, rfl⟩ ?_
                    refine G_goto (tgt := 176) ⟨dX12_tree_142, rfl⟩ rfl ?_
                    refine G_lret ⟨dX12_tree_176, rfl⟩ rfl ?_
                    have fin := hk J1 _ (by omega) c_6 c_26 hhow
                    rw [trV] at fin
                    rw [if_neg (fun h => h.elim c_85 c_90)] at fin
                    rw [if_pos (Or.inl c_59)] at fin
                    rw [ec0, q3, q4]
                    exact fin
                · refine G_aload_0 (nx := 94) ⟨dX12_tree_93, rfl⟩ ?_
                  refine G_getr (nx := 97) (k := 75) (r := 95) ⟨dX12_tree_94, rfl⟩ fX12_71 q_75 yr_12_34 (r_75_34 _) ?_
                  refine G_iconst (nx := 98) ⟨dX12_tree_97, rfl⟩ ci_0 ?_
                  refine G_lald (nx := 99) (k := 95) ⟨dX12_tree_98, rfl⟩ q_95 (by first | assumption | decide | (unfold vp_in; decide)) ?_
                  refine G_aload_0 (nx := 100) ⟨dX12_tree_99, rfl⟩ ?_
                  refine G_getr (nx := 103) (k := 75) (r := 96) ⟨dX12_tree_100, rfl⟩ fX12_75 q_75 yr_12_35 (r_75_35 _) ?_
                  refine G_iconst (nx := 104) ⟨dX12_tree_103, rfl⟩ ci_0 ?_
                  refine G_lald (nx := 105) (k := 96) ⟨dX12_tree_104, rfl⟩ q_96 (by first | assumption | decide | (unfold vp_in; decide)) ?_
                  refine G_lcmp (nx := 106) ⟨dX12_tree_105, rfl⟩ ?_
                  refine G_ifge (tgt := 118) (nx := 109) ⟨dX12_tree_106, rfl⟩ rfl (fun c_106 => ?_) (fun c_106 => ?_)
                  · refine G_aload_0 (nx := 119) ⟨dX12_tree_118, rfl⟩ ?_
                    refine G_getr (nx := 122) (k := 75) (r := 96) ⟨dX12_tree_119, rfl⟩ fX12_75 q_75 yr_12_35 (r_75_35 _) ?_
                    refine G_iconst (nx := 123) ⟨dX12_tree_122, rfl⟩ ci_0 ?_
                    refine G_lald (nx := 124) (k := 96) ⟨dX12_tree_123, rfl⟩ q_96 (by first | assumption | decide | (unfold vp_in; decide)) ?_
                    refine G_lret ⟨dX12_tree_124, rfl⟩ rfl ?_
                    have fin := hk J1 _ (by omega) c_6 c_26 hhow
                    rw [trV] at fin
                    rw [if_pos (Or.inr c_90)] at fin
                    rw [lg_cmp_ge, ec0, q1, q2] at c_106
                    rw [if_pos c_106] at fin
                    rw [ec0]
                    rw [q2]
                    exact fin
                  · refine G_aload_0 (nx := 110) ⟨dX12_tree_109, rfl⟩ ?_
                    refine G_getr (nx := 113) (k := 75) (r := 95) ⟨dX12_tree_110, rfl⟩ fX12_71 q_75 yr_12_34 (r_75_34 _) ?_
                    refine G_iconst (nx := 114) ⟨dX12_tree_113, rfl⟩ ci_0 ?_
                    refine G_lald (nx := 115) (k := 95) ⟨dX12_tree_114, rfl⟩ q_95 (by first | assumption | decide | (unfold vp_in; decide)) ?_
                    refine G_goto (tgt := 124) ⟨dX12_tree_115, rfl⟩ rfl ?_
                    refine G_lret ⟨dX12_tree_124, rfl⟩ rfl ?_
                    have fin := hk J1 _ (by omega) c_6 c_26 hhow
                    rw [trV] at fin
                    rw [if_pos (Or.inr c_90)] at fin
                    rw [lg_cmp_ge, ec0, q1, q2] at c_106
                    rw [if_neg c_106] at fin
                    rw [ec0]
                    rw [q1]
                    exact fin
            · refine G_aload_0 (nx := 63) ⟨dX12_tree_62, rfl⟩ ?_
              refine G_getr (nx := 66) (k := 75) (r := 95) ⟨dX12_tree_63, rfl⟩ fX12_71 q_75 yr_12_34 (r_75_34 _) ?_
              refine G_iconst (nx := 67) ⟨dX12_tree_66, rfl⟩ ci_0 ?_
              refine G_lald (nx := 68) (k := 95) ⟨dX12_tree_67, rfl⟩ q_95 (by first | assumption | decide | (unfold vp_in; decide)) ?_
              refine G_aload_0 (nx := 69) ⟨dX12_tree_68, rfl⟩ ?_
              refine G_getr (nx := 72) (k := 75) (r := 96) ⟨dX12_tree_69, rfl⟩ fX12_75 q_75 yr_12_35 (r_75_35 _) ?_
              refine G_iconst (nx := 73) ⟨dX12_tree_72, rfl⟩ ci_0 ?_
              refine G_lald (nx := 74) (k := 96) ⟨dX12_tree_73, rfl⟩ q_96 (by first | assumption | decide | (unfold vp_in; decide)) ?_
              refine G_lcmp (nx := 75) ⟨dX12_tree_74, rfl⟩ ?_
              refine G_ifne (tgt := 82) (nx := 78) ⟨dX12_tree_75, rfl⟩ rfl (fun c_75 => ?_) (fun c_75 => ?_)
              · refine G_iconst (nx := 83) ⟨dX12_tree_82, rfl⟩ ci_0 ?_
                refine G_istore_2 (nx := 84) ⟨dX12_tree_83, rfl⟩ rfl rfl ?_
                refine G_iload_1 (nx := 85) ⟨dX12_tree_84, rfl⟩ ?_
                refine G_ifeq (tgt := 93) (nx := 88) ⟨dX12_tree_85, rfl⟩ rfl (fun c_85 => ?_) (fun c_85 => ?_)
                · refine G_aload_0 (nx := 94) ⟨dX12_tree_93, rfl⟩ ?_
                  refine G_getr (nx := 97) (k := 75) (r := 95) ⟨dX12_tree_94, rfl⟩ fX12_71 q_75 yr_12_34 (r_75_34 _) ?_
                  refine G_iconst (nx := 98) ⟨dX12_tree_97, rfl⟩ ci_0 ?_
                  refine G_lald (nx := 99) (k := 95) ⟨dX12_tree_98, rfl⟩ q_95 (by first | assumption | decide | (unfold vp_in; decide)) ?_
                  refine G_aload_0 (nx := 100) ⟨dX12_tree_99, rfl⟩ ?_
                  refine G_getr (nx := 103) (k := 75) (r := 96) ⟨dX12_tree_100, rfl⟩ fX12_75 q_75 yr_12_35 (r_75_35 _) ?_
                  refine G_iconst (nx := 104) ⟨dX12_tree_103, rfl⟩ ci_0 ?_
                  refine G_lald (nx := 105) (k := 96) ⟨dX12_tree_104, rfl⟩ q_96 (by first | assumption | decide | (unfold vp_in; decide)) ?_
                  refine G_lcmp (nx := 106) ⟨dX12_tree_105, rfl⟩ ?_
                  refine G_ifge (tgt := 118) (nx := 109) ⟨dX12_tree_106, rfl⟩ rfl (fun c_106 => ?_) (fun c_106 => ?_)
                  · refine G_aload_0 (nx := 119) ⟨dX12_tree_118, rfl⟩ ?_
                    refine G_getr (nx := 122) (k := 75) (r := 96) ⟨dX12_tree_119, rfl⟩ fX12_75 q_75 yr_12_35 (r_75_35 _) ?_
                    refine G_iconst (nx := 123) ⟨dX12_tree_122, rfl⟩ ci_0 ?_
                    refine G_lald (nx := 124) (k := 96) ⟨dX12_tree_123, rfl⟩ q_96 (by first | assumption | decide | (unfold vp_in; decide)) ?_
                    refine G_lret ⟨dX12_tree_124, rfl⟩ rfl ?_
                    have fin := hk J1 _ (by omega) c_6 c_26 hhow
                    rw [trV] at fin
                    rw [if_pos (Or.inl c_85)] at fin
                    rw [lg_cmp_ge, ec0, q1, q2] at c_106
                    rw [if_pos c_106] at fin
                    rw [ec0]
                    rw [q2]
                    exact fin
                  · refine G_aload_0 (nx := 110) ⟨dX12_tree_109, rfl⟩ ?_
                    refine G_getr (nx := 113) (k := 75) (r := 95) ⟨dX12_tree_110, rfl⟩ fX12_71 q_75 yr_12_34 (r_75_34 _) ?_
                    refine G_iconst (nx := 114) ⟨dX12_tree_113, rfl⟩ ci_0 ?_
                    refine G_lald (nx := 115) (k := 95) ⟨dX12_tree_114, rfl⟩ q_95 (by first | assumption | decide | (unfold vp_in; decide)) ?_
                    refine G_goto (tgt := 124) ⟨dX12_tree_115, rfl⟩ rfl ?_
                    refine G_lret ⟨dX12_tree_124, rfl⟩ rfl ?_
                    have fin := hk J1 _ (by omega) c_6 c_26 hhow
                    rw [trV] at fin
                    rw [if_pos (Or.inl c_85)] at fin
                    rw [lg_cmp_ge, ec0, q1, q2] at c_106
                    rw [if_neg c_106] at fin
                    rw [ec0]
                    rw [q1]
                    exact fin
                · refine G_iload_1 (nx := 89) ⟨dX12_tree_88, rfl⟩ ?_
                  refine G_iconst (nx := 90) ⟨dX12_tree_89, rfl⟩ ci_3 ?_
                  refine G_icmpne (tgt := 125) (nx := 93) ⟨dX12_tree_90, rfl⟩ rfl (fun c_90 => ?_) (fun c_90 => ?_)
                  · refine G_iload_2 (nx := 126) ⟨dX12_tree_125, rfl⟩ ?_
                    refine G_ifeq (tgt := 145) (nx := 129) ⟨dX12_tree_126, rfl⟩ rfl (fun c_126 => ?_) (fun c_126 => ?_)
                    · refine G_aload_0 (nx := 146) ⟨dX12_tree_145, rfl⟩ ?_
                      refine G_getr (nx := 149) (k := 75) (r := 95) ⟨dX12_tree_146, rfl⟩ fX12_71 q_75 yr_12_34 (r_75_34 _) ?_
                      refine G_iconst (nx := 150) ⟨dX12_tree_149, rfl⟩ ci_0 ?_
                      refine G_lald (nx := 151) (k := 95) ⟨dX12_tree_150, rfl⟩ q_95 (by first | assumption | decide | (unfold vp_in; decide)) ?_
                      refine G_aload_0 (nx := 152) ⟨dX12_tree_151, rfl⟩ ?_
                      refine G_getr (nx := 155) (k := 75) (r := 96) ⟨dX12_tree_152, rfl⟩ fX12_75 q_75 yr_12_35 (r_75_35 _) ?_
                      refine G_iconst (nx := 156) ⟨dX12_tree_155, rfl⟩ ci_0 ?_
                      refine G_lald (nx := 157) (k := 96) ⟨dX12_tree_156, rfl⟩ q_96 (by first | assumption | decide | (unfold vp_in; decide)) ?_
                      refine G_lcmp (nx := 158) ⟨dX12_tree_157, rfl⟩ ?_
                      refine G_ifge (tgt := 170) (nx := 161) ⟨dX12_tree_158, rfl⟩ rfl (fun c_158 => ?_) (fun c_158 => ?_)
                      · refine G_aload_0 (nx := 171) ⟨dX12_tree_170, rfl⟩ ?_
                        refine G_getr (nx := 174) (k := 75) (r := 98) ⟨dX12_tree_171, rfl⟩ fX12_81 q_75 yr_12_37 (r_75_37 _) ?_
                        refine G_iconst (nx := 175) ⟨dX12_tree_174, rfl⟩ ci_0 ?_
                        refine G_lald (nx := 176) (k := 98) ⟨dX12_tree_175, rfl⟩ q_98 (by first | assumption | decide | (unfold vp_in; decide)) ?_
                        refine G_lret ⟨dX12_tree_176, rfl⟩ rfl ?_
                        have fin := hk J1 _ (by omega) c_6 c_26 hhow
                        rw [trV] at fin
                        rw [if_neg (fun h => h.elim c_85 c_90)] at fin
                        rw [lg_cmp_eq, ec0, q1, q2] at c_75
                        rw [lg_cmp_ge, ec0, q1, q2] at c_158
                        rw [if_neg (fun h => h.elim c_59 c_75), if_pos c_158] at fin
                        rw [ec0]
                        rw [q4]
                        exact fin
                      · refine G_aload_0 (nx := 162) ⟨dX12_tree_161, rfl⟩ ?_
                        refine G_getr (nx := 165) (k := 75) (r := 97) ⟨dX12_tree_162, rfl⟩ fX12_78 q_75 yr_12_36 (r_75_36 _) ?_
                        refine G_iconst (nx := 166) ⟨dX12_tree_165, rfl⟩ ci_0 ?_
                        refine G_lald (nx := 167) (k := 97) ⟨dX12_tree_166, rfl⟩ q_97 (by first | assumption | decide | (unfold vp_in; decide)) ?_
                        refine G_goto (tgt := 176) ⟨dX12_tree_167, rfl⟩ rfl ?_
                        refine G_lret ⟨dX12_tree_176, rfl⟩ rfl ?_
                        have fin := hk J1 _ (by omega) c_6 c_26 hhow
                        rw [trV] at fin
                        rw [if_neg (fun h => h.elim c_85 c_90)] at fin
                        rw [lg_cmp_eq, ec0, q1, q2] at c_75
                        rw [lg_cmp_ge, ec0, q1, q2] at c_158
                        rw [if_neg (fun h => h.elim c_59 c_75), if_neg c_158] at fin
                        rw [ec0]
                        rw [q3]
                        exact fin
                    · exact absurd rfl c_126
                  · refine G_aload_0 (nx := 94) ⟨dX12_tree_93, rfl⟩ ?_
                    refine G_getr (nx := 97) (k := 75) (r := 95) ⟨dX12_tree_94, rfl⟩ fX12_71 q_75 yr_12_34 (r_75_34 _) ?_
                    refine G_iconst (nx := 98) ⟨dX12_tree_97, rfl⟩ ci_0 ?_
                    refine G_lald (nx := 99) (k := 95) ⟨dX12_tree_98, rfl⟩ q_95 (by first | assumption | decide | (unfold vp_in; decide)) ?_
                    refine G_aload_0 (nx := 100) ⟨dX12_tree_99, rfl⟩ ?_
                    refine G_getr (nx := 103) (k := 75) (r := 96) ⟨dX12_tree_100, rfl⟩ fX12_75 q_75 yr_12_35 (r_75_35 _) ?_
                    refine G_iconst (nx := 104) ⟨dX12_tree_103, rfl⟩ ci_0 ?_
                    refine G_lald (nx := 105) (k := 96) ⟨dX12_tree_104, rfl⟩ q_96 (by first | assumption | decide | (unfold vp_in; decide)) ?_
                    refine G_lcmp (nx := 106) ⟨dX12_tree_105, rfl⟩ ?_
                    refine G_ifge (tgt := 118) (nx := 109) ⟨dX12_tree_106, rfl⟩ rfl (fun c_106 => ?_) (fun c_106 => ?_)
                    · refine G_aload_0 (nx := 119) ⟨dX12_tree_118, rfl⟩ ?_
                      refine G_getr (nx := 122) (k := 75) (r := 96) ⟨dX12_tree_119, rfl⟩ fX12_75 q_75 yr_12_35 (r_75_35 _) ?_
                      refine G_iconst (nx := 123) ⟨dX12_tree_122, rfl⟩ ci_0 ?_
                      refine G_lald (nx := 124) (k := 96) ⟨dX12_tree_123, rfl⟩ q_96 (by first | assumption | decide | (unfold vp_in; decide)) ?_
                      refine G_lret ⟨dX12_tree_124, rfl⟩ rfl ?_
                      have fin := hk J1 _ (by omega) c_6 c_26 hhow
                      rw [trV] at fin
                      rw [if_pos (Or.inr c_90)] at fin
                      rw [lg_cmp_ge, ec0, q1, q2] at c_106
                      rw [if_pos c_106] at fin
                      rw [ec0]
                      rw [q2]
                      exact fin
                    · refine G_aload_0 (nx := 110) ⟨dX12_tree_109, rfl⟩ ?_
                      refine G_getr (nx := 113) (k := 75) (r := 95) ⟨dX12_tree_110, rfl⟩ fX12_71 q_75 yr_12_34 (r_75_34 _) ?_
                      refine G_iconst (nx := 114) ⟨dX12_tree_113, rfl⟩ ci_0 ?_
                      refine G_lald (nx := 115) (k := 95) ⟨dX12_tree_114, rfl⟩ q_95 (by first | assumption | decide | (unfold vp_in; decide)) ?_
                      refine G_goto (tgt := 124) ⟨dX12_tree_115, rfl⟩ rfl ?_
                      refine G_lret ⟨dX12_tree_124, rfl⟩ rfl ?_
                      have fin := hk J1 _ (by omega) c_6 c_26 hhow
                      rw [trV] at fin
                      rw [if_pos (Or.inr c_90)] at fin
                      rw [lg_cmp_ge, ec0, q1, q2] at c_106
                      rw [if_neg c_106] at fin
                      rw [ec0]
                      rw [q1]
                      exact fin
              · refine G_iconst (nx := 79) ⟨dX12_tree_78, rfl⟩ ci_1 ?_
                refine G_goto (tgt := 83) ⟨dX12_tree_79, rfl⟩ rfl ?_
                refine G_istore_2 (nx := 84) ⟨dX12_tree_83, rfl⟩ rfl rfl ?_
                refine G_iload_1 (nx := 85) ⟨dX12_tree_84, rfl⟩ ?_
                refine G_ifeq (tgt := 93) (nx := 88) ⟨dX12_tree_85, rfl⟩ rfl (fun c_85 => ?_) (fun c_85 => ?_)
                · refine G_aload_0 (nx := 94) ⟨dX12_tree_93, rfl⟩ ?_
                  refine G_getr (nx := 97) (k := 75) (r := 95) ⟨dX12_tree_94, rfl⟩ fX12_71 q_75 yr_12_34 (r_75_34 _) ?_
                  refine G_iconst (nx := 98) ⟨dX12_tree_97, rfl⟩ ci_0 ?_
                  refine G_lald (nx := 99) (k := 95) ⟨dX12_tree_98, rfl⟩ q_95 (by first | assumption | decide | (unfold vp_in; decide)) ?_
                  refine G_aload_0 (nx := 100) ⟨dX12_tree_99, rfl⟩ ?_
                  refine G_getr (nx := 103) (k := 75) (r := 96) ⟨dX12_tree_100, rfl⟩ fX12_75 q_75 yr_12_35 (r_75_35 _) ?_
                  refine G_iconst (nx := 104) ⟨dX12_tree_103, rfl⟩ ci_0 ?_
                  refine G_lald (nx := 105) (k := 96) ⟨dX12_tree_104, rfl⟩ q_96 (by first | assumption | decide | (unfold vp_in; decide)) ?_
                  refine G_lcmp (nx := 106) ⟨dX12_tree_105, rfl⟩ ?_
                  refine G_ifge (tgt := 118) (nx := 109) ⟨dX12_tree_106, rfl⟩ rfl (fun c_106 => ?_) (fun c_106 => ?_)
                  · refine G_aload_0 (nx := 119) ⟨dX12_tree_118, rfl⟩ ?_
                    refine G_getr (nx := 122) (k := 75) (r := 96) ⟨dX12_tree_119, rfl⟩ fX12_75 q_75 yr_12_35 (r_75_35 _) ?_
                    refine G_iconst (nx := 123) ⟨dX12_tree_122, rfl⟩ ci_0 ?_
                    refine G_lald (nx := 124) (k := 96) ⟨dX12_tree_123, rfl⟩ q_96 (by first | assumption | decide | (unfold vp_in; decide)) ?_
                    refine G_lret ⟨dX12_tree_124, rfl⟩ rfl ?_
                    have fin := hk J1 _ (by omega) c_6 c_26 hhow
                    rw [trV] at fin
                    rw [if_pos (Or.inl c_85)] at fin
                    rw [lg_cmp_ge, ec0, q1, q2] at c_106
                    rw [if_pos c_106] at fin
                    rw [ec0]
                    rw [q2]
                    exact fin
                  · refine G_aload_0 (nx := 110) ⟨dX12_tree_109, rfl⟩ ?_
                    refine G_getr (nx := 113) (k := 75) (r := 95) ⟨dX12_tree_110, rfl⟩ fX12_71 q_75 yr_12_34 (r_75_34 _) ?_
                    refine G_iconst (nx := 114) ⟨dX12_tree_113, rfl⟩ ci_0 ?_
                    refine G_lald (nx := 115) (k := 95) ⟨dX12_tree_114, rfl⟩ q_95 (by first | assumption | decide | (unfold vp_in; decide)) ?_
                    refine G_goto (tgt := 124) ⟨dX12_tree_115, rfl⟩ rfl ?_
                    refine G_lret ⟨dX12_tree_124, rfl⟩ rfl ?_
                    have fin := hk J1 _ (by omega) c_6 c_26 hhow
                    rw [trV] at fin
                    rw [if_pos (Or.inl c_85)] at fin
                    rw [lg_cmp_ge, ec0, q1, q2] at c_106
                    rw [if_neg c_106] at fin
                    rw [ec0]
                    rw [q1]
                    exact fin
                · refine G_iload_1 (nx := 89) ⟨dX12_tree_88, rfl⟩ ?_
                  refine G_iconst (nx := 90) ⟨dX12_tree_89, rfl⟩ ci_3 ?_
                  refine G_icmpne (tgt := 125) (nx := 93) ⟨dX12_tree_90, rfl⟩ rfl (fun c_90 => ?_) (fun c_90 => ?_)
                  · refine G_iload_2 (nx := 126) ⟨dX12_tree_125, rfl⟩ ?_
                    refine G_ifeq (tgt := 145) (nx := 129) ⟨dX12_tree_126, rfl⟩ rfl (fun c_126 => ?_) (fun c_126 => ?_)
                    · exact absurd c_126 (by decide)
                    · refine G_aload_0 (nx := 130) ⟨dX12_tree_129, rfl⟩ ?_
                      refine G_getr (nx := 133) (k := 75) (r := 97) ⟨dX12_tree_130, rfl⟩ fX12_78 q_75 yr_12_36 (r_75_36 _) ?_
                      refine G_iconst (nx := 134) ⟨dX12_tree_133, rfl⟩ ci_0 ?_
                      refine G_lald (nx := 135) (k := 97) ⟨dX12_tree_134, rfl⟩ q_97 (by first | assumption | decide | (unfold vp_in; decide)) ?_
                      refine G_aload_0 (nx := 136) ⟨dX12_tree_135, rfl⟩ ?_
                      refine G_getr (nx := 139) (k := 75) (r := 98) ⟨dX12_tree_136, rfl⟩ fX12_81 q_75 yr_12_37 (r_75_37 _) ?_
                      refine G_iconst (nx := 140) ⟨dX12_tree_139, rfl⟩ ci_0 ?_
                      refine G_lald (nx := 141) (k := 98) ⟨dX12_tree_140, rfl⟩ q_98 (by first | assumption | decide | (unfold vp_in; decide)) ?_
                      refine G_ladd (nx := 142) ⟨dX12_tree_141, rfl⟩ ?_
                      refine G_goto (tgt := 176) ⟨dX12_tree_142, rfl⟩ rfl ?_
                      refine G_lret ⟨dX12_tree_176, rfl⟩ rfl ?_
                      have fin := hk J1 _ (by omega) c_6 c_26 hhow
                      rw [trV] at fin
                      rw [if_neg (fun h => h.elim c_85 c_90)] at fin
                      rw [lg_cmp_eq, ec0, q1, q2] at c_75
                      rw [if_pos (Or.inr c_75)] at fin
                      rw [ec0, q3, q4]
                      exact fin
                  · refine G_aload_0 (nx := 94) ⟨dX12_tree_93, rfl⟩ ?_
                    refine G_getr (nx := 97) (k := 75) (r := 95) ⟨dX12_tree_94, rfl⟩ fX12_71 q_75 yr_12_34 (r_75_34 _) ?_
                    refine G_iconst (nx := 98) ⟨dX12_tree_97, rfl⟩ ci_0 ?_
                    refine G_lald (nx := 99) (k := 95) ⟨dX12_tree_98, rfl⟩ q_95 (by first | assumption | decide | (unfold vp_in; decide)) ?_
                    refine G_aload_0 (nx := 100) ⟨dX12_tree_99, rfl⟩ ?_
                    refine G_getr (nx := 103) (k := 75) (r := 96) ⟨dX12_tree_100, rfl⟩ fX12_75 q_75 yr_12_35 (r_75_35 _) ?_
                    refine G_iconst (nx := 104) ⟨dX12_tree_103, rfl⟩ ci_0 ?_
                    refine G_lald (nx := 105) (k := 96) ⟨dX12_tree_104, rfl⟩ q_96 (by first | assumption | decide | (unfold vp_in; decide)) ?_
                    refine G_lcmp (nx := 106) ⟨dX12_tree_105, rfl⟩ ?_
                    refine G_ifge (tgt := 118) (nx := 109) ⟨dX12_tree_106, rfl⟩ rfl (fun c_106 => ?_) (fun c_106 => ?_)
                    · refine G_aload_0 (nx := 119) ⟨dX12_tree_118, rfl⟩ ?_
                      refine G_getr (nx := 122) (k := 75) (r := 96) ⟨dX12_tree_119, rfl⟩ fX12_75 q_75 yr_12_35 (r_75_35 _) ?_
                      refine G_iconst (nx := 123) ⟨dX12_tree_122, rfl⟩ ci_0 ?_
                      refine G_lald (nx := 124) (k := 96) ⟨dX12_tree_123, rfl⟩ q_96 (by first | assumption | decide | (unfold vp_in; decide)) ?_
                      refine G_lret ⟨dX12_tree_124, rfl⟩ rfl ?_
                      have fin := hk J1 _ (by omega) c_6 c_26 hhow
                      rw [trV] at fin
                      rw [if_pos (Or.inr c_90)] at fin
                      rw [lg_cmp_ge, ec0, q1, q2] at c_106
                      rw [if_pos c_106] at fin
                      rw [ec0]
                      rw [q2]
                      exact fin
                    · refine G_aload_0 (nx := 110) ⟨dX12_tree_109, rfl⟩ ?_
                      refine G_getr (nx := 113) (k := 75) (r := 95) ⟨dX12_tree_110, rfl⟩ fX12_71 q_75 yr_12_34 (r_75_34 _) ?_
                      refine G_iconst (nx := 114) ⟨dX12_tree_113, rfl⟩ ci_0 ?_
                      refine G_lald (nx := 115) (k := 95) ⟨dX12_tree_114, rfl⟩ q_95 (by first | assumption | decide | (unfold vp_in; decide)) ?_
                      refine G_goto (tgt := 124) ⟨dX12_tree_115, rfl⟩ rfl ?_
                      refine G_lret ⟨dX12_tree_124, rfl⟩ rfl ?_
                      have fin := hk J1 _ (by omega) c_6 c_26 hhow
                      rw [trV] at fin
                      rw [if_pos (Or.inr c_90)] at fin
                      rw [lg_cmp_ge, ec0, q1, q2] at c_106
                      rw [if_neg c_106] at fin
                      rw [ec0]
                      rw [q1]
                      exact fin
            
          · refine G_iconst (nx := 50) ⟨dX12_tree_49, rfl⟩ ci_0 ?_
            refine G_goto (tgt := 54) ⟨dX12_tree_50, rfl⟩ rfl ?_
            refine G_cvv1 (nx := 57) ⟨dX12_tree_54, rfl⟩ kX12_322 rfl q_75 rfl (Nat.le_of_ble_eq_true rfl) (Nat.le_of_ble_eq_true rfl) (cM_counts hT0 (fun J1 hr => ?_))
            obtain ⟨q1, q2, q3, q4⟩ := hr 0 (by omega)
            have hhow := (show (0 : Int32) = hwI q by rw [hwI, if_neg c_37, if_pos (by rw [i32_le] at c_46; rw [i32_lt]; omega)])
            refine G_iload_1 (nx := 58) ⟨dX12_tree_57, rfl⟩ ?_
            refine G_iconst (nx := 59) ⟨dX12_tree_58, rfl⟩ ci_1 ?_
            refine G_icmpeq (tgt := 78) (nx := 62) ⟨dX12_tree_59, rfl⟩ rfl (fun c_59 => ?_) (fun c_59 => ?_)
            · refine G_iconst (nx := 79) ⟨dX12_tree_78, rfl⟩ ci_1 ?_
              refine G_goto (tgt := 83) ⟨dX12_tree_79, rfl⟩ rfl ?_
              refine G_istore_2 (nx := 84) ⟨dX12_tree_83, rfl⟩ rfl rfl ?_
              refine G_iload_1 (nx := 85) ⟨dX12_tree_84, rfl⟩ ?_
              refine G_ifeq (tgt := 93) (nx := 88) ⟨dX12_tree_85, rfl⟩ rfl (fun c_85 => ?_) (fun c_85 => ?_)
              · refine G_aload_0 (nx := 94) ⟨dX12_tree_93, rfl⟩ ?_
                refine G_getr (nx := 97) (k := 75) (r := 95) ⟨dX12_tree_94, rfl⟩ fX12_71 q_75 yr_12_34 (r_75_34 _) ?_
                refine G_iconst (nx := 98) ⟨dX12_tree_97, rfl⟩ ci_0 ?_
                refine G_lald (nx := 99) (k := 95) ⟨dX12_tree_98, rfl⟩ q_95 (by first | assumption | decide | (unfold vp_in; decide)) ?_
                refine G_aload_0 (nx := 100) ⟨dX12_tree_99, rfl⟩ ?_
                refine G_getr (nx := 103) (k := 75) (r := 96) ⟨dX12_tree_100, rfl⟩ fX12_75 q_75 yr_12_35 (r_75_35 _) ?_
                refine G_iconst (nx := 104) ⟨dX12_tree_103, rfl⟩ ci_0 ?_
                refine G_lald (nx := 105) (k := 96) ⟨dX12_tree_104, rfl⟩ q_96 (by first | assumption | decide | (unfold vp_in; decide)) ?_
                refine G_lcmp (nx := 106) ⟨dX12_tree_105, rfl⟩ ?_
                refine G_ifge (tgt := 118) (nx := 109) ⟨dX12_tree_106, rfl⟩ rfl (fun c_106 => ?_) (fun c_106 => ?_)
                · refine G_aload_0 (nx := 119) ⟨dX12_tree_118, rfl⟩ ?_
                  refine G_getr (nx := 122) (k := 75) (r := 96) ⟨dX12_tree_119, rfl⟩ fX12_75 q_75 yr_12_35 (r_75_35 _) ?_
                  refine G_iconst (nx := 123) ⟨dX12_tree_122, rfl⟩ ci_0 ?_
                  refine G_lald (nx := 124) (k := 96) ⟨dX12_tree_123, rfl⟩ q_96 (by first | assumption | decide | (unfold vp_in; decide)) ?_
                  refine G_lret ⟨dX12_tree_124, rfl⟩ rfl ?_
                  have fin := hk J1 _ (by omega) c_6 c_26 hhow
                  rw [trV] at fin
                  rw [if_pos (Or.inl c_85)] at fin
                  rw [lg_cmp_ge, ec0, q1, q2] at c_106
                  rw [if_pos c_106] at fin
                  rw [ec0]
                  rw [q2]
                  exact fin
                · refine G_aload_0 (nx := 110) ⟨dX12_tree_109, rfl⟩ ?_
                  refine G_getr (nx := 113) (k := 75) (r := 95) ⟨dX12_tree_110, rfl⟩ fX12_71 q_75 yr_12_34 (r_75_34 _) ?_
                  refine G_iconst (nx := 114) ⟨dX12_tree_113, rfl⟩ ci_0 ?_
                  refine G_lald (nx := 115) (k := 95) ⟨dX12_tree_114, rfl⟩ q_95 (by first | assumption | decide | (unfold vp_in; decide)) ?_
                  refine G_goto (tgt := 124) ⟨dX12_tree_115, rfl⟩ rfl ?_
                  refine G_lret ⟨dX12_tree_124, rfl⟩ rfl ?_
                  have fin := hk J1 _ (by omega) c_6 c_26 hhow
                  rw [trV] at fin
                  rw [if_pos (Or.inl c_85)] at fin
                  rw [lg_cmp_ge, ec0, q1, q2] at c_106
                  rw [if_neg c_106] at fin
                  rw [ec0]
                  rw [q1]
                  exact fin
              · refine G_iload_1 (nx := 89) ⟨dX12_tree_88, rfl⟩ ?_
                refine G_iconst (nx := 90) ⟨dX12_tree_89, rfl⟩ ci_3 ?_
                refine G_icmpne (tgt := 125) (nx := 93) ⟨dX12_tree_90, rfl⟩ rfl (fun c_90 => ?_) (fun c_90 => ?_)
                · refine G_iload_2 (nx := 126) ⟨dX12_tree_125, rfl⟩ ?_
                  refine G_ifeq (tgt := 145) (nx := 129) ⟨dX12_tree_126, rfl⟩ rfl (fun c_126 => ?_) (fun c_126 => ?_)
                  · exact absurd c_126 (by decide)
                  · refine G_aload_0 (nx := 130) ⟨dX12_tree_129, rfl⟩ ?_
                    refine G_getr (nx := 133) (k := 75) (r := 97) ⟨dX12_tree_130, rfl⟩ fX12_78 q_75 yr_12_36 (r_75_36 _) ?_
                    refine G_iconst (nx := 134) ⟨dX12_tree_133, rfl⟩ ci_0 ?_
                    refine G_lald (nx := 135) (k := 97) ⟨dX12_tree_134, rfl⟩ q_97 (by first | assumption | decide | (unfold vp_in; decide)) ?_
                    refine G_aload_0 (nx := 136) ⟨dX12_tree_135, rfl⟩ ?_
                    refine G_getr (nx := 139) (k := 75) (r := 98) ⟨dX12_tree_136, rfl⟩ fX12_81 q_75 yr_12_37 (r_75_37 _) ?_
                    refine G_iconst (nx := 140) ⟨dX12_tree_139, rfl⟩ ci_0 ?_
                    refine G_lald (nx := 141) (k := 98) ⟨dX12_tree_140, rfl⟩ q_98 (by first | assumption | decide | (unfold vp_in; decide)) ?_
                    refine G_ladd (nx := 142) ⟨dX12_tree_141, rfl⟩ ?_
                    refine G_goto (tgt := 176) ⟨dX12_tree_142, rfl⟩ rfl ?_
                    refine G_lret ⟨dX12_tree_176, rfl⟩ rfl ?_
                    have fin := hk J1 _ (by omega) c_6 c_26 hhow
                    rw [trV] at fin
                    rw [if_neg (fun h => h.elim c_85 c_90)] at fin
                    rw [if_pos (Or.inl c_59)] at fin
                    rw [ec0, q3, q4]
                    exact fin
                · refine G_aload_0 (nx := 94) ⟨dX12_tree_93, rfl⟩ ?_
                  refine G_getr (nx := 97) (k := 75) (r := 95) ⟨dX12_tree_94, rfl⟩ fX12_71 q_75 yr_12_34 (r_75_34 _) ?_
                  refine G_iconst (nx := 98) ⟨dX12_tree_97, rfl⟩ ci_0 ?_
                  refine G_lald (nx := 99) (k := 95) ⟨dX12_tree_98, rfl⟩ q_95 (by first | assumption | decide | (unfold vp_in; decide)) ?_
                  refine G_aload_0 (nx := 100) ⟨dX12_tree_99, rfl⟩ ?_
                  refine G_getr (nx := 103) (k := 75) (r := 96) ⟨dX12_tree_100, rfl⟩ fX12_75 q_75 yr_12_35 (r_75_35 _) ?_
                  refine G_iconst (nx := 104) ⟨dX12_tree_103, rfl⟩ ci_0 ?_
                  refine G_lald (nx := 105) (k := 96) ⟨dX12_tree_104, rfl⟩ q_96 (by first | assumption | decide | (unfold vp_in; decide)) ?_
                  refine G_lcmp (nx := 106) ⟨dX12_tree_105, rfl⟩ ?_
                  refine G_ifge (tgt := 118) (nx := 109) ⟨dX12_tree_106, rfl⟩ rfl (fun c_106 => ?_) (fun c_106 => ?_)
                  · refine G_aload_0 (nx := 119) ⟨dX12_tree_118, rfl⟩ ?_
                    refine G_getr (nx := 122) (k := 75) (r := 96) ⟨dX12_tree_119, rfl⟩ fX12_75 q_75 yr_12_35 (r_75_35 _) ?_
                    refine G_iconst (nx := 123) ⟨dX12_tree_122, rfl⟩ ci_0 ?_
                    refine G_lald (nx := 124) (k := 96) ⟨dX12_tree_123, rfl⟩ q_96 (by first | assumption | decide | (unfold vp_in; decide)) ?_
                    refine G_lret ⟨dX12_tree_124, rfl⟩ rfl ?_
                    have fin := hk J1 _ (by omega) c_6 c_26 hhow
                    rw [trV] at fin
                    rw [if_pos (Or.inr c_90)] at fin
                    rw [lg_cmp_ge, ec0, q1, q2] at c_106
                    rw [if_pos c_106] at fin
                    rw [ec0]
                    rw [q2]
                    exact fin
                  · refine G_aload_0 (nx := 110) ⟨dX12_tree_109, rfl⟩ ?_
                    refine G_getr (nx := 113) (k := 75) (r := 95) ⟨dX12_tree_110, rfl⟩ fX12_71 q_75 yr_12_34 (r_75_34 _) ?_
                    refine G_iconst (nx := 114) ⟨dX12_tree_113, rfl⟩ ci_0 ?_
                    refine G_lald (nx := 115) (k := 95) ⟨dX12_tree_114, rfl⟩ q_95 (by first | assumption | decide | (unfold vp_in; decide)) ?_
                    refine G_goto (tgt := 124) ⟨dX12_tree_115, rfl⟩ rfl ?_
                    refine G_lret ⟨dX12_tree_124, rfl⟩ rfl ?_
                    have fin := hk J1 _ (by omega) c_6 c_26 hhow
                    rw [trV] at fin
                    rw [if_pos (Or.inr c_90)] at fin
                    rw [lg_cmp_ge, ec0, q1, q2] at c_106
                    rw [if_neg c_106] at fin
                    rw [ec0]
                    rw [q1]
                    exact fin
            · refine G_aload_0 (nx := 63) ⟨dX12_tree_62, rfl⟩ ?_
              refine G_getr (nx := 66) (k := 75) (r := 95) ⟨dX12_tree_63, rfl⟩ fX12_71 q_75 yr_12_34 (r_75_34 _) ?_
              refine G_iconst (nx := 67) ⟨dX12_tree_66, rfl⟩ ci_0 ?_
              refine G_lald (nx := 68) (k := 95) ⟨dX12_tree_67, rfl⟩ q_95 (by first | assumption | decide | (unfold vp_in; decide)) ?_
              refine G_aload_0 (nx := 69) ⟨dX12_tree_68, rfl⟩ ?_
              refine G_getr (nx := 72) (k := 75) (r := 96) ⟨dX12_tree_69, rfl⟩ fX12_75 q_75 yr_12_35 (r_75_35 _) ?_
              refine G_iconst (nx := 73) ⟨dX12_tree_72, rfl⟩ ci_0 ?_
              refine G_lald (nx := 74) (k := 96) ⟨dX12_tree_73, rfl⟩ q_96 (by first | assumption | decide | (unfold vp_in; decide)) ?_
              refine G_lcmp (nx := 75) ⟨dX12_tree_74, rfl⟩ ?_
              refine G_ifne (tgt := 82) (nx := 78) ⟨dX12_tree_75, rfl⟩ rfl (fun c_75 => ?_) (fun c_75 => ?_)
              · refine G_iconst (nx := 83) ⟨dX12_tree_82, rfl⟩ ci_0 ?_
                refine G_istore_2 (nx := 84) ⟨dX12_tree_83, rfl⟩ rfl rfl ?_
                refine G_iload_1 (nx := 85) ⟨dX12_tree_84, rfl⟩ ?_
                refine G_ifeq (tgt := 93) (nx := 88) ⟨dX12_tree_85, rfl⟩ rfl (fun c_85 => ?_) (fun c_85 => ?_)
                · refine G_aload_0 (nx := 94) ⟨dX12_tree_93, rfl⟩ ?_
                  refine G_getr (nx := 97) (k := 75) (r := 95) ⟨dX12_tree_94, rfl⟩ fX12_71 q_75 yr_12_34 (r_75_34 _) ?_
                  refine G_iconst (nx := 98) ⟨dX12_tree_97, rfl⟩ ci_0 ?_
                  refine G_lald (nx := 99) (k := 95) ⟨dX12_tree_98, rfl⟩ q_95 (by first | assumption | decide | (unfold vp_in; decide)) ?_
                  refine G_aload_0 (nx := 100) ⟨dX12_tree_99, rfl⟩ ?_
                  refine G_getr (nx := 103) (k := 75) (r := 96) ⟨dX12_tree_100, rfl⟩ fX12_75 q_75 yr_12_35 (r_75_35 _) ?_
                  refine G_iconst (nx := 104) ⟨dX12_tree_103, rfl⟩ ci_0 ?_
                  refine G_lald (nx := 105) (k := 96) ⟨dX12_tree_104, rfl⟩ q_96 (by first | assumption | decide | (unfold vp_in; decide)) ?_
                  refine G_lcmp (nx := 106) ⟨dX12_tree_105, rfl⟩ ?_
                  refine G_ifge (tgt := 118) (nx := 109) ⟨dX12_tree_106, rfl⟩ rfl (fun c_106 => ?_) (fun c_106 => ?_)
                  · refine G_aload_0 (nx := 119) ⟨dX12_tree_118, rfl⟩ ?_
                    refine G_getr (nx := 122) (k := 75) (r := 96) ⟨dX12_tree_119, rfl⟩ fX12_75 q_75 yr_12_35 (r_75_35 _) ?_
                    refine G_iconst (nx := 123) ⟨dX12_tree_122, rfl⟩ ci_0 ?_
                    refine G_lald (nx := 124) (k := 96) ⟨dX12_tree_123, rfl⟩ q_96 (by first | assumption | decide | (unfold vp_in; decide)) ?_
                    refine G_lret ⟨dX12_tree_124, rfl⟩ rfl ?_
                    have fin := hk J1 _ (by omega) c_6 c_26 hhow
                    rw [trV] at fin
                    rw [if_pos (Or.inl c_85)] at fin
                    rw [lg_cmp_ge, ec0, q1, q2] at c_106
                    rw [if_pos c_106] at fin
                    rw [ec0]
                    rw [q2]
                    exact fin
                  · refine G_aload_0 (nx := 110) ⟨dX12_tree_109, rfl⟩ ?_
                    refine G_getr (nx := 113) (k := 75) (r := 95) ⟨dX12_tree_110, rfl⟩ fX12_71 q_75 yr_12_34 (r_75_34 _) ?_
                    refine G_iconst (nx := 114) ⟨dX12_tree_113, rfl⟩ ci_0 ?_
                    refine G_lald (nx := 115) (k := 95) ⟨dX12_tree_114, rfl⟩ q_95 (by first | assumption | decide | (unfold vp_in; decide)) ?_
                    refine G_goto (tgt := 124) ⟨dX12_tree_115, rfl⟩ rfl ?_
                    refine G_lret ⟨dX12_tree_124, rfl⟩ rfl ?_
                    have fin := hk J1 _ (by omega) c_6 c_26 hhow
                    rw [trV] at fin
                    rw [if_pos (Or.inl c_85)] at fin
                    rw [lg_cmp_ge, ec0, q1, q2] at c_106
                    rw [if_neg c_106] at fin
                    rw [ec0]
                    rw [q1]
                    exact fin
                · refine G_iload_1 (nx := 89) ⟨dX12_tree_88, rfl⟩ ?_
                  refine G_iconst (nx := 90) ⟨dX12_tree_89, rfl⟩ ci_3 ?_
                  refine G_icmpne (tgt := 125) (nx := 93) ⟨dX12_tree_90, rfl⟩ rfl (fun c_90 => ?_) (fun c_90 => ?_)
                  · refine G_iload_2 (nx := 126) ⟨dX12_tree_125, rfl⟩ ?_
                    refine G_ifeq (tgt := 145) (nx := 129) ⟨dX12_tree_126, rfl⟩ rfl (fun c_126 => ?_) (fun c_126 => ?_)
                    · refine G_aload_0 (nx := 146) ⟨dX12_tree_145, rfl⟩ ?_
                      refine G_getr (nx := 149) (k := 75) (r := 95) ⟨dX12_tree_146, rfl⟩ fX12_71 q_75 yr_12_34 (r_75_34 _) ?_
                      refine G_iconst (nx := 150) ⟨dX12_tree_149, rfl⟩ ci_0 ?_
                      refine G_lald (nx := 151) (k := 95) ⟨dX12_tree_150, rfl⟩ q_95 (by first | assumption | decide | (unfold vp_in; decide)) ?_
                      refine G_aload_0 (nx := 152) ⟨dX12_tree_151, rfl⟩ ?_
                      refine G_getr (nx := 155) (k := 75) (r := 96) ⟨dX12_tree_152, rfl⟩ fX12_75 q_75 yr_12_35 (r_75_35 _) ?_
                      refine G_iconst (nx := 156) ⟨dX12_tree_155, rfl⟩ ci_0 ?_
                      refine G_lald (nx := 157) (k := 96) ⟨dX12_tree_156, rfl⟩ q_96 (by first | assumption | decide | (unfold vp_in; decide)) ?_
                      refine G_lcmp (nx := 158) ⟨dX12_tree_157, rfl⟩ ?_
                      refine G_ifge (tgt := 170) (nx := 161) ⟨dX12_tree_158, rfl⟩ rfl (fun c_158 => ?_) (fun c_158 => ?_)
                      · refine G_aload_0 (nx := 171) ⟨dX12_tree_170, rfl⟩ ?_
                        refine G_getr (nx := 174) (k := 75) (r := 98) ⟨dX12_tree_171, rfl⟩ fX12_81 q_75 yr_12_37 (r_75_37 _) ?_
                        refine G_iconst (nx := 175) ⟨dX12_tree_174, rfl⟩ ci_0 ?_
                        refine G_lald (nx := 176) (k := 98) ⟨dX12_tree_175, rfl⟩ q_98 (by first | assumption | decide | (unfold vp_in; decide)) ?_
                        refine G_lret ⟨dX12_tree_176, rfl⟩ rfl ?_
                        have fin := hk J1 _ (by omega) c_6 c_26 hhow
                        rw [trV] at fin
                        rw [if_neg (fun h => h.elim c_85 c_90)] at fin
                        rw [lg_cmp_eq, ec0, q1, q2] at c_75
                        rw [lg_cmp_ge, ec0, q1, q2] at c_158
                        rw [if_neg (fun h => h.elim c_59 c_75), if_pos c_158] at fin
                        rw [ec0]
                        rw [q4]
                        exact fin
                      · refine G_aload_0 (nx := 162) ⟨dX12_tree_161, rfl⟩ ?_
                        refine G_getr (nx := 165) (k := 75) (r := 97) ⟨dX12_tree_162, rfl⟩ fX12_78 q_75 yr_12_36 (r_75_36 _) ?_
                        refine G_iconst (nx := 166) ⟨dX12_tree_165, rfl⟩ ci_0 ?_
                        refine G_lald (nx := 167) (k := 97) ⟨dX12_tree_166, rfl⟩ q_97 (by first | assumption | decide | (unfold vp_in; decide)) ?_
                        refine G_goto (tgt := 176) ⟨dX12_tree_167, rfl⟩ rfl ?_
                        refine G_lret ⟨dX12_tree_176, rfl⟩ rfl ?_
                        have fin := hk J1 _ (by omega) c_6 c_26 hhow
                        rw [trV] at fin
                        rw [if_neg (fun h => h.elim c_85 c_90)] at fin
                        rw [lg_cmp_eq, ec0, q1, q2] at c_75
                        rw [lg_cmp_ge, ec0, q1, q2] at c_158
                        rw [if_neg (fun h => h.elim c_59 c_75), if_neg c_158] at fin
                        rw [ec0]
                        rw [q3]
                        exact fin
                    · exact absurd rfl c_126
                  · refine G_aload_0 (nx := 94) ⟨dX12_tree_93, rfl⟩ ?_
                    refine G_getr (nx := 97) (k := 75) (r := 95) ⟨dX12_tree_94, rfl⟩ fX12_71 q_75 yr_12_34 (r_75_34 _) ?_
                    refine G_iconst (nx := 98) ⟨dX12_tree_97, rfl⟩ ci_0 ?_
                    refine G_lald (nx := 99) (k := 95) ⟨dX12_tree_98, rfl⟩ q_95 (by first | assumption | decide | (unfold vp_in; decide)) ?_
                    refine G_aload_0 (nx := 100) ⟨dX12_tree_99, rfl⟩ ?_
                    refine G_getr (nx := 103) (k := 75) (r := 96) ⟨dX12_tree_100, rfl⟩ fX12_75 q_75 yr_12_35 (r_75_35 _) ?_
                    refine G_iconst (nx := 104) ⟨dX12_tree_103, rfl⟩ ci_0 ?_
                    refine G_lald (nx := 105) (k := 96) ⟨dX12_tree_104, rfl⟩ q_96 (by first | assumption | decide | (unfold vp_in; decide)) ?_
                    refine G_lcmp (nx := 106) ⟨dX12_tree_105, rfl⟩ ?_
                    refine G_ifge (tgt := 118) (nx := 109) ⟨dX12_tree_106, rfl⟩ rfl (fun c_106 => ?_) (fun c_106 => ?_)
                    · refine G_aload_0 (nx := 119) ⟨dX12_tree_118, rfl⟩ ?_
                      refine G_getr (nx := 122) (k := 75) (r := 96) ⟨dX12_tree_119, rfl⟩ fX12_75 q_75 yr_12_35 (r_75_35 _) ?_
                      refine G_iconst (nx := 123) ⟨dX12_tree_122, rfl⟩ ci_0 ?_
                      refine G_lald (nx := 124) (k := 96) ⟨dX12_tree_123, rfl⟩ q_96 (by first | assumption | decide | (unfold vp_in; decide)) ?_
                      refine G_lret ⟨dX12_tree_124, rfl⟩ rfl ?_
                      have fin := hk J1 _ (by omega) c_6 c_26 hhow
                      rw [trV] at fin
                      rw [if_pos (Or.inr c_90)] at fin
                      rw [lg_cmp_ge, ec0, q1, q2] at c_106
                      rw [if_pos c_106] at fin
                      rw [ec0]
                      rw [q2]
                      exact fin
                    · refine G_aload_0 (nx := 110) ⟨dX12_tree_109, rfl⟩ ?_
                      refine G_getr (nx := 113) (k := 75) (r := 95) ⟨dX12_tree_110, rfl⟩ fX12_71 q_75 yr_12_34 (r_75_34 _) ?_
                      refine G_iconst (nx := 114) ⟨dX12_tree_113, rfl⟩ ci_0 ?_
                      refine G_lald (nx := 115) (k := 95) ⟨dX12_tree_114, rfl⟩ q_95 (by first | assumption | decide | (unfold vp_in; decide)) ?_
                      refine G_goto (tgt := 124) ⟨dX12_tree_115, rfl⟩ rfl ?_
                      refine G_lret ⟨dX12_tree_124, rfl⟩ rfl ?_
                      have fin := hk J1 _ (by omega) c_6 c_26 hhow
                      rw [trV] at fin
                      rw [if_pos (Or.inr c_90)] at fin
                      rw [lg_cmp_ge, ec0, q1, q2] at c_106
                      rw [if_neg c_106] at fin
                      rw [ec0]
                      rw [q1]
                      exact fin
              · refine G_iconst (nx := 79) ⟨dX12_tree_78, rfl⟩ ci_1 ?_
                refine G_goto (tgt := 83) ⟨dX12_tree_79, rfl⟩ rfl ?_
                refine G_istore_2 (nx := 84) ⟨dX12_tree_83, rfl⟩ rfl rfl ?_
                refine G_iload_1 (nx := 85) ⟨dX12_tree_84, rfl⟩ ?_
                refine G_ifeq (tgt := 93) (nx := 88) ⟨dX12_tree_85, rfl⟩ rfl (fun c_85 => ?_) (fun c_85 => ?_)
                · refine G_aload_0 (nx := 94) ⟨dX12_tree_93, rfl⟩ ?_
                  refine G_getr (nx := 97) (k := 75) (r := 95) ⟨dX12_tree_94, rfl⟩ fX12_71 q_75 yr_12_34 (r_75_34 _) ?_
                  refine G_iconst (nx := 98) ⟨dX12_tree_97, rfl⟩ ci_0 ?_
                  refine G_lald (nx := 99) (k := 95) ⟨dX12_tree_98, rfl⟩ q_95 (by first | assumption | decide | (unfold vp_in; decide)) ?_
                  refine G_aload_0 (nx := 100) ⟨dX12_tree_99, rfl⟩ ?_
                  refine G_getr (nx := 103) (k := 75) (r := 96) ⟨dX12_tree_100, rfl⟩ fX12_75 q_75 yr_12_35 (r_75_35 _) ?_
                  refine G_iconst (nx := 104) ⟨dX12_tree_103, rfl⟩ ci_0 ?_
                  refine G_lald (nx := 105) (k := 96) ⟨dX12_tree_104, rfl⟩ q_96 (by first | assumption | decide | (unfold vp_in; decide)) ?_
                  refine G_lcmp (nx := 106) ⟨dX12_tree_105, rfl⟩ ?_
                  refine G_ifge (tgt := 118) (nx := 109) ⟨dX12_tree_106, rfl⟩ rfl (fun c_106 => ?_) (fun c_106 => ?_)
                  · refine G_aload_0 (nx := 119) ⟨dX12_tree_118, rfl⟩ ?_
                    refine G_getr (nx := 122) (k := 75) (r := 96) ⟨dX12_tree_119, rfl⟩ fX12_75 q_75 yr_12_35 (r_75_35 _) ?_
                    refine G_iconst (nx := 123) ⟨dX12_tree_122, rfl⟩ ci_0 ?_
                    refine G_lald (nx := 124) (k := 96) ⟨dX12_tree_123, rfl⟩ q_96 (by first | assumption | decide | (unfold vp_in; decide)) ?_
                    refine G_lret ⟨dX12_tree_124, rfl⟩ rfl ?_
                    have fin := hk J1 _ (by omega) c_6 c_26 hhow
                    rw [trV] at fin
                    rw [if_pos (Or.inl c_85)] at fin
                    rw [lg_cmp_ge, ec0, q1, q2] at c_106
                    rw [if_pos c_106] at fin
                    rw [ec0]
                    rw [q2]
                    exact fin
                  · refine G_aload_0 (nx := 110) ⟨dX12_tree_109, rfl⟩ ?_
                    refine G_getr (nx := 113) (k := 75) (r := 95) ⟨dX12_tree_110, rfl⟩ fX12_71 q_75 yr_12_34 (r_75_34 _) ?_
                    refine G_iconst (nx := 114) ⟨dX12_tree_113, rfl⟩ ci_0 ?_
                    refine G_lald (nx := 115) (k := 95) ⟨dX12_tree_114, rfl⟩ q_95 (by first | assumption | decide | (unfold vp_in; decide)) ?_
                    refine G_goto (tgt := 124) ⟨dX12_tree_115, rfl⟩ rfl ?_
                    refine G_lret ⟨dX12_tree_124, rfl⟩ rfl ?_
                    have fin := hk J1 _ (by omega) c_6 c_26 hhow
                    rw [trV] at fin
                    rw [if_pos (Or.inl c_85)] at fin
                    rw [lg_cmp_ge, ec0, q1, q2] at c_106
                    rw [if_neg c_106] at fin
                    rw [ec0]
                    rw [q1]
                    exact fin
                · refine G_iload_1 (nx := 89) ⟨dX12_tree_88, rfl⟩ ?_
                  refine G_iconst (nx := 90) ⟨dX12_tree_89, rfl⟩ ci_3 ?_
                  refine G_icmpne (tgt := 125) (nx := 93) ⟨dX12_tree_90, rfl⟩ rfl (fun c_90 => ?_) (fun c_90 => ?_)
                  · refine G_iload_2 (nx := 126) ⟨dX12_tree_125, rfl⟩ ?_
                    refine G_ifeq (tgt := 145) (nx := 129) ⟨dX12_tree_126, rfl⟩ rfl (fun c_126 => ?_) (fun c_126 => ?_)
                    · exact absurd c_126 (by decide)
                    · refine G_aload_0 (nx := 130) ⟨dX12_tree_129, rfl⟩ ?_
                      refine G_getr (nx := 133) (k := 75) (r := 97) ⟨dX12_tree_130, rfl⟩ fX12_78 q_75 yr_12_36 (r_75_36 _) ?_
                      refine G_iconst (nx := 134) ⟨dX12_tree_133, rfl⟩ ci_0 ?_
                      refine G_lald (nx := 135) (k := 97) ⟨dX12_tree_134, rfl⟩ q_97 (by first | assumption | decide | (unfold vp_in; decide)) ?_
                      refine G_aload_0 (nx := 136) ⟨dX12_tree_135, rfl⟩ ?_
                      refine G_getr (nx := 139) (k := 75) (r := 98) ⟨dX12_tree_136, rfl⟩ fX12_81 q_75 yr_12_37 (r_75_37 _) ?_
                      refine G_iconst (nx := 140) ⟨dX12_tree_139, rfl⟩ ci_0 ?_
                      refine G_lald (nx := 141) (k := 98) ⟨dX12_tree_140, rfl⟩ q_98 (by first | assumption | decide | (unfold vp_in; decide)) ?_
                      refine G_ladd (nx := 142) ⟨dX12_tree_141, rfl⟩ ?_
                      refine G_goto (tgt := 176) ⟨dX12_tree_142, rfl⟩ rfl ?_
                      refine G_lret ⟨dX12_tree_176, rfl⟩ rfl ?_
                      have fin := hk J1 _ (by omega) c_6 c_26 hhow
                      rw [trV] at fin
                      rw [if_neg (fun h => h.elim c_85 c_90)] at fin
                      rw [lg_cmp_eq, ec0, q1, q2] at c_75
                      rw [if_pos (Or.inr c_75)] at fin
                      rw [ec0, q3, q4]
                      exact fin
                  · refine G_aload_0 (nx := 94) ⟨dX12_tree_93, rfl⟩ ?_
                    refine G_getr (nx := 97) (k := 75) (r := 95) ⟨dX12_tree_94, rfl⟩ fX12_71 q_75 yr_12_34 (r_75_34 _) ?_
                    refine G_iconst (nx := 98) ⟨dX12_tree_97, rfl⟩ ci_0 ?_
                    refine G_lald (nx := 99) (k := 95) ⟨dX12_tree_98, rfl⟩ q_95 (by first | assumption | decide | (unfold vp_in; decide)) ?_
                    refine G_aload_0 (nx := 100) ⟨dX12_tree_99, rfl⟩ ?_
                    refine G_getr (nx := 103) (k := 75) (r := 96) ⟨dX12_tree_100, rfl⟩ fX12_75 q_75 yr_12_35 (r_75_35 _) ?_
                    refine G_iconst (nx := 104) ⟨dX12_tree_103, rfl⟩ ci_0 ?_
                    refine G_lald (nx := 105) (k := 96) ⟨dX12_tree_104, rfl⟩ q_96 (by first | assumption | decide | (unfold vp_in; decide)) ?_
                    refine G_lcmp (nx := 106) ⟨dX12_tree_105, rfl⟩ ?_
                    refine G_ifge (tgt := 118) (nx := 109) ⟨dX12_tree_106, rfl⟩ rfl (fun c_106 => ?_) (fun c_106 => ?_)
                    · refine G_aload_0 (nx := 119) ⟨dX12_tree_118, rfl⟩ ?_
                      refine G_getr (nx := 122) (k := 75) (r := 96) ⟨dX12_tree_119, rfl⟩ fX12_75 q_75 yr_12_35 (r_75_35 _) ?_
                      refine G_iconst (nx := 123) ⟨dX12_tree_122, rfl⟩ ci_0 ?_
                      refine G_lald (nx := 124) (k := 96) ⟨dX12_tree_123, rfl⟩ q_96 (by first | assumption | decide | (unfold vp_in; decide)) ?_
                      refine G_lret ⟨dX12_tree_124, rfl⟩ rfl ?_
                      have fin := hk J1 _ (by omega) c_6 c_26 hhow
                      rw [trV] at fin
                      rw [if_pos (Or.inr c_90)] at fin
                      rw [lg_cmp_ge, ec0, q1, q2] at c_106
                      rw [if_pos c_106] at fin
                      rw [ec0]
                      rw [q2]
                      exact fin
                    · refine G_aload_0 (nx := 110) ⟨dX12_tree_109, rfl⟩ ?_
                      refine G_getr (nx := 113) (k := 75) (r := 95) ⟨dX12_tree_110, rfl⟩ fX12_71 q_75 yr_12_34 (r_75_34 _) ?_
                      refine G_iconst (nx := 114) ⟨dX12_tree_113, rfl⟩ ci_0 ?_
                      refine G_lald (nx := 115) (k := 95) ⟨dX12_tree_114, rfl⟩ q_95 (by first | assumption | decide | (unfold vp_in; decide)) ?_
                      refine G_goto (tgt := 124) ⟨dX12_tree_115, rfl⟩ rfl ?_
                      refine G_lret ⟨dX12_tree_124, rfl⟩ rfl ?_
                      have fin := hk J1 _ (by omega) c_6 c_26 hhow
                      rw [trV] at fin
                      rw [if_pos (Or.inr c_90)] at fin
                      rw [lg_cmp_ge, ec0, q1, q2] at c_106
                      rw [if_neg c_106] at fin
                      rw [ec0]
                      rw [q1]
                      exact fin
            
        · refine G_iconst (nx := 41) ⟨dX12_tree_40, rfl⟩ ci_2 ?_
          refine G_goto (tgt := 54) ⟨dX12_tree_41, rfl⟩ rfl ?_
          refine G_cvv1 (nx := 57) ⟨dX12_tree_54, rfl⟩ kX12_322 rfl q_75 rfl (Nat.le_of_ble_eq_true rfl) (Nat.le_of_ble_eq_true rfl) (cM_counts hT0 (fun J1 hr => ?_))
          obtain ⟨q1, q2, q3, q4⟩ := hr 0 (by omega)
          have hhow := (show (2 : Int32) = hwI q by rw [hwI, if_pos c_37])
          refine G_iload_1 (nx := 58) ⟨dX12_tree_57, rfl⟩ ?_
          refine G_iconst (nx := 59) ⟨dX12_tree_58, rfl⟩ ci_1 ?_
          refine G_icmpeq (tgt := 78) (nx := 62) ⟨dX12_tree_59, rfl⟩ rfl (fun c_59 => ?_) (fun c_59 => ?_)
          · refine G_iconst (nx := 79) ⟨dX12_tree_78, rfl⟩ ci_1 ?_
            refine G_goto (tgt := 83) ⟨dX12_tree_79, rfl⟩ rfl ?_
            refine G_istore_2 (nx := 84) ⟨dX12_tree_83, rfl⟩ rfl rfl ?_
            refine G_iload_1 (nx := 85) ⟨dX12_tree_84, rfl⟩ ?_
            refine G_ifeq (tgt := 93) (nx := 88) ⟨dX12_tree_85, rfl⟩ rfl (fun c_85 => ?_) (fun c_85 => ?_)
            · refine G_aload_0 (nx := 94) ⟨dX12_tree_93, rfl⟩ ?_
              refine G_getr (nx := 97) (k := 75) (r := 95) ⟨dX12_tree_94, rfl⟩ fX12_71 q_75 yr_12_34 (r_75_34 _) ?_
              refine G_iconst (nx := 98) ⟨dX12_tree_97, rfl⟩ ci_0 ?_
              refine G_lald (nx := 99) (k := 95) ⟨dX12_tree_98, rfl⟩ q_95 (by first | assumption | decide | (unfold vp_in; decide)) ?_
              refine G_aload_0 (nx := 100) ⟨dX12_tree_99, rfl⟩ ?_
              refine G_getr (nx := 103) (k := 75) (r := 96) ⟨dX12_tree_100, rfl⟩ fX12_75 q_75 yr_12_35 (r_75_35 _) ?_
              refine G_iconst (nx := 104) ⟨dX12_tree_103, rfl⟩ ci_0 ?_
              refine G_lald (nx := 105) (k := 96) ⟨dX12_tree_104, rfl⟩ q_96 (by first | assumption | decide | (unfold vp_in; decide)) ?_
              refine G_lcmp (nx := 106) ⟨dX12_tree_105, rfl⟩ ?_
              refine G_ifge (tgt := 118) (nx := 109) ⟨dX12_tree_106, rfl⟩ rfl (fun c_106 => ?_) (fun c_106 => ?_)
              · refine G_aload_0 (nx := 119) ⟨dX12_tree_118, rfl⟩ ?_
                refine G_getr (nx := 122) (k := 75) (r := 96) ⟨dX12_tree_119, rfl⟩ fX12_75 q_75 yr_12_35 (r_75_35 _) ?_
                refine G_iconst (nx := 123) ⟨dX12_tree_122, rfl⟩ ci_0 ?_
                refine G_lald (nx := 124) (k := 96) ⟨dX12_tree_123, rfl⟩ q_96 (by first | assumption | decide | (unfold vp_in; decide)) ?_
                refine G_lret ⟨dX12_tree_124, rfl⟩ rfl ?_
                have fin := hk J1 _ (by omega) c_6 c_26 hhow
                rw [trV] at fin
                rw [if_pos (Or.inl c_85)] at fin
                rw [lg_cmp_ge, ec0, q1, q2] at c_106
                rw [if_pos c_106] at fin
                rw [ec0]
                rw [q2]
                exact fin
              · refine G_aload_0 (nx := 110) ⟨dX12_tree_109, rfl⟩ ?_
                refine G_getr (nx := 113) (k := 75) (r := 95) ⟨dX12_tree_110, rfl⟩ fX12_71 q_75 yr_12_34 (r_75_34 _) ?_
                refine G_iconst (nx := 114) ⟨dX12_tree_113, rfl⟩ ci_0 ?_
                refine G_lald (nx := 115) (k := 95) ⟨dX12_tree_114, rfl⟩ q_95 (by first | assumption | decide | (unfold vp_in; decide)) ?_
                refine G_goto (tgt := 124) ⟨dX12_tree_115, rfl⟩ rfl ?_
                refine G_lret ⟨dX12_tree_124, rfl⟩ rfl ?_
                have fin := hk J1 _ (by omega) c_6 c_26 hhow
                rw [trV] at fin
                rw [if_pos (Or.inl c_85)] at fin
                rw [lg_cmp_ge, ec0, q1, q2] at c_106
                rw [if_neg c_106] at fin
                rw [ec0]
                rw [q1]
                exact fin
            · refine G_iload_1 (nx := 89) ⟨dX12_tree_88, rfl⟩ ?_
              refine G_iconst (nx := 90) ⟨dX12_tree_89, rfl⟩ ci_3 ?_
              refine G_icmpne (tgt := 125) (nx := 93) ⟨dX12_tree_90, rfl⟩ rfl (fun c_90 => ?_) (fun c_90 => ?_)
              · refine G_iload_2 (nx := 126) ⟨dX12_tree_125, rfl⟩ ?_
                refine G_ifeq (tgt := 145) (nx := 129) ⟨dX12_tree_126, rfl⟩ rfl (fun c_126 => ?_) (fun c_126 => ?_)
                · exact absurd c_126 (by decide)
                · refine G_aload_0 (nx := 130) ⟨dX12_tree_129, rfl⟩ ?_
                  refine G_getr (nx := 133) (k := 75) (r := 97) ⟨dX12_tree_130, rfl⟩ fX12_78 q_75 yr_12_36 (r_75_36 _) ?_
                  refine G_iconst (nx := 134) ⟨dX12_tree_133, rfl⟩ ci_0 ?_
                  refine G_lald (nx := 135) (k := 97) ⟨dX12_tree_134, rfl⟩ q_97 (by first | assumption | decide | (unfold vp_in; decide)) ?_
                  refine G_aload_0 (nx := 136) ⟨dX12_tree_135, rfl⟩ ?_
                  refine G_getr (nx := 139) (k := 75) (r := 98) ⟨dX12_tree_136, rfl⟩ fX12_81 q_75 yr_12_37 (r_75_37 _) ?_
                  refine G_iconst (nx := 140) ⟨dX12_tree_139, rfl⟩ ci_0 ?_
                  refine G_lald (nx := 141) (k := 98) ⟨dX12_tree_140, rfl⟩ q_98 (by first | assumption | decide | (unfold vp_in; decide)) ?_
                  refine G_ladd (nx := 142) ⟨dX12_tree_141, rfl⟩ ?_
                  refine G_goto (tgt := 176) ⟨dX12_tree_142, rfl⟩ rfl ?_
                  refine G_lret ⟨dX12_tree_176, rfl⟩ rfl ?_
                  have fin := hk J1 _ (by omega) c_6 c_26 hhow
                  rw [trV] at fin
                  rw [if_neg (fun h => h.elim c_85 c_90)] at fin
                  rw [if_pos (Or.inl c_59)] at fin
                  rw [ec0, q3, q4]
                  exact fin
              · refine G_aload_0 (nx := 94) ⟨dX12_tree_93, rfl⟩ ?_
                refine G_getr (nx := 97) (k := 75) (r := 95) ⟨dX12_tree_94, rfl⟩ fX12_71 q_75 yr_12_34 (r_75_34 _) ?_
                refine G_iconst (nx := 98) ⟨dX12_tree_97, rfl⟩ ci_0 ?_
                refine G_lald (nx := 99) (k := 95) ⟨dX12_tree_98, rfl⟩ q_95 (by first | assumption | decide | (unfold vp_in; decide)) ?_
                refine G_aload_0 (nx := 100) ⟨dX12_tree_99, rfl⟩ ?_
                refine G_getr (nx := 103) (k := 75) (r := 96) ⟨dX12_tree_100, rfl⟩ fX12_75 q_75 yr_12_35 (r_75_35 _) ?_
                refine G_iconst (nx := 104) ⟨dX12_tree_103, rfl⟩ ci_0 ?_
                refine G_lald (nx := 105) (k := 96) ⟨dX12_tree_104, rfl⟩ q_96 (by first | assumption | decide | (unfold vp_in; decide)) ?_
                refine G_lcmp (nx := 106) ⟨dX12_tree_105, rfl⟩ ?_
                refine G_ifge (tgt := 118) (nx := 109) ⟨dX12_tree_106, rfl⟩ rfl (fun c_106 => ?_) (fun c_106 => ?_)
                · refine G_aload_0 (nx := 119) ⟨dX12_tree_118, rfl⟩ ?_
                  refine G_getr (nx := 122) (k := 75) (r := 96) ⟨dX12_tree_119, rfl⟩ fX12_75 q_75 yr_12_35 (r_75_35 _) ?_
                  refine G_iconst (nx := 123) ⟨dX12_tree_122, rfl⟩ ci_0 ?_
                  refine G_lald (nx := 124) (k := 96) ⟨dX12_tree_123, rfl⟩ q_96 (by first | assumption | decide | (unfold vp_in; decide)) ?_
                  refine G_lret ⟨dX12_tree_124, rfl⟩ rfl ?_
                  have fin := hk J1 _ (by omega) c_6 c_26 hhow
                  rw [trV] at fin
                  rw [if_pos (Or.inr c_90)] at fin
                  rw [lg_cmp_ge, ec0, q1, q2] at c_106
                  rw [if_pos c_106] at fin
                  rw [ec0]
                  rw [q2]
                  exact fin
                · refine G_aload_0 (nx := 110) ⟨dX12_tree_109, rfl⟩ ?_
                  refine G_getr (nx := 113) (k := 75) (r := 95) ⟨dX12_tree_110, rfl⟩ fX12_71 q_75 yr_12_34 (r_75_34 _) ?_
                  refine G_iconst (nx := 114) ⟨dX12_tree_113, rfl⟩ ci_0 ?_
                  refine G_lald (nx := 115) (k := 95) ⟨dX12_tree_114, rfl⟩ q_95 (by first | assumption | decide | (unfold vp_in; decide)) ?_
                  refine G_goto (tgt := 124) ⟨dX12_tree_115, rfl⟩ rfl ?_
                  refine G_lret ⟨dX12_tree_124, rfl⟩ rfl ?_
                  have fin := hk J1 _ (by omega) c_6 c_26 hhow
                  rw [trV] at fin
                  rw [if_pos (Or.inr c_90)] at fin
                  rw [lg_cmp_ge, ec0, q1, q2] at c_106
                  rw [if_neg c_106] at fin
                  rw [ec0]
                  rw [q1]
                  exact fin
          · refine G_aload_0 (nx := 63) ⟨dX12_tree_62, rfl⟩ ?_
            refine G_getr (nx := 66) (k := 75) (r := 95) ⟨dX12_tree_63, rfl⟩ fX12_71 q_75 yr_12_34 (r_75_34 _) ?_
            refine G_iconst (nx := 67) ⟨dX12_tree_66, rfl⟩ ci_0 ?_
            refine G_lald (nx := 68) (k := 95) ⟨dX12_tree_67, rfl⟩ q_95 (by first | assumption | decide | (unfold vp_in; decide)) ?_
            refine G_aload_0 (nx := 69) ⟨dX12_tree_68, rfl⟩ ?_
            refine G_getr (nx := 72) (k := 75) (r := 96) ⟨dX12_tree_69, rfl⟩ fX12_75 q_75 yr_12_35 (r_75_35 _) ?_
            refine G_iconst (nx := 73) ⟨dX12_tree_72, rfl⟩ ci_0 ?_
            refine G_lald (nx := 74) (k := 96) ⟨dX12_tree_73, rfl⟩ q_96 (by first | assumption | decide | (unfold vp_in; decide)) ?_
            refine G_lcmp (nx := 75) ⟨dX12_tree_74, rfl⟩ ?_
            refine G_ifne (tgt := 82) (nx := 78) ⟨dX12_tree_75, rfl⟩ rfl (fun c_75 => ?_) (fun c_75 => ?_)
            · refine G_iconst (nx := 83) ⟨dX12_tree_82, rfl⟩ ci_0 ?_
              refine G_istore_2 (nx := 84) ⟨dX12_tree_83, rfl⟩ rfl rfl ?_
              refine G_iload_1 (nx := 85) ⟨dX12_tree_84, rfl⟩ ?_
              refine G_ifeq (tgt := 93) (nx := 88) ⟨dX12_tree_85, rfl⟩ rfl (fun c_85 => ?_) (fun c_85 => ?_)
              · refine G_aload_0 (nx := 94) ⟨dX12_tree_93, rfl⟩ ?_
                refine G_getr (nx := 97) (k := 75) (r := 95) ⟨dX12_tree_94, rfl⟩ fX12_71 q_75 yr_12_34 (r_75_34 _) ?_
                refine G_iconst (nx := 98) ⟨dX12_tree_97, rfl⟩ ci_0 ?_
                refine G_lald (nx := 99) (k := 95) ⟨dX12_tree_98, rfl⟩ q_95 (by first | assumption | decide | (unfold vp_in; decide)) ?_
                refine G_aload_0 (nx := 100) ⟨dX12_tree_99, rfl⟩ ?_
                refine G_getr (nx := 103) (k := 75) (r := 96) ⟨dX12_tree_100, rfl⟩ fX12_75 q_75 yr_12_35 (r_75_35 _) ?_
                refine G_iconst (nx := 104) ⟨dX12_tree_103, rfl⟩ ci_0 ?_
                refine G_lald (nx := 105) (k := 96) ⟨dX12_tree_104, rfl⟩ q_96 (by first | assumption | decide | (unfold vp_in; decide)) ?_
                refine G_lcmp (nx := 106) ⟨dX12_tree_105, rfl⟩ ?_
                refine G_ifge (tgt := 118) (nx := 109) ⟨dX12_tree_106, rfl⟩ rfl (fun c_106 => ?_) (fun c_106 => ?_)
                · refine G_aload_0 (nx := 119) ⟨dX12_tree_118, rfl⟩ ?_
                  refine G_getr (nx := 122) (k := 75) (r := 96) ⟨dX12_tree_119, rfl⟩ fX12_75 q_75 yr_12_35 (r_75_35 _) ?_
                  refine G_iconst (nx := 123) ⟨dX12_tree_122, rfl⟩ ci_0 ?_
                  refine G_lald (nx := 124) (k := 96) ⟨dX12_tree_123, rfl⟩ q_96 (by first | assumption | decide | (unfold vp_in; decide)) ?_
                  refine G_lret ⟨dX12_tree_124, rfl⟩ rfl ?_
                  have fin := hk J1 _ (by omega) c_6 c_26 hhow
                  rw [trV] at fin
                  rw [if_pos (Or.inl c_85)] at fin
                  rw [lg_cmp_ge, ec0, q1, q2] at c_106
                  rw [if_pos c_106] at fin
                  rw [ec0]
                  rw [q2]
                  exact fin
                · refine G_aload_0 (nx := 110) ⟨dX12_tree_109, rfl⟩ ?_
                  refine G_getr (nx := 113) (k := 75) (r := 95) ⟨dX12_tree_110, rfl⟩ fX12_71 q_75 yr_12_34 (r_75_34 _) ?_
                  refine G_iconst (nx := 114) ⟨dX12_tree_113, rfl⟩ ci_0 ?_
                  refine G_lald (nx := 115) (k := 95) ⟨dX12_tree_114, rfl⟩ q_95 (by first | assumption | decide | (unfold vp_in; decide)) ?_
                  refine G_goto (tgt := 124) ⟨dX12_tree_115, rfl⟩ rfl ?_
                  refine G_lret ⟨dX12_tree_124, rfl⟩ rfl ?_
                  have fin := hk J1 _ (by omega) c_6 c_26 hhow
                  rw [trV] at fin
                  rw [if_pos (Or.inl c_85)] at fin
                  rw [lg_cmp_ge, ec0, q1, q2] at c_106
                  rw [if_neg c_106] at fin
                  rw [ec0]
                  rw [q1]
                  exact fin
              · refine G_iload_1 (nx := 89) ⟨dX12_tree_88, rfl⟩ ?_
                refine G_iconst (nx := 90) ⟨dX12_tree_89, rfl⟩ ci_3 ?_
                refine G_icmpne (tgt := 125) (nx := 93) ⟨dX12_tree_90, rfl⟩ rfl (fun c_90 => ?_) (fun c_90 => ?_)
                · refine G_iload_2 (nx := 126) ⟨dX12_tree_125, rfl⟩ ?_
                  refine G_ifeq (tgt := 145) (nx := 129) ⟨dX12_tree_126, rfl⟩ rfl (fun c_126 => ?_) (fun c_126 => ?_)
                  · refine G_aload_0 (nx := 146) ⟨dX12_tree_145, rfl⟩ ?_
                    refine G_getr (nx := 149) (k := 75) (r := 95) ⟨dX12_tree_146, rfl⟩ fX12_71 q_75 yr_12_34 (r_75_34 _) ?_
                    refine G_iconst (nx := 150) ⟨dX12_tree_149, rfl⟩ ci_0 ?_
                    refine G_lald (nx := 151) (k := 95) ⟨dX12_tree_150, rfl⟩ q_95 (by first | assumption | decide | (unfold vp_in; decide)) ?_
                    refine G_aload_0 (nx := 152) ⟨dX12_tree_151, rfl⟩ ?_
                    refine G_getr (nx := 155) (k := 75) (r := 96) ⟨dX12_tree_152, rfl⟩ fX12_75 q_75 yr_12_35 (r_75_35 _) ?_
                    refine G_iconst (nx := 156) ⟨dX12_tree_155, rfl⟩ ci_0 ?_
                    refine G_lald (nx := 157) (k := 96) ⟨dX12_tree_156, rfl⟩ q_96 (by first | assumption | decide | (unfold vp_in; decide)) ?_
                    refine G_lcmp (nx := 158) ⟨dX12_tree_157, rfl⟩ ?_
                    refine G_ifge (tgt := 170) (nx := 161) ⟨dX12_tree_158, rfl⟩ rfl (fun c_158 => ?_) (fun c_158 => ?_)
                    · refine G_aload_0 (nx := 171) ⟨dX12_tree_170, rfl⟩ ?_
                      refine G_getr (nx := 174) (k := 75) (r := 98) ⟨dX12_tree_171, rfl⟩ fX12_81 q_75 yr_12_37 (r_75_37 _) ?_
                      refine G_iconst (nx := 175) ⟨dX12_tree_174, rfl⟩ ci_0 ?_
                      refine G_lald (nx := 176) (k := 98) ⟨dX12_tree_175, rfl⟩ q_98 (by first | assumption | decide | (unfold vp_in; decide)) ?_
                      refine G_lret ⟨dX12_tree_176, rfl⟩ rfl ?_
                      have fin := hk J1 _ (by omega) c_6 c_26 hhow
                      rw [trV] at fin
                      rw [if_neg (fun h => h.elim c_85 c_90)] at fin
                      rw [lg_cmp_eq, ec0, q1, q2] at c_75
                      rw [lg_cmp_ge, ec0, q1, q2] at c_158
                      rw [if_neg (fun h => h.elim c_59 c_75), if_pos c_158] at fin
                      rw [ec0]
                      rw [q4]
                      exact fin
                    · refine G_aload_0 (nx := 162) ⟨dX12_tree_161, rfl⟩ ?_
                      refine G_getr (nx := 165) (k := 75) (r := 97) ⟨dX12_tree_162, rfl⟩ fX12_78 q_75 yr_12_36 (r_75_36 _) ?_
                      refine G_iconst (nx := 166) ⟨dX12_tree_165, rfl⟩ ci_0 ?_
                      refine G_lald (nx := 167) (k := 97) ⟨dX12_tree_166, rfl⟩ q_97 (by first | assumption | decide | (unfold vp_in; decide)) ?_
                      refine G_goto (tgt := 176) ⟨dX12_tree_167, rfl⟩ rfl ?_
                      refine G_lret ⟨dX12_tree_176, rfl⟩ rfl ?_
                      have fin := hk J1 _ (by omega) c_6 c_26 hhow
                      rw [trV] at fin
                      rw [if_neg (fun h => h.elim c_85 c_90)] at fin
                      rw [lg_cmp_eq, ec0, q1, q2] at c_75
                      rw [lg_cmp_ge, ec0, q1, q2] at c_158
                      rw [if_neg (fun h => h.elim c_59 c_75), if_neg c_158] at fin
                      rw [ec0]
                      rw [q3]
                      exact fin
                  · exact absurd rfl c_126
                · refine G_aload_0 (nx := 94) ⟨dX12_tree_93, rfl⟩ ?_
                  refine G_getr (nx := 97) (k := 75) (r := 95) ⟨dX12_tree_94, rfl⟩ fX12_71 q_75 yr_12_34 (r_75_34 _) ?_
                  refine G_iconst (nx := 98) ⟨dX12_tree_97, rfl⟩ ci_0 ?_
                  refine G_lald (nx := 99) (k := 95) ⟨dX12_tree_98, rfl⟩ q_95 (by first | assumption | decide | (unfold vp_in; decide)) ?_
                  refine G_aload_0 (nx := 100) ⟨dX12_tree_99, rfl⟩ ?_
                  refine G_getr (nx := 103) (k := 75) (r := 96) ⟨dX12_tree_100, rfl⟩ fX12_75 q_75 yr_12_35 (r_75_35 _) ?_
                  refine G_iconst (nx := 104) ⟨dX12_tree_103, rfl⟩ ci_0 ?_
                  refine G_lald (nx := 105) (k := 96) ⟨dX12_tree_104, rfl⟩ q_96 (by first | assumption | decide | (unfold vp_in; decide)) ?_
                  refine G_lcmp (nx := 106) ⟨dX12_tree_105, rfl⟩ ?_
                  refine G_ifge (tgt := 118) (nx := 109) ⟨dX12_tree_106, rfl⟩ rfl (fun c_106 => ?_) (fun c_106 => ?_)
                  · refine G_aload_0 (nx := 119) ⟨dX12_tree_118, rfl⟩ ?_
                    refine G_getr (nx := 122) (k := 75) (r := 96) ⟨dX12_tree_119, rfl⟩ fX12_75 q_75 yr_12_35 (r_75_35 _) ?_
                    refine G_iconst (nx := 123) ⟨dX12_tree_122, rfl⟩ ci_0 ?_
                    refine G_lald (nx := 124) (k := 96) ⟨dX12_tree_123, rfl⟩ q_96 (by first | assumption | decide | (unfold vp_in; decide)) ?_
                    refine G_lret ⟨dX12_tree_124, rfl⟩ rfl ?_
                    have fin := hk J1 _ (by omega) c_6 c_26 hhow
                    rw [trV] at fin
                    rw [if_pos (Or.inr c_90)] at fin
                    rw [lg_cmp_ge, ec0, q1, q2] at c_106
                    rw [if_pos c_106] at fin
                    rw [ec0]
                    rw [q2]
                    exact fin
                  · refine G_aload_0 (nx := 110) ⟨dX12_tree_109, rfl⟩ ?_
                    refine G_getr (nx := 113) (k := 75) (r := 95) ⟨dX12_tree_110, rfl⟩ fX12_71 q_75 yr_12_34 (r_75_34 _) ?_
                    refine G_iconst (nx := 114) ⟨dX12_tree_113, rfl⟩ ci_0 ?_
                    refine G_lald (nx := 115) (k := 95) ⟨dX12_tree_114, rfl⟩ q_95 (by first | assumption | decide | (unfold vp_in; decide)) ?_
                    refine G_goto (tgt := 124) ⟨dX12_tree_115, rfl⟩ rfl ?_
                    refine G_lret ⟨dX12_tree_124, rfl⟩ rfl ?_
                    have fin := hk J1 _ (by omega) c_6 c_26 hhow
                    rw [trV] at fin
                    rw [if_pos (Or.inr c_90)] at fin
                    rw [lg_cmp_ge, ec0, q1, q2] at c_106
                    rw [if_neg c_106] at fin
                    rw [ec0]
                    rw [q1]
                    exact fin
            · refine G_iconst (nx := 79) ⟨dX12_tree_78, rfl⟩ ci_1 ?_
              refine G_goto (tgt := 83) ⟨dX12_tree_79, rfl⟩ rfl ?_
              refine G_istore_2 (nx := 84) ⟨dX12_tree_83, rfl⟩ rfl rfl ?_
              refine G_iload_1 (nx := 85) ⟨dX12_tree_84, rfl⟩ ?_
              refine G_ifeq (tgt := 93) (nx := 88) ⟨dX12_tree_85, rfl⟩ rfl (fun c_85 => ?_) (fun c_85 => ?_)
              · refine G_aload_0 (nx := 94) ⟨dX12_tree_93, rfl⟩ ?_
                refine G_getr (nx := 97) (k := 75) (r := 95) ⟨dX12_tree_94, rfl⟩ fX12_71 q_75 yr_12_34 (r_75_34 _) ?_
                refine G_iconst (nx := 98) ⟨dX12_tree_97, rfl⟩ ci_0 ?_
                refine G_lald (nx := 99) (k := 95) ⟨dX12_tree_98, rfl⟩ q_95 (by first | assumption | decide | (unfold vp_in; decide)) ?_
                refine G_aload_0 (nx := 100) ⟨dX12_tree_99, rfl⟩ ?_
                refine G_getr (nx := 103) (k := 75) (r := 96) ⟨dX12_tree_100, rfl⟩ fX12_75 q_75 yr_12_35 (r_75_35 _) ?_
                refine G_iconst (nx := 104) ⟨dX12_tree_103, rfl⟩ ci_0 ?_
                refine G_lald (nx := 105) (k := 96) ⟨dX12_tree_104, rfl⟩ q_96 (by first | assumption | decide | (unfold vp_in; decide)) ?_
                refine G_lcmp (nx := 106) ⟨dX12_tree_105, rfl⟩ ?_
                refine G_ifge (tgt := 118) (nx := 109) ⟨dX12_tree_106, rfl⟩ rfl (fun c_106 => ?_) (fun c_106 => ?_)
                · refine G_aload_0 (nx := 119) ⟨dX12_tree_118, rfl⟩ ?_
                  refine G_getr (nx := 122) (k := 75) (r := 96) ⟨dX12_tree_119, rfl⟩ fX12_75 q_75 yr_12_35 (r_75_35 _) ?_
                  refine G_iconst (nx := 123) ⟨dX12_tree_122, rfl⟩ ci_0 ?_
                  refine G_lald (nx := 124) (k := 96) ⟨dX12_tree_123, rfl⟩ q_96 (by first | assumption | decide | (unfold vp_in; decide)) ?_
                  refine G_lret ⟨dX12_tree_124, rfl⟩ rfl ?_
                  have fin := hk J1 _ (by omega) c_6 c_26 hhow
                  rw [trV] at fin
                  rw [if_pos (Or.inl c_85)] at fin
                  rw [lg_cmp_ge, ec0, q1, q2] at c_106
                  rw [if_pos c_106] at fin
                  rw [ec0]
                  rw [q2]
                  exact fin
                · refine G_aload_0 (nx := 110) ⟨dX12_tree_109, rfl⟩ ?_
                  refine G_getr (nx := 113) (k := 75) (r := 95) ⟨dX12_tree_110, rfl⟩ fX12_71 q_75 yr_12_34 (r_75_34 _) ?_
                  refine G_iconst (nx := 114) ⟨dX12_tree_113, rfl⟩ ci_0 ?_
                  refine G_lald (nx := 115) (k := 95) ⟨dX12_tree_114, rfl⟩ q_95 (by first | assumption | decide | (unfold vp_in; decide)) ?_
                  refine G_goto (tgt := 124) ⟨dX12_tree_115, rfl⟩ rfl ?_
                  refine G_lret ⟨dX12_tree_124, rfl⟩ rfl ?_
                  have fin := hk J1 _ (by omega) c_6 c_26 hhow
                  rw [trV] at fin
                  rw [if_pos (Or.inl c_85)] at fin
                  rw [lg_cmp_ge, ec0, q1, q2] at c_106
                  rw [if_neg c_106] at fin
                  rw [ec0]
                  rw [q1]
                  exact fin
              · refine G_iload_1 (nx := 89) ⟨dX12_tree_88, rfl⟩ ?_
                refine G_iconst (nx := 90) ⟨dX12_tree_89, rfl⟩ ci_3 ?_
                refine G_icmpne (tgt := 125) (nx := 93) ⟨dX12_tree_90, rfl⟩ rfl (fun c_90 => ?_) (fun c_90 => ?_)
                · refine G_iload_2 (nx := 126) ⟨dX12_tree_125, rfl⟩ ?_
                  refine G_ifeq (tgt := 145) (nx := 129) ⟨dX12_tree_126, rfl⟩ rfl (fun c_126 => ?_) (fun c_126 => ?_)
                  · exact absurd c_126 (by decide)
                  · refine G_aload_0 (nx := 130) ⟨dX12_tree_129, rfl⟩ ?_
                    refine G_getr (nx := 133) (k := 75) (r := 97) ⟨dX12_tree_130, rfl⟩ fX12_78 q_75 yr_12_36 (r_75_36 _) ?_
                    refine G_iconst (nx := 134) ⟨dX12_tree_133, rfl⟩ ci_0 ?_
                    refine G_lald (nx := 135) (k := 97) ⟨dX12_tree_134, rfl⟩ q_97 (by first | assumption | decide | (unfold vp_in; decide)) ?_
                    refine G_aload_0 (nx := 136) ⟨dX12_tree_135, rfl⟩ ?_
                    refine G_getr (nx := 139) (k := 75) (r := 98) ⟨dX12_tree_136, rfl⟩ fX12_81 q_75 yr_12_37 (r_75_37 _) ?_
                    refine G_iconst (nx := 140) ⟨dX12_tree_139, rfl⟩ ci_0 ?_
                    refine G_lald (nx := 141) (k := 98) ⟨dX12_tree_140, rfl⟩ q_98 (by first | assumption | decide | (unfold vp_in; decide)) ?_
                    refine G_ladd (nx := 142) ⟨dX12_tree_141, rfl⟩ ?_
                    refine G_goto (tgt := 176) ⟨dX12_tree_142, rfl⟩ rfl ?_
                    refine G_lret ⟨dX12_tree_176, rfl⟩ rfl ?_
                    have fin := hk J1 _ (by omega) c_6 c_26 hhow
                    rw [trV] at fin
                    rw [if_neg (fun h => h.elim c_85 c_90)] at fin
                    rw [lg_cmp_eq, ec0, q1, q2] at c_75
                    rw [if_pos (Or.inr c_75)] at fin
                    rw [ec0, q3, q4]
                    exact fin
                · refine G_aload_0 (nx := 94) ⟨dX12_tree_93, rfl⟩ ?_
                  refine G_getr (nx := 97) (k := 75) (r := 95) ⟨dX12_tree_94, rfl⟩ fX12_71 q_75 yr_12_34 (r_75_34 _) ?_
                  refine G_iconst (nx := 98) ⟨dX12_tree_97, rfl⟩ ci_0 ?_
                  refine G_lald (nx := 99) (k := 95) ⟨dX12_tree_98, rfl⟩ q_95 (by first | assumption | decide | (unfold vp_in; decide)) ?_
                  refine G_aload_0 (nx := 100) ⟨dX12_tree_99, rfl⟩ ?_
                  refine G_getr (nx := 103) (k := 75) (r := 96) ⟨dX12_tree_100, rfl⟩ fX12_75 q_75 yr_12_35 (r_75_35 _) ?_
                  refine G_iconst (nx := 104) ⟨dX12_tree_103, rfl⟩ ci_0 ?_
                  refine G_lald (nx := 105) (k := 96) ⟨dX12_tree_104, rfl⟩ q_96 (by first | assumption | decide | (unfold vp_in; decide)) ?_
                  refine G_lcmp (nx := 106) ⟨dX12_tree_105, rfl⟩ ?_
                  refine G_ifge (tgt := 118) (nx := 109) ⟨dX12_tree_106, rfl⟩ rfl (fun c_106 => ?_) (fun c_106 => ?_)
                  · refine G_aload_0 (nx := 119) ⟨dX12_tree_118, rfl⟩ ?_
                    refine G_getr (nx := 122) (k := 75) (r := 96) ⟨dX12_tree_119, rfl⟩ fX12_75 q_75 yr_12_35 (r_75_35 _) ?_
                    refine G_iconst (nx := 123) ⟨dX12_tree_122, rfl⟩ ci_0 ?_
                    refine G_lald (nx := 124) (k := 96) ⟨dX12_tree_123, rfl⟩ q_96 (by first | assumption | decide | (unfold vp_in; decide)) ?_
                    refine G_lret ⟨dX12_tree_124, rfl⟩ rfl ?_
                    have fin := hk J1 _ (by omega) c_6 c_26 hhow
                    rw [trV] at fin
                    rw [if_pos (Or.inr c_90)] at fin
                    rw [lg_cmp_ge, ec0, q1, q2] at c_106
                    rw [if_pos c_106] at fin
                    rw [ec0]
                    rw [q2]
                    exact fin
                  · refine G_aload_0 (nx := 110) ⟨dX12_tree_109, rfl⟩ ?_
                    refine G_getr (nx := 113) (k := 75) (r := 95) ⟨dX12_tree_110, rfl⟩ fX12_71 q_75 yr_12_34 (r_75_34 _) ?_
                    refine G_iconst (nx := 114) ⟨dX12_tree_113, rfl⟩ ci_0 ?_
                    refine G_lald (nx := 115) (k := 95) ⟨dX12_tree_114, rfl⟩ q_95 (by first | assumption | decide | (unfold vp_in; decide)) ?_
                    refine G_goto (tgt := 124) ⟨dX12_tree_115, rfl⟩ rfl ?_
                    refine G_lret ⟨dX12_tree_124, rfl⟩ rfl ?_
                    have fin := hk J1 _ (by omega) c_6 c_26 hhow
                    rw [trV] at fin
                    rw [if_pos (Or.inr c_90)] at fin
                    rw [lg_cmp_ge, ec0, q1, q2] at c_106
                    rw [if_neg c_106] at fin
                    rw [ec0]
                    rw [q1]
                    exact fin
          
      · refine G_aload_0 (nx := 30) ⟨dX12_tree_29, rfl⟩ ?_
        refine G_cv0 (nx := 33) ⟨dX12_tree_30, rfl⟩ kX12_318 rfl q_75 rfl (Nat.le_of_ble_eq_true rfl) (Nat.le_of_ble_eq_true rfl) (cM_bareOnes hT0 (by omega) (fun J1 => ?_))
        refine G_lret ⟨dX12_tree_33, rfl⟩ rfl ?_
        exact hk5 J1 (by omega) c_26
    · rw [nI_0iff (by omega)] at c_17
      refine G_ldc2 (nx := 23) ⟨dX12_tree_20, rfl⟩ nX12_316 ?_
      refine G_lret ⟨dX12_tree_23, rfl⟩ rfl ?_
      exact hk2 c_6 c_17
  · refine G_ldc2 (nx := 12) ⟨dX12_tree_9, rfl⟩ nX12_184 ?_
    
    refine G_lret ⟨dX12_tree_12, rfl⟩ rfl ?_
    rw [bi_0] at c_6
    exact hk1 c_6

end M54
