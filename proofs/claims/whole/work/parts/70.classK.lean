
/-- the two rows of a pairing as the class keeps them, and who on the right is used -/
def PR (I : AI) (o a b : Nat) (m ml : Nat → Option Nat) (U : Nat) : Prop := (∀ x r, m x = some r ↔ ml r = some x) ∧ (∀ x, x < 12 → I b x = mv (m x)) ∧ (∀ r, r < 12 → I a r = mv (ml r)) ∧ I o 4 = nI U ∧ U < 4096 ∧ ∀ x, U.testBit x = (m x).isSome
theorem BQ_i {I : AI} {c e n : Nat} {gr : Nat → Nat} {B : Nat} {m : Nat → Option Nat} {start Q i sz : Nat} {wq rk : Nat → Nat} (h : BQ I c e n gr B m start Q i sz wq rk) : BQ I c e n gr B m start Q (i + 1) sz wq rk := by
  obtain ⟨h0, h1, h2, h3, h4, h5, h6⟩ := h
  exact ⟨h0, h1, h2, h3, h4, fun q hq => ⟨by have := (h5 q hq).1; omega, (h5 q hq).2⟩, h6⟩
theorem BQ_Q {I : AI} {c e n : Nat} {gr : Nat → Nat} {B : Nat} {m : Nat → Option Nat} {start Q Q' i sz : Nat} {wq rk : Nat → Nat} (hq : Q = Q') (h : BQ I c e n gr B m start Q i sz wq rk) : BQ I c e n gr B m start Q' i sz wq rk := hq ▸ h
theorem BQ_sz {I : AI} {c e n : Nat} {gr : Nat → Nat} {B : Nat} {m : Nat → Option Nat} {start Q i sz : Nat} {wq rk : Nat → Nat} (h : BQ I c e n gr B m start Q i sz wq rk) : sz ≤ 12 := by
  obtain ⟨Wb, -, h1, -⟩ := h.2.2.2.2.2.2
  have := pc_le Wb
  omega
theorem low_s {F S t : Nat} : S ||| (F &&& (2 ^ (t + 1) - 1)) = if F.testBit t = true then (S ||| (F &&& (2 ^ t - 1))) ||| 2 ^ t else S ||| (F &&& (2 ^ t - 1)) := by
  apply Nat.eq_of_testBit_eq
  intro x
  by_cases hF : F.testBit t = true
  · rw [if_pos hF, Nat.testBit_or, Nat.testBit_and, Nat.testBit_two_pow_sub_one, Nat.testBit_or, Nat.testBit_or, Nat.testBit_and, Nat.testBit_two_pow_sub_one, tb_pow]
    by_cases e : x = t
    · subst e; simp [hF]
    · have h1 : decide (x < t + 1) = decide (x < t) := by congr 1; apply propext; omega
      have h2 : decide (t = x) = false := decide_eq_false (fun z => e z.symm)
      rw [h1, h2, Bool.or_false]
  · rw [if_neg hF, Nat.testBit_or, Nat.testBit_and, Nat.testBit_two_pow_sub_one, Nat.testBit_or, Nat.testBit_and, Nat.testBit_two_pow_sub_one]
    by_cases e : x = t
    · subst e
      rw [Bool.not_eq_true] at hF
      simp [hF]
    · have h1 : decide (x < t + 1) = decide (x < t) := by congr 1; apply propext; omega
      rw [h1]
theorem low_12 {F S : Nat} (hF : F < 4096) : S ||| (F &&& (2 ^ 12 - 1)) = S ||| F := by
  rw [Nat.and_two_pow_sub_one_eq_mod, Nat.mod_eq_of_lt (by omega)]
theorem low_0 {F S : Nat} : S ||| (F &&& (2 ^ 0 - 1)) = S := by simp
section X70
variable {l : Launch} {d : Nat} {K : AK} {I : AI} {J : AJ} {g : Bool} {n : Nat} {gr : Nat → Nat}

theorem lH_in {o a b c e k : Nat} (hH : HT o a b c e) (hk12 : isA k 12) (hko : k < o) {A B start : Nat} {m ml : Nat → Option Nat} {U : Nat} {S F i p sz0 : Nat} {wq0 : Nat → Nat} {x9 : Int32} (hE : EV gr n A B m) (hI : IJ 0 m) (hst : ∀ x, ¬ m x = some start) (hsn : start < n) (hsA : A.testBit start = true) (hB : B < 2 ^ n) (hn : n ≤ 12) (hR : RG I k n gr) (hF4 : F < 2 ^ n) (hS4 : S < 2 ^ n) (hFS : ∀ q, F.testBit q = true → S.testBit q = false ∧ B.testBit q = true ∧ (gr p).testBit q = true ∧ U.testBit q = true) (hi : i < sz0) (hp : wq0 i = p)
    (hgo : ∀ (I' : AI) (sz : Nat) (wq rk : Nat → Nat), sz0 ≤ sz → (∀ j, j < sz0 → wq j = wq0 j) → BQ I' c e n gr B m start (S ||| F) (i + 1) sz wq rk → PR I' o a b m ml U → sb (fMp o) I I' → G l d mX2_pairsOneMore K 187 [.ref o, .ref k, .int (nI start), .int (nI B), .int (nI (S ||| F)), .int (nI sz), .int (nI i), .int (nI p), .int (nI F), .int x9, .int (nI 12)] [] I' J (rX g)) : ∀ (kk t : Nat) (I1 : AI) (sz : Nat) (wq rk : Nat → Nat), 12 - t = kk → t ≤ 12 → sz0 ≤ sz → (∀ j, j < sz0 → wq j = wq0 j) → BQ I1 c e n gr B m start (S ||| (F &&& (2 ^ t - 1))) (i + 1) sz wq rk → PR I1 o a b m ml U → sb (fMp o) I I1 → G l d mX2_pairsOneMore K 115 [.ref o, .ref k, .int (nI start), .int (nI B), .int (nI (S ||| F)), .int (nI sz), .int (nI i), .int (nI p), .int (nI F), .int x9, .int (nI t)] [] I1 J (rX g) := by
  obtain ⟨qa, qb, qc, qe⟩ := hH.2.2.2.2.2.2
  intro kk
  induction kk using Nat.strongRecOn with
  | _ kk ih =>
  intro t I1 sz wq rk htk ht hsz hwq hBQ hPR hs1
  have hF12 : F < 4096 := Nat.lt_of_lt_of_le hF4 (pow12 hn)
  have h12 := BQ_sz hBQ
  refine G_iload_10 (nx := 117) ⟨dX2_pairsOneMore_115, rfl⟩ ?_
  refine G_bipush (nx := 119) ⟨dX2_pairsOneMore_117, rfl⟩ cb_12 ?_
  rw [show (12 : Int32) = nI 12 by decide]
  refine G_icmpge (tgt := 187) (nx := 122) ⟨dX2_pairsOneMore_119, rfl⟩ rfl (fun c_119 => ?_) (fun c_119 => ?_)
  · rw [nI_le_iff (by omega) (by omega)] at c_119
    have e12 : t = 12 := by omega
    subst e12
    exact hgo I1 sz wq rk hsz hwq (BQ_Q (low_12 hF12) hBQ) hPR hs1
  · rw [nI_le_iff (by omega) (by omega)] at c_119
    have ht12 : t < 12 := by omega
    have hit : vp_in (nI t) 12 := vp_in_nI ht12 (by decide)
    have ect := cl_nI (p := t) (by omega)
    refine G_iload_8 (nx := 124) ⟨dX2_pairsOneMore_122, rfl⟩ ?_
    refine G_iload_10 (nx := 126) ⟨dX2_pairsOneMore_124, rfl⟩ ?_
    refine G_ishr (nx := 127) ⟨dX2_pairsOneMore_126, rfl⟩ ?_
    refine G_iconst (nx := 128) ⟨dX2_pairsOneMore_127, rfl⟩ ci_1 ?_
    refine G_iand (nx := 129) ⟨dX2_pairsOneMore_128, rfl⟩ ?_
    rw [bit_nI (lt31 hF12) (by omega)]
    refine G_ifne (tgt := 135) (nx := 132) ⟨dX2_pairsOneMore_129, rfl⟩ rfl (fun c_129 => ?_) (fun c_129 => ?_)
    · rw [bi_n0] at c_129
      obtain ⟨f1, f2, f3, f4⟩ := hFS t c_129
      rw [hPR.2.2.2.2.2 t] at f4
      obtain ⟨r, hr⟩ := Option.isSome_iff_exists.mp f4
      have hrn := hE t r hr
      have hQf : (S ||| (F &&& (2 ^ t - 1))).testBit t = false := by rw [Nat.testBit_or, f1, Nat.testBit_and, Nat.testBit_two_pow_sub_one]; simp
      have hIc : ∀ x y, ¬ x = c → w2 I1 c t (nI p) x y = I1 x y := fun x y h => by rw [w2_row _ _ _ _ h]
      obtain ⟨hs12, wq', rk', hwq', hBQ'⟩ := BQ_add (I' := w2 (w2 I1 c t (nI p)) e sz (nI r)) hn hE hI hst hBQ (show i + 1 ≤ sz by omega) (by omega) hQf f2 hr (by rw [Nat.add_sub_cancel, hwq i hi, hp]; exact f3) (fun x hx => by rw [w2_row _ _ _ _ (show ¬ c = e by omega), w2_ne _ _ _ _ (by omega)]) (by rw [w2_row _ _ _ _ (show ¬ c = e by omega), w2_at, Nat.add_sub_cancel, hwq i hi, hp]) (fun j hj => by rw [w2_ne _ _ _ _ (by omega), w2_row _ _ _ _ (show ¬ e = c by omega)]) (by rw [w2_at])
      have his : vp_in (nI sz) 12 := vp_in_nI hs12 (by decide)
      have ecs := cl_nI (p := sz) (by omega)
      have hs3 : sb (fMp o) I (w2 (w2 I1 c t (nI p)) e sz (nI r)) := (hs1.w (fMp_t (by omega))).w (fMp_t (by omega))
      have hPR3 : PR (w2 (w2 I1 c t (nI p)) e sz (nI r)) o a b m ml U := by
        refine ⟨hPR.1, fun x hx => ?_, fun x hx => ?_, ?_, hPR.2.2.2.2⟩
        · rw [w2_row _ _ _ _ (show ¬ b = e by omega), w2_row _ _ _ _ (show ¬ b = c by omega)]; exact hPR.2.1 x hx
        · rw [w2_row _ _ _ _ (show ¬ a = e by omega), w2_row _ _ _ _ (show ¬ a = c by omega)]; exact hPR.2.2.1 x hx
        · rw [w2_row _ _ _ _ (show ¬ o = e by omega), w2_row _ _ _ _ (show ¬ o = c by omega)]; exact hPR.2.2.2.1
      refine G_aload_0 (nx := 136) ⟨dX2_pairsOneMore_135, rfl⟩ ?_
      refine G_getr (nx := 139) (k := o) (r := c) ⟨dX2_pairsOneMore_136, rfl⟩ fX2_18 hH.1 yr_2_2 (hH.2.2.2.2.2.1 _).2.2.1 ?_
      refine G_iload_10 (nx := 141) ⟨dX2_pairsOneMore_139, rfl⟩ ?_
      refine G_iload_7 (nx := 143) ⟨dX2_pairsOneMore_141, rfl⟩ ?_
      refine G_iast (nx := 144) (k := c) ⟨dX2_pairsOneMore_143, rfl⟩ hH.2.2.2.1 (by first | assumption | decide | (unfold vp_in; decide)) ?_
      rw [ect]
      refine G_aload_0 (nx := 145) ⟨dX2_pairsOneMore_144, rfl⟩ ?_
      refine G_getr (nx := 148) (k := o) (r := b) ⟨dX2_pairsOneMore_145, rfl⟩ fX2_15 hH.1 yr_2_1 (hH.2.2.2.2.2.1 _).2.1 ?_
      refine G_iload_10 (nx := 150) ⟨dX2_pairsOneMore_148, rfl⟩ ?_
      refine G_iald (nx := 151) (k := b) ⟨dX2_pairsOneMore_150, rfl⟩ hH.2.2.1 (by first | assumption | decide | (unfold vp_in; decide)) ?_
      rw [ect, hIc b t (by omega), hPR.2.1 t ht12, hr, show mv (some r) = nI r from rfl]
      refine G_iflt (tgt := 181) (nx := 154) ⟨dX2_pairsOneMore_151, rfl⟩ rfl (fun c_151 => ?_) (fun c_151 => ?_)
      · (rw [← nI_0, nI_lt_iff (by omega) (by omega)] at c_151; omega)
      · refine G_iload_5 (nx := 156) ⟨dX2_pairsOneMore_154, rfl⟩ ?_
        refine G_bipush (nx := 158) ⟨dX2_pairsOneMore_156, rfl⟩ cb_12 ?_
        rw [show (12 : Int32) = nI 12 by decide]
        refine G_icmplt (tgt := 164) (nx := 161) ⟨dX2_pairsOneMore_158, rfl⟩ rfl (fun c_158 => ?_) (fun c_158 => ?_)
        · refine G_aload_0 (nx := 165) ⟨dX2_pairsOneMore_164, rfl⟩ ?_
          refine G_getr (nx := 168) (k := o) (r := e) ⟨dX2_pairsOneMore_165, rfl⟩ fX2_21 hH.1 yr_2_3 (hH.2.2.2.2.2.1 _).2.2.2 ?_
          refine G_iload_5 (nx := 170) ⟨dX2_pairsOneMore_168, rfl⟩ ?_
          refine G_aload_0 (nx := 171) ⟨dX2_pairsOneMore_170, rfl⟩ ?_
          refine G_getr (nx := 174) (k := o) (r := b) ⟨dX2_pairsOneMore_171, rfl⟩ fX2_15 hH.1 yr_2_1 (hH.2.2.2.2.2.1 _).2.1 ?_
          refine G_iload_10 (nx := 176) ⟨dX2_pairsOneMore_174, rfl⟩ ?_
          refine G_iald (nx := 177) (k := b) ⟨dX2_pairsOneMore_176, rfl⟩ hH.2.2.1 (by first | assumption | decide | (unfold vp_in; decide)) ?_
          rw [ect, hIc b t (by omega), hPR.2.1 t ht12, hr, show mv (some r) = nI r from rfl]
          refine G_iast (nx := 178) (k := e) ⟨dX2_pairsOneMore_177, rfl⟩ hH.2.2.2.2.1 (by first | assumption | decide | (unfold vp_in; decide)) ?_
          rw [ecs]
          refine G_iinc_5 (nx := 181) ⟨dX2_pairsOneMore_178, rfl⟩ ci_1 rfl ?_
          refine G_iinc_10 (nx := 184) ⟨dX2_pairsOneMore_181, rfl⟩ ci_1 rfl ?_
          refine G_goto (tgt := 115) ⟨dX2_pairsOneMore_184, rfl⟩ rfl ?_
          refine G_L (by rw [nI_1, nI_1]) (ih (12 - (t + 1)) (by omega) (t + 1) _ (sz + 1) wq' rk' rfl (by omega) (by omega) (fun j hj => (hwq' j (by omega)).trans (hwq j hj)) (BQ_Q (by rw [low_s, if_pos c_129]) hBQ') ?_ hs3)
          exact hPR3
        · (rw [nI_lt_iff (by omega) (by omega)] at c_158; omega)
    · refine G_goto (tgt := 181) ⟨dX2_pairsOneMore_132, rfl⟩ rfl ?_
      refine G_iinc_10 (nx := 184) ⟨dX2_pairsOneMore_181, rfl⟩ ci_1 rfl ?_
      refine G_goto (tgt := 115) ⟨dX2_pairsOneMore_184, rfl⟩ rfl ?_
      rw [bi_0] at c_129
      exact G_L (by rw [nI_1]) (ih (12 - (t + 1)) (by omega) (t + 1) I1 sz wq rk rfl (by omega) hsz hwq (BQ_Q (by rw [low_s, if_neg (by rw [c_129]; decide)]) hBQ) hPR hs1)

theorem lH_out {o a b c e k : Nat} (hH : HT o a b c e) (hk12 : isA k 12) (hko : k < o) {A B start : Nat} {m ml : Nat → Option Nat} {U : Nat} (hE : EV gr n A B m) (hI : IJ 0 m) (hst : ∀ x, ¬ m x = some start) (hsn : start < n) (hsA : A.testBit start = true) (hB : B < 2 ^ n) (hn : n ≤ 12) (hR : RG I k n gr) (hkT : ∀ (I' : AI) (mf mlf : Nat → Option Nat) (U' : Nat), PS gr n A B m 0 start mf → PR I' o a b mf mlf U' → sb (fMp o) I I' → K (.int 1) I' J (rX g)) (hkF : ∀ (I' : AI) (S' : Nat), PF gr B m 0 start S' → PR I' o a b m ml U → sb (fMp o) I I' → K (.int 0) I' J (rX g)) : ∀ (kk i : Nat) (I1 : AI) (S sz : Nat) (wq rk : Nat → Nat) (x7 x8 x9 x10 : Value), notL x7 = true → notL x8 = true → notL x9 = true → notL x10 = true → 13 - i = kk → i ≤ sz → S < 2 ^ n → BQ I1 c e n gr B m start S i sz wq rk → (∀ j, j < i → ∀ q', B.testBit q' = true → (gr (wq j)).testBit q' = true → S.testBit q' = true) → PR I1 o a b m ml U → sb (fMp o) I I1 → G l (d + 1) mX2_pairsOneMore K 16 [.ref o, .ref k, .int (nI start), .int (nI B), .int (nI S), .int (nI sz), .int (nI i), x7, x8, x9, x10] [] I1 J (rX g) := by
  obtain ⟨qa, qb, qc, qe⟩ := hH.2.2.2.2.2.2
  intro kk
  induction kk using Nat.strongRecOn with
  | _ kk ih =>
  intro i I1 S sz wq rk x7 x8 x9 x10 hx7 hx8 hx9 hx10 hik his hS hBQ hCL hPR hs1
  have h12 := BQ_sz hBQ
  have hp12 := pow12 hn
  have hR1 : RG I1 k n gr := hR.sb hs1 (fun _ => fMp_f (by omega))
  have hPF : i = sz → PF gr B m 0 start S := fun ei => by
    obtain ⟨h0, h1, h2, h3, h4, h5, -⟩ := hBQ
    refine ⟨fun q hq => (by rw [z0] at hq; cases hq), fun q hq _ => ?_, fun q' h6 h7 => hCL 0 (by omega) q' h6 (by rw [h1]; exact h7)⟩
    obtain ⟨-, -, r, h6, j, h7, h8⟩ := h3 q hq
    exact ⟨r, h6, fun q' h9 h10 => hCL j (by omega) q' h9 (by rw [h8]; exact h10)⟩
  refine G_iload_6 (nx := 18) ⟨dX2_pairsOneMore_16, rfl⟩ ?_
  refine G_iload_5 (nx := 20) ⟨dX2_pairsOneMore_18, rfl⟩ ?_
  refine G_icmpge (tgt := 193) (nx := 23) ⟨dX2_pairsOneMore_20, rfl⟩ rfl (fun c_20 => ?_) (fun c_20 => ?_)
  · refine G_iconst (nx := 194) ⟨dX2_pairsOneMore_193, rfl⟩ ci_0 ?_
    refine G_zret ⟨dX2_pairsOneMore_194, rfl⟩ rfl (by first | assumption | decide | exact bi_01 _) ?_
    rw [nI_le_iff (by omega) (by omega)] at c_20
    exact hkF I1 S (hPF (by omega)) hPR hs1
  · rw [nI_le_iff (by omega) (by omega)] at c_20
    have hi12 : i < 12 := by omega
    have hii : vp_in (nI i) 12 := vp_in_nI hi12 (by decide)
    have eci := cl_nI (p := i) (by omega)
    obtain ⟨hwi, hpn⟩ := hBQ.2.2.1 i (by omega)
    have hip := in12 hpn hn
    have ecp := cl_nI (p := wq i) (by omega)
    have hgp := hR1.lt hpn
    have hand : gr (wq i) &&& B ≤ B := Nat.and_le_right
    have hFle := df_le (gr (wq i) &&& B) S
    have hOle := df_le (df (gr (wq i) &&& B) S) U
    have hU4 := hPR.2.2.2.2.1
    have hFt : ∀ q, (df (gr (wq i) &&& B) S).testBit q = true ↔ (gr (wq i)).testBit q = true ∧ B.testBit q = true ∧ S.testBit q = false := fun q => by
      rw [tb_df, Nat.testBit_and, Bool.and_eq_true, Bool.and_eq_true, Bool.not_eq_true', and_assoc]
    refine G_iload_6 (nx := 25) ⟨dX2_pairsOneMore_23, rfl⟩ ?_
    refine G_bipush (nx := 27) ⟨dX2_pairsOneMore_25, rfl⟩ cb_12 ?_
    rw [show (12 : Int32) = nI 12 by decide]
    refine G_icmpge (tgt := 193) (nx := 30) ⟨dX2_pairsOneMore_27, rfl⟩ rfl (fun c_27 => ?_) (fun c_27 => ?_)
    · refine G_iconst (nx := 194) ⟨dX2_pairsOneMore_193, rfl⟩ ci_0 ?_
      refine G_zret ⟨dX2_pairsOneMore_194, rfl⟩ rfl (by first | assumption | decide | exact bi_01 _) ?_
      rw [nI_le_iff (by omega) (by omega)] at c_27
      exact hkF I1 S (hPF (by omega)) hPR hs1
    · refine G_aload_0 (nx := 31) ⟨dX2_pairsOneMore_30, rfl⟩ ?_
      refine G_getr (nx := 34) (k := o) (r := e) ⟨dX2_pairsOneMore_31, rfl⟩ fX2_21 hH.1 yr_2_3 (hH.2.2.2.2.2.1 _).2.2.2 ?_
      refine G_iload_6 (nx := 36) ⟨dX2_pairsOneMore_34, rfl⟩ ?_
      refine G_iald (nx := 37) (k := e) ⟨dX2_pairsOneMore_36, rfl⟩ hH.2.2.2.2.1 (by first | assumption | decide | (unfold vp_in; decide)) ?_
      rw [eci, hwi]
      refine G_istore_7 (nx := 39) ⟨dX2_pairsOneMore_37, rfl⟩ rfl rfl ?_
      refine G_aload_1 (nx := 40) ⟨dX2_pairsOneMore_39, rfl⟩ ?_
      refine G_iload_7 (nx := 42) ⟨dX2_pairsOneMore_40, rfl⟩ ?_
      refine G_iald (nx := 43) (k := k) ⟨dX2_pairsOneMore_42, rfl⟩ hk12 (by first | assumption | decide | (unfold vp_in; decide)) ?_
      rw [hR1.row hpn]
      refine G_iload_3 (nx := 44) ⟨dX2_pairsOneMore_43, rfl⟩ ?_
      refine G_iand (nx := 45) ⟨dX2_pairsOneMore_44, rfl⟩ ?_
      rw [nI_and]
      refine G_iload_4 (nx := 47) ⟨dX2_pairsOneMore_45, rfl⟩ ?_
      refine G_iconst (nx := 48) ⟨dX2_pairsOneMore_47, rfl⟩ ci_m1 ?_
      refine G_ixor (nx := 49) ⟨dX2_pairsOneMore_48, rfl⟩ ?_
      refine G_iand (nx := 50) ⟨dX2_pairsOneMore_49, rfl⟩ ?_
      rw [nI_df _ (by omega)]
      refine G_istore_8 (nx := 52) ⟨dX2_pairsOneMore_50, rfl⟩ rfl rfl ?_
      refine G_iload_8 (nx := 54) ⟨dX2_pairsOneMore_52, rfl⟩ ?_
      refine G_aload_0 (nx := 55) ⟨dX2_pairsOneMore_54, rfl⟩ ?_
      refine G_geti (nx := 58) (k := o) ⟨dX2_pairsOneMore_55, rfl⟩ fX2_24 hH.1 yi_2_4 ?_
      rw [hPR.2.2.2.1]
      refine G_iconst (nx := 59) ⟨dX2_pairsOneMore_58, rfl⟩ ci_m1 ?_
      refine G_ixor (nx := 60) ⟨dX2_pairsOneMore_59, rfl⟩ ?_
      refine G_iand (nx := 61) ⟨dX2_pairsOneMore_60, rfl⟩ ?_
      rw [nI_df _ (by omega)]
      refine G_istore_9 (nx := 63) ⟨dX2_pairsOneMore_61, rfl⟩ rfl rfl ?_
      refine G_iload_9 (nx := 65) ⟨dX2_pairsOneMore_63, rfl⟩ ?_
      refine G_ifeq (tgt := 105) (nx := 68) ⟨dX2_pairsOneMore_65, rfl⟩ rfl (fun c_65 => ?_) (fun c_65 => ?_)
      · refine G_iload_4 (nx := 107) ⟨dX2_pairsOneMore_105, rfl⟩ ?_
        refine G_iload_8 (nx := 109) ⟨dX2_pairsOneMore_107, rfl⟩ ?_
        refine G_ior (nx := 110) ⟨dX2_pairsOneMore_109, rfl⟩ ?_
        refine G_istore_4 (nx := 112) ⟨dX2_pairsOneMore_110, rfl⟩ rfl rfl ?_
        refine G_iconst (nx := 113) ⟨dX2_pairsOneMore_112, rfl⟩ ci_0 ?_
        refine G_istore_10 (nx := 115) ⟨dX2_pairsOneMore_113, rfl⟩ rfl rfl ?_
        have hO0 : df (df (gr (wq i) &&& B) S) U = 0 := (nI_0iff (by omega)).mp c_65
        rw [nI_or]
        have hFU : ∀ q, (df (gr (wq i) &&& B) S).testBit q = true → S.testBit q = false ∧ B.testBit q = true ∧ (gr (wq i)).testBit q = true ∧ U.testBit q = true := fun q hq => by
          have h1 := (hFt q).mp hq
          exact ⟨h1.2.2, h1.2.1, h1.1, df_0.mp hO0 q hq⟩
        refine G_L (by rw [← nI_0]) (lH_in (d := d + 1) (wq0 := wq) (sz0 := sz) (S := S) hH hk12 hko hE hI hst hsn hsA hB hn hR1 (Nat.lt_of_le_of_lt hFle (Nat.lt_of_le_of_lt hand hB)) hS hFU (show i < sz by omega) rfl (fun I2 sz2 wq2 rk2 k1 k2 k3 k4 k5 => ?_) _ 0 I1 sz wq rk rfl (by omega) (Nat.le_refl _) (fun _ _ => rfl) (BQ_Q low_0.symm (BQ_i hBQ)) hPR sb.rf)
        refine G_iinc_6 (nx := 190) ⟨dX2_pairsOneMore_187, rfl⟩ ci_1 rfl ?_
        refine G_goto (tgt := 16) ⟨dX2_pairsOneMore_190, rfl⟩ rfl ?_
        exact G_L (by rw [nI_1]) (ih (13 - (i + 1)) (by omega) (i + 1) I2 _ sz2 wq2 rk2 _ _ _ _ rfl rfl rfl rfl rfl (by omega) (Nat.or_lt_two_pow hS (Nat.lt_of_le_of_lt hFle (Nat.lt_of_le_of_lt hand hB))) k3 (fun j hj q' h1 h2 => by
          rw [k2 j (by omega)] at h2
          rw [Nat.testBit_or, Bool.or_eq_true]
          by_cases ej : j = i
          · rw [ej] at h2
            cases t : S.testBit q' with
            | true => exact Or.inl rfl
            | false => exact Or.inr ((hFt q').mpr ⟨h2, h1, t⟩)
          · exact Or.inl (hCL j (by omega) q' h1 h2)) k4 (hs1.tr k5))
        
      · have hO0 : ¬ df (df (gr (wq i) &&& B) S) U = 0 := fun z => c_65 (by rw [z]; rfl)
        have hO4 : df (df (gr (wq i) &&& B) S) U < 4096 := by omega
        obtain ⟨o1, o2, o3⟩ := fb_s hO4 hO0
        have hl12 := tb_lt hO4 o2
        generalize hlast : fb (df (df (gr (wq i) &&& B) S) U) = last at *
        rw [tb_df, Bool.and_eq_true, Bool.not_eq_true', hFt] at o2
        obtain ⟨⟨p1, p2, p3⟩, p4⟩ := o2
        have hlm : m last = none := by
          rw [hPR.2.2.2.2.2 last] at p4
          cases q : m last with
          | none => rfl
          | some r => rw [q] at p4; cases p4
        have hln : last < n := tb_ltn hB p2
        have hil := in12 hln hn
        have ecl := cl_nI (p := last) (by omega)
        have hpw : 2 ^ last < 2 ^ 12 := Nat.pow_lt_pow_right (by omega) (by omega)
        refine G_iload_9 (nx := 70) ⟨dX2_pairsOneMore_68, rfl⟩ ?_
        refine G_cs1 (nx := 73) ⟨dX2_pairsOneMore_70, rfl⟩ kX2_47 rfl rfl (Nat.le_of_ble_eq_true rfl) (Nat.le_of_ble_eq_true rfl) (cJ_tz hO4 hO0 ?_)
        rw [hlast]
        refine G_istore_10 (nx := 75) ⟨dX2_pairsOneMore_73, rfl⟩ rfl rfl ?_
        refine G_aload_0 (nx := 76) ⟨dX2_pairsOneMore_75, rfl⟩ ?_
        refine G_getr (nx := 79) (k := o) (r := c) ⟨dX2_pairsOneMore_76, rfl⟩ fX2_18 hH.1 yr_2_2 (hH.2.2.2.2.2.1 _).2.2.1 ?_
        refine G_iload_10 (nx := 81) ⟨dX2_pairsOneMore_79, rfl⟩ ?_
        refine G_iload_7 (nx := 83) ⟨dX2_pairsOneMore_81, rfl⟩ ?_
        refine G_iast (nx := 84) (k := c) ⟨dX2_pairsOneMore_83, rfl⟩ hH.2.2.2.1 (by first | assumption | decide | (unfold vp_in; decide)) ?_
        rw [ecl]
        refine G_aload_0 (nx := 85) ⟨dX2_pairsOneMore_84, rfl⟩ ?_
        refine G_dup (nx := 86) ⟨dX2_pairsOneMore_85, rfl⟩ rfl ?_
        refine G_geti (nx := 89) (k := o) ⟨dX2_pairsOneMore_86, rfl⟩ fX2_24 hH.1 yi_2_4 ?_
        rw [w2_row _ _ _ _ (show ¬ o = c by omega), hPR.2.2.2.1]
        refine G_iconst (nx := 90) ⟨dX2_pairsOneMore_89, rfl⟩ ci_1 ?_
        refine G_iload_10 (nx := 92) ⟨dX2_pairsOneMore_90, rfl⟩ ?_
        refine G_ishl (nx := 93) ⟨dX2_pairsOneMore_92, rfl⟩ ?_
        refine G_ior (nx := 94) ⟨dX2_pairsOneMore_93, rfl⟩ ?_
        rw [one_shl (show last < 31 by omega), nI_or]
        refine G_puti (nx := 97) (k := o) ⟨dX2_pairsOneMore_94, rfl⟩ pX2_24 hH.1 yt_2_4 ?_
        refine G_aload_0 (nx := 98) ⟨dX2_pairsOneMore_97, rfl⟩ ?_
        refine G_iload_10 (nx := 100) ⟨dX2_pairsOneMore_98, rfl⟩ ?_
        have hSl : ∀ x, S.testBit x = true → ¬ x = last := fun x hx e0 => by rw [e0, p3] at hx; cases hx
        have hBQ5 := hBQ.2.2.2.2.2.1
        have hchA : ∃ An, CHf gr B m start (upd1 (fun x => wq (rk x)) last (wq i)) (i + 1) last An ∧ ∀ x, An.testBit x = true → (S ||| 2 ^ last).testBit x = true ∧ (m x).isSome = true := by
          rcases Nat.eq_zero_or_pos i with z | z
          · refine ⟨0, ⟨p2, by rw [upd1_at]; exact p1, z0 _, Or.inl ⟨by rw [upd1_at, z]; exact hBQ.2.1, rfl⟩⟩, fun x hx => by rw [z0] at hx; cases hx⟩
          · obtain ⟨q', c1, c2, c3⟩ := hBQ.2.2.2.2.1 i z (by omega)
            obtain ⟨An', d1, d2⟩ := CHf_ex hBQ (rk q') q' rfl c1
            have hup : ∀ f f' q An, f ≤ f' → CHf gr B m start (upd1 (fun x => wq (rk x)) last (wq i)) f q An → CHf gr B m start (upd1 (fun x => wq (rk x)) last (wq i)) f' q An := by
              intro f
              induction f with
              | zero => intro f' q An _ hc; exact hc.elim
              | succ f ih2 =>
                intro f' q An hf hc
                obtain ⟨f'', rfl⟩ : ∃ f'', f' = f'' + 1 := ⟨f' - 1, by omega⟩
                obtain ⟨e1, e2, e3, e4⟩ := hc
                refine ⟨e1, e2, e3, ?_⟩
                rcases e4 with e4 | ⟨x, y, g1, g2, g3⟩
                · exact Or.inl e4
                · exact Or.inr ⟨x, y, g1, g2, ih2 f'' x y (by omega) g3⟩
            refine ⟨An' ||| 2 ^ q', ⟨p2, by rw [upd1_at]; exact p1, ?_, Or.inr ⟨q', An', by rw [upd1_at]; exact c2, rfl, hup _ _ _ _ (by omega) (CHf_ne (fun x hx => upd1_ne hx) hlm _ _ _ (hSl q' c1) d1)⟩⟩, fun x hx => ?_⟩
            · rw [tb_ins_f]
              refine ⟨?_, fun e0 => hSl q' c1 e0.symm⟩
              cases t : An'.testBit last with
              | false => rfl
              | true => exact absurd rfl (hSl last (d2 last t).1)
            · rw [tb_ins, Bool.or_eq_true, decide_eq_true_eq] at hx
              rcases hx with hx | hx
              · have hx1 := (d2 x hx).1
                obtain ⟨-, -, r, hr, -⟩ := hBQ.2.2.2.1 x hx1
                exact ⟨by rw [tb_ins, hx1]; rfl, by rw [hr]; rfl⟩
              · rw [← hx]; exact ⟨by rw [tb_ins, c1]; rfl, by rw [c2]; rfl⟩
        obtain ⟨An, hch, hAn⟩ := hchA
        refine G_cvv1 (nx := 103) ⟨dX2_pairsOneMore_100, rfl⟩ kX2_53 rfl hH.1 rfl (Nat.le_of_ble_eq_true rfl) (Nat.le_of_ble_eq_true rfl) (cH_shift (pa := upd1 (fun x => wq (rk x)) last (wq i)) (Qs := S ||| 2 ^ last) hH hn hE hI hst hsn hsA hB hlm (fun x hx => by
    rw [w2_row _ _ _ _ (show ¬ c = o by omega)]
    by_cases ex : x = last
    · rw [ex, w2_at, upd1_at]; exact ⟨rfl, hpn⟩
    · rw [w2_ne _ _ _ _ (by omega), upd1_ne ex]
      rw [tb_ins, Bool.or_eq_true, decide_eq_true_eq] at hx
      have hx' := hx.resolve_right (fun z => ex z.symm)
      exact ⟨(hBQ5 x hx').2.2.1, (hBQ.2.2.1 (rk x) (hBQ5 x hx').2.1).2⟩) hch (by omega) hPR.1 (by rw [tb_ins]; simp) hAn (fun x hx => by rw [w2_row _ _ _ _ (show ¬ b = o by omega), w2_row _ _ _ _ (show ¬ b = c by omega)]; exact hPR.2.1 x hx) (fun x hx => by rw [w2_row _ _ _ _ (show ¬ a = o by omega), w2_row _ _ _ _ (show ¬ a = c by omega)]; exact hPR.2.2.1 x hx) (fun I2 mf mlf hPS hiv hfb hfa hdm hls hoth => ?_))
        refine G_iconst (nx := 104) ⟨dX2_pairsOneMore_103, rfl⟩ ci_1 ?_
        refine G_zret ⟨dX2_pairsOneMore_104, rfl⟩ rfl (by first | assumption | decide | exact bi_01 _) ?_
        refine hkT I2 mf mlf (U ||| 2 ^ last) hPS ⟨hiv, hfb, hfa, ?_, Nat.or_lt_two_pow (n := 12) (by omega) hpw, fun x => ?_⟩ ?_
        · rw [hoth o 4 (by omega) (by omega), w2_at]
        · rw [tb_ins]
          by_cases ex : x = last
          · rw [ex, hls]; simp
          · rw [hdm x ex, ← hPR.2.2.2.2.2 x, decide_eq_false (fun z => ex z.symm), Bool.or_false]
        · intro x y hxy
          by_cases ea : x = a
          · rw [ea, fMp_t (by omega)] at hxy; cases hxy
          by_cases eb : x = b
          · rw [eb, fMp_t (by omega)] at hxy; cases hxy
          rw [hoth x y ea eb]
          exact ((hs1.w (fMp_t (by omega))).w fMp_o) x y hxy

theorem cH_one {o a b c e k : Nat} (hH : HT o a b c e) (hk12 : isA k 12) (hko : k < o) {A B start : Nat} {m ml : Nat → Option Nat} {U : Nat} (hE : EV gr n A B m) (hI : IJ 0 m) (hst : ∀ x, ¬ m x = some start) (hsn : start < n) (hsA : A.testBit start = true) (hB : B < 2 ^ n) (hn : n ≤ 12) (hR : RG I k n gr) (hPR : PR I o a b m ml U) (hkT : ∀ (I' : AI) (mf mlf : Nat → Option Nat) (U' : Nat), PS gr n A B m 0 start mf → PR I' o a b mf mlf U' → sb (fMp o) I I' → K (.int 1) I' J (rX g)) (hkF : ∀ (I' : AI) (S' : Nat), PF gr B m 0 start S' → PR I' o a b m ml U → sb (fMp o) I I' → K (.int 0) I' J (rX g)) : G l (d + 1) mX2_pairsOneMore K 0 [.ref o, .ref k, .int (nI start), .int (nI B), UU, UU, UU, UU, UU, UU, UU] [] I J (rX g) := by
  obtain ⟨qa, qb, qc, qe⟩ := hH.2.2.2.2.2.2
  have hi0 : vp_in (0 : Int32) 12 := vp_in_nI (n := 0) (by decide) (by decide)
  have ec0 : (0 : Int32).toNatClampNeg = 0 := by decide
  refine G_iconst (nx := 1) ⟨dX2_pairsOneMore_0, rfl⟩ ci_0 ?_
  refine G_istore_4 (nx := 3) ⟨dX2_pairsOneMore_1, rfl⟩ rfl rfl ?_
  refine G_iconst (nx := 4) ⟨dX2_pairsOneMore_3, rfl⟩ ci_1 ?_
  refine G_istore_5 (nx := 6) ⟨dX2_pairsOneMore_4, rfl⟩ rfl rfl ?_
  refine G_aload_0 (nx := 7) ⟨dX2_pairsOneMore_6, rfl⟩ ?_
  refine G_getr (nx := 10) (k := o) (r := e) ⟨dX2_pairsOneMore_7, rfl⟩ fX2_21 hH.1 yr_2_3 (hH.2.2.2.2.2.1 _).2.2.2 ?_
  refine G_iconst (nx := 11) ⟨dX2_pairsOneMore_10, rfl⟩ ci_0 ?_
  refine G_iload_2 (nx := 12) ⟨dX2_pairsOneMore_11, rfl⟩ ?_
  refine G_iast (nx := 13) (k := e) ⟨dX2_pairsOneMore_12, rfl⟩ hH.2.2.2.2.1 (by first | assumption | decide | (unfold vp_in; decide)) ?_
  rw [ec0]
  refine G_iconst (nx := 14) ⟨dX2_pairsOneMore_13, rfl⟩ ci_0 ?_
  refine G_istore_6 (nx := 16) ⟨dX2_pairsOneMore_14, rfl⟩ rfl rfl ?_
  refine G_L (by rw [← nI_0, show (1 : Int32) = nI 1 by decide]) (lH_out hH hk12 hko hE hI hst hsn hsA hB hn hR hkT hkF _ 0 _ 0 1 (fun _ => start) (fun _ => 0) UU UU UU UU rfl rfl rfl rfl rfl (by omega) (Nat.two_pow_pos n) ?_ (fun j hj => absurd hj (by omega)) ?_ (sb.rf.w (fMp_t (by omega))))
  · refine ⟨Nat.le_refl _, rfl, fun j hj => ?_, fun q hq => (by rw [z0] at hq; cases hq), fun j h1 h2 => absurd h2 (by omega), fun q hq => (by rw [z0] at hq; cases hq), 2 ^ start, Nat.lt_of_lt_of_le (Nat.pow_lt_pow_right (by omega) hsn) (pow12 hn), ?_, fun x => ?_⟩
    · rw [show j = 0 by omega, w2_at]; exact ⟨rfl, hsn⟩
    · have := pc_del (a := 2 ^ start) (p := start) (by omega) (by rw [tb_pow]; simp)
      have := pc_pow (p := start)
      omega
    · rw [tb_pow, decide_eq_true_eq]
      constructor
      · intro z; exact ⟨0, by omega, z⟩
      · rintro ⟨j, -, z⟩; exact z
  · refine ⟨hPR.1, fun x hx => ?_, fun x hx => ?_, ?_, hPR.2.2.2.2⟩
    · rw [w2_row _ _ _ _ (show ¬ b = e by omega)]; exact hPR.2.1 x hx
    · rw [w2_row _ _ _ _ (show ¬ a = e by omega)]; exact hPR.2.2.1 x hx
    · rw [w2_row _ _ _ _ (show ¬ o = e by omega)]; exact hPR.2.2.2.1

end X70
