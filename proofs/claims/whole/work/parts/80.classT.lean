
/-- the class's search: nodes so far (of the refused those of rt), what is wanted -/
def SY (I : AI) (t rt : List ND) (wt : Int32) : Prop := I 35 2 = nI t.length ∧ I 35 3 = nI (rfc rt) ∧ I 35 4 = nI (dpm t) ∧ I 35 7 = wt ∧ (∀ i nd, i < 60 → t[i]? = some nd → I 36 i = mv nd.1) ∧ ∀ i nd, t[i]? = some nd → nI i = wt → I 35 8 = mv nd.1 ∧ I 35 9 = nI nd.2.1 ∧ I 35 10 = nI nd.2.2.1 ∧ I 35 11 = iI nd.2.2.2.1 ∧ I 35 12 = nI nd.2.2.2.2.1
def FN (I : AI) (r : Option Nat) : Prop := match r with | none => I 35 6 = 0 | some x => I 35 6 = 1 ∧ I 35 5 = nI x
def fSr (x _ : Nat) : Bool := decide (35 ≤ x) && decide (x ≤ 41)
theorem fSr_f {x y : Nat} (h : x < 35 ∨ 41 < x) : fSr x y = false := by
  simp only [fSr, Bool.and_eq_false_iff, decide_eq_false_iff_not]
  omega
theorem sb_MS {I I' : AI} (h : sb (fMp 37) I I') : sb fSr I I' := h.mono (fun x y hf => by
  simp only [fSr, Bool.and_eq_false_iff, decide_eq_false_iff_not] at hf
  exact fMp_f (by omega))
theorem SY_M {I I' : AI} {t rt : List ND} {wt : Int32} (h : SY I t rt wt) (hs : sb (fMp 37) I I') : SY I' t rt wt := by
  have e : ∀ x y, x < 37 → I' x y = I x y := fun x y hx => hs x y (fMp_f (by omega))
  obtain ⟨h1, h2, h3, h4, h5, h6⟩ := h
  refine ⟨by rw [e _ _ (by omega)]; exact h1, by rw [e _ _ (by omega)]; exact h2, by rw [e _ _ (by omega)]; exact h3, by rw [e _ _ (by omega)]; exact h4, fun i nd hi hn => by rw [e _ _ (by omega)]; exact h5 i nd hi hn, fun i nd hn hw => ?_⟩
  rw [e _ _ (by omega), e _ _ (by omega), e _ _ (by omega), e _ _ (by omega), e _ _ (by omega)]
  exact h6 i nd hn hw
theorem SY_rec {I I' : AI} {t : List ND} {wt : Int32} {nd : ND} (h : SY I t t wt) (ht : t.length < 20000) (e2 : I' 35 2 = nI (t.length + 1)) (e3 : I' 35 3 = I 35 3) (e4 : I' 35 4 = nI (dpm (t ++ [nd]))) (e7 : I' 35 7 = I 35 7) (eb : ∀ i, i < 60 → ¬ i = t.length → I' 36 i = I 36 i) (en : t.length < 60 → I' 36 t.length = mv nd.1)
    (ew : nI t.length = wt → I' 35 8 = mv nd.1 ∧ I' 35 9 = nI nd.2.1 ∧ I' 35 10 = nI nd.2.2.1 ∧ I' 35 11 = iI nd.2.2.2.1 ∧ I' 35 12 = nI nd.2.2.2.2.1) (eo : ¬ nI t.length = wt → ∀ j, 8 ≤ j → I' 35 j = I 35 j) : SY I' (t ++ [nd]) t wt := by
  obtain ⟨h1, h2, h3, h4, h5, h6⟩ := h
  refine ⟨by rw [e2, List.length_append]; rfl, e3.trans h2, e4, e7.trans h4, fun i x hi hx => ?_, fun i x hx hw => ?_⟩
  · rcases app_get hx with ⟨a, b⟩ | ⟨a, b⟩
    · rw [eb i hi (by omega)]; exact h5 i x hi b
    · rw [a, b]; exact en (by omega)
  · rcases app_get hx with ⟨a, b⟩ | ⟨a, b⟩
    · have hne : ¬ nI t.length = wt := fun e => by
        rw [← hw, nI_eq (by omega) (by omega)] at e
        omega
      rw [eo hne 8 (by omega), eo hne 9 (by omega), eo hne 10 (by omega), eo hne 11 (by omega), eo hne 12 (by omega)]
      exact h6 i x b hw
    · rw [b]; exact ew (by rw [← a]; exact hw)
section X80
variable {l : Launch} {d : Nat} {K : AK} {I : AI} {J : AJ} {g : Bool} {n : Nat} {gr : Nat → Nat}

theorem cY_keep {a b c e f : Int32} (hk : K .null (w2 (w2 (w2 (w2 (w2 I 35 8 a) 35 9 b) 35 10 c) 35 11 e) 35 12 f) J (rX g)) : G l d mX6_keep K 0 [.ref 35, .int a, .int b, .int c, .int e, .int f] [] I J (rX g) := by
  refine G_aload_0 (nx := 1) ⟨dX6_keep_0, rfl⟩ ?_
  refine G_iload_1 (nx := 2) ⟨dX6_keep_1, rfl⟩ ?_
  refine G_puti (nx := 5) (k := 35) ⟨dX6_keep_2, rfl⟩ pX6_42 q_35 yt_6_8 ?_
  refine G_aload_0 (nx := 6) ⟨dX6_keep_5, rfl⟩ ?_
  refine G_iload_2 (nx := 7) ⟨dX6_keep_6, rfl⟩ ?_
  refine G_puti (nx := 10) (k := 35) ⟨dX6_keep_7, rfl⟩ pX6_45 q_35 yt_6_9 ?_
  refine G_aload_0 (nx := 11) ⟨dX6_keep_10, rfl⟩ ?_
  refine G_iload_3 (nx := 12) ⟨dX6_keep_11, rfl⟩ ?_
  refine G_puti (nx := 15) (k := 35) ⟨dX6_keep_12, rfl⟩ pX6_48 q_35 yt_6_10 ?_
  refine G_aload_0 (nx := 16) ⟨dX6_keep_15, rfl⟩ ?_
  refine G_iload_4 (nx := 18) ⟨dX6_keep_16, rfl⟩ ?_
  refine G_puti (nx := 21) (k := 35) ⟨dX6_keep_18, rfl⟩ pX6_51 q_35 yt_6_11 ?_
  refine G_aload_0 (nx := 22) ⟨dX6_keep_21, rfl⟩ ?_
  refine G_iload_5 (nx := 24) ⟨dX6_keep_22, rfl⟩ ?_
  refine G_puti (nx := 27) (k := 35) ⟨dX6_keep_24, rfl⟩ pX6_54 q_35 yt_6_12 ?_
  refine G_vret ⟨dX6_keep_27, rfl⟩ rfl ?_
  exact hk

theorem lY_rec {P ta dp : Nat} {k : Int} {rf : Bool} {po : Option Nat} {t : List ND} {wt : Int32} (hS : SY I t t wt) (ht : t.length < 20000) (hd13 : dpm t ≤ 13) (hdp : dp ≤ 12) (hgo : ∀ (I' : AI), SY I' (t ++ [(po, P, ta, k, dp, rf)]) t wt → I' 35 6 = I 35 6 → sb fSr I I' → G l (d + 1) mX6_begins K 120 [.ref 35, .ref 4, .int (nI P), .int (nI ta), .int (iI k), .int (nI dp), .int (bi rf), .int (mv po), UU, UU, UU, UU] [] I' J (rX g)) : G l (d + 1) mX6_begins K 54 [.ref 35, .ref 4, .int (nI P), .int (nI ta), .int (iI k), .int (nI dp), .int (bi rf), .int (mv po), UU, UU, UU, UU] [] I J (rX g) := by
  obtain ⟨h1, h2, h3, h4, h5, h6⟩ := id hS
  have ehd : (if nI (dpm t) < nI dp then nI dp else nI (dpm t)) = nI (dpm (t ++ [(po, P, ta, k, dp, rf)])) := by
    rw [dpm_app]
    by_cases c : dpm t < dp
    · rw [if_pos (by rw [nI_lt_iff (by omega) (by omega)]; exact c), if_pos c]
    · rw [if_neg (by rw [nI_lt_iff (by omega) (by omega)]; exact c), if_neg c]
  refine G_aload_0 (nx := 55) ⟨dX6_begins_54, rfl⟩ ?_
  refine G_geti (nx := 58) (k := 35) ⟨dX6_begins_55, rfl⟩ fX6_22 q_35 yi_6_2 ?_
  refine G_aload_0 (nx := 59) ⟨dX6_begins_58, rfl⟩ ?_
  refine G_geti (nx := 62) (k := 35) ⟨dX6_begins_59, rfl⟩ fX6_39 q_35 yi_6_7 ?_
  rw [h1, h4]
  refine G_icmpne (tgt := 77) (nx := 65) ⟨dX6_begins_62, rfl⟩ rfl (fun c_62 => ?_) (fun c_62 => ?_)
  · refine G_aload_0 (nx := 78) ⟨dX6_begins_77, rfl⟩ ?_
    refine G_geti (nx := 81) (k := 35) ⟨dX6_begins_78, rfl⟩ fX6_22 q_35 yi_6_2 ?_
    first | rw [h1] | rw [w2_ne _ _ _ _ (by decide), w2_ne _ _ _ _ (by decide), w2_ne _ _ _ _ (by decide), w2_ne _ _ _ _ (by decide), w2_ne _ _ _ _ (by decide), h1]
    refine G_bipush (nx := 83) ⟨dX6_begins_81, rfl⟩ cb_60 ?_
    refine G_icmpge (tgt := 97) (nx := 86) ⟨dX6_begins_83, rfl⟩ rfl (fun c_83 => ?_) (fun c_83 => ?_)
    · try rw [ecl]
      refine G_aload_0 (nx := 98) ⟨dX6_begins_97, rfl⟩ ?_
      refine G_dup (nx := 99) ⟨dX6_begins_98, rfl⟩ rfl ?_
      refine G_geti (nx := 102) (k := 35) ⟨dX6_begins_99, rfl⟩ fX6_22 q_35 yi_6_2 ?_
      first | rw [h1] | rw [w2_row _ _ _ _ (show ¬ 35 = 36 by decide), h1] | rw [w2_ne _ _ _ _ (by decide), w2_ne _ _ _ _ (by decide), w2_ne _ _ _ _ (by decide), w2_ne _ _ _ _ (by decide), w2_ne _ _ _ _ (by decide), h1] | rw [w2_row _ _ _ _ (show ¬ 35 = 36 by decide), w2_ne _ _ _ _ (by decide), w2_ne _ _ _ _ (by decide), w2_ne _ _ _ _ (by decide), w2_ne _ _ _ _ (by decide), w2_ne _ _ _ _ (by decide), h1]
      refine G_iconst (nx := 103) ⟨dX6_begins_102, rfl⟩ ci_1 ?_
      refine G_iadd (nx := 104) ⟨dX6_begins_103, rfl⟩ ?_
      rw [nI_1]
      refine G_puti (nx := 107) (k := 35) ⟨dX6_begins_104, rfl⟩ pX6_22 q_35 yt_6_2 ?_
      refine G_aload_0 (nx := 108) ⟨dX6_begins_107, rfl⟩ ?_
      refine G_aload_0 (nx := 109) ⟨dX6_begins_108, rfl⟩ ?_
      refine G_geti (nx := 112) (k := 35) ⟨dX6_begins_109, rfl⟩ fX6_29 q_35 yi_6_4 ?_
      first | rw [w2_ne _ _ _ _ (by decide), h3] | rw [w2_ne _ _ _ _ (by decide), w2_row _ _ _ _ (show ¬ 35 = 36 by decide), h3] | rw [w2_ne _ _ _ _ (by decide), w2_ne _ _ _ _ (by decide), w2_ne _ _ _ _ (by decide), w2_ne _ _ _ _ (by decide), w2_ne _ _ _ _ (by decide), w2_ne _ _ _ _ (by decide), h3] | rw [w2_ne _ _ _ _ (by decide), w2_row _ _ _ _ (show ¬ 35 = 36 by decide), w2_ne _ _ _ _ (by decide), w2_ne _ _ _ _ (by decide), w2_ne _ _ _ _ (by decide), w2_ne _ _ _ _ (by decide), w2_ne _ _ _ _ (by decide), h3]
      refine G_iload_5 (nx := 114) ⟨dX6_begins_112, rfl⟩ ?_
      refine G_mmax (nx := 117) ⟨dX6_begins_114, rfl⟩ kX6_84 (Nat.le_of_ble_eq_true rfl) ?_
      rw [ehd]
      refine G_puti (nx := 120) (k := 35) ⟨dX6_begins_117, rfl⟩ pX6_29 q_35 yt_6_4 ?_
      rw [show (60 : Int32) = nI 60 by decide, nI_le_iff (by omega) (by omega)] at c_83
      exact hgo _ (SY_rec hS ht (by rw [w2_ne _ _ _ _ (by decide), w2_at]) (by rw [w2_ne _ _ _ _ (by decide), w2_ne _ _ _ _ (by decide)]) (by rw [w2_at]) (by rw [w2_ne _ _ _ _ (by decide), w2_ne _ _ _ _ (by decide)]) (fun i hi hne => by rw [w2_row _ _ _ _ (show ¬ 36 = 35 by decide), w2_row _ _ _ _ (show ¬ 36 = 35 by decide)]) (fun hl => by omega) (fun he => absurd he c_62) (fun _ j hj => by rw [w2_ne _ _ _ _ (by omega), w2_ne _ _ _ _ (by omega)])) (by rw [w2_ne _ _ _ _ (by decide), w2_ne _ _ _ _ (by decide)]) ((sb.rf.w rfl).w rfl)
    · rw [show (60 : Int32) = nI 60 by decide, nI_le_iff (by omega) (by omega)] at c_83
      have hi60 := in60 (show t.length < 60 by omega)
      have ecl := cl_nI (p := t.length) (by omega)
      refine G_aload_0 (nx := 87) ⟨dX6_begins_86, rfl⟩ ?_
      refine G_getr (nx := 90) (k := 35) (r := 36) ⟨dX6_begins_87, rfl⟩ fX6_18 q_35 yr_6_1 (r_35_1 _) ?_
      refine G_aload_0 (nx := 91) ⟨dX6_begins_90, rfl⟩ ?_
      refine G_geti (nx := 94) (k := 35) ⟨dX6_begins_91, rfl⟩ fX6_22 q_35 yi_6_2 ?_
      first | rw [h1] | rw [w2_ne _ _ _ _ (by decide), w2_ne _ _ _ _ (by decide), w2_ne _ _ _ _ (by decide), w2_ne _ _ _ _ (by decide), w2_ne _ _ _ _ (by decide), h1]
      refine G_iload_7 (nx := 96) ⟨dX6_begins_94, rfl⟩ ?_
      refine G_iast (nx := 97) (k := 36) ⟨dX6_begins_96, rfl⟩ q_36 (by first | assumption | decide | (unfold vp_in; decide)) ?_
      try rw [ecl]
      refine G_aload_0 (nx := 98) ⟨dX6_begins_97, rfl⟩ ?_
      refine G_dup (nx := 99) ⟨dX6_begins_98, rfl⟩ rfl ?_
      refine G_geti (nx := 102) (k := 35) ⟨dX6_begins_99, rfl⟩ fX6_22 q_35 yi_6_2 ?_
      first | rw [h1] | rw [w2_row _ _ _ _ (show ¬ 35 = 36 by decide), h1] | rw [w2_ne _ _ _ _ (by decide), w2_ne _ _ _ _ (by decide), w2_ne _ _ _ _ (by decide), w2_ne _ _ _ _ (by decide), w2_ne _ _ _ _ (by decide), h1] | rw [w2_row _ _ _ _ (show ¬ 35 = 36 by decide), w2_ne _ _ _ _ (by decide), w2_ne _ _ _ _ (by decide), w2_ne _ _ _ _ (by decide), w2_ne _ _ _ _ (by decide), w2_ne _ _ _ _ (by decide), h1]
      refine G_iconst (nx := 103) ⟨dX6_begins_102, rfl⟩ ci_1 ?_
      refine G_iadd (nx := 104) ⟨dX6_begins_103, rfl⟩ ?_
      rw [nI_1]
      refine G_puti (nx := 107) (k := 35) ⟨dX6_begins_104, rfl⟩ pX6_22 q_35 yt_6_2 ?_
      refine G_aload_0 (nx := 108) ⟨dX6_begins_107, rfl⟩ ?_
      refine G_aload_0 (nx := 109) ⟨dX6_begins_108, rfl⟩ ?_
      refine G_geti (nx := 112) (k := 35) ⟨dX6_begins_109, rfl⟩ fX6_29 q_35 yi_6_4 ?_
      first | rw [w2_ne _ _ _ _ (by decide), h3] | rw [w2_ne _ _ _ _ (by decide), w2_row _ _ _ _ (show ¬ 35 = 36 by decide), h3] | rw [w2_ne _ _ _ _ (by decide), w2_ne _ _ _ _ (by decide), w2_ne _ _ _ _ (by decide), w2_ne _ _ _ _ (by decide), w2_ne _ _ _ _ (by decide), w2_ne _ _ _ _ (by decide), h3] | rw [w2_ne _ _ _ _ (by decide), w2_row _ _ _ _ (show ¬ 35 = 36 by decide), w2_ne _ _ _ _ (by decide), w2_ne _ _ _ _ (by decide), w2_ne _ _ _ _ (by decide), w2_ne _ _ _ _ (by decide), w2_ne _ _ _ _ (by decide), h3]
      refine G_iload_5 (nx := 114) ⟨dX6_begins_112, rfl⟩ ?_
      refine G_mmax (nx := 117) ⟨dX6_begins_114, rfl⟩ kX6_84 (Nat.le_of_ble_eq_true rfl) ?_
      rw [ehd]
      refine G_puti (nx := 120) (k := 35) ⟨dX6_begins_117, rfl⟩ pX6_29 q_35 yt_6_4 ?_
      exact hgo _ (SY_rec hS ht (by rw [w2_ne _ _ _ _ (by decide), w2_at]) (by rw [w2_ne _ _ _ _ (by decide), w2_ne _ _ _ _ (by decide), w2_row _ _ _ _ (show ¬ 35 = 36 by decide)]) (by rw [w2_at]) (by rw [w2_ne _ _ _ _ (by decide), w2_ne _ _ _ _ (by decide), w2_row _ _ _ _ (show ¬ 35 = 36 by decide)]) (fun i hi hne => by rw [w2_row _ _ _ _ (show ¬ 36 = 35 by decide), w2_row _ _ _ _ (show ¬ 36 = 35 by decide), w2_ne _ _ _ _ (by omega)]) (fun _ => by rw [w2_row _ _ _ _ (show ¬ 36 = 35 by decide), w2_row _ _ _ _ (show ¬ 36 = 35 by decide), w2_at]) (fun he => absurd he c_62) (fun _ j hj => by rw [w2_ne _ _ _ _ (by omega), w2_ne _ _ _ _ (by omega), w2_row _ _ _ _ (show ¬ 35 = 36 by decide)])) (by rw [w2_ne _ _ _ _ (by decide), w2_ne _ _ _ _ (by decide), w2_row _ _ _ _ (show ¬ 35 = 36 by decide)]) (((sb.rf.w rfl).w rfl).w rfl)
  · refine G_aload_0 (nx := 66) ⟨dX6_begins_65, rfl⟩ ?_
    refine G_iload_7 (nx := 68) ⟨dX6_begins_66, rfl⟩ ?_
    refine G_iload_2 (nx := 69) ⟨dX6_begins_68, rfl⟩ ?_
    refine G_iload_3 (nx := 70) ⟨dX6_begins_69, rfl⟩ ?_
    refine G_iload_4 (nx := 72) ⟨dX6_begins_70, rfl⟩ ?_
    refine G_iload_5 (nx := 74) ⟨dX6_begins_72, rfl⟩ ?_
    refine G_cvv5 (nx := 77) ⟨dX6_begins_74, rfl⟩ kX6_80 rfl q_35 rfl (Nat.le_of_ble_eq_true rfl) (Nat.le_of_ble_eq_true rfl) (cY_keep ?_)
    refine G_aload_0 (nx := 78) ⟨dX6_begins_77, rfl⟩ ?_
    refine G_geti (nx := 81) (k := 35) ⟨dX6_begins_78, rfl⟩ fX6_22 q_35 yi_6_2 ?_
    first | rw [h1] | rw [w2_ne _ _ _ _ (by decide), w2_ne _ _ _ _ (by decide), w2_ne _ _ _ _ (by decide), w2_ne _ _ _ _ (by decide), w2_ne _ _ _ _ (by decide), h1]
    refine G_bipush (nx := 83) ⟨dX6_begins_81, rfl⟩ cb_60 ?_
    refine G_icmpge (tgt := 97) (nx := 86) ⟨dX6_begins_83, rfl⟩ rfl (fun c_83 => ?_) (fun c_83 => ?_)
    · try rw [ecl]
      refine G_aload_0 (nx := 98) ⟨dX6_begins_97, rfl⟩ ?_
      refine G_dup (nx := 99) ⟨dX6_begins_98, rfl⟩ rfl ?_
      refine G_geti (nx := 102) (k := 35) ⟨dX6_begins_99, rfl⟩ fX6_22 q_35 yi_6_2 ?_
      first | rw [h1] | rw [w2_row _ _ _ _ (show ¬ 35 = 36 by decide), h1] | rw [w2_ne _ _ _ _ (by decide), w2_ne _ _ _ _ (by decide), w2_ne _ _ _ _ (by decide), w2_ne _ _ _ _ (by decide), w2_ne _ _ _ _ (by decide), h1] | rw [w2_row _ _ _ _ (show ¬ 35 = 36 by decide), w2_ne _ _ _ _ (by decide), w2_ne _ _ _ _ (by decide), w2_ne _ _ _ _ (by decide), w2_ne _ _ _ _ (by decide), w2_ne _ _ _ _ (by decide), h1]
      refine G_iconst (nx := 103) ⟨dX6_begins_102, rfl⟩ ci_1 ?_
      refine G_iadd (nx := 104) ⟨dX6_begins_103, rfl⟩ ?_
      rw [nI_1]
      refine G_puti (nx := 107) (k := 35) ⟨dX6_begins_104, rfl⟩ pX6_22 q_35 yt_6_2 ?_
      refine G_aload_0 (nx := 108) ⟨dX6_begins_107, rfl⟩ ?_
      refine G_aload_0 (nx := 109) ⟨dX6_begins_108, rfl⟩ ?_
      refine G_geti (nx := 112) (k := 35) ⟨dX6_begins_109, rfl⟩ fX6_29 q_35 yi_6_4 ?_
      first | rw [w2_ne _ _ _ _ (by decide), h3] | rw [w2_ne _ _ _ _ (by decide), w2_row _ _ _ _ (show ¬ 35 = 36 by decide), h3] | rw [w2_ne _ _ _ _ (by decide), w2_ne _ _ _ _ (by decide), w2_ne _ _ _ _ (by decide), w2_ne _ _ _ _ (by decide), w2_ne _ _ _ _ (by decide), w2_ne _ _ _ _ (by decide), h3] | rw [w2_ne _ _ _ _ (by decide), w2_row _ _ _ _ (show ¬ 35 = 36 by decide), w2_ne _ _ _ _ (by decide), w2_ne _ _ _ _ (by decide), w2_ne _ _ _ _ (by decide), w2_ne _ _ _ _ (by decide), w2_ne _ _ _ _ (by decide), h3]
      refine G_iload_5 (nx := 114) ⟨dX6_begins_112, rfl⟩ ?_
      refine G_mmax (nx := 117) ⟨dX6_begins_114, rfl⟩ kX6_84 (Nat.le_of_ble_eq_true rfl) ?_
      rw [ehd]
      refine G_puti (nx := 120) (k := 35) ⟨dX6_begins_117, rfl⟩ pX6_29 q_35 yt_6_4 ?_
      rw [show (60 : Int32) = nI 60 by decide, nI_le_iff (by omega) (by omega)] at c_83
      exact hgo _ (SY_rec hS ht (by rw [w2_ne _ _ _ _ (by decide), w2_at]) (by rw [w2_ne _ _ _ _ (by decide), w2_ne _ _ _ _ (by decide), w2_ne _ _ _ _ (by decide), w2_ne _ _ _ _ (by decide), w2_ne _ _ _ _ (by decide), w2_ne _ _ _ _ (by decide), w2_ne _ _ _ _ (by decide)]) (by rw [w2_at]) (by rw [w2_ne _ _ _ _ (by decide), w2_ne _ _ _ _ (by decide), w2_ne _ _ _ _ (by decide), w2_ne _ _ _ _ (by decide), w2_ne _ _ _ _ (by decide), w2_ne _ _ _ _ (by decide), w2_ne _ _ _ _ (by decide)]) (fun i hi hne => by rw [w2_row _ _ _ _ (show ¬ 36 = 35 by decide), w2_row _ _ _ _ (show ¬ 36 = 35 by decide), w2_row _ _ _ _ (show ¬ 36 = 35 by decide), w2_row _ _ _ _ (show ¬ 36 = 35 by decide), w2_row _ _ _ _ (show ¬ 36 = 35 by decide), w2_row _ _ _ _ (show ¬ 36 = 35 by decide), w2_row _ _ _ _ (show ¬ 36 = 35 by decide)]) (fun hl => by omega) (fun _ => ⟨(by rw [w2_ne _ _ _ _ (by decide), w2_ne _ _ _ _ (by decide), w2_ne _ _ _ _ (by decide), w2_ne _ _ _ _ (by decide), w2_ne _ _ _ _ (by decide), w2_ne _ _ _ _ (by decide), w2_at]), (by rw [w2_ne _ _ _ _ (by decide), w2_ne _ _ _ _ (by decide), w2_ne _ _ _ _ (by decide), w2_ne _ _ _ _ (by decide), w2_ne _ _ _ _ (by decide), w2_at]), (by rw [w2_ne _ _ _ _ (by decide), w2_ne _ _ _ _ (by decide), w2_ne _ _ _ _ (by decide), w2_ne _ _ _ _ (by decide), w2_at]), (by rw [w2_ne _ _ _ _ (by decide), w2_ne _ _ _ _ (by decide), w2_ne _ _ _ _ (by decide), w2_at]), (by rw [w2_ne _ _ _ _ (by decide), w2_ne _ _ _ _ (by decide), w2_at])⟩) (fun hne => absurd c_62 hne)) (by rw [w2_ne _ _ _ _ (by decide), w2_ne _ _ _ _ (by decide), w2_ne _ _ _ _ (by decide), w2_ne _ _ _ _ (by decide), w2_ne _ _ _ _ (by decide), w2_ne _ _ _ _ (by decide), w2_ne _ _ _ _ (by decide)]) (((((((sb.rf.w rfl).w rfl).w rfl).w rfl).w rfl).w rfl).w rfl)
    · rw [show (60 : Int32) = nI 60 by decide, nI_le_iff (by omega) (by omega)] at c_83
      have hi60 := in60 (show t.length < 60 by omega)
      have ecl := cl_nI (p := t.length) (by omega)
      refine G_aload_0 (nx := 87) ⟨dX6_begins_86, rfl⟩ ?_
      refine G_getr (nx := 90) (k := 35) (r := 36) ⟨dX6_begins_87, rfl⟩ fX6_18 q_35 yr_6_1 (r_35_1 _) ?_
      refine G_aload_0 (nx := 91) ⟨dX6_begins_90, rfl⟩ ?_
      refine G_geti (nx := 94) (k := 35) ⟨dX6_begins_91, rfl⟩ fX6_22 q_35 yi_6_2 ?_
      first | rw [h1] | rw [w2_ne _ _ _ _ (by decide), w2_ne _ _ _ _ (by decide), w2_ne _ _ _ _ (by decide), w2_ne _ _ _ _ (by decide), w2_ne _ _ _ _ (by decide), h1]
      refine G_iload_7 (nx := 96) ⟨dX6_begins_94, rfl⟩ ?_
      refine G_iast (nx := 97) (k := 36) ⟨dX6_begins_96, rfl⟩ q_36 (by first | assumption | decide | (unfold vp_in; decide)) ?_
      try rw [ecl]
      refine G_aload_0 (nx := 98) ⟨dX6_begins_97, rfl⟩ ?_
      refine G_dup (nx := 99) ⟨dX6_begins_98, rfl⟩ rfl ?_
      refine G_geti (nx := 102) (k := 35) ⟨dX6_begins_99, rfl⟩ fX6_22 q_35 yi_6_2 ?_
      first | rw [h1] | rw [w2_row _ _ _ _ (show ¬ 35 = 36 by decide), h1] | rw [w2_ne _ _ _ _ (by decide), w2_ne _ _ _ _ (by decide), w2_ne _ _ _ _ (by decide), w2_ne _ _ _ _ (by decide), w2_ne _ _ _ _ (by decide), h1] | rw [w2_row _ _ _ _ (show ¬ 35 = 36 by decide), w2_ne _ _ _ _ (by decide), w2_ne _ _ _ _ (by decide), w2_ne _ _ _ _ (by decide), w2_ne _ _ _ _ (by decide), w2_ne _ _ _ _ (by decide), h1]
      refine G_iconst (nx := 103) ⟨dX6_begins_102, rfl⟩ ci_1 ?_
      refine G_iadd (nx := 104) ⟨dX6_begins_103, rfl⟩ ?_
      rw [nI_1]
      refine G_puti (nx := 107) (k := 35) ⟨dX6_begins_104, rfl⟩ pX6_22 q_35 yt_6_2 ?_
      refine G_aload_0 (nx := 108) ⟨dX6_begins_107, rfl⟩ ?_
      refine G_aload_0 (nx := 109) ⟨dX6_begins_108, rfl⟩ ?_
      refine G_geti (nx := 112) (k := 35) ⟨dX6_begins_109, rfl⟩ fX6_29 q_35 yi_6_4 ?_
      first | rw [w2_ne _ _ _ _ (by decide), h3] | rw [w2_ne _ _ _ _ (by decide), w2_row _ _ _ _ (show ¬ 35 = 36 by decide), h3] | rw [w2_ne _ _ _ _ (by decide), w2_ne _ _ _ _ (by decide), w2_ne _ _ _ _ (by decide), w2_ne _ _ _ _ (by decide), w2_ne _ _ _ _ (by decide), w2_ne _ _ _ _ (by decide), h3] | rw [w2_ne _ _ _ _ (by decide), w2_row _ _ _ _ (show ¬ 35 = 36 by decide), w2_ne _ _ _ _ (by decide), w2_ne _ _ _ _ (by decide), w2_ne _ _ _ _ (by decide), w2_ne _ _ _ _ (by decide), w2_ne _ _ _ _ (by decide), h3]
      refine G_iload_5 (nx := 114) ⟨dX6_begins_112, rfl⟩ ?_
      refine G_mmax (nx := 117) ⟨dX6_begins_114, rfl⟩ kX6_84 (Nat.le_of_ble_eq_true rfl) ?_
      rw [ehd]
      refine G_puti (nx := 120) (k := 35) ⟨dX6_begins_117, rfl⟩ pX6_29 q_35 yt_6_4 ?_
      exact hgo _ (SY_rec hS ht (by rw [w2_ne _ _ _ _ (by decide), w2_at]) (by rw [w2_ne _ _ _ _ (by decide), w2_ne _ _ _ _ (by decide), w2_row _ _ _ _ (show ¬ 35 = 36 by decide), w2_ne _ _ _ _ (by decide), w2_ne _ _ _ _ (by decide), w2_ne _ _ _ _ (by decide), w2_ne _ _ _ _ (by decide), w2_ne _ _ _ _ (by decide)]) (by rw [w2_at]) (by rw [w2_ne _ _ _ _ (by decide), w2_ne _ _ _ _ (by decide), w2_row _ _ _ _ (show ¬ 35 = 36 by decide), w2_ne _ _ _ _ (by decide), w2_ne _ _ _ _ (by decide), w2_ne _ _ _ _ (by decide), w2_ne _ _ _ _ (by decide), w2_ne _ _ _ _ (by decide)]) (fun i hi hne => by rw [w2_row _ _ _ _ (show ¬ 36 = 35 by decide), w2_row _ _ _ _ (show ¬ 36 = 35 by decide), w2_ne _ _ _ _ (by omega), w2_row _ _ _ _ (show ¬ 36 = 35 by decide), w2_row _ _ _ _ (show ¬ 36 = 35 by decide), w2_row _ _ _ _ (show ¬ 36 = 35 by decide), w2_row _ _ _ _ (show ¬ 36 = 35 by decide), w2_row _ _ _ _ (show ¬ 36 = 35 by decide)]) (fun _ => by rw [w2_row _ _ _ _ (show ¬ 36 = 35 by decide), w2_row _ _ _ _ (show ¬ 36 = 35 by decide), w2_at]) (fun _ => ⟨(by rw [w2_ne _ _ _ _ (by decide), w2_ne _ _ _ _ (by decide), w2_row _ _ _ _ (show ¬ 35 = 36 by decide), w2_ne _ _ _ _ (by decide), w2_ne _ _ _ _ (by decide), w2_ne _ _ _ _ (by decide), w2_ne _ _ _ _ (by decide), w2_at]), (by rw [w2_ne _ _ _ _ (by decide), w2_ne _ _ _ _ (by decide), w2_row _ _ _ _ (show ¬ 35 = 36 by decide), w2_ne _ _ _ _ (by decide), w2_ne _ _ _ _ (by decide), w2_ne _ _ _ _ (by decide), w2_at]), (by rw [w2_ne _ _ _ _ (by decide), w2_ne _ _ _ _ (by decide), w2_row _ _ _ _ (show ¬ 35 = 36 by decide), w2_ne _ _ _ _ (by decide), w2_ne _ _ _ _ (by decide), w2_at]), (by rw [w2_ne _ _ _ _ (by decide), w2_ne _ _ _ _ (by decide), w2_row _ _ _ _ (show ¬ 35 = 36 by decide), w2_ne _ _ _ _ (by decide), w2_at]), (by rw [w2_ne _ _ _ _ (by decide), w2_ne _ _ _ _ (by decide), w2_row _ _ _ _ (show ¬ 35 = 36 by decide), w2_at])⟩) (fun hne => absurd c_62 hne)) (by rw [w2_ne _ _ _ _ (by decide), w2_ne _ _ _ _ (by decide), w2_row _ _ _ _ (show ¬ 35 = 36 by decide), w2_ne _ _ _ _ (by decide), w2_ne _ _ _ _ (by decide), w2_ne _ _ _ _ (by decide), w2_ne _ _ _ _ (by decide), w2_ne _ _ _ _ (by decide)]) ((((((((sb.rf.w rfl).w rfl).w rfl).w rfl).w rfl).w rfl).w rfl).w rfl)

theorem cY_beginsF {P ta k dp : Int32} (h6 : I 35 6 = 1) (hk : K .null I J (rX g)) : G l d mX6_begins K 0 [.ref 35, .ref 4, .int P, .int ta, .int k, .int dp, UU, UU, UU, UU, UU, UU] [] I J (rX g) := by
  refine G_aload_0 (nx := 1) ⟨dX6_begins_0, rfl⟩ ?_
  refine G_geti (nx := 4) (k := 35) ⟨dX6_begins_1, rfl⟩ fX6_35 q_35 yi_6_6 ?_
  rw [h6]
  refine G_ifne (tgt := 14) (nx := 7) ⟨dX6_begins_4, rfl⟩ rfl (fun c_4 => ?_) (fun c_4 => ?_)
  · refine G_vret ⟨dX6_begins_14, rfl⟩ rfl ?_
    exact hk
  · exact absurd c_4 (by decide)

end X80
