
def cmI (s : TS) : Int32 := if s.dp = 0 then (if s.m = 0 then 0 else 4) else if s.ls = 2 then 1 else if s.ls = 1 then 2 else 3
def OCH (op is : Nat → Int32) : Nat → Int32 → Prop
  | 0, _ => True
  | k + 1, x => op k = x ∧ OCH op is k (is x.toNatClampNeg)
theorem OCH_up {op is : Nat → Int32} {m D : Nat} {y z : Int32} (hm : m ≤ 60) : ∀ (k : Nat) (x : Int32), k ≤ D → CH is m k x → OCH op is k x → OCH (upd op D z) (upd is m y) k x
  | 0, _, _, _, _ => trivial
  | k + 1, x, hk, ⟨a, e, ha, h⟩, ⟨h1, h2⟩ => by
    subst e
    rw [cl_nI (by omega)] at h2
    refine ⟨?_, ?_⟩
    · rw [← h1]; simp [upd, show ¬ k = D by omega]
    · rw [cl_nI (by omega)]
      have : upd is m y a = is a := by simp [upd, show ¬ a = m by omega]
      rw [this]
      exact OCH_up hm k _ (by omega) h h2
def CR (I : AI) (tp : Nat → Int32) (t o a b c : Nat) (s : TS) : Prop := I 42 3 = nI t ∧ I 43 = tp ∧ I 42 2 = nI s.dp ∧ OCH (I 44) s.is s.dp s.at0 ∧ I o 8 = nI s.m ∧ I a = s.ks ∧ I b = s.ws ∧ I c = s.is ∧ (1 ≤ s.ls → s.at0 = nI (s.m - 1))
def fTp (o : Nat) (x y : Nat) : Bool := (x == 42 && y == 2) || x == 44 || (x == o && y == 8) || x == o + 1 || x == o + 2 || x == o + 3
def addI (I : AI) (o a b c m : Nat) (x : Int32) : AI := w2 (w2 (w2 (w2 I a m 0) b m 1) c m x) o 8 (nI (m + 1))
def opB (s : TS) : Bool := decide ((s.dp = 0 ∧ 0 < s.m) ∨ s.dp = 20 ∨ s.m = 60)
def opI (I : AI) (o a b c : Nat) (s : TS) : AI := w2 (w2 (addI I o a b c s.m s.at0) 44 s.dp (nI s.m)) 42 2 (nI (s.dp + 1))
theorem cm_4 {s : TS} : cmI s = 4 ↔ (s.dp = 0 ∧ 0 < s.m) := by
  unfold cmI
  split
  · rename_i h
    split
    · rename_i h2
      exact ⟨fun h => absurd h (by decide), fun h => by omega⟩
    · exact ⟨fun _ => ⟨h, by omega⟩, fun _ => rfl⟩
  · split
    · exact ⟨fun h => absurd h (by decide), fun h => by omega⟩
    · split <;> exact ⟨fun h => absurd h (by decide), fun h => by omega⟩
theorem cm_0 {s : TS} : cmI s = 0 ↔ (s.dp = 0 ∧ s.m = 0) := by
  unfold cmI
  split
  · rename_i h
    split
    · rename_i h2
      exact ⟨fun _ => ⟨h, h2⟩, fun _ => rfl⟩
    · exact ⟨fun h => absurd h (by decide), fun h => by omega⟩
  · split
    · exact ⟨fun h => absurd h (by decide), fun h => by omega⟩
    · split <;> exact ⟨fun h => absurd h (by decide), fun h => by omega⟩
theorem cm_1 {t : Nat} {s : TS} (hV : TV t s) : cmI s = 1 ↔ s.ls = 2 := by
  have h5 := hV.2.2.2.2.1
  unfold cmI
  split
  · split <;> exact ⟨fun h => absurd h (by decide), fun h => by omega⟩
  · split
    · exact ⟨fun _ => by assumption, fun _ => rfl⟩
    · split <;> exact ⟨fun h => absurd h (by decide), fun h => by omega⟩
theorem cm_2 {t : Nat} {s : TS} (hV : TV t s) : cmI s = 2 ↔ s.ls = 1 := by
  have h5 := hV.2.2.2.2.1
  unfold cmI
  split
  · split <;> exact ⟨fun h => absurd h (by decide), fun h => by omega⟩
  · split
    · exact ⟨fun h => absurd h (by decide), fun h => by omega⟩
    · split
      · exact ⟨fun _ => by assumption, fun _ => rfl⟩
      · exact ⟨fun h => absurd h (by decide), fun h => by omega⟩
theorem cm_5 (s : TS) : ¬ cmI s = 5 := by
  unfold cmI
  split
  · split <;> decide
  · split
    · decide
    · split <;> decide
theorem kd_n (tp : Nat → Int32) (p q : Nat) : kdI tp p q = -1 ∨ 0 ≤ kdI tp p q := by
  unfold kdI
  repeat' split
  all_goals first | exact Or.inl rfl | exact Or.inr (by decide)
theorem addI_lo (I : AI) {o a b c : Nat} (ho : o = 57 ∨ o = 66) (ha : a = o + 1) (hb : b = o + 2) (hc : c = o + 3) (m : Nat) (x : Int32) {k : Nat} (hk : k < 57) : addI I o a b c m x k = I k := by
  unfold addI
  rw [w2_row _ _ _ _ (by omega), w2_row _ _ _ _ (by omega), w2_row _ _ _ _ (by omega), w2_row _ _ _ _ (by omega)]
theorem addI_sb (I : AI) {o a b c : Nat} (ha : a = o + 1) (hb : b = o + 2) (hc : c = o + 3) (m : Nat) (x : Int32) : sb (fTp o) I (addI I o a b c m x) := by
  subst ha hb hc
  exact (((sb.rf.w (by simp [fTp])).w (by simp [fTp])).w (by simp [fTp])).w (by simp [fTp])
theorem CR_open {I : AI} {tp : Nat → Int32} {t o a b c : Nat} {s : TS} (ho : o = 57 ∨ o = 66) (ha : a = o + 1) (hb : b = o + 2) (hc : c = o + 3) (hV : TV t s) (hC : CR I tp t o a b c s) (P : Nat) : CR (opI I o a b c s) tp t o a b c (P, nI s.m, s.dp + 1, 2, s.m + 1, upd s.ks s.m 0, upd s.ws s.m 1, upd s.is s.m s.at0) := by
  obtain ⟨h1, h2, h3, h4, h5, h6, h7, h8, h9⟩ := hC
  have hm := hV.2.1
  have e44 : opI I o a b c s 44 = upd (I 44) s.dp (nI s.m) := by
    unfold opI
    rw [w2_row _ _ _ _ (by decide), ← w2_upd, addI_lo I ho ha hb hc _ _ (by decide)]
  refine ⟨?_, ?_, ?_, ?_, ?_, ?_, ?_, ?_, ?_⟩
  · unfold opI
    rw [w2_ne _ _ _ _ (by decide), w2_row _ _ _ _ (by decide), addI_lo I ho ha hb hc _ _ (by decide)]
    exact h1
  · unfold opI
    rw [w2_row _ _ _ _ (by decide), w2_row _ _ _ _ (by decide), addI_lo I ho ha hb hc _ _ (by decide)]
    exact h2
  · exact w2_at _ _ _ _
  · rw [e44]
    refine ⟨by simp [upd], ?_⟩
    rw [cl_nI (by omega)]
    have : upd s.is s.m s.at0 s.m = s.at0 := by simp [upd]
    show OCH (upd (I 44) s.dp (nI s.m)) (upd s.is s.m s.at0) s.dp (upd s.is s.m s.at0 s.m)
    rw [this]
    exact OCH_up hm s.dp _ (Nat.le_refl _) hV.2.2.2.1 h4
  · unfold opI addI
    rw [w2_row _ _ _ _ (by omega), w2_row _ _ _ _ (by omega)]
    exact w2_at _ _ _ _
  · unfold opI addI
    rw [w2_row _ _ _ _ (by omega), w2_row _ _ _ _ (by omega), w2_row _ _ _ _ (by omega), w2_row _ _ _ _ (by omega), w2_row _ _ _ _ (by omega), ← w2_upd, h6]
  · unfold opI addI
    rw [w2_row _ _ _ _ (by omega), w2_row _ _ _ _ (by omega), w2_row _ _ _ _ (by omega), w2_row _ _ _ _ (by omega), ← w2_upd, w2_row _ _ _ _ (by omega), h7]
  · unfold opI addI
    rw [w2_row _ _ _ _ (by omega), w2_row _ _ _ _ (by omega), w2_row _ _ _ _ (by omega), ← w2_upd, w2_row _ _ _ _ (by omega), w2_row _ _ _ _ (by omega), h8]
  · intro _
    rfl
theorem CR_close {I : AI} {tp : Nat → Int32} {t o a b c : Nat} {s : TS} (ho : o = 57 ∨ o = 66) (ha : a = o + 1) (hb : b = o + 2) (hc : c = o + 3) (h0 : 0 < s.dp) (hC : CR I tp t o a b c s) (P : Nat) : CR (w2 I 42 2 (nI (s.dp - 1))) tp t o a b c (P, s.is s.at0.toNatClampNeg, s.dp - 1, 0, s.m, s.ks, s.ws, s.is) := by
  obtain ⟨h1, h2, h3, h4, h5, h6, h7, h8, h9⟩ := hC
  refine ⟨?_, ?_, w2_at _ _ _ _, ?_, ?_, ?_, ?_, ?_, fun h => absurd h (by show ¬ 1 ≤ 0; decide)⟩
  · rw [w2_ne _ _ _ _ (by decide)]; exact h1
  · rw [w2_row _ _ _ _ (by decide)]; exact h2
  · rw [w2_row _ _ _ _ (by decide)]
    obtain ⟨k, hk⟩ : ∃ k, s.dp = k + 1 := ⟨s.dp - 1, by omega⟩
    rw [hk] at h4
    show OCH (I 44) s.is (s.dp - 1) _
    rw [hk]
    exact h4.2
  · rw [w2_row _ _ _ _ (by omega)]; exact h5
  · rw [w2_row _ _ _ _ (by omega)]; exact h6
  · rw [w2_row _ _ _ _ (by omega)]; exact h7
  · rw [w2_row _ _ _ _ (by omega)]; exact h8
theorem CR_kind {I : AI} {tp : Nat → Int32} {t o a b c : Nat} {s : TS} {v : Int32} (ho : o = 57 ∨ o = 66) (ha : a = o + 1) (hb : b = o + 2) (hc : c = o + 3) (hV : TV t s) (hl : 1 ≤ s.ls) (hC : CR I tp t o a b c s) (P : Nat) : CR (w2 I a (s.m - 1) v) tp t o a b c (P, s.at0, s.dp, 1, s.m, upd s.ks s.at0.toNatClampNeg v, s.ws, s.is) := by
  obtain ⟨h1, h2, h3, h4, h5, h6, h7, h8, h9⟩ := hC
  have e9 := h9 hl
  have hm := hV.2.1
  refine ⟨?_, ?_, ?_, ?_, ?_, ?_, ?_, ?_, fun _ => e9⟩
  · rw [w2_row _ _ _ _ (by omega)]; exact h1
  · rw [w2_row _ _ _ _ (by omega)]; exact h2
  · rw [w2_row _ _ _ _ (by omega)]; exact h3
  · rw [w2_row _ _ _ _ (by omega)]; exact h4
  · rw [w2_row _ _ _ _ (by omega)]; exact h5
  · show w2 I a (s.m - 1) v a = upd s.ks s.at0.toNatClampNeg v
    rw [e9, cl_nI (by omega), ← w2_upd, h6]
  · rw [w2_row _ _ _ _ (by omega)]; exact h7
  · rw [w2_row _ _ _ _ (by omega)]; exact h8
theorem CR_wt {I : AI} {tp : Nat → Int32} {t o a b c : Nat} {s : TS} {v : Int32} (ho : o = 57 ∨ o = 66) (ha : a = o + 1) (hb : b = o + 2) (hc : c = o + 3) (hV : TV t s) (hl : 1 ≤ s.ls) (hC : CR I tp t o a b c s) (P : Nat) : CR (w2 I b (s.m - 1) v) tp t o a b c (P, s.at0, s.dp, 0, s.m, s.ks, upd s.ws s.at0.toNatClampNeg v, s.is) := by
  obtain ⟨h1, h2, h3, h4, h5, h6, h7, h8, h9⟩ := hC
  have e9 := h9 hl
  have hm := hV.2.1
  refine ⟨?_, ?_, ?_, ?_, ?_, ?_, ?_, ?_, fun h => absurd h (by show ¬ 1 ≤ 0; decide)⟩
  · rw [w2_row _ _ _ _ (by omega)]; exact h1
  · rw [w2_row _ _ _ _ (by omega)]; exact h2
  · rw [w2_row _ _ _ _ (by omega)]; exact h3
  · rw [w2_row _ _ _ _ (by omega)]; exact h4
  · rw [w2_row _ _ _ _ (by omega)]; exact h5
  · rw [w2_row _ _ _ _ (by omega)]; exact h6
  · show w2 I b (s.m - 1) v b = upd s.ws s.at0.toNatClampNeg v
    rw [e9, cl_nI (by omega), ← w2_upd, h7]
  · rw [w2_row _ _ _ _ (by omega)]; exact h8
theorem TV_m {t : Nat} {s : TS} (hV : TV t s) (h : 0 < s.dp) : 0 < s.m := by
  obtain ⟨a, -, ha, -⟩ := CH_ex hV.2.2.2.1 h
  omega
def BTR (I : AI) (tp : Nat → Int32) (t o a b c P : Nat) (s : TS) (r : Int32) (I' : AI) : Prop := (r = 5 ∧ I' = I ∧ stp tp t s = .inl (nI P)) ∨ ∃ s' : TS, stp tp t s = .inr s' ∧ r = cmI s' ∧ s'.p = eT tp t P ∧ TV t s' ∧ CR I' tp t o a b c s' ∧ sb (fTp o) I I'
section X9J
variable {l : Launch} {d : Nat} {K : AK} {I : AI} {J : AJ} {g : Bool} {n : Nat} {gr : Nat → Nat}
theorem cT_add {m : Nat} {x : Int32} {o a b c e f j1 j2 j3 : Nat} (hT : TT o a b c e f j1 j2 j3) (hX : XT I o m) (hk : K (.int (bi (decide (m < 60)))) (if m < 60 then addI I o a b c m x else I) J (rX g)) : G l d mX10_add K 0 [.ref o, .int x] [] I J (rX g) := by
  have hab := hT.2.2.2.2.2.2.2.2.2.2
  have hm60 := hX.2
  refine G_aload_0 (nx := 1) ⟨dX10_add_0, rfl⟩ ?_
  refine G_geti (nx := 4) (k := o) ⟨dX10_add_1, rfl⟩ fX10_37 hT.1 yi_10_8 ?_
  rw [hX.1]
  refine G_bipush (nx := 6) ⟨dX10_add_4, rfl⟩ cb_60 ?_
  refine G_icmplt (tgt := 11) (nx := 9) ⟨dX10_add_6, rfl⟩ rfl (fun c_6 => ?_) (fun c_6 => ?_)
  · have h60 : m < 60 := (nI_lt_iff (b := 60) (by omega) (by omega)).mp c_6
    refine G_aload_0 (nx := 12) ⟨dX10_add_11, rfl⟩ ?_
    refine G_getr (nx := 15) (k := o) (r := a) ⟨dX10_add_12, rfl⟩ fX10_9 hT.1 yr_10_0 (hT.2.2.2.2.2.2.2.2.2.1 _).1 ?_
    refine G_aload_0 (nx := 16) ⟨dX10_add_15, rfl⟩ ?_
    refine G_geti (nx := 19) (k := o) ⟨dX10_add_16, rfl⟩ fX10_37 hT.1 yi_10_8 ?_
    rw [hX.1]
    refine G_iconst (nx := 20) ⟨dX10_add_19, rfl⟩ ci_0 ?_
    refine G_iast (nx := 21) (k := a) ⟨dX10_add_20, rfl⟩ hT.2.1 (by exact in60 (by omega)) ?_
    rw [cl_nI (by omega)]
    refine G_aload_0 (nx := 22) ⟨dX10_add_21, rfl⟩ ?_
    refine G_getr (nx := 25) (k := o) (r := b) ⟨dX10_add_22, rfl⟩ fX10_15 hT.1 yr_10_1 (hT.2.2.2.2.2.2.2.2.2.1 _).2.1 ?_
    refine G_aload_0 (nx := 26) ⟨dX10_add_25, rfl⟩ ?_
    refine G_geti (nx := 29) (k := o) ⟨dX10_add_26, rfl⟩ fX10_37 hT.1 yi_10_8 ?_
    rw [w2_row _ _ _ _ (show ¬ o = a by omega), hX.1]
    refine G_iconst (nx := 30) ⟨dX10_add_29, rfl⟩ ci_1 ?_
    refine G_iast (nx := 31) (k := b) ⟨dX10_add_30, rfl⟩ hT.2.2.1 (by exact in60 (by omega)) ?_
    rw [cl_nI (by omega)]
    refine G_aload_0 (nx := 32) ⟨dX10_add_31, rfl⟩ ?_
    refine G_getr (nx := 35) (k := o) (r := c) ⟨dX10_add_32, rfl⟩ fX10_18 hT.1 yr_10_2 (hT.2.2.2.2.2.2.2.2.2.1 _).2.2.1 ?_
    refine G_aload_0 (nx := 36) ⟨dX10_add_35, rfl⟩ ?_
    refine G_geti (nx := 39) (k := o) ⟨dX10_add_36, rfl⟩ fX10_37 hT.1 yi_10_8 ?_
    rw [w2_row _ _ _ _ (show ¬ o = b by omega), w2_row _ _ _ _ (show ¬ o = a by omega), hX.1]
    refine G_iload_1 (nx := 40) ⟨dX10_add_39, rfl⟩ ?_
    refine G_iast (nx := 41) (k := c) ⟨dX10_add_40, rfl⟩ hT.2.2.2.1 (by exact in60 (by omega)) ?_
    rw [cl_nI (by omega)]
    refine G_aload_0 (nx := 42) ⟨dX10_add_41, rfl⟩ ?_
    refine G_dup (nx := 43) ⟨dX10_add_42, rfl⟩ rfl ?_
    refine G_geti (nx := 46) (k := o) ⟨dX10_add_43, rfl⟩ fX10_37 hT.1 yi_10_8 ?_
    rw [w2_row _ _ _ _ (show ¬ o = c by omega), w2_row _ _ _ _ (show ¬ o = b by omega), w2_row _ _ _ _ (show ¬ o = a by omega), hX.1]
    refine G_iconst (nx := 47) ⟨dX10_add_46, rfl⟩ ci_1 ?_
    refine G_iadd (nx := 48) ⟨dX10_add_47, rfl⟩ ?_
    rw [nI_1]
    refine G_puti (nx := 51) (k := o) ⟨dX10_add_48, rfl⟩ pX10_37 hT.1 yt_10_8 ?_
    refine G_iconst (nx := 52) ⟨dX10_add_51, rfl⟩ ci_1 ?_
    refine G_zret ⟨dX10_add_52, rfl⟩ rfl (by first | assumption | decide | exact bi_01 _) ?_
    rw [decide_eq_true h60, if_pos h60] at hk
    exact hk
  · have h60 : ¬ m < 60 := fun h => c_6 ((nI_lt_iff (b := 60) (by omega) (by omega)).mpr h)
    refine G_iconst (nx := 10) ⟨dX10_add_9, rfl⟩ ci_0 ?_
    refine G_zret ⟨dX10_add_10, rfl⟩ rfl (by first | assumption | decide | exact bi_01 _) ?_
    rw [decide_eq_false h60, if_neg h60] at hk
    exact hk

theorem cT_lastIsOf {m : Nat} {x : Int32} {o a b c e f j1 j2 j3 : Nat} (hT : TT o a b c e f j1 j2 j3) (hX : XT I o m) (h0 : 0 < m) (hk : K .null (w2 I a (m - 1) x) J (rX g)) : G l d mX10_lastIsOf K 0 [.ref o, .int x] [] I J (rX g) := by
  have hm60 := hX.2
  refine G_aload_0 (nx := 1) ⟨dX10_lastIsOf_0, rfl⟩ ?_
  refine G_geti (nx := 4) (k := o) ⟨dX10_lastIsOf_1, rfl⟩ fX10_37 hT.1 yi_10_8 ?_
  rw [hX.1]
  refine G_ifle (tgt := 19) (nx := 7) ⟨dX10_lastIsOf_4, rfl⟩ rfl (fun c_4 => ?_) (fun c_4 => ?_)
  · exact absurd ((nI_le_iff (b := 0) (by omega) (by omega)).mp c_4) (by omega)
  · refine G_aload_0 (nx := 8) ⟨dX10_lastIsOf_7, rfl⟩ ?_
    refine G_getr (nx := 11) (k := o) (r := a) ⟨dX10_lastIsOf_8, rfl⟩ fX10_9 hT.1 yr_10_0 (hT.2.2.2.2.2.2.2.2.2.1 _).1 ?_
    refine G_aload_0 (nx := 12) ⟨dX10_lastIsOf_11, rfl⟩ ?_
    refine G_geti (nx := 15) (k := o) ⟨dX10_lastIsOf_12, rfl⟩ fX10_37 hT.1 yi_10_8 ?_
    rw [hX.1]
    refine G_iconst (nx := 16) ⟨dX10_lastIsOf_15, rfl⟩ ci_1 ?_
    refine G_isub (nx := 17) ⟨dX10_lastIsOf_16, rfl⟩ ?_
    rw [show nI m - 1 = nI (m - 1) by rw [show (1 : Int32) = nI 1 by decide, nI_sub (by omega)]]
    refine G_iload_1 (nx := 18) ⟨dX10_lastIsOf_17, rfl⟩ ?_
    refine G_iast (nx := 19) (k := a) ⟨dX10_lastIsOf_18, rfl⟩ hT.2.1 (by exact in60 (by omega)) ?_
    rw [cl_nI (by omega)]
    refine G_vret ⟨dX10_lastIsOf_19, rfl⟩ rfl ?_
    exact hk

theorem cT_lastWeighs {m : Nat} {x : Int32} {o a b c e f j1 j2 j3 : Nat} (hT : TT o a b c e f j1 j2 j3) (hX : XT I o m) (h0 : 0 < m) (hk : K .null (w2 I b (m - 1) x) J (rX g)) : G l d mX10_lastWeighs K 0 [.ref o, .int x] [] I J (rX g) := by
  have hm60 := hX.2
  refine G_aload_0 (nx := 1) ⟨dX10_lastWeighs_0, rfl⟩ ?_
  refine G_geti (nx := 4) (k := o) ⟨dX10_lastWeighs_1, rfl⟩ fX10_37 hT.1 yi_10_8 ?_
  rw [hX.1]
  refine G_ifle (tgt := 19) (nx := 7) ⟨dX10_lastWeighs_4, rfl⟩ rfl (fun c_4 => ?_) (fun c_4 => ?_)
  · exact absurd ((nI_le_iff (b := 0) (by omega) (by omega)).mp c_4) (by omega)
  · refine G_aload_0 (nx := 8) ⟨dX10_lastWeighs_7, rfl⟩ ?_
    refine G_getr (nx := 11) (k := o) (r := b) ⟨dX10_lastWeighs_8, rfl⟩ fX10_15 hT.1 yr_10_1 (hT.2.2.2.2.2.2.2.2.2.1 _).2.1 ?_
    refine G_aload_0 (nx := 12) ⟨dX10_lastWeighs_11, rfl⟩ ?_
    refine G_geti (nx := 15) (k := o) ⟨dX10_lastWeighs_12, rfl⟩ fX10_37 hT.1 yi_10_8 ?_
    rw [hX.1]
    refine G_iconst (nx := 16) ⟨dX10_lastWeighs_15, rfl⟩ ci_1 ?_
    refine G_isub (nx := 17) ⟨dX10_lastWeighs_16, rfl⟩ ?_
    rw [show nI m - 1 = nI (m - 1) by rw [show (1 : Int32) = nI 1 by decide, nI_sub (by omega)]]
    refine G_iload_1 (nx := 18) ⟨dX10_lastWeighs_17, rfl⟩ ?_
    refine G_iast (nx := 19) (k := b) ⟨dX10_lastWeighs_18, rfl⟩ hT.2.2.1 (by exact in60 (by omega)) ?_
    rw [cl_nI (by omega)]
    refine G_vret ⟨dX10_lastWeighs_19, rfl⟩ rfl ?_
    exact hk

theorem cA_open {t : Nat} {tp : Nat → Int32} {s : TS} {o a b c e f j1 j2 j3 : Nat} (hT : TT o a b c e f j1 j2 j3) (ho : o = 57 ∨ o = 66) (hV : TV t s) (hC : CR I tp t o a b c s) (hk : K (.int (if opB s = true then 5 else 1)) (if opB s = true then I else opI I o a b c s) J (rX g)) : G l (d + 1) mX9_behindOpening K 0 [.ref 42, .int (cmI s), .ref o, UU] [] I J (rX g) := by
  have hab := hT.2.2.2.2.2.2.2.2.2.2
  obtain ⟨h1, h2, h3, h4, h5, h6, h7, h8, h9⟩ := hC
  have hm60 := hV.2.1
  have hd20 := hV.2.2.1
  have h_a : s.dp = 0 → s.at0 = -1 := by
    intro h
    have := hV.2.2.2.1
    rw [h] at this
    exact this
  have h_b : 0 < s.dp → I 44 (s.dp - 1) = s.at0 := by
    intro h
    obtain ⟨k, hk⟩ : ∃ k, s.dp = k + 1 := ⟨s.dp - 1, by omega⟩
    rw [hk] at h4 ⊢
    exact h4.1
  refine G_iload_1 (nx := 1) ⟨dX9_behindOpening_0, rfl⟩ ?_
  refine G_iconst (nx := 2) ⟨dX9_behindOpening_1, rfl⟩ ci_4 ?_
  refine G_icmpeq (tgt := 14) (nx := 5) ⟨dX9_behindOpening_2, rfl⟩ rfl (fun c_2 => ?_) (fun c_2 => ?_)
  · refine G_iconst (nx := 15) ⟨dX9_behindOpening_14, rfl⟩ ci_5 ?_
    refine G_iret ⟨dX9_behindOpening_15, rfl⟩ rfl ?_
    have hb : opB s = true := decide_eq_true (Or.inl (cm_4.mp c_2))
    rw [if_pos hb, if_pos hb] at hk
    exact hk
  · refine G_aload_0 (nx := 6) ⟨dX9_behindOpening_5, rfl⟩ ?_
    refine G_geti (nx := 9) (k := 42) ⟨dX9_behindOpening_6, rfl⟩ fX9_18 q_42 yi_9_2 ?_
    rw [h3]
    refine G_bipush (nx := 11) ⟨dX9_behindOpening_9, rfl⟩ cb_20 ?_
    refine G_icmplt (tgt := 16) (nx := 14) ⟨dX9_behindOpening_11, rfl⟩ rfl (fun c_11 => ?_) (fun c_11 => ?_)
    · have hd2 := (nI_lt_iff (a := s.dp) (b := 20) (by omega) (by omega)).mp c_11
      refine G_aload_0 (nx := 17) ⟨dX9_behindOpening_16, rfl⟩ ?_
      refine G_geti (nx := 20) (k := 42) ⟨dX9_behindOpening_17, rfl⟩ fX9_18 q_42 yi_9_2 ?_
      rw [h3]
      refine G_ifne (tgt := 27) (nx := 23) ⟨dX9_behindOpening_20, rfl⟩ rfl (fun c_20 => ?_) (fun c_20 => ?_)
      · have e0 : 0 < s.dp := by
          rcases Nat.eq_zero_or_pos s.dp with q | q
          · exact absurd ((nI_0iff (by omega)).mpr q) c_20
          · exact q
        refine G_aload_0 (nx := 28) ⟨dX9_behindOpening_27, rfl⟩ ?_
        refine G_getr (nx := 31) (k := 42) (r := 44) ⟨dX9_behindOpening_28, rfl⟩ fX9_15 q_42 yr_9_1 (r_42_1 _) ?_
        refine G_aload_0 (nx := 32) ⟨dX9_behindOpening_31, rfl⟩ ?_
        refine G_geti (nx := 35) (k := 42) ⟨dX9_behindOpening_32, rfl⟩ fX9_18 q_42 yi_9_2 ?_
        rw [h3]
        refine G_iconst (nx := 36) ⟨dX9_behindOpening_35, rfl⟩ ci_1 ?_
        refine G_isub (nx := 37) ⟨dX9_behindOpening_36, rfl⟩ ?_
        rw [show nI s.dp - 1 = nI (s.dp - 1) by rw [show (1 : Int32) = nI 1 by decide, nI_sub (by omega)]]
        refine G_iald (nx := 38) (k := 44) ⟨dX9_behindOpening_37, rfl⟩ q_44 (by exact vp_in_nI (by omega) (by omega)) ?_
        first | rw [cl_nI (by omega), h_b e0] | rw [← h_a e0]
        refine G_istore_3 (nx := 39) ⟨dX9_behindOpening_38, rfl⟩ rfl rfl ?_
        refine G_aload_2 (nx := 40) ⟨dX9_behindOpening_39, rfl⟩ ?_
        refine G_iload_3 (nx := 41) ⟨dX9_behindOpening_40, rfl⟩ ?_
        refine G_cv1 (nx := 44) ⟨dX9_behindOpening_41, rfl⟩ kX9_61 rfl hT.1 rfl (Nat.le_of_ble_eq_true rfl) (Nat.le_of_ble_eq_true rfl) (cT_add hT ⟨h5, hm60⟩ ?_)
        refine G_ifne (tgt := 49) (nx := 47) ⟨dX9_behindOpening_44, rfl⟩ rfl (fun c_44 => ?_) (fun c_44 => ?_)
        · rw [bi_n0] at c_44
          have h60 := of_decide_eq_true c_44
          rw [if_pos h60]
          refine G_aload_0 (nx := 50) ⟨dX9_behindOpening_49, rfl⟩ ?_
          refine G_getr (nx := 53) (k := 42) (r := 44) ⟨dX9_behindOpening_50, rfl⟩ fX9_15 q_42 yr_9_1 (r_42_1 _) ?_
          refine G_aload_0 (nx := 54) ⟨dX9_behindOpening_53, rfl⟩ ?_
          refine G_geti (nx := 57) (k := 42) ⟨dX9_behindOpening_54, rfl⟩ fX9_18 q_42 yi_9_2 ?_
          rw [addI_lo I ho (by omega) (by omega) (by omega) _ _ (by decide), h3]
          refine G_aload_2 (nx := 58) ⟨dX9_behindOpening_57, rfl⟩ ?_
          refine G_geti (nx := 61) (k := o) ⟨dX9_behindOpening_58, rfl⟩ fX9_25 hT.1 yi_10_8 ?_
          rw [show addI I o a b c s.m s.at0 o 8 = nI (s.m + 1) from w2_at _ _ _ _]
          refine G_iconst (nx := 62) ⟨dX9_behindOpening_61, rfl⟩ ci_1 ?_
          refine G_isub (nx := 63) ⟨dX9_behindOpening_62, rfl⟩ ?_
          rw [show nI (s.m + 1) - 1 = nI s.m by rw [show (1 : Int32) = nI 1 by decide, nI_sub (by omega)]; rfl]
          refine G_iast (nx := 64) (k := 44) ⟨dX9_behindOpening_63, rfl⟩ q_44 (by exact vp_in_nI (by omega) (by omega)) ?_
          rw [cl_nI (by omega)]
          refine G_aload_0 (nx := 65) ⟨dX9_behindOpening_64, rfl⟩ ?_
          refine G_dup (nx := 66) ⟨dX9_behindOpening_65, rfl⟩ rfl ?_
          refine G_geti (nx := 69) (k := 42) ⟨dX9_behindOpening_66, rfl⟩ fX9_18 q_42 yi_9_2 ?_
          rw [w2_row _ _ _ _ (by decide), addI_lo I ho (by omega) (by omega) (by omega) _ _ (by decide), h3]
          refine G_iconst (nx := 70) ⟨dX9_behindOpening_69, rfl⟩ ci_1 ?_
          refine G_iadd (nx := 71) ⟨dX9_behindOpening_70, rfl⟩ ?_
          rw [nI_1]
          refine G_puti (nx := 74) (k := 42) ⟨dX9_behindOpening_71, rfl⟩ pX9_18 q_42 yt_9_2 ?_
          refine G_iconst (nx := 75) ⟨dX9_behindOpening_74, rfl⟩ ci_1 ?_
          refine G_iret ⟨dX9_behindOpening_75, rfl⟩ rfl ?_
          have hb : ¬ opB s = true := by
            intro h
            rcases of_decide_eq_true h with h | h | h
            · exact c_2 (cm_4.mpr h)
            · omega
            · omega
          rw [if_neg hb, if_neg hb] at hk
          exact hk
        · refine G_iconst (nx := 48) ⟨dX9_behindOpening_47, rfl⟩ ci_5 ?_
          refine G_iret ⟨dX9_behindOpening_48, rfl⟩ rfl ?_
          rw [bi_0] at c_44
          have h60 := of_decide_eq_false c_44
          rw [if_neg h60]
          have hb : opB s = true := decide_eq_true (Or.inr (Or.inr (by omega)))
          rw [if_pos hb, if_pos hb] at hk
          exact hk
      · have e0 := (nI_0iff (by omega)).mp c_20
        refine G_iconst (nx := 24) ⟨dX9_behindOpening_23, rfl⟩ ci_m1 ?_
        refine G_goto (tgt := 38) ⟨dX9_behindOpening_24, rfl⟩ rfl ?_
        first | rw [cl_nI (by omega), h_b e0] | rw [← h_a e0]
        refine G_istore_3 (nx := 39) ⟨dX9_behindOpening_38, rfl⟩ rfl rfl ?_
        refine G_aload_2 (nx := 40) ⟨dX9_behindOpening_39, rfl⟩ ?_
        refine G_iload_3 (nx := 41) ⟨dX9_behindOpening_40, rfl⟩ ?_
        refine G_cv1 (nx := 44) ⟨dX9_behindOpening_41, rfl⟩ kX9_61 rfl hT.1 rfl (Nat.le_of_ble_eq_true rfl) (Nat.le_of_ble_eq_true rfl) (cT_add hT ⟨h5, hm60⟩ ?_)
        refine G_ifne (tgt := 49) (nx := 47) ⟨dX9_behindOpening_44, rfl⟩ rfl (fun c_44 => ?_) (fun c_44 => ?_)
        · rw [bi_n0] at c_44
          have h60 := of_decide_eq_true c_44
          rw [if_pos h60]
          refine G_aload_0 (nx := 50) ⟨dX9_behindOpening_49, rfl⟩ ?_
          refine G_getr (nx := 53) (k := 42) (r := 44) ⟨dX9_behindOpening_50, rfl⟩ fX9_15 q_42 yr_9_1 (r_42_1 _) ?_
          refine G_aload_0 (nx := 54) ⟨dX9_behindOpening_53, rfl⟩ ?_
          refine G_geti (nx := 57) (k := 42) ⟨dX9_behindOpening_54, rfl⟩ fX9_18 q_42 yi_9_2 ?_
          rw [addI_lo I ho (by omega) (by omega) (by omega) _ _ (by decide), h3]
          refine G_aload_2 (nx := 58) ⟨dX9_behindOpening_57, rfl⟩ ?_
          refine G_geti (nx := 61) (k := o) ⟨dX9_behindOpening_58, rfl⟩ fX9_25 hT.1 yi_10_8 ?_
          rw [show addI I o a b c s.m s.at0 o 8 = nI (s.m + 1) from w2_at _ _ _ _]
          refine G_iconst (nx := 62) ⟨dX9_behindOpening_61, rfl⟩ ci_1 ?_
          refine G_isub (nx := 63) ⟨dX9_behindOpening_62, rfl⟩ ?_
          rw [show nI (s.m + 1) - 1 = nI s.m by rw [show (1 : Int32) = nI 1 by decide, nI_sub (by omega)]; rfl]
          refine G_iast (nx := 64) (k := 44) ⟨dX9_behindOpening_63, rfl⟩ q_44 (by exact vp_in_nI (by omega) (by omega)) ?_
          rw [cl_nI (by omega)]
          refine G_aload_0 (nx := 65) ⟨dX9_behindOpening_64, rfl⟩ ?_
          refine G_dup (nx := 66) ⟨dX9_behindOpening_65, rfl⟩ rfl ?_
          refine G_geti (nx := 69) (k := 42) ⟨dX9_behindOpening_66, rfl⟩ fX9_18 q_42 yi_9_2 ?_
          rw [w2_row _ _ _ _ (by decide), addI_lo I ho (by omega) (by omega) (by omega) _ _ (by decide), h3]
          refine G_iconst (nx := 70) ⟨dX9_behindOpening_69, rfl⟩ ci_1 ?_
          refine G_iadd (nx := 71) ⟨dX9_behindOpening_70, rfl⟩ ?_
          rw [nI_1]
          refine G_puti (nx := 74) (k := 42) ⟨dX9_behindOpening_71, rfl⟩ pX9_18 q_42 yt_9_2 ?_
          refine G_iconst (nx := 75) ⟨dX9_behindOpening_74, rfl⟩ ci_1 ?_
          refine G_iret ⟨dX9_behindOpening_75, rfl⟩ rfl ?_
          have hb : ¬ opB s = true := by
            intro h
            rcases of_decide_eq_true h with h | h | h
            · exact c_2 (cm_4.mpr h)
            · omega
            · omega
          rw [if_neg hb, if_neg hb] at hk
          exact hk
        · refine G_iconst (nx := 48) ⟨dX9_behindOpening_47, rfl⟩ ci_5 ?_
          refine G_iret ⟨dX9_behindOpening_48, rfl⟩ rfl ?_
          rw [bi_0] at c_44
          have h60 := of_decide_eq_false c_44
          rw [if_neg h60]
          have hb : opB s = true := decide_eq_true (Or.inr (Or.inr (by omega)))
          rw [if_pos hb, if_pos hb] at hk
          exact hk
    · refine G_iconst (nx := 15) ⟨dX9_behindOpening_14, rfl⟩ ci_5 ?_
      refine G_iret ⟨dX9_behindOpening_15, rfl⟩ rfl ?_
      have hb : opB s = true := decide_eq_true (Or.inr (Or.inl (by have := mt (nI_lt_iff (a := s.dp) (b := 20) (by omega) (by omega)).mpr c_11; omega)))
      rw [if_pos hb, if_pos hb] at hk
      exact hk

theorem cA_close {s : TS} {t : Nat} (hV : TV t s) (h3 : I 42 2 = nI s.dp) (hk : K (.int (if s.dp = 0 then 5 else if s.dp = 1 then 4 else 3)) (if s.dp = 0 then I else w2 I 42 2 (nI (s.dp - 1))) J (rX g)) : G l d mX9_behindClosing K 0 [.ref 42, .int (cmI s)] [] I J (rX g) := by
  have hd20 := hV.2.2.1
  refine G_iload_1 (nx := 1) ⟨dX9_behindClosing_0, rfl⟩ ?_
  refine G_ifeq (tgt := 16) (nx := 4) ⟨dX9_behindClosing_1, rfl⟩ rfl (fun c_1 => ?_) (fun c_1 => ?_)
  · refine G_iconst (nx := 17) ⟨dX9_behindClosing_16, rfl⟩ ci_5 ?_
    refine G_iret ⟨dX9_behindClosing_17, rfl⟩ rfl ?_
    have e0 : s.dp = 0 := (cm_0.mp c_1).1
    rw [if_pos e0, if_pos e0] at hk
    exact hk
  · refine G_iload_1 (nx := 5) ⟨dX9_behindClosing_4, rfl⟩ ?_
    refine G_iconst (nx := 6) ⟨dX9_behindClosing_5, rfl⟩ ci_4 ?_
    refine G_icmpeq (tgt := 16) (nx := 9) ⟨dX9_behindClosing_6, rfl⟩ rfl (fun c_6 => ?_) (fun c_6 => ?_)
    · refine G_iconst (nx := 17) ⟨dX9_behindClosing_16, rfl⟩ ci_5 ?_
      refine G_iret ⟨dX9_behindClosing_17, rfl⟩ rfl ?_
      have e0 : s.dp = 0 := (cm_4.mp c_6).1
      rw [if_pos e0, if_pos e0] at hk
      exact hk
    · refine G_aload_0 (nx := 10) ⟨dX9_behindClosing_9, rfl⟩ ?_
      refine G_geti (nx := 13) (k := 42) ⟨dX9_behindClosing_10, rfl⟩ fX9_18 q_42 yi_9_2 ?_
      rw [h3]
      refine G_ifne (tgt := 18) (nx := 16) ⟨dX9_behindClosing_13, rfl⟩ rfl (fun c_13 => ?_) (fun c_13 => ?_)
      · have e0 : 0 < s.dp := by
          rcases Nat.eq_zero_or_pos s.dp with q | q
          · exact absurd ((nI_0iff (by omega)).mpr q) c_13
          · exact q
        refine G_aload_0 (nx := 19) ⟨dX9_behindClosing_18, rfl⟩ ?_
        refine G_dup (nx := 20) ⟨dX9_behindClosing_19, rfl⟩ rfl ?_
        refine G_geti (nx := 23) (k := 42) ⟨dX9_behindClosing_20, rfl⟩ fX9_18 q_42 yi_9_2 ?_
        rw [h3]
        refine G_iconst (nx := 24) ⟨dX9_behindClosing_23, rfl⟩ ci_1 ?_
        refine G_isub (nx := 25) ⟨dX9_behindClosing_24, rfl⟩ ?_
        rw [show nI s.dp - 1 = nI (s.dp - 1) by rw [show (1 : Int32) = nI 1 by decide, nI_sub (by omega)]]
        refine G_puti (nx := 28) (k := 42) ⟨dX9_behindClosing_25, rfl⟩ pX9_18 q_42 yt_9_2 ?_
        refine G_aload_0 (nx := 29) ⟨dX9_behindClosing_28, rfl⟩ ?_
        refine G_geti (nx := 32) (k := 42) ⟨dX9_behindClosing_29, rfl⟩ fX9_18 q_42 yi_9_2 ?_
        rw [w2_at]
        refine G_ifne (tgt := 39) (nx := 35) ⟨dX9_behindClosing_32, rfl⟩ rfl (fun c_32 => ?_) (fun c_32 => ?_)
        · refine G_iconst (nx := 40) ⟨dX9_behindClosing_39, rfl⟩ ci_3 ?_
          refine G_iret ⟨dX9_behindClosing_40, rfl⟩ rfl ?_
          have e1 : ¬ s.dp = 1 := by
            intro q
            exact c_32 ((nI_0iff (by omega)).mpr (by omega))
          rw [if_neg (by omega), if_neg e1, if_neg (by omega)] at hk
          exact hk
        · refine G_iconst (nx := 36) ⟨dX9_behindClosing_35, rfl⟩ ci_4 ?_
          refine G_goto (tgt := 40) ⟨dX9_behindClosing_36, rfl⟩ rfl ?_
          refine G_iret ⟨dX9_behindClosing_40, rfl⟩ rfl ?_
          have e1 : s.dp = 1 := by
            have := (nI_0iff (by omega)).mp (c_32)
            omega
          rw [if_neg (by omega), if_pos e1, if_neg (by omega)] at hk
          exact hk
      · refine G_iconst (nx := 17) ⟨dX9_behindClosing_16, rfl⟩ ci_5 ?_
        refine G_iret ⟨dX9_behindClosing_17, rfl⟩ rfl ?_
        have e0 : s.dp = 0 := (nI_0iff (by omega)).mp c_13
        rw [if_pos e0, if_pos e0] at hk
        exact hk

end X9J
