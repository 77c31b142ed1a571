
/-- a row of halvings of the class -/
def HT (o a b c e : Nat) : Prop := isO o 2 ∧ isA a 12 ∧ isA b 12 ∧ isA c 12 ∧ isA e 12 ∧ (∀ g, rX g o 0 = some a ∧ rX g o 1 = some b ∧ rX g o 2 = some c ∧ rX g o 3 = some e) ∧ a = o + 1 ∧ b = o + 2 ∧ c = o + 3 ∧ e = o + 4
theorem ht16 : HT 16 17 18 19 20 := ⟨q_16, q_17, q_18, q_19, q_20, fun g => ⟨r_16_0 g, r_16_1 g, r_16_2 g, r_16_3 g⟩, rfl, rfl, rfl, rfl⟩
theorem ht29 : HT 29 30 31 32 33 := ⟨q_29, q_30, q_31, q_32, q_33, fun g => ⟨r_29_0 g, r_29_1 g, r_29_2 g, r_29_3 g⟩, rfl, rfl, rfl, rfl⟩
theorem ht37 : HT 37 38 39 40 41 := ⟨q_37, q_38, q_39, q_40, q_41, fun g => ⟨r_37_0 g, r_37_1 g, r_37_2 g, r_37_3 g⟩, rfl, rfl, rfl, rfl⟩
def fMp (o x y : Nat) : Bool := (x == o && y == 4) || (decide (o < x) && decide (x ≤ o + 4))
theorem fMp_t {o x y : Nat} (h : o < x ∧ x ≤ o + 4) : fMp o x y = true := by simp [fMp, h.1, h.2]
theorem fMp_o {o : Nat} : fMp o o 4 = true := by simp [fMp]
theorem fMp_f {o x y : Nat} (h : x < o ∨ o + 4 < x ∨ (x = o ∧ ¬ y = 4)) : fMp o x y = false := by
  simp only [fMp, Bool.or_eq_false_iff, Bool.and_eq_false_iff, beq_eq_false_iff_ne, decide_eq_false_iff_not]
  omega
section X69
variable {l : Launch} {d : Nat} {K : AK} {I : AI} {J : AJ} {g : Bool} {n : Nat} {gr : Nat → Nat}

theorem lH_shiftE {o a b c e : Nat} (hH : HT o a b c e) {lv : Int32} {st : Nat} {x4 x5 : Value} (hst : st ≤ 12) (hk : K .null I J (rX g)) : G l d mX2_shiftPairs K 4 [.ref o, .int lv, .int (-1), .int (nI st), x4, x5] [] I J (rX g) := by
  refine G_iload_3 (nx := 5) ⟨dX2_shiftPairs_4, rfl⟩ ?_
  refine G_bipush (nx := 7) ⟨dX2_shiftPairs_5, rfl⟩ cb_12 ?_
  refine G_icmpge (tgt := 56) (nx := 10) ⟨dX2_shiftPairs_7, rfl⟩ rfl (fun c_7 => ?_) (fun c_7 => ?_)
  · refine G_vret ⟨dX2_shiftPairs_56, rfl⟩ rfl ?_
    exact hk
  · refine G_iload_2 (nx := 11) ⟨dX2_shiftPairs_10, rfl⟩ ?_
    refine G_iflt (tgt := 56) (nx := 14) ⟨dX2_shiftPairs_11, rfl⟩ rfl (fun c_11 => ?_) (fun c_11 => ?_)
    · refine G_vret ⟨dX2_shiftPairs_56, rfl⟩ rfl ?_
      exact hk
    · exact absurd (by decide) c_11

theorem lH_shift {o a b c e : Nat} (hH : HT o a b c e) {A B start last : Nat} {m : Nat → Option Nat} {pa : Nat → Nat} {Qs : Nat} {lv : Int32} (hn : n ≤ 12) (hE : EV gr n A B m) (hI : IJ 0 m) (hst : ∀ x, ¬ m x = some start) (hsn : start < n) (hsA : A.testBit start = true) (hB : B < 2 ^ n) (hml : m last = none) (hc : ∀ x, Qs.testBit x = true → I c x = nI (pa x) ∧ pa x < n) (hk : ∀ (I' : AI) (mf mlf : Nat → Option Nat), PS gr n A B m 0 start mf → (∀ x r, mf x = some r ↔ mlf r = some x) → (∀ x, x < 12 → I' b x = mv (mf x)) → (∀ r, r < 12 → I' a r = mv (mlf r)) → (∀ x, ¬ x = last → (mf x).isSome = (m x).isSome) → (mf last).isSome = true → (∀ x y, ¬ x = a → ¬ x = b → I' x y = I x y) → K .null I' J (rX g)) : ∀ (f q An st : Nat) (mr ml : Nat → Option Nat) (I1 : AI) (x4 x5 : Value), notL x4 = true → notL x5 = true → CHf gr B m start pa f q An → st + f ≤ 12 → SHI gr n A B m start q An mr ml → Qs.testBit q = true → (∀ x, An.testBit x = true → Qs.testBit x = true) → (∀ x, x < 12 → I1 b x = mv (mr x)) → (∀ r, r < 12 → I1 a r = mv (ml r)) → (∀ x, ¬ x = last → (mr x).isSome = (m x).isSome) → (q = last ∨ (mr last).isSome = true) → (∀ x y, ¬ x = a → ¬ x = b → I1 x y = I x y) → G l d mX2_shiftPairs K 4 [.ref o, .int lv, .int (nI q), .int (nI st), x4, x5] [] I1 J (rX g) := by
  obtain ⟨qa, qb, qc, qe⟩ := hH.2.2.2.2.2.2
  intro f
  induction f with
  | zero => intro q An st mr ml I1 x4 x5 _ _ hch; exact hch.elim
  | succ f ih =>
  intro q An st mr ml I1 x4 x5 hx4 hx5 hch hsf hS hqs hAs hrb hra hdom hlast hoth
  obtain ⟨g1, g2, g3, g4⟩ := hch
  have hqn : q < n := tb_ltn hB g1
  obtain ⟨hcq, hpn⟩ := hc q hqs
  have hcq1 : I1 c q = nI (pa q) := by rw [hoth c q (by omega) (by omega)]; exact hcq
  have hiq : vp_in (nI q) 12 := in12 hqn hn
  have hip : vp_in (nI (pa q)) 12 := in12 hpn hn
  have ecq := cl_nI (p := q) (by omega)
  have ecp := cl_nI (p := pa q) (by omega)
  have hrb' : ∀ x, x < 12 → w2 (w2 I1 a (pa q) (nI q)) b q (nI (pa q)) b x = mv (mu mr q (pa q) x) := by
    intro x hx
    by_cases e : x = q
    · rw [e, w2_at, mu_at]; rfl
    · rw [w2_ne _ _ _ _ (by omega), w2_row _ _ _ _ (show ¬ b = a by omega), mu_ne e]; exact hrb x hx
  have hra' : ∀ r, r < 12 → w2 (w2 I1 a (pa q) (nI q)) b q (nI (pa q)) a r = mv (mu ml (pa q) q r) := by
    intro r hr
    rw [w2_row _ _ _ _ (show ¬ a = b by omega)]
    by_cases e : r = pa q
    · rw [e, w2_at, mu_at]; rfl
    · rw [w2_ne _ _ _ _ (by omega), mu_ne e]; exact hra r hr
  have hoth' : ∀ x y, ¬ x = a → ¬ x = b → w2 (w2 I1 a (pa q) (nI q)) b q (nI (pa q)) x y = I x y := fun x y h1 h2 => by rw [w2_row _ _ _ _ h2, w2_row _ _ _ _ h1]; exact hoth x y h1 h2
  have hlast' : (mu mr q (pa q) last).isSome = true := by
    rcases hlast with h | h
    · rw [h, mu_at]; rfl
    · by_cases e : last = q
      · rw [e, mu_at]; rfl
      · rw [mu_ne e]; exact h
  have hdom' : ∀ x, ¬ x = last → (mu mr q (pa q) x).isSome = (m x).isSome := by
    intro x hx
    by_cases e : x = q
    · rw [e, mu_at]
      rcases hS.1 with ⟨z, -⟩ | ⟨r, z, -⟩
      · have h2 := hdom q (by rw [← e]; exact hx)
        rcases hlast with h | h
        · exact absurd (e.trans h) hx
        · rcases hS.1 with ⟨-, y⟩ | ⟨r, y, -⟩
          · rw [y, hml] at h; cases h
          · rw [z] at y; cases y
      · rw [z]; rfl
    · rw [mu_ne e]; exact hdom x hx
  rcases g4 with ⟨h1, h2⟩ | ⟨q', An', h1, h2, h3⟩
  · subst h2
    obtain ⟨k1, k2⟩ := SHI_end hE hI hst hsn hsA hqn g1 (by rw [← h1]; exact g2) hS
    have hbef : I1 a (pa q) = -1 := by rw [hra _ (by omega), h1, hS.2.2.2.1]; rfl
    refine G_iload_3 (nx := 5) ⟨dX2_shiftPairs_4, rfl⟩ ?_
    refine G_bipush (nx := 7) ⟨dX2_shiftPairs_5, rfl⟩ cb_12 ?_
    rw [show (12 : Int32) = nI 12 by decide]
    refine G_icmpge (tgt := 56) (nx := 10) ⟨dX2_shiftPairs_7, rfl⟩ rfl (fun c_7 => ?_) (fun c_7 => ?_)
    · (rw [nI_le_iff (by omega) (by omega)] at c_7; omega)
    · refine G_iload_2 (nx := 11) ⟨dX2_shiftPairs_10, rfl⟩ ?_
      refine G_iflt (tgt := 56) (nx := 14) ⟨dX2_shiftPairs_11, rfl⟩ rfl (fun c_11 => ?_) (fun c_11 => ?_)
      · (rw [← nI_0, nI_lt_iff (by omega) (by omega)] at c_11; omega)
      · refine G_aload_0 (nx := 15) ⟨dX2_shiftPairs_14, rfl⟩ ?_
        refine G_getr (nx := 18) (k := o) (r := c) ⟨dX2_shiftPairs_15, rfl⟩ fX2_18 hH.1 yr_2_2 (hH.2.2.2.2.2.1 _).2.2.1 ?_
        refine G_iload_2 (nx := 19) ⟨dX2_shiftPairs_18, rfl⟩ ?_
        refine G_iald (nx := 20) (k := c) ⟨dX2_shiftPairs_19, rfl⟩ hH.2.2.2.1 (by first | assumption | decide | (unfold vp_in; decide)) ?_
        rw [ecq, hcq1]
        refine G_istore_4 (nx := 22) ⟨dX2_shiftPairs_20, rfl⟩ rfl rfl ?_
        refine G_aload_0 (nx := 23) ⟨dX2_shiftPairs_22, rfl⟩ ?_
        refine G_getr (nx := 26) (k := o) (r := a) ⟨dX2_shiftPairs_23, rfl⟩ fX2_9 hH.1 yr_2_0 (hH.2.2.2.2.2.1 _).1 ?_
        refine G_iload_4 (nx := 28) ⟨dX2_shiftPairs_26, rfl⟩ ?_
        refine G_iald (nx := 29) (k := a) ⟨dX2_shiftPairs_28, rfl⟩ hH.2.1 (by first | assumption | decide | (unfold vp_in; decide)) ?_
        rw [ecp, hbef]
        refine G_istore_5 (nx := 31) ⟨dX2_shiftPairs_29, rfl⟩ rfl rfl ?_
        refine G_aload_0 (nx := 32) ⟨dX2_shiftPairs_31, rfl⟩ ?_
        refine G_getr (nx := 35) (k := o) (r := a) ⟨dX2_shiftPairs_32, rfl⟩ fX2_9 hH.1 yr_2_0 (hH.2.2.2.2.2.1 _).1 ?_
        refine G_iload_4 (nx := 37) ⟨dX2_shiftPairs_35, rfl⟩ ?_
        refine G_iload_2 (nx := 38) ⟨dX2_shiftPairs_37, rfl⟩ ?_
        refine G_iast (nx := 39) (k := a) ⟨dX2_shiftPairs_38, rfl⟩ hH.2.1 (by first | assumption | decide | (unfold vp_in; decide)) ?_
        rw [ecp]
        refine G_aload_0 (nx := 40) ⟨dX2_shiftPairs_39, rfl⟩ ?_
        refine G_getr (nx := 43) (k := o) (r := b) ⟨dX2_shiftPairs_40, rfl⟩ fX2_15 hH.1 yr_2_1 (hH.2.2.2.2.2.1 _).2.1 ?_
        refine G_iload_2 (nx := 44) ⟨dX2_shiftPairs_43, rfl⟩ ?_
        refine G_iload_4 (nx := 46) ⟨dX2_shiftPairs_44, rfl⟩ ?_
        refine G_iast (nx := 47) (k := b) ⟨dX2_shiftPairs_46, rfl⟩ hH.2.2.1 (by first | assumption | decide | (unfold vp_in; decide)) ?_
        rw [ecq]
        refine G_iload_5 (nx := 49) ⟨dX2_shiftPairs_47, rfl⟩ ?_
        refine G_istore_2 (nx := 50) ⟨dX2_shiftPairs_49, rfl⟩ rfl rfl ?_
        refine G_iinc_3 (nx := 53) ⟨dX2_shiftPairs_50, rfl⟩ ci_1 rfl ?_
        refine G_goto (tgt := 4) ⟨dX2_shiftPairs_53, rfl⟩ rfl ?_
        refine G_L (by rw [nI_1]) (lH_shiftE hH (by omega) ?_)
        exact hk _ (mu mr q start) (mu ml start q) k1 k2 (by rw [h1] at hrb'; rw [h1]; exact hrb') (by rw [h1] at hra'; rw [h1]; exact hra') (by rw [h1] at hdom'; exact hdom') (by rw [h1] at hlast'; exact hlast') hoth'

  · have hq'f : An'.testBit q' = false := by
      cases f with
      | zero => exact h3.elim
      | succ f => exact h3.2.2.1
    obtain ⟨k1, k2⟩ := SHI_step hE hI hst hqn g1 g2 (by rw [← h2]; exact g3) hq'f h1 (by rw [← h2]; exact hS)
    have hbef : I1 a (pa q) = nI q' := by rw [hra _ (by omega), k1]; rfl
    have hq'l : ¬ q' = last := fun e => by rw [e, hml] at h1; cases h1
    refine G_iload_3 (nx := 5) ⟨dX2_shiftPairs_4, rfl⟩ ?_
    refine G_bipush (nx := 7) ⟨dX2_shiftPairs_5, rfl⟩ cb_12 ?_
    rw [show (12 : Int32) = nI 12 by decide]
    refine G_icmpge (tgt := 56) (nx := 10) ⟨dX2_shiftPairs_7, rfl⟩ rfl (fun c_7 => ?_) (fun c_7 => ?_)
    · (rw [nI_le_iff (by omega) (by omega)] at c_7; omega)
    · refine G_iload_2 (nx := 11) ⟨dX2_shiftPairs_10, rfl⟩ ?_
      refine G_iflt (tgt := 56) (nx := 14) ⟨dX2_shiftPairs_11, rfl⟩ rfl (fun c_11 => ?_) (fun c_11 => ?_)
      · (rw [← nI_0, nI_lt_iff (by omega) (by omega)] at c_11; omega)
      · refine G_aload_0 (nx := 15) ⟨dX2_shiftPairs_14, rfl⟩ ?_
        refine G_getr (nx := 18) (k := o) (r := c) ⟨dX2_shiftPairs_15, rfl⟩ fX2_18 hH.1 yr_2_2 (hH.2.2.2.2.2.1 _).2.2.1 ?_
        refine G_iload_2 (nx := 19) ⟨dX2_shiftPairs_18, rfl⟩ ?_
        refine G_iald (nx := 20) (k := c) ⟨dX2_shiftPairs_19, rfl⟩ hH.2.2.2.1 (by first | assumption | decide | (unfold vp_in; decide)) ?_
        rw [ecq, hcq1]
        refine G_istore_4 (nx := 22) ⟨dX2_shiftPairs_20, rfl⟩ rfl rfl ?_
        refine G_aload_0 (nx := 23) ⟨dX2_shiftPairs_22, rfl⟩ ?_
        refine G_getr (nx := 26) (k := o) (r := a) ⟨dX2_shiftPairs_23, rfl⟩ fX2_9 hH.1 yr_2_0 (hH.2.2.2.2.2.1 _).1 ?_
        refine G_iload_4 (nx := 28) ⟨dX2_shiftPairs_26, rfl⟩ ?_
        refine G_iald (nx := 29) (k := a) ⟨dX2_shiftPairs_28, rfl⟩ hH.2.1 (by first | assumption | decide | (unfold vp_in; decide)) ?_
        rw [ecp, hbef]
        refine G_istore_5 (nx := 31) ⟨dX2_shiftPairs_29, rfl⟩ rfl rfl ?_
        refine G_aload_0 (nx := 32) ⟨dX2_shiftPairs_31, rfl⟩ ?_
        refine G_getr (nx := 35) (k := o) (r := a) ⟨dX2_shiftPairs_32, rfl⟩ fX2_9 hH.1 yr_2_0 (hH.2.2.2.2.2.1 _).1 ?_
        refine G_iload_4 (nx := 37) ⟨dX2_shiftPairs_35, rfl⟩ ?_
        refine G_iload_2 (nx := 38) ⟨dX2_shiftPairs_37, rfl⟩ ?_
        refine G_iast (nx := 39) (k := a) ⟨dX2_shiftPairs_38, rfl⟩ hH.2.1 (by first | assumption | decide | (unfold vp_in; decide)) ?_
        rw [ecp]
        refine G_aload_0 (nx := 40) ⟨dX2_shiftPairs_39, rfl⟩ ?_
        refine G_getr (nx := 43) (k := o) (r := b) ⟨dX2_shiftPairs_40, rfl⟩ fX2_15 hH.1 yr_2_1 (hH.2.2.2.2.2.1 _).2.1 ?_
        refine G_iload_2 (nx := 44) ⟨dX2_shiftPairs_43, rfl⟩ ?_
        refine G_iload_4 (nx := 46) ⟨dX2_shiftPairs_44, rfl⟩ ?_
        refine G_iast (nx := 47) (k := b) ⟨dX2_shiftPairs_46, rfl⟩ hH.2.2.1 (by first | assumption | decide | (unfold vp_in; decide)) ?_
        rw [ecq]
        refine G_iload_5 (nx := 49) ⟨dX2_shiftPairs_47, rfl⟩ ?_
        refine G_istore_2 (nx := 50) ⟨dX2_shiftPairs_49, rfl⟩ rfl rfl ?_
        refine G_iinc_3 (nx := 53) ⟨dX2_shiftPairs_50, rfl⟩ ci_1 rfl ?_
        refine G_goto (tgt := 4) ⟨dX2_shiftPairs_53, rfl⟩ rfl ?_
        exact G_L (by rw [nI_1]) (ih q' An' (st + 1) _ _ _ _ _ rfl rfl h3 (by omega) k2 (hAs q' (by rw [h2, tb_ins]; simp)) (fun x hx => hAs x (by rw [h2, tb_ins, hx]; rfl)) hrb' hra' hdom' (Or.inr hlast') hoth')

theorem cH_shift {o a b c e : Nat} (hH : HT o a b c e) {A B start last : Nat} {m : Nat → Option Nat} {pa : Nat → Nat} {Qs f An : Nat} {ml : Nat → Option Nat} (hn : n ≤ 12) (hE : EV gr n A B m) (hI : IJ 0 m) (hst : ∀ x, ¬ m x = some start) (hsn : start < n) (hsA : A.testBit start = true) (hB : B < 2 ^ n) (hml : m last = none) (hc : ∀ x, Qs.testBit x = true → I c x = nI (pa x) ∧ pa x < n) (hch : CHf gr B m start pa f last An) (hf : f ≤ 12) (hIV : ∀ x r, m x = some r ↔ ml r = some x) (hq : Qs.testBit last = true) (hAs : ∀ x, An.testBit x = true → Qs.testBit x = true ∧ (m x).isSome = true) (hrb : ∀ x, x < 12 → I b x = mv (m x)) (hra : ∀ r, r < 12 → I a r = mv (ml r)) (hk : ∀ (I' : AI) (mf mlf : Nat → Option Nat), PS gr n A B m 0 start mf → (∀ x r, mf x = some r ↔ mlf r = some x) → (∀ x, x < 12 → I' b x = mv (mf x)) → (∀ r, r < 12 → I' a r = mv (mlf r)) → (∀ x, ¬ x = last → (mf x).isSome = (m x).isSome) → (mf last).isSome = true → (∀ x y, ¬ x = a → ¬ x = b → I' x y = I x y) → K .null I' J (rX g)) : G l d mX2_shiftPairs K 0 [.ref o, .int (nI last), UU, UU, UU, UU] [] I J (rX g) := by
  have hS : SHI gr n A B m start last An m ml := by
    refine ⟨Or.inl ⟨hml, rfl⟩, fun x r _ => hIV x r, fun r h => ?_, ?_, fun x hx r hr => (hIV x r).mp hr⟩
    · have := (hIV last r).mpr h
      rw [hml] at this
      cases this
    · cases q : ml start with
      | none => rfl
      | some x => exact absurd ((hIV x start).mpr q) (hst x)
  refine G_iload_1 (nx := 1) ⟨dX2_shiftPairs_0, rfl⟩ ?_
  refine G_istore_2 (nx := 2) ⟨dX2_shiftPairs_1, rfl⟩ rfl rfl ?_
  refine G_iconst (nx := 3) ⟨dX2_shiftPairs_2, rfl⟩ ci_0 ?_
  refine G_istore_3 (nx := 4) ⟨dX2_shiftPairs_3, rfl⟩ rfl rfl ?_
  exact G_L (by rw [← nI_0]) (lH_shift hH hn hE hI hst hsn hsA hB hml hc hk f last An 0 m ml I UU UU rfl rfl hch (by omega) hS hq (fun x hx => (hAs x hx).1) hrb hra (fun _ _ => rfl) (Or.inl rfl) (fun _ _ _ _ => rfl))

end X69
