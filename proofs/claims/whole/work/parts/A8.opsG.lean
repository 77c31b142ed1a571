
theorem ltF_u2 (is : Nat → Int32) (p : Nat) : ∀ k c, lp (ltF is p) k c ≤ c + (k - (p + 1)) := by
  intro k
  induction k with
  | zero => intro c; exact Nat.le_add_right _ _
  | succ k ih =>
    intro c
    rw [lp_s]
    have := ih c
    generalize lp (ltF is p) k c = x at this ⊢
    unfold ltF
    split
    · omega
    · omega
theorem ltN_ub {is : Nat → Int32} {m p : Nat} (hp : p < m) : ltN is m p ≤ m := by
  unfold ltN
  by_cases h : p = 0
  · rw [if_pos h]
    have := ltF_u2 is p m 0
    omega
  · rw [if_neg h]
    have := ltF_u2 is p m 1
    omega
/-- all but the tape and the tree -/
def rsW (a b : Nat) : Prop := pZ a b ∨ pS a b ∨ pV a b ∨ pI a b
theorem REST.fW {I I' : AI} {g g' : Bool} (h : REST I g) (ht : TAP I') (hr : TRE I' g') (hs : sq rsW I I') : REST I' g' := ⟨h.1.fr (fun a b q => hs a b (Or.inl q)), ht, hr, h.2.2.2.1.fr (fun a b q => hs a b (Or.inr (Or.inl q))), h.2.2.2.2.1.fr (fun a b q => hs a b (Or.inr (Or.inr (Or.inl q)))), h.2.2.2.2.2.fr (fun a b q => hs a b (Or.inr (Or.inr (Or.inr q))))⟩
theorem TW_0 (k x i : Nat → Int32) : TW (0, -1, 0, 0, 0, k, x, i) := ⟨⟨fun h => absurd h (Nat.lt_irrefl 0), fun _ _ h => absurd h (Nat.not_lt_zero _)⟩, fun _ h => absurd h (Nat.not_lt_zero _)⟩
theorem go_n (g : Bool) : (go g = 57 ∧ go (!g) = 66) ∨ (go g = 66 ∧ go (!g) = 57) := by cases g <;> simp [go]
section XA8
variable {l : Launch} {d : Nat} {I : AI} {J : AJ} {g : Bool}

theorem op_image (hI : INV I g) : OPi l d mX11_image mX12_image [.ref 0] [.ref 75] I J g := by
  obtain ⟨n, gr, hN, hR⟩ := hI
  have hg := go_c g
  have h12 := hN.le
  refine cX_image (fun I1 c1 c2 c3 c4 hs1 => ?_)
  have k1 : ∀ a b, fIm a b = true → (a = 11 ∧ b = 4) ∨ (12 ≤ a ∧ a ≤ 14) ∨ (a = 0 ∧ (b = 15 ∨ b = 16)) := by
    intro a b h
    simp only [fIm, fNt, Bool.or_eq_true, Bool.and_eq_true, beq_iff_eq] at h
    omega
  have e1 : ∀ a b, ¬ ((a = 11 ∧ b = 4) ∨ (12 ≤ a ∧ a ≤ 14) ∨ (a = 0 ∧ (b = 15 ∨ b = 16))) → I1 a b = I a b := fun a b h => hs1 a b (Bool.eq_false_iff.mpr (fun q => h (k1 a b q)))
  refine cM_image (d := d + 39) (fun I2 hK h2 => ?_)
  have e2 : ∀ a b, ¬ a = 102 → ¬ (a = 75 ∧ b = 42) → w2 I2 75 42 1 a b = I1 a b := fun a b h h' => by rw [w2_ne _ _ _ _ h', h2 a h]
  have e3 : ∀ b, w2 I2 75 42 1 102 b = I2 102 b := fun b => w2_ne _ _ _ _ (by omega)
  have e4 : w2 I2 75 42 1 75 42 = 1 := w2_at _ _ _ _
  generalize w2 I2 75 42 1 = I3 at e2 e3 e4
  have e5 : ∀ a b, ¬ a = 102 → ¬ (a = 75 ∧ b = 42) → ¬ ((a = 11 ∧ b = 4) ∨ (12 ≤ a ∧ a ≤ 14) ∨ (a = 0 ∧ (b = 15 ∨ b = 16))) → I3 a b = I a b := fun a b h h' h'' => (e2 a b h h').trans (e1 a b h'')
  refine fin ?_ (n := n) (gr := gr) (hN.fr (fun a b h => e5 a b (by unfold pN at h; omega) (by unfold pN at h; omega) (by unfold pN at h; omega))) (hR.fI (hR.1.fr (fun a b h => e5 a b (by unfold pZ at h; omega) (by unfold pZ at h; omega) (by unfold pZ at h; omega))) ?_ (fun a b h => e5 a b (by unfold rsI pT pR pS pV at h; omega) (by unfold rsI pT pR pS pV at h; omega) (by unfold rsI pT pR pS pV at h; omega)))
  · rw [e1 75 0 (by omega), hN.1.1, hN.2.1.1]
  · obtain ⟨k2, k3, k4⟩ := hK
    refine ⟨?_, fun _ => ⟨?_, n, gr, h12, ?_, ?_, hN.2.2.1, fun p hp => ?_⟩⟩
    · rw [e2 0 16 (by omega) (by omega), c4, e4]
    · rw [e2 0 15 (by omega) (by omega), c3, e3, k3, e1 75 1 (by omega)]
      exact hR.1
    · rw [e2 11 4 (by omega) (by omega), c1]
      exact hN.1.1
    · rw [e3, k2, e1 75 0 (by omega)]
      exact hN.2.1.1
    · obtain ⟨x1, x2, x3⟩ := c2 p (by omega)
      obtain ⟨y1, y2, y3⟩ := k4 p (by omega)
      obtain ⟨q1, q2, q3, q4⟩ := hN.2.2.2 p hp
      rw [e2 14 p (by omega) (by omega), e2 12 p (by omega) (by omega), e2 13 p (by omega) (by omega), e3, e3, e3, x1, x2, x3, y1, y2, y3, e1 76 p (by omega), e1 77 p (by omega), e1 78 p (by omega)]
      exact ⟨hN.1.2.2.1 p hp, hN.2.1.2.2.1 p hp, q1, q2, q3, q4⟩

theorem op_back (hI : INV I g) : OPi l d mX11_back mX12_back [.ref 0] [.ref 75] I J g := by
  obtain ⟨n, gr, hN, hR⟩ := hI
  have hg := go_c g
  obtain ⟨h16, hIm⟩ := hR.2.2.2.2.2
  refine cX_back (fun h0 => cM_back (d := d + 39) (fun _ => fin rfl hN hR) (fun _ hn _ _ => absurd (h16.symm.trans h0) hn)) (fun I1 hn c1 c2 c3 hs1 => ?_)
  have k1 : ∀ a b, fDl a b = true → (a = 1 ∧ b = 4) ∨ (2 ≤ a ∧ a ≤ 4) ∨ (a = 0 ∧ b = 14) := by
    intro a b h
    simp only [fDl, fNt, Bool.or_eq_true, Bool.and_eq_true, beq_iff_eq] at h
    omega
  have e1 : ∀ a b, ¬ ((a = 1 ∧ b = 4) ∨ (2 ≤ a ∧ a ≤ 4) ∨ (a = 0 ∧ b = 14)) → I1 a b = I a b := fun a b h => hs1 a b (Bool.eq_false_iff.mpr (fun q => h (k1 a b q)))
  obtain ⟨hz, n', gr', hn12, i1, i2, hW', hrow⟩ := hIm (fun h => hn (h16.trans h))
  refine cM_back (d := d + 39) (fun h => absurd (h16.trans ((e1 75 42 (by omega)).symm.trans h)) hn) (fun I2 _ hPB hs2 => ?_)
  have k2 : ∀ a b, fB a b = true → (a = 75 ∧ (b = 0 ∨ b = 1)) ∨ (76 ≤ a ∧ a ≤ 78) := by
    intro a b h
    simp only [fB, Bool.or_eq_true, Bool.and_eq_true, beq_iff_eq] at h
    omega
  have e2 : ∀ a b, ¬ ((a = 75 ∧ (b = 0 ∨ b = 1)) ∨ (76 ≤ a ∧ a ≤ 78)) → I2 a b = I1 a b := fun a b h => hs2 a b (Bool.eq_false_iff.mpr (fun q => h (k2 a b q)))
  obtain ⟨p1, p2, p3⟩ := hPB
  have e102 : ∀ b, I1 102 b = I 102 b := fun b => e1 102 b (by omega)
  rw [e102] at p1 p2
  refine fin ?_ (n := n') (gr := gr') ⟨⟨?_, hn12, fun p hp => ?_, hW'.1⟩, ⟨p1.trans i2, hn12, fun p hp => ?_, hW'.1⟩, hW', fun p hp => ?_⟩ (hR.f2 ?_ (fun a b h => (e2 a b (by unfold rst pT pR pS pV pI at h; omega)).trans (e1 a b (by unfold rst pT pR pS pV pI at h; omega))))
  · rw [c1, i1, p1, i2]
  · rw [e2 1 4 (by omega), c1, i1]
  · rw [e2 4 p (by omega), (c2 p (by omega)).2.2]
    exact (hrow p hp).1
  · rw [(p3 p (by omega)).2.2, e102]
    exact (hrow p hp).2.1
  · rw [e2 2 p (by omega), e2 3 p (by omega), (c2 p (by omega)).1, (c2 p (by omega)).2.1, (p3 p (by omega)).1, (p3 p (by omega)).2.1, e102, e102]
    obtain ⟨_, _, r3, r4, r5, r6⟩ := hrow p hp
    exact ⟨r3, r4, r5, r6⟩
  · show I2 0 14 = I2 75 1
    rw [e2 0 14 (by omega), c3, p2]
    exact hz

theorem op_plant (hI : INV I g) : OPi l d mX11_plant mX12_plant [.ref 0, UU] [.ref 75, UU] I J g := by
  obtain ⟨n, gr, hN, hR⟩ := hI
  have hg := go_c g
  obtain ⟨m, hm, t1, t2, tP, tr⟩ := hR.2.2.1
  refine cX_plant (go_r g) (TTgo g) (by omega) ⟨t1, hm⟩ (fun i h0 hi => by rw [(tr i hi).2.2.1]; exact tP.2 i h0 hi) (fun h => ?_) (fun h => ?_) (fun I1 h0 hm12 c1 c2 hs1 => ?_)
  · exact cM_plant2 (d := d + 39) ⟨t2, hm⟩ tP.2 (fun _ => fin rfl hN hR) (fun h2 => by omega) (fun _ h2 _ _ _ _ => by omega)
  · exact cM_plant2 (d := d + 39) ⟨t2, hm⟩ tP.2 (fun h2 => by omega) (fun _ => fin rfl hN hR) (fun _ _ h2 _ _ _ => by omega)
  · have k1 : ∀ a b, fNt 1 2 3 4 a b = true → (a = 1 ∧ b = 4) ∨ (2 ≤ a ∧ a ≤ 4) := by
      intro a b h
      simp only [fNt, Bool.or_eq_true, Bool.and_eq_true, beq_iff_eq] at h
      omega
    have e1 : ∀ a b, ¬ ((a = 1 ∧ b = 4) ∨ (2 ≤ a ∧ a ≤ 4)) → I1 a b = I a b := fun a b h => hs1 a b (Bool.eq_false_iff.mpr (fun q => h (k1 a b q)))
    have e91 : I1 91 = I 91 := funext (fun b => e1 91 b (by omega))
    refine cM_plant2 (d := d + 39) ⟨(e1 75 26 (by omega)).trans t2, hm⟩ (by rw [e91]; exact tP.2) (fun h2 => by omega) (fun h2 => by omega) (fun I2 _ _ d1 d2 hs2 => ?_)
    have k2 : ∀ a b, fB0 a b = true → (a = 75 ∧ b = 0) ∨ (76 ≤ a ∧ a ≤ 78) := by
      intro a b h
      simp only [fB0, Bool.or_eq_true, Bool.and_eq_true, beq_iff_eq] at h
      omega
    have e2 : ∀ a b, ¬ ((a = 75 ∧ b = 0) ∨ (76 ≤ a ∧ a ≤ 78)) → I2 a b = I1 a b := fun a b h => hs2 a b (Bool.eq_false_iff.mpr (fun q => h (k2 a b q)))
    rw [e91] at d1
    rw [ptG_cg (fun j hj => (tr j hj).2.2.1) m (Nat.le_refl _)] at c1
    refine fin rfl ⟨c1.fr (fun a b h => e2 a b (by omega)), d1, ptG_WG hm tP.2 m (Nat.le_refl _), fun p hp => ?_⟩ (hR.f2 (hR.1.fr (fun a b h => (e2 a b (by unfold pZ at h; omega)).trans (e1 a b (by unfold pZ at h; omega)))) (fun a b h => (e2 a b (by unfold rst pT pR pS pV pI at h; omega)).trans (e1 a b (by unfold rst pT pR pS pV pI at h; omega))))
    obtain ⟨q1, q2, q3, q4, q5⟩ := tr p hp
    rw [e2 2 p (by omega), e2 3 p (by omega), (c2 p hp).1, (c2 p hp).2, (d2 p hp).1, (d2 p hp).2, e1 89 p (by omega), e1 90 p (by omega)]
    exact ⟨q1, q2, q4, q5⟩

theorem op_treeOf {p q : Int32} (hI : INV I g) : OPi l d mX11_treeOf mX12_treeOf [.ref 0, .int p, .int q] [.ref 75, .int p, .int q, UU, UU] I J g := by
  obtain ⟨n, gr, hN, hR⟩ := hI
  obtain ⟨m, hm, t1, t2, tP, tr⟩ := hR.2.2.1
  have ec : ∀ j, j < m → I (go g + 3) j = I 91 j := fun j hj => (tr j hj).2.2.1
  have hPc : TP (I (go g + 3)) m := TP_cg (fun j hj => (ec j hj).symm) tP
  have hx : ∀ {p0 : Nat}, p = nI p0 → p0 < m → inR q 0 5 = true → ¬ (ptB m p && inR q 0 5) = false := by
    intro p0 e hp hq
    rw [e, ptB_nI hp (by omega), hq]
    decide
  refine cX_treeOf (go_r g) (TTgo g) ⟨t1, hm⟩ hPc (fun h => ?_) (fun p0 e hp hq => ?_)
  · exact cM_treeOf (d := d + 38) ⟨t2, hm⟩ tP (fun _ => fin rfl hN hR) (fun p0 _ e hp hq _ => absurd h (hx e hp hq))
  · refine cM_treeOf (d := d + 38) ⟨t2, hm⟩ tP (fun h => absurd h (hx e hp hq)) (fun p1 I2 e1 hp1 _ hs2 => ?_)
    have : p0 = p1 := nI_inj (by omega) (by omega) (e.symm.trans e1)
    subst this
    have hv2 := hs2.sq (v_f100 g)
    obtain ⟨q1, q2, q3, _, _⟩ := tr p0 hp
    refine fin ?_ (hN.fr hv2.N) (hR.fr hv2)
    rw [q1, q2, q3, unN_cg hm ec hPc, ltN_cg ec, mkD_cg ec (m - 1) _ (by omega)]

theorem op_tree {q : Int32} (hI : INV I g) : OPl l d mX11_tree mX12_tree [.ref 0, .int q] [.ref 75, .int q, UU] I J g := by
  obtain ⟨n, gr, hN, hR⟩ := hI
  obtain ⟨m, hm, t1, t2, tP, tr⟩ := hR.2.2.1
  have ec : ∀ j, j < m → I (go g + 3) j = I 91 j := fun j hj => (tr j hj).2.2.1
  have hPc : TP (I (go g + 3)) m := TP_cg (fun j hj => (ec j hj).symm) tP
  have hci : ∀ j, j < m → ciN I m j = cst (I (go g + 1) j) (I (go g + 2) j) (nI (ltN (I (go g + 3)) m j)) (nI j) := fun j hj => by
    unfold ciN
    rw [(tr j hj).1, (tr j hj).2.1, ltN_cg ec]
  have hcb : ∀ j, j < m → ∃ v, v ≤ 100 ∧ ciN I m j = nI v := fun j hj => by
    obtain ⟨v, v1, v9, ev⟩ := wt_ex (tr j hj).2.2.2.2
    unfold ciN
    rw [ev]
    obtain ⟨c, _, hc, ec'⟩ := cst_b (k := I 89 j) (m := ltN (I 91) m j) (p := j) v1 v9 (by have := ltN_ub (is := I 91) hj; omega) (by omega)
    exact ⟨c, hc, ec'⟩
  have h5 : q = 5 → inR q 0 5 = true := fun e => by rw [e]; decide
  refine cX_tree (go_r g) (TTgo g) ⟨t1, hm⟩ hPc (fun h => ?_) (fun hq h0 => ?_) (fun J1 h0 e5 => ?_) (fun I1 J1 by0 h0 hor hs1 => ?_) (fun I1 J1 by0 h0 hor hs1 => ?_)
  · exact cM_tree (d := d + 37) ⟨t2, hm⟩ (fun _ => finl rfl hN hR) (fun h2 _ => absurd h2 (nx h)) (fun _ _ e => absurd (h5 e) (nx h)) (fun _ _ _ h2 _ _ => absurd h2 (nx h))
  · exact cM_tree (d := d + 37) ⟨t2, hm⟩ (fun h => absurd hq (nx h)) (fun _ _ => finl rfl hN hR) (fun _ h2 _ => by omega) (fun _ _ h2 _ _ _ => by omega)
  · refine cM_tree (d := d + 37) ⟨t2, hm⟩ (fun h => absurd (h5 e5) (nx h)) (fun _ h2 => by omega) (fun J2 _ _ => finl ?_ hN hR) (fun _ _ _ _ n5 _ => absurd e5 n5)
    rw [bare_same hm h0 hPc, tN_cg ec (fun _ _ => rfl) m (Nat.le_refl _) 0 h0]

  · have hv1 := hs1.sq (v_fEF g)
    have e1 : ∀ a b, pR g a b → I1 a b = I a b := hv1.R
    have n5 : ¬ q = 5 := by rcases hor with h | h <;> rw [h.1] <;> decide
    have hq : inR q 0 5 = true := by rcases hor with h | h <;> rw [h.1] <;> decide
    refine cM_tree (d := d + 37) ⟨(e1 75 26 (by unfold pR; omega)).trans t2, hm⟩ (fun h => absurd hq (nx h)) (fun _ h2 => by omega) (fun _ _ e => absurd e n5) (fun J2 how _ _ _ eh => finl ?_ (hN.fr hv1.N) (hR.fr hv1))
    rw [tree_low hm h0 hPc hci hcb hor, eh]
    have ei : ∀ j, j < m → ctI (hwI q) (ciN I m) j = ctI (hwI q) (ciN I1 m) j := fun j hj => by
      have e89 := e1 89 j (by unfold pR; omega)
      have e90 := e1 90 j (by unfold pR; omega)
      have e91 : I1 91 = I 91 := funext (fun b => e1 91 b (by unfold pR; omega))
      unfold ctI ciN
      rw [e89, e90, e91]
    rw [tN_cg (fun j hj => (ec j hj).trans (e1 91 j (by unfold pR; omega)).symm) ei m (Nat.le_refl _) 0 h0]
  · have hv1 := hs1.sq (v_fEF g)
    have e1 : ∀ a b, pR g a b → I1 a b = I a b := hv1.R
    have n5 : ¬ q = 5 := by rcases hor with h | h | h <;> rw [h.1] <;> decide
    have hq : inR q 0 5 = true := by rcases hor with h | h | h <;> rw [h.1] <;> decide
    refine cM_tree (d := d + 37) ⟨(e1 75 26 (by unfold pR; omega)).trans t2, hm⟩ (fun h => absurd hq (nx h)) (fun _ h2 => by omega) (fun _ _ e => absurd e n5) (fun J2 how _ _ _ eh => finl ?_ (hN.fr hv1.N) (hR.fr hv1))
    rw [tree_many hm h0 hPc hci hcb hor, eh]
    have ei : ∀ j, j < m → ctI (hwI q) (ciN I m) j = ctI (hwI q) (ciN I1 m) j := fun j hj => by
      have e89 := e1 89 j (by unfold pR; omega)
      have e90 := e1 90 j (by unfold pR; omega)
      have e91 : I1 91 = I 91 := funext (fun b => e1 91 b (by unfold pR; omega))
      unfold ctI ciN
      rw [e89, e90, e91]
    rw [tN_cg (fun j hj => (ec j hj).trans (e1 91 j (by unfold pR; omega)).symm) ei m (Nat.le_refl _) 0 h0]
theorem op_text (hI : INV I g) : OPi l d mX11_text mX12_text [.ref 0, UU, UU] [.ref 75, UU, UU] I J g := by
  obtain ⟨n, gr, hN, hR⟩ := hI
  have hg := go_c g
  have hgn := go_n g
  obtain ⟨h1, h2, t, ht2, ht⟩ := hR.2.1
  have kT : ∀ a b, fTp (go (!g)) a b = true → (a = 42 ∧ b = 2) ∨ a = 44 ∨ (a = go (!g) ∧ b = 8) ∨ (go (!g) < a ∧ a ≤ go (!g) + 3) := by
    intro a b h
    simp only [fTp, Bool.or_eq_true, Bool.and_eq_true, beq_iff_eq] at h
    omega
  refine cX_text (TTgo (!g)) (TTgo g) (go_s g) (go_r g) (go_c (!g)) ht2 (h1.trans ht) (fun I1 hne hs1 => ?_) (fun I1 hm1 hV hC hs1 hg2 => ?_)
  · have e1 : ∀ a b, ¬ ((a = 42 ∧ (b = 2 ∨ b = 3)) ∨ a = 44 ∨ (a = go (!g) ∧ b = 8) ∨ (go (!g) < a ∧ a ≤ go (!g) + 3)) → w2 I1 42 3 0 a b = I a b := fun a b h => by
      rw [w2_ne _ _ _ _ (by omega)]
      exact hs1 a b (Bool.eq_false_iff.mpr (fun q => h (by have := kT a b q; omega)))
    have e42 : w2 I1 42 3 0 42 3 = 0 := w2_at _ _ _ _
    generalize w2 I1 42 3 0 = I2 at e1 e42
    have e88 : I2 88 = I 43 := by rw [h2]; funext b; exact e1 88 b (by omega)
    have hE := ftE (tp := I 43) (t + 1) _ (tz I2) (TV_0 t (I (go (!g) + 1)) (I (go (!g) + 2)) (I (go (!g) + 3))) ⟨rfl, rfl, rfl, rfl, rfl, fun j hj => absurd hj (Nat.not_lt_zero _)⟩
    refine cM_text (d := d + 37) ((e1 75 25 (by omega)).trans ht) ht2 (fun I3 _ d1 hs3 => ?_) (fun I3 hm3 _ _ _ _ _ => ?_)
    · have k3 : ∀ a b, (fF a b || (a == 75 && b == 25)) = true → (a = 75 ∧ (b = 30 ∨ b = 25)) ∨ (92 ≤ a ∧ a ≤ 94) := by
        intro a b h
        simp only [fF, Bool.or_eq_true, Bool.and_eq_true, beq_iff_eq] at h
        omega
      have e3 : ∀ a b, ¬ ((a = 75 ∧ (b = 30 ∨ b = 25)) ∨ (92 ≤ a ∧ a ≤ 94)) → I3 a b = I2 a b := fun a b h => hs3 a b (Bool.eq_false_iff.mpr (fun q => h (k3 a b q)))
      refine fin ?_ (n := n) (gr := gr) (hN.fr (fun a b h => (e3 a b (by unfold pN at h; omega)).trans (e1 a b (by unfold pN at h; omega)))) (hR.fT ⟨?_, ?_, 0, by decide, d1⟩ (fun a b h => (e3 a b (by unfold rsT pZ pR pS pV pI at h; omega)).trans (e1 a b (by unfold rsT pZ pR pS pV pI at h; omega))))
      · rw [e88, hE.1]
      · rw [e3 42 3 (by omega), e42, d1]
      · funext b
        rw [e3 43 b (by omega), e3 88 b (by omega), e1 43 b (by omega), e88]
    · rw [e88, ← hE.1] at hm3
      exact absurd hm3 hne
  · have e1 : ∀ a b, ¬ ((a = 42 ∧ (b = 2 ∨ b = 3)) ∨ a = 44 ∨ (a = go (!g) ∧ b = 8) ∨ (go (!g) < a ∧ a ≤ go (!g) + 3)) → w2 I1 42 3 0 a b = I a b := fun a b h => by
      rw [w2_ne _ _ _ _ (by omega)]
      exact hs1 a b (Bool.eq_false_iff.mpr (fun q => h (by have := kT a b q; omega)))
    have e42 : w2 I1 42 3 0 42 3 = 0 := w2_at _ _ _ _
    have eR : ∀ a b, ¬ a = 42 → w2 I1 42 3 0 a b = I1 a b := fun a b h => w2_ne _ _ _ _ (by omega)
    generalize w2 I1 42 3 0 = I2 at e1 e42 eR
    have e88 : I2 88 = I 43 := by rw [h2]; funext b; exact e1 88 b (by omega)
    have hE := ftE (tp := I 43) (t + 1) _ (tz I2) (TV_0 t (I (go (!g) + 1)) (I (go (!g) + 2)) (I (go (!g) + 3))) ⟨rfl, rfl, rfl, rfl, rfl, fun j hj => absurd hj (Nat.not_lt_zero _)⟩
    have hTW := hE.2.2 (TW_0 _ _ _)
    refine cM_text (d := d + 37) ((e1 75 25 (by omega)).trans ht) ht2 (fun I3 hn3 _ _ => ?_) (fun I3 _ _ d1 d2 d3 hs3 => ?_)
    · rw [e88, ← hE.1] at hn3
      exact absurd hm1 hn3
    · rw [e88] at d1 d3 ⊢
      obtain ⟨c1, c2, c3, c4, c5, c6, c7, c8, -⟩ := hC
      obtain ⟨x1, x2, x3, x4, x5, x6⟩ := hE.2.1
      generalize (ft (I 43) t (t + 1) (0, -1, 0, 0, 0, I (go (!g) + 1), I (go (!g) + 2), I (go (!g) + 3))).2 = u at hV c5 c6 c7 c8 x5 x6 hTW
      generalize (ft (I 43) t (t + 1) (tz I2)).2 = u' at d1 d3 x5 x6
      have k3 : ∀ a b, fX a b = true → (a = 75 ∧ (b = 30 ∨ b = 25 ∨ b = 26)) ∨ (89 ≤ a ∧ a ≤ 94) := by
        intro a b h
        simp only [fX, fF, Bool.or_eq_true, Bool.and_eq_true, beq_iff_eq] at h
        omega
      have e3 : ∀ a b, ¬ ((a = 75 ∧ (b = 30 ∨ b = 25 ∨ b = 26)) ∨ (89 ≤ a ∧ a ≤ 94)) → I3 a b = I2 a b := fun a b h => hs3 a b (Bool.eq_false_iff.mpr (fun q => h (k3 a b q)))
      have hm60 := hV.2.1
      have d91 : ∀ j, j < u.m → u.is j = I3 91 j := fun j hj => (x6 j hj).2.2.trans ((d1 j (by rw [← x5]; exact hj)).2.2).symm
      refine fin (by rw [x5]) (g := !g) (n := n) (gr := gr) (hN.fr (fun a b h => (e3 a b (by unfold pN at h; omega)).trans (e1 a b (by unfold pN at h; omega)))) (hR.fW ⟨?_, ?_, 0, by decide, d2⟩ ⟨u.m, hm60, ?_, ?_, TP_cg d91 hTW.1, fun j hj => ?_⟩ (fun a b h => (e3 a b (by unfold rsW pZ pS pV pI at h; omega)).trans (e1 a b (by unfold rsW pZ pS pV pI at h; omega))))
      · rw [e3 42 3 (by omega), e42, d2]
      · funext b
        rw [e3 43 b (by omega), e3 88 b (by omega), e1 43 b (by omega), e88]
      · rw [e3 _ 8 (by omega), eR _ 8 (by omega)]
        exact c5
      · rw [d3, x5]
      · obtain ⟨y1, y2, y3⟩ := d1 j (by rw [← x5]; exact hj)
        obtain ⟨z1, z2, z3⟩ := x6 j hj
        obtain ⟨w1, w9⟩ := hTW.2 j hj
        rw [e3 _ j (show ¬ ((go (!g) + 1 = 75 ∧ _) ∨ _) by omega), e3 _ j (show ¬ ((go (!g) + 2 = 75 ∧ _) ∨ _) by omega), e3 _ j (show ¬ ((go (!g) + 3 = 75 ∧ _) ∨ _) by omega), eR _ j (by omega), eR _ j (by omega), eR _ j (by omega), c6, c7, c8, y1, y2, y3, ← z1, ← z2, ← z3]
        exact ⟨rfl, rfl, rfl, w1, w9⟩

end XA8
