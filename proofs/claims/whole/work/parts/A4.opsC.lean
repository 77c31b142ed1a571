
def rsS (g : Bool) (a b : Nat) : Prop := pZ a b ∨ pT a b ∨ pR g a b ∨ pV a b ∨ pI a b
theorem REST.fS {I I' : AI} {g : Bool} (h : REST I g) (ht : SHT I') (hs : sq (rsS g) I I') : REST I' g := ⟨h.1.fr (fun a b q => hs a b (Or.inl q)), h.2.1.fr (fun a b q => hs a b (Or.inr (Or.inl q))), h.2.2.1.fr (fun a b q => hs a b (Or.inr (Or.inr (Or.inl q)))), ht, h.2.2.2.2.1.fr (fun a b q => hs a b (Or.inr (Or.inr (Or.inr (Or.inl q))))), h.2.2.2.2.2.fr (fun a b q => hs a b (Or.inr (Or.inr (Or.inr (Or.inr q)))))⟩
theorem REST.sh {I : AI} {g : Bool} (h : REST I g) : SHT I := h.2.2.2.1
theorem SHT.i {I : AI} (h : SHT I) {s : Nat} (hs : s < 4) : I 47 s = I 103 s := (h s hs).1
theorem SHT.z {I : AI} (h : SHT I) {s : Nat} (hs : s < 4) : I 48 s = I 104 s := (h s hs).2.1
theorem SHT.r {I : AI} (h : SHT I) {s : Nat} (hs : s < 4) : ∀ j, j < 60 → I (49 + s) j = I 105 (60 * s + j) := (h s hs).2.2.2.2
theorem SHT.z2 {I : AI} (h : SHT I) {s z z1 : Nat} (hs : s < 4) (hz : z ≤ 60) (hz1 : z1 ≤ 60) (e : I 48 s = nI z) (e1 : I 104 s = nI z1) : z = z1 := zz hz hz1 e ((h.z hs).trans e1)
theorem qm2 {q : Int32} (h : inR q (-1) 2 = true) : q = -1 ∨ inR q 0 2 = true := by
  rw [inR_iff, show (-1 : Int32).toInt = -1 by decide, show (2 : Int32).toInt = 2 by decide] at h
  by_cases e : q.toInt = -1
  · exact Or.inl (Int32.toInt_inj.mp (e.trans (by decide)))
  · refine Or.inr (inR_iff.mpr ?_)
    rw [show (0 : Int32).toInt = 0 by decide, show (2 : Int32).toInt = 2 by decide]
    omega
theorem v60 {v : Int32} (h0 : 0 ≤ v) (h : v ≤ 60) : ∃ z, z ≤ 60 ∧ v = nI z := by
  rw [i32_le, show (0 : Int32).toInt = 0 by decide] at h0
  rw [i32_le, show (60 : Int32).toInt = 60 by decide] at h
  refine ⟨v.toInt.toNat, by omega, ?_⟩
  apply Int32.toInt_inj.mp
  rw [nI_toInt (by omega)]
  omega
section XA4
variable {l : Launch} {d : Nat} {I : AI} {J : AJ} {g : Bool}

theorem op_packs {s : Int32} (hI : INV I g) : OPi l d mX11_packs mX12_packs [.ref 0, .int s, UU, UU, UU, UU] [.ref 75, .int s, UU, UU, UU, UU] I J g := by
  obtain ⟨n, gr, hN, hR⟩ := hI
  have hS := hR.sh
  refine cX_packs hN.1 hN.2.2.1 hS.szc (fun h => ?_) (fun s0 e hs hm => ?_) (fun s0 z e hs hm hz hz6 => ?_)
  · exact cM_packs (d := d + 37) hN.2.1 hS.sz (fun _ => fin rfl hN hR) (fun s0 e hs _ => absurd h (by rw [e]; exact s03n hs)) (fun s0 z e hs _ _ _ => absurd h (by rw [e]; exact s03n hs))
  · subst e
    exact cM_packs (d := d + 37) hN.2.1 hS.sz (fun h => absurd h (s03n hs)) (fun _ _ _ _ => fin rfl hN hR) (fun s1 z e1 hs1 hn _ _ => absurd ((hS.i hs).symm.trans hm) (by rw [s4 hs hs1 e1]; exact hn))
  · subst e
    refine cM_packs (d := d + 37) hN.2.1 hS.sz (fun h => absurd h (s03n hs)) (fun s1 e1 hs1 hm1 => absurd ((hS.i hs).trans (by rw [s4 hs hs1 e1]; exact hm1)) hm) (fun s1 z1 e1 hs1 _ hz1 hz16 => fin ?_ hN hR)
    obtain rfl := s4 hs hs1 e1
    obtain rfl := hS.z2 hs hz6 hz16 hz hz1
    exact pkL_cg (z := z) (fun j hj => hS.r hs j (by omega)) z 0 0 0 (by omega)

theorem op_item {s i : Int32} (hI : INV I g) : OPi l d mX11_item mX12_item [.ref 0, .int s, .int i, UU] [.ref 75, .int s, .int i, UU] I J g := by
  obtain ⟨n, gr, hN, hR⟩ := hI
  have hS := hR.sh
  refine cX_item hS.szc (fun h => ?_) (fun s0 e hs hm => ?_) (fun s0 z e hs hm hz hz6 hi => ?_) (fun s0 z i0 e hs hm hz hz6 ei hi => ?_)
  · exact cM_item (d := d + 37) hS.sz (fun _ => fin rfl hN hR) (fun s0 e hs _ => absurd h (by rw [e]; exact s03n hs)) (fun s0 z e hs _ _ _ _ => absurd h (by rw [e]; exact s03n hs)) (fun s0 z i0 e hs _ _ _ _ _ => absurd h (by rw [e]; exact s03n hs))
  · subst e
    exact cM_item (d := d + 37) hS.sz (fun h => absurd h (s03n hs)) (fun _ _ _ _ => fin rfl hN hR) (fun s1 z e1 hs1 hn _ _ _ => absurd ((hS.i hs).symm.trans hm) (by rw [s4 hs hs1 e1]; exact hn)) (fun s1 z i1 e1 hs1 hn _ _ _ _ => absurd ((hS.i hs).symm.trans hm) (by rw [s4 hs hs1 e1]; exact hn))
  · subst e
    refine cM_item (d := d + 37) hS.sz (fun h => absurd h (s03n hs)) (fun s1 e1 hs1 hm1 => absurd ((hS.i hs).trans (by rw [s4 hs hs1 e1]; exact hm1)) hm) (fun _ _ _ _ _ _ _ _ => fin rfl hN hR) (fun s1 z1 i1 e1 hs1 _ hz1 hz16 ei1 hi1 => ?_)
    obtain rfl := s4 hs hs1 e1
    obtain rfl := hS.z2 hs hz6 hz16 hz hz1
    exact absurd (ptB_nI hi1 (by omega)) (nx (by rw [← ei1]; exact hi))
  · subst e
    refine cM_item (d := d + 37) hS.sz (fun h => absurd h (s03n hs)) (fun s1 e1 hs1 hm1 => absurd ((hS.i hs).trans (by rw [s4 hs hs1 e1]; exact hm1)) hm) (fun s1 z1 e1 hs1 _ hz1 hz16 hi1 => ?_) (fun s1 z1 i1 e1 hs1 _ hz1 hz16 ei1 hi1 => fin ?_ hN hR)
    · obtain rfl := s4 hs hs1 e1
      obtain rfl := hS.z2 hs hz6 hz16 hz hz1
      exact absurd (ptB_nI hi (by omega)) (nx (by rw [← ei]; exact hi1))
    · obtain rfl := s4 hs hs1 e1
      have : i0 = i1 := nI_inj (by omega) (by omega) (ei.symm.trans ei1)
      subst this
      exact hS.r hs i0 (by omega)

theorem op_write {s i v : Int32} (hI : INV I g) : OPi l d mX11_write mX12_write [.ref 0, .int s, .int i, .int v, UU] [.ref 75, .int s, .int i, .int v, UU] I J g := by
  obtain ⟨n, gr, hN, hR⟩ := hI
  have hS := hR.sh
  have hg := go_c g
  refine cX_write hS.szc (fun h => ?_) (fun s0 e hs hm => ?_) (fun s0 z e hs hm hz hz6 hi => ?_) (fun s0 z i0 e hs hm hz hz6 ei hi => ?_)
  · exact cM_write (d := d + 37) hS.sz (fun _ => fin rfl hN hR) (fun s0 e hs _ => absurd h (by rw [e]; exact s03n hs)) (fun s0 z e hs _ _ _ _ => absurd h (by rw [e]; exact s03n hs)) (fun s0 z i0 e hs _ _ _ _ _ => absurd h (by rw [e]; exact s03n hs))
  · subst e
    exact cM_write (d := d + 37) hS.sz (fun h => absurd h (s03n hs)) (fun _ _ _ _ => fin rfl hN hR) (fun s1 z e1 hs1 hn _ _ _ => absurd ((hS.i hs).symm.trans hm) (by rw [s4 hs hs1 e1]; exact hn)) (fun s1 z i1 e1 hs1 hn _ _ _ _ => absurd ((hS.i hs).symm.trans hm) (by rw [s4 hs hs1 e1]; exact hn))
  · subst e
    refine cM_write (d := d + 37) hS.sz (fun h => absurd h (s03n hs)) (fun s1 e1 hs1 hm1 => absurd ((hS.i hs).trans (by rw [s4 hs hs1 e1]; exact hm1)) hm) (fun _ _ _ _ _ _ _ _ => fin rfl hN hR) (fun s1 z1 i1 e1 hs1 _ hz1 hz16 ei1 hi1 => ?_)
    obtain rfl := s4 hs hs1 e1
    obtain rfl := hS.z2 hs hz6 hz16 hz hz1
    exact absurd (ptB_nI hi1 (by omega)) (nx (by rw [← ei1]; exact hi))
  · subst e
    have e0 : ∀ a b, ¬ a = 49 + s0 → w2 I (49 + s0) i0 (cvS (I 47 s0) v) a b = I a b := fun a b h => w2_ne _ _ _ _ (by omega)
    refine cM_write (d := d + 37) (fun s h => by rw [e0 104 s (by omega)]; exact hS.sz s h) (fun h => absurd h (s03n hs)) (fun s1 e1 hs1 hm1 => absurd ((hS.i hs).trans (by rw [s4 hs hs1 e1, ← e0 103 s1 (by omega)]; exact hm1)) hm) (fun s1 z1 e1 hs1 _ hz1 hz16 hi1 => ?_) (fun s1 z1 i1 e1 hs1 _ hz1 hz16 ei1 hi1 => ?_)
    · obtain rfl := s4 hs hs1 e1
      rw [e0 104 _ (by omega)] at hz1
      obtain rfl := hS.z2 hs hz6 hz16 hz hz1
      exact absurd (ptB_nI hi (by omega)) (nx (by rw [← ei]; exact hi1))
    · obtain rfl := s4 hs hs1 e1
      have : i0 = i1 := nI_inj (by omega) (by omega) (ei.symm.trans ei1)
      subst this
      rw [e0 103 _ (by omega)]
      have e2 : ∀ a b, ¬ a = 49 + s0 → ¬ a = 105 → w2 (w2 I (49 + s0) i0 (cvS (I 47 s0) v)) 105 (60 * s0 + i0) (cvS (I 103 s0) v) a b = I a b := fun a b h h2 => by rw [w2_ne _ _ _ _ (by omega)]; exact e0 a b h
      refine fin rfl (n := n) (gr := gr) (hN.fr (fun a b h => e2 a b (by unfold pN at h; omega) (by unfold pN at h; omega))) (hR.fS (fun s hs' => ?_) (fun a b h => e2 a b (by unfold rsS pZ pT pR pV pI at h; omega) (by unfold rsS pZ pT pR pV pI at h; omega)))
      rw [e2 47 s (by omega) (by omega), e2 48 s (by omega) (by omega), e2 103 s (by omega) (by omega), e2 104 s (by omega) (by omega)]
      obtain ⟨q1, q2, q3, q4, q5⟩ := hS s hs'
      refine ⟨q1, q2, q3, q4, fun j hj => ?_⟩
      by_cases hh : s = s0 ∧ j = i0
      · obtain ⟨rfl, rfl⟩ := hh
        rw [w2_at, w2_ne _ _ _ _ (by omega), w2_at, hS.i hs]
      · rw [w2_ne _ _ _ _ (show ¬ (49 + s = 105 ∧ _) by omega), w2_ne _ _ _ _ (by omega), w2_ne _ _ _ _ (by omega), e0 105 _ (by omega)]
        exact q5 j hj

theorem op_sheet {s q v : Int32} (hI : INV I g) : OPi l d mX11_sheet mX12_sheet [.ref 0, .int s, .int q, .int v] [.ref 75, .int s, .int q, .int v, UU] I J g := by
  obtain ⟨n, gr, hN, hR⟩ := hI
  have hS := hR.sh
  have hg := go_c g
  have hx : ∀ {s0 : Nat}, s = nI s0 → s0 < 4 → inR q (-1) 2 = true → (q = -1 ∨ v ≤ 60) → ¬ (inR s 0 3 && inR q (-1) 2 && (decide (q = -1) || decide (v ≤ 60))) = false := by
    intro s0 e hs hq hv
    rw [e, s03 hs, hq]
    rcases hv with h | h
    · rw [decide_eq_true h]; simp
    · rw [decide_eq_true h]; simp
  refine cX_sheet (fun h => ?_) (fun h1 h2 h3 h4 h5 => ?_) (fun s0 I1 e hs hq hv c1 c2 c3 c4 => ?_)
  · refine cM_sheet (d := d + 38) (fun _ => fin rfl hN hR) (fun h1 h2 h3 h4 _ => absurd h ?_) (fun s0 _ e hs hq hv _ _ _ _ => absurd h (hx e hs hq (hv.imp (fun h => h) (fun h => h.2))))
    rw [h1, h2, decide_eq_true h4]
    simp
  · refine cM_sheet (d := d + 38) (fun h => absurd h ?_) (fun _ _ _ _ _ => fin rfl hN hR) (fun s0 _ e hs hq hv _ _ _ _ => ?_)
    · rw [h1, h2, decide_eq_true h4]
      simp
    · rcases hv with h | h
      · exact absurd h h3
      · exact absurd h5 (Int32.not_lt.mpr h.1)
  · refine cM_sheet (d := d + 38) (fun h => absurd h (hx e hs hq (hv.imp (fun h => h) (fun h => h.2)))) (fun _ _ h3 _ h5 => ?_) (fun s1 I2 e1 hs1 _ _ m1 m2 m3 m4 => ?_)
    · rcases hv with h | h
      · exact absurd h h3
      · exact absurd h5 (Int32.not_lt.mpr h.1)
    · have : s0 = s1 := s4 hs hs1 (e.symm.trans e1)
      subst this
      have f2 : ∀ a b, fSh s0 a b = true → (a = 103 ∨ a = 104) ∧ b = s0 ∨ a = 105 ∧ 60 * s0 ≤ b ∧ b < 60 * s0 + 60 := by
        intro a b h
        simp only [fSh, Bool.or_eq_true, Bool.and_eq_true, beq_iff_eq, decide_eq_true_eq] at h
        omega
      have e2 : ∀ a b, ¬ ((a = 47 ∨ a = 48) ∧ b = s0) → ¬ a = 49 + s0 → ¬ ((a = 103 ∨ a = 104) ∧ b = s0 ∨ a = 105 ∧ 60 * s0 ≤ b ∧ b < 60 * s0 + 60) → I2 a b = I a b := fun a b h1 h2 h3 => (m4 a b (Bool.eq_false_iff.mpr (fun q => h3 (f2 a b q)))).trans (c4 a b h1 h2)
      have e3 : ∀ a b, ¬ ((a = 103 ∨ a = 104) ∧ b = s0 ∨ a = 105 ∧ 60 * s0 ≤ b ∧ b < 60 * s0 + 60) → I2 a b = I1 a b := fun a b h3 => m4 a b (Bool.eq_false_iff.mpr (fun q => h3 (f2 a b q)))
      refine fin rfl (n := n) (gr := gr) (hN.fr (fun a b h => e2 a b (by unfold pN at h; omega) (by unfold pN at h; omega) (by unfold pN at h; omega))) (hR.fS (fun s hs' => ?_) (fun a b h => e2 a b (by unfold rsS pZ pT pR pV pI at h; omega) (by unfold rsS pZ pT pR pV pI at h; omega) (by unfold rsS pZ pT pR pV pI at h; omega)))
      by_cases h : s = s0
      · subst h
        rw [e3 47 s (by omega), e3 48 s (by omega), c2, c3, m2, m3]
        refine ⟨rfl, rfl, ?_, ?_, fun j hj => ?_⟩
        · rcases qm2 hq with h | h
          · exact Or.inl h
          · exact Or.inr h
        · by_cases hq1 : q = -1
          · exact ⟨0, by decide, by rw [if_pos hq1]; rfl⟩
          · obtain ⟨z, hz, ez⟩ := v60 (hv.resolve_left hq1).1 (hv.resolve_left hq1).2
            exact ⟨z, hz, by rw [if_neg hq1]; exact ez⟩
        · rw [e3 _ j (by omega), c1 j hj, m1 j hj]
      · obtain ⟨q1, q2, q3, q4, q5⟩ := hS s hs'
        rw [e2 47 s (by omega) (by omega) (by omega), e2 48 s (by omega) (by omega) (by omega), e2 103 s (by omega) (by omega) (by omega), e2 104 s (by omega) (by omega) (by omega)]
        refine ⟨q1, q2, q3, q4, fun j hj => ?_⟩
        rw [e2 _ j (by omega) (by omega) (by omega), e2 105 _ (by omega) (by omega) (by omega)]
        exact q5 j hj

end XA4
