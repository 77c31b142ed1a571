
def rsV (g : Bool) (a b : Nat) : Prop := pZ a b ∨ pT a b ∨ pR g a b ∨ pS a b ∨ pI a b
theorem REST.fV {I I' : AI} {g : Bool} (h : REST I g) (ht : SLV I') (hs : sq (rsV g) I I') : REST I' g := ⟨h.1.fr (fun a b q => hs a b (Or.inl q)), h.2.1.fr (fun a b q => hs a b (Or.inr (Or.inl q))), h.2.2.1.fr (fun a b q => hs a b (Or.inr (Or.inr (Or.inl q)))), h.2.2.2.1.fr (fun a b q => hs a b (Or.inr (Or.inr (Or.inr (Or.inl q))))), ht, h.2.2.2.2.2.fr (fun a b q => hs a b (Or.inr (Or.inr (Or.inr (Or.inr q)))))⟩
def rsI (g : Bool) (a b : Nat) : Prop := pT a b ∨ pR g a b ∨ pS a b ∨ pV a b
theorem REST.fI {I I' : AI} {g : Bool} (h : REST I g) (hz : ZT I') (ht : IMG I') (hs : sq (rsI g) I I') : REST I' g := ⟨hz, h.2.1.fr (fun a b q => hs a b (Or.inl q)), h.2.2.1.fr (fun a b q => hs a b (Or.inr (Or.inl q))), h.2.2.2.1.fr (fun a b q => hs a b (Or.inr (Or.inr (Or.inl q)))), h.2.2.2.2.1.fr (fun a b q => hs a b (Or.inr (Or.inr (Or.inr q)))), ht⟩
theorem soN {s o : Int32} {s0 o0 : Nat} (e : s = nI s0) (hs : s0 < 4) (eo : o = nI o0) (ho : o0 < 4) : ¬ (inR s 0 3 && inR o 0 3) = false := by
  rw [e, s03 hs, eo, s03 ho]
  decide
theorem tk_row {x q : Int32} (hx : inR x 0 2 = true) (hq : (inR q 0 5 || inR q 10 12) = true) : (inR q 10 12 = true ∧ x = q - 10) ↔ x = q - 10 := by
  rw [Bool.or_eq_true] at hq
  have hq' : q = 0 ∨ q = 1 ∨ q = 2 ∨ q = 3 ∨ q = 4 ∨ q = 5 ∨ q = 10 ∨ q = 11 ∨ q = 12 := by
    rcases hq with h | h
    · rcases inR05 h with e | e | e | e | e | e <;> simp [e]
    · rcases inR1012 h with e | e | e <;> simp [e]
  rcases inR02 hx with rfl | rfl | rfl <;> rcases hq' with rfl | rfl | rfl | rfl | rfl | rfl | rfl | rfl | rfl <;> decide
section XA6
variable {l : Launch} {d : Nat} {I : AI} {J : AJ} {g : Bool}

theorem op_copy {s i o j v : Int32} (hI : INV I g) : OPi l d mX11_copy mX12_copy [.ref 0, .int s, .int i, .int o, .int j, .int v] [.ref 75, .int s, .int i, .int o, .int j, .int v, UU, UU, UU] I J g := by
  obtain ⟨n, gr, hN, hR⟩ := hI
  have hS := hR.sh
  have hg := go_c g
  have hi : ∀ {s0 s1 : Nat} {x : Int32}, x = nI s0 → s0 < 4 → x = nI s1 → s1 < 4 → s0 = s1 := fun e h e1 h1 => s4 h h1 (e.symm.trans e1)
  refine cX_copy hS.szc (fun h => ?_) (fun s0 o0 e hs eo ho hm => ?_) (fun s0 o0 e hs eo ho n1 n2 n3 => ?_) (fun s0 o0 z y e hs eo ho n1 n2 n3 hz hz6 hy hy6 hno => ?_) (fun s0 o0 z y i0 j0 N e hs eo ho n1 n2 n3 hz hz6 hy hy6 ei ej ev hzi hyj => ?_)
  · exact cM_copy (d := d + 38) hS.sz (fun _ => fin rfl hN hR) (fun s0 o0 e hs eo ho _ => absurd h (soN e hs eo ho)) (fun s0 o0 e hs eo ho _ _ _ => absurd h (soN e hs eo ho)) (fun s0 o0 _ _ e hs eo ho _ _ _ _ _ _ _ _ => absurd h (soN e hs eo ho)) (fun s0 o0 _ _ _ _ _ e hs eo ho _ _ _ _ _ _ _ _ _ _ _ _ => absurd h (soN e hs eo ho))
  · rw [hS.i hs, hS.i ho] at hm
    have hc : ∀ {s1 o1 : Nat}, s = nI s1 → s1 < 4 → o = nI o1 → o1 < 4 → ¬ I 103 s1 = -1 → ¬ I 103 o1 = -1 → False := fun e1 h1 e2 h2 a1 a2 => by
      rw [← hi e hs e1 h1] at a1
      rw [← hi eo ho e2 h2] at a2
      exact hm.elim a1 a2
    exact cM_copy (d := d + 38) hS.sz (fun h => absurd h (soN e hs eo ho)) (fun _ _ _ _ _ _ _ => fin rfl hN hR) (fun s1 o1 e1 h1 e2 h2 a1 a2 _ => (hc e1 h1 e2 h2 a1 a2).elim) (fun s1 o1 _ _ e1 h1 e2 h2 a1 a2 _ _ _ _ _ _ => (hc e1 h1 e2 h2 a1 a2).elim) (fun s1 o1 _ _ _ _ _ e1 h1 e2 h2 a1 a2 _ _ _ _ _ _ _ _ _ _ => (hc e1 h1 e2 h2 a1 a2).elim)
  · rw [hS.i hs] at n1 n3
    rw [hS.i ho] at n2 n3
    refine cM_copy (d := d + 38) hS.sz (fun h => absurd h (soN e hs eo ho)) (fun s1 o1 e1 h1 e2 h2 hm => ?_) (fun _ _ _ _ _ _ _ _ _ => fin rfl hN hR) (fun s1 o1 _ _ e1 h1 e2 h2 _ _ a3 _ _ _ _ _ => ?_) (fun s1 o1 _ _ _ _ _ e1 h1 e2 h2 _ _ a3 _ _ _ _ _ _ _ _ _ => ?_)
    · rw [← hi e hs e1 h1, ← hi eo ho e2 h2] at hm
      exact (hm.elim n1 n2).elim
    · rw [← hi e hs e1 h1, ← hi eo ho e2 h2] at a3
      exact (n3 a3).elim
    · rw [← hi e hs e1 h1, ← hi eo ho e2 h2] at a3
      exact (n3 a3).elim
  · rw [hS.i hs] at n1 n3
    rw [hS.i ho] at n2 n3
    refine cM_copy (d := d + 38) hS.sz (fun h => absurd h (soN e hs eo ho)) (fun s1 o1 e1 h1 e2 h2 hm => ?_) (fun s1 o1 e1 h1 e2 h2 _ _ a3 => ?_) (fun _ _ _ _ _ _ _ _ _ _ _ _ _ _ _ _ => fin rfl hN hR) (fun s1 o1 z1 y1 i1 j1 N1 e1 h1 e2 h2 _ _ _ hz1 hz16 hy1 hy16 ei1 ej1 ev1 hzi hyj => ?_)
    · rw [← hi e hs e1 h1, ← hi eo ho e2 h2] at hm
      exact (hm.elim n1 n2).elim
    · rw [← hi e hs e1 h1, ← hi eo ho e2 h2] at a3
      exact (a3 n3).elim
    · obtain rfl := hi e hs e1 h1
      obtain rfl := hi eo ho e2 h2
      obtain rfl := hS.z2 hs hz6 hz16 hz hz1
      obtain rfl := hS.z2 ho hy6 hy16 hy hy1
      refine (hno ?_).elim
      rw [ev1, ei1, ej1, nI_toInt (by omega), nI_toInt (by omega), nI_toInt (by omega)]
      omega
  · rw [hS.i hs] at n1 n3
    rw [hS.i ho] at n2 n3
    have e0 : ∀ a, ¬ a = 49 + o0 → wr I (49 + o0) (va_cpy (I (49 + s0)) (I (49 + o0)) i0 j0 N) a = I a := fun a h => wr_ne _ _ _ h
    have eo0 : wr I (49 + o0) (va_cpy (I (49 + s0)) (I (49 + o0)) i0 j0 N) (49 + o0) = va_cpy (I (49 + s0)) (I (49 + o0)) i0 j0 N := wr_at _ _ _
    generalize wr I (49 + o0) (va_cpy (I (49 + s0)) (I (49 + o0)) i0 j0 N) = I1 at e0 eo0
    have e103 := e0 103 (by omega)
    have e104 := e0 104 (by omega)
    have e105 := e0 105 (by omega)
    refine cM_copy (d := d + 38) (fun s h => by rw [e104]; exact hS.sz s h) (fun h => absurd h (soN e hs eo ho)) (fun s1 o1 e1 h1 e2 h2 hm => ?_) (fun s1 o1 e1 h1 e2 h2 _ _ a3 => ?_) (fun s1 o1 z1 y1 e1 h1 e2 h2 _ _ _ hz1 hz16 hy1 hy16 hno => ?_) (fun s1 o1 z1 y1 i1 j1 N1 e1 h1 e2 h2 _ _ _ hz1 hz16 hy1 hy16 ei1 ej1 ev1 hzi1 hyj1 => ?_)
    · rw [← hi e hs e1 h1, ← hi eo ho e2 h2, e103] at hm
      exact (hm.elim n1 n2).elim
    · rw [← hi e hs e1 h1, ← hi eo ho e2 h2, e103] at a3
      exact (a3 n3).elim
    · obtain rfl := hi e hs e1 h1
      obtain rfl := hi eo ho e2 h2
      rw [e104] at hz1 hy1
      obtain rfl := hS.z2 hs hz6 hz16 hz hz1
      obtain rfl := hS.z2 ho hy6 hy16 hy hy1
      refine (hno ?_).elim
      rw [ev, ei, ej, nI_toInt (by omega), nI_toInt (by omega), nI_toInt (by omega)]
      omega
    · obtain rfl := hi e hs e1 h1
      obtain rfl := hi eo ho e2 h2
      rw [e104] at hz1 hy1
      obtain rfl := hS.z2 hs hz6 hz16 hz hz1
      obtain rfl := hS.z2 ho hy6 hy16 hy hy1
      have : i0 = i1 := nI_inj (by omega) (by omega) (ei.symm.trans ei1)
      subst this
      have : j0 = j1 := nI_inj (by omega) (by omega) (ej.symm.trans ej1)
      subst this
      have : N = N1 := nI_inj (by omega) (by omega) (ev.symm.trans ev1)
      subst this
      have f0 : ∀ a, ¬ a = 105 → wr I1 105 (cpR (I1 105) (60 * s0 + i0) (60 * o0 + j0) N) a = I1 a := fun a h => wr_ne _ _ _ h
      have f1 : wr I1 105 (cpR (I1 105) (60 * s0 + i0) (60 * o0 + j0) N) 105 = cpR (I1 105) (60 * s0 + i0) (60 * o0 + j0) N := wr_at _ _ _
      generalize wr I1 105 (cpR (I1 105) (60 * s0 + i0) (60 * o0 + j0) N) = I2 at f0 f1
      have g0 : ∀ a, ¬ a = 105 → ¬ a = 49 + o0 → I2 a = I a := fun a h h2 => (f0 a h).trans (e0 a h2)
      refine fin rfl (n := n) (gr := gr) (hN.fr (fun a b h => by rw [g0 a (by unfold pN at h; omega) (by unfold pN at h; omega)])) (hR.fS (fun s hs' => ?_) (fun a b h => by rw [g0 a (by unfold rsS pZ pT pR pV pI at h; omega) (by unfold rsS pZ pT pR pV pI at h; omega)]))
      obtain ⟨q1, q2, q3, q4, q5⟩ := hS s hs'
      rw [g0 47 (by omega) (by omega), g0 48 (by omega) (by omega), g0 103 (by omega) (by omega), g0 104 (by omega) (by omega)]
      refine ⟨q1, q2, q3, q4, fun x hx => ?_⟩
      rw [f1, e105]
      by_cases h : s = o0
      · subst h
        rw [f0 _ (by omega), eo0]
        exact cp_same (by omega) (by omega) (hS.r hs) (hS.r ho) x hx
      · rw [g0 _ (by omega) (by omega), q5 x hx]
        unfold cpR
        rw [if_neg (by omega)]

theorem op_shelf {h q p : Int32} (hI : INV I g) : OPi l d mX11_shelf mX12_shelf [.ref 0, .int h, .int q, .int p] [.ref 75, .int h, .int q, .int p] I J g := by
  obtain ⟨n, gr, hN, hR⟩ := hI
  have hS := hR.sh
  have hg := go_c g
  have h12 := hN.le
  refine cX_shelf hN.1 (fun hb => cM_shelf (d := d + 38) hN.2.1 (fun _ => fin rfl hN hR) (fun h0 e hh hb2 => absurd hb2 (nx hb))) (fun h0 e hh hb => ?_)
  have hq2 : q = 0 ∨ q = 1 ∨ q = 2 := by
    simp only [shB, Bool.and_eq_true] at hb
    exact inR02 hb.1.1.2
  have hp3 : q = 1 → ∃ p0, p0 < 4 ∧ p = nI p0 := by
    intro e1
    simp only [shB, Bool.and_eq_true] at hb
    have h2 := hb.2
    rw [decide_eq_true e1] at h2
    rcases inR03 h2 with e | e | e | e
    · exact ⟨0, by decide, e⟩
    · exact ⟨1, by decide, e⟩
    · exact ⟨2, by decide, e⟩
    · exact ⟨3, by decide, e⟩
  generalize hI1 : (if q = 0 then w2 (w2 I 54 h0 1) 56 h0 p else if q = 1 then w2 (w2 (w2 I 54 h0 (if I 47 p.toNatClampNeg = -1 then 0 else 2)) 55 h0 (I 47 p.toNatClampNeg)) 56 h0 (I 48 p.toNatClampNeg) else w2 I 54 h0 0) = I1
  have P0 : ∀ a b, ¬ ((54 ≤ a ∧ a ≤ 56) ∧ b = h0) → I1 a b = I a b := by
    intro a b hab
    rw [← hI1]
    split
    · rw [w2_ne _ _ _ _ (by omega), w2_ne _ _ _ _ (by omega)]
    · split
      · rw [w2_ne _ _ _ _ (by omega), w2_ne _ _ _ _ (by omega), w2_ne _ _ _ _ (by omega)]
      · rw [w2_ne _ _ _ _ (by omega)]
  have P1 : q = 0 → I1 54 h0 = 1 ∧ I1 56 h0 = p := by
    intro e1
    rw [← hI1, if_pos e1]
    exact ⟨by rw [w2_ne _ _ _ _ (by omega), w2_at], w2_at _ _ _ _⟩
  have P2 : q = 1 → I1 54 h0 = (if I 47 p.toNatClampNeg = -1 then 0 else 2) ∧ I1 55 h0 = I 47 p.toNatClampNeg ∧ I1 56 h0 = I 48 p.toNatClampNeg := by
    intro e1
    rw [← hI1, if_neg (by rw [e1]; decide), if_pos e1]
    exact ⟨by rw [w2_ne _ _ _ _ (by omega), w2_ne _ _ _ _ (by omega), w2_at], by rw [w2_ne _ _ _ _ (by omega), w2_at], w2_at _ _ _ _⟩
  have P3 : q = 2 → I1 54 h0 = 0 := by
    intro e1
    rw [← hI1, if_neg (by rw [e1]; decide), if_neg (by rw [e1]; decide), w2_at]
  clear hI1
  refine cM_shelf (d := d + 38) (hN.2.1.fr (fun a b h => P0 a b (by omega))) (fun hb2 => absurd hb (nx hb2)) (fun h1 e1 hh1 _ => ?_)
  obtain rfl := s4 hh hh1 (e.symm.trans e1)
  rw [P0 103 _ (by omega), P0 104 _ (by omega)]
  generalize hI2 : w2 (w2 (w2 (w2 I1 106 h0 (if q = 1 ∧ I 103 p.toNatClampNeg = -1 then 2 else q)) 107 h0 p) 108 h0 (if q = 1 then I 103 p.toNatClampNeg else -1)) 109 h0 (if q = 1 then I 104 p.toNatClampNeg else 0) = I2
  have Q0 : ∀ a b, ¬ ((106 ≤ a ∧ a ≤ 109) ∧ b = h0) → I2 a b = I1 a b := by
    intro a b hab
    rw [← hI2, w2_ne _ _ _ _ (by omega), w2_ne _ _ _ _ (by omega), w2_ne _ _ _ _ (by omega), w2_ne _ _ _ _ (by omega)]
  have Q6 : I2 106 h0 = (if q = 1 ∧ I 103 p.toNatClampNeg = -1 then 2 else q) := by rw [← hI2, w2_ne _ _ _ _ (by omega), w2_ne _ _ _ _ (by omega), w2_ne _ _ _ _ (by omega), w2_at]
  have Q7 : I2 107 h0 = p := by rw [← hI2, w2_ne _ _ _ _ (by omega), w2_ne _ _ _ _ (by omega), w2_at]
  have Q8 : I2 108 h0 = (if q = 1 then I 103 p.toNatClampNeg else -1) := by rw [← hI2, w2_ne _ _ _ _ (by omega), w2_at]
  have Q9 : I2 109 h0 = (if q = 1 then I 104 p.toNatClampNeg else 0) := by rw [← hI2, w2_at]
  clear hI2
  have G0 : ∀ a b, ¬ ((106 ≤ a ∧ a ≤ 109) ∧ b = h0) → ¬ ((54 ≤ a ∧ a ≤ 56) ∧ b = h0) → I2 a b = I a b := fun a b x y => (Q0 a b x).trans (P0 a b y)
  refine fin rfl (n := n) (gr := gr) (hN.fr (fun a b h => G0 a b (by unfold pN at h; omega) (by unfold pN at h; omega))) (hR.fV (fun s hs' => ?_) (fun a b h => G0 a b (by unfold rsV pZ pT pR pS pI at h; omega) (by unfold rsV pZ pT pR pS pI at h; omega)))
  by_cases hsh : s = h0
  · subst hsh
    rw [Q0 54 s (by omega), Q0 55 s (by omega), Q0 56 s (by omega), Q6, Q7, Q8, Q9]
    rcases hq2 with e2 | e2 | e2
    · refine Or.inr (Or.inl ⟨(P1 e2).1, ?_, (P1 e2).2⟩)
      rw [if_neg (fun h => by rw [e2] at h; exact absurd h.1 (by decide))]
      exact e2
    · obtain ⟨p0, hp0, ep⟩ := hp3 e2
      obtain ⟨p1, p2, p3⟩ := P2 e2
      rw [ep, cl_nI (by omega)] at p1 p2 p3 ⊢
      rw [hS.i hp0] at p1 p2
      rw [hS.z hp0] at p3
      rw [if_pos e2, if_pos e2]
      by_cases hm : I 103 p0 = -1
      · rw [if_pos hm] at p1
        exact Or.inl ⟨p1, if_pos ⟨e2, hm⟩⟩
      · rw [if_neg hm] at p1
        refine Or.inr (Or.inr ⟨p1, ?_, p2, p3, ((hS p0 hp0).2.2.1).resolve_left hm⟩)
        rw [if_neg (fun h => hm h.2)]
        exact e2
    · refine Or.inl ⟨P3 e2, ?_⟩
      rw [if_neg (fun h => by rw [e2] at h; exact absurd h.1 (by decide))]
      exact e2
  · rw [G0 54 s (by omega) (by omega), G0 55 s (by omega) (by omega), G0 56 s (by omega) (by omega), G0 106 s (by omega) (by omega), G0 107 s (by omega) (by omega), G0 108 s (by omega) (by omega), G0 109 s (by omega) (by omega)]
    exact hR.2.2.2.2.1 s hs'

theorem op_taken {h q : Int32} (hI : INV I g) : OPi l d mX11_taken mX12_taken [.ref 0, .int h, .int q, UU, UU] [.ref 75, .int h, .int q, UU] I J g := by
  obtain ⟨n, gr, hN, hR⟩ := hI
  have h12 := hN.le
  have hV := hR.2.2.2.2.1
  have hkd : ∀ p, p < n → inR (I 76 p) 0 5 = true := fun p hp => (hN.2.2.2 p hp).2.2.1
  have hwh : ∀ h, h < 4 → I 106 h = 0 ∨ I 106 h = 1 ∨ I 106 h = 2 := fun h hh => by
    rcases hV h hh with ⟨_, e⟩ | ⟨_, e, _⟩ | ⟨_, e, _⟩ <;> simp [e]
  have hx : ∀ {h0 : Nat}, h = nI h0 → h0 < 4 → (inR q 0 5 || inR q 10 12) = true → ¬ (inR h 0 3 && (inR q 0 5 || inR q 10 12)) = false := by
    intro h0 e hh hq
    rw [e, s03 hh, hq]
    decide
  have ne : ∀ {h0 h1 : Nat}, h = nI h0 → h0 < 4 → h = nI h1 → h1 < 4 → h0 = h1 := fun e a e1 b => s4 a b (e.symm.trans e1)
  refine cX_taken hN.1 (fun hb => ?_) (fun h0 e hh hq n2 hor => ?_) (fun h0 e hh hq h2 => ?_) (fun h0 p0 e hh hq n2 n0 e56 hp0 => ?_)
  · exact cM_taken (d := d + 38) hN.2.1 hkd hwh (fun _ => fin rfl hN hR) (fun h0 e hh hq _ => absurd hb (hx e hh hq)) (fun h0 e hh hq _ => absurd hb (hx e hh hq)) (fun h0 _ e hh hq _ _ _ => absurd hb (hx e hh hq))
  · refine cM_taken (d := d + 38) hN.2.1 hkd hwh (fun hb => absurd hb (hx e hh hq)) (fun _ _ _ _ _ => fin rfl hN hR) (fun h1 e1 hh1 _ a1 => ?_) (fun h1 p1 e1 hh1 _ a1 a2 hp1 => ?_)
    · rw [← ne e hh e1 hh1] at a1
      rcases hV h0 hh with ⟨b1, b2⟩ | ⟨b1, b2, _⟩ | ⟨b1, b2, _⟩
      · rw [b2] at a1; exact absurd a1 (by decide)
      · rw [b2] at a1; exact absurd a1 (by decide)
      · exact absurd b1 n2
    · rw [← ne e hh e1 hh1] at a1 a2
      rcases hV h0 hh with ⟨b1, b2⟩ | ⟨b1, b2, b3⟩ | ⟨b1, b2, _⟩
      · rw [b2] at a1; exact absurd a1 (by decide)
      · rcases hor with h | h
        · rw [b1] at h; exact absurd h (by decide)
        · rw [b3, a2] at h
          exact absurd (ptB_nI hp1 (by omega)) (nx h)
      · exact absurd b1 n2
  · rcases hV h0 hh with ⟨b1, b2⟩ | ⟨b1, b2, b3⟩ | ⟨b1, b2, b3, b4, b5⟩
    · rw [b1] at h2; exact absurd h2 (by decide)
    · rw [b1] at h2; exact absurd h2 (by decide)
    · refine cM_taken (d := d + 38) hN.2.1 hkd hwh (fun hb => absurd hb (hx e hh hq)) (fun h1 e1 hh1 _ a1 => ?_) (fun h1 e1 hh1 _ a1 => ?_) (fun h1 p1 e1 hh1 _ a1 a2 hp1 => ?_)
      · rw [← ne e hh e1 hh1, b2] at a1
        rcases a1 with a1 | a1
        · exact absurd a1 (by decide)
        · exact absurd a1.1 (by decide)
      · rw [← ne e hh e1 hh1]
        refine fin ?_ hN hR
        rw [b3, b4]
        by_cases hc : I 108 h0 = q - 10
        · rw [if_pos ((tk_row b5 hq).mpr hc), if_pos hc]
        · rw [if_neg (fun h => hc h.2), if_neg hc]
      · rw [← ne e hh e1 hh1, b2] at a1
        exact absurd a1 (by decide)
  · rcases hV h0 hh with ⟨b1, b2⟩ | ⟨b1, b2, b3⟩ | ⟨b1, b2, b3⟩
    · exact absurd b1 n0
    · refine cM_taken (d := d + 38) hN.2.1 hkd hwh (fun hb => absurd hb (hx e hh hq)) (fun h1 e1 hh1 _ a1 => ?_) (fun h1 e1 hh1 _ a1 => ?_) (fun h1 p1 e1 hh1 _ a1 a2 hp1 => ?_)
      · rw [← ne e hh e1 hh1, b2, ← b3, e56] at a1
        rcases a1 with a1 | a1
        · exact absurd a1 (by decide)
        · exact absurd (ptB_nI hp0 (by omega)) (nx a1.2)
      · rw [← ne e hh e1 hh1, b2] at a1
        exact absurd a1 (by decide)
      · rw [← ne e hh e1 hh1] at a2 ⊢
        have : p0 = p1 := nI_inj (by omega) (by omega) (e56.symm.trans (b3.trans a2))
        subst this
        refine fin ?_ hN hR
        rw [b3, hN.kd p0 hp0]
        by_cases hc : tkB 5 (I 76 p0) q = true
        · rw [if_pos ((uk_tk (hkd p0 hp0) hq).mpr hc), if_pos hc]
        · rw [if_neg (fun h => hc ((uk_tk (hkd p0 hp0) hq).mp h)), if_neg hc]
    · exact absurd b1 n2

end XA6
