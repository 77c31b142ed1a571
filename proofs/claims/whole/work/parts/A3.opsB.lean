
theorem LF_ex {n : Nat} {gr : Nat → Nat} {P : Nat} {f : Option Nat} {t : Nat} : ∀ (k p left : Nat) (h : Nat → Nat), p + k = n → Ex n gr P p h left f t → ∃ H, LF n gr P f t k p left h H := by
  intro k
  induction k with
  | zero => intro p left h _ _; exact ⟨h, fun _ _ => rfl⟩
  | succ k ih =>
    intro p left h hpn he
    cases hp : P.testBit p with
    | false =>
      obtain ⟨H, hH⟩ := ih (p + 1) left h (by omega) ((Ex_skip (by omega) hp (fun _ _ => rfl)).mp he)
      exact ⟨H, fun _ => ⟨h, fun _ _ => rfl, hH⟩, fun q => by rw [hp] at q; cases q⟩
    | true =>
      obtain ⟨v0, hv0⟩ := (Ex_step (by omega) hp).mp he
      have hmin : ∃ v, OKv n gr P p h left f t v ∧ ∀ u, od u < od v → ¬ OKv n gr P p h left f t u := by
        by_cases h0 : OKv n gr P p h left f t 0
        · exact ⟨0, h0, fun u hu => absurd hu (Nat.not_lt_zero _)⟩
        · by_cases h2 : OKv n gr P p h left f t 2
          · refine ⟨2, h2, fun u hu ho => ?_⟩
            have := ho.1
            rcases (show u = 0 ∨ u = 1 ∨ u = 2 by omega) with rfl | rfl | rfl
            · exact h0 ho
            · exact absurd hu (by decide)
            · exact absurd hu (by decide)
          · have h1 : v0 = 1 := by
              have := hv0.1
              rcases (show v0 = 0 ∨ v0 = 1 ∨ v0 = 2 by omega) with rfl | rfl | rfl
              · exact absurd hv0 h0
              · rfl
              · exact absurd hv0 h2
            subst h1
            refine ⟨1, hv0, fun u hu ho => ?_⟩
            have := ho.1
            rcases (show u = 0 ∨ u = 1 ∨ u = 2 by omega) with rfl | rfl | rfl
            · exact h0 ho
            · exact absurd hu (by decide)
            · exact h2 ho
      obtain ⟨v, hv, hm⟩ := hmin
      obtain ⟨H, hH⟩ := ih (p + 1) (left - v) (upd1 h p v) (by omega) hv.2.2.2.2
      exact ⟨H, fun q => (by rw [hp] at q; cases q), fun _ => ⟨v, hv, hm, hH⟩⟩
theorem HV_ex {n : Nat} {gr : Nat → Nat} {P : Nat} (hn : n ≤ 12) (hW : WG n gr) (hP : P < 2 ^ n) : ∃ H, HV n gr P H := LF_ex n 0 _ _ (by omega) (Ex_0 _ hn hP hW 0)
def rst (g : Bool) (a b : Nat) : Prop := pT a b ∨ pR g a b ∨ pS a b ∨ pV a b ∨ pI a b
theorem REST.f2 {I I' : AI} {g : Bool} (h : REST I g) (hz : ZT I') (hs : sq (rst g) I I') : REST I' g := ⟨hz, h.2.1.fr (fun a b q => hs a b (Or.inl q)), h.2.2.1.fr (fun a b q => hs a b (Or.inr (Or.inl q))), h.2.2.2.1.fr (fun a b q => hs a b (Or.inr (Or.inr (Or.inl q)))), h.2.2.2.2.1.fr (fun a b q => hs a b (Or.inr (Or.inr (Or.inr (Or.inl q))))), h.2.2.2.2.2.fr (fun a b q => hs a b (Or.inr (Or.inr (Or.inr (Or.inr q)))))⟩
theorem N78 {I I' : AI} {g : Bool} {n : Nat} {gr : Nat → Nat} (hN : NET I n gr) (hR : REST I g) (hG : MG I' n gr) (hs : sb f78 I I') : NET I' n gr ∧ REST I' g := by
  have h78 : ∀ a b, f78 a b = true → a = 78 := fun a b h => by simpa [f78] using h
  have e : ∀ a b, ¬ a = 78 → I' a b = I a b := fun a b h => hs a b (Bool.eq_false_iff.mpr (fun q => h (h78 a b q)))
  have hg := go_c g
  refine ⟨⟨hN.1.fr (fun a b h => e a b (by omega)), hG, hN.2.2.1, fun p hp => ?_⟩, hR.f2 ?_ (fun a b h => e a b (by unfold rst pT pR pS pV pI at h; omega))⟩
  · rw [e 2 p (by decide), e 3 p (by decide), e 76 p (by decide), e 77 p (by decide)]
    exact hN.2.2.2 p hp
  · exact hR.1.fr (fun a b h => e a b (by unfold pZ at h; omega))
section XA3
variable {l : Launch} {d : Nat} {I : AI} {J : AJ} {g : Bool}

theorem op_mate {q : Int32} (hI : INV I g) : OPi l d mX11_mate mX12_mate [.ref 0, .int q] [.ref 75, .int q, UU, UU] I J g := by
  obtain ⟨n, gr, hN, hR⟩ := hI
  have h12 := hN.le
  have hP : 2 ^ n - 1 < 2 ^ n := by have := Nat.two_pow_pos n; omega
  obtain ⟨H, hH⟩ := HV_ex h12 hN.2.2.1 hP
  have hp12 : 2 ^ n ≤ 2 ^ 12 := Nat.pow_le_pow_right (by decide) h12
  have hl2 := hz_lt (n := n) (gr := gr) (P := 2 ^ n - 1) (v := 2)
  have hem : EM gr (hz n gr (2 ^ n - 1) 2) (hz n gr (2 ^ n - 1) 0) := HV_EM h12 hN.2.2.1 hP (hvf_HV hH) (fun q => hset_t) (fun q => hset_t)
  obtain ⟨ma, hma⟩ := LM_ex _ _ _ (by omega) rfl hem
  refine cX_mate hN.1 hN.2.2.1 hma (fun h => cM_mate (d := d + 11) hN.2.2.1 hN.2.1 (fun _ => fin rfl hN hR) (fun p _ _ _ hp e _ _ _ _ _ => absurd (ptB_nI hp (by omega)) (nx (by rw [← e]; exact h)))) (fun p r I1 hp e a1 a2 a3 hs1 => ?_)
  have hv1 := hs1.sq (v_fHs g)
  have hN1 := hN.fr hv1.N
  have hR1 := hR.fr hv1
  refine cM_mate (d := d + 11) hN.2.2.1 hN1.2.1 (fun h => absurd (ptB_nI hp (by omega)) (nx (by rw [← e]; exact h))) (fun p1 ma1 r1 I2 hp1 e1 hma1 b1 b2 b3 hs2 => ?_)
  have hv2 := hs2.sq (v_fM g)
  have hN2 := hN1.fr hv2.N
  have hR2 := hR1.fr hv2
  have : p = p1 := nI_inj (by omega) (by omega) (e.symm.trans e1)
  subst this
  exact fin (mt_same (LM_uniq _ _ _ (by omega) rfl hma hma1) ⟨a1, a2, a3⟩ ⟨b1, b2, b3⟩) hN2 hR2

theorem op_without {q : Int32} (hI : INV I g) : OPi l d mX11_without mX12_without [.ref 0, .int q] [.ref 75, .int q, UU, UU, UU] I J g := by
  obtain ⟨n, gr, hN, hR⟩ := hI
  refine cX_without hN.1 hN.2.2.1 (fun h => cM_without (d := d + 37) hN.2.2.1 hN.2.1 (fun _ => fin rfl hN hR) (fun p _ hp e _ _ => absurd (ptB_nI hp (by have := hN.le; omega)) (nx (by rw [← e]; exact h)))) (fun p hp e => ?_)
  refine cM_without (d := d + 37) hN.2.2.1 hN.2.1 (fun h => absurd (ptB_nI hp (by have := hN.le; omega)) (nx (by rw [← e]; exact h))) (fun p1 I2 hp1 e1 hG2 hs2 => ?_)
  have : p = p1 := nI_inj (by have := hN.le; omega) (by have := hN.le; omega) (e.symm.trans e1)
  subst this
  have hh := N78 hN hR hG2 hs2
  exact fin rfl hh.1 hh.2

theorem op_cut {q : Int32} (hI : INV I g) : OPi l d mX11_cut mX12_cut [.ref 0, .int q, UU, UU, UU, UU, UU] [.ref 75, .int q] I J g := by
  obtain ⟨n, gr, hN, hR⟩ := hI
  refine cX_cut hN.1 hN.2.2.1 (fun h => cM_cut (d := d + 36) hN.2.2.1 hN.2.1 (fun _ => fin rfl hN hR) (fun _ h2 _ _ => absurd h2 (nx h))) (fun I1 h hs1 => ?_)
  have hv1 := hs1.sq (v_fNt6 g)
  have hN1 := hN.fr hv1.N
  have hR1 := hR.fr hv1
  refine cM_cut (d := d + 36) hN.2.2.1 hN1.2.1 (fun h2 => absurd h (nx h2)) (fun I2 _ hG2 hs2 => ?_)
  have hh := N78 hN1 hR1 hG2 hs2
  exact fin rfl hh.1 hh.2

theorem op_joins {q : Int32} (hI : INV I g) : OPi l d mX11_joins mX12_joins [.ref 0, .int q, UU, UU, UU, UU] [.ref 75, .int q] I J g := by
  obtain ⟨n, gr, hN, hR⟩ := hI
  refine cX_joins hN.1 hN.2.2.1 (fun h => cM_joins (d := d + 36) hN.2.2.1 hN.2.1 (fun _ => fin rfl hN hR) (fun _ h2 _ _ => absurd h2 (nx h))) (fun I1 h hs1 => ?_)
  have hv1 := hs1.sq (v_fC g)
  have hN1 := hN.fr hv1.N
  have hR1 := hR.fr hv1
  refine cM_joins (d := d + 36) hN.2.2.1 hN1.2.1 (fun h2 => absurd h (nx h2)) (fun I2 _ hG2 hs2 => ?_)
  have hh := N78 hN1 hR1 hG2 hs2
  exact fin rfl hh.1 hh.2

theorem op_pays {q : Int32} (hI : INV I g) : OPi l d mX11_pays mX12_pays [.ref 0, .int q, UU, UU] [.ref 75, .int q, UU, UU, UU] I J g := by
  obtain ⟨n, gr, hN, hR⟩ := hI
  refine cX_pays hN.1 hN.cs hN.kd hN.wt (fun h => cM_pays (d := d + 37) hN.2.1 (fun _ _ => rfl) (fun _ _ => rfl) (fun _ _ => rfl) (fun _ => fin rfl hN hR) (fun _ h2 _ => absurd h2 (nx h))) (fun I1 h hs1 => ?_)
  have hv1 := hs1.sq (v_fE5 g)
  have hN1 := hN.fr hv1.N
  have hR1 := hR.fr hv1
  refine cM_pays (d := d + 37) hN1.2.1 (P0 := pu0 I gr) (kd := I 76) (wt := I 77) (fun j hj => by
    unfold pu0
    rw [hv1.N 76 j (by unfold pN; omega), hv1.N 77 j (by unfold pN; omega)]) (fun p _ => hv1.N 76 p (by unfold pN; omega)) (fun p _ => hv1.N 77 p (by unfold pN; omega)) (fun h2 => absurd h (nx h2)) (fun I2 _ hs2 => ?_)
  have hv2 := hs2.sq (v_f87 g)
  have hN2 := hN1.fr hv2.N
  have hR2 := hR1.fr hv2
  exact fin rfl hN2 hR2

theorem op_paid {a b : Int32} (hI : INV I g) : OPi l d mX11_paid mX12_paid [.ref 0, .int a, .int b] [.ref 75, .int a, .int b] I J g := by
  obtain ⟨n, gr, hN, hR⟩ := hI
  have h12 := hN.le
  have hxy : ∀ {x y : Nat}, x < n → y < n → ¬ x = y → a = nI x → b = nI y → ¬ (ptB n a && ptB n b && !decide (a = b)) = false := by
    intro x y hx hy hne ea eb
    rw [ea, eb, ptB_nI hx (by omega), ptB_nI hy (by omega), decide_eq_false (fun q => hne (nI_inj (by omega) (by omega) q))]
    decide
  have hu : ∀ {x y : Nat}, x < n → y < n → nI x = nI y → x = y := fun hx hy e => nI_inj (by omega) (by omega) e
  refine cX_paid hN.1 hN.2.2.1 hN.cs (fun h => ?_) (fun x y hx hy hne ea eb hb => ?_) (fun x y I1 hx hy hne ea eb hb hs1 => ?_)
  · exact cM_paid (d := d + 37) hN.2.1 (fun _ _ => rfl) (fun _ => fin rfl hN hR) (fun x y hx hy hne ea eb _ => absurd h (hxy hx hy hne ea eb)) (fun x y _ hx hy hne ea eb _ _ => absurd h (hxy hx hy hne ea eb))
  · refine cM_paid (d := d + 37) hN.2.1 (fun _ _ => rfl) (fun h => absurd h (hxy hx hy hne ea eb)) (fun _ _ _ _ _ _ _ _ => fin rfl hN hR) (fun x1 y1 _ hx1 hy1 _ ea1 eb1 hb1 _ => ?_)
    rw [← hu hx hx1 (ea.symm.trans ea1), ← hu hy hy1 (eb.symm.trans eb1), hb] at hb1
    cases hb1
  · have hv1 := hs1.sq (v_fE5 g)
    have hN1 := hN.fr hv1.N
    have hR1 := hR.fr hv1
    refine cM_paid (d := d + 37) hN1.2.1 (P0 := pu0 I gr) (fun j hj => by
      unfold pu0
      rw [hv1.N 76 j (by unfold pN; omega), hv1.N 77 j (by unfold pN; omega)]) (fun h => absurd h (hxy hx hy hne ea eb)) (fun x1 y1 hx1 hy1 _ ea1 eb1 hb1 => ?_) (fun _ _ I2 _ _ _ _ _ _ hs2 => ?_)
    · rw [← hu hx hx1 (ea.symm.trans ea1), ← hu hy hy1 (eb.symm.trans eb1), hb] at hb1
      cases hb1
    · have hv2 := hs2.sq (v_f87 g)
      have hN2 := hN1.fr hv2.N
      have hR2 := hR1.fr hv2
      exact fin rfl hN2 hR2

theorem TTgo (g : Bool) : TT (go g) (go g + 1) (go g + 2) (go g + 3) (go g + 4) (go g + 5) (go g + 6) (go g + 7) (go g + 8) := by
  cases g
  · exact ⟨q_57, q_58, q_59, q_60, q_61, q_62, q_63, q_64, q_65, fun g => ⟨rfl, rfl, rfl, rfl, rfl, rfl, rfl, rfl⟩, rfl, rfl, rfl, rfl, rfl, rfl, rfl, rfl⟩
  · exact ⟨q_66, q_67, q_68, q_69, q_70, q_71, q_72, q_73, q_74, fun g => ⟨rfl, rfl, rfl, rfl, rfl, rfl, rfl, rfl⟩, rfl, rfl, rfl, rfl, rfl, rfl, rfl, rfl⟩

theorem op_count {q : Int32} (hI : INV I g) : OPi l d mX11_count mX12_count [.ref 0, .int q] [.ref 75, .int q, UU, UU] I J g := by
  obtain ⟨n, gr, hN, hR⟩ := hI
  refine cX_count (go_r g) (TTgo g) hN.1 (cM_count (d := d + 38) hN.2.1 (fin ?_ hN hR))
  obtain ⟨m, -, h1, h2, -⟩ := hR.2.2.1
  rw [hR.2.1.1, show I 0 14 = I 75 1 from hR.1, h1, h2]

theorem op_seed {v : Int32} (hI : INV I g) : OPi l d mX11_seed mX12_seed [.ref 0, .int v, UU] [.ref 75, .int v, UU] I J g := by
  obtain ⟨n, gr, hN, hR⟩ := hI
  have hg := go_c g
  refine cX_seed (cM_seed (d := d + 40) (fin ?_ (n := n) (gr := gr) (hN.fr (fun a b h => ?_)) (hR.f2 ?_ (fun a b h => ?_))))
  · rw [w2_ne _ _ _ _ (by decide)]
    exact hR.1
  · unfold pN at h
    rw [w2_ne _ _ _ _ (by omega), w2_ne _ _ _ _ (by omega)]
  · show w2 (w2 I 0 14 v) 75 1 v 0 14 = w2 (w2 I 0 14 v) 75 1 v 75 1
    rw [w2_at, w2_ne _ _ _ _ (by decide), w2_at]
  · unfold rst pT pR pS pV pI at h
    rw [w2_ne _ _ _ _ (by omega), w2_ne _ _ _ _ (by omega)]

/-- all but the tape -/
def rsT (g : Bool) (a b : Nat) : Prop := pZ a b ∨ pR g a b ∨ pS a b ∨ pV a b ∨ pI a b
theorem REST.fT {I I' : AI} {g : Bool} (h : REST I g) (ht : TAP I') (hs : sq (rsT g) I I') : REST I' g := ⟨h.1.fr (fun a b q => hs a b (Or.inl q)), ht, h.2.2.1.fr (fun a b q => hs a b (Or.inr (Or.inl q))), h.2.2.2.1.fr (fun a b q => hs a b (Or.inr (Or.inr (Or.inl q)))), h.2.2.2.2.1.fr (fun a b q => hs a b (Or.inr (Or.inr (Or.inr (Or.inl q))))), h.2.2.2.2.2.fr (fun a b q => hs a b (Or.inr (Or.inr (Or.inr (Or.inr q)))))⟩

theorem op_wipe (hI : INV I g) : OPi l d mX11_wipe mX12_wipe [.ref 0, UU] [.ref 75, UU] I J g := by
  obtain ⟨n, gr, hN, hR⟩ := hI
  have hg := go_c g
  refine cX_wipe (cM_wipe (d := d + 40) (fin ?_ (n := n) (gr := gr) (hN.fr (fun a b h => ?_)) (hR.fT ?_ (fun a b h => ?_))))
  · rw [w2_ne _ _ _ _ (by decide)]
    exact hR.2.1.1
  · unfold pN at h
    rw [w2_ne _ _ _ _ (by omega), w2_ne _ _ _ _ (by omega)]
  · refine ⟨?_, ?_, 0, by decide, w2_at _ _ _ _⟩
    · rw [w2_at, w2_ne _ _ _ _ (by decide), w2_at]
    · rw [w2_row _ _ _ _ (by decide), w2_row _ _ _ _ (by decide), w2_row _ _ _ _ (by decide), w2_row _ _ _ _ (by decide)]
      exact hR.2.1.2.1
  · unfold rsT pZ pR pS pV pI at h
    rw [w2_ne _ _ _ _ (by omega), w2_ne _ _ _ _ (by omega)]

theorem fdX_o (I : AI) (v : Int32) (t k : Nat) : ∀ i a b, ¬ (a = 43 ∨ (a = 42 ∧ b = 3)) → fdX I v t k i a b = I a b := by
  intro i
  induction i with
  | zero => intro a b _; rfl
  | succ i ih =>
    intro a b h
    unfold fdX
    rw [w2_ne _ _ _ _ (by omega), w2_ne _ _ _ _ (by omega), ih a b h]
theorem fdI_o (I : AI) (v : Int32) (t k : Nat) : ∀ i a b, ¬ (a = 88 ∨ (a = 75 ∧ b = 25)) → fdI I v t k i a b = I a b := by
  intro i
  induction i with
  | zero => intro a b _; rfl
  | succ i ih =>
    intro a b h
    unfold fdI
    rw [w2_ne _ _ _ _ (by omega), w2_ne _ _ _ _ (by omega), ih a b h]
theorem fd_row (I I' : AI) (v : Int32) (t k : Nat) (hk : k ≤ 4) (e : I 43 = I' 88) : ∀ i, i ≤ k → fdX I v t k i 43 = fdI I' v t k i 88 := by
  intro i
  induction i with
  | zero => intro _; exact e
  | succ i ih =>
    intro hi
    unfold fdX fdI
    rw [w2_row _ 42 _ _ (show ¬ 43 = 42 by decide), w2_row _ 75 _ _ (show ¬ 88 = 75 by decide), ← w2_upd, ← w2_upd, ih (by omega), sh255 v (by omega)]

theorem op_feed {v k : Int32} (hI : INV I g) : OPi l d mX11_feed mX12_feed [.ref 0, .int v, .int k, UU] [.ref 75, .int v, .int k, UU] I J g := by
  obtain ⟨n, gr, hN, hR⟩ := hI
  have hg := go_c g
  obtain ⟨h1, h2, t, ht2, ht⟩ := hR.2.1
  have hkk : ∀ {k0 : Nat}, k = nI k0 → 1 ≤ k0 → k0 ≤ 4 → ¬ inR k 1 4 = false := by
    intro k0 e a b
    rw [e, show (1 : Int32) = nI 1 from rfl, show (4 : Int32) = nI 4 from rfl, inR_nI (by omega) (by omega) (by omega), decide_eq_true ⟨a, b⟩]
    decide
  refine cX_feed (h1.trans ht) ht2 (fun h => ?_) (fun k0 e a b c => ?_) (fun k0 e a b c => ?_)
  · exact cM_feed (d := d + 39) ht ht2 (fun _ => fin rfl hN hR) (fun k0 e a b _ => absurd h (hkk e a b)) (fun k0 e a b _ => absurd h (hkk e a b))
  · refine cM_feed (d := d + 39) ht ht2 (fun h => absurd h (hkk e a b)) (fun _ _ _ _ _ => fin rfl hN hR) (fun k1 e1 a1 b1 c1 => ?_)
    have : k0 = k1 := nI_inj (by omega) (by omega) (e.symm.trans e1)
    omega
  · have ht' : fdX I v t k0 k0 75 25 = nI t := by rw [fdX_o _ _ _ _ _ _ _ (by decide)]; exact ht
    refine cM_feed (d := d + 39) ht' ht2 (fun h => absurd h (hkk e a b)) (fun k1 e1 a1 b1 c1 => ?_) (fun k1 e1 a1 b1 c1 => ?_)
    · have : k0 = k1 := nI_inj (by omega) (by omega) (e.symm.trans e1)
      omega
    · have : k0 = k1 := nI_inj (by omega) (by omega) (e.symm.trans e1)
      subst this
      refine fin rfl (n := n) (gr := gr) (hN.fr (fun a b h => ?_)) (hR.fT ?_ (fun a b h => ?_))
      · unfold pN at h
        rw [fdI_o _ _ _ _ _ _ _ (by omega), fdX_o _ _ _ _ _ _ _ (by omega)]
      · refine ⟨?_, ?_, t + k0, c, fdI_t v k0 ht' k0⟩
        · rw [fdI_o _ _ _ _ _ _ _ (by decide), fdX_n (h1.trans ht), fdI_t v k0 ht' k0]
        · have e43 : ∀ b, fdI (fdX I v t k0 k0) v t k0 k0 43 b = fdX I v t k0 k0 43 b := fun b => fdI_o _ _ _ _ _ _ _ (by omega)
          rw [show fdI (fdX I v t k0 k0) v t k0 k0 43 = fdX I v t k0 k0 43 from funext e43]
          refine fd_row I (fdX I v t k0 k0) v t k0 b1 ?_ k0 (Nat.le_refl _)
          rw [h2]
          funext b
          exact (fdX_o _ _ _ _ _ _ _ (by omega)).symm
      · unfold rsT pZ pR pS pV pI at h
        rw [fdI_o _ _ _ _ _ _ _ (by omega), fdX_o _ _ _ _ _ _ _ (by omega)]

end XA3
