
theorem wt_ex {x : Int32} (h : inR x 1 9 = true) : ∃ v, 1 ≤ v ∧ v ≤ 9 ∧ x = nI v := by
  rw [inR_iff, show (1 : Int32).toInt = 1 by decide, show (9 : Int32).toInt = 9 by decide] at h
  refine ⟨x.toInt.toNat, by omega, by omega, ?_⟩
  apply Int32.toInt_inj.mp
  rw [nI_toInt (by omega)]
  omega
theorem nx {b : Bool} (h : b = false) : ¬ b = true := by rw [h]; decide
theorem kqT {k q c : Int32} {k0 : Nat} (e : k = nI k0) (hk : k0 ≤ 12) (hq : inR q 0 c = true) : (inR k 0 12 && inR q 0 c) = true := by
  rw [hq, Bool.and_true, e, show (0 : Int32) = nI 0 from rfl, show (12 : Int32) = nI 12 from rfl, inR_nI (by omega) (by omega) (by omega)]
  exact decide_eq_true ⟨by omega, hk⟩
theorem kqN {k q c : Int32} {k0 : Nat} (e : k = nI k0) (hk : k0 ≤ 12) (hq : inR q 0 c = true) : ¬ (inR k 0 12 && inR q 0 c) = false := by
  rw [kqT e hk hq]
  decide
section XA1
variable {l : Launch} {d : Nat} {I : AI} {J : AJ} {g : Bool}
theorem NET.kd {n : Nat} {gr : Nat → Nat} (h : NET I n gr) : ∀ p, p < n → I 2 p = I 76 p := fun p hp => (h.2.2.2 p hp).1
theorem NET.wt {n : Nat} {gr : Nat → Nat} (h : NET I n gr) : ∀ p, p < n → I 3 p = I 77 p := fun p hp => (h.2.2.2 p hp).2.1
theorem NET.w9 {n : Nat} {gr : Nat → Nat} (h : NET I n gr) : ∀ p, p < n → ∃ v, 1 ≤ v ∧ v ≤ 9 ∧ I 77 p = nI v := fun p hp => wt_ex (h.2.2.2 p hp).2.2.2
theorem NET.cs {n : Nat} {gr : Nat → Nat} (h : NET I n gr) : ∀ j, j < n → cst (I 2 j) (I 3 j) (nI (pc (gr j))) (nI j) = pu0 I gr j := fun j hj => by rw [h.kd j hj, h.wt j hj]; rfl
theorem NET.le {n : Nat} {gr : Nat → Nat} (h : NET I n gr) : n ≤ 12 := h.1.2.1

theorem op_pointOf {p q : Int32} (hI : INV I g) : OPi l d mX11_pointOf mX12_pointOf [.ref 0, .int p, .int q] [.ref 75, .int p, .int q] I J g := by
  obtain ⟨n, gr, hN, hR⟩ := hI
  refine cX_pointOf hN.1 (fun h => cM_pointOf (d := d + 38) hN.2.1 (fun _ => fin rfl hN hR) (fun p0 hp e => absurd (ptB_nI hp (by have := hN.le; omega)) (nx (by rw [← e]; exact h)))) (fun p0 hp e => cM_pointOf (d := d + 38) hN.2.1 (fun h => absurd (ptB_nI hp (by have := hN.le; omega)) (nx (by rw [← e]; exact h))) (fun p1 hp1 e1 => fin ?_ hN hR))
  have : p0 = p1 := nI_inj (by have := hN.le; omega) (by have := hN.le; omega) (e.symm.trans e1)
  subst this
  rw [hN.kd p0 hp, hN.wt p0 hp]

theorem op_isCover {s : Int32} (hI : INV I g) : OPi l d mX11_isCover mX12_isCover [.ref 0, .int s] [.ref 75, .int s] I J g := by
  obtain ⟨n, gr, hN, hR⟩ := hI
  have h12 := hN.le
  have hp12 : 2 ^ n ≤ 2 ^ 12 := Nat.pow_le_pow_right (by decide) h12
  refine cX_isCover hN.1 (fun h => cM_isCover (d := d + 37) hN.2.1 (fun _ => fin rfl hN hR) (fun a ha e => absurd h (by rw [e, stB_nI h12 ha]; decide))) (fun a ha e => cM_isCover (d := d + 37) hN.2.1 (fun h => absurd h (by rw [e, stB_nI h12 ha]; decide)) (fun a1 ha1 e1 => fin ?_ hN hR))
  rw [nI_inj (by omega) (by omega) (e.symm.trans e1)]

theorem op_costOf {s : Int32} (hI : INV I g) : OPi l d mX11_costOf mX12_costOf [.ref 0, .int s] [.ref 75, .int s] I J g := by
  obtain ⟨n, gr, hN, hR⟩ := hI
  have h12 := hN.le
  have hp12 : 2 ^ n ≤ 2 ^ 12 := Nat.pow_le_pow_right (by decide) h12
  refine cX_costOf hN.1 hN.kd hN.wt (fun h => cM_costOf (d := d + 37) hN.2.1 (fun _ _ => rfl) (fun _ _ => rfl) (fun _ => fin rfl hN hR) (fun a ha e => absurd h (by rw [e, stB_nI h12 ha]; decide))) (fun a ha e => cM_costOf (d := d + 37) hN.2.1 (fun _ _ => rfl) (fun _ _ => rfl) (fun h => absurd h (by rw [e, stB_nI h12 ha]; decide)) (fun a1 ha1 e1 => fin ?_ hN hR))
  rw [nI_inj (by omega) (by omega) (e.symm.trans e1)]

theorem op_fewest {q : Int32} (hI : INV I g) : OPi l d mX11_fewest mX12_fewest [.ref 0, .int q] [.ref 75, .int q, UU, UU, UU, UU, UU, UU] I J g := by
  obtain ⟨n, gr, hN, hR⟩ := hI
  refine cX_fewest hN.1 (fun h => cM_fewest (d := d + 37) hN.2.1 (fun _ => fin rfl hN hR) (fun h2 => absurd h2 (nx h))) (fun h I1 hs1 => ?_)
  have hv1 := hs1.sq (v_fC g)
  have hN1 := hN.fr hv1.N
  have hR1 := hR.fr hv1
  exact cM_fewest (d := d + 37) hN1.2.1 (fun h2 => absurd h (nx h2)) (fun _ => fin rfl hN1 hR1)

theorem op_sized {q : Int32} (hI : INV I g) : OPi l d mX11_sized mX12_sized [.ref 0, .int q] [.ref 75, .int q, UU, UU] I J g := by
  obtain ⟨n, gr, hN, hR⟩ := hI
  refine cX_sized hN.1 (fun h => cM_sized (d := d + 38) hN.2.1 (fun _ => fin rfl hN hR) (fun h2 => absurd h2 (nx h))) (fun h I1 hs1 => ?_)
  have hv1 := hs1.sq (v_fC g)
  have hN1 := hN.fr hv1.N
  have hR1 := hR.fr hv1
  exact cM_sized (d := d + 38) hN1.2.1 (fun h2 => absurd h (nx h2)) (fun _ => fin rfl hN1 hR1)

theorem op_bare {q : Int32} (hI : INV I g) : OPi l d mX11_bare mX12_bare [.ref 0, .int q] [.ref 75, .int q, UU, UU, UU, UU] I J g := by
  obtain ⟨n, gr, hN, hR⟩ := hI
  refine cX_bare hN.1 hN.2.2.1 (fun h => cM_bare (d := d + 37) hN.2.1 (fun _ => fin rfl hN hR) (fun h2 => absurd h2 (nx h))) (fun h I1 hs1 => ?_)
  have hv1 := hs1.sq (v_fC g)
  have hN1 := hN.fr hv1.N
  have hR1 := hR.fr hv1
  exact cM_bare (d := d + 37) hN1.2.1 (fun h2 => absurd h (nx h2)) (fun _ => fin rfl hN1 hR1)

theorem op_share {q : Int32} (hI : INV I g) : OPl l d mX11_share mX12_share [.ref 0, .int q, UU, UU, UU, UU, UU] [.ref 75, .int q, UU, UU, UU, UU, UU] I J g := by
  obtain ⟨n, gr, hN, hR⟩ := hI
  refine cX_share hN.1 (fun h => cM_share (d := d + 38) hN.2.1 (fun _ => finl rfl hN hR) (fun h2 => absurd h2 (nx h))) (fun h I1 hs1 => ?_)
  have hv1 := hs1.sq (v_fC g)
  have hN1 := hN.fr hv1.N
  have hR1 := hR.fr hv1
  exact cM_share (d := d + 38) hN1.2.1 (fun h2 => absurd h (nx h2)) (fun _ => finl rfl hN1 hR1)

theorem op_dear {q : Int32} (hI : INV I g) : OPi l d mX11_dear mX12_dear [.ref 0, .int q] [.ref 75, .int q, UU, UU, UU, UU] I J g := by
  obtain ⟨n, gr, hN, hR⟩ := hI
  refine cX_dear hN.1 hN.kd hN.wt hN.w9 (fun h => cM_dear (d := d + 37) hN.2.1 (fun _ _ => rfl) (fun _ _ => rfl) (fun _ => fin rfl hN hR) (fun h2 => absurd h2 (nx h))) (fun h I1 hs1 => ?_)
  have hv1 := hs1.sq (v_fC g)
  have hN1 := hN.fr hv1.N
  have hR1 := hR.fr hv1
  exact cM_dear (d := d + 37) hN1.2.1 (fun p _ => hv1.N 76 p (by unfold pN; omega)) (fun p _ => hv1.N 77 p (by unfold pN; omega)) (fun h2 => absurd h (nx h2)) (fun _ => fin rfl hN1 hR1)

theorem op_halves {q : Int32} (hI : INV I g) : OPi l d mX11_halves mX12_halves [.ref 0, .int q] [.ref 75, .int q, UU] I J g := by
  obtain ⟨n, gr, hN, hR⟩ := hI
  refine cX_halves hN.1 hN.2.2.1 (fun h => cM_halves (d := d + 11) hN.2.2.1 hN.2.1 (fun _ => fin rfl hN hR) (fun h2 => absurd h2 (nx h))) (fun h I1 hs1 => ?_)
  have hv1 := hs1.sq (v_fHs g)
  have hN1 := hN.fr hv1.N
  have hR1 := hR.fr hv1
  refine cM_halves (d := d + 11) hN.2.2.1 hN1.2.1 (fun h2 => absurd h (nx h2)) (fun _ H I2 hH hs2 => ?_)
  have hv2 := hs2.sq (v_fG g)
  have hN2 := hN1.fr hv2.N
  have hR2 := hR1.fr hv2
  refine fin ?_ hN2 hR2
  rw [hz_eq hH 0, hz_eq hH 1, hz_eq hH 2, hz_sum hN.le hN.2.2.1 (by have := Nat.two_pow_pos n; omega) hH]

theorem op_half {q : Int32} (hI : INV I g) : OPi l d mX11_half mX12_half [.ref 0, .int q] [.ref 75, .int q, UU] I J g := by
  obtain ⟨n, gr, hN, hR⟩ := hI
  refine cX_half hN.1 hN.2.2.1 (fun h => cM_half (d := d + 11) hN.2.2.1 hN.2.1 (fun _ => fin rfl hN hR) (fun p H I' hp e _ _ => absurd (ptB_nI hp (by have := hN.le; omega)) (nx (by rw [← e]; exact h)))) (fun p I1 hp e hs1 => ?_)
  have hv1 := hs1.sq (v_fHs g)
  have hN1 := hN.fr hv1.N
  have hR1 := hR.fr hv1
  refine cM_half (d := d + 11) hN.2.2.1 hN1.2.1 (fun h => absurd (ptB_nI hp (by have := hN.le; omega)) (nx (by rw [← e]; exact h))) (fun p1 H I2 hp1 e1 hH hs2 => ?_)
  have hv2 := hs2.sq (v_fG g)
  have hN2 := hN1.fr hv2.N
  have hR2 := hR1.fr hv2
  have : p = p1 := nI_inj (by have := hN.le; omega) (by have := hN.le; omega) (e.symm.trans e1)
  subst this
  exact fin (hf_same hp hH (HV_le2 hH hp (by rw [Nat.testBit_two_pow_sub_one]; exact decide_eq_true hp))) hN2 hR2

theorem op_mayHave {q : Int32} (hI : INV I g) : OPi l d mX11_mayHave mX12_mayHave [.ref 0, .int q] [.ref 75, .int q, UU, UU, UU] I J g := by
  obtain ⟨n, gr, hN, hR⟩ := hI
  refine cX_mayHave hN.1 hN.2.2.1 (fun h => cM_mayHave (d := d + 12) hN.2.2.1 hN.2.1 (fun _ => fin rfl hN hR) (fun p r I' hp e _ _ _ => absurd (ptB_nI hp (by have := hN.le; omega)) (nx (by rw [← e]; exact h)))) (fun p r I1 hp e hr8 hr hs1 => ?_)
  have hv1 := hs1.sq (v_fMp g)
  have hN1 := hN.fr hv1.N
  have hR1 := hR.fr hv1
  refine cM_mayHave (d := d + 12) hN.2.2.1 hN1.2.1 (fun h => absurd (ptB_nI hp (by have := hN.le; omega)) (nx (by rw [← e]; exact h))) (fun p1 r1 I2 hp1 e1 hr18 hr1 hs2 => ?_)
  have hv2 := hs2.sq (v_fG g)
  have hN2 := hN1.fr hv2.N
  have hR2 := hR1.fr hv2
  have : p = p1 := nI_inj (by have := hN.le; omega) (by have := hN.le; omega) (e.symm.trans e1)
  subst this
  exact fin (by rw [mh_same hr8 hr18 (fun v hv => (hr v hv).trans (hr1 v hv).symm)]) hN2 hR2

theorem op_persists (hI : INV I g) : OPi l d mX11_persists mX12_persists [.ref 0, UU] [.ref 75, UU, UU, UU, UU, UU, UU] I J g := by
  obtain ⟨n, gr, hN, hR⟩ := hI
  refine cX_persists hN.1 hN.2.2.1 (fun I1 hs1 => ?_)
  have hv1 := hs1.sq (v_fPe g)
  have hN1 := hN.fr hv1.N
  have hR1 := hR.fr hv1
  refine cM_persists (d := d + 11) hN.2.2.1 hN1.2.1 (fun I2 hs2 => ?_)
  have hv2 := hs2.sq (v_fG g)
  have hN2 := hN1.fr hv2.N
  have hR2 := hR1.fr hv2
  exact fin rfl hN2 hR2

theorem op_isCrown {q : Int32} (hI : INV I g) : OPi l d mX11_isCrown mX12_isCrown [.ref 0, .int q] [.ref 75, .int q] I J g := by
  obtain ⟨n, gr, hN, hR⟩ := hI
  have h12 := hN.le
  have hp12 : 2 ^ n ≤ 2 ^ 12 := Nat.pow_le_pow_right (by decide) h12
  refine cX_isCrown hN.1 (fun h => cM_isCrown (d := d + 24) hN.2.1 (fun _ => fin rfl hN hR) (fun s I' hs e _ => absurd h (by rw [e, stB_nI h12 hs]; decide))) (fun s I1 hs e hs1 => ?_)
  have hv1 := hs1.sq (v_fMp g)
  have hN1 := hN.fr hv1.N
  have hR1 := hR.fr hv1
  refine cM_isCrown (d := d + 24) hN1.2.1 (fun h => absurd h (by rw [e, stB_nI h12 hs]; decide)) (fun s2 I2 hs2 e2 hs2' => ?_)
  have hv2 := hs2'.sq (v_fP g)
  have hN2 := hN1.fr hv2.N
  have hR2 := hR1.fr hv2
  exact fin (by rw [nI_inj (by omega) (by omega) (e.symm.trans e2)]) hN2 hR2

theorem op_crowns {q : Int32} (hI : INV I g) : OPi l d mX11_crowns mX12_crowns [.ref 0, .int q] [.ref 75, .int q, UU, UU, UU] I J g := by
  obtain ⟨n, gr, hN, hR⟩ := hI
  refine cX_crowns hN.1 (fun h => cM_crowns (d := d + 24) hN.2.1 (fun _ => fin rfl hN hR) (fun h2 => absurd h2 (nx h))) (fun h I1 hs1 => ?_)
  have hv1 := hs1.sq (v_fW g)
  have hN1 := hN.fr hv1.N
  have hR1 := hR.fr hv1
  refine cM_crowns (d := d + 24) hN1.2.1 (fun h2 => absurd h (nx h2)) (fun _ I2 hs2 => ?_)
  have hv2 := hs2.sq (v_fP g)
  have hN2 := hN1.fr hv2.N
  have hR2 := hR1.fr hv2
  exact fin rfl hN2 hR2

theorem op_kernel {k q : Int32} (hI : INV I g) : OPi l d mX11_kernel mX12_kernel [.ref 0, .int k, .int q] [.ref 75, .int k, .int q] I J g := by
  obtain ⟨n, gr, hN, hR⟩ := hI
  refine cX_kernel hN.1 hN.2.2.1 (fun h => cM_kernel (d := d + 9) hN.2.2.1 hN.2.1 (fun _ => fin rfl hN hR) (fun k0 I' e hk hq _ => absurd h (kqN e hk hq))) (fun k0 I1 e hk hq hs1 => ?_)
  have hv1 := hs1.sq (v_fKr g)
  have hN1 := hN.fr hv1.N
  have hR1 := hR.fr hv1
  refine cM_kernel (d := d + 9) hN.2.2.1 hN1.2.1 (fun h => absurd h (kqN e hk hq)) (fun k1 I2 e1 hk1 _ hs2 => ?_)
  have hv2 := hs2.sq (v_fK g)
  have hN2 := hN1.fr hv2.N
  have hR2 := hR1.fr hv2
  exact fin (by rw [nI_inj (by omega) (by omega) (e.symm.trans e1)]) hN2 hR2

theorem op_search {k q : Int32} (hI : INV I g) : OPi l d mX11_search mX12_search [.ref 0, .int k, .int q] [.ref 75, .int k, .int q, UU] I J g := by
  obtain ⟨n, gr, hN, hR⟩ := hI
  refine cX_search hN.1 hN.2.2.1 (fun h => cM_search (d := d + 11) hN.2.1 (fun _ => fin rfl hN hR) (fun k0 I' e hk hq _ => absurd h (kqN e hk hq))) (fun k0 I1 e hk hq hs1 => ?_)
  have hv1 := hs1.sq (v_fSr g)
  have hN1 := hN.fr hv1.N
  have hR1 := hR.fr hv1
  refine cM_search (d := d + 11) hN1.2.1 (fun h => absurd h (kqN e hk hq)) (fun k1 I2 e1 hk1 _ hs2 => ?_)
  have hv2 := hs2.sq (v_fT g)
  have hN2 := hN1.fr hv2.N
  have hR2 := hR1.fr hv2
  exact fin (by rw [nI_inj (by omega) (by omega) (e.symm.trans e1)]) hN2 hR2

theorem op_round {k i q : Int32} (hI : INV I g) : OPi l d mX11_round mX12_round [.ref 0, .int k, .int i, .int q] [.ref 75, .int k, .int i, .int q] I J g := by
  obtain ⟨n, gr, hN, hR⟩ := hI
  refine cX_round hN.1 hN.2.2.1 (fun h => cM_round (d := d + 9) hN.2.2.1 hN.2.1 (fun _ => fin rfl hN hR) (fun k0 I' e hk hq _ j _ _ => absurd h (kqN e hk hq))) (fun k0 I1 e hk hq hi hs1 => ?_) (fun k0 I1 e hk hq hs1 j ej hj => ?_)
  · have hv1 := hs1.sq (v_fKr g)
    have hN1 := hN.fr hv1.N
    have hR1 := hR.fr hv1
    refine cM_round (d := d + 9) hN.2.2.1 hN1.2.1 (fun _ => fin rfl hN1 hR1) (fun k1 I2 e1 hk1 _ hs2 j ej hj => ?_)
    rw [ej] at hi
    exact absurd ((nI_lt_iff (b := 0) hj (by omega)).mp hi) (by omega)
  · have hv1 := hs1.sq (v_fKr g)
    have hN1 := hN.fr hv1.N
    have hR1 := hR.fr hv1
    refine cM_round (d := d + 9) hN.2.2.1 hN1.2.1 (fun h => ?_) (fun k1 I2 e1 hk1 _ hs2 j1 ej1 hj1 => ?_)
    · have hi : ¬ i < 0 := by
        rw [ej]
        intro q0
        exact absurd ((nI_lt_iff (b := 0) hj (by omega)).mp q0) (by omega)
      rw [kqT e hk hq, decide_eq_false hi] at h
      exact absurd h (by decide)
    · have hk01 : k0 = k1 := nI_inj (by omega) (by omega) (e.symm.trans e1)
      have hj01 : j = j1 := nI_inj hj hj1 (ej.symm.trans ej1)
      subst hk01 hj01
      have hv2 := hs2.sq (v_fK g)
      have hN2 := hN1.fr hv2.N
      have hR2 := hR1.fr hv2
      exact fin rfl hN2 hR2

theorem op_node {k i q : Int32} (hI : INV I g) : OPi l d mX11_node mX12_node [.ref 0, .int k, .int i, .int q] [.ref 75, .int k, .int i, .int q, UU] I J g := by
  obtain ⟨n, gr, hN, hR⟩ := hI
  refine cX_node hN.1 hN.2.2.1 (fun h => cM_node (d := d + 11) hN.2.1 (fun _ => fin rfl hN hR) (fun k0 I' e hk hq _ j _ _ => absurd h (kqN e hk hq))) (fun k0 I1 e hk hq hi hs1 => ?_) (fun k0 I1 e hk hq hs1 j ej hj => ?_)
  · have hv1 := hs1.sq (v_fSr g)
    have hN1 := hN.fr hv1.N
    have hR1 := hR.fr hv1
    refine cM_node (d := d + 11) hN1.2.1 (fun _ => fin rfl hN1 hR1) (fun k1 I2 e1 hk1 _ hs2 j ej hj => ?_)
    rw [ej] at hi
    exact absurd ((nI_lt_iff (b := 0) hj (by omega)).mp hi) (by omega)
  · have hv1 := hs1.sq (v_fSr g)
    have hN1 := hN.fr hv1.N
    have hR1 := hR.fr hv1
    refine cM_node (d := d + 11) hN1.2.1 (fun h => ?_) (fun k1 I2 e1 hk1 _ hs2 j1 ej1 hj1 => ?_)
    · have hi : ¬ i < 0 := by
        rw [ej]
        intro q0
        exact absurd ((nI_lt_iff (b := 0) hj (by omega)).mp q0) (by omega)
      rw [kqT e hk hq, decide_eq_false hi] at h
      exact absurd h (by decide)
    · have hk01 : k0 = k1 := nI_inj (by omega) (by omega) (e.symm.trans e1)
      have hj01 : j = j1 := nI_inj hj hj1 (ej.symm.trans ej1)
      subst hk01 hj01
      have hv2 := hs2.sq (v_fT g)
      have hN2 := hN1.fr hv2.N
      have hR2 := hR1.fr hv2
      exact fin rfl hN2 hR2

theorem op_pack {q : Int32} (hI : INV I g) : OPi l d mX11_pack mX12_pack [.ref 0, .int q] [.ref 75, .int q, UU, UU, UU, UU, UU] I J g := by
  obtain ⟨n, gr, hN, hR⟩ := hI
  refine cX_pack hN.1 (fun h => cM_pack (d := d + 38) hN.2.1 (fun _ => fin rfl hN hR) (fun I' h2 _ => absurd h2 (nx h))) (fun I1 h hs1 => ?_)
  have hv1 := hs1.sq (v_fPk g)
  have hN1 := hN.fr hv1.N
  have hR1 := hR.fr hv1
  refine cM_pack (d := d + 38) hN1.2.1 (fun h2 => absurd h (nx h2)) (fun I2 _ hs2 => ?_)
  have hv2 := hs2.sq (v_f83 g)
  have hN2 := hN1.fr hv2.N
  have hR2 := hR1.fr hv2
  exact fin rfl hN2 hR2

end XA1
