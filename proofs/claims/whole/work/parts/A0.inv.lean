
/-- the tree that is grown: one of the two -/
def go (g : Bool) : Nat := bif g then 66 else 57
theorem go_c (g : Bool) : go g = 57 ∨ go g = 66 := by cases g <;> simp [go]
theorem go_r (g : Bool) : rX g 0 12 = some (go g) := by cases g <;> rfl
theorem go_s (g : Bool) : rX g 0 13 = some (go (!g)) := by cases g <;> rfl
def pN (a b : Nat) : Prop := (a = 1 ∧ b = 4) ∨ (2 ≤ a ∧ a ≤ 4) ∨ (a = 75 ∧ b = 0) ∨ (76 ≤ a ∧ a ≤ 78)
def pZ (a b : Nat) : Prop := (a = 0 ∧ b = 14) ∨ (a = 75 ∧ b = 1)
def pT (a b : Nat) : Prop := (a = 42 ∧ b = 3) ∨ a = 43 ∨ (a = 75 ∧ b = 25) ∨ a = 88
def pR (g : Bool) (a b : Nat) : Prop := (a = go g ∧ b = 8) ∨ (go g < a ∧ a ≤ go g + 3) ∨ (a = 75 ∧ b = 26) ∨ (89 ≤ a ∧ a ≤ 91)
def pS (a _ : Nat) : Prop := (47 ≤ a ∧ a ≤ 52) ∨ (103 ≤ a ∧ a ≤ 105)
def pV (a _ : Nat) : Prop := (54 ≤ a ∧ a ≤ 56) ∨ (106 ≤ a ∧ a ≤ 109)
def pI (a b : Nat) : Prop := (a = 0 ∧ (b = 15 ∨ b = 16)) ∨ (a = 11 ∧ b = 4) ∨ (12 ≤ a ∧ a ≤ 14) ∨ (a = 75 ∧ b = 42) ∨ a = 102
def inv (g : Bool) (a b : Nat) : Prop := pN a b ∨ pZ a b ∨ pT a b ∨ pR g a b ∨ pS a b ∨ pV a b ∨ pI a b
def sq (P : Nat → Nat → Prop) (I I' : AI) : Prop := ∀ a b, P a b → I' a b = I a b
def NET (I : AI) (n : Nat) (gr : Nat → Nat) : Prop := XG I 1 4 n gr ∧ MG I n gr ∧ WG n gr ∧ ∀ p, p < n → I 2 p = I 76 p ∧ I 3 p = I 77 p ∧ inR (I 76 p) 0 5 = true ∧ inR (I 77 p) 1 9 = true
def ZT (I : AI) : Prop := I 0 14 = I 75 1
def TAP (I : AI) : Prop := I 42 3 = I 75 25 ∧ I 43 = I 88 ∧ ∃ t, t ≤ 200 ∧ I 75 25 = nI t
def TRE (I : AI) (g : Bool) : Prop := ∃ m, m ≤ 60 ∧ I (go g) 8 = nI m ∧ I 75 26 = nI m ∧ TP (I 91) m ∧ ∀ j, j < m → I (go g + 1) j = I 89 j ∧ I (go g + 2) j = I 90 j ∧ I (go g + 3) j = I 91 j ∧ inR (I 89 j) 0 5 = true ∧ inR (I 90 j) 1 9 = true
def SHT (I : AI) : Prop := ∀ s, s < 4 → I 47 s = I 103 s ∧ I 48 s = I 104 s ∧ (I 103 s = -1 ∨ inR (I 103 s) 0 2 = true) ∧ (∃ z, z ≤ 60 ∧ I 104 s = nI z) ∧ ∀ j, j < 60 → I (49 + s) j = I 105 (60 * s + j)
def SLV (I : AI) : Prop := ∀ h, h < 4 → (I 54 h = 0 ∧ I 106 h = 2) ∨ (I 54 h = 1 ∧ I 106 h = 0 ∧ I 56 h = I 107 h) ∨ (I 54 h = 2 ∧ I 106 h = 1 ∧ I 55 h = I 108 h ∧ I 56 h = I 109 h ∧ inR (I 108 h) 0 2 = true)
def IMG (I : AI) : Prop := I 0 16 = I 75 42 ∧ (¬ I 75 42 = 0 → I 0 15 = I 102 1 ∧ ∃ n gr, n ≤ 12 ∧ I 11 4 = nI n ∧ I 102 0 = nI n ∧ WG n gr ∧ ∀ p, p < n → I 14 p = nI (gr p) ∧ I 102 (4 + 3 * p) = nI (gr p) ∧ I 12 p = I 102 (2 + 3 * p) ∧ I 13 p = I 102 (3 + 3 * p) ∧ inR (I 102 (2 + 3 * p)) 0 5 = true ∧ inR (I 102 (3 + 3 * p)) 1 9 = true)
def REST (I : AI) (g : Bool) : Prop := ZT I ∧ TAP I ∧ TRE I g ∧ SHT I ∧ SLV I ∧ IMG I
def INV (I : AI) (g : Bool) : Prop := ∃ n gr, NET I n gr ∧ REST I g
section FR
variable {I I' : AI} {g : Bool} {n : Nat} {gr : Nat → Nat}
theorem MG.fr (h : MG I n gr) (hs : sq (fun a b => (a = 75 ∧ b = 0) ∨ a = 78) I I') : MG I' n gr := ⟨(hs 75 0 (by omega)).trans h.1, h.2.1, fun p hp => (hs 78 p (by omega)).trans (h.2.2.1 p hp), h.2.2.2⟩
theorem XG.fr (h : XG I 1 4 n gr) (hs : sq (fun a b => (a = 1 ∧ b = 4) ∨ a = 4) I I') : XG I' 1 4 n gr := ⟨(hs 1 4 (by omega)).trans h.1, h.2.1, fun p hp => (hs 4 p (by omega)).trans (h.2.2.1 p hp), h.2.2.2⟩
theorem NET.fr (h : NET I n gr) (hs : sq pN I I') : NET I' n gr := by
  obtain ⟨h1, h2, h3, h4⟩ := h
  refine ⟨h1.fr (fun a b q => hs a b (by unfold pN; omega)), h2.fr (fun a b q => hs a b (by unfold pN; omega)), h3, fun p hp => ?_⟩
  rw [hs 2 p (by unfold pN; omega), hs 3 p (by unfold pN; omega), hs 76 p (by unfold pN; omega), hs 77 p (by unfold pN; omega)]
  exact h4 p hp
theorem ZT.fr (h : ZT I) (hs : sq pZ I I') : ZT I' := by
  unfold ZT
  rw [hs 0 14 (by unfold pZ; omega), hs 75 1 (by unfold pZ; omega)]
  exact h
theorem TAP.fr (h : TAP I) (hs : sq pT I I') : TAP I' := by
  obtain ⟨h1, h2, h3⟩ := h
  refine ⟨?_, ?_, ?_⟩
  · rw [hs 42 3 (by unfold pT; omega), hs 75 25 (by unfold pT; omega)]; exact h1
  · funext j
    rw [hs 43 j (by unfold pT; omega), hs 88 j (by unfold pT; omega), h2]
  · rw [hs 75 25 (by unfold pT; omega)]; exact h3
theorem TP_cg {f h : Nat → Int32} {m : Nat} (e : ∀ j, j < m → f j = h j) (hP : TP f m) : TP h m := ⟨fun h0 => by rw [← e 0 h0]; exact hP.1 h0, fun i h0 hi => by rw [← e i hi]; exact hP.2 i h0 hi⟩
theorem TRE.fr (h : TRE I g) (hs : sq (pR g) I I') : TRE I' g := by
  obtain ⟨m, h1, h2, h3, h4, h5⟩ := h
  have e89 : ∀ j, I' 89 j = I 89 j := fun j => hs 89 j (by unfold pR; omega)
  have e90 : ∀ j, I' 90 j = I 90 j := fun j => hs 90 j (by unfold pR; omega)
  have e91 : ∀ j, I' 91 j = I 91 j := fun j => hs 91 j (by unfold pR; omega)
  refine ⟨m, h1, ?_, ?_, TP_cg (fun j _ => (e91 j).symm) h4, fun j hj => ?_⟩
  · rw [hs _ 8 (by unfold pR; omega)]; exact h2
  · rw [hs 75 26 (by unfold pR; omega)]; exact h3
  · rw [hs _ j (show pR g (go g + 1) j by unfold pR; omega), hs _ j (show pR g (go g + 2) j by unfold pR; omega), hs _ j (show pR g (go g + 3) j by unfold pR; omega), e89, e90, e91]
    exact h5 j hj
theorem SHT.fr (h : SHT I) (hs : sq pS I I') : SHT I' := by
  intro s hs4
  obtain ⟨h1, h2, h3, h4, h5⟩ := h s hs4
  rw [hs 47 s (by unfold pS; omega), hs 48 s (by unfold pS; omega), hs 103 s (by unfold pS; omega), hs 104 s (by unfold pS; omega)]
  refine ⟨h1, h2, h3, h4, fun j hj => ?_⟩
  rw [hs (49 + s) j (by unfold pS; omega), hs 105 _ (by unfold pS; omega)]
  exact h5 j hj
theorem SLV.fr (h : SLV I) (hs : sq pV I I') : SLV I' := by
  intro s hs4
  rw [hs 54 s (by unfold pV; omega), hs 55 s (by unfold pV; omega), hs 56 s (by unfold pV; omega), hs 106 s (by unfold pV; omega), hs 107 s (by unfold pV; omega), hs 108 s (by unfold pV; omega), hs 109 s (by unfold pV; omega)]
  exact h s hs4
theorem IMG.fr (h : IMG I) (hs : sq pI I I') : IMG I' := by
  have e : ∀ j, I' 102 j = I 102 j := fun j => hs 102 j (by unfold pI; omega)
  unfold IMG
  rw [hs 0 16 (by unfold pI; omega), hs 75 42 (by unfold pI; omega), hs 0 15 (by unfold pI; omega), hs 11 4 (by unfold pI; omega), e, e]
  refine ⟨h.1, fun h0 => ?_⟩
  obtain ⟨h1, n, gr, h2, h3, h4, h5, h6⟩ := h.2 h0
  refine ⟨h1, n, gr, h2, h3, h4, h5, fun p hp => ?_⟩
  rw [e, e, e, hs 12 p (by unfold pI; omega), hs 13 p (by unfold pI; omega), hs 14 p (by unfold pI; omega)]
  exact h6 p hp
theorem sq.N (h : sq (inv g) I I') : sq pN I I' := fun a b q => h a b (Or.inl q)
theorem sq.Z (h : sq (inv g) I I') : sq pZ I I' := fun a b q => h a b (Or.inr (Or.inl q))
theorem sq.T (h : sq (inv g) I I') : sq pT I I' := fun a b q => h a b (Or.inr (Or.inr (Or.inl q)))
theorem sq.R (h : sq (inv g) I I') : sq (pR g) I I' := fun a b q => h a b (Or.inr (Or.inr (Or.inr (Or.inl q))))
theorem sq.S (h : sq (inv g) I I') : sq pS I I' := fun a b q => h a b (Or.inr (Or.inr (Or.inr (Or.inr (Or.inl q)))))
theorem sq.V (h : sq (inv g) I I') : sq pV I I' := fun a b q => h a b (Or.inr (Or.inr (Or.inr (Or.inr (Or.inr (Or.inl q))))))
theorem sq.M (h : sq (inv g) I I') : sq pI I I' := fun a b q => h a b (Or.inr (Or.inr (Or.inr (Or.inr (Or.inr (Or.inr q))))))
theorem REST.fr (h : REST I g) (hs : sq (inv g) I I') : REST I' g := ⟨h.1.fr hs.Z, h.2.1.fr hs.T, h.2.2.1.fr hs.R, h.2.2.2.1.fr hs.S, h.2.2.2.2.1.fr hs.V, h.2.2.2.2.2.fr hs.M⟩
theorem sq.rf {P : Nat → Nat → Prop} : sq P I I := fun _ _ _ => rfl
theorem sq.tr {P : Nat → Nat → Prop} {I2 : AI} (h1 : sq P I I') (h2 : sq P I' I2) : sq P I I2 := fun a b h => (h2 a b h).trans (h1 a b h)
theorem sb.sq {F : Nat → Nat → Bool} {P : Nat → Nat → Prop} (h : sb F I I') (hF : ∀ a b, F a b = true → ¬ P a b) : sq P I I' := fun a b q => h a b (Bool.eq_false_iff.mpr (fun e => hF a b e q))
theorem SHT.sz (h : SHT I) : SZ I := fun s hs => (h s hs).2.2.2.1
theorem SHT.szc (h : SHT I) : SZc I := fun s hs => by
  obtain ⟨z, hz, e⟩ := (h s hs).2.2.2.1
  exact ⟨z, hz, (h s hs).2.1.trans e⟩
end FR
theorem v_fC (g : Bool) (a b : Nat) (h : fC a b = true) : ¬ inv g a b := by
  have hg := go_c g
  unfold inv pN pZ pT pR pS pV pI
  simp only [fC, Bool.or_eq_true, Bool.and_eq_true, beq_iff_eq, decide_eq_true_eq] at h
  omega
theorem v_fHs (g : Bool) (a b : Nat) (h : fHs 16 a b = true) : ¬ inv g a b := by
  have hg := go_c g
  unfold inv pN pZ pT pR pS pV pI
  simp only [fHs, Bool.or_eq_true, Bool.and_eq_true, beq_iff_eq, decide_eq_true_eq] at h
  omega
theorem v_fMp (g : Bool) (a b : Nat) (h : fMp 16 a b = true) : ¬ inv g a b := by
  have hg := go_c g
  unfold inv pN pZ pT pR pS pV pI
  simp only [fMp, Bool.or_eq_true, Bool.and_eq_true, beq_iff_eq, decide_eq_true_eq] at h
  omega
theorem v_fPe (g : Bool) (a b : Nat) (h : fPe a b = true) : ¬ inv g a b := by
  have hg := go_c g
  unfold inv pN pZ pT pR pS pV pI
  simp only [fPe, fC, fHs, Bool.or_eq_true, Bool.and_eq_true, beq_iff_eq, decide_eq_true_eq] at h
  omega
theorem v_fW (g : Bool) (a b : Nat) (h : fW a b = true) : ¬ inv g a b := by
  have hg := go_c g
  unfold inv pN pZ pT pR pS pV pI
  simp only [fW, Bool.or_eq_true, Bool.and_eq_true, beq_iff_eq, decide_eq_true_eq] at h
  omega
theorem v_fKr (g : Bool) (a b : Nat) (h : fKr a b = true) : ¬ inv g a b := by
  have hg := go_c g
  unfold inv pN pZ pT pR pS pV pI
  simp only [fKr, Bool.or_eq_true, Bool.and_eq_true, beq_iff_eq, decide_eq_true_eq] at h
  omega
theorem v_fPk (g : Bool) (a b : Nat) (h : fPk a b = true) : ¬ inv g a b := by
  have hg := go_c g
  unfold inv pN pZ pT pR pS pV pI
  simp only [fPk, Bool.or_eq_true, Bool.and_eq_true, beq_iff_eq, decide_eq_true_eq] at h
  omega
theorem v_fSr (g : Bool) (a b : Nat) (h : fSr a b = true) : ¬ inv g a b := by
  have hg := go_c g
  unfold inv pN pZ pT pR pS pV pI
  simp only [fSr, Bool.or_eq_true, Bool.and_eq_true, beq_iff_eq, decide_eq_true_eq] at h
  omega
theorem v_fE5 (g : Bool) (a b : Nat) (h : fE 5 a b = true) : ¬ inv g a b := by
  have hg := go_c g
  unfold inv pN pZ pT pR pS pV pI
  simp only [fE, Bool.or_eq_true, Bool.and_eq_true, beq_iff_eq, decide_eq_true_eq] at h
  omega
theorem v_fNt6 (g : Bool) (a b : Nat) (h : fNt 6 7 8 9 a b = true) : ¬ inv g a b := by
  have hg := go_c g
  unfold inv pN pZ pT pR pS pV pI
  simp only [fNt, Bool.or_eq_true, Bool.and_eq_true, beq_iff_eq, decide_eq_true_eq] at h
  omega
theorem v_fG (g : Bool) (a b : Nat) (h : fG a b = true) : ¬ inv g a b := by
  have hg := go_c g
  unfold inv pN pZ pT pR pS pV pI
  simp only [fG, fH, Bool.or_eq_true, Bool.and_eq_true, beq_iff_eq, decide_eq_true_eq] at h
  omega
theorem v_fP (g : Bool) (a b : Nat) (h : fP a b = true) : ¬ inv g a b := by
  have hg := go_c g
  unfold inv pN pZ pT pR pS pV pI
  simp only [fP, Bool.or_eq_true, Bool.and_eq_true, beq_iff_eq, decide_eq_true_eq] at h
  omega
theorem v_fK (g : Bool) (a b : Nat) (h : fK a b = true) : ¬ inv g a b := by
  have hg := go_c g
  unfold inv pN pZ pT pR pS pV pI
  simp only [fK, fR, fG, fH, Bool.or_eq_true, Bool.and_eq_true, beq_iff_eq, decide_eq_true_eq] at h
  omega
theorem v_fT (g : Bool) (a b : Nat) (h : fT a b = true) : ¬ inv g a b := by
  have hg := go_c g
  unfold inv pN pZ pT pR pS pV pI
  simp only [fT, fS, fH, Bool.or_eq_true, Bool.and_eq_true, beq_iff_eq, decide_eq_true_eq] at h
  omega
theorem v_fM (g : Bool) (a b : Nat) (h : fM a b = true) : ¬ inv g a b := by
  have hg := go_c g
  unfold inv pN pZ pT pR pS pV pI
  simp only [fM, fG, fH, Bool.or_eq_true, Bool.and_eq_true, beq_iff_eq, decide_eq_true_eq] at h
  omega
theorem v_f83 (g : Bool) (a b : Nat) (h : f83 a b = true) : ¬ inv g a b := by
  have hg := go_c g
  unfold inv pN pZ pT pR pS pV pI
  simp only [f83, Bool.or_eq_true, Bool.and_eq_true, beq_iff_eq, decide_eq_true_eq] at h
  omega
theorem v_fI (g : Bool) (a b : Nat) (h : fI a b = true) : ¬ inv g a b := by
  have hg := go_c g
  unfold inv pN pZ pT pR pS pV pI
  simp only [fI, fH, Bool.or_eq_true, Bool.and_eq_true, beq_iff_eq, decide_eq_true_eq] at h
  omega
theorem v_f87 (g : Bool) (a b : Nat) (h : f87 a b = true) : ¬ inv g a b := by
  have hg := go_c g
  unfold inv pN pZ pT pR pS pV pI
  simp only [f87, Bool.or_eq_true, Bool.and_eq_true, beq_iff_eq, decide_eq_true_eq] at h
  omega
theorem v_fH (g : Bool) (a b : Nat) (h : fH a b = true) : ¬ inv g a b := by
  have hg := go_c g
  unfold inv pN pZ pT pR pS pV pI
  simp only [fH, Bool.or_eq_true, Bool.and_eq_true, beq_iff_eq, decide_eq_true_eq] at h
  omega
theorem v_f100 (g : Bool) (a b : Nat) (h : f100 a b = true) : ¬ inv g a b := by
  have hg := go_c g
  unfold inv pN pZ pT pR pS pV pI
  simp only [f100, Bool.or_eq_true, Bool.and_eq_true, beq_iff_eq, decide_eq_true_eq] at h
  omega
theorem v_fF (g : Bool) (a b : Nat) (h : fF a b = true) : ¬ inv g a b := by
  have hg := go_c g
  unfold inv pN pZ pT pR pS pV pI
  simp only [fF, Bool.or_eq_true, Bool.and_eq_true, beq_iff_eq, decide_eq_true_eq] at h
  omega
theorem v_fEF (g : Bool) (a b : Nat) (h : fEF (go g + 4) (go g + 5) a b = true) : ¬ inv g a b := by
  have hg := go_c g
  unfold inv pN pZ pT pR pS pV pI
  simp only [fEF, Bool.or_eq_true, Bool.and_eq_true, beq_iff_eq, decide_eq_true_eq] at h
  omega
def OPi (l : Launch) (d : Nat) (mc mm : MI) (Lc Lm : List Value) (I : AI) (J : AJ) (g : Bool) : Prop := G l (d + 40) mc (fun v I1 J1 R1 => G l (d + 40) mm (fun v' I2 _ R2 => (∃ x : Int32, v = .int x ∧ v' = .int x) ∧ ∃ g2, R2 = rX g2 ∧ INV I2 g2) 0 Lm [] I1 J1 R1) 0 Lc [] I J (rX g)
def OPl (l : Launch) (d : Nat) (mc mm : MI) (Lc Lm : List Value) (I : AI) (J : AJ) (g : Bool) : Prop := G l (d + 40) mc (fun v I1 J1 R1 => G l (d + 40) mm (fun v' I2 _ R2 => (∃ x : Int64, v = .long x ∧ v' = .long x) ∧ ∃ g2, R2 = rX g2 ∧ INV I2 g2) 0 Lm [] I1 J1 R1) 0 Lc [] I J (rX g)
theorem fin {I : AI} {g : Bool} {n : Nat} {gr : Nat → Nat} {x y : Int32} (e : x = y) (hN : NET I n gr) (hR : REST I g) : (∃ z : Int32, Value.int x = .int z ∧ Value.int y = .int z) ∧ ∃ g2, rX g = rX g2 ∧ INV I g2 := ⟨⟨x, rfl, by rw [e]⟩, g, rfl, n, gr, hN, hR⟩
theorem finl {I : AI} {g : Bool} {n : Nat} {gr : Nat → Nat} {x y : Int64} (e : x = y) (hN : NET I n gr) (hR : REST I g) : (∃ z : Int64, Value.long x = .long z ∧ Value.long y = .long z) ∧ ∃ g2, rX g = rX g2 ∧ INV I g2 := ⟨⟨x, rfl, by rw [e]⟩, g, rfl, n, gr, hN, hR⟩
