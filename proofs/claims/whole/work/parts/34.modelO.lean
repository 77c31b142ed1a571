
/-- the end of the run of signs from a to b that begins at p -/
def rn (tp : Nat → Int32) (t : Nat) (a b : Int32) : Nat → Nat → Nat
  | 0, p => p
  | f + 1, p => if (decide (p < t) && inR (tp p) a b) = true then rn tp t a b f (p + 1) else p
theorem rn_ge (tp : Nat → Int32) (t : Nat) (a b : Int32) : ∀ f p, p ≤ rn tp t a b f p
  | 0, p => Nat.le_refl _
  | f + 1, p => by
    unfold rn
    by_cases h : (decide (p < t) && inR (tp p) a b) = true
    · rw [if_pos h]; exact Nat.le_trans (by omega) (rn_ge tp t a b f (p + 1))
    · rw [if_neg h]; exact Nat.le_refl _
theorem rn_le (tp : Nat → Int32) (t : Nat) (a b : Int32) : ∀ f p, p ≤ t → rn tp t a b f p ≤ t
  | 0, p, h => h
  | f + 1, p, hp => by
    unfold rn
    by_cases h : (decide (p < t) && inR (tp p) a b) = true
    · rw [if_pos h]
      rw [Bool.and_eq_true, decide_eq_true_eq] at h
      exact rn_le tp t a b f (p + 1) (by omega)
    · rw [if_neg h]; exact hp
theorem rn_gt {tp : Nat → Int32} {t : Nat} {a b : Int32} {p : Nat} (hp : p < t) (h : inR (tp p) a b = true) : p < rn tp t a b (t - p) p := by
  obtain ⟨f, hf⟩ : ∃ f, t - p = f + 1 := ⟨t - p - 1, by omega⟩
  rw [hf]
  unfold rn
  rw [if_pos (by rw [h, decide_eq_true hp]; rfl)]
  exact Nat.lt_of_lt_of_le (by omega) (rn_ge tp t a b f (p + 1))
abbrev TS : Type := Nat × Int32 × Nat × Nat × Nat × (Nat → Int32) × (Nat → Int32) × (Nat → Int32)
abbrev TS.p (s : TS) : Nat := s.1
abbrev TS.at0 (s : TS) : Int32 := s.2.1
abbrev TS.dp (s : TS) : Nat := s.2.2.1
abbrev TS.ls (s : TS) : Nat := s.2.2.2.1
abbrev TS.m (s : TS) : Nat := s.2.2.2.2.1
abbrev TS.ks (s : TS) : Nat → Int32 := s.2.2.2.2.2.1
abbrev TS.ws (s : TS) : Nat → Int32 := s.2.2.2.2.2.2.1
abbrev TS.is (s : TS) : Nat → Int32 := s.2.2.2.2.2.2.2
def stp (tp : Nat → Int32) (t : Nat) (s : TS) : Sum Int32 TS :=
  if rn tp t 32 32 (t - s.p) s.p = t then .inl (if 0 < s.m ∧ s.dp = 0 then -1 else nI t)
  else if inR (tp (rn tp t 32 32 (t - s.p) s.p)) 97 122 = true then
    (if s.ls < 2 ∨ kdI tp (rn tp t 32 32 (t - s.p) s.p) (rn tp t 97 122 (t - rn tp t 32 32 (t - s.p) s.p) (rn tp t 32 32 (t - s.p) s.p)) = -1 then .inl (nI (rn tp t 32 32 (t - s.p) s.p))
     else .inr ⟨rn tp t 97 122 (t - rn tp t 32 32 (t - s.p) s.p) (rn tp t 32 32 (t - s.p) s.p), s.at0, s.dp, 1, s.m, upd s.ks s.at0.toNatClampNeg (kdI tp (rn tp t 32 32 (t - s.p) s.p) (rn tp t 97 122 (t - rn tp t 32 32 (t - s.p) s.p) (rn tp t 32 32 (t - s.p) s.p))), s.ws, s.is⟩)
  else if inR (tp (rn tp t 32 32 (t - s.p) s.p)) 48 57 = true then
    (if s.ls < 1 ∨ 1 < rn tp t 48 57 (t - rn tp t 32 32 (t - s.p) s.p) (rn tp t 32 32 (t - s.p) s.p) - rn tp t 32 32 (t - s.p) s.p ∨ tp (rn tp t 32 32 (t - s.p) s.p) = 48 then .inl (nI (rn tp t 32 32 (t - s.p) s.p))
     else .inr ⟨rn tp t 48 57 (t - rn tp t 32 32 (t - s.p) s.p) (rn tp t 32 32 (t - s.p) s.p), s.at0, s.dp, 0, s.m, s.ks, upd s.ws s.at0.toNatClampNeg (tp (rn tp t 32 32 (t - s.p) s.p) - 48), s.is⟩)
  else if tp (rn tp t 32 32 (t - s.p) s.p) = 40 then
    (if (s.dp = 0 ∧ 0 < s.m) ∨ s.dp = 20 ∨ s.m = 60 then .inl (nI (rn tp t 32 32 (t - s.p) s.p))
     else .inr ⟨rn tp t 32 32 (t - s.p) s.p + 1, nI s.m, s.dp + 1, 2, s.m + 1, upd s.ks s.m 0, upd s.ws s.m 1, upd s.is s.m s.at0⟩)
  else if tp (rn tp t 32 32 (t - s.p) s.p) = 41 then
    (if s.dp = 0 then .inl (nI (rn tp t 32 32 (t - s.p) s.p))
     else .inr ⟨rn tp t 32 32 (t - s.p) s.p + 1, s.is s.at0.toNatClampNeg, s.dp - 1, 0, s.m, s.ks, s.ws, s.is⟩)
  else .inl (nI (rn tp t 32 32 (t - s.p) s.p))
def ft (tp : Nat → Int32) (t : Nat) : Nat → TS → Int32 × TS
  | 0, s => (0, s)
  | f + 1, s => match stp tp t s with
    | .inl r => (r, s)
    | .inr s' => ft tp t f s'
theorem ft_inl {tp : Nat → Int32} {t f : Nat} {s : TS} {r : Int32} (h : stp tp t s = .inl r) : ft tp t (f + 1) s = (r, s) := by
  unfold ft; rw [h]
theorem ft_inr {tp : Nat → Int32} {t f : Nat} {s s' : TS} (h : stp tp t s = .inr s') : ft tp t (f + 1) s = ft tp t f s' := by
  rw [ft, h]
/-- the way up from node x is k long -/
def CH (is : Nat → Int32) (m : Nat) : Nat → Int32 → Prop
  | 0, x => x = -1
  | k + 1, x => ∃ a, x = nI a ∧ a < m ∧ CH is m k (is a)
theorem CH_up {is : Nat → Int32} {m : Nat} {y : Int32} : ∀ (k : Nat) (x : Int32), CH is m k x → CH (upd is m y) (m + 1) k x
  | 0, _, h => h
  | k + 1, _, ⟨a, e, ha, h⟩ => ⟨a, e, by omega, by
      have : upd is m y a = is a := by simp [upd, show ¬ a = m by omega]
      rw [this]
      exact CH_up k _ h⟩
def TV (t : Nat) (s : TS) : Prop := s.p ≤ t ∧ s.m ≤ 60 ∧ s.dp ≤ 20 ∧ CH s.is s.m s.dp s.at0 ∧ (1 ≤ s.ls → 1 ≤ s.dp) ∧ s.ls ≤ 2
def HR (I : AI) (s : TS) : Prop := I 75 30 = nI s.m ∧ I 92 = s.ks ∧ I 93 = s.ws ∧ I 94 = s.is
def fF (a b : Nat) : Bool := (a == 75 && b == 30) || a == 92 || a == 93 || a == 94
theorem CH_ex {is : Nat → Int32} {m k : Nat} {x : Int32} (h : CH is m k x) (hk : 1 ≤ k) : ∃ a, x = nI a ∧ a < m ∧ CH is m (k - 1) (is a) := by
  obtain ⟨j, rfl⟩ : ∃ j, k = j + 1 := ⟨k - 1, by omega⟩
  exact h
theorem in60 {p : Nat} (h : p < 60) : vp_in (nI p) 60 := vp_in_nI h (by decide)
section M34
variable {l : Launch} {d : Nat} {K : AK} {I : AI} {J : AJ} {g : Bool} {n : Nat} {gr : Nat → Nat}

theorem lM_spc {tp : Nat → Int32} {t : Nat} {x2 x3 x4 x5 : Value} (ht : I 75 25 = nI t) (ht2 : t ≤ 200) (htp : I 88 = tp) : ∀ (k p : Nat), t - p = k → p ≤ t → (G l (d + 2) mX12_faultOf K 32 [.ref 75, .int (nI (rn tp t 32 32 k p)), x2, x3, x4, x5] [] I J (rX g)) → G l (d + 2) mX12_faultOf K 14 [.ref 75, .int (nI p), x2, x3, x4, x5] [] I J (rX g) := by
  intro k
  induction k with
  | zero =>
    intro p hk hp hgo
    rw [rn] at hgo
    refine G_aload_0 (nx := 15) ⟨dX12_faultOf_14, rfl⟩ ?_
    refine G_iload_1 (nx := 16) ⟨dX12_faultOf_15, rfl⟩ ?_
    refine G_bipush (nx := 18) ⟨dX12_faultOf_16, rfl⟩ cb_32 ?_
    refine G_bipush (nx := 20) ⟨dX12_faultOf_18, rfl⟩ cb_32 ?_
    refine G_cv3 (nx := 23) ⟨dX12_faultOf_20, rfl⟩ kX12_301 rfl q_75 rfl (Nat.le_of_ble_eq_true rfl) (Nat.le_of_ble_eq_true rfl) (cM_isFrom ht ht2 hp ?_)
    refine G_ifeq (tgt := 32) (nx := 26) ⟨dX12_faultOf_23, rfl⟩ rfl (fun c_23 => ?_) (fun c_23 => ?_)
    · exact hgo
    · (rw [bi_n0, Bool.and_eq_true, decide_eq_true_eq] at c_23; exact absurd c_23.1 (by omega))

  | succ k ih =>
    intro p hk hp hgo
    rw [rn] at hgo
    refine G_aload_0 (nx := 15) ⟨dX12_faultOf_14, rfl⟩ ?_
    refine G_iload_1 (nx := 16) ⟨dX12_faultOf_15, rfl⟩ ?_
    refine G_bipush (nx := 18) ⟨dX12_faultOf_16, rfl⟩ cb_32 ?_
    refine G_bipush (nx := 20) ⟨dX12_faultOf_18, rfl⟩ cb_32 ?_
    refine G_cv3 (nx := 23) ⟨dX12_faultOf_20, rfl⟩ kX12_301 rfl q_75 rfl (Nat.le_of_ble_eq_true rfl) (Nat.le_of_ble_eq_true rfl) (cM_isFrom ht ht2 hp ?_)
    refine G_ifeq (tgt := 32) (nx := 26) ⟨dX12_faultOf_23, rfl⟩ rfl (fun c_23 => ?_) (fun c_23 => ?_)
    · rw [bi_0, htp] at c_23
      rw [if_neg (by rw [c_23]; decide)] at hgo
      exact hgo
    · refine G_iinc_1 (nx := 29) ⟨dX12_faultOf_26, rfl⟩ ci_1 rfl ?_
      refine G_goto (tgt := 14) ⟨dX12_faultOf_29, rfl⟩ rfl ?_
      rw [bi_n0, htp] at c_23
      rw [if_pos c_23] at hgo
      rw [Bool.and_eq_true, decide_eq_true_eq] at c_23
      exact G_L (by rw [nI_1]) (ih (p + 1) (by omega) (by omega) hgo)

theorem lM_let {tp : Nat → Int32} {t : Nat} {x1 x2 x3 x4 : Int32} (ht : I 75 25 = nI t) (ht2 : t ≤ 200) (htp : I 88 = tp) : ∀ (k p : Nat), t - p = k → p ≤ t → (G l (d + 2) mX12_faultOf K 91 [.ref 75, .int x1, .int x2, .int x3, .int x4, .int (nI (rn tp t 97 122 k p))] [] I J (rX g)) → G l (d + 2) mX12_faultOf K 72 [.ref 75, .int x1, .int x2, .int x3, .int x4, .int (nI p)] [] I J (rX g) := by
  intro k
  induction k with
  | zero =>
    intro p hk hp hgo
    rw [rn] at hgo
    refine G_aload_0 (nx := 73) ⟨dX12_faultOf_72, rfl⟩ ?_
    refine G_iload_5 (nx := 75) ⟨dX12_faultOf_73, rfl⟩ ?_
    refine G_bipush (nx := 77) ⟨dX12_faultOf_75, rfl⟩ cb_97 ?_
    refine G_bipush (nx := 79) ⟨dX12_faultOf_77, rfl⟩ cb_122 ?_
    refine G_cv3 (nx := 82) ⟨dX12_faultOf_79, rfl⟩ kX12_301 rfl q_75 rfl (Nat.le_of_ble_eq_true rfl) (Nat.le_of_ble_eq_true rfl) (cM_isFrom ht ht2 hp ?_)
    refine G_ifeq (tgt := 91) (nx := 85) ⟨dX12_faultOf_82, rfl⟩ rfl (fun c_82 => ?_) (fun c_82 => ?_)
    · exact hgo
    · (rw [bi_n0, Bool.and_eq_true, decide_eq_true_eq] at c_82; exact absurd c_82.1 (by omega))

  | succ k ih =>
    intro p hk hp hgo
    rw [rn] at hgo
    refine G_aload_0 (nx := 73) ⟨dX12_faultOf_72, rfl⟩ ?_
    refine G_iload_5 (nx := 75) ⟨dX12_faultOf_73, rfl⟩ ?_
    refine G_bipush (nx := 77) ⟨dX12_faultOf_75, rfl⟩ cb_97 ?_
    refine G_bipush (nx := 79) ⟨dX12_faultOf_77, rfl⟩ cb_122 ?_
    refine G_cv3 (nx := 82) ⟨dX12_faultOf_79, rfl⟩ kX12_301 rfl q_75 rfl (Nat.le_of_ble_eq_true rfl) (Nat.le_of_ble_eq_true rfl) (cM_isFrom ht ht2 hp ?_)
    refine G_ifeq (tgt := 91) (nx := 85) ⟨dX12_faultOf_82, rfl⟩ rfl (fun c_82 => ?_) (fun c_82 => ?_)
    · rw [bi_0, htp] at c_82
      rw [if_neg (by rw [c_82]; decide)] at hgo
      exact hgo
    · refine G_iinc_5 (nx := 88) ⟨dX12_faultOf_85, rfl⟩ ci_1 rfl ?_
      refine G_goto (tgt := 72) ⟨dX12_faultOf_88, rfl⟩ rfl ?_
      rw [bi_n0, htp] at c_82
      rw [if_pos c_82] at hgo
      rw [Bool.and_eq_true, decide_eq_true_eq] at c_82
      exact G_L (by rw [nI_1]) (ih (p + 1) (by omega) (by omega) hgo)

theorem lM_dig {tp : Nat → Int32} {t : Nat} {x1 x2 x3 x4 : Int32} (ht : I 75 25 = nI t) (ht2 : t ≤ 200) (htp : I 88 = tp) : ∀ (k p : Nat), t - p = k → p ≤ t → (G l (d + 2) mX12_faultOf K 160 [.ref 75, .int x1, .int x2, .int x3, .int x4, .int (nI (rn tp t 48 57 k p))] [] I J (rX g)) → G l (d + 2) mX12_faultOf K 141 [.ref 75, .int x1, .int x2, .int x3, .int x4, .int (nI p)] [] I J (rX g) := by
  intro k
  induction k with
  | zero =>
    intro p hk hp hgo
    rw [rn] at hgo
    refine G_aload_0 (nx := 142) ⟨dX12_faultOf_141, rfl⟩ ?_
    refine G_iload_5 (nx := 144) ⟨dX12_faultOf_142, rfl⟩ ?_
    refine G_bipush (nx := 146) ⟨dX12_faultOf_144, rfl⟩ cb_48 ?_
    refine G_bipush (nx := 148) ⟨dX12_faultOf_146, rfl⟩ cb_57 ?_
    refine G_cv3 (nx := 151) ⟨dX12_faultOf_148, rfl⟩ kX12_301 rfl q_75 rfl (Nat.le_of_ble_eq_true rfl) (Nat.le_of_ble_eq_true rfl) (cM_isFrom ht ht2 hp ?_)
    refine G_ifeq (tgt := 160) (nx := 154) ⟨dX12_faultOf_151, rfl⟩ rfl (fun c_151 => ?_) (fun c_151 => ?_)
    · exact hgo
    · (rw [bi_n0, Bool.and_eq_true, decide_eq_true_eq] at c_151; exact absurd c_151.1 (by omega))

  | succ k ih =>
    intro p hk hp hgo
    rw [rn] at hgo
    refine G_aload_0 (nx := 142) ⟨dX12_faultOf_141, rfl⟩ ?_
    refine G_iload_5 (nx := 144) ⟨dX12_faultOf_142, rfl⟩ ?_
    refine G_bipush (nx := 146) ⟨dX12_faultOf_144, rfl⟩ cb_48 ?_
    refine G_bipush (nx := 148) ⟨dX12_faultOf_146, rfl⟩ cb_57 ?_
    refine G_cv3 (nx := 151) ⟨dX12_faultOf_148, rfl⟩ kX12_301 rfl q_75 rfl (Nat.le_of_ble_eq_true rfl) (Nat.le_of_ble_eq_true rfl) (cM_isFrom ht ht2 hp ?_)
    refine G_ifeq (tgt := 160) (nx := 154) ⟨dX12_faultOf_151, rfl⟩ rfl (fun c_151 => ?_) (fun c_151 => ?_)
    · rw [bi_0, htp] at c_151
      rw [if_neg (by rw [c_151]; decide)] at hgo
      exact hgo
    · refine G_iinc_5 (nx := 157) ⟨dX12_faultOf_154, rfl⟩ ci_1 rfl ?_
      refine G_goto (tgt := 141) ⟨dX12_faultOf_157, rfl⟩ rfl ?_
      rw [bi_n0, htp] at c_151
      rw [if_pos c_151] at hgo
      rw [Bool.and_eq_true, decide_eq_true_eq] at c_151
      exact G_L (by rw [nI_1]) (ih (p + 1) (by omega) (by omega) hgo)

theorem lM_fault {tp : Nat → Int32} {t : Nat} (ht : I 75 25 = nI t) (ht2 : t ≤ 200) (htp : I 88 = tp) : ∀ (f : Nat) (s : TS) (I1 : AI) (x5 : Value), notL x5 = true → t - s.p < f → TV t s → HR I1 s → sb fF I I1 → (∀ (I' : AI), TV t (ft tp t f s).2 → HR I' (ft tp t f s).2 → sb fF I I' → K (.int (ft tp t f s).1) I' J (rX g)) → G l (d + 2) mX12_faultOf K 14 [.ref 75, .int (nI s.p), .int s.at0, .int (nI s.dp), .int (nI s.ls), x5] [] I1 J (rX g) := by
  intro f
  induction f with
  | zero => intro s I1 x5 _ h; omega
  | succ f ih =>
    intro s I1 x5 hx5 hf hV hH hs1 hk
    have hVs := hV
    obtain ⟨hp, hm60, hd20, hC, hld, hl2⟩ := hV
    obtain ⟨hm, h92, h93, h94⟩ := hH
    have ht1 : I1 75 25 = nI t := by rw [hs1 75 25 rfl]; exact ht
    have htp1 : I1 88 = tp := by funext b; rw [hs1 88 b rfl, htp]
    have hF : ∀ r, stp tp t s = .inl r → K (.int r) I1 J (rX g) := fun r h => by
      have := hk I1
      rw [ft_inl h] at this
      exact this hVs ⟨hm, h92, h93, h94⟩ hs1
    have hN : ∀ (s' : TS) (I2 : AI) (y5 : Value), stp tp t s = .inr s' → notL y5 = true → s.p < s'.p → TV t s' → HR I2 s' → sb fF I I2 → G l (d + 2) mX12_faultOf K 14 [.ref 75, .int (nI s'.p), .int s'.at0, .int (nI s'.dp), .int (nI s'.ls), y5] [] I2 J (rX g) := fun s' I2 y5 h hy hlt hV' hH' hs2 => by
      refine ih s' I2 y5 hy (by have := hV'.1; omega) hV' hH' hs2 (fun I' hVf hI hs' => ?_)
      have := hk I'
      rw [ft_inr h] at this
      exact this hVf hI hs'
    refine lM_spc ht1 ht2 htp1 _ s.p rfl hp ?_
    unfold stp at hF hN
    have hPge := rn_ge tp t 32 32 (t - s.p) s.p
    have hPle := rn_le tp t 32 32 (t - s.p) s.p hp
    revert hF hN hPge hPle
    generalize rn tp t 32 32 (t - s.p) s.p = P
    intro hF hN hPge hPle
    have ecP := cl_nI (p := P) (by omega)
    refine G_iload_1 (nx := 33) ⟨dX12_faultOf_32, rfl⟩ ?_
    refine G_aload_0 (nx := 34) ⟨dX12_faultOf_33, rfl⟩ ?_
    refine G_geti (nx := 37) (k := 75) ⟨dX12_faultOf_34, rfl⟩ fX12_162 q_75 yi_12_25 ?_
    rw [ht1]
    refine G_icmpne (tgt := 57) (nx := 40) ⟨dX12_faultOf_37, rfl⟩ rfl (fun c_37 => ?_) (fun c_37 => ?_)
    · rw [nI_eq (by omega) (by omega)] at c_37
      have hPlt : P < t := by omega
      have hiP := in200 (p := P) (by omega)
      refine G_iload_1 (nx := 58) ⟨dX12_faultOf_57, rfl⟩ ?_
      refine G_istore_5 (nx := 60) ⟨dX12_faultOf_58, rfl⟩ rfl rfl ?_
      refine G_aload_0 (nx := 61) ⟨dX12_faultOf_60, rfl⟩ ?_
      refine G_iload_1 (nx := 62) ⟨dX12_faultOf_61, rfl⟩ ?_
      refine G_bipush (nx := 64) ⟨dX12_faultOf_62, rfl⟩ cb_97 ?_
      refine G_bipush (nx := 66) ⟨dX12_faultOf_64, rfl⟩ cb_122 ?_
      refine G_cv3 (nx := 69) ⟨dX12_faultOf_66, rfl⟩ kX12_301 rfl q_75 rfl (Nat.le_of_ble_eq_true rfl) (Nat.le_of_ble_eq_true rfl) (cM_isFrom ht1 ht2 hPle ?_)
      refine G_ifeq (tgt := 129) (nx := 72) ⟨dX12_faultOf_69, rfl⟩ rfl (fun c_69 => ?_) (fun c_69 => ?_)
      · rw [bi_0, htp1, decide_eq_true hPlt, Bool.true_and] at c_69
        rw [← Bool.not_eq_true] at c_69
        refine G_aload_0 (nx := 130) ⟨dX12_faultOf_129, rfl⟩ ?_
        refine G_iload_1 (nx := 131) ⟨dX12_faultOf_130, rfl⟩ ?_
        refine G_bipush (nx := 133) ⟨dX12_faultOf_131, rfl⟩ cb_48 ?_
        refine G_bipush (nx := 135) ⟨dX12_faultOf_133, rfl⟩ cb_57 ?_
        refine G_cv3 (nx := 138) ⟨dX12_faultOf_135, rfl⟩ kX12_301 rfl q_75 rfl (Nat.le_of_ble_eq_true rfl) (Nat.le_of_ble_eq_true rfl) (cM_isFrom ht1 ht2 hPle ?_)
        refine G_ifeq (tgt := 208) (nx := 141) ⟨dX12_faultOf_138, rfl⟩ rfl (fun c_138 => ?_) (fun c_138 => ?_)
        · rw [bi_0, htp1, decide_eq_true hPlt, Bool.true_and] at c_138
          rw [← Bool.not_eq_true] at c_138
          refine G_aload_0 (nx := 209) ⟨dX12_faultOf_208, rfl⟩ ?_
          refine G_getr (nx := 212) (k := 75) (r := 88) ⟨dX12_faultOf_209, rfl⟩ fX12_50 q_75 yr_12_24 (r_75_24 _) ?_
          refine G_iload_1 (nx := 213) ⟨dX12_faultOf_212, rfl⟩ ?_
          refine G_iald (nx := 214) (k := 88) ⟨dX12_faultOf_213, rfl⟩ q_88 (by first | assumption | decide | (unfold vp_in; decide)) ?_
          rw [ecP, htp1]
          refine G_bipush (nx := 216) ⟨dX12_faultOf_214, rfl⟩ cb_40 ?_
          refine G_icmpne (tgt := 304) (nx := 219) ⟨dX12_faultOf_216, rfl⟩ rfl (fun c_216 => ?_) (fun c_216 => ?_)
          · refine G_aload_0 (nx := 305) ⟨dX12_faultOf_304, rfl⟩ ?_
            refine G_getr (nx := 308) (k := 75) (r := 88) ⟨dX12_faultOf_305, rfl⟩ fX12_50 q_75 yr_12_24 (r_75_24 _) ?_
            refine G_iload_1 (nx := 309) ⟨dX12_faultOf_308, rfl⟩ ?_
            refine G_iald (nx := 310) (k := 88) ⟨dX12_faultOf_309, rfl⟩ q_88 (by first | assumption | decide | (unfold vp_in; decide)) ?_
            rw [ecP, htp1]
            refine G_bipush (nx := 312) ⟨dX12_faultOf_310, rfl⟩ cb_41 ?_
            refine G_icmpne (tgt := 340) (nx := 315) ⟨dX12_faultOf_312, rfl⟩ rfl (fun c_312 => ?_) (fun c_312 => ?_)
            · refine G_iload_1 (nx := 341) ⟨dX12_faultOf_340, rfl⟩ ?_
              refine G_iret ⟨dX12_faultOf_341, rfl⟩ rfl ?_
              rw [if_neg c_37, if_neg c_69] at hF
              rw [if_neg c_138] at hF
              rw [if_neg c_216] at hF
              rw [if_neg c_312] at hF
              exact hF _ rfl
            · refine G_iload_3 (nx := 316) ⟨dX12_faultOf_315, rfl⟩ ?_
              refine G_ifne (tgt := 321) (nx := 319) ⟨dX12_faultOf_316, rfl⟩ rfl (fun c_316 => ?_) (fun c_316 => ?_)
              · rw [nI_0iff (by omega)] at c_316
                have hdp1 : 1 ≤ s.dp := by omega
                obtain ⟨a, ea, ham, hCa⟩ := CH_ex hC (hdp1)
                have hia : vp_in s.at0 60 := by rw [ea]; exact in60 (by omega)
                have eca : s.at0.toNatClampNeg = a := by rw [ea]; exact cl_nI (by omega)
                refine G_aload_0 (nx := 322) ⟨dX12_faultOf_321, rfl⟩ ?_
                refine G_getr (nx := 325) (k := 75) (r := 94) ⟨dX12_faultOf_322, rfl⟩ fX12_68 q_75 yr_12_33 (r_75_33 _) ?_
                refine G_iload_2 (nx := 326) ⟨dX12_faultOf_325, rfl⟩ ?_
                refine G_iald (nx := 327) (k := 94) ⟨dX12_faultOf_326, rfl⟩ q_94 (by first | assumption | decide | (unfold vp_in; decide)) ?_
                refine G_istore_2 (nx := 328) ⟨dX12_faultOf_327, rfl⟩ rfl rfl ?_
                refine G_iinc_3 (nx := 331) ⟨dX12_faultOf_328, rfl⟩ ci_m1 rfl ?_
                refine G_iconst (nx := 332) ⟨dX12_faultOf_331, rfl⟩ ci_0 ?_
                refine G_istore_4 (nx := 334) ⟨dX12_faultOf_332, rfl⟩ rfl rfl ?_
                refine G_iinc_5 (nx := 337) ⟨dX12_faultOf_334, rfl⟩ ci_1 rfl ?_
                refine G_goto (tgt := 342) ⟨dX12_faultOf_337, rfl⟩ rfl ?_
                refine G_iload_5 (nx := 344) ⟨dX12_faultOf_342, rfl⟩ ?_
                refine G_istore_1 (nx := 345) ⟨dX12_faultOf_344, rfl⟩ rfl rfl ?_
                refine G_goto (tgt := 14) ⟨dX12_faultOf_345, rfl⟩ rfl ?_
                have hdp : 1 ≤ s.dp := hdp1
                rw [if_neg c_37, if_neg c_69, if_neg c_138] at hN
                rw [if_neg c_216, if_pos c_312] at hN
                have e1 : nI s.dp + (-1) = nI (s.dp - 1) := by rw [← nI_sub hdp, Int32.sub_eq_add_neg]; rfl
                refine G_L (by rw [nI_1, e1, h94, nI_0]) (hN (P + 1, s.is s.at0.toNatClampNeg, s.dp - 1, 0, s.m, s.ks, s.ws, s.is) _ (.int (nI (P + 1))) (if_neg (by show ¬ s.dp = 0; omega)) rfl (by show s.p < P + 1; omega) ⟨hPlt, hm60, by show s.dp - 1 ≤ 20; omega, by show CH s.is s.m (s.dp - 1) (s.is s.at0.toNatClampNeg); rw [eca]; exact hCa, fun h => absurd h (by show ¬ 1 ≤ 0; omega), by show 0 ≤ 2; omega⟩ ⟨hm, h92, h93, h94⟩ hs1)
              · refine G_iload_1 (nx := 320) ⟨dX12_faultOf_319, rfl⟩ ?_
                refine G_iret ⟨dX12_faultOf_320, rfl⟩ rfl ?_
                rw [nI_0iff (by omega)] at c_316
                rw [if_neg c_37, if_neg c_69] at hF
                rw [if_neg c_138] at hF
                rw [if_neg c_216] at hF
                rw [if_pos c_312] at hF
                exact hF _ (if_pos c_316)
          · refine G_iload_3 (nx := 220) ⟨dX12_faultOf_219, rfl⟩ ?_
            refine G_ifne (tgt := 230) (nx := 223) ⟨dX12_faultOf_220, rfl⟩ rfl (fun c_220 => ?_) (fun c_220 => ?_)
            · refine G_iload_3 (nx := 231) ⟨dX12_faultOf_230, rfl⟩ ?_
              refine G_bipush (nx := 233) ⟨dX12_faultOf_231, rfl⟩ cb_20 ?_
              rw [show (20 : Int32) = nI 20 by decide]
              refine G_icmpeq (tgt := 245) (nx := 236) ⟨dX12_faultOf_233, rfl⟩ rfl (fun c_233 => ?_) (fun c_233 => ?_)
              · refine G_iload_1 (nx := 246) ⟨dX12_faultOf_245, rfl⟩ ?_
                refine G_iret ⟨dX12_faultOf_246, rfl⟩ rfl ?_
                rw [nI_eq (by omega) (by omega)] at c_233
                rw [if_neg c_37, if_neg c_69] at hF
                rw [if_neg c_138] at hF
                rw [if_pos c_216] at hF
                exact hF _ (if_pos (Or.inr (Or.inl c_233)))
              · rw [nI_eq (by omega) (by omega)] at c_233
                refine G_aload_0 (nx := 237) ⟨dX12_faultOf_236, rfl⟩ ?_
                refine G_geti (nx := 240) (k := 75) ⟨dX12_faultOf_237, rfl⟩ fX12_298 q_75 yi_12_30 ?_
                refine G_bipush (nx := 242) ⟨dX12_faultOf_240, rfl⟩ cb_60 ?_
                rw [hm, show (60 : Int32) = nI 60 by decide]
                refine G_icmpne (tgt := 247) (nx := 245) ⟨dX12_faultOf_242, rfl⟩ rfl (fun c_242 => ?_) (fun c_242 => ?_)
                · rw [nI_eq (by omega) (by omega)] at c_242
                  have him := in60 (p := s.m) (by omega)
                  have ecm := cl_nI (p := s.m) (by omega)
                  refine G_aload_0 (nx := 248) ⟨dX12_faultOf_247, rfl⟩ ?_
                  refine G_getr (nx := 251) (k := 75) (r := 92) ⟨dX12_faultOf_248, rfl⟩ fX12_62 q_75 yr_12_31 (r_75_31 _) ?_
                  refine G_aload_0 (nx := 252) ⟨dX12_faultOf_251, rfl⟩ ?_
                  refine G_geti (nx := 255) (k := 75) ⟨dX12_faultOf_252, rfl⟩ fX12_298 q_75 yi_12_30 ?_
                  rw [hm]
                  refine G_iconst (nx := 256) ⟨dX12_faultOf_255, rfl⟩ ci_0 ?_
                  refine G_iast (nx := 257) (k := 92) ⟨dX12_faultOf_256, rfl⟩ q_92 (by first | assumption | decide | (unfold vp_in; decide)) ?_
                  rw [ecm]
                  refine G_aload_0 (nx := 258) ⟨dX12_faultOf_257, rfl⟩ ?_
                  refine G_getr (nx := 261) (k := 75) (r := 93) ⟨dX12_faultOf_258, rfl⟩ fX12_65 q_75 yr_12_32 (r_75_32 _) ?_
                  refine G_aload_0 (nx := 262) ⟨dX12_faultOf_261, rfl⟩ ?_
                  refine G_geti (nx := 265) (k := 75) ⟨dX12_faultOf_262, rfl⟩ fX12_298 q_75 yi_12_30 ?_
                  rw [w2_row _ _ _ _ (show ¬ 75 = 92 by decide), hm]
                  refine G_iconst (nx := 266) ⟨dX12_faultOf_265, rfl⟩ ci_1 ?_
                  refine G_iast (nx := 267) (k := 93) ⟨dX12_faultOf_266, rfl⟩ q_93 (by first | assumption | decide | (unfold vp_in; decide)) ?_
                  rw [ecm]
                  refine G_aload_0 (nx := 268) ⟨dX12_faultOf_267, rfl⟩ ?_
                  refine G_getr (nx := 271) (k := 75) (r := 94) ⟨dX12_faultOf_268, rfl⟩ fX12_68 q_75 yr_12_33 (r_75_33 _) ?_
                  refine G_aload_0 (nx := 272) ⟨dX12_faultOf_271, rfl⟩ ?_
                  refine G_geti (nx := 275) (k := 75) ⟨dX12_faultOf_272, rfl⟩ fX12_298 q_75 yi_12_30 ?_
                  rw [w2_row _ _ _ _ (show ¬ 75 = 93 by decide), w2_row _ _ _ _ (show ¬ 75 = 92 by decide), hm]
                  refine G_iload_2 (nx := 276) ⟨dX12_faultOf_275, rfl⟩ ?_
                  refine G_iast (nx := 277) (k := 94) ⟨dX12_faultOf_276, rfl⟩ q_94 (by first | assumption | decide | (unfold vp_in; decide)) ?_
                  rw [ecm]
                  refine G_aload_0 (nx := 278) ⟨dX12_faultOf_277, rfl⟩ ?_
                  refine G_geti (nx := 281) (k := 75) ⟨dX12_faultOf_278, rfl⟩ fX12_298 q_75 yi_12_30 ?_
                  rw [w2_row _ _ _ _ (show ¬ 75 = 94 by decide), w2_row _ _ _ _ (show ¬ 75 = 93 by decide), w2_row _ _ _ _ (show ¬ 75 = 92 by decide), hm]
                  refine G_istore_2 (nx := 282) ⟨dX12_faultOf_281, rfl⟩ rfl rfl ?_
                  refine G_aload_0 (nx := 283) ⟨dX12_faultOf_282, rfl⟩ ?_
                  refine G_dup (nx := 284) ⟨dX12_faultOf_283, rfl⟩ rfl ?_
                  refine G_geti (nx := 287) (k := 75) ⟨dX12_faultOf_284, rfl⟩ fX12_298 q_75 yi_12_30 ?_
                  rw [w2_row _ _ _ _ (show ¬ 75 = 94 by decide), w2_row _ _ _ _ (show ¬ 75 = 93 by decide), w2_row _ _ _ _ (show ¬ 75 = 92 by decide), hm]
                  refine G_iconst (nx := 288) ⟨dX12_faultOf_287, rfl⟩ ci_1 ?_
                  refine G_iadd (nx := 289) ⟨dX12_faultOf_288, rfl⟩ ?_
                  refine G_puti (nx := 292) (k := 75) ⟨dX12_faultOf_289, rfl⟩ pX12_298 q_75 yt_12_30 ?_
                  refine G_iinc_3 (nx := 295) ⟨dX12_faultOf_292, rfl⟩ ci_1 rfl ?_
                  refine G_iconst (nx := 296) ⟨dX12_faultOf_295, rfl⟩ ci_2 ?_
                  refine G_istore_4 (nx := 298) ⟨dX12_faultOf_296, rfl⟩ rfl rfl ?_
                  refine G_iinc_5 (nx := 301) ⟨dX12_faultOf_298, rfl⟩ ci_1 rfl ?_
                  refine G_goto (tgt := 342) ⟨dX12_faultOf_301, rfl⟩ rfl ?_
                  refine G_iload_5 (nx := 344) ⟨dX12_faultOf_342, rfl⟩ ?_
                  refine G_istore_1 (nx := 345) ⟨dX12_faultOf_344, rfl⟩ rfl rfl ?_
                  refine G_goto (tgt := 14) ⟨dX12_faultOf_345, rfl⟩ rfl ?_
                  rw [nI_0iff (by omega)] at c_220
                  rw [if_neg c_37, if_neg c_69, if_neg c_138] at hN
                  rw [if_pos c_216] at hN
                  refine G_LI (by rw [nI_1, nI_1]; rfl) rfl (hN (P + 1, nI s.m, s.dp + 1, 2, s.m + 1, upd s.ks s.m 0, upd s.ws s.m 1, upd s.is s.m s.at0) _ (.int (nI (P + 1))) (if_neg (fun h => h.elim (fun h => c_220 h.1) (fun h => h.elim c_233 c_242))) rfl (by show s.p < P + 1; omega) ⟨hPlt, by show s.m + 1 ≤ 60; omega, by show s.dp + 1 ≤ 20; omega, ⟨s.m, rfl, by show s.m < s.m + 1; omega, by show CH (upd s.is s.m s.at0) (s.m + 1) s.dp (upd s.is s.m s.at0 s.m); rw [show upd s.is s.m s.at0 s.m = s.at0 by simp [upd]]; exact CH_up _ _ hC⟩, fun _ => by show 1 ≤ s.dp + 1; omega, by show 2 ≤ 2; omega⟩ ⟨?_, ?_, ?_, ?_⟩ ((((hs1.w rfl).w rfl).w rfl).w rfl))
                  · rw [w2_at, nI_1]
                  · rw [w2_row _ _ _ _ (show ¬ 92 = 75 by decide), w2_row _ _ _ _ (show ¬ 92 = 94 by decide), w2_row _ _ _ _ (show ¬ 92 = 93 by decide), ← w2_upd, h92]
                  · rw [w2_row _ _ _ _ (show ¬ 93 = 75 by decide), w2_row _ _ _ _ (show ¬ 93 = 94 by decide), ← w2_upd, w2_row _ _ _ _ (show ¬ 93 = 92 by decide), h93]
                  · rw [w2_row _ _ _ _ (show ¬ 94 = 75 by decide), ← w2_upd, w2_row _ _ _ _ (show ¬ 94 = 93 by decide), w2_row _ _ _ _ (show ¬ 94 = 92 by decide), h94]
                · refine G_iload_1 (nx := 246) ⟨dX12_faultOf_245, rfl⟩ ?_
                  refine G_iret ⟨dX12_faultOf_246, rfl⟩ rfl ?_
                  rw [nI_eq (by omega) (by omega)] at c_242
                  rw [if_neg c_37, if_neg c_69] at hF
                  rw [if_neg c_138] at hF
                  rw [if_pos c_216] at hF
                  exact hF _ (if_pos (Or.inr (Or.inr c_242)))
            · rw [nI_0iff (by omega)] at c_220
              refine G_aload_0 (nx := 224) ⟨dX12_faultOf_223, rfl⟩ ?_
              refine G_geti (nx := 227) (k := 75) ⟨dX12_faultOf_224, rfl⟩ fX12_298 q_75 yi_12_30 ?_
              rw [hm]
              refine G_ifgt (tgt := 245) (nx := 230) ⟨dX12_faultOf_227, rfl⟩ rfl (fun c_227 => ?_) (fun c_227 => ?_)
              · refine G_iload_1 (nx := 246) ⟨dX12_faultOf_245, rfl⟩ ?_
                refine G_iret ⟨dX12_faultOf_246, rfl⟩ rfl ?_
                rw [← nI_0, nI_lt_iff (by omega) (by omega)] at c_227
                rw [if_neg c_37, if_neg c_69] at hF
                rw [if_neg c_138] at hF
                rw [if_pos c_216] at hF
                exact hF _ (if_pos (Or.inl ⟨c_220, by omega⟩))
              · refine G_iload_3 (nx := 231) ⟨dX12_faultOf_230, rfl⟩ ?_
                refine G_bipush (nx := 233) ⟨dX12_faultOf_231, rfl⟩ cb_20 ?_
                rw [show (20 : Int32) = nI 20 by decide]
                refine G_icmpeq (tgt := 245) (nx := 236) ⟨dX12_faultOf_233, rfl⟩ rfl (fun c_233 => ?_) (fun c_233 => ?_)
                · refine G_iload_1 (nx := 246) ⟨dX12_faultOf_245, rfl⟩ ?_
                  refine G_iret ⟨dX12_faultOf_246, rfl⟩ rfl ?_
                  rw [nI_eq (by omega) (by omega)] at c_233
                  rw [if_neg c_37, if_neg c_69] at hF
                  rw [if_neg c_138] at hF
                  rw [if_pos c_216] at hF
                  exact hF _ (if_pos (Or.inr (Or.inl c_233)))
                · rw [nI_eq (by omega) (by omega)] at c_233
                  refine G_aload_0 (nx := 237) ⟨dX12_faultOf_236, rfl⟩ ?_
                  refine G_geti (nx := 240) (k := 75) ⟨dX12_faultOf_237, rfl⟩ fX12_298 q_75 yi_12_30 ?_
                  refine G_bipush (nx := 242) ⟨dX12_faultOf_240, rfl⟩ cb_60 ?_
                  rw [hm, show (60 : Int32) = nI 60 by decide]
                  refine G_icmpne (tgt := 247) (nx := 245) ⟨dX12_faultOf_242, rfl⟩ rfl (fun c_242 => ?_) (fun c_242 => ?_)
                  · rw [nI_eq (by omega) (by omega)] at c_242
                    have him := in60 (p := s.m) (by omega)
                    have ecm := cl_nI (p := s.m) (by omega)
                    refine G_aload_0 (nx := 248) ⟨dX12_faultOf_247, rfl⟩ ?_
                    refine G_getr (nx := 251) (k := 75) (r := 92) ⟨dX12_faultOf_248, rfl⟩ fX12_62 q_75 yr_12_31 (r_75_31 _) ?_
                    refine G_aload_0 (nx := 252) ⟨dX12_faultOf_251, rfl⟩ ?_
                    refine G_geti (nx := 255) (k := 75) ⟨dX12_faultOf_252, rfl⟩ fX12_298 q_75 yi_12_30 ?_
                    rw [hm]
                    refine G_iconst (nx := 256) ⟨dX12_faultOf_255, rfl⟩ ci_0 ?_
                    refine G_iast (nx := 257) (k := 92) ⟨dX12_faultOf_256, rfl⟩ q_92 (by first | assumption | decide | (unfold vp_in; decide)) ?_
                    rw [ecm]
                    refine G_aload_0 (nx := 258) ⟨dX12_faultOf_257, rfl⟩ ?_
                    refine G_getr (nx := 261) (k := 75) (r := 93) ⟨dX12_faultOf_258, rfl⟩ fX12_65 q_75 yr_12_32 (r_75_32 _) ?_
                    refine G_aload_0 (nx := 262) ⟨dX12_faultOf_261, rfl⟩ ?_
                    refine G_geti (nx := 265) (k := 75) ⟨dX12_faultOf_262, rfl⟩ fX12_298 q_75 yi_12_30 ?_
                    rw [w2_row _ _ _ _ (show ¬ 75 = 92 by decide), hm]
                    refine G_iconst (nx := 266) ⟨dX12_faultOf_265, rfl⟩ ci_1 ?_
                    refine G_iast (nx := 267) (k := 93) ⟨dX12_faultOf_266, rfl⟩ q_93 (by first | assumption | decide | (unfold vp_in; decide)) ?_
                    rw [ecm]
                    refine G_aload_0 (nx := 268) ⟨dX12_faultOf_267, rfl⟩ ?_
                    refine G_getr (nx := 271) (k := 75) (r := 94) ⟨dX12_faultOf_268, rfl⟩ fX12_68 q_75 yr_12_33 (r_75_33 _) ?_
                    refine G_aload_0 (nx := 272) ⟨dX12_faultOf_271, rfl⟩ ?_
                    refine G_geti (nx := 275) (k := 75) ⟨dX12_faultOf_272, rfl⟩ fX12_298 q_75 yi_12_30 ?_
                    rw [w2_row _ _ _ _ (show ¬ 75 = 93 by decide), w2_row _ _ _ _ (show ¬ 75 = 92 by decide), hm]
                    refine G_iload_2 (nx := 276) ⟨dX12_faultOf_275, rfl⟩ ?_
                    refine G_iast (nx := 277) (k := 94) ⟨dX12_faultOf_276, rfl⟩ q_94 (by first | assumption | decide | (unfold vp_in; decide)) ?_
                    rw [ecm]
                    refine G_aload_0 (nx := 278) ⟨dX12_faultOf_277, rfl⟩ ?_
                    refine G_geti (nx := 281) (k := 75) ⟨dX12_faultOf_278, rfl⟩ fX12_298 q_75 yi_12_30 ?_
                    rw [w2_row _ _ _ _ (show ¬ 75 = 94 by decide), w2_row _ _ _ _ (show ¬ 75 = 93 by decide), w2_row _ _ _ _ (show ¬ 75 = 92 by decide), hm]
                    refine G_istore_2 (nx := 282) ⟨dX12_faultOf_281, rfl⟩ rfl rfl ?_
                    refine G_aload_0 (nx := 283) ⟨dX12_faultOf_282, rfl⟩ ?_
                    refine G_dup (nx := 284) ⟨dX12_faultOf_283, rfl⟩ rfl ?_
                    refine G_geti (nx := 287) (k := 75) ⟨dX12_faultOf_284, rfl⟩ fX12_298 q_75 yi_12_30 ?_
                    rw [w2_row _ _ _ _ (show ¬ 75 = 94 by decide), w2_row _ _ _ _ (show ¬ 75 = 93 by decide), w2_row _ _ _ _ (show ¬ 75 = 92 by decide), hm]
                    refine G_iconst (nx := 288) ⟨dX12_faultOf_287, rfl⟩ ci_1 ?_
                    refine G_iadd (nx := 289) ⟨dX12_faultOf_288, rfl⟩ ?_
                    refine G_puti (nx := 292) (k := 75) ⟨dX12_faultOf_289, rfl⟩ pX12_298 q_75 yt_12_30 ?_
                    refine G_iinc_3 (nx := 295) ⟨dX12_faultOf_292, rfl⟩ ci_1 rfl ?_
                    refine G_iconst (nx := 296) ⟨dX12_faultOf_295, rfl⟩ ci_2 ?_
                    refine G_istore_4 (nx := 298) ⟨dX12_faultOf_296, rfl⟩ rfl rfl ?_
                    refine G_iinc_5 (nx := 301) ⟨dX12_faultOf_298, rfl⟩ ci_1 rfl ?_
                    refine G_goto (tgt := 342) ⟨dX12_faultOf_301, rfl⟩ rfl ?_
                    refine G_iload_5 (nx := 344) ⟨dX12_faultOf_342, rfl⟩ ?_
                    refine G_istore_1 (nx := 345) ⟨dX12_faultOf_344, rfl⟩ rfl rfl ?_
                    refine G_goto (tgt := 14) ⟨dX12_faultOf_345, rfl⟩ rfl ?_
                    rw [← nI_0, nI_lt_iff (by omega) (by omega)] at c_227
                    rw [if_neg c_37, if_neg c_69, if_neg c_138] at hN
                    rw [if_pos c_216] at hN
                    refine G_LI (by rw [nI_1, nI_1]; rfl) rfl (hN (P + 1, nI s.m, s.dp + 1, 2, s.m + 1, upd s.ks s.m 0, upd s.ws s.m 1, upd s.is s.m s.at0) _ (.int (nI (P + 1))) (if_neg (fun h => h.elim (fun h => c_227 h.2) (fun h => h.elim c_233 c_242))) rfl (by show s.p < P + 1; omega) ⟨hPlt, by show s.m + 1 ≤ 60; omega, by show s.dp + 1 ≤ 20; omega, ⟨s.m, rfl, by show s.m < s.m + 1; omega, by show CH (upd s.is s.m s.at0) (s.m + 1) s.dp (upd s.is s.m s.at0 s.m); rw [show upd s.is s.m s.at0 s.m = s.at0 by simp [upd]]; exact CH_up _ _ hC⟩, fun _ => by show 1 ≤ s.dp + 1; omega, by show 2 ≤ 2; omega⟩ ⟨?_, ?_, ?_, ?_⟩ ((((hs1.w rfl).w rfl).w rfl).w rfl))
                    · rw [w2_at, nI_1]
                    · rw [w2_row _ _ _ _ (show ¬ 92 = 75 by decide), w2_row _ _ _ _ (show ¬ 92 = 94 by decide), w2_row _ _ _ _ (show ¬ 92 = 93 by decide), ← w2_upd, h92]
                    · rw [w2_row _ _ _ _ (show ¬ 93 = 75 by decide), w2_row _ _ _ _ (show ¬ 93 = 94 by decide), ← w2_upd, w2_row _ _ _ _ (show ¬ 93 = 92 by decide), h93]
                    · rw [w2_row _ _ _ _ (show ¬ 94 = 75 by decide), ← w2_upd, w2_row _ _ _ _ (show ¬ 94 = 93 by decide), w2_row _ _ _ _ (show ¬ 94 = 92 by decide), h94]
                  · refine G_iload_1 (nx := 246) ⟨dX12_faultOf_245, rfl⟩ ?_
                    refine G_iret ⟨dX12_faultOf_246, rfl⟩ rfl ?_
                    rw [nI_eq (by omega) (by omega)] at c_242
                    rw [if_neg c_37, if_neg c_69] at hF
                    rw [if_neg c_138] at hF
                    rw [if_pos c_216] at hF
                    exact hF _ (if_pos (Or.inr (Or.inr c_242)))
        · rw [bi_n0, htp1, decide_eq_true hPlt, Bool.true_and] at c_138
          have hPQ := rn_ge tp t 48 57 (t - P) P
          have hQ1 := rn_le tp t 48 57 (t - P) P hPle
          have hQ3 := rn_gt hPlt c_138
          refine lM_dig ht1 ht2 htp1 _ P rfl hPle ?_
          rw [if_neg c_37, if_neg c_69, if_pos c_138] at hN
          revert hF hN hPQ hQ1 hQ3
          generalize rn tp t 48 57 (t - P) P = Q
          intro hF hN hPQ hQ1 hQ3
          have hQ2 : Q ≤ 200 := by omega
          refine G_iload_4 (nx := 162) ⟨dX12_faultOf_160, rfl⟩ ?_
          refine G_iconst (nx := 163) ⟨dX12_faultOf_162, rfl⟩ ci_1 ?_
          rw [show (1 : Int32) = nI 1 by decide]
          refine G_icmplt (tgt := 185) (nx := 166) ⟨dX12_faultOf_163, rfl⟩ rfl (fun c_163 => ?_) (fun c_163 => ?_)
          · refine G_iload_1 (nx := 186) ⟨dX12_faultOf_185, rfl⟩ ?_
            refine G_iret ⟨dX12_faultOf_186, rfl⟩ rfl ?_
            rw [nI_lt_iff (by omega) (by omega)] at c_163
            rw [if_neg c_37, if_neg c_69] at hF
            rw [if_pos c_138] at hF
            exact hF _ (if_pos (Or.inl c_163))
          · rw [nI_lt_iff (by omega) (by omega)] at c_163
            refine G_iload_5 (nx := 168) ⟨dX12_faultOf_166, rfl⟩ ?_
            refine G_iload_1 (nx := 169) ⟨dX12_faultOf_168, rfl⟩ ?_
            refine G_isub (nx := 170) ⟨dX12_faultOf_169, rfl⟩ ?_
            refine G_iconst (nx := 171) ⟨dX12_faultOf_170, rfl⟩ ci_1 ?_
            rw [nI_sub hPQ, show (1 : Int32) = nI 1 by decide]
            refine G_icmpgt (tgt := 185) (nx := 174) ⟨dX12_faultOf_171, rfl⟩ rfl (fun c_171 => ?_) (fun c_171 => ?_)
            · refine G_iload_1 (nx := 186) ⟨dX12_faultOf_185, rfl⟩ ?_
              refine G_iret ⟨dX12_faultOf_186, rfl⟩ rfl ?_
              rw [nI_lt_iff (by omega) (by omega)] at c_171
              rw [if_neg c_37, if_neg c_69] at hF
              rw [if_pos c_138] at hF
              exact hF _ (if_pos (Or.inr (Or.inl c_171)))
            · rw [nI_lt_iff (by omega) (by omega)] at c_171
              refine G_aload_0 (nx := 175) ⟨dX12_faultOf_174, rfl⟩ ?_
              refine G_getr (nx := 178) (k := 75) (r := 88) ⟨dX12_faultOf_175, rfl⟩ fX12_50 q_75 yr_12_24 (r_75_24 _) ?_
              refine G_iload_1 (nx := 179) ⟨dX12_faultOf_178, rfl⟩ ?_
              refine G_iald (nx := 180) (k := 88) ⟨dX12_faultOf_179, rfl⟩ q_88 (by first | assumption | decide | (unfold vp_in; decide)) ?_
              rw [ecP, htp1]
              refine G_bipush (nx := 182) ⟨dX12_faultOf_180, rfl⟩ cb_48 ?_
              refine G_icmpne (tgt := 187) (nx := 185) ⟨dX12_faultOf_182, rfl⟩ rfl (fun c_182 => ?_) (fun c_182 => ?_)
              · obtain ⟨a, ea, ham, hCa⟩ := CH_ex hC (hld (by omega))
                have hia : vp_in s.at0 60 := by rw [ea]; exact in60 (by omega)
                have eca : s.at0.toNatClampNeg = a := by rw [ea]; exact cl_nI (by omega)
                refine G_aload_0 (nx := 188) ⟨dX12_faultOf_187, rfl⟩ ?_
                refine G_getr (nx := 191) (k := 75) (r := 93) ⟨dX12_faultOf_188, rfl⟩ fX12_65 q_75 yr_12_32 (r_75_32 _) ?_
                refine G_iload_2 (nx := 192) ⟨dX12_faultOf_191, rfl⟩ ?_
                refine G_aload_0 (nx := 193) ⟨dX12_faultOf_192, rfl⟩ ?_
                refine G_getr (nx := 196) (k := 75) (r := 88) ⟨dX12_faultOf_193, rfl⟩ fX12_50 q_75 yr_12_24 (r_75_24 _) ?_
                refine G_iload_1 (nx := 197) ⟨dX12_faultOf_196, rfl⟩ ?_
                refine G_iald (nx := 198) (k := 88) ⟨dX12_faultOf_197, rfl⟩ q_88 (by first | assumption | decide | (unfold vp_in; decide)) ?_
                rw [ecP, htp1]
                refine G_bipush (nx := 200) ⟨dX12_faultOf_198, rfl⟩ cb_48 ?_
                refine G_isub (nx := 201) ⟨dX12_faultOf_200, rfl⟩ ?_
                refine G_iast (nx := 202) (k := 93) ⟨dX12_faultOf_201, rfl⟩ q_93 (by first | assumption | decide | (unfold vp_in; decide)) ?_
                refine G_iconst (nx := 203) ⟨dX12_faultOf_202, rfl⟩ ci_0 ?_
                refine G_istore_4 (nx := 205) ⟨dX12_faultOf_203, rfl⟩ rfl rfl ?_
                refine G_goto (tgt := 342) ⟨dX12_faultOf_205, rfl⟩ rfl ?_
                refine G_iload_5 (nx := 344) ⟨dX12_faultOf_342, rfl⟩ ?_
                refine G_istore_1 (nx := 345) ⟨dX12_faultOf_344, rfl⟩ rfl rfl ?_
                refine G_goto (tgt := 14) ⟨dX12_faultOf_345, rfl⟩ rfl ?_
                refine hN (Q, s.at0, s.dp, 0, s.m, s.ks, upd s.ws s.at0.toNatClampNeg (tp P - 48), s.is) _ _ (if_neg (fun h => h.elim c_163 (fun h => h.elim c_171 c_182))) rfl (by show s.p < Q; omega) ⟨hQ1, hm60, hd20, hC, fun h => absurd h (by show ¬ 1 ≤ 0; omega), by show 0 ≤ 2; omega⟩ ⟨?_, ?_, ?_, ?_⟩ (hs1.w rfl)
                · rw [w2_row _ _ _ _ (show ¬ 75 = 93 by decide)]; exact hm
                · rw [w2_row _ _ _ _ (show ¬ 92 = 93 by decide)]; exact h92
                · rw [← w2_upd, h93]
                · rw [w2_row _ _ _ _ (show ¬ 94 = 93 by decide)]; exact h94
              · refine G_iload_1 (nx := 186) ⟨dX12_faultOf_185, rfl⟩ ?_
                refine G_iret ⟨dX12_faultOf_186, rfl⟩ rfl ?_
                rw [if_neg c_37, if_neg c_69] at hF
                rw [if_pos c_138] at hF
                exact hF _ (if_pos (Or.inr (Or.inr c_182)))
          
      · rw [bi_n0, htp1, decide_eq_true hPlt, Bool.true_and] at c_69
        have hPQ := rn_ge tp t 97 122 (t - P) P
        have hQ1 := rn_le tp t 97 122 (t - P) P hPle
        have hQ3 := rn_gt hPlt c_69
        refine lM_let ht1 ht2 htp1 _ P rfl hPle ?_
        rw [if_neg c_37, if_pos c_69] at hN
        revert hF hN hPQ hQ1 hQ3
        generalize rn tp t 97 122 (t - P) P = Q
        intro hF hN hPQ hQ1 hQ3
        have hQ2 : Q ≤ 200 := by omega
        refine G_iload_4 (nx := 93) ⟨dX12_faultOf_91, rfl⟩ ?_
        refine G_iconst (nx := 94) ⟨dX12_faultOf_93, rfl⟩ ci_2 ?_
        rw [show (2 : Int32) = nI 2 by decide]
        refine G_icmplt (tgt := 108) (nx := 97) ⟨dX12_faultOf_94, rfl⟩ rfl (fun c_94 => ?_) (fun c_94 => ?_)
        · refine G_iload_1 (nx := 109) ⟨dX12_faultOf_108, rfl⟩ ?_
          refine G_iret ⟨dX12_faultOf_109, rfl⟩ rfl ?_
          rw [nI_lt_iff (by omega) (by omega)] at c_94
          rw [if_neg c_37, if_pos c_69] at hF
          exact hF _ (if_pos (Or.inl c_94))
        · rw [nI_lt_iff (by omega) (by omega)] at c_94
          refine G_aload_0 (nx := 98) ⟨dX12_faultOf_97, rfl⟩ ?_
          refine G_iload_1 (nx := 99) ⟨dX12_faultOf_98, rfl⟩ ?_
          refine G_iload_5 (nx := 101) ⟨dX12_faultOf_99, rfl⟩ ?_
          refine G_cv2 (nx := 104) ⟨dX12_faultOf_101, rfl⟩ kX12_304 rfl q_75 rfl (Nat.le_of_ble_eq_true rfl) (Nat.le_of_ble_eq_true rfl) (cM_kindOf hQ2 hPQ ?_)
          rw [htp1]
          refine G_iconst (nx := 105) ⟨dX12_faultOf_104, rfl⟩ ci_m1 ?_
          refine G_icmpne (tgt := 110) (nx := 108) ⟨dX12_faultOf_105, rfl⟩ rfl (fun c_105 => ?_) (fun c_105 => ?_)
          · obtain ⟨a, ea, ham, hCa⟩ := CH_ex hC (hld (by omega))
            have hia : vp_in s.at0 60 := by rw [ea]; exact in60 (by omega)
            have eca : s.at0.toNatClampNeg = a := by rw [ea]; exact cl_nI (by omega)
            refine G_aload_0 (nx := 111) ⟨dX12_faultOf_110, rfl⟩ ?_
            refine G_getr (nx := 114) (k := 75) (r := 92) ⟨dX12_faultOf_111, rfl⟩ fX12_62 q_75 yr_12_31 (r_75_31 _) ?_
            refine G_iload_2 (nx := 115) ⟨dX12_faultOf_114, rfl⟩ ?_
            refine G_aload_0 (nx := 116) ⟨dX12_faultOf_115, rfl⟩ ?_
            refine G_iload_1 (nx := 117) ⟨dX12_faultOf_116, rfl⟩ ?_
            refine G_iload_5 (nx := 119) ⟨dX12_faultOf_117, rfl⟩ ?_
            refine G_cv2 (nx := 122) ⟨dX12_faultOf_119, rfl⟩ kX12_304 rfl q_75 rfl (Nat.le_of_ble_eq_true rfl) (Nat.le_of_ble_eq_true rfl) (cM_kindOf hQ2 hPQ ?_)
            rw [htp1]
            refine G_iast (nx := 123) (k := 92) ⟨dX12_faultOf_122, rfl⟩ q_92 (by first | assumption | decide | (unfold vp_in; decide)) ?_
            refine G_iconst (nx := 124) ⟨dX12_faultOf_123, rfl⟩ ci_1 ?_
            refine G_istore_4 (nx := 126) ⟨dX12_faultOf_124, rfl⟩ rfl rfl ?_
            refine G_goto (tgt := 342) ⟨dX12_faultOf_126, rfl⟩ rfl ?_
            refine G_iload_5 (nx := 344) ⟨dX12_faultOf_342, rfl⟩ ?_
            refine G_istore_1 (nx := 345) ⟨dX12_faultOf_344, rfl⟩ rfl rfl ?_
            refine G_goto (tgt := 14) ⟨dX12_faultOf_345, rfl⟩ rfl ?_
            refine hN (Q, s.at0, s.dp, 1, s.m, upd s.ks s.at0.toNatClampNeg (kdI tp P Q), s.ws, s.is) _ _ (if_neg (fun h => h.elim c_94 c_105)) rfl (by show s.p < Q; omega) ⟨hQ1, hm60, hd20, hC, fun _ => hld (by omega), by show 1 ≤ 2; omega⟩ ⟨?_, ?_, ?_, ?_⟩ (hs1.w rfl)
            · rw [w2_row _ _ _ _ (show ¬ 75 = 92 by decide)]; exact hm
            · rw [← w2_upd, h92]
            · rw [w2_row _ _ _ _ (show ¬ 93 = 92 by decide)]; exact h93
            · rw [w2_row _ _ _ _ (show ¬ 94 = 92 by decide)]; exact h94
          · refine G_iload_1 (nx := 109) ⟨dX12_faultOf_108, rfl⟩ ?_
            refine G_iret ⟨dX12_faultOf_109, rfl⟩ rfl ?_
            rw [if_neg c_37, if_pos c_69] at hF
            exact hF _ (if_pos (Or.inr c_105))
        
    · rw [nI_eq (by omega) (by omega)] at c_37
      refine G_aload_0 (nx := 41) ⟨dX12_faultOf_40, rfl⟩ ?_
      refine G_geti (nx := 44) (k := 75) ⟨dX12_faultOf_41, rfl⟩ fX12_298 q_75 yi_12_30 ?_
      rw [hm]
      refine G_ifle (tgt := 55) (nx := 47) ⟨dX12_faultOf_44, rfl⟩ rfl (fun c_44 => ?_) (fun c_44 => ?_)
      · refine G_iload_1 (nx := 56) ⟨dX12_faultOf_55, rfl⟩ ?_
        refine G_iret ⟨dX12_faultOf_56, rfl⟩ rfl ?_
        rw [← nI_0, nI_le_iff (by omega) (by omega)] at c_44
        rw [if_pos c_37] at hF
        exact K_v (by rw [if_neg (by omega), c_37]) (hF _ rfl)
      · rw [← nI_0, nI_le_iff (by omega) (by omega)] at c_44
        refine G_iload_3 (nx := 48) ⟨dX12_faultOf_47, rfl⟩ ?_
        refine G_ifne (tgt := 55) (nx := 51) ⟨dX12_faultOf_48, rfl⟩ rfl (fun c_48 => ?_) (fun c_48 => ?_)
        · refine G_iload_1 (nx := 56) ⟨dX12_faultOf_55, rfl⟩ ?_
          refine G_iret ⟨dX12_faultOf_56, rfl⟩ rfl ?_
          rw [nI_0iff (by omega)] at c_48
          rw [if_pos c_37] at hF
          exact K_v (by rw [if_neg (by omega), c_37]) (hF _ rfl)
        · rw [nI_0iff (by omega)] at c_48
          refine G_iconst (nx := 52) ⟨dX12_faultOf_51, rfl⟩ ci_m1 ?_
          refine G_goto (tgt := 56) ⟨dX12_faultOf_52, rfl⟩ rfl ?_
          refine G_iret ⟨dX12_faultOf_56, rfl⟩ rfl ?_
          rw [if_pos c_37] at hF
          exact K_v (by rw [if_pos ⟨by omega, c_48⟩]) (hF _ rfl)

def tz (I : AI) : TS := (0, -1, 0, 0, 0, I 92, I 93, I 94)
theorem cM_faultOf {t : Nat} (ht : I 75 25 = nI t) (ht2 : t ≤ 200) (hk : ∀ (I' : AI), TV t (ft (I 88) t (t + 1) (tz I)).2 → HR I' (ft (I 88) t (t + 1) (tz I)).2 → sb fF I I' → K (.int (ft (I 88) t (t + 1) (tz I)).1) I' J (rX g)) : G l (d + 2) mX12_faultOf K 0 [.ref 75, UU, UU, UU, UU, UU] [] I J (rX g) := by
  refine G_iconst (nx := 1) ⟨dX12_faultOf_0, rfl⟩ ci_0 ?_
  refine G_istore_1 (nx := 2) ⟨dX12_faultOf_1, rfl⟩ rfl rfl ?_
  refine G_iconst (nx := 3) ⟨dX12_faultOf_2, rfl⟩ ci_m1 ?_
  refine G_istore_2 (nx := 4) ⟨dX12_faultOf_3, rfl⟩ rfl rfl ?_
  refine G_iconst (nx := 5) ⟨dX12_faultOf_4, rfl⟩ ci_0 ?_
  refine G_istore_3 (nx := 6) ⟨dX12_faultOf_5, rfl⟩ rfl rfl ?_
  refine G_iconst (nx := 7) ⟨dX12_faultOf_6, rfl⟩ ci_0 ?_
  refine G_istore_4 (nx := 9) ⟨dX12_faultOf_7, rfl⟩ rfl rfl ?_
  refine G_aload_0 (nx := 10) ⟨dX12_faultOf_9, rfl⟩ ?_
  refine G_iconst (nx := 11) ⟨dX12_faultOf_10, rfl⟩ ci_0 ?_
  refine G_puti (nx := 14) (k := 75) ⟨dX12_faultOf_11, rfl⟩ pX12_298 q_75 yt_12_30 ?_
  exact G_L (by rw [← nI_0]; rfl) (lM_fault ht ht2 rfl (t + 1) (tz I) _ UU rfl (by show t - 0 < t + 1; omega) ⟨Nat.zero_le _, Nat.zero_le _, Nat.zero_le _, rfl, fun h => h, Nat.zero_le _⟩ ⟨by rw [w2_at, ← nI_0]; rfl, by rw [w2_row _ _ _ _ (show ¬ 92 = 75 by decide)]; rfl, by rw [w2_row _ _ _ _ (show ¬ 93 = 75 by decide)]; rfl, by rw [w2_row _ _ _ _ (show ¬ 94 = 75 by decide)]; rfl⟩ (sb.rf.w rfl) hk)

def fX (a b : Nat) : Bool := fF a b || (a == 75 && (b == 25 || b == 26)) || a == 89 || a == 90 || a == 91
theorem lM_text {s : TS} (hm60 : s.m ≤ 60) {r : Int32} (hk : ∀ (I' : AI), (∀ j, j < s.m → I' 89 j = s.ks j ∧ I' 90 j = s.ws j ∧ I' 91 j = s.is j) → I' 75 25 = 0 → I' 75 26 = nI s.m → sb fX I I' → K (.int (nI s.m)) I' J (rX g)) : ∀ (k i : Nat) (I1 : AI), s.m - i = k → i ≤ s.m → (∀ j, j < i → I1 89 j = s.ks j ∧ I1 90 j = s.ws j ∧ I1 91 j = s.is j) → HR I1 s → I1 75 25 = 0 → I1 75 26 = nI s.m → sb fX I I1 → G l d mX12_text K 30 [.ref 75, .int r, .int (nI i)] [] I1 J (rX g) := by
  intro k
  induction k using Nat.strongRecOn with
  | _ k ih =>
  intro i I1 hik him hb hH h25 h26 hs1
  obtain ⟨hm, h92, h93, h94⟩ := hH
  have eci := cl_nI (p := i) (by omega)
  refine G_iload_2 (nx := 31) ⟨dX12_text_30, rfl⟩ ?_
  refine G_aload_0 (nx := 32) ⟨dX12_text_31, rfl⟩ ?_
  refine G_geti (nx := 35) (k := 75) ⟨dX12_text_32, rfl⟩ fX12_165 q_75 yi_12_26 ?_
  rw [h26]
  refine G_icmpge (tgt := 80) (nx := 38) ⟨dX12_text_35, rfl⟩ rfl (fun c_35 => ?_) (fun c_35 => ?_)
  · refine G_aload_0 (nx := 81) ⟨dX12_text_80, rfl⟩ ?_
    refine G_geti (nx := 84) (k := 75) ⟨dX12_text_81, rfl⟩ fX12_165 q_75 yi_12_26 ?_
    rw [h26]
    refine G_iret ⟨dX12_text_84, rfl⟩ rfl ?_
    rw [nI_le_iff (by omega) (by omega)] at c_35
    have e : i = s.m := by omega
    subst e
    exact hk I1 hb h25 h26 hs1
  · rw [nI_le_iff (by omega) (by omega)] at c_35
    have hi60 := in60 (p := i) (by omega)
    refine G_aload_0 (nx := 39) ⟨dX12_text_38, rfl⟩ ?_
    refine G_getr (nx := 42) (k := 75) (r := 89) ⟨dX12_text_39, rfl⟩ fX12_53 q_75 yr_12_27 (r_75_27 _) ?_
    refine G_iload_2 (nx := 43) ⟨dX12_text_42, rfl⟩ ?_
    refine G_aload_0 (nx := 44) ⟨dX12_text_43, rfl⟩ ?_
    refine G_getr (nx := 47) (k := 75) (r := 92) ⟨dX12_text_44, rfl⟩ fX12_62 q_75 yr_12_31 (r_75_31 _) ?_
    refine G_iload_2 (nx := 48) ⟨dX12_text_47, rfl⟩ ?_
    refine G_iald (nx := 49) (k := 92) ⟨dX12_text_48, rfl⟩ q_92 (by first | assumption | decide | (unfold vp_in; decide)) ?_
    rw [eci, h92]
    refine G_iast (nx := 50) (k := 89) ⟨dX12_text_49, rfl⟩ q_89 (by first | assumption | decide | (unfold vp_in; decide)) ?_
    refine G_aload_0 (nx := 51) ⟨dX12_text_50, rfl⟩ ?_
    refine G_getr (nx := 54) (k := 75) (r := 90) ⟨dX12_text_51, rfl⟩ fX12_56 q_75 yr_12_28 (r_75_28 _) ?_
    refine G_iload_2 (nx := 55) ⟨dX12_text_54, rfl⟩ ?_
    refine G_aload_0 (nx := 56) ⟨dX12_text_55, rfl⟩ ?_
    refine G_getr (nx := 59) (k := 75) (r := 93) ⟨dX12_text_56, rfl⟩ fX12_65 q_75 yr_12_32 (r_75_32 _) ?_
    refine G_iload_2 (nx := 60) ⟨dX12_text_59, rfl⟩ ?_
    refine G_iald (nx := 61) (k := 93) ⟨dX12_text_60, rfl⟩ q_93 (by first | assumption | decide | (unfold vp_in; decide)) ?_
    rw [eci, w2_row _ _ _ _ (show ¬ 93 = 89 by decide), h93]
    refine G_iast (nx := 62) (k := 90) ⟨dX12_text_61, rfl⟩ q_90 (by first | assumption | decide | (unfold vp_in; decide)) ?_
    refine G_aload_0 (nx := 63) ⟨dX12_text_62, rfl⟩ ?_
    refine G_getr (nx := 66) (k := 75) (r := 91) ⟨dX12_text_63, rfl⟩ fX12_59 q_75 yr_12_29 (r_75_29 _) ?_
    refine G_iload_2 (nx := 67) ⟨dX12_text_66, rfl⟩ ?_
    refine G_aload_0 (nx := 68) ⟨dX12_text_67, rfl⟩ ?_
    refine G_getr (nx := 71) (k := 75) (r := 94) ⟨dX12_text_68, rfl⟩ fX12_68 q_75 yr_12_33 (r_75_33 _) ?_
    refine G_iload_2 (nx := 72) ⟨dX12_text_71, rfl⟩ ?_
    refine G_iald (nx := 73) (k := 94) ⟨dX12_text_72, rfl⟩ q_94 (by first | assumption | decide | (unfold vp_in; decide)) ?_
    rw [eci, w2_row _ _ _ _ (show ¬ 94 = 90 by decide), w2_row _ _ _ _ (show ¬ 94 = 89 by decide), h94]
    refine G_iast (nx := 74) (k := 91) ⟨dX12_text_73, rfl⟩ q_91 (by first | assumption | decide | (unfold vp_in; decide)) ?_
    rw [eci]
    refine G_iinc_2 (nx := 77) ⟨dX12_text_74, rfl⟩ ci_1 rfl ?_
    refine G_goto (tgt := 30) ⟨dX12_text_77, rfl⟩ rfl ?_
    refine G_L (by rw [nI_1]) (ih (s.m - (i + 1)) (by omega) (i + 1) _ rfl (by omega) (fun j hj => ?_) ⟨?_, ?_, ?_, ?_⟩ ?_ ?_ (((hs1.w rfl).w rfl).w rfl))
    · by_cases e : j = i
      · subst e
        exact ⟨by rw [w2_row _ _ _ _ (show ¬ 89 = 91 by decide), w2_row _ _ _ _ (show ¬ 89 = 90 by decide), w2_at], by rw [w2_row _ _ _ _ (show ¬ 90 = 91 by decide), w2_at], by rw [w2_at]⟩
      · have := hb j (by omega)
        exact ⟨by rw [w2_row _ _ _ _ (show ¬ 89 = 91 by decide), w2_row _ _ _ _ (show ¬ 89 = 90 by decide), w2_ne _ _ _ _ (by omega)]; exact this.1, by rw [w2_row _ _ _ _ (show ¬ 90 = 91 by decide), w2_ne _ _ _ _ (by omega), w2_row _ _ _ _ (show ¬ 90 = 89 by decide)]; exact this.2.1, by rw [w2_ne _ _ _ _ (by omega), w2_row _ _ _ _ (show ¬ 91 = 90 by decide), w2_row _ _ _ _ (show ¬ 91 = 89 by decide)]; exact this.2.2⟩
    · rw [w2_row _ _ _ _ (show ¬ 75 = 91 by decide), w2_row _ _ _ _ (show ¬ 75 = 90 by decide), w2_row _ _ _ _ (show ¬ 75 = 89 by decide)]; exact hm
    · rw [w2_row _ _ _ _ (show ¬ 92 = 91 by decide), w2_row _ _ _ _ (show ¬ 92 = 90 by decide), w2_row _ _ _ _ (show ¬ 92 = 89 by decide)]; exact h92
    · rw [w2_row _ _ _ _ (show ¬ 93 = 91 by decide), w2_row _ _ _ _ (show ¬ 93 = 90 by decide), w2_row _ _ _ _ (show ¬ 93 = 89 by decide)]; exact h93
    · rw [w2_row _ _ _ _ (show ¬ 94 = 91 by decide), w2_row _ _ _ _ (show ¬ 94 = 90 by decide), w2_row _ _ _ _ (show ¬ 94 = 89 by decide)]; exact h94
    · rw [w2_row _ _ _ _ (show ¬ 75 = 91 by decide), w2_row _ _ _ _ (show ¬ 75 = 90 by decide), w2_row _ _ _ _ (show ¬ 75 = 89 by decide)]; exact h25
    · rw [w2_row _ _ _ _ (show ¬ 75 = 91 by decide), w2_row _ _ _ _ (show ¬ 75 = 90 by decide), w2_row _ _ _ _ (show ¬ 75 = 89 by decide)]; exact h26

theorem cM_text {t : Nat} (ht : I 75 25 = nI t) (ht2 : t ≤ 200) (hk1 : ∀ (I' : AI), ¬ (ft (I 88) t (t + 1) (tz I)).1 = -1 → I' 75 25 = 0 → sb (fun a b => fF a b || (a == 75 && b == 25)) I I' → K (.int (-100 - (ft (I 88) t (t + 1) (tz I)).1)) I' J (rX g)) (hk : ∀ (I' : AI), (ft (I 88) t (t + 1) (tz I)).1 = -1 → TV t (ft (I 88) t (t + 1) (tz I)).2 → (∀ j, j < (ft (I 88) t (t + 1) (tz I)).2.m → I' 89 j = (ft (I 88) t (t + 1) (tz I)).2.ks j ∧ I' 90 j = (ft (I 88) t (t + 1) (tz I)).2.ws j ∧ I' 91 j = (ft (I 88) t (t + 1) (tz I)).2.is j) → I' 75 25 = 0 → I' 75 26 = nI (ft (I 88) t (t + 1) (tz I)).2.m → sb fX I I' → K (.int (nI (ft (I 88) t (t + 1) (tz I)).2.m)) I' J (rX g)) : G l (d + 3) mX12_text K 0 [.ref 75, UU, UU] [] I J (rX g) := by
  refine G_aload_0 (nx := 1) ⟨dX12_text_0, rfl⟩ ?_
  refine G_cv0 (nx := 4) ⟨dX12_text_1, rfl⟩ kX12_307 rfl q_75 rfl (Nat.le_of_ble_eq_true rfl) (Nat.le_of_ble_eq_true rfl) (cM_faultOf ht ht2 (fun I1 hV hH hs1 => ?_))
  refine G_istore_1 (nx := 5) ⟨dX12_text_4, rfl⟩ rfl rfl ?_
  refine G_aload_0 (nx := 6) ⟨dX12_text_5, rfl⟩ ?_
  refine G_iconst (nx := 7) ⟨dX12_text_6, rfl⟩ ci_0 ?_
  refine G_puti (nx := 10) (k := 75) ⟨dX12_text_7, rfl⟩ pX12_162 q_75 yt_12_25 ?_
  refine G_iload_1 (nx := 11) ⟨dX12_text_10, rfl⟩ ?_
  refine G_iconst (nx := 12) ⟨dX12_text_11, rfl⟩ ci_m1 ?_
  refine G_icmpeq (tgt := 20) (nx := 15) ⟨dX12_text_12, rfl⟩ rfl (fun c_12 => ?_) (fun c_12 => ?_)
  · refine G_aload_0 (nx := 21) ⟨dX12_text_20, rfl⟩ ?_
    refine G_aload_0 (nx := 22) ⟨dX12_text_21, rfl⟩ ?_
    refine G_geti (nx := 25) (k := 75) ⟨dX12_text_22, rfl⟩ fX12_298 q_75 yi_12_30 ?_
    rw [w2_ne _ _ _ _ (by decide), hH.1]
    refine G_puti (nx := 28) (k := 75) ⟨dX12_text_25, rfl⟩ pX12_165 q_75 yt_12_26 ?_
    refine G_iconst (nx := 29) ⟨dX12_text_28, rfl⟩ ci_0 ?_
    refine G_istore_2 (nx := 30) ⟨dX12_text_29, rfl⟩ rfl rfl ?_
    refine G_L (by rw [← nI_0]) (lM_text hV.2.1 (fun I2 h1 h2 h3 h4 => hk I2 c_12 hV h1 h2 h3 h4) _ 0 _ rfl (Nat.zero_le _) (fun j hj => absurd hj (by omega)) ⟨?_, ?_, ?_, ?_⟩ ?_ ?_ (((hs1.mono (fun a b h => ?_)).w rfl).w rfl))
    · rw [w2_ne _ _ _ _ (by decide), w2_ne _ _ _ _ (by decide)]; exact hH.1
    · rw [w2_row _ _ _ _ (show ¬ 92 = 75 by decide), w2_row _ _ _ _ (show ¬ 92 = 75 by decide)]; exact hH.2.1
    · rw [w2_row _ _ _ _ (show ¬ 93 = 75 by decide), w2_row _ _ _ _ (show ¬ 93 = 75 by decide)]; exact hH.2.2.1
    · rw [w2_row _ _ _ _ (show ¬ 94 = 75 by decide), w2_row _ _ _ _ (show ¬ 94 = 75 by decide)]; exact hH.2.2.2
    · rw [w2_ne _ _ _ _ (by decide), w2_at]
    · rw [w2_at]
    · unfold fX at h; simp only [Bool.or_eq_false_iff] at h; exact h.1.1.1.1
  · refine G_bipush (nx := 17) ⟨dX12_text_15, rfl⟩ cb_m100 ?_
    refine G_iload_1 (nx := 18) ⟨dX12_text_17, rfl⟩ ?_
    refine G_isub (nx := 19) ⟨dX12_text_18, rfl⟩ ?_
    refine G_iret ⟨dX12_text_19, rfl⟩ rfl ?_
    exact hk1 _ c_12 (w2_at _ _ _ _) ((hs1.mono (fun a b h => by simp only [Bool.or_eq_false_iff] at h; exact h.1)).w (by rfl))

end M34
