def rfc (t : List ND) : Nat := t.countP (fun x => x.2.2.2.2.2)
def dpm (t : List ND) : Nat := t.foldl (fun a x => if a < x.2.2.2.2.1 then x.2.2.2.2.1 else a) 0
theorem rfc_app (t : List ND) (x : ND) : rfc (t ++ [x]) = rfc t + x.2.2.2.2.2.toNat := by
  unfold rfc
  rw [List.countP_append, List.countP_singleton]
  cases x.2.2.2.2.2 <;> rfl
theorem dpm_app (t : List ND) (x : ND) : dpm (t ++ [x]) = if dpm t < x.2.2.2.2.1 then x.2.2.2.2.1 else dpm t := by
  unfold dpm
  rw [List.foldl_append]
  rfl
theorem rfc_le (t : List ND) : rfc t ≤ t.length := List.countP_le_length
def SX (I : AI) (tN tR tD tB tW : List ND) (wt : Int32) : Prop := I 75 16 = nI tN.length ∧ I 75 17 = nI (rfc tR) ∧ I 75 18 = nI (dpm tD) ∧ I 75 19 = wt ∧ (∀ i nd, i < 60 → tB[i]? = some nd → I 86 i = mv nd.1) ∧ ∀ i nd, tW[i]? = some nd → nI i = wt → I 85 0 = mv nd.1 ∧ I 85 1 = nI nd.2.1 ∧ I 85 2 = nI nd.2.2.1 ∧ I 85 3 = iI (nd.2.2.2.1 + 20) ∧ I 85 4 = nI nd.2.2.2.2.1
def fS (a b : Nat) : Bool := fH a b || (a == 75 && (b == 16 || b == 17 || b == 18)) || a == 85 || a == 86
def fT (a b : Nat) : Bool := fS a b || (a == 75 && b == 19)
theorem SX.sb {F : Nat → Nat → Bool} {I I' : AI} {tN tR tD tB tW : List ND} {wt : Int32} (h : SX I tN tR tD tB tW wt) (hs : sb F I I') (h1 : F 75 16 = false) (h2 : F 75 17 = false) (h3 : F 75 18 = false) (h4 : F 75 19 = false) (h5 : ∀ b, F 86 b = false) (h6 : ∀ b, F 85 b = false) : SX I' tN tR tD tB tW wt := by
  obtain ⟨a, b, c, d, e, f⟩ := h
  refine ⟨by rw [hs _ _ h1]; exact a, by rw [hs _ _ h2]; exact b, by rw [hs _ _ h3]; exact c, by rw [hs _ _ h4]; exact d, fun i nd hi hn => by rw [hs _ _ (h5 i)]; exact e i nd hi hn, fun i nd hn hw => ?_⟩
  rw [hs _ _ (h6 0), hs _ _ (h6 1), hs _ _ (h6 2), hs _ _ (h6 3), hs _ _ (h6 4)]
  exact f i nd hn hw
theorem app_get {t : List ND} {x nd : ND} {i : Nat} (h : (t ++ [x])[i]? = some nd) : (i < t.length ∧ t[i]? = some nd) ∨ (i = t.length ∧ nd = x) := by
  by_cases e : i < t.length
  · rw [List.getElem?_append_left e] at h; exact Or.inl ⟨e, h⟩
  · rw [List.getElem?_append_right (by omega)] at h
    obtain ⟨h1, h2⟩ := List.getElem?_eq_some_iff.mp h
    simp at h1 h2
    exact Or.inr ⟨by omega, h2.symm⟩
theorem sr_len (n : Nat) (gr : Nat → Nat) : ∀ (f P ta : Nat) (k : Int) (dp : Nat), (sr n gr f P ta k dp).1.length + 1 ≤ 2 ^ f := by
  intro f
  induction f with
  | zero => intro P ta k dp; simp [sr]
  | succ f ih =>
    intro P ta k dp
    have h2 : 2 ^ (f + 1) = 2 ^ f + 2 ^ f := by rw [Nat.pow_succ]; omega
    have h1 : 0 < 2 ^ f := Nat.two_pow_pos f
    simp only [sr]
    split
    · simp; omega
    · split
      · simp; omega
      · rename_i p hp
        generalize hr1 : sr n gr f (df P ((if dp % 2 = 0 then 2 ^ p else gr p &&& P) ||| 2 ^ p)) (ta ||| (if dp % 2 = 0 then 2 ^ p else gr p &&& P)) (k - (pc (if dp % 2 = 0 then 2 ^ p else gr p &&& P) : Int)) (dp + 1) = r1
        generalize hr2 : sr n gr f (df P ((if dp % 2 = 0 then gr p &&& P else 2 ^ p) ||| 2 ^ p)) (ta ||| (if dp % 2 = 0 then gr p &&& P else 2 ^ p)) (k - (pc (if dp % 2 = 0 then gr p &&& P else 2 ^ p) : Int)) (dp + 1) = r2
        have a1 : r1.1.length + 1 ≤ 2 ^ f := by rw [← hr1]; exact ih _ _ _ _
        have a2 : r2.1.length + 1 ≤ 2 ^ f := by rw [← hr2]; exact ih _ _ _ _
        split <;> simp <;> omega
theorem sr_lt {n : Nat} {gr : Nat → Nat} (hg : ∀ p, p < n → gr p < 2 ^ n) : ∀ (f P ta : Nat) (k : Int) (dp x : Nat), P < 2 ^ n → ta < 2 ^ n → (sr n gr f P ta k dp).2 = some x → x < 2 ^ n := by
  intro f
  induction f with
  | zero => intro P ta k dp x _ _ h; simp [sr] at h
  | succ f ih =>
    intro P ta k dp x hP ht h
    simp only [sr] at h
    split at h
    · cases h
    · split at h
      · cases h; exact ht
      · rename_i p hp
        have hpn := (bz_lt gr P n p hp).1
        have hpp : 2 ^ p < 2 ^ n := Nat.pow_lt_pow_right (by omega) hpn
        have hx : gr p &&& P < 2 ^ n := Nat.lt_of_le_of_lt Nat.and_le_right hP
        split at h
        · rename_i y hy
          cases h
          exact ih _ _ _ _ x (Nat.lt_of_le_of_lt (df_le _ _) hP) (Nat.or_lt_two_pow ht (by split <;> assumption)) hy
        · exact ih _ _ _ _ x (Nat.lt_of_le_of_lt (df_le _ _) hP) (Nat.or_lt_two_pow ht (by split <;> assumption)) h
section M29
variable {l : Launch} {d : Nat} {K : AK} {I : AI} {J : AJ} {g : Bool} {n : Nat} {gr : Nat → Nat}

theorem lM_branch {P : Nat} (hG : MG I n gr) (hP : P < 2 ^ n) (hk : K (.int (mv (bz n gr P))) I J (rX g)) : ∀ (k p : Nat), n - p = k → p ≤ n → G l (d + 2) mX12_branch K 4 [.ref 75, .int (nI P), .int (mv (lp (bzF gr P) p none)), .int (nI p)] [] I J (rX g) := by
  intro k
  induction k using Nat.strongRecOn with
  | _ k ih =>
  intro p hpk hpn
  have hn := hG.2.1
  have e0 := hG.1
  have hP4 : P < 4096 := Nat.lt_of_lt_of_le hP (pow12 hn)
  have hbl := bz_lt gr P p
  refine G_iload_3 (nx := 5) ⟨dX12_branch_4, rfl⟩ ?_
  refine G_aload_0 (nx := 6) ⟨dX12_branch_5, rfl⟩ ?_
  refine G_geti (nx := 9) (k := 75) ⟨dX12_branch_6, rfl⟩ fX12_122 q_75 yi_12_0 ?_
  rw [e0]
  refine G_icmpge (tgt := 52) (nx := 12) ⟨dX12_branch_9, rfl⟩ rfl (fun c_9 => ?_) (fun c_9 => ?_)
  · refine G_iload_2 (nx := 53) ⟨dX12_branch_52, rfl⟩ ?_
    refine G_iret ⟨dX12_branch_53, rfl⟩ rfl ?_
    rw [nI_le_iff (by omega) (by omega)] at c_9
    have hpe : p = n := by omega
    subst hpe
    exact hk
  · rw [nI_le_iff (by omega) (by omega)] at c_9
    have hp : p < n := by omega
    have h12 := in12 hp hn
    have ecp := cl_nI (p := p) (by omega)
    refine G_iload_1 (nx := 13) ⟨dX12_branch_12, rfl⟩ ?_
    refine G_iload_3 (nx := 14) ⟨dX12_branch_13, rfl⟩ ?_
    refine G_cs2 (nx := 17) ⟨dX12_branch_14, rfl⟩ kX12_118 rfl rfl (Nat.le_of_ble_eq_true rfl) (Nat.le_of_ble_eq_true rfl) (cM_has (lt31 hP4) (by omega) ?_)
    refine G_ifeq (tgt := 46) (nx := 20) ⟨dX12_branch_17, rfl⟩ rfl (fun c_17 => ?_) (fun c_17 => ?_)
    · refine G_iinc_3 (nx := 49) ⟨dX12_branch_46, rfl⟩ ci_1 rfl ?_
      refine G_goto (tgt := 4) ⟨dX12_branch_49, rfl⟩ rfl ?_
      rw [bi_0] at c_17
      refine G_L ?_ (ih (n - (p + 1)) (by omega) (p + 1) rfl (by omega))
      simp [lp_s, bzF, c_17, nI_1]
    · rw [bi_n0] at c_17
      have hdp := pc_le (gr p &&& P)
      refine G_aload_0 (nx := 21) ⟨dX12_branch_20, rfl⟩ ?_
      refine G_iload_3 (nx := 22) ⟨dX12_branch_21, rfl⟩ ?_
      refine G_iload_1 (nx := 23) ⟨dX12_branch_22, rfl⟩ ?_
      refine G_cv2 (nx := 26) ⟨dX12_branch_23, rfl⟩ kX12_228 rfl q_75 rfl (Nat.le_of_ble_eq_true rfl) (Nat.le_of_ble_eq_true rfl) (cM_degree hG hp hP4 ?_)
      refine G_iload_2 (nx := 27) ⟨dX12_branch_26, rfl⟩ ?_
      refine G_iconst (nx := 28) ⟨dX12_branch_27, rfl⟩ ci_m1 ?_
      refine G_icmpne (tgt := 35) (nx := 31) ⟨dX12_branch_28, rfl⟩ rfl (fun c_28 => ?_) (fun c_28 => ?_)
      · obtain ⟨q, hq⟩ : ∃ q, lp (bzF gr P) p none = some q := by
          cases e : lp (bzF gr P) p none with
          | none => rw [e] at c_28; exact absurd rfl c_28
          | some q => exact ⟨q, rfl⟩
        have hqn : q < n := by have := (hbl q hq).1; omega
        have hdq := pc_le (gr q &&& P)
        rw [hq]
        refine G_aload_0 (nx := 36) ⟨dX12_branch_35, rfl⟩ ?_
        refine G_iload_2 (nx := 37) ⟨dX12_branch_36, rfl⟩ ?_
        refine G_iload_1 (nx := 38) ⟨dX12_branch_37, rfl⟩ ?_
        refine G_cv2 (nx := 41) ⟨dX12_branch_38, rfl⟩ kX12_228 rfl q_75 rfl (Nat.le_of_ble_eq_true rfl) (Nat.le_of_ble_eq_true rfl) (cM_degree hG hqn hP4 ?_)
        refine G_icmple (tgt := 46) (nx := 44) ⟨dX12_branch_41, rfl⟩ rfl (fun c_41 => ?_) (fun c_41 => ?_)
        · refine G_iinc_3 (nx := 49) ⟨dX12_branch_46, rfl⟩ ci_1 rfl ?_
          refine G_goto (tgt := 4) ⟨dX12_branch_49, rfl⟩ rfl ?_
          rw [nI_le_iff (by omega) (by omega)] at c_41
          refine G_L ?_ (ih (n - (p + 1)) (by omega) (p + 1) rfl (by omega))
          rw [lp_s, hq, nI_1]
          have hif : bzF gr P p (some q) = some q := by
            unfold bzF dg
            rw [if_neg (fun h => by have : pc (gr q &&& P) < _ := h.2; omega)]
          rw [hif]
        · refine G_iload_3 (nx := 45) ⟨dX12_branch_44, rfl⟩ ?_
          refine G_istore_2 (nx := 46) ⟨dX12_branch_45, rfl⟩ rfl rfl ?_
          refine G_iinc_3 (nx := 49) ⟨dX12_branch_46, rfl⟩ ci_1 rfl ?_
          refine G_goto (tgt := 4) ⟨dX12_branch_49, rfl⟩ rfl ?_
          rw [nI_le_iff (by omega) (by omega)] at c_41
          refine G_L ?_ (ih (n - (p + 1)) (by omega) (p + 1) rfl (by omega))
          rw [lp_s, hq, nI_1]
          have hif : bzF gr P p (some q) = some p := by
            unfold bzF dg
            rw [if_pos ⟨c_17, by show pc (gr q &&& P) < _; omega⟩]
          rw [hif]
          rfl
      · refine G_iconst (nx := 32) ⟨dX12_branch_31, rfl⟩ ci_0 ?_
        refine G_goto (tgt := 41) ⟨dX12_branch_32, rfl⟩ rfl ?_
        refine G_icmple (tgt := 46) (nx := 44) ⟨dX12_branch_41, rfl⟩ rfl (fun c_41 => ?_) (fun c_41 => ?_)
        · refine G_iinc_3 (nx := 49) ⟨dX12_branch_46, rfl⟩ ci_1 rfl ?_
          refine G_goto (tgt := 4) ⟨dX12_branch_49, rfl⟩ rfl ?_
          have hno : lp (bzF gr P) p none = none := by
            cases e : lp (bzF gr P) p none with
            | none => rfl
            | some q => rw [e] at c_28; exact absurd c_28 (nI_ne_m1 (by have := (hbl q e).1; omega))
          rw [show (0 : Int32) = nI 0 from nI_0.symm, nI_le_iff (by omega) (by omega)] at c_41
          refine G_L ?_ (ih (n - (p + 1)) (by omega) (p + 1) rfl (by omega))
          rw [lp_s, hno, nI_1]
          have hif : bzF gr P p none = none := by
            unfold bzF dg
            rw [if_neg (fun h => by have : 0 < _ := h.2; omega)]
          rw [hif]
        · refine G_iload_3 (nx := 45) ⟨dX12_branch_44, rfl⟩ ?_
          refine G_istore_2 (nx := 46) ⟨dX12_branch_45, rfl⟩ rfl rfl ?_
          refine G_iinc_3 (nx := 49) ⟨dX12_branch_46, rfl⟩ ci_1 rfl ?_
          refine G_goto (tgt := 4) ⟨dX12_branch_49, rfl⟩ rfl ?_
          have hno : lp (bzF gr P) p none = none := by
            cases e : lp (bzF gr P) p none with
            | none => rfl
            | some q => rw [e] at c_28; exact absurd c_28 (nI_ne_m1 (by have := (hbl q e).1; omega))
          rw [show (0 : Int32) = nI 0 from nI_0.symm, nI_le_iff (by omega) (by omega)] at c_41
          refine G_L ?_ (ih (n - (p + 1)) (by omega) (p + 1) rfl (by omega))
          rw [lp_s, hno, nI_1]
          have hif : bzF gr P p none = some p := by
            unfold bzF dg
            rw [if_pos ⟨c_17, by show 0 < _; omega⟩]
          rw [hif]
          rfl

theorem cM_branch {P : Nat} (hG : MG I n gr) (hP : P < 2 ^ n) (hk : K (.int (mv (bz n gr P))) I J (rX g)) : G l (d + 2) mX12_branch K 0 [.ref 75, .int (nI P), UU, UU] [] I J (rX g) := by
  refine G_iconst (nx := 1) ⟨dX12_branch_0, rfl⟩ ci_m1 ?_
  refine G_istore_2 (nx := 2) ⟨dX12_branch_1, rfl⟩ rfl rfl ?_
  refine G_iconst (nx := 3) ⟨dX12_branch_2, rfl⟩ ci_0 ?_
  refine G_istore_3 (nx := 4) ⟨dX12_branch_3, rfl⟩ rfl rfl ?_
  exact lM_branch hG hP hk _ 0 rfl (Nat.zero_le _)

def SeC (l : Launch) (D n : Nat) (gr : Nat → Nat) (J : AJ) (g : Bool) (f : Nat) : Prop := ∀ (K : AK) (I : AI) (P ta : Nat) (k : Int) (dp : Nat) (t : List ND) (wt : Int32), MG I n gr → P < 2 ^ n → ta < 2 ^ n → -12 * (dp : Int) ≤ k → k ≤ 12 → dp + pc P ≤ 12 → pc P < f → t.length + 2 ^ f ≤ 16384 → SX I t t t t t wt → dpm t ≤ 13 →
  (∀ (I' : AI), SX I' (t ++ (sr n gr f P ta k dp).1) (t ++ (sr n gr f P ta k dp).1) (t ++ (sr n gr f P ta k dp).1) (t ++ (sr n gr f P ta k dp).1) (t ++ (sr n gr f P ta k dp).1) wt → dpm (t ++ (sr n gr f P ta k dp).1) ≤ 13 → sb fS I I' → K (.int (mv (sr n gr f P ta k dp).2)) I' J (rX g)) →
  G l D mX12_searches K 0 [.ref 75, .int (nI P), .int (nI ta), .int (iI k), .int (nI dp), UU, UU, UU, UU, UU, UU] [] I J (rX g)
theorem lM_seC {D P ta dp : Nat} {k : Int} {t : List ND} {wt : Int32} {rf : Bool} {po : Option Nat} (hx : SX I (t ++ [(po, P, ta, k, dp, rf)]) t (t ++ [(po, P, ta, k, dp, rf)]) (t ++ [(po, P, ta, k, dp, rf)]) t wt) (ht : t.length < 20000)
  (hgo : ∀ (I' : AI), SX I' (t ++ [(po, P, ta, k, dp, rf)]) t (t ++ [(po, P, ta, k, dp, rf)]) (t ++ [(po, P, ta, k, dp, rf)]) (t ++ [(po, P, ta, k, dp, rf)]) wt → sb fS I I' → G l D mX12_searches K 137 [.ref 75, .int (nI P), .int (nI ta), .int (iI k), .int (nI dp), .int (nI t.length), .int (bi rf), .int (mv po), UU, UU, UU] [] I' J (rX g)) : G l D mX12_searches K 88 [.ref 75, .int (nI P), .int (nI ta), .int (iI k), .int (nI dp), .int (nI t.length), .int (bi rf), .int (mv po), UU, UU, UU] [] I J (rX g) := by
  have h19 := hx.2.2.2.1
  refine G_iload_5 (nx := 90) ⟨dX12_searches_88, rfl⟩ ?_
  refine G_aload_0 (nx := 91) ⟨dX12_searches_90, rfl⟩ ?_
  refine G_geti (nx := 94) (k := 75) ⟨dX12_searches_91, rfl⟩ fX12_268 q_75 yi_12_19 ?_
  rw [h19]
  refine G_icmpne (tgt := 137) (nx := 97) ⟨dX12_searches_94, rfl⟩ rfl (fun c_94 => ?_) (fun c_94 => ?_)
  · refine hgo I ⟨hx.1, hx.2.1, hx.2.2.1, hx.2.2.2.1, hx.2.2.2.2.1, fun i nd hi hw => ?_⟩ sb.rf
    rcases app_get hi with ⟨-, h⟩ | ⟨h, -⟩
    · exact hx.2.2.2.2.2 i nd h hw
    · exact absurd (by rw [← h]; exact hw) c_94
  · refine G_aload_0 (nx := 98) ⟨dX12_searches_97, rfl⟩ ?_
    refine G_getr (nx := 101) (k := 75) (r := 85) ⟨dX12_searches_98, rfl⟩ fX12_41 q_75 yr_12_20 (r_75_20 _) ?_
    refine G_iconst (nx := 102) ⟨dX12_searches_101, rfl⟩ ci_0 ?_
    refine G_iload_7 (nx := 104) ⟨dX12_searches_102, rfl⟩ ?_
    refine G_iast (nx := 105) (k := 85) ⟨dX12_searches_104, rfl⟩ q_85 (by first | assumption | decide | (unfold vp_in; decide)) ?_
    refine G_aload_0 (nx := 106) ⟨dX12_searches_105, rfl⟩ ?_
    refine G_getr (nx := 109) (k := 75) (r := 85) ⟨dX12_searches_106, rfl⟩ fX12_41 q_75 yr_12_20 (r_75_20 _) ?_
    refine G_iconst (nx := 110) ⟨dX12_searches_109, rfl⟩ ci_1 ?_
    refine G_iload_1 (nx := 111) ⟨dX12_searches_110, rfl⟩ ?_
    refine G_iast (nx := 112) (k := 85) ⟨dX12_searches_111, rfl⟩ q_85 (by first | assumption | decide | (unfold vp_in; decide)) ?_
    refine G_aload_0 (nx := 113) ⟨dX12_searches_112, rfl⟩ ?_
    refine G_getr (nx := 116) (k := 75) (r := 85) ⟨dX12_searches_113, rfl⟩ fX12_41 q_75 yr_12_20 (r_75_20 _) ?_
    refine G_iconst (nx := 117) ⟨dX12_searches_116, rfl⟩ ci_2 ?_
    refine G_iload_2 (nx := 118) ⟨dX12_searches_117, rfl⟩ ?_
    refine G_iast (nx := 119) (k := 85) ⟨dX12_searches_118, rfl⟩ q_85 (by first | assumption | decide | (unfold vp_in; decide)) ?_
    refine G_aload_0 (nx := 120) ⟨dX12_searches_119, rfl⟩ ?_
    refine G_getr (nx := 123) (k := 75) (r := 85) ⟨dX12_searches_120, rfl⟩ fX12_41 q_75 yr_12_20 (r_75_20 _) ?_
    refine G_iconst (nx := 124) ⟨dX12_searches_123, rfl⟩ ci_3 ?_
    refine G_iload_3 (nx := 125) ⟨dX12_searches_124, rfl⟩ ?_
    refine G_bipush (nx := 127) ⟨dX12_searches_125, rfl⟩ cb_20 ?_
    refine G_iadd (nx := 128) ⟨dX12_searches_127, rfl⟩ ?_
    refine G_iast (nx := 129) (k := 85) ⟨dX12_searches_128, rfl⟩ q_85 (by first | assumption | decide | (unfold vp_in; decide)) ?_
    refine G_aload_0 (nx := 130) ⟨dX12_searches_129, rfl⟩ ?_
    refine G_getr (nx := 133) (k := 75) (r := 85) ⟨dX12_searches_130, rfl⟩ fX12_41 q_75 yr_12_20 (r_75_20 _) ?_
    refine G_iconst (nx := 134) ⟨dX12_searches_133, rfl⟩ ci_4 ?_
    refine G_iload_4 (nx := 136) ⟨dX12_searches_134, rfl⟩ ?_
    refine G_iast (nx := 137) (k := 85) ⟨dX12_searches_136, rfl⟩ q_85 (by first | assumption | decide | (unfold vp_in; decide)) ?_
    refine hgo _ ⟨?_, ?_, ?_, ?_, fun i nd hi hw => ?_, fun i nd hi hw => ?_⟩ (((((sb.rf.w rfl).w rfl).w rfl).w rfl).w rfl)
    · simp only [w2_row _ _ _ _ (show ¬ 75 = 85 by decide)]; exact hx.1
    · simp only [w2_row _ _ _ _ (show ¬ 75 = 85 by decide)]; exact hx.2.1
    · simp only [w2_row _ _ _ _ (show ¬ 75 = 85 by decide)]; exact hx.2.2.1
    · simp only [w2_row _ _ _ _ (show ¬ 75 = 85 by decide)]; exact hx.2.2.2.1
    · simp only [w2_row _ _ _ _ (show ¬ 86 = 85 by decide)]; exact hx.2.2.2.2.1 i nd hi hw
    · rcases app_get hi with ⟨h1, h2⟩ | ⟨h1, h2⟩
      · have : i = t.length := nI_inj32 (by omega) (by omega) (hw.trans c_94.symm)
        omega
      · subst h2
        have e20 : iI k + 20 = iI (k + 20) := by rw [show (20 : Int32) = iI 20 by decide, iI_add]
        refine ⟨?_, ?_, ?_, ?_, ?_⟩
        · exact (w2_ne _ _ _ _ (by decide)).trans ((w2_ne _ _ _ _ (by decide)).trans ((w2_ne _ _ _ _ (by decide)).trans ((w2_ne _ _ _ _ (by decide)).trans (w2_at _ _ _ _))))
        · exact (w2_ne _ _ _ _ (by decide)).trans ((w2_ne _ _ _ _ (by decide)).trans ((w2_ne _ _ _ _ (by decide)).trans (w2_at _ _ _ _)))
        · exact (w2_ne _ _ _ _ (by decide)).trans ((w2_ne _ _ _ _ (by decide)).trans (w2_at _ _ _ _))
        · exact (w2_ne _ _ _ _ (by decide)).trans ((w2_at _ _ _ _).trans e20)
        · exact w2_at _ _ _ _

theorem lM_seB {D P ta dp : Nat} {k : Int} {t : List ND} {wt : Int32} {rf : Bool} {po : Option Nat} (hx : SX I (t ++ [(po, P, ta, k, dp, rf)]) t (t ++ [(po, P, ta, k, dp, rf)]) t t wt) (ht : t.length < 20000)
  (hgo : ∀ (I' : AI), SX I' (t ++ [(po, P, ta, k, dp, rf)]) t (t ++ [(po, P, ta, k, dp, rf)]) (t ++ [(po, P, ta, k, dp, rf)]) t wt → sb fS I I' → G l D mX12_searches K 88 [.ref 75, .int (nI P), .int (nI ta), .int (iI k), .int (nI dp), .int (nI t.length), .int (bi rf), .int (mv po), UU, UU, UU] [] I' J (rX g)) : G l D mX12_searches K 72 [.ref 75, .int (nI P), .int (nI ta), .int (iI k), .int (nI dp), .int (nI t.length), .int (bi rf), .int (mv po), UU, UU, UU] [] I J (rX g) := by
  refine G_iload_5 (nx := 74) ⟨dX12_searches_72, rfl⟩ ?_
  refine G_bipush (nx := 76) ⟨dX12_searches_74, rfl⟩ cb_60 ?_
  refine G_icmpge (tgt := 88) (nx := 79) ⟨dX12_searches_76, rfl⟩ rfl (fun c_76 => ?_) (fun c_76 => ?_)
  · rw [show (60 : Int32) = nI 60 by decide, nI_le_iff (by omega) (by omega)] at c_76
    refine hgo I ⟨hx.1, hx.2.1, hx.2.2.1, hx.2.2.2.1, fun i nd hi hw => ?_, hx.2.2.2.2.2⟩ sb.rf
    rcases app_get hw with ⟨-, h⟩ | ⟨h, -⟩
    · exact hx.2.2.2.2.1 i nd hi h
    · omega
  · rw [show (60 : Int32) = nI 60 by decide, nI_le_iff (by omega) (by omega)] at c_76
    have hin : vp_in (nI t.length) 60 := vp_in_nI (by omega) (by decide)
    refine G_aload_0 (nx := 80) ⟨dX12_searches_79, rfl⟩ ?_
    refine G_getr (nx := 83) (k := 75) (r := 86) ⟨dX12_searches_80, rfl⟩ fX12_44 q_75 yr_12_21 (r_75_21 _) ?_
    refine G_iload_5 (nx := 85) ⟨dX12_searches_83, rfl⟩ ?_
    refine G_iload_7 (nx := 87) ⟨dX12_searches_85, rfl⟩ ?_
    refine G_iast (nx := 88) (k := 86) ⟨dX12_searches_87, rfl⟩ q_86 (by first | assumption | decide | (unfold vp_in; decide)) ?_
    rw [cl_nI (by omega)]
    refine hgo _ ⟨?_, ?_, ?_, ?_, fun i nd hi hw => ?_, fun i nd hi hw => ?_⟩ (sb.rf.w rfl)
    · rw [w2_row _ _ _ _ (show ¬ 75 = 86 by decide)]; exact hx.1
    · rw [w2_row _ _ _ _ (show ¬ 75 = 86 by decide)]; exact hx.2.1
    · rw [w2_row _ _ _ _ (show ¬ 75 = 86 by decide)]; exact hx.2.2.1
    · rw [w2_row _ _ _ _ (show ¬ 75 = 86 by decide)]; exact hx.2.2.2.1
    · rcases app_get hw with ⟨h1, h2⟩ | ⟨h1, h2⟩
      · rw [w2_ne _ _ _ _ (by omega)]; exact hx.2.2.2.2.1 i nd hi h2
      · subst h2; rw [h1, w2_at]
    · rw [w2_row _ _ _ _ (show ¬ 85 = 86 by decide)]; exact hx.2.2.2.2.2 i nd hi hw

theorem lM_seD {D P ta dp : Nat} {k : Int} {t : List ND} {wt : Int32} {rf : Bool} {po : Option Nat} (hx : SX I (t ++ [(po, P, ta, k, dp, rf)]) t (t ++ [(po, P, ta, k, dp, rf)]) (t ++ [(po, P, ta, k, dp, rf)]) (t ++ [(po, P, ta, k, dp, rf)]) wt)
  (hgo : ∀ (I' : AI), SX I' (t ++ [(po, P, ta, k, dp, rf)]) (t ++ [(po, P, ta, k, dp, rf)]) (t ++ [(po, P, ta, k, dp, rf)]) (t ++ [(po, P, ta, k, dp, rf)]) (t ++ [(po, P, ta, k, dp, rf)]) wt → sb fS I I' → G l D mX12_searches K 152 [.ref 75, .int (nI P), .int (nI ta), .int (iI k), .int (nI dp), .int (nI t.length), .int (bi rf), .int (mv po), UU, UU, UU] [] I' J (rX g)) : G l D mX12_searches K 137 [.ref 75, .int (nI P), .int (nI ta), .int (iI k), .int (nI dp), .int (nI t.length), .int (bi rf), .int (mv po), UU, UU, UU] [] I J (rX g) := by
  refine G_iload_6 (nx := 139) ⟨dX12_searches_137, rfl⟩ ?_
  refine G_ifeq (tgt := 152) (nx := 142) ⟨dX12_searches_139, rfl⟩ rfl (fun c_139 => ?_) (fun c_139 => ?_)
  · rw [bi_0] at c_139
    refine hgo I ⟨hx.1, ?_, hx.2.2.1, hx.2.2.2.1, hx.2.2.2.2.1, hx.2.2.2.2.2⟩ sb.rf
    rw [rfc_app, c_139]
    exact hx.2.1
  · refine G_aload_0 (nx := 143) ⟨dX12_searches_142, rfl⟩ ?_
    refine G_dup (nx := 144) ⟨dX12_searches_143, rfl⟩ rfl ?_
    refine G_geti (nx := 147) (k := 75) ⟨dX12_searches_144, rfl⟩ fX12_271 q_75 yi_12_17 ?_
    refine G_iconst (nx := 148) ⟨dX12_searches_147, rfl⟩ ci_1 ?_
    rw [hx.2.1]
    refine G_iadd (nx := 149) ⟨dX12_searches_148, rfl⟩ ?_
    refine G_puti (nx := 152) (k := 75) ⟨dX12_searches_149, rfl⟩ pX12_271 q_75 yt_12_17 ?_
    rw [bi_n0] at c_139
    refine hgo _ ⟨?_, ?_, ?_, ?_, fun i nd hi hw => ?_, fun i nd hi hw => ?_⟩ (sb.rf.w rfl)
    · rw [w2_ne _ _ _ _ (by decide)]; exact hx.1
    · rw [w2_at, rfc_app, c_139, nI_1]; rfl
    · rw [w2_ne _ _ _ _ (by decide)]; exact hx.2.2.1
    · rw [w2_ne _ _ _ _ (by decide)]; exact hx.2.2.2.1
    · rw [w2_row _ _ _ _ (show ¬ 86 = 75 by decide)]; exact hx.2.2.2.2.1 i nd hi hw
    · rw [w2_row _ _ _ _ (show ¬ 85 = 75 by decide)]; exact hx.2.2.2.2.2 i nd hi hw

theorem lM_seW {f' P ta dp tk p : Nat} {k : Int} {t : List ND} {wt : Int32} {x6 x7 x8 x10 : Value} {xi : Int32} (hrec : SeC l (d + f' + 14) n gr J g f') (hG : MG I n gr) (hP : P < 2 ^ n) (hta : ta < 2 ^ n) (htk : tk < 2 ^ n) (hpn : p < n) (hPp : P.testBit p = true) (hk1 : -12 * (dp : Int) ≤ k) (hk2 : k ≤ 12) (hdp : dp + pc P ≤ 12) (hpc : pc P < f' + 1) (hlen : t.length + 2 ^ f' ≤ 16384) (hx : SX I t t t t t wt) (hdm : dpm t ≤ 13) (h7 : x7 = .int (nI p)) (hn8 : notL x8 = true)
  (hfo : ∀ (x : Nat) (I' : AI), (sr n gr f' (df P (tk ||| 2 ^ p)) (ta ||| tk) (k - (pc tk : Int)) (dp + 1)).2 = some x → SX I' (t ++ (sr n gr f' (df P (tk ||| 2 ^ p)) (ta ||| tk) (k - (pc tk : Int)) (dp + 1)).1) (t ++ (sr n gr f' (df P (tk ||| 2 ^ p)) (ta ||| tk) (k - (pc tk : Int)) (dp + 1)).1) (t ++ (sr n gr f' (df P (tk ||| 2 ^ p)) (ta ||| tk) (k - (pc tk : Int)) (dp + 1)).1) (t ++ (sr n gr f' (df P (tk ||| 2 ^ p)) (ta ||| tk) (k - (pc tk : Int)) (dp + 1)).1) (t ++ (sr n gr f' (df P (tk ||| 2 ^ p)) (ta ||| tk) (k - (pc tk : Int)) (dp + 1)).1) wt → dpm (t ++ (sr n gr f' (df P (tk ||| 2 ^ p)) (ta ||| tk) (k - (pc tk : Int)) (dp + 1)).1) ≤ 13 → sb fS I I' → K (.int (nI x)) I' J (rX g))
  (hno : ∀ (I' : AI), (sr n gr f' (df P (tk ||| 2 ^ p)) (ta ||| tk) (k - (pc tk : Int)) (dp + 1)).2 = none → SX I' (t ++ (sr n gr f' (df P (tk ||| 2 ^ p)) (ta ||| tk) (k - (pc tk : Int)) (dp + 1)).1) (t ++ (sr n gr f' (df P (tk ||| 2 ^ p)) (ta ||| tk) (k - (pc tk : Int)) (dp + 1)).1) (t ++ (sr n gr f' (df P (tk ||| 2 ^ p)) (ta ||| tk) (k - (pc tk : Int)) (dp + 1)).1) (t ++ (sr n gr f' (df P (tk ||| 2 ^ p)) (ta ||| tk) (k - (pc tk : Int)) (dp + 1)).1) (t ++ (sr n gr f' (df P (tk ||| 2 ^ p)) (ta ||| tk) (k - (pc tk : Int)) (dp + 1)).1) wt → dpm (t ++ (sr n gr f' (df P (tk ||| 2 ^ p)) (ta ||| tk) (k - (pc tk : Int)) (dp + 1)).1) ≤ 13 → sb fS I I' → G l (d + (f' + 1) + 14) mX12_searches K 246 [.ref 75, .int (nI P), .int (nI ta), .int (iI k), .int (nI dp), .int xi, x6, x7, x8, .int (nI tk), .int (-1)] [] I' J (rX g)) :
  G l (d + (f' + 1) + 14) mX12_searches K 205 [.ref 75, .int (nI P), .int (nI ta), .int (iI k), .int (nI dp), .int xi, x6, x7, x8, .int (nI tk), x10] [] I J (rX g) := by
  subst h7
  have hn := hG.2.1
  have hp2 := pow12 hn
  have hpt := pc_le tk
  have hpp : 2 ^ p < 2 ^ n := Nat.pow_lt_pow_right (by omega) hpn
  have hor : tk ||| 2 ^ p < 2 ^ n := Nat.or_lt_two_pow htk hpp
  have hsub := pc_dfs (a := P) (b := tk ||| 2 ^ p) (show p < 12 by omega) hPp (by rw [tb_ins]; simp)
  refine G_aload_0 (nx := 206) ⟨dX12_searches_205, rfl⟩ ?_
  refine G_iload_1 (nx := 207) ⟨dX12_searches_206, rfl⟩ ?_
  refine G_iload_9 (nx := 209) ⟨dX12_searches_207, rfl⟩ ?_
  refine G_iconst (nx := 210) ⟨dX12_searches_209, rfl⟩ ci_1 ?_
  refine G_iload_7 (nx := 212) ⟨dX12_searches_210, rfl⟩ ?_
  refine G_ishl (nx := 213) ⟨dX12_searches_212, rfl⟩ ?_
  rw [one_shl (by omega)]
  refine G_ior (nx := 214) ⟨dX12_searches_213, rfl⟩ ?_
  rw [nI_or]
  refine G_iconst (nx := 215) ⟨dX12_searches_214, rfl⟩ ci_m1 ?_
  refine G_ixor (nx := 216) ⟨dX12_searches_215, rfl⟩ ?_
  refine G_iand (nx := 217) ⟨dX12_searches_216, rfl⟩ ?_
  rw [nI_df _ (by omega)]
  refine G_iload_2 (nx := 218) ⟨dX12_searches_217, rfl⟩ ?_
  refine G_iload_9 (nx := 220) ⟨dX12_searches_218, rfl⟩ ?_
  refine G_ior (nx := 221) ⟨dX12_searches_220, rfl⟩ ?_
  rw [nI_or]
  refine G_iload_3 (nx := 222) ⟨dX12_searches_221, rfl⟩ ?_
  refine G_iload_9 (nx := 224) ⟨dX12_searches_222, rfl⟩ ?_
  refine G_cs1 (nx := 227) ⟨dX12_searches_224, rfl⟩ kX12_133 rfl rfl (Nat.le_of_ble_eq_true rfl) (Nat.le_of_ble_eq_true rfl) (cM_bits (by omega) ?_)
  refine G_isub (nx := 228) ⟨dX12_searches_227, rfl⟩ ?_
  rw [iI_subN]
  refine G_iload_4 (nx := 230) ⟨dX12_searches_228, rfl⟩ ?_
  refine G_iconst (nx := 231) ⟨dX12_searches_230, rfl⟩ ci_1 ?_
  refine G_iadd (nx := 232) ⟨dX12_searches_231, rfl⟩ ?_
  rw [nI_1]
  refine G_cv4 (nx := 235) ⟨dX12_searches_232, rfl⟩ kX12_274 rfl q_75 rfl (Nat.le_of_ble_eq_true rfl) (Nat.le_of_ble_eq_true rfl) (hrec _ _ (df P (tk ||| 2 ^ p)) (ta ||| tk) (k - (pc tk : Int)) (dp + 1) t wt hG (Nat.lt_of_le_of_lt (df_le _ _) hP) (Nat.or_lt_two_pow hta htk) (by omega) (by omega) (by omega) (by omega) hlen hx hdm (fun I1 hx1 hd1 hs1 => ?_))
  cases hsr : (sr n gr f' (df P (tk ||| 2 ^ p)) (ta ||| tk) (k - (pc tk : Int)) (dp + 1)).2 with
  | none =>
    refine G_istore_10 (nx := 237) ⟨dX12_searches_235, rfl⟩ rfl rfl ?_
    refine G_iload_10 (nx := 239) ⟨dX12_searches_237, rfl⟩ ?_
    refine G_iconst (nx := 240) ⟨dX12_searches_239, rfl⟩ ci_m1 ?_
    refine G_icmpeq (tgt := 246) (nx := 243) ⟨dX12_searches_240, rfl⟩ rfl (fun c_240 => ?_) (fun c_240 => ?_)
    · exact hno I1 hsr hx1 hd1 hs1
    · exact absurd rfl c_240
  | some x =>
    have hxl := sr_lt hG.2.2.2 f' _ _ _ _ x (Nat.lt_of_le_of_lt (df_le _ _) hP) (Nat.or_lt_two_pow hta htk) hsr
    refine G_istore_10 (nx := 237) ⟨dX12_searches_235, rfl⟩ rfl rfl ?_
    refine G_iload_10 (nx := 239) ⟨dX12_searches_237, rfl⟩ ?_
    refine G_iconst (nx := 240) ⟨dX12_searches_239, rfl⟩ ci_m1 ?_
    refine G_icmpeq (tgt := 246) (nx := 243) ⟨dX12_searches_240, rfl⟩ rfl (fun c_240 => ?_) (fun c_240 => ?_)
    · exact absurd c_240 (nI_ne_m1 (by omega))
    · refine G_iload_10 (nx := 245) ⟨dX12_searches_243, rfl⟩ ?_
      refine G_iret ⟨dX12_searches_245, rfl⟩ rfl ?_
      exact hfo x I1 hsr hx1 hd1 hs1

theorem lM_seE {f' P ta dp : Nat} {k : Int} {t : List ND} {wt : Int32} {rf : Bool} {po : Option Nat} (hrec : SeC l (d + f' + 14) n gr J g f') (hG : MG I n gr) (hP : P < 2 ^ n) (hta : ta < 2 ^ n) (hk1 : -12 * (dp : Int) ≤ k) (hk2 : k ≤ 12) (hdp12 : dp + pc P ≤ 12) (hpc : pc P < f' + 1) (hlen : t.length + 2 ^ (f' + 1) ≤ 16384) (hrf : rf = decide (2 * k < (tau gr P P : Int))) (hpo : po = if rf = true then none else bz n gr P) (hx : SX I (t ++ [(po, P, ta, k, dp, rf)]) (t ++ [(po, P, ta, k, dp, rf)]) (t ++ [(po, P, ta, k, dp, rf)]) (t ++ [(po, P, ta, k, dp, rf)]) (t ++ [(po, P, ta, k, dp, rf)]) wt) (hdm : dpm (t ++ [(po, P, ta, k, dp, rf)]) ≤ 13)
  (hk : ∀ (I' : AI), SX I' (t ++ (sr n gr (f' + 1) P ta k dp).1) (t ++ (sr n gr (f' + 1) P ta k dp).1) (t ++ (sr n gr (f' + 1) P ta k dp).1) (t ++ (sr n gr (f' + 1) P ta k dp).1) (t ++ (sr n gr (f' + 1) P ta k dp).1) wt → dpm (t ++ (sr n gr (f' + 1) P ta k dp).1) ≤ 13 → sb fS I I' → K (.int (mv (sr n gr (f' + 1) P ta k dp).2)) I' J (rX g)) :
  G l (d + (f' + 1) + 14) mX12_searches K 152 [.ref 75, .int (nI P), .int (nI ta), .int (iI k), .int (nI dp), .int (nI t.length), .int (bi rf), .int (mv po), UU, UU, UU] [] I J (rX g) := by
  have hn := hG.2.1
  have hp2 := pow12 hn
  have h2f : 2 ^ (f' + 1) = 2 ^ f' + 2 ^ f' := by rw [Nat.pow_succ]; omega
  have hlf : 0 < 2 ^ f' := Nat.two_pow_pos f'
  refine G_iload_7 (nx := 154) ⟨dX12_searches_152, rfl⟩ ?_
  refine G_iconst (nx := 155) ⟨dX12_searches_154, rfl⟩ ci_m1 ?_
  refine G_icmpne (tgt := 169) (nx := 158) ⟨dX12_searches_155, rfl⟩ rfl (fun c_155 => ?_) (fun c_155 => ?_)
  · obtain ⟨p, hp⟩ : ∃ p, po = some p := by
      cases e : po with
      | none => rw [e] at c_155; exact absurd rfl c_155
      | some p => exact ⟨p, rfl⟩
    subst hp
    have hrff : rf = false := by
      cases e : rf with
      | false => rfl
      | true => rw [e, if_pos rfl] at hpo; cases hpo
    rw [hrff, if_neg Bool.false_ne_true] at hpo
    have hb : bz n gr P = some p := hpo.symm
    obtain ⟨hpn, hPp, hdg0⟩ := bz_lt gr P n p hb
    have hnr : ¬ 2 * k < (tau gr P P : Int) := by
      rw [hrff] at hrf
      exact of_decide_eq_false hrf.symm
    have hpp : 2 ^ p < 2 ^ n := Nat.pow_lt_pow_right (by omega) hpn
    have hgp : gr p &&& P < 2 ^ n := Nat.lt_of_le_of_lt Nat.and_le_right hP
    have h12 := in12 hpn hn
    have hpm : mv (some p) = nI p := rfl
    rw [hpm]
    refine G_iconst (nx := 170) ⟨dX12_searches_169, rfl⟩ ci_0 ?_
    refine G_istore_8 (nx := 172) ⟨dX12_searches_170, rfl⟩ rfl rfl ?_
    refine G_iload_8 (nx := 174) ⟨dX12_searches_172, rfl⟩ ?_
    refine G_iconst (nx := 175) ⟨dX12_searches_174, rfl⟩ ci_2 ?_
    refine G_icmpge (tgt := 252) (nx := 178) ⟨dX12_searches_175, rfl⟩ rfl (fun c_175 => ?_) (fun c_175 => ?_)
    · exact absurd c_175 (by decide)
    · refine G_iload_8 (nx := 180) ⟨dX12_searches_178, rfl⟩ ?_
      refine G_iload_4 (nx := 182) ⟨dX12_searches_180, rfl⟩ ?_
      refine G_iconst (nx := 183) ⟨dX12_searches_182, rfl⟩ ci_2 ?_
      refine G_irem (nx := 184) ⟨dX12_searches_183, rfl⟩ (by decide) ?_
      rw [show (2 : Int32) = nI 2 by decide, pk_rem (by omega) (by omega) (by omega)]
      refine G_icmpne (tgt := 194) (nx := 187) ⟨dX12_searches_184, rfl⟩ rfl (fun c_184 => ?_) (fun c_184 => ?_)
      · refine G_aload_0 (nx := 195) ⟨dX12_searches_194, rfl⟩ ?_
        refine G_getr (nx := 198) (k := 75) (r := 78) ⟨dX12_searches_195, rfl⟩ fX12_20 q_75 yr_12_4 (r_75_4 _) ?_
        refine G_iload_7 (nx := 200) ⟨dX12_searches_198, rfl⟩ ?_
        refine G_iald (nx := 201) (k := 78) ⟨dX12_searches_200, rfl⟩ q_78 (by first | assumption | decide | (unfold vp_in; decide)) ?_
        rw [hG.row hpn]
        refine G_iload_1 (nx := 202) ⟨dX12_searches_201, rfl⟩ ?_
        refine G_iand (nx := 203) ⟨dX12_searches_202, rfl⟩ ?_
        refine G_istore_9 (nx := 205) ⟨dX12_searches_203, rfl⟩ rfl rfl ?_
        rw [nI_and]
        have hpar : ¬ dp % 2 = 0 := fun e => c_184 (by rw [e, nI_0])
        refine lM_seW (t := (t ++ [(some p, P, ta, k, dp, rf)])) (tk := gr p &&& P) hrec hG hP hta hgp hpn hPp hk1 hk2 hdp12 hpc (by simp only [List.length_append, List.length_cons, List.length_nil]; omega) hx hdm rfl rfl (fun x I1 hfx hx1 hd1 hs1 => ?_) (fun I1 hfx hx1 hd1 hs1 => ?_)
        · have e : sr n gr (f' + 1) P ta k dp = ((some p, P, ta, k, dp, false) :: (sr n gr f' (df P ((gr p &&& P) ||| 2 ^ p)) (ta ||| (gr p &&& P)) (k - (pc (gr p &&& P) : Int)) (dp + 1)).1, some x) := by
            simp only [sr, if_neg hnr, hb, hpar, if_false]
            rw [hfx]
          rw [e] at hk
          rw [hrff] at hx1 hd1
          simp only [List.append_assoc] at hx1 hd1
          exact hk I1 hx1 hd1 hs1
        · have hG1 : MG I1 n gr := hG.sb hs1 rfl (fun _ => rfl)
          have hfx1 := hfx
          refine G_iinc_8 (nx := 249) ⟨dX12_searches_246, rfl⟩ ci_1 rfl ?_
          refine G_goto (tgt := 172) ⟨dX12_searches_249, rfl⟩ rfl ?_
          refine G_iload_8 (nx := 174) ⟨dX12_searches_172, rfl⟩ ?_
          refine G_iconst (nx := 175) ⟨dX12_searches_174, rfl⟩ ci_2 ?_
          refine G_icmpge (tgt := 252) (nx := 178) ⟨dX12_searches_175, rfl⟩ rfl (fun c_175 => ?_) (fun c_175 => ?_)
          · exact absurd c_175 (by decide)
          · refine G_iload_8 (nx := 180) ⟨dX12_searches_178, rfl⟩ ?_
            refine G_iload_4 (nx := 182) ⟨dX12_searches_180, rfl⟩ ?_
            refine G_iconst (nx := 183) ⟨dX12_searches_182, rfl⟩ ci_2 ?_
            refine G_irem (nx := 184) ⟨dX12_searches_183, rfl⟩ (by decide) ?_
            rw [show (2 : Int32) = nI 2 by decide, pk_rem (by omega) (by omega) (by omega)]
            refine G_icmpne (tgt := 194) (nx := 187) ⟨dX12_searches_184, rfl⟩ rfl (fun c_184 => ?_) (fun c_184 => ?_)
            · exact absurd (show (0 : Int32) + 1 = nI (dp % 2) by rw [show dp % 2 = 1 by omega]; rfl) c_184
            · refine G_iconst (nx := 188) ⟨dX12_searches_187, rfl⟩ ci_1 ?_
              refine G_iload_7 (nx := 190) ⟨dX12_searches_188, rfl⟩ ?_
              refine G_ishl (nx := 191) ⟨dX12_searches_190, rfl⟩ ?_
              refine G_goto (tgt := 203) ⟨dX12_searches_191, rfl⟩ rfl ?_
              rw [one_shl (by omega)]
              refine G_istore_9 (nx := 205) ⟨dX12_searches_203, rfl⟩ rfl rfl ?_
              refine lM_seW (t := (t ++ [(some p, P, ta, k, dp, rf)] ++ (sr n gr f' (df P ((gr p &&& P) ||| 2 ^ p)) (ta ||| (gr p &&& P)) (k - (pc (gr p &&& P) : Int)) (dp + 1)).1)) (tk := 2 ^ p) hrec hG1 hP hta hpp hpn hPp hk1 hk2 hdp12 hpc (by have := sr_len n gr f' (df P ((gr p &&& P) ||| 2 ^ p)) (ta ||| (gr p &&& P)) (k - (pc (gr p &&& P) : Int)) (dp + 1); simp only [List.length_append, List.length_cons, List.length_nil]; omega) hx1 hd1 rfl rfl (fun x I2 hfx hx2 hd2 hs2 => ?_) (fun I2 hfx hx2 hd2 hs2 => ?_)
              · have e : sr n gr (f' + 1) P ta k dp = ((some p, P, ta, k, dp, false) :: ((sr n gr f' (df P ((gr p &&& P) ||| 2 ^ p)) (ta ||| (gr p &&& P)) (k - (pc (gr p &&& P) : Int)) (dp + 1)).1 ++ (sr n gr f' (df P ((2 ^ p) ||| 2 ^ p)) (ta ||| (2 ^ p)) (k - (pc (2 ^ p) : Int)) (dp + 1)).1), (sr n gr f' (df P ((2 ^ p) ||| 2 ^ p)) (ta ||| (2 ^ p)) (k - (pc (2 ^ p) : Int)) (dp + 1)).2) := by
                  simp only [sr, if_neg hnr, hb, hpar, if_false]
                  rw [hfx1]
                rw [e] at hk
                simp only [hfx] at hk
                rw [hrff] at hx2 hd2
                simp only [List.append_assoc] at hx2 hd2
                exact hk I2 hx2 hd2 (hs1.tr hs2)
              · have e : sr n gr (f' + 1) P ta k dp = ((some p, P, ta, k, dp, false) :: ((sr n gr f' (df P ((gr p &&& P) ||| 2 ^ p)) (ta ||| (gr p &&& P)) (k - (pc (gr p &&& P) : Int)) (dp + 1)).1 ++ (sr n gr f' (df P ((2 ^ p) ||| 2 ^ p)) (ta ||| (2 ^ p)) (k - (pc (2 ^ p) : Int)) (dp + 1)).1), (sr n gr f' (df P ((2 ^ p) ||| 2 ^ p)) (ta ||| (2 ^ p)) (k - (pc (2 ^ p) : Int)) (dp + 1)).2) := by
                  simp only [sr, if_neg hnr, hb, hpar, if_false]
                  rw [hfx1]
                rw [e] at hk
                simp only [hfx] at hk
                rw [hrff] at hx2 hd2
                simp only [List.append_assoc] at hx2 hd2
                refine G_iinc_8 (nx := 249) ⟨dX12_searches_246, rfl⟩ ci_1 rfl ?_
                refine G_goto (tgt := 172) ⟨dX12_searches_249, rfl⟩ rfl ?_
                refine G_iload_8 (nx := 174) ⟨dX12_searches_172, rfl⟩ ?_
                refine G_iconst (nx := 175) ⟨dX12_searches_174, rfl⟩ ci_2 ?_
                refine G_icmpge (tgt := 252) (nx := 178) ⟨dX12_searches_175, rfl⟩ rfl (fun c_175 => ?_) (fun c_175 => ?_)
                · refine G_iconst (nx := 253) ⟨dX12_searches_252, rfl⟩ ci_m1 ?_
                  refine G_iret ⟨dX12_searches_253, rfl⟩ rfl ?_
                  exact hk I2 hx2 hd2 (hs1.tr hs2)
                · exact absurd (by decide) c_175
      · refine G_iconst (nx := 188) ⟨dX12_searches_187, rfl⟩ ci_1 ?_
        refine G_iload_7 (nx := 190) ⟨dX12_searches_188, rfl⟩ ?_
        refine G_ishl (nx := 191) ⟨dX12_searches_190, rfl⟩ ?_
        rw [one_shl (by omega)]
        refine G_goto (tgt := 203) ⟨dX12_searches_191, rfl⟩ rfl ?_
        refine G_istore_9 (nx := 205) ⟨dX12_searches_203, rfl⟩ rfl rfl ?_
        have hpar : dp % 2 = 0 := by
          have := nI_inj (a := 0) (b := dp % 2) (by omega) (by omega) (by rw [nI_0]; exact c_184)
          omega
        refine lM_seW (t := (t ++ [(some p, P, ta, k, dp, rf)])) (tk := 2 ^ p) hrec hG hP hta hpp hpn hPp hk1 hk2 hdp12 hpc (by simp only [List.length_append, List.length_cons, List.length_nil]; omega) hx hdm rfl rfl (fun x I1 hfx hx1 hd1 hs1 => ?_) (fun I1 hfx hx1 hd1 hs1 => ?_)
        · have e : sr n gr (f' + 1) P ta k dp = ((some p, P, ta, k, dp, false) :: (sr n gr f' (df P ((2 ^ p) ||| 2 ^ p)) (ta ||| (2 ^ p)) (k - (pc (2 ^ p) : Int)) (dp + 1)).1, some x) := by
            simp only [sr, if_neg hnr, hb, hpar, if_true, if_false]
            rw [hfx]
          rw [e] at hk
          rw [hrff] at hx1 hd1
          simp only [List.append_assoc] at hx1 hd1
          exact hk I1 hx1 hd1 hs1
        · have hG1 : MG I1 n gr := hG.sb hs1 rfl (fun _ => rfl)
          have hfx1 := hfx
          refine G_iinc_8 (nx := 249) ⟨dX12_searches_246, rfl⟩ ci_1 rfl ?_
          refine G_goto (tgt := 172) ⟨dX12_searches_249, rfl⟩ rfl ?_
          refine G_iload_8 (nx := 174) ⟨dX12_searches_172, rfl⟩ ?_
          refine G_iconst (nx := 175) ⟨dX12_searches_174, rfl⟩ ci_2 ?_
          refine G_icmpge (tgt := 252) (nx := 178) ⟨dX12_searches_175, rfl⟩ rfl (fun c_175 => ?_) (fun c_175 => ?_)
          · exact absurd c_175 (by decide)
          · refine G_iload_8 (nx := 180) ⟨dX12_searches_178, rfl⟩ ?_
            refine G_iload_4 (nx := 182) ⟨dX12_searches_180, rfl⟩ ?_
            refine G_iconst (nx := 183) ⟨dX12_searches_182, rfl⟩ ci_2 ?_
            refine G_irem (nx := 184) ⟨dX12_searches_183, rfl⟩ (by decide) ?_
            rw [show (2 : Int32) = nI 2 by decide, pk_rem (by omega) (by omega) (by omega)]
            refine G_icmpne (tgt := 194) (nx := 187) ⟨dX12_searches_184, rfl⟩ rfl (fun c_184 => ?_) (fun c_184 => ?_)
            · refine G_aload_0 (nx := 195) ⟨dX12_searches_194, rfl⟩ ?_
              refine G_getr (nx := 198) (k := 75) (r := 78) ⟨dX12_searches_195, rfl⟩ fX12_20 q_75 yr_12_4 (r_75_4 _) ?_
              refine G_iload_7 (nx := 200) ⟨dX12_searches_198, rfl⟩ ?_
              refine G_iald (nx := 201) (k := 78) ⟨dX12_searches_200, rfl⟩ q_78 (by first | assumption | decide | (unfold vp_in; decide)) ?_
              refine G_iload_1 (nx := 202) ⟨dX12_searches_201, rfl⟩ ?_
              refine G_iand (nx := 203) ⟨dX12_searches_202, rfl⟩ ?_
              rw [hG1.row hpn, nI_and]
              refine G_istore_9 (nx := 205) ⟨dX12_searches_203, rfl⟩ rfl rfl ?_
              refine lM_seW (t := (t ++ [(some p, P, ta, k, dp, rf)] ++ (sr n gr f' (df P ((2 ^ p) ||| 2 ^ p)) (ta ||| (2 ^ p)) (k - (pc (2 ^ p) : Int)) (dp + 1)).1)) (tk := gr p &&& P) hrec hG1 hP hta hgp hpn hPp hk1 hk2 hdp12 hpc (by have := sr_len n gr f' (df P ((2 ^ p) ||| 2 ^ p)) (ta ||| (2 ^ p)) (k - (pc (2 ^ p) : Int)) (dp + 1); simp only [List.length_append, List.length_cons, List.length_nil]; omega) hx1 hd1 rfl rfl (fun x I2 hfx hx2 hd2 hs2 => ?_) (fun I2 hfx hx2 hd2 hs2 => ?_)
              · have e : sr n gr (f' + 1) P ta k dp = ((some p, P, ta, k, dp, false) :: ((sr n gr f' (df P ((2 ^ p) ||| 2 ^ p)) (ta ||| (2 ^ p)) (k - (pc (2 ^ p) : Int)) (dp + 1)).1 ++ (sr n gr f' (df P ((gr p &&& P) ||| 2 ^ p)) (ta ||| (gr p &&& P)) (k - (pc (gr p &&& P) : Int)) (dp + 1)).1), (sr n gr f' (df P ((gr p &&& P) ||| 2 ^ p)) (ta ||| (gr p &&& P)) (k - (pc (gr p &&& P) : Int)) (dp + 1)).2) := by
                  simp only [sr, if_neg hnr, hb, hpar, if_true, if_false]
                  rw [hfx1]
                rw [e] at hk
                simp only [hfx] at hk
                rw [hrff] at hx2 hd2
                simp only [List.append_assoc] at hx2 hd2
                exact hk I2 hx2 hd2 (hs1.tr hs2)
              · have e : sr n gr (f' + 1) P ta k dp = ((some p, P, ta, k, dp, false) :: ((sr n gr f' (df P ((2 ^ p) ||| 2 ^ p)) (ta ||| (2 ^ p)) (k - (pc (2 ^ p) : Int)) (dp + 1)).1 ++ (sr n gr f' (df P ((gr p &&& P) ||| 2 ^ p)) (ta ||| (gr p &&& P)) (k - (pc (gr p &&& P) : Int)) (dp + 1)).1), (sr n gr f' (df P ((gr p &&& P) ||| 2 ^ p)) (ta ||| (gr p &&& P)) (k - (pc (gr p &&& P) : Int)) (dp + 1)).2) := by
                  simp only [sr, if_neg hnr, hb, hpar, if_true, if_false]
                  rw [hfx1]
                rw [e] at hk
                simp only [hfx] at hk
                rw [hrff] at hx2 hd2
                simp only [List.append_assoc] at hx2 hd2
                refine G_iinc_8 (nx := 249) ⟨dX12_searches_246, rfl⟩ ci_1 rfl ?_
                refine G_goto (tgt := 172) ⟨dX12_searches_249, rfl⟩ rfl ?_
                refine G_iload_8 (nx := 174) ⟨dX12_searches_172, rfl⟩ ?_
                refine G_iconst (nx := 175) ⟨dX12_searches_174, rfl⟩ ci_2 ?_
                refine G_icmpge (tgt := 252) (nx := 178) ⟨dX12_searches_175, rfl⟩ rfl (fun c_175 => ?_) (fun c_175 => ?_)
                · refine G_iconst (nx := 253) ⟨dX12_searches_252, rfl⟩ ci_m1 ?_
                  refine G_iret ⟨dX12_searches_253, rfl⟩ rfl ?_
                  exact hk I2 hx2 hd2 (hs1.tr hs2)
                · exact absurd (by decide) c_175
            · exact absurd c_184 (fun e => by have := nI_inj (a := 1) (b := dp % 2) (by omega) (by omega) e; omega)
  · refine G_iload_6 (nx := 160) ⟨dX12_searches_158, rfl⟩ ?_
    refine G_ifeq (tgt := 167) (nx := 163) ⟨dX12_searches_160, rfl⟩ rfl (fun c_160 => ?_) (fun c_160 => ?_)
    · refine G_iload_2 (nx := 168) ⟨dX12_searches_167, rfl⟩ ?_
      refine G_iret ⟨dX12_searches_168, rfl⟩ rfl ?_
      have hpo' : po = none := by
        cases e : po with
        | none => rfl
        | some p => rw [e] at c_155; exact absurd c_155 (nI_ne_m1 (by
            have : bz n gr P = some p := by
              cases hr : rf with
              | true => rw [hr, if_pos rfl, e] at hpo; cases hpo
              | false => rw [hr, if_neg Bool.false_ne_true, e] at hpo; exact hpo.symm
            have := (bz_lt gr P n p this).1
            omega))
      subst hpo'
      rw [bi_0] at c_160
      subst c_160
      have hb : bz n gr P = none := by rw [if_neg Bool.false_ne_true] at hpo; exact hpo.symm
      have hnr : ¬ 2 * k < (tau gr P P : Int) := of_decide_eq_false hrf.symm
      have e : sr n gr (f' + 1) P ta k dp = ([(none, P, ta, k, dp, false)], some ta) := by simp only [sr, if_neg hnr, hb]
      rw [e] at hk
      exact hk I hx hdm sb.rf
    · refine G_iconst (nx := 164) ⟨dX12_searches_163, rfl⟩ ci_m1 ?_
      refine G_goto (tgt := 168) ⟨dX12_searches_164, rfl⟩ rfl ?_
      refine G_iret ⟨dX12_searches_168, rfl⟩ rfl ?_
      have hpo' : po = none := by
        cases e : po with
        | none => rfl
        | some p => rw [e] at c_155; exact absurd c_155 (nI_ne_m1 (by
            have : bz n gr P = some p := by
              cases hr : rf with
              | true => rw [hr, if_pos rfl, e] at hpo; cases hpo
              | false => rw [hr, if_neg Bool.false_ne_true, e] at hpo; exact hpo.symm
            have := (bz_lt gr P n p this).1
            omega))
      subst hpo'
      rw [bi_n0] at c_160
      subst c_160
      have hnr : 2 * k < (tau gr P P : Int) := of_decide_eq_true hrf.symm
      have e : sr n gr (f' + 1) P ta k dp = ([(none, P, ta, k, dp, true)], none) := by simp only [sr, if_pos hnr]
      rw [e] at hk
      exact hk I hx hdm sb.rf

theorem cM_searches : ∀ f, SeC l (d + f + 14) n gr J g f := by
  intro f
  induction f with
  | zero => intro K I P ta k dp t wt _ _ _ _ _ _ hpc; exact absurd hpc (Nat.not_lt_zero _)
  | succ f' ih =>
    intro K I P ta k dp t wt hG hP hta hk1 hk2 hdp hpc hlen hx hdm hk
    have hn := hG.2.1
    have hp2 := pow12 hn
    have h1f : 0 < 2 ^ (f' + 1) := Nat.two_pow_pos _
    have hpl := pc_le P
    have htl := tau_le_pc (gr := gr) (A := P) (B := P)
    have fin : ∀ (rf : Bool) (po : Option Nat) (I1 : AI), rf = decide (2 * k < (tau gr P P : Int)) → (po = if rf = true then none else bz n gr P) → MG I1 n gr → SX I1 (t ++ [(po, P, ta, k, dp, rf)]) t (t ++ [(po, P, ta, k, dp, rf)]) t t wt → dpm (t ++ [(po, P, ta, k, dp, rf)]) ≤ 13 → sb fS I I1 → G l (d + (f' + 1) + 14) mX12_searches K 72 [.ref 75, .int (nI P), .int (nI ta), .int (iI k), .int (nI dp), .int (nI t.length), .int (bi rf), .int (mv po), UU, UU, UU] [] I1 J (rX g) := by
      intro rf po I1 h1 h2 hG1 hx1 hd1 hs1
      refine lM_seB hx1 (by omega) (fun I2 hx2 hs2 => ?_)
      refine lM_seC hx2 (by omega) (fun I3 hx3 hs3 => ?_)
      refine lM_seD hx3 (fun I4 hx4 hs4 => ?_)
      have hs14 := (hs2.tr hs3).tr hs4
      exact lM_seE ih (hG1.sb hs14 rfl (fun _ => rfl)) hP hta hk1 hk2 hdp hpc hlen h1 h2 hx4 hd1 (fun I5 hx5 hd5 hs5 => hk I5 hx5 hd5 ((hs1.tr hs14).tr hs5))
    have mid : ∀ (I1 : AI), MG I1 n gr → (∀ po rf, SX I1 (t ++ [(po, P, ta, k, dp, rf)]) t (t ++ [(po, P, ta, k, dp, rf)]) t t wt ∧ dpm (t ++ [(po, P, ta, k, dp, rf)]) ≤ 13) → sb fS I I1 → G l (d + (f' + 1) + 14) mX12_searches K 38 [.ref 75, .int (nI P), .int (nI ta), .int (iI k), .int (nI dp), .int (nI t.length), UU, UU, UU, UU, UU] [] I1 J (rX g) := by
      intro I1 hG1 hx1 hs1

      refine G_aload_0 (nx := 39) ⟨dX12_searches_38, rfl⟩ ?_
      refine G_iload_1 (nx := 40) ⟨dX12_searches_39, rfl⟩ ?_
      refine G_cv1 (nx := 43) ⟨dX12_searches_40, rfl⟩ kX12_203 rfl q_75 rfl (Nat.le_of_ble_eq_true rfl) (Nat.le_of_ble_eq_true rfl) (cM_leastHalves (d := d + f') hP hG1 (fun r I2 hnu hs2 => ?_))
      refine G_iconst (nx := 44) ⟨dX12_searches_43, rfl⟩ ci_2 ?_
      refine G_iload_3 (nx := 45) ⟨dX12_searches_44, rfl⟩ ?_
      refine G_imul (nx := 46) ⟨dX12_searches_45, rfl⟩ ?_
      rw [show (2 : Int32) = iI 2 by decide, show iI 2 * iI k = iI (2 * k) from by unfold iI; rw [Int32.ofInt_mul], hnu.tau (by omega)]
      refine G_icmple (tgt := 53) (nx := 49) ⟨dX12_searches_46, rfl⟩ rfl (fun c_46 => ?_) (fun c_46 => ?_)
      · rw [i32_le, nI_toInt (by omega), iI_toInt (by omega) (by omega)] at c_46
        refine G_iconst (nx := 54) ⟨dX12_searches_53, rfl⟩ ci_0 ?_
        refine G_istore_6 (nx := 56) ⟨dX12_searches_54, rfl⟩ rfl rfl ?_
        refine G_iload_6 (nx := 58) ⟨dX12_searches_56, rfl⟩ ?_
        refine G_ifeq (tgt := 65) (nx := 61) ⟨dX12_searches_58, rfl⟩ rfl (fun c_58 => ?_) (fun c_58 => ?_)
        · refine G_aload_0 (nx := 66) ⟨dX12_searches_65, rfl⟩ ?_
          refine G_iload_1 (nx := 67) ⟨dX12_searches_66, rfl⟩ ?_
          refine G_cv1 (nx := 70) ⟨dX12_searches_67, rfl⟩ kX12_265 rfl q_75 rfl (Nat.le_of_ble_eq_true rfl) (Nat.le_of_ble_eq_true rfl) (cM_branch (hG1.sb hs2 rfl (fun _ => rfl)) hP ?_)
          refine G_istore_7 (nx := 72) ⟨dX12_searches_70, rfl⟩ rfl rfl ?_
          exact fin false (bz n gr P) I2 (decide_eq_false (by omega)).symm rfl (hG1.sb hs2 rfl (fun _ => rfl)) ((hx1 _ false).1.sb hs2 rfl rfl rfl rfl (fun _ => rfl) (fun _ => rfl)) (hx1 _ false).2 (hs1.tr (hs2.mono (fun a b h => or_f (or_f (or_f h)))))
        · exact absurd rfl c_58
      · rw [i32_le, nI_toInt (by omega), iI_toInt (by omega) (by omega)] at c_46
        refine G_iconst (nx := 50) ⟨dX12_searches_49, rfl⟩ ci_1 ?_
        refine G_goto (tgt := 54) ⟨dX12_searches_50, rfl⟩ rfl ?_
        refine G_istore_6 (nx := 56) ⟨dX12_searches_54, rfl⟩ rfl rfl ?_
        refine G_iload_6 (nx := 58) ⟨dX12_searches_56, rfl⟩ ?_
        refine G_ifeq (tgt := 65) (nx := 61) ⟨dX12_searches_58, rfl⟩ rfl (fun c_58 => ?_) (fun c_58 => ?_)
        · exact absurd c_58 (by decide)
        · refine G_iconst (nx := 62) ⟨dX12_searches_61, rfl⟩ ci_m1 ?_
          refine G_goto (tgt := 70) ⟨dX12_searches_62, rfl⟩ rfl ?_
          refine G_istore_7 (nx := 72) ⟨dX12_searches_70, rfl⟩ rfl rfl ?_
          exact fin true none I2 (decide_eq_true (by omega)).symm rfl (hG1.sb hs2 rfl (fun _ => rfl)) ((hx1 none true).1.sb hs2 rfl rfl rfl rfl (fun _ => rfl) (fun _ => rfl)) (hx1 none true).2 (hs1.tr (hs2.mono (fun a b h => or_f (or_f (or_f h)))))

    refine G_aload_0 (nx := 1) ⟨dX12_searches_0, rfl⟩ ?_
    refine G_geti (nx := 4) (k := 75) ⟨dX12_searches_1, rfl⟩ fX12_259 q_75 yi_12_16 ?_
    rw [hx.1]
    refine G_istore_5 (nx := 6) ⟨dX12_searches_4, rfl⟩ rfl rfl ?_
    refine G_aload_0 (nx := 7) ⟨dX12_searches_6, rfl⟩ ?_
    refine G_dup (nx := 8) ⟨dX12_searches_7, rfl⟩ rfl ?_
    refine G_geti (nx := 11) (k := 75) ⟨dX12_searches_8, rfl⟩ fX12_259 q_75 yi_12_16 ?_
    rw [hx.1]
    refine G_iconst (nx := 12) ⟨dX12_searches_11, rfl⟩ ci_1 ?_
    refine G_iadd (nx := 13) ⟨dX12_searches_12, rfl⟩ ?_
    rw [nI_1]
    refine G_puti (nx := 16) (k := 75) ⟨dX12_searches_13, rfl⟩ pX12_259 q_75 yt_12_16 ?_
    refine G_aload_0 (nx := 17) ⟨dX12_searches_16, rfl⟩ ?_
    refine G_iload_4 (nx := 19) ⟨dX12_searches_17, rfl⟩ ?_
    refine G_aload_0 (nx := 20) ⟨dX12_searches_19, rfl⟩ ?_
    refine G_geti (nx := 23) (k := 75) ⟨dX12_searches_20, rfl⟩ fX12_262 q_75 yi_12_18 ?_
    rw [w2_ne _ _ _ _ (by decide), hx.2.2.1]
    refine G_icmple (tgt := 31) (nx := 26) ⟨dX12_searches_23, rfl⟩ rfl (fun c_23 => ?_) (fun c_23 => ?_)
    · refine G_aload_0 (nx := 32) ⟨dX12_searches_31, rfl⟩ ?_
      refine G_geti (nx := 35) (k := 75) ⟨dX12_searches_32, rfl⟩ fX12_262 q_75 yi_12_18 ?_
      
      refine G_puti (nx := 38) (k := 75) ⟨dX12_searches_35, rfl⟩ pX12_262 q_75 yt_12_18 ?_
      rw [nI_le_iff (by omega) (by omega)] at c_23
      refine mid _ ((hG.w (by decide) (by decide)).w (by decide) (by decide)) (fun po rf => ⟨⟨?_, ?_, ?_, ?_, fun i nd hi hw => ?_, fun i nd hi hw => ?_⟩, ?_⟩) ((sb.rf.w rfl).w rfl)
      · rw [w2_ne _ _ _ _ (by decide), w2_at, List.length_append]; rfl
      · rw [w2_ne _ _ _ _ (by decide), w2_ne _ _ _ _ (by decide)]; exact hx.2.1
      · rw [w2_at, dpm_app]
        show _ = nI (if dpm t < dp then dp else dpm t)
        rw [if_neg (by omega), w2_ne _ _ _ _ (by decide)]
        exact hx.2.2.1
      · rw [w2_ne _ _ _ _ (by decide), w2_ne _ _ _ _ (by decide)]; exact hx.2.2.2.1
      · rw [w2_row _ _ _ _ (show ¬ 86 = 75 by decide), w2_row _ _ _ _ (show ¬ 86 = 75 by decide)]; exact hx.2.2.2.2.1 i nd hi hw
      · rw [w2_row _ _ _ _ (show ¬ 85 = 75 by decide), w2_row _ _ _ _ (show ¬ 85 = 75 by decide)]; exact hx.2.2.2.2.2 i nd hi hw
      · rw [dpm_app]
        show (if dpm t < dp then dp else dpm t) ≤ 13
        split <;> omega
    · refine G_iload_4 (nx := 28) ⟨dX12_searches_26, rfl⟩ ?_
      refine G_goto (tgt := 35) ⟨dX12_searches_28, rfl⟩ rfl ?_
      
      refine G_puti (nx := 38) (k := 75) ⟨dX12_searches_35, rfl⟩ pX12_262 q_75 yt_12_18 ?_
      rw [nI_le_iff (by omega) (by omega)] at c_23
      refine mid _ ((hG.w (by decide) (by decide)).w (by decide) (by decide)) (fun po rf => ⟨⟨?_, ?_, ?_, ?_, fun i nd hi hw => ?_, fun i nd hi hw => ?_⟩, ?_⟩) ((sb.rf.w rfl).w rfl)
      · rw [w2_ne _ _ _ _ (by decide), w2_at, List.length_append]; rfl
      · rw [w2_ne _ _ _ _ (by decide), w2_ne _ _ _ _ (by decide)]; exact hx.2.1
      · rw [w2_at, dpm_app]
        show _ = nI (if dpm t < dp then dp else dpm t)
        rw [if_pos (by omega)]
      · rw [w2_ne _ _ _ _ (by decide), w2_ne _ _ _ _ (by decide)]; exact hx.2.2.2.1
      · rw [w2_row _ _ _ _ (show ¬ 86 = 75 by decide), w2_row _ _ _ _ (show ¬ 86 = 75 by decide)]; exact hx.2.2.2.2.1 i nd hi hw
      · rw [w2_row _ _ _ _ (show ¬ 85 = 75 by decide), w2_row _ _ _ _ (show ¬ 85 = 75 by decide)]; exact hx.2.2.2.2.2 i nd hi hw
      · rw [dpm_app]
        show (if dpm t < dp then dp else dpm t) ≤ 13
        split <;> omega

def sr0 (n : Nat) (gr : Nat → Nat) (k : Nat) : Prop := True
theorem cM_searchFor {k : Nat} {wt : Int32} (hG : MG I n gr) (hk0 : k ≤ 12) (hk : ∀ (I' : AI), SX I' (sr n gr 13 (2 ^ n - 1) 0 k 0).1 (sr n gr 13 (2 ^ n - 1) 0 k 0).1 (sr n gr 13 (2 ^ n - 1) 0 k 0).1 (sr n gr 13 (2 ^ n - 1) 0 k 0).1 (sr n gr 13 (2 ^ n - 1) 0 k 0).1 wt → sb fT I I' → K (.int (mv (sr n gr 13 (2 ^ n - 1) 0 k 0).2)) I' J (rX g)) : G l (d + 28) mX12_searchFor K 0 [.ref 75, .int (nI k), .int wt] [] I J (rX g) := by
  have hpl := pc_le (2 ^ n - 1)
  refine G_aload_0 (nx := 1) ⟨dX12_searchFor_0, rfl⟩ ?_
  refine G_iconst (nx := 2) ⟨dX12_searchFor_1, rfl⟩ ci_0 ?_
  refine G_puti (nx := 5) (k := 75) ⟨dX12_searchFor_2, rfl⟩ pX12_259 q_75 yt_12_16 ?_
  refine G_aload_0 (nx := 6) ⟨dX12_searchFor_5, rfl⟩ ?_
  refine G_iconst (nx := 7) ⟨dX12_searchFor_6, rfl⟩ ci_0 ?_
  refine G_puti (nx := 10) (k := 75) ⟨dX12_searchFor_7, rfl⟩ pX12_271 q_75 yt_12_17 ?_
  refine G_aload_0 (nx := 11) ⟨dX12_searchFor_10, rfl⟩ ?_
  refine G_iconst (nx := 12) ⟨dX12_searchFor_11, rfl⟩ ci_0 ?_
  refine G_puti (nx := 15) (k := 75) ⟨dX12_searchFor_12, rfl⟩ pX12_262 q_75 yt_12_18 ?_
  refine G_aload_0 (nx := 16) ⟨dX12_searchFor_15, rfl⟩ ?_
  refine G_iload_2 (nx := 17) ⟨dX12_searchFor_16, rfl⟩ ?_
  refine G_puti (nx := 20) (k := 75) ⟨dX12_searchFor_17, rfl⟩ pX12_268 q_75 yt_12_19 ?_
  refine G_aload_0 (nx := 21) ⟨dX12_searchFor_20, rfl⟩ ?_
  refine G_aload_0 (nx := 22) ⟨dX12_searchFor_21, rfl⟩ ?_
  refine G_cv0 (nx := 25) ⟨dX12_searchFor_22, rfl⟩ kX12_129 rfl q_75 rfl (Nat.le_of_ble_eq_true rfl) (Nat.le_of_ble_eq_true rfl) (cM_all ((((hG.w (by decide) (by decide)).w (by decide) (by decide)).w (by decide) (by decide)).w (by decide) (by decide)) ?_)
  refine G_iconst (nx := 26) ⟨dX12_searchFor_25, rfl⟩ ci_0 ?_
  refine G_iload_1 (nx := 27) ⟨dX12_searchFor_26, rfl⟩ ?_
  refine G_iconst (nx := 28) ⟨dX12_searchFor_27, rfl⟩ ci_0 ?_
  rw [← iI_nat, show (0 : Int32) = nI 0 from nI_0.symm]
  refine G_cv4 (nx := 31) ⟨dX12_searchFor_28, rfl⟩ kX12_274 rfl q_75 rfl (Nat.le_of_ble_eq_true rfl) (Nat.le_of_ble_eq_true rfl) (cM_searches (d := d) 13 _ _ (2 ^ n - 1) 0 k 0 [] wt ((((hG.w (by decide) (by decide)).w (by decide) (by decide)).w (by decide) (by decide)).w (by decide) (by decide)) (allLt n) (Nat.two_pow_pos n) (by omega) (by omega) (by omega) (by omega) (by decide) ⟨?_, ?_, ?_, ?_, fun i nd _ h => (by cases h), fun i nd h => (by cases h)⟩ (by decide) (fun I1 hx1 hd1 hs1 => ?_))
  · rw [w2_ne _ _ _ _ (by decide), w2_ne _ _ _ _ (by decide), w2_ne _ _ _ _ (by decide), w2_at]; rfl
  · rw [w2_ne _ _ _ _ (by decide), w2_ne _ _ _ _ (by decide), w2_at]; rfl
  · rw [w2_ne _ _ _ _ (by decide), w2_at]; rfl
  · rw [w2_at]
  · refine G_iret ⟨dX12_searchFor_31, rfl⟩ rfl ?_
    exact hk I1 hx1 (((((sb.rf.w rfl).w rfl).w rfl).w rfl).tr (hs1.mono (fun a b h => or_f h)))

end M29
