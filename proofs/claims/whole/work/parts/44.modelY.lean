
def mkF (is : Nat → Int32) (i : Nat) (f : Nat → Bool) : Nat → Bool := if f i = true ∨ f (is i).toNatClampNeg = true then f else fun j => if j = (is i).toNatClampNeg then true else f j
def mkD (is : Nat → Int32) : Nat → (Nat → Bool) → Nat → Bool
  | 0, f => f
  | i + 1, f => mkD is i (mkF is (i + 1) f)
def f100 (a _ : Nat) : Bool := a == 100
section M44
variable {l : Launch} {d : Nat} {K : AK} {I : AI} {J : AJ} {g : Bool} {n : Nat} {gr : Nat → Nat}

theorem lM_mk1 {x : Int32} (hgo : ∀ (I' : AI), (∀ j, j < 60 → I' 100 j = 0) → sb f100 I I' → G l d mX12_isMarked K 21 [.ref 75, .int x, .int (nI 60)] [] I' J (rX g)) : ∀ (k i : Nat) (I1 : AI), 60 - i = k → i ≤ 60 → (∀ j, j < i → I1 100 j = 0) → sb f100 I I1 → G l d mX12_isMarked K 2 [.ref 75, .int x, .int (nI i)] [] I1 J (rX g) := by
  intro k
  induction k using Nat.strongRecOn with
  | _ k ih =>
  intro i I1 hik hi hz hs1
  have eci := cl_nI (p := i) (by omega)
  refine G_iload_2 (nx := 3) ⟨dX12_isMarked_2, rfl⟩ ?_
  refine G_bipush (nx := 5) ⟨dX12_isMarked_3, rfl⟩ cb_60 ?_
  rw [show (60 : Int32) = nI 60 by decide]
  refine G_icmpge (tgt := 21) (nx := 8) ⟨dX12_isMarked_5, rfl⟩ rfl (fun c_5 => ?_) (fun c_5 => ?_)
  · rw [nI_le_iff (by omega) (by omega)] at c_5
    have e : i = 60 := by omega
    subst e
    exact hgo I1 hz hs1
  · rw [nI_le_iff (by omega) (by omega)] at c_5
    have hi60 := in60 (p := i) (by omega)
    refine G_aload_0 (nx := 9) ⟨dX12_isMarked_8, rfl⟩ ?_
    refine G_getr (nx := 12) (k := 75) (r := 100) ⟨dX12_isMarked_9, rfl⟩ fX12_87 q_75 yr_12_39 (r_75_39 _) ?_
    refine G_iload_2 (nx := 13) ⟨dX12_isMarked_12, rfl⟩ ?_
    refine G_iconst (nx := 14) ⟨dX12_isMarked_13, rfl⟩ ci_0 ?_
    refine G_zast (nx := 15) (k := 100) ⟨dX12_isMarked_14, rfl⟩ q_100 (by first | assumption | decide | (unfold vp_in; decide)) (by first | assumption | decide) ?_
    rw [eci]
    refine G_iinc_2 (nx := 18) ⟨dX12_isMarked_15, rfl⟩ ci_1 rfl ?_
    refine G_goto (tgt := 2) ⟨dX12_isMarked_18, rfl⟩ rfl ?_
    refine G_L (by rw [nI_1]) (ih (60 - (i + 1)) (by omega) (i + 1) _ rfl (by omega) (fun j hj => ?_) (hs1.w rfl))
    by_cases e : j = i
    · subst e; rw [w2_at]
    · rw [w2_ne _ _ _ _ (by omega)]; exact hz j (by omega)

theorem lM_mk2 {m p : Nat} (hm : m ≤ 60) (hp : p < m) (hT : TP (I 91) m) : ∀ (i : Nat) (f : Nat → Bool) (I1 : AI), i < m → (∀ j, j < 60 → I1 100 j = bi (f j)) → sb f100 I I1 → (∀ (I' : AI), sb f100 I I' → K (.int (bi (mkD (I 91) i f p))) I' J (rX g)) → G l d mX12_isMarked K 28 [.ref 75, .int (nI p), .int (nI i)] [] I1 J (rX g) := by
  intro i
  induction i with
  | zero =>
    intro f I1 him hf hs1 hk
    have hip := in60 (p := p) (by omega)
    have ecp := cl_nI (p := p) (by omega)
    rw [nI_0]
    refine G_iload_2 (nx := 29) ⟨dX12_isMarked_28, rfl⟩ ?_
    refine G_ifle (tgt := 73) (nx := 32) ⟨dX12_isMarked_29, rfl⟩ rfl (fun c_29 => ?_) (fun c_29 => ?_)
    · refine G_aload_0 (nx := 74) ⟨dX12_isMarked_73, rfl⟩ ?_
      refine G_getr (nx := 77) (k := 75) (r := 100) ⟨dX12_isMarked_74, rfl⟩ fX12_87 q_75 yr_12_39 (r_75_39 _) ?_
      refine G_iload_1 (nx := 78) ⟨dX12_isMarked_77, rfl⟩ ?_
      refine G_zald (nx := 79) (k := 100) ⟨dX12_isMarked_78, rfl⟩ q_100 (by first | assumption | decide | (unfold vp_in; decide)) ?_
      rw [ecp, hf p (by omega)]
      refine G_zret ⟨dX12_isMarked_79, rfl⟩ rfl (by first | assumption | decide | exact bi_01 _) ?_
      exact hk I1 hs1
    · exact absurd (by decide) c_29

  | succ i ih =>
    intro f I1 him hf hs1 hk
    have hii := in60 (p := i + 1) (by omega)
    have eci := cl_nI (p := i + 1) (by omega)
    obtain ⟨a, ea, ha⟩ := hT.2 (i + 1) (by omega) him
    have hia := in60 (p := a) (by omega)
    have eca := cl_nI (p := a) (by omega)
    have e91 : I1 91 (i + 1) = nI a := by rw [hs1 91 (i + 1) rfl, ea]
    have em1 : nI (i + 1) + (-1) = nI i := by rw [← nI_1, Int32.add_assoc]; exact Int32.add_zero _
    rw [mkD, mkF, ea, eca] at hk
    refine G_iload_2 (nx := 29) ⟨dX12_isMarked_28, rfl⟩ ?_
    refine G_ifle (tgt := 73) (nx := 32) ⟨dX12_isMarked_29, rfl⟩ rfl (fun c_29 => ?_) (fun c_29 => ?_)
    · (rw [← nI_0, nI_le_iff (by omega) (by omega)] at c_29; omega)
    · refine G_aload_0 (nx := 33) ⟨dX12_isMarked_32, rfl⟩ ?_
      refine G_getr (nx := 36) (k := 75) (r := 100) ⟨dX12_isMarked_33, rfl⟩ fX12_87 q_75 yr_12_39 (r_75_39 _) ?_
      refine G_iload_2 (nx := 37) ⟨dX12_isMarked_36, rfl⟩ ?_
      refine G_zald (nx := 38) (k := 100) ⟨dX12_isMarked_37, rfl⟩ q_100 (by first | assumption | decide | (unfold vp_in; decide)) ?_
      rw [eci, hf (i + 1) (by omega)]
      refine G_ifne (tgt := 67) (nx := 41) ⟨dX12_isMarked_38, rfl⟩ rfl (fun c_38 => ?_) (fun c_38 => ?_)
      · try rw [eca]
        refine G_iinc_2 (nx := 70) ⟨dX12_isMarked_67, rfl⟩ ci_m1 rfl ?_
        refine G_goto (tgt := 28) ⟨dX12_isMarked_70, rfl⟩ rfl ?_
        rw [bi_n0] at c_38
        rw [if_pos (Or.inl c_38)] at hk
        exact G_L (by rw [em1]) (ih f I1 (by omega) hf hs1 hk)
      · refine G_aload_0 (nx := 42) ⟨dX12_isMarked_41, rfl⟩ ?_
        refine G_getr (nx := 45) (k := 75) (r := 100) ⟨dX12_isMarked_42, rfl⟩ fX12_87 q_75 yr_12_39 (r_75_39 _) ?_
        refine G_aload_0 (nx := 46) ⟨dX12_isMarked_45, rfl⟩ ?_
        refine G_getr (nx := 49) (k := 75) (r := 91) ⟨dX12_isMarked_46, rfl⟩ fX12_59 q_75 yr_12_29 (r_75_29 _) ?_
        refine G_iload_2 (nx := 50) ⟨dX12_isMarked_49, rfl⟩ ?_
        refine G_iald (nx := 51) (k := 91) ⟨dX12_isMarked_50, rfl⟩ q_91 (by first | assumption | decide | (unfold vp_in; decide)) ?_
        rw [eci, e91]
        refine G_zald (nx := 52) (k := 100) ⟨dX12_isMarked_51, rfl⟩ q_100 (by first | assumption | decide | (unfold vp_in; decide)) ?_
        rw [eca, hf a (by omega)]
        refine G_ifne (tgt := 67) (nx := 55) ⟨dX12_isMarked_52, rfl⟩ rfl (fun c_52 => ?_) (fun c_52 => ?_)
        · try rw [eca]
          refine G_iinc_2 (nx := 70) ⟨dX12_isMarked_67, rfl⟩ ci_m1 rfl ?_
          refine G_goto (tgt := 28) ⟨dX12_isMarked_70, rfl⟩ rfl ?_
          rw [bi_n0] at c_52
          rw [if_pos (Or.inr c_52)] at hk
          exact G_L (by rw [em1]) (ih f I1 (by omega) hf hs1 hk)
        · refine G_aload_0 (nx := 56) ⟨dX12_isMarked_55, rfl⟩ ?_
          refine G_getr (nx := 59) (k := 75) (r := 100) ⟨dX12_isMarked_56, rfl⟩ fX12_87 q_75 yr_12_39 (r_75_39 _) ?_
          refine G_aload_0 (nx := 60) ⟨dX12_isMarked_59, rfl⟩ ?_
          refine G_getr (nx := 63) (k := 75) (r := 91) ⟨dX12_isMarked_60, rfl⟩ fX12_59 q_75 yr_12_29 (r_75_29 _) ?_
          refine G_iload_2 (nx := 64) ⟨dX12_isMarked_63, rfl⟩ ?_
          refine G_iald (nx := 65) (k := 91) ⟨dX12_isMarked_64, rfl⟩ q_91 (by first | assumption | decide | (unfold vp_in; decide)) ?_
          rw [eci, e91]
          refine G_iconst (nx := 66) ⟨dX12_isMarked_65, rfl⟩ ci_1 ?_
          refine G_zast (nx := 67) (k := 100) ⟨dX12_isMarked_66, rfl⟩ q_100 (by first | assumption | decide | (unfold vp_in; decide)) (by first | assumption | decide) ?_
          try rw [eca]
          refine G_iinc_2 (nx := 70) ⟨dX12_isMarked_67, rfl⟩ ci_m1 rfl ?_
          refine G_goto (tgt := 28) ⟨dX12_isMarked_70, rfl⟩ rfl ?_
          rw [bi_0] at c_38
          rw [bi_0] at c_52
          rw [if_neg (by rw [c_38, c_52]; decide)] at hk
          refine G_L (by rw [em1]) (ih _ _ (by omega) (fun j hj => ?_) (hs1.w rfl) hk)
          by_cases e : j = a
          · subst e; rw [w2_at, if_pos rfl]; rfl
          · rw [w2_ne _ _ _ _ (by omega), if_neg e]; exact hf j hj

theorem cM_isMarked {m p : Nat} (h26 : I 75 26 = nI m) (hm : m ≤ 60) (hp : p < m) (hT : TP (I 91) m) (hk : ∀ (I' : AI), sb f100 I I' → K (.int (bi (mkD (I 91) (m - 1) (fun _ => false) p))) I' J (rX g)) : G l d mX12_isMarked K 0 [.ref 75, .int (nI p), UU] [] I J (rX g) := by
  refine G_iconst (nx := 1) ⟨dX12_isMarked_0, rfl⟩ ci_0 ?_
  refine G_istore_2 (nx := 2) ⟨dX12_isMarked_1, rfl⟩ rfl rfl ?_
  refine G_L (by rw [← nI_0]) (lM_mk1 (I := I) (fun I1 hz hs1 => ?_) _ 0 I rfl (by omega) (fun j hj => absurd hj (by omega)) sb.rf)
  refine G_aload_0 (nx := 22) ⟨dX12_isMarked_21, rfl⟩ ?_
  refine G_geti (nx := 25) (k := 75) ⟨dX12_isMarked_22, rfl⟩ fX12_165 q_75 yi_12_26 ?_
  rw [hs1 75 26 rfl, h26]
  refine G_iconst (nx := 26) ⟨dX12_isMarked_25, rfl⟩ ci_1 ?_
  refine G_isub (nx := 27) ⟨dX12_isMarked_26, rfl⟩ ?_
  rw [show (1 : Int32) = nI 1 by decide, nI_sub (by omega)]
  refine G_istore_2 (nx := 28) ⟨dX12_isMarked_27, rfl⟩ rfl rfl ?_
  exact lM_mk2 hm hp hT (m - 1) (fun _ => false) I1 (by omega) (fun j hj => hz j hj) hs1 hk
  

end M44
