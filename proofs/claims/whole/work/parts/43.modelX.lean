
def TP (is : Nat → Int32) (m : Nat) : Prop := (0 < m → is 0 = -1) ∧ ∀ i, 0 < i → i < m → ∃ a, is i = nI a ∧ a < i
/-- is q on the way up from p -/
def upB (is : Nat → Int32) (q : Nat) : Nat → Nat → Bool
  | 0, _ => false
  | f + 1, p => if is p = -1 then false else if is p = nI q then true else upB is q f (is p).toNatClampNeg
section M43
variable {l : Launch} {d : Nat} {K : AK} {I : AI} {J : AJ} {g : Bool} {n : Nat} {gr : Nat → Nat}

theorem lM_isUnder {m q p0 : Nat} (hm : m ≤ 60) (hq : q < m) (hT : TP (I 91) m) (hp0 : p0 < m) : ∀ (f p : Nat), p < f → p < m → K (.int (bi (upB (I 91) q f p))) I J (rX g) → G l d mX12_isUnder K 7 [.ref 75, .int (nI p0), .int (nI q), .int (I 91 p)] [] I J (rX g) := by
  intro f
  induction f with
  | zero => intro p h; omega
  | succ f ih =>
    intro p hpf hpm hk
    rw [upB] at hk
    by_cases e0 : I 91 p = -1
    · rw [if_pos e0] at hk
      rw [e0]
      refine G_iload_3 (nx := 8) ⟨dX12_isUnder_7, rfl⟩ ?_
      refine G_iconst (nx := 9) ⟨dX12_isUnder_8, rfl⟩ ci_m1 ?_
      refine G_icmpeq (tgt := 27) (nx := 12) ⟨dX12_isUnder_9, rfl⟩ rfl (fun c_9 => ?_) (fun c_9 => ?_)
      · refine G_iload_3 (nx := 28) ⟨dX12_isUnder_27, rfl⟩ ?_
        refine G_iload_2 (nx := 29) ⟨dX12_isUnder_28, rfl⟩ ?_
        refine G_icmpne (tgt := 36) (nx := 32) ⟨dX12_isUnder_29, rfl⟩ rfl (fun c_29 => ?_) (fun c_29 => ?_)
        · refine G_iconst (nx := 37) ⟨dX12_isUnder_36, rfl⟩ ci_0 ?_
          refine G_zret ⟨dX12_isUnder_37, rfl⟩ rfl (by first | assumption | decide | exact bi_01 _) ?_
          exact hk
        · exact absurd c_29.symm (nI_ne_m1 (by omega))
      · exact absurd rfl c_9

    · rw [if_neg e0] at hk
      by_cases e1 : I 91 p = nI q
      · rw [if_pos e1] at hk
        rw [e1]
        refine G_iload_3 (nx := 8) ⟨dX12_isUnder_7, rfl⟩ ?_
        refine G_iconst (nx := 9) ⟨dX12_isUnder_8, rfl⟩ ci_m1 ?_
        refine G_icmpeq (tgt := 27) (nx := 12) ⟨dX12_isUnder_9, rfl⟩ rfl (fun c_9 => ?_) (fun c_9 => ?_)
        · exact absurd c_9 (nI_ne_m1 (by omega))
        · refine G_iload_3 (nx := 13) ⟨dX12_isUnder_12, rfl⟩ ?_
          refine G_iload_2 (nx := 14) ⟨dX12_isUnder_13, rfl⟩ ?_
          refine G_icmpeq (tgt := 27) (nx := 17) ⟨dX12_isUnder_14, rfl⟩ rfl (fun c_14 => ?_) (fun c_14 => ?_)
          · refine G_iload_3 (nx := 28) ⟨dX12_isUnder_27, rfl⟩ ?_
            refine G_iload_2 (nx := 29) ⟨dX12_isUnder_28, rfl⟩ ?_
            refine G_icmpne (tgt := 36) (nx := 32) ⟨dX12_isUnder_29, rfl⟩ rfl (fun c_29 => ?_) (fun c_29 => ?_)
            · exact absurd rfl c_29
            · refine G_iconst (nx := 33) ⟨dX12_isUnder_32, rfl⟩ ci_1 ?_
              refine G_goto (tgt := 37) ⟨dX12_isUnder_33, rfl⟩ rfl ?_
              refine G_zret ⟨dX12_isUnder_37, rfl⟩ rfl (by first | assumption | decide | exact bi_01 _) ?_
              exact hk
          · exact absurd rfl c_14

      · rw [if_neg e1] at hk
        obtain ⟨a, ea, ha⟩ : ∃ a, I 91 p = nI a ∧ a < p := by
          rcases Nat.eq_zero_or_pos p with h | h
          · subst h; exact absurd (hT.1 (by omega)) e0
          · exact hT.2 p h hpm
        have hia := in60 (p := a) (by omega)
        have eca := cl_nI (p := a) (by omega)
        rw [ea] at e0 e1 hk ⊢
        rw [eca] at hk
        refine G_iload_3 (nx := 8) ⟨dX12_isUnder_7, rfl⟩ ?_
        refine G_iconst (nx := 9) ⟨dX12_isUnder_8, rfl⟩ ci_m1 ?_
        refine G_icmpeq (tgt := 27) (nx := 12) ⟨dX12_isUnder_9, rfl⟩ rfl (fun c_9 => ?_) (fun c_9 => ?_)
        · exact absurd c_9 e0
        · refine G_iload_3 (nx := 13) ⟨dX12_isUnder_12, rfl⟩ ?_
          refine G_iload_2 (nx := 14) ⟨dX12_isUnder_13, rfl⟩ ?_
          refine G_icmpeq (tgt := 27) (nx := 17) ⟨dX12_isUnder_14, rfl⟩ rfl (fun c_14 => ?_) (fun c_14 => ?_)
          · exact absurd c_14 e1
          · refine G_aload_0 (nx := 18) ⟨dX12_isUnder_17, rfl⟩ ?_
            refine G_getr (nx := 21) (k := 75) (r := 91) ⟨dX12_isUnder_18, rfl⟩ fX12_59 q_75 yr_12_29 (r_75_29 _) ?_
            refine G_iload_3 (nx := 22) ⟨dX12_isUnder_21, rfl⟩ ?_
            refine G_iald (nx := 23) (k := 91) ⟨dX12_isUnder_22, rfl⟩ q_91 (by first | assumption | decide | (unfold vp_in; decide)) ?_
            rw [eca]
            refine G_istore_3 (nx := 24) ⟨dX12_isUnder_23, rfl⟩ rfl rfl ?_
            refine G_goto (tgt := 7) ⟨dX12_isUnder_24, rfl⟩ rfl ?_
            exact ih a (by omega) (by omega) hk

theorem cM_isUnder {m p q : Nat} (hm : m ≤ 60) (hq : q < m) (hT : TP (I 91) m) (hp : p < m) (hk : K (.int (bi (upB (I 91) q (p + 1) p))) I J (rX g)) : G l d mX12_isUnder K 0 [.ref 75, .int (nI p), .int (nI q), UU] [] I J (rX g) := by
  have hip := in60 (p := p) (by omega)
  have ecp := cl_nI (p := p) (by omega)
  refine G_aload_0 (nx := 1) ⟨dX12_isUnder_0, rfl⟩ ?_
  refine G_getr (nx := 4) (k := 75) (r := 91) ⟨dX12_isUnder_1, rfl⟩ fX12_59 q_75 yr_12_29 (r_75_29 _) ?_
  refine G_iload_1 (nx := 5) ⟨dX12_isUnder_4, rfl⟩ ?_
  refine G_iald (nx := 6) (k := 91) ⟨dX12_isUnder_5, rfl⟩ q_91 (by first | assumption | decide | (unfold vp_in; decide)) ?_
  rw [ecp]
  refine G_istore_3 (nx := 7) ⟨dX12_isUnder_6, rfl⟩ rfl rfl ?_
  exact lM_isUnder hm hq hT hp (p + 1) p (by omega) hp hk

end M43
