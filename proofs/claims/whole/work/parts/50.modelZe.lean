
def f87 (a _ : Nat) : Bool := a == 87
/-- the purses before the first payment -/
def pu0 (I : AI) (gr : Nat → Nat) (p : Nat) : Int32 := cst (I 76 p) (I 77 p) (nI (pc (gr p))) (nI p)
section M50
variable {l : Launch} {d : Nat} {K : AK} {I : AI} {J : AJ} {g : Bool} {n : Nat} {gr : Nat → Nat}

theorem lM_pay1 {a b s t : Int32} (hG : MG I n gr) (hgo : ∀ (I' : AI), (∀ j, j < n → I' 87 j = pu0 I gr j) → sb f87 I I' → G l (d + 2) mX12_payments K 36 [.ref 75, .int a, .int b, .int s, .int t, .int (nI n), UU, UU] [] I' J (rX g)) : ∀ (k i : Nat) (I1 : AI), n - i = k → i ≤ n → (∀ j, j < i → I1 87 j = pu0 I gr j) → sb f87 I I1 → G l (d + 2) mX12_payments K 8 [.ref 75, .int a, .int b, .int s, .int t, .int (nI i), UU, UU] [] I1 J (rX g) := by
  intro k
  induction k using Nat.strongRecOn with
  | _ k ih =>
  intro i I1 hik hi hp hs1
  have hn := hG.2.1
  have hG1 : MG I1 n gr := hG.sb hs1 rfl (fun _ => rfl)
  have e0 := hG1.1
  have eci := cl_nI (p := i) (by omega)
  refine G_iload_5 (nx := 10) ⟨dX12_payments_8, rfl⟩ ?_
  refine G_aload_0 (nx := 11) ⟨dX12_payments_10, rfl⟩ ?_
  refine G_geti (nx := 14) (k := 75) ⟨dX12_payments_11, rfl⟩ fX12_122 q_75 yi_12_0 ?_
  rw [e0]
  refine G_icmpge (tgt := 36) (nx := 17) ⟨dX12_payments_14, rfl⟩ rfl (fun c_14 => ?_) (fun c_14 => ?_)
  · rw [nI_le_iff (by omega) (by omega)] at c_14
    have e : i = n := by omega
    subst e
    exact hgo I1 hp hs1
  · rw [nI_le_iff (by omega) (by omega)] at c_14
    have hin : i < n := by omega
    have h12 := in12 hin hn
    refine G_aload_0 (nx := 18) ⟨dX12_payments_17, rfl⟩ ?_
    refine G_getr (nx := 21) (k := 75) (r := 87) ⟨dX12_payments_18, rfl⟩ fX12_47 q_75 yr_12_23 (r_75_23 _) ?_
    refine G_iload_5 (nx := 23) ⟨dX12_payments_21, rfl⟩ ?_
    refine G_aload_0 (nx := 24) ⟨dX12_payments_23, rfl⟩ ?_
    refine G_iload_5 (nx := 26) ⟨dX12_payments_24, rfl⟩ ?_
    refine G_cv1 (nx := 29) ⟨dX12_payments_26, rfl⟩ kX12_156 rfl q_75 rfl (Nat.le_of_ble_eq_true rfl) (Nat.le_of_ble_eq_true rfl) (cM_costAt hG1 hin ?_)
    refine G_iast (nx := 30) (k := 87) ⟨dX12_payments_29, rfl⟩ q_87 (by first | assumption | decide | (unfold vp_in; decide)) ?_
    rw [eci, hs1 76 i rfl, hs1 77 i rfl]
    refine G_iinc_5 (nx := 33) ⟨dX12_payments_30, rfl⟩ ci_1 rfl ?_
    refine G_goto (tgt := 8) ⟨dX12_payments_33, rfl⟩ rfl ?_
    refine G_L (by rw [nI_1]) (ih (n - (i + 1)) (by omega) (i + 1) _ rfl (by omega) (fun j hj => ?_) (hs1.w rfl))
    by_cases e : j = i
    · subst e; rw [w2_at]; rfl
    · rw [w2_ne _ _ _ _ (by omega)]; exact hp j (by omega)

end M50
