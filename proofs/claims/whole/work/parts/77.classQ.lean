
def KRw (I : AI) (n : Nat) (gr : Nat → Nat) (k0 : Int) (i : Nat) : Prop := ∀ j, j < i → ∀ x, ks n gr (kit n gr k0 j).1 (kit n gr k0 j).2.2 = some x → I 26 j = nI x.1 ∧ I 27 j = nI x.2.1 ∧ I 28 j = nI x.2.2
section X77
variable {l : Launch} {d : Nat} {K : AK} {I : AI} {J : AJ} {g : Bool} {n : Nat} {gr : Nat → Nat}

theorem lK_reduce {k0 : Nat} (hX : XG I 1 4 n gr) (hW : WG n gr) (hk0 : k0 ≤ 12) (hk : ∀ (I' : AI), KS I' (kit n gr k0 (kR n gr k0)).1 (kit n gr k0 (kR n gr k0)).2.1 (kit n gr k0 (kR n gr k0)).2.2 (kR n gr k0) → KRw I' n gr k0 (kR n gr k0) → sb fKr I I' → K .null I' J (rX g)) : ∀ (kk i : Nat) (I1 : AI), 12 - i = kk → i ≤ 12 → (∀ j, j < i → kgo n gr k0 j = true) → KS I1 (kit n gr k0 i).1 (kit n gr k0 i).2.1 (kit n gr k0 i).2.2 i → KRw I1 n gr k0 i → sb fKr I I1 → G l (d + 6) mX3_reduce K 25 [.ref 25, .ref 1, .int (nI k0), .int (nI i)] [] I1 J (rX g) := by
  intro kk
  induction kk using Nat.strongRecOn with
  | _ kk ih =>
  intro i I1 hik hi hgo hK hRw hs1
  have hn := hX.2.1
  have hp12 := pow12 hn
  have hX1 : XG I1 1 4 n gr := hX.sb hs1 rfl (fun _ => rfl)
  obtain ⟨l1, l2⟩ := kit_lt (k0 := (k0 : Int)) hW.1 i
  obtain ⟨m1, m2⟩ := kit_k (n := n) (gr := gr) (k0 := (k0 : Int)) i
  have eT := iI_toInt (z := (kit n gr k0 i).2.2) (by omega) (by omega)
  have fin : kR n gr k0 = i → K .null I1 J (rX g) := fun e => hk I1 (by rw [e]; exact hK) (by rw [e]; exact hRw) hs1
  refine G_iload_3 (nx := 26) ⟨dX3_reduce_25, rfl⟩ ?_
  refine G_bipush (nx := 28) ⟨dX3_reduce_26, rfl⟩ cb_12 ?_
  rw [show (12 : Int32) = nI 12 by decide]
  refine G_icmpge (tgt := 58) (nx := 31) ⟨dX3_reduce_28, rfl⟩ rfl (fun c_28 => ?_) (fun c_28 => ?_)
  · refine G_vret ⟨dX3_reduce_58, rfl⟩ rfl ?_
    rw [nI_le_iff (by omega) (by omega)] at c_28
    obtain ⟨a1, a2, a3⟩ := kR_s (k0 := (k0 : Int)) hn hW.1
    refine fin ?_
    rcases Nat.lt_or_ge (kR n gr k0) i with z | z
    · rw [hgo _ z] at a2; cases a2
    · omega
  · rw [nI_le_iff (by omega) (by omega)] at c_28
    refine G_aload_0 (nx := 32) ⟨dX3_reduce_31, rfl⟩ ?_
    refine G_geti (nx := 35) (k := 25) ⟨dX3_reduce_32, rfl⟩ fX3_38 q_25 yi_3_7 ?_
    rw [hK.2.2.2]
    refine G_iflt (tgt := 58) (nx := 38) ⟨dX3_reduce_35, rfl⟩ rfl (fun c_35 => ?_) (fun c_35 => ?_)
    · refine G_vret ⟨dX3_reduce_58, rfl⟩ rfl ?_
      rw [i32_lt, toInt_0, eT] at c_35
      exact fin (kR_eq hn hW.1 hgo (by unfold kgo; rw [decide_eq_false (by omega)]; rfl))
    · rw [i32_lt, toInt_0, eT] at c_35
      refine G_aload_0 (nx := 39) ⟨dX3_reduce_38, rfl⟩ ?_
      refine G_aload_1 (nx := 40) ⟨dX3_reduce_39, rfl⟩ ?_
      refine G_getr (nx := 43) (k := 1) (r := 4) ⟨dX3_reduce_40, rfl⟩ fX3_47 q_1 yr_4_2 (r_1_2 _) ?_
      refine G_cv1 (nx := 46) ⟨dX3_reduce_43, rfl⟩ kX3_50 rfl q_25 rfl (Nat.le_of_ble_eq_true rfl) (Nat.le_of_ble_eq_true rfl) (cK_round (d := d) hX1.2 hW l1 l2 (by omega) (by omega) (by omega) hK (fun hks I2 hK2 hr2 hs2 => ?_) (fun x hks I2 hK2 hx2 hr2 hs2 => ?_))
      · refine G_ifne (tgt := 52) (nx := 49) ⟨dX3_reduce_46, rfl⟩ rfl (fun c_46 => ?_) (fun c_46 => ?_)
        · exact absurd rfl c_46
        · refine G_goto (tgt := 58) ⟨dX3_reduce_49, rfl⟩ rfl ?_
          refine G_vret ⟨dX3_reduce_58, rfl⟩ rfl ?_
          have e : kR n gr k0 = i := kR_eq hn hW.1 hgo (by unfold kgo; rw [hks]; simp)
          exact hk I2 (by rw [e]; exact hK2) (by rw [e]; exact fun j hj x hx => by rw [(hr2 j).1, (hr2 j).2.1, (hr2 j).2.2]; exact hRw j hj x hx) (hs1.tr hs2)
      · refine G_ifne (tgt := 52) (nx := 49) ⟨dX3_reduce_46, rfl⟩ rfl (fun c_46 => ?_) (fun c_46 => ?_)
        · refine G_iinc_3 (nx := 55) ⟨dX3_reduce_52, rfl⟩ ci_1 rfl ?_
          refine G_goto (tgt := 25) ⟨dX3_reduce_55, rfl⟩ rfl ?_
          have ek : kit n gr k0 (i + 1) = (df (kit n gr k0 i).1 x.2.1, (kit n gr k0 i).2.1 ||| x.2.2, (kit n gr k0 i).2.2 - (pc x.2.2 : Int)) := by
            show (match ks n gr (kit n gr k0 i).1 (kit n gr k0 i).2.2 with | some r => _ | none => _) = _
            rw [hks]
          exact G_L (by rw [nI_1]) (ih (12 - (i + 1)) (by omega) (i + 1) I2 rfl (by omega) (fun j hj => by
            by_cases e : j = i
            · rw [e]; unfold kgo; rw [hks]; simp; omega
            · exact hgo j (by omega)) (by rw [ek]; exact hK2) (fun j hj y hy => by
            by_cases e : j = i
            · rw [e, hks] at hy
              cases hy
              rw [e]
              exact hx2
            · rw [(hr2 j e).1, (hr2 j e).2.1, (hr2 j e).2.2]
              exact hRw j (by omega) y hy) (hs1.tr hs2))
        · exact absurd c_46 (by decide)

theorem cK_reduce {k0 : Nat} (hX : XG I 1 4 n gr) (hW : WG n gr) (hk0 : k0 ≤ 12) (hk : ∀ (I' : AI), KS I' (kit n gr k0 (kR n gr k0)).1 (kit n gr k0 (kR n gr k0)).2.1 (kit n gr k0 (kR n gr k0)).2.2 (kR n gr k0) → KRw I' n gr k0 (kR n gr k0) → sb fKr I I' → K .null I' J (rX g)) : G l (d + 6) mX3_reduce K 0 [.ref 25, .ref 1, .int (nI k0), UU] [] I J (rX g) := by
  refine G_aload_0 (nx := 1) ⟨dX3_reduce_0, rfl⟩ ?_
  refine G_iconst (nx := 2) ⟨dX3_reduce_1, rfl⟩ ci_0 ?_
  refine G_puti (nx := 5) (k := 25) ⟨dX3_reduce_2, rfl⟩ pX3_28 q_25 yt_3_4 ?_
  refine G_aload_0 (nx := 6) ⟨dX3_reduce_5, rfl⟩ ?_
  refine G_aload_1 (nx := 7) ⟨dX3_reduce_6, rfl⟩ ?_
  refine G_cv0 (nx := 10) ⟨dX3_reduce_7, rfl⟩ kX3_41 rfl q_1 rfl (Nat.le_of_ble_eq_true rfl) (Nat.le_of_ble_eq_true rfl) (cN_all nt1 (hX.cg (I' := w2 I 25 4 0) (by rw [w2_row _ _ _ _ (show ¬ 1 = 25 by decide)]) (fun p _ => by rw [w2_row _ _ _ _ (show ¬ 4 = 25 by decide)])) ?_)
  refine G_puti (nx := 13) (k := 25) ⟨dX3_reduce_10, rfl⟩ pX3_32 q_25 yt_3_5 ?_
  refine G_aload_0 (nx := 14) ⟨dX3_reduce_13, rfl⟩ ?_
  refine G_iconst (nx := 15) ⟨dX3_reduce_14, rfl⟩ ci_0 ?_
  refine G_puti (nx := 18) (k := 25) ⟨dX3_reduce_15, rfl⟩ pX3_35 q_25 yt_3_6 ?_
  refine G_aload_0 (nx := 19) ⟨dX3_reduce_18, rfl⟩ ?_
  refine G_iload_2 (nx := 20) ⟨dX3_reduce_19, rfl⟩ ?_
  refine G_puti (nx := 23) (k := 25) ⟨dX3_reduce_20, rfl⟩ pX3_38 q_25 yt_3_7 ?_
  refine G_iconst (nx := 24) ⟨dX3_reduce_23, rfl⟩ ci_0 ?_
  refine G_istore_3 (nx := 25) ⟨dX3_reduce_24, rfl⟩ rfl rfl ?_
  exact G_L (by rw [← nI_0]) (lK_reduce hX hW hk0 hk _ 0 _ rfl (by omega) (fun j hj => absurd hj (by omega)) ⟨by rw [w2_ne _ _ _ _ (by decide), w2_ne _ _ _ _ (by decide), w2_ne _ _ _ _ (by decide), w2_at]; rfl, by rw [w2_ne _ _ _ _ (by decide), w2_ne _ _ _ _ (by decide), w2_at]; rfl, by rw [w2_ne _ _ _ _ (by decide), w2_at]; rfl, by rw [w2_at]; exact (iI_nat k0).symm⟩ (fun j hj => absurd hj (by omega)) ((((sb.rf.w rfl).w rfl).w rfl).w rfl))

theorem cK_refuses {P ta i : Nat} {k : Int} (hP : P < 4096) (h1 : -200 ≤ k) (h2 : k ≤ 12) (hK : KS I P ta k i) (hk : K (.int (bi (decide (k < 0 ∨ 2 * k < (pc P : Int))))) I J (rX g)) : G l (d + 1) mX3_refuses K 0 [.ref 25] [] I J (rX g) := by
  have eT := iI_toInt (z := k) (by omega) (by omega)
  have hpl := pc_le P
  have e2 : (2 : Int32) * iI k = iI (2 * k) := by
    rw [show (2 : Int32) = iI 2 by decide]
    unfold iI
    rw [Int32.ofInt_mul]
  have eT2 := iI_toInt (z := 2 * k) (by omega) (by omega)
  refine G_aload_0 (nx := 1) ⟨dX3_refuses_0, rfl⟩ ?_
  refine G_geti (nx := 4) (k := 25) ⟨dX3_refuses_1, rfl⟩ fX3_38 q_25 yi_3_7 ?_
  rw [hK.2.2.2]
  refine G_iflt (tgt := 23) (nx := 7) ⟨dX3_refuses_4, rfl⟩ rfl (fun c_4 => ?_) (fun c_4 => ?_)
  · refine G_iconst (nx := 24) ⟨dX3_refuses_23, rfl⟩ ci_1 ?_
    refine G_goto (tgt := 28) ⟨dX3_refuses_24, rfl⟩ rfl ?_
    refine G_zret ⟨dX3_refuses_28, rfl⟩ rfl (by first | assumption | decide | exact bi_01 _) ?_
    rw [i32_lt, toInt_0, eT] at c_4
    rw [decide_eq_true (by omega)] at hk
    exact hk
  · refine G_aload_0 (nx := 8) ⟨dX3_refuses_7, rfl⟩ ?_
    refine G_geti (nx := 11) (k := 25) ⟨dX3_refuses_8, rfl⟩ fX3_32 q_25 yi_3_5 ?_
    rw [hK.2.1]
    refine G_cs1 (nx := 14) ⟨dX3_refuses_11, rfl⟩ kX3_72 rfl rfl (Nat.le_of_ble_eq_true rfl) (Nat.le_of_ble_eq_true rfl) (cJ_bc hP ?_)
    refine G_iconst (nx := 15) ⟨dX3_refuses_14, rfl⟩ ci_2 ?_
    refine G_aload_0 (nx := 16) ⟨dX3_refuses_15, rfl⟩ ?_
    refine G_geti (nx := 19) (k := 25) ⟨dX3_refuses_16, rfl⟩ fX3_38 q_25 yi_3_7 ?_
    rw [hK.2.2.2]
    refine G_imul (nx := 20) ⟨dX3_refuses_19, rfl⟩ ?_
    rw [e2]
    refine G_icmple (tgt := 27) (nx := 23) ⟨dX3_refuses_20, rfl⟩ rfl (fun c_20 => ?_) (fun c_20 => ?_)
    · refine G_iconst (nx := 28) ⟨dX3_refuses_27, rfl⟩ ci_0 ?_
      refine G_zret ⟨dX3_refuses_28, rfl⟩ rfl (by first | assumption | decide | exact bi_01 _) ?_
      rw [i32_lt, toInt_0, eT] at c_4
      rw [i32_le, eT2, nI_toInt (by omega)] at c_20
      rw [decide_eq_false (by omega)] at hk
      exact hk
    · refine G_iconst (nx := 24) ⟨dX3_refuses_23, rfl⟩ ci_1 ?_
      refine G_goto (tgt := 28) ⟨dX3_refuses_24, rfl⟩ rfl ?_
      refine G_zret ⟨dX3_refuses_28, rfl⟩ rfl (by first | assumption | decide | exact bi_01 _) ?_
      rw [i32_lt, toInt_0, eT] at c_4
      rw [i32_le, eT2, nI_toInt (by omega)] at c_20
      rw [decide_eq_true (by omega)] at hk
      exact hk

end X77
