
theorem EM_pc {n : Nat} {gr : Nat → Nat} {A B : Nat} (hn : n ≤ 12) (hA : A < 2 ^ n) (hB : B < 2 ^ n) (h : EM gr A B) : pc A ≤ pc B := by
  have hp12 := pow12 hn
  have := EM_le (X := fun _ => false) (Y := fun x => B.testBit x) (by omega) (by omega) h (fun r q _ hq _ => Or.inr hq)
  rw [cn_false, pc_cn B] at *
  omega
theorem crB_t {n : Nat} {gr : Nat → Nat} {s : Nat} : crB n gr s = true ↔ ¬ s = 0 ∧ s &&& ntN n gr s = 0 ∧ EM gr (ntN n gr s) s := by unfold crB; exact @decide_eq_true_iff _ (Classical.propDecidable _)
theorem crN_lt {n : Nat} {gr : Nat → Nat} : ∀ k, k ≤ 2 ^ n → (lp (crF n gr) k (0, 0)).2 < 2 ^ n ∧ (lp (crF n gr) k (0, 0)).1 ≤ k := by
  intro k
  induction k with
  | zero => intro _; exact ⟨Nat.two_pow_pos n, Nat.le_refl _⟩
  | succ k ih =>
    intro hk
    obtain ⟨h1, h2⟩ := ih (by omega)
    rw [lp_s, crF]
    split
    · refine ⟨?_, by show _ + 1 ≤ _; omega⟩
      show (if _ then k else _) < _
      split <;> omega
    · exact ⟨h1, by omega⟩
theorem crF_1 {n : Nat} {gr : Nat → Nat} : lp (crF n gr) 1 (0, 0) = (0, 0) := by
  rw [lp_s, lp_0, crF, if_neg]
  rw [crB_t]
  exact fun h => h.1 rfl
/-- what the class writes as it looks for crowns -/
def fW (x _ : Nat) : Bool := x == 21 || x == 24 || (decide (16 ≤ x) && decide (x ≤ 20))
theorem sb_MW {I I' : AI} (h : sb (fMp 16) I I') : sb fW I I' := h.mono (fun x y hf => by
  simp only [fW, Bool.or_eq_false_iff, Bool.and_eq_false_iff, beq_eq_false_iff_ne, decide_eq_false_iff_not] at hf
  exact fMp_f (by omega))
section X75
variable {l : Launch} {d : Nat} {K : AK} {I : AI} {J : AJ} {g : Bool} {n : Nat} {gr : Nat → Nat}

theorem cW_isOne {s : Nat} (hX : XG I 1 4 n gr) (hs : s < 2 ^ n) (hk : ∀ (I' : AI), sb (fMp 16) I I' → K (.int (bi (crB n gr s))) I' J (rX g)) : G l (d + 3) mX1_isOne K 0 [.ref 1, .ref 16, .int (nI s), .int (nI (ntN n gr s)), UU] [] I J (rX g) := by
  have hn := hX.2.1
  have hp12 := pow12 hn
  have hnt := ntN_lt hX.2.2.2 s n (Nat.le_refl n)
  have hpl := pc_le s
  have hpl2 := pc_le (ntN n gr s)
  have hand : ntN n gr s &&& s ≤ s := Nat.and_le_right
  have htl : tau gr (ntN n gr s) s ≤ pc (ntN n gr s) := tau_le_pc
  have hEt := EM_tau (gr := gr) hn hnt hs
  have fls : ¬ (¬ s = 0 ∧ s &&& ntN n gr s = 0 ∧ EM gr (ntN n gr s) s) → crB n gr s = false := fun h => by
    cases q : crB n gr s with
    | false => rfl
    | true => exact absurd (crB_t.mp q) h
  refine G_iload_3 (nx := 1) ⟨dX1_isOne_0, rfl⟩ ?_
  refine G_cs1 (nx := 4) ⟨dX1_isOne_1, rfl⟩ kX1_16 rfl rfl (Nat.le_of_ble_eq_true rfl) (Nat.le_of_ble_eq_true rfl) (cJ_bc (by omega) ?_)
  refine G_istore_4 (nx := 6) ⟨dX1_isOne_4, rfl⟩ rfl rfl ?_
  refine G_iload_2 (nx := 7) ⟨dX1_isOne_6, rfl⟩ ?_
  refine G_ifeq (tgt := 25) (nx := 10) ⟨dX1_isOne_7, rfl⟩ rfl (fun c_7 => ?_) (fun c_7 => ?_)
  · refine G_iconst (nx := 26) ⟨dX1_isOne_25, rfl⟩ ci_0 ?_
    refine G_zret ⟨dX1_isOne_26, rfl⟩ rfl (by first | assumption | decide | exact bi_01 _) ?_
    rw [nI_0iff (by omega)] at c_7
    have fin := hk I sb.rf
    rw [fls (fun h => h.1 c_7)] at fin
    exact fin
  · refine G_iload_3 (nx := 11) ⟨dX1_isOne_10, rfl⟩ ?_
    refine G_iload_2 (nx := 12) ⟨dX1_isOne_11, rfl⟩ ?_
    refine G_iand (nx := 13) ⟨dX1_isOne_12, rfl⟩ ?_
    refine G_ifne (tgt := 25) (nx := 16) ⟨dX1_isOne_13, rfl⟩ rfl (fun c_13 => ?_) (fun c_13 => ?_)
    · refine G_iconst (nx := 26) ⟨dX1_isOne_25, rfl⟩ ci_0 ?_
      refine G_zret ⟨dX1_isOne_26, rfl⟩ rfl (by first | assumption | decide | exact bi_01 _) ?_
      rw [nI_0iff (by omega)] at c_7
      rw [nI_and, nI_0iff (by omega), Nat.and_comm] at c_13
      have fin := hk I sb.rf
      rw [fls (fun h => c_13 h.2.1)] at fin
      exact fin
    · refine G_iload_4 (nx := 18) ⟨dX1_isOne_16, rfl⟩ ?_
      refine G_iload_2 (nx := 19) ⟨dX1_isOne_18, rfl⟩ ?_
      refine G_cs1 (nx := 22) ⟨dX1_isOne_19, rfl⟩ kX1_16 rfl rfl (Nat.le_of_ble_eq_true rfl) (Nat.le_of_ble_eq_true rfl) (cJ_bc (by omega) ?_)
      refine G_icmple (tgt := 27) (nx := 25) ⟨dX1_isOne_22, rfl⟩ rfl (fun c_22 => ?_) (fun c_22 => ?_)
      · refine G_iload_4 (nx := 29) ⟨dX1_isOne_27, rfl⟩ ?_
        refine G_ifeq (tgt := 47) (nx := 32) ⟨dX1_isOne_29, rfl⟩ rfl (fun c_29 => ?_) (fun c_29 => ?_)
        · refine G_iconst (nx := 48) ⟨dX1_isOne_47, rfl⟩ ci_1 ?_
          refine G_goto (tgt := 52) ⟨dX1_isOne_48, rfl⟩ rfl ?_
          refine G_zret ⟨dX1_isOne_52, rfl⟩ rfl (by first | assumption | decide | exact bi_01 _) ?_
          rw [nI_0iff (by omega)] at c_7
          rw [nI_and, nI_0iff (by omega), Nat.and_comm] at c_13
          rw [nI_le_iff (by omega) (by omega)] at c_22
          rw [nI_0iff (by omega)] at c_29
          have fin := hk I sb.rf
          rw [crB_t.mpr ⟨c_7, c_13, (by have h0 := pc_0 (by omega) c_29; rw [h0]; exact EM_0 gr s)⟩] at fin
          exact fin
        · refine G_aload_1 (nx := 33) ⟨dX1_isOne_32, rfl⟩ ?_
          refine G_aload_0 (nx := 34) ⟨dX1_isOne_33, rfl⟩ ?_
          refine G_getr (nx := 37) (k := 1) (r := 4) ⟨dX1_isOne_34, rfl⟩ fX1_22 q_1 yr_4_2 (r_1_2 _) ?_
          refine G_iload_3 (nx := 38) ⟨dX1_isOne_37, rfl⟩ ?_
          refine G_iload_2 (nx := 39) ⟨dX1_isOne_38, rfl⟩ ?_
          refine G_cv3 (nx := 42) ⟨dX1_isOne_39, rfl⟩ kX1_28 rfl q_16 rfl (Nat.le_of_ble_eq_true rfl) (Nat.le_of_ble_eq_true rfl) (cH_most (d := d) ht16 q_4 (by decide) hX.2 hnt hs (fun I1 hs1 => ?_))
          refine G_iload_4 (nx := 44) ⟨dX1_isOne_42, rfl⟩ ?_
          refine G_icmpne (tgt := 51) (nx := 47) ⟨dX1_isOne_44, rfl⟩ rfl (fun c_44 => ?_) (fun c_44 => ?_)
          · refine G_iconst (nx := 52) ⟨dX1_isOne_51, rfl⟩ ci_0 ?_
            refine G_zret ⟨dX1_isOne_52, rfl⟩ rfl (by first | assumption | decide | exact bi_01 _) ?_
            rw [nI_0iff (by omega)] at c_7
            rw [nI_and, nI_0iff (by omega), Nat.and_comm] at c_13
            rw [nI_le_iff (by omega) (by omega)] at c_22
            rw [nI_0iff (by omega)] at c_29
            rw [nI_eq (by omega) (by omega), ← hEt] at c_44
            have fin := hk I1 hs1
            rw [fls (fun h => c_44 h.2.2)] at fin
            exact fin
          · refine G_iconst (nx := 48) ⟨dX1_isOne_47, rfl⟩ ci_1 ?_
            refine G_goto (tgt := 52) ⟨dX1_isOne_48, rfl⟩ rfl ?_
            refine G_zret ⟨dX1_isOne_52, rfl⟩ rfl (by first | assumption | decide | exact bi_01 _) ?_
            rw [nI_0iff (by omega)] at c_7
            rw [nI_and, nI_0iff (by omega), Nat.and_comm] at c_13
            rw [nI_le_iff (by omega) (by omega)] at c_22
            rw [nI_0iff (by omega)] at c_29
            rw [nI_eq (by omega) (by omega), ← hEt] at c_44
            have fin := hk I1 hs1
            rw [crB_t.mpr ⟨c_7, c_13, c_44⟩] at fin
            exact fin
      · refine G_iconst (nx := 26) ⟨dX1_isOne_25, rfl⟩ ci_0 ?_
        refine G_zret ⟨dX1_isOne_26, rfl⟩ rfl (by first | assumption | decide | exact bi_01 _) ?_
        rw [nI_0iff (by omega)] at c_7
        rw [nI_and, nI_0iff (by omega), Nat.and_comm] at c_13
        rw [nI_le_iff (by omega) (by omega)] at c_22
        have fin := hk I sb.rf
        rw [fls (fun h => c_22 (EM_pc hn hnt hs h.2.2))] at fin
        exact fin

theorem lW_find (hX : XG I 1 4 n gr) (hk : ∀ (I' : AI), I' 24 0 = nI (crN n gr).1 → I' 24 1 = nI (crN n gr).2 → sb fW I I' → K .null I' J (rX g)) : ∀ (kk s : Nat) (I1 : AI), 2 ^ n - s = kk → 0 < s → s ≤ 2 ^ n → I1 24 0 = nI (lp (crF n gr) s (0, 0)).1 → I1 24 1 = nI (lp (crF n gr) s (0, 0)).2 → SP I1 n gr → sb fW I I1 → G l (d + 4) mX1_find K 24 [.ref 24, .ref 1, .ref 16, .ref 22, .int (nI (2 ^ n - 1)), .int (nI s)] [] I1 J (rX g) := by
  intro kk
  induction kk using Nat.strongRecOn with
  | _ kk ih =>
  intro s I1 hsk h0 hsn e0 e1 hS hs1
  have hn := hX.2.1
  have hp12 := pow12 hn
  have hX1 : XG I1 1 4 n gr := hX.sb hs1 rfl (fun _ => rfl)
  obtain ⟨hc1, hc2⟩ := crN_lt (gr := gr) s hsn
  refine G_iload_5 (nx := 26) ⟨dX1_find_24, rfl⟩ ?_
  refine G_iload_4 (nx := 28) ⟨dX1_find_26, rfl⟩ ?_
  refine G_icmpgt (tgt := 88) (nx := 31) ⟨dX1_find_28, rfl⟩ rfl (fun c_28 => ?_) (fun c_28 => ?_)
  · refine G_vret ⟨dX1_find_88, rfl⟩ rfl ?_
    rw [nI_lt_iff (by omega) (by omega)] at c_28
    have e : s = 2 ^ n := by omega
    subst e
    exact hk I1 e0 e1 hs1
  · rw [nI_lt_iff (by omega) (by omega)] at c_28
    have hs : s < 2 ^ n := by omega
    have hs4 : s < 4096 := by omega
    have his := in4k hs4
    have ecs := cl_nI (p := s) (by omega)
    have hpl := pc_le s
    have hpl2 := pc_le (lp (crF n gr) s (0, 0)).2
    refine G_aload_1 (nx := 32) ⟨dX1_find_31, rfl⟩ ?_
    refine G_aload_2 (nx := 33) ⟨dX1_find_32, rfl⟩ ?_
    refine G_iload_5 (nx := 35) ⟨dX1_find_33, rfl⟩ ?_
    refine G_aload_3 (nx := 36) ⟨dX1_find_35, rfl⟩ ?_
    refine G_getr (nx := 39) (k := 22) (r := 21) ⟨dX1_find_36, rfl⟩ fX1_44 q_22 yr_0_0 (r_22_0 _) ?_
    refine G_iload_5 (nx := 41) ⟨dX1_find_39, rfl⟩ ?_
    refine G_iald (nx := 42) (k := 21) ⟨dX1_find_41, rfl⟩ q_21 (by first | assumption | decide | (unfold vp_in; decide)) ?_
    rw [ecs, hS s hs]
    refine G_cs4 (nx := 45) ⟨dX1_find_42, rfl⟩ kX1_47 rfl rfl (Nat.le_of_ble_eq_true rfl) (Nat.le_of_ble_eq_true rfl) (cW_isOne (d := d) hX1 hs (fun I2 hs2 => ?_))
    refine G_ifne (tgt := 51) (nx := 48) ⟨dX1_find_45, rfl⟩ rfl (fun c_45 => ?_) (fun c_45 => ?_)
    · refine G_aload_0 (nx := 52) ⟨dX1_find_51, rfl⟩ ?_
      refine G_dup (nx := 53) ⟨dX1_find_52, rfl⟩ rfl ?_
      refine G_geti (nx := 56) (k := 24) ⟨dX1_find_53, rfl⟩ fX1_7 q_24 yi_1_0 ?_
      refine G_iconst (nx := 57) ⟨dX1_find_56, rfl⟩ ci_1 ?_
      refine G_iadd (nx := 58) ⟨dX1_find_57, rfl⟩ ?_
      refine G_puti (nx := 61) (k := 24) ⟨dX1_find_58, rfl⟩ pX1_7 q_24 yt_1_0 ?_
      refine G_iload_5 (nx := 63) ⟨dX1_find_61, rfl⟩ ?_
      refine G_cs1 (nx := 66) ⟨dX1_find_63, rfl⟩ kX1_16 rfl rfl (Nat.le_of_ble_eq_true rfl) (Nat.le_of_ble_eq_true rfl) (cJ_bc hs4 ?_)
      refine G_aload_0 (nx := 67) ⟨dX1_find_66, rfl⟩ ?_
      refine G_geti (nx := 70) (k := 24) ⟨dX1_find_67, rfl⟩ fX1_13 q_24 yi_1_1 ?_
      rw [w2_ne _ _ _ _ (by decide), hs2 24 1 rfl, e1]
      refine G_cs1 (nx := 73) ⟨dX1_find_70, rfl⟩ kX1_16 rfl rfl (Nat.le_of_ble_eq_true rfl) (Nat.le_of_ble_eq_true rfl) (cJ_bc (a := (lp (crF n gr) s (0, 0)).2) (by omega) ?_)
      refine G_icmple (tgt := 82) (nx := 76) ⟨dX1_find_73, rfl⟩ rfl (fun c_73 => ?_) (fun c_73 => ?_)
      · refine G_iinc_5 (nx := 85) ⟨dX1_find_82, rfl⟩ ci_1 rfl ?_
        refine G_goto (tgt := 24) ⟨dX1_find_85, rfl⟩ rfl ?_
        rw [bi_n0] at c_45
        rw [nI_le_iff (by omega) (by omega)] at c_73
        have est : lp (crF n gr) (s + 1) (0, 0) = ((lp (crF n gr) s (0, 0)).1 + 1, (lp (crF n gr) s (0, 0)).2) := by rw [lp_s, crF, if_pos c_45, if_neg (by omega)]
        exact G_L (by rw [nI_1]) (ih (2 ^ n - (s + 1)) (by omega) (s + 1) _ rfl (by omega) (by omega) (by rw [est, w2_at, hs2 24 0 rfl, e0, nI_1]) (by rw [est, w2_ne _ _ _ _ (by decide), hs2 24 1 rfl]; exact e1) (fun t ht => by rw [w2_row _ _ _ _ (show ¬ 21 = 24 by decide), hs2 21 t rfl]; exact hS t ht) ((hs1.tr (sb_MW hs2)).w rfl))
      · refine G_aload_0 (nx := 77) ⟨dX1_find_76, rfl⟩ ?_
        refine G_iload_5 (nx := 79) ⟨dX1_find_77, rfl⟩ ?_
        refine G_puti (nx := 82) (k := 24) ⟨dX1_find_79, rfl⟩ pX1_13 q_24 yt_1_1 ?_
        refine G_iinc_5 (nx := 85) ⟨dX1_find_82, rfl⟩ ci_1 rfl ?_
        refine G_goto (tgt := 24) ⟨dX1_find_85, rfl⟩ rfl ?_
        rw [bi_n0] at c_45
        rw [nI_le_iff (by omega) (by omega)] at c_73
        have est : lp (crF n gr) (s + 1) (0, 0) = ((lp (crF n gr) s (0, 0)).1 + 1, s) := by rw [lp_s, crF, if_pos c_45, if_pos (by omega)]
        exact G_L (by rw [nI_1]) (ih (2 ^ n - (s + 1)) (by omega) (s + 1) _ rfl (by omega) (by omega) (by rw [est, w2_ne _ _ _ _ (by decide), w2_at, hs2 24 0 rfl, e0, nI_1]) (by rw [est, w2_at]) (fun t ht => by rw [w2_row _ _ _ _ (show ¬ 21 = 24 by decide), w2_row _ _ _ _ (show ¬ 21 = 24 by decide), hs2 21 t rfl]; exact hS t ht) (((hs1.tr (sb_MW hs2)).w rfl).w rfl))
    · refine G_goto (tgt := 82) ⟨dX1_find_48, rfl⟩ rfl ?_
      refine G_iinc_5 (nx := 85) ⟨dX1_find_82, rfl⟩ ci_1 rfl ?_
      refine G_goto (tgt := 24) ⟨dX1_find_85, rfl⟩ rfl ?_
      rw [bi_0] at c_45
      have est : lp (crF n gr) (s + 1) (0, 0) = (lp (crF n gr) s (0, 0)) := by rw [lp_s, crF, if_neg (by rw [c_45]; decide)]
      exact G_L (by rw [nI_1]) (ih (2 ^ n - (s + 1)) (by omega) (s + 1) I2 rfl (by omega) (by omega) (by rw [est, hs2 24 0 rfl]; exact e0) (by rw [est, hs2 24 1 rfl]; exact e1) (fun t ht => by rw [hs2 21 t rfl]; exact hS t ht) (hs1.tr (sb_MW hs2)))

theorem cW_find (hX : XG I 1 4 n gr) (hk : ∀ (I' : AI), I' 24 0 = nI (crN n gr).1 → I' 24 1 = nI (crN n gr).2 → sb fW I I' → K .null I' J (rX g)) : G l (d + 4) mX1_find K 0 [.ref 24, .ref 1, .ref 16, .ref 22, UU, UU] [] I J (rX g) := by
  have h1p := Nat.two_pow_pos n
  refine G_aload_1 (nx := 1) ⟨dX1_find_0, rfl⟩ ?_
  refine G_cv0 (nx := 4) ⟨dX1_find_1, rfl⟩ kX1_34 rfl q_1 rfl (Nat.le_of_ble_eq_true rfl) (Nat.le_of_ble_eq_true rfl) (cN_all nt1 hX ?_)
  refine G_istore_4 (nx := 6) ⟨dX1_find_4, rfl⟩ rfl rfl ?_
  refine G_aload_0 (nx := 7) ⟨dX1_find_6, rfl⟩ ?_
  refine G_iconst (nx := 8) ⟨dX1_find_7, rfl⟩ ci_0 ?_
  refine G_puti (nx := 11) (k := 24) ⟨dX1_find_8, rfl⟩ pX1_7 q_24 yt_1_0 ?_
  refine G_aload_0 (nx := 12) ⟨dX1_find_11, rfl⟩ ?_
  refine G_iconst (nx := 13) ⟨dX1_find_12, rfl⟩ ci_0 ?_
  refine G_puti (nx := 16) (k := 24) ⟨dX1_find_13, rfl⟩ pX1_13 q_24 yt_1_1 ?_
  refine G_aload_3 (nx := 17) ⟨dX1_find_16, rfl⟩ ?_
  refine G_aload_1 (nx := 18) ⟨dX1_find_17, rfl⟩ ?_
  refine G_cvv1 (nx := 21) ⟨dX1_find_18, rfl⟩ kX1_38 rfl q_22 rfl (Nat.le_of_ble_eq_true rfl) (Nat.le_of_ble_eq_true rfl) (cC_spread (d := d + 2) (hX.cg (I' := w2 (w2 I 24 0 0) 24 1 0) (by rw [w2_row _ _ _ _ (show ¬ 1 = 24 by decide), w2_row _ _ _ _ (show ¬ 1 = 24 by decide)]) (fun p _ => by rw [w2_row _ _ _ _ (show ¬ 4 = 24 by decide), w2_row _ _ _ _ (show ¬ 4 = 24 by decide)])) (fun I1 hS hs1 => ?_))
  refine G_iconst (nx := 22) ⟨dX1_find_21, rfl⟩ ci_1 ?_
  refine G_istore_5 (nx := 24) ⟨dX1_find_22, rfl⟩ rfl rfl ?_
  have hs2 : sb fW I I1 := (((sb.rf (F := fW) (I := I)).w (k := 24) (j := 0) (v := 0) rfl).w (k := 24) (j := 1) (v := 0) rfl).tr (hs1.mono (fun x y hf => by simp only [fW, fE, Bool.or_eq_false_iff] at *; exact hf.1.1))
  exact G_L (by rw [show (1 : Int32) = nI 1 by decide]) (lW_find hX hk _ 1 I1 rfl (by omega) (by omega) (by rw [crF_1, hs1 24 0 rfl, w2_ne _ _ _ _ (by decide), w2_at]; rfl) (by rw [crF_1, hs1 24 1 rfl, w2_at]; rfl) hS hs2)

end X75
