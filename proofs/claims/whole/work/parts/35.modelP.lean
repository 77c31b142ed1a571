
def SZ (I : AI) : Prop := ∀ s, s < 4 → ∃ z, z ≤ 60 ∧ I 104 s = nI z
def cvS (sort v : Int32) : Int32 := if sort = 0 then v.toInt8.toInt32 else if sort = 1 then v.toInt16.toInt32 else v
def ovI (k : Int32) : Int32 := if k = 0 then -1 else if k < 3 then 0 else if k = 3 then 1 else if k = 4 then 2 else 3
section M35
variable {l : Launch} {d : Nat} {K : AK} {I : AI} {J : AJ} {g : Bool} {n : Nat} {gr : Nat → Nat}

theorem cM_wrongAt {s i : Int32} (hsz : SZ I) (hk1 : inR s 0 3 = false → K (.int (-2)) I J (rX g)) (hk2 : ∀ s0, s = nI s0 → s0 < 4 → I 103 s0 = -1 → K (.int (-11)) I J (rX g)) (hk3 : ∀ s0 z, s = nI s0 → s0 < 4 → ¬ I 103 s0 = -1 → I 104 s0 = nI z → z ≤ 60 → ptB z i = false → K (.int (-12)) I J (rX g)) (hk : ∀ s0 z i0, s = nI s0 → s0 < 4 → ¬ I 103 s0 = -1 → I 104 s0 = nI z → z ≤ 60 → i = nI i0 → i0 < z → K (.int 0) I J (rX g)) : G l (d + 2) mX12_wrongAt K 0 [.ref 75, .int s, .int i] [] I J (rX g) := by
  refine G_iload_1 (nx := 1) ⟨dX12_wrongAt_0, rfl⟩ ?_
  refine G_cs1 (nx := 4) ⟨dX12_wrongAt_1, rfl⟩ kX12_253 rfl rfl (Nat.le_of_ble_eq_true rfl) (Nat.le_of_ble_eq_true rfl) (cM_isSheet ?_)
  refine G_ifne (tgt := 12) (nx := 7) ⟨dX12_wrongAt_4, rfl⟩ rfl (fun c_4 => ?_) (fun c_4 => ?_)
  · rw [bi_n0] at c_4
    obtain ⟨s0, hs0, es⟩ := s_ex c_4
    subst es
    have hin4 := in4 hs0
    have ecs := cl_nI (p := s0) (by omega)
    obtain ⟨z, hz60, hz⟩ := hsz s0 hs0
    refine G_aload_0 (nx := 13) ⟨dX12_wrongAt_12, rfl⟩ ?_
    refine G_getr (nx := 16) (k := 75) (r := 103) ⟨dX12_wrongAt_13, rfl⟩ fX12_97 q_75 yr_12_43 (r_75_43 _) ?_
    refine G_iload_1 (nx := 17) ⟨dX12_wrongAt_16, rfl⟩ ?_
    refine G_iald (nx := 18) (k := 103) ⟨dX12_wrongAt_17, rfl⟩ q_103 (by first | assumption | decide | (unfold vp_in; decide)) ?_
    rw [ecs]
    refine G_iconst (nx := 19) ⟨dX12_wrongAt_18, rfl⟩ ci_m1 ?_
    refine G_icmpne (tgt := 27) (nx := 22) ⟨dX12_wrongAt_19, rfl⟩ rfl (fun c_19 => ?_) (fun c_19 => ?_)
    · refine G_iload_2 (nx := 28) ⟨dX12_wrongAt_27, rfl⟩ ?_
      refine G_iconst (nx := 29) ⟨dX12_wrongAt_28, rfl⟩ ci_0 ?_
      refine G_aload_0 (nx := 30) ⟨dX12_wrongAt_29, rfl⟩ ?_
      refine G_getr (nx := 33) (k := 75) (r := 104) ⟨dX12_wrongAt_30, rfl⟩ fX12_100 q_75 yr_12_44 (r_75_44 _) ?_
      refine G_iload_1 (nx := 34) ⟨dX12_wrongAt_33, rfl⟩ ?_
      refine G_iald (nx := 35) (k := 104) ⟨dX12_wrongAt_34, rfl⟩ q_104 (by first | assumption | decide | (unfold vp_in; decide)) ?_
      rw [ecs, hz]
      refine G_iconst (nx := 36) ⟨dX12_wrongAt_35, rfl⟩ ci_1 ?_
      refine G_isub (nx := 37) ⟨dX12_wrongAt_36, rfl⟩ ?_
      
      refine G_cs3 (nx := 40) ⟨dX12_wrongAt_37, rfl⟩ kX12_125 rfl rfl (Nat.le_of_ble_eq_true rfl) (Nat.le_of_ble_eq_true rfl) (cM_in ?_)
      refine G_ifeq (tgt := 47) (nx := 43) ⟨dX12_wrongAt_40, rfl⟩ rfl (fun c_40 => ?_) (fun c_40 => ?_)
      · refine G_bipush (nx := 49) ⟨dX12_wrongAt_47, rfl⟩ cb_m12 ?_
        refine G_iret ⟨dX12_wrongAt_49, rfl⟩ rfl ?_
        rw [ptB_in (by omega), bi_0] at c_40
        exact hk3 s0 z rfl hs0 c_19 hz hz60 c_40
      · refine G_iconst (nx := 44) ⟨dX12_wrongAt_43, rfl⟩ ci_0 ?_
        refine G_goto (tgt := 49) ⟨dX12_wrongAt_44, rfl⟩ rfl ?_
        refine G_iret ⟨dX12_wrongAt_49, rfl⟩ rfl ?_
        rw [ptB_in (by omega), bi_n0] at c_40
        obtain ⟨i0, hi0, ei⟩ := ptB_ex (by omega) c_40
        exact hk s0 z i0 rfl hs0 c_19 hz hz60 ei hi0
    · refine G_bipush (nx := 24) ⟨dX12_wrongAt_22, rfl⟩ cb_m11 ?_
      refine G_goto (tgt := 49) ⟨dX12_wrongAt_24, rfl⟩ rfl ?_
      refine G_iret ⟨dX12_wrongAt_49, rfl⟩ rfl ?_
      exact hk2 s0 rfl hs0 c_19
  · refine G_bipush (nx := 9) ⟨dX12_wrongAt_7, rfl⟩ cb_m2 ?_
    refine G_goto (tgt := 49) ⟨dX12_wrongAt_9, rfl⟩ rfl ?_
    refine G_iret ⟨dX12_wrongAt_49, rfl⟩ rfl ?_
    rw [bi_0] at c_4
    exact hk1 c_4

theorem cM_item {s i : Int32} (hsz : SZ I) (hk1 : inR s 0 3 = false → K (.int (-2)) I J (rX g)) (hk2 : ∀ s0, s = nI s0 → s0 < 4 → I 103 s0 = -1 → K (.int (-11)) I J (rX g)) (hk3 : ∀ s0 z, s = nI s0 → s0 < 4 → ¬ I 103 s0 = -1 → I 104 s0 = nI z → z ≤ 60 → ptB z i = false → K (.int (-12)) I J (rX g)) (hk : ∀ s0 z i0, s = nI s0 → s0 < 4 → ¬ I 103 s0 = -1 → I 104 s0 = nI z → z ≤ 60 → i = nI i0 → i0 < z → K (.int (I 105 (60 * s0 + i0))) I J (rX g)) : G l (d + 3) mX12_item K 0 [.ref 75, .int s, .int i, UU] [] I J (rX g) := by
  refine G_aload_0 (nx := 1) ⟨dX12_item_0, rfl⟩ ?_
  refine G_iload_1 (nx := 2) ⟨dX12_item_1, rfl⟩ ?_
  refine G_iload_2 (nx := 3) ⟨dX12_item_2, rfl⟩ ?_
  refine G_cv2 (nx := 6) ⟨dX12_item_3, rfl⟩ kX12_346 rfl q_75 rfl (Nat.le_of_ble_eq_true rfl) (Nat.le_of_ble_eq_true rfl) (cM_wrongAt hsz (fun h => ?_) (fun s0 e1 h1 h2 => ?_) (fun s0 z e1 h1 h2 h3 h4 h5 => ?_) (fun s0 z i0 e1 h1 h2 h3 h4 e2 h5 => ?_))

  · refine G_istore_3 (nx := 7) ⟨dX12_item_6, rfl⟩ rfl rfl ?_
    refine G_iload_3 (nx := 8) ⟨dX12_item_7, rfl⟩ ?_
    refine G_ifeq (tgt := 15) (nx := 11) ⟨dX12_item_8, rfl⟩ rfl (fun c_8 => ?_) (fun c_8 => ?_)
    · exact absurd c_8 (by decide)
    · refine G_iload_3 (nx := 12) ⟨dX12_item_11, rfl⟩ ?_
      refine G_goto (tgt := 26) ⟨dX12_item_12, rfl⟩ rfl ?_
      refine G_iret ⟨dX12_item_26, rfl⟩ rfl ?_
      exact hk1 h
  · refine G_istore_3 (nx := 7) ⟨dX12_item_6, rfl⟩ rfl rfl ?_
    refine G_iload_3 (nx := 8) ⟨dX12_item_7, rfl⟩ ?_
    refine G_ifeq (tgt := 15) (nx := 11) ⟨dX12_item_8, rfl⟩ rfl (fun c_8 => ?_) (fun c_8 => ?_)
    · exact absurd c_8 (by decide)
    · refine G_iload_3 (nx := 12) ⟨dX12_item_11, rfl⟩ ?_
      refine G_goto (tgt := 26) ⟨dX12_item_12, rfl⟩ rfl ?_
      refine G_iret ⟨dX12_item_26, rfl⟩ rfl ?_
      exact hk2 s0 e1 h1 h2
  · refine G_istore_3 (nx := 7) ⟨dX12_item_6, rfl⟩ rfl rfl ?_
    refine G_iload_3 (nx := 8) ⟨dX12_item_7, rfl⟩ ?_
    refine G_ifeq (tgt := 15) (nx := 11) ⟨dX12_item_8, rfl⟩ rfl (fun c_8 => ?_) (fun c_8 => ?_)
    · exact absurd c_8 (by decide)
    · refine G_iload_3 (nx := 12) ⟨dX12_item_11, rfl⟩ ?_
      refine G_goto (tgt := 26) ⟨dX12_item_12, rfl⟩ rfl ?_
      refine G_iret ⟨dX12_item_26, rfl⟩ rfl ?_
      exact hk3 s0 z e1 h1 h2 h3 h4 h5
  · refine G_istore_3 (nx := 7) ⟨dX12_item_6, rfl⟩ rfl rfl ?_
    refine G_iload_3 (nx := 8) ⟨dX12_item_7, rfl⟩ ?_
    refine G_ifeq (tgt := 15) (nx := 11) ⟨dX12_item_8, rfl⟩ rfl (fun c_8 => ?_) (fun c_8 => ?_)
    · subst e1
      subst e2
      have hin4 := in4 h1
      have ecs := cl_nI (p := s0) (by omega)
      have hi240 := in240 h1 (show i0 < 60 by omega)
      have eci := cl_nI (p := 60 * s0 + i0) (by omega)
      refine G_aload_0 (nx := 16) ⟨dX12_item_15, rfl⟩ ?_
      refine G_getr (nx := 19) (k := 75) (r := 105) ⟨dX12_item_16, rfl⟩ fX12_103 q_75 yr_12_45 (r_75_45 _) ?_
      refine G_bipush (nx := 21) ⟨dX12_item_19, rfl⟩ cb_60 ?_
      refine G_iload_1 (nx := 22) ⟨dX12_item_21, rfl⟩ ?_
      refine G_imul (nx := 23) ⟨dX12_item_22, rfl⟩ ?_
      refine G_iload_2 (nx := 24) ⟨dX12_item_23, rfl⟩ ?_
      refine G_iadd (nx := 25) ⟨dX12_item_24, rfl⟩ ?_
      rw [it_nI]
      refine G_iald (nx := 26) (k := 105) ⟨dX12_item_25, rfl⟩ q_105 (by first | assumption | decide | (unfold vp_in; decide)) ?_
      rw [eci]
      refine G_iret ⟨dX12_item_26, rfl⟩ rfl ?_
      exact hk s0 z i0 rfl h1 h2 h3 h4 rfl h5
    · exact absurd rfl c_8
theorem cM_write {s i v : Int32} (hsz : SZ I) (hk1 : inR s 0 3 = false → K (.int (-2)) I J (rX g)) (hk2 : ∀ s0, s = nI s0 → s0 < 4 → I 103 s0 = -1 → K (.int (-11)) I J (rX g)) (hk3 : ∀ s0 z, s = nI s0 → s0 < 4 → ¬ I 103 s0 = -1 → I 104 s0 = nI z → z ≤ 60 → ptB z i = false → K (.int (-12)) I J (rX g)) (hk : ∀ s0 z i0, s = nI s0 → s0 < 4 → ¬ I 103 s0 = -1 → I 104 s0 = nI z → z ≤ 60 → i = nI i0 → i0 < z → K (.int 1) (w2 I 105 (60 * s0 + i0) (cvS (I 103 s0) v)) J (rX g)) : G l (d + 3) mX12_write K 0 [.ref 75, .int s, .int i, .int v, UU] [] I J (rX g) := by
  refine G_aload_0 (nx := 1) ⟨dX12_write_0, rfl⟩ ?_
  refine G_iload_1 (nx := 2) ⟨dX12_write_1, rfl⟩ ?_
  refine G_iload_2 (nx := 3) ⟨dX12_write_2, rfl⟩ ?_
  refine G_cv2 (nx := 6) ⟨dX12_write_3, rfl⟩ kX12_346 rfl q_75 rfl (Nat.le_of_ble_eq_true rfl) (Nat.le_of_ble_eq_true rfl) (cM_wrongAt hsz (fun h => ?_) (fun s0 e1 h1 h2 => ?_) (fun s0 z e1 h1 h2 h3 h4 h5 => ?_) (fun s0 z i0 e1 h1 h2 h3 h4 e2 h5 => ?_))

  · refine G_istore_4 (nx := 8) ⟨dX12_write_6, rfl⟩ rfl rfl ?_
    refine G_iload_4 (nx := 10) ⟨dX12_write_8, rfl⟩ ?_
    refine G_ifeq (tgt := 16) (nx := 13) ⟨dX12_write_10, rfl⟩ rfl (fun c_10 => ?_) (fun c_10 => ?_)
    · exact absurd c_10 (by decide)
    · refine G_iload_4 (nx := 15) ⟨dX12_write_13, rfl⟩ ?_
      refine G_iret ⟨dX12_write_15, rfl⟩ rfl ?_
      exact hk1 h
  · refine G_istore_4 (nx := 8) ⟨dX12_write_6, rfl⟩ rfl rfl ?_
    refine G_iload_4 (nx := 10) ⟨dX12_write_8, rfl⟩ ?_
    refine G_ifeq (tgt := 16) (nx := 13) ⟨dX12_write_10, rfl⟩ rfl (fun c_10 => ?_) (fun c_10 => ?_)
    · exact absurd c_10 (by decide)
    · refine G_iload_4 (nx := 15) ⟨dX12_write_13, rfl⟩ ?_
      refine G_iret ⟨dX12_write_15, rfl⟩ rfl ?_
      exact hk2 s0 e1 h1 h2
  · refine G_istore_4 (nx := 8) ⟨dX12_write_6, rfl⟩ rfl rfl ?_
    refine G_iload_4 (nx := 10) ⟨dX12_write_8, rfl⟩ ?_
    refine G_ifeq (tgt := 16) (nx := 13) ⟨dX12_write_10, rfl⟩ rfl (fun c_10 => ?_) (fun c_10 => ?_)
    · exact absurd c_10 (by decide)
    · refine G_iload_4 (nx := 15) ⟨dX12_write_13, rfl⟩ ?_
      refine G_iret ⟨dX12_write_15, rfl⟩ rfl ?_
      exact hk3 s0 z e1 h1 h2 h3 h4 h5
  · refine G_istore_4 (nx := 8) ⟨dX12_write_6, rfl⟩ rfl rfl ?_
    refine G_iload_4 (nx := 10) ⟨dX12_write_8, rfl⟩ ?_
    refine G_ifeq (tgt := 16) (nx := 13) ⟨dX12_write_10, rfl⟩ rfl (fun c_10 => ?_) (fun c_10 => ?_)
    · subst e1
      subst e2
      have hin4 := in4 h1
      have ecs := cl_nI (p := s0) (by omega)
      have hi240 := in240 h1 (show i0 < 60 by omega)
      have eci := cl_nI (p := 60 * s0 + i0) (by omega)
      refine G_aload_0 (nx := 17) ⟨dX12_write_16, rfl⟩ ?_
      refine G_getr (nx := 20) (k := 75) (r := 105) ⟨dX12_write_17, rfl⟩ fX12_103 q_75 yr_12_45 (r_75_45 _) ?_
      refine G_bipush (nx := 22) ⟨dX12_write_20, rfl⟩ cb_60 ?_
      refine G_iload_1 (nx := 23) ⟨dX12_write_22, rfl⟩ ?_
      refine G_imul (nx := 24) ⟨dX12_write_23, rfl⟩ ?_
      refine G_iload_2 (nx := 25) ⟨dX12_write_24, rfl⟩ ?_
      refine G_iadd (nx := 26) ⟨dX12_write_25, rfl⟩ ?_
      rw [it_nI]
      refine G_aload_0 (nx := 27) ⟨dX12_write_26, rfl⟩ ?_
      refine G_getr (nx := 30) (k := 75) (r := 103) ⟨dX12_write_27, rfl⟩ fX12_97 q_75 yr_12_43 (r_75_43 _) ?_
      refine G_iload_1 (nx := 31) ⟨dX12_write_30, rfl⟩ ?_
      refine G_iald (nx := 32) (k := 103) ⟨dX12_write_31, rfl⟩ q_103 (by first | assumption | decide | (unfold vp_in; decide)) ?_
      rw [ecs]
      refine G_ifne (tgt := 40) (nx := 35) ⟨dX12_write_32, rfl⟩ rfl (fun c_32 => ?_) (fun c_32 => ?_)
      · refine G_aload_0 (nx := 41) ⟨dX12_write_40, rfl⟩ ?_
        refine G_getr (nx := 44) (k := 75) (r := 103) ⟨dX12_write_41, rfl⟩ fX12_97 q_75 yr_12_43 (r_75_43 _) ?_
        refine G_iload_1 (nx := 45) ⟨dX12_write_44, rfl⟩ ?_
        refine G_iald (nx := 46) (k := 103) ⟨dX12_write_45, rfl⟩ q_103 (by first | assumption | decide | (unfold vp_in; decide)) ?_
        rw [ecs]
        refine G_iconst (nx := 47) ⟨dX12_write_46, rfl⟩ ci_1 ?_
        refine G_icmpne (tgt := 55) (nx := 50) ⟨dX12_write_47, rfl⟩ rfl (fun c_47 => ?_) (fun c_47 => ?_)
        · refine G_iload_3 (nx := 56) ⟨dX12_write_55, rfl⟩ ?_
          refine G_iast (nx := 57) (k := 105) ⟨dX12_write_56, rfl⟩ q_105 (by first | assumption | decide | (unfold vp_in; decide)) ?_
          rw [eci]
          refine G_iconst (nx := 58) ⟨dX12_write_57, rfl⟩ ci_1 ?_
          refine G_iret ⟨dX12_write_58, rfl⟩ rfl ?_
          have fin := hk s0 z i0 rfl h1 h2 h3 h4 rfl h5
          rw [show cvS (I 103 s0) v = _ from (by unfold cvS; rw [if_neg c_32, if_neg c_47])] at fin
          exact fin
        · refine G_iload_3 (nx := 51) ⟨dX12_write_50, rfl⟩ ?_
          refine G_i2s (nx := 52) ⟨dX12_write_51, rfl⟩ ?_
          refine G_goto (tgt := 56) ⟨dX12_write_52, rfl⟩ rfl ?_
          refine G_iast (nx := 57) (k := 105) ⟨dX12_write_56, rfl⟩ q_105 (by first | assumption | decide | (unfold vp_in; decide)) ?_
          rw [eci]
          refine G_iconst (nx := 58) ⟨dX12_write_57, rfl⟩ ci_1 ?_
          refine G_iret ⟨dX12_write_58, rfl⟩ rfl ?_
          have fin := hk s0 z i0 rfl h1 h2 h3 h4 rfl h5
          rw [show cvS (I 103 s0) v = _ from (by unfold cvS; rw [if_neg c_32, if_pos c_47])] at fin
          exact fin
      · refine G_iload_3 (nx := 36) ⟨dX12_write_35, rfl⟩ ?_
        refine G_i2b (nx := 37) ⟨dX12_write_36, rfl⟩ ?_
        refine G_goto (tgt := 56) ⟨dX12_write_37, rfl⟩ rfl ?_
        refine G_iast (nx := 57) (k := 105) ⟨dX12_write_56, rfl⟩ q_105 (by first | assumption | decide | (unfold vp_in; decide)) ?_
        rw [eci]
        refine G_iconst (nx := 58) ⟨dX12_write_57, rfl⟩ ci_1 ?_
        refine G_iret ⟨dX12_write_58, rfl⟩ rfl ?_
        have fin := hk s0 z i0 rfl h1 h2 h3 h4 rfl h5
        rw [show cvS (I 103 s0) v = _ from (by unfold cvS; rw [if_pos c_32])] at fin
        exact fin
    · exact absurd rfl c_10
theorem cM_over {k : Int32} (hk : K (.int (ovI k)) I J (rX g)) : G l d mX12_over K 0 [.int k] [] I J (rX g) := by
  unfold ovI at hk
  refine G_iload_0 (nx := 1) ⟨dX12_over_0, rfl⟩ ?_
  refine G_ifne (tgt := 8) (nx := 4) ⟨dX12_over_1, rfl⟩ rfl (fun c_1 => ?_) (fun c_1 => ?_)
  · refine G_iload_0 (nx := 9) ⟨dX12_over_8, rfl⟩ ?_
    refine G_iconst (nx := 10) ⟨dX12_over_9, rfl⟩ ci_3 ?_
    refine G_icmpge (tgt := 17) (nx := 13) ⟨dX12_over_10, rfl⟩ rfl (fun c_10 => ?_) (fun c_10 => ?_)
    · refine G_iload_0 (nx := 18) ⟨dX12_over_17, rfl⟩ ?_
      refine G_iconst (nx := 19) ⟨dX12_over_18, rfl⟩ ci_3 ?_
      refine G_icmpne (tgt := 26) (nx := 22) ⟨dX12_over_19, rfl⟩ rfl (fun c_19 => ?_) (fun c_19 => ?_)
      · refine G_iload_0 (nx := 27) ⟨dX12_over_26, rfl⟩ ?_
        refine G_iconst (nx := 28) ⟨dX12_over_27, rfl⟩ ci_4 ?_
        refine G_icmpne (tgt := 35) (nx := 31) ⟨dX12_over_28, rfl⟩ rfl (fun c_28 => ?_) (fun c_28 => ?_)
        · refine G_iconst (nx := 36) ⟨dX12_over_35, rfl⟩ ci_3 ?_
          refine G_iret ⟨dX12_over_36, rfl⟩ rfl ?_
          rw [if_neg c_1] at hk
          rw [if_neg (fun h => by rw [i32_le] at c_10; rw [i32_lt] at h; omega)] at hk
          rw [if_neg c_19] at hk
          rw [if_neg c_28] at hk
          exact hk
        · refine G_iconst (nx := 32) ⟨dX12_over_31, rfl⟩ ci_2 ?_
          refine G_goto (tgt := 36) ⟨dX12_over_32, rfl⟩ rfl ?_
          refine G_iret ⟨dX12_over_36, rfl⟩ rfl ?_
          rw [if_neg c_1] at hk
          rw [if_neg (fun h => by rw [i32_le] at c_10; rw [i32_lt] at h; omega)] at hk
          rw [if_neg c_19] at hk
          rw [if_pos c_28] at hk
          exact hk
      · refine G_iconst (nx := 23) ⟨dX12_over_22, rfl⟩ ci_1 ?_
        refine G_goto (tgt := 36) ⟨dX12_over_23, rfl⟩ rfl ?_
        refine G_iret ⟨dX12_over_36, rfl⟩ rfl ?_
        rw [if_neg c_1] at hk
        rw [if_neg (fun h => by rw [i32_le] at c_10; rw [i32_lt] at h; omega)] at hk
        rw [if_pos c_19] at hk
        exact hk
    · refine G_iconst (nx := 14) ⟨dX12_over_13, rfl⟩ ci_0 ?_
      refine G_goto (tgt := 36) ⟨dX12_over_14, rfl⟩ rfl ?_
      refine G_iret ⟨dX12_over_36, rfl⟩ rfl ?_
      rw [if_neg c_1] at hk
      rw [if_pos (by rw [i32_le] at c_10; rw [i32_lt]; omega)] at hk
      exact hk
  · refine G_iconst (nx := 5) ⟨dX12_over_4, rfl⟩ ci_m1 ?_
    refine G_goto (tgt := 36) ⟨dX12_over_5, rfl⟩ rfl ?_
    refine G_iret ⟨dX12_over_36, rfl⟩ rfl ?_
    rw [if_pos c_1] at hk
    exact hk

theorem cM_isShelf {s : Int32} (hk : K (.int (bi (inR s 0 3))) I J (rX g)) : G l (d + 1) mX12_isShelf K 0 [.int s] [] I J (rX g) := by
  refine G_iload_0 (nx := 1) ⟨dX12_isShelf_0, rfl⟩ ?_
  refine G_iconst (nx := 2) ⟨dX12_isShelf_1, rfl⟩ ci_0 ?_
  refine G_iconst (nx := 3) ⟨dX12_isShelf_2, rfl⟩ ci_3 ?_
  refine G_cs3 (nx := 6) ⟨dX12_isShelf_3, rfl⟩ kX12_125 rfl rfl (Nat.le_of_ble_eq_true rfl) (Nat.le_of_ble_eq_true rfl) (cM_in ?_)
  refine G_zret ⟨dX12_isShelf_6, rfl⟩ rfl (by first | assumption | decide | exact bi_01 _) ?_
  exact hk

end M35
