
/-- the shelf's refusal -/
def shB (n : Nat) (h q p : Int32) : Bool := inR h 0 3 && inR q 0 2 && (!decide (q = 0) || ptB n p) && (!decide (q = 1) || inR p 0 3)
/-- does kind k lie below kind q -/
def tkB : Nat → Int32 → Int32 → Bool
  | 0, k, q => decide (k = q)
  | f + 1, k, q => if k = -1 then decide (k = q) else if k = q then true else tkB f (ovI k) q
section M37
variable {l : Launch} {d : Nat} {K : AK} {I : AI} {J : AJ} {g : Bool} {n : Nat} {gr : Nat → Nat}

theorem cM_shelf {h q p : Int32} (hG : MG I n gr) (hk1 : shB n h q p = false → K (.int (-2)) I J (rX g)) (hk : ∀ h0, h = nI h0 → h0 < 4 → shB n h q p = true → K (.int 1) (w2 (w2 (w2 (w2 I 106 h0 (if q = 1 ∧ I 103 p.toNatClampNeg = -1 then 2 else q)) 107 h0 p) 108 h0 (if q = 1 then I 103 p.toNatClampNeg else -1)) 109 h0 (if q = 1 then I 104 p.toNatClampNeg else 0)) J (rX g)) : G l (d + 2) mX12_shelf K 0 [.ref 75, .int h, .int q, .int p] [] I J (rX g) := by
  refine G_iload_1 (nx := 1) ⟨dX12_shelf_0, rfl⟩ ?_
  refine G_cs1 (nx := 4) ⟨dX12_shelf_1, rfl⟩ kX12_349 rfl rfl (Nat.le_of_ble_eq_true rfl) (Nat.le_of_ble_eq_true rfl) (cM_isShelf ?_)
  refine G_ifeq (tgt := 40) (nx := 7) ⟨dX12_shelf_4, rfl⟩ rfl (fun c_4 => ?_) (fun c_4 => ?_)
  · refine G_bipush (nx := 42) ⟨dX12_shelf_40, rfl⟩ cb_m2 ?_
    refine G_iret ⟨dX12_shelf_42, rfl⟩ rfl ?_
    rw [bi_0] at c_4
    exact hk1 (by simp [shB, c_4])
  · rw [bi_n0] at c_4
    obtain ⟨h0, hh0, eh⟩ := s_ex c_4
    subst eh
    have hin4 := in4 hh0
    have ech := cl_nI (p := h0) (by omega)
    refine G_iload_2 (nx := 8) ⟨dX12_shelf_7, rfl⟩ ?_
    refine G_iconst (nx := 9) ⟨dX12_shelf_8, rfl⟩ ci_0 ?_
    refine G_iconst (nx := 10) ⟨dX12_shelf_9, rfl⟩ ci_2 ?_
    refine G_cs3 (nx := 13) ⟨dX12_shelf_10, rfl⟩ kX12_125 rfl rfl (Nat.le_of_ble_eq_true rfl) (Nat.le_of_ble_eq_true rfl) (cM_in ?_)
    refine G_ifeq (tgt := 40) (nx := 16) ⟨dX12_shelf_13, rfl⟩ rfl (fun c_13 => ?_) (fun c_13 => ?_)
    · refine G_bipush (nx := 42) ⟨dX12_shelf_40, rfl⟩ cb_m2 ?_
      refine G_iret ⟨dX12_shelf_42, rfl⟩ rfl ?_
      rw [bi_0] at c_13
      exact hk1 (by simp [shB, c_13])
    · rw [bi_n0] at c_13
      refine G_iload_2 (nx := 17) ⟨dX12_shelf_16, rfl⟩ ?_
      refine G_ifne (tgt := 28) (nx := 20) ⟨dX12_shelf_17, rfl⟩ rfl (fun c_17 => ?_) (fun c_17 => ?_)
      · try rw [bi_n0] at c_25
        refine G_iload_2 (nx := 29) ⟨dX12_shelf_28, rfl⟩ ?_
        refine G_iconst (nx := 30) ⟨dX12_shelf_29, rfl⟩ ci_1 ?_
        refine G_icmpne (tgt := 43) (nx := 33) ⟨dX12_shelf_30, rfl⟩ rfl (fun c_30 => ?_) (fun c_30 => ?_)
        · try (rw [bi_n0] at c_37; obtain ⟨p1, hp1, ep1⟩ := s_ex c_37; have hinp : vp_in p 4 := by rw [ep1]; exact in4 hp1)
          refine G_aload_0 (nx := 44) ⟨dX12_shelf_43, rfl⟩ ?_
          refine G_getr (nx := 47) (k := 75) (r := 106) ⟨dX12_shelf_44, rfl⟩ fX12_106 q_75 yr_12_46 (r_75_46 _) ?_
          refine G_iload_1 (nx := 48) ⟨dX12_shelf_47, rfl⟩ ?_
          refine G_iload_2 (nx := 49) ⟨dX12_shelf_48, rfl⟩ ?_
          refine G_iconst (nx := 50) ⟨dX12_shelf_49, rfl⟩ ci_1 ?_
          refine G_icmpne (tgt := 67) (nx := 53) ⟨dX12_shelf_50, rfl⟩ rfl (fun c_50 => ?_) (fun c_50 => ?_)
          · refine G_iload_2 (nx := 68) ⟨dX12_shelf_67, rfl⟩ ?_
            refine G_iast (nx := 69) (k := 106) ⟨dX12_shelf_68, rfl⟩ q_106 (by first | assumption | decide | (unfold vp_in; decide)) ?_
            rw [ech]
            refine G_aload_0 (nx := 70) ⟨dX12_shelf_69, rfl⟩ ?_
            refine G_getr (nx := 73) (k := 75) (r := 107) ⟨dX12_shelf_70, rfl⟩ fX12_109 q_75 yr_12_47 (r_75_47 _) ?_
            refine G_iload_1 (nx := 74) ⟨dX12_shelf_73, rfl⟩ ?_
            refine G_iload_3 (nx := 75) ⟨dX12_shelf_74, rfl⟩ ?_
            refine G_iast (nx := 76) (k := 107) ⟨dX12_shelf_75, rfl⟩ q_107 (by first | assumption | decide | (unfold vp_in; decide)) ?_
            rw [ech]
            refine G_aload_0 (nx := 77) ⟨dX12_shelf_76, rfl⟩ ?_
            refine G_getr (nx := 80) (k := 75) (r := 108) ⟨dX12_shelf_77, rfl⟩ fX12_112 q_75 yr_12_48 (r_75_48 _) ?_
            refine G_iload_1 (nx := 81) ⟨dX12_shelf_80, rfl⟩ ?_
            refine G_iload_2 (nx := 82) ⟨dX12_shelf_81, rfl⟩ ?_
            refine G_iconst (nx := 83) ⟨dX12_shelf_82, rfl⟩ ci_1 ?_
            refine G_icmpne (tgt := 95) (nx := 86) ⟨dX12_shelf_83, rfl⟩ rfl (fun c_83 => ?_) (fun c_83 => ?_)
            · refine G_iconst (nx := 96) ⟨dX12_shelf_95, rfl⟩ ci_m1 ?_
              refine G_iast (nx := 97) (k := 108) ⟨dX12_shelf_96, rfl⟩ q_108 (by first | assumption | decide | (unfold vp_in; decide)) ?_
              rw [ech]
              refine G_aload_0 (nx := 98) ⟨dX12_shelf_97, rfl⟩ ?_
              refine G_getr (nx := 101) (k := 75) (r := 109) ⟨dX12_shelf_98, rfl⟩ fX12_115 q_75 yr_12_49 (r_75_49 _) ?_
              refine G_iload_1 (nx := 102) ⟨dX12_shelf_101, rfl⟩ ?_
              refine G_iload_2 (nx := 103) ⟨dX12_shelf_102, rfl⟩ ?_
              refine G_iconst (nx := 104) ⟨dX12_shelf_103, rfl⟩ ci_1 ?_
              refine G_icmpne (tgt := 116) (nx := 107) ⟨dX12_shelf_104, rfl⟩ rfl (fun c_104 => ?_) (fun c_104 => ?_)
              · refine G_iconst (nx := 117) ⟨dX12_shelf_116, rfl⟩ ci_0 ?_
                refine G_iast (nx := 118) (k := 109) ⟨dX12_shelf_117, rfl⟩ q_109 (by first | assumption | decide | (unfold vp_in; decide)) ?_
                rw [ech]
                refine G_iconst (nx := 119) ⟨dX12_shelf_118, rfl⟩ ci_1 ?_
                refine G_iret ⟨dX12_shelf_119, rfl⟩ rfl ?_
                have hok : shB n (nI h0) q p = true := by
                  simp only [shB, Bool.and_eq_true, Bool.or_eq_true, Bool.not_eq_true', decide_eq_false_iff_not]
                  exact ⟨⟨⟨c_4, c_13⟩, Or.inl c_17⟩, Or.inl c_30⟩
                have fin := hk h0 rfl hh0 hok
                rw [if_neg c_30, if_neg c_30, if_neg (fun h => c_30 h.1)] at fin
                exact fin
              · refine G_aload_0 (nx := 108) ⟨dX12_shelf_107, rfl⟩ ?_
                refine G_getr (nx := 111) (k := 75) (r := 104) ⟨dX12_shelf_108, rfl⟩ fX12_100 q_75 yr_12_44 (r_75_44 _) ?_
                refine G_iload_3 (nx := 112) ⟨dX12_shelf_111, rfl⟩ ?_
                refine G_iald (nx := 113) (k := 104) ⟨dX12_shelf_112, rfl⟩ q_104 (by first | assumption | exact absurd c_104 c_30) ?_
                rw [w2_row _ _ _ _ (show ¬ 104 = 108 by decide), w2_row _ _ _ _ (show ¬ 104 = 107 by decide), w2_row _ _ _ _ (show ¬ 104 = 106 by decide)]
                refine G_goto (tgt := 117) ⟨dX12_shelf_113, rfl⟩ rfl ?_
                refine G_iast (nx := 118) (k := 109) ⟨dX12_shelf_117, rfl⟩ q_109 (by first | assumption | decide | (unfold vp_in; decide)) ?_
                rw [ech]
                refine G_iconst (nx := 119) ⟨dX12_shelf_118, rfl⟩ ci_1 ?_
                refine G_iret ⟨dX12_shelf_119, rfl⟩ rfl ?_
                exact absurd c_104 c_30
            · refine G_aload_0 (nx := 87) ⟨dX12_shelf_86, rfl⟩ ?_
              refine G_getr (nx := 90) (k := 75) (r := 103) ⟨dX12_shelf_87, rfl⟩ fX12_97 q_75 yr_12_43 (r_75_43 _) ?_
              refine G_iload_3 (nx := 91) ⟨dX12_shelf_90, rfl⟩ ?_
              refine G_iald (nx := 92) (k := 103) ⟨dX12_shelf_91, rfl⟩ q_103 (by first | assumption | exact absurd c_83 c_30) ?_
              rw [w2_row _ _ _ _ (show ¬ 103 = 107 by decide), w2_row _ _ _ _ (show ¬ 103 = 106 by decide)]
              refine G_goto (tgt := 96) ⟨dX12_shelf_92, rfl⟩ rfl ?_
              refine G_iast (nx := 97) (k := 108) ⟨dX12_shelf_96, rfl⟩ q_108 (by first | assumption | decide | (unfold vp_in; decide)) ?_
              rw [ech]
              refine G_aload_0 (nx := 98) ⟨dX12_shelf_97, rfl⟩ ?_
              refine G_getr (nx := 101) (k := 75) (r := 109) ⟨dX12_shelf_98, rfl⟩ fX12_115 q_75 yr_12_49 (r_75_49 _) ?_
              refine G_iload_1 (nx := 102) ⟨dX12_shelf_101, rfl⟩ ?_
              refine G_iload_2 (nx := 103) ⟨dX12_shelf_102, rfl⟩ ?_
              refine G_iconst (nx := 104) ⟨dX12_shelf_103, rfl⟩ ci_1 ?_
              refine G_icmpne (tgt := 116) (nx := 107) ⟨dX12_shelf_104, rfl⟩ rfl (fun c_104 => ?_) (fun c_104 => ?_)
              · refine G_iconst (nx := 117) ⟨dX12_shelf_116, rfl⟩ ci_0 ?_
                refine G_iast (nx := 118) (k := 109) ⟨dX12_shelf_117, rfl⟩ q_109 (by first | assumption | decide | (unfold vp_in; decide)) ?_
                rw [ech]
                refine G_iconst (nx := 119) ⟨dX12_shelf_118, rfl⟩ ci_1 ?_
                refine G_iret ⟨dX12_shelf_119, rfl⟩ rfl ?_
                exact absurd c_83 c_30
              · refine G_aload_0 (nx := 108) ⟨dX12_shelf_107, rfl⟩ ?_
                refine G_getr (nx := 111) (k := 75) (r := 104) ⟨dX12_shelf_108, rfl⟩ fX12_100 q_75 yr_12_44 (r_75_44 _) ?_
                refine G_iload_3 (nx := 112) ⟨dX12_shelf_111, rfl⟩ ?_
                refine G_iald (nx := 113) (k := 104) ⟨dX12_shelf_112, rfl⟩ q_104 (by first | assumption | exact absurd c_104 c_30) ?_
                rw [w2_row _ _ _ _ (show ¬ 104 = 108 by decide), w2_row _ _ _ _ (show ¬ 104 = 107 by decide), w2_row _ _ _ _ (show ¬ 104 = 106 by decide)]
                refine G_goto (tgt := 117) ⟨dX12_shelf_113, rfl⟩ rfl ?_
                refine G_iast (nx := 118) (k := 109) ⟨dX12_shelf_117, rfl⟩ q_109 (by first | assumption | decide | (unfold vp_in; decide)) ?_
                rw [ech]
                refine G_iconst (nx := 119) ⟨dX12_shelf_118, rfl⟩ ci_1 ?_
                refine G_iret ⟨dX12_shelf_119, rfl⟩ rfl ?_
                exact absurd c_83 c_30
          · refine G_aload_0 (nx := 54) ⟨dX12_shelf_53, rfl⟩ ?_
            refine G_getr (nx := 57) (k := 75) (r := 103) ⟨dX12_shelf_54, rfl⟩ fX12_97 q_75 yr_12_43 (r_75_43 _) ?_
            refine G_iload_3 (nx := 58) ⟨dX12_shelf_57, rfl⟩ ?_
            refine G_iald (nx := 59) (k := 103) ⟨dX12_shelf_58, rfl⟩ q_103 (by first | assumption | exact absurd c_50 c_30) ?_
            refine G_iconst (nx := 60) ⟨dX12_shelf_59, rfl⟩ ci_m1 ?_
            refine G_icmpne (tgt := 67) (nx := 63) ⟨dX12_shelf_60, rfl⟩ rfl (fun c_60 => ?_) (fun c_60 => ?_)
            · refine G_iload_2 (nx := 68) ⟨dX12_shelf_67, rfl⟩ ?_
              refine G_iast (nx := 69) (k := 106) ⟨dX12_shelf_68, rfl⟩ q_106 (by first | assumption | decide | (unfold vp_in; decide)) ?_
              rw [ech]
              refine G_aload_0 (nx := 70) ⟨dX12_shelf_69, rfl⟩ ?_
              refine G_getr (nx := 73) (k := 75) (r := 107) ⟨dX12_shelf_70, rfl⟩ fX12_109 q_75 yr_12_47 (r_75_47 _) ?_
              refine G_iload_1 (nx := 74) ⟨dX12_shelf_73, rfl⟩ ?_
              refine G_iload_3 (nx := 75) ⟨dX12_shelf_74, rfl⟩ ?_
              refine G_iast (nx := 76) (k := 107) ⟨dX12_shelf_75, rfl⟩ q_107 (by first | assumption | decide | (unfold vp_in; decide)) ?_
              rw [ech]
              refine G_aload_0 (nx := 77) ⟨dX12_shelf_76, rfl⟩ ?_
              refine G_getr (nx := 80) (k := 75) (r := 108) ⟨dX12_shelf_77, rfl⟩ fX12_112 q_75 yr_12_48 (r_75_48 _) ?_
              refine G_iload_1 (nx := 81) ⟨dX12_shelf_80, rfl⟩ ?_
              refine G_iload_2 (nx := 82) ⟨dX12_shelf_81, rfl⟩ ?_
              refine G_iconst (nx := 83) ⟨dX12_shelf_82, rfl⟩ ci_1 ?_
              refine G_icmpne (tgt := 95) (nx := 86) ⟨dX12_shelf_83, rfl⟩ rfl (fun c_83 => ?_) (fun c_83 => ?_)
              · refine G_iconst (nx := 96) ⟨dX12_shelf_95, rfl⟩ ci_m1 ?_
                refine G_iast (nx := 97) (k := 108) ⟨dX12_shelf_96, rfl⟩ q_108 (by first | assumption | decide | (unfold vp_in; decide)) ?_
                rw [ech]
                refine G_aload_0 (nx := 98) ⟨dX12_shelf_97, rfl⟩ ?_
                refine G_getr (nx := 101) (k := 75) (r := 109) ⟨dX12_shelf_98, rfl⟩ fX12_115 q_75 yr_12_49 (r_75_49 _) ?_
                refine G_iload_1 (nx := 102) ⟨dX12_shelf_101, rfl⟩ ?_
                refine G_iload_2 (nx := 103) ⟨dX12_shelf_102, rfl⟩ ?_
                refine G_iconst (nx := 104) ⟨dX12_shelf_103, rfl⟩ ci_1 ?_
                refine G_icmpne (tgt := 116) (nx := 107) ⟨dX12_shelf_104, rfl⟩ rfl (fun c_104 => ?_) (fun c_104 => ?_)
                · refine G_iconst (nx := 117) ⟨dX12_shelf_116, rfl⟩ ci_0 ?_
                  refine G_iast (nx := 118) (k := 109) ⟨dX12_shelf_117, rfl⟩ q_109 (by first | assumption | decide | (unfold vp_in; decide)) ?_
                  rw [ech]
                  refine G_iconst (nx := 119) ⟨dX12_shelf_118, rfl⟩ ci_1 ?_
                  refine G_iret ⟨dX12_shelf_119, rfl⟩ rfl ?_
                  exact absurd c_50 c_30
                · refine G_aload_0 (nx := 108) ⟨dX12_shelf_107, rfl⟩ ?_
                  refine G_getr (nx := 111) (k := 75) (r := 104) ⟨dX12_shelf_108, rfl⟩ fX12_100 q_75 yr_12_44 (r_75_44 _) ?_
                  refine G_iload_3 (nx := 112) ⟨dX12_shelf_111, rfl⟩ ?_
                  refine G_iald (nx := 113) (k := 104) ⟨dX12_shelf_112, rfl⟩ q_104 (by first | assumption | exact absurd c_104 c_30) ?_
                  rw [w2_row _ _ _ _ (show ¬ 104 = 108 by decide), w2_row _ _ _ _ (show ¬ 104 = 107 by decide), w2_row _ _ _ _ (show ¬ 104 = 106 by decide)]
                  refine G_goto (tgt := 117) ⟨dX12_shelf_113, rfl⟩ rfl ?_
                  refine G_iast (nx := 118) (k := 109) ⟨dX12_shelf_117, rfl⟩ q_109 (by first | assumption | decide | (unfold vp_in; decide)) ?_
                  rw [ech]
                  refine G_iconst (nx := 119) ⟨dX12_shelf_118, rfl⟩ ci_1 ?_
                  refine G_iret ⟨dX12_shelf_119, rfl⟩ rfl ?_
                  exact absurd c_50 c_30
              · refine G_aload_0 (nx := 87) ⟨dX12_shelf_86, rfl⟩ ?_
                refine G_getr (nx := 90) (k := 75) (r := 103) ⟨dX12_shelf_87, rfl⟩ fX12_97 q_75 yr_12_43 (r_75_43 _) ?_
                refine G_iload_3 (nx := 91) ⟨dX12_shelf_90, rfl⟩ ?_
                refine G_iald (nx := 92) (k := 103) ⟨dX12_shelf_91, rfl⟩ q_103 (by first | assumption | exact absurd c_83 c_30) ?_
                rw [w2_row _ _ _ _ (show ¬ 103 = 107 by decide), w2_row _ _ _ _ (show ¬ 103 = 106 by decide)]
                refine G_goto (tgt := 96) ⟨dX12_shelf_92, rfl⟩ rfl ?_
                refine G_iast (nx := 97) (k := 108) ⟨dX12_shelf_96, rfl⟩ q_108 (by first | assumption | decide | (unfold vp_in; decide)) ?_
                rw [ech]
                refine G_aload_0 (nx := 98) ⟨dX12_shelf_97, rfl⟩ ?_
                refine G_getr (nx := 101) (k := 75) (r := 109) ⟨dX12_shelf_98, rfl⟩ fX12_115 q_75 yr_12_49 (r_75_49 _) ?_
                refine G_iload_1 (nx := 102) ⟨dX12_shelf_101, rfl⟩ ?_
                refine G_iload_2 (nx := 103) ⟨dX12_shelf_102, rfl⟩ ?_
                refine G_iconst (nx := 104) ⟨dX12_shelf_103, rfl⟩ ci_1 ?_
                refine G_icmpne (tgt := 116) (nx := 107) ⟨dX12_shelf_104, rfl⟩ rfl (fun c_104 => ?_) (fun c_104 => ?_)
                · refine G_iconst (nx := 117) ⟨dX12_shelf_116, rfl⟩ ci_0 ?_
                  refine G_iast (nx := 118) (k := 109) ⟨dX12_shelf_117, rfl⟩ q_109 (by first | assumption | decide | (unfold vp_in; decide)) ?_
                  rw [ech]
                  refine G_iconst (nx := 119) ⟨dX12_shelf_118, rfl⟩ ci_1 ?_
                  refine G_iret ⟨dX12_shelf_119, rfl⟩ rfl ?_
                  exact absurd c_50 c_30
                · refine G_aload_0 (nx := 108) ⟨dX12_shelf_107, rfl⟩ ?_
                  refine G_getr (nx := 111) (k := 75) (r := 104) ⟨dX12_shelf_108, rfl⟩ fX12_100 q_75 yr_12_44 (r_75_44 _) ?_
                  refine G_iload_3 (nx := 112) ⟨dX12_shelf_111, rfl⟩ ?_
                  refine G_iald (nx := 113) (k := 104) ⟨dX12_shelf_112, rfl⟩ q_104 (by first | assumption | exact absurd c_104 c_30) ?_
                  rw [w2_row _ _ _ _ (show ¬ 104 = 108 by decide), w2_row _ _ _ _ (show ¬ 104 = 107 by decide), w2_row _ _ _ _ (show ¬ 104 = 106 by decide)]
                  refine G_goto (tgt := 117) ⟨dX12_shelf_113, rfl⟩ rfl ?_
                  refine G_iast (nx := 118) (k := 109) ⟨dX12_shelf_117, rfl⟩ q_109 (by first | assumption | decide | (unfold vp_in; decide)) ?_
                  rw [ech]
                  refine G_iconst (nx := 119) ⟨dX12_shelf_118, rfl⟩ ci_1 ?_
                  refine G_iret ⟨dX12_shelf_119, rfl⟩ rfl ?_
                  exact absurd c_50 c_30
            · refine G_iconst (nx := 64) ⟨dX12_shelf_63, rfl⟩ ci_2 ?_
              refine G_goto (tgt := 68) ⟨dX12_shelf_64, rfl⟩ rfl ?_
              refine G_iast (nx := 69) (k := 106) ⟨dX12_shelf_68, rfl⟩ q_106 (by first | assumption | decide | (unfold vp_in; decide)) ?_
              rw [ech]
              refine G_aload_0 (nx := 70) ⟨dX12_shelf_69, rfl⟩ ?_
              refine G_getr (nx := 73) (k := 75) (r := 107) ⟨dX12_shelf_70, rfl⟩ fX12_109 q_75 yr_12_47 (r_75_47 _) ?_
              refine G_iload_1 (nx := 74) ⟨dX12_shelf_73, rfl⟩ ?_
              refine G_iload_3 (nx := 75) ⟨dX12_shelf_74, rfl⟩ ?_
              refine G_iast (nx := 76) (k := 107) ⟨dX12_shelf_75, rfl⟩ q_107 (by first | assumption | decide | (unfold vp_in; decide)) ?_
              rw [ech]
              refine G_aload_0 (nx := 77) ⟨dX12_shelf_76, rfl⟩ ?_
              refine G_getr (nx := 80) (k := 75) (r := 108) ⟨dX12_shelf_77, rfl⟩ fX12_112 q_75 yr_12_48 (r_75_48 _) ?_
              refine G_iload_1 (nx := 81) ⟨dX12_shelf_80, rfl⟩ ?_
              refine G_iload_2 (nx := 82) ⟨dX12_shelf_81, rfl⟩ ?_
              refine G_iconst (nx := 83) ⟨dX12_shelf_82, rfl⟩ ci_1 ?_
              refine G_icmpne (tgt := 95) (nx := 86) ⟨dX12_shelf_83, rfl⟩ rfl (fun c_83 => ?_) (fun c_83 => ?_)
              · refine G_iconst (nx := 96) ⟨dX12_shelf_95, rfl⟩ ci_m1 ?_
                refine G_iast (nx := 97) (k := 108) ⟨dX12_shelf_96, rfl⟩ q_108 (by first | assumption | decide | (unfold vp_in; decide)) ?_
                rw [ech]
                refine G_aload_0 (nx := 98) ⟨dX12_shelf_97, rfl⟩ ?_
                refine G_getr (nx := 101) (k := 75) (r := 109) ⟨dX12_shelf_98, rfl⟩ fX12_115 q_75 yr_12_49 (r_75_49 _) ?_
                refine G_iload_1 (nx := 102) ⟨dX12_shelf_101, rfl⟩ ?_
                refine G_iload_2 (nx := 103) ⟨dX12_shelf_102, rfl⟩ ?_
                refine G_iconst (nx := 104) ⟨dX12_shelf_103, rfl⟩ ci_1 ?_
                refine G_icmpne (tgt := 116) (nx := 107) ⟨dX12_shelf_104, rfl⟩ rfl (fun c_104 => ?_) (fun c_104 => ?_)
                · refine G_iconst (nx := 117) ⟨dX12_shelf_116, rfl⟩ ci_0 ?_
                  refine G_iast (nx := 118) (k := 109) ⟨dX12_shelf_117, rfl⟩ q_109 (by first | assumption | decide | (unfold vp_in; decide)) ?_
                  rw [ech]
                  refine G_iconst (nx := 119) ⟨dX12_shelf_118, rfl⟩ ci_1 ?_
                  refine G_iret ⟨dX12_shelf_119, rfl⟩ rfl ?_
                  exact absurd c_50 c_30
                · refine G_aload_0 (nx := 108) ⟨dX12_shelf_107, rfl⟩ ?_
                  refine G_getr (nx := 111) (k := 75) (r := 104) ⟨dX12_shelf_108, rfl⟩ fX12_100 q_75 yr_12_44 (r_75_44 _) ?_
                  refine G_iload_3 (nx := 112) ⟨dX12_shelf_111, rfl⟩ ?_
                  refine G_iald (nx := 113) (k := 104) ⟨dX12_shelf_112, rfl⟩ q_104 (by first | assumption | exact absurd c_104 c_30) ?_
                  rw [w2_row _ _ _ _ (show ¬ 104 = 108 by decide), w2_row _ _ _ _ (show ¬ 104 = 107 by decide), w2_row _ _ _ _ (show ¬ 104 = 106 by decide)]
                  refine G_goto (tgt := 117) ⟨dX12_shelf_113, rfl⟩ rfl ?_
                  refine G_iast (nx := 118) (k := 109) ⟨dX12_shelf_117, rfl⟩ q_109 (by first | assumption | decide | (unfold vp_in; decide)) ?_
                  rw [ech]
                  refine G_iconst (nx := 119) ⟨dX12_shelf_118, rfl⟩ ci_1 ?_
                  refine G_iret ⟨dX12_shelf_119, rfl⟩ rfl ?_
                  exact absurd c_50 c_30
              · refine G_aload_0 (nx := 87) ⟨dX12_shelf_86, rfl⟩ ?_
                refine G_getr (nx := 90) (k := 75) (r := 103) ⟨dX12_shelf_87, rfl⟩ fX12_97 q_75 yr_12_43 (r_75_43 _) ?_
                refine G_iload_3 (nx := 91) ⟨dX12_shelf_90, rfl⟩ ?_
                refine G_iald (nx := 92) (k := 103) ⟨dX12_shelf_91, rfl⟩ q_103 (by first | assumption | exact absurd c_83 c_30) ?_
                rw [w2_row _ _ _ _ (show ¬ 103 = 107 by decide), w2_row _ _ _ _ (show ¬ 103 = 106 by decide)]
                refine G_goto (tgt := 96) ⟨dX12_shelf_92, rfl⟩ rfl ?_
                refine G_iast (nx := 97) (k := 108) ⟨dX12_shelf_96, rfl⟩ q_108 (by first | assumption | decide | (unfold vp_in; decide)) ?_
                rw [ech]
                refine G_aload_0 (nx := 98) ⟨dX12_shelf_97, rfl⟩ ?_
                refine G_getr (nx := 101) (k := 75) (r := 109) ⟨dX12_shelf_98, rfl⟩ fX12_115 q_75 yr_12_49 (r_75_49 _) ?_
                refine G_iload_1 (nx := 102) ⟨dX12_shelf_101, rfl⟩ ?_
                refine G_iload_2 (nx := 103) ⟨dX12_shelf_102, rfl⟩ ?_
                refine G_iconst (nx := 104) ⟨dX12_shelf_103, rfl⟩ ci_1 ?_
                refine G_icmpne (tgt := 116) (nx := 107) ⟨dX12_shelf_104, rfl⟩ rfl (fun c_104 => ?_) (fun c_104 => ?_)
                · refine G_iconst (nx := 117) ⟨dX12_shelf_116, rfl⟩ ci_0 ?_
                  refine G_iast (nx := 118) (k := 109) ⟨dX12_shelf_117, rfl⟩ q_109 (by first | assumption | decide | (unfold vp_in; decide)) ?_
                  rw [ech]
                  refine G_iconst (nx := 119) ⟨dX12_shelf_118, rfl⟩ ci_1 ?_
                  refine G_iret ⟨dX12_shelf_119, rfl⟩ rfl ?_
                  exact absurd c_50 c_30
                · refine G_aload_0 (nx := 108) ⟨dX12_shelf_107, rfl⟩ ?_
                  refine G_getr (nx := 111) (k := 75) (r := 104) ⟨dX12_shelf_108, rfl⟩ fX12_100 q_75 yr_12_44 (r_75_44 _) ?_
                  refine G_iload_3 (nx := 112) ⟨dX12_shelf_111, rfl⟩ ?_
                  refine G_iald (nx := 113) (k := 104) ⟨dX12_shelf_112, rfl⟩ q_104 (by first | assumption | exact absurd c_104 c_30) ?_
                  rw [w2_row _ _ _ _ (show ¬ 104 = 108 by decide), w2_row _ _ _ _ (show ¬ 104 = 107 by decide), w2_row _ _ _ _ (show ¬ 104 = 106 by decide)]
                  refine G_goto (tgt := 117) ⟨dX12_shelf_113, rfl⟩ rfl ?_
                  refine G_iast (nx := 118) (k := 109) ⟨dX12_shelf_117, rfl⟩ q_109 (by first | assumption | decide | (unfold vp_in; decide)) ?_
                  rw [ech]
                  refine G_iconst (nx := 119) ⟨dX12_shelf_118, rfl⟩ ci_1 ?_
                  refine G_iret ⟨dX12_shelf_119, rfl⟩ rfl ?_
                  exact absurd c_50 c_30
        · refine G_iload_3 (nx := 34) ⟨dX12_shelf_33, rfl⟩ ?_
          refine G_cs1 (nx := 37) ⟨dX12_shelf_34, rfl⟩ kX12_253 rfl rfl (Nat.le_of_ble_eq_true rfl) (Nat.le_of_ble_eq_true rfl) (cM_isSheet ?_)
          refine G_ifne (tgt := 43) (nx := 40) ⟨dX12_shelf_37, rfl⟩ rfl (fun c_37 => ?_) (fun c_37 => ?_)
          · try (rw [bi_n0] at c_37; obtain ⟨p1, hp1, ep1⟩ := s_ex c_37; have hinp : vp_in p 4 := by rw [ep1]; exact in4 hp1)
            refine G_aload_0 (nx := 44) ⟨dX12_shelf_43, rfl⟩ ?_
            refine G_getr (nx := 47) (k := 75) (r := 106) ⟨dX12_shelf_44, rfl⟩ fX12_106 q_75 yr_12_46 (r_75_46 _) ?_
            refine G_iload_1 (nx := 48) ⟨dX12_shelf_47, rfl⟩ ?_
            refine G_iload_2 (nx := 49) ⟨dX12_shelf_48, rfl⟩ ?_
            refine G_iconst (nx := 50) ⟨dX12_shelf_49, rfl⟩ ci_1 ?_
            refine G_icmpne (tgt := 67) (nx := 53) ⟨dX12_shelf_50, rfl⟩ rfl (fun c_50 => ?_) (fun c_50 => ?_)
            · refine G_iload_2 (nx := 68) ⟨dX12_shelf_67, rfl⟩ ?_
              refine G_iast (nx := 69) (k := 106) ⟨dX12_shelf_68, rfl⟩ q_106 (by first | assumption | decide | (unfold vp_in; decide)) ?_
              rw [ech]
              refine G_aload_0 (nx := 70) ⟨dX12_shelf_69, rfl⟩ ?_
              refine G_getr (nx := 73) (k := 75) (r := 107) ⟨dX12_shelf_70, rfl⟩ fX12_109 q_75 yr_12_47 (r_75_47 _) ?_
              refine G_iload_1 (nx := 74) ⟨dX12_shelf_73, rfl⟩ ?_
              refine G_iload_3 (nx := 75) ⟨dX12_shelf_74, rfl⟩ ?_
              refine G_iast (nx := 76) (k := 107) ⟨dX12_shelf_75, rfl⟩ q_107 (by first | assumption | decide | (unfold vp_in; decide)) ?_
              rw [ech]
              refine G_aload_0 (nx := 77) ⟨dX12_shelf_76, rfl⟩ ?_
              refine G_getr (nx := 80) (k := 75) (r := 108) ⟨dX12_shelf_77, rfl⟩ fX12_112 q_75 yr_12_48 (r_75_48 _) ?_
              refine G_iload_1 (nx := 81) ⟨dX12_shelf_80, rfl⟩ ?_
              refine G_iload_2 (nx := 82) ⟨dX12_shelf_81, rfl⟩ ?_
              refine G_iconst (nx := 83) ⟨dX12_shelf_82, rfl⟩ ci_1 ?_
              refine G_icmpne (tgt := 95) (nx := 86) ⟨dX12_shelf_83, rfl⟩ rfl (fun c_83 => ?_) (fun c_83 => ?_)
              · refine G_iconst (nx := 96) ⟨dX12_shelf_95, rfl⟩ ci_m1 ?_
                refine G_iast (nx := 97) (k := 108) ⟨dX12_shelf_96, rfl⟩ q_108 (by first | assumption | decide | (unfold vp_in; decide)) ?_
                rw [ech]
                refine G_aload_0 (nx := 98) ⟨dX12_shelf_97, rfl⟩ ?_
                refine G_getr (nx := 101) (k := 75) (r := 109) ⟨dX12_shelf_98, rfl⟩ fX12_115 q_75 yr_12_49 (r_75_49 _) ?_
                refine G_iload_1 (nx := 102) ⟨dX12_shelf_101, rfl⟩ ?_
                refine G_iload_2 (nx := 103) ⟨dX12_shelf_102, rfl⟩ ?_
                refine G_iconst (nx := 104) ⟨dX12_shelf_103, rfl⟩ ci_1 ?_
                refine G_icmpne (tgt := 116) (nx := 107) ⟨dX12_shelf_104, rfl⟩ rfl (fun c_104 => ?_) (fun c_104 => ?_)
                · refine G_iconst (nx := 117) ⟨dX12_shelf_116, rfl⟩ ci_0 ?_
                  refine G_iast (nx := 118) (k := 109) ⟨dX12_shelf_117, rfl⟩ q_109 (by first | assumption | decide | (unfold vp_in; decide)) ?_
                  rw [ech]
                  refine G_iconst (nx := 119) ⟨dX12_shelf_118, rfl⟩ ci_1 ?_
                  refine G_iret ⟨dX12_shelf_119, rfl⟩ rfl ?_
                  exact absurd c_30 c_50
                · refine G_aload_0 (nx := 108) ⟨dX12_shelf_107, rfl⟩ ?_
                  refine G_getr (nx := 111) (k := 75) (r := 104) ⟨dX12_shelf_108, rfl⟩ fX12_100 q_75 yr_12_44 (r_75_44 _) ?_
                  refine G_iload_3 (nx := 112) ⟨dX12_shelf_111, rfl⟩ ?_
                  refine G_iald (nx := 113) (k := 104) ⟨dX12_shelf_112, rfl⟩ q_104 (by first | assumption | exact absurd c_104 c_30) ?_
                  rw [w2_row _ _ _ _ (show ¬ 104 = 108 by decide), w2_row _ _ _ _ (show ¬ 104 = 107 by decide), w2_row _ _ _ _ (show ¬ 104 = 106 by decide)]
                  refine G_goto (tgt := 117) ⟨dX12_shelf_113, rfl⟩ rfl ?_
                  refine G_iast (nx := 118) (k := 109) ⟨dX12_shelf_117, rfl⟩ q_109 (by first | assumption | decide | (unfold vp_in; decide)) ?_
                  rw [ech]
                  refine G_iconst (nx := 119) ⟨dX12_shelf_118, rfl⟩ ci_1 ?_
                  refine G_iret ⟨dX12_shelf_119, rfl⟩ rfl ?_
                  exact absurd c_30 c_50
              · refine G_aload_0 (nx := 87) ⟨dX12_shelf_86, rfl⟩ ?_
                refine G_getr (nx := 90) (k := 75) (r := 103) ⟨dX12_shelf_87, rfl⟩ fX12_97 q_75 yr_12_43 (r_75_43 _) ?_
                refine G_iload_3 (nx := 91) ⟨dX12_shelf_90, rfl⟩ ?_
                refine G_iald (nx := 92) (k := 103) ⟨dX12_shelf_91, rfl⟩ q_103 (by first | assumption | exact absurd c_83 c_30) ?_
                rw [w2_row _ _ _ _ (show ¬ 103 = 107 by decide), w2_row _ _ _ _ (show ¬ 103 = 106 by decide)]
                refine G_goto (tgt := 96) ⟨dX12_shelf_92, rfl⟩ rfl ?_
                refine G_iast (nx := 97) (k := 108) ⟨dX12_shelf_96, rfl⟩ q_108 (by first | assumption | decide | (unfold vp_in; decide)) ?_
                rw [ech]
                refine G_aload_0 (nx := 98) ⟨dX12_shelf_97, rfl⟩ ?_
                refine G_getr (nx := 101) (k := 75) (r := 109) ⟨dX12_shelf_98, rfl⟩ fX12_115 q_75 yr_12_49 (r_75_49 _) ?_
                refine G_iload_1 (nx := 102) ⟨dX12_shelf_101, rfl⟩ ?_
                refine G_iload_2 (nx := 103) ⟨dX12_shelf_102, rfl⟩ ?_
                refine G_iconst (nx := 104) ⟨dX12_shelf_103, rfl⟩ ci_1 ?_
                refine G_icmpne (tgt := 116) (nx := 107) ⟨dX12_shelf_104, rfl⟩ rfl (fun c_104 => ?_) (fun c_104 => ?_)
                · refine G_iconst (nx := 117) ⟨dX12_shelf_116, rfl⟩ ci_0 ?_
                  refine G_iast (nx := 118) (k := 109) ⟨dX12_shelf_117, rfl⟩ q_109 (by first | assumption | decide | (unfold vp_in; decide)) ?_
                  rw [ech]
                  refine G_iconst (nx := 119) ⟨dX12_shelf_118, rfl⟩ ci_1 ?_
                  refine G_iret ⟨dX12_shelf_119, rfl⟩ rfl ?_
                  exact absurd c_30 c_50
                · refine G_aload_0 (nx := 108) ⟨dX12_shelf_107, rfl⟩ ?_
                  refine G_getr (nx := 111) (k := 75) (r := 104) ⟨dX12_shelf_108, rfl⟩ fX12_100 q_75 yr_12_44 (r_75_44 _) ?_
                  refine G_iload_3 (nx := 112) ⟨dX12_shelf_111, rfl⟩ ?_
                  refine G_iald (nx := 113) (k := 104) ⟨dX12_shelf_112, rfl⟩ q_104 (by first | assumption | exact absurd c_104 c_30) ?_
                  rw [w2_row _ _ _ _ (show ¬ 104 = 108 by decide), w2_row _ _ _ _ (show ¬ 104 = 107 by decide), w2_row _ _ _ _ (show ¬ 104 = 106 by decide)]
                  refine G_goto (tgt := 117) ⟨dX12_shelf_113, rfl⟩ rfl ?_
                  refine G_iast (nx := 118) (k := 109) ⟨dX12_shelf_117, rfl⟩ q_109 (by first | assumption | decide | (unfold vp_in; decide)) ?_
                  rw [ech]
                  refine G_iconst (nx := 119) ⟨dX12_shelf_118, rfl⟩ ci_1 ?_
                  refine G_iret ⟨dX12_shelf_119, rfl⟩ rfl ?_
                  exact absurd c_30 c_50
            · refine G_aload_0 (nx := 54) ⟨dX12_shelf_53, rfl⟩ ?_
              refine G_getr (nx := 57) (k := 75) (r := 103) ⟨dX12_shelf_54, rfl⟩ fX12_97 q_75 yr_12_43 (r_75_43 _) ?_
              refine G_iload_3 (nx := 58) ⟨dX12_shelf_57, rfl⟩ ?_
              refine G_iald (nx := 59) (k := 103) ⟨dX12_shelf_58, rfl⟩ q_103 (by first | assumption | exact absurd c_50 c_30) ?_
              refine G_iconst (nx := 60) ⟨dX12_shelf_59, rfl⟩ ci_m1 ?_
              refine G_icmpne (tgt := 67) (nx := 63) ⟨dX12_shelf_60, rfl⟩ rfl (fun c_60 => ?_) (fun c_60 => ?_)
              · refine G_iload_2 (nx := 68) ⟨dX12_shelf_67, rfl⟩ ?_
                refine G_iast (nx := 69) (k := 106) ⟨dX12_shelf_68, rfl⟩ q_106 (by first | assumption | decide | (unfold vp_in; decide)) ?_
                rw [ech]
                refine G_aload_0 (nx := 70) ⟨dX12_shelf_69, rfl⟩ ?_
                refine G_getr (nx := 73) (k := 75) (r := 107) ⟨dX12_shelf_70, rfl⟩ fX12_109 q_75 yr_12_47 (r_75_47 _) ?_
                refine G_iload_1 (nx := 74) ⟨dX12_shelf_73, rfl⟩ ?_
                refine G_iload_3 (nx := 75) ⟨dX12_shelf_74, rfl⟩ ?_
                refine G_iast (nx := 76) (k := 107) ⟨dX12_shelf_75, rfl⟩ q_107 (by first | assumption | decide | (unfold vp_in; decide)) ?_
                rw [ech]
                refine G_aload_0 (nx := 77) ⟨dX12_shelf_76, rfl⟩ ?_
                refine G_getr (nx := 80) (k := 75) (r := 108) ⟨dX12_shelf_77, rfl⟩ fX12_112 q_75 yr_12_48 (r_75_48 _) ?_
                refine G_iload_1 (nx := 81) ⟨dX12_shelf_80, rfl⟩ ?_
                refine G_iload_2 (nx := 82) ⟨dX12_shelf_81, rfl⟩ ?_
                refine G_iconst (nx := 83) ⟨dX12_shelf_82, rfl⟩ ci_1 ?_
                refine G_icmpne (tgt := 95) (nx := 86) ⟨dX12_shelf_83, rfl⟩ rfl (fun c_83 => ?_) (fun c_83 => ?_)
                · refine G_iconst (nx := 96) ⟨dX12_shelf_95, rfl⟩ ci_m1 ?_
                  refine G_iast (nx := 97) (k := 108) ⟨dX12_shelf_96, rfl⟩ q_108 (by first | assumption | decide | (unfold vp_in; decide)) ?_
                  rw [ech]
                  refine G_aload_0 (nx := 98) ⟨dX12_shelf_97, rfl⟩ ?_
                  refine G_getr (nx := 101) (k := 75) (r := 109) ⟨dX12_shelf_98, rfl⟩ fX12_115 q_75 yr_12_49 (r_75_49 _) ?_
                  refine G_iload_1 (nx := 102) ⟨dX12_shelf_101, rfl⟩ ?_
                  refine G_iload_2 (nx := 103) ⟨dX12_shelf_102, rfl⟩ ?_
                  refine G_iconst (nx := 104) ⟨dX12_shelf_103, rfl⟩ ci_1 ?_
                  refine G_icmpne (tgt := 116) (nx := 107) ⟨dX12_shelf_104, rfl⟩ rfl (fun c_104 => ?_) (fun c_104 => ?_)
                  · refine G_iconst (nx := 117) ⟨dX12_shelf_116, rfl⟩ ci_0 ?_
                    refine G_iast (nx := 118) (k := 109) ⟨dX12_shelf_117, rfl⟩ q_109 (by first | assumption | decide | (unfold vp_in; decide)) ?_
                    rw [ech]
                    refine G_iconst (nx := 119) ⟨dX12_shelf_118, rfl⟩ ci_1 ?_
                    refine G_iret ⟨dX12_shelf_119, rfl⟩ rfl ?_
                    exact absurd c_30 c_83
                  · refine G_aload_0 (nx := 108) ⟨dX12_shelf_107, rfl⟩ ?_
                    refine G_getr (nx := 111) (k := 75) (r := 104) ⟨dX12_shelf_108, rfl⟩ fX12_100 q_75 yr_12_44 (r_75_44 _) ?_
                    refine G_iload_3 (nx := 112) ⟨dX12_shelf_111, rfl⟩ ?_
                    refine G_iald (nx := 113) (k := 104) ⟨dX12_shelf_112, rfl⟩ q_104 (by first | assumption | exact absurd c_104 c_30) ?_
                    rw [w2_row _ _ _ _ (show ¬ 104 = 108 by decide), w2_row _ _ _ _ (show ¬ 104 = 107 by decide), w2_row _ _ _ _ (show ¬ 104 = 106 by decide)]
                    refine G_goto (tgt := 117) ⟨dX12_shelf_113, rfl⟩ rfl ?_
                    refine G_iast (nx := 118) (k := 109) ⟨dX12_shelf_117, rfl⟩ q_109 (by first | assumption | decide | (unfold vp_in; decide)) ?_
                    rw [ech]
                    refine G_iconst (nx := 119) ⟨dX12_shelf_118, rfl⟩ ci_1 ?_
                    refine G_iret ⟨dX12_shelf_119, rfl⟩ rfl ?_
                    exact absurd c_30 c_83
                · refine G_aload_0 (nx := 87) ⟨dX12_shelf_86, rfl⟩ ?_
                  refine G_getr (nx := 90) (k := 75) (r := 103) ⟨dX12_shelf_87, rfl⟩ fX12_97 q_75 yr_12_43 (r_75_43 _) ?_
                  refine G_iload_3 (nx := 91) ⟨dX12_shelf_90, rfl⟩ ?_
                  refine G_iald (nx := 92) (k := 103) ⟨dX12_shelf_91, rfl⟩ q_103 (by first | assumption | exact absurd c_83 c_30) ?_
                  rw [w2_row _ _ _ _ (show ¬ 103 = 107 by decide), w2_row _ _ _ _ (show ¬ 103 = 106 by decide)]
                  refine G_goto (tgt := 96) ⟨dX12_shelf_92, rfl⟩ rfl ?_
                  refine G_iast (nx := 97) (k := 108) ⟨dX12_shelf_96, rfl⟩ q_108 (by first | assumption | decide | (unfold vp_in; decide)) ?_
                  rw [ech]
                  refine G_aload_0 (nx := 98) ⟨dX12_shelf_97, rfl⟩ ?_
                  refine G_getr (nx := 101) (k := 75) (r := 109) ⟨dX12_shelf_98, rfl⟩ fX12_115 q_75 yr_12_49 (r_75_49 _) ?_
                  refine G_iload_1 (nx := 102) ⟨dX12_shelf_101, rfl⟩ ?_
                  refine G_iload_2 (nx := 103) ⟨dX12_shelf_102, rfl⟩ ?_
                  refine G_iconst (nx := 104) ⟨dX12_shelf_103, rfl⟩ ci_1 ?_
                  refine G_icmpne (tgt := 116) (nx := 107) ⟨dX12_shelf_104, rfl⟩ rfl (fun c_104 => ?_) (fun c_104 => ?_)
                  · refine G_iconst (nx := 117) ⟨dX12_shelf_116, rfl⟩ ci_0 ?_
                    refine G_iast (nx := 118) (k := 109) ⟨dX12_shelf_117, rfl⟩ q_109 (by first | assumption | decide | (unfold vp_in; decide)) ?_
                    rw [ech]
                    refine G_iconst (nx := 119) ⟨dX12_shelf_118, rfl⟩ ci_1 ?_
                    refine G_iret ⟨dX12_shelf_119, rfl⟩ rfl ?_
                    exact absurd c_30 c_104
                  · refine G_aload_0 (nx := 108) ⟨dX12_shelf_107, rfl⟩ ?_
                    refine G_getr (nx := 111) (k := 75) (r := 104) ⟨dX12_shelf_108, rfl⟩ fX12_100 q_75 yr_12_44 (r_75_44 _) ?_
                    refine G_iload_3 (nx := 112) ⟨dX12_shelf_111, rfl⟩ ?_
                    refine G_iald (nx := 113) (k := 104) ⟨dX12_shelf_112, rfl⟩ q_104 (by first | assumption | exact absurd c_104 c_30) ?_
                    rw [w2_row _ _ _ _ (show ¬ 104 = 108 by decide), w2_row _ _ _ _ (show ¬ 104 = 107 by decide), w2_row _ _ _ _ (show ¬ 104 = 106 by decide)]
                    refine G_goto (tgt := 117) ⟨dX12_shelf_113, rfl⟩ rfl ?_
                    refine G_iast (nx := 118) (k := 109) ⟨dX12_shelf_117, rfl⟩ q_109 (by first | assumption | decide | (unfold vp_in; decide)) ?_
                    rw [ech]
                    refine G_iconst (nx := 119) ⟨dX12_shelf_118, rfl⟩ ci_1 ?_
                    refine G_iret ⟨dX12_shelf_119, rfl⟩ rfl ?_
                    have hok : shB n (nI h0) q p = true := by
                      simp only [shB, Bool.and_eq_true, Bool.or_eq_true, Bool.not_eq_true', decide_eq_false_iff_not]
                      exact ⟨⟨⟨c_4, c_13⟩, Or.inl c_17⟩, Or.inr c_37⟩
                    have fin := hk h0 rfl hh0 hok
                    rw [if_pos c_30, if_pos c_30, if_neg (fun h => c_60 h.2)] at fin
                    exact fin
              · refine G_iconst (nx := 64) ⟨dX12_shelf_63, rfl⟩ ci_2 ?_
                refine G_goto (tgt := 68) ⟨dX12_shelf_64, rfl⟩ rfl ?_
                refine G_iast (nx := 69) (k := 106) ⟨dX12_shelf_68, rfl⟩ q_106 (by first | assumption | decide | (unfold vp_in; decide)) ?_
                rw [ech]
                refine G_aload_0 (nx := 70) ⟨dX12_shelf_69, rfl⟩ ?_
                refine G_getr (nx := 73) (k := 75) (r := 107) ⟨dX12_shelf_70, rfl⟩ fX12_109 q_75 yr_12_47 (r_75_47 _) ?_
                refine G_iload_1 (nx := 74) ⟨dX12_shelf_73, rfl⟩ ?_
                refine G_iload_3 (nx := 75) ⟨dX12_shelf_74, rfl⟩ ?_
                refine G_iast (nx := 76) (k := 107) ⟨dX12_shelf_75, rfl⟩ q_107 (by first | assumption | decide | (unfold vp_in; decide)) ?_
                rw [ech]
                refine G_aload_0 (nx := 77) ⟨dX12_shelf_76, rfl⟩ ?_
                refine G_getr (nx := 80) (k := 75) (r := 108) ⟨dX12_shelf_77, rfl⟩ fX12_112 q_75 yr_12_48 (r_75_48 _) ?_
                refine G_iload_1 (nx := 81) ⟨dX12_shelf_80, rfl⟩ ?_
                refine G_iload_2 (nx := 82) ⟨dX12_shelf_81, rfl⟩ ?_
                refine G_iconst (nx := 83) ⟨dX12_shelf_82, rfl⟩ ci_1 ?_
                refine G_icmpne (tgt := 95) (nx := 86) ⟨dX12_shelf_83, rfl⟩ rfl (fun c_83 => ?_) (fun c_83 => ?_)
                · refine G_iconst (nx := 96) ⟨dX12_shelf_95, rfl⟩ ci_m1 ?_
                  refine G_iast (nx := 97) (k := 108) ⟨dX12_shelf_96, rfl⟩ q_108 (by first | assumption | decide | (unfold vp_in; decide)) ?_
                  rw [ech]
                  refine G_aload_0 (nx := 98) ⟨dX12_shelf_97, rfl⟩ ?_
                  refine G_getr (nx := 101) (k := 75) (r := 109) ⟨dX12_shelf_98, rfl⟩ fX12_115 q_75 yr_12_49 (r_75_49 _) ?_
                  refine G_iload_1 (nx := 102) ⟨dX12_shelf_101, rfl⟩ ?_
                  refine G_iload_2 (nx := 103) ⟨dX12_shelf_102, rfl⟩ ?_
                  refine G_iconst (nx := 104) ⟨dX12_shelf_103, rfl⟩ ci_1 ?_
                  refine G_icmpne (tgt := 116) (nx := 107) ⟨dX12_shelf_104, rfl⟩ rfl (fun c_104 => ?_) (fun c_104 => ?_)
                  · refine G_iconst (nx := 117) ⟨dX12_shelf_116, rfl⟩ ci_0 ?_
                    refine G_iast (nx := 118) (k := 109) ⟨dX12_shelf_117, rfl⟩ q_109 (by first | assumption | decide | (unfold vp_in; decide)) ?_
                    rw [ech]
                    refine G_iconst (nx := 119) ⟨dX12_shelf_118, rfl⟩ ci_1 ?_
                    refine G_iret ⟨dX12_shelf_119, rfl⟩ rfl ?_
                    exact absurd c_30 c_83
                  · refine G_aload_0 (nx := 108) ⟨dX12_shelf_107, rfl⟩ ?_
                    refine G_getr (nx := 111) (k := 75) (r := 104) ⟨dX12_shelf_108, rfl⟩ fX12_100 q_75 yr_12_44 (r_75_44 _) ?_
                    refine G_iload_3 (nx := 112) ⟨dX12_shelf_111, rfl⟩ ?_
                    refine G_iald (nx := 113) (k := 104) ⟨dX12_shelf_112, rfl⟩ q_104 (by first | assumption | exact absurd c_104 c_30) ?_
                    rw [w2_row _ _ _ _ (show ¬ 104 = 108 by decide), w2_row _ _ _ _ (show ¬ 104 = 107 by decide), w2_row _ _ _ _ (show ¬ 104 = 106 by decide)]
                    refine G_goto (tgt := 117) ⟨dX12_shelf_113, rfl⟩ rfl ?_
                    refine G_iast (nx := 118) (k := 109) ⟨dX12_shelf_117, rfl⟩ q_109 (by first | assumption | decide | (unfold vp_in; decide)) ?_
                    rw [ech]
                    refine G_iconst (nx := 119) ⟨dX12_shelf_118, rfl⟩ ci_1 ?_
                    refine G_iret ⟨dX12_shelf_119, rfl⟩ rfl ?_
                    exact absurd c_30 c_83
                · refine G_aload_0 (nx := 87) ⟨dX12_shelf_86, rfl⟩ ?_
                  refine G_getr (nx := 90) (k := 75) (r := 103) ⟨dX12_shelf_87, rfl⟩ fX12_97 q_75 yr_12_43 (r_75_43 _) ?_
                  refine G_iload_3 (nx := 91) ⟨dX12_shelf_90, rfl⟩ ?_
                  refine G_iald (nx := 92) (k := 103) ⟨dX12_shelf_91, rfl⟩ q_103 (by first | assumption | exact absurd c_83 c_30) ?_
                  rw [w2_row _ _ _ _ (show ¬ 103 = 107 by decide), w2_row _ _ _ _ (show ¬ 103 = 106 by decide)]
                  refine G_goto (tgt := 96) ⟨dX12_shelf_92, rfl⟩ rfl ?_
                  refine G_iast (nx := 97) (k := 108) ⟨dX12_shelf_96, rfl⟩ q_108 (by first | assumption | decide | (unfold vp_in; decide)) ?_
                  rw [ech]
                  refine G_aload_0 (nx := 98) ⟨dX12_shelf_97, rfl⟩ ?_
                  refine G_getr (nx := 101) (k := 75) (r := 109) ⟨dX12_shelf_98, rfl⟩ fX12_115 q_75 yr_12_49 (r_75_49 _) ?_
                  refine G_iload_1 (nx := 102) ⟨dX12_shelf_101, rfl⟩ ?_
                  refine G_iload_2 (nx := 103) ⟨dX12_shelf_102, rfl⟩ ?_
                  refine G_iconst (nx := 104) ⟨dX12_shelf_103, rfl⟩ ci_1 ?_
                  refine G_icmpne (tgt := 116) (nx := 107) ⟨dX12_shelf_104, rfl⟩ rfl (fun c_104 => ?_) (fun c_104 => ?_)
                  · refine G_iconst (nx := 117) ⟨dX12_shelf_116, rfl⟩ ci_0 ?_
                    refine G_iast (nx := 118) (k := 109) ⟨dX12_shelf_117, rfl⟩ q_109 (by first | assumption | decide | (unfold vp_in; decide)) ?_
                    rw [ech]
                    refine G_iconst (nx := 119) ⟨dX12_shelf_118, rfl⟩ ci_1 ?_
                    refine G_iret ⟨dX12_shelf_119, rfl⟩ rfl ?_
                    exact absurd c_30 c_104
                  · refine G_aload_0 (nx := 108) ⟨dX12_shelf_107, rfl⟩ ?_
                    refine G_getr (nx := 111) (k := 75) (r := 104) ⟨dX12_shelf_108, rfl⟩ fX12_100 q_75 yr_12_44 (r_75_44 _) ?_
                    refine G_iload_3 (nx := 112) ⟨dX12_shelf_111, rfl⟩ ?_
                    refine G_iald (nx := 113) (k := 104) ⟨dX12_shelf_112, rfl⟩ q_104 (by first | assumption | exact absurd c_104 c_30) ?_
                    rw [w2_row _ _ _ _ (show ¬ 104 = 108 by decide), w2_row _ _ _ _ (show ¬ 104 = 107 by decide), w2_row _ _ _ _ (show ¬ 104 = 106 by decide)]
                    refine G_goto (tgt := 117) ⟨dX12_shelf_113, rfl⟩ rfl ?_
                    refine G_iast (nx := 118) (k := 109) ⟨dX12_shelf_117, rfl⟩ q_109 (by first | assumption | decide | (unfold vp_in; decide)) ?_
                    rw [ech]
                    refine G_iconst (nx := 119) ⟨dX12_shelf_118, rfl⟩ ci_1 ?_
                    refine G_iret ⟨dX12_shelf_119, rfl⟩ rfl ?_
                    have hok : shB n (nI h0) q p = true := by
                      simp only [shB, Bool.and_eq_true, Bool.or_eq_true, Bool.not_eq_true', decide_eq_false_iff_not]
                      exact ⟨⟨⟨c_4, c_13⟩, Or.inl c_17⟩, Or.inr c_37⟩
                    have fin := hk h0 rfl hh0 hok
                    rw [if_pos c_30, if_pos c_30, if_pos ⟨c_30, c_60⟩] at fin
                    exact fin
          · refine G_bipush (nx := 42) ⟨dX12_shelf_40, rfl⟩ cb_m2 ?_
            refine G_iret ⟨dX12_shelf_42, rfl⟩ rfl ?_
            rw [bi_0] at c_37
            exact hk1 (by simp [shB, c_37, c_30])
      · refine G_aload_0 (nx := 21) ⟨dX12_shelf_20, rfl⟩ ?_
        refine G_iload_3 (nx := 22) ⟨dX12_shelf_21, rfl⟩ ?_
        refine G_cv1 (nx := 25) ⟨dX12_shelf_22, rfl⟩ kX12_145 rfl q_75 rfl (Nat.le_of_ble_eq_true rfl) (Nat.le_of_ble_eq_true rfl) (cM_isPoint hG ?_)
        refine G_ifeq (tgt := 40) (nx := 28) ⟨dX12_shelf_25, rfl⟩ rfl (fun c_25 => ?_) (fun c_25 => ?_)
        · refine G_bipush (nx := 42) ⟨dX12_shelf_40, rfl⟩ cb_m2 ?_
          refine G_iret ⟨dX12_shelf_42, rfl⟩ rfl ?_
          rw [bi_0] at c_25
          exact hk1 (by simp [shB, c_25, c_17])
        · try rw [bi_n0] at c_25
          refine G_iload_2 (nx := 29) ⟨dX12_shelf_28, rfl⟩ ?_
          refine G_iconst (nx := 30) ⟨dX12_shelf_29, rfl⟩ ci_1 ?_
          refine G_icmpne (tgt := 43) (nx := 33) ⟨dX12_shelf_30, rfl⟩ rfl (fun c_30 => ?_) (fun c_30 => ?_)
          · try (rw [bi_n0] at c_37; obtain ⟨p1, hp1, ep1⟩ := s_ex c_37; have hinp : vp_in p 4 := by rw [ep1]; exact in4 hp1)
            refine G_aload_0 (nx := 44) ⟨dX12_shelf_43, rfl⟩ ?_
            refine G_getr (nx := 47) (k := 75) (r := 106) ⟨dX12_shelf_44, rfl⟩ fX12_106 q_75 yr_12_46 (r_75_46 _) ?_
            refine G_iload_1 (nx := 48) ⟨dX12_shelf_47, rfl⟩ ?_
            refine G_iload_2 (nx := 49) ⟨dX12_shelf_48, rfl⟩ ?_
            refine G_iconst (nx := 50) ⟨dX12_shelf_49, rfl⟩ ci_1 ?_
            refine G_icmpne (tgt := 67) (nx := 53) ⟨dX12_shelf_50, rfl⟩ rfl (fun c_50 => ?_) (fun c_50 => ?_)
            · refine G_iload_2 (nx := 68) ⟨dX12_shelf_67, rfl⟩ ?_
              refine G_iast (nx := 69) (k := 106) ⟨dX12_shelf_68, rfl⟩ q_106 (by first | assumption | decide | (unfold vp_in; decide)) ?_
              rw [ech]
              refine G_aload_0 (nx := 70) ⟨dX12_shelf_69, rfl⟩ ?_
              refine G_getr (nx := 73) (k := 75) (r := 107) ⟨dX12_shelf_70, rfl⟩ fX12_109 q_75 yr_12_47 (r_75_47 _) ?_
              refine G_iload_1 (nx := 74) ⟨dX12_shelf_73, rfl⟩ ?_
              refine G_iload_3 (nx := 75) ⟨dX12_shelf_74, rfl⟩ ?_
              refine G_iast (nx := 76) (k := 107) ⟨dX12_shelf_75, rfl⟩ q_107 (by first | assumption | decide | (unfold vp_in; decide)) ?_
              rw [ech]
              refine G_aload_0 (nx := 77) ⟨dX12_shelf_76, rfl⟩ ?_
              refine G_getr (nx := 80) (k := 75) (r := 108) ⟨dX12_shelf_77, rfl⟩ fX12_112 q_75 yr_12_48 (r_75_48 _) ?_
              refine G_iload_1 (nx := 81) ⟨dX12_shelf_80, rfl⟩ ?_
              refine G_iload_2 (nx := 82) ⟨dX12_shelf_81, rfl⟩ ?_
              refine G_iconst (nx := 83) ⟨dX12_shelf_82, rfl⟩ ci_1 ?_
              refine G_icmpne (tgt := 95) (nx := 86) ⟨dX12_shelf_83, rfl⟩ rfl (fun c_83 => ?_) (fun c_83 => ?_)
              · refine G_iconst (nx := 96) ⟨dX12_shelf_95, rfl⟩ ci_m1 ?_
                refine G_iast (nx := 97) (k := 108) ⟨dX12_shelf_96, rfl⟩ q_108 (by first | assumption | decide | (unfold vp_in; decide)) ?_
                rw [ech]
                refine G_aload_0 (nx := 98) ⟨dX12_shelf_97, rfl⟩ ?_
                refine G_getr (nx := 101) (k := 75) (r := 109) ⟨dX12_shelf_98, rfl⟩ fX12_115 q_75 yr_12_49 (r_75_49 _) ?_
                refine G_iload_1 (nx := 102) ⟨dX12_shelf_101, rfl⟩ ?_
                refine G_iload_2 (nx := 103) ⟨dX12_shelf_102, rfl⟩ ?_
                refine G_iconst (nx := 104) ⟨dX12_shelf_103, rfl⟩ ci_1 ?_
                refine G_icmpne (tgt := 116) (nx := 107) ⟨dX12_shelf_104, rfl⟩ rfl (fun c_104 => ?_) (fun c_104 => ?_)
                · refine G_iconst (nx := 117) ⟨dX12_shelf_116, rfl⟩ ci_0 ?_
                  refine G_iast (nx := 118) (k := 109) ⟨dX12_shelf_117, rfl⟩ q_109 (by first | assumption | decide | (unfold vp_in; decide)) ?_
                  rw [ech]
                  refine G_iconst (nx := 119) ⟨dX12_shelf_118, rfl⟩ ci_1 ?_
                  refine G_iret ⟨dX12_shelf_119, rfl⟩ rfl ?_
                  have hok : shB n (nI h0) q p = true := by
                    simp only [shB, Bool.and_eq_true, Bool.or_eq_true, Bool.not_eq_true', decide_eq_false_iff_not]
                    exact ⟨⟨⟨c_4, c_13⟩, Or.inr c_25⟩, Or.inl c_30⟩
                  have fin := hk h0 rfl hh0 hok
                  rw [if_neg c_30, if_neg c_30, if_neg (fun h => c_30 h.1)] at fin
                  exact fin
                · refine G_aload_0 (nx := 108) ⟨dX12_shelf_107, rfl⟩ ?_
                  refine G_getr (nx := 111) (k := 75) (r := 104) ⟨dX12_shelf_108, rfl⟩ fX12_100 q_75 yr_12_44 (r_75_44 _) ?_
                  refine G_iload_3 (nx := 112) ⟨dX12_shelf_111, rfl⟩ ?_
                  refine G_iald (nx := 113) (k := 104) ⟨dX12_shelf_112, rfl⟩ q_104 (by first | assumption | exact absurd c_104 c_30) ?_
                  rw [w2_row _ _ _ _ (show ¬ 104 = 108 by decide), w2_row _ _ _ _ (show ¬ 104 = 107 by decide), w2_row _ _ _ _ (show ¬ 104 = 106 by decide)]
                  refine G_goto (tgt := 117) ⟨dX12_shelf_113, rfl⟩ rfl ?_
                  refine G_iast (nx := 118) (k := 109) ⟨dX12_shelf_117, rfl⟩ q_109 (by first | assumption | decide | (unfold vp_in; decide)) ?_
                  rw [ech]
                  refine G_iconst (nx := 119) ⟨dX12_shelf_118, rfl⟩ ci_1 ?_
                  refine G_iret ⟨dX12_shelf_119, rfl⟩ rfl ?_
                  exact absurd c_104 c_30
              · refine G_aload_0 (nx := 87) ⟨dX12_shelf_86, rfl⟩ ?_
                refine G_getr (nx := 90) (k := 75) (r := 103) ⟨dX12_shelf_87, rfl⟩ fX12_97 q_75 yr_12_43 (r_75_43 _) ?_
                refine G_iload_3 (nx := 91) ⟨dX12_shelf_90, rfl⟩ ?_
                refine G_iald (nx := 92) (k := 103) ⟨dX12_shelf_91, rfl⟩ q_103 (by first | assumption | exact absurd c_83 c_30) ?_
                rw [w2_row _ _ _ _ (show ¬ 103 = 107 by decide), w2_row _ _ _ _ (show ¬ 103 = 106 by decide)]
                refine G_goto (tgt := 96) ⟨dX12_shelf_92, rfl⟩ rfl ?_
                refine G_iast (nx := 97) (k := 108) ⟨dX12_shelf_96, rfl⟩ q_108 (by first | assumption | decide | (unfold vp_in; decide)) ?_
                rw [ech]
                refine G_aload_0 (nx := 98) ⟨dX12_shelf_97, rfl⟩ ?_
                refine G_getr (nx := 101) (k := 75) (r := 109) ⟨dX12_shelf_98, rfl⟩ fX12_115 q_75 yr_12_49 (r_75_49 _) ?_
                refine G_iload_1 (nx := 102) ⟨dX12_shelf_101, rfl⟩ ?_
                refine G_iload_2 (nx := 103) ⟨dX12_shelf_102, rfl⟩ ?_
                refine G_iconst (nx := 104) ⟨dX12_shelf_103, rfl⟩ ci_1 ?_
                refine G_icmpne (tgt := 116) (nx := 107) ⟨dX12_shelf_104, rfl⟩ rfl (fun c_104 => ?_) (fun c_104 => ?_)
                · refine G_iconst (nx := 117) ⟨dX12_shelf_116, rfl⟩ ci_0 ?_
                  refine G_iast (nx := 118) (k := 109) ⟨dX12_shelf_117, rfl⟩ q_109 (by first | assumption | decide | (unfold vp_in; decide)) ?_
                  rw [ech]
                  refine G_iconst (nx := 119) ⟨dX12_shelf_118, rfl⟩ ci_1 ?_
                  refine G_iret ⟨dX12_shelf_119, rfl⟩ rfl ?_
                  exact absurd c_83 c_30
                · refine G_aload_0 (nx := 108) ⟨dX12_shelf_107, rfl⟩ ?_
                  refine G_getr (nx := 111) (k := 75) (r := 104) ⟨dX12_shelf_108, rfl⟩ fX12_100 q_75 yr_12_44 (r_75_44 _) ?_
                  refine G_iload_3 (nx := 112) ⟨dX12_shelf_111, rfl⟩ ?_
                  refine G_iald (nx := 113) (k := 104) ⟨dX12_shelf_112, rfl⟩ q_104 (by first | assumption | exact absurd c_104 c_30) ?_
                  rw [w2_row _ _ _ _ (show ¬ 104 = 108 by decide), w2_row _ _ _ _ (show ¬ 104 = 107 by decide), w2_row _ _ _ _ (show ¬ 104 = 106 by decide)]
                  refine G_goto (tgt := 117) ⟨dX12_shelf_113, rfl⟩ rfl ?_
                  refine G_iast (nx := 118) (k := 109) ⟨dX12_shelf_117, rfl⟩ q_109 (by first | assumption | decide | (unfold vp_in; decide)) ?_
                  rw [ech]
                  refine G_iconst (nx := 119) ⟨dX12_shelf_118, rfl⟩ ci_1 ?_
                  refine G_iret ⟨dX12_shelf_119, rfl⟩ rfl ?_
                  exact absurd c_83 c_30
            · refine G_aload_0 (nx := 54) ⟨dX12_shelf_53, rfl⟩ ?_
              refine G_getr (nx := 57) (k := 75) (r := 103) ⟨dX12_shelf_54, rfl⟩ fX12_97 q_75 yr_12_43 (r_75_43 _) ?_
              refine G_iload_3 (nx := 58) ⟨dX12_shelf_57, rfl⟩ ?_
              refine G_iald (nx := 59) (k := 103) ⟨dX12_shelf_58, rfl⟩ q_103 (by first | assumption | exact absurd c_50 c_30) ?_
              refine G_iconst (nx := 60) ⟨dX12_shelf_59, rfl⟩ ci_m1 ?_
              refine G_icmpne (tgt := 67) (nx := 63) ⟨dX12_shelf_60, rfl⟩ rfl (fun c_60 => ?_) (fun c_60 => ?_)
              · refine G_iload_2 (nx := 68) ⟨dX12_shelf_67, rfl⟩ ?_
                refine G_iast (nx := 69) (k := 106) ⟨dX12_shelf_68, rfl⟩ q_106 (by first | assumption | decide | (unfold vp_in; decide)) ?_
                rw [ech]
                refine G_aload_0 (nx := 70) ⟨dX12_shelf_69, rfl⟩ ?_
                refine G_getr (nx := 73) (k := 75) (r := 107) ⟨dX12_shelf_70, rfl⟩ fX12_109 q_75 yr_12_47 (r_75_47 _) ?_
                refine G_iload_1 (nx := 74) ⟨dX12_shelf_73, rfl⟩ ?_
                refine G_iload_3 (nx := 75) ⟨dX12_shelf_74, rfl⟩ ?_
                refine G_iast (nx := 76) (k := 107) ⟨dX12_shelf_75, rfl⟩ q_107 (by first | assumption | decide | (unfold vp_in; decide)) ?_
                rw [ech]
                refine G_aload_0 (nx := 77) ⟨dX12_shelf_76, rfl⟩ ?_
                refine G_getr (nx := 80) (k := 75) (r := 108) ⟨dX12_shelf_77, rfl⟩ fX12_112 q_75 yr_12_48 (r_75_48 _) ?_
                refine G_iload_1 (nx := 81) ⟨dX12_shelf_80, rfl⟩ ?_
                refine G_iload_2 (nx := 82) ⟨dX12_shelf_81, rfl⟩ ?_
                refine G_iconst (nx := 83) ⟨dX12_shelf_82, rfl⟩ ci_1 ?_
                refine G_icmpne (tgt := 95) (nx := 86) ⟨dX12_shelf_83, rfl⟩ rfl (fun c_83 => ?_) (fun c_83 => ?_)
                · refine G_iconst (nx := 96) ⟨dX12_shelf_95, rfl⟩ ci_m1 ?_
                  refine G_iast (nx := 97) (k := 108) ⟨dX12_shelf_96, rfl⟩ q_108 (by first | assumption | decide | (unfold vp_in; decide)) ?_
                  rw [ech]
                  refine G_aload_0 (nx := 98) ⟨dX12_shelf_97, rfl⟩ ?_
                  refine G_getr (nx := 101) (k := 75) (r := 109) ⟨dX12_shelf_98, rfl⟩ fX12_115 q_75 yr_12_49 (r_75_49 _) ?_
                  refine G_iload_1 (nx := 102) ⟨dX12_shelf_101, rfl⟩ ?_
                  refine G_iload_2 (nx := 103) ⟨dX12_shelf_102, rfl⟩ ?_
                  refine G_iconst (nx := 104) ⟨dX12_shelf_103, rfl⟩ ci_1 ?_
                  refine G_icmpne (tgt := 116) (nx := 107) ⟨dX12_shelf_104, rfl⟩ rfl (fun c_104 => ?_) (fun c_104 => ?_)
                  · refine G_iconst (nx := 117) ⟨dX12_shelf_116, rfl⟩ ci_0 ?_
                    refine G_iast (nx := 118) (k := 109) ⟨dX12_shelf_117, rfl⟩ q_109 (by first | assumption | decide | (unfold vp_in; decide)) ?_
                    rw [ech]
                    refine G_iconst (nx := 119) ⟨dX12_shelf_118, rfl⟩ ci_1 ?_
                    refine G_iret ⟨dX12_shelf_119, rfl⟩ rfl ?_
                    exact absurd c_50 c_30
                  · refine G_aload_0 (nx := 108) ⟨dX12_shelf_107, rfl⟩ ?_
                    refine G_getr (nx := 111) (k := 75) (r := 104) ⟨dX12_shelf_108, rfl⟩ fX12_100 q_75 yr_12_44 (r_75_44 _) ?_
                    refine G_iload_3 (nx := 112) ⟨dX12_shelf_111, rfl⟩ ?_
                    refine G_iald (nx := 113) (k := 104) ⟨dX12_shelf_112, rfl⟩ q_104 (by first | assumption | exact absurd c_104 c_30) ?_
                    rw [w2_row _ _ _ _ (show ¬ 104 = 108 by decide), w2_row _ _ _ _ (show ¬ 104 = 107 by decide), w2_row _ _ _ _ (show ¬ 104 = 106 by decide)]
                    refine G_goto (tgt := 117) ⟨dX12_shelf_113, rfl⟩ rfl ?_
                    refine G_iast (nx := 118) (k := 109) ⟨dX12_shelf_117, rfl⟩ q_109 (by first | assumption | decide | (unfold vp_in; decide)) ?_
                    rw [ech]
                    refine G_iconst (nx := 119) ⟨dX12_shelf_118, rfl⟩ ci_1 ?_
                    refine G_iret ⟨dX12_shelf_119, rfl⟩ rfl ?_
                    exact absurd c_50 c_30
                · refine G_aload_0 (nx := 87) ⟨dX12_shelf_86, rfl⟩ ?_
                  refine G_getr (nx := 90) (k := 75) (r := 103) ⟨dX12_shelf_87, rfl⟩ fX12_97 q_75 yr_12_43 (r_75_43 _) ?_
                  refine G_iload_3 (nx := 91) ⟨dX12_shelf_90, rfl⟩ ?_
                  refine G_iald (nx := 92) (k := 103) ⟨dX12_shelf_91, rfl⟩ q_103 (by first | assumption | exact absurd c_83 c_30) ?_
                  rw [w2_row _ _ _ _ (show ¬ 103 = 107 by decide), w2_row _ _ _ _ (show ¬ 103 = 106 by decide)]
                  refine G_goto (tgt := 96) ⟨dX12_shelf_92, rfl⟩ rfl ?_
                  refine G_iast (nx := 97) (k := 108) ⟨dX12_shelf_96, rfl⟩ q_108 (by first | assumption | decide | (unfold vp_in; decide)) ?_
                  rw [ech]
                  refine G_aload_0 (nx := 98) ⟨dX12_shelf_97, rfl⟩ ?_
                  refine G_getr (nx := 101) (k := 75) (r := 109) ⟨dX12_shelf_98, rfl⟩ fX12_115 q_75 yr_12_49 (r_75_49 _) ?_
                  refine G_iload_1 (nx := 102) ⟨dX12_shelf_101, rfl⟩ ?_
                  refine G_iload_2 (nx := 103) ⟨dX12_shelf_102, rfl⟩ ?_
                  refine G_iconst (nx := 104) ⟨dX12_shelf_103, rfl⟩ ci_1 ?_
                  refine G_icmpne (tgt := 116) (nx := 107) ⟨dX12_shelf_104, rfl⟩ rfl (fun c_104 => ?_) (fun c_104 => ?_)
                  · refine G_iconst (nx := 117) ⟨dX12_shelf_116, rfl⟩ ci_0 ?_
                    refine G_iast (nx := 118) (k := 109) ⟨dX12_shelf_117, rfl⟩ q_109 (by first | assumption | decide | (unfold vp_in; decide)) ?_
                    rw [ech]
                    refine G_iconst (nx := 119) ⟨dX12_shelf_118, rfl⟩ ci_1 ?_
                    refine G_iret ⟨dX12_shelf_119, rfl⟩ rfl ?_
                    exact absurd c_50 c_30
                  · refine G_aload_0 (nx := 108) ⟨dX12_shelf_107, rfl⟩ ?_
                    refine G_getr (nx := 111) (k := 75) (r := 104) ⟨dX12_shelf_108, rfl⟩ fX12_100 q_75 yr_12_44 (r_75_44 _) ?_
                    refine G_iload_3 (nx := 112) ⟨dX12_shelf_111, rfl⟩ ?_
                    refine G_iald (nx := 113) (k := 104) ⟨dX12_shelf_112, rfl⟩ q_104 (by first | assumption | exact absurd c_104 c_30) ?_
                    rw [w2_row _ _ _ _ (show ¬ 104 = 108 by decide), w2_row _ _ _ _ (show ¬ 104 = 107 by decide), w2_row _ _ _ _ (show ¬ 104 = 106 by decide)]
                    refine G_goto (tgt := 117) ⟨dX12_shelf_113, rfl⟩ rfl ?_
                    refine G_iast (nx := 118) (k := 109) ⟨dX12_shelf_117, rfl⟩ q_109 (by first | assumption | decide | (unfold vp_in; decide)) ?_
                    rw [ech]
                    refine G_iconst (nx := 119) ⟨dX12_shelf_118, rfl⟩ ci_1 ?_
                    refine G_iret ⟨dX12_shelf_119, rfl⟩ rfl ?_
                    exact absurd c_50 c_30
              · refine G_iconst (nx := 64) ⟨dX12_shelf_63, rfl⟩ ci_2 ?_
                refine G_goto (tgt := 68) ⟨dX12_shelf_64, rfl⟩ rfl ?_
                refine G_iast (nx := 69) (k := 106) ⟨dX12_shelf_68, rfl⟩ q_106 (by first | assumption | decide | (unfold vp_in; decide)) ?_
                rw [ech]
                refine G_aload_0 (nx := 70) ⟨dX12_shelf_69, rfl⟩ ?_
                refine G_getr (nx := 73) (k := 75) (r := 107) ⟨dX12_shelf_70, rfl⟩ fX12_109 q_75 yr_12_47 (r_75_47 _) ?_
                refine G_iload_1 (nx := 74) ⟨dX12_shelf_73, rfl⟩ ?_
                refine G_iload_3 (nx := 75) ⟨dX12_shelf_74, rfl⟩ ?_
                refine G_iast (nx := 76) (k := 107) ⟨dX12_shelf_75, rfl⟩ q_107 (by first | assumption | decide | (unfold vp_in; decide)) ?_
                rw [ech]
                refine G_aload_0 (nx := 77) ⟨dX12_shelf_76, rfl⟩ ?_
                refine G_getr (nx := 80) (k := 75) (r := 108) ⟨dX12_shelf_77, rfl⟩ fX12_112 q_75 yr_12_48 (r_75_48 _) ?_
                refine G_iload_1 (nx := 81) ⟨dX12_shelf_80, rfl⟩ ?_
                refine G_iload_2 (nx := 82) ⟨dX12_shelf_81, rfl⟩ ?_
                refine G_iconst (nx := 83) ⟨dX12_shelf_82, rfl⟩ ci_1 ?_
                refine G_icmpne (tgt := 95) (nx := 86) ⟨dX12_shelf_83, rfl⟩ rfl (fun c_83 => ?_) (fun c_83 => ?_)
                · refine G_iconst (nx := 96) ⟨dX12_shelf_95, rfl⟩ ci_m1 ?_
                  refine G_iast (nx := 97) (k := 108) ⟨dX12_shelf_96, rfl⟩ q_108 (by first | assumption | decide | (unfold vp_in; decide)) ?_
                  rw [ech]
                  refine G_aload_0 (nx := 98) ⟨dX12_shelf_97, rfl⟩ ?_
                  refine G_getr (nx := 101) (k := 75) (r := 109) ⟨dX12_shelf_98, rfl⟩ fX12_115 q_75 yr_12_49 (r_75_49 _) ?_
                  refine G_iload_1 (nx := 102) ⟨dX12_shelf_101, rfl⟩ ?_
                  refine G_iload_2 (nx := 103) ⟨dX12_shelf_102, rfl⟩ ?_
                  refine G_iconst (nx := 104) ⟨dX12_shelf_103, rfl⟩ ci_1 ?_
                  refine G_icmpne (tgt := 116) (nx := 107) ⟨dX12_shelf_104, rfl⟩ rfl (fun c_104 => ?_) (fun c_104 => ?_)
                  · refine G_iconst (nx := 117) ⟨dX12_shelf_116, rfl⟩ ci_0 ?_
                    refine G_iast (nx := 118) (k := 109) ⟨dX12_shelf_117, rfl⟩ q_109 (by first | assumption | decide | (unfold vp_in; decide)) ?_
                    rw [ech]
                    refine G_iconst (nx := 119) ⟨dX12_shelf_118, rfl⟩ ci_1 ?_
                    refine G_iret ⟨dX12_shelf_119, rfl⟩ rfl ?_
                    exact absurd c_50 c_30
                  · refine G_aload_0 (nx := 108) ⟨dX12_shelf_107, rfl⟩ ?_
                    refine G_getr (nx := 111) (k := 75) (r := 104) ⟨dX12_shelf_108, rfl⟩ fX12_100 q_75 yr_12_44 (r_75_44 _) ?_
                    refine G_iload_3 (nx := 112) ⟨dX12_shelf_111, rfl⟩ ?_
                    refine G_iald (nx := 113) (k := 104) ⟨dX12_shelf_112, rfl⟩ q_104 (by first | assumption | exact absurd c_104 c_30) ?_
                    rw [w2_row _ _ _ _ (show ¬ 104 = 108 by decide), w2_row _ _ _ _ (show ¬ 104 = 107 by decide), w2_row _ _ _ _ (show ¬ 104 = 106 by decide)]
                    refine G_goto (tgt := 117) ⟨dX12_shelf_113, rfl⟩ rfl ?_
                    refine G_iast (nx := 118) (k := 109) ⟨dX12_shelf_117, rfl⟩ q_109 (by first | assumption | decide | (unfold vp_in; decide)) ?_
                    rw [ech]
                    refine G_iconst (nx := 119) ⟨dX12_shelf_118, rfl⟩ ci_1 ?_
                    refine G_iret ⟨dX12_shelf_119, rfl⟩ rfl ?_
                    exact absurd c_50 c_30
                · refine G_aload_0 (nx := 87) ⟨dX12_shelf_86, rfl⟩ ?_
                  refine G_getr (nx := 90) (k := 75) (r := 103) ⟨dX12_shelf_87, rfl⟩ fX12_97 q_75 yr_12_43 (r_75_43 _) ?_
                  refine G_iload_3 (nx := 91) ⟨dX12_shelf_90, rfl⟩ ?_
                  refine G_iald (nx := 92) (k := 103) ⟨dX12_shelf_91, rfl⟩ q_103 (by first | assumption | exact absurd c_83 c_30) ?_
                  rw [w2_row _ _ _ _ (show ¬ 103 = 107 by decide), w2_row _ _ _ _ (show ¬ 103 = 106 by decide)]
                  refine G_goto (tgt := 96) ⟨dX12_shelf_92, rfl⟩ rfl ?_
                  refine G_iast (nx := 97) (k := 108) ⟨dX12_shelf_96, rfl⟩ q_108 (by first | assumption | decide | (unfold vp_in; decide)) ?_
                  rw [ech]
                  refine G_aload_0 (nx := 98) ⟨dX12_shelf_97, rfl⟩ ?_
                  refine G_getr (nx := 101) (k := 75) (r := 109) ⟨dX12_shelf_98, rfl⟩ fX12_115 q_75 yr_12_49 (r_75_49 _) ?_
                  refine G_iload_1 (nx := 102) ⟨dX12_shelf_101, rfl⟩ ?_
                  refine G_iload_2 (nx := 103) ⟨dX12_shelf_102, rfl⟩ ?_
                  refine G_iconst (nx := 104) ⟨dX12_shelf_103, rfl⟩ ci_1 ?_
                  refine G_icmpne (tgt := 116) (nx := 107) ⟨dX12_shelf_104, rfl⟩ rfl (fun c_104 => ?_) (fun c_104 => ?_)
                  · refine G_iconst (nx := 117) ⟨dX12_shelf_116, rfl⟩ ci_0 ?_
                    refine G_iast (nx := 118) (k := 109) ⟨dX12_shelf_117, rfl⟩ q_109 (by first | assumption | decide | (unfold vp_in; decide)) ?_
                    rw [ech]
                    refine G_iconst (nx := 119) ⟨dX12_shelf_118, rfl⟩ ci_1 ?_
                    refine G_iret ⟨dX12_shelf_119, rfl⟩ rfl ?_
                    exact absurd c_50 c_30
                  · refine G_aload_0 (nx := 108) ⟨dX12_shelf_107, rfl⟩ ?_
                    refine G_getr (nx := 111) (k := 75) (r := 104) ⟨dX12_shelf_108, rfl⟩ fX12_100 q_75 yr_12_44 (r_75_44 _) ?_
                    refine G_iload_3 (nx := 112) ⟨dX12_shelf_111, rfl⟩ ?_
                    refine G_iald (nx := 113) (k := 104) ⟨dX12_shelf_112, rfl⟩ q_104 (by first | assumption | exact absurd c_104 c_30) ?_
                    rw [w2_row _ _ _ _ (show ¬ 104 = 108 by decide), w2_row _ _ _ _ (show ¬ 104 = 107 by decide), w2_row _ _ _ _ (show ¬ 104 = 106 by decide)]
                    refine G_goto (tgt := 117) ⟨dX12_shelf_113, rfl⟩ rfl ?_
                    refine G_iast (nx := 118) (k := 109) ⟨dX12_shelf_117, rfl⟩ q_109 (by first | assumption | decide | (unfold vp_in; decide)) ?_
                    rw [ech]
                    refine G_iconst (nx := 119) ⟨dX12_shelf_118, rfl⟩ ci_1 ?_
                    refine G_iret ⟨dX12_shelf_119, rfl⟩ rfl ?_
                    exact absurd c_50 c_30
          · refine G_iload_3 (nx := 34) ⟨dX12_shelf_33, rfl⟩ ?_
            refine G_cs1 (nx := 37) ⟨dX12_shelf_34, rfl⟩ kX12_253 rfl rfl (Nat.le_of_ble_eq_true rfl) (Nat.le_of_ble_eq_true rfl) (cM_isSheet ?_)
            refine G_ifne (tgt := 43) (nx := 40) ⟨dX12_shelf_37, rfl⟩ rfl (fun c_37 => ?_) (fun c_37 => ?_)
            · try (rw [bi_n0] at c_37; obtain ⟨p1, hp1, ep1⟩ := s_ex c_37; have hinp : vp_in p 4 := by rw [ep1]; exact in4 hp1)
              refine G_aload_0 (nx := 44) ⟨dX12_shelf_43, rfl⟩ ?_
              refine G_getr (nx := 47) (k := 75) (r := 106) ⟨dX12_shelf_44, rfl⟩ fX12_106 q_75 yr_12_46 (r_75_46 _) ?_
              refine G_iload_1 (nx := 48) ⟨dX12_shelf_47, rfl⟩ ?_
              refine G_iload_2 (nx := 49) ⟨dX12_shelf_48, rfl⟩ ?_
              refine G_iconst (nx := 50) ⟨dX12_shelf_49, rfl⟩ ci_1 ?_
              refine G_icmpne (tgt := 67) (nx := 53) ⟨dX12_shelf_50, rfl⟩ rfl (fun c_50 => ?_) (fun c_50 => ?_)
              · refine G_iload_2 (nx := 68) ⟨dX12_shelf_67, rfl⟩ ?_
                refine G_iast (nx := 69) (k := 106) ⟨dX12_shelf_68, rfl⟩ q_106 (by first | assumption | decide | (unfold vp_in; decide)) ?_
                rw [ech]
                refine G_aload_0 (nx := 70) ⟨dX12_shelf_69, rfl⟩ ?_
                refine G_getr (nx := 73) (k := 75) (r := 107) ⟨dX12_shelf_70, rfl⟩ fX12_109 q_75 yr_12_47 (r_75_47 _) ?_
                refine G_iload_1 (nx := 74) ⟨dX12_shelf_73, rfl⟩ ?_
                refine G_iload_3 (nx := 75) ⟨dX12_shelf_74, rfl⟩ ?_
                refine G_iast (nx := 76) (k := 107) ⟨dX12_shelf_75, rfl⟩ q_107 (by first | assumption | decide | (unfold vp_in; decide)) ?_
                rw [ech]
                refine G_aload_0 (nx := 77) ⟨dX12_shelf_76, rfl⟩ ?_
                refine G_getr (nx := 80) (k := 75) (r := 108) ⟨dX12_shelf_77, rfl⟩ fX12_112 q_75 yr_12_48 (r_75_48 _) ?_
                refine G_iload_1 (nx := 81) ⟨dX12_shelf_80, rfl⟩ ?_
                refine G_iload_2 (nx := 82) ⟨dX12_shelf_81, rfl⟩ ?_
                refine G_iconst (nx := 83) ⟨dX12_shelf_82, rfl⟩ ci_1 ?_
                refine G_icmpne (tgt := 95) (nx := 86) ⟨dX12_shelf_83, rfl⟩ rfl (fun c_83 => ?_) (fun c_83 => ?_)
                · refine G_iconst (nx := 96) ⟨dX12_shelf_95, rfl⟩ ci_m1 ?_
                  refine G_iast (nx := 97) (k := 108) ⟨dX12_shelf_96, rfl⟩ q_108 (by first | assumption | decide | (unfold vp_in; decide)) ?_
                  rw [ech]
                  refine G_aload_0 (nx := 98) ⟨dX12_shelf_97, rfl⟩ ?_
                  refine G_getr (nx := 101) (k := 75) (r := 109) ⟨dX12_shelf_98, rfl⟩ fX12_115 q_75 yr_12_49 (r_75_49 _) ?_
                  refine G_iload_1 (nx := 102) ⟨dX12_shelf_101, rfl⟩ ?_
                  refine G_iload_2 (nx := 103) ⟨dX12_shelf_102, rfl⟩ ?_
                  refine G_iconst (nx := 104) ⟨dX12_shelf_103, rfl⟩ ci_1 ?_
                  refine G_icmpne (tgt := 116) (nx := 107) ⟨dX12_shelf_104, rfl⟩ rfl (fun c_104 => ?_) (fun c_104 => ?_)
                  · refine G_iconst (nx := 117) ⟨dX12_shelf_116, rfl⟩ ci_0 ?_
                    refine G_iast (nx := 118) (k := 109) ⟨dX12_shelf_117, rfl⟩ q_109 (by first | assumption | decide | (unfold vp_in; decide)) ?_
                    rw [ech]
                    refine G_iconst (nx := 119) ⟨dX12_shelf_118, rfl⟩ ci_1 ?_
                    refine G_iret ⟨dX12_shelf_119, rfl⟩ rfl ?_
                    exact absurd c_30 c_50
                  · refine G_aload_0 (nx := 108) ⟨dX12_shelf_107, rfl⟩ ?_
                    refine G_getr (nx := 111) (k := 75) (r := 104) ⟨dX12_shelf_108, rfl⟩ fX12_100 q_75 yr_12_44 (r_75_44 _) ?_
                    refine G_iload_3 (nx := 112) ⟨dX12_shelf_111, rfl⟩ ?_
                    refine G_iald (nx := 113) (k := 104) ⟨dX12_shelf_112, rfl⟩ q_104 (by first | assumption | exact absurd c_104 c_30) ?_
                    rw [w2_row _ _ _ _ (show ¬ 104 = 108 by decide), w2_row _ _ _ _ (show ¬ 104 = 107 by decide), w2_row _ _ _ _ (show ¬ 104 = 106 by decide)]
                    refine G_goto (tgt := 117) ⟨dX12_shelf_113, rfl⟩ rfl ?_
                    refine G_iast (nx := 118) (k := 109) ⟨dX12_shelf_117, rfl⟩ q_109 (by first | assumption | decide | (unfold vp_in; decide)) ?_
                    rw [ech]
                    refine G_iconst (nx := 119) ⟨dX12_shelf_118, rfl⟩ ci_1 ?_
                    refine G_iret ⟨dX12_shelf_119, rfl⟩ rfl ?_
                    exact absurd c_30 c_50
                · refine G_aload_0 (nx := 87) ⟨dX12_shelf_86, rfl⟩ ?_
                  refine G_getr (nx := 90) (k := 75) (r := 103) ⟨dX12_shelf_87, rfl⟩ fX12_97 q_75 yr_12_43 (r_75_43 _) ?_
                  refine G_iload_3 (nx := 91) ⟨dX12_shelf_90, rfl⟩ ?_
                  refine G_iald (nx := 92) (k := 103) ⟨dX12_shelf_91, rfl⟩ q_103 (by first | assumption | exact absurd c_83 c_30) ?_
                  rw [w2_row _ _ _ _ (show ¬ 103 = 107 by decide), w2_row _ _ _ _ (show ¬ 103 = 106 by decide)]
                  refine G_goto (tgt := 96) ⟨dX12_shelf_92, rfl⟩ rfl ?_
                  refine G_iast (nx := 97) (k := 108) ⟨dX12_shelf_96, rfl⟩ q_108 (by first | assumption | decide | (unfold vp_in; decide)) ?_
                  rw [ech]
                  refine G_aload_0 (nx := 98) ⟨dX12_shelf_97, rfl⟩ ?_
                  refine G_getr (nx := 101) (k := 75) (r := 109) ⟨dX12_shelf_98, rfl⟩ fX12_115 q_75 yr_12_49 (r_75_49 _) ?_
                  refine G_iload_1 (nx := 102) ⟨dX12_shelf_101, rfl⟩ ?_
                  refine G_iload_2 (nx := 103) ⟨dX12_shelf_102, rfl⟩ ?_
                  refine G_iconst (nx := 104) ⟨dX12_shelf_103, rfl⟩ ci_1 ?_
                  refine G_icmpne (tgt := 116) (nx := 107) ⟨dX12_shelf_104, rfl⟩ rfl (fun c_104 => ?_) (fun c_104 => ?_)
                  · refine G_iconst (nx := 117) ⟨dX12_shelf_116, rfl⟩ ci_0 ?_
                    refine G_iast (nx := 118) (k := 109) ⟨dX12_shelf_117, rfl⟩ q_109 (by first | assumption | decide | (unfold vp_in; decide)) ?_
                    rw [ech]
                    refine G_iconst (nx := 119) ⟨dX12_shelf_118, rfl⟩ ci_1 ?_
                    refine G_iret ⟨dX12_shelf_119, rfl⟩ rfl ?_
                    exact absurd c_30 c_50
                  · refine G_aload_0 (nx := 108) ⟨dX12_shelf_107, rfl⟩ ?_
                    refine G_getr (nx := 111) (k := 75) (r := 104) ⟨dX12_shelf_108, rfl⟩ fX12_100 q_75 yr_12_44 (r_75_44 _) ?_
                    refine G_iload_3 (nx := 112) ⟨dX12_shelf_111, rfl⟩ ?_
                    refine G_iald (nx := 113) (k := 104) ⟨dX12_shelf_112, rfl⟩ q_104 (by first | assumption | exact absurd c_104 c_30) ?_
                    rw [w2_row _ _ _ _ (show ¬ 104 = 108 by decide), w2_row _ _ _ _ (show ¬ 104 = 107 by decide), w2_row _ _ _ _ (show ¬ 104 = 106 by decide)]
                    refine G_goto (tgt := 117) ⟨dX12_shelf_113, rfl⟩ rfl ?_
                    refine G_iast (nx := 118) (k := 109) ⟨dX12_shelf_117, rfl⟩ q_109 (by first | assumption | decide | (unfold vp_in; decide)) ?_
                    rw [ech]
                    refine G_iconst (nx := 119) ⟨dX12_shelf_118, rfl⟩ ci_1 ?_
                    refine G_iret ⟨dX12_shelf_119, rfl⟩ rfl ?_
                    exact absurd c_30 c_50
              · refine G_aload_0 (nx := 54) ⟨dX12_shelf_53, rfl⟩ ?_
                refine G_getr (nx := 57) (k := 75) (r := 103) ⟨dX12_shelf_54, rfl⟩ fX12_97 q_75 yr_12_43 (r_75_43 _) ?_
                refine G_iload_3 (nx := 58) ⟨dX12_shelf_57, rfl⟩ ?_
                refine G_iald (nx := 59) (k := 103) ⟨dX12_shelf_58, rfl⟩ q_103 (by first | assumption | exact absurd c_50 c_30) ?_
                refine G_iconst (nx := 60) ⟨dX12_shelf_59, rfl⟩ ci_m1 ?_
                refine G_icmpne (tgt := 67) (nx := 63) ⟨dX12_shelf_60, rfl⟩ rfl (fun c_60 => ?_) (fun c_60 => ?_)
                · refine G_iload_2 (nx := 68) ⟨dX12_shelf_67, rfl⟩ ?_
                  refine G_iast (nx := 69) (k := 106) ⟨dX12_shelf_68, rfl⟩ q_106 (by first | assumption | decide | (unfold vp_in; decide)) ?_
                  rw [ech]
                  refine G_aload_0 (nx := 70) ⟨dX12_shelf_69, rfl⟩ ?_
                  refine G_getr (nx := 73) (k := 75) (r := 107) ⟨dX12_shelf_70, rfl⟩ fX12_109 q_75 yr_12_47 (r_75_47 _) ?_
                  refine G_iload_1 (nx := 74) ⟨dX12_shelf_73, rfl⟩ ?_
                  refine G_iload_3 (nx := 75) ⟨dX12_shelf_74, rfl⟩ ?_
                  refine G_iast (nx := 76) (k := 107) ⟨dX12_shelf_75, rfl⟩ q_107 (by first | assumption | decide | (unfold vp_in; decide)) ?_
                  rw [ech]
                  refine G_aload_0 (nx := 77) ⟨dX12_shelf_76, rfl⟩ ?_
                  refine G_getr (nx := 80) (k := 75) (r := 108) ⟨dX12_shelf_77, rfl⟩ fX12_112 q_75 yr_12_48 (r_75_48 _) ?_
                  refine G_iload_1 (nx := 81) ⟨dX12_shelf_80, rfl⟩ ?_
                  refine G_iload_2 (nx := 82) ⟨dX12_shelf_81, rfl⟩ ?_
                  refine G_iconst (nx := 83) ⟨dX12_shelf_82, rfl⟩ ci_1 ?_
                  refine G_icmpne (tgt := 95) (nx := 86) ⟨dX12_shelf_83, rfl⟩ rfl (fun c_83 => ?_) (fun c_83 => ?_)
                  · refine G_iconst (nx := 96) ⟨dX12_shelf_95, rfl⟩ ci_m1 ?_
                    refine G_iast (nx := 97) (k := 108) ⟨dX12_shelf_96, rfl⟩ q_108 (by first | assumption | decide | (unfold vp_in; decide)) ?_
                    rw [ech]
                    refine G_aload_0 (nx := 98) ⟨dX12_shelf_97, rfl⟩ ?_
                    refine G_getr (nx := 101) (k := 75) (r := 109) ⟨dX12_shelf_98, rfl⟩ fX12_115 q_75 yr_12_49 (r_75_49 _) ?_
                    refine G_iload_1 (nx := 102) ⟨dX12_shelf_101, rfl⟩ ?_
                    refine G_iload_2 (nx := 103) ⟨dX12_shelf_102, rfl⟩ ?_
                    refine G_iconst (nx := 104) ⟨dX12_shelf_103, rfl⟩ ci_1 ?_
                    refine G_icmpne (tgt := 116) (nx := 107) ⟨dX12_shelf_104, rfl⟩ rfl (fun c_104 => ?_) (fun c_104 => ?_)
                    · refine G_iconst (nx := 117) ⟨dX12_shelf_116, rfl⟩ ci_0 ?_
                      refine G_iast (nx := 118) (k := 109) ⟨dX12_shelf_117, rfl⟩ q_109 (by first | assumption | decide | (unfold vp_in; decide)) ?_
                      rw [ech]
                      refine G_iconst (nx := 119) ⟨dX12_shelf_118, rfl⟩ ci_1 ?_
                      refine G_iret ⟨dX12_shelf_119, rfl⟩ rfl ?_
                      exact absurd c_30 c_83
                    · refine G_aload_0 (nx := 108) ⟨dX12_shelf_107, rfl⟩ ?_
                      refine G_getr (nx := 111) (k := 75) (r := 104) ⟨dX12_shelf_108, rfl⟩ fX12_100 q_75 yr_12_44 (r_75_44 _) ?_
                      refine G_iload_3 (nx := 112) ⟨dX12_shelf_111, rfl⟩ ?_
                      refine G_iald (nx := 113) (k := 104) ⟨dX12_shelf_112, rfl⟩ q_104 (by first | assumption | exact absurd c_104 c_30) ?_
                      rw [w2_row _ _ _ _ (show ¬ 104 = 108 by decide), w2_row _ _ _ _ (show ¬ 104 = 107 by decide), w2_row _ _ _ _ (show ¬ 104 = 106 by decide)]
                      refine G_goto (tgt := 117) ⟨dX12_shelf_113, rfl⟩ rfl ?_
                      refine G_iast (nx := 118) (k := 109) ⟨dX12_shelf_117, rfl⟩ q_109 (by first | assumption | decide | (unfold vp_in; decide)) ?_
                      rw [ech]
                      refine G_iconst (nx := 119) ⟨dX12_shelf_118, rfl⟩ ci_1 ?_
                      refine G_iret ⟨dX12_shelf_119, rfl⟩ rfl ?_
                      exact absurd c_30 c_83
                  · refine G_aload_0 (nx := 87) ⟨dX12_shelf_86, rfl⟩ ?_
                    refine G_getr (nx := 90) (k := 75) (r := 103) ⟨dX12_shelf_87, rfl⟩ fX12_97 q_75 yr_12_43 (r_75_43 _) ?_
                    refine G_iload_3 (nx := 91) ⟨dX12_shelf_90, rfl⟩ ?_
                    refine G_iald (nx := 92) (k := 103) ⟨dX12_shelf_91, rfl⟩ q_103 (by first | assumption | exact absurd c_83 c_30) ?_
                    rw [w2_row _ _ _ _ (show ¬ 103 = 107 by decide), w2_row _ _ _ _ (show ¬ 103 = 106 by decide)]
                    refine G_goto (tgt := 96) ⟨dX12_shelf_92, rfl⟩ rfl ?_
                    refine G_iast (nx := 97) (k := 108) ⟨dX12_shelf_96, rfl⟩ q_108 (by first | assumption | decide | (unfold vp_in; decide)) ?_
                    rw [ech]
                    refine G_aload_0 (nx := 98) ⟨dX12_shelf_97, rfl⟩ ?_
                    refine G_getr (nx := 101) (k := 75) (r := 109) ⟨dX12_shelf_98, rfl⟩ fX12_115 q_75 yr_12_49 (r_75_49 _) ?_
                    refine G_iload_1 (nx := 102) ⟨dX12_shelf_101, rfl⟩ ?_
                    refine G_iload_2 (nx := 103) ⟨dX12_shelf_102, rfl⟩ ?_
                    refine G_iconst (nx := 104) ⟨dX12_shelf_103, rfl⟩ ci_1 ?_
                    refine G_icmpne (tgt := 116) (nx := 107) ⟨dX12_shelf_104, rfl⟩ rfl (fun c_104 => ?_) (fun c_104 => ?_)
                    · refine G_iconst (nx := 117) ⟨dX12_shelf_116, rfl⟩ ci_0 ?_
                      refine G_iast (nx := 118) (k := 109) ⟨dX12_shelf_117, rfl⟩ q_109 (by first | assumption | decide | (unfold vp_in; decide)) ?_
                      rw [ech]
                      refine G_iconst (nx := 119) ⟨dX12_shelf_118, rfl⟩ ci_1 ?_
                      refine G_iret ⟨dX12_shelf_119, rfl⟩ rfl ?_
                      exact absurd c_30 c_104
                    · refine G_aload_0 (nx := 108) ⟨dX12_shelf_107, rfl⟩ ?_
                      refine G_getr (nx := 111) (k := 75) (r := 104) ⟨dX12_shelf_108, rfl⟩ fX12_100 q_75 yr_12_44 (r_75_44 _) ?_
                      refine G_iload_3 (nx := 112) ⟨dX12_shelf_111, rfl⟩ ?_
                      refine G_iald (nx := 113) (k := 104) ⟨dX12_shelf_112, rfl⟩ q_104 (by first | assumption | exact absurd c_104 c_30) ?_
                      rw [w2_row _ _ _ _ (show ¬ 104 = 108 by decide), w2_row _ _ _ _ (show ¬ 104 = 107 by decide), w2_row _ _ _ _ (show ¬ 104 = 106 by decide)]
                      refine G_goto (tgt := 117) ⟨dX12_shelf_113, rfl⟩ rfl ?_
                      refine G_iast (nx := 118) (k := 109) ⟨dX12_shelf_117, rfl⟩ q_109 (by first | assumption | decide | (unfold vp_in; decide)) ?_
                      rw [ech]
                      refine G_iconst (nx := 119) ⟨dX12_shelf_118, rfl⟩ ci_1 ?_
                      refine G_iret ⟨dX12_shelf_119, rfl⟩ rfl ?_
                      exact absurd (c_17.symm.trans c_30) (by decide)
                · refine G_iconst (nx := 64) ⟨dX12_shelf_63, rfl⟩ ci_2 ?_
                  refine G_goto (tgt := 68) ⟨dX12_shelf_64, rfl⟩ rfl ?_
                  refine G_iast (nx := 69) (k := 106) ⟨dX12_shelf_68, rfl⟩ q_106 (by first | assumption | decide | (unfold vp_in; decide)) ?_
                  rw [ech]
                  refine G_aload_0 (nx := 70) ⟨dX12_shelf_69, rfl⟩ ?_
                  refine G_getr (nx := 73) (k := 75) (r := 107) ⟨dX12_shelf_70, rfl⟩ fX12_109 q_75 yr_12_47 (r_75_47 _) ?_
                  refine G_iload_1 (nx := 74) ⟨dX12_shelf_73, rfl⟩ ?_
                  refine G_iload_3 (nx := 75) ⟨dX12_shelf_74, rfl⟩ ?_
                  refine G_iast (nx := 76) (k := 107) ⟨dX12_shelf_75, rfl⟩ q_107 (by first | assumption | decide | (unfold vp_in; decide)) ?_
                  rw [ech]
                  refine G_aload_0 (nx := 77) ⟨dX12_shelf_76, rfl⟩ ?_
                  refine G_getr (nx := 80) (k := 75) (r := 108) ⟨dX12_shelf_77, rfl⟩ fX12_112 q_75 yr_12_48 (r_75_48 _) ?_
                  refine G_iload_1 (nx := 81) ⟨dX12_shelf_80, rfl⟩ ?_
                  refine G_iload_2 (nx := 82) ⟨dX12_shelf_81, rfl⟩ ?_
                  refine G_iconst (nx := 83) ⟨dX12_shelf_82, rfl⟩ ci_1 ?_
                  refine G_icmpne (tgt := 95) (nx := 86) ⟨dX12_shelf_83, rfl⟩ rfl (fun c_83 => ?_) (fun c_83 => ?_)
                  · refine G_iconst (nx := 96) ⟨dX12_shelf_95, rfl⟩ ci_m1 ?_
                    refine G_iast (nx := 97) (k := 108) ⟨dX12_shelf_96, rfl⟩ q_108 (by first | assumption | decide | (unfold vp_in; decide)) ?_
                    rw [ech]
                    refine G_aload_0 (nx := 98) ⟨dX12_shelf_97, rfl⟩ ?_
                    refine G_getr (nx := 101) (k := 75) (r := 109) ⟨dX12_shelf_98, rfl⟩ fX12_115 q_75 yr_12_49 (r_75_49 _) ?_
                    refine G_iload_1 (nx := 102) ⟨dX12_shelf_101, rfl⟩ ?_
                    refine G_iload_2 (nx := 103) ⟨dX12_shelf_102, rfl⟩ ?_
                    refine G_iconst (nx := 104) ⟨dX12_shelf_103, rfl⟩ ci_1 ?_
                    refine G_icmpne (tgt := 116) (nx := 107) ⟨dX12_shelf_104, rfl⟩ rfl (fun c_104 => ?_) (fun c_104 => ?_)
                    · refine G_iconst (nx := 117) ⟨dX12_shelf_116, rfl⟩ ci_0 ?_
                      refine G_iast (nx := 118) (k := 109) ⟨dX12_shelf_117, rfl⟩ q_109 (by first | assumption | decide | (unfold vp_in; decide)) ?_
                      rw [ech]
                      refine G_iconst (nx := 119) ⟨dX12_shelf_118, rfl⟩ ci_1 ?_
                      refine G_iret ⟨dX12_shelf_119, rfl⟩ rfl ?_
                      exact absurd c_30 c_83
                    · refine G_aload_0 (nx := 108) ⟨dX12_shelf_107, rfl⟩ ?_
                      refine G_getr (nx := 111) (k := 75) (r := 104) ⟨dX12_shelf_108, rfl⟩ fX12_100 q_75 yr_12_44 (r_75_44 _) ?_
                      refine G_iload_3 (nx := 112) ⟨dX12_shelf_111, rfl⟩ ?_
                      refine G_iald (nx := 113) (k := 104) ⟨dX12_shelf_112, rfl⟩ q_104 (by first | assumption | exact absurd c_104 c_30) ?_
                      rw [w2_row _ _ _ _ (show ¬ 104 = 108 by decide), w2_row _ _ _ _ (show ¬ 104 = 107 by decide), w2_row _ _ _ _ (show ¬ 104 = 106 by decide)]
                      refine G_goto (tgt := 117) ⟨dX12_shelf_113, rfl⟩ rfl ?_
                      refine G_iast (nx := 118) (k := 109) ⟨dX12_shelf_117, rfl⟩ q_109 (by first | assumption | decide | (unfold vp_in; decide)) ?_
                      rw [ech]
                      refine G_iconst (nx := 119) ⟨dX12_shelf_118, rfl⟩ ci_1 ?_
                      refine G_iret ⟨dX12_shelf_119, rfl⟩ rfl ?_
                      exact absurd c_30 c_83
                  · refine G_aload_0 (nx := 87) ⟨dX12_shelf_86, rfl⟩ ?_
                    refine G_getr (nx := 90) (k := 75) (r := 103) ⟨dX12_shelf_87, rfl⟩ fX12_97 q_75 yr_12_43 (r_75_43 _) ?_
                    refine G_iload_3 (nx := 91) ⟨dX12_shelf_90, rfl⟩ ?_
                    refine G_iald (nx := 92) (k := 103) ⟨dX12_shelf_91, rfl⟩ q_103 (by first | assumption | exact absurd c_83 c_30) ?_
                    rw [w2_row _ _ _ _ (show ¬ 103 = 107 by decide), w2_row _ _ _ _ (show ¬ 103 = 106 by decide)]
                    refine G_goto (tgt := 96) ⟨dX12_shelf_92, rfl⟩ rfl ?_
                    refine G_iast (nx := 97) (k := 108) ⟨dX12_shelf_96, rfl⟩ q_108 (by first | assumption | decide | (unfold vp_in; decide)) ?_
                    rw [ech]
                    refine G_aload_0 (nx := 98) ⟨dX12_shelf_97, rfl⟩ ?_
                    refine G_getr (nx := 101) (k := 75) (r := 109) ⟨dX12_shelf_98, rfl⟩ fX12_115 q_75 yr_12_49 (r_75_49 _) ?_
                    refine G_iload_1 (nx := 102) ⟨dX12_shelf_101, rfl⟩ ?_
                    refine G_iload_2 (nx := 103) ⟨dX12_shelf_102, rfl⟩ ?_
                    refine G_iconst (nx := 104) ⟨dX12_shelf_103, rfl⟩ ci_1 ?_
                    refine G_icmpne (tgt := 116) (nx := 107) ⟨dX12_shelf_104, rfl⟩ rfl (fun c_104 => ?_) (fun c_104 => ?_)
                    · refine G_iconst (nx := 117) ⟨dX12_shelf_116, rfl⟩ ci_0 ?_
                      refine G_iast (nx := 118) (k := 109) ⟨dX12_shelf_117, rfl⟩ q_109 (by first | assumption | decide | (unfold vp_in; decide)) ?_
                      rw [ech]
                      refine G_iconst (nx := 119) ⟨dX12_shelf_118, rfl⟩ ci_1 ?_
                      refine G_iret ⟨dX12_shelf_119, rfl⟩ rfl ?_
                      exact absurd c_30 c_104
                    · refine G_aload_0 (nx := 108) ⟨dX12_shelf_107, rfl⟩ ?_
                      refine G_getr (nx := 111) (k := 75) (r := 104) ⟨dX12_shelf_108, rfl⟩ fX12_100 q_75 yr_12_44 (r_75_44 _) ?_
                      refine G_iload_3 (nx := 112) ⟨dX12_shelf_111, rfl⟩ ?_
                      refine G_iald (nx := 113) (k := 104) ⟨dX12_shelf_112, rfl⟩ q_104 (by first | assumption | exact absurd c_104 c_30) ?_
                      rw [w2_row _ _ _ _ (show ¬ 104 = 108 by decide), w2_row _ _ _ _ (show ¬ 104 = 107 by decide), w2_row _ _ _ _ (show ¬ 104 = 106 by decide)]
                      refine G_goto (tgt := 117) ⟨dX12_shelf_113, rfl⟩ rfl ?_
                      refine G_iast (nx := 118) (k := 109) ⟨dX12_shelf_117, rfl⟩ q_109 (by first | assumption | decide | (unfold vp_in; decide)) ?_
                      rw [ech]
                      refine G_iconst (nx := 119) ⟨dX12_shelf_118, rfl⟩ ci_1 ?_
                      refine G_iret ⟨dX12_shelf_119, rfl⟩ rfl ?_
                      exact absurd (c_17.symm.trans c_30) (by decide)
            · refine G_bipush (nx := 42) ⟨dX12_shelf_40, rfl⟩ cb_m2 ?_
              refine G_iret ⟨dX12_shelf_42, rfl⟩ rfl ?_
              rw [bi_0] at c_37
              exact hk1 (by simp [shB, c_37, c_30])

theorem lM_tkn {h q k : Int32} {r : Int32} (hq : k = -1 ∨ k = q → G l (d + 2) mX12_taken K 130 [.ref 75, .int h, .int q, .int k] [] I J (rX g)) (hn : ¬ k = -1 → ¬ k = q → G l (d + 2) mX12_taken K 112 [.ref 75, .int h, .int q, .int (ovI k)] [] I J (rX g)) : G l (d + 2) mX12_taken K 112 [.ref 75, .int h, .int q, .int k] [] I J (rX g) := by
  refine G_iload_3 (nx := 113) ⟨dX12_taken_112, rfl⟩ ?_
  refine G_iconst (nx := 114) ⟨dX12_taken_113, rfl⟩ ci_m1 ?_
  refine G_icmpeq (tgt := 130) (nx := 117) ⟨dX12_taken_114, rfl⟩ rfl (fun c_114 => ?_) (fun c_114 => ?_)
  · exact hq (Or.inl c_114)
  · refine G_iload_3 (nx := 118) ⟨dX12_taken_117, rfl⟩ ?_
    refine G_iload_2 (nx := 119) ⟨dX12_taken_118, rfl⟩ ?_
    refine G_icmpeq (tgt := 130) (nx := 122) ⟨dX12_taken_119, rfl⟩ rfl (fun c_119 => ?_) (fun c_119 => ?_)
    · exact hq (Or.inr c_119)
    · refine G_iload_3 (nx := 123) ⟨dX12_taken_122, rfl⟩ ?_
      refine G_cs1 (nx := 126) ⟨dX12_taken_123, rfl⟩ kX12_352 rfl rfl (Nat.le_of_ble_eq_true rfl) (Nat.le_of_ble_eq_true rfl) (cM_over ?_)
      refine G_istore_3 (nx := 127) ⟨dX12_taken_126, rfl⟩ rfl rfl ?_
      refine G_goto (tgt := 112) ⟨dX12_taken_127, rfl⟩ rfl ?_
      exact hn c_114 c_119

def RK : Nat → Int32 → Prop
  | 0, k => k = -1
  | f + 1, k => k = -1 ∨ RK f (ovI k)
theorem inR05 {q : Int32} (h : inR q 0 5 = true) : q = 0 ∨ q = 1 ∨ q = 2 ∨ q = 3 ∨ q = 4 ∨ q = 5 := by
  rcases sw_0_5 q with h1 | h1 | h1 | h1 | h1 | h1 | h1
  · exact Or.inl h1
  · exact Or.inr (Or.inl h1)
  · exact Or.inr (Or.inr (Or.inl h1))
  · exact Or.inr (Or.inr (Or.inr (Or.inl h1)))
  · exact Or.inr (Or.inr (Or.inr (Or.inr (Or.inl h1))))
  · exact Or.inr (Or.inr (Or.inr (Or.inr (Or.inr h1))))
  · simp only [inR, decide_eq_true_eq, i32_le, toInt_0, show (5 : Int32).toInt = 5 by decide] at h
    omega
theorem RK5 {k : Int32} (h : inR k 0 5 = true) : RK 5 k := by
  rcases inR05 h with h | h | h | h | h | h <;> subst h <;> simp only [RK] <;> decide
theorem lM_tk {h q : Int32} : ∀ (f : Nat) (k : Int32), RK f k → (∀ k', (k' = q ↔ tkB f k q = true) → G l (d + 2) mX12_taken K 130 [.ref 75, .int h, .int q, .int k'] [] I J (rX g)) → G l (d + 2) mX12_taken K 112 [.ref 75, .int h, .int q, .int k] [] I J (rX g)
  | 0, k, hr, hgo => lM_tkn (r := 0) (fun _ => hgo k (by rw [tkB, decide_eq_true_eq])) (fun h1 _ => absurd hr h1)
  | f + 1, k, hr, hgo => lM_tkn (r := 0) (fun h1 => hgo k (by
      rw [tkB]
      by_cases e : k = -1
      · rw [if_pos e, decide_eq_true_eq]
      · have e2 := h1.resolve_left e
        rw [if_neg e, if_pos e2]
        exact ⟨fun _ => rfl, fun _ => e2⟩)) (fun h1 h2 => lM_tk f (ovI k) (hr.resolve_left h1) (fun k' hk' => hgo k' (by rw [tkB, if_neg h1, if_neg h2]; exact hk')))
theorem cM_taken {h q : Int32} (hG : MG I n gr) (hkd : ∀ p, p < n → inR (I 76 p) 0 5 = true) (hwh : ∀ h, h < 4 → I 106 h = 0 ∨ I 106 h = 1 ∨ I 106 h = 2) (hk1 : (inR h 0 3 && (inR q 0 5 || inR q 10 12)) = false → K (.int (-2)) I J (rX g)) (hk2 : ∀ h0, h = nI h0 → h0 < 4 → (inR q 0 5 || inR q 10 12) = true → (I 106 h0 = 2 ∨ (I 106 h0 = 0 ∧ ptB n (I 107 h0) = false)) → K (.int (-11)) I J (rX g)) (hk3 : ∀ h0, h = nI h0 → h0 < 4 → (inR q 0 5 || inR q 10 12) = true → I 106 h0 = 1 → K (.int (if I 108 h0 = q - 10 then I 109 h0 else -13)) I J (rX g)) (hk4 : ∀ h0 p0, h = nI h0 → h0 < 4 → (inR q 0 5 || inR q 10 12) = true → I 106 h0 = 0 → I 107 h0 = nI p0 → p0 < n → K (.int (if tkB 5 (I 76 p0) q = true then I 107 h0 else -13)) I J (rX g)) : G l (d + 2) mX12_taken K 0 [.ref 75, .int h, .int q, UU] [] I J (rX g) := by
  have hn := hG.2.1
  refine G_iload_1 (nx := 1) ⟨dX12_taken_0, rfl⟩ ?_
  refine G_cs1 (nx := 4) ⟨dX12_taken_1, rfl⟩ kX12_349 rfl rfl (Nat.le_of_ble_eq_true rfl) (Nat.le_of_ble_eq_true rfl) (cM_isShelf ?_)
  refine G_ifeq (tgt := 27) (nx := 7) ⟨dX12_taken_4, rfl⟩ rfl (fun c_4 => ?_) (fun c_4 => ?_)
  · refine G_bipush (nx := 29) ⟨dX12_taken_27, rfl⟩ cb_m2 ?_
    refine G_iret ⟨dX12_taken_29, rfl⟩ rfl ?_
    rw [bi_0] at c_4
    exact hk1 (by simp [c_4])
  · obtain ⟨h0, hh0, eh⟩ := s_ex (bi_n0.mp c_4)
    subst eh
    have hin4 := in4 hh0
    have ech := cl_nI (p := h0) (by omega)
    refine G_iload_2 (nx := 8) ⟨dX12_taken_7, rfl⟩ ?_
    refine G_iconst (nx := 9) ⟨dX12_taken_8, rfl⟩ ci_0 ?_
    refine G_iconst (nx := 10) ⟨dX12_taken_9, rfl⟩ ci_5 ?_
    refine G_cs3 (nx := 13) ⟨dX12_taken_10, rfl⟩ kX12_125 rfl rfl (Nat.le_of_ble_eq_true rfl) (Nat.le_of_ble_eq_true rfl) (cM_in ?_)
    refine G_ifne (tgt := 30) (nx := 16) ⟨dX12_taken_13, rfl⟩ rfl (fun c_13 => ?_) (fun c_13 => ?_)
    · refine G_aload_0 (nx := 31) ⟨dX12_taken_30, rfl⟩ ?_
      refine G_getr (nx := 34) (k := 75) (r := 106) ⟨dX12_taken_31, rfl⟩ fX12_106 q_75 yr_12_46 (r_75_46 _) ?_
      refine G_iload_1 (nx := 35) ⟨dX12_taken_34, rfl⟩ ?_
      refine G_iald (nx := 36) (k := 106) ⟨dX12_taken_35, rfl⟩ q_106 (by first | assumption | decide | (unfold vp_in; decide)) ?_
      rw [ech]
      refine G_iconst (nx := 37) ⟨dX12_taken_36, rfl⟩ ci_2 ?_
      refine G_icmpeq (tgt := 62) (nx := 40) ⟨dX12_taken_37, rfl⟩ rfl (fun c_37 => ?_) (fun c_37 => ?_)
      · refine G_bipush (nx := 64) ⟨dX12_taken_62, rfl⟩ cb_m11 ?_
        refine G_iret ⟨dX12_taken_64, rfl⟩ rfl ?_
        rw [bi_n0] at c_13
        have hqq : (inR q 0 5 || inR q 10 12) = true := by rw [c_13]; rfl
        exact hk2 h0 rfl hh0 hqq (Or.inl c_37)
      · refine G_aload_0 (nx := 41) ⟨dX12_taken_40, rfl⟩ ?_
        refine G_getr (nx := 44) (k := 75) (r := 106) ⟨dX12_taken_41, rfl⟩ fX12_106 q_75 yr_12_46 (r_75_46 _) ?_
        refine G_iload_1 (nx := 45) ⟨dX12_taken_44, rfl⟩ ?_
        refine G_iald (nx := 46) (k := 106) ⟨dX12_taken_45, rfl⟩ q_106 (by first | assumption | decide | (unfold vp_in; decide)) ?_
        rw [ech]
        refine G_ifne (tgt := 65) (nx := 49) ⟨dX12_taken_46, rfl⟩ rfl (fun c_46 => ?_) (fun c_46 => ?_)
        · refine G_aload_0 (nx := 66) ⟨dX12_taken_65, rfl⟩ ?_
          refine G_getr (nx := 69) (k := 75) (r := 106) ⟨dX12_taken_66, rfl⟩ fX12_106 q_75 yr_12_46 (r_75_46 _) ?_
          refine G_iload_1 (nx := 70) ⟨dX12_taken_69, rfl⟩ ?_
          refine G_iald (nx := 71) (k := 106) ⟨dX12_taken_70, rfl⟩ q_106 (by first | assumption | decide | (unfold vp_in; decide)) ?_
          rw [ech]
          refine G_iconst (nx := 72) ⟨dX12_taken_71, rfl⟩ ci_1 ?_
          refine G_icmpne (tgt := 100) (nx := 75) ⟨dX12_taken_72, rfl⟩ rfl (fun c_72 => ?_) (fun c_72 => ?_)
          · refine G_aload_0 (nx := 101) ⟨dX12_taken_100, rfl⟩ ?_
            refine G_getr (nx := 104) (k := 75) (r := 76) ⟨dX12_taken_101, rfl⟩ fX12_13 q_75 yr_12_2 (r_75_2 _) ?_
            refine G_aload_0 (nx := 105) ⟨dX12_taken_104, rfl⟩ ?_
            refine G_getr (nx := 108) (k := 75) (r := 107) ⟨dX12_taken_105, rfl⟩ fX12_109 q_75 yr_12_47 (r_75_47 _) ?_
            refine G_iload_1 (nx := 109) ⟨dX12_taken_108, rfl⟩ ?_
            refine G_iald (nx := 110) (k := 107) ⟨dX12_taken_109, rfl⟩ q_107 (by first | assumption | decide | (unfold vp_in; decide)) ?_
            rw [ech]
            have h460 : I 106 h0 = 0 := (hwh h0 hh0).elim id (fun h => h.elim (fun h => absurd h c_72) (fun h => absurd h c_37))
            have hpt : ptB n (I 107 h0) = true := by first | exact bi_n0.mp c_59 | exact absurd h460 c_46
            obtain ⟨p0, hp0, ep0⟩ := ptB_ex (by omega) hpt
            have hip : vp_in (I 107 h0) 12 := by rw [ep0]; exact in12 hp0 hn
            have ecp : (I 107 h0).toNatClampNeg = p0 := by rw [ep0]; exact cl_nI (by omega)
            refine G_iald (nx := 111) (k := 76) ⟨dX12_taken_110, rfl⟩ q_76 (by first | assumption | decide | (unfold vp_in; decide)) ?_
            rw [ecp]
            refine G_istore_3 (nx := 112) ⟨dX12_taken_111, rfl⟩ rfl rfl ?_
            rw [bi_n0] at c_13
            have hqq : (inR q 0 5 || inR q 10 12) = true := by rw [c_13]; rfl
            refine lM_tk 5 (I 76 p0) (RK5 (hkd p0 hp0)) (fun k2 hk2k => ?_)
            refine G_iload_3 (nx := 131) ⟨dX12_taken_130, rfl⟩ ?_
            refine G_iload_2 (nx := 132) ⟨dX12_taken_131, rfl⟩ ?_
            refine G_icmpne (tgt := 144) (nx := 135) ⟨dX12_taken_132, rfl⟩ rfl (fun c_132 => ?_) (fun c_132 => ?_)
            · refine G_bipush (nx := 146) ⟨dX12_taken_144, rfl⟩ cb_m13 ?_
              refine G_iret ⟨dX12_taken_146, rfl⟩ rfl ?_
              rw [hk2k] at c_132
              exact K_v (by rw [if_neg c_132]) (hk4 h0 p0 rfl hh0 hqq h460 ep0 hp0)
            · refine G_aload_0 (nx := 136) ⟨dX12_taken_135, rfl⟩ ?_
              refine G_getr (nx := 139) (k := 75) (r := 107) ⟨dX12_taken_136, rfl⟩ fX12_109 q_75 yr_12_47 (r_75_47 _) ?_
              refine G_iload_1 (nx := 140) ⟨dX12_taken_139, rfl⟩ ?_
              refine G_iald (nx := 141) (k := 107) ⟨dX12_taken_140, rfl⟩ q_107 (by first | assumption | decide | (unfold vp_in; decide)) ?_
              rw [ech]
              refine G_goto (tgt := 146) ⟨dX12_taken_141, rfl⟩ rfl ?_
              refine G_iret ⟨dX12_taken_146, rfl⟩ rfl ?_
              rw [hk2k] at c_132
              exact K_v (by rw [if_pos c_132]) (hk4 h0 p0 rfl hh0 hqq h460 ep0 hp0)
            
          · refine G_aload_0 (nx := 76) ⟨dX12_taken_75, rfl⟩ ?_
            refine G_getr (nx := 79) (k := 75) (r := 108) ⟨dX12_taken_76, rfl⟩ fX12_112 q_75 yr_12_48 (r_75_48 _) ?_
            refine G_iload_1 (nx := 80) ⟨dX12_taken_79, rfl⟩ ?_
            refine G_iald (nx := 81) (k := 108) ⟨dX12_taken_80, rfl⟩ q_108 (by first | assumption | decide | (unfold vp_in; decide)) ?_
            rw [ech]
            refine G_iload_2 (nx := 82) ⟨dX12_taken_81, rfl⟩ ?_
            refine G_bipush (nx := 84) ⟨dX12_taken_82, rfl⟩ cb_10 ?_
            refine G_isub (nx := 85) ⟨dX12_taken_84, rfl⟩ ?_
            refine G_icmpne (tgt := 97) (nx := 88) ⟨dX12_taken_85, rfl⟩ rfl (fun c_85 => ?_) (fun c_85 => ?_)
            · refine G_bipush (nx := 99) ⟨dX12_taken_97, rfl⟩ cb_m13 ?_
              refine G_iret ⟨dX12_taken_99, rfl⟩ rfl ?_
              rw [bi_n0] at c_13
              have hqq : (inR q 0 5 || inR q 10 12) = true := by rw [c_13]; rfl
              exact K_v (by rw [if_neg c_85]) (hk3 h0 rfl hh0 hqq c_72)
            · refine G_aload_0 (nx := 89) ⟨dX12_taken_88, rfl⟩ ?_
              refine G_getr (nx := 92) (k := 75) (r := 109) ⟨dX12_taken_89, rfl⟩ fX12_115 q_75 yr_12_49 (r_75_49 _) ?_
              refine G_iload_1 (nx := 93) ⟨dX12_taken_92, rfl⟩ ?_
              refine G_iald (nx := 94) (k := 109) ⟨dX12_taken_93, rfl⟩ q_109 (by first | assumption | decide | (unfold vp_in; decide)) ?_
              rw [ech]
              refine G_goto (tgt := 99) ⟨dX12_taken_94, rfl⟩ rfl ?_
              refine G_iret ⟨dX12_taken_99, rfl⟩ rfl ?_
              rw [bi_n0] at c_13
              have hqq : (inR q 0 5 || inR q 10 12) = true := by rw [c_13]; rfl
              exact K_v (by rw [if_pos c_85]) (hk3 h0 rfl hh0 hqq c_72)
        · refine G_aload_0 (nx := 50) ⟨dX12_taken_49, rfl⟩ ?_
          refine G_aload_0 (nx := 51) ⟨dX12_taken_50, rfl⟩ ?_
          refine G_getr (nx := 54) (k := 75) (r := 107) ⟨dX12_taken_51, rfl⟩ fX12_109 q_75 yr_12_47 (r_75_47 _) ?_
          refine G_iload_1 (nx := 55) ⟨dX12_taken_54, rfl⟩ ?_
          refine G_iald (nx := 56) (k := 107) ⟨dX12_taken_55, rfl⟩ q_107 (by first | assumption | decide | (unfold vp_in; decide)) ?_
          rw [ech]
          refine G_cv1 (nx := 59) ⟨dX12_taken_56, rfl⟩ kX12_145 rfl q_75 rfl (Nat.le_of_ble_eq_true rfl) (Nat.le_of_ble_eq_true rfl) (cM_isPoint hG ?_)
          refine G_ifne (tgt := 65) (nx := 62) ⟨dX12_taken_59, rfl⟩ rfl (fun c_59 => ?_) (fun c_59 => ?_)
          · refine G_aload_0 (nx := 66) ⟨dX12_taken_65, rfl⟩ ?_
            refine G_getr (nx := 69) (k := 75) (r := 106) ⟨dX12_taken_66, rfl⟩ fX12_106 q_75 yr_12_46 (r_75_46 _) ?_
            refine G_iload_1 (nx := 70) ⟨dX12_taken_69, rfl⟩ ?_
            refine G_iald (nx := 71) (k := 106) ⟨dX12_taken_70, rfl⟩ q_106 (by first | assumption | decide | (unfold vp_in; decide)) ?_
            rw [ech]
            refine G_iconst (nx := 72) ⟨dX12_taken_71, rfl⟩ ci_1 ?_
            refine G_icmpne (tgt := 100) (nx := 75) ⟨dX12_taken_72, rfl⟩ rfl (fun c_72 => ?_) (fun c_72 => ?_)
            · refine G_aload_0 (nx := 101) ⟨dX12_taken_100, rfl⟩ ?_
              refine G_getr (nx := 104) (k := 75) (r := 76) ⟨dX12_taken_101, rfl⟩ fX12_13 q_75 yr_12_2 (r_75_2 _) ?_
              refine G_aload_0 (nx := 105) ⟨dX12_taken_104, rfl⟩ ?_
              refine G_getr (nx := 108) (k := 75) (r := 107) ⟨dX12_taken_105, rfl⟩ fX12_109 q_75 yr_12_47 (r_75_47 _) ?_
              refine G_iload_1 (nx := 109) ⟨dX12_taken_108, rfl⟩ ?_
              refine G_iald (nx := 110) (k := 107) ⟨dX12_taken_109, rfl⟩ q_107 (by first | assumption | decide | (unfold vp_in; decide)) ?_
              rw [ech]
              have h460 : I 106 h0 = 0 := (hwh h0 hh0).elim id (fun h => h.elim (fun h => absurd h c_72) (fun h => absurd h c_37))
              have hpt : ptB n (I 107 h0) = true := by first | exact bi_n0.mp c_59 | exact absurd h460 c_46
              obtain ⟨p0, hp0, ep0⟩ := ptB_ex (by omega) hpt
              have hip : vp_in (I 107 h0) 12 := by rw [ep0]; exact in12 hp0 hn
              have ecp : (I 107 h0).toNatClampNeg = p0 := by rw [ep0]; exact cl_nI (by omega)
              refine G_iald (nx := 111) (k := 76) ⟨dX12_taken_110, rfl⟩ q_76 (by first | assumption | decide | (unfold vp_in; decide)) ?_
              rw [ecp]
              refine G_istore_3 (nx := 112) ⟨dX12_taken_111, rfl⟩ rfl rfl ?_
              rw [bi_n0] at c_13
              have hqq : (inR q 0 5 || inR q 10 12) = true := by rw [c_13]; rfl
              refine lM_tk 5 (I 76 p0) (RK5 (hkd p0 hp0)) (fun k2 hk2k => ?_)
              refine G_iload_3 (nx := 131) ⟨dX12_taken_130, rfl⟩ ?_
              refine G_iload_2 (nx := 132) ⟨dX12_taken_131, rfl⟩ ?_
              refine G_icmpne (tgt := 144) (nx := 135) ⟨dX12_taken_132, rfl⟩ rfl (fun c_132 => ?_) (fun c_132 => ?_)
              · refine G_bipush (nx := 146) ⟨dX12_taken_144, rfl⟩ cb_m13 ?_
                refine G_iret ⟨dX12_taken_146, rfl⟩ rfl ?_
                rw [hk2k] at c_132
                exact K_v (by rw [if_neg c_132]) (hk4 h0 p0 rfl hh0 hqq h460 ep0 hp0)
              · refine G_aload_0 (nx := 136) ⟨dX12_taken_135, rfl⟩ ?_
                refine G_getr (nx := 139) (k := 75) (r := 107) ⟨dX12_taken_136, rfl⟩ fX12_109 q_75 yr_12_47 (r_75_47 _) ?_
                refine G_iload_1 (nx := 140) ⟨dX12_taken_139, rfl⟩ ?_
                refine G_iald (nx := 141) (k := 107) ⟨dX12_taken_140, rfl⟩ q_107 (by first | assumption | decide | (unfold vp_in; decide)) ?_
                rw [ech]
                refine G_goto (tgt := 146) ⟨dX12_taken_141, rfl⟩ rfl ?_
                refine G_iret ⟨dX12_taken_146, rfl⟩ rfl ?_
                rw [hk2k] at c_132
                exact K_v (by rw [if_pos c_132]) (hk4 h0 p0 rfl hh0 hqq h460 ep0 hp0)
              
            · refine G_aload_0 (nx := 76) ⟨dX12_taken_75, rfl⟩ ?_
              refine G_getr (nx := 79) (k := 75) (r := 108) ⟨dX12_taken_76, rfl⟩ fX12_112 q_75 yr_12_48 (r_75_48 _) ?_
              refine G_iload_1 (nx := 80) ⟨dX12_taken_79, rfl⟩ ?_
              refine G_iald (nx := 81) (k := 108) ⟨dX12_taken_80, rfl⟩ q_108 (by first | assumption | decide | (unfold vp_in; decide)) ?_
              rw [ech]
              refine G_iload_2 (nx := 82) ⟨dX12_taken_81, rfl⟩ ?_
              refine G_bipush (nx := 84) ⟨dX12_taken_82, rfl⟩ cb_10 ?_
              refine G_isub (nx := 85) ⟨dX12_taken_84, rfl⟩ ?_
              refine G_icmpne (tgt := 97) (nx := 88) ⟨dX12_taken_85, rfl⟩ rfl (fun c_85 => ?_) (fun c_85 => ?_)
              · refine G_bipush (nx := 99) ⟨dX12_taken_97, rfl⟩ cb_m13 ?_
                refine G_iret ⟨dX12_taken_99, rfl⟩ rfl ?_
                exact absurd (c_46.symm.trans c_72) (by decide)
              · refine G_aload_0 (nx := 89) ⟨dX12_taken_88, rfl⟩ ?_
                refine G_getr (nx := 92) (k := 75) (r := 109) ⟨dX12_taken_89, rfl⟩ fX12_115 q_75 yr_12_49 (r_75_49 _) ?_
                refine G_iload_1 (nx := 93) ⟨dX12_taken_92, rfl⟩ ?_
                refine G_iald (nx := 94) (k := 109) ⟨dX12_taken_93, rfl⟩ q_109 (by first | assumption | decide | (unfold vp_in; decide)) ?_
                rw [ech]
                refine G_goto (tgt := 99) ⟨dX12_taken_94, rfl⟩ rfl ?_
                refine G_iret ⟨dX12_taken_99, rfl⟩ rfl ?_
                exact absurd (c_46.symm.trans c_72) (by decide)
          · refine G_bipush (nx := 64) ⟨dX12_taken_62, rfl⟩ cb_m11 ?_
            refine G_iret ⟨dX12_taken_64, rfl⟩ rfl ?_
            rw [bi_n0] at c_13
            have hqq : (inR q 0 5 || inR q 10 12) = true := by rw [c_13]; rfl
            rw [bi_0] at c_59
            exact hk2 h0 rfl hh0 hqq (Or.inr ⟨c_46, c_59⟩)
    · refine G_iload_2 (nx := 17) ⟨dX12_taken_16, rfl⟩ ?_
      refine G_bipush (nx := 19) ⟨dX12_taken_17, rfl⟩ cb_10 ?_
      refine G_bipush (nx := 21) ⟨dX12_taken_19, rfl⟩ cb_12 ?_
      refine G_cs3 (nx := 24) ⟨dX12_taken_21, rfl⟩ kX12_125 rfl rfl (Nat.le_of_ble_eq_true rfl) (Nat.le_of_ble_eq_true rfl) (cM_in ?_)
      refine G_ifne (tgt := 30) (nx := 27) ⟨dX12_taken_24, rfl⟩ rfl (fun c_24 => ?_) (fun c_24 => ?_)
      · refine G_aload_0 (nx := 31) ⟨dX12_taken_30, rfl⟩ ?_
        refine G_getr (nx := 34) (k := 75) (r := 106) ⟨dX12_taken_31, rfl⟩ fX12_106 q_75 yr_12_46 (r_75_46 _) ?_
        refine G_iload_1 (nx := 35) ⟨dX12_taken_34, rfl⟩ ?_
        refine G_iald (nx := 36) (k := 106) ⟨dX12_taken_35, rfl⟩ q_106 (by first | assumption | decide | (unfold vp_in; decide)) ?_
        rw [ech]
        refine G_iconst (nx := 37) ⟨dX12_taken_36, rfl⟩ ci_2 ?_
        refine G_icmpeq (tgt := 62) (nx := 40) ⟨dX12_taken_37, rfl⟩ rfl (fun c_37 => ?_) (fun c_37 => ?_)
        · refine G_bipush (nx := 64) ⟨dX12_taken_62, rfl⟩ cb_m11 ?_
          refine G_iret ⟨dX12_taken_64, rfl⟩ rfl ?_
          rw [bi_n0] at c_24
          have hqq : (inR q 0 5 || inR q 10 12) = true := by rw [c_24, Bool.or_true]
          exact hk2 h0 rfl hh0 hqq (Or.inl c_37)
        · refine G_aload_0 (nx := 41) ⟨dX12_taken_40, rfl⟩ ?_
          refine G_getr (nx := 44) (k := 75) (r := 106) ⟨dX12_taken_41, rfl⟩ fX12_106 q_75 yr_12_46 (r_75_46 _) ?_
          refine G_iload_1 (nx := 45) ⟨dX12_taken_44, rfl⟩ ?_
          refine G_iald (nx := 46) (k := 106) ⟨dX12_taken_45, rfl⟩ q_106 (by first | assumption | decide | (unfold vp_in; decide)) ?_
          rw [ech]
          refine G_ifne (tgt := 65) (nx := 49) ⟨dX12_taken_46, rfl⟩ rfl (fun c_46 => ?_) (fun c_46 => ?_)
          · refine G_aload_0 (nx := 66) ⟨dX12_taken_65, rfl⟩ ?_
            refine G_getr (nx := 69) (k := 75) (r := 106) ⟨dX12_taken_66, rfl⟩ fX12_106 q_75 yr_12_46 (r_75_46 _) ?_
            refine G_iload_1 (nx := 70) ⟨dX12_taken_69, rfl⟩ ?_
            refine G_iald (nx := 71) (k := 106) ⟨dX12_taken_70, rfl⟩ q_106 (by first | assumption | decide | (unfold vp_in; decide)) ?_
            rw [ech]
            refine G_iconst (nx := 72) ⟨dX12_taken_71, rfl⟩ ci_1 ?_
            refine G_icmpne (tgt := 100) (nx := 75) ⟨dX12_taken_72, rfl⟩ rfl (fun c_72 => ?_) (fun c_72 => ?_)
            · refine G_aload_0 (nx := 101) ⟨dX12_taken_100, rfl⟩ ?_
              refine G_getr (nx := 104) (k := 75) (r := 76) ⟨dX12_taken_101, rfl⟩ fX12_13 q_75 yr_12_2 (r_75_2 _) ?_
              refine G_aload_0 (nx := 105) ⟨dX12_taken_104, rfl⟩ ?_
              refine G_getr (nx := 108) (k := 75) (r := 107) ⟨dX12_taken_105, rfl⟩ fX12_109 q_75 yr_12_47 (r_75_47 _) ?_
              refine G_iload_1 (nx := 109) ⟨dX12_taken_108, rfl⟩ ?_
              refine G_iald (nx := 110) (k := 107) ⟨dX12_taken_109, rfl⟩ q_107 (by first | assumption | decide | (unfold vp_in; decide)) ?_
              rw [ech]
              have h460 : I 106 h0 = 0 := (hwh h0 hh0).elim id (fun h => h.elim (fun h => absurd h c_72) (fun h => absurd h c_37))
              have hpt : ptB n (I 107 h0) = true := by first | exact bi_n0.mp c_59 | exact absurd h460 c_46
              obtain ⟨p0, hp0, ep0⟩ := ptB_ex (by omega) hpt
              have hip : vp_in (I 107 h0) 12 := by rw [ep0]; exact in12 hp0 hn
              have ecp : (I 107 h0).toNatClampNeg = p0 := by rw [ep0]; exact cl_nI (by omega)
              refine G_iald (nx := 111) (k := 76) ⟨dX12_taken_110, rfl⟩ q_76 (by first | assumption | decide | (unfold vp_in; decide)) ?_
              rw [ecp]
              refine G_istore_3 (nx := 112) ⟨dX12_taken_111, rfl⟩ rfl rfl ?_
              rw [bi_n0] at c_24
              have hqq : (inR q 0 5 || inR q 10 12) = true := by rw [c_24, Bool.or_true]
              refine lM_tk 5 (I 76 p0) (RK5 (hkd p0 hp0)) (fun k2 hk2k => ?_)
              refine G_iload_3 (nx := 131) ⟨dX12_taken_130, rfl⟩ ?_
              refine G_iload_2 (nx := 132) ⟨dX12_taken_131, rfl⟩ ?_
              refine G_icmpne (tgt := 144) (nx := 135) ⟨dX12_taken_132, rfl⟩ rfl (fun c_132 => ?_) (fun c_132 => ?_)
              · refine G_bipush (nx := 146) ⟨dX12_taken_144, rfl⟩ cb_m13 ?_
                refine G_iret ⟨dX12_taken_146, rfl⟩ rfl ?_
                rw [hk2k] at c_132
                exact K_v (by rw [if_neg c_132]) (hk4 h0 p0 rfl hh0 hqq h460 ep0 hp0)
              · refine G_aload_0 (nx := 136) ⟨dX12_taken_135, rfl⟩ ?_
                refine G_getr (nx := 139) (k := 75) (r := 107) ⟨dX12_taken_136, rfl⟩ fX12_109 q_75 yr_12_47 (r_75_47 _) ?_
                refine G_iload_1 (nx := 140) ⟨dX12_taken_139, rfl⟩ ?_
                refine G_iald (nx := 141) (k := 107) ⟨dX12_taken_140, rfl⟩ q_107 (by first | assumption | decide | (unfold vp_in; decide)) ?_
                rw [ech]
                refine G_goto (tgt := 146) ⟨dX12_taken_141, rfl⟩ rfl ?_
                refine G_iret ⟨dX12_taken_146, rfl⟩ rfl ?_
                rw [hk2k] at c_132
                exact K_v (by rw [if_pos c_132]) (hk4 h0 p0 rfl hh0 hqq h460 ep0 hp0)
              
            · refine G_aload_0 (nx := 76) ⟨dX12_taken_75, rfl⟩ ?_
              refine G_getr (nx := 79) (k := 75) (r := 108) ⟨dX12_taken_76, rfl⟩ fX12_112 q_75 yr_12_48 (r_75_48 _) ?_
              refine G_iload_1 (nx := 80) ⟨dX12_taken_79, rfl⟩ ?_
              refine G_iald (nx := 81) (k := 108) ⟨dX12_taken_80, rfl⟩ q_108 (by first | assumption | decide | (unfold vp_in; decide)) ?_
              rw [ech]
              refine G_iload_2 (nx := 82) ⟨dX12_taken_81, rfl⟩ ?_
              refine G_bipush (nx := 84) ⟨dX12_taken_82, rfl⟩ cb_10 ?_
              refine G_isub (nx := 85) ⟨dX12_taken_84, rfl⟩ ?_
              refine G_icmpne (tgt := 97) (nx := 88) ⟨dX12_taken_85, rfl⟩ rfl (fun c_85 => ?_) (fun c_85 => ?_)
              · refine G_bipush (nx := 99) ⟨dX12_taken_97, rfl⟩ cb_m13 ?_
                refine G_iret ⟨dX12_taken_99, rfl⟩ rfl ?_
                rw [bi_n0] at c_24
                have hqq : (inR q 0 5 || inR q 10 12) = true := by rw [c_24, Bool.or_true]
                exact K_v (by rw [if_neg c_85]) (hk3 h0 rfl hh0 hqq c_72)
              · refine G_aload_0 (nx := 89) ⟨dX12_taken_88, rfl⟩ ?_
                refine G_getr (nx := 92) (k := 75) (r := 109) ⟨dX12_taken_89, rfl⟩ fX12_115 q_75 yr_12_49 (r_75_49 _) ?_
                refine G_iload_1 (nx := 93) ⟨dX12_taken_92, rfl⟩ ?_
                refine G_iald (nx := 94) (k := 109) ⟨dX12_taken_93, rfl⟩ q_109 (by first | assumption | decide | (unfold vp_in; decide)) ?_
                rw [ech]
                refine G_goto (tgt := 99) ⟨dX12_taken_94, rfl⟩ rfl ?_
                refine G_iret ⟨dX12_taken_99, rfl⟩ rfl ?_
                rw [bi_n0] at c_24
                have hqq : (inR q 0 5 || inR q 10 12) = true := by rw [c_24, Bool.or_true]
                exact K_v (by rw [if_pos c_85]) (hk3 h0 rfl hh0 hqq c_72)
          · refine G_aload_0 (nx := 50) ⟨dX12_taken_49, rfl⟩ ?_
            refine G_aload_0 (nx := 51) ⟨dX12_taken_50, rfl⟩ ?_
            refine G_getr (nx := 54) (k := 75) (r := 107) ⟨dX12_taken_51, rfl⟩ fX12_109 q_75 yr_12_47 (r_75_47 _) ?_
            refine G_iload_1 (nx := 55) ⟨dX12_taken_54, rfl⟩ ?_
            refine G_iald (nx := 56) (k := 107) ⟨dX12_taken_55, rfl⟩ q_107 (by first | assumption | decide | (unfold vp_in; decide)) ?_
            rw [ech]
            refine G_cv1 (nx := 59) ⟨dX12_taken_56, rfl⟩ kX12_145 rfl q_75 rfl (Nat.le_of_ble_eq_true rfl) (Nat.le_of_ble_eq_true rfl) (cM_isPoint hG ?_)
            refine G_ifne (tgt := 65) (nx := 62) ⟨dX12_taken_59, rfl⟩ rfl (fun c_59 => ?_) (fun c_59 => ?_)
            · refine G_aload_0 (nx := 66) ⟨dX12_taken_65, rfl⟩ ?_
              refine G_getr (nx := 69) (k := 75) (r := 106) ⟨dX12_taken_66, rfl⟩ fX12_106 q_75 yr_12_46 (r_75_46 _) ?_
              refine G_iload_1 (nx := 70) ⟨dX12_taken_69, rfl⟩ ?_
              refine G_iald (nx := 71) (k := 106) ⟨dX12_taken_70, rfl⟩ q_106 (by first | assumption | decide | (unfold vp_in; decide)) ?_
              rw [ech]
              refine G_iconst (nx := 72) ⟨dX12_taken_71, rfl⟩ ci_1 ?_
              refine G_icmpne (tgt := 100) (nx := 75) ⟨dX12_taken_72, rfl⟩ rfl (fun c_72 => ?_) (fun c_72 => ?_)
              · refine G_aload_0 (nx := 101) ⟨dX12_taken_100, rfl⟩ ?_
                refine G_getr (nx := 104) (k := 75) (r := 76) ⟨dX12_taken_101, rfl⟩ fX12_13 q_75 yr_12_2 (r_75_2 _) ?_
                refine G_aload_0 (nx := 105) ⟨dX12_taken_104, rfl⟩ ?_
                refine G_getr (nx := 108) (k := 75) (r := 107) ⟨dX12_taken_105, rfl⟩ fX12_109 q_75 yr_12_47 (r_75_47 _) ?_
                refine G_iload_1 (nx := 109) ⟨dX12_taken_108, rfl⟩ ?_
                refine G_iald (nx := 110) (k := 107) ⟨dX12_taken_109, rfl⟩ q_107 (by first | assumption | decide | (unfold vp_in; decide)) ?_
                rw [ech]
                have h460 : I 106 h0 = 0 := (hwh h0 hh0).elim id (fun h => h.elim (fun h => absurd h c_72) (fun h => absurd h c_37))
                have hpt : ptB n (I 107 h0) = true := by first | exact bi_n0.mp c_59 | exact absurd h460 c_46
                obtain ⟨p0, hp0, ep0⟩ := ptB_ex (by omega) hpt
                have hip : vp_in (I 107 h0) 12 := by rw [ep0]; exact in12 hp0 hn
                have ecp : (I 107 h0).toNatClampNeg = p0 := by rw [ep0]; exact cl_nI (by omega)
                refine G_iald (nx := 111) (k := 76) ⟨dX12_taken_110, rfl⟩ q_76 (by first | assumption | decide | (unfold vp_in; decide)) ?_
                rw [ecp]
                refine G_istore_3 (nx := 112) ⟨dX12_taken_111, rfl⟩ rfl rfl ?_
                rw [bi_n0] at c_24
                have hqq : (inR q 0 5 || inR q 10 12) = true := by rw [c_24, Bool.or_true]
                refine lM_tk 5 (I 76 p0) (RK5 (hkd p0 hp0)) (fun k2 hk2k => ?_)
                refine G_iload_3 (nx := 131) ⟨dX12_taken_130, rfl⟩ ?_
                refine G_iload_2 (nx := 132) ⟨dX12_taken_131, rfl⟩ ?_
                refine G_icmpne (tgt := 144) (nx := 135) ⟨dX12_taken_132, rfl⟩ rfl (fun c_132 => ?_) (fun c_132 => ?_)
                · refine G_bipush (nx := 146) ⟨dX12_taken_144, rfl⟩ cb_m13 ?_
                  refine G_iret ⟨dX12_taken_146, rfl⟩ rfl ?_
                  rw [hk2k] at c_132
                  exact K_v (by rw [if_neg c_132]) (hk4 h0 p0 rfl hh0 hqq h460 ep0 hp0)
                · refine G_aload_0 (nx := 136) ⟨dX12_taken_135, rfl⟩ ?_
                  refine G_getr (nx := 139) (k := 75) (r := 107) ⟨dX12_taken_136, rfl⟩ fX12_109 q_75 yr_12_47 (r_75_47 _) ?_
                  refine G_iload_1 (nx := 140) ⟨dX12_taken_139, rfl⟩ ?_
                  refine G_iald (nx := 141) (k := 107) ⟨dX12_taken_140, rfl⟩ q_107 (by first | assumption | decide | (unfold vp_in; decide)) ?_
                  rw [ech]
                  refine G_goto (tgt := 146) ⟨dX12_taken_141, rfl⟩ rfl ?_
                  refine G_iret ⟨dX12_taken_146, rfl⟩ rfl ?_
                  rw [hk2k] at c_132
                  exact K_v (by rw [if_pos c_132]) (hk4 h0 p0 rfl hh0 hqq h460 ep0 hp0)
                
              · refine G_aload_0 (nx := 76) ⟨dX12_taken_75, rfl⟩ ?_
                refine G_getr (nx := 79) (k := 75) (r := 108) ⟨dX12_taken_76, rfl⟩ fX12_112 q_75 yr_12_48 (r_75_48 _) ?_
                refine G_iload_1 (nx := 80) ⟨dX12_taken_79, rfl⟩ ?_
                refine G_iald (nx := 81) (k := 108) ⟨dX12_taken_80, rfl⟩ q_108 (by first | assumption | decide | (unfold vp_in; decide)) ?_
                rw [ech]
                refine G_iload_2 (nx := 82) ⟨dX12_taken_81, rfl⟩ ?_
                refine G_bipush (nx := 84) ⟨dX12_taken_82, rfl⟩ cb_10 ?_
                refine G_isub (nx := 85) ⟨dX12_taken_84, rfl⟩ ?_
                refine G_icmpne (tgt := 97) (nx := 88) ⟨dX12_taken_85, rfl⟩ rfl (fun c_85 => ?_) (fun c_85 => ?_)
                · refine G_bipush (nx := 99) ⟨dX12_taken_97, rfl⟩ cb_m13 ?_
                  refine G_iret ⟨dX12_taken_99, rfl⟩ rfl ?_
                  exact absurd (c_46.symm.trans c_72) (by decide)
                · refine G_aload_0 (nx := 89) ⟨dX12_taken_88, rfl⟩ ?_
                  refine G_getr (nx := 92) (k := 75) (r := 109) ⟨dX12_taken_89, rfl⟩ fX12_115 q_75 yr_12_49 (r_75_49 _) ?_
                  refine G_iload_1 (nx := 93) ⟨dX12_taken_92, rfl⟩ ?_
                  refine G_iald (nx := 94) (k := 109) ⟨dX12_taken_93, rfl⟩ q_109 (by first | assumption | decide | (unfold vp_in; decide)) ?_
                  rw [ech]
                  refine G_goto (tgt := 99) ⟨dX12_taken_94, rfl⟩ rfl ?_
                  refine G_iret ⟨dX12_taken_99, rfl⟩ rfl ?_
                  exact absurd (c_46.symm.trans c_72) (by decide)
            · refine G_bipush (nx := 64) ⟨dX12_taken_62, rfl⟩ cb_m11 ?_
              refine G_iret ⟨dX12_taken_64, rfl⟩ rfl ?_
              rw [bi_n0] at c_24
              have hqq : (inR q 0 5 || inR q 10 12) = true := by rw [c_24, Bool.or_true]
              rw [bi_0] at c_59
              exact hk2 h0 rfl hh0 hqq (Or.inr ⟨c_46, c_59⟩)
      · refine G_bipush (nx := 29) ⟨dX12_taken_27, rfl⟩ cb_m2 ?_
        refine G_iret ⟨dX12_taken_29, rfl⟩ rfl ?_
        rw [bi_0] at c_13
        rw [bi_0] at c_24
        exact hk1 (by simp [c_13, c_24])

end M37
