
abbrev PY : Type := (Nat → Int32) × Int32 × Int32
def pyM (P : Nat → Int32) (x y : Nat) : Int32 := if P y ≤ P x then P y else P x
def pyI (gr : Nat → Nat) (A B : Int32) (x y : Nat) (s : PY) : PY := if x < y ∧ (gr x).testBit y = true then (upd (upd s.1 x (s.1 x - pyM s.1 x y)) y (s.1 y - pyM s.1 x y), s.2.1 + pyM s.1 x y, if (nI x = A ∧ nI y = B) ∨ (nI x = B ∧ nI y = A) then pyM s.1 x y else s.2.2) else s
section M51
variable {l : Launch} {d : Nat} {K : AK} {I : AI} {J : AJ} {g : Bool} {n : Nat} {gr : Nat → Nat}

theorem lM_pay2 {A B : Int32} {x : Nat} {S0 : PY} (hG : MG I n gr) (hx : x < n) (hgo : ∀ (I' : AI) (x7 : Value), notL x7 = true → I' 87 = (lp (pyI gr A B x) n S0).1 → sb f87 I I' → G l (d + 1) mX12_payments K 185 [.ref 75, .int A, .int B, .int (lp (pyI gr A B x) n S0).2.1, .int (lp (pyI gr A B x) n S0).2.2, .int (nI x), .int (nI n), x7] [] I' J (rX g)) : ∀ (k y : Nat) (I1 : AI) (x7 : Value), notL x7 = true → n - y = k → x < y → y ≤ n → I1 87 = (lp (pyI gr A B x) y S0).1 → sb f87 I I1 → G l (d + 1) mX12_payments K 54 [.ref 75, .int A, .int B, .int (lp (pyI gr A B x) y S0).2.1, .int (lp (pyI gr A B x) y S0).2.2, .int (nI x), .int (nI y), x7] [] I1 J (rX g) := by
  intro k
  induction k using Nat.strongRecOn with
  | _ k ih =>
  intro y I1 x7 hx7 hyk hxy hy hP hs1
  have hn := hG.2.1
  have hG1 : MG I1 n gr := hG.sb hs1 rfl (fun _ => rfl)
  have e0 := hG1.1
  have hix := in12 hx hn
  have ecx := cl_nI (p := x) (by omega)
  have ecy := cl_nI (p := y) (by omega)
  refine G_iload_6 (nx := 56) ⟨dX12_payments_54, rfl⟩ ?_
  refine G_aload_0 (nx := 57) ⟨dX12_payments_56, rfl⟩ ?_
  refine G_geti (nx := 60) (k := 75) ⟨dX12_payments_57, rfl⟩ fX12_122 q_75 yi_12_0 ?_
  rw [e0]
  refine G_icmpge (tgt := 185) (nx := 63) ⟨dX12_payments_60, rfl⟩ rfl (fun c_60 => ?_) (fun c_60 => ?_)
  · rw [nI_le_iff (by omega) (by omega)] at c_60
    have e : y = n := by omega
    subst e
    exact hgo I1 _ hx7 hP hs1
  · rw [nI_le_iff (by omega) (by omega)] at c_60
    have hyn : y < n := by omega
    have hiy := in12 hyn hn
    refine G_aload_0 (nx := 64) ⟨dX12_payments_63, rfl⟩ ?_
    refine G_getr (nx := 67) (k := 75) (r := 78) ⟨dX12_payments_64, rfl⟩ fX12_20 q_75 yr_12_4 (r_75_4 _) ?_
    refine G_iload_5 (nx := 69) ⟨dX12_payments_67, rfl⟩ ?_
    refine G_iald (nx := 70) (k := 78) ⟨dX12_payments_69, rfl⟩ q_78 (by first | assumption | decide | (unfold vp_in; decide)) ?_
    rw [hG1.row hx]
    refine G_iload_6 (nx := 72) ⟨dX12_payments_70, rfl⟩ ?_
    refine G_cs2 (nx := 75) ⟨dX12_payments_72, rfl⟩ kX12_118 rfl rfl (Nat.le_of_ble_eq_true rfl) (Nat.le_of_ble_eq_true rfl) (cM_has (lt31 (hG1.lt hx)) (by omega) ?_)
    refine G_ifne (tgt := 81) (nx := 78) ⟨dX12_payments_75, rfl⟩ rfl (fun c_75 => ?_) (fun c_75 => ?_)
    · refine G_aload_0 (nx := 82) ⟨dX12_payments_81, rfl⟩ ?_
      refine G_getr (nx := 85) (k := 75) (r := 87) ⟨dX12_payments_82, rfl⟩ fX12_47 q_75 yr_12_23 (r_75_23 _) ?_
      refine G_iload_5 (nx := 87) ⟨dX12_payments_85, rfl⟩ ?_
      refine G_iald (nx := 88) (k := 87) ⟨dX12_payments_87, rfl⟩ q_87 (by first | assumption | decide | (unfold vp_in; decide)) ?_
      refine G_aload_0 (nx := 89) ⟨dX12_payments_88, rfl⟩ ?_
      refine G_getr (nx := 92) (k := 75) (r := 87) ⟨dX12_payments_89, rfl⟩ fX12_47 q_75 yr_12_23 (r_75_23 _) ?_
      refine G_iload_6 (nx := 94) ⟨dX12_payments_92, rfl⟩ ?_
      refine G_iald (nx := 95) (k := 87) ⟨dX12_payments_94, rfl⟩ q_87 (by first | assumption | decide | (unfold vp_in; decide)) ?_
      rw [ecx, ecy, hP]
      refine G_icmpge (tgt := 108) (nx := 98) ⟨dX12_payments_95, rfl⟩ rfl (fun c_95 => ?_) (fun c_95 => ?_)
      · refine G_aload_0 (nx := 109) ⟨dX12_payments_108, rfl⟩ ?_
        refine G_getr (nx := 112) (k := 75) (r := 87) ⟨dX12_payments_109, rfl⟩ fX12_47 q_75 yr_12_23 (r_75_23 _) ?_
        refine G_iload_6 (nx := 114) ⟨dX12_payments_112, rfl⟩ ?_
        refine G_iald (nx := 115) (k := 87) ⟨dX12_payments_114, rfl⟩ q_87 (by first | assumption | decide | (unfold vp_in; decide)) ?_
        try rw [ecy, hP]
        refine G_istore_7 (nx := 117) ⟨dX12_payments_115, rfl⟩ rfl rfl ?_
        refine G_aload_0 (nx := 118) ⟨dX12_payments_117, rfl⟩ ?_
        refine G_getr (nx := 121) (k := 75) (r := 87) ⟨dX12_payments_118, rfl⟩ fX12_47 q_75 yr_12_23 (r_75_23 _) ?_
        refine G_iload_5 (nx := 123) ⟨dX12_payments_121, rfl⟩ ?_
        refine G_dup2 (nx := 124) ⟨dX12_payments_123, rfl⟩ rfl rfl ?_
        refine G_iald (nx := 125) (k := 87) ⟨dX12_payments_124, rfl⟩ q_87 (by first | assumption | decide | (unfold vp_in; decide)) ?_
        rw [ecx, hP]
        refine G_iload_7 (nx := 127) ⟨dX12_payments_125, rfl⟩ ?_
        refine G_isub (nx := 128) ⟨dX12_payments_127, rfl⟩ ?_
        refine G_iast (nx := 129) (k := 87) ⟨dX12_payments_128, rfl⟩ q_87 (by first | assumption | decide | (unfold vp_in; decide)) ?_
        rw [ecx]
        refine G_aload_0 (nx := 130) ⟨dX12_payments_129, rfl⟩ ?_
        refine G_getr (nx := 133) (k := 75) (r := 87) ⟨dX12_payments_130, rfl⟩ fX12_47 q_75 yr_12_23 (r_75_23 _) ?_
        refine G_iload_6 (nx := 135) ⟨dX12_payments_133, rfl⟩ ?_
        refine G_dup2 (nx := 136) ⟨dX12_payments_135, rfl⟩ rfl rfl ?_
        refine G_iald (nx := 137) (k := 87) ⟨dX12_payments_136, rfl⟩ q_87 (by first | assumption | decide | (unfold vp_in; decide)) ?_
        rw [ecy, w2_ne _ _ _ _ (by omega), hP]
        refine G_iload_7 (nx := 139) ⟨dX12_payments_137, rfl⟩ ?_
        refine G_isub (nx := 140) ⟨dX12_payments_139, rfl⟩ ?_
        refine G_iast (nx := 141) (k := 87) ⟨dX12_payments_140, rfl⟩ q_87 (by first | assumption | decide | (unfold vp_in; decide)) ?_
        rw [ecy]
        refine G_iload_3 (nx := 142) ⟨dX12_payments_141, rfl⟩ ?_
        refine G_iload_7 (nx := 144) ⟨dX12_payments_142, rfl⟩ ?_
        refine G_iadd (nx := 145) ⟨dX12_payments_144, rfl⟩ ?_
        refine G_istore_3 (nx := 146) ⟨dX12_payments_145, rfl⟩ rfl rfl ?_
        refine G_iload_5 (nx := 148) ⟨dX12_payments_146, rfl⟩ ?_
        refine G_iload_1 (nx := 149) ⟨dX12_payments_148, rfl⟩ ?_
        refine G_icmpne (tgt := 158) (nx := 152) ⟨dX12_payments_149, rfl⟩ rfl (fun c_149 => ?_) (fun c_149 => ?_)
        · refine G_iload_5 (nx := 160) ⟨dX12_payments_158, rfl⟩ ?_
          refine G_iload_2 (nx := 161) ⟨dX12_payments_160, rfl⟩ ?_
          refine G_icmpne (tgt := 175) (nx := 164) ⟨dX12_payments_161, rfl⟩ rfl (fun c_161 => ?_) (fun c_161 => ?_)
          · refine G_iload_4 (nx := 177) ⟨dX12_payments_175, rfl⟩ ?_
            refine G_istore_4 (nx := 179) ⟨dX12_payments_177, rfl⟩ rfl rfl ?_
            refine G_iinc_6 (nx := 182) ⟨dX12_payments_179, rfl⟩ ci_1 rfl ?_
            refine G_goto (tgt := 54) ⟨dX12_payments_182, rfl⟩ rfl ?_
            rw [bi_n0] at c_75
            have em : pyM (lp (pyI gr A B x) y S0).1 x y = (lp (pyI gr A B x) y S0).1 y := if_pos c_95
            have est : (lp (pyI gr A B x) (y + 1) S0) = (upd (upd (lp (pyI gr A B x) y S0).1 x ((lp (pyI gr A B x) y S0).1 x - (lp (pyI gr A B x) y S0).1 y)) y ((lp (pyI gr A B x) y S0).1 y - (lp (pyI gr A B x) y S0).1 y), (lp (pyI gr A B x) y S0).2.1 + (lp (pyI gr A B x) y S0).1 y, (lp (pyI gr A B x) y S0).2.2) := by rw [lp_s, pyI, if_pos ⟨hxy, c_75⟩, em, if_neg (fun h => h.elim (fun h => c_149 h.1) (fun h => c_161 h.1))]
            refine G_L (by rw [est, nI_1]) (ih (n - (y + 1)) (by omega) (y + 1) _ _ rfl rfl (by omega) (by omega) ?_ ((hs1.w rfl).w rfl))
            rw [est, ← w2_upd, ← w2_upd, hP]
          · refine G_iload_6 (nx := 166) ⟨dX12_payments_164, rfl⟩ ?_
            refine G_iload_1 (nx := 167) ⟨dX12_payments_166, rfl⟩ ?_
            refine G_icmpne (tgt := 175) (nx := 170) ⟨dX12_payments_167, rfl⟩ rfl (fun c_167 => ?_) (fun c_167 => ?_)
            · refine G_iload_4 (nx := 177) ⟨dX12_payments_175, rfl⟩ ?_
              refine G_istore_4 (nx := 179) ⟨dX12_payments_177, rfl⟩ rfl rfl ?_
              refine G_iinc_6 (nx := 182) ⟨dX12_payments_179, rfl⟩ ci_1 rfl ?_
              refine G_goto (tgt := 54) ⟨dX12_payments_182, rfl⟩ rfl ?_
              rw [bi_n0] at c_75
              have em : pyM (lp (pyI gr A B x) y S0).1 x y = (lp (pyI gr A B x) y S0).1 y := if_pos c_95
              have est : (lp (pyI gr A B x) (y + 1) S0) = (upd (upd (lp (pyI gr A B x) y S0).1 x ((lp (pyI gr A B x) y S0).1 x - (lp (pyI gr A B x) y S0).1 y)) y ((lp (pyI gr A B x) y S0).1 y - (lp (pyI gr A B x) y S0).1 y), (lp (pyI gr A B x) y S0).2.1 + (lp (pyI gr A B x) y S0).1 y, (lp (pyI gr A B x) y S0).2.2) := by rw [lp_s, pyI, if_pos ⟨hxy, c_75⟩, em, if_neg (fun h => h.elim (fun h => c_149 h.1) (fun h => c_167 h.2))]
              refine G_L (by rw [est, nI_1]) (ih (n - (y + 1)) (by omega) (y + 1) _ _ rfl rfl (by omega) (by omega) ?_ ((hs1.w rfl).w rfl))
              rw [est, ← w2_upd, ← w2_upd, hP]
            · refine G_iload_7 (nx := 172) ⟨dX12_payments_170, rfl⟩ ?_
              refine G_goto (tgt := 177) ⟨dX12_payments_172, rfl⟩ rfl ?_
              refine G_istore_4 (nx := 179) ⟨dX12_payments_177, rfl⟩ rfl rfl ?_
              refine G_iinc_6 (nx := 182) ⟨dX12_payments_179, rfl⟩ ci_1 rfl ?_
              refine G_goto (tgt := 54) ⟨dX12_payments_182, rfl⟩ rfl ?_
              rw [bi_n0] at c_75
              have em : pyM (lp (pyI gr A B x) y S0).1 x y = (lp (pyI gr A B x) y S0).1 y := if_pos c_95
              have est : (lp (pyI gr A B x) (y + 1) S0) = (upd (upd (lp (pyI gr A B x) y S0).1 x ((lp (pyI gr A B x) y S0).1 x - (lp (pyI gr A B x) y S0).1 y)) y ((lp (pyI gr A B x) y S0).1 y - (lp (pyI gr A B x) y S0).1 y), (lp (pyI gr A B x) y S0).2.1 + (lp (pyI gr A B x) y S0).1 y, (lp (pyI gr A B x) y S0).1 y) := by rw [lp_s, pyI, if_pos ⟨hxy, c_75⟩, em, if_pos (Or.inr ⟨c_161, c_167⟩)]
              refine G_L (by rw [est, nI_1]) (ih (n - (y + 1)) (by omega) (y + 1) _ _ rfl rfl (by omega) (by omega) ?_ ((hs1.w rfl).w rfl))
              rw [est, ← w2_upd, ← w2_upd, hP]
        · refine G_iload_6 (nx := 154) ⟨dX12_payments_152, rfl⟩ ?_
          refine G_iload_2 (nx := 155) ⟨dX12_payments_154, rfl⟩ ?_
          refine G_icmpeq (tgt := 170) (nx := 158) ⟨dX12_payments_155, rfl⟩ rfl (fun c_155 => ?_) (fun c_155 => ?_)
          · refine G_iload_7 (nx := 172) ⟨dX12_payments_170, rfl⟩ ?_
            refine G_goto (tgt := 177) ⟨dX12_payments_172, rfl⟩ rfl ?_
            refine G_istore_4 (nx := 179) ⟨dX12_payments_177, rfl⟩ rfl rfl ?_
            refine G_iinc_6 (nx := 182) ⟨dX12_payments_179, rfl⟩ ci_1 rfl ?_
            refine G_goto (tgt := 54) ⟨dX12_payments_182, rfl⟩ rfl ?_
            rw [bi_n0] at c_75
            have em : pyM (lp (pyI gr A B x) y S0).1 x y = (lp (pyI gr A B x) y S0).1 y := if_pos c_95
            have est : (lp (pyI gr A B x) (y + 1) S0) = (upd (upd (lp (pyI gr A B x) y S0).1 x ((lp (pyI gr A B x) y S0).1 x - (lp (pyI gr A B x) y S0).1 y)) y ((lp (pyI gr A B x) y S0).1 y - (lp (pyI gr A B x) y S0).1 y), (lp (pyI gr A B x) y S0).2.1 + (lp (pyI gr A B x) y S0).1 y, (lp (pyI gr A B x) y S0).1 y) := by rw [lp_s, pyI, if_pos ⟨hxy, c_75⟩, em, if_pos (Or.inl ⟨c_149, c_155⟩)]
            refine G_L (by rw [est, nI_1]) (ih (n - (y + 1)) (by omega) (y + 1) _ _ rfl rfl (by omega) (by omega) ?_ ((hs1.w rfl).w rfl))
            rw [est, ← w2_upd, ← w2_upd, hP]
          · refine G_iload_5 (nx := 160) ⟨dX12_payments_158, rfl⟩ ?_
            refine G_iload_2 (nx := 161) ⟨dX12_payments_160, rfl⟩ ?_
            refine G_icmpne (tgt := 175) (nx := 164) ⟨dX12_payments_161, rfl⟩ rfl (fun c_161 => ?_) (fun c_161 => ?_)
            · refine G_iload_4 (nx := 177) ⟨dX12_payments_175, rfl⟩ ?_
              refine G_istore_4 (nx := 179) ⟨dX12_payments_177, rfl⟩ rfl rfl ?_
              refine G_iinc_6 (nx := 182) ⟨dX12_payments_179, rfl⟩ ci_1 rfl ?_
              refine G_goto (tgt := 54) ⟨dX12_payments_182, rfl⟩ rfl ?_
              rw [bi_n0] at c_75
              have em : pyM (lp (pyI gr A B x) y S0).1 x y = (lp (pyI gr A B x) y S0).1 y := if_pos c_95
              have est : (lp (pyI gr A B x) (y + 1) S0) = (upd (upd (lp (pyI gr A B x) y S0).1 x ((lp (pyI gr A B x) y S0).1 x - (lp (pyI gr A B x) y S0).1 y)) y ((lp (pyI gr A B x) y S0).1 y - (lp (pyI gr A B x) y S0).1 y), (lp (pyI gr A B x) y S0).2.1 + (lp (pyI gr A B x) y S0).1 y, (lp (pyI gr A B x) y S0).2.2) := by rw [lp_s, pyI, if_pos ⟨hxy, c_75⟩, em, if_neg (fun h => h.elim (fun h => c_155 h.2) (fun h => c_161 h.1))]
              refine G_L (by rw [est, nI_1]) (ih (n - (y + 1)) (by omega) (y + 1) _ _ rfl rfl (by omega) (by omega) ?_ ((hs1.w rfl).w rfl))
              rw [est, ← w2_upd, ← w2_upd, hP]
            · refine G_iload_6 (nx := 166) ⟨dX12_payments_164, rfl⟩ ?_
              refine G_iload_1 (nx := 167) ⟨dX12_payments_166, rfl⟩ ?_
              refine G_icmpne (tgt := 175) (nx := 170) ⟨dX12_payments_167, rfl⟩ rfl (fun c_167 => ?_) (fun c_167 => ?_)
              · refine G_iload_4 (nx := 177) ⟨dX12_payments_175, rfl⟩ ?_
                refine G_istore_4 (nx := 179) ⟨dX12_payments_177, rfl⟩ rfl rfl ?_
                refine G_iinc_6 (nx := 182) ⟨dX12_payments_179, rfl⟩ ci_1 rfl ?_
                refine G_goto (tgt := 54) ⟨dX12_payments_182, rfl⟩ rfl ?_
                rw [bi_n0] at c_75
                have em : pyM (lp (pyI gr A B x) y S0).1 x y = (lp (pyI gr A B x) y S0).1 y := if_pos c_95
                have est : (lp (pyI gr A B x) (y + 1) S0) = (upd (upd (lp (pyI gr A B x) y S0).1 x ((lp (pyI gr A B x) y S0).1 x - (lp (pyI gr A B x) y S0).1 y)) y ((lp (pyI gr A B x) y S0).1 y - (lp (pyI gr A B x) y S0).1 y), (lp (pyI gr A B x) y S0).2.1 + (lp (pyI gr A B x) y S0).1 y, (lp (pyI gr A B x) y S0).2.2) := by rw [lp_s, pyI, if_pos ⟨hxy, c_75⟩, em, if_neg (fun h => h.elim (fun h => c_155 h.2) (fun h => c_167 h.2))]
                refine G_L (by rw [est, nI_1]) (ih (n - (y + 1)) (by omega) (y + 1) _ _ rfl rfl (by omega) (by omega) ?_ ((hs1.w rfl).w rfl))
                rw [est, ← w2_upd, ← w2_upd, hP]
              · refine G_iload_7 (nx := 172) ⟨dX12_payments_170, rfl⟩ ?_
                refine G_goto (tgt := 177) ⟨dX12_payments_172, rfl⟩ rfl ?_
                refine G_istore_4 (nx := 179) ⟨dX12_payments_177, rfl⟩ rfl rfl ?_
                refine G_iinc_6 (nx := 182) ⟨dX12_payments_179, rfl⟩ ci_1 rfl ?_
                refine G_goto (tgt := 54) ⟨dX12_payments_182, rfl⟩ rfl ?_
                rw [bi_n0] at c_75
                have em : pyM (lp (pyI gr A B x) y S0).1 x y = (lp (pyI gr A B x) y S0).1 y := if_pos c_95
                have est : (lp (pyI gr A B x) (y + 1) S0) = (upd (upd (lp (pyI gr A B x) y S0).1 x ((lp (pyI gr A B x) y S0).1 x - (lp (pyI gr A B x) y S0).1 y)) y ((lp (pyI gr A B x) y S0).1 y - (lp (pyI gr A B x) y S0).1 y), (lp (pyI gr A B x) y S0).2.1 + (lp (pyI gr A B x) y S0).1 y, (lp (pyI gr A B x) y S0).1 y) := by rw [lp_s, pyI, if_pos ⟨hxy, c_75⟩, em, if_pos (Or.inr ⟨c_161, c_167⟩)]
                refine G_L (by rw [est, nI_1]) (ih (n - (y + 1)) (by omega) (y + 1) _ _ rfl rfl (by omega) (by omega) ?_ ((hs1.w rfl).w rfl))
                rw [est, ← w2_upd, ← w2_upd, hP]
      · refine G_aload_0 (nx := 99) ⟨dX12_payments_98, rfl⟩ ?_
        refine G_getr (nx := 102) (k := 75) (r := 87) ⟨dX12_payments_99, rfl⟩ fX12_47 q_75 yr_12_23 (r_75_23 _) ?_
        refine G_iload_5 (nx := 104) ⟨dX12_payments_102, rfl⟩ ?_
        refine G_iald (nx := 105) (k := 87) ⟨dX12_payments_104, rfl⟩ q_87 (by first | assumption | decide | (unfold vp_in; decide)) ?_
        rw [ecx, hP]
        refine G_goto (tgt := 115) ⟨dX12_payments_105, rfl⟩ rfl ?_
        try rw [ecy, hP]
        refine G_istore_7 (nx := 117) ⟨dX12_payments_115, rfl⟩ rfl rfl ?_
        refine G_aload_0 (nx := 118) ⟨dX12_payments_117, rfl⟩ ?_
        refine G_getr (nx := 121) (k := 75) (r := 87) ⟨dX12_payments_118, rfl⟩ fX12_47 q_75 yr_12_23 (r_75_23 _) ?_
        refine G_iload_5 (nx := 123) ⟨dX12_payments_121, rfl⟩ ?_
        refine G_dup2 (nx := 124) ⟨dX12_payments_123, rfl⟩ rfl rfl ?_
        refine G_iald (nx := 125) (k := 87) ⟨dX12_payments_124, rfl⟩ q_87 (by first | assumption | decide | (unfold vp_in; decide)) ?_
        rw [ecx, hP]
        refine G_iload_7 (nx := 127) ⟨dX12_payments_125, rfl⟩ ?_
        refine G_isub (nx := 128) ⟨dX12_payments_127, rfl⟩ ?_
        refine G_iast (nx := 129) (k := 87) ⟨dX12_payments_128, rfl⟩ q_87 (by first | assumption | decide | (unfold vp_in; decide)) ?_
        rw [ecx]
        refine G_aload_0 (nx := 130) ⟨dX12_payments_129, rfl⟩ ?_
        refine G_getr (nx := 133) (k := 75) (r := 87) ⟨dX12_payments_130, rfl⟩ fX12_47 q_75 yr_12_23 (r_75_23 _) ?_
        refine G_iload_6 (nx := 135) ⟨dX12_payments_133, rfl⟩ ?_
        refine G_dup2 (nx := 136) ⟨dX12_payments_135, rfl⟩ rfl rfl ?_
        refine G_iald (nx := 137) (k := 87) ⟨dX12_payments_136, rfl⟩ q_87 (by first | assumption | decide | (unfold vp_in; decide)) ?_
        rw [ecy, w2_ne _ _ _ _ (by omega), hP]
        refine G_iload_7 (nx := 139) ⟨dX12_payments_137, rfl⟩ ?_
        refine G_isub (nx := 140) ⟨dX12_payments_139, rfl⟩ ?_
        refine G_iast (nx := 141) (k := 87) ⟨dX12_payments_140, rfl⟩ q_87 (by first | assumption | decide | (unfold vp_in; decide)) ?_
        rw [ecy]
        refine G_iload_3 (nx := 142) ⟨dX12_payments_141, rfl⟩ ?_
        refine G_iload_7 (nx := 144) ⟨dX12_payments_142, rfl⟩ ?_
        refine G_iadd (nx := 145) ⟨dX12_payments_144, rfl⟩ ?_
        refine G_istore_3 (nx := 146) ⟨dX12_payments_145, rfl⟩ rfl rfl ?_
        refine G_iload_5 (nx := 148) ⟨dX12_payments_146, rfl⟩ ?_
        refine G_iload_1 (nx := 149) ⟨dX12_payments_148, rfl⟩ ?_
        refine G_icmpne (tgt := 158) (nx := 152) ⟨dX12_payments_149, rfl⟩ rfl (fun c_149 => ?_) (fun c_149 => ?_)
        · refine G_iload_5 (nx := 160) ⟨dX12_payments_158, rfl⟩ ?_
          refine G_iload_2 (nx := 161) ⟨dX12_payments_160, rfl⟩ ?_
          refine G_icmpne (tgt := 175) (nx := 164) ⟨dX12_payments_161, rfl⟩ rfl (fun c_161 => ?_) (fun c_161 => ?_)
          · refine G_iload_4 (nx := 177) ⟨dX12_payments_175, rfl⟩ ?_
            refine G_istore_4 (nx := 179) ⟨dX12_payments_177, rfl⟩ rfl rfl ?_
            refine G_iinc_6 (nx := 182) ⟨dX12_payments_179, rfl⟩ ci_1 rfl ?_
            refine G_goto (tgt := 54) ⟨dX12_payments_182, rfl⟩ rfl ?_
            rw [bi_n0] at c_75
            have em : pyM (lp (pyI gr A B x) y S0).1 x y = (lp (pyI gr A B x) y S0).1 x := if_neg c_95
            have est : (lp (pyI gr A B x) (y + 1) S0) = (upd (upd (lp (pyI gr A B x) y S0).1 x ((lp (pyI gr A B x) y S0).1 x - (lp (pyI gr A B x) y S0).1 x)) y ((lp (pyI gr A B x) y S0).1 y - (lp (pyI gr A B x) y S0).1 x), (lp (pyI gr A B x) y S0).2.1 + (lp (pyI gr A B x) y S0).1 x, (lp (pyI gr A B x) y S0).2.2) := by rw [lp_s, pyI, if_pos ⟨hxy, c_75⟩, em, if_neg (fun h => h.elim (fun h => c_149 h.1) (fun h => c_161 h.1))]
            refine G_L (by rw [est, nI_1]) (ih (n - (y + 1)) (by omega) (y + 1) _ _ rfl rfl (by omega) (by omega) ?_ ((hs1.w rfl).w rfl))
            rw [est, ← w2_upd, ← w2_upd, hP]
          · refine G_iload_6 (nx := 166) ⟨dX12_payments_164, rfl⟩ ?_
            refine G_iload_1 (nx := 167) ⟨dX12_payments_166, rfl⟩ ?_
            refine G_icmpne (tgt := 175) (nx := 170) ⟨dX12_payments_167, rfl⟩ rfl (fun c_167 => ?_) (fun c_167 => ?_)
            · refine G_iload_4 (nx := 177) ⟨dX12_payments_175, rfl⟩ ?_
              refine G_istore_4 (nx := 179) ⟨dX12_payments_177, rfl⟩ rfl rfl ?_
              refine G_iinc_6 (nx := 182) ⟨dX12_payments_179, rfl⟩ ci_1 rfl ?_
              refine G_goto (tgt := 54) ⟨dX12_payments_182, rfl⟩ rfl ?_
              rw [bi_n0] at c_75
              have em : pyM (lp (pyI gr A B x) y S0).1 x y = (lp (pyI gr A B x) y S0).1 x := if_neg c_95
              have est : (lp (pyI gr A B x) (y + 1) S0) = (upd (upd (lp (pyI gr A B x) y S0).1 x ((lp (pyI gr A B x) y S0).1 x - (lp (pyI gr A B x) y S0).1 x)) y ((lp (pyI gr A B x) y S0).1 y - (lp (pyI gr A B x) y S0).1 x), (lp (pyI gr A B x) y S0).2.1 + (lp (pyI gr A B x) y S0).1 x, (lp (pyI gr A B x) y S0).2.2) := by rw [lp_s, pyI, if_pos ⟨hxy, c_75⟩, em, if_neg (fun h => h.elim (fun h => c_149 h.1) (fun h => c_167 h.2))]
              refine G_L (by rw [est, nI_1]) (ih (n - (y + 1)) (by omega) (y + 1) _ _ rfl rfl (by omega) (by omega) ?_ ((hs1.w rfl).w rfl))
              rw [est, ← w2_upd, ← w2_upd, hP]
            · refine G_iload_7 (nx := 172) ⟨dX12_payments_170, rfl⟩ ?_
              refine G_goto (tgt := 177) ⟨dX12_payments_172, rfl⟩ rfl ?_
              refine G_istore_4 (nx := 179) ⟨dX12_payments_177, rfl⟩ rfl rfl ?_
              refine G_iinc_6 (nx := 182) ⟨dX12_payments_179, rfl⟩ ci_1 rfl ?_
              refine G_goto (tgt := 54) ⟨dX12_payments_182, rfl⟩ rfl ?_
              rw [bi_n0] at c_75
              have em : pyM (lp (pyI gr A B x) y S0).1 x y = (lp (pyI gr A B x) y S0).1 x := if_neg c_95
              have est : (lp (pyI gr A B x) (y + 1) S0) = (upd (upd (lp (pyI gr A B x) y S0).1 x ((lp (pyI gr A B x) y S0).1 x - (lp (pyI gr A B x) y S0).1 x)) y ((lp (pyI gr A B x) y S0).1 y - (lp (pyI gr A B x) y S0).1 x), (lp (pyI gr A B x) y S0).2.1 + (lp (pyI gr A B x) y S0).1 x, (lp (pyI gr A B x) y S0).1 x) := by rw [lp_s, pyI, if_pos ⟨hxy, c_75⟩, em, if_pos (Or.inr ⟨c_161, c_167⟩)]
              refine G_L (by rw [est, nI_1]) (ih (n - (y + 1)) (by omega) (y + 1) _ _ rfl rfl (by omega) (by omega) ?_ ((hs1.w rfl).w rfl))
              rw [est, ← w2_upd, ← w2_upd, hP]
        · refine G_iload_6 (nx := 154) ⟨dX12_payments_152, rfl⟩ ?_
          refine G_iload_2 (nx := 155) ⟨dX12_payments_154, rfl⟩ ?_
          refine G_icmpeq (tgt := 170) (nx := 158) ⟨dX12_payments_155, rfl⟩ rfl (fun c_155 => ?_) (fun c_155 => ?_)
          · refine G_iload_7 (nx := 172) ⟨dX12_payments_170, rfl⟩ ?_
            refine G_goto (tgt := 177) ⟨dX12_payments_172, rfl⟩ rfl ?_
            refine G_istore_4 (nx := 179) ⟨dX12_payments_177, rfl⟩ rfl rfl ?_
            refine G_iinc_6 (nx := 182) ⟨dX12_payments_179, rfl⟩ ci_1 rfl ?_
            refine G_goto (tgt := 54) ⟨dX12_payments_182, rfl⟩ rfl ?_
            rw [bi_n0] at c_75
            have em : pyM (lp (pyI gr A B x) y S0).1 x y = (lp (pyI gr A B x) y S0).1 x := if_neg c_95
            have est : (lp (pyI gr A B x) (y + 1) S0) = (upd (upd (lp (pyI gr A B x) y S0).1 x ((lp (pyI gr A B x) y S0).1 x - (lp (pyI gr A B x) y S0).1 x)) y ((lp (pyI gr A B x) y S0).1 y - (lp (pyI gr A B x) y S0).1 x), (lp (pyI gr A B x) y S0).2.1 + (lp (pyI gr A B x) y S0).1 x, (lp (pyI gr A B x) y S0).1 x) := by rw [lp_s, pyI, if_pos ⟨hxy, c_75⟩, em, if_pos (Or.inl ⟨c_149, c_155⟩)]
            refine G_L (by rw [est, nI_1]) (ih (n - (y + 1)) (by omega) (y + 1) _ _ rfl rfl (by omega) (by omega) ?_ ((hs1.w rfl).w rfl))
            rw [est, ← w2_upd, ← w2_upd, hP]
          · refine G_iload_5 (nx := 160) ⟨dX12_payments_158, rfl⟩ ?_
            refine G_iload_2 (nx := 161) ⟨dX12_payments_160, rfl⟩ ?_
            refine G_icmpne (tgt := 175) (nx := 164) ⟨dX12_payments_161, rfl⟩ rfl (fun c_161 => ?_) (fun c_161 => ?_)
            · refine G_iload_4 (nx := 177) ⟨dX12_payments_175, rfl⟩ ?_
              refine G_istore_4 (nx := 179) ⟨dX12_payments_177, rfl⟩ rfl rfl ?_
              refine G_iinc_6 (nx := 182) ⟨dX12_payments_179, rfl⟩ ci_1 rfl ?_
              refine G_goto (tgt := 54) ⟨dX12_payments_182, rfl⟩ rfl ?_
              rw [bi_n0] at c_75
              have em : pyM (lp (pyI gr A B x) y S0).1 x y = (lp (pyI gr A B x) y S0).1 x := if_neg c_95
              have est : (lp (pyI gr A B x) (y + 1) S0) = (upd (upd (lp (pyI gr A B x) y S0).1 x ((lp (pyI gr A B x) y S0).1 x - (lp (pyI gr A B x) y S0).1 x)) y ((lp (pyI gr A B x) y S0).1 y - (lp (pyI gr A B x) y S0).1 x), (lp (pyI gr A B x) y S0).2.1 + (lp (pyI gr A B x) y S0).1 x, (lp (pyI gr A B x) y S0).2.2) := by rw [lp_s, pyI, if_pos ⟨hxy, c_75⟩, em, if_neg (fun h => h.elim (fun h => c_155 h.2) (fun h => c_161 h.1))]
              refine G_L (by rw [est, nI_1]) (ih (n - (y + 1)) (by omega) (y + 1) _ _ rfl rfl (by omega) (by omega) ?_ ((hs1.w rfl).w rfl))
              rw [est, ← w2_upd, ← w2_upd, hP]
            · refine G_iload_6 (nx := 166) ⟨dX12_payments_164, rfl⟩ ?_
              refine G_iload_1 (nx := 167) ⟨dX12_payments_166, rfl⟩ ?_
              refine G_icmpne (tgt := 175) (nx := 170) ⟨dX12_payments_167, rfl⟩ rfl (fun c_167 => ?_) (fun c_167 => ?_)
              · refine G_iload_4 (nx := 177) ⟨dX12_payments_175, rfl⟩ ?_
                refine G_istore_4 (nx := 179) ⟨dX12_payments_177, rfl⟩ rfl rfl ?_
                refine G_iinc_6 (nx := 182) ⟨dX12_payments_179, rfl⟩ ci_1 rfl ?_
                refine G_goto (tgt := 54) ⟨dX12_payments_182, rfl⟩ rfl ?_
                rw [bi_n0] at c_75
                have em : pyM (lp (pyI gr A B x) y S0).1 x y = (lp (pyI gr A B x) y S0).1 x := if_neg c_95
                have est : (lp (pyI gr A B x) (y + 1) S0) = (upd (upd (lp (pyI gr A B x) y S0).1 x ((lp (pyI gr A B x) y S0).1 x - (lp (pyI gr A B x) y S0).1 x)) y ((lp (pyI gr A B x) y S0).1 y - (lp (pyI gr A B x) y S0).1 x), (lp (pyI gr A B x) y S0).2.1 + (lp (pyI gr A B x) y S0).1 x, (lp (pyI gr A B x) y S0).2.2) := by rw [lp_s, pyI, if_pos ⟨hxy, c_75⟩, em, if_neg (fun h => h.elim (fun h => c_155 h.2) (fun h => c_167 h.2))]
                refine G_L (by rw [est, nI_1]) (ih (n - (y + 1)) (by omega) (y + 1) _ _ rfl rfl (by omega) (by omega) ?_ ((hs1.w rfl).w rfl))
                rw [est, ← w2_upd, ← w2_upd, hP]
              · refine G_iload_7 (nx := 172) ⟨dX12_payments_170, rfl⟩ ?_
                refine G_goto (tgt := 177) ⟨dX12_payments_172, rfl⟩ rfl ?_
                refine G_istore_4 (nx := 179) ⟨dX12_payments_177, rfl⟩ rfl rfl ?_
                refine G_iinc_6 (nx := 182) ⟨dX12_payments_179, rfl⟩ ci_1 rfl ?_
                refine G_goto (tgt := 54) ⟨dX12_payments_182, rfl⟩ rfl ?_
                rw [bi_n0] at c_75
                have em : pyM (lp (pyI gr A B x) y S0).1 x y = (lp (pyI gr A B x) y S0).1 x := if_neg c_95
                have est : (lp (pyI gr A B x) (y + 1) S0) = (upd (upd (lp (pyI gr A B x) y S0).1 x ((lp (pyI gr A B x) y S0).1 x - (lp (pyI gr A B x) y S0).1 x)) y ((lp (pyI gr A B x) y S0).1 y - (lp (pyI gr A B x) y S0).1 x), (lp (pyI gr A B x) y S0).2.1 + (lp (pyI gr A B x) y S0).1 x, (lp (pyI gr A B x) y S0).1 x) := by rw [lp_s, pyI, if_pos ⟨hxy, c_75⟩, em, if_pos (Or.inr ⟨c_161, c_167⟩)]
                refine G_L (by rw [est, nI_1]) (ih (n - (y + 1)) (by omega) (y + 1) _ _ rfl rfl (by omega) (by omega) ?_ ((hs1.w rfl).w rfl))
                rw [est, ← w2_upd, ← w2_upd, hP]
    · refine G_goto (tgt := 179) ⟨dX12_payments_78, rfl⟩ rfl ?_
      refine G_iinc_6 (nx := 182) ⟨dX12_payments_179, rfl⟩ ci_1 rfl ?_
      refine G_goto (tgt := 54) ⟨dX12_payments_182, rfl⟩ rfl ?_
      rw [bi_0] at c_75
      have est : (lp (pyI gr A B x) (y + 1) S0) = (lp (pyI gr A B x) y S0) := by rw [lp_s, pyI, if_neg (fun h => by rw [c_75] at h; cases h.2)]
      exact G_L (by rw [est, nI_1]) (ih (n - (y + 1)) (by omega) (y + 1) I1 _ hx7 rfl (by omega) (by omega) (by rw [est]; exact hP) hs1)

end M51
