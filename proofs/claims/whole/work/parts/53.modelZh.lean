
/-- a node takes in those that stand in it -/
def tq {V : Type} (is : Nat → Int32) (cb : V → V → V) (A : Nat → V) (i c : Nat) (s : V) : V := if i < c ∧ is c = nI i then cb s (A c) else s
def tN {V : Type} (is : Nat → Int32) (cb : V → V → V) (ini : Nat → V) (m : Nat) : Nat → Nat → V
  | 0 => ini
  | k + 1 => fun j => if j = m - 1 - k then lp (tq is cb (tN is cb ini m k) (m - 1 - k)) m (ini (m - 1 - k)) else tN is cb ini m k j
theorem tq_le {V : Type} (is : Nat → Int32) (cb : V → V → V) (A : Nat → V) (i : Nat) : ∀ k, k ≤ i + 1 → ∀ s, lp (tq is cb A i) k s = s := by
  intro k
  induction k with
  | zero => intro _ s; rfl
  | succ k ih =>
    intro hk s
    rw [lp_s, ih (by omega) s, tq, if_neg (by omega)]
abbrev T4 : Type := Int64 × Int64 × Int64 × Int64
def cbC (how : Int32) (s x : T4) : T4 := (s.1 + (if x.2.1 ≤ x.1 then x.2.1 else x.1), s.2.1 + x.1, s.2.2.1 * (if how = 2 ∨ x.1 = x.2.1 then x.2.2.1 + x.2.2.2 else if x.2.1 ≤ x.1 then x.2.2.2 else x.2.2.1), s.2.2.2 * x.2.2.1)
def ctI (how : Int32) (c : Nat → Int32) (i : Nat) : T4 := (if how = 1 then (c i).toInt64 else 1, 0, 1, 1)
def ctR (J : AJ) (c : Nat) (v : T4) : Prop := J 95 c = v.1 ∧ J 96 c = v.2.1 ∧ J 97 c = v.2.2.1 ∧ J 98 c = v.2.2.2
def ciN (I : AI) (m i : Nat) : Int32 := cst (I 89 i) (I 90 i) (nI (ltN (I 91) m i)) (nI i)
def trV (q : Int32) (v : T4) : Int64 := if q = 0 ∨ q = 3 then (if v.2.1 ≤ v.1 then v.2.1 else v.1) else if q = 1 ∨ v.1 = v.2.1 then v.2.2.1 + v.2.2.2 else if v.2.1 ≤ v.1 then v.2.2.2 else v.2.2.1
section M53
variable {l : Launch} {d : Nat} {K : AK} {I : AI} {J : AJ} {g : Bool} {n : Nat} {gr : Nat → Nat}

theorem lM_ct1 {m i : Nat} {how : Int32} {A : Nat → T4} {s0 : T4} (hT0 : MT I m) (hi : i < m) (hgo : ∀ (J' : AJ) (x4 : Value), notL x4 = true → ctR J' i (lp (tq (I 91) (cbC how) A i) m s0) → (∀ c, i < c → c < m → ctR J' c (A c)) → G l (d + 2) mX12_counts K 243 [.ref 75, .int how, .int (nI i), .int (nI m), x4] [] I J' (rX g)) : ∀ (k c : Nat) (J1 : AJ) (x4 : Value), notL x4 = true → m - c = k → i < c → c ≤ m → ctR J1 i (lp (tq (I 91) (cbC how) A i) c s0) → (∀ c, i < c → c < m → ctR J1 c (A c)) → G l (d + 2) mX12_counts K 57 [.ref 75, .int how, .int (nI i), .int (nI c), x4] [] I J1 (rX g) := by
  intro k
  induction k using Nat.strongRecOn with
  | _ k ih =>
  intro c J1 x4 hx4 hck hic hcm hri hrc
  have e26 := hT0.1
  have hm60 := hT0.2
  have eci := cl_nI (p := i) (by omega)
  have ecc := cl_nI (p := c) (by omega)
  have hni : ∀ (f : AJ) (k : Nat) (v : Int64) (a : Nat), w2 f k i v a c = f a c := fun f k v a => w2_ne _ _ _ _ (by omega)
  have hi60 := in60 (p := i) (by omega)
  refine G_iload_3 (nx := 58) ⟨dX12_counts_57, rfl⟩ ?_
  refine G_aload_0 (nx := 59) ⟨dX12_counts_58, rfl⟩ ?_
  refine G_geti (nx := 62) (k := 75) ⟨dX12_counts_59, rfl⟩ fX12_165 q_75 yi_12_26 ?_
  rw [e26]
  refine G_icmpge (tgt := 243) (nx := 65) ⟨dX12_counts_62, rfl⟩ rfl (fun c_62 => ?_) (fun c_62 => ?_)
  · rw [nI_le_iff (by omega) (by omega)] at c_62
    have e : c = m := by omega
    subst e
    exact hgo J1 x4 hx4 hri hrc
  · rw [nI_le_iff (by omega) (by omega)] at c_62
    have hcl : c < m := by omega
    have hc60 := in60 (p := c) (by omega)
    refine G_aload_0 (nx := 66) ⟨dX12_counts_65, rfl⟩ ?_
    refine G_getr (nx := 69) (k := 75) (r := 91) ⟨dX12_counts_66, rfl⟩ fX12_59 q_75 yr_12_29 (r_75_29 _) ?_
    refine G_iload_3 (nx := 70) ⟨dX12_counts_69, rfl⟩ ?_
    refine G_iald (nx := 71) (k := 91) ⟨dX12_counts_70, rfl⟩ q_91 (by first | assumption | decide | (unfold vp_in; decide)) ?_
    rw [ecc]
    refine G_iload_2 (nx := 72) ⟨dX12_counts_71, rfl⟩ ?_
    refine G_icmpeq (tgt := 78) (nx := 75) ⟨dX12_counts_72, rfl⟩ rfl (fun c_72 => ?_) (fun c_72 => ?_)
    · refine G_iload_1 (nx := 79) ⟨dX12_counts_78, rfl⟩ ?_
      refine G_iconst (nx := 80) ⟨dX12_counts_79, rfl⟩ ci_2 ?_
      refine G_icmpeq (tgt := 99) (nx := 83) ⟨dX12_counts_80, rfl⟩ rfl (fun c_80 => ?_) (fun c_80 => ?_)
      · refine G_iconst (nx := 100) ⟨dX12_counts_99, rfl⟩ ci_1 ?_
        refine G_goto (tgt := 104) ⟨dX12_counts_100, rfl⟩ rfl ?_
        refine G_istore_4 (nx := 106) ⟨dX12_counts_104, rfl⟩ rfl rfl ?_
        refine G_aload_0 (nx := 107) ⟨dX12_counts_106, rfl⟩ ?_
        refine G_getr (nx := 110) (k := 75) (r := 97) ⟨dX12_counts_107, rfl⟩ fX12_78 q_75 yr_12_36 (r_75_36 _) ?_
        refine G_iload_2 (nx := 111) ⟨dX12_counts_110, rfl⟩ ?_
        refine G_dup2 (nx := 112) ⟨dX12_counts_111, rfl⟩ rfl rfl ?_
        refine G_lald (nx := 113) (k := 97) ⟨dX12_counts_112, rfl⟩ q_97 (by first | assumption | decide | (unfold vp_in; decide)) ?_
        refine G_iload_4 (nx := 115) ⟨dX12_counts_113, rfl⟩ ?_
        refine G_ifeq (tgt := 134) (nx := 118) ⟨dX12_counts_115, rfl⟩ rfl (fun c_115 => ?_) (fun c_115 => ?_)
        · exact absurd c_115 (by decide)
        · refine G_aload_0 (nx := 119) ⟨dX12_counts_118, rfl⟩ ?_
          refine G_getr (nx := 122) (k := 75) (r := 97) ⟨dX12_counts_119, rfl⟩ fX12_78 q_75 yr_12_36 (r_75_36 _) ?_
          refine G_iload_3 (nx := 123) ⟨dX12_counts_122, rfl⟩ ?_
          refine G_lald (nx := 124) (k := 97) ⟨dX12_counts_123, rfl⟩ q_97 (by first | assumption | decide | (unfold vp_in; decide)) ?_
          refine G_aload_0 (nx := 125) ⟨dX12_counts_124, rfl⟩ ?_
          refine G_getr (nx := 128) (k := 75) (r := 98) ⟨dX12_counts_125, rfl⟩ fX12_81 q_75 yr_12_37 (r_75_37 _) ?_
          refine G_iload_3 (nx := 129) ⟨dX12_counts_128, rfl⟩ ?_
          refine G_lald (nx := 130) (k := 98) ⟨dX12_counts_129, rfl⟩ q_98 (by first | assumption | decide | (unfold vp_in; decide)) ?_
          refine G_ladd (nx := 131) ⟨dX12_counts_130, rfl⟩ ?_
          refine G_goto (tgt := 165) ⟨dX12_counts_131, rfl⟩ rfl ?_
          refine G_lmul (nx := 166) ⟨dX12_counts_165, rfl⟩ ?_
          refine G_last (nx := 167) (k := 97) ⟨dX12_counts_166, rfl⟩ q_97 (by first | assumption | decide | (unfold vp_in; decide)) ?_
          refine G_aload_0 (nx := 168) ⟨dX12_counts_167, rfl⟩ ?_
          refine G_getr (nx := 171) (k := 75) (r := 95) ⟨dX12_counts_168, rfl⟩ fX12_71 q_75 yr_12_34 (r_75_34 _) ?_
          refine G_iload_2 (nx := 172) ⟨dX12_counts_171, rfl⟩ ?_
          refine G_dup2 (nx := 173) ⟨dX12_counts_172, rfl⟩ rfl rfl ?_
          refine G_lald (nx := 174) (k := 95) ⟨dX12_counts_173, rfl⟩ q_95 (by first | assumption | decide | (unfold vp_in; decide)) ?_
          refine G_aload_0 (nx := 175) ⟨dX12_counts_174, rfl⟩ ?_
          refine G_getr (nx := 178) (k := 75) (r := 95) ⟨dX12_counts_175, rfl⟩ fX12_71 q_75 yr_12_34 (r_75_34 _) ?_
          refine G_iload_3 (nx := 179) ⟨dX12_counts_178, rfl⟩ ?_
          refine G_lald (nx := 180) (k := 95) ⟨dX12_counts_179, rfl⟩ q_95 (by first | assumption | decide | (unfold vp_in; decide)) ?_
          refine G_aload_0 (nx := 181) ⟨dX12_counts_180, rfl⟩ ?_
          refine G_getr (nx := 184) (k := 75) (r := 96) ⟨dX12_counts_181, rfl⟩ fX12_75 q_75 yr_12_35 (r_75_35 _) ?_
          refine G_iload_3 (nx := 185) ⟨dX12_counts_184, rfl⟩ ?_
          refine G_lald (nx := 186) (k := 96) ⟨dX12_counts_185, rfl⟩ q_96 (by first | assumption | decide | (unfold vp_in; decide)) ?_
          refine G_lcmp (nx := 187) ⟨dX12_counts_186, rfl⟩ ?_
          simp only [eci, ecc, hni, w2_at, w2_row _ _ _ _ (show ¬ 95 = 96 by decide), w2_row _ _ _ _ (show ¬ 95 = 97 by decide), w2_row _ _ _ _ (show ¬ 95 = 98 by decide), w2_row _ _ _ _ (show ¬ 96 = 95 by decide), w2_row _ _ _ _ (show ¬ 96 = 97 by decide), w2_row _ _ _ _ (show ¬ 96 = 98 by decide), w2_row _ _ _ _ (show ¬ 97 = 95 by decide), w2_row _ _ _ _ (show ¬ 97 = 96 by decide), w2_row _ _ _ _ (show ¬ 97 = 98 by decide), w2_row _ _ _ _ (show ¬ 98 = 95 by decide), w2_row _ _ _ _ (show ¬ 98 = 96 by decide), w2_row _ _ _ _ (show ¬ 98 = 97 by decide)]
          refine G_ifge (tgt := 199) (nx := 190) ⟨dX12_counts_187, rfl⟩ rfl (fun c_187 => ?_) (fun c_187 => ?_)
          · refine G_aload_0 (nx := 200) ⟨dX12_counts_199, rfl⟩ ?_
            refine G_getr (nx := 203) (k := 75) (r := 96) ⟨dX12_counts_200, rfl⟩ fX12_75 q_75 yr_12_35 (r_75_35 _) ?_
            refine G_iload_3 (nx := 204) ⟨dX12_counts_203, rfl⟩ ?_
            refine G_lald (nx := 205) (k := 96) ⟨dX12_counts_204, rfl⟩ q_96 (by first | assumption | decide | (unfold vp_in; decide)) ?_
            refine G_ladd (nx := 206) ⟨dX12_counts_205, rfl⟩ ?_
            refine G_last (nx := 207) (k := 95) ⟨dX12_counts_206, rfl⟩ q_95 (by first | assumption | decide | (unfold vp_in; decide)) ?_
            refine G_aload_0 (nx := 208) ⟨dX12_counts_207, rfl⟩ ?_
            refine G_getr (nx := 211) (k := 75) (r := 96) ⟨dX12_counts_208, rfl⟩ fX12_75 q_75 yr_12_35 (r_75_35 _) ?_
            refine G_iload_2 (nx := 212) ⟨dX12_counts_211, rfl⟩ ?_
            refine G_dup2 (nx := 213) ⟨dX12_counts_212, rfl⟩ rfl rfl ?_
            refine G_lald (nx := 214) (k := 96) ⟨dX12_counts_213, rfl⟩ q_96 (by first | assumption | decide | (unfold vp_in; decide)) ?_
            refine G_aload_0 (nx := 215) ⟨dX12_counts_214, rfl⟩ ?_
            refine G_getr (nx := 218) (k := 75) (r := 95) ⟨dX12_counts_215, rfl⟩ fX12_71 q_75 yr_12_34 (r_75_34 _) ?_
            refine G_iload_3 (nx := 219) ⟨dX12_counts_218, rfl⟩ ?_
            refine G_lald (nx := 220) (k := 95) ⟨dX12_counts_219, rfl⟩ q_95 (by first | assumption | decide | (unfold vp_in; decide)) ?_
            refine G_ladd (nx := 221) ⟨dX12_counts_220, rfl⟩ ?_
            refine G_last (nx := 222) (k := 96) ⟨dX12_counts_221, rfl⟩ q_96 (by first | assumption | decide | (unfold vp_in; decide)) ?_
            refine G_aload_0 (nx := 223) ⟨dX12_counts_222, rfl⟩ ?_
            refine G_getr (nx := 226) (k := 75) (r := 98) ⟨dX12_counts_223, rfl⟩ fX12_81 q_75 yr_12_37 (r_75_37 _) ?_
            refine G_iload_2 (nx := 227) ⟨dX12_counts_226, rfl⟩ ?_
            refine G_dup2 (nx := 228) ⟨dX12_counts_227, rfl⟩ rfl rfl ?_
            refine G_lald (nx := 229) (k := 98) ⟨dX12_counts_228, rfl⟩ q_98 (by first | assumption | decide | (unfold vp_in; decide)) ?_
            refine G_aload_0 (nx := 230) ⟨dX12_counts_229, rfl⟩ ?_
            refine G_getr (nx := 233) (k := 75) (r := 97) ⟨dX12_counts_230, rfl⟩ fX12_78 q_75 yr_12_36 (r_75_36 _) ?_
            refine G_iload_3 (nx := 234) ⟨dX12_counts_233, rfl⟩ ?_
            refine G_lald (nx := 235) (k := 97) ⟨dX12_counts_234, rfl⟩ q_97 (by first | assumption | decide | (unfold vp_in; decide)) ?_
            refine G_lmul (nx := 236) ⟨dX12_counts_235, rfl⟩ ?_
            refine G_last (nx := 237) (k := 98) ⟨dX12_counts_236, rfl⟩ q_98 (by first | assumption | decide | (unfold vp_in; decide)) ?_
            refine G_iinc_3 (nx := 240) ⟨dX12_counts_237, rfl⟩ ci_1 rfl ?_
            refine G_goto (tgt := 57) ⟨dX12_counts_240, rfl⟩ rfl ?_
            obtain ⟨h1, h2, h3, h4⟩ := hri
            obtain ⟨g1, g2, g3, g4⟩ := hrc c hic (by omega)
            rw [lg_cmp_ge, g1, g2] at c_187
            have est : lp (tq (I 91) (cbC how) A i) (c + 1) s0 = cbC how (lp (tq (I 91) (cbC how) A i) c s0) (A c) := by rw [lp_s, tq, if_pos ⟨hic, c_72⟩]
            refine G_L (by rw [nI_1]) (ih (m - (c + 1)) (by omega) (c + 1) _ _ rfl rfl (by omega) (by omega) ?_ (fun x hx hxm => ?_))
            · rw [est]
              generalize lp (tq (I 91) (cbC how) A i) c s0 = s at h1 h2 h3 h4 ⊢
              unfold cbC ctR
              refine ⟨?_, ?_, ?_, ?_⟩
              · dsimp only
                rw [if_pos c_187]
                simp only [eci, ecc, hni, w2_at, w2_row _ _ _ _ (show ¬ 95 = 96 by decide), w2_row _ _ _ _ (show ¬ 95 = 97 by decide), w2_row _ _ _ _ (show ¬ 95 = 98 by decide), w2_row _ _ _ _ (show ¬ 96 = 95 by decide), w2_row _ _ _ _ (show ¬ 96 = 97 by decide), w2_row _ _ _ _ (show ¬ 96 = 98 by decide), w2_row _ _ _ _ (show ¬ 97 = 95 by decide), w2_row _ _ _ _ (show ¬ 97 = 96 by decide), w2_row _ _ _ _ (show ¬ 97 = 98 by decide), w2_row _ _ _ _ (show ¬ 98 = 95 by decide), w2_row _ _ _ _ (show ¬ 98 = 96 by decide), w2_row _ _ _ _ (show ¬ 98 = 97 by decide)]
                simp only [h1, h2, h3, h4, g1, g2, g3, g4]
              · simp only [eci, ecc, hni, w2_at, w2_row _ _ _ _ (show ¬ 95 = 96 by decide), w2_row _ _ _ _ (show ¬ 95 = 97 by decide), w2_row _ _ _ _ (show ¬ 95 = 98 by decide), w2_row _ _ _ _ (show ¬ 96 = 95 by decide), w2_row _ _ _ _ (show ¬ 96 = 97 by decide), w2_row _ _ _ _ (show ¬ 96 = 98 by decide), w2_row _ _ _ _ (show ¬ 97 = 95 by decide), w2_row _ _ _ _ (show ¬ 97 = 96 by decide), w2_row _ _ _ _ (show ¬ 97 = 98 by decide), w2_row _ _ _ _ (show ¬ 98 = 95 by decide), w2_row _ _ _ _ (show ¬ 98 = 96 by decide), w2_row _ _ _ _ (show ¬ 98 = 97 by decide)]
                simp only [h1, h2, h3, h4, g1, g2, g3, g4]
              · dsimp only
                rw [if_pos (Or.inl c_80)]
                simp only [eci, ecc, hni, w2_at, w2_row _ _ _ _ (show ¬ 95 = 96 by decide), w2_row _ _ _ _ (show ¬ 95 = 97 by decide), w2_row _ _ _ _ (show ¬ 95 = 98 by decide), w2_row _ _ _ _ (show ¬ 96 = 95 by decide), w2_row _ _ _ _ (show ¬ 96 = 97 by decide), w2_row _ _ _ _ (show ¬ 96 = 98 by decide), w2_row _ _ _ _ (show ¬ 97 = 95 by decide), w2_row _ _ _ _ (show ¬ 97 = 96 by decide), w2_row _ _ _ _ (show ¬ 97 = 98 by decide), w2_row _ _ _ _ (show ¬ 98 = 95 by decide), w2_row _ _ _ _ (show ¬ 98 = 96 by decide), w2_row _ _ _ _ (show ¬ 98 = 97 by decide)]
                simp only [h1, h2, h3, h4, g1, g2, g3, g4]
              · simp only [eci, ecc, hni, w2_at, w2_row _ _ _ _ (show ¬ 95 = 96 by decide), w2_row _ _ _ _ (show ¬ 95 = 97 by decide), w2_row _ _ _ _ (show ¬ 95 = 98 by decide), w2_row _ _ _ _ (show ¬ 96 = 95 by decide), w2_row _ _ _ _ (show ¬ 96 = 97 by decide), w2_row _ _ _ _ (show ¬ 96 = 98 by decide), w2_row _ _ _ _ (show ¬ 97 = 95 by decide), w2_row _ _ _ _ (show ¬ 97 = 96 by decide), w2_row _ _ _ _ (show ¬ 97 = 98 by decide), w2_row _ _ _ _ (show ¬ 98 = 95 by decide), w2_row _ _ _ _ (show ¬ 98 = 96 by decide), w2_row _ _ _ _ (show ¬ 98 = 97 by decide)]
                simp only [h1, h2, h3, h4, g1, g2, g3, g4]
            · have hnx : ∀ (f : AJ) (k : Nat) (v : Int64) (a : Nat), w2 f k i v a x = f a x := fun f k v a => w2_ne _ _ _ _ (by omega)
              unfold ctR
              simp only [eci, hnx]
              exact hrc x hx hxm
          · refine G_aload_0 (nx := 191) ⟨dX12_counts_190, rfl⟩ ?_
            refine G_getr (nx := 194) (k := 75) (r := 95) ⟨dX12_counts_191, rfl⟩ fX12_71 q_75 yr_12_34 (r_75_34 _) ?_
            refine G_iload_3 (nx := 195) ⟨dX12_counts_194, rfl⟩ ?_
            refine G_lald (nx := 196) (k := 95) ⟨dX12_counts_195, rfl⟩ q_95 (by first | assumption | decide | (unfold vp_in; decide)) ?_
            refine G_goto (tgt := 205) ⟨dX12_counts_196, rfl⟩ rfl ?_
            refine G_ladd (nx := 206) ⟨dX12_counts_205, rfl⟩ ?_
            refine G_last (nx := 207) (k := 95) ⟨dX12_counts_206, rfl⟩ q_95 (by first | assumption | decide | (unfold vp_in; decide)) ?_
            refine G_aload_0 (nx := 208) ⟨dX12_counts_207, rfl⟩ ?_
            refine G_getr (nx := 211) (k := 75) (r := 96) ⟨dX12_counts_208, rfl⟩ fX12_75 q_75 yr_12_35 (r_75_35 _) ?_
            refine G_iload_2 (nx := 212) ⟨dX12_counts_211, rfl⟩ ?_
            refine G_dup2 (nx := 213) ⟨dX12_counts_212, rfl⟩ rfl rfl ?_
            refine G_lald (nx := 214) (k := 96) ⟨dX12_counts_213, rfl⟩ q_96 (by first | assumption | decide | (unfold vp_in; decide)) ?_
            refine G_aload_0 (nx := 215) ⟨dX12_counts_214, rfl⟩ ?_
            refine G_getr (nx := 218) (k := 75) (r := 95) ⟨dX12_counts_215, rfl⟩ fX12_71 q_75 yr_12_34 (r_75_34 _) ?_
            refine G_iload_3 (nx := 219) ⟨dX12_counts_218, rfl⟩ ?_
            refine G_lald (nx := 220) (k := 95) ⟨dX12_counts_219, rfl⟩ q_95 (by first | assumption | decide | (unfold vp_in; decide)) ?_
            refine G_ladd (nx := 221) ⟨dX12_counts_220, rfl⟩ ?_
            refine G_last (nx := 222) (k := 96) ⟨dX12_counts_221, rfl⟩ q_96 (by first | assumption | decide | (unfold vp_in; decide)) ?_
            refine G_aload_0 (nx := 223) ⟨dX12_counts_222, rfl⟩ ?_
            refine G_getr (nx := 226) (k := 75) (r := 98) ⟨dX12_counts_223, rfl⟩ fX12_81 q_75 yr_12_37 (r_75_37 _) ?_
            refine G_iload_2 (nx := 227) ⟨dX12_counts_226, rfl⟩ ?_
            refine G_dup2 (nx := 228) ⟨dX12_counts_227, rfl⟩ rfl rfl ?_
            refine G_lald (nx := 229) (k := 98) ⟨dX12_counts_228, rfl⟩ q_98 (by first | assumption | decide | (unfold vp_in; decide)) ?_
            refine G_aload_0 (nx := 230) ⟨dX12_counts_229, rfl⟩ ?_
            refine G_getr (nx := 233) (k := 75) (r := 97) ⟨dX12_counts_230, rfl⟩ fX12_78 q_75 yr_12_36 (r_75_36 _) ?_
            refine G_iload_3 (nx := 234) ⟨dX12_counts_233, rfl⟩ ?_
            refine G_lald (nx := 235) (k := 97) ⟨dX12_counts_234, rfl⟩ q_97 (by first | assumption | decide | (unfold vp_in; decide)) ?_
            refine G_lmul (nx := 236) ⟨dX12_counts_235, rfl⟩ ?_
            refine G_last (nx := 237) (k := 98) ⟨dX12_counts_236, rfl⟩ q_98 (by first | assumption | decide | (unfold vp_in; decide)) ?_
            refine G_iinc_3 (nx := 240) ⟨dX12_counts_237, rfl⟩ ci_1 rfl ?_
            refine G_goto (tgt := 57) ⟨dX12_counts_240, rfl⟩ rfl ?_
            obtain ⟨h1, h2, h3, h4⟩ := hri
            obtain ⟨g1, g2, g3, g4⟩ := hrc c hic (by omega)
            rw [lg_cmp_ge, g1, g2] at c_187
            have est : lp (tq (I 91) (cbC how) A i) (c + 1) s0 = cbC how (lp (tq (I 91) (cbC how) A i) c s0) (A c) := by rw [lp_s, tq, if_pos ⟨hic, c_72⟩]
            refine G_L (by rw [nI_1]) (ih (m - (c + 1)) (by omega) (c + 1) _ _ rfl rfl (by omega) (by omega) ?_ (fun x hx hxm => ?_))
            · rw [est]
              generalize lp (tq (I 91) (cbC how) A i) c s0 = s at h1 h2 h3 h4 ⊢
              unfold cbC ctR
              refine ⟨?_, ?_, ?_, ?_⟩
              · dsimp only
                rw [if_neg c_187]
                simp only [eci, ecc, hni, w2_at, w2_row _ _ _ _ (show ¬ 95 = 96 by decide), w2_row _ _ _ _ (show ¬ 95 = 97 by decide), w2_row _ _ _ _ (show ¬ 95 = 98 by decide), w2_row _ _ _ _ (show ¬ 96 = 95 by decide), w2_row _ _ _ _ (show ¬ 96 = 97 by decide), w2_row _ _ _ _ (show ¬ 96 = 98 by decide), w2_row _ _ _ _ (show ¬ 97 = 95 by decide), w2_row _ _ _ _ (show ¬ 97 = 96 by decide), w2_row _ _ _ _ (show ¬ 97 = 98 by decide), w2_row _ _ _ _ (show ¬ 98 = 95 by decide), w2_row _ _ _ _ (show ¬ 98 = 96 by decide), w2_row _ _ _ _ (show ¬ 98 = 97 by decide)]
                simp only [h1, h2, h3, h4, g1, g2, g3, g4]
              · simp only [eci, ecc, hni, w2_at, w2_row _ _ _ _ (show ¬ 95 = 96 by decide), w2_row _ _ _ _ (show ¬ 95 = 97 by decide), w2_row _ _ _ _ (show ¬ 95 = 98 by decide), w2_row _ _ _ _ (show ¬ 96 = 95 by decide), w2_row _ _ _ _ (show ¬ 96 = 97 by decide), w2_row _ _ _ _ (show ¬ 96 = 98 by decide), w2_row _ _ _ _ (show ¬ 97 = 95 by decide), w2_row _ _ _ _ (show ¬ 97 = 96 by decide), w2_row _ _ _ _ (show ¬ 97 = 98 by decide), w2_row _ _ _ _ (show ¬ 98 = 95 by decide), w2_row _ _ _ _ (show ¬ 98 = 96 by decide), w2_row _ _ _ _ (show ¬ 98 = 97 by decide)]
                simp only [h1, h2, h3, h4, g1, g2, g3, g4]
              · dsimp only
                rw [if_pos (Or.inl c_80)]
                simp only [eci, ecc, hni, w2_at, w2_row _ _ _ _ (show ¬ 95 = 96 by decide), w2_row _ _ _ _ (show ¬ 95 = 97 by decide), w2_row _ _ _ _ (show ¬ 95 = 98 by decide), w2_row _ _ _ _ (show ¬ 96 = 95 by decide), w2_row _ _ _ _ (show ¬ 96 = 97 by decide), w2_row _ _ _ _ (show ¬ 96 = 98 by decide), w2_row _ _ _ _ (show ¬ 97 = 95 by decide), w2_row _ _ _ _ (show ¬ 97 = 96 by decide), w2_row _ _ _ _ (show ¬ 97 = 98 by decide), w2_row _ _ _ _ (show ¬ 98 = 95 by decide), w2_row _ _ _ _ (show ¬ 98 = 96 by decide), w2_row _ _ _ _ (show ¬ 98 = 97 by decide)]
                simp only [h1, h2, h3, h4, g1, g2, g3, g4]
              · simp only [eci, ecc, hni, w2_at, w2_row _ _ _ _ (show ¬ 95 = 96 by decide), w2_row _ _ _ _ (show ¬ 95 = 97 by decide), w2_row _ _ _ _ (show ¬ 95 = 98 by decide), w2_row _ _ _ _ (show ¬ 96 = 95 by decide), w2_row _ _ _ _ (show ¬ 96 = 97 by decide), w2_row _ _ _ _ (show ¬ 96 = 98 by decide), w2_row _ _ _ _ (show ¬ 97 = 95 by decide), w2_row _ _ _ _ (show ¬ 97 = 96 by decide), w2_row _ _ _ _ (show ¬ 97 = 98 by decide), w2_row _ _ _ _ (show ¬ 98 = 95 by decide), w2_row _ _ _ _ (show ¬ 98 = 96 by decide), w2_row _ _ _ _ (show ¬ 98 = 97 by decide)]
                simp only [h1, h2, h3, h4, g1, g2, g3, g4]
            · have hnx : ∀ (f : AJ) (k : Nat) (v : Int64) (a : Nat), w2 f k i v a x = f a x := fun f k v a => w2_ne _ _ _ _ (by omega)
              unfold ctR
              simp only [eci, hnx]
              exact hrc x hx hxm
      · refine G_aload_0 (nx := 84) ⟨dX12_counts_83, rfl⟩ ?_
        refine G_getr (nx := 87) (k := 75) (r := 95) ⟨dX12_counts_84, rfl⟩ fX12_71 q_75 yr_12_34 (r_75_34 _) ?_
        refine G_iload_3 (nx := 88) ⟨dX12_counts_87, rfl⟩ ?_
        refine G_lald (nx := 89) (k := 95) ⟨dX12_counts_88, rfl⟩ q_95 (by first | assumption | decide | (unfold vp_in; decide)) ?_
        refine G_aload_0 (nx := 90) ⟨dX12_counts_89, rfl⟩ ?_
        refine G_getr (nx := 93) (k := 75) (r := 96) ⟨dX12_counts_90, rfl⟩ fX12_75 q_75 yr_12_35 (r_75_35 _) ?_
        refine G_iload_3 (nx := 94) ⟨dX12_counts_93, rfl⟩ ?_
        refine G_lald (nx := 95) (k := 96) ⟨dX12_counts_94, rfl⟩ q_96 (by first | assumption | decide | (unfold vp_in; decide)) ?_
        refine G_lcmp (nx := 96) ⟨dX12_counts_95, rfl⟩ ?_
        rw [ecc]
        refine G_ifne (tgt := 103) (nx := 99) ⟨dX12_counts_96, rfl⟩ rfl (fun c_96 => ?_) (fun c_96 => ?_)
        · refine G_iconst (nx := 104) ⟨dX12_counts_103, rfl⟩ ci_0 ?_
          refine G_istore_4 (nx := 106) ⟨dX12_counts_104, rfl⟩ rfl rfl ?_
          refine G_aload_0 (nx := 107) ⟨dX12_counts_106, rfl⟩ ?_
          refine G_getr (nx := 110) (k := 75) (r := 97) ⟨dX12_counts_107, rfl⟩ fX12_78 q_75 yr_12_36 (r_75_36 _) ?_
          refine G_iload_2 (nx := 111) ⟨dX12_counts_110, rfl⟩ ?_
          refine G_dup2 (nx := 112) ⟨dX12_counts_111, rfl⟩ rfl rfl ?_
          refine G_lald (nx := 113) (k := 97) ⟨dX12_counts_112, rfl⟩ q_97 (by first | assumption | decide | (unfold vp_in; decide)) ?_
          refine G_iload_4 (nx := 115) ⟨dX12_counts_113, rfl⟩ ?_
          refine G_ifeq (tgt := 134) (nx := 118) ⟨dX12_counts_115, rfl⟩ rfl (fun c_115 => ?_) (fun c_115 => ?_)
          · refine G_aload_0 (nx := 135) ⟨dX12_counts_134, rfl⟩ ?_
            refine G_getr (nx := 138) (k := 75) (r := 95) ⟨dX12_counts_135, rfl⟩ fX12_71 q_75 yr_12_34 (r_75_34 _) ?_
            refine G_iload_3 (nx := 139) ⟨dX12_counts_138, rfl⟩ ?_
            refine G_lald (nx := 140) (k := 95) ⟨dX12_counts_139, rfl⟩ q_95 (by first | assumption | decide | (unfold vp_in; decide)) ?_
            refine G_aload_0 (nx := 141) ⟨dX12_counts_140, rfl⟩ ?_
            refine G_getr (nx := 144) (k := 75) (r := 96) ⟨dX12_counts_141, rfl⟩ fX12_75 q_75 yr_12_35 (r_75_35 _) ?_
            refine G_iload_3 (nx := 145) ⟨dX12_counts_144, rfl⟩ ?_
            refine G_lald (nx := 146) (k := 96) ⟨dX12_counts_145, rfl⟩ q_96 (by first | assumption | decide | (unfold vp_in; decide)) ?_
            refine G_lcmp (nx := 147) ⟨dX12_counts_146, rfl⟩ ?_
            rw [ecc]
            refine G_ifge (tgt := 159) (nx := 150) ⟨dX12_counts_147, rfl⟩ rfl (fun c_147 => ?_) (fun c_147 => ?_)
            · refine G_aload_0 (nx := 160) ⟨dX12_counts_159, rfl⟩ ?_
              refine G_getr (nx := 163) (k := 75) (r := 98) ⟨dX12_counts_160, rfl⟩ fX12_81 q_75 yr_12_37 (r_75_37 _) ?_
              refine G_iload_3 (nx := 164) ⟨dX12_counts_163, rfl⟩ ?_
              refine G_lald (nx := 165) (k := 98) ⟨dX12_counts_164, rfl⟩ q_98 (by first | assumption | decide | (unfold vp_in; decide)) ?_
              refine G_lmul (nx := 166) ⟨dX12_counts_165, rfl⟩ ?_
              refine G_last (nx := 167) (k := 97) ⟨dX12_counts_166, rfl⟩ q_97 (by first | assumption | decide | (unfold vp_in; decide)) ?_
              refine G_aload_0 (nx := 168) ⟨dX12_counts_167, rfl⟩ ?_
              refine G_getr (nx := 171) (k := 75) (r := 95) ⟨dX12_counts_168, rfl⟩ fX12_71 q_75 yr_12_34 (r_75_34 _) ?_
              refine G_iload_2 (nx := 172) ⟨dX12_counts_171, rfl⟩ ?_
              refine G_dup2 (nx := 173) ⟨dX12_counts_172, rfl⟩ rfl rfl ?_
              refine G_lald (nx := 174) (k := 95) ⟨dX12_counts_173, rfl⟩ q_95 (by first | assumption | decide | (unfold vp_in; decide)) ?_
              refine G_aload_0 (nx := 175) ⟨dX12_counts_174, rfl⟩ ?_
              refine G_getr (nx := 178) (k := 75) (r := 95) ⟨dX12_counts_175, rfl⟩ fX12_71 q_75 yr_12_34 (r_75_34 _) ?_
              refine G_iload_3 (nx := 179) ⟨dX12_counts_178, rfl⟩ ?_
              refine G_lald (nx := 180) (k := 95) ⟨dX12_counts_179, rfl⟩ q_95 (by first | assumption | decide | (unfold vp_in; decide)) ?_
              refine G_aload_0 (nx := 181) ⟨dX12_counts_180, rfl⟩ ?_
              refine G_getr (nx := 184) (k := 75) (r := 96) ⟨dX12_counts_181, rfl⟩ fX12_75 q_75 yr_12_35 (r_75_35 _) ?_
              refine G_iload_3 (nx := 185) ⟨dX12_counts_184, rfl⟩ ?_
              refine G_lald (nx := 186) (k := 96) ⟨dX12_counts_185, rfl⟩ q_96 (by first | assumption | decide | (unfold vp_in; decide)) ?_
              refine G_lcmp (nx := 187) ⟨dX12_counts_186, rfl⟩ ?_
              simp only [eci, ecc, hni, w2_at, w2_row _ _ _ _ (show ¬ 95 = 96 by decide), w2_row _ _ _ _ (show ¬ 95 = 97 by decide), w2_row _ _ _ _ (show ¬ 95 = 98 by decide), w2_row _ _ _ _ (show ¬ 96 = 95 by decide), w2_row _ _ _ _ (show ¬ 96 = 97 by decide), w2_row _ _ _ _ (show ¬ 96 = 98 by decide), w2_row _ _ _ _ (show ¬ 97 = 95 by decide), w2_row _ _ _ _ (show ¬ 97 = 96 by decide), w2_row _ _ _ _ (show ¬ 97 = 98 by decide), w2_row _ _ _ _ (show ¬ 98 = 95 by decide), w2_row _ _ _ _ (show ¬ 98 = 96 by decide), w2_row _ _ _ _ (show ¬ 98 = 97 by decide)]
              refine G_ifge (tgt := 199) (nx := 190) ⟨dX12_counts_187, rfl⟩ rfl (fun c_187 => ?_) (fun c_187 => ?_)
              · refine G_aload_0 (nx := 200) ⟨dX12_counts_199, rfl⟩ ?_
                refine G_getr (nx := 203) (k := 75) (r := 96) ⟨dX12_counts_200, rfl⟩ fX12_75 q_75 yr_12_35 (r_75_35 _) ?_
                refine G_iload_3 (nx := 204) ⟨dX12_counts_203, rfl⟩ ?_
                refine G_lald (nx := 205) (k := 96) ⟨dX12_counts_204, rfl⟩ q_96 (by first | assumption | decide | (unfold vp_in; decide)) ?_
                refine G_ladd (nx := 206) ⟨dX12_counts_205, rfl⟩ ?_
                refine G_last (nx := 207) (k := 95) ⟨dX12_counts_206, rfl⟩ q_95 (by first | assumption | decide | (unfold vp_in; decide)) ?_
                refine G_aload_0 (nx := 208) ⟨dX12_counts_207, rfl⟩ ?_
                refine G_getr (nx := 211) (k := 75) (r := 96) ⟨dX12_counts_208, rfl⟩ fX12_75 q_75 yr_12_35 (r_75_35 _) ?_
                refine G_iload_2 (nx := 212) ⟨dX12_counts_211, rfl⟩ ?_
                refine G_dup2 (nx := 213) ⟨dX12_counts_212, rfl⟩ rfl rfl ?_
                refine G_lald (nx := 214) (k := 96) ⟨dX12_counts_213, rfl⟩ q_96 (by first | assumption | decide | (unfold vp_in; decide)) ?_
                refine G_aload_0 (nx := 215) ⟨dX12_counts_214, rfl⟩ ?_
                refine G_getr (nx := 218) (k := 75) (r := 95) ⟨dX12_counts_215, rfl⟩ fX12_71 q_75 yr_12_34 (r_75_34 _) ?_
                refine G_iload_3 (nx := 219) ⟨dX12_counts_218, rfl⟩ ?_
                refine G_lald (nx := 220) (k := 95) ⟨dX12_counts_219, rfl⟩ q_95 (by first | assumption | decide | (unfold vp_in; decide)) ?_
                refine G_ladd (nx := 221) ⟨dX12_counts_220, rfl⟩ ?_
                refine G_last (nx := 222) (k := 96) ⟨dX12_counts_221, rfl⟩ q_96 (by first | assumption | decide | (unfold vp_in; decide)) ?_
                refine G_aload_0 (nx := 223) ⟨dX12_counts_222, rfl⟩ ?_
                refine G_getr (nx := 226) (k := 75) (r := 98) ⟨dX12_counts_223, rfl⟩ fX12_81 q_75 yr_12_37 (r_75_37 _) ?_
                refine G_iload_2 (nx := 227) ⟨dX12_counts_226, rfl⟩ ?_
                refine G_dup2 (nx := 228) ⟨dX12_counts_227, rfl⟩ rfl rfl ?_
                refine G_lald (nx := 229) (k := 98) ⟨dX12_counts_228, rfl⟩ q_98 (by first | assumption | decide | (unfold vp_in; decide)) ?_
                refine G_aload_0 (nx := 230) ⟨dX12_counts_229, rfl⟩ ?_
                refine G_getr (nx := 233) (k := 75) (r := 97) ⟨dX12_counts_230, rfl⟩ fX12_78 q_75 yr_12_36 (r_75_36 _) ?_
                refine G_iload_3 (nx := 234) ⟨dX12_counts_233, rfl⟩ ?_
                refine G_lald (nx := 235) (k := 97) ⟨dX12_counts_234, rfl⟩ q_97 (by first | assumption | decide | (unfold vp_in; decide)) ?_
                refine G_lmul (nx := 236) ⟨dX12_counts_235, rfl⟩ ?_
                refine G_last (nx := 237) (k := 98) ⟨dX12_counts_236, rfl⟩ q_98 (by first | assumption | decide | (unfold vp_in; decide)) ?_
                refine G_iinc_3 (nx := 240) ⟨dX12_counts_237, rfl⟩ ci_1 rfl ?_
                refine G_goto (tgt := 57) ⟨dX12_counts_240, rfl⟩ rfl ?_
                obtain ⟨h1, h2, h3, h4⟩ := hri
                obtain ⟨g1, g2, g3, g4⟩ := hrc c hic (by omega)
                rw [lg_cmp_eq, g1, g2] at c_96
                rw [lg_cmp_ge, g1, g2] at c_147
                rw [lg_cmp_ge, g1, g2] at c_187
                have est : lp (tq (I 91) (cbC how) A i) (c + 1) s0 = cbC how (lp (tq (I 91) (cbC how) A i) c s0) (A c) := by rw [lp_s, tq, if_pos ⟨hic, c_72⟩]
                refine G_L (by rw [nI_1]) (ih (m - (c + 1)) (by omega) (c + 1) _ _ rfl rfl (by omega) (by omega) ?_ (fun x hx hxm => ?_))
                · rw [est]
                  generalize lp (tq (I 91) (cbC how) A i) c s0 = s at h1 h2 h3 h4 ⊢
                  unfold cbC ctR
                  refine ⟨?_, ?_, ?_, ?_⟩
                  · dsimp only
                    rw [if_pos c_187]
                    simp only [eci, ecc, hni, w2_at, w2_row _ _ _ _ (show ¬ 95 = 96 by decide), w2_row _ _ _ _ (show ¬ 95 = 97 by decide), w2_row _ _ _ _ (show ¬ 95 = 98 by decide), w2_row _ _ _ _ (show ¬ 96 = 95 by decide), w2_row _ _ _ _ (show ¬ 96 = 97 by decide), w2_row _ _ _ _ (show ¬ 96 = 98 by decide), w2_row _ _ _ _ (show ¬ 97 = 95 by decide), w2_row _ _ _ _ (show ¬ 97 = 96 by decide), w2_row _ _ _ _ (show ¬ 97 = 98 by decide), w2_row _ _ _ _ (show ¬ 98 = 95 by decide), w2_row _ _ _ _ (show ¬ 98 = 96 by decide), w2_row _ _ _ _ (show ¬ 98 = 97 by decide)]
                    simp only [h1, h2, h3, h4, g1, g2, g3, g4]
                  · simp only [eci, ecc, hni, w2_at, w2_row _ _ _ _ (show ¬ 95 = 96 by decide), w2_row _ _ _ _ (show ¬ 95 = 97 by decide), w2_row _ _ _ _ (show ¬ 95 = 98 by decide), w2_row _ _ _ _ (show ¬ 96 = 95 by decide), w2_row _ _ _ _ (show ¬ 96 = 97 by decide), w2_row _ _ _ _ (show ¬ 96 = 98 by decide), w2_row _ _ _ _ (show ¬ 97 = 95 by decide), w2_row _ _ _ _ (show ¬ 97 = 96 by decide), w2_row _ _ _ _ (show ¬ 97 = 98 by decide), w2_row _ _ _ _ (show ¬ 98 = 95 by decide), w2_row _ _ _ _ (show ¬ 98 = 96 by decide), w2_row _ _ _ _ (show ¬ 98 = 97 by decide)]
                    simp only [h1, h2, h3, h4, g1, g2, g3, g4]
                  · dsimp only
                    rw [if_neg (fun h => h.elim c_80 c_96), if_pos c_147]
                    simp only [eci, ecc, hni, w2_at, w2_row _ _ _ _ (show ¬ 95 = 96 by decide), w2_row _ _ _ _ (show ¬ 95 = 97 by decide), w2_row _ _ _ _ (show ¬ 95 = 98 by decide), w2_row _ _ _ _ (show ¬ 96 = 95 by decide), w2_row _ _ _ _ (show ¬ 96 = 97 by decide), w2_row _ _ _ _ (show ¬ 96 = 98 by decide), w2_row _ _ _ _ (show ¬ 97 = 95 by decide), w2_row _ _ _ _ (show ¬ 97 = 96 by decide), w2_row _ _ _ _ (show ¬ 97 = 98 by decide), w2_row _ _ _ _ (show ¬ 98 = 95 by decide), w2_row _ _ _ _ (show ¬ 98 = 96 by decide), w2_row _ _ _ _ (show ¬ 98 = 97 by decide)]
                    simp only [h1, h2, h3, h4, g1, g2, g3, g4]
                  · simp only [eci, ecc, hni, w2_at, w2_row _ _ _ _ (show ¬ 95 = 96 by decide), w2_row _ _ _ _ (show ¬ 95 = 97 by decide), w2_row _ _ _ _ (show ¬ 95 = 98 by decide), w2_row _ _ _ _ (show ¬ 96 = 95 by decide), w2_row _ _ _ _ (show ¬ 96 = 97 by decide), w2_row _ _ _ _ (show ¬ 96 = 98 by decide), w2_row _ _ _ _ (show ¬ 97 = 95 by decide), w2_row _ _ _ _ (show ¬ 97 = 96 by decide), w2_row _ _ _ _ (show ¬ 97 = 98 by decide), w2_row _ _ _ _ (show ¬ 98 = 95 by decide), w2_row _ _ _ _ (show ¬ 98 = 96 by decide), w2_row _ _ _ _ (show ¬ 98 = 97 by decide)]
                    simp only [h1, h2, h3, h4, g1, g2, g3, g4]
                · have hnx : ∀ (f : AJ) (k : Nat) (v : Int64) (a : Nat), w2 f k i v a x = f a x := fun f k v a => w2_ne _ _ _ _ (by omega)
                  unfold ctR
                  simp only [eci, hnx]
                  exact hrc x hx hxm
              · refine G_aload_0 (nx := 191) ⟨dX12_counts_190, rfl⟩ ?_
                refine G_getr (nx := 194) (k := 75) (r := 95) ⟨dX12_counts_191, rfl⟩ fX12_71 q_75 yr_12_34 (r_75_34 _) ?_
                refine G_iload_3 (nx := 195) ⟨dX12_counts_194, rfl⟩ ?_
                refine G_lald (nx := 196) (k := 95) ⟨dX12_counts_195, rfl⟩ q_95 (by first | assumption | decide | (unfold vp_in; decide)) ?_
                refine G_goto (tgt := 205) ⟨dX12_counts_196, rfl⟩ rfl ?_
                refine G_ladd (nx := 206) ⟨dX12_counts_205, rfl⟩ ?_
                refine G_last (nx := 207) (k := 95) ⟨dX12_counts_206, rfl⟩ q_95 (by first | assumption | decide | (unfold vp_in; decide)) ?_
                refine G_aload_0 (nx := 208) ⟨dX12_counts_207, rfl⟩ ?_
                refine G_getr (nx := 211) (k := 75) (r := 96) ⟨dX12_counts_208, rfl⟩ fX12_75 q_75 yr_12_35 (r_75_35 _) ?_
                refine G_iload_2 (nx := 212) ⟨dX12_counts_211, rfl⟩ ?_
                refine G_dup2 (nx := 213) ⟨dX12_counts_212, rfl⟩ rfl rfl ?_
                refine G_lald (nx := 214) (k := 96) ⟨dX12_counts_213, rfl⟩ q_96 (by first | assumption | decide | (unfold vp_in; decide)) ?_
                refine G_aload_0 (nx := 215) ⟨dX12_counts_214, rfl⟩ ?_
                refine G_getr (nx := 218) (k := 75) (r := 95) ⟨dX12_counts_215, rfl⟩ fX12_71 q_75 yr_12_34 (r_75_34 _) ?_
                refine G_iload_3 (nx := 219) ⟨dX12_counts_218, rfl⟩ ?_
                refine G_lald (nx := 220) (k := 95) ⟨dX12_counts_219, rfl⟩ q_95 (by first | assumption | decide | (unfold vp_in; decide)) ?_
                refine G_ladd (nx := 221) ⟨dX12_counts_220, rfl⟩ ?_
                refine G_last (nx := 222) (k := 96) ⟨dX12_counts_221, rfl⟩ q_96 (by first | assumption | decide | (unfold vp_in; decide)) ?_
                refine G_aload_0 (nx := 223) ⟨dX12_counts_222, rfl⟩ ?_
                refine G_getr (nx := 226) (k := 75) (r := 98) ⟨dX12_counts_223, rfl⟩ fX12_81 q_75 yr_12_37 (r_75_37 _) ?_
                refine G_iload_2 (nx := 227) ⟨dX12_counts_226, rfl⟩ ?_
                refine G_dup2 (nx := 228) ⟨dX12_counts_227, rfl⟩ rfl rfl ?_
                refine G_lald (nx := 229) (k := 98) ⟨dX12_counts_228, rfl⟩ q_98 (by first | assumption | decide | (unfold vp_in; decide)) ?_
                refine G_aload_0 (nx := 230) ⟨dX12_counts_229, rfl⟩ ?_
                refine G_getr (nx := 233) (k := 75) (r := 97) ⟨dX12_counts_230, rfl⟩ fX12_78 q_75 yr_12_36 (r_75_36 _) ?_
                refine G_iload_3 (nx := 234) ⟨dX12_counts_233, rfl⟩ ?_
                refine G_lald (nx := 235) (k := 97) ⟨dX12_counts_234, rfl⟩ q_97 (by first | assumption | decide | (unfold vp_in; decide)) ?_
                refine G_lmul (nx := 236) ⟨dX12_counts_235, rfl⟩ ?_
                refine G_last (nx := 237) (k := 98) ⟨dX12_counts_236, rfl⟩ q_98 (by first | assumption | decide | (unfold vp_in; decide)) ?_
                refine G_iinc_3 (nx := 240) ⟨dX12_counts_237, rfl⟩ ci_1 rfl ?_
                refine G_goto (tgt := 57) ⟨dX12_counts_240, rfl⟩ rfl ?_
                obtain ⟨h1, h2, h3, h4⟩ := hri
                obtain ⟨g1, g2, g3, g4⟩ := hrc c hic (by omega)
                rw [lg_cmp_eq, g1, g2] at c_96
                rw [lg_cmp_ge, g1, g2] at c_147
                rw [lg_cmp_ge, g1, g2] at c_187
                have est : lp (tq (I 91) (cbC how) A i) (c + 1) s0 = cbC how (lp (tq (I 91) (cbC how) A i) c s0) (A c) := by rw [lp_s, tq, if_pos ⟨hic, c_72⟩]
                refine G_L (by rw [nI_1]) (ih (m - (c + 1)) (by omega) (c + 1) _ _ rfl rfl (by omega) (by omega) ?_ (fun x hx hxm => ?_))
                · rw [est]
                  generalize lp (tq (I 91) (cbC how) A i) c s0 = s at h1 h2 h3 h4 ⊢
                  unfold cbC ctR
                  refine ⟨?_, ?_, ?_, ?_⟩
                  · dsimp only
                    rw [if_neg c_187]
                    simp only [eci, ecc, hni, w2_at, w2_row _ _ _ _ (show ¬ 95 = 96 by decide), w2_row _ _ _ _ (show ¬ 95 = 97 by decide), w2_row _ _ _ _ (show ¬ 95 = 98 by decide), w2_row _ _ _ _ (show ¬ 96 = 95 by decide), w2_row _ _ _ _ (show ¬ 96 = 97 by decide), w2_row _ _ _ _ (show ¬ 96 = 98 by decide), w2_row _ _ _ _ (show ¬ 97 = 95 by decide), w2_row _ _ _ _ (show ¬ 97 = 96 by decide), w2_row _ _ _ _ (show ¬ 97 = 98 by decide), w2_row _ _ _ _ (show ¬ 98 = 95 by decide), w2_row _ _ _ _ (show ¬ 98 = 96 by decide), w2_row _ _ _ _ (show ¬ 98 = 97 by decide)]
                    simp only [h1, h2, h3, h4, g1, g2, g3, g4]
                  · simp only [eci, ecc, hni, w2_at, w2_row _ _ _ _ (show ¬ 95 = 96 by decide), w2_row _ _ _ _ (show ¬ 95 = 97 by decide), w2_row _ _ _ _ (show ¬ 95 = 98 by decide), w2_row _ _ _ _ (show ¬ 96 = 95 by decide), w2_row _ _ _ _ (show ¬ 96 = 97 by decide), w2_row _ _ _ _ (show ¬ 96 = 98 by decide), w2_row _ _ _ _ (show ¬ 97 = 95 by decide), w2_row _ _ _ _ (show ¬ 97 = 96 by decide), w2_row _ _ _ _ (show ¬ 97 = 98 by decide), w2_row _ _ _ _ (show ¬ 98 = 95 by decide), w2_row _ _ _ _ (show ¬ 98 = 96 by decide), w2_row _ _ _ _ (show ¬ 98 = 97 by decide)]
                    simp only [h1, h2, h3, h4, g1, g2, g3, g4]
                  · dsimp only
                    rw [if_neg (fun h => h.elim c_80 c_96), if_pos c_147]
                    simp only [eci, ecc, hni, w2_at, w2_row _ _ _ _ (show ¬ 95 = 96 by decide), w2_row _ _ _ _ (show ¬ 95 = 97 by decide), w2_row _ _ _ _ (show ¬ 95 = 98 by decide), w2_row _ _ _ _ (show ¬ 96 = 95 by decide), w2_row _ _ _ _ (show ¬ 96 = 97 by decide), w2_row _ _ _ _ (show ¬ 96 = 98 by decide), w2_row _ _ _ _ (show ¬ 97 = 95 by decide), w2_row _ _ _ _ (show ¬ 97 = 96 by decide), w2_row _ _ _ _ (show ¬ 97 = 98 by decide), w2_row _ _ _ _ (show ¬ 98 = 95 by decide), w2_row _ _ _ _ (show ¬ 98 = 96 by decide), w2_row _ _ _ _ (show ¬ 98 = 97 by decide)]
                    simp only [h1, h2, h3, h4, g1, g2, g3, g4]
                  · simp only [eci, ecc, hni, w2_at, w2_row _ _ _ _ (show ¬ 95 = 96 by decide), w2_row _ _ _ _ (show ¬ 95 = 97 by decide), w2_row _ _ _ _ (show ¬ 95 = 98 by decide), w2_row _ _ _ _ (show ¬ 96 = 95 by decide), w2_row _ _ _ _ (show ¬ 96 = 97 by decide), w2_row _ _ _ _ (show ¬ 96 = 98 by decide), w2_row _ _ _ _ (show ¬ 97 = 95 by decide), w2_row _ _ _ _ (show ¬ 97 = 96 by decide), w2_row _ _ _ _ (show ¬ 97 = 98 by decide), w2_row _ _ _ _ (show ¬ 98 = 95 by decide), w2_row _ _ _ _ (show ¬ 98 = 96 by decide), w2_row _ _ _ _ (show ¬ 98 = 97 by decide)]
                    simp only [h1, h2, h3, h4, g1, g2, g3, g4]
                · have hnx : ∀ (f : AJ) (k : Nat) (v : Int64) (a : Nat), w2 f k i v a x = f a x := fun f k v a => w2_ne _ _ _ _ (by omega)
                  unfold ctR
                  simp only [eci, hnx]
                  exact hrc x hx hxm
            · refine G_aload_0 (nx := 151) ⟨dX12_counts_150, rfl⟩ ?_
              refine G_getr (nx := 154) (k := 75) (r := 97) ⟨dX12_counts_151, rfl⟩ fX12_78 q_75 yr_12_36 (r_75_36 _) ?_
              refine G_iload_3 (nx := 155) ⟨dX12_counts_154, rfl⟩ ?_
              refine G_lald (nx := 156) (k := 97) ⟨dX12_counts_155, rfl⟩ q_97 (by first | assumption | decide | (unfold vp_in; decide)) ?_
              refine G_goto (tgt := 165) ⟨dX12_counts_156, rfl⟩ rfl ?_
              refine G_lmul (nx := 166) ⟨dX12_counts_165, rfl⟩ ?_
              refine G_last (nx := 167) (k := 97) ⟨dX12_counts_166, rfl⟩ q_97 (by first | assumption | decide | (unfold vp_in; decide)) ?_
              refine G_aload_0 (nx := 168) ⟨dX12_counts_167, rfl⟩ ?_
              refine G_getr (nx := 171) (k := 75) (r := 95) ⟨dX12_counts_168, rfl⟩ fX12_71 q_75 yr_12_34 (r_75_34 _) ?_
              refine G_iload_2 (nx := 172) ⟨dX12_counts_171, rfl⟩ ?_
              refine G_dup2 (nx := 173) ⟨dX12_counts_172, rfl⟩ rfl rfl ?_
              refine G_lald (nx := 174) (k := 95) ⟨dX12_counts_173, rfl⟩ q_95 (by first | assumption | decide | (unfold vp_in; decide)) ?_
              refine G_aload_0 (nx := 175) ⟨dX12_counts_174, rfl⟩ ?_
              refine G_getr (nx := 178) (k := 75) (r := 95) ⟨dX12_counts_175, rfl⟩ fX12_71 q_75 yr_12_34 (r_75_34 _) ?_
              refine G_iload_3 (nx := 179) ⟨dX12_counts_178, rfl⟩ ?_
              refine G_lald (nx := 180) (k := 95) ⟨dX12_counts_179, rfl⟩ q_95 (by first | assumption | decide | (unfold vp_in; decide)) ?_
              refine G_aload_0 (nx := 181) ⟨dX12_counts_180, rfl⟩ ?_
              refine G_getr (nx := 184) (k := 75) (r := 96) ⟨dX12_counts_181, rfl⟩ fX12_75 q_75 yr_12_35 (r_75_35 _) ?_
              refine G_iload_3 (nx := 185) ⟨dX12_counts_184, rfl⟩ ?_
              refine G_lald (nx := 186) (k := 96) ⟨dX12_counts_185, rfl⟩ q_96 (by first | assumption | decide | (unfold vp_in; decide)) ?_
              refine G_lcmp (nx := 187) ⟨dX12_counts_186, rfl⟩ ?_
              simp only [eci, ecc, hni, w2_at, w2_row _ _ _ _ (show ¬ 95 = 96 by decide), w2_row _ _ _ _ (show ¬ 95 = 97 by decide), w2_row _ _ _ _ (show ¬ 95 = 98 by decide), w2_row _ _ _ _ (show ¬ 96 = 95 by decide), w2_row _ _ _ _ (show ¬ 96 = 97 by decide), w2_row _ _ _ _ (show ¬ 96 = 98 by decide), w2_row _ _ _ _ (show ¬ 97 = 95 by decide), w2_row _ _ _ _ (show ¬ 97 = 96 by decide), w2_row _ _ _ _ (show ¬ 97 = 98 by decide), w2_row _ _ _ _ (show ¬ 98 = 95 by decide), w2_row _ _ _ _ (show ¬ 98 = 96 by decide), w2_row _ _ _ _ (show ¬ 98 = 97 by decide)]
              refine G_ifge (tgt := 199) (nx := 190) ⟨dX12_counts_187, rfl⟩ rfl (fun c_187 => ?_) (fun c_187 => ?_)
              · refine G_aload_0 (nx := 200) ⟨dX12_counts_199, rfl⟩ ?_
                refine G_getr (nx := 203) (k := 75) (r := 96) ⟨dX12_counts_200, rfl⟩ fX12_75 q_75 yr_12_35 (r_75_35 _) ?_
                refine G_iload_3 (nx := 204) ⟨dX12_counts_203, rfl⟩ ?_
                refine G_lald (nx := 205) (k := 96) ⟨dX12_counts_204, rfl⟩ q_96 (by first | assumption | decide | (unfold vp_in; decide)) ?_
                refine G_ladd (nx := 206) ⟨dX12_counts_205, rfl⟩ ?_
                refine G_last (nx := 207) (k := 95) ⟨dX12_counts_206, rfl⟩ q_95 (by first | assumption | decide | (unfold vp_in; decide)) ?_
                refine G_aload_0 (nx := 208) ⟨dX12_counts_207, rfl⟩ ?_
                refine G_getr (nx := 211) (k := 75) (r := 96) ⟨dX12_counts_208, rfl⟩ fX12_75 q_75 yr_12_35 (r_75_35 _) ?_
                refine G_iload_2 (nx := 212) ⟨dX12_counts_211, rfl⟩ ?_
                refine G_dup2 (nx := 213) ⟨dX12_counts_212, rfl⟩ rfl rfl ?_
                refine G_lald (nx := 214) (k := 96) ⟨dX12_counts_213, rfl⟩ q_96 (by first | assumption | decide | (unfold vp_in; decide)) ?_
                refine G_aload_0 (nx := 215) ⟨dX12_counts_214, rfl⟩ ?_
                refine G_getr (nx := 218) (k := 75) (r := 95) ⟨dX12_counts_215, rfl⟩ fX12_71 q_75 yr_12_34 (r_75_34 _) ?_
                refine G_iload_3 (nx := 219) ⟨dX12_counts_218, rfl⟩ ?_
                refine G_lald (nx := 220) (k := 95) ⟨dX12_counts_219, rfl⟩ q_95 (by first | assumption | decide | (unfold vp_in; decide)) ?_
                refine G_ladd (nx := 221) ⟨dX12_counts_220, rfl⟩ ?_
                refine G_last (nx := 222) (k := 96) ⟨dX12_counts_221, rfl⟩ q_96 (by first | assumption | decide | (unfold vp_in; decide)) ?_
                refine G_aload_0 (nx := 223) ⟨dX12_counts_222, rfl⟩ ?_
                refine G_getr (nx := 226) (k := 75) (r := 98) ⟨dX12_counts_223, rfl⟩ fX12_81 q_75 yr_12_37 (r_75_37 _) ?_
                refine G_iload_2 (nx := 227) ⟨dX12_counts_226, rfl⟩ ?_
                refine G_dup2 (nx := 228) ⟨dX12_counts_227, rfl⟩ rfl rfl ?_
                refine G_lald (nx := 229) (k := 98) ⟨dX12_counts_228, rfl⟩ q_98 (by first | assumption | decide | (unfold vp_in; decide)) ?_
                refine G_aload_0 (nx := 230) ⟨dX12_counts_229, rfl⟩ ?_
                refine G_getr (nx := 233) (k := 75) (r := 97) ⟨dX12_counts_230, rfl⟩ fX12_78 q_75 yr_12_36 (r_75_36 _) ?_
                refine G_iload_3 (nx := 234) ⟨dX12_counts_233, rfl⟩ ?_
                refine G_lald (nx := 235) (k := 97) ⟨dX12_counts_234, rfl⟩ q_97 (by first | assumption | decide | (unfold vp_in; decide)) ?_
                refine G_lmul (nx := 236) ⟨dX12_counts_235, rfl⟩ ?_
                refine G_last (nx := 237) (k := 98) ⟨dX12_counts_236, rfl⟩ q_98 (by first | assumption | decide | (unfold vp_in; decide)) ?_
                refine G_iinc_3 (nx := 240) ⟨dX12_counts_237, rfl⟩ ci_1 rfl ?_
                refine G_goto (tgt := 57) ⟨dX12_counts_240, rfl⟩ rfl ?_
                obtain ⟨h1, h2, h3, h4⟩ := hri
                obtain ⟨g1, g2, g3, g4⟩ := hrc c hic (by omega)
                rw [lg_cmp_eq, g1, g2] at c_96
                rw [lg_cmp_ge, g1, g2] at c_147
                rw [lg_cmp_ge, g1, g2] at c_187
                have est : lp (tq (I 91) (cbC how) A i) (c + 1) s0 = cbC how (lp (tq (I 91) (cbC how) A i) c s0) (A c) := by rw [lp_s, tq, if_pos ⟨hic, c_72⟩]
                refine G_L (by rw [nI_1]) (ih (m - (c + 1)) (by omega) (c + 1) _ _ rfl rfl (by omega) (by omega) ?_ (fun x hx hxm => ?_))
                · rw [est]
                  generalize lp (tq (I 91) (cbC how) A i) c s0 = s at h1 h2 h3 h4 ⊢
                  unfold cbC ctR
                  refine ⟨?_, ?_, ?_, ?_⟩
                  · dsimp only
                    rw [if_pos c_187]
                    simp only [eci, ecc, hni, w2_at, w2_row _ _ _ _ (show ¬ 95 = 96 by decide), w2_row _ _ _ _ (show ¬ 95 = 97 by decide), w2_row _ _ _ _ (show ¬ 95 = 98 by decide), w2_row _ _ _ _ (show ¬ 96 = 95 by decide), w2_row _ _ _ _ (show ¬ 96 = 97 by decide), w2_row _ _ _ _ (show ¬ 96 = 98 by decide), w2_row _ _ _ _ (show ¬ 97 = 95 by decide), w2_row _ _ _ _ (show ¬ 97 = 96 by decide), w2_row _ _ _ _ (show ¬ 97 = 98 by decide), w2_row _ _ _ _ (show ¬ 98 = 95 by decide), w2_row _ _ _ _ (show ¬ 98 = 96 by decide), w2_row _ _ _ _ (show ¬ 98 = 97 by decide)]
                    simp only [h1, h2, h3, h4, g1, g2, g3, g4]
                  · simp only [eci, ecc, hni, w2_at, w2_row _ _ _ _ (show ¬ 95 = 96 by decide), w2_row _ _ _ _ (show ¬ 95 = 97 by decide), w2_row _ _ _ _ (show ¬ 95 = 98 by decide), w2_row _ _ _ _ (show ¬ 96 = 95 by decide), w2_row _ _ _ _ (show ¬ 96 = 97 by decide), w2_row _ _ _ _ (show ¬ 96 = 98 by decide), w2_row _ _ _ _ (show ¬ 97 = 95 by decide), w2_row _ _ _ _ (show ¬ 97 = 96 by decide), w2_row _ _ _ _ (show ¬ 97 = 98 by decide), w2_row _ _ _ _ (show ¬ 98 = 95 by decide), w2_row _ _ _ _ (show ¬ 98 = 96 by decide), w2_row _ _ _ _ (show ¬ 98 = 97 by decide)]
                    simp only [h1, h2, h3, h4, g1, g2, g3, g4]
                  · dsimp only
                    rw [if_neg (fun h => h.elim c_80 c_96), if_neg c_147]
                    simp only [eci, ecc, hni, w2_at, w2_row _ _ _ _ (show ¬ 95 = 96 by decide), w2_row _ _ _ _ (show ¬ 95 = 97 by decide), w2_row _ _ _ _ (show ¬ 95 = 98 by decide), w2_row _ _ _ _ (show ¬ 96 = 95 by decide), w2_row _ _ _ _ (show ¬ 96 = 97 by decide), w2_row _ _ _ _ (show ¬ 96 = 98 by decide), w2_row _ _ _ _ (show ¬ 97 = 95 by decide), w2_row _ _ _ _ (show ¬ 97 = 96 by decide), w2_row _ _ _ _ (show ¬ 97 = 98 by decide), w2_row _ _ _ _ (show ¬ 98 = 95 by decide), w2_row _ _ _ _ (show ¬ 98 = 96 by decide), w2_row _ _ _ _ (show ¬ 98 = 97 by decide)]
                    simp only [h1, h2, h3, h4, g1, g2, g3, g4]
                  · simp only [eci, ecc, hni, w2_at, w2_row _ _ _ _ (show ¬ 95 = 96 by decide), w2_row _ _ _ _ (show ¬ 95 = 97 by decide), w2_row _ _ _ _ (show ¬ 95 = 98 by decide), w2_row _ _ _ _ (show ¬ 96 = 95 by decide), w2_row _ _ _ _ (show ¬ 96 = 97 by decide), w2_row _ _ _ _ (show ¬ 96 = 98 by decide), w2_row _ _ _ _ (show ¬ 97 = 95 by decide), w2_row _ _ _ _ (show ¬ 97 = 96 by decide), w2_row _ _ _ _ (show ¬ 97 = 98 by decide), w2_row _ _ _ _ (show ¬ 98 = 95 by decide), w2_row _ _ _ _ (show ¬ 98 = 96 by decide), w2_row _ _ _ _ (show ¬ 98 = 97 by decide)]
                    simp only [h1, h2, h3, h4, g1, g2, g3, g4]
                · have hnx : ∀ (f : AJ) (k : Nat) (v : Int64) (a : Nat), w2 f k i v a x = f a x := fun f k v a => w2_ne _ _ _ _ (by omega)
                  unfold ctR
                  simp only [eci, hnx]
                  exact hrc x hx hxm
              · refine G_aload_0 (nx := 191) ⟨dX12_counts_190, rfl⟩ ?_
                refine G_getr (nx := 194) (k := 75) (r := 95) ⟨dX12_counts_191, rfl⟩ fX12_71 q_75 yr_12_34 (r_75_34 _) ?_
                refine G_iload_3 (nx := 195) ⟨dX12_counts_194, rfl⟩ ?_
                refine G_lald (nx := 196) (k := 95) ⟨dX12_counts_195, rfl⟩ q_95 (by first | assumption | decide | (unfold vp_in; decide)) ?_
                refine G_goto (tgt := 205) ⟨dX12_counts_196, rfl⟩ rfl ?_
                refine G_ladd (nx := 206) ⟨dX12_counts_205, rfl⟩ ?_
                refine G_last (nx := 207) (k := 95) ⟨dX12_counts_206, rfl⟩ q_95 (by first | assumption | decide | (unfold vp_in; decide)) ?_
                refine G_aload_0 (nx := 208) ⟨dX12_counts_207, rfl⟩ ?_
                refine G_getr (nx := 211) (k := 75) (r := 96) ⟨dX12_counts_208, rfl⟩ fX12_75 q_75 yr_12_35 (r_75_35 _) ?_
                refine G_iload_2 (nx := 212) ⟨dX12_counts_211, rfl⟩ ?_
                refine G_dup2 (nx := 213) ⟨dX12_counts_212, rfl⟩ rfl rfl ?_
                refine G_lald (nx := 214) (k := 96) ⟨dX12_counts_213, rfl⟩ q_96 (by first | assumption | decide | (unfold vp_in; decide)) ?_
                refine G_aload_0 (nx := 215) ⟨dX12_counts_214, rfl⟩ ?_
                refine G_getr (nx := 218) (k := 75) (r := 95) ⟨dX12_counts_215, rfl⟩ fX12_71 q_75 yr_12_34 (r_75_34 _) ?_
                refine G_iload_3 (nx := 219) ⟨dX12_counts_218, rfl⟩ ?_
                refine G_lald (nx := 220) (k := 95) ⟨dX12_counts_219, rfl⟩ q_95 (by first | assumption | decide | (unfold vp_in; decide)) ?_
                refine G_ladd (nx := 221) ⟨dX12_counts_220, rfl⟩ ?_
                refine G_last (nx := 222) (k := 96) ⟨dX12_counts_221, rfl⟩ q_96 (by first | assumption | decide | (unfold vp_in; decide)) ?_
                refine G_aload_0 (nx := 223) ⟨dX12_counts_222, rfl⟩ ?_
                refine G_getr (nx := 226) (k := 75) (r := 98) ⟨dX12_counts_223, rfl⟩ fX12_81 q_75 yr_12_37 (r_75_37 _) ?_
                refine G_iload_2 (nx := 227) ⟨dX12_counts_226, rfl⟩ ?_
                refine G_dup2 (nx := 228) ⟨dX12_counts_227, rfl⟩ rfl rfl ?_
                refine G_lald (nx := 229) (k := 98) ⟨dX12_counts_228, rfl⟩ q_98 (by first | assumption | decide | (unfold vp_in; decide)) ?_
                refine G_aload_0 (nx := 230) ⟨dX12_counts_229, rfl⟩ ?_
                refine G_getr (nx := 233) (k := 75) (r := 97) ⟨dX12_counts_230, rfl⟩ fX12_78 q_75 yr_12_36 (r_75_36 _) ?_
                refine G_iload_3 (nx := 234) ⟨dX12_counts_233, rfl⟩ ?_
                refine G_lald (nx := 235) (k := 97) ⟨dX12_counts_234, rfl⟩ q_97 (by first | assumption | decide | (unfold vp_in; decide)) ?_
                refine G_lmul (nx := 236) ⟨dX12_counts_235, rfl⟩ ?_
                refine G_last (nx := 237) (k := 98) ⟨dX12_counts_236, rfl⟩ q_98 (by first | assumption | decide | (unfold vp_in; decide)) ?_
                refine G_iinc_3 (nx := 240) ⟨dX12_counts_237, rfl⟩ ci_1 rfl ?_
                refine G_goto (tgt := 57) ⟨dX12_counts_240, rfl⟩ rfl ?_
                obtain ⟨h1, h2, h3, h4⟩ := hri
                obtain ⟨g1, g2, g3, g4⟩ := hrc c hic (by omega)
                rw [lg_cmp_eq, g1, g2] at c_96
                rw [lg_cmp_ge, g1, g2] at c_147
                rw [lg_cmp_ge, g1, g2] at c_187
                have est : lp (tq (I 91) (cbC how) A i) (c + 1) s0 = cbC how (lp (tq (I 91) (cbC how) A i) c s0) (A c) := by rw [lp_s, tq, if_pos ⟨hic, c_72⟩]
                refine G_L (by rw [nI_1]) (ih (m - (c + 1)) (by omega) (c + 1) _ _ rfl rfl (by omega) (by omega) ?_ (fun x hx hxm => ?_))
                · rw [est]
                  generalize lp (tq (I 91) (cbC how) A i) c s0 = s at h1 h2 h3 h4 ⊢
                  unfold cbC ctR
                  refine ⟨?_, ?_, ?_, ?_⟩
                  · dsimp only
                    rw [if_neg c_187]
                    simp only [eci, ecc, hni, w2_at, w2_row _ _ _ _ (show ¬ 95 = 96 by decide), w2_row _ _ _ _ (show ¬ 95 = 97 by decide), w2_row _ _ _ _ (show ¬ 95 = 98 by decide), w2_row _ _ _ _ (show ¬ 96 = 95 by decide), w2_row _ _ _ _ (show ¬ 96 = 97 by decide), w2_row _ _ _ _ (show ¬ 96 = 98 by decide), w2_row _ _ _ _ (show ¬ 97 = 95 by decide), w2_row _ _ _ _ (show ¬ 97 = 96 by decide), w2_row _ _ _ _ (show ¬ 97 = 98 by decide), w2_row _ _ _ _ (show ¬ 98 = 95 by decide), w2_row _ _ _ _ (show ¬ 98 = 96 by decide), w2_row _ _ _ _ (show ¬ 98 = 97 by decide)]
                    simp only [h1, h2, h3, h4, g1, g2, g3, g4]
                  · simp only [eci, ecc, hni, w2_at, w2_row _ _ _ _ (show ¬ 95 = 96 by decide), w2_row _ _ _ _ (show ¬ 95 = 97 by decide), w2_row _ _ _ _ (show ¬ 95 = 98 by decide), w2_row _ _ _ _ (show ¬ 96 = 95 by decide), w2_row _ _ _ _ (show ¬ 96 = 97 by decide), w2_row _ _ _ _ (show ¬ 96 = 98 by decide), w2_row _ _ _ _ (show ¬ 97 = 95 by decide), w2_row _ _ _ _ (show ¬ 97 = 96 by decide), w2_row _ _ _ _ (show ¬ 97 = 98 by decide), w2_row _ _ _ _ (show ¬ 98 = 95 by decide), w2_row _ _ _ _ (show ¬ 98 = 96 by decide), w2_row _ _ _ _ (show ¬ 98 = 97 by decide)]
                    simp only [h1, h2, h3, h4, g1, g2, g3, g4]
                  · dsimp only
                    rw [if_neg (fun h => h.elim c_80 c_96), if_neg c_147]
                    simp only [eci, ecc, hni, w2_at, w2_row _ _ _ _ (show ¬ 95 = 96 by decide), w2_row _ _ _ _ (show ¬ 95 = 97 by decide), w2_row _ _ _ _ (show ¬ 95 = 98 by decide), w2_row _ _ _ _ (show ¬ 96 = 95 by decide), w2_row _ _ _ _ (show ¬ 96 = 97 by decide), w2_row _ _ _ _ (show ¬ 96 = 98 by decide), w2_row _ _ _ _ (show ¬ 97 = 95 by decide), w2_row _ _ _ _ (show ¬ 97 = 96 by decide), w2_row _ _ _ _ (show ¬ 97 = 98 by decide), w2_row _ _ _ _ (show ¬ 98 = 95 by decide), w2_row _ _ _ _ (show ¬ 98 = 96 by decide), w2_row _ _ _ _ (show ¬ 98 = 97 by decide)]
                    simp only [h1, h2, h3, h4, g1, g2, g3, g4]
                  · simp only [eci, ecc, hni, w2_at, w2_row _ _ _ _ (show ¬ 95 = 96 by decide), w2_row _ _ _ _ (show ¬ 95 = 97 by decide), w2_row _ _ _ _ (show ¬ 95 = 98 by decide), w2_row _ _ _ _ (show ¬ 96 = 95 by decide), w2_row _ _ _ _ (show ¬ 96 = 97 by decide), w2_row _ _ _ _ (show ¬ 96 = 98 by decide), w2_row _ _ _ _ (show ¬ 97 = 95 by decide), w2_row _ _ _ _ (show ¬ 97 = 96 by decide), w2_row _ _ _ _ (show ¬ 97 = 98 by decide), w2_row _ _ _ _ (show ¬ 98 = 95 by decide), w2_row _ _ _ _ (show ¬ 98 = 96 by decide), w2_row _ _ _ _ (show ¬ 98 = 97 by decide)]
                    simp only [h1, h2, h3, h4, g1, g2, g3, g4]
                · have hnx : ∀ (f : AJ) (k : Nat) (v : Int64) (a : Nat), w2 f k i v a x = f a x := fun f k v a => w2_ne _ _ _ _ (by omega)
                  unfold ctR
                  simp only [eci, hnx]
                  exact hrc x hx hxm
          · exact absurd rfl c_115
        · refine G_iconst (nx := 100) ⟨dX12_counts_99, rfl⟩ ci_1 ?_
          refine G_goto (tgt := 104) ⟨dX12_counts_100, rfl⟩ rfl ?_
          refine G_istore_4 (nx := 106) ⟨dX12_counts_104, rfl⟩ rfl rfl ?_
          refine G_aload_0 (nx := 107) ⟨dX12_counts_106, rfl⟩ ?_
          refine G_getr (nx := 110) (k := 75) (r := 97) ⟨dX12_counts_107, rfl⟩ fX12_78 q_75 yr_12_36 (r_75_36 _) ?_
          refine G_iload_2 (nx := 111) ⟨dX12_counts_110, rfl⟩ ?_
          refine G_dup2 (nx := 112) ⟨dX12_counts_111, rfl⟩ rfl rfl ?_
          refine G_lald (nx := 113) (k := 97) ⟨dX12_counts_112, rfl⟩ q_97 (by first | assumption | decide | (unfold vp_in; decide)) ?_
          refine G_iload_4 (nx := 115) ⟨dX12_counts_113, rfl⟩ ?_
          refine G_ifeq (tgt := 134) (nx := 118) ⟨dX12_counts_115, rfl⟩ rfl (fun c_115 => ?_) (fun c_115 => ?_)
          · exact absurd c_115 (by decide)
          · refine G_aload_0 (nx := 119) ⟨dX12_counts_118, rfl⟩ ?_
            refine G_getr (nx := 122) (k := 75) (r := 97) ⟨dX12_counts_119, rfl⟩ fX12_78 q_75 yr_12_36 (r_75_36 _) ?_
            refine G_iload_3 (nx := 123) ⟨dX12_counts_122, rfl⟩ ?_
            refine G_lald (nx := 124) (k := 97) ⟨dX12_counts_123, rfl⟩ q_97 (by first | assumption | decide | (unfold vp_in; decide)) ?_
            refine G_aload_0 (nx := 125) ⟨dX12_counts_124, rfl⟩ ?_
            refine G_getr (nx := 128) (k := 75) (r := 98) ⟨dX12_counts_125, rfl⟩ fX12_81 q_75 yr_12_37 (r_75_37 _) ?_
            refine G_iload_3 (nx := 129) ⟨dX12_counts_128, rfl⟩ ?_
            refine G_lald (nx := 130) (k := 98) ⟨dX12_counts_129, rfl⟩ q_98 (by first | assumption | decide | (unfold vp_in; decide)) ?_
            refine G_ladd (nx := 131) ⟨dX12_counts_130, rfl⟩ ?_
            refine G_goto (tgt := 165) ⟨dX12_counts_131, rfl⟩ rfl ?_
            refine G_lmul (nx := 166) ⟨dX12_counts_165, rfl⟩ ?_
            refine G_last (nx := 167) (k := 97) ⟨dX12_counts_166, rfl⟩ q_97 (by first | assumption | decide | (unfold vp_in; decide)) ?_
            refine G_aload_0 (nx := 168) ⟨dX12_counts_167, rfl⟩ ?_
            refine G_getr (nx := 171) (k := 75) (r := 95) ⟨dX12_counts_168, rfl⟩ fX12_71 q_75 yr_12_34 (r_75_34 _) ?_
            refine G_iload_2 (nx := 172) ⟨dX12_counts_171, rfl⟩ ?_
            refine G_dup2 (nx := 173) ⟨dX12_counts_172, rfl⟩ rfl rfl ?_
            refine G_lald (nx := 174) (k := 95) ⟨dX12_counts_173, rfl⟩ q_95 (by first | assumption | decide | (unfold vp_in; decide)) ?_
            refine G_aload_0 (nx := 175) ⟨dX12_counts_174, rfl⟩ ?_
            refine G_getr (nx := 178) (k := 75) (r := 95) ⟨dX12_counts_175, rfl⟩ fX12_71 q_75 yr_12_34 (r_75_34 _) ?_
            refine G_iload_3 (nx := 179) ⟨dX12_counts_178, rfl⟩ ?_
            refine G_lald (nx := 180) (k := 95) ⟨dX12_counts_179, rfl⟩ q_95 (by first | assumption | decide | (unfold vp_in; decide)) ?_
            refine G_aload_0 (nx := 181) ⟨dX12_counts_180, rfl⟩ ?_
            refine G_getr (nx := 184) (k := 75) (r := 96) ⟨dX12_counts_181, rfl⟩ fX12_75 q_75 yr_12_35 (r_75_35 _) ?_
            refine G_iload_3 (nx := 185) ⟨dX12_counts_184, rfl⟩ ?_
            refine G_lald (nx := 186) (k := 96) ⟨dX12_counts_185, rfl⟩ q_96 (by first | assumption | decide | (unfold vp_in; decide)) ?_
            refine G_lcmp (nx := 187) ⟨dX12_counts_186, rfl⟩ ?_
            simp only [eci, ecc, hni, w2_at, w2_row _ _ _ _ (show ¬ 95 = 96 by decide), w2_row _ _ _ _ (show ¬ 95 = 97 by decide), w2_row _ _ _ _ (show ¬ 95 = 98 by decide), w2_row _ _ _ _ (show ¬ 96 = 95 by decide), w2_row _ _ _ _ (show ¬ 96 = 97 by decide), w2_row _ _ _ _ (show ¬ 96 = 98 by decide), w2_row _ _ _ _ (show ¬ 97 = 95 by decide), w2_row _ _ _ _ (show ¬ 97 = 96 by decide), w2_row _ _ _ _ (show ¬ 97 = 98 by decide), w2_row _ _ _ _ (show ¬ 98 = 95 by decide), w2_row _ _ _ _ (show ¬ 98 = 96 by decide), w2_row _ _ _ _ (show ¬ 98 = 97 by decide)]
            refine G_ifge (tgt := 199) (nx := 190) ⟨dX12_counts_187, rfl⟩ rfl (fun c_187 => ?_) (fun c_187 => ?_)
            · refine G_aload_0 (nx := 200) ⟨dX12_counts_199, rfl⟩ ?_
              refine G_getr (nx := 203) (k := 75) (r := 96) ⟨dX12_counts_200, rfl⟩ fX12_75 q_75 yr_12_35 (r_75_35 _) ?_
              refine G_iload_3 (nx := 204) ⟨dX12_counts_203, rfl⟩ ?_
              refine G_lald (nx := 205) (k := 96) ⟨dX12_counts_204, rfl⟩ q_96 (by first | assumption | decide | (unfold vp_in; decide)) ?_
              refine G_ladd (nx := 206) ⟨dX12_counts_205, rfl⟩ ?_
              refine G_last (nx := 207) (k := 95) ⟨dX12_counts_206, rfl⟩ q_95 (by first | assumption | decide | (unfold vp_in; decide)) ?_
              refine G_aload_0 (nx := 208) ⟨dX12_counts_207, rfl⟩ ?_
              refine G_getr (nx := 211) (k := 75) (r := 96) ⟨dX12_counts_208, rfl⟩ fX12_75 q_75 yr_12_35 (r_75_35 _) ?_
              refine G_iload_2 (nx := 212) ⟨dX12_counts_211, rfl⟩ ?_
              refine G_dup2 (nx := 213) ⟨dX12_counts_212, rfl⟩ rfl rfl ?_
              refine G_lald (nx := 214) (k := 96) ⟨dX12_counts_213, rfl⟩ q_96 (by first | assumption | decide | (unfold vp_in; decide)) ?_
              refine G_aload_0 (nx := 215) ⟨dX12_counts_214, rfl⟩ ?_
              refine G_getr (nx := 218) (k := 75) (r := 95) ⟨dX12_counts_215, rfl⟩ fX12_71 q_75 yr_12_34 (r_75_34 _) ?_
              refine G_iload_3 (nx := 219) ⟨dX12_counts_218, rfl⟩ ?_
              refine G_lald (nx := 220) (k := 95) ⟨dX12_counts_219, rfl⟩ q_95 (by first | assumption | decide | (unfold vp_in; decide)) ?_
              refine G_ladd (nx := 221) ⟨dX12_counts_220, rfl⟩ ?_
              refine G_last (nx := 222) (k := 96) ⟨dX12_counts_221, rfl⟩ q_96 (by first | assumption | decide | (unfold vp_in; decide)) ?_
              refine G_aload_0 (nx := 223) ⟨dX12_counts_222, rfl⟩ ?_
              refine G_getr (nx := 226) (k := 75) (r := 98) ⟨dX12_counts_223, rfl⟩ fX12_81 q_75 yr_12_37 (r_75_37 _) ?_
              refine G_iload_2 (nx := 227) ⟨dX12_counts_226, rfl⟩ ?_
              refine G_dup2 (nx := 228) ⟨dX12_counts_227, rfl⟩ rfl rfl ?_
              refine G_lald (nx := 229) (k := 98) ⟨dX12_counts_228, rfl⟩ q_98 (by first | assumption | decide | (unfold vp_in; decide)) ?_
              refine G_aload_0 (nx := 230) ⟨dX12_counts_229, rfl⟩ ?_
              refine G_getr (nx := 233) (k := 75) (r := 97) ⟨dX12_counts_230, rfl⟩ fX12_78 q_75 yr_12_36 (r_75_36 _) ?_
              refine G_iload_3 (nx := 234) ⟨dX12_counts_233, rfl⟩ ?_
              refine G_lald (nx := 235) (k := 97) ⟨dX12_counts_234, rfl⟩ q_97 (by first | assumption | decide | (unfold vp_in; decide)) ?_
              refine G_lmul (nx := 236) ⟨dX12_counts_235, rfl⟩ ?_
              refine G_last (nx := 237) (k := 98) ⟨dX12_counts_236, rfl⟩ q_98 (by first | assumption | decide | (unfold vp_in; decide)) ?_
              refine G_iinc_3 (nx := 240) ⟨dX12_counts_237, rfl⟩ ci_1 rfl ?_
              refine G_goto (tgt := 57) ⟨dX12_counts_240, rfl⟩ rfl ?_
              obtain ⟨h1, h2, h3, h4⟩ := hri
              obtain ⟨g1, g2, g3, g4⟩ := hrc c hic (by omega)
              rw [lg_cmp_eq, g1, g2] at c_96
              rw [lg_cmp_ge, g1, g2] at c_187
              have est : lp (tq (I 91) (cbC how) A i) (c + 1) s0 = cbC how (lp (tq (I 91) (cbC how) A i) c s0) (A c) := by rw [lp_s, tq, if_pos ⟨hic, c_72⟩]
              refine G_L (by rw [nI_1]) (ih (m - (c + 1)) (by omega) (c + 1) _ _ rfl rfl (by omega) (by omega) ?_ (fun x hx hxm => ?_))
              · rw [est]
                generalize lp (tq (I 91) (cbC how) A i) c s0 = s at h1 h2 h3 h4 ⊢
                unfold cbC ctR
                refine ⟨?_, ?_, ?_, ?_⟩
                · dsimp only
                  rw [if_pos c_187]
                  simp only [eci, ecc, hni, w2_at, w2_row _ _ _ _ (show ¬ 95 = 96 by decide), w2_row _ _ _ _ (show ¬ 95 = 97 by decide), w2_row _ _ _ _ (show ¬ 95 = 98 by decide), w2_row _ _ _ _ (show ¬ 96 = 95 by decide), w2_row _ _ _ _ (show ¬ 96 = 97 by decide), w2_row _ _ _ _ (show ¬ 96 = 98 by decide), w2_row _ _ _ _ (show ¬ 97 = 95 by decide), w2_row _ _ _ _ (show ¬ 97 = 96 by decide), w2_row _ _ _ _ (show ¬ 97 = 98 by decide), w2_row _ _ _ _ (show ¬ 98 = 95 by decide), w2_row _ _ _ _ (show ¬ 98 = 96 by decide), w2_row _ _ _ _ (show ¬ 98 = 97 by decide)]
                  simp only [h1, h2, h3, h4, g1, g2, g3, g4]
                · simp only [eci, ecc, hni, w2_at, w2_row _ _ _ _ (show ¬ 95 = 96 by decide), w2_row _ _ _ _ (show ¬ 95 = 97 by decide), w2_row _ _ _ _ (show ¬ 95 = 98 by decide), w2_row _ _ _ _ (show ¬ 96 = 95 by decide), w2_row _ _ _ _ (show ¬ 96 = 97 by decide), w2_row _ _ _ _ (show ¬ 96 = 98 by decide), w2_row _ _ _ _ (show ¬ 97 = 95 by decide), w2_row _ _ _ _ (show ¬ 97 = 96 by decide), w2_row _ _ _ _ (show ¬ 97 = 98 by decide), w2_row _ _ _ _ (show ¬ 98 = 95 by decide), w2_row _ _ _ _ (show ¬ 98 = 96 by decide), w2_row _ _ _ _ (show ¬ 98 = 97 by decide)]
                  simp only [h1, h2, h3, h4, g1, g2, g3, g4]
                · dsimp only
                  rw [if_pos (Or.inr c_96)]
                  simp only [eci, ecc, hni, w2_at, w2_row _ _ _ _ (show ¬ 95 = 96 by decide), w2_row _ _ _ _ (show ¬ 95 = 97 by decide), w2_row _ _ _ _ (show ¬ 95 = 98 by decide), w2_row _ _ _ _ (show ¬ 96 = 95 by decide), w2_row _ _ _ _ (show ¬ 96 = 97 by decide), w2_row _ _ _ _ (show ¬ 96 = 98 by decide), w2_row _ _ _ _ (show ¬ 97 = 95 by decide), w2_row _ _ _ _ (show ¬ 97 = 96 by decide), w2_row _ _ _ _ (show ¬ 97 = 98 by decide), w2_row _ _ _ _ (show ¬ 98 = 95 by decide), w2_row _ _ _ _ (show ¬ 98 = 96 by decide), w2_row _ _ _ _ (show ¬ 98 = 97 by decide)]
                  simp only [h1, h2, h3, h4, g1, g2, g3, g4]
                · simp only [eci, ecc, hni, w2_at, w2_row _ _ _ _ (show ¬ 95 = 96 by decide), w2_row _ _ _ _ (show ¬ 95 = 97 by decide), w2_row _ _ _ _ (show ¬ 95 = 98 by decide), w2_row _ _ _ _ (show ¬ 96 = 95 by decide), w2_row _ _ _ _ (show ¬ 96 = 97 by decide), w2_row _ _ _ _ (show ¬ 96 = 98 by decide), w2_row _ _ _ _ (show ¬ 97 = 95 by decide), w2_row _ _ _ _ (show ¬ 97 = 96 by decide), w2_row _ _ _ _ (show ¬ 97 = 98 by decide), w2_row _ _ _ _ (show ¬ 98 = 95 by decide), w2_row _ _ _ _ (show ¬ 98 = 96 by decide), w2_row _ _ _ _ (show ¬ 98 = 97 by decide)]
                  simp only [h1, h2, h3, h4, g1, g2, g3, g4]
              · have hnx : ∀ (f : AJ) (k : Nat) (v : Int64) (a : Nat), w2 f k i v a x = f a x := fun f k v a => w2_ne _ _ _ _ (by omega)
                unfold ctR
                simp only [eci, hnx]
                exact hrc x hx hxm
            · refine G_aload_0 (nx := 191) ⟨dX12_counts_190, rfl⟩ ?_
              refine G_getr (nx := 194) (k := 75) (r := 95) ⟨dX12_counts_191, rfl⟩ fX12_71 q_75 yr_12_34 (r_75_34 _) ?_
              refine G_iload_3 (nx := 195) ⟨dX12_counts_194, rfl⟩ ?_
              refine G_lald (nx := 196) (k := 95) ⟨dX12_counts_195, rfl⟩ q_95 (by first | assumption | decide | (unfold vp_in; decide)) ?_
              refine G_goto (tgt := 205) ⟨dX12_counts_196, rfl⟩ rfl ?_
              refine G_ladd (nx := 206) ⟨dX12_counts_205, rfl⟩ ?_
              refine G_last (nx := 207) (k := 95) ⟨dX12_counts_206, rfl⟩ q_95 (by first | assumption | decide | (unfold vp_in; decide)) ?_
              refine G_aload_0 (nx := 208) ⟨dX12_counts_207, rfl⟩ ?_
              refine G_getr (nx := 211) (k := 75) (r := 96) ⟨dX12_counts_208, rfl⟩ fX12_75 q_75 yr_12_35 (r_75_35 _) ?_
              refine G_iload_2 (nx := 212) ⟨dX12_counts_211, rfl⟩ ?_
              refine G_dup2 (nx := 213) ⟨dX12_counts_212, rfl⟩ rfl rfl ?_
              refine G_lald (nx := 214) (k := 96) ⟨dX12_counts_213, rfl⟩ q_96 (by first | assumption | decide | (unfold vp_in; decide)) ?_
              refine G_aload_0 (nx := 215) ⟨dX12_counts_214, rfl⟩ ?_
              refine G_getr (nx := 218) (k := 75) (r := 95) ⟨dX12_counts_215, rfl⟩ fX12_71 q_75 yr_12_34 (r_75_34 _) ?_
              refine G_iload_3 (nx := 219) ⟨dX12_counts_218, rfl⟩ ?_
              refine G_lald (nx := 220) (k := 95) ⟨dX12_counts_219, rfl⟩ q_95 (by first | assumption | decide | (unfold vp_in; decide)) ?_
              refine G_ladd (nx := 221) ⟨dX12_counts_220, rfl⟩ ?_
              refine G_last (nx := 222) (k := 96) ⟨dX12_counts_221, rfl⟩ q_96 (by first | assumption | decide | (unfold vp_in; decide)) ?_
              refine G_aload_0 (nx := 223) ⟨dX12_counts_222, rfl⟩ ?_
              refine G_getr (nx := 226) (k := 75) (r := 98) ⟨dX12_counts_223, rfl⟩ fX12_81 q_75 yr_12_37 (r_75_37 _) ?_
              refine G_iload_2 (nx := 227) ⟨dX12_counts_226, rfl⟩ ?_
              refine G_dup2 (nx := 228) ⟨dX12_counts_227, rfl⟩ rfl rfl ?_
              refine G_lald (nx := 229) (k := 98) ⟨dX12_counts_228, rfl⟩ q_98 (by first | assumption | decide | (unfold vp_in; decide)) ?_
              refine G_aload_0 (nx := 230) ⟨dX12_counts_229, rfl⟩ ?_
              refine G_getr (nx := 233) (k := 75) (r := 97) ⟨dX12_counts_230, rfl⟩ fX12_78 q_75 yr_12_36 (r_75_36 _) ?_
              refine G_iload_3 (nx := 234) ⟨dX12_counts_233, rfl⟩ ?_
              refine G_lald (nx := 235) (k := 97) ⟨dX12_counts_234, rfl⟩ q_97 (by first | assumption | decide | (unfold vp_in; decide)) ?_
              refine G_lmul (nx := 236) ⟨dX12_counts_235, rfl⟩ ?_
              refine G_last (nx := 237) (k := 98) ⟨dX12_counts_236, rfl⟩ q_98 (by first | assumption | decide | (unfold vp_in; decide)) ?_
              refine G_iinc_3 (nx := 240) ⟨dX12_counts_237, rfl⟩ ci_1 rfl ?_
              refine G_goto (tgt := 57) ⟨dX12_counts_240, rfl⟩ rfl ?_
              obtain ⟨h1, h2, h3, h4⟩ := hri
              obtain ⟨g1, g2, g3, g4⟩ := hrc c hic (by omega)
              rw [lg_cmp_eq, g1, g2] at c_96
              rw [lg_cmp_ge, g1, g2] at c_187
              have est : lp (tq (I 91) (cbC how) A i) (c + 1) s0 = cbC how (lp (tq (I 91) (cbC how) A i) c s0) (A c) := by rw [lp_s, tq, if_pos ⟨hic, c_72⟩]
              refine G_L (by rw [nI_1]) (ih (m - (c + 1)) (by omega) (c + 1) _ _ rfl rfl (by omega) (by omega) ?_ (fun x hx hxm => ?_))
              · rw [est]
                generalize lp (tq (I 91) (cbC how) A i) c s0 = s at h1 h2 h3 h4 ⊢
                unfold cbC ctR
                refine ⟨?_, ?_, ?_, ?_⟩
                · dsimp only
                  rw [if_neg c_187]
                  simp only [eci, ecc, hni, w2_at, w2_row _ _ _ _ (show ¬ 95 = 96 by decide), w2_row _ _ _ _ (show ¬ 95 = 97 by decide), w2_row _ _ _ _ (show ¬ 95 = 98 by decide), w2_row _ _ _ _ (show ¬ 96 = 95 by decide), w2_row _ _ _ _ (show ¬ 96 = 97 by decide), w2_row _ _ _ _ (show ¬ 96 = 98 by decide), w2_row _ _ _ _ (show ¬ 97 = 95 by decide), w2_row _ _ _ _ (show ¬ 97 = 96 by decide), w2_row _ _ _ _ (show ¬ 97 = 98 by decide), w2_row _ _ _ _ (show ¬ 98 = 95 by decide), w2_row _ _ _ _ (show ¬ 98 = 96 by decide), w2_row _ _ _ _ (show ¬ 98 = 97 by decide)]
                  simp only [h1, h2, h3, h4, g1, g2, g3, g4]
                · simp only [eci, ecc, hni, w2_at, w2_row _ _ _ _ (show ¬ 95 = 96 by decide), w2_row _ _ _ _ (show ¬ 95 = 97 by decide), w2_row _ _ _ _ (show ¬ 95 = 98 by decide), w2_row _ _ _ _ (show ¬ 96 = 95 by decide), w2_row _ _ _ _ (show ¬ 96 = 97 by decide), w2_row _ _ _ _ (show ¬ 96 = 98 by decide), w2_row _ _ _ _ (show ¬ 97 = 95 by decide), w2_row _ _ _ _ (show ¬ 97 = 96 by decide), w2_row _ _ _ _ (show ¬ 97 = 98 by decide), w2_row _ _ _ _ (show ¬ 98 = 95 by decide), w2_row _ _ _ _ (show ¬ 98 = 96 by decide), w2_row _ _ _ _ (show ¬ 98 = 97 by decide)]
                  simp only [h1, h2, h3, h4, g1, g2, g3, g4]
                · dsimp only
                  rw [if_pos (Or.inr c_96)]
                  simp only [eci, ecc, hni, w2_at, w2_row _ _ _ _ (show ¬ 95 = 96 by decide), w2_row _ _ _ _ (show ¬ 95 = 97 by decide), w2_row _ _ _ _ (show ¬ 95 = 98 by decide), w2_row _ _ _ _ (show ¬ 96 = 95 by decide), w2_row _ _ _ _ (show ¬ 96 = 97 by decide), w2_row _ _ _ _ (show ¬ 96 = 98 by decide), w2_row _ _ _ _ (show ¬ 97 = 95 by decide), w2_row _ _ _ _ (show ¬ 97 = 96 by decide), w2_row _ _ _ _ (show ¬ 97 = 98 by decide), w2_row _ _ _ _ (show ¬ 98 = 95 by decide), w2_row _ _ _ _ (show ¬ 98 = 96 by decide), w2_row _ _ _ _ (show ¬ 98 = 97 by decide)]
                  simp only [h1, h2, h3, h4, g1, g2, g3, g4]
                · simp only [eci, ecc, hni, w2_at, w2_row _ _ _ _ (show ¬ 95 = 96 by decide), w2_row _ _ _ _ (show ¬ 95 = 97 by decide), w2_row _ _ _ _ (show ¬ 95 = 98 by decide), w2_row _ _ _ _ (show ¬ 96 = 95 by decide), w2_row _ _ _ _ (show ¬ 96 = 97 by decide), w2_row _ _ _ _ (show ¬ 96 = 98 by decide), w2_row _ _ _ _ (show ¬ 97 = 95 by decide), w2_row _ _ _ _ (show ¬ 97 = 96 by decide), w2_row _ _ _ _ (show ¬ 97 = 98 by decide), w2_row _ _ _ _ (show ¬ 98 = 95 by decide), w2_row _ _ _ _ (show ¬ 98 = 96 by decide), w2_row _ _ _ _ (show ¬ 98 = 97 by decide)]
                  simp only [h1, h2, h3, h4, g1, g2, g3, g4]
              · have hnx : ∀ (f : AJ) (k : Nat) (v : Int64) (a : Nat), w2 f k i v a x = f a x := fun f k v a => w2_ne _ _ _ _ (by omega)
                unfold ctR
                simp only [eci, hnx]
                exact hrc x hx hxm
    · refine G_goto (tgt := 237) ⟨dX12_counts_75, rfl⟩ rfl ?_
      refine G_iinc_3 (nx := 240) ⟨dX12_counts_237, rfl⟩ ci_1 rfl ?_
      refine G_goto (tgt := 57) ⟨dX12_counts_240, rfl⟩ rfl ?_
      have est : lp (tq (I 91) (cbC how) A i) (c + 1) s0 = lp (tq (I 91) (cbC how) A i) c s0 := by rw [lp_s, tq, if_neg (fun h => c_72 h.2)]
      exact G_L (by rw [nI_1]) (ih (m - (c + 1)) (by omega) (c + 1) J1 x4 hx4 rfl (by omega) (by omega) (by rw [est]; exact hri) hrc)

theorem lM_ct2 {m : Nat} {how : Int32} (hT0 : MT I m) (hk : ∀ (J' : AJ), (∀ c, c < m → ctR J' c (tN (I 91) (cbC how) (ctI how (ciN I m)) m m c)) → K .null I J' (rX g)) : ∀ (t : Nat) (J1 : AJ) (x3 x4 : Value), notL x3 = true → notL x4 = true → t ≤ m → (∀ c, t ≤ c → c < m → ctR J1 c (tN (I 91) (cbC how) (ctI how (ciN I m)) m (m - t) c)) → G l (d + 2) mX12_counts K 7 [.ref 75, .int how, .int (nI t - 1), x3, x4] [] I J1 (rX g) := by
  have e26 := hT0.1
  have hm60 := hT0.2
  intro t
  induction t with
  | zero =>
    intro J1 x3 x4 hx3 hx4 htm hr
    refine G_iload_2 (nx := 8) ⟨dX12_counts_7, rfl⟩ ?_
    rw [nI_0]
    refine G_iflt (tgt := 249) (nx := 11) ⟨dX12_counts_8, rfl⟩ rfl (fun c_8 => ?_) (fun c_8 => ?_)
    · refine G_vret ⟨dX12_counts_249, rfl⟩ rfl ?_
      exact hk J1 (fun c hc => by have := hr c (by omega) hc; rw [Nat.sub_zero] at this; exact this)
    · exact absurd (by decide) c_8

  | succ i ih =>
    intro J1 x3 x4 hx3 hx4 htm hr
    have e1 : nI (i + 1) - 1 = nI i := nI_pred i
    have eci := cl_nI (p := i) (by omega)
    have hi60 := in60 (p := i) (by omega)
    have eT : m - i = (m - (i + 1)) + 1 := by omega
    have eI : m - 1 - (m - (i + 1)) = i := by omega
    have hne : ∀ c, i + 1 ≤ c → c < m → ∀ (v : T4) (J2 : AJ), (∀ (a : Nat), 95 ≤ a → a ≤ 98 → J2 a c = J1 a c) → ctR J2 c (tN (I 91) (cbC how) (ctI how (ciN I m)) m (m - (i + 1)) c) := by
      intro c h1 h2 v J2 h3
      have := hr c h1 h2
      exact ⟨by rw [h3 95 (by omega) (by omega)]; exact this.1, by rw [h3 96 (by omega) (by omega)]; exact this.2.1, by rw [h3 97 (by omega) (by omega)]; exact this.2.2.1, by rw [h3 98 (by omega) (by omega)]; exact this.2.2.2⟩
    refine G_L (by rw [e1]) ?_
    refine G_iload_2 (nx := 8) ⟨dX12_counts_7, rfl⟩ ?_
    
    refine G_iflt (tgt := 249) (nx := 11) ⟨dX12_counts_8, rfl⟩ rfl (fun c_8 => ?_) (fun c_8 => ?_)
    · (rw [← nI_0, nI_lt_iff (by omega) (by omega)] at c_8; omega)
    · refine G_aload_0 (nx := 12) ⟨dX12_counts_11, rfl⟩ ?_
      refine G_getr (nx := 15) (k := 75) (r := 95) ⟨dX12_counts_12, rfl⟩ fX12_71 q_75 yr_12_34 (r_75_34 _) ?_
      refine G_iload_2 (nx := 16) ⟨dX12_counts_15, rfl⟩ ?_
      refine G_iload_1 (nx := 17) ⟨dX12_counts_16, rfl⟩ ?_
      refine G_iconst (nx := 18) ⟨dX12_counts_17, rfl⟩ ci_1 ?_
      refine G_icmpne (tgt := 30) (nx := 21) ⟨dX12_counts_18, rfl⟩ rfl (fun c_18 => ?_) (fun c_18 => ?_)
      · refine G_lconst (nx := 31) (v := 1) ⟨dX12_counts_30, rfl⟩ (by decide) ?_
        refine G_last (nx := 32) (k := 95) ⟨dX12_counts_31, rfl⟩ q_95 (by first | assumption | decide | (unfold vp_in; decide)) ?_
        refine G_aload_0 (nx := 33) ⟨dX12_counts_32, rfl⟩ ?_
        refine G_getr (nx := 36) (k := 75) (r := 96) ⟨dX12_counts_33, rfl⟩ fX12_75 q_75 yr_12_35 (r_75_35 _) ?_
        refine G_iload_2 (nx := 37) ⟨dX12_counts_36, rfl⟩ ?_
        refine G_lconst (nx := 38) (v := 0) ⟨dX12_counts_37, rfl⟩ (by decide) ?_
        refine G_last (nx := 39) (k := 96) ⟨dX12_counts_38, rfl⟩ q_96 (by first | assumption | decide | (unfold vp_in; decide)) ?_
        refine G_aload_0 (nx := 40) ⟨dX12_counts_39, rfl⟩ ?_
        refine G_getr (nx := 43) (k := 75) (r := 97) ⟨dX12_counts_40, rfl⟩ fX12_78 q_75 yr_12_36 (r_75_36 _) ?_
        refine G_iload_2 (nx := 44) ⟨dX12_counts_43, rfl⟩ ?_
        refine G_lconst (nx := 45) (v := 1) ⟨dX12_counts_44, rfl⟩ (by decide) ?_
        refine G_last (nx := 46) (k := 97) ⟨dX12_counts_45, rfl⟩ q_97 (by first | assumption | decide | (unfold vp_in; decide)) ?_
        refine G_aload_0 (nx := 47) ⟨dX12_counts_46, rfl⟩ ?_
        refine G_getr (nx := 50) (k := 75) (r := 98) ⟨dX12_counts_47, rfl⟩ fX12_81 q_75 yr_12_37 (r_75_37 _) ?_
        refine G_iload_2 (nx := 51) ⟨dX12_counts_50, rfl⟩ ?_
        refine G_lconst (nx := 52) (v := 1) ⟨dX12_counts_51, rfl⟩ (by decide) ?_
        refine G_last (nx := 53) (k := 98) ⟨dX12_counts_52, rfl⟩ q_98 (by first | assumption | decide | (unfold vp_in; decide)) ?_
        refine G_iload_2 (nx := 54) ⟨dX12_counts_53, rfl⟩ ?_
        refine G_iconst (nx := 55) ⟨dX12_counts_54, rfl⟩ ci_1 ?_
        refine G_iadd (nx := 56) ⟨dX12_counts_55, rfl⟩ ?_
        refine G_istore_3 (nx := 57) ⟨dX12_counts_56, rfl⟩ rfl rfl ?_
        rw [nI_1]
        refine lM_ct1 (d := d) (A := tN (I 91) (cbC how) (ctI how (ciN I m)) m (m - (i + 1))) (s0 := ctI how (ciN I m) i) hT0 (by omega) (fun J2 y4 hy4 h1 h2 => ?_) _ (i + 1) _ x4 hx4 rfl (by omega) (by omega) ?_ ?_
        · refine ?_
          refine G_iinc_2 (nx := 246) ⟨dX12_counts_243, rfl⟩ ci_m1 rfl ?_
          refine G_goto (tgt := 7) ⟨dX12_counts_246, rfl⟩ rfl ?_
          refine G_L (by rw [show nI i + (-1) = nI i - 1 by rw [Int32.sub_eq_add_neg]]) (ih J2 (.int (nI m)) y4 rfl hy4 (by omega) (fun c hc1 hc2 => ?_))
          rw [eT]
          show ctR J2 c (if c = m - 1 - (m - (i + 1)) then _ else _)
          rw [eI]
          by_cases e : c = i
          · rw [if_pos e, e]; exact h1
          · rw [if_neg e]; exact h2 c (by omega) hc2
        · rw [tq_le _ _ _ _ _ (Nat.le_refl _), ctI, if_neg c_18]
          refine ⟨?_, ?_, ?_, ?_⟩
          · simp only [eci, w2_at, w2_row _ _ _ _ (show ¬ 95 = 96 by decide), w2_row _ _ _ _ (show ¬ 95 = 97 by decide), w2_row _ _ _ _ (show ¬ 95 = 98 by decide), w2_row _ _ _ _ (show ¬ 96 = 95 by decide), w2_row _ _ _ _ (show ¬ 96 = 97 by decide), w2_row _ _ _ _ (show ¬ 96 = 98 by decide), w2_row _ _ _ _ (show ¬ 97 = 95 by decide), w2_row _ _ _ _ (show ¬ 97 = 96 by decide), w2_row _ _ _ _ (show ¬ 97 = 98 by decide), w2_row _ _ _ _ (show ¬ 98 = 95 by decide), w2_row _ _ _ _ (show ¬ 98 = 96 by decide), w2_row _ _ _ _ (show ¬ 98 = 97 by decide)]
            try rfl
          · simp only [eci, w2_at, w2_row _ _ _ _ (show ¬ 95 = 96 by decide), w2_row _ _ _ _ (show ¬ 95 = 97 by decide), w2_row _ _ _ _ (show ¬ 95 = 98 by decide), w2_row _ _ _ _ (show ¬ 96 = 95 by decide), w2_row _ _ _ _ (show ¬ 96 = 97 by decide), w2_row _ _ _ _ (show ¬ 96 = 98 by decide), w2_row _ _ _ _ (show ¬ 97 = 95 by decide), w2_row _ _ _ _ (show ¬ 97 = 96 by decide), w2_row _ _ _ _ (show ¬ 97 = 98 by decide), w2_row _ _ _ _ (show ¬ 98 = 95 by decide), w2_row _ _ _ _ (show ¬ 98 = 96 by decide), w2_row _ _ _ _ (show ¬ 98 = 97 by decide)]
          · simp only [eci, w2_at, w2_row _ _ _ _ (show ¬ 95 = 96 by decide), w2_row _ _ _ _ (show ¬ 95 = 97 by decide), w2_row _ _ _ _ (show ¬ 95 = 98 by decide), w2_row _ _ _ _ (show ¬ 96 = 95 by decide), w2_row _ _ _ _ (show ¬ 96 = 97 by decide), w2_row _ _ _ _ (show ¬ 96 = 98 by decide), w2_row _ _ _ _ (show ¬ 97 = 95 by decide), w2_row _ _ _ _ (show ¬ 97 = 96 by decide), w2_row _ _ _ _ (show ¬ 97 = 98 by decide), w2_row _ _ _ _ (show ¬ 98 = 95 by decide), w2_row _ _ _ _ (show ¬ 98 = 96 by decide), w2_row _ _ _ _ (show ¬ 98 = 97 by decide)]
          · simp only [eci, w2_at, w2_row _ _ _ _ (show ¬ 95 = 96 by decide), w2_row _ _ _ _ (show ¬ 95 = 97 by decide), w2_row _ _ _ _ (show ¬ 95 = 98 by decide), w2_row _ _ _ _ (show ¬ 96 = 95 by decide), w2_row _ _ _ _ (show ¬ 96 = 97 by decide), w2_row _ _ _ _ (show ¬ 96 = 98 by decide), w2_row _ _ _ _ (show ¬ 97 = 95 by decide), w2_row _ _ _ _ (show ¬ 97 = 96 by decide), w2_row _ _ _ _ (show ¬ 97 = 98 by decide), w2_row _ _ _ _ (show ¬ 98 = 95 by decide), w2_row _ _ _ _ (show ¬ 98 = 96 by decide), w2_row _ _ _ _ (show ¬ 98 = 97 by decide)]
        · intro c h1 h2
          refine hne c (by omega) h2 (ctI how (ciN I m) i) _ (fun a h3 h4 => ?_)
          have hnx : ∀ (f : AJ) (k : Nat) (v : Int64) (a : Nat), w2 f k i v a c = f a c := fun f k v a => w2_ne _ _ _ _ (by omega)
          simp only [eci, hnx]
      · refine G_aload_0 (nx := 22) ⟨dX12_counts_21, rfl⟩ ?_
        refine G_iload_2 (nx := 23) ⟨dX12_counts_22, rfl⟩ ?_
        refine G_cv1 (nx := 26) ⟨dX12_counts_23, rfl⟩ kX12_313 rfl q_75 rfl (Nat.le_of_ble_eq_true rfl) (Nat.le_of_ble_eq_true rfl) (cM_costIn hT0 (show i < m by omega) ?_)
        refine G_i2l (nx := 27) ⟨dX12_counts_26, rfl⟩ ?_
        refine G_goto (tgt := 31) ⟨dX12_counts_27, rfl⟩ rfl ?_
        refine G_last (nx := 32) (k := 95) ⟨dX12_counts_31, rfl⟩ q_95 (by first | assumption | decide | (unfold vp_in; decide)) ?_
        refine G_aload_0 (nx := 33) ⟨dX12_counts_32, rfl⟩ ?_
        refine G_getr (nx := 36) (k := 75) (r := 96) ⟨dX12_counts_33, rfl⟩ fX12_75 q_75 yr_12_35 (r_75_35 _) ?_
        refine G_iload_2 (nx := 37) ⟨dX12_counts_36, rfl⟩ ?_
        refine G_lconst (nx := 38) (v := 0) ⟨dX12_counts_37, rfl⟩ (by decide) ?_
        refine G_last (nx := 39) (k := 96) ⟨dX12_counts_38, rfl⟩ q_96 (by first | assumption | decide | (unfold vp_in; decide)) ?_
        refine G_aload_0 (nx := 40) ⟨dX12_counts_39, rfl⟩ ?_
        refine G_getr (nx := 43) (k := 75) (r := 97) ⟨dX12_counts_40, rfl⟩ fX12_78 q_75 yr_12_36 (r_75_36 _) ?_
        refine G_iload_2 (nx := 44) ⟨dX12_counts_43, rfl⟩ ?_
        refine G_lconst (nx := 45) (v := 1) ⟨dX12_counts_44, rfl⟩ (by decide) ?_
        refine G_last (nx := 46) (k := 97) ⟨dX12_counts_45, rfl⟩ q_97 (by first | assumption | decide | (unfold vp_in; decide)) ?_
        refine G_aload_0 (nx := 47) ⟨dX12_counts_46, rfl⟩ ?_
        refine G_getr (nx := 50) (k := 75) (r := 98) ⟨dX12_counts_47, rfl⟩ fX12_81 q_75 yr_12_37 (r_75_37 _) ?_
        refine G_iload_2 (nx := 51) ⟨dX12_counts_50, rfl⟩ ?_
        refine G_lconst (nx := 52) (v := 1) ⟨dX12_counts_51, rfl⟩ (by decide) ?_
        refine G_last (nx := 53) (k := 98) ⟨dX12_counts_52, rfl⟩ q_98 (by first | assumption | decide | (unfold vp_in; decide)) ?_
        refine G_iload_2 (nx := 54) ⟨dX12_counts_53, rfl⟩ ?_
        refine G_iconst (nx := 55) ⟨dX12_counts_54, rfl⟩ ci_1 ?_
        refine G_iadd (nx := 56) ⟨dX12_counts_55, rfl⟩ ?_
        refine G_istore_3 (nx := 57) ⟨dX12_counts_56, rfl⟩ rfl rfl ?_
        rw [nI_1]
        refine lM_ct1 (d := d) (A := tN (I 91) (cbC how) (ctI how (ciN I m)) m (m - (i + 1))) (s0 := ctI how (ciN I m) i) hT0 (by omega) (fun J2 y4 hy4 h1 h2 => ?_) _ (i + 1) _ x4 hx4 rfl (by omega) (by omega) ?_ ?_
        · refine ?_
          refine G_iinc_2 (nx := 246) ⟨dX12_counts_243, rfl⟩ ci_m1 rfl ?_
          refine G_goto (tgt := 7) ⟨dX12_counts_246, rfl⟩ rfl ?_
          refine G_L (by rw [show nI i + (-1) = nI i - 1 by rw [Int32.sub_eq_add_neg]]) (ih J2 (.int (nI m)) y4 rfl hy4 (by omega) (fun c hc1 hc2 => ?_))
          rw [eT]
          show ctR J2 c (if c = m - 1 - (m - (i + 1)) then _ else _)
          rw [eI]
          by_cases e : c = i
          · rw [if_pos e, e]; exact h1
          · rw [if_neg e]; exact h2 c (by omega) hc2
        · rw [tq_le _ _ _ _ _ (Nat.le_refl _), ctI, if_pos c_18]
          refine ⟨?_, ?_, ?_, ?_⟩
          · simp only [eci, w2_at, w2_row _ _ _ _ (show ¬ 95 = 96 by decide), w2_row _ _ _ _ (show ¬ 95 = 97 by decide), w2_row _ _ _ _ (show ¬ 95 = 98 by decide), w2_row _ _ _ _ (show ¬ 96 = 95 by decide), w2_row _ _ _ _ (show ¬ 96 = 97 by decide), w2_row _ _ _ _ (show ¬ 96 = 98 by decide), w2_row _ _ _ _ (show ¬ 97 = 95 by decide), w2_row _ _ _ _ (show ¬ 97 = 96 by decide), w2_row _ _ _ _ (show ¬ 97 = 98 by decide), w2_row _ _ _ _ (show ¬ 98 = 95 by decide), w2_row _ _ _ _ (show ¬ 98 = 96 by decide), w2_row _ _ _ _ (show ¬ 98 = 97 by decide)]
            try rfl
          · simp only [eci, w2_at, w2_row _ _ _ _ (show ¬ 95 = 96 by decide), w2_row _ _ _ _ (show ¬ 95 = 97 by decide), w2_row _ _ _ _ (show ¬ 95 = 98 by decide), w2_row _ _ _ _ (show ¬ 96 = 95 by decide), w2_row _ _ _ _ (show ¬ 96 = 97 by decide), w2_row _ _ _ _ (show ¬ 96 = 98 by decide), w2_row _ _ _ _ (show ¬ 97 = 95 by decide), w2_row _ _ _ _ (show ¬ 97 = 96 by decide), w2_row _ _ _ _ (show ¬ 97 = 98 by decide), w2_row _ _ _ _ (show ¬ 98 = 95 by decide), w2_row _ _ _ _ (show ¬ 98 = 96 by decide), w2_row _ _ _ _ (show ¬ 98 = 97 by decide)]
          · simp only [eci, w2_at, w2_row _ _ _ _ (show ¬ 95 = 96 by decide), w2_row _ _ _ _ (show ¬ 95 = 97 by decide), w2_row _ _ _ _ (show ¬ 95 = 98 by decide), w2_row _ _ _ _ (show ¬ 96 = 95 by decide), w2_row _ _ _ _ (show ¬ 96 = 97 by decide), w2_row _ _ _ _ (show ¬ 96 = 98 by decide), w2_row _ _ _ _ (show ¬ 97 = 95 by decide), w2_row _ _ _ _ (show ¬ 97 = 96 by decide), w2_row _ _ _ _ (show ¬ 97 = 98 by decide), w2_row _ _ _ _ (show ¬ 98 = 95 by decide), w2_row _ _ _ _ (show ¬ 98 = 96 by decide), w2_row _ _ _ _ (show ¬ 98 = 97 by decide)]
          · simp only [eci, w2_at, w2_row _ _ _ _ (show ¬ 95 = 96 by decide), w2_row _ _ _ _ (show ¬ 95 = 97 by decide), w2_row _ _ _ _ (show ¬ 95 = 98 by decide), w2_row _ _ _ _ (show ¬ 96 = 95 by decide), w2_row _ _ _ _ (show ¬ 96 = 97 by decide), w2_row _ _ _ _ (show ¬ 96 = 98 by decide), w2_row _ _ _ _ (show ¬ 97 = 95 by decide), w2_row _ _ _ _ (show ¬ 97 = 96 by decide), w2_row _ _ _ _ (show ¬ 97 = 98 by decide), w2_row _ _ _ _ (show ¬ 98 = 95 by decide), w2_row _ _ _ _ (show ¬ 98 = 96 by decide), w2_row _ _ _ _ (show ¬ 98 = 97 by decide)]
        · intro c h1 h2
          refine hne c (by omega) h2 (ctI how (ciN I m) i) _ (fun a h3 h4 => ?_)
          have hnx : ∀ (f : AJ) (k : Nat) (v : Int64) (a : Nat), w2 f k i v a c = f a c := fun f k v a => w2_ne _ _ _ _ (by omega)
          simp only [eci, hnx]

theorem cM_counts {m : Nat} {how : Int32} (hT0 : MT I m) (hk : ∀ (J' : AJ), (∀ c, c < m → ctR J' c (tN (I 91) (cbC how) (ctI how (ciN I m)) m m c)) → K .null I J' (rX g)) : G l (d + 2) mX12_counts K 0 [.ref 75, .int how, UU, UU, UU] [] I J (rX g) := by
  have e26 := hT0.1
  refine G_aload_0 (nx := 1) ⟨dX12_counts_0, rfl⟩ ?_
  refine G_geti (nx := 4) (k := 75) ⟨dX12_counts_1, rfl⟩ fX12_165 q_75 yi_12_26 ?_
  rw [e26]
  refine G_iconst (nx := 5) ⟨dX12_counts_4, rfl⟩ ci_1 ?_
  refine G_isub (nx := 6) ⟨dX12_counts_5, rfl⟩ ?_
  refine G_istore_2 (nx := 7) ⟨dX12_counts_6, rfl⟩ rfl rfl ?_
  exact lM_ct2 hT0 hk m J UU UU rfl rfl (Nat.le_refl m) (fun c h1 h2 => by omega)

end M53
