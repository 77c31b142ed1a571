
/-- packs: worth and how many sets; the better of two -/
def bt (s c : Nat × Nat) : Nat × Nat := if c.1 < s.1 ∨ (c.1 = s.1 ∧ ¬ c.2 < s.2) then s else c
def pkI (T : Nat → Nat × Nat) (X rest q r : Nat) (s : Nat × Nat) : Nat × Nat := if q < r ∧ X.testBit r = true then bt s ((T (df rest (2 ^ q ||| 2 ^ r))).1 + 2, (T (df rest (2 ^ q ||| 2 ^ r))).2 + 1) else s
def pkO (n : Nat) (gr : Nat → Nat) (T : Nat → Nat × Nat) (p rest q : Nat) (s : Nat × Nat) : Nat × Nat := if (rest &&& gr p).testBit q = true then lp (pkI T (rest &&& gr p &&& gr q) rest q) n (bt s ((T (df rest (2 ^ q))).1 + 1, (T (df rest (2 ^ q))).2 + 1)) else s
def pkT (n : Nat) (gr : Nat → Nat) (T : Nat → Nat × Nat) (set : Nat) : Nat × Nat := lp (pkO n gr T (fb set) (df set (2 ^ fb set))) n (T (df set (2 ^ fb set)))
def pkA (n : Nat) (gr : Nat → Nat) : Nat → Nat → Nat × Nat
  | 0 => fun _ => (0, 0)
  | k + 1 => fun j => if j = k then (if k = 0 then (0, 0) else pkT n gr (pkA n gr k) k) else pkA n gr k j
theorem bt_P {P : Nat × Nat → Prop} {s c : Nat × Nat} (h1 : P s) (h2 : P c) : P (bt s c) := by unfold bt; split <;> assumption
def pkP (b : Nat) (s : Nat × Nat) : Prop := s.2 ≤ s.1 ∧ s.1 ≤ b
theorem pc_del2 {a q r : Nat} (hq : q < 12) (hr : r < 12) (h1 : a.testBit q = true) (h2 : a.testBit r = true) (h : ¬ q = r) : pc a = pc (df a (2 ^ q ||| 2 ^ r)) + 2 := by
  have e : df a (2 ^ q ||| 2 ^ r) = df (df a (2 ^ q)) (2 ^ r) := by
    apply Nat.eq_of_testBit_eq
    intro x
    rw [tb_df, tb_df, tb_df, Nat.testBit_or]
    cases a.testBit x <;> cases (2 ^ q).testBit x <;> cases (2 ^ r).testBit x <;> rfl
  rw [e, pc_del hq h1, pc_del (a := df a (2 ^ q)) hr (by rw [tb_del, h2]; simp; omega)]
theorem pkT_P {n : Nat} {gr : Nat → Nat} {T : Nat → Nat × Nat} {set : Nat} (hn : n ≤ 12) (hs : set < 4096) (h0 : ¬ set = 0) (hT : ∀ j, j < set → pkP (pc j) (T j)) : pkP (pc set) (pkT n gr T set) := by
  obtain ⟨e1, e2, e3⟩ := fb_s hs h0
  have hp : fb set < 12 := tb_lt hs e2
  have hpc := pc_del hp e2
  have hlt : df set (2 ^ fb set) < set := by rw [← e1]; exact and_pred_lt h0
  have key : ∀ k, k ≤ n → pkP (pc (df set (2 ^ fb set))) (lp (pkO n gr T (fb set) (df set (2 ^ fb set))) k (T (df set (2 ^ fb set)))) := by
    intro k
    induction k with
    | zero => intro _; exact hT _ hlt
    | succ q ih =>
      intro hk
      rw [lp_s, pkO]
      split
      · next hq =>
        rw [Nat.testBit_and, Bool.and_eq_true] at hq
        have hd := pc_del (show q < 12 by omega) hq.1
        have hA := hT (df (df set (2 ^ fb set)) (2 ^ q)) (Nat.lt_of_le_of_lt (df_le _ _) hlt)
        have inner : ∀ r, r ≤ n → pkP (pc (df set (2 ^ fb set))) (lp (pkI T (df set (2 ^ fb set) &&& gr (fb set) &&& gr q) (df set (2 ^ fb set)) q) r (bt (lp (pkO n gr T (fb set) (df set (2 ^ fb set))) q (T (df set (2 ^ fb set)))) ((T (df (df set (2 ^ fb set)) (2 ^ q))).1 + 1, (T (df (df set (2 ^ fb set)) (2 ^ q))).2 + 1))) := by
          intro r
          induction r with
          | zero =>
            intro _
            refine bt_P (ih (by omega)) ?_
            unfold pkP at hA ⊢
            simp only
            omega
          | succ r ih2 =>
            intro hr
            rw [lp_s, pkI]
            split
            · next hqr =>
              obtain ⟨hqr, hx⟩ := hqr
              rw [Nat.testBit_and, Nat.testBit_and, Bool.and_eq_true, Bool.and_eq_true] at hx
              have hd2 := pc_del2 (show q < 12 by omega) (show r < 12 by omega) hq.1 hx.1.1 (by omega)
              have hB := hT (df (df set (2 ^ fb set)) (2 ^ q ||| 2 ^ r)) (Nat.lt_of_le_of_lt (df_le _ _) hlt)
              refine bt_P (ih2 (by omega)) ?_
              unfold pkP at hB ⊢
              simp only
              omega
            · exact ih2 (by omega)
        exact inner n (Nat.le_refl n)
      · exact ih (by omega)
  have := key n (Nat.le_refl n)
  unfold pkP at this ⊢
  unfold pkT
  omega
theorem pkA_P {n : Nat} {gr : Nat → Nat} (hn : n ≤ 12) : ∀ k, k ≤ 4096 → ∀ j, pkP (pc j) (pkA n gr k j) := by
  intro k
  induction k with
  | zero => intro _ j; exact ⟨Nat.le_refl _, Nat.zero_le _⟩
  | succ k ih =>
    intro hk j
    unfold pkA
    split
    · next e =>
      split
      · exact ⟨Nat.le_refl _, Nat.zero_le _⟩
      · next h0 => rw [e]; exact pkT_P hn (by omega) h0 (fun j _ => ih (by omega) j)
    · exact ih (by omega) j
theorem pkP_12 {j : Nat} {s : Nat × Nat} (h : pkP (pc j) s) : s.1 ≤ 12 ∧ s.2 ≤ 12 := by
  have := pc_le j
  unfold pkP at h
  omega
def f83 (a _ : Nat) : Bool := a == 83 || a == 84
/-- the model's two tables -/
def PT (I : AI) (T : Nat → Nat × Nat) (k : Nat) : Prop := ∀ j, j < k → I 83 j = nI (T j).1 ∧ I 84 j = nI (T j).2
theorem pkS_ok {I : AI} {a b mm : Nat} {s c : Nat × Nat} (hm : mm = 1 ∨ mm = 2) (hb1 : I 83 b = nI c.1) (hb2 : I 84 b = nI c.2) (ha1 : I 83 a = nI s.1) (ha2 : I 84 a = nI s.2) (hs1 : s.1 ≤ 14) (hs2 : s.2 ≤ 14) (hc1 : c.1 ≤ 12) (hc2 : c.2 ≤ 12) : pkS I a b (nI mm) 83 a = nI (bt s (c.1 + mm, c.2 + 1)).1 ∧ pkS I a b (nI mm) 84 a = nI (bt s (c.1 + mm, c.2 + 1)).2 ∧ ∀ x y, ¬ ((x = 83 ∨ x = 84) ∧ y = a) → pkS I a b (nI mm) x y = I x y := by
  have hm0 : ¬ nI mm = 0 := by rcases hm with h | h <;> subst h <;> decide
  have e1 : (1 : Int32) = nI 1 := by decide
  unfold pkS bt
  rw [if_neg hm0, hb1, hb2, ha1, ha2, nI_add, e1, nI_add]
  have key : (nI (c.1 + mm) < nI s.1 ∨ nI (c.1 + mm) = nI s.1 ∧ ¬ nI (c.2 + 1) < nI s.2) ↔ (c.1 + mm < s.1 ∨ c.1 + mm = s.1 ∧ ¬ c.2 + 1 < s.2) := by
    rw [nI_lt_iff (by omega) (by omega), nI_eq (by omega) (by omega), nI_lt_iff (by omega) (by omega)]
  by_cases h : c.1 + mm < s.1 ∨ c.1 + mm = s.1 ∧ ¬ c.2 + 1 < s.2
  · rw [if_pos (key.mpr h), if_pos h]
    exact ⟨ha1, ha2, fun _ _ _ => rfl⟩
  · rw [if_neg (fun q => h (key.mp q)), if_neg h]
    refine ⟨by rw [w2_row _ _ _ _ (show ¬ 83 = 84 by decide), w2_at], by rw [w2_at], fun x y hxy => ?_⟩
    rw [w2_ne _ _ _ _ (by omega), w2_ne _ _ _ _ (by omega)]
theorem pkS_0 {I : AI} {a b : Nat} {c : Nat × Nat} (hb1 : I 83 b = nI c.1) (hb2 : I 84 b = nI c.2) (ha1 : I 83 a = -1) (hc1 : c.1 ≤ 12) : pkS I a b 0 83 a = nI c.1 ∧ pkS I a b 0 84 a = nI c.2 ∧ ∀ x y, ¬ ((x = 83 ∨ x = 84) ∧ y = a) → pkS I a b 0 x y = I x y := by
  unfold pkS
  have hl : ¬ (nI c.1 < (-1 : Int32)) := by
    rw [i32_lt, nI_toInt (by omega)]
    have : (-1 : Int32).toInt = -1 := by decide
    omega
  have he : ¬ (nI c.1 = (-1 : Int32)) := by
    intro e
    have h1 := congrArg Int32.toInt e
    rw [nI_toInt (by omega)] at h1
    have : (-1 : Int32).toInt = -1 := by decide
    omega
  rw [if_pos rfl, hb1, hb2, ha1, Int32.add_zero, Int32.add_zero, if_neg (fun h => h.elim hl (fun h => he h.1))]
  refine ⟨by rw [w2_row _ _ _ _ (show ¬ 83 = 84 by decide), w2_at], by rw [w2_at], fun x y hxy => ?_⟩
  rw [w2_ne _ _ _ _ (by omega), w2_ne _ _ _ _ (by omega)]
theorem sb83 {I I' : AI} {a : Nat} (h : ∀ x y, ¬ ((x = 83 ∨ x = 84) ∧ y = a) → I' x y = I x y) : sb f83 I I' := fun x y hf => h x y (by
  simp only [f83, Bool.or_eq_false_iff, beq_eq_false_iff_ne] at hf
  omega)
theorem PT_kp {I I' : AI} {T : Nat → Nat × Nat} {a : Nat} (hT : PT I T a) (h : ∀ x y, ¬ ((x = 83 ∨ x = 84) ∧ y = a) → I' x y = I x y) : PT I' T a := fun j hj => ⟨by rw [h 83 j (by omega)]; exact (hT j hj).1, by rw [h 84 j (by omega)]; exact (hT j hj).2⟩
section M55
variable {l : Launch} {d : Nat} {K : AK} {I : AI} {J : AJ} {g : Bool} {n : Nat} {gr : Nat → Nat}

theorem lM_pk3 {wh : Int32} {set p rest q : Nat} {T : Nat → Nat × Nat} {s0 : Nat × Nat} (hG : MG I n gr) (hset : set < 2 ^ n) (hrest : rest < set) (hp : p < n) (hq : q < n) (hTb : ∀ j, (T j).1 ≤ 12 ∧ (T j).2 ≤ 12) (hs0 : s0.1 ≤ 14 ∧ s0.2 ≤ 14) (hgo : ∀ (I' : AI) (x6 : Value), notL x6 = true → PT I' T set → I' 83 set = nI (lp (pkI T (rest &&& gr p &&& gr q) rest q) n s0).1 → I' 84 set = nI (lp (pkI T (rest &&& gr p &&& gr q) rest q) n s0).2 → ((lp (pkI T (rest &&& gr p &&& gr q) rest q) n s0).1 ≤ 14 ∧ (lp (pkI T (rest &&& gr p &&& gr q) rest q) n s0).2 ≤ 14) → sb f83 I I' → G l (d + 1) mX12_pack K 178 [.ref 75, .int wh, .int (nI set), .int (nI p), .int (nI rest), .int (nI q), x6] [] I' J (rX g)) : ∀ (k r : Nat) (I1 : AI), n - r = k → q < r → r ≤ n → PT I1 T set → I1 83 set = nI (lp (pkI T (rest &&& gr p &&& gr q) rest q) r s0).1 → I1 84 set = nI (lp (pkI T (rest &&& gr p &&& gr q) rest q) r s0).2 → ((lp (pkI T (rest &&& gr p &&& gr q) rest q) r s0).1 ≤ 14 ∧ (lp (pkI T (rest &&& gr p &&& gr q) rest q) r s0).2 ≤ 14) → sb f83 I I1 → G l (d + 1) mX12_pack K 118 [.ref 75, .int wh, .int (nI set), .int (nI p), .int (nI rest), .int (nI q), .int (nI r)] [] I1 J (rX g) := by
  intro k
  induction k using Nat.strongRecOn with
  | _ k ih =>
  intro r I1 hrk hqr hrn hPT h83 h84 hb hs1
  have hn := hG.2.1
  have hG1 : MG I1 n gr := hG.sb hs1 rfl (fun _ => rfl)
  have e0 := hG1.1
  have hset4 : set < 4096 := Nat.lt_of_lt_of_le hset (pow12 hn)
  have hip := in12 hp hn
  have hiq := in12 hq hn
  have hand : rest &&& gr p &&& gr q ≤ rest := Nat.le_trans Nat.and_le_left Nat.and_le_left
  refine G_iload_6 (nx := 120) ⟨dX12_pack_118, rfl⟩ ?_
  refine G_aload_0 (nx := 121) ⟨dX12_pack_120, rfl⟩ ?_
  refine G_geti (nx := 124) (k := 75) ⟨dX12_pack_121, rfl⟩ fX12_122 q_75 yi_12_0 ?_
  rw [e0]
  refine G_icmpge (tgt := 178) (nx := 127) ⟨dX12_pack_124, rfl⟩ rfl (fun c_124 => ?_) (fun c_124 => ?_)
  · rw [nI_le_iff (by omega) (by omega)] at c_124
    have e : r = n := by omega
    subst e
    exact hgo I1 _ rfl hPT h83 h84 hb hs1
  · rw [nI_le_iff (by omega) (by omega)] at c_124
    have hrl : r < n := by omega
    have hpw : 2 ^ q ||| 2 ^ r < 2 ^ 12 := Nat.or_lt_two_pow (Nat.pow_lt_pow_right (by omega) (by omega)) (Nat.pow_lt_pow_right (by omega) (by omega))
    have hdl : df rest (2 ^ q ||| 2 ^ r) < set := Nat.lt_of_le_of_lt (df_le _ _) hrest
    refine G_iload_4 (nx := 129) ⟨dX12_pack_127, rfl⟩ ?_
    refine G_aload_0 (nx := 130) ⟨dX12_pack_129, rfl⟩ ?_
    refine G_getr (nx := 133) (k := 75) (r := 78) ⟨dX12_pack_130, rfl⟩ fX12_20 q_75 yr_12_4 (r_75_4 _) ?_
    refine G_iload_3 (nx := 134) ⟨dX12_pack_133, rfl⟩ ?_
    refine G_iald (nx := 135) (k := 78) ⟨dX12_pack_134, rfl⟩ q_78 (by first | assumption | decide | (unfold vp_in; decide)) ?_
    rw [hG1.row hp]
    refine G_iand (nx := 136) ⟨dX12_pack_135, rfl⟩ ?_
    rw [nI_and]
    refine G_aload_0 (nx := 137) ⟨dX12_pack_136, rfl⟩ ?_
    refine G_getr (nx := 140) (k := 75) (r := 78) ⟨dX12_pack_137, rfl⟩ fX12_20 q_75 yr_12_4 (r_75_4 _) ?_
    refine G_iload_5 (nx := 142) ⟨dX12_pack_140, rfl⟩ ?_
    refine G_iald (nx := 143) (k := 78) ⟨dX12_pack_142, rfl⟩ q_78 (by first | assumption | decide | (unfold vp_in; decide)) ?_
    rw [hG1.row hq]
    refine G_iand (nx := 144) ⟨dX12_pack_143, rfl⟩ ?_
    rw [nI_and]
    refine G_iload_6 (nx := 146) ⟨dX12_pack_144, rfl⟩ ?_
    refine G_cs2 (nx := 149) ⟨dX12_pack_146, rfl⟩ kX12_118 rfl rfl (Nat.le_of_ble_eq_true rfl) (Nat.le_of_ble_eq_true rfl) (cM_has (by omega) (by omega) ?_)
    refine G_ifeq (tgt := 172) (nx := 152) ⟨dX12_pack_149, rfl⟩ rfl (fun c_149 => ?_) (fun c_149 => ?_)
    · refine G_iinc_6 (nx := 175) ⟨dX12_pack_172, rfl⟩ ci_1 rfl ?_
      refine G_goto (tgt := 118) ⟨dX12_pack_175, rfl⟩ rfl ?_
      rw [bi_0] at c_149
      have est : lp (pkI T (rest &&& gr p &&& gr q) rest q) (r + 1) s0 = lp (pkI T (rest &&& gr p &&& gr q) rest q) r s0 := by rw [lp_s, pkI, if_neg (fun h => by rw [c_149] at h; cases h.2)]
      exact G_L (by rw [nI_1]) (ih (n - (r + 1)) (by omega) (r + 1) I1 rfl (by omega) (by omega) hPT (by rw [est]; exact h83) (by rw [est]; exact h84) (by rw [est]; exact hb) hs1)
    · refine G_aload_0 (nx := 153) ⟨dX12_pack_152, rfl⟩ ?_
      refine G_iload_2 (nx := 154) ⟨dX12_pack_153, rfl⟩ ?_
      refine G_iload_4 (nx := 156) ⟨dX12_pack_154, rfl⟩ ?_
      refine G_iconst (nx := 157) ⟨dX12_pack_156, rfl⟩ ci_1 ?_
      refine G_iload_5 (nx := 159) ⟨dX12_pack_157, rfl⟩ ?_
      refine G_ishl (nx := 160) ⟨dX12_pack_159, rfl⟩ ?_
      refine G_iconst (nx := 161) ⟨dX12_pack_160, rfl⟩ ci_1 ?_
      refine G_iload_6 (nx := 163) ⟨dX12_pack_161, rfl⟩ ?_
      refine G_ishl (nx := 164) ⟨dX12_pack_163, rfl⟩ ?_
      refine G_ior (nx := 165) ⟨dX12_pack_164, rfl⟩ ?_
      refine G_iconst (nx := 166) ⟨dX12_pack_165, rfl⟩ ci_m1 ?_
      refine G_ixor (nx := 167) ⟨dX12_pack_166, rfl⟩ ?_
      refine G_iand (nx := 168) ⟨dX12_pack_167, rfl⟩ ?_
      refine G_iconst (nx := 169) ⟨dX12_pack_168, rfl⟩ ci_2 ?_
      rw [one_shl (show q < 31 by omega), one_shl (show r < 31 by omega), nI_or, nI_df _ (by omega), show (2 : Int32) = nI 2 by decide]
      refine G_cvv3 (nx := 172) ⟨dX12_pack_169, rfl⟩ kX12_250 rfl q_75 rfl (Nat.le_of_ble_eq_true rfl) (Nat.le_of_ble_eq_true rfl) (cM_packsTo hset4 (by omega) ?_)
      refine G_iinc_6 (nx := 175) ⟨dX12_pack_172, rfl⟩ ci_1 rfl ?_
      refine G_goto (tgt := 118) ⟨dX12_pack_175, rfl⟩ rfl ?_
      rw [bi_n0] at c_149
      have est : lp (pkI T (rest &&& gr p &&& gr q) rest q) (r + 1) s0 = bt (lp (pkI T (rest &&& gr p &&& gr q) rest q) r s0) ((T (df rest (2 ^ q ||| 2 ^ r))).1 + 2, (T (df rest (2 ^ q ||| 2 ^ r))).2 + 1) := by rw [lp_s, pkI, if_pos ⟨hqr, c_149⟩]
      obtain ⟨k1, k2, k3⟩ := pkS_ok (I := I1) (a := set) (mm := 2) (Or.inr rfl) (hPT (df rest (2 ^ q ||| 2 ^ r)) hdl).1 (hPT (df rest (2 ^ q ||| 2 ^ r)) hdl).2 h83 h84 hb.1 hb.2 (hTb _).1 (hTb _).2
      refine G_L (by rw [nI_1]) (ih (n - (r + 1)) (by omega) (r + 1) _ rfl (by omega) (by omega) (PT_kp hPT k3) (by rw [est]; exact k1) (by rw [est]; exact k2) ?_ (hs1.tr (sb83 k3)))
      rw [est]
      have ht := hTb (df rest (2 ^ q ||| 2 ^ r))
      exact bt_P (P := fun s => s.1 ≤ 14 ∧ s.2 ≤ 14) hb (by simp only; omega)

theorem lM_pk2 {wh : Int32} {set p rest : Nat} {T : Nat → Nat × Nat} {s0 : Nat × Nat} (hG : MG I n gr) (hset : set < 2 ^ n) (hrest : rest < set) (hp : p < n) (hTb : ∀ j, (T j).1 ≤ 12 ∧ (T j).2 ≤ 12) (hgo : ∀ (I' : AI) (x5 x6 : Value), notL x5 = true → notL x6 = true → PT I' T set → I' 83 set = nI (lp (pkO n gr T p rest) n s0).1 → I' 84 set = nI (lp (pkO n gr T p rest) n s0).2 → sb f83 I I' → G l (d + 1) mX12_pack K 184 [.ref 75, .int wh, .int (nI set), .int (nI p), .int (nI rest), x5, x6] [] I' J (rX g)) : ∀ (k q : Nat) (I1 : AI) (x6 : Value), notL x6 = true → n - q = k → q ≤ n → PT I1 T set → I1 83 set = nI (lp (pkO n gr T p rest) q s0).1 → I1 84 set = nI (lp (pkO n gr T p rest) q s0).2 → ((lp (pkO n gr T p rest) q s0).1 ≤ 14 ∧ (lp (pkO n gr T p rest) q s0).2 ≤ 14) → sb f83 I I1 → G l (d + 1) mX12_pack K 68 [.ref 75, .int wh, .int (nI set), .int (nI p), .int (nI rest), .int (nI q), x6] [] I1 J (rX g) := by
  intro k
  induction k using Nat.strongRecOn with
  | _ k ih =>
  intro q I1 x6 hx6 hqk hqn hPT h83 h84 hb hs1
  have hn := hG.2.1
  have hG1 : MG I1 n gr := hG.sb hs1 rfl (fun _ => rfl)
  have e0 := hG1.1
  have hset4 : set < 4096 := Nat.lt_of_lt_of_le hset (pow12 hn)
  have hip := in12 hp hn
  have hand : rest &&& gr p ≤ rest := Nat.and_le_left
  refine G_iload_5 (nx := 70) ⟨dX12_pack_68, rfl⟩ ?_
  refine G_aload_0 (nx := 71) ⟨dX12_pack_70, rfl⟩ ?_
  refine G_geti (nx := 74) (k := 75) ⟨dX12_pack_71, rfl⟩ fX12_122 q_75 yi_12_0 ?_
  rw [e0]
  refine G_icmpge (tgt := 184) (nx := 77) ⟨dX12_pack_74, rfl⟩ rfl (fun c_74 => ?_) (fun c_74 => ?_)
  · rw [nI_le_iff (by omega) (by omega)] at c_74
    have e : q = n := by omega
    subst e
    exact hgo I1 _ x6 rfl hx6 hPT h83 h84 hs1
  · rw [nI_le_iff (by omega) (by omega)] at c_74
    have hql : q < n := by omega
    have hpw : 2 ^ q < 2 ^ 12 := Nat.pow_lt_pow_right (by omega) (by omega)
    have hdl : df rest (2 ^ q) < set := Nat.lt_of_le_of_lt (df_le _ _) hrest
    refine G_iload_4 (nx := 79) ⟨dX12_pack_77, rfl⟩ ?_
    refine G_aload_0 (nx := 80) ⟨dX12_pack_79, rfl⟩ ?_
    refine G_getr (nx := 83) (k := 75) (r := 78) ⟨dX12_pack_80, rfl⟩ fX12_20 q_75 yr_12_4 (r_75_4 _) ?_
    refine G_iload_3 (nx := 84) ⟨dX12_pack_83, rfl⟩ ?_
    refine G_iald (nx := 85) (k := 78) ⟨dX12_pack_84, rfl⟩ q_78 (by first | assumption | decide | (unfold vp_in; decide)) ?_
    rw [hG1.row hp]
    refine G_iand (nx := 86) ⟨dX12_pack_85, rfl⟩ ?_
    rw [nI_and]
    refine G_iload_5 (nx := 88) ⟨dX12_pack_86, rfl⟩ ?_
    refine G_cs2 (nx := 91) ⟨dX12_pack_88, rfl⟩ kX12_118 rfl rfl (Nat.le_of_ble_eq_true rfl) (Nat.le_of_ble_eq_true rfl) (cM_has (by omega) (by omega) ?_)
    refine G_ifne (tgt := 97) (nx := 94) ⟨dX12_pack_91, rfl⟩ rfl (fun c_91 => ?_) (fun c_91 => ?_)
    · rw [bi_n0] at c_91
      refine G_aload_0 (nx := 98) ⟨dX12_pack_97, rfl⟩ ?_
      refine G_iload_2 (nx := 99) ⟨dX12_pack_98, rfl⟩ ?_
      refine G_iload_4 (nx := 101) ⟨dX12_pack_99, rfl⟩ ?_
      refine G_iconst (nx := 102) ⟨dX12_pack_101, rfl⟩ ci_1 ?_
      refine G_iload_5 (nx := 104) ⟨dX12_pack_102, rfl⟩ ?_
      refine G_ishl (nx := 105) ⟨dX12_pack_104, rfl⟩ ?_
      refine G_iconst (nx := 106) ⟨dX12_pack_105, rfl⟩ ci_m1 ?_
      refine G_ixor (nx := 107) ⟨dX12_pack_106, rfl⟩ ?_
      refine G_iand (nx := 108) ⟨dX12_pack_107, rfl⟩ ?_
      refine G_iconst (nx := 109) ⟨dX12_pack_108, rfl⟩ ci_1 ?_
      rw [one_shl (show q < 31 by omega), nI_df _ (by omega), show nI (df rest (2 ^ q)) = nI (df rest (2 ^ q)) from rfl]
      refine G_cvv3 (nx := 112) ⟨dX12_pack_109, rfl⟩ kX12_250 rfl q_75 rfl (Nat.le_of_ble_eq_true rfl) (Nat.le_of_ble_eq_true rfl) (cM_packsTo (m := 1) hset4 (by omega) ?_)
      refine G_iload_5 (nx := 114) ⟨dX12_pack_112, rfl⟩ ?_
      refine G_iconst (nx := 115) ⟨dX12_pack_114, rfl⟩ ci_1 ?_
      refine G_iadd (nx := 116) ⟨dX12_pack_115, rfl⟩ ?_
      refine G_istore_6 (nx := 118) ⟨dX12_pack_116, rfl⟩ rfl rfl ?_
      obtain ⟨k1, k2, k3⟩ := pkS_ok (I := I1) (a := set) (mm := 1) (Or.inl rfl) (hPT (df rest (2 ^ q)) hdl).1 (hPT (df rest (2 ^ q)) hdl).2 h83 h84 hb.1 hb.2 (hTb _).1 (hTb _).2
      have hsb2 := hs1.tr (sb83 k3)
      have hb2 : (((bt (lp (pkO n gr T p rest) q s0) ((T (df rest (2 ^ q))).1 + 1, (T (df rest (2 ^ q))).2 + 1))).1 ≤ 14 ∧ ((bt (lp (pkO n gr T p rest) q s0) ((T (df rest (2 ^ q))).1 + 1, (T (df rest (2 ^ q))).2 + 1))).2 ≤ 14) := by
        have ht := hTb (df rest (2 ^ q))
        exact bt_P (P := fun s => s.1 ≤ 14 ∧ s.2 ≤ 14) hb (by simp only; omega)
      have hin : ∀ (X : Nat) (s : Nat × Nat), lp (pkI T X rest q) (q + 1) s = s := by
        intro X s
        have : ∀ k, k ≤ q + 1 → lp (pkI T X rest q) k s = s := by
          intro k
          induction k with
          | zero => intro _; rfl
          | succ k ih => intro hk; rw [lp_s, ih (by omega), pkI, if_neg (by omega)]
        exact this _ (Nat.le_refl _)
      have est : lp (pkO n gr T p rest) (q + 1) s0 = lp (pkI T (rest &&& gr p &&& gr q) rest q) n (bt (lp (pkO n gr T p rest) q s0) ((T (df rest (2 ^ q))).1 + 1, (T (df rest (2 ^ q))).2 + 1)) := by rw [lp_s, pkO, if_pos c_91]
      rw [nI_1]
      refine lM_pk3 (s0 := (bt (lp (pkO n gr T p rest) q s0) ((T (df rest (2 ^ q))).1 + 1, (T (df rest (2 ^ q))).2 + 1))) hG hset hrest hp hql hTb hb2 (fun I2 y6 hy6 p1 p2 p3 p4 p5 => ?_) _ (q + 1) _ rfl (by omega) (by omega) (PT_kp hPT k3) (by rw [hin]; exact k1) (by rw [hin]; exact k2) (by rw [hin]; exact hb2) hsb2
      refine G_iinc_5 (nx := 181) ⟨dX12_pack_178, rfl⟩ ci_1 rfl ?_
      refine G_goto (tgt := 68) ⟨dX12_pack_181, rfl⟩ rfl ?_
      exact G_L (by rw [nI_1]) (ih (n - (q + 1)) (by omega) (q + 1) I2 y6 hy6 rfl (by omega) p1 (by rw [est]; exact p2) (by rw [est]; exact p3) (by rw [est]; exact p4) p5)
      
    · refine G_goto (tgt := 178) ⟨dX12_pack_94, rfl⟩ rfl ?_
      refine G_iinc_5 (nx := 181) ⟨dX12_pack_178, rfl⟩ ci_1 rfl ?_
      refine G_goto (tgt := 68) ⟨dX12_pack_181, rfl⟩ rfl ?_
      rw [bi_0] at c_91
      have est : lp (pkO n gr T p rest) (q + 1) s0 = lp (pkO n gr T p rest) q s0 := by rw [lp_s, pkO, if_neg (fun h => by rw [c_91] at h; cases h)]
      exact G_L (by rw [nI_1]) (ih (n - (q + 1)) (by omega) (q + 1) I1 x6 hx6 rfl (by omega) hPT (by rw [est]; exact h83) (by rw [est]; exact h84) (by rw [est]; exact hb) hs1)

theorem lM_pk1 {wh : Int32} (hG : MG I n gr) (hk : ∀ (I' : AI), sb f83 I I' → K (.int (if wh = 0 then nI (pkA n gr (2 ^ n) (2 ^ n - 1)).1 else nI (pkA n gr (2 ^ n) (2 ^ n - 1)).2)) I' J (rX g)) : ∀ (k set : Nat) (I1 : AI) (x3 x4 x5 x6 : Value), notL x3 = true → notL x4 = true → notL x5 = true → notL x6 = true → 2 ^ n - set = k → 0 < set → set ≤ 2 ^ n → PT I1 (pkA n gr set) set → sb f83 I I1 → G l (d + 2) mX12_pack K 28 [.ref 75, .int wh, .int (nI set), x3, x4, x5, x6] [] I1 J (rX g) := by
  intro k
  induction k using Nat.strongRecOn with
  | _ k ih =>
  intro set I1 x3 x4 x5 x6 hx3 hx4 hx5 hx6 hsk h0 hsn hPT hs1
  have hn := hG.2.1
  have hp12 := pow12 hn
  have hG1 : MG I1 n gr := hG.sb hs1 rfl (fun _ => rfl)
  have hi4 : vp_in (nI (2 ^ n - 1)) 4096 := in4k (by omega)
  have ec4 := cl_nI (p := 2 ^ n - 1) (by omega)
  refine G_iload_2 (nx := 29) ⟨dX12_pack_28, rfl⟩ ?_
  refine G_aload_0 (nx := 30) ⟨dX12_pack_29, rfl⟩ ?_
  refine G_cv0 (nx := 33) ⟨dX12_pack_30, rfl⟩ kX12_129 rfl q_75 rfl (Nat.le_of_ble_eq_true rfl) (Nat.le_of_ble_eq_true rfl) (cM_all hG1 ?_)
  refine G_icmpgt (tgt := 190) (nx := 36) ⟨dX12_pack_33, rfl⟩ rfl (fun c_33 => ?_) (fun c_33 => ?_)
  · refine G_iload_1 (nx := 191) ⟨dX12_pack_190, rfl⟩ ?_
    refine G_ifne (tgt := 206) (nx := 194) ⟨dX12_pack_191, rfl⟩ rfl (fun c_191 => ?_) (fun c_191 => ?_)
    · refine G_aload_0 (nx := 207) ⟨dX12_pack_206, rfl⟩ ?_
      refine G_getr (nx := 210) (k := 75) (r := 84) ⟨dX12_pack_207, rfl⟩ fX12_38 q_75 yr_12_15 (r_75_15 _) ?_
      refine G_aload_0 (nx := 211) ⟨dX12_pack_210, rfl⟩ ?_
      refine G_cv0 (nx := 214) ⟨dX12_pack_211, rfl⟩ kX12_129 rfl q_75 rfl (Nat.le_of_ble_eq_true rfl) (Nat.le_of_ble_eq_true rfl) (cM_all hG1 ?_)
      refine G_iald (nx := 215) (k := 84) ⟨dX12_pack_214, rfl⟩ q_84 (by first | assumption | decide | (unfold vp_in; decide)) ?_
      refine G_iret ⟨dX12_pack_215, rfl⟩ rfl ?_
      rw [nI_lt_iff (by omega) (by omega)] at c_33
      have e : set = 2 ^ n := by omega
      subst e
      have fin := hk I1 hs1
      have h1 := hPT (2 ^ n - 1) (by omega)
      rw [ec4]
      rw [if_neg c_191] at fin
      rw [h1.2]
      exact fin
    · refine G_aload_0 (nx := 195) ⟨dX12_pack_194, rfl⟩ ?_
      refine G_getr (nx := 198) (k := 75) (r := 83) ⟨dX12_pack_195, rfl⟩ fX12_35 q_75 yr_12_14 (r_75_14 _) ?_
      refine G_aload_0 (nx := 199) ⟨dX12_pack_198, rfl⟩ ?_
      refine G_cv0 (nx := 202) ⟨dX12_pack_199, rfl⟩ kX12_129 rfl q_75 rfl (Nat.le_of_ble_eq_true rfl) (Nat.le_of_ble_eq_true rfl) (cM_all hG1 ?_)
      refine G_iald (nx := 203) (k := 83) ⟨dX12_pack_202, rfl⟩ q_83 (by first | assumption | decide | (unfold vp_in; decide)) ?_
      refine G_goto (tgt := 215) ⟨dX12_pack_203, rfl⟩ rfl ?_
      refine G_iret ⟨dX12_pack_215, rfl⟩ rfl ?_
      rw [nI_lt_iff (by omega) (by omega)] at c_33
      have e : set = 2 ^ n := by omega
      subst e
      have fin := hk I1 hs1
      have h1 := hPT (2 ^ n - 1) (by omega)
      rw [ec4]
      rw [if_pos c_191] at fin
      rw [h1.1]
      exact fin
  · rw [nI_lt_iff (by omega) (by omega)] at c_33
    have hset : set < 2 ^ n := by omega
    have hset4 : set < 4096 := by omega
    have hi5 := in4k hset4
    have ec5 := cl_nI (p := set) (by omega)
    obtain ⟨f1, f2, f3⟩ := fb_s hset4 (by omega)
    have hfl : fb set < n := tb_ltn hset f2
    have e1 : nI set - 1 = nI (set - 1) := by
      obtain ⟨b, rfl⟩ : ∃ b, set = b + 1 := ⟨set - 1, by omega⟩
      exact nI_pred b
    have hrl : df set (2 ^ fb set) < set := by rw [← f1]; exact and_pred_lt (by omega)
    refine G_iload_2 (nx := 37) ⟨dX12_pack_36, rfl⟩ ?_
    refine G_cs1 (nx := 40) ⟨dX12_pack_37, rfl⟩ kX12_213 rfl rfl (Nat.le_of_ble_eq_true rfl) (Nat.le_of_ble_eq_true rfl) (cM_first hset4 f2 f3 ?_)
    refine G_istore_3 (nx := 41) ⟨dX12_pack_40, rfl⟩ rfl rfl ?_
    refine G_iload_2 (nx := 42) ⟨dX12_pack_41, rfl⟩ ?_
    refine G_iload_2 (nx := 43) ⟨dX12_pack_42, rfl⟩ ?_
    refine G_iconst (nx := 44) ⟨dX12_pack_43, rfl⟩ ci_1 ?_
    refine G_isub (nx := 45) ⟨dX12_pack_44, rfl⟩ ?_
    refine G_iand (nx := 46) ⟨dX12_pack_45, rfl⟩ ?_
    rw [e1, nI_and, f1]
    refine G_istore_4 (nx := 48) ⟨dX12_pack_46, rfl⟩ rfl rfl ?_
    refine G_aload_0 (nx := 49) ⟨dX12_pack_48, rfl⟩ ?_
    refine G_getr (nx := 52) (k := 75) (r := 83) ⟨dX12_pack_49, rfl⟩ fX12_35 q_75 yr_12_14 (r_75_14 _) ?_
    refine G_iload_2 (nx := 53) ⟨dX12_pack_52, rfl⟩ ?_
    refine G_iconst (nx := 54) ⟨dX12_pack_53, rfl⟩ ci_m1 ?_
    refine G_iast (nx := 55) (k := 83) ⟨dX12_pack_54, rfl⟩ q_83 (by first | assumption | decide | (unfold vp_in; decide)) ?_
    rw [ec5]
    refine G_aload_0 (nx := 56) ⟨dX12_pack_55, rfl⟩ ?_
    refine G_iload_2 (nx := 57) ⟨dX12_pack_56, rfl⟩ ?_
    refine G_iload_4 (nx := 59) ⟨dX12_pack_57, rfl⟩ ?_
    refine G_iconst (nx := 60) ⟨dX12_pack_59, rfl⟩ ci_0 ?_
    refine G_cvv3 (nx := 63) ⟨dX12_pack_60, rfl⟩ kX12_250 rfl q_75 rfl (Nat.le_of_ble_eq_true rfl) (Nat.le_of_ble_eq_true rfl) (cM_packsTo hset4 (by omega) ?_)
    refine G_iload_3 (nx := 64) ⟨dX12_pack_63, rfl⟩ ?_
    refine G_iconst (nx := 65) ⟨dX12_pack_64, rfl⟩ ci_1 ?_
    refine G_iadd (nx := 66) ⟨dX12_pack_65, rfl⟩ ?_
    refine G_istore_5 (nx := 68) ⟨dX12_pack_66, rfl⟩ rfl rfl ?_
    have hPT1 : PT (w2 I1 83 set (-1)) (pkA n gr set) set := PT_kp hPT (fun x y h => w2_ne _ _ _ _ (by omega))
    have hTb : ∀ j, (pkA n gr set j).1 ≤ 12 ∧ (pkA n gr set j).2 ≤ 12 := fun j => pkP_12 (pkA_P hn set (by omega) j)
    obtain ⟨k1, k2, k3⟩ := pkS_0 (I := w2 I1 83 set (-1)) (a := set) (hPT1 (df set (2 ^ fb set)) hrl).1 (hPT1 (df set (2 ^ fb set)) hrl).2 (w2_at _ _ _ _) (hTb _).1
    have hPT2 := PT_kp hPT1 k3
    have hsb2 := (hs1.w (k := 83) (j := set) (v := -1) rfl).tr (sb83 k3)
    have hT2 := hTb (df set (2 ^ fb set))
    have hin : ∀ k, k ≤ fb set + 1 → lp (pkO n gr (pkA n gr set) (fb set) (df set (2 ^ fb set))) k (pkA n gr set (df set (2 ^ fb set))) = pkA n gr set (df set (2 ^ fb set)) := by
      intro k
      induction k with
      | zero => intro _; rfl
      | succ k ih =>
        intro hk
        rw [lp_s, ih (by omega), pkO, if_neg]
        intro h
        rw [Nat.testBit_and, Bool.and_eq_true, tb_del, Bool.and_eq_true] at h
        rcases Nat.lt_or_ge k (fb set) with q | q
        · rw [f3 k q] at h; cases h.1.1
        · have : k = fb set := by omega
          subst this
          simp at h
    rw [nI_1]
    refine lM_pk2 (d := d + 1) (T := pkA n gr set) (s0 := pkA n gr set (df set (2 ^ fb set))) hG hset hrl hfl hTb (fun I2 y5 y6 hy5 hy6 p1 p2 p3 p4 => ?_) _ (fb set + 1) _ x6 hx6 rfl (by omega) hPT2 (by rw [hin _ (Nat.le_refl _)]; exact k1) (by rw [hin _ (Nat.le_refl _)]; exact k2) (by rw [hin _ (Nat.le_refl _)]; omega) hsb2
    refine G_iinc_2 (nx := 187) ⟨dX12_pack_184, rfl⟩ ci_1 rfl ?_
    refine G_goto (tgt := 28) ⟨dX12_pack_187, rfl⟩ rfl ?_
    refine G_L (by rw [nI_1]) (ih (2 ^ n - (set + 1)) (by omega) (set + 1) I2 _ _ y5 y6 rfl rfl hy5 hy6 rfl (by omega) (by omega) (fun j hj => ?_) p4)
    unfold pkA
    by_cases e : j = set
    · rw [if_pos e, if_neg (by omega), e]
      exact ⟨p2, p3⟩
    · rw [if_neg e]
      exact p1 j (by omega)
    

theorem cM_pack {wh : Int32} (hG : MG I n gr) (hk1 : inR wh 0 1 = false → K (.int (-2)) I J (rX g)) (hk : ∀ (I' : AI), inR wh 0 1 = true → sb f83 I I' → K (.int (if wh = 0 then nI (pkA n gr (2 ^ n) (2 ^ n - 1)).1 else nI (pkA n gr (2 ^ n) (2 ^ n - 1)).2)) I' J (rX g)) : G l (d + 2) mX12_pack K 0 [.ref 75, .int wh, UU, UU, UU, UU, UU] [] I J (rX g) := by
  have hi0 : vp_in (0 : Int32) 4096 := in4k (p := 0) (by decide)
  have ec0 : (0 : Int32).toNatClampNeg = 0 := by decide
  refine G_iload_1 (nx := 1) ⟨dX12_pack_0, rfl⟩ ?_
  refine G_iconst (nx := 2) ⟨dX12_pack_1, rfl⟩ ci_0 ?_
  refine G_iconst (nx := 3) ⟨dX12_pack_2, rfl⟩ ci_1 ?_
  refine G_cs3 (nx := 6) ⟨dX12_pack_3, rfl⟩ kX12_125 rfl rfl (Nat.le_of_ble_eq_true rfl) (Nat.le_of_ble_eq_true rfl) (cM_in ?_)
  refine G_ifne (tgt := 12) (nx := 9) ⟨dX12_pack_6, rfl⟩ rfl (fun c_6 => ?_) (fun c_6 => ?_)
  · rw [bi_n0] at c_6
    refine G_aload_0 (nx := 13) ⟨dX12_pack_12, rfl⟩ ?_
    refine G_getr (nx := 16) (k := 75) (r := 83) ⟨dX12_pack_13, rfl⟩ fX12_35 q_75 yr_12_14 (r_75_14 _) ?_
    refine G_iconst (nx := 17) ⟨dX12_pack_16, rfl⟩ ci_0 ?_
    refine G_iconst (nx := 18) ⟨dX12_pack_17, rfl⟩ ci_0 ?_
    refine G_iast (nx := 19) (k := 83) ⟨dX12_pack_18, rfl⟩ q_83 (by first | assumption | decide | (unfold vp_in; decide)) ?_
    rw [ec0]
    refine G_aload_0 (nx := 20) ⟨dX12_pack_19, rfl⟩ ?_
    refine G_getr (nx := 23) (k := 75) (r := 84) ⟨dX12_pack_20, rfl⟩ fX12_38 q_75 yr_12_15 (r_75_15 _) ?_
    refine G_iconst (nx := 24) ⟨dX12_pack_23, rfl⟩ ci_0 ?_
    refine G_iconst (nx := 25) ⟨dX12_pack_24, rfl⟩ ci_0 ?_
    refine G_iast (nx := 26) (k := 84) ⟨dX12_pack_25, rfl⟩ q_84 (by first | assumption | decide | (unfold vp_in; decide)) ?_
    rw [ec0]
    refine G_iconst (nx := 27) ⟨dX12_pack_26, rfl⟩ ci_1 ?_
    refine G_istore_2 (nx := 28) ⟨dX12_pack_27, rfl⟩ rfl rfl ?_
    have h1p : 0 < 2 ^ n := Nat.two_pow_pos n
    refine G_L (by rw [show (1 : Int32) = nI 1 by decide]) (lM_pk1 hG (fun I1 hs1 => hk I1 c_6 hs1) _ 1 _ UU UU UU UU rfl rfl rfl rfl rfl (by omega) (by omega) (fun j hj => ?_) ((sb.rf.w rfl).w rfl))
    have e : j = 0 := by omega
    subst e
    exact ⟨by rw [w2_row _ _ _ _ (show ¬ 83 = 84 by decide), w2_at]; rfl, by rw [w2_at]; rfl⟩
  · rw [bi_0] at c_6
    refine G_bipush (nx := 11) ⟨dX12_pack_9, rfl⟩ cb_m2 ?_
    refine G_iret ⟨dX12_pack_11, rfl⟩ rfl ?_
    exact hk1 c_6

end M55
