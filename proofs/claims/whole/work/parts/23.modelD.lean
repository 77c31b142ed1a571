def sb (F : Nat → Nat → Bool) (I I' : AI) : Prop := ∀ a b, F a b = false → I' a b = I a b
theorem sb.rf {F : Nat → Nat → Bool} {I : AI} : sb F I I := fun _ _ _ => rfl
theorem sb.tr {F : Nat → Nat → Bool} {I I1 I2 : AI} (h1 : sb F I I1) (h2 : sb F I1 I2) : sb F I I2 := fun a b h => (h2 a b h).trans (h1 a b h)
theorem sb.w {F : Nat → Nat → Bool} {I I1 : AI} (h : sb F I I1) {k j : Nat} {v : Int32} (hF : F k j = true) : sb F I (w2 I1 k j v) := fun a b hf => by
  rw [w2_ne _ _ _ _ (fun e => by rw [e.1, e.2, hF] at hf; cases hf)]
  exact h a b hf
theorem sb.mono {F F' : Nat → Nat → Bool} {I I' : AI} (h : sb F I I') (hF : ∀ a b, F' a b = false → F a b = false) : sb F' I I' := fun a b hf => h a b (hF a b hf)
theorem MG.sb {F : Nat → Nat → Bool} {I I' : AI} {n : Nat} {gr : Nat → Nat} (h : MG I n gr) (hs : sb F I I') (h0 : F 75 0 = false) (h1 : ∀ p, F 78 p = false) : MG I' n gr :=
  ⟨by rw [hs 75 0 h0]; exact h.1, h.2.1, fun p hp => by rw [hs 78 p (h1 p)]; exact h.2.2.1 p hp, h.2.2.2⟩
def fH (a b : Nat) : Bool := a == 79 || (a == 75 && b == 6)
def mv : Option Nat → Int32
  | none => -1
  | some r => nI r
theorem nI_ne_m1 {r : Nat} (h : r < 2 ^ 31) : ¬ nI r = -1 := by
  intro e
  have := congrArg Int32.toInt e
  rw [nI_toInt h, show (-1 : Int32).toInt = -1 by decide] at this
  omega
def rowM (k : Nat) (I : AI) (m : Nat → Option Nat) : Prop := ∀ q, q < 12 → I k q = mv (m q)
theorem rowM.w {k : Nat} {I : AI} {m : Nat → Option Nat} (h : rowM k I m) {a j : Nat} {v : Int32} (hk : ¬ k = a) : rowM k (w2 I a j v) m := fun q hq => by rw [w2_row _ _ _ _ hk]; exact h q hq
theorem rowM.mu {k : Nat} {I : AI} {m : Nat → Option Nat} (h : rowM k I m) (q p : Nat) : rowM k (w2 I k q (nI p)) (mu m q p) := fun x hx => by
  by_cases e : x = q
  · subst e; rw [w2_at, mu_at]; rfl
  · rw [w2_ne _ _ _ _ (fun z => e z.2), mu_ne e]; exact h x hx
theorem pc_ins {S q : Nat} (hq : q < 12) (h : S.testBit q = false) : pc (S ||| 2 ^ q) = pc S + 1 := by
  rw [pc_cn, pc_cn, ← cn_add1 hq h]
  apply cn_congr
  intro k _
  rw [tb_ins]
  congr 1
  exact decide_eq_decide.mpr ⟨Eq.symm, Eq.symm⟩
theorem ins_lt {S q : Nat} (hS : S < 4096) (hq : q < 12) : S ||| 2 ^ q < 4096 := by
  have h1 : 2 ^ q < 2 ^ 12 := Nat.pow_lt_pow_right (by omega) hq
  exact Nat.or_lt_two_pow (n := 12) (by simpa using hS) h1
def PairsC (l : Launch) (D kk n : Nat) (gr : Nat → Nat) (A B : Nat) (J : AJ) (g : Bool) : Prop := ∀ (K : AK) (I : AI) (m : Nat → Option Nat) (S p : Nat), MG I n gr → I 75 6 = nI S → S < 4096 → rowM 79 I m → EV gr n A B m → IJ S m → (∀ x, S.testBit x = false → ¬ m x = some p) → p < n → A.testBit p = true → 12 ≤ pc S + kk →
  (∀ (m' : Nat → Option Nat) (S' : Nat) (I' : AI), PS gr n A B m S p m' → rowM 79 I' m' → I' 75 6 = nI S' → S' < 4096 → sb fH I I' → K (.int 1) I' J (rX g)) →
  (∀ (S' : Nat) (I' : AI), PF gr B m S p S' → rowM 79 I' m → I' 75 6 = nI S' → S' < 4096 → sb fH I I' → K (.int 0) I' J (rX g)) →
  G l D mX12_pairs K 0 [.ref 75, .int (nI p), .int (nI B), UU] [] I J (rX g)
section M23
variable {l : Launch} {d : Nat} {K : AK} {I : AI} {J : AJ} {g : Bool} {n : Nat} {gr : Nat → Nat}

theorem lM_pairs {D kk A B S p : Nat} {m : Nat → Option Nat} (hrec : ∀ kk', kk = kk' + 1 → PairsC l D kk' n gr A B J g) (hB : B < 2 ^ n) (hG : MG I n gr) (hE : EV gr n A B m) (hI : IJ S m) (hp : ∀ x, S.testBit x = false → ¬ m x = some p) (hpn : p < n) (hpA : A.testBit p = true) (hS : S < 4096) (hkk : 12 ≤ pc S + kk)
  (hs : ∀ (m' : Nat → Option Nat) (S' : Nat) (I' : AI), PS gr n A B m S p m' → rowM 79 I' m' → I' 75 6 = nI S' → S' < 4096 → sb fH I I' → K (.int 1) I' J (rX g))
  (hf : ∀ (S' : Nat) (I' : AI), PF gr B m S p S' → rowM 79 I' m → I' 75 6 = nI S' → S' < 4096 → sb fH I I' → K (.int 0) I' J (rX g)) :
  ∀ (k q Si : Nat) (I1 : AI), n - q = k → q ≤ n → LI gr B m S p q Si → Si < 4096 → I1 75 6 = nI Si → rowM 79 I1 m → sb fH I I1 → pc S ≤ pc Si → G l (D + 1) mX12_pairs K 2 [.ref 75, .int (nI p), .int (nI B), .int (nI q)] [] I1 J (rX g) := by
  intro k
  induction k using Nat.strongRecOn with
  | _ k ih =>
  intro q Si I1 hqk hqn hli hSi hseen hrow hsb hpc
  have hG1 : MG I1 n gr := hG.sb hsb rfl (fun _ => rfl)
  have hn := hG.2.1
  have e0 := hG1.1
  have hp12 := in12 hpn hn
  have hB4 : B < 4096 := Nat.lt_of_lt_of_le hB (pow12 hn)
  have ha4 : gr p &&& B < 4096 := Nat.lt_of_le_of_lt Nat.and_le_right hB4
  have hx4 : df (gr p &&& B) Si < 4096 := Nat.lt_of_le_of_lt (df_le _ _) ha4

  refine G_iload_3 (nx := 3) ⟨dX12_pairs_2, rfl⟩ ?_
  refine G_aload_0 (nx := 4) ⟨dX12_pairs_3, rfl⟩ ?_
  refine G_geti (nx := 7) (k := 75) ⟨dX12_pairs_4, rfl⟩ fX12_122 q_75 yi_12_0 ?_
  rw [e0]
  refine G_icmpge (tgt := 86) (nx := 10) ⟨dX12_pairs_7, rfl⟩ rfl (fun c_7 => ?_) (fun c_7 => ?_)
  · refine G_iconst (nx := 87) ⟨dX12_pairs_86, rfl⟩ ci_0 ?_
    refine G_zret ⟨dX12_pairs_87, rfl⟩ rfl (by first | assumption | decide | exact bi_01 _) ?_
    rw [nI_le_iff (by omega) (by omega)] at c_7
    have hqe : q = n := by omega
    subst hqe
    exact hf Si I1 (LI_end hli (fun x hx => tb_ltn hB hx)) hrow hseen hSi hsb
  · rw [nI_le_iff (by omega) (by omega)] at c_7
    have hq : q < n := by omega
    have hq12 := in12 hq hn
    have ecq := cl_nI (p := q) (by omega)
    refine G_aload_0 (nx := 11) ⟨dX12_pairs_10, rfl⟩ ?_
    refine G_getr (nx := 14) (k := 75) (r := 78) ⟨dX12_pairs_11, rfl⟩ fX12_20 q_75 yr_12_4 (r_75_4 _) ?_
    refine G_iload_1 (nx := 15) ⟨dX12_pairs_14, rfl⟩ ?_
    refine G_iald (nx := 16) (k := 78) ⟨dX12_pairs_15, rfl⟩ q_78 (by first | assumption | decide) ?_
    rw [hG1.row hpn]
    refine G_iload_2 (nx := 17) ⟨dX12_pairs_16, rfl⟩ ?_
    refine G_iand (nx := 18) ⟨dX12_pairs_17, rfl⟩ ?_
    rw [nI_and]
    refine G_aload_0 (nx := 19) ⟨dX12_pairs_18, rfl⟩ ?_
    refine G_geti (nx := 22) (k := 75) ⟨dX12_pairs_19, rfl⟩ fX12_190 q_75 yi_12_6 ?_
    rw [hseen]
    refine G_iconst (nx := 23) ⟨dX12_pairs_22, rfl⟩ ci_m1 ?_
    refine G_ixor (nx := 24) ⟨dX12_pairs_23, rfl⟩ ?_
    refine G_iand (nx := 25) ⟨dX12_pairs_24, rfl⟩ ?_
    rw [nI_df _ (by omega)]
    refine G_iload_3 (nx := 26) ⟨dX12_pairs_25, rfl⟩ ?_
    refine G_cs2 (nx := 29) ⟨dX12_pairs_26, rfl⟩ kX12_118 rfl rfl (Nat.le_of_ble_eq_true rfl) (Nat.le_of_ble_eq_true rfl) (cM_has (lt31 hx4) (by omega) ?_)
    refine G_ifne (tgt := 35) (nx := 32) ⟨dX12_pairs_29, rfl⟩ rfl (fun c_29 => ?_) (fun c_29 => ?_)
    · rw [bi_n0, tb_df, Nat.testBit_and] at c_29
      simp only [Bool.and_eq_true, Bool.not_eq_true'] at c_29
      obtain ⟨⟨hadj, hqB⟩, hqS⟩ := c_29
      have hpci := pc_ins (show q < 12 by omega) hqS
      refine G_aload_0 (nx := 36) ⟨dX12_pairs_35, rfl⟩ ?_
      refine G_dup (nx := 37) ⟨dX12_pairs_36, rfl⟩ rfl ?_
      refine G_geti (nx := 40) (k := 75) ⟨dX12_pairs_37, rfl⟩ fX12_190 q_75 yi_12_6 ?_
      rw [hseen]
      refine G_iconst (nx := 41) ⟨dX12_pairs_40, rfl⟩ ci_1 ?_
      refine G_iload_3 (nx := 42) ⟨dX12_pairs_41, rfl⟩ ?_
      refine G_ishl (nx := 43) ⟨dX12_pairs_42, rfl⟩ ?_
      refine G_ior (nx := 44) ⟨dX12_pairs_43, rfl⟩ ?_
      rw [one_shl (by omega), nI_or]
      refine G_puti (nx := 47) (k := 75) ⟨dX12_pairs_44, rfl⟩ pX12_190 q_75 yt_12_6 ?_
      refine G_aload_0 (nx := 48) ⟨dX12_pairs_47, rfl⟩ ?_
      refine G_getr (nx := 51) (k := 75) (r := 79) ⟨dX12_pairs_48, rfl⟩ fX12_23 q_75 yr_12_5 (r_75_5 _) ?_
      refine G_iload_3 (nx := 52) ⟨dX12_pairs_51, rfl⟩ ?_
      refine G_iald (nx := 53) (k := 79) ⟨dX12_pairs_52, rfl⟩ q_79 (by first | assumption | decide) ?_
      rw [ecq, w2_row _ _ _ _ (show ¬ 79 = 75 by decide), hrow q (by omega)]
      refine G_iconst (nx := 54) ⟨dX12_pairs_53, rfl⟩ ci_m1 ?_
      refine G_icmpeq (tgt := 71) (nx := 57) ⟨dX12_pairs_54, rfl⟩ rfl (fun c_54 => ?_) (fun c_54 => ?_)
      · refine G_aload_0 (nx := 72) ⟨dX12_pairs_71, rfl⟩ ?_
        refine G_getr (nx := 75) (k := 75) (r := 79) ⟨dX12_pairs_72, rfl⟩ fX12_23 q_75 yr_12_5 (r_75_5 _) ?_
        refine G_iload_3 (nx := 76) ⟨dX12_pairs_75, rfl⟩ ?_
        refine G_iload_1 (nx := 77) ⟨dX12_pairs_76, rfl⟩ ?_
        refine G_iast (nx := 78) (k := 79) ⟨dX12_pairs_77, rfl⟩ q_79 (by first | assumption | decide) ?_
        refine G_iconst (nx := 79) ⟨dX12_pairs_78, rfl⟩ ci_1 ?_
        refine G_zret ⟨dX12_pairs_79, rfl⟩ rfl (by first | assumption | decide | exact bi_01 _) ?_
        have hq0 : m q = none := by
          cases e : m q with
          | none => rfl
          | some r => rw [e] at c_54; exact absurd c_54 (nI_ne_m1 (by have := (hE q r e).1; omega))
        rw [ecq]
        exact hs _ _ _ (PS_free hE hI hp hpn hpA hli hq hqB hadj hqS hq0) ((hrow.w (by decide)).mu q p) (by rw [w2_ne _ _ _ _ (by omega)]; exact w2_at _ _ _ _) (ins_lt hSi (by omega)) ((hsb.w rfl).w rfl)
      · obtain ⟨r, hr⟩ : ∃ r, m q = some r := by
          cases e : m q with
          | none => rw [e] at c_54; exact absurd rfl c_54
          | some r => exact ⟨r, rfl⟩
        obtain ⟨hrn, -, hrA, -, -⟩ := hE q r hr
        obtain ⟨kk', hkk'⟩ : ∃ kk', kk = kk' + 1 := ⟨kk - 1, by have := pc_le (Si ||| 2 ^ q); omega⟩
        have hSf : ∀ x, Si.testBit x = false → S.testBit x = false := fun x hx => by
          cases e : S.testBit x with
          | false => rfl
          | true => rw [hli.1 x e] at hx; cases hx
        refine G_aload_0 (nx := 58) ⟨dX12_pairs_57, rfl⟩ ?_
        refine G_aload_0 (nx := 59) ⟨dX12_pairs_58, rfl⟩ ?_
        refine G_getr (nx := 62) (k := 75) (r := 79) ⟨dX12_pairs_59, rfl⟩ fX12_23 q_75 yr_12_5 (r_75_5 _) ?_
        refine G_iload_3 (nx := 63) ⟨dX12_pairs_62, rfl⟩ ?_
        refine G_iald (nx := 64) (k := 79) ⟨dX12_pairs_63, rfl⟩ q_79 (by first | assumption | decide) ?_
        rw [ecq, w2_row _ _ _ _ (show ¬ 79 = 75 by decide), hrow q (by omega), hr]
        refine G_iload_2 (nx := 65) ⟨dX12_pairs_64, rfl⟩ ?_
        refine G_cv2 (nx := 68) ⟨dX12_pairs_65, rfl⟩ kX12_193 rfl q_75 rfl (Nat.le_of_ble_eq_true rfl) (Nat.le_of_ble_eq_true rfl) (hrec kk' hkk' _ _ m (Si ||| 2 ^ q) r (hG1.w (by decide) (by decide)) (w2_at _ _ _ _) (ins_lt hSi (by omega)) (hrow.w (by decide)) hE (fun x x' v h1 h2 h3 h4 => hI x x' v (hSf x (tb_ins_f.mp h1).1) (hSf x' (tb_ins_f.mp h2).1) h3 h4) (fun x h1 h2 => (tb_ins_f.mp h1).2 (hI x q r (hSf x (tb_ins_f.mp h1).1) (hSf q hqS) h2 hr)) hrn hrA (by omega) (fun m1 S2 I2 hps hrow2 hs2 hS2 hsb2 => ?_) (fun S2 I2 hpf hrow2 hs2 hS2 hsb2 => ?_))
        · refine G_ifeq (tgt := 80) (nx := 71) ⟨dX12_pairs_68, rfl⟩ rfl (fun c_68 => ?_) (fun c_68 => ?_)
          · exact absurd c_68 (by decide)
          · refine G_aload_0 (nx := 72) ⟨dX12_pairs_71, rfl⟩ ?_
            refine G_getr (nx := 75) (k := 75) (r := 79) ⟨dX12_pairs_72, rfl⟩ fX12_23 q_75 yr_12_5 (r_75_5 _) ?_
            refine G_iload_3 (nx := 76) ⟨dX12_pairs_75, rfl⟩ ?_
            refine G_iload_1 (nx := 77) ⟨dX12_pairs_76, rfl⟩ ?_
            refine G_iast (nx := 78) (k := 79) ⟨dX12_pairs_77, rfl⟩ q_79 (by first | assumption | decide) ?_
            refine G_iconst (nx := 79) ⟨dX12_pairs_78, rfl⟩ ci_1 ?_
            refine G_zret ⟨dX12_pairs_79, rfl⟩ rfl (by first | assumption | decide | exact bi_01 _) ?_
            rw [ecq]
            exact hs _ _ _ (PS_rec hE hI hp hpn hpA hli hq hqB hadj hqS hr hps) (hrow2.mu q p) (by rw [w2_ne _ _ _ _ (by omega)]; exact hs2) hS2 (((hsb.w rfl).tr hsb2).w rfl)
        
        · refine G_ifeq (tgt := 80) (nx := 71) ⟨dX12_pairs_68, rfl⟩ rfl (fun c_68 => ?_) (fun c_68 => ?_)
          · refine G_iinc_3 (nx := 83) ⟨dX12_pairs_80, rfl⟩ ci_1 rfl ?_
            refine G_goto (tgt := 2) ⟨dX12_pairs_83, rfl⟩ rfl ?_
            refine G_L (by rw [nI_1]) (ih (n - (q + 1)) (by omega) (q + 1) S2 I2 rfl (by omega) (LI_fail hli hr hqS hpf) hS2 hs2 hrow2 ((hsb.w rfl).tr hsb2) ?_)
            have h1 : pc (Si ||| 2 ^ q) ≤ pc S2 := by
              rw [pc_cn, pc_cn]
              exact cn_mono (fun x _ hx => hpf.1 x hx)
            omega
          · exact absurd rfl c_68
        
    · rw [bi_0, tb_df, Nat.testBit_and] at c_29
      refine G_goto (tgt := 80) ⟨dX12_pairs_32, rfl⟩ rfl ?_
      refine G_iinc_3 (nx := 83) ⟨dX12_pairs_80, rfl⟩ ci_1 rfl ?_
      refine G_goto (tgt := 2) ⟨dX12_pairs_83, rfl⟩ rfl ?_
      refine G_L (by rw [nI_1]) (ih (n - (q + 1)) (by omega) (q + 1) Si I1 rfl (by omega) (LI_skip hli (fun h1 h2 => ?_)) hSi hseen hrow hsb hpc)
      simp only [h1, h2, Bool.and_self, Bool.true_and] at c_29
      simpa using c_29

theorem cM_pairs (A : Nat) {B : Nat} (hB : B < 2 ^ n) : ∀ kk, PairsC l (d + kk + 1) kk n gr A B J g := by
  intro kk
  induction kk with
  | zero =>
    intro K I m S p hG hseen hS hrow hE hI hp hpn hpA hkk hs hf
    refine G_iconst (nx := 1) ⟨dX12_pairs_0, rfl⟩ ci_0 ?_
    refine G_istore_3 (nx := 2) ⟨dX12_pairs_1, rfl⟩ rfl rfl ?_
    exact lM_pairs (fun kk' h => by omega) hB hG hE hI hp hpn hpA hS hkk hs hf _ 0 S I rfl (Nat.zero_le _) LI_0 hS hseen hrow sb.rf (Nat.le_refl _)
  | succ kk' ihk =>
    intro K I m S p hG hseen hS hrow hE hI hp hpn hpA hkk hs hf
    refine G_iconst (nx := 1) ⟨dX12_pairs_0, rfl⟩ ci_0 ?_
    refine G_istore_3 (nx := 2) ⟨dX12_pairs_1, rfl⟩ rfl rfl ?_
    exact lM_pairs (kk := kk' + 1) (fun kk2 h => by cases h; exact ihk) hB hG hE hI hp hpn hpA hS hkk hs hf _ 0 S I rfl (Nat.zero_le _) LI_0 hS hseen hrow sb.rf (Nat.le_refl _)
theorem lM_lhA {B : Nat} (hB : B < 2 ^ n) (hk : ∀ (I' : AI), MG I' n gr → rowM 79 I' (fun _ => none) → sb fH I I' → G l (d + 14) mX12_leastHalves K 21 [.ref 75, .int (nI B), .int 12, UU] [] I' J (rX g)) (hG : MG I n gr) : ∀ (k q : Nat) (I1 : AI), 12 - q = k → q ≤ 12 → (∀ x, x < q → I1 79 x = -1) → sb fH I I1 → G l (d + 14) mX12_leastHalves K 2 [.ref 75, .int (nI B), .int (nI q), UU] [] I1 J (rX g) := by
  intro k
  induction k using Nat.strongRecOn with
  | _ k ih =>
  intro q I1 hqk hqn hrow hsb
  refine G_iload_2 (nx := 3) ⟨dX12_leastHalves_2, rfl⟩ ?_
  refine G_bipush (nx := 5) ⟨dX12_leastHalves_3, rfl⟩ cb_12 ?_
  rw [show (12 : Int32) = nI 12 by decide]
  refine G_icmpge (tgt := 21) (nx := 8) ⟨dX12_leastHalves_5, rfl⟩ rfl (fun c_5 => ?_) (fun c_5 => ?_)
  · rw [nI_le_iff (by omega) (by omega)] at c_5
    have hqe : q = 12 := by omega
    subst hqe
    exact hk I1 (hG.sb hsb rfl (fun _ => rfl)) hrow hsb
  · rw [nI_le_iff (by omega) (by omega)] at c_5
    have hq : vp_in (nI q) 12 := vp_in_nI (by omega) (by decide)
    have ecq := cl_nI (p := q) (by omega)
    refine G_aload_0 (nx := 9) ⟨dX12_leastHalves_8, rfl⟩ ?_
    refine G_getr (nx := 12) (k := 75) (r := 79) ⟨dX12_leastHalves_9, rfl⟩ fX12_23 q_75 yr_12_5 (r_75_5 _) ?_
    refine G_iload_2 (nx := 13) ⟨dX12_leastHalves_12, rfl⟩ ?_
    refine G_iconst (nx := 14) ⟨dX12_leastHalves_13, rfl⟩ ci_m1 ?_
    refine G_iast (nx := 15) (k := 79) ⟨dX12_leastHalves_14, rfl⟩ q_79 (by first | assumption | decide) ?_
    refine G_iinc_2 (nx := 18) ⟨dX12_leastHalves_15, rfl⟩ ci_1 rfl ?_
    refine G_goto (tgt := 2) ⟨dX12_leastHalves_18, rfl⟩ rfl ?_
    refine G_L (by rw [nI_1]) (ih (12 - (q + 1)) (by omega) (q + 1) _ rfl (by omega) (fun x hx => ?_) (hsb.w rfl))
    rw [ecq]
    by_cases e : x = q
    · rw [e, w2_at]
    · rw [w2_ne _ _ _ _ (fun z => e z.2)]
      exact hrow x (by omega)

theorem lM_lhB {A : Nat} (hA : A < 2 ^ n) (hG : MG I n gr) (hk : ∀ (r : Nat) (I' : AI), IsNu gr A A r → sb fH I I' → K (.int (nI r)) I' J (rX g)) : ∀ (k p : Nat) (I1 : AI) (m : Nat → Option Nat) (Z : Nat → Prop), n - p = k → p ≤ n → RT gr n A A m Z p → rowM 79 I1 m → sb fH I I1 → G l (d + 14) mX12_leastHalves K 25 [.ref 75, .int (nI A), .int (nI (msz m)), .int (nI p)] [] I1 J (rX g) := by
  intro k
  induction k using Nat.strongRecOn with
  | _ k ih =>
  intro p I1 m Z hpk hpn hrt hrow hsb
  have hG1 : MG I1 n gr := hG.sb hsb rfl (fun _ => rfl)
  have hn := hG.2.1
  have e0 := hG1.1
  have hA4 : A < 4096 := Nat.lt_of_lt_of_le hA (pow12 hn)
  refine G_iload_3 (nx := 26) ⟨dX12_leastHalves_25, rfl⟩ ?_
  refine G_aload_0 (nx := 27) ⟨dX12_leastHalves_26, rfl⟩ ?_
  refine G_geti (nx := 30) (k := 75) ⟨dX12_leastHalves_27, rfl⟩ fX12_122 q_75 yi_12_0 ?_
  rw [e0]
  refine G_icmpge (tgt := 69) (nx := 33) ⟨dX12_leastHalves_30, rfl⟩ rfl (fun c_30 => ?_) (fun c_30 => ?_)
  · refine G_iload_2 (nx := 70) ⟨dX12_leastHalves_69, rfl⟩ ?_
    refine G_iret ⟨dX12_leastHalves_70, rfl⟩ rfl ?_
    rw [nI_le_iff (by omega) (by omega)] at c_30
    have hpe : p = n := by omega
    subst hpe
    exact hk _ I1 (RT_nu hrt hn hA) hsb
  · rw [nI_le_iff (by omega) (by omega)] at c_30
    have hp : p < n := by omega
    refine G_aload_0 (nx := 34) ⟨dX12_leastHalves_33, rfl⟩ ?_
    refine G_iconst (nx := 35) ⟨dX12_leastHalves_34, rfl⟩ ci_0 ?_
    refine G_puti (nx := 38) (k := 75) ⟨dX12_leastHalves_35, rfl⟩ pX12_190 q_75 yt_12_6 ?_
    refine G_iload_2 (nx := 39) ⟨dX12_leastHalves_38, rfl⟩ ?_
    refine G_iload_1 (nx := 40) ⟨dX12_leastHalves_39, rfl⟩ ?_
    refine G_iload_3 (nx := 41) ⟨dX12_leastHalves_40, rfl⟩ ?_
    refine G_cs2 (nx := 44) ⟨dX12_leastHalves_41, rfl⟩ kX12_118 rfl rfl (Nat.le_of_ble_eq_true rfl) (Nat.le_of_ble_eq_true rfl) (cM_has (lt31 hA4) (by omega) ?_)
    refine G_ifeq (tgt := 60) (nx := 47) ⟨dX12_leastHalves_44, rfl⟩ rfl (fun c_44 => ?_) (fun c_44 => ?_)
    · refine G_iconst (nx := 61) ⟨dX12_leastHalves_60, rfl⟩ ci_0 ?_
      refine G_iadd (nx := 62) ⟨dX12_leastHalves_61, rfl⟩ ?_
      refine G_istore_2 (nx := 63) ⟨dX12_leastHalves_62, rfl⟩ rfl rfl ?_
      refine G_iinc_3 (nx := 66) ⟨dX12_leastHalves_63, rfl⟩ ci_1 rfl ?_
      refine G_goto (tgt := 25) ⟨dX12_leastHalves_66, rfl⟩ rfl ?_
      rw [bi_0] at c_44
      refine G_L ?_ (ih (n - (p + 1)) (by omega) (p + 1) _ m Z rfl (by omega) (RT_skip hrt c_44) (hrow.w (by decide)) (hsb.w rfl))
      rw [Int32.add_zero, nI_1]
    · rw [bi_n0] at c_44
      refine G_aload_0 (nx := 48) ⟨dX12_leastHalves_47, rfl⟩ ?_
      refine G_iload_3 (nx := 49) ⟨dX12_leastHalves_48, rfl⟩ ?_
      refine G_iload_1 (nx := 50) ⟨dX12_leastHalves_49, rfl⟩ ?_
      refine G_cv2 (d := d + 13) (nx := 53) ⟨dX12_leastHalves_50, rfl⟩ kX12_193 rfl q_75 rfl (Nat.le_of_ble_eq_true rfl) (Nat.le_of_ble_eq_true rfl) (cM_pairs (d := d) A hA 12 _ _ m 0 p (hG1.w (by decide) (by decide)) ((w2_at _ _ _ _).trans nI_0.symm) (by decide) (hrow.w (by decide)) hrt.1 hrt.2.1 (fun x _ hx => absurd (hrt.2.2.1 x p hx) (Nat.lt_irrefl p)) hp c_44 (by omega) (fun m1 S2 I2 hps hrow2 hs2 hS2 hsb2 => ?_) (fun S2 I2 hpf hrow2 hs2 hS2 hsb2 => ?_))
      · refine G_ifeq (tgt := 60) (nx := 56) ⟨dX12_leastHalves_53, rfl⟩ rfl (fun c_53 => ?_) (fun c_53 => ?_)
        · exact absurd c_53 (by decide)
        · refine G_iconst (nx := 57) ⟨dX12_leastHalves_56, rfl⟩ ci_1 ?_
          refine G_goto (tgt := 61) ⟨dX12_leastHalves_57, rfl⟩ rfl ?_
          refine G_iadd (nx := 62) ⟨dX12_leastHalves_61, rfl⟩ ?_
          refine G_istore_2 (nx := 63) ⟨dX12_leastHalves_62, rfl⟩ rfl rfl ?_
          refine G_iinc_3 (nx := 66) ⟨dX12_leastHalves_63, rfl⟩ ci_1 rfl ?_
          refine G_goto (tgt := 25) ⟨dX12_leastHalves_66, rfl⟩ rfl ?_
          refine G_L ?_ (ih (n - (p + 1)) (by omega) (p + 1) I2 m1 Z rfl (by omega) (RT_ok hrt hps) hrow2 ((hsb.w rfl).tr hsb2))
          rw [msz_ok hrt.1 hrt.2.1 hn (fun x hx => absurd (hrt.2.2.1 x p hx) (Nat.lt_irrefl p)) hps hp, nI_1, nI_1]
      · refine G_ifeq (tgt := 60) (nx := 56) ⟨dX12_leastHalves_53, rfl⟩ rfl (fun c_53 => ?_) (fun c_53 => ?_)
        · refine G_iconst (nx := 61) ⟨dX12_leastHalves_60, rfl⟩ ci_0 ?_
          refine G_iadd (nx := 62) ⟨dX12_leastHalves_61, rfl⟩ ?_
          refine G_istore_2 (nx := 63) ⟨dX12_leastHalves_62, rfl⟩ rfl rfl ?_
          refine G_iinc_3 (nx := 66) ⟨dX12_leastHalves_63, rfl⟩ ci_1 rfl ?_
          refine G_goto (tgt := 25) ⟨dX12_leastHalves_66, rfl⟩ rfl ?_
          refine G_L ?_ (ih (n - (p + 1)) (by omega) (p + 1) I2 m _ rfl (by omega) (RT_no hrt hpf) hrow2 ((hsb.w rfl).tr hsb2))
          rw [Int32.add_zero, nI_1]
        · exact absurd rfl c_53
      

theorem cM_leastHalves {A : Nat} (hA : A < 2 ^ n) (hG : MG I n gr) (hk : ∀ (r : Nat) (I' : AI), IsNu gr A A r → sb fH I I' → K (.int (nI r)) I' J (rX g)) : G l (d + 14) mX12_leastHalves K 0 [.ref 75, .int (nI A), UU, UU] [] I J (rX g) := by
  refine G_iconst (nx := 1) ⟨dX12_leastHalves_0, rfl⟩ ci_0 ?_
  refine G_istore_2 (nx := 2) ⟨dX12_leastHalves_1, rfl⟩ rfl rfl ?_
  refine lM_lhA hA (fun I1 hG1 hrow hsb => ?_) hG _ 0 I rfl (Nat.zero_le _) (fun x hx => absurd hx (Nat.not_lt_zero _)) sb.rf
  refine G_iconst (nx := 22) ⟨dX12_leastHalves_21, rfl⟩ ci_0 ?_
  refine G_istore_2 (nx := 23) ⟨dX12_leastHalves_22, rfl⟩ rfl rfl ?_
  refine G_iconst (nx := 24) ⟨dX12_leastHalves_23, rfl⟩ ci_0 ?_
  refine G_istore_3 (nx := 25) ⟨dX12_leastHalves_24, rfl⟩ rfl rfl ?_
  exact lM_lhB hA hG1 (fun r I2 h1 h2 => hk r I2 h1 (hsb.tr h2)) _ 0 I1 (fun _ => none) (fun _ => False) rfl (Nat.zero_le _) RT_0 hrow sb.rf
  

end M23
