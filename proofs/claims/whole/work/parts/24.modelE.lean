def fG (a b : Nat) : Bool := fH a b || a == 80
theorem fH_G {a b : Nat} (h : fG a b = false) : fH a b = false := by
  unfold fG at h
  cases e : fH a b with
  | false => rfl
  | true => rw [e] at h; cases h
def mgF (gr : Nat → Nat) (P p : Nat) (h : Nat → Nat) (v : Nat) (q : Nat) (b : Bool) : Bool := b && (!(gr p &&& P).testBit q || decide (2 ≤ h q + v))
theorem mg_iff (gr : Nat → Nat) (P p : Nat) (h : Nat → Nat) (v : Nat) : ∀ k, lp (mgF gr P p h v) k true = true ↔ ∀ u, u < k → P.testBit u = true → (gr p).testBit u = true → 2 ≤ h u + v := by
  intro k
  induction k with
  | zero => simp [lp]
  | succ k ih =>
    simp only [lp, mgF, Bool.and_eq_true, ih, Nat.testBit_and]
    constructor
    · rintro ⟨h1, h2⟩ u hu hP ha
      by_cases e : u = k
      · subst e; simpa [hP, ha] using h2
      · exact h1 u (by omega) hP ha
    · intro hh
      refine ⟨fun u hu => hh u (by omega), ?_⟩
      cases hP : P.testBit k <;> cases ha : (gr p).testBit k <;> simp
      exact hh k (by omega) hP ha
/-- those of P behind p -/
def rs (P p : Nat) : Nat := df P (2 ^ (p + 1) - 1)
theorem rs_tb {n P p : Nat} (hP : P < 2 ^ n) (q : Nat) : (rs P p).testBit q = true ↔ p + 1 ≤ q ∧ q < n ∧ P.testBit q = true := by
  unfold rs
  rw [tb_df, Nat.testBit_two_pow_sub_one]
  simp only [Bool.and_eq_true, Bool.not_eq_true', decide_eq_false_iff_not]
  constructor
  · rintro ⟨h1, h2⟩; exact ⟨by omega, tb_ltn hP h1, h1⟩
  · rintro ⟨h1, h2, h3⟩; exact ⟨h3, by omega⟩
theorem rs_nI {P p : Nat} (hP : P < 4096) (hp : p < 12) : nI P &&& (((2 : Int32) <<< (nI p &&& 31) - 1) ^^^ (-1)) = nI (rs P p) := by
  have h2 : (2 : Int32) = nI 2 := by decide
  have h1 : (1 : Int32) = nI 1 := by decide
  have h3 : 2 * 2 ^ p ≤ 2 * 2 ^ 11 := Nat.mul_le_mul_left _ (Nat.pow_le_pow_right (by omega) (by omega))
  have h4 : 0 < 2 ^ p := Nat.two_pow_pos p
  have h5 : nI (2 * 2 ^ p) - 1 = nI (2 * 2 ^ p - 1) := by rw [h1, pk_sub (by omega)]
  rw [h2, shl_nI 2 (by omega) (by omega), h5, nI_df _ (by omega), rs, Nat.pow_succ, Nat.mul_comm]
theorem rs_lt {n P p : Nat} (hP : P < 2 ^ n) : rs P p < 2 ^ n := Nat.lt_of_le_of_lt (df_le _ _) hP
def GivesC (l : Launch) (D n : Nat) (gr : Nat → Nat) (P : Nat) (f : Option Nat) (t : Nat) (J : AJ) (g : Bool) (k p : Nat) : Prop := ∀ (K : AK) (I : AI) (h : Nat → Nat) (left : Nat), MG I n gr → left ≤ 24 → (∀ q, q < p → P.testBit q = true → I 80 q = nI (h q) ∧ h q ≤ 2) →
  (∀ (H : Nat → Nat) (I' : AI), LF n gr P f t k p left h H → (∀ q, q < n → P.testBit q = true → I' 80 q = nI (H q)) → sb fG I I' → K (.int 1) I' J (rX g)) →
  (∀ (I' : AI), ¬ Ex n gr P p h left f t → (∀ q, q < p → I' 80 q = I 80 q) → sb fG I I' → K (.int 0) I' J (rX g)) →
  G l D mX12_gives K 0 [.ref 75, .int (nI p), .int (nI left), .int (nI P), .int (mv f), .int (nI t), UU, UU, UU] [] I J (rX g)
theorem mv_eq {f : Option Nat} {p : Nat} (hp : p < 2 ^ 31) (hf : ∀ q, f = some q → q < 2 ^ 31) : nI p = mv f ↔ f = some p := by
  cases f with
  | none => simp only [mv]; exact ⟨fun h => absurd h (nI_ne_m1 hp), fun h => by cases h⟩
  | some q => simp only [mv]; rw [nI_eq hp (hf q rfl)]; exact ⟨fun h => by rw [h], fun h => by cases h; rfl⟩
theorem LF_Ex {n : Nat} {gr : Nat → Nat} {P : Nat} {f : Option Nat} {t : Nat} {H : Nat → Nat} : ∀ (k p left : Nat) (h : Nat → Nat), p + k = n → LF n gr P f t k p left h H → Ex n gr P p h left f t := by
  intro k
  induction k with
  | zero => intro p left h hp _; rw [show p = n by omega]; exact Ex_end n gr P h left f t
  | succ k ih =>
    intro p left h hp hl
    cases hPp : P.testBit p with
    | false =>
      obtain ⟨h', h1, h2⟩ := hl.1 hPp
      exact (Ex_skip (by omega) hPp h1).mpr (ih (p + 1) left h' (by omega) h2)
    | true =>
      obtain ⟨v, o, -, -⟩ := hl.2 hPp
      exact (Ex_step (by omega) hPp).mpr ⟨v, o⟩
section M24
variable {l : Launch} {d : Nat} {K : AK} {I : AI} {J : AJ} {g : Bool} {n : Nat} {gr : Nat → Nat}

theorem lM_mayGet {P p v : Nat} {h : Nat → Nat} (hG : MG I n gr) (hp : p < n) (hP : P < 2 ^ n) (hv : v ≤ 2) (hrow : ∀ q, q < p → P.testBit q = true → I 80 q = nI (h q) ∧ h q ≤ 2) (hk : K (.int (bi (lp (mgF gr P p h v) p true))) I J (rX g)) : ∀ (k q : Nat), p - q = k → q ≤ p → G l (d + 1) mX12_mayGet K 6 [.ref 75, .int (nI p), .int (nI v), .int (nI P), .int (bi (lp (mgF gr P p h v) q true)), .int (nI q)] [] I J (rX g) := by
  intro k
  induction k using Nat.strongRecOn with
  | _ k ih =>
  intro q hqk hqp
  have hn := hG.2.1
  have h12 := in12 hp hn
  have hP4 : P < 4096 := Nat.lt_of_lt_of_le hP (pow12 hn)
  have hand : gr p &&& P < 4096 := Nat.lt_of_le_of_lt Nat.and_le_right hP4
  refine G_iload_5 (nx := 8) ⟨dX12_mayGet_6, rfl⟩ ?_
  refine G_iload_1 (nx := 9) ⟨dX12_mayGet_8, rfl⟩ ?_
  refine G_icmpge (tgt := 59) (nx := 12) ⟨dX12_mayGet_9, rfl⟩ rfl (fun c_9 => ?_) (fun c_9 => ?_)
  · refine G_iload_4 (nx := 61) ⟨dX12_mayGet_59, rfl⟩ ?_
    refine G_zret ⟨dX12_mayGet_61, rfl⟩ rfl (by exact bi_01 _) ?_
    rw [nI_le_iff (by omega) (by omega)] at c_9
    have hqe : q = p := by omega
    subst hqe
    exact hk
  · rw [nI_le_iff (by omega) (by omega)] at c_9
    have hq : q < p := by omega
    have hq12 := in12 (show q < n by omega) hn
    have ecq := cl_nI (p := q) (by omega)
    refine G_iload_4 (nx := 14) ⟨dX12_mayGet_12, rfl⟩ ?_
    refine G_ifeq (tgt := 50) (nx := 17) ⟨dX12_mayGet_14, rfl⟩ rfl (fun c_14 => ?_) (fun c_14 => ?_)
    · refine G_iconst (nx := 51) ⟨dX12_mayGet_50, rfl⟩ ci_0 ?_
      refine G_istore_4 (nx := 53) ⟨dX12_mayGet_51, rfl⟩ rfl rfl ?_
      refine G_iinc_5 (nx := 56) ⟨dX12_mayGet_53, rfl⟩ ci_1 rfl ?_
      refine G_goto (tgt := 6) ⟨dX12_mayGet_56, rfl⟩ rfl ?_
      rw [bi_0] at c_14
      refine G_L ?_ (ih (p - (q + 1)) (by omega) (q + 1) rfl (by omega))
      simp [lp_s, mgF, nI_1, c_14, bi]
    · rw [bi_n0] at c_14
      refine G_aload_0 (nx := 18) ⟨dX12_mayGet_17, rfl⟩ ?_
      refine G_getr (nx := 21) (k := 75) (r := 78) ⟨dX12_mayGet_18, rfl⟩ fX12_20 q_75 yr_12_4 (r_75_4 _) ?_
      refine G_iload_1 (nx := 22) ⟨dX12_mayGet_21, rfl⟩ ?_
      refine G_iald (nx := 23) (k := 78) ⟨dX12_mayGet_22, rfl⟩ q_78 (by first | assumption | decide) ?_
      rw [hG.row hp]
      refine G_iload_3 (nx := 24) ⟨dX12_mayGet_23, rfl⟩ ?_
      refine G_iand (nx := 25) ⟨dX12_mayGet_24, rfl⟩ ?_
      rw [nI_and]
      refine G_iload_5 (nx := 27) ⟨dX12_mayGet_25, rfl⟩ ?_
      refine G_cs2 (nx := 30) ⟨dX12_mayGet_27, rfl⟩ kX12_118 rfl rfl (Nat.le_of_ble_eq_true rfl) (Nat.le_of_ble_eq_true rfl) (cM_has (lt31 hand) (by omega) ?_)
      refine G_ifeq (tgt := 46) (nx := 33) ⟨dX12_mayGet_30, rfl⟩ rfl (fun c_30 => ?_) (fun c_30 => ?_)
      · refine G_iconst (nx := 47) ⟨dX12_mayGet_46, rfl⟩ ci_1 ?_
        refine G_goto (tgt := 51) ⟨dX12_mayGet_47, rfl⟩ rfl ?_
        refine G_istore_4 (nx := 53) ⟨dX12_mayGet_51, rfl⟩ rfl rfl ?_
        refine G_iinc_5 (nx := 56) ⟨dX12_mayGet_53, rfl⟩ ci_1 rfl ?_
        refine G_goto (tgt := 6) ⟨dX12_mayGet_56, rfl⟩ rfl ?_
        rw [bi_0] at c_30
        refine G_L ?_ (ih (p - (q + 1)) (by omega) (q + 1) rfl (by omega))
        simp [lp_s, mgF, nI_1, c_14, c_30, bi]
      · rw [bi_n0] at c_30
        have hb := c_30
        rw [Nat.testBit_and, Bool.and_eq_true] at hb
        obtain ⟨hr1, hr2⟩ := hrow q hq hb.2
        refine G_aload_0 (nx := 34) ⟨dX12_mayGet_33, rfl⟩ ?_
        refine G_getr (nx := 37) (k := 75) (r := 80) ⟨dX12_mayGet_34, rfl⟩ fX12_26 q_75 yr_12_7 (r_75_7 _) ?_
        refine G_iload_5 (nx := 39) ⟨dX12_mayGet_37, rfl⟩ ?_
        refine G_iald (nx := 40) (k := 80) ⟨dX12_mayGet_39, rfl⟩ q_80 (by first | assumption | decide) ?_
        rw [ecq, hr1]
        refine G_iload_2 (nx := 41) ⟨dX12_mayGet_40, rfl⟩ ?_
        refine G_iadd (nx := 42) ⟨dX12_mayGet_41, rfl⟩ ?_
        rw [nI_add]
        refine G_iconst (nx := 43) ⟨dX12_mayGet_42, rfl⟩ ci_2 ?_
        rw [show (2 : Int32) = nI 2 by decide]
        refine G_icmplt (tgt := 50) (nx := 46) ⟨dX12_mayGet_43, rfl⟩ rfl (fun c_43 => ?_) (fun c_43 => ?_)
        · refine G_iconst (nx := 51) ⟨dX12_mayGet_50, rfl⟩ ci_0 ?_
          refine G_istore_4 (nx := 53) ⟨dX12_mayGet_51, rfl⟩ rfl rfl ?_
          refine G_iinc_5 (nx := 56) ⟨dX12_mayGet_53, rfl⟩ ci_1 rfl ?_
          refine G_goto (tgt := 6) ⟨dX12_mayGet_56, rfl⟩ rfl ?_
          rw [nI_lt_iff (by omega) (by omega)] at c_43
          refine G_L ?_ (ih (p - (q + 1)) (by omega) (q + 1) rfl (by omega))
          simp only [lp_s, mgF, nI_1, c_14, c_30, Bool.not_true, Bool.false_or, Bool.true_and]
          first | rw [show decide (2 ≤ h q + v) = true from decide_eq_true (by omega)] | rw [show decide (2 ≤ h q + v) = false from decide_eq_false (by omega)]
          rfl
        · refine G_iconst (nx := 47) ⟨dX12_mayGet_46, rfl⟩ ci_1 ?_
          refine G_goto (tgt := 51) ⟨dX12_mayGet_47, rfl⟩ rfl ?_
          refine G_istore_4 (nx := 53) ⟨dX12_mayGet_51, rfl⟩ rfl rfl ?_
          refine G_iinc_5 (nx := 56) ⟨dX12_mayGet_53, rfl⟩ ci_1 rfl ?_
          refine G_goto (tgt := 6) ⟨dX12_mayGet_56, rfl⟩ rfl ?_
          rw [nI_lt_iff (by omega) (by omega)] at c_43
          refine G_L ?_ (ih (p - (q + 1)) (by omega) (q + 1) rfl (by omega))
          simp only [lp_s, mgF, nI_1, c_14, c_30, Bool.not_true, Bool.false_or, Bool.true_and]
          first | rw [show decide (2 ≤ h q + v) = true from decide_eq_true (by omega)] | rw [show decide (2 ≤ h q + v) = false from decide_eq_false (by omega)]
          rfl

theorem cM_mayGet {P p v : Nat} {h : Nat → Nat} (hG : MG I n gr) (hp : p < n) (hP : P < 2 ^ n) (hv : v ≤ 2) (hrow : ∀ q, q < p → P.testBit q = true → I 80 q = nI (h q) ∧ h q ≤ 2) (hk : K (.int (bi (lp (mgF gr P p h v) p true))) I J (rX g)) : G l (d + 1) mX12_mayGet K 0 [.ref 75, .int (nI p), .int (nI v), .int (nI P), UU, UU] [] I J (rX g) := by
  refine G_iconst (nx := 1) ⟨dX12_mayGet_0, rfl⟩ ci_1 ?_
  refine G_istore_4 (nx := 3) ⟨dX12_mayGet_1, rfl⟩ rfl rfl ?_
  refine G_iconst (nx := 4) ⟨dX12_mayGet_3, rfl⟩ ci_0 ?_
  refine G_istore_5 (nx := 6) ⟨dX12_mayGet_4, rfl⟩ rfl rfl ?_
  exact lM_mayGet hG hp hP hv hrow hk _ 0 rfl (Nat.zero_le _)

theorem lM_gvTry {k' P p left v t : Nat} (hpk : p + 1 + k' = n) {f : Option Nat} {h : Nat → Nat} {kx : Int32} (hrec : GivesC l (d + k' + 15) n gr P f t J g k' (p + 1)) (hW : WG n gr) (hG : MG I n gr) (hp : p < n) (hP : P < 2 ^ n) (hPp : P.testBit p = true) (hv : v ≤ 2) (ht : t ≤ 2) (hf : ∀ q, f = some q → q < 2 ^ 31) (hl : left ≤ 24) (hrow : ∀ q, q < p → P.testBit q = true → I 80 q = nI (h q) ∧ h q ≤ 2)
  (hno : ∀ (I' : AI), ¬ OKv n gr P p h left f t v → MG I' n gr → (∀ q, q < p → I' 80 q = I 80 q) → sb fG I I' → G l (d + (k' + 1) + 15) mX12_gives K 149 [.ref 75, .int (nI p), .int (nI left), .int (nI P), .int (mv f), .int (nI t), .int (nI (rs P p)), .int kx, .int (nI v)] [] I' J (rX g))
  (hyes : ∀ (H : Nat → Nat) (I' : AI), OKv n gr P p h left f t v → LF n gr P f t k' (p + 1) (left - v) (upd1 h p v) H → (∀ q, q < n → P.testBit q = true → I' 80 q = nI (H q)) → sb fG I I' → K (.int 1) I' J (rX g)) :
  G l (d + (k' + 1) + 15) mX12_gives K 74 [.ref 75, .int (nI p), .int (nI left), .int (nI P), .int (mv f), .int (nI t), .int (nI (rs P p)), .int kx, .int (nI v)] [] I J (rX g) := by
  have hn := hG.2.1
  have h12 := in12 hp hn
  have ecp := cl_nI (p := p) (by omega)
  have main : (f = some p → v = t) → G l (d + (k' + 1) + 15) mX12_gives K 87 [.ref 75, .int (nI p), .int (nI left), .int (nI P), .int (mv f), .int (nI t), .int (nI (rs P p)), .int kx, .int (nI v)] [] I J (rX g) := by
    intro hfo
    refine G_iload_8 (nx := 89) ⟨dX12_gives_87, rfl⟩ ?_
    refine G_iload_2 (nx := 90) ⟨dX12_gives_89, rfl⟩ ?_
    refine G_icmpgt (tgt := 149) (nx := 93) ⟨dX12_gives_90, rfl⟩ rfl (fun c_90 => ?_) (fun c_90 => ?_)
    · rw [nI_lt_iff (by omega) (by omega)] at c_90
      exact hno I (fun o => absurd o.2.2.1 (by omega)) hG (fun _ _ => rfl) sb.rf
    · have hvl : v ≤ left := by rw [nI_lt_iff (by omega) (by omega)] at c_90; omega
      refine G_aload_0 (nx := 94) ⟨dX12_gives_93, rfl⟩ ?_
      refine G_iload_1 (nx := 95) ⟨dX12_gives_94, rfl⟩ ?_
      refine G_iload_8 (nx := 97) ⟨dX12_gives_95, rfl⟩ ?_
      refine G_iload_3 (nx := 98) ⟨dX12_gives_97, rfl⟩ ?_
      refine G_cv3 (nx := 101) ⟨dX12_gives_98, rfl⟩ kX12_200 rfl q_75 rfl (Nat.le_of_ble_eq_true rfl) (Nat.le_of_ble_eq_true rfl) (cM_mayGet hG hp hP hv hrow ?_)
      refine G_ifeq (tgt := 149) (nx := 104) ⟨dX12_gives_101, rfl⟩ rfl (fun c_101 => ?_) (fun c_101 => ?_)
      · rw [bi_0] at c_101
        exact hno I (fun o => by rw [(mg_iff gr P p h v p).mpr o.2.2.2.1] at c_101; cases c_101) hG (fun _ _ => rfl) sb.rf
      · rw [bi_n0] at c_101
        have hcp : cpt gr P p h v := (mg_iff gr P p h v p).mp c_101
        refine G_aload_0 (nx := 105) ⟨dX12_gives_104, rfl⟩ ?_
        refine G_iload_6 (nx := 107) ⟨dX12_gives_105, rfl⟩ ?_
        refine G_cv1 (nx := 110) ⟨dX12_gives_107, rfl⟩ kX12_203 rfl q_75 rfl (Nat.le_of_ble_eq_true rfl) (Nat.le_of_ble_eq_true rfl) (cM_leastHalves (d := d + (k' + 1)) (rs_lt hP) hG (fun r I2 hnu hsb2 => ?_))
        refine G_iload_2 (nx := 111) ⟨dX12_gives_110, rfl⟩ ?_
        refine G_iload_8 (nx := 113) ⟨dX12_gives_111, rfl⟩ ?_
        refine G_isub (nx := 114) ⟨dX12_gives_113, rfl⟩ ?_
        have htl := tau_le_pc (gr := gr) (A := rs P p) (B := rs P p)
        have hpl := pc_le (rs P p)
        rw [hnu.tau (Nat.lt_of_lt_of_le (rs_lt hP) (pow12 hn)), pk_sub hvl]
        refine G_icmple (tgt := 120) (nx := 117) ⟨dX12_gives_114, rfl⟩ rfl (fun c_114 => ?_) (fun c_114 => ?_)
        · have hG2 : MG I2 n gr := hG.sb hsb2 rfl (fun _ => rfl)
          refine G_aload_0 (nx := 121) ⟨dX12_gives_120, rfl⟩ ?_
          refine G_getr (nx := 124) (k := 75) (r := 80) ⟨dX12_gives_121, rfl⟩ fX12_26 q_75 yr_12_7 (r_75_7 _) ?_
          refine G_iload_1 (nx := 125) ⟨dX12_gives_124, rfl⟩ ?_
          refine G_iload_8 (nx := 127) ⟨dX12_gives_125, rfl⟩ ?_
          refine G_iast (nx := 128) (k := 80) ⟨dX12_gives_127, rfl⟩ q_80 (by first | assumption | decide) ?_
          refine G_aload_0 (nx := 129) ⟨dX12_gives_128, rfl⟩ ?_
          refine G_iload_1 (nx := 130) ⟨dX12_gives_129, rfl⟩ ?_
          refine G_iconst (nx := 131) ⟨dX12_gives_130, rfl⟩ ci_1 ?_
          refine G_iadd (nx := 132) ⟨dX12_gives_131, rfl⟩ ?_
          refine G_iload_2 (nx := 133) ⟨dX12_gives_132, rfl⟩ ?_
          refine G_iload_8 (nx := 135) ⟨dX12_gives_133, rfl⟩ ?_
          refine G_isub (nx := 136) ⟨dX12_gives_135, rfl⟩ ?_
          rw [pk_sub hvl, nI_1]
          refine G_iload_3 (nx := 137) ⟨dX12_gives_136, rfl⟩ ?_
          refine G_iload_4 (nx := 139) ⟨dX12_gives_137, rfl⟩ ?_
          refine G_iload_5 (nx := 141) ⟨dX12_gives_139, rfl⟩ ?_
          refine G_cv5 (nx := 144) ⟨dX12_gives_141, rfl⟩ kX12_196 rfl q_75 rfl (Nat.le_of_ble_eq_true rfl) (Nat.le_of_ble_eq_true rfl) (hrec _ _ (upd1 h p v) (left - v) (hG2.w (by omega) (by omega)) (by omega) (fun q hq hPq => ?_) (fun H I3 hlf hrow3 hsb3 => ?_) (fun I3 hnex hrow3 hsb3 => ?_))
          · rw [ecp]
            by_cases e : q = p
            · subst e; rw [w2_at, upd1_at]; exact ⟨rfl, hv⟩
            · rw [w2_ne _ _ _ _ (by omega), upd1_ne e, hsb2 80 q rfl]; exact hrow q (by omega) hPq
          · refine G_ifeq (tgt := 149) (nx := 147) ⟨dX12_gives_144, rfl⟩ rfl (fun c_144 => ?_) (fun c_144 => ?_)
            · exact absurd c_144 (by decide)
            · refine G_iconst (nx := 148) ⟨dX12_gives_147, rfl⟩ ci_1 ?_
              refine G_zret ⟨dX12_gives_148, rfl⟩ rfl (by first | assumption | decide | exact bi_01 _) ?_
              have hEx : Ex n gr P (p + 1) (upd1 h p v) (left - v) f t := by
                exact LF_Ex k' (p + 1) (left - v) _ hpk hlf
              exact hyes H I3 ⟨hv, hfo, hvl, hcp, hEx⟩ hlf hrow3 (((hsb2.mono (fun _ _ h => fH_G h)).w rfl).tr hsb3)
          · refine G_ifeq (tgt := 149) (nx := 147) ⟨dX12_gives_144, rfl⟩ rfl (fun c_144 => ?_) (fun c_144 => ?_)
            · exact hno I3 (fun o => hnex o.2.2.2.2) (((hG2.w (by omega) (by omega)).sb hsb3) rfl (fun _ => rfl)) (fun q hq => by rw [hrow3 q (by omega), ecp, w2_ne _ _ _ _ (by omega), hsb2 80 q rfl]) (((hsb2.mono (fun _ _ h => fH_G h)).w rfl).tr hsb3)
            · exact absurd rfl c_144
          
        · refine G_goto (tgt := 149) ⟨dX12_gives_117, rfl⟩ rfl ?_
          rw [nI_le_iff (by omega) (by omega)] at c_114
          exact hno I2 (fun o => c_114 (Ex_tau hn hp hW (rs_tb hP) o.2.2.2.2)) (hG.sb hsb2 rfl (fun _ => rfl)) (fun q _ => hsb2 80 q rfl) (hsb2.mono (fun _ _ h => fH_G h))

  refine G_iload_1 (nx := 75) ⟨dX12_gives_74, rfl⟩ ?_
  refine G_iload_4 (nx := 77) ⟨dX12_gives_75, rfl⟩ ?_
  refine G_icmpne (tgt := 87) (nx := 80) ⟨dX12_gives_77, rfl⟩ rfl (fun c_77 => ?_) (fun c_77 => ?_)
  · exact main (fun e => absurd ((mv_eq (by omega) hf).mpr e) c_77)
  · rw [mv_eq (by omega) hf] at c_77
    refine G_iload_8 (nx := 82) ⟨dX12_gives_80, rfl⟩ ?_
    refine G_iload_5 (nx := 84) ⟨dX12_gives_82, rfl⟩ ?_
    refine G_icmpne (tgt := 149) (nx := 87) ⟨dX12_gives_84, rfl⟩ rfl (fun c_84 => ?_) (fun c_84 => ?_)
    · exact hno I (fun o => c_84 (by rw [o.2.1 c_77])) hG (fun _ _ => rfl) sb.rf
    · exact main (fun _ => nI_inj (by omega) (by omega) c_84)

theorem cM_gives {P t : Nat} {f : Option Nat} (hW : WG n gr) (hP : P < 2 ^ n) (ht : t ≤ 2) (hf : ∀ q, f = some q → q < 2 ^ 31) : ∀ (k p : Nat), p + k = n → GivesC l (d + k + 15) n gr P f t J g k p := by
  intro k
  induction k with
  | zero =>
    intro p hpk K I h left hG hl hrow hs hfl
    have hn := hG.2.1
    have e0 := hG.1
    have hpe : p = n := by omega
    subst hpe
    refine G_iload_1 (nx := 1) ⟨dX12_gives_0, rfl⟩ ?_
    refine G_aload_0 (nx := 2) ⟨dX12_gives_1, rfl⟩ ?_
    refine G_geti (nx := 5) (k := 75) ⟨dX12_gives_2, rfl⟩ fX12_122 q_75 yi_12_0 ?_
    rw [e0]
    refine G_icmpne (tgt := 10) (nx := 8) ⟨dX12_gives_5, rfl⟩ rfl (fun c_5 => ?_) (fun c_5 => ?_)
    · exact absurd rfl c_5
    · refine G_iconst (nx := 9) ⟨dX12_gives_8, rfl⟩ ci_1 ?_
      refine G_zret ⟨dX12_gives_9, rfl⟩ rfl (by first | assumption | decide | exact bi_01 _) ?_
      exact hs h I (fun _ _ => rfl) (fun q hq hPq => (hrow q hq hPq).1) sb.rf

  | succ k' ihk =>
    intro p hpk K I h left hG hl hrow hs hfl
    have hn := hG.2.1
    have e0 := hG.1
    have hp : p < n := by omega
    have hP4 : P < 4096 := Nat.lt_of_lt_of_le hP (pow12 hn)
    have h12 := in12 hp hn
    have ecp := cl_nI (p := p) (by omega)
    have hrec := ihk (p + 1) (by omega)
    refine G_iload_1 (nx := 1) ⟨dX12_gives_0, rfl⟩ ?_
    refine G_aload_0 (nx := 2) ⟨dX12_gives_1, rfl⟩ ?_
    refine G_geti (nx := 5) (k := 75) ⟨dX12_gives_2, rfl⟩ fX12_122 q_75 yi_12_0 ?_
    rw [e0]
    refine G_icmpne (tgt := 10) (nx := 8) ⟨dX12_gives_5, rfl⟩ rfl (fun c_5 => ?_) (fun c_5 => ?_)
    · refine G_iload_3 (nx := 11) ⟨dX12_gives_10, rfl⟩ ?_
      refine G_iconst (nx := 12) ⟨dX12_gives_11, rfl⟩ ci_2 ?_
      refine G_iload_1 (nx := 13) ⟨dX12_gives_12, rfl⟩ ?_
      refine G_ishl (nx := 14) ⟨dX12_gives_13, rfl⟩ ?_
      refine G_iconst (nx := 15) ⟨dX12_gives_14, rfl⟩ ci_1 ?_
      refine G_isub (nx := 16) ⟨dX12_gives_15, rfl⟩ ?_
      refine G_iconst (nx := 17) ⟨dX12_gives_16, rfl⟩ ci_m1 ?_
      refine G_ixor (nx := 18) ⟨dX12_gives_17, rfl⟩ ?_
      refine G_iand (nx := 19) ⟨dX12_gives_18, rfl⟩ ?_
      rw [rs_nI hP4 (by omega)]
      refine G_istore_6 (nx := 21) ⟨dX12_gives_19, rfl⟩ rfl rfl ?_
      refine G_iload_3 (nx := 22) ⟨dX12_gives_21, rfl⟩ ?_
      refine G_iload_1 (nx := 23) ⟨dX12_gives_22, rfl⟩ ?_
      refine G_cs2 (nx := 26) ⟨dX12_gives_23, rfl⟩ kX12_118 rfl rfl (Nat.le_of_ble_eq_true rfl) (Nat.le_of_ble_eq_true rfl) (cM_has (lt31 hP4) (by omega) ?_)
      refine G_ifne (tgt := 50) (nx := 29) ⟨dX12_gives_26, rfl⟩ rfl (fun c_26 => ?_) (fun c_26 => ?_)
      · rw [bi_n0] at c_26
        have hPp := c_26
        have hG0 := hG
        refine G_iconst (nx := 51) ⟨dX12_gives_50, rfl⟩ ci_0 ?_
        refine G_istore_7 (nx := 53) ⟨dX12_gives_51, rfl⟩ rfl rfl ?_
        refine G_iload_7 (nx := 55) ⟨dX12_gives_53, rfl⟩ ?_
        refine G_iconst (nx := 56) ⟨dX12_gives_55, rfl⟩ ci_3 ?_
        refine G_icmpge (tgt := 155) (nx := 59) ⟨dX12_gives_56, rfl⟩ rfl (fun c_56 => ?_) (fun c_56 => ?_)
        · exact absurd c_56 (by decide)
        · refine G_iload_7 (nx := 61) ⟨dX12_gives_59, rfl⟩ ?_
          refine G_ifne (tgt := 68) (nx := 64) ⟨dX12_gives_61, rfl⟩ rfl (fun c_61 => ?_) (fun c_61 => ?_)
          · exact absurd rfl c_61
          · refine G_iconst (nx := 65) ⟨dX12_gives_64, rfl⟩ ci_0 ?_
            refine G_goto (tgt := 72) ⟨dX12_gives_65, rfl⟩ rfl ?_
            refine G_istore_8 (nx := 74) ⟨dX12_gives_72, rfl⟩ rfl rfl ?_
            refine lM_gvTry (by omega) hrec hW hG0 hp hP hPp (v := 0) (by omega) ht hf hl hrow (fun I1 n1 hG1 hr1 hs1 => ?_) (fun H I1 o hlf hr1 hs1 => hs H I1 ⟨fun e => (by rw [hPp] at e; cases e), fun _ => ⟨0, o, fun u hu => absurd hu (Nat.not_lt_zero _), hlf⟩⟩ hr1 hs1)
            refine G_iinc_7 (nx := 152) ⟨dX12_gives_149, rfl⟩ ci_1 rfl ?_
            refine G_goto (tgt := 53) ⟨dX12_gives_152, rfl⟩ rfl ?_
            refine G_iload_7 (nx := 55) ⟨dX12_gives_53, rfl⟩ ?_
            refine G_iconst (nx := 56) ⟨dX12_gives_55, rfl⟩ ci_3 ?_
            refine G_icmpge (tgt := 155) (nx := 59) ⟨dX12_gives_56, rfl⟩ rfl (fun c_56 => ?_) (fun c_56 => ?_)
            · exact absurd c_56 (by decide)
            · refine G_iload_7 (nx := 61) ⟨dX12_gives_59, rfl⟩ ?_
              refine G_ifne (tgt := 68) (nx := 64) ⟨dX12_gives_61, rfl⟩ rfl (fun c_61 => ?_) (fun c_61 => ?_)
              · refine G_iconst (nx := 69) ⟨dX12_gives_68, rfl⟩ ci_3 ?_
                refine G_iload_7 (nx := 71) ⟨dX12_gives_69, rfl⟩ ?_
                refine G_isub (nx := 72) ⟨dX12_gives_71, rfl⟩ ?_
                refine G_istore_8 (nx := 74) ⟨dX12_gives_72, rfl⟩ rfl rfl ?_
                refine G_L (show _ = [.ref 75, .int (nI p), .int (nI left), .int (nI P), .int (mv f), .int (nI t), .int (nI (rs P p)), .int (0 + 1), .int (nI 2)] from rfl) (lM_gvTry (by omega) hrec hW hG1 hp hP hPp (v := 2) (by omega) ht hf hl (fun q hq hPq => by rw [hr1 q hq]; exact hrow q hq hPq) (fun I2 n2 hG2 hr2 hs2 => ?_) (fun H I2 o hlf hr2 hs2 => hs H I2 ⟨fun e => (by rw [hPp] at e; cases e), fun _ => ⟨2, o, fun u hu => ?_, hlf⟩⟩ hr2 (hs1.tr hs2)))
                · refine G_iinc_7 (nx := 152) ⟨dX12_gives_149, rfl⟩ ci_1 rfl ?_
                  refine G_goto (tgt := 53) ⟨dX12_gives_152, rfl⟩ rfl ?_
                  refine G_iload_7 (nx := 55) ⟨dX12_gives_53, rfl⟩ ?_
                  refine G_iconst (nx := 56) ⟨dX12_gives_55, rfl⟩ ci_3 ?_
                  refine G_icmpge (tgt := 155) (nx := 59) ⟨dX12_gives_56, rfl⟩ rfl (fun c_56 => ?_) (fun c_56 => ?_)
                  · exact absurd c_56 (by decide)
                  · refine G_iload_7 (nx := 61) ⟨dX12_gives_59, rfl⟩ ?_
                    refine G_ifne (tgt := 68) (nx := 64) ⟨dX12_gives_61, rfl⟩ rfl (fun c_61 => ?_) (fun c_61 => ?_)
                    · refine G_iconst (nx := 69) ⟨dX12_gives_68, rfl⟩ ci_3 ?_
                      refine G_iload_7 (nx := 71) ⟨dX12_gives_69, rfl⟩ ?_
                      refine G_isub (nx := 72) ⟨dX12_gives_71, rfl⟩ ?_
                      refine G_istore_8 (nx := 74) ⟨dX12_gives_72, rfl⟩ rfl rfl ?_
                      refine G_L (show _ = [.ref 75, .int (nI p), .int (nI left), .int (nI P), .int (mv f), .int (nI t), .int (nI (rs P p)), .int (0 + 1 + 1), .int (nI 1)] from rfl) (lM_gvTry (by omega) hrec hW hG2 hp hP hPp (v := 1) (by omega) ht hf hl (fun q hq hPq => by rw [hr2 q hq, hr1 q hq]; exact hrow q hq hPq) (fun I3 n3 hG3 hr3 hs3 => ?_) (fun H I3 o hlf hr3 hs3 => hs H I3 ⟨fun e => (by rw [hPp] at e; cases e), fun _ => ⟨1, o, fun u hu => ?_, hlf⟩⟩ hr3 ((hs1.tr hs2).tr hs3)))
                      · refine G_iinc_7 (nx := 152) ⟨dX12_gives_149, rfl⟩ ci_1 rfl ?_
                        refine G_goto (tgt := 53) ⟨dX12_gives_152, rfl⟩ rfl ?_
                        refine G_iload_7 (nx := 55) ⟨dX12_gives_53, rfl⟩ ?_
                        refine G_iconst (nx := 56) ⟨dX12_gives_55, rfl⟩ ci_3 ?_
                        refine G_icmpge (tgt := 155) (nx := 59) ⟨dX12_gives_56, rfl⟩ rfl (fun c_56 => ?_) (fun c_56 => ?_)
                        · refine G_iconst (nx := 156) ⟨dX12_gives_155, rfl⟩ ci_0 ?_
                          refine G_zret ⟨dX12_gives_156, rfl⟩ rfl (by first | assumption | decide | exact bi_01 _) ?_
                          refine hfl I3 (fun ex => ?_) (fun q hq => by rw [hr3 q hq, hr2 q hq, hr1 q hq]) ((hs1.tr hs2).tr hs3)
                          obtain ⟨v, o⟩ := (Ex_step hp hPp).mp ex
                          rcases (show v = 0 ∨ v = 1 ∨ v = 2 by have := o.1; omega) with e | e | e
                          · subst e; exact n1 o
                          · subst e; exact n3 o
                          · subst e; exact n2 o
                        · exact absurd (by decide) c_56
                      · intro o'
                        have hu2 := o'.1
                        rcases (show u = 0 ∨ u = 1 ∨ u = 2 by omega) with e | e | e
                        · subst e; exact n1 o'
                        · subst e; exact absurd hu (Nat.lt_irrefl _)
                        · subst e; exact n2 o'
                    · exact absurd c_61 (by decide)
                · intro o'
                  have hu2 := o'.1
                  rcases (show u = 0 ∨ u = 1 ∨ u = 2 by omega) with e | e | e
                  · subst e; exact n1 o'
                  · subst e; exact absurd hu (by decide)
                  · subst e; exact absurd hu (Nat.lt_irrefl _)
              · exact absurd c_61 (by decide)
      · rw [bi_0] at c_26
        refine G_aload_0 (nx := 30) ⟨dX12_gives_29, rfl⟩ ?_
        refine G_getr (nx := 33) (k := 75) (r := 80) ⟨dX12_gives_30, rfl⟩ fX12_26 q_75 yr_12_7 (r_75_7 _) ?_
        refine G_iload_1 (nx := 34) ⟨dX12_gives_33, rfl⟩ ?_
        refine G_iconst (nx := 35) ⟨dX12_gives_34, rfl⟩ ci_m1 ?_
        refine G_iast (nx := 36) (k := 80) ⟨dX12_gives_35, rfl⟩ q_80 (by first | assumption | decide) ?_
        refine G_aload_0 (nx := 37) ⟨dX12_gives_36, rfl⟩ ?_
        refine G_iload_1 (nx := 38) ⟨dX12_gives_37, rfl⟩ ?_
        refine G_iconst (nx := 39) ⟨dX12_gives_38, rfl⟩ ci_1 ?_
        refine G_iadd (nx := 40) ⟨dX12_gives_39, rfl⟩ ?_
        rw [nI_1]
        refine G_iload_2 (nx := 41) ⟨dX12_gives_40, rfl⟩ ?_
        refine G_iload_3 (nx := 42) ⟨dX12_gives_41, rfl⟩ ?_
        refine G_iload_4 (nx := 44) ⟨dX12_gives_42, rfl⟩ ?_
        refine G_iload_5 (nx := 46) ⟨dX12_gives_44, rfl⟩ ?_
        refine G_cv5 (nx := 49) ⟨dX12_gives_46, rfl⟩ kX12_196 rfl q_75 rfl (Nat.le_of_ble_eq_true rfl) (Nat.le_of_ble_eq_true rfl) (hrec _ _ h left (hG.w (by omega) (by omega)) hl (fun q hq hPq => ?_) (fun H I1 hlf hr1 hs1 => ?_) (fun I1 hnex hr1 hs1 => ?_))
        · have : ¬ q = p := fun e => by rw [e, c_26] at hPq; cases hPq
          rw [ecp, w2_ne _ _ _ _ (by omega)]
          exact hrow q (by omega) hPq
        · refine G_zret ⟨dX12_gives_49, rfl⟩ rfl (Or.inr rfl) ?_
          exact hs H I1 ⟨fun _ => ⟨h, fun _ _ => rfl, hlf⟩, fun e => (by rw [c_26] at e; cases e)⟩ hr1 ((sb.rf.w rfl).tr hs1)
        · refine G_zret ⟨dX12_gives_49, rfl⟩ rfl (Or.inl rfl) ?_
          exact hfl I1 (fun ex => hnex ((Ex_skip hp c_26 (fun _ _ => rfl)).mp ex)) (fun q hq => by rw [hr1 q (by omega), ecp, w2_ne _ _ _ _ (by omega)]) ((sb.rf.w rfl).tr hs1)
    · exact absurd (nI_inj (by omega) (by omega) c_5) (by omega)

end M24
