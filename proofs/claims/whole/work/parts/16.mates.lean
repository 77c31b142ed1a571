theorem G_d {l : Launch} {d d' : Nat} {mi : MI} {K : AK} {pc : Nat} {L S : List Value} {I : AI} {J : AJ} {R : AR} (h : d = d') (k : G l d' mi K pc L S I J R) : G l d mi K pc L S I J R := h ▸ k
/-- the least bit -/
def fbk : Nat → Nat → Nat
  | 0, _ => 0
  | k + 1, a => if a % 2 = 1 then 0 else fbk k (a / 2) + 1
def fb (a : Nat) : Nat := fbk 12 a
theorem fb_0 : ∀ x, x < 64 → ∀ y, y < 64 → ¬ 64 * x + y = 0 → (64 * x + y) &&& ((64 * x + y) - 1) = df (64 * x + y) (2 ^ fb (64 * x + y)) ∧ (64 * x + y).testBit (fb (64 * x + y)) = true ∧ (64 * x + y) % 2 ^ fb (64 * x + y) = 0 := by decide +kernel
theorem fb_s {a : Nat} (ha : a < 4096) (h : ¬ a = 0) : a &&& (a - 1) = df a (2 ^ fb a) ∧ a.testBit (fb a) = true ∧ ∀ p, p < fb a → a.testBit p = false := by
  obtain ⟨h1, h2, h3⟩ := by64 (P := fun a => ¬ a = 0 → a &&& (a - 1) = df a (2 ^ fb a) ∧ a.testBit (fb a) = true ∧ a % 2 ^ fb a = 0) fb_0 ha h
  refine ⟨h1, h2, fun p hp => ?_⟩
  have := Nat.testBit_mod_two_pow a (fb a) p
  rw [h3, Nat.zero_testBit] at this
  simpa [hp] using this.symm
theorem tb_del (a p x : Nat) : (df a (2 ^ p)).testBit x = (a.testBit x && !decide (x = p)) := by
  rw [tb_df, tb_pow]
  congr 2
  exact decide_eq_decide.mpr ⟨Eq.symm, Eq.symm⟩
theorem del_t {a p x : Nat} : (df a (2 ^ p)).testBit x = true ↔ a.testBit x = true ∧ ¬ x = p := by
  rw [tb_del]; simp
theorem pc_del {a p : Nat} (hp : p < 12) (h : a.testBit p = true) : pc a = pc (df a (2 ^ p)) + 1 := by
  rw [pc_cn, pc_cn, cn_rem hp h]
  congr 1
  apply cn_congr
  intro k _
  rw [tb_del]
theorem pc_0 {a : Nat} (ha : a < 4096) (h : pc a = 0) : a = 0 := by
  rw [pc_cn] at h
  apply Nat.eq_of_testBit_eq
  intro i
  rw [Nat.zero_testBit]
  cases e : a.testBit i with
  | false => rfl
  | true => rw [cn_eq0 h i (tb_lt ha e)] at e; cases e
/-- hd can be paired into cr -/
def EM (gr : Nat → Nat) (hd cr : Nat) : Prop := ∃ ma : Nat → Nat, (∀ h, hd.testBit h = true → cr.testBit (ma h) = true ∧ (gr h).testBit (ma h) = true) ∧ ∀ h h', hd.testBit h = true → hd.testBit h' = true → ma h = ma h' → h = h'
theorem EM_0 (gr : Nat → Nat) (cr : Nat) : EM gr 0 cr := ⟨fun _ => 0, fun h hh => (by rw [Nat.zero_testBit] at hh; cases hh), fun h h' hh => (by rw [Nat.zero_testBit] at hh; cases hh)⟩
theorem EM_step {gr : Nat → Nat} {hd cr p : Nat} (hp : hd.testBit p = true) : EM gr hd cr ↔ ∃ q, cr.testBit q = true ∧ (gr p).testBit q = true ∧ EM gr (df hd (2 ^ p)) (df cr (2 ^ q)) := by
  constructor
  · rintro ⟨ma, h1, h2⟩
    refine ⟨ma p, (h1 p hp).1, (h1 p hp).2, ma, fun h hh => ?_, fun h h' hh hh' e => h2 h h' (del_t.mp hh).1 (del_t.mp hh').1 e⟩
    obtain ⟨a, b⟩ := del_t.mp hh
    exact ⟨del_t.mpr ⟨(h1 h a).1, fun e => b (h2 h p a hp e)⟩, (h1 h a).2⟩
  · rintro ⟨q, hq, hg, ma, h1, h2⟩
    refine ⟨upd1 ma p q, fun h hh => ?_, fun h h' hh hh' e => ?_⟩
    · by_cases e : h = p
      · subst e; rw [upd1_at]; exact ⟨hq, hg⟩
      · rw [upd1_ne e]
        obtain ⟨a, b⟩ := h1 h (del_t.mpr ⟨hh, e⟩)
        exact ⟨(del_t.mp a).1, b⟩
    · by_cases e1 : h = p
      · by_cases e2 : h' = p
        · rw [e1, e2]
        · rw [e1, upd1_at, upd1_ne e2] at e
          exact absurd e.symm (del_t.mp (h1 h' (del_t.mpr ⟨hh', e2⟩)).1).2
      · by_cases e2 : h' = p
        · rw [e2, upd1_at, upd1_ne e1] at e
          exact absurd e (del_t.mp (h1 h (del_t.mpr ⟨hh, e1⟩)).1).2
        · rw [upd1_ne e1, upd1_ne e2] at e
          exact h2 h h' (del_t.mpr ⟨hh, e1⟩) (del_t.mpr ⟨hh', e2⟩) e
/-- the first way to pair hd into cr, the least first -/
def LM (gr : Nat → Nat) : Nat → Nat → Nat → (Nat → Nat) → Prop
  | 0, _, _, _ => True
  | k + 1, hd, cr, ma => cr.testBit (ma (fb hd)) = true ∧ (gr (fb hd)).testBit (ma (fb hd)) = true ∧ EM gr (df hd (2 ^ fb hd)) (df cr (2 ^ ma (fb hd))) ∧ (∀ q, q < ma (fb hd) → cr.testBit q = true → (gr (fb hd)).testBit q = true → ¬ EM gr (df hd (2 ^ fb hd)) (df cr (2 ^ q))) ∧ LM gr k (df hd (2 ^ fb hd)) (df cr (2 ^ ma (fb hd))) ma
theorem LM_congr {gr : Nat → Nat} {ma ma' : Nat → Nat} : ∀ (k hd cr : Nat), hd < 4096 → pc hd = k → (∀ h, hd.testBit h = true → ma' h = ma h) → LM gr k hd cr ma → LM gr k hd cr ma' := by
  intro k
  induction k with
  | zero => intros; trivial
  | succ k ih =>
    intro hd cr hlt hpc he hl
    have h0 : ¬ hd = 0 := fun e => by rw [e] at hpc; simp [pc_cn, cn_false] at hpc
    obtain ⟨-, hb, -⟩ := fb_s hlt h0
    have hb12 := tb_lt hlt hb
    have e1 := he _ hb
    obtain ⟨a1, a2, a3, a4, a5⟩ := hl
    refine ⟨by rw [e1]; exact a1, by rw [e1]; exact a2, by rw [e1]; exact a3, by rw [e1]; exact a4, ?_⟩
    rw [e1]
    exact ih _ _ (Nat.lt_of_le_of_lt (df_le _ _) hlt) (by have := pc_del hb12 hb; omega) (fun h hh => he h (del_t.mp hh).1) a5
theorem LM_uniq {gr : Nat → Nat} {ma ma' : Nat → Nat} : ∀ (k hd cr : Nat), hd < 4096 → pc hd = k → LM gr k hd cr ma → LM gr k hd cr ma' → ∀ h, hd.testBit h = true → ma' h = ma h := by
  intro k
  induction k with
  | zero => intro hd cr hlt hpc _ _ h hh; rw [pc_0 hlt hpc, Nat.zero_testBit] at hh; cases hh
  | succ k ih =>
    intro hd cr hlt hpc hl hl' h hh
    have h0 : ¬ hd = 0 := fun e => by rw [e] at hpc; simp [pc_cn, cn_false] at hpc
    obtain ⟨-, hb, -⟩ := fb_s hlt h0
    have hb12 := tb_lt hlt hb
    obtain ⟨a1, a2, a3, a4, a5⟩ := hl
    obtain ⟨b1, b2, b3, b4, b5⟩ := hl'
    have e1 : ma' (fb hd) = ma (fb hd) := by
      rcases Nat.lt_trichotomy (ma' (fb hd)) (ma (fb hd)) with e | e | e
      · exact absurd b3 (a4 _ e b1 b2)
      · exact e
      · exact absurd a3 (b4 _ e a1 a2)
    by_cases e : h = fb hd
    · rw [e]; exact e1
    · rw [e1] at b5
      exact ih _ _ (Nat.lt_of_le_of_lt (df_le _ _) hlt) (by have := pc_del hb12 hb; omega) a5 b5 h (del_t.mpr ⟨hh, e⟩)
theorem LM_ok {gr : Nat → Nat} {ma : Nat → Nat} : ∀ (k hd cr : Nat), hd < 4096 → pc hd = k → LM gr k hd cr ma → (∀ h, hd.testBit h = true → cr.testBit (ma h) = true ∧ (gr h).testBit (ma h) = true) ∧ ∀ h h', hd.testBit h = true → hd.testBit h' = true → ma h = ma h' → h = h' := by
  intro k
  induction k with
  | zero => intro hd cr hlt hpc _; rw [pc_0 hlt hpc]; exact ⟨fun h hh => (by rw [Nat.zero_testBit] at hh; cases hh), fun h h' hh => (by rw [Nat.zero_testBit] at hh; cases hh)⟩
  | succ k ih =>
    intro hd cr hlt hpc hl
    have h0 : ¬ hd = 0 := fun e => by rw [e] at hpc; simp [pc_cn, cn_false] at hpc
    obtain ⟨-, hb, -⟩ := fb_s hlt h0
    have hb12 := tb_lt hlt hb
    obtain ⟨a1, a2, -, -, a5⟩ := hl
    obtain ⟨i1, i2⟩ := ih _ _ (Nat.lt_of_le_of_lt (df_le _ _) hlt) (by have := pc_del hb12 hb; omega) a5
    refine ⟨fun h hh => ?_, fun h h' hh hh' e => ?_⟩
    · by_cases e : h = fb hd
      · rw [e]; exact ⟨a1, a2⟩
      · obtain ⟨x, y⟩ := i1 h (del_t.mpr ⟨hh, e⟩)
        exact ⟨(del_t.mp x).1, y⟩
    · by_cases e1 : h = fb hd
      · by_cases e2 : h' = fb hd
        · rw [e1, e2]
        · rw [e1] at e
          exact absurd e.symm (del_t.mp (i1 h' (del_t.mpr ⟨hh', e2⟩)).1).2
      · by_cases e2 : h' = fb hd
        · rw [e2] at e
          exact absurd e (del_t.mp (i1 h (del_t.mpr ⟨hh, e1⟩)).1).2
        · exact i2 h h' (del_t.mpr ⟨hh, e1⟩) (del_t.mpr ⟨hh', e2⟩) e
theorem LM_EM {gr : Nat → Nat} {ma : Nat → Nat} {k hd cr : Nat} (h1 : hd < 4096) (h2 : pc hd = k) (h : LM gr k hd cr ma) : EM gr hd cr := ⟨ma, LM_ok k hd cr h1 h2 h⟩
/-! the pairing that the searches find, without them -/
theorem aug {gr : Nat → Nat} {n A B : Nat} (hB : B < 2 ^ n) (hn : n ≤ 12) : ∀ (kk : Nat) (m : Nat → Option Nat) (S p : Nat), 12 ≤ pc S + kk → EV gr n A B m → IJ S m → (∀ x, S.testBit x = false → ¬ m x = some p) → p < n → A.testBit p = true → (∃ m', PS gr n A B m S p m') ∨ ∃ S', PF gr B m S p S' := by
  intro kk
  induction kk with
  | zero =>
    intro m S p hkk hE hI hp hpn hpA
    right
    have hall : ∀ x, x < 12 → S.testBit x = true := by
      intro x hx
      cases e : S.testBit x with
      | true => rfl
      | false =>
        have h1 := cn_rem (P := fun x => !S.testBit x) hx (by simp [e])
        have h2 := cn_split 12 (fun _ => true) (fun x => S.testBit x)
        simp only [Bool.true_and] at h2
        have h3 : cn 12 (fun _ => true) = 12 := by decide
        rw [← pc_cn] at h2
        omega
    exact ⟨S, fun _ h => h, fun q h1 h2 => (by rw [h1] at h2; cases h2), fun q' h1 h2 => hall q' (by have := tb_ltn hB h1; omega)⟩
  | succ kk ih =>
    intro m S p hkk hE hI hp hpn hpA
    have loop : ∀ (j q Si : Nat), n - q = j → q ≤ n → LI gr B m S p q Si → pc S ≤ pc Si → (∃ m', PS gr n A B m S p m') ∨ ∃ S', PF gr B m S p S' := by
      intro j
      induction j with
      | zero =>
        intro q Si hqk hqn hli _
        rw [show q = n by omega] at hli
        exact Or.inr ⟨Si, LI_end hli (fun x hx => tb_ltn hB hx)⟩
      | succ j ihj =>
        intro q Si hqk hqn hli hpc
        by_cases hc : B.testBit q = true ∧ (gr p).testBit q = true ∧ Si.testBit q = false
        · obtain ⟨hqB, hadj, hqS⟩ := hc
          have hSf : ∀ x, Si.testBit x = false → S.testBit x = false := fun x hx => by
            cases e : S.testBit x with
            | false => rfl
            | true => rw [hli.1 x e] at hx; cases hx
          cases hm : m q with
          | none => exact Or.inl ⟨_, PS_free hE hI hp hpn hpA hli (by omega) hqB hadj hqS hm⟩
          | some r =>
            obtain ⟨hrn, -, hrA, -, -⟩ := hE q r hm
            have hpi : pc (Si ||| 2 ^ q) = pc Si + 1 := by
              rw [pc_cn, pc_cn, ← cn_add1 (show q < 12 by omega) hqS]
              apply cn_congr
              intro k _
              rw [tb_ins]
              congr 1
              exact decide_eq_decide.mpr ⟨Eq.symm, Eq.symm⟩
            rcases ih m (Si ||| 2 ^ q) r (by omega) hE (fun x x' v h1 h2 h3 h4 => hI x x' v (hSf x (tb_ins_f.mp h1).1) (hSf x' (tb_ins_f.mp h2).1) h3 h4) (fun x h1 h2 => (tb_ins_f.mp h1).2 (hI x q r (hSf x (tb_ins_f.mp h1).1) (hSf q hqS) h2 hm)) hrn hrA with ⟨m1, hps⟩ | ⟨S2, hpf⟩
            · exact Or.inl ⟨_, PS_rec hE hI hp hpn hpA hli (by omega) hqB hadj hqS hm hps⟩
            · refine ihj (q + 1) S2 (by omega) (by omega) (LI_fail hli hm hqS hpf) ?_
              have h1 : pc (Si ||| 2 ^ q) ≤ pc S2 := by
                rw [pc_cn, pc_cn]
                exact cn_mono (fun x _ hx => hpf.1 x hx)
              omega
        · refine ihj (q + 1) Si (by omega) (by omega) (LI_skip hli (fun h1 h2 => ?_)) hpc
          cases e : Si.testBit q with
          | true => rfl
          | false => exact absurd ⟨h1, h2, e⟩ hc
    exact loop n 0 S (by omega) (Nat.zero_le _) LI_0 (Nat.le_refl _)
theorem nu_ex {gr : Nat → Nat} {n A B : Nat} (hA : A < 2 ^ n) (hB : B < 2 ^ n) (hn : n ≤ 12) : ∃ k, IsNu gr A B k := by
  have h : ∀ p, p ≤ n → ∃ m Z, RT gr n A B m Z p := by
    intro p
    induction p with
    | zero => intro _; exact ⟨_, _, RT_0⟩
    | succ p ih =>
      intro hp
      obtain ⟨m, Z, hr⟩ := ih (by omega)
      cases hpA : A.testBit p with
      | false => exact ⟨m, Z, RT_skip hr hpA⟩
      | true =>
        rcases aug hB hn 12 m 0 p (by omega) hr.1 hr.2.1 (fun x _ hx => absurd (hr.2.2.1 x p hx) (Nat.lt_irrefl p)) (by omega) hpA with ⟨m1, h1⟩ | ⟨S', h1⟩
        · exact ⟨m1, Z, RT_ok hr h1⟩
        · exact ⟨m, _, RT_no hr h1⟩
  obtain ⟨m, Z, hr⟩ := h n (Nat.le_refl _)
  exact ⟨_, RT_nu hr hn hA⟩
/-- as many pairs as heads: all heads are paired -/
theorem EM_of {gr : Nat → Nat} {A B : Nat} (hA : A < 4096) (hB : B < 4096) (h : ∃ m, VM gr A B m ∧ msz m = pc A) : EM gr A B := by
  obtain ⟨m, hm, hs⟩ := h
  have hall : ∀ p, A.testBit p = true → ∃ q, m q = some p := by
    intro p hp
    rcases Classical.em (∃ q, m q = some p) with h | h
    · exact h
    · exfalso
      have h1 : msz m ≤ cn 12 (fun x => A.testBit x && !decide (x = p)) := by
        apply cn_inj 12 _ _ (fun q => (m q).getD 0)
        · intro k hk hs
          obtain ⟨r, hr⟩ := Option.isSome_iff_exists.mp hs
          obtain ⟨a, -, -⟩ := hm.1 k r hr
          simp only [hr, Option.getD_some]
          refine ⟨tb_lt hA a, ?_⟩
          have : ¬ r = p := fun e => h ⟨k, by rw [hr, e]⟩
          simp [a, this]
        · intro i j hi hj h1 h2 e
          obtain ⟨r, hr⟩ := Option.isSome_iff_exists.mp h1
          obtain ⟨r', hr'⟩ := Option.isSome_iff_exists.mp h2
          simp only [hr, hr', Option.getD_some] at e
          subst e
          exact hm.2 i j r hr hr'
      have h2 := cn_rem (P := fun x => A.testBit x) (tb_lt hA hp) hp
      rw [← pc_cn] at h2
      omega
  obtain ⟨f, hf⟩ := Classical.axiomOfChoice (r := fun (p : Nat) (q : Nat) => A.testBit p = true → m q = some p) (fun p => by
    by_cases h : A.testBit p = true
    · obtain ⟨q, hq⟩ := hall p h
      exact ⟨q, fun _ => hq⟩
    · exact ⟨0, fun h' => absurd h' h⟩)
  refine ⟨f, fun h hh => (hm.1 _ _ (hf h hh)).2, fun h h' hh hh' e => ?_⟩
  have h1 := hf h hh
  have h2 := hf h' hh'
  rw [e, h2] at h1
  exact (Option.some.inj h1).symm
theorem EM_le {gr : Nat → Nat} {A B : Nat} {X Y : Nat → Bool} (hA : A < 4096) (hB : B < 4096) (h : EM gr A B) (hc : CV gr A B X Y) : pc A ≤ cn 12 X + cn 12 Y := by
  obtain ⟨ma, h1, h2⟩ := h
  rw [pc_cn, cn_split 12 (fun p => A.testBit p) X]
  have a1 : cn 12 (fun k => A.testBit k && X k) ≤ cn 12 X := cn_mono (fun k _ hh => by simp at hh; exact hh.2)
  have a2 : cn 12 (fun k => A.testBit k && !X k) ≤ cn 12 Y := by
    apply cn_inj 12 _ _ ma
    · intro k hk hh
      simp only [Bool.and_eq_true, Bool.not_eq_true'] at hh
      obtain ⟨x, y⟩ := h1 k hh.1
      refine ⟨tb_lt hB x, ?_⟩
      rcases hc k _ hh.1 x y with q | q
      · rw [q] at hh; cases hh.2
      · exact q
    · intro i j _ _ hi hj e
      simp only [Bool.and_eq_true] at hi hj
      exact h2 i j hi.1 hj.1 e
  omega
theorem EM_iff {gr : Nat → Nat} {A B k : Nat} (hA : A < 4096) (hB : B < 4096) (h : IsNu gr A B k) : EM gr A B ↔ k = pc A := by
  obtain ⟨⟨m, hm, hs⟩, X, Y, hc, he⟩ := h
  constructor
  · intro hE
    have h1 := EM_le hA hB hE hc
    have h2 := weak hA hm (X := fun p => A.testBit p) (Y := fun _ => false) (fun r q h _ _ => Or.inl h)
    rw [cn_false, ← pc_cn] at h2
    omega
  · intro e
    exact EM_of hA hB ⟨m, hm, by omega⟩
theorem LF_sol {n : Nat} {gr : Nat → Nat} {P : Nat} {f : Option Nat} {t : Nat} {H : Nat → Nat} : ∀ (k p left : Nat) (h : Nat → Nat), p + k = n → LF n gr P f t k p left h H → Sol n gr P p h left f t H := by
  intro k
  induction k with
  | zero => intro p left h hp hl; exact ⟨hl, fun q h1 h2 => by omega, fun u v _ h1 h2 => by omega, by rw [show n - p = 0 by omega]; exact Nat.zero_le _⟩
  | succ k ih =>
    intro p left h hp hl
    have hs : n - p = (n - (p + 1)) + 1 := by omega
    cases hPp : P.testBit p with
    | false =>
      obtain ⟨h', h1, h2⟩ := hl.1 hPp
      obtain ⟨a, b, c, e⟩ := ih (p + 1) left h' (by omega) h2
      have hne : ∀ q, P.testBit q = true → ¬ q = p := fun q hq e => by rw [e, hPp] at hq; cases hq
      refine ⟨fun q hq => by rw [a q (by omega), h1 q hq], fun q hq hqn hP => b q (by have := hne q hP; omega) hqn hP, fun u v huv hv hvn hPu hPv ha => c u v huv (by have := hne v hPv; omega) hvn hPu hPv ha, ?_⟩
      rw [hs]
      simp only [sm, hPp, Bool.false_eq_true, if_false, Nat.zero_add]
      exact e
    | true =>
      obtain ⟨v, o, -, h2⟩ := hl.2 hPp
      obtain ⟨a, b, c, e⟩ := ih (p + 1) (left - v) _ (by omega) h2
      have hHp : H p = v := by rw [a p (by omega), upd1_at]
      refine ⟨fun q hq => by rw [a q (by omega), upd1_ne (by omega)], fun q hq hqn hP => ?_, fun u w huw hw hwn hPu hPw ha => ?_, ?_⟩
      · by_cases e : q = p
        · subst e; rw [hHp]; exact ⟨o.1, o.2.1⟩
        · exact b q (by omega) hqn hP
      · by_cases e : w = p
        · subst e
          rw [hHp, a u (by omega), upd1_ne (by omega)]
          exact o.2.2.2.1 u huw hPu ha
        · exact c u w huw (by omega) hwn hPu hPw ha
      · have := o.2.2.1
        rw [hs]
        simp only [sm, hPp, if_true, hHp]
        omega
theorem HV_EM {n : Nat} {gr : Nat → Nat} {P A B : Nat} {H : Nat → Nat} (hn : n ≤ 12) (hW : WG n gr) (hP : P < 2 ^ n) (hH : HV n gr P H) (hA : ∀ q, A.testBit q = true ↔ q < n ∧ P.testBit q = true ∧ H q = 2) (hB : ∀ q, B.testBit q = true ↔ q < n ∧ P.testBit q = true ∧ H q = 0) : EM gr A B := by
  have lt : ∀ X : Nat, (∀ q, X.testBit q = true → q < n) → X < 2 ^ n := fun X hX => Nat.lt_pow_two_of_testBit _ (fun i hi => by
    cases e : X.testBit i with
    | false => rfl
    | true => have := hX i e; omega)
  have hA2 : A < 2 ^ n := lt A (fun q hq => ((hA q).mp hq).1)
  have hB2 : B < 2 ^ n := lt B (fun q hq => ((hB q).mp hq).1)
  have hA4 : A < 4096 := Nat.lt_of_lt_of_le hA2 (pow12 hn)
  have hB4 : B < 4096 := Nat.lt_of_lt_of_le hB2 (pow12 hn)
  obtain ⟨k, hk⟩ := nu_ex (gr := gr) hA2 hB2 hn
  rw [EM_iff hA4 hB4 hk]
  obtain ⟨⟨m, hm, hs⟩, X, Y, hc, he⟩ := hk
  have hkA : k ≤ pc A := by
    have h2 := weak hA4 hm (X := fun p => A.testBit p) (Y := fun _ => false) (fun r q h _ _ => Or.inl h)
    rw [cn_false, ← pc_cn] at h2
    omega
  rcases Nat.lt_or_ge k (pc A) with hlt | hge
  case inr => omega
  exfalso
  obtain ⟨-, s2, s3, s4⟩ := LF_sol n 0 _ _ (Nat.zero_add n) hH
  let H' : Nat → Nat := fun q => if (A.testBit q && !X q) = true then 1 else if (B.testBit q && Y q) = true then 1 else H q
  have hH2 : ∀ q, q < n → P.testBit q = true → H' q ≤ 2 := by
    intro q hq hP
    have := (s2 q (Nat.zero_le _) hq hP).1
    show (if _ then _ else _) ≤ 2
    split
    · omega
    · split
      · omega
      · exact this
  have hval : ∀ q, q < n → P.testBit q = true → (H' q = 1 ∧ A.testBit q = true ∧ X q = false) ∨ (H' q = 1 ∧ B.testBit q = true ∧ Y q = true) ∨ (H' q = H q ∧ (A.testBit q = true → X q = true) ∧ (B.testBit q = true → Y q = false)) := by
    intro q hq hP
    have hdef : H' q = (if (A.testBit q && !X q) = true then 1 else if (B.testBit q && Y q) = true then 1 else H q) := rfl
    rw [hdef]
    by_cases e1 : (A.testBit q && !X q) = true
    · rw [if_pos e1]; simp only [Bool.and_eq_true, Bool.not_eq_true'] at e1; exact Or.inl ⟨rfl, e1⟩
    · by_cases e2 : (B.testBit q && Y q) = true
      · rw [if_neg e1, if_pos e2]; simp only [Bool.and_eq_true] at e2; exact Or.inr (Or.inl ⟨rfl, e2⟩)
      · rw [if_neg e1, if_neg e2]
        refine Or.inr (Or.inr ⟨rfl, fun a => ?_, fun b => ?_⟩)
        · cases x : X q with
          | true => rfl
          | false => exact absurd (by simp [a, x]) e1
        · cases y : Y q with
          | false => rfl
          | true => exact absurd (by simp [b, y]) e2
  have hfe : ∀ u v, u < v → v < n → P.testBit u = true → P.testBit v = true → (gr v).testBit u = true → 2 ≤ H' u + H' v := by
    intro u v huv hv hPu hPv ha
    have hu : u < n := by omega
    have hsum := s3 u v huv (Nat.zero_le _) hv hPu hPv ha
    have au := (s2 u (Nat.zero_le _) hu hPu).1
    have av := (s2 v (Nat.zero_le _) hv hPv).1
    have ha' : (gr u).testBit v = true := by rw [hW.2.2 u v hu hv]; exact ha
    have key : ∀ x y, x < n → y < n → P.testBit x = true → P.testBit y = true → (gr x).testBit y = true → 2 ≤ H x + H y → H x ≤ 2 → H y ≤ 2 → H' x = 1 → A.testBit x = true → X x = false → 1 ≤ H' y := by
      intro x y hx hy hPx hPy hxy hs hx2 hy2 e1 e2 e3
      rcases hval y hy hPy with ⟨a, -, -⟩ | ⟨a, -, -⟩ | ⟨a, b, c⟩
      · omega
      · omega
      · rw [a]
        rcases Nat.eq_zero_or_pos (H y) with z | z
        · have hBy : B.testBit y = true := (hB y).mpr ⟨hy, hPy, z⟩
          rcases hc x y e2 hBy hxy with q | q
          · rw [q] at e3; cases e3
          · rw [c hBy] at q; cases q
        · exact z
    have key2 : ∀ x y, x < n → y < n → P.testBit x = true → P.testBit y = true → (gr x).testBit y = true → 2 ≤ H x + H y → H x ≤ 2 → H y ≤ 2 → B.testBit x = true → 1 ≤ H' y := by
      intro x y hx hy hPx hPy hxy hs hx2 hy2 e2
      have hx0 := ((hB x).mp e2).2.2
      rcases hval y hy hPy with ⟨a, -, -⟩ | ⟨a, -, -⟩ | ⟨a, -, -⟩ <;> omega
    rcases hval u hu hPu with ⟨a, b, c⟩ | ⟨a, b, c⟩ | ⟨a, b, c⟩
    · have := key u v hu hv hPu hPv ha' hsum au av a b c; omega
    · have := key2 u v hu hv hPu hPv ha' hsum au av b; omega
    · rcases hval v hv hPv with ⟨a', b', c'⟩ | ⟨a', b', c'⟩ | ⟨a', b', c'⟩
      · have := key v u hv hu hPv hPu ha (by omega) av au a' b' c'; omega
      · have := key2 v u hv hu hPv hPu ha (by omega) av au b'; omega
      · omega
  have htau := tau_le_sm (Q := P) (p := 0) hn (Nat.zero_le _) hW (fun q => ⟨fun h => ⟨Nat.zero_le _, tb_ltn hP h, h⟩, fun h => h.2.2⟩) (fun q _ hq hP => hH2 q hq hP) (fun u v huv _ hv hPu hPv ha => hfe u v huv hv hPu hPv ha)
  rw [sm_cn P H' (n - 0) 0 (fun q _ hq hPq => hH2 q (by omega) hPq)] at htau
  rw [sm_cn P H (n - 0) 0 (fun q _ hq hPq => (s2 q (Nat.zero_le _) (by omega) hPq).1)] at s4
  simp only [Nat.sub_zero, Nat.zero_add] at htau s4
  have hcount : ∀ N, N ≤ n → cn N (fun i => P.testBit i && decide (1 ≤ H' i)) + cn N (fun i => P.testBit i && decide (2 ≤ H' i)) + cn N (fun i => A.testBit i && !X i) = cn N (fun i => P.testBit i && decide (1 ≤ H i)) + cn N (fun i => P.testBit i && decide (2 ≤ H i)) + cn N (fun i => B.testBit i && Y i) := by
    intro N
    induction N with
    | zero => intro _; rfl
    | succ i ih =>
      intro hi
      have := ih (by omega)
      simp only [cn_s]
      have pt : (P.testBit i && decide (1 ≤ H' i)).toNat + (P.testBit i && decide (2 ≤ H' i)).toNat + (A.testBit i && !X i).toNat = (P.testBit i && decide (1 ≤ H i)).toNat + (P.testBit i && decide (2 ≤ H i)).toNat + (B.testBit i && Y i).toNat := by
        cases hPi : P.testBit i with
        | false =>
          have a : A.testBit i = false := by
            cases e : A.testBit i with
            | false => rfl
            | true => rw [((hA i).mp e).2.1] at hPi; cases hPi
          have b : B.testBit i = false := by
            cases e : B.testBit i with
            | false => rfl
            | true => rw [((hB i).mp e).2.1] at hPi; cases hPi
          simp [a, b]
        | true =>
          rcases hval i (by omega) hPi with ⟨a, b, c⟩ | ⟨a, b, c⟩ | ⟨a, b, c⟩
          · have h2 := ((hA i).mp b).2.2
            have hb : B.testBit i = false := by
              cases e : B.testBit i with
              | false => rfl
              | true => have := ((hB i).mp e).2.2; omega
            simp [a, b, c, h2, hb]
          · have h2 := ((hB i).mp b).2.2
            have hb : A.testBit i = false := by
              cases e : A.testBit i with
              | false => rfl
              | true => have := ((hA i).mp e).2.2; omega
            simp [a, b, c, h2, hb]
          · have h1 : (A.testBit i && !X i) = false := by
              cases e : A.testBit i with
              | false => rfl
              | true => rw [b e]; rfl
            have h2 : (B.testBit i && Y i) = false := by
              cases e : B.testBit i with
              | false => rfl
              | true => rw [c e]; rfl
            rw [a, h1, h2]
      omega
  have hc1 := hcount n (Nat.le_refl _)
  have ext : ∀ F : Nat → Bool, (∀ q, F q = true → q < n) → cn 12 F = cn n F := by
    intro F hF
    obtain ⟨M, hM⟩ : ∃ M, 12 = n + M := ⟨12 - n, by omega⟩
    rw [hM]
    exact cn_more M (fun k hk => by
      cases e : F k with
      | false => rfl
      | true => have := hF k e; omega)
  have e1 := ext (fun i => A.testBit i && !X i) (fun q hq => by simp only [Bool.and_eq_true] at hq; exact ((hA q).mp hq.1).1)
  have e2 := ext (fun i => B.testBit i && Y i) (fun q hq => by simp only [Bool.and_eq_true] at hq; exact ((hB q).mp hq.1).1)
  have e3 := cn_split 12 (fun i => A.testBit i) X
  have e4 : cn 12 (fun i => A.testBit i && X i) ≤ cn 12 X := cn_mono (fun i _ hi => by simp only [Bool.and_eq_true] at hi; exact hi.2)
  have e5 : cn 12 (fun i => B.testBit i && Y i) ≤ cn 12 Y := cn_mono (fun i _ hi => by simp only [Bool.and_eq_true] at hi; exact hi.2)
  rw [← pc_cn] at e3
  omega

