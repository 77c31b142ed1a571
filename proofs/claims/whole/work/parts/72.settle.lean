
/-- halves of a part where some points have theirs already -/
def FX (n : Nat) (gr : Nat → Nat) (P : Nat) (D : Nat → Prop) (h : Nat → Nat) (best : Nat) : Prop := ∃ y, (∀ x, P.testBit x = true → y x ≤ 2) ∧ (∀ u v, P.testBit u = true → P.testBit v = true → (gr u).testBit v = true → 2 ≤ y u + y v) ∧ (∀ x, P.testBit x = true → D x → y x = h x) ∧ sm P y n 0 ≤ best
/-- what that forces: who has nothing, one; who surely has one on the left, on the right -/
def FS (gr : Nat → Nat) (P : Nat) (D : Nat → Prop) (h : Nat → Nat) (Z O L R : Nat) : Prop :=
  (∀ x, Z.testBit x = true ↔ P.testBit x = true ∧ D x ∧ h x = 0) ∧ (∀ x, O.testBit x = true ↔ P.testBit x = true ∧ D x ∧ h x = 1) ∧
  (∀ x, L.testBit x = true ↔ P.testBit x = true ∧ ((D x ∧ 1 ≤ h x) ∨ ∃ u, D u ∧ P.testBit u = true ∧ h u ≤ 1 ∧ (gr u).testBit x = true)) ∧
  ∀ x, R.testBit x = true ↔ P.testBit x = true ∧ ((D x ∧ h x = 2) ∨ ∃ u, D u ∧ P.testBit u = true ∧ h u = 0 ∧ (gr u).testBit x = true)
def FC0 (gr : Nat → Nat) (P : Nat) (D : Nat → Prop) (h : Nat → Nat) : Prop := (∀ x, P.testBit x = true → D x → h x ≤ 2) ∧ ∀ u v, P.testBit u = true → P.testBit v = true → D u → D v → (gr u).testBit v = true → 2 ≤ h u + h v
theorem cn_sub {P Q S : Nat → Bool} {N : Nat} (h1 : ∀ k, k < N → P k = true → S k = true) (h2 : ∀ k, k < N → Q k = true → S k = true) (h3 : ∀ k, k < N → P k = true → Q k = false) : cn N P + cn N Q ≤ cn N S := by
  have h := cn_or N P Q
  have e : cn N (fun k => P k && Q k) = 0 := cn_all0 (fun k hk => by
    cases q : P k with
    | false => rfl
    | true => rw [h3 k hk q]; rfl)
  have m : cn N (fun k => P k || Q k) ≤ cn N S := cn_mono (fun k hk hh => by
    rw [Bool.or_eq_true] at hh
    rcases hh with q | q
    · exact h1 k hk q
    · exact h2 k hk q)
  omega
section GEN2
variable {n : Nat} {gr : Nat → Nat} {P : Nat} {D : Nat → Prop} {h : Nat → Nat} {Z O L R : Nat}
theorem gen_a (hW : WG n gr) (hn : n ≤ 12) (hP : P < 2 ^ n) (hF : FS gr P D h Z O L R) (hc : FC0 gr P D h) : ∃ X Y : Nat → Bool, CV gr P P X Y ∧ (∀ x, P.testBit x = true → D x → X x = decide (1 ≤ h x) ∧ Y x = decide (2 ≤ h x)) ∧ (∀ x, P.testBit x = false → X x = false ∧ Y x = false) ∧ cn 12 X + cn 12 Y = pc L + pc R + tau gr (df (df P Z) L) (df (df P (Z ||| O)) R) := by
  obtain ⟨fZ, fO, fL, fR⟩ := hF
  obtain ⟨⟨X0, Y0, c1, c2⟩, c3⟩ := tau_spec gr (df (df P Z) L) (df (df P (Z ||| O)) R)
  have htL : ∀ x, (df (df P Z) L).testBit x = true ↔ P.testBit x = true ∧ Z.testBit x = false ∧ L.testBit x = false := fun x => by
    rw [tb_df, tb_df]; simp only [Bool.and_eq_true, Bool.not_eq_true', and_assoc]
  have htR : ∀ x, (df (df P (Z ||| O)) R).testBit x = true ↔ P.testBit x = true ∧ Z.testBit x = false ∧ O.testBit x = false ∧ R.testBit x = false := fun x => by
    rw [tb_df, tb_df, Nat.testBit_or]; simp only [Bool.and_eq_true, Bool.not_eq_true', Bool.or_eq_false_iff, and_assoc]
  have hq1 : cn 12 (fun x => X0 x && (df (df P Z) L).testBit x) + cn 12 (fun x => Y0 x && (df (df P (Z ||| O)) R).testBit x) = tau gr (df (df P Z) L) (df (df P (Z ||| O)) R) := by
    apply Nat.le_antisymm
    · have m1 : cn 12 (fun x => X0 x && (df (df P Z) L).testBit x) ≤ cn 12 X0 := cn_mono (fun k _ hk => by rw [Bool.and_eq_true] at hk; exact hk.1)
      have m2 : cn 12 (fun x => Y0 x && (df (df P (Z ||| O)) R).testBit x) ≤ cn 12 Y0 := cn_mono (fun k _ hk => by rw [Bool.and_eq_true] at hk; exact hk.1)
      omega
    · refine c3 _ _ (fun r q hr hq ha => ?_)
      rcases c1 r q hr hq ha with z | z
      · left; show (X0 r && _) = true; rw [z, hr]; rfl
      · right; show (Y0 q && _) = true; rw [z, hq]; rfl
  refine ⟨fun x => L.testBit x || (X0 x && (df (df P Z) L).testBit x), fun x => R.testBit x || (Y0 x && (df (df P (Z ||| O)) R).testBit x), fun r q hr hq ha => ?_, fun x hx hD => ?_, fun x hx => ?_, ?_⟩
  · have hrn := tb_ltn hP hr
    have hqn := tb_ltn hP hq
    show (L.testBit r || _) = true ∨ (R.testBit q || _) = true
    cases e1 : L.testBit r with
    | true => left; rfl
    | false =>
      cases e2 : R.testBit q with
      | true => right; rfl
      | false =>
        have zr : Z.testBit r = false := by
          cases t : Z.testBit r with
          | false => rfl
          | true =>
            obtain ⟨a1, a2, a3⟩ := (fZ r).mp t
            rw [(fR q).mpr ⟨hq, Or.inr ⟨r, a2, a1, a3, ha⟩⟩] at e2
            cases e2
        have hle : ∀ k, h q = k → D q → k ≤ 1 → False := fun k hk hd h1 => by
          rw [(fL r).mpr ⟨hr, Or.inr ⟨q, hd, hq, by omega, by rw [hW.2.2 q r hqn hrn]; exact ha⟩⟩] at e1
          cases e1
        have zq : Z.testBit q = false := by
          cases t : Z.testBit q with
          | false => rfl
          | true => obtain ⟨a1, a2, a3⟩ := (fZ q).mp t; exact (hle 0 a3 a2 (by omega)).elim
        have oq : O.testBit q = false := by
          cases t : O.testBit q with
          | false => rfl
          | true => obtain ⟨a1, a2, a3⟩ := (fO q).mp t; exact (hle 1 a3 a2 (by omega)).elim
        have r1 := (htL r).mpr ⟨hr, zr, e1⟩
        have r2 := (htR q).mpr ⟨hq, zq, oq, e2⟩
        rcases c1 r q r1 r2 ha with z | z
        · left; rw [z, r1]; rfl
        · right; rw [z, r2]; rfl
  · have h2 := hc.1 x hx hD
    constructor
    · show (L.testBit x || _) = _
      by_cases e : 1 ≤ h x
      · rw [decide_eq_true e, (fL x).mpr ⟨hx, Or.inl ⟨hD, e⟩⟩]; rfl
      · rw [decide_eq_false e]
        have z1 : Z.testBit x = true := (fZ x).mpr ⟨hx, hD, by omega⟩
        have l1 : L.testBit x = false := by
          cases t : L.testBit x with
          | false => rfl
          | true =>
            rcases ((fL x).mp t).2 with ⟨-, a⟩ | ⟨u, a1, a2, a3, a4⟩
            · exact absurd a e
            · have := hc.2 u x a2 hx a1 hD a4; omega
        have : (df (df P Z) L).testBit x = false := by
          cases t : (df (df P Z) L).testBit x with
          | false => rfl
          | true => rw [((htL x).mp t).2.1] at z1; cases z1
        rw [l1, this]; simp
    · show (R.testBit x || _) = _
      by_cases e : 2 ≤ h x
      · rw [decide_eq_true e, (fR x).mpr ⟨hx, Or.inl ⟨hD, by omega⟩⟩]; rfl
      · rw [decide_eq_false e]
        have r1 : R.testBit x = false := by
          cases t : R.testBit x with
          | false => rfl
          | true =>
            rcases ((fR x).mp t).2 with ⟨-, a⟩ | ⟨u, a1, a2, a3, a4⟩
            · omega
            · have := hc.2 u x a2 hx a1 hD a4; omega
        have : (df (df P (Z ||| O)) R).testBit x = false := by
          cases t : (df (df P (Z ||| O)) R).testBit x with
          | false => rfl
          | true =>
            obtain ⟨-, b1, b2, -⟩ := (htR x).mp t
            rcases (show h x = 0 ∨ h x = 1 by omega) with e3 | e3
            · rw [(fZ x).mpr ⟨hx, hD, e3⟩] at b1; cases b1
            · rw [(fO x).mpr ⟨hx, hD, e3⟩] at b2; cases b2
        rw [r1, this]; simp
  · constructor
    · show (L.testBit x || _) = _
      have l1 : L.testBit x = false := by
        cases t : L.testBit x with
        | false => rfl
        | true => rw [((fL x).mp t).1] at hx; cases hx
      have : (df (df P Z) L).testBit x = false := by
        cases t : (df (df P Z) L).testBit x with
        | false => rfl
        | true => rw [((htL x).mp t).1] at hx; cases hx
      rw [l1, this]; simp
    · show (R.testBit x || _) = _
      have l1 : R.testBit x = false := by
        cases t : R.testBit x with
        | false => rfl
        | true => rw [((fR x).mp t).1] at hx; cases hx
      have : (df (df P (Z ||| O)) R).testBit x = false := by
        cases t : (df (df P (Z ||| O)) R).testBit x with
        | false => rfl
        | true => rw [((htR x).mp t).1] at hx; cases hx
      rw [l1, this]; simp
  · have d1 := cn_or 12 (fun x => L.testBit x) (fun x => X0 x && (df (df P Z) L).testBit x)
    have d2 := cn_or 12 (fun x => R.testBit x) (fun x => Y0 x && (df (df P (Z ||| O)) R).testBit x)
    have z1 : cn 12 (fun x => L.testBit x && (X0 x && (df (df P Z) L).testBit x)) = 0 := cn_all0 (fun x _ => by
      cases t : (df (df P Z) L).testBit x with
      | false => simp
      | true => rw [((htL x).mp t).2.2]; rfl)
    have z2 : cn 12 (fun x => R.testBit x && (Y0 x && (df (df P (Z ||| O)) R).testBit x)) = 0 := cn_all0 (fun x _ => by
      cases t : (df (df P (Z ||| O)) R).testBit x with
      | false => simp
      | true => rw [((htR x).mp t).2.2.2]; rfl)
    rw [pc_cn L, pc_cn R]
    omega
theorem gen_b (hW : WG n gr) (hP : P < 2 ^ n) (hF : FS gr P D h Z O L R) {X Y : Nat → Bool} (hC : CV gr P P X Y) (hcan : ∀ x, P.testBit x = true → D x → X x = decide (1 ≤ h x) ∧ Y x = decide (2 ≤ h x)) : pc L + pc R + tau gr (df (df P Z) L) (df (df P (Z ||| O)) R) ≤ cn 12 X + cn 12 Y := by
  obtain ⟨fZ, fO, fL, fR⟩ := hF
  have hL : ∀ x, L.testBit x = true → X x = true := fun x hx => by
    obtain ⟨a, b⟩ := (fL x).mp hx
    rcases b with ⟨b1, b2⟩ | ⟨u, b1, b2, b3, b4⟩
    · rw [(hcan x a b1).1]; exact decide_eq_true b2
    · rcases hC x u a b2 (by rw [hW.2.2 x u (tb_ltn hP a) (tb_ltn hP b2)]; exact b4) with z | z
      · exact z
      · rw [(hcan u b2 b1).2, decide_eq_false (by omega)] at z; cases z
  have hR : ∀ x, R.testBit x = true → Y x = true := fun x hx => by
    obtain ⟨a, b⟩ := (fR x).mp hx
    rcases b with ⟨b1, b2⟩ | ⟨u, b1, b2, b3, b4⟩
    · rw [(hcan x a b1).2]; exact decide_eq_true (by omega)
    · rcases hC u x b2 a b4 with z | z
      · rw [(hcan u b2 b1).1, decide_eq_false (by omega)] at z; cases z
      · exact z
  have ht := (tau_spec gr (df (df P Z) L) (df (df P (Z ||| O)) R)).2 (fun x => X x && (df (df P Z) L).testBit x) (fun x => Y x && (df (df P (Z ||| O)) R).testBit x) (fun r q hr hq ha => by
    have hr' := hr
    have hq' := hq
    rw [tb_df, tb_df, Bool.and_eq_true, Bool.and_eq_true] at hr' hq'
    rcases hC r q hr'.1.1 hq'.1.1 ha with z | z
    · left; show (X r && _) = true; rw [z, hr]; rfl
    · right; show (Y q && _) = true; rw [z, hq]; rfl)
  have s1 : cn 12 (fun x => L.testBit x) + cn 12 (fun x => X x && (df (df P Z) L).testBit x) ≤ cn 12 X := cn_sub (fun k _ hk => hL k hk) (fun k _ hk => by rw [Bool.and_eq_true] at hk; exact hk.1) (fun k _ hk => by rw [tb_df, hk]; simp)
  have s2 : cn 12 (fun x => R.testBit x) + cn 12 (fun x => Y x && (df (df P (Z ||| O)) R).testBit x) ≤ cn 12 Y := cn_sub (fun k _ hk => hR k hk) (fun k _ hk => by rw [Bool.and_eq_true] at hk; exact hk.1) (fun k _ hk => by rw [tb_df, hk]; simp)
  rw [pc_cn L, pc_cn R]
  omega
theorem sm_12 (hn : n ≤ 12) (hP : P < 2 ^ n) {y : Nat → Nat} (h2 : ∀ x, P.testBit x = true → y x ≤ 2) : sm P y n 0 = cn 12 (fun i => P.testBit i && decide (1 ≤ y i)) + cn 12 (fun i => P.testBit i && decide (2 ≤ y i)) := by
  have hPf : ∀ k, n ≤ k → P.testBit k = false := fun k hk => by
    cases t : P.testBit k with
    | false => rfl
    | true => have := tb_ltn hP t; omega
  rw [sm_cn P y n 0 (fun q _ _ hq => h2 q hq)]
  have e1 := cn_more (N := n) (12 - n) (P := fun i => P.testBit i && decide (1 ≤ y i)) (fun k hk => by simp [hPf k hk])
  have e2 := cn_more (N := n) (12 - n) (P := fun i => P.testBit i && decide (2 ≤ y i)) (fun k hk => by simp [hPf k hk])
  rw [show n + (12 - n) = 12 by omega] at e1 e2
  rw [e1, e2]
  simp only [Nat.zero_add]
theorem gen_iff (hW : WG n gr) (hn : n ≤ 12) (hP : P < 2 ^ n) (hF : FS gr P D h Z O L R) (hc : FC0 gr P D h) {best : Nat} : FX n gr P D h best ↔ pc L + pc R + tau gr (df (df P Z) L) (df (df P (Z ||| O)) R) ≤ best := by
  constructor
  · rintro ⟨y, y1, y2, y3, y4⟩
    rw [sm_12 hn hP y1] at y4
    refine Nat.le_trans (gen_b hW hP hF (X := fun i => P.testBit i && decide (1 ≤ y i)) (Y := fun i => P.testBit i && decide (2 ≤ y i)) (fun r q hr hq ha => ?_) (fun x hx hD => ?_)) y4
    · have := y2 r q hr hq ha
      have := y1 r hr
      show (P.testBit r && _) = true ∨ (P.testBit q && _) = true
      rw [hr, hq]
      by_cases e : 1 ≤ y r
      · left; simp [e]
      · right; simp; omega
    · show (P.testBit x && _) = _ ∧ (P.testBit x && _) = _
      rw [hx, y3 x hx hD]
      exact ⟨rfl, rfl⟩
  · intro hle
    obtain ⟨X, Y, a1, a2, a3, a4⟩ := gen_a hW hn hP hF hc
    have b2 : ∀ x, (X x).toNat + (Y x).toNat ≤ 2 := fun x => by have := b1 (X x); have := b1 (Y x); omega
    refine ⟨fun x => (X x).toNat + (Y x).toNat, fun x _ => b2 x, fun u v hu hv ha => ?_, fun x hx hD => ?_, ?_⟩
    · have h1 := a1 u v hu hv ha
      have h2 := a1 v u hv hu (by rw [hW.2.2 v u (tb_ltn hP hv) (tb_ltn hP hu)]; exact ha)
      show 2 ≤ (X u).toNat + (Y u).toNat + ((X v).toNat + (Y v).toNat)
      rcases h1 with z | z <;> rcases h2 with z2 | z2 <;> simp only [z, z2, Bool.toNat_true] <;> omega
    · show (X x).toNat + (Y x).toNat = h x
      rw [(a2 x hx hD).1, (a2 x hx hD).2]
      have := hc.1 x hx hD
      rcases (show h x = 0 ∨ h x = 1 ∨ h x = 2 by omega) with e | e | e <;> rw [e] <;> rfl
    · rw [sm_12 hn hP (fun x _ => b2 x)]
      have e : cn 12 (fun i => P.testBit i && decide (1 ≤ (X i).toNat + (Y i).toNat)) + cn 12 (fun i => P.testBit i && decide (2 ≤ (X i).toNat + (Y i).toNat)) ≤ cn 12 X + cn 12 Y := by
        have : ∀ N, cn N (fun i => P.testBit i && decide (1 ≤ (X i).toNat + (Y i).toNat)) + cn N (fun i => P.testBit i && decide (2 ≤ (X i).toNat + (Y i).toNat)) ≤ cn N X + cn N Y := by
          intro N
          induction N with
          | zero => exact Nat.le_refl _
          | succ k ih =>
            simp only [cn_s]
            cases P.testBit k <;> cases X k <;> cases Y k <;> simp <;> omega
        exact this 12
      omega
/-- never less than the least -/
theorem gen_ge (hW : WG n gr) (hn : n ≤ 12) (hP : P < 2 ^ n) (hF : FS gr P D h Z O L R) (hc : FC0 gr P D h) : tau gr P P ≤ pc L + pc R + tau gr (df (df P Z) L) (df (df P (Z ||| O)) R) := by
  obtain ⟨X, Y, a1, -, -, a4⟩ := gen_a hW hn hP hF hc
  rw [← a4]
  exact (tau_spec gr P P).2 X Y a1
end GEN2
theorem sm_split (P : Nat) (y : Nat → Nat) : ∀ a b p, sm P y (a + b) p = sm P y a p + sm P y b (p + a) := by
  intro a
  induction a with
  | zero => intro b p; rw [Nat.zero_add, Nat.add_zero]; simp [sm]
  | succ a ih =>
    intro b p
    rw [show a + 1 + b = (a + b) + 1 by omega]
    show _ + sm P y (a + b) (p + 1) = (_ + sm P y a (p + 1)) + _
    rw [ih b (p + 1), show p + 1 + a = p + (a + 1) by omega, Nat.add_assoc]
/-- ways that go on from a beginning -/
theorem Ex_FX {n : Nat} {gr : Nat → Nat} {P p : Nat} {h : Nat → Nat} {left t : Nat} (hW : WG n gr) (hP : P < 2 ^ n) (hp : p ≤ n) (hc : FC0 gr P (fun x => x < p) h) : Ex n gr P p h left none t ↔ FX n gr P (fun x => x < p) h (sm P h p 0 + left) := by
  have hsp : ∀ y, sm P y n 0 = sm P y p 0 + sm P y (n - p) p := fun y => by
    have := sm_split P y p (n - p) 0
    rw [show p + (n - p) = n by omega, Nat.zero_add] at this
    exact this
  constructor
  · rintro ⟨y, s1, s2, s3, s4⟩
    refine ⟨y, fun x hx => ?_, fun u v hu hv ha => ?_, fun x _ hD => s1 x hD, ?_⟩
    · by_cases e : x < p
      · rw [s1 x e]; exact hc.1 x hx e
      · exact (s2 x (by omega) (tb_ltn hP hx) hx).1
    · have hun := tb_ltn hP hu
      have hvn := tb_ltn hP hv
      have key : ∀ a b, a < b → P.testBit a = true → P.testBit b = true → (gr b).testBit a = true → 2 ≤ y a + y b := fun a b hab ha hb hg => by
        by_cases e : b < p
        · rw [s1 a (by omega), s1 b e]
          exact hc.2 a b ha hb (show a < p by omega) e (by rw [hW.2.2 a b (tb_ltn hP ha) (tb_ltn hP hb)]; exact hg)
        · exact s3 a b hab (by omega) (tb_ltn hP hb) ha hb hg
      rcases Nat.lt_trichotomy u v with e | e | e
      · exact key u v e hu hv (by rw [hW.2.2 v u hvn hun]; exact ha)
      · rw [e, hW.2.1 v hvn] at ha; cases ha
      · rw [Nat.add_comm]; exact key v u e hv hu ha
    · rw [hsp, sm_congr (y := y) (y' := h) p 0 (fun q _ hq _ => s1 q (by omega))]
      omega
  · rintro ⟨y, y1, y2, y3, y4⟩
    have hy : ∀ x, P.testBit x = true → (fun q => if q < p then h q else y q) x = y x := fun x hx => by
      show (if x < p then h x else y x) = y x
      by_cases e : x < p
      · rw [if_pos e, y3 x hx e]
      · rw [if_neg e]
    refine ⟨fun q => if q < p then h q else y q, fun q hq => if_pos hq, fun q h1 h2 h3 => ⟨by rw [hy q h3]; exact y1 q h3, fun e => by cases e⟩, fun u v huv _ hv hu1 hv1 ha => by rw [hy u hu1, hy v hv1, Nat.add_comm]; exact y2 v u hv1 hu1 ha, ?_⟩
    rw [sm_congr (y' := y) (n - p) p (fun q _ _ hq => hy q hq)]
    have h1 := hsp y
    have h2 : sm P y p 0 = sm P h p 0 := sm_congr p 0 (fun q _ hq hP => y3 q hP (show q < p by omega))
    omega
/-- one point is told what it has -/
theorem Ex_one {n : Nat} {gr : Nat → Nat} {P p v : Nat} {h0 : Nat → Nat} {best : Nat} (hW : WG n gr) (hP : P < 2 ^ n) : Ex n gr P 0 h0 best (some p) v ↔ FX n gr P (fun x => x = p) (fun _ => v) best := by
  constructor
  · rintro ⟨y, s1, s2, s3, s4⟩
    refine ⟨y, fun x hx => (s2 x (Nat.zero_le _) (tb_ltn hP hx) hx).1, fun u v' hu hv ha => ?_, fun x hx hD => (s2 x (Nat.zero_le _) (tb_ltn hP hx) hx).2 (by rw [hD]), by rw [Nat.sub_zero] at s4; exact s4⟩
    have hun := tb_ltn hP hu
    have hvn := tb_ltn hP hv
    rcases Nat.lt_trichotomy u v' with e | e | e
    · exact s3 u v' e (Nat.zero_le _) hvn hu hv (by rw [hW.2.2 v' u hvn hun]; exact ha)
    · rw [e, hW.2.1 v' hvn] at ha; cases ha
    · rw [Nat.add_comm]; exact s3 v' u e (Nat.zero_le _) hun hv hu ha
  · rintro ⟨y, y1, y2, y3, y4⟩
    refine ⟨y, fun q hq => absurd hq (by omega), fun q _ _ hq => ⟨y1 q hq, fun e => y3 q hq (by injection e with e; exact e.symm)⟩, fun u v' _ _ _ hu hv ha => by rw [Nat.add_comm]; exact y2 v' u hv hu ha, by rw [Nat.sub_zero]; exact y4⟩

