
theorem lp_cg {α : Type} {F F' : Nat → α → α} : ∀ k (s : α), (∀ j, j < k → ∀ x, F j x = F' j x) → lp F k s = lp F' k s := by
  intro k
  induction k with
  | zero => intro s _; rfl
  | succ k ih =>
    intro s h
    rw [lp_s, lp_s, ih s (fun j hj => h j (by omega)), h k (by omega)]
theorem ltN_cg {f h : Nat → Int32} {m p : Nat} (e : ∀ j, j < m → f j = h j) : ltN f m p = ltN h m p := lp_cg m _ (fun j hj x => by unfold ltF; rw [e j hj])
theorem upB_cg {f h : Nat → Int32} {m q : Nat} (hm : m ≤ 60) (e : ∀ j, j < m → f j = h j) (hP : TP f m) : ∀ k p, p < m → upB f q k p = upB h q k p := by
  intro k
  induction k with
  | zero => intro p _; rfl
  | succ k ih =>
    intro p hp
    unfold upB
    rw [← e p hp]
    by_cases h0 : p = 0
    · subst h0
      rw [hP.1 hp, if_pos rfl, if_pos rfl]
    · obtain ⟨a, ea, ha⟩ := hP.2 p (by omega) hp
      rw [ea, cl_nI (by omega), ih a (by omega)]
theorem unN_cg {f h : Nat → Int32} {m p : Nat} (hm : m ≤ 60) (e : ∀ j, j < m → f j = h j) (hP : TP f m) : unN f m p = unN h m p := lp_cg m _ (fun j hj x => by unfold unF; rw [upB_cg hm e hP _ j hj])
theorem mkD_cg {f h : Nat → Int32} {m : Nat} (e : ∀ j, j < m → f j = h j) : ∀ i (b : Nat → Bool), i < m → mkD f i b = mkD h i b := by
  intro i
  induction i with
  | zero => intro b _; rfl
  | succ i ih =>
    intro b hi
    unfold mkD
    rw [show mkF f (i + 1) b = mkF h (i + 1) b by unfold mkF; rw [e _ hi], ih _ (by omega)]
theorem tN_cg {V : Type} {f h : Nat → Int32} {cb : V → V → V} {ini ini' : Nat → V} {m : Nat} (e : ∀ j, j < m → f j = h j) (ei : ∀ j, j < m → ini j = ini' j) : ∀ k, k ≤ m → ∀ j, j < m → tN f cb ini m k j = tN h cb ini' m k j := by
  intro k
  induction k with
  | zero => intro _ j hj; exact ei j hj
  | succ k ih =>
    intro hk j hj
    unfold tN
    by_cases hjk : j = m - 1 - k
    · rw [if_pos hjk, if_pos hjk, ei _ (by omega)]
      refine lp_cg m _ (fun c hc x => ?_)
      unfold tq
      rw [e c hc, ih (by omega) c hc]
    · rw [if_neg hjk, if_neg hjk, ih (by omega) j hj]
theorem ptG_cg {f h : Nat → Int32} {m : Nat} (e : ∀ j, j < m → f j = h j) : ∀ k, k ≤ m → ptG f k = ptG h k := by
  intro k
  induction k with
  | zero => intro _; rfl
  | succ k ih =>
    intro hk
    unfold ptG
    rw [ih (by omega), e k (by omega)]
theorem pkL_cg {n z : Nat} {gr : Nat → Nat} {f h : Nat → Int32} (e : ∀ j, j < z → f j = h j) : ∀ k i u s, i + k ≤ z → pkL n gr f k i u s = pkL n gr h k i u s := by
  intro k
  induction k with
  | zero => intro i u s _; rfl
  | succ k ih =>
    intro i u s hi
    unfold pkL
    rw [e i (by omega), ih _ _ _ (by omega)]
theorem jiB_cg {z : Nat} {gr : Nat → Nat} {f h : Nat → Int32} {i : Nat} (e : ∀ j, j < z → f j = h j) (hi : i < z) : ∀ k, k ≤ z → jiB gr f i k = jiB gr h i k := by
  intro k
  induction k with
  | zero => intro _; rfl
  | succ k ih =>
    intro hk
    unfold jiB
    rw [ih (by omega), e k (by omega), e i hi]
theorem jdL_cg {n z : Nat} {gr : Nat → Nat} {f h : Nat → Int32} (e : ∀ j, j < z → f j = h j) : ∀ k i t, i + k ≤ z → jdL n gr f k i t = jdL n gr h k i t := by
  intro k
  induction k with
  | zero => intro i t _; rfl
  | succ k ih =>
    intro i t hi
    unfold jdL
    rw [e i (by omega), jiB_cg e (by omega) i (by omega), ih _ _ (by omega)]
theorem rn_cg {t : Nat} {a b : Int32} {f h : Nat → Int32} (e : ∀ j, j < t → f j = h j) : ∀ k p, rn f t a b k p = rn h t a b k p := by
  intro k
  induction k with
  | zero => intro p; rfl
  | succ k ih =>
    intro p
    unfold rn
    by_cases hp : p < t
    · rw [e p hp, ih]
    · rw [decide_eq_false hp, Bool.false_and, Bool.false_and, if_neg (by decide), if_neg (by decide)]
theorem rd_cg {n z : Nat} {gr : Nat → Nat} {f h : Nat → Int32} (e : ∀ j, j < z → f j = h j) : ∀ k P q dp i, rd n gr f z k P q dp i = rd n gr h z k P q dp i := by
  intro k
  induction k with
  | zero => intro P q dp i; rfl
  | succ k ih =>
    intro P q dp i
    unfold rd
    by_cases hi : z ≤ i
    · rw [if_pos hi, if_pos hi]
    · rw [if_neg hi, if_neg hi, e i (by omega)]
      simp only [ih]
theorem s03 {s : Nat} (h : s < 4) : inR (nI s) 0 3 = true := by
  rw [show (0 : Int32) = nI 0 from rfl, show (3 : Int32) = nI 3 from rfl, inR_nI (by omega) (by omega) (by omega)]
  exact decide_eq_true ⟨by omega, by omega⟩
theorem s03n {s : Nat} (h : s < 4) : ¬ inR (nI s) 0 3 = false := by rw [s03 h]; decide
theorem s4 {s t : Nat} (h : s < 4) (h1 : t < 4) (e : nI s = nI t) : s = t := nI_inj (by omega) (by omega) e
theorem zz {s t : Nat} (h : s ≤ 60) (h1 : t ≤ 60) {x : Int32} (e : x = nI s) (e1 : x = nI t) : s = t := nI_inj (by omega) (by omega) (e.symm.trans e1)

