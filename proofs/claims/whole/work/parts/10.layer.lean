/-! THE LAYER: an abstract heap (ints by object and slot, longs, references), and a judgement G over it -/
abbrev AI : Type := Nat → Nat → Int32
abbrev AJ : Type := Nat → Nat → Int64
abbrev AR : Type := Nat → Nat → Option Nat
abbrev AK : Type := Value → AI → AJ → AR → Prop
abbrev MI : Type := MethodName × ByteArray × Nat × Option FieldType
def w2 {α : Type} (f : Nat → Nat → α) (k j : Nat) (v : α) : Nat → Nat → α := fun a b => if a = k ∧ b = j then v else f a b
theorem w2_at {α : Type} (f : Nat → Nat → α) (k j : Nat) (v : α) : w2 f k j v k j = v := by simp [w2]
theorem w2_row {α : Type} (f : Nat → Nat → α) (k j : Nat) (v : α) {a : Nat} (h : ¬ a = k) : w2 f k j v a = f a := by
  funext b; simp [w2, h]
abbrev UU : Value := .float 0
def isF : Value → Bool
  | .float _ => true
  | _ => false
def notL : Value → Bool
  | .long _ => false
  | .double _ => false
  | .float _ => true
  | _ => true
def cv (ad : Nat → Nat) : Value → Value
  | .ref k => .ref (ad k)
  | v => v
def lz (ad : Nat → Nat) : Nat → List Value → List (Nat × Value)
  | _, [] => []
  | i, v :: r => if isF v then lz ad (i + 1) r else (i, cv ad v) :: lz ad (i + 1) r
theorem lz_mem (ad : Nat → Nat) (q : Nat × Value) : ∀ (L : List Value) (i : Nat), q ∈ lz ad i L ↔ ∃ v, i ≤ q.1 ∧ L[q.1 - i]? = some v ∧ isF v = false ∧ q.2 = cv ad v := by
  intro L
  induction L with
  | nil => intro i; simp [lz]
  | cons a r ih =>
    intro i
    unfold lz
    have key : (∃ v, i ≤ q.1 ∧ (a :: r)[q.1 - i]? = some v ∧ isF v = false ∧ q.2 = cv ad v) ↔ (q.1 = i ∧ isF a = false ∧ q.2 = cv ad a) ∨ ∃ v, i + 1 ≤ q.1 ∧ r[q.1 - (i + 1)]? = some v ∧ isF v = false ∧ q.2 = cv ad v := by
      constructor
      · rintro ⟨v, h1, h2, h3, h4⟩
        by_cases e : q.1 = i
        · rw [e, Nat.sub_self] at h2
          simp at h2
          subst h2
          exact Or.inl ⟨e, h3, h4⟩
        · refine Or.inr ⟨v, by omega, ?_, h3, h4⟩
          rw [show q.1 - i = (q.1 - (i + 1)) + 1 by omega] at h2
          simpa using h2
      · rintro (⟨e, h3, h4⟩ | ⟨v, h1, h2, h3, h4⟩)
        · exact ⟨a, by omega, by rw [e, Nat.sub_self]; rfl, h3, h4⟩
        · refine ⟨v, by omega, ?_, h3, h4⟩
          rw [show q.1 - i = (q.1 - (i + 1)) + 1 by omega]
          simpa using h2
    rw [key, ← ih (i + 1)]
    by_cases hf : isF a = true
    · simp [hf]
    · simp only [Bool.not_eq_true] at hf
      simp only [hf, Bool.false_eq_true, if_false, List.mem_cons, true_and]
      constructor
      · rintro (rfl | h)
        · exact Or.inl ⟨rfl, rfl⟩
        · exact Or.inr h
      · rintro (⟨e, h4⟩ | h)
        · exact Or.inl (Prod.ext e h4)
        · exact Or.inr h
theorem cv_cat (ad : Nat → Nat) (v : Value) : (cv ad v).category = v.category := by cases v <;> rfl
theorem notL_cat {v : Value} (h : notL v = true) : ¬ v.category = 2 := by cases v <;> first | (cases h; done) | (intro q; cases q)
theorem lz_at {ad : Nat → Nat} {L : List Value} {ls : Array Slot} {nL i : Nat} {v : Value} (hl : lv_has ls nL (lz ad 0 L)) (h : L[i]? = some v) (hv : isF v = false) : ls[i]? = some (.val (cv ad v)) :=
  hl.2.2 (i, cv ad v) ((lz_mem ad (i, cv ad v) L 0).mpr ⟨v, Nat.zero_le _, h, hv, rfl⟩)
theorem lz_set1 {ad : Nat → Nat} {L : List Value} {ls' : Array Slot} {nL i : Nat} {v : Value} (hi : i < L.length) (hp : ∀ w, 0 < i → L[i - 1]? = some w → notL w = true)
    (hl : lv_has ls' nL ((i, cv ad v) :: (lz ad 0 L).filter (fun q => !(q.1 == i) && !(q.1 + 1 == i && q.2.category == 2)))) : lv_has ls' nL (lz ad 0 (L.set i v)) := by
  refine ⟨hl.1, hl.2.1, fun q hq => hl.2.2 q ?_⟩
  obtain ⟨w, -, h2, h3, h4⟩ := (lz_mem ad q (L.set i v) 0).mp hq
  rw [Nat.sub_zero] at h2
  by_cases e : q.1 = i
  · rw [e, List.getElem?_set] at h2
    simp [hi] at h2
    subst h2
    exact List.mem_cons.mpr (Or.inl (Prod.ext e h4))
  · rw [List.getElem?_set_ne (fun z => e z.symm)] at h2
    refine List.mem_cons.mpr (Or.inr (List.mem_filter.mpr ⟨(lz_mem ad q L 0).mpr ⟨w, Nat.zero_le _, by rw [Nat.sub_zero]; exact h2, h3, h4⟩, ?_⟩))
    have hc : ¬ (q.1 + 1 = i ∧ q.2.category = 2) := by
      rintro ⟨a, b⟩
      rw [h4, cv_cat] at b
      exact notL_cat (hp w (by omega) (by rw [show i - 1 = q.1 by omega]; exact h2)) b
    simp only [Bool.and_eq_true, Bool.not_eq_true', beq_eq_false_iff_ne, Bool.and_eq_false_iff]
    refine ⟨e, ?_⟩
    by_cases a : q.1 + 1 = i
    · exact Or.inr (fun b => hc ⟨a, b⟩)
    · exact Or.inl a
theorem lz_set2 {ad : Nat → Nat} {L : List Value} {ls' : Array Slot} {nL i : Nat} {v : Value} (hi : i + 1 < L.length) (hp : ∀ w, 0 < i → L[i - 1]? = some w → notL w = true)
    (hl : lv_has ls' nL ((i, cv ad v) :: (lz ad 0 L).filter (fun q => !(q.1 == i) && (!(q.1 == i + 1) && !(q.1 + 1 == i && q.2.category == 2))))) : lv_has ls' nL (lz ad 0 ((L.set i v).set (i + 1) UU)) := by
  refine ⟨hl.1, hl.2.1, fun q hq => hl.2.2 q ?_⟩
  obtain ⟨w, -, h2, h3, h4⟩ := (lz_mem ad q ((L.set i v).set (i + 1) UU) 0).mp hq
  rw [Nat.sub_zero] at h2
  by_cases e1 : q.1 = i + 1
  · rw [e1, List.getElem?_set] at h2
    simp [hi] at h2
    subst h2
    cases h3
  rw [List.getElem?_set_ne (fun z => e1 z.symm)] at h2
  by_cases e : q.1 = i
  · rw [e, List.getElem?_set] at h2
    simp [show i < L.length by omega] at h2
    subst h2
    exact List.mem_cons.mpr (Or.inl (Prod.ext e h4))
  · rw [List.getElem?_set_ne (fun z => e z.symm)] at h2
    refine List.mem_cons.mpr (Or.inr (List.mem_filter.mpr ⟨(lz_mem ad q L 0).mpr ⟨w, Nat.zero_le _, by rw [Nat.sub_zero]; exact h2, h3, h4⟩, ?_⟩))
    have hc : ¬ (q.1 + 1 = i ∧ q.2.category = 2) := by
      rintro ⟨a, b⟩
      rw [h4, cv_cat] at b
      exact notL_cat (hp w (by omega) (by rw [show i - 1 = q.1 by omega]; exact h2)) b
    simp only [Bool.and_eq_true, Bool.not_eq_true', beq_eq_false_iff_ne, Bool.and_eq_false_iff]
    refine ⟨e, e1, ?_⟩
    by_cases a : q.1 + 1 = i
    · exact Or.inr (fun b => hc ⟨a, b⟩)
    · exact Or.inl a
/-- an entry's locals: arguments of one word each, then unset ones -/
theorem lz_entry (ad : Nat → Nat) (n : Nat) : ∀ (As : List Value) (i : Nat), As.all notL = true → ∀ q ∈ lz ad i (As ++ List.replicate n UU), q ∈ lv_args i (As.map (cv ad)) := by
  intro As
  induction As with
  | nil =>
    intro i _ q hq
    obtain ⟨w, -, h2, h3, -⟩ := (lz_mem ad q _ i).mp hq
    rw [List.nil_append, List.getElem?_replicate] at h2
    split at h2
    · cases h2; cases h3
    · cases h2
  | cons a r ih =>
    intro i ha q hq
    simp only [List.all_cons, Bool.and_eq_true] at ha
    rw [List.cons_append] at hq
    unfold lz at hq
    simp only [List.map_cons, lv_args]
    have hcat : ¬ (cv ad a).category = 2 := by rw [cv_cat]; exact notL_cat ha.1
    rw [if_neg hcat]
    split at hq
    · exact List.mem_cons_of_mem _ (ih (i + 1) ha.2 q hq)
    · rcases List.mem_cons.mp hq with h | h
      · exact List.mem_cons.mpr (Or.inl h)
      · exact List.mem_cons_of_mem _ (ih (i + 1) ha.2 q h)
theorem sl_len (ad : Nat → Nat) : ∀ (As : List Value), As.all notL = true → (lg_sl (As.map (cv ad))).length = As.length := by
  intro As
  induction As with
  | nil => intro _; rfl
  | cons a r ih =>
    intro ha
    simp only [List.all_cons, Bool.and_eq_true] at ha
    have hcat : ¬ (cv ad a).category = 2 := by rw [cv_cat]; exact notL_cat ha.1
    have e : lg_sl (cv ad a :: r.map (cv ad)) = [.val (cv ad a)] ++ lg_sl (r.map (cv ad)) := by
      unfold lg_sl
      rw [List.flatMap_cons, if_neg hcat]
    rw [List.map_cons, e, List.length_append, ih ha.2, List.length_cons, List.length_cons, List.length_nil]
    omega

abbrev vwCl : List vw_C := [(RX0, TX0, 7), (RX1, TX1, 2), (RX2, TX2, 8), (RX3, TX3, 8), (RX4, TX4, 5), (RX5, TX5, 3), (RX6, TX6, 14), (RX7, TX7, 3), (RX8, TX8, 3), (RX9, TX9, 4), (RX10, TX10, 9), (RX11, TX11, 17), (RX12, TX12, 50)]
def nfL : List Nat := [7, 2, 8, 8, 5, 3, 14, 3, 3, 4, 9, 17, 50]
def nf (c : Nat) : Nat := nfL.getD c 0
def clty (c j : Nat) : FieldType := match c with
  | 0 => tyX0 j
  | 1 => tyX1 j
  | 2 => tyX2 j
  | 3 => tyX3 j
  | 4 => tyX4 j
  | 5 => tyX5 j
  | 6 => tyX6 j
  | 7 => tyX7 j
  | 8 => tyX8 j
  | 9 => tyX9 j
  | 10 => tyX10 j
  | 11 => tyX11 j
  | _ => tyX12 j
def isR : FieldType → Bool
  | .array _ => true
  | .object _ => true
  | _ => false
def NC : Nat := 110
def lyL : List Nat := [11, 4, 20, 20, 20, 20, 4, 20, 20, 20, 20, 4, 20, 20, 20, 20, 2, 20, 20, 20, 20, 20, 0, 20, 1, 3, 20, 20, 20, 2, 20, 20, 20, 20, 5, 6, 20, 2, 20, 20, 20, 20, 9, 20, 20, 7, 23, 20, 20, 20, 20, 20, 20, 8, 20, 20, 20, 10, 20, 20, 20, 20, 20, 21, 21, 21, 10, 20, 20, 20, 20, 20, 21, 21, 21, 12, 20, 20, 20, 20, 20, 20, 20, 20, 20, 20, 20, 20, 20, 20, 20, 20, 20, 20, 20, 21, 21, 21, 21, 21, 22, 20, 20, 20, 20, 20, 20, 20, 20, 20]
def lnL : List Nat := [0, 0, 12, 12, 12, 12, 0, 12, 12, 12, 12, 0, 12, 12, 12, 12, 0, 12, 12, 12, 12, 4096, 0, 12, 0, 0, 12, 12, 12, 0, 12, 12, 12, 12, 0, 0, 60, 0, 12, 12, 12, 12, 0, 200, 20, 0, 4, 4, 4, 60, 60, 60, 60, 0, 4, 4, 4, 0, 60, 60, 60, 60, 60, 60, 60, 60, 0, 60, 60, 60, 60, 60, 60, 60, 60, 0, 12, 12, 12, 12, 12, 12, 3, 4096, 4096, 5, 60, 12, 200, 60, 60, 60, 60, 60, 60, 60, 60, 60, 60, 60, 60, 38, 38, 4, 4, 240, 4, 4, 4, 4]
def ly (k : Nat) : Nat := lyL.getD k 99
def ln (k : Nat) : Nat := lnL.getD k 0
def rXL (g : Bool) : List (List (Option Nat)) := [[some 1, some 6, some 11, some 16, some 22, some 24, some 25, some 34, some 35, some 42, some 45, some 53, bif g then some 66 else some 57, bif g then some 57 else some 66], [some 2, some 3, some 4, some 5], [], [], [], [], [some 7, some 8, some 9, some 10], [], [], [], [], [some 12, some 13, some 14, some 15], [], [], [], [], [some 17, some 18, some 19, some 20], [], [], [], [], [], [some 21, some 23], [], [], [some 29, some 26, some 27, some 28], [], [], [], [some 30, some 31, some 32, some 33], [], [], [], [], [some 21], [some 37, some 36], [], [some 38, some 39, some 40, some 41], [], [], [], [], [some 43, some 44], [], [], [some 46, some 47, some 48], [some 49, some 50, some 51, some 52], [], [], [], [], [], [], [some 54, some 55, some 56], [], [], [], [some 58, some 59, some 60, some 61, some 62, some 63, some 64, some 65], [], [], [], [], [], [], [], [], [some 67, some 68, some 69, some 70, some 71, some 72, some 73, some 74], [], [], [], [], [], [], [], [], [none, none, some 76, some 77, some 78, some 79, none, some 80, some 81, none, none, none, none, some 82, some 83, some 84, none, none, none, none, some 85, some 86, none, some 87, some 88, none, none, some 89, some 90, some 91, none, some 92, some 93, some 94, some 95, some 96, some 97, some 98, some 99, some 100, some 101, some 102, none, some 103, some 104, some 105, some 106, some 107, some 108, some 109], [], [], [], [], [], [], [], [], [], [], [], [], [], [], [], [], [], [], [], [], [], [], [], [], [], [], [], [], [], [], [], [], [], []]
def rX (g : Bool) : AR := fun k j => ((rXL g).getD k []).getD j none
def fv (ad : Nat → Nat) (I : AI) (R : AR) (c k j : Nat) : Value := if isR (clty c j) then va_rf ((R k j).map ad) else .int (I k j)
def ce (ad : Nat → Nat) (cy : Nat → ClassId) (I : AI) (J : AJ) (R : AR) (k : Nat) : va_E :=
  if ly k = 20 then .inl (cy 0, ln k, .inl (I k)) else
  if ly k = 21 then .inl (cy 1, ln k, .inr (.inl (J k))) else
  if ly k = 22 then .inl (cy 2, ln k, .inl (I k)) else
  if ly k = 23 then .inl (cy 3, ln k, .inr (.inr (.inr (.inr (fun j => (R k j).map ad)))))
  else .inr (ly k, (List.range (nf (ly k))).map (fv ad I R (ly k) k))
def wo (ad : Nat → Nat) (cy : Nat → ClassId) (I : AI) (J : AJ) (R : AR) : va_W := (List.range NC).map (fun k => (ad k, ce ad cy I J R k))
def inA (ad : Nat → Nat) : Nat → Prop := fun q => ∃ k, k < NC ∧ q = ad k
def apart (ad : Nat → Nat) : Prop := ∀ i j : Nat, i < NC → j < NC → ad i = ad j → i = j
theorem wo_at (ad : Nat → Nat) (cy : Nat → ClassId) (I : AI) (J : AJ) (R : AR) {k : Nat} (hk : k < NC) : (wo ad cy I J R)[k]? = some (ad k, ce ad cy I J R k) := by
  unfold wo
  rw [List.getElem?_map, List.getElem?_range hk]
  rfl
theorem wo_get {ad : Nat → Nat} {cy : Nat → ClassId} {I : AI} {J : AJ} {R : AR} {k : Nat} {q : Nat × va_E} (h : (wo ad cy I J R)[k]? = some q) : k < NC ∧ q = (ad k, ce ad cy I J R k) := by
  have hk : k < NC := by
    have := (List.getElem?_eq_some_iff.mp h).1
    unfold wo at this
    simpa using this
  rw [wo_at ad cy I J R hk] at h
  exact ⟨hk, (Option.some.inj h).symm⟩
theorem wo_D {ad : Nat → Nat} (hap : apart ad) (cy : Nat → ClassId) (I : AI) (J : AJ) (R : AR) : va_D (inA ad) (wo ad cy I J R) := by
  refine ⟨fun i j p q hp hq hpq => ?_, fun k q hq => ?_⟩
  · obtain ⟨h1, rfl⟩ := wo_get hp
    obtain ⟨h2, rfl⟩ := wo_get hq
    exact hap i j h1 h2 hpq
  · obtain ⟨h1, rfl⟩ := wo_get hq
    exact ⟨k, h1, rfl⟩
theorem wo_set (ad : Nat → Nat) (cy : Nat → ClassId) {I I' : AI} {J J' : AJ} {R R' : AR} {k : Nat} (hk : k < NC) {c : va_E} (hc : c = ce ad cy I' J' R' k) (ho : ∀ a, ¬ a = k → ce ad cy I' J' R' a = ce ad cy I J R a) : (wo ad cy I J R).set k (ad k, c) = wo ad cy I' J' R' := by
  subst hc
  apply List.ext_getElem?
  intro n
  by_cases e : k = n
  · subst e
    rw [wo_at ad cy I' J' R' hk, List.getElem?_set_self]
    unfold wo
    simpa using hk
  · rw [List.getElem?_set_ne e]
    by_cases hn : n < NC
    · rw [wo_at ad cy I J R hn, wo_at ad cy I' J' R' hn, ho n (fun q => e q.symm)]
    · have h1 : ∀ (I : AI) (J : AJ) (R : AR), (wo ad cy I J R)[n]? = none := fun I J R => List.getElem?_eq_none (by unfold wo; simp; omega)
      rw [h1, h1]
theorem w2_upd (I : AI) (k i : Nat) (x : Int32) : upd (I k) i x = w2 I k i x k := by funext b; simp [w2, upd]
theorem w2_updL (J : AJ) (k i : Nat) (x : Int64) : vp_updL (J k) i x = w2 J k i x k := by funext b; simp [w2, vp_updL]
def isO (k c : Nat) : Prop := k < NC ∧ ly k = c ∧ c < 20
def isA (k n : Nat) : Prop := k < NC ∧ ly k = 20 ∧ ln k = n
def isJ (k n : Nat) : Prop := k < NC ∧ ly k = 21 ∧ ln k = n
def isZ (k n : Nat) : Prop := k < NC ∧ ly k = 22 ∧ ln k = n
def isQ (k n : Nat) : Prop := k < NC ∧ ly k = 23 ∧ ln k = n
theorem ce_O {ad : Nat → Nat} {cy : Nat → ClassId} {I : AI} {J : AJ} {R : AR} {k c : Nat} (h : isO k c) : ce ad cy I J R k = .inr (c, (List.range (nf c)).map (fv ad I R c k)) := by
  obtain ⟨-, h1, h2⟩ := h
  unfold ce
  rw [h1, if_neg (by omega), if_neg (by omega), if_neg (by omega), if_neg (by omega)]
theorem ce_A {ad : Nat → Nat} {cy : Nat → ClassId} {I : AI} {J : AJ} {R : AR} {k n : Nat} (h : isA k n) : ce ad cy I J R k = .inl (cy 0, n, .inl (I k)) := by
  obtain ⟨-, h1, h2⟩ := h
  unfold ce
  rw [h1, h2, if_pos rfl]
theorem ce_J {ad : Nat → Nat} {cy : Nat → ClassId} {I : AI} {J : AJ} {R : AR} {k n : Nat} (h : isJ k n) : ce ad cy I J R k = .inl (cy 1, n, .inr (.inl (J k))) := by
  obtain ⟨-, h1, h2⟩ := h
  unfold ce
  rw [h1, h2, if_neg (by decide), if_pos rfl]
theorem ce_Z {ad : Nat → Nat} {cy : Nat → ClassId} {I : AI} {J : AJ} {R : AR} {k n : Nat} (h : isZ k n) : ce ad cy I J R k = .inl (cy 2, n, .inl (I k)) := by
  obtain ⟨-, h1, h2⟩ := h
  unfold ce
  rw [h1, h2, if_neg (by decide), if_neg (by decide), if_pos rfl]
theorem ce_Q {ad : Nat → Nat} {cy : Nat → ClassId} {I : AI} {J : AJ} {R : AR} {k n : Nat} (h : isQ k n) : ce ad cy I J R k = .inl (cy 3, n, .inr (.inr (.inr (.inr (fun j => (R k j).map ad))))) := by
  obtain ⟨-, h1, h2⟩ := h
  unfold ce
  rw [h1, h2, if_neg (by decide), if_neg (by decide), if_neg (by decide), if_pos rfl]
theorem ce_wI (ad : Nat → Nat) (cy : Nat → ClassId) (I : AI) (J : AJ) (R : AR) (k j : Nat) (v : Int32) {a : Nat} (h : ¬ a = k) : ce ad cy (w2 I k j v) J R a = ce ad cy I J R a := by
  unfold ce fv
  simp only [w2_row I k j v h]
theorem ce_wJ (ad : Nat → Nat) (cy : Nat → ClassId) (I : AI) (J : AJ) (R : AR) (k j : Nat) (v : Int64) {a : Nat} (h : ¬ a = k) : ce ad cy I (w2 J k j v) R a = ce ad cy I J R a := by
  unfold ce fv
  simp only [w2_row J k j v h]
theorem ce_wR (ad : Nat → Nat) (cy : Nat → ClassId) (I : AI) (J : AJ) (R : AR) (k j : Nat) (v : Option Nat) {a : Nat} (h : ¬ a = k) : ce ad cy I J (w2 R k j v) a = ce ad cy I J R a := by
  unfold ce fv
  simp only [w2_row R k j v h]
theorem fs_setI (ad : Nat → Nat) (I : AI) (R : AR) {c k j : Nat} (v : Int32) (hj : j < nf c) (hr : isR (clty c j) = false) : ((List.range (nf c)).map (fv ad I R c k)).set j (.int v) = (List.range (nf c)).map (fv ad (w2 I k j v) R c k) := by
  apply List.ext_getElem?
  intro n
  by_cases e : j = n
  · subst e
    rw [List.getElem?_set_self (by simpa using hj), List.getElem?_map, List.getElem?_range hj]
    simp [fv, hr, w2]
  · rw [List.getElem?_set_ne e, List.getElem?_map, List.getElem?_map]
    cases h : (List.range (nf c))[n]? with
    | none => rfl
    | some a =>
      have ha : a = n := by
        obtain ⟨h1, h2⟩ := List.getElem?_eq_some_iff.mp h
        simpa using h2.symm
      subst ha
      have : w2 I k j v k a = I k a := by simp [w2, show ¬ a = j from fun q => e q.symm]
      simp [fv, this]
theorem fs_setR (ad : Nat → Nat) (I : AI) (R : AR) {c k j r : Nat} (hj : j < nf c) (hr : isR (clty c j) = true) : ((List.range (nf c)).map (fv ad I R c k)).set j (.ref (ad r)) = (List.range (nf c)).map (fv ad I (w2 R k j (some r)) c k) := by
  apply List.ext_getElem?
  intro n
  by_cases e : j = n
  · subst e
    rw [List.getElem?_set_self (by simpa using hj), List.getElem?_map, List.getElem?_range hj]
    simp [fv, hr, w2, va_rf]
  · rw [List.getElem?_set_ne e, List.getElem?_map, List.getElem?_map]
    cases h : (List.range (nf c))[n]? with
    | none => rfl
    | some a =>
      have ha : a = n := by
        obtain ⟨h1, h2⟩ := List.getElem?_eq_some_iff.mp h
        simpa using h2.symm
      subst ha
      have : w2 R k j (some r) k a = R k a := by simp [w2, show ¬ a = j from fun q => e q.symm]
      simp [fv, this]
def tysO (cy : Nat → ClassId) : List (ClassId × FieldType) := [(cy 0, .int), (cy 1, .long), (cy 2, .boolean), (cy 3, .array .int)]
/-! what the class reads of old cells: KIND_ABOVE, six texts -/
def kab (j : Nat) : Int32 := ([-1, 0, 0, 1, 2, 3] : List Int32).getD j 0
def stLen : List Nat := [4, 4, 6, 5, 6, 5]
def stByt : List (List Int32) := [[116, 111, 108, 108], [99, 108, 117, 98], [107, 101, 101, 112, 101, 114], [103, 117, 105, 108, 100], [119, 97, 114, 100, 101, 110], [112, 111, 105, 110, 116]]
def stIdx : List Nat := [82, 84, 86, 88, 90, 92]
def stTx : List String := ["toll", "club", "keeper", "guild", "warden", "point"]
/-- the maker of messages that the JDK's own test of a place hands on -/
def roZ (ad : Nat → Nat) (s : State) (H : Heap) : Prop := va_Z "jdk/internal/util/Preconditions" "SIOOBE_FORMATTER" "Ljava/util/function/BiFunction;" .null (inA ad) s H ∨ va_Z "jdk/internal/util/Preconditions" "SIOOBE_FORMATTER" "Ljava/util/function/BiFunction;" (.ref (ad 1020)) (inA ad) s H
theorem roZ.moved {ad : Nat → Nat} {u U : State} {H : Heap} (hvm : u.vm.Alike U.vm) (h : roZ ad u H) : roZ ad U H := h.imp (fun h => h.moved hvm) (fun h => h.moved hvm)
theorem roZ.kept {ad : Nat → Nat} {s : State} {H H1 : Heap} (h : roZ ad s H) (hq : ∀ a : Nat, a < H.size → ¬ inA ad a → H1[a]? = H[a]?) : roZ ad s H1 := h.imp (fun h => h.kept hq) (fun h => h.kept hq)
def RO (ad : Nat → Nat) (s : State) (H : Heap) : Prop :=
  (va_Z RX11 "KIND_ABOVE" "[I" (.ref (ad 1000)) (inA ad) s H ∧ roZ ad s H) ∧ va_T .int (ad 1000) 6 (fun j => .int (kab j)) (inA ad) s H ∧ va_Z "java/lang/String" "COMPACT_STRINGS" "Z" (.int 1) (inA ad) s H ∧
  vk_S 6 stLen stByt (fun i => ad (1001 + i)) (fun i => ad (1011 + i)) (inA ad) s H ∧ (∀ i : Nat, i < 6 → vk_R RX9 (stIdx.getD i 0) (stTx.getD i "") (ad (1001 + i)) s) ∧
  ∀ (own : String) (k : Nat) (y : MethodName) (host : String), Cond.methodLinkNest own k y host ∈ lw_tbl → va_Nw (.methodLinkNest own k y host) s
theorem RO.warm {ad : Nat → Nat} {s U : State} {H : Heap} (hW : s.WarmedH U.vm) (h : RO ad s H) : RO ad U H :=
  ⟨⟨h.1.1.moved hW.alike, h.1.2.moved hW.alike⟩, h.2.1.moved hW.alike, h.2.2.1.moved hW.alike, h.2.2.2.1.moved hW.alike, fun i hi => (h.2.2.2.2.1 i hi).warm hW, fun own k y host hw => (h.2.2.2.2.2 own k y host hw).warmM hW⟩
theorem RO.same {ad : Nat → Nat} {u U : State} {H : Heap} (hv : U.vm = u.vm) (h : RO ad u H) : RO ad U H := by
  have ha : u.vm.Alike U.vm := by rw [hv]; exact Vm.Alike.refl _
  exact ⟨⟨h.1.1.moved ha, h.1.2.moved ha⟩, h.2.1.moved ha, h.2.2.1.moved ha, h.2.2.2.1.moved ha, fun i hi => (h.2.2.2.2.1 i hi).same hv, fun own k y host hw => va_Nw.same rfl hv.symm (h.2.2.2.2.2 own k y host hw)⟩
theorem RO.kept {ad : Nat → Nat} {s : State} {H H1 : Heap} (hq : ∀ a : Nat, a < H.size → ¬ inA ad a → H1[a]? = H[a]?) (h : RO ad s H) : RO ad s H1 :=
  ⟨⟨h.1.1.kept hq, h.1.2.kept hq⟩, h.2.1.kept hq, h.2.2.1.kept hq, h.2.2.2.1.kept hq, h.2.2.2.2.1, h.2.2.2.2.2⟩
/-! the judgement -/
def gt : List Cond := lw_tbl.filter goodWord
theorem gt_in {w : Cond} (h : w ∈ lw_tbl) (hg : goodWord w = true) : w ∈ gt := List.mem_filter.mpr ⟨h, hg⟩
def rmD (d : Nat) : Room := { frames := d, cells := 0, slots := 0, locals := 40 * d }
def Cx (mi : MI) (dC : Nat → ClassId) (dI : Nat → Nat → Nat) (cy : Nat → ClassId) (ad : Nat → Nat) (p : Program) (s : State) (m : MethodId) (args : Array Value) (meth : Method) (c : Code) : Prop :=
  p.tables.exec = Jvm.exec ∧ c.code = mi.2.1 ∧ meth.sig.returnType = mi.2.2.2 ∧ c.maxLocals = mi.2.2.1 ∧ s.vm.findClass mi.1.cls = some m.cls ∧ (∀ w ∈ gt, w.before args s = true) ∧ meth.locks = false ∧ va_K (dC, dI) vwCl (tysO cy) s ∧ apart ad ∧ RO ad s s.heap
section CX
variable {mi : MI} {dC : Nat → ClassId} {dI : Nat → Nat → Nat} {cy : Nat → ClassId} {ad : Nat → Nat} {p : Program} {s : State} {m : MethodId} {args : Array Value} {meth : Method} {c : Code}
theorem Cx.ret (C : Cx mi dC dI cy ad p s m args meth c) : meth.sig.returnType = mi.2.2.2 := C.2.2.1
theorem Cx.ml (C : Cx mi dC dI cy ad p s m args meth c) : c.maxLocals = mi.2.2.1 := C.2.2.2.1
theorem Cx.own (C : Cx mi dC dI cy ad p s m args meth c) : s.vm.findClass mi.1.cls = some m.cls := C.2.2.2.2.1
theorem Cx.ts (C : Cx mi dC dI cy ad p s m args meth c) : ∀ w ∈ gt, w.before args s = true := C.2.2.2.2.2.1
theorem Cx.lk (C : Cx mi dC dI cy ad p s m args meth c) : meth.locks = false := C.2.2.2.2.2.2.1
theorem Cx.vk (C : Cx mi dC dI cy ad p s m args meth c) : va_K (dC, dI) vwCl (tysO cy) s := C.2.2.2.2.2.2.2.1
theorem Cx.ap (C : Cx mi dC dI cy ad p s m args meth c) : apart ad := C.2.2.2.2.2.2.2.2.1
theorem Cx.ro (C : Cx mi dC dI cy ad p s m args meth c) : RO ad s s.heap := C.2.2.2.2.2.2.2.2.2
end CX
def Qm (K : AK) (vd : Bool) (dC : Nat → ClassId) (dI : Nat → Nat → Nat) (cy : Nat → ClassId) (ad : Nat → Nat) : Array Value → State → Outcome → State → Prop := fun _ st oc t =>
  (∃ (v : Value) (I : AI) (J : AJ) (R : AR), oc = .returned (if vd then none else some (cv ad v)) ∧ K v I J R ∧ va_P (dC, dI) vwCl (wo ad cy I J R) t.heap) ∧ va_F (inA ad) st t
def G (l : Launch) (d : Nat) (mi : MI) (K : AK) (pc : Nat) (L S : List Value) (I : AI) (J : AJ) (R : AR) : Prop :=
  ∀ (dC : Nat → ClassId) (dI : Nat → Nat → Nat) (cy : Nat → ClassId) (ad : Nat → Nat) (p : Program) (e : Env) (s : State) (m : MethodId) (args : Array Value) (below : List Frame) (meth : Method) (c : Code) (H : Heap) (locs : List Loc) (ls : Array Slot),
    Cx mi dC dI cy ad p s m args meth c → va_P (dC, dI) vwCl (wo ad cy I J R) H → va_S (inA ad) s.heap H locs → lv_has ls mi.2.2.1 (lz ad 0 L) →
    W p l e (rmD d) s m args below meth c H locs 0 0 (MQ below (Qm K mi.2.2.2.isNone dC dI cy ad) args s 0 0 (inA ad)) (F0 m pc ls (S.map (cv ad)))
def D (cc : ByteArray) (pc : Nat) (i : Instr) (n nx : Nat) : Prop := decode cc pc = .ok (i, n) ∧ pc + n = nx
section GEN
variable {l : Launch} {d : Nat} {mi : MI} {K : AK} {pc nx tgt : Nat} {L S : List Value} {I : AI} {J : AJ} {R : AR}
theorem G_iconst {n : Int} {v : Int32} (hd : D mi.2.1 pc (.iconst n) 1 nx) (hv : Int32.ofInt n = v) (k : G l d mi K nx L (.int v :: S) I J R) : G l d mi K pc L S I J R := by
  intro dC dI cy ad p e s m args below meth c H locs ls C hP hS hl
  obtain ⟨hd, rfl⟩ := hd
  exact lv_iconst C.1 C.2.1 hd hv (k dC dI cy ad p e s m args below meth c H locs ls C hP hS hl)
theorem G_bipush {n : Int} {v : Int32} (hd : D mi.2.1 pc (.bipush n) 2 nx) (hv : (Int8.ofInt n).toInt32 = v) (k : G l d mi K nx L (.int v :: S) I J R) : G l d mi K pc L S I J R := by
  intro dC dI cy ad p e s m args below meth c H locs ls C hP hS hl
  obtain ⟨hd, rfl⟩ := hd
  exact lv_bipush C.1 C.2.1 hd hv (k dC dI cy ad p e s m args below meth c H locs ls C hP hS hl)
theorem G_sipush {n : Int} {v : Int32} (hd : D mi.2.1 pc (.sipush n) 3 nx) (hv : (Int16.ofInt n).toInt32 = v) (k : G l d mi K nx L (.int v :: S) I J R) : G l d mi K pc L S I J R := by
  intro dC dI cy ad p e s m args below meth c H locs ls C hP hS hl
  obtain ⟨hd, rfl⟩ := hd
  exact lv_sipush C.1 C.2.1 hd hv (k dC dI cy ad p e s m args below meth c H locs ls C hP hS hl)
theorem G_lconst {n : Fin 2} {v : Int64} (hd : D mi.2.1 pc (.lconst n) 1 nx) (hv : Int64.ofNat (n : Nat) = v) (k : G l d mi K nx L (.long v :: S) I J R) : G l d mi K pc L S I J R := by
  intro dC dI cy ad p e s m args below meth c H locs ls C hP hS hl
  obtain ⟨hd, rfl⟩ := hd
  exact lv_lconst C.1 C.2.1 hd hv (k dC dI cy ad p e s m args below meth c H locs ls C hP hS hl)
theorem G_ldc {idx : Nat} {v : Int32} (hd : D mi.2.1 pc (.ldc idx) 2 nx) (hc : Cond.constant mi.1.cls idx v ∈ gt) (k : G l d mi K nx L (.int v :: S) I J R) : G l d mi K pc L S I J R := by
  intro dC dI cy ad p e s m args below meth c H locs ls C hP hS hl
  obtain ⟨hd, rfl⟩ := hd
  exact lv_ldc C.1 C.2.1 C.own (C.ts _ hc) hd (k dC dI cy ad p e s m args below meth c H locs ls C hP hS hl)
theorem G_ldcw {idx : Nat} {v : Int32} (hd : D mi.2.1 pc (.ldc_w idx) 3 nx) (hc : Cond.constant mi.1.cls idx v ∈ gt) (k : G l d mi K nx L (.int v :: S) I J R) : G l d mi K pc L S I J R := by
  intro dC dI cy ad p e s m args below meth c H locs ls C hP hS hl
  obtain ⟨hd, rfl⟩ := hd
  exact lv_ldcw C.1 C.2.1 C.own (C.ts _ hc) hd (k dC dI cy ad p e s m args below meth c H locs ls C hP hS hl)
theorem G_ldc2 {idx : Nat} {v : Int64} (hd : D mi.2.1 pc (.ldc2_w idx) 3 nx) (hc : Cond.constantLong mi.1.cls idx v ∈ gt) (k : G l d mi K nx L (.long v :: S) I J R) : G l d mi K pc L S I J R := by
  intro dC dI cy ad p e s m args below meth c H locs ls C hP hS hl
  obtain ⟨hd, rfl⟩ := hd
  exact lv_ldc2 C.1 C.2.1 C.own (C.ts _ hc) hd (k dC dI cy ad p e s m args below meth c H locs ls C hP hS hl)
theorem G_ldcS {idx i : Nat} (hd : D mi.2.1 pc (.ldc idx) 2 nx) (ho : mi.1.cls = RX9) (hi : i < 6) (hx : stIdx.getD i 0 = idx) (k : G l d mi K nx L (.ref (1001 + i) :: S) I J R) : G l d mi K pc L S I J R := by
  intro dC dI cy ad p e s m args below meth c H locs ls C hP hS hl
  obtain ⟨hd, rfl⟩ := hd
  have hr := C.ro.2.2.2.2.1 i hi
  rw [hx] at hr
  exact va_ldcS C.1 C.2.1 (by have := C.own; rw [ho] at this; exact this) hr hd (k dC dI cy ad p e s m args below meth c H locs ls C hP hS hl)
theorem G_iloadN {f : Fin 4} {x : Int32} (i : Nat) (hd : D mi.2.1 pc (.iload_n f) 1 nx) (hf : (f : Nat) = i) (h : L[i]? = some (.int x)) (k : G l d mi K nx L (.int x :: S) I J R) : G l d mi K pc L S I J R := by
  intro dC dI cy ad p e s m args below meth c H locs ls C hP hS hl
  obtain ⟨hd, rfl⟩ := hd
  exact lv_iload_n C.1 C.2.1 hd hf (lz_at hl h rfl) (k dC dI cy ad p e s m args below meth c H locs ls C hP hS hl)
theorem G_iload {x : Int32} (i : Nat) (hd : D mi.2.1 pc (.iload i) 2 nx) (h : L[i]? = some (.int x)) (k : G l d mi K nx L (.int x :: S) I J R) : G l d mi K pc L S I J R := by
  intro dC dI cy ad p e s m args below meth c H locs ls C hP hS hl
  obtain ⟨hd, rfl⟩ := hd
  exact lv_iload C.1 C.2.1 hd (lz_at hl h rfl) (k dC dI cy ad p e s m args below meth c H locs ls C hP hS hl)
theorem G_aloadN {f : Fin 4} {x : Nat} (i : Nat) (hd : D mi.2.1 pc (.aload_n f) 1 nx) (hf : (f : Nat) = i) (h : L[i]? = some (.ref x)) (k : G l d mi K nx L (.ref x :: S) I J R) : G l d mi K pc L S I J R := by
  intro dC dI cy ad p e s m args below meth c H locs ls C hP hS hl
  obtain ⟨hd, rfl⟩ := hd
  exact lv_aload_n C.1 C.2.1 hd hf (lz_at hl h rfl) (k dC dI cy ad p e s m args below meth c H locs ls C hP hS hl)
theorem G_aload {x : Nat} (i : Nat) (hd : D mi.2.1 pc (.aload i) 2 nx) (h : L[i]? = some (.ref x)) (k : G l d mi K nx L (.ref x :: S) I J R) : G l d mi K pc L S I J R := by
  intro dC dI cy ad p e s m args below meth c H locs ls C hP hS hl
  obtain ⟨hd, rfl⟩ := hd
  exact lv_aload C.1 C.2.1 hd (lz_at hl h rfl) (k dC dI cy ad p e s m args below meth c H locs ls C hP hS hl)
theorem G_lloadN {f : Fin 4} {x : Int64} (i : Nat) (hd : D mi.2.1 pc (.lload_n f) 1 nx) (hf : (f : Nat) = i) (h : L[i]? = some (.long x)) (k : G l d mi K nx L (.long x :: S) I J R) : G l d mi K pc L S I J R := by
  intro dC dI cy ad p e s m args below meth c H locs ls C hP hS hl
  obtain ⟨hd, rfl⟩ := hd
  exact lv_lload_n C.1 C.2.1 hd hf (lz_at hl h rfl) (k dC dI cy ad p e s m args below meth c H locs ls C hP hS hl)
theorem G_lload {x : Int64} (i : Nat) (hd : D mi.2.1 pc (.lload i) 2 nx) (h : L[i]? = some (.long x)) (k : G l d mi K nx L (.long x :: S) I J R) : G l d mi K pc L S I J R := by
  intro dC dI cy ad p e s m args below meth c H locs ls C hP hS hl
  obtain ⟨hd, rfl⟩ := hd
  exact lv_lload C.1 C.2.1 hd (lz_at hl h rfl) (k dC dI cy ad p e s m args below meth c H locs ls C hP hS hl)
/-- the list of locals is no longer than the method's -/
theorem lz_lt {ad : Nat → Nat} {ls : Array Slot} {nL i : Nat} {x : Value} (hl : lv_has ls nL (lz ad 0 L)) (h : L[i]? = some x) (hf : isF x = false) : i < nL := by
  have h1 := lz_at hl h hf
  have h2 := (Array.getElem?_eq_some_iff.mp h1).1
  rw [hl.1] at h2
  exact h2
theorem G_istoreN {f : Fin 4} {x : Int32} (i : Nat) (hd : D mi.2.1 pc (.istore_n f) 1 nx) (hf : (f : Nat) = i) (hi : i < L.length ∧ i < mi.2.2.1) (hp : ∀ w, 0 < i → L[i - 1]? = some w → notL w = true) (k : G l d mi K nx (L.set i (.int x)) S I J R) : G l d mi K pc L (.int x :: S) I J R := by
  intro dC dI cy ad p e s m args below meth c H locs ls C hP hS hl
  obtain ⟨hd, rfl⟩ := hd
  exact lv_istore_n C.1 C.2.1 hd hf hl hi.2 rfl (fun ls' hl' => k dC dI cy ad p e s m args below meth c H locs ls' C hP hS (lz_set1 (v := .int x) hi.1 hp hl'))
theorem G_istore {x : Int32} (i : Nat) (hd : D mi.2.1 pc (.istore i) 2 nx) (hi : i < L.length ∧ i < mi.2.2.1) (hp : ∀ w, 0 < i → L[i - 1]? = some w → notL w = true) (k : G l d mi K nx (L.set i (.int x)) S I J R) : G l d mi K pc L (.int x :: S) I J R := by
  intro dC dI cy ad p e s m args below meth c H locs ls C hP hS hl
  obtain ⟨hd, rfl⟩ := hd
  exact lv_istore C.1 C.2.1 hd hl hi.2 rfl (fun ls' hl' => k dC dI cy ad p e s m args below meth c H locs ls' C hP hS (lz_set1 (v := .int x) hi.1 hp hl'))
theorem G_astoreN {f : Fin 4} {x : Nat} (i : Nat) (hd : D mi.2.1 pc (.astore_n f) 1 nx) (hf : (f : Nat) = i) (hi : i < L.length ∧ i < mi.2.2.1) (hp : ∀ w, 0 < i → L[i - 1]? = some w → notL w = true) (k : G l d mi K nx (L.set i (.ref x)) S I J R) : G l d mi K pc L (.ref x :: S) I J R := by
  intro dC dI cy ad p e s m args below meth c H locs ls C hP hS hl
  obtain ⟨hd, rfl⟩ := hd
  exact lv_astore_n C.1 C.2.1 hd hf hl hi.2 rfl (fun ls' hl' => k dC dI cy ad p e s m args below meth c H locs ls' C hP hS (lz_set1 (v := .ref x) hi.1 hp hl'))
theorem G_astore {x : Nat} (i : Nat) (hd : D mi.2.1 pc (.astore i) 2 nx) (hi : i < L.length ∧ i < mi.2.2.1) (hp : ∀ w, 0 < i → L[i - 1]? = some w → notL w = true) (k : G l d mi K nx (L.set i (.ref x)) S I J R) : G l d mi K pc L (.ref x :: S) I J R := by
  intro dC dI cy ad p e s m args below meth c H locs ls C hP hS hl
  obtain ⟨hd, rfl⟩ := hd
  exact lv_astore C.1 C.2.1 hd hl hi.2 rfl (fun ls' hl' => k dC dI cy ad p e s m args below meth c H locs ls' C hP hS (lz_set1 (v := .ref x) hi.1 hp hl'))
theorem G_lstoreN {f : Fin 4} {x : Int64} (i : Nat) (hd : D mi.2.1 pc (.lstore_n f) 1 nx) (hf : (f : Nat) = i) (hi : i + 1 < L.length ∧ i + 1 < mi.2.2.1) (hp : ∀ w, 0 < i → L[i - 1]? = some w → notL w = true) (k : G l d mi K nx ((L.set i (.long x)).set (i + 1) UU) S I J R) : G l d mi K pc L (.long x :: S) I J R := by
  intro dC dI cy ad p e s m args below meth c H locs ls C hP hS hl
  obtain ⟨hd, rfl⟩ := hd
  exact lv_lstore_n C.1 C.2.1 hd hf hl hi.2 rfl (fun ls' hl' => k dC dI cy ad p e s m args below meth c H locs ls' C hP hS (lz_set2 (v := .long x) hi.1 hp hl'))
theorem G_lstore {x : Int64} (i : Nat) (hd : D mi.2.1 pc (.lstore i) 2 nx) (hi : i + 1 < L.length ∧ i + 1 < mi.2.2.1) (hp : ∀ w, 0 < i → L[i - 1]? = some w → notL w = true) (k : G l d mi K nx ((L.set i (.long x)).set (i + 1) UU) S I J R) : G l d mi K pc L (.long x :: S) I J R := by
  intro dC dI cy ad p e s m args below meth c H locs ls C hP hS hl
  obtain ⟨hd, rfl⟩ := hd
  exact lv_lstore C.1 C.2.1 hd hl hi.2 rfl (fun ls' hl' => k dC dI cy ad p e s m args below meth c H locs ls' C hP hS (lz_set2 (v := .long x) hi.1 hp hl'))
theorem G_iinc {x v : Int32} {n : Int} (i : Nat) (hd : D mi.2.1 pc (.iinc i n) 3 nx) (h : L[i]? = some (.int x)) (hv : Int32.ofInt n = v) (hi : i < L.length) (hp : ∀ w, 0 < i → L[i - 1]? = some w → notL w = true) (k : G l d mi K nx (L.set i (.int (x + v))) S I J R) : G l d mi K pc L S I J R := by
  intro dC dI cy ad p e s m args below meth c H locs ls C hP hS hl
  obtain ⟨hd, rfl⟩ := hd
  obtain ⟨q, hq⟩ := List.getElem?_of_mem ((lz_mem ad (i, cv ad (.int x)) L 0).mpr ⟨.int x, Nat.zero_le _, h, rfl, rfl⟩)
  exact lv_iinc (v := x + v) C.1 C.2.1 hd hl hq (by rw [hv]) (lz_lt hl h rfl) rfl (fun ls' hl' => k dC dI cy ad p e s m args below meth c H locs ls' C hP hS (lz_set1 (v := .int (x + v)) hi hp hl'))
theorem G_goto {off : Int} (hd : D mi.2.1 pc (.goto off) 3 nx) (ht : (pc : Int) + off = (tgt : Int)) (k : G l d mi K tgt L S I J R) : G l d mi K pc L S I J R := by
  intro dC dI cy ad p e s m args below meth c H locs ls C hP hS hl
  exact lv_goto C.1 C.2.1 hd.1 ht (k dC dI cy ad p e s m args below meth c H locs ls C hP hS hl)
theorem G_dup {v : Value} (hd : D mi.2.1 pc .dup 1 nx) (hv : v.category = 1) (k : G l d mi K nx L (v :: v :: S) I J R) : G l d mi K pc L (v :: S) I J R := by
  intro dC dI cy ad p e s m args below meth c H locs ls C hP hS hl
  obtain ⟨hd, rfl⟩ := hd
  exact lv_dup C.1 C.2.1 hd (by rw [cv_cat]; exact hv) (k dC dI cy ad p e s m args below meth c H locs ls C hP hS hl)
theorem G_pop {v : Value} (hd : D mi.2.1 pc .pop 1 nx) (hv : v.category = 1) (k : G l d mi K nx L S I J R) : G l d mi K pc L (v :: S) I J R := by
  intro dC dI cy ad p e s m args below meth c H locs ls C hP hS hl
  obtain ⟨hd, rfl⟩ := hd
  exact lv_pop C.1 C.2.1 hd (by rw [cv_cat]; exact hv) (k dC dI cy ad p e s m args below meth c H locs ls C hP hS hl)
theorem G_dup2 {v w : Value} (hd : D mi.2.1 pc .dup2 1 nx) (hv : v.category = 1) (hw : w.category = 1) (k : G l d mi K nx L (v :: w :: v :: w :: S) I J R) : G l d mi K pc L (v :: w :: S) I J R := by
  intro dC dI cy ad p e s m args below meth c H locs ls C hP hS hl
  obtain ⟨hd, rfl⟩ := hd
  exact lv_dup2_11 C.1 C.2.1 hd (by rw [cv_cat]; exact hv) (by rw [cv_cat]; exact hw) (k dC dI cy ad p e s m args below meth c H locs ls C hP hS hl)
theorem G_tabIn {dflt lo hi off : Int} {offs : Array Int} {n : Nat} {x : Int32} (hd : D mi.2.1 pc (.tableswitch dflt lo hi offs) n nx) (h1 : ¬ x.toInt < lo) (h2 : ¬ hi < x.toInt) (ho : offs[(x.toInt - lo).toNat]? = some off) (ht : (pc : Int) + off = (tgt : Int)) (k : G l d mi K tgt L S I J R) : G l d mi K pc L (.int x :: S) I J R := by
  intro dC dI cy ad p e s m args below meth c H locs ls C hP hS hl
  exact lv_tableIn C.1 C.2.1 hd.1 h1 h2 ho ht (k dC dI cy ad p e s m args below meth c H locs ls C hP hS hl)
theorem G_tabOut {dflt lo hi : Int} {offs : Array Int} {n : Nat} {x : Int32} (hd : D mi.2.1 pc (.tableswitch dflt lo hi offs) n nx) (h : x.toInt < lo ∨ hi < x.toInt) (ht : (pc : Int) + dflt = (tgt : Int)) (k : G l d mi K tgt L S I J R) : G l d mi K pc L (.int x :: S) I J R := by
  intro dC dI cy ad p e s m args below meth c H locs ls C hP hS hl
  exact lv_tableOut C.1 C.2.1 hd.1 h ht (k dC dI cy ad p e s m args below meth c H locs ls C hP hS hl)
theorem G_lookup {dflt off : Int} {ps : Array (Int × Int)} {n : Nat} {x : Int32} (hd : D mi.2.1 pc (.lookupswitch dflt ps) n nx) (hp : (ps.toList.zip (ps.toList.drop 1)).all (fun (a, next) => a.1 < next.1) = true) (ho : Op.lookupswitch.offset ps.toList dflt x.toInt = off) (ht : (pc : Int) + off = (tgt : Int)) (k : G l d mi K tgt L S I J R) : G l d mi K pc L (.int x :: S) I J R := by
  intro dC dI cy ad p e s m args below meth c H locs ls C hP hS hl
  exact lv_lookup C.1 C.2.1 hd.1 hp ho ht (k dC dI cy ad p e s m args below meth c H locs ls C hP hS hl)
/-! fields -/
def clOK (c : Nat) (C : String) (T : u_T) (N : Nat) : Prop := vwCl[c]? = some (C, T, N) ∧ nf c = N ∧ (∀ w ∈ u_ws C T N, w ∈ gt) ∧ (∀ k, k < N → parseFieldDescriptor (T k).2.2.1 = some (clty c k)) ∧ (∀ a, a < N → ∀ b, b < N → a ≠ b → (T a).2.1 ≠ (T b).2.1) ∧ ∀ k, k < N → (T k).1 = C
def fld (own : String) (idx c j : Nat) : Prop := ∃ (C : String) (T : u_T) (N : Nat), clOK c C T N ∧ j < N ∧ Cond.fieldLink own idx C (T j).2.1 (T j).2.2.1 ∈ gt ∧ (T j).2.2.2 = false
def fldF (own : String) (idx c j : Nat) : Prop := ∃ (C : String) (T : u_T) (N : Nat), clOK c C T N ∧ j < N ∧ Cond.fieldLink own idx C (T j).2.1 (T j).2.2.1 ∈ gt
theorem fld.F {own : String} {idx c j : Nat} (h : fld own idx c j) : fldF own idx c j := by
  obtain ⟨C, T, N, h1, h2, h3, -⟩ := h
  exact ⟨C, T, N, h1, h2, h3⟩
theorem G_getv {idx c j k : Nat} (hd : D mi.2.1 pc (.getfield idx) 3 nx) (hf : fldF mi.1.cls idx c j) (hk : isO k c) {v : Value} (hv : ∀ ad, fv ad I R c k j = cv ad v) (kk : G l d mi K nx L (v :: S) I J R) : G l d mi K pc L (.ref k :: S) I J R := by
  intro dC dI cy ad p e s m args below meth cc H locs ls C hP hS hl
  obtain ⟨hd, rfl⟩ := hd
  obtain ⟨Cn, T, N, ⟨h1, h2, h3, h4, h5, h6⟩, hj, hlk⟩ := hf
  refine va_get C.1 C.2.1 C.ts h3 C.own C.vk hP k (by rw [wo_at ad cy I J R hk.1, ce_O hk]) h1 j hj (C.ts _ hlk) (fun x hx => by rw [h6 j hj] at hx; exact hx) (v := cv ad v) ?_ hd (kk dC dI cy ad p e s m args below meth cc H locs ls C hP hS hl)
  rw [List.getElem?_map, List.getElem?_range (by rw [h2]; exact hj), Option.map_some, hv ad]
theorem G_geti {idx c j k : Nat} (hd : D mi.2.1 pc (.getfield idx) 3 nx) (hf : fldF mi.1.cls idx c j) (hk : isO k c) (hr : isR (clty c j) = false) (kk : G l d mi K nx L (.int (I k j) :: S) I J R) : G l d mi K pc L (.ref k :: S) I J R :=
  G_getv hd hf hk (v := .int (I k j)) (fun ad => by unfold fv; rw [hr]; rfl) kk
theorem G_getr {idx c j k r : Nat} (hd : D mi.2.1 pc (.getfield idx) 3 nx) (hf : fldF mi.1.cls idx c j) (hk : isO k c) (hr : isR (clty c j) = true) (hv : R k j = some r) (kk : G l d mi K nx L (.ref r :: S) I J R) : G l d mi K pc L (.ref k :: S) I J R :=
  G_getv hd hf hk (v := .ref r) (fun ad => by unfold fv; rw [hr, hv]; rfl) kk
theorem G_puti {idx c j k : Nat} {x : Int32} (hd : D mi.2.1 pc (.putfield idx) 3 nx) (hf : fld mi.1.cls idx c j) (hk : isO k c) (hr : clty c j = .int) (kk : G l d mi K nx L S (w2 I k j x) J R) : G l d mi K pc L (.int x :: .ref k :: S) I J R := by
  intro dC dI cy ad p e s m args below meth cc H locs ls C hP hS hl
  obtain ⟨hd, rfl⟩ := hd
  obtain ⟨Cn, T, N, ⟨h1, h2, h3, h4, h5, h6⟩, hj, hlk, hfin⟩ := hf
  have hjn : j < nf c := by rw [h2]; exact hj
  have e0 : (wo ad cy I J R)[k]? = some (ad k, .inr (c, (List.range (nf c)).map (fv ad I R c k))) := by rw [wo_at ad cy I J R hk.1, ce_O hk]
  refine va_put C.1 C.2.1 C.ts h3 (clty c) h4 h5 C.own C.vk hP (wo_D C.ap cy I J R) hS k e0 h1 j hj (C.ts _ hlk) (fun x hx => by rw [h6 j hj] at hx; exact hx) hfin (ty := .int) (v := .int x) (by rw [h4 j hj, hr]) (vp_nar_int x) rfl (by simpa using hjn) hd (fun H1 locs1 hP1 _ hS1 => ?_)
  rw [fs_setI ad I R x hjn (by rw [hr]; rfl), wo_set ad cy (I' := w2 I k j x) (J' := J) (R' := R) hk.1 (ce_O hk).symm (fun a ha => ce_wI ad cy I J R k j x ha)] at hP1
  exact kk dC dI cy ad p e s m args below meth cc H1 locs1 ls C hP1 hS1 hl
theorem G_putz {idx c j k : Nat} {x : Int32} (hd : D mi.2.1 pc (.putfield idx) 3 nx) (hf : fld mi.1.cls idx c j) (hk : isO k c) (hr : clty c j = .boolean) (hx : x = 0 ∨ x = 1) (kk : G l d mi K nx L S (w2 I k j x) J R) : G l d mi K pc L (.int x :: .ref k :: S) I J R := by
  intro dC dI cy ad p e s m args below meth cc H locs ls C hP hS hl
  obtain ⟨hd, rfl⟩ := hd
  obtain ⟨Cn, T, N, ⟨h1, h2, h3, h4, h5, h6⟩, hj, hlk, hfin⟩ := hf
  have hjn : j < nf c := by rw [h2]; exact hj
  have e0 : (wo ad cy I J R)[k]? = some (ad k, .inr (c, (List.range (nf c)).map (fv ad I R c k))) := by rw [wo_at ad cy I J R hk.1, ce_O hk]
  refine va_put C.1 C.2.1 C.ts h3 (clty c) h4 h5 C.own C.vk hP (wo_D C.ap cy I J R) hS k e0 h1 j hj (C.ts _ hlk) (fun x hx => by rw [h6 j hj] at hx; exact hx) hfin (ty := .boolean) (v := .int x) (by rw [h4 j hj, hr]) (by rcases hx with rfl | rfl <;> decide) (by rcases hx with rfl | rfl <;> decide) (by simpa using hjn) hd (fun H1 locs1 hP1 _ hS1 => ?_)
  rw [fs_setI ad I R x hjn (by rw [hr]; rfl), wo_set ad cy (I' := w2 I k j x) (J' := J) (R' := R) hk.1 (ce_O hk).symm (fun a ha => ce_wI ad cy I J R k j x ha)] at hP1
  exact kk dC dI cy ad p e s m args below meth cc H1 locs1 ls C hP1 hS1 hl
theorem G_putr {idx c j k r : Nat} {nm : String} (hd : D mi.2.1 pc (.putfield idx) 3 nx) (hf : fld mi.1.cls idx c j) (hk : isO k c) (hr : clty c j = .object nm) (kk : G l d mi K nx L S I J (w2 R k j (some r))) : G l d mi K pc L (.ref r :: .ref k :: S) I J R := by
  intro dC dI cy ad p e s m args below meth cc H locs ls C hP hS hl
  obtain ⟨hd, rfl⟩ := hd
  obtain ⟨Cn, T, N, ⟨h1, h2, h3, h4, h5, h6⟩, hj, hlk, hfin⟩ := hf
  have hjn : j < nf c := by rw [h2]; exact hj
  have e0 : (wo ad cy I J R)[k]? = some (ad k, .inr (c, (List.range (nf c)).map (fv ad I R c k))) := by rw [wo_at ad cy I J R hk.1, ce_O hk]
  refine va_put C.1 C.2.1 C.ts h3 (clty c) h4 h5 C.own C.vk hP (wo_D C.ap cy I J R) hS k e0 h1 j hj (C.ts _ hlk) (fun x hx => by rw [h6 j hj] at hx; exact hx) hfin (ty := .object nm) (v := .ref (ad r)) (by rw [h4 j hj, hr]) rfl rfl (by simpa using hjn) hd (fun H1 locs1 hP1 _ hS1 => ?_)
  rw [fs_setR ad I R hjn (by rw [hr]; rfl), wo_set ad cy (I' := I) (J' := J) (R' := w2 R k j (some r)) hk.1 (ce_O hk).symm (fun a ha => ce_wR ad cy I J R k j (some r) ha)] at hP1
  exact kk dC dI cy ad p e s m args below meth cc H1 locs1 ls C hP1 hS1 hl
/-! arrays -/
theorem G_iald {k n : Nat} {i : Int32} (hd : D mi.2.1 pc .iaload 1 nx) (hk : isA k n) (hi : vp_in i n) (kk : G l d mi K nx L (.int (I k i.toNatClampNeg) :: S) I J R) : G l d mi K pc L (.int i :: .ref k :: S) I J R := by
  intro dC dI cy ad p e s m args below meth cc H locs ls C hP hS hl
  obtain ⟨hd, rfl⟩ := hd
  exact va_iald C.1 C.2.1 C.vk hP k 0 (by rw [wo_at ad cy I J R hk.1, ce_A hk]) rfl hi hd (kk dC dI cy ad p e s m args below meth cc H locs ls C hP hS hl)
theorem G_zald {k n : Nat} {i : Int32} (hd : D mi.2.1 pc .baload 1 nx) (hk : isZ k n) (hi : vp_in i n) (kk : G l d mi K nx L (.int (I k i.toNatClampNeg) :: S) I J R) : G l d mi K pc L (.int i :: .ref k :: S) I J R := by
  intro dC dI cy ad p e s m args below meth cc H locs ls C hP hS hl
  obtain ⟨hd, rfl⟩ := hd
  exact va_zald C.1 C.2.1 C.vk hP k 2 (by rw [wo_at ad cy I J R hk.1, ce_Z hk]) rfl hi hd (kk dC dI cy ad p e s m args below meth cc H locs ls C hP hS hl)
theorem G_lald {k n : Nat} {i : Int32} (hd : D mi.2.1 pc .laload 1 nx) (hk : isJ k n) (hi : vp_in i n) (kk : G l d mi K nx L (.long (J k i.toNatClampNeg) :: S) I J R) : G l d mi K pc L (.int i :: .ref k :: S) I J R := by
  intro dC dI cy ad p e s m args below meth cc H locs ls C hP hS hl
  obtain ⟨hd, rfl⟩ := hd
  exact va_lald C.1 C.2.1 C.vk hP k 1 (by rw [wo_at ad cy I J R hk.1, ce_J hk]) rfl hi hd (kk dC dI cy ad p e s m args below meth cc H locs ls C hP hS hl)
theorem G_aald {k n r : Nat} {i : Int32} (hd : D mi.2.1 pc .aaload 1 nx) (hk : isQ k n) (hi : vp_in i n) (hr : R k i.toNatClampNeg = some r) (kk : G l d mi K nx L (.ref r :: S) I J R) : G l d mi K pc L (.int i :: .ref k :: S) I J R := by
  intro dC dI cy ad p e s m args below meth cc H locs ls C hP hS hl
  obtain ⟨hd, rfl⟩ := hd
  have hlt : i.toNatClampNeg < n := Nat.not_le.mp fun q => hi (Or.inr q)
  have e0 : (wo ad cy I J R)[k]? = some (ad k, .inl (cy 3, n, .inr (.inr (.inr (.inr (fun j => (R k j).map ad)))))) := by rw [wo_at ad cy I J R hk.1, ce_Q hk]
  refine W.aald (v := .ref (ad r)) (ty := .array .int) C.1 C.2.1 (hP k _ e0) ((C.vk.2 3 (cy 3, .array .int) rfl).1 n (fun j => va_rf ((R k j).map ad))) rfl (fun q => by cases q) (by show ¬ (i < 0 ∨ (arrV _ _ _).slots.size ≤ _); rw [arrV_size]; exact hi) (by show (arrV _ _ _).slots[_]? = _; rw [arrV_read _ _ hlt]; show some (va_rf (Option.map ad (R k i.toNatClampNeg))) = _; rw [hr]; rfl) rfl rfl hd (kk dC dI cy ad p e s m args below meth cc H locs ls C hP hS hl)
theorem G_iast {k n : Nat} {i x : Int32} (hd : D mi.2.1 pc .iastore 1 nx) (hk : isA k n) (hi : vp_in i n) (kk : G l d mi K nx L S (w2 I k i.toNatClampNeg x) J R) : G l d mi K pc L (.int x :: .int i :: .ref k :: S) I J R := by
  intro dC dI cy ad p e s m args below meth cc H locs ls C hP hS hl
  obtain ⟨hd, rfl⟩ := hd
  refine va_iast C.1 C.2.1 C.vk hP (wo_D C.ap cy I J R) hS k 0 (by rw [wo_at ad cy I J R hk.1, ce_A hk]) rfl hi hd (fun H1 locs1 hP1 _ hS1 => ?_)
  rw [wo_set ad cy (I' := w2 I k i.toNatClampNeg x) (J' := J) (R' := R) hk.1 (by rw [ce_A hk, w2_upd]) (fun a ha => ce_wI ad cy I J R k _ x ha)] at hP1
  exact kk dC dI cy ad p e s m args below meth cc H1 locs1 ls C hP1 hS1 hl
theorem G_zast {k n : Nat} {i x : Int32} (hd : D mi.2.1 pc .bastore 1 nx) (hk : isZ k n) (hi : vp_in i n) (hx : x = 0 ∨ x = 1) (kk : G l d mi K nx L S (w2 I k i.toNatClampNeg x) J R) : G l d mi K pc L (.int x :: .int i :: .ref k :: S) I J R := by
  intro dC dI cy ad p e s m args below meth cc H locs ls C hP hS hl
  obtain ⟨hd, rfl⟩ := hd
  have hxx : vp_nar .boolean x = x := by rcases hx with rfl | rfl <;> decide
  refine va_zast C.1 C.2.1 C.vk hP (wo_D C.ap cy I J R) hS k 2 (by rw [wo_at ad cy I J R hk.1, ce_Z hk]) rfl hi hd (fun H1 locs1 hP1 _ hS1 => ?_)
  rw [hxx, wo_set ad cy (I' := w2 I k i.toNatClampNeg x) (J' := J) (R' := R) hk.1 (by rw [ce_Z hk, w2_upd]) (fun a ha => ce_wI ad cy I J R k _ x ha)] at hP1
  exact kk dC dI cy ad p e s m args below meth cc H1 locs1 ls C hP1 hS1 hl
theorem G_last {k n : Nat} {i : Int32} {x : Int64} (hd : D mi.2.1 pc .lastore 1 nx) (hk : isJ k n) (hi : vp_in i n) (kk : G l d mi K nx L S I (w2 J k i.toNatClampNeg x) R) : G l d mi K pc L (.long x :: .int i :: .ref k :: S) I J R := by
  intro dC dI cy ad p e s m args below meth cc H locs ls C hP hS hl
  obtain ⟨hd, rfl⟩ := hd
  refine va_last C.1 C.2.1 C.vk hP (wo_D C.ap cy I J R) hS k 1 (by rw [wo_at ad cy I J R hk.1, ce_J hk]) rfl hi hd (fun H1 locs1 hP1 _ hS1 => ?_)
  rw [wo_set ad cy (I' := I) (J' := w2 J k i.toNatClampNeg x) (R' := R) hk.1 (by rw [ce_J hk, w2_updL]) (fun a ha => ce_wJ ad cy I J R k _ x ha)] at hP1
  exact kk dC dI cy ad p e s m args below meth cc H1 locs1 ls C hP1 hS1 hl
theorem G_alenA {k n : Nat} {v : Int32} (hd : D mi.2.1 pc .arraylength 1 nx) (hk : isA k n) (hv : Int32.ofNat n = v) (kk : G l d mi K nx L (.int v :: S) I J R) : G l d mi K pc L (.ref k :: S) I J R := by
  intro dC dI cy ad p e s m args below meth cc H locs ls C hP hS hl
  obtain ⟨hd, rfl⟩ := hd
  exact va_alen C.1 C.2.1 C.vk hP k 0 (by rw [wo_at ad cy I J R hk.1, ce_A hk]) (ty := .int) rfl hv hd (kk dC dI cy ad p e s m args below meth cc H locs ls C hP hS hl)
theorem G_alenJ {k n : Nat} {v : Int32} (hd : D mi.2.1 pc .arraylength 1 nx) (hk : isJ k n) (hv : Int32.ofNat n = v) (kk : G l d mi K nx L (.int v :: S) I J R) : G l d mi K pc L (.ref k :: S) I J R := by
  intro dC dI cy ad p e s m args below meth cc H locs ls C hP hS hl
  obtain ⟨hd, rfl⟩ := hd
  exact va_alen C.1 C.2.1 C.vk hP k 1 (by rw [wo_at ad cy I J R hk.1, ce_J hk]) (ty := .long) rfl hv hd (kk dC dI cy ad p e s m args below meth cc H locs ls C hP hS hl)
/-! ends -/
theorem inA_locs {ad : Nat → Nat} {H0 H : Heap} {locs : List Loc} (h : va_S (inA ad) H0 H locs) : ∀ q ∈ locs, inA ad q.base := h.2.2
theorem G_iret {x : Int32} (hd : D mi.2.1 pc .ireturn 1 nx) (hr : mi.2.2.2 = some .int) (hk : K (.int x) I J R) : G l d mi K pc L [.int x] I J R := by
  intro dC dI cy ad p e s m args below meth cc H locs ls C hP hS hl
  refine W.iret C.1 C.2.1 (by rw [C.ret, hr]) (fun t ht _ => ⟨⟨.int x, I, J, R, by rw [hr]; rfl, hk, by rw [ht]; exact hP⟩, hS.F ht⟩) hS.2.2 hd.1 C.lk
theorem G_zret {x : Int32} (hd : D mi.2.1 pc .ireturn 1 nx) (hr : mi.2.2.2 = some .boolean) (hx : x = 0 ∨ x = 1) (hk : K (.int x) I J R) : G l d mi K pc L [.int x] I J R := by
  intro dC dI cy ad p e s m args below meth cc H locs ls C hP hS hl
  refine W.zret (ty := .boolean) C.1 C.2.1 (by rw [C.ret, hr]) (by rcases hx with rfl | rfl <;> decide) (fun t ht _ => ⟨⟨.int x, I, J, R, by rw [hr]; rfl, hk, by rw [ht]; exact hP⟩, hS.F ht⟩) hS.2.2 hd.1 C.lk
theorem G_nret {x : Int32} {ty : FieldType} (hd : D mi.2.1 pc .ireturn 1 nx) (hr : mi.2.2.2 = some ty) (hx : narrow ty (.int x) = .int x) (hk : K (.int x) I J R) : G l d mi K pc L [.int x] I J R := by
  intro dC dI cy ad p e s m args below meth cc H locs ls C hP hS hl
  refine W.zret (ty := ty) C.1 C.2.1 (by rw [C.ret, hr]) hx (fun t ht _ => ⟨⟨.int x, I, J, R, by rw [hr]; rfl, hk, by rw [ht]; exact hP⟩, hS.F ht⟩) hS.2.2 hd.1 C.lk
theorem G_lret {x : Int64} (hd : D mi.2.1 pc .lreturn 1 nx) (hr : mi.2.2.2 = some .long) (hk : K (.long x) I J R) : G l d mi K pc L [.long x] I J R := by
  intro dC dI cy ad p e s m args below meth cc H locs ls C hP hS hl
  refine W.lret C.1 C.2.1 (by rw [C.ret, hr]) (fun t ht _ => ⟨⟨.long x, I, J, R, by rw [hr]; rfl, hk, by rw [ht]; exact hP⟩, hS.F ht⟩) hS.2.2 hd.1 C.lk
theorem G_vret (hd : D mi.2.1 pc .return_ 1 nx) (hr : mi.2.2.2 = none) (hk : K .null I J R) : G l d mi K pc L [] I J R := by
  intro dC dI cy ad p e s m args below meth cc H locs ls C hP hS hl
  refine W.vret C.1 C.2.1 (by rw [C.ret, hr]) (fun t ht _ => ⟨⟨.null, I, J, R, by rw [hr]; rfl, hk, by rw [ht]; exact hP⟩, hS.F ht⟩) hS.2.2 hd.1 C.lk
theorem G_aret {x : Nat} {nm : String} (hd : D mi.2.1 pc .areturn 1 nx) (hr : mi.2.2.2 = some (.object nm)) (hk : K (.ref x) I J R) : G l d mi K pc L [.ref x] I J R := by
  intro dC dI cy ad p e s m args below meth cc H locs ls C hP hS hl
  refine W.aret (v := .ref (ad x)) C.1 C.2.1 (by rw [C.ret, hr]) (Or.inl ⟨nm, rfl⟩) (Or.inr ⟨_, rfl⟩) (fun t ht _ => ⟨⟨.ref x, I, J, R, by rw [hr]; rfl, hk, by rw [ht]; exact hP⟩, hS.F ht⟩) hS.2.2 hd.1 C.lk
end GEN
/-! calls -/
def wsM (mi : MI) : List Cond := Cond.code mi.1 mi.2.1 mi.2.2.1 mi.2.2.2 :: gt
def Pw (dC : Nat → ClassId) (dI : Nat → Nat → Nat) (cy : Nat → ClassId) (ad : Nat → Nat) (I : AI) (J : AJ) (R : AR) (U : State) : Prop := va_P (dC, dI) vwCl (wo ad cy I J R) U.heap ∧ va_K (dC, dI) vwCl (tysO cy) U ∧ apart ad ∧ RO ad U U.heap
theorem metG {l : Launch} {d : Nat} {mi : MI} {K : AK} {L : List Value} {I : AI} {J : AJ} {R : AR} {As : List Value} {dC : Nat → ClassId} {dI : Nat → Nat → Nat} {cy : Nat → ClassId} {ad : Nat → Nat} (hy : plainName mi.1.cls = true) (hn : (lg_sl (As.map (cv ad))).length ≤ mi.2.2.1) (hen : ∀ q ∈ lz ad 0 L, q ∈ lv_args 0 (As.map (cv ad))) (hG : G l d mi K 0 L [] I J R) :
    Met l mi.1 (wsM mi) (rmD d) (va_Pc (As.map (cv ad)) (Pw dC dI cy ad I J R)) (Qm K mi.2.2.2.isNone dC dI cy ad) 0 0 (inA ad) := by
  refine Met.ofW (cc := mi.2.1) (maxL := mi.2.2.1) (ret := mi.2.2.2) hy rfl ?_
  intro p e s m args below meth c s₁ B hml hv
  obtain ⟨rfl, hP, hK, hap, hRO⟩ := hv
  have hts := atoms_spec (ws := wsM mi) B.pre
  have hl := lv_entry (As.map (cv ad)) (n := mi.2.2.1) hn
  rw [lg_entry_eq]
  generalize (lg_sl (As.map (cv ad)) ++ List.replicate (mi.2.2.1 - (lg_sl (As.map (cv ad))).length) Slot.unset).toArray = ls at hl ⊢
  exact hG dC dI cy ad p e s m _ below meth c s.heap [] ls ⟨B.exec, B.bytes, B.returns, hml, findClass_of_methodNamed B.named, fun w hw => hts w (List.mem_cons_of_mem _ hw), B.notSynchronized, hK, hap, hRO⟩ hP va_S.rf ⟨hl.1, hl.2.1, fun q hq => hl.2.2 q (hen q hq)⟩
theorem Pw_blind (dC : Nat → ClassId) (dI : Nat → Nat → Nat) (cy : Nat → ClassId) (ad : Nat → Nat) (I : AI) (J : AJ) (R : AR) (av : List Value) : FrameBlind (va_Pc av (Pw dC dI cy ad I J R)) := by
  intro a U g mk q
  obtain ⟨q0, qP, qK, qA, qR⟩ := q
  exact ⟨q0, qP, va_K.moved (u := U) (U := U.calling g mk a) (Vm.Alike.refl U.vm) qK, qA, RO.same (u := U) (U := U.calling g mk a) rfl qR⟩
theorem lw_good : ∀ w ∈ gt, goodWord w = true := fun w h => (List.mem_filter.mp h).2
def okM (mj : MI) (n : Nat) : Prop := Cond.code mj.1 mj.2.1 mj.2.2.1 mj.2.2.2 ∈ gt ∧ plainName mj.1.cls = true ∧ Cond.initialized mj.1.cls ∈ gt ∧ (mj.1.cls ≠ "java/lang/invoke/MethodHandle" ∧ mj.1.cls ≠ "java/lang/invoke/VarHandle" ∧ (parseMethodDescriptor mj.1.desc).map (fun d => d.parameters.length) = some n) ∧ mj.2.2.1 ≤ 21
def lkM (own : String) (idx : Nat) (mj : MI) : Prop := Cond.methodLink own idx mj.1 ∈ gt ∨ ∃ host, Cond.methodLinkNest own idx mj.1 host ∈ lw_tbl
def okS (own : String) (idx : Nat) (mj : MI) (n : Nat) : Prop := okM mj n ∧ Cond.static mj.1 ∈ gt ∧ lkM own idx mj
def okV (own : String) (idx : Nat) (mj : MI) (ci n : Nat) : Prop := okM mj n ∧ Cond.instanceMethod mj.1 ∈ gt ∧ Cond.selects mj.1.cls mj.1 mj.1 ∈ gt ∧ (∃ (T : u_T) (N : Nat), vwCl[ci]? = some (mj.1.cls, T, N)) ∧ lkM own idx mj
theorem okM.gd {mj : MI} {n : Nat} (h : okM mj n) : GoodIn gt (wsM mj) := by
  intro w hw
  rcases List.mem_cons.mp hw with rfl | h1
  · exact ⟨h.1, good_of_word (lw_good _ h.1)⟩
  · exact ⟨h1, good_of_word (lw_good _ h1)⟩
section CALLS
variable {p : Program} {l : Launch} {e : Env} {Rm : Room} {s : State} {m : MethodId} {args : Array Value} {below : List Frame} {meth : Method} {c : Code} {H : Heap} {locs : List Loc} {Q : State → Prop}
theorem call_go {vd : Bool} {K : AK} {dC : Nat → ClassId} {dI : Nat → Nat → Nat} {cy : Nat → ClassId} {ad : Nat → Nat} {pc : Nat} {ls : Array Slot} {st0 rest : List Value} {a : Array Value}
    (hr : va_Run p l e Rm s m args below meth c H locs 0 0 0 0 (F0 m pc ls st0) rest (Qm K vd dC dI cy ad a) (inA ad)) (hS : va_S (inA ad) s.heap H locs)
    (kk : ∀ (v : Value) (I : AI) (J : AJ) (R : AR) (H1 : Heap) (locs1 : List Loc), K v I J R → va_P (dC, dI) vwCl (wo ad cy I J R) H1 → va_S (inA ad) s.heap H1 locs1 → W p l e Rm s m args below meth c H1 locs1 0 0 Q (F0 m (pc + 3) ls ((if vd then none else some (cv ad v)).toList ++ rest))) : W p l e Rm s m args below meth c H locs 0 0 Q (F0 m pc ls st0) := by
  intro T hT X
  obtain ⟨v, st₀, t, T', L, h0, X', hL, e1, e2, ⟨⟨w, I, J, R, hv, hk, hp⟩, hz, hkp⟩, st⟩ := hr T hT X
  rw [h0] at hz hkp
  have hv' : v = (if vd then none else some (cv ad w)) := by injection hv
  subst hv'
  obtain ⟨t2, a1, b1⟩ := kk w I J R T'.heap (locs ++ L) hk (by rw [e1]; exact hp)
    ⟨Nat.le_trans hS.1 (by rw [e1]; exact hz), fun q h1 h2 => by rw [e1, hkp q (Nat.lt_of_lt_of_le h1 hS.1) h2]; exact hS.2.1 q h1 h2, fun q hq => by
      rcases List.mem_append.mp hq with h | h
      · exact hS.2.2 q h
      · exact hL q h⟩ T' rfl X'
  exact ⟨t2, st t2 a1, b1⟩
end CALLS
section CALLS2
variable {l : Launch} {d : Nat} {mi mj : MI} {K : AK} {pc nx idx : Nat} {L S : List Value} {I : AI} {J : AJ} {R : AR} {As : List Value}
theorem runS_go {dC : Nat → ClassId} {dI : Nat → Nat → Nat} {cy : Nat → ClassId} {ad : Nat → Nat} {p : Program} {e : Env} {s : State} {m : MethodId} {args : Array Value} {below : List Frame} {meth : Method} {c : Code} {H : Heap} {locs : List Loc} {ls : Array Slot} {n : Nat} {K' : AK}
    (C : Cx mi dC dI cy ad p s m args meth c) (hP : va_P (dC, dI) vwCl (wo ad cy I J R) H) (hS : va_S (inA ad) s.heap H locs) (hls : ls.size = mi.2.2.1)
    (hd : decode mi.2.1 pc = .ok (.invokestatic idx, 3)) (ho : okS mi.1.cls idx mj n) (hlen : As.length = n) (hw : (S.map fun v => v.category).sum ≤ 8)
    (hM : Met l mj.1 (wsM mj) (rmD d) (va_Pc (As.map (cv ad)) (Pw dC dI cy ad I J R)) (Qm K' mj.2.2.2.isNone dC dI cy ad) 0 0 (inA ad)) :
    va_Run p l e (rmD (d + 1)) s m args below meth c H locs 0 0 0 0 (F0 m pc ls ((As.map (cv ad)).reverse ++ S.map (cv ad))) (S.map (cv ad)) (Qm K' mj.2.2.2.isNone dC dI cy ad (As.map (cv ad)).toArray) (inA ad) := by
  obtain ⟨hm, hst, hlk⟩ := ho
  have hR : (rmD d).frames + 1 ≤ (rmD (d + 1)).frames ∧ 8 + (mj.2.2.1 + 11) + (rmD d).locals ≤ (rmD (d + 1)).locals := by
    have := hm.2.2.2.2
    simp only [rmD]
    omega
  have hp : PreS s H (va_Pc (As.map (cv ad)) (Pw dC dI cy ad I J R)) (As.map (cv ad)) := ⟨Pw_blind dC dI cy ad I J R _, fun U hU hW => ⟨rfl, by rw [hU]; exact hP, va_K.moved hW.alike C.vk, C.ap, by rw [hU]; exact (C.ro.kept hS.2.1).warm hW⟩⟩
  have hcat : ((S.map (cv ad)).map fun v => v.category).sum ≤ 8 := by
    rw [List.map_map, show ((fun v : Value => v.category) ∘ cv ad) = (fun v : Value => v.category) from funext (cv_cat ad)]
    exact hw
  rcases hlk with hlk | ⟨host, hlk⟩
  · exact va_runS ⟨C.1, C.2.1, C.ml, C.own, C.ts⟩ hM ⟨callB_of n C.ts hm.gd rfl rfl rfl (C.ts _ hm.2.2.1) (C.ts _ hlk) hm.2.2.2.1 hR, C.ts _ hst⟩ hp rfl (by simpa using hlen) hls rfl (lv_room hcat) hd ⟨Nat.le_refl _, Nat.le_refl _⟩
  · exact va_runSN ⟨C.1, C.2.1, C.ml, C.own, C.ts⟩ hM ⟨va_cnB n C.ts hm.gd rfl rfl rfl (C.ro.2.2.2.2.2 _ _ _ _ hlk) (C.ts _ hm.2.2.1) hm.2.2.2.1 hR, C.ts _ hst, trivial⟩ hp rfl (by simpa using hlen) hls rfl (lv_room hcat) hd ⟨Nat.le_refl _, Nat.le_refl _⟩
theorem runV_go {dC : Nat → ClassId} {dI : Nat → Nat → Nat} {cy : Nat → ClassId} {ad : Nat → Nat} {p : Program} {e : Env} {s : State} {m : MethodId} {args : Array Value} {below : List Frame} {meth : Method} {c : Code} {H : Heap} {locs : List Loc} {ls : Array Slot} {n o ci : Nat} {K' : AK}
    (C : Cx mi dC dI cy ad p s m args meth c) (hP : va_P (dC, dI) vwCl (wo ad cy I J R) H) (hS : va_S (inA ad) s.heap H locs) (hls : ls.size = mi.2.2.1)
    (hd : decode mi.2.1 pc = .ok (.invokevirtual idx, 3)) (ho : okV mi.1.cls idx mj ci n) (hO : isO o ci) (hlen : As.length = n) (hw : (S.map fun v => v.category).sum ≤ 8)
    (hM : Met l mj.1 (wsM mj) (rmD d) (va_Pc (((.ref o : Value) :: As).map (cv ad)) (Pw dC dI cy ad I J R)) (Qm K' mj.2.2.2.isNone dC dI cy ad) 0 0 (inA ad)) :
    va_Run p l e (rmD (d + 1)) s m args below meth c H locs 0 0 0 0 (F0 m pc ls ((As.map (cv ad)).reverse ++ .ref (ad o) :: S.map (cv ad))) (S.map (cv ad)) (Qm K' mj.2.2.2.isNone dC dI cy ad (((.ref o : Value) :: As).map (cv ad)).toArray) (inA ad) := by
  obtain ⟨hm, hin, hse, ⟨T, N, hcl⟩, hlk⟩ := ho
  have hR : (rmD d).frames + 1 ≤ (rmD (d + 1)).frames ∧ 8 + (mj.2.2.1 + 11) + (rmD d).locals ≤ (rmD (d + 1)).locals := by
    have := hm.2.2.2.2
    simp only [rmD]
    omega
  have hp : PreV s H mj.1.cls (ad o) (va_Pc (((.ref o : Value) :: As).map (cv ad)) (Pw dC dI cy ad I J R)) (As.map (cv ad)) := ⟨Pw_blind dC dI cy ad I J R _, va_recv C.vk hP (ci := ci) (q0 := o) hcl (by rw [wo_at ad cy I J R hO.1, ce_O hO]), fun U hU hW => ⟨rfl, by rw [hU]; exact hP, va_K.moved hW.alike C.vk, C.ap, by rw [hU]; exact (C.ro.kept hS.2.1).warm hW⟩⟩
  have hcat : ((S.map (cv ad)).map fun v => v.category).sum ≤ 8 := by
    rw [List.map_map, show ((fun v : Value => v.category) ∘ cv ad) = (fun v : Value => v.category) from funext (cv_cat ad)]
    exact hw
  rcases hlk with hlk | ⟨host, hlk⟩
  · exact va_runV ⟨C.1, C.2.1, C.ml, C.own, C.ts⟩ hM ⟨callB_of n C.ts hm.gd rfl rfl rfl (C.ts _ hm.2.2.1) (C.ts _ hlk) hm.2.2.2.1 hR, C.ts _ hin, C.ts _ hse⟩ hp rfl (by simpa using hlen) hls rfl (lv_room hcat) hd ⟨Nat.le_refl _, Nat.le_refl _⟩
  · exact va_runVN ⟨C.1, C.2.1, C.ml, C.own, C.ts⟩ hM ⟨va_cnB n C.ts hm.gd rfl rfl rfl (C.ro.2.2.2.2.2 _ _ _ _ hlk) (C.ts _ hm.2.2.1) hm.2.2.2.1 hR, C.ts _ hin, C.ts _ hse⟩ hp rfl (by simpa using hlen) hls rfl (lv_room hcat) hd ⟨Nat.le_refl _, Nat.le_refl _⟩
theorem G_callS {n : Nat} (hd : D mi.2.1 pc (.invokestatic idx) 3 nx) (ho : okS mi.1.cls idx mj As.length) (hv : mj.2.2.2.isNone = false) (ha : As.all notL = true) (hw : (S.map fun v => v.category).sum ≤ 8) (hn : As.length ≤ mj.2.2.1) (k : G l d mj (fun v I J R => G l (d + 1) mi K nx L (v :: S) I J R) 0 (As ++ List.replicate n UU) [] I J R) : G l (d + 1) mi K pc L (As.reverse ++ S) I J R := by
  intro dC dI cy ad p e s m args below meth c H locs ls C hP hS hl
  obtain ⟨hd, rfl⟩ := hd
  have hM := metG (As := As) (dC := dC) (dI := dI) (cy := cy) (ad := ad) ho.1.2.1 (by rw [sl_len ad As ha]; exact hn) (lz_entry ad n As 0 ha) k
  have hrun := runS_go (e := e) (below := below) C hP hS hl.1 hd ho rfl hw hM
  rw [List.map_append, List.map_reverse]
  refine call_go hrun hS (fun v I' J' R' H1 locs1 hk hP1 hS1 => ?_)
  rw [hv]
  exact hk dC dI cy ad p e s m args below meth c H1 locs1 ls C hP1 hS1 hl
theorem G_callSv {n : Nat} (hd : D mi.2.1 pc (.invokestatic idx) 3 nx) (ho : okS mi.1.cls idx mj As.length) (hv : mj.2.2.2.isNone = true) (ha : As.all notL = true) (hw : (S.map fun v => v.category).sum ≤ 8) (hn : As.length ≤ mj.2.2.1) (k : G l d mj (fun v I J R => G l (d + 1) mi K nx L S I J R) 0 (As ++ List.replicate n UU) [] I J R) : G l (d + 1) mi K pc L (As.reverse ++ S) I J R := by
  intro dC dI cy ad p e s m args below meth c H locs ls C hP hS hl
  obtain ⟨hd, rfl⟩ := hd
  have hM := metG (As := As) (dC := dC) (dI := dI) (cy := cy) (ad := ad) ho.1.2.1 (by rw [sl_len ad As ha]; exact hn) (lz_entry ad n As 0 ha) k
  have hrun := runS_go (e := e) (below := below) C hP hS hl.1 hd ho rfl hw hM
  rw [List.map_append, List.map_reverse]
  refine call_go hrun hS (fun v I' J' R' H1 locs1 hk hP1 hS1 => ?_)
  rw [hv]
  exact hk dC dI cy ad p e s m args below meth c H1 locs1 ls C hP1 hS1 hl
theorem G_callV {n o ci : Nat} (hd : D mi.2.1 pc (.invokevirtual idx) 3 nx) (ho : okV mi.1.cls idx mj ci As.length) (hv : mj.2.2.2.isNone = false) (hO : isO o ci) (ha : As.all notL = true) (hw : (S.map fun v => v.category).sum ≤ 8) (hn : As.length + 1 ≤ mj.2.2.1) (k : G l d mj (fun v I J R => G l (d + 1) mi K nx L (v :: S) I J R) 0 ((.ref o :: As) ++ List.replicate n UU) [] I J R) : G l (d + 1) mi K pc L (As.reverse ++ .ref o :: S) I J R := by
  intro dC dI cy ad p e s m args below meth c H locs ls C hP hS hl
  obtain ⟨hd, rfl⟩ := hd
  have ha' : ((.ref o : Value) :: As).all notL = true := by rw [List.all_cons, ha]; rfl
  have hM := metG (As := .ref o :: As) (dC := dC) (dI := dI) (cy := cy) (ad := ad) ho.1.2.1 (by rw [sl_len ad _ ha']; exact hn) (lz_entry ad n _ 0 ha') k
  have hrun := runV_go (e := e) (below := below) C hP hS hl.1 hd ho hO rfl hw hM
  rw [List.map_append, List.map_reverse, List.map_cons]
  refine call_go hrun hS (fun v I' J' R' H1 locs1 hk hP1 hS1 => ?_)
  rw [hv]
  exact hk dC dI cy ad p e s m args below meth c H1 locs1 ls C hP1 hS1 hl
theorem G_callVv {n o ci : Nat} (hd : D mi.2.1 pc (.invokevirtual idx) 3 nx) (ho : okV mi.1.cls idx mj ci As.length) (hv : mj.2.2.2.isNone = true) (hO : isO o ci) (ha : As.all notL = true) (hw : (S.map fun v => v.category).sum ≤ 8) (hn : As.length + 1 ≤ mj.2.2.1) (k : G l d mj (fun v I J R => G l (d + 1) mi K nx L S I J R) 0 ((.ref o :: As) ++ List.replicate n UU) [] I J R) : G l (d + 1) mi K pc L (As.reverse ++ .ref o :: S) I J R := by
  intro dC dI cy ad p e s m args below meth c H locs ls C hP hS hl
  obtain ⟨hd, rfl⟩ := hd
  have ha' : ((.ref o : Value) :: As).all notL = true := by rw [List.all_cons, ha]; rfl
  have hM := metG (As := .ref o :: As) (dC := dC) (dI := dI) (cy := cy) (ad := ad) ho.1.2.1 (by rw [sl_len ad _ ha']; exact hn) (lz_entry ad n _ 0 ha') k
  have hrun := runV_go (e := e) (below := below) C hP hS hl.1 hd ho hO rfl hw hM
  rw [List.map_append, List.map_reverse, List.map_cons]
  refine call_go hrun hS (fun v I' J' R' H1 locs1 hk hP1 hS1 => ?_)
  rw [hv]
  exact hk dC dI cy ad p e s m args below meth c H1 locs1 ls C hP1 hS1 hl
def okMax (own : String) (idx : Nat) : Prop := Cond.methodLink own idx Lib.Math.max.name ∈ gt ∧ Cond.static Lib.Math.max.name ∈ gt ∧ Cond.initialized "java/lang/Math" ∈ gt ∧ Cond.code Lib.Math.max.name Lib.Math.max.code 2 (some .int) ∈ gt
def okMin (own : String) (idx : Nat) : Prop := Cond.methodLink own idx Lib.Math.min.name ∈ gt ∧ Cond.static Lib.Math.min.name ∈ gt ∧ Cond.initialized "java/lang/Math" ∈ gt ∧ Cond.code Lib.Math.min.name Lib.Math.min.code 2 (some .int) ∈ gt
theorem cat_cv (ad : Nat → Nat) {S : List Value} (hw : (S.map fun v => v.category).sum ≤ 8) : ((S.map (cv ad)).map fun v => v.category).sum ≤ 8 := by
  rw [List.map_map, show ((fun v : Value => v.category) ∘ cv ad) = (fun v : Value => v.category) from funext (cv_cat ad)]
  exact hw
theorem G_mmax {x y : Int32} (hd : D mi.2.1 pc (.invokestatic idx) 3 nx) (ho : okMax mi.1.cls idx) (hw : (S.map fun v => v.category).sum ≤ 8) (k : G l (d + 1) mi K nx L (.int (if x < y then y else x) :: S) I J R) : G l (d + 1) mi K pc L (.int y :: .int x :: S) I J R := by
  intro dC dI cy ad p e s m args below meth c H locs ls C hP hS hl
  obtain ⟨hd, rfl⟩ := hd
  have hc := cat_cv ad hw
  exact va_mmax C.1 C.2.1 (by rw [C.ml, hl.1]) C.own (C.ts _ ho.1) (C.ts _ ho.2.1) (C.ts _ ho.2.2.1) (C.ts _ ho.2.2.2) (by simp only [rmD]; omega) (by simp only [rmD]; omega) (Nat.le_refl _) (Nat.le_refl _) hd (k dC dI cy ad p e s m args below meth c H locs ls C hP hS hl)
theorem G_mmin {x y : Int32} (hd : D mi.2.1 pc (.invokestatic idx) 3 nx) (ho : okMin mi.1.cls idx) (hw : (S.map fun v => v.category).sum ≤ 8) (k : G l (d + 1) mi K nx L (.int (if y < x then y else x) :: S) I J R) : G l (d + 1) mi K pc L (.int y :: .int x :: S) I J R := by
  intro dC dI cy ad p e s m args below meth c H locs ls C hP hS hl
  obtain ⟨hd, rfl⟩ := hd
  have hc := cat_cv ad hw
  exact va_mmin C.1 C.2.1 (by rw [C.ml, hl.1]) C.own (C.ts _ ho.1) (C.ts _ ho.2.1) (C.ts _ ho.2.2.1) (C.ts _ ho.2.2.2) (by simp only [rmD]; omega) (by simp only [rmD]; omega) (Nat.le_refl _) (Nat.le_refl _) hd (k dC dI cy ad p e s m args below meth c H locs ls C hP hS hl)
/-- a whole row anew -/
def wr {α : Type} (f : Nat → Nat → α) (k : Nat) (r : Nat → α) : Nat → Nat → α := fun a => if a = k then r else f a
theorem wr_at {α : Type} (f : Nat → Nat → α) (k : Nat) (r : Nat → α) : wr f k r k = r := by simp [wr]
theorem wr_ne {α : Type} (f : Nat → Nat → α) (k : Nat) (r : Nat → α) {a : Nat} (h : ¬ a = k) : wr f k r a = f a := by simp [wr, h]
def okAc (own : String) (idx : Nat) : Prop := Cond.methodLink own idx arraycopyName ∈ gt ∧ Cond.native arraycopyName ∈ gt ∧ Cond.static arraycopyName ∈ gt ∧ Cond.initialized "java/lang/System" ∈ gt
theorem G_acopy {k0 k1 n0 n1 : Nat} {sp dp n : Int32} (hd : D mi.2.1 pc (.invokestatic idx) 3 nx) (ho : okAc mi.1.cls idx) (hw : (S.map fun v => v.category).sum ≤ 8) (hk0 : isA k0 n0) (hk1 : isA k1 n1) (h1 : ¬ sp < 0) (h2 : ¬ dp < 0) (h3 : ¬ n < 0) (h4 : sp.toNatClampNeg + n.toNatClampNeg ≤ n0) (h5 : dp.toNatClampNeg + n.toNatClampNeg ≤ n1)
    (k : G l (d + 1) mi K nx L S (wr I k1 (va_cpy (I k0) (I k1) sp.toNatClampNeg dp.toNatClampNeg n.toNatClampNeg)) J R) : G l (d + 1) mi K pc L (.int n :: .int dp :: .ref k1 :: .int sp :: .ref k0 :: S) I J R := by
  intro dC dI cy ad p e s m args below meth c H locs ls C hP hS hl
  obtain ⟨hd, rfl⟩ := hd
  have hc := cat_cv ad hw
  have hfw : nativeFrameWords "java/lang/System" "arraycopy" 5 + 11 ≤ 32 := by decide
  refine va_copyi C.1 C.2.1 (by rw [C.ml, hl.1]) C.own (C.ts _ ho.1) (C.ts _ ho.2.1) (C.ts _ ho.2.2.1) (C.ts _ ho.2.2.2) C.vk hP (wo_D C.ap cy I J R) hS k0 k1 0 0 (by rw [wo_at ad cy I J R hk0.1, ce_A hk0]) (by rw [wo_at ad cy I J R hk1.1, ce_A hk1]) rfl rfl rfl h1 h2 h3 h4 h5 (fun i _ => rfl) (by simp only [rmD]; omega) (by simp only [rmD]; omega) hd (fun H1 locs1 hP1 _ hS1 => ?_)
  rw [wo_set ad cy (I' := wr I k1 (va_cpy (I k0) (I k1) sp.toNatClampNeg dp.toNatClampNeg n.toNatClampNeg)) (J' := J) (R' := R) hk1.1 (by rw [ce_A hk1, wr_at]) (fun a ha => by unfold ce fv; simp only [wr_ne I k1 _ ha])] at hP1
  exact k dC dI cy ad p e s m args below meth c H1 locs1 ls C hP1 hS1 hl
end CALLS2

section ROWS
variable {l : Launch} {d : Nat} {mi : MI} {K : AK} {pc nx tgt : Nat} {L S : List Value} {I : AI} {J : AJ} {R : AR}
theorem G_iload_0 {t : List Value} {x : Int32} (hd : D mi.2.1 pc (.iload_n 0) 1 nx) (k : G l d mi K nx (.int x :: t) (.int x :: S) I J R) : G l d mi K pc (.int x :: t) S I J R := G_iloadN 0 hd rfl rfl k
theorem G_aload_0 {t : List Value} {x : Nat} (hd : D mi.2.1 pc (.aload_n 0) 1 nx) (k : G l d mi K nx (.ref x :: t) (.ref x :: S) I J R) : G l d mi K pc (.ref x :: t) S I J R := G_aloadN 0 hd rfl rfl k
theorem G_lload_0 {t : List Value} {x : Int64} (hd : D mi.2.1 pc (.lload_n 0) 1 nx) (k : G l d mi K nx (.long x :: t) (.long x :: S) I J R) : G l d mi K pc (.long x :: t) S I J R := G_lloadN 0 hd rfl rfl k
theorem G_istore_0 {t : List Value} {b : Value} {x : Int32} (hd : D mi.2.1 pc (.istore_n 0) 1 nx) (hm : Nat.ble (0 + 1) mi.2.2.1 = true) (k : G l d mi K nx (.int x :: t) S I J R) : G l d mi K pc (b :: t) (.int x :: S) I J R := G_istoreN 0 hd rfl ⟨by simp, Nat.le_of_ble_eq_true hm⟩ (fun w h _ => absurd h (Nat.lt_irrefl 0)) k
theorem G_astore_0 {t : List Value} {b : Value} {x : Nat} (hd : D mi.2.1 pc (.astore_n 0) 1 nx) (hm : Nat.ble (0 + 1) mi.2.2.1 = true) (k : G l d mi K nx (.ref x :: t) S I J R) : G l d mi K pc (b :: t) (.ref x :: S) I J R := G_astoreN 0 hd rfl ⟨by simp, Nat.le_of_ble_eq_true hm⟩ (fun w h _ => absurd h (Nat.lt_irrefl 0)) k
theorem G_lstore_0 {t : List Value} {b b2 : Value} {x : Int64} (hd : D mi.2.1 pc (.lstore_n 0) 1 nx) (hm : Nat.ble (0 + 2) mi.2.2.1 = true) (k : G l d mi K nx (.long x :: UU :: t) S I J R) : G l d mi K pc (b :: b2 :: t) (.long x :: S) I J R := G_lstoreN 0 hd rfl ⟨by simp, Nat.le_of_ble_eq_true hm⟩ (fun w h _ => absurd h (Nat.lt_irrefl 0)) k
theorem G_iinc_0 {t : List Value} {x : Int32} {n : Int} {v : Int32} (hd : D mi.2.1 pc (.iinc 0 n) 3 nx) (hv : Int32.ofInt n = v) (k : G l d mi K nx (.int (x + v) :: t) S I J R) : G l d mi K pc (.int x :: t) S I J R := G_iinc 0 hd rfl hv (by simp) (fun w h _ => absurd h (Nat.lt_irrefl 0)) k
theorem G_iload_1 {a0 : Value} {t : List Value} {x : Int32} (hd : D mi.2.1 pc (.iload_n 1) 1 nx) (k : G l d mi K nx (a0 :: .int x :: t) (.int x :: S) I J R) : G l d mi K pc (a0 :: .int x :: t) S I J R := G_iloadN 1 hd rfl rfl k
theorem G_aload_1 {a0 : Value} {t : List Value} {x : Nat} (hd : D mi.2.1 pc (.aload_n 1) 1 nx) (k : G l d mi K nx (a0 :: .ref x :: t) (.ref x :: S) I J R) : G l d mi K pc (a0 :: .ref x :: t) S I J R := G_aloadN 1 hd rfl rfl k
theorem G_lload_1 {a0 : Value} {t : List Value} {x : Int64} (hd : D mi.2.1 pc (.lload_n 1) 1 nx) (k : G l d mi K nx (a0 :: .long x :: t) (.long x :: S) I J R) : G l d mi K pc (a0 :: .long x :: t) S I J R := G_lloadN 1 hd rfl rfl k
theorem G_istore_1 {a0 : Value} {t : List Value} {b : Value} {x : Int32} (hd : D mi.2.1 pc (.istore_n 1) 1 nx) (hm : Nat.ble (1 + 1) mi.2.2.1 = true) (hp : notL a0 = true) (k : G l d mi K nx (a0 :: .int x :: t) S I J R) : G l d mi K pc (a0 :: b :: t) (.int x :: S) I J R := G_istoreN 1 hd rfl ⟨by simp, Nat.le_of_ble_eq_true hm⟩ (fun w _ h => by cases h; exact hp) k
theorem G_astore_1 {a0 : Value} {t : List Value} {b : Value} {x : Nat} (hd : D mi.2.1 pc (.astore_n 1) 1 nx) (hm : Nat.ble (1 + 1) mi.2.2.1 = true) (hp : notL a0 = true) (k : G l d mi K nx (a0 :: .ref x :: t) S I J R) : G l d mi K pc (a0 :: b :: t) (.ref x :: S) I J R := G_astoreN 1 hd rfl ⟨by simp, Nat.le_of_ble_eq_true hm⟩ (fun w _ h => by cases h; exact hp) k
theorem G_lstore_1 {a0 : Value} {t : List Value} {b b2 : Value} {x : Int64} (hd : D mi.2.1 pc (.lstore_n 1) 1 nx) (hm : Nat.ble (1 + 2) mi.2.2.1 = true) (hp : notL a0 = true) (k : G l d mi K nx (a0 :: .long x :: UU :: t) S I J R) : G l d mi K pc (a0 :: b :: b2 :: t) (.long x :: S) I J R := G_lstoreN 1 hd rfl ⟨by simp, Nat.le_of_ble_eq_true hm⟩ (fun w _ h => by cases h; exact hp) k
theorem G_iinc_1 {a0 : Value} {t : List Value} {x : Int32} {n : Int} {v : Int32} (hd : D mi.2.1 pc (.iinc 1 n) 3 nx) (hv : Int32.ofInt n = v) (hp : notL a0 = true) (k : G l d mi K nx (a0 :: .int (x + v) :: t) S I J R) : G l d mi K pc (a0 :: .int x :: t) S I J R := G_iinc 1 hd rfl hv (by simp) (fun w _ h => by cases h; exact hp) k
theorem G_iload_2 {a0 a1 : Value} {t : List Value} {x : Int32} (hd : D mi.2.1 pc (.iload_n 2) 1 nx) (k : G l d mi K nx (a0 :: a1 :: .int x :: t) (.int x :: S) I J R) : G l d mi K pc (a0 :: a1 :: .int x :: t) S I J R := G_iloadN 2 hd rfl rfl k
theorem G_aload_2 {a0 a1 : Value} {t : List Value} {x : Nat} (hd : D mi.2.1 pc (.aload_n 2) 1 nx) (k : G l d mi K nx (a0 :: a1 :: .ref x :: t) (.ref x :: S) I J R) : G l d mi K pc (a0 :: a1 :: .ref x :: t) S I J R := G_aloadN 2 hd rfl rfl k
theorem G_lload_2 {a0 a1 : Value} {t : List Value} {x : Int64} (hd : D mi.2.1 pc (.lload_n 2) 1 nx) (k : G l d mi K nx (a0 :: a1 :: .long x :: t) (.long x :: S) I J R) : G l d mi K pc (a0 :: a1 :: .long x :: t) S I J R := G_lloadN 2 hd rfl rfl k
theorem G_istore_2 {a0 a1 : Value} {t : List Value} {b : Value} {x : Int32} (hd : D mi.2.1 pc (.istore_n 2) 1 nx) (hm : Nat.ble (2 + 1) mi.2.2.1 = true) (hp : notL a1 = true) (k : G l d mi K nx (a0 :: a1 :: .int x :: t) S I J R) : G l d mi K pc (a0 :: a1 :: b :: t) (.int x :: S) I J R := G_istoreN 2 hd rfl ⟨by simp, Nat.le_of_ble_eq_true hm⟩ (fun w _ h => by cases h; exact hp) k
theorem G_astore_2 {a0 a1 : Value} {t : List Value} {b : Value} {x : Nat} (hd : D mi.2.1 pc (.astore_n 2) 1 nx) (hm : Nat.ble (2 + 1) mi.2.2.1 = true) (hp : notL a1 = true) (k : G l d mi K nx (a0 :: a1 :: .ref x :: t) S I J R) : G l d mi K pc (a0 :: a1 :: b :: t) (.ref x :: S) I J R := G_astoreN 2 hd rfl ⟨by simp, Nat.le_of_ble_eq_true hm⟩ (fun w _ h => by cases h; exact hp) k
theorem G_lstore_2 {a0 a1 : Value} {t : List Value} {b b2 : Value} {x : Int64} (hd : D mi.2.1 pc (.lstore_n 2) 1 nx) (hm : Nat.ble (2 + 2) mi.2.2.1 = true) (hp : notL a1 = true) (k : G l d mi K nx (a0 :: a1 :: .long x :: UU :: t) S I J R) : G l d mi K pc (a0 :: a1 :: b :: b2 :: t) (.long x :: S) I J R := G_lstoreN 2 hd rfl ⟨by simp, Nat.le_of_ble_eq_true hm⟩ (fun w _ h => by cases h; exact hp) k
theorem G_iinc_2 {a0 a1 : Value} {t : List Value} {x : Int32} {n : Int} {v : Int32} (hd : D mi.2.1 pc (.iinc 2 n) 3 nx) (hv : Int32.ofInt n = v) (hp : notL a1 = true) (k : G l d mi K nx (a0 :: a1 :: .int (x + v) :: t) S I J R) : G l d mi K pc (a0 :: a1 :: .int x :: t) S I J R := G_iinc 2 hd rfl hv (by simp) (fun w _ h => by cases h; exact hp) k
theorem G_iload_3 {a0 a1 a2 : Value} {t : List Value} {x : Int32} (hd : D mi.2.1 pc (.iload_n 3) 1 nx) (k : G l d mi K nx (a0 :: a1 :: a2 :: .int x :: t) (.int x :: S) I J R) : G l d mi K pc (a0 :: a1 :: a2 :: .int x :: t) S I J R := G_iloadN 3 hd rfl rfl k
theorem G_aload_3 {a0 a1 a2 : Value} {t : List Value} {x : Nat} (hd : D mi.2.1 pc (.aload_n 3) 1 nx) (k : G l d mi K nx (a0 :: a1 :: a2 :: .ref x :: t) (.ref x :: S) I J R) : G l d mi K pc (a0 :: a1 :: a2 :: .ref x :: t) S I J R := G_aloadN 3 hd rfl rfl k
theorem G_lload_3 {a0 a1 a2 : Value} {t : List Value} {x : Int64} (hd : D mi.2.1 pc (.lload_n 3) 1 nx) (k : G l d mi K nx (a0 :: a1 :: a2 :: .long x :: t) (.long x :: S) I J R) : G l d mi K pc (a0 :: a1 :: a2 :: .long x :: t) S I J R := G_lloadN 3 hd rfl rfl k
theorem G_istore_3 {a0 a1 a2 : Value} {t : List Value} {b : Value} {x : Int32} (hd : D mi.2.1 pc (.istore_n 3) 1 nx) (hm : Nat.ble (3 + 1) mi.2.2.1 = true) (hp : notL a2 = true) (k : G l d mi K nx (a0 :: a1 :: a2 :: .int x :: t) S I J R) : G l d mi K pc (a0 :: a1 :: a2 :: b :: t) (.int x :: S) I J R := G_istoreN 3 hd rfl ⟨by simp, Nat.le_of_ble_eq_true hm⟩ (fun w _ h => by cases h; exact hp) k
theorem G_astore_3 {a0 a1 a2 : Value} {t : List Value} {b : Value} {x : Nat} (hd : D mi.2.1 pc (.astore_n 3) 1 nx) (hm : Nat.ble (3 + 1) mi.2.2.1 = true) (hp : notL a2 = true) (k : G l d mi K nx (a0 :: a1 :: a2 :: .ref x :: t) S I J R) : G l d mi K pc (a0 :: a1 :: a2 :: b :: t) (.ref x :: S) I J R := G_astoreN 3 hd rfl ⟨by simp, Nat.le_of_ble_eq_true hm⟩ (fun w _ h => by cases h; exact hp) k
theorem G_lstore_3 {a0 a1 a2 : Value} {t : List Value} {b b2 : Value} {x : Int64} (hd : D mi.2.1 pc (.lstore_n 3) 1 nx) (hm : Nat.ble (3 + 2) mi.2.2.1 = true) (hp : notL a2 = true) (k : G l d mi K nx (a0 :: a1 :: a2 :: .long x :: UU :: t) S I J R) : G l d mi K pc (a0 :: a1 :: a2 :: b :: b2 :: t) (.long x :: S) I J R := G_lstoreN 3 hd rfl ⟨by simp, Nat.le_of_ble_eq_true hm⟩ (fun w _ h => by cases h; exact hp) k
theorem G_iinc_3 {a0 a1 a2 : Value} {t : List Value} {x : Int32} {n : Int} {v : Int32} (hd : D mi.2.1 pc (.iinc 3 n) 3 nx) (hv : Int32.ofInt n = v) (hp : notL a2 = true) (k : G l d mi K nx (a0 :: a1 :: a2 :: .int (x + v) :: t) S I J R) : G l d mi K pc (a0 :: a1 :: a2 :: .int x :: t) S I J R := G_iinc 3 hd rfl hv (by simp) (fun w _ h => by cases h; exact hp) k
theorem G_iload_4 {a0 a1 a2 a3 : Value} {t : List Value} {x : Int32} (hd : D mi.2.1 pc (.iload 4) 2 nx) (k : G l d mi K nx (a0 :: a1 :: a2 :: a3 :: .int x :: t) (.int x :: S) I J R) : G l d mi K pc (a0 :: a1 :: a2 :: a3 :: .int x :: t) S I J R := G_iload 4 hd rfl k
theorem G_aload_4 {a0 a1 a2 a3 : Value} {t : List Value} {x : Nat} (hd : D mi.2.1 pc (.aload 4) 2 nx) (k : G l d mi K nx (a0 :: a1 :: a2 :: a3 :: .ref x :: t) (.ref x :: S) I J R) : G l d mi K pc (a0 :: a1 :: a2 :: a3 :: .ref x :: t) S I J R := G_aload 4 hd rfl k
theorem G_lload_4 {a0 a1 a2 a3 : Value} {t : List Value} {x : Int64} (hd : D mi.2.1 pc (.lload 4) 2 nx) (k : G l d mi K nx (a0 :: a1 :: a2 :: a3 :: .long x :: t) (.long x :: S) I J R) : G l d mi K pc (a0 :: a1 :: a2 :: a3 :: .long x :: t) S I J R := G_lload 4 hd rfl k
theorem G_istore_4 {a0 a1 a2 a3 : Value} {t : List Value} {b : Value} {x : Int32} (hd : D mi.2.1 pc (.istore 4) 2 nx) (hm : Nat.ble (4 + 1) mi.2.2.1 = true) (hp : notL a3 = true) (k : G l d mi K nx (a0 :: a1 :: a2 :: a3 :: .int x :: t) S I J R) : G l d mi K pc (a0 :: a1 :: a2 :: a3 :: b :: t) (.int x :: S) I J R := G_istore 4 hd ⟨by simp, Nat.le_of_ble_eq_true hm⟩ (fun w _ h => by cases h; exact hp) k
theorem G_astore_4 {a0 a1 a2 a3 : Value} {t : List Value} {b : Value} {x : Nat} (hd : D mi.2.1 pc (.astore 4) 2 nx) (hm : Nat.ble (4 + 1) mi.2.2.1 = true) (hp : notL a3 = true) (k : G l d mi K nx (a0 :: a1 :: a2 :: a3 :: .ref x :: t) S I J R) : G l d mi K pc (a0 :: a1 :: a2 :: a3 :: b :: t) (.ref x :: S) I J R := G_astore 4 hd ⟨by simp, Nat.le_of_ble_eq_true hm⟩ (fun w _ h => by cases h; exact hp) k
theorem G_lstore_4 {a0 a1 a2 a3 : Value} {t : List Value} {b b2 : Value} {x : Int64} (hd : D mi.2.1 pc (.lstore 4) 2 nx) (hm : Nat.ble (4 + 2) mi.2.2.1 = true) (hp : notL a3 = true) (k : G l d mi K nx (a0 :: a1 :: a2 :: a3 :: .long x :: UU :: t) S I J R) : G l d mi K pc (a0 :: a1 :: a2 :: a3 :: b :: b2 :: t) (.long x :: S) I J R := G_lstore 4 hd ⟨by simp, Nat.le_of_ble_eq_true hm⟩ (fun w _ h => by cases h; exact hp) k
theorem G_iinc_4 {a0 a1 a2 a3 : Value} {t : List Value} {x : Int32} {n : Int} {v : Int32} (hd : D mi.2.1 pc (.iinc 4 n) 3 nx) (hv : Int32.ofInt n = v) (hp : notL a3 = true) (k : G l d mi K nx (a0 :: a1 :: a2 :: a3 :: .int (x + v) :: t) S I J R) : G l d mi K pc (a0 :: a1 :: a2 :: a3 :: .int x :: t) S I J R := G_iinc 4 hd rfl hv (by simp) (fun w _ h => by cases h; exact hp) k
theorem G_iload_5 {a0 a1 a2 a3 a4 : Value} {t : List Value} {x : Int32} (hd : D mi.2.1 pc (.iload 5) 2 nx) (k : G l d mi K nx (a0 :: a1 :: a2 :: a3 :: a4 :: .int x :: t) (.int x :: S) I J R) : G l d mi K pc (a0 :: a1 :: a2 :: a3 :: a4 :: .int x :: t) S I J R := G_iload 5 hd rfl k
theorem G_aload_5 {a0 a1 a2 a3 a4 : Value} {t : List Value} {x : Nat} (hd : D mi.2.1 pc (.aload 5) 2 nx) (k : G l d mi K nx (a0 :: a1 :: a2 :: a3 :: a4 :: .ref x :: t) (.ref x :: S) I J R) : G l d mi K pc (a0 :: a1 :: a2 :: a3 :: a4 :: .ref x :: t) S I J R := G_aload 5 hd rfl k
theorem G_lload_5 {a0 a1 a2 a3 a4 : Value} {t : List Value} {x : Int64} (hd : D mi.2.1 pc (.lload 5) 2 nx) (k : G l d mi K nx (a0 :: a1 :: a2 :: a3 :: a4 :: .long x :: t) (.long x :: S) I J R) : G l d mi K pc (a0 :: a1 :: a2 :: a3 :: a4 :: .long x :: t) S I J R := G_lload 5 hd rfl k
theorem G_istore_5 {a0 a1 a2 a3 a4 : Value} {t : List Value} {b : Value} {x : Int32} (hd : D mi.2.1 pc (.istore 5) 2 nx) (hm : Nat.ble (5 + 1) mi.2.2.1 = true) (hp : notL a4 = true) (k : G l d mi K nx (a0 :: a1 :: a2 :: a3 :: a4 :: .int x :: t) S I J R) : G l d mi K pc (a0 :: a1 :: a2 :: a3 :: a4 :: b :: t) (.int x :: S) I J R := G_istore 5 hd ⟨by simp, Nat.le_of_ble_eq_true hm⟩ (fun w _ h => by cases h; exact hp) k
theorem G_astore_5 {a0 a1 a2 a3 a4 : Value} {t : List Value} {b : Value} {x : Nat} (hd : D mi.2.1 pc (.astore 5) 2 nx) (hm : Nat.ble (5 + 1) mi.2.2.1 = true) (hp : notL a4 = true) (k : G l d mi K nx (a0 :: a1 :: a2 :: a3 :: a4 :: .ref x :: t) S I J R) : G l d mi K pc (a0 :: a1 :: a2 :: a3 :: a4 :: b :: t) (.ref x :: S) I J R := G_astore 5 hd ⟨by simp, Nat.le_of_ble_eq_true hm⟩ (fun w _ h => by cases h; exact hp) k
theorem G_lstore_5 {a0 a1 a2 a3 a4 : Value} {t : List Value} {b b2 : Value} {x : Int64} (hd : D mi.2.1 pc (.lstore 5) 2 nx) (hm : Nat.ble (5 + 2) mi.2.2.1 = true) (hp : notL a4 = true) (k : G l d mi K nx (a0 :: a1 :: a2 :: a3 :: a4 :: .long x :: UU :: t) S I J R) : G l d mi K pc (a0 :: a1 :: a2 :: a3 :: a4 :: b :: b2 :: t) (.long x :: S) I J R := G_lstore 5 hd ⟨by simp, Nat.le_of_ble_eq_true hm⟩ (fun w _ h => by cases h; exact hp) k
theorem G_iinc_5 {a0 a1 a2 a3 a4 : Value} {t : List Value} {x : Int32} {n : Int} {v : Int32} (hd : D mi.2.1 pc (.iinc 5 n) 3 nx) (hv : Int32.ofInt n = v) (hp : notL a4 = true) (k : G l d mi K nx (a0 :: a1 :: a2 :: a3 :: a4 :: .int (x + v) :: t) S I J R) : G l d mi K pc (a0 :: a1 :: a2 :: a3 :: a4 :: .int x :: t) S I J R := G_iinc 5 hd rfl hv (by simp) (fun w _ h => by cases h; exact hp) k
theorem G_iload_6 {a0 a1 a2 a3 a4 a5 : Value} {t : List Value} {x : Int32} (hd : D mi.2.1 pc (.iload 6) 2 nx) (k : G l d mi K nx (a0 :: a1 :: a2 :: a3 :: a4 :: a5 :: .int x :: t) (.int x :: S) I J R) : G l d mi K pc (a0 :: a1 :: a2 :: a3 :: a4 :: a5 :: .int x :: t) S I J R := G_iload 6 hd rfl k
theorem G_aload_6 {a0 a1 a2 a3 a4 a5 : Value} {t : List Value} {x : Nat} (hd : D mi.2.1 pc (.aload 6) 2 nx) (k : G l d mi K nx (a0 :: a1 :: a2 :: a3 :: a4 :: a5 :: .ref x :: t) (.ref x :: S) I J R) : G l d mi K pc (a0 :: a1 :: a2 :: a3 :: a4 :: a5 :: .ref x :: t) S I J R := G_aload 6 hd rfl k
theorem G_lload_6 {a0 a1 a2 a3 a4 a5 : Value} {t : List Value} {x : Int64} (hd : D mi.2.1 pc (.lload 6) 2 nx) (k : G l d mi K nx (a0 :: a1 :: a2 :: a3 :: a4 :: a5 :: .long x :: t) (.long x :: S) I J R) : G l d mi K pc (a0 :: a1 :: a2 :: a3 :: a4 :: a5 :: .long x :: t) S I J R := G_lload 6 hd rfl k
theorem G_istore_6 {a0 a1 a2 a3 a4 a5 : Value} {t : List Value} {b : Value} {x : Int32} (hd : D mi.2.1 pc (.istore 6) 2 nx) (hm : Nat.ble (6 + 1) mi.2.2.1 = true) (hp : notL a5 = true) (k : G l d mi K nx (a0 :: a1 :: a2 :: a3 :: a4 :: a5 :: .int x :: t) S I J R) : G l d mi K pc (a0 :: a1 :: a2 :: a3 :: a4 :: a5 :: b :: t) (.int x :: S) I J R := G_istore 6 hd ⟨by simp, Nat.le_of_ble_eq_true hm⟩ (fun w _ h => by cases h; exact hp) k
theorem G_astore_6 {a0 a1 a2 a3 a4 a5 : Value} {t : List Value} {b : Value} {x : Nat} (hd : D mi.2.1 pc (.astore 6) 2 nx) (hm : Nat.ble (6 + 1) mi.2.2.1 = true) (hp : notL a5 = true) (k : G l d mi K nx (a0 :: a1 :: a2 :: a3 :: a4 :: a5 :: .ref x :: t) S I J R) : G l d mi K pc (a0 :: a1 :: a2 :: a3 :: a4 :: a5 :: b :: t) (.ref x :: S) I J R := G_astore 6 hd ⟨by simp, Nat.le_of_ble_eq_true hm⟩ (fun w _ h => by cases h; exact hp) k
theorem G_lstore_6 {a0 a1 a2 a3 a4 a5 : Value} {t : List Value} {b b2 : Value} {x : Int64} (hd : D mi.2.1 pc (.lstore 6) 2 nx) (hm : Nat.ble (6 + 2) mi.2.2.1 = true) (hp : notL a5 = true) (k : G l d mi K nx (a0 :: a1 :: a2 :: a3 :: a4 :: a5 :: .long x :: UU :: t) S I J R) : G l d mi K pc (a0 :: a1 :: a2 :: a3 :: a4 :: a5 :: b :: b2 :: t) (.long x :: S) I J R := G_lstore 6 hd ⟨by simp, Nat.le_of_ble_eq_true hm⟩ (fun w _ h => by cases h; exact hp) k
theorem G_iinc_6 {a0 a1 a2 a3 a4 a5 : Value} {t : List Value} {x : Int32} {n : Int} {v : Int32} (hd : D mi.2.1 pc (.iinc 6 n) 3 nx) (hv : Int32.ofInt n = v) (hp : notL a5 = true) (k : G l d mi K nx (a0 :: a1 :: a2 :: a3 :: a4 :: a5 :: .int (x + v) :: t) S I J R) : G l d mi K pc (a0 :: a1 :: a2 :: a3 :: a4 :: a5 :: .int x :: t) S I J R := G_iinc 6 hd rfl hv (by simp) (fun w _ h => by cases h; exact hp) k
theorem G_iload_7 {a0 a1 a2 a3 a4 a5 a6 : Value} {t : List Value} {x : Int32} (hd : D mi.2.1 pc (.iload 7) 2 nx) (k : G l d mi K nx (a0 :: a1 :: a2 :: a3 :: a4 :: a5 :: a6 :: .int x :: t) (.int x :: S) I J R) : G l d mi K pc (a0 :: a1 :: a2 :: a3 :: a4 :: a5 :: a6 :: .int x :: t) S I J R := G_iload 7 hd rfl k
theorem G_aload_7 {a0 a1 a2 a3 a4 a5 a6 : Value} {t : List Value} {x : Nat} (hd : D mi.2.1 pc (.aload 7) 2 nx) (k : G l d mi K nx (a0 :: a1 :: a2 :: a3 :: a4 :: a5 :: a6 :: .ref x :: t) (.ref x :: S) I J R) : G l d mi K pc (a0 :: a1 :: a2 :: a3 :: a4 :: a5 :: a6 :: .ref x :: t) S I J R := G_aload 7 hd rfl k
theorem G_lload_7 {a0 a1 a2 a3 a4 a5 a6 : Value} {t : List Value} {x : Int64} (hd : D mi.2.1 pc (.lload 7) 2 nx) (k : G l d mi K nx (a0 :: a1 :: a2 :: a3 :: a4 :: a5 :: a6 :: .long x :: t) (.long x :: S) I J R) : G l d mi K pc (a0 :: a1 :: a2 :: a3 :: a4 :: a5 :: a6 :: .long x :: t) S I J R := G_lload 7 hd rfl k
theorem G_istore_7 {a0 a1 a2 a3 a4 a5 a6 : Value} {t : List Value} {b : Value} {x : Int32} (hd : D mi.2.1 pc (.istore 7) 2 nx) (hm : Nat.ble (7 + 1) mi.2.2.1 = true) (hp : notL a6 = true) (k : G l d mi K nx (a0 :: a1 :: a2 :: a3 :: a4 :: a5 :: a6 :: .int x :: t) S I J R) : G l d mi K pc (a0 :: a1 :: a2 :: a3 :: a4 :: a5 :: a6 :: b :: t) (.int x :: S) I J R := G_istore 7 hd ⟨by simp, Nat.le_of_ble_eq_true hm⟩ (fun w _ h => by cases h; exact hp) k
theorem G_astore_7 {a0 a1 a2 a3 a4 a5 a6 : Value} {t : List Value} {b : Value} {x : Nat} (hd : D mi.2.1 pc (.astore 7) 2 nx) (hm : Nat.ble (7 + 1) mi.2.2.1 = true) (hp : notL a6 = true) (k : G l d mi K nx (a0 :: a1 :: a2 :: a3 :: a4 :: a5 :: a6 :: .ref x :: t) S I J R) : G l d mi K pc (a0 :: a1 :: a2 :: a3 :: a4 :: a5 :: a6 :: b :: t) (.ref x :: S) I J R := G_astore 7 hd ⟨by simp, Nat.le_of_ble_eq_true hm⟩ (fun w _ h => by cases h; exact hp) k
theorem G_lstore_7 {a0 a1 a2 a3 a4 a5 a6 : Value} {t : List Value} {b b2 : Value} {x : Int64} (hd : D mi.2.1 pc (.lstore 7) 2 nx) (hm : Nat.ble (7 + 2) mi.2.2.1 = true) (hp : notL a6 = true) (k : G l d mi K nx (a0 :: a1 :: a2 :: a3 :: a4 :: a5 :: a6 :: .long x :: UU :: t) S I J R) : G l d mi K pc (a0 :: a1 :: a2 :: a3 :: a4 :: a5 :: a6 :: b :: b2 :: t) (.long x :: S) I J R := G_lstore 7 hd ⟨by simp, Nat.le_of_ble_eq_true hm⟩ (fun w _ h => by cases h; exact hp) k
theorem G_iinc_7 {a0 a1 a2 a3 a4 a5 a6 : Value} {t : List Value} {x : Int32} {n : Int} {v : Int32} (hd : D mi.2.1 pc (.iinc 7 n) 3 nx) (hv : Int32.ofInt n = v) (hp : notL a6 = true) (k : G l d mi K nx (a0 :: a1 :: a2 :: a3 :: a4 :: a5 :: a6 :: .int (x + v) :: t) S I J R) : G l d mi K pc (a0 :: a1 :: a2 :: a3 :: a4 :: a5 :: a6 :: .int x :: t) S I J R := G_iinc 7 hd rfl hv (by simp) (fun w _ h => by cases h; exact hp) k
theorem G_iload_8 {a0 a1 a2 a3 a4 a5 a6 a7 : Value} {t : List Value} {x : Int32} (hd : D mi.2.1 pc (.iload 8) 2 nx) (k : G l d mi K nx (a0 :: a1 :: a2 :: a3 :: a4 :: a5 :: a6 :: a7 :: .int x :: t) (.int x :: S) I J R) : G l d mi K pc (a0 :: a1 :: a2 :: a3 :: a4 :: a5 :: a6 :: a7 :: .int x :: t) S I J R := G_iload 8 hd rfl k
theorem G_aload_8 {a0 a1 a2 a3 a4 a5 a6 a7 : Value} {t : List Value} {x : Nat} (hd : D mi.2.1 pc (.aload 8) 2 nx) (k : G l d mi K nx (a0 :: a1 :: a2 :: a3 :: a4 :: a5 :: a6 :: a7 :: .ref x :: t) (.ref x :: S) I J R) : G l d mi K pc (a0 :: a1 :: a2 :: a3 :: a4 :: a5 :: a6 :: a7 :: .ref x :: t) S I J R := G_aload 8 hd rfl k
theorem G_lload_8 {a0 a1 a2 a3 a4 a5 a6 a7 : Value} {t : List Value} {x : Int64} (hd : D mi.2.1 pc (.lload 8) 2 nx) (k : G l d mi K nx (a0 :: a1 :: a2 :: a3 :: a4 :: a5 :: a6 :: a7 :: .long x :: t) (.long x :: S) I J R) : G l d mi K pc (a0 :: a1 :: a2 :: a3 :: a4 :: a5 :: a6 :: a7 :: .long x :: t) S I J R := G_lload 8 hd rfl k
theorem G_istore_8 {a0 a1 a2 a3 a4 a5 a6 a7 : Value} {t : List Value} {b : Value} {x : Int32} (hd : D mi.2.1 pc (.istore 8) 2 nx) (hm : Nat.ble (8 + 1) mi.2.2.1 = true) (hp : notL a7 = true) (k : G l d mi K nx (a0 :: a1 :: a2 :: a3 :: a4 :: a5 :: a6 :: a7 :: .int x :: t) S I J R) : G l d mi K pc (a0 :: a1 :: a2 :: a3 :: a4 :: a5 :: a6 :: a7 :: b :: t) (.int x :: S) I J R := G_istore 8 hd ⟨by simp, Nat.le_of_ble_eq_true hm⟩ (fun w _ h => by cases h; exact hp) k
theorem G_astore_8 {a0 a1 a2 a3 a4 a5 a6 a7 : Value} {t : List Value} {b : Value} {x : Nat} (hd : D mi.2.1 pc (.astore 8) 2 nx) (hm : Nat.ble (8 + 1) mi.2.2.1 = true) (hp : notL a7 = true) (k : G l d mi K nx (a0 :: a1 :: a2 :: a3 :: a4 :: a5 :: a6 :: a7 :: .ref x :: t) S I J R) : G l d mi K pc (a0 :: a1 :: a2 :: a3 :: a4 :: a5 :: a6 :: a7 :: b :: t) (.ref x :: S) I J R := G_astore 8 hd ⟨by simp, Nat.le_of_ble_eq_true hm⟩ (fun w _ h => by cases h; exact hp) k
theorem G_lstore_8 {a0 a1 a2 a3 a4 a5 a6 a7 : Value} {t : List Value} {b b2 : Value} {x : Int64} (hd : D mi.2.1 pc (.lstore 8) 2 nx) (hm : Nat.ble (8 + 2) mi.2.2.1 = true) (hp : notL a7 = true) (k : G l d mi K nx (a0 :: a1 :: a2 :: a3 :: a4 :: a5 :: a6 :: a7 :: .long x :: UU :: t) S I J R) : G l d mi K pc (a0 :: a1 :: a2 :: a3 :: a4 :: a5 :: a6 :: a7 :: b :: b2 :: t) (.long x :: S) I J R := G_lstore 8 hd ⟨by simp, Nat.le_of_ble_eq_true hm⟩ (fun w _ h => by cases h; exact hp) k
theorem G_iinc_8 {a0 a1 a2 a3 a4 a5 a6 a7 : Value} {t : List Value} {x : Int32} {n : Int} {v : Int32} (hd : D mi.2.1 pc (.iinc 8 n) 3 nx) (hv : Int32.ofInt n = v) (hp : notL a7 = true) (k : G l d mi K nx (a0 :: a1 :: a2 :: a3 :: a4 :: a5 :: a6 :: a7 :: .int (x + v) :: t) S I J R) : G l d mi K pc (a0 :: a1 :: a2 :: a3 :: a4 :: a5 :: a6 :: a7 :: .int x :: t) S I J R := G_iinc 8 hd rfl hv (by simp) (fun w _ h => by cases h; exact hp) k
theorem G_iload_9 {a0 a1 a2 a3 a4 a5 a6 a7 a8 : Value} {t : List Value} {x : Int32} (hd : D mi.2.1 pc (.iload 9) 2 nx) (k : G l d mi K nx (a0 :: a1 :: a2 :: a3 :: a4 :: a5 :: a6 :: a7 :: a8 :: .int x :: t) (.int x :: S) I J R) : G l d mi K pc (a0 :: a1 :: a2 :: a3 :: a4 :: a5 :: a6 :: a7 :: a8 :: .int x :: t) S I J R := G_iload 9 hd rfl k
theorem G_aload_9 {a0 a1 a2 a3 a4 a5 a6 a7 a8 : Value} {t : List Value} {x : Nat} (hd : D mi.2.1 pc (.aload 9) 2 nx) (k : G l d mi K nx (a0 :: a1 :: a2 :: a3 :: a4 :: a5 :: a6 :: a7 :: a8 :: .ref x :: t) (.ref x :: S) I J R) : G l d mi K pc (a0 :: a1 :: a2 :: a3 :: a4 :: a5 :: a6 :: a7 :: a8 :: .ref x :: t) S I J R := G_aload 9 hd rfl k
theorem G_lload_9 {a0 a1 a2 a3 a4 a5 a6 a7 a8 : Value} {t : List Value} {x : Int64} (hd : D mi.2.1 pc (.lload 9) 2 nx) (k : G l d mi K nx (a0 :: a1 :: a2 :: a3 :: a4 :: a5 :: a6 :: a7 :: a8 :: .long x :: t) (.long x :: S) I J R) : G l d mi K pc (a0 :: a1 :: a2 :: a3 :: a4 :: a5 :: a6 :: a7 :: a8 :: .long x :: t) S I J R := G_lload 9 hd rfl k
theorem G_istore_9 {a0 a1 a2 a3 a4 a5 a6 a7 a8 : Value} {t : List Value} {b : Value} {x : Int32} (hd : D mi.2.1 pc (.istore 9) 2 nx) (hm : Nat.ble (9 + 1) mi.2.2.1 = true) (hp : notL a8 = true) (k : G l d mi K nx (a0 :: a1 :: a2 :: a3 :: a4 :: a5 :: a6 :: a7 :: a8 :: .int x :: t) S I J R) : G l d mi K pc (a0 :: a1 :: a2 :: a3 :: a4 :: a5 :: a6 :: a7 :: a8 :: b :: t) (.int x :: S) I J R := G_istore 9 hd ⟨by simp, Nat.le_of_ble_eq_true hm⟩ (fun w _ h => by cases h; exact hp) k
theorem G_astore_9 {a0 a1 a2 a3 a4 a5 a6 a7 a8 : Value} {t : List Value} {b : Value} {x : Nat} (hd : D mi.2.1 pc (.astore 9) 2 nx) (hm : Nat.ble (9 + 1) mi.2.2.1 = true) (hp : notL a8 = true) (k : G l d mi K nx (a0 :: a1 :: a2 :: a3 :: a4 :: a5 :: a6 :: a7 :: a8 :: .ref x :: t) S I J R) : G l d mi K pc (a0 :: a1 :: a2 :: a3 :: a4 :: a5 :: a6 :: a7 :: a8 :: b :: t) (.ref x :: S) I J R := G_astore 9 hd ⟨by simp, Nat.le_of_ble_eq_true hm⟩ (fun w _ h => by cases h; exact hp) k
theorem G_lstore_9 {a0 a1 a2 a3 a4 a5 a6 a7 a8 : Value} {t : List Value} {b b2 : Value} {x : Int64} (hd : D mi.2.1 pc (.lstore 9) 2 nx) (hm : Nat.ble (9 + 2) mi.2.2.1 = true) (hp : notL a8 = true) (k : G l d mi K nx (a0 :: a1 :: a2 :: a3 :: a4 :: a5 :: a6 :: a7 :: a8 :: .long x :: UU :: t) S I J R) : G l d mi K pc (a0 :: a1 :: a2 :: a3 :: a4 :: a5 :: a6 :: a7 :: a8 :: b :: b2 :: t) (.long x :: S) I J R := G_lstore 9 hd ⟨by simp, Nat.le_of_ble_eq_true hm⟩ (fun w _ h => by cases h; exact hp) k
theorem G_iinc_9 {a0 a1 a2 a3 a4 a5 a6 a7 a8 : Value} {t : List Value} {x : Int32} {n : Int} {v : Int32} (hd : D mi.2.1 pc (.iinc 9 n) 3 nx) (hv : Int32.ofInt n = v) (hp : notL a8 = true) (k : G l d mi K nx (a0 :: a1 :: a2 :: a3 :: a4 :: a5 :: a6 :: a7 :: a8 :: .int (x + v) :: t) S I J R) : G l d mi K pc (a0 :: a1 :: a2 :: a3 :: a4 :: a5 :: a6 :: a7 :: a8 :: .int x :: t) S I J R := G_iinc 9 hd rfl hv (by simp) (fun w _ h => by cases h; exact hp) k
theorem G_iload_10 {a0 a1 a2 a3 a4 a5 a6 a7 a8 a9 : Value} {t : List Value} {x : Int32} (hd : D mi.2.1 pc (.iload 10) 2 nx) (k : G l d mi K nx (a0 :: a1 :: a2 :: a3 :: a4 :: a5 :: a6 :: a7 :: a8 :: a9 :: .int x :: t) (.int x :: S) I J R) : G l d mi K pc (a0 :: a1 :: a2 :: a3 :: a4 :: a5 :: a6 :: a7 :: a8 :: a9 :: .int x :: t) S I J R := G_iload 10 hd rfl k
theorem G_aload_10 {a0 a1 a2 a3 a4 a5 a6 a7 a8 a9 : Value} {t : List Value} {x : Nat} (hd : D mi.2.1 pc (.aload 10) 2 nx) (k : G l d mi K nx (a0 :: a1 :: a2 :: a3 :: a4 :: a5 :: a6 :: a7 :: a8 :: a9 :: .ref x :: t) (.ref x :: S) I J R) : G l d mi K pc (a0 :: a1 :: a2 :: a3 :: a4 :: a5 :: a6 :: a7 :: a8 :: a9 :: .ref x :: t) S I J R := G_aload 10 hd rfl k
theorem G_lload_10 {a0 a1 a2 a3 a4 a5 a6 a7 a8 a9 : Value} {t : List Value} {x : Int64} (hd : D mi.2.1 pc (.lload 10) 2 nx) (k : G l d mi K nx (a0 :: a1 :: a2 :: a3 :: a4 :: a5 :: a6 :: a7 :: a8 :: a9 :: .long x :: t) (.long x :: S) I J R) : G l d mi K pc (a0 :: a1 :: a2 :: a3 :: a4 :: a5 :: a6 :: a7 :: a8 :: a9 :: .long x :: t) S I J R := G_lload 10 hd rfl k
theorem G_istore_10 {a0 a1 a2 a3 a4 a5 a6 a7 a8 a9 : Value} {t : List Value} {b : Value} {x : Int32} (hd : D mi.2.1 pc (.istore 10) 2 nx) (hm : Nat.ble (10 + 1) mi.2.2.1 = true) (hp : notL a9 = true) (k : G l d mi K nx (a0 :: a1 :: a2 :: a3 :: a4 :: a5 :: a6 :: a7 :: a8 :: a9 :: .int x :: t) S I J R) : G l d mi K pc (a0 :: a1 :: a2 :: a3 :: a4 :: a5 :: a6 :: a7 :: a8 :: a9 :: b :: t) (.int x :: S) I J R := G_istore 10 hd ⟨by simp, Nat.le_of_ble_eq_true hm⟩ (fun w _ h => by cases h; exact hp) k
theorem G_astore_10 {a0 a1 a2 a3 a4 a5 a6 a7 a8 a9 : Value} {t : List Value} {b : Value} {x : Nat} (hd : D mi.2.1 pc (.astore 10) 2 nx) (hm : Nat.ble (10 + 1) mi.2.2.1 = true) (hp : notL a9 = true) (k : G l d mi K nx (a0 :: a1 :: a2 :: a3 :: a4 :: a5 :: a6 :: a7 :: a8 :: a9 :: .ref x :: t) S I J R) : G l d mi K pc (a0 :: a1 :: a2 :: a3 :: a4 :: a5 :: a6 :: a7 :: a8 :: a9 :: b :: t) (.ref x :: S) I J R := G_astore 10 hd ⟨by simp, Nat.le_of_ble_eq_true hm⟩ (fun w _ h => by cases h; exact hp) k
theorem G_lstore_10 {a0 a1 a2 a3 a4 a5 a6 a7 a8 a9 : Value} {t : List Value} {b b2 : Value} {x : Int64} (hd : D mi.2.1 pc (.lstore 10) 2 nx) (hm : Nat.ble (10 + 2) mi.2.2.1 = true) (hp : notL a9 = true) (k : G l d mi K nx (a0 :: a1 :: a2 :: a3 :: a4 :: a5 :: a6 :: a7 :: a8 :: a9 :: .long x :: UU :: t) S I J R) : G l d mi K pc (a0 :: a1 :: a2 :: a3 :: a4 :: a5 :: a6 :: a7 :: a8 :: a9 :: b :: b2 :: t) (.long x :: S) I J R := G_lstore 10 hd ⟨by simp, Nat.le_of_ble_eq_true hm⟩ (fun w _ h => by cases h; exact hp) k
theorem G_iinc_10 {a0 a1 a2 a3 a4 a5 a6 a7 a8 a9 : Value} {t : List Value} {x : Int32} {n : Int} {v : Int32} (hd : D mi.2.1 pc (.iinc 10 n) 3 nx) (hv : Int32.ofInt n = v) (hp : notL a9 = true) (k : G l d mi K nx (a0 :: a1 :: a2 :: a3 :: a4 :: a5 :: a6 :: a7 :: a8 :: a9 :: .int (x + v) :: t) S I J R) : G l d mi K pc (a0 :: a1 :: a2 :: a3 :: a4 :: a5 :: a6 :: a7 :: a8 :: a9 :: .int x :: t) S I J R := G_iinc 10 hd rfl hv (by simp) (fun w _ h => by cases h; exact hp) k
theorem G_iload_11 {a0 a1 a2 a3 a4 a5 a6 a7 a8 a9 a10 : Value} {t : List Value} {x : Int32} (hd : D mi.2.1 pc (.iload 11) 2 nx) (k : G l d mi K nx (a0 :: a1 :: a2 :: a3 :: a4 :: a5 :: a6 :: a7 :: a8 :: a9 :: a10 :: .int x :: t) (.int x :: S) I J R) : G l d mi K pc (a0 :: a1 :: a2 :: a3 :: a4 :: a5 :: a6 :: a7 :: a8 :: a9 :: a10 :: .int x :: t) S I J R := G_iload 11 hd rfl k
theorem G_aload_11 {a0 a1 a2 a3 a4 a5 a6 a7 a8 a9 a10 : Value} {t : List Value} {x : Nat} (hd : D mi.2.1 pc (.aload 11) 2 nx) (k : G l d mi K nx (a0 :: a1 :: a2 :: a3 :: a4 :: a5 :: a6 :: a7 :: a8 :: a9 :: a10 :: .ref x :: t) (.ref x :: S) I J R) : G l d mi K pc (a0 :: a1 :: a2 :: a3 :: a4 :: a5 :: a6 :: a7 :: a8 :: a9 :: a10 :: .ref x :: t) S I J R := G_aload 11 hd rfl k
theorem G_lload_11 {a0 a1 a2 a3 a4 a5 a6 a7 a8 a9 a10 : Value} {t : List Value} {x : Int64} (hd : D mi.2.1 pc (.lload 11) 2 nx) (k : G l d mi K nx (a0 :: a1 :: a2 :: a3 :: a4 :: a5 :: a6 :: a7 :: a8 :: a9 :: a10 :: .long x :: t) (.long x :: S) I J R) : G l d mi K pc (a0 :: a1 :: a2 :: a3 :: a4 :: a5 :: a6 :: a7 :: a8 :: a9 :: a10 :: .long x :: t) S I J R := G_lload 11 hd rfl k
theorem G_istore_11 {a0 a1 a2 a3 a4 a5 a6 a7 a8 a9 a10 : Value} {t : List Value} {b : Value} {x : Int32} (hd : D mi.2.1 pc (.istore 11) 2 nx) (hm : Nat.ble (11 + 1) mi.2.2.1 = true) (hp : notL a10 = true) (k : G l d mi K nx (a0 :: a1 :: a2 :: a3 :: a4 :: a5 :: a6 :: a7 :: a8 :: a9 :: a10 :: .int x :: t) S I J R) : G l d mi K pc (a0 :: a1 :: a2 :: a3 :: a4 :: a5 :: a6 :: a7 :: a8 :: a9 :: a10 :: b :: t) (.int x :: S) I J R := G_istore 11 hd ⟨by simp, Nat.le_of_ble_eq_true hm⟩ (fun w _ h => by cases h; exact hp) k
theorem G_astore_11 {a0 a1 a2 a3 a4 a5 a6 a7 a8 a9 a10 : Value} {t : List Value} {b : Value} {x : Nat} (hd : D mi.2.1 pc (.astore 11) 2 nx) (hm : Nat.ble (11 + 1) mi.2.2.1 = true) (hp : notL a10 = true) (k : G l d mi K nx (a0 :: a1 :: a2 :: a3 :: a4 :: a5 :: a6 :: a7 :: a8 :: a9 :: a10 :: .ref x :: t) S I J R) : G l d mi K pc (a0 :: a1 :: a2 :: a3 :: a4 :: a5 :: a6 :: a7 :: a8 :: a9 :: a10 :: b :: t) (.ref x :: S) I J R := G_astore 11 hd ⟨by simp, Nat.le_of_ble_eq_true hm⟩ (fun w _ h => by cases h; exact hp) k
theorem G_lstore_11 {a0 a1 a2 a3 a4 a5 a6 a7 a8 a9 a10 : Value} {t : List Value} {b b2 : Value} {x : Int64} (hd : D mi.2.1 pc (.lstore 11) 2 nx) (hm : Nat.ble (11 + 2) mi.2.2.1 = true) (hp : notL a10 = true) (k : G l d mi K nx (a0 :: a1 :: a2 :: a3 :: a4 :: a5 :: a6 :: a7 :: a8 :: a9 :: a10 :: .long x :: UU :: t) S I J R) : G l d mi K pc (a0 :: a1 :: a2 :: a3 :: a4 :: a5 :: a6 :: a7 :: a8 :: a9 :: a10 :: b :: b2 :: t) (.long x :: S) I J R := G_lstore 11 hd ⟨by simp, Nat.le_of_ble_eq_true hm⟩ (fun w _ h => by cases h; exact hp) k
theorem G_iinc_11 {a0 a1 a2 a3 a4 a5 a6 a7 a8 a9 a10 : Value} {t : List Value} {x : Int32} {n : Int} {v : Int32} (hd : D mi.2.1 pc (.iinc 11 n) 3 nx) (hv : Int32.ofInt n = v) (hp : notL a10 = true) (k : G l d mi K nx (a0 :: a1 :: a2 :: a3 :: a4 :: a5 :: a6 :: a7 :: a8 :: a9 :: a10 :: .int (x + v) :: t) S I J R) : G l d mi K pc (a0 :: a1 :: a2 :: a3 :: a4 :: a5 :: a6 :: a7 :: a8 :: a9 :: a10 :: .int x :: t) S I J R := G_iinc 11 hd rfl hv (by simp) (fun w _ h => by cases h; exact hp) k
theorem G_iload_12 {a0 a1 a2 a3 a4 a5 a6 a7 a8 a9 a10 a11 : Value} {t : List Value} {x : Int32} (hd : D mi.2.1 pc (.iload 12) 2 nx) (k : G l d mi K nx (a0 :: a1 :: a2 :: a3 :: a4 :: a5 :: a6 :: a7 :: a8 :: a9 :: a10 :: a11 :: .int x :: t) (.int x :: S) I J R) : G l d mi K pc (a0 :: a1 :: a2 :: a3 :: a4 :: a5 :: a6 :: a7 :: a8 :: a9 :: a10 :: a11 :: .int x :: t) S I J R := G_iload 12 hd rfl k
theorem G_aload_12 {a0 a1 a2 a3 a4 a5 a6 a7 a8 a9 a10 a11 : Value} {t : List Value} {x : Nat} (hd : D mi.2.1 pc (.aload 12) 2 nx) (k : G l d mi K nx (a0 :: a1 :: a2 :: a3 :: a4 :: a5 :: a6 :: a7 :: a8 :: a9 :: a10 :: a11 :: .ref x :: t) (.ref x :: S) I J R) : G l d mi K pc (a0 :: a1 :: a2 :: a3 :: a4 :: a5 :: a6 :: a7 :: a8 :: a9 :: a10 :: a11 :: .ref x :: t) S I J R := G_aload 12 hd rfl k
theorem G_lload_12 {a0 a1 a2 a3 a4 a5 a6 a7 a8 a9 a10 a11 : Value} {t : List Value} {x : Int64} (hd : D mi.2.1 pc (.lload 12) 2 nx) (k : G l d mi K nx (a0 :: a1 :: a2 :: a3 :: a4 :: a5 :: a6 :: a7 :: a8 :: a9 :: a10 :: a11 :: .long x :: t) (.long x :: S) I J R) : G l d mi K pc (a0 :: a1 :: a2 :: a3 :: a4 :: a5 :: a6 :: a7 :: a8 :: a9 :: a10 :: a11 :: .long x :: t) S I J R := G_lload 12 hd rfl k
theorem G_istore_12 {a0 a1 a2 a3 a4 a5 a6 a7 a8 a9 a10 a11 : Value} {t : List Value} {b : Value} {x : Int32} (hd : D mi.2.1 pc (.istore 12) 2 nx) (hm : Nat.ble (12 + 1) mi.2.2.1 = true) (hp : notL a11 = true) (k : G l d mi K nx (a0 :: a1 :: a2 :: a3 :: a4 :: a5 :: a6 :: a7 :: a8 :: a9 :: a10 :: a11 :: .int x :: t) S I J R) : G l d mi K pc (a0 :: a1 :: a2 :: a3 :: a4 :: a5 :: a6 :: a7 :: a8 :: a9 :: a10 :: a11 :: b :: t) (.int x :: S) I J R := G_istore 12 hd ⟨by simp, Nat.le_of_ble_eq_true hm⟩ (fun w _ h => by cases h; exact hp) k
theorem G_astore_12 {a0 a1 a2 a3 a4 a5 a6 a7 a8 a9 a10 a11 : Value} {t : List Value} {b : Value} {x : Nat} (hd : D mi.2.1 pc (.astore 12) 2 nx) (hm : Nat.ble (12 + 1) mi.2.2.1 = true) (hp : notL a11 = true) (k : G l d mi K nx (a0 :: a1 :: a2 :: a3 :: a4 :: a5 :: a6 :: a7 :: a8 :: a9 :: a10 :: a11 :: .ref x :: t) S I J R) : G l d mi K pc (a0 :: a1 :: a2 :: a3 :: a4 :: a5 :: a6 :: a7 :: a8 :: a9 :: a10 :: a11 :: b :: t) (.ref x :: S) I J R := G_astore 12 hd ⟨by simp, Nat.le_of_ble_eq_true hm⟩ (fun w _ h => by cases h; exact hp) k
theorem G_lstore_12 {a0 a1 a2 a3 a4 a5 a6 a7 a8 a9 a10 a11 : Value} {t : List Value} {b b2 : Value} {x : Int64} (hd : D mi.2.1 pc (.lstore 12) 2 nx) (hm : Nat.ble (12 + 2) mi.2.2.1 = true) (hp : notL a11 = true) (k : G l d mi K nx (a0 :: a1 :: a2 :: a3 :: a4 :: a5 :: a6 :: a7 :: a8 :: a9 :: a10 :: a11 :: .long x :: UU :: t) S I J R) : G l d mi K pc (a0 :: a1 :: a2 :: a3 :: a4 :: a5 :: a6 :: a7 :: a8 :: a9 :: a10 :: a11 :: b :: b2 :: t) (.long x :: S) I J R := G_lstore 12 hd ⟨by simp, Nat.le_of_ble_eq_true hm⟩ (fun w _ h => by cases h; exact hp) k
theorem G_iinc_12 {a0 a1 a2 a3 a4 a5 a6 a7 a8 a9 a10 a11 : Value} {t : List Value} {x : Int32} {n : Int} {v : Int32} (hd : D mi.2.1 pc (.iinc 12 n) 3 nx) (hv : Int32.ofInt n = v) (hp : notL a11 = true) (k : G l d mi K nx (a0 :: a1 :: a2 :: a3 :: a4 :: a5 :: a6 :: a7 :: a8 :: a9 :: a10 :: a11 :: .int (x + v) :: t) S I J R) : G l d mi K pc (a0 :: a1 :: a2 :: a3 :: a4 :: a5 :: a6 :: a7 :: a8 :: a9 :: a10 :: a11 :: .int x :: t) S I J R := G_iinc 12 hd rfl hv (by simp) (fun w _ h => by cases h; exact hp) k
theorem G_iload_13 {a0 a1 a2 a3 a4 a5 a6 a7 a8 a9 a10 a11 a12 : Value} {t : List Value} {x : Int32} (hd : D mi.2.1 pc (.iload 13) 2 nx) (k : G l d mi K nx (a0 :: a1 :: a2 :: a3 :: a4 :: a5 :: a6 :: a7 :: a8 :: a9 :: a10 :: a11 :: a12 :: .int x :: t) (.int x :: S) I J R) : G l d mi K pc (a0 :: a1 :: a2 :: a3 :: a4 :: a5 :: a6 :: a7 :: a8 :: a9 :: a10 :: a11 :: a12 :: .int x :: t) S I J R := G_iload 13 hd rfl k
theorem G_aload_13 {a0 a1 a2 a3 a4 a5 a6 a7 a8 a9 a10 a11 a12 : Value} {t : List Value} {x : Nat} (hd : D mi.2.1 pc (.aload 13) 2 nx) (k : G l d mi K nx (a0 :: a1 :: a2 :: a3 :: a4 :: a5 :: a6 :: a7 :: a8 :: a9 :: a10 :: a11 :: a12 :: .ref x :: t) (.ref x :: S) I J R) : G l d mi K pc (a0 :: a1 :: a2 :: a3 :: a4 :: a5 :: a6 :: a7 :: a8 :: a9 :: a10 :: a11 :: a12 :: .ref x :: t) S I J R := G_aload 13 hd rfl k
theorem G_lload_13 {a0 a1 a2 a3 a4 a5 a6 a7 a8 a9 a10 a11 a12 : Value} {t : List Value} {x : Int64} (hd : D mi.2.1 pc (.lload 13) 2 nx) (k : G l d mi K nx (a0 :: a1 :: a2 :: a3 :: a4 :: a5 :: a6 :: a7 :: a8 :: a9 :: a10 :: a11 :: a12 :: .long x :: t) (.long x :: S) I J R) : G l d mi K pc (a0 :: a1 :: a2 :: a3 :: a4 :: a5 :: a6 :: a7 :: a8 :: a9 :: a10 :: a11 :: a12 :: .long x :: t) S I J R := G_lload 13 hd rfl k
theorem G_istore_13 {a0 a1 a2 a3 a4 a5 a6 a7 a8 a9 a10 a11 a12 : Value} {t : List Value} {b : Value} {x : Int32} (hd : D mi.2.1 pc (.istore 13) 2 nx) (hm : Nat.ble (13 + 1) mi.2.2.1 = true) (hp : notL a12 = true) (k : G l d mi K nx (a0 :: a1 :: a2 :: a3 :: a4 :: a5 :: a6 :: a7 :: a8 :: a9 :: a10 :: a11 :: a12 :: .int x :: t) S I J R) : G l d mi K pc (a0 :: a1 :: a2 :: a3 :: a4 :: a5 :: a6 :: a7 :: a8 :: a9 :: a10 :: a11 :: a12 :: b :: t) (.int x :: S) I J R := G_istore 13 hd ⟨by simp, Nat.le_of_ble_eq_true hm⟩ (fun w _ h => by cases h; exact hp) k
theorem G_astore_13 {a0 a1 a2 a3 a4 a5 a6 a7 a8 a9 a10 a11 a12 : Value} {t : List Value} {b : Value} {x : Nat} (hd : D mi.2.1 pc (.astore 13) 2 nx) (hm : Nat.ble (13 + 1) mi.2.2.1 = true) (hp : notL a12 = true) (k : G l d mi K nx (a0 :: a1 :: a2 :: a3 :: a4 :: a5 :: a6 :: a7 :: a8 :: a9 :: a10 :: a11 :: a12 :: .ref x :: t) S I J R) : G l d mi K pc (a0 :: a1 :: a2 :: a3 :: a4 :: a5 :: a6 :: a7 :: a8 :: a9 :: a10 :: a11 :: a12 :: b :: t) (.ref x :: S) I J R := G_astore 13 hd ⟨by simp, Nat.le_of_ble_eq_true hm⟩ (fun w _ h => by cases h; exact hp) k
theorem G_lstore_13 {a0 a1 a2 a3 a4 a5 a6 a7 a8 a9 a10 a11 a12 : Value} {t : List Value} {b b2 : Value} {x : Int64} (hd : D mi.2.1 pc (.lstore 13) 2 nx) (hm : Nat.ble (13 + 2) mi.2.2.1 = true) (hp : notL a12 = true) (k : G l d mi K nx (a0 :: a1 :: a2 :: a3 :: a4 :: a5 :: a6 :: a7 :: a8 :: a9 :: a10 :: a11 :: a12 :: .long x :: UU :: t) S I J R) : G l d mi K pc (a0 :: a1 :: a2 :: a3 :: a4 :: a5 :: a6 :: a7 :: a8 :: a9 :: a10 :: a11 :: a12 :: b :: b2 :: t) (.long x :: S) I J R := G_lstore 13 hd ⟨by simp, Nat.le_of_ble_eq_true hm⟩ (fun w _ h => by cases h; exact hp) k
theorem G_iinc_13 {a0 a1 a2 a3 a4 a5 a6 a7 a8 a9 a10 a11 a12 : Value} {t : List Value} {x : Int32} {n : Int} {v : Int32} (hd : D mi.2.1 pc (.iinc 13 n) 3 nx) (hv : Int32.ofInt n = v) (hp : notL a12 = true) (k : G l d mi K nx (a0 :: a1 :: a2 :: a3 :: a4 :: a5 :: a6 :: a7 :: a8 :: a9 :: a10 :: a11 :: a12 :: .int (x + v) :: t) S I J R) : G l d mi K pc (a0 :: a1 :: a2 :: a3 :: a4 :: a5 :: a6 :: a7 :: a8 :: a9 :: a10 :: a11 :: a12 :: .int x :: t) S I J R := G_iinc 13 hd rfl hv (by simp) (fun w _ h => by cases h; exact hp) k
theorem G_ifeq {x : Int32} {off : Int} (hd : D mi.2.1 pc (.ifCond .eq off) 3 nx) (ht : (pc : Int) + off = (tgt : Int)) (kt : x = 0 → G l d mi K tgt L S I J R) (kf : ¬ x = 0 → G l d mi K nx L S I J R) : G l d mi K pc L (.int x :: S) I J R := by
  intro dC dI cy ad p e s m args below meth c H locs ls C hP hS hl
  obtain ⟨hd, rfl⟩ := hd
  exact lv_if_eq C.1 C.2.1 hd ht (fun h => kt h dC dI cy ad p e s m args below meth c H locs ls C hP hS hl) (fun h => kf h dC dI cy ad p e s m args below meth c H locs ls C hP hS hl)
theorem G_icmpeq {x y : Int32} {off : Int} (hd : D mi.2.1 pc (.if_icmp .eq off) 3 nx) (ht : (pc : Int) + off = (tgt : Int)) (kt : x = y → G l d mi K tgt L S I J R) (kf : ¬ x = y → G l d mi K nx L S I J R) : G l d mi K pc L (.int y :: .int x :: S) I J R := by
  intro dC dI cy ad p e s m args below meth c H locs ls C hP hS hl
  obtain ⟨hd, rfl⟩ := hd
  exact lv_icmp_eq C.1 C.2.1 hd ht (fun h => kt h dC dI cy ad p e s m args below meth c H locs ls C hP hS hl) (fun h => kf h dC dI cy ad p e s m args below meth c H locs ls C hP hS hl)
theorem G_ifne {x : Int32} {off : Int} (hd : D mi.2.1 pc (.ifCond .ne off) 3 nx) (ht : (pc : Int) + off = (tgt : Int)) (kt : ¬ x = 0 → G l d mi K tgt L S I J R) (kf : x = 0 → G l d mi K nx L S I J R) : G l d mi K pc L (.int x :: S) I J R := by
  intro dC dI cy ad p e s m args below meth c H locs ls C hP hS hl
  obtain ⟨hd, rfl⟩ := hd
  exact lv_if_ne C.1 C.2.1 hd ht (fun h => kt h dC dI cy ad p e s m args below meth c H locs ls C hP hS hl) (fun h => kf h dC dI cy ad p e s m args below meth c H locs ls C hP hS hl)
theorem G_icmpne {x y : Int32} {off : Int} (hd : D mi.2.1 pc (.if_icmp .ne off) 3 nx) (ht : (pc : Int) + off = (tgt : Int)) (kt : ¬ x = y → G l d mi K tgt L S I J R) (kf : x = y → G l d mi K nx L S I J R) : G l d mi K pc L (.int y :: .int x :: S) I J R := by
  intro dC dI cy ad p e s m args below meth c H locs ls C hP hS hl
  obtain ⟨hd, rfl⟩ := hd
  exact lv_icmp_ne C.1 C.2.1 hd ht (fun h => kt h dC dI cy ad p e s m args below meth c H locs ls C hP hS hl) (fun h => kf h dC dI cy ad p e s m args below meth c H locs ls C hP hS hl)
theorem G_iflt {x : Int32} {off : Int} (hd : D mi.2.1 pc (.ifCond .lt off) 3 nx) (ht : (pc : Int) + off = (tgt : Int)) (kt : x < 0 → G l d mi K tgt L S I J R) (kf : ¬ x < 0 → G l d mi K nx L S I J R) : G l d mi K pc L (.int x :: S) I J R := by
  intro dC dI cy ad p e s m args below meth c H locs ls C hP hS hl
  obtain ⟨hd, rfl⟩ := hd
  exact lv_if_lt C.1 C.2.1 hd ht (fun h => kt h dC dI cy ad p e s m args below meth c H locs ls C hP hS hl) (fun h => kf h dC dI cy ad p e s m args below meth c H locs ls C hP hS hl)
theorem G_icmplt {x y : Int32} {off : Int} (hd : D mi.2.1 pc (.if_icmp .lt off) 3 nx) (ht : (pc : Int) + off = (tgt : Int)) (kt : x < y → G l d mi K tgt L S I J R) (kf : ¬ x < y → G l d mi K nx L S I J R) : G l d mi K pc L (.int y :: .int x :: S) I J R := by
  intro dC dI cy ad p e s m args below meth c H locs ls C hP hS hl
  obtain ⟨hd, rfl⟩ := hd
  exact lv_icmp_lt C.1 C.2.1 hd ht (fun h => kt h dC dI cy ad p e s m args below meth c H locs ls C hP hS hl) (fun h => kf h dC dI cy ad p e s m args below meth c H locs ls C hP hS hl)
theorem G_ifge {x : Int32} {off : Int} (hd : D mi.2.1 pc (.ifCond .ge off) 3 nx) (ht : (pc : Int) + off = (tgt : Int)) (kt : 0 ≤ x → G l d mi K tgt L S I J R) (kf : ¬ 0 ≤ x → G l d mi K nx L S I J R) : G l d mi K pc L (.int x :: S) I J R := by
  intro dC dI cy ad p e s m args below meth c H locs ls C hP hS hl
  obtain ⟨hd, rfl⟩ := hd
  exact lv_if_ge C.1 C.2.1 hd ht (fun h => kt h dC dI cy ad p e s m args below meth c H locs ls C hP hS hl) (fun h => kf h dC dI cy ad p e s m args below meth c H locs ls C hP hS hl)
theorem G_icmpge {x y : Int32} {off : Int} (hd : D mi.2.1 pc (.if_icmp .ge off) 3 nx) (ht : (pc : Int) + off = (tgt : Int)) (kt : y ≤ x → G l d mi K tgt L S I J R) (kf : ¬ y ≤ x → G l d mi K nx L S I J R) : G l d mi K pc L (.int y :: .int x :: S) I J R := by
  intro dC dI cy ad p e s m args below meth c H locs ls C hP hS hl
  obtain ⟨hd, rfl⟩ := hd
  exact lv_icmp_ge C.1 C.2.1 hd ht (fun h => kt h dC dI cy ad p e s m args below meth c H locs ls C hP hS hl) (fun h => kf h dC dI cy ad p e s m args below meth c H locs ls C hP hS hl)
theorem G_ifgt {x : Int32} {off : Int} (hd : D mi.2.1 pc (.ifCond .gt off) 3 nx) (ht : (pc : Int) + off = (tgt : Int)) (kt : 0 < x → G l d mi K tgt L S I J R) (kf : ¬ 0 < x → G l d mi K nx L S I J R) : G l d mi K pc L (.int x :: S) I J R := by
  intro dC dI cy ad p e s m args below meth c H locs ls C hP hS hl
  obtain ⟨hd, rfl⟩ := hd
  exact lv_if_gt C.1 C.2.1 hd ht (fun h => kt h dC dI cy ad p e s m args below meth c H locs ls C hP hS hl) (fun h => kf h dC dI cy ad p e s m args below meth c H locs ls C hP hS hl)
theorem G_icmpgt {x y : Int32} {off : Int} (hd : D mi.2.1 pc (.if_icmp .gt off) 3 nx) (ht : (pc : Int) + off = (tgt : Int)) (kt : y < x → G l d mi K tgt L S I J R) (kf : ¬ y < x → G l d mi K nx L S I J R) : G l d mi K pc L (.int y :: .int x :: S) I J R := by
  intro dC dI cy ad p e s m args below meth c H locs ls C hP hS hl
  obtain ⟨hd, rfl⟩ := hd
  exact lv_icmp_gt C.1 C.2.1 hd ht (fun h => kt h dC dI cy ad p e s m args below meth c H locs ls C hP hS hl) (fun h => kf h dC dI cy ad p e s m args below meth c H locs ls C hP hS hl)
theorem G_ifle {x : Int32} {off : Int} (hd : D mi.2.1 pc (.ifCond .le off) 3 nx) (ht : (pc : Int) + off = (tgt : Int)) (kt : x ≤ 0 → G l d mi K tgt L S I J R) (kf : ¬ x ≤ 0 → G l d mi K nx L S I J R) : G l d mi K pc L (.int x :: S) I J R := by
  intro dC dI cy ad p e s m args below meth c H locs ls C hP hS hl
  obtain ⟨hd, rfl⟩ := hd
  exact lv_if_le C.1 C.2.1 hd ht (fun h => kt h dC dI cy ad p e s m args below meth c H locs ls C hP hS hl) (fun h => kf h dC dI cy ad p e s m args below meth c H locs ls C hP hS hl)
theorem G_icmple {x y : Int32} {off : Int} (hd : D mi.2.1 pc (.if_icmp .le off) 3 nx) (ht : (pc : Int) + off = (tgt : Int)) (kt : x ≤ y → G l d mi K tgt L S I J R) (kf : ¬ x ≤ y → G l d mi K nx L S I J R) : G l d mi K pc L (.int y :: .int x :: S) I J R := by
  intro dC dI cy ad p e s m args below meth c H locs ls C hP hS hl
  obtain ⟨hd, rfl⟩ := hd
  exact lv_icmp_le C.1 C.2.1 hd ht (fun h => kt h dC dI cy ad p e s m args below meth c H locs ls C hP hS hl) (fun h => kf h dC dI cy ad p e s m args below meth c H locs ls C hP hS hl)
theorem G_iadd {x y : Int32} (hd : D mi.2.1 pc .iadd 1 nx) (k : G l d mi K nx L (.int (x + y) :: S) I J R) : G l d mi K pc L (.int y :: .int x :: S) I J R := by
  intro dC dI cy ad p e s m args below meth c H locs ls C hP hS hl
  obtain ⟨hd, rfl⟩ := hd
  exact lv_iadd C.1 C.2.1 hd (k dC dI cy ad p e s m args below meth c H locs ls C hP hS hl)
theorem G_isub {x y : Int32} (hd : D mi.2.1 pc .isub 1 nx) (k : G l d mi K nx L (.int (x - y) :: S) I J R) : G l d mi K pc L (.int y :: .int x :: S) I J R := by
  intro dC dI cy ad p e s m args below meth c H locs ls C hP hS hl
  obtain ⟨hd, rfl⟩ := hd
  exact lv_isub C.1 C.2.1 hd (k dC dI cy ad p e s m args below meth c H locs ls C hP hS hl)
theorem G_imul {x y : Int32} (hd : D mi.2.1 pc .imul 1 nx) (k : G l d mi K nx L (.int (x * y) :: S) I J R) : G l d mi K pc L (.int y :: .int x :: S) I J R := by
  intro dC dI cy ad p e s m args below meth c H locs ls C hP hS hl
  obtain ⟨hd, rfl⟩ := hd
  exact lv_imul C.1 C.2.1 hd (k dC dI cy ad p e s m args below meth c H locs ls C hP hS hl)
theorem G_iand {x y : Int32} (hd : D mi.2.1 pc .iand 1 nx) (k : G l d mi K nx L (.int (x &&& y) :: S) I J R) : G l d mi K pc L (.int y :: .int x :: S) I J R := by
  intro dC dI cy ad p e s m args below meth c H locs ls C hP hS hl
  obtain ⟨hd, rfl⟩ := hd
  exact lv_iand C.1 C.2.1 hd (k dC dI cy ad p e s m args below meth c H locs ls C hP hS hl)
theorem G_ior {x y : Int32} (hd : D mi.2.1 pc .ior 1 nx) (k : G l d mi K nx L (.int (x ||| y) :: S) I J R) : G l d mi K pc L (.int y :: .int x :: S) I J R := by
  intro dC dI cy ad p e s m args below meth c H locs ls C hP hS hl
  obtain ⟨hd, rfl⟩ := hd
  exact lv_ior C.1 C.2.1 hd (k dC dI cy ad p e s m args below meth c H locs ls C hP hS hl)
theorem G_ixor {x y : Int32} (hd : D mi.2.1 pc .ixor 1 nx) (k : G l d mi K nx L (.int (x ^^^ y) :: S) I J R) : G l d mi K pc L (.int y :: .int x :: S) I J R := by
  intro dC dI cy ad p e s m args below meth c H locs ls C hP hS hl
  obtain ⟨hd, rfl⟩ := hd
  exact lv_ixor C.1 C.2.1 hd (k dC dI cy ad p e s m args below meth c H locs ls C hP hS hl)
theorem G_ishl {x y : Int32} (hd : D mi.2.1 pc .ishl 1 nx) (k : G l d mi K nx L (.int (x <<< (y &&& 31)) :: S) I J R) : G l d mi K pc L (.int y :: .int x :: S) I J R := by
  intro dC dI cy ad p e s m args below meth c H locs ls C hP hS hl
  obtain ⟨hd, rfl⟩ := hd
  exact lv_ishl C.1 C.2.1 hd (k dC dI cy ad p e s m args below meth c H locs ls C hP hS hl)
theorem G_ishr {x y : Int32} (hd : D mi.2.1 pc .ishr 1 nx) (k : G l d mi K nx L (.int (x >>> (y &&& 31)) :: S) I J R) : G l d mi K pc L (.int y :: .int x :: S) I J R := by
  intro dC dI cy ad p e s m args below meth c H locs ls C hP hS hl
  obtain ⟨hd, rfl⟩ := hd
  exact lv_ishr C.1 C.2.1 hd (k dC dI cy ad p e s m args below meth c H locs ls C hP hS hl)
theorem G_ladd {x y : Int64} (hd : D mi.2.1 pc .ladd 1 nx) (k : G l d mi K nx L (.long (x + y) :: S) I J R) : G l d mi K pc L (.long y :: .long x :: S) I J R := by
  intro dC dI cy ad p e s m args below meth c H locs ls C hP hS hl
  obtain ⟨hd, rfl⟩ := hd
  exact lv_ladd C.1 C.2.1 hd (k dC dI cy ad p e s m args below meth c H locs ls C hP hS hl)
theorem G_lsub {x y : Int64} (hd : D mi.2.1 pc .lsub 1 nx) (k : G l d mi K nx L (.long (x - y) :: S) I J R) : G l d mi K pc L (.long y :: .long x :: S) I J R := by
  intro dC dI cy ad p e s m args below meth c H locs ls C hP hS hl
  obtain ⟨hd, rfl⟩ := hd
  exact lv_lsub C.1 C.2.1 hd (k dC dI cy ad p e s m args below meth c H locs ls C hP hS hl)
theorem G_lmul {x y : Int64} (hd : D mi.2.1 pc .lmul 1 nx) (k : G l d mi K nx L (.long (x * y) :: S) I J R) : G l d mi K pc L (.long y :: .long x :: S) I J R := by
  intro dC dI cy ad p e s m args below meth c H locs ls C hP hS hl
  obtain ⟨hd, rfl⟩ := hd
  exact lv_lmul C.1 C.2.1 hd (k dC dI cy ad p e s m args below meth c H locs ls C hP hS hl)
theorem G_land {x y : Int64} (hd : D mi.2.1 pc .land 1 nx) (k : G l d mi K nx L (.long (x &&& y) :: S) I J R) : G l d mi K pc L (.long y :: .long x :: S) I J R := by
  intro dC dI cy ad p e s m args below meth c H locs ls C hP hS hl
  obtain ⟨hd, rfl⟩ := hd
  exact lv_land C.1 C.2.1 hd (k dC dI cy ad p e s m args below meth c H locs ls C hP hS hl)
theorem G_lor {x y : Int64} (hd : D mi.2.1 pc .lor 1 nx) (k : G l d mi K nx L (.long (x ||| y) :: S) I J R) : G l d mi K pc L (.long y :: .long x :: S) I J R := by
  intro dC dI cy ad p e s m args below meth c H locs ls C hP hS hl
  obtain ⟨hd, rfl⟩ := hd
  exact lv_lor C.1 C.2.1 hd (k dC dI cy ad p e s m args below meth c H locs ls C hP hS hl)
theorem G_idiv {x y : Int32} (hd : D mi.2.1 pc .idiv 1 nx) (h0 : ¬ y = 0) (k : G l d mi K nx L (.int (x / y) :: S) I J R) : G l d mi K pc L (.int y :: .int x :: S) I J R := by
  intro dC dI cy ad p e s m args below meth c H locs ls C hP hS hl
  obtain ⟨hd, rfl⟩ := hd
  exact lv_idiv C.1 C.2.1 hd h0 (k dC dI cy ad p e s m args below meth c H locs ls C hP hS hl)
theorem G_irem {x y : Int32} (hd : D mi.2.1 pc .irem 1 nx) (h0 : ¬ y = 0) (k : G l d mi K nx L (.int (x - x / y * y) :: S) I J R) : G l d mi K pc L (.int y :: .int x :: S) I J R := by
  intro dC dI cy ad p e s m args below meth c H locs ls C hP hS hl
  obtain ⟨hd, rfl⟩ := hd
  exact lv_irem C.1 C.2.1 hd h0 (k dC dI cy ad p e s m args below meth c H locs ls C hP hS hl)
theorem G_ldiv {x y : Int64} (hd : D mi.2.1 pc .ldiv 1 nx) (h0 : ¬ y = 0) (k : G l d mi K nx L (.long (x / y) :: S) I J R) : G l d mi K pc L (.long y :: .long x :: S) I J R := by
  intro dC dI cy ad p e s m args below meth c H locs ls C hP hS hl
  obtain ⟨hd, rfl⟩ := hd
  exact lv_ldiv C.1 C.2.1 hd h0 (k dC dI cy ad p e s m args below meth c H locs ls C hP hS hl)
theorem G_lrem {x y : Int64} (hd : D mi.2.1 pc .lrem 1 nx) (h0 : ¬ y = 0) (k : G l d mi K nx L (.long (x - x / y * y) :: S) I J R) : G l d mi K pc L (.long y :: .long x :: S) I J R := by
  intro dC dI cy ad p e s m args below meth c H locs ls C hP hS hl
  obtain ⟨hd, rfl⟩ := hd
  exact lv_lrem C.1 C.2.1 hd h0 (k dC dI cy ad p e s m args below meth c H locs ls C hP hS hl)
theorem G_iushr {x y : Int32} (hd : D mi.2.1 pc .iushr 1 nx) (k : G l d mi K nx L (.int ((x.toUInt32 >>> (y.toUInt32 &&& Int32.toUInt32 31)).toInt32) :: S) I J R) : G l d mi K pc L (.int y :: .int x :: S) I J R := by
  intro dC dI cy ad p e s m args below meth c H locs ls C hP hS hl
  obtain ⟨hd, rfl⟩ := hd
  exact lv_iushr C.1 C.2.1 hd rfl (k dC dI cy ad p e s m args below meth c H locs ls C hP hS hl)
theorem G_lushr {x : Int64} {y : Int32} (hd : D mi.2.1 pc .lushr 1 nx) (k : G l d mi K nx L (.long ((x.toUInt64 >>> (y.toInt64.toUInt64 &&& Int64.toUInt64 63)).toInt64) :: S) I J R) : G l d mi K pc L (.int y :: .long x :: S) I J R := by
  intro dC dI cy ad p e s m args below meth c H locs ls C hP hS hl
  obtain ⟨hd, rfl⟩ := hd
  exact lv_lushr C.1 C.2.1 hd rfl (k dC dI cy ad p e s m args below meth c H locs ls C hP hS hl)
theorem G_lshl {x : Int64} {y : Int32} (hd : D mi.2.1 pc .lshl 1 nx) (k : G l d mi K nx L (.long (x <<< (y.toInt64 &&& 63)) :: S) I J R) : G l d mi K pc L (.int y :: .long x :: S) I J R := by
  intro dC dI cy ad p e s m args below meth c H locs ls C hP hS hl
  obtain ⟨hd, rfl⟩ := hd
  exact lv_lshl C.1 C.2.1 hd rfl (k dC dI cy ad p e s m args below meth c H locs ls C hP hS hl)
theorem G_lshr {x : Int64} {y : Int32} (hd : D mi.2.1 pc .lshr 1 nx) (k : G l d mi K nx L (.long (x >>> (y.toInt64 &&& 63)) :: S) I J R) : G l d mi K pc L (.int y :: .long x :: S) I J R := by
  intro dC dI cy ad p e s m args below meth c H locs ls C hP hS hl
  obtain ⟨hd, rfl⟩ := hd
  exact lv_lshr C.1 C.2.1 hd rfl (k dC dI cy ad p e s m args below meth c H locs ls C hP hS hl)
theorem G_i2l {x : Int32} (hd : D mi.2.1 pc .i2l 1 nx) (k : G l d mi K nx L (.long (x.toInt64) :: S) I J R) : G l d mi K pc L (.int x :: S) I J R := by
  intro dC dI cy ad p e s m args below meth c H locs ls C hP hS hl
  obtain ⟨hd, rfl⟩ := hd
  exact lv_i2l C.1 C.2.1 hd rfl (k dC dI cy ad p e s m args below meth c H locs ls C hP hS hl)
theorem G_l2i {x : Int64} (hd : D mi.2.1 pc .l2i 1 nx) (k : G l d mi K nx L (.int (x.toInt32) :: S) I J R) : G l d mi K pc L (.long x :: S) I J R := by
  intro dC dI cy ad p e s m args below meth c H locs ls C hP hS hl
  obtain ⟨hd, rfl⟩ := hd
  exact lv_l2i C.1 C.2.1 hd rfl (k dC dI cy ad p e s m args below meth c H locs ls C hP hS hl)
theorem G_i2b {x : Int32} (hd : D mi.2.1 pc .i2b 1 nx) (k : G l d mi K nx L (.int (x.toInt8.toInt32) :: S) I J R) : G l d mi K pc L (.int x :: S) I J R := by
  intro dC dI cy ad p e s m args below meth c H locs ls C hP hS hl
  obtain ⟨hd, rfl⟩ := hd
  exact lv_i2b C.1 C.2.1 hd rfl (k dC dI cy ad p e s m args below meth c H locs ls C hP hS hl)
theorem G_i2s {x : Int32} (hd : D mi.2.1 pc .i2s 1 nx) (k : G l d mi K nx L (.int (x.toInt16.toInt32) :: S) I J R) : G l d mi K pc L (.int x :: S) I J R := by
  intro dC dI cy ad p e s m args below meth c H locs ls C hP hS hl
  obtain ⟨hd, rfl⟩ := hd
  exact lv_i2s C.1 C.2.1 hd rfl (k dC dI cy ad p e s m args below meth c H locs ls C hP hS hl)
theorem G_i2c {x : Int32} (hd : D mi.2.1 pc .i2c 1 nx) (k : G l d mi K nx L (.int ((x.toUInt32 % 65536).toInt32) :: S) I J R) : G l d mi K pc L (.int x :: S) I J R := by
  intro dC dI cy ad p e s m args below meth c H locs ls C hP hS hl
  obtain ⟨hd, rfl⟩ := hd
  exact lv_i2c C.1 C.2.1 hd rfl (k dC dI cy ad p e s m args below meth c H locs ls C hP hS hl)
theorem G_lcmp {x y : Int64} (hd : D mi.2.1 pc .lcmp 1 nx) (k : G l d mi K nx L (.int (lg_cmp x y) :: S) I J R) : G l d mi K pc L (.long y :: .long x :: S) I J R := by
  intro dC dI cy ad p e s m args below meth c H locs ls C hP hS hl
  obtain ⟨hd, rfl⟩ := hd
  exact W.lcmp C.1 C.2.1 hd (k dC dI cy ad p e s m args below meth c H locs ls C hP hS hl)
theorem G_cs0 {idx : Nat} {mj : MI} (hd : D mi.2.1 pc (.invokestatic idx) 3 nx) (ho : okS mi.1.cls idx mj 0) (hv : mj.2.2.2.isNone = false) (ha : ([] : List Value).all notL = true) (hw : (S.map fun v => v.category).sum ≤ 8) (hn : 0 ≤ mj.2.2.1) (k : G l d mj (fun v I J R => G l (d + 1) mi K nx L (v :: S) I J R) 0 (List.replicate (mj.2.2.1 - 0) UU) [] I J R) : G l (d + 1) mi K pc L (S) I J R := G_callS (As := []) hd ho hv ha hw hn k
theorem G_cv0 {idx o ci : Nat} {mj : MI} (hd : D mi.2.1 pc (.invokevirtual idx) 3 nx) (ho : okV mi.1.cls idx mj ci 0) (hv : mj.2.2.2.isNone = false) (hO : isO o ci) (ha : ([] : List Value).all notL = true) (hw : (S.map fun v => v.category).sum ≤ 8) (hn : 0 + 1 ≤ mj.2.2.1) (k : G l d mj (fun v I J R => G l (d + 1) mi K nx L (v :: S) I J R) 0 (.ref o :: List.replicate (mj.2.2.1 - 1) UU) [] I J R) : G l (d + 1) mi K pc L (.ref o :: S) I J R := G_callV (As := []) hd ho hv hO ha hw hn k
theorem G_csv0 {idx : Nat} {mj : MI} (hd : D mi.2.1 pc (.invokestatic idx) 3 nx) (ho : okS mi.1.cls idx mj 0) (hv : mj.2.2.2.isNone = true) (ha : ([] : List Value).all notL = true) (hw : (S.map fun v => v.category).sum ≤ 8) (hn : 0 ≤ mj.2.2.1) (k : G l d mj (fun v I J R => G l (d + 1) mi K nx L S I J R) 0 (List.replicate (mj.2.2.1 - 0) UU) [] I J R) : G l (d + 1) mi K pc L (S) I J R := G_callSv (As := []) hd ho hv ha hw hn k
theorem G_cvv0 {idx o ci : Nat} {mj : MI} (hd : D mi.2.1 pc (.invokevirtual idx) 3 nx) (ho : okV mi.1.cls idx mj ci 0) (hv : mj.2.2.2.isNone = true) (hO : isO o ci) (ha : ([] : List Value).all notL = true) (hw : (S.map fun v => v.category).sum ≤ 8) (hn : 0 + 1 ≤ mj.2.2.1) (k : G l d mj (fun v I J R => G l (d + 1) mi K nx L S I J R) 0 (.ref o :: List.replicate (mj.2.2.1 - 1) UU) [] I J R) : G l (d + 1) mi K pc L (.ref o :: S) I J R := G_callVv (As := []) hd ho hv hO ha hw hn k
theorem G_cs1 {idx : Nat} {mj : MI} {a1 : Value} (hd : D mi.2.1 pc (.invokestatic idx) 3 nx) (ho : okS mi.1.cls idx mj 1) (hv : mj.2.2.2.isNone = false) (ha : ([a1] : List Value).all notL = true) (hw : (S.map fun v => v.category).sum ≤ 8) (hn : 1 ≤ mj.2.2.1) (k : G l d mj (fun v I J R => G l (d + 1) mi K nx L (v :: S) I J R) 0 (a1 :: List.replicate (mj.2.2.1 - 1) UU) [] I J R) : G l (d + 1) mi K pc L (a1 :: S) I J R := G_callS (As := [a1]) hd ho hv ha hw hn k
theorem G_cv1 {idx o ci : Nat} {mj : MI} {a1 : Value} (hd : D mi.2.1 pc (.invokevirtual idx) 3 nx) (ho : okV mi.1.cls idx mj ci 1) (hv : mj.2.2.2.isNone = false) (hO : isO o ci) (ha : ([a1] : List Value).all notL = true) (hw : (S.map fun v => v.category).sum ≤ 8) (hn : 1 + 1 ≤ mj.2.2.1) (k : G l d mj (fun v I J R => G l (d + 1) mi K nx L (v :: S) I J R) 0 (.ref o :: a1 :: List.replicate (mj.2.2.1 - 2) UU) [] I J R) : G l (d + 1) mi K pc L (a1 :: .ref o :: S) I J R := G_callV (As := [a1]) hd ho hv hO ha hw hn k
theorem G_csv1 {idx : Nat} {mj : MI} {a1 : Value} (hd : D mi.2.1 pc (.invokestatic idx) 3 nx) (ho : okS mi.1.cls idx mj 1) (hv : mj.2.2.2.isNone = true) (ha : ([a1] : List Value).all notL = true) (hw : (S.map fun v => v.category).sum ≤ 8) (hn : 1 ≤ mj.2.2.1) (k : G l d mj (fun v I J R => G l (d + 1) mi K nx L S I J R) 0 (a1 :: List.replicate (mj.2.2.1 - 1) UU) [] I J R) : G l (d + 1) mi K pc L (a1 :: S) I J R := G_callSv (As := [a1]) hd ho hv ha hw hn k
theorem G_cvv1 {idx o ci : Nat} {mj : MI} {a1 : Value} (hd : D mi.2.1 pc (.invokevirtual idx) 3 nx) (ho : okV mi.1.cls idx mj ci 1) (hv : mj.2.2.2.isNone = true) (hO : isO o ci) (ha : ([a1] : List Value).all notL = true) (hw : (S.map fun v => v.category).sum ≤ 8) (hn : 1 + 1 ≤ mj.2.2.1) (k : G l d mj (fun v I J R => G l (d + 1) mi K nx L S I J R) 0 (.ref o :: a1 :: List.replicate (mj.2.2.1 - 2) UU) [] I J R) : G l (d + 1) mi K pc L (a1 :: .ref o :: S) I J R := G_callVv (As := [a1]) hd ho hv hO ha hw hn k
theorem G_cs2 {idx : Nat} {mj : MI} {a1 a2 : Value} (hd : D mi.2.1 pc (.invokestatic idx) 3 nx) (ho : okS mi.1.cls idx mj 2) (hv : mj.2.2.2.isNone = false) (ha : ([a1, a2] : List Value).all notL = true) (hw : (S.map fun v => v.category).sum ≤ 8) (hn : 2 ≤ mj.2.2.1) (k : G l d mj (fun v I J R => G l (d + 1) mi K nx L (v :: S) I J R) 0 (a1 :: a2 :: List.replicate (mj.2.2.1 - 2) UU) [] I J R) : G l (d + 1) mi K pc L (a2 :: a1 :: S) I J R := G_callS (As := [a1, a2]) hd ho hv ha hw hn k
theorem G_cv2 {idx o ci : Nat} {mj : MI} {a1 a2 : Value} (hd : D mi.2.1 pc (.invokevirtual idx) 3 nx) (ho : okV mi.1.cls idx mj ci 2) (hv : mj.2.2.2.isNone = false) (hO : isO o ci) (ha : ([a1, a2] : List Value).all notL = true) (hw : (S.map fun v => v.category).sum ≤ 8) (hn : 2 + 1 ≤ mj.2.2.1) (k : G l d mj (fun v I J R => G l (d + 1) mi K nx L (v :: S) I J R) 0 (.ref o :: a1 :: a2 :: List.replicate (mj.2.2.1 - 3) UU) [] I J R) : G l (d + 1) mi K pc L (a2 :: a1 :: .ref o :: S) I J R := G_callV (As := [a1, a2]) hd ho hv hO ha hw hn k
theorem G_csv2 {idx : Nat} {mj : MI} {a1 a2 : Value} (hd : D mi.2.1 pc (.invokestatic idx) 3 nx) (ho : okS mi.1.cls idx mj 2) (hv : mj.2.2.2.isNone = true) (ha : ([a1, a2] : List Value).all notL = true) (hw : (S.map fun v => v.category).sum ≤ 8) (hn : 2 ≤ mj.2.2.1) (k : G l d mj (fun v I J R => G l (d + 1) mi K nx L S I J R) 0 (a1 :: a2 :: List.replicate (mj.2.2.1 - 2) UU) [] I J R) : G l (d + 1) mi K pc L (a2 :: a1 :: S) I J R := G_callSv (As := [a1, a2]) hd ho hv ha hw hn k
theorem G_cvv2 {idx o ci : Nat} {mj : MI} {a1 a2 : Value} (hd : D mi.2.1 pc (.invokevirtual idx) 3 nx) (ho : okV mi.1.cls idx mj ci 2) (hv : mj.2.2.2.isNone = true) (hO : isO o ci) (ha : ([a1, a2] : List Value).all notL = true) (hw : (S.map fun v => v.category).sum ≤ 8) (hn : 2 + 1 ≤ mj.2.2.1) (k : G l d mj (fun v I J R => G l (d + 1) mi K nx L S I J R) 0 (.ref o :: a1 :: a2 :: List.replicate (mj.2.2.1 - 3) UU) [] I J R) : G l (d + 1) mi K pc L (a2 :: a1 :: .ref o :: S) I J R := G_callVv (As := [a1, a2]) hd ho hv hO ha hw hn k
theorem G_cs3 {idx : Nat} {mj : MI} {a1 a2 a3 : Value} (hd : D mi.2.1 pc (.invokestatic idx) 3 nx) (ho : okS mi.1.cls idx mj 3) (hv : mj.2.2.2.isNone = false) (ha : ([a1, a2, a3] : List Value).all notL = true) (hw : (S.map fun v => v.category).sum ≤ 8) (hn : 3 ≤ mj.2.2.1) (k : G l d mj (fun v I J R => G l (d + 1) mi K nx L (v :: S) I J R) 0 (a1 :: a2 :: a3 :: List.replicate (mj.2.2.1 - 3) UU) [] I J R) : G l (d + 1) mi K pc L (a3 :: a2 :: a1 :: S) I J R := G_callS (As := [a1, a2, a3]) hd ho hv ha hw hn k
theorem G_cv3 {idx o ci : Nat} {mj : MI} {a1 a2 a3 : Value} (hd : D mi.2.1 pc (.invokevirtual idx) 3 nx) (ho : okV mi.1.cls idx mj ci 3) (hv : mj.2.2.2.isNone = false) (hO : isO o ci) (ha : ([a1, a2, a3] : List Value).all notL = true) (hw : (S.map fun v => v.category).sum ≤ 8) (hn : 3 + 1 ≤ mj.2.2.1) (k : G l d mj (fun v I J R => G l (d + 1) mi K nx L (v :: S) I J R) 0 (.ref o :: a1 :: a2 :: a3 :: List.replicate (mj.2.2.1 - 4) UU) [] I J R) : G l (d + 1) mi K pc L (a3 :: a2 :: a1 :: .ref o :: S) I J R := G_callV (As := [a1, a2, a3]) hd ho hv hO ha hw hn k
theorem G_csv3 {idx : Nat} {mj : MI} {a1 a2 a3 : Value} (hd : D mi.2.1 pc (.invokestatic idx) 3 nx) (ho : okS mi.1.cls idx mj 3) (hv : mj.2.2.2.isNone = true) (ha : ([a1, a2, a3] : List Value).all notL = true) (hw : (S.map fun v => v.category).sum ≤ 8) (hn : 3 ≤ mj.2.2.1) (k : G l d mj (fun v I J R => G l (d + 1) mi K nx L S I J R) 0 (a1 :: a2 :: a3 :: List.replicate (mj.2.2.1 - 3) UU) [] I J R) : G l (d + 1) mi K pc L (a3 :: a2 :: a1 :: S) I J R := G_callSv (As := [a1, a2, a3]) hd ho hv ha hw hn k
theorem G_cvv3 {idx o ci : Nat} {mj : MI} {a1 a2 a3 : Value} (hd : D mi.2.1 pc (.invokevirtual idx) 3 nx) (ho : okV mi.1.cls idx mj ci 3) (hv : mj.2.2.2.isNone = true) (hO : isO o ci) (ha : ([a1, a2, a3] : List Value).all notL = true) (hw : (S.map fun v => v.category).sum ≤ 8) (hn : 3 + 1 ≤ mj.2.2.1) (k : G l d mj (fun v I J R => G l (d + 1) mi K nx L S I J R) 0 (.ref o :: a1 :: a2 :: a3 :: List.replicate (mj.2.2.1 - 4) UU) [] I J R) : G l (d + 1) mi K pc L (a3 :: a2 :: a1 :: .ref o :: S) I J R := G_callVv (As := [a1, a2, a3]) hd ho hv hO ha hw hn k
theorem G_cs4 {idx : Nat} {mj : MI} {a1 a2 a3 a4 : Value} (hd : D mi.2.1 pc (.invokestatic idx) 3 nx) (ho : okS mi.1.cls idx mj 4) (hv : mj.2.2.2.isNone = false) (ha : ([a1, a2, a3, a4] : List Value).all notL = true) (hw : (S.map fun v => v.category).sum ≤ 8) (hn : 4 ≤ mj.2.2.1) (k : G l d mj (fun v I J R => G l (d + 1) mi K nx L (v :: S) I J R) 0 (a1 :: a2 :: a3 :: a4 :: List.replicate (mj.2.2.1 - 4) UU) [] I J R) : G l (d + 1) mi K pc L (a4 :: a3 :: a2 :: a1 :: S) I J R := G_callS (As := [a1, a2, a3, a4]) hd ho hv ha hw hn k
theorem G_cv4 {idx o ci : Nat} {mj : MI} {a1 a2 a3 a4 : Value} (hd : D mi.2.1 pc (.invokevirtual idx) 3 nx) (ho : okV mi.1.cls idx mj ci 4) (hv : mj.2.2.2.isNone = false) (hO : isO o ci) (ha : ([a1, a2, a3, a4] : List Value).all notL = true) (hw : (S.map fun v => v.category).sum ≤ 8) (hn : 4 + 1 ≤ mj.2.2.1) (k : G l d mj (fun v I J R => G l (d + 1) mi K nx L (v :: S) I J R) 0 (.ref o :: a1 :: a2 :: a3 :: a4 :: List.replicate (mj.2.2.1 - 5) UU) [] I J R) : G l (d + 1) mi K pc L (a4 :: a3 :: a2 :: a1 :: .ref o :: S) I J R := G_callV (As := [a1, a2, a3, a4]) hd ho hv hO ha hw hn k
theorem G_csv4 {idx : Nat} {mj : MI} {a1 a2 a3 a4 : Value} (hd : D mi.2.1 pc (.invokestatic idx) 3 nx) (ho : okS mi.1.cls idx mj 4) (hv : mj.2.2.2.isNone = true) (ha : ([a1, a2, a3, a4] : List Value).all notL = true) (hw : (S.map fun v => v.category).sum ≤ 8) (hn : 4 ≤ mj.2.2.1) (k : G l d mj (fun v I J R => G l (d + 1) mi K nx L S I J R) 0 (a1 :: a2 :: a3 :: a4 :: List.replicate (mj.2.2.1 - 4) UU) [] I J R) : G l (d + 1) mi K pc L (a4 :: a3 :: a2 :: a1 :: S) I J R := G_callSv (As := [a1, a2, a3, a4]) hd ho hv ha hw hn k
theorem G_cvv4 {idx o ci : Nat} {mj : MI} {a1 a2 a3 a4 : Value} (hd : D mi.2.1 pc (.invokevirtual idx) 3 nx) (ho : okV mi.1.cls idx mj ci 4) (hv : mj.2.2.2.isNone = true) (hO : isO o ci) (ha : ([a1, a2, a3, a4] : List Value).all notL = true) (hw : (S.map fun v => v.category).sum ≤ 8) (hn : 4 + 1 ≤ mj.2.2.1) (k : G l d mj (fun v I J R => G l (d + 1) mi K nx L S I J R) 0 (.ref o :: a1 :: a2 :: a3 :: a4 :: List.replicate (mj.2.2.1 - 5) UU) [] I J R) : G l (d + 1) mi K pc L (a4 :: a3 :: a2 :: a1 :: .ref o :: S) I J R := G_callVv (As := [a1, a2, a3, a4]) hd ho hv hO ha hw hn k
theorem G_cs5 {idx : Nat} {mj : MI} {a1 a2 a3 a4 a5 : Value} (hd : D mi.2.1 pc (.invokestatic idx) 3 nx) (ho : okS mi.1.cls idx mj 5) (hv : mj.2.2.2.isNone = false) (ha : ([a1, a2, a3, a4, a5] : List Value).all notL = true) (hw : (S.map fun v => v.category).sum ≤ 8) (hn : 5 ≤ mj.2.2.1) (k : G l d mj (fun v I J R => G l (d + 1) mi K nx L (v :: S) I J R) 0 (a1 :: a2 :: a3 :: a4 :: a5 :: List.replicate (mj.2.2.1 - 5) UU) [] I J R) : G l (d + 1) mi K pc L (a5 :: a4 :: a3 :: a2 :: a1 :: S) I J R := G_callS (As := [a1, a2, a3, a4, a5]) hd ho hv ha hw hn k
theorem G_cv5 {idx o ci : Nat} {mj : MI} {a1 a2 a3 a4 a5 : Value} (hd : D mi.2.1 pc (.invokevirtual idx) 3 nx) (ho : okV mi.1.cls idx mj ci 5) (hv : mj.2.2.2.isNone = false) (hO : isO o ci) (ha : ([a1, a2, a3, a4, a5] : List Value).all notL = true) (hw : (S.map fun v => v.category).sum ≤ 8) (hn : 5 + 1 ≤ mj.2.2.1) (k : G l d mj (fun v I J R => G l (d + 1) mi K nx L (v :: S) I J R) 0 (.ref o :: a1 :: a2 :: a3 :: a4 :: a5 :: List.replicate (mj.2.2.1 - 6) UU) [] I J R) : G l (d + 1) mi K pc L (a5 :: a4 :: a3 :: a2 :: a1 :: .ref o :: S) I J R := G_callV (As := [a1, a2, a3, a4, a5]) hd ho hv hO ha hw hn k
theorem G_csv5 {idx : Nat} {mj : MI} {a1 a2 a3 a4 a5 : Value} (hd : D mi.2.1 pc (.invokestatic idx) 3 nx) (ho : okS mi.1.cls idx mj 5) (hv : mj.2.2.2.isNone = true) (ha : ([a1, a2, a3, a4, a5] : List Value).all notL = true) (hw : (S.map fun v => v.category).sum ≤ 8) (hn : 5 ≤ mj.2.2.1) (k : G l d mj (fun v I J R => G l (d + 1) mi K nx L S I J R) 0 (a1 :: a2 :: a3 :: a4 :: a5 :: List.replicate (mj.2.2.1 - 5) UU) [] I J R) : G l (d + 1) mi K pc L (a5 :: a4 :: a3 :: a2 :: a1 :: S) I J R := G_callSv (As := [a1, a2, a3, a4, a5]) hd ho hv ha hw hn k
theorem G_cvv5 {idx o ci : Nat} {mj : MI} {a1 a2 a3 a4 a5 : Value} (hd : D mi.2.1 pc (.invokevirtual idx) 3 nx) (ho : okV mi.1.cls idx mj ci 5) (hv : mj.2.2.2.isNone = true) (hO : isO o ci) (ha : ([a1, a2, a3, a4, a5] : List Value).all notL = true) (hw : (S.map fun v => v.category).sum ≤ 8) (hn : 5 + 1 ≤ mj.2.2.1) (k : G l d mj (fun v I J R => G l (d + 1) mi K nx L S I J R) 0 (.ref o :: a1 :: a2 :: a3 :: a4 :: a5 :: List.replicate (mj.2.2.1 - 6) UU) [] I J R) : G l (d + 1) mi K pc L (a5 :: a4 :: a3 :: a2 :: a1 :: .ref o :: S) I J R := G_callVv (As := [a1, a2, a3, a4, a5]) hd ho hv hO ha hw hn k
theorem G_cs6 {idx : Nat} {mj : MI} {a1 a2 a3 a4 a5 a6 : Value} (hd : D mi.2.1 pc (.invokestatic idx) 3 nx) (ho : okS mi.1.cls idx mj 6) (hv : mj.2.2.2.isNone = false) (ha : ([a1, a2, a3, a4, a5, a6] : List Value).all notL = true) (hw : (S.map fun v => v.category).sum ≤ 8) (hn : 6 ≤ mj.2.2.1) (k : G l d mj (fun v I J R => G l (d + 1) mi K nx L (v :: S) I J R) 0 (a1 :: a2 :: a3 :: a4 :: a5 :: a6 :: List.replicate (mj.2.2.1 - 6) UU) [] I J R) : G l (d + 1) mi K pc L (a6 :: a5 :: a4 :: a3 :: a2 :: a1 :: S) I J R := G_callS (As := [a1, a2, a3, a4, a5, a6]) hd ho hv ha hw hn k
theorem G_cv6 {idx o ci : Nat} {mj : MI} {a1 a2 a3 a4 a5 a6 : Value} (hd : D mi.2.1 pc (.invokevirtual idx) 3 nx) (ho : okV mi.1.cls idx mj ci 6) (hv : mj.2.2.2.isNone = false) (hO : isO o ci) (ha : ([a1, a2, a3, a4, a5, a6] : List Value).all notL = true) (hw : (S.map fun v => v.category).sum ≤ 8) (hn : 6 + 1 ≤ mj.2.2.1) (k : G l d mj (fun v I J R => G l (d + 1) mi K nx L (v :: S) I J R) 0 (.ref o :: a1 :: a2 :: a3 :: a4 :: a5 :: a6 :: List.replicate (mj.2.2.1 - 7) UU) [] I J R) : G l (d + 1) mi K pc L (a6 :: a5 :: a4 :: a3 :: a2 :: a1 :: .ref o :: S) I J R := G_callV (As := [a1, a2, a3, a4, a5, a6]) hd ho hv hO ha hw hn k
theorem G_csv6 {idx : Nat} {mj : MI} {a1 a2 a3 a4 a5 a6 : Value} (hd : D mi.2.1 pc (.invokestatic idx) 3 nx) (ho : okS mi.1.cls idx mj 6) (hv : mj.2.2.2.isNone = true) (ha : ([a1, a2, a3, a4, a5, a6] : List Value).all notL = true) (hw : (S.map fun v => v.category).sum ≤ 8) (hn : 6 ≤ mj.2.2.1) (k : G l d mj (fun v I J R => G l (d + 1) mi K nx L S I J R) 0 (a1 :: a2 :: a3 :: a4 :: a5 :: a6 :: List.replicate (mj.2.2.1 - 6) UU) [] I J R) : G l (d + 1) mi K pc L (a6 :: a5 :: a4 :: a3 :: a2 :: a1 :: S) I J R := G_callSv (As := [a1, a2, a3, a4, a5, a6]) hd ho hv ha hw hn k
theorem G_cvv6 {idx o ci : Nat} {mj : MI} {a1 a2 a3 a4 a5 a6 : Value} (hd : D mi.2.1 pc (.invokevirtual idx) 3 nx) (ho : okV mi.1.cls idx mj ci 6) (hv : mj.2.2.2.isNone = true) (hO : isO o ci) (ha : ([a1, a2, a3, a4, a5, a6] : List Value).all notL = true) (hw : (S.map fun v => v.category).sum ≤ 8) (hn : 6 + 1 ≤ mj.2.2.1) (k : G l d mj (fun v I J R => G l (d + 1) mi K nx L S I J R) 0 (.ref o :: a1 :: a2 :: a3 :: a4 :: a5 :: a6 :: List.replicate (mj.2.2.1 - 7) UU) [] I J R) : G l (d + 1) mi K pc L (a6 :: a5 :: a4 :: a3 :: a2 :: a1 :: .ref o :: S) I J R := G_callVv (As := [a1, a2, a3, a4, a5, a6]) hd ho hv hO ha hw hn k
end ROWS
