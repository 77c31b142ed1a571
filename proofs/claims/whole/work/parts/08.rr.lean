section RR
variable {E : CtlPost} {e : Env} {d : Bool} {acts : List Action}
/-- the classes of int[][] and of its rows, as the tables hold them -/
def rr_V (vm : Vm) (cA cp : ClassId) : Prop :=
  vm.findClass "[[I" = some cA ∧ vm.findClass "[I" = some cp ∧ (∃ k, vm.classes[cA]? = some k ∧ k.kind = .array cp (.array .int)) ∧ ∃ k cc, vm.classes[cp]? = some k ∧ k.kind = .array cc .int
theorem rr_V.move {v w : Vm} {cA cp : ClassId} (h : v.Alike w) (x : rr_V v cA cp) : rr_V w cA cp := by
  obtain ⟨x1, x2, ⟨k, x3, x4⟩, k2, cc, x5, x6⟩ := x
  obtain ⟨j, j1, j2⟩ := h.2.2 _ _ x3
  obtain ⟨j', j3, j4⟩ := h.2.2 _ _ x5
  exact ⟨(h.findClass _ _).trans x1, (h.findClass _ _).trans x2, ⟨j, j1, by rw [j2]; exact x4⟩, j', cc, j3, by rw [j4]; exact x6⟩
theorem rr_V.ex {v w : Vm} (h : v.Alike w) (x : ∃ cA cp, rr_V v cA cp) : ∃ cA cp, rr_V w cA cp := by
  obtain ⟨cA, cp, x⟩ := x
  exact ⟨cA, cp, x.move h⟩
theorem rr_V.of {s : State} {args : Array Value} (h1 : (Cond.arrayOver (.array .int)).before args s = true) (h2 : (Cond.arrayClass .int).before args s = true) : ∃ cA cp, rr_V s.vm cA cp := by
  obtain ⟨cp, cA, k, a1, -, a3, a4, a5⟩ := arrayOverA_spec h1
  obtain ⟨cp', k', cc, b1, b2, b3⟩ := Cond.arrayClass_spec h2
  have e1 : (FieldType.array .int).toString = "[I" := by decide
  have e2 : ("[" ++ (FieldType.array .int).toString) = "[[I" := by decide
  have e3 : ("[" ++ (FieldType.int).toString) = "[I" := by decide
  rw [e1] at a1
  rw [e2] at a5
  rw [e3] at b1
  cases a1.symm.trans b1
  exact ⟨cA, cp, a5, a1, ⟨k, a3, a4⟩, k', cc, b2, b3⟩
/-- one row: a new array of b ints -/
theorem rr_row {u : State} {cp cc : ClassId} {k : Class} {b : Int32} {Q : Addr → Pre} (hk : u.vm.classes[cp]? = some k) (hkind : k.kind = .array cc .int) (hb : ¬ b < 0) (hl : ¬ b.toNatClampNeg > e.platform.arrayLengthLimit) (hh : ¬ b.toNatClampNeg * componentBytes .int > e.platform.maxHeapBytes)
    (hc : u.heap.size < e.platform.maxCells) (hs : u.slotsUsed + b.toNatClampNeg ≤ e.platform.maxSlots) (hq : ∀ acts', Q u.heap.size d acts' (u.pushCell { cls := cp, slots := Array.replicate b.toNatClampNeg (.int 0) })) : wp (multianewarray.make cp [b]) Q E e d acts u := by
  rw [multianewarray.make]
  simp only [wp_bind', W.ite, if_neg hb, wp_pure', W.theClass, hk, Option.some.injEq, exists_eq_left', hkind]
  exact W.newArray_of hk hkind hl hh hc hs rfl hq

variable {p : Program} {l : Launch} {R : Room} {s : State} {m : MethodId} {args : Array Value} {below : List Frame} {meth : Method} {c : Code} {locs : List Loc} {cells slots : Nat}
/-- j rows are made and hung up: h is the outer array's place, n its length, b the rows' -/
def rr_I (p : Program) (l : Launch) (e : Env) (R : Room) (s : State) (m : MethodId) (args : Array Value) (below : List Frame) (meth : Method) (c : Code) (locs : List Loc) (cells slots : Nat) (vm : Vm) (f : JFrame) (H : Heap) (n b : Nat) (cA cp : ClassId) (j : Nat) (U : State) : Prop :=
  ∃ (B : State) (L : List Loc), U = B.setTop f ∧ Stand p l e R s m args below meth c B (locs ++ L) (cells + 1 + j) (slots + n + j * b) ∧ (∀ q ∈ L, q.base = H.size) ∧ B.vm = vm ∧ B.heap.size = H.size + 1 + j ∧
    B.heap[H.size]? = some (arrV cA n (fun i => if i < j then .ref (H.size + 1 + i) else .null)) ∧ (∀ i, i < j → B.heap[H.size + 1 + i]? = some (arrV cp b (fun _ => .int 0))) ∧ ∀ q, q < H.size → B.heap[q]? = H[q]?
/-- one turn of the loop -/
theorem rr_turn {vm : Vm} {f : JFrame} {H : Heap} {n j : Nat} {b : Int32} {cA cp : ClassId} {U : State} {Q : ForInStep PUnit → Pre} (hV : rr_V vm cA cp) (hI : rr_I p l e R s m args below meth c locs cells slots vm f H n b.toNatClampNeg cA cp j U) (hj : j < n) (hb : ¬ b < 0)
    (hl : ¬ b.toNatClampNeg > e.platform.arrayLengthLimit) (hh : ¬ b.toNatClampNeg * componentBytes .int > e.platform.maxHeapBytes) (hc : cells + 1 + n ≤ R.cells) (hs : slots + n + n * b.toNatClampNeg ≤ R.slots)
    (hq : ∀ U' d' acts', rr_I p l e R s m args below meth c locs cells slots vm f H n b.toNatClampNeg cA cp (j + 1) U' → Q (ForInStep.yield PUnit.unit) d' acts' U') :
    wp (do let x ← multianewarray.make cp [b]; Jvm.writeLoc H.size j (.ref x); Pure.pure (ForInStep.yield PUnit.unit)) Q E e d acts U := by
  obtain ⟨B, L, rfl, X, hL, hvm, hz, ho, hin, hold⟩ := hI
  obtain ⟨-, -, ⟨kA, v3, v4⟩, kp, cc, v5, v6⟩ := hV
  have hsl : slots + n + j * b.toNatClampNeg + b.toNatClampNeg ≤ R.slots := by
    have h1 : (j + 1) * b.toNatClampNeg ≤ n * b.toNatClampNeg := Nat.mul_le_mul_right _ hj
    rw [Nat.add_mul, Nat.one_mul] at h1
    omega
  obtain ⟨r1, r2⟩ := X.roomAbove (a := 1) (b := b.toNatClampNeg) (by omega) hsl
  rw [wp_bind']
  refine rr_row (k := kp) (cc := cc) (by rw [State.vm_setTop, hvm]; exact v5) v6 hb hl hh (by rw [State.heap_setTop]; omega) (by rw [State.slotsUsed_setTop]; exact r2) (fun acts' => ?_)
  simp only [wp_bind', W.writeLoc, wp_pure', State.heap_setTop, State.pushCell_setTop, State.fitsSlot_setTop, State.setCell_setTop]
  have hlow : ∀ q, q < B.heap.size → (B.pushCell { cls := cp, slots := Array.replicate b.toNatClampNeg (.int 0) }).heap[q]? = B.heap[q]? := fun q h => State.heap_pushCell_of_lt _ _ h
  have hcell : (B.pushCell { cls := cp, slots := Array.replicate b.toNatClampNeg (.int 0) }).heap[H.size]? = some (arrV cA n (fun i => if i < j then .ref (H.size + 1 + i) else .null)) := (hlow _ (by omega)).trans ho
  have X1 := (X.pushed { cls := cp, slots := Array.replicate b.toNatClampNeg (.int 0) }).stored hcell j (.ref B.heap.size)
  refine ⟨_, hcell, (by intro h; cases h), by rw [arrV_size]; exact hj, ?_, ?_⟩
  · simp [State.fitsSlot, State.slotType?, hvm, v3, v4, arrV, fits]
  · refine hq _ _ _ ⟨_, L ++ [⟨H.size, j⟩], rfl, ?_, ?_, hvm, ?_, ?_, ?_, ?_⟩
    · have e1 : cells + 1 + j + 1 = cells + 1 + (j + 1) := by omega
      have e2 : slots + n + j * b.toNatClampNeg + (Array.replicate b.toNatClampNeg (Value.int 0)).size = slots + n + (j + 1) * b.toNatClampNeg := by
        rw [Array.size_replicate, Nat.add_mul, Nat.one_mul]; omega
      rw [← List.append_assoc, ← e1, ← e2]
      exact X1
    · intro q hq
      rcases List.mem_append.mp hq with h | h
      · exact hL q h
      · cases List.mem_singleton.mp h; rfl
    · simp [State.setCell, State.pushCell]; omega
    · rw [State.heap_setCell_self hcell, arrV_store]
      refine congrArg some (congrArg (arrV cA n) (funext fun i => ?_))
      unfold updV
      by_cases h1 : i = j
      · subst h1; rw [if_pos rfl, if_pos (by omega), hz]
      · rw [if_neg h1]
        show (if i < j then Value.ref (H.size + 1 + i) else Value.null) = _
        by_cases h2 : i < j
        · rw [if_pos h2, if_pos (by omega)]
        · rw [if_neg h2, if_neg (by omega)]
    · intro i hi
      refine (State.heap_setCell_other (Nat.ne_of_lt (by omega))).trans ?_
      by_cases h1 : i = j
      · subst h1
        have h2 := State.heap_pushCell_size B ({ cls := cp, slots := Array.replicate b.toNatClampNeg (.int 0) } : Cell)
        rw [hz] at h2
        rw [h2, arrV_new]
      · exact (hlow _ (by omega)).trans (hin i (by omega))
    · intro q hq
      refine (State.heap_setCell_other (Nat.ne_of_gt hq)).trans ?_
      exact (hlow _ (by omega)).trans (hold q hq)
/-- the loop -/
theorem rr_loop {vm : Vm} {f : JFrame} {H : Heap} {n : Nat} {b : Int32} {cA cp : ClassId} {U : State} {Q : PUnit → Pre} (hV : rr_V vm cA cp) (hI : rr_I p l e R s m args below meth c locs cells slots vm f H n b.toNatClampNeg cA cp 0 U) (hb : ¬ b < 0)
    (hl : ¬ b.toNatClampNeg > e.platform.arrayLengthLimit) (hh : ¬ b.toNatClampNeg * componentBytes .int > e.platform.maxHeapBytes) (hc : cells + 1 + n ≤ R.cells) (hs : slots + n + n * b.toNatClampNeg ≤ R.slots)
    (hq : ∀ U' d' acts', rr_I p l e R s m args below meth c locs cells slots vm f H n b.toNatClampNeg cA cp n U' → Q PUnit.unit d' acts' U') :
    wp (forIn [0:n] PUnit.unit (fun i _ => do let x ← multianewarray.make cp [b]; Jvm.writeLoc H.size i (.ref x); Pure.pure (ForInStep.yield PUnit.unit))) Q E e d acts U := by
  rw [Std.Legacy.Range.forIn_eq_forIn_range']
  have hz : (List.range' ([0:n] : Std.Legacy.Range).start ([0:n] : Std.Legacy.Range).size ([0:n] : Std.Legacy.Range).step) = List.range' 0 (n - 0) := by simp [Std.Legacy.Range.size]
  rw [hz]
  refine wp_forIn_inv (fun rest U' => ∃ j, j ≤ n ∧ rest = List.range' j (n - j) ∧ rr_I p l e R s m args below meth c locs cells slots vm f H n b.toNatClampNeg cA cp j U') _ _ ⟨0, Nat.zero_le _, rfl, hI⟩ ?_ ?_
  · rintro x rest U' d' acts' Q' ⟨j, hj, hr, h⟩ hk
    obtain ⟨rfl, h1, h2⟩ := List.range'_eq_cons_iff.mp hr.symm
    exact rr_turn hV h (by omega) hb hl hh hc hs (fun U'' d'' acts'' h' => hk U'' d'' acts'' ⟨j + 1, by omega, by rw [h2, Nat.sub_sub], h'⟩)
  · rintro U' d' acts' ⟨j, hj, hr, h⟩
    have h1 : n - j = 0 := by
      have := congrArg List.length hr
      simpa using this.symm
    have h2 : j = n := by omega
    subst h2
    exact hq U' d' acts' h
/-- an array of a rows of b ints each -/
theorem rr_make {vm : Vm} {f : JFrame} {T : State} {a b : Int32} {cA cp : ClassId} {Q : Addr → Pre} (X : Stand p l e R s m args below meth c T locs cells slots) (hvm : T.vm = vm) (hV : rr_V vm cA cp) (ha : ¬ a < 0) (h0 : (a == 0) = false) (hb : ¬ b < 0)
    (hla : ¬ a.toNatClampNeg > e.platform.arrayLengthLimit) (hha : ¬ a.toNatClampNeg * componentBytes (.array .int) > e.platform.maxHeapBytes) (hl : ¬ b.toNatClampNeg > e.platform.arrayLengthLimit) (hh : ¬ b.toNatClampNeg * componentBytes .int > e.platform.maxHeapBytes)
    (hc : cells + 1 + a.toNatClampNeg ≤ R.cells) (hs : slots + a.toNatClampNeg + a.toNatClampNeg * b.toNatClampNeg ≤ R.slots)
    (hq : ∀ U' d' acts', rr_I p l e R s m args below meth c locs cells slots vm f T.heap a.toNatClampNeg b.toNatClampNeg cA cp a.toNatClampNeg U' → Q T.heap.size d' acts' U') : wp (multianewarray.make cA [a, b]) Q E e d acts (T.setTop f) := by
  obtain ⟨-, -, ⟨kA, v3, v4⟩, -⟩ := id hV
  obtain ⟨r1, r2⟩ := X.roomAbove (a := 1) (b := a.toNatClampNeg) (by omega) (by omega)
  rw [multianewarray.make]
  simp only [wp_bind', W.ite, if_neg ha, wp_pure', W.theClass, State.vm_setTop, hvm, v3, Option.some.injEq, exists_eq_left', v4]
  refine W.newArray_of (k := kA) (comp := cp) (type := .array .int) (by rw [State.vm_setTop, hvm]; exact v3) v4 hla hha (by rw [State.heap_setTop]; omega) (by rw [State.slotsUsed_setTop]; exact r2) rfl (fun acts' => ?_)
  rw [if_neg (by rw [h0]; decide), wp_bind']
  have hI : rr_I p l e R s m args below meth c locs cells slots vm f T.heap a.toNatClampNeg b.toNatClampNeg cA cp 0 ((T.setTop f).pushCell { cls := cA, slots := Array.replicate a.toNatClampNeg .null }) := by
    refine ⟨T.pushCell { cls := cA, slots := Array.replicate a.toNatClampNeg .null }, [], rfl, ?_, (fun q hq => by cases hq), hvm, ?_, ?_, (fun i hi => absurd hi (Nat.not_lt_zero _)), fun q hq => State.heap_pushCell_of_lt _ _ hq⟩
    · have X1 := X.pushed { cls := cA, slots := Array.replicate a.toNatClampNeg .null }
      rw [List.append_nil, Nat.add_zero, Nat.zero_mul, Nat.add_zero]
      simpa using X1
    · simp [State.pushCell]
    · have h2 := State.heap_pushCell_size T ({ cls := cA, slots := Array.replicate a.toNatClampNeg .null } : Cell)
      rw [h2, arrV_new]
      rfl
  refine rr_loop hV hI hb hl hh hc hs (fun U' d' acts' h => ?_)
  rw [wp_pure']
  exact hq U' d' acts' h
/-- the instruction's body, two lengths on the stack -/
theorem rr_sem {vm : Vm} {g : JFrame} {T : State} {a b : Int32} {cA cp : ClassId} {index : Nat} {rest : List Value} {Q : Unit → Pre} (X : Stand p l e R s m args below meth c T locs cells slots) (hg : g.method = m) (hW : s.WarmedH vm)
    (hgv : (Jvm.resolveClass g.method.cls index).Gives e.toSetting T.vm (.ok cA) vm) (hrd : vm.classReady g.method.cls index cA) (hV : rr_V vm cA cp) (hstack : g.stack = .int b :: .int a :: rest) (ha : ¬ a < 0) (h0 : (a == 0) = false) (hb : ¬ b < 0)
    (hla : ¬ a.toNatClampNeg > e.platform.arrayLengthLimit) (hha : ¬ a.toNatClampNeg * componentBytes (.array .int) > e.platform.maxHeapBytes) (hl : ¬ b.toNatClampNeg > e.platform.arrayLengthLimit) (hh : ¬ b.toNatClampNeg * componentBytes .int > e.platform.maxHeapBytes)
    (hc : cells + 1 + a.toNatClampNeg ≤ R.cells) (hs : slots + a.toNatClampNeg + a.toNatClampNeg * b.toNatClampNeg ≤ R.slots)
    (hq : ∀ (B : State) (L : List Loc) (d' : Bool) (acts' : List Action), Stand p l e R s m args below meth c B (locs ++ L) (cells + 1 + a.toNatClampNeg) (slots + a.toNatClampNeg + a.toNatClampNeg * b.toNatClampNeg) → (∀ q ∈ L, q.base = T.heap.size) → B.heap.size = T.heap.size + 1 + a.toNatClampNeg →
      B.heap[T.heap.size]? = some (arrV cA a.toNatClampNeg (fun i => if i < a.toNatClampNeg then .ref (T.heap.size + 1 + i) else .null)) → (∀ i, i < a.toNatClampNeg → B.heap[T.heap.size + 1 + i]? = some (arrV cp b.toNatClampNeg (fun _ => .int 0))) → (∀ q, q < T.heap.size → B.heap[q]? = T.heap[q]?) →
      Q () d' acts' (B.setTop { g with stack := .ref T.heap.size :: rest })) : wp (multianewarray.sem index 2) Q E e d acts (T.setTop g) := by
  have htop := X.here.top
  simp only [multianewarray.sem, wp_bind']
  rw [W.resolveClassAt_transfer (s := T.setTop g) (State.method?_setTop g htop) hgv hrd, W.resolveClassAt_ready (s := (T.setTop g).setVm vm) (State.method?_setTop (s := T.setVm vm) g htop) hrd]
  rw [wp_bind']
  show wp (Jvm.popN [Value.int a, Value.int b].length) _ E e d acts ((T.setVm vm).setTop g)
  rw [popN_top (s := T.setVm vm) (f := g) (args := [.int a, .int b]) (rest := rest) htop hstack]
  simp only [List.mapM_cons, List.mapM_nil, wp_bind', wp_pure']
  refine rr_make (X.noted hW) rfl hV ha h0 hb hla hha hl hh hc hs ?_
  rintro U d' acts' ⟨B, L, rfl, XB, hL, -, hz, ho, hin, hold⟩
  simp only [wp_bind', W.mark, W.pushRef, State.topJava?_setTop' _ XB.here.top, Option.some.injEq, exists_eq_left', State.setTop_setTop]
  exact hq B L _ _ XB hL hz ho hin hold
end RR
section RW
variable {p : Program} {l : Launch} {e : Env} {R : Room} {s : State} {m : MethodId} {args : Array Value} {below : List Frame} {meth : Method} {c : Code} {H : Heap} {locs : List Loc} {cells slots : Nat} {Q : State → Prop}
/-- an instruction whose body is known by what holds behind it alone -/
theorem rr_step {T : State} {g : JFrame} {i : Instr} {len : Nat} {cc : ByteArray} {P : State → Prop} (hexec : p.tables.exec = Jvm.exec) (hb : c.code = cc) (h : At T m c below) (hg : g.method = m) (hdg : decode cc g.pc = .ok (i, len))
    (hw : wpRun (Jvm.exec i) (fun _ u _ => P u) (fun _ _ _ => False) e (T.setTop g)) : ∃ u, P u ∧ ∀ t, (∀ acts, Steps p.tables e below (afterInstr e len (.ok () u acts)).1 t) → Steps p.tables e below (T.setTop g) t := by
  subst hg
  subst hb
  have hr := (wpRun_iff_run _ _ _ _ _).mp hw
  cases hx : (Jvm.exec i).run e (T.setTop g) with
  | ok x u acts =>
    rw [hx] at hr
    refine ⟨u, hr, fun t k => Steps.instr h ?_⟩
    rw [hdg]
    show wpRun (p.tables.exec i) _ _ e (T.setTop g)
    rw [hexec]
    refine (wpRun_iff_run _ _ _ _ _).mpr ?_
    rw [hx]
    exact fun acts => k acts
  | ctl x u acts =>
    rw [hx] at hr
    cases x <;> exact hr.elim
/-- multianewarray of two lengths, int rows -/
theorem rr_mna {cc : ByteArray} (hexec : p.tables.exec = Jvm.exec) (hcc : c.code = cc) {own : String} {index : Nat} (hown : s.vm.findClass own = some m.cls) (hlink : (Cond.classLink own index "[[I").before args s = true) {cA cp : ClassId} (hV : rr_V s.vm cA cp)
    {g : JFrame} (hg : g.method = m) (hdg : decode cc g.pc = .ok (.multianewarray index 2, 4)) {a b : Int32} {rest : List Value} (hstack : g.stack = .int b :: .int a :: rest) (ha : ¬ a < 0) (h0 : (a == 0) = false) (hb : ¬ b < 0) (hba : a.toNatClampNeg * 4 ≤ 536870912) (hbb : b.toNatClampNeg * 4 ≤ 536870912)
    (hc : cells + 1 + a.toNatClampNeg ≤ R.cells) (hs : slots + a.toNatClampNeg + a.toNatClampNeg * b.toNatClampNeg ≤ R.slots)
    (kk : ∀ (H' : Heap) (L : List Loc), (∀ q ∈ L, q.base = H.size) → H'.size = H.size + 1 + a.toNatClampNeg → H'[H.size]? = some (arrV cA a.toNatClampNeg (fun i => if i < a.toNatClampNeg then .ref (H.size + 1 + i) else .null)) →
      (∀ i, i < a.toNatClampNeg → H'[H.size + 1 + i]? = some (arrV cp b.toNatClampNeg (fun _ => .int 0))) → (∀ q, q < H.size → H'[q]? = H[q]?) →
      W p l e R s m args below meth c H' (locs ++ L) (cells + 1 + a.toNatClampNeg) (slots + a.toNatClampNeg + a.toNatClampNeg * b.toNatClampNeg) Q { g with pc := g.pc + 4, stack := .ref H.size :: rest }) : W p l e R s m args below meth c H locs cells slots Q g := by
  intro T hT X
  subst hT
  have hpl : e.platform.magicAccessors = ({} : Platform).magicAccessors := by rw [X.admits.platform]
  obtain ⟨ca, hca, hcl⟩ := Cond.classLink_spec hown hlink e.platform hpl
  cases hca.symm.trans hV.1
  obtain ⟨hgv, hW, hrd⟩ := State.classEntry (e := e) X.warmed hcl
  generalize T.vm.noted m.cls index (.cls cA) = vm at hgv hW hrd
  have hlim : ∀ n : Nat, n * 4 ≤ 536870912 → ¬ n > e.platform.arrayLengthLimit := fun n h => by rw [Launch.admits_arrayLengthLimit X.admits]; omega
  have hheap : ∀ n : Nat, n * 4 ≤ 536870912 → ¬ n * 4 > e.platform.maxHeapBytes := fun n h => by rw [Launch.admits_maxHeapBytes X.admits]; omega
  have hw : wpRun (Jvm.exec (.multianewarray index 2)) (fun _ u _ => ∃ (B : State) (L : List Loc), u = B.setTop { g with stack := .ref T.heap.size :: rest } ∧ Stand p l e R s m args below meth c B (locs ++ L) (cells + 1 + a.toNatClampNeg) (slots + a.toNatClampNeg + a.toNatClampNeg * b.toNatClampNeg) ∧ (∀ q ∈ L, q.base = T.heap.size) ∧ B.heap.size = T.heap.size + 1 + a.toNatClampNeg ∧
      B.heap[T.heap.size]? = some (arrV cA a.toNatClampNeg (fun i => if i < a.toNatClampNeg then .ref (T.heap.size + 1 + i) else .null)) ∧ (∀ i, i < a.toNatClampNeg → B.heap[T.heap.size + 1 + i]? = some (arrV cp b.toNatClampNeg (fun _ => .int 0))) ∧ ∀ q, q < T.heap.size → B.heap[q]? = T.heap[q]?) (fun _ _ _ => False) e (T.setTop g) :=
    rr_sem X hg hW (by rw [hg]; exact hgv) (by rw [hg]; exact hrd) (hV.move hW.alike) hstack ha h0 hb (hlim _ hba) (hheap _ hba) (hlim _ hbb) (hheap _ hbb) hc hs (fun B L _ _ h1 h2 h3 h4 h5 h6 => ⟨B, L, rfl, h1, h2, h3, h4, h5, h6⟩)
  obtain ⟨u, ⟨B, L, rfl, XB, hL, hz, ho, hin, hold⟩, st⟩ := rr_step hexec hcc X.here hg hdg hw
  obtain ⟨t, a1, b1⟩ := kk B.heap L hL hz ho hin hold B rfl XB
  exact ⟨t, st t (fun acts => by rw [afterInstr_ok]; exact a1), b1⟩
end RW
