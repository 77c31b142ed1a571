
/-! four rows of sixty ints, made by one instruction -/
def mIn (cp : ClassId) : Cell := { cls := cp, slots := Array.replicate 60 (.int 0), vm := .none }
def mO0 (cA : ClassId) : Cell := { cls := cA, slots := Array.replicate 4 .null, vm := .none }
def nS (U : State) (cp : ClassId) (h : Nat) (oc : Cell) (i : Nat) : State := (U.pushCell (mIn cp)).setCell h (oc.setSlot i (.ref U.heap.size))
theorem nS_facts {U : State} {cp : ClassId} {h : Nat} {oc : Cell} (i : Nat) (hc : U.heap[h]? = some oc) :
    (nS U cp h oc i).heap.size = U.heap.size + 1 ∧ (nS U cp h oc i).heap[h]? = some (oc.setSlot i (.ref U.heap.size)) ∧ (nS U cp h oc i).heap[U.heap.size]? = some (mIn cp) ∧ (∀ a, ¬ a = h → a < U.heap.size → (nS U cp h oc i).heap[a]? = U.heap[a]?) ∧ (nS U cp h oc i).vm = U.vm ∧ (nS U cp h oc i).slotsUsed = U.slotsUsed + 60 := by
  have hlt : h < U.heap.size := (Array.getElem?_eq_some_iff.mp hc).1
  have hc' : (U.pushCell (mIn cp)).heap[h]? = some oc := by rw [State.heap_pushCell_of_lt _ _ hlt]; exact hc
  refine ⟨?_, State.heap_setCell_self hc', ?_, fun a h1 h2 => ?_, rfl, ?_⟩
  · simp [nS, State.setCell, State.pushCell]
  · unfold nS
    rw [State.heap_setCell_other (show h ≠ U.heap.size by omega)]
    exact State.heap_pushCell_size _ _
  · unfold nS
    rw [State.heap_setCell_other (fun q => h1 q.symm), State.heap_pushCell_of_lt _ _ h2]
  · show U.slotsUsed + (mIn cp).slots.size = _
    simp [mIn]
theorem sl_facts (oc : Cell) (i : Nat) (v : Value) : (oc.setSlot i v).cls = oc.cls ∧ (oc.setSlot i v).vm = oc.vm ∧ (oc.setSlot i v).slots.size = oc.slots.size := ⟨rfl, rfl, by simp [Cell.setSlot]⟩
section MW
variable {E : CtlPost} {e : Env} {d : Bool} {acts : List Action} {U : State}
theorem wp_in60 {cp cc : ClassId} {kc : Class} (hk : U.vm.classes[cp]? = some kc) (hkd : kc.kind = .array cc .int) (hl : ¬ 60 > e.platform.arrayLengthLimit) (hh : ¬ 60 * 4 > e.platform.maxHeapBytes) (h1 : U.heap.size < e.platform.maxCells) (h2 : U.slotsUsed + 60 ≤ e.platform.maxSlots) {Q : Addr → Pre} (hq : ∀ acts', Q U.heap.size d acts' (U.pushCell (mIn cp))) : wp (Op.multianewarray.make cp [60]) Q E e d acts U := by
  rw [Op.multianewarray.make]
  simp only [wp_bind', W.ite, show ¬ (60 : Int32) < 0 by decide, if_false, wp_pure', W.theClass, hk, hkd, Option.some.injEq, exists_eq_left']
  exact W.newArray_of hk hkd hl hh h1 h2 rfl hq
theorem wp_make46 {cA cp cc : ClassId} {kA kc : Class} (hkA : U.vm.classes[cA]? = some kA) (hkdA : kA.kind = .array cp (.array .int)) (hk : U.vm.classes[cp]? = some kc) (hkd : kc.kind = .array cc .int) (hl : ¬ 60 > e.platform.arrayLengthLimit) (hh : ¬ 60 * 4 > e.platform.maxHeapBytes) (h1 : U.heap.size + 5 ≤ e.platform.maxCells) (h2 : U.slotsUsed + 244 ≤ e.platform.maxSlots) {S0 S1 S2 S3 S4 : State} {h : Nat} {o0 o1 o2 o3 : Cell} (eh : h = U.heap.size) (e0 : S0 = U.pushCell o0) (eo0 : o0 = mO0 cA) (eo1 : o1 = o0.setSlot 0 (.ref S0.heap.size)) (e1 : S1 = nS S0 cp h o0 0) (eo2 : o2 = o1.setSlot 1 (.ref S1.heap.size)) (e2 : S2 = nS S1 cp h o1 1) (eo3 : o3 = o2.setSlot 2 (.ref S2.heap.size)) (e3 : S3 = nS S2 cp h o2 2) (e4 : S4 = nS S3 cp h o3 3) {Q : Addr → Pre} (hq : ∀ d' acts', Q h d' acts' S4) : wp (Op.multianewarray.make cA [4, 60]) Q E e d acts U := by
  have z0 : S0.heap.size = U.heap.size + 1 := by rw [e0]; exact State.heap_size_pushCell _ _
  have g0 : S0.heap[h]? = some o0 := by rw [e0, eh]; exact State.heap_pushCell_size _ _
  have v0 : S0.vm = U.vm := by rw [e0]; rfl
  have u0 : S0.slotsUsed = U.slotsUsed + 4 := by rw [e0, eo0]; simp [mO0]
  obtain ⟨z1, g1, -, -, v1, u1⟩ := nS_facts (cp := cp) 0 g0
  rw [← e1, ← eo1] at g1
  rw [← e1] at z1 v1 u1
  obtain ⟨z2, g2, -, -, v2, u2⟩ := nS_facts (cp := cp) 1 g1
  rw [← e2, ← eo2] at g2
  rw [← e2] at z2 v2 u2
  obtain ⟨z3, g3, -, -, v3, u3⟩ := nS_facts (cp := cp) 2 g2
  rw [← e3, ← eo3] at g3
  rw [← e3] at z3 v3 u3
  have c0 : o0.cls = cA ∧ o0.vm = .none ∧ o0.slots.size = 4 := by rw [eo0]; exact ⟨rfl, rfl, by simp [mO0]⟩
  have c1 : o1.cls = cA ∧ o1.vm = .none ∧ o1.slots.size = 4 := by rw [eo1]; have q := sl_facts o0 0 (.ref S0.heap.size); exact ⟨q.1.trans c0.1, q.2.1.trans c0.2.1, q.2.2.trans c0.2.2⟩
  have c2 : o2.cls = cA ∧ o2.vm = .none ∧ o2.slots.size = 4 := by rw [eo2]; have q := sl_facts o1 1 (.ref S1.heap.size); exact ⟨q.1.trans c1.1, q.2.1.trans c1.2.1, q.2.2.trans c1.2.2⟩
  have c3 : o3.cls = cA ∧ o3.vm = .none ∧ o3.slots.size = 4 := by rw [eo3]; have q := sl_facts o2 2 (.ref S2.heap.size); exact ⟨q.1.trans c2.1, q.2.1.trans c2.2.1, q.2.2.trans c2.2.2⟩
  have one : ∀ (V : State) (oc : Cell) (i : Nat) (d' : Bool) (acts' : List Action) (Q' : ForInStep PUnit → Pre), V.heap[h]? = some oc → oc.cls = cA ∧ oc.vm = .none ∧ oc.slots.size = 4 → V.vm = U.vm → i < 4 → V.heap.size < e.platform.maxCells → V.slotsUsed + 60 ≤ e.platform.maxSlots → (∀ d'' acts'', Q' (ForInStep.yield PUnit.unit) d'' acts'' (nS V cp h oc i)) → wp (do let a ← Op.multianewarray.make cp [60]; Jvm.writeLoc h i (.ref a); Pure.pure (ForInStep.yield PUnit.unit)) Q' E e d' acts' V := by
    intro V oc i d' acts' Q' gV cV vV hi b1 b2 hq'
    have hltV : h < V.heap.size := (Array.getElem?_eq_some_iff.mp gV).1
    rw [wp_bind']
    refine wp_in60 (by rw [vV]; exact hk) hkd hl hh b1 b2 (fun acts'' => ?_)
    rw [wp_bind', W.writeLoc]
    refine ⟨oc, by rw [State.heap_pushCell_of_lt _ _ hltV]; exact gV, by rw [cV.2.1]; simp, by rw [cV.2.2]; exact hi, ?_, hq' _ _⟩
    rw [cV.1, cV.2.1]
    have hvv : (V.pushCell (mIn cp)).vm.classes[cA]? = some kA := by
      show V.vm.classes[cA]? = some kA
      rw [vV]; exact hkA
    simp only [State.fitsSlot, State.slotType?, hvv, Option.bind_eq_bind, Option.bind_some, hkdA]
    rfl
  rw [Op.multianewarray.make]
  simp only [wp_bind', W.ite, show ¬ (4 : Int32) < 0 by decide, if_false, wp_pure', W.theClass, hkA, hkdA, Option.some.injEq, exists_eq_left']
  refine W.newArray_of hkA hkdA (by show ¬ 4 > _; omega) (by show ¬ 4 * 4 > _; omega) (by omega) (by show U.slotsUsed + 4 ≤ _; omega) rfl (fun acts' => ?_)
  have hS0 : U.pushCell { cls := cA, slots := Array.replicate (4 : Int32).toNatClampNeg .null } = S0 := by rw [e0, eo0]; rfl
  rw [hS0, ← eh]
  simp only [show ((4 : Int32) == 0) = false by decide, Bool.false_eq_true, if_false, wp_pure', wp_bind']
  rw [Std.Legacy.Range.forIn_eq_forIn_range']
  rw [show List.range' ([:(4 : Int32).toNatClampNeg] : Std.Legacy.Range).start ([:(4 : Int32).toNatClampNeg] : Std.Legacy.Range).size ([:(4 : Int32).toNatClampNeg] : Std.Legacy.Range).step = [0, 1, 2, 3] by decide]
  rw [List.forIn_cons, wp_bind']
  refine one S0 o0 0 _ _ _ g0 c0 v0 (by decide) (by omega) (by omega) (fun d1 a1 => ?_)
  rw [← e1]
  show wp (forIn [1, 2, 3] PUnit.unit _) _ E e d1 a1 S1
  rw [List.forIn_cons, wp_bind']
  refine one S1 o1 1 _ _ _ g1 c1 (v1.trans v0) (by decide) (by omega) (by omega) (fun d2 a2 => ?_)
  rw [← e2]
  show wp (forIn [2, 3] PUnit.unit _) _ E e d2 a2 S2
  rw [List.forIn_cons, wp_bind']
  refine one S2 o2 2 _ _ _ g2 c2 (v2.trans (v1.trans v0)) (by decide) (by omega) (by omega) (fun d3 a3 => ?_)
  rw [← e3]
  show wp (forIn [3] PUnit.unit _) _ E e d3 a3 S3
  rw [List.forIn_cons, wp_bind']
  refine one S3 o3 3 _ _ _ g3 c3 (v3.trans (v2.trans (v1.trans v0))) (by decide) (by omega) (by omega) (fun d4 a4 => ?_)
  rw [← e4]
  show wp (forIn [] PUnit.unit _) _ E e d4 a4 S4
  simp only [List.forIn_nil, wp_pure']
  exact hq _ _
end MW

