
def AO (s : State) : Prop := ∃ (cA cp : ClassId) (kA kc : Class) (cc : ClassId), s.vm.findClass "[[I" = some cA ∧ s.vm.findClass "[I" = some cp ∧ s.vm.classes[cA]? = some kA ∧ kA.kind = .array cp (.array .int) ∧ s.vm.classes[cp]? = some kc ∧ kc.kind = .array cc .int
theorem AO.moved {s U : State} (h : s.vm.Alike U.vm) (a : AO s) : AO U := by
  obtain ⟨cA, cp, kA, kc, cc, h1, h2, h3, h4, h5, h6⟩ := a
  obtain ⟨kA1, g1, e1⟩ := h.2.2 _ _ h3
  obtain ⟨kc1, g2, e2⟩ := h.2.2 _ _ h5
  exact ⟨cA, cp, kA1, kc1, cc, (h.findClass _ _).trans h1, (h.findClass _ _).trans h2, g1, by rw [e1]; exact h4, g2, by rw [e2]; exact h6⟩
theorem AO.of {args : Array Value} {s : State} (h1 : (Cond.arrayOver (.array .int)).before args s = true) (h2 : (Cond.arrayClass .int).before args s = true) : AO s := by
  obtain ⟨cp, kc, cc, f1, f2, f3⟩ := Cond.arrayClass_spec h2
  have f1' : s.vm.findClass (FieldType.array FieldType.int).toString = some cp := f1
  simp only [Cond.before, Cond.holds, Cond.value, beq_iff_eq, f1', Option.bind_some, Option.bind_eq_some_iff, Option.map_eq_some_iff] at h1
  obtain ⟨c, hi, k, hk, hb⟩ := h1
  have hp := (Array.findIdx?_eq_some_iff_getElem.mp hi)
  obtain ⟨hlt, hp, -⟩ := hp
  have ek : s.vm.classes[c] = k := (Array.getElem?_eq_some_iff.mp hk).2
  rw [ek] at hp
  cases hkd : k.kind with
  | array co t =>
    rw [hkd] at hb hp
    simp only [beq_iff_eq, Bool.and_eq_true, decide_eq_true_eq] at hb hp
    exact ⟨c, cp, k, kc, cc, hb.2, f1', hk, by rw [hkd, hp, hb.1], f2, f3⟩
  | _ =>
    rw [hkd] at hb
    cases hb
section MS
variable {p : Program} {l : Launch} {e : Env} {R : Room} {s : State} {m : MethodId} {args : Array Value} {below : List Frame} {meth : Method} {c : Code} {T : State} {locs : List Loc} {cells slots : Nat}
def mO4 (cA : ClassId) (h : Nat) : Cell := ((((mO0 cA).setSlot 0 (.ref (h + 1))).setSlot 1 (.ref (h + 2))).setSlot 2 (.ref (h + 3))).setSlot 3 (.ref (h + 4))
theorem multi46 (X : Stand p l e R s m args below meth c T locs cells slots) (hexec : p.tables.exec = Jvm.exec) {own : String} {idx : Nat} (hown : s.vm.findClass own = some m.cls) (hclink : (Cond.classLink own idx "[[I").before args s = true) (hAO : AO s) {g : JFrame} (hg : g.method = m) (hdg : decode c.code g.pc = .ok (.multianewarray idx 2, 4)) {rest : List Value} (hstack : g.stack = .int 60 :: .int 4 :: rest) (hcells : cells + 5 ≤ R.cells) (hslots : slots + 244 ≤ R.slots) :
    ∃ (cA cp : ClassId) (F : State), s.vm.findClass "[[I" = some cA ∧ s.vm.findClass "[I" = some cp ∧ F.heap.size = T.heap.size + 5 ∧ F.heap[T.heap.size]? = some (mO4 cA T.heap.size) ∧ (∀ j, j < 4 → F.heap[T.heap.size + 1 + j]? = some (mIn cp)) ∧ (∀ a, a < T.heap.size → F.heap[a]? = T.heap[a]?) ∧
      Stand p l e R s m args below meth c F locs (cells + 5) (slots + 244) ∧ ∀ target, Steps p.tables e below (F.setTop { g with pc := g.pc + 4, stack := .ref T.heap.size :: rest }) target → Steps p.tables e below (T.setTop g) target := by
  subst hg
  have hpl : e.platform.magicAccessors = ({} : Platform).magicAccessors := by rw [X.admits.platform]
  obtain ⟨cA, cp, kA, kc, cc, n1, n2, k1, k2, k3, k4⟩ := hAO
  obtain ⟨c0, hf0, hcl⟩ := Cond.classLink_spec hown hclink e.platform hpl
  have ec : cA = c0 := Option.some.inj (n1.symm.trans hf0)
  subst ec
  obtain ⟨hg1, hw1, -⟩ := State.classEntry (e := e) X.warmed hcl
  generalize T.vm.noted g.method.cls idx (.cls cA) = vm1 at hg1 hw1
  obtain ⟨kA1, q1, r1⟩ := hw1.alike.2.2 _ _ k1
  obtain ⟨kc1, q2, r2⟩ := hw1.alike.2.2 _ _ k3
  have X1 := X.noted hw1
  obtain ⟨b1, b2⟩ := X.roomAbove hcells hslots
  obtain ⟨h, eh⟩ : ∃ h, h = T.heap.size := ⟨_, rfl⟩
  obtain ⟨S0, e0⟩ : ∃ S, S = (T.setVm vm1).pushCell (mO0 cA) := ⟨_, rfl⟩
  obtain ⟨S1, e1⟩ : ∃ S, S = nS S0 cp h (mO0 cA) 0 := ⟨_, rfl⟩
  obtain ⟨o1, eo1⟩ : ∃ o, o = (mO0 cA).setSlot 0 (.ref S0.heap.size) := ⟨_, rfl⟩
  obtain ⟨S2, e2⟩ : ∃ S, S = nS S1 cp h o1 1 := ⟨_, rfl⟩
  obtain ⟨o2, eo2⟩ : ∃ o, o = o1.setSlot 1 (.ref S1.heap.size) := ⟨_, rfl⟩
  obtain ⟨S3, e3⟩ : ∃ S, S = nS S2 cp h o2 2 := ⟨_, rfl⟩
  obtain ⟨o3, eo3⟩ : ∃ o, o = o2.setSlot 2 (.ref S2.heap.size) := ⟨_, rfl⟩
  obtain ⟨S4, e4⟩ : ∃ S, S = nS S3 cp h o3 3 := ⟨_, rfl⟩
  have z0 : S0.heap.size = h + 1 := by rw [e0, eh]; exact State.heap_size_pushCell _ _
  have g0 : S0.heap[h]? = some (mO0 cA) := by rw [e0, eh]; exact State.heap_pushCell_size _ _
  have p0 : ∀ a, a < h → S0.heap[a]? = T.heap[a]? := fun a ha => by
    rw [e0]
    exact State.heap_pushCell_of_lt _ _ (by rw [eh] at ha; exact ha)
  obtain ⟨z1, g1, w1, p1, -, -⟩ := nS_facts (cp := cp) 0 g0
  rw [← e1, ← eo1] at g1
  rw [← e1] at z1 w1 p1
  obtain ⟨z2, g2, w2, p2, -, -⟩ := nS_facts (cp := cp) 1 g1
  rw [← e2, ← eo2] at g2
  rw [← e2] at z2 w2 p2
  obtain ⟨z3, g3, w3, p3, -, -⟩ := nS_facts (cp := cp) 2 g2
  rw [← e3, ← eo3] at g3
  rw [← e3] at z3 w3 p3
  obtain ⟨z4, g4, w4, p4, -, -⟩ := nS_facts (cp := cp) 3 g3
  rw [← e4] at z4 g4 w4 p4
  have zI : (mIn cp).slots.size = 60 := by simp [mIn]
  have zO : (mO0 cA).slots.size = 4 := by simp [mO0]
  have Y0 : Stand p l e R s g.method args below meth c S0 locs (cells + 1) (slots + 4) := by
    have := X1.pushed (mO0 cA)
    rw [zO, ← e0] at this
    exact this
  have up : ∀ {V : State} {oc : Cell} {lc : List Loc} {a b : Nat} (i : Nat), V.heap[h]? = some oc → Stand p l e R s g.method args below meth c V lc a b → Stand p l e R s g.method args below meth c (nS V cp h oc i) (lc ++ [⟨h, i⟩]) (a + 1) (b + 60) := by
    intro V oc lc a b i gV Y
    have hlt : h < V.heap.size := (Array.getElem?_eq_some_iff.mp gV).1
    have := (Y.pushed (mIn cp)).stored (a := h) (cell := oc) (by rw [State.heap_pushCell_of_lt _ _ hlt]; exact gV) i (.ref V.heap.size)
    rw [zI] at this
    exact this
  have Y1 := up 0 g0 Y0
  rw [← e1] at Y1
  have Y2 := up 1 g1 Y1
  rw [← e2] at Y2
  have Y3 := up 2 g2 Y2
  rw [← e3] at Y3
  have Y4 := up 3 g3 Y3
  rw [← e4] at Y4
  simp only [List.append_assoc] at Y4
  have YF := Y4.dropFresh (fun x hx => by
    have hb : x.base = h := by
      simp only [List.cons_append, List.nil_append, List.mem_cons, List.not_mem_nil, or_false] at hx
      rcases hx with rfl | rfl | rfl | rfl <;> rfl
    rw [hb, eh]
    exact X.heapGrown)
  refine ⟨cA, cp, S4, n1, n2, by omega, ?_, fun j hj => ?_, fun a ha => ?_, YF, fun target hrest => ?_⟩
  · rw [← eh, g4, eo3, eo2, eo1, z3, z2, z1, z0]
    rfl
  · rw [← eh]
    rcases (show j = 0 ∨ j = 1 ∨ j = 2 ∨ j = 3 by omega) with rfl | rfl | rfl | rfl
    · rw [p4 _ (by omega) (by omega), p3 _ (by omega) (by omega), p2 _ (by omega) (by omega), ← z0]
      exact w1
    · rw [p4 _ (by omega) (by omega), p3 _ (by omega) (by omega), show h + 1 + 1 = S1.heap.size by omega]
      exact w2
    · rw [p4 _ (by omega) (by omega), show h + 1 + 2 = S2.heap.size by omega]
      exact w3
    · rw [show h + 1 + 3 = S3.heap.size by omega]
      exact w4
  · rw [p4 _ (by omega) (by omega), p3 _ (by omega) (by omega), p2 _ (by omega) (by omega), p1 _ (by omega) (by omega), p0 a (by omega)]
  have hl2 : ¬ 60 > e.platform.arrayLengthLimit := by rw [Launch.admits_arrayLengthLimit X.admits]; omega
  have hh2 : ¬ 60 * 4 > e.platform.maxHeapBytes := by rw [Launch.admits_maxHeapBytes X.admits]; omega
  jvm_step X.here [hexec, hdg]
  simp only [multianewarray.sem, wp_bind', W.resolveClassAt_links (State.method?_setTop g X.here.top) hg1]
  rw [W.popN, if_neg (by decide)]
  refine ⟨g, State.topJava?_setTop' (s := T.setVm vm1) g X.here.top, [.int 4, .int 60], rest, rfl, hstack, ?_⟩
  simp only [List.mapM_cons, List.mapM_nil, wp_bind', wp_pure']
  have eS : ((T.setTop g).setVm vm1).setTop { g with stack := rest } = (T.setVm vm1).setTop { g with stack := rest } := by
    show ((T.setVm vm1).setTop g).setTop _ = _
    rw [State.setTop_setTop]
  rw [eS]
  refine wp_make46 (U := (T.setVm vm1).setTop { g with stack := rest }) (kA := kA1) (kc := kc1) (cp := cp) (cc := cc) (h := h) (o0 := mO0 cA) (o1 := o1) (o2 := o2) (o3 := o3) (S0 := S0.setTop { g with stack := rest }) (S1 := S1.setTop { g with stack := rest }) (S2 := S2.setTop { g with stack := rest }) (S3 := S3.setTop { g with stack := rest }) (S4 := S4.setTop { g with stack := rest }) q1 (by rw [r1]; exact k2) q2 (by rw [r2]; exact k4) hl2 hh2 (by show T.heap.size + 5 ≤ _; omega) (by show T.slotsUsed + 244 ≤ _; omega) eh (by rw [e0]; rfl) rfl eo1 (by rw [e1]; rfl) eo2 (by rw [e2]; rfl) eo3 (by rw [e3]; rfl) (by rw [e4]; rfl) (fun d' acts' => ?_)
  simp only [wp_bind', W.mark, W.pushRef, State.topJava?_setTop' _ YF.here.top, Option.some.injEq, exists_eq_left', State.setTop_setTop, State.heap_setTop]
  intro acts
  simp [jvm, YF.here.top]
  rw [eh]
  exact hrest
end MS

