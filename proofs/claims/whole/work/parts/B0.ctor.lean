
abbrev TY : Type := List (ClassId × FieldType)
abbrev CK : Type := va_W → TY → Prop
def NCc (s : State) : Prop := (∃ cA cp, rr_V s.vm cA cp) ∧ ∀ (own : String) (k : Nat) (y : MethodName) (host : String), Cond.methodLinkNest own k y host ∈ lw_tbl → va_Nw (.methodLinkNest own k y host) s
theorem NCc.warm {s U : State} (hW : s.WarmedH U.vm) (h : NCc s) : NCc U := ⟨rr_V.ex hW.alike h.1, fun own k y host hw => (h.2 own k y host hw).warmM hW⟩
theorem NCc.same {u U : State} (hv : U.vm = u.vm) (h : NCc u) : NCc U := ⟨rr_V.ex (by rw [hv]; exact Vm.Alike.refl _) h.1, fun own k y host hw => va_Nw.same rfl hv.symm (h.2 own k y host hw)⟩
def rmC (d N M : Nat) : Room := { frames := d, cells := N, slots := M, locals := 40 * d }
def CxC (mi : MI) (p : Program) (s : State) (m : MethodId) (args : Array Value) (meth : Method) (c : Code) : Prop :=
  p.tables.exec = Jvm.exec ∧ c.code = mi.2.1 ∧ meth.sig.returnType = mi.2.2.2 ∧ c.maxLocals = mi.2.2.1 ∧ s.vm.findClass mi.1.cls = some m.cls ∧ (∀ w ∈ gt, w.before args s = true) ∧ meth.locks = false ∧ meth.name = "<init>" ∧ NCc s
def QmC (K : CK) (dC : Nat → ClassId) (dI : Nat → Nat → Nat) (A : Nat → Prop) : Array Value → State → Outcome → State → Prop := fun _ st oc t =>
  (∃ (w : va_W) (ty : TY), oc = .returned none ∧ K w ty ∧ va_P (dC, dI) vwCl w t.heap ∧ va_D A w ∧ va_K (dC, dI) vwCl ty t) ∧ va_F A st t
def GC (l : Launch) (Rm : Room) (mi : MI) (dC : Nat → ClassId) (dI : Nat → Nat → Nat) (A : Nat → Prop) (K : CK) (N M nc ns pc : Nat) (lv : List (Nat × Value)) (S : List Value) (ws : va_W) (ty : TY) : Prop :=
  ∀ (p : Program) (e : Env) (s : State) (m : MethodId) (args : Array Value) (below : List Frame) (meth : Method) (c : Code) (H : Heap) (locs : List Loc) (ls : Array Slot),
    CxC mi p s m args meth c → (∀ q, s.heap.size ≤ q → A q) → va_K (dC, dI) vwCl ty s → va_P (dC, dI) vwCl ws H → va_D A ws → va_S A s.heap H locs → lv_has ls mi.2.2.1 lv →
    W p l e Rm s m args below meth c H locs nc ns (MQ below (QmC K dC dI A) args s N M A) (F0 m pc ls S)
def PwC (dC : Nat → ClassId) (dI : Nat → Nat → Nat) (ws : va_W) (ty : TY) (sz : Nat) (U : State) : Prop := U.heap.size = sz ∧ va_P (dC, dI) vwCl ws U.heap ∧ va_K (dC, dI) vwCl ty U ∧ va_D (fun _ => True) ws ∧ NCc U
theorem PwC_blind (dC : Nat → ClassId) (dI : Nat → Nat → Nat) (ws : va_W) (ty : TY) (sz : Nat) (av : List Value) : FrameBlind (va_Pc av (PwC dC dI ws ty sz)) := by
  intro a U g mk q
  obtain ⟨q0, q1, qP, qK, qD, qN⟩ := q
  exact ⟨q0, q1, qP, va_K.moved (u := U) (U := U.calling g mk a) (Vm.Alike.refl U.vm) qK, qD, NCc.same (u := U) (U := U.calling g mk a) rfl qN⟩
theorem metC {l : Launch} {Rm : Room} {mi : MI} {dC : Nat → ClassId} {dI : Nat → Nat → Nat} {K : CK} {N M sz : Nat} {As : List Value} {ws : va_W} {ty : TY} (hy : plainName mi.1.cls = true) (hnm : mi.1.name = "<init>") (hn : (lg_sl As).length ≤ mi.2.2.1) (hG : GC l Rm mi dC dI (va_A ws sz) K N M 0 0 0 (lv_args 0 As) [] ws ty) :
    Met l mi.1 (wsM mi) Rm (va_Pc As (PwC dC dI ws ty sz)) (QmC K dC dI (va_A ws sz)) N M (va_A ws sz) := by
  refine Met.ofW (cc := mi.2.1) (maxL := mi.2.2.1) (ret := mi.2.2.2) hy rfl ?_
  intro p e s m args below meth c s₁ B hml hv
  obtain ⟨rfl, hsz, hP, hK, hD, hN⟩ := hv
  have hts := atoms_spec (ws := wsM mi) B.pre
  have hl := lv_entry As (n := mi.2.2.1) hn
  rw [lg_entry_eq]
  generalize (lg_sl As ++ List.replicate (mi.2.2.1 - (lg_sl As).length) Slot.unset).toArray = ls at hl ⊢
  subst hsz
  exact hG p e s m _ below meth c s.heap [] ls ⟨B.exec, B.bytes, B.returns, hml, findClass_of_methodNamed B.named, fun w hw => hts w (List.mem_cons_of_mem _ hw), B.notSynchronized, (name_of_methodNamed B.named B.method).1.trans hnm, hN⟩ (fun q h => Or.inr h) hK hP (hD.self) va_S.rf hl
abbrev zQ (cA : ClassId) (r0 r1 r2 r3 : Nat) : va_E := .inl (cA, 4, .inr (.inr (.inr (.inr (fun i => if i = 0 then some r0 else if i = 1 then some r1 else if i = 2 then some r2 else if i = 3 then some r3 else none)))))
def dfs (ci N : Nat) : List Value := (List.range N).map (fun j => defaultValue (clty ci j))
theorem dfs_V (ci N : Nat) : ∀ j, j < N → defaultValue (clty ci j) = vp_V (dfs ci N) j := by
  intro j hj
  unfold vp_V dfs
  rw [List.getD_eq_getElem?_getD, List.getElem?_map, List.getElem?_range hj]
  rfl
def okI (own : String) (idx : Nat) (mj : MI) (n : Nat) : Prop := okM mj n ∧ Cond.instanceMethod mj.1 ∈ gt ∧ lkM own idx mj
theorem mq_fun (h : Nat) : (fun i : Nat => if i < 4 then Value.ref (h + 1 + i) else .null) = fun j => va_rf (if j = 0 then some (h + 1) else if j = 1 then some (h + 2) else if j = 2 then some (h + 3) else if j = 3 then some (h + 4) else none) := by
  funext j
  match j with
  | 0 => rfl
  | 1 => rfl
  | 2 => rfl
  | 3 => rfl
  | j + 4 =>
    rw [if_neg (by omega), if_neg (by omega), if_neg (by omega), if_neg (by omega), if_neg (by omega)]
    rfl
section CROWS
variable {l : Launch} {Rm : Room} {mi : MI} {dC : Nat → ClassId} {dI : Nat → Nat → Nat} {A : Nat → Prop} {K : CK} {N M nc ns pc nx : Nat} {lv : List (Nat × Value)} {S : List Value} {ws : va_W} {ty : TY}
theorem C_W {ws' : va_W} (h : ws = ws') (k : GC l Rm mi dC dI A K N M nc ns pc lv S ws' ty) : GC l Rm mi dC dI A K N M nc ns pc lv S ws ty := h ▸ k
theorem C_N {nc' ns' : Nat} (h : nc = nc') (h2 : ns = ns') (k : GC l Rm mi dC dI A K N M nc' ns' pc lv S ws ty) : GC l Rm mi dC dI A K N M nc ns pc lv S ws ty := h ▸ h2 ▸ k
theorem C_aload {f : Fin 4} {x : Nat} (i : Nat) (hd : D mi.2.1 pc (.aload_n f) 1 nx) (h : lv[i]? = some ((f : Nat), .ref x)) (k : GC l Rm mi dC dI A K N M nc ns nx lv (.ref x :: S) ws ty) : GC l Rm mi dC dI A K N M nc ns pc lv S ws ty := by
  intro p e s m args below meth c H locs ls C hA hK hP hD hS hl
  obtain ⟨hd, rfl⟩ := hd
  exact lv_aload_n C.1 C.2.1 hd rfl (lv_at hl i h) (k p e s m args below meth c H locs ls C hA hK hP hD hS hl)
theorem C_iconst {n : Int} {v : Int32} (hd : D mi.2.1 pc (.iconst n) 1 nx) (hv : Int32.ofInt n = v) (k : GC l Rm mi dC dI A K N M nc ns nx lv (.int v :: S) ws ty) : GC l Rm mi dC dI A K N M nc ns pc lv S ws ty := by
  intro p e s m args below meth c H locs ls C hA hK hP hD hS hl
  obtain ⟨hd, rfl⟩ := hd
  exact lv_iconst C.1 C.2.1 hd hv (k p e s m args below meth c H locs ls C hA hK hP hD hS hl)
theorem C_bipush {n : Int} {v : Int32} (hd : D mi.2.1 pc (.bipush n) 2 nx) (hv : (Int8.ofInt n).toInt32 = v) (k : GC l Rm mi dC dI A K N M nc ns nx lv (.int v :: S) ws ty) : GC l Rm mi dC dI A K N M nc ns pc lv S ws ty := by
  intro p e s m args below meth c H locs ls C hA hK hP hD hS hl
  obtain ⟨hd, rfl⟩ := hd
  exact lv_bipush C.1 C.2.1 hd hv (k p e s m args below meth c H locs ls C hA hK hP hD hS hl)
theorem C_sipush {n : Int} {v : Int32} (hd : D mi.2.1 pc (.sipush n) 3 nx) (hv : (Int16.ofInt n).toInt32 = v) (k : GC l Rm mi dC dI A K N M nc ns nx lv (.int v :: S) ws ty) : GC l Rm mi dC dI A K N M nc ns pc lv S ws ty := by
  intro p e s m args below meth c H locs ls C hA hK hP hD hS hl
  obtain ⟨hd, rfl⟩ := hd
  exact lv_sipush C.1 C.2.1 hd hv (k p e s m args below meth c H locs ls C hA hK hP hD hS hl)
theorem C_dup {x : Nat} (hd : D mi.2.1 pc .dup 1 nx) (k : GC l Rm mi dC dI A K N M nc ns nx lv (.ref x :: .ref x :: S) ws ty) : GC l Rm mi dC dI A K N M nc ns pc lv (.ref x :: S) ws ty := by
  intro p e s m args below meth c H locs ls C hA hK hP hD hS hl
  obtain ⟨hd, rfl⟩ := hd
  exact lv_dup C.1 C.2.1 hd rfl (k p e s m args below meth c H locs ls C hA hK hP hD hS hl)
theorem C_obj {x idx : Nat} (hd : D mi.2.1 pc (.invokespecial idx) 3 nx) (h1 : Cond.methodLink mi.1.cls idx Lib.objectInit ∈ gt) (h2 : Cond.instanceMethod Lib.objectInit ∈ gt) (h3 : Cond.code Lib.objectInit ⟨#[0xb1]⟩ 1 none ∈ gt) (hf : 1 ≤ Rm.frames) (hlo : (S.map fun v => v.category).sum + 12 ≤ Rm.locals) (k : GC l Rm mi dC dI A K N M nc ns nx lv S ws ty) : GC l Rm mi dC dI A K N M nc ns pc lv (.ref x :: S) ws ty := by
  intro p e s m args below meth c H locs ls C hA hK hP hD hS hl
  obtain ⟨hd, rfl⟩ := hd
  exact W.objInit C.1 C.2.1 C.2.2.2.2.1 (C.2.2.2.2.2.1 _ h1) (C.2.2.2.2.2.1 _ h2) (C.2.2.2.2.2.1 _ h3) rfl (hl.1.trans C.2.2.2.1.symm) rfl hd hf (by simpa using hlo) (k p e s m args below meth c H locs ls C hA hK hP hD hS hl)
theorem C_put {idx ci j q0 a Nf : Nat} {fs : List Value} {v : Value} {Cn : String} {T : u_T} {t : FieldType} (hd : D mi.2.1 pc (.putfield idx) 3 nx) (hc : clOK ci Cn T Nf) (hj : j < Nf) (hlk : Cond.fieldLink mi.1.cls idx Cn (T j).2.1 (T j).2.2.1 ∈ gt) (ho : Cn = mi.1.cls) (he : ws[q0]? = some (a, .inr (ci, fs))) (hty : clty ci j = t) (hn : narrow t v = v) (hfit : fits t v = true) (hlen : j < fs.length) (k : GC l Rm mi dC dI A K N M nc ns nx lv S (ws.set q0 (a, .inr (ci, fs.set j v))) ty) : GC l Rm mi dC dI A K N M nc ns pc lv (v :: .ref a :: S) ws ty := by
  intro p e s m args below meth c H locs ls C hA hK hP hD hS hl
  obtain ⟨hd, rfl⟩ := hd
  obtain ⟨h1, h2, h3, h4, h5, h6⟩ := hc
  cases hfin : (T j).2.2.2 with
  | false => exact va_put C.1 C.2.1 C.2.2.2.2.2.1 h3 (clty ci) h4 h5 C.2.2.2.2.1 hK hP hD hS q0 he h1 j hj (C.2.2.2.2.2.1 _ hlk) (fun x hx => by rw [h6 j hj] at hx; exact hx) hfin (ty := t) (v := v) (by rw [h4 j hj, hty]) hn hfit hlen hd (fun H1 locs1 hP1 hD1 hS1 => k p e s m args below meth c H1 locs1 ls C hA hK hP1 hD1 hS1 hl)
  | true => exact va_putF C.1 C.2.1 C.2.2.2.2.2.1 h3 (clty ci) h4 h5 C.2.2.2.2.1 hK hP hD hS q0 he h1 j hj (C.2.2.2.2.2.1 _ hlk) (fun x hx => by rw [h6 j hj] at hx; exact hx) hfin C.2.2.2.2.2.2.2.1 (by rw [h6 j hj, ho]) (ty := t) (v := v) (by rw [h4 j hj, hty]) hn hfit hlen hd (fun H1 locs1 hP1 hD1 hS1 => k p e s m args below meth c H1 locs1 ls C hA hK hP1 hD1 hS1 hl)
theorem C_newa {at0 : ArrayType} {t : FieldType} {t0 n : Nat} {cA0 : ClassId} {x : Int32} {a0 : vp_A} (hd : D mi.2.1 pc (.newarray at0) 2 nx) (hty : newarray.typeOf at0 = t) (hac : Cond.arrayClass t ∈ gt) (ht0 : ty[t0]? = some (cA0, t)) (hra : ∀ (U : State) (cA : ClassId), va_RA U cA t → U.vm.findClass ("[" ++ t.toString) = some cA) (ha : ∀ cA : ClassId, vp_cell cA a0 = arrV cA n (fun _ => defaultValue t)) (hx : ¬ x < 0) (hN : x.toNatClampNeg = n) (hby : n * componentBytes t ≤ 536870912) (hrc : nc + 1 ≤ Rm.cells) (hrs : ns + n ≤ Rm.slots) (k : ∀ q, GC l Rm mi dC dI A K N M (nc + 1) (ns + n) nx lv (.ref q :: S) (ws ++ [(q, .inl (cA0, a0))]) ty) : GC l Rm mi dC dI A K N M nc ns pc lv (.int x :: S) ws ty := by
  intro p e s m args below meth c H locs ls C hA hK hP hD hS hl
  obtain ⟨hd, rfl⟩ := hd
  refine va_newa C.1 C.2.1 (by rw [hty]; exact C.2.2.2.2.2.1 _ hac) hty hK hP hD hS hA ha hx hN hby hrc hrs hd (fun q cA H1 hK1 hP1 hD1 hS1 => ?_)
  have e1 := hra s cA (hK1.2 ty.length (cA, t) (by simp)).2
  have e2 := hra s cA0 (hK.2 t0 _ ht0).2
  have e3 : cA = cA0 := Option.some.inj (e1.symm.trans e2)
  subst e3
  exact k q p e s m args below meth c H1 locs ls C hA hK hP1 hD1 hS1 hl
theorem C_new {idx ci Nf : Nat} {Cn : String} {T : u_T} (hd : D mi.2.1 pc (.new idx) 3 nx) (hc : clOK ci Cn T Nf) (h1 : Cond.classLink mi.1.cls idx Cn ∈ gt) (h2 : Cond.instantiable Cn Nf ∈ gt) (h3 : Cond.initialized Cn ∈ gt) (hrc : nc + 1 ≤ Rm.cells) (hrs : ns + Nf ≤ Rm.slots) (k : ∀ q, GC l Rm mi dC dI A K N M (nc + 1) (ns + Nf) nx lv (.ref q :: S) (ws ++ [(q, .inr (ci, dfs ci Nf))]) ty) : GC l Rm mi dC dI A K N M nc ns pc lv S ws ty := by
  intro p e s m args below meth c H locs ls C hA hK hP hD hS hl
  obtain ⟨hd, rfl⟩ := hd
  obtain ⟨g1, g2, g3, g4, g5, g6⟩ := hc
  exact va_new C.1 C.2.1 C.2.2.2.2.2.1 g3 (clty ci) g4 C.2.2.2.2.1 (C.2.2.2.2.2.1 _ h1) (C.2.2.2.2.2.1 _ h2) (C.2.2.2.2.2.1 _ h3) hK hP hD hS hA g1 (dfs_V ci Nf) hrc hrs hd (fun q H1 hP1 hD1 hS1 => k q p e s m args below meth c H1 locs ls C hA hK hP1 hD1 hS1 hl)
theorem C_iast {q0 t0 a n : Nat} {cA : ClassId} {f : Nat → Int32} {i x : Int32} (hd : D mi.2.1 pc .iastore 1 nx) (ha : ws[q0]? = some (a, .inl (cA, n, .inl f))) (ht : ty[t0]? = some (cA, .int)) (hin : vp_in i n) (k : GC l Rm mi dC dI A K N M nc ns nx lv S (ws.set q0 (a, .inl (cA, n, .inl (upd f i.toNatClampNeg x)))) ty) : GC l Rm mi dC dI A K N M nc ns pc lv (.int x :: .int i :: .ref a :: S) ws ty := by
  intro p e s m args below meth c H locs ls C hA hK hP hD hS hl
  obtain ⟨hd, rfl⟩ := hd
  exact va_iast C.1 C.2.1 hK hP hD hS q0 t0 ha ht hin hd (fun H1 locs1 hP1 hD1 hS1 => k p e s m args below meth c H1 locs1 ls C hA hK hP1 hD1 hS1 hl)
theorem C_astore1 {x x0 : Nat} (hd : D mi.2.1 pc (.astore_n 1) 1 nx) (h2 : 2 ≤ mi.2.2.1) (k : GC l Rm mi dC dI A K N M nc ns nx [(1, .ref x), (0, .ref x0)] S ws ty) : GC l Rm mi dC dI A K N M nc ns pc [(0, .ref x0)] (.ref x :: S) ws ty := by
  intro p e s m args below meth c H locs ls C hA hK hP hD hS hl
  obtain ⟨hd, rfl⟩ := hd
  exact lv_astore_n (lv' := [(1, .ref x), (0, .ref x0)]) C.1 C.2.1 hd rfl hl (by omega) rfl (fun ls hl => k p e s m args below meth c H locs ls C hA hK hP hD hS hl)
theorem C_ret (hd : D mi.2.1 pc .return_ 1 nx) (hr : mi.2.2.2 = none) (hN : nc = N) (hM : ns = M) (hk : K ws ty) : GC l Rm mi dC dI A K N M nc ns pc lv [] ws ty := by
  intro p e s m args below meth c H locs ls C hA hK hP hD hS hl
  subst hN hM
  exact W.vret C.1 C.2.1 (by rw [C.2.2.1, hr]) (fun t ht hW => ⟨⟨ws, ty, rfl, hk, by rw [ht]; exact hP, hD, va_K.moved hW.alike hK⟩, hS.F ht⟩) hS.2.2 hd.1 C.2.2.2.2.2.2.1
theorem C_call {idx q0 q ci N' M' dd : Nat} {mj : MI} {fs As : List Value} {wr : va_W} (isR : List Nat) (hd : D mi.2.1 pc (.invokespecial idx) 3 nx) (ho : okI mi.1.cls idx mj As.length) (hret : mj.2.2.2 = none) (hnm : mj.1.name = "<init>") (hC : ws[q0]? = some (q, .inr (ci, fs))) (hR : isR.map (fun i => ws[i]?) = wr.map some) (hn : va_nd isR = true) (hdis : ∀ i ∈ isR, i ∉ [q0]) (hrc : nc + N' ≤ Rm.cells ∧ ns + M' ≤ Rm.slots) (hfr : dd + 1 ≤ Rm.frames ∧ 8 + (mj.2.2.1 + 11) + 40 * dd ≤ Rm.locals) (hw : (S.map fun v => v.category).sum ≤ 8) (hlg : (lg_sl (.ref q :: As)).length ≤ mj.2.2.1)
    (k : ∀ A', GC l (rmC dd N' M') mj dC dI A' (fun w ty' => GC l Rm mi dC dI A K N M (nc + N') (ns + M') nx lv S (wr ++ w) ty') N' M' 0 0 0 (lv_args 0 (.ref q :: As)) [] [(q, .inr (ci, fs))] ty) : GC l Rm mi dC dI A K N M nc ns pc lv (As.reverse ++ .ref q :: S) ws ty := by
  intro p e s m args below meth c H locs ls C hA hK hP hD hS hl
  obtain ⟨hd, rfl⟩ := hd
  have hCm : [q0].map (fun i => ws[i]?) = ([(q, .inr (ci, fs))] : va_W).map some := by simp [hC]
  have hFc := va_free (wc := [(q, .inr (ci, fs))]) hD hS hA [q0] hCm
  have hPc : va_P (dC, dI) vwCl [(q, .inr (ci, fs))] H := hP.sub [q0] (by simp [hC])
  have hDc : va_D A [(q, .inr (ci, fs))] := hD.sub [q0] rfl hCm
  have hM := metC (sz := H.size) ho.1.2.1 hnm hlg (k (va_A [(q, .inr (ci, fs))] H.size))
  have hp : PreS s H (va_Pc (.ref q :: As) (PwC dC dI [(q, .inr (ci, fs))] ty H.size)) (.ref q :: As) := ⟨PwC_blind dC dI _ ty H.size _, fun U hU hW => ⟨rfl, by rw [hU], by rw [hU]; exact hPc, va_K.moved hW.alike hK, hDc.weaken (fun _ _ _ _ => trivial), C.2.2.2.2.2.2.2.2.warm hW⟩⟩
  have hrun : va_Run p l e Rm s m args below meth c H locs nc ns N' M' (F0 m pc ls (As.reverse ++ .ref q :: S)) S (QmC (fun w ty' => GC l Rm mi dC dI A K N M (nc + N') (ns + M') (pc + 3) lv S (wr ++ w) ty') dC dI (va_A [(q, .inr (ci, fs))] H.size) (Value.ref q :: As).toArray) (va_A [(q, .inr (ci, fs))] H.size) := by
    obtain ⟨hm, hin, hlk⟩ := ho
    have hcode : wsM mj = Cond.code mj.1 mj.2.1 mj.2.2.1 none :: gt := by unfold wsM; rw [hret]
    rcases hlk with hlk | ⟨host, hlk⟩
    · exact va_runI ⟨C.1, C.2.1, C.2.2.2.1, C.2.2.2.2.1, C.2.2.2.2.2.1⟩ hM ⟨callB_of As.length C.2.2.2.2.2.1 hm.gd hcode rfl rfl (C.2.2.2.2.2.1 _ hm.2.2.1) (C.2.2.2.2.2.1 _ hlk) hm.2.2.2.1 hfr, hnm, C.2.2.2.2.2.1 _ hin⟩ hp rfl rfl hl.1 rfl (lv_room hw) hd hrc
    · exact va_runIN ⟨C.1, C.2.1, C.2.2.2.1, C.2.2.2.2.1, C.2.2.2.2.2.1⟩ hM ⟨va_cnB As.length C.2.2.2.2.2.1 hm.gd hcode rfl rfl (C.2.2.2.2.2.2.2.2.2 _ _ _ _ hlk) (C.2.2.2.2.2.1 _ hm.2.2.1) hm.2.2.2.1 hfr, hnm, C.2.2.2.2.2.1 _ hin⟩ hp rfl rfl hl.1 rfl (lv_room hw) hd hrc
  intro T hT X
  obtain ⟨v, st₀, t, T', L, h0, X', hL, e1, e2, ⟨⟨w1, ty', hv, hk, hPw, hDw, hKw⟩, hz, hkp⟩, st⟩ := hrun T hT X
  rw [h0] at hz hkp
  have hv' : v = none := by injection hv
  subst hv'
  have hal : s.vm.Alike t.vm := by rw [← e2]; exact X'.warmed.alike
  obtain ⟨hPj, hDj⟩ := va_join (wr := wr) (w1 := w1) hP hD [q0] isR hCm hR hn hdis (fun q h1 h2 => (hkp q h1 h2)) hFc hPw hDw
  have hSj : va_S A s.heap T'.heap (locs ++ L) := ⟨Nat.le_trans hS.1 (by rw [e1]; exact hz), fun q h1 h2 => by rw [e1, hkp q (Nat.lt_of_lt_of_le h1 hS.1) (fun h => h2 (hFc q h))]; exact hS.2.1 q h1 h2, fun q hq => by
    rcases List.mem_append.mp hq with h | h
    · exact hS.2.2 q h
    · exact hFc _ (hL q h)⟩
  obtain ⟨t2, a1, b1⟩ := hk p e s m args below meth c T'.heap (locs ++ L) ls C hA (va_K.moved hal.symm hKw) (by rw [e1]; exact hPj) hDj hSj hl T' rfl X'
  exact ⟨t2, st t2 a1, b1⟩
theorem C_multi {idx : Nat} {cy0 : ClassId} (hd : D mi.2.1 pc (.multianewarray idx 2) 4 nx) (h1 : Cond.classLink mi.1.cls idx "[[I" ∈ gt) (y0 : ty[0]? = some (cy0, .int)) (hrc : nc + 5 ≤ Rm.cells) (hrs : ns + 244 ≤ Rm.slots) (k : ∀ (cA : ClassId) (q r0 r1 r2 r3 : Nat), GC l Rm mi dC dI A K N M (nc + 5) (ns + 244) nx lv (.ref q :: S) (ws ++ [(q, zQ cA r0 r1 r2 r3), (r0, .inl (cy0, 60, .inl (fun _ => 0))), (r1, .inl (cy0, 60, .inl (fun _ => 0))), (r2, .inl (cy0, 60, .inl (fun _ => 0))), (r3, .inl (cy0, 60, .inl (fun _ => 0)))]) (ty ++ [(cA, .array .int)])) : GC l Rm mi dC dI A K N M nc ns pc lv (.int 60 :: .int 4 :: S) ws ty := by
  intro p e s m args below meth c H locs ls C hA hK hP hD hS hl
  obtain ⟨hd, rfl⟩ := hd
  obtain ⟨cA, cp, hV⟩ := C.2.2.2.2.2.2.2.2.1
  have e4 : (4 : Int32).toNatClampNeg = 4 := by decide
  have e60 : (60 : Int32).toNatClampNeg = 60 := by decide
  refine rr_mna C.1 C.2.1 C.2.2.2.2.1 (C.2.2.2.2.2.1 _ h1) hV (a := 4) (b := 60) rfl hd rfl (by decide) (by decide) (by decide) (by rw [e4]; decide) (by rw [e60]; decide) (by rw [e4]; omega) (by rw [e4, e60]; omega) (fun H' L hL hz ho hin hold => ?_)
  rw [e4] at hz ho hin
  rw [e60] at hin
  rw [e4, e60, show nc + 1 + 4 = nc + 5 by omega, show ns + 4 + 4 * 60 = ns + 244 by omega]
  have ecp : cp = cy0 := Option.some.inj (hV.2.1.symm.trans (hK.2 0 _ y0).2)
  subst ecp
  have hap : ∀ (k : Nat) (q : Nat × va_E), ([(H.size, zQ cA (H.size + 1) (H.size + 2) (H.size + 3) (H.size + 4)), (H.size + 1, .inl (cp, 60, .inl (fun _ => 0))), (H.size + 2, .inl (cp, 60, .inl (fun _ => 0))), (H.size + 3, .inl (cp, 60, .inl (fun _ => 0))), (H.size + 4, .inl (cp, 60, .inl (fun _ => 0)))] : va_W)[k]? = some q → q.1 = H.size + k ∧ va_at (dC, dI) vwCl q H' := by
    intro k q hq
    match k, hq with
    | 0, hq => cases hq; exact ⟨rfl, ho.trans (congrArg (fun z => some (arrV cA 4 z)) (mq_fun H.size))⟩
    | 1, hq => cases hq; exact ⟨rfl, hin 0 (by decide)⟩
    | 2, hq => cases hq; exact ⟨rfl, hin 1 (by decide)⟩
    | 3, hq => cases hq; exact ⟨rfl, hin 2 (by decide)⟩
    | 4, hq => cases hq; exact ⟨rfl, hin 3 (by decide)⟩
    | k + 5, hq => simp at hq
  have hK1 : va_K (dC, dI) vwCl (ty ++ [(cA, .array .int)]) s := ⟨hK.1, fun k q hq => by
    by_cases hlt : k < ty.length
    · rw [List.getElem?_append_left hlt] at hq
      exact hK.2 k q hq
    · rw [List.getElem?_append_right (by omega)] at hq
      have hz0 : k - ty.length < 1 := (List.getElem?_eq_some_iff.mp hq).1
      rw [show k - ty.length = 0 by omega] at hq
      cases hq
      obtain ⟨kA, w1, w2⟩ := hV.2.2.1
      exact ⟨fun N z => ⟨(fun q hq => by cases hq), kA, w1, cp, w2⟩, hV.1⟩⟩
  have hPn : va_P (dC, dI) vwCl ws H' := hP.kept (fun k x hx => hold x.1 ((hP k x hx).lt))
  refine k cA H.size (H.size + 1) (H.size + 2) (H.size + 3) (H.size + 4) p e s m args below meth c H' (locs ++ L) ls C hA hK1 (hPn.app (fun k q hq => (hap k q hq).2)) (va_D.app hD ⟨fun i j x y hx hy hxy => ?_, fun k q hq => hA _ ?_⟩ (fun i j x y hx hy hxy => ?_)) ⟨?_, fun q h1 h2 => (hold q (Nat.lt_of_lt_of_le h1 hS.1)).trans (hS.2.1 q h1 h2), fun q hq => ?_⟩ hl
  · have a1 := (hap i x hx).1
    have a2 := (hap j y hy).1
    omega
  · have a1 := (hap k q hq).1
    have a2 := hS.1
    omega
  · have a1 := (hP i x hx).lt
    have a2 := (hap j y hy).1
    omega
  · have a2 := hS.1
    omega
  · rcases List.mem_append.mp hq with h | h
    · exact hS.2.2 q h
    · exact hA _ (by rw [hL q h]; exact hS.1)
end CROWS

