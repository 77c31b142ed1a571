/-! THE CLAIM OUT OF ONE WALK OF THE LAW'S BODY. Your part is whole_start (and what it stands on); all else here is the same for every law, but numbers. -/
def R_law : String := "LinesTouchedLaw"
def lw_P (b : Addr) (xs : List Int32) (args : Array Value) (s : State) : Prop := args = #[.ref b] ∧ s.IntsAt b xs ∧ xs.length ≤ 3072 ∧ (Jvm.Cond.and given_1 narrow_1).before args s = true
def lw_Q (_ : Array Value) (s : State) (o : Outcome) (t : State) : Prop := o = .returned (some (.int 1)) ∧ Framed s o t [] 600000 7302250
def lw_Z (below : List Frame) (a : Array Value) (s : State) : State → Prop := fun t => ∃ o, t.status = .running ∧ Ended t below o ∧ lw_Q a s o t
/-- the law's own end, with 1 on the stack, nothing written that was there before, its room as the claim has it -/
theorem lw_ret {p : Program} {l : Launch} {e : Env} {s : State} {m : MethodId} {below : List Frame} {meth : Method} {c : Code} {b : Nat} (hx : p.tables.exec = Jvm.exec) (hb : c.code = code) (hr : meth.sig.returnType = ret) (hlocks : meth.locks = false) {pc : Nat} {H : Heap} {ls : Array Slot} (hdg : decode code pc = .ok (.ireturn, 1)) : W p l e room_1 s m #[Value.ref b] below meth c H [] 600000 7302250 (lw_Z below #[Value.ref b] s) (F0 m pc ls [.int 1]) := by
  intro T hT X
  obtain ⟨fs, hret, hrun, hended, hW, hframe⟩ := X.leave (v := some (.int 1)) (hlocks := hlocks) (fun h => by rw [hr] at h; cases h)
  have hmeth' : T.vm.method? m = some meth := X.method'
  refine ⟨T.setFrames fs, ?_, .returned (some (.int 1)), hrun, hended, rfl, ⟨_, rfl⟩, hW, hframe⟩
  jvm_step X.here [X.here.top, hx, hb, hdg, hmeth', hr, ret, narrow_b1]
  (try refine ⟨rfl, ?_⟩); (try refine ⟨rfl, ?_⟩)
  first | (intro acts; rw [hret _ acts rfl rfl rfl]) | rw [hret _ _ rfl rfl rfl]
  exact Steps.refl _
/-- what holds at the law's entry: the machine, the code, the tables' words (any of lw_tbl by 'hts w (by decide +kernel)'), the script of L ints xs at the cell b, what the Statement gives of the start (any of its parts by flat_of_before) -/
def lw_At (p : Program) (s : State) (m : MethodId) (meth : Method) (c : Code) (b L : Nat) (xs : Nat → Int32) : Prop :=
  p.tables.exec = Jvm.exec ∧ c.code = code ∧ meth.sig.returnType = ret ∧ c.maxLocals = 4 ∧ s.vm.findClass R_law = some m.cls ∧ (∀ w ∈ lw_tbl, w.before #[Value.ref b] s = true) ∧ va_X b L xs s s.heap ∧ b < s.heap.size ∧ meth.locks = false ∧ (Jvm.Cond.and given_1 narrow_1).before #[Value.ref b] s = true

abbrev LX : Type := Program × Launch × Env × State × MethodId × List Frame × Method × Code × Nat × Nat × (Nat → Int32) × (Nat → ClassId) × (Nat → Nat → Nat) × (Nat → ClassId) × (Nat → Nat)
def LX.l (Z : LX) : Launch := Z.2.1
def LX.n (Z : LX) : Nat := Z.2.2.2.2.2.2.2.2.2.1
def LX.xs (Z : LX) : Nat → Int32 := Z.2.2.2.2.2.2.2.2.2.2.1
def CLx (Z : LX) : Prop := match Z with
  | (p, _, _, s, m, _, meth, c, b, Ln, xs, dC, dI, cy, ad) => p.tables.exec = Jvm.exec ∧ c.code = code ∧ meth.sig.returnType = ret ∧ c.maxLocals = 4 ∧ s.vm.findClass R_law = some m.cls ∧ (∀ w ∈ lw_tbl, w.before #[Value.ref b] s = true) ∧ va_X b Ln xs s s.heap ∧ b < s.heap.size ∧ meth.locks = false ∧ va_K (dC, dI) vwCl (tysO cy) s ∧ apart ad ∧ RO ad s s.heap ∧ ad 1030 = b ∧ ∀ k, k < NC → s.heap.size ≤ ad k
def GL (Z : LX) (pc : Nat) (L S : List Value) (I : AI) (J : AJ) (R : AR) : Prop := match Z with
  | (p, l, e, s, m, below, meth, c, b, _, _, dC, dI, cy, ad) => ∀ (H : Heap) (locs : List Loc) (ls : Array Slot), va_P (dC, dI) vwCl (wo ad cy I J R) H → va_S (inA ad) s.heap H locs → lv_has ls 4 (lz ad 0 L) → W p l e room_1 s m #[Value.ref b] below meth c H locs 110 15708 (lw_Z below #[Value.ref b] s) (F0 m pc ls (S.map (cv ad)))
section LROWS
variable {Z : LX} {pc nx tgt : Nat} {L S : List Value} {I : AI} {J : AJ} {R : AR}
theorem notIn (C : CLx Z) : match Z with | (_, _, _, s, _, _, _, _, b, _, _, _, _, _, ad) => ¬ inA ad b := by
  obtain ⟨p, l, e, s, m, below, meth, c, b, Ln, xs, dC, dI, cy, ad⟩ := Z
  intro ⟨k, hk, e1⟩
  have h1 : s.heap.size ≤ ad k := C.2.2.2.2.2.2.2.2.2.2.2.2.2 k hk
  have h2 : b < s.heap.size := C.2.2.2.2.2.2.2.1
  have e2 : b = ad k := e1
  omega
theorem H_iload {f : Fin 4} {x : Int32} (C : CLx Z) (hd : D code pc (.iload_n f) 1 nx) (h : L[(f : Nat)]? = some (.int x)) (k : GL Z nx L (.int x :: S) I J R) : GL Z pc L S I J R := by
  obtain ⟨p, l, e, s, m, below, meth, c, b, Ln, xs, dC, dI, cy, ad⟩ := Z
  intro H locs ls hP hS hl
  obtain ⟨hd, rfl⟩ := hd
  exact lv_iload_n C.1 C.2.1 hd rfl (lz_at hl h rfl) (k H locs ls hP hS hl)
theorem H_aload {f : Fin 4} {x : Nat} (C : CLx Z) (hd : D code pc (.aload_n f) 1 nx) (h : L[(f : Nat)]? = some (.ref x)) (k : GL Z nx L (.ref x :: S) I J R) : GL Z pc L S I J R := by
  obtain ⟨p, l, e, s, m, below, meth, c, b, Ln, xs, dC, dI, cy, ad⟩ := Z
  intro H locs ls hP hS hl
  obtain ⟨hd, rfl⟩ := hd
  exact lv_aload_n C.1 C.2.1 hd rfl (lz_at hl h rfl) (k H locs ls hP hS hl)
theorem H_iconst {n : Int} {v : Int32} (C : CLx Z) (hd : D code pc (.iconst n) 1 nx) (hv : Int32.ofInt n = v) (k : GL Z nx L (.int v :: S) I J R) : GL Z pc L S I J R := by
  obtain ⟨p, l, e, s, m, below, meth, c, b, Ln, xs, dC, dI, cy, ad⟩ := Z
  intro H locs ls hP hS hl
  obtain ⟨hd, rfl⟩ := hd
  exact lv_iconst C.1 C.2.1 hd hv (k H locs ls hP hS hl)
theorem H_bipush {n : Int} {v : Int32} (C : CLx Z) (hd : D code pc (.bipush n) 2 nx) (hv : (Int8.ofInt n).toInt32 = v) (k : GL Z nx L (.int v :: S) I J R) : GL Z pc L S I J R := by
  obtain ⟨p, l, e, s, m, below, meth, c, b, Ln, xs, dC, dI, cy, ad⟩ := Z
  intro H locs ls hP hS hl
  obtain ⟨hd, rfl⟩ := hd
  exact lv_bipush C.1 C.2.1 hd hv (k H locs ls hP hS hl)
theorem H_iadd {x y : Int32} (C : CLx Z) (hd : D code pc .iadd 1 nx) (k : GL Z nx L (.int (x + y) :: S) I J R) : GL Z pc L (.int y :: .int x :: S) I J R := by
  obtain ⟨p, l, e, s, m, below, meth, c, b, Ln, xs, dC, dI, cy, ad⟩ := Z
  intro H locs ls hP hS hl
  obtain ⟨hd, rfl⟩ := hd
  exact lv_iadd C.1 C.2.1 hd (k H locs ls hP hS hl)
theorem H_isub {x y : Int32} (C : CLx Z) (hd : D code pc .isub 1 nx) (k : GL Z nx L (.int (x - y) :: S) I J R) : GL Z pc L (.int y :: .int x :: S) I J R := by
  obtain ⟨p, l, e, s, m, below, meth, c, b, Ln, xs, dC, dI, cy, ad⟩ := Z
  intro H locs ls hP hS hl
  obtain ⟨hd, rfl⟩ := hd
  exact lv_isub C.1 C.2.1 hd (k H locs ls hP hS hl)
theorem H_iand {x y : Int32} (C : CLx Z) (hd : D code pc .iand 1 nx) (k : GL Z nx L (.int (x &&& y) :: S) I J R) : GL Z pc L (.int y :: .int x :: S) I J R := by
  obtain ⟨p, l, e, s, m, below, meth, c, b, Ln, xs, dC, dI, cy, ad⟩ := Z
  intro H locs ls hP hS hl
  obtain ⟨hd, rfl⟩ := hd
  exact lv_iand C.1 C.2.1 hd (k H locs ls hP hS hl)
theorem H_sld {x : Int32} (C : CLx Z) (hd : D code pc .iaload 1 nx) (hx : vp_in x Z.n) (k : GL Z nx L (.int (Z.xs x.toNatClampNeg) :: S) I J R) : GL Z pc L (.int x :: .ref 1030 :: S) I J R := by
  have hb := notIn C
  obtain ⟨p, l, e, s, m, below, meth, c, b, Ln, xs, dC, dI, cy, ad⟩ := Z
  intro H locs ls hP hS hl
  obtain ⟨hd, rfl⟩ := hd
  have e30 : ad 1030 = b := C.2.2.2.2.2.2.2.2.2.2.2.2.1
  show W p l e room_1 s m #[Value.ref b] below meth c H locs 110 15708 (lw_Z below #[Value.ref b] s) (F0 m pc ls (.int x :: .ref (ad 1030) :: S.map (cv ad)))
  rw [e30]
  exact va_sld C.1 C.2.1 C.2.2.2.2.2.2.1 C.2.2.2.2.2.2.2.1 hb hS hx hd (k H locs ls hP hS hl)
theorem H_slen (C : CLx Z) (hd : D code pc .arraylength 1 nx) (k : GL Z nx L (.int (nI Z.n) :: S) I J R) : GL Z pc L (.ref 1030 :: S) I J R := by
  have hb := notIn C
  obtain ⟨p, l, e, s, m, below, meth, c, b, Ln, xs, dC, dI, cy, ad⟩ := Z
  intro H locs ls hP hS hl
  obtain ⟨hd, rfl⟩ := hd
  have e30 : ad 1030 = b := C.2.2.2.2.2.2.2.2.2.2.2.2.1
  show W p l e room_1 s m #[Value.ref b] below meth c H locs 110 15708 (lw_Z below #[Value.ref b] s) (F0 m pc ls (.ref (ad 1030) :: S.map (cv ad)))
  rw [e30]
  exact va_slen C.1 C.2.1 C.2.2.2.2.2.2.1 C.2.2.2.2.2.2.2.1 hb hS hd (k H locs ls hP hS hl)
theorem H_icmpgt {x y : Int32} {off : Int} (C : CLx Z) (hd : D code pc (.if_icmp .gt off) 3 nx) (ht : (pc : Int) + off = (tgt : Int)) (kt : y < x → GL Z tgt L S I J R) (kf : ¬ y < x → GL Z nx L S I J R) : GL Z pc L (.int y :: .int x :: S) I J R := by
  obtain ⟨p, l, e, s, m, below, meth, c, b, Ln, xs, dC, dI, cy, ad⟩ := Z
  intro H locs ls hP hS hl
  obtain ⟨hd, rfl⟩ := hd
  exact lv_icmp_gt C.1 C.2.1 hd ht (fun h => kt h H locs ls hP hS hl) (fun h => kf h H locs ls hP hS hl)
theorem H_icmpeq {x : Int32} {off : Int} (C : CLx Z) (hd : D code pc (.if_icmp .eq off) 3 nx) (ht : (pc : Int) + off = (tgt : Int)) (kt : GL Z tgt L S I J R) : GL Z pc L (.int x :: .int x :: S) I J R := by
  obtain ⟨p, l, e, s, m, below, meth, c, b, Ln, xs, dC, dI, cy, ad⟩ := Z
  intro H locs ls hP hS hl
  obtain ⟨hd, rfl⟩ := hd
  exact lv_icmp_eq C.1 C.2.1 hd ht (fun _ => kt H locs ls hP hS hl) (fun h => absurd rfl h)
theorem lg_same (x : Int64) : lg_cmp x x = 0 := by
  unfold lg_cmp
  simp
theorem H_lcmpeq {x : Int64} {off : Int} {n1 : Nat} (C : CLx Z) (h0 : D code pc .lcmp 1 n1) (hd : D code n1 (.ifCond .eq off) 3 nx) (ht : (n1 : Int) + off = (tgt : Int)) (kt : GL Z tgt L S I J R) : GL Z pc L (.long x :: .long x :: S) I J R := by
  obtain ⟨p, l, e, s, m, below, meth, c, b, Ln, xs, dC, dI, cy, ad⟩ := Z
  intro H locs ls hP hS hl
  obtain ⟨h0, rfl⟩ := h0
  obtain ⟨hd, rfl⟩ := hd
  refine W.lcmp C.1 C.2.1 h0 ?_
  rw [lg_same]
  exact lv_if_eq C.1 C.2.1 hd ht (fun _ => kt H locs ls hP hS hl) (fun h => absurd rfl h)
theorem H_goto {off : Int} (C : CLx Z) (hd : D code pc (.goto off) 3 nx) (ht : (pc : Int) + off = (tgt : Int)) (k : GL Z tgt L S I J R) : GL Z pc L S I J R := by
  obtain ⟨p, l, e, s, m, below, meth, c, b, Ln, xs, dC, dI, cy, ad⟩ := Z
  intro H locs ls hP hS hl
  exact lv_goto C.1 C.2.1 hd.1 ht (k H locs ls hP hS hl)
theorem H_iinc {x v : Int32} {n : Int} {v0 v1 v2 : Value} (C : CLx Z) (hd : D code pc (.iinc 3 n) 3 nx) (hv : Int32.ofInt n = v) (hp : notL v2 = true) (k : GL Z nx [v0, v1, v2, .int (x + v)] S I J R) : GL Z pc [v0, v1, v2, .int x] S I J R := by
  obtain ⟨p, l, e, s, m, below, meth, c, b, Ln, xs, dC, dI, cy, ad⟩ := Z
  intro H locs ls hP hS hl
  obtain ⟨hd, rfl⟩ := hd
  have h : ([v0, v1, v2, .int x] : List Value)[3]? = some (.int x) := rfl
  obtain ⟨q, hq⟩ := List.getElem?_of_mem ((lz_mem ad (3, cv ad (.int x)) [v0, v1, v2, .int x] 0).mpr ⟨.int x, Nat.zero_le _, h, rfl, rfl⟩)
  exact lv_iinc (v := x + v) C.1 C.2.1 hd hl hq (by rw [hv]) (lz_lt hl h rfl) rfl (fun ls' hl' => k H locs ls' hP hS (lz_set1 (L := [v0, v1, v2, .int x]) (v := .int (x + v)) (by simp) (fun w _ h => by cases h; exact hp) hl'))
theorem H_tabAt {dflt lo hi off : Int} {offs : Array Int} {n : Nat} {x v : Int32} (C : CLx Z) (hd : D code pc (.tableswitch dflt lo hi offs) n nx) (hx : x = v) (h1 : ¬ v.toInt < lo) (h2 : ¬ hi < v.toInt) (ho : offs[(v.toInt - lo).toNat]? = some off) (ht : (pc : Int) + off = (tgt : Int)) (k : GL Z tgt L S I J R) : GL Z pc L (.int x :: S) I J R := by
  subst hx
  obtain ⟨p, l, e, s, m, below, meth, c, b, Ln, xs, dC, dI, cy, ad⟩ := Z
  intro H locs ls hP hS hl
  exact lv_tableIn C.1 C.2.1 hd.1 h1 h2 ho ht (k H locs ls hP hS hl)
theorem H_tabOut {dflt lo hi : Int} {offs : Array Int} {n : Nat} {x : Int32} (C : CLx Z) (hd : D code pc (.tableswitch dflt lo hi offs) n nx) (h : x.toInt < lo ∨ hi < x.toInt) (ht : (pc : Int) + dflt = (tgt : Int)) (k : GL Z tgt L S I J R) : GL Z pc L (.int x :: S) I J R := by
  obtain ⟨p, l, e, s, m, below, meth, c, b, Ln, xs, dC, dI, cy, ad⟩ := Z
  intro H locs ls hP hS hl
  exact lv_tableOut C.1 C.2.1 hd.1 h ht (k H locs ls hP hS hl)
theorem H_end (C : CLx Z) (hd : D code pc .ireturn 1 nx) : GL Z pc L [.int 1] I J R := by
  obtain ⟨p, l, e, s, m, below, meth, c, b, Ln, xs, dC, dI, cy, ad⟩ := Z
  intro H locs ls hP hS hl
  refine va_forget (fun q hq => ?_) (W.widen (k := 600000) (n := 7302250) (by decide) (by decide) (lw_ret C.1 C.2.1 C.2.2.1 C.2.2.2.2.2.2.2.2.1 hd.1))
  obtain ⟨k, hk, e1⟩ := hS.2.2 q hq
  rw [e1]
  exact C.2.2.2.2.2.2.2.2.2.2.2.2.2 k hk
theorem H_call {idx n o ci : Nat} {mj : MI} {As : List Value} (C : CLx Z) (hd : D code pc (.invokevirtual idx) 3 nx) (ho : okV RL idx mj ci As.length) (hv : mj.2.2.2.isNone = false) (hO : isO o ci) (ha : As.all notL = true) (hw : (S.map fun v => v.category).sum ≤ 8) (hn : As.length + 1 ≤ mj.2.2.1) (k : G Z.l 40 mj (fun v I J R => GL Z nx L (v :: S) I J R) 0 ((.ref o :: As) ++ List.replicate n UU) [] I J R) : GL Z pc L (As.reverse ++ .ref o :: S) I J R := by
  obtain ⟨p, l, e, s, m, below, meth, c, b, Ln, xs, dC, dI, cy, ad⟩ := Z
  intro H locs ls hP hS hl
  obtain ⟨hd, rfl⟩ := hd
  have ha' : ((.ref o : Value) :: As).all notL = true := by rw [List.all_cons, ha]; rfl
  have hM := metG (As := .ref o :: As) (dC := dC) (dI := dI) (cy := cy) (ad := ad) ho.1.2.1 (by rw [sl_len ad _ ha']; exact hn) (lz_entry ad n _ 0 ha') k
  obtain ⟨hm, hin, hse, ⟨T, N, hcl⟩, hlk⟩ := ho
  have hts : ∀ w ∈ gt, w.before #[Value.ref b] s = true := fun w hw => C.2.2.2.2.2.1 w (List.mem_filter.mp hw).1
  have hR : (rmD 40).frames + 1 ≤ room_1.frames ∧ 8 + (mj.2.2.1 + 11) + (rmD 40).locals ≤ room_1.locals := by
    have := hm.2.2.2.2
    simp only [rmD, room_1]
    omega
  have hvk : va_K (dC, dI) vwCl (tysO cy) s := C.2.2.2.2.2.2.2.2.2.1
  have hap : apart ad := C.2.2.2.2.2.2.2.2.2.2.1
  have hro : RO ad s s.heap := C.2.2.2.2.2.2.2.2.2.2.2.1
  have hp : PreV s H mj.1.cls (ad o) (va_Pc (((.ref o : Value) :: As).map (cv ad)) (Pw dC dI cy ad I J R)) (As.map (cv ad)) := ⟨Pw_blind dC dI cy ad I J R _, va_recv hvk hP (ci := ci) (q0 := o) hcl (by rw [wo_at ad cy I J R hO.1, ce_O hO]), fun U hU hW => ⟨rfl, by rw [hU]; exact hP, va_K.moved hW.alike hvk, hap, by rw [hU]; exact (hro.kept hS.2.1).warm hW⟩⟩
  have hcat := cat_cv ad hw
  have hrun : va_Run p l e room_1 s m #[Value.ref b] below meth c H locs 110 15708 0 0 (F0 m pc ls ((As.map (cv ad)).reverse ++ .ref (ad o) :: S.map (cv ad))) (S.map (cv ad)) (Qm (fun v I J R => GL (p, l, e, s, m, below, meth, c, b, Ln, xs, dC, dI, cy, ad) (pc + 3) L (v :: S) I J R) mj.2.2.2.isNone dC dI cy ad (((.ref o : Value) :: As).map (cv ad)).toArray) (inA ad) := by
    rcases hlk with hlk | ⟨host, hlk⟩
    · exact va_runV ⟨C.1, C.2.1, C.2.2.2.1, C.2.2.2.2.1, hts⟩ hM ⟨callB_of As.length hts hm.gd rfl rfl rfl (hts _ hm.2.2.1) (hts _ hlk) hm.2.2.2.1 hR, hts _ hin, hts _ hse⟩ hp rfl (by simp) hl.1 rfl (lv_room hcat) hd ⟨by decide, by decide⟩
    · exact va_runVN ⟨C.1, C.2.1, C.2.2.2.1, C.2.2.2.2.1, hts⟩ hM ⟨va_cnB As.length hts hm.gd rfl rfl rfl (hro.2.2.2.2.2 _ _ _ _ hlk) (hts _ hm.2.2.1) hm.2.2.2.1 hR, hts _ hin, hts _ hse⟩ hp rfl (by simp) hl.1 rfl (lv_room hcat) hd ⟨by decide, by decide⟩
  rw [show (As.reverse ++ .ref o :: S).map (cv ad) = (As.map (cv ad)).reverse ++ .ref (ad o) :: S.map (cv ad) by rw [List.map_append, List.map_reverse, List.map_cons]; rfl]
  intro T0 hT X
  obtain ⟨v, st₀, t, T', Lc, h0, X', hL, e1, e2, ⟨⟨w1, I', J', R', hv1, hk, hp1⟩, hz, hkp⟩, st⟩ := hrun T0 hT X
  rw [h0] at hz hkp
  have hv' : v = some (cv ad w1) := by rw [hv] at hv1; injection hv1
  subst hv'
  obtain ⟨t2, a1, b1⟩ := hk T'.heap (locs ++ Lc) ls (by rw [e1]; exact hp1)
    ⟨Nat.le_trans hS.1 (by rw [e1]; exact hz), fun q h1 h2 => by rw [e1, hkp q (Nat.lt_of_lt_of_le h1 hS.1) h2]; exact hS.2.1 q h1 h2, fun q hq => by
      rcases List.mem_append.mp hq with h | h
      · exact hS.2.2 q h
      · exact hL q h⟩ hl T' rfl X'
  exact ⟨t2, st t2 a1, b1⟩
theorem G_mono {l : Launch} {d : Nat} {mi : MI} {K K' : AK} {pc : Nat} {L S : List Value} {I : AI} {J : AJ} {R : AR} (h : G l d mi K pc L S I J R) (hk : ∀ v I J R, K v I J R → K' v I J R) : G l d mi K' pc L S I J R := by
  intro dC dI cy ad p e s m args below meth c H locs ls C hP hS hl T hT X
  obtain ⟨t, h1, o, g1, g2, ⟨⟨v, I', J', R', q1, q2, q3⟩, q4⟩, g4⟩ := h dC dI cy ad p e s m args below meth c H locs ls C hP hS hl T hT X
  exact ⟨t, h1, o, g1, g2, ⟨⟨v, I', J', R', q1, hk v I' J' R' q2, q3⟩, q4⟩, g4⟩
end LROWS

