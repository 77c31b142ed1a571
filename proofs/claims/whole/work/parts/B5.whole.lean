
section CT
variable {p : Program} {l : Launch} {e : Env} {Rm : Room} {s : State} {m : MethodId} {args : Array Value} {below : List Frame} {meth : Method} {c : Code} {H : Heap} {locs : List Loc} {nc ns pc nL : Nat} {Q : State → Prop} {cc : ByteArray} {own : String} {ls : Array Slot}
theorem ctor_call {idx q0 q ci N' M' dd : Nat} {mj : MI} {fs As S : List Value} {ws wr : va_W} {ty : TY} {dC : Nat → ClassId} {dI : Nat → Nat → Nat} {A : Nat → Prop} {K' : CK} (isR : List Nat) (hx : p.tables.exec = Jvm.exec) (hb : c.code = cc) (hml : c.maxLocals = nL) (hown : s.vm.findClass own = some m.cls) (hts : ∀ w ∈ gt, w.before args s = true) (hNC : NCc s) (hA : ∀ q, s.heap.size ≤ q → A q) (hK : va_K (dC, dI) vwCl ty s) (hP : va_P (dC, dI) vwCl ws H) (hD : va_D A ws) (hS : va_S A s.heap H locs) (hls : ls.size = nL)
    (hd : decode cc pc = .ok (.invokespecial idx, 3)) (ho : okI own idx mj As.length) (hret : mj.2.2.2 = none) (hnm : mj.1.name = "<init>") (hC : ws[q0]? = some (q, .inr (ci, fs))) (hR : isR.map (fun i => ws[i]?) = wr.map some) (hn : va_nd isR = true) (hdis : ∀ i ∈ isR, i ∉ [q0]) (hrc : nc + N' ≤ Rm.cells ∧ ns + M' ≤ Rm.slots) (hfr : dd + 1 ≤ Rm.frames ∧ 8 + (mj.2.2.1 + 11) + 40 * dd ≤ Rm.locals) (hw : (S.map fun v => v.category).sum ≤ 8) (hlg : (lg_sl (.ref q :: As)).length ≤ mj.2.2.1)
    (k : ∀ A', GC l (rmC dd N' M') mj dC dI A' K' N' M' 0 0 0 (lv_args 0 (.ref q :: As)) [] [(q, .inr (ci, fs))] ty)
    (kk : ∀ (w : va_W) (ty' : TY) (H1 : Heap) (locs1 : List Loc), K' w ty' → va_K (dC, dI) vwCl ty' s → va_P (dC, dI) vwCl (wr ++ w) H1 → va_D A (wr ++ w) → va_S A s.heap H1 locs1 → W p l e Rm s m args below meth c H1 locs1 (nc + N') (ns + M') Q (F0 m (pc + 3) ls S)) : W p l e Rm s m args below meth c H locs nc ns Q (F0 m pc ls (As.reverse ++ .ref q :: S)) := by
  have hCm : [q0].map (fun i => ws[i]?) = ([(q, .inr (ci, fs))] : va_W).map some := by simp [hC]
  have hFc := va_free (wc := [(q, .inr (ci, fs))]) hD hS hA [q0] hCm
  have hPc : va_P (dC, dI) vwCl [(q, .inr (ci, fs))] H := hP.sub [q0] (by simp [hC])
  have hDc : va_D A [(q, .inr (ci, fs))] := hD.sub [q0] rfl hCm
  have hM := metC (sz := H.size) ho.1.2.1 hnm hlg (k (va_A [(q, .inr (ci, fs))] H.size))
  have hp : PreS s H (va_Pc (.ref q :: As) (PwC dC dI [(q, .inr (ci, fs))] ty H.size)) (.ref q :: As) := ⟨PwC_blind dC dI _ ty H.size _, fun U hU hW => ⟨rfl, by rw [hU], by rw [hU]; exact hPc, va_K.moved hW.alike hK, hDc.weaken (fun _ _ _ _ => trivial), hNC.warm hW⟩⟩
  have hrun : va_Run p l e Rm s m args below meth c H locs nc ns N' M' (F0 m pc ls (As.reverse ++ .ref q :: S)) S (QmC K' dC dI (va_A [(q, .inr (ci, fs))] H.size) (Value.ref q :: As).toArray) (va_A [(q, .inr (ci, fs))] H.size) := by
    obtain ⟨hm, hin, hlk⟩ := ho
    have hcode : wsM mj = Cond.code mj.1 mj.2.1 mj.2.2.1 none :: gt := by unfold wsM; rw [hret]
    rcases hlk with hlk | ⟨host, hlk⟩
    · exact va_runI ⟨hx, hb, hml, hown, hts⟩ hM ⟨callB_of As.length hts hm.gd hcode rfl rfl (hts _ hm.2.2.1) (hts _ hlk) hm.2.2.2.1 hfr, hnm, hts _ hin⟩ hp rfl rfl hls rfl (lv_room hw) hd hrc
    · exact va_runIN ⟨hx, hb, hml, hown, hts⟩ hM ⟨va_cnB As.length hts hm.gd hcode rfl rfl (hNC.2 _ _ _ _ hlk) (hts _ hm.2.2.1) hm.2.2.2.1 hfr, hnm, hts _ hin⟩ hp rfl rfl hls rfl (lv_room hw) hd hrc
  intro T hT X
  obtain ⟨v, st₀, t, T', L, h0, X', hL, e1, e2, ⟨⟨w1, ty', hv, hk, hPw, hDw, hKw⟩, hz, hkp⟩, st⟩ := hrun T hT X
  rw [h0] at hz hkp
  have hv' : v = none := by injection hv
  subst hv'
  have hal : s.vm.Alike t.vm := by rw [← e2]; exact X'.warmed.alike
  obtain ⟨hPj, hDj⟩ := va_join (wr := wr) (w1 := w1) hP hD [q0] isR hCm hR hn hdis (fun q h1 h2 => (hkp q h1 h2)) hFc hPw hDw
  have hSj : va_S A s.heap T'.heap (locs ++ L) := ⟨Nat.le_trans hS.1 (by rw [e1]; exact hz), fun q h1 h2 => by rw [e1, hkp q (Nat.lt_of_lt_of_le h1 hS.1) (fun h => h2 (hFc q h))]; exact hS.2.1 q h1 h2, fun q hq => by
    rcases List.mem_append.mp hq with h | h
    · exact hS.2.2 q h
    · exact hFc _ (hL q h)⟩
  obtain ⟨t2, a1, b1⟩ := kk w1 ty' T'.heap (locs ++ L) hk (va_K.moved hal.symm hKw) (by rw [e1]; exact hPj) hDj hSj T' rfl X'
  exact ⟨t2, st t2 a1, b1⟩
end CT

def I0 : AI := fun k => if k = 0 then (fun j => ([0, 0, 0, 0, 0, 0, 0, 0, 0, 0, 0, 0, 0, 0, 1, 1, 0] : List Int32).getD j 0) else if k = 35 then (fun j => ([0, 0, 0, 0, 0, 0, 0, -1, -1, 0, 0, 0, 0, 0] : List Int32).getD j 0) else if k = 47 then (upd (upd (upd (upd (fun _ => 0) (0 : Int32).toNatClampNeg (-1)) (1 : Int32).toNatClampNeg (-1)) (2 : Int32).toNatClampNeg (-1)) (3 : Int32).toNatClampNeg (-1)) else if k = 75 then (fun j => ([0, 1, 0, 0, 0, 0, 0, 0, 0, 0, 0, 0, 0, 0, 0, 0, 0, 0, 0, 0, 0, 0, 0, 0, 0, 0, 0, 0, 0, 0, 0, 0, 0, 0, 0, 0, 0, 0, 0, 0, 0, 0, 0, 0, 0, 0, 0, 0, 0, 0] : List Int32).getD j 0) else if k = 103 then (upd (upd (upd (upd (fun _ => 0) (0 : Int32).toNatClampNeg (-1)) (1 : Int32).toNatClampNeg (-1)) (2 : Int32).toNatClampNeg (-1)) (3 : Int32).toNatClampNeg (-1)) else if k = 106 then (upd (upd (upd (upd (fun _ => 0) (0 : Int32).toNatClampNeg (2)) (1 : Int32).toNatClampNeg (2)) (2 : Int32).toNatClampNeg (2)) (3 : Int32).toNatClampNeg (2)) else (fun _ => 0)
def J0 : AJ := fun _ _ => 0
def posL : List Nat := [0, 1, 2, 3, 4, 5, 6, 7, 8, 9, 10, 11, 12, 13, 14, 15, 16, 17, 18, 19, 20, 21, 22, 23, 24, 25, 31, 32, 33, 26, 27, 28, 29, 30, 34, 35, 41, 36, 37, 38, 39, 40, 42, 43, 44, 45, 46, 51, 52, 47, 48, 49, 50, 53, 54, 55, 56, 57, 58, 59, 60, 61, 62, 63, 64, 65, 66, 67, 68, 69, 70, 71, 72, 73, 74, 75, 76, 77, 78, 79, 80, 81, 82, 83, 84, 85, 86, 87, 88, 89, 90, 91, 92, 93, 94, 95, 96, 97, 98, 99, 100, 101, 102, 103, 104, 105, 106, 107, 108, 109]
theorem inv0 : INV I0 false := by
  refine ⟨0, fun _ => 0, ⟨⟨rfl, by decide, fun p hp => absurd hp (Nat.not_lt_zero _), fun p hp => absurd hp (Nat.not_lt_zero _)⟩, ⟨rfl, by decide, fun p hp => absurd hp (Nat.not_lt_zero _), fun p hp => absurd hp (Nat.not_lt_zero _)⟩, WG_0 0, fun p hp => absurd hp (Nat.not_lt_zero _)⟩, ?_, ?_, ?_, ?_, ?_, ?_⟩
  · show I0 0 14 = I0 75 1
    decide
  · exact ⟨by decide, rfl, 0, by decide, by decide⟩
  · exact ⟨0, by decide, by decide, by decide, ⟨fun h => absurd h (Nat.lt_irrefl _), fun i _ h => absurd h (Nat.not_lt_zero _)⟩, fun j h => absurd h (Nat.not_lt_zero _)⟩
  · intro s hs
    rcases (show s = 0 ∨ s = 1 ∨ s = 2 ∨ s = 3 by omega) with rfl | rfl | rfl | rfl
    all_goals exact ⟨by decide, by decide, Or.inl (by decide), ⟨0, by decide, by decide⟩, fun j _ => rfl⟩
  · intro h hh
    rcases (show h = 0 ∨ h = 1 ∨ h = 2 ∨ h = 3 by omega) with rfl | rfl | rfl | rfl
    all_goals exact Or.inl ⟨by decide, by decide⟩
  · exact ⟨by decide, fun h => absurd (show I0 75 42 = 0 by decide) h⟩

theorem lcx : Cond.classLink RL 7 RX11 ∈ gt := (gt_in (inT_1 _ (List.mem_of_getElem? (i := 23) (by decide +kernel))) (by decide +kernel))
theorem lcm : Cond.classLink RL 10 RX12 ∈ gt := (gt_in (inT_5 _ (List.mem_of_getElem? (i := 182) (by decide +kernel))) (by decide +kernel))
def KXw (cy : Nat → ClassId) (x0 : Nat) (ty : TY) : CK := fun (w : va_W) (ty' : TY) => ∃ (o1 : Nat) (o1a1 : Nat) (o1a2 : Nat) (o1a3 : Nat) (o1a4 : Nat) (o2 : Nat) (o2a1 : Nat) (o2a2 : Nat) (o2a3 : Nat) (o2a4 : Nat) (o3 : Nat) (o3a1 : Nat) (o3a2 : Nat) (o3a3 : Nat) (o3a4 : Nat) (o4 : Nat) (o4a1 : Nat) (o4a2 : Nat) (o4a3 : Nat) (o4a4 : Nat) (a5 : Nat) (o6 : Nat) (o6a1 : Nat) (o7 : Nat) (o8 : Nat) (o8o1 : Nat) (o8o1a1 : Nat) (o8o1a2 : Nat) (o8o1a3 : Nat) (o8o1a4 : Nat) (o8a2 : Nat) (o8a3 : Nat) (o8a4 : Nat) (o9 : Nat) (o10 : Nat) (o10o1 : Nat) (o10o1a1 : Nat) (o10o1a2 : Nat) (o10o1a3 : Nat) (o10o1a4 : Nat) (o10a2 : Nat) (o11 : Nat) (o11a1 : Nat) (o11a2 : Nat) (o12 : Nat) (o12cA : ClassId) (o12q0 : Nat) (o12r0 : Nat) (o12r1 : Nat) (o12r2 : Nat) (o12r3 : Nat) (o12a1 : Nat) (o12a2 : Nat) (o13 : Nat) (o13a1 : Nat) (o13a2 : Nat) (o13a3 : Nat) (o14 : Nat) (o14a1 : Nat) (o14a2 : Nat) (o14a3 : Nat) (o14a4 : Nat) (o14a5 : Nat) (o14a6 : Nat) (o14a7 : Nat) (o14a8 : Nat) (o15 : Nat) (o15a1 : Nat) (o15a2 : Nat) (o15a3 : Nat) (o15a4 : Nat) (o15a5 : Nat) (o15a6 : Nat) (o15a7 : Nat) (o15a8 : Nat), w = [(x0, .inr (11, [.ref o1, .ref o2, .ref o3, .ref o4, .ref o6, .ref o7, .ref o8, .ref o9, .ref o10, .ref o11, .ref o12, .ref o13, .ref o14, .ref o15, .int 1, .int 1, .int 0])), (o1, .inr (4, [.ref o1a1, .ref o1a2, .ref o1a3, .ref o1a4, .int 0])), (o1a1, zI cy 12), (o1a2, zI cy 12), (o1a3, zI cy 12), (o1a4, zI cy 12), (o2, .inr (4, [.ref o2a1, .ref o2a2, .ref o2a3, .ref o2a4, .int 0])), (o2a1, zI cy 12), (o2a2, zI cy 12), (o2a3, zI cy 12), (o2a4, zI cy 12), (o3, .inr (4, [.ref o3a1, .ref o3a2, .ref o3a3, .ref o3a4, .int 0])), (o3a1, zI cy 12), (o3a2, zI cy 12), (o3a3, zI cy 12), (o3a4, zI cy 12), (o4, .inr (2, [.ref o4a1, .ref o4a2, .ref o4a3, .ref o4a4, .int 0, .int 0, .int 0, .int 0])), (o4a1, zI cy 12), (o4a2, zI cy 12), (o4a3, zI cy 12), (o4a4, zI cy 12), (a5, zI cy 4096), (o6, .inr (0, [.ref a5, .ref o6a1, .int 0, .int 0, .int 0, .int 0, .int 0])), (o6a1, zI cy 12), (o7, .inr (1, [.int 0, .int 0])), (o8, .inr (3, [.ref o8o1, .ref o8a2, .ref o8a3, .ref o8a4, .int 0, .int 0, .int 0, .int 0])), (o8o1, .inr (2, [.ref o8o1a1, .ref o8o1a2, .ref o8o1a3, .ref o8o1a4, .int 0, .int 0, .int 0, .int 0])), (o8o1a1, zI cy 12), (o8o1a2, zI cy 12), (o8o1a3, zI cy 12), (o8o1a4, zI cy 12), (o8a2, zI cy 12), (o8a3, zI cy 12), (o8a4, zI cy 12), (o9, .inr (5, [.ref a5, .int 0, .int 0])), (o10, .inr (6, [.ref o10o1, .ref o10a2, .int 0, .int 0, .int 0, .int 0, .int 0, .int (-1), .int (-1), .int 0, .int 0, .int 0, .int 0, .int 0])), (o10o1, .inr (2, [.ref o10o1a1, .ref o10o1a2, .ref o10o1a3, .ref o10o1a4, .int 0, .int 0, .int 0, .int 0])), (o10o1a1, zI cy 12), (o10o1a2, zI cy 12), (o10o1a3, zI cy 12), (o10o1a4, zI cy 12), (o10a2, zI cy 60), (o11, .inr (9, [.ref o11a1, .ref o11a2, .int 0, .int 0])), (o11a1, zI cy 200), (o11a2, zI cy 20), (o12, .inr (7, [.ref o12q0, .ref o12a1, .ref o12a2])), (o12q0, zQ o12cA o12r0 o12r1 o12r2 o12r3), (o12r0, zI cy 60), (o12r1, zI cy 60), (o12r2, zI cy 60), (o12r3, zI cy 60), (o12a1, .inl (cy 0, 4, .inl (upd (upd (upd (upd (fun _ => 0) (0 : Int32).toNatClampNeg (-1)) (1 : Int32).toNatClampNeg (-1)) (2 : Int32).toNatClampNeg (-1)) (3 : Int32).toNatClampNeg (-1)))), (o12a2, zI cy 4), (o13, .inr (8, [.ref o13a1, .ref o13a2, .ref o13a3])), (o13a1, zI cy 4), (o13a2, zI cy 4), (o13a3, zI cy 4), (o14, .inr (10, [.ref o14a1, .ref o14a2, .ref o14a3, .ref o14a4, .ref o14a5, .ref o14a6, .ref o14a7, .ref o14a8, .int 0])), (o14a1, zI cy 60), (o14a2, zI cy 60), (o14a3, zI cy 60), (o14a4, zI cy 60), (o14a5, zI cy 60), (o14a6, zJ cy 60), (o14a7, zJ cy 60), (o14a8, zJ cy 60), (o15, .inr (10, [.ref o15a1, .ref o15a2, .ref o15a3, .ref o15a4, .ref o15a5, .ref o15a6, .ref o15a7, .ref o15a8, .int 0])), (o15a1, zI cy 60), (o15a2, zI cy 60), (o15a3, zI cy 60), (o15a4, zI cy 60), (o15a5, zI cy 60), (o15a6, zJ cy 60), (o15a7, zJ cy 60), (o15a8, zJ cy 60)] ∧ ty' = ty ++ [(o12cA, FieldType.array .int)]
def KMw (cy : Nat → ClassId) (m0 : Nat) (ty : TY) : CK := fun (w : va_W) (ty' : TY) => ∃ (ma1 : Nat) (ma2 : Nat) (ma3 : Nat) (ma4 : Nat) (ma5 : Nat) (ma6 : Nat) (ma7 : Nat) (ma8 : Nat) (ma9 : Nat) (ma10 : Nat) (ma11 : Nat) (ma12 : Nat) (ma13 : Nat) (ma14 : Nat) (ma15 : Nat) (ma16 : Nat) (ma17 : Nat) (ma18 : Nat) (ma19 : Nat) (ma20 : Nat) (ma21 : Nat) (ma22 : Nat) (ma23 : Nat) (ma24 : Nat) (ma25 : Nat) (ma26 : Nat) (ma27 : Nat) (ma28 : Nat) (ma29 : Nat) (ma30 : Nat) (ma31 : Nat) (ma32 : Nat) (ma33 : Nat) (ma34 : Nat), w = [(m0, .inr (12, [.int 0, .int 1, .ref ma1, .ref ma2, .ref ma3, .ref ma4, .int 0, .ref ma5, .ref ma6, .int 0, .int 0, .int 0, .int 0, .ref ma7, .ref ma8, .ref ma9, .int 0, .int 0, .int 0, .int 0, .ref ma10, .ref ma11, .int 0, .ref ma12, .ref ma13, .int 0, .int 0, .ref ma14, .ref ma15, .ref ma16, .int 0, .ref ma17, .ref ma18, .ref ma19, .ref ma20, .ref ma21, .ref ma22, .ref ma23, .ref ma24, .ref ma25, .ref ma26, .ref ma27, .int 0, .ref ma28, .ref ma29, .ref ma30, .ref ma31, .ref ma32, .ref ma33, .ref ma34])), (ma1, zI cy 12), (ma2, zI cy 12), (ma3, zI cy 12), (ma4, zI cy 12), (ma5, zI cy 12), (ma6, zI cy 12), (ma7, zI cy 3), (ma8, zI cy 4096), (ma9, zI cy 4096), (ma10, zI cy 5), (ma11, zI cy 60), (ma12, zI cy 12), (ma13, zI cy 200), (ma14, zI cy 60), (ma15, zI cy 60), (ma16, zI cy 60), (ma17, zI cy 60), (ma18, zI cy 60), (ma19, zI cy 60), (ma20, zJ cy 60), (ma21, zJ cy 60), (ma22, zJ cy 60), (ma23, zJ cy 60), (ma24, zJ cy 60), (ma25, zZ cy 60), (ma26, zI cy 38), (ma27, zI cy 38), (ma28, .inl (cy 0, 4, .inl (upd (upd (upd (upd (fun _ => 0) (0 : Int32).toNatClampNeg (-1)) (1 : Int32).toNatClampNeg (-1)) (2 : Int32).toNatClampNeg (-1)) (3 : Int32).toNatClampNeg (-1)))), (ma29, zI cy 4), (ma30, zI cy 240), (ma31, .inl (cy 0, 4, .inl (upd (upd (upd (upd (fun _ => 0) (0 : Int32).toNatClampNeg (2)) (1 : Int32).toNatClampNeg (2)) (2 : Int32).toNatClampNeg (2)) (3 : Int32).toNatClampNeg (2)))), (ma32, zI cy 4), (ma33, zI cy 4), (ma34, zI cy 4)] ∧ ty' = ty
theorem kn13 {s : State} {b : Nat} (hts : ∀ w ∈ gt, w.before #[Value.ref b] s = true) : ∃ f : Nat → ClassId × (Nat → Nat), ∀ (k : Nat) (x : vw_C), vwCl[k]? = some x → u_Kn s x.1 x.2.1 x.2.2 (f k).1 (f k).2 := by
  have hex : ∀ k : Nat, ∃ q : ClassId × (Nat → Nat), ∀ x : vw_C, vwCl[k]? = some x → u_Kn s x.1 x.2.1 x.2.2 q.1 q.2 := by
    intro k
    match k with
    | 0 => obtain ⟨c, iS, h⟩ := u_known (C := RX0) (T := TX0) (N := 7) (n := 7) hts ok_X0.2.2.1 (hts _ in_X0); exact ⟨(c, iS), fun x hx => by cases hx; exact h⟩
    | 1 => obtain ⟨c, iS, h⟩ := u_known (C := RX1) (T := TX1) (N := 2) (n := 2) hts ok_X1.2.2.1 (hts _ in_X1); exact ⟨(c, iS), fun x hx => by cases hx; exact h⟩
    | 2 => obtain ⟨c, iS, h⟩ := u_known (C := RX2) (T := TX2) (N := 8) (n := 8) hts ok_X2.2.2.1 (hts _ in_X2); exact ⟨(c, iS), fun x hx => by cases hx; exact h⟩
    | 3 => obtain ⟨c, iS, h⟩ := u_known (C := RX3) (T := TX3) (N := 8) (n := 8) hts ok_X3.2.2.1 (hts _ in_X3); exact ⟨(c, iS), fun x hx => by cases hx; exact h⟩
    | 4 => obtain ⟨c, iS, h⟩ := u_known (C := RX4) (T := TX4) (N := 5) (n := 5) hts ok_X4.2.2.1 (hts _ in_X4); exact ⟨(c, iS), fun x hx => by cases hx; exact h⟩
    | 5 => obtain ⟨c, iS, h⟩ := u_known (C := RX5) (T := TX5) (N := 3) (n := 3) hts ok_X5.2.2.1 (hts _ in_X5); exact ⟨(c, iS), fun x hx => by cases hx; exact h⟩
    | 6 => obtain ⟨c, iS, h⟩ := u_known (C := RX6) (T := TX6) (N := 14) (n := 14) hts ok_X6.2.2.1 (hts _ in_X6); exact ⟨(c, iS), fun x hx => by cases hx; exact h⟩
    | 7 => obtain ⟨c, iS, h⟩ := u_known (C := RX7) (T := TX7) (N := 3) (n := 3) hts ok_X7.2.2.1 (hts _ in_X7); exact ⟨(c, iS), fun x hx => by cases hx; exact h⟩
    | 8 => obtain ⟨c, iS, h⟩ := u_known (C := RX8) (T := TX8) (N := 3) (n := 3) hts ok_X8.2.2.1 (hts _ in_X8); exact ⟨(c, iS), fun x hx => by cases hx; exact h⟩
    | 9 => obtain ⟨c, iS, h⟩ := u_known (C := RX9) (T := TX9) (N := 4) (n := 4) hts ok_X9.2.2.1 (hts _ in_X9); exact ⟨(c, iS), fun x hx => by cases hx; exact h⟩
    | 10 => obtain ⟨c, iS, h⟩ := u_known (C := RX10) (T := TX10) (N := 9) (n := 9) hts ok_X10.2.2.1 (hts _ in_X10); exact ⟨(c, iS), fun x hx => by cases hx; exact h⟩
    | 11 => obtain ⟨c, iS, h⟩ := u_known (C := RX11) (T := TX11) (N := 17) (n := 17) hts ok_X11.2.2.1 (hts _ in_X11); exact ⟨(c, iS), fun x hx => by cases hx; exact h⟩
    | 12 => obtain ⟨c, iS, h⟩ := u_known (C := RX12) (T := TX12) (N := 50) (n := 50) hts ok_X12.2.2.1 (hts _ in_X12); exact ⟨(c, iS), fun x hx => by cases hx; exact h⟩
    | k + 13 => exact ⟨(0, fun _ => 0), fun x hx => by simp at hx⟩
  exact Classical.axiomOfChoice hex
def adF (al : List Nat) (t0 tf b : Nat) (adK adV : Nat → Nat) (k : Nat) : Nat := if k < 110 then al.getD k 0 else if k = 1000 then t0 else if k = 1020 then tf else if k = 1030 then b else if k < 1007 then adK (k - 1001) else adV (k - 1011)
theorem pos_inj : ∀ i : Nat, i < 110 → ∀ j : Nat, j < 110 → posL.getD i 0 = posL.getD j 0 → i = j := by decide +kernel
def cyF (c0 c1 c2 c3 : ClassId) (k : Nat) : ClassId := if k = 0 then c0 else if k = 1 then c1 else if k = 2 then c2 else c3
set_option maxRecDepth 100000 in
set_option maxHeartbeats 4000000 in
theorem world_at (c0 c1 c2 o12cA : ClassId) (x0 : Nat) (o1 : Nat) (o1a1 : Nat) (o1a2 : Nat) (o1a3 : Nat) (o1a4 : Nat) (o2 : Nat) (o2a1 : Nat) (o2a2 : Nat) (o2a3 : Nat) (o2a4 : Nat) (o3 : Nat) (o3a1 : Nat) (o3a2 : Nat) (o3a3 : Nat) (o3a4 : Nat) (o4 : Nat) (o4a1 : Nat) (o4a2 : Nat) (o4a3 : Nat) (o4a4 : Nat) (a5 : Nat) (o6 : Nat) (o6a1 : Nat) (o7 : Nat) (o8 : Nat) (o8o1 : Nat) (o8o1a1 : Nat) (o8o1a2 : Nat) (o8o1a3 : Nat) (o8o1a4 : Nat) (o8a2 : Nat) (o8a3 : Nat) (o8a4 : Nat) (o9 : Nat) (o10 : Nat) (o10o1 : Nat) (o10o1a1 : Nat) (o10o1a2 : Nat) (o10o1a3 : Nat) (o10o1a4 : Nat) (o10a2 : Nat) (o11 : Nat) (o11a1 : Nat) (o11a2 : Nat) (o12 : Nat) (o12q0 : Nat) (o12r0 : Nat) (o12r1 : Nat) (o12r2 : Nat) (o12r3 : Nat) (o12a1 : Nat) (o12a2 : Nat) (o13 : Nat) (o13a1 : Nat) (o13a2 : Nat) (o13a3 : Nat) (o14 : Nat) (o14a1 : Nat) (o14a2 : Nat) (o14a3 : Nat) (o14a4 : Nat) (o14a5 : Nat) (o14a6 : Nat) (o14a7 : Nat) (o14a8 : Nat) (o15 : Nat) (o15a1 : Nat) (o15a2 : Nat) (o15a3 : Nat) (o15a4 : Nat) (o15a5 : Nat) (o15a6 : Nat) (o15a7 : Nat) (o15a8 : Nat) (m0 : Nat) (ma1 : Nat) (ma2 : Nat) (ma3 : Nat) (ma4 : Nat) (ma5 : Nat) (ma6 : Nat) (ma7 : Nat) (ma8 : Nat) (ma9 : Nat) (ma10 : Nat) (ma11 : Nat) (ma12 : Nat) (ma13 : Nat) (ma14 : Nat) (ma15 : Nat) (ma16 : Nat) (ma17 : Nat) (ma18 : Nat) (ma19 : Nat) (ma20 : Nat) (ma21 : Nat) (ma22 : Nat) (ma23 : Nat) (ma24 : Nat) (ma25 : Nat) (ma26 : Nat) (ma27 : Nat) (ma28 : Nat) (ma29 : Nat) (ma30 : Nat) (ma31 : Nat) (ma32 : Nat) (ma33 : Nat) (ma34 : Nat) (t0 tf b : Nat) (adK adV : Nat → Nat) : ∀ k : Nat, k < 110 → (([(x0, .inr (11, [.ref o1, .ref o2, .ref o3, .ref o4, .ref o6, .ref o7, .ref o8, .ref o9, .ref o10, .ref o11, .ref o12, .ref o13, .ref o14, .ref o15, .int 1, .int 1, .int 0])), (o1, .inr (4, [.ref o1a1, .ref o1a2, .ref o1a3, .ref o1a4, .int 0])), (o1a1, zI (cyF c0 c1 c2 o12cA) 12), (o1a2, zI (cyF c0 c1 c2 o12cA) 12), (o1a3, zI (cyF c0 c1 c2 o12cA) 12), (o1a4, zI (cyF c0 c1 c2 o12cA) 12), (o2, .inr (4, [.ref o2a1, .ref o2a2, .ref o2a3, .ref o2a4, .int 0])), (o2a1, zI (cyF c0 c1 c2 o12cA) 12), (o2a2, zI (cyF c0 c1 c2 o12cA) 12), (o2a3, zI (cyF c0 c1 c2 o12cA) 12), (o2a4, zI (cyF c0 c1 c2 o12cA) 12), (o3, .inr (4, [.ref o3a1, .ref o3a2, .ref o3a3, .ref o3a4, .int 0])), (o3a1, zI (cyF c0 c1 c2 o12cA) 12), (o3a2, zI (cyF c0 c1 c2 o12cA) 12), (o3a3, zI (cyF c0 c1 c2 o12cA) 12), (o3a4, zI (cyF c0 c1 c2 o12cA) 12), (o4, .inr (2, [.ref o4a1, .ref o4a2, .ref o4a3, .ref o4a4, .int 0, .int 0, .int 0, .int 0])), (o4a1, zI (cyF c0 c1 c2 o12cA) 12), (o4a2, zI (cyF c0 c1 c2 o12cA) 12), (o4a3, zI (cyF c0 c1 c2 o12cA) 12), (o4a4, zI (cyF c0 c1 c2 o12cA) 12), (a5, zI (cyF c0 c1 c2 o12cA) 4096), (o6, .inr (0, [.ref a5, .ref o6a1, .int 0, .int 0, .int 0, .int 0, .int 0])), (o6a1, zI (cyF c0 c1 c2 o12cA) 12), (o7, .inr (1, [.int 0, .int 0])), (o8, .inr (3, [.ref o8o1, .ref o8a2, .ref o8a3, .ref o8a4, .int 0, .int 0, .int 0, .int 0])), (o8o1, .inr (2, [.ref o8o1a1, .ref o8o1a2, .ref o8o1a3, .ref o8o1a4, .int 0, .int 0, .int 0, .int 0])), (o8o1a1, zI (cyF c0 c1 c2 o12cA) 12), (o8o1a2, zI (cyF c0 c1 c2 o12cA) 12), (o8o1a3, zI (cyF c0 c1 c2 o12cA) 12), (o8o1a4, zI (cyF c0 c1 c2 o12cA) 12), (o8a2, zI (cyF c0 c1 c2 o12cA) 12), (o8a3, zI (cyF c0 c1 c2 o12cA) 12), (o8a4, zI (cyF c0 c1 c2 o12cA) 12), (o9, .inr (5, [.ref a5, .int 0, .int 0])), (o10, .inr (6, [.ref o10o1, .ref o10a2, .int 0, .int 0, .int 0, .int 0, .int 0, .int (-1), .int (-1), .int 0, .int 0, .int 0, .int 0, .int 0])), (o10o1, .inr (2, [.ref o10o1a1, .ref o10o1a2, .ref o10o1a3, .ref o10o1a4, .int 0, .int 0, .int 0, .int 0])), (o10o1a1, zI (cyF c0 c1 c2 o12cA) 12), (o10o1a2, zI (cyF c0 c1 c2 o12cA) 12), (o10o1a3, zI (cyF c0 c1 c2 o12cA) 12), (o10o1a4, zI (cyF c0 c1 c2 o12cA) 12), (o10a2, zI (cyF c0 c1 c2 o12cA) 60), (o11, .inr (9, [.ref o11a1, .ref o11a2, .int 0, .int 0])), (o11a1, zI (cyF c0 c1 c2 o12cA) 200), (o11a2, zI (cyF c0 c1 c2 o12cA) 20), (o12, .inr (7, [.ref o12q0, .ref o12a1, .ref o12a2])), (o12q0, zQ o12cA o12r0 o12r1 o12r2 o12r3), (o12r0, zI (cyF c0 c1 c2 o12cA) 60), (o12r1, zI (cyF c0 c1 c2 o12cA) 60), (o12r2, zI (cyF c0 c1 c2 o12cA) 60), (o12r3, zI (cyF c0 c1 c2 o12cA) 60), (o12a1, .inl ((cyF c0 c1 c2 o12cA) 0, 4, .inl (upd (upd (upd (upd (fun _ => 0) (0 : Int32).toNatClampNeg (-1)) (1 : Int32).toNatClampNeg (-1)) (2 : Int32).toNatClampNeg (-1)) (3 : Int32).toNatClampNeg (-1)))), (o12a2, zI (cyF c0 c1 c2 o12cA) 4), (o13, .inr (8, [.ref o13a1, .ref o13a2, .ref o13a3])), (o13a1, zI (cyF c0 c1 c2 o12cA) 4), (o13a2, zI (cyF c0 c1 c2 o12cA) 4), (o13a3, zI (cyF c0 c1 c2 o12cA) 4), (o14, .inr (10, [.ref o14a1, .ref o14a2, .ref o14a3, .ref o14a4, .ref o14a5, .ref o14a6, .ref o14a7, .ref o14a8, .int 0])), (o14a1, zI (cyF c0 c1 c2 o12cA) 60), (o14a2, zI (cyF c0 c1 c2 o12cA) 60), (o14a3, zI (cyF c0 c1 c2 o12cA) 60), (o14a4, zI (cyF c0 c1 c2 o12cA) 60), (o14a5, zI (cyF c0 c1 c2 o12cA) 60), (o14a6, zJ (cyF c0 c1 c2 o12cA) 60), (o14a7, zJ (cyF c0 c1 c2 o12cA) 60), (o14a8, zJ (cyF c0 c1 c2 o12cA) 60), (o15, .inr (10, [.ref o15a1, .ref o15a2, .ref o15a3, .ref o15a4, .ref o15a5, .ref o15a6, .ref o15a7, .ref o15a8, .int 0])), (o15a1, zI (cyF c0 c1 c2 o12cA) 60), (o15a2, zI (cyF c0 c1 c2 o12cA) 60), (o15a3, zI (cyF c0 c1 c2 o12cA) 60), (o15a4, zI (cyF c0 c1 c2 o12cA) 60), (o15a5, zI (cyF c0 c1 c2 o12cA) 60), (o15a6, zJ (cyF c0 c1 c2 o12cA) 60), (o15a7, zJ (cyF c0 c1 c2 o12cA) 60), (o15a8, zJ (cyF c0 c1 c2 o12cA) 60)] : va_W) ++ [(m0, .inr (12, [.int 0, .int 1, .ref ma1, .ref ma2, .ref ma3, .ref ma4, .int 0, .ref ma5, .ref ma6, .int 0, .int 0, .int 0, .int 0, .ref ma7, .ref ma8, .ref ma9, .int 0, .int 0, .int 0, .int 0, .ref ma10, .ref ma11, .int 0, .ref ma12, .ref ma13, .int 0, .int 0, .ref ma14, .ref ma15, .ref ma16, .int 0, .ref ma17, .ref ma18, .ref ma19, .ref ma20, .ref ma21, .ref ma22, .ref ma23, .ref ma24, .ref ma25, .ref ma26, .ref ma27, .int 0, .ref ma28, .ref ma29, .ref ma30, .ref ma31, .ref ma32, .ref ma33, .ref ma34])), (ma1, zI (cyF c0 c1 c2 o12cA) 12), (ma2, zI (cyF c0 c1 c2 o12cA) 12), (ma3, zI (cyF c0 c1 c2 o12cA) 12), (ma4, zI (cyF c0 c1 c2 o12cA) 12), (ma5, zI (cyF c0 c1 c2 o12cA) 12), (ma6, zI (cyF c0 c1 c2 o12cA) 12), (ma7, zI (cyF c0 c1 c2 o12cA) 3), (ma8, zI (cyF c0 c1 c2 o12cA) 4096), (ma9, zI (cyF c0 c1 c2 o12cA) 4096), (ma10, zI (cyF c0 c1 c2 o12cA) 5), (ma11, zI (cyF c0 c1 c2 o12cA) 60), (ma12, zI (cyF c0 c1 c2 o12cA) 12), (ma13, zI (cyF c0 c1 c2 o12cA) 200), (ma14, zI (cyF c0 c1 c2 o12cA) 60), (ma15, zI (cyF c0 c1 c2 o12cA) 60), (ma16, zI (cyF c0 c1 c2 o12cA) 60), (ma17, zI (cyF c0 c1 c2 o12cA) 60), (ma18, zI (cyF c0 c1 c2 o12cA) 60), (ma19, zI (cyF c0 c1 c2 o12cA) 60), (ma20, zJ (cyF c0 c1 c2 o12cA) 60), (ma21, zJ (cyF c0 c1 c2 o12cA) 60), (ma22, zJ (cyF c0 c1 c2 o12cA) 60), (ma23, zJ (cyF c0 c1 c2 o12cA) 60), (ma24, zJ (cyF c0 c1 c2 o12cA) 60), (ma25, zZ (cyF c0 c1 c2 o12cA) 60), (ma26, zI (cyF c0 c1 c2 o12cA) 38), (ma27, zI (cyF c0 c1 c2 o12cA) 38), (ma28, .inl ((cyF c0 c1 c2 o12cA) 0, 4, .inl (upd (upd (upd (upd (fun _ => 0) (0 : Int32).toNatClampNeg (-1)) (1 : Int32).toNatClampNeg (-1)) (2 : Int32).toNatClampNeg (-1)) (3 : Int32).toNatClampNeg (-1)))), (ma29, zI (cyF c0 c1 c2 o12cA) 4), (ma30, zI (cyF c0 c1 c2 o12cA) 240), (ma31, .inl ((cyF c0 c1 c2 o12cA) 0, 4, .inl (upd (upd (upd (upd (fun _ => 0) (0 : Int32).toNatClampNeg (2)) (1 : Int32).toNatClampNeg (2)) (2 : Int32).toNatClampNeg (2)) (3 : Int32).toNatClampNeg (2)))), (ma32, zI (cyF c0 c1 c2 o12cA) 4), (ma33, zI (cyF c0 c1 c2 o12cA) 4), (ma34, zI (cyF c0 c1 c2 o12cA) 4)])[posL.getD k 0]? = some (adF [x0, o1, o1a1, o1a2, o1a3, o1a4, o2, o2a1, o2a2, o2a3, o2a4, o3, o3a1, o3a2, o3a3, o3a4, o4, o4a1, o4a2, o4a3, o4a4, a5, o6, o6a1, o7, o8, o8a2, o8a3, o8a4, o8o1, o8o1a1, o8o1a2, o8o1a3, o8o1a4, o9, o10, o10a2, o10o1, o10o1a1, o10o1a2, o10o1a3, o10o1a4, o11, o11a1, o11a2, o12, o12q0, o12a1, o12a2, o12r0, o12r1, o12r2, o12r3, o13, o13a1, o13a2, o13a3, o14, o14a1, o14a2, o14a3, o14a4, o14a5, o14a6, o14a7, o14a8, o15, o15a1, o15a2, o15a3, o15a4, o15a5, o15a6, o15a7, o15a8, m0, ma1, ma2, ma3, ma4, ma5, ma6, ma7, ma8, ma9, ma10, ma11, ma12, ma13, ma14, ma15, ma16, ma17, ma18, ma19, ma20, ma21, ma22, ma23, ma24, ma25, ma26, ma27, ma28, ma29, ma30, ma31, ma32, ma33, ma34] t0 tf b adK adV k, ce (adF [x0, o1, o1a1, o1a2, o1a3, o1a4, o2, o2a1, o2a2, o2a3, o2a4, o3, o3a1, o3a2, o3a3, o3a4, o4, o4a1, o4a2, o4a3, o4a4, a5, o6, o6a1, o7, o8, o8a2, o8a3, o8a4, o8o1, o8o1a1, o8o1a2, o8o1a3, o8o1a4, o9, o10, o10a2, o10o1, o10o1a1, o10o1a2, o10o1a3, o10o1a4, o11, o11a1, o11a2, o12, o12q0, o12a1, o12a2, o12r0, o12r1, o12r2, o12r3, o13, o13a1, o13a2, o13a3, o14, o14a1, o14a2, o14a3, o14a4, o14a5, o14a6, o14a7, o14a8, o15, o15a1, o15a2, o15a3, o15a4, o15a5, o15a6, o15a7, o15a8, m0, ma1, ma2, ma3, ma4, ma5, ma6, ma7, ma8, ma9, ma10, ma11, ma12, ma13, ma14, ma15, ma16, ma17, ma18, ma19, ma20, ma21, ma22, ma23, ma24, ma25, ma26, ma27, ma28, ma29, ma30, ma31, ma32, ma33, ma34] t0 tf b adK adV) (cyF c0 c1 c2 o12cA) I0 J0 (rX false) k) := by
  intro k hk
  match k, hk with
  | 0, _ => rfl
  | 1, _ => rfl
  | 2, _ => rfl
  | 3, _ => rfl
  | 4, _ => rfl
  | 5, _ => rfl
  | 6, _ => rfl
  | 7, _ => rfl
  | 8, _ => rfl
  | 9, _ => rfl
  | 10, _ => rfl
  | 11, _ => rfl
  | 12, _ => rfl
  | 13, _ => rfl
  | 14, _ => rfl
  | 15, _ => rfl
  | 16, _ => rfl
  | 17, _ => rfl
  | 18, _ => rfl
  | 19, _ => rfl
  | 20, _ => rfl
  | 21, _ => rfl
  | 22, _ => rfl
  | 23, _ => rfl
  | 24, _ => rfl
  | 25, _ => rfl
  | 26, _ => rfl
  | 27, _ => rfl
  | 28, _ => rfl
  | 29, _ => rfl
  | 30, _ => rfl
  | 31, _ => rfl
  | 32, _ => rfl
  | 33, _ => rfl
  | 34, _ => rfl
  | 35, _ => rfl
  | 36, _ => rfl
  | 37, _ => rfl
  | 38, _ => rfl
  | 39, _ => rfl
  | 40, _ => rfl
  | 41, _ => rfl
  | 42, _ => rfl
  | 43, _ => rfl
  | 44, _ => rfl
  | 45, _ => rfl
  | 46, _ =>
    have ef : (fun i => if i = 0 then some o12r0 else if i = 1 then some o12r1 else if i = 2 then some o12r2 else if i = 3 then some o12r3 else none : Nat → Option Nat) = (fun j => (rX false 46 j).map (adF [x0, o1, o1a1, o1a2, o1a3, o1a4, o2, o2a1, o2a2, o2a3, o2a4, o3, o3a1, o3a2, o3a3, o3a4, o4, o4a1, o4a2, o4a3, o4a4, a5, o6, o6a1, o7, o8, o8a2, o8a3, o8a4, o8o1, o8o1a1, o8o1a2, o8o1a3, o8o1a4, o9, o10, o10a2, o10o1, o10o1a1, o10o1a2, o10o1a3, o10o1a4, o11, o11a1, o11a2, o12, o12q0, o12a1, o12a2, o12r0, o12r1, o12r2, o12r3, o13, o13a1, o13a2, o13a3, o14, o14a1, o14a2, o14a3, o14a4, o14a5, o14a6, o14a7, o14a8, o15, o15a1, o15a2, o15a3, o15a4, o15a5, o15a6, o15a7, o15a8, m0, ma1, ma2, ma3, ma4, ma5, ma6, ma7, ma8, ma9, ma10, ma11, ma12, ma13, ma14, ma15, ma16, ma17, ma18, ma19, ma20, ma21, ma22, ma23, ma24, ma25, ma26, ma27, ma28, ma29, ma30, ma31, ma32, ma33, ma34] t0 tf b adK adV)) := by
      funext j
      match j with
      | 0 => rfl
      | 1 => rfl
      | 2 => rfl
      | 3 => rfl
      | j + 4 =>
        show (if j + 4 = 0 then some o12r0 else if j + 4 = 1 then some o12r1 else if j + 4 = 2 then some o12r2 else if j + 4 = 3 then some o12r3 else none : Option Nat) = _
        rw [if_neg (by omega), if_neg (by omega), if_neg (by omega), if_neg (by omega)]
        rfl
    exact congrArg (fun F : Nat → Option Nat => (some (o12q0, (.inl (o12cA, 4, .inr (.inr (.inr (.inr F)))) : va_E)) : Option (Nat × va_E))) ef
  | 47, _ => rfl
  | 48, _ => rfl
  | 49, _ => rfl
  | 50, _ => rfl
  | 51, _ => rfl
  | 52, _ => rfl
  | 53, _ => rfl
  | 54, _ => rfl
  | 55, _ => rfl
  | 56, _ => rfl
  | 57, _ => rfl
  | 58, _ => rfl
  | 59, _ => rfl
  | 60, _ => rfl
  | 61, _ => rfl
  | 62, _ => rfl
  | 63, _ => rfl
  | 64, _ => rfl
  | 65, _ => rfl
  | 66, _ => rfl
  | 67, _ => rfl
  | 68, _ => rfl
  | 69, _ => rfl
  | 70, _ => rfl
  | 71, _ => rfl
  | 72, _ => rfl
  | 73, _ => rfl
  | 74, _ => rfl
  | 75, _ => rfl
  | 76, _ => rfl
  | 77, _ => rfl
  | 78, _ => rfl
  | 79, _ => rfl
  | 80, _ => rfl
  | 81, _ => rfl
  | 82, _ => rfl
  | 83, _ => rfl
  | 84, _ => rfl
  | 85, _ => rfl
  | 86, _ => rfl
  | 87, _ => rfl
  | 88, _ => rfl
  | 89, _ => rfl
  | 90, _ => rfl
  | 91, _ => rfl
  | 92, _ => rfl
  | 93, _ => rfl
  | 94, _ => rfl
  | 95, _ => rfl
  | 96, _ => rfl
  | 97, _ => rfl
  | 98, _ => rfl
  | 99, _ => rfl
  | 100, _ => rfl
  | 101, _ => rfl
  | 102, _ => rfl
  | 103, _ => rfl
  | 104, _ => rfl
  | 105, _ => rfl
  | 106, _ => rfl
  | 107, _ => rfl
  | 108, _ => rfl
  | 109, _ => rfl
  | k + 110, h => exact absurd h (by omega)
