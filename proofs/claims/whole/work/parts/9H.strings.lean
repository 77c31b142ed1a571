def swB (i j : Nat) : Int32 := (stByt.getD i []).getD j 0
def swL (i : Nat) : Nat := stLen.getD i 0
section STR
variable {l : Launch} {d : Nat} {mi mj : MI} {K : AK} {pc nx idx : Nat} {L S : List Value} {I : AI} {J : AJ} {R : AR} {As : List Value}
def okG (own : String) (idx : Nat) (c n t : String) : Prop := Cond.fieldLink own idx c n t ∈ gt
theorem G_gsKA (hd : D mi.2.1 pc (.getstatic idx) 3 nx) (hf : okG mi.1.cls idx RX11 "KIND_ABOVE" "[I") (k : G l d mi K nx L (.ref 1000 :: S) I J R) : G l d mi K pc L (S) I J R := by
  intro dC dI cy ad p e s m args below meth c H locs ls C hP hS hl
  obtain ⟨hd, rfl⟩ := hd
  exact va_gets C.1 C.2.1 C.ro.1.1 hS C.own (C.ts _ hf) (fun x h => h) hd (k dC dI cy ad p e s m args below meth c H locs ls C hP hS hl)
theorem G_gsCS (hd : D mi.2.1 pc (.getstatic idx) 3 nx) (hf : okG mi.1.cls idx "java/lang/String" "COMPACT_STRINGS" "Z") (k : G l d mi K nx L (.int 1 :: S) I J R) : G l d mi K pc L (S) I J R := by
  intro dC dI cy ad p e s m args below meth c H locs ls C hP hS hl
  obtain ⟨hd, rfl⟩ := hd
  exact va_gets C.1 C.2.1 C.ro.2.2.1 hS C.own (C.ts _ hf) (fun x h => h) hd (k dC dI cy ad p e s m args below meth c H locs ls C hP hS hl)
theorem G_gsSF (hd : D mi.2.1 pc (.getstatic idx) 3 nx) (hf : okG mi.1.cls idx "jdk/internal/util/Preconditions" "SIOOBE_FORMATTER" "Ljava/util/function/BiFunction;") (k : ∀ v : Value, (v = .null ∨ v = .ref 1020) → G l d mi K nx L (v :: S) I J R) : G l d mi K pc L S I J R := by
  intro dC dI cy ad p e s m args below meth c H locs ls C hP hS hl
  obtain ⟨hd, rfl⟩ := hd
  rcases C.ro.1.2 with h | h
  · exact va_gets C.1 C.2.1 h hS C.own (C.ts _ hf) (fun x h => h) hd (k .null (Or.inl rfl) dC dI cy ad p e s m args below meth c H locs ls C hP hS hl)
  · exact va_gets C.1 C.2.1 h hS C.own (C.ts _ hf) (fun x h => h) hd (k (.ref 1020) (Or.inr rfl) dC dI cy ad p e s m args below meth c H locs ls C hP hS hl)
theorem G_gfvalue {i : Nat} (hd : D mi.2.1 pc (.getfield idx) 3 nx) (hf : okG mi.1.cls idx "java/lang/String" "value" "[B") (hi : i < 6) (k : G l d mi K nx L (.ref (1011 + i) :: S) I J R) : G l d mi K pc L (.ref (1001 + i) :: S) I J R := by
  intro dC dI cy ad p e s m args below meth c H locs ls C hP hS hl
  obtain ⟨hd, rfl⟩ := hd
  exact vk_getf C.1 C.2.1 (C.ro.2.2.2.1.1 i hi).2.2.1 hS C.own (C.ts _ hf) (fun x h => h) hd (k dC dI cy ad p e s m args below meth c H locs ls C hP hS hl)
theorem G_gfcoder {i : Nat} (hd : D mi.2.1 pc (.getfield idx) 3 nx) (hf : okG mi.1.cls idx "java/lang/String" "coder" "B") (hi : i < 6) (k : G l d mi K nx L (.int 0 :: S) I J R) : G l d mi K pc L (.ref (1001 + i) :: S) I J R := by
  intro dC dI cy ad p e s m args below meth c H locs ls C hP hS hl
  obtain ⟨hd, rfl⟩ := hd
  exact vk_getf C.1 C.2.1 (C.ro.2.2.2.1.1 i hi).2.1 hS C.own (C.ts _ hf) (fun x h => h) hd (k dC dI cy ad p e s m args below meth c H locs ls C hP hS hl)
theorem G_blen {i : Nat} (hd : D mi.2.1 pc (.arraylength) 1 nx) (hi : i < 6) (k : G l d mi K nx L (.int (nI (swL i)) :: S) I J R) : G l d mi K pc L (.ref (1011 + i) :: S) I J R := by
  intro dC dI cy ad p e s m args below meth c H locs ls C hP hS hl
  obtain ⟨hd, rfl⟩ := hd
  exact va_tlen C.1 C.2.1 (C.ro.2.2.2.1.1 i hi).2.2.2 hS rfl hd (k dC dI cy ad p e s m args below meth c H locs ls C hP hS hl)
theorem G_bald {i : Nat} {x : Int32} (hd : D mi.2.1 pc (.baload) 1 nx) (hi : i < 6) (hx : vp_in x (swL i)) (k : G l d mi K nx L (.int (swB i x.toNatClampNeg) :: S) I J R) : G l d mi K pc L (.int x :: .ref (1011 + i) :: S) I J R := by
  intro dC dI cy ad p e s m args below meth c H locs ls C hP hS hl
  obtain ⟨hd, rfl⟩ := hd
  exact va_tb C.1 C.2.1 (C.ro.2.2.2.1.1 i hi).2.2.2 hS hx rfl hd (k dC dI cy ad p e s m args below meth c H locs ls C hP hS hl)
theorem G_kald {x : Int32} (hd : D mi.2.1 pc (.iaload) 1 nx) (hx : vp_in x 6) (k : G l d mi K nx L (.int (kab x.toNatClampNeg) :: S) I J R) : G l d mi K pc L (.int x :: .ref 1000 :: S) I J R := by
  intro dC dI cy ad p e s m args below meth c H locs ls C hP hS hl
  obtain ⟨hd, rfl⟩ := hd
  exact va_ti C.1 C.2.1 C.ro.2.1 hS hx rfl hd (k dC dI cy ad p e s m args below meth c H locs ls C hP hS hl)
def okQ (own : String) (idx : Nat) (mj : MI) (n : Nat) : Prop := okM mj n ∧ Cond.instanceMethod mj.1 ∈ gt ∧ Cond.selects mj.1.cls mj.1 mj.1 ∈ gt ∧ Cond.methodLink own idx mj.1 ∈ gt ∧ mj.1.cls = "java/lang/String"
theorem runQ_go {dC : Nat → ClassId} {dI : Nat → Nat → Nat} {cy : Nat → ClassId} {ad : Nat → Nat} {p : Program} {e : Env} {s : State} {m : MethodId} {args : Array Value} {below : List Frame} {meth : Method} {c : Code} {H : Heap} {locs : List Loc} {ls : Array Slot} {n i : Nat} {K' : AK}
    (C : Cx mi dC dI cy ad p s m args meth c) (hP : va_P (dC, dI) vwCl (wo ad cy I J R) H) (hS : va_S (inA ad) s.heap H locs) (hls : ls.size = mi.2.2.1)
    (hd : decode mi.2.1 pc = .ok (.invokevirtual idx, 3)) (ho : okQ mi.1.cls idx mj n) (hi : i < 6) (hlen : As.length = n) (hw : (S.map fun v => v.category).sum ≤ 8)
    (hM : Met l mj.1 (wsM mj) (rmD d) (va_Pc (((.ref (1001 + i) : Value) :: As).map (cv ad)) (Pw dC dI cy ad I J R)) (Qm K' mj.2.2.2.isNone dC dI cy ad) 0 0 (inA ad)) :
    va_Run p l e (rmD (d + 1)) s m args below meth c H locs 0 0 0 0 (F0 m pc ls ((As.map (cv ad)).reverse ++ .ref (ad (1001 + i)) :: S.map (cv ad))) (S.map (cv ad)) (Qm K' mj.2.2.2.isNone dC dI cy ad (((.ref (1001 + i) : Value) :: As).map (cv ad)).toArray) (inA ad) := by
  obtain ⟨hm, hin, hse, hlk, hs⟩ := ho
  have hR : (rmD d).frames + 1 ≤ (rmD (d + 1)).frames ∧ 8 + (mj.2.2.1 + 11) + (rmD d).locals ≤ (rmD (d + 1)).locals := by
    have := hm.2.2.2.2
    simp only [rmD]
    omega
  have hp : PreV s H mj.1.cls (ad (1001 + i)) (va_Pc (((.ref (1001 + i) : Value) :: As).map (cv ad)) (Pw dC dI cy ad I J R)) (As.map (cv ad)) := ⟨Pw_blind dC dI cy ad I J R _, by rw [hs]; exact vk_recv (adK := fun i => ad (1001 + i)) (i := i) C.ro.2.2.2.1 hi hS, fun U hU hW => ⟨rfl, by rw [hU]; exact hP, va_K.moved hW.alike C.vk, C.ap, by rw [hU]; exact (C.ro.kept hS.2.1).warm hW⟩⟩
  have hcat : ((S.map (cv ad)).map fun v => v.category).sum ≤ 8 := by
    rw [List.map_map, show ((fun v : Value => v.category) ∘ cv ad) = (fun v : Value => v.category) from funext (cv_cat ad)]
    exact hw
  exact va_runV ⟨C.1, C.2.1, C.ml, C.own, C.ts⟩ hM ⟨callB_of n C.ts hm.gd rfl rfl rfl (C.ts _ hm.2.2.1) (C.ts _ hlk) hm.2.2.2.1 hR, C.ts _ hin, C.ts _ hse⟩ hp rfl (by simpa using hlen) hls rfl (lv_room hcat) hd ⟨Nat.le_refl _, Nat.le_refl _⟩
theorem G_callQ {n i : Nat} (hd : D mi.2.1 pc (.invokevirtual idx) 3 nx) (ho : okQ mi.1.cls idx mj As.length) (hv : mj.2.2.2.isNone = false) (hi : i < 6) (ha : As.all notL = true) (hw : (S.map fun v => v.category).sum ≤ 8) (hn : As.length + 1 ≤ mj.2.2.1) (k : G l d mj (fun v I J R => G l (d + 1) mi K nx L (v :: S) I J R) 0 ((.ref (1001 + i) :: As) ++ List.replicate n UU) [] I J R) : G l (d + 1) mi K pc L (As.reverse ++ .ref (1001 + i) :: S) I J R := by
  intro dC dI cy ad p e s m args below meth c H locs ls C hP hS hl
  obtain ⟨hd, rfl⟩ := hd
  have ha' : ((.ref (1001 + i) : Value) :: As).all notL = true := by rw [List.all_cons, ha]; rfl
  have hM := metG (As := .ref (1001 + i) :: As) (dC := dC) (dI := dI) (cy := cy) (ad := ad) ho.1.2.1 (by rw [sl_len ad _ ha']; exact hn) (lz_entry ad n _ 0 ha') k
  have hrun := runQ_go (e := e) (below := below) C hP hS hl.1 hd ho hi rfl hw hM
  rw [List.map_append, List.map_reverse, List.map_cons]
  refine call_go hrun hS (fun v I' J' R' H1 locs1 hk hP1 hS1 => ?_)
  rw [hv]
  exact hk dC dI cy ad p e s m args below meth c H1 locs1 ls C hP1 hS1 hl
theorem G_cq0 {i : Nat} (hd : D mi.2.1 pc (.invokevirtual idx) 3 nx) (ho : okQ mi.1.cls idx mj 0) (hv : mj.2.2.2.isNone = false) (hi : i < 6) (ha : ([] : List Value).all notL = true) (hw : (S.map fun v => v.category).sum ≤ 8) (hn : 0 + 1 ≤ mj.2.2.1) (k : G l d mj (fun v I J R => G l (d + 1) mi K nx L (v :: S) I J R) 0 (.ref (1001 + i) :: List.replicate (mj.2.2.1 - 1) UU) [] I J R) : G l (d + 1) mi K pc L (.ref (1001 + i) :: S) I J R := G_callQ (As := []) hd ho hv hi ha hw hn k
theorem G_cq1 {i : Nat} {a1 : Value} (hd : D mi.2.1 pc (.invokevirtual idx) 3 nx) (ho : okQ mi.1.cls idx mj 1) (hv : mj.2.2.2.isNone = false) (hi : i < 6) (ha : ([a1] : List Value).all notL = true) (hw : (S.map fun v => v.category).sum ≤ 8) (hn : 1 + 1 ≤ mj.2.2.1) (k : G l d mj (fun v I J R => G l (d + 1) mi K nx L (v :: S) I J R) 0 (.ref (1001 + i) :: a1 :: List.replicate (mj.2.2.1 - 2) UU) [] I J R) : G l (d + 1) mi K pc L (a1 :: .ref (1001 + i) :: S) I J R := G_callQ (As := [a1]) hd ho hv hi ha hw hn k
end STR
theorem MQ_J0_length_8abf5 : okM mJ0_length_8abf5 0 := ⟨(gt_in (inT_4 _ (List.mem_of_getElem? (i := 201) (by decide +kernel))) (by decide +kernel)), by decide +kernel, (gt_in (inT_1 _ (List.mem_of_getElem? (i := 18) (by decide +kernel))) (by decide +kernel)), by decide +kernel, by decide⟩
theorem SQ_J0_length_8abf5 : Cond.selects mJ0_length_8abf5.1.cls mJ0_length_8abf5.1 mJ0_length_8abf5.1 ∈ gt := (gt_in (inT_4 _ (List.mem_of_getElem? (i := 200) (by decide +kernel))) (by decide +kernel))
theorem kX9_72 : okQ RX9 72 mJ0_length_8abf5 0 := ⟨MQ_J0_length_8abf5, (gt_in (inT_4 _ (List.mem_of_getElem? (i := 199) (by decide +kernel))) (by decide +kernel)), SQ_J0_length_8abf5, (gt_in (inT_4 _ (List.mem_of_getElem? (i := 198) (by decide +kernel))) (by decide +kernel)), rfl⟩
theorem MQ_J0_charAt_5068e : okM mJ0_charAt_5068e 1 := ⟨(gt_in (inT_4 _ (List.mem_of_getElem? (i := 211) (by decide +kernel))) (by decide +kernel)), by decide +kernel, (gt_in (inT_1 _ (List.mem_of_getElem? (i := 18) (by decide +kernel))) (by decide +kernel)), by decide +kernel, by decide⟩
theorem SQ_J0_charAt_5068e : Cond.selects mJ0_charAt_5068e.1.cls mJ0_charAt_5068e.1 mJ0_charAt_5068e.1 ∈ gt := (gt_in (inT_4 _ (List.mem_of_getElem? (i := 210) (by decide +kernel))) (by decide +kernel))
theorem kX9_78 : okQ RX9 78 mJ0_charAt_5068e 1 := ⟨MQ_J0_charAt_5068e, (gt_in (inT_4 _ (List.mem_of_getElem? (i := 209) (by decide +kernel))) (by decide +kernel)), SQ_J0_charAt_5068e, (gt_in (inT_4 _ (List.mem_of_getElem? (i := 208) (by decide +kernel))) (by decide +kernel)), rfl⟩
theorem gsX11_470 : okG RX11 470 "LinesTouched" "KIND_ABOVE" "[I" := (gt_in (inT_5 _ (List.mem_of_getElem? (i := 172) (by decide +kernel))) (by decide +kernel))
theorem gfJ0_9 : okG RJ0 9 "java/lang/String" "value" "[B" := (gt_in (inT_8 _ (List.mem_of_getElem? (i := 47) (by decide +kernel))) (by decide +kernel))
theorem MQ_J0_coder_7d493 : okM mJ0_coder_7d493 0 := ⟨(gt_in (inT_4 _ (List.mem_of_getElem? (i := 205) (by decide +kernel))) (by decide +kernel)), by decide +kernel, (gt_in (inT_1 _ (List.mem_of_getElem? (i := 18) (by decide +kernel))) (by decide +kernel)), by decide +kernel, by decide⟩
theorem SQ_J0_coder_7d493 : Cond.selects mJ0_coder_7d493.1.cls mJ0_coder_7d493.1 mJ0_coder_7d493.1 ∈ gt := (gt_in (inT_4 _ (List.mem_of_getElem? (i := 204) (by decide +kernel))) (by decide +kernel))
theorem kJ0_335 : okQ RJ0 335 mJ0_coder_7d493 0 := ⟨MQ_J0_coder_7d493, (gt_in (inT_4 _ (List.mem_of_getElem? (i := 203) (by decide +kernel))) (by decide +kernel)), SQ_J0_coder_7d493, (gt_in (inT_4 _ (List.mem_of_getElem? (i := 202) (by decide +kernel))) (by decide +kernel)), rfl⟩
theorem gsJ0_38 : okG RJ0 38 "java/lang/String" "COMPACT_STRINGS" "Z" := (gt_in (inT_4 _ (List.mem_of_getElem? (i := 206) (by decide +kernel))) (by decide +kernel))
theorem gfJ0_15 : okG RJ0 15 "java/lang/String" "coder" "B" := (gt_in (inT_8 _ (List.mem_of_getElem? (i := 48) (by decide +kernel))) (by decide +kernel))
theorem MQ_J0_isLatin1_aae02 : okM mJ0_isLatin1_aae02 0 := ⟨(gt_in (inT_4 _ (List.mem_of_getElem? (i := 215) (by decide +kernel))) (by decide +kernel)), by decide +kernel, (gt_in (inT_1 _ (List.mem_of_getElem? (i := 18) (by decide +kernel))) (by decide +kernel)), by decide +kernel, by decide⟩
theorem SQ_J0_isLatin1_aae02 : Cond.selects mJ0_isLatin1_aae02.1.cls mJ0_isLatin1_aae02.1 mJ0_isLatin1_aae02.1 ∈ gt := (gt_in (inT_4 _ (List.mem_of_getElem? (i := 214) (by decide +kernel))) (by decide +kernel))
theorem kJ0_492 : okQ RJ0 492 mJ0_isLatin1_aae02 0 := ⟨MQ_J0_isLatin1_aae02, (gt_in (inT_4 _ (List.mem_of_getElem? (i := 213) (by decide +kernel))) (by decide +kernel)), SQ_J0_isLatin1_aae02, (gt_in (inT_4 _ (List.mem_of_getElem? (i := 212) (by decide +kernel))) (by decide +kernel)), rfl⟩
theorem gsJ0_1053 : okG RJ0 1053 "jdk/internal/util/Preconditions" "SIOOBE_FORMATTER" "Ljava/util/function/BiFunction;" := (gt_in (inT_4 _ (List.mem_of_getElem? (i := 222) (by decide +kernel))) (by decide +kernel))
theorem swL_sh : ∀ i : Nat, i < 6 → nI (swL i) >>> ((0 : Int32) &&& 31) = nI (swL i) := by decide
theorem swB_ch : ∀ i : Nat, i < 6 → ∀ j : Nat, j < swL i → ((swB i j &&& 255).toUInt32 % 65536).toInt32 = swB i j ∧ narrow .char (.int (swB i j)) = .int (swB i j) := by decide
theorem swL_le : ∀ i : Nat, i < 6 → 4 ≤ swL i ∧ swL i ≤ 6 := by decide
section STC
variable {l : Launch} {d : Nat} {K : AK} {I : AI} {J : AJ} {R : AR} {i : Nat}
theorem cJ_coder (hi : i < 6) (hk : K (.int 0) I J R) : G l d mJ0_coder_7d493 K 0 [.ref (1001 + i)] [] I J R := by
  refine G_gsCS (nx := 3) ⟨dJ0_coder_7d493_0, rfl⟩ gsJ0_38 ?_
  refine G_ifeq (tgt := 13) (nx := 6) ⟨dJ0_coder_7d493_3, rfl⟩ rfl (fun c_3 => ?_) (fun c_3 => ?_)
  · exact absurd c_3 (by decide)
  · refine G_aload_0 (nx := 7) ⟨dJ0_coder_7d493_6, rfl⟩ ?_
    refine G_gfcoder (nx := 10) ⟨dJ0_coder_7d493_7, rfl⟩ gfJ0_15 hi ?_
    refine G_goto (tgt := 14) ⟨dJ0_coder_7d493_10, rfl⟩ rfl ?_
    refine G_nret ⟨dJ0_coder_7d493_14, rfl⟩ rfl (by rfl) ?_
    exact hk

theorem cJ_length (hi : i < 6) (hk : K (.int (nI (swL i))) I J R) : G l (d + 1) mJ0_length_8abf5 K 0 [.ref (1001 + i)] [] I J R := by
  refine G_aload_0 (nx := 1) ⟨dJ0_length_8abf5_0, rfl⟩ ?_
  refine G_gfvalue (nx := 4) ⟨dJ0_length_8abf5_1, rfl⟩ gfJ0_9 hi ?_
  refine G_blen (nx := 5) ⟨dJ0_length_8abf5_4, rfl⟩ hi ?_
  refine G_aload_0 (nx := 6) ⟨dJ0_length_8abf5_5, rfl⟩ ?_
  refine G_cq0 (nx := 9) ⟨dJ0_length_8abf5_6, rfl⟩ kJ0_335 rfl hi rfl (Nat.le_of_ble_eq_true rfl) (Nat.le_of_ble_eq_true rfl) (cJ_coder hi ?_)
  refine G_ishr (nx := 10) ⟨dJ0_length_8abf5_9, rfl⟩ ?_
  refine G_iret ⟨dJ0_length_8abf5_10, rfl⟩ rfl ?_
  rw [swL_sh i hi]
  exact hk

theorem cJ_isLatin1 (hi : i < 6) (hk : K (.int 1) I J R) : G l d mJ0_isLatin1_aae02 K 0 [.ref (1001 + i)] [] I J R := by
  refine G_gsCS (nx := 3) ⟨dJ0_isLatin1_aae02_0, rfl⟩ gsJ0_38 ?_
  refine G_ifeq (tgt := 17) (nx := 6) ⟨dJ0_isLatin1_aae02_3, rfl⟩ rfl (fun c_3 => ?_) (fun c_3 => ?_)
  · exact absurd c_3 (by decide)
  · refine G_aload_0 (nx := 7) ⟨dJ0_isLatin1_aae02_6, rfl⟩ ?_
    refine G_gfcoder (nx := 10) ⟨dJ0_isLatin1_aae02_7, rfl⟩ gfJ0_15 hi ?_
    refine G_ifne (tgt := 17) (nx := 13) ⟨dJ0_isLatin1_aae02_10, rfl⟩ rfl (fun c_10 => ?_) (fun c_10 => ?_)
    · exact absurd rfl c_10
    · refine G_iconst (nx := 14) ⟨dJ0_isLatin1_aae02_13, rfl⟩ ci_1 ?_
      refine G_goto (tgt := 18) ⟨dJ0_isLatin1_aae02_14, rfl⟩ rfl ?_
      refine G_zret ⟨dJ0_isLatin1_aae02_18, rfl⟩ rfl (by first | assumption | decide | exact bi_01 _) ?_
      exact hk

theorem cJ_pcheck {x n : Int32} {v : Value} (hx : ¬ x < 0) (hn : x < n) (hk : K (.int x) I J R) : G l d mJ3_checkIndex_8e157 K 0 [.int x, .int n, v] [] I J R := by
  refine G_iload_0 (nx := 1) ⟨dJ3_checkIndex_8e157_0, rfl⟩ ?_
  refine G_iflt (tgt := 9) (nx := 4) ⟨dJ3_checkIndex_8e157_1, rfl⟩ rfl (fun c_1 => ?_) (fun c_1 => ?_)
  · exact absurd c_1 hx
  · refine G_iload_0 (nx := 5) ⟨dJ3_checkIndex_8e157_4, rfl⟩ ?_
    refine G_iload_1 (nx := 6) ⟨dJ3_checkIndex_8e157_5, rfl⟩ ?_
    refine G_icmplt (tgt := 16) (nx := 9) ⟨dJ3_checkIndex_8e157_6, rfl⟩ rfl (fun c_6 => ?_) (fun c_6 => ?_)
    · refine G_iload_0 (nx := 17) ⟨dJ3_checkIndex_8e157_16, rfl⟩ ?_
      refine G_iret ⟨dJ3_checkIndex_8e157_17, rfl⟩ rfl ?_
      exact hk
    · exact absurd hn c_6

theorem cJ_check {x n : Int32} (hx : ¬ x < 0) (hn : x < n) (hk : K .null I J R) : G l (d + 1) mJ0_checkIndex_df160 K 0 [.int x, .int n] [] I J R := by
  refine G_iload_0 (nx := 1) ⟨dJ0_checkIndex_df160_0, rfl⟩ ?_
  refine G_iload_1 (nx := 2) ⟨dJ0_checkIndex_df160_1, rfl⟩ ?_
  refine G_gsSF (nx := 5) ⟨dJ0_checkIndex_df160_2, rfl⟩ gsJ0_1053 (fun v hv => ?_)
  refine G_cs3 (nx := 8) ⟨dJ0_checkIndex_df160_5, rfl⟩ kJ0_1059 rfl (by rcases hv with rfl | rfl <;> rfl) (Nat.le_of_ble_eq_true rfl) (Nat.le_of_ble_eq_true rfl) (cJ_pcheck hx hn ?_)
  refine G_pop (nx := 9) ⟨dJ0_checkIndex_df160_8, rfl⟩ rfl ?_
  refine G_vret ⟨dJ0_checkIndex_df160_9, rfl⟩ rfl ?_
  exact hk

theorem cJ_charAt1 {j : Nat} (hi : i < 6) (hj : j < swL i) (hk : K (.int (swB i j)) I J R) : G l (d + 2) mJ1_charAt_3b067 K 0 [.ref (1011 + i), .int (nI j)] [] I J R := by
  have hL := swL_le i hi
  have hx : ¬ nI j < 0 := by
    rw [show (0 : Int32) = nI 0 from rfl, nI_lt_iff (by omega) (by omega)]
    omega
  have hn : nI j < nI (swL i) := (nI_lt_iff (by omega) (by omega)).mpr hj
  have hq := swB_ch i hi j hj
  refine G_iload_1 (nx := 1) ⟨dJ1_charAt_3b067_0, rfl⟩ ?_
  refine G_aload_0 (nx := 2) ⟨dJ1_charAt_3b067_1, rfl⟩ ?_
  refine G_blen (nx := 3) ⟨dJ1_charAt_3b067_2, rfl⟩ hi ?_
  refine G_csv2 (nx := 6) ⟨dJ1_charAt_3b067_3, rfl⟩ kJ1_9 rfl rfl (Nat.le_of_ble_eq_true rfl) (Nat.le_of_ble_eq_true rfl) (cJ_check hx hn ?_)
  refine G_aload_0 (nx := 7) ⟨dJ1_charAt_3b067_6, rfl⟩ ?_
  refine G_iload_1 (nx := 8) ⟨dJ1_charAt_3b067_7, rfl⟩ ?_
  refine G_bald (nx := 9) ⟨dJ1_charAt_3b067_8, rfl⟩ hi (by exact vp_in_nI hj (by omega)) ?_
  refine G_sipush (nx := 12) ⟨dJ1_charAt_3b067_9, rfl⟩ cs_255 ?_
  refine G_iand (nx := 13) ⟨dJ1_charAt_3b067_12, rfl⟩ ?_
  refine G_i2c (nx := 14) ⟨dJ1_charAt_3b067_13, rfl⟩ ?_
  refine G_nret ⟨dJ1_charAt_3b067_14, rfl⟩ rfl (by rw [cl_nI (show j < 2 ^ 31 by omega), hq.1]; exact hq.2) ?_
  rw [cl_nI (show j < 2 ^ 31 by omega), hq.1]
  exact hk

theorem cJ_charAt {j : Nat} (hi : i < 6) (hj : j < swL i) (hk : K (.int (swB i j)) I J R) : G l (d + 3) mJ0_charAt_5068e K 0 [.ref (1001 + i), .int (nI j)] [] I J R := by
  refine G_aload_0 (nx := 1) ⟨dJ0_charAt_5068e_0, rfl⟩ ?_
  refine G_cq0 (nx := 4) ⟨dJ0_charAt_5068e_1, rfl⟩ kJ0_492 rfl hi rfl (Nat.le_of_ble_eq_true rfl) (Nat.le_of_ble_eq_true rfl) (cJ_isLatin1 hi ?_)
  refine G_ifeq (tgt := 16) (nx := 7) ⟨dJ0_charAt_5068e_4, rfl⟩ rfl (fun c_4 => ?_) (fun c_4 => ?_)
  · exact absurd c_4 (by decide)
  · refine G_aload_0 (nx := 8) ⟨dJ0_charAt_5068e_7, rfl⟩ ?_
    refine G_gfvalue (nx := 11) ⟨dJ0_charAt_5068e_8, rfl⟩ gfJ0_9 hi ?_
    refine G_iload_1 (nx := 12) ⟨dJ0_charAt_5068e_11, rfl⟩ ?_
    refine G_cs2 (nx := 15) ⟨dJ0_charAt_5068e_12, rfl⟩ kJ0_495 rfl rfl (Nat.le_of_ble_eq_true rfl) (Nat.le_of_ble_eq_true rfl) (cJ_charAt1 hi hj ?_)
    refine G_nret ⟨dJ0_charAt_5068e_15, rfl⟩ rfl (by exact (swB_ch i hi j hj).2) ?_
    exact hk

end STC
