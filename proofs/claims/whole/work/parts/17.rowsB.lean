section R17
variable {l : Launch} {d : Nat} {mi mj : MI} {K : AK} {pc nx idx : Nat} {L S : List Value} {I : AI} {J : AJ} {R : AR} {As : List Value}
theorem G_callSg {L' : List Value} (hd : D mi.2.1 pc (.invokestatic idx) 3 nx) (ho : okS mi.1.cls idx mj As.length) (hv : mj.2.2.2.isNone = false) (hlen : ∀ ad : Nat → Nat, (lg_sl (As.map (cv ad))).length ≤ mj.2.2.1) (hen : ∀ ad : Nat → Nat, ∀ q ∈ lz ad 0 L', q ∈ lv_args 0 (As.map (cv ad))) (hw : (S.map fun v => v.category).sum ≤ 8) (k : G l d mj (fun v I J R => G l (d + 1) mi K nx L (v :: S) I J R) 0 L' [] I J R) : G l (d + 1) mi K pc L (As.reverse ++ S) I J R := by
  intro dC dI cy ad p e s m args below meth c H locs ls C hP hS hl
  obtain ⟨hd, rfl⟩ := hd
  have hM := metG (As := As) (dC := dC) (dI := dI) (cy := cy) (ad := ad) ho.1.2.1 (hlen ad) (hen ad) k
  have hrun := runS_go (e := e) (below := below) C hP hS hl.1 hd ho rfl hw hM
  rw [List.map_append, List.map_reverse]
  refine call_go hrun hS (fun v I' J' R' H1 locs1 hk hP1 hS1 => ?_)
  rw [hv]
  exact hk dC dI cy ad p e s m args below meth c H1 locs1 ls C hP1 hS1 hl
theorem G_callSgv {L' : List Value} (hd : D mi.2.1 pc (.invokestatic idx) 3 nx) (ho : okS mi.1.cls idx mj As.length) (hv : mj.2.2.2.isNone = true) (hlen : ∀ ad : Nat → Nat, (lg_sl (As.map (cv ad))).length ≤ mj.2.2.1) (hen : ∀ ad : Nat → Nat, ∀ q ∈ lz ad 0 L', q ∈ lv_args 0 (As.map (cv ad))) (hw : (S.map fun v => v.category).sum ≤ 8) (k : G l d mj (fun v I J R => G l (d + 1) mi K nx L S I J R) 0 L' [] I J R) : G l (d + 1) mi K pc L (As.reverse ++ S) I J R := by
  intro dC dI cy ad p e s m args below meth c H locs ls C hP hS hl
  obtain ⟨hd, rfl⟩ := hd
  have hM := metG (As := As) (dC := dC) (dI := dI) (cy := cy) (ad := ad) ho.1.2.1 (hlen ad) (hen ad) k
  have hrun := runS_go (e := e) (below := below) C hP hS hl.1 hd ho rfl hw hM
  rw [List.map_append, List.map_reverse]
  refine call_go hrun hS (fun v I' J' R' H1 locs1 hk hP1 hS1 => ?_)
  rw [hv]
  exact hk dC dI cy ad p e s m args below meth c H1 locs1 ls C hP1 hS1 hl
theorem lz_rep (ad : Nat → Nat) : ∀ (n i : Nat), lz ad i (List.replicate n UU) = [] := by
  intro n
  induction n with
  | zero => intro i; rfl
  | succ k ih => intro i; rw [List.replicate_succ]; unfold lz; rw [if_pos (show isF UU = true from rfl)]; exact ih (i + 1)
theorem G_csLL {a b : Int64} (hd : D mi.2.1 pc (.invokestatic idx) 3 nx) (ho : okS mi.1.cls idx mj 2) (hv : mj.2.2.2.isNone = false) (hw : (S.map fun v => v.category).sum ≤ 8) (hn : 4 ≤ mj.2.2.1) (k : G l d mj (fun v I J R => G l (d + 1) mi K nx L (v :: S) I J R) 0 (.long a :: UU :: .long b :: UU :: List.replicate (mj.2.2.1 - 4) UU) [] I J R) : G l (d + 1) mi K pc L (.long b :: .long a :: S) I J R :=
  G_callSg (As := [.long a, .long b]) hd ho hv (fun ad => hn) (fun ad q hq => by
    have e : lz ad 0 (.long a :: UU :: .long b :: UU :: List.replicate (mj.2.2.1 - 4) UU) = [(0, .long a), (2, .long b)] := by
      simp [lz, isF, cv, lz_rep]
    rw [e] at hq
    exact hq) hw k
theorem G_csL1 {a : Int64} (hd : D mi.2.1 pc (.invokestatic idx) 3 nx) (ho : okS mi.1.cls idx mj 1) (hv : mj.2.2.2.isNone = false) (hw : (S.map fun v => v.category).sum ≤ 8) (hn : 2 ≤ mj.2.2.1) (k : G l d mj (fun v I J R => G l (d + 1) mi K nx L (v :: S) I J R) 0 (.long a :: UU :: List.replicate (mj.2.2.1 - 2) UU) [] I J R) : G l (d + 1) mi K pc L (.long a :: S) I J R :=
  G_callSg (As := [.long a]) hd ho hv (fun ad => hn) (fun ad q hq => by
    have e : lz ad 0 (.long a :: UU :: List.replicate (mj.2.2.1 - 2) UU) = [(0, .long a)] := by
      simp [lz, isF, cv, lz_rep]
    rw [e] at hq
    exact hq) hw k
theorem G_csRL {a : Nat} {b : Int64} (hd : D mi.2.1 pc (.invokestatic idx) 3 nx) (ho : okS mi.1.cls idx mj 2) (hv : mj.2.2.2.isNone = true) (hw : (S.map fun v => v.category).sum ≤ 8) (hn : 3 ≤ mj.2.2.1) (k : G l d mj (fun v I J R => G l (d + 1) mi K nx L S I J R) 0 (.ref a :: .long b :: UU :: List.replicate (mj.2.2.1 - 3) UU) [] I J R) : G l (d + 1) mi K pc L (.long b :: .ref a :: S) I J R :=
  G_callSgv (As := [.ref a, .long b]) hd ho hv (fun ad => hn) (fun ad q hq => by
    have e : lz ad 0 (.ref a :: .long b :: UU :: List.replicate (mj.2.2.1 - 3) UU) = [(0, .ref (ad a)), (1, .long b)] := by
      simp [lz, isF, cv, lz_rep]
    rw [e] at hq
    exact hq) hw k
end R17

