
theorem HV_le2 {n : Nat} {gr : Nat → Nat} {P : Nat} {H : Nat → Nat} (h : HV n gr P H) {q : Nat} (hq : q < n) (hP : P.testBit q = true) : H q ≤ 2 := ((LF_sol n 0 _ _ (by omega) h).2.1 q (Nat.zero_le _) hq hP).1
theorem hz_sum {n : Nat} {gr : Nat → Nat} {P : Nat} {H : Nat → Nat} (hn : n ≤ 12) (hW : WG n gr) (hP : P < 2 ^ n) (h : HV n gr P H) : pc (hz n gr P 1) + 2 * pc (hz n gr P 2) = tau gr P P := by
  have hS := LF_sol n 0 _ _ (by omega) h
  have hle : ∀ x, P.testBit x = true → H x ≤ 2 := fun x hx => HV_le2 h (tb_ltn hP hx) hx
  have h1 : sm P H n 0 ≤ tau gr P P := hS.2.2.2
  have h2 : tau gr P P ≤ sm P H n 0 := tau_le_sm (p := 0) hn (Nat.zero_le _) hW (fun q => ⟨fun hq => ⟨Nat.zero_le _, tb_ltn hP hq, hq⟩, fun hq => hq.2.2⟩) (fun q _ _ hq => hle q hq) (fun u v huv _ hv hu' hv' hg => hS.2.2.1 u v huv (Nat.zero_le _) hv hu' hv' hg)
  have h3 := sm_12 hn hP hle
  rw [← hz_eq h 1, ← hz_eq h 2, pc_cn, pc_cn]
  have hb : ∀ v i, (hset n P H v).testBit i = (P.testBit i && decide (H i = v)) := fun v i => by
    rw [hset_tb]
    cases q : P.testBit i with
    | false => simp
    | true => simp [tb_ltn hP q]
  have e1 : cn 12 (fun i => P.testBit i && decide (1 ≤ H i)) = cn 12 (fun i => (hset n P H 1).testBit i) + cn 12 (fun i => (hset n P H 2).testBit i) := by
    rw [cn_split 12 _ (fun i => decide (H i = 1))]
    congr 1
    · refine cn_congr (fun i _ => ?_)
      show ((P.testBit i && decide (1 ≤ H i)) && decide (H i = 1)) = (hset n P H 1).testBit i
      rw [hb]
      cases q : P.testBit i with
      | false => rfl
      | true =>
        have := hle i q
        rcases (show H i = 0 ∨ H i = 1 ∨ H i = 2 by omega) with e | e | e <;> rw [e] <;> rfl
    · refine cn_congr (fun i _ => ?_)
      show ((P.testBit i && decide (1 ≤ H i)) && !decide (H i = 1)) = (hset n P H 2).testBit i
      rw [hb]
      cases q : P.testBit i with
      | false => rfl
      | true =>
        have := hle i q
        rcases (show H i = 0 ∨ H i = 1 ∨ H i = 2 by omega) with e | e | e <;> rw [e] <;> rfl
  have e2 : cn 12 (fun i => P.testBit i && decide (2 ≤ H i)) = cn 12 (fun i => (hset n P H 2).testBit i) := by
    refine cn_congr (fun i _ => ?_)
    show (P.testBit i && decide (2 ≤ H i)) = (hset n P H 2).testBit i
    rw [hb]
    cases q : P.testBit i with
    | false => rfl
    | true =>
      have := hle i q
      rcases (show H i = 0 ∨ H i = 1 ∨ H i = 2 by omega) with e | e | e <;> rw [e] <;> rfl
  omega

