theorem ro_of {p : Program} {s : State} {m : MethodId} {meth : Method} {c : Code} {b L : Nat} {xs : Nat → Int32} (C0 : lw_At p s m meth c b L xs) : ∃ (t0 tf : Nat) (adK adV : Nat → Nat), va_Z RX11 "KIND_ABOVE" "[I" (.ref t0) (fun q : Nat => s.heap.size ≤ q) s s.heap ∧ va_T .int t0 6 (fun j => .int (kab j)) (fun q : Nat => s.heap.size ≤ q) s s.heap ∧ va_Z "java/lang/String" "COMPACT_STRINGS" "Z" (.int 1) (fun q : Nat => s.heap.size ≤ q) s s.heap ∧ (va_Z "jdk/internal/util/Preconditions" "SIOOBE_FORMATTER" "Ljava/util/function/BiFunction;" .null (fun q : Nat => s.heap.size ≤ q) s s.heap ∨ va_Z "jdk/internal/util/Preconditions" "SIOOBE_FORMATTER" "Ljava/util/function/BiFunction;" (.ref tf) (fun q : Nat => s.heap.size ≤ q) s s.heap) ∧ vk_S 6 stLen stByt adK adV (fun q : Nat => s.heap.size ≤ q) s s.heap ∧ ∀ i : Nat, i < 6 → vk_R RX9 (stIdx.getD i 0) (stTx.getD i "") (adK i) s := by
  obtain ⟨-, -, -, -, -, hts, -, -, -, hgv⟩ := C0
  have hs := flat_of_before _ hgv
  have hA : ∀ a : Nat, a < s.heap.size → ¬ (fun q : Nat => s.heap.size ≤ q) a := fun a h => Nat.not_le.mpr h
  obtain ⟨t0, ht0, hT⟩ := va_Tof (tm := .static "LinesTouched" "KIND_ABOVE" "[I") (ty := .int) (N := 6) (f := fun j => .int (kab j)) (A := (fun q : Nat => s.heap.size ≤ q)) (by decide) (hs _ (by decide +kernel)) (va_eqt (hs _ (by decide +kernel))) (fun j hj => by
    rcases (show j = 0 ∨ j = 1 ∨ j = 2 ∨ j = 3 ∨ j = 4 ∨ j = 5 by omega) with rfl | rfl | rfl | rfl | rfl | rfl
    · exact va_eqt (hs (.eq (.elem (.static "LinesTouched" "KIND_ABOVE" "[I") (.int 0)) (.int (-1))) (by decide +kernel))
    · exact va_eqt (hs (.eq (.elem (.static "LinesTouched" "KIND_ABOVE" "[I") (.int 1)) (.int 0)) (by decide +kernel))
    · exact va_eqt (hs (.eq (.elem (.static "LinesTouched" "KIND_ABOVE" "[I") (.int 2)) (.int 0)) (by decide +kernel))
    · exact va_eqt (hs (.eq (.elem (.static "LinesTouched" "KIND_ABOVE" "[I") (.int 3)) (.int 1)) (by decide +kernel))
    · exact va_eqt (hs (.eq (.elem (.static "LinesTouched" "KIND_ABOVE" "[I") (.int 4)) (.int 2)) (by decide +kernel))
    · exact va_eqt (hs (.eq (.elem (.static "LinesTouched" "KIND_ABOVE" "[I") (.int 5)) (.int 3)) (by decide +kernel))) hA
  have hKA : va_Z RX11 "KIND_ABOVE" "[I" (.ref t0) (fun q : Nat => s.heap.size ≤ q) s s.heap := va_Zref (hts (.laysStatic "LinesTouched" "KIND_ABOVE" "[I") (by decide +kernel)) (hts (.initialized "LinesTouched") (by decide +kernel)) ht0 hA
  have hCS : va_Z "java/lang/String" "COMPACT_STRINGS" "Z" (.int 1) (fun q : Nat => s.heap.size ≤ q) s s.heap := va_Zof (hts (.laysStatic "java/lang/String" "COMPACT_STRINGS" "Z") (by decide +kernel)) (hts (.initialized "java/lang/String") (by decide +kernel)) (va_eqt (hs (.eq (.static "java/lang/String" "COMPACT_STRINGS" "Z") (.int 1)) (by decide +kernel))) hA
  have hSF := va_Zqof (A := (fun q : Nat => s.heap.size ≤ q)) (hts (.laysStatic "jdk/internal/util/Preconditions" "SIOOBE_FORMATTER" "Ljava/util/function/BiFunction;") (by decide +kernel)) (hts (.initialized "jdk/internal/util/Preconditions") (by decide +kernel)) (hs (.isRef (.static "jdk/internal/util/Preconditions" "SIOOBE_FORMATTER" "Ljava/util/function/BiFunction;")) (by decide +kernel)) hA
  obtain ⟨tf, hSF⟩ : ∃ tf, va_Z "jdk/internal/util/Preconditions" "SIOOBE_FORMATTER" "Ljava/util/function/BiFunction;" .null (fun q : Nat => s.heap.size ≤ q) s s.heap ∨ va_Z "jdk/internal/util/Preconditions" "SIOOBE_FORMATTER" "Ljava/util/function/BiFunction;" (.ref tf) (fun q : Nat => s.heap.size ≤ q) s s.heap := by
    rcases hSF with h | ⟨t, h⟩
    · exact ⟨0, Or.inl h⟩
    · exact ⟨t, Or.inr h⟩
  have i6 : ∀ {P : Nat → Prop}, P 0 → P 1 → P 2 → P 3 → P 4 → P 5 → ∀ i : Nat, i < 6 → P i := by
    intro P p0 p1 p2 p3 p4 p5 i hi
    rcases (show i = 0 ∨ i = 1 ∨ i = 2 ∨ i = 3 ∨ i = 4 ∨ i = 5 by omega) with rfl | rfl | rfl | rfl | rfl | rfl <;> assumption

  have hne : ∀ i j : Nat, i < j → j < 6 → (Cond.not (Cond.eq (.string RX9 (stIdx.getD i 0)) (.string RX9 (stIdx.getD j 0)))).before #[Value.ref b] s = true := by
    intro i j hij hj
    rcases (show (i = 0 ∧ j = 1) ∨ (i = 0 ∧ j = 2) ∨ (i = 0 ∧ j = 3) ∨ (i = 0 ∧ j = 4) ∨ (i = 0 ∧ j = 5) ∨ (i = 1 ∧ j = 2) ∨ (i = 1 ∧ j = 3) ∨ (i = 1 ∧ j = 4) ∨ (i = 1 ∧ j = 5) ∨ (i = 2 ∧ j = 3) ∨ (i = 2 ∧ j = 4) ∨ (i = 2 ∧ j = 5) ∨ (i = 3 ∧ j = 4) ∨ (i = 3 ∧ j = 5) ∨ (i = 4 ∧ j = 5) by omega) with ⟨rfl, rfl⟩ | ⟨rfl, rfl⟩ | ⟨rfl, rfl⟩ | ⟨rfl, rfl⟩ | ⟨rfl, rfl⟩ | ⟨rfl, rfl⟩ | ⟨rfl, rfl⟩ | ⟨rfl, rfl⟩ | ⟨rfl, rfl⟩ | ⟨rfl, rfl⟩ | ⟨rfl, rfl⟩ | ⟨rfl, rfl⟩ | ⟨rfl, rfl⟩ | ⟨rfl, rfl⟩ | ⟨rfl, rfl⟩
    · exact hs (.not (.eq (.string "LinesTouched$Tape" 82) (.string "LinesTouched$Tape" 84))) (by decide +kernel)
    · exact hs (.not (.eq (.string "LinesTouched$Tape" 82) (.string "LinesTouched$Tape" 86))) (by decide +kernel)
    · exact hs (.not (.eq (.string "LinesTouched$Tape" 82) (.string "LinesTouched$Tape" 88))) (by decide +kernel)
    · exact hs (.not (.eq (.string "LinesTouched$Tape" 82) (.string "LinesTouched$Tape" 90))) (by decide +kernel)
    · exact hs (.not (.eq (.string "LinesTouched$Tape" 82) (.string "LinesTouched$Tape" 92))) (by decide +kernel)
    · exact hs (.not (.eq (.string "LinesTouched$Tape" 84) (.string "LinesTouched$Tape" 86))) (by decide +kernel)
    · exact hs (.not (.eq (.string "LinesTouched$Tape" 84) (.string "LinesTouched$Tape" 88))) (by decide +kernel)
    · exact hs (.not (.eq (.string "LinesTouched$Tape" 84) (.string "LinesTouched$Tape" 90))) (by decide +kernel)
    · exact hs (.not (.eq (.string "LinesTouched$Tape" 84) (.string "LinesTouched$Tape" 92))) (by decide +kernel)
    · exact hs (.not (.eq (.string "LinesTouched$Tape" 86) (.string "LinesTouched$Tape" 88))) (by decide +kernel)
    · exact hs (.not (.eq (.string "LinesTouched$Tape" 86) (.string "LinesTouched$Tape" 90))) (by decide +kernel)
    · exact hs (.not (.eq (.string "LinesTouched$Tape" 86) (.string "LinesTouched$Tape" 92))) (by decide +kernel)
    · exact hs (.not (.eq (.string "LinesTouched$Tape" 88) (.string "LinesTouched$Tape" 90))) (by decide +kernel)
    · exact hs (.not (.eq (.string "LinesTouched$Tape" 88) (.string "LinesTouched$Tape" 92))) (by decide +kernel)
    · exact hs (.not (.eq (.string "LinesTouched$Tape" 90) (.string "LinesTouched$Tape" 92))) (by decide +kernel)
  obtain ⟨adK, adV, hV, hE⟩ := vk_Sof (N := 6) (tm := fun i => .string RX9 (stIdx.getD i 0)) (len := stLen) (byt := stByt) (A := (fun q : Nat => s.heap.size ≤ q)) (i6 (by decide) (by decide) (by decide) (by decide) (by decide) (by decide))
    (i6 (P := fun i => (Cond.exactly (.string RX9 (stIdx.getD i 0)) "java/lang/String").before #[Value.ref b] s = true) (hs (.exactly (.string "LinesTouched$Tape" 82) "java/lang/String") (by decide +kernel)) (hs (.exactly (.string "LinesTouched$Tape" 84) "java/lang/String") (by decide +kernel)) (hs (.exactly (.string "LinesTouched$Tape" 86) "java/lang/String") (by decide +kernel)) (hs (.exactly (.string "LinesTouched$Tape" 88) "java/lang/String") (by decide +kernel)) (hs (.exactly (.string "LinesTouched$Tape" 90) "java/lang/String") (by decide +kernel)) (hs (.exactly (.string "LinesTouched$Tape" 92) "java/lang/String") (by decide +kernel)))
    (i6 (P := fun i => (Cond.eq (.field (.string RX9 (stIdx.getD i 0)) "java/lang/String" "coder" "B") (.int 0)).before #[Value.ref b] s = true) (hs (.eq (.field (.string "LinesTouched$Tape" 82) "java/lang/String" "coder" "B") (.int 0)) (by decide +kernel)) (hs (.eq (.field (.string "LinesTouched$Tape" 84) "java/lang/String" "coder" "B") (.int 0)) (by decide +kernel)) (hs (.eq (.field (.string "LinesTouched$Tape" 86) "java/lang/String" "coder" "B") (.int 0)) (by decide +kernel)) (hs (.eq (.field (.string "LinesTouched$Tape" 88) "java/lang/String" "coder" "B") (.int 0)) (by decide +kernel)) (hs (.eq (.field (.string "LinesTouched$Tape" 90) "java/lang/String" "coder" "B") (.int 0)) (by decide +kernel)) (hs (.eq (.field (.string "LinesTouched$Tape" 92) "java/lang/String" "coder" "B") (.int 0)) (by decide +kernel)))
    (i6 (P := fun i => (Cond.arrayOf (.field (.string RX9 (stIdx.getD i 0)) "java/lang/String" "value" "[B") .byte).before #[Value.ref b] s = true) (hs (.arrayOf (.field (.string "LinesTouched$Tape" 82) "java/lang/String" "value" "[B") .byte) (by decide +kernel)) (hs (.arrayOf (.field (.string "LinesTouched$Tape" 84) "java/lang/String" "value" "[B") .byte) (by decide +kernel)) (hs (.arrayOf (.field (.string "LinesTouched$Tape" 86) "java/lang/String" "value" "[B") .byte) (by decide +kernel)) (hs (.arrayOf (.field (.string "LinesTouched$Tape" 88) "java/lang/String" "value" "[B") .byte) (by decide +kernel)) (hs (.arrayOf (.field (.string "LinesTouched$Tape" 90) "java/lang/String" "value" "[B") .byte) (by decide +kernel)) (hs (.arrayOf (.field (.string "LinesTouched$Tape" 92) "java/lang/String" "value" "[B") .byte) (by decide +kernel)))
    (i6 (P := fun i => (Cond.eq (.length (.field (.string RX9 (stIdx.getD i 0)) "java/lang/String" "value" "[B")) (.int (Int32.ofNat (stLen.getD i 0)))).before #[Value.ref b] s = true) (hs (.eq (.length (.field (.string "LinesTouched$Tape" 82) "java/lang/String" "value" "[B")) (.int 4)) (by decide +kernel)) (hs (.eq (.length (.field (.string "LinesTouched$Tape" 84) "java/lang/String" "value" "[B")) (.int 4)) (by decide +kernel)) (hs (.eq (.length (.field (.string "LinesTouched$Tape" 86) "java/lang/String" "value" "[B")) (.int 6)) (by decide +kernel)) (hs (.eq (.length (.field (.string "LinesTouched$Tape" 88) "java/lang/String" "value" "[B")) (.int 5)) (by decide +kernel)) (hs (.eq (.length (.field (.string "LinesTouched$Tape" 90) "java/lang/String" "value" "[B")) (.int 6)) (by decide +kernel)) (hs (.eq (.length (.field (.string "LinesTouched$Tape" 92) "java/lang/String" "value" "[B")) (.int 5)) (by decide +kernel)))
    (i6 (P := fun i => ∀ j : Nat, j < stLen.getD i 0 → (Cond.eq (.elem (.field (.string RX9 (stIdx.getD i 0)) "java/lang/String" "value" "[B") (.int (Int32.ofNat j))) (.int ((stByt.getD i []).getD j 0))).before #[Value.ref b] s = true) (fun j hj => by
      have hj : j < 4 := hj
      rcases (show j = 0 ∨ j = 1 ∨ j = 2 ∨ j = 3 by omega) with rfl | rfl | rfl | rfl
      · exact hs (.eq (.elem (.field (.string "LinesTouched$Tape" 82) "java/lang/String" "value" "[B") (.int 0)) (.int 116)) (by decide +kernel)
      · exact hs (.eq (.elem (.field (.string "LinesTouched$Tape" 82) "java/lang/String" "value" "[B") (.int 1)) (.int 111)) (by decide +kernel)
      · exact hs (.eq (.elem (.field (.string "LinesTouched$Tape" 82) "java/lang/String" "value" "[B") (.int 2)) (.int 108)) (by decide +kernel)
      · exact hs (.eq (.elem (.field (.string "LinesTouched$Tape" 82) "java/lang/String" "value" "[B") (.int 3)) (.int 108)) (by decide +kernel)) (fun j hj => by
      have hj : j < 4 := hj
      rcases (show j = 0 ∨ j = 1 ∨ j = 2 ∨ j = 3 by omega) with rfl | rfl | rfl | rfl
      · exact hs (.eq (.elem (.field (.string "LinesTouched$Tape" 84) "java/lang/String" "value" "[B") (.int 0)) (.int 99)) (by decide +kernel)
      · exact hs (.eq (.elem (.field (.string "LinesTouched$Tape" 84) "java/lang/String" "value" "[B") (.int 1)) (.int 108)) (by decide +kernel)
      · exact hs (.eq (.elem (.field (.string "LinesTouched$Tape" 84) "java/lang/String" "value" "[B") (.int 2)) (.int 117)) (by decide +kernel)
      · exact hs (.eq (.elem (.field (.string "LinesTouched$Tape" 84) "java/lang/String" "value" "[B") (.int 3)) (.int 98)) (by decide +kernel)) (fun j hj => by
      have hj : j < 6 := hj
      rcases (show j = 0 ∨ j = 1 ∨ j = 2 ∨ j = 3 ∨ j = 4 ∨ j = 5 by omega) with rfl | rfl | rfl | rfl | rfl | rfl
      · exact hs (.eq (.elem (.field (.string "LinesTouched$Tape" 86) "java/lang/String" "value" "[B") (.int 0)) (.int 107)) (by decide +kernel)
      · exact hs (.eq (.elem (.field (.string "LinesTouched$Tape" 86) "java/lang/String" "value" "[B") (.int 1)) (.int 101)) (by decide +kernel)
      · exact hs (.eq (.elem (.field (.string "LinesTouched$Tape" 86) "java/lang/String" "value" "[B") (.int 2)) (.int 101)) (by decide +kernel)
      · exact hs (.eq (.elem (.field (.string "LinesTouched$Tape" 86) "java/lang/String" "value" "[B") (.int 3)) (.int 112)) (by decide +kernel)
      · exact hs (.eq (.elem (.field (.string "LinesTouched$Tape" 86) "java/lang/String" "value" "[B") (.int 4)) (.int 101)) (by decide +kernel)
      · exact hs (.eq (.elem (.field (.string "LinesTouched$Tape" 86) "java/lang/String" "value" "[B") (.int 5)) (.int 114)) (by decide +kernel)) (fun j hj => by
      have hj : j < 5 := hj
      rcases (show j = 0 ∨ j = 1 ∨ j = 2 ∨ j = 3 ∨ j = 4 by omega) with rfl | rfl | rfl | rfl | rfl
      · exact hs (.eq (.elem (.field (.string "LinesTouched$Tape" 88) "java/lang/String" "value" "[B") (.int 0)) (.int 103)) (by decide +kernel)
      · exact hs (.eq (.elem (.field (.string "LinesTouched$Tape" 88) "java/lang/String" "value" "[B") (.int 1)) (.int 117)) (by decide +kernel)
      · exact hs (.eq (.elem (.field (.string "LinesTouched$Tape" 88) "java/lang/String" "value" "[B") (.int 2)) (.int 105)) (by decide +kernel)
      · exact hs (.eq (.elem (.field (.string "LinesTouched$Tape" 88) "java/lang/String" "value" "[B") (.int 3)) (.int 108)) (by decide +kernel)
      · exact hs (.eq (.elem (.field (.string "LinesTouched$Tape" 88) "java/lang/String" "value" "[B") (.int 4)) (.int 100)) (by decide +kernel)) (fun j hj => by
      have hj : j < 6 := hj
      rcases (show j = 0 ∨ j = 1 ∨ j = 2 ∨ j = 3 ∨ j = 4 ∨ j = 5 by omega) with rfl | rfl | rfl | rfl | rfl | rfl
      · exact hs (.eq (.elem (.field (.string "LinesTouched$Tape" 90) "java/lang/String" "value" "[B") (.int 0)) (.int 119)) (by decide +kernel)
      · exact hs (.eq (.elem (.field (.string "LinesTouched$Tape" 90) "java/lang/String" "value" "[B") (.int 1)) (.int 97)) (by decide +kernel)
      · exact hs (.eq (.elem (.field (.string "LinesTouched$Tape" 90) "java/lang/String" "value" "[B") (.int 2)) (.int 114)) (by decide +kernel)
      · exact hs (.eq (.elem (.field (.string "LinesTouched$Tape" 90) "java/lang/String" "value" "[B") (.int 3)) (.int 100)) (by decide +kernel)
      · exact hs (.eq (.elem (.field (.string "LinesTouched$Tape" 90) "java/lang/String" "value" "[B") (.int 4)) (.int 101)) (by decide +kernel)
      · exact hs (.eq (.elem (.field (.string "LinesTouched$Tape" 90) "java/lang/String" "value" "[B") (.int 5)) (.int 110)) (by decide +kernel)) (fun j hj => by
      have hj : j < 5 := hj
      rcases (show j = 0 ∨ j = 1 ∨ j = 2 ∨ j = 3 ∨ j = 4 by omega) with rfl | rfl | rfl | rfl | rfl
      · exact hs (.eq (.elem (.field (.string "LinesTouched$Tape" 92) "java/lang/String" "value" "[B") (.int 0)) (.int 112)) (by decide +kernel)
      · exact hs (.eq (.elem (.field (.string "LinesTouched$Tape" 92) "java/lang/String" "value" "[B") (.int 1)) (.int 111)) (by decide +kernel)
      · exact hs (.eq (.elem (.field (.string "LinesTouched$Tape" 92) "java/lang/String" "value" "[B") (.int 2)) (.int 105)) (by decide +kernel)
      · exact hs (.eq (.elem (.field (.string "LinesTouched$Tape" 92) "java/lang/String" "value" "[B") (.int 3)) (.int 110)) (by decide +kernel)
      · exact hs (.eq (.elem (.field (.string "LinesTouched$Tape" 92) "java/lang/String" "value" "[B") (.int 4)) (.int 116)) (by decide +kernel)))
    (fun i j hi hj hij => (Nat.lt_or_gt_of_ne hij).imp (fun h => hne i j h hj) (fun h => hne j i h hi)) hA
  exact ⟨t0, tf, adK, adV, hKA, hT, hCS, hSF, hV, i6 (vk_R.of (hts (.stringRef "LinesTouched$Tape" 82 "toll") (by decide +kernel)) (hE 0 (by decide))) (vk_R.of (hts (.stringRef "LinesTouched$Tape" 84 "club") (by decide +kernel)) (hE 1 (by decide))) (vk_R.of (hts (.stringRef "LinesTouched$Tape" 86 "keeper") (by decide +kernel)) (hE 2 (by decide))) (vk_R.of (hts (.stringRef "LinesTouched$Tape" 88 "guild") (by decide +kernel)) (hE 3 (by decide))) (vk_R.of (hts (.stringRef "LinesTouched$Tape" 90 "warden") (by decide +kernel)) (hE 4 (by decide))) (vk_R.of (hts (.stringRef "LinesTouched$Tape" 92 "point") (by decide +kernel)) (hE 5 (by decide)))⟩
