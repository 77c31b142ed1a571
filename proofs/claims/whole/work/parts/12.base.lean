theorem yr_0_0 : isR (clty 0 0) = true := rfl
theorem yr_0_1 : isR (clty 0 1) = true := rfl
theorem yi_0_2 : isR (clty 0 2) = false := rfl
theorem yt_0_2 : clty 0 2 = .int := rfl
theorem yi_0_3 : isR (clty 0 3) = false := rfl
theorem yt_0_3 : clty 0 3 = .int := rfl
theorem yi_0_4 : isR (clty 0 4) = false := rfl
theorem yt_0_4 : clty 0 4 = .int := rfl
theorem yi_0_5 : isR (clty 0 5) = false := rfl
theorem yt_0_5 : clty 0 5 = .int := rfl
theorem yi_0_6 : isR (clty 0 6) = false := rfl
theorem yt_0_6 : clty 0 6 = .int := rfl
theorem yi_1_0 : isR (clty 1 0) = false := rfl
theorem yt_1_0 : clty 1 0 = .int := rfl
theorem yi_1_1 : isR (clty 1 1) = false := rfl
theorem yt_1_1 : clty 1 1 = .int := rfl
theorem yr_2_0 : isR (clty 2 0) = true := rfl
theorem yr_2_1 : isR (clty 2 1) = true := rfl
theorem yr_2_2 : isR (clty 2 2) = true := rfl
theorem yr_2_3 : isR (clty 2 3) = true := rfl
theorem yi_2_4 : isR (clty 2 4) = false := rfl
theorem yt_2_4 : clty 2 4 = .int := rfl
theorem yi_2_5 : isR (clty 2 5) = false := rfl
theorem yt_2_5 : clty 2 5 = .int := rfl
theorem yi_2_6 : isR (clty 2 6) = false := rfl
theorem yt_2_6 : clty 2 6 = .int := rfl
theorem yi_2_7 : isR (clty 2 7) = false := rfl
theorem yt_2_7 : clty 2 7 = .int := rfl
theorem yr_3_0 : isR (clty 3 0) = true := rfl
theorem yr_3_1 : isR (clty 3 1) = true := rfl
theorem yr_3_2 : isR (clty 3 2) = true := rfl
theorem yr_3_3 : isR (clty 3 3) = true := rfl
theorem yi_3_4 : isR (clty 3 4) = false := rfl
theorem yt_3_4 : clty 3 4 = .int := rfl
theorem yi_3_5 : isR (clty 3 5) = false := rfl
theorem yt_3_5 : clty 3 5 = .int := rfl
theorem yi_3_6 : isR (clty 3 6) = false := rfl
theorem yt_3_6 : clty 3 6 = .int := rfl
theorem yi_3_7 : isR (clty 3 7) = false := rfl
theorem yt_3_7 : clty 3 7 = .int := rfl
theorem yr_4_0 : isR (clty 4 0) = true := rfl
theorem yr_4_1 : isR (clty 4 1) = true := rfl
theorem yr_4_2 : isR (clty 4 2) = true := rfl
theorem yr_4_3 : isR (clty 4 3) = true := rfl
theorem yi_4_4 : isR (clty 4 4) = false := rfl
theorem yt_4_4 : clty 4 4 = .int := rfl
theorem yr_5_0 : isR (clty 5 0) = true := rfl
theorem yi_5_1 : isR (clty 5 1) = false := rfl
theorem yt_5_1 : clty 5 1 = .int := rfl
theorem yi_5_2 : isR (clty 5 2) = false := rfl
theorem yt_5_2 : clty 5 2 = .int := rfl
theorem yr_6_0 : isR (clty 6 0) = true := rfl
theorem yr_6_1 : isR (clty 6 1) = true := rfl
theorem yi_6_2 : isR (clty 6 2) = false := rfl
theorem yt_6_2 : clty 6 2 = .int := rfl
theorem yi_6_3 : isR (clty 6 3) = false := rfl
theorem yt_6_3 : clty 6 3 = .int := rfl
theorem yi_6_4 : isR (clty 6 4) = false := rfl
theorem yt_6_4 : clty 6 4 = .int := rfl
theorem yi_6_5 : isR (clty 6 5) = false := rfl
theorem yt_6_5 : clty 6 5 = .int := rfl
theorem yi_6_6 : isR (clty 6 6) = false := rfl
theorem yt_6_6 : clty 6 6 = .boolean := rfl
theorem yi_6_7 : isR (clty 6 7) = false := rfl
theorem yt_6_7 : clty 6 7 = .int := rfl
theorem yi_6_8 : isR (clty 6 8) = false := rfl
theorem yt_6_8 : clty 6 8 = .int := rfl
theorem yi_6_9 : isR (clty 6 9) = false := rfl
theorem yt_6_9 : clty 6 9 = .int := rfl
theorem yi_6_10 : isR (clty 6 10) = false := rfl
theorem yt_6_10 : clty 6 10 = .int := rfl
theorem yi_6_11 : isR (clty 6 11) = false := rfl
theorem yt_6_11 : clty 6 11 = .int := rfl
theorem yi_6_12 : isR (clty 6 12) = false := rfl
theorem yt_6_12 : clty 6 12 = .int := rfl
theorem yi_6_13 : isR (clty 6 13) = false := rfl
theorem yt_6_13 : clty 6 13 = .int := rfl
theorem yr_7_0 : isR (clty 7 0) = true := rfl
theorem yr_7_1 : isR (clty 7 1) = true := rfl
theorem yr_7_2 : isR (clty 7 2) = true := rfl
theorem yr_8_0 : isR (clty 8 0) = true := rfl
theorem yr_8_1 : isR (clty 8 1) = true := rfl
theorem yr_8_2 : isR (clty 8 2) = true := rfl
theorem yr_9_0 : isR (clty 9 0) = true := rfl
theorem yr_9_1 : isR (clty 9 1) = true := rfl
theorem yi_9_2 : isR (clty 9 2) = false := rfl
theorem yt_9_2 : clty 9 2 = .int := rfl
theorem yi_9_3 : isR (clty 9 3) = false := rfl
theorem yt_9_3 : clty 9 3 = .int := rfl
theorem yr_10_0 : isR (clty 10 0) = true := rfl
theorem yr_10_1 : isR (clty 10 1) = true := rfl
theorem yr_10_2 : isR (clty 10 2) = true := rfl
theorem yr_10_3 : isR (clty 10 3) = true := rfl
theorem yr_10_4 : isR (clty 10 4) = true := rfl
theorem yr_10_5 : isR (clty 10 5) = true := rfl
theorem yr_10_6 : isR (clty 10 6) = true := rfl
theorem yr_10_7 : isR (clty 10 7) = true := rfl
theorem yi_10_8 : isR (clty 10 8) = false := rfl
theorem yt_10_8 : clty 10 8 = .int := rfl
theorem yr_11_0 : isR (clty 11 0) = true := rfl
theorem yr_11_1 : isR (clty 11 1) = true := rfl
theorem yr_11_2 : isR (clty 11 2) = true := rfl
theorem yr_11_3 : isR (clty 11 3) = true := rfl
theorem yr_11_4 : isR (clty 11 4) = true := rfl
theorem yr_11_5 : isR (clty 11 5) = true := rfl
theorem yr_11_6 : isR (clty 11 6) = true := rfl
theorem yr_11_7 : isR (clty 11 7) = true := rfl
theorem yr_11_8 : isR (clty 11 8) = true := rfl
theorem yr_11_9 : isR (clty 11 9) = true := rfl
theorem yr_11_10 : isR (clty 11 10) = true := rfl
theorem yr_11_11 : isR (clty 11 11) = true := rfl
theorem yr_11_12 : isR (clty 11 12) = true := rfl
theorem yt_11_12 : clty 11 12 = .object "LinesTouched$Tree" := rfl
theorem yr_11_13 : isR (clty 11 13) = true := rfl
theorem yt_11_13 : clty 11 13 = .object "LinesTouched$Tree" := rfl
theorem yi_11_14 : isR (clty 11 14) = false := rfl
theorem yt_11_14 : clty 11 14 = .int := rfl
theorem yi_11_15 : isR (clty 11 15) = false := rfl
theorem yt_11_15 : clty 11 15 = .int := rfl
theorem yi_11_16 : isR (clty 11 16) = false := rfl
theorem yt_11_16 : clty 11 16 = .boolean := rfl
theorem yi_12_0 : isR (clty 12 0) = false := rfl
theorem yt_12_0 : clty 12 0 = .int := rfl
theorem yi_12_1 : isR (clty 12 1) = false := rfl
theorem yt_12_1 : clty 12 1 = .int := rfl
theorem yr_12_2 : isR (clty 12 2) = true := rfl
theorem yr_12_3 : isR (clty 12 3) = true := rfl
theorem yr_12_4 : isR (clty 12 4) = true := rfl
theorem yr_12_5 : isR (clty 12 5) = true := rfl
theorem yi_12_6 : isR (clty 12 6) = false := rfl
theorem yt_12_6 : clty 12 6 = .int := rfl
theorem yr_12_7 : isR (clty 12 7) = true := rfl
theorem yr_12_8 : isR (clty 12 8) = true := rfl
theorem yi_12_9 : isR (clty 12 9) = false := rfl
theorem yt_12_9 : clty 12 9 = .int := rfl
theorem yi_12_10 : isR (clty 12 10) = false := rfl
theorem yt_12_10 : clty 12 10 = .int := rfl
theorem yi_12_11 : isR (clty 12 11) = false := rfl
theorem yt_12_11 : clty 12 11 = .int := rfl
theorem yi_12_12 : isR (clty 12 12) = false := rfl
theorem yt_12_12 : clty 12 12 = .int := rfl
theorem yr_12_13 : isR (clty 12 13) = true := rfl
theorem yr_12_14 : isR (clty 12 14) = true := rfl
theorem yr_12_15 : isR (clty 12 15) = true := rfl
theorem yi_12_16 : isR (clty 12 16) = false := rfl
theorem yt_12_16 : clty 12 16 = .int := rfl
theorem yi_12_17 : isR (clty 12 17) = false := rfl
theorem yt_12_17 : clty 12 17 = .int := rfl
theorem yi_12_18 : isR (clty 12 18) = false := rfl
theorem yt_12_18 : clty 12 18 = .int := rfl
theorem yi_12_19 : isR (clty 12 19) = false := rfl
theorem yt_12_19 : clty 12 19 = .int := rfl
theorem yr_12_20 : isR (clty 12 20) = true := rfl
theorem yr_12_21 : isR (clty 12 21) = true := rfl
theorem yi_12_22 : isR (clty 12 22) = false := rfl
theorem yt_12_22 : clty 12 22 = .int := rfl
theorem yr_12_23 : isR (clty 12 23) = true := rfl
theorem yr_12_24 : isR (clty 12 24) = true := rfl
theorem yi_12_25 : isR (clty 12 25) = false := rfl
theorem yt_12_25 : clty 12 25 = .int := rfl
theorem yi_12_26 : isR (clty 12 26) = false := rfl
theorem yt_12_26 : clty 12 26 = .int := rfl
theorem yr_12_27 : isR (clty 12 27) = true := rfl
theorem yr_12_28 : isR (clty 12 28) = true := rfl
theorem yr_12_29 : isR (clty 12 29) = true := rfl
theorem yi_12_30 : isR (clty 12 30) = false := rfl
theorem yt_12_30 : clty 12 30 = .int := rfl
theorem yr_12_31 : isR (clty 12 31) = true := rfl
theorem yr_12_32 : isR (clty 12 32) = true := rfl
theorem yr_12_33 : isR (clty 12 33) = true := rfl
theorem yr_12_34 : isR (clty 12 34) = true := rfl
theorem yr_12_35 : isR (clty 12 35) = true := rfl
theorem yr_12_36 : isR (clty 12 36) = true := rfl
theorem yr_12_37 : isR (clty 12 37) = true := rfl
theorem yr_12_38 : isR (clty 12 38) = true := rfl
theorem yr_12_39 : isR (clty 12 39) = true := rfl
theorem yr_12_40 : isR (clty 12 40) = true := rfl
theorem yr_12_41 : isR (clty 12 41) = true := rfl
theorem yi_12_42 : isR (clty 12 42) = false := rfl
theorem yt_12_42 : clty 12 42 = .boolean := rfl
theorem yr_12_43 : isR (clty 12 43) = true := rfl
theorem yr_12_44 : isR (clty 12 44) = true := rfl
theorem yr_12_45 : isR (clty 12 45) = true := rfl
theorem yr_12_46 : isR (clty 12 46) = true := rfl
theorem yr_12_47 : isR (clty 12 47) = true := rfl
theorem yr_12_48 : isR (clty 12 48) = true := rfl
theorem yr_12_49 : isR (clty 12 49) = true := rfl
section B12
variable {l : Launch} {d : Nat} {mi : MI} {K : AK} {pc nx tgt : Nat} {L S : List Value} {I : AI} {J : AJ} {R : AR}
theorem G_tabAt {dflt lo hi off : Int} {offs : Array Int} {n : Nat} {x v : Int32} (hd : D mi.2.1 pc (.tableswitch dflt lo hi offs) n nx) (hx : x = v) (h1 : ¬ v.toInt < lo) (h2 : ¬ hi < v.toInt) (ho : offs[(v.toInt - lo).toNat]? = some off) (ht : (pc : Int) + off = (tgt : Int)) (k : G l d mi K tgt L S I J R) : G l d mi K pc L (.int x :: S) I J R := by
  subst hx
  exact G_tabIn hd h1 h2 ho ht k
theorem G_lookAt {dflt off : Int} {ps : Array (Int × Int)} {n : Nat} {x v : Int32} (hd : D mi.2.1 pc (.lookupswitch dflt ps) n nx) (hx : x = v) (hp : (ps.toList.zip (ps.toList.drop 1)).all (fun (a, next) => a.1 < next.1) = true) (ho : Op.lookupswitch.offset ps.toList dflt v.toInt = off) (ht : (pc : Int) + off = (tgt : Int)) (k : G l d mi K tgt L S I J R) : G l d mi K pc L (.int x :: S) I J R := by
  subst hx
  exact G_lookup hd hp ho ht k
theorem G_L {L' : List Value} (h : L = L') (k : G l d mi K pc L' S I J R) : G l d mi K pc L S I J R := h ▸ k
theorem G_LI {L' : List Value} {I' : AI} (h : L = L') (hi : I = I') (k : G l d mi K pc L' S I' J R) : G l d mi K pc L S I J R := by subst h; subst hi; exact k
theorem G_S {S' : List Value} (h : S = S') (k : G l d mi K pc L S' I J R) : G l d mi K pc L S I J R := h ▸ k
theorem G_I {I' : AI} (h : I = I') (k : G l d mi K pc L S I' J R) : G l d mi K pc L S I J R := h ▸ k
theorem G_J {J' : AJ} (h : J = J') (k : G l d mi K pc L S I J' R) : G l d mi K pc L S I J R := h ▸ k
theorem K_v {v v' : Value} (h : v = v') (k : K v' I J R) : K v I J R := h ▸ k
end B12
theorem i32_of_toInt {x y : Int32} (h : x.toInt = y.toInt) : x = y := Int32.toInt_inj.mp h

theorem sw_0_1 (x : Int32) : x = 0 ∨ x = 1 ∨ (x.toInt < 0 ∨ 1 < x.toInt) := by
  by_cases h : x.toInt < 0 ∨ 1 < x.toInt
  · exact Or.inr (Or.inr h)
  · have hh : x.toInt = 0 ∨ x.toInt = 1 := by omega
    rcases hh with h | h
    · exact Or.inl (i32_of_toInt (h.trans (by decide)))
    · exact Or.inr (Or.inl (i32_of_toInt (h.trans (by decide))))

theorem sw_0_2 (x : Int32) : x = 0 ∨ x = 1 ∨ x = 2 ∨ (x.toInt < 0 ∨ 2 < x.toInt) := by
  by_cases h : x.toInt < 0 ∨ 2 < x.toInt
  · exact Or.inr (Or.inr (Or.inr h))
  · have hh : x.toInt = 0 ∨ x.toInt = 1 ∨ x.toInt = 2 := by omega
    rcases hh with h | h | h
    · exact Or.inl (i32_of_toInt (h.trans (by decide)))
    · exact Or.inr (Or.inl (i32_of_toInt (h.trans (by decide))))
    · exact Or.inr (Or.inr (Or.inl (i32_of_toInt (h.trans (by decide)))))

theorem sw_0_3 (x : Int32) : x = 0 ∨ x = 1 ∨ x = 2 ∨ x = 3 ∨ (x.toInt < 0 ∨ 3 < x.toInt) := by
  by_cases h : x.toInt < 0 ∨ 3 < x.toInt
  · exact Or.inr (Or.inr (Or.inr (Or.inr h)))
  · have hh : x.toInt = 0 ∨ x.toInt = 1 ∨ x.toInt = 2 ∨ x.toInt = 3 := by omega
    rcases hh with h | h | h | h
    · exact Or.inl (i32_of_toInt (h.trans (by decide)))
    · exact Or.inr (Or.inl (i32_of_toInt (h.trans (by decide))))
    · exact Or.inr (Or.inr (Or.inl (i32_of_toInt (h.trans (by decide)))))
    · exact Or.inr (Or.inr (Or.inr (Or.inl (i32_of_toInt (h.trans (by decide))))))

theorem sw_0_4 (x : Int32) : x = 0 ∨ x = 1 ∨ x = 2 ∨ x = 3 ∨ x = 4 ∨ (x.toInt < 0 ∨ 4 < x.toInt) := by
  by_cases h : x.toInt < 0 ∨ 4 < x.toInt
  · exact Or.inr (Or.inr (Or.inr (Or.inr (Or.inr h))))
  · have hh : x.toInt = 0 ∨ x.toInt = 1 ∨ x.toInt = 2 ∨ x.toInt = 3 ∨ x.toInt = 4 := by omega
    rcases hh with h | h | h | h | h
    · exact Or.inl (i32_of_toInt (h.trans (by decide)))
    · exact Or.inr (Or.inl (i32_of_toInt (h.trans (by decide))))
    · exact Or.inr (Or.inr (Or.inl (i32_of_toInt (h.trans (by decide)))))
    · exact Or.inr (Or.inr (Or.inr (Or.inl (i32_of_toInt (h.trans (by decide))))))
    · exact Or.inr (Or.inr (Or.inr (Or.inr (Or.inl (i32_of_toInt (h.trans (by decide)))))))

theorem sw_0_5 (x : Int32) : x = 0 ∨ x = 1 ∨ x = 2 ∨ x = 3 ∨ x = 4 ∨ x = 5 ∨ (x.toInt < 0 ∨ 5 < x.toInt) := by
  by_cases h : x.toInt < 0 ∨ 5 < x.toInt
  · exact Or.inr (Or.inr (Or.inr (Or.inr (Or.inr (Or.inr h)))))
  · have hh : x.toInt = 0 ∨ x.toInt = 1 ∨ x.toInt = 2 ∨ x.toInt = 3 ∨ x.toInt = 4 ∨ x.toInt = 5 := by omega
    rcases hh with h | h | h | h | h | h
    · exact Or.inl (i32_of_toInt (h.trans (by decide)))
    · exact Or.inr (Or.inl (i32_of_toInt (h.trans (by decide))))
    · exact Or.inr (Or.inr (Or.inl (i32_of_toInt (h.trans (by decide)))))
    · exact Or.inr (Or.inr (Or.inr (Or.inl (i32_of_toInt (h.trans (by decide))))))
    · exact Or.inr (Or.inr (Or.inr (Or.inr (Or.inl (i32_of_toInt (h.trans (by decide)))))))
    · exact Or.inr (Or.inr (Or.inr (Or.inr (Or.inr (Or.inl (i32_of_toInt (h.trans (by decide))))))))

theorem sw_1_5 (x : Int32) : x = 1 ∨ x = 2 ∨ x = 3 ∨ x = 4 ∨ x = 5 ∨ (x.toInt < 1 ∨ 5 < x.toInt) := by
  by_cases h : x.toInt < 1 ∨ 5 < x.toInt
  · exact Or.inr (Or.inr (Or.inr (Or.inr (Or.inr h))))
  · have hh : x.toInt = 1 ∨ x.toInt = 2 ∨ x.toInt = 3 ∨ x.toInt = 4 ∨ x.toInt = 5 := by omega
    rcases hh with h | h | h | h | h
    · exact Or.inl (i32_of_toInt (h.trans (by decide)))
    · exact Or.inr (Or.inl (i32_of_toInt (h.trans (by decide))))
    · exact Or.inr (Or.inr (Or.inl (i32_of_toInt (h.trans (by decide)))))
    · exact Or.inr (Or.inr (Or.inr (Or.inl (i32_of_toInt (h.trans (by decide))))))
    · exact Or.inr (Or.inr (Or.inr (Or.inr (Or.inl (i32_of_toInt (h.trans (by decide)))))))

theorem sw_0_50 (x : Int32) : x = 0 ∨ x = 1 ∨ x = 2 ∨ x = 3 ∨ x = 4 ∨ x = 5 ∨ x = 6 ∨ x = 7 ∨ x = 8 ∨ x = 9 ∨ x = 10 ∨ x = 11 ∨ x = 12 ∨ x = 13 ∨ x = 14 ∨ x = 15 ∨ x = 16 ∨ x = 17 ∨ x = 18 ∨ x = 19 ∨ x = 20 ∨ x = 21 ∨ x = 22 ∨ x = 23 ∨ x = 24 ∨ x = 25 ∨ x = 26 ∨ x = 27 ∨ x = 28 ∨ x = 29 ∨ x = 30 ∨ x = 31 ∨ x = 32 ∨ x = 33 ∨ x = 34 ∨ x = 35 ∨ x = 36 ∨ x = 37 ∨ x = 38 ∨ x = 39 ∨ x = 40 ∨ x = 41 ∨ x = 42 ∨ x = 43 ∨ x = 44 ∨ x = 45 ∨ x = 46 ∨ x = 47 ∨ x = 48 ∨ x = 49 ∨ x = 50 ∨ (x.toInt < 0 ∨ 50 < x.toInt) := by
  by_cases h : x.toInt < 0 ∨ 50 < x.toInt
  · exact Or.inr (Or.inr (Or.inr (Or.inr (Or.inr (Or.inr (Or.inr (Or.inr (Or.inr (Or.inr (Or.inr (Or.inr (Or.inr (Or.inr (Or.inr (Or.inr (Or.inr (Or.inr (Or.inr (Or.inr (Or.inr (Or.inr (Or.inr (Or.inr (Or.inr (Or.inr (Or.inr (Or.inr (Or.inr (Or.inr (Or.inr (Or.inr (Or.inr (Or.inr (Or.inr (Or.inr (Or.inr (Or.inr (Or.inr (Or.inr (Or.inr (Or.inr (Or.inr (Or.inr (Or.inr (Or.inr (Or.inr (Or.inr (Or.inr (Or.inr (Or.inr h))))))))))))))))))))))))))))))))))))))))))))))))))
  · have hh : x.toInt = 0 ∨ x.toInt = 1 ∨ x.toInt = 2 ∨ x.toInt = 3 ∨ x.toInt = 4 ∨ x.toInt = 5 ∨ x.toInt = 6 ∨ x.toInt = 7 ∨ x.toInt = 8 ∨ x.toInt = 9 ∨ x.toInt = 10 ∨ x.toInt = 11 ∨ x.toInt = 12 ∨ x.toInt = 13 ∨ x.toInt = 14 ∨ x.toInt = 15 ∨ x.toInt = 16 ∨ x.toInt = 17 ∨ x.toInt = 18 ∨ x.toInt = 19 ∨ x.toInt = 20 ∨ x.toInt = 21 ∨ x.toInt = 22 ∨ x.toInt = 23 ∨ x.toInt = 24 ∨ x.toInt = 25 ∨ x.toInt = 26 ∨ x.toInt = 27 ∨ x.toInt = 28 ∨ x.toInt = 29 ∨ x.toInt = 30 ∨ x.toInt = 31 ∨ x.toInt = 32 ∨ x.toInt = 33 ∨ x.toInt = 34 ∨ x.toInt = 35 ∨ x.toInt = 36 ∨ x.toInt = 37 ∨ x.toInt = 38 ∨ x.toInt = 39 ∨ x.toInt = 40 ∨ x.toInt = 41 ∨ x.toInt = 42 ∨ x.toInt = 43 ∨ x.toInt = 44 ∨ x.toInt = 45 ∨ x.toInt = 46 ∨ x.toInt = 47 ∨ x.toInt = 48 ∨ x.toInt = 49 ∨ x.toInt = 50 := by omega
    rcases hh with h | h | h | h | h | h | h | h | h | h | h | h | h | h | h | h | h | h | h | h | h | h | h | h | h | h | h | h | h | h | h | h | h | h | h | h | h | h | h | h | h | h | h | h | h | h | h | h | h | h | h
    · exact Or.inl (i32_of_toInt (h.trans (by decide)))
    · exact Or.inr (Or.inl (i32_of_toInt (h.trans (by decide))))
    · exact Or.inr (Or.inr (Or.inl (i32_of_toInt (h.trans (by decide)))))
    · exact Or.inr (Or.inr (Or.inr (Or.inl (i32_of_toInt (h.trans (by decide))))))
    · exact Or.inr (Or.inr (Or.inr (Or.inr (Or.inl (i32_of_toInt (h.trans (by decide)))))))
    · exact Or.inr (Or.inr (Or.inr (Or.inr (Or.inr (Or.inl (i32_of_toInt (h.trans (by decide))))))))
    · exact Or.inr (Or.inr (Or.inr (Or.inr (Or.inr (Or.inr (Or.inl (i32_of_toInt (h.trans (by decide)))))))))
    · exact Or.inr (Or.inr (Or.inr (Or.inr (Or.inr (Or.inr (Or.inr (Or.inl (i32_of_toInt (h.trans (by decide))))))))))
    · exact Or.inr (Or.inr (Or.inr (Or.inr (Or.inr (Or.inr (Or.inr (Or.inr (Or.inl (i32_of_toInt (h.trans (by decide)))))))))))
    · exact Or.inr (Or.inr (Or.inr (Or.inr (Or.inr (Or.inr (Or.inr (Or.inr (Or.inr (Or.inl (i32_of_toInt (h.trans (by decide))))))))))))
    · exact Or.inr (Or.inr (Or.inr (Or.inr (Or.inr (Or.inr (Or.inr (Or.inr (Or.inr (Or.inr (Or.inl (i32_of_toInt (h.trans (by decide)))))))))))))
    · exact Or.inr (Or.inr (Or.inr (Or.inr (Or.inr (Or.inr (Or.inr (Or.inr (Or.inr (Or.inr (Or.inr (Or.inl (i32_of_toInt (h.trans (by decide))))))))))))))
    · exact Or.inr (Or.inr (Or.inr (Or.inr (Or.inr (Or.inr (Or.inr (Or.inr (Or.inr (Or.inr (Or.inr (Or.inr (Or.inl (i32_of_toInt (h.trans (by decide)))))))))))))))
    · exact Or.inr (Or.inr (Or.inr (Or.inr (Or.inr (Or.inr (Or.inr (Or.inr (Or.inr (Or.inr (Or.inr (Or.inr (Or.inr (Or.inl (i32_of_toInt (h.trans (by decide))))))))))))))))
    · exact Or.inr (Or.inr (Or.inr (Or.inr (Or.inr (Or.inr (Or.inr (Or.inr (Or.inr (Or.inr (Or.inr (Or.inr (Or.inr (Or.inr (Or.inl (i32_of_toInt (h.trans (by decide)))))))))))))))))
    · exact Or.inr (Or.inr (Or.inr (Or.inr (Or.inr (Or.inr (Or.inr (Or.inr (Or.inr (Or.inr (Or.inr (Or.inr (Or.inr (Or.inr (Or.inr (Or.inl (i32_of_toInt (h.trans (by decide))))))))))))))))))
    · exact Or.inr (Or.inr (Or.inr (Or.inr (Or.inr (Or.inr (Or.inr (Or.inr (Or.inr (Or.inr (Or.inr (Or.inr (Or.inr (Or.inr (Or.inr (Or.inr (Or.inl (i32_of_toInt (h.trans (by decide)))))))))))))))))))
    · exact Or.inr (Or.inr (Or.inr (Or.inr (Or.inr (Or.inr (Or.inr (Or.inr (Or.inr (Or.inr (Or.inr (Or.inr (Or.inr (Or.inr (Or.inr (Or.inr (Or.inr (Or.inl (i32_of_toInt (h.trans (by decide))))))))))))))))))))
    · exact Or.inr (Or.inr (Or.inr (Or.inr (Or.inr (Or.inr (Or.inr (Or.inr (Or.inr (Or.inr (Or.inr (Or.inr (Or.inr (Or.inr (Or.inr (Or.inr (Or.inr (Or.inr (Or.inl (i32_of_toInt (h.trans (by decide)))))))))))))))))))))
    · exact Or.inr (Or.inr (Or.inr (Or.inr (Or.inr (Or.inr (Or.inr (Or.inr (Or.inr (Or.inr (Or.inr (Or.inr (Or.inr (Or.inr (Or.inr (Or.inr (Or.inr (Or.inr (Or.inr (Or.inl (i32_of_toInt (h.trans (by decide))))))))))))))))))))))
    · exact Or.inr (Or.inr (Or.inr (Or.inr (Or.inr (Or.inr (Or.inr (Or.inr (Or.inr (Or.inr (Or.inr (Or.inr (Or.inr (Or.inr (Or.inr (Or.inr (Or.inr (Or.inr (Or.inr (Or.inr (Or.inl (i32_of_toInt (h.trans (by decide)))))))))))))))))))))))
    · exact Or.inr (Or.inr (Or.inr (Or.inr (Or.inr (Or.inr (Or.inr (Or.inr (Or.inr (Or.inr (Or.inr (Or.inr (Or.inr (Or.inr (Or.inr (Or.inr (Or.inr (Or.inr (Or.inr (Or.inr (Or.inr (Or.inl (i32_of_toInt (h.trans (by decide))))))))))))))))))))))))
    · exact Or.inr (Or.inr (Or.inr (Or.inr (Or.inr (Or.inr (Or.inr (Or.inr (Or.inr (Or.inr (Or.inr (Or.inr (Or.inr (Or.inr (Or.inr (Or.inr (Or.inr (Or.inr (Or.inr (Or.inr (Or.inr (Or.inr (Or.inl (i32_of_toInt (h.trans (by decide)))))))))))))))))))))))))
    · exact Or.inr (Or.inr (Or.inr (Or.inr (Or.inr (Or.inr (Or.inr (Or.inr (Or.inr (Or.inr (Or.inr (Or.inr (Or.inr (Or.inr (Or.inr (Or.inr (Or.inr (Or.inr (Or.inr (Or.inr (Or.inr (Or.inr (Or.inr (Or.inl (i32_of_toInt (h.trans (by decide))))))))))))))))))))))))))
    · exact Or.inr (Or.inr (Or.inr (Or.inr (Or.inr (Or.inr (Or.inr (Or.inr (Or.inr (Or.inr (Or.inr (Or.inr (Or.inr (Or.inr (Or.inr (Or.inr (Or.inr (Or.inr (Or.inr (Or.inr (Or.inr (Or.inr (Or.inr (Or.inr (Or.inl (i32_of_toInt (h.trans (by decide)))))))))))))))))))))))))))
    · exact Or.inr (Or.inr (Or.inr (Or.inr (Or.inr (Or.inr (Or.inr (Or.inr (Or.inr (Or.inr (Or.inr (Or.inr (Or.inr (Or.inr (Or.inr (Or.inr (Or.inr (Or.inr (Or.inr (Or.inr (Or.inr (Or.inr (Or.inr (Or.inr (Or.inr (Or.inl (i32_of_toInt (h.trans (by decide))))))))))))))))))))))))))))
    · exact Or.inr (Or.inr (Or.inr (Or.inr (Or.inr (Or.inr (Or.inr (Or.inr (Or.inr (Or.inr (Or.inr (Or.inr (Or.inr (Or.inr (Or.inr (Or.inr (Or.inr (Or.inr (Or.inr (Or.inr (Or.inr (Or.inr (Or.inr (Or.inr (Or.inr (Or.inr (Or.inl (i32_of_toInt (h.trans (by decide)))))))))))))))))))))))))))))
    · exact Or.inr (Or.inr (Or.inr (Or.inr (Or.inr (Or.inr (Or.inr (Or.inr (Or.inr (Or.inr (Or.inr (Or.inr (Or.inr (Or.inr (Or.inr (Or.inr (Or.inr (Or.inr (Or.inr (Or.inr (Or.inr (Or.inr (Or.inr (Or.inr (Or.inr (Or.inr (Or.inr (Or.inl (i32_of_toInt (h.trans (by decide))))))))))))))))))))))))))))))
    · exact Or.inr (Or.inr (Or.inr (Or.inr (Or.inr (Or.inr (Or.inr (Or.inr (Or.inr (Or.inr (Or.inr (Or.inr (Or.inr (Or.inr (Or.inr (Or.inr (Or.inr (Or.inr (Or.inr (Or.inr (Or.inr (Or.inr (Or.inr (Or.inr (Or.inr (Or.inr (Or.inr (Or.inr (Or.inl (i32_of_toInt (h.trans (by decide)))))))))))))))))))))))))))))))
    · exact Or.inr (Or.inr (Or.inr (Or.inr (Or.inr (Or.inr (Or.inr (Or.inr (Or.inr (Or.inr (Or.inr (Or.inr (Or.inr (Or.inr (Or.inr (Or.inr (Or.inr (Or.inr (Or.inr (Or.inr (Or.inr (Or.inr (Or.inr (Or.inr (Or.inr (Or.inr (Or.inr (Or.inr (Or.inr (Or.inl (i32_of_toInt (h.trans (by decide))))))))))))))))))))))))))))))))
    · exact Or.inr (Or.inr (Or.inr (Or.inr (Or.inr (Or.inr (Or.inr (Or.inr (Or.inr (Or.inr (Or.inr (Or.inr (Or.inr (Or.inr (Or.inr (Or.inr (Or.inr (Or.inr (Or.inr (Or.inr (Or.inr (Or.inr (Or.inr (Or.inr (Or.inr (Or.inr (Or.inr (Or.inr (Or.inr (Or.inr (Or.inl (i32_of_toInt (h.trans (by decide)))))))))))))))))))))))))))))))))
    · exact Or.inr (Or.inr (Or.inr (Or.inr (Or.inr (Or.inr (Or.inr (Or.inr (Or.inr (Or.inr (Or.inr (Or.inr (Or.inr (Or.inr (Or.inr (Or.inr (Or.inr (Or.inr (Or.inr (Or.inr (Or.inr (Or.inr (Or.inr (Or.inr (Or.inr (Or.inr (Or.inr (Or.inr (Or.inr (Or.inr (Or.inr (Or.inl (i32_of_toInt (h.trans (by decide))))))))))))))))))))))))))))))))))
    · exact Or.inr (Or.inr (Or.inr (Or.inr (Or.inr (Or.inr (Or.inr (Or.inr (Or.inr (Or.inr (Or.inr (Or.inr (Or.inr (Or.inr (Or.inr (Or.inr (Or.inr (Or.inr (Or.inr (Or.inr (Or.inr (Or.inr (Or.inr (Or.inr (Or.inr (Or.inr (Or.inr (Or.inr (Or.inr (Or.inr (Or.inr (Or.inr (Or.inl (i32_of_toInt (h.trans (by decide)))))))))))))))))))))))))))))))))))
    · exact Or.inr (Or.inr (Or.inr (Or.inr (Or.inr (Or.inr (Or.inr (Or.inr (Or.inr (Or.inr (Or.inr (Or.inr (Or.inr (Or.inr (Or.inr (Or.inr (Or.inr (Or.inr (Or.inr (Or.inr (Or.inr (Or.inr (Or.inr (Or.inr (Or.inr (Or.inr (Or.inr (Or.inr (Or.inr (Or.inr (Or.inr (Or.inr (Or.inr (Or.inl (i32_of_toInt (h.trans (by decide))))))))))))))))))))))))))))))))))))
    · exact Or.inr (Or.inr (Or.inr (Or.inr (Or.inr (Or.inr (Or.inr (Or.inr (Or.inr (Or.inr (Or.inr (Or.inr (Or.inr (Or.inr (Or.inr (Or.inr (Or.inr (Or.inr (Or.inr (Or.inr (Or.inr (Or.inr (Or.inr (Or.inr (Or.inr (Or.inr (Or.inr (Or.inr (Or.inr (Or.inr (Or.inr (Or.inr (Or.inr (Or.inr (Or.inl (i32_of_toInt (h.trans (by decide)))))))))))))))))))))))))))))))))))))
    · exact Or.inr (Or.inr (Or.inr (Or.inr (Or.inr (Or.inr (Or.inr (Or.inr (Or.inr (Or.inr (Or.inr (Or.inr (Or.inr (Or.inr (Or.inr (Or.inr (Or.inr (Or.inr (Or.inr (Or.inr (Or.inr (Or.inr (Or.inr (Or.inr (Or.inr (Or.inr (Or.inr (Or.inr (Or.inr (Or.inr (Or.inr (Or.inr (Or.inr (Or.inr (Or.inr (Or.inl (i32_of_toInt (h.trans (by decide))))))))))))))))))))))))))))))))))))))
    · exact Or.inr (Or.inr (Or.inr (Or.inr (Or.inr (Or.inr (Or.inr (Or.inr (Or.inr (Or.inr (Or.inr (Or.inr (Or.inr (Or.inr (Or.inr (Or.inr (Or.inr (Or.inr (Or.inr (Or.inr (Or.inr (Or.inr (Or.inr (Or.inr (Or.inr (Or.inr (Or.inr (Or.inr (Or.inr (Or.inr (Or.inr (Or.inr (Or.inr (Or.inr (Or.inr (Or.inr (Or.inl (i32_of_toInt (h.trans (by decide)))))))))))))))))))))))))))))))))))))))
    · exact Or.inr (Or.inr (Or.inr (Or.inr (Or.inr (Or.inr (Or.inr (Or.inr (Or.inr (Or.inr (Or.inr (Or.inr (Or.inr (Or.inr (Or.inr (Or.inr (Or.inr (Or.inr (Or.inr (Or.inr (Or.inr (Or.inr (Or.inr (Or.inr (Or.inr (Or.inr (Or.inr (Or.inr (Or.inr (Or.inr (Or.inr (Or.inr (Or.inr (Or.inr (Or.inr (Or.inr (Or.inr (Or.inl (i32_of_toInt (h.trans (by decide))))))))))))))))))))))))))))))))))))))))
    · exact Or.inr (Or.inr (Or.inr (Or.inr (Or.inr (Or.inr (Or.inr (Or.inr (Or.inr (Or.inr (Or.inr (Or.inr (Or.inr (Or.inr (Or.inr (Or.inr (Or.inr (Or.inr (Or.inr (Or.inr (Or.inr (Or.inr (Or.inr (Or.inr (Or.inr (Or.inr (Or.inr (Or.inr (Or.inr (Or.inr (Or.inr (Or.inr (Or.inr (Or.inr (Or.inr (Or.inr (Or.inr (Or.inr (Or.inl (i32_of_toInt (h.trans (by decide)))))))))))))))))))))))))))))))))))))))))
    · exact Or.inr (Or.inr (Or.inr (Or.inr (Or.inr (Or.inr (Or.inr (Or.inr (Or.inr (Or.inr (Or.inr (Or.inr (Or.inr (Or.inr (Or.inr (Or.inr (Or.inr (Or.inr (Or.inr (Or.inr (Or.inr (Or.inr (Or.inr (Or.inr (Or.inr (Or.inr (Or.inr (Or.inr (Or.inr (Or.inr (Or.inr (Or.inr (Or.inr (Or.inr (Or.inr (Or.inr (Or.inr (Or.inr (Or.inr (Or.inl (i32_of_toInt (h.trans (by decide))))))))))))))))))))))))))))))))))))))))))
    · exact Or.inr (Or.inr (Or.inr (Or.inr (Or.inr (Or.inr (Or.inr (Or.inr (Or.inr (Or.inr (Or.inr (Or.inr (Or.inr (Or.inr (Or.inr (Or.inr (Or.inr (Or.inr (Or.inr (Or.inr (Or.inr (Or.inr (Or.inr (Or.inr (Or.inr (Or.inr (Or.inr (Or.inr (Or.inr (Or.inr (Or.inr (Or.inr (Or.inr (Or.inr (Or.inr (Or.inr (Or.inr (Or.inr (Or.inr (Or.inr (Or.inl (i32_of_toInt (h.trans (by decide)))))))))))))))))))))))))))))))))))))))))))
    · exact Or.inr (Or.inr (Or.inr (Or.inr (Or.inr (Or.inr (Or.inr (Or.inr (Or.inr (Or.inr (Or.inr (Or.inr (Or.inr (Or.inr (Or.inr (Or.inr (Or.inr (Or.inr (Or.inr (Or.inr (Or.inr (Or.inr (Or.inr (Or.inr (Or.inr (Or.inr (Or.inr (Or.inr (Or.inr (Or.inr (Or.inr (Or.inr (Or.inr (Or.inr (Or.inr (Or.inr (Or.inr (Or.inr (Or.inr (Or.inr (Or.inr (Or.inl (i32_of_toInt (h.trans (by decide))))))))))))))))))))))))))))))))))))))))))))
    · exact Or.inr (Or.inr (Or.inr (Or.inr (Or.inr (Or.inr (Or.inr (Or.inr (Or.inr (Or.inr (Or.inr (Or.inr (Or.inr (Or.inr (Or.inr (Or.inr (Or.inr (Or.inr (Or.inr (Or.inr (Or.inr (Or.inr (Or.inr (Or.inr (Or.inr (Or.inr (Or.inr (Or.inr (Or.inr (Or.inr (Or.inr (Or.inr (Or.inr (Or.inr (Or.inr (Or.inr (Or.inr (Or.inr (Or.inr (Or.inr (Or.inr (Or.inr (Or.inl (i32_of_toInt (h.trans (by decide)))))))))))))))))))))))))))))))))))))))))))))
    · exact Or.inr (Or.inr (Or.inr (Or.inr (Or.inr (Or.inr (Or.inr (Or.inr (Or.inr (Or.inr (Or.inr (Or.inr (Or.inr (Or.inr (Or.inr (Or.inr (Or.inr (Or.inr (Or.inr (Or.inr (Or.inr (Or.inr (Or.inr (Or.inr (Or.inr (Or.inr (Or.inr (Or.inr (Or.inr (Or.inr (Or.inr (Or.inr (Or.inr (Or.inr (Or.inr (Or.inr (Or.inr (Or.inr (Or.inr (Or.inr (Or.inr (Or.inr (Or.inr (Or.inl (i32_of_toInt (h.trans (by decide))))))))))))))))))))))))))))))))))))))))))))))
    · exact Or.inr (Or.inr (Or.inr (Or.inr (Or.inr (Or.inr (Or.inr (Or.inr (Or.inr (Or.inr (Or.inr (Or.inr (Or.inr (Or.inr (Or.inr (Or.inr (Or.inr (Or.inr (Or.inr (Or.inr (Or.inr (Or.inr (Or.inr (Or.inr (Or.inr (Or.inr (Or.inr (Or.inr (Or.inr (Or.inr (Or.inr (Or.inr (Or.inr (Or.inr (Or.inr (Or.inr (Or.inr (Or.inr (Or.inr (Or.inr (Or.inr (Or.inr (Or.inr (Or.inr (Or.inl (i32_of_toInt (h.trans (by decide)))))))))))))))))))))))))))))))))))))))))))))))
    · exact Or.inr (Or.inr (Or.inr (Or.inr (Or.inr (Or.inr (Or.inr (Or.inr (Or.inr (Or.inr (Or.inr (Or.inr (Or.inr (Or.inr (Or.inr (Or.inr (Or.inr (Or.inr (Or.inr (Or.inr (Or.inr (Or.inr (Or.inr (Or.inr (Or.inr (Or.inr (Or.inr (Or.inr (Or.inr (Or.inr (Or.inr (Or.inr (Or.inr (Or.inr (Or.inr (Or.inr (Or.inr (Or.inr (Or.inr (Or.inr (Or.inr (Or.inr (Or.inr (Or.inr (Or.inr (Or.inl (i32_of_toInt (h.trans (by decide))))))))))))))))))))))))))))))))))))))))))))))))
    · exact Or.inr (Or.inr (Or.inr (Or.inr (Or.inr (Or.inr (Or.inr (Or.inr (Or.inr (Or.inr (Or.inr (Or.inr (Or.inr (Or.inr (Or.inr (Or.inr (Or.inr (Or.inr (Or.inr (Or.inr (Or.inr (Or.inr (Or.inr (Or.inr (Or.inr (Or.inr (Or.inr (Or.inr (Or.inr (Or.inr (Or.inr (Or.inr (Or.inr (Or.inr (Or.inr (Or.inr (Or.inr (Or.inr (Or.inr (Or.inr (Or.inr (Or.inr (Or.inr (Or.inr (Or.inr (Or.inr (Or.inl (i32_of_toInt (h.trans (by decide)))))))))))))))))))))))))))))))))))))))))))))))))
    · exact Or.inr (Or.inr (Or.inr (Or.inr (Or.inr (Or.inr (Or.inr (Or.inr (Or.inr (Or.inr (Or.inr (Or.inr (Or.inr (Or.inr (Or.inr (Or.inr (Or.inr (Or.inr (Or.inr (Or.inr (Or.inr (Or.inr (Or.inr (Or.inr (Or.inr (Or.inr (Or.inr (Or.inr (Or.inr (Or.inr (Or.inr (Or.inr (Or.inr (Or.inr (Or.inr (Or.inr (Or.inr (Or.inr (Or.inr (Or.inr (Or.inr (Or.inr (Or.inr (Or.inr (Or.inr (Or.inr (Or.inr (Or.inl (i32_of_toInt (h.trans (by decide))))))))))))))))))))))))))))))))))))))))))))))))))
    · exact Or.inr (Or.inr (Or.inr (Or.inr (Or.inr (Or.inr (Or.inr (Or.inr (Or.inr (Or.inr (Or.inr (Or.inr (Or.inr (Or.inr (Or.inr (Or.inr (Or.inr (Or.inr (Or.inr (Or.inr (Or.inr (Or.inr (Or.inr (Or.inr (Or.inr (Or.inr (Or.inr (Or.inr (Or.inr (Or.inr (Or.inr (Or.inr (Or.inr (Or.inr (Or.inr (Or.inr (Or.inr (Or.inr (Or.inr (Or.inr (Or.inr (Or.inr (Or.inr (Or.inr (Or.inr (Or.inr (Or.inr (Or.inr (Or.inl (i32_of_toInt (h.trans (by decide)))))))))))))))))))))))))))))))))))))))))))))))))))
    · exact Or.inr (Or.inr (Or.inr (Or.inr (Or.inr (Or.inr (Or.inr (Or.inr (Or.inr (Or.inr (Or.inr (Or.inr (Or.inr (Or.inr (Or.inr (Or.inr (Or.inr (Or.inr (Or.inr (Or.inr (Or.inr (Or.inr (Or.inr (Or.inr (Or.inr (Or.inr (Or.inr (Or.inr (Or.inr (Or.inr (Or.inr (Or.inr (Or.inr (Or.inr (Or.inr (Or.inr (Or.inr (Or.inr (Or.inr (Or.inr (Or.inr (Or.inr (Or.inr (Or.inr (Or.inr (Or.inr (Or.inr (Or.inr (Or.inr (Or.inl (i32_of_toInt (h.trans (by decide))))))))))))))))))))))))))))))))))))))))))))))))))))
    · exact Or.inr (Or.inr (Or.inr (Or.inr (Or.inr (Or.inr (Or.inr (Or.inr (Or.inr (Or.inr (Or.inr (Or.inr (Or.inr (Or.inr (Or.inr (Or.inr (Or.inr (Or.inr (Or.inr (Or.inr (Or.inr (Or.inr (Or.inr (Or.inr (Or.inr (Or.inr (Or.inr (Or.inr (Or.inr (Or.inr (Or.inr (Or.inr (Or.inr (Or.inr (Or.inr (Or.inr (Or.inr (Or.inr (Or.inr (Or.inr (Or.inr (Or.inr (Or.inr (Or.inr (Or.inr (Or.inr (Or.inr (Or.inr (Or.inr (Or.inr (Or.inl (i32_of_toInt (h.trans (by decide)))))))))))))))))))))))))))))))))))))))))))))))))))))

/-- a Bool as Java's int -/
def bi (b : Bool) : Int32 := bif b then 1 else 0
theorem bi_01 (b : Bool) : bi b = 0 ∨ bi b = 1 := by cases b <;> simp [bi]
theorem bi_0 {b : Bool} : bi b = 0 ↔ b = false := by cases b <;> simp [bi]
theorem bi_1 {b : Bool} : bi b = 1 ↔ b = true := by cases b <;> simp [bi]
theorem bi_n0 {b : Bool} : ¬ bi b = 0 ↔ b = true := by cases b <;> simp [bi]
theorem bi_t : bi true = 1 := rfl
theorem bi_f : bi false = 0 := rfl
theorem nI_bv (a : Nat) : (nI a).toBitVec = BitVec.ofNat 32 a := rfl
theorem i32_bv {x y : Int32} (h : x.toBitVec = y.toBitVec) : x = y := Int32.toBitVec_inj.mp h
theorem nI_and (a b : Nat) : nI a &&& nI b = nI (a &&& b) := by
  apply i32_bv
  rw [Int32.toBitVec_and, nI_bv, nI_bv, nI_bv]
  apply BitVec.eq_of_toNat_eq
  simp [BitVec.toNat_and, Nat.and_mod_two_pow]
theorem nI_or (a b : Nat) : nI a ||| nI b = nI (a ||| b) := by
  apply i32_bv
  rw [Int32.toBitVec_or, nI_bv, nI_bv, nI_bv]
  apply BitVec.eq_of_toNat_eq
  simp [BitVec.toNat_or, Nat.or_mod_two_pow]
theorem nI_xor (a b : Nat) : nI a ^^^ nI b = nI (a ^^^ b) := by
  apply i32_bv
  rw [Int32.toBitVec_xor, nI_bv, nI_bv, nI_bv]
  apply BitVec.eq_of_toNat_eq
  simp [BitVec.toNat_xor, Nat.xor_mod_two_pow]
theorem nI_inj {a b : Nat} (ha : a < 2 ^ 31) (hb : b < 2 ^ 31) (h : nI a = nI b) : a = b := (nI_eq ha hb).mp h
/-- a without b -/
def df (a b : Nat) : Nat := a ^^^ (a &&& b)
theorem tb_df (a b p : Nat) : (df a b).testBit p = (a.testBit p && !b.testBit p) := by
  unfold df
  rw [Nat.testBit_xor, Nat.testBit_and]
  cases a.testBit p <;> cases b.testBit p <;> rfl
theorem nI_m1 : (-1 : Int32) = nI (2 ^ 32 - 1) := by decide
theorem nI_not (b : Nat) : nI b ^^^ (-1) = nI (b ^^^ (2 ^ 32 - 1)) := by rw [nI_m1, nI_xor]
theorem nI_df {a : Nat} (b : Nat) (ha : a < 2 ^ 32) : nI a &&& (nI b ^^^ (-1)) = nI (df a b) := by
  rw [nI_not, nI_and]
  congr 1
  apply Nat.eq_of_testBit_eq
  intro p
  rw [tb_df, Nat.testBit_and, Nat.testBit_xor, Nat.testBit_two_pow_sub_one]
  by_cases hp : p < 32
  · simp [hp]
  · have : a.testBit p = false := Nat.testBit_lt_two_pow (Nat.lt_of_lt_of_le ha (Nat.pow_le_pow_right (by omega) (by omega)))
    simp [this]
theorem df_le (a b : Nat) : df a b ≤ a := by
  have : df a b = a &&& df a b := by
    apply Nat.eq_of_testBit_eq
    intro p
    rw [Nat.testBit_and, tb_df]
    cases a.testBit p <;> simp
  rw [this]
  exact Nat.and_le_left
theorem and31 {j : Nat} (hj : j < 32) : nI j &&& 31 = nI j := by
  have h : (31 : Int32) = nI 31 := by decide
  rw [h, nI_and]
  congr 1
  have : (31 : Nat) = 2 ^ 5 - 1 := by decide
  rw [this, Nat.and_two_pow_sub_one_eq_mod]
  exact Nat.mod_eq_of_lt hj
theorem smod32 {j : Nat} (hj : j < 32) : ((nI j).toBitVec.smod 32).toNat = j := by
  have h : ∀ j, j < 32 → ((nI j).toBitVec.smod 32).toNat = j := by decide +kernel
  exact h j hj
theorem shr_nI {a j : Nat} (ha : a < 2 ^ 31) (hj : j < 32) : nI a >>> (nI j &&& 31) = nI (a / 2 ^ j) := by
  rw [and31 hj]
  exact pk_shrN ha _ j (smod32 hj)
theorem shl_nI {j : Nat} (a : Nat) (h : a * 2 ^ j < 2 ^ 32) (hj : j < 32) : nI a <<< (nI j &&& 31) = nI (a * 2 ^ j) := by
  rw [and31 hj]
  exact pk_shlN _ j (smod32 hj) h
theorem bit_nI {a j : Nat} (ha : a < 2 ^ 31) (hj : j < 32) : (nI a >>> (nI j &&& 31)) &&& 1 = bi (a.testBit j) := by
  have h1 : (1 : Int32) = nI 1 := by decide
  rw [shr_nI ha hj, h1, nI_and]
  have h2 : a / 2 ^ j &&& 1 = (a.testBit j).toNat := by
    rw [Nat.toNat_testBit, Nat.and_one_is_mod]
  rw [h2]
  cases a.testBit j <;> rfl
theorem one_shl {j : Nat} (hj : j < 31) : (1 : Int32) <<< (nI j &&& 31) = nI (2 ^ j) := by
  have h1 : (1 : Int32) = nI 1 := by decide
  have h2 : 2 ^ j < 2 ^ 31 := Nat.pow_lt_pow_right (by omega) hj
  rw [h1, shl_nI 1 (by rw [Nat.one_mul]; omega) (by omega), Nat.one_mul]
theorem nI_bi (b : Bool) : bi b = nI b.toNat := by cases b <;> rfl
/-- how many of the first twelve bits -/
def pc (a : Nat) : Nat := (List.range 12).countP (fun p => a.testBit p)
theorem pc_le (a : Nat) : pc a ≤ 12 := by
  have := List.countP_le_length (p := fun p => a.testBit p) (l := List.range 12)
  simpa [pc] using this
theorem lt31 {a : Nat} (h : a < 4096) : a < 2 ^ 31 := by omega
theorem pow12 {n : Nat} (h : n ≤ 12) : 2 ^ n ≤ 4096 := by
  have : 2 ^ n ≤ 2 ^ 12 := Nat.pow_le_pow_right (by omega) h
  simpa using this
theorem tb_ltn {a n p : Nat} (ha : a < 2 ^ n) (h : a.testBit p = true) : p < n := by
  rcases Nat.lt_or_ge p n with q | q
  · exact q
  · have : a.testBit p = false := Nat.testBit_lt_two_pow (Nat.lt_of_lt_of_le ha (Nat.pow_le_pow_right (by omega) q))
    rw [this] at h
    cases h
theorem tb_lt {a p : Nat} (ha : a < 4096) (h : a.testBit p = true) : p < 12 := tb_ltn (n := 12) (by simpa using ha) h
theorem by64 {P : Nat → Prop} (h : ∀ x, x < 64 → ∀ y, y < 64 → P (64 * x + y)) {a : Nat} (ha : a < 4096) : P a := by
  have := h (a / 64) (by omega) (a % 64) (by omega)
  rwa [Nat.div_add_mod] at this
theorem pc_step0 : ∀ x, x < 64 → ∀ y, y < 64 → ¬ 64 * x + y = 0 → pc (64 * x + y) = pc ((64 * x + y) &&& ((64 * x + y) - 1)) + 1 := by decide +kernel
theorem pc_step {a : Nat} (ha : a < 4096) (h0 : ¬ a = 0) : pc a = pc (a &&& (a - 1)) + 1 := by64 (P := fun a => ¬ a = 0 → pc a = pc (a &&& (a - 1)) + 1) pc_step0 ha h0
theorem and_pred_lt {a : Nat} (h : ¬ a = 0) : a &&& (a - 1) < a := Nat.lt_of_le_of_lt Nat.and_le_right (by omega)
theorem nI_le_iff {a b : Nat} (ha : a < 2 ^ 31) (hb : b < 2 ^ 31) : nI a ≤ nI b ↔ a ≤ b := nI_leI ha hb
theorem nI_lt_iff {a b : Nat} (ha : a < 2 ^ 31) (hb : b < 2 ^ 31) : nI a < nI b ↔ a < b := nI_ltI ha hb
theorem i32_le (x y : Int32) : x ≤ y ↔ x.toInt ≤ y.toInt := Int32.le_iff_toInt_le
theorem i32_lt (x y : Int32) : x < y ↔ x.toInt < y.toInt := Int32.lt_iff_toInt_lt

