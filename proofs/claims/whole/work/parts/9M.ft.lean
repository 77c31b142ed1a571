
def TSE (s s' : TS) : Prop := s.p = s'.p ∧ s.at0 = s'.at0 ∧ s.dp = s'.dp ∧ s.ls = s'.ls ∧ s.m = s'.m ∧ ∀ j, j < s.m → s.ks j = s'.ks j ∧ s.ws j = s'.ws j ∧ s.is j = s'.is j
def TW (s : TS) : Prop := TP s.is s.m ∧ ∀ j, j < s.m → inR (s.ks j) 0 5 = true ∧ inR (s.ws j) 1 9 = true
theorem kd_05 {tp : Nat → Int32} {p q : Nat} (h : ¬ kdI tp p q = -1) : inR (kdI tp p q) 0 5 = true := by
  revert h
  unfold kdI
  repeat' split
  all_goals first | (intro _; decide) | (intro h; exact absurd rfl h)
theorem dig_19 {x : Int32} (h : inR x 48 57 = true) (h0 : ¬ x = 48) : inR (x - 48) 1 9 = true := by
  rw [inR_iff, show (48 : Int32).toInt = 48 by decide, show (57 : Int32).toInt = 57 by decide] at h
  have hne : ¬ x.toInt = 48 := fun e => h0 (Int32.toInt_inj.mp e)
  have e : x = nI x.toInt.toNat := by
    apply Int32.toInt_inj.mp
    rw [nI_toInt (by omega)]
    omega
  rw [e, show (48 : Int32) = nI 48 by decide, nI_sub (by omega), inR_iff, nI_toInt (by omega), show (1 : Int32).toInt = 1 by decide, show (9 : Int32).toInt = 9 by decide]
  omega
def SR (t : Nat) (s u u' : TS) : Prop := TSE u u' ∧ TV t u ∧ (TW s → TW u) ∧ s.p < u.p
theorem stpE {tp : Nat → Int32} {t : Nat} {s s' : TS} (hV : TV t s) (h : TSE s s') : (∃ r, stp tp t s = .inl r ∧ stp tp t s' = .inl r) ∨ ∃ u u', stp tp t s = .inr u ∧ stp tp t s' = .inr u' ∧ SR t s u u' := by
  obtain ⟨e1, e2, e3, e4, e5, e6⟩ := h
  obtain ⟨v1, v2, v3, v4, v5, v6⟩ := hV
  have hge := rn_ge tp t 32 32 (t - s.p) s.p
  have hle := rn_le tp t 32 32 (t - s.p) s.p v1
  by_cases c1 : rn tp t 32 32 (t - s.p) s.p = t
  · exact Or.inl ⟨_, by unfold stp; rw [if_pos c1], by unfold stp; rw [← e1, ← e2, ← e3, ← e4, ← e5, if_pos c1]⟩
  have hlt : rn tp t 32 32 (t - s.p) s.p < t := by omega
  by_cases c2 : inR (tp (rn tp t 32 32 (t - s.p) s.p)) 97 122 = true
  · by_cases c3 : s.ls < 2 ∨ kdI tp (rn tp t 32 32 (t - s.p) s.p) (rn tp t 97 122 (t - rn tp t 32 32 (t - s.p) s.p) (rn tp t 32 32 (t - s.p) s.p)) = -1
    · exact Or.inl ⟨_, by unfold stp; rw [if_neg c1, if_pos c2, if_pos c3], by unfold stp; rw [← e1, ← e2, ← e3, ← e4, ← e5, if_neg c1, if_pos c2, if_pos c3]⟩
    have hdp := v5 (by omega)
    obtain ⟨x, ex, hx, hx2⟩ := CH_ex v4 hdp
    · refine Or.inr ⟨_, _, by unfold stp; rw [if_neg c1, if_pos c2, if_neg c3], by unfold stp; rw [← e1, ← e2, ← e3, ← e4, ← e5, if_neg c1, if_pos c2, if_neg c3], ?_, ?_, ?_, ?_⟩
      · refine ⟨rfl, rfl, rfl, rfl, rfl, fun j hj => ⟨?_, (e6 j hj).2.1, (e6 j hj).2.2⟩⟩
        show upd s.ks _ _ j = upd s'.ks _ _ j
        unfold upd
        split
        · rfl
        · exact (e6 j hj).1
      · exact ⟨rn_le _ _ _ _ _ _ hle, v2, v3, v4, fun _ => hdp, by show 1 ≤ 2; decide⟩
      · refine fun hW => ⟨hW.1, fun j hj => ⟨?_, (hW.2 j hj).2⟩⟩
        show inR (upd s.ks _ _ j) 0 5 = true
        unfold upd
        split
        · exact kd_05 (fun h => c3 (Or.inr h))
        · exact (hW.2 j hj).1
      · exact Nat.lt_of_le_of_lt hge (rn_gt hlt c2)
  by_cases c4 : inR (tp (rn tp t 32 32 (t - s.p) s.p)) 48 57 = true
  · by_cases c5 : s.ls < 1 ∨ 1 < rn tp t 48 57 (t - rn tp t 32 32 (t - s.p) s.p) (rn tp t 32 32 (t - s.p) s.p) - rn tp t 32 32 (t - s.p) s.p ∨ tp (rn tp t 32 32 (t - s.p) s.p) = 48
    · exact Or.inl ⟨_, by unfold stp; rw [if_neg c1, if_neg c2, if_pos c4, if_pos c5], by unfold stp; rw [← e1, ← e2, ← e3, ← e4, ← e5, if_neg c1, if_neg c2, if_pos c4, if_pos c5]⟩
    have hdp := v5 (by omega)
    · refine Or.inr ⟨_, _, by unfold stp; rw [if_neg c1, if_neg c2, if_pos c4, if_neg c5], by unfold stp; rw [← e1, ← e2, ← e3, ← e4, ← e5, if_neg c1, if_neg c2, if_pos c4, if_neg c5], ?_, ?_, ?_, ?_⟩
      · refine ⟨rfl, rfl, rfl, rfl, rfl, fun j hj => ⟨(e6 j hj).1, ?_, (e6 j hj).2.2⟩⟩
        show upd s.ws _ _ j = upd s'.ws _ _ j
        unfold upd
        split
        · rfl
        · exact (e6 j hj).2.1
      · exact ⟨rn_le _ _ _ _ _ _ hle, v2, v3, v4, fun h => absurd h (by show ¬ 1 ≤ 0; decide), by show 0 ≤ 2; decide⟩
      · refine fun hW => ⟨hW.1, fun j hj => ⟨(hW.2 j hj).1, ?_⟩⟩
        show inR (upd s.ws _ _ j) 1 9 = true
        unfold upd
        split
        · exact dig_19 c4 (fun h => c5 (Or.inr (Or.inr h)))
        · exact (hW.2 j hj).2
      · exact Nat.lt_of_le_of_lt hge (rn_gt hlt c4)
  by_cases c6 : tp (rn tp t 32 32 (t - s.p) s.p) = 40
  · by_cases c7 : (s.dp = 0 ∧ 0 < s.m) ∨ s.dp = 20 ∨ s.m = 60
    · exact Or.inl ⟨_, by unfold stp; rw [if_neg c1, if_neg c2, if_neg c4, if_pos c6, if_pos c7], by unfold stp; rw [← e1, ← e2, ← e3, ← e4, ← e5, if_neg c1, if_neg c2, if_neg c4, if_pos c6, if_pos c7]⟩
    · refine Or.inr ⟨_, _, by unfold stp; rw [if_neg c1, if_neg c2, if_neg c4, if_pos c6, if_neg c7], by unfold stp; rw [← e1, ← e2, ← e3, ← e4, ← e5, if_neg c1, if_neg c2, if_neg c4, if_pos c6, if_neg c7], ?_, ?_, ?_, ?_⟩
      · refine ⟨rfl, rfl, rfl, rfl, rfl, fun j hj => ⟨?_, ?_, ?_⟩⟩
        · show upd s.ks s.m _ j = upd s'.ks s.m _ j
          unfold upd
          split
          · rfl
          · exact (e6 j (by have hj2 : j < s.m + 1 := hj; omega)).1
        · show upd s.ws s.m _ j = upd s'.ws s.m _ j
          unfold upd
          split
          · rfl
          · exact (e6 j (by have hj2 : j < s.m + 1 := hj; omega)).2.1
        · show upd s.is s.m _ j = upd s'.is s.m _ j
          unfold upd
          split
          · rfl
          · exact (e6 j (by have hj2 : j < s.m + 1 := hj; omega)).2.2
      · refine ⟨by show rn tp t 32 32 (t - s.p) s.p + 1 ≤ t; omega, by show s.m + 1 ≤ 60; omega, by show s.dp + 1 ≤ 20; omega, ⟨s.m, rfl, Nat.lt_succ_self _, ?_⟩, fun _ => Nat.succ_le_succ (Nat.zero_le _), Nat.le_refl _⟩
        have : upd s.is s.m s.at0 s.m = s.at0 := by simp [upd]
        show CH (upd s.is s.m s.at0) (s.m + 1) s.dp (upd s.is s.m s.at0 s.m)
        rw [this]
        exact CH_up _ _ v4
      · refine fun hW => ⟨⟨fun _ => ?_, fun i hi hi2 => ?_⟩, fun j hj => ⟨?_, ?_⟩⟩
        · show upd s.is s.m s.at0 0 = -1
          unfold upd
          split
          · have h0 : s.dp = 0 := by
              rcases Nat.eq_zero_or_pos s.dp with h | h
              · exact h
              · obtain ⟨x, -, hx, -⟩ := CH_ex v4 h
                omega
            rw [h0] at v4
            exact v4
          · exact hW.1.1 (by omega)
        · show ∃ a, upd s.is s.m s.at0 i = nI a ∧ a < i
          have hi3 : i < s.m + 1 := hi2
          unfold upd
          split
          · rename_i hq
            have h0 : 1 ≤ s.dp := by
              rcases Nat.eq_zero_or_pos s.dp with h | h
              · exact absurd (Or.inl ⟨h, by omega⟩) c7
              · exact h
            obtain ⟨x, ex, hx, -⟩ := CH_ex v4 h0
            exact ⟨x, ex, by omega⟩
          · exact hW.1.2 i hi (by omega)
        · show inR (upd s.ks s.m 0 j) 0 5 = true
          have hj3 : j < s.m + 1 := hj
          unfold upd
          split
          · decide
          · exact (hW.2 j (by omega)).1
        · show inR (upd s.ws s.m 1 j) 1 9 = true
          have hj3 : j < s.m + 1 := hj
          unfold upd
          split
          · decide
          · exact (hW.2 j (by omega)).2
      · exact Nat.lt_succ_of_le hge
  by_cases c8 : tp (rn tp t 32 32 (t - s.p) s.p) = 41
  · by_cases c9 : s.dp = 0
    · exact Or.inl ⟨_, by unfold stp; rw [if_neg c1, if_neg c2, if_neg c4, if_neg c6, if_pos c8, if_pos c9], by unfold stp; rw [← e1, ← e2, ← e3, ← e4, ← e5, if_neg c1, if_neg c2, if_neg c4, if_neg c6, if_pos c8, if_pos c9]⟩
    obtain ⟨x, ex, hx, hx2⟩ := CH_ex v4 (by omega)
    have ea : s.is s.at0.toNatClampNeg = s'.is s.at0.toNatClampNeg := by
      rw [ex, cl_nI (by omega)]
      exact (e6 x hx).2.2
    · refine Or.inr ⟨_, _, by unfold stp; rw [if_neg c1, if_neg c2, if_neg c4, if_neg c6, if_pos c8, if_neg c9], by unfold stp; rw [← e1, ← e2, ← e3, ← e4, ← e5, if_neg c1, if_neg c2, if_neg c4, if_neg c6, if_pos c8, if_neg c9], ?_, ?_, ?_, ?_⟩
      · exact ⟨rfl, ea, rfl, rfl, rfl, e6⟩
      · refine ⟨by show rn tp t 32 32 (t - s.p) s.p + 1 ≤ t; omega, v2, by show s.dp - 1 ≤ 20; omega, ?_, fun h => absurd h (by show ¬ 1 ≤ 0; decide), by show 0 ≤ 2; decide⟩
        show CH s.is s.m (s.dp - 1) (s.is s.at0.toNatClampNeg)
        rw [ex, cl_nI (by omega)]
        exact hx2
      · exact fun hW => hW
      · exact Nat.lt_succ_of_le hge
  exact Or.inl ⟨_, by unfold stp; rw [if_neg c1, if_neg c2, if_neg c4, if_neg c6, if_neg c8], by unfold stp; rw [← e1, ← e2, ← e3, ← e4, ← e5, if_neg c1, if_neg c2, if_neg c4, if_neg c6, if_neg c8]⟩

theorem ftE {tp : Nat → Int32} {t : Nat} : ∀ (f : Nat) (s s' : TS), TV t s → TSE s s' → (ft tp t f s).1 = (ft tp t f s').1 ∧ TSE (ft tp t f s).2 (ft tp t f s').2 ∧ (TW s → TW (ft tp t f s).2)
  | 0, s, s', _, h => ⟨rfl, h, fun q => q⟩
  | f + 1, s, s', hV, h => by
    rcases stpE (tp := tp) hV h with ⟨r, h1, h2⟩ | ⟨u, u', h1, h2, h3, h4, h5, -⟩
    · rw [ft_inl h1, ft_inl h2]
      exact ⟨rfl, h, fun q => q⟩
    · rw [ft_inr h1, ft_inr h2]
      have := ftE (tp := tp) f u u' h4 h3
      exact ⟨this.1, this.2.1, fun q => this.2.2 (h5 q)⟩

