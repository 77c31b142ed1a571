theorem wb_tb (n : Nat) : (lN n).toBitVec = BitVec.ofNat 64 n := rfl
theorem wb_inj {a b : Int64} (h : a.toBitVec = b.toBitVec) : a = b := Int64.toBitVec_inj.mp h
theorem wb_tn {n : Nat} (h : n < 2 ^ 64) : (lN n).toBitVec.toNat = n := by rw [wb_tb, BitVec.toNat_ofNat, Nat.mod_eq_of_lt h]
theorem wb_of (x : Int64) : ∃ n, n < 2 ^ 64 ∧ x = lN n := ⟨x.toBitVec.toNat, x.toBitVec.isLt, wb_inj (by rw [wb_tb]; simp)⟩
theorem wb_of32 (x : Int32) : ∃ n, n < 2 ^ 32 ∧ x = nI n := ⟨x.toBitVec.toNat, x.toBitVec.isLt, Int32.toBitVec_inj.mp (by show _ = BitVec.ofNat 32 _; simp)⟩
theorem wb_c : ∀ k, k < 64 → ((nI k).toInt64 &&& 63) = lN k := by decide +kernel
theorem wb_cu : ∀ k, k < 64 → ((nI k).toInt64.toUInt64 &&& Int64.toUInt64 63) = UInt64.ofNat k := by decide +kernel
theorem wb_sm : ∀ k, k < 64 → (BitVec.ofNat 64 k).smod 64 = BitVec.ofNat 64 k := by decide +kernel
theorem wb_pw {a b : Nat} (h : a ≤ b) : 2 ^ b = 2 ^ a * 2 ^ (b - a) := by rw [← Nat.pow_add]; congr 1; omega
theorem wb_lt2 {a b : Nat} (h : a < b) : 2 ^ a < 2 ^ b := Nat.pow_lt_pow_right (by decide) h
theorem wb_mod (n : Nat) : lN n = lN (n % 2 ^ 64) := wb_inj (by rw [wb_tb, wb_tb]; apply BitVec.eq_of_toNat_eq; rw [BitVec.toNat_ofNat, BitVec.toNat_ofNat, Nat.mod_mod])
theorem wb_shr {n k : Nat} (hn : n < 2 ^ 64) (hk : k < 64) : ((lN n).toUInt64 >>> ((nI k).toInt64.toUInt64 &&& Int64.toUInt64 63)).toInt64 = lN (n / 2 ^ k) := by
  rw [wb_cu k hk]
  apply wb_inj
  apply BitVec.eq_of_toNat_eq
  show ((lN n).toUInt64 >>> UInt64.ofNat k).toNat = (BitVec.ofNat 64 _).toNat
  have h1 : (UInt64.ofNat k).toNat = k := by
    show (BitVec.ofNat 64 k).toNat = k
    rw [BitVec.toNat_ofNat, Nat.mod_eq_of_lt (by omega)]
  have h2 : (lN n).toUInt64.toNat = n := wb_tn hn
  rw [UInt64.toNat_shiftRight, h1, h2, Nat.mod_eq_of_lt hk, Nat.shiftRight_eq_div_pow, BitVec.toNat_ofNat, Nat.mod_eq_of_lt (Nat.lt_of_le_of_lt (Nat.div_le_self _ _) hn)]
theorem wb_shl (n : Nat) {k : Nat} (hk : k < 64) : lN n <<< ((nI k).toInt64 &&& 63) = lN (n * 2 ^ k) := by
  rw [wb_c k hk]
  apply wb_inj
  rw [Int64.toBitVec_shiftLeft, wb_tb, wb_tb, wb_tb, wb_sm k hk]
  apply BitVec.eq_of_toNat_eq
  rw [BitVec.shiftLeft_eq', BitVec.toNat_shiftLeft, BitVec.toNat_ofNat, BitVec.toNat_ofNat, BitVec.toNat_ofNat, Nat.mod_eq_of_lt (show k < 2 ^ 64 by omega), Nat.shiftLeft_eq, Nat.mul_mod, Nat.mod_mod, ← Nat.mul_mod]
theorem wb_and {a b : Nat} (ha : a < 2 ^ 64) (hb : b < 2 ^ 64) : lN a &&& lN b = lN (a &&& b) := by
  apply wb_inj
  rw [Int64.toBitVec_and, wb_tb, wb_tb, wb_tb]
  apply BitVec.eq_of_toNat_eq
  rw [BitVec.toNat_and, BitVec.toNat_ofNat, BitVec.toNat_ofNat, BitVec.toNat_ofNat, Nat.mod_eq_of_lt ha, Nat.mod_eq_of_lt hb, Nat.mod_eq_of_lt (Nat.and_lt_two_pow _ hb)]
theorem wb_or {a b : Nat} (ha : a < 2 ^ 64) (hb : b < 2 ^ 64) : lN a ||| lN b = lN (a ||| b) := by
  apply wb_inj
  rw [Int64.toBitVec_or, wb_tb, wb_tb, wb_tb]
  apply BitVec.eq_of_toNat_eq
  rw [BitVec.toNat_or, BitVec.toNat_ofNat, BitVec.toNat_ofNat, BitVec.toNat_ofNat, Nat.mod_eq_of_lt ha, Nat.mod_eq_of_lt hb, Nat.mod_eq_of_lt (Nat.or_lt_two_pow ha hb)]
theorem wb_mask {n k : Nat} (hn : n < 2 ^ 64) (hk : k < 64) : lN n &&& lN (2 ^ k - 1) = lN (n % 2 ^ k) := by
  rw [wb_and hn (by have := wb_lt2 hk; omega), Nat.and_two_pow_sub_one_eq_mod]
theorem wb_a1 {n : Nat} (hn : n < 2 ^ 64) : lN n &&& 1 = lN (n % 2) := wb_mask (k := 1) hn (by decide)
theorem wb_bit {n k : Nat} (hn : n < 2 ^ 64) (hk : k < 64) : ((lN n).toUInt64 >>> ((nI k).toInt64.toUInt64 &&& Int64.toUInt64 63)).toInt64 &&& 1 = lN (n / 2 ^ k % 2) := by
  rw [wb_shr hn hk, wb_a1 (Nat.lt_of_le_of_lt (Nat.div_le_self _ _) hn)]


theorem and_sp (x y k : Nat) : x &&& y = (x % 2 ^ k &&& y % 2 ^ k) + 2 ^ k * ((x / 2 ^ k) &&& (y / 2 ^ k)) := by
  have h1 : (x &&& y) % 2 ^ k = x % 2 ^ k &&& y % 2 ^ k := Nat.and_mod_two_pow
  have h2 : (x &&& y) / 2 ^ k = (x / 2 ^ k) &&& (y / 2 ^ k) := by
    apply Nat.eq_of_testBit_eq
    intro i
    rw [Nat.testBit_div_two_pow, Nat.testBit_and, Nat.testBit_and, Nat.testBit_div_two_pow, Nat.testBit_div_two_pow]
  rw [← h1, ← h2]
  exact (Nat.mod_add_div _ _).symm
/-- digits to a base, each at most D; their sum -/
def DS (B D : Nat) : Nat → Nat → Nat → Prop
  | 0, y, s => y = 0 ∧ s = 0
  | k + 1, y, s => y % B ≤ D ∧ y % B ≤ s ∧ DS B D k (y / B) (s - y % B)
def pcb : Nat → Nat → Nat
  | 0, _ => 0
  | k + 1, x => x % 2 + pcb k (x / 2)
def M1 : Nat → Nat
  | 0 => 0
  | k + 1 => 4 * M1 k + 1
def M2 : Nat → Nat
  | 0 => 0
  | k + 1 => 16 * M2 k + 3
def M3 : Nat → Nat
  | 0 => 0
  | k + 1 => 256 * M3 k + 15
theorem DS_2 {B D k y s : Nat} (h : DS B D (2 * (k + 1)) y s) : y % B ≤ D ∧ y % B ≤ s ∧ y / B % B ≤ D ∧ y / B % B ≤ s - y % B ∧ DS B D (2 * k) (y / B / B) (s - y % B - y / B % B) := h
theorem and4_1 : ∀ r, r < 4 → r &&& 1 = r % 2 := by decide
theorem and16_3 : ∀ r, r < 16 → r &&& 3 = r % 4 := by decide
theorem and256_15 (r : Nat) : r &&& 15 = r % 16 := Nat.and_two_pow_sub_one_eq_mod (n := 4) (x := r)
theorem ds1 : ∀ k x, x < 4 ^ k → DS 4 2 k (x - ((x / 2) &&& M1 k)) (pcb (2 * k) x) ∧ (x / 2) &&& M1 k ≤ x := by
  intro k
  induction k with
  | zero => intro x hx; have : x = 0 := by omega
            subst this; exact ⟨⟨rfl, rfl⟩, by decide⟩
  | succ k ih =>
    intro x hx
    have hx4 : x / 4 < 4 ^ k := by rw [Nat.pow_succ] at hx; omega
    obtain ⟨i1, i2⟩ := ih (x / 4) hx4
    have e := and_sp (x / 2) (M1 (k + 1)) 2
    have m1 : M1 (k + 1) % 2 ^ 2 = 1 := by unfold M1; omega
    have m2 : M1 (k + 1) / 2 ^ 2 = M1 k := by show (4 * M1 k + 1) / 4 = M1 k; omega
    have d2 : x / 2 / 2 ^ 2 = x / 4 / 2 := by omega
    rw [m1, m2, d2, and4_1 _ (by omega)] at e
    have r1 : x / 2 % 2 ^ 2 % 2 = x % 4 / 2 := by omega
    rw [r1] at e
    rw [e]
    have hp : pcb (2 * (k + 1)) x = x % 2 + (x / 2 % 2 + pcb (2 * k) (x / 2 / 2)) := rfl
    have d4 : x / 2 / 2 = x / 4 := by omega
    rw [hp, d4]
    generalize (x / 4 / 2 &&& M1 k) = u at *
    have q1 : (x - (x % 4 / 2 + 2 ^ 2 * u)) % 4 = x % 4 - x % 4 / 2 := by omega
    have q2 : (x - (x % 4 / 2 + 2 ^ 2 * u)) / 4 = x / 4 - u := by omega
    refine ⟨⟨by omega, by omega, ?_⟩, by omega⟩
    rw [q1, q2]
    have : x % 2 + (x / 2 % 2 + pcb (2 * k) (x / 4)) - (x % 4 - x % 4 / 2) = pcb (2 * k) (x / 4) := by omega
    rw [this]
    exact i1
theorem ds2 : ∀ k y s, DS 4 2 (2 * k) y s → DS 16 4 k ((y &&& M2 k) + ((y / 4) &&& M2 k)) s := by
  intro k
  induction k with
  | zero => intro y s h; exact ⟨by rw [h.1]; rfl, h.2⟩
  | succ k ih =>
    intro y s h
    obtain ⟨h1, h2, h⟩ := DS_2 h
    obtain ⟨h3, h4, h5⟩ := h
    have dd : y / 4 / 4 = y / 16 := by omega
    rw [dd] at h5
    have i := ih _ _ h5
    have m1 : M2 (k + 1) % 2 ^ 4 = 3 := by unfold M2; omega
    have m2 : M2 (k + 1) / 2 ^ 4 = M2 k := by show (16 * M2 k + 3) / 16 = M2 k; omega
    have ea := and_sp y (M2 (k + 1)) 4
    have eb := and_sp (y / 4) (M2 (k + 1)) 4
    have d2 : y / 4 / 2 ^ 4 = y / 16 / 4 := by omega
    have d3 : y / 2 ^ 4 = y / 16 := by omega
    rw [m1, m2, d3, and16_3 _ (by omega)] at ea
    rw [m1, m2, d2, and16_3 _ (by omega)] at eb
    rw [ea, eb]
    generalize (y / 16 &&& M2 k) = u at *
    generalize (y / 16 / 4 &&& M2 k) = v at *
    have t1 : y % 2 ^ 4 % 4 = y % 4 := by omega
    have t2 : y / 4 % 2 ^ 4 % 4 = y / 4 % 4 := by omega
    rw [t1, t2]
    generalize y % 4 = a at *
    generalize y / 4 % 4 = b at *
    have q1 : (a + 2 ^ 4 * u + (b + 2 ^ 4 * v)) % 16 = a + b := by omega
    have q2 : (a + 2 ^ 4 * u + (b + 2 ^ 4 * v)) / 16 = u + v := by omega
    refine ⟨by omega, by omega, ?_⟩
    rw [q1, q2]
    have : s - (a + b) = s - a - b := by omega
    rw [this]
    exact i
theorem ds3 : ∀ k z s, DS 16 4 (2 * k) z s → DS 256 8 k ((z + z / 16) &&& M3 k) s := by
  intro k
  induction k with
  | zero => intro z s h; exact ⟨by rw [h.1]; rfl, h.2⟩
  | succ k ih =>
    intro z s h
    obtain ⟨h1, h2, h⟩ := DS_2 h
    obtain ⟨h3, h4, h5⟩ := h
    have dd : z / 16 / 16 = z / 256 := by omega
    rw [dd] at h5
    have i := ih _ _ h5
    have hlow : z / 256 % 16 ≤ 4 := by
      cases k with
      | zero => rw [h5.1]; omega
      | succ k => exact h5.1
    have m1 : M3 (k + 1) % 2 ^ 8 = 15 := by unfold M3; omega
    have m2 : M3 (k + 1) / 2 ^ 8 = M3 k := by show (256 * M3 k + 15) / 256 = M3 k; omega
    have ea := and_sp (z + z / 16) (M3 (k + 1)) 8
    have d2 : (z + z / 16) / 2 ^ 8 = z / 256 + z / 256 / 16 := by omega
    rw [m1, m2, d2, and256_15] at ea
    rw [ea]
    generalize ((z / 256 + z / 256 / 16) &&& M3 k) = u at *
    have q0 : (z + z / 16) % 2 ^ 8 % 16 = z % 16 + z / 16 % 16 := by omega
    rw [q0]
    have q1 : (z % 16 + z / 16 % 16 + 2 ^ 8 * u) % 256 = z % 16 + z / 16 % 16 := by omega
    have q2 : (z % 16 + z / 16 % 16 + 2 ^ 8 * u) / 256 = u := by omega
    refine ⟨by omega, by omega, ?_⟩
    rw [q1, q2]
    have : s - (z % 16 + z / 16 % 16) = s - z % 16 - z / 16 % 16 := by omega
    rw [this]
    exact i
theorem DS_x {B D k y s : Nat} (h : DS B D (k + 1) y s) : ∃ f y' s', f ≤ D ∧ y = f + B * y' ∧ s = f + s' ∧ DS B D k y' s' := ⟨y % B, y / B, s - y % B, h.1, (Nat.mod_add_div y B).symm, by have := h.2.1; omega, h.2.2⟩
theorem fo1 {f0 w0 w1 : Nat} (a0 : f0 ≤ 8) (e0 : w0 = f0 + 256 * w1) : w0 / 256 = w1 := by omega
theorem fo2 {f0 f1 f2 w0 w1 w2 w3 : Nat} (a0 : f0 ≤ 8) (a1 : f1 ≤ 8) (a2 : f2 ≤ 8) (e0 : w0 = f0 + 256 * w1) (e1 : w1 = f1 + 256 * w2) (e2 : w2 = f2 + 256 * w3) : (w0 + w1) / 65536 = w2 + w3 := by omega
theorem fo3a {f4 f5 f6 w4 w5 w6 w7 : Nat} (a0 : f4 ≤ 8) (a1 : f5 ≤ 8) (a2 : f6 ≤ 8) (e0 : w4 = f4 + 256 * w5) (e1 : w5 = f5 + 256 * w6) (e2 : w6 = f6 + 256 * w7) : w4 + w5 = (f4 + f5) + 256 * (f5 + f6) + 65536 * (w6 + w7) := by omega
theorem fo3 {f0 f1 f2 f3 f4 f5 f6 w0 w1 w2 w3 w4 w5 w6 w7 : Nat} (a0 : f0 ≤ 8) (a1 : f1 ≤ 8) (a2 : f2 ≤ 8) (a3 : f3 ≤ 8) (a4 : f4 ≤ 8) (a5 : f5 ≤ 8) (a6 : f6 ≤ 8) (e0 : w0 = f0 + 256 * w1) (e1 : w1 = f1 + 256 * w2) (e2 : w2 = f2 + 256 * w3) (e3 : w3 = f3 + 256 * w4) (e4 : w4 = f4 + 256 * w5) (e5 : w5 = f5 + 256 * w6) (e6 : w6 = f6 + 256 * w7) : (w0 + w1 + (w2 + w3)) / 4294967296 = w4 + w5 + (w6 + w7) := by
  have h1 := fo3a a0 a1 a2 e0 e1 e2
  have h2 := fo3a a2 a3 a4 e2 e3 e4
  have h3 := fo3a a4 a5 a6 e4 e5 e6
  clear e0 e1 e2 e3 e4 e5 e6
  generalize w4 + w5 = A at *
  generalize w6 + w7 = C at *
  generalize w2 + w3 = E at *
  generalize w0 + w1 = F at *
  omega
theorem fg8 {f w w' : Nat} (a : f ≤ 8) (e : w = f + 256 * w') : w % 128 = f := by omega
theorem fs8 {f0 f1 f2 f3 f4 f5 f6 f7 w0 w1 w2 w3 w4 w5 w6 w7 : Nat} (a0 : f0 ≤ 8) (a1 : f1 ≤ 8) (a2 : f2 ≤ 8) (a3 : f3 ≤ 8) (a4 : f4 ≤ 8) (a5 : f5 ≤ 8) (a6 : f6 ≤ 8) (a7 : f7 ≤ 8) (g0 : w0 % 128 = f0) (g1 : w1 % 128 = f1) (g2 : w2 % 128 = f2) (g3 : w3 % 128 = f3) (g4 : w4 % 128 = f4) (g5 : w5 % 128 = f5) (g6 : w6 % 128 = f6) (g7 : w7 % 128 = f7) : (w0 + w1 + (w2 + w3) + (w4 + w5 + (w6 + w7))) % 128 = f0 + f1 + f2 + f3 + f4 + f5 + f6 + f7 := by
  have e : (w0 + w1 + (w2 + w3) + (w4 + w5 + (w6 + w7))) % 128 = (w0 % 128 + w1 % 128 + (w2 % 128 + w3 % 128) + (w4 % 128 + w5 % 128 + (w6 % 128 + w7 % 128))) % 128 := by simp only [Nat.add_mod, Nat.mod_mod]
  rw [e, g0, g1, g2, g3, g4, g5, g6, g7]
  omega
theorem y2L {p q : Nat} (a1 : p ≤ 3689348814741910323) (a2 : q ≤ 3689348814741910323) : p + q + (p + q) / 16 < 2 ^ 64 ∧ p + q < 2 ^ 64 := by omega
theorem y4L {z : Nat} (a : z ≤ 1085102592571150095) : z + z / 256 < 2 ^ 64 := by omega
theorem y5L {z w : Nat} (a : z ≤ 1085102592571150095) (h : z + z / 256 = w) : w + w / 65536 < 2 ^ 64 := by omega
theorem ds4 {w0 s : Nat} (h : DS 256 8 8 w0 s) : (w0 + w0 / 256 + (w0 + w0 / 256) / 65536 + (w0 + w0 / 256 + (w0 + w0 / 256) / 65536) / 4294967296) % 128 = s := by
  obtain ⟨f0, w1, s0, a0, e0, t0, h⟩ := DS_x h
  obtain ⟨f1, w2, s1, a1, e1, t1, h⟩ := DS_x h
  obtain ⟨f2, w3, s2, a2, e2, t2, h⟩ := DS_x h
  obtain ⟨f3, w4, s3, a3, e3, t3, h⟩ := DS_x h
  obtain ⟨f4, w5, s4, a4, e4, t4, h⟩ := DS_x h
  obtain ⟨f5, w6, s5, a5, e5, t5, h⟩ := DS_x h
  obtain ⟨f6, w7, s6, a6, e6, t6, h⟩ := DS_x h
  obtain ⟨f7, w8, s7, a7, e7, t7, h⟩ := DS_x h
  obtain ⟨k1, k2⟩ := h
  rw [fo1 a0 e0, fo2 a0 a1 a2 e0 e1 e2, fo3 a0 a1 a2 a3 a4 a5 a6 e0 e1 e2 e3 e4 e5 e6]
  have g0 : w0 % 128 = f0 := fg8 a0 e0
  have g1 : w1 % 128 = f1 := fg8 a1 e1
  have g2 : w2 % 128 = f2 := fg8 a2 e2
  have g3 : w3 % 128 = f3 := fg8 a3 e3
  have g4 : w4 % 128 = f4 := fg8 a4 e4
  have g5 : w5 % 128 = f5 := fg8 a5 e5
  have g6 : w6 % 128 = f6 := fg8 a6 e6
  have g7 : w7 % 128 = f7 := fg8 a7 e7
  have hs : s = f0 + f1 + f2 + f3 + f4 + f5 + f6 + f7 := by rw [t0, t1, t2, t3, t4, t5, t6, t7, k2]; simp only [Nat.add_assoc, Nat.add_zero]
  rw [hs]
  exact fs8 a0 a1 a2 a3 a4 a5 a6 a7 g0 g1 g2 g3 g4 g5 g6 g7
theorem pcb_cn : ∀ k x, pcb k x = cn k (fun i => x.testBit i) := by
  intro k
  induction k with
  | zero => intro x; rfl
  | succ k ih =>
    intro x
    have hsh : ∀ N (F : Nat → Bool), cn (N + 1) F = (F 0).toNat + cn N (fun i => F (i + 1)) := by
      intro N
      induction N with
      | zero => intro F; rw [cn_s, cn_0, cn_0]; omega
      | succ N ihN => intro F; rw [cn_s, ihN F, cn_s]; omega
    rw [hsh]
    show x % 2 + pcb k (x / 2) = _
    rw [ih]
    have e1 : (x.testBit 0).toNat = x % 2 := by rw [Nat.toNat_testBit, Nat.pow_zero, Nat.div_one]
    rw [e1]
    congr 1
    exact cn_congr (fun i _ => by rw [Nat.testBit_succ])

def lbE (x : Nat) : Nat := (let z1 := x - (x / 2 &&& 6148914691236517205); let z2 := (z1 &&& 3689348814741910323) + (z1 / 4 &&& 3689348814741910323); let z3 := (z2 + z2 / 16) &&& 1085102592571150095; let z4 := z3 + z3 / 256; let z5 := z4 + z4 / 65536; z5 + z5 / 4294967296)
theorem lbE_s {x : Nat} (hx : x < 2 ^ 64) : lbE x % 128 = cn 64 (fun i => x.testBit i) := by
  have h4 : x < 4 ^ 32 := by
    have : (4 : Nat) ^ 32 = 2 ^ 64 := by decide
    rw [this]; exact hx
  have d1 := (ds1 32 x h4).1
  have d2 := ds2 16 _ _ d1
  have d3 := ds3 8 _ _ d2
  have e := ds4 d3
  rw [show M1 32 = 6148914691236517205 by decide +kernel, show M2 16 = 3689348814741910323 by decide +kernel, show M3 8 = 1085102592571150095 by decide +kernel, pcb_cn] at e
  exact e
theorem lb_le {x : Nat} (hx : x < 2 ^ 64) : (x / 2) &&& 6148914691236517205 ≤ x := by
  have h4 : x < 4 ^ 32 := by
    have : (4 : Nat) ^ 32 = 2 ^ 64 := by decide
    rw [this]; exact hx
  have := (ds1 32 x h4).2
  rw [show M1 32 = 6148914691236517205 by decide +kernel] at this
  exact this
theorem lt_div {a k : Nat} (h : a < 2 ^ 64) : a / k < 2 ^ 64 := Nat.lt_of_le_of_lt (Nat.div_le_self _ _) h
theorem lt_and {a b : Nat} (h : b < 2 ^ 64) : a &&& b < 2 ^ 64 := Nat.lt_of_le_of_lt Nat.and_le_right h
theorem lt_and1 {a : Nat} : a &&& 3689348814741910323 ≤ 3689348814741910323 := Nat.and_le_right
theorem lt_and3 {a : Nat} : a &&& 1085102592571150095 ≤ 1085102592571150095 := Nat.and_le_right
section X83
variable {l : Launch} {d : Nat} {K : AK} {I : AI} {J : AJ} {R : AR}
theorem cJ_lbc {x : Nat} (hx : x < 2 ^ 64) (hk : K (.int (nI (cn 64 (fun i => x.testBit i)))) I J R) : G l d mJ13_bitCount_95d88 K 0 [.long (lN x), UU] [] I J R := by
  have e1 := lbE_s hx
  have l1 := lb_le hx
  have c1 : (6148914691236517205 : Int64) = lN 6148914691236517205 := by decide +kernel
  have c2 : (3689348814741910323 : Int64) = lN 3689348814741910323 := by decide +kernel
  have c3 : (1085102592571150095 : Int64) = lN 1085102592571150095 := by decide +kernel
  have b1 : (6148914691236517205 : Nat) < 2 ^ 64 := by decide
  have b2 : (3689348814741910323 : Nat) < 2 ^ 64 := by decide
  have b3 : (1085102592571150095 : Nat) < 2 ^ 64 := by decide
  unfold lbE at e1
  dsimp only at e1
  have y1 : x - (x / 2 &&& 6148914691236517205) < 2 ^ 64 := Nat.lt_of_le_of_lt (Nat.sub_le _ _) hx
  generalize hy1 : x - (x / 2 &&& 6148914691236517205) = z1 at e1 y1
  have a1 := lt_and1 (a := z1)
  have a2 := lt_and1 (a := z1 / 4)
  have y2 : (z1 &&& 3689348814741910323) + (z1 / 4 &&& 3689348814741910323) + ((z1 &&& 3689348814741910323) + (z1 / 4 &&& 3689348814741910323)) / 16 < 2 ^ 64 ∧ (z1 &&& 3689348814741910323) + (z1 / 4 &&& 3689348814741910323) < 2 ^ 64 := y2L a1 a2
  generalize hy2 : (z1 &&& 3689348814741910323) + (z1 / 4 &&& 3689348814741910323) = z2 at e1 y2
  have a3 := lt_and3 (a := z2 + z2 / 16)
  generalize hy3 : (z2 + z2 / 16) &&& 1085102592571150095 = z3 at e1 a3
  have y3 : z3 < 2 ^ 64 := Nat.lt_of_le_of_lt a3 b3
  have y4 : z3 + z3 / 256 < 2 ^ 64 := y4L a3
  generalize hy4 : z3 + z3 / 256 = z4 at e1 y4
  have y5 : z4 + z4 / 65536 < 2 ^ 64 := y5L a3 hy4
  generalize hy5 : z4 + z4 / 65536 = z5 at e1 y5
  refine G_lload_0 (nx := 1) ⟨dJ13_bitCount_95d88_0, rfl⟩ ?_
  refine G_lload_0 (nx := 2) ⟨dJ13_bitCount_95d88_1, rfl⟩ ?_
  refine G_iconst (nx := 3) ⟨dJ13_bitCount_95d88_2, rfl⟩ ci_1 ?_
  refine G_lushr (nx := 4) ⟨dJ13_bitCount_95d88_3, rfl⟩ ?_
  rw [show (1 : Int32) = nI 1 by decide, wb_shr hx (by decide), show (2 : Nat) ^ 1 = 2 from rfl]
  refine G_ldc2 (nx := 7) ⟨dJ13_bitCount_95d88_4, rfl⟩ nJ13_314 ?_
  refine G_land (nx := 8) ⟨dJ13_bitCount_95d88_7, rfl⟩ ?_
  rw [c1, wb_and (lt_div hx) b1]
  refine G_lsub (nx := 9) ⟨dJ13_bitCount_95d88_8, rfl⟩ ?_
  rw [lN_sub l1, hy1]
  refine G_lstore_0 (nx := 10) ⟨dJ13_bitCount_95d88_9, rfl⟩ rfl ?_
  refine G_lload_0 (nx := 11) ⟨dJ13_bitCount_95d88_10, rfl⟩ ?_
  refine G_ldc2 (nx := 14) ⟨dJ13_bitCount_95d88_11, rfl⟩ nJ13_316 ?_
  refine G_land (nx := 15) ⟨dJ13_bitCount_95d88_14, rfl⟩ ?_
  rw [c2, wb_and y1 b2]
  refine G_lload_0 (nx := 16) ⟨dJ13_bitCount_95d88_15, rfl⟩ ?_
  refine G_iconst (nx := 17) ⟨dJ13_bitCount_95d88_16, rfl⟩ ci_2 ?_
  refine G_lushr (nx := 18) ⟨dJ13_bitCount_95d88_17, rfl⟩ ?_
  rw [show (2 : Int32) = nI 2 by decide, wb_shr y1 (by decide), show (2 : Nat) ^ 2 = 4 from rfl]
  refine G_ldc2 (nx := 21) ⟨dJ13_bitCount_95d88_18, rfl⟩ nJ13_316 ?_
  refine G_land (nx := 22) ⟨dJ13_bitCount_95d88_21, rfl⟩ ?_
  rw [c2, wb_and (lt_div y1) b2]
  refine G_ladd (nx := 23) ⟨dJ13_bitCount_95d88_22, rfl⟩ ?_
  rw [lN_add, hy2]
  refine G_lstore_0 (nx := 24) ⟨dJ13_bitCount_95d88_23, rfl⟩ rfl ?_
  refine G_lload_0 (nx := 25) ⟨dJ13_bitCount_95d88_24, rfl⟩ ?_
  refine G_lload_0 (nx := 26) ⟨dJ13_bitCount_95d88_25, rfl⟩ ?_
  refine G_iconst (nx := 27) ⟨dJ13_bitCount_95d88_26, rfl⟩ ci_4 ?_
  refine G_lushr (nx := 28) ⟨dJ13_bitCount_95d88_27, rfl⟩ ?_
  rw [show (4 : Int32) = nI 4 by decide, wb_shr y2.2 (by decide), show (2 : Nat) ^ 4 = 16 from rfl]
  refine G_ladd (nx := 29) ⟨dJ13_bitCount_95d88_28, rfl⟩ ?_
  rw [lN_add]
  refine G_ldc2 (nx := 32) ⟨dJ13_bitCount_95d88_29, rfl⟩ nJ13_318 ?_
  refine G_land (nx := 33) ⟨dJ13_bitCount_95d88_32, rfl⟩ ?_
  rw [c3, wb_and y2.1 b3, hy3]
  refine G_lstore_0 (nx := 34) ⟨dJ13_bitCount_95d88_33, rfl⟩ rfl ?_
  refine G_lload_0 (nx := 35) ⟨dJ13_bitCount_95d88_34, rfl⟩ ?_
  refine G_lload_0 (nx := 36) ⟨dJ13_bitCount_95d88_35, rfl⟩ ?_
  refine G_bipush (nx := 38) ⟨dJ13_bitCount_95d88_36, rfl⟩ cb_8 ?_
  refine G_lushr (nx := 39) ⟨dJ13_bitCount_95d88_38, rfl⟩ ?_
  rw [show (8 : Int32) = nI 8 by decide, wb_shr y3 (by decide), show (2 : Nat) ^ 8 = 256 from rfl]
  refine G_ladd (nx := 40) ⟨dJ13_bitCount_95d88_39, rfl⟩ ?_
  rw [lN_add, hy4]
  refine G_lstore_0 (nx := 41) ⟨dJ13_bitCount_95d88_40, rfl⟩ rfl ?_
  refine G_lload_0 (nx := 42) ⟨dJ13_bitCount_95d88_41, rfl⟩ ?_
  refine G_lload_0 (nx := 43) ⟨dJ13_bitCount_95d88_42, rfl⟩ ?_
  refine G_bipush (nx := 45) ⟨dJ13_bitCount_95d88_43, rfl⟩ cb_16 ?_
  refine G_lushr (nx := 46) ⟨dJ13_bitCount_95d88_45, rfl⟩ ?_
  rw [show (16 : Int32) = nI 16 by decide, wb_shr y4 (by decide), show (2 : Nat) ^ 16 = 65536 from rfl]
  refine G_ladd (nx := 47) ⟨dJ13_bitCount_95d88_46, rfl⟩ ?_
  rw [lN_add, hy5]
  refine G_lstore_0 (nx := 48) ⟨dJ13_bitCount_95d88_47, rfl⟩ rfl ?_
  refine G_lload_0 (nx := 49) ⟨dJ13_bitCount_95d88_48, rfl⟩ ?_
  refine G_lload_0 (nx := 50) ⟨dJ13_bitCount_95d88_49, rfl⟩ ?_
  refine G_bipush (nx := 52) ⟨dJ13_bitCount_95d88_50, rfl⟩ cb_32 ?_
  refine G_lushr (nx := 53) ⟨dJ13_bitCount_95d88_52, rfl⟩ ?_
  rw [show (32 : Int32) = nI 32 by decide, wb_shr y5 (by decide), show (2 : Nat) ^ 32 = 4294967296 from rfl]
  refine G_ladd (nx := 54) ⟨dJ13_bitCount_95d88_53, rfl⟩ ?_
  rw [lN_add]
  refine G_lstore_0 (nx := 55) ⟨dJ13_bitCount_95d88_54, rfl⟩ rfl ?_
  refine G_lload_0 (nx := 56) ⟨dJ13_bitCount_95d88_55, rfl⟩ ?_
  refine G_l2i (nx := 57) ⟨dJ13_bitCount_95d88_56, rfl⟩ ?_
  rw [lN_i]
  refine G_bipush (nx := 59) ⟨dJ13_bitCount_95d88_57, rfl⟩ cb_127 ?_
  refine G_iand (nx := 60) ⟨dJ13_bitCount_95d88_59, rfl⟩ ?_
  rw [show (127 : Int32) = nI 127 by decide, nI_and, show (127 : Nat) = 2 ^ 7 - 1 from rfl, Nat.and_two_pow_sub_one_eq_mod, show (2 : Nat) ^ 7 = 128 from rfl, e1]
  refine G_iret ⟨dJ13_bitCount_95d88_60, rfl⟩ rfl ?_
  exact hk

end X83
