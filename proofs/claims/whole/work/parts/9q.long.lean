/-! longs as sets of places -/
section LONG
variable {d : Nat} {I : xm_I} {J : xm_J} {R : xm_R}
theorem lN_bv (a : Nat) : (lN a).toBitVec = BitVec.ofNat 64 a := rfl
theorem lN_and (a b : Nat) : lN a &&& lN b = lN (a &&& b) := by
  apply Int64.toBitVec_inj.mp
  rw [Int64.toBitVec_and, lN_bv, lN_bv, lN_bv, BitVec.ofNat_and]
theorem lN_or (a b : Nat) : lN a ||| lN b = lN (a ||| b) := by
  apply Int64.toBitVec_inj.mp
  rw [Int64.toBitVec_or, lN_bv, lN_bv, lN_bv, BitVec.ofNat_or]
theorem lS_sub {a b : Nat} (h : b ≤ a) : lN a - lN b = lN (a - b) := by
  have : lN (a - b) + lN b = lN a := by rw [lM_add]; congr 1; omega
  rw [← this]
  exact Int64.add_sub_cancel _ _
def lus (u : Int64) (z : Int32) : Int64 := (u.toUInt64 >>> (z.toInt64.toUInt64 &&& Int64.toUInt64 63)).toInt64
theorem lus_k {a : Nat} (ha : a < 2 ^ 63) {z : Int32} {c : UInt64} {k : Nat} (hc : z.toInt64.toUInt64 &&& Int64.toUInt64 63 = c) (hk : c.toNat % 64 = k) : lus (lN a) z = lN (a / 2 ^ k) := by
  apply Int64.toBitVec_inj.mp
  apply BitVec.eq_of_toNat_eq
  unfold lus
  rw [hc]
  show ((lN a).toUInt64 >>> c).toNat = (BitVec.ofNat 64 (a / 2 ^ k)).toNat
  rw [UInt64.toNat_shiftRight, hk, Nat.shiftRight_eq_div_pow, BitVec.toNat_ofNat]
  have e : (lN a).toUInt64.toNat = a := by
    show (BitVec.ofNat 64 a).toNat = a
    rw [BitVec.toNat_ofNat]; omega
  have := Nat.div_le_self a (2 ^ k)
  rw [e, Nat.mod_eq_of_lt (by omega)]
theorem lus_1 {a : Nat} (ha : a < 2 ^ 63) : lus (lN a) (nI 1) = lN (a / 2) := lus_k ha rfl rfl
theorem lus_2 {a : Nat} (ha : a < 2 ^ 63) : lus (lN a) (nI 2) = lN (a / 4) := lus_k ha rfl rfl
theorem lus_4 {a : Nat} (ha : a < 2 ^ 63) : lus (lN a) (nI 4) = lN (a / 16) := lus_k ha rfl rfl
theorem lus_8 {a : Nat} (ha : a < 2 ^ 63) : lus (lN a) (nI 8) = lN (a / 256) := lus_k ha rfl rfl
theorem lus_16 {a : Nat} (ha : a < 2 ^ 63) : lus (lN a) (nI 16) = lN (a / 65536) := lus_k ha rfl rfl
theorem lus_32 {a : Nat} (ha : a < 2 ^ 63) : lus (lN a) (nI 32) = lN (a / 4294967296) := lus_k ha rfl rfl
/-- and, by bytes -/
theorem and_b {a b c e : Nat} (hb : b < 256) (he : e < 256) : (256 * a + b) &&& (256 * c + e) = 256 * (a &&& c) + (b &&& e) := by
  apply Nat.eq_of_testBit_eq
  intro i
  have hbe : b &&& e < 2 ^ 8 := Nat.and_lt_two_pow _ he
  rw [show (256 : Nat) = 2 ^ 8 from rfl, Nat.testBit_and, Nat.testBit_two_pow_mul_add _ hb, Nat.testBit_two_pow_mul_add _ he, Nat.testBit_two_pow_mul_add _ hbe]
  by_cases h : i < 8
  · rw [if_pos h, if_pos h, if_pos h, Nat.testBit_and]
  · rw [if_neg h, if_neg h, if_neg h, Nat.testBit_and]
def M5 : Nat → Nat
  | 0 => 0
  | n + 1 => 256 * M5 n + 85
def M3 : Nat → Nat
  | 0 => 0
  | n + 1 => 256 * M3 n + 51
def MF : Nat → Nat
  | 0 => 0
  | n + 1 => 256 * MF n + 15
def bA (n N : Nat) : Nat := N - (N / 2 &&& M5 n)
def bB (n N : Nat) : Nat := (N &&& M3 n) + (N / 4 &&& M3 n)
def bC (n N : Nat) : Nat := (N + N / 16) &&& MF n
def cA (B : Nat) : Nat := B - (B / 2 &&& 85)
def cB (B : Nat) : Nat := (B &&& 51) + (B / 4 &&& 51)
def pb (B : Nat) : Nat := cn (fun f => B.testBit f) 8
theorem tA : ∀ m : Fin 2, ∀ B : Fin 256, (128 * m.val + B.val / 2) &&& 85 = B.val / 2 &&& 85 := by decide +kernel
theorem tB : ∀ m : Fin 4, ∀ B : Fin 256, (64 * m.val + B.val / 4) &&& 51 = B.val / 4 &&& 51 := by decide +kernel
theorem tC : ∀ m : Fin 5, ∀ B : Fin 256, (cB (cA B.val) + (16 * m.val + cB (cA B.val) / 16)) &&& 15 = pb B.val := by decide +kernel
theorem tD : ∀ B : Fin 256, cB (cA B.val) ≤ 68 ∧ cB (cA B.val) % 16 ≤ 4 ∧ cA B.val < 256 := by decide +kernel
theorem pb_le (B : Nat) : pb B ≤ 8 := cn_le 8
theorem bA_b {n M B : Nat} (hB : B < 256) : bA (n + 1) (256 * M + B) = 256 * bA n M + cA B := by
  unfold bA cA
  have e : (256 * M + B) / 2 = 256 * (M / 2) + (128 * (M % 2) + B / 2) := by omega
  rw [e, M5, and_b (by omega) (by omega), tA ⟨M % 2, by omega⟩ ⟨B, hB⟩]
  have h1 : M / 2 &&& M5 n ≤ M / 2 := Nat.and_le_left
  have h2 : B / 2 &&& 85 ≤ B / 2 := Nat.and_le_left
  show _ = 256 * (M - (M / 2 &&& M5 n)) + (B - (B / 2 &&& 85))
  simp only
  omega
theorem bB_b {n M B : Nat} (hB : B < 256) : bB (n + 1) (256 * M + B) = 256 * bB n M + cB B := by
  unfold bB cB
  have e : (256 * M + B) / 4 = 256 * (M / 4) + (64 * (M % 4) + B / 4) := by omega
  rw [e, M3, and_b hB (by omega), and_b (by omega) (by omega), tB ⟨M % 4, by omega⟩ ⟨B, hB⟩]
  simp only
  omega
theorem bAB_m : ∀ (n N : Nat), N < 256 ^ n → bB n (bA n N) % 16 ≤ 4
  | 0, N, h => by
    have e : N = 0 := by simpa using h
    subst e; decide
  | n + 1, N, h => by
    have e : N = 256 * (N / 256) + N % 256 := by omega
    have hB : N % 256 < 256 := by omega
    have d2 : cB (cA (N % 256)) % 16 ≤ 4 := (tD ⟨N % 256, hB⟩).2.1
    have d3 : cA (N % 256) < 256 := (tD ⟨N % 256, hB⟩).2.2
    rw [e, bA_b hB, bB_b d3]
    omega
def PB : Nat → Nat → Nat
  | 0, _ => 0
  | n + 1, N => 256 * PB n (N / 256) + pb (N % 256)
def TB : Nat → Nat → Nat
  | 0, _ => 0
  | n + 1, N => TB n (N / 256) + pb (N % 256)
theorem bC_b : ∀ (n N : Nat), N < 256 ^ n → bC n (bB n (bA n N)) = PB n N
  | 0, N, h => by
    have e : N = 0 := by simpa using h
    subst e; decide
  | n + 1, N, h => by
    have hM : N / 256 < 256 ^ n := by
      rw [Nat.div_lt_iff_lt_mul (by omega), ← Nat.pow_succ]; exact h
    have ih := bC_b n (N / 256) hM
    have hm := bAB_m n (N / 256) hM
    have e : N = 256 * (N / 256) + N % 256 := by omega
    have hB : N % 256 < 256 := by omega
    have d1 : cB (cA (N % 256)) ≤ 68 := (tD ⟨N % 256, hB⟩).1
    have d3 : cA (N % 256) < 256 := (tD ⟨N % 256, hB⟩).2.2
    have c : (cB (cA (N % 256)) + (16 * (bB n (bA n (N / 256)) % 16) + cB (cA (N % 256)) / 16)) &&& 15 = pb (N % 256) := tC ⟨bB n (bA n (N / 256)) % 16, by omega⟩ ⟨N % 256, hB⟩
    conv => lhs; rw [e]
    rw [bA_b hB, bB_b d3, PB, ← ih, ← c]
    unfold bC
    generalize bB n (bA n (N / 256)) = M at *
    generalize cB (cA (N % 256)) = B at *
    rw [show 256 * M + B + (256 * M + B) / 16 = 256 * (M + M / 16) + (B + (16 * (M % 16) + B / 16)) by omega, MF, and_b (by omega) (by omega)]
theorem TB_cn : ∀ (n N : Nat), TB n N = cn (fun i => N.testBit i) (8 * n)
  | 0, _ => rfl
  | n + 1, N => by
    rw [TB, TB_cn n, show 8 * (n + 1) = 8 + 8 * n by omega, cn_add, Nat.add_comm]
    congr 1
    · unfold pb
      refine cn_cong fun i hi => ?_
      rw [show (256 : Nat) = 2 ^ 8 from rfl, Nat.testBit_mod_two_pow]
      simp [hi]
    · refine cn_cong fun i _ => ?_
      rw [show (256 : Nat) = 2 ^ 8 from rfl, Nat.testBit_div_two_pow, Nat.add_comm]
theorem dv {k p X : Nat} (hk : 0 < k) (h : p < k) : (p + k * X) / k = X := by
  rw [Nat.add_mul_div_left _ _ hk, Nat.div_eq_of_lt h, Nat.zero_add]
theorem bs1 {p0 p1 p2 p3 p4 p5 p6 : Nat} : p0 + 256 * p1 + 65536 * p2 + 16777216 * p3 + 4294967296 * p4 + 1099511627776 * p5 + 281474976710656 * p6 = p0 + 256 * (p1 + 256 * p2 + 65536 * p3 + 16777216 * p4 + 4294967296 * p5 + 1099511627776 * p6) := by omega
theorem bs2 {p0 p1 p2 p3 p4 p5 p6 : Nat} : p0 + 256 * p1 + 65536 * p2 + 16777216 * p3 + 4294967296 * p4 + 1099511627776 * p5 + 281474976710656 * p6 + (p1 + 256 * p2 + 65536 * p3 + 16777216 * p4 + 4294967296 * p5 + 1099511627776 * p6) = (p0 + p1 + 256 * (p1 + p2)) + 65536 * ((p2 + p3) + 256 * (p3 + p4) + 65536 * (p4 + p5) + 16777216 * (p5 + p6) + 4294967296 * p6) := by omega
theorem bs3 {p0 p1 p2 p3 p4 p5 p6 : Nat} : (p0 + p1 + 256 * (p1 + p2)) + 65536 * ((p2 + p3) + 256 * (p3 + p4) + 65536 * (p4 + p5) + 16777216 * (p5 + p6) + 4294967296 * p6) + ((p2 + p3) + 256 * (p3 + p4) + 65536 * (p4 + p5) + 16777216 * (p5 + p6) + 4294967296 * p6) = ((p0 + p1 + p2 + p3) + 256 * (p1 + p2 + p3 + p4) + 65536 * (p2 + p3 + p4 + p5) + 16777216 * (p3 + p4 + p5 + p6)) + 4294967296 * ((p4 + p5 + p6) + 256 * (p5 + p6) + 65536 * p6) := by omega
theorem bs4 {p0 p1 p2 p3 p4 p5 p6 : Nat} : ((p0 + p1 + p2 + p3) + 256 * (p1 + p2 + p3 + p4) + 65536 * (p2 + p3 + p4 + p5) + 16777216 * (p3 + p4 + p5 + p6)) + 4294967296 * ((p4 + p5 + p6) + 256 * (p5 + p6) + 65536 * p6) + ((p4 + p5 + p6) + 256 * (p5 + p6) + 65536 * p6) = (p0 + p1 + p2 + p3 + p4 + p5 + p6) + 128 * (2 * (p1 + p2 + p3 + p4) + 512 * (p2 + p3 + p4 + p5) + 131072 * (p3 + p4 + p5 + p6) + 33554432 * ((p4 + p5 + p6) + 256 * (p5 + p6) + 65536 * p6) + 2 * (p5 + p6) + 512 * p6) := by omega
theorem by_sum {p0 p1 p2 p3 p4 p5 p6 a b c : Nat} (h0 : p0 ≤ 8) (h1 : p1 ≤ 8) (h2 : p2 ≤ 8) (h3 : p3 ≤ 8) (h4 : p4 ≤ 8) (h5 : p5 ≤ 8) (h6 : p6 ≤ 8) (ha : a = p0 + 256 * p1 + 65536 * p2 + 16777216 * p3 + 4294967296 * p4 + 1099511627776 * p5 + 281474976710656 * p6) (hb : b = a + a / 256) (hc : c = b + b / 65536) : a < 2 ^ 53 ∧ b < 2 ^ 54 ∧ c < 2 ^ 55 ∧ (c + c / 4294967296) % 128 = p0 + p1 + p2 + p3 + p4 + p5 + p6 := by
  have la : a < 2 ^ 53 := by omega
  have lb : b < 2 ^ 54 := by
    have := Nat.div_le_self a 256
    omega
  have lc : c < 2 ^ 55 := by
    have := Nat.div_le_self b 65536
    omega
  refine ⟨la, lb, lc, ?_⟩
  clear la lb lc
  have e1 : a / 256 = p1 + 256 * p2 + 65536 * p3 + 16777216 * p4 + 4294967296 * p5 + 1099511627776 * p6 := by
    rw [ha, bs1]; exact dv (by omega) (by omega)
  rw [e1, ha, bs2] at hb
  have e2 : b / 65536 = (p2 + p3) + 256 * (p3 + p4) + 65536 * (p4 + p5) + 16777216 * (p5 + p6) + 4294967296 * p6 := by
    rw [hb]; exact dv (by omega) (by clear ha hb hc e1; omega)
  rw [e2, hb, bs3] at hc
  have e3 : c / 4294967296 = (p4 + p5 + p6) + 256 * (p5 + p6) + 65536 * p6 := by
    rw [hc]; exact dv (by omega) (by clear ha hb hc e1 e2; omega)
  rw [e3, hc, bs4, Nat.add_mul_mod_self_left]
  exact Nat.mod_eq_of_lt (by clear ha hb hc e1 e2 e3; omega)
theorem PB_top {N a b c : Nat} (hN : N < 2 ^ 56) (ha : a = PB 8 N) (hb : b = a + a / 256) (hc : c = b + b / 65536) : a < 2 ^ 53 ∧ b < 2 ^ 54 ∧ c < 2 ^ 55 ∧ (c + c / 4294967296) % 128 = TB 8 N := by
  have z : pb (N / 256 / 256 / 256 / 256 / 256 / 256 / 256 % 256) = 0 := by
    have h7 : N / 256 / 256 / 256 / 256 / 256 / 256 / 256 = 0 := by
      rw [Nat.div_div_eq_div_mul, Nat.div_div_eq_div_mul, Nat.div_div_eq_div_mul, Nat.div_div_eq_div_mul, Nat.div_div_eq_div_mul, Nat.div_div_eq_div_mul]
      exact Nat.div_eq_of_lt hN
    rw [h7]; decide
  simp only [PB, TB] at ha ⊢
  rw [z] at ha ⊢
  clear z hN
  have l0 := pb_le (N % 256)
  have l1 := pb_le (N / 256 % 256)
  have l2 := pb_le (N / 256 / 256 % 256)
  have l3 := pb_le (N / 256 / 256 / 256 % 256)
  have l4 := pb_le (N / 256 / 256 / 256 / 256 % 256)
  have l5 := pb_le (N / 256 / 256 / 256 / 256 / 256 % 256)
  have l6 := pb_le (N / 256 / 256 / 256 / 256 / 256 / 256 % 256)
  generalize pb (N % 256) = p0 at *
  generalize pb (N / 256 % 256) = p1 at *
  generalize pb (N / 256 / 256 % 256) = p2 at *
  generalize pb (N / 256 / 256 / 256 % 256) = p3 at *
  generalize pb (N / 256 / 256 / 256 / 256 % 256) = p4 at *
  generalize pb (N / 256 / 256 / 256 / 256 / 256 % 256) = p5 at *
  generalize pb (N / 256 / 256 / 256 / 256 / 256 / 256 % 256) = p6 at *
  have ha' : a = p0 + 256 * p1 + 65536 * p2 + 16777216 * p3 + 4294967296 * p4 + 1099511627776 * p5 + 281474976710656 * p6 := by
    clear hb hc l0 l1 l2 l3 l4 l5 l6
    omega
  obtain ⟨r1, r2, r3, r4⟩ := by_sum l0 l1 l2 l3 l4 l5 l6 ha' hb hc
  refine ⟨r1, r2, r3, ?_⟩
  rw [r4]
  clear ha ha' hb hc r1 r2 r3 r4
  omega
end LONG
