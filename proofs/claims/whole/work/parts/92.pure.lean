/-! counting and bits -/
section PURE
def cn (p : Nat → Bool) : Nat → Nat
  | 0 => 0
  | n + 1 => cn p n + if p n = true then 1 else 0
theorem cn_t {p : Nat → Bool} {n : Nat} (h : p n = true) : cn p (n + 1) = cn p n + 1 := by rw [cn, if_pos h]
theorem cn_f {p : Nat → Bool} {n : Nat} (h : ¬ p n = true) : cn p (n + 1) = cn p n := by rw [cn, if_neg h]; rfl
theorem cn_le {p : Nat → Bool} : ∀ n, cn p n ≤ n
  | 0 => Nat.le_refl _
  | n + 1 => by
    have := cn_le (p := p) n
    rw [cn]; split <;> omega
theorem cn_cong {p q : Nat → Bool} : ∀ {n : Nat}, (∀ i, i < n → p i = q i) → cn p n = cn q n
  | 0, _ => rfl
  | n + 1, h => by rw [cn, cn, cn_cong (fun i hi => h i (by omega)), h n (by omega)]
theorem cn_add {p : Nat → Bool} {m : Nat} : ∀ n, cn p (m + n) = cn p m + cn (fun i => p (m + i)) n
  | 0 => rfl
  | n + 1 => by
    show cn p (m + n + 1) = _
    rw [cn, cn, cn_add n]; omega
theorem cn_mono {p : Nat → Bool} {m n : Nat} (h : m ≤ n) : cn p m ≤ cn p n := by
  obtain ⟨k, rfl⟩ : ∃ k, n = m + k := ⟨n - m, by omega⟩
  rw [cn_add]; omega
theorem cn_none {p : Nat → Bool} {j k : Nat} (hjk : j ≤ k) (h : ∀ i, j ≤ i → i < k → ¬ p i = true) : cn p k = cn p j := by
  obtain ⟨m, rfl⟩ : ∃ m, k = j + m := ⟨k - j, by omega⟩
  clear hjk
  induction m with
  | zero => rfl
  | succ m ih =>
    rw [← Nat.add_assoc, cn_f (h (j + m) (by omega) (by omega))]
    exact ih (fun i a b => h i a (by omega))
theorem cn_zero {p : Nat → Bool} {n : Nat} (h : ∀ i, i < n → ¬ p i = true) : cn p n = 0 := by
  rw [cn_none (j := 0) (by omega) (fun i _ hi => h i hi)]; rfl
theorem cn_pos {p : Nat → Bool} {n i : Nat} (hi : i < n) (h : p i = true) : 0 < cn p n := by
  have h1 := cn_mono (p := p) (show i + 1 ≤ n by omega)
  rw [cn_t h] at h1; omega
theorem cn_ex {p : Nat → Bool} : ∀ {n : Nat}, 0 < cn p n → ∃ i, i < n ∧ p i = true
  | 0, h => by simp [cn] at h
  | n + 1, h => by
    by_cases hp : p n = true
    · exact ⟨n, by omega, hp⟩
    · rw [cn_f hp] at h
      obtain ⟨i, h1, h2⟩ := cn_ex h
      exact ⟨i, by omega, h2⟩
theorem cn_one {p : Nat → Bool} {n : Nat} : cn p (1 + n) = (if p 0 = true then 1 else 0) + cn (fun i => p (i + 1)) n := by
  rw [cn_add]
  congr 1
  · rw [cn, cn]; omega
  · exact cn_cong (fun i _ => by rw [Nat.add_comm])
theorem cn_rev : ∀ {n : Nat} {p : Nat → Bool}, cn (fun k => p (n - 1 - k)) n = cn p n
  | 0, p => rfl
  | n + 1, p => by
    have ih := cn_rev (n := n) (p := fun i => p (i + 1))
    have e2 : cn p (n + 1) = (if p 0 = true then 1 else 0) + cn (fun i => p (i + 1)) n := by rw [Nat.add_comm n 1]; exact cn_one
    rw [e2, ← ih, cn]
    have e : cn (fun k => p (n + 1 - 1 - k)) n = cn (fun k => p (n - 1 - k + 1)) n := cn_cong (fun i hi => by rw [show n + 1 - 1 - i = n - 1 - i + 1 by omega])
    rw [e, show n + 1 - 1 - n = 0 by omega]
    omega
theorem cn_imp {p q : Nat → Bool} {n : Nat} (h : ∀ i, i < n → p i = true → q i = true) : cn p n ≤ cn q n := by
  induction n with
  | zero => exact Nat.le_refl _
  | succ n ih =>
    have h1 := ih (fun i hi => h i (by omega))
    by_cases hp : p n = true
    · rw [cn_t hp, cn_t (h n (by omega) hp)]; omega
    · rw [cn_f hp, cn]; omega
/-- a sum over numbers below n -/
def sm (f : Nat → Nat) : Nat → Nat
  | 0 => 0
  | n + 1 => sm f n + f n
theorem sm_cong {f g : Nat → Nat} : ∀ {n : Nat}, (∀ i, i < n → f i = g i) → sm f n = sm g n
  | 0, _ => rfl
  | n + 1, h => by rw [sm, sm, sm_cong (fun i hi => h i (by omega)), h n (by omega)]
theorem sm_mono {f : Nat → Nat} {m n : Nat} (h : m ≤ n) : sm f m ≤ sm f n := by
  obtain ⟨k, rfl⟩ : ∃ k, n = m + k := ⟨n - m, by omega⟩
  clear h
  induction k with
  | zero => exact Nat.le_refl _
  | succ k ih => rw [← Nat.add_assoc, sm]; omega
theorem cn_blocks {p : Nat → Bool} {k : Nat} : ∀ n, cn p (k * n) = sm (fun r => cn (fun i => p (k * r + i)) k) n
  | 0 => rfl
  | n + 1 => by rw [Nat.mul_succ, cn_add, cn_blocks n, sm]
/-- numbers of bits -/
theorem nI_and (a b : Nat) : nI a &&& nI b = nI (a &&& b) := by
  apply Int32.toBitVec_inj.mp
  rw [Int32.toBitVec_and]
  show BitVec.ofNat 32 a &&& BitVec.ofNat 32 b = BitVec.ofNat 32 (a &&& b)
  exact (BitVec.ofNat_and ..).symm
theorem nI_or (a b : Nat) : nI a ||| nI b = nI (a ||| b) := by
  apply Int32.toBitVec_inj.mp
  rw [Int32.toBitVec_or]
  show BitVec.ofNat 32 a ||| BitVec.ofNat 32 b = BitVec.ofNat 32 (a ||| b)
  exact (BitVec.ofNat_or ..).symm
theorem bit_1 : ∀ f, f < 10 → (nI 1 <<< (nI f &&& 31)) = nI (2 ^ f) := by decide +kernel
theorem bit_sh' : ∀ t : Fin 1024, ∀ f : Fin 10, ((nI t.val >>> (nI f.val &&& 31)) &&& nI 1) = nI (if t.val.testBit f.val = true then 1 else 0) := by decide +kernel
theorem bit_sh {t f : Nat} (ht : t < 1024) (hf : f < 10) : ((nI t >>> (nI f &&& 31)) &&& nI 1) = nI (if t.testBit f = true then 1 else 0) := bit_sh' ⟨t, ht⟩ ⟨f, hf⟩
theorem bit_or {t f i : Nat} : (t ||| 2 ^ f).testBit i = (t.testBit i || decide (f = i)) := by
  rw [Nat.testBit_or, Nat.testBit_two_pow]
theorem bit_or_lt {t f : Nat} (ht : t < 1024) (hf : f < 10) : t ||| 2 ^ f < 1024 := by
  have h2 : 2 ^ f < 1024 := by
    have : ∀ f : Fin 10, 2 ^ f.val < 1024 := by decide
    exact this ⟨f, hf⟩
  exact Nat.or_lt_two_pow (n := 10) ht h2
theorem bit_eq {a b : Nat} (ha : a < 1024) (hb : b < 1024) (h : ∀ i, i < 10 → a.testBit i = b.testBit i) : a = b := by
  apply Nat.eq_of_testBit_eq
  intro i
  by_cases hi : i < 10
  · exact h i hi
  · have h2 : 1024 ≤ 2 ^ i := by
      have := Nat.pow_le_pow_right (show 0 < 2 by omega) (show 10 ≤ i by omega)
      omega
    rw [Nat.testBit_lt_two_pow (by omega), Nat.testBit_lt_two_pow (by omega)]
theorem bit_0 (i : Nat) : (0 : Nat).testBit i = false := Nat.zero_testBit i
end PURE
