/-! a sum in figures -/
section SLATE
/-- how many figures a number has -/
def nd (b : Nat) : Nat → Nat → Nat
  | 0, _ => 1
  | f + 1, v => if v < b then 1 else nd b f (v / b) + 1
theorem nd_spec {b : Nat} (hb : 2 ≤ b) : ∀ (f v : Nat), v < b ^ (f + 1) → 1 ≤ nd b f v ∧ nd b f v ≤ f + 1 ∧ v < b ^ nd b f v ∧ (nd b f v = 1 ∨ b ^ (nd b f v - 1) ≤ v)
  | 0, v, h => ⟨by simp [nd], by simp [nd], by simpa [nd] using h, Or.inl rfl⟩
  | f + 1, v, h => by
    rw [nd]
    by_cases h1 : v < b
    · rw [if_pos h1]; exact ⟨by omega, by omega, by simpa using h1, Or.inl rfl⟩
    · rw [if_neg h1]
      have hv : v / b < b ^ (f + 1) := by
        rw [Nat.div_lt_iff_lt_mul (by omega), ← Nat.pow_succ]; exact h
      obtain ⟨a1, a2, a3, a4⟩ := nd_spec hb f (v / b) hv
      generalize nd b f (v / b) = L at *
      refine ⟨by omega, by omega, ?_, Or.inr ?_⟩
      · rw [Nat.pow_succ]; exact (Nat.div_lt_iff_lt_mul (by omega)).mp a3
      · rw [Nat.add_sub_cancel]
        rcases a4 with rfl | a4
        · rw [Nat.pow_one]; omega
        · have e : L = (L - 1) + 1 := by omega
          rw [e, Nat.pow_succ]
          have := (Nat.le_div_iff_mul_le (show 0 < b by omega)).mp a4
          exact this
def dg (b v : Nat) : Nat := nd b 9 v
theorem b10_big {b v : Nat} (hb : 4 ≤ b) (hv : v < 1000000) : v < b ^ 10 := by
  have : 4 ^ 10 ≤ b ^ 10 := Nat.pow_le_pow_left hb 10
  omega
theorem dg_iff {b v L : Nat} (hb : 4 ≤ b) (hv : v < 1000000) (hL : 1 ≤ L) : dg b v = L ↔ v < b ^ L ∧ (L = 1 ∨ b ^ (L - 1) ≤ v) := by
  obtain ⟨a1, a2, a3, a4⟩ := nd_spec (show 2 ≤ b by omega) 9 v (b10_big hb hv)
  constructor
  · rintro rfl; exact ⟨a3, a4⟩
  · rintro ⟨h1, h2⟩
    show nd b 9 v = L
    generalize nd b 9 v = M at *
    rcases Nat.lt_trichotomy M L with h | h | h
    · have := Nat.pow_le_pow_right (show 0 < b by omega) (show M ≤ L - 1 by omega)
      omega
    · exact h
    · have := Nat.pow_le_pow_right (show 0 < b by omega) (show L ≤ M - 1 by omega)
      omega
theorem dg_pos {b v : Nat} (hb : 4 ≤ b) (hv : v < 1000000) : 1 ≤ dg b v ∧ dg b v ≤ 10 := by
  obtain ⟨a1, a2, a3, a4⟩ := nd_spec (show 2 ≤ b by omega) 9 v (b10_big hb hv)
  exact ⟨a1, a2⟩
/-- the figure at a place of a row of w -/
def fg (b w v p : Nat) : Nat := v / b ^ (w - 1 - p) % b
theorem fg_lt {b w v p : Nat} (hb : 0 < b) : fg b w v p < b := Nat.mod_lt _ hb
def lo (s : ab_sl) (r : Nat) : Nat := if ab_w s r ≤ 1 then 0 else ab_b s ^ (ab_w s r - 1)
def hi (s : ab_sl) (r : Nat) : Nat := ab_b s ^ ab_w s r - 1
theorem pw_le {b w : Nat} (hb : b ≤ 10) (hw : w ≤ 6) : b ^ w ≤ 1000000 := by
  have h1 : b ^ w ≤ 10 ^ w := Nat.pow_le_pow_left hb w
  have h2 : 10 ^ w ≤ 10 ^ 6 := Nat.pow_le_pow_right (by omega) hw
  omega
theorem pw_le3 {b w : Nat} (hb : b ≤ 10) (hw : w ≤ 3) : b ^ w ≤ 1000 := by
  have h1 : b ^ w ≤ 10 ^ w := Nat.pow_le_pow_left hb w
  have h2 : 10 ^ w ≤ 10 ^ 3 := Nat.pow_le_pow_right (by omega) hw
  omega
theorem pw_le2 {b w : Nat} (hb : b ≤ 10) (hw : w ≤ 2) : b ^ w ≤ 100 := by
  have h1 : b ^ w ≤ 10 ^ w := Nat.pow_le_pow_left hb w
  have h2 : 10 ^ w ≤ 10 ^ 2 := Nat.pow_le_pow_right (by omega) hw
  omega
theorem pw_pos {b w : Nat} (hb : 4 ≤ b) : 1 ≤ b ^ w := Nat.pow_pos (by omega)
/-- d: the rows of a division -/
def dP (s : ab_sl) (i : Nat) : Nat := ab_b s ^ (ab_w s 2 - 1 - i)
def dL (s : ab_sl) (x y i : Nat) : Nat := (x * y + ab_re s) / dP s i - y * (x / dP s i)
def dN (s : ab_sl) (x y i : Nat) : Nat := if i = 0 then (x * y + ab_re s) / dP s 0 else dL s x y (i - 1) * ab_b s + (x * y + ab_re s) / dP s i % ab_b s
def sv (s : ab_sl) (x y r : Nat) : Nat :=
  if ab_k s = 1 then (if r = 0 then x * y + ab_re s else if r = 1 then y else if r = 2 then x else if r % 2 = 1 then y * (x / dP s ((r - 3) / 2) % ab_b s) else if (r - 3) / 2 + 1 < ab_w s 2 then dN s x y ((r - 3) / 2 + 1) else dL s x y ((r - 3) / 2))
  else if r = 0 then x else if r = 1 then y else if ab_k s = 2 then x + y else if ab_k s = 3 then x - y else if ab_ro s = 5 ∧ r = 2 then x * (y % ab_b s) else if ab_ro s = 5 ∧ r = 3 then x * (y / ab_b s) else x * y
theorem dL_le {s : ab_sl} {x y i : Nat} (hb : 4 ≤ ab_b s) : y * (x / dP s i) ≤ (x * y + ab_re s) / dP s i := by
  have hp : 0 < dP s i := pw_pos hb
  rw [Nat.le_div_iff_mul_le hp, Nat.mul_assoc]
  have h1 : x / dP s i * dP s i ≤ x := Nat.div_mul_le_self x _
  have h2 := Nat.mul_le_mul_left y h1
  rw [Nat.mul_comm y x] at h2
  omega
theorem dN_sub {s : ab_sl} {x y i : Nat} (hb : 4 ≤ ab_b s) (hx : x < ab_b s ^ ab_w s 2) (hi : i < ab_w s 2) : dN s x y i = y * (x / dP s i % ab_b s) + dL s x y i := by
  have h0 := dL_le (s := s) (x := x) (y := y) (i := i) hb
  unfold dN
  by_cases h : i = 0
  · subst h
    rw [if_pos rfl]
    have hpp : 0 < dP s 0 := pw_pos hb
    have h1 : x / dP s 0 < ab_b s := by
      rw [Nat.div_lt_iff_lt_mul hpp]
      have e : ab_b s * dP s 0 = ab_b s ^ ab_w s 2 := by
        show ab_b s * ab_b s ^ (ab_w s 2 - 1 - 0) = _
        rw [← Nat.pow_succ']; congr 1; omega
      rw [e]; exact hx
    rw [Nat.mod_eq_of_lt h1]
    unfold dL
    omega
  · rw [if_neg h]
    obtain ⟨j, rfl⟩ : ∃ j, i = j + 1 := ⟨i - 1, by omega⟩
    have e : dP s j = dP s (j + 1) * ab_b s := by
      show ab_b s ^ (ab_w s 2 - 1 - j) = ab_b s ^ (ab_w s 2 - 1 - (j + 1)) * ab_b s
      rw [← Nat.pow_succ]; congr 1; omega
    have h1 := dL_le (s := s) (x := x) (y := y) (i := j) hb
    rw [Nat.add_sub_cancel]
    unfold dL
    rw [e] at h1 ⊢
    rw [← Nat.div_div_eq_div_mul, ← Nat.div_div_eq_div_mul] at h1 ⊢
    generalize (x * y + ab_re s) / dP s (j + 1) = N at *
    generalize x / dP s (j + 1) = X at *
    generalize ab_b s = b at *
    have eN := Nat.div_add_mod N b
    have eX := Nat.div_add_mod X b
    obtain ⟨D, hD⟩ : ∃ D, N / b = y * (X / b) + D := ⟨N / b - y * (X / b), by omega⟩
    have e1 : (N / b - y * (X / b)) * b = b * D := by rw [hD, Nat.add_sub_cancel_left, Nat.mul_comm]
    have e2 : b * (N / b) = b * (y * (X / b)) + b * D := by rw [hD, Nat.mul_add]
    have e3 : y * X = b * (y * (X / b)) + y * (X % b) := by
      conv => lhs; rw [← eX]
      rw [Nat.mul_add]; congr 1
      rw [← Nat.mul_assoc, ← Nat.mul_assoc, Nat.mul_comm y b]
    rw [e1]
    generalize b * (y * (X / b)) = U at *
    generalize b * D = V at *
    generalize y * (X % b) = C at *
    generalize N % b = r at *
    omega
theorem xy_le {x y : Nat} (hx : x < 1000) (hy : y < 100) : x * y ≤ 99000 := by
  have := Nat.mul_le_mul (show x ≤ 999 by omega) (show y ≤ 99 by omega)
  omega
theorem dL_lt {s : ab_sl} {x y i : Nat} (hx : x < 1000) (hy : y < 100) (hr : ab_re s ≤ 99) : dL s x y i ≤ 99099 := by
  unfold dL
  have h1 := xy_le hx hy
  have h2 := Nat.div_le_self (x * y + ab_re s) (dP s i)
  omega
theorem dN_lt {s : ab_sl} {x y i : Nat} (hx : x < 1000) (hy : y < 100) (hr : ab_re s ≤ 99) (hb : ab_b s ≤ 10) (hb4 : 4 ≤ ab_b s) : dN s x y i < 1000000 := by
  unfold dN
  have h1 := xy_le hx hy
  by_cases h : i = 0
  · rw [if_pos h]
    have h2 := Nat.div_le_self (x * y + ab_re s) (dP s 0)
    omega
  · rw [if_neg h]
    have h2 := dL_lt (s := s) (x := x) (y := y) (i := i - 1) hx hy hr
    have h3 := Nat.mul_le_mul h2 hb
    have h4 := Nat.mod_lt ((x * y + ab_re s) / dP s i) (show 0 < ab_b s by omega)
    omega
theorem sv_lt {s : ab_sl} {x y r : Nat} (hx : x < 1000) (hy : y < 100) (hr : ab_re s ≤ 99) (hb : ab_b s ≤ 10) (hb4 : 4 ≤ ab_b s) : sv s x y r < 1000000 := by
  have h1 := xy_le hx hy
  have h2 := dN_lt (s := s) (x := x) (y := y) (i := (r - 3) / 2 + 1) hx hy hr hb hb4
  have h3 := dL_lt (s := s) (x := x) (y := y) (i := (r - 3) / 2) hx hy hr
  have h4 : y * (x / dP s ((r - 3) / 2) % ab_b s) ≤ 99 * 9 := Nat.mul_le_mul (by omega) (by have := Nat.mod_lt (x / dP s ((r - 3) / 2)) (show 0 < ab_b s by omega); omega)
  have h5 : x * (y % ab_b s) ≤ x * y := Nat.mul_le_mul_left x (Nat.mod_le _ _)
  have h6 : x * (y / ab_b s) ≤ x * y := Nat.mul_le_mul_left x (Nat.div_le_self _ _)
  unfold sv
  split
  · split
    · omega
    · split
      · omega
      · split
        · omega
        · split
          · omega
          · split
            · exact h2
            · omega
  · split
    · omega
    · split
      · omega
      · split
        · omega
        · split
          · omega
          · split
            · omega
            · split
              · omega
              · omega
end SLATE
