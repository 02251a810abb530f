/-! sets of places -/
section LONGS
variable {d : Nat} {I : xm_I} {J : xm_J} {R : xm_R}
/-- a set of places -/
theorem bt_bit {S : Nat → Bool} {i : Nat} : ∀ n, (bs S n).testBit i = (decide (i < n) && S i)
  | 0 => by simp [bs]
  | n + 1 => by
    have ih := bt_bit (S := S) (i := i) n
    rw [bs]
    by_cases hs : S n = true
    · rw [if_pos hs, bit_or, ih]
      by_cases e : n = i
      · subst e; simp [hs]
      · by_cases e2 : i < n
        · have : i < n + 1 := by omega
          simp [e, e2, this]
        · have : ¬ i < n + 1 := by omega
          simp [e, e2, this]
    · rw [if_neg hs, ih]
      by_cases e : n = i
      · subst e; simp at hs; simp [hs]
      · by_cases e2 : i < n
        · have : i < n + 1 := by omega
          simp [e2, this]
        · have : ¬ i < n + 1 := by omega
          simp [e2, this]
theorem bt_lt {S : Nat → Bool} : ∀ n, bs S n < 2 ^ n
  | 0 => by simp [bs]
  | n + 1 => by
    have ih := bt_lt (S := S) n
    have h2 : (2 : Nat) ^ (n + 1) = 2 ^ n * 2 := Nat.pow_succ _ _
    rw [bs]
    split
    · exact Nat.or_lt_two_pow (by omega) (by omega)
    · omega
theorem bt_cn {S : Nat → Bool} : cn (fun i => (bs S 54).testBit i) 64 = cn S 54 := by
  rw [cn_none (j := 54) (k := 64) (by omega) (fun i h1 h2 z => by
    rw [bt_bit] at z
    simp at z; omega)]
  refine cn_cong fun i hi => ?_
  rw [bt_bit]; simp [hi]
theorem bt_or {S T : Nat → Bool} {q : Nat} (hq : q < 54) (h : ∀ i, i < 54 → T i = (S i || decide (q = i))) : bs S 54 ||| 2 ^ q = bs T 54 := by
  apply Nat.eq_of_testBit_eq
  intro i
  rw [bit_or, bt_bit, bt_bit]
  by_cases hi : i < 54
  · rw [h i hi]; simp [hi]
  · have : ¬ q = i := by omega
    simp [hi, this]
theorem l1_sh : ∀ q : Fin 54, (1 : Int64) <<< ((nI q.val).toInt64 &&& 63) = lN (2 ^ q.val) := by decide +kernel
theorem l_shc : ∀ q : Fin 54, (((nI q.val).toInt64 &&& 63) = lN q.val ∧ ((nI q.val).toInt64 &&& 63).toBitVec.smod 64 = BitVec.ofNat 64 q.val) := by decide +kernel
theorem l_sh {N q : Nat} (hN : N < 2 ^ 56) (hq : q < 54) : (lN N >>> ((nI q).toInt64 &&& 63)) &&& lN 1 = lN (if N.testBit q = true then 1 else 0) := by
  have e : lN N >>> ((nI q).toInt64 &&& 63) = lN (N / 2 ^ q) := by
    apply Int64.toBitVec_inj.mp
    rw [Int64.toBitVec_shiftRight, (l_shc ⟨q, hq⟩).2, lN_bv, lN_bv]
    apply BitVec.eq_of_toInt_eq
    have hd := Nat.div_le_self N (2 ^ q)
    have bi : ∀ n : Nat, n < 2 ^ 56 → (BitVec.ofNat 64 n).toInt = (n : Int) := fun n hn => by
      have := lM_toInt (show n < 2 ^ 63 by omega)
      exact this
    show ((BitVec.ofNat 64 N).sshiftRight (BitVec.ofNat 64 q).toNat).toInt = _
    rw [BitVec.toInt_sshiftRight, bi N hN, bi _ (by omega), BitVec.toNat_ofNat, Nat.mod_eq_of_lt (show q < 2 ^ 64 by omega), Int.shiftRight_eq_div_pow]
    exact (Int.natCast_ediv N (2 ^ q)).symm
  rw [e, lN_and, Nat.and_one_is_mod]
  congr 1
  have := Nat.testBit_eq_decide_div_mod_eq (x := N) (i := q)
  by_cases h : N / 2 ^ q % 2 = 1
  · rw [this]; simp [h]
  · rw [this]; simp [h]; omega
end LONGS
