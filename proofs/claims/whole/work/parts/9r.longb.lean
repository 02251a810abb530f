/-! longs: bits counted -/
section LONGB
variable {d : Nat} {I : xm_I} {J : xm_J} {R : xm_R}
def bLA (u : Int64) : Int64 := u - (lus u 1 &&& 6148914691236517205)
def bLB (u : Int64) : Int64 := (u &&& 3689348814741910323) + (lus u 2 &&& 3689348814741910323)
def bLC (u : Int64) : Int64 := (u + lus u 4) &&& 1085102592571150095
def bLD (u : Int64) : Int64 := u + lus u 8
def bLE (u : Int64) : Int64 := u + lus u 16
def bLF (u : Int64) : Int64 := u + lus u 32
theorem s_lb {u : Int64} : xm_den d m_J13_bitCount_95d88 0 [some (.long u), none] [] xm_la I J R = some (some (.int ((bLF (bLE (bLD (bLC (bLB (bLA u)))))).toInt32 &&& 127)), xm_la, I, J, R) := by
  simp only [e_J13_bitCount_95d88_0, e_J13_bitCount_95d88_1, e_J13_bitCount_95d88_2, e_J13_bitCount_95d88_3, e_J13_bitCount_95d88_4, e_J13_bitCount_95d88_7, e_J13_bitCount_95d88_8, e_J13_bitCount_95d88_9, e_J13_bitCount_95d88_10, e_J13_bitCount_95d88_11, e_J13_bitCount_95d88_14, e_J13_bitCount_95d88_15, e_J13_bitCount_95d88_16, e_J13_bitCount_95d88_17, e_J13_bitCount_95d88_18, e_J13_bitCount_95d88_21, e_J13_bitCount_95d88_22, e_J13_bitCount_95d88_23, e_J13_bitCount_95d88_24, e_J13_bitCount_95d88_25, e_J13_bitCount_95d88_26, e_J13_bitCount_95d88_27, e_J13_bitCount_95d88_28, e_J13_bitCount_95d88_29, e_J13_bitCount_95d88_32, e_J13_bitCount_95d88_33, e_J13_bitCount_95d88_34, e_J13_bitCount_95d88_35, e_J13_bitCount_95d88_36, e_J13_bitCount_95d88_38, e_J13_bitCount_95d88_39, e_J13_bitCount_95d88_40, e_J13_bitCount_95d88_41, e_J13_bitCount_95d88_42, e_J13_bitCount_95d88_43, e_J13_bitCount_95d88_45, e_J13_bitCount_95d88_46, e_J13_bitCount_95d88_47, e_J13_bitCount_95d88_48, e_J13_bitCount_95d88_49, e_J13_bitCount_95d88_50, e_J13_bitCount_95d88_52, e_J13_bitCount_95d88_53, e_J13_bitCount_95d88_54, e_J13_bitCount_95d88_55, e_J13_bitCount_95d88_56, e_J13_bitCount_95d88_57, e_J13_bitCount_95d88_59, e_J13_bitCount_95d88_60, dn_bd, dn_tl, dn_tn, Option.toList_some, Option.toList_none, List.cons_append, List.nil_append, rf_some, sm_i, sm_r, sm_n, sm_l, sm_0, z01_0, z01_1, and_self, if_true, if_false, ka_x, true_or, or_true, not_true_eq_false, not_false_eq_true]
  rfl
theorem s_lbc {N : Nat} (hN : N < 2 ^ 56) : xm_den d m_J13_bitCount_95d88 0 [some (.long (lN N)), none] [] xm_la I J R = some (some (.int (nI (cn (fun i => N.testBit i) 64))), xm_la, I, J, R) := by
  have hA : bLA (lN N) = lN (bA 8 N) := by
    unfold bLA bA
    rw [show (1 : Int32) = nI 1 from rfl, lus_1 (by omega), show (6148914691236517205 : Int64) = lN (M5 8) from by decide +kernel, lN_and, lS_sub]
    have : N / 2 &&& M5 8 ≤ N / 2 := Nat.and_le_left
    omega
  have lA : bA 8 N ≤ N := Nat.sub_le _ _
  have hB : bLB (lN (bA 8 N)) = lN (bB 8 (bA 8 N)) := by
    unfold bLB bB
    rw [show (2 : Int32) = nI 2 from rfl, lus_2 (by omega), show (3689348814741910323 : Int64) = lN (M3 8) from by decide +kernel, lN_and, lN_and, lM_add]
  have lB : bB 8 (bA 8 N) < 2 ^ 57 := by
    unfold bB
    have h1 : bA 8 N &&& M3 8 ≤ bA 8 N := Nat.and_le_left
    have h2 : bA 8 N / 4 &&& M3 8 ≤ bA 8 N / 4 := Nat.and_le_left
    omega
  have hCC : bLC (lN (bB 8 (bA 8 N))) = lN (bC 8 (bB 8 (bA 8 N))) := by
    unfold bLC bC
    rw [show (4 : Int32) = nI 4 from rfl, lus_4 (by omega), show (1085102592571150095 : Int64) = lN (MF 8) from by decide +kernel, lM_add, lN_and]
  have eC := bC_b 8 N (Nat.lt_of_lt_of_le hN (by decide))
  rw [s_lb, hA, hB, hCC, eC]
  have eT := TB_cn 8 N
  rw [show 8 * 8 = 64 from rfl] at eT
  obtain ⟨a, ha⟩ : ∃ a, a = PB 8 N := ⟨_, rfl⟩
  obtain ⟨b, hb⟩ : ∃ b, b = a + a / 256 := ⟨_, rfl⟩
  obtain ⟨c, hc⟩ : ∃ c, c = b + b / 65536 := ⟨_, rfl⟩
  obtain ⟨q1, q2, q3, q4⟩ := PB_top hN ha hb hc
  have hD : bLD (lN a) = lN b := by
    unfold bLD
    rw [show (8 : Int32) = nI 8 from rfl, lus_8 (by omega), lM_add, ← hb]
  have hE : bLE (lN b) = lN c := by
    unfold bLE
    rw [show (16 : Int32) = nI 16 from rfl, lus_16 (by omega), lM_add, ← hc]
  have hF : bLF (lN c) = lN (c + c / 4294967296) := by
    unfold bLF
    rw [show (32 : Int32) = nI 32 from rfl, lus_32 (by omega), lM_add]
  rw [← ha, hD, hE, hF, lN_cut, show (127 : Int32) = nI 127 from rfl, nI_and, show (127 : Nat) = 2 ^ 7 - 1 from rfl, Nat.and_two_pow_sub_one_eq_mod, ← eT, ← q4]
end LONGB
