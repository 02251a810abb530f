/-! the tape: feed, of the reference: written by wip/whole/gen_feedr.py -/
section FEEDR
variable {d : Nat} {I : xm_I} {J : xm_J} {R : xm_R}
theorem bit255 (i : Nat) : (255#32).getLsbD i = decide (i < 8) := by
  have h : (255#32).getLsbD i = Nat.testBit (2 ^ 8 - 1) i := rfl
  rw [h, Nat.testBit_two_pow_sub_one]
theorem by4_of {w s t : Int32} {n : Nat} (hn : n ≤ 24) (h1 : ∀ x : Int32, (x.toUInt32 >>> (s.toUInt32 &&& Int32.toUInt32 31)).toInt32.toBitVec = x.toBitVec >>> n) (h2 : ∀ x : Int32, (x >>> t).toBitVec = x.toBitVec.sshiftRight n) : (w >>> t) &&& 255 = by4 w s := by
  unfold by4
  apply Int32.toBitVec_inj.mp
  rw [Int32.toBitVec_and, Int32.toBitVec_and, h1, h2]
  apply BitVec.eq_of_getLsbD_eq
  intro i hi
  rw [BitVec.getLsbD_and, BitVec.getLsbD_and, show (255 : Int32).toBitVec = 255#32 by decide, bit255]
  by_cases h8 : i < 8
  · rw [BitVec.getLsbD_sshiftRight, BitVec.getLsbD_ushiftRight]
    have h3 : n + i < 32 := by omega
    have h9 : ¬ 32 ≤ i := by omega
    simp [h3, hi, h9]
  · simp [h8]
theorem by4_24 {w : Int32} : (w >>> (24 : Int32)) &&& 255 = by4 w 24 := by4_of (n := 24) (by omega) (fun x => rfl) (fun x => rfl)
theorem by4_16 {w : Int32} : (w >>> (16 : Int32)) &&& 255 = by4 w 16 := by4_of (n := 16) (by omega) (fun x => rfl) (fun x => rfl)
theorem by4_8 {w : Int32} : (w >>> (8 : Int32)) &&& 255 = by4 w 8 := by4_of (n := 8) (by omega) (fun x => rfl) (fun x => rfl)
theorem by4_0 {w : Int32} : (w >>> (0 : Int32)) &&& 255 = by4 w 0 := by4_of (n := 0) (by omega) (fun x => rfl) (fun x => rfl)
theorem s_byteOf_0 {a b c e f : Int32} : xm_den d m_X12_byteOf 0 [some (.int a), some (.int b), some (.int c), some (.int e), some (.int f), some (.int 0), none] [] xm_la I J R = some (some (.int (by4 a 24)), xm_la, I, J, R) := by
  have h4 : ((4 : Int32) ≤ 0) = False := eq_false (by decide)
  have h8 : ((8 : Int32) ≤ 0) = False := eq_false (by decide)
  have h12 : ((12 : Int32) ≤ 0) = False := eq_false (by decide)
  have h16 : ((16 : Int32) ≤ 0) = False := eq_false (by decide)
  have hz : (¬ (4 : Int32) = 0) = True := eq_true (by decide)
  have hs : ((24 : Int32) - 8 * (0 % 4)) &&& 31 = 24 := by decide
  simp only [e_X12_byteOf_0, e_X12_byteOf_2, e_X12_byteOf_3, e_X12_byteOf_6, e_X12_byteOf_7, e_X12_byteOf_10, e_X12_byteOf_12, e_X12_byteOf_14, e_X12_byteOf_17, e_X12_byteOf_18, e_X12_byteOf_21, e_X12_byteOf_23, e_X12_byteOf_25, e_X12_byteOf_28, e_X12_byteOf_29, e_X12_byteOf_32, e_X12_byteOf_34, e_X12_byteOf_36, e_X12_byteOf_39, e_X12_byteOf_40, e_X12_byteOf_43, e_X12_byteOf_45, e_X12_byteOf_47, e_X12_byteOf_49, e_X12_byteOf_51, e_X12_byteOf_53, e_X12_byteOf_55, e_X12_byteOf_56, e_X12_byteOf_57, e_X12_byteOf_58, e_X12_byteOf_59, e_X12_byteOf_60, e_X12_byteOf_63, e_X12_byteOf_64, h4, h8, h12, h16, if_true, if_false, hz, hs, by4_24]
theorem s_byteOf_1 {a b c e f : Int32} : xm_den d m_X12_byteOf 0 [some (.int a), some (.int b), some (.int c), some (.int e), some (.int f), some (.int 1), none] [] xm_la I J R = some (some (.int (by4 a 16)), xm_la, I, J, R) := by
  have h4 : ((4 : Int32) ≤ 1) = False := eq_false (by decide)
  have h8 : ((8 : Int32) ≤ 1) = False := eq_false (by decide)
  have h12 : ((12 : Int32) ≤ 1) = False := eq_false (by decide)
  have h16 : ((16 : Int32) ≤ 1) = False := eq_false (by decide)
  have hz : (¬ (4 : Int32) = 0) = True := eq_true (by decide)
  have hs : ((24 : Int32) - 8 * (1 % 4)) &&& 31 = 16 := by decide
  simp only [e_X12_byteOf_0, e_X12_byteOf_2, e_X12_byteOf_3, e_X12_byteOf_6, e_X12_byteOf_7, e_X12_byteOf_10, e_X12_byteOf_12, e_X12_byteOf_14, e_X12_byteOf_17, e_X12_byteOf_18, e_X12_byteOf_21, e_X12_byteOf_23, e_X12_byteOf_25, e_X12_byteOf_28, e_X12_byteOf_29, e_X12_byteOf_32, e_X12_byteOf_34, e_X12_byteOf_36, e_X12_byteOf_39, e_X12_byteOf_40, e_X12_byteOf_43, e_X12_byteOf_45, e_X12_byteOf_47, e_X12_byteOf_49, e_X12_byteOf_51, e_X12_byteOf_53, e_X12_byteOf_55, e_X12_byteOf_56, e_X12_byteOf_57, e_X12_byteOf_58, e_X12_byteOf_59, e_X12_byteOf_60, e_X12_byteOf_63, e_X12_byteOf_64, h4, h8, h12, h16, if_true, if_false, hz, hs, by4_16]
theorem s_byteOf_2 {a b c e f : Int32} : xm_den d m_X12_byteOf 0 [some (.int a), some (.int b), some (.int c), some (.int e), some (.int f), some (.int 2), none] [] xm_la I J R = some (some (.int (by4 a 8)), xm_la, I, J, R) := by
  have h4 : ((4 : Int32) ≤ 2) = False := eq_false (by decide)
  have h8 : ((8 : Int32) ≤ 2) = False := eq_false (by decide)
  have h12 : ((12 : Int32) ≤ 2) = False := eq_false (by decide)
  have h16 : ((16 : Int32) ≤ 2) = False := eq_false (by decide)
  have hz : (¬ (4 : Int32) = 0) = True := eq_true (by decide)
  have hs : ((24 : Int32) - 8 * (2 % 4)) &&& 31 = 8 := by decide
  simp only [e_X12_byteOf_0, e_X12_byteOf_2, e_X12_byteOf_3, e_X12_byteOf_6, e_X12_byteOf_7, e_X12_byteOf_10, e_X12_byteOf_12, e_X12_byteOf_14, e_X12_byteOf_17, e_X12_byteOf_18, e_X12_byteOf_21, e_X12_byteOf_23, e_X12_byteOf_25, e_X12_byteOf_28, e_X12_byteOf_29, e_X12_byteOf_32, e_X12_byteOf_34, e_X12_byteOf_36, e_X12_byteOf_39, e_X12_byteOf_40, e_X12_byteOf_43, e_X12_byteOf_45, e_X12_byteOf_47, e_X12_byteOf_49, e_X12_byteOf_51, e_X12_byteOf_53, e_X12_byteOf_55, e_X12_byteOf_56, e_X12_byteOf_57, e_X12_byteOf_58, e_X12_byteOf_59, e_X12_byteOf_60, e_X12_byteOf_63, e_X12_byteOf_64, h4, h8, h12, h16, if_true, if_false, hz, hs, by4_8]
theorem s_byteOf_3 {a b c e f : Int32} : xm_den d m_X12_byteOf 0 [some (.int a), some (.int b), some (.int c), some (.int e), some (.int f), some (.int 3), none] [] xm_la I J R = some (some (.int (by4 a 0)), xm_la, I, J, R) := by
  have h4 : ((4 : Int32) ≤ 3) = False := eq_false (by decide)
  have h8 : ((8 : Int32) ≤ 3) = False := eq_false (by decide)
  have h12 : ((12 : Int32) ≤ 3) = False := eq_false (by decide)
  have h16 : ((16 : Int32) ≤ 3) = False := eq_false (by decide)
  have hz : (¬ (4 : Int32) = 0) = True := eq_true (by decide)
  have hs : ((24 : Int32) - 8 * (3 % 4)) &&& 31 = 0 := by decide
  simp only [e_X12_byteOf_0, e_X12_byteOf_2, e_X12_byteOf_3, e_X12_byteOf_6, e_X12_byteOf_7, e_X12_byteOf_10, e_X12_byteOf_12, e_X12_byteOf_14, e_X12_byteOf_17, e_X12_byteOf_18, e_X12_byteOf_21, e_X12_byteOf_23, e_X12_byteOf_25, e_X12_byteOf_28, e_X12_byteOf_29, e_X12_byteOf_32, e_X12_byteOf_34, e_X12_byteOf_36, e_X12_byteOf_39, e_X12_byteOf_40, e_X12_byteOf_43, e_X12_byteOf_45, e_X12_byteOf_47, e_X12_byteOf_49, e_X12_byteOf_51, e_X12_byteOf_53, e_X12_byteOf_55, e_X12_byteOf_56, e_X12_byteOf_57, e_X12_byteOf_58, e_X12_byteOf_59, e_X12_byteOf_60, e_X12_byteOf_63, e_X12_byteOf_64, h4, h8, h12, h16, if_true, if_false, hz, hs, by4_0]
theorem s_byteOf_4 {a b c e f : Int32} : xm_den d m_X12_byteOf 0 [some (.int a), some (.int b), some (.int c), some (.int e), some (.int f), some (.int 4), none] [] xm_la I J R = some (some (.int (by4 b 24)), xm_la, I, J, R) := by
  have h4 : ((4 : Int32) ≤ 4) = True := eq_true (by decide)
  have h8 : ((8 : Int32) ≤ 4) = False := eq_false (by decide)
  have h12 : ((12 : Int32) ≤ 4) = False := eq_false (by decide)
  have h16 : ((16 : Int32) ≤ 4) = False := eq_false (by decide)
  have hz : (¬ (4 : Int32) = 0) = True := eq_true (by decide)
  have hs : ((24 : Int32) - 8 * (4 % 4)) &&& 31 = 24 := by decide
  simp only [e_X12_byteOf_0, e_X12_byteOf_2, e_X12_byteOf_3, e_X12_byteOf_6, e_X12_byteOf_7, e_X12_byteOf_10, e_X12_byteOf_12, e_X12_byteOf_14, e_X12_byteOf_17, e_X12_byteOf_18, e_X12_byteOf_21, e_X12_byteOf_23, e_X12_byteOf_25, e_X12_byteOf_28, e_X12_byteOf_29, e_X12_byteOf_32, e_X12_byteOf_34, e_X12_byteOf_36, e_X12_byteOf_39, e_X12_byteOf_40, e_X12_byteOf_43, e_X12_byteOf_45, e_X12_byteOf_47, e_X12_byteOf_49, e_X12_byteOf_51, e_X12_byteOf_53, e_X12_byteOf_55, e_X12_byteOf_56, e_X12_byteOf_57, e_X12_byteOf_58, e_X12_byteOf_59, e_X12_byteOf_60, e_X12_byteOf_63, e_X12_byteOf_64, h4, h8, h12, h16, if_true, if_false, hz, hs, by4_24]
theorem s_byteOf_5 {a b c e f : Int32} : xm_den d m_X12_byteOf 0 [some (.int a), some (.int b), some (.int c), some (.int e), some (.int f), some (.int 5), none] [] xm_la I J R = some (some (.int (by4 b 16)), xm_la, I, J, R) := by
  have h4 : ((4 : Int32) ≤ 5) = True := eq_true (by decide)
  have h8 : ((8 : Int32) ≤ 5) = False := eq_false (by decide)
  have h12 : ((12 : Int32) ≤ 5) = False := eq_false (by decide)
  have h16 : ((16 : Int32) ≤ 5) = False := eq_false (by decide)
  have hz : (¬ (4 : Int32) = 0) = True := eq_true (by decide)
  have hs : ((24 : Int32) - 8 * (5 % 4)) &&& 31 = 16 := by decide
  simp only [e_X12_byteOf_0, e_X12_byteOf_2, e_X12_byteOf_3, e_X12_byteOf_6, e_X12_byteOf_7, e_X12_byteOf_10, e_X12_byteOf_12, e_X12_byteOf_14, e_X12_byteOf_17, e_X12_byteOf_18, e_X12_byteOf_21, e_X12_byteOf_23, e_X12_byteOf_25, e_X12_byteOf_28, e_X12_byteOf_29, e_X12_byteOf_32, e_X12_byteOf_34, e_X12_byteOf_36, e_X12_byteOf_39, e_X12_byteOf_40, e_X12_byteOf_43, e_X12_byteOf_45, e_X12_byteOf_47, e_X12_byteOf_49, e_X12_byteOf_51, e_X12_byteOf_53, e_X12_byteOf_55, e_X12_byteOf_56, e_X12_byteOf_57, e_X12_byteOf_58, e_X12_byteOf_59, e_X12_byteOf_60, e_X12_byteOf_63, e_X12_byteOf_64, h4, h8, h12, h16, if_true, if_false, hz, hs, by4_16]
theorem s_byteOf_6 {a b c e f : Int32} : xm_den d m_X12_byteOf 0 [some (.int a), some (.int b), some (.int c), some (.int e), some (.int f), some (.int 6), none] [] xm_la I J R = some (some (.int (by4 b 8)), xm_la, I, J, R) := by
  have h4 : ((4 : Int32) ≤ 6) = True := eq_true (by decide)
  have h8 : ((8 : Int32) ≤ 6) = False := eq_false (by decide)
  have h12 : ((12 : Int32) ≤ 6) = False := eq_false (by decide)
  have h16 : ((16 : Int32) ≤ 6) = False := eq_false (by decide)
  have hz : (¬ (4 : Int32) = 0) = True := eq_true (by decide)
  have hs : ((24 : Int32) - 8 * (6 % 4)) &&& 31 = 8 := by decide
  simp only [e_X12_byteOf_0, e_X12_byteOf_2, e_X12_byteOf_3, e_X12_byteOf_6, e_X12_byteOf_7, e_X12_byteOf_10, e_X12_byteOf_12, e_X12_byteOf_14, e_X12_byteOf_17, e_X12_byteOf_18, e_X12_byteOf_21, e_X12_byteOf_23, e_X12_byteOf_25, e_X12_byteOf_28, e_X12_byteOf_29, e_X12_byteOf_32, e_X12_byteOf_34, e_X12_byteOf_36, e_X12_byteOf_39, e_X12_byteOf_40, e_X12_byteOf_43, e_X12_byteOf_45, e_X12_byteOf_47, e_X12_byteOf_49, e_X12_byteOf_51, e_X12_byteOf_53, e_X12_byteOf_55, e_X12_byteOf_56, e_X12_byteOf_57, e_X12_byteOf_58, e_X12_byteOf_59, e_X12_byteOf_60, e_X12_byteOf_63, e_X12_byteOf_64, h4, h8, h12, h16, if_true, if_false, hz, hs, by4_8]
theorem s_byteOf_7 {a b c e f : Int32} : xm_den d m_X12_byteOf 0 [some (.int a), some (.int b), some (.int c), some (.int e), some (.int f), some (.int 7), none] [] xm_la I J R = some (some (.int (by4 b 0)), xm_la, I, J, R) := by
  have h4 : ((4 : Int32) ≤ 7) = True := eq_true (by decide)
  have h8 : ((8 : Int32) ≤ 7) = False := eq_false (by decide)
  have h12 : ((12 : Int32) ≤ 7) = False := eq_false (by decide)
  have h16 : ((16 : Int32) ≤ 7) = False := eq_false (by decide)
  have hz : (¬ (4 : Int32) = 0) = True := eq_true (by decide)
  have hs : ((24 : Int32) - 8 * (7 % 4)) &&& 31 = 0 := by decide
  simp only [e_X12_byteOf_0, e_X12_byteOf_2, e_X12_byteOf_3, e_X12_byteOf_6, e_X12_byteOf_7, e_X12_byteOf_10, e_X12_byteOf_12, e_X12_byteOf_14, e_X12_byteOf_17, e_X12_byteOf_18, e_X12_byteOf_21, e_X12_byteOf_23, e_X12_byteOf_25, e_X12_byteOf_28, e_X12_byteOf_29, e_X12_byteOf_32, e_X12_byteOf_34, e_X12_byteOf_36, e_X12_byteOf_39, e_X12_byteOf_40, e_X12_byteOf_43, e_X12_byteOf_45, e_X12_byteOf_47, e_X12_byteOf_49, e_X12_byteOf_51, e_X12_byteOf_53, e_X12_byteOf_55, e_X12_byteOf_56, e_X12_byteOf_57, e_X12_byteOf_58, e_X12_byteOf_59, e_X12_byteOf_60, e_X12_byteOf_63, e_X12_byteOf_64, h4, h8, h12, h16, if_true, if_false, hz, hs, by4_0]
theorem s_byteOf_8 {a b c e f : Int32} : xm_den d m_X12_byteOf 0 [some (.int a), some (.int b), some (.int c), some (.int e), some (.int f), some (.int 8), none] [] xm_la I J R = some (some (.int (by4 c 24)), xm_la, I, J, R) := by
  have h4 : ((4 : Int32) ≤ 8) = True := eq_true (by decide)
  have h8 : ((8 : Int32) ≤ 8) = True := eq_true (by decide)
  have h12 : ((12 : Int32) ≤ 8) = False := eq_false (by decide)
  have h16 : ((16 : Int32) ≤ 8) = False := eq_false (by decide)
  have hz : (¬ (4 : Int32) = 0) = True := eq_true (by decide)
  have hs : ((24 : Int32) - 8 * (8 % 4)) &&& 31 = 24 := by decide
  simp only [e_X12_byteOf_0, e_X12_byteOf_2, e_X12_byteOf_3, e_X12_byteOf_6, e_X12_byteOf_7, e_X12_byteOf_10, e_X12_byteOf_12, e_X12_byteOf_14, e_X12_byteOf_17, e_X12_byteOf_18, e_X12_byteOf_21, e_X12_byteOf_23, e_X12_byteOf_25, e_X12_byteOf_28, e_X12_byteOf_29, e_X12_byteOf_32, e_X12_byteOf_34, e_X12_byteOf_36, e_X12_byteOf_39, e_X12_byteOf_40, e_X12_byteOf_43, e_X12_byteOf_45, e_X12_byteOf_47, e_X12_byteOf_49, e_X12_byteOf_51, e_X12_byteOf_53, e_X12_byteOf_55, e_X12_byteOf_56, e_X12_byteOf_57, e_X12_byteOf_58, e_X12_byteOf_59, e_X12_byteOf_60, e_X12_byteOf_63, e_X12_byteOf_64, h4, h8, h12, h16, if_true, if_false, hz, hs, by4_24]
theorem s_byteOf_9 {a b c e f : Int32} : xm_den d m_X12_byteOf 0 [some (.int a), some (.int b), some (.int c), some (.int e), some (.int f), some (.int 9), none] [] xm_la I J R = some (some (.int (by4 c 16)), xm_la, I, J, R) := by
  have h4 : ((4 : Int32) ≤ 9) = True := eq_true (by decide)
  have h8 : ((8 : Int32) ≤ 9) = True := eq_true (by decide)
  have h12 : ((12 : Int32) ≤ 9) = False := eq_false (by decide)
  have h16 : ((16 : Int32) ≤ 9) = False := eq_false (by decide)
  have hz : (¬ (4 : Int32) = 0) = True := eq_true (by decide)
  have hs : ((24 : Int32) - 8 * (9 % 4)) &&& 31 = 16 := by decide
  simp only [e_X12_byteOf_0, e_X12_byteOf_2, e_X12_byteOf_3, e_X12_byteOf_6, e_X12_byteOf_7, e_X12_byteOf_10, e_X12_byteOf_12, e_X12_byteOf_14, e_X12_byteOf_17, e_X12_byteOf_18, e_X12_byteOf_21, e_X12_byteOf_23, e_X12_byteOf_25, e_X12_byteOf_28, e_X12_byteOf_29, e_X12_byteOf_32, e_X12_byteOf_34, e_X12_byteOf_36, e_X12_byteOf_39, e_X12_byteOf_40, e_X12_byteOf_43, e_X12_byteOf_45, e_X12_byteOf_47, e_X12_byteOf_49, e_X12_byteOf_51, e_X12_byteOf_53, e_X12_byteOf_55, e_X12_byteOf_56, e_X12_byteOf_57, e_X12_byteOf_58, e_X12_byteOf_59, e_X12_byteOf_60, e_X12_byteOf_63, e_X12_byteOf_64, h4, h8, h12, h16, if_true, if_false, hz, hs, by4_16]
theorem s_byteOf_10 {a b c e f : Int32} : xm_den d m_X12_byteOf 0 [some (.int a), some (.int b), some (.int c), some (.int e), some (.int f), some (.int 10), none] [] xm_la I J R = some (some (.int (by4 c 8)), xm_la, I, J, R) := by
  have h4 : ((4 : Int32) ≤ 10) = True := eq_true (by decide)
  have h8 : ((8 : Int32) ≤ 10) = True := eq_true (by decide)
  have h12 : ((12 : Int32) ≤ 10) = False := eq_false (by decide)
  have h16 : ((16 : Int32) ≤ 10) = False := eq_false (by decide)
  have hz : (¬ (4 : Int32) = 0) = True := eq_true (by decide)
  have hs : ((24 : Int32) - 8 * (10 % 4)) &&& 31 = 8 := by decide
  simp only [e_X12_byteOf_0, e_X12_byteOf_2, e_X12_byteOf_3, e_X12_byteOf_6, e_X12_byteOf_7, e_X12_byteOf_10, e_X12_byteOf_12, e_X12_byteOf_14, e_X12_byteOf_17, e_X12_byteOf_18, e_X12_byteOf_21, e_X12_byteOf_23, e_X12_byteOf_25, e_X12_byteOf_28, e_X12_byteOf_29, e_X12_byteOf_32, e_X12_byteOf_34, e_X12_byteOf_36, e_X12_byteOf_39, e_X12_byteOf_40, e_X12_byteOf_43, e_X12_byteOf_45, e_X12_byteOf_47, e_X12_byteOf_49, e_X12_byteOf_51, e_X12_byteOf_53, e_X12_byteOf_55, e_X12_byteOf_56, e_X12_byteOf_57, e_X12_byteOf_58, e_X12_byteOf_59, e_X12_byteOf_60, e_X12_byteOf_63, e_X12_byteOf_64, h4, h8, h12, h16, if_true, if_false, hz, hs, by4_8]
theorem s_byteOf_11 {a b c e f : Int32} : xm_den d m_X12_byteOf 0 [some (.int a), some (.int b), some (.int c), some (.int e), some (.int f), some (.int 11), none] [] xm_la I J R = some (some (.int (by4 c 0)), xm_la, I, J, R) := by
  have h4 : ((4 : Int32) ≤ 11) = True := eq_true (by decide)
  have h8 : ((8 : Int32) ≤ 11) = True := eq_true (by decide)
  have h12 : ((12 : Int32) ≤ 11) = False := eq_false (by decide)
  have h16 : ((16 : Int32) ≤ 11) = False := eq_false (by decide)
  have hz : (¬ (4 : Int32) = 0) = True := eq_true (by decide)
  have hs : ((24 : Int32) - 8 * (11 % 4)) &&& 31 = 0 := by decide
  simp only [e_X12_byteOf_0, e_X12_byteOf_2, e_X12_byteOf_3, e_X12_byteOf_6, e_X12_byteOf_7, e_X12_byteOf_10, e_X12_byteOf_12, e_X12_byteOf_14, e_X12_byteOf_17, e_X12_byteOf_18, e_X12_byteOf_21, e_X12_byteOf_23, e_X12_byteOf_25, e_X12_byteOf_28, e_X12_byteOf_29, e_X12_byteOf_32, e_X12_byteOf_34, e_X12_byteOf_36, e_X12_byteOf_39, e_X12_byteOf_40, e_X12_byteOf_43, e_X12_byteOf_45, e_X12_byteOf_47, e_X12_byteOf_49, e_X12_byteOf_51, e_X12_byteOf_53, e_X12_byteOf_55, e_X12_byteOf_56, e_X12_byteOf_57, e_X12_byteOf_58, e_X12_byteOf_59, e_X12_byteOf_60, e_X12_byteOf_63, e_X12_byteOf_64, h4, h8, h12, h16, if_true, if_false, hz, hs, by4_0]
theorem s_byteOf_12 {a b c e f : Int32} : xm_den d m_X12_byteOf 0 [some (.int a), some (.int b), some (.int c), some (.int e), some (.int f), some (.int 12), none] [] xm_la I J R = some (some (.int (by4 e 24)), xm_la, I, J, R) := by
  have h4 : ((4 : Int32) ≤ 12) = True := eq_true (by decide)
  have h8 : ((8 : Int32) ≤ 12) = True := eq_true (by decide)
  have h12 : ((12 : Int32) ≤ 12) = True := eq_true (by decide)
  have h16 : ((16 : Int32) ≤ 12) = False := eq_false (by decide)
  have hz : (¬ (4 : Int32) = 0) = True := eq_true (by decide)
  have hs : ((24 : Int32) - 8 * (12 % 4)) &&& 31 = 24 := by decide
  simp only [e_X12_byteOf_0, e_X12_byteOf_2, e_X12_byteOf_3, e_X12_byteOf_6, e_X12_byteOf_7, e_X12_byteOf_10, e_X12_byteOf_12, e_X12_byteOf_14, e_X12_byteOf_17, e_X12_byteOf_18, e_X12_byteOf_21, e_X12_byteOf_23, e_X12_byteOf_25, e_X12_byteOf_28, e_X12_byteOf_29, e_X12_byteOf_32, e_X12_byteOf_34, e_X12_byteOf_36, e_X12_byteOf_39, e_X12_byteOf_40, e_X12_byteOf_43, e_X12_byteOf_45, e_X12_byteOf_47, e_X12_byteOf_49, e_X12_byteOf_51, e_X12_byteOf_53, e_X12_byteOf_55, e_X12_byteOf_56, e_X12_byteOf_57, e_X12_byteOf_58, e_X12_byteOf_59, e_X12_byteOf_60, e_X12_byteOf_63, e_X12_byteOf_64, h4, h8, h12, h16, if_true, if_false, hz, hs, by4_24]
theorem s_byteOf_13 {a b c e f : Int32} : xm_den d m_X12_byteOf 0 [some (.int a), some (.int b), some (.int c), some (.int e), some (.int f), some (.int 13), none] [] xm_la I J R = some (some (.int (by4 e 16)), xm_la, I, J, R) := by
  have h4 : ((4 : Int32) ≤ 13) = True := eq_true (by decide)
  have h8 : ((8 : Int32) ≤ 13) = True := eq_true (by decide)
  have h12 : ((12 : Int32) ≤ 13) = True := eq_true (by decide)
  have h16 : ((16 : Int32) ≤ 13) = False := eq_false (by decide)
  have hz : (¬ (4 : Int32) = 0) = True := eq_true (by decide)
  have hs : ((24 : Int32) - 8 * (13 % 4)) &&& 31 = 16 := by decide
  simp only [e_X12_byteOf_0, e_X12_byteOf_2, e_X12_byteOf_3, e_X12_byteOf_6, e_X12_byteOf_7, e_X12_byteOf_10, e_X12_byteOf_12, e_X12_byteOf_14, e_X12_byteOf_17, e_X12_byteOf_18, e_X12_byteOf_21, e_X12_byteOf_23, e_X12_byteOf_25, e_X12_byteOf_28, e_X12_byteOf_29, e_X12_byteOf_32, e_X12_byteOf_34, e_X12_byteOf_36, e_X12_byteOf_39, e_X12_byteOf_40, e_X12_byteOf_43, e_X12_byteOf_45, e_X12_byteOf_47, e_X12_byteOf_49, e_X12_byteOf_51, e_X12_byteOf_53, e_X12_byteOf_55, e_X12_byteOf_56, e_X12_byteOf_57, e_X12_byteOf_58, e_X12_byteOf_59, e_X12_byteOf_60, e_X12_byteOf_63, e_X12_byteOf_64, h4, h8, h12, h16, if_true, if_false, hz, hs, by4_16]
theorem s_byteOf_14 {a b c e f : Int32} : xm_den d m_X12_byteOf 0 [some (.int a), some (.int b), some (.int c), some (.int e), some (.int f), some (.int 14), none] [] xm_la I J R = some (some (.int (by4 e 8)), xm_la, I, J, R) := by
  have h4 : ((4 : Int32) ≤ 14) = True := eq_true (by decide)
  have h8 : ((8 : Int32) ≤ 14) = True := eq_true (by decide)
  have h12 : ((12 : Int32) ≤ 14) = True := eq_true (by decide)
  have h16 : ((16 : Int32) ≤ 14) = False := eq_false (by decide)
  have hz : (¬ (4 : Int32) = 0) = True := eq_true (by decide)
  have hs : ((24 : Int32) - 8 * (14 % 4)) &&& 31 = 8 := by decide
  simp only [e_X12_byteOf_0, e_X12_byteOf_2, e_X12_byteOf_3, e_X12_byteOf_6, e_X12_byteOf_7, e_X12_byteOf_10, e_X12_byteOf_12, e_X12_byteOf_14, e_X12_byteOf_17, e_X12_byteOf_18, e_X12_byteOf_21, e_X12_byteOf_23, e_X12_byteOf_25, e_X12_byteOf_28, e_X12_byteOf_29, e_X12_byteOf_32, e_X12_byteOf_34, e_X12_byteOf_36, e_X12_byteOf_39, e_X12_byteOf_40, e_X12_byteOf_43, e_X12_byteOf_45, e_X12_byteOf_47, e_X12_byteOf_49, e_X12_byteOf_51, e_X12_byteOf_53, e_X12_byteOf_55, e_X12_byteOf_56, e_X12_byteOf_57, e_X12_byteOf_58, e_X12_byteOf_59, e_X12_byteOf_60, e_X12_byteOf_63, e_X12_byteOf_64, h4, h8, h12, h16, if_true, if_false, hz, hs, by4_8]
theorem s_byteOf_15 {a b c e f : Int32} : xm_den d m_X12_byteOf 0 [some (.int a), some (.int b), some (.int c), some (.int e), some (.int f), some (.int 15), none] [] xm_la I J R = some (some (.int (by4 e 0)), xm_la, I, J, R) := by
  have h4 : ((4 : Int32) ≤ 15) = True := eq_true (by decide)
  have h8 : ((8 : Int32) ≤ 15) = True := eq_true (by decide)
  have h12 : ((12 : Int32) ≤ 15) = True := eq_true (by decide)
  have h16 : ((16 : Int32) ≤ 15) = False := eq_false (by decide)
  have hz : (¬ (4 : Int32) = 0) = True := eq_true (by decide)
  have hs : ((24 : Int32) - 8 * (15 % 4)) &&& 31 = 0 := by decide
  simp only [e_X12_byteOf_0, e_X12_byteOf_2, e_X12_byteOf_3, e_X12_byteOf_6, e_X12_byteOf_7, e_X12_byteOf_10, e_X12_byteOf_12, e_X12_byteOf_14, e_X12_byteOf_17, e_X12_byteOf_18, e_X12_byteOf_21, e_X12_byteOf_23, e_X12_byteOf_25, e_X12_byteOf_28, e_X12_byteOf_29, e_X12_byteOf_32, e_X12_byteOf_34, e_X12_byteOf_36, e_X12_byteOf_39, e_X12_byteOf_40, e_X12_byteOf_43, e_X12_byteOf_45, e_X12_byteOf_47, e_X12_byteOf_49, e_X12_byteOf_51, e_X12_byteOf_53, e_X12_byteOf_55, e_X12_byteOf_56, e_X12_byteOf_57, e_X12_byteOf_58, e_X12_byteOf_59, e_X12_byteOf_60, e_X12_byteOf_63, e_X12_byteOf_64, h4, h8, h12, h16, if_true, if_false, hz, hs, by4_0]
theorem s_byteOf_16 {a b c e f : Int32} : xm_den d m_X12_byteOf 0 [some (.int a), some (.int b), some (.int c), some (.int e), some (.int f), some (.int 16), none] [] xm_la I J R = some (some (.int (by4 f 24)), xm_la, I, J, R) := by
  have h4 : ((4 : Int32) ≤ 16) = True := eq_true (by decide)
  have h8 : ((8 : Int32) ≤ 16) = True := eq_true (by decide)
  have h12 : ((12 : Int32) ≤ 16) = True := eq_true (by decide)
  have h16 : ((16 : Int32) ≤ 16) = True := eq_true (by decide)
  have hz : (¬ (4 : Int32) = 0) = True := eq_true (by decide)
  have hs : ((24 : Int32) - 8 * (16 % 4)) &&& 31 = 24 := by decide
  simp only [e_X12_byteOf_0, e_X12_byteOf_2, e_X12_byteOf_3, e_X12_byteOf_6, e_X12_byteOf_7, e_X12_byteOf_10, e_X12_byteOf_12, e_X12_byteOf_14, e_X12_byteOf_17, e_X12_byteOf_18, e_X12_byteOf_21, e_X12_byteOf_23, e_X12_byteOf_25, e_X12_byteOf_28, e_X12_byteOf_29, e_X12_byteOf_32, e_X12_byteOf_34, e_X12_byteOf_36, e_X12_byteOf_39, e_X12_byteOf_40, e_X12_byteOf_43, e_X12_byteOf_45, e_X12_byteOf_47, e_X12_byteOf_49, e_X12_byteOf_51, e_X12_byteOf_53, e_X12_byteOf_55, e_X12_byteOf_56, e_X12_byteOf_57, e_X12_byteOf_58, e_X12_byteOf_59, e_X12_byteOf_60, e_X12_byteOf_63, e_X12_byteOf_64, h4, h8, h12, h16, if_true, if_false, hz, hs, by4_24]
theorem s_byteOf_17 {a b c e f : Int32} : xm_den d m_X12_byteOf 0 [some (.int a), some (.int b), some (.int c), some (.int e), some (.int f), some (.int 17), none] [] xm_la I J R = some (some (.int (by4 f 16)), xm_la, I, J, R) := by
  have h4 : ((4 : Int32) ≤ 17) = True := eq_true (by decide)
  have h8 : ((8 : Int32) ≤ 17) = True := eq_true (by decide)
  have h12 : ((12 : Int32) ≤ 17) = True := eq_true (by decide)
  have h16 : ((16 : Int32) ≤ 17) = True := eq_true (by decide)
  have hz : (¬ (4 : Int32) = 0) = True := eq_true (by decide)
  have hs : ((24 : Int32) - 8 * (17 % 4)) &&& 31 = 16 := by decide
  simp only [e_X12_byteOf_0, e_X12_byteOf_2, e_X12_byteOf_3, e_X12_byteOf_6, e_X12_byteOf_7, e_X12_byteOf_10, e_X12_byteOf_12, e_X12_byteOf_14, e_X12_byteOf_17, e_X12_byteOf_18, e_X12_byteOf_21, e_X12_byteOf_23, e_X12_byteOf_25, e_X12_byteOf_28, e_X12_byteOf_29, e_X12_byteOf_32, e_X12_byteOf_34, e_X12_byteOf_36, e_X12_byteOf_39, e_X12_byteOf_40, e_X12_byteOf_43, e_X12_byteOf_45, e_X12_byteOf_47, e_X12_byteOf_49, e_X12_byteOf_51, e_X12_byteOf_53, e_X12_byteOf_55, e_X12_byteOf_56, e_X12_byteOf_57, e_X12_byteOf_58, e_X12_byteOf_59, e_X12_byteOf_60, e_X12_byteOf_63, e_X12_byteOf_64, h4, h8, h12, h16, if_true, if_false, hz, hs, by4_16]
theorem s_byteOf_18 {a b c e f : Int32} : xm_den d m_X12_byteOf 0 [some (.int a), some (.int b), some (.int c), some (.int e), some (.int f), some (.int 18), none] [] xm_la I J R = some (some (.int (by4 f 8)), xm_la, I, J, R) := by
  have h4 : ((4 : Int32) ≤ 18) = True := eq_true (by decide)
  have h8 : ((8 : Int32) ≤ 18) = True := eq_true (by decide)
  have h12 : ((12 : Int32) ≤ 18) = True := eq_true (by decide)
  have h16 : ((16 : Int32) ≤ 18) = True := eq_true (by decide)
  have hz : (¬ (4 : Int32) = 0) = True := eq_true (by decide)
  have hs : ((24 : Int32) - 8 * (18 % 4)) &&& 31 = 8 := by decide
  simp only [e_X12_byteOf_0, e_X12_byteOf_2, e_X12_byteOf_3, e_X12_byteOf_6, e_X12_byteOf_7, e_X12_byteOf_10, e_X12_byteOf_12, e_X12_byteOf_14, e_X12_byteOf_17, e_X12_byteOf_18, e_X12_byteOf_21, e_X12_byteOf_23, e_X12_byteOf_25, e_X12_byteOf_28, e_X12_byteOf_29, e_X12_byteOf_32, e_X12_byteOf_34, e_X12_byteOf_36, e_X12_byteOf_39, e_X12_byteOf_40, e_X12_byteOf_43, e_X12_byteOf_45, e_X12_byteOf_47, e_X12_byteOf_49, e_X12_byteOf_51, e_X12_byteOf_53, e_X12_byteOf_55, e_X12_byteOf_56, e_X12_byteOf_57, e_X12_byteOf_58, e_X12_byteOf_59, e_X12_byteOf_60, e_X12_byteOf_63, e_X12_byteOf_64, h4, h8, h12, h16, if_true, if_false, hz, hs, by4_8]
theorem s_byteOf_19 {a b c e f : Int32} : xm_den d m_X12_byteOf 0 [some (.int a), some (.int b), some (.int c), some (.int e), some (.int f), some (.int 19), none] [] xm_la I J R = some (some (.int (by4 f 0)), xm_la, I, J, R) := by
  have h4 : ((4 : Int32) ≤ 19) = True := eq_true (by decide)
  have h8 : ((8 : Int32) ≤ 19) = True := eq_true (by decide)
  have h12 : ((12 : Int32) ≤ 19) = True := eq_true (by decide)
  have h16 : ((16 : Int32) ≤ 19) = True := eq_true (by decide)
  have hz : (¬ (4 : Int32) = 0) = True := eq_true (by decide)
  have hs : ((24 : Int32) - 8 * (19 % 4)) &&& 31 = 0 := by decide
  simp only [e_X12_byteOf_0, e_X12_byteOf_2, e_X12_byteOf_3, e_X12_byteOf_6, e_X12_byteOf_7, e_X12_byteOf_10, e_X12_byteOf_12, e_X12_byteOf_14, e_X12_byteOf_17, e_X12_byteOf_18, e_X12_byteOf_21, e_X12_byteOf_23, e_X12_byteOf_25, e_X12_byteOf_28, e_X12_byteOf_29, e_X12_byteOf_32, e_X12_byteOf_34, e_X12_byteOf_36, e_X12_byteOf_39, e_X12_byteOf_40, e_X12_byteOf_43, e_X12_byteOf_45, e_X12_byteOf_47, e_X12_byteOf_49, e_X12_byteOf_51, e_X12_byteOf_53, e_X12_byteOf_55, e_X12_byteOf_56, e_X12_byteOf_57, e_X12_byteOf_58, e_X12_byteOf_59, e_X12_byteOf_60, e_X12_byteOf_63, e_X12_byteOf_64, h4, h8, h12, h16, if_true, if_false, hz, hs, by4_0]
theorem s_feedR1 {a b c e f n k k' y : Int32} {a8 : Option Value} (hk : ¬ (20 : Int32) ≤ k) (hk' : k + 1 = k') (hb : xm_den d m_X12_byteOf 0 [some (.int a), some (.int b), some (.int c), some (.int e), some (.int f), some (.int k), none] [] xm_la I J R = some (some (.int y), xm_la, I, J, R)) :
    xm_den (d + 1) m_X12_feed 6 [some (.ref (49 : Nat)), some (.int a), some (.int b), some (.int c), some (.int e), some (.int f), some (.int n), some (.int k), a8] [] xm_la I J R = xm_den (d + 1) m_X12_feed 6 [some (.ref (49 : Nat)), some (.int a), some (.int b), some (.int c), some (.int e), some (.int f), some (.int (n + nI (nz y).length)), some (.int k'), a8] [] xm_la I J R := by
  subst hk'
  unfold nz
  by_cases h : y = 0
  · conv => lhs; simp only [e_X12_feed_6, e_X12_feed_8, e_X12_feed_10, e_X12_feed_13, e_X12_feed_15, e_X12_feed_16, e_X12_feed_17, e_X12_feed_18, e_X12_feed_20, e_X12_feed_22, e_X12_feed_24, e_X12_feed_27, e_X12_feed_30, e_X12_feed_31, e_X12_feed_34, e_X12_feed_35, e_X12_feed_36, e_X12_feed_38, dn_bd, dn_tl, dn_tn, Option.toList_some, Option.toList_none, List.cons_append, List.nil_append, rf_some, sm_i, sm_r, sm_n, sm_l, sm_0, z01_0, z01_1, and_self, if_true, if_false, ka_x, true_or, or_true, hk, hb, h]
    rw [e_X12_feed_41, if_pos h]; rfl
  · conv => lhs; simp only [e_X12_feed_6, e_X12_feed_8, e_X12_feed_10, e_X12_feed_13, e_X12_feed_15, e_X12_feed_16, e_X12_feed_17, e_X12_feed_18, e_X12_feed_20, e_X12_feed_22, e_X12_feed_24, e_X12_feed_27, e_X12_feed_30, e_X12_feed_31, e_X12_feed_34, e_X12_feed_35, e_X12_feed_36, e_X12_feed_38, dn_bd, dn_tl, dn_tn, Option.toList_some, Option.toList_none, List.cons_append, List.nil_append, rf_some, sm_i, sm_r, sm_n, sm_l, sm_0, z01_0, z01_1, and_self, if_true, if_false, ka_x, true_or, or_true, hk, hb, h]
    rw [e_X12_feed_41, if_neg h]; rfl
theorem s_feedR2 {tp : List Int32} {a b c e f n k k' y : Int32} {a8 : Option Value} (hR : xm_HR R) (h : tpr I 49 2 50 tp) (hl : tp.length + (nz y).length ≤ 160) (hk : ¬ (20 : Int32) ≤ k) (hk' : k + 1 = k') (hb : xm_den d m_X12_byteOf 0 [some (.int a), some (.int b), some (.int c), some (.int e), some (.int f), some (.int k), none] [] xm_la I J R = some (some (.int y), xm_la, I, J, R)) :
    ∃ I' b8, xm_den (d + 1) m_X12_feed 62 [some (.ref (49 : Nat)), some (.int a), some (.int b), some (.int c), some (.int e), some (.int f), some (.int n), some (.int k), a8] [] xm_la I J R = xm_den (d + 1) m_X12_feed 62 [some (.ref (49 : Nat)), some (.int a), some (.int b), some (.int c), some (.int e), some (.int f), some (.int n), some (.int k'), b8] [] xm_la I' J R ∧ tpr I' 49 2 50 (tp ++ nz y) ∧ fr [49, 50] I I' ∧ ∀ k, ¬ k = 2 → I' 49 k = I 49 k := by
  subst hk'
  unfold nz at hl ⊢
  by_cases hy : y = 0
  · refine ⟨I, some (.int y), ?_, by rw [if_pos hy, List.append_nil]; exact h, fr_refl, fun _ _ => rfl⟩
    conv => lhs; simp only [e_X12_feed_62, e_X12_feed_64, e_X12_feed_66, e_X12_feed_69, e_X12_feed_70, e_X12_feed_71, e_X12_feed_72, e_X12_feed_74, e_X12_feed_76, e_X12_feed_78, e_X12_feed_81, e_X12_feed_83, e_X12_feed_85, e_X12_feed_88, e_X12_feed_89, e_X12_feed_92, e_X12_feed_93, e_X12_feed_96, e_X12_feed_98, e_X12_feed_99, e_X12_feed_100, e_X12_feed_101, e_X12_feed_104, e_X12_feed_105, e_X12_feed_106, e_X12_feed_109, dn_bd, dn_tl, dn_tn, Option.toList_some, Option.toList_none, List.cons_append, List.nil_append, rf_some, sm_i, sm_r, sm_n, sm_l, sm_0, z01_0, z01_1, and_self, if_true, if_false, ka_x, true_or, or_true, hk, hb, hy]
    rw [e_X12_feed_112, hy]
  · rw [if_neg hy] at hl ⊢
    have hlt : tp.length < 160 := by simp at hl; omega
    refine ⟨_, some (.int y), ?_, tpr_push (v := y) h hlt (by decide), fr_trans (fr_up (by decide)) (fr_up (by decide)), fun k hk => by rw [up_k hk, up_o (by decide)]⟩
    have h1 := h.1
    have hv : vp_in (nI tp.length) 160 := vp_in_nI hlt (by omega)
    have hc : (nI tp.length).toNatClampNeg = tp.length := nI_clamp (by omega)
    have hne : (¬ (49 : Nat) = 50) = True := eq_true (by decide)
    conv => lhs; simp only [e_X12_feed_62, e_X12_feed_64, e_X12_feed_66, e_X12_feed_69, e_X12_feed_70, e_X12_feed_71, e_X12_feed_72, e_X12_feed_74, e_X12_feed_76, e_X12_feed_78, e_X12_feed_81, e_X12_feed_83, e_X12_feed_85, e_X12_feed_88, e_X12_feed_89, e_X12_feed_92, e_X12_feed_93, e_X12_feed_96, e_X12_feed_98, e_X12_feed_99, e_X12_feed_100, e_X12_feed_101, e_X12_feed_104, e_X12_feed_105, e_X12_feed_106, e_X12_feed_109, dn_bd, dn_tl, dn_tn, Option.toList_some, Option.toList_none, List.cons_append, List.nil_append, rf_some, sm_i, sm_r, sm_n, sm_l, sm_0, z01_0, z01_1, and_self, if_true, if_false, ka_x, true_or, or_true, ly_49, ly_50, kd_50, sz_50, ka_50, hr_49_1 hR, hk, hb, hy, h1, hv, hc, up_o (show ¬ (49 : Nat) = 50 by decide), nI_1]
    rw [e_X12_feed_112]
theorem s_feedR {tp : List Int32} {a b c e f : Int32} (hR : xm_HR R) (h : tpr I 49 2 50 tp) : ∃ I', xm_den (d + 1) m_X12_feed 0 [some (.ref (49 : Nat)), some (.int a), some (.int b), some (.int c), some (.int e), some (.int f), none, none, none] [] xm_la I J R = some (some (.int (if tp.length + (fd5 a b c e f).length ≤ 160 then nI (tp.length + (fd5 a b c e f).length) else -1)), xm_la, I', J, R) ∧ tpr I' 49 2 50 (if tp.length + (fd5 a b c e f).length ≤ 160 then tp ++ fd5 a b c e f else tp) ∧ fr [49, 50] I I' ∧ ∀ k, ¬ k = 2 → I' 49 k = I 49 k := by
  have hlen := @fd5_len a b c e f
  have hp := h.2.1
  have hI1 := h.1
  have hsum : (0 : Int32) + nI (nz (by4 a 24)).length + nI (nz (by4 a 16)).length + nI (nz (by4 a 8)).length + nI (nz (by4 a 0)).length + nI (nz (by4 b 24)).length + nI (nz (by4 b 16)).length + nI (nz (by4 b 8)).length + nI (nz (by4 b 0)).length + nI (nz (by4 c 24)).length + nI (nz (by4 c 16)).length + nI (nz (by4 c 8)).length + nI (nz (by4 c 0)).length + nI (nz (by4 e 24)).length + nI (nz (by4 e 16)).length + nI (nz (by4 e 8)).length + nI (nz (by4 e 0)).length + nI (nz (by4 f 24)).length + nI (nz (by4 f 16)).length + nI (nz (by4 f 8)).length + nI (nz (by4 f 0)).length = nI (fd5 a b c e f).length := by
    unfold fd5 bts
    rw [show (0 : Int32) = nI 0 from rfl]
    simp only [List.length_append, nI_add, Nat.add_assoc, Nat.zero_add]
  have h44 : xm_den (d + 1) m_X12_feed 0 [some (.ref (49 : Nat)), some (.int a), some (.int b), some (.int c), some (.int e), some (.int f), none, none, none] [] xm_la I J R = xm_den (d + 1) m_X12_feed 44 [some (.ref (49 : Nat)), some (.int a), some (.int b), some (.int c), some (.int e), some (.int f), some (.int (nI (fd5 a b c e f).length)), some (.int 20), none] [] xm_la I J R := by
    simp only [e_X12_feed_0, e_X12_feed_1, e_X12_feed_3, e_X12_feed_4]
    rw [s_feedR1 (k := 0) (k' := 1) (by decide) (by decide) s_byteOf_0, s_feedR1 (k := 1) (k' := 2) (by decide) (by decide) s_byteOf_1, s_feedR1 (k := 2) (k' := 3) (by decide) (by decide) s_byteOf_2, s_feedR1 (k := 3) (k' := 4) (by decide) (by decide) s_byteOf_3, s_feedR1 (k := 4) (k' := 5) (by decide) (by decide) s_byteOf_4, s_feedR1 (k := 5) (k' := 6) (by decide) (by decide) s_byteOf_5, s_feedR1 (k := 6) (k' := 7) (by decide) (by decide) s_byteOf_6, s_feedR1 (k := 7) (k' := 8) (by decide) (by decide) s_byteOf_7, s_feedR1 (k := 8) (k' := 9) (by decide) (by decide) s_byteOf_8, s_feedR1 (k := 9) (k' := 10) (by decide) (by decide) s_byteOf_9, s_feedR1 (k := 10) (k' := 11) (by decide) (by decide) s_byteOf_10, s_feedR1 (k := 11) (k' := 12) (by decide) (by decide) s_byteOf_11, s_feedR1 (k := 12) (k' := 13) (by decide) (by decide) s_byteOf_12, s_feedR1 (k := 13) (k' := 14) (by decide) (by decide) s_byteOf_13, s_feedR1 (k := 14) (k' := 15) (by decide) (by decide) s_byteOf_14, s_feedR1 (k := 15) (k' := 16) (by decide) (by decide) s_byteOf_15, s_feedR1 (k := 16) (k' := 17) (by decide) (by decide) s_byteOf_16, s_feedR1 (k := 17) (k' := 18) (by decide) (by decide) s_byteOf_17, s_feedR1 (k := 18) (k' := 19) (by decide) (by decide) s_byteOf_18, s_feedR1 (k := 19) (k' := 20) (by decide) (by decide) s_byteOf_19]
    rw [hsum]
    have h20 : ((20 : Int32) ≤ 20) = True := eq_true (by decide)
    simp only [e_X12_feed_6, e_X12_feed_8, e_X12_feed_10, h20, if_true]
  rw [h44]
  by_cases hc : tp.length + (fd5 a b c e f).length ≤ 160
  · have c1 : (nI (tp.length + (fd5 a b c e f).length) ≤ 160) = True := by
      rw [show (160 : Int32) = nI 160 from rfl, i32_le (by omega) (by omega)]; simp [hc]
    rw [if_pos hc, if_pos hc]
    have hc' := hc
    unfold fd5 bts at hc'
    simp only [List.length_append] at hc'
    obtain ⟨I1, b1, g1, t1, f1, k1⟩ := s_feedR2 (d := d) (J := J) (a := a) (b := b) (c := c) (e := e) (f := f) (n := nI (fd5 a b c e f).length) (k := 0) (k' := 1) (y := by4 a 24) (a8 := none) hR h (by (try simp only [List.length_append]); omega) (by decide) (by decide) s_byteOf_0
    obtain ⟨I2, b2, g2, t2, f2, k2⟩ := s_feedR2 (d := d) (J := J) (a := a) (b := b) (c := c) (e := e) (f := f) (n := nI (fd5 a b c e f).length) (k := 1) (k' := 2) (y := by4 a 16) (a8 := b1) hR t1 (by (try simp only [List.length_append]); omega) (by decide) (by decide) s_byteOf_1
    obtain ⟨I3, b3, g3, t3, f3, k3⟩ := s_feedR2 (d := d) (J := J) (a := a) (b := b) (c := c) (e := e) (f := f) (n := nI (fd5 a b c e f).length) (k := 2) (k' := 3) (y := by4 a 8) (a8 := b2) hR t2 (by (try simp only [List.length_append]); omega) (by decide) (by decide) s_byteOf_2
    obtain ⟨I4, b4, g4, t4, f4, k4⟩ := s_feedR2 (d := d) (J := J) (a := a) (b := b) (c := c) (e := e) (f := f) (n := nI (fd5 a b c e f).length) (k := 3) (k' := 4) (y := by4 a 0) (a8 := b3) hR t3 (by (try simp only [List.length_append]); omega) (by decide) (by decide) s_byteOf_3
    obtain ⟨I5, b5, g5, t5, f5, k5⟩ := s_feedR2 (d := d) (J := J) (a := a) (b := b) (c := c) (e := e) (f := f) (n := nI (fd5 a b c e f).length) (k := 4) (k' := 5) (y := by4 b 24) (a8 := b4) hR t4 (by (try simp only [List.length_append]); omega) (by decide) (by decide) s_byteOf_4
    obtain ⟨I6, b6, g6, t6, f6, k6⟩ := s_feedR2 (d := d) (J := J) (a := a) (b := b) (c := c) (e := e) (f := f) (n := nI (fd5 a b c e f).length) (k := 5) (k' := 6) (y := by4 b 16) (a8 := b5) hR t5 (by (try simp only [List.length_append]); omega) (by decide) (by decide) s_byteOf_5
    obtain ⟨I7, b7, g7, t7, f7, k7⟩ := s_feedR2 (d := d) (J := J) (a := a) (b := b) (c := c) (e := e) (f := f) (n := nI (fd5 a b c e f).length) (k := 6) (k' := 7) (y := by4 b 8) (a8 := b6) hR t6 (by (try simp only [List.length_append]); omega) (by decide) (by decide) s_byteOf_6
    obtain ⟨I8, b8, g8, t8, f8, k8⟩ := s_feedR2 (d := d) (J := J) (a := a) (b := b) (c := c) (e := e) (f := f) (n := nI (fd5 a b c e f).length) (k := 7) (k' := 8) (y := by4 b 0) (a8 := b7) hR t7 (by (try simp only [List.length_append]); omega) (by decide) (by decide) s_byteOf_7
    obtain ⟨I9, b9, g9, t9, f9, k9⟩ := s_feedR2 (d := d) (J := J) (a := a) (b := b) (c := c) (e := e) (f := f) (n := nI (fd5 a b c e f).length) (k := 8) (k' := 9) (y := by4 c 24) (a8 := b8) hR t8 (by (try simp only [List.length_append]); omega) (by decide) (by decide) s_byteOf_8
    obtain ⟨I10, b10, g10, t10, f10, k10⟩ := s_feedR2 (d := d) (J := J) (a := a) (b := b) (c := c) (e := e) (f := f) (n := nI (fd5 a b c e f).length) (k := 9) (k' := 10) (y := by4 c 16) (a8 := b9) hR t9 (by (try simp only [List.length_append]); omega) (by decide) (by decide) s_byteOf_9
    obtain ⟨I11, b11, g11, t11, f11, k11⟩ := s_feedR2 (d := d) (J := J) (a := a) (b := b) (c := c) (e := e) (f := f) (n := nI (fd5 a b c e f).length) (k := 10) (k' := 11) (y := by4 c 8) (a8 := b10) hR t10 (by (try simp only [List.length_append]); omega) (by decide) (by decide) s_byteOf_10
    obtain ⟨I12, b12, g12, t12, f12, k12⟩ := s_feedR2 (d := d) (J := J) (a := a) (b := b) (c := c) (e := e) (f := f) (n := nI (fd5 a b c e f).length) (k := 11) (k' := 12) (y := by4 c 0) (a8 := b11) hR t11 (by (try simp only [List.length_append]); omega) (by decide) (by decide) s_byteOf_11
    obtain ⟨I13, b13, g13, t13, f13, k13⟩ := s_feedR2 (d := d) (J := J) (a := a) (b := b) (c := c) (e := e) (f := f) (n := nI (fd5 a b c e f).length) (k := 12) (k' := 13) (y := by4 e 24) (a8 := b12) hR t12 (by (try simp only [List.length_append]); omega) (by decide) (by decide) s_byteOf_12
    obtain ⟨I14, b14, g14, t14, f14, k14⟩ := s_feedR2 (d := d) (J := J) (a := a) (b := b) (c := c) (e := e) (f := f) (n := nI (fd5 a b c e f).length) (k := 13) (k' := 14) (y := by4 e 16) (a8 := b13) hR t13 (by (try simp only [List.length_append]); omega) (by decide) (by decide) s_byteOf_13
    obtain ⟨I15, b15, g15, t15, f15, k15⟩ := s_feedR2 (d := d) (J := J) (a := a) (b := b) (c := c) (e := e) (f := f) (n := nI (fd5 a b c e f).length) (k := 14) (k' := 15) (y := by4 e 8) (a8 := b14) hR t14 (by (try simp only [List.length_append]); omega) (by decide) (by decide) s_byteOf_14
    obtain ⟨I16, b16, g16, t16, f16, k16⟩ := s_feedR2 (d := d) (J := J) (a := a) (b := b) (c := c) (e := e) (f := f) (n := nI (fd5 a b c e f).length) (k := 15) (k' := 16) (y := by4 e 0) (a8 := b15) hR t15 (by (try simp only [List.length_append]); omega) (by decide) (by decide) s_byteOf_15
    obtain ⟨I17, b17, g17, t17, f17, k17⟩ := s_feedR2 (d := d) (J := J) (a := a) (b := b) (c := c) (e := e) (f := f) (n := nI (fd5 a b c e f).length) (k := 16) (k' := 17) (y := by4 f 24) (a8 := b16) hR t16 (by (try simp only [List.length_append]); omega) (by decide) (by decide) s_byteOf_16
    obtain ⟨I18, b18, g18, t18, f18, k18⟩ := s_feedR2 (d := d) (J := J) (a := a) (b := b) (c := c) (e := e) (f := f) (n := nI (fd5 a b c e f).length) (k := 17) (k' := 18) (y := by4 f 16) (a8 := b17) hR t17 (by (try simp only [List.length_append]); omega) (by decide) (by decide) s_byteOf_17
    obtain ⟨I19, b19, g19, t19, f19, k19⟩ := s_feedR2 (d := d) (J := J) (a := a) (b := b) (c := c) (e := e) (f := f) (n := nI (fd5 a b c e f).length) (k := 18) (k' := 19) (y := by4 f 8) (a8 := b18) hR t18 (by (try simp only [List.length_append]); omega) (by decide) (by decide) s_byteOf_18
    obtain ⟨I20, b20, g20, t20, f20, k20⟩ := s_feedR2 (d := d) (J := J) (a := a) (b := b) (c := c) (e := e) (f := f) (n := nI (fd5 a b c e f).length) (k := 19) (k' := 20) (y := by4 f 0) (a8 := b19) hR t19 (by (try simp only [List.length_append]); omega) (by decide) (by decide) s_byteOf_19
    have t20' : tpr I20 49 2 50 (tp ++ fd5 a b c e f) := by unfold fd5 bts; simpa only [List.append_assoc] using t20
    refine ⟨I20, ?_, t20', fr_trans f1 (fr_trans f2 (fr_trans f3 (fr_trans f4 (fr_trans f5 (fr_trans f6 (fr_trans f7 (fr_trans f8 (fr_trans f9 (fr_trans f10 (fr_trans f11 (fr_trans f12 (fr_trans f13 (fr_trans f14 (fr_trans f15 (fr_trans f16 (fr_trans f17 (fr_trans f18 (fr_trans f19 (f20))))))))))))))))))), fun j hj => by rw [k20 j hj, k19 j hj, k18 j hj, k17 j hj, k16 j hj, k15 j hj, k14 j hj, k13 j hj, k12 j hj, k11 j hj, k10 j hj, k9 j hj, k8 j hj, k7 j hj, k6 j hj, k5 j hj, k4 j hj, k3 j hj, k2 j hj, k1 j hj]⟩
    have hz := t20'.1
    rw [List.length_append] at hz
    simp only [e_X12_feed_44, e_X12_feed_45, e_X12_feed_48, e_X12_feed_50, e_X12_feed_51, e_X12_feed_54, e_X12_feed_57, e_X12_feed_58, e_X12_feed_59, e_X12_feed_60, dn_bd, dn_tl, dn_tn, Option.toList_some, Option.toList_none, List.cons_append, List.nil_append, rf_some, sm_i, sm_r, sm_n, sm_l, sm_0, z01_0, z01_1, and_self, if_true, if_false, ka_x, true_or, or_true, ly_49, ly_50, kd_50, sz_50, ka_50, hI1, nI_add, c1]
    rw [g1, g2, g3, g4, g5, g6, g7, g8, g9, g10, g11, g12, g13, g14, g15, g16, g17, g18, g19, g20]
    have h20 : ((20 : Int32) ≤ 20) = True := eq_true (by decide)
    simp only [e_X12_feed_62, e_X12_feed_64, e_X12_feed_66, h20, if_true, e_X12_feed_115, e_X12_feed_116, e_X12_feed_119, dn_bd, dn_tl, dn_tn, Option.toList_some, Option.toList_none, List.cons_append, List.nil_append, rf_some, sm_i, sm_r, sm_n, sm_l, sm_0, z01_0, z01_1, and_self, if_true, if_false, ka_x, true_or, or_true, ly_49, hz]
  · have c1 : (nI (tp.length + (fd5 a b c e f).length) ≤ 160) = False := by
      rw [show (160 : Int32) = nI 160 from rfl, i32_le (by omega) (by omega)]; simp [hc]
    rw [if_neg hc, if_neg hc]
    refine ⟨I, ?_, h, fr_refl, fun _ _ => rfl⟩
    simp only [e_X12_feed_44, e_X12_feed_45, e_X12_feed_48, e_X12_feed_50, e_X12_feed_51, e_X12_feed_54, e_X12_feed_57, e_X12_feed_58, dn_bd, dn_tl, dn_tn, Option.toList_some, Option.toList_none, List.cons_append, List.nil_append, rf_some, sm_i, sm_r, sm_n, sm_l, sm_0, z01_0, z01_1, and_self, if_true, if_false, ka_x, true_or, or_true, ly_49, ly_50, kd_50, sz_50, ka_50, hI1, nI_add, c1]
end FEEDR
