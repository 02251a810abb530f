/-! the class's sheet -/
section SHEET
variable {d : Nat} {lay : xm_L} {I : xm_I} {J : xm_J} {R : xm_R} {s : Nat}
def b01 (p : Prop) [h : Decidable p] : Int32 := if p then 1 else 0
theorem b01_or {p : Prop} [h : Decidable p] : (b01 p = 0 ∨ b01 p = 1) = True := by
  unfold b01; by_cases hp : p <;> simp [hp]
theorem b01_e {p : Prop} [h : Decidable p] : (b01 p = 0) = ¬ p := by
  unfold b01; by_cases hp : p <;> simp [hp]
theorem b01_n {p : Prop} [h : Decidable p] : (¬ b01 p = 0) = p := by
  unfold b01; by_cases hp : p <;> simp [hp]
/-- the length of a row -/
def v_len (I : xm_I) (s : Nat) (r : Int32) : Int32 := if 0 ≤ r ∧ r < I s 3 ∧ r < 9 then I (s + 1) r.toNatClampNeg else 0
def v_has (I : xm_I) (s : Nat) (r q : Int32) : Prop := 0 ≤ q ∧ q < v_len I s r
theorem s_isThere (hs : xs_ok lay R s) : xm_den d m_X6_isThere 0 [some (.ref s)] [] lay I J R = some (some (.int (b01 (¬ I s 0 = -1))), lay, I, J, R) := by
  obtain ⟨h1, h2, h3, h4, h5, h6, h7⟩ := hs
  unfold b01
  by_cases h : I s 0 = -1
  · simp only [e_X6_isThere_0, e_X6_isThere_1, e_X6_isThere_4, e_X6_isThere_5, e_X6_isThere_8, e_X6_isThere_9, e_X6_isThere_12, e_X6_isThere_13, dn_bd, dn_tl, dn_tn, Option.toList_some, Option.toList_none, List.cons_append, List.nil_append, rf_some, sm_i, sm_r, sm_n, sm_l, sm_0, z01_0, z01_1, and_self, if_true, if_false, ka_x, true_or, or_true, h1, h, not_true_eq_false]
  · simp only [e_X6_isThere_0, e_X6_isThere_1, e_X6_isThere_4, e_X6_isThere_5, e_X6_isThere_8, e_X6_isThere_9, e_X6_isThere_12, e_X6_isThere_13, dn_bd, dn_tl, dn_tn, Option.toList_some, Option.toList_none, List.cons_append, List.nil_append, rf_some, sm_i, sm_r, sm_n, sm_l, sm_0, z01_0, z01_1, and_self, if_true, if_false, ka_x, true_or, or_true, h1, h, not_false_eq_true]
theorem s_hasRow {r : Int32} (hs : xs_ok lay R s) : xm_den d m_X6_hasRow 0 [some (.ref s), some (.int r)] [] lay I J R = some (some (.int (b01 (0 ≤ r ∧ r < I s 3))), lay, I, J, R) := by
  obtain ⟨h1, h2, h3, h4, h5, h6, h7⟩ := hs
  unfold b01
  by_cases ha : r < 0
  · have hb : ¬ 0 ≤ r := by rw [Int32.not_le]; exact ha
    simp only [e_X6_hasRow_0, e_X6_hasRow_1, e_X6_hasRow_4, e_X6_hasRow_5, e_X6_hasRow_6, e_X6_hasRow_9, e_X6_hasRow_12, e_X6_hasRow_13, e_X6_hasRow_16, e_X6_hasRow_17, dn_bd, dn_tl, dn_tn, Option.toList_some, Option.toList_none, List.cons_append, List.nil_append, rf_some, sm_i, sm_r, sm_n, sm_l, sm_0, z01_0, z01_1, and_self, if_true, if_false, ka_x, true_or, or_true, h1, ha, hb, false_and]
  · have hb : 0 ≤ r := by rw [← Int32.not_lt]; exact ha
    by_cases hc : I s 3 ≤ r
    · have hd : ¬ r < I s 3 := by rw [Int32.not_lt]; exact hc
      simp only [e_X6_hasRow_0, e_X6_hasRow_1, e_X6_hasRow_4, e_X6_hasRow_5, e_X6_hasRow_6, e_X6_hasRow_9, e_X6_hasRow_12, e_X6_hasRow_13, e_X6_hasRow_16, e_X6_hasRow_17, dn_bd, dn_tl, dn_tn, Option.toList_some, Option.toList_none, List.cons_append, List.nil_append, rf_some, sm_i, sm_r, sm_n, sm_l, sm_0, z01_0, z01_1, and_self, if_true, if_false, ka_x, true_or, or_true, h1, ha, hb, hc, hd, true_and]
    · have hd : r < I s 3 := by rw [← Int32.not_le]; exact hc
      simp only [e_X6_hasRow_0, e_X6_hasRow_1, e_X6_hasRow_4, e_X6_hasRow_5, e_X6_hasRow_6, e_X6_hasRow_9, e_X6_hasRow_12, e_X6_hasRow_13, e_X6_hasRow_16, e_X6_hasRow_17, dn_bd, dn_tl, dn_tn, Option.toList_some, Option.toList_none, List.cons_append, List.nil_append, rf_some, sm_i, sm_r, sm_n, sm_l, sm_0, z01_0, z01_1, and_self, if_true, if_false, ka_x, true_or, or_true, h1, ha, hb, hc, hd, true_and]
theorem s_lengthOf {r : Int32} (hs : xs_ok lay R s) : xm_den d m_X6_lengthOf 0 [some (.ref s), some (.int r)] [] lay I J R = some (some (.int (v_len I s r)), lay, I, J, R) := by
  obtain ⟨h1, h2, h3, h4, h5, h6, h7⟩ := hs
  unfold v_len
  by_cases ha : r < 0
  · have hb : ¬ 0 ≤ r := by rw [Int32.not_le]; exact ha
    simp only [e_X6_lengthOf_0, e_X6_lengthOf_1, e_X6_lengthOf_4, e_X6_lengthOf_5, e_X6_lengthOf_6, e_X6_lengthOf_9, e_X6_lengthOf_12, e_X6_lengthOf_13, e_X6_lengthOf_14, e_X6_lengthOf_17, e_X6_lengthOf_18, e_X6_lengthOf_21, e_X6_lengthOf_22, e_X6_lengthOf_25, e_X6_lengthOf_26, e_X6_lengthOf_27, e_X6_lengthOf_30, e_X6_lengthOf_31, dn_bd, dn_tl, dn_tn, Option.toList_some, Option.toList_none, List.cons_append, List.nil_append, rf_some, sm_i, sm_r, sm_n, sm_l, sm_0, z01_0, z01_1, and_self, if_true, if_false, ka_x, true_or, or_true, h1, ha, hb, false_and]
  · have hb : 0 ≤ r := by rw [← Int32.not_lt]; exact ha
    by_cases hc : I s 3 ≤ r
    · have hd : ¬ r < I s 3 := by rw [Int32.not_lt]; exact hc
      simp only [e_X6_lengthOf_0, e_X6_lengthOf_1, e_X6_lengthOf_4, e_X6_lengthOf_5, e_X6_lengthOf_6, e_X6_lengthOf_9, e_X6_lengthOf_12, e_X6_lengthOf_13, e_X6_lengthOf_14, e_X6_lengthOf_17, e_X6_lengthOf_18, e_X6_lengthOf_21, e_X6_lengthOf_22, e_X6_lengthOf_25, e_X6_lengthOf_26, e_X6_lengthOf_27, e_X6_lengthOf_30, e_X6_lengthOf_31, dn_bd, dn_tl, dn_tn, Option.toList_some, Option.toList_none, List.cons_append, List.nil_append, rf_some, sm_i, sm_r, sm_n, sm_l, sm_0, z01_0, z01_1, and_self, if_true, if_false, ka_x, true_or, or_true, h1, ha, hb, hc, hd, true_and, false_and]
    · have hd : r < I s 3 := by rw [← Int32.not_le]; exact hc
      by_cases he : 9 ≤ r
      · have hf : ¬ r < 9 := by rw [Int32.not_lt]; exact he
        have h9 : Int32.ofNat 9 ≤ r := he
        simp only [e_X6_lengthOf_0, e_X6_lengthOf_1, e_X6_lengthOf_4, e_X6_lengthOf_5, e_X6_lengthOf_6, e_X6_lengthOf_9, e_X6_lengthOf_12, e_X6_lengthOf_13, e_X6_lengthOf_14, e_X6_lengthOf_17, e_X6_lengthOf_18, e_X6_lengthOf_21, e_X6_lengthOf_22, e_X6_lengthOf_25, e_X6_lengthOf_26, e_X6_lengthOf_27, e_X6_lengthOf_30, e_X6_lengthOf_31, dn_bd, dn_tl, dn_tn, Option.toList_some, Option.toList_none, List.cons_append, List.nil_append, rf_some, sm_i, sm_r, sm_n, sm_l, sm_0, z01_0, z01_1, and_self, if_true, if_false, ka_x, true_or, or_true, h1, h2, h4, h5, ha, hb, hc, hd, hf, h9, true_and]
      · have hf : r < 9 := by rw [← Int32.not_le]; exact he
        have h9 : ¬ Int32.ofNat 9 ≤ r := he
        have hv : vp_in r 9 := vp_of ha h9 (by omega)
        simp only [e_X6_lengthOf_0, e_X6_lengthOf_1, e_X6_lengthOf_4, e_X6_lengthOf_5, e_X6_lengthOf_6, e_X6_lengthOf_9, e_X6_lengthOf_12, e_X6_lengthOf_13, e_X6_lengthOf_14, e_X6_lengthOf_17, e_X6_lengthOf_18, e_X6_lengthOf_21, e_X6_lengthOf_22, e_X6_lengthOf_25, e_X6_lengthOf_26, e_X6_lengthOf_27, e_X6_lengthOf_30, e_X6_lengthOf_31, dn_bd, dn_tl, dn_tn, Option.toList_some, Option.toList_none, List.cons_append, List.nil_append, rf_some, sm_i, sm_r, sm_n, sm_l, sm_0, z01_0, z01_1, and_self, if_true, if_false, ka_x, true_or, or_true, h1, h2, h4, h5, ha, hb, hc, hd, hf, h9, hv, true_and]
end SHEET
