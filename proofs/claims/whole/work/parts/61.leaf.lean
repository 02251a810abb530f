/-! leaves: the class's own little methods -/
theorem ka_x : ((100 : Nat) ≤ 100 ∧ (100 : Nat) ≤ 102) = True := by simp
section LEAF
variable {d : Nat} {lay : xm_L} {I : xm_I} {J : xm_J} {R : xm_R}
/-- a place of an array of N, 0 beyond -/
def pk (I : xm_I) (o N : Nat) (i : Int32) : Int32 := if i < 0 then 0 else if Int32.ofNat N ≤ i then 0 else I o i.toNatClampNeg
def pt (I : xm_I) (o N : Nat) (i v : Int32) : xm_I := if i < 0 then I else if Int32.ofNat N ≤ i then I else xm_up I o i.toNatClampNeg v
theorem s_pick {o : Nat} {i : Int32} (hl : xm_kd lay o = 100) (hN : xm_sz lay o < 2 ^ 31) : xm_den d m_X11_pick 0 [some (.ref o), some (.int i)] [] lay I J R = some (some (.int (pk I o (xm_sz lay o) i)), lay, I, J, R) := by
  unfold pk
  have ha : (100 ≤ xm_kd lay o ∧ xm_kd lay o ≤ 102) = True := by rw [hl]; simp
  by_cases h1 : i < 0
  · simp only [e_X11_pick_0, e_X11_pick_1, e_X11_pick_4, e_X11_pick_5, e_X11_pick_6, e_X11_pick_7, e_X11_pick_10, e_X11_pick_11, e_X11_pick_12, e_X11_pick_13, e_X11_pick_16, e_X11_pick_17, h1, if_true]
  · by_cases h2 : Int32.ofNat (xm_sz lay o) ≤ i
    · simp only [e_X11_pick_0, e_X11_pick_1, e_X11_pick_4, e_X11_pick_5, e_X11_pick_6, e_X11_pick_7, e_X11_pick_10, e_X11_pick_11, e_X11_pick_12, e_X11_pick_13, e_X11_pick_16, e_X11_pick_17, h1, h2, if_true, if_false, ha]
    · have h3 := vp_of h1 h2 hN
      simp only [e_X11_pick_0, e_X11_pick_1, e_X11_pick_4, e_X11_pick_5, e_X11_pick_6, e_X11_pick_7, e_X11_pick_10, e_X11_pick_11, e_X11_pick_12, e_X11_pick_13, e_X11_pick_16, e_X11_pick_17, h1, h2, dn_bd, dn_tl, dn_tn, Option.toList_some, Option.toList_none, List.cons_append, List.nil_append, rf_some, sm_i, sm_r, sm_n, sm_l, sm_0, z01_0, z01_1, and_self, if_true, if_false, ka_x, true_or, or_true, hl, h3]
theorem s_put {o : Nat} {i v : Int32} (hl : xm_kd lay o = 100) (hN : xm_sz lay o < 2 ^ 31) : xm_den d m_X11_put 0 [some (.ref o), some (.int i), some (.int v)] [] lay I J R = some (none, lay, pt I o (xm_sz lay o) i v, J, R) := by
  unfold pt
  have ha : (100 ≤ xm_kd lay o ∧ xm_kd lay o ≤ 102) = True := by rw [hl]; simp
  by_cases h1 : i < 0
  · simp only [e_X11_put_0, e_X11_put_1, e_X11_put_4, e_X11_put_5, e_X11_put_6, e_X11_put_7, e_X11_put_10, e_X11_put_11, e_X11_put_12, e_X11_put_13, e_X11_put_14, h1, if_true]
  · by_cases h2 : Int32.ofNat (xm_sz lay o) ≤ i
    · simp only [e_X11_put_0, e_X11_put_1, e_X11_put_4, e_X11_put_5, e_X11_put_6, e_X11_put_7, e_X11_put_10, e_X11_put_11, e_X11_put_12, e_X11_put_13, e_X11_put_14, h1, h2, if_true, if_false, ha]
    · have h3 := vp_of h1 h2 hN
      simp only [e_X11_put_0, e_X11_put_1, e_X11_put_4, e_X11_put_5, e_X11_put_6, e_X11_put_7, e_X11_put_10, e_X11_put_11, e_X11_put_12, e_X11_put_13, e_X11_put_14, h1, h2, dn_bd, dn_tl, dn_tn, Option.toList_some, Option.toList_none, List.cons_append, List.nil_append, rf_some, sm_i, sm_r, sm_n, sm_l, sm_0, z01_0, z01_1, and_self, if_true, if_false, ka_x, true_or, or_true, hl, h3]
theorem s_placeOf {r q : Int32} : xm_den d m_X11_placeOf 0 [some (.int r), some (.int q)] [] lay I J R = some (some (.int (r * 6 + q)), lay, I, J, R) := by
  simp only [e_X11_placeOf_0, e_X11_placeOf_1, e_X11_placeOf_3, e_X11_placeOf_4, e_X11_placeOf_5, e_X11_placeOf_6]
theorem n6 : (¬ (6 : Int32) = 0) = True := by simp
theorem n10 : (¬ (10 : Int32) = 0) = True := by simp
theorem s_rowOf {q : Int32} : xm_den d m_X11_rowOf 0 [some (.int q)] [] lay I J R = some (some (.int (q / 6)), lay, I, J, R) := by
  simp only [e_X11_rowOf_0, e_X11_rowOf_1, e_X11_rowOf_3, e_X11_rowOf_4, n6]
theorem s_codeOf {q : Int32} : xm_den d m_X11_codeOf 0 [some (.int q)] [] lay I J R = some (some (.int (q / 6 * 10 + q % 6)), lay, I, J, R) := by
  simp only [e_X11_codeOf_0, e_X11_codeOf_1, e_X11_codeOf_3, e_X11_codeOf_4, e_X11_codeOf_6, e_X11_codeOf_7, e_X11_codeOf_8, e_X11_codeOf_10, e_X11_codeOf_11, e_X11_codeOf_12, n6]
def xt_ok (lay : xm_L) (R : xm_R) (t : Nat) : Prop := lay.2[t]? = some (10, 2) ∧ R t 0 = some (t + 1) ∧ xm_kd lay (t + 1) = 100 ∧ xm_sz lay (t + 1) = 160
def xs_ok (lay : xm_L) (R : xm_R) (t : Nat) : Prop := lay.2[t]? = some (6, 8) ∧ R t 6 = some (t + 1) ∧ R t 7 = some (t + 2) ∧ xm_kd lay (t + 1) = 100 ∧ xm_sz lay (t + 1) = 9 ∧ xm_kd lay (t + 2) = 100 ∧ xm_sz lay (t + 2) = 54
theorem xs6 {R : xm_R} (h : xm_HR R) : xs_ok xm_la R 6 := ⟨rfl, hr_6_6 h, hr_6_7 h, rfl, rfl, rfl, rfl⟩
theorem xs20 {R : xm_R} (h : xm_HR R) : xs_ok xm_la R 20 := ⟨rfl, hr_20_6 h, hr_20_7 h, rfl, rfl, rfl, rfl⟩
theorem xs23 {R : xm_R} (h : xm_HR R) : xs_ok xm_la R 23 := ⟨rfl, hr_23_6 h, hr_23_7 h, rfl, rfl, rfl, rfl⟩
theorem xt1 {R : xm_R} (h : xm_HR R) : xt_ok xm_la R 1 := ⟨rfl, hr_1_0 h, rfl, rfl⟩
theorem s_tape_size {t : Nat} (hs : xt_ok lay R t) : xm_den d m_X10_size 0 [some (.ref t)] [] lay I J R = some (some (.int (I t 1)), lay, I, J, R) := by
  obtain ⟨h1, h2, h3, h4⟩ := hs
  simp only [e_X10_size_0, e_X10_size_1, e_X10_size_4, h1]
theorem s_tape_cut {t : Nat} {n : Int32} (hs : xt_ok lay R t) : xm_den d m_X10_cutTo 0 [some (.ref t), some (.int n)] [] lay I J R = some (none, lay, xm_up I t 1 n, J, R) := by
  obtain ⟨h1, h2, h3, h4⟩ := hs
  simp only [e_X10_cutTo_0, e_X10_cutTo_1, e_X10_cutTo_2, e_X10_cutTo_5, h1]
theorem s_tape_append {t : Nat} {n : Int32} (hs : xt_ok lay R t) : xm_den (d + 1) m_X10_append 0 [some (.ref t), some (.int n)] [] lay I J R = some (none, lay, if 160 ≤ I t 1 then I else xm_up (pt I (t + 1) 160 (I t 1) n) t 1 (pt I (t + 1) 160 (I t 1) n t 1 + 1), J, R) := by
  obtain ⟨h1, h2, h3, h4⟩ := hs
  have h5 : xm_sz lay (t + 1) < 2 ^ 31 := by rw [h4]; omega
  by_cases h : 160 ≤ I t 1
  · simp only [e_X10_append_0, e_X10_append_1, e_X10_append_4, e_X10_append_7, e_X10_append_10, e_X10_append_11, e_X10_append_14, e_X10_append_15, e_X10_append_18, e_X10_append_19, e_X10_append_22, e_X10_append_23, e_X10_append_24, e_X10_append_27, e_X10_append_28, e_X10_append_29, e_X10_append_32, h1, h, if_true]
  · simp only [e_X10_append_0, e_X10_append_1, e_X10_append_4, e_X10_append_7, e_X10_append_10, e_X10_append_11, e_X10_append_14, e_X10_append_15, e_X10_append_18, e_X10_append_19, e_X10_append_22, e_X10_append_23, e_X10_append_24, e_X10_append_27, e_X10_append_28, e_X10_append_29, e_X10_append_32, dn_bd, dn_tl, dn_tn, Option.toList_some, Option.toList_none, List.cons_append, List.nil_append, rf_some, sm_i, sm_r, sm_n, sm_l, sm_0, z01_0, z01_1, and_self, if_true, if_false, ka_x, true_or, or_true, h1, h2, h, if_false, s_put h3 h5, h4]
end LEAF
