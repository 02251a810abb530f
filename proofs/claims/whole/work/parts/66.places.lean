/-! places: what is there, what is told; counts of signs -/
section PLACES
variable {d : Nat} {I : xm_I} {J : xm_J} {R : xm_R}
theorem nI_div {a b : Nat} (ha : a < 2 ^ 31) (hb : b < 2 ^ 31) : nI a / nI b = nI (a / b) := by
  apply Int32.toInt_inj.mp
  have hd : a / b ≤ a := Nat.div_le_self a b
  have e : ((a : Int).tdiv (b : Int)) = ((a / b : Nat) : Int) := (Int.ofNat_tdiv a b).symm
  rw [Int32.toInt_div, nI_toInt ha, nI_toInt hb, nI_toInt (by omega), e]
  generalize a / b = k at hd ⊢
  exact Int.bmod_eq_of_le (by omega) (by omega)
theorem nI_mod {a b : Nat} (ha : a < 2 ^ 31) (hb : b < 2 ^ 31) : nI a % nI b = nI (a % b) := by
  apply Int32.toInt_inj.mp
  have hd : a % b ≤ a := Nat.mod_le a b
  rw [Int32.toInt_mod, nI_toInt ha, nI_toInt hb, nI_toInt (by omega), ← Int.ofNat_tmod]
theorem nI_mul (a b : Nat) : nI a * nI b = nI (a * b) := (Int32.ofNat_mul a b).symm
theorem nE_lt {a b : Nat} (ha : a < 2 ^ 31) (hb : b < 2 ^ 31) : (nI a < nI b) = (a < b) := by
  rw [← Int32.not_le, i32_le hb ha]; simp
theorem nI_lt0 {a : Nat} (ha : a < 2 ^ 31) : (nI a < 0) = False := by
  rw [show (0 : Int32) = nI 0 from rfl, nE_lt ha (by omega)]; simp
theorem nE_eq {a b : Nat} (ha : a < 2 ^ 31) (hb : b < 2 ^ 31) : (nI a = nI b) = (a = b) := by
  apply propext
  constructor
  · intro h
    have := congrArg Int32.toInt h
    rw [nI_toInt ha, nI_toInt hb] at this
    omega
  · rintro rfl; rfl
/-- is a place there -/
def a_th (s : Option ab_sl) (j : Nat) : Bool := match s with
  | none => false
  | some s => decide (j / 6 < ab_ro s) && decide (j % 6 < ab_w s (j / 6))
def a_g (s : Option ab_sl) (j : Nat) : Nat := match s with
  | none => 0
  | some s => ab_g s j
theorem a_th_some {s : ab_sl} {j : Nat} (h : a_th (some s) j = true) : j / 6 < ab_ro s ∧ j % 6 < ab_w s (j / 6) := by
  unfold a_th at h; simpa using h
theorem a_th_54 {s : Option ab_sl} {o j : Nat} (h : shC I o s) (ht : a_th s j = true) : j < 54 := by
  cases s with
  | none => cases ht
  | some s =>
    obtain ⟨h1, h2⟩ := a_th_some ht
    have := h.1.2.2.2.2.2.1
    have := (h.1.2.2.2.2.2.2.1 _ h1).2
    omega
theorem shC_rows {s : Option ab_sl} {o : Nat} (h : shC I o s) : ∃ n, n ≤ 9 ∧ I o 3 = nI n ∧ ∀ s', s = some s' → n = ab_ro s' := by
  cases s with
  | none => exact ⟨0, by omega, h.2, fun _ e => by cases e⟩
  | some s => exact ⟨ab_ro s, h.1.2.2.2.2.2.1, h.2.2.2.2.1, fun _ e => by cases e; rfl⟩
theorem v_len_out {s : Option ab_sl} {o k : Nat} (h : shC I o s) (hk : ∀ s', s = some s' → ab_ro s' ≤ k) (hk2 : k < 2 ^ 31) : v_len I o (nI k) = 0 := by
  obtain ⟨n, hn, e, hs⟩ := shC_rows h
  unfold v_len
  rw [if_neg]
  rintro ⟨-, h2, -⟩
  rw [e, nE_lt hk2 (by omega)] at h2
  cases s with
  | none =>
    have h3 := h.2
    rw [e, show (0 : Int32) = nI 0 from rfl, nE_eq (by omega) (by omega)] at h3
    omega
  | some s' => have := hk s' rfl; have := hs s' rfl; omega
theorem s_holds {s : Option ab_sl} {o j : Nat} (hs : xs_ok xm_la R o) (h : shC I o s) (hj : j < 2 ^ 31) : xm_den (d + 1) m_X6_holds 0 [some (.ref o), some (.int (nI j))] [] xm_la I J R = some (some (.int (b01 (a_th s j = true))), xm_la, I, J, R) := by
  have h6 : nI j % 6 = nI (j % 6) := nI_mod (b := 6) hj (by omega)
  have h7 : nI j / 6 = nI (j / 6) := nI_div (b := 6) hj (by omega)
  have hl := hs.1
  have hz6 := n6
  by_cases ht : a_th s j = true
  · have hb : b01 (a_th s j = true) = 1 := by unfold b01; rw [if_pos ht]
    rw [hb]
    cases s with
    | none => cases ht
    | some s =>
      obtain ⟨h1, h2⟩ := a_th_some ht
      have hw := (h.1.2.2.2.2.2.2.1 _ h1).2
      have c1 : (nI (ab_w s (j / 6)) ≤ nI (j % 6)) = False := by rw [i32_le (by omega) (by omega)]; simp; omega
      simp only [e_X6_holds_0, e_X6_holds_1, e_X6_holds_4, e_X6_holds_5, e_X6_holds_7, e_X6_holds_8, e_X6_holds_9, e_X6_holds_10, e_X6_holds_12, e_X6_holds_13, e_X6_holds_16, e_X6_holds_19, e_X6_holds_20, e_X6_holds_23, e_X6_holds_24, dn_bd, dn_tl, dn_tn, Option.toList_some, Option.toList_none, List.cons_append, List.nil_append, rf_some, sm_i, sm_r, sm_n, sm_l, sm_0, z01_0, z01_1, and_self, if_true, if_false, ka_x, true_or, or_true, not_true_eq_false, not_false_eq_true, nI_lt0 hj, hz6, h6, h7, hl, s_lengthOf hs, v_len_of h h1, c1]
  · have hb : b01 (a_th s j = true) = 0 := by unfold b01; rw [if_neg ht]
    rw [hb]
    have c1 : (v_len I o (nI (j / 6)) ≤ nI (j % 6)) = True := by
      by_cases hr : ∃ s', s = some s' ∧ j / 6 < ab_ro s'
      · obtain ⟨s', rfl, hr⟩ := hr
        rw [v_len_of h hr]
        have hw := (h.1.2.2.2.2.2.2.1 _ hr).2
        rw [i32_le (by omega) (by omega)]
        unfold a_th at ht
        simp [hr] at ht
        exact eq_true ht
      · rw [v_len_out h (fun s' e => by
          by_cases q : j / 6 < ab_ro s'
          · exact absurd ⟨s', e, q⟩ hr
          · omega) (by omega), show (0 : Int32) = nI 0 from rfl, i32_le (by omega) (by omega)]
        simp
    simp only [e_X6_holds_0, e_X6_holds_1, e_X6_holds_4, e_X6_holds_5, e_X6_holds_7, e_X6_holds_8, e_X6_holds_9, e_X6_holds_10, e_X6_holds_12, e_X6_holds_13, e_X6_holds_16, e_X6_holds_19, e_X6_holds_20, e_X6_holds_23, e_X6_holds_24, dn_bd, dn_tl, dn_tn, Option.toList_some, Option.toList_none, List.cons_append, List.nil_append, rf_some, sm_i, sm_r, sm_n, sm_l, sm_0, z01_0, z01_1, and_self, if_true, if_false, ka_x, true_or, or_true, not_true_eq_false, not_false_eq_true, nI_lt0 hj, hz6, h6, h7, hl, s_lengthOf hs, c1]
theorem s_signAt {o : Nat} {q : Int32} (hs : xs_ok xm_la R o) : xm_den (d + 1) m_X6_signAt 0 [some (.ref o), some (.int q)] [] xm_la I J R = some (some (.int (pk I (o + 2) 54 q)), xm_la, I, J, R) := by
  obtain ⟨h1, h2, h3, h4, h5, h6, h7⟩ := hs
  have h8 := s_pick (d := d) (I := I) (J := J) (R := R) (lay := xm_la) (i := q) h6 (by omega)
  rw [h7] at h8
  simp only [e_X6_signAt_0, e_X6_signAt_1, e_X6_signAt_4, e_X6_signAt_5, e_X6_signAt_8, dn_bd, dn_tl, dn_tn, Option.toList_some, Option.toList_none, List.cons_append, List.nil_append, rf_some, sm_i, sm_r, sm_n, sm_l, sm_0, z01_0, z01_1, and_self, if_true, if_false, ka_x, true_or, or_true, not_true_eq_false, not_false_eq_true, h1, h3, h8]
theorem pk_of {o N j : Nat} (hj : j < N) (hN : N < 2 ^ 31) : pk I o N (nI j) = I o j := by
  unfold pk
  rw [if_neg (by rw [nI_lt0 (by omega)]; simp), if_neg, nI_clamp (by omega)]
  show ¬ nI N ≤ nI j
  rw [i32_le hN (by omega)]; omega
theorem sign_of {s : Option ab_sl} {o j : Nat} (h : shC I o s) (ht : a_th s j = true) : pk I (o + 2) 54 (nI j) = nI (a_g s j) := by
  rw [pk_of (a_th_54 h ht) (by omega)]
  cases s with
  | none => cases ht
  | some s =>
    obtain ⟨h1, h2⟩ := a_th_some ht
    have := h.2.2.2.2.2.2 _ _ h1 h2
    rwa [show 6 * (j / 6) + j % 6 = j by omega] at this
theorem g_le {s : Option ab_sl} {o j : Nat} (h : shC I o s) (ht : a_th s j = true) : a_g s j ≤ 18 := by
  cases s with
  | none => cases ht
  | some s =>
    obtain ⟨h1, h2⟩ := a_th_some ht
    have := (h.1.2.2.2.2.2.2.2.2.2.1 _ _ h1 h2).1
    rwa [show 6 * (j / 6) + j % 6 = j by omega] at this
/-- how many of the first n places that are there have a sign from lo to hi -/
def a_cnt (s : Option ab_sl) (lo hi n : Nat) : Nat := ((List.range n).filter (fun j => a_th s j && (decide (lo ≤ a_g s j) && decide (a_g s j ≤ hi)))).length
theorem a_cnt_s {s : Option ab_sl} {lo hi n : Nat} : a_cnt s lo hi (n + 1) = a_cnt s lo hi n + if (a_th s n && (decide (lo ≤ a_g s n) && decide (a_g s n ≤ hi))) = true then 1 else 0 := by
  unfold a_cnt
  rw [List.range_succ, List.filter_append, List.length_append]
  by_cases h : (a_th s n && (decide (lo ≤ a_g s n) && decide (a_g s n ≤ hi))) = true
  · rw [if_pos h, List.filter_cons_of_pos (by simpa using h)]; rfl
  · rw [if_neg h, List.filter_cons_of_neg (by simpa using h)]; rfl
theorem a_cnt_le {s : Option ab_sl} {lo hi n : Nat} : a_cnt s lo hi n ≤ n := by
  unfold a_cnt
  exact Nat.le_trans (List.length_filter_le _ _) (by simp)
theorem s_signsW {s : Option ab_sl} {o lo hi : Nat} (hs : xs_ok xm_la R o) (h : shC I o s) (hlo : lo < 100) (hhi : hi < 100) : ∀ (n m : Nat), m + n = 54 → xm_den (d + 2) m_X6_signsWithin 5 [some (.ref o), some (.int (nI lo)), some (.int (nI hi)), some (.int (nI (a_cnt s lo hi m))), some (.int (nI m))] [] xm_la I J R = some (some (.int (nI (a_cnt s lo hi 54))), xm_la, I, J, R) := by
  have hl := hs.1
  intro n
  induction n with
  | zero =>
    intro m hm
    have e : m = 54 := by omega
    subst e
    have c1 : ((54 : Int32) ≤ nI 54) = True := eq_true (by decide)
    simp only [e_X6_signsWithin_5, e_X6_signsWithin_7, e_X6_signsWithin_9, e_X6_signsWithin_50, e_X6_signsWithin_51, c1, if_true]
  | succ n ih =>
    intro m hm
    have c1 : ((54 : Int32) ≤ nI m) = False := by rw [show (54 : Int32) = nI 54 from rfl, i32_le (by omega) (by omega)]; simp; omega
    rw [← ih (m + 1) (by omega), a_cnt_s]
    by_cases ht : a_th s m = true
    · have hg := g_le h ht
      have hsg := sign_of h ht
      by_cases hc1 : lo ≤ a_g s m
      · have d1 : (nI (a_g s m) < nI lo) = False := by rw [nE_lt (by omega) (by omega)]; simp; omega
        by_cases hc2 : a_g s m ≤ hi
        · have d2 : (nI hi < nI (a_g s m)) = False := by rw [nE_lt (by omega) (by omega)]; simp; omega
          conv => lhs; simp only [e_X6_signsWithin_5, e_X6_signsWithin_7, e_X6_signsWithin_9, e_X6_signsWithin_12, e_X6_signsWithin_13, e_X6_signsWithin_15, e_X6_signsWithin_18, e_X6_signsWithin_21, e_X6_signsWithin_22, e_X6_signsWithin_24, e_X6_signsWithin_27, e_X6_signsWithin_28, e_X6_signsWithin_31, e_X6_signsWithin_32, e_X6_signsWithin_34, e_X6_signsWithin_37, e_X6_signsWithin_38, e_X6_signsWithin_41, e_X6_signsWithin_44, dn_bd, dn_tl, dn_tn, Option.toList_some, Option.toList_none, List.cons_append, List.nil_append, rf_some, sm_i, sm_r, sm_n, sm_l, sm_0, z01_0, z01_1, and_self, if_true, if_false, ka_x, true_or, or_true, not_true_eq_false, not_false_eq_true, c1, hl, s_holds hs h (show m < 2 ^ 31 by omega), b01_e, ht, s_signAt hs, hsg, d1, d2, nI_1]
          rw [e_X6_signsWithin_47]
          simp [hc1, hc2, ht]
        · have d2 : (nI hi < nI (a_g s m)) = True := by rw [nE_lt (by omega) (by omega)]; simp; omega
          conv => lhs; simp only [e_X6_signsWithin_5, e_X6_signsWithin_7, e_X6_signsWithin_9, e_X6_signsWithin_12, e_X6_signsWithin_13, e_X6_signsWithin_15, e_X6_signsWithin_18, e_X6_signsWithin_21, e_X6_signsWithin_22, e_X6_signsWithin_24, e_X6_signsWithin_27, e_X6_signsWithin_28, e_X6_signsWithin_31, e_X6_signsWithin_32, e_X6_signsWithin_34, e_X6_signsWithin_37, e_X6_signsWithin_38, e_X6_signsWithin_41, e_X6_signsWithin_44, dn_bd, dn_tl, dn_tn, Option.toList_some, Option.toList_none, List.cons_append, List.nil_append, rf_some, sm_i, sm_r, sm_n, sm_l, sm_0, z01_0, z01_1, and_self, if_true, if_false, ka_x, true_or, or_true, not_true_eq_false, not_false_eq_true, c1, hl, s_holds hs h (show m < 2 ^ 31 by omega), b01_e, ht, s_signAt hs, hsg, d1, d2, nI_1]
          rw [e_X6_signsWithin_47]
          simp [hc2]
      · have d1 : (nI (a_g s m) < nI lo) = True := by rw [nE_lt (by omega) (by omega)]; simp; omega
        conv => lhs; simp only [e_X6_signsWithin_5, e_X6_signsWithin_7, e_X6_signsWithin_9, e_X6_signsWithin_12, e_X6_signsWithin_13, e_X6_signsWithin_15, e_X6_signsWithin_18, e_X6_signsWithin_21, e_X6_signsWithin_22, e_X6_signsWithin_24, e_X6_signsWithin_27, e_X6_signsWithin_28, e_X6_signsWithin_31, e_X6_signsWithin_32, e_X6_signsWithin_34, e_X6_signsWithin_37, e_X6_signsWithin_38, e_X6_signsWithin_41, e_X6_signsWithin_44, dn_bd, dn_tl, dn_tn, Option.toList_some, Option.toList_none, List.cons_append, List.nil_append, rf_some, sm_i, sm_r, sm_n, sm_l, sm_0, z01_0, z01_1, and_self, if_true, if_false, ka_x, true_or, or_true, not_true_eq_false, not_false_eq_true, c1, hl, s_holds hs h (show m < 2 ^ 31 by omega), b01_e, ht, s_signAt hs, hsg, d1, nI_1]
        rw [e_X6_signsWithin_47]
        simp [hc1]
    · have ht' : (a_th s m = true) = False := eq_false ht
      conv => lhs; simp only [e_X6_signsWithin_5, e_X6_signsWithin_7, e_X6_signsWithin_9, e_X6_signsWithin_12, e_X6_signsWithin_13, e_X6_signsWithin_15, e_X6_signsWithin_18, e_X6_signsWithin_21, e_X6_signsWithin_22, e_X6_signsWithin_24, e_X6_signsWithin_27, e_X6_signsWithin_28, e_X6_signsWithin_31, e_X6_signsWithin_32, e_X6_signsWithin_34, e_X6_signsWithin_37, e_X6_signsWithin_38, e_X6_signsWithin_41, e_X6_signsWithin_44, dn_bd, dn_tl, dn_tn, Option.toList_some, Option.toList_none, List.cons_append, List.nil_append, rf_some, sm_i, sm_r, sm_n, sm_l, sm_0, z01_0, z01_1, and_self, if_true, if_false, ka_x, true_or, or_true, not_true_eq_false, not_false_eq_true, c1, hl, s_holds hs h (show m < 2 ^ 31 by omega), b01_e, ht', nI_1]
      rw [e_X6_signsWithin_47]
      simp [ht]
theorem s_signsWithin {s : Option ab_sl} {o lo hi : Nat} {l h' : Int32} (hs : xs_ok xm_la R o) (h : shC I o s) (hlo : lo < 100) (hhi : hi < 100) (e1 : l = nI lo) (e2 : h' = nI hi) : xm_den (d + 2) m_X6_signsWithin 0 [some (.ref o), some (.int l), some (.int h'), none, none] [] xm_la I J R = some (some (.int (nI (a_cnt s lo hi 54))), xm_la, I, J, R) := by
  subst e1; subst e2
  have := s_signsW (d := d) (J := J) hs h hlo hhi 54 0 rfl
  rw [← this]
  simp only [e_X6_signsWithin_0, e_X6_signsWithin_1, e_X6_signsWithin_2, e_X6_signsWithin_3]
  rfl
theorem s_told {s : Option ab_sl} {o : Nat} (hs : xs_ok xm_la R o) (h : shC I o s) : xm_den (d + 3) m_X6_told 0 [some (.ref o)] [] xm_la I J R = some (some (.int (nI (a_cnt s 0 9 54))), xm_la, I, J, R) := by
  have hl := hs.1
  have := s_signsWithin (d := d) (J := J) (lo := 0) (hi := 9) hs h (by omega) (by omega) (rfl : (0 : Int32) = nI 0) (rfl : (9 : Int32) = nI 9)
  simp only [e_X6_told_0, e_X6_told_1, e_X6_told_2, e_X6_told_4, e_X6_told_7, dn_bd, dn_tl, dn_tn, Option.toList_some, Option.toList_none, List.cons_append, List.nil_append, rf_some, sm_i, sm_r, sm_n, sm_l, sm_0, z01_0, z01_1, and_self, if_true, if_false, ka_x, true_or, or_true, not_true_eq_false, not_false_eq_true, hl, this]
theorem s_isFull {s : Option ab_sl} {o : Nat} (hs : xs_ok xm_la R o) (h : shC I o s) : xm_den (d + 3) m_X6_isFull 0 [some (.ref o)] [] xm_la I J R = some (some (.int (b01 (¬ s = none ∧ a_cnt s 10 18 54 = 0))), xm_la, I, J, R) := by
  have hl := hs.1
  have hw := s_signsWithin (d := d) (J := J) (lo := 10) (hi := 18) hs h (by omega) (by omega) (rfl : (10 : Int32) = nI 10) (rfl : (18 : Int32) = nI 18)
  cases s with
  | none =>
    have hk : (¬ I o 0 = -1) = False := by rw [h.1]; simp
    have hb : b01 (¬ (none : Option ab_sl) = none ∧ a_cnt none 10 18 54 = 0) = 0 := by unfold b01; rw [if_neg]; simp
    rw [hb]
    simp only [e_X6_isFull_0, e_X6_isFull_1, e_X6_isFull_4, e_X6_isFull_7, e_X6_isFull_8, e_X6_isFull_10, e_X6_isFull_12, e_X6_isFull_15, e_X6_isFull_18, e_X6_isFull_19, e_X6_isFull_22, e_X6_isFull_23, dn_bd, dn_tl, dn_tn, Option.toList_some, Option.toList_none, List.cons_append, List.nil_append, rf_some, sm_i, sm_r, sm_n, sm_l, sm_0, z01_0, z01_1, and_self, if_true, if_false, ka_x, true_or, or_true, not_true_eq_false, not_false_eq_true, hl, s_isThere hs, b01_e, hk]
  | some s =>
    have hk : (¬ I o 0 = -1) = True := by rw [h.2.1]; exact eq_true (kind_ne h.1.1)
    by_cases hc : a_cnt (some s) 10 18 54 = 0
    · have hb : b01 (¬ (some s : Option ab_sl) = none ∧ a_cnt (some s) 10 18 54 = 0) = 1 := by unfold b01; rw [if_pos]; exact ⟨by simp, hc⟩
      have h0 : nI 0 = 0 := rfl
      rw [hb]
      simp only [e_X6_isFull_0, e_X6_isFull_1, e_X6_isFull_4, e_X6_isFull_7, e_X6_isFull_8, e_X6_isFull_10, e_X6_isFull_12, e_X6_isFull_15, e_X6_isFull_18, e_X6_isFull_19, e_X6_isFull_22, e_X6_isFull_23, dn_bd, dn_tl, dn_tn, Option.toList_some, Option.toList_none, List.cons_append, List.nil_append, rf_some, sm_i, sm_r, sm_n, sm_l, sm_0, z01_0, z01_1, and_self, if_true, if_false, ka_x, true_or, or_true, not_true_eq_false, not_false_eq_true, hl, s_isThere hs, b01_e, hk, hw, hc, h0]
    · have hb : b01 (¬ (some s : Option ab_sl) = none ∧ a_cnt (some s) 10 18 54 = 0) = 0 := by unfold b01; rw [if_neg]; exact fun z => hc z.2
      have hle := @a_cnt_le (some s) 10 18 54
      have h0 : (nI (a_cnt (some s) 10 18 54) = 0) = False := by rw [show (0 : Int32) = nI 0 from rfl, nE_eq (by omega) (by omega)]; exact eq_false hc
      rw [hb]
      simp only [e_X6_isFull_0, e_X6_isFull_1, e_X6_isFull_4, e_X6_isFull_7, e_X6_isFull_8, e_X6_isFull_10, e_X6_isFull_12, e_X6_isFull_15, e_X6_isFull_18, e_X6_isFull_19, e_X6_isFull_22, e_X6_isFull_23, dn_bd, dn_tl, dn_tn, Option.toList_some, Option.toList_none, List.cons_append, List.nil_append, rf_some, sm_i, sm_r, sm_n, sm_l, sm_0, z01_0, z01_1, and_self, if_true, if_false, ka_x, true_or, or_true, not_true_eq_false, not_false_eq_true, hl, s_isThere hs, b01_e, hk, hw, h0]
/-- the reference's places -/
theorem shR_rows {s : Option ab_sl} (h : shR I s) : ∃ n, n ≤ 9 ∧ I 49 28 = nI n ∧ (∀ s', s = some s' → n = ab_ro s') ∧ (s = none → n = 0) ∧ (¬ I 49 25 = -1) = (¬ s = none) := by
  cases s with
  | none => exact ⟨0, by omega, h.2.2.2, fun _ e => (by cases e), fun _ => rfl, (by rw [h.1]; simp)⟩
  | some s => exact ⟨ab_ro s, h.1.2.2.2.2.2.1, h.2.2.2.2.1, fun _ e => (by cases e; rfl), fun e => (by cases e), (by rw [h.2.1]; simp; exact kind_ne h.1.1)⟩
theorem s_isThereR {s : Option ab_sl} {j : Nat} (hR : xm_HR R) (h : shR I s) (hj : j < 2 ^ 31) : xm_den (d + 1) m_X12_isThere 0 [some (.ref (49 : Nat)), some (.int (nI j))] [] xm_la I J R = some (some (.int (b01 (a_th s j = true))), xm_la, I, J, R) := by
  have h6 : nI j % 6 = nI (j % 6) := nI_mod (b := 6) hj (by omega)
  have h7 : nI j / 6 = nI (j / 6) := nI_div (b := 6) hj (by omega)
  have hz6 := n6
  cases s with
  | none =>
    have hk : (¬ I 49 25 = -1) = False := by rw [h.1]; simp
    have hb : b01 (a_th none j = true) = 0 := rfl
    rw [hb]
    simp only [e_X12_isThere_0, e_X12_isThere_1, e_X12_isThere_4, e_X12_isThere_7, e_X12_isThere_8, e_X12_isThere_10, e_X12_isThere_11, e_X12_isThere_12, e_X12_isThere_15, e_X12_isThere_18, e_X12_isThere_19, e_X12_isThere_21, e_X12_isThere_22, e_X12_isThere_23, e_X12_isThere_26, e_X12_isThere_27, e_X12_isThere_29, e_X12_isThere_30, e_X12_isThere_31, e_X12_isThere_34, e_X12_isThere_35, e_X12_isThere_38, e_X12_isThere_39, dn_bd, dn_tl, dn_tn, Option.toList_some, Option.toList_none, List.cons_append, List.nil_append, rf_some, sm_i, sm_r, sm_n, sm_l, sm_0, z01_0, z01_1, and_self, if_true, if_false, ka_x, true_or, or_true, not_true_eq_false, not_false_eq_true, ly_49, s_isSlate, b01_e, hk]
  | some s =>
    have hk : (¬ I 49 25 = -1) = True := by rw [h.2.1]; exact eq_true (kind_ne h.1.1)
    have hro := h.1.2.2.2.2.2.1
    have hrows := h.2.2.2.2.1
    by_cases hr : j / 6 < ab_ro s
    · have c1 : (nI (ab_ro s) ≤ nI (j / 6)) = False := by rw [i32_le (by omega) (by omega)]; simp; omega
      have hv : vp_in (nI (j / 6)) 9 := vp_in_nI (by omega) (by omega)
      have hc : (nI (j / 6)).toNatClampNeg = j / 6 := nI_clamp (by omega)
      have hw := h.2.2.2.2.2.1 _ hr
      have hw6 := (h.1.2.2.2.2.2.2.1 _ hr).2
      by_cases hp : j % 6 < ab_w s (j / 6)
      · have hb : b01 (a_th (some s) j = true) = 1 := by unfold b01 a_th; simp [hr, hp]
        have c2 : (nI (ab_w s (j / 6)) ≤ nI (j % 6)) = False := by rw [i32_le (by omega) (by omega)]; simp; omega
        rw [hb]
        simp only [e_X12_isThere_0, e_X12_isThere_1, e_X12_isThere_4, e_X12_isThere_7, e_X12_isThere_8, e_X12_isThere_10, e_X12_isThere_11, e_X12_isThere_12, e_X12_isThere_15, e_X12_isThere_18, e_X12_isThere_19, e_X12_isThere_21, e_X12_isThere_22, e_X12_isThere_23, e_X12_isThere_26, e_X12_isThere_27, e_X12_isThere_29, e_X12_isThere_30, e_X12_isThere_31, e_X12_isThere_34, e_X12_isThere_35, e_X12_isThere_38, e_X12_isThere_39, dn_bd, dn_tl, dn_tn, Option.toList_some, Option.toList_none, List.cons_append, List.nil_append, rf_some, sm_i, sm_r, sm_n, sm_l, sm_0, z01_0, z01_1, and_self, if_true, if_false, ka_x, true_or, or_true, not_true_eq_false, not_false_eq_true, ly_49, ly_63, kd_63, sz_63, ka_63, hr_49_24 hR, s_isSlate, b01_e, hk, h6, h7, hz6, hrows, c1, hv, hc, hw, c2]
      · have hb : b01 (a_th (some s) j = true) = 0 := by unfold b01 a_th; simp [hr]; omega
        have c2 : (nI (ab_w s (j / 6)) ≤ nI (j % 6)) = True := by rw [i32_le (by omega) (by omega)]; simp; omega
        rw [hb]
        simp only [e_X12_isThere_0, e_X12_isThere_1, e_X12_isThere_4, e_X12_isThere_7, e_X12_isThere_8, e_X12_isThere_10, e_X12_isThere_11, e_X12_isThere_12, e_X12_isThere_15, e_X12_isThere_18, e_X12_isThere_19, e_X12_isThere_21, e_X12_isThere_22, e_X12_isThere_23, e_X12_isThere_26, e_X12_isThere_27, e_X12_isThere_29, e_X12_isThere_30, e_X12_isThere_31, e_X12_isThere_34, e_X12_isThere_35, e_X12_isThere_38, e_X12_isThere_39, dn_bd, dn_tl, dn_tn, Option.toList_some, Option.toList_none, List.cons_append, List.nil_append, rf_some, sm_i, sm_r, sm_n, sm_l, sm_0, z01_0, z01_1, and_self, if_true, if_false, ka_x, true_or, or_true, not_true_eq_false, not_false_eq_true, ly_49, ly_63, kd_63, sz_63, ka_63, hr_49_24 hR, s_isSlate, b01_e, hk, h6, h7, hz6, hrows, c1, hv, hc, hw, c2]
    · have hb : b01 (a_th (some s) j = true) = 0 := by unfold b01 a_th; simp [hr]
      have c1 : (nI (ab_ro s) ≤ nI (j / 6)) = True := by rw [i32_le (by omega) (by omega)]; simp; omega
      rw [hb]
      simp only [e_X12_isThere_0, e_X12_isThere_1, e_X12_isThere_4, e_X12_isThere_7, e_X12_isThere_8, e_X12_isThere_10, e_X12_isThere_11, e_X12_isThere_12, e_X12_isThere_15, e_X12_isThere_18, e_X12_isThere_19, e_X12_isThere_21, e_X12_isThere_22, e_X12_isThere_23, e_X12_isThere_26, e_X12_isThere_27, e_X12_isThere_29, e_X12_isThere_30, e_X12_isThere_31, e_X12_isThere_34, e_X12_isThere_35, e_X12_isThere_38, e_X12_isThere_39, dn_bd, dn_tl, dn_tn, Option.toList_some, Option.toList_none, List.cons_append, List.nil_append, rf_some, sm_i, sm_r, sm_n, sm_l, sm_0, z01_0, z01_1, and_self, if_true, if_false, ka_x, true_or, or_true, not_true_eq_false, not_false_eq_true, ly_49, ly_63, kd_63, sz_63, ka_63, hr_49_24 hR, s_isSlate, b01_e, hk, h6, h7, hz6, hrows, c1]
theorem sign_ofR {s : Option ab_sl} {j : Nat} (h : shR I s) (ht : a_th s j = true) : I 62 j = nI (a_g s j) ∧ j < 54 ∧ a_g s j ≤ 18 := by
  cases s with
  | none => cases ht
  | some s =>
    obtain ⟨h1, h2⟩ := a_th_some ht
    have e := h.2.2.2.2.2.2 _ _ h1 h2
    have g := (h.1.2.2.2.2.2.2.2.2.2.1 _ _ h1 h2).1
    rw [show 6 * (j / 6) + j % 6 = j by omega] at e g
    have := h.1.2.2.2.2.2.1
    have := (h.1.2.2.2.2.2.2.1 _ h1).2
    exact ⟨e, by omega, g⟩
theorem a_cnt_beyond {s : ab_sl} {lo hi : Nat} (hr : ab_ro s ≤ 9) : ∀ (n m : Nat), 6 * ab_ro s + n = m → a_cnt (some s) lo hi m = a_cnt (some s) lo hi (6 * ab_ro s) := by
  intro n
  induction n with
  | zero => intro m hm; rw [← hm]; rfl
  | succ n ih =>
    intro m hm
    subst hm
    rw [← Nat.add_assoc, a_cnt_s, ih _ rfl]
    have : a_th (some s) (6 * ab_ro s + n) = false := by
      unfold a_th
      have : ¬ (6 * ab_ro s + n) / 6 < ab_ro s := by omega
      simp [this]
    simp [this]
theorem s_manyW {s : ab_sl} {lo hi : Nat} (hR : xm_HR R) (h : shR I (some s)) (hlo : lo < 100) (hhi : hi < 100) : ∀ (n m : Nat), m + n = 6 * ab_ro s → xm_den (d + 2) m_X12_many 5 [some (.ref (49 : Nat)), some (.int (nI lo)), some (.int (nI hi)), some (.int (nI (a_cnt (some s) lo hi m))), some (.int (nI m))] [] xm_la I J R = some (some (.int (nI (a_cnt (some s) lo hi (6 * ab_ro s)))), xm_la, I, J, R) := by
  have hk : (¬ I 49 25 = -1) = True := by rw [h.2.1]; exact eq_true (kind_ne h.1.1)
  have hro := h.1.2.2.2.2.2.1
  have hrows := h.2.2.2.2.1
  have h66 : (6 : Int32) * nI (ab_ro s) = nI (6 * ab_ro s) := nI_mul 6 (ab_ro s)
  intro n
  induction n with
  | zero =>
    intro m hm
    have e : m = 6 * ab_ro s := by omega
    subst e
    have c1 : (nI (6 * ab_ro s) ≤ nI (6 * ab_ro s)) = True := by rw [i32_le (by omega) (by omega)]; simp
    simp only [e_X12_many_5, e_X12_many_7, e_X12_many_9, e_X12_many_10, e_X12_many_13, e_X12_many_14, e_X12_many_62, e_X12_many_63, dn_bd, dn_tl, dn_tn, Option.toList_some, Option.toList_none, List.cons_append, List.nil_append, rf_some, sm_i, sm_r, sm_n, sm_l, sm_0, z01_0, z01_1, and_self, if_true, if_false, ka_x, true_or, or_true, not_true_eq_false, not_false_eq_true, ly_49, hrows, h66, c1]
  | succ n ih =>
    intro m hm
    have c1 : (nI (6 * ab_ro s) ≤ nI m) = False := by rw [i32_le (by omega) (by omega)]; simp; omega
    rw [← ih (m + 1) (by omega), a_cnt_s]
    by_cases ht : a_th (some s) m = true
    · obtain ⟨hsg, h54, hg⟩ := sign_ofR h ht
      have hv : vp_in (nI m) 54 := vp_in_nI h54 (by omega)
      have hc : (nI m).toNatClampNeg = m := nI_clamp (by omega)
      by_cases hin : lo ≤ a_g (some s) m ∧ a_g (some s) m ≤ hi
      · have d1 : (nI lo ≤ nI (a_g (some s) m) ∧ nI (a_g (some s) m) ≤ nI hi) = True := by rw [i32_le (by omega) (by omega), i32_le (by omega) (by omega)]; exact eq_true hin
        conv => lhs; simp only [e_X12_many_5, e_X12_many_7, e_X12_many_9, e_X12_many_10, e_X12_many_13, e_X12_many_14, e_X12_many_17, e_X12_many_18, e_X12_many_21, e_X12_many_24, e_X12_many_25, e_X12_many_26, e_X12_many_28, e_X12_many_31, e_X12_many_34, e_X12_many_35, e_X12_many_38, e_X12_many_40, e_X12_many_41, e_X12_many_42, e_X12_many_43, e_X12_many_46, e_X12_many_49, e_X12_many_50, e_X12_many_53, e_X12_many_54, e_X12_many_55, e_X12_many_56, dn_bd, dn_tl, dn_tn, Option.toList_some, Option.toList_none, List.cons_append, List.nil_append, rf_some, sm_i, sm_r, sm_n, sm_l, sm_0, z01_0, z01_1, and_self, if_true, if_false, ka_x, true_or, or_true, not_true_eq_false, not_false_eq_true, ly_49, ly_62, kd_62, sz_62, ka_62, hr_49_23 hR, hrows, h66, c1, s_isSlate, b01_e, hk, s_isThereR hR h (show m < 2 ^ 31 by omega), ht, hv, hc, hsg, s_in, d1, nI_1]
        rw [e_X12_many_59]
        simp [hin.1, hin.2, ht]
      · have d1 : (nI lo ≤ nI (a_g (some s) m) ∧ nI (a_g (some s) m) ≤ nI hi) = False := by rw [i32_le (by omega) (by omega), i32_le (by omega) (by omega)]; exact eq_false hin
        conv => lhs; simp only [e_X12_many_5, e_X12_many_7, e_X12_many_9, e_X12_many_10, e_X12_many_13, e_X12_many_14, e_X12_many_17, e_X12_many_18, e_X12_many_21, e_X12_many_24, e_X12_many_25, e_X12_many_26, e_X12_many_28, e_X12_many_31, e_X12_many_34, e_X12_many_35, e_X12_many_38, e_X12_many_40, e_X12_many_41, e_X12_many_42, e_X12_many_43, e_X12_many_46, e_X12_many_49, e_X12_many_50, e_X12_many_53, e_X12_many_54, e_X12_many_55, e_X12_many_56, dn_bd, dn_tl, dn_tn, Option.toList_some, Option.toList_none, List.cons_append, List.nil_append, rf_some, sm_i, sm_r, sm_n, sm_l, sm_0, z01_0, z01_1, and_self, if_true, if_false, ka_x, true_or, or_true, not_true_eq_false, not_false_eq_true, ly_49, ly_62, kd_62, sz_62, ka_62, hr_49_23 hR, hrows, h66, c1, s_isSlate, b01_e, hk, s_isThereR hR h (show m < 2 ^ 31 by omega), ht, hv, hc, hsg, s_in, d1, nI_1, Int32.add_zero]
        rw [e_X12_many_59]
        simp [hin]
    · have ht' : (a_th (some s) m = true) = False := eq_false ht
      conv => lhs; simp only [e_X12_many_5, e_X12_many_7, e_X12_many_9, e_X12_many_10, e_X12_many_13, e_X12_many_14, e_X12_many_17, e_X12_many_18, e_X12_many_21, e_X12_many_24, e_X12_many_25, e_X12_many_26, e_X12_many_28, e_X12_many_31, e_X12_many_34, e_X12_many_35, e_X12_many_38, e_X12_many_40, e_X12_many_41, e_X12_many_42, e_X12_many_43, e_X12_many_46, e_X12_many_49, e_X12_many_50, e_X12_many_53, e_X12_many_54, e_X12_many_55, e_X12_many_56, dn_bd, dn_tl, dn_tn, Option.toList_some, Option.toList_none, List.cons_append, List.nil_append, rf_some, sm_i, sm_r, sm_n, sm_l, sm_0, z01_0, z01_1, and_self, if_true, if_false, ka_x, true_or, or_true, not_true_eq_false, not_false_eq_true, ly_49, ly_62, kd_62, sz_62, ka_62, hr_49_23 hR, hrows, h66, c1, s_isSlate, b01_e, hk, s_isThereR hR h (show m < 2 ^ 31 by omega), ht', nI_1, Int32.add_zero]
      rw [e_X12_many_59]
      simp [ht]
theorem s_many {s : Option ab_sl} {lo hi : Nat} {l h' : Int32} (hR : xm_HR R) (h : shR I s) (hlo : lo < 100) (hhi : hi < 100) (e1 : l = nI lo) (e2 : h' = nI hi) : xm_den (d + 2) m_X12_many 0 [some (.ref (49 : Nat)), some (.int l), some (.int h'), none, none] [] xm_la I J R = some (some (.int (nI (a_cnt s lo hi 54))), xm_la, I, J, R) := by
  subst e1; subst e2
  cases s with
  | none =>
    have hc : a_cnt none lo hi 54 = 0 := by unfold a_cnt a_th; simp
    have c1 : ((6 : Int32) * 0 ≤ 0) = True := eq_true (by decide)
    rw [hc]
    simp only [e_X12_many_0, e_X12_many_1, e_X12_many_2, e_X12_many_3, e_X12_many_5, e_X12_many_7, e_X12_many_9, e_X12_many_10, e_X12_many_13, e_X12_many_14, e_X12_many_62, e_X12_many_63, dn_bd, dn_tl, dn_tn, Option.toList_some, Option.toList_none, List.cons_append, List.nil_append, rf_some, sm_i, sm_r, sm_n, sm_l, sm_0, z01_0, z01_1, and_self, if_true, if_false, ka_x, true_or, or_true, not_true_eq_false, not_false_eq_true, ly_49, h.2.2.2, c1]
    rfl
  | some s =>
    have hro := h.1.2.2.2.2.2.1
    rw [a_cnt_beyond hro (54 - 6 * ab_ro s) 54 (by omega)]
    have := s_manyW (d := d) (J := J) hR h hlo hhi (6 * ab_ro s) 0 (by omega)
    rw [← this]
    simp only [e_X12_many_0, e_X12_many_1, e_X12_many_2, e_X12_many_3]
    rfl
end PLACES
