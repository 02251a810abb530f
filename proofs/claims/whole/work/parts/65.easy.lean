/-! end, wide, cost: the class's and the reference's -/
section EASY
variable {d : Nat} {I : xm_I} {J : xm_J} {R : xm_R}
theorem tpr_take {I : xm_I} {o k t n : Nat} {tp : List Int32} (h : tpr I o k t tp) (hn : n ≤ tp.length) (hot : ¬ o = t) : tpr (xm_up I o k (nI n)) o k t (tp.take n) := by
  obtain ⟨h1, h2, h3⟩ := h
  refine ⟨by rw [up_s, List.length_take, Nat.min_eq_left hn], by rw [List.length_take]; omega, fun j w hj => ?_⟩
  rw [up_o (Ne.symm hot)]
  rw [List.getElem?_take] at hj
  split at hj
  · exact h3 j w hj
  · cases hj
/-- an argument is out, or a number up to L -/
theorem i32_cases (n : Int32) (L : Nat) (hL : L < 2 ^ 31) : (n < 0 ∨ nI L < n) ∨ ∃ k : Nat, k ≤ L ∧ n = nI k ∧ ¬ n < 0 ∧ ¬ nI L < n := by
  by_cases h1 : n < 0
  · exact Or.inl (Or.inl h1)
  · by_cases h2 : nI L < n
    · exact Or.inl (Or.inr h2)
    · refine Or.inr ⟨n.toInt.toNat, ?_, ?_, h1, h2⟩
      · rw [Int32.lt_iff_toInt_lt, nI_toInt hL] at h2
        omega
      · apply Int32.toInt_inj.mp
        rw [Int32.lt_iff_toInt_lt, show (0 : Int32).toInt = 0 by decide] at h1
        have := Int32.toInt_lt n
        rw [nI_toInt (by omega)]
        omega
def en_ok (tp : List Int32) (n : Int32) : Prop := ¬ n < 0 ∧ ¬ nI tp.length < n
theorem s_end {tp : List Int32} {n : Int32} (hR : xm_HR R) (h : tpr I 1 1 2 tp) : (∃ k : Nat, k ≤ tp.length ∧ n = nI k ∧ xm_den (d + 1) m_X11_end 0 [some (.ref (0 : Nat)), some (.int n)] [] xm_la I J R = some (some (.int 1), xm_la, xm_up I 1 1 (nI k), J, R)) ∨ ((n < 0 ∨ nI tp.length < n) ∧ xm_den (d + 1) m_X11_end 0 [some (.ref (0 : Nat)), some (.int n)] [] xm_la I J R = some (some (.int 0), xm_la, I, J, R)) := by
  have hI := h.1
  rcases i32_cases n tp.length (by have := h.2.1; omega) with h1 | ⟨k, hk, e, h1, h2⟩
  · refine Or.inr ⟨h1, ?_⟩
    by_cases h2 : n < 0
    · simp only [e_X11_end_0, e_X11_end_1, e_X11_end_4, e_X11_end_5, e_X11_end_6, e_X11_end_9, e_X11_end_12, e_X11_end_15, e_X11_end_16, e_X11_end_17, e_X11_end_18, e_X11_end_21, e_X11_end_22, e_X11_end_25, e_X11_end_26, dn_bd, dn_tl, dn_tn, Option.toList_some, Option.toList_none, List.cons_append, List.nil_append, rf_some, sm_i, sm_r, sm_n, sm_l, sm_0, z01_0, z01_1, and_self, if_true, if_false, ka_x, true_or, or_true, not_true_eq_false, not_false_eq_true, h2]
    · have h3 : nI tp.length < n := by rcases h1 with z | z; exact absurd z h2; exact z
      have h4 : ¬ n ≤ nI tp.length := by rw [Int32.not_le]; exact h3
      simp only [e_X11_end_0, e_X11_end_1, e_X11_end_4, e_X11_end_5, e_X11_end_6, e_X11_end_9, e_X11_end_12, e_X11_end_15, e_X11_end_16, e_X11_end_17, e_X11_end_18, e_X11_end_21, e_X11_end_22, e_X11_end_25, e_X11_end_26, dn_bd, dn_tl, dn_tn, Option.toList_some, Option.toList_none, List.cons_append, List.nil_append, rf_some, sm_i, sm_r, sm_n, sm_l, sm_0, z01_0, z01_1, and_self, if_true, if_false, ka_x, true_or, or_true, not_true_eq_false, not_false_eq_true, ly_0, ly_1, hr_0_0 hR, s_tape_size (xt1 hR), hI, h2, h4]
  · refine Or.inl ⟨k, hk, e, ?_⟩
    have h4 : n ≤ nI tp.length := by rw [← Int32.not_lt]; exact h2
    rw [← e]
    simp only [e_X11_end_0, e_X11_end_1, e_X11_end_4, e_X11_end_5, e_X11_end_6, e_X11_end_9, e_X11_end_12, e_X11_end_15, e_X11_end_16, e_X11_end_17, e_X11_end_18, e_X11_end_21, e_X11_end_22, e_X11_end_25, e_X11_end_26, dn_bd, dn_tl, dn_tn, Option.toList_some, Option.toList_none, List.cons_append, List.nil_append, rf_some, sm_i, sm_r, sm_n, sm_l, sm_0, z01_0, z01_1, and_self, if_true, if_false, ka_x, true_or, or_true, not_true_eq_false, not_false_eq_true, ly_0, ly_1, hr_0_0 hR, s_tape_size (xt1 hR), s_tape_cut (xt1 hR), hI, h1, h4]
theorem s_endR {tp : List Int32} {n : Int32} (h : tpr I 49 2 50 tp) : (∃ k : Nat, k ≤ tp.length ∧ n = nI k ∧ xm_den d m_X12_end 0 [some (.ref (49 : Nat)), some (.int n)] [] xm_la I J R = some (some (.int 1), xm_la, xm_up I 49 2 (nI k), J, R)) ∨ ((n < 0 ∨ nI tp.length < n) ∧ xm_den d m_X12_end 0 [some (.ref (49 : Nat)), some (.int n)] [] xm_la I J R = some (some (.int 0), xm_la, I, J, R)) := by
  have hI := h.1
  rcases i32_cases n tp.length (by have := h.2.1; omega) with h1 | ⟨k, hk, e, h1, h2⟩
  · refine Or.inr ⟨h1, ?_⟩
    by_cases h2 : n < 0
    · simp only [e_X12_end_0, e_X12_end_1, e_X12_end_4, e_X12_end_5, e_X12_end_6, e_X12_end_9, e_X12_end_12, e_X12_end_13, e_X12_end_14, e_X12_end_15, e_X12_end_16, e_X12_end_19, e_X12_end_20, dn_bd, dn_tl, dn_tn, Option.toList_some, Option.toList_none, List.cons_append, List.nil_append, rf_some, sm_i, sm_r, sm_n, sm_l, sm_0, z01_0, z01_1, and_self, if_true, if_false, ka_x, true_or, or_true, not_true_eq_false, not_false_eq_true, h2]
    · have h3 : nI tp.length < n := by rcases h1 with z | z; exact absurd z h2; exact z
      have h4 : ¬ n ≤ nI tp.length := by rw [Int32.not_le]; exact h3
      simp only [e_X12_end_0, e_X12_end_1, e_X12_end_4, e_X12_end_5, e_X12_end_6, e_X12_end_9, e_X12_end_12, e_X12_end_13, e_X12_end_14, e_X12_end_15, e_X12_end_16, e_X12_end_19, e_X12_end_20, dn_bd, dn_tl, dn_tn, Option.toList_some, Option.toList_none, List.cons_append, List.nil_append, rf_some, sm_i, sm_r, sm_n, sm_l, sm_0, z01_0, z01_1, and_self, if_true, if_false, ka_x, true_or, or_true, not_true_eq_false, not_false_eq_true, ly_49, hI, h2, h4]
  · refine Or.inl ⟨k, hk, e, ?_⟩
    have h4 : n ≤ nI tp.length := by rw [← Int32.not_lt]; exact h2
    rw [← e]
    simp only [e_X12_end_0, e_X12_end_1, e_X12_end_4, e_X12_end_5, e_X12_end_6, e_X12_end_9, e_X12_end_12, e_X12_end_13, e_X12_end_14, e_X12_end_15, e_X12_end_16, e_X12_end_19, e_X12_end_20, dn_bd, dn_tl, dn_tn, Option.toList_some, Option.toList_none, List.cons_append, List.nil_append, rf_some, sm_i, sm_r, sm_n, sm_l, sm_0, z01_0, z01_1, and_self, if_true, if_false, ka_x, true_or, or_true, not_true_eq_false, not_false_eq_true, ly_49, hI, h1, h4]
/-- a slate: kind, base, rest, rows, lengths, signs by place (6 a row) -/
abbrev ab_sl : Type := Nat × Nat × Nat × Nat × (Nat → Nat) × (Nat → Nat)
def ab_k (s : ab_sl) : Nat := s.1
def ab_b (s : ab_sl) : Nat := s.2.1
def ab_re (s : ab_sl) : Nat := s.2.2.1
def ab_ro (s : ab_sl) : Nat := s.2.2.2.1
def ab_w (s : ab_sl) (r : Nat) : Nat := s.2.2.2.2.1 r
def ab_g (s : ab_sl) (q : Nat) : Nat := s.2.2.2.2.2 q
def ab_rx (s : ab_sl) : Nat := if ab_k s = 1 then 2 else 0
/-- what a slate that was read, or drawn, is -/
def ab_wf (s : ab_sl) : Prop := ab_k s < 4 ∧ 4 ≤ ab_b s ∧ ab_b s ≤ 10 ∧ ab_re s ≤ 99 ∧ 3 ≤ ab_ro s ∧ ab_ro s ≤ 9 ∧ (∀ r, r < ab_ro s → 1 ≤ ab_w s r ∧ ab_w s r ≤ 6) ∧ ab_w s (ab_rx s) ≤ 3 ∧ ab_w s 1 ≤ 2 ∧
  (∀ r p, r < ab_ro s → p < ab_w s r → ab_g s (6 * r + p) ≤ 18 ∧ (ab_g s (6 * r + p) < 10 → ab_g s (6 * r + p) < ab_b s)) ∧
  (ab_k s = 0 → ab_ro s = if ab_w s 1 = 2 then 5 else 3) ∧ (ab_k s = 1 → ab_ro s = 3 + 2 * ab_w s 2) ∧ (2 ≤ ab_k s → ab_ro s = 3)
/-- a sheet of the class holds it -/
def shC (I : xm_I) (o : Nat) (s : Option ab_sl) : Prop := match s with
  | none => I o 0 = -1 ∧ I o 3 = 0
  | some s => ab_wf s ∧ I o 0 = nI (ab_k s) ∧ I o 1 = nI (ab_b s) ∧ I o 2 = nI (ab_re s) ∧ I o 3 = nI (ab_ro s) ∧ (∀ r, r < ab_ro s → I (o + 1) r = nI (ab_w s r)) ∧ ∀ r p, r < ab_ro s → p < ab_w s r → I (o + 2) (6 * r + p) = nI (ab_g s (6 * r + p))
/-- the reference holds it -/
def shR (I : xm_I) (s : Option ab_sl) : Prop := match s with
  | none => I 49 25 = -1 ∧ I 49 26 = 0 ∧ I 49 27 = 0 ∧ I 49 28 = 0
  | some s => ab_wf s ∧ I 49 25 = nI (ab_k s) ∧ I 49 26 = nI (ab_b s) ∧ I 49 27 = nI (ab_re s) ∧ I 49 28 = nI (ab_ro s) ∧ (∀ r, r < ab_ro s → I 63 r = nI (ab_w s r)) ∧ ∀ r p, r < ab_ro s → p < ab_w s r → I 62 (6 * r + p) = nI (ab_g s (6 * r + p))
theorem shC_fr {I I' : xm_I} {o : Nat} {s : Option ab_sl} (h : shC I o s) (h0 : I' o = I o) (h1 : I' (o + 1) = I (o + 1)) (h2 : I' (o + 2) = I (o + 2)) : shC I' o s := by
  cases s with
  | none => unfold shC at h ⊢; rw [h0]; exact h
  | some s => unfold shC at h ⊢; rw [h0, h1, h2]; exact h
/-- what wide answers -/
def a_wide (s : Option ab_sl) (r : Int32) : Int32 := match s with
  | none => -1
  | some s => if r < 0 then -1 else if nI (ab_ro s) ≤ r then -1 else nI (ab_w s r.toNatClampNeg)
theorem a_wide_some {s : ab_sl} {r : Int32} : a_wide (some s) r = if r < 0 then -1 else if nI (ab_ro s) ≤ r then -1 else nI (ab_w s r.toNatClampNeg) := rfl
theorem i32_out {r : Int32} {n : Nat} (hn : n < 2 ^ 31) (h1 : ¬ r < 0) (h2 : ¬ nI n ≤ r) : ∃ k, k < n ∧ r = nI k := by
  have h2' : r < nI n := by rw [← Int32.not_le]; exact h2
  refine ⟨r.toInt.toNat, ?_, ?_⟩
  · rw [Int32.lt_iff_toInt_lt, nI_toInt hn] at h2'
    rw [Int32.lt_iff_toInt_lt, show (0 : Int32).toInt = 0 by decide] at h1
    omega
  · apply Int32.toInt_inj.mp
    rw [Int32.lt_iff_toInt_lt, show (0 : Int32).toInt = 0 by decide] at h1
    have := Int32.toInt_lt r
    rw [nI_toInt (by omega)]
    omega
theorem v_len_of {s : ab_sl} {o k : Nat} (h : shC I o (some s)) (hk : k < ab_ro s) : v_len I o (nI k) = nI (ab_w s k) := by
  obtain ⟨hw, h0, h1, h2, h3, h4, h5⟩ := h
  have h9 : ab_ro s ≤ 9 := hw.2.2.2.2.2.1
  unfold v_len
  rw [if_pos, nI_clamp (by omega), h4 k hk]
  refine ⟨?_, ?_, ?_⟩
  · rw [show (0 : Int32) = nI 0 from rfl, i32_le (by omega) (by omega)]; omega
  · rw [h3, ← Int32.not_le, i32_le (by omega) (by omega)]; omega
  · rw [show (9 : Int32) = nI 9 from rfl, ← Int32.not_le, i32_le (by omega) (by omega)]; omega
theorem s_wide {s : Option ab_sl} {r : Int32} (hR : xm_HR R) (h : shC I 20 s) : xm_den (d + 1) m_X11_wide 0 [some (.ref (0 : Nat)), some (.int r)] [] xm_la I J R = some (some (.int (a_wide s r)), xm_la, I, J, R) := by
  have hs := xs20 hR
  by_cases h1 : r < 0
  · have hb : ¬ (0 ≤ r ∧ r < I 20 3) := fun z => by rw [← Int32.not_lt] at z; exact z.1 h1
    have ha : a_wide s r = -1 := by
      cases s with
      | none => rfl
      | some s => unfold a_wide; exact if_pos h1
    rw [ha]
    simp only [e_X11_wide_0, e_X11_wide_1, e_X11_wide_4, e_X11_wide_5, e_X11_wide_8, e_X11_wide_11, e_X11_wide_12, e_X11_wide_15, e_X11_wide_16, e_X11_wide_19, e_X11_wide_22, e_X11_wide_23, dn_bd, dn_tl, dn_tn, Option.toList_some, Option.toList_none, List.cons_append, List.nil_append, rf_some, sm_i, sm_r, sm_n, sm_l, sm_0, z01_0, z01_1, and_self, if_true, if_false, ka_x, true_or, or_true, not_true_eq_false, not_false_eq_true, ly_0, ly_20, hr_0_5 hR, s_hasRow hs, b01_e, hb, not_false_eq_true]
  · by_cases h2 : I 20 3 ≤ r
    · have hb : ¬ (0 ≤ r ∧ r < I 20 3) := fun z => by have := z.2; rw [← Int32.not_le] at this; exact this h2
      have ha : a_wide s r = -1 := by
        cases s with
        | none => rfl
        | some s => rw [a_wide_some, if_neg h1, if_pos (by rw [← h.2.2.2.2.1]; exact h2)]
      rw [ha]
      simp only [e_X11_wide_0, e_X11_wide_1, e_X11_wide_4, e_X11_wide_5, e_X11_wide_8, e_X11_wide_11, e_X11_wide_12, e_X11_wide_15, e_X11_wide_16, e_X11_wide_19, e_X11_wide_22, e_X11_wide_23, dn_bd, dn_tl, dn_tn, Option.toList_some, Option.toList_none, List.cons_append, List.nil_append, rf_some, sm_i, sm_r, sm_n, sm_l, sm_0, z01_0, z01_1, and_self, if_true, if_false, ka_x, true_or, or_true, not_true_eq_false, not_false_eq_true, ly_0, ly_20, hr_0_5 hR, s_hasRow hs, b01_e, hb, not_false_eq_true]
    · have h0 : 0 ≤ r := by rw [← Int32.not_lt]; exact h1
      have h3 : r < I 20 3 := by rw [← Int32.not_le]; exact h2
      cases s with
      | none => exact absurd (h.2 ▸ h0) h2
      | some s =>
        have h2' := h2
        rw [h.2.2.2.2.1] at h2'
        obtain ⟨k, hk, rfl⟩ := i32_out (by have := h.1.2.2.2.2.2.1; omega) h1 h2'
        have ha : a_wide (some s) (nI k) = nI (ab_w s k) := by rw [a_wide_some, if_neg h1, if_neg h2', nI_clamp (by have := h.1.2.2.2.2.2.1; omega)]
        rw [ha]
        simp only [e_X11_wide_0, e_X11_wide_1, e_X11_wide_4, e_X11_wide_5, e_X11_wide_8, e_X11_wide_11, e_X11_wide_12, e_X11_wide_15, e_X11_wide_16, e_X11_wide_19, e_X11_wide_22, e_X11_wide_23, dn_bd, dn_tl, dn_tn, Option.toList_some, Option.toList_none, List.cons_append, List.nil_append, rf_some, sm_i, sm_r, sm_n, sm_l, sm_0, z01_0, z01_1, and_self, if_true, if_false, ka_x, true_or, or_true, not_true_eq_false, not_false_eq_true, ly_0, ly_20, hr_0_5 hR, s_hasRow hs, b01_e, h0, h3, not_true_eq_false, s_lengthOf hs, v_len_of h hk]
theorem i32_neg (r : Int32) : (¬ 0 ≤ r) = (r < 0) := by rw [← Int32.not_lt]; simp
theorem s_in {v a b : Int32} : xm_den d m_X12_in 0 [some (.int v), some (.int a), some (.int b)] [] xm_la I J R = some (some (.int (b01 (a ≤ v ∧ v ≤ b))), xm_la, I, J, R) := by
  unfold b01
  by_cases h1 : v < a
  · have h2 : ¬ a ≤ v := by rw [Int32.not_le]; exact h1
    simp only [e_X12_in_0, e_X12_in_1, e_X12_in_2, e_X12_in_5, e_X12_in_6, e_X12_in_7, e_X12_in_10, e_X12_in_11, e_X12_in_14, e_X12_in_15, dn_bd, dn_tl, dn_tn, Option.toList_some, Option.toList_none, List.cons_append, List.nil_append, rf_some, sm_i, sm_r, sm_n, sm_l, sm_0, z01_0, z01_1, and_self, if_true, if_false, ka_x, true_or, or_true, not_true_eq_false, not_false_eq_true, h1, h2, false_and]
  · have h2 : a ≤ v := by rw [← Int32.not_lt]; exact h1
    by_cases h3 : b < v
    · have h4 : ¬ v ≤ b := by rw [Int32.not_le]; exact h3
      simp only [e_X12_in_0, e_X12_in_1, e_X12_in_2, e_X12_in_5, e_X12_in_6, e_X12_in_7, e_X12_in_10, e_X12_in_11, e_X12_in_14, e_X12_in_15, dn_bd, dn_tl, dn_tn, Option.toList_some, Option.toList_none, List.cons_append, List.nil_append, rf_some, sm_i, sm_r, sm_n, sm_l, sm_0, z01_0, z01_1, and_self, if_true, if_false, ka_x, true_or, or_true, not_true_eq_false, not_false_eq_true, h1, h2, h3, h4, and_false]
    · have h4 : v ≤ b := by rw [← Int32.not_lt]; exact h3
      simp only [e_X12_in_0, e_X12_in_1, e_X12_in_2, e_X12_in_5, e_X12_in_6, e_X12_in_7, e_X12_in_10, e_X12_in_11, e_X12_in_14, e_X12_in_15, dn_bd, dn_tl, dn_tn, Option.toList_some, Option.toList_none, List.cons_append, List.nil_append, rf_some, sm_i, sm_r, sm_n, sm_l, sm_0, z01_0, z01_1, and_self, if_true, if_false, ka_x, true_or, or_true, not_true_eq_false, not_false_eq_true, h1, h2, h3, h4]
theorem s_isSlate : xm_den d m_X12_isSlate 0 [some (.ref (49 : Nat))] [] xm_la I J R = some (some (.int (b01 (¬ I 49 25 = -1))), xm_la, I, J, R) := by
  unfold b01
  by_cases h : I 49 25 = -1
  · simp only [e_X12_isSlate_0, e_X12_isSlate_1, e_X12_isSlate_4, e_X12_isSlate_5, e_X12_isSlate_8, e_X12_isSlate_9, e_X12_isSlate_12, e_X12_isSlate_13, dn_bd, dn_tl, dn_tn, Option.toList_some, Option.toList_none, List.cons_append, List.nil_append, rf_some, sm_i, sm_r, sm_n, sm_l, sm_0, z01_0, z01_1, and_self, if_true, if_false, ka_x, true_or, or_true, not_true_eq_false, not_false_eq_true, ly_49, h, not_true_eq_false]
  · simp only [e_X12_isSlate_0, e_X12_isSlate_1, e_X12_isSlate_4, e_X12_isSlate_5, e_X12_isSlate_8, e_X12_isSlate_9, e_X12_isSlate_12, e_X12_isSlate_13, dn_bd, dn_tl, dn_tn, Option.toList_some, Option.toList_none, List.cons_append, List.nil_append, rf_some, sm_i, sm_r, sm_n, sm_l, sm_0, z01_0, z01_1, and_self, if_true, if_false, ka_x, true_or, or_true, not_true_eq_false, not_false_eq_true, ly_49, h, not_false_eq_true]
theorem kind_ne {k : Nat} (h : k < 4) : ¬ nI k = -1 := by
  have : k = 0 ∨ k = 1 ∨ k = 2 ∨ k = 3 := by omega
  rcases this with rfl | rfl | rfl | rfl <;> decide
theorem in_iff {r : Int32} {n : Nat} (hn : n < 2 ^ 31) (h0 : 0 < n) : (0 ≤ r ∧ r ≤ nI n - 1) = (¬ r < 0 ∧ ¬ nI n ≤ r) := by
  obtain ⟨m, rfl⟩ : ∃ m, n = m + 1 := ⟨n - 1, by omega⟩
  rw [nI_pred]
  apply propext
  rw [Int32.not_lt]
  refine and_congr_right fun h => ?_
  rw [Int32.not_le, Int32.le_iff_toInt_le, Int32.lt_iff_toInt_lt, nI_toInt (by omega), nI_toInt hn]
  omega
theorem s_wideR {s : Option ab_sl} {r : Int32} (hR : xm_HR R) (h : shR I s) : xm_den (d + 1) m_X12_wide 0 [some (.ref (49 : Nat)), some (.int r)] [] xm_la I J R = some (some (.int (a_wide s r)), xm_la, I, J, R) := by
  cases s with
  | none =>
    have hk : (¬ I 49 25 = -1) = False := by rw [h.1]; simp
    simp only [e_X12_wide_0, e_X12_wide_1, e_X12_wide_4, e_X12_wide_7, e_X12_wide_8, e_X12_wide_9, e_X12_wide_10, e_X12_wide_13, e_X12_wide_14, e_X12_wide_15, e_X12_wide_18, e_X12_wide_21, e_X12_wide_22, e_X12_wide_25, e_X12_wide_26, e_X12_wide_27, e_X12_wide_30, e_X12_wide_31, dn_bd, dn_tl, dn_tn, Option.toList_some, Option.toList_none, List.cons_append, List.nil_append, rf_some, sm_i, sm_r, sm_n, sm_l, sm_0, z01_0, z01_1, and_self, if_true, if_false, ka_x, true_or, or_true, not_true_eq_false, not_false_eq_true, ly_49, s_isSlate, b01_e, hk, not_false_eq_true]
    rfl
  | some s =>
    have hk : (¬ I 49 25 = -1) = True := by rw [h.2.1]; exact eq_true (kind_ne h.1.1)
    have hro : ab_ro s ≤ 9 := h.1.2.2.2.2.2.1
    have hro3 : 3 ≤ ab_ro s := h.1.2.2.2.2.1
    rw [a_wide_some]
    by_cases h1 : r < 0
    · have hin : (0 ≤ r ∧ r ≤ nI (ab_ro s) - 1) = False := by rw [in_iff (by omega) (by omega)]; simp [h1]
      rw [if_pos h1]
      simp only [e_X12_wide_0, e_X12_wide_1, e_X12_wide_4, e_X12_wide_7, e_X12_wide_8, e_X12_wide_9, e_X12_wide_10, e_X12_wide_13, e_X12_wide_14, e_X12_wide_15, e_X12_wide_18, e_X12_wide_21, e_X12_wide_22, e_X12_wide_25, e_X12_wide_26, e_X12_wide_27, e_X12_wide_30, e_X12_wide_31, dn_bd, dn_tl, dn_tn, Option.toList_some, Option.toList_none, List.cons_append, List.nil_append, rf_some, sm_i, sm_r, sm_n, sm_l, sm_0, z01_0, z01_1, and_self, if_true, if_false, ka_x, true_or, or_true, not_true_eq_false, not_false_eq_true, ly_49, s_isSlate, b01_e, hk, not_true_eq_false, h.2.2.2.2.1, s_in, hin, not_false_eq_true]
    · by_cases h2 : nI (ab_ro s) ≤ r
      · have hin : (0 ≤ r ∧ r ≤ nI (ab_ro s) - 1) = False := by rw [in_iff (by omega) (by omega)]; simp [h2]
        rw [if_neg h1, if_pos h2]
        simp only [e_X12_wide_0, e_X12_wide_1, e_X12_wide_4, e_X12_wide_7, e_X12_wide_8, e_X12_wide_9, e_X12_wide_10, e_X12_wide_13, e_X12_wide_14, e_X12_wide_15, e_X12_wide_18, e_X12_wide_21, e_X12_wide_22, e_X12_wide_25, e_X12_wide_26, e_X12_wide_27, e_X12_wide_30, e_X12_wide_31, dn_bd, dn_tl, dn_tn, Option.toList_some, Option.toList_none, List.cons_append, List.nil_append, rf_some, sm_i, sm_r, sm_n, sm_l, sm_0, z01_0, z01_1, and_self, if_true, if_false, ka_x, true_or, or_true, not_true_eq_false, not_false_eq_true, ly_49, s_isSlate, b01_e, hk, not_true_eq_false, h.2.2.2.2.1, s_in, hin, not_false_eq_true]
      · have hin : (0 ≤ r ∧ r ≤ nI (ab_ro s) - 1) = True := by rw [in_iff (by omega) (by omega)]; simp [h1, h2]
        rw [if_neg h1, if_neg h2]
        obtain ⟨k, hkk, rfl⟩ := i32_out (by omega) h1 h2
        have hv : vp_in (nI k) 9 := vp_in_nI (by omega) (by omega)
        have hc : (nI k).toNatClampNeg = k := nI_clamp (by omega)
        simp only [e_X12_wide_0, e_X12_wide_1, e_X12_wide_4, e_X12_wide_7, e_X12_wide_8, e_X12_wide_9, e_X12_wide_10, e_X12_wide_13, e_X12_wide_14, e_X12_wide_15, e_X12_wide_18, e_X12_wide_21, e_X12_wide_22, e_X12_wide_25, e_X12_wide_26, e_X12_wide_27, e_X12_wide_30, e_X12_wide_31, dn_bd, dn_tl, dn_tn, Option.toList_some, Option.toList_none, List.cons_append, List.nil_append, rf_some, sm_i, sm_r, sm_n, sm_l, sm_0, z01_0, z01_1, and_self, if_true, if_false, ka_x, true_or, or_true, not_true_eq_false, not_false_eq_true, ly_49, ly_63, kd_63, sz_63, ka_63, hr_49_24 hR, s_isSlate, b01_e, hk, not_true_eq_false, h.2.2.2.2.1, s_in, hin, hv, hc, h.2.2.2.2.2.1 k hkk]
/-- cost: the same number of costs on both sides -/
theorem s_cost {n z : Int32} (hz : I 0 13 = z) : xm_den d m_X11_cost 0 [some (.ref (0 : Nat)), some (.int n)] [] xm_la I J R = some (some (.int (b01 (¬ n < -1 ∧ ¬ z ≤ n))), xm_la, if ¬ n < -1 ∧ ¬ z ≤ n then xm_up I 0 14 n else I, J, R) := by
  unfold b01
  by_cases h1 : n < -1
  · have hc : ¬ (¬ n < -1 ∧ ¬ z ≤ n) := fun w => w.1 h1
    rw [if_neg hc, if_neg hc]
    have h1' : ¬ -1 ≤ n := by rw [Int32.not_le]; exact h1
    simp only [e_X11_cost_0, e_X11_cost_1, e_X11_cost_2, e_X11_cost_5, e_X11_cost_6, e_X11_cost_7, e_X11_cost_10, e_X11_cost_13, e_X11_cost_14, e_X11_cost_15, e_X11_cost_16, e_X11_cost_17, e_X11_cost_20, e_X11_cost_21, dn_bd, dn_tl, dn_tn, Option.toList_some, Option.toList_none, List.cons_append, List.nil_append, rf_some, sm_i, sm_r, sm_n, sm_l, sm_0, z01_0, z01_1, and_self, if_true, if_false, ka_x, true_or, or_true, not_true_eq_false, not_false_eq_true, ly_0, h1, h1']
  · have h1' : -1 ≤ n := by rw [← Int32.not_lt]; exact h1
    by_cases h2 : z ≤ n
    · have hc : ¬ (¬ n < -1 ∧ ¬ z ≤ n) := fun w => w.2 h2
      have h2' : ¬ n < z := by rw [Int32.not_lt]; exact h2
      rw [if_neg hc, if_neg hc]
      simp only [e_X11_cost_0, e_X11_cost_1, e_X11_cost_2, e_X11_cost_5, e_X11_cost_6, e_X11_cost_7, e_X11_cost_10, e_X11_cost_13, e_X11_cost_14, e_X11_cost_15, e_X11_cost_16, e_X11_cost_17, e_X11_cost_20, e_X11_cost_21, dn_bd, dn_tl, dn_tn, Option.toList_some, Option.toList_none, List.cons_append, List.nil_append, rf_some, sm_i, sm_r, sm_n, sm_l, sm_0, z01_0, z01_1, and_self, if_true, if_false, ka_x, true_or, or_true, not_true_eq_false, not_false_eq_true, ly_0, h1, h1', hz, h2, h2']
    · have hc : ¬ n < -1 ∧ ¬ z ≤ n := ⟨h1, h2⟩
      have h2' : n < z := by rw [← Int32.not_le]; exact h2
      rw [if_pos hc, if_pos hc]
      simp only [e_X11_cost_0, e_X11_cost_1, e_X11_cost_2, e_X11_cost_5, e_X11_cost_6, e_X11_cost_7, e_X11_cost_10, e_X11_cost_13, e_X11_cost_14, e_X11_cost_15, e_X11_cost_16, e_X11_cost_17, e_X11_cost_20, e_X11_cost_21, dn_bd, dn_tl, dn_tn, Option.toList_some, Option.toList_none, List.cons_append, List.nil_append, rf_some, sm_i, sm_r, sm_n, sm_l, sm_0, z01_0, z01_1, and_self, if_true, if_false, ka_x, true_or, or_true, not_true_eq_false, not_false_eq_true, ly_0, h1, h1', hz, h2, h2']
theorem s_costR {n : Int32} {k : Nat} (hk : k < 5) (hz : I 49 13 = nI k) : xm_den (d + 1) m_X12_cost 0 [some (.ref (49 : Nat)), some (.int n)] [] xm_la I J R = some (some (.int (b01 (¬ n < -1 ∧ ¬ nI k ≤ n))), xm_la, if ¬ n < -1 ∧ ¬ nI k ≤ n then xm_up I 49 30 n else I, J, R) := by
  have hin : (-1 ≤ n ∧ n ≤ nI k - 1) = (¬ n < -1 ∧ ¬ nI k ≤ n) := by
    apply propext
    rw [Int32.not_lt]
    refine and_congr_right fun h => ?_
    have e : (nI k - 1).toInt = (k : Int) - 1 := by
      have : k = 0 ∨ k = 1 ∨ k = 2 ∨ k = 3 ∨ k = 4 := by omega
      rcases this with rfl | rfl | rfl | rfl | rfl <;> decide
    rw [Int32.not_le, Int32.le_iff_toInt_le, Int32.lt_iff_toInt_lt, e, nI_toInt (by omega)]
    omega
  unfold b01
  by_cases hc : ¬ n < -1 ∧ ¬ nI k ≤ n
  · rw [if_pos hc, if_pos hc]
    have h1 : (-1 ≤ n ∧ n ≤ nI k - 1) = True := by rw [hin]; exact eq_true hc
    simp only [e_X12_cost_0, e_X12_cost_1, e_X12_cost_2, e_X12_cost_3, e_X12_cost_6, e_X12_cost_7, e_X12_cost_8, e_X12_cost_11, e_X12_cost_14, e_X12_cost_15, e_X12_cost_16, e_X12_cost_17, e_X12_cost_18, e_X12_cost_21, e_X12_cost_22, dn_bd, dn_tl, dn_tn, Option.toList_some, Option.toList_none, List.cons_append, List.nil_append, rf_some, sm_i, sm_r, sm_n, sm_l, sm_0, z01_0, z01_1, and_self, if_true, if_false, ka_x, true_or, or_true, not_true_eq_false, not_false_eq_true, ly_49, hz, s_in, b01_e, h1, not_true_eq_false]
  · rw [if_neg hc, if_neg hc]
    have h1 : (-1 ≤ n ∧ n ≤ nI k - 1) = False := by rw [hin]; exact eq_false hc
    simp only [e_X12_cost_0, e_X12_cost_1, e_X12_cost_2, e_X12_cost_3, e_X12_cost_6, e_X12_cost_7, e_X12_cost_8, e_X12_cost_11, e_X12_cost_14, e_X12_cost_15, e_X12_cost_16, e_X12_cost_17, e_X12_cost_18, e_X12_cost_21, e_X12_cost_22, dn_bd, dn_tl, dn_tn, Option.toList_some, Option.toList_none, List.cons_append, List.nil_append, rf_some, sm_i, sm_r, sm_n, sm_l, sm_0, z01_0, z01_1, and_self, if_true, if_false, ka_x, true_or, or_true, not_true_eq_false, not_false_eq_true, ly_49, hz, s_in, b01_e, h1, not_false_eq_true]
end EASY
