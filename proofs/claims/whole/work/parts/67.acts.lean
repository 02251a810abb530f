/-! acts: a ring in the class, a row in the reference; places asked from outside -/
section ACTS
variable {d : Nat} {I : xm_I} {J : xm_J} {R : xm_R}
/-- row r, place q of the slate -/
def a_in (s : Option ab_sl) (r q : Int32) (a c : Nat) : Prop := ∃ s', s = some s' ∧ r = nI a ∧ q = nI c ∧ a < ab_ro s' ∧ c < ab_w s' a
theorem a_in_th {s : Option ab_sl} {r q : Int32} {a c o : Nat} (h : shC I o s) (hi : a_in s r q a c) : a_th s (6 * a + c) = true ∧ 6 * a + c < 54 ∧ r * 6 + q = nI (6 * a + c) := by
  obtain ⟨s', rfl, rfl, rfl, h1, h2⟩ := hi
  have hw := (h.1.2.2.2.2.2.2.1 _ h1).2
  have hro := h.1.2.2.2.2.2.1
  have e1 : (6 * a + c) / 6 = a := by omega
  have e2 : (6 * a + c) % 6 = c := by omega
  refine ⟨by unfold a_th; simp [e1, e2, h1, h2], by omega, ?_⟩
  rw [show (6 : Int32) = nI 6 from rfl, nI_mul, nI_add, Nat.mul_comm]
theorem s_has {s : Option ab_sl} {o : Nat} {r q : Int32} (hs : xs_ok xm_la R o) (h : shC I o s) : (∃ a c, a_in s r q a c ∧ xm_den (d + 1) m_X6_has 0 [some (.ref o), some (.int r), some (.int q)] [] xm_la I J R = some (some (.int 1), xm_la, I, J, R)) ∨ ((∀ a c, ¬ a_in s r q a c) ∧ xm_den (d + 1) m_X6_has 0 [some (.ref o), some (.int r), some (.int q)] [] xm_la I J R = some (some (.int 0), xm_la, I, J, R)) := by
  have hl := hs.1
  by_cases h1 : q < 0
  · refine Or.inr ⟨fun a c ⟨s', e, e1, e2, h2, h3⟩ => ?_, ?_⟩
    · subst e; subst e2
      have := (h.1.2.2.2.2.2.2.1 _ h2).2
      rw [nI_lt0 (by omega)] at h1; exact h1
    · simp only [e_X6_has_0, e_X6_has_1, e_X6_has_4, e_X6_has_5, e_X6_has_6, e_X6_has_7, e_X6_has_10, e_X6_has_13, e_X6_has_14, e_X6_has_17, e_X6_has_18, dn_bd, dn_tl, dn_tn, Option.toList_some, Option.toList_none, List.cons_append, List.nil_append, rf_some, sm_i, sm_r, sm_n, sm_l, sm_0, z01_0, z01_1, and_self, if_true, if_false, ka_x, true_or, or_true, not_true_eq_false, not_false_eq_true, h1]
  · by_cases h2 : v_len I o r ≤ q
    · refine Or.inr ⟨fun a c ⟨s', e, e1, e2, h3, h4⟩ => ?_, ?_⟩
      · subst e; subst e2; subst e1
        have := (h.1.2.2.2.2.2.2.1 _ h3).2
        rw [v_len_of h h3, i32_le (by omega) (by omega)] at h2; omega
      · simp only [e_X6_has_0, e_X6_has_1, e_X6_has_4, e_X6_has_5, e_X6_has_6, e_X6_has_7, e_X6_has_10, e_X6_has_13, e_X6_has_14, e_X6_has_17, e_X6_has_18, dn_bd, dn_tl, dn_tn, Option.toList_some, Option.toList_none, List.cons_append, List.nil_append, rf_some, sm_i, sm_r, sm_n, sm_l, sm_0, z01_0, z01_1, and_self, if_true, if_false, ka_x, true_or, or_true, not_true_eq_false, not_false_eq_true, hl, s_lengthOf hs, h1, h2]
    · have hv : ¬ v_len I o r = 0 := fun e => by
        rw [e, Int32.not_le] at h2; exact h1 h2
      have hin : 0 ≤ r ∧ r < I o 3 ∧ r < 9 := by
        by_cases z : 0 ≤ r ∧ r < I o 3 ∧ r < 9
        · exact z
        · unfold v_len at hv; rw [if_neg z] at hv; exact absurd rfl hv
      obtain ⟨n, hn, e, hs'⟩ := shC_rows h
      rw [e] at hin
      have hr0 : ¬ r < 0 := by rw [Int32.not_lt]; exact hin.1
      have hrn : ¬ nI n ≤ r := by rw [Int32.not_le]; exact hin.2.1
      obtain ⟨a, ha, rfl⟩ := i32_out (by omega) hr0 hrn
      cases s with
      | none =>
        have h3 := h.2
        rw [e, show (0 : Int32) = nI 0 from rfl, nE_eq (by omega) (by omega)] at h3
        omega
      | some s =>
        have hro := hs' s rfl
        have ha' : a < ab_ro s := by omega
        rw [v_len_of h ha'] at h2
        have hw := (h.1.2.2.2.2.2.2.1 _ ha').2
        obtain ⟨c, hc, rfl⟩ := i32_out (by omega) h1 h2
        refine Or.inl ⟨a, c, ⟨s, rfl, rfl, rfl, ha', hc⟩, ?_⟩
        have c1 : (nI (ab_w s a) ≤ nI c) = False := eq_false h2
        simp only [e_X6_has_0, e_X6_has_1, e_X6_has_4, e_X6_has_5, e_X6_has_6, e_X6_has_7, e_X6_has_10, e_X6_has_13, e_X6_has_14, e_X6_has_17, e_X6_has_18, dn_bd, dn_tl, dn_tn, Option.toList_some, Option.toList_none, List.cons_append, List.nil_append, rf_some, sm_i, sm_r, sm_n, sm_l, sm_0, z01_0, z01_1, and_self, if_true, if_false, ka_x, true_or, or_true, not_true_eq_false, not_false_eq_true, hl, s_lengthOf hs, nI_lt0 (show c < 2 ^ 31 by omega), v_len_of h ha', c1]
/-- the latest acts, oldest first -/
def acC (I : xm_I) (al : List (Nat × Nat)) : Prop := al.length ≤ 40 ∧ I 26 3 = nI al.length ∧ ∃ f, f < 40 ∧ I 26 2 = nI f ∧ ∀ (j q g : Nat), al[j]? = some (q, g) → q < 54 ∧ g ≤ 18 ∧ I 27 ((f + j) % 40) = nI q ∧ I 28 ((f + j) % 40) = nI g
def acR (I : xm_I) (al : List (Nat × Nat)) : Prop := al.length ≤ 40 ∧ I 49 29 = nI al.length ∧ ∀ (j q g : Nat), al[j]? = some (q, g) → q < 54 ∧ g ≤ 18 ∧ I 64 j = nI q ∧ I 65 j = nI g
def ac_cut (al : List (Nat × Nat)) : List (Nat × Nat) := if al.length = 40 then al.tail else al
theorem ac_cut_len {al : List (Nat × Nat)} (h : al.length ≤ 40) : (ac_cut al).length < 40 := by
  unfold ac_cut; split
  · simp; omega
  · omega
theorem s_rem2 {al : List (Nat × Nat)} {q g : Nat} (hR : xm_HR R) (h : acC I al) (hl : al.length < 40) (hq : q < 54) (hg : g ≤ 18) : ∃ I', xm_den (d + 1) m_X0_remember 32 [some (.ref (26 : Nat)), some (.int (nI q)), some (.int (nI g))] [] xm_la I J R = some (none, xm_la, I', J, R) ∧ acC I' (al ++ [(q, g)]) ∧ fr [26, 27, 28] I I' := by
  obtain ⟨h1, h2, f, hf, h3, h4⟩ := h
  have hm : (f + al.length) % 40 < 40 := Nat.mod_lt _ (by omega)
  refine ⟨xm_up (xm_up (xm_up I 26 3 (nI (al.length + 1))) 27 ((f + al.length) % 40) (nI q)) 28 ((f + al.length) % 40) (nI g), ?_, ?_, fr_trans (fr_up (by decide)) (fr_trans (fr_up (by decide)) (fr_up (by decide)))⟩
  · have e1 : (nI f + nI (al.length + 1) - 1) % 40 = nI ((f + al.length) % 40) := by
      rw [nI_add, show f + (al.length + 1) = (f + al.length) + 1 by omega, nI_pred]; exact nI_mod (b := 40) (by omega) (by omega)
    have hz : (¬ (40 : Int32) = 0) = True := eq_true (by decide)
    have lat : ∀ (d : Nat) (K : xm_I), K 26 2 = nI f → K 26 3 = nI (al.length + 1) → xm_den d m_X0_latest 0 [some (.ref (26 : Nat))] [] xm_la K J R = some (some (.int (nI ((f + al.length) % 40))), xm_la, K, J, R) := by
      intro d K k1 k2
      simp only [e_X0_latest_0, e_X0_latest_1, e_X0_latest_4, e_X0_latest_5, e_X0_latest_8, e_X0_latest_9, e_X0_latest_10, e_X0_latest_11, e_X0_latest_13, e_X0_latest_14, dn_bd, dn_tl, dn_tn, Option.toList_some, Option.toList_none, List.cons_append, List.nil_append, rf_some, sm_i, sm_r, sm_n, sm_l, sm_0, z01_0, z01_1, and_self, if_true, if_false, ka_x, true_or, or_true, not_true_eq_false, not_false_eq_true, ly_26, k1, k2, hz, e1]
    have pt1 : ∀ (K : xm_I) (o : Nat) (v : Int32), pt K o 40 (nI ((f + al.length) % 40)) v = xm_up K o ((f + al.length) % 40) v := by
      intro K o v
      unfold pt
      rw [if_neg (by rw [nI_lt0 (by omega)]; simp), if_neg, nI_clamp (by omega)]
      show ¬ nI 40 ≤ nI _
      rw [i32_le (by omega) (by omega)]; omega
    have p27 : ∀ (d : Nat) (K : xm_I) (i v : Int32), xm_den d m_X11_put 0 [some (.ref (27 : Nat)), some (.int i), some (.int v)] [] xm_la K J R = some (none, xm_la, pt K 27 40 i v, J, R) := fun d K i v => s_put (o := 27) kd_27 (by rw [sz_27]; omega)
    have p28 : ∀ (d : Nat) (K : xm_I) (i v : Int32), xm_den d m_X11_put 0 [some (.ref (28 : Nat)), some (.int i), some (.int v)] [] xm_la K J R = some (none, xm_la, pt K 28 40 i v, J, R) := fun d K i v => s_put (o := 28) kd_28 (by rw [sz_28]; omega)
    have l1 := lat d (xm_up I 26 3 (nI (al.length + 1))) (by rw [up_k (by decide)]; exact h3) up_s
    have l2 := lat d (xm_up (xm_up I 26 3 (nI (al.length + 1))) 27 ((f + al.length) % 40) (nI q)) (by rw [up_o (by decide), up_k (by decide)]; exact h3) (by rw [up_o (by decide)]; exact up_s)
    simp only [e_X0_remember_32, e_X0_remember_33, e_X0_remember_34, e_X0_remember_37, e_X0_remember_38, e_X0_remember_39, e_X0_remember_42, e_X0_remember_43, e_X0_remember_46, e_X0_remember_47, e_X0_remember_50, e_X0_remember_51, e_X0_remember_54, e_X0_remember_55, e_X0_remember_58, e_X0_remember_59, e_X0_remember_62, e_X0_remember_63, e_X0_remember_66, dn_bd, dn_tl, dn_tn, Option.toList_some, Option.toList_none, List.cons_append, List.nil_append, rf_some, sm_i, sm_r, sm_n, sm_l, sm_0, z01_0, z01_1, and_self, if_true, if_false, ka_x, true_or, or_true, not_true_eq_false, not_false_eq_true, ly_26, h2, nI_1, hr_26_0 hR, hr_26_1 hR, l1, l2, p27, p28, pt1]
  · refine ⟨by rw [List.length_append]; simp; omega, by rw [up_o (by decide), up_o (by decide), up_s, List.length_append]; rfl, f, hf, by rw [up_o (by decide), up_o (by decide), up_k (by decide)]; exact h3, fun j q' g' hj => ?_⟩
    by_cases e : j = al.length
    · subst e
      rw [List.getElem?_append_right (Nat.le_refl _), Nat.sub_self] at hj
      cases hj
      exact ⟨hq, hg, by rw [up_o (by decide), up_s], up_s⟩
    · have hlt := (List.getElem?_eq_some_iff.mp hj).1
      rw [List.length_append, List.length_singleton] at hlt
      rw [List.getElem?_append_left (by omega)] at hj
      obtain ⟨a1, a2, a3, a4⟩ := h4 j q' g' hj
      have hne : ¬ (f + j) % 40 = (f + al.length) % 40 := by omega
      exact ⟨a1, a2, by rw [up_o (by decide), up_k hne, up_o (by decide)]; exact a3, by rw [up_k hne, up_o (by decide), up_o (by decide)]; exact a4⟩
theorem s_remember {al : List (Nat × Nat)} {q g : Nat} (hR : xm_HR R) (h : acC I al) (hq : q < 54) (hg : g ≤ 18) : ∃ I', xm_den (d + 1) m_X0_remember 0 [some (.ref (26 : Nat)), some (.int (nI q)), some (.int (nI g))] [] xm_la I J R = some (none, xm_la, I', J, R) ∧ acC I' (ac_cut al ++ [(q, g)]) ∧ fr [26, 27, 28] I I' := by
  obtain ⟨h1, h2, f, hf, h3, h4⟩ := id h
  by_cases hl : al.length = 40
  · have hcut : ac_cut al = al.tail := by unfold ac_cut; rw [if_pos hl]
    have hh : acC (xm_up (xm_up I 26 2 (nI ((f + 1) % 40))) 26 3 (nI 39)) al.tail := by
      refine ⟨by simp; omega, by rw [up_s, List.length_tail, hl], (f + 1) % 40, Nat.mod_lt _ (by omega), by rw [up_k (by decide), up_s], fun j q' g' hj => ?_⟩
      rw [List.getElem?_tail] at hj
      obtain ⟨a1, a2, a3, a4⟩ := h4 (j + 1) q' g' hj
      have e : ((f + 1) % 40 + j) % 40 = (f + (j + 1)) % 40 := by omega
      rw [e]
      exact ⟨a1, a2, by rw [up_o (by decide), up_o (by decide)]; exact a3, by rw [up_o (by decide), up_o (by decide)]; exact a4⟩
    obtain ⟨I', g1, g2, g3⟩ := s_rem2 (d := d) (J := J) hR hh (by simp; omega) hq hg
    refine ⟨I', ?_, by rw [hcut]; exact g2, fr_trans (fr_trans (fr_up (by decide)) (fr_up (by decide))) g3⟩
    have c1 : (¬ nI 40 = 40) = False := by simp; rfl
    have e1 : (nI f + 1) % 40 = nI ((f + 1) % 40) := by rw [nI_1]; exact nI_mod (b := 40) (by omega) (by omega)
    have hz : (¬ (40 : Int32) = 0) = True := eq_true (by decide)
    have e2 : nI 40 - 1 = nI 39 := by decide
    have e3 : xm_up I 26 2 (nI ((f + 1) % 40)) 26 3 = nI 40 := by rw [up_k (by decide), h2, hl]
    have h2' : I 26 3 = nI 40 := by rw [h2, hl]
    simp only [e_X0_remember_0, e_X0_remember_1, e_X0_remember_4, e_X0_remember_6, e_X0_remember_9, e_X0_remember_10, e_X0_remember_11, e_X0_remember_14, e_X0_remember_15, e_X0_remember_16, e_X0_remember_18, e_X0_remember_19, e_X0_remember_22, e_X0_remember_23, e_X0_remember_24, e_X0_remember_27, e_X0_remember_28, e_X0_remember_29, dn_bd, dn_tl, dn_tn, Option.toList_some, Option.toList_none, List.cons_append, List.nil_append, rf_some, sm_i, sm_r, sm_n, sm_l, sm_0, z01_0, z01_1, and_self, if_true, if_false, ka_x, true_or, or_true, not_true_eq_false, not_false_eq_true, ly_26, h2', c1, h3, e1, hz, e3, e2, g1]
  · have hcut : ac_cut al = al := by unfold ac_cut; rw [if_neg hl]
    obtain ⟨I', g1, g2, g3⟩ := s_rem2 (d := d) (J := J) hR h (by omega) hq hg
    refine ⟨I', ?_, by rw [hcut]; exact g2, g3⟩
    have c1 : (¬ nI al.length = 40) = True := by rw [show (40 : Int32) = nI 40 from rfl, nE_eq (by omega) (by omega)]; exact eq_true hl
    simp only [e_X0_remember_0, e_X0_remember_1, e_X0_remember_4, e_X0_remember_6, e_X0_remember_9, e_X0_remember_10, e_X0_remember_11, e_X0_remember_14, e_X0_remember_15, e_X0_remember_16, e_X0_remember_18, e_X0_remember_19, e_X0_remember_22, e_X0_remember_23, e_X0_remember_24, e_X0_remember_27, e_X0_remember_28, e_X0_remember_29, dn_bd, dn_tl, dn_tn, Option.toList_some, Option.toList_none, List.cons_append, List.nil_append, rf_some, sm_i, sm_r, sm_n, sm_l, sm_0, z01_0, z01_1, and_self, if_true, if_false, ka_x, true_or, or_true, not_true_eq_false, not_false_eq_true, ly_26, h2, c1, g1]
end ACTS
