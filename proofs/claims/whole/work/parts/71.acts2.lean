/-! tell, rub, undo: both -/
section ACTS2
variable {d : Nat} {I : xm_I} {J : xm_J} {R : xm_R}
def ab_put (s : ab_sl) (q g : Nat) : ab_sl := (ab_k s, ab_b s, ab_re s, ab_ro s, ab_w s, fun j => if j = q then g else ab_g s j)
theorem put_th {s : ab_sl} {q g j : Nat} : a_th (some (ab_put s q g)) j = a_th (some s) j := rfl
theorem put_g {s : ab_sl} {q g j : Nat} : ab_g (ab_put s q g) j = if j = q then g else ab_g s j := rfl
theorem put_wf {s : ab_sl} {q g : Nat} (h : ab_wf s) (hg : g ≤ 18) (hg2 : g < 10 → g < ab_b s) : ab_wf (ab_put s q g) := by
  obtain ⟨h1, h2, h3, h4, h5, h6, h7, h8, h9, h10, h11⟩ := h
  refine ⟨h1, h2, h3, h4, h5, h6, h7, h8, h9, fun r p hr hp => ?_, h11⟩
  rw [put_g]
  by_cases e : 6 * r + p = q
  · rw [if_pos e]; exact ⟨hg, hg2⟩
  · rw [if_neg e]; exact h10 r p hr hp
theorem shC_put {I I' : xm_I} {o q g : Nat} {s : ab_sl} (h : shC I o (some s)) (hg : g ≤ 18) (hg2 : g < 10 → g < ab_b s) (h0 : ∀ k, k < 4 → I' o k = I o k) (h1 : I' (o + 1) = I (o + 1)) (h2 : ∀ j, I' (o + 2) j = if j = q then nI g else I (o + 2) j) : shC I' o (some (ab_put s q g)) := by
  obtain ⟨a1, a2, a3, a4, a5, a6, a7⟩ := h
  refine ⟨put_wf a1 hg hg2, (h0 0 (by omega)).trans a2, (h0 1 (by omega)).trans a3, (h0 2 (by omega)).trans a4, (h0 3 (by omega)).trans a5, fun r hr => by rw [h1]; exact a6 r hr, fun r p hr hp => ?_⟩
  rw [h2, put_g]
  by_cases e : 6 * r + p = q
  · rw [if_pos e, if_pos e]
  · rw [if_neg e, if_neg e]; exact a7 r p hr hp
theorem shR_put {I I' : xm_I} {q g : Nat} {s : ab_sl} (h : shR I (some s)) (hg : g ≤ 18) (hg2 : g < 10 → g < ab_b s) (h0 : ∀ k, 25 ≤ k → k < 29 → I' 49 k = I 49 k) (h1 : I' 63 = I 63) (h2 : ∀ j, I' 62 j = if j = q then nI g else I 62 j) : shR I' (some (ab_put s q g)) := by
  obtain ⟨a1, a2, a3, a4, a5, a6, a7⟩ := h
  refine ⟨put_wf a1 hg hg2, (h0 25 (by omega) (by omega)).trans a2, (h0 26 (by omega) (by omega)).trans a3, (h0 27 (by omega) (by omega)).trans a4, (h0 28 (by omega) (by omega)).trans a5, fun r hr => by rw [h1]; exact a6 r hr, fun r p hr hp => ?_⟩
  rw [h2, put_g]
  by_cases e : 6 * r + p = q
  · rw [if_pos e, if_pos e]
  · rw [if_neg e, if_neg e]; exact a7 r p hr hp
theorem shR_fq {S : List Nat} {T : List (Nat × Nat)} {I I' : xm_I} {s : Option ab_sl} (hf : fq S T I I') (h : shR I s) (h1 : 49 ∉ S) (h2 : 62 ∉ S) (h3 : 63 ∉ S) (h4 : ∀ t ∈ T, t.1 ≠ 62 ∧ t.1 ≠ 63 ∧ ¬ (t.1 = 49 ∧ 25 ≤ t.2 ∧ t.2 < 29)) : shR I' s := by
  have e62 : I' 62 = I 62 := fq_c hf h2 (fun t ht => (h4 t ht).1)
  have e63 : I' 63 = I 63 := fq_c hf h3 (fun t ht => (h4 t ht).2.1)
  have e49 : ∀ k, 25 ≤ k → k < 29 → I' 49 k = I 49 k := fun k a b => hf 49 k h1 (fun e => (h4 _ e).2.2 ⟨rfl, a, b⟩)
  cases s with
  | none => unfold shR at h ⊢; rw [e49 25 (by omega) (by omega), e49 26 (by omega) (by omega), e49 27 (by omega) (by omega), e49 28 (by omega) (by omega)]; exact h
  | some s => unfold shR at h ⊢; rw [e49 25 (by omega) (by omega), e49 26 (by omega) (by omega), e49 27 (by omega) (by omega), e49 28 (by omega) (by omega), e62, e63]; exact h
theorem shC_fq {S : List Nat} {T : List (Nat × Nat)} {I I' : xm_I} {o : Nat} {s : Option ab_sl} (hf : fq S T I I') (h : shC I o s) (h1 : o ∉ S) (h2 : o + 1 ∉ S) (h3 : o + 2 ∉ S) (h4 : ∀ t ∈ T, t.1 ≠ o + 1 ∧ t.1 ≠ o + 2 ∧ ¬ (t.1 = o ∧ t.2 < 4)) : shC I' o s := by
  have e1 : I' (o + 1) = I (o + 1) := fq_c hf h2 (fun t ht => (h4 t ht).1)
  have e2 : I' (o + 2) = I (o + 2) := fq_c hf h3 (fun t ht => (h4 t ht).2.1)
  have e0 : ∀ k, k < 4 → I' o k = I o k := fun k b => hf o k h1 (fun e => (h4 _ e).2.2 ⟨rfl, b⟩)
  cases s with
  | none => unfold shC at h ⊢; rw [e0 0 (by omega), e0 3 (by omega)]; exact h
  | some s => unfold shC at h ⊢; rw [e0 0 (by omega), e0 1 (by omega), e0 2 (by omega), e0 3 (by omega), e1, e2]; exact h
theorem acC_fq {S : List Nat} {T : List (Nat × Nat)} {I I' : xm_I} {al : List (Nat × Nat)} (hf : fq S T I I') (h : acC I al) (h1 : 26 ∉ S) (h2 : 27 ∉ S) (h3 : 28 ∉ S) (h4 : ∀ t ∈ T, t.1 ≠ 26 ∧ t.1 ≠ 27 ∧ t.1 ≠ 28) : acC I' al := by
  unfold acC at h ⊢
  rw [fq_c hf h1 (fun t ht => (h4 t ht).1), fq_c hf h2 (fun t ht => (h4 t ht).2.1), fq_c hf h3 (fun t ht => (h4 t ht).2.2)]; exact h
theorem acR_fq {S : List Nat} {T : List (Nat × Nat)} {I I' : xm_I} {al : List (Nat × Nat)} (hf : fq S T I I') (h : acR I al) (h1 : 49 ∉ S) (h2 : 64 ∉ S) (h3 : 65 ∉ S) (h4 : ∀ t ∈ T, t.1 ≠ 64 ∧ t.1 ≠ 65 ∧ t ≠ (49, 29)) : acR I' al := by
  unfold acR at h ⊢
  rw [fq_c hf h2 (fun t ht => (h4 t ht).1), fq_c hf h3 (fun t ht => (h4 t ht).2.1), hf 49 29 h1 (fun e => (h4 _ e).2.2 rfl)]; exact h
/-- acts are of places of the slate -/
def ac_ok (s : ab_sl) (al : List (Nat × Nat)) : Prop := ∀ t ∈ al, a_th (some s) t.1 = true ∧ t.2 ≤ 18 ∧ (t.2 < 10 → t.2 < ab_b s)
/-- a place of the slate has another sign, and the acts are others -/
def o_chg (I I2 : xm_I) (s : ab_sl) : Prop := ∃ q g al, a_th (some s) q = true ∧ g ≤ 18 ∧ (g < 10 → g < ab_b s) ∧ shC I2 20 (some (ab_put s q g)) ∧ shR I2 (some (ab_put s q g)) ∧ acC I2 al ∧ acR I2 al ∧ ac_ok s al ∧ I2 20 4 = I 20 4 + nI 1 ∧ fq [22, 26, 27, 28, 62, 64, 65] [(20, 4), (49, 29)] I I2
theorem s_acts_size : xm_den d m_X0_size 0 [some (.ref (26 : Nat))] [] xm_la I J R = some (some (.int (I 26 3)), xm_la, I, J, R) := by
  simp only [e_X0_size_0, e_X0_size_1, e_X0_size_4, dn_bd, dn_tl, dn_tn, Option.toList_some, Option.toList_none, List.cons_append, List.nil_append, rf_some, sm_i, sm_r, sm_n, sm_l, sm_0, z01_0, z01_1, and_self, if_true, if_false, ka_x, true_or, or_true, not_true_eq_false, not_false_eq_true, ly_26]
theorem s_act {s : ab_sl} {al : List (Nat × Nat)} {q g : Nat} (hR : xm_HR R) (h : shC I 20 (some s)) (ha : acC I al) (hq : a_th (some s) q = true) (hg : g ≤ 18) : ∃ I', xm_den (d + 2) m_X11_act 0 [some (.ref (0 : Nat)), some (.int (nI q)), some (.int (nI g))] [] xm_la I J R = some (some (.int (nI ((ac_cut al).length + 1))), xm_la, I', J, R) ∧ acC I' (ac_cut al ++ [(q, ab_g s q)]) ∧ (∀ j, I' 22 j = if j = q then nI g else I 22 j) ∧ I' 20 4 = I 20 4 + nI 1 ∧ fq [22, 26, 27, 28] [(20, 4)] I I' := by
  have h54 := a_th_54 h hq
  have hg0 := g_le h hq
  have hsg : pk I 22 54 (nI q) = nI (ab_g s q) := sign_of h hq
  obtain ⟨I1, e1, e2, e3⟩ := s_remember (d := d) (J := J) hR ha h54 hg0
  have e3 := fq_fr e3
  have f1 : I1 20 = I 20 := fq_c e3 (by decide) (by simp)
  have f2 : I1 22 = I 22 := fq_c e3 (by decide) (by simp)
  have hw := fun d => s_write (d := d) (I := I1) (J := J) (o := 20) (v := nI g) (xs20 hR) h54
  have hsa := fun d => s_signAt (d := d) (I := I) (J := J) (q := nI q) (xs20 hR)
  have e1' := e1
  change xm_den (d + 1) m_X0_remember 0 [some (.ref (26 : Nat)), some (.int (nI q)), some (.int (nI (ab_g s q)))] [] xm_la I J R = _ at e1'
  refine ⟨xm_up (xm_up I1 22 q (nI g)) 20 4 (I1 20 4 + nI 1), ?_, ?_, fun j => ?_, ?_, ?_⟩
  · have e26 : I1 26 3 = nI ((ac_cut al).length + 1) := by rw [e2.2.1, List.length_append]; rfl
    simp (disch := (first | (simp only [ly_0, ly_1, ly_2, ly_3, ly_4, ly_5, ly_6, ly_7, ly_8, ly_9, ly_10, ly_11, ly_12, ly_13, ly_14, ly_15, ly_16, ly_17, ly_18, ly_19, ly_20, ly_21, ly_22, ly_23, ly_24, ly_25, ly_26, ly_27, ly_28, ly_29, ly_30, ly_31, ly_32, ly_33, ly_34, ly_35, ly_36, ly_37, ly_38, ly_39, ly_40, ly_41, ly_42, ly_43, ly_44, ly_45, ly_46, ly_47, ly_48, ly_49, ly_50, ly_51, ly_52, ly_53, ly_54, ly_55, ly_56, ly_57, ly_58, ly_59, ly_60, ly_61, ly_62, ly_63, ly_64, ly_65, ly_66, ly_67, ly_68, ly_69, ly_70, ly_71, ly_72, ly_73, ly_74, ly_75, ly_76, ly_77, kd_2, sz_2, ka_2, kd_4, sz_4, ka_4, kd_7, sz_7, ka_7, kd_8, sz_8, ka_8, kd_10, sz_10, ka_10, kd_11, sz_11, ka_11, kd_13, sz_13, ka_13, kd_15, sz_15, ka_15, kd_17, sz_17, ka_17, kd_19, sz_19, ka_19, kd_21, sz_21, ka_21, kd_22, sz_22, ka_22, kd_24, sz_24, ka_24, kd_25, sz_25, ka_25, kd_27, sz_27, ka_27, kd_28, sz_28, ka_28, kd_30, sz_30, ka_30, kd_31, sz_31, ka_31, kd_32, sz_32, ka_32, kd_33, sz_33, ka_33, kd_34, sz_34, ka_34, kd_35, sz_35, ka_35, kd_36, sz_36, ka_36, kd_37, sz_37, ka_37, kd_39, sz_39, ka_39, kd_40, sz_40, ka_40, kd_41, sz_41, ka_41, kd_43, sz_43, ka_43, kd_45, sz_45, ka_45, kd_47, sz_47, ka_47, kd_48, sz_48, ka_48, kd_50, sz_50, ka_50, kd_51, sz_51, ka_51, kd_52, sz_52, ka_52, kd_53, sz_53, ka_53, kd_54, sz_54, ka_54, kd_55, sz_55, ka_55, kd_56, sz_56, ka_56, kd_57, sz_57, ka_57, kd_58, sz_58, ka_58, kd_59, sz_59, ka_59, kd_60, sz_60, ka_60, kd_61, sz_61, ka_61, kd_62, sz_62, ka_62, kd_63, sz_63, ka_63, kd_64, sz_64, ka_64, kd_65, sz_65, ka_65, kd_66, sz_66, ka_66, kd_67, sz_67, ka_67, kd_68, sz_68, ka_68, kd_69, sz_69, ka_69, kd_70, sz_70, ka_70, kd_71, sz_71, ka_71, kd_72, sz_72, ka_72, kd_73, sz_73, ka_73, kd_74, sz_74, ka_74, kd_75, sz_75, ka_75, kd_76, sz_76, ka_76, kd_77, sz_77, ka_77]; done) | omega | (simp (disch := omega) only [↓m_1, ↓m_h, ↓m_f, f_eq, f_lt, f_le, f_m, lit_0, lit_1, lit_2, lit_3, lit_4, lit_5, lit_6, lit_7, lit_8, lit_9, lit_10, lit_11, lit_18, lit_19, lit_20, lit_24, lit_32, lit_38, lit_40, lit_41, lit_42, lit_43, lit_45, lit_47, lit_48, lit_49, lit_52, lit_54, lit_57, lit_58, lit_59, lit_60, lit_61, lit_62, lit_63, lit_79, lit_80, lit_90, lit_91, lit_93, lit_97, lit_98, lit_99, lit_100, lit_104, lit_109, lit_110, lit_114, lit_115, lit_116, lit_124, lit_160, lit_199, lit_200, lit_255, lit_340, lit_999, lit_1000, lit_9999, lit_1000000, lt_T, lt_F, le_T, le_F, eq_T, eq_F, m_lt, m_le, lt_m, le_m, eq_m, m_eq, m_lm, m_em, m_p1, h_eq, eq_h, nI_sub, nI_add, nI_mul, nI_div, nI_mod, vp_T, nI_clamp, b01_0, b01_z, up_s, up_o, up_k, pk_T, pt_T, pk_m, true_or, or_true, not_true_eq_false, not_false_eq_true, and_self]; done) | (simp (disch := omega) only [ly_0, ly_1, ly_2, ly_3, ly_4, ly_5, ly_6, ly_7, ly_8, ly_9, ly_10, ly_11, ly_12, ly_13, ly_14, ly_15, ly_16, ly_17, ly_18, ly_19, ly_20, ly_21, ly_22, ly_23, ly_24, ly_25, ly_26, ly_27, ly_28, ly_29, ly_30, ly_31, ly_32, ly_33, ly_34, ly_35, ly_36, ly_37, ly_38, ly_39, ly_40, ly_41, ly_42, ly_43, ly_44, ly_45, ly_46, ly_47, ly_48, ly_49, ly_50, ly_51, ly_52, ly_53, ly_54, ly_55, ly_56, ly_57, ly_58, ly_59, ly_60, ly_61, ly_62, ly_63, ly_64, ly_65, ly_66, ly_67, ly_68, ly_69, ly_70, ly_71, ly_72, ly_73, ly_74, ly_75, ly_76, ly_77, kd_2, sz_2, ka_2, kd_4, sz_4, ka_4, kd_7, sz_7, ka_7, kd_8, sz_8, ka_8, kd_10, sz_10, ka_10, kd_11, sz_11, ka_11, kd_13, sz_13, ka_13, kd_15, sz_15, ka_15, kd_17, sz_17, ka_17, kd_19, sz_19, ka_19, kd_21, sz_21, ka_21, kd_22, sz_22, ka_22, kd_24, sz_24, ka_24, kd_25, sz_25, ka_25, kd_27, sz_27, ka_27, kd_28, sz_28, ka_28, kd_30, sz_30, ka_30, kd_31, sz_31, ka_31, kd_32, sz_32, ka_32, kd_33, sz_33, ka_33, kd_34, sz_34, ka_34, kd_35, sz_35, ka_35, kd_36, sz_36, ka_36, kd_37, sz_37, ka_37, kd_39, sz_39, ka_39, kd_40, sz_40, ka_40, kd_41, sz_41, ka_41, kd_43, sz_43, ka_43, kd_45, sz_45, ka_45, kd_47, sz_47, ka_47, kd_48, sz_48, ka_48, kd_50, sz_50, ka_50, kd_51, sz_51, ka_51, kd_52, sz_52, ka_52, kd_53, sz_53, ka_53, kd_54, sz_54, ka_54, kd_55, sz_55, ka_55, kd_56, sz_56, ka_56, kd_57, sz_57, ka_57, kd_58, sz_58, ka_58, kd_59, sz_59, ka_59, kd_60, sz_60, ka_60, kd_61, sz_61, ka_61, kd_62, sz_62, ka_62, kd_63, sz_63, ka_63, kd_64, sz_64, ka_64, kd_65, sz_65, ka_65, kd_66, sz_66, ka_66, kd_67, sz_67, ka_67, kd_68, sz_68, ka_68, kd_69, sz_69, ka_69, kd_70, sz_70, ka_70, kd_71, sz_71, ka_71, kd_72, sz_72, ka_72, kd_73, sz_73, ka_73, kd_74, sz_74, ka_74, kd_75, sz_75, ka_75, kd_76, sz_76, ka_76, kd_77, sz_77, ka_77, ↓m_1, ↓m_h, ↓m_f, f_eq, f_lt, f_le, f_m, lit_0, lit_1, lit_2, lit_3, lit_4, lit_5, lit_6, lit_7, lit_8, lit_9, lit_10, lit_11, lit_18, lit_19, lit_20, lit_24, lit_32, lit_38, lit_40, lit_41, lit_42, lit_43, lit_45, lit_47, lit_48, lit_49, lit_52, lit_54, lit_57, lit_58, lit_59, lit_60, lit_61, lit_62, lit_63, lit_79, lit_80, lit_90, lit_91, lit_93, lit_97, lit_98, lit_99, lit_100, lit_104, lit_109, lit_110, lit_114, lit_115, lit_116, lit_124, lit_160, lit_199, lit_200, lit_255, lit_340, lit_999, lit_1000, lit_9999, lit_1000000, lt_T, lt_F, le_T, le_F, eq_T, eq_F, m_lt, m_le, lt_m, le_m, eq_m, m_eq, m_lm, m_em, m_p1, h_eq, eq_h, nI_sub, nI_add, nI_mul, nI_div, nI_mod, vp_T, nI_clamp, b01_0, b01_z, up_s, up_o, up_k, pk_T, pt_T, pk_m, true_or, or_true, not_true_eq_false, not_false_eq_true, and_self]; done) | fail)) only [e_X11_act_0, e_X11_act_1, e_X11_act_4, e_X11_act_5, e_X11_act_6, e_X11_act_9, e_X11_act_10, e_X11_act_13, e_X11_act_16, e_X11_act_17, e_X11_act_20, e_X11_act_21, e_X11_act_22, e_X11_act_25, e_X11_act_26, e_X11_act_29, e_X11_act_32, dn_bd, dn_tl, dn_tn, Option.toList_some, Option.toList_none, List.cons_append, List.nil_append, rf_some, sm_i, sm_r, sm_n, sm_l, sm_0, z01_0, z01_1, and_self, if_true, if_false, ka_x, true_or, or_true, not_true_eq_false, not_false_eq_true, ↓m_1, ↓m_h, ↓m_f, f_eq, f_lt, f_le, f_m, lit_0, lit_1, lit_2, lit_3, lit_4, lit_5, lit_6, lit_7, lit_8, lit_9, lit_10, lit_11, lit_18, lit_19, lit_20, lit_24, lit_32, lit_38, lit_40, lit_41, lit_42, lit_43, lit_45, lit_47, lit_48, lit_49, lit_52, lit_54, lit_57, lit_58, lit_59, lit_60, lit_61, lit_62, lit_63, lit_79, lit_80, lit_90, lit_91, lit_93, lit_97, lit_98, lit_99, lit_100, lit_104, lit_109, lit_110, lit_114, lit_115, lit_116, lit_124, lit_160, lit_199, lit_200, lit_255, lit_340, lit_999, lit_1000, lit_9999, lit_1000000, lt_T, lt_F, le_T, le_F, eq_T, eq_F, m_lt, m_le, lt_m, le_m, eq_m, m_eq, m_lm, m_em, m_p1, h_eq, eq_h, nI_sub, nI_add, nI_mul, nI_div, nI_mod, vp_T, nI_clamp, b01_0, b01_z, up_s, up_o, up_k, pk_T, pt_T, pk_m, hr_0_7 hR, hr_0_5 hR, hsa, hsg, e1', hw, s_acts_size, e26]
  · exact acC_fq (fq_u2 (T := [(20, 4)]) (fq_u1 (S := [22]) fq_rf (by decide)) (by decide)) e2 (by decide) (by decide) (by decide) (by decide)
  · rw [up_o (by decide)]
    by_cases e : j = q
    · subst e; rw [up_s, if_pos rfl]
    · rw [up_k e, if_neg e, f2]
  · rw [up_s, f1]
  · exact fq_u2 (fq_u1 (fq_sub e3 (by decide) (by decide)) (by decide)) (by decide)
theorem ac_mem_cut {al : List (Nat × Nat)} {t : Nat × Nat} (h : t ∈ ac_cut al) : t ∈ al := by
  unfold ac_cut at h
  split at h
  · exact List.mem_of_mem_tail h
  · exact h
theorem put_id_ok {s : ab_sl} {al : List (Nat × Nat)} {q g : Nat} (h : ac_ok s al) : ac_ok (ab_put s q g) al := h
/-- an act at a place of the slate, both -/
theorem o_act {d1 d2 : Nat} {s : ab_sl} {al : List (Nat × Nat)} {q g : Nat} (hR : xm_HR R) (hC : shC I 20 (some s)) (hM : shR I (some s)) (ha : acC I al) (hb : acR I al) (hk : ac_ok s al) (hq : a_th (some s) q = true) (hg : g ≤ 18) (hg2 : g < 10 → g < ab_b s) : ∃ v I1 I2, xm_den (d1 + 2) m_X11_act 0 [some (.ref (0 : Nat)), some (.int (nI q)), some (.int (nI g))] [] xm_la I J R = some (some (.int v), xm_la, I1, J, R) ∧ fq [22, 26, 27, 28] [(20, 4)] I I1 ∧ xm_den d2 m_X12_act 0 [some (.ref (49 : Nat)), some (.int (nI q)), some (.int (nI g)), none] [] xm_la I1 J R = some (some (.int v), xm_la, I2, J, R) ∧ o_chg I I2 s := by
  have h54 := a_th_54 hC hq
  have hg0 : ab_g s q ≤ 18 := g_le hC hq
  obtain ⟨I1, b1, b2, b3, b4, b5⟩ := s_act (d := d1) (J := J) hR hC ha hq hg
  have hb1 : acR I1 al := acR_fq b5 hb (by decide) (by decide) (by decide) (by decide)
  have hM1 : shR I1 (some s) := shR_fq b5 hM (by decide) (by decide) (by decide) (by decide)
  obtain ⟨I2, c1, c2, c3, c4⟩ := s_actR (d := d2) (J := J) (g := g) hR hb1 h54 hg (sign_ofR hM1 hq).1 hg0
  refine ⟨_, I1, I2, b1, b5, c1, q, g, _, hq, hg, hg2, ?_, ?_, acC_fq c4 b2 (by decide) (by decide) (by decide) (by decide), c2, ?_, ?_, ?_⟩
  · refine shC_put hC hg hg2 (fun k hk => ?_) ?_ (fun j => ?_)
    · rw [c4 20 k (by decide) (by simp), b5 20 k (by decide) (by simp; omega)]
    · exact (fq_c c4 (by decide) (by decide)).trans (fq_c b5 (by decide) (by decide))
    · rw [show I2 22 = I1 22 from fq_c c4 (by decide) (by decide), b3 j]
  · refine shR_put hM hg hg2 (fun k k1 k2 => ?_) ?_ (fun j => ?_)
    · rw [c4 49 k (by decide) (by simp; omega), b5 49 k (by decide) (by simp)]
    · exact (fq_c c4 (by decide) (by decide)).trans (fq_c b5 (by decide) (by decide))
    · rw [c3]
      by_cases e : j = q
      · subst e; rw [up_s, if_pos rfl]
      · rw [up_k e, if_neg e, show I1 62 = I 62 from fq_c b5 (by decide) (by decide)]
  · intro t ht
    rw [List.mem_append] at ht
    rcases ht with ht | ht
    · exact hk t (ac_mem_cut ht)
    · rw [List.mem_singleton] at ht
      subst ht
      have hh := (a_th_some hq)
      have := hC.1.2.2.2.2.2.2.2.2.2.1 _ _ hh.1 hh.2
      rw [show 6 * (q / 6) + q % 6 = q by omega] at this
      exact ⟨hq, hg0, this.2⟩
  · rw [c4 20 4 (by decide) (by decide), b4]
  · exact fq_tr (fq_sub b5 (by decide) (by decide)) (fq_sub c4 (by decide) (by decide))
end ACTS2
