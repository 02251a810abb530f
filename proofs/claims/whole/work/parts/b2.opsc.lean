/-! the law's calls keep the invariant: fault and text -/
section OPSC
variable {I I2 : xm_I} {J J2 : xm_J} {R R2 : xm_R} {s img : Option ab_sl} {al : List (Nat × Nat)} {S : List Nat} {F : List (Nat × Nat)} {i d : Nat}
theorem ivT_T (h : ivT I) : ∃ (T : Nat → Nat) (n : Nat), tpC I 1 T n ∧ sgR I T n := by
  obtain ⟨tp, a, b, c⟩ := h
  have key : ∀ j, (tp.getD j (nI 0)).toNatClampNeg < 256 ∧ (j < tp.length → tp[j]? = some (nI (tp.getD j (nI 0)).toNatClampNeg)) := fun j => by
    rw [List.getD_eq_getElem?_getD]
    cases hj : tp[j]? with
    | none =>
      refine ⟨by decide, fun z => ?_⟩
      rw [List.getElem?_eq_none_iff] at hj
      omega
    | some v =>
      obtain ⟨k, k1, rfl⟩ := c v (List.mem_of_getElem? hj)
      have e : (Option.getD (some (nI k)) (nI 0)).toNatClampNeg = k := nI_clamp (by omega)
      rw [e]
      exact ⟨k1, fun _ => rfl⟩
  exact ⟨fun j => (tp.getD j (nI 0)).toNatClampNeg, tp.length, ⟨a.1, ⟨a.2.1, fun j => (key j).1⟩, fun j hj => a.2.2 j _ ((key j).2 hj)⟩, ⟨b.1, ⟨b.2.1, fun j => (key j).1⟩, fun j hj => b.2.2 j _ ((key j).2 hj)⟩⟩
theorem ivT_0 (h1 : I 1 1 = nI 0) (h2 : I 49 2 = nI 0) : ivT I := ⟨[], ⟨h1, by simp, fun j v hj => by simp at hj⟩, ⟨h2, by simp, fun j v hj => by simp at hj⟩, fun b hb => by cases hb⟩
theorem o_faultN {w : Int32} (h0 : ¬ w = 0) (h1 : ¬ w = 1) : xm_den d m_X11_fault 0 [some (.ref (0 : Nat)), some (.int w)] [] xm_la I J R = some (some (.int (-2)), xm_la, I, J, R) ∧ xm_den d m_X12_fault 0 [some (.ref (49 : Nat)), some (.int w)] [] xm_la I J R = some (some (.int (-2)), xm_la, I, J, R) := by
  constructor
  · rw [e_X11_fault_0, e_X11_fault_1, if_pos h0, e_X11_fault_16, e_X11_fault_17, e_X11_fault_18, if_pos h1, e_X11_fault_35, e_X11_fault_37]
  · rw [e_X12_fault_0, e_X12_fault_1, if_pos h0, e_X12_fault_11, e_X12_fault_12, e_X12_fault_13, if_pos h1, e_X12_fault_24, e_X12_fault_26]
theorem o_textN {w : Int32} (h0 : ¬ w = 0) (h1 : ¬ w = 1) : xm_den d m_X11_text 0 [some (.ref (0 : Nat)), some (.int w)] [] xm_la I J R = some (some (.int (-1)), xm_la, I, J, R) ∧ xm_den d m_X12_text 0 [some (.ref (49 : Nat)), some (.int w)] [] xm_la I J R = some (some (.int (-1)), xm_la, I, J, R) := by
  constructor
  · rw [e_X11_text_0, e_X11_text_1, if_pos h0, e_X11_text_9, e_X11_text_10, e_X11_text_11, if_pos h1, e_X11_text_21, e_X11_text_22]
  · rw [e_X12_text_0, e_X12_text_1, if_pos h0, e_X12_text_22, e_X12_text_23, e_X12_text_24, if_pos h1, e_X12_text_69, e_X12_text_70]
/-- what changes are the readers' cells alone -/
theorem read_fin (hv : xv i I J R) (hR2 : xm_HR R2) (hf : fq S F I I2) (hq : nt ([2, 50] ++ (slC ++ [24, 25, 75, 76, 39, 40, 41, 43])) (tpL ++ (slL ++ (imL ++ ((0, 14) :: (49, 30) :: [(20, 4), (20, 5), (33, 0), (34, 1), (35, 1), (20, 1), (38, 5), (38, 6), (38, 7), (38, 8), (38, 9), (42, 3), (42, 4), (42, 5), (44, 4)])))) S F) (hC : ivC I2) (hl : ∃ en, lt_ok I2 en) : xv (i + 6) I2 J R2 := by
  obtain ⟨hR, hT, ⟨s, img, al, hs, hm, hK, hn⟩, _, _, hB⟩ := hv
  refine ⟨hR2, ivT_q hT hf (nt_m hq (by decide) (by decide)), ⟨s, img, al, slt_q hs hf (nt_m hq (by decide) (by decide)), img_q hm hf (nt_m hq (by decide) (by decide)), ?_, fun e => nsl_q (hn e) hf (nt_m hq (by decide) (by decide))⟩, hC, hl, ivB_q hB hf (nt_m hq (by decide) (by decide))⟩
  exact ivK_q hK hf (fun e => stN_q (stN_of hK) hf (nt_m hq (by decide) (by decide))) (Or.inl (nt_m hq (by decide) (by decide))) (Or.inl (nt_m hq (by decide) (by decide))) (Or.inl (nt_m hq (by decide) (by decide))) (Or.inl (nt_m hq (by decide) (by decide))) (Or.inl ⟨nt_m hq (by decide) (by decide), rfl⟩)
theorem ok_fault {x0 : Int32} : xo_ok xv m_X11_fault m_X12_fault q_X11_fault q_X12_fault [.int x0] := by
  intro i I J R hi hv
  have hv0 := hv
  obtain ⟨hR, hT, ⟨s, img, al, hs, hm, hK, hn⟩, hC, hl, hB⟩ := hv
  obtain ⟨T, n, t1, t2⟩ := ivT_T hT
  by_cases h0 : x0 = 0
  · subst h0
    obtain ⟨v, I1, I2, R1, a1, a2, aR, hf⟩ := o_fault0 (d1 := 95) (d2 := 95) (J := J) hR t1 t2
    exact ⟨v, I1, J, R1, I2, J, R1, a1, a2, read_fin hv0 aR hf (by decide) (ivC_q hC hf (by decide)) (lt_fq hf hl (by decide) (by decide))⟩
  · by_cases h1 : x0 = 1
    · subst h1
      obtain ⟨v, I1, I2, R1, a1, a2, aR, hf, hk⟩ := o_fault1 (d1 := 70) (d2 := 62) (J := J) hR t1 t2 hl
      refine ⟨v, I1, J, R1, I2, J, R1, a1, a2, read_fin hv0 aR hf (by decide) ?_ (lt_fq hf hl (by decide) (by decide))⟩
      obtain ⟨nc, hc, hh⟩ := hC
      refine ⟨nc, ⟨hc.1, by rw [hf 0 13 (by decide) (by decide)]; exact hc.2.1, by rw [hf 49 13 (by decide) (by decide)]; exact hc.2.2.1, fun j hj => ?_⟩, hoK_q hh hf (by decide)⟩
      obtain ⟨T, n, ks, b1, b2, b3, b4⟩ := hc.2.2.2 j hj
      have hj4 : j < 4 := by have := hc.1; omega
      exact ⟨T, n, ks, tpC_fq hf b1 (by simp [rlS] <;> omega) (by simp [rlS] <;> omega) (by simp [ccF, rlF] <;> omega) (by simp [ccF, rlF] <;> omega), b2, b3, hk j ks hj4 b4⟩
    · obtain ⟨a1, a2⟩ := o_faultN (d := 100) (I := I) (J := J) (R := R) h0 h1
      exact ⟨-2, I, J, R, I, J, R, a1, a2, xv_mono hv0⟩
theorem ok_text {x0 : Int32} : xo_ok xv m_X11_text m_X12_text q_X11_text q_X12_text [.int x0] := by
  intro i I J R hi hv
  have hv0 := hv
  obtain ⟨hR, hT, ⟨s, img, al, hs, hm, hK, hn⟩, hC, hl, hB⟩ := hv
  obtain ⟨T, n, t1, t2⟩ := ivT_T hT
  by_cases h0 : x0 = 0
  · subst h0
    obtain ⟨f, f1, f2, f3⟩ := hs.2.2.1.2.2
    obtain ⟨v, I1, I2, R1, a1, a2, aR, a3⟩ := o_text0 (d1 := 94) (d2 := 95) (J := J) hR t1 t2 ⟨f, f1, f2⟩
    refine ⟨v, I1, J, R1, I2, J, R1, a1, a2, ?_⟩
    rcases a3 with hf | ⟨s', h1, h2, h3, h4, h5, h6, hf⟩
    · exact read_fin hv0 aR hf (by decide) (ivC_q hC hf (by decide)) (lt_fq hf hl (by decide) (by decide))
    · obtain ⟨c, k, b1, b2, b3, b4⟩ := hB
      have e4 : I2 20 4 = nI (c + 1) := by rw [h5, b1, nI_add]
      have e5 : I2 20 5 = nI (k + 1) := by rw [h6, b2, nI_add]
      exact ⟨aR, ivT_0 h3 h4, ⟨some s', none, [], h1, h2, ivK_new (stN_of hK) hf (by decide) b1 e4 b2 e5 (by omega) (by omega) (by omega) (by omega), fun e => (by cases e)⟩, ivC_q hC hf (by decide), lt_fq hf hl (by decide) (by decide), c + 1, k + 1, e4, e5, by omega, by omega⟩
  · by_cases h1 : x0 = 1
    · subst h1
      obtain ⟨nc, hc, hh⟩ := id hC
      obtain ⟨v, I1, I2, R1, a1, a2, aR, a3⟩ := o_text1 (d1 := 69) (d2 := 62) (J := J) hR t1 t2 hl hc
      refine ⟨v, I1, J, R1, I2, J, R1, a1, a2, ?_⟩
      rcases a3 with ⟨c1, hf⟩ | ⟨c1, c2, c3, hf⟩
      · exact read_fin hv0 aR hf (by decide) ⟨nc, c1, hoK_q hh hf (by decide)⟩ (lt_fq hf hl (by decide) (by decide))
      · have hh2 : hoK I2 (nc + 1) := by
          have := hoK_q hh hf (by decide)
          rcases this with z | ⟨hd, z1, z2⟩
          · exact Or.inl z
          · exact Or.inr ⟨hd, by omega, z2⟩
        refine ⟨aR, ivT_0 c2 c3, ⟨s, img, al, slt_q hs hf (by decide), img_q hm hf (by decide), ?_, fun e => nsl_q (hn e) hf (by decide)⟩, ⟨nc + 1, c1, hh2⟩, lt_fq hf hl (by decide) (by decide), ivB_q hB hf (by decide)⟩
        exact ivK_q hK hf (fun e => stN_q (stN_of hK) hf (by decide)) (Or.inl (by decide)) (Or.inl (by decide)) (Or.inl (by decide)) (Or.inl (by decide)) (Or.inl ⟨by decide, rfl⟩)
    · obtain ⟨a1, a2⟩ := o_textN (d := 100) (I := I) (J := J) (R := R) h0 h1
      exact ⟨-1, I, J, R, I, J, R, a1, a2, xv_mono hv0⟩
end OPSC
