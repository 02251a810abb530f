/-! the law's calls keep the invariant, second half -/
section OPSB
variable {I I2 : xm_I} {J J2 : xm_J} {R R2 : xm_R} {s img : Option ab_sl} {al : List (Nat × Nat)} {S : List Nat} {F : List (Nat × Nat)} {i : Nat}
theorem by4_lt {w z : Int32} : ∃ k, k < 256 ∧ by4 w z = nI k := by
  unfold by4
  generalize (w.toUInt32 >>> (z.toUInt32 &&& Int32.toUInt32 31)).toInt32 = x
  refine ⟨(x.toBitVec &&& 255#32).toNat, ?_, ?_⟩
  · rw [BitVec.toNat_and]
    exact Nat.lt_of_le_of_lt Nat.and_le_right (by decide)
  · apply Int32.toBitVec_inj.mp
    show x.toBitVec &&& 255#32 = BitVec.ofNat 32 _
    rw [BitVec.ofNat_toNat, BitVec.setWidth_eq]
theorem nz_lt {w z b : Int32} (h : b ∈ nz (by4 w z)) : ∃ k, k < 256 ∧ b = nI k := by
  unfold nz at h
  split at h
  · cases h
  · rw [List.mem_singleton] at h
    rw [h]; exact by4_lt
theorem bts_lt {w b : Int32} (h : b ∈ bts w) : ∃ k, k < 256 ∧ b = nI k := by
  unfold bts at h
  simp only [List.mem_append] at h
  rcases h with h | h | h | h <;> exact nz_lt h
theorem fd5_lt {x0 x1 x2 x3 x4 b : Int32} (h : b ∈ fd5 x0 x1 x2 x3 x4) : ∃ k, k < 256 ∧ b = nI k := by
  unfold fd5 at h
  simp only [List.mem_append] at h
  rcases h with h | h | h | h | h <;> exact bts_lt h
/-- what changes is on the tapes alone -/
theorem tape_fin (hv : xv i I J R) (hf : fq S F I I2) (hq : nt (slC ++ ([10, 24, 25, 75, 76, 39, 40, 41, 43] ++ coC)) (slL ++ (imL ++ ((0, 14) :: (49, 30) :: coL ++ [(20, 4), (20, 5), (33, 0), (34, 1), (35, 1), (20, 1), (38, 5), (38, 6), (38, 7), (38, 8), (38, 9), (42, 3), (42, 4), (42, 5), (44, 4)]))) S F) (hT : ivT I2) : xv (i + 6) I2 J R := by
  obtain ⟨hR, _, ⟨s, img, al, hs, hm, hK, hn⟩, hC, hl, hB⟩ := hv
  refine ⟨hR, hT, ⟨s, img, al, slt_q hs hf (nt_m hq (by decide) (by decide)), img_q hm hf (nt_m hq (by decide) (by decide)), ?_, fun e => nsl_q (hn e) hf (nt_m hq (by decide) (by decide))⟩, ivC_q hC hf (nt_m hq (by decide) (by decide)), ?_, ivB_q hB hf (nt_m hq (by decide) (by decide))⟩
  · exact ivK_q hK hf (fun e => stN_q (stN_of hK) hf (nt_m hq (by decide) (by decide))) (Or.inl (nt_m hq (by decide) (by decide))) (Or.inl (nt_m hq (by decide) (by decide))) (Or.inl (nt_m hq (by decide) (by decide))) (Or.inl (nt_m hq (by decide) (by decide))) (Or.inl ⟨nt_m hq (by decide) (by decide), rfl⟩)
  · obtain ⟨en, h⟩ := hl
    have c10 := nt_c hq hf (o := 10) (by decide)
    exact ⟨en, fun j hj => ⟨by rw [c10]; exact (h j hj).1, (h j hj).2⟩⟩
theorem ok_feed {x0 x1 x2 x3 x4 : Int32} : xo_ok xv m_X11_feed m_X12_feed q_X11_feed q_X12_feed [.int x0, .int x1, .int x2, .int x3, .int x4] := by
  intro i I J R hi hv
  have hR := hv.1
  obtain ⟨tp, ha, hb, hc⟩ := hv.2.1
  obtain ⟨I1, a1, a2, a3⟩ := s_feed (d := 97) (J := J) (a := x0) (b := x1) (c := x2) (e := x3) (f := x4) hR ha
  have hb1 : tpr I1 49 2 50 tp := by
    unfold tpr
    rw [a3 49 (by decide), a3 50 (by decide)]
    exact hb
  obtain ⟨I2, b1, b2, b3, b4⟩ := s_feedR (d := 99) (J := J) (a := x0) (b := x1) (c := x2) (e := x3) (f := x4) hR hb1
  have hf : fq [2, 50, 1] [(49, 2)] I I2 := by
    intro o k h1 h2
    simp at h1 h2
    by_cases h49 : o = 49
    · subst h49
      rw [b4 k (by omega), a3 49 (by decide)]
    · rw [b3 o (by simp; omega), a3 o (by simp; omega)]
  refine ⟨_, I1, J, R, I2, J, R, a1, b1, tape_fin hv hf (by decide) ⟨if tp.length + (fd5 x0 x1 x2 x3 x4).length ≤ 160 then tp ++ fd5 x0 x1 x2 x3 x4 else tp, ?_, b2, ?_⟩⟩
  · unfold tpr at a2 ⊢
    rw [b3 1 (by decide), b3 2 (by decide)]
    exact a2
  · intro b hb
    split at hb
    · rcases List.mem_append.mp hb with hb | hb
      · exact hc b hb
      · exact fd5_lt hb
    · exact hc b hb
theorem ok_end {x0 : Int32} : xo_ok xv m_X11_end m_X12_end q_X11_end q_X12_end [.int x0] := by
  intro i I J R hi hv
  have hR := hv.1
  obtain ⟨tp, ha, hb, hc⟩ := hv.2.1
  have hlen := ha.2.1
  have neg : ∀ k, k ≤ tp.length → ¬ (nI k < 0 ∨ nI tp.length < nI k) := fun k hk z => by
    rcases z with z | z
    · exact (of_eq_false (nI_lt0 (a := k) (by omega))) z
    · rw [Int32.lt_iff_toInt_lt, nI_toInt (by omega), nI_toInt (by omega)] at z
      omega
  rcases s_end (d := 99) (J := J) (n := x0) hR ha with ⟨k, k1, rfl, k2⟩ | ⟨k1, k2⟩
  · have hb1 : tpr (xm_up I 1 1 (nI k)) 49 2 50 tp := ⟨by rw [up_o (by decide)]; exact hb.1, hb.2.1, fun j v hj => by rw [up_o (by decide)]; exact hb.2.2 j v hj⟩
    rcases s_endR (d := 100) (J := J) (R := R) (n := nI k) hb1 with ⟨k', k1', e, k2'⟩ | ⟨k1', _⟩
    · have hk : k = k' := inj30 (by omega) (by omega) e
      subst hk
      refine ⟨1, _, J, R, _, J, R, k2, k2', tape_fin hv (S := []) (F := [(1, 1), (49, 2)]) (fq_u2 (fq_u2 fq_rf (by decide)) (by decide)) (by decide) ⟨tp.take k, ?_, tpr_take hb1 k1 (by decide), fun b hb => hc b (List.mem_of_mem_take hb)⟩⟩
      have h := tpr_take ha k1 (by decide)
      exact ⟨by rw [up_o (by decide)]; exact h.1, h.2.1, fun j v hj => by rw [up_o (by decide)]; exact h.2.2 j v hj⟩
    · exact absurd k1' (neg k k1)
  · rcases s_endR (d := 100) (J := J) (R := R) (n := x0) hb with ⟨k', k1', rfl, _⟩ | ⟨_, k2'⟩
    · exact absurd k1 (neg k' k1')
    · exact ⟨0, I, J, R, I, J, R, k2, k2', xv_mono hv⟩
theorem ok_wide {x0 : Int32} : xo_ok xv m_X11_wide m_X12_wide q_X11_wide q_X12_wide [.int x0] := by
  intro i I J R hi hv
  obtain ⟨s, img, al, hs, hm, hK, hn⟩ := hv.2.2.1
  exact ⟨_, I, J, R, I, J, R, s_wide (d := 99) (J := J) (r := x0) hv.1 hs.1, s_wideR (d := 99) (J := J) (R := R) (r := x0) hv.1 hs.2.1, xv_mono hv⟩
theorem ok_cost {x0 : Int32} : xo_ok xv m_X11_cost m_X12_cost q_X11_cost q_X12_cost [.int x0] := by
  intro i I J R hi hv
  have hv0 := hv
  obtain ⟨hR, hT, ⟨s, img, al, hs, hm, hK, hn⟩, ⟨nc, hc, hh⟩, hl, hB⟩ := hv
  have hnc := hc.1
  have a1 := s_cost (d := 100) (J := J) (R := R) (n := x0) hc.2.1
  by_cases h : ¬ x0 < -1 ∧ ¬ nI nc ≤ x0
  · rw [if_pos h] at a1
    have h13 : xm_up I 0 14 x0 49 13 = nI nc := by rw [up_o (by decide)]; exact hc.2.2.1
    have a2 := s_costR (d := 99) (J := J) (R := R) (n := x0) (k := nc) (by omega) h13
    rw [if_pos h] at a2
    have hf : fq [] [(0, 14), (49, 30)] I (xm_up (xm_up I 0 14 x0) 49 30 x0) := fq_u2 (fq_u2 fq_rf (by decide)) (by decide)
    refine ⟨_, _, J, R, _, J, R, a1, a2, hR, ivT_q hT hf (by decide), ⟨s, img, al, slt_q hs hf (by decide), img_q hm hf (by decide), ivK_q hK hf (fun e => stN_q (stN_of hK) hf (by decide)) (Or.inl (by decide)) (Or.inl (by decide)) (Or.inl (by decide)) (Or.inl (by decide)) (Or.inl ⟨by decide, rfl⟩), fun e => nsl_q (hn e) hf (by decide)⟩, ⟨nc, coK_q hc hf (by decide), ?_⟩, lt_fq hf hl (by decide) (by decide), ivB_q hB hf (by decide)⟩
    have e1 : xm_up (xm_up I 0 14 x0) 49 30 x0 0 14 = x0 := by rw [up_o (by decide), up_s]
    have e2 : xm_up (xm_up I 0 14 x0) 49 30 x0 49 30 = x0 := up_s
    unfold hoK
    rw [e1, e2]
    obtain ⟨h1, h2⟩ := h
    rw [Int32.lt_iff_toInt_lt, show (-1 : Int32).toInt = -1 by decide] at h1
    rw [Int32.le_iff_toInt_le, nI_toInt (by omega)] at h2
    by_cases hz : x0.toInt = -1
    · refine Or.inl ?_
      have : x0 = nM := Int32.toInt_inj.mp (hz.trans nM_toInt.symm)
      exact ⟨this, this⟩
    · refine Or.inr ⟨x0.toInt.toNat, by omega, ?_⟩
      have : x0 = nI x0.toInt.toNat := Int32.toInt_inj.mp (by rw [nI_toInt (by omega)]; omega)
      exact ⟨this, this⟩
  · rw [if_neg h] at a1
    have a2 := s_costR (d := 99) (J := J) (R := R) (n := x0) (k := nc) (by omega) hc.2.2.1
    rw [if_neg h] at a2
    exact ⟨_, _, J, R, _, J, R, a1, a2, xv_mono hv0⟩
theorem ok_unlike : xo_ok xv m_X11_unlike m_X12_unlike q_X11_unlike q_X12_unlike [] := by
  intro i I J R hi hv
  obtain ⟨s, img, al, hs, hm, hK, hn⟩ := hv.2.2.1
  obtain ⟨v, a1, a2⟩ := o_unlike (d1 := 98) (d2 := 98) (J := J) hv.1 hs hm
  exact ⟨v, I, J, R, I, J, R, a1, a2, xv_mono hv⟩
theorem ok_count {x0 : Int32} : xo_ok xv m_X11_count m_X12_count q_X11_count q_X12_count [.int x0] := by
  intro i I J R hi hv
  obtain ⟨s, img, al, hs, hm, hK, hn⟩ := hv.2.2.1
  obtain ⟨tp, ha, hb, hc⟩ := hv.2.1
  obtain ⟨nc, hc, hh⟩ := hv.2.2.2.1
  obtain ⟨v, a1, a2⟩ := o_count (d1 := 96) (d2 := 97) (J := J) (w := x0) hv.1 hs ha.1 hb.1 hc.2.1 hc.2.2.1
  exact ⟨v, I, J, R, I, J, R, a1, a2, xv_mono hv⟩
theorem ok_image : xo_ok xv m_X11_image m_X12_image q_X11_image q_X12_image [] := by
  intro i I J R hi hv
  have hv0 := hv
  obtain ⟨hR, hT, ⟨s, img, al, hs, hm, hK, hn⟩, hC, hl, hB⟩ := hv
  obtain ⟨v, I1, I2, a1, a2, a3⟩ := o_image (d1 := 96) (d2 := 97) (J := J) hR hs
  refine ⟨v, I1, J, R, I2, J, R, a1, a2, ?_⟩
  rcases a3 with rfl | ⟨a3, hf⟩
  · exact xv_mono hv0
  · exact ⟨hR, ivT_q hT hf (by decide), ⟨s, s, al, slt_q hs hf (by decide), a3, ivK_q hK hf (fun e => stN_q (stN_of hK) hf (by decide)) (Or.inl (by decide)) (Or.inl (by decide)) (Or.inl (by decide)) (Or.inl (by decide)) (Or.inl ⟨by decide, rfl⟩), fun e => nsl_q (hn e) hf (by decide)⟩, ivC_q hC hf (by decide), lt_fq hf hl (by decide) (by decide), ivB_q hB hf (by decide)⟩
theorem ok_back : xo_ok xv m_X11_back m_X12_back q_X11_back q_X12_back [] := by
  intro i I J R hi hv
  have hv0 := hv
  obtain ⟨hR, hT, ⟨s, img, al, hs, hm, hK, hn⟩, hC, hl, c, k, b1, b2, b3, b4⟩ := hv
  obtain ⟨v, I1, I2, a1, a2, a3⟩ := o_back (d1 := 96) (d2 := 97) (J := J) hR hs hm
  refine ⟨v, I1, J, R, I2, J, R, a1, a2, ?_⟩
  rcases a3 with rfl | ⟨i0, _, h1, h2, h3, h4, hf⟩
  · exact xv_mono hv0
  · have e4 : I2 20 4 = nI (c + 1) := by rw [h3, b1, nI_add]
    have e5 : I2 20 5 = nI (k + 1) := by rw [h4, b2, nI_add]
    exact ⟨hR, ivT_q hT hf (by decide), ⟨some i0, some i0, [], h1, h2, ivK_new (stN_of hK) hf (by decide) b1 e4 b2 e5 (by omega) (by omega) (by omega) (by omega), fun e => (by cases e)⟩, ivC_q hC hf (by decide), lt_fq hf hl (by decide) (by decide), c + 1, k + 1, e4, e5, by omega, by omega⟩
theorem ok_drawn {u0 : Int64} {x1 : Int32} : xo_ok xv m_X11_drawn m_X12_drawn q_X11_drawn q_X12_drawn [.long u0, .int x1] := by
  intro i I J R hi hv
  have hv0 := hv
  obtain ⟨hR, hT, ⟨s, img, al, hs, hm, hK, hn⟩, hC, hl, c, k, b1, b2, b3, b4⟩ := hv
  obtain ⟨v, I1, I2, J1, J2, a1, a2, hJ, a3⟩ := o_drawn (d1 := 94) (d2 := 94) (J := J) (sd := u0) (w := x1) hR hs hm b1 b2
  have hJ44 : J2 44 3 = J 44 3 := hJ 44 3 (by decide) (by decide)
  refine ⟨v, I1, J1, R, I2, J2, R, a1, a2, ?_⟩
  rcases a3 with rfl | ⟨s', c', k', _, h1, h2, e4, h4, h5, e5, h7, h8, hf⟩
  · refine ⟨hR, hT, ⟨s, img, al, hs, hm, ?_, hn⟩, hC, hl, c, k, b1, b2, by omega, by omega⟩
    exact ivK_q (S := []) (F := []) hK fq_rf (fun e => stN_of hK) (Or.inl (by decide)) (Or.inl (by decide)) (Or.inl (by decide)) (Or.inl (by decide)) (Or.inl ⟨by decide, hJ44⟩)
  · exact ⟨hR, ivT_q hT hf (by decide), ⟨some s', img, [], h1, h2, ivK_new (stN_of hK) hf (by decide) b1 e4 b2 e5 (by omega) (by omega) (by omega) (by omega), fun e => (by cases e)⟩, ivC_q hC hf (by decide), lt_fq hf hl (by decide) (by decide), c', k', e4, e5, by omega, by omega⟩
theorem ok_cheap {x0 : Int32} : xo_ok xv m_X11_cheap m_X12_cheap q_X11_cheap q_X12_cheap [.int x0] := by
  intro i I J R hi hv
  obtain ⟨hR, hT, ⟨s, img, al, hs, hm, hK, hn⟩, hC, hl, hB⟩ := hv
  obtain ⟨nc, hc, hh⟩ := id hC
  obtain ⟨v, I1, I2, R1, a1, a2, aR, a3, a4, a5, a6⟩ := o_cheap (d1 := 69) (d2 := 94) (J := J) (w := x0) hR hs.1 hs.2.1 (fun s' e => by subst e; exact hK.1) hc hh hl
  exact ⟨v, I1, J, R1, I2, J, R1, a1, a2, ask_fin hT hs hm (fun e => by rw [a5 e]; exact hn e) hC a6 hB aR a3 (by decide) (ivK_q hK a3 (fun e => by rw [a5 e]; exact stN_of hK) (Or.inr a4) (Or.inl (by decide)) (Or.inl (by decide)) (Or.inl (by decide)) (Or.inl ⟨by decide, rfl⟩))⟩
end OPSB
