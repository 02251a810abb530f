/-! all calls but at; the start -/
section ALL
variable {I : xm_I} {J : xm_J} {R : xm_R}
theorem xv_all : xo_all xv := ⟨fun _ _ _ _ _ => ok_feed, fun _ => ok_end, fun _ => ok_fault, fun _ => ok_text, fun _ => ok_wide, fun _ => ok_cost, fun _ _ _ => ok_tell, fun _ _ => ok_rub, ok_undo, fun _ => ok_answers, fun _ _ => ok_can, fun _ _ => ok_sure, fun _ => ok_letter, ok_known, ok_wrong, fun _ => ok_best, fun _ => ok_cheap, fun _ => ok_mean, fun _ => ok_looks, fun _ => ok_slip, fun _ => ok_thumb, ok_mend, fun _ => ok_lean, ok_heart, fun _ _ => ok_drawn, ok_image, ok_back, ok_unlike, fun _ => ok_count⟩
theorem ck_I (h : xm_ck I J R = true) {o k kd sz : Nat} (hl : (xm_lc ++ xm_lm)[o]? = some (kd, sz)) (hk : ¬ 100 ≤ kd) (hs : k < sz) : I o k = xm_iv o k := by
  unfold xm_ck at h
  rw [Bool.and_eq_true] at h
  have h1 := List.all_eq_true.mp h.2 ((kd, sz), o) (List.mk_mem_zipIdx_iff_getElem?.mpr hl)
  rw [Bool.or_eq_true] at h1
  rcases h1 with h1 | h1
  · exact absurd (of_decide_eq_true h1) hk
  · have h2 := List.all_eq_true.mp h1 k (List.mem_range.mpr hs)
    rw [Bool.and_eq_true] at h2
    exact of_decide_eq_true h2.1
theorem xv_init (I : xm_I) (J : xm_J) (R : xm_R) (h : xk_ck I J R = true) : xv 0 I (xm_zr J 77 0) R := by
  unfold xk_ck at h
  rw [Bool.and_eq_true] at h
  obtain ⟨h, hx⟩ := h
  obtain ⟨x0, x1, x2, x3, x4, x5, x6, x7⟩ := of_decide_eq_true hx
  have hR : xm_HR R := by
    intro r hr _
    have h' := h
    unfold xm_ck at h'
    rw [Bool.and_eq_true] at h'
    exact of_decide_eq_true (List.all_eq_true.mp h'.1 r hr)
  have i1_1 : I 1 1 = nI 0 := (ck_I h (o := 1) (k := 1) rfl (by decide) (by decide)).trans (by decide)
  have i49_2 : I 49 2 = nI 0 := (ck_I h (o := 49) (k := 2) rfl (by decide) (by decide)).trans (by decide)
  have i20_0 : I 20 0 = nM := (ck_I h (o := 20) (k := 0) rfl (by decide) (by decide)).trans (by decide)
  have i20_1 : I 20 1 = nI 10 := (ck_I h (o := 20) (k := 1) rfl (by decide) (by decide)).trans (by decide)
  have i20_3 : I 20 3 = nI 0 := (ck_I h (o := 20) (k := 3) rfl (by decide) (by decide)).trans (by decide)
  have i20_4 : I 20 4 = nI 0 := (ck_I h (o := 20) (k := 4) rfl (by decide) (by decide)).trans (by decide)
  have i20_5 : I 20 5 = nI 0 := (ck_I h (o := 20) (k := 5) rfl (by decide) (by decide)).trans (by decide)
  have i49_25 : I 49 25 = nM := (ck_I h (o := 49) (k := 25) rfl (by decide) (by decide)).trans (by decide)
  have i49_26 : I 49 26 = nI 0 := (ck_I h (o := 49) (k := 26) rfl (by decide) (by decide)).trans (by decide)
  have i49_27 : I 49 27 = nI 0 := (ck_I h (o := 49) (k := 27) rfl (by decide) (by decide)).trans (by decide)
  have i49_28 : I 49 28 = nI 0 := (ck_I h (o := 49) (k := 28) rfl (by decide) (by decide)).trans (by decide)
  have i26_2 : I 26 2 = nI 0 := (ck_I h (o := 26) (k := 2) rfl (by decide) (by decide)).trans (by decide)
  have i26_3 : I 26 3 = nI 0 := (ck_I h (o := 26) (k := 3) rfl (by decide) (by decide)).trans (by decide)
  have i49_29 : I 49 29 = nI 0 := (ck_I h (o := 49) (k := 29) rfl (by decide) (by decide)).trans (by decide)
  have i0_15 : I 0 15 = nI 0 := (ck_I h (o := 0) (k := 15) rfl (by decide) (by decide)).trans (by decide)
  have i49_50 : I 49 50 = nI 0 := (ck_I h (o := 49) (k := 50) rfl (by decide) (by decide)).trans (by decide)
  have i38_7 : I 38 7 = nM := (ck_I h (o := 38) (k := 7) rfl (by decide) (by decide)).trans (by decide)
  have i38_8 : I 38 8 = nM := (ck_I h (o := 38) (k := 8) rfl (by decide) (by decide)).trans (by decide)
  have i38_9 : I 38 9 = nM := (ck_I h (o := 38) (k := 9) rfl (by decide) (by decide)).trans (by decide)
  have i42_5 : I 42 5 = nM := (ck_I h (o := 42) (k := 5) rfl (by decide) (by decide)).trans (by decide)
  have i44_4 : I 44 4 = nM := (ck_I h (o := 44) (k := 4) rfl (by decide) (by decide)).trans (by decide)
  have i0_13 : I 0 13 = nI 0 := (ck_I h (o := 0) (k := 13) rfl (by decide) (by decide)).trans (by decide)
  have i49_13 : I 49 13 = nI 0 := (ck_I h (o := 49) (k := 13) rfl (by decide) (by decide)).trans (by decide)
  have i0_14 : I 0 14 = nM := (ck_I h (o := 0) (k := 14) rfl (by decide) (by decide)).trans (by decide)
  have i49_30 : I 49 30 = nM := (ck_I h (o := 49) (k := 30) rfl (by decide) (by decide)).trans (by decide)
  refine ⟨hR, ivT_0 i1_1 i49_2, ⟨none, none, [], ⟨⟨i20_0, i20_3⟩, ⟨i49_25, i49_26, i49_27, i49_28⟩, ⟨by simp, i26_3, 0, by omega, i26_2, fun j q g hj => by simp at hj⟩, ⟨by simp, i49_29, fun j q g hj => by simp at hj⟩, fun s' e => (by cases e), fun _ => rfl⟩, ⟨i0_15, i49_50⟩, ⟨Or.inr (Or.inl i38_7), Or.inr (Or.inl i38_8), Or.inr (Or.inl i38_9), Or.inr (Or.inl i42_5), Or.inr (Or.inl i44_4)⟩, fun _ => ⟨x5, x6, x7, i20_1⟩⟩, ⟨0, ⟨by omega, i0_13, i49_13, fun j hj => by omega⟩, Or.inl ⟨i0_14, i49_30⟩⟩, ⟨fun _ => nI 0, fun j hj => ⟨?_, okv_n (by omega)⟩⟩, 0, 0, i20_4, i20_5, by omega, by omega⟩
  have : j = 0 ∨ j = 1 ∨ j = 2 ∨ j = 3 ∨ j = 4 := by omega
  rcases this with rfl | rfl | rfl | rfl | rfl
  · exact x0
  · exact x1
  · exact x2
  · exact x3
  · exact x4
end ALL
