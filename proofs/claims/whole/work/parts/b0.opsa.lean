/-! the law's calls keep the invariant -/
section OPSA
variable {I I2 : xm_I} {J J2 : xm_J} {R R2 : xm_R} {s img : Option ab_sl} {al : List (Nat × Nat)} {S C C' : List Nat} {F L L' : List (Nat × Nat)} {i : Nat}
theorem nt_m (h : nt C L S F) (hC : ∀ o ∈ C', o ∈ C) (hL : ∀ t ∈ L', t ∈ L) : nt C' L' S F := ⟨fun o ho => ⟨fun z => (h.1 o ho).1 (hC o z), fun t ht => (h.1 o ho).2 t (hL t ht)⟩, fun u hu => ⟨fun z => (h.2 u hu).1 (hC _ z), fun z => (h.2 u hu).2 (hL u z)⟩⟩
theorem xv_mono (h : xv i I J R) : xv (i + 6) I J R := by
  obtain ⟨a, b, c, d, e, f1, f2, g1, g2, g3, g4⟩ := h
  exact ⟨a, b, c, d, e, f1, f2, g1, g2, by omega, by omega⟩
abbrev askC : List Nat := [2, 50] ++ (slC ++ ([24, 25, 75, 76] ++ coC))
abbrev askL : List (Nat × Nat) := tpL ++ (slL ++ (imL ++ ((0, 14) :: (49, 30) :: coL ++ [(20, 4), (20, 5)])))
theorem ask_fin (hT : ivT I) (hs : o_slt I s al) (hi : o_img I s img) (hn : s = none → nsl I2) (hC : ivC I) (hl : ∃ en, lt_ok I2 en) (hB : ivB i I) (hR : xm_HR R2) (hf : fq S F I I2) (hq : nt askC askL S F) (hK : ivK I2 J2 s) : xv (i + 6) I2 J2 R2 :=
  ⟨hR, ivT_q hT hf (nt_m hq (by decide) (by decide)), ⟨s, img, al, slt_q hs hf (nt_m hq (by decide) (by decide)), img_q hi hf (nt_m hq (by decide) (by decide)), hK, hn⟩, ivC_q hC hf (nt_m hq (by decide) (by decide)), hl, ivB_q hB hf (nt_m hq (by decide) (by decide))⟩
theorem img_sh {s0 s1 : ab_sl} (h : o_img I (some s0) img) (e : ab_k s1 = ab_k s0 ∧ ab_b s1 = ab_b s0 ∧ ab_re s1 = ab_re s0 ∧ ab_ro s1 = ab_ro s0) : o_img I (some s1) img := by
  cases img with
  | none => exact h
  | some i =>
    obtain ⟨a1, a2, a3, a4, a5, s', es, b1, b2, b3, b4⟩ := h
    cases es
    exact ⟨a1, a2, a3, a4, a5, s1, rfl, b1.trans e.1.symm, b2.trans e.2.1.symm, b3.trans e.2.2.1.symm, b4.trans e.2.2.2.symm⟩
theorem chg_fin (hi6 : i < 3072) (hv : xv i I J R) (hs : o_slt I s al) (hm : o_img I s img) (hK : ivK I J s) (h : o_out I I2 s) : xv (i + 6) I2 J R := by
  rcases h with rfl | ⟨s0, rfl, q, g, al', t1, t2, t3, t4, t5, t6, t7, t8, t9, t10⟩
  · exact xv_mono hv
  · obtain ⟨hR, hT, _, hC, hl, c, k, b1, b2, b3, b4⟩ := hv
    have e4 : I2 20 4 = nI (c + 1) := by rw [t9, b1, nI_add]
    exact ⟨hR, ivT_q hT t10 (by decide), ⟨some (ab_put s0 q g), img, al', ⟨t4, t5, t6, t7, fun s' e => (by cases e; exact t8), fun e => (by cases e)⟩, img_sh (img_q hm t10 (by decide)) ⟨rfl, rfl, rfl, rfl⟩, ivK_put hK t10 (by decide) b1 e4 (by omega) (by omega), fun e => (by cases e)⟩, ivC_q hC t10 (by decide), lt_fq t10 hl (by decide) (by decide), c + 1, k, e4, by rw [t10 20 5 (by decide) (by decide)]; exact b2, by omega, by omega⟩
theorem ok_answers {w : Int32} : xo_ok xv m_X11_answers m_X12_answers q_X11_answers q_X12_answers [.int w] := by
  intro i I J R hi hv
  have hv0 := hv
  obtain ⟨hR, hT, ⟨s, img, al, hs, hm, hK, hn⟩, hC, hl, hB⟩ := hv
  obtain ⟨v, I1, I2, a1, a2, a3, a4, a5⟩ := o_answers (d1 := 93) (d2 := 95) (J := J) (w := w) hR hs.1 hs.2.1 (fun s' e => by subst e; exact hK.1)
  exact ⟨v, I1, J, R, I2, J, R, a1, a2, ask_fin hT hs hm (fun e => by rw [a5 e]; exact hn e) hC (lt_fq a3 hl (by decide) (by decide)) hB hR a3 (by decide) (ivK_q hK a3 (fun e => by rw [a5 e]; exact stN_of hK) (Or.inr a4) (Or.inl (by decide)) (Or.inl (by decide)) (Or.inl (by decide)) (Or.inl ⟨by decide, rfl⟩))⟩
theorem ok_can {r q : Int32} : xo_ok xv m_X11_can m_X12_can q_X11_can q_X12_can [.int r, .int q] := by
  intro i I J R hi hv
  have hv0 := hv
  obtain ⟨hR, hT, ⟨s, img, al, hs, hm, hK, hn⟩, hC, hl, hB⟩ := hv
  obtain ⟨v, I1, I2, a1, a2, a3, a4, a5⟩ := o_can (d1 := 93) (d2 := 94) (J := J) (r := r) (q := q) hR hs.1 hs.2.1 (fun s' e => by subst e; exact hK.1)
  exact ⟨v, I1, J, R, I2, J, R, a1, a2, ask_fin hT hs hm (fun e => by rw [a5 e]; exact hn e) hC (lt_fq a3 hl (by decide) (by decide)) hB hR a3 (by decide) (ivK_q hK a3 (fun e => by rw [a5 e]; exact stN_of hK) (Or.inr a4) (Or.inl (by decide)) (Or.inl (by decide)) (Or.inl (by decide)) (Or.inl ⟨by decide, rfl⟩))⟩
theorem ok_sure {r q : Int32} : xo_ok xv m_X11_sure m_X12_sure q_X11_sure q_X12_sure [.int r, .int q] := by
  intro i I J R hi hv
  have hv0 := hv
  obtain ⟨hR, hT, ⟨s, img, al, hs, hm, hK, hn⟩, hC, hl, hB⟩ := hv
  obtain ⟨v, I1, I2, a1, a2, a3, a4, a5⟩ := o_sure (d1 := 93) (d2 := 94) (J := J) (r := r) (q := q) hR hs.1 hs.2.1 (fun s' e => by subst e; exact hK.1)
  exact ⟨v, I1, J, R, I2, J, R, a1, a2, ask_fin hT hs hm (fun e => by rw [a5 e]; exact hn e) hC (lt_fq a3 hl (by decide) (by decide)) hB hR a3 (by decide) (ivK_q hK a3 (fun e => by rw [a5 e]; exact stN_of hK) (Or.inr a4) (Or.inl (by decide)) (Or.inl (by decide)) (Or.inl (by decide)) (Or.inl ⟨by decide, rfl⟩))⟩
theorem ok_letter {w : Int32} : xo_ok xv m_X11_letter m_X12_letter q_X11_letter q_X12_letter [.int w] := by
  intro i I J R hi hv
  have hv0 := hv
  obtain ⟨hR, hT, ⟨s, img, al, hs, hm, hK, hn⟩, hC, hl, hB⟩ := hv
  obtain ⟨v, I1, I2, a1, a2, a3, a4, a5⟩ := o_letter (d1 := 93) (d2 := 94) (J := J) (w := w) hR hs.1 hs.2.1 (fun s' e => by subst e; exact hK.1)
  exact ⟨v, I1, J, R, I2, J, R, a1, a2, ask_fin hT hs hm (fun e => by rw [a5 e]; exact hn e) hC (lt_fq a3 hl (by decide) (by decide)) hB hR a3 (by decide) (ivK_q hK a3 (fun e => by rw [a5 e]; exact stN_of hK) (Or.inr a4) (Or.inl (by decide)) (Or.inl (by decide)) (Or.inl (by decide)) (Or.inl ⟨by decide, rfl⟩))⟩
theorem ok_known : xo_ok xv m_X11_known m_X12_known q_X11_known q_X12_known [] := by
  intro i I J R hi hv
  have hv0 := hv
  obtain ⟨hR, hT, ⟨s, img, al, hs, hm, hK, hn⟩, hC, hl, hB⟩ := hv
  obtain ⟨v, I1, I2, a1, a2, a3, a4, a5⟩ := o_known (d1 := 93) (d2 := 94) (J := J) hR hs.1 hs.2.1 (fun s' e => by subst e; exact hK.1)
  exact ⟨v, I1, J, R, I2, J, R, a1, a2, ask_fin hT hs hm (fun e => by rw [a5 e]; exact hn e) hC (lt_fq a3 hl (by decide) (by decide)) hB hR a3 (by decide) (ivK_q hK a3 (fun e => by rw [a5 e]; exact stN_of hK) (Or.inr a4) (Or.inl (by decide)) (Or.inl (by decide)) (Or.inl (by decide)) (Or.inl ⟨by decide, rfl⟩))⟩
theorem ok_looks {w : Int32} : xo_ok xv m_X11_looks m_X12_looks q_X11_looks q_X12_looks [.int w] := by
  intro i I J R hi hv
  have hv0 := hv
  obtain ⟨hR, hT, ⟨s, img, al, hs, hm, hK, hn⟩, hC, hl, hB⟩ := hv
  obtain ⟨v, I1, I2, a1, a2, a3, a4, a5⟩ := o_looks (d1 := 93) (d2 := 94) (J := J) (w := w) hR hs.1 hs.2.1 (fun s' e => by subst e; exact hK.1)
  exact ⟨v, I1, J, R, I2, J, R, a1, a2, ask_fin hT hs hm (fun e => by rw [a5 e]; exact hn e) hC (lt_fq a3 hl (by decide) (by decide)) hB hR a3 (by decide) (ivK_q hK a3 (fun e => by rw [a5 e]; exact stN_of hK) (Or.inr a4) (Or.inl (by decide)) (Or.inl (by decide)) (Or.inl (by decide)) (Or.inl ⟨by decide, rfl⟩))⟩
theorem ok_thumb {w : Int32} : xo_ok xv m_X11_thumb m_X12_thumb q_X11_thumb q_X12_thumb [.int w] := by
  intro i I J R hi hv
  have hv0 := hv
  obtain ⟨hR, hT, ⟨s, img, al, hs, hm, hK, hn⟩, hC, hl, hB⟩ := hv
  obtain ⟨v, I1, I2, a1, a2, a3, a4, a5⟩ := o_thumb (d1 := 93) (d2 := 94) (J := J) (w := w) hR hs.1 hs.2.1 (fun s' e => by subst e; exact hK.2.1)
  exact ⟨v, I1, J, R, I2, J, R, a1, a2, ask_fin hT hs hm (fun e => by rw [a5 e]; exact hn e) hC (lt_fq a3 hl (by decide) (by decide)) hB hR a3 (by decide) (ivK_q hK a3 (fun e => by rw [a5 e]; exact stN_of hK) (Or.inl (by decide)) (Or.inr a4) (Or.inl (by decide)) (Or.inl (by decide)) (Or.inl ⟨by decide, rfl⟩))⟩
theorem ok_heart : xo_ok xv m_X11_heart m_X12_heart q_X11_heart q_X12_heart [] := by
  intro i I J R hi hv
  have hv0 := hv
  obtain ⟨hR, hT, ⟨s, img, al, hs, hm, hK, hn⟩, hC, hl, hB⟩ := hv
  obtain ⟨v, I1, I2, a1, a2, a3, a4, a5⟩ := o_heart (d1 := 93) (d2 := 94) (J := J) hR hs.1 hs.2.1 (fun s' e => by subst e; exact hK.2.2.1)
  exact ⟨v, I1, J, R, I2, J, R, a1, a2, ask_fin hT hs hm (fun e => by rw [a5 e]; exact hn e) hC (lt_fq a3 hl (by decide) (by decide)) hB hR a3 (by decide) (ivK_q hK a3 (fun e => by rw [a5 e]; exact stN_of hK) (Or.inl (by decide)) (Or.inl (by decide)) (Or.inr a4) (Or.inl (by decide)) (Or.inl ⟨by decide, rfl⟩))⟩
theorem ok_slip {w : Int32} : xo_ok xv m_X11_slip m_X12_slip q_X11_slip q_X12_slip [.int w] := by
  intro i I J R hi hv
  have hv0 := hv
  obtain ⟨hR, hT, ⟨s, img, al, hs, hm, hK, hn⟩, hC, hl, hB⟩ := hv
  obtain ⟨v, I1, I2, a1, a2, a3, a4, a5⟩ := o_slip (d1 := 93) (d2 := 96) (J := J) (w := w) hR hs.1 hs.2.1 (fun s' e => by subst e; exact hK.2.2.2.1)
  exact ⟨v, I1, J, R, I2, J, R, a1, a2, ask_fin hT hs hm (fun e => by rw [a5 e]; exact hn e) hC (lt_fq a3 hl (by decide) (by decide)) hB hR a3 (by decide) (ivK_q hK a3 (fun e => by rw [a5 e]; exact stN_of hK) (Or.inl (by decide)) (Or.inl (by decide)) (Or.inl (by decide)) (Or.inr a4) (Or.inl ⟨by decide, rfl⟩))⟩
theorem ok_mend : xo_ok xv m_X11_mend m_X12_mend q_X11_mend q_X12_mend [] := by
  intro i I J R hi hv
  have hv0 := hv
  obtain ⟨hR, hT, ⟨s, img, al, hs, hm, hK, hn⟩, hC, hl, hB⟩ := hv
  obtain ⟨v, I1, I2, a1, a2, a3, a4, a5⟩ := o_mend (d1 := 93) (d2 := 96) (J := J) hR hs.1 hs.2.1 (fun s' e => by subst e; exact hK.2.2.2.1)
  exact ⟨v, I1, J, R, I2, J, R, a1, a2, ask_fin hT hs hm (fun e => by rw [a5 e]; exact hn e) hC (lt_fq a3 hl (by decide) (by decide)) hB hR a3 (by decide) (ivK_q hK a3 (fun e => by rw [a5 e]; exact stN_of hK) (Or.inl (by decide)) (Or.inl (by decide)) (Or.inl (by decide)) (Or.inr a4) (Or.inl ⟨by decide, rfl⟩))⟩
theorem ok_best {w : Int32} : xo_ok xv m_X11_best m_X12_best q_X11_best q_X12_best [.int w] := by
  intro i I J R hi hv
  have hv0 := hv
  obtain ⟨hR, hT, ⟨s, img, al, hs, hm, hK, hn⟩, hC, hl, hB⟩ := hv
  obtain ⟨v, I1, I2, a1, a2, a3, a4, a5⟩ := o_best (d1 := 93) (d2 := 94) (J := J) (w := w) hR hs.1 hs.2.1 (fun s' e => by subst e; exact hK.1) hn
  have hst : s = none → stN I2 := fun e => by
    obtain ⟨z1, z2⟩ := a3 e
    obtain ⟨b1, b2, b3, b4, b5⟩ := stN_of hK
    refine ⟨Or.inl z2, ?_, ?_, ?_, ?_⟩
    · rw [z1 38 8 (by decide) (by decide), z1 20 4 (by decide) (by decide)]; exact b2
    · rw [z1 38 9 (by decide) (by decide), z1 20 5 (by decide) (by decide)]; exact b3
    · rw [z1 42 5 (by decide) (by decide), z1 20 4 (by decide) (by decide)]; exact b4
    · rw [z1 44 4 (by decide) (by decide), z1 20 4 (by decide) (by decide)]; exact b5
  exact ⟨v, I1, J, R, I2, J, R, a1, a2, ask_fin hT hs hm (fun e => nsl_q (hn e) (a3 e).1 (by decide)) hC (lt_fq a4 hl (by decide) (by decide)) hB hR a4 (by decide) (ivK_q hK a4 hst (Or.inr a5) (Or.inl (by decide)) (Or.inl (by decide)) (Or.inl (by decide)) (Or.inl ⟨by decide, rfl⟩))⟩
theorem ok_mean {w : Int32} : xo_ok xv m_X11_mean m_X12_mean q_X11_mean q_X12_mean [.int w] := by
  intro i I J R hi hv
  have hv0 := hv
  obtain ⟨hR, hT, ⟨s, img, al, hs, hm, hK, hn⟩, hC, hl, hB⟩ := hv
  obtain ⟨v, I1, I2, a1, a2, a3, a4, a5⟩ := o_mean (d1 := 93) (d2 := 94) (J := J) (w := w) hR hs.1 hs.2.1 (fun s' e => by subst e; exact hK.1) hn
  have hst : s = none → stN I2 := fun e => by
    obtain ⟨z1, z2⟩ := a3 e
    obtain ⟨b1, b2, b3, b4, b5⟩ := stN_of hK
    refine ⟨Or.inl z2, ?_, ?_, ?_, ?_⟩
    · rw [z1 38 8 (by decide) (by decide), z1 20 4 (by decide) (by decide)]; exact b2
    · rw [z1 38 9 (by decide) (by decide), z1 20 5 (by decide) (by decide)]; exact b3
    · rw [z1 42 5 (by decide) (by decide), z1 20 4 (by decide) (by decide)]; exact b4
    · rw [z1 44 4 (by decide) (by decide), z1 20 4 (by decide) (by decide)]; exact b5
  exact ⟨v, I1, J, R, I2, J, R, a1, a2, ask_fin hT hs hm (fun e => nsl_q (hn e) (a3 e).1 (by decide)) hC (lt_fq a4 hl (by decide) (by decide)) hB hR a4 (by decide) (ivK_q hK a4 hst (Or.inr a5) (Or.inl (by decide)) (Or.inl (by decide)) (Or.inl (by decide)) (Or.inl ⟨by decide, rfl⟩))⟩
theorem ok_lean {w : Int32} : xo_ok xv m_X11_lean m_X12_lean q_X11_lean q_X12_lean [.int w] := by
  intro i I J R hi hv
  have hv0 := hv
  obtain ⟨hR, hT, ⟨s, img, al, hs, hm, hK, hn⟩, hC, hl, hB⟩ := hv
  obtain ⟨v, I1, I2, J1, a1, a2, a3, a4, a5, a6⟩ := o_lean (d1 := 93) (d2 := 94) (J := J) (w := w) hR hs.1 hs.2.1 (fun s' e => by subst e; exact hK.2.2.2.2)
  exact ⟨v, I1, J1, R, I2, J1, R, a1, a2, ask_fin hT hs hm (fun e => by rw [a6 e]; exact hn e) hC (lt_fq a3 hl (by decide) (by decide)) hB hR a3 (by decide) (ivK_q hK a3 (fun e => by rw [a6 e]; exact stN_of hK) (Or.inl (by decide)) (Or.inl (by decide)) (Or.inl (by decide)) (Or.inl (by decide)) (Or.inr a5))⟩
theorem ok_wrong : xo_ok xv m_X11_wrong m_X12_wrong q_X11_wrong q_X12_wrong [] := by
  intro i I J R hi hv
  have hv0 := hv
  obtain ⟨hR, hT, ⟨s, img, al, hs, hm, hK, hn⟩, hC, hl, hB⟩ := hv
  obtain ⟨v, I1, I2, a1, a2, a3, _⟩ := o_wrong (d1 := 96) (d2 := 96) (J := J) hR hs.1 hs.2.1 
  exact ⟨v, I1, J, R, I2, J, R, a1, a2, ask_fin hT hs hm (fun e => nsl_q (hn e) a3 (by decide)) hC (lt_fq a3 hl (by decide) (by decide)) hB hR a3 (by decide) (ivK_q hK a3 (fun e => stN_q (stN_of hK) a3 (by decide)) (Or.inl (by decide)) (Or.inl (by decide)) (Or.inl (by decide)) (Or.inl (by decide)) (Or.inl ⟨by decide, rfl⟩))⟩
theorem ok_tell {r q f : Int32} : xo_ok xv m_X11_tell m_X12_tell q_X11_tell q_X12_tell [.int r, .int q, .int f] := by
  intro i I J R hi hv
  have hv0 := hv
  obtain ⟨hR, hT, ⟨s, img, al, hs, hm, hK, hn⟩, hC, hl, hB⟩ := hv
  obtain ⟨v, I1, I2, a1, a2, a3⟩ := o_tell (d1 := 97) (d2 := 98) (J := J) (r := r) (q := q) (f := f) hR hs
  exact ⟨v, I1, J, R, I2, J, R, a1, a2, chg_fin hi hv0 hs hm hK a3⟩
theorem ok_rub {r q : Int32} : xo_ok xv m_X11_rub m_X12_rub q_X11_rub q_X12_rub [.int r, .int q] := by
  intro i I J R hi hv
  have hv0 := hv
  obtain ⟨hR, hT, ⟨s, img, al, hs, hm, hK, hn⟩, hC, hl, hB⟩ := hv
  obtain ⟨v, I1, I2, a1, a2, a3⟩ := o_rub (d1 := 97) (d2 := 98) (J := J) (r := r) (q := q) hR hs
  exact ⟨v, I1, J, R, I2, J, R, a1, a2, chg_fin hi hv0 hs hm hK a3⟩
theorem ok_undo : xo_ok xv m_X11_undo m_X12_undo q_X11_undo q_X12_undo [] := by
  intro i I J R hi hv
  have hv0 := hv
  obtain ⟨hR, hT, ⟨s, img, al, hs, hm, hK, hn⟩, hC, hl, hB⟩ := hv
  obtain ⟨v, I1, I2, a1, a2, a3⟩ := o_undo (d1 := 97) (d2 := 98) (J := J) hR hs
  exact ⟨v, I1, J, R, I2, J, R, a1, a2, chg_fin hi hv0 hs hm hK a3⟩
end OPSA
