/-! the invariant of the law's loop -/
section INV
variable {I I2 : xm_I} {J J2 : xm_J} {R R2 : xm_R} {s img : Option ab_sl} {al : List (Nat × Nat)} {S C : List Nat} {F L : List (Nat × Nat)}
/-- neither the cells C nor the fields L are among what changes -/
abbrev nt (C : List Nat) (L : List (Nat × Nat)) (S : List Nat) (F : List (Nat × Nat)) : Prop := (∀ o ∈ S, o ∉ C ∧ ∀ t ∈ L, ¬ t.1 = o) ∧ ∀ u ∈ F, u.1 ∉ C ∧ u ∉ L
theorem nt_c (h : nt C L S F) (hf : fq S F I I2) {o : Nat} (ho : o ∈ C) : I2 o = I o := fq_c hf (fun z => (h.1 o z).1 ho) (fun t ht e => (h.2 t ht).1 (e ▸ ho))
theorem nt_l (h : nt C L S F) (hf : fq S F I I2) {o k : Nat} (ho : (o, k) ∈ L) : I2 o k = I o k := hf o k (fun z => (h.1 o z).2 (o, k) ho rfl) (fun z => (h.2 _ z).2 ho)
def tpL : List (Nat × Nat) := [(1, 1), (49, 2)]
def slC : List Nat := [21, 22, 27, 28, 62, 63, 64, 65]
def slL : List (Nat × Nat) := [(20, 0), (20, 1), (20, 2), (20, 3), (26, 2), (26, 3), (49, 25), (49, 26), (49, 27), (49, 28), (49, 29)]
def imL : List (Nat × Nat) := [(0, 15), (49, 50), (23, 0), (23, 1), (23, 2), (23, 3)]
def ivT (I : xm_I) : Prop := ∃ tp : List Int32, tpr I 1 1 2 tp ∧ tpr I 49 2 50 tp ∧ ∀ b ∈ tp, ∃ k, k < 256 ∧ b = nI k
def stN (I : xm_I) : Prop := stK (I 38 7) (I 20 4) ∧ stK (I 38 8) (I 20 4) ∧ stK (I 38 9) (I 20 5) ∧ stK (I 42 5) (I 20 4) ∧ stK (I 44 4) (I 20 4)
def ivK (I : xm_I) (J : xm_J) (s : Option ab_sl) : Prop := match s with
  | none => stN I
  | some s => caR I s ∧ caV I s ∧ caH I s ∧ caS I s ∧ caL I J s
def ivS (I : xm_I) (J : xm_J) : Prop := ∃ (s img : Option ab_sl) (al : List (Nat × Nat)), o_slt I s al ∧ o_img I s img ∧ ivK I J s ∧ (s = none → nsl I)
def ivC (I : xm_I) : Prop := ∃ nc, coK I nc ∧ hoK I nc
def ivB (i : Nat) (I : xm_I) : Prop := ∃ c h, I 20 4 = nI c ∧ I 20 5 = nI h ∧ c ≤ 120 * i ∧ h ≤ 120 * i
def xv (i : Nat) (I : xm_I) (J : xm_J) (R : xm_R) : Prop := xm_HR R ∧ ivT I ∧ ivS I J ∧ ivC I ∧ (∃ en, lt_ok I en) ∧ ivB i I
theorem stN_of (h : ivK I J s) : stN I := by
  cases s with
  | none => exact h
  | some s => exact ⟨h.1.2, h.2.1.2, h.2.2.1.2, h.2.2.2.1.2, h.2.2.2.2.2⟩
theorem inj30 {x y : Nat} (hx : x < 2 ^ 30) (hy : y < 2 ^ 30) (z : nI x = nI y) : x = y := by
  have := congrArg Int32.toInt z
  rw [nI_toInt (by omega), nI_toInt (by omega)] at this
  omega
theorem stK_up {a b b' : Int32} {c c' : Nat} (h : stK a b) (e : b = nI c) (e' : b' = nI c') (hl : c < c') (hc : c' < 2 ^ 30) : ¬ a = b' ∧ stK a b' := by
  subst e'
  rcases h with h | h | ⟨t, c0, h1, h2, h3, h4⟩
  · rw [h, e]
    exact ⟨fun z => by have := inj30 (by omega) hc z; omega, Or.inr (Or.inr ⟨c, c', rfl, rfl, hl, hc⟩)⟩
  · rw [h]
    exact ⟨fun z => (of_eq_false (m_eq (a := c') (by omega))) z, Or.inr (Or.inl rfl)⟩
  · have : c0 = c := inj30 h4 (by omega) (h2.symm.trans e)
    rw [h1]
    exact ⟨fun z => by have := inj30 (by omega) hc z; omega, Or.inr (Or.inr ⟨t, c', rfl, rfl, by omega, hc⟩)⟩
theorem ivT_q (h : ivT I) (hf : fq S F I I2) (hq : nt [2, 50] tpL S F) : ivT I2 := by
  obtain ⟨tp, a, b, c⟩ := h
  have e2 := nt_c hq hf (o := 2) (by decide)
  have e50 := nt_c hq hf (o := 50) (by decide)
  exact ⟨tp, ⟨by rw [nt_l hq hf (o := 1) (k := 1) (by decide)]; exact a.1, a.2.1, fun j v hv => by rw [e2]; exact a.2.2 j v hv⟩, ⟨by rw [nt_l hq hf (o := 49) (k := 2) (by decide)]; exact b.1, b.2.1, fun j v hv => by rw [e50]; exact b.2.2 j v hv⟩, c⟩
theorem shC_e {o : Nat} (h : shC I o s) (h0 : I2 o 0 = I o 0) (h1 : I2 o 1 = I o 1) (h2 : I2 o 2 = I o 2) (h3 : I2 o 3 = I o 3) (c1 : I2 (o + 1) = I (o + 1)) (c2 : I2 (o + 2) = I (o + 2)) : shC I2 o s := by
  cases s with
  | none => exact ⟨by rw [h0]; exact h.1, by rw [h3]; exact h.2⟩
  | some s =>
    obtain ⟨a1, a2, a3, a4, a5, a6, a7⟩ := h
    exact ⟨a1, by rw [h0]; exact a2, by rw [h1]; exact a3, by rw [h2]; exact a4, by rw [h3]; exact a5, fun r hr => by rw [c1]; exact a6 r hr, fun r p hr hp => by rw [c2]; exact a7 r p hr hp⟩
theorem slt_q (h : o_slt I s al) (hf : fq S F I I2) (hq : nt slC slL S F) : o_slt I2 s al := by
  obtain ⟨a, b, c, d, e, f⟩ := h
  refine ⟨shC_e a (nt_l hq hf (by decide)) (nt_l hq hf (by decide)) (nt_l hq hf (by decide)) (nt_l hq hf (by decide)) (nt_c hq hf (by decide)) (nt_c hq hf (by decide)), ?_, ?_, ?_, e, f⟩
  · have h25 := nt_l hq hf (o := 49) (k := 25) (by decide)
    have h26 := nt_l hq hf (o := 49) (k := 26) (by decide)
    have h27 := nt_l hq hf (o := 49) (k := 27) (by decide)
    have h28 := nt_l hq hf (o := 49) (k := 28) (by decide)
    have c62 := nt_c hq hf (o := 62) (by decide)
    have c63 := nt_c hq hf (o := 63) (by decide)
    cases s with
    | none => exact ⟨by rw [h25]; exact b.1, by rw [h26]; exact b.2.1, by rw [h27]; exact b.2.2.1, by rw [h28]; exact b.2.2.2⟩
    | some s =>
      obtain ⟨a1, a2, a3, a4, a5, a6, a7⟩ := b
      exact ⟨a1, by rw [h25]; exact a2, by rw [h26]; exact a3, by rw [h27]; exact a4, by rw [h28]; exact a5, fun r hr => by rw [c63]; exact a6 r hr, fun r p hr hp => by rw [c62]; exact a7 r p hr hp⟩
  · obtain ⟨a1, a2, f, f1, f2, f3⟩ := c
    have c27 := nt_c hq hf (o := 27) (by decide)
    have c28 := nt_c hq hf (o := 28) (by decide)
    exact ⟨a1, by rw [nt_l hq hf (o := 26) (k := 3) (by decide)]; exact a2, f, f1, by rw [nt_l hq hf (o := 26) (k := 2) (by decide)]; exact f2, fun j q g hj => by rw [c27, c28]; exact f3 j q g hj⟩
  · obtain ⟨a1, a2, a3⟩ := d
    have c64 := nt_c hq hf (o := 64) (by decide)
    have c65 := nt_c hq hf (o := 65) (by decide)
    exact ⟨a1, by rw [nt_l hq hf (o := 49) (k := 29) (by decide)]; exact a2, fun j q g hj => by rw [c64, c65]; exact a3 j q g hj⟩
theorem img_q (h : o_img I s img) (hf : fq S F I I2) (hq : nt [24, 25, 75, 76] imL S F) : o_img I2 s img := by
  have h0 := nt_l hq hf (o := 0) (k := 15) (by decide)
  have h1 := nt_l hq hf (o := 49) (k := 50) (by decide)
  cases img with
  | none => exact ⟨by rw [h0]; exact h.1, by rw [h1]; exact h.2⟩
  | some i =>
    obtain ⟨a1, a2, a3, a4, a5, a6⟩ := h
    have c75 := nt_c hq hf (o := 75) (by decide)
    have c76 := nt_c hq hf (o := 76) (by decide)
    exact ⟨by rw [h0]; exact a1, by rw [h1]; exact a2, shC_e a3 (nt_l hq hf (by decide)) (nt_l hq hf (by decide)) (nt_l hq hf (by decide)) (nt_l hq hf (by decide)) (nt_c hq hf (by decide)) (nt_c hq hf (by decide)), fun r hr => by rw [c76]; exact a4 r hr, fun r p hr hp => by rw [c75]; exact a5 r p hr hp, a6⟩
theorem nsl_q (h : nsl I) (hf : fq S F I I2) (hq : nt [] [(33, 0), (34, 1), (35, 1), (20, 1)] S F) : nsl I2 := ⟨by rw [nt_l hq hf (o := 33) (k := 0) (by decide)]; exact h.1, by rw [nt_l hq hf (o := 34) (k := 1) (by decide)]; exact h.2.1, by rw [nt_l hq hf (o := 35) (k := 1) (by decide)]; exact h.2.2.1, by rw [nt_l hq hf (o := 20) (k := 1) (by decide)]; exact h.2.2.2⟩
theorem hoK_q {nc : Nat} (h : hoK I nc) (hf : fq S F I I2) (hq : nt [] [(0, 14), (49, 30)] S F) : hoK I2 nc := by
  have e1 := nt_l hq hf (o := 0) (k := 14) (by decide)
  have e2 := nt_l hq hf (o := 49) (k := 30) (by decide)
  unfold hoK
  rw [e1, e2]
  exact h
abbrev coC : List Nat := [12, 13, 14, 15, 16, 17, 18, 19, 51, 52, 53, 54, 55, 56, 57]
abbrev coL : List (Nat × Nat) := [(0, 13), (49, 13)]
theorem coK_q {nc : Nat} (h : coK I nc) (hf : fq S F I I2) (hq : nt coC coL S F) : coK I2 nc := coK_fq hf h (fun o ho hs => by
    have a := (hq.1 o hs).1
    have b := (hq.1 o hs).2
    have b0 : ¬ 0 = o := b (0, 13) (by simp [coL])
    have b1 : ¬ 49 = o := b (49, 13) (by simp [coL])
    simp [coC] at a
    omega) (fun u hu => by
    have a := (hq.2 u hu).1
    have b := (hq.2 u hu).2
    simp [coC] at a
    simp [coL] at b
    exact ⟨by omega, by omega, b.1, b.2⟩)
theorem ivC_q (h : ivC I) (hf : fq S F I I2) (hq : nt coC ((0, 14) :: (49, 30) :: coL) S F) : ivC I2 := by
  obtain ⟨nc, a, b⟩ := h
  exact ⟨nc, coK_q a hf ⟨fun o ho => ⟨(hq.1 o ho).1, fun t ht => (hq.1 o ho).2 t (List.mem_cons_of_mem _ (List.mem_cons_of_mem _ ht))⟩, fun u hu => ⟨(hq.2 u hu).1, fun z => (hq.2 u hu).2 (List.mem_cons_of_mem _ (List.mem_cons_of_mem _ z))⟩⟩,
    hoK_q b hf ⟨fun o ho => ⟨by simp, fun t ht => (hq.1 o ho).2 t (by simp at ht ⊢; rcases ht with rfl | rfl <;> simp)⟩, fun u hu => ⟨by simp, fun z => (hq.2 u hu).2 (by simp at z ⊢; rcases z with rfl | rfl <;> simp)⟩⟩⟩
theorem ivB_q {i : Nat} (h : ivB i I) (hf : fq S F I I2) (hq : nt [] [(20, 4), (20, 5)] S F) : ivB (i + 6) I2 := by
  obtain ⟨c, k, a, b, h1, h2⟩ := h
  exact ⟨c, k, by rw [nt_l hq hf (o := 20) (k := 4) (by decide)]; exact a, by rw [nt_l hq hf (o := 20) (k := 5) (by decide)]; exact b, by omega, by omega⟩
/-- each cache, kept -/
abbrev kqR : List Nat → List (Nat × Nat) → Prop := nt [39, 40] [(38, 5), (38, 7), (20, 4)]
abbrev kqV : List Nat → List (Nat × Nat) → Prop := nt [41] [(38, 8), (20, 4)]
abbrev kqH : List Nat → List (Nat × Nat) → Prop := nt [] [(38, 6), (38, 9), (20, 5)]
abbrev kqS : List Nat → List (Nat × Nat) → Prop := nt [43] [(42, 3), (42, 4), (42, 5), (20, 4)]
abbrev kqL : List Nat → List (Nat × Nat) → Prop := nt [] [(44, 4), (20, 4)]
theorem caR_k {s : ab_sl} (h : caR I s) (hf : fq S F I I2) (hq : kqR S F) : caR I2 s := by
  have e1 := nt_l hq hf (o := 38) (k := 5) (by decide)
  have e2 := nt_l hq hf (o := 38) (k := 7) (by decide)
  have e3 := nt_l hq hf (o := 20) (k := 4) (by decide)
  have c1 := nt_c hq hf (o := 39) (by decide)
  have c2 := nt_c hq hf (o := 40) (by decide)
  unfold caR
  rw [e2, e3]
  refine ⟨fun z => ?_, h.2⟩
  obtain ⟨a1, a2, a3⟩ := h.1 z
  exact ⟨by rw [e1]; exact a1, fun q f hq hf' => by rw [c1]; exact a2 q f hq hf', fun x hx => by rw [c2]; exact a3 x hx⟩
theorem caV_k {s : ab_sl} (h : caV I s) (hf : fq S F I I2) (hq : kqV S F) : caV I2 s := by
  have e2 := nt_l hq hf (o := 38) (k := 8) (by decide)
  have e3 := nt_l hq hf (o := 20) (k := 4) (by decide)
  have c1 := nt_c hq hf (o := 41) (by decide)
  unfold caV
  rw [e2, e3, c1]
  exact h
theorem caH_k {s : ab_sl} (h : caH I s) (hf : fq S F I I2) (hq : kqH S F) : caH I2 s := by
  have e1 := nt_l hq hf (o := 38) (k := 6) (by decide)
  have e2 := nt_l hq hf (o := 38) (k := 9) (by decide)
  have e3 := nt_l hq hf (o := 20) (k := 5) (by decide)
  unfold caH
  rw [e1, e2, e3]
  exact h
theorem caS_k {s : ab_sl} (h : caS I s) (hf : fq S F I I2) (hq : kqS S F) : caS I2 s := by
  have e1 := nt_l hq hf (o := 42) (k := 3) (by decide)
  have e2 := nt_l hq hf (o := 42) (k := 4) (by decide)
  have e3 := nt_l hq hf (o := 42) (k := 5) (by decide)
  have e4 := nt_l hq hf (o := 20) (k := 4) (by decide)
  have c1 := nt_c hq hf (o := 43) (by decide)
  unfold caS slR
  rw [e1, e2, e3, e4, c1]
  exact h
theorem caL_k {s : ab_sl} (h : caL I J s) (hf : fq S F I I2) (hq : kqL S F) (hJ : J2 44 3 = J 44 3) : caL I2 J2 s := by
  have e1 := nt_l hq hf (o := 44) (k := 4) (by decide)
  have e3 := nt_l hq hf (o := 20) (k := 4) (by decide)
  unfold caL leR
  rw [e1, e3, hJ]
  exact h
/-- the caches behind a question -/
theorem ivK_q (hK : ivK I J s) (hf : fq S F I I2) (hz : s = none → stN I2) (hR : kqR S F ∨ ∀ s', s = some s' → caR I2 s') (hV : kqV S F ∨ ∀ s', s = some s' → caV I2 s') (hH : kqH S F ∨ ∀ s', s = some s' → caH I2 s') (hS : kqS S F ∨ ∀ s', s = some s' → caS I2 s') (hL : (kqL S F ∧ J2 44 3 = J 44 3) ∨ ∀ s', s = some s' → caL I2 J2 s') : ivK I2 J2 s := by
  cases s with
  | none => exact hz rfl
  | some s =>
    obtain ⟨a1, a2, a3, a4, a5⟩ := hK
    exact ⟨hR.elim (caR_k a1 hf) (fun z => z s rfl), hV.elim (caV_k a2 hf) (fun z => z s rfl), hH.elim (caH_k a3 hf) (fun z => z s rfl), hS.elim (caS_k a4 hf) (fun z => z s rfl), hL.elim (fun z => caL_k a5 hf z.1 z.2) (fun z => z s rfl)⟩
abbrev kqN : List Nat → List (Nat × Nat) → Prop := nt [] [(38, 7), (38, 8), (38, 9), (42, 5), (44, 4), (20, 4), (20, 5)]
theorem stN_q (h : stN I) (hf : fq S F I I2) (hq : kqN S F) : stN I2 := by
  unfold stN
  rw [nt_l hq hf (o := 38) (k := 7) (by decide), nt_l hq hf (o := 38) (k := 8) (by decide), nt_l hq hf (o := 38) (k := 9) (by decide), nt_l hq hf (o := 42) (k := 5) (by decide), nt_l hq hf (o := 44) (k := 4) (by decide), nt_l hq hf (o := 20) (k := 4) (by decide), nt_l hq hf (o := 20) (k := 5) (by decide)]
  exact h
/-- the caches behind a change of all -/
theorem ivK_new {s : ab_sl} {c c' h h' : Nat} (hst : stN I) (hf : fq S F I I2) (hq : nt [] [(38, 7), (38, 8), (38, 9), (42, 5), (44, 4)] S F) (h1 : I 20 4 = nI c) (h2 : I2 20 4 = nI c') (h3 : I 20 5 = nI h) (h4 : I2 20 5 = nI h') (l1 : c < c') (l2 : c' < 2 ^ 30) (l3 : h < h') (l4 : h' < 2 ^ 30) : ivK I2 J2 (some s) := by
  obtain ⟨a1, a2, a3, a4, a5⟩ := hst
  have b1 := stK_up a1 h1 h2 l1 l2
  have b2 := stK_up a2 h1 h2 l1 l2
  have b3 := stK_up a3 h3 h4 l3 l4
  have b4 := stK_up a4 h1 h2 l1 l2
  have b5 := stK_up a5 h1 h2 l1 l2
  rw [← nt_l hq hf (o := 38) (k := 7) (by decide)] at b1
  rw [← nt_l hq hf (o := 38) (k := 8) (by decide)] at b2
  rw [← nt_l hq hf (o := 38) (k := 9) (by decide)] at b3
  rw [← nt_l hq hf (o := 42) (k := 5) (by decide)] at b4
  rw [← nt_l hq hf (o := 44) (k := 4) (by decide)] at b5
  exact ⟨⟨fun z => absurd z b1.1, b1.2⟩, ⟨fun z => absurd z b2.1, b2.2⟩, ⟨fun z => absurd z b3.1, b3.2⟩, ⟨fun z => absurd z b4.1, b4.2⟩, ⟨fun z => absurd z b5.1, b5.2⟩⟩
/-- the caches behind a change of the signs: the count of all lost stays -/
theorem ivK_put {s : ab_sl} {q g c c' : Nat} (hK : ivK I J (some s)) (hf : fq S F I I2) (hq : nt [] [(38, 7), (38, 8), (38, 9), (42, 5), (44, 4), (38, 6), (20, 5)] S F) (h1 : I 20 4 = nI c) (h2 : I2 20 4 = nI c') (l1 : c < c') (l2 : c' < 2 ^ 30) : ivK I2 J2 (some (ab_put s q g)) := by
  obtain ⟨a1, a2, a3, a4, a5⟩ := stN_of hK
  have b1 := stK_up a1 h1 h2 l1 l2
  have b2 := stK_up a2 h1 h2 l1 l2
  have b4 := stK_up a4 h1 h2 l1 l2
  have b5 := stK_up a5 h1 h2 l1 l2
  rw [← nt_l hq hf (o := 38) (k := 7) (by decide)] at b1
  rw [← nt_l hq hf (o := 38) (k := 8) (by decide)] at b2
  rw [← nt_l hq hf (o := 42) (k := 5) (by decide)] at b4
  rw [← nt_l hq hf (o := 44) (k := 4) (by decide)] at b5
  have hH : caH I2 s := caH_k hK.2.2.1 hf ⟨fun o ho => ⟨by simp, fun t ht => (hq.1 o ho).2 t (by simp at ht ⊢; rcases ht with rfl | rfl | rfl <;> simp)⟩, fun u hu => ⟨by simp, fun z => (hq.2 u hu).2 (by simp at z ⊢; rcases z with rfl | rfl | rfl <;> simp)⟩⟩
  exact ⟨⟨fun z => absurd z b1.1, b1.2⟩, ⟨fun z => absurd z b2.1, b2.2⟩, hH, ⟨fun z => absurd z b4.1, b4.2⟩, ⟨fun z => absurd z b5.1, b5.2⟩⟩
end INV
