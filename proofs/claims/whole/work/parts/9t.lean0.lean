/-! lean: which places stay -/
section LEANT
theorem cd_iff {p : Prop} : @decide p (Classical.propDecidable p) = true ↔ p := @decide_eq_true_iff _ (Classical.propDecidable _)
/-- unlike the told at a place -/
def uq (s : ab_sl) (i q : Nat) : Bool := a_th (some s) q && decide (¬ Fi s i q = ab_g s q)
def An (s : ab_sl) (i : Nat) : Prop := ps s (ix s i) (iy s i) ∧ lnk s (ix s i) (iy s i)
/-- a sum that tells n apart from what S leaves -/
def Wt (s : ab_sl) (S : Nat → Bool) (n i : Nat) : Prop := i < nn s ∧ An s i ∧ uq s i n = true ∧ (∀ q, S q = true → ¬ uq s i q = true) ∧ ∀ q, n < q → ¬ uq s i q = true
/-- the places below n that stay -/
noncomputable def Ly (s : ab_sl) : Nat → Nat → Bool
  | 0, _ => false
  | n + 1, q => Ly s n q || (decide (q = n) && @decide (∃ i, Wt s (Ly s n) n i) (Classical.propDecidable _))
theorem Ly_in {s : ab_sl} {n q : Nat} : Ly s (n + 1) q = true ↔ Ly s n q = true ∨ (q = n ∧ ∃ i, Wt s (Ly s n) n i) := by
  rw [Ly, Bool.or_eq_true, Bool.and_eq_true, cd_iff, decide_eq_true_iff]
theorem Ly_lt {s : ab_sl} {q : Nat} : ∀ n, Ly s n q = true → q < n
  | 0, h => by simp [Ly] at h
  | n + 1, h => by
    rcases Ly_in.mp h with h | ⟨h, _⟩
    · have := Ly_lt n h; omega
    · omega
theorem Ly_mono {s : ab_sl} {q n m : Nat} (h : Ly s n q = true) (hm : n ≤ m) : Ly s m q = true := by
  obtain ⟨k, rfl⟩ : ∃ k, m = n + k := ⟨m - n, by omega⟩
  clear hm
  induction k with
  | zero => exact h
  | succ k ih => exact Ly_in.mpr (Or.inl ih)
theorem uq_54 {s : ab_sl} {i q : Nat} (hw : ab_wf s) (h : uq s i q = true) : q < 54 := by
  unfold uq at h
  rw [Bool.and_eq_true] at h
  have := (a_th_some h.1).1
  have := hw.2.2.2.2.2.1
  omega
theorem uq_th {s : ab_sl} {i q : Nat} (h : uq s i q = true) : a_th (some s) q = true := by
  unfold uq at h
  rw [Bool.and_eq_true] at h
  exact h.1
theorem Ly_th {s : ab_sl} {q : Nat} : ∀ n, Ly s n q = true → a_th (some s) q = true
  | 0, h => by simp [Ly] at h
  | n + 1, h => by
    rcases Ly_in.mp h with h | ⟨rfl, i, hi⟩
    · exact Ly_th n h
    · exact uq_th hi.2.2.1
/-- the last unlike place -/
def Lu (s : ab_sl) (i q : Nat) : Prop := uq s i q = true ∧ ∀ q', q < q' → ¬ uq s i q' = true
theorem last_ex {p : Nat → Bool} : ∀ N, (∃ q, q < N ∧ p q = true) → ∃ q, q < N ∧ p q = true ∧ ∀ q', q < q' → q' < N → ¬ p q' = true
  | 0, ⟨q, h, _⟩ => absurd h (Nat.not_lt_zero q)
  | N + 1, ⟨q, h, hp⟩ => by
    by_cases hN : p N = true
    · exact ⟨N, by omega, hN, fun q' h1 h2 => by omega⟩
    · have hq : q < N := by
        rcases Nat.lt_or_ge q N with z | z
        · exact z
        · have e : q = N := by omega
          rw [e] at hp; exact absurd hp hN
      obtain ⟨m, m1, m2, m3⟩ := last_ex N ⟨q, hq, hp⟩
      refine ⟨m, by omega, m2, fun q' h1 h2 => ?_⟩
      by_cases e : q' = N
      · rw [e]; exact hN
      · exact m3 q' h1 (by omega)
theorem Lu_ex {s : ab_sl} {i q : Nat} (hw : ab_wf s) (h : uq s i q = true) : ∃ q', q ≤ q' ∧ Lu s i q' := by
  obtain ⟨m, m1, m2, m3⟩ := last_ex (p := fun t => uq s i t) 54 ⟨q, uq_54 hw h, h⟩
  have hm : ∀ q', m < q' → ¬ uq s i q' = true := fun q' h1 h2 => m3 q' h1 (uq_54 hw h2) h2
  refine ⟨m, ?_, m2, hm⟩
  rcases Nat.lt_or_ge m q with z | z
  · exact absurd h (hm q z)
  · exact z
/-- signs told at S alone -/
def gS (s : ab_sl) (S : Nat → Bool) (q : Nat) : Nat := if S q = true then ab_g s q else 10
theorem gS_wf {s : ab_sl} {S : Nat → Bool} (hw : ab_wf s) : ab_wf (ab_as s (gS s S)) := as_wf hw (fun r p hr hp => by
  have := hw.2.2.2.2.2.2.2.2.2.1 r p hr hp
  unfold gS
  split
  · exact this
  · omega)
theorem fb_gS {s : ab_sl} {S : Nat → Bool} {i : Nat} (hw : ab_wf s) (hf : fl s) : fb s (gS s S) 0 i = true ↔ An s i ∧ ∀ q, S q = true → ¬ uq s i q = true := by
  have hb10 := hw.2.2.1
  have hro := hw.2.2.2.2.2.1
  have hm : ms s (gS s S) (ix s i) (iy s i) = cn (oq (ab_as s (gS s S)) (Fi s i)) (6 * ab_ro s) := ms_oq (s := ab_as s (gS s S)) (gS_wf hw)
  have g10 : ∀ q, a_th (some s) q = true → ab_g s q < 10 := fun q hq => by
    obtain ⟨q1, q2⟩ := a_th_some hq
    have := hf (q / 6) (q % 6) q1 q2
    rw [show 6 * (q / 6) + q % 6 = q by omega] at this
    omega
  have ho : ∀ q, oq (ab_as s (gS s S)) (Fi s i) q = true ↔ S q = true ∧ uq s i q = true := fun q => by
    have e : oq (ab_as s (gS s S)) (Fi s i) q = (a_th (some s) q && (decide (gS s S q < 10) && decide (¬ gS s S q = Fi s i q))) := rfl
    rw [e]
    unfold uq gS
    by_cases ht : a_th (some s) q = true
    · have := g10 q ht
      by_cases hs : S q = true
      · simp [ht, hs, this]
        constructor
        · intro h z; exact h z.symm
        · intro h z; exact h z.symm
      · simp [hs]
    · simp [ht]
  rw [fb_iff]
  unfold fit An
  rw [hm]
  have hl : lfm s (gS s S) (Fg s (sv s (ix s i) (iy s i))) 54 := by
    intro q _ q' _ h1 _
    unfold lt at h1
    rw [Bool.and_eq_true, decide_eq_true_iff] at h1
    have := g10 q h1.1
    have h11 := h1.2
    unfold gS at h11
    split at h11 <;> omega
  constructor
  · rintro ⟨a1, a2, a3, a4⟩
    refine ⟨⟨a1, a2⟩, fun q hs hu => ?_⟩
    have hq := uq_54 hw hu
    have hr := (a_th_some (uq_th hu)).1
    have := cn_pos (p := oq (ab_as s (gS s S)) (Fi s i)) (n := 6 * ab_ro s) (i := q) (by omega) ((ho q).mpr ⟨hs, hu⟩)
    omega
  · rintro ⟨⟨a1, a2⟩, a3⟩
    refine ⟨a1, a2, ?_, hl⟩
    rw [cn_zero (fun q _ z => a3 q ((ho q).mp z).1 ((ho q).mp z).2)]
    exact Nat.le_refl _
/-- the class's next place -/
theorem Ly_none {s : ab_sl} {A : Nat → Bool} {m0 : Nat} (hw : ab_wf s) (hf : fl s) (hA : ∀ t, A t = Ly s m0 t) : ∀ k, (∀ p, m0 ≤ p → p < m0 + k → ∀ i, i < nn s → fb s (gS s A) 0 i = true → ¬ Lu s i p) → ∀ t, Ly s (m0 + k) t = A t
  | 0, _, t => (hA t).symm
  | k + 1, h, t => by
    have ih := Ly_none hw hf hA k (fun p h1 h2 => h p h1 (by omega))
    have no : ¬ ∃ i, Wt s (Ly s (m0 + k)) (m0 + k) i := by
      rintro ⟨i, w1, w2, w3, w4, w5⟩
      exact h (m0 + k) (by omega) (by omega) i w1 ((fb_gS hw hf).mpr ⟨w2, fun q hq => w4 q (by rw [ih q]; exact hq)⟩) ⟨w3, w5⟩
    rw [← Nat.add_assoc]
    apply Bool.eq_iff_iff.mpr
    rw [Ly_in, ih t]
    constructor
    · rintro (z | ⟨_, z⟩)
      · exact z
      · exact absurd z no
    · exact Or.inl
theorem Ly_some {s : ab_sl} {A : Nat → Bool} {m0 q i : Nat} (hw : ab_wf s) (hf : fl s) (hA : ∀ t, A t = Ly s m0 t) (hi : i < nn s) (hfb : fb s (gS s A) 0 i = true) (hl : Lu s i q) (hmin : ∀ i, i < nn s → fb s (gS s A) 0 i = true → ∀ p, Lu s i p → q ≤ p) : m0 ≤ q ∧ ∀ t, Ly s (q + 1) t = (A t || decide (q = t)) := by
  obtain ⟨b1, b2⟩ := (fb_gS hw hf).mp hfb
  have h1 : m0 ≤ q := by
    rcases Nat.lt_or_ge q m0 with z | z
    · exfalso
      have hin : Ly s (q + 1) q = true := Ly_in.mpr (Or.inr ⟨rfl, i, hi, b1, hl.1, fun t ht => b2 t (by rw [hA]; exact Ly_mono ht (by omega)), hl.2⟩)
      exact b2 q (by rw [hA]; exact Ly_mono hin (by omega)) hl.1
    · exact z
  refine ⟨h1, fun t => ?_⟩
  have hn := Ly_none hw hf hA (q - m0) (fun p h2 h3 i' hi' hf' hl' => by have := hmin i' hi' hf' p hl'; omega)
  rw [show m0 + (q - m0) = q by omega] at hn
  apply Bool.eq_iff_iff.mpr
  rw [Ly_in, hn t, Bool.or_eq_true, decide_eq_true_iff]
  constructor
  · rintro (z | ⟨z, _⟩)
    · exact Or.inl z
    · exact Or.inr z.symm
  · rintro (z | z)
    · exact Or.inl z
    · exact Or.inr ⟨z.symm, i, hi, b1, hl.1, fun t' ht' => b2 t' (by rw [← hn t']; exact ht'), hl.2⟩
theorem Ly_54 {s : ab_sl} (hw : ab_wf s) : ∀ k t, Ly s (54 + k) t = Ly s 54 t
  | 0, _ => rfl
  | k + 1, t => by
    rw [← Ly_54 hw k t, ← Nat.add_assoc]
    apply Bool.eq_iff_iff.mpr
    rw [Ly_in]
    constructor
    · rintro (z | ⟨_, i, z⟩)
      · exact z
      · have := uq_54 hw z.2.2.1; omega
    · exact Or.inl
theorem Ly_end {s : ab_sl} {A : Nat → Bool} {m0 : Nat} (hw : ab_wf s) (hf : fl s) (hA : ∀ t, A t = Ly s m0 t) (hno : (∀ i, i < nn s → fb s (gS s A) 0 i = true → ∀ p, ¬ Lu s i p) ∨ 54 ≤ m0) : ∀ t, Ly s 54 t = A t := by
  intro t
  by_cases hm : 54 ≤ m0
  · rw [hA, show m0 = 54 + (m0 - 54) by omega, Ly_54 hw]
  · rcases hno with h | h
    · have := Ly_none hw hf hA (54 - m0) (fun p _ _ i hi hf' => h i hi hf' p) t
      rwa [show m0 + (54 - m0) = 54 by omega] at this
    · exact absurd h hm
/-- the reference's question at q -/
theorem Ly_q {s : ab_sl} {q : Nat} (hw : ab_wf s) : (∃ i p, i < nn s ∧ An s i ∧ uq s i p = true ∧ (∀ t, Ly s q t = true → ¬ uq s i t = true) ∧ ∀ t, q < t → ¬ uq s i t = true) ↔ Ly s (q + 1) q = true := by
  constructor
  · rintro ⟨i, p, h1, h2, h3, h4, h5⟩
    obtain ⟨m, m1, m2⟩ := Lu_ex hw h3
    have hmq : m ≤ q := by
      rcases Nat.lt_or_ge q m with z | z
      · exact absurd m2.1 (h5 m z)
      · exact z
    have hin : Ly s (m + 1) m = true := Ly_in.mpr (Or.inr ⟨rfl, i, h1, h2, m2.1, fun t ht => h4 t (Ly_mono ht hmq), m2.2⟩)
    rcases Nat.lt_or_ge m q with z | z
    · exact absurd m2.1 (h4 m (Ly_mono hin (by omega)))
    · have e : m = q := by omega
      rw [e] at hin; exact hin
  · intro h
    rcases Ly_in.mp h with z | ⟨_, i, h1, h2, h3, h4, h5⟩
    · have := Ly_lt q z; omega
    · exact ⟨i, q, h1, h2, h3, h4, h5⟩
end LEANT
