/-! looks: what is to be said of the answers -/
section LOOKA
variable {d : Nat} {I : xm_I} {J : xm_J} {R : xm_R}
noncomputable def ai (s : ab_sl) (n : Nat) : Nat := @Classical.epsilon Nat ⟨0⟩ (fun i => kth s n i)
theorem ai_kth {s : ab_sl} {n : Nat} (h : n < cn (fb s (ab_g s) 0) (nn s)) : kth s n (ai s n) := by
  obtain ⟨t, h1, h2, h3⟩ := cn_at _ h
  exact @Classical.epsilon_spec_aux Nat ⟨0⟩ (fun i => kth s n i) ⟨t, h1, h2, h3⟩
theorem ai_of {s : ab_sl} {n i : Nat} (h : kth s n i) : ai s n = i := by
  have hn : n < cn (fb s (ab_g s) 0) (nn s) := by
    have := cn_mono (p := fb s (ab_g s) 0) (show i + 1 ≤ nn s from h.1)
    rw [cn_t h.2.1, h.2.2] at this
    omega
  exact kth_u (ai_kth hn) h
noncomputable def AF (s : ab_sl) (q n : Nat) : Nat := Fg s (sv s (ix s (ai s n)) (iy s (ai s n))) q
theorem AF_lt {s : ab_sl} {q n : Nat} (hb : 4 ≤ ab_b s) : AF s q n < ab_b s := by
  unfold AF Fg
  exact fg_lt (by omega)
theorem AF_told {s : ab_sl} {q n : Nat} (hw : ab_wf s) (hn : n < cn (fb s (ab_g s) 0) (nn s)) (hq : a_th (some s) q = true) (hg : ab_g s q < 10) : AF s q n = ab_g s q := by
  have hk := ai_kth hn
  have hf := fb_iff.mp hk.2.1
  have hm := hf.2.2.1
  rw [ms_oq hw] at hm
  have hro := (a_th_some hq).1
  have hlt : q < 6 * ab_ro s := by omega
  by_cases e : ab_g s q = AF s q n
  · exact e.symm
  · have : 0 < cn (oq s (Fg s (sv s (ix s (ai s n)) (iy s (ai s n))))) (6 * ab_ro s) := cn_pos hlt (by
      unfold oq
      have e' : ¬ ab_g s q = Fg s (sv s (ix s (ai s n)) (iy s (ai s n))) q := e
      simp [hq, hg, e'])
    omega
/-- all unlike, a set of figures being seen -/
def au (F : Nat → Nat) : List Nat → Nat → Bool
  | [], _ => true
  | n :: L, t => if t.testBit (F n) = true then false else au F L (t ||| 2 ^ F n)
theorem au_one {F : Nat → Nat} {L : List Nat} (h : L.length ≤ 1) : au F L 0 = true := by
  cases L with
  | nil => rfl
  | cons n L =>
    cases L with
    | nil => rw [au, Nat.zero_testBit, if_neg (by decide)]; rfl
    | cons m L => simp at h
theorem au_const {F : Nat → Nat} {L : List Nat} {g : Nat} (h : ∀ n ∈ L, F n = g) (hl : 1 < L.length) (t : Nat) : au F L t = false := by
  cases L with
  | nil => simp at hl
  | cons n L =>
    cases L with
    | nil => simp at hl
    | cons m L =>
      have e1 := h n (by simp)
      have e2 := h m (by simp)
      rw [au, e1]
      by_cases z : t.testBit g = true
      · rw [if_pos z]
      · rw [if_neg z, au, e2, if_pos (by rw [bit_or]; simp)]
theorem cn_sing {f : Nat} : ∀ {n : Nat}, f < n → cn (fun i => decide (i = f)) n = 1
  | 0, h => absurd h (Nat.not_lt_zero _)
  | n + 1, h => by
    by_cases e : f = n
    · subst e
      rw [cn_t (by simp), cn_zero (fun i hi z => by simp at z; omega)]
    · rw [cn_f (by simp; omega)]
      exact cn_sing (by omega)
theorem au_len {F : Nat → Nat} {b : Nat} (hF : ∀ n, F n < b) : ∀ (L : List Nat) (t : Nat), au F L t = true → cn (fun i => t.testBit i) b + L.length ≤ b
  | [], t, _ => cn_le _
  | n :: L, t, h => by
    rw [au] at h
    by_cases z : t.testBit (F n) = true
    · rw [if_pos z] at h; cases h
    · rw [if_neg z] at h
      have ih := au_len hF L _ h
      have e := cn_disj (p := fun i => t.testBit i) (q := fun i => decide (i = F n)) (u := fun i => (t ||| 2 ^ F n).testBit i) (n := b) (fun i hi => by
        show (t ||| 2 ^ F n).testBit i = true ↔ _
        rw [bit_or]
        constructor
        · intro w
          rw [Bool.or_eq_true] at w
          rcases w with w | w
          · exact Or.inl w
          · right; simp at w; simp [w]
        · rintro (w | w)
          · simp [w]
          · simp at w; simp [w]) (fun i hi w => by
        have := w.2
        simp at this
        subst this
        exact z w.1)
      rw [e, cn_sing (hF n)] at ih
      rw [List.length_cons]; omega
/-- the answers that a look leaves -/
def lsf (t : Nat) (P : Nat → Bool) : List Nat := (List.range t).filter P
theorem lsf_s {t : Nat} {P : Nat → Bool} : lsf (t + 1) P = lsf t P ++ if P t = true then [t] else [] := by
  unfold lsf
  rw [List.range_succ, List.filter_append]
  by_cases h : P t = true
  · rw [if_pos h, List.filter_cons_of_pos h]; rfl
  · rw [if_neg h, List.filter_cons_of_neg h]; rfl
theorem lsf_mem {t n : Nat} {P : Nat → Bool} (h : n ∈ lsf t P) : n < t ∧ P n = true := by
  unfold lsf at h
  rw [List.mem_filter, List.mem_range] at h
  exact h
theorem lsf_len {P : Nat → Bool} : ∀ t, (lsf t P).length = cn P t
  | 0 => rfl
  | t + 1 => by
    rw [lsf_s, List.length_append, lsf_len t, cn]
    split <;> rfl
def unk (s : ab_sl) (q : Nat) : Prop := a_th (some s) q = true ∧ 10 ≤ ab_g s q
/-- one look settles: as the class says it, as the reference does -/
def cO (s : ab_sl) (L : List Nat) : Prop := L.length ≤ 1 ∨ (L.length ≤ ab_b s ∧ ∃ q, q < 54 ∧ unk s q ∧ au (AF s q) L 0 = true)
def rO (s : ab_sl) (L : List Nat) : Prop := ∃ q, q < 6 * ab_ro s ∧ a_th (some s) q = true ∧ au (AF s q) L 0 = true
theorem th_00 {s : ab_sl} (hw : ab_wf s) : a_th (some s) 0 = true := by
  have h1 := hw.2.2.2.2.1
  have h2 := (hw.2.2.2.2.2.2.1 0 (by omega)).1
  unfold a_th
  simp; omega
theorem one_eq {s : ab_sl} {t : Nat} {P : Nat → Bool} (hw : ab_wf s) (ht : t ≤ cn (fb s (ab_g s) 0) (nn s)) : cO s (lsf t P) ↔ rO s (lsf t P) := by
  have hro := hw.2.2.2.2.2.1
  have hro3 := hw.2.2.2.2.1
  have hb := hw.2.1
  constructor
  · rintro (h | ⟨h1, q, h2, h3, h4⟩)
    · exact ⟨0, by omega, th_00 hw, au_one h⟩
    · exact ⟨q, by have := (a_th_some h3.1).1; omega, h3.1, h4⟩
  · rintro ⟨q, h1, h2, h3⟩
    by_cases hl : (lsf t P).length ≤ 1
    · exact Or.inl hl
    · right
      have hlen := au_len (fun n => AF_lt (s := s) (q := q) (n := n) hb) _ _ h3
      refine ⟨by omega, q, by omega, ⟨h2, ?_⟩, h3⟩
      by_cases hg : ab_g s q < 10
      · have := au_const (F := AF s q) (L := lsf t P) (g := ab_g s q) (fun n hn => AF_told hw (by have := (lsf_mem hn).1; omega) h2 hg) (by omega) 0
        rw [this] at h3; cases h3
      · omega
noncomputable def PF (s : ab_sl) (q f : Nat) (n : Nat) : Bool := @decide (AF s q n = f) (Nat.decEq _ _)
def Pall (_ : Nat) : Bool := true
theorem lsf_all {t : Nat} : (lsf t Pall).length = t := by
  rw [lsf_len]
  induction t with
  | zero => rfl
  | succ t ih => rw [cn_t rfl, ih]
/-- at most one answer with each figure, if all are unlike -/
theorem au_cn {F : Nat → Nat} {f : Nat} : ∀ (L : List Nat) (t : Nat), au F L t = true → (L.filter (fun n => decide (F n = f))).length ≤ 1 ∧ (t.testBit f = true → (L.filter (fun n => decide (F n = f))).length = 0)
  | [], t, _ => ⟨by simp, fun _ => by simp⟩
  | n :: L, t, h => by
    rw [au] at h
    by_cases z : t.testBit (F n) = true
    · rw [if_pos z] at h; cases h
    · rw [if_neg z] at h
      obtain ⟨i1, i2⟩ := au_cn (f := f) L _ h
      by_cases e : F n = f
      · rw [List.filter_cons_of_pos (by simp [e]), List.length_cons]
        have := i2 (by rw [bit_or]; simp [e])
        exact ⟨by omega, fun w => by rw [← e] at w; exact absurd w z⟩
      · rw [List.filter_cons_of_neg (by simp [e])]
        exact ⟨i1, fun w => i2 (by rw [bit_or, w]; rfl)⟩
theorem lsf_PF {s : ab_sl} {t q f : Nat} : lsf t (PF s q f) = (lsf t Pall).filter (fun n => decide (AF s q n = f)) := by
  unfold lsf
  rw [List.filter_filter]
  congr 1
  funext n
  unfold PF Pall
  simp
theorem lsf_told {s : ab_sl} {t q : Nat} (hw : ab_wf s) (ht : t ≤ cn (fb s (ab_g s) 0) (nn s)) (hq : a_th (some s) q = true) (hg : ab_g s q < 10) : lsf t (PF s q (ab_g s q)) = lsf t Pall := by
  unfold lsf
  refine List.filter_congr (fun n hn => ?_)
  rw [List.mem_range] at hn
  unfold PF Pall
  simp [AF_told hw (show n < _ by omega) hq hg]
/-- two looks -/
def cT (s : ab_sl) (t : Nat) : Prop := ∃ q, q < 54 ∧ unk s q ∧ ∀ f, f < ab_b s → cO s (lsf t (PF s q f))
def rT (s : ab_sl) (t : Nat) : Prop := ∃ q, q < 6 * ab_ro s ∧ a_th (some s) q = true ∧ ∀ f, f < ab_b s → rO s (lsf t (PF s q f))
theorem two_eq {s : ab_sl} {t : Nat} (hw : ab_wf s) (ht : t ≤ cn (fb s (ab_g s) 0) (nn s)) (ht2 : ¬ t ≤ 1) : cT s t ↔ rO s (lsf t Pall) ∨ rT s t := by
  have hro := hw.2.2.2.2.2.1
  have ofO : rO s (lsf t Pall) → cT s t := by
    intro h
    rcases (one_eq hw ht).mpr h with h | ⟨h1, q, h2, h3, h4⟩
    · rw [lsf_all] at h; omega
    · exact ⟨q, h2, h3, fun f hf => Or.inl (by rw [lsf_PF]; exact (au_cn _ _ h4).1)⟩
  constructor
  · rintro ⟨q, h1, h2, h3⟩
    exact Or.inr ⟨q, by have := (a_th_some h2.1).1; omega, h2.1, fun f hf => (one_eq hw ht).mp (h3 f hf)⟩
  · rintro (h | ⟨q, h1, h2, h3⟩)
    · exact ofO h
    · by_cases hg : ab_g s q < 10
      · have hb : ab_g s q < ab_b s := by
          obtain ⟨a, b⟩ := a_th_some h2
          have := (hw.2.2.2.2.2.2.2.2.2.1 _ _ a b).2
          rw [show 6 * (q / 6) + q % 6 = q by omega] at this
          exact this hg
        have := h3 _ hb
        rw [lsf_told hw ht h2 hg] at this
        exact ofO this
      · exact ⟨q, by omega, ⟨h2, by omega⟩, fun f hf => (one_eq hw ht).mpr (h3 f hf)⟩
end LOOKA
