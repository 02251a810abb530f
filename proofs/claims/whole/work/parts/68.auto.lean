/-! numbers and loops, for a method's run by simp -/
section AUTO
def nM : Int32 := -1
def hM : Int32 := -1000000
theorem m_1 : (-1 : Int32) = nM := rfl
theorem m_h : (-1000000 : Int32) = hM := rfl
theorem lit_0 : (0 : Int32) = nI 0 := rfl
theorem lit_1 : (1 : Int32) = nI 1 := rfl
theorem lit_2 : (2 : Int32) = nI 2 := rfl
theorem lit_3 : (3 : Int32) = nI 3 := rfl
theorem lit_4 : (4 : Int32) = nI 4 := rfl
theorem lit_5 : (5 : Int32) = nI 5 := rfl
theorem lit_6 : (6 : Int32) = nI 6 := rfl
theorem lit_7 : (7 : Int32) = nI 7 := rfl
theorem lit_8 : (8 : Int32) = nI 8 := rfl
theorem lit_9 : (9 : Int32) = nI 9 := rfl
theorem lit_10 : (10 : Int32) = nI 10 := rfl
theorem lit_11 : (11 : Int32) = nI 11 := rfl
theorem lit_18 : (18 : Int32) = nI 18 := rfl
theorem lit_19 : (19 : Int32) = nI 19 := rfl
theorem lit_20 : (20 : Int32) = nI 20 := rfl
theorem lit_24 : (24 : Int32) = nI 24 := rfl
theorem lit_32 : (32 : Int32) = nI 32 := rfl
theorem lit_38 : (38 : Int32) = nI 38 := rfl
theorem lit_40 : (40 : Int32) = nI 40 := rfl
theorem lit_41 : (41 : Int32) = nI 41 := rfl
theorem lit_42 : (42 : Int32) = nI 42 := rfl
theorem lit_43 : (43 : Int32) = nI 43 := rfl
theorem lit_45 : (45 : Int32) = nI 45 := rfl
theorem lit_47 : (47 : Int32) = nI 47 := rfl
theorem lit_48 : (48 : Int32) = nI 48 := rfl
theorem lit_49 : (49 : Int32) = nI 49 := rfl
theorem lit_52 : (52 : Int32) = nI 52 := rfl
theorem lit_54 : (54 : Int32) = nI 54 := rfl
theorem lit_57 : (57 : Int32) = nI 57 := rfl
theorem lit_58 : (58 : Int32) = nI 58 := rfl
theorem lit_59 : (59 : Int32) = nI 59 := rfl
theorem lit_60 : (60 : Int32) = nI 60 := rfl
theorem lit_61 : (61 : Int32) = nI 61 := rfl
theorem lit_62 : (62 : Int32) = nI 62 := rfl
theorem lit_63 : (63 : Int32) = nI 63 := rfl
theorem lit_79 : (79 : Int32) = nI 79 := rfl
theorem lit_80 : (80 : Int32) = nI 80 := rfl
theorem lit_90 : (90 : Int32) = nI 90 := rfl
theorem lit_91 : (91 : Int32) = nI 91 := rfl
theorem lit_93 : (93 : Int32) = nI 93 := rfl
theorem lit_97 : (97 : Int32) = nI 97 := rfl
theorem lit_98 : (98 : Int32) = nI 98 := rfl
theorem lit_99 : (99 : Int32) = nI 99 := rfl
theorem lit_100 : (100 : Int32) = nI 100 := rfl
theorem lit_104 : (104 : Int32) = nI 104 := rfl
theorem lit_109 : (109 : Int32) = nI 109 := rfl
theorem lit_110 : (110 : Int32) = nI 110 := rfl
theorem lit_114 : (114 : Int32) = nI 114 := rfl
theorem lit_115 : (115 : Int32) = nI 115 := rfl
theorem lit_116 : (116 : Int32) = nI 116 := rfl
theorem lit_124 : (124 : Int32) = nI 124 := rfl
theorem lit_160 : (160 : Int32) = nI 160 := rfl
theorem lit_199 : (199 : Int32) = nI 199 := rfl
theorem lit_200 : (200 : Int32) = nI 200 := rfl
theorem lit_255 : (255 : Int32) = nI 255 := rfl
theorem lit_340 : (340 : Int32) = nI 340 := rfl
theorem lit_999 : (999 : Int32) = nI 999 := rfl
theorem lit_1000 : (1000 : Int32) = nI 1000 := rfl
theorem lit_9999 : (9999 : Int32) = nI 9999 := rfl
theorem lit_1000000 : (1000000 : Int32) = nI 1000000 := rfl
theorem lt_T {a b : Nat} (h : a < b) (hb : b < 2 ^ 31) : (nI a < nI b) = True := eq_true (nI_lt h hb)
theorem lt_F {a b : Nat} (h : b ≤ a) (ha : a < 2 ^ 31) : (nI a < nI b) = False := eq_false (nI_nlt h ha)
theorem le_T {a b : Nat} (h : a ≤ b) (hb : b < 2 ^ 31) : (nI a ≤ nI b) = True := eq_true (nI_le h hb)
theorem le_F {a b : Nat} (h : b < a) (ha : a < 2 ^ 31) : (nI a ≤ nI b) = False := eq_false (nI_ge h ha)
theorem eq_T {a b : Nat} (h : a = b) : (nI a = nI b) = True := by rw [h]; exact eq_self _
theorem eq_F {a b : Nat} (h : ¬ a = b) (ha : a < 2 ^ 31) (hb : b < 2 ^ 31) : (nI a = nI b) = False := eq_false (fun e => h ((nI_eq ha hb).mp e))
theorem nM_toInt : nM.toInt = -1 := by decide
theorem hM_toInt : hM.toInt = -1000000 := by decide
theorem m_lt {a : Nat} (ha : a < 2 ^ 31) : (nM < nI a) = True := eq_true (by rw [Int32.lt_iff_toInt_lt, nM_toInt, nI_toInt ha]; omega)
theorem m_le {a : Nat} (ha : a < 2 ^ 31) : (nM ≤ nI a) = True := eq_true (by rw [Int32.le_iff_toInt_le, nM_toInt, nI_toInt ha]; omega)
theorem lt_m {a : Nat} (ha : a < 2 ^ 31) : (nI a < nM) = False := eq_false (by rw [Int32.lt_iff_toInt_lt, nM_toInt, nI_toInt ha]; omega)
theorem le_m {a : Nat} (ha : a < 2 ^ 31) : (nI a ≤ nM) = False := eq_false (by rw [Int32.le_iff_toInt_le, nM_toInt, nI_toInt ha]; omega)
theorem eq_m {a : Nat} (ha : a < 2 ^ 31) : (nI a = nM) = False := eq_false (fun e => by have := congrArg Int32.toInt e; rw [nM_toInt, nI_toInt ha] at this; omega)
theorem m_eq {a : Nat} (ha : a < 2 ^ 31) : (nM = nI a) = False := eq_false (fun e => by have := congrArg Int32.toInt e; rw [nM_toInt, nI_toInt ha] at this; omega)
theorem m_lm : (nM < nM) = False := by decide
theorem m_em : (nM ≤ nM) = True := by decide
theorem m_p1 : nM + nI 1 = nI 0 := by decide
theorem h_eq {a : Nat} (ha : a < 2 ^ 31) : (hM = nI a) = False := eq_false (fun e => by have := congrArg Int32.toInt e; rw [hM_toInt, nI_toInt ha] at this; omega)
theorem eq_h {a : Nat} (ha : a < 2 ^ 31) : (nI a = hM) = False := eq_false (fun e => by have := congrArg Int32.toInt e; rw [hM_toInt, nI_toInt ha] at this; omega)
theorem nI_sub {a b : Nat} (h : b ≤ a) : nI a - nI b = nI (a - b) := by
  obtain ⟨c, rfl⟩ : ∃ c, a = b + c := ⟨a - b, by omega⟩
  rw [← nI_add, Nat.add_sub_cancel_left]
  apply Int32.toInt_inj.mp
  rw [Int32.toInt_sub, Int32.toInt_add, Int.bmod_sub_bmod]
  rw [show (nI b).toInt + (nI c).toInt - (nI b).toInt = (nI c).toInt by omega, Int32.toInt_bmod]
theorem vp_T {k N : Nat} (h : k < N) (hN : N < 2 ^ 31) : vp_in (nI k) N = True := eq_true (vp_in_nI h hN)
theorem b01_0 {p : Prop} {h : Decidable p} : (@b01 p h = nI 0) = ¬ p := b01_e
theorem b01_z {p : Prop} {h : Decidable p} : (@b01 p h = nI 0 ∨ @b01 p h = nI 1) = True := b01_or
/-- nothing but these cells and these fields is another -/
def fq (S : List Nat) (T : List (Nat × Nat)) (I I' : xm_I) : Prop := ∀ o k, o ∉ S → (o, k) ∉ T → I' o k = I o k
theorem fq_rf {S : List Nat} {T : List (Nat × Nat)} {I : xm_I} : fq S T I I := fun _ _ _ _ => rfl
theorem fq_tr {S : List Nat} {T : List (Nat × Nat)} {I I1 I2 : xm_I} (h1 : fq S T I I1) (h2 : fq S T I1 I2) : fq S T I I2 := fun o k h h' => (h2 o k h h').trans (h1 o k h h')
theorem fq_sub {S S' : List Nat} {T T' : List (Nat × Nat)} {I I' : xm_I} (h : fq S T I I') (h1 : ∀ o ∈ S, o ∈ S') (h2 : ∀ t ∈ T, t ∈ T' ∨ t.1 ∈ S') : fq S' T' I I' := fun o k a b => h o k (fun e => a (h1 o e)) (fun e => (h2 _ e).elim (fun z => b z) (fun z => a z))
theorem fq_u1 {S : List Nat} {T : List (Nat × Nat)} {I I' : xm_I} {o k : Nat} {v : Int32} (h : fq S T I I') (ho : o ∈ S) : fq S T I (xm_up I' o k v) := fq_tr h (fun a b ha _ => up_o (fun e => ha (e ▸ ho)))
theorem fq_u2 {S : List Nat} {T : List (Nat × Nat)} {I I' : xm_I} {o k : Nat} {v : Int32} (h : fq S T I I') (ho : (o, k) ∈ T) : fq S T I (xm_up I' o k v) := fq_tr h (fun a b _ hb => by
  by_cases e : a = o
  · subst e
    by_cases e2 : b = k
    · subst e2; exact absurd ho hb
    · exact up_k e2
  · exact up_o e)
theorem fq_c {S : List Nat} {T : List (Nat × Nat)} {I I' : xm_I} {o : Nat} (h : fq S T I I') (h1 : o ∉ S) (h2 : ∀ t ∈ T, t.1 ≠ o) : I' o = I o := funext fun k => h o k h1 (fun e => h2 _ e rfl)
theorem fq_fr {S : List Nat} {I I' : xm_I} (h : fr S I I') : fq S [] I I' := fun o k a _ => by rw [h o a]
/-- a loop: an invariant of the cells by the counter -/
theorem lp {Z : Type} {F : Nat → xm_I → Option Z} {Inv : Nat → xm_I → Prop} {P : Option Z → Prop} (N : Nat) (step : ∀ m I, m < N → Inv m I → P (F m I) ∨ ∃ I', Inv (m + 1) I' ∧ F m I = F (m + 1) I') (fin : ∀ I, Inv N I → P (F N I)) : ∀ k I, k ≤ N → Inv k I → P (F k I) := by
  intro k I hk
  obtain ⟨n, hn⟩ : ∃ n, k + n = N := ⟨N - k, by omega⟩
  clear hk
  induction n generalizing k I with
  | zero => intro h; have e : k = N := by omega
            subst e; exact fin I h
  | succ n ih =>
    intro h
    rcases step k I (by omega) h with h1 | ⟨I', h1, h2⟩
    · exact h1
    · rw [h2]; exact ih (k + 1) I' (by omega) h1
/-- the same, with more than the cells in hand -/
theorem lpa {Z A : Type} {F : Nat → A → Option Z} {Inv : Nat → A → Prop} {P : Option Z → Prop} (N : Nat) (step : ∀ m a, m < N → Inv m a → P (F m a) ∨ ∃ a', Inv (m + 1) a' ∧ F m a = F (m + 1) a') (fin : ∀ a, Inv N a → P (F N a)) : ∀ k a, k ≤ N → Inv k a → P (F k a) := by
  intro k I hk
  obtain ⟨n, hn⟩ : ∃ n, k + n = N := ⟨N - k, by omega⟩
  clear hk
  induction n generalizing k I with
  | zero => intro h; have e : k = N := by omega
            subst e; exact fin I h
  | succ n ih =>
    intro h
    rcases step k I (by omega) h with h1 | ⟨I', h1, h2⟩
    · exact h1
    · rw [h2]; exact ih (k + 1) I' (by omega) h1
end AUTO
