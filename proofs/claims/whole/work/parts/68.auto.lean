/-! numbers and loops, for a method's run by simp -/
section AUTO
def nM : Int32 := -1
def hM : Int32 := -1000000
theorem m_1 : (-1 : Int32) = nM := rfl
theorem m_h : (-1000000 : Int32) = hM := rfl
theorem lit_0 : (0 : Int32) = nI 0 := rfl
theorem lit_1 : (1 : Int32) = nI 1 := rfl
theorem lit_2 : (2 : Int32) = nI 2 := rfl
theorem lit_3 : (3 : Int32) = nI 3 := rfl
theorem lit_4 : (4 : Int32) = nI 4 := rfl
theorem lit_5 : (5 : Int32) = nI 5 := rfl
theorem lit_6 : (6 : Int32) = nI 6 := rfl
theorem lit_7 : (7 : Int32) = nI 7 := rfl
theorem lit_8 : (8 : Int32) = nI 8 := rfl
theorem lit_9 : (9 : Int32) = nI 9 := rfl
theorem lit_10 : (10 : Int32) = nI 10 := rfl
theorem lit_11 : (11 : Int32) = nI 11 := rfl
theorem lit_18 : (18 : Int32) = nI 18 := rfl
theorem lit_19 : (19 : Int32) = nI 19 := rfl
theorem lit_20 : (20 : Int32) = nI 20 := rfl
theorem lit_24 : (24 : Int32) = nI 24 := rfl
theorem lit_32 : (32 : Int32) = nI 32 := rfl
theorem lit_38 : (38 : Int32) = nI 38 := rfl
theorem lit_40 : (40 : Int32) = nI 40 := rfl
theorem lit_41 : (41 : Int32) = nI 41 := rfl
theorem lit_42 : (42 : Int32) = nI 42 := rfl
theorem lit_43 : (43 : Int32) = nI 43 := rfl
theorem lit_45 : (45 : Int32) = nI 45 := rfl
theorem lit_47 : (47 : Int32) = nI 47 := rfl
theorem lit_48 : (48 : Int32) = nI 48 := rfl
theorem lit_49 : (49 : Int32) = nI 49 := rfl
theorem lit_52 : (52 : Int32) = nI 52 := rfl
theorem lit_54 : (54 : Int32) = nI 54 := rfl
theorem lit_57 : (57 : Int32) = nI 57 := rfl
theorem lit_58 : (58 : Int32) = nI 58 := rfl
theorem lit_59 : (59 : Int32) = nI 59 := rfl
theorem lit_60 : (60 : Int32) = nI 60 := rfl
theorem lit_61 : (61 : Int32) = nI 61 := rfl
theorem lit_62 : (62 : Int32) = nI 62 := rfl
theorem lit_63 : (63 : Int32) = nI 63 := rfl
theorem lit_79 : (79 : Int32) = nI 79 := rfl
theorem lit_80 : (80 : Int32) = nI 80 := rfl
theorem lit_90 : (90 : Int32) = nI 90 := rfl
theorem lit_91 : (91 : Int32) = nI 91 := rfl
theorem lit_93 : (93 : Int32) = nI 93 := rfl
theorem lit_97 : (97 : Int32) = nI 97 := rfl
theorem lit_98 : (98 : Int32) = nI 98 := rfl
theorem lit_99 : (99 : Int32) = nI 99 := rfl
theorem lit_100 : (100 : Int32) = nI 100 := rfl
theorem lit_104 : (104 : Int32) = nI 104 := rfl
theorem lit_109 : (109 : Int32) = nI 109 := rfl
theorem lit_110 : (110 : Int32) = nI 110 := rfl
theorem lit_114 : (114 : Int32) = nI 114 := rfl
theorem lit_115 : (115 : Int32) = nI 115 := rfl
theorem lit_116 : (116 : Int32) = nI 116 := rfl
theorem lit_124 : (124 : Int32) = nI 124 := rfl
theorem lit_160 : (160 : Int32) = nI 160 := rfl
theorem lit_199 : (199 : Int32) = nI 199 := rfl
theorem lit_200 : (200 : Int32) = nI 200 := rfl
theorem lit_255 : (255 : Int32) = nI 255 := rfl
theorem lit_340 : (340 : Int32) = nI 340 := rfl
theorem lit_999 : (999 : Int32) = nI 999 := rfl
theorem lit_1000 : (1000 : Int32) = nI 1000 := rfl
theorem lit_9999 : (9999 : Int32) = nI 9999 := rfl
theorem lit_1000000 : (1000000 : Int32) = nI 1000000 := rfl
theorem lt_T {a b : Nat} (h : a < b) (hb : b < 2 ^ 31) : (nI a < nI b) = True := eq_true (nI_lt h hb)
theorem lt_F {a b : Nat} (h : b ≤ a) (ha : a < 2 ^ 31) : (nI a < nI b) = False := eq_false (nI_nlt h ha)
theorem le_T {a b : Nat} (h : a ≤ b) (hb : b < 2 ^ 31) : (nI a ≤ nI b) = True := eq_true (nI_le h hb)
theorem le_F {a b : Nat} (h : b < a) (ha : a < 2 ^ 31) : (nI a ≤ nI b) = False := eq_false (nI_ge h ha)
theorem eq_T {a b : Nat} (h : a = b) : (nI a = nI b) = True := by rw [h]; exact eq_self _
theorem eq_F {a b : Nat} (h : ¬ a = b) (ha : a < 2 ^ 31) (hb : b < 2 ^ 31) : (nI a = nI b) = False := eq_false (fun e => h ((nI_eq ha hb).mp e))
theorem nM_toInt : nM.toInt = -1 := by decide
theorem hM_toInt : hM.toInt = -1000000 := by decide
theorem m_lt {a : Nat} (ha : a < 2 ^ 31) : (nM < nI a) = True := eq_true (by rw [Int32.lt_iff_toInt_lt, nM_toInt, nI_toInt ha]; omega)
theorem m_le {a : Nat} (ha : a < 2 ^ 31) : (nM ≤ nI a) = True := eq_true (by rw [Int32.le_iff_toInt_le, nM_toInt, nI_toInt ha]; omega)
theorem lt_m {a : Nat} (ha : a < 2 ^ 31) : (nI a < nM) = False := eq_false (by rw [Int32.lt_iff_toInt_lt, nM_toInt, nI_toInt ha]; omega)
theorem le_m {a : Nat} (ha : a < 2 ^ 31) : (nI a ≤ nM) = False := eq_false (by rw [Int32.le_iff_toInt_le, nM_toInt, nI_toInt ha]; omega)
theorem eq_m {a : Nat} (ha : a < 2 ^ 31) : (nI a = nM) = False := eq_false (fun e => by have := congrArg Int32.toInt e; rw [nM_toInt, nI_toInt ha] at this; omega)
theorem m_eq {a : Nat} (ha : a < 2 ^ 31) : (nM = nI a) = False := eq_false (fun e => by have := congrArg Int32.toInt e; rw [nM_toInt, nI_toInt ha] at this; omega)
def fM : Int32 := -2
theorem m_f : (-2 : Int32) = fM := rfl
theorem fM_toInt : fM.toInt = -2 := by decide
theorem f_eq {a : Nat} (ha : a < 2 ^ 31) : (fM = nI a) = False := eq_false (fun e => by have := congrArg Int32.toInt e; rw [fM_toInt, nI_toInt ha] at this; omega)
theorem f_lt {a : Nat} (ha : a < 2 ^ 31) : (fM < nI a) = True := eq_true (by rw [Int32.lt_iff_toInt_lt, fM_toInt, nI_toInt ha]; omega)
theorem f_le {a : Nat} (ha : a < 2 ^ 31) : (nI a ≤ fM) = False := eq_false (by rw [Int32.le_iff_toInt_le, fM_toInt, nI_toInt ha]; omega)
theorem f_m : (fM = nM) = False := by decide
theorem m_lm : (nM < nM) = False := by decide
theorem m_em : (nM ≤ nM) = True := by decide
theorem m_p1 : nM + nI 1 = nI 0 := by decide
theorem h_eq {a : Nat} (ha : a < 2 ^ 31) : (hM = nI a) = False := eq_false (fun e => by have := congrArg Int32.toInt e; rw [hM_toInt, nI_toInt ha] at this; omega)
theorem eq_h {a : Nat} (ha : a < 2 ^ 31) : (nI a = hM) = False := eq_false (fun e => by have := congrArg Int32.toInt e; rw [hM_toInt, nI_toInt ha] at this; omega)
theorem nI_sub {a b : Nat} (h : b ≤ a) : nI a - nI b = nI (a - b) := by
  obtain ⟨c, rfl⟩ : ∃ c, a = b + c := ⟨a - b, by omega⟩
  rw [← nI_add, Nat.add_sub_cancel_left]
  apply Int32.toInt_inj.mp
  rw [Int32.toInt_sub, Int32.toInt_add, Int.bmod_sub_bmod]
  rw [show (nI b).toInt + (nI c).toInt - (nI b).toInt = (nI c).toInt by omega, Int32.toInt_bmod]
theorem vp_T {k N : Nat} (h : k < N) (hN : N < 2 ^ 31) : vp_in (nI k) N = True := eq_true (vp_in_nI h hN)
theorem b01_0 {p : Prop} {h : Decidable p} : (@b01 p h = nI 0) = ¬ p := b01_e
theorem b01_z {p : Prop} {h : Decidable p} : (@b01 p h = nI 0 ∨ @b01 p h = nI 1) = True := b01_or
/-- nothing but these cells and these fields is another -/
def fq (S : List Nat) (T : List (Nat × Nat)) (I I' : xm_I) : Prop := ∀ o k, o ∉ S → (o, k) ∉ T → I' o k = I o k
theorem fq_rf {S : List Nat} {T : List (Nat × Nat)} {I : xm_I} : fq S T I I := fun _ _ _ _ => rfl
theorem fq_tr {S : List Nat} {T : List (Nat × Nat)} {I I1 I2 : xm_I} (h1 : fq S T I I1) (h2 : fq S T I1 I2) : fq S T I I2 := fun o k h h' => (h2 o k h h').trans (h1 o k h h')
theorem fq_sub {S S' : List Nat} {T T' : List (Nat × Nat)} {I I' : xm_I} (h : fq S T I I') (h1 : ∀ o ∈ S, o ∈ S') (h2 : ∀ t ∈ T, t ∈ T' ∨ t.1 ∈ S') : fq S' T' I I' := fun o k a b => h o k (fun e => a (h1 o e)) (fun e => (h2 _ e).elim (fun z => b z) (fun z => a z))
theorem fq_u1 {S : List Nat} {T : List (Nat × Nat)} {I I' : xm_I} {o k : Nat} {v : Int32} (h : fq S T I I') (ho : o ∈ S) : fq S T I (xm_up I' o k v) := fq_tr h (fun a b ha _ => up_o (fun e => ha (e ▸ ho)))
theorem fq_u2 {S : List Nat} {T : List (Nat × Nat)} {I I' : xm_I} {o k : Nat} {v : Int32} (h : fq S T I I') (ho : (o, k) ∈ T) : fq S T I (xm_up I' o k v) := fq_tr h (fun a b _ hb => by
  by_cases e : a = o
  · subst e
    by_cases e2 : b = k
    · subst e2; exact absurd ho hb
    · exact up_k e2
  · exact up_o e)
theorem fq_c {S : List Nat} {T : List (Nat × Nat)} {I I' : xm_I} {o : Nat} (h : fq S T I I') (h1 : o ∉ S) (h2 : ∀ t ∈ T, t.1 ≠ o) : I' o = I o := funext fun k => h o k h1 (fun e => h2 _ e rfl)
theorem fq_fr {S : List Nat} {I I' : xm_I} (h : fr S I I') : fq S [] I I' := fun o k a _ => by rw [h o a]
/-- a loop: an invariant of the cells by the counter -/
theorem lp {Z : Type} {F : Nat → xm_I → Option Z} {Inv : Nat → xm_I → Prop} {P : Option Z → Prop} (N : Nat) (step : ∀ m I, m < N → Inv m I → P (F m I) ∨ ∃ I', Inv (m + 1) I' ∧ F m I = F (m + 1) I') (fin : ∀ I, Inv N I → P (F N I)) : ∀ k I, k ≤ N → Inv k I → P (F k I) := by
  intro k I hk
  obtain ⟨n, hn⟩ : ∃ n, k + n = N := ⟨N - k, by omega⟩
  clear hk
  induction n generalizing k I with
  | zero => intro h; have e : k = N := by omega
            subst e; exact fin I h
  | succ n ih =>
    intro h
    rcases step k I (by omega) h with h1 | ⟨I', h1, h2⟩
    · exact h1
    · rw [h2]; exact ih (k + 1) I' (by omega) h1
/-- the same, with more than the cells in hand -/
theorem lpa {Z A : Type} {F : Nat → A → Option Z} {Inv : Nat → A → Prop} {P : Option Z → Prop} (N : Nat) (step : ∀ m a, m < N → Inv m a → P (F m a) ∨ ∃ a', Inv (m + 1) a' ∧ F m a = F (m + 1) a') (fin : ∀ a, Inv N a → P (F N a)) : ∀ k a, k ≤ N → Inv k a → P (F k a) := by
  intro k I hk
  obtain ⟨n, hn⟩ : ∃ n, k + n = N := ⟨N - k, by omega⟩
  clear hk
  induction n generalizing k I with
  | zero => intro h; have e : k = N := by omega
            subst e; exact fin I h
  | succ n ih =>
    intro h
    rcases step k I (by omega) h with h1 | ⟨I', h1, h2⟩
    · exact h1
    · rw [h2]; exact ih (k + 1) I' (by omega) h1
end AUTO
/-! arrays: pick and put of the class -/
section ARR
variable {d : Nat} {I : xm_I} {J : xm_J} {R : xm_R}
theorem pk_T {o N j : Nat} (hj : j < N) (hN : N < 2 ^ 31) : pk I o N (nI j) = I o j := pk_of hj hN
theorem pt_T {o N j : Nat} {v : Int32} (hj : j < N) (hN : N < 2 ^ 31) : pt I o N (nI j) v = xm_up I o j v := by
  unfold pt
  rw [if_neg (by rw [nI_lt0 (by omega)]; simp), if_neg, nI_clamp (by omega)]
  show ¬ nI N ≤ nI j
  rw [i32_le hN (by omega)]; omega
theorem pk_m {o N : Nat} : pk I o N nM = nI 0 := by
  unfold pk; rw [if_pos (by decide)]; rfl
theorem pk_out {o N j : Nat} (hj : N ≤ j) (hN : j < 2 ^ 31) : pk I o N (nI j) = nI 0 := by
  unfold pk
  rw [if_neg (by rw [nI_lt0 (by omega)]; simp), if_pos]
  · rfl
  · show nI N ≤ nI j
    rw [i32_le (by omega) (by omega)]; exact hj
theorem pc_2 {i : Int32} : xm_den d m_X11_pick 0 [some (.ref (2 : Nat)), some (.int i)] [] xm_la I J R = some (some (.int (pk I 2 160 i)), xm_la, I, J, R) := s_pick (o := 2) kd_2 (by rw [sz_2]; omega)
theorem pp_2 {i v : Int32} : xm_den d m_X11_put 0 [some (.ref (2 : Nat)), some (.int i), some (.int v)] [] xm_la I J R = some (none, xm_la, pt I 2 160 i v, J, R) := s_put (o := 2) kd_2 (by rw [sz_2]; omega)
theorem pc_4 {i : Int32} : xm_den d m_X11_pick 0 [some (.ref (4 : Nat)), some (.int i)] [] xm_la I J R = some (some (.int (pk I 4 0 i)), xm_la, I, J, R) := s_pick (o := 4) kd_4 (by rw [sz_4]; omega)
theorem pp_4 {i v : Int32} : xm_den d m_X11_put 0 [some (.ref (4 : Nat)), some (.int i), some (.int v)] [] xm_la I J R = some (none, xm_la, pt I 4 0 i v, J, R) := s_put (o := 4) kd_4 (by rw [sz_4]; omega)
theorem pc_7 {i : Int32} : xm_den d m_X11_pick 0 [some (.ref (7 : Nat)), some (.int i)] [] xm_la I J R = some (some (.int (pk I 7 9 i)), xm_la, I, J, R) := s_pick (o := 7) kd_7 (by rw [sz_7]; omega)
theorem pp_7 {i v : Int32} : xm_den d m_X11_put 0 [some (.ref (7 : Nat)), some (.int i), some (.int v)] [] xm_la I J R = some (none, xm_la, pt I 7 9 i v, J, R) := s_put (o := 7) kd_7 (by rw [sz_7]; omega)
theorem pc_8 {i : Int32} : xm_den d m_X11_pick 0 [some (.ref (8 : Nat)), some (.int i)] [] xm_la I J R = some (some (.int (pk I 8 54 i)), xm_la, I, J, R) := s_pick (o := 8) kd_8 (by rw [sz_8]; omega)
theorem pp_8 {i v : Int32} : xm_den d m_X11_put 0 [some (.ref (8 : Nat)), some (.int i), some (.int v)] [] xm_la I J R = some (none, xm_la, pt I 8 54 i v, J, R) := s_put (o := 8) kd_8 (by rw [sz_8]; omega)
theorem pc_10 {i : Int32} : xm_den d m_X11_pick 0 [some (.ref (10 : Nat)), some (.int i)] [] xm_la I J R = some (some (.int (pk I 10 5 i)), xm_la, I, J, R) := s_pick (o := 10) kd_10 (by rw [sz_10]; omega)
theorem pp_10 {i v : Int32} : xm_den d m_X11_put 0 [some (.ref (10 : Nat)), some (.int i), some (.int v)] [] xm_la I J R = some (none, xm_la, pt I 10 5 i v, J, R) := s_put (o := 10) kd_10 (by rw [sz_10]; omega)
theorem pc_13 {i : Int32} : xm_den d m_X11_pick 0 [some (.ref (13 : Nat)), some (.int i)] [] xm_la I J R = some (some (.int (pk I 13 160 i)), xm_la, I, J, R) := s_pick (o := 13) kd_13 (by rw [sz_13]; omega)
theorem pp_13 {i v : Int32} : xm_den d m_X11_put 0 [some (.ref (13 : Nat)), some (.int i), some (.int v)] [] xm_la I J R = some (none, xm_la, pt I 13 160 i v, J, R) := s_put (o := 13) kd_13 (by rw [sz_13]; omega)
theorem pc_15 {i : Int32} : xm_den d m_X11_pick 0 [some (.ref (15 : Nat)), some (.int i)] [] xm_la I J R = some (some (.int (pk I 15 160 i)), xm_la, I, J, R) := s_pick (o := 15) kd_15 (by rw [sz_15]; omega)
theorem pp_15 {i v : Int32} : xm_den d m_X11_put 0 [some (.ref (15 : Nat)), some (.int i), some (.int v)] [] xm_la I J R = some (none, xm_la, pt I 15 160 i v, J, R) := s_put (o := 15) kd_15 (by rw [sz_15]; omega)
theorem pc_17 {i : Int32} : xm_den d m_X11_pick 0 [some (.ref (17 : Nat)), some (.int i)] [] xm_la I J R = some (some (.int (pk I 17 160 i)), xm_la, I, J, R) := s_pick (o := 17) kd_17 (by rw [sz_17]; omega)
theorem pp_17 {i v : Int32} : xm_den d m_X11_put 0 [some (.ref (17 : Nat)), some (.int i), some (.int v)] [] xm_la I J R = some (none, xm_la, pt I 17 160 i v, J, R) := s_put (o := 17) kd_17 (by rw [sz_17]; omega)
theorem pc_19 {i : Int32} : xm_den d m_X11_pick 0 [some (.ref (19 : Nat)), some (.int i)] [] xm_la I J R = some (some (.int (pk I 19 160 i)), xm_la, I, J, R) := s_pick (o := 19) kd_19 (by rw [sz_19]; omega)
theorem pp_19 {i v : Int32} : xm_den d m_X11_put 0 [some (.ref (19 : Nat)), some (.int i), some (.int v)] [] xm_la I J R = some (none, xm_la, pt I 19 160 i v, J, R) := s_put (o := 19) kd_19 (by rw [sz_19]; omega)
theorem pc_21 {i : Int32} : xm_den d m_X11_pick 0 [some (.ref (21 : Nat)), some (.int i)] [] xm_la I J R = some (some (.int (pk I 21 9 i)), xm_la, I, J, R) := s_pick (o := 21) kd_21 (by rw [sz_21]; omega)
theorem pp_21 {i v : Int32} : xm_den d m_X11_put 0 [some (.ref (21 : Nat)), some (.int i), some (.int v)] [] xm_la I J R = some (none, xm_la, pt I 21 9 i v, J, R) := s_put (o := 21) kd_21 (by rw [sz_21]; omega)
theorem pc_22 {i : Int32} : xm_den d m_X11_pick 0 [some (.ref (22 : Nat)), some (.int i)] [] xm_la I J R = some (some (.int (pk I 22 54 i)), xm_la, I, J, R) := s_pick (o := 22) kd_22 (by rw [sz_22]; omega)
theorem pp_22 {i v : Int32} : xm_den d m_X11_put 0 [some (.ref (22 : Nat)), some (.int i), some (.int v)] [] xm_la I J R = some (none, xm_la, pt I 22 54 i v, J, R) := s_put (o := 22) kd_22 (by rw [sz_22]; omega)
theorem pc_24 {i : Int32} : xm_den d m_X11_pick 0 [some (.ref (24 : Nat)), some (.int i)] [] xm_la I J R = some (some (.int (pk I 24 9 i)), xm_la, I, J, R) := s_pick (o := 24) kd_24 (by rw [sz_24]; omega)
theorem pp_24 {i v : Int32} : xm_den d m_X11_put 0 [some (.ref (24 : Nat)), some (.int i), some (.int v)] [] xm_la I J R = some (none, xm_la, pt I 24 9 i v, J, R) := s_put (o := 24) kd_24 (by rw [sz_24]; omega)
theorem pc_25 {i : Int32} : xm_den d m_X11_pick 0 [some (.ref (25 : Nat)), some (.int i)] [] xm_la I J R = some (some (.int (pk I 25 54 i)), xm_la, I, J, R) := s_pick (o := 25) kd_25 (by rw [sz_25]; omega)
theorem pp_25 {i v : Int32} : xm_den d m_X11_put 0 [some (.ref (25 : Nat)), some (.int i), some (.int v)] [] xm_la I J R = some (none, xm_la, pt I 25 54 i v, J, R) := s_put (o := 25) kd_25 (by rw [sz_25]; omega)
theorem pc_27 {i : Int32} : xm_den d m_X11_pick 0 [some (.ref (27 : Nat)), some (.int i)] [] xm_la I J R = some (some (.int (pk I 27 40 i)), xm_la, I, J, R) := s_pick (o := 27) kd_27 (by rw [sz_27]; omega)
theorem pp_27 {i v : Int32} : xm_den d m_X11_put 0 [some (.ref (27 : Nat)), some (.int i), some (.int v)] [] xm_la I J R = some (none, xm_la, pt I 27 40 i v, J, R) := s_put (o := 27) kd_27 (by rw [sz_27]; omega)
theorem pc_28 {i : Int32} : xm_den d m_X11_pick 0 [some (.ref (28 : Nat)), some (.int i)] [] xm_la I J R = some (some (.int (pk I 28 40 i)), xm_la, I, J, R) := s_pick (o := 28) kd_28 (by rw [sz_28]; omega)
theorem pp_28 {i v : Int32} : xm_den d m_X11_put 0 [some (.ref (28 : Nat)), some (.int i), some (.int v)] [] xm_la I J R = some (none, xm_la, pt I 28 40 i v, J, R) := s_put (o := 28) kd_28 (by rw [sz_28]; omega)
theorem pc_30 {i : Int32} : xm_den d m_X11_pick 0 [some (.ref (30 : Nat)), some (.int i)] [] xm_la I J R = some (some (.int (pk I 30 54 i)), xm_la, I, J, R) := s_pick (o := 30) kd_30 (by rw [sz_30]; omega)
theorem pp_30 {i v : Int32} : xm_den d m_X11_put 0 [some (.ref (30 : Nat)), some (.int i), some (.int v)] [] xm_la I J R = some (none, xm_la, pt I 30 54 i v, J, R) := s_put (o := 30) kd_30 (by rw [sz_30]; omega)
theorem pc_31 {i : Int32} : xm_den d m_X11_pick 0 [some (.ref (31 : Nat)), some (.int i)] [] xm_la I J R = some (some (.int (pk I 31 54 i)), xm_la, I, J, R) := s_pick (o := 31) kd_31 (by rw [sz_31]; omega)
theorem pp_31 {i v : Int32} : xm_den d m_X11_put 0 [some (.ref (31 : Nat)), some (.int i), some (.int v)] [] xm_la I J R = some (none, xm_la, pt I 31 54 i v, J, R) := s_put (o := 31) kd_31 (by rw [sz_31]; omega)
theorem pc_32 {i : Int32} : xm_den d m_X11_pick 0 [some (.ref (32 : Nat)), some (.int i)] [] xm_la I J R = some (some (.int (pk I 32 9 i)), xm_la, I, J, R) := s_pick (o := 32) kd_32 (by rw [sz_32]; omega)
theorem pp_32 {i v : Int32} : xm_den d m_X11_put 0 [some (.ref (32 : Nat)), some (.int i), some (.int v)] [] xm_la I J R = some (none, xm_la, pt I 32 9 i v, J, R) := s_put (o := 32) kd_32 (by rw [sz_32]; omega)
theorem pc_33 {i : Int32} : xm_den d m_X11_pick 0 [some (.ref (33 : Nat)), some (.int i)] [] xm_la I J R = some (some (.int (pk I 33 9 i)), xm_la, I, J, R) := s_pick (o := 33) kd_33 (by rw [sz_33]; omega)
theorem pp_33 {i v : Int32} : xm_den d m_X11_put 0 [some (.ref (33 : Nat)), some (.int i), some (.int v)] [] xm_la I J R = some (none, xm_la, pt I 33 9 i v, J, R) := s_put (o := 33) kd_33 (by rw [sz_33]; omega)
theorem pc_34 {i : Int32} : xm_den d m_X11_pick 0 [some (.ref (34 : Nat)), some (.int i)] [] xm_la I J R = some (some (.int (pk I 34 9 i)), xm_la, I, J, R) := s_pick (o := 34) kd_34 (by rw [sz_34]; omega)
theorem pp_34 {i v : Int32} : xm_den d m_X11_put 0 [some (.ref (34 : Nat)), some (.int i), some (.int v)] [] xm_la I J R = some (none, xm_la, pt I 34 9 i v, J, R) := s_put (o := 34) kd_34 (by rw [sz_34]; omega)
theorem pc_35 {i : Int32} : xm_den d m_X11_pick 0 [some (.ref (35 : Nat)), some (.int i)] [] xm_la I J R = some (some (.int (pk I 35 9 i)), xm_la, I, J, R) := s_pick (o := 35) kd_35 (by rw [sz_35]; omega)
theorem pp_35 {i v : Int32} : xm_den d m_X11_put 0 [some (.ref (35 : Nat)), some (.int i), some (.int v)] [] xm_la I J R = some (none, xm_la, pt I 35 9 i v, J, R) := s_put (o := 35) kd_35 (by rw [sz_35]; omega)
theorem pc_36 {i : Int32} : xm_den d m_X11_pick 0 [some (.ref (36 : Nat)), some (.int i)] [] xm_la I J R = some (some (.int (pk I 36 100 i)), xm_la, I, J, R) := s_pick (o := 36) kd_36 (by rw [sz_36]; omega)
theorem pp_36 {i v : Int32} : xm_den d m_X11_put 0 [some (.ref (36 : Nat)), some (.int i), some (.int v)] [] xm_la I J R = some (none, xm_la, pt I 36 100 i v, J, R) := s_put (o := 36) kd_36 (by rw [sz_36]; omega)
theorem pc_37 {i : Int32} : xm_den d m_X11_pick 0 [some (.ref (37 : Nat)), some (.int i)] [] xm_la I J R = some (some (.int (pk I 37 8 i)), xm_la, I, J, R) := s_pick (o := 37) kd_37 (by rw [sz_37]; omega)
theorem pp_37 {i v : Int32} : xm_den d m_X11_put 0 [some (.ref (37 : Nat)), some (.int i), some (.int v)] [] xm_la I J R = some (none, xm_la, pt I 37 8 i v, J, R) := s_put (o := 37) kd_37 (by rw [sz_37]; omega)
theorem pc_39 {i : Int32} : xm_den d m_X11_pick 0 [some (.ref (39 : Nat)), some (.int i)] [] xm_la I J R = some (some (.int (pk I 39 540 i)), xm_la, I, J, R) := s_pick (o := 39) kd_39 (by rw [sz_39]; omega)
theorem pp_39 {i v : Int32} : xm_den d m_X11_put 0 [some (.ref (39 : Nat)), some (.int i), some (.int v)] [] xm_la I J R = some (none, xm_la, pt I 39 540 i v, J, R) := s_put (o := 39) kd_39 (by rw [sz_39]; omega)
theorem pc_40 {i : Int32} : xm_den d m_X11_pick 0 [some (.ref (40 : Nat)), some (.int i)] [] xm_la I J R = some (some (.int (pk I 40 1000 i)), xm_la, I, J, R) := s_pick (o := 40) kd_40 (by rw [sz_40]; omega)
theorem pp_40 {i v : Int32} : xm_den d m_X11_put 0 [some (.ref (40 : Nat)), some (.int i), some (.int v)] [] xm_la I J R = some (none, xm_la, pt I 40 1000 i v, J, R) := s_put (o := 40) kd_40 (by rw [sz_40]; omega)
theorem pc_41 {i : Int32} : xm_den d m_X11_pick 0 [some (.ref (41 : Nat)), some (.int i)] [] xm_la I J R = some (some (.int (pk I 41 9 i)), xm_la, I, J, R) := s_pick (o := 41) kd_41 (by rw [sz_41]; omega)
theorem pp_41 {i v : Int32} : xm_den d m_X11_put 0 [some (.ref (41 : Nat)), some (.int i), some (.int v)] [] xm_la I J R = some (none, xm_la, pt I 41 9 i v, J, R) := s_put (o := 41) kd_41 (by rw [sz_41]; omega)
theorem pc_43 {i : Int32} : xm_den d m_X11_pick 0 [some (.ref (43 : Nat)), some (.int i)] [] xm_la I J R = some (some (.int (pk I 43 54 i)), xm_la, I, J, R) := s_pick (o := 43) kd_43 (by rw [sz_43]; omega)
theorem pp_43 {i v : Int32} : xm_den d m_X11_put 0 [some (.ref (43 : Nat)), some (.int i), some (.int v)] [] xm_la I J R = some (none, xm_la, pt I 43 54 i v, J, R) := s_put (o := 43) kd_43 (by rw [sz_43]; omega)
theorem pc_45 {i : Int32} : xm_den d m_X11_pick 0 [some (.ref (45 : Nat)), some (.int i)] [] xm_la I J R = some (some (.int (pk I 45 9 i)), xm_la, I, J, R) := s_pick (o := 45) kd_45 (by rw [sz_45]; omega)
theorem pp_45 {i v : Int32} : xm_den d m_X11_put 0 [some (.ref (45 : Nat)), some (.int i), some (.int v)] [] xm_la I J R = some (none, xm_la, pt I 45 9 i v, J, R) := s_put (o := 45) kd_45 (by rw [sz_45]; omega)
theorem pc_47 {i : Int32} : xm_den d m_X11_pick 0 [some (.ref (47 : Nat)), some (.int i)] [] xm_la I J R = some (some (.int (pk I 47 1800 i)), xm_la, I, J, R) := s_pick (o := 47) kd_47 (by rw [sz_47]; omega)
theorem pp_47 {i v : Int32} : xm_den d m_X11_put 0 [some (.ref (47 : Nat)), some (.int i), some (.int v)] [] xm_la I J R = some (none, xm_la, pt I 47 1800 i v, J, R) := s_put (o := 47) kd_47 (by rw [sz_47]; omega)
theorem pc_48 {i : Int32} : xm_den d m_X11_pick 0 [some (.ref (48 : Nat)), some (.int i)] [] xm_la I J R = some (some (.int (pk I 48 200 i)), xm_la, I, J, R) := s_pick (o := 48) kd_48 (by rw [sz_48]; omega)
theorem pp_48 {i v : Int32} : xm_den d m_X11_put 0 [some (.ref (48 : Nat)), some (.int i), some (.int v)] [] xm_la I J R = some (none, xm_la, pt I 48 200 i v, J, R) := s_put (o := 48) kd_48 (by rw [sz_48]; omega)
end ARR
