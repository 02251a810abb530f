/-! an instruction of the abstract machine is one of the machine's: written by wip/whole/gen_sound.py -/
abbrev xm_q : Type := Nat × MethodName × ByteArray × Nat × Option FieldType × Nat × Nat
def xm_nc (lay : xm_L) : Nat := lay.2.length
def xm_ns (lay : xm_L) : Nat := (lay.2.map (·.2)).sum
theorem xm_some {α β γ : Type} {x y : α} (h : (some (Sum.inl x) : Option (α ⊕ (β ⊕ γ))) = some (Sum.inl y)) : y = x := by cases h; rfl
theorem xm_go_inv {n pc k : Nat} {L : xm_V} {st' : List Value} {lay : xm_L} {I : xm_I} {J : xm_J} {R : xm_R} {nx : xm_N} (h : xm_go n pc L lay I J R k st' = some (.inl nx)) : n = k ∧ nx = (pc + k, L, st', lay, I, J, R) := by
  unfold xm_go at h
  by_cases e : n = k
  · rw [if_pos e] at h; exact ⟨e, xm_some h⟩
  · rw [if_neg e] at h; cases h
theorem xm_jp_inv {pc t : Nat} {off : Int} (h : xm_jp pc off = some t) : (pc : Int) + off = (t : Int) := by
  unfold xm_jp at h
  split at h
  · cases h; omega
  · cases h
theorem xm_to_inv {n pc : Nat} {L : xm_V} {st' : List Value} {lay : xm_L} {I : xm_I} {J : xm_J} {R : xm_R} {nx : xm_N} {off : Int} {b : Bool} (h : xm_to n pc L lay I J R off b st' = some (.inl nx)) : n = 3 ∧ ∃ t : Nat, (pc : Int) + off = (t : Int) ∧ nx = (if b = true then t else pc + 3, L, st', lay, I, J, R) := by
  unfold xm_to at h
  by_cases e : n = 3
  · rw [if_pos e] at h
    cases hj : xm_jp pc off with
    | none => rw [hj] at h; cases h
    | some t => rw [hj] at h; exact ⟨e, t, xm_jp_inv hj, xm_some h⟩
  · rw [if_neg e] at h; cases h
theorem xm_ii_inv {st : List Value} {f : Int32 → Int32 → List Value → xm_S} {z : xm_N ⊕ (Option Value ⊕ xm_C)} (h : xm_ii st f = some z) : ∃ x y r, st = .int y :: .int x :: r ∧ f x y r = some z := by
  unfold xm_ii at h; split at h
  · exact ⟨_, _, _, rfl, h⟩
  · cases h
theorem xm_ll_inv {st : List Value} {f : Int64 → Int64 → List Value → xm_S} {z : xm_N ⊕ (Option Value ⊕ xm_C)} (h : xm_ll st f = some z) : ∃ x y r, st = .long y :: .long x :: r ∧ f x y r = some z := by
  unfold xm_ll at h; split at h
  · exact ⟨_, _, _, rfl, h⟩
  · cases h
theorem xm_li_inv {st : List Value} {f : Int64 → Int32 → List Value → xm_S} {z : xm_N ⊕ (Option Value ⊕ xm_C)} (h : xm_li st f = some z) : ∃ x y r, st = .int y :: .long x :: r ∧ f x y r = some z := by
  unfold xm_li at h; split at h
  · exact ⟨_, _, _, rfl, h⟩
  · cases h
theorem xm_i1_inv {st : List Value} {f : Int32 → List Value → xm_S} {z : xm_N ⊕ (Option Value ⊕ xm_C)} (h : xm_i1 st f = some z) : ∃ x r, st = .int x :: r ∧ f x r = some z := by
  unfold xm_i1 at h; split at h
  · exact ⟨_, _, rfl, h⟩
  · cases h
theorem xm_l1_inv {st : List Value} {f : Int64 → List Value → xm_S} {z : xm_N ⊕ (Option Value ⊕ xm_C)} (h : xm_l1 st f = some z) : ∃ x r, st = .long x :: r ∧ f x r = some z := by
  unfold xm_l1 at h; split at h
  · exact ⟨_, _, rfl, h⟩
  · cases h
theorem xm_r1_inv {st : List Value} {f : Nat → List Value → xm_S} {z : xm_N ⊕ (Option Value ⊕ xm_C)} (h : xm_r1 st f = some z) : ∃ x r, st = .ref x :: r ∧ f x r = some z := by
  unfold xm_r1 at h; split at h
  · exact ⟨_, _, rfl, h⟩
  · cases h
theorem xm_if_inv {α : Type} {P : Prop} [hP : Decidable P] {a : Option α} {z : α} (h : (if P then a else none) = some z) : P ∧ a = some z := by
  by_cases e : P
  · rw [if_pos e] at h; exact ⟨e, h⟩
  · rw [if_neg e] at h; cases h
theorem xm_ifn_inv {α : Type} {P : Prop} [hP : Decidable P] {a : Option α} {z : α} (h : (if P then none else a) = some z) : ¬ P ∧ a = some z := by
  by_cases e : P
  · rw [if_pos e] at h; cases h
  · rw [if_neg e] at h; exact ⟨e, h⟩

section XMS
variable {p : Program} {l : Launch} {e : Env} {Rm : Room} {s : State} {m : MethodId} {args : Array Value} {below : List Frame} {meth : Method} {c : Code} {D : va_G} {G : xm_G} {b : Nat}
/-- what holds all along a method -/
def xm_at (p : Program) (Rm : Room) (s : State) (m : MethodId) (args : Array Value) (meth : Method) (c : Code) (D : va_G) (G : xm_G) (b d : Nat) (q : xm_q) : Prop :=
  p.tables.exec = Jvm.exec ∧ c.code = q.2.2.1 ∧ c.maxLocals = q.2.2.2.1 ∧ s.vm.findClass (xm_own q.1) = some m.cls ∧ (∀ w ∈ xm_Ts, w.before args s = true) ∧ xm_K D G s ∧ meth.sig.returnType = q.2.2.2.2.1 ∧ meth.locks = false ∧ (xm_ise q = true → meth.name = "<init>") ∧ d ≤ Rm.frames ∧ 64 * d ≤ Rm.locals ∧ b ≤ s.heap.size
/-- what holds at one place of it -/
def xm_sx (s : State) (G : xm_G) (D : va_G) (b nL : Nat) (ls : Array Slot) (L : xm_V) (H : Heap) (locs : List Loc) (cells : Nat) (lay : xm_L) (I : xm_I) (J : xm_J) (R : xm_R) : Prop :=
  va_P D xm_cls (xm_ws G b lay.2 I J R) H ∧ va_S (fun q => b ≤ q) s.heap H locs ∧ xm_lr b nL ls L ∧ (lay.1 = true → s.heap.size + cells = b + lay.2.length)
def xm_ok (p : Program) (l : Launch) (e : Env) (Rm : Room) (s : State) (m : MethodId) (args : Array Value) (below : List Frame) (meth : Method) (c : Code) (D : va_G) (G : xm_G) (b nL pc : Nat) (L : xm_V) (st : List Value) (lay : xm_L) (I : xm_I) (J : xm_J) (R : xm_R) (nx : xm_N) : Prop :=
  xm_nc lay ≤ xm_nc nx.2.2.2.1 ∧ xm_ns lay ≤ xm_ns nx.2.2.2.1 ∧ nx.2.2.2.1.1 = lay.1 ∧ ∀ (H : Heap) (locs : List Loc) (cells slots : Nat) (Q : State → Prop) (ls : Array Slot), xm_sx s G D b nL ls L H locs cells lay I J R →
    cells + (xm_nc nx.2.2.2.1 - xm_nc lay) ≤ Rm.cells → slots + (xm_ns nx.2.2.2.1 - xm_ns lay) ≤ Rm.slots →
    (∀ (H' : Heap) (locs' : List Loc) (ls' : Array Slot), xm_sx s G D b nL ls' nx.2.1 H' locs' (cells + (xm_nc nx.2.2.2.1 - xm_nc lay)) nx.2.2.2.1 nx.2.2.2.2.1 nx.2.2.2.2.2.1 nx.2.2.2.2.2.2 → W p l e Rm s m args below meth c H' locs' (cells + (xm_nc nx.2.2.2.1 - xm_nc lay)) (slots + (xm_ns nx.2.2.2.1 - xm_ns lay)) Q (F0 m nx.1 ls' (nx.2.2.1.map (xm_cv b)))) →
    W p l e Rm s m args below meth c H locs cells slots Q (F0 m pc ls (st.map (xm_cv b)))
variable {nL pc pc' : Nat} {L L' : xm_V} {st st' : List Value} {lay : xm_L} {I I' : xm_I} {J J' : xm_J} {R R' : xm_R}
theorem xm_pu (rule : ∀ {H : Heap} {locs : List Loc} {cells slots : Nat} {Q : State → Prop} {ls : Array Slot}, xm_sx s G D b nL ls L H locs cells lay I J R → cells ≤ Rm.cells → slots ≤ Rm.slots → W p l e Rm s m args below meth c H locs cells slots Q (F0 m pc' ls (st'.map (xm_cv b))) → W p l e Rm s m args below meth c H locs cells slots Q (F0 m pc ls (st.map (xm_cv b)))) :
    xm_ok p l e Rm s m args below meth c D G b nL pc L st lay I J R (pc', L, st', lay, I, J, R) := by
  refine ⟨Nat.le_refl _, Nat.le_refl _, rfl, fun H locs cells slots Q ls hs h1 h2 kk => ?_⟩
  simp only [Nat.sub_self, Nat.add_zero] at h1 h2 kk
  exact rule hs h1 h2 (kk H locs ls hs)
theorem xm_pl (rule : ∀ {H : Heap} {locs : List Loc} {cells slots : Nat} {Q : State → Prop} {ls : Array Slot}, xm_sx s G D b nL ls L H locs cells lay I J R → (∀ ls' : Array Slot, xm_lr b nL ls' L' → W p l e Rm s m args below meth c H locs cells slots Q (F0 m pc' ls' (st'.map (xm_cv b)))) → W p l e Rm s m args below meth c H locs cells slots Q (F0 m pc ls (st.map (xm_cv b)))) :
    xm_ok p l e Rm s m args below meth c D G b nL pc L st lay I J R (pc', L', st', lay, I, J, R) := by
  refine ⟨Nat.le_refl _, Nat.le_refl _, rfl, fun H locs cells slots Q ls hs h1 h2 kk => ?_⟩
  simp only [Nat.sub_self, Nat.add_zero] at h1 h2 kk
  exact rule hs fun ls' hl => kk H locs ls' ⟨hs.1, hs.2.1, hl, hs.2.2.2⟩
theorem xm_pm (rule : ∀ {H : Heap} {locs : List Loc} {cells slots : Nat} {Q : State → Prop} {ls : Array Slot}, xm_sx s G D b nL ls L H locs cells lay I J R → (∀ (H1 : Heap) (locs1 : List Loc), va_P D xm_cls (xm_ws G b lay.2 I' J' R') H1 → va_S (fun q => b ≤ q) s.heap H1 locs1 → W p l e Rm s m args below meth c H1 locs1 cells slots Q (F0 m pc' ls (st'.map (xm_cv b)))) → W p l e Rm s m args below meth c H locs cells slots Q (F0 m pc ls (st.map (xm_cv b)))) :
    xm_ok p l e Rm s m args below meth c D G b nL pc L st lay I J R (pc', L, st', lay, I', J', R') := by
  refine ⟨Nat.le_refl _, Nat.le_refl _, rfl, fun H locs cells slots Q ls hs h1 h2 kk => ?_⟩
  simp only [Nat.sub_self, Nat.add_zero] at h1 h2 kk
  exact rule hs fun H1 locs1 hP hS => kk H1 locs1 ls ⟨hP, hS, hs.2.2.1, hs.2.2.2⟩
/-- what is new -/
theorem xm_pn {ex : Nat × Nat} (hbs : b ≤ s.heap.size) (hfl : lay.1 = true) (hr : ∀ a, a ≠ lay.2.length → I' a = I a ∧ J' a = J a ∧ R' a = R a)
    (rule : ∀ {H : Heap} {locs : List Loc} {cells slots : Nat} {Q : State → Prop} {ls : Array Slot}, xm_sx s G D b nL ls L H locs cells lay I J R → H.size = b + lay.2.length → cells + 1 ≤ Rm.cells → slots + ex.2 ≤ Rm.slots →
      (∀ H1 : Heap, va_at D xm_cls (b + lay.2.length, xm_cell G b I' J' R' lay.2.length ex) H1 → H1.size = H.size + 1 → (∀ q, q < H.size → H1[q]? = H[q]?) → W p l e Rm s m args below meth c H1 locs (cells + 1) (slots + ex.2) Q (F0 m pc' ls (st'.map (xm_cv b)))) → W p l e Rm s m args below meth c H locs cells slots Q (F0 m pc ls (st.map (xm_cv b)))) :
    xm_ok p l e Rm s m args below meth c D G b nL pc L st lay I J R (pc', L, st', (true, lay.2 ++ [ex]), I', J', R') := by
  have e1 : xm_nc (true, lay.2 ++ [ex]) = xm_nc lay + 1 := by simp [xm_nc]
  have e2 : xm_ns (true, lay.2 ++ [ex]) = xm_ns lay + ex.2 := by simp [xm_ns]
  refine ⟨by show xm_nc lay ≤ xm_nc (true, lay.2 ++ [ex]); omega, by show xm_ns lay ≤ xm_ns (true, lay.2 ++ [ex]); omega, hfl.symm, fun H locs cells slots Q ls hs h1 h2 kk => ?_⟩
  dsimp only at h1 h2 kk
  rw [e1] at h1 kk
  rw [e2] at h2 kk
  rw [Nat.add_sub_cancel_left] at h1 h2 kk
  rw [Nat.add_sub_cancel_left] at kk
  intro T hT X
  have hz : H.size = b + lay.2.length := by
    have u1 := X.same.2.1
    have u2 := X.same.2.2.1
    have u3 : (T.setVm s.vm).heap = H := hT
    rw [u3] at u1 u2
    have u4 := hs.2.2.2 hfl
    have u5 : b + lay.2.length ≤ H.size := by
      cases hl : lay.2.length with
      | zero => rw [hl] at u4; omega
      | succ k =>
        have hk : k < lay.2.length := by omega
        have := (hs.1 k _ (xm_ws_at (List.getElem?_eq_getElem hk))).lt
        have h0 : b + k < H.size := this
        omega
    omega
  refine rule hs hz h1 h2 (fun H1 hat hz1 ho => ?_) T hT X
  refine kk H1 locs ls ⟨?_, ⟨Nat.le_trans hs.2.1.1 (by omega), fun q a1 a2 => (ho q (Nat.lt_of_lt_of_le a1 hs.2.1.1)).trans (hs.2.1.2.1 q a1 a2), hs.2.1.2.2⟩, hs.2.2.1, fun _ => ?_⟩
  · show va_P D xm_cls (xm_ws G b (lay.2 ++ [ex]) I' J' R') H1
    rw [xm_ws_push hr]
    refine (hs.1.kept fun k x hx => ho x.1 (hs.1 k x hx).lt).app fun k x hx => ?_
    have hk : k < 1 := (List.getElem?_eq_some_iff.mp hx).1
    rw [show k = 0 by omega] at hx
    cases hx
    exact hat
  · have u4 := hs.2.2.2 hfl
    show s.heap.size + (cells + 1) = b + (lay.2 ++ [ex]).length
    rw [List.length_append, List.length_singleton]; omega
theorem xm_obj_at {ci a : Nat} (h : lay.2[a]? = some (ci, xm_nf ci)) (hc : ci < 13) : (xm_ws G b lay.2 I J R)[a]? = some (b + a, .inr (ci, (List.range (xm_nf ci)).map (fun k => xm_val b (xm_ft ci k) (I a k) (J a k) (R a k)))) := by
  rw [xm_ws_at h]; unfold xm_cell; rw [if_pos (show (ci, xm_nf ci).1 < 100 by show ci < 100; omega)]
theorem xm_fs_get {ci a k N : Nat} (hk : k < N) : ((List.range N).map (fun k => xm_val b (xm_ft ci k) (I a k) (J a k) (R a k)))[k]? = some (xm_cv b (xm_gv I J R (xm_ft ci k) a k)) := by
  rw [xm_cv_gv, List.getElem?_map, List.getElem?_range hk]; rfl
theorem xm_arr_int {a n : Nat} (h : lay.2[a]? = some (100, n)) : (xm_ws G b lay.2 I J R)[a]? = some (b + a, .inl (G.1, n, .inl (I a))) := by
  rw [xm_ws_at h]; rfl
theorem xm_arr_ref {a n : Nat} (h : lay.2[a]? = some (102, n)) : (xm_ws G b lay.2 I J R)[a]? = some (b + a, .inl (G.2.2, n, .inr (.inr (.inr (.inr (fun k => (R a k).map (b + ·))))))) := by
  rw [xm_ws_at h]; rfl
theorem xm_ar_inv {t a : Nat} {i : Int32} {f : xm_S} {z : xm_N ⊕ (Option Value ⊕ xm_C)} (h : xm_ar lay t a i f = some z) : ∃ n, lay.2[a]? = some (t, n) ∧ vp_in i n ∧ f = some z := by
  unfold xm_ar at h
  cases hl : lay.2[a]? with
  | none => rw [hl] at h; cases h
  | some q =>
    rw [hl] at h
    obtain ⟨⟨h1, h2⟩, h3⟩ := xm_if_inv h
    subst h1
    exact ⟨q.2, rfl, h2, h3⟩
theorem xm_set_fs {ci a k N : Nat} {v : Value} (hk : k < N) (hv : v = xm_val b (xm_ft ci k) (I' a k) (J' a k) (R' a k)) (hne : ∀ j, j ≠ k → I' a j = I a j ∧ J' a j = J a j ∧ R' a j = R a j) :
    ((List.range N).map (fun k => xm_val b (xm_ft ci k) (I a k) (J a k) (R a k))).set k v = (List.range N).map (fun k => xm_val b (xm_ft ci k) (I' a k) (J' a k) (R' a k)) := by
  refine List.ext_getElem? fun j => ?_
  rw [List.getElem?_set]
  by_cases hj : k = j
  · subst hj
    rw [if_pos rfl, if_pos (by simpa using hk), List.getElem?_map, List.getElem?_range hk, hv]; rfl
  · rw [if_neg hj, List.getElem?_map, List.getElem?_map]
    obtain ⟨h1, h2, h3⟩ := hne j (fun q => hj q.symm)
    cases hh : (List.range N)[j]? with
    | none => rfl
    | some i =>
      have hi : i = j := by
        obtain ⟨w, e⟩ := List.getElem?_eq_some_iff.mp hh
        rw [List.getElem_range] at e
        exact e.symm
      subst hi
      simp only [Option.map_some]; rw [h1, h2, h3]
end XMS
