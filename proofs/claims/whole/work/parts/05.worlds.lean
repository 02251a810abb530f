/-! the abstract machine's worlds as the machine's own -/
abbrev xm_G : Type := ClassId × ClassId × ClassId
def xm_cv (b : Nat) : Value → Value
  | .ref a => .ref (b + a)
  | v => v
def xm_val (b t : Nat) (i : Int32) (j : Int64) (r : Option Nat) : Value := match t with
  | 0 => .int i
  | 1 => .long j
  | _ => va_rf (r.map (b + ·))
def xm_cell (G : xm_G) (b : Nat) (I : xm_I) (J : xm_J) (R : xm_R) (o : Nat) (e : Nat × Nat) : va_E :=
  if e.1 < 100 then .inr (e.1, (List.range e.2).map (fun k => xm_val b (xm_ft e.1 k) (I o k) (J o k) (R o k)))
  else if e.1 = 100 then .inl (G.1, e.2, .inl (I o))
  else if e.1 = 101 then .inl (G.2.1, e.2, .inr (.inl (J o)))
  else .inl (G.2.2, e.2, .inr (.inr (.inr (.inr (fun k => (R o k).map (b + ·))))))
def xm_ws (G : xm_G) (b : Nat) (lay : List (Nat × Nat)) (I : xm_I) (J : xm_J) (R : xm_R) : va_W := lay.zipIdx.map (fun p => (b + p.2, xm_cell G b I J R p.2 p.1))
theorem xm_ws_get {G : xm_G} {b : Nat} {lay : List (Nat × Nat)} {I : xm_I} {J : xm_J} {R : xm_R} (o : Nat) : (xm_ws G b lay I J R)[o]? = (lay[o]?).map (fun e => (b + o, xm_cell G b I J R o e)) := by
  unfold xm_ws
  rw [List.getElem?_map, List.getElem?_zipIdx]
  cases lay[o]? <;> simp
theorem xm_ws_at {G : xm_G} {b : Nat} {lay : List (Nat × Nat)} {I : xm_I} {J : xm_J} {R : xm_R} {o : Nat} {e : Nat × Nat} (h : lay[o]? = some e) : (xm_ws G b lay I J R)[o]? = some (b + o, xm_cell G b I J R o e) := by rw [xm_ws_get, h]; rfl
theorem xm_cell_congr {G : xm_G} {b : Nat} {I I' : xm_I} {J J' : xm_J} {R R' : xm_R} {o : Nat} {e : Nat × Nat} (h1 : I' o = I o) (h2 : J' o = J o) (h3 : R' o = R o) : xm_cell G b I' J' R' o e = xm_cell G b I J R o e := by
  unfold xm_cell; rw [h1, h2, h3]
theorem xm_ws_set {G : xm_G} {b : Nat} {lay : List (Nat × Nat)} {I I' : xm_I} {J J' : xm_J} {R R' : xm_R} {o : Nat} {e : Nat × Nat} (h : lay[o]? = some e) (hne : ∀ a, a ≠ o → I' a = I a ∧ J' a = J a ∧ R' a = R a) : xm_ws G b lay I' J' R' = (xm_ws G b lay I J R).set o (b + o, xm_cell G b I' J' R' o e) := by
  refine List.ext_getElem? fun j => ?_
  rw [xm_ws_get, List.getElem?_set]
  by_cases hj : o = j
  · subst hj
    have hlt : o < (xm_ws G b lay I J R).length := (List.getElem?_eq_some_iff.mp (xm_ws_at (G := G) (b := b) (I := I) (J := J) (R := R) h)).1
    rw [if_pos rfl, if_pos hlt, h]; rfl
  · rw [if_neg hj, xm_ws_get]
    obtain ⟨h1, h2, h3⟩ := hne j (fun q => hj q.symm)
    cases lay[j]? with
    | none => rfl
    | some e' => simp only [Option.map_some]; rw [xm_cell_congr h1 h2 h3]
theorem xm_ws_push {G : xm_G} {b : Nat} {lay : List (Nat × Nat)} {I I' : xm_I} {J J' : xm_J} {R R' : xm_R} {e : Nat × Nat} (hne : ∀ a, a ≠ lay.length → I' a = I a ∧ J' a = J a ∧ R' a = R a) : xm_ws G b (lay ++ [e]) I' J' R' = xm_ws G b lay I J R ++ [(b + lay.length, xm_cell G b I' J' R' lay.length e)] := by
  refine List.ext_getElem? fun j => ?_
  have hlen : (xm_ws G b lay I J R).length = lay.length := by simp [xm_ws]
  rw [xm_ws_get]
  by_cases hj : j < lay.length
  · rw [List.getElem?_append_left hj, List.getElem?_append_left (by omega), xm_ws_get]
    obtain ⟨h1, h2, h3⟩ := hne j (by omega)
    cases lay[j]? with
    | none => rfl
    | some e' => simp only [Option.map_some]; rw [xm_cell_congr h1 h2 h3]
  · rw [List.getElem?_append_right (by omega), List.getElem?_append_right (by omega), hlen]
    by_cases hz : j = lay.length
    · subst hz; simp
    · have : 0 < j - lay.length := by omega
      rw [List.getElem?_eq_none (by simp; omega), List.getElem?_eq_none (by simp; omega)]; rfl
theorem xm_ws_D {G : xm_G} {b : Nat} {lay : List (Nat × Nat)} {I : xm_I} {J : xm_J} {R : xm_R} : va_D (fun q => b ≤ q) (xm_ws G b lay I J R) := by
  refine ⟨fun i j p q hi hj h => ?_, fun k q hk => ?_⟩
  · rw [xm_ws_get] at hi hj
    cases h1 : lay[i]? with
    | none => rw [h1] at hi; cases hi
    | some e1 =>
      cases h2 : lay[j]? with
      | none => rw [h2] at hj; cases hj
      | some e2 =>
        rw [h1] at hi; rw [h2] at hj
        cases hi; cases hj
        have : b + i = b + j := h
        omega
  · rw [xm_ws_get] at hk
    cases h1 : lay[k]? with
    | none => rw [h1] at hk; cases hk
    | some e1 => rw [h1] at hk; cases hk; exact Nat.le_add_right _ _
theorem xm_up_ne {α : Type} {f : Nat → Nat → α} {o k a : Nat} {v : α} (h : a ≠ o) : xm_up f o k v a = f a := by funext j; simp [xm_up, h]
theorem xm_up_at {α : Type} {f : Nat → Nat → α} {o k : Nat} {v : α} : xm_up f o k v o = fun j => if j = k then v else f o j := by funext j; simp [xm_up]
theorem xm_zr_ne {α : Type} {f : Nat → Nat → α} {o a : Nat} {v : α} (h : a ≠ o) : xm_zr f o v a = f a := by funext j; simp [xm_zr, h]
theorem xm_zr_at {α : Type} {f : Nat → Nat → α} {o : Nat} {v : α} : xm_zr f o v o = fun _ => v := by funext j; simp [xm_zr]
theorem xm_cv_rf {b : Nat} {r : Option Nat} : xm_cv b (va_rf r) = va_rf (r.map (b + ·)) := by cases r <;> rfl
theorem xm_cv_gv {b : Nat} {I : xm_I} {J : xm_J} {R : xm_R} {t a k : Nat} : xm_cv b (xm_gv I J R t a k) = xm_val b t (I a k) (J a k) (R a k) := by
  match t with
  | 0 => rfl
  | 1 => rfl
  | t + 2 => exact xm_cv_rf
theorem xm_cv_cat {b : Nat} {v : Value} : (xm_cv b v).category = v.category := by cases v <;> rfl
theorem xm_cs_cv {b : Nat} {st : List Value} : ((st.map (xm_cv b)).map fun v => v.category).sum = xm_cs st := by
  unfold xm_cs
  rw [List.map_map]
  congr 1
  exact List.map_congr_left fun v _ => xm_cv_cat
def xm_K (D : va_G) (G : xm_G) (U : State) : Prop := va_K D xm_cls [(G.1, .int), (G.2.1, .long), (G.2.2, .object "SlateSum$Tape")] U ∧ (∀ w ∈ xm_Ns, va_Nw w U) ∧ va_AO "SlateSum$Tape" U
theorem xm_N_warm {w : Cond} (hw : xm_isN w = true) {s U : State} (hW : s.WarmedH U.vm) (h : va_Nw w s) : va_Nw w U := by
  cases w <;> first | exact va_Nw.warmF hW h | exact va_Nw.warmM hW h | cases hw
theorem xm_N_tab {w : Cond} (hw : xm_isN w = true) : w.onTables = true := by
  cases w <;> first | rfl | cases hw
theorem xm_K.warm {D : va_G} {G : xm_G} {s U : State} (hW : s.WarmedH U.vm) (h : xm_K D G s) : xm_K D G U :=
  ⟨va_K.moved hW.alike h.1, fun w hw => xm_N_warm (List.mem_filter.mp hw).2 hW (h.2.1 w hw), va_AO.moved hW.alike h.2.2⟩
theorem xm_K.same {D : va_G} {G : xm_G} {s U : State} (e : s.vm = U.vm) (h : xm_K D G s) : xm_K D G U :=
  ⟨va_K.moved (by rw [e]; exact Vm.Alike.refl _) h.1, fun w hw => va_Nw.same (xm_N_tab (List.mem_filter.mp hw).2) e (h.2.1 w hw), va_AO.moved (by rw [e]; exact Vm.Alike.refl _) h.2.2⟩
/-- the locals -/
def xm_lr (b nL : Nat) (ls : Array Slot) (L : xm_V) : Prop := L.length = nL ∧ ls.size = nL ∧ lv_wf ls ∧ ∀ (i : Nat) (v : Value), L[i]? = some (some v) → ls[i]? = some (.val (xm_cv b v))
def xm_pr (b : Nat) (L : xm_V) : List (Nat × Value) := L.zipIdx.filterMap fun p => p.1.map fun v => (p.2, xm_cv b v)
theorem xm_pr_mem {b : Nat} {L : xm_V} {q : Nat × Value} : q ∈ xm_pr b L ↔ ∃ v, L[q.1]? = some (some v) ∧ q.2 = xm_cv b v := by
  obtain ⟨i, w⟩ := q
  unfold xm_pr
  rw [List.mem_filterMap]
  constructor
  · rintro ⟨⟨a, j⟩, h1, h2⟩
    cases a with
    | none => cases h2
    | some v =>
      cases h2
      exact ⟨v, by rw [List.mem_zipIdx_iff_getElem?] at h1; exact h1, rfl⟩
  · rintro ⟨v, h1, h2⟩
    refine ⟨(some v, i), by rw [List.mem_zipIdx_iff_getElem?]; exact h1, ?_⟩
    have h2 : w = xm_cv b v := h2
    rw [h2]; rfl
theorem xm_lr.has {b nL : Nat} {ls : Array Slot} {L : xm_V} (h : xm_lr b nL ls L) : lv_has ls nL (xm_pr b L) := by
  refine ⟨h.2.1, h.2.2.1, fun q hq => ?_⟩
  obtain ⟨v, h1, h2⟩ := xm_pr_mem.mp hq
  rw [h2]; exact h.2.2.2 _ _ h1
theorem xm_st_len {L : xm_V} {i : Nat} {v : Value} : (xm_st L i v).length = L.length := by cases i <;> simp [xm_st]
theorem xm_st_ne {L : xm_V} {i j : Nat} {v w : Value} (hj : j ≠ i) (h : (xm_st L i v)[j]? = some (some w)) : L[j]? = some (some w) ∧ ¬ (j + 1 = i ∧ w.category = 2) := by
  cases i with
  | zero =>
    rw [xm_st, List.getElem?_set, if_neg (Ne.symm hj)] at h
    exact ⟨h, fun q => by omega⟩
  | succ i =>
    rw [xm_st, List.getElem?_set, if_neg (Ne.symm hj), List.getElem?_set] at h
    by_cases hi : i = j
    · subst hi
      rw [if_pos rfl] at h
      by_cases hl : i < L.length
      · rw [if_pos hl, List.getElem?_eq_getElem hl] at h
        rw [List.getElem?_eq_getElem hl]
        simp only [Option.getD_some, Option.some.injEq] at h
        generalize L[i] = z at h ⊢
        cases z with
        | none => simp [xm_sm] at h
        | some u => cases u <;> simp [xm_sm] at h <;> subst h <;> simp [Value.category]
      · rw [if_neg hl] at h; cases h
    · rw [if_neg hi] at h
      exact ⟨h, fun q => hi (by omega)⟩
theorem xm_st_self {L : xm_V} {i : Nat} {v w : Value} (h : (xm_st L i v)[i]? = some (some w)) : w = v := by
  cases i with
  | zero =>
    rw [xm_st, List.getElem?_set, if_pos rfl] at h
    split at h
    · cases h; rfl
    · cases h
  | succ i =>
    rw [xm_st, List.getElem?_set, if_pos rfl] at h
    split at h
    · cases h; rfl
    · cases h
theorem xm_lr_st {b nL : Nat} {ls' : Array Slot} {L : xm_V} {i : Nat} {v : Value} (hL : L.length = nL) (h : lv_has ls' nL ((i, xm_cv b v) :: (xm_pr b L).filter (fun q => !(q.1 == i) && !(q.1 + 1 == i && q.2.category == 2)))) : xm_lr b nL ls' (xm_st L i v) := by
  refine ⟨by rw [xm_st_len, hL], h.1, h.2.1, fun j w hj => ?_⟩
  by_cases e : j = i
  · subst e
    rw [xm_st_self hj]
    exact h.2.2 (j, xm_cv b v) List.mem_cons_self
  · obtain ⟨h1, h2⟩ := xm_st_ne e hj
    refine h.2.2 (j, xm_cv b w) (List.mem_cons_of_mem _ (List.mem_filter.mpr ⟨xm_pr_mem.mpr ⟨w, h1, rfl⟩, ?_⟩))
    simp only [xm_cv_cat, Bool.and_eq_true, Bool.not_eq_true', beq_eq_false_iff_ne, ne_eq, Bool.and_eq_false_iff]
    refine ⟨e, ?_⟩
    by_cases q : j + 1 = i
    · exact Or.inr fun z => h2 ⟨q, z⟩
    · exact Or.inl q
theorem xm_lr_st2 {b nL : Nat} {ls' : Array Slot} {L : xm_V} {i : Nat} {v : Value} (hL : L.length = nL) (h : lv_has ls' nL ((i, xm_cv b v) :: (xm_pr b L).filter (fun q => !(q.1 == i) && (!(q.1 == i + 1) && !(q.1 + 1 == i && q.2.category == 2))))) : xm_lr b nL ls' (xm_st2 L i v) := by
  refine ⟨by rw [xm_st2, List.length_set, xm_st_len, hL], h.1, h.2.1, fun j w hj => ?_⟩
  rw [xm_st2, List.getElem?_set] at hj
  by_cases e1 : i + 1 = j
  · rw [if_pos e1] at hj
    split at hj <;> cases hj
  rw [if_neg e1] at hj
  by_cases e : j = i
  · subst e
    rw [xm_st_self hj]
    exact h.2.2 (j, xm_cv b v) List.mem_cons_self
  · obtain ⟨h1, h2⟩ := xm_st_ne e hj
    refine h.2.2 (j, xm_cv b w) (List.mem_cons_of_mem _ (List.mem_filter.mpr ⟨xm_pr_mem.mpr ⟨w, h1, rfl⟩, ?_⟩))
    simp only [xm_cv_cat, Bool.and_eq_true, Bool.not_eq_true', beq_eq_false_iff_ne, ne_eq, Bool.and_eq_false_iff]
    refine ⟨e, fun z => e1 z.symm, ?_⟩
    by_cases q : j + 1 = i
    · exact Or.inr fun z => h2 ⟨q, z⟩
    · exact Or.inl q
theorem xm_lr_en {b nL : Nat} {m : MethodId} {as : List Value} (h : (xm_sl as).length ≤ nL) : ∃ ls : Array Slot, entryFrame m (as.map (xm_cv b)).toArray nL = F0 m 0 ls [] ∧ xm_lr b nL ls (xm_en nL as) := by
  have hlen : ∀ as : List Value, (lg_sl (as.map (xm_cv b))).length = (xm_sl as).length := by
    intro as
    induction as with
    | nil => rfl
    | cons v t ih =>
      simp only [lg_sl, xm_sl, List.map_cons, List.flatMap_cons, List.length_append, xm_cv_cat] at ih ⊢
      rw [ih]
      split <;> rfl
  have hmem : ∀ (as : List Value) (k i : Nat) (w : Value), (xm_sl as)[i]? = some (some w) → (k + i, xm_cv b w) ∈ lv_args k (as.map (xm_cv b)) := by
    intro as
    induction as with
    | nil => intro k i w h; cases h
    | cons v t ih =>
      intro k i w h
      simp only [xm_sl, List.flatMap_cons, List.map_cons, lv_args, xm_cv_cat] at h ⊢
      by_cases hc : v.category = 2
      · rw [if_pos hc] at h ⊢
        match i, h with
        | 0, h => cases h; exact List.mem_cons_self
        | 1, h => cases h
        | i + 2, h => exact List.mem_cons_of_mem _ (by have := ih (k + 2) i w h; rwa [show k + 2 + i = k + (i + 2) by omega] at this)
      · rw [if_neg hc] at h ⊢
        match i, h with
        | 0, h => cases h; exact List.mem_cons_self
        | i + 1, h => exact List.mem_cons_of_mem _ (by have := ih (k + 1) i w h; rwa [show k + 1 + i = k + (i + 1) by omega] at this)
  have he := lv_entry (as.map (xm_cv b)) (n := nL) (by rw [hlen]; exact h)
  refine ⟨_, lg_entry_eq m _ nL, ?_, he.1, he.2.1, fun i v hi => ?_⟩
  · simp [xm_en]; omega
  · refine he.2.2 (i, xm_cv b v) ?_
    have hi' : (xm_sl as)[i]? = some (some v) := by
      unfold xm_en at hi
      by_cases hl : i < (xm_sl as).length
      · rwa [List.getElem?_append_left hl] at hi
      · rw [List.getElem?_append_right (by omega), List.getElem?_replicate] at hi
        split at hi <;> cases hi
    have := hmem as 0 i v hi'
    rwa [Nat.zero_add] at this
