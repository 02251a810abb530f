/-! runs: a method that the abstract machine brings to an end is a contract of the machine's -/
section XMR0
variable {d oc : Nat} {ret : Option FieldType} {ini : Bool} {n pc : Nat} {L : xm_V} {st : List Value} {lay : xm_L} {I : xm_I} {J : xm_J} {R : xm_R} {w : Option Value ⊕ xm_C}
theorem xm_go_nr {k : Nat} {st' : List Value} (h : xm_go n pc L lay I J R k st' = some (.inr w)) : False := by
  unfold xm_go at h; split at h <;> cases h
theorem xm_to_nr {off : Int} {bb : Bool} {st' : List Value} (h : xm_to n pc L lay I J R off bb st' = some (.inr w)) : False := by
  unfold xm_to at h
  split at h
  · split at h <;> cases h
  · cases h
theorem xm_ldi_nr {k i : Nat} (h : xm_ldi n pc L st lay I J R k i = some (.inr w)) : False := by
  unfold xm_ldi at h; split at h
  · exact xm_go_nr h
  · cases h
theorem xm_ldl_nr {k i : Nat} (h : xm_ldl n pc L st lay I J R k i = some (.inr w)) : False := by
  unfold xm_ldl at h; split at h
  · exact xm_go_nr h
  · cases h
theorem xm_lda_nr {k i : Nat} (h : xm_lda n pc L st lay I J R k i = some (.inr w)) : False := by
  unfold xm_lda at h; split at h
  · exact xm_go_nr h
  · exact xm_go_nr h
  · cases h
theorem xm_sti_nr {k i : Nat} (h : xm_sti n pc L st lay I J R k i = some (.inr w)) : False := by
  unfold xm_sti at h; split at h
  · exact xm_go_nr (xm_if_inv h).2
  · cases h
theorem xm_stl_nr {k i : Nat} (h : xm_stl n pc L st lay I J R k i = some (.inr w)) : False := by
  unfold xm_stl at h; split at h
  · exact xm_go_nr (xm_if_inv h).2
  · cases h
theorem xm_sta_nr {k i : Nat} (h : xm_sta n pc L st lay I J R k i = some (.inr w)) : False := by
  unfold xm_sta at h; split at h
  · exact xm_go_nr (xm_if_inv h).2
  · exact xm_go_nr (xm_if_inv h).2
  · cases h
theorem xm_inc_nr {i : Nat} {z : Int} (h : xm_inc n pc L st lay I J R i z = some (.inr w)) : False := by
  unfold xm_inc at h; split at h
  · exact xm_go_nr h
  · cases h
theorem xm_get_nr {idx : Nat} (h : xm_get oc n pc L st lay I J R idx = some (.inr w)) : False := by
  unfold xm_get at h
  obtain ⟨a, r, -, h⟩ := xm_r1_inv h
  split at h
  · exact xm_go_nr (xm_if_inv h).2
  · cases h
theorem xm_put_nr {idx : Nat} (h : xm_put oc ini n pc L st lay I J R idx = some (.inr w)) : False := by
  unfold xm_put at h
  split at h
  · have h := (xm_if_inv h).2
    split at h
    · exact xm_go_nr (xm_if_inv h).2
    · exact xm_go_nr h
    · exact xm_go_nr h
    · cases h
  · cases h
theorem xm_arr_nr {i : Instr} (h : xm_arr n pc L st lay I J R i = some (.inr w)) : False := by
  unfold xm_arr at h
  split at h
  · obtain ⟨_, _, _, h⟩ := xm_ar_inv h; exact xm_go_nr h
  · obtain ⟨_, _, _, h⟩ := xm_ar_inv h; exact xm_go_nr h
  · obtain ⟨_, _, _, h⟩ := xm_ar_inv h; exact xm_go_nr h
  · obtain ⟨_, _, _, h⟩ := xm_ar_inv (xm_if_inv h).2; exact xm_go_nr h
  · split at h
    · exact xm_go_nr (xm_if_inv h).2
    · cases h
  · exact xm_go_nr (xm_if_inv h).2
  · exact xm_go_nr (xm_if_inv h).2
  · cases h
theorem xm_obj_nr {i : Instr} (h : xm_obj oc n pc L st lay I J R i = some (.inr w)) : False := by
  unfold xm_obj at h
  split at h
  · split at h
    · exact xm_go_nr (xm_if_inv h).2
    · cases h
  · exact xm_go_nr (xm_if_inv h).2
  · cases h
def xm_isr : Instr → Bool
  | .return_ => true
  | .ireturn => true
  | .lreturn => true
  | .areturn => true
  | _ => false
set_option maxHeartbeats 4000000 in
theorem xm_in_inr {i : Instr} (h : xm_in d oc ret ini n pc L st lay I J R i = some (.inr w)) : (xm_isr i = true ∧ xm_ret ret n st i = some (.inr w)) ∨ (∃ idx, i = .invokestatic idx ∧ xm_cal oc n st lay 0 idx = some (.inr w)) ∨ (∃ idx, i = .invokevirtual idx ∧ xm_cal oc n st lay 1 idx = some (.inr w)) ∨ (∃ idx, i = .invokespecial idx ∧ xm_cal oc n st lay 2 idx = some (.inr w)) := by
  unfold xm_in at h
  split at h
  all_goals first
    | (cases h; done)
    | exact (xm_go_nr h).elim
    | exact (xm_ldi_nr h).elim
    | exact (xm_ldl_nr h).elim
    | exact (xm_lda_nr h).elim
    | exact (xm_sti_nr h).elim
    | exact (xm_stl_nr h).elim
    | exact (xm_sta_nr h).elim
    | exact (xm_inc_nr h).elim
    | exact (xm_get_nr h).elim
    | exact (xm_put_nr h).elim
    | exact (xm_arr_nr h).elim
    | exact (xm_obj_nr h).elim
    | exact (xm_to_nr h).elim
    | (obtain ⟨_, _, _, -, h⟩ := xm_ii_inv h; first | exact (xm_go_nr h).elim | exact (xm_to_nr h).elim | exact (xm_go_nr (xm_ifn_inv h).2).elim)
    | (obtain ⟨_, _, _, -, h⟩ := xm_ll_inv h; first | exact (xm_go_nr h).elim | exact (xm_go_nr (xm_ifn_inv h).2).elim)
    | (obtain ⟨_, _, _, -, h⟩ := xm_li_inv h; exact (xm_go_nr h).elim)
    | (obtain ⟨_, _, -, h⟩ := xm_l1_inv h; exact (xm_go_nr h).elim)
    | (obtain ⟨_, _, -, h⟩ := xm_i1_inv h; first | exact (xm_go_nr h).elim | exact (xm_to_nr h).elim | (exfalso; split at h <;> first | (cases h; done) | (split at h <;> cases h)) | (exfalso; have h := (xm_if_inv h).2; split at h <;> cases h))
    | (exfalso; split at h <;> first | exact xm_go_nr h | exact xm_go_nr (xm_if_inv h).2 | exact xm_to_nr h | cases h)
    | exact Or.inl ⟨rfl, h⟩
    | exact Or.inr (Or.inr (Or.inl ⟨_, rfl, h⟩))
    | (refine Or.inr (Or.inr (Or.inr ⟨_, rfl, ?_⟩)); unfold xm_spe at h; split at h
       · obtain ⟨_, _, -, h⟩ := xm_r1_inv h; exact (xm_go_nr (xm_if_inv h).2).elim
       · exact h)
    | (refine Or.inr (Or.inl ⟨_, rfl, ?_⟩); unfold xm_sta' at h; split at h
       · exact h
       · obtain ⟨_, _, _, -, h⟩ := xm_ii_inv h; exact (xm_go_nr (xm_if_inv h).2).elim
       · obtain ⟨_, _, _, -, h⟩ := xm_ii_inv h; exact (xm_go_nr (xm_if_inv h).2).elim
       · obtain ⟨_, _, _, -, h⟩ := xm_ll_inv h; exact (xm_go_nr (xm_if_inv h).2).elim
       · obtain ⟨_, _, _, -, h⟩ := xm_ll_inv h; exact (xm_go_nr (xm_if_inv h).2).elim
       · cases h)
end XMR0
abbrev xm_Z : Type := Option Value × xm_L × xm_I × xm_J × xm_R
section XMR1
variable {p : Program} {l : Launch} {e : Env} {Rm : Room} {s : State} {m : MethodId} {args : Array Value} {below : List Frame} {meth : Method} {c : Code} {D : va_G} {G : xm_G} {b d : Nat} {q : xm_q}
variable {n pc : Nat} {L : xm_V} {st : List Value} {lay : xm_L} {I : xm_I} {J : xm_J} {R : xm_R}
def xm_Q (D : va_G) (G : xm_G) (b : Nat) (z : xm_Z) : Array Value → State → Outcome → State → Prop := fun _ st oc t => (oc = .returned (z.1.map (xm_cv b)) ∧ va_P D xm_cls (xm_ws G b z.2.1.2 z.2.2.1 z.2.2.2.1 z.2.2.2.2) t.heap ∧ xm_K D G t) ∧ va_F (fun a => b ≤ a) st t
def xm_P (D : va_G) (G : xm_G) (b : Nat) (as : List Value) (lay : xm_L) (I : xm_I) (J : xm_J) (R : xm_R) : Array Value → State → Prop := va_Pc (as.map (xm_cv b)) (fun U => va_P D xm_cls (xm_ws G b lay.2 I J R) U.heap ∧ xm_K D G U ∧ b ≤ U.heap.size ∧ (lay.1 = true → U.heap.size = b + lay.2.length))
theorem xm_P_blind {as : List Value} : FrameBlind (xm_P D G b as lay I J R) := fun a U g mk h => ⟨h.1, h.2.1, xm_K.same (s := U) (U := U.calling g mk a) rfl h.2.2.1, h.2.2.2⟩
def xm_wsq (q : xm_q) : List Cond := .code q.2.1 q.2.2.1 q.2.2.2.1 q.2.2.2.2.1 :: xm_Ts
def xm_rm (d mc ms : Nat) : Room := { frames := d, cells := mc, slots := ms, locals := 64 * d }
/-- a run that stands at one place of a method -/
def xm_Wd (l : Launch) (d : Nat) (q : xm_q) (pc : Nat) (L : xm_V) (st : List Value) (lay : xm_L) (I : xm_I) (J : xm_J) (R : xm_R) (z : xm_Z) : Prop :=
  xm_nc lay ≤ xm_nc z.2.1 ∧ xm_ns lay ≤ xm_ns z.2.1 ∧ z.2.1.1 = lay.1 ∧
  ∀ {p : Program} {e : Env} {Rm : Room} {s : State} {m : MethodId} {args : Array Value} {below : List Frame} {meth : Method} {c : Code} {D : va_G} {G : xm_G} {b : Nat}, xm_at p Rm s m args meth c D G b d q → ∀ (H : Heap) (locs : List Loc) (cells slots : Nat) (ls : Array Slot), xm_sx s G D b q.2.2.2.1 ls L H locs cells lay I J R → cells + (xm_nc z.2.1 - xm_nc lay) ≤ Rm.cells → slots + (xm_ns z.2.1 - xm_ns lay) ≤ Rm.slots →
    W p l e Rm s m args below meth c H locs cells slots (MQ below (xm_Q D G b z) args s (cells + (xm_nc z.2.1 - xm_nc lay)) (slots + (xm_ns z.2.1 - xm_ns lay)) (fun a => b ≤ a)) (F0 m pc ls (st.map (xm_cv b)))
theorem xm_met {y : Nat} {as : List Value} {z : xm_Z} (hq : xm_mts[y]? = some q) (has : (xm_sl as).length ≤ q.2.2.2.1) (h : xm_Wd l d q 0 (xm_en q.2.2.2.1 as) [] lay I J R z) :
    Met l q.2.1 (xm_wsq q) (xm_rm d (xm_nc z.2.1 - xm_nc lay) (xm_ns z.2.1 - xm_ns lay)) (xm_P D G b as lay I J R) (xm_Q D G b z) (xm_nc z.2.1 - xm_nc lay) (xm_ns z.2.1 - xm_ns lay) (fun a => b ≤ a) := by
  obtain ⟨r1, r2, r3, r4, r5, r6, r7⟩ := xm_mt_row hq
  refine Met.ofW (cc := q.2.2.1) (maxL := q.2.2.2.1) (ret := q.2.2.2.2.1) r4 rfl ?_
  intro p e s m args below meth c s₁ B hml hv
  obtain ⟨rfl, hP, hK, hbs, hal⟩ := hv
  have hts : ∀ w ∈ xm_Ts, w.before (as.map (xm_cv b)).toArray s = true := fun w hw => atoms_spec (ws := xm_wsq q) B.pre w (List.mem_cons_of_mem _ hw)
  have hown : s.vm.findClass q.2.1.cls = some m.cls := findClass_of_methodNamed B.named
  rw [r3] at hown
  obtain ⟨ls, he, hlr⟩ := xm_lr_en (b := b) (m := m) has
  rw [he]
  have hin : xm_ise q = true → meth.name = "<init>" := fun hi => ((name_of_methodNamed B.named B.method).1).trans (by simpa [xm_ise] using hi)
  obtain ⟨-, -, -, h4⟩ := h
  have := h4 (p := p) (e := e) (below := below) (D := D) (G := G) (b := b) (Rm := (headSpec (xm_wsq q) (xm_rm d (xm_nc z.2.1 - xm_nc lay) (xm_ns z.2.1 - xm_ns lay))).room) ⟨B.exec, B.bytes, hml, hown, hts, hK, B.returns, B.notSynchronized, hin, Nat.le_refl _, Nat.le_refl _, hbs⟩ s.heap [] 0 0 ls ⟨hP, va_S.rf, hlr, fun q => by rw [Nat.add_zero]; exact hal q⟩ (by rw [Nat.zero_add]; exact Nat.le_refl _) (by rw [Nat.zero_add]; exact Nat.le_refl _)
  rw [Nat.zero_add, Nat.zero_add] at this
  exact this
theorem xm_call {H : Heap} {locs : List Loc} {cells slots mc ms : Nat} {ls : Array Slot} {st0 rest : List Value} {a : Array Value} {z : xm_Z} {Q : State → Prop} (hr : va_Run p l e Rm s m args below meth c H locs cells slots mc ms (F0 m pc ls st0) rest (xm_Q D G b z a) (fun a => b ≤ a)) (hS : va_S (fun a => b ≤ a) s.heap H locs)
    (kk : ∀ (H1 : Heap) (locs1 : List Loc), va_P D xm_cls (xm_ws G b z.2.1.2 z.2.2.1 z.2.2.2.1 z.2.2.2.2) H1 → va_S (fun a => b ≤ a) s.heap H1 locs1 → W p l e Rm s m args below meth c H1 locs1 (cells + mc) (slots + ms) Q (F0 m (pc + 3) ls ((z.1.map (xm_cv b)).toList ++ rest))) : W p l e Rm s m args below meth c H locs cells slots Q (F0 m pc ls st0) := by
  intro T hT X
  obtain ⟨v, st₀, t, T', L, h0, X', hL, e1, e2, ⟨⟨ho, hP, hK⟩, hz, hk⟩, stp⟩ := hr T hT X
  cases ho
  rw [h0] at hz hk
  obtain ⟨t2, a1, b1⟩ := kk T'.heap (locs ++ L) (by rw [e1]; exact hP)
    ⟨Nat.le_trans hS.1 (by rw [e1]; exact hz), fun q h1 h2 => by rw [e1, hk q (Nat.lt_of_lt_of_le h1 hS.1) h2]; exact hS.2.1 q h1 h2, fun q hq => by
      rcases List.mem_append.mp hq with h | h
      · exact hS.2.2 q h
      · exact hL q h⟩ T' rfl X'
  exact ⟨t2, stp t2 a1, b1⟩
theorem xm_good {ws : List Cond} (h : ∀ w ∈ ws, w ∈ xm_Ts) : GoodIn xm_Ts ws := fun w hw => ⟨h w hw, xm_Ts_good w (h w hw)⟩
theorem xm_wsq_in {y : Nat} (hq : xm_mts[y]? = some q) : ∀ w ∈ xm_wsq q, w ∈ xm_Ts := by
  intro w hw
  rcases List.mem_cons.mp hw with rfl | h
  · exact (xm_mt_row hq).1
  · exact h
/-- what a call is -/
theorem xm_cal_inv {kind idx y : Nat} {as r : List Value} (hk3 : kind < 3) (h : xm_cal q.1 n st lay kind idx = some (.inr (.inr (y, as, r)))) : ∃ (q' : xm_q) (k : Nat), xm_mts[y]? = some q' ∧ n = 3 ∧ (k = kind ∨ k = kind + 3) ∧ xm_ca q.1 idx = some (y, k) ∧ xm_cs r ≤ 8 ∧ (xm_sl as).length ≤ q'.2.2.2.1 ∧ st = as.reverse ++ r ∧ as.length = xm_np q'.2.1 + (if kind = 0 then 0 else 1) ∧
    (¬ kind = 0 → ∃ a as', as = .ref a :: as' ∧ (kind = 1 → lay.2[a]? = some (q'.1, xm_nf q'.1))) := by
  unfold xm_cal at h
  split at h
  · rename_i y0 k hc
    split at h
    · rename_i q' hq'
      obtain ⟨⟨h1, h2⟩, h⟩ := xm_if_inv h
      dsimp only at h
      obtain ⟨⟨h3, h4, h5⟩, h⟩ := xm_if_inv h
      have hst : st = ((st.take (xm_np q'.2.1 + (if kind = 0 then 0 else 1))).reverse).reverse ++ st.drop (xm_np q'.2.1 + (if kind = 0 then 0 else 1)) := by rw [List.reverse_reverse, List.take_append_drop]
      have hlen : ((st.take (xm_np q'.2.1 + (if kind = 0 then 0 else 1))).reverse).length = xm_np q'.2.1 + (if kind = 0 then 0 else 1) := by rw [List.length_reverse, List.length_take]; omega
      split at h
      · cases h
        exact ⟨q', k, hq', h1, h2, hc, h4, h5, hst, hlen, fun z => absurd rfl z⟩
      · rename_i e1
        obtain ⟨h6, h⟩ := xm_if_inv h
        cases h
        rw [e1] at hst hlen h5
        exact ⟨q', k, hq', h1, h2, hc, h4, h5, hst, hlen, fun _ => ⟨_, _, rfl, fun _ => h6⟩⟩
      · rename_i e1
        cases h
        rw [e1] at hst hlen h5
        exact ⟨q', k, hq', h1, h2, hc, h4, h5, hst, hlen, fun _ => ⟨_, _, rfl, fun z => by cases z⟩⟩
      · cases h
    · cases h
  · cases h
end XMR1
