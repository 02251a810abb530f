/-! at throws: the class's side -/
section ATX
variable {p : Program} {l : Launch} {e : Env} {Rm : Room} {s : State} {m : MethodId} {args : Array Value} {below : List Frame} {meth : Method} {c : Code} {D : va_G} {G : xm_G} {b d : Nat} {q : xm_q} {I : xm_I} {J : xm_J} {R : xm_R} {H : Heap} {locs : List Loc} {cells slots : Nat} {Q : State → Prop} {ls : Array Slot} {n pc pc' : Nat} {L : xm_V} {st st' : List Value}
def nse : String := "java/util/NoSuchElementException"
def nsn : List String := ["java/lang/RuntimeException", "java/lang/Exception"]
def csB : List Cond := [.castable nse nse, .declares (Bundle.init0 "java/lang/RuntimeException"), .declares (Bundle.init0 "java/lang/Exception"), .declares (Bundle.init0 Bundle.tN)]
def cs_ok (U : State) : Prop := ∀ w ∈ csB, w.before #[] U = true
theorem csB_on : ∀ w ∈ csB, w.onTables = true := by decide +kernel
theorem cs_any {U : State} {a : Array Value} (h : cs_ok U) : ∀ w ∈ csB, w.before a U = true := fun w hw => va_any (csB_on w hw) (h w hw)
theorem cs_of {U : State} {a : Array Value} (h : ∀ w ∈ csB, w.before a U = true) : cs_ok U := fun w hw => va_any (csB_on w hw) (h w hw)
theorem cs_mv {s U : State} (hW : s.vm.Alike U.vm) (h : cs_ok s) : cs_ok U := by
  have tr : ∀ {c : Cond}, c.onTables = true → c.before #[] (s.setVm U.vm) = true → c.before #[] U = true := by
    intro c hc h
    have e := Cond.onTables_vm (A := #[]) (A' := #[]) (U := s) (U' := U) U.vm c hc
    have hU : U.setVm U.vm = U := rfl
    rw [hU] at e
    rw [← e]
    exact h
  intro w hw
  have h := h w hw
  simp only [csB, List.mem_cons, List.not_mem_nil, or_false] at hw
  rcases hw with rfl | rfl | rfl | rfl
  · exact tr rfl (by rw [Cond.castable_setVm hW]; exact h)
  · exact tr rfl (by rw [Cond.declares_setVm hW]; exact h)
  · exact tr rfl (by rw [Cond.declares_setVm hW]; exact h)
  · exact tr rfl (by rw [Cond.declares_setVm hW]; exact h)
def zq_ok (b : Nat) (U : State) : Prop := vx_Zq Bundle.tN "UNASSIGNED_STACK" Bundle.steD (fun a => b ≤ a) U U.heap ∧ vx_Zq Bundle.tN "SUPPRESSED_SENTINEL" Bundle.listD (fun a => b ≤ a) U U.heap ∧ cs_ok U
def ax_P (D : va_G) (G : xm_G) (b : Nat) (as : List Value) (I : xm_I) (J : xm_J) (R : xm_R) : Array Value → State → Prop := fun a U => xm_P D G b as xm_la I J R a U ∧ zq_ok b U
theorem ax_blind {as : List Value} : FrameBlind (ax_P D G b as I J R) := fun a U g mk h => ⟨xm_P_blind a U g mk h.1, vx_Zq.moved (u := U) (U := U.calling g mk a) (State.WarmedH.refl U).alike h.2.1, vx_Zq.moved (u := U) (U := U.calling g mk a) (State.WarmedH.refl U).alike h.2.2.1, cs_mv (s := U) (U := U.calling g mk a) (State.WarmedH.refl U).alike h.2.2.2⟩
def ax_X (D : va_G) (G : xm_G) (b : Nat) (I : xm_I) (J : xm_J) (R : xm_R) : String → State → State → Prop := fun E st t => E = nse ∧ va_P D xm_cls (xm_ws G b xm_la.2 I J R) t.heap ∧ va_F (fun a => b ≤ a) st t
theorem ax_step {i : Instr} (C : xm_at p Rm s m args meth c D G b d q) (hd : decode q.2.2.1 pc = .ok (i, n)) (h : xm_in d q.1 q.2.2.2.2.1 (xm_ise q) n pc L st xm_la I J R i = some (.inl (pc', L, st', xm_la, I, J, R))) (hs : xm_sx s G D b q.2.2.2.1 ls L H locs cells xm_la I J R) (hc : cells ≤ Rm.cells) (hsl : slots ≤ Rm.slots) (kk : ∀ (H' : Heap) (locs' : List Loc) (ls' : Array Slot), xm_sx s G D b q.2.2.2.1 ls' L H' locs' cells xm_la I J R → W p l e Rm s m args below meth c H' locs' cells slots Q (F0 m pc' ls' (st'.map (xm_cv b)))) : W p l e Rm s m args below meth c H locs cells slots Q (F0 m pc ls (st.map (xm_cv b))) := by
  obtain ⟨-, -, -, a4⟩ : xm_ok p l e Rm s m args below meth c D G b q.2.2.2.1 pc L st xm_la I J R (pc', L, st', xm_la, I, J, R) := xm_in_ok C hd h
  have a5 := a4 H locs cells slots Q ls hs
  simp only [Nat.sub_self, Nat.add_zero] at a5
  exact a5 hc hsl kk
def nsw : List Cond := vx_at0 "SlateSum" 135 nse nsn
theorem nsw_in : ∀ w ∈ nsw.filter goodWord, w ∈ lw_tbl := by decide +kernel
theorem nsw_no : ∀ w ∈ nsw.filter (fun w => !goodWord w), w ∈ csB := by decide +kernel
theorem nsw_ot : ∀ w ∈ Cond.classLink "SlateSum" 133 nse :: Cond.initialized nse :: nsw, vx_ot w = true := by decide +kernel
theorem nsw_ok (hts : ∀ w ∈ xm_Ts, w.before args s = true) (hcs : cs_ok s) : ∀ w ∈ nsw, w.before args s = true := vx_hat (B := csB) (fun w hw => hts w (List.mem_filter.mpr ⟨nsw_in w hw, (List.mem_filter.mp hw).2⟩)) nsw_no (cs_any hcs)
end ATX
