/-! at in the law -/
section LAWAT
variable {p : Program} {l : Launch} {e : Env} {Rm : Room} {s : State} {m : MethodId} {args : Array Value} {below : List Frame} {meth : Method} {c : Code} {D : va_G} {G : xm_G} {b pc i : Nat} {I : xm_I} {J J2 : xm_J} {R : xm_R}
theorem xm_callX {H : Heap} {locs : List Loc} {cells slots mc ms : Nat} {ls : Array Slot} {st0 rest : List Value} {a : Array Value} {z : xm_Z} {Q : State → Prop} (hr : vx_Run p l e Rm s m args below meth c H locs cells slots mc ms (F0 m pc ls st0) rest (xm_Q D G b z a) (fun _ _ _ => False) (fun a => b ≤ a)) (hS : va_S (fun a => b ≤ a) s.heap H locs)
    (kk : ∀ (H1 : Heap) (locs1 : List Loc), va_P D xm_cls (xm_ws G b z.2.1.2 z.2.2.1 z.2.2.2.1 z.2.2.2.2) H1 → va_S (fun a => b ≤ a) s.heap H1 locs1 → W p l e Rm s m args below meth c H1 locs1 (cells + mc) (slots + ms) Q (F0 m (pc + 3) ls ((z.1.map (xm_cv b)).toList ++ rest))) : W p l e Rm s m args below meth c H locs cells slots Q (F0 m pc ls st0) := by
  intro T hT X
  rcases hr T hT X with ⟨v, st₀, t, T', L, h0, X', hL, e1, e2, ⟨⟨ho, hP, hK⟩, hz, hk⟩, stp⟩ | ⟨qa, st₀, t, T', L, E, ce, h0, X', hL, e1, e2, hf, hce, hcv, hcl, st⟩
  · cases ho
    rw [h0] at hz hk
    obtain ⟨t2, a1, b1⟩ := kk T'.heap (locs ++ L) (by rw [e1]; exact hP)
      ⟨Nat.le_trans hS.1 (by rw [e1]; exact hz), fun q h1 h2 => by rw [e1, hk q (Nat.lt_of_lt_of_le h1 hS.1) h2]; exact hS.2.1 q h1 h2, fun q hq => by
        rcases List.mem_append.mp hq with h | h
        · exact hS.2.2 q h
        · exact hL q h⟩ T' rfl X'
    exact ⟨t2, stp t2 a1, b1⟩
  · exact hf.elim
theorem xv_at0 {v : Int32} (h : xv i I J R) (hJ : J2 44 3 = J 44 3) : xv (i + 6) (xm_up I 49 0 v) J2 R := by
  obtain ⟨hR, hT, ⟨s, img, al, hs, hm, hK, hn⟩, hC, hl, hB⟩ := h
  have hf : fq [] [(49, 0)] I (xm_up I 49 0 v) := fq_u2 fq_rf (by decide)
  exact ask_fin hT hs hm (fun e => nsl_q (hn e) hf (by decide)) hC (lt_fq hf hl (by decide) (by decide)) hB hR hf (by decide) (ivK_q hK hf (fun e => stN_q (stN_of hK) hf (by decide)) (Or.inl (by decide)) (Or.inl (by decide)) (Or.inl (by decide)) (Or.inl (by decide)) (Or.inl ⟨by decide, hJ⟩))
theorem aw_in : ∀ w ∈ csB ++ [Cond.laysStatic Bundle.tN "UNASSIGNED_STACK" Bundle.steD, Cond.laysStatic Bundle.tN "SUPPRESSED_SENTINEL" Bundle.listD, Cond.initialized Bundle.tN], w ∈ lw_tbl := by decide +kernel
theorem aw_1 : Cond.methodLink R_law 38 method_3 ∈ xm_Ts := List.mem_filter.mpr ⟨by decide +kernel, rfl⟩
theorem aw_2 : Cond.static method_3 ∈ xm_Ts := List.mem_filter.mpr ⟨by decide +kernel, rfl⟩
theorem aw_3 : Cond.initialized method_3.cls ∈ xm_Ts := List.mem_filter.mpr ⟨by decide +kernel, rfl⟩
theorem aw_4 : Cond.codeWith method_3 method_3_code 5 (some .int) [(0, 10, 13, 13)] ∈ xm_Ts := List.mem_filter.mpr ⟨by decide +kernel, rfl⟩
theorem aw_zq {L : Nat} {sb : Nat} {xs : Nat → Int32} (C : lc_C p s m meth c D G sb L xs) : zq_ok s.heap.size s := by
  obtain ⟨⟨hx, hb, hr, hml, hown, hts, hX, hbl, hlocks, hgv⟩, hK, hL⟩ := C
  have hg := flat_of_before _ hgv
  have hA : ∀ a : Nat, a < s.heap.size → ¬ s.heap.size ≤ a := fun a h => Nat.not_le.mpr h
  have hi := hts _ (aw_in (Cond.initialized Bundle.tN) (by decide))
  exact ⟨vx_Zqof (hts _ (aw_in (Cond.laysStatic Bundle.tN "UNASSIGNED_STACK" Bundle.steD) (by decide))) hi (hg (Cond.isRef (.static Bundle.tN "UNASSIGNED_STACK" Bundle.steD)) (by decide +kernel)) hA, vx_Zqof (hts _ (aw_in (Cond.laysStatic Bundle.tN "SUPPRESSED_SENTINEL" Bundle.listD) (by decide))) hi (hg (Cond.isRef (.static Bundle.tN "SUPPRESSED_SENTINEL" Bundle.listD)) (by decide +kernel)) hA, cs_of fun w hw => hts w (aw_in w (List.mem_append_left _ hw))⟩
/-- the law's call of its own at -/
theorem aw_call {sb L : Nat} {xs : Nat → Int32} {H : Heap} {locs : List Loc} {cells slots : Nat} {ls : Array Slot} {Q : State → Prop} {r q : Int32} {z : xm_Z} (C : lc_C p s m meth c D G sb L xs) (S : lc_S s D G sb i ls H locs I J R) (hM : vx_Met l method_3 at3_ws (xm_rm 40 1 6) (ax_P D G s.heap.size [.ref (0 : Nat), .int r, .int q, .ref (77 : Nat)] I J R) (xm_Q D G s.heap.size z) (fun _ _ _ => False) 1 6 (fun a => s.heap.size ≤ a)) (hc : cells + 4 ≤ 601024) (hsl : slots + 40 ≤ 7293034)
    (kk : ∀ (H1 : Heap) (locs1 : List Loc), va_P D xm_cls (xm_ws G s.heap.size z.2.1.2 z.2.2.1 z.2.2.2.1 z.2.2.2.2) H1 → va_S (fun a => s.heap.size ≤ a) s.heap H1 locs1 → W p l e room_1 s m #[Value.ref sb] below meth c H1 locs1 (cells + 1) (slots + 6) Q (F0 m 341 ls ((z.1.map (xm_cv s.heap.size)).toList ++ []))) : W p l e room_1 s m #[Value.ref sb] below meth c H locs cells slots Q (F0 m 338 ls [.ref (s.heap.size + 77), .int q, .int r, .ref (s.heap.size + 0)]) := by
  have hzq := aw_zq C
  obtain ⟨⟨hx, hb, hr, hml, hown, hts, hX, hbl, hlocks, hgv⟩, hK, hL⟩ := C
  obtain ⟨hP, hS, hll⟩ := S
  have hts' : ∀ w ∈ xm_Ts, w.before #[Value.ref sb] s = true := fun w hw => hts w (List.mem_filter.mp hw).1
  have hpre : ∀ U : State, U.heap = H → s.WarmedH U.vm → ax_P D G s.heap.size [.ref (0 : Nat), .int r, .int q, .ref (77 : Nat)] I J R ([.ref (s.heap.size + 0), .int r, .int q, .ref (s.heap.size + 77)] : List Value).toArray U := fun U hU hW => ⟨⟨rfl, by rw [hU]; exact hP, hK.warm hW, by rw [hU]; exact hS.1, fun z => (by cases z)⟩, by rw [hU]; exact vx_Zq.moved hW.alike (hzq.1.kept hS.2.1), by rw [hU]; exact vx_Zq.moved hW.alike (hzq.2.1.kept hS.2.1), cs_mv hW.alike hzq.2.2⟩
  have cw : vx_CSW room_1 s #[Value.ref sb] R_law 38 method_3 method_3_code 5 (some .int) [(0, 10, 13, 13)] at3_ws (xm_rm 40 1 6) 1 6 4 := vx_cwSW (ws' := xm_Ts) 4 hts' (xm_good fun w hw => by
      unfold va_wsS at hw
      rcases List.mem_append.mp hw with hw | hw
      · simp only [List.mem_cons, List.not_mem_nil, or_false] at hw
        rcases hw with rfl | rfl | rfl
        · exact aw_1
        · exact aw_2
        · exact aw_3
      · rcases List.mem_cons.mp hw with rfl | hw
        · exact aw_4
        · exact hw) rfl rfl rfl ⟨by decide, by decide, by decide +kernel⟩ ⟨by show 41 ≤ 2048; omega, by show 8 + (5 + 11) + 64 * 40 ≤ 84000; omega⟩
  refine xm_callX (vx_runSX (As := [.ref (s.heap.size + 0), .int r, .int q, .ref (s.heap.size + 77)]) (rest := []) ⟨hx, hb, hml, hown, hts'⟩ hM cw ⟨ax_blind, hpre⟩ rfl rfl hll.1 rfl (Nat.le_of_ble_eq_true rfl) (by decide +kernel : decode code 338 = .ok (.invokestatic 38, 3)) ⟨by show cells + 1 ≤ 601024; omega, by show slots + 6 ≤ 7293034; omega⟩) hS fun H1 locs1 hP1 hS1 => ?_
  exact kk H1 locs1 hP1 hS1
end LAWAT
