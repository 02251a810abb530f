/-! the law's start and its calls -/
section LAW0
theorem xm_inst (ci : Nat) (h : ci < 13) : Cond.instantiable (xm_own ci) (xm_nf ci) ∈ lw_tbl := by
  match ci, h with
  | 0, _ => exact xm_wd_in (p := 1151) (by decide +kernel)
  | 1, _ => exact xm_wd_in (p := 1129) (by decide +kernel)
  | 2, _ => exact xm_wd_in (p := 2047) (by decide +kernel)
  | 3, _ => exact xm_wd_in (p := 2069) (by decide +kernel)
  | 4, _ => exact xm_wd_in (p := 1225) (by decide +kernel)
  | 5, _ => exact xm_wd_in (p := 1170) (by decide +kernel)
  | 6, _ => exact xm_wd_in (p := 1071) (by decide +kernel)
  | 7, _ => exact xm_wd_in (p := 1065) (by decide +kernel)
  | 8, _ => exact xm_wd_in (p := 1046) (by decide +kernel)
  | 9, _ => exact xm_wd_in (p := 2022) (by decide +kernel)
  | 10, _ => exact xm_wd_in (p := 1030) (by decide +kernel)
  | 11, _ => exact xm_wd_in (p := 1022) (by decide +kernel)
  | 12, _ => exact xm_wd_in (p := 5224) (by decide +kernel)
  | n + 13, h => omega
theorem xm_K0 {args : Array Value} {s : State} (hts : ∀ w ∈ lw_tbl, w.before args s = true) : ∃ (D : va_G) (G : xm_G), xm_K D G s := by
  have hcl : ∀ ci : Nat, ci < 13 → ∃ (cC : ClassId) (iS : Nat → Nat), ∀ q : vw_C, xm_cls[ci]? = some q → u_Kn s q.1 q.2.1 q.2.2 cC iS := by
    intro ci hci
    obtain ⟨q, hq⟩ := xm_cls_get hci
    obtain ⟨e1, e2, e3, e4, e5, e6, e7⟩ := xm_cls_ok ci q hq
    have hin : ∀ w ∈ u_ws q.1 q.2.1 q.2.2, w ∈ lw_tbl := fun w hw => (List.mem_filter.mp (e4 w hw)).1
    obtain ⟨n, hn⟩ : ∃ n, (Cond.instantiable q.1 n).before args s = true := by
      rw [e1]
      exact ⟨_, hts _ (xm_inst ci hci)⟩
    obtain ⟨cC, iS, h⟩ := u_known (n := n) hts hin hn
    exact ⟨cC, iS, fun q' hq' => by rw [hq] at hq'; cases hq'; exact h⟩
  have hcl2 : ∀ ci : Nat, ∃ (x : ClassId × (Nat → Nat)), ∀ q : vw_C, xm_cls[ci]? = some q → u_Kn s q.1 q.2.1 q.2.2 x.1 x.2 := by
    intro ci
    by_cases hci : ci < 13
    · obtain ⟨cC, iS, h⟩ := hcl ci hci; exact ⟨(cC, iS), h⟩
    · refine ⟨(0, fun _ => 0), fun q hq => ?_⟩
      have hlt := (List.getElem?_eq_some_iff.mp hq).1
      have hlen : xm_cls.length = 13 := rfl
      omega
  have hD : ∃ F : Nat → ClassId × (Nat → Nat), ∀ (ci : Nat) (q : vw_C), xm_cls[ci]? = some q → u_Kn s q.1 q.2.1 q.2.2 (F ci).1 (F ci).2 := ⟨fun ci => Classical.choose (hcl2 ci), fun ci => Classical.choose_spec (hcl2 ci)⟩
  obtain ⟨F, hF⟩ := hD
  obtain ⟨w1, w2, w3, w4⟩ := xm_arr_ok
  obtain ⟨c1, k1, p1, a1, a2, a3⟩ := Cond.arrayClass_spec (hts _ (xm_wd_in w1))
  obtain ⟨c2, k2, p2, b1, b2, b3⟩ := Cond.arrayClass_spec (hts _ (xm_wd_in w2))
  have hAO : va_AO "SlateSum$Tape" s := hts _ (xm_wd_in w3)
  obtain ⟨comp, c3, k3, d1, d2, d3, d4, d5⟩ := Cond.arrayOver_spec hAO
  refine ⟨(fun ci => (F ci).1, fun ci => (F ci).2), (c1, c2, c3), ⟨hF, fun k x hx => ?_⟩, fun w hw => ?_, hAO⟩
  · match k, hx with
    | 0, hx => cases hx; exact ⟨fun n z => ⟨fun k h => (by cases h), k1, a2, p1, a3⟩, a1⟩
    | 1, hx => cases hx; exact ⟨fun n z => ⟨fun k h => (by cases h), k2, b2, p2, b3⟩, b1⟩
    | 2, hx => cases hx; exact ⟨fun n z => ⟨fun k h => (by cases h), k3, d3, comp, d4⟩, k3, comp, d3, d4, d1, d5⟩
    | k + 3, hx => simp at hx
  · obtain ⟨h1, h2⟩ := List.mem_filter.mp hw
    exact va_Nw.of (xm_N_tab h2) (hts _ h1)
/-- a call of an object's method, from any method, in a world where nothing new comes -/
theorem xm_vcall {p : Program} {l : Launch} {e : Env} {Rm : Room} {s : State} {m : MethodId} {args : Array Value} {below : List Frame} {meth : Method} {c : Code} {D : va_G} {G : xm_G} {b d : Nat} {cc : ByteArray} {nL pc idx y a cells slots : Nat} {own : String} {q' : xm_q} {as rest : List Value} {v : Option Value} {lay : xm_L} {I I' : xm_I} {J J' : xm_J} {R R' : xm_R} {H : Heap} {locs : List Loc} {ls : Array Slot} {Q : State → Prop}
    (hx : p.tables.exec = Jvm.exec) (hb : c.code = cc) (hml : c.maxLocals = nL) (hown : s.vm.findClass own = some m.cls) (hts : ∀ w ∈ xm_Ts, w.before args s = true) (hK : xm_K D G s)
    (hq' : xm_mts[y]? = some q') (hsl : (xm_sl (.ref a :: as)).length ≤ q'.2.2.2.1) (hden : xm_den d y 0 (xm_en q'.2.2.2.1 (.ref a :: as)) [] lay I J R = some (v, lay, I', J', R')) (hnp : xm_np q'.2.1 = as.length) (h13 : q'.1 < 13) (hl : lay.2[a]? = some (q'.1, xm_nf q'.1))
    (hlink : Cond.methodLink own idx q'.2.1 ∈ xm_Ts) (hinst : Cond.instanceMethod q'.2.1 ∈ xm_Ts) (hsel : Cond.selects q'.2.1.cls q'.2.1 q'.2.1 ∈ xm_Ts) (hd : decode cc pc = .ok (.invokevirtual idx, 3))
    (hP : va_P D xm_cls (xm_ws G b lay.2 I J R) H) (hS : va_S (fun a => b ≤ a) s.heap H locs) (hbs : b ≤ s.heap.size) (hfl : lay.1 = false) (hls : ls.size = nL) (hcs : (rest.map fun v => v.category).sum ≤ 8) (hfr : d + 1 ≤ Rm.frames) (hlo : 64 * (d + 1) ≤ Rm.locals) (hc : cells ≤ Rm.cells) (hslt : slots ≤ Rm.slots)
    (kk : ∀ (H1 : Heap) (locs1 : List Loc), va_P D xm_cls (xm_ws G b lay.2 I' J' R') H1 → va_S (fun a => b ≤ a) s.heap H1 locs1 → W p l e Rm s m args below meth c H1 locs1 cells slots Q (F0 m (pc + 3) ls ((v.map (xm_cv b)).toList ++ rest))) :
    W p l e Rm s m args below meth c H locs cells slots Q (F0 m pc ls ((as.map (xm_cv b)).reverse ++ .ref (b + a) :: rest)) := by
  obtain ⟨r1, r2, r3, r4, r5, r6, r7⟩ := xm_mt_row hq'
  have hM := xm_den_met l hq' hsl hden D G b
  have e1 : xm_nc ((v, lay, I', J', R') : xm_Z).2.1 - xm_nc lay = 0 := Nat.sub_self _
  have e2 : xm_ns ((v, lay, I', J', R') : xm_Z).2.1 - xm_ns lay = 0 := Nat.sub_self _
  rw [e1, e2] at hM
  have hbH : b ≤ H.size := Nat.le_trans hbs hS.1
  have hpre : ∀ U : State, U.heap = H → s.WarmedH U.vm → xm_P D G b (.ref a :: as) lay I J R ((Value.ref a :: as).map (xm_cv b)).toArray U := fun U hU hW => ⟨rfl, by rw [hU]; exact hP, hK.warm hW, by rw [hU]; exact hbH, fun hf => by rw [hfl] at hf; cases hf⟩
  obtain ⟨⟨cn, T0, N⟩, hcc⟩ := xm_cls_get h13
  obtain ⟨f1, -⟩ := xm_cls_ok _ _ hcc
  have f1 : cn = xm_own q'.1 := f1
  have hrv := va_recv (D := D) hK.1 hP hcc (xm_obj_at hl h13)
  rw [show ((cn, T0, N) : vw_C).1 = q'.2.1.cls from f1.trans r3.symm] at hrv
  refine xm_call (va_runV (C := q'.2.1.cls) (b := b + a) (As := as.map (xm_cv b)) (rest := rest) ⟨hx, hb, hml, hown, hts⟩ hM (cwV (xm_np q'.2.1) hts (xm_good fun w hw => by
          rcases List.mem_append.mp hw with hw | hw
          · simp only [List.mem_cons, List.not_mem_nil, or_false] at hw
            rcases hw with rfl | rfl | rfl | rfl
            · exact hlink
            · exact hinst
            · exact hsel
            · exact r2
          · exact xm_wsq_in hq' w hw) rfl rfl rfl ⟨rfl, r5.1, r5.2, r6⟩ ⟨hfr, by show 8 + (q'.2.2.2.1 + 11) + 64 * d ≤ _; omega⟩) ⟨xm_P_blind, hrv, hpre⟩ rfl (by rw [List.length_map, hnp]) hls rfl (by show 2 * 0 + _ ≤ 8; omega) hd ⟨hc, hslt⟩) hS fun H1 locs1 hP1 hS1 => ?_
  exact kk H1 locs1 hP1 hS1
end LAW0
