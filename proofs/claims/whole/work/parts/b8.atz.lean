/-! at in the law: its own method that catches -/
section ATZ
variable {l : Launch} {D : va_G} {G : xm_G} {b : Nat} {I : xm_I} {J : xm_J} {R : xm_R} {r q w : Int32}
theorem az_w1 : Cond.methodLink "SlateSumLaw" 7 q_X11_at.2.1 ∈ xm_Ts := List.mem_filter.mpr ⟨by decide +kernel, rfl⟩
theorem az_w2 : Cond.instanceMethod q_X11_at.2.1 ∈ xm_Ts := List.mem_filter.mpr ⟨by decide +kernel, rfl⟩
theorem az_w3 : Cond.selects q_X11_at.2.1.cls q_X11_at.2.1 q_X11_at.2.1 ∈ xm_Ts := List.mem_filter.mpr ⟨by decide +kernel, rfl⟩
theorem az_w4 : Cond.classLink "SlateSumLaw" 13 nse ∈ xm_Ts := List.mem_filter.mpr ⟨by decide +kernel, rfl⟩
def at3_ws : List Cond := .codeWith method_3 method_3_code 5 (some .int) [(0, 10, 13, 13)] :: xm_Ts
theorem arr_lng {a n : Nat} {lay : xm_L} (h : lay.2[a]? = some (101, n)) : (xm_ws G b lay.2 I J R)[a]? = some (b + a, .inl (G.2.1, n, .inr (.inl (J a)))) := xm_ws_at h
set_option maxHeartbeats 1000000 in
theorem at3_no (hden : ∀ d, xm_den (d + 3) m_X11_at 0 [some (.ref (0 : Nat)), some (.int r), some (.int q)] [] xm_la I J R = some (some (.int w), xm_la, I, J, R)) : vx_Met l method_3 at3_ws (xm_rm 40 1 6) (ax_P D G b [.ref (0 : Nat), .int r, .int q, .ref (77 : Nat)] I J R) (xm_Q D G b (some (.int 0), xm_la, I, xm_up J 77 0 w.toInt64, R)) (fun _ _ _ => False) 1 6 (fun a => b ≤ a) := by
  refine vx_ofWH (cc := method_3_code) (maxL := 5) (ret := some .int) (hh := [(0, 10, 13, 13)]) (by decide +kernel) rfl ?_
  intro p e s m args below meth c s₁ B hml hv
  obtain ⟨⟨ha, hP, hK, hbs, hal⟩, hU, hN, hcs⟩ := hv
  have ha : args = ([.ref (b + 0), .int r, .int q, .ref (b + 77)] : List Value).toArray := ha
  subst ha
  have hts : ∀ w ∈ xm_Ts, w.before ([.ref (b + 0), .int r, .int q, .ref (b + 77)] : List Value).toArray s = true := fun w hw => atoms_spec (ws := at3_ws) B.pre w (List.mem_cons_of_mem _ hw)
  have hown : s.vm.findClass "SlateSumLaw" = some m.cls := findClass_of_methodNamed B.named
  have hx := B.exec
  have hb := B.bytes
  have hl := lv_entry ([.ref (b + 0), .int r, .int q, .ref (b + 77)]) (n := 5) (Nat.le_of_ble_eq_true rfl)
  rw [lg_entry_eq]
  generalize (lg_sl ([.ref (b + 0), .int r, .int q, .ref (b + 77)]) ++ List.replicate (5 - (lg_sl ([.ref (b + 0), .int r, .int q, .ref (b + 77)])).length) Slot.unset).toArray = ls at hl ⊢
  have hl : lv_has ls 5 [(0, .ref (b + 0)), (1, .int r), (2, .int q), (3, .ref (b + 77))] := hl
  refine lv_aload_n hx hb (by decide +kernel : decode method_3_code 0 = .ok (.aload_n 3, 1)) rfl (lv_at hl 3 rfl) ?_
  refine lv_iconst (v := 0) hx hb (by decide +kernel : decode method_3_code 1 = .ok (.iconst 0, 1)) (by decide) ?_
  refine lv_aload_n hx hb (by decide +kernel : decode method_3_code 2 = .ok (.aload_n 0, 1)) rfl (lv_at hl 0 rfl) ?_
  refine lv_iload_n hx hb (by decide +kernel : decode method_3_code 3 = .ok (.iload_n 1, 1)) rfl (lv_at hl 1 rfl) ?_
  refine lv_iload_n hx hb (by decide +kernel : decode method_3_code 4 = .ok (.iload_n 2, 1)) rfl (lv_at hl 2 rfl) ?_
  refine xm_vcall (own := "SlateSumLaw") (nL := 5) (d := 30) (a := 0) (as := [.int r, .int q]) (rest := [.int 0, .ref (b + 77)]) (q' := q_X11_at) (lay := xm_la) hx hb hml hown hts hK k_X11_at (Nat.le_of_ble_eq_true rfl) (hden 27) (dn_np q_X11_at 2 (by decide +kernel)) (by decide) rfl az_w1 az_w2 az_w3 (by decide +kernel : decode method_3_code 5 = .ok (.invokevirtual 7, 3)) hP va_S.rf hbs rfl hl.1 (Nat.le_of_ble_eq_true rfl) (by decide) (by decide) (Nat.zero_le _) (Nat.zero_le _) fun H locs hP hS => ?_
  refine lv_i2l (v := w.toInt64) hx hb (by decide +kernel : decode method_3_code 8 = .ok (.i2l, 1)) rfl ?_
  refine va_last (D := D) hx hb hK.1 hP xm_ws_D hS 77 1 (arr_lng (a := 77) (n := 1) rfl) rfl (by unfold vp_in; decide) (by decide +kernel : decode method_3_code 9 = .ok (.lastore, 1)) fun H locs hP _ hS => ?_
  have hP : va_P D xm_cls (xm_ws G b xm_la.2 I (xm_up J 77 0 w.toInt64) R) H := by
    rw [xm_ws_set (o := 77) (e := (101, 1)) (I := I) (J := J) (R := R) rfl (fun a' q' => ⟨rfl, xm_up_ne q', rfl⟩)]
    have e1 : xm_cell G b I (xm_up J 77 0 w.toInt64) R 77 (101, 1) = .inl (G.2.1, 1, .inr (.inl (vp_updL (J 77) (0 : Int32).toNatClampNeg w.toInt64))) := by
      show Sum.inl (G.2.1, 1, Sum.inr (Sum.inl (xm_up J 77 0 w.toInt64 77))) = _
      rw [xm_up_at]; rfl
    rw [e1]; exact hP
  refine lv_goto (tgt := 17) hx hb (by decide +kernel : decode method_3_code 10 = .ok (.goto 7, 3)) (by decide) ?_
  refine lv_iconst (v := 0) hx hb (by decide +kernel : decode method_3_code 17 = .ok (.iconst 0, 1)) (by decide) ?_
  refine W.widen (k := 1) (n := 6) (by decide) (by decide) ?_
  refine vx_ret (W.zret (ty := .int) hx hb B.returns rfl (fun t ht hW => ⟨⟨rfl, by rw [ht]; exact hP, hK.warm hW⟩, hS.F ht⟩) hS.2.2 (by decide +kernel : decode method_3_code 18 = .ok (.ireturn, 1)))
set_option maxHeartbeats 1000000 in
theorem at3_th (hfl : l.stackTraces = false) (hhas : ∀ d, xm_den (d + 1) m_X6_has 0 [some (.ref (20 : Nat)), some (.int r), some (.int q)] [] xm_la I J R = some (some (.int (nI 0)), xm_la, I, J, R)) (hR : xm_HR R) : vx_Met l method_3 at3_ws (xm_rm 40 1 6) (ax_P D G b [.ref (0 : Nat), .int r, .int q, .ref (77 : Nat)] I J R) (xm_Q D G b (some (.int 1), xm_la, I, J, R)) (fun _ _ _ => False) 1 6 (fun a => b ≤ a) := by
  refine vx_ofWH (cc := method_3_code) (maxL := 5) (ret := some .int) (hh := [(0, 10, 13, 13)]) (by decide +kernel) rfl ?_
  intro p e s m args below meth c s₁ B hml hv
  obtain ⟨⟨ha, hP, hK, hbs, hal⟩, hU', hN, hcs⟩ := hv
  have ha : args = ([.ref (b + 0), .int r, .int q, .ref (b + 77)] : List Value).toArray := ha
  subst ha
  have hts : ∀ w ∈ xm_Ts, w.before ([.ref (b + 0), .int r, .int q, .ref (b + 77)] : List Value).toArray s = true := fun w hw => atoms_spec (ws := at3_ws) B.pre w (List.mem_cons_of_mem _ hw)
  have hown : s.vm.findClass "SlateSumLaw" = some m.cls := findClass_of_methodNamed B.named
  have hx := B.exec
  have hb := B.bytes
  have hl := lv_entry ([.ref (b + 0), .int r, .int q, .ref (b + 77)]) (n := 5) (Nat.le_of_ble_eq_true rfl)
  rw [lg_entry_eq]
  generalize (lg_sl ([.ref (b + 0), .int r, .int q, .ref (b + 77)]) ++ List.replicate (5 - (lg_sl ([.ref (b + 0), .int r, .int q, .ref (b + 77)])).length) Slot.unset).toArray = ls at hl ⊢
  have hl : lv_has ls 5 [(0, .ref (b + 0)), (1, .int r), (2, .int q), (3, .ref (b + 77))] := hl
  refine lv_aload_n hx hb (by decide +kernel : decode method_3_code 0 = .ok (.aload_n 3, 1)) rfl (lv_at hl 3 rfl) ?_
  refine lv_iconst (v := 0) hx hb (by decide +kernel : decode method_3_code 1 = .ok (.iconst 0, 1)) (by decide) ?_
  refine lv_aload_n hx hb (by decide +kernel : decode method_3_code 2 = .ok (.aload_n 0, 1)) rfl (lv_at hl 0 rfl) ?_
  refine lv_iload_n hx hb (by decide +kernel : decode method_3_code 3 = .ok (.iload_n 1, 1)) rfl (lv_at hl 1 rfl) ?_
  refine lv_iload_n hx hb (by decide +kernel : decode method_3_code 4 = .ok (.iload_n 2, 1)) rfl (lv_at hl 2 rfl) ?_
  have htab : c.exceptionTable.toList = tableOf [(0, 10, 13, 13)] := vx_table (x := method_3) B (atoms_spec (ws := at3_ws) B.pre _ List.mem_cons_self)
  obtain ⟨x0, hx0, hcov, hct, hpc⟩ : ∃ x0, tableOf [(0, 10, 13, 13)] = [x0] ∧ covers x0 5 = true ∧ x0.catchType = 13 ∧ x0.handlerPc = 13 := ⟨_, rfl, rfl, rfl, rfl⟩
  rw [hx0] at htab
  obtain ⟨r1, r2, r3, r4, r5, r6, r7⟩ := xm_mt_row k_X11_at
  obtain ⟨⟨cn, T0, N⟩, hcc⟩ := xm_cls_get (show q_X11_at.1 < 13 by decide)
  obtain ⟨f1, -⟩ := xm_cls_ok _ _ hcc
  have f1 : cn = xm_own q_X11_at.1 := f1
  have hrv := va_recv (D := D) hK.1 hP hcc (xm_obj_at (lay := xm_la) (a := 0) rfl (show q_X11_at.1 < 13 by decide))
  rw [show ((cn, T0, N) : vw_C).1 = q_X11_at.2.1.cls from f1.trans r3.symm] at hrv
  have hpre : ∀ U : State, U.heap = s.heap → s.WarmedH U.vm → ax_P D G b [.ref (0 : Nat), .int r, .int q] I J R (([.ref (0 : Nat), .int r, .int q] : List Value).map (xm_cv b)).toArray U := fun U hU hW => ⟨⟨rfl, by rw [hU]; exact hP, hK.warm hW, by rw [hU]; exact hbs, fun z => (by cases z)⟩, by rw [hU]; exact vx_Zq.moved hW.alike hU', by rw [hU]; exact vx_Zq.moved hW.alike hN, cs_mv hW.alike hcs⟩
  have hr := vx_runV (R := (headSpec at3_ws (xm_rm 40 1 6)).room) (C := q_X11_at.2.1.cls) (b := b + 0) (As := [.int r, .int q]) (rest := [.int 0, .ref (b + 77)]) (g := F0 m 5 ls [.int q, .int r, .ref (b + 0), .int 0, .ref (b + 77)]) (cells := 0) (slots := 0) (locs := []) (below := below) (e := e) (meth := meth) ⟨hx, hb, hml, hown, hts⟩ (ax_met (D := D) (G := G) (b := b) hfl hhas hR) (cwV (xm_np q_X11_at.2.1) hts (xm_good fun w hw => by
          rcases List.mem_append.mp hw with hw | hw
          · simp only [List.mem_cons, List.not_mem_nil, or_false] at hw
            rcases hw with rfl | rfl | rfl | rfl
            · exact az_w1
            · exact az_w2
            · exact az_w3
            · exact r2
          · exact xm_wsq_in k_X11_at w hw) rfl rfl rfl ⟨rfl, r5.1, r5.2, r6⟩ ⟨by decide, by decide⟩) ⟨ax_blind, hrv, hpre⟩ rfl (dn_np q_X11_at 2 (by decide +kernel)).symm hl.1 rfl (Nat.le_of_ble_eq_true rfl) (by decide +kernel : decode method_3_code 5 = .ok (.invokevirtual 7, 3)) ⟨by decide, by decide⟩
  intro T hT X
  rcases hr T hT X with ⟨v, st₀, t, T', L, h0, X', hL, e1, e2, hf, st⟩ | ⟨qa, st₀, t, T', L, E, ce, h0, X', hL, e1, e2, ⟨rfl, hP1, hF⟩, hce, hcv, hcl, st⟩
  · exact hf.elim
  · have hlocs : ∀ z ∈ ([] : List Loc) ++ L, b ≤ z.base := fun z hz => hL z (by simpa using hz)
    have hF' : ∀ t : State, t.heap = T'.heap → va_F (fun a => b ≤ a) s t := fun t' ht => by
      obtain ⟨g1, g2⟩ := hF
      rw [h0] at g1 g2
      exact ⟨by rw [ht, e1]; exact g1, fun k hk hA => by rw [ht, e1]; exact g2 k hk hA⟩
    have kx : vx_W p l e (headSpec at3_ws (xm_rm 40 1 6)).room s m ([.ref (b + 0), .int r, .int q, .ref (b + 77)] : List Value).toArray below meth c T'.heap ([] ++ L) (0 + 1) (0 + 6) (vx_MQ below (xm_Q D G b (some (.int 1), xm_la, I, J, R)) (fun _ _ _ => False) ([.ref (b + 0), .int r, .int q, .ref (b + 77)] : List Value).toArray s 1 6 (fun a => b ≤ a)) (F0 m 5 ls [.int 0, .ref (b + 77)]) qa := by
      refine vx_catch (own := "SlateSumLaw") (name := nse) (E := nse) hown [] x0 [] htab (fun z hz => nomatch hz) hcov (by rw [hct]; decide) (by rw [hct]; exact hts _ az_w4) (cs_any hcs _ List.mem_cons_self) (by rw [e1]; exact hce) hcv hcl ?_
      rw [hpc]
      refine lv_astore (lv' := [(4, .ref qa), (0, .ref (b + 0)), (1, .int r), (2, .int q), (3, .ref (b + 77))]) hx hb (by decide +kernel : decode method_3_code 13 = .ok (.astore 4, 2)) hl (by decide) rfl (fun ls hl => ?_)
      refine lv_iconst (v := 1) hx hb (by decide +kernel : decode method_3_code 15 = .ok (.iconst 1, 1)) (by decide) ?_
      exact vx_ret (W.zret (ty := .int) hx hb B.returns rfl (fun t ht hW => ⟨⟨rfl, by rw [ht, e1]; exact hP1, hK.warm hW⟩, hF' t ht⟩) hlocs (by decide +kernel : decode method_3_code 16 = .ok (.ireturn, 1)))
    obtain ⟨t2, a1, b1⟩ := kx T' rfl X'
    exact ⟨t2, st.trans a1, b1⟩
end ATZ
