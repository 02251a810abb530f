/-! at throws: the class's method -/
section ATY
variable {l : Launch} {D : va_G} {G : xm_G} {b : Nat} {I : xm_I} {J : xm_J} {R : xm_R} {r q : Int32}
theorem ax_w1 : Cond.methodLink "SlateSum" 129 q_X6_has.2.1 ∈ xm_Ts := List.mem_filter.mpr ⟨by decide +kernel, rfl⟩
theorem ax_w2 : Cond.instanceMethod q_X6_has.2.1 ∈ xm_Ts := List.mem_filter.mpr ⟨by decide +kernel, rfl⟩
theorem ax_w3 : Cond.selects q_X6_has.2.1.cls q_X6_has.2.1 q_X6_has.2.1 ∈ xm_Ts := List.mem_filter.mpr ⟨by decide +kernel, rfl⟩
theorem ax_w4 : Cond.classLink "SlateSum" 133 nse ∈ xm_Ts := List.mem_filter.mpr ⟨by decide +kernel, rfl⟩
theorem ax_w5 : Cond.initialized nse ∈ xm_Ts := List.mem_filter.mpr ⟨by decide +kernel, rfl⟩
set_option maxHeartbeats 1000000 in
theorem ax_met (hl : l.stackTraces = false) (hhas : ∀ d, xm_den (d + 1) m_X6_has 0 [some (.ref (20 : Nat)), some (.int r), some (.int q)] [] xm_la I J R = some (some (.int (nI 0)), xm_la, I, J, R)) (hR : xm_HR R) : vx_Met l q_X11_at.2.1 (xm_wsq q_X11_at) (xm_rm 20 1 6) (ax_P D G b [.ref (0 : Nat), .int r, .int q] I J R) (fun _ _ _ _ => False) (ax_X D G b I J R) 1 6 (fun a => b ≤ a) := by
  obtain ⟨r1, r2, r3, r4, r5, r6, r7⟩ := xm_mt_row k_X11_at
  refine vx_ofW (cc := q_X11_at.2.2.1) (maxL := q_X11_at.2.2.2.1) (ret := q_X11_at.2.2.2.2.1) r4 rfl ?_
  intro p e s m args below meth c s₁ B hml ht hv
  obtain ⟨⟨rfl, hP, hK, hbs, hal⟩, hU, hN, hcs⟩ := hv
  have hts : ∀ w ∈ xm_Ts, w.before (([.ref (0 : Nat), .int r, .int q] : List Value).map (xm_cv b)).toArray s = true := fun w hw => atoms_spec (ws := xm_wsq q_X11_at) B.pre w (List.mem_cons_of_mem _ hw)
  have hown : s.vm.findClass q_X11_at.2.1.cls = some m.cls := findClass_of_methodNamed B.named
  obtain ⟨ls, he, hlr⟩ := xm_lr_en (b := b) (m := m) (nL := q_X11_at.2.2.2.1) (as := [.ref (0 : Nat), .int r, .int q]) (Nat.le_of_ble_eq_true rfl)
  rw [he]
  have hx := B.exec
  have hb := B.bytes
  have hlk := B.notSynchronized
  have C : xm_at p (headSpec (xm_wsq q_X11_at) (xm_rm 20 1 6)).room s m (([.ref (0 : Nat), .int r, .int q] : List Value).map (xm_cv b)).toArray meth c D G b 20 q_X11_at := ⟨B.exec, B.bytes, hml, hown, hts, hK, B.returns, B.notSynchronized, fun hi => (by cases hi), Nat.le_refl _, Nat.le_refl _, hbs⟩
  have h20 : R 0 5 = some 20 := hr_0_5 hR
  refine ax_step (st := []) (i := .aload_n 0) (n := 1) (pc' := 1) (st' := [.ref (0 : Nat)]) C (by decide +kernel) rfl ⟨hP, va_S.rf, hlr, fun z => by cases z⟩ (Nat.zero_le _) (Nat.zero_le _) fun H locs ls hs => ?_
  refine ax_step (st := [.ref (0 : Nat)]) (i := .getfield 46) (n := 3) (pc' := 4) (st' := [va_rf (R 0 5)]) C (by decide +kernel) rfl hs (Nat.zero_le _) (Nat.zero_le _) fun H locs ls hs => ?_
  rw [h20]
  refine ax_step (st := [va_rf (some 20)]) (i := .iload_n 1) (n := 1) (pc' := 5) (st' := [.int r, va_rf (some 20)]) C (by decide +kernel) rfl hs (Nat.zero_le _) (Nat.zero_le _) fun H locs ls hs => ?_
  refine ax_step (st := [.int r, va_rf (some 20)]) (i := .iload_n 2) (n := 1) (pc' := 6) (st' := [.int q, .int r, va_rf (some 20)]) C (by decide +kernel) rfl hs (Nat.zero_le _) (Nat.zero_le _) fun H locs ls hs => ?_
  refine xm_vcall (own := "SlateSum") (nL := q_X11_at.2.2.2.1) (d := 10) (a := 20) (as := [.int r, .int q]) (rest := []) (q' := q_X6_has) (lay := xm_la) hx hb hml hown hts hK k_X6_has (Nat.le_of_ble_eq_true rfl) (hhas 9) (dn_np q_X6_has 2 (by decide +kernel)) (by decide) rfl ax_w1 ax_w2 ax_w3 (by decide +kernel : decode q_X11_at.2.2.1 6 = .ok (.invokevirtual 129, 3)) hs.1 hs.2.1 hbs rfl hs.2.2.1.2.1 (by decide) (by decide) (by decide) (Nat.zero_le _) (Nat.zero_le _) fun H locs hP hS => ?_
  refine lv_if_ne (tgt := 20) hx hb (by decide +kernel : decode q_X11_at.2.2.1 9 = .ok (.ifCond .ne 11, 3)) (by decide) (fun z => absurd rfl z) (fun _ => ?_)
  refine vx_throw0 (own := "SlateSum") (cls := nse) (names := nsn) (ik := 133) (ic := 135) (A := fun a => b ≤ a) hx hb hl hown (by decide +kernel) (by decide +kernel) (hts _ ax_w4) (hts _ ax_w5) (nsw_ok hts hcs) nsw_ot hU hN hS (hs.2.2.1.2.1.trans hml.symm) (by decide +kernel : decode q_X11_at.2.2.1 12 = .ok (.new 133, 3)) (by decide +kernel : decode q_X11_at.2.2.1 15 = .ok (.dup, 1)) (by decide +kernel : decode q_X11_at.2.2.1 16 = .ok (.invokespecial 135, 3)) (by decide +kernel : decode q_X11_at.2.2.1 19 = .ok (.athrow, 1)) (fun x hx => (ht x hx).elim) (by decide) (by decide) (by decide) (by decide) hlk ?_ hS.2.2 (by decide) (by decide)
  intro t ha hz hk
  refine ⟨rfl, hP.kept fun k x hx => hk x.1 (hP k x hx).lt, Nat.le_trans hS.1 hz, fun q hq hA => ?_⟩
  rw [hk q (Nat.lt_of_lt_of_le hq hS.1)]
  exact hS.2.1 q hq hA
end ATY
