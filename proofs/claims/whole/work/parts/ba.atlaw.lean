/-! the law's case of at -/
section LAWAT2
theorem fl0 {l : Launch} (h : l.flags = flags0) : l.stackTraces = false := by
  unfold Launch.stackTraces
  rw [h]
  decide
set_option maxHeartbeats 1000000 in
theorem xv_at : xo_at xv := by
  intro p l e s m below meth c D G sb L i xs I J R H locs cells slots ls Q hfl C S hi hv hc hsl kk
  have hfl := fl0 hfl
  have hv0 := hv
  obtain ⟨hR, hT, ⟨sl, img, al, hs, hm, hK9, hn⟩, hC9, hl9, hB9⟩ := hv
  have hx := C.1.1
  have hb := C.1.2.1
  have hK := C.2.1
  refine lv_aload_n hx hb (by decide +kernel : decode code 324 = .ok (.aload_n 1, 1)) rfl (lv_at S.2.2 1 rfl) ?_
  refine law_arg C S (by decide +kernel : decode code 325 = .ok (.aload_n 0, 1)) (by decide +kernel : decode code 326 = .ok (.iload 4, 2)) (by decide +kernel : decode code 328 = .ok (.iconst 1, 1)) (by decide +kernel : decode code 329 = .ok (.iadd, 1)) (by decide +kernel : decode code 330 = .ok (.iaload, 1)) (k := 1) (by decide +kernel) (by omega) ?_
  refine law_arg C S (by decide +kernel : decode code 331 = .ok (.aload_n 0, 1)) (by decide +kernel : decode code 332 = .ok (.iload 4, 2)) (by decide +kernel : decode code 334 = .ok (.iconst 2, 1)) (by decide +kernel : decode code 335 = .ok (.iadd, 1)) (by decide +kernel : decode code 336 = .ok (.iaload, 1)) (k := 2) (by decide +kernel) (by omega) ?_
  refine lv_aload_n hx hb (by decide +kernel : decode code 337 = .ok (.aload_n 3, 1)) rfl (lv_at S.2.2 3 rfl) ?_
  have tail : ∀ (k : Nat) (w : Int32) (J2 : xm_J) (ls : Array Slot) (H : Heap) (locs : List Loc), k < 2 → J2 44 3 = J 44 3 → (k = 0 → J2 77 0 = w.toInt64) → (∀ d, xm_den (d + 3) m_X12_at 0 [some (.ref (49 : Nat)), some (.int (xs (i + 1))), some (.int (xs (i + 2)))] [] xm_la I J2 R = some (some (.int w), xm_la, xm_up I 49 0 (nI k), J2, R)) → lc_S s D G sb i ls H locs I J2 R → W p l e room_1 s m #[Value.ref sb] below meth c H locs (cells + 1) (slots + 6) Q (F0 m 341 ls [.int (nI k)]) := by
    intro k w J2 ls H locs hk hJ hJ0 hden S
    obtain ⟨hP, hS, hl⟩ := S
    refine lv_istore (lv' := [(5, .int (nI k)), (0, .ref sb), (1, .ref (s.heap.size + 0)), (2, .ref (s.heap.size + 49)), (3, .ref (s.heap.size + 77)), (4, .int (nI i))]) hx hb (by decide +kernel : decode code 341 = .ok (.istore 5, 2)) hl (by decide) rfl (fun ls hl => ?_)
    have S : lc_S s D G sb i ls H locs I J2 R := ⟨hP, hS, lv_sub hl [1, 2, 3, 4, 5] rfl⟩
    refine lv_aload_n hx hb (by decide +kernel : decode code 343 = .ok (.aload_n 2, 1)) rfl (lv_at S.2.2 2 rfl) ?_
    refine law_arg C S (by decide +kernel : decode code 344 = .ok (.aload_n 0, 1)) (by decide +kernel : decode code 345 = .ok (.iload 4, 2)) (by decide +kernel : decode code 347 = .ok (.iconst 1, 1)) (by decide +kernel : decode code 348 = .ok (.iadd, 1)) (by decide +kernel : decode code 349 = .ok (.iaload, 1)) (k := 1) (by decide +kernel) (by omega) ?_
    refine law_arg C S (by decide +kernel : decode code 350 = .ok (.aload_n 0, 1)) (by decide +kernel : decode code 351 = .ok (.iload 4, 2)) (by decide +kernel : decode code 353 = .ok (.iconst 2, 1)) (by decide +kernel : decode code 354 = .ok (.iadd, 1)) (by decide +kernel : decode code 355 = .ok (.iaload, 1)) (k := 2) (by decide +kernel) (by omega) ?_
    refine law_call (as := [.int (xs (i + 1)), .int (xs (i + 2))]) (rest := []) (q' := q_X12_at) C S k_X12_at (Nat.le_of_ble_eq_true rfl) (hden 97) (dn_np q_X12_at 2 (by decide +kernel)) (by decide) rfl (p1 := 7045) (p2 := 7046) (p3 := 7047) (by decide +kernel) (by decide +kernel) (by decide +kernel) (by decide +kernel : decode code 356 = .ok (.invokevirtual 43, 3)) (Nat.le_of_ble_eq_true rfl) (by omega) (by omega) fun H locs S => ?_
    obtain ⟨hP, hS, hl'⟩ := S
    refine lv_istore (lv' := [(6, .int w), (5, .int (nI k)), (0, .ref sb), (1, .ref (s.heap.size + 0)), (2, .ref (s.heap.size + 49)), (3, .ref (s.heap.size + 77)), (4, .int (nI i))]) hx hb (by decide +kernel : decode code 359 = .ok (.istore 6, 2)) hl (by decide) rfl (fun ls hl => ?_)
    have S : lc_S s D G sb i ls H locs (xm_up I 49 0 (nI k)) J2 R := ⟨hP, hS, lv_sub hl [2, 3, 4, 5, 6] rfl⟩
    refine lv_aload_n hx hb (by decide +kernel : decode code 361 = .ok (.aload_n 2, 1)) rfl (lv_at S.2.2 2 rfl) ?_
    refine law_call (as := []) (rest := []) (q' := q_X12_thrown) C S k_X12_thrown (Nat.le_of_ble_eq_true rfl) (a_thrown 100) (dn_np q_X12_thrown 0 (by decide +kernel)) (by decide) rfl (p1 := 6143) (p2 := 6144) (p3 := 6145) (by decide +kernel) (by decide +kernel) (by decide +kernel) (by decide +kernel : decode code 362 = .ok (.invokevirtual 44, 3)) (Nat.le_of_ble_eq_true rfl) (by omega) (by omega) fun H locs S => ?_
    refine lv_iload hx hb (by decide +kernel : decode code 365 = .ok (.iload 5, 2)) (lv_at hl 1 rfl) ?_
    refine lv_icmp_eq (tgt := 372) hx hb (by decide +kernel : decode code 367 = .ok (.if_icmp .eq 5, 3)) (by decide) (fun _ => ?_) (fun z => absurd rfl z)
    refine lv_iload hx hb (by decide +kernel : decode code 372 = .ok (.iload 5, 2)) (lv_at hl 1 rfl) ?_
    have done : ∀ (H : Heap) (locs : List Loc), lc_S s D G sb i ls H locs (xm_up I 49 0 (nI k)) J2 R → W p l e room_1 s m #[Value.ref sb] below meth c H locs (cells + 1) (slots + 6) Q (F0 m 389 ls []) := fun H locs S => by
      refine lv_goto (tgt := 1025) hx hb (by decide +kernel : decode code 389 = .ok (.goto 636, 3)) (by decide) ?_
      exact kk _ _ _ _ _ _ _ _ (by omega) (by omega) (xv_at0 hv0 hJ) S
    refine lv_if_ne (tgt := 389) hx hb (by decide +kernel : decode code 374 = .ok (.ifCond .ne 15, 3)) (by decide) (fun _ => done H locs S) (fun z => ?_)
    have hk0 : k = 0 := inj30 (by omega) (by omega) z
    subst hk0
    refine lv_aload_n hx hb (by decide +kernel : decode code 377 = .ok (.aload_n 3, 1)) rfl (lv_at hl 5 rfl) ?_
    refine lv_iconst (v := 0) hx hb (by decide +kernel : decode code 378 = .ok (.iconst 0, 1)) (by decide) ?_
    refine va_lald (D := D) hx hb hK.1 S.1 77 1 (arr_lng (lay := xm_la) (a := 77) (n := 1) rfl) rfl (by unfold vp_in; decide) (by decide +kernel : decode code 379 = .ok (.laload, 1)) ?_
    refine lv_iload hx hb (by decide +kernel : decode code 380 = .ok (.iload 6, 2)) (lv_at hl 0 rfl) ?_
    refine lv_i2l (v := w.toInt64) hx hb (by decide +kernel : decode code 382 = .ok (.i2l, 1)) rfl ?_
    have e77 : J2 77 (0 : Int32).toNatClampNeg = w.toInt64 := hJ0 rfl
    rw [e77]
    refine W.lcmp hx hb (by decide +kernel : decode code 383 = .ok (.lcmp, 1)) ?_
    refine lv_if_eq (tgt := 389) hx hb (by decide +kernel : decode code 384 = .ok (.ifCond .eq 5, 3)) (by decide) (fun _ => done H locs S) (fun z => absurd (by unfold lg_cmp; simp) z)
  by_cases hin : ∃ a c, a_in sl (xs (i + 1)) (xs (i + 2)) a c
  · obtain ⟨a, c', hin⟩ := hin
    obtain ⟨w', ca⟩ := a_at1 hR hs.1 hs.2.1 hin
    have c1 := (ca J).1
    have c2 := (ca (xm_up J 77 0 w'.toInt64)).2
    refine aw_call C S (at3_no (G := G) c1) hc hsl fun H locs hP hS => ?_
    exact tail 0 w' (xm_up J 77 0 w'.toInt64) ls H locs (by omega) (up_o (by decide)) (fun _ => up_s) c2 ⟨hP, hS, S.2.2⟩
  · have hin : ∀ a c, ¬ a_in sl (xs (i + 1)) (xs (i + 2)) a c := fun a c h => hin ⟨a, c, h⟩
    have hhas := fun d => s_has0 (d := d) (J := J) (xs20 hR) hs.1 hin
    have c2 := a_at0 (J := J) hR hs.2.1 hin
    refine aw_call C S (at3_th (G := G) hfl hhas hR) hc hsl fun H locs hP hS => ?_
    exact tail 1 (nI 0) J ls H locs (by omega) rfl (fun z => by omega) c2 ⟨hP, hS, S.2.2⟩
end LAWAT2
