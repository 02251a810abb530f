/-! the law from its entry, over what its calls do: written by wip/whole/gen_start.py -/
section LAWS
variable {p : Program} {l : Launch} {e : Env} {s : State} {m : MethodId} {below : List Frame} {meth : Method} {c : Code} {D : va_G} {G : xm_G} {sb : Nat} {I I' : xm_I} {J J' : xm_J} {R R' : xm_R} {H : Heap} {locs : List Loc} {cells slots : Nat} {ls : Array Slot} {Q : State → Prop} {st : List Value}
theorem law_sz {g : JFrame} {lay : List (Nat × Nat)} (hP : va_P D xm_cls (xm_ws G s.heap.size lay I J R) H) (hne : 0 < lay.length) (hc : cells = lay.length) (kk : H.size = s.heap.size + lay.length → W p l e room_1 s m #[Value.ref sb] below meth c H locs cells slots Q g) : W p l e room_1 s m #[Value.ref sb] below meth c H locs cells slots Q g := by
  intro T hT X
  refine kk ?_ T hT X
  have u2 := X.same.2.2.1
  have u3 : (T.setVm s.vm).heap = H := hT
  rw [u3] at u2
  obtain ⟨k, hk⟩ : ∃ k, lay.length = k + 1 := ⟨lay.length - 1, by omega⟩
  have h0 : s.heap.size + k < H.size := (hP k _ (xm_ws_at (List.getElem?_eq_getElem (by omega)))).lt
  omega
theorem law_new {ci idx pc p1 p2 p3 : Nat} {lay : List (Nat × Nat)} (hx : p.tables.exec = Jvm.exec) (hb : c.code = code) (hown : s.vm.findClass R_law = some m.cls) (hts : ∀ w ∈ lw_tbl, w.before #[Value.ref sb] s = true) (hK : xm_K D G s) (hci : ci < 13)
    (w1 : xm_wd p1 = some (.classLink R_law idx (xm_own ci))) (w2 : xm_wd p2 = some (.instantiable (xm_own ci) (xm_nf ci))) (w3 : xm_wd p3 = some (.initialized (xm_own ci))) (hd : decode code pc = .ok (.new idx, 3)) (hP : va_P D xm_cls (xm_ws G s.heap.size lay I J R) H) (hS : va_S (fun a => s.heap.size ≤ a) s.heap H locs) (hz : H.size = s.heap.size + lay.length) (hc : cells + 1 ≤ 601024) (hsl : slots + xm_nf ci ≤ 7293034)
    (kk : ∀ H1 : Heap, va_P D xm_cls (xm_ws G s.heap.size (lay ++ [(ci, xm_nf ci)]) (xm_zr I lay.length 0) (xm_zr J lay.length 0) (xm_zr R lay.length none)) H1 → va_S (fun a => s.heap.size ≤ a) s.heap H1 locs → W p l e room_1 s m #[Value.ref sb] below meth c H1 locs (cells + 1) (slots + xm_nf ci) Q (F0 m (pc + 3) ls (.ref (s.heap.size + lay.length) :: st))) :
    W p l e room_1 s m #[Value.ref sb] below meth c H locs cells slots Q (F0 m pc ls st) := by
  obtain ⟨⟨cn, T, N⟩, hcc⟩ := xm_cls_get hci
  obtain ⟨e1, e2, e3, e4, e5, e6, e7⟩ := xm_cls_ok ci _ hcc
  have e1 : cn = xm_own ci := e1
  have e2 : N = xm_nf ci := e2
  subst e1; subst e2
  have hts' : ∀ w ∈ xm_Ts, w.before #[Value.ref sb] s = true := fun w hw => hts w (List.mem_filter.mp hw).1
  have hKn := hK.1.1 ci _ hcc
  refine W.newcK hx hb hown (hts _ (xm_wd_in w1)) (hts _ (xm_wd_in w2)) (hts _ (xm_wd_in w3)) rfl hd hc hsl hKn.2.1 hz fun H1 kC hkC f1 f2 f3 => ?_
  refine kk H1 ?_ ⟨Nat.le_trans hS.1 (by omega), fun q a1 a2 => (f3 q (by have := hS.1; omega)).trans (hS.2.1 q a1 a2), hS.2.2⟩
  rw [xm_ws_push (I := I) (J := J) (R := R) (fun a' q' => ⟨xm_zr_ne q', xm_zr_ne q', xm_zr_ne q'⟩)]
  refine (hP.kept fun k x hx => f3 x.1 (by have := (hP k x hx).lt; omega)).app fun k x hx => ?_
  have hk : k < 1 := (List.getElem?_eq_some_iff.mp hx).1
  rw [show k = 0 by omega] at hx
  cases hx
  have hcell : xm_cell G s.heap.size (xm_zr I lay.length 0) (xm_zr J lay.length 0) (xm_zr R lay.length none) lay.length (ci, xm_nf ci) = .inr (ci, (List.range (xm_nf ci)).map (fun k => xm_val s.heap.size (xm_ft ci k) 0 0 none)) := by
    unfold xm_cell
    rw [if_pos (show (ci, xm_nf ci).1 < 100 by show ci < 100; omega), xm_zr_at, xm_zr_at, xm_zr_at]
  rw [hcell]
  refine ⟨_, hcc, (u_born (xm_ty ci) hts' e4 hKn hkC f1 e5).to fun k hk => ?_⟩
  have hkk := (e7 k hk).2
  show defaultValue (xm_ty ci k) = vp_V _ k
  unfold vp_V
  rw [List.getD_eq_getElem?_getD, List.getElem?_map, List.getElem?_range hk]
  show _ = xm_val s.heap.size (xm_ft ci k) 0 0 none
  generalize xm_ty ci k = ty at hkk ⊢
  generalize xm_ft ci k = t at hkk ⊢
  match t with
  | 0 => cases ty <;> first | rfl | cases hkk
  | 1 => cases ty <;> first | rfl | cases hkk
  | 2 => cases ty <;> first | rfl | cases hkk
  | t + 3 => cases ty <;> cases hkk
theorem law_init {idx pc y a mc ms p1 p2 : Nat} {q' : xm_q} {lay lay' : List (Nat × Nat)} (hx : p.tables.exec = Jvm.exec) (hb : c.code = code) (hml : c.maxLocals = 7) (hown : s.vm.findClass R_law = some m.cls) (hts : ∀ w ∈ lw_tbl, w.before #[Value.ref sb] s = true) (hK : xm_K D G s) (hq' : xm_mts[y]? = some q') (hsl' : (xm_sl [.ref a]).length ≤ q'.2.2.2.1)
    (hden : xm_den 8 y 0 (xm_en q'.2.2.2.1 [.ref a]) [] (true, lay) I J R = some (none, (true, lay'), I', J', R')) (hmc : lay'.length - lay.length = mc) (hms : (lay'.map (·.2)).sum - (lay.map (·.2)).sum = ms) (hnp : xm_np q'.2.1 = 0) (hret : q'.2.2.2.2.1 = none) (hnm : q'.2.1.name = "<init>")
    (w1 : xm_wd p1 = some (.methodLink R_law idx q'.2.1)) (w2 : xm_wd p2 = some (.instanceMethod q'.2.1)) (hd : decode code pc = .ok (.invokespecial idx, 3)) (hP : va_P D xm_cls (xm_ws G s.heap.size lay I J R) H) (hS : va_S (fun a => s.heap.size ≤ a) s.heap H locs) (hz : H.size = s.heap.size + lay.length) (hls : ls.size = 7) (hcs : (st.map fun v => v.category).sum ≤ 8) (hc : cells + mc ≤ 601024) (hsl : slots + ms ≤ 7293034)
    (kk : ∀ (H1 : Heap) (locs1 : List Loc), va_P D xm_cls (xm_ws G s.heap.size lay' I' J' R') H1 → va_S (fun a => s.heap.size ≤ a) s.heap H1 locs1 → W p l e room_1 s m #[Value.ref sb] below meth c H1 locs1 (cells + mc) (slots + ms) Q (F0 m (pc + 3) ls st)) :
    W p l e room_1 s m #[Value.ref sb] below meth c H locs cells slots Q (F0 m pc ls (.ref (s.heap.size + a) :: st)) := by
  obtain ⟨r1, r2, r3, r4, r5, r6, r7⟩ := xm_mt_row hq'
  have hts' : ∀ w ∈ xm_Ts, w.before #[Value.ref sb] s = true := fun w hw => hts w (List.mem_filter.mp hw).1
  have hM := xm_den_met l hq' hsl' hden D G s.heap.size
  have e1 : xm_nc ((none, (true, lay'), I', J', R') : xm_Z).2.1 - xm_nc (true, lay) = mc := hmc
  have e2 : xm_ns ((none, (true, lay'), I', J', R') : xm_Z).2.1 - xm_ns (true, lay) = ms := hms
  rw [e1, e2] at hM
  have hpre : ∀ U : State, U.heap = H → s.WarmedH U.vm → xm_P D G s.heap.size [.ref a] (true, lay) I J R (([Value.ref a] : List Value).map (xm_cv s.heap.size)).toArray U := fun U hU hW => ⟨rfl, by rw [hU]; exact hP, hK.warm hW, by rw [hU]; exact hS.1, fun _ => by rw [hU]; exact hz⟩
  have hwsr : xm_wsq q' = .code q'.2.1 q'.2.2.1 q'.2.2.2.1 none :: xm_Ts := by unfold xm_wsq; rw [hret]
  refine xm_call (va_runI (b := s.heap.size + a) (As := []) (rest := st) ⟨hx, hb, hml, hown, hts'⟩ hM (cwI (xm_np q'.2.1) hts' (xm_good (xm_wsq_in hq')) hwsr rfl rfl (hts' _ r2) (hts _ (xm_wd_in w1)) (hts _ (xm_wd_in w2)) hnm ⟨r5.1, r5.2, r6⟩ ⟨by show 8 + 1 ≤ 2048; omega, by show 8 + (q'.2.2.2.1 + 11) + 64 * 8 ≤ 84000; omega⟩) ⟨xm_P_blind, hpre⟩ rfl (by rw [hnp]; rfl) hls rfl (by show 2 * 0 + _ ≤ 8; omega) hd ⟨hc, hsl⟩) hS fun H1 locs1 hP1 hS1 => ?_
  exact kk H1 locs1 hP1 hS1
set_option maxHeartbeats 4000000 in
set_option maxRecDepth 20000 in
theorem start_open {Inv : Nat → xm_I → xm_J → xm_R → Prop} (hall : xo_all Inv) (hat : xo_at Inv) (hmono : ∀ (i : Nat) (I : xm_I) (J : xm_J) (R : xm_R), Inv i I J R → Inv (i + 6) I J R) (hinit : ∀ I J R, xm_ck I J R = true → Inv 0 I (xm_zr J 77 0) R) (hflags : l.flags = flags0) {L : Nat} {xs : Nat → Int32} (hL : L ≤ 3072) (C0 : lw_At p s m meth c sb L xs) : W p l e room_1 s m #[Value.ref sb] below meth c s.heap [] 0 0 (lw_Z below #[Value.ref sb] s) (entryFrame m ([Value.ref sb] : List Value).toArray 7) := by
  obtain ⟨hx, hb, hr, hml, hown, hts, hX, hbl, hlocks, hgv⟩ := id C0
  obtain ⟨D, G, hK⟩ := xm_K0 hts
  obtain ⟨I1, J1, R1, I2, J2, R2, hd1, hd2, hck⟩ := xm_boot
  have hl := lv_entry ([.ref sb]) (n := 7) (Nat.le_of_ble_eq_true rfl)
  rw [lg_entry_eq]
  generalize (lg_sl ([.ref sb]) ++ List.replicate (7 - (lg_sl ([.ref sb])).length) Slot.unset).toArray = ls at hl ⊢
  have hl : lv_has ls 7 [(0, .ref sb)] := hl
  have hS0 : va_S (fun a => s.heap.size ≤ a) s.heap s.heap [] := va_S.rf
  have hP0 : va_P D xm_cls (xm_ws G s.heap.size [] (fun _ _ => 0) (fun _ _ => 0) (fun _ _ => none)) s.heap := fun k q h => by simp [xm_ws] at h
  refine law_new (ci := 11) (lay := []) (p1 := 1021) (p2 := 1022) (p3 := 1001) hx hb hown hts hK (by omega) (by decide +kernel) (by decide +kernel) (by decide +kernel) (by decide +kernel : decode code 0 = .ok (.new 8, 3)) hP0 hS0 rfl (by omega) (by decide +kernel) fun H hP hS => ?_
  have hP : va_P D xm_cls (xm_ws G s.heap.size [(11, 17)] (xm_zr (fun _ _ => 0) 0 0) (xm_zr (fun _ _ => 0) 0 0) (xm_zr (fun _ _ => none) 0 none)) H := hP
  refine W.widen (k := 1) (n := 17) (by omega) (by decide +kernel) ?_
  refine lv_dup hx hb (by decide +kernel : decode code 3 = .ok (.dup, 1)) rfl ?_
  refine law_sz hP (by decide) (by decide) fun hz => ?_
  refine law_init (a := 0) (q' := q_X11_init) (lay' := xm_lc) (mc := 48) (ms := 5032) (p1 := 1023) (p2 := 1024) hx hb hml hown hts hK k_X11_init (Nat.le_of_ble_eq_true rfl) hd1 (by decide +kernel) (by decide +kernel) (by decide +kernel) (by decide +kernel) (by decide +kernel) (by decide +kernel) (by decide +kernel) (by decide +kernel : decode code 4 = .ok (.invokespecial 15, 3)) hP hS hz hl.1 (Nat.le_of_ble_eq_true rfl) (by omega) (by omega) fun H locs hP hS => ?_
  refine lv_astore_n (lv' := [(1, .ref (s.heap.size + 0)), (0, .ref sb)]) hx hb (by decide +kernel : decode code 7 = .ok (.astore_n 1, 1)) rfl hl (by decide) rfl (fun ls hl => ?_)
  refine W.widen (k := 49) (n := 5049) (by omega) (by omega) ?_
  refine law_sz hP (by decide +kernel) (by decide +kernel) fun hz => ?_
  refine law_new (ci := 12) (lay := xm_lc) (p1 := 5223) (p2 := 5224) (p3 := 1013) hx hb hown hts hK (by omega) (by decide +kernel) (by decide +kernel) (by decide +kernel) (by decide +kernel : decode code 8 = .ok (.new 16, 3)) hP hS hz (by omega) (by decide +kernel) fun H hP hS => ?_
  have hP : va_P D xm_cls (xm_ws G s.heap.size (xm_lc ++ [(12, 51)]) (xm_zr I1 49 0) (xm_zr J1 49 0) (xm_zr R1 49 none)) H := hP
  refine W.widen (k := 50) (n := 5100) (by omega) (by decide +kernel) ?_
  refine lv_dup hx hb (by decide +kernel : decode code 11 = .ok (.dup, 1)) rfl ?_
  refine law_sz hP (by decide +kernel) (by decide +kernel) fun hz => ?_
  refine law_init (a := 49) (q' := q_X12_init) (lay' := xm_lc ++ xm_lm) (mc := 27) (ms := 16857) (p1 := 5225) (p2 := 5226) hx hb hml hown hts hK k_X12_init (Nat.le_of_ble_eq_true rfl) hd2 (by decide +kernel) (by decide +kernel) (by decide +kernel) (by decide +kernel) (by decide +kernel) (by decide +kernel) (by decide +kernel) (by decide +kernel : decode code 12 = .ok (.invokespecial 18, 3)) hP hS hz hl.1 (Nat.le_of_ble_eq_true rfl) (by omega) (by omega) fun H locs hP hS => ?_
  refine lv_astore_n (lv' := [(2, .ref (s.heap.size + 49)), (1, .ref (s.heap.size + 0)), (0, .ref sb)]) hx hb (by decide +kernel : decode code 15 = .ok (.astore_n 2, 1)) rfl hl (by decide) rfl (fun ls hl => ?_)
  refine W.widen (k := 77) (n := 21957) (by omega) (by omega) ?_
  refine law_sz hP (by decide +kernel) (by decide +kernel) fun hz => ?_
  have hz : H.size = s.heap.size + 77 := hz
  refine lv_iconst (v := 1) hx hb (by decide +kernel : decode code 16 = .ok (.iconst 1, 1)) (by decide) ?_
  refine va_newaK (N := 1) (atype := .long) hx hb (hts _ (xm_wd_in xm_arr_ok.2.1)) rfl (by decide +kernel : decode code 17 = .ok (.newarray .long, 2)) rfl (by decide) (by decide) (by decide) (Nat.le_of_ble_eq_true rfl) (Nat.le_of_ble_eq_true rfl) hz fun H1 cA f1 f2 f3 f4 f5 => ?_
  have hcA : cA = G.2.1 := by
    have this : s.vm.findClass ("[" ++ FieldType.long.toString) = some G.2.1 := (hK.1.2 1 _ rfl).2
    exact Option.some.inj (f5.symm.trans this)
  have hP1 : va_P D xm_cls (xm_ws G s.heap.size xm_la.2 I2 (xm_zr J2 77 0) R2) H1 := by
    show va_P D xm_cls (xm_ws G s.heap.size ((xm_lc ++ xm_lm) ++ [(101, 1)]) I2 (xm_zr J2 77 0) R2) H1
    rw [xm_ws_push (I := I2) (J := J2) (R := R2) (fun a' q' => ⟨rfl, xm_zr_ne (show a' ≠ 77 from fun z => q' (z.trans (by decide +kernel))), rfl⟩)]
    refine (hP.kept fun k x hx => f3 x.1 (by have := (hP k x hx).lt; omega)).app fun k x hx => ?_
    have hk : k < 1 := (List.getElem?_eq_some_iff.mp hx).1
    rw [show k = 0 by omega] at hx
    cases hx
    show H1[s.heap.size + 77]? = some (vp_cell G.2.1 (1, .inr (.inl (xm_zr J2 77 0 77))))
    rw [f1, hcA, xm_zr_at]; rfl
  have hS1 : va_S (fun a => s.heap.size ≤ a) s.heap H1 locs := ⟨Nat.le_trans hS.1 (by omega), fun q a1 a2 => (f3 q (by have := hS.1; omega)).trans (hS.2.1 q a1 a2), hS.2.2⟩
  refine lv_astore_n (lv' := [(3, .ref (s.heap.size + 77)), (2, .ref (s.heap.size + 49)), (1, .ref (s.heap.size + 0)), (0, .ref sb)]) hx hb (by decide +kernel : decode code 19 = .ok (.astore_n 3, 1)) rfl hl (by decide) rfl (fun ls hl => ?_)
  refine lv_iconst (v := 0) hx hb (by decide +kernel : decode code 20 = .ok (.iconst 0, 1)) (by decide) ?_
  refine lv_istore (lv' := [(4, .int 0), (3, .ref (s.heap.size + 77)), (2, .ref (s.heap.size + 49)), (1, .ref (s.heap.size + 0)), (0, .ref sb)]) hx hb (by decide +kernel : decode code 21 = .ok (.istore 4, 2)) hl (by decide) rfl (fun ls hl => ?_)
  exact law_loop hall hat hmono hflags ⟨C0, hK, hL⟩ (L + 1) 0 (by omega) (by omega) I2 (xm_zr J2 77 0) R2 H1 locs ls _ _ (hinit _ _ _ hck) ⟨hP1, hS1, lv_sub hl [4, 3, 2, 1, 0] rfl⟩ (by omega) (by omega)
end LAWS
