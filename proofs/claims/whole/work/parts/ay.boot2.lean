/-! the start once more, with more said of it: written by wip/whole/gen_boot2.py -/
/-- the same check, and some arrays' beginnings are zero -/
def xk_ck (I : xm_I) (J : xm_J) (R : xm_R) : Bool := xm_ck I J R && decide (I 10 0 = 0 ∧ I 10 1 = 0 ∧ I 10 2 = 0 ∧ I 10 3 = 0 ∧ I 10 4 = 0 ∧ I 33 0 = 0 ∧ I 34 1 = 0 ∧ I 35 1 = 0)
def xk_b2 (r : xm_O) : Bool := match r with
  | some (none, lay, I, J, R) => decide (lay = (true, xm_lc ++ xm_lm)) && xk_ck I J R
  | _ => false
def xk_b1 (r : xm_O) : Bool := match r with
  | some (none, lay, I, J, R) => decide (lay = (true, xm_lc)) && xk_b2 (xb_r2 I J R)
  | _ => false
set_option maxRecDepth 100000 in
theorem xk_boot_ok : xk_b1 xb_r1 = true := by decide +kernel
set_option maxRecDepth 100000 in
theorem xk_boot : ∃ (I1 : xm_I) (J1 : xm_J) (R1 : xm_R) (I2 : xm_I) (J2 : xm_J) (R2 : xm_R),
    xm_den 8 m_X11_init 0 (xm_en (xm_nl m_X11_init) [.ref 0]) [] (true, [(11, 17)]) (xm_zr (fun _ _ => 0) 0 0) (xm_zr (fun _ _ => 0) 0 0) (xm_zr (fun _ _ => none) 0 none) = some (none, (true, xm_lc), I1, J1, R1) ∧
    xm_den 8 m_X12_init 0 (xm_en (xm_nl m_X12_init) [.ref 49]) [] (true, xm_lc ++ [(12, 51)]) (xm_zr I1 49 0) (xm_zr J1 49 0) (xm_zr R1 49 none) = some (none, (true, xm_lc ++ xm_lm), I2, J2, R2) ∧ xk_ck I2 J2 R2 = true := by
  have h := xk_boot_ok
  unfold xk_b1 at h
  split at h
  · rename_i lay I1 J1 R1 h1
    simp only [Bool.and_eq_true, decide_eq_true_eq] at h
    obtain ⟨rfl, h⟩ := h
    unfold xk_b2 at h
    split at h
    · rename_i lay2 I2 J2 R2 h2
      simp only [Bool.and_eq_true, decide_eq_true_eq] at h
      obtain ⟨rfl, h⟩ := h
      exact ⟨I1, J1, R1, I2, J2, R2, xm_den_iff.mpr ⟨4000, h1⟩, xm_den_iff.mpr ⟨4000, h2⟩, h⟩
    · cases h
  · cases h
section LAWS2
variable {p : Program} {l : Launch} {e : Env} {s : State} {m : MethodId} {below : List Frame} {meth : Method} {c : Code} {D : va_G} {G : xm_G} {sb : Nat} {I I' : xm_I} {J J' : xm_J} {R R' : xm_R} {H : Heap} {locs : List Loc} {cells slots : Nat} {ls : Array Slot} {Q : State → Prop} {st : List Value}
set_option maxHeartbeats 4000000 in
set_option maxRecDepth 20000 in
theorem start_open2 {Inv : Nat → xm_I → xm_J → xm_R → Prop} (hall : xo_all Inv) (hat : xo_at Inv) (hmono : ∀ (i : Nat) (I : xm_I) (J : xm_J) (R : xm_R), Inv i I J R → Inv (i + 6) I J R) (hinit : ∀ I J R, xk_ck I J R = true → Inv 0 I (xm_zr J 77 0) R) (hflags : l.flags = flags0) {L : Nat} {xs : Nat → Int32} (hL : L ≤ 3072) (C0 : lw_At p s m meth c sb L xs) : W p l e room_1 s m #[Value.ref sb] below meth c s.heap [] 0 0 (lw_Z below #[Value.ref sb] s) (entryFrame m ([Value.ref sb] : List Value).toArray 7) := by
  obtain ⟨hx, hb, hr, hml, hown, hts, hX, hbl, hlocks, hgv⟩ := id C0
  obtain ⟨D, G, hK⟩ := xm_K0 hts
  obtain ⟨I1, J1, R1, I2, J2, R2, hd1, hd2, hck⟩ := xk_boot
  have hl := lv_entry ([.ref sb]) (n := 7) (Nat.le_of_ble_eq_true rfl)
  rw [lg_entry_eq]
  generalize (lg_sl ([.ref sb]) ++ List.replicate (7 - (lg_sl ([.ref sb])).length) Slot.unset).toArray = ls at hl ⊢
  have hl : lv_has ls 7 [(0, .ref sb)] := hl
  have hS0 : va_S (fun a => s.heap.size ≤ a) s.heap s.heap [] := va_S.rf
  have hP0 : va_P D xm_cls (xm_ws G s.heap.size [] (fun _ _ => 0) (fun _ _ => 0) (fun _ _ => none)) s.heap := fun k q h => by simp [xm_ws] at h
  refine law_new (ci := 11) (lay := []) (p1 := 1021) (p2 := 1022) (p3 := 1001) hx hb hown hts hK (by omega) (by decide +kernel) (by decide +kernel) (by decide +kernel) (by decide +kernel : decode code 0 = .ok (.new 8, 3)) hP0 hS0 rfl (by omega) (by decide +kernel) fun H hP hS => ?_
  have hP : va_P D xm_cls (xm_ws G s.heap.size [(11, 17)] (xm_zr (fun _ _ => 0) 0 0) (xm_zr (fun _ _ => 0) 0 0) (xm_zr (fun _ _ => none) 0 none)) H := hP
  refine W.widen (k := 1) (n := 17) (by omega) (by decide +kernel) ?_
  refine lv_dup hx hb (by decide +kernel : decode code 3 = .ok (.dup, 1)) rfl ?_
  refine law_sz hP (by decide) (by decide) fun hz => ?_
  refine law_init (a := 0) (q' := q_X11_init) (lay' := xm_lc) (mc := 48) (ms := 5032) (p1 := 1023) (p2 := 1024) hx hb hml hown hts hK k_X11_init (Nat.le_of_ble_eq_true rfl) hd1 (by decide +kernel) (by decide +kernel) (by decide +kernel) (by decide +kernel) (by decide +kernel) (by decide +kernel) (by decide +kernel) (by decide +kernel : decode code 4 = .ok (.invokespecial 15, 3)) hP hS hz hl.1 (Nat.le_of_ble_eq_true rfl) (by omega) (by omega) fun H locs hP hS => ?_
  refine lv_astore_n (lv' := [(1, .ref (s.heap.size + 0)), (0, .ref sb)]) hx hb (by decide +kernel : decode code 7 = .ok (.astore_n 1, 1)) rfl hl (by decide) rfl (fun ls hl => ?_)
  refine W.widen (k := 49) (n := 5049) (by omega) (by omega) ?_
  refine law_sz hP (by decide +kernel) (by decide +kernel) fun hz => ?_
  refine law_new (ci := 12) (lay := xm_lc) (p1 := 5223) (p2 := 5224) (p3 := 1013) hx hb hown hts hK (by omega) (by decide +kernel) (by decide +kernel) (by decide +kernel) (by decide +kernel : decode code 8 = .ok (.new 16, 3)) hP hS hz (by omega) (by decide +kernel) fun H hP hS => ?_
  have hP : va_P D xm_cls (xm_ws G s.heap.size (xm_lc ++ [(12, 51)]) (xm_zr I1 49 0) (xm_zr J1 49 0) (xm_zr R1 49 none)) H := hP
  refine W.widen (k := 50) (n := 5100) (by omega) (by decide +kernel) ?_
  refine lv_dup hx hb (by decide +kernel : decode code 11 = .ok (.dup, 1)) rfl ?_
  refine law_sz hP (by decide +kernel) (by decide +kernel) fun hz => ?_
  refine law_init (a := 49) (q' := q_X12_init) (lay' := xm_lc ++ xm_lm) (mc := 27) (ms := 16857) (p1 := 5225) (p2 := 5226) hx hb hml hown hts hK k_X12_init (Nat.le_of_ble_eq_true rfl) hd2 (by decide +kernel) (by decide +kernel) (by decide +kernel) (by decide +kernel) (by decide +kernel) (by decide +kernel) (by decide +kernel) (by decide +kernel : decode code 12 = .ok (.invokespecial 18, 3)) hP hS hz hl.1 (Nat.le_of_ble_eq_true rfl) (by omega) (by omega) fun H locs hP hS => ?_
  refine lv_astore_n (lv' := [(2, .ref (s.heap.size + 49)), (1, .ref (s.heap.size + 0)), (0, .ref sb)]) hx hb (by decide +kernel : decode code 15 = .ok (.astore_n 2, 1)) rfl hl (by decide) rfl (fun ls hl => ?_)
  refine W.widen (k := 77) (n := 21957) (by omega) (by omega) ?_
  refine law_sz hP (by decide +kernel) (by decide +kernel) fun hz => ?_
  have hz : H.size = s.heap.size + 77 := hz
  refine lv_iconst (v := 1) hx hb (by decide +kernel : decode code 16 = .ok (.iconst 1, 1)) (by decide) ?_
  refine va_newaK (N := 1) (atype := .long) hx hb (hts _ (xm_wd_in xm_arr_ok.2.1)) rfl (by decide +kernel : decode code 17 = .ok (.newarray .long, 2)) rfl (by decide) (by decide) (by decide) (Nat.le_of_ble_eq_true rfl) (Nat.le_of_ble_eq_true rfl) hz fun H1 cA f1 f2 f3 f4 f5 => ?_
  have hcA : cA = G.2.1 := by
    have this : s.vm.findClass ("[" ++ FieldType.long.toString) = some G.2.1 := (hK.1.2 1 _ rfl).2
    exact Option.some.inj (f5.symm.trans this)
  have hP1 : va_P D xm_cls (xm_ws G s.heap.size xm_la.2 I2 (xm_zr J2 77 0) R2) H1 := by
    show va_P D xm_cls (xm_ws G s.heap.size ((xm_lc ++ xm_lm) ++ [(101, 1)]) I2 (xm_zr J2 77 0) R2) H1
    rw [xm_ws_push (I := I2) (J := J2) (R := R2) (fun a' q' => ⟨rfl, xm_zr_ne (show a' ≠ 77 from fun z => q' (z.trans (by decide +kernel))), rfl⟩)]
    refine (hP.kept fun k x hx => f3 x.1 (by have := (hP k x hx).lt; omega)).app fun k x hx => ?_
    have hk : k < 1 := (List.getElem?_eq_some_iff.mp hx).1
    rw [show k = 0 by omega] at hx
    cases hx
    show H1[s.heap.size + 77]? = some (vp_cell G.2.1 (1, .inr (.inl (xm_zr J2 77 0 77))))
    rw [f1, hcA, xm_zr_at]; rfl
  have hS1 : va_S (fun a => s.heap.size ≤ a) s.heap H1 locs := ⟨Nat.le_trans hS.1 (by omega), fun q a1 a2 => (f3 q (by have := hS.1; omega)).trans (hS.2.1 q a1 a2), hS.2.2⟩
  refine lv_astore_n (lv' := [(3, .ref (s.heap.size + 77)), (2, .ref (s.heap.size + 49)), (1, .ref (s.heap.size + 0)), (0, .ref sb)]) hx hb (by decide +kernel : decode code 19 = .ok (.astore_n 3, 1)) rfl hl (by decide) rfl (fun ls hl => ?_)
  refine lv_iconst (v := 0) hx hb (by decide +kernel : decode code 20 = .ok (.iconst 0, 1)) (by decide) ?_
  refine lv_istore (lv' := [(4, .int 0), (3, .ref (s.heap.size + 77)), (2, .ref (s.heap.size + 49)), (1, .ref (s.heap.size + 0)), (0, .ref sb)]) hx hb (by decide +kernel : decode code 21 = .ok (.istore 4, 2)) hl (by decide) rfl (fun ls hl => ?_)
  exact law_loop hall hat hmono hflags ⟨C0, hK, hL⟩ (L + 1) 0 (by omega) (by omega) I2 (xm_zr J2 77 0) R2 H1 locs ls _ _ (hinit _ _ _ hck) ⟨hP1, hS1, lv_sub hl [4, 3, 2, 1, 0] rfl⟩ (by omega) (by omega)
end LAWS2
