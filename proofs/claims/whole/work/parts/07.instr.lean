/-! the instructions, one by one: written by wip/whole/gen_instr.py -/
section XMI2
variable {p : Program} {l : Launch} {e : Env} {Rm : Room} {s : State} {m : MethodId} {args : Array Value} {below : List Frame} {meth : Method} {c : Code} {D : va_G} {G : xm_G} {b d : Nat} {q : xm_q}
variable {n pc : Nat} {L : xm_V} {st : List Value} {lay : xm_L} {I : xm_I} {J : xm_J} {R : xm_R} {nx : xm_N}
theorem xm_i_ldi {i k : Nat} (row : ∀ {H : Heap} {locs : List Loc} {cells slots : Nat} {Q : State → Prop} {ls : Array Slot} {x : Int32}, n = k → ls[i]? = some (.val (.int x)) → W p l e Rm s m args below meth c H locs cells slots Q (F0 m (pc + k) ls (.int x :: st.map (xm_cv b))) → W p l e Rm s m args below meth c H locs cells slots Q (F0 m pc ls (st.map (xm_cv b))))
    (h : xm_ldi n pc L st lay I J R k i = some (.inl nx)) : xm_ok p l e Rm s m args below meth c D G b q.2.2.2.1 pc L st lay I J R nx := by
  unfold xm_ldi at h
  split at h
  · rename_i x hl
    obtain ⟨e1, rfl⟩ := xm_go_inv h
    exact xm_pu fun hs _ _ kk => row e1 (hs.2.2.1.2.2.2 _ _ hl) kk
  · cases h
theorem xm_i_ldl {i k : Nat} (row : ∀ {H : Heap} {locs : List Loc} {cells slots : Nat} {Q : State → Prop} {ls : Array Slot} {x : Int64}, n = k → ls[i]? = some (.val (.long x)) → W p l e Rm s m args below meth c H locs cells slots Q (F0 m (pc + k) ls (.long x :: st.map (xm_cv b))) → W p l e Rm s m args below meth c H locs cells slots Q (F0 m pc ls (st.map (xm_cv b))))
    (h : xm_ldl n pc L st lay I J R k i = some (.inl nx)) : xm_ok p l e Rm s m args below meth c D G b q.2.2.2.1 pc L st lay I J R nx := by
  unfold xm_ldl at h
  split at h
  · rename_i x hl
    obtain ⟨e1, rfl⟩ := xm_go_inv h
    exact xm_pu fun hs _ _ kk => row e1 (hs.2.2.1.2.2.2 _ _ hl) kk
  · cases h
theorem xm_i_lda {i k : Nat} (row : ∀ {H : Heap} {locs : List Loc} {cells slots : Nat} {Q : State → Prop} {ls : Array Slot} {x : Nat}, n = k → ls[i]? = some (.val (.ref x)) → W p l e Rm s m args below meth c H locs cells slots Q (F0 m (pc + k) ls (.ref x :: st.map (xm_cv b))) → W p l e Rm s m args below meth c H locs cells slots Q (F0 m pc ls (st.map (xm_cv b))))
    (rowN : ∀ {H : Heap} {locs : List Loc} {cells slots : Nat} {Q : State → Prop} {ls : Array Slot}, n = k → ls[i]? = some (.val .null) → W p l e Rm s m args below meth c H locs cells slots Q (F0 m (pc + k) ls (.null :: st.map (xm_cv b))) → W p l e Rm s m args below meth c H locs cells slots Q (F0 m pc ls (st.map (xm_cv b))))
    (h : xm_lda n pc L st lay I J R k i = some (.inl nx)) : xm_ok p l e Rm s m args below meth c D G b q.2.2.2.1 pc L st lay I J R nx := by
  unfold xm_lda at h
  split at h
  · rename_i x hl
    obtain ⟨e1, rfl⟩ := xm_go_inv h
    exact xm_pu fun hs _ _ kk => row e1 (hs.2.2.1.2.2.2 _ _ hl) kk
  · rename_i hl
    obtain ⟨e1, rfl⟩ := xm_go_inv h
    exact xm_pu fun hs _ _ kk => rowN e1 (hs.2.2.1.2.2.2 _ _ hl) kk
  · cases h
theorem xm_i_sti {i k : Nat} (row : ∀ {H : Heap} {locs : List Loc} {cells slots : Nat} {Q : State → Prop} {ls : Array Slot} {x : Int32} {r : List Value} {lv : List (Nat × Value)}, n = k → lv_has ls q.2.2.2.1 lv → i < q.2.2.2.1 →
      (∀ ls' : Array Slot, lv_has ls' q.2.2.2.1 ((i, Value.int x) :: lv.filter (fun q => !(q.1 == i) && !(q.1 + 1 == i && q.2.category == 2))) → W p l e Rm s m args below meth c H locs cells slots Q (F0 m (pc + k) ls' r)) → W p l e Rm s m args below meth c H locs cells slots Q (F0 m pc ls (.int x :: r)))
    (h : xm_sti n pc L st lay I J R k i = some (.inl nx)) : xm_ok p l e Rm s m args below meth c D G b q.2.2.2.1 pc L st lay I J R nx := by
  unfold xm_sti at h
  split at h
  · obtain ⟨hi, h⟩ := xm_if_inv h
    obtain ⟨e1, rfl⟩ := xm_go_inv h
    exact xm_pl fun hs kk => row e1 hs.2.2.1.has (by rw [← hs.2.2.1.1]; exact hi) fun ls' h' => kk ls' (xm_lr_st hs.2.2.1.1 h')
  · cases h
theorem xm_i_stl {i k : Nat} (row : ∀ {H : Heap} {locs : List Loc} {cells slots : Nat} {Q : State → Prop} {ls : Array Slot} {x : Int64} {r : List Value} {lv : List (Nat × Value)}, n = k → lv_has ls q.2.2.2.1 lv → i + 1 < q.2.2.2.1 →
      (∀ ls' : Array Slot, lv_has ls' q.2.2.2.1 ((i, Value.long x) :: lv.filter (fun q => !(q.1 == i) && (!(q.1 == i + 1) && !(q.1 + 1 == i && q.2.category == 2)))) → W p l e Rm s m args below meth c H locs cells slots Q (F0 m (pc + k) ls' r)) → W p l e Rm s m args below meth c H locs cells slots Q (F0 m pc ls (.long x :: r)))
    (h : xm_stl n pc L st lay I J R k i = some (.inl nx)) : xm_ok p l e Rm s m args below meth c D G b q.2.2.2.1 pc L st lay I J R nx := by
  unfold xm_stl at h
  split at h
  · obtain ⟨hi, h⟩ := xm_if_inv h
    obtain ⟨e1, rfl⟩ := xm_go_inv h
    exact xm_pl fun hs kk => row e1 hs.2.2.1.has (by rw [← hs.2.2.1.1]; exact hi) fun ls' h' => kk ls' (xm_lr_st2 hs.2.2.1.1 h')
  · cases h
theorem xm_i_sta {i k : Nat} (row : ∀ {H : Heap} {locs : List Loc} {cells slots : Nat} {Q : State → Prop} {ls : Array Slot} {x : Nat} {r : List Value} {lv : List (Nat × Value)}, n = k → lv_has ls q.2.2.2.1 lv → i < q.2.2.2.1 →
      (∀ ls' : Array Slot, lv_has ls' q.2.2.2.1 ((i, Value.ref x) :: lv.filter (fun q => !(q.1 == i) && !(q.1 + 1 == i && q.2.category == 2))) → W p l e Rm s m args below meth c H locs cells slots Q (F0 m (pc + k) ls' r)) → W p l e Rm s m args below meth c H locs cells slots Q (F0 m pc ls (.ref x :: r)))
    (rowN : ∀ {H : Heap} {locs : List Loc} {cells slots : Nat} {Q : State → Prop} {ls : Array Slot} {r : List Value} {lv : List (Nat × Value)}, n = k → lv_has ls q.2.2.2.1 lv → i < q.2.2.2.1 →
      (∀ ls' : Array Slot, lv_has ls' q.2.2.2.1 ((i, Value.null) :: lv.filter (fun q => !(q.1 == i) && !(q.1 + 1 == i && q.2.category == 2))) → W p l e Rm s m args below meth c H locs cells slots Q (F0 m (pc + k) ls' r)) → W p l e Rm s m args below meth c H locs cells slots Q (F0 m pc ls (.null :: r)))
    (h : xm_sta n pc L st lay I J R k i = some (.inl nx)) : xm_ok p l e Rm s m args below meth c D G b q.2.2.2.1 pc L st lay I J R nx := by
  unfold xm_sta at h
  split at h
  · obtain ⟨hi, h⟩ := xm_if_inv h
    obtain ⟨e1, rfl⟩ := xm_go_inv h
    exact xm_pl fun hs kk => row e1 hs.2.2.1.has (by rw [← hs.2.2.1.1]; exact hi) fun ls' h' => kk ls' (xm_lr_st (v := .ref _) hs.2.2.1.1 h')
  · obtain ⟨hi, h⟩ := xm_if_inv h
    obtain ⟨e1, rfl⟩ := xm_go_inv h
    exact xm_pl fun hs kk => rowN e1 hs.2.2.1.has (by rw [← hs.2.2.1.1]; exact hi) fun ls' h' => kk ls' (xm_lr_st (v := .null) hs.2.2.1.1 h')
  · cases h
theorem xm_i_inc {i : Nat} {z : Int} (C : xm_at p Rm s m args meth c D G b d q) (hd : decode q.2.2.1 pc = .ok (.iinc i z, n)) (h : xm_inc n pc L st lay I J R i z = some (.inl nx)) : xm_ok p l e Rm s m args below meth c D G b q.2.2.2.1 pc L st lay I J R nx := by
  unfold xm_inc at h
  split at h
  · rename_i x hl
    obtain ⟨rfl, rfl⟩ := xm_go_inv h
    refine xm_pl fun hs kk => ?_
    obtain ⟨k, hk⟩ := List.getElem?_of_mem (xm_pr_mem.mpr ⟨.int x, hl, rfl⟩ : (i, Value.int x) ∈ xm_pr b L)
    exact lv_iinc C.1 C.2.1 hd hs.2.2.1.has hk rfl (by rw [← hs.2.2.1.1]; exact (List.getElem?_eq_some_iff.mp hl).1) rfl fun ls' h' => kk ls' (xm_lr_st hs.2.2.1.1 h')
  · cases h
theorem xm_fok_inv {oc idx ci k nest pp : Nat} (h : xm_fok (oc, idx, ci, k, nest, pp) = true) : ci < 13 ∧ k < xm_nf ci ∧ ((nest = 0 ∧ Cond.fieldLink (xm_own oc) idx (xm_T ci k).1 (xm_T ci k).2.1 (xm_T ci k).2.2.1 ∈ xm_Ts) ∨ (¬ nest = 0 ∧ Cond.fieldLinkNest (xm_own oc) idx (xm_T ci k).1 (xm_T ci k).2.1 (xm_T ci k).2.2.1 "SlateSum" ∈ xm_Ns)) := by
  unfold xm_fok at h
  simp only [Bool.and_eq_true, decide_eq_true_eq] at h
  obtain ⟨⟨h1, h2⟩, h3⟩ := h
  refine ⟨h1, h2, ?_⟩
  by_cases e : nest = 0
  · rw [if_pos e] at h3; exact Or.inl ⟨e, xm_in_Ts (of_decide_eq_true h3) rfl⟩
  · rw [if_neg e] at h3; exact Or.inr ⟨e, xm_in_Ns (of_decide_eq_true h3) rfl⟩
theorem xm_i_get {idx : Nat} (C : xm_at p Rm s m args meth c D G b d q) (hd : decode q.2.2.1 pc = .ok (.getfield idx, n)) (h : xm_get q.1 n pc L st lay I J R idx = some (.inl nx)) : xm_ok p l e Rm s m args below meth c D G b q.2.2.2.1 pc L st lay I J R nx := by
  obtain ⟨hx, hb, hml, hown, hts, hK, hr, hlocks, hini, hfr, hlo, hbs⟩ := C
  unfold xm_get at h
  obtain ⟨a, r, rfl, h⟩ := xm_r1_inv h
  cases hf : xm_fl q.1 idx with
  | none => rw [hf] at h; cases h
  | some w =>
    obtain ⟨ci, k, nest⟩ := w
    rw [hf] at h
    obtain ⟨hl, h⟩ := xm_if_inv h
    obtain ⟨rfl, rfl⟩ := xm_go_inv h
    obtain ⟨pp, hrow⟩ := xm_fl_row hf
    obtain ⟨hci, hk, hw⟩ := xm_fok_inv hrow
    obtain ⟨⟨cn, T, N⟩, hc⟩ := xm_cls_get hci
    obtain ⟨e1, e2, e3, e4, e5, e6, e7⟩ := xm_cls_ok ci _ hc
    have e2 : N = xm_nf ci := e2
    have e3 : ∀ k, T k = xm_T ci k := e3
    refine xm_pu fun hs _ _ kk => ?_
    rcases hw with ⟨-, hw⟩ | ⟨-, hw⟩
    · exact va_get (D := D) hx hb hts e4 hown hK.1 hs.1 a (xm_obj_at hl hci) hc k (by rw [e2]; exact hk) (hts _ (show Cond.fieldLink (xm_own q.1) idx (T k).1 (T k).2.1 (T k).2.2.1 ∈ xm_Ts by rw [e3]; exact hw)) (fun _ z => z) (xm_fs_get hk) hd kk
    · exact va_getN (D := D) (host := "SlateSum") hx hb hts e4 hown hK.1 hs.1 a (xm_obj_at hl hci) hc k (by rw [e2]; exact hk) (va_Nw.use rfl (hK.2.1 _ (show Cond.fieldLinkNest (xm_own q.1) idx (T k).1 (T k).2.1 (T k).2.2.1 "SlateSum" ∈ xm_Ns by rw [e3]; exact hw))) (fun _ z => z) (xm_fs_get hk) hd kk
/-- a field written: the three kinds alike -/
theorem xm_i_put1 {idx ci k nest a : Nat} {v : Value} {r : List Value} {I' : xm_I} {J' : xm_J} {R' : xm_R} (C : xm_at p Rm s m args meth c D G b d q) (hd : decode q.2.2.1 pc = .ok (.putfield idx, 3)) (hf : xm_fl q.1 idx = some (ci, k, nest)) (hl : lay.2[a]? = some (ci, xm_nf ci)) (hfin : xm_fi ci k = false ∨ (nest = 0 ∧ xm_ise q = true ∧ ci = q.1))
    (hne : ∀ a', a' ≠ a → I' a' = I a' ∧ J' a' = J a' ∧ R' a' = R a') (hne2 : ∀ j, j ≠ k → I' a j = I a j ∧ J' a j = J a j ∧ R' a j = R a j) (hv : xm_cv b v = xm_val b (xm_ft ci k) (I' a k) (J' a k) (R' a k)) (hn : narrow (xm_ty ci k) (xm_cv b v) = xm_cv b v) (hfit : fits (xm_ty ci k) (xm_cv b v) = true) :
    xm_ok p l e Rm s m args below meth c D G b q.2.2.2.1 pc L (v :: .ref a :: r) lay I J R (pc + 3, L, r, lay, I', J', R') := by
  obtain ⟨hx, hb, hml, hown, hts, hK, hr, hlocks, hini, hfr, hlo, hbs⟩ := C
  obtain ⟨pp, hrow⟩ := xm_fl_row hf
  obtain ⟨hci, hk, hw⟩ := xm_fok_inv hrow
  obtain ⟨⟨cn, T, N⟩, hc⟩ := xm_cls_get hci
  obtain ⟨e1, e2, e3, e4, e5, e6, e7⟩ := xm_cls_ok ci _ hc
  have e2 : N = xm_nf ci := e2
  have e3 : ∀ k, T k = xm_T ci k := e3
  have hkN : k < N := by rw [e2]; exact hk
  have hset : xm_ws G b lay.2 I' J' R' = (xm_ws G b lay.2 I J R).set a (b + a, .inr (ci, ((List.range (xm_nf ci)).map (fun k => xm_val b (xm_ft ci k) (I a k) (J a k) (R a k))).set k (xm_cv b v))) := by
    rw [xm_ws_set hl hne, xm_set_fs hk hv hne2]
    unfold xm_cell
    rw [if_pos (show (ci, xm_nf ci).1 < 100 by show ci < 100; omega)]
  have hfi : (T k).2.2.2 = xm_fi ci k := by unfold xm_fi; rw [hc]; rfl
  refine xm_pm fun hs kk => ?_
  by_cases hfb : xm_fi ci k = false
  · rcases hw with ⟨-, hw⟩ | ⟨-, hw⟩
    · exact va_put (D := D) hx hb hts e4 (xm_ty ci) e5 e6 hown hK.1 hs.1 xm_ws_D hs.2.1 a (xm_obj_at hl hci) hc k hkN (hts _ (show Cond.fieldLink (xm_own q.1) idx (T k).1 (T k).2.1 (T k).2.2.1 ∈ xm_Ts by rw [e3]; exact hw)) (fun _ z => z) (by rw [hfi]; exact hfb) (e5 k hkN) hn hfit (by simpa using hk) hd fun H1 locs1 hP _ hS => kk H1 locs1 (by rw [hset]; exact hP) hS
    · exact va_putN (D := D) (host := "SlateSum") hx hb hts e4 (xm_ty ci) e5 e6 hown hK.1 hs.1 xm_ws_D hs.2.1 a (xm_obj_at hl hci) hc k hkN (va_Nw.use rfl (hK.2.1 _ (show Cond.fieldLinkNest (xm_own q.1) idx (T k).1 (T k).2.1 (T k).2.2.1 "SlateSum" ∈ xm_Ns by rw [e3]; exact hw))) (fun _ z => z) (by rw [hfi]; exact hfb) (e5 k hkN) hn hfit (by simpa using hk) hd fun H1 locs1 hP _ hS => kk H1 locs1 (by rw [hset]; exact hP) hS
  · have hft : xm_fi ci k = true := by cases hz : xm_fi ci k with
      | true => rfl
      | false => exact absurd hz hfb
    rcases hfin with z | ⟨z1, z2, z3⟩
    · exact absurd z hfb
    · rcases hw with ⟨-, hw⟩ | ⟨hw0, -⟩
      · exact va_putF (D := D) hx hb hts e4 (xm_ty ci) e5 e6 hown hK.1 hs.1 xm_ws_D hs.2.1 a (xm_obj_at hl hci) hc k hkN (hts _ (show Cond.fieldLink (xm_own q.1) idx (T k).1 (T k).2.1 (T k).2.2.1 ∈ xm_Ts by rw [e3]; exact hw)) (fun _ z => z) (by rw [hfi]; exact hft) (hini z2) (by rw [(e7 k hkN).1, z3]) (e5 k hkN) hn hfit (by simpa using hk) hd fun H1 locs1 hP _ hS => kk H1 locs1 (by rw [hset]; exact hP) hS
      · exact absurd z1 hw0
theorem xm_up_o {α : Type} {f : Nat → Nat → α} {o k j : Nat} {v : α} (h : j ≠ k) : xm_up f o k v o j = f o j := by simp [xm_up, h]
theorem xm_up_s {α : Type} {f : Nat → Nat → α} {o k : Nat} {v : α} : xm_up f o k v o k = v := by simp [xm_up]
theorem xm_bit {v : Int32} (h : v &&& 1 = v) : v = 0 ∨ v = 1 := by
  have h1 := congrArg Int32.toBitVec h
  rw [Int32.toBitVec_and] at h1
  have h2 := congrArg BitVec.toNat h1
  rw [BitVec.toNat_and] at h2
  have h3 : (1 : Int32).toBitVec.toNat = 1 := by decide
  rw [h3, Nat.and_one_is_mod] at h2
  have h4 : v.toBitVec.toNat = 0 ∨ v.toBitVec.toNat = 1 := by omega
  exact h4.imp (fun z => Int32.toBitVec_inj.mp (BitVec.eq_of_toNat_eq (z.trans (by decide)))) (fun z => Int32.toBitVec_inj.mp (BitVec.eq_of_toNat_eq (z.trans (by decide))))
theorem xm_i_put {idx : Nat} (C : xm_at p Rm s m args meth c D G b d q) (hd : decode q.2.2.1 pc = .ok (.putfield idx, n)) (h : xm_put q.1 (xm_ise q) n pc L st lay I J R idx = some (.inl nx)) : xm_ok p l e Rm s m args below meth c D G b q.2.2.2.1 pc L st lay I J R nx := by
  unfold xm_put at h
  split at h
  · rename_i ci k nest v a r hf
    obtain ⟨⟨hl, hfin⟩, h⟩ := xm_if_inv h
    obtain ⟨pp, hrow⟩ := xm_fl_row hf
    obtain ⟨hci, hk, hw⟩ := xm_fok_inv hrow
    obtain ⟨⟨cn, T, N⟩, hc⟩ := xm_cls_get hci
    obtain ⟨e1, e2, e3, e4, e5, e6, e7⟩ := xm_cls_ok ci _ hc
    have hkk := (e7 k (by rw [show N = xm_nf ci from e2]; exact hk)).2
    split at h
    · rename_i x ht _
      obtain ⟨hn, h⟩ := xm_if_inv h
      obtain ⟨rfl, rfl⟩ := xm_go_inv h
      rw [ht] at hkk
      exact xm_i_put1 C hd hf hl hfin (fun a' q' => ⟨xm_up_ne q', rfl, rfl⟩) (fun j q' => ⟨xm_up_o q', rfl, rfl⟩) (by rw [ht, xm_up_s]; rfl) hn (by
        generalize xm_ty ci k = ty at hkk hn ⊢
        cases ty with
        | int => rfl
        | boolean =>
          have h1 : Value.int (x &&& 1) = Value.int x := hn
          rcases xm_bit (Value.int.inj h1) with z | z <;> rw [z] <;> rfl
        | _ => cases hkk)
    · rename_i x ht _
      obtain ⟨rfl, rfl⟩ := xm_go_inv h
      rw [ht] at hkk
      refine xm_i_put1 C hd hf hl hfin (fun a' q' => ⟨rfl, xm_up_ne q', rfl⟩) (fun j q' => ⟨rfl, xm_up_o q', rfl⟩) (by rw [ht, xm_up_s]; rfl) ?_ ?_ <;>
      · generalize xm_ty ci k = ty at hkk ⊢
        cases ty <;> first | rfl | cases hkk
    · rename_i x ht _
      obtain ⟨rfl, rfl⟩ := xm_go_inv h
      rw [ht] at hkk
      refine xm_i_put1 C hd hf hl hfin (fun a' q' => ⟨rfl, rfl, xm_up_ne q'⟩) (fun j q' => ⟨rfl, rfl, xm_up_o q'⟩) (by rw [ht, xm_up_s]; rfl) ?_ ?_ <;>
      · generalize xm_ty ci k = ty at hkk ⊢
        cases ty <;> first | rfl | cases hkk
    · cases h
  · cases h
theorem xm_zz : True := trivial
theorem xm_ty_at {U : State} {k : Nat} {x : ClassId × FieldType} (h : ([(G.1, FieldType.int), (G.2.1, .long), (G.2.2, .object "SlateSum$Tape")] : List (ClassId × FieldType))[k]? = some x) : ([(G.1, FieldType.int), (G.2.1, .long), (G.2.2, .object "SlateSum$Tape")] : List (ClassId × FieldType))[k]? = some x := h
theorem xm_i_arr {i : Instr} (C : xm_at p Rm s m args meth c D G b d q) (hd : decode q.2.2.1 pc = .ok (i, n)) (h : xm_arr n pc L st lay I J R i = some (.inl nx)) : xm_ok p l e Rm s m args below meth c D G b q.2.2.2.1 pc L st lay I J R nx := by
  obtain ⟨hx, hb, hml, hown, hts, hK, hr, hlocks, hini, hfr, hlo, hbs⟩ := C
  unfold xm_arr at h
  split at h
  · obtain ⟨nn, hl, hin, h⟩ := xm_ar_inv h
    obtain ⟨rfl, rfl⟩ := xm_go_inv h
    exact xm_pu fun hs _ _ kk => va_iald (D := D) hx hb hK.1 hs.1 _ 0 (xm_arr_int hl) rfl hin hd kk
  · obtain ⟨nn, hl, hin, h⟩ := xm_ar_inv h
    obtain ⟨rfl, rfl⟩ := xm_go_inv h
    exact xm_pu fun hs _ _ kk => va_aldq (D := D) hx hb hK.1 hs.1 _ 2 (xm_arr_ref hl) rfl hin hd (by
      rw [List.map_cons, xm_cv_rf] at kk; exact kk)
  · rename_i x j a r
    obtain ⟨nn, hl, hin, h⟩ := xm_ar_inv h
    obtain ⟨rfl, rfl⟩ := xm_go_inv h
    refine xm_pm fun hs kk => ?_
    refine va_iast (D := D) hx hb hK.1 hs.1 xm_ws_D hs.2.1 a 0 (xm_arr_int hl) rfl hin hd fun H1 locs1 hP _ hS => kk H1 locs1 ?_ hS
    rw [xm_ws_set hl (fun a' q' => ⟨xm_up_ne q', rfl, rfl⟩)]
    have e1 : xm_cell G b (xm_up I a j.toNatClampNeg x) J R a (100, nn) = .inl (G.1, nn, .inl (upd (I a) j.toNatClampNeg x)) := by
      show Sum.inl (G.1, nn, Sum.inl (xm_up I a j.toNatClampNeg x a)) = _
      rw [xm_up_at]; rfl
    rw [e1]; exact hP
  · rename_i x j a r
    obtain ⟨hlx, h⟩ := xm_if_inv h
    obtain ⟨nn, hl, hin, h⟩ := xm_ar_inv h
    obtain ⟨rfl, rfl⟩ := xm_go_inv h
    refine xm_pm fun hs kk => ?_
    refine va_astq (D := D) (r := (R_10, T_10, 2)) hx hb hK.1 hs.1 xm_ws_D hs.2.1 a 2 x 10 (xm_arr_ref hl) rfl (xm_obj_at hlx (by decide)) rfl hin hd fun H1 locs1 hP _ hS => kk H1 locs1 ?_ hS
    rw [xm_ws_set hl (fun a' q' => ⟨rfl, rfl, xm_up_ne q'⟩)]
    have e1 : xm_cell G b I J (xm_up R a j.toNatClampNeg (some x)) a (102, nn) = .inl (G.2.2, nn, .inr (.inr (.inr (.inr (va_up (fun k => (R a k).map (b + ·)) j.toNatClampNeg (some (b + x))))))) := by
      show Sum.inl (G.2.2, nn, Sum.inr (Sum.inr (Sum.inr (Sum.inr (fun k => (xm_up R a j.toNatClampNeg (some x) a k).map (b + ·)))))) = _
      rw [xm_up_at]
      refine congrArg (fun f => (Sum.inl (G.2.2, nn, Sum.inr (Sum.inr (Sum.inr (Sum.inr f)))) : va_E)) (funext fun k => ?_)
      unfold va_up
      by_cases hk : k = j.toNatClampNeg
      · simp [hk]
      · simp [hk]
    rw [e1]; exact hP
  · rename_i a r
    split at h
    · rename_i w hl
      obtain ⟨⟨h1, h2⟩, h⟩ := xm_if_inv h
      obtain ⟨rfl, rfl⟩ := xm_go_inv h
      obtain ⟨w1, w2⟩ := w
      refine xm_pu fun hs _ _ kk => ?_
      have h1 : 100 ≤ w1 := h1
      have h2 : w1 ≤ 102 := h2
      rcases (show w1 = 100 ∨ w1 = 101 ∨ w1 = 102 by omega) with rfl | rfl | rfl
      · exact va_alen (D := D) hx hb hK.1 hs.1 a 0 (xm_ws_at hl) (ty := .int) rfl rfl hd kk
      · exact va_alen (D := D) hx hb hK.1 hs.1 a 1 (xm_ws_at hl) (ty := .long) rfl rfl hd kk
      · exact va_alen (D := D) hx hb hK.1 hs.1 a 2 (xm_ws_at hl) (ty := .object "SlateSum$Tape") rfl rfl hd kk
    · cases h
  · rename_i z r
    obtain ⟨⟨h1, h2, h3⟩, h⟩ := xm_if_inv h
    obtain ⟨rfl, rfl⟩ := xm_go_inv h
    refine xm_pn (ex := (100, z.toNatClampNeg)) hbs h1 (fun a' q' => ⟨xm_zr_ne q', rfl, rfl⟩) fun hs hz hc hsl kk => ?_
    refine va_newaK (atype := .int) hx hb (hts _ (xm_in_Ts xm_arr_ok.1 rfl)) rfl hd rfl h2 rfl (by show z.toNatClampNeg * 4 ≤ _; omega) hc hsl hz fun H1 cA f1 f2 f3 f4 f5 => ?_
    have hcA : cA = G.1 := by
      have := (hK.1.2 0 _ rfl).2
      have this : s.vm.findClass ("[" ++ FieldType.int.toString) = some G.1 := this
      exact Option.some.inj (f5.symm.trans this)
    refine kk H1 ?_ (by rw [f2, hz]) (fun q hq => f3 q (by omega))
    show H1[b + lay.2.length]? = some (vp_cell G.1 (z.toNatClampNeg, .inl (xm_zr I lay.2.length 0 lay.2.length)))
    rw [f1, hcA, xm_zr_at]; rfl
  · rename_i z r
    obtain ⟨⟨h1, h2, h3⟩, h⟩ := xm_if_inv h
    obtain ⟨rfl, rfl⟩ := xm_go_inv h
    refine xm_pn (ex := (101, z.toNatClampNeg)) hbs h1 (fun a' q' => ⟨rfl, xm_zr_ne q', rfl⟩) fun hs hz hc hsl kk => ?_
    refine va_newaK (atype := .long) hx hb (hts _ (xm_in_Ts xm_arr_ok.2.1 rfl)) rfl hd rfl h2 rfl (by show z.toNatClampNeg * 8 ≤ _; omega) hc hsl hz fun H1 cA f1 f2 f3 f4 f5 => ?_
    have hcA : cA = G.2.1 := by
      have := (hK.1.2 1 _ rfl).2
      have this : s.vm.findClass ("[" ++ FieldType.long.toString) = some G.2.1 := this
      exact Option.some.inj (f5.symm.trans this)
    refine kk H1 ?_ (by rw [f2, hz]) (fun q hq => f3 q (by omega))
    show H1[b + lay.2.length]? = some (vp_cell G.2.1 (z.toNatClampNeg, .inr (.inl (xm_zr J lay.2.length 0 lay.2.length))))
    rw [f1, hcA, xm_zr_at]; rfl
  · cases h
theorem xm_i_obj {i : Instr} (C : xm_at p Rm s m args meth c D G b d q) (hd : decode q.2.2.1 pc = .ok (i, n)) (h : xm_obj q.1 n pc L st lay I J R i = some (.inl nx)) : xm_ok p l e Rm s m args below meth c D G b q.2.2.2.1 pc L st lay I J R nx := by
  obtain ⟨hx, hb, hml, hown, hts, hK, hr, hlocks, hini, hfr, hlo, hbs⟩ := C
  unfold xm_obj at h
  split at h
  · rename_i idx
    cases hw : xm_nw q.1 idx with
    | none => rw [hw] at h; cases h
    | some ci =>
      rw [hw] at h
      obtain ⟨h1, h⟩ := xm_if_inv h
      obtain ⟨rfl, rfl⟩ := xm_go_inv h
      obtain ⟨hci, r1, r2, r3⟩ := xm_nw_row hw
      obtain ⟨⟨cn, T, N⟩, hc⟩ := xm_cls_get hci
      obtain ⟨e1, e2, e3, e4, e5, e6, e7⟩ := xm_cls_ok ci _ hc
      have e1 : cn = xm_own ci := e1
      have e2 : N = xm_nf ci := e2
      subst e1; subst e2
      refine xm_pn (ex := (ci, xm_nf ci)) hbs h1 (fun a' q' => ⟨xm_zr_ne q', xm_zr_ne q', xm_zr_ne q'⟩) fun hs hz hcl hsl kk => ?_
      have hKn := hK.1.1 ci _ hc
      refine W.newcK hx hb hown (hts _ r1) (hts _ r2) (hts _ r3) rfl hd hcl hsl hKn.2.1 hz fun H1 kC hkC f1 f2 f3 => ?_
      refine kk H1 ?_ (by rw [f2, hz]) (fun q hq => f3 q (by omega))
      have hcell : xm_cell G b (xm_zr I lay.2.length 0) (xm_zr J lay.2.length 0) (xm_zr R lay.2.length none) lay.2.length (ci, xm_nf ci) = .inr (ci, (List.range (xm_nf ci)).map (fun k => xm_val b (xm_ft ci k) 0 0 none)) := by
        unfold xm_cell
        rw [if_pos (show (ci, xm_nf ci).1 < 100 by show ci < 100; omega), xm_zr_at, xm_zr_at, xm_zr_at]
      rw [hcell]
      refine ⟨_, hc, (u_born (xm_ty ci) hts e4 hKn hkC f1 e5).to fun k hk => ?_⟩
      have hkk := (e7 k hk).2
      show defaultValue (xm_ty ci k) = vp_V _ k
      unfold vp_V
      rw [List.getD_eq_getElem?_getD, List.getElem?_map, List.getElem?_range hk]
      show _ = xm_val b (xm_ft ci k) 0 0 none
      generalize xm_ty ci k = ty at hkk ⊢
      generalize xm_ft ci k = t at hkk ⊢
      match t with
      | 0 => cases ty <;> first | rfl | cases hkk
      | 1 => cases ty <;> first | rfl | cases hkk
      | 2 => cases ty <;> first | rfl | cases hkk
      | t + 3 => cases ty <;> cases hkk
  · rename_i idx z r
    obtain ⟨⟨h0, h00, h1, h2, h3⟩, h⟩ := xm_if_inv h
    obtain ⟨rfl, rfl⟩ := xm_go_inv h
    subst h00
    have hown : s.vm.findClass "SlateSum" = some m.cls := by rw [h0] at hown; exact hown
    refine xm_pn (ex := (102, z.toNatClampNeg)) hbs h1 (fun a' q' => ⟨rfl, rfl, xm_zr_ne q'⟩) fun hs hz hc hsl kk => ?_
    refine W.anew hx hb hown (hts _ (xm_in_Ts xm_arr_ok.2.2.2 rfl)) (va_AO.use hK.2.2) rfl hd rfl h2 (by show z.toNatClampNeg * 4 ≤ _; omega) hc hsl fun cA kA comp f1 f2 f3 f4 => ?_
    have hcA : cA = G.2.2 := by
      have := (hK.1.2 2 _ rfl).2
      obtain ⟨kA', comp', g1, g2, g3, g4⟩ := this
      exact Option.some.inj (f1.symm.trans g4)
    rw [hz]
    refine kk _ ?_ (by simp) (fun q hq => by rw [Array.getElem?_push, if_neg (by omega)])
    show (_ : Heap)[b + lay.2.length]? = some (vp_cell G.2.2 (z.toNatClampNeg, .inr (.inr (.inr (.inr (fun k => (xm_zr R lay.2.length none lay.2.length k).map (b + ·)))))))
    rw [xm_zr_at, vp_cell_q, ← hz, Array.getElem?_push_size, hcA]
    exact congrArg some (arrV_new _ _ _)
  · cases h
end XMI2
