/-! THE RUN'S THEOREM: what the abstract machine comes to, the machine comes to -/
section XMMN
variable {d oc : Nat} {ret : Option FieldType} {ini : Bool} {n pc : Nat} {L L' : xm_V} {st : List Value} {lay lay' : xm_L} {I I' : xm_I} {J J' : xm_J} {R R' : xm_R} {nx : xm_N}
def xm_mn (lay : xm_L) (nx : xm_N) : Prop := xm_nc lay ≤ xm_nc nx.2.2.2.1 ∧ xm_ns lay ≤ xm_ns nx.2.2.2.1 ∧ nx.2.2.2.1.1 = lay.1
theorem xm_go_m {k : Nat} {st' : List Value} (h : xm_go n pc L' lay I' J' R' k st' = some (.inl nx)) : xm_mn lay nx := by
  obtain ⟨-, rfl⟩ := xm_go_inv h; exact ⟨Nat.le_refl _, Nat.le_refl _, rfl⟩
theorem xm_go_p {k : Nat} {st' : List Value} {ex : Nat × Nat} (hf : lay.1 = true) (h : xm_go n pc L' (true, lay.2 ++ [ex]) I' J' R' k st' = some (.inl nx)) : xm_mn lay nx := by
  obtain ⟨-, rfl⟩ := xm_go_inv h
  exact ⟨by show xm_nc lay ≤ xm_nc (true, lay.2 ++ [ex]); simp [xm_nc], by show xm_ns lay ≤ xm_ns (true, lay.2 ++ [ex]); simp [xm_ns], hf.symm⟩
theorem xm_to_m {off : Int} {bb : Bool} {st' : List Value} (h : xm_to n pc L lay I J R off bb st' = some (.inl nx)) : xm_mn lay nx := by
  obtain ⟨-, t, -, rfl⟩ := xm_to_inv h; exact ⟨Nat.le_refl _, Nat.le_refl _, rfl⟩
theorem xm_ldi_m {k i : Nat} (h : xm_ldi n pc L st lay I J R k i = some (.inl nx)) : xm_mn lay nx := by
  unfold xm_ldi at h; split at h
  · exact xm_go_m h
  · cases h
theorem xm_ldl_m {k i : Nat} (h : xm_ldl n pc L st lay I J R k i = some (.inl nx)) : xm_mn lay nx := by
  unfold xm_ldl at h; split at h
  · exact xm_go_m h
  · cases h
theorem xm_lda_m {k i : Nat} (h : xm_lda n pc L st lay I J R k i = some (.inl nx)) : xm_mn lay nx := by
  unfold xm_lda at h; split at h
  · exact xm_go_m h
  · exact xm_go_m h
  · cases h
theorem xm_sti_m {k i : Nat} (h : xm_sti n pc L st lay I J R k i = some (.inl nx)) : xm_mn lay nx := by
  unfold xm_sti at h; split at h
  · exact xm_go_m (xm_if_inv h).2
  · cases h
theorem xm_stl_m {k i : Nat} (h : xm_stl n pc L st lay I J R k i = some (.inl nx)) : xm_mn lay nx := by
  unfold xm_stl at h; split at h
  · exact xm_go_m (xm_if_inv h).2
  · cases h
theorem xm_sta_m {k i : Nat} (h : xm_sta n pc L st lay I J R k i = some (.inl nx)) : xm_mn lay nx := by
  unfold xm_sta at h; split at h
  · exact xm_go_m (xm_if_inv h).2
  · exact xm_go_m (xm_if_inv h).2
  · cases h
theorem xm_inc_m {i : Nat} {z : Int} (h : xm_inc n pc L st lay I J R i z = some (.inl nx)) : xm_mn lay nx := by
  unfold xm_inc at h; split at h
  · exact xm_go_m h
  · cases h
theorem xm_get_m {idx : Nat} (h : xm_get oc n pc L st lay I J R idx = some (.inl nx)) : xm_mn lay nx := by
  unfold xm_get at h
  obtain ⟨a, r, -, h⟩ := xm_r1_inv h
  split at h
  · exact xm_go_m (xm_if_inv h).2
  · cases h
theorem xm_put_m {idx : Nat} (h : xm_put oc ini n pc L st lay I J R idx = some (.inl nx)) : xm_mn lay nx := by
  unfold xm_put at h
  split at h
  · have h := (xm_if_inv h).2
    split at h
    · exact xm_go_m (xm_if_inv h).2
    · exact xm_go_m h
    · exact xm_go_m h
    · cases h
  · cases h
theorem xm_arr_m {i : Instr} (h : xm_arr n pc L st lay I J R i = some (.inl nx)) : xm_mn lay nx := by
  unfold xm_arr at h
  split at h
  · obtain ⟨_, _, _, h⟩ := xm_ar_inv h; exact xm_go_m h
  · obtain ⟨_, _, _, h⟩ := xm_ar_inv h; exact xm_go_m h
  · obtain ⟨_, _, _, h⟩ := xm_ar_inv h; exact xm_go_m h
  · obtain ⟨_, _, _, h⟩ := xm_ar_inv (xm_if_inv h).2; exact xm_go_m h
  · split at h
    · exact xm_go_m (xm_if_inv h).2
    · cases h
  · exact xm_go_p (xm_if_inv h).1.1 (xm_if_inv h).2
  · exact xm_go_p (xm_if_inv h).1.1 (xm_if_inv h).2
  · cases h
theorem xm_obj_m {i : Instr} (h : xm_obj oc n pc L st lay I J R i = some (.inl nx)) : xm_mn lay nx := by
  unfold xm_obj at h
  split at h
  · split at h
    · exact xm_go_p (xm_if_inv h).1 (xm_if_inv h).2
    · cases h
  · exact xm_go_p (xm_if_inv h).1.2.2.1 (xm_if_inv h).2
  · cases h
theorem xm_sw_m {t : Nat} {st' : List Value} (h : (some (Sum.inl (t, L, st', lay, I, J, R)) : xm_S) = some (.inl nx)) : xm_mn lay nx := by
  have e := xm_some h; subst e; exact ⟨Nat.le_refl _, Nat.le_refl _, rfl⟩
set_option maxHeartbeats 4000000 in
theorem xm_in_mn {i : Instr} (h : xm_in d oc ret ini n pc L st lay I J R i = some (.inl nx)) : xm_mn lay nx := by
  unfold xm_in at h
  split at h
  all_goals first
    | (cases h; done)
    | exact xm_go_m h
    | exact xm_ldi_m h
    | exact xm_ldl_m h
    | exact xm_lda_m h
    | exact xm_sti_m h
    | exact xm_stl_m h
    | exact xm_sta_m h
    | exact xm_inc_m h
    | exact xm_get_m h
    | exact xm_put_m h
    | exact xm_arr_m h
    | exact xm_obj_m h
    | exact xm_to_m h
    | (obtain ⟨_, _, _, -, h⟩ := xm_ii_inv h; first | exact xm_go_m h | exact xm_to_m h | exact xm_go_m (xm_ifn_inv h).2)
    | (obtain ⟨_, _, _, -, h⟩ := xm_ll_inv h; first | exact xm_go_m h | exact xm_go_m (xm_ifn_inv h).2)
    | (obtain ⟨_, _, _, -, h⟩ := xm_li_inv h; exact xm_go_m h)
    | (obtain ⟨_, _, -, h⟩ := xm_l1_inv h; exact xm_go_m h)
    | (obtain ⟨_, _, -, h⟩ := xm_i1_inv h; first | exact xm_go_m h | exact xm_to_m h | (split at h <;> first | (cases h; done) | (split at h <;> first | exact xm_sw_m h | cases h)) | (have h := (xm_if_inv h).2; split at h <;> first | exact xm_sw_m h | cases h))
    | (split at h <;> first | exact xm_go_m h | exact xm_go_m (xm_if_inv h).2 | exact xm_to_m h | cases h)
    | exact (xm_cal_no (q := (oc, ⟨"", "", ""⟩, ⟨#[]⟩, 0, none, 0, 0)) h).elim
    | exact (xm_ret_no h).elim
    | (unfold xm_spe at h; split at h
       · obtain ⟨_, _, -, h⟩ := xm_r1_inv h; exact xm_go_m (xm_if_inv h).2
       · exact (xm_cal_no (q := (oc, ⟨"", "", ""⟩, ⟨#[]⟩, 0, none, 0, 0)) h).elim)
    | (unfold xm_sta' at h; split at h
       · exact (xm_cal_no (q := (oc, ⟨"", "", ""⟩, ⟨#[]⟩, 0, none, 0, 0)) h).elim
       · obtain ⟨_, _, _, -, h⟩ := xm_ii_inv h; exact xm_go_m (xm_if_inv h).2
       · obtain ⟨_, _, _, -, h⟩ := xm_ii_inv h; exact xm_go_m (xm_if_inv h).2
       · obtain ⟨_, _, _, -, h⟩ := xm_ll_inv h; exact xm_go_m (xm_if_inv h).2
       · obtain ⟨_, _, _, -, h⟩ := xm_ll_inv h; exact xm_go_m (xm_if_inv h).2
       · cases h)
end XMMN
theorem xm_ret_nc {ret : Option FieldType} {n : Nat} {st : List Value} {i : Instr} {w : xm_C} (h : xm_ret ret n st i = some (.inr (.inr w))) : False := by
  unfold xm_ret at h
  split at h
  · obtain ⟨_, h⟩ := xm_if_inv h; cases h
  · split at h
    · obtain ⟨_, h⟩ := xm_if_inv h; cases h
    · cases h
  · obtain ⟨_, h⟩ := xm_if_inv h; cases h
  · split at h
    · obtain ⟨_, h⟩ := xm_if_inv h; cases h
    · cases h
  · cases h
section XMR2
variable {p : Program} {l : Launch} {e : Env} {Rm : Room} {s : State} {m : MethodId} {args : Array Value} {below : List Frame} {meth : Method} {c : Code} {D : va_G} {G : xm_G} {b d : Nat} {q : xm_q}
variable {n pc : Nat} {L : xm_V} {st : List Value} {lay : xm_L} {I : xm_I} {J : xm_J} {R : xm_R}
theorem xm_cok_inv {oc idx y k p1 p2 p3 : Nat} {q' : xm_q} (hq : xm_mts[y]? = some q') (h : xm_cok (oc, idx, y, k, p1, p2, p3) = true) :
    ((3 ≤ k → Cond.methodLinkNest (xm_own oc) idx q'.2.1 "SlateSum" ∈ xm_Ns) ∧ (k < 3 → Cond.methodLink (xm_own oc) idx q'.2.1 ∈ xm_Ts)) ∧
    (((k = 0 ∨ k = 3) → Cond.static q'.2.1 ∈ xm_Ts) ∧ (¬ (k = 0 ∨ k = 3) → Cond.instanceMethod q'.2.1 ∈ xm_Ts)) ∧ (k = 1 → Cond.selects q'.2.1.cls q'.2.1 q'.2.1 ∈ xm_Ts ∧ q'.1 < 13) ∧ ((k = 2 ∨ k = 5) → q'.2.1.name = "<init>" ∧ q'.2.2.2.2.1 = none) ∧ k < 6 ∧ ¬ k = 4 := by
  unfold xm_cok at h
  dsimp only at h
  rw [hq] at h
  simp only [Bool.and_eq_true] at h
  obtain ⟨⟨⟨⟨h1, h2⟩, h3⟩, h4⟩, h5⟩ := h
  refine ⟨⟨fun z => ?_, fun z => ?_⟩, ⟨fun z => ?_, fun z => ?_⟩, fun z => ?_, fun z => ?_, (of_decide_eq_true h5).1, (of_decide_eq_true h5).2⟩
  · rw [if_pos z] at h1; exact xm_in_Ns (of_decide_eq_true h1) rfl
  · rw [if_neg (by omega)] at h1; exact xm_in_Ts (of_decide_eq_true h1) rfl
  · rw [if_pos z] at h2; exact xm_in_Ts (of_decide_eq_true h2) rfl
  · rw [if_neg z] at h2; exact xm_in_Ts (of_decide_eq_true h2) rfl
  · rw [if_pos z] at h3
    simp only [Bool.and_eq_true, decide_eq_true_eq] at h3
    exact ⟨xm_in_Ts h3.1 rfl, h3.2⟩
  · rw [if_pos z] at h4; exact of_decide_eq_true h4
theorem xm_map_app {as r : List Value} (h : st = as.reverse ++ r) : st.map (xm_cv b) = (as.map (xm_cv b)).reverse ++ r.map (xm_cv b) := by rw [h, List.map_append, List.map_reverse]
/-- a call, and what comes behind it -/
theorem xm_w_call {i : Instr} {y kind idx : Nat} {as r : List Value} {z1 z : xm_Z} (hk3 : kind < 3) (hi : i = (if kind = 0 then Instr.invokestatic idx else if kind = 1 then .invokevirtual idx else .invokespecial idx)) (hd : decode q.2.2.1 pc = .ok (i, n)) (h : xm_cal q.1 n st lay kind idx = some (.inr (.inr (y, as, r))))
    (h1 : ∀ q', xm_mts[y]? = some q' → xm_Wd l d q' 0 (xm_en q'.2.2.2.1 as) [] lay I J R z1) (h2 : xm_Wd l (d + 1) q (pc + 3) L (z1.1.toList ++ r) z1.2.1 z1.2.2.1 z1.2.2.2.1 z1.2.2.2.2 z) : xm_Wd l (d + 1) q pc L st lay I J R z := by
  obtain ⟨q', k, hq', rfl, hkk, hca, hcs, hsl, hst, hlen, hrecv⟩ := xm_cal_inv hk3 h
  have H1 := h1 q' hq'
  obtain ⟨p1, p2, p3, hrow⟩ := xm_ca_row hca
  obtain ⟨⟨wN, wL⟩, ⟨wS, wI⟩, wV, wC, hk6, hk4⟩ := xm_cok_inv hq' hrow
  obtain ⟨r1, r2, r3, r4, r5, r6, r7⟩ := xm_mt_row hq'
  have hm : ∀ (D : va_G) (G : xm_G) (b : Nat), Met l q'.2.1 (xm_wsq q') (xm_rm d (xm_nc z1.2.1 - xm_nc lay) (xm_ns z1.2.1 - xm_ns lay)) (xm_P D G b as lay I J R) (xm_Q D G b z1) (xm_nc z1.2.1 - xm_nc lay) (xm_ns z1.2.1 - xm_ns lay) (fun a => b ≤ a) := fun D G b => xm_met hq' hsl H1
  obtain ⟨a1, a2, a3, -⟩ := H1
  obtain ⟨b1, b2, b3, b4⟩ := h2
  refine ⟨Nat.le_trans a1 b1, Nat.le_trans a2 b2, b3.trans a3, ?_⟩
  intro p e Rm s m args below meth c D G b C H locs cells slots ls hs hc hsl2
  obtain ⟨hx, hb, hml, hown, hts, hK, hr, hlocks, hini, hfr, hlo, hbs⟩ := id C
  intro T hT X
  have hz : lay.1 = true → H.size = b + lay.2.length := fun hfl => by
    have u1 := X.same.2.1
    have u2 := X.same.2.2.1
    have u3 : (T.setVm s.vm).heap = H := hT
    rw [u3] at u1 u2
    have u4 := hs.2.2.2 hfl
    have u5 : b + lay.2.length ≤ H.size := by
      cases hl : lay.2.length with
      | zero => omega
      | succ k =>
        have hk : k < lay.2.length := by omega
        have h0 : b + k < H.size := (hs.1 k _ (xm_ws_at (List.getElem?_eq_getElem hk))).lt
        omega
    omega
  have hbH : b ≤ H.size := Nat.le_trans hbs hs.2.1.1
  have hpre : ∀ U : State, U.heap = H → s.WarmedH U.vm → xm_P D G b as lay I J R (as.map (xm_cv b)).toArray U := fun U hU hW => ⟨rfl, by rw [hU]; exact hs.1, hK.warm hW, by rw [hU]; exact hbH, fun hfl => by rw [hU]; exact hz hfl⟩
  have hmap : st.map (xm_cv b) = (as.map (xm_cv b)).reverse ++ r.map (xm_cv b) := xm_map_app hst
  have hroom : 2 * (F0 m pc ls (st.map (xm_cv b))).monitorRoom + ((r.map (xm_cv b)).map fun v => v.category).sum ≤ 8 := by
    show 2 * 0 + _ ≤ 8
    rw [xm_cs_cv]; omega
  have hf : cells + (xm_nc z1.2.1 - xm_nc lay) ≤ Rm.cells ∧ slots + (xm_ns z1.2.1 - xm_ns lay) ≤ Rm.slots := ⟨by omega, by omega⟩
  have hR : (xm_rm d (xm_nc z1.2.1 - xm_nc lay) (xm_ns z1.2.1 - xm_ns lay)).frames + 1 ≤ Rm.frames ∧ 8 + (q'.2.2.2.1 + 11) + (xm_rm d (xm_nc z1.2.1 - xm_nc lay) (xm_ns z1.2.1 - xm_ns lay)).locals ≤ Rm.locals := ⟨hfr, by show 8 + (q'.2.2.2.1 + 11) + 64 * d ≤ _; omega⟩
  have kk : ∀ (H1 : Heap) (locs1 : List Loc), va_P D xm_cls (xm_ws G b z1.2.1.2 z1.2.2.1 z1.2.2.2.1 z1.2.2.2.2) H1 → va_S (fun a => b ≤ a) s.heap H1 locs1 → W p l e Rm s m args below meth c H1 locs1 (cells + (xm_nc z1.2.1 - xm_nc lay)) (slots + (xm_ns z1.2.1 - xm_ns lay)) (MQ below (xm_Q D G b z) args s (cells + (xm_nc z.2.1 - xm_nc lay)) (slots + (xm_ns z.2.1 - xm_ns lay)) (fun a => b ≤ a)) (F0 m (pc + 3) ls ((z1.1.map (xm_cv b)).toList ++ r.map (xm_cv b))) := by
    intro H1 locs1 hP hS
    have e1 : cells + (xm_nc z1.2.1 - xm_nc lay) + (xm_nc z.2.1 - xm_nc z1.2.1) = cells + (xm_nc z.2.1 - xm_nc lay) := by omega
    have e2 : slots + (xm_ns z1.2.1 - xm_ns lay) + (xm_ns z.2.1 - xm_ns z1.2.1) = slots + (xm_ns z.2.1 - xm_ns lay) := by omega
    have := b4 (e := e) (below := below) C H1 locs1 (cells + (xm_nc z1.2.1 - xm_nc lay)) (slots + (xm_ns z1.2.1 - xm_ns lay)) ls ⟨hP, hS, hs.2.2.1, fun hfl => by
      have u4 := hs.2.2.2 (a3 ▸ hfl)
      have a1' : lay.2.length ≤ z1.2.1.2.length := a1
      have hnc : xm_nc z1.2.1 - xm_nc lay = z1.2.1.2.length - lay.2.length := rfl
      omega⟩ (by omega) (by omega)
    rw [e1, e2] at this
    have e3 : (z1.1.toList ++ r).map (xm_cv b) = (z1.1.map (xm_cv b)).toList ++ r.map (xm_cv b) := by
      rw [List.map_append]; cases z1.1 <;> rfl
    rw [e3] at this
    exact this
  have hwsq : ∀ w ∈ xm_wsq q', w ∈ xm_Ts := xm_wsq_in hq'
  rcases (show kind = 0 ∨ kind = 1 ∨ kind = 2 by omega) with rfl | rfl | rfl
  · rw [if_pos rfl] at hi hlen
    subst hi
    have hn : (as.map (xm_cv b)).length = xm_np q'.2.1 := by rw [List.length_map, hlen]; rfl
    rcases hkk with rfl | rfl
    · exact xm_call (va_runS (As := as.map (xm_cv b)) (rest := r.map (xm_cv b)) ⟨hx, hb, hml, hown, hts⟩ (hm D G b) (va_cwS (xm_np q'.2.1) hts (xm_good fun w hw => by
          rcases List.mem_append.mp hw with hw | hw
          · simp only [List.mem_cons, List.not_mem_nil, or_false] at hw
            rcases hw with rfl | rfl | rfl
            · exact wL (by omega)
            · exact wS (Or.inl rfl)
            · exact r2
          · exact hwsq w hw) rfl rfl rfl ⟨r5.1, r5.2, r6⟩ hR) ⟨xm_P_blind, hpre⟩ rfl hn hs.2.2.1.2.1 hmap hroom hd hf) hs.2.1 kk T hT X
    · exact xm_call (va_runSN (host := "SlateSum") (As := as.map (xm_cv b)) (rest := r.map (xm_cv b)) ⟨hx, hb, hml, hown, hts⟩ (hm D G b) ⟨va_cnB (xm_np q'.2.1) hts (xm_good hwsq) rfl rfl rfl (hK.2.1 _ (wN (by omega))) (hts _ r2) ⟨r5.1, r5.2, r6⟩ hR, hts _ (wS (Or.inr rfl)), trivial⟩ ⟨xm_P_blind, hpre⟩ rfl hn hs.2.2.1.2.1 hmap hroom hd hf) hs.2.1 kk T hT X
  · rw [if_neg (by omega), if_pos rfl] at hi
    rw [if_neg (by omega)] at hlen
    subst hi
    obtain ⟨a, as', rfl, hrc⟩ := hrecv (by omega)
    have hn : (as'.map (xm_cv b)).length = xm_np q'.2.1 := by
      rw [List.length_map]; simp only [List.length_cons] at hlen; omega
    have hk1 : k = 1 := by omega
    subst hk1
    obtain ⟨wsel, h13⟩ := wV rfl
    obtain ⟨⟨cn, T0, N⟩, hcc⟩ := xm_cls_get h13
    obtain ⟨e1, -⟩ := xm_cls_ok _ _ hcc
    have e1 : cn = xm_own q'.1 := e1
    have hmap' : st.map (xm_cv b) = (as'.map (xm_cv b)).reverse ++ .ref (b + a) :: r.map (xm_cv b) := by
      rw [hmap, List.map_cons, List.reverse_cons, List.append_assoc]; rfl
    have hrv := va_recv (D := D) hK.1 hs.1 hcc (xm_obj_at (hrc rfl) h13)
    rw [show ((cn, T0, N) : vw_C).1 = q'.2.1.cls from e1.trans r3.symm] at hrv
    exact xm_call (va_runV (C := q'.2.1.cls) (b := b + a) (As := as'.map (xm_cv b)) (rest := r.map (xm_cv b)) ⟨hx, hb, hml, hown, hts⟩ (hm D G b) (cwV (xm_np q'.2.1) hts (xm_good fun w hw => by
          rcases List.mem_append.mp hw with hw | hw
          · simp only [List.mem_cons, List.not_mem_nil, or_false] at hw
            rcases hw with rfl | rfl | rfl | rfl
            · exact wL (by omega)
            · exact wI (by omega)
            · exact wsel
            · exact r2
          · exact hwsq w hw) rfl rfl rfl ⟨rfl, r5.1, r5.2, r6⟩ hR) ⟨xm_P_blind, hrv, hpre⟩ rfl hn hs.2.2.1.2.1 hmap' hroom hd hf) hs.2.1 kk T hT X
  · rw [if_neg (by omega), if_neg (by omega)] at hi
    rw [if_neg (by omega)] at hlen
    subst hi
    obtain ⟨a, as', rfl, hrc⟩ := hrecv (by omega)
    have hn : (as'.map (xm_cv b)).length = xm_np q'.2.1 := by
      rw [List.length_map]; simp only [List.length_cons] at hlen; omega
    have hmap' : st.map (xm_cv b) = (as'.map (xm_cv b)).reverse ++ .ref (b + a) :: r.map (xm_cv b) := by
      rw [hmap, List.map_cons, List.reverse_cons, List.append_assoc]; rfl
    have hk25 : k = 2 ∨ k = 5 := by omega
    obtain ⟨hin, hret⟩ := wC hk25
    have hwsr : xm_wsq q' = .code q'.2.1 q'.2.2.1 q'.2.2.2.1 none :: xm_Ts := by unfold xm_wsq; rw [hret]
    rcases hk25 with rfl | rfl
    · exact xm_call (va_runI (b := b + a) (As := as'.map (xm_cv b)) (rest := r.map (xm_cv b)) ⟨hx, hb, hml, hown, hts⟩ (hm D G b) (cwI (xm_np q'.2.1) hts (xm_good hwsq) hwsr rfl rfl (hts _ r2) (hts _ (wL (by omega))) (hts _ (wI (by omega))) hin ⟨r5.1, r5.2, r6⟩ hR) ⟨xm_P_blind, hpre⟩ rfl hn hs.2.2.1.2.1 hmap' hroom hd hf) hs.2.1 kk T hT X
    · exact xm_call (va_runIN (host := "SlateSum") (b := b + a) (As := as'.map (xm_cv b)) (rest := r.map (xm_cv b)) ⟨hx, hb, hml, hown, hts⟩ (hm D G b) ⟨va_cnB (xm_np q'.2.1) hts (xm_good hwsq) hwsr rfl rfl (hK.2.1 _ (wN (by omega))) (hts _ r2) ⟨r5.1, r5.2, r6⟩ hR, hin, hts _ (wI (by omega))⟩ ⟨xm_P_blind, hpre⟩ rfl hn hs.2.2.1.2.1 hmap' hroom hd hf) hs.2.1 kk T hT X
/-- a return -/
theorem xm_w_ret {i : Instr} {v : Option Value} (hd : decode q.2.2.1 pc = .ok (i, n)) (h : xm_ret q.2.2.2.2.1 n st i = some (.inr (.inl v))) : xm_Wd l d q pc L st lay I J R (v, lay, I, J, R) := by
  refine ⟨Nat.le_refl _, Nat.le_refl _, rfl, ?_⟩
  intro p e Rm s m args below meth c D G b C H locs cells slots ls hs hc hsl
  obtain ⟨hx, hb, hml, hown, hts, hK, hr, hlocks, hini, hfr, hlo, hbs⟩ := C
  simp only [Nat.sub_self, Nat.add_zero]
  have hq : ∀ t : State, t.heap = H → s.WarmedH t.vm → xm_Q D G b (v, lay, I, J, R) args s (.returned (v.map (xm_cv b))) t := fun t ht hW => ⟨⟨rfl, by rw [ht]; exact hs.1, hK.warm hW⟩, hs.2.1.F ht⟩
  unfold xm_ret at h
  split at h
  · obtain ⟨⟨rfl, hret⟩, h9⟩ := xm_if_inv h
    clear h
    cases h9
    exact W.vret hx hb (hr.trans hret) hq hs.2.1.2.2 hd
  · rename_i w
    split at h
    · rename_i t ht
      obtain ⟨⟨rfl, hn⟩, h9⟩ := xm_if_inv h
      clear h
      cases h9
      exact W.zret hx hb (hr.trans ht) hn hq hs.2.1.2.2 hd
    · cases h
  · obtain ⟨⟨rfl, hret⟩, h9⟩ := xm_if_inv h
    clear h
    cases h9
    exact W.lret hx hb (hr.trans hret) hq hs.2.1.2.2 hd
  · rename_i w
    split at h
    · rename_i nm ht
      obtain ⟨rfl, h9⟩ := xm_if_inv h
      clear h
      cases h9
      exact W.aret hx hb (hr.trans ht) (Or.inl ⟨_, rfl⟩) (Or.inr ⟨_, rfl⟩) hq hs.2.1.2.2 hd
    · cases h
  · cases h
/-- a step -/
theorem xm_w_go {i : Instr} {nx : xm_N} {z : xm_Z} (hd : decode q.2.2.1 pc = .ok (i, n)) (h : xm_in d q.1 q.2.2.2.2.1 (xm_ise q) n pc L st lay I J R i = some (.inl nx)) (h2 : xm_Wd l d q nx.1 nx.2.1 nx.2.2.1 nx.2.2.2.1 nx.2.2.2.2.1 nx.2.2.2.2.2.1 nx.2.2.2.2.2.2 z) : xm_Wd l d q pc L st lay I J R z := by
  obtain ⟨b1, b2, b3, b4⟩ := h2
  have hok0 := xm_in_mn h
  refine ⟨Nat.le_trans hok0.1 b1, Nat.le_trans hok0.2.1 b2, b3.trans hok0.2.2, ?_⟩
  intro p e Rm s m args below meth c D G b C H locs cells slots ls hs hc hsl
  obtain ⟨a1, a2, a3, a4⟩ : xm_ok p l e Rm s m args below meth c D G b q.2.2.2.1 pc L st lay I J R nx := xm_in_ok C hd h
  refine a4 H locs cells slots _ ls hs (by omega) (by omega) fun H' locs' ls' hs' => ?_
  have e1 : cells + (xm_nc nx.2.2.2.1 - xm_nc lay) + (xm_nc z.2.1 - xm_nc nx.2.2.2.1) = cells + (xm_nc z.2.1 - xm_nc lay) := by omega
  have e2 : slots + (xm_ns nx.2.2.2.1 - xm_ns lay) + (xm_ns z.2.1 - xm_ns nx.2.2.2.1) = slots + (xm_ns z.2.1 - xm_ns lay) := by omega
  have := b4 (e := e) (below := below) C H' locs' (cells + (xm_nc nx.2.2.2.1 - xm_nc lay)) (slots + (xm_ns nx.2.2.2.1 - xm_ns lay)) ls' hs' (by omega) (by omega)
  rw [e1, e2] at this
  exact this
end XMR2

theorem xm_cs_cas : True := trivial
/-- the run's theorem -/
theorem xm_sound (l : Launch) : ∀ (n d y pc : Nat) (L : xm_V) (st : List Value) (lay : xm_L) (I : xm_I) (J : xm_J) (R : xm_R) (z : xm_Z) (q : xm_q), xm_mts[y]? = some q → xm_run n d y pc L st lay I J R = some z → xm_Wd l d q pc L st lay I J R z := by
  intro n
  induction n with
  | zero => intro d y pc L st lay I J R z q _ h; cases h
  | succ n ih =>
    intro d y pc L st lay I J R z q hq h
    rw [xm_run] at h
    cases hs : xm_step d y pc L st lay I J R with
    | none => rw [hs] at h; cases h
    | some w =>
      rw [hs] at h
      have hs' := hs
      unfold xm_step at hs'
      rw [hq] at hs'
      dsimp only at hs'
      cases hd : decode q.2.2.1 pc with
      | error er => rw [hd] at hs'; cases hs'
      | ok r =>
        obtain ⟨i, k⟩ := r
        rw [hd] at hs'
        dsimp only at hs'
        rcases w with ⟨pc', L', st', lay', I', J', R'⟩ | v | ⟨y', as, r⟩
        · exact xm_w_go hd hs' (ih _ _ _ _ _ _ _ _ _ _ q hq h)
        · cases h
          rcases xm_in_inr hs' with ⟨-, h1⟩ | ⟨idx, -, h1⟩ | ⟨idx, -, h1⟩ | ⟨idx, -, h1⟩
          · exact xm_w_ret hd h1
          · exact (xm_cal_nr h1).elim
          · exact (xm_cal_nr h1).elim
          · exact (xm_cal_nr h1).elim
        · cases d with
          | zero => cases h
          | succ d =>
            obtain ⟨v, lay', I', J', R', h1, h2⟩ := xm_bd_some h
            have c2 := ih _ _ _ _ _ _ _ _ _ _ q hq h2
            have c1 : ∀ q', xm_mts[y']? = some q' → xm_Wd l d q' 0 (xm_en q'.2.2.2.1 as) [] lay I J R (v, lay', I', J', R') := by
              intro q' hq'
              have e : xm_nl y' = q'.2.2.2.1 := by unfold xm_nl; rw [hq']; rfl
              rw [e] at h1
              exact ih _ _ _ _ _ _ _ _ _ _ q' hq' h1
            rcases xm_in_inr hs' with ⟨-, g1⟩ | ⟨idx, hi, g1⟩ | ⟨idx, hi, g1⟩ | ⟨idx, hi, g1⟩
            · exact (xm_ret_nc g1).elim
            · exact xm_w_call (kind := 0) (by omega) hi hd g1 c1 c2
            · exact xm_w_call (kind := 1) (by omega) hi hd g1 c1 c2
            · exact xm_w_call (kind := 2) (by omega) hi hd g1 c1 c2
/-- a method's contract, out of what the abstract machine comes to -/
theorem xm_den_met (l : Launch) {d y : Nat} {q : xm_q} {as : List Value} {lay : xm_L} {I : xm_I} {J : xm_J} {R : xm_R} {z : xm_Z} (hq : xm_mts[y]? = some q) (has : (xm_sl as).length ≤ q.2.2.2.1) (h : xm_den d y 0 (xm_en q.2.2.2.1 as) [] lay I J R = some z) (D : va_G) (G : xm_G) (b : Nat) :
    Met l q.2.1 (xm_wsq q) (xm_rm d (xm_nc z.2.1 - xm_nc lay) (xm_ns z.2.1 - xm_ns lay)) (xm_P D G b as lay I J R) (xm_Q D G b z) (xm_nc z.2.1 - xm_nc lay) (xm_ns z.2.1 - xm_ns lay) (fun a => b ≤ a) := by
  obtain ⟨n, hn⟩ := xm_den_iff.mp h
  exact xm_met hq has (xm_sound l n d y 0 _ _ _ _ _ _ _ q hq hn)
