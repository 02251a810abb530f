/-! every instruction: written by wip/whole/gen_in.py -/
section XMI3
variable {p : Program} {l : Launch} {e : Env} {Rm : Room} {s : State} {m : MethodId} {args : Array Value} {below : List Frame} {meth : Method} {c : Code} {D : va_G} {G : xm_G} {b d : Nat} {q : xm_q}
variable {n pc : Nat} {L : xm_V} {st : List Value} {lay : xm_L} {I : xm_I} {J : xm_J} {R : xm_R} {nx : xm_N}
theorem xm_cal_no {kind idx : Nat} (h : xm_cal q.1 n st lay kind idx = some (.inl nx)) : False := by
  unfold xm_cal at h
  split at h
  · split at h
    · obtain ⟨_, h⟩ := xm_if_inv h
      dsimp only at h
      obtain ⟨_, h⟩ := xm_if_inv h
      split at h
      · cases h
      · obtain ⟨_, h⟩ := xm_if_inv h; cases h
      · cases h
      · cases h
    · cases h
  · cases h
theorem xm_cal_nr {kind idx : Nat} {v : Option Value} (h : xm_cal q.1 n st lay kind idx = some (.inr (.inl v))) : False := by
  unfold xm_cal at h
  split at h
  · split at h
    · obtain ⟨_, h⟩ := xm_if_inv h
      dsimp only at h
      obtain ⟨_, h⟩ := xm_if_inv h
      split at h
      · cases h
      · obtain ⟨_, h⟩ := xm_if_inv h; cases h
      · cases h
      · cases h
    · cases h
  · cases h
theorem xm_ret_no {ret : Option FieldType} {i : Instr} (h : xm_ret ret n st i = some (.inl nx)) : False := by
  unfold xm_ret at h
  split at h
  · obtain ⟨_, h⟩ := xm_if_inv h; cases h
  · split at h
    · obtain ⟨_, h⟩ := xm_if_inv h; cases h
    · cases h
  · obtain ⟨_, h⟩ := xm_if_inv h; cases h
  · split at h
    · obtain ⟨_, h⟩ := xm_if_inv h; cases h
    · cases h
  · cases h
theorem xm_br {P : Prop} [hP : Decidable P] {t t' : Nat} {X : Nat → Prop} (kk : X (if decide P = true then t else t')) : (P → X t) ∧ (¬ P → X t') := by
  by_cases e : P
  · simp only [e, decide_true, if_true] at kk; exact ⟨fun _ => kk, fun z => absurd e z⟩
  · simp only [e, decide_false, Bool.false_eq_true, if_false] at kk; exact ⟨fun z => absurd z e, fun _ => kk⟩
theorem xm_i_spe {idx : Nat} (C : xm_at p Rm s m args meth c D G b d q) (hd : decode q.2.2.1 pc = .ok (.invokespecial idx, n)) (h : xm_spe d q.1 n pc L st lay I J R idx = some (.inl nx)) : xm_ok p l e Rm s m args below meth c D G b q.2.2.2.1 pc L st lay I J R nx := by
  obtain ⟨hx, hb, hml, hown, hts, hK, hr, hlocks, hini, hfr, hlo, hbs⟩ := C
  unfold xm_spe at h
  by_cases ho : xm_ob q.1 idx = true
  · rw [if_pos ho] at h
    obtain ⟨a, r, rfl, h⟩ := xm_r1_inv h
    obtain ⟨⟨h1, h2⟩, h⟩ := xm_if_inv h
    obtain ⟨rfl, rfl⟩ := xm_go_inv h
    refine xm_pu fun hs _ _ kk => ?_
    exact W.objInit hx hb hown (hts _ (xm_ob_row ho)) (hts _ (xm_in_Ts xm_pob_ok.1 rfl)) (hts _ (xm_in_Ts xm_pob_ok.2 rfl)) rfl (by rw [hml]; exact hs.2.2.1.2.1) rfl hd (by omega) (by
      show 2 * 0 + ((r.map (xm_cv b)).map fun v => v.category).sum + 12 ≤ _
      rw [xm_cs_cv]; omega) kk
  · rw [if_neg ho] at h; exact (xm_cal_no h).elim
theorem xm_i_stc {idx : Nat} (C : xm_at p Rm s m args meth c D G b d q) (hd : decode q.2.2.1 pc = .ok (.invokestatic idx, n)) (h : xm_sta' d q.1 n pc L st lay I J R idx = some (.inl nx)) : xm_ok p l e Rm s m args below meth c D G b q.2.2.2.1 pc L st lay I J R nx := by
  obtain ⟨hx, hb, hml, hown, hts, hK, hr, hlocks, hini, hfr, hlo, hbs⟩ := C
  obtain ⟨o0, o1, o2, o3, o4, o5, o6, o7, o8⟩ := xm_math_ok
  unfold xm_sta' at h
  cases hk : xm_ma q.1 idx with
  | none => rw [hk] at h; exact (xm_cal_no h).elim
  | some k =>
    rw [hk] at h
    obtain ⟨hw, hk4⟩ := xm_ma_row hk
    match k, h with
    | 0, h =>
      obtain ⟨x, y, r, rfl, h⟩ := xm_ii_inv h
      obtain ⟨⟨h1, h2⟩, h⟩ := xm_if_inv h
      obtain ⟨rfl, rfl⟩ := xm_go_inv h
      exact xm_pu fun hs hc hsl kk => va_mmax hx hb (by rw [hml]; exact hs.2.2.1.2.1.symm) hown (hts _ hw) (hts _ (xm_in_Ts o1 rfl)) (hts _ (xm_in_Ts o0 rfl)) (hts _ (xm_in_Ts o5 rfl)) (by omega) (by rw [xm_cs_cv]; omega) hc hsl hd kk
    | 1, h =>
      obtain ⟨x, y, r, rfl, h⟩ := xm_ii_inv h
      obtain ⟨⟨h1, h2⟩, h⟩ := xm_if_inv h
      obtain ⟨rfl, rfl⟩ := xm_go_inv h
      exact xm_pu fun hs hc hsl kk => va_mmin hx hb (by rw [hml]; exact hs.2.2.1.2.1.symm) hown (hts _ hw) (hts _ (xm_in_Ts o2 rfl)) (hts _ (xm_in_Ts o0 rfl)) (hts _ (xm_in_Ts o6 rfl)) (by omega) (by rw [xm_cs_cv]; omega) hc hsl hd kk
    | 2, h =>
      obtain ⟨x, y, r, rfl, h⟩ := xm_ll_inv h
      obtain ⟨⟨h1, h2⟩, h⟩ := xm_if_inv h
      obtain ⟨rfl, rfl⟩ := xm_go_inv h
      exact xm_pu fun hs hc hsl kk => va_mmax_long hx hb (by rw [hml]; exact hs.2.2.1.2.1.symm) hown (hts _ hw) (hts _ (xm_in_Ts o3 rfl)) (hts _ (xm_in_Ts o0 rfl)) (hts _ (xm_in_Ts o7 rfl)) (by omega) (by rw [xm_cs_cv]; omega) hc hsl hd kk
    | 3, h =>
      obtain ⟨x, y, r, rfl, h⟩ := xm_ll_inv h
      obtain ⟨⟨h1, h2⟩, h⟩ := xm_if_inv h
      obtain ⟨rfl, rfl⟩ := xm_go_inv h
      exact xm_pu fun hs hc hsl kk => va_mmin_long hx hb (by rw [hml]; exact hs.2.2.1.2.1.symm) hown (hts _ hw) (hts _ (xm_in_Ts o4 rfl)) (hts _ (xm_in_Ts o0 rfl)) (hts _ (xm_in_Ts o8 rfl)) (by omega) (by rw [xm_cs_cv]; omega) hc hsl hd kk
    | k + 4, h => omega
set_option maxHeartbeats 4000000 in
theorem xm_in_ok {i : Instr} (C : xm_at p Rm s m args meth c D G b d q) (hd : decode q.2.2.1 pc = .ok (i, n)) (h : xm_in d q.1 q.2.2.2.2.1 (xm_ise q) n pc L st lay I J R i = some (.inl nx)) : xm_ok p l e Rm s m args below meth c D G b q.2.2.2.1 pc L st lay I J R nx := by
  have hx := C.1
  have hb := C.2.1
  have hown := C.2.2.2.1
  have hts := C.2.2.2.2.1
  unfold xm_in at h
  split at h
  · obtain ⟨rfl, rfl⟩ := xm_go_inv h
    exact xm_pu fun _ _ _ kk => lv_iconst hx hb hd rfl kk
  · obtain ⟨rfl, rfl⟩ := xm_go_inv h
    exact xm_pu fun _ _ _ kk => lv_bipush hx hb hd rfl kk
  · obtain ⟨rfl, rfl⟩ := xm_go_inv h
    exact xm_pu fun _ _ _ kk => lv_sipush hx hb hd rfl kk
  · obtain ⟨rfl, rfl⟩ := xm_go_inv h
    exact xm_pu fun _ _ _ kk => lv_lconst hx hb hd rfl kk
  · split at h
    · rename_i v hv
      obtain ⟨rfl, rfl⟩ := xm_go_inv h
      exact xm_pu fun _ _ _ kk => lv_ldc hx hb hown (hts _ (xm_ki_row hv)) hd kk
    · cases h
  · split at h
    · rename_i v hv
      obtain ⟨rfl, rfl⟩ := xm_go_inv h
      exact xm_pu fun _ _ _ kk => lv_ldcw hx hb hown (hts _ (xm_ki_row hv)) hd kk
    · cases h
  · split at h
    · rename_i v hv
      obtain ⟨rfl, rfl⟩ := xm_go_inv h
      exact xm_pu fun _ _ _ kk => lv_ldc2 hx hb hown (hts _ (xm_kl_row hv)) hd kk
    · cases h
  · obtain ⟨rfl, rfl⟩ := xm_go_inv h
    exact xm_pu fun _ _ _ kk => lv_null hx hb hd kk
  · exact xm_i_ldi (fun hn hl kk => by subst hn; exact lv_iload_n hx hb hd rfl hl kk) h
  · exact xm_i_ldi (fun hn hl kk => by subst hn; exact lv_iload hx hb hd hl kk) h
  · exact xm_i_ldl (fun hn hl kk => by subst hn; exact lv_lload_n hx hb hd rfl hl kk) h
  · exact xm_i_ldl (fun hn hl kk => by subst hn; exact lv_lload hx hb hd hl kk) h
  · exact xm_i_lda (fun hn hl kk => by subst hn; exact lv_aload_n hx hb hd rfl hl kk) (fun hn hl kk => by subst hn; exact lv_aload_nN hx hb hd rfl hl kk) h
  · exact xm_i_lda (fun hn hl kk => by subst hn; exact lv_aload hx hb hd hl kk) (fun hn hl kk => by subst hn; exact lv_aloadN hx hb hd hl kk) h
  · exact xm_i_sti (fun hn hl hi kk => by subst hn; exact lv_istore_n hx hb hd rfl hl hi rfl kk) h
  · exact xm_i_sti (fun hn hl hi kk => by subst hn; exact lv_istore hx hb hd hl hi rfl kk) h
  · exact xm_i_stl (fun hn hl hi kk => by subst hn; exact lv_lstore_n hx hb hd rfl hl hi rfl kk) h
  · exact xm_i_stl (fun hn hl hi kk => by subst hn; exact lv_lstore hx hb hd hl hi rfl kk) h
  · exact xm_i_sta (fun hn hl hi kk => by subst hn; exact lv_astore_n hx hb hd rfl hl hi rfl kk) (fun hn hl hi kk => by subst hn; exact lv_astore_nN hx hb hd rfl hl hi rfl kk) h
  · exact xm_i_sta (fun hn hl hi kk => by subst hn; exact lv_astore hx hb hd hl hi rfl kk) (fun hn hl hi kk => by subst hn; exact lv_astoreN hx hb hd hl hi rfl kk) h
  · exact xm_i_inc C hd h
  · obtain ⟨x, y, r, rfl, h⟩ := xm_ii_inv h
    obtain ⟨rfl, rfl⟩ := xm_go_inv h
    exact xm_pu fun _ _ _ kk => lv_iadd hx hb hd kk
  · obtain ⟨x, y, r, rfl, h⟩ := xm_ii_inv h
    obtain ⟨rfl, rfl⟩ := xm_go_inv h
    exact xm_pu fun _ _ _ kk => lv_isub hx hb hd kk
  · obtain ⟨x, y, r, rfl, h⟩ := xm_ii_inv h
    obtain ⟨rfl, rfl⟩ := xm_go_inv h
    exact xm_pu fun _ _ _ kk => lv_imul hx hb hd kk
  · obtain ⟨x, y, r, rfl, h⟩ := xm_ii_inv h
    obtain ⟨rfl, rfl⟩ := xm_go_inv h
    exact xm_pu fun _ _ _ kk => lv_iand hx hb hd kk
  · obtain ⟨x, y, r, rfl, h⟩ := xm_ii_inv h
    obtain ⟨rfl, rfl⟩ := xm_go_inv h
    exact xm_pu fun _ _ _ kk => lv_ior hx hb hd kk
  · obtain ⟨x, y, r, rfl, h⟩ := xm_ii_inv h
    obtain ⟨rfl, rfl⟩ := xm_go_inv h
    exact xm_pu fun _ _ _ kk => lv_ixor hx hb hd kk
  · obtain ⟨x, y, r, rfl, h⟩ := xm_ii_inv h
    obtain ⟨h1, h⟩ := xm_ifn_inv h
    obtain ⟨rfl, rfl⟩ := xm_go_inv h
    exact xm_pu fun _ _ _ kk => lv_idiv hx hb hd h1 kk
  · obtain ⟨x, y, r, rfl, h⟩ := xm_ii_inv h
    obtain ⟨h1, h⟩ := xm_ifn_inv h
    obtain ⟨rfl, rfl⟩ := xm_go_inv h
    exact xm_pu fun _ _ _ kk => lv_irem hx hb hd h1 kk
  · obtain ⟨x, y, r, rfl, h⟩ := xm_ii_inv h
    obtain ⟨rfl, rfl⟩ := xm_go_inv h
    exact xm_pu fun _ _ _ kk => lv_ishl hx hb hd kk
  · obtain ⟨x, y, r, rfl, h⟩ := xm_ii_inv h
    obtain ⟨rfl, rfl⟩ := xm_go_inv h
    exact xm_pu fun _ _ _ kk => lv_ishr hx hb hd kk
  · obtain ⟨x, y, r, rfl, h⟩ := xm_ii_inv h
    obtain ⟨rfl, rfl⟩ := xm_go_inv h
    exact xm_pu fun _ _ _ kk => lv_iushr hx hb hd rfl kk
  · obtain ⟨x, y, r, rfl, h⟩ := xm_ll_inv h
    obtain ⟨rfl, rfl⟩ := xm_go_inv h
    exact xm_pu fun _ _ _ kk => lv_ladd hx hb hd kk
  · obtain ⟨x, y, r, rfl, h⟩ := xm_ll_inv h
    obtain ⟨rfl, rfl⟩ := xm_go_inv h
    exact xm_pu fun _ _ _ kk => lv_lsub hx hb hd kk
  · obtain ⟨x, y, r, rfl, h⟩ := xm_ll_inv h
    obtain ⟨rfl, rfl⟩ := xm_go_inv h
    exact xm_pu fun _ _ _ kk => lv_lmul hx hb hd kk
  · obtain ⟨x, y, r, rfl, h⟩ := xm_ll_inv h
    obtain ⟨rfl, rfl⟩ := xm_go_inv h
    exact xm_pu fun _ _ _ kk => lv_land hx hb hd kk
  · obtain ⟨x, y, r, rfl, h⟩ := xm_ll_inv h
    obtain ⟨rfl, rfl⟩ := xm_go_inv h
    exact xm_pu fun _ _ _ kk => lv_lor hx hb hd kk
  · obtain ⟨x, y, r, rfl, h⟩ := xm_ll_inv h
    obtain ⟨h1, h⟩ := xm_ifn_inv h
    obtain ⟨rfl, rfl⟩ := xm_go_inv h
    exact xm_pu fun _ _ _ kk => lv_ldiv hx hb hd h1 kk
  · obtain ⟨x, y, r, rfl, h⟩ := xm_ll_inv h
    obtain ⟨h1, h⟩ := xm_ifn_inv h
    obtain ⟨rfl, rfl⟩ := xm_go_inv h
    exact xm_pu fun _ _ _ kk => lv_lrem hx hb hd h1 kk
  · obtain ⟨x, y, r, rfl, h⟩ := xm_ll_inv h
    obtain ⟨rfl, rfl⟩ := xm_go_inv h
    exact xm_pu fun _ _ _ kk => W.lcmp hx hb hd kk
  · obtain ⟨x, y, r, rfl, h⟩ := xm_li_inv h
    obtain ⟨rfl, rfl⟩ := xm_go_inv h
    exact xm_pu fun _ _ _ kk => lv_lshl hx hb hd rfl kk
  · obtain ⟨x, y, r, rfl, h⟩ := xm_li_inv h
    obtain ⟨rfl, rfl⟩ := xm_go_inv h
    exact xm_pu fun _ _ _ kk => lv_lshr hx hb hd rfl kk
  · obtain ⟨x, y, r, rfl, h⟩ := xm_li_inv h
    obtain ⟨rfl, rfl⟩ := xm_go_inv h
    exact xm_pu fun _ _ _ kk => lv_lushr hx hb hd rfl kk
  · obtain ⟨x, r, rfl, h⟩ := xm_i1_inv h
    obtain ⟨rfl, rfl⟩ := xm_go_inv h
    exact xm_pu fun _ _ _ kk => lv_i2l hx hb hd rfl kk
  · obtain ⟨x, r, rfl, h⟩ := xm_l1_inv h
    obtain ⟨rfl, rfl⟩ := xm_go_inv h
    exact xm_pu fun _ _ _ kk => lv_l2i hx hb hd rfl kk
  · split at h
    · obtain ⟨h1, h⟩ := xm_if_inv h
      obtain ⟨rfl, rfl⟩ := xm_go_inv h
      exact xm_pu fun _ _ _ kk => lv_dup hx hb hd (by rw [xm_cv_cat]; exact h1) kk
    · cases h
  · split at h
    · obtain ⟨h1, h⟩ := xm_if_inv h
      obtain ⟨rfl, rfl⟩ := xm_go_inv h
      exact xm_pu fun _ _ _ kk => lv_pop hx hb hd (by rw [xm_cv_cat]; exact h1) kk
    · cases h
  · split at h
    · obtain ⟨⟨h1, h2⟩, h⟩ := xm_if_inv h
      obtain ⟨rfl, rfl⟩ := xm_go_inv h
      exact xm_pu fun _ _ _ kk => lv_dup2_11 hx hb hd (by rw [xm_cv_cat]; exact h1) (by rw [xm_cv_cat]; exact h2) kk
    · cases h
  · obtain ⟨x, r, rfl, h⟩ := xm_i1_inv h
    obtain ⟨rfl, t, ht, rfl⟩ := xm_to_inv h
    exact xm_pu fun _ _ _ kk => lv_if_eq hx hb hd ht (xm_br (X := fun z => W p l e Rm s m args below meth c _ _ _ _ _ (F0 m z _ _)) kk).1 (xm_br (X := fun z => W p l e Rm s m args below meth c _ _ _ _ _ (F0 m z _ _)) kk).2
  · obtain ⟨x, r, rfl, h⟩ := xm_i1_inv h
    obtain ⟨rfl, t, ht, rfl⟩ := xm_to_inv h
    exact xm_pu fun _ _ _ kk => lv_if_ne hx hb hd ht (xm_br (X := fun z => W p l e Rm s m args below meth c _ _ _ _ _ (F0 m z _ _)) kk).1 (fun u => (xm_br (X := fun z => W p l e Rm s m args below meth c _ _ _ _ _ (F0 m z _ _)) kk).2 (fun w => w u))
  · obtain ⟨x, r, rfl, h⟩ := xm_i1_inv h
    obtain ⟨rfl, t, ht, rfl⟩ := xm_to_inv h
    exact xm_pu fun _ _ _ kk => lv_if_lt hx hb hd ht (xm_br (X := fun z => W p l e Rm s m args below meth c _ _ _ _ _ (F0 m z _ _)) kk).1 (xm_br (X := fun z => W p l e Rm s m args below meth c _ _ _ _ _ (F0 m z _ _)) kk).2
  · obtain ⟨x, r, rfl, h⟩ := xm_i1_inv h
    obtain ⟨rfl, t, ht, rfl⟩ := xm_to_inv h
    exact xm_pu fun _ _ _ kk => lv_if_ge hx hb hd ht (xm_br (X := fun z => W p l e Rm s m args below meth c _ _ _ _ _ (F0 m z _ _)) kk).1 (xm_br (X := fun z => W p l e Rm s m args below meth c _ _ _ _ _ (F0 m z _ _)) kk).2
  · obtain ⟨x, r, rfl, h⟩ := xm_i1_inv h
    obtain ⟨rfl, t, ht, rfl⟩ := xm_to_inv h
    exact xm_pu fun _ _ _ kk => lv_if_gt hx hb hd ht (xm_br (X := fun z => W p l e Rm s m args below meth c _ _ _ _ _ (F0 m z _ _)) kk).1 (xm_br (X := fun z => W p l e Rm s m args below meth c _ _ _ _ _ (F0 m z _ _)) kk).2
  · obtain ⟨x, r, rfl, h⟩ := xm_i1_inv h
    obtain ⟨rfl, t, ht, rfl⟩ := xm_to_inv h
    exact xm_pu fun _ _ _ kk => lv_if_le hx hb hd ht (xm_br (X := fun z => W p l e Rm s m args below meth c _ _ _ _ _ (F0 m z _ _)) kk).1 (xm_br (X := fun z => W p l e Rm s m args below meth c _ _ _ _ _ (F0 m z _ _)) kk).2
  · obtain ⟨x, y, r, rfl, h⟩ := xm_ii_inv h
    obtain ⟨rfl, t, ht, rfl⟩ := xm_to_inv h
    exact xm_pu fun _ _ _ kk => lv_icmp_eq hx hb hd ht (xm_br (X := fun z => W p l e Rm s m args below meth c _ _ _ _ _ (F0 m z _ _)) kk).1 (xm_br (X := fun z => W p l e Rm s m args below meth c _ _ _ _ _ (F0 m z _ _)) kk).2
  · obtain ⟨x, y, r, rfl, h⟩ := xm_ii_inv h
    obtain ⟨rfl, t, ht, rfl⟩ := xm_to_inv h
    exact xm_pu fun _ _ _ kk => lv_icmp_ne hx hb hd ht (xm_br (X := fun z => W p l e Rm s m args below meth c _ _ _ _ _ (F0 m z _ _)) kk).1 (fun u => (xm_br (X := fun z => W p l e Rm s m args below meth c _ _ _ _ _ (F0 m z _ _)) kk).2 (fun w => w u))
  · obtain ⟨x, y, r, rfl, h⟩ := xm_ii_inv h
    obtain ⟨rfl, t, ht, rfl⟩ := xm_to_inv h
    exact xm_pu fun _ _ _ kk => lv_icmp_lt hx hb hd ht (xm_br (X := fun z => W p l e Rm s m args below meth c _ _ _ _ _ (F0 m z _ _)) kk).1 (xm_br (X := fun z => W p l e Rm s m args below meth c _ _ _ _ _ (F0 m z _ _)) kk).2
  · obtain ⟨x, y, r, rfl, h⟩ := xm_ii_inv h
    obtain ⟨rfl, t, ht, rfl⟩ := xm_to_inv h
    exact xm_pu fun _ _ _ kk => lv_icmp_ge hx hb hd ht (xm_br (X := fun z => W p l e Rm s m args below meth c _ _ _ _ _ (F0 m z _ _)) kk).1 (xm_br (X := fun z => W p l e Rm s m args below meth c _ _ _ _ _ (F0 m z _ _)) kk).2
  · obtain ⟨x, y, r, rfl, h⟩ := xm_ii_inv h
    obtain ⟨rfl, t, ht, rfl⟩ := xm_to_inv h
    exact xm_pu fun _ _ _ kk => lv_icmp_gt hx hb hd ht (xm_br (X := fun z => W p l e Rm s m args below meth c _ _ _ _ _ (F0 m z _ _)) kk).1 (xm_br (X := fun z => W p l e Rm s m args below meth c _ _ _ _ _ (F0 m z _ _)) kk).2
  · obtain ⟨x, y, r, rfl, h⟩ := xm_ii_inv h
    obtain ⟨rfl, t, ht, rfl⟩ := xm_to_inv h
    exact xm_pu fun _ _ _ kk => lv_icmp_le hx hb hd ht (xm_br (X := fun z => W p l e Rm s m args below meth c _ _ _ _ _ (F0 m z _ _)) kk).1 (xm_br (X := fun z => W p l e Rm s m args below meth c _ _ _ _ _ (F0 m z _ _)) kk).2
  · split at h
    · obtain ⟨rfl, t, ht, rfl⟩ := xm_to_inv h
      exact xm_pu fun _ _ _ kk => lv_ifnonnull hx hb hd ht kk
    · obtain ⟨rfl, t, ht, rfl⟩ := xm_to_inv h
      exact xm_pu fun _ _ _ kk => lv_ifnonnullN hx hb hd kk
    · cases h
  · obtain ⟨rfl, t, ht, rfl⟩ := xm_to_inv h
    exact xm_pu fun _ _ _ kk => lv_goto hx hb hd ht kk
  · rename_i df lo hi offs
    obtain ⟨x, r, rfl, h9⟩ := xm_i1_inv h
    clear h
    split at h9
    · rename_i off ho
      split at h9
      · rename_i t hj
        have e0 := xm_some h9
        subst e0
        refine xm_pu fun _ _ _ kk => ?_
        by_cases hr : x.toInt < lo ∨ hi < x.toInt
        · rw [if_pos hr] at ho
          cases ho
          exact lv_tableOut hx hb hd hr (xm_jp_inv hj) kk
        · rw [if_neg hr] at ho
          exact lv_tableIn hx hb hd (fun z => hr (Or.inl z)) (fun z => hr (Or.inr z)) ho (xm_jp_inv hj) kk
      · cases h9
    · cases h9
  · obtain ⟨x, r, rfl, h⟩ := xm_i1_inv h
    obtain ⟨hz, h⟩ := xm_if_inv h
    split at h
    · rename_i t hj
      have e0 := xm_some h
      subst e0
      exact xm_pu fun _ _ _ kk => lv_lookup hx hb hd hz rfl (xm_jp_inv hj) kk
    · cases h
  · exact xm_i_get C hd h
  · exact xm_i_put C hd h
  · exact xm_i_arr C hd h
  · exact xm_i_arr C hd h
  · exact xm_i_arr C hd h
  · exact xm_i_arr C hd h
  · exact xm_i_arr C hd h
  · exact xm_i_arr C hd h
  · exact xm_i_obj C hd h
  · exact xm_i_obj C hd h
  · exact xm_i_stc C hd h
  · exact (xm_cal_no h).elim
  · exact xm_i_spe C hd h
  · exact (xm_ret_no h).elim
  · exact (xm_ret_no h).elim
  · exact (xm_ret_no h).elim
  · exact (xm_ret_no h).elim
  · cases h
end XMI3
