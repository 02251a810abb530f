/-! an instruction of the abstract machine as an equation -/
def xm_kd (lay : xm_L) (o : Nat) : Nat := ((lay.2[o]?).map (·.1)).getD 999
def xm_sz (lay : xm_L) (o : Nat) : Nat := ((lay.2[o]?).map (·.2)).getD 0
theorem xm_kd_sz {lay : xm_L} {o k : Nat} (h : xm_kd lay o = k) (hk : k < 999) : lay.2[o]? = some (k, xm_sz lay o) := by
  unfold xm_kd at h
  unfold xm_sz
  cases hl : lay.2[o]? with
  | none => rw [hl] at h; simp at h; omega
  | some q => rw [hl] at h; obtain ⟨a, b⟩ := q; simp at h; subst h; rfl
theorem xm_rem32 (x z : Int32) : x - x / z * z = x % z := by
  apply Int32.toInt_inj.mp
  rw [Int32.toInt_sub, Int32.toInt_mul, Int32.toInt_div, Int32.toInt_mod]
  have e : (x.toInt - ((x.toInt.tdiv z.toInt).bmod (2 ^ 32) * z.toInt).bmod (2 ^ 32)).bmod (2 ^ 32) = (x.toInt.tmod z.toInt).bmod (2 ^ 32) := by
    rw [Int.bmod_mul_bmod, Int.sub_bmod_bmod, Int.tmod_def, Int.mul_comm]
  rw [e, ← Int32.toInt_mod, Int32.toInt_bmod]
theorem xm_rem64 (x z : Int64) : x - x / z * z = x % z := by
  apply Int64.toInt_inj.mp
  rw [Int64.toInt_sub, Int64.toInt_mul, Int64.toInt_div, Int64.toInt_mod]
  have e : (x.toInt - ((x.toInt.tdiv z.toInt).bmod (2 ^ 64) * z.toInt).bmod (2 ^ 64)).bmod (2 ^ 64) = (x.toInt.tmod z.toInt).bmod (2 ^ 64) := by
    rw [Int.bmod_mul_bmod, Int.sub_bmod_bmod, Int.tmod_def, Int.mul_comm]
  rw [e, ← Int64.toInt_mod, Int64.toInt_bmod]
section XMDN
variable {d y pc n t t' : Nat} {q : xm_q} {i : Instr} {L L' : xm_V} {st st' : List Value} {lay lay' : xm_L} {I I' : xm_I} {J J' : xm_J} {R R' : xm_R}
theorem dn_step (hk : xm_mts[y]? = some q) (hd : decode q.2.2.1 pc = .ok (i, n)) {w : xm_N ⊕ (Option Value ⊕ xm_C)} (h : xm_in d q.1 q.2.2.2.2.1 (xm_ise q) n pc L st lay I J R i = some w) : xm_step d y pc L st lay I J R = some w := by
  unfold xm_step; rw [hk]; dsimp only; rw [hd]; exact h
theorem dn_go (hk : xm_mts[y]? = some q) (hd : decode q.2.2.1 pc = .ok (i, n)) (h : xm_in d q.1 q.2.2.2.2.1 (xm_ise q) n pc L st lay I J R i = some (.inl (t, L', st', lay', I', J', R'))) : xm_den d y pc L st lay I J R = xm_den d y t L' st' lay' I' J' R' := xm_den_go (dn_step hk hd h)
theorem dn_ret {v : Option Value} (hk : xm_mts[y]? = some q) (hd : decode q.2.2.1 pc = .ok (i, n)) (h : xm_in d q.1 q.2.2.2.2.1 (xm_ise q) n pc L st lay I J R i = some (.inr (.inl v))) : xm_den d y pc L st lay I J R = some (v, lay, I, J, R) := xm_den_ret (dn_step hk hd h)
theorem dn_if {P : Prop} [hP : Decidable P] (hk : xm_mts[y]? = some q) (hd : decode q.2.2.1 pc = .ok (i, n)) (h : xm_in d q.1 q.2.2.2.2.1 (xm_ise q) n pc L st lay I J R i = some (.inl ((if decide P = true then t else t'), L, st', lay, I, J, R))) : xm_den d y pc L st lay I J R = if P then xm_den d y t L st' lay I J R else xm_den d y t' L st' lay I J R := by
  rw [dn_go hk hd h]
  by_cases hp : P
  · rw [if_pos hp, if_pos (decide_eq_true hp)]
  · rw [if_neg hp, if_neg (by simpa using hp)]
theorem dn_call {y' : Nat} {as r : List Value} {L0 : xm_V} (hk : xm_mts[y]? = some q) (hd : decode q.2.2.1 pc = .ok (i, n)) (h : xm_in (d + 1) q.1 q.2.2.2.2.1 (xm_ise q) n pc L st lay I J R i = some (.inr (.inr (y', as, r)))) (h0 : xm_en (xm_nl y') as = L0) : xm_den (d + 1) y pc L st lay I J R = xm_bd (xm_den d y' 0 L0 [] lay I J R) fun v lay I J R => xm_den (d + 1) y (pc + 3) L (v.toList ++ r) lay I J R := by
  subst h0; exact xm_den_call (dn_step hk hd h)
theorem dn_iconst {z : Int} {v : Int32} (hk : xm_mts[y]? = some q) (hd : decode q.2.2.1 pc = .ok (.iconst z, 1)) (hv : Int32.ofInt z = v) : xm_den d y pc L st lay I J R = xm_den d y (pc + 1) L (.int v :: st) lay I J R := by
  subst hv; exact dn_go hk hd rfl
theorem dn_bipush {z : Int} {v : Int32} (hk : xm_mts[y]? = some q) (hd : decode q.2.2.1 pc = .ok (.bipush z, 2)) (hv : (Int8.ofInt z).toInt32 = v) : xm_den d y pc L st lay I J R = xm_den d y (pc + 2) L (.int v :: st) lay I J R := by
  subst hv; exact dn_go hk hd rfl
theorem dn_sipush {z : Int} {v : Int32} (hk : xm_mts[y]? = some q) (hd : decode q.2.2.1 pc = .ok (.sipush z, 3)) (hv : (Int16.ofInt z).toInt32 = v) : xm_den d y pc L st lay I J R = xm_den d y (pc + 3) L (.int v :: st) lay I J R := by
  subst hv; exact dn_go hk hd rfl
theorem dn_lconst {z : Fin 2} {v : Int64} (hk : xm_mts[y]? = some q) (hd : decode q.2.2.1 pc = .ok (.lconst z, 1)) (hv : Int64.ofNat (z : Nat) = v) : xm_den d y pc L st lay I J R = xm_den d y (pc + 1) L (.long v :: st) lay I J R := by
  subst hv; exact dn_go hk hd rfl
theorem dn_ldc {idx : Nat} {v : Int32} (hk : xm_mts[y]? = some q) (hd : decode q.2.2.1 pc = .ok (.ldc idx, 2)) (hv : xm_ki q.1 idx = some v) : xm_den d y pc L st lay I J R = xm_den d y (pc + 2) L (.int v :: st) lay I J R :=
  dn_go hk hd (by show (match xm_ki q.1 idx with | some v => xm_go 2 pc L lay I J R 2 (.int v :: st) | none => none) = _; rw [hv]; rfl)
theorem dn_ldcw {idx : Nat} {v : Int32} (hk : xm_mts[y]? = some q) (hd : decode q.2.2.1 pc = .ok (.ldc_w idx, 3)) (hv : xm_ki q.1 idx = some v) : xm_den d y pc L st lay I J R = xm_den d y (pc + 3) L (.int v :: st) lay I J R :=
  dn_go hk hd (by show (match xm_ki q.1 idx with | some v => xm_go 3 pc L lay I J R 3 (.int v :: st) | none => none) = _; rw [hv]; rfl)
theorem dn_ldc2 {idx : Nat} {v : Int64} (hk : xm_mts[y]? = some q) (hd : decode q.2.2.1 pc = .ok (.ldc2_w idx, 3)) (hv : xm_kl q.1 idx = some v) : xm_den d y pc L st lay I J R = xm_den d y (pc + 3) L (.long v :: st) lay I J R :=
  dn_go hk hd (by show (match xm_kl q.1 idx with | some v => xm_go 3 pc L lay I J R 3 (.long v :: st) | none => none) = _; rw [hv]; rfl)
theorem dn_iinc {k : Nat} {z : Int} {x c : Int32} (hk : xm_mts[y]? = some q) (hd : decode q.2.2.1 pc = .ok (.iinc k z, 3)) (hl : L[k]? = some (some (.int x))) (hv : Int32.ofInt z = c) (hL : xm_st L k (.int (x + c)) = L') : xm_den d y pc L st lay I J R = xm_den d y (pc + 3) L' st lay I J R := by
  subst hv; subst hL
  exact dn_go hk hd (by show xm_inc 3 pc L st lay I J R k z = _; unfold xm_inc; rw [hl]; rfl)
theorem dn_idiv {x z : Int32} (hk : xm_mts[y]? = some q) (hd : decode q.2.2.1 pc = .ok (.idiv, 1)) (hz : ¬ z = 0) : xm_den d y pc L (.int z :: .int x :: st) lay I J R = xm_den d y (pc + 1) L (.int (x / z) :: st) lay I J R :=
  dn_go hk hd (by show (if z = 0 then none else xm_go 1 pc L lay I J R 1 (.int (x / z) :: st)) = _; rw [if_neg hz]; rfl)
theorem dn_irem {x z : Int32} (hk : xm_mts[y]? = some q) (hd : decode q.2.2.1 pc = .ok (.irem, 1)) (hz : ¬ z = 0) : xm_den d y pc L (.int z :: .int x :: st) lay I J R = xm_den d y (pc + 1) L (.int (x % z) :: st) lay I J R := by
  rw [← xm_rem32]
  exact dn_go hk hd (by show (if z = 0 then none else xm_go 1 pc L lay I J R 1 (.int (x - x / z * z) :: st)) = _; rw [if_neg hz]; rfl)
theorem dn_ldiv {x z : Int64} (hk : xm_mts[y]? = some q) (hd : decode q.2.2.1 pc = .ok (.ldiv, 1)) (hz : ¬ z = 0) : xm_den d y pc L (.long z :: .long x :: st) lay I J R = xm_den d y (pc + 1) L (.long (x / z) :: st) lay I J R :=
  dn_go hk hd (by show (if z = 0 then none else xm_go 1 pc L lay I J R 1 (.long (x / z) :: st)) = _; rw [if_neg hz]; rfl)
theorem dn_lrem {x z : Int64} (hk : xm_mts[y]? = some q) (hd : decode q.2.2.1 pc = .ok (.lrem, 1)) (hz : ¬ z = 0) : xm_den d y pc L (.long z :: .long x :: st) lay I J R = xm_den d y (pc + 1) L (.long (x % z) :: st) lay I J R := by
  rw [← xm_rem64]
  exact dn_go hk hd (by show (if z = 0 then none else xm_go 1 pc L lay I J R 1 (.long (x - x / z * z) :: st)) = _; rw [if_neg hz]; rfl)
theorem dn_getI {idx ci k ne o N : Nat} (hk : xm_mts[y]? = some q) (hd : decode q.2.2.1 pc = .ok (.getfield idx, 3)) (hf : xm_fl q.1 idx = some (ci, k, ne)) (ht : xm_ft ci k = 0) (hN : xm_nf ci = N) (hl : lay.2[o]? = some (ci, N)) : xm_den d y pc L (.ref o :: st) lay I J R = xm_den d y (pc + 3) L (.int (I o k) :: st) lay I J R := by
  subst hN
  refine dn_go hk hd (show xm_get q.1 3 pc L (.ref o :: st) lay I J R idx = _ from ?_)
  unfold xm_get xm_r1
  dsimp only
  rw [hf]
  dsimp only
  rw [if_pos hl, ht]; rfl
theorem dn_getJ {idx ci k ne o N : Nat} (hk : xm_mts[y]? = some q) (hd : decode q.2.2.1 pc = .ok (.getfield idx, 3)) (hf : xm_fl q.1 idx = some (ci, k, ne)) (ht : xm_ft ci k = 1) (hN : xm_nf ci = N) (hl : lay.2[o]? = some (ci, N)) : xm_den d y pc L (.ref o :: st) lay I J R = xm_den d y (pc + 3) L (.long (J o k) :: st) lay I J R := by
  subst hN
  refine dn_go hk hd (show xm_get q.1 3 pc L (.ref o :: st) lay I J R idx = _ from ?_)
  unfold xm_get xm_r1
  dsimp only
  rw [hf]
  dsimp only
  rw [if_pos hl, ht]; rfl
theorem dn_getR {idx ci k ne o N : Nat} (hk : xm_mts[y]? = some q) (hd : decode q.2.2.1 pc = .ok (.getfield idx, 3)) (hf : xm_fl q.1 idx = some (ci, k, ne)) (ht : xm_ft ci k = 2) (hN : xm_nf ci = N) (hl : lay.2[o]? = some (ci, N)) : xm_den d y pc L (.ref o :: st) lay I J R = xm_den d y (pc + 3) L (va_rf (R o k) :: st) lay I J R := by
  subst hN
  refine dn_go hk hd (show xm_get q.1 3 pc L (.ref o :: st) lay I J R idx = _ from ?_)
  unfold xm_get xm_r1
  dsimp only
  rw [hf]
  dsimp only
  rw [if_pos hl, ht]; rfl
theorem dn_putI {idx ci k ne o N : Nat} {x : Int32} (hk : xm_mts[y]? = some q) (hd : decode q.2.2.1 pc = .ok (.putfield idx, 3)) (hf : xm_fl q.1 idx = some (ci, k, ne)) (ht : xm_ft ci k = 0) (hty : xm_ty ci k = .int) (hfi : xm_fi ci k = false) (hN : xm_nf ci = N) (hl : lay.2[o]? = some (ci, N)) : xm_den d y pc L (.int x :: .ref o :: st) lay I J R = xm_den d y (pc + 3) L st lay (xm_up I o k x) J R := by
  subst hN
  refine dn_go hk hd (show xm_put q.1 (xm_ise q) 3 pc L (.int x :: .ref o :: st) lay I J R idx = _ from ?_)
  unfold xm_put
  rw [hf]
  dsimp only
  rw [if_pos ⟨hl, Or.inl hfi⟩, ht]
  show (if narrow (xm_ty ci k) (.int x) = .int x then xm_go 3 pc L lay (xm_up I o k x) J R 3 st else none) = _
  rw [hty]; exact (if_pos rfl).trans rfl
theorem dn_putZ {idx ci k ne o N : Nat} {x : Int32} (hk : xm_mts[y]? = some q) (hd : decode q.2.2.1 pc = .ok (.putfield idx, 3)) (hf : xm_fl q.1 idx = some (ci, k, ne)) (ht : xm_ft ci k = 0) (hty : xm_ty ci k = .boolean) (hfi : xm_fi ci k = false) (hN : xm_nf ci = N) (hl : lay.2[o]? = some (ci, N)) (hx : x = 0 ∨ x = 1) : xm_den d y pc L (.int x :: .ref o :: st) lay I J R = xm_den d y (pc + 3) L st lay (xm_up I o k x) J R := by
  subst hN
  refine dn_go hk hd (show xm_put q.1 (xm_ise q) 3 pc L (.int x :: .ref o :: st) lay I J R idx = _ from ?_)
  unfold xm_put
  rw [hf]
  dsimp only
  rw [if_pos ⟨hl, Or.inl hfi⟩, ht]
  show (if narrow (xm_ty ci k) (.int x) = .int x then xm_go 3 pc L lay (xm_up I o k x) J R 3 st else none) = _
  rw [hty]; exact (if_pos (by rcases hx with rfl | rfl <;> rfl)).trans rfl
theorem dn_putJ {idx ci k ne o N : Nat} {x : Int64} (hk : xm_mts[y]? = some q) (hd : decode q.2.2.1 pc = .ok (.putfield idx, 3)) (hf : xm_fl q.1 idx = some (ci, k, ne)) (ht : xm_ft ci k = 1) (hfi : xm_fi ci k = false) (hN : xm_nf ci = N) (hl : lay.2[o]? = some (ci, N)) : xm_den d y pc L (.long x :: .ref o :: st) lay I J R = xm_den d y (pc + 3) L st lay I (xm_up J o k x) R := by
  subst hN
  refine dn_go hk hd (show xm_put q.1 (xm_ise q) 3 pc L (.long x :: .ref o :: st) lay I J R idx = _ from ?_)
  unfold xm_put
  rw [hf]
  dsimp only
  rw [if_pos ⟨hl, Or.inl hfi⟩, ht]; rfl
theorem dn_putR {idx ci k ne o N a : Nat} (hk : xm_mts[y]? = some q) (hd : decode q.2.2.1 pc = .ok (.putfield idx, 3)) (hf : xm_fl q.1 idx = some (ci, k, ne)) (ht : xm_ft ci k = 2) (hfi : xm_fi ci k = false ∨ (ne = 0 ∧ xm_ise q = true ∧ ci = q.1)) (hN : xm_nf ci = N) (hl : lay.2[o]? = some (ci, N)) : xm_den d y pc L (.ref a :: .ref o :: st) lay I J R = xm_den d y (pc + 3) L st lay I J (xm_up R o k (some a)) := by
  subst hN
  refine dn_go hk hd (show xm_put q.1 (xm_ise q) 3 pc L (.ref a :: .ref o :: st) lay I J R idx = _ from ?_)
  unfold xm_put
  rw [hf]
  dsimp only
  rw [if_pos ⟨hl, hfi⟩, ht]; rfl
theorem dn_iald {o : Nat} {j : Int32} (hk : xm_mts[y]? = some q) (hd : decode q.2.2.1 pc = .ok (.iaload, 1)) (hl : xm_kd lay o = 100) (hj : vp_in j (xm_sz lay o)) : xm_den d y pc L (.int j :: .ref o :: st) lay I J R = xm_den d y (pc + 1) L (.int (I o j.toNatClampNeg) :: st) lay I J R := by
  refine dn_go hk hd (show xm_arr 1 pc L (.int j :: .ref o :: st) lay I J R .iaload = _ from ?_)
  show xm_ar lay 100 o j _ = _
  unfold xm_ar
  rw [xm_kd_sz hl (by omega)]
  dsimp only
  rw [if_pos ⟨rfl, hj⟩]; rfl
theorem dn_aald {o : Nat} {j : Int32} (hk : xm_mts[y]? = some q) (hd : decode q.2.2.1 pc = .ok (.aaload, 1)) (hl : xm_kd lay o = 102) (hj : vp_in j (xm_sz lay o)) : xm_den d y pc L (.int j :: .ref o :: st) lay I J R = xm_den d y (pc + 1) L (va_rf (R o j.toNatClampNeg) :: st) lay I J R := by
  refine dn_go hk hd (show xm_arr 1 pc L (.int j :: .ref o :: st) lay I J R .aaload = _ from ?_)
  show xm_ar lay 102 o j _ = _
  unfold xm_ar
  rw [xm_kd_sz hl (by omega)]
  dsimp only
  rw [if_pos ⟨rfl, hj⟩]; rfl
theorem dn_iast {o : Nat} {j x : Int32} (hk : xm_mts[y]? = some q) (hd : decode q.2.2.1 pc = .ok (.iastore, 1)) (hl : xm_kd lay o = 100) (hj : vp_in j (xm_sz lay o)) : xm_den d y pc L (.int x :: .int j :: .ref o :: st) lay I J R = xm_den d y (pc + 1) L st lay (xm_up I o j.toNatClampNeg x) J R := by
  refine dn_go hk hd (show xm_arr 1 pc L (.int x :: .int j :: .ref o :: st) lay I J R .iastore = _ from ?_)
  show xm_ar lay 100 o j _ = _
  unfold xm_ar
  rw [xm_kd_sz hl (by omega)]
  dsimp only
  rw [if_pos ⟨rfl, hj⟩]; rfl
theorem dn_aast {o x : Nat} {j : Int32} (hk : xm_mts[y]? = some q) (hd : decode q.2.2.1 pc = .ok (.aastore, 1)) (hl : xm_kd lay o = 102) (hx : lay.2[x]? = some (10, 2)) (hj : vp_in j (xm_sz lay o)) : xm_den d y pc L (.ref x :: .int j :: .ref o :: st) lay I J R = xm_den d y (pc + 1) L st lay I J (xm_up R o j.toNatClampNeg (some x)) := by
  refine dn_go hk hd (show xm_arr 1 pc L (.ref x :: .int j :: .ref o :: st) lay I J R .aastore = _ from ?_)
  show (if lay.2[x]? = some (10, xm_nf 10) then xm_ar lay 102 o j _ else none) = _
  rw [if_pos (show lay.2[x]? = some (10, xm_nf 10) from hx)]
  unfold xm_ar
  rw [xm_kd_sz hl (by omega)]
  dsimp only
  rw [if_pos ⟨rfl, hj⟩]; rfl
theorem dn_alen {o : Nat} (hk : xm_mts[y]? = some q) (hd : decode q.2.2.1 pc = .ok (.arraylength, 1)) (hl : 100 ≤ xm_kd lay o ∧ xm_kd lay o ≤ 102) : xm_den d y pc L (.ref o :: st) lay I J R = xm_den d y (pc + 1) L (.int (Int32.ofNat (xm_sz lay o)) :: st) lay I J R := by
  refine dn_go hk hd (show xm_arr 1 pc L (.ref o :: st) lay I J R .arraylength = _ from ?_)
  unfold xm_arr
  dsimp only
  rw [xm_kd_sz (rfl : xm_kd lay o = xm_kd lay o) (by omega)]
  dsimp only
  rw [if_pos hl]; rfl
theorem dn_newI {z : Int32} (hk : xm_mts[y]? = some q) (hd : decode q.2.2.1 pc = .ok (.newarray .int, 2)) {ls : List (Nat × Nat)} (hz : ¬ z < 0 ∧ z.toNatClampNeg ≤ 20000) : xm_den d y pc L (.int z :: st) (true, ls) I J R = xm_den d y (pc + 2) L (.ref ls.length :: st) (true, ls ++ [(100, z.toNatClampNeg)]) (xm_zr I ls.length 0) J R := by
  refine dn_go hk hd (show xm_arr 2 pc L (.int z :: st) (true, ls) I J R (.newarray .int) = _ from ?_)
  unfold xm_arr
  dsimp only
  rw [if_pos ⟨rfl, hz⟩]; rfl
theorem dn_new {idx ci N : Nat} (hk : xm_mts[y]? = some q) (hd : decode q.2.2.1 pc = .ok (.new idx, 3)) {ls : List (Nat × Nat)} (hn : xm_nw q.1 idx = some ci) (hN : xm_nf ci = N) : xm_den d y pc L st (true, ls) I J R = xm_den d y (pc + 3) L (.ref ls.length :: st) (true, ls ++ [(ci, N)]) (xm_zr I ls.length 0) (xm_zr J ls.length 0) (xm_zr R ls.length none) := by
  subst hN
  refine dn_go hk hd (show xm_obj q.1 3 pc L st (true, ls) I J R (.new idx) = _ from ?_)
  unfold xm_obj
  dsimp only
  rw [hn]
  dsimp only
  rw [if_pos rfl]; rfl
theorem dn_newA {z : Int32} (hk : xm_mts[y]? = some q) (hd : decode q.2.2.1 pc = .ok (.anewarray 7, 3)) {ls : List (Nat × Nat)} (hq : q.1 = 11) (hz : ¬ z < 0 ∧ z.toNatClampNeg ≤ 20000) : xm_den d y pc L (.int z :: st) (true, ls) I J R = xm_den d y (pc + 3) L (.ref ls.length :: st) (true, ls ++ [(102, z.toNatClampNeg)]) I J (xm_zr R ls.length none) := by
  refine dn_go hk hd (show xm_obj q.1 3 pc L (.int z :: st) (true, ls) I J R (.anewarray 7) = _ from ?_)
  unfold xm_obj
  dsimp only
  rw [if_pos ⟨hq, rfl, rfl, hz⟩]; rfl
theorem dn_objinit {idx o : Nat} (hk : xm_mts[y]? = some q) (hd : decode q.2.2.1 pc = .ok (.invokespecial idx, 3)) (ho : xm_ob q.1 idx = true) (hc : xm_cs st ≤ 8) : xm_den (d + 1) y pc L (.ref o :: st) lay I J R = xm_den (d + 1) y (pc + 3) L st lay I J R := by
  refine dn_go hk hd (show xm_spe (d + 1) q.1 3 pc L (.ref o :: st) lay I J R idx = _ from ?_)
  unfold xm_spe
  rw [if_pos ho]
  show (if 0 < d + 1 ∧ xm_cs st ≤ 8 then _ else none) = _
  rw [if_pos ⟨by omega, hc⟩]; rfl
/-- a call's row, static -/
theorem dn_cS {idx y' k : Nat} {q' : xm_q} {as r : List Value} {L0 : xm_V} (hk : xm_mts[y]? = some q) (hd : decode q.2.2.1 pc = .ok (.invokestatic idx, 3)) (hm : xm_ma q.1 idx = none) (hc : xm_ca q.1 idx = some (y', k)) (hq : xm_mts[y']? = some q') (hk2 : k = 0 ∨ k = 3) (hnp : xm_np q'.2.1 = as.length) (hst : st = as.reverse ++ r) (hcs : xm_cs r ≤ 8) (hsl : (xm_sl as).length ≤ q'.2.2.2.1) (h0 : xm_en q'.2.2.2.1 as = L0) :
    xm_den (d + 1) y pc L st lay I J R = xm_bd (xm_den d y' 0 L0 [] lay I J R) fun v lay I J R => xm_den (d + 1) y (pc + 3) L (v.toList ++ r) lay I J R := by
  refine dn_call hk hd (show xm_sta' (d + 1) q.1 3 pc L st lay I J R idx = _ from ?_) (by unfold xm_nl; rw [hq]; exact h0)
  unfold xm_sta'
  rw [hm]
  dsimp only
  unfold xm_cal
  rw [hc]
  dsimp only
  rw [hq]
  dsimp only
  have e1 : st.take as.length = as.reverse := by rw [hst, List.take_left' (by simp)]
  have e2 : st.drop as.length = r := by rw [hst, List.drop_left' (by simp)]
  rw [if_pos ⟨rfl, hk2⟩, if_pos (rfl : (0 : Nat) = 0), Nat.add_zero, hnp, e1, e2, List.reverse_reverse, if_pos ⟨by rw [hst]; simp, hcs, hsl⟩]
  rfl
/-- a call's row, of an object -/
theorem dn_cV {idx y' a oc N : Nat} {q' : xm_q} {as r : List Value} {L0 : xm_V} (hk : xm_mts[y]? = some q) (hd : decode q.2.2.1 pc = .ok (.invokevirtual idx, 3)) (hc : xm_ca q.1 idx = some (y', 1)) (hq : xm_mts[y']? = some q') (hnp : xm_np q'.2.1 = as.length) (hst : st = as.reverse ++ .ref a :: r) (hcs : xm_cs r ≤ 8) (hsl : (xm_sl (.ref a :: as)).length ≤ q'.2.2.2.1) (h0 : xm_en q'.2.2.2.1 (.ref a :: as) = L0) (ho : q'.1 = oc) (hN : xm_nf oc = N) (hl : lay.2[a]? = some (oc, N)) :
    xm_den (d + 1) y pc L st lay I J R = xm_bd (xm_den d y' 0 L0 [] lay I J R) fun v lay I J R => xm_den (d + 1) y (pc + 3) L (v.toList ++ r) lay I J R := by
  subst ho; subst hN
  refine dn_call (as := .ref a :: as) hk hd (show xm_cal q.1 3 st lay 1 idx = _ from ?_) (by unfold xm_nl; rw [hq]; exact h0)
  unfold xm_cal
  rw [hc]
  dsimp only
  rw [hq]
  dsimp only
  have e0 : as.reverse ++ .ref a :: r = (Value.ref a :: as).reverse ++ r := by simp
  have e1 : st.take (as.length + 1) = (Value.ref a :: as).reverse := by rw [hst, e0, List.take_left' (by simp)]
  have e2 : st.drop (as.length + 1) = r := by rw [hst, e0, List.drop_left' (by simp)]
  rw [if_pos ⟨rfl, Or.inl rfl⟩, if_neg (by omega : ¬ (1 : Nat) = 0), hnp, e1, e2, List.reverse_reverse, if_pos ⟨by rw [hst]; simp, hcs, hsl⟩]
  show (if lay.2[a]? = some (q'.1, xm_nf q'.1) then _ else none) = _
  rw [if_pos hl]
/-- a constructor's -/
theorem dn_cI {idx y' a k : Nat} {q' : xm_q} {as r : List Value} {L0 : xm_V} (hk : xm_mts[y]? = some q) (hd : decode q.2.2.1 pc = .ok (.invokespecial idx, 3)) (hob : xm_ob q.1 idx = false) (hc : xm_ca q.1 idx = some (y', k)) (hk2 : k = 2 ∨ k = 5) (hq : xm_mts[y']? = some q') (hnp : xm_np q'.2.1 = as.length) (hst : st = as.reverse ++ .ref a :: r) (hcs : xm_cs r ≤ 8) (hsl : (xm_sl (.ref a :: as)).length ≤ q'.2.2.2.1) (h0 : xm_en q'.2.2.2.1 (.ref a :: as) = L0) :
    xm_den (d + 1) y pc L st lay I J R = xm_bd (xm_den d y' 0 L0 [] lay I J R) fun v lay I J R => xm_den (d + 1) y (pc + 3) L (v.toList ++ r) lay I J R := by
  refine dn_call (as := .ref a :: as) hk hd (show xm_spe (d + 1) q.1 3 pc L st lay I J R idx = _ from ?_) (by unfold xm_nl; rw [hq]; exact h0)
  unfold xm_spe
  rw [if_neg (by rw [hob]; decide)]
  unfold xm_cal
  rw [hc]
  dsimp only
  rw [hq]
  dsimp only
  have e0 : as.reverse ++ .ref a :: r = (Value.ref a :: as).reverse ++ r := by simp
  have e1 : st.take (as.length + 1) = (Value.ref a :: as).reverse := by rw [hst, e0, List.take_left' (by simp)]
  have e2 : st.drop (as.length + 1) = r := by rw [hst, e0, List.drop_left' (by simp)]
  rw [if_pos ⟨rfl, hk2⟩, if_neg (by omega : ¬ (2 : Nat) = 0), hnp, e1, e2, List.reverse_reverse, if_pos ⟨by rw [hst]; simp, hcs, hsl⟩]
  rfl
theorem dn_mxI {idx : Nat} {x z : Int32} (hk : xm_mts[y]? = some q) (hd : decode q.2.2.1 pc = .ok (.invokestatic idx, 3)) (hm : xm_ma q.1 idx = some 0) (hc : xm_cs st ≤ 8) : xm_den (d + 1) y pc L (.int z :: .int x :: st) lay I J R = xm_den (d + 1) y (pc + 3) L (.int (if x < z then z else x) :: st) lay I J R := by
  refine dn_go hk hd (show xm_sta' (d + 1) q.1 3 pc L _ lay I J R idx = _ from ?_)
  unfold xm_sta'
  rw [hm]
  show (if 0 < d + 1 ∧ xm_cs st ≤ 8 then _ else none) = _
  rw [if_pos ⟨by omega, hc⟩]; rfl
theorem dn_mnI {idx : Nat} {x z : Int32} (hk : xm_mts[y]? = some q) (hd : decode q.2.2.1 pc = .ok (.invokestatic idx, 3)) (hm : xm_ma q.1 idx = some 1) (hc : xm_cs st ≤ 8) : xm_den (d + 1) y pc L (.int z :: .int x :: st) lay I J R = xm_den (d + 1) y (pc + 3) L (.int (if z < x then z else x) :: st) lay I J R := by
  refine dn_go hk hd (show xm_sta' (d + 1) q.1 3 pc L _ lay I J R idx = _ from ?_)
  unfold xm_sta'
  rw [hm]
  show (if 0 < d + 1 ∧ xm_cs st ≤ 8 then _ else none) = _
  rw [if_pos ⟨by omega, hc⟩]; rfl
theorem dn_mxJ {idx : Nat} {x z : Int64} (hk : xm_mts[y]? = some q) (hd : decode q.2.2.1 pc = .ok (.invokestatic idx, 3)) (hm : xm_ma q.1 idx = some 2) (hc : xm_cs st ≤ 8) : xm_den (d + 1) y pc L (.long z :: .long x :: st) lay I J R = xm_den (d + 1) y (pc + 3) L (.long (if z < x then x else z) :: st) lay I J R := by
  refine dn_go hk hd (show xm_sta' (d + 1) q.1 3 pc L _ lay I J R idx = _ from ?_)
  unfold xm_sta'
  rw [hm]
  show (if 0 < d + 1 ∧ xm_cs st ≤ 8 then _ else none) = _
  rw [if_pos ⟨by omega, hc⟩]; rfl
theorem dn_mnJ {idx : Nat} {x z : Int64} (hk : xm_mts[y]? = some q) (hd : decode q.2.2.1 pc = .ok (.invokestatic idx, 3)) (hm : xm_ma q.1 idx = some 3) (hc : xm_cs st ≤ 8) : xm_den (d + 1) y pc L (.long z :: .long x :: st) lay I J R = xm_den (d + 1) y (pc + 3) L (.long (if z < x then z else x) :: st) lay I J R := by
  refine dn_go hk hd (show xm_sta' (d + 1) q.1 3 pc L _ lay I J R idx = _ from ?_)
  unfold xm_sta'
  rw [hm]
  show (if 0 < d + 1 ∧ xm_cs st ≤ 8 then _ else none) = _
  rw [if_pos ⟨by omega, hc⟩]; rfl
theorem dn_zret {v : Int32} (hk : xm_mts[y]? = some q) (hd : decode q.2.2.1 pc = .ok (.ireturn, 1)) (hr : q.2.2.2.2.1 = some .boolean) (hv : v = 0 ∨ v = 1) : xm_den d y pc L [.int v] lay I J R = some (some (.int v), lay, I, J, R) := by
  refine dn_ret hk hd (show xm_ret q.2.2.2.2.1 1 [.int v] .ireturn = _ from ?_)
  unfold xm_ret
  rw [hr]
  dsimp only
  rw [if_pos ⟨rfl, by rcases hv with rfl | rfl <;> rfl⟩]
theorem dn_iret {v : Int32} (hk : xm_mts[y]? = some q) (hd : decode q.2.2.1 pc = .ok (.ireturn, 1)) (hr : q.2.2.2.2.1 = some .int) : xm_den d y pc L [.int v] lay I J R = some (some (.int v), lay, I, J, R) := by
  refine dn_ret hk hd (show xm_ret q.2.2.2.2.1 1 [.int v] .ireturn = _ from ?_)
  unfold xm_ret
  rw [hr]
  dsimp only
  rw [if_pos ⟨rfl, rfl⟩]
theorem dn_np (q : xm_q) (n : Nat) (h : xm_np q.2.1 = n) : xm_np q.2.1 = n := h
theorem dn_tab {ret : Option FieldType} {ini : Bool} {oc : Nat} {df lo hi off : Int} {offs : Array Int} {x : Int32} (e : (if x.toInt < lo ∨ hi < x.toInt then some df else offs[(x.toInt - lo).toNat]?) = some off) (hj : xm_jp pc off = some t) : xm_in d oc ret ini n pc L (.int x :: st) lay I J R (.tableswitch df lo hi offs) = some (.inl (t, L, st, lay, I, J, R)) := by
  show (match (if x.toInt < lo ∨ hi < x.toInt then some df else offs[(x.toInt - lo).toNat]?) with | some off => (match xm_jp pc off with | some t => some (.inl (t, L, st, lay, I, J, R)) | none => none) | none => none) = (_ : xm_S)
  rw [e]
  dsimp only
  rw [hj]
theorem dn_tabD {ret : Option FieldType} {ini : Bool} {oc : Nat} {df lo hi : Int} {offs : Array Int} {x : Int32} (hx : x.toInt < lo ∨ hi < x.toInt) (hj : xm_jp pc df = some t) : xm_in d oc ret ini n pc L (.int x :: st) lay I J R (.tableswitch df lo hi offs) = some (.inl (t, L, st, lay, I, J, R)) := dn_tab (by rw [if_pos hx]) hj
theorem dn_lk {ret : Option FieldType} {ini : Bool} {oc : Nat} {df off : Int} {ps : Array (Int × Int)} {x : Int32} (hz : (ps.toList.zip (ps.toList.drop 1)).all (fun (a, next) => a.1 < next.1) = true) (e : Op.lookupswitch.offset ps.toList df x.toInt = off) (hj : xm_jp pc off = some t) : xm_in d oc ret ini n pc L (.int x :: st) lay I J R (.lookupswitch df ps) = some (.inl (t, L, st, lay, I, J, R)) := by
  show (if (ps.toList.zip (ps.toList.drop 1)).all (fun (a, next) => a.1 < next.1) = true then (match xm_jp pc (Op.lookupswitch.offset ps.toList df x.toInt) with | some t => some (.inl (t, L, st, lay, I, J, R)) | none => none) else none) = (_ : xm_S)
  rw [if_pos hz, e, hj]
theorem dn_bd {v : Option Value} {k : Option Value → xm_L → xm_I → xm_J → xm_R → xm_O} : xm_bd (some (v, lay, I, J, R)) k = k v lay I J R := rfl
theorem dn_tl {v : Value} {r : List Value} : (some v).toList ++ r = v :: r := rfl
theorem dn_tn {r : List Value} : (none : Option Value).toList ++ r = r := rfl
end XMDN
