/-! the abstract machine: a world of numbered cells; ints, longs and references of each cell by place; which cell is what stands in a layout. Runs of it are carried over to the machine itself in a later part. -/
abbrev xm_L : Type := Bool × List (Nat × Nat)
abbrev xm_I : Type := Nat → Nat → Int32
abbrev xm_J : Type := Nat → Nat → Int64
abbrev xm_R : Type := Nat → Nat → Option Nat
abbrev xm_V : Type := List (Option Value)
abbrev xm_O : Type := Option (Option Value × xm_L × xm_I × xm_J × xm_R)
abbrev xm_N : Type := Nat × xm_V × List Value × xm_L × xm_I × xm_J × xm_R
abbrev xm_C : Type := Nat × List Value × List Value
abbrev xm_S : Type := Option (xm_N ⊕ (Option Value ⊕ xm_C))
def xm_up {α : Type} (f : Nat → Nat → α) (o k : Nat) (v : α) : Nat → Nat → α := fun a j => if a = o then (if j = k then v else f a j) else f a j
def xm_zr {α : Type} (f : Nat → Nat → α) (o : Nat) (v : α) : Nat → Nat → α := fun a j => if a = o then v else f a j
/-- a slot behind which something is stored: a long there is gone -/
def xm_sm : Option Value → Option Value
  | some (.long _) => none
  | some (.double _) => none
  | v => v
def xm_st (L : xm_V) (i : Nat) (v : Value) : xm_V := match i with
  | 0 => L.set 0 (some v)
  | i + 1 => (L.set i (xm_sm ((L[i]?).getD none))).set (i + 1) (some v)
def xm_st2 (L : xm_V) (i : Nat) (v : Value) : xm_V := (xm_st L i v).set (i + 1) none
def xm_sl (as : List Value) : xm_V := as.flatMap fun v => if v.category = 2 then [some v, none] else [some v]
def xm_en (nL : Nat) (as : List Value) : xm_V := xm_sl as ++ List.replicate (nL - (xm_sl as).length) none
def xm_nf (ci : Nat) : Nat := ((xm_cls[ci]?).map (fun q => q.2.2)).getD 0
def xm_ty (ci k : Nat) : FieldType := ((xm_tys[ci]?).getD (fun _ => .int)) k
def xm_fi (ci k : Nat) : Bool := ((xm_cls[ci]?).map (fun q => (q.2.1 k).2.2.2)).getD true
def xm_fl (oc idx : Nat) : Option (Nat × Nat × Nat) := (xm_fls.find? (fun r => r.1 == oc && r.2.1 == idx)).map (fun r => (r.2.2.1, r.2.2.2.1, r.2.2.2.2.1))
def xm_ca (oc idx : Nat) : Option (Nat × Nat) := (xm_cas.find? (fun r => r.1 == oc && r.2.1 == idx)).map (fun r => (r.2.2.1, r.2.2.2.1))
def xm_ob (oc idx : Nat) : Bool := xm_obs.any (fun r => r.1 == oc && r.2.1 == idx)
def xm_ki (oc idx : Nat) : Option Int32 := (xm_kis.find? (fun r => r.1 == oc && r.2.1 == idx)).map (fun r => r.2.2.1)
def xm_kl (oc idx : Nat) : Option Int64 := (xm_kls.find? (fun r => r.1 == oc && r.2.1 == idx)).map (fun r => r.2.2.1)
def xm_ma (oc idx : Nat) : Option Nat := (xm_mas.find? (fun r => r.1 == oc && r.2.1 == idx)).map (fun r => r.2.2.1)
def xm_nw (oc idx : Nat) : Option Nat := (xm_nws.find? (fun r => r.1 == oc && r.2.1 == idx)).map (fun r => r.2.2.1)
def xm_np (q : MethodName) : Nat := ((parseMethodDescriptor q.desc).map (fun d => d.parameters.length)).getD 0
def xm_cs (st : List Value) : Nat := (st.map fun v => v.category).sum
def xm_jp (pc : Nat) (off : Int) : Option Nat := if 0 ≤ (pc : Int) + off then some ((pc : Int) + off).toNat else none
def xm_ii (st : List Value) (f : Int32 → Int32 → List Value → xm_S) : xm_S := match st with
  | .int y :: .int x :: r => f x y r
  | _ => none
def xm_i1 (st : List Value) (f : Int32 → List Value → xm_S) : xm_S := match st with
  | .int x :: r => f x r
  | _ => none
def xm_ll (st : List Value) (f : Int64 → Int64 → List Value → xm_S) : xm_S := match st with
  | .long y :: .long x :: r => f x y r
  | _ => none
def xm_li (st : List Value) (f : Int64 → Int32 → List Value → xm_S) : xm_S := match st with
  | .int y :: .long x :: r => f x y r
  | _ => none
def xm_l1 (st : List Value) (f : Int64 → List Value → xm_S) : xm_S := match st with
  | .long x :: r => f x r
  | _ => none
def xm_r1 (st : List Value) (f : Nat → List Value → xm_S) : xm_S := match st with
  | .ref x :: r => f x r
  | _ => none
def xm_gv (I : xm_I) (J : xm_J) (R : xm_R) (t a k : Nat) : Value := match t with
  | 0 => .int (I a k)
  | 1 => .long (J a k)
  | _ => va_rf (R a k)
def xm_ar (lay : xm_L) (t a : Nat) (i : Int32) (f : xm_S) : xm_S := match lay.2[a]? with
  | some q => if q.1 = t ∧ ¬ (i < 0 ∨ q.2 ≤ i.toNatClampNeg) then f else none
  | none => none
section XMI
variable (d oc : Nat) (ret : Option FieldType) (ini : Bool) (n pc : Nat) (L : xm_V) (st : List Value) (lay : xm_L) (I : xm_I) (J : xm_J) (R : xm_R)
/-- on, with another stack -/
def xm_go (k : Nat) (st' : List Value) : xm_S := if n = k then some (.inl (pc + k, L, st', lay, I, J, R)) else none
def xm_to (off : Int) (b : Bool) (st' : List Value) : xm_S := if n = 3 then (match xm_jp pc off with
  | some t => some (.inl ((if b = true then t else pc + 3), L, st', lay, I, J, R))
  | none => none) else none
def xm_ldi (k i : Nat) : xm_S := match L[i]? with
  | some (some (.int x)) => xm_go n pc L lay I J R k (.int x :: st)
  | _ => none
def xm_ldl (k i : Nat) : xm_S := match L[i]? with
  | some (some (.long x)) => xm_go n pc L lay I J R k (.long x :: st)
  | _ => none
def xm_lda (k i : Nat) : xm_S := match L[i]? with
  | some (some (.ref x)) => xm_go n pc L lay I J R k (.ref x :: st)
  | some (some .null) => xm_go n pc L lay I J R k (.null :: st)
  | _ => none
def xm_sti (k i : Nat) : xm_S := match st with
  | .int x :: r => if i < L.length then xm_go n pc (xm_st L i (.int x)) lay I J R k r else none
  | _ => none
def xm_stl (k i : Nat) : xm_S := match st with
  | .long x :: r => if i + 1 < L.length then xm_go n pc (xm_st2 L i (.long x)) lay I J R k r else none
  | _ => none
def xm_sta (k i : Nat) : xm_S := match st with
  | .ref x :: r => if i < L.length then xm_go n pc (xm_st L i (.ref x)) lay I J R k r else none
  | .null :: r => if i < L.length then xm_go n pc (xm_st L i .null) lay I J R k r else none
  | _ => none
def xm_inc (i : Nat) (z : Int) : xm_S := match L[i]? with
  | some (some (.int x)) => xm_go n pc (xm_st L i (.int (x + Int32.ofInt z))) lay I J R 3 st
  | _ => none
def xm_get (idx : Nat) : xm_S := xm_r1 st fun a r => match xm_fl oc idx with
  | some (ci, k, _) => if lay.2[a]? = some (ci, xm_nf ci) then xm_go n pc L lay I J R 3 (xm_gv I J R (xm_ft ci k) a k :: r) else none
  | none => none
def xm_put (idx : Nat) : xm_S := match xm_fl oc idx, st with
  | some (ci, k, nest), v :: .ref a :: r =>
    if lay.2[a]? = some (ci, xm_nf ci) ∧ (xm_fi ci k = false ∨ (nest = 0 ∧ ini = true ∧ ci = oc)) then
      (match xm_ft ci k, v with
        | 0, .int x => if narrow (xm_ty ci k) (.int x) = .int x then xm_go n pc L lay (xm_up I a k x) J R 3 r else none
        | 1, .long x => xm_go n pc L lay I (xm_up J a k x) R 3 r
        | 2, .ref q => xm_go n pc L lay I J (xm_up R a k (some q)) 3 r
        | _, _ => none)
    else none
  | _, _ => none
def xm_arr (i : Instr) : xm_S := match i, st with
  | .iaload, .int j :: .ref a :: r => xm_ar lay 100 a j (xm_go n pc L lay I J R 1 (.int (I a j.toNatClampNeg) :: r))
  | .aaload, .int j :: .ref a :: r => xm_ar lay 102 a j (xm_go n pc L lay I J R 1 (va_rf (R a j.toNatClampNeg) :: r))
  | .iastore, .int x :: .int j :: .ref a :: r => xm_ar lay 100 a j (xm_go n pc L lay (xm_up I a j.toNatClampNeg x) J R 1 r)
  | .aastore, .ref x :: .int j :: .ref a :: r => if lay.2[x]? = some (10, xm_nf 10) then xm_ar lay 102 a j (xm_go n pc L lay I J (xm_up R a j.toNatClampNeg (some x)) 1 r) else none
  | .arraylength, .ref a :: r => (match lay.2[a]? with
    | some q => if 100 ≤ q.1 ∧ q.1 ≤ 102 then xm_go n pc L lay I J R 1 (.int (Int32.ofNat q.2) :: r) else none
    | none => none)
  | .newarray .int, .int z :: r => if lay.1 = true ∧ ¬ z < 0 ∧ z.toNatClampNeg ≤ 20000 then
      xm_go n pc L (true, lay.2 ++ [(100, z.toNatClampNeg)]) (xm_zr I lay.2.length 0) J R 2 (.ref lay.2.length :: r) else none
  | .newarray .long, .int z :: r => if lay.1 = true ∧ ¬ z < 0 ∧ z.toNatClampNeg ≤ 20000 then
      xm_go n pc L (true, lay.2 ++ [(101, z.toNatClampNeg)]) I (xm_zr J lay.2.length 0) R 2 (.ref lay.2.length :: r) else none
  | _, _ => none
def xm_obj (i : Instr) : xm_S := match i, st with
  | .new idx, r => (match xm_nw oc idx with
    | some ci => if lay.1 = true then xm_go n pc L (true, lay.2 ++ [(ci, xm_nf ci)]) (xm_zr I lay.2.length 0) (xm_zr J lay.2.length 0) (xm_zr R lay.2.length none) 3 (.ref lay.2.length :: r) else none
    | none => none)
  | .anewarray idx, .int z :: r => if oc = 11 ∧ idx = 7 ∧ lay.1 = true ∧ ¬ z < 0 ∧ z.toNatClampNeg ≤ 20000 then
      xm_go n pc L (true, lay.2 ++ [(102, z.toNatClampNeg)]) I J (xm_zr R lay.2.length none) 3 (.ref lay.2.length :: r) else none
  | _, _ => none
def xm_cal (kind idx : Nat) : xm_S := match xm_ca oc idx with
  | some (y, k) => (match xm_mts[y]? with
    | some q => if n = 3 ∧ (k = kind ∨ k = kind + 3) then
        (let np := xm_np q.2.1 + (if kind = 0 then 0 else 1)
         if np ≤ st.length ∧ xm_cs (st.drop np) ≤ 8 ∧ (xm_sl (st.take np).reverse).length ≤ q.2.2.2.1 then
          (match kind, (st.take np).reverse with
            | 0, as => some (.inr (.inr (y, as, st.drop np)))
            | 1, .ref a :: as => if lay.2[a]? = some (q.1, xm_nf q.1) then some (.inr (.inr (y, .ref a :: as, st.drop np))) else none
            | 2, .ref a :: as => some (.inr (.inr (y, .ref a :: as, st.drop np)))
            | _, _ => none) else none)
      else none
    | none => none)
  | none => none
def xm_spe (idx : Nat) : xm_S := if xm_ob oc idx = true then (xm_r1 st fun _ r => if 0 < d ∧ xm_cs r ≤ 8 then xm_go n pc L lay I J R 3 r else none) else xm_cal oc n st lay 2 idx
def xm_sta' (idx : Nat) : xm_S := match xm_ma oc idx with
  | none => xm_cal oc n st lay 0 idx
  | some 0 => xm_ii st fun x y r => if 0 < d ∧ xm_cs r ≤ 8 then xm_go n pc L lay I J R 3 (.int (if x < y then y else x) :: r) else none
  | some 1 => xm_ii st fun x y r => if 0 < d ∧ xm_cs r ≤ 8 then xm_go n pc L lay I J R 3 (.int (if y < x then y else x) :: r) else none
  | some 2 => xm_ll st fun x y r => if 0 < d ∧ xm_cs r ≤ 8 then xm_go n pc L lay I J R 3 (.long (if y < x then x else y) :: r) else none
  | some 3 => xm_ll st fun x y r => if 0 < d ∧ xm_cs r ≤ 8 then xm_go n pc L lay I J R 3 (.long (if y < x then y else x) :: r) else none
  | _ => none
def xm_ret (i : Instr) : xm_S := match i, st with
  | .return_, [] => if n = 1 ∧ ret = none then some (.inr (.inl none)) else none
  | .ireturn, [.int v] => (match ret with
    | some t => if n = 1 ∧ narrow t (.int v) = .int v then some (.inr (.inl (some (.int v)))) else none
    | none => none)
  | .lreturn, [.long v] => if n = 1 ∧ ret = some .long then some (.inr (.inl (some (.long v)))) else none
  | .areturn, [.ref v] => (match ret with
    | some (.object _) => if n = 1 then some (.inr (.inl (some (.ref v)))) else none
    | _ => none)
  | _, _ => none
def xm_in (i : Instr) : xm_S := match i with
  | .iconst z => xm_go n pc L lay I J R 1 (.int (Int32.ofInt z) :: st)
  | .bipush z => xm_go n pc L lay I J R 2 (.int (Int8.ofInt z).toInt32 :: st)
  | .sipush z => xm_go n pc L lay I J R 3 (.int (Int16.ofInt z).toInt32 :: st)
  | .lconst z => xm_go n pc L lay I J R 1 (.long (Int64.ofNat (z : Nat)) :: st)
  | .ldc idx => (match xm_ki oc idx with
    | some v => xm_go n pc L lay I J R 2 (.int v :: st)
    | none => none)
  | .ldc_w idx => (match xm_ki oc idx with
    | some v => xm_go n pc L lay I J R 3 (.int v :: st)
    | none => none)
  | .ldc2_w idx => (match xm_kl oc idx with
    | some v => xm_go n pc L lay I J R 3 (.long v :: st)
    | none => none)
  | .aconst_null => xm_go n pc L lay I J R 1 (.null :: st)
  | .iload_n k => xm_ldi n pc L st lay I J R 1 (k : Nat)
  | .iload k => xm_ldi n pc L st lay I J R 2 k
  | .lload_n k => xm_ldl n pc L st lay I J R 1 (k : Nat)
  | .lload k => xm_ldl n pc L st lay I J R 2 k
  | .aload_n k => xm_lda n pc L st lay I J R 1 (k : Nat)
  | .aload k => xm_lda n pc L st lay I J R 2 k
  | .istore_n k => xm_sti n pc L st lay I J R 1 (k : Nat)
  | .istore k => xm_sti n pc L st lay I J R 2 k
  | .lstore_n k => xm_stl n pc L st lay I J R 1 (k : Nat)
  | .lstore k => xm_stl n pc L st lay I J R 2 k
  | .astore_n k => xm_sta n pc L st lay I J R 1 (k : Nat)
  | .astore k => xm_sta n pc L st lay I J R 2 k
  | .iinc k z => xm_inc n pc L st lay I J R k z
  | .iadd => xm_ii st fun x y r => xm_go n pc L lay I J R 1 (.int (x + y) :: r)
  | .isub => xm_ii st fun x y r => xm_go n pc L lay I J R 1 (.int (x - y) :: r)
  | .imul => xm_ii st fun x y r => xm_go n pc L lay I J R 1 (.int (x * y) :: r)
  | .iand => xm_ii st fun x y r => xm_go n pc L lay I J R 1 (.int (x &&& y) :: r)
  | .ior => xm_ii st fun x y r => xm_go n pc L lay I J R 1 (.int (x ||| y) :: r)
  | .ixor => xm_ii st fun x y r => xm_go n pc L lay I J R 1 (.int (x ^^^ y) :: r)
  | .idiv => xm_ii st fun x y r => if y = 0 then none else xm_go n pc L lay I J R 1 (.int (x / y) :: r)
  | .irem => xm_ii st fun x y r => if y = 0 then none else xm_go n pc L lay I J R 1 (.int (x - x / y * y) :: r)
  | .ishl => xm_ii st fun x y r => xm_go n pc L lay I J R 1 (.int (x <<< (y &&& 31)) :: r)
  | .ishr => xm_ii st fun x y r => xm_go n pc L lay I J R 1 (.int (x >>> (y &&& 31)) :: r)
  | .iushr => xm_ii st fun x y r => xm_go n pc L lay I J R 1 (.int (x.toUInt32 >>> (y.toUInt32 &&& Int32.toUInt32 31)).toInt32 :: r)
  | .ladd => xm_ll st fun x y r => xm_go n pc L lay I J R 1 (.long (x + y) :: r)
  | .lsub => xm_ll st fun x y r => xm_go n pc L lay I J R 1 (.long (x - y) :: r)
  | .lmul => xm_ll st fun x y r => xm_go n pc L lay I J R 1 (.long (x * y) :: r)
  | .land => xm_ll st fun x y r => xm_go n pc L lay I J R 1 (.long (x &&& y) :: r)
  | .lor => xm_ll st fun x y r => xm_go n pc L lay I J R 1 (.long (x ||| y) :: r)
  | .ldiv => xm_ll st fun x y r => if y = 0 then none else xm_go n pc L lay I J R 1 (.long (x / y) :: r)
  | .lrem => xm_ll st fun x y r => if y = 0 then none else xm_go n pc L lay I J R 1 (.long (x - x / y * y) :: r)
  | .lcmp => xm_ll st fun x y r => xm_go n pc L lay I J R 1 (.int (lg_cmp x y) :: r)
  | .lshl => xm_li st fun x y r => xm_go n pc L lay I J R 1 (.long (x <<< (y.toInt64 &&& 63)) :: r)
  | .lshr => xm_li st fun x y r => xm_go n pc L lay I J R 1 (.long (x >>> (y.toInt64 &&& 63)) :: r)
  | .lushr => xm_li st fun x y r => xm_go n pc L lay I J R 1 (.long (x.toUInt64 >>> (y.toInt64.toUInt64 &&& Int64.toUInt64 63)).toInt64 :: r)
  | .i2l => xm_i1 st fun x r => xm_go n pc L lay I J R 1 (.long x.toInt64 :: r)
  | .l2i => xm_l1 st fun x r => xm_go n pc L lay I J R 1 (.int x.toInt32 :: r)
  | .dup => (match st with
    | v :: r => if v.category = 1 then xm_go n pc L lay I J R 1 (v :: v :: r) else none
    | _ => none)
  | .pop => (match st with
    | v :: r => if v.category = 1 then xm_go n pc L lay I J R 1 r else none
    | _ => none)
  | .dup2 => (match st with
    | v :: w :: r => if v.category = 1 ∧ w.category = 1 then xm_go n pc L lay I J R 1 (v :: w :: v :: w :: r) else none
    | _ => none)
  | .ifCond .eq off => xm_i1 st fun x r => xm_to n pc L lay I J R off (decide (x = 0)) r
  | .ifCond .ne off => xm_i1 st fun x r => xm_to n pc L lay I J R off (decide (¬ x = 0)) r
  | .ifCond .lt off => xm_i1 st fun x r => xm_to n pc L lay I J R off (decide (x < 0)) r
  | .ifCond .ge off => xm_i1 st fun x r => xm_to n pc L lay I J R off (decide (0 ≤ x)) r
  | .ifCond .gt off => xm_i1 st fun x r => xm_to n pc L lay I J R off (decide (0 < x)) r
  | .ifCond .le off => xm_i1 st fun x r => xm_to n pc L lay I J R off (decide (x ≤ 0)) r
  | .if_icmp .eq off => xm_ii st fun x y r => xm_to n pc L lay I J R off (decide (x = y)) r
  | .if_icmp .ne off => xm_ii st fun x y r => xm_to n pc L lay I J R off (decide (¬ x = y)) r
  | .if_icmp .lt off => xm_ii st fun x y r => xm_to n pc L lay I J R off (decide (x < y)) r
  | .if_icmp .ge off => xm_ii st fun x y r => xm_to n pc L lay I J R off (decide (y ≤ x)) r
  | .if_icmp .gt off => xm_ii st fun x y r => xm_to n pc L lay I J R off (decide (y < x)) r
  | .if_icmp .le off => xm_ii st fun x y r => xm_to n pc L lay I J R off (decide (x ≤ y)) r
  | .ifnonnull off => (match st with
    | .ref _ :: r => xm_to n pc L lay I J R off true r
    | .null :: r => xm_to n pc L lay I J R off false r
    | _ => none)
  | .goto off => xm_to n pc L lay I J R off true st
  | .tableswitch df lo hi offs => xm_i1 st fun x r =>
      (match (if x.toInt < lo ∨ hi < x.toInt then some df else offs[(x.toInt - lo).toNat]?) with
        | some off => (match xm_jp pc off with
          | some t => some (.inl (t, L, r, lay, I, J, R))
          | none => none)
        | none => none)
  | .lookupswitch df ps => xm_i1 st fun x r => if (ps.toList.zip (ps.toList.drop 1)).all (fun (a, next) => a.1 < next.1) = true then
      (match xm_jp pc (Op.lookupswitch.offset ps.toList df x.toInt) with
        | some t => some (.inl (t, L, r, lay, I, J, R))
        | none => none) else none
  | .getfield idx => xm_get oc n pc L st lay I J R idx
  | .putfield idx => xm_put oc ini n pc L st lay I J R idx
  | .iaload => xm_arr n pc L st lay I J R .iaload
  | .aaload => xm_arr n pc L st lay I J R .aaload
  | .iastore => xm_arr n pc L st lay I J R .iastore
  | .aastore => xm_arr n pc L st lay I J R .aastore
  | .arraylength => xm_arr n pc L st lay I J R .arraylength
  | .newarray t => xm_arr n pc L st lay I J R (.newarray t)
  | .new idx => xm_obj oc n pc L st lay I J R (.new idx)
  | .anewarray idx => xm_obj oc n pc L st lay I J R (.anewarray idx)
  | .invokestatic idx => xm_sta' d oc n pc L st lay I J R idx
  | .invokevirtual idx => xm_cal oc n st lay 1 idx
  | .invokespecial idx => xm_spe d oc n pc L st lay I J R idx
  | .return_ => xm_ret ret n st .return_
  | .ireturn => xm_ret ret n st .ireturn
  | .lreturn => xm_ret ret n st .lreturn
  | .areturn => xm_ret ret n st .areturn
  | _ => none
end XMI
def xm_ise (q : Nat × MethodName × ByteArray × Nat × Option FieldType × Nat × Nat) : Bool := q.2.1.name == "<init>"
def xm_step (d y pc : Nat) (L : xm_V) (st : List Value) (lay : xm_L) (I : xm_I) (J : xm_J) (R : xm_R) : xm_S := match xm_mts[y]? with
  | some q => (match decode q.2.2.1 pc with
    | .ok (i, n) => xm_in d q.1 q.2.2.2.2.1 (xm_ise q) n pc L st lay I J R i
    | .error _ => none)
  | none => none
def xm_bd (r : xm_O) (k : Option Value → xm_L → xm_I → xm_J → xm_R → xm_O) : xm_O := match r with
  | some (v, lay, I, J, R) => k v lay I J R
  | none => none
def xm_nl (y : Nat) : Nat := ((xm_mts[y]?).map (fun q => q.2.2.2.1)).getD 0
def xm_run : Nat → Nat → Nat → Nat → xm_V → List Value → xm_L → xm_I → xm_J → xm_R → xm_O
  | 0, _, _, _, _, _, _, _, _, _ => none
  | n + 1, d, y, pc, L, st, lay, I, J, R => match xm_step d y pc L st lay I J R with
    | none => none
    | some (.inl (pc', L', st', lay', I', J', R')) => xm_run n d y pc' L' st' lay' I' J' R'
    | some (.inr (.inl v)) => some (v, lay, I, J, R)
    | some (.inr (.inr (y', as, r))) => match d with
      | 0 => none
      | d' + 1 => xm_bd (xm_run n d' y' 0 (xm_en (xm_nl y') as) [] lay I J R) fun v lay' I' J' R' => xm_run n (d' + 1) y (pc + 3) L (v.toList ++ r) lay' I' J' R'
theorem xm_bd_some {r : xm_O} {k : Option Value → xm_L → xm_I → xm_J → xm_R → xm_O} {z : Option Value × xm_L × xm_I × xm_J × xm_R} (h : xm_bd r k = some z) : ∃ v lay I J R, r = some (v, lay, I, J, R) ∧ k v lay I J R = some z := by
  cases r with
  | none => cases h
  | some w => obtain ⟨v, lay, I, J, R⟩ := w; exact ⟨v, lay, I, J, R, rfl, h⟩
theorem xm_mono : ∀ (n d y pc : Nat) (L : xm_V) (st : List Value) (lay : xm_L) (I : xm_I) (J : xm_J) (R : xm_R) (z : Option Value × xm_L × xm_I × xm_J × xm_R), xm_run n d y pc L st lay I J R = some z → xm_run (n + 1) d y pc L st lay I J R = some z := by
  intro n
  induction n with
  | zero => intro d y pc L st lay I J R z h; cases h
  | succ n ih =>
    intro d y pc L st lay I J R z h
    rw [xm_run] at h ⊢
    cases hs : xm_step d y pc L st lay I J R with
    | none => rw [hs] at h; cases h
    | some w =>
      rw [hs] at h
      rcases w with ⟨pc', L', st', lay', I', J', R'⟩ | v | ⟨y', as, r⟩
      · exact ih _ _ _ _ _ _ _ _ _ _ h
      · exact h
      · cases d with
        | zero => cases h
        | succ d =>
          obtain ⟨v, lay', I', J', R', h1, h2⟩ := xm_bd_some h
          show xm_bd (xm_run (n + 1) d y' 0 _ [] lay I J R) _ = _
          rw [ih _ _ _ _ _ _ _ _ _ _ h1]
          exact ih _ _ _ _ _ _ _ _ _ _ h2
theorem xm_mono' {n n' d y pc : Nat} {L : xm_V} {st : List Value} {lay : xm_L} {I : xm_I} {J : xm_J} {R : xm_R} {z : Option Value × xm_L × xm_I × xm_J × xm_R} (hn : n ≤ n') (h : xm_run n d y pc L st lay I J R = some z) : xm_run n' d y pc L st lay I J R = some z := by
  induction hn with
  | refl => exact h
  | step _ ih => exact xm_mono _ _ _ _ _ _ _ _ _ _ _ ih
/-- what the machine comes to -/
noncomputable def xm_den (d y pc : Nat) (L : xm_V) (st : List Value) (lay : xm_L) (I : xm_I) (J : xm_J) (R : xm_R) : xm_O :=
  (Classical.propDecidable (∃ z n, xm_run n d y pc L st lay I J R = some z)).byCases (fun h => some (Classical.choose h)) (fun _ => none)
theorem xm_den_iff {d y pc : Nat} {L : xm_V} {st : List Value} {lay : xm_L} {I : xm_I} {J : xm_J} {R : xm_R} {z : Option Value × xm_L × xm_I × xm_J × xm_R} : xm_den d y pc L st lay I J R = some z ↔ ∃ n, xm_run n d y pc L st lay I J R = some z := by
  unfold xm_den
  cases hd : Classical.propDecidable (∃ z n, xm_run n d y pc L st lay I J R = some z) with
  | isTrue h =>
    show some (Classical.choose h) = some z ↔ _
    obtain ⟨n, hn⟩ := Classical.choose_spec h
    constructor
    · intro e
      rw [← Option.some.inj e]
      exact ⟨n, hn⟩
    · rintro ⟨m, hm⟩
      have a := xm_mono' (Nat.le_max_left n m) hn
      have b := xm_mono' (Nat.le_max_right n m) hm
      rw [a] at b
      exact b
  | isFalse h =>
    show none = some z ↔ _
    exact ⟨fun e => by (cases e), fun ⟨n, hn⟩ => absurd ⟨z, n, hn⟩ h⟩
theorem xm_oext {a b : xm_O} (h : ∀ z, a = some z ↔ b = some z) : a = b := Option.ext h
section XMD
variable {d y pc : Nat} {L : xm_V} {st : List Value} {lay : xm_L} {I : xm_I} {J : xm_J} {R : xm_R}
theorem xm_den_go {pc' : Nat} {L' : xm_V} {st' : List Value} {lay' : xm_L} {I' : xm_I} {J' : xm_J} {R' : xm_R} (h : xm_step d y pc L st lay I J R = some (.inl (pc', L', st', lay', I', J', R'))) : xm_den d y pc L st lay I J R = xm_den d y pc' L' st' lay' I' J' R' := by
  refine xm_oext fun z => ?_
  rw [xm_den_iff, xm_den_iff]
  constructor
  · rintro ⟨n, hn⟩
    cases n with
    | zero => cases hn
    | succ n => rw [xm_run, h] at hn; exact ⟨n, hn⟩
  · rintro ⟨n, hn⟩
    exact ⟨n + 1, by rw [xm_run, h]; exact hn⟩
theorem xm_den_ret {v : Option Value} (h : xm_step d y pc L st lay I J R = some (.inr (.inl v))) : xm_den d y pc L st lay I J R = some (v, lay, I, J, R) := xm_den_iff.mpr ⟨1, by rw [xm_run, h]⟩
theorem xm_den_call {y' : Nat} {as r : List Value} (h : xm_step (d + 1) y pc L st lay I J R = some (.inr (.inr (y', as, r)))) : xm_den (d + 1) y pc L st lay I J R = xm_bd (xm_den d y' 0 (xm_en (xm_nl y') as) [] lay I J R) fun v lay' I' J' R' => xm_den (d + 1) y (pc + 3) L (v.toList ++ r) lay' I' J' R' := by
  refine xm_oext fun z => ?_
  rw [xm_den_iff]
  constructor
  · rintro ⟨n, hn⟩
    cases n with
    | zero => cases hn
    | succ n =>
      rw [xm_run, h] at hn
      obtain ⟨v, lay', I', J', R', h1, h2⟩ := xm_bd_some hn
      rw [xm_den_iff.mpr ⟨n, h1⟩]
      exact xm_den_iff.mpr ⟨n, h2⟩
  · intro hz
    obtain ⟨v, lay', I', J', R', h1, h2⟩ := xm_bd_some hz
    obtain ⟨n1, h1⟩ := xm_den_iff.mp h1
    obtain ⟨n2, h2⟩ := xm_den_iff.mp h2
    refine ⟨max n1 n2 + 1, ?_⟩
    rw [xm_run, h]
    show xm_bd (xm_run (max n1 n2) d y' 0 _ [] lay I J R) _ = _
    rw [xm_mono' (Nat.le_max_left n1 n2) h1]
    exact xm_mono' (Nat.le_max_right n1 n2) h2
end XMD
