/-! the tape: feed, of the class -/
section FEEDC
variable {d : Nat} {I : xm_I} {J : xm_J} {R : xm_R}
/-- nothing but these cells is another -/
def fr (S : List Nat) (I I' : xm_I) : Prop := ∀ o, o ∉ S → I' o = I o
theorem fr_refl {S : List Nat} {I : xm_I} : fr S I I := fun _ _ => rfl
theorem fr_trans {S : List Nat} {I I1 I2 : xm_I} (h1 : fr S I I1) (h2 : fr S I1 I2) : fr S I I2 := fun o h => (h2 o h).trans (h1 o h)
theorem fr_up {S : List Nat} {I : xm_I} {o k : Nat} {v : Int32} (h : o ∈ S) : fr S I (xm_up I o k v) := fun a ha => xm_up_ne (fun e => ha (e ▸ h))
theorem fr_sub {S S' : List Nat} {I I' : xm_I} (h : fr S I I') (hs : ∀ o ∈ S, o ∈ S') : fr S' I I' := fun o ho => h o (fun e => ho (hs o e))
/-- a list of bytes stands at t, its length in field k of o -/
def tpr (I : xm_I) (o k t : Nat) (tp : List Int32) : Prop := I o k = nI tp.length ∧ tp.length ≤ 160 ∧ ∀ (j : Nat) (v : Int32), tp[j]? = some v → I t j = v
theorem tpr_push {I : xm_I} {o k t : Nat} {tp : List Int32} {v : Int32} (h : tpr I o k t tp) (hl : tp.length < 160) (hot : ¬ o = t) : tpr (xm_up (xm_up I t tp.length v) o k (nI (tp.length + 1))) o k t (tp ++ [v]) := by
  obtain ⟨h1, h2, h3⟩ := h
  refine ⟨by rw [up_s, List.length_append]; rfl, by rw [List.length_append, List.length_singleton]; omega, fun j w hj => ?_⟩
  rw [up_o (Ne.symm hot)]
  by_cases e : j = tp.length
  · subst e
    rw [up_s]
    rw [List.getElem?_append_right (Nat.le_refl _), Nat.sub_self] at hj
    cases hj; rfl
  · rw [up_k e]
    have hlt := (List.getElem?_eq_some_iff.mp hj).1
    rw [List.length_append, List.length_singleton] at hlt
    rw [List.getElem?_append_left (by omega)] at hj
    exact h3 j w hj
theorem i32_le {a b : Nat} (ha : a < 2 ^ 31) (hb : b < 2 ^ 31) : (nI a ≤ nI b) = (a ≤ b) := propext (nI_leI ha hb)
theorem s_append {tp : List Int32} {v : Int32} (hR : xm_HR R) (h : tpr I 1 1 2 tp) (hl : tp.length < 160) : ∃ I', xm_den (d + 1) m_X10_append 0 [some (.ref (1 : Nat)), some (.int v)] [] xm_la I J R = some (none, xm_la, I', J, R) ∧ tpr I' 1 1 2 (tp ++ [v]) ∧ fr [1, 2] I I' := by
  refine ⟨_, ?_, tpr_push (v := v) h hl (by decide), fr_trans (fr_up (by decide)) (fr_up (by decide))⟩
  rw [s_tape_append (xt1 hR)]
  obtain ⟨h1, h2, h3⟩ := h
  have c1 : ¬ (160 : Int32) ≤ nI tp.length := by
    rw [show (160 : Int32) = nI 160 from rfl, i32_le (by omega) (by omega)]; omega
  have c2 : ¬ nI tp.length < 0 := by
    rw [Int32.not_lt, show (0 : Int32) = nI 0 from rfl, i32_le (by omega) (by omega)]; omega
  have c3 : pt I 2 160 (nI tp.length) v = xm_up I 2 tp.length v := by
    unfold pt
    rw [if_neg c2, if_neg (show ¬ Int32.ofNat 160 ≤ nI tp.length from c1), nI_clamp (by omega)]
  rw [h1, if_neg c1, show (1 + 1 : Nat) = 2 from rfl, c3, up_o (by decide : ¬ (1 : Nat) = 2), h1, nI_1]
/-- a byte of an int -/
def by4 (w s : Int32) : Int32 := (w.toUInt32 >>> (s.toUInt32 &&& Int32.toUInt32 31)).toInt32 &&& 255
def nz (x : Int32) : List Int32 := if x = 0 then [] else [x]
def bts (w : Int32) : List Int32 := nz (by4 w 24) ++ (nz (by4 w 16) ++ (nz (by4 w 8) ++ nz (by4 w 0)))
theorem nz_len {x : Int32} : (nz x).length ≤ 1 := by unfold nz; split <;> simp
theorem bts_len {w : Int32} : (bts w).length ≤ 4 := by
  unfold bts
  simp only [List.length_append]
  have a := @nz_len (by4 w 24)
  have b := @nz_len (by4 w 16)
  have c := @nz_len (by4 w 8)
  have e := @nz_len (by4 w 0)
  omega
theorem s_bytesIn1 {w n s : Int32} (hs : ¬ s < 0) : xm_den d m_X11_bytesIn 5 [some (.int w), some (.int n), some (.int s)] [] xm_la I J R = xm_den d m_X11_bytesIn 5 [some (.int w), some (.int (n + nI (nz (by4 w s)).length)), some (.int (s + (-8)))] [] xm_la I J R := by
  unfold nz
  by_cases h : by4 w s = 0
  · have h' := h
    unfold by4 at h'
    conv => lhs; simp only [e_X11_bytesIn_0, e_X11_bytesIn_1, e_X11_bytesIn_2, e_X11_bytesIn_4, e_X11_bytesIn_5, e_X11_bytesIn_6, e_X11_bytesIn_9, e_X11_bytesIn_10, e_X11_bytesIn_11, e_X11_bytesIn_12, e_X11_bytesIn_15, e_X11_bytesIn_16, e_X11_bytesIn_19, e_X11_bytesIn_22, e_X11_bytesIn_28, e_X11_bytesIn_29, hs, if_false, h', if_true]
    rw [e_X11_bytesIn_25, if_pos h]
    congr 5
    simp [nI]
  · have h' := h
    unfold by4 at h'
    conv => lhs; simp only [e_X11_bytesIn_0, e_X11_bytesIn_1, e_X11_bytesIn_2, e_X11_bytesIn_4, e_X11_bytesIn_5, e_X11_bytesIn_6, e_X11_bytesIn_9, e_X11_bytesIn_10, e_X11_bytesIn_11, e_X11_bytesIn_12, e_X11_bytesIn_15, e_X11_bytesIn_16, e_X11_bytesIn_19, e_X11_bytesIn_22, e_X11_bytesIn_28, e_X11_bytesIn_29, hs, if_false, h', if_true]
    rw [e_X11_bytesIn_25, if_neg h]
    rfl
theorem s_bytesIn {w : Int32} : xm_den d m_X11_bytesIn 0 [some (.int w), none, none] [] xm_la I J R = some (some (.int (nI (bts w).length)), xm_la, I, J, R) := by
  rw [e_X11_bytesIn_0, e_X11_bytesIn_1, e_X11_bytesIn_2, e_X11_bytesIn_4, s_bytesIn1 (by decide), show (24 + (-8) : Int32) = 16 by decide, s_bytesIn1 (by decide), show (16 + (-8) : Int32) = 8 by decide, s_bytesIn1 (by decide), show (8 + (-8) : Int32) = 0 by decide, s_bytesIn1 (by decide), show (0 + (-8) : Int32) = -8 by decide]
  have hn : ((-8 : Int32) < 0) = True := by simp
  simp only [e_X11_bytesIn_5, e_X11_bytesIn_6, hn, if_true, e_X11_bytesIn_28, e_X11_bytesIn_29]
  congr 4
  unfold bts
  simp only [List.length_append, ← nI_add]
  rw [show (0 : Int32) = nI 0 from rfl, nI_add, Nat.zero_add]
  simp only [Int32.add_assoc]
theorem s_app1 {tp : List Int32} {w s : Int32} {a3 : Option Value} (hR : xm_HR R) (h : tpr I 1 1 2 tp) (hl : tp.length + (nz (by4 w s)).length ≤ 160) (hs : ¬ s < 0) : ∃ I' b3, xm_den (d + 2) m_X11_appendBytes 3 [some (.ref (0 : Nat)), some (.int w), some (.int s), a3] [] xm_la I J R = xm_den (d + 2) m_X11_appendBytes 3 [some (.ref (0 : Nat)), some (.int w), some (.int (s + (-8))), b3] [] xm_la I' J R ∧ tpr I' 1 1 2 (tp ++ nz (by4 w s)) ∧ fr [1, 2] I I' := by
  unfold nz at hl ⊢
  by_cases hb : by4 w s = 0
  · have h' := hb
    unfold by4 at h'
    refine ⟨I, some (.int 0), ?_, by rw [if_pos hb, List.append_nil]; exact h, fr_refl⟩
    conv => lhs; simp only [e_X11_appendBytes_0, e_X11_appendBytes_2, e_X11_appendBytes_3, e_X11_appendBytes_4, e_X11_appendBytes_7, e_X11_appendBytes_8, e_X11_appendBytes_9, e_X11_appendBytes_10, e_X11_appendBytes_13, e_X11_appendBytes_14, e_X11_appendBytes_15, e_X11_appendBytes_16, e_X11_appendBytes_19, e_X11_appendBytes_20, e_X11_appendBytes_23, e_X11_appendBytes_24, e_X11_appendBytes_27, e_X11_appendBytes_33, hs, if_false, h', if_true]
    rw [e_X11_appendBytes_30]
  · rw [if_neg hb] at hl ⊢
    obtain ⟨I', h1, h2, h3⟩ := s_append (d := d) (J := J) (v := by4 w s) hR h (by simp at hl; omega)
    have h' := hb
    unfold by4 at h' h1
    refine ⟨I', some (.int (by4 w s)), ?_, h2, h3⟩
    unfold by4
    conv => lhs; simp only [e_X11_appendBytes_0, e_X11_appendBytes_2, e_X11_appendBytes_3, e_X11_appendBytes_4, e_X11_appendBytes_7, e_X11_appendBytes_8, e_X11_appendBytes_9, e_X11_appendBytes_10, e_X11_appendBytes_13, e_X11_appendBytes_14, e_X11_appendBytes_15, e_X11_appendBytes_16, e_X11_appendBytes_19, e_X11_appendBytes_20, e_X11_appendBytes_23, e_X11_appendBytes_24, e_X11_appendBytes_27, e_X11_appendBytes_33, hs, if_false, h', if_true, dn_bd, dn_tl, dn_tn, Option.toList_some, Option.toList_none, List.cons_append, List.nil_append, rf_some, sm_i, sm_r, sm_n, sm_l, sm_0, z01_0, z01_1, and_self, if_true, if_false, ka_x, true_or, or_true, ly_0, ly_1, hr_0_0 hR, h1]
    rw [e_X11_appendBytes_30]
theorem s_appendBytes {tp : List Int32} {w : Int32} (hR : xm_HR R) (h : tpr I 1 1 2 tp) (hl : tp.length + (bts w).length ≤ 160) : ∃ I', xm_den (d + 2) m_X11_appendBytes 0 [some (.ref (0 : Nat)), some (.int w), none, none] [] xm_la I J R = some (none, xm_la, I', J, R) ∧ tpr I' 1 1 2 (tp ++ bts w) ∧ fr [1, 2] I I' := by
  unfold bts at hl ⊢
  simp only [List.length_append] at hl
  obtain ⟨I1, b1, g1, t1, f1⟩ := s_app1 (d := d) (J := J) (w := w) (s := 24) (a3 := none) hR h (by omega) (by decide)
  obtain ⟨I2, b2, g2, t2, f2⟩ := s_app1 (d := d) (J := J) (w := w) (s := 16) (a3 := b1) hR t1 (by simp only [List.length_append]; omega) (by decide)
  obtain ⟨I3, b3, g3, t3, f3⟩ := s_app1 (d := d) (J := J) (w := w) (s := 8) (a3 := b2) hR t2 (by simp only [List.length_append]; omega) (by decide)
  obtain ⟨I4, b4, g4, t4, f4⟩ := s_app1 (d := d) (J := J) (w := w) (s := 0) (a3 := b3) hR t3 (by simp only [List.length_append]; omega) (by decide)
  refine ⟨I4, ?_, by simpa only [List.append_assoc] using t4, fr_trans f1 (fr_trans f2 (fr_trans f3 f4))⟩
  rw [e_X11_appendBytes_0, e_X11_appendBytes_2, g1, show (24 + (-8) : Int32) = 16 by decide, g2, show (16 + (-8) : Int32) = 8 by decide, g3, show (8 + (-8) : Int32) = 0 by decide, g4, show (0 + (-8) : Int32) = -8 by decide]
  have hn : ((-8 : Int32) < 0) = True := by simp
  simp only [e_X11_appendBytes_3, e_X11_appendBytes_4, hn, if_true, e_X11_appendBytes_33]
def fd5 (a b c e f : Int32) : List Int32 := bts a ++ (bts b ++ (bts c ++ (bts e ++ bts f)))
theorem fd5_len {a b c e f : Int32} : (fd5 a b c e f).length ≤ 20 := by
  unfold fd5
  simp only [List.length_append]
  have h1 := @bts_len a
  have h2 := @bts_len b
  have h3 := @bts_len c
  have h4 := @bts_len e
  have h5 := @bts_len f
  omega
theorem s_feed {tp : List Int32} {a b c e f : Int32} (hR : xm_HR R) (h : tpr I 1 1 2 tp) : ∃ I', xm_den (d + 3) m_X11_feed 0 [some (.ref (0 : Nat)), some (.int a), some (.int b), some (.int c), some (.int e), some (.int f), none] [] xm_la I J R = some (some (.int (if tp.length + (fd5 a b c e f).length ≤ 160 then nI (tp.length + (fd5 a b c e f).length) else -1)), xm_la, I', J, R) ∧ tpr I' 1 1 2 (if tp.length + (fd5 a b c e f).length ≤ 160 then tp ++ fd5 a b c e f else tp) ∧ fr [1, 2] I I' := by
  have hlen := @fd5_len a b c e f
  have hp := h.2.1
  have hsum : nI tp.length + (nI (bts a).length + nI (bts b).length + nI (bts c).length + nI (bts e).length + nI (bts f).length) = nI (tp.length + (fd5 a b c e f).length) := by
    unfold fd5
    simp only [List.length_append, nI_add, Nat.add_assoc]
  have hI1 := h.1
  by_cases hc : tp.length + (fd5 a b c e f).length ≤ 160
  · have c1 : (nI (tp.length + (fd5 a b c e f).length) ≤ 160) = True := by
      rw [show (160 : Int32) = nI 160 from rfl, i32_le (by omega) (by omega)]; simp [hc]
    rw [if_pos hc, if_pos hc]
    have hc' := hc
    unfold fd5 at hc'
    simp only [List.length_append] at hc'
    obtain ⟨I1, g1, t1, f1⟩ := s_appendBytes (d := d) (J := J) (w := a) hR h (by omega)
    obtain ⟨I2, g2, t2, f2⟩ := s_appendBytes (d := d) (J := J) (w := b) hR t1 (by simp only [List.length_append]; omega)
    obtain ⟨I3, g3, t3, f3⟩ := s_appendBytes (d := d) (J := J) (w := c) hR t2 (by simp only [List.length_append]; omega)
    obtain ⟨I4, g4, t4, f4⟩ := s_appendBytes (d := d) (J := J) (w := e) hR t3 (by simp only [List.length_append]; omega)
    obtain ⟨I5, g5, t5, f5⟩ := s_appendBytes (d := d) (J := J) (w := f) hR t4 (by simp only [List.length_append]; omega)
    have t5' : tpr I5 1 1 2 (tp ++ fd5 a b c e f) := by unfold fd5; simpa only [List.append_assoc] using t5
    refine ⟨I5, ?_, t5', fr_trans f1 (fr_trans f2 (fr_trans f3 (fr_trans f4 f5)))⟩
    have hz := t5'.1
    rw [List.length_append] at hz
    simp only [e_X11_feed_0, e_X11_feed_1, e_X11_feed_4, e_X11_feed_5, e_X11_feed_8, e_X11_feed_9, e_X11_feed_10, e_X11_feed_13, e_X11_feed_14, e_X11_feed_16, e_X11_feed_19, e_X11_feed_20, e_X11_feed_22, e_X11_feed_25, e_X11_feed_26, e_X11_feed_28, e_X11_feed_29, e_X11_feed_32, e_X11_feed_35, e_X11_feed_37, e_X11_feed_38, e_X11_feed_41, e_X11_feed_44, e_X11_feed_45, e_X11_feed_46, e_X11_feed_47, e_X11_feed_48, e_X11_feed_51, e_X11_feed_52, e_X11_feed_53, e_X11_feed_56, e_X11_feed_57, e_X11_feed_58, e_X11_feed_61, e_X11_feed_62, e_X11_feed_64, e_X11_feed_67, e_X11_feed_68, e_X11_feed_70, e_X11_feed_73, e_X11_feed_74, e_X11_feed_77, e_X11_feed_80, dn_bd, dn_tl, dn_tn, Option.toList_some, Option.toList_none, List.cons_append, List.nil_append, rf_some, sm_i, sm_r, sm_n, sm_l, sm_0, z01_0, z01_1, and_self, if_true, if_false, ka_x, true_or, or_true, ly_0, ly_1, s_bytesIn, hr_0_0 hR, s_tape_size (xt1 hR), hI1, hsum, c1, g1, g2, g3, g4, g5, hz]
  · have c1 : (nI (tp.length + (fd5 a b c e f).length) ≤ 160) = False := by
      rw [show (160 : Int32) = nI 160 from rfl, i32_le (by omega) (by omega)]; simp [hc]
    rw [if_neg hc, if_neg hc]
    refine ⟨I, ?_, h, fr_refl⟩
    simp only [e_X11_feed_0, e_X11_feed_1, e_X11_feed_4, e_X11_feed_5, e_X11_feed_8, e_X11_feed_9, e_X11_feed_10, e_X11_feed_13, e_X11_feed_14, e_X11_feed_16, e_X11_feed_19, e_X11_feed_20, e_X11_feed_22, e_X11_feed_25, e_X11_feed_26, e_X11_feed_28, e_X11_feed_29, e_X11_feed_32, e_X11_feed_35, e_X11_feed_37, e_X11_feed_38, e_X11_feed_41, e_X11_feed_44, e_X11_feed_45, e_X11_feed_46, e_X11_feed_47, e_X11_feed_48, e_X11_feed_51, e_X11_feed_52, e_X11_feed_53, e_X11_feed_56, e_X11_feed_57, e_X11_feed_58, e_X11_feed_61, e_X11_feed_62, e_X11_feed_64, e_X11_feed_67, e_X11_feed_68, e_X11_feed_70, e_X11_feed_73, e_X11_feed_74, e_X11_feed_77, e_X11_feed_80, dn_bd, dn_tl, dn_tn, Option.toList_some, Option.toList_none, List.cons_append, List.nil_append, rf_some, sm_i, sm_r, sm_n, sm_l, sm_0, z01_0, z01_1, and_self, if_true, if_false, ka_x, true_or, or_true, ly_0, ly_1, s_bytesIn, hr_0_0 hR, s_tape_size (xt1 hR), hI1, hsum, c1]
end FEEDC
