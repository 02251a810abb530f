/-! the law's loop and start: written by wip/whole/gen_loop.py -/
/-- every call but at: the class's and the reference's answers are one -/
def xo_all (Inv : Nat → xm_I → xm_J → xm_R → Prop) : Prop := (∀ (x0 : Int32) (x1 : Int32) (x2 : Int32) (x3 : Int32) (x4 : Int32), xo_ok Inv m_X11_feed m_X12_feed q_X11_feed q_X12_feed [.int x0, .int x1, .int x2, .int x3, .int x4]) ∧ (∀ (x0 : Int32), xo_ok Inv m_X11_end m_X12_end q_X11_end q_X12_end [.int x0]) ∧ (∀ (x0 : Int32), xo_ok Inv m_X11_fault m_X12_fault q_X11_fault q_X12_fault [.int x0]) ∧ (∀ (x0 : Int32), xo_ok Inv m_X11_text m_X12_text q_X11_text q_X12_text [.int x0]) ∧ (∀ (x0 : Int32), xo_ok Inv m_X11_wide m_X12_wide q_X11_wide q_X12_wide [.int x0]) ∧ (∀ (x0 : Int32), xo_ok Inv m_X11_cost m_X12_cost q_X11_cost q_X12_cost [.int x0]) ∧ (∀ (x0 : Int32) (x1 : Int32) (x2 : Int32), xo_ok Inv m_X11_tell m_X12_tell q_X11_tell q_X12_tell [.int x0, .int x1, .int x2]) ∧ (∀ (x0 : Int32) (x1 : Int32), xo_ok Inv m_X11_rub m_X12_rub q_X11_rub q_X12_rub [.int x0, .int x1]) ∧ (xo_ok Inv m_X11_undo m_X12_undo q_X11_undo q_X12_undo []) ∧ (∀ (x0 : Int32), xo_ok Inv m_X11_answers m_X12_answers q_X11_answers q_X12_answers [.int x0]) ∧ (∀ (x0 : Int32) (x1 : Int32), xo_ok Inv m_X11_can m_X12_can q_X11_can q_X12_can [.int x0, .int x1]) ∧ (∀ (x0 : Int32) (x1 : Int32), xo_ok Inv m_X11_sure m_X12_sure q_X11_sure q_X12_sure [.int x0, .int x1]) ∧ (∀ (x0 : Int32), xo_ok Inv m_X11_letter m_X12_letter q_X11_letter q_X12_letter [.int x0]) ∧ (xo_ok Inv m_X11_known m_X12_known q_X11_known q_X12_known []) ∧ (xo_ok Inv m_X11_wrong m_X12_wrong q_X11_wrong q_X12_wrong []) ∧ (∀ (x0 : Int32), xo_ok Inv m_X11_best m_X12_best q_X11_best q_X12_best [.int x0]) ∧ (∀ (x0 : Int32), xo_ok Inv m_X11_cheap m_X12_cheap q_X11_cheap q_X12_cheap [.int x0]) ∧ (∀ (x0 : Int32), xo_ok Inv m_X11_mean m_X12_mean q_X11_mean q_X12_mean [.int x0]) ∧ (∀ (x0 : Int32), xo_ok Inv m_X11_looks m_X12_looks q_X11_looks q_X12_looks [.int x0]) ∧ (∀ (x0 : Int32), xo_ok Inv m_X11_slip m_X12_slip q_X11_slip q_X12_slip [.int x0]) ∧ (∀ (x0 : Int32), xo_ok Inv m_X11_thumb m_X12_thumb q_X11_thumb q_X12_thumb [.int x0]) ∧ (xo_ok Inv m_X11_mend m_X12_mend q_X11_mend q_X12_mend []) ∧ (∀ (x0 : Int32), xo_ok Inv m_X11_lean m_X12_lean q_X11_lean q_X12_lean [.int x0]) ∧ (xo_ok Inv m_X11_heart m_X12_heart q_X11_heart q_X12_heart []) ∧ (∀ (u0 : Int64) (x1 : Int32), xo_ok Inv m_X11_drawn m_X12_drawn q_X11_drawn q_X12_drawn [.long u0, .int x1]) ∧ (xo_ok Inv m_X11_image m_X12_image q_X11_image q_X12_image []) ∧ (xo_ok Inv m_X11_back m_X12_back q_X11_back q_X12_back []) ∧ (xo_ok Inv m_X11_unlike m_X12_unlike q_X11_unlike q_X12_unlike []) ∧ (∀ (x0 : Int32), xo_ok Inv m_X11_count m_X12_count q_X11_count q_X12_count [.int x0])
/-- the call of at, in the law -/
def xo_at (Inv : Nat → xm_I → xm_J → xm_R → Prop) : Prop := ∀ {p : Program} {l : Launch} {e : Env} {s : State} {m : MethodId} {below : List Frame} {meth : Method} {c : Code} {D : va_G} {G : xm_G} {sb L i : Nat} {xs : Nat → Int32} {I : xm_I} {J : xm_J} {R : xm_R} {H : Heap} {locs : List Loc} {cells slots : Nat} {ls : Array Slot} {Q : State → Prop},
  l.flags = flags0 → lc_C p s m meth c D G sb L xs → lc_S s D G sb i ls H locs I J R → i + 5 < L → Inv i I J R → cells + 4 ≤ 601024 → slots + 40 ≤ 7293034 →
  (∀ (I : xm_I) (J : xm_J) (R : xm_R) (H : Heap) (locs : List Loc) (ls : Array Slot) (cells' slots' : Nat), cells' ≤ cells + 4 → slots' ≤ slots + 40 → Inv (i + 6) I J R → lc_S s D G sb i ls H locs I J R → W p l e room_1 s m #[Value.ref sb] below meth c H locs cells' slots' Q (F0 m 1025 ls [])) → W p l e room_1 s m #[Value.ref sb] below meth c H locs cells slots Q (F0 m 324 ls [])
section LAWL
variable {p : Program} {l : Launch} {e : Env} {s : State} {m : MethodId} {below : List Frame} {meth : Method} {c : Code} {D : va_G} {G : xm_G} {sb L : Nat} {xs : Nat → Int32}
theorem law_gt {i : Nat} (hi : i < 2 ^ 30) (hL : L ≤ 3072) (h : ¬ (Int32.ofNat L - 6 < nI i)) : i + 5 < L := by
  have e1 : (Int32.ofNat L - 6).toInt = (L : Int) - 6 := by
    have h1 : (Int32.ofNat L).toInt = (L : Int) := nI_toInt (by omega)
    rw [Int32.toInt_sub, h1, show (6 : Int32).toInt = 6 by decide]
    have hb : ∀ z : Int, -2147483648 ≤ z → z < 2147483648 → z.bmod (2 ^ 32) = z := fun z a b => Int.bmod_eq_of_le (by omega) (by omega)
    exact hb _ (by omega) (by omega)
  rw [Int32.lt_iff_toInt_lt, e1, nI_toInt (by omega)] at h
  omega
set_option maxHeartbeats 4000000 in
set_option maxRecDepth 20000 in
theorem law_loop {Inv : Nat → xm_I → xm_J → xm_R → Prop} (hall : xo_all Inv) (hat : xo_at Inv) (hmono : ∀ (i : Nat) (I : xm_I) (J : xm_J) (R : xm_R), Inv i I J R → Inv (i + 6) I J R) (hfl : l.flags = flags0) (C : lc_C p s m meth c D G sb L xs) :
    ∀ (n i : Nat), i ≤ L + 5 → L + 6 ≤ i + 6 * n → ∀ (I : xm_I) (J : xm_J) (R : xm_R) (H : Heap) (locs : List Loc) (ls : Array Slot) (cells slots : Nat), Inv i I J R → lc_S s D G sb i ls H locs I J R → cells ≤ 100 + i → slots ≤ 40000 + 7 * i →
      W p l e room_1 s m #[Value.ref sb] below meth c H locs cells slots (lw_Z below #[Value.ref sb] s) (F0 m 23 ls []) := by
  have hx := C.1.1
  have hb := C.1.2.1
  have hr := C.1.2.2.1
  have hX := C.1.2.2.2.2.2.2.1
  have hbl := C.1.2.2.2.2.2.2.2.1
  have hlocks := C.1.2.2.2.2.2.2.2.2.1
  have hL := C.2.2
  intro n
  induction n with
  | zero => intro i h1 h2; exact absurd h2 (by omega)
  | succ n ih =>
    intro i hi hin I J R H locs ls cells slots hI S hcl hsl
    have hnx : ∀ (I : xm_I) (J : xm_J) (R : xm_R) (H : Heap) (locs : List Loc) (ls : Array Slot) (cells' slots' : Nat), i + 5 < L → cells' ≤ cells + 4 → slots' ≤ slots + 40 → Inv (i + 6) I J R → lc_S s D G sb i ls H locs I J R → W p l e room_1 s m #[Value.ref sb] below meth c H locs cells' slots' (lw_Z below #[Value.ref sb] s) (F0 m 1025 ls []) := by
      intro I J R H locs ls cells' slots' hlt h1 h2 hI S
      obtain ⟨hP, hS, hl⟩ := S
      refine lv_iinc (v := nI (i + 6)) (lv' := [(4, .int (nI (i + 6))), (0, .ref sb), (1, .ref (s.heap.size + 0)), (2, .ref (s.heap.size + 49)), (3, .ref (s.heap.size + 77))]) hx hb (by decide +kernel : decode code 1025 = .ok (.iinc 4 6, 3)) hl (k := 4) rfl (by rw [show Int32.ofInt 6 = nI 6 by decide +kernel]; exact nI_add i 6) (by decide) rfl (fun ls hl => ?_)
      refine lv_goto (tgt := 23) hx hb (by decide +kernel : decode code 1028 = .ok (.goto (-1005), 3)) (by decide) ?_
      exact ih (i + 6) (by omega) (by omega) I J R H locs ls cells' slots' hI ⟨hP, hS, lv_sub hl [1, 2, 3, 4, 0] rfl⟩ (by omega) (by omega)
    obtain ⟨hP, hS, hl⟩ := id S
    refine lv_iload hx hb (by decide +kernel : decode code 23 = .ok (.iload 4, 2)) (lv_at hl 4 rfl) ?_
    refine lv_aload_n hx hb (by decide +kernel : decode code 25 = .ok (.aload_n 0, 1)) rfl (lv_at hl 0 rfl) ?_
    refine va_slen hx hb hX hbl (Nat.not_le.mpr hbl) hS (by decide +kernel : decode code 26 = .ok (.arraylength, 1)) ?_
    refine lv_bipush (v := 6) hx hb (by decide +kernel : decode code 27 = .ok (.bipush 6, 2)) (by decide +kernel) ?_
    refine lv_isub hx hb (by decide +kernel : decode code 29 = .ok (.isub, 1)) ?_
    refine lv_icmp_gt (tgt := 1031) hx hb (by decide +kernel : decode code 30 = .ok (.if_icmp .gt 1001, 3)) (by decide) (fun c0 => ?_) (fun c0 => ?_)
    · refine lv_iconst (v := 1) hx hb (by decide +kernel : decode code 1031 = .ok (.iconst 1, 1)) (by decide) ?_
      refine va_forget (fun q hq => hS.2.2 q hq) ?_
      refine W.widen (k := 601024) (n := 7293034) (by omega) (by omega) ?_
      exact lw_ret hx hb hr hlocks (by decide +kernel : decode code 1032 = .ok (.ireturn, 1))
    · have hlt : i + 5 < L := law_gt (by omega) hL c0
      refine lv_aload_n hx hb (by decide +kernel : decode code 33 = .ok (.aload_n 0, 1)) rfl (lv_at hl 0 rfl) ?_
      refine lv_iload hx hb (by decide +kernel : decode code 34 = .ok (.iload 4, 2)) (lv_at hl 4 rfl) ?_
      refine va_sld hx hb hX hbl (Nat.not_le.mpr hbl) hS (vp_in_nI (by omega) (by omega)) (by decide +kernel : decode code 36 = .ok (.iaload, 1)) ?_
      refine lv_bipush (v := 31) hx hb (by decide +kernel : decode code 37 = .ok (.bipush 31, 2)) (by decide +kernel) ?_
      refine lv_iand hx hb (by decide +kernel : decode code 39 = .ok (.iand, 1)) ?_
      generalize xs (nI i).toNatClampNeg &&& 31 = w
      have hd : decode code 40 = .ok (.tableswitch 985 0 29 #[136, 209, 234, 259, 284, 352, 377, 402, 451, 488, 501, 526, 563, 600, 625, 638, 651, 676, 701, 726, 751, 776, 801, 814, 839, 852, 921, 934, 947, 960], 136) := by decide +kernel
      by_cases hout : w.toInt < 0 ∨ 29 < w.toInt
      · refine lv_tableOut (tgt := 1025) hx hb hd hout (by decide) ?_
        exact hnx I J R H locs ls cells slots hlt (by omega) (by omega) (hmono _ _ _ _ hI) S
      · obtain ⟨k, hk⟩ : ∃ k : Nat, w.toInt = (k : Int) := ⟨w.toInt.toNat, by omega⟩
        have hk30 : k < 30 := by omega
        obtain ⟨g0, g1, g2, g3, g5, g6, g7, g8, g9, g10, g11, g12, g13, g14, g15, g16, g17, g18, g19, g20, g21, g22, g23, g24, g25, g26, g27, g28, g29⟩ := hall
        match k, hk, hk30 with
        | 0, hk, _ =>
          refine lv_tableIn (off := 136) (tgt := 176) hx hb hd (by omega) (by omega) (by rw [hk]; rfl) (by decide) ?_
          exact law_c0 C S hlt hI (g0 _ _ _ _ _) (by omega) (by omega) fun I J R H locs ls hI S => hnx I J R H locs ls cells slots hlt (by omega) (by omega) hI S
        | 1, hk, _ =>
          refine lv_tableIn (off := 209) (tgt := 249) hx hb hd (by omega) (by omega) (by rw [hk]; rfl) (by decide) ?_
          exact law_c1 C S hlt hI (g1 _) (by omega) (by omega) fun I J R H locs ls hI S => hnx I J R H locs ls cells slots hlt (by omega) (by omega) hI S
        | 2, hk, _ =>
          refine lv_tableIn (off := 234) (tgt := 274) hx hb hd (by omega) (by omega) (by rw [hk]; rfl) (by decide) ?_
          exact law_c2 C S hlt hI (g2 _) (by omega) (by omega) fun I J R H locs ls hI S => hnx I J R H locs ls cells slots hlt (by omega) (by omega) hI S
        | 3, hk, _ =>
          refine lv_tableIn (off := 259) (tgt := 299) hx hb hd (by omega) (by omega) (by rw [hk]; rfl) (by decide) ?_
          exact law_c3 C S hlt hI (g3 _) (by omega) (by omega) fun I J R H locs ls hI S => hnx I J R H locs ls cells slots hlt (by omega) (by omega) hI S
        | 4, hk, _ =>
          refine lv_tableIn (off := 284) (tgt := 324) hx hb hd (by omega) (by omega) (by rw [hk]; rfl) (by decide) ?_
          exact hat hfl C S hlt hI (by omega) (by omega) fun I J R H locs ls cells' slots' h1 h2 hI S => hnx I J R H locs ls cells' slots' hlt h1 h2 hI S
        | 5, hk, _ =>
          refine lv_tableIn (off := 352) (tgt := 392) hx hb hd (by omega) (by omega) (by rw [hk]; rfl) (by decide) ?_
          exact law_c5 C S hlt hI (g5 _) (by omega) (by omega) fun I J R H locs ls hI S => hnx I J R H locs ls cells slots hlt (by omega) (by omega) hI S
        | 6, hk, _ =>
          refine lv_tableIn (off := 377) (tgt := 417) hx hb hd (by omega) (by omega) (by rw [hk]; rfl) (by decide) ?_
          exact law_c6 C S hlt hI (g6 _) (by omega) (by omega) fun I J R H locs ls hI S => hnx I J R H locs ls cells slots hlt (by omega) (by omega) hI S
        | 7, hk, _ =>
          refine lv_tableIn (off := 402) (tgt := 442) hx hb hd (by omega) (by omega) (by rw [hk]; rfl) (by decide) ?_
          exact law_c7 C S hlt hI (g7 _ _ _) (by omega) (by omega) fun I J R H locs ls hI S => hnx I J R H locs ls cells slots hlt (by omega) (by omega) hI S
        | 8, hk, _ =>
          refine lv_tableIn (off := 451) (tgt := 491) hx hb hd (by omega) (by omega) (by rw [hk]; rfl) (by decide) ?_
          exact law_c8 C S hlt hI (g8 _ _) (by omega) (by omega) fun I J R H locs ls hI S => hnx I J R H locs ls cells slots hlt (by omega) (by omega) hI S
        | 9, hk, _ =>
          refine lv_tableIn (off := 488) (tgt := 528) hx hb hd (by omega) (by omega) (by rw [hk]; rfl) (by decide) ?_
          exact law_c9 C S hlt hI g9 (by omega) (by omega) fun I J R H locs ls hI S => hnx I J R H locs ls cells slots hlt (by omega) (by omega) hI S
        | 10, hk, _ =>
          refine lv_tableIn (off := 501) (tgt := 541) hx hb hd (by omega) (by omega) (by rw [hk]; rfl) (by decide) ?_
          exact law_c10 C S hlt hI (g10 _) (by omega) (by omega) fun I J R H locs ls hI S => hnx I J R H locs ls cells slots hlt (by omega) (by omega) hI S
        | 11, hk, _ =>
          refine lv_tableIn (off := 526) (tgt := 566) hx hb hd (by omega) (by omega) (by rw [hk]; rfl) (by decide) ?_
          exact law_c11 C S hlt hI (g11 _ _) (by omega) (by omega) fun I J R H locs ls hI S => hnx I J R H locs ls cells slots hlt (by omega) (by omega) hI S
        | 12, hk, _ =>
          refine lv_tableIn (off := 563) (tgt := 603) hx hb hd (by omega) (by omega) (by rw [hk]; rfl) (by decide) ?_
          exact law_c12 C S hlt hI (g12 _ _) (by omega) (by omega) fun I J R H locs ls hI S => hnx I J R H locs ls cells slots hlt (by omega) (by omega) hI S
        | 13, hk, _ =>
          refine lv_tableIn (off := 600) (tgt := 640) hx hb hd (by omega) (by omega) (by rw [hk]; rfl) (by decide) ?_
          exact law_c13 C S hlt hI (g13 _) (by omega) (by omega) fun I J R H locs ls hI S => hnx I J R H locs ls cells slots hlt (by omega) (by omega) hI S
        | 14, hk, _ =>
          refine lv_tableIn (off := 625) (tgt := 665) hx hb hd (by omega) (by omega) (by rw [hk]; rfl) (by decide) ?_
          exact law_c14 C S hlt hI g14 (by omega) (by omega) fun I J R H locs ls hI S => hnx I J R H locs ls cells slots hlt (by omega) (by omega) hI S
        | 15, hk, _ =>
          refine lv_tableIn (off := 638) (tgt := 678) hx hb hd (by omega) (by omega) (by rw [hk]; rfl) (by decide) ?_
          exact law_c15 C S hlt hI g15 (by omega) (by omega) fun I J R H locs ls hI S => hnx I J R H locs ls cells slots hlt (by omega) (by omega) hI S
        | 16, hk, _ =>
          refine lv_tableIn (off := 651) (tgt := 691) hx hb hd (by omega) (by omega) (by rw [hk]; rfl) (by decide) ?_
          exact law_c16 C S hlt hI (g16 _) (by omega) (by omega) fun I J R H locs ls hI S => hnx I J R H locs ls cells slots hlt (by omega) (by omega) hI S
        | 17, hk, _ =>
          refine lv_tableIn (off := 676) (tgt := 716) hx hb hd (by omega) (by omega) (by rw [hk]; rfl) (by decide) ?_
          exact law_c17 C S hlt hI (g17 _) (by omega) (by omega) fun I J R H locs ls hI S => hnx I J R H locs ls cells slots hlt (by omega) (by omega) hI S
        | 18, hk, _ =>
          refine lv_tableIn (off := 701) (tgt := 741) hx hb hd (by omega) (by omega) (by rw [hk]; rfl) (by decide) ?_
          exact law_c18 C S hlt hI (g18 _) (by omega) (by omega) fun I J R H locs ls hI S => hnx I J R H locs ls cells slots hlt (by omega) (by omega) hI S
        | 19, hk, _ =>
          refine lv_tableIn (off := 726) (tgt := 766) hx hb hd (by omega) (by omega) (by rw [hk]; rfl) (by decide) ?_
          exact law_c19 C S hlt hI (g19 _) (by omega) (by omega) fun I J R H locs ls hI S => hnx I J R H locs ls cells slots hlt (by omega) (by omega) hI S
        | 20, hk, _ =>
          refine lv_tableIn (off := 751) (tgt := 791) hx hb hd (by omega) (by omega) (by rw [hk]; rfl) (by decide) ?_
          exact law_c20 C S hlt hI (g20 _) (by omega) (by omega) fun I J R H locs ls hI S => hnx I J R H locs ls cells slots hlt (by omega) (by omega) hI S
        | 21, hk, _ =>
          refine lv_tableIn (off := 776) (tgt := 816) hx hb hd (by omega) (by omega) (by rw [hk]; rfl) (by decide) ?_
          exact law_c21 C S hlt hI (g21 _) (by omega) (by omega) fun I J R H locs ls hI S => hnx I J R H locs ls cells slots hlt (by omega) (by omega) hI S
        | 22, hk, _ =>
          refine lv_tableIn (off := 801) (tgt := 841) hx hb hd (by omega) (by omega) (by rw [hk]; rfl) (by decide) ?_
          exact law_c22 C S hlt hI g22 (by omega) (by omega) fun I J R H locs ls hI S => hnx I J R H locs ls cells slots hlt (by omega) (by omega) hI S
        | 23, hk, _ =>
          refine lv_tableIn (off := 814) (tgt := 854) hx hb hd (by omega) (by omega) (by rw [hk]; rfl) (by decide) ?_
          exact law_c23 C S hlt hI (g23 _) (by omega) (by omega) fun I J R H locs ls hI S => hnx I J R H locs ls cells slots hlt (by omega) (by omega) hI S
        | 24, hk, _ =>
          refine lv_tableIn (off := 839) (tgt := 879) hx hb hd (by omega) (by omega) (by rw [hk]; rfl) (by decide) ?_
          exact law_c24 C S hlt hI g24 (by omega) (by omega) fun I J R H locs ls hI S => hnx I J R H locs ls cells slots hlt (by omega) (by omega) hI S
        | 25, hk, _ =>
          refine lv_tableIn (off := 852) (tgt := 892) hx hb hd (by omega) (by omega) (by rw [hk]; rfl) (by decide) ?_
          exact law_c25 C S hlt hI (g25 _ _) (by omega) (by omega) fun I J R H locs ls hI S => hnx I J R H locs ls cells slots hlt (by omega) (by omega) hI S
        | 26, hk, _ =>
          refine lv_tableIn (off := 921) (tgt := 961) hx hb hd (by omega) (by omega) (by rw [hk]; rfl) (by decide) ?_
          exact law_c26 C S hlt hI g26 (by omega) (by omega) fun I J R H locs ls hI S => hnx I J R H locs ls cells slots hlt (by omega) (by omega) hI S
        | 27, hk, _ =>
          refine lv_tableIn (off := 934) (tgt := 974) hx hb hd (by omega) (by omega) (by rw [hk]; rfl) (by decide) ?_
          exact law_c27 C S hlt hI g27 (by omega) (by omega) fun I J R H locs ls hI S => hnx I J R H locs ls cells slots hlt (by omega) (by omega) hI S
        | 28, hk, _ =>
          refine lv_tableIn (off := 947) (tgt := 987) hx hb hd (by omega) (by omega) (by rw [hk]; rfl) (by decide) ?_
          exact law_c28 C S hlt hI g28 (by omega) (by omega) fun I J R H locs ls hI S => hnx I J R H locs ls cells slots hlt (by omega) (by omega) hI S
        | 29, hk, _ =>
          refine lv_tableIn (off := 960) (tgt := 1000) hx hb hd (by omega) (by omega) (by rw [hk]; rfl) (by decide) ?_
          exact law_c29 C S hlt hI (g29 _) (by omega) (by omega) fun I J R H locs ls hI S => hnx I J R H locs ls cells slots hlt (by omega) (by omega) hI S
        | k + 30, _, h => omega
end LAWL
