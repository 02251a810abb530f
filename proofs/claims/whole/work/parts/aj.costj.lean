/-! costs: a clause, both -/
section COSTJ
variable {d : Nat} {I M : xm_I} {J : xm_J} {R : xm_R} {T : Nat → Nat} {n : Nat}
/-- what the reference's clause comes to, from the sign behind the colon; nc clauses stand already -/
def rKF (T : Nat → Nat) (n p f : Nat) : Prop := ∀ (d tx nc : Nat) (cl : List (Nat × Nat)) (M : xm_I) (J : xm_J) (R : xm_R), rst M R tx T n 0 p cl → M 54 tx = nI nc → nc < 90 → ∃ M', xm_den (d + 36) m_X12_clause 89 [some (.ref (49 : Nat)), some (.int (nI (90 * tx + nc))), none] [] xm_la M J R = some (none, xm_la, M', J, R) ∧ M' 49 4 = nI f ∧ rfK tx M M'
def rKS (T : Nat → Nat) (n p e : Nat) (k : cK) : Prop := ∀ (d tx nc : Nat) (cl : List (Nat × Nat)) (M : xm_I) (J : xm_J) (R : xm_R), rst M R tx T n 0 p cl → M 54 tx = nI nc → nc < 90 → ∃ M', xm_den (d + 36) m_X12_clause 89 [some (.ref (49 : Nat)), some (.int (nI (90 * tx + nc))), none] [] xm_la M J R = some (none, xm_la, M', J, R) ∧ rst M' R tx T n 0 e (cl ++ (k.1 ++ k.2)) ∧ M' 54 tx = nI (nc + 1) ∧ M' 55 (90 * tx + nc) = nI cl.length ∧ M' 56 (90 * tx + nc) = nI (cl.length + k.1.length) ∧ M' 57 (90 * tx + nc) = nI (cl.length + k.1.length + k.2.length) ∧ rfK tx M M' ∧ (∀ i, i < nc → M' 55 (90 * tx + i) = M 55 (90 * tx + i) ∧ M' 56 (90 * tx + i) = M 56 (90 * tx + i) ∧ M' 57 (90 * tx + i) = M 57 (90 * tx + i))
def kgood (k : cK) : Prop := pu k.2 = bo k.2 + 1 ∧ (k.1 = [] ∨ pu k.1 = bo k.1 + 1)
/-- beside the clauses' cells nothing is another: what a PS-step leaves -/
theorem fm_k {tx o j : Nat} {M' : xm_I} (h : rfm tx M M') (ho : o = 54 ∨ o = 55 ∨ o = 56 ∨ o = 57) : M' o j = M o j := h o j (by omega) (by omega) (by omega)
/-- the tail, a condition standing ahead: from the sign behind it -/
def cTl (ct : List (Nat × Nat)) (T : Nat → Nat) (n p : Nat) : Prop := (∃ f, p ≤ f ∧ f ≤ n ∧ (∀ (d t : Nat) (en : Nat → Int32) (I : xm_I) (J : xm_J) (R : xm_R) (x w s0 : Int32), cst I R t T n p en → ∃ s, xm_den (d + 28) m_X1_readClause 77 [some (.ref (9 : Nat)), some (.int x), some (.int w), some (.int (nI 1)), some (.int s0)] [] xm_la I J R = some (none, xm_la, cEnd w s (cF f I), J, R)) ∧ ∀ (d tx nc a : Nat) (cl : List (Nat × Nat)) (M : xm_I) (J : xm_J) (R : xm_R), rst M R tx T n 0 p (cl ++ ct) → M 54 tx = nI nc → nc < 90 → M 55 (90 * tx + nc) = nI cl.length → ∃ M', xm_den (d + 36) m_X12_clause 183 [some (.ref (49 : Nat)), some (.int (nI (90 * tx + nc))), some (.int (nI 1))] [] xm_la M J R = some (none, xm_la, M', J, R) ∧ M' 49 4 = nI f ∧ rfK tx M M')
  ∨ ∃ e cs, p + 1 + cs.length ≤ e ∧ e ≤ n ∧ pu cs = bo cs + 1 ∧ (∀ (d t : Nat) (en : Nat → Int32) (I : xm_I) (J : xm_J) (R : xm_R) (x w s0 : Int32), cst I R t T n p en → ∃ s, (∀ st, rn en cs st = some (s :: st)) ∧ xm_den (d + 28) m_X1_readClause 77 [some (.ref (9 : Nat)), some (.int x), some (.int w), some (.int (nI 1)), some (.int s0)] [] xm_la I J R = some (none, xm_la, cEnd w s (xm_up I 3 2 (nI e)), J, R)) ∧ ∀ (d tx nc a : Nat) (cl : List (Nat × Nat)) (M : xm_I) (J : xm_J) (R : xm_R), rst M R tx T n 0 p (cl ++ ct) → M 54 tx = nI nc → nc < 90 → M 55 (90 * tx + nc) = nI cl.length → ∃ M', xm_den (d + 36) m_X12_clause 183 [some (.ref (49 : Nat)), some (.int (nI (90 * tx + nc))), some (.int (nI 1))] [] xm_la M J R = some (none, xm_la, M', J, R) ∧ rst M' R tx T n 0 e (cl ++ (ct ++ cs)) ∧ M' 54 tx = nI (nc + 1) ∧ M' 55 (90 * tx + nc) = nI cl.length ∧ M' 56 (90 * tx + nc) = nI (cl.length + ct.length) ∧ M' 57 (90 * tx + nc) = nI (cl.length + ct.length + cs.length) ∧ rfK tx M M' ∧ (∀ i, i < nc → M' 55 (90 * tx + i) = M 55 (90 * tx + i) ∧ M' 56 (90 * tx + i) = M 56 (90 * tx + i) ∧ M' 57 (90 * tx + i) = M 57 (90 * tx + i))
theorem cTl_all (hT : ∀ j, T j < 256) {ct : List (Nat × Nat)} {p : Nat} (hp : p ≤ n) : cTl ct T n p := by
  obtain ⟨q, hq⟩ : ∃ X, X = tx_s T n p := ⟨_, rfl⟩
  have hle := tx_s_le (T := T) hp
  rw [← hq] at hle
  by_cases hop : q < n ∧ T q = 63
  · obtain ⟨hqn, hc⟩ := hop
    have e0 : tx_c T n q = nI 63 := by rw [tx_c_lt hqn, hc]
    -- the class up to the sum
    have goC : ∀ {d t : Nat} {en : Nat → Int32} {I J R} {x w s0 s : Int32} {I3 : xm_I}, cst I R t T n p en → crS 6 0 0 (d + 3) (xm_up I 3 2 (nI (q + 1))) J R (some (some (.int s), xm_la, I3, J, R)) → xm_den (d + 28) m_X1_readClause 77 [some (.ref (9 : Nat)), some (.int x), some (.int w), some (.int (nI 1)), some (.int s0)] [] xm_la I J R = some (none, xm_la, cEnd w s I3, J, R) := by
      intro d t en I J R x w s0 s I3 h hs
      have tk := fun (d : Nat) => c_tk (d := d) (J := J) h hp hq (c := 63) (by omega) e0
      have hs' : xm_den (d + 27) m_X1_sum 0 [some (.ref (9 : Nat)), some (.int (nI 0)), none, none, none, none] [] xm_la (xm_up I 3 2 (nI (q + 1))) J R = some (some (.int s), xm_la, I3, J, R) := by
        rw [show d + 27 = d + 3 + 3 * 6 + 6 by omega]; exact hs
      rw [cK_T (d := d) h.1 tk hs']
      exact cK_end
    -- the reference up to the sum
    have pre' : ∀ {tx nc : Nat} {cl : List (Nat × Nat)} {M R}, rst M R tx T n 0 p (cl ++ ct) → nc < 90 → rst (xm_up (xm_up (xm_up M 56 (90 * tx + nc) (nI cl.length)) 49 3 (nI (q + 1))) 56 (90 * tx + nc) (nI (cl ++ ct).length)) R tx T n 0 (q + 1) (cl ++ ct) ∧ rfK tx M (xm_up (xm_up (xm_up M 56 (90 * tx + nc) (nI cl.length)) 49 3 (nI (q + 1))) 56 (90 * tx + nc) (nI (cl ++ ct).length)) := fun h hnc => ⟨rst_o (rst_p (rst_o h (by omega)) (by omega)) (by omega), rfK_tr (rfK_tr (rfK_k (by omega) hnc) (rfK_m (rfm_49 (Or.inl rfl)))) (rfK_k (by omega) hnc)⟩
    have goR : ∀ {d tx nc : Nat} {cl : List (Nat × Nat)} {M J R} {M3 : xm_I}, rst M R tx T n 0 p (cl ++ ct) → M 54 tx = nI nc → nc < 90 → M 55 (90 * tx + nc) = nI cl.length → rrS 6 (d + 11) (xm_up (xm_up (xm_up M 56 (90 * tx + nc) (nI cl.length)) 49 3 (nI (q + 1))) 56 (90 * tx + nc) (nI (cl ++ ct).length)) J R M3 → xm_den (d + 36) m_X12_clause 183 [some (.ref (49 : Nat)), some (.int (nI (90 * tx + nc))), some (.int (nI 1))] [] xm_la M J R = xm_den (d + 36) m_X12_clause 250 [some (.ref (49 : Nat)), some (.int (nI (90 * tx + nc))), some (.int (nI 1))] [] xm_la M3 J R := by
      intro d tx nc cl M J R M3 h h54 hnc h55 hs
      have hs' : xm_den (d + 35) m_X12_sum 0 [some (.ref (49 : Nat)), none] [] xm_la (xm_up (xm_up (xm_up M 56 (90 * tx + nc) (nI cl.length)) 49 3 (nI (q + 1))) 56 (90 * tx + nc) (nI (cl ++ ct).length)) J R = some (none, xm_la, M3, J, R) := by
        rw [show d + 35 = d + 11 + 3 * 6 + 6 by omega]; exact hs
      have lk := r_lk (J := J) (rst_o (o := 56) (j := 90 * tx + nc) (v := nI cl.length) h (by omega)) hp hq
      rw [e0] at lk
      obtain ⟨a1, a2, a3, a4, a5, a6, a7, a8, a9⟩ := h
      exact rK_tS a1 a6 a7 hnc a8 h55 a4 lk hs'
    rcases sum_lv (n := n) hT 6 0 (by omega) (q + 1) (by omega) with ⟨f, hf1, hf2, sC, sR⟩ | ⟨e, cs, hc1, hc2, hc3, sC, sR⟩
    · refine Or.inl ⟨f, by omega, hf2, fun d t en I J R x w s0 h => ?_, fun d tx nc a cl M J R h h54 hnc h55 => ?_⟩
      · obtain ⟨s, hsb, hs⟩ := sC 0 (d + 3) t en (xm_up I 3 2 (nI (q + 1))) J R (cst_s h) (Or.inl rfl)
        rw [cF_up] at hs
        exact ⟨s, goC h hs⟩
      · have hn := h.2.1.2.1.1
        obtain ⟨h2, m2⟩ := pre' (nc := nc) h hnc
        obtain ⟨M3, z, r1, r2, r3, r4⟩ := sR (d + 11) tx _ _ J R h2
        have k54 : M3 54 tx = nI nc := by rw [fm_k r3 (by omega), up_o (by decide), up_o (by decide), up_o (by decide)]; exact h54
        refine ⟨_, (goR h h54 hnc h55 r1).trans (rK_end h.1 r2.2.1 h.2.2.2.2.2.2.1 hnc r2.2.2.2 k54), ?_, rfK_tr m2 (rfK_tr (rfK_m r3) (rfK_tr (rfK_k (by omega) hnc) rfK_54))⟩
        rw [up_o (by decide), up_o (by decide)]; exact r2.1
    · refine Or.inr ⟨e, cs, by omega, hc2, hc3, fun d t en I J R x w s0 h => ?_, fun d tx nc a cl M J R h h54 hnc h55 => ?_⟩
      · obtain ⟨s, s1, s2, hs⟩ := sC 0 (d + 3) t en (xm_up I 3 2 (nI (q + 1))) J R (cst_s h) (Or.inl rfl)
        rw [up_2] at hs
        exact ⟨s, s2, goC h hs⟩
      · have hn := h.2.1.2.1.1
        obtain ⟨h2, m2⟩ := pre' (nc := nc) h hnc
        obtain ⟨M3, r1, r2, r3⟩ := sR (d + 11) tx _ _ J R h2
        have k54 : M3 54 tx = nI nc := by rw [fm_k r3 (by omega), up_o (by decide), up_o (by decide), up_o (by decide)]; exact h54
        have k55 : ∀ j, M3 55 j = M 55 j := fun j => by rw [fm_k r3 (by omega), up_o (by decide), up_o (by decide), up_o (by decide)]
        have k56 : M3 56 (90 * tx + nc) = nI (cl ++ ct).length := by rw [fm_k r3 (by omega), up_s]
        have k56' : ∀ i, i < nc → M3 56 (90 * tx + i) = M 56 (90 * tx + i) := fun i hi => by rw [fm_k r3 (by omega), up_k (by omega), up_o (by decide), up_k (by omega)]
        have k57 : ∀ j, M3 57 j = M 57 j := fun j => by rw [fm_k r3 (by omega), up_o (by decide), up_o (by decide), up_o (by decide)]
        refine ⟨_, (goR h h54 hnc h55 r1).trans (rK_end h.1 r2.2.2.2.2.2.1 h.2.2.2.2.2.2.1 hnc r2.2.2.2.2.2.2.2.1 k54), ?_, up_s, ?_, ?_, ?_, rfK_tr m2 (rfK_tr (rfK_m r3) (rfK_tr (rfK_k (by omega) hnc) rfK_54)), fun i hi => ⟨?_, ?_, ?_⟩⟩
        · rw [List.append_assoc] at r2
          exact rst_o (rst_o r2 (by omega)) (by omega)
        · rw [up_o (by decide), up_o (by decide), k55]; exact h55
        · rw [up_o (by decide), up_o (by decide), k56, List.length_append]
        · rw [up_o (by decide), up_s, List.length_append, List.length_append]
        · rw [up_o (by decide), up_o (by decide), k55]
        · rw [up_o (by decide), up_o (by decide), k56' i hi]
        · rw [up_o (by decide), up_k (by omega), k57]
  · have hx := tx_cn hT (c := 63) (by omega) hop
    refine Or.inl ⟨q, by omega, by omega, fun d t en I J R x w s0 h => ?_, fun d tx nc a cl M J R h h54 hnc h55 => ?_⟩
    · have tk := fun (d : Nat) => c_tk0 (d := d) (J := J) h hp hq (c := 63) hx
      refine ⟨nI 0, ?_⟩
      rw [cK_T (d := d) h.1 tk (c_sumF (d := d + 21) h.1)]
      exact cK_end
    · have lk := r_lk (J := J) (rst_o (o := 56) (j := 90 * tx + nc) (v := nI cl.length) h (by omega)) hp hq
      obtain ⟨a1, a2, a3, a4, a5, a6, a7, a8, a9⟩ := h
      exact ⟨_, rK_tQ (d := d + 34) a1 a7 hnc h55 a4 lk hx, up_s, rfK_tr (rfK_k (by omega) hnc) (rfK_tr (rfK_m (rfm_49 (Or.inl rfl))) (rfK_m (rfm_49 (Or.inr (Or.inl rfl)))))⟩
end COSTJ
