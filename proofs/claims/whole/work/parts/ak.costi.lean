/-! costs: a clause behind its colon, both -/
section COSTI
variable {d : Nat} {I M : xm_I} {J : xm_J} {R : xm_R} {T : Nat → Nat} {n : Nat}
theorem ne_of_pu {c : List (Nat × Nat)} (h : pu c = bo c + 1) : c ≠ [] := by
  intro z
  subst z
  simp [pu, bo] at h
theorem lk_q {tx dep p q : Nat} {cl : List (Nat × Nat)} (h : rst M R tx T n dep p cl) (hp : p ≤ n) (hq : q = tx_s T n p) : ∀ d, xm_den (d + 1) m_X12_look 0 [some (.ref (49 : Nat))] [] xm_la (xm_up M 49 3 (nI q)) J R = some (some (.int (tx_c T n q)), xm_la, xm_up M 49 3 (nI q), J, R) := by
  have hle := tx_s_le (T := T) hp
  rw [← hq] at hle
  have := r_lk (J := J) (rst_p h (e := q) hle.1) hle.2 (show q = tx_s T n q by rw [hq, tx_s_s hp])
  rwa [up_2] at this
/-- the reference's run to the end, its tests' flag 0 -/
theorem rK_fin0 {tx nc z : Nat} {o : Int32} (hR : xm_HR R) (h14 : M 49 14 = nI tx) (htx : tx < 5) (hnc : nc < 90) (h53 : M 53 tx = nI z) (h54 : M 54 tx = nI nc) (h55 : M 55 (90 * tx + nc) = o) : xm_den d m_X12_clause 183 [some (.ref (49 : Nat)), some (.int (nI (90 * tx + nc))), some (.int (nI 0))] [] xm_la M J R = some (none, xm_la, xm_up (xm_up (xm_up M 56 (90 * tx + nc) o) 57 (90 * tx + nc) (nI z)) 54 tx (nI (nc + 1)), J, R) := by
  rw [rK_t0 hR htx hnc h55]
  exact rK_end hR (by rw [up_o (by decide)]; exact h14) htx hnc (by rw [up_o (by decide)]; exact h53) (by rw [up_o (by decide)]; exact h54)
theorem rK_finF {tx nc z f : Nat} {o : Int32} (hR : xm_HR R) (hf : flt M tx f z) (hf2 : f < 1000) (hnc : nc < 90) (h54 : M 54 tx = nI nc) (h55 : M 55 (90 * tx + nc) = o) : xm_den d m_X12_clause 183 [some (.ref (49 : Nat)), some (.int (nI (90 * tx + nc))), some (.int (nI 1))] [] xm_la M J R = some (none, xm_la, xm_up (xm_up (xm_up M 56 (90 * tx + nc) o) 57 (90 * tx + nc) (nI z)) 54 tx (nI (nc + 1)), J, R) := by
  obtain ⟨h4, h14, htx, h53⟩ := hf
  rw [rK_tF hR htx hnc h55 h4 hf2]
  exact rK_end hR (by rw [up_o (by decide)]; exact h14) htx hnc (by rw [up_o (by decide)]; exact h53) (by rw [up_o (by decide)]; exact h54)
theorem rfK_fin {tx nc : Nat} {o z w : Int32} (hnc : nc < 90) : rfK tx M (xm_up (xm_up (xm_up M 56 (90 * tx + nc) o) 57 (90 * tx + nc) z) 54 tx w) := rfK_tr (rfK_tr (rfK_k (by omega) hnc) (rfK_k (by omega) hnc)) rfK_54
theorem clause_body (hT : ∀ j, T j < 256) {p : Nat} (hp : p ≤ n) : (∃ f, p ≤ f ∧ f ≤ n ∧ cKF T n p f ∧ rKF T n p f) ∨ ∃ e k, p + k.1.length + k.2.length ≤ e ∧ e ≤ n ∧ kgood k ∧ cKS T n p e k ∧ rKS T n p e k := by
  obtain ⟨q, hq⟩ : ∃ X, X = tx_s T n p := ⟨_, rfl⟩
  have hle := tx_s_le (T := T) hp
  rw [← hq] at hle
  by_cases hA : q < n ∧ (T q = 33 ∨ T q = 40)
  · obtain ⟨hqn, hc⟩ := hA
    have e0 : tx_c T n q = nI (T q) := tx_c_lt hqn
    have goC : ∀ {d t : Nat} {en : Nat → Int32} {I J R} {v : Int32} {I2 : xm_I}, cst I R t T n p en → crY 6 0 0 (nI 0) d (xm_up I 3 2 (nI q)) J R (some (some (.int v), xm_la, I2, J, R)) → xm_den (d + 28) m_X1_readClause 0 [some (.ref (9 : Nat)), none, none, none, none] [] xm_la I J R = xm_den (d + 28) m_X1_readClause 77 [some (.ref (9 : Nat)), some (.int (nI (T q))), some (.int v), some (.int (nI 1)), some (.int (nI 0))] [] xm_la I2 J R := by
      intro d t en I J R v I2 h hy
      have pk := c_pk (J := J) h hp hq
      rw [e0] at pk
      exact cK_A (d := d) h.1 hc pk (by rw [show d + 27 = d + 3 * 6 + 9 by omega]; exact hy)
    have goR : ∀ {d tx nc : Nat} {cl : List (Nat × Nat)} {M J R} {M2 : xm_I}, rst M R tx T n 0 p cl → M 54 tx = nI nc → nc < 90 → rrCo 6 d (xm_up (xm_up M 55 (90 * tx + nc) (nI cl.length)) 49 3 (nI q)) J R M2 → xm_den (d + 36) m_X12_clause 89 [some (.ref (49 : Nat)), some (.int (nI (90 * tx + nc))), none] [] xm_la M J R = xm_den (d + 36) m_X12_clause 183 [some (.ref (49 : Nat)), some (.int (nI (90 * tx + nc))), some (.int (nI 1))] [] xm_la M2 J R := by
      intro d tx nc cl M J R M2 h h54 hnc hy
      have h1 := rst_o (o := 55) (j := 90 * tx + nc) (v := nI cl.length) h (by omega)
      have lk := r_lk (J := J) h1 hp hq
      have lk2 := lk_q (J := J) h1 hp hq
      rw [e0] at lk lk2
      rw [rK_from h.1 h.2.2.2.2.2.1 h.2.2.2.2.2.2.1 hnc h.2.2.2.2.2.2.2.1]
      exact rK_A (d := d) hc lk lk2 (by rw [show d + 35 = d + 4 * 6 + 11 by omega]; exact hy)
    have toQ : ∀ {tx nc : Nat} {cl : List (Nat × Nat)} {M R}, rst M R tx T n 0 p cl → nc < 90 → rst (xm_up (xm_up M 55 (90 * tx + nc) (nI cl.length)) 49 3 (nI q)) R tx T n 0 q cl ∧ rfK tx M (xm_up (xm_up M 55 (90 * tx + nc) (nI cl.length)) 49 3 (nI q)) := fun h hnc => ⟨rst_p (rst_o h (by omega)) hle.1, rfK_tr (rfK_k (by omega) hnc) (rfK_m (rfm_49 (Or.inl rfl)))⟩
    rcases (con_lv (n := n) hT 6 0 (by omega)).2 q hle.2 with ⟨f, hf1, hf2, sC, sR⟩ | ⟨e1, c1, hc1, hc2, hc3, sC, sR⟩
    · refine Or.inl ⟨f, by omega, hf2, fun d t en I J R h => ?_, fun d tx nc cl M J R h h54 hnc => ?_⟩
      · obtain ⟨v, hvb, hv⟩ := sC (nI 0) d t en (xm_up I 3 2 (nI q)) J R (cst_s h) (Or.inl rfl)
        rw [cF_up] at hv
        refine ⟨v, nI 0, ?_⟩
        rw [goC h hv, cK_T (d := d) h.1 (fun d => tk_F (by omega)) (c_sumF (d := d + 21) h.1)]
        exact cK_end
      · have hn := h.2.1.2.1.1
        obtain ⟨h2, m2⟩ := toQ (nc := nc) h hnc
        obtain ⟨M2, z, r1, r2, r3, r4⟩ := sR d tx cl _ J R h2
        have k54 : M2 54 tx = nI nc := by rw [fm_k r3 (by omega), up_o (by decide), up_o (by decide)]; exact h54
        refine ⟨_, (goR h h54 hnc r1).trans (rK_finF h.1 r2 (by omega) hnc k54 rfl), ?_, rfK_tr m2 (rfK_tr (rfK_m r3) (rfK_fin hnc))⟩
        rw [up_o (by decide), up_o (by decide), up_o (by decide)]; exact r2.1
    · have hc3 : pu c1 = bo c1 + 1 := hc3
      have hne := ne_of_pu hc3
      rcases cTl_all (ct := c1) hT hc2 with ⟨f, hf1, hf2, tC, tR⟩ | ⟨e, cs, t1, t2, t3, tC, tR⟩
      · refine Or.inl ⟨f, by omega, hf2, fun d t en I J R h => ?_, fun d tx nc cl M J R h h54 hnc => ?_⟩
        · obtain ⟨v, v1, v2, v3⟩ := sC (nI 0) d t en (xm_up I 3 2 (nI q)) J R (cst_s h) (Or.inl rfl)
          rw [up_2] at v3
          obtain ⟨s, hs⟩ := tC d t en (xm_up I 3 2 (nI e1)) J R (nI (T q)) v (nI 0) (cst_s h)
          rw [cF_up] at hs
          exact ⟨v, s, (goC h v3).trans hs⟩
        · obtain ⟨h2, m2⟩ := toQ (nc := nc) h hnc
          obtain ⟨M2, r1, r2, r3⟩ := sR d tx cl _ J R h2
          have k54 : M2 54 tx = nI nc := by rw [fm_k r3 (by omega), up_o (by decide), up_o (by decide)]; exact h54
          have k55 : M2 55 (90 * tx + nc) = nI cl.length := by rw [fm_k r3 (by omega), up_o (by decide), up_s]
          obtain ⟨M', w1, w2, w3⟩ := tR d tx nc 0 cl M2 J R r2 k54 hnc k55
          exact ⟨M', (goR h h54 hnc r1).trans w1, w2, rfK_tr m2 (rfK_tr (rfK_m r3) w3)⟩
      · refine Or.inr ⟨e, (c1, cs), by show p + c1.length + cs.length ≤ e; omega, t2, ⟨t3, Or.inr hc3⟩, fun d t en I J R h => ?_, fun d tx nc cl M J R h h54 hnc => ?_⟩
        · obtain ⟨v, v1, v2, v3⟩ := sC (nI 0) d t en (xm_up I 3 2 (nI q)) J R (cst_s h) (Or.inl rfl)
          rw [up_2] at v3
          obtain ⟨s, s1, hs⟩ := tC d t en (xm_up I 3 2 (nI e1)) J R (nI (T q)) v (nI 0) (cst_s h)
          rw [up_2] at hs
          have v2' : ∀ st, rn en c1 st = some (v :: st) := v2
          refine ⟨⟨⟨s, s1⟩, Or.inr ⟨v, v1.2 rfl, v2'⟩⟩, ?_⟩
          show _ = some (none, xm_la, cEnd (if c1 = [] then nI 1 else cval en c1) (cval en cs) (xm_up I 3 2 (nI e)), J, R)
          rw [if_neg hne, cval_of v2', cval_of s1]
          exact (goC h v3).trans hs
        · obtain ⟨h2, m2⟩ := toQ (nc := nc) h hnc
          obtain ⟨M2, r1, r2, r3⟩ := sR d tx cl _ J R h2
          have k54 : M2 54 tx = nI nc := by rw [fm_k r3 (by omega), up_o (by decide), up_o (by decide)]; exact h54
          have k55 : M2 55 (90 * tx + nc) = nI cl.length := by rw [fm_k r3 (by omega), up_o (by decide), up_s]
          obtain ⟨M', w1, w2, w3, w4, w5, w6, w7, w8⟩ := tR d tx nc 0 cl M2 J R r2 k54 hnc k55
          refine ⟨M', (goR h h54 hnc r1).trans w1, w2, w3, w4, w5, w6, rfK_tr m2 (rfK_tr (rfK_m r3) w7), fun i hi => ?_⟩
          obtain ⟨x1, x2, x3⟩ := w8 i hi
          refine ⟨?_, ?_, ?_⟩
          · rw [x1, fm_k r3 (by omega), up_o (by decide), up_k (by omega)]
          · rw [x2, fm_k r3 (by omega), up_o (by decide), up_o (by decide)]
          · rw [x3, fm_k r3 (by omega), up_o (by decide), up_o (by decide)]
  · have e33 := tx_cn (n := n) hT (c := 33) (q := q) (by omega) (fun z => hA ⟨z.1, Or.inl z.2⟩)
    have e40 := tx_cn (n := n) hT (c := 40) (q := q) (by omega) (fun z => hA ⟨z.1, Or.inr z.2⟩)
    have toQ : ∀ {tx nc : Nat} {cl : List (Nat × Nat)} {M R}, rst M R tx T n 0 p cl → nc < 90 → rst (xm_up (xm_up M 55 (90 * tx + nc) (nI cl.length)) 49 3 (nI q)) R tx T n 0 q cl ∧ rfK tx M (xm_up (xm_up M 55 (90 * tx + nc) (nI cl.length)) 49 3 (nI q)) := fun h hnc => ⟨rst_p (rst_o h (by omega)) hle.1, rfK_tr (rfK_k (by omega) hnc) (rfK_m (rfm_49 (Or.inl rfl)))⟩
    have es : ∀ d, d + 27 = d + 3 + 3 * 6 + 6 := fun d => by omega
    have er : ∀ d, d + 35 = d + 11 + 3 * 6 + 6 := fun d => by omega
    rcases sum_lv (n := n) hT 6 0 (by omega) q hle.2 with ⟨f, hf1, hf2, sC, sR⟩ | ⟨e1, c1, hc1, hc2, hc3, sC, sR⟩
    · refine Or.inl ⟨f, by omega, hf2, fun d t en I J R h => ?_, fun d tx nc cl M J R h h54 hnc => ?_⟩
      · have pk := c_pk (J := J) h hp hq
        obtain ⟨v, hvb, hv⟩ := sC 0 (d + 3) t en (xm_up I 3 2 (nI q)) J R (cst_s h) (Or.inl rfl)
        rw [cF_up] at hv
        have hv' : xm_den (d + 27) m_X1_sum 0 [some (.ref (9 : Nat)), some (.int (nI 0)), none, none, none, none] [] xm_la (xm_up I 3 2 (nI q)) J R = some (some (.int v), xm_la, cF f I, J, R) := by rw [es]; exact hv
        have pk2 := fun (d : Nat) => s_peek1 (d := d) (J := J) (R := R) (I := cF f I) cF_3
        refine ⟨nI 1, v, ?_⟩
        rw [cK_B (d := d) h.1 e33 e40 pk hv' pk2 (fun d K => c_cmp0 (f_eq (by omega)) (f_eq (by omega)) (f_eq (by omega)))]
        exact cK_end
      · have hn := h.2.1.2.1.1
        have h1 := rst_o (o := 55) (j := 90 * tx + nc) (v := nI cl.length) h (by omega)
        have lk := r_lk (J := J) h1 hp hq
        have lk2 := lk_q (J := J) h1 hp hq
        obtain ⟨h2, m2⟩ := toQ (nc := nc) h hnc
        obtain ⟨M2, z, r1, r2, r3, r4⟩ := sR (d + 11) tx cl _ J R h2
        have r1' : xm_den (d + 35) m_X12_sum 0 [some (.ref (49 : Nat)), none] [] xm_la (xm_up (xm_up M 55 (90 * tx + nc) (nI cl.length)) 49 3 (nI q)) J R = some (none, xm_la, M2, J, R) := by rw [er]; exact r1
        have k54 : M2 54 tx = nI nc := by rw [fm_k r3 (by omega), up_o (by decide), up_o (by decide)]; exact h54
        refine ⟨_, ?_, ?_, rfK_tr m2 (rfK_tr (rfK_m r3) (rfK_fin (z := nI z) (o := M2 55 (90 * tx + nc)) (w := nI (nc + 1)) hnc))⟩
        · rw [rK_from h.1 h.2.2.2.2.2.1 h.2.2.2.2.2.2.1 hnc h.2.2.2.2.2.2.2.1, rK_BF (d := d) e33 e40 lk lk2 r1' r2.1 (by omega)]
          exact rK_fin0 h.1 r2.2.1 r2.2.2.1 hnc r2.2.2.2 k54 rfl
        · rw [up_o (by decide), up_o (by decide), up_o (by decide)]; exact r2.1
    · have hc3 : pu c1 = bo c1 + 1 := hc3
      have hne := ne_of_pu hc3
      obtain ⟨q2, hq2⟩ : ∃ X, X = tx_s T n e1 := ⟨_, rfl⟩
      have hle2 := tx_s_le (T := T) hc2
      rw [← hq2] at hle2
      -- what both do up to the sign behind the sum
      have sumC : ∀ {d t : Nat} {en : Nat → Int32} {I J R}, cst I R t T n p en → ∃ v, okb false v ∧ (∀ st, rn en c1 st = some (v :: st)) ∧ xm_den (d + 27) m_X1_sum 0 [some (.ref (9 : Nat)), some (.int (nI 0)), none, none, none, none] [] xm_la (xm_up I 3 2 (nI q)) J R = some (some (.int v), xm_la, xm_up I 3 2 (nI e1), J, R) ∧ ∀ d, xm_den d m_X8_peek 0 [some (.ref (3 : Nat))] [] xm_la (xm_up I 3 2 (nI e1)) J R = some (some (.int (tx_c T n q2)), xm_la, xm_up I 3 2 (nI q2), J, R) := by
        intro d t en I J R h
        obtain ⟨v, v1, v2, v3⟩ := sC 0 (d + 3) t en (xm_up I 3 2 (nI q)) J R (cst_s h) (Or.inl rfl)
        rw [up_2] at v3
        refine ⟨v, v1, v2, by rw [es]; exact v3, ?_⟩
        have := c_pk (J := J) (cst_s (e := e1) h) hc2 hq2
        rwa [up_2] at this
      have sumR : ∀ {d tx nc : Nat} {cl : List (Nat × Nat)} {M J R}, rst M R tx T n 0 p cl → M 54 tx = nI nc → nc < 90 → ∃ M2, xm_den (d + 35) m_X12_sum 0 [some (.ref (49 : Nat)), none] [] xm_la (xm_up (xm_up M 55 (90 * tx + nc) (nI cl.length)) 49 3 (nI q)) J R = some (none, xm_la, M2, J, R) ∧ rst M2 R tx T n 0 e1 (cl ++ c1) ∧ rfm tx (xm_up (xm_up M 55 (90 * tx + nc) (nI cl.length)) 49 3 (nI q)) M2 ∧ M2 54 tx = nI nc ∧ M2 55 (90 * tx + nc) = nI cl.length ∧ ∀ i, i < nc → M2 55 (90 * tx + i) = M 55 (90 * tx + i) ∧ M2 56 (90 * tx + i) = M 56 (90 * tx + i) ∧ M2 57 (90 * tx + i) = M 57 (90 * tx + i) := by
        intro d tx nc cl M J R h h54 hnc
        obtain ⟨h2, m2⟩ := toQ (nc := nc) h hnc
        obtain ⟨M2, r1, r2, r3⟩ := sR (d + 11) tx cl _ J R h2
        refine ⟨M2, by rw [er]; exact r1, r2, r3, ?_, ?_, fun i hi => ⟨?_, ?_, ?_⟩⟩
        · rw [fm_k r3 (by omega), up_o (by decide), up_o (by decide)]; exact h54
        · rw [fm_k r3 (by omega), up_o (by decide), up_s]
        · rw [fm_k r3 (by omega), up_o (by decide), up_k (by omega)]
        · rw [fm_k r3 (by omega), up_o (by decide), up_o (by decide)]
        · rw [fm_k r3 (by omega), up_o (by decide), up_o (by decide)]
      by_cases hop : q2 < n ∧ (T q2 = 61 ∨ T q2 = 60 ∨ T q2 = 62)
      · obtain ⟨hqn, hop⟩ := hop
        have y0 : tx_c T n q2 = nI (T q2) := tx_c_lt hqn
        have goC : ∀ {d t : Nat} {en : Nat → Int32} {I J R} {v w : Int32} {I2 : xm_I}, cst I R t T n p en → xm_den (d + 27) m_X1_sum 0 [some (.ref (9 : Nat)), some (.int (nI 0)), none, none, none, none] [] xm_la (xm_up I 3 2 (nI q)) J R = some (some (.int v), xm_la, xm_up I 3 2 (nI e1), J, R) → (∀ d, xm_den d m_X8_peek 0 [some (.ref (3 : Nat))] [] xm_la (xm_up I 3 2 (nI e1)) J R = some (some (.int (tx_c T n q2)), xm_la, xm_up I 3 2 (nI q2), J, R)) → crY 6 0 1 v d (xm_up I 3 2 (nI q2)) J R (some (some (.int w), xm_la, I2, J, R)) → xm_den (d + 28) m_X1_readClause 0 [some (.ref (9 : Nat)), none, none, none, none] [] xm_la I J R = xm_den (d + 28) m_X1_readClause 77 [some (.ref (9 : Nat)), some (.int (tx_c T n q)), some (.int w), some (.int (nI 1)), some (.int v)] [] xm_la I2 J R := by
          intro d t en I J R v w I2 h hs pk2 hy
          have pk := c_pk (J := J) h hp hq
          rw [y0] at pk2
          exact cK_C (d := d) h.1 e33 e40 pk hs pk2 (fun d K => c_cmp1 hop) (by rw [show d + 27 = d + 3 * 6 + 9 by omega]; exact hy)
        have goR : ∀ {d tx nc : Nat} {cl : List (Nat × Nat)} {M J R} {M2 M5 : xm_I}, rst M R tx T n 0 p cl → M 54 tx = nI nc → nc < 90 → xm_den (d + 35) m_X12_sum 0 [some (.ref (49 : Nat)), none] [] xm_la (xm_up (xm_up M 55 (90 * tx + nc) (nI cl.length)) 49 3 (nI q)) J R = some (none, xm_la, M2, J, R) → rst M2 R tx T n 0 e1 (cl ++ c1) → rrB (d + 1) (xm_up M2 49 3 (nI q2)) J R M5 → xm_den (d + 36) m_X12_clause 89 [some (.ref (49 : Nat)), some (.int (nI (90 * tx + nc))), none] [] xm_la M J R = xm_den (d + 36) m_X12_clause 183 [some (.ref (49 : Nat)), some (.int (nI (90 * tx + nc))), some (.int (nI 1))] [] xm_la M5 J R := by
          intro d tx nc cl M J R M2 M5 h h54 hnc hs h2 hb
          obtain ⟨M3, M4, b1, b2, b3⟩ := hb
          have h1 := rst_o (o := 55) (j := 90 * tx + nc) (v := nI cl.length) h (by omega)
          have lk := r_lk (J := J) h1 hp hq
          have lk2 := lk_q (J := J) h1 hp hq
          have lk3 := r_lk (J := J) h2 hc2 hq2
          rw [y0] at lk3
          rw [rK_from h.1 h.2.2.2.2.2.1 h.2.2.2.2.2.2.1 hnc h.2.2.2.2.2.2.2.1]
          exact rK_C (d := d) e33 e40 lk lk2 hs h2.2.2.2.1 lk3 (fun d K => r_cmp1 hop) b1 b2 b3
        rcases con_begun (n := n) hT q2 c1 hle2.2 hne hc3 with ⟨f, hf1, hf2, bC, bR⟩ | ⟨e3, c2, g1, g2, g3, bC, bR⟩
        · refine Or.inl ⟨f, by omega, hf2, fun d t en I J R h => ?_, fun d tx nc cl M J R h h54 hnc => ?_⟩
          · obtain ⟨v, v1, v2, v3, v4⟩ := sumC (d := d) (J := J) h
            obtain ⟨w, hwb, hw⟩ := bC v d t en (xm_up I 3 2 (nI q2)) J R (cst_s h) (Or.inr ⟨v1, v2⟩)
            rw [cF_up] at hw
            refine ⟨w, nI 0, ?_⟩
            rw [goC h v3 v4 hw, cK_T (d := d) h.1 (fun d => tk_F (by omega)) (c_sumF (d := d + 21) h.1)]
            exact cK_end
          · have hn := h.2.1.2.1.1
            obtain ⟨_, m2⟩ := toQ (nc := nc) h hnc
            obtain ⟨M2, r1, r2, r3, k54, k55, _⟩ := sumR (d := d) (J := J) h h54 hnc
            obtain ⟨M5, z, b1, b2, b3, b4⟩ := bR (d + 1) tx _ (xm_up M2 49 3 (nI q2)) J R (rst_p r2 hle2.1)
            have j54 : M5 54 tx = nI nc := by rw [fm_k b3 (by omega), up_o (by decide)]; exact k54
            refine ⟨_, (goR h h54 hnc r1 r2 b1).trans (rK_finF h.1 b2 (by omega) hnc j54 rfl), ?_, rfK_tr m2 (rfK_tr (rfK_m r3) (rfK_tr (rfK_m (rfm_49 (Or.inl rfl))) (rfK_tr (rfK_m b3) (rfK_fin hnc))))⟩
            rw [up_o (by decide), up_o (by decide), up_o (by decide)]; exact b2.1
        · have hne2 := ne_of_pu g3
          rcases cTl_all (ct := c1 ++ c2) hT g2 with ⟨f, hf1, hf2, tC, tR⟩ | ⟨e, cs, t1, t2, t3, tC, tR⟩
          · refine Or.inl ⟨f, by omega, hf2, fun d t en I J R h => ?_, fun d tx nc cl M J R h h54 hnc => ?_⟩
            · obtain ⟨v, v1, v2, v3, v4⟩ := sumC (d := d) (J := J) h
              obtain ⟨w, w1, w2, w3⟩ := bC v d t en (xm_up I 3 2 (nI q2)) J R (cst_s h) (Or.inr ⟨v1, v2⟩)
              rw [up_2] at w3
              obtain ⟨s, hs⟩ := tC d t en (xm_up I 3 2 (nI e3)) J R (tx_c T n q) w v (cst_s h)
              rw [cF_up] at hs
              exact ⟨w, s, (goC h v3 v4 w3).trans hs⟩
            · obtain ⟨_, m2⟩ := toQ (nc := nc) h hnc
              obtain ⟨M2, r1, r2, r3, k54, k55, _⟩ := sumR (d := d) (J := J) h h54 hnc
              obtain ⟨M5, b1, b2, b3⟩ := bR (d + 1) tx _ (xm_up M2 49 3 (nI q2)) J R (rst_p r2 hle2.1)
              have j54 : M5 54 tx = nI nc := by rw [fm_k b3 (by omega), up_o (by decide)]; exact k54
              have j55 : M5 55 (90 * tx + nc) = nI cl.length := by rw [fm_k b3 (by omega), up_o (by decide)]; exact k55
              rw [List.append_assoc] at b2
              obtain ⟨M', w1, w2, w3⟩ := tR d tx nc 0 cl M5 J R b2 j54 hnc j55
              exact ⟨M', (goR h h54 hnc r1 r2 b1).trans w1, w2, rfK_tr m2 (rfK_tr (rfK_m r3) (rfK_tr (rfK_m (rfm_49 (Or.inl rfl))) (rfK_tr (rfK_m b3) w3)))⟩
          · refine Or.inr ⟨e, (c1 ++ c2, cs), by show p + (c1 ++ c2).length + cs.length ≤ e; rw [List.length_append]; omega, t2, ⟨t3, Or.inr g3⟩, fun d t en I J R h => ?_, fun d tx nc cl M J R h h54 hnc => ?_⟩
            · obtain ⟨v, v1, v2, v3, v4⟩ := sumC (d := d) (J := J) h
              obtain ⟨w, w1, w2, w3⟩ := bC v d t en (xm_up I 3 2 (nI q2)) J R (cst_s h) (Or.inr ⟨v1, v2⟩)
              rw [up_2] at w3
              obtain ⟨s, s1, hs⟩ := tC d t en (xm_up I 3 2 (nI e3)) J R (tx_c T n q) w v (cst_s h)
              rw [up_2] at hs
              refine ⟨⟨⟨s, s1⟩, Or.inr ⟨w, w1.2 rfl, w2⟩⟩, ?_⟩
              show _ = some (none, xm_la, cEnd (if c1 ++ c2 = [] then nI 1 else cval en (c1 ++ c2)) (cval en cs) (xm_up I 3 2 (nI e)), J, R)
              rw [if_neg hne2, cval_of w2, cval_of s1]
              exact (goC h v3 v4 w3).trans hs
            · obtain ⟨_, m2⟩ := toQ (nc := nc) h hnc
              obtain ⟨M2, r1, r2, r3, k54, k55, kk⟩ := sumR (d := d) (J := J) h h54 hnc
              obtain ⟨M5, b1, b2, b3⟩ := bR (d + 1) tx _ (xm_up M2 49 3 (nI q2)) J R (rst_p r2 hle2.1)
              have j54 : M5 54 tx = nI nc := by rw [fm_k b3 (by omega), up_o (by decide)]; exact k54
              have j55 : M5 55 (90 * tx + nc) = nI cl.length := by rw [fm_k b3 (by omega), up_o (by decide)]; exact k55
              rw [List.append_assoc] at b2
              obtain ⟨M', w1, w2, w3, w4, w5, w6, w7, w8⟩ := tR d tx nc 0 cl M5 J R b2 j54 hnc j55
              refine ⟨M', (goR h h54 hnc r1 r2 b1).trans w1, w2, w3, w4, w5, w6, rfK_tr m2 (rfK_tr (rfK_m r3) (rfK_tr (rfK_m (rfm_49 (Or.inl rfl))) (rfK_tr (rfK_m b3) w7))), fun i hi => ?_⟩
              obtain ⟨x1, x2, x3⟩ := w8 i hi
              obtain ⟨y1, y2, y3⟩ := kk i hi
              refine ⟨?_, ?_, ?_⟩
              · rw [x1, fm_k b3 (by omega), up_o (by decide), y1]
              · rw [x2, fm_k b3 (by omega), up_o (by decide), y2]
              · rw [x3, fm_k b3 (by omega), up_o (by decide), y3]
      · have n1 := tx_cn (n := n) hT (c := 61) (q := q2) (by omega) (fun z => hop ⟨z.1, Or.inl z.2⟩)
        have n2 := tx_cn (n := n) hT (c := 60) (q := q2) (by omega) (fun z => hop ⟨z.1, Or.inr (Or.inl z.2)⟩)
        have n3 := tx_cn (n := n) hT (c := 62) (q := q2) (by omega) (fun z => hop ⟨z.1, Or.inr (Or.inr z.2)⟩)
        refine Or.inr ⟨q2, ([], c1), by show p + 0 + c1.length ≤ q2; omega, hle2.2, ⟨hc3, Or.inl rfl⟩, fun d t en I J R h => ?_, fun d tx nc cl M J R h h54 hnc => ?_⟩
        · obtain ⟨v, v1, v2, v3, v4⟩ := sumC (d := d) (J := J) h
          have pk := c_pk (J := J) h hp hq
          refine ⟨⟨⟨v, v2⟩, Or.inl rfl⟩, ?_⟩
          show _ = some (none, xm_la, cEnd (nI 1) (cval en c1) (xm_up I 3 2 (nI q2)), J, R)
          rw [cval_of v2, cK_B (d := d) h.1 e33 e40 pk v3 v4 (fun d K => c_cmp0 n1 n2 n3)]
          exact cK_end
        · obtain ⟨_, m2⟩ := toQ (nc := nc) h hnc
          obtain ⟨M2, r1, r2, r3, k54, k55, kk⟩ := sumR (d := d) (J := J) h h54 hnc
          have h1 := rst_o (o := 55) (j := 90 * tx + nc) (v := nI cl.length) h (by omega)
          have lk := r_lk (J := J) h1 hp hq
          have lk2 := lk_q (J := J) h1 hp hq
          have lk3 := r_lk (J := J) r2 hc2 hq2
          have h3 := rst_p r2 (e := q2) hle2.1
          refine ⟨xm_up (xm_up (xm_up (xm_up M2 49 3 (nI q2)) 56 (90 * tx + nc) (nI cl.length)) 57 (90 * tx + nc) (nI (cl ++ c1).length)) 54 tx (nI (nc + 1)), ?_, rst_o (rst_o (rst_o h3 (by omega)) (by omega)) (by omega), up_s, ?_, ?_, ?_, rfK_tr m2 (rfK_tr (rfK_m r3) (rfK_tr (rfK_m (rfm_49 (Or.inl rfl))) (rfK_fin hnc))), fun i hi => ⟨?_, ?_, ?_⟩⟩
          · rw [rK_from h.1 h.2.2.2.2.2.1 h.2.2.2.2.2.2.1 hnc h.2.2.2.2.2.2.2.1, rK_B (d := d) e33 e40 lk lk2 r1 r2.2.2.2.1 lk3 (fun d K => r_cmp0 n1 n2 n3)]
            exact rK_fin0 (z := (cl ++ c1).length) (o := nI cl.length) h.1 h3.2.2.2.2.2.1 h3.2.2.2.2.2.2.1 hnc h3.2.2.2.2.2.2.2.1 (by rw [up_o (by decide)]; exact k54) (by rw [up_o (by decide)]; exact k55)
          · rw [up_o (by decide), up_o (by decide), up_o (by decide), up_o (by decide)]; exact k55
          · rw [up_o (by decide), up_o (by decide), up_s]; rfl
          · rw [up_o (by decide), up_s, List.length_append]; rfl
          · rw [up_o (by decide), up_o (by decide), up_o (by decide), up_o (by decide)]; exact (kk i hi).1
          · rw [up_o (by decide), up_o (by decide), up_k (by omega), up_o (by decide)]; exact (kk i hi).2.1
          · rw [up_o (by decide), up_k (by omega), up_o (by decide), up_o (by decide)]; exact (kk i hi).2.2
end COSTI
