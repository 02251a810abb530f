/-! costs: a whole text, both -/
section COSTZ
variable {d : Nat} {I M : xm_I} {J : xm_J} {R : xm_R} {T : Nat → Nat} {n : Nat}
theorem cEnd_3 {w s : Int32} {k : Nat} : cEnd w s I 3 k = I 3 k := cEnd_fq 3 k (by decide) (by simp)
theorem fq_cl {e : Nat} : fq [] clF I (xm_up I 3 2 (nI e)) := fq_u2 fq_rf (by decide)
theorem fq_clF {f : Nat} : fq [] clF I (cF f I) := fq_u2 (fq_u2 fq_rf (by decide)) (by decide)
theorem fq_clE {w s : Int32} {I' : xm_I} (h : fq [] clF I I') : fq [] clF I (cEnd w s I') := fq_tr h (fq_sub cEnd_fq (by decide) (by decide))
theorem ckwS_3 {k : Nat} {v : Int32} {o : Option Int32} (h : ckwS I o) : ckwS (xm_up I 3 k v) o := by
  cases o with
  | none => exact ⟨by rw [up_o (by decide)]; exact h.1, by rw [up_o (by decide)]; exact h.2⟩
  | some w => exact ⟨by rw [up_o (by decide)]; exact h.1, by rw [up_o (by decide)]; exact h.2⟩
theorem text_all (hT : ∀ j, T j < 256) (hn : n ≤ 160) : ∀ (m p : Nat) (ks : List cK), n = p + m → (∀ k ∈ ks, kgood k) → (∃ f, f ≤ n ∧ TXF T n p f ks) ∨ ∃ ks', (∀ k ∈ ks', kgood k) ∧ TXS T n p ks ks' := by
  intro m
  induction m using Nat.strongRecOn with
  | _ m ih =>
  intro p ks hm hg
  have hp : p ≤ n := by omega
  obtain ⟨q0, hq0⟩ : ∃ X, X = tx_s T n p := ⟨_, rfl⟩
  have hle0 := tx_s_le (T := T) hp
  rw [← hq0] at hle0
  by_cases hy : q0 < n ∧ T q0 = 121
  · obtain ⟨hy1, hy2⟩ := hy
    have ey : tx_c T n q0 = nI 121 := by rw [tx_c_lt hy1, hy2]
    have hp1 : q0 + 1 ≤ n := by omega
    obtain ⟨q1, hq1⟩ : ∃ X, X = tx_s T n (q0 + 1) := ⟨_, rfl⟩
    have hle1 := tx_s_le (T := T) hp1
    rw [← hq1] at hle1
    have tkY : ∀ {t : Nat} {en : Nat → Int32} {I J R}, cst I R t T n p en → ∀ d, xm_den (d + 1) m_X8_take 0 [some (.ref (3 : Nat)), some (.int (nI 121))] [] xm_la I J R = some (some (.int (nI 1)), xm_la, xm_up I 3 2 (nI (q0 + 1)), J, R) := fun h d => c_tk h hp hq0 (by omega) ey
    have lkY : ∀ {tx : Nat} {cl : List (Nat × Nat)} {M J R}, rst M R tx T n 0 p cl → ∀ d, xm_den (d + 1) m_X12_look 0 [some (.ref (49 : Nat))] [] xm_la M J R = some (some (.int (nI 121)), xm_la, xm_up M 49 3 (nI q0), J, R) := fun {tx cl M J R} h d => by
      have := r_lk (J := J) h hp hq0 d
      rwa [ey] at this
    by_cases hc : q1 < n ∧ T q1 = 58
    · obtain ⟨hc1, hc2⟩ := hc
      have ec : tx_c T n q1 = nI 58 := by rw [tx_c_lt hc1, hc2]
      have tkC : ∀ {t : Nat} {en : Nat → Int32} {I J R}, cst I R t T n p en → ∀ d, xm_den (d + 1) m_X8_take 0 [some (.ref (3 : Nat)), some (.int (nI 58))] [] xm_la (xm_up I 3 2 (nI (q0 + 1))) J R = some (some (.int (nI 1)), xm_la, xm_up I 3 2 (nI (q1 + 1)), J, R) := fun {t en I J R} h d => by
        have := c_tk (d := d) (J := J) (cst_s (e := q0 + 1) h) hp1 hq1 (c := 58) (by omega) ec
        rwa [up_2] at this
      have lkC : ∀ {tx : Nat} {cl : List (Nat × Nat)} {M J R}, rst M R tx T n 0 p cl → ∀ d, xm_den (d + 1) m_X12_look 0 [some (.ref (49 : Nat))] [] xm_la (xm_up M 49 3 (nI (q0 + 1))) J R = some (some (.int (nI 58)), xm_la, xm_up M 49 3 (nI q1), J, R) := fun {tx cl M J R} h d => by
        have := r_lk (J := J) (rst_p h (e := q0 + 1) (by omega)) hp1 hq1 d
        rwa [ec, up_2] at this
      have goR : ∀ {d tx : Nat} {M J R}, rsK M R tx T n p ks → xm_den (d + 36) m_X12_clause 0 [some (.ref (49 : Nat)), none, none] [] xm_la M J R = xm_den (d + 36) m_X12_clause 89 [some (.ref (49 : Nat)), some (.int (nI (90 * tx + ks.length))), none] [] xm_la (xm_up M 49 3 (nI (q1 + 1))) J R := by
        intro d tx M J R h
        obtain ⟨h1, h2, h3, h4⟩ := h
        exact rK_head (d := d + 34) h1.1 h1.2.2.2.2.2.1 h1.2.2.2.2.2.2.1 h2 h1.2.2.2.1 (lkY h1) (lkC h1)
      rcases clause_body hT (show q1 + 1 ≤ n by omega) with ⟨f, hf1, hf2, bC, bR⟩ | ⟨e, k, he1, he2, hk, bC, bR⟩
      · refine Or.inl ⟨f, hf2, fun d t t' cnt en I J R h hcnt => ?_, fun d tx M J R h => ?_⟩
        · obtain ⟨h1, h2, h3⟩ := h
          obtain ⟨w, s, hr⟩ := bC d t en (xm_up I 3 2 (nI (q1 + 1))) J R (cst_s h1)
          rw [cF_up] at hr
          have pk := fun (d : Nat) => s_peek1 (d := d) (J := J) (R := R) (I := cEnd w s (cF f I)) (by rw [cEnd_3]; exact cF_3)
          have tk := fun (d : Nat) => s_take1 (d := d) (J := J) (R := R) (I := cEnd w s (cF f I)) (c := 59) (by rw [cEnd_3]; exact cF_3) (by omega)
          rw [up_id (show cEnd w s (cF f I) 3 3 = nI 1 by rw [cEnd_3]; exact cF_3)] at tk
          refine ⟨cEnd w s (cF f I), ?_, fq_clE fq_clF⟩
          rw [cL_k (d := d) h1.1 (by omega) (tkY h1) (tkC h1) hr, cL_bad (d := d) h1.1 pk f_m tk]
          exact cL_stop (d := d) h1.1 (by rw [cEnd_3]; exact (by unfold cF; rw [up_k (by decide), up_s])) (by rw [cEnd_3]; exact cF_3) (by omega)
        · have h1 := h.1
          have h2 := rsK_p h (e := q1 + 1) (by omega)
          have hnc : ks.length < 90 := by have := h.2.2.1; omega
          obtain ⟨M', w1, w2, w3⟩ := bR d tx ks.length (cdk ks) _ J R h2.1 h2.2.1 hnc
          exact ⟨M', ⟨M', (goR h).trans w1, fun a1 => rL_F w2 (by omega)⟩, rfK_tr (rfK_m (rfm_49 (Or.inl rfl))) w3⟩
      · have hg' : ∀ k' ∈ ks ++ [k], kgood k' := fun k' hk' => by
          rcases List.mem_append.mp hk' with z | z
          · exact hg k' z
          · rw [List.mem_singleton.mp z]; exact hk
        have bC' : ∀ {d t t' cnt : Nat} {en : Nat → Int32} {I J R}, cSK I R t T n p en ks → 2 * cnt ≤ p → ∃ I', cSK I' R t T n e en (ks ++ [k]) ∧ fq [] clF I I' ∧ xm_den (d + 29) m_X1_faultOf 20 [some (.ref (9 : Nat)), some (.ref t'), some (.int (nI cnt))] [] xm_la I J R = xm_den (d + 29) m_X1_faultOf 58 [some (.ref (9 : Nat)), some (.ref t'), some (.int (nI cnt))] [] xm_la I' J R := by
          intro d t t' cnt en I J R h hcnt
          obtain ⟨h1, h2, h3⟩ := h
          obtain ⟨kv, hr⟩ := bC d t en (xm_up I 3 2 (nI (q1 + 1))) J R (cst_s h1)
          rw [up_2] at hr
          exact ⟨_, cSK_end (cst_s h1) h2 (ckwS_3 h3) kv, fq_clE fq_cl, cL_k (d := d) h1.1 (by omega) (tkY h1) (tkC h1) hr⟩
        have bR' : ∀ {d tx : Nat} {M J R}, rsK M R tx T n p ks → ∃ M1, xm_den (d + 36) m_X12_clause 0 [some (.ref (49 : Nat)), none, none] [] xm_la M J R = some (none, xm_la, M1, J, R) ∧ rsK M1 R tx T n e (ks ++ [k]) ∧ rfK tx M M1 := by
          intro d tx M J R h
          have h2 := rsK_p h (e := q1 + 1) (by omega)
          have hnc : ks.length < 90 := by have := h.2.2.1; omega
          obtain ⟨M1, w1, w2, w3, w4, w5, w6, w7, w8⟩ := bR d tx ks.length (cdk ks) _ J R h2.1 h2.2.1 hnc
          refine ⟨M1, (goR h).trans w1, rsK_app h rfl (by omega) w2 w3 w4 w5 w6 (fun i hi => ?_), rfK_tr (rfK_m (rfm_49 (Or.inl rfl))) w7⟩
          obtain ⟨x1, x2, x3⟩ := w8 i hi
          exact ⟨by rw [x1, up_o (by decide)], by rw [x2, up_o (by decide)], by rw [x3, up_o (by decide)]⟩
        obtain ⟨q2, hq2⟩ : ∃ X, X = tx_s T n e := ⟨_, rfl⟩
        have hle2 := tx_s_le (T := T) he2
        rw [← hq2] at hle2
        have hqq : tx_s T n q2 = q2 := by rw [hq2]; exact tx_s_s he2
        have h256 := hT q2
        by_cases hend : q2 < n
        · have e0 : tx_c T n q2 = nI (T q2) := tx_c_lt hend
          have hxm : (nI (T q2) = nM) = False := eq_m (by omega)
          by_cases hsc : T q2 = 59
          · -- a further clause
            rcases ih (n - (q2 + 1)) (by omega) (q2 + 1) (ks ++ [k]) (by omega) hg' with ⟨f, hf, iC, iR⟩ | ⟨ks', hg2, iC, iR⟩
            · refine Or.inl ⟨f, hf, fun d t t' cnt en I J R h hcnt => ?_, fun d tx M J R h => ?_⟩
              · obtain ⟨I1, k1, k2, k3⟩ := bC' (d := d) (t' := t') (J := J) h hcnt
                have pk := c_pk (J := J) k1.1 he2 hq2
                have tk := fun (d : Nat) => c_tk (d := d) (J := J) (cst_s (e := q2) k1.1) hle2.2 hqq.symm (c := 59) (by omega) (by rw [e0, hsc])
                rw [up_2] at tk
                rw [e0] at pk
                obtain ⟨I2, j1, j2⟩ := iC d t t' (cnt + 1) en (xm_up I1 3 2 (nI (q2 + 1))) J R ⟨cst_s k1.1, k1.2.1, ckwS_3 k1.2.2⟩ (by omega)
                exact ⟨I2, k3.trans ((cL_next (d := d) k1.1.1 pk hxm tk).trans j1), fq_tr k2 (fq_tr fq_cl j2)⟩
              · obtain ⟨M1, k1, k2, k3⟩ := bR' (d := d) (J := J) h
                have lk := r_lk (J := J) k2.1 he2 hq2
                rw [e0, hsc] at lk
                obtain ⟨M', ⟨M2, j1, j2⟩, j3⟩ := iR d tx _ J R (rsK_p k2 (e := q2 + 1) (by omega))
                exact ⟨M', ⟨M1, k1, fun a1 => (rL_next (d := d) k2.1.2.2.2.1 lk j1).trans (j2 a1)⟩, rfK_tr k3 (rfK_tr (rfK_m (rfm_49 (Or.inl rfl))) j3)⟩
            · refine Or.inr ⟨ks', hg2, fun d t t' cnt en I J R h hcnt => ?_, fun d tx M J R h => ?_⟩
              · obtain ⟨I1, k1, k2, k3⟩ := bC' (d := d) (t' := t') (J := J) h hcnt
                have pk := c_pk (J := J) k1.1 he2 hq2
                have tk := fun (d : Nat) => c_tk (d := d) (J := J) (cst_s (e := q2) k1.1) hle2.2 hqq.symm (c := 59) (by omega) (by rw [e0, hsc])
                rw [up_2] at tk
                rw [e0] at pk
                obtain ⟨I2, j1, j2, j3, j4⟩ := iC d t t' (cnt + 1) en (xm_up I1 3 2 (nI (q2 + 1))) J R ⟨cst_s k1.1, k1.2.1, ckwS_3 k1.2.2⟩ (by omega)
                exact ⟨I2, k3.trans ((cL_next (d := d) k1.1.1 pk hxm tk).trans j1), fq_tr k2 (fq_tr fq_cl j2), j3, j4⟩
              · obtain ⟨M1, k1, k2, k3⟩ := bR' (d := d) (J := J) h
                have lk := r_lk (J := J) k2.1 he2 hq2
                rw [e0, hsc] at lk
                obtain ⟨M', ⟨M2, j1, j2⟩, j3, j4⟩ := iR d tx _ J R (rsK_p k2 (e := q2 + 1) (by omega))
                exact ⟨M', ⟨M1, k1, fun a1 => (rL_next (d := d) k2.1.2.2.2.1 lk j1).trans (j2 a1)⟩, rfK_tr k3 (rfK_tr (rfK_m (rfm_49 (Or.inl rfl))) j3), j4⟩
          · have hx59 : (nI (T q2) = nI 59) = False := eq_F hsc (by omega) (by omega)
            refine Or.inl ⟨q2, by omega, fun d t t' cnt en I J R h hcnt => ?_, fun d tx M J R h => ?_⟩
            · obtain ⟨I1, k1, k2, k3⟩ := bC' (d := d) (t' := t') (J := J) h hcnt
              have pk := c_pk (J := J) k1.1 he2 hq2
              have tk := fun (d : Nat) => c_tk0 (d := d) (J := J) (cst_s (e := q2) k1.1) hle2.2 hqq.symm (c := 59) (by rw [e0]; exact hx59)
              rw [cF_up] at tk
              rw [e0] at pk
              refine ⟨cF q2 I1, k3.trans ((cL_bad (d := d) k1.1.1 pk hxm tk).trans ?_), fq_tr k2 fq_clF⟩
              exact cL_stop (d := d) k1.1.1 (by unfold cF; rw [up_k (by decide), up_s]) cF_3 (by omega)
            · obtain ⟨M1, k1, k2, k3⟩ := bR' (d := d) (J := J) h
              have lk := r_lk (J := J) k2.1 he2 hq2
              have lk2 := lk_q (J := J) k2.1 he2 hq2
              rw [e0] at lk lk2
              exact ⟨_, ⟨M1, k1, fun a1 => rL_bad (d := d) k2.1.2.2.2.1 lk lk2 hx59 hxm⟩, rfK_tr k3 (rfK_tr (rfK_m (rfm_49 (Or.inl rfl))) (rfK_m (rfm_49 (Or.inr (Or.inl rfl)))))⟩
        · have e0 : tx_c T n q2 = nM := tx_c_ge (by omega)
          refine Or.inr ⟨ks ++ [k], hg', fun d t t' cnt en I J R h hcnt => ?_, fun d tx M J R h => ?_⟩
          · obtain ⟨I1, k1, k2, k3⟩ := bC' (d := d) (t' := t') (J := J) h hcnt
            have pk := c_pk (J := J) k1.1 he2 hq2
            rw [e0] at pk
            refine ⟨xm_up I1 3 2 (nI q2), k3.trans ((cL_end (d := d) k1.1.1 pk (eq_self nM)).trans ?_), fq_tr k2 fq_cl, k1.2.1, ckwS_3 k1.2.2⟩
            exact cL_ok (d := d) k1.1.1 (by rw [up_k (by decide)]; exact k1.1.2.2.2.1)
          · obtain ⟨M1, k1, k2, k3⟩ := bR' (d := d) (J := J) h
            have lk := r_lk (J := J) k2.1 he2 hq2
            have lk2 := lk_q (J := J) k2.1 he2 hq2
            rw [e0] at lk lk2
            exact ⟨_, ⟨M1, k1, fun a1 => rL_end (d := d) k2.1.2.2.2.1 lk lk2 (m_eq (by omega)) (eq_self nM)⟩, rfK_tr k3 (rfK_m (rfm_49 (Or.inl rfl))), clR_of (rsK_p k2 (e := q2) (by omega)) (by omega)⟩
    · have hx := tx_cn (n := n) hT (c := 58) (by omega) hc
      refine Or.inl ⟨q1, by omega, fun d t t' cnt en I J R h hcnt => ?_, fun d tx M J R h => ?_⟩
      · have h1 := h.1
        have tkC := fun (d : Nat) => c_tk0 (d := d) (J := J) (cst_s (e := q0 + 1) h1) hp1 hq1 (c := 58) hx
        rw [cF_up] at tkC
        refine ⟨cF q1 I, ?_, fq_clF⟩
        rw [cL_c (d := d) h1.1 (by omega) (tkY h1) tkC]
        exact cL_stop (d := d) h1.1 (by unfold cF; rw [up_k (by decide), up_s]) cF_3 (by omega)
      · have h1 := h.1
        have lkC := r_lk (J := J) (rst_p h1 (e := q0 + 1) (by omega)) hp1 hq1
        rw [up_2] at lkC
        refine ⟨_, ⟨_, rK_headC (d := d + 34) h1.1 h1.2.2.2.2.2.1 h1.2.2.2.2.2.2.1 (by omega) h.2.1 h1.2.2.2.1 (lkY h1) lkC hx, fun a1 => rL_F (f := q1) (by rw [up_k (by decide), up_s]) (by omega)⟩, rfK_tr (rfK_tr (rfK_m (rfm_49 (Or.inl rfl))) (rfK_m (rfm_49 (Or.inr (Or.inl rfl))))) (rfK_m (rfm_49 (Or.inl rfl)))⟩
  · have hx := tx_cn (n := n) hT (c := 121) (by omega) hy
    refine Or.inl ⟨q0, by omega, fun d t t' cnt en I J R h hcnt => ?_, fun d tx M J R h => ?_⟩
    · have h1 := h.1
      have tkY := fun (d : Nat) => c_tk0 (d := d) (J := J) h1 hp hq0 (c := 121) hx
      refine ⟨cF q0 I, ?_, fq_clF⟩
      rw [cL_y (d := d) h1.1 (by omega) tkY]
      exact cL_stop (d := d) h1.1 (by unfold cF; rw [up_k (by decide), up_s]) cF_3 (by omega)
    · have h1 := h.1
      have lk := r_lk (J := J) h1 hp hq0
      refine ⟨_, ⟨_, rK_headY (d := d + 34) h1.1 h1.2.2.2.2.2.1 h1.2.2.2.2.2.2.1 (by omega) h.2.1 h1.2.2.2.1 lk hx, fun a1 => rL_F (f := q0) (by rw [up_k (by decide), up_s]) (by omega)⟩, rfK_tr (rfK_tr (rfK_m (rfm_49 (Or.inl rfl))) (rfK_m (rfm_49 (Or.inr (Or.inl rfl))))) (rfK_m (rfm_49 (Or.inl rfl)))⟩
end COSTZ
