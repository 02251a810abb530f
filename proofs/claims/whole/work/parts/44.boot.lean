/-! the constructors, run by the kernel: which cells there are behind them, and what they hold: written by wip/whole/gen_boot.py -/
def xm_lc : List (Nat × Nat) := [(11, 17), (10, 2), (100, 160), (8, 4), (100, 0), (7, 2), (6, 8), (100, 9), (100, 54), (1, 4), (100, 5), (102, 4), (10, 2), (100, 160), (10, 2), (100, 160), (10, 2), (100, 160), (10, 2), (100, 160), (6, 8), (100, 9), (100, 54), (6, 8), (100, 9), (100, 54), (0, 4), (100, 40), (100, 40), (5, 15), (100, 54), (100, 54), (100, 9), (100, 9), (100, 9), (100, 9), (100, 100), (100, 8), (4, 10), (100, 540), (100, 1000), (100, 9), (9, 6), (100, 54), (2, 5), (100, 9), (3, 6), (100, 1800), (100, 200)]
def xm_lm : List (Nat × Nat) := [(12, 51), (100, 160), (100, 1700), (100, 1700), (100, 5), (100, 5), (100, 450), (100, 450), (100, 450), (100, 5), (100, 80), (100, 54), (100, 9), (100, 54), (100, 9), (100, 40), (100, 40), (100, 54), (100, 9), (100, 8), (100, 10), (100, 54), (100, 540), (100, 10800), (100, 54), (100, 54), (100, 54), (100, 9)]
def xm_rfs : List (Nat × Nat × Nat) := [(0, 0, 1), (0, 1, 3), (0, 2, 5), (0, 3, 9), (0, 4, 11), (0, 5, 20), (0, 6, 23), (0, 7, 26), (0, 8, 29), (0, 9, 38), (0, 10, 42), (0, 11, 44), (0, 12, 46), (1, 0, 2), (12, 0, 13), (14, 0, 15), (16, 0, 17), (18, 0, 19), (3, 0, 4), (5, 0, 3), (5, 1, 6), (6, 6, 7), (6, 7, 8), (20, 6, 21), (20, 7, 22), (23, 6, 24), (23, 7, 25), (9, 0, 3), (9, 1, 10), (11, 0, 12), (11, 1, 14), (11, 2, 16), (11, 3, 18), (26, 0, 27), (26, 1, 28), (29, 0, 20), (29, 1, 30), (29, 2, 31), (29, 3, 32), (29, 4, 33), (29, 5, 34), (29, 6, 35), (29, 7, 36), (29, 8, 37), (38, 0, 20), (38, 1, 29), (42, 0, 20), (42, 1, 29), (44, 0, 20), (44, 1, 29), (46, 0, 20), (46, 1, 29), (38, 2, 39), (38, 3, 40), (38, 4, 41), (42, 2, 43), (44, 2, 45), (46, 2, 47), (46, 3, 48), (49, 1, 50), (49, 6, 51), (49, 7, 52), (49, 8, 53), (49, 9, 54), (49, 10, 55), (49, 11, 56), (49, 12, 57), (49, 15, 58), (49, 16, 59), (49, 17, 60), (49, 18, 61), (49, 23, 62), (49, 24, 63), (49, 31, 64), (49, 32, 65), (49, 33, 66), (49, 34, 67), (49, 35, 68), (49, 36, 69), (49, 40, 70), (49, 42, 71), (49, 43, 72), (49, 45, 73), (49, 46, 74), (49, 48, 75), (49, 49, 76)]
def xm_ivs : List (Nat × Nat × Int32) := [(0, 14, -1), (6, 0, -1), (6, 1, 10), (20, 0, -1), (20, 1, 10), (23, 0, -1), (23, 1, 10), (38, 7, -1), (38, 8, -1), (38, 9, -1), (42, 5, -1), (44, 4, -1), (49, 25, -1), (49, 30, -1)]
def xm_iv (o k : Nat) : Int32 := ((xm_ivs.find? (fun r => r.1 == o && r.2.1 == k)).map (fun r => r.2.2)).getD 0
def xm_ck (I : xm_I) (J : xm_J) (R : xm_R) : Bool := xm_rfs.all (fun r => decide (R r.1 r.2.1 = some r.2.2)) &&
  (xm_lc ++ xm_lm).zipIdx.all (fun p => decide (100 ≤ p.1.1) || (List.range p.1.2).all (fun k => decide (I p.2 k = xm_iv p.2 k) && decide (J p.2 k = 0)))
def xb_r1 : xm_O := xm_run 4000 8 m_X11_init 0 (xm_en (xm_nl m_X11_init) [.ref 0]) [] (true, [(11, 17)]) (xm_zr (fun _ _ => 0) 0 0) (xm_zr (fun _ _ => 0) 0 0) (xm_zr (fun _ _ => none) 0 none)
def xb_r2 (I : xm_I) (J : xm_J) (R : xm_R) : xm_O := xm_run 4000 8 m_X12_init 0 (xm_en (xm_nl m_X12_init) [.ref 49]) [] (true, xm_lc ++ [(12, 51)]) (xm_zr I 49 0) (xm_zr J 49 0) (xm_zr R 49 none)
def xb_b2 (r : xm_O) : Bool := match r with
  | some (none, lay, I, J, R) => decide (lay = (true, xm_lc ++ xm_lm)) && xm_ck I J R
  | _ => false
def xb_b1 (r : xm_O) : Bool := match r with
  | some (none, lay, I, J, R) => decide (lay = (true, xm_lc)) && xb_b2 (xb_r2 I J R)
  | _ => false
set_option maxRecDepth 100000 in
theorem xm_boot_ok : xb_b1 xb_r1 = true := by decide +kernel
set_option maxRecDepth 100000 in
theorem xm_boot : ∃ (I1 : xm_I) (J1 : xm_J) (R1 : xm_R) (I2 : xm_I) (J2 : xm_J) (R2 : xm_R),
    xm_den 8 m_X11_init 0 (xm_en (xm_nl m_X11_init) [.ref 0]) [] (true, [(11, 17)]) (xm_zr (fun _ _ => 0) 0 0) (xm_zr (fun _ _ => 0) 0 0) (xm_zr (fun _ _ => none) 0 none) = some (none, (true, xm_lc), I1, J1, R1) ∧
    xm_den 8 m_X12_init 0 (xm_en (xm_nl m_X12_init) [.ref 49]) [] (true, xm_lc ++ [(12, 51)]) (xm_zr I1 49 0) (xm_zr J1 49 0) (xm_zr R1 49 none) = some (none, (true, xm_lc ++ xm_lm), I2, J2, R2) ∧ xm_ck I2 J2 R2 = true := by
  have h := xm_boot_ok
  unfold xb_b1 at h
  split at h
  · rename_i lay I1 J1 R1 h1
    simp only [Bool.and_eq_true, decide_eq_true_eq] at h
    obtain ⟨rfl, h⟩ := h
    unfold xb_b2 at h
    split at h
    · rename_i lay2 I2 J2 R2 h2
      simp only [Bool.and_eq_true, decide_eq_true_eq] at h
      obtain ⟨rfl, h⟩ := h
      exact ⟨I1, J1, R1, I2, J2, R2, xm_den_iff.mpr ⟨4000, h1⟩, xm_den_iff.mpr ⟨4000, h2⟩, h⟩
    · cases h
  · cases h
