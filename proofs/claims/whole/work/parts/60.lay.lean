/-! the fixed layout and the fixed references: written by wip/whole/gen_lay.py -/
def xm_HR (R : xm_R) : Prop := ∀ r ∈ xm_rfs, ¬ (r.1 = 3 ∧ r.2.1 = 0) → R r.1 r.2.1 = some r.2.2
theorem ly_0 : xm_la.2[0]? = some (11, 17) := by decide +kernel
theorem ly_1 : xm_la.2[1]? = some (10, 2) := by decide +kernel
theorem ly_2 : xm_la.2[2]? = some (100, 160) := by decide +kernel
theorem kd_2 : xm_kd xm_la 2 = 100 := by decide +kernel
theorem sz_2 : xm_sz xm_la 2 = 160 := by decide +kernel
theorem ka_2 : (100 ≤ xm_kd xm_la 2 ∧ xm_kd xm_la 2 ≤ 102) = True := by rw [kd_2]; simp
theorem ly_3 : xm_la.2[3]? = some (8, 4) := by decide +kernel
theorem ly_4 : xm_la.2[4]? = some (100, 0) := by decide +kernel
theorem kd_4 : xm_kd xm_la 4 = 100 := by decide +kernel
theorem sz_4 : xm_sz xm_la 4 = 0 := by decide +kernel
theorem ka_4 : (100 ≤ xm_kd xm_la 4 ∧ xm_kd xm_la 4 ≤ 102) = True := by rw [kd_4]; simp
theorem ly_5 : xm_la.2[5]? = some (7, 2) := by decide +kernel
theorem ly_6 : xm_la.2[6]? = some (6, 8) := by decide +kernel
theorem ly_7 : xm_la.2[7]? = some (100, 9) := by decide +kernel
theorem kd_7 : xm_kd xm_la 7 = 100 := by decide +kernel
theorem sz_7 : xm_sz xm_la 7 = 9 := by decide +kernel
theorem ka_7 : (100 ≤ xm_kd xm_la 7 ∧ xm_kd xm_la 7 ≤ 102) = True := by rw [kd_7]; simp
theorem ly_8 : xm_la.2[8]? = some (100, 54) := by decide +kernel
theorem kd_8 : xm_kd xm_la 8 = 100 := by decide +kernel
theorem sz_8 : xm_sz xm_la 8 = 54 := by decide +kernel
theorem ka_8 : (100 ≤ xm_kd xm_la 8 ∧ xm_kd xm_la 8 ≤ 102) = True := by rw [kd_8]; simp
theorem ly_9 : xm_la.2[9]? = some (1, 4) := by decide +kernel
theorem ly_10 : xm_la.2[10]? = some (100, 5) := by decide +kernel
theorem kd_10 : xm_kd xm_la 10 = 100 := by decide +kernel
theorem sz_10 : xm_sz xm_la 10 = 5 := by decide +kernel
theorem ka_10 : (100 ≤ xm_kd xm_la 10 ∧ xm_kd xm_la 10 ≤ 102) = True := by rw [kd_10]; simp
theorem ly_11 : xm_la.2[11]? = some (102, 4) := by decide +kernel
theorem kd_11 : xm_kd xm_la 11 = 102 := by decide +kernel
theorem sz_11 : xm_sz xm_la 11 = 4 := by decide +kernel
theorem ka_11 : (100 ≤ xm_kd xm_la 11 ∧ xm_kd xm_la 11 ≤ 102) = True := by rw [kd_11]; simp
theorem ly_12 : xm_la.2[12]? = some (10, 2) := by decide +kernel
theorem ly_13 : xm_la.2[13]? = some (100, 160) := by decide +kernel
theorem kd_13 : xm_kd xm_la 13 = 100 := by decide +kernel
theorem sz_13 : xm_sz xm_la 13 = 160 := by decide +kernel
theorem ka_13 : (100 ≤ xm_kd xm_la 13 ∧ xm_kd xm_la 13 ≤ 102) = True := by rw [kd_13]; simp
theorem ly_14 : xm_la.2[14]? = some (10, 2) := by decide +kernel
theorem ly_15 : xm_la.2[15]? = some (100, 160) := by decide +kernel
theorem kd_15 : xm_kd xm_la 15 = 100 := by decide +kernel
theorem sz_15 : xm_sz xm_la 15 = 160 := by decide +kernel
theorem ka_15 : (100 ≤ xm_kd xm_la 15 ∧ xm_kd xm_la 15 ≤ 102) = True := by rw [kd_15]; simp
theorem ly_16 : xm_la.2[16]? = some (10, 2) := by decide +kernel
theorem ly_17 : xm_la.2[17]? = some (100, 160) := by decide +kernel
theorem kd_17 : xm_kd xm_la 17 = 100 := by decide +kernel
theorem sz_17 : xm_sz xm_la 17 = 160 := by decide +kernel
theorem ka_17 : (100 ≤ xm_kd xm_la 17 ∧ xm_kd xm_la 17 ≤ 102) = True := by rw [kd_17]; simp
theorem ly_18 : xm_la.2[18]? = some (10, 2) := by decide +kernel
theorem ly_19 : xm_la.2[19]? = some (100, 160) := by decide +kernel
theorem kd_19 : xm_kd xm_la 19 = 100 := by decide +kernel
theorem sz_19 : xm_sz xm_la 19 = 160 := by decide +kernel
theorem ka_19 : (100 ≤ xm_kd xm_la 19 ∧ xm_kd xm_la 19 ≤ 102) = True := by rw [kd_19]; simp
theorem ly_20 : xm_la.2[20]? = some (6, 8) := by decide +kernel
theorem ly_21 : xm_la.2[21]? = some (100, 9) := by decide +kernel
theorem kd_21 : xm_kd xm_la 21 = 100 := by decide +kernel
theorem sz_21 : xm_sz xm_la 21 = 9 := by decide +kernel
theorem ka_21 : (100 ≤ xm_kd xm_la 21 ∧ xm_kd xm_la 21 ≤ 102) = True := by rw [kd_21]; simp
theorem ly_22 : xm_la.2[22]? = some (100, 54) := by decide +kernel
theorem kd_22 : xm_kd xm_la 22 = 100 := by decide +kernel
theorem sz_22 : xm_sz xm_la 22 = 54 := by decide +kernel
theorem ka_22 : (100 ≤ xm_kd xm_la 22 ∧ xm_kd xm_la 22 ≤ 102) = True := by rw [kd_22]; simp
theorem ly_23 : xm_la.2[23]? = some (6, 8) := by decide +kernel
theorem ly_24 : xm_la.2[24]? = some (100, 9) := by decide +kernel
theorem kd_24 : xm_kd xm_la 24 = 100 := by decide +kernel
theorem sz_24 : xm_sz xm_la 24 = 9 := by decide +kernel
theorem ka_24 : (100 ≤ xm_kd xm_la 24 ∧ xm_kd xm_la 24 ≤ 102) = True := by rw [kd_24]; simp
theorem ly_25 : xm_la.2[25]? = some (100, 54) := by decide +kernel
theorem kd_25 : xm_kd xm_la 25 = 100 := by decide +kernel
theorem sz_25 : xm_sz xm_la 25 = 54 := by decide +kernel
theorem ka_25 : (100 ≤ xm_kd xm_la 25 ∧ xm_kd xm_la 25 ≤ 102) = True := by rw [kd_25]; simp
theorem ly_26 : xm_la.2[26]? = some (0, 4) := by decide +kernel
theorem ly_27 : xm_la.2[27]? = some (100, 40) := by decide +kernel
theorem kd_27 : xm_kd xm_la 27 = 100 := by decide +kernel
theorem sz_27 : xm_sz xm_la 27 = 40 := by decide +kernel
theorem ka_27 : (100 ≤ xm_kd xm_la 27 ∧ xm_kd xm_la 27 ≤ 102) = True := by rw [kd_27]; simp
theorem ly_28 : xm_la.2[28]? = some (100, 40) := by decide +kernel
theorem kd_28 : xm_kd xm_la 28 = 100 := by decide +kernel
theorem sz_28 : xm_sz xm_la 28 = 40 := by decide +kernel
theorem ka_28 : (100 ≤ xm_kd xm_la 28 ∧ xm_kd xm_la 28 ≤ 102) = True := by rw [kd_28]; simp
theorem ly_29 : xm_la.2[29]? = some (5, 15) := by decide +kernel
theorem ly_30 : xm_la.2[30]? = some (100, 54) := by decide +kernel
theorem kd_30 : xm_kd xm_la 30 = 100 := by decide +kernel
theorem sz_30 : xm_sz xm_la 30 = 54 := by decide +kernel
theorem ka_30 : (100 ≤ xm_kd xm_la 30 ∧ xm_kd xm_la 30 ≤ 102) = True := by rw [kd_30]; simp
theorem ly_31 : xm_la.2[31]? = some (100, 54) := by decide +kernel
theorem kd_31 : xm_kd xm_la 31 = 100 := by decide +kernel
theorem sz_31 : xm_sz xm_la 31 = 54 := by decide +kernel
theorem ka_31 : (100 ≤ xm_kd xm_la 31 ∧ xm_kd xm_la 31 ≤ 102) = True := by rw [kd_31]; simp
theorem ly_32 : xm_la.2[32]? = some (100, 9) := by decide +kernel
theorem kd_32 : xm_kd xm_la 32 = 100 := by decide +kernel
theorem sz_32 : xm_sz xm_la 32 = 9 := by decide +kernel
theorem ka_32 : (100 ≤ xm_kd xm_la 32 ∧ xm_kd xm_la 32 ≤ 102) = True := by rw [kd_32]; simp
theorem ly_33 : xm_la.2[33]? = some (100, 9) := by decide +kernel
theorem kd_33 : xm_kd xm_la 33 = 100 := by decide +kernel
theorem sz_33 : xm_sz xm_la 33 = 9 := by decide +kernel
theorem ka_33 : (100 ≤ xm_kd xm_la 33 ∧ xm_kd xm_la 33 ≤ 102) = True := by rw [kd_33]; simp
theorem ly_34 : xm_la.2[34]? = some (100, 9) := by decide +kernel
theorem kd_34 : xm_kd xm_la 34 = 100 := by decide +kernel
theorem sz_34 : xm_sz xm_la 34 = 9 := by decide +kernel
theorem ka_34 : (100 ≤ xm_kd xm_la 34 ∧ xm_kd xm_la 34 ≤ 102) = True := by rw [kd_34]; simp
theorem ly_35 : xm_la.2[35]? = some (100, 9) := by decide +kernel
theorem kd_35 : xm_kd xm_la 35 = 100 := by decide +kernel
theorem sz_35 : xm_sz xm_la 35 = 9 := by decide +kernel
theorem ka_35 : (100 ≤ xm_kd xm_la 35 ∧ xm_kd xm_la 35 ≤ 102) = True := by rw [kd_35]; simp
theorem ly_36 : xm_la.2[36]? = some (100, 100) := by decide +kernel
theorem kd_36 : xm_kd xm_la 36 = 100 := by decide +kernel
theorem sz_36 : xm_sz xm_la 36 = 100 := by decide +kernel
theorem ka_36 : (100 ≤ xm_kd xm_la 36 ∧ xm_kd xm_la 36 ≤ 102) = True := by rw [kd_36]; simp
theorem ly_37 : xm_la.2[37]? = some (100, 8) := by decide +kernel
theorem kd_37 : xm_kd xm_la 37 = 100 := by decide +kernel
theorem sz_37 : xm_sz xm_la 37 = 8 := by decide +kernel
theorem ka_37 : (100 ≤ xm_kd xm_la 37 ∧ xm_kd xm_la 37 ≤ 102) = True := by rw [kd_37]; simp
theorem ly_38 : xm_la.2[38]? = some (4, 10) := by decide +kernel
theorem ly_39 : xm_la.2[39]? = some (100, 540) := by decide +kernel
theorem kd_39 : xm_kd xm_la 39 = 100 := by decide +kernel
theorem sz_39 : xm_sz xm_la 39 = 540 := by decide +kernel
theorem ka_39 : (100 ≤ xm_kd xm_la 39 ∧ xm_kd xm_la 39 ≤ 102) = True := by rw [kd_39]; simp
theorem ly_40 : xm_la.2[40]? = some (100, 1000) := by decide +kernel
theorem kd_40 : xm_kd xm_la 40 = 100 := by decide +kernel
theorem sz_40 : xm_sz xm_la 40 = 1000 := by decide +kernel
theorem ka_40 : (100 ≤ xm_kd xm_la 40 ∧ xm_kd xm_la 40 ≤ 102) = True := by rw [kd_40]; simp
theorem ly_41 : xm_la.2[41]? = some (100, 9) := by decide +kernel
theorem kd_41 : xm_kd xm_la 41 = 100 := by decide +kernel
theorem sz_41 : xm_sz xm_la 41 = 9 := by decide +kernel
theorem ka_41 : (100 ≤ xm_kd xm_la 41 ∧ xm_kd xm_la 41 ≤ 102) = True := by rw [kd_41]; simp
theorem ly_42 : xm_la.2[42]? = some (9, 6) := by decide +kernel
theorem ly_43 : xm_la.2[43]? = some (100, 54) := by decide +kernel
theorem kd_43 : xm_kd xm_la 43 = 100 := by decide +kernel
theorem sz_43 : xm_sz xm_la 43 = 54 := by decide +kernel
theorem ka_43 : (100 ≤ xm_kd xm_la 43 ∧ xm_kd xm_la 43 ≤ 102) = True := by rw [kd_43]; simp
theorem ly_44 : xm_la.2[44]? = some (2, 5) := by decide +kernel
theorem ly_45 : xm_la.2[45]? = some (100, 9) := by decide +kernel
theorem kd_45 : xm_kd xm_la 45 = 100 := by decide +kernel
theorem sz_45 : xm_sz xm_la 45 = 9 := by decide +kernel
theorem ka_45 : (100 ≤ xm_kd xm_la 45 ∧ xm_kd xm_la 45 ≤ 102) = True := by rw [kd_45]; simp
theorem ly_46 : xm_la.2[46]? = some (3, 6) := by decide +kernel
theorem ly_47 : xm_la.2[47]? = some (100, 1800) := by decide +kernel
theorem kd_47 : xm_kd xm_la 47 = 100 := by decide +kernel
theorem sz_47 : xm_sz xm_la 47 = 1800 := by decide +kernel
theorem ka_47 : (100 ≤ xm_kd xm_la 47 ∧ xm_kd xm_la 47 ≤ 102) = True := by rw [kd_47]; simp
theorem ly_48 : xm_la.2[48]? = some (100, 200) := by decide +kernel
theorem kd_48 : xm_kd xm_la 48 = 100 := by decide +kernel
theorem sz_48 : xm_sz xm_la 48 = 200 := by decide +kernel
theorem ka_48 : (100 ≤ xm_kd xm_la 48 ∧ xm_kd xm_la 48 ≤ 102) = True := by rw [kd_48]; simp
theorem ly_49 : xm_la.2[49]? = some (12, 51) := by decide +kernel
theorem ly_50 : xm_la.2[50]? = some (100, 160) := by decide +kernel
theorem kd_50 : xm_kd xm_la 50 = 100 := by decide +kernel
theorem sz_50 : xm_sz xm_la 50 = 160 := by decide +kernel
theorem ka_50 : (100 ≤ xm_kd xm_la 50 ∧ xm_kd xm_la 50 ≤ 102) = True := by rw [kd_50]; simp
theorem ly_51 : xm_la.2[51]? = some (100, 1700) := by decide +kernel
theorem kd_51 : xm_kd xm_la 51 = 100 := by decide +kernel
theorem sz_51 : xm_sz xm_la 51 = 1700 := by decide +kernel
theorem ka_51 : (100 ≤ xm_kd xm_la 51 ∧ xm_kd xm_la 51 ≤ 102) = True := by rw [kd_51]; simp
theorem ly_52 : xm_la.2[52]? = some (100, 1700) := by decide +kernel
theorem kd_52 : xm_kd xm_la 52 = 100 := by decide +kernel
theorem sz_52 : xm_sz xm_la 52 = 1700 := by decide +kernel
theorem ka_52 : (100 ≤ xm_kd xm_la 52 ∧ xm_kd xm_la 52 ≤ 102) = True := by rw [kd_52]; simp
theorem ly_53 : xm_la.2[53]? = some (100, 5) := by decide +kernel
theorem kd_53 : xm_kd xm_la 53 = 100 := by decide +kernel
theorem sz_53 : xm_sz xm_la 53 = 5 := by decide +kernel
theorem ka_53 : (100 ≤ xm_kd xm_la 53 ∧ xm_kd xm_la 53 ≤ 102) = True := by rw [kd_53]; simp
theorem ly_54 : xm_la.2[54]? = some (100, 5) := by decide +kernel
theorem kd_54 : xm_kd xm_la 54 = 100 := by decide +kernel
theorem sz_54 : xm_sz xm_la 54 = 5 := by decide +kernel
theorem ka_54 : (100 ≤ xm_kd xm_la 54 ∧ xm_kd xm_la 54 ≤ 102) = True := by rw [kd_54]; simp
theorem ly_55 : xm_la.2[55]? = some (100, 450) := by decide +kernel
theorem kd_55 : xm_kd xm_la 55 = 100 := by decide +kernel
theorem sz_55 : xm_sz xm_la 55 = 450 := by decide +kernel
theorem ka_55 : (100 ≤ xm_kd xm_la 55 ∧ xm_kd xm_la 55 ≤ 102) = True := by rw [kd_55]; simp
theorem ly_56 : xm_la.2[56]? = some (100, 450) := by decide +kernel
theorem kd_56 : xm_kd xm_la 56 = 100 := by decide +kernel
theorem sz_56 : xm_sz xm_la 56 = 450 := by decide +kernel
theorem ka_56 : (100 ≤ xm_kd xm_la 56 ∧ xm_kd xm_la 56 ≤ 102) = True := by rw [kd_56]; simp
theorem ly_57 : xm_la.2[57]? = some (100, 450) := by decide +kernel
theorem kd_57 : xm_kd xm_la 57 = 100 := by decide +kernel
theorem sz_57 : xm_sz xm_la 57 = 450 := by decide +kernel
theorem ka_57 : (100 ≤ xm_kd xm_la 57 ∧ xm_kd xm_la 57 ≤ 102) = True := by rw [kd_57]; simp
theorem ly_58 : xm_la.2[58]? = some (100, 5) := by decide +kernel
theorem kd_58 : xm_kd xm_la 58 = 100 := by decide +kernel
theorem sz_58 : xm_sz xm_la 58 = 5 := by decide +kernel
theorem ka_58 : (100 ≤ xm_kd xm_la 58 ∧ xm_kd xm_la 58 ≤ 102) = True := by rw [kd_58]; simp
theorem ly_59 : xm_la.2[59]? = some (100, 80) := by decide +kernel
theorem kd_59 : xm_kd xm_la 59 = 100 := by decide +kernel
theorem sz_59 : xm_sz xm_la 59 = 80 := by decide +kernel
theorem ka_59 : (100 ≤ xm_kd xm_la 59 ∧ xm_kd xm_la 59 ≤ 102) = True := by rw [kd_59]; simp
theorem ly_60 : xm_la.2[60]? = some (100, 54) := by decide +kernel
theorem kd_60 : xm_kd xm_la 60 = 100 := by decide +kernel
theorem sz_60 : xm_sz xm_la 60 = 54 := by decide +kernel
theorem ka_60 : (100 ≤ xm_kd xm_la 60 ∧ xm_kd xm_la 60 ≤ 102) = True := by rw [kd_60]; simp
theorem ly_61 : xm_la.2[61]? = some (100, 9) := by decide +kernel
theorem kd_61 : xm_kd xm_la 61 = 100 := by decide +kernel
theorem sz_61 : xm_sz xm_la 61 = 9 := by decide +kernel
theorem ka_61 : (100 ≤ xm_kd xm_la 61 ∧ xm_kd xm_la 61 ≤ 102) = True := by rw [kd_61]; simp
theorem ly_62 : xm_la.2[62]? = some (100, 54) := by decide +kernel
theorem kd_62 : xm_kd xm_la 62 = 100 := by decide +kernel
theorem sz_62 : xm_sz xm_la 62 = 54 := by decide +kernel
theorem ka_62 : (100 ≤ xm_kd xm_la 62 ∧ xm_kd xm_la 62 ≤ 102) = True := by rw [kd_62]; simp
theorem ly_63 : xm_la.2[63]? = some (100, 9) := by decide +kernel
theorem kd_63 : xm_kd xm_la 63 = 100 := by decide +kernel
theorem sz_63 : xm_sz xm_la 63 = 9 := by decide +kernel
theorem ka_63 : (100 ≤ xm_kd xm_la 63 ∧ xm_kd xm_la 63 ≤ 102) = True := by rw [kd_63]; simp
theorem ly_64 : xm_la.2[64]? = some (100, 40) := by decide +kernel
theorem kd_64 : xm_kd xm_la 64 = 100 := by decide +kernel
theorem sz_64 : xm_sz xm_la 64 = 40 := by decide +kernel
theorem ka_64 : (100 ≤ xm_kd xm_la 64 ∧ xm_kd xm_la 64 ≤ 102) = True := by rw [kd_64]; simp
theorem ly_65 : xm_la.2[65]? = some (100, 40) := by decide +kernel
theorem kd_65 : xm_kd xm_la 65 = 100 := by decide +kernel
theorem sz_65 : xm_sz xm_la 65 = 40 := by decide +kernel
theorem ka_65 : (100 ≤ xm_kd xm_la 65 ∧ xm_kd xm_la 65 ≤ 102) = True := by rw [kd_65]; simp
theorem ly_66 : xm_la.2[66]? = some (100, 54) := by decide +kernel
theorem kd_66 : xm_kd xm_la 66 = 100 := by decide +kernel
theorem sz_66 : xm_sz xm_la 66 = 54 := by decide +kernel
theorem ka_66 : (100 ≤ xm_kd xm_la 66 ∧ xm_kd xm_la 66 ≤ 102) = True := by rw [kd_66]; simp
theorem ly_67 : xm_la.2[67]? = some (100, 9) := by decide +kernel
theorem kd_67 : xm_kd xm_la 67 = 100 := by decide +kernel
theorem sz_67 : xm_sz xm_la 67 = 9 := by decide +kernel
theorem ka_67 : (100 ≤ xm_kd xm_la 67 ∧ xm_kd xm_la 67 ≤ 102) = True := by rw [kd_67]; simp
theorem ly_68 : xm_la.2[68]? = some (100, 8) := by decide +kernel
theorem kd_68 : xm_kd xm_la 68 = 100 := by decide +kernel
theorem sz_68 : xm_sz xm_la 68 = 8 := by decide +kernel
theorem ka_68 : (100 ≤ xm_kd xm_la 68 ∧ xm_kd xm_la 68 ≤ 102) = True := by rw [kd_68]; simp
theorem ly_69 : xm_la.2[69]? = some (100, 10) := by decide +kernel
theorem kd_69 : xm_kd xm_la 69 = 100 := by decide +kernel
theorem sz_69 : xm_sz xm_la 69 = 10 := by decide +kernel
theorem ka_69 : (100 ≤ xm_kd xm_la 69 ∧ xm_kd xm_la 69 ≤ 102) = True := by rw [kd_69]; simp
theorem ly_70 : xm_la.2[70]? = some (100, 54) := by decide +kernel
theorem kd_70 : xm_kd xm_la 70 = 100 := by decide +kernel
theorem sz_70 : xm_sz xm_la 70 = 54 := by decide +kernel
theorem ka_70 : (100 ≤ xm_kd xm_la 70 ∧ xm_kd xm_la 70 ≤ 102) = True := by rw [kd_70]; simp
theorem ly_71 : xm_la.2[71]? = some (100, 540) := by decide +kernel
theorem kd_71 : xm_kd xm_la 71 = 100 := by decide +kernel
theorem sz_71 : xm_sz xm_la 71 = 540 := by decide +kernel
theorem ka_71 : (100 ≤ xm_kd xm_la 71 ∧ xm_kd xm_la 71 ≤ 102) = True := by rw [kd_71]; simp
theorem ly_72 : xm_la.2[72]? = some (100, 10800) := by decide +kernel
theorem kd_72 : xm_kd xm_la 72 = 100 := by decide +kernel
theorem sz_72 : xm_sz xm_la 72 = 10800 := by decide +kernel
theorem ka_72 : (100 ≤ xm_kd xm_la 72 ∧ xm_kd xm_la 72 ≤ 102) = True := by rw [kd_72]; simp
theorem ly_73 : xm_la.2[73]? = some (100, 54) := by decide +kernel
theorem kd_73 : xm_kd xm_la 73 = 100 := by decide +kernel
theorem sz_73 : xm_sz xm_la 73 = 54 := by decide +kernel
theorem ka_73 : (100 ≤ xm_kd xm_la 73 ∧ xm_kd xm_la 73 ≤ 102) = True := by rw [kd_73]; simp
theorem ly_74 : xm_la.2[74]? = some (100, 54) := by decide +kernel
theorem kd_74 : xm_kd xm_la 74 = 100 := by decide +kernel
theorem sz_74 : xm_sz xm_la 74 = 54 := by decide +kernel
theorem ka_74 : (100 ≤ xm_kd xm_la 74 ∧ xm_kd xm_la 74 ≤ 102) = True := by rw [kd_74]; simp
theorem ly_75 : xm_la.2[75]? = some (100, 54) := by decide +kernel
theorem kd_75 : xm_kd xm_la 75 = 100 := by decide +kernel
theorem sz_75 : xm_sz xm_la 75 = 54 := by decide +kernel
theorem ka_75 : (100 ≤ xm_kd xm_la 75 ∧ xm_kd xm_la 75 ≤ 102) = True := by rw [kd_75]; simp
theorem ly_76 : xm_la.2[76]? = some (100, 9) := by decide +kernel
theorem kd_76 : xm_kd xm_la 76 = 100 := by decide +kernel
theorem sz_76 : xm_sz xm_la 76 = 9 := by decide +kernel
theorem ka_76 : (100 ≤ xm_kd xm_la 76 ∧ xm_kd xm_la 76 ≤ 102) = True := by rw [kd_76]; simp
theorem ly_77 : xm_la.2[77]? = some (101, 1) := by decide +kernel
theorem kd_77 : xm_kd xm_la 77 = 101 := by decide +kernel
theorem sz_77 : xm_sz xm_la 77 = 1 := by decide +kernel
theorem ka_77 : (100 ≤ xm_kd xm_la 77 ∧ xm_kd xm_la 77 ≤ 102) = True := by rw [kd_77]; simp
theorem hr_0_0 {R : xm_R} (h : xm_HR R) : R 0 0 = some 1 := h (0, 0, 1) (by decide +kernel) (by decide)
theorem hr_0_1 {R : xm_R} (h : xm_HR R) : R 0 1 = some 3 := h (0, 1, 3) (by decide +kernel) (by decide)
theorem hr_0_2 {R : xm_R} (h : xm_HR R) : R 0 2 = some 5 := h (0, 2, 5) (by decide +kernel) (by decide)
theorem hr_0_3 {R : xm_R} (h : xm_HR R) : R 0 3 = some 9 := h (0, 3, 9) (by decide +kernel) (by decide)
theorem hr_0_4 {R : xm_R} (h : xm_HR R) : R 0 4 = some 11 := h (0, 4, 11) (by decide +kernel) (by decide)
theorem hr_0_5 {R : xm_R} (h : xm_HR R) : R 0 5 = some 20 := h (0, 5, 20) (by decide +kernel) (by decide)
theorem hr_0_6 {R : xm_R} (h : xm_HR R) : R 0 6 = some 23 := h (0, 6, 23) (by decide +kernel) (by decide)
theorem hr_0_7 {R : xm_R} (h : xm_HR R) : R 0 7 = some 26 := h (0, 7, 26) (by decide +kernel) (by decide)
theorem hr_0_8 {R : xm_R} (h : xm_HR R) : R 0 8 = some 29 := h (0, 8, 29) (by decide +kernel) (by decide)
theorem hr_0_9 {R : xm_R} (h : xm_HR R) : R 0 9 = some 38 := h (0, 9, 38) (by decide +kernel) (by decide)
theorem hr_0_10 {R : xm_R} (h : xm_HR R) : R 0 10 = some 42 := h (0, 10, 42) (by decide +kernel) (by decide)
theorem hr_0_11 {R : xm_R} (h : xm_HR R) : R 0 11 = some 44 := h (0, 11, 44) (by decide +kernel) (by decide)
theorem hr_0_12 {R : xm_R} (h : xm_HR R) : R 0 12 = some 46 := h (0, 12, 46) (by decide +kernel) (by decide)
theorem hr_1_0 {R : xm_R} (h : xm_HR R) : R 1 0 = some 2 := h (1, 0, 2) (by decide +kernel) (by decide)
theorem hr_12_0 {R : xm_R} (h : xm_HR R) : R 12 0 = some 13 := h (12, 0, 13) (by decide +kernel) (by decide)
theorem hr_14_0 {R : xm_R} (h : xm_HR R) : R 14 0 = some 15 := h (14, 0, 15) (by decide +kernel) (by decide)
theorem hr_16_0 {R : xm_R} (h : xm_HR R) : R 16 0 = some 17 := h (16, 0, 17) (by decide +kernel) (by decide)
theorem hr_18_0 {R : xm_R} (h : xm_HR R) : R 18 0 = some 19 := h (18, 0, 19) (by decide +kernel) (by decide)
theorem hr_5_0 {R : xm_R} (h : xm_HR R) : R 5 0 = some 3 := h (5, 0, 3) (by decide +kernel) (by decide)
theorem hr_5_1 {R : xm_R} (h : xm_HR R) : R 5 1 = some 6 := h (5, 1, 6) (by decide +kernel) (by decide)
theorem hr_6_6 {R : xm_R} (h : xm_HR R) : R 6 6 = some 7 := h (6, 6, 7) (by decide +kernel) (by decide)
theorem hr_6_7 {R : xm_R} (h : xm_HR R) : R 6 7 = some 8 := h (6, 7, 8) (by decide +kernel) (by decide)
theorem hr_20_6 {R : xm_R} (h : xm_HR R) : R 20 6 = some 21 := h (20, 6, 21) (by decide +kernel) (by decide)
theorem hr_20_7 {R : xm_R} (h : xm_HR R) : R 20 7 = some 22 := h (20, 7, 22) (by decide +kernel) (by decide)
theorem hr_23_6 {R : xm_R} (h : xm_HR R) : R 23 6 = some 24 := h (23, 6, 24) (by decide +kernel) (by decide)
theorem hr_23_7 {R : xm_R} (h : xm_HR R) : R 23 7 = some 25 := h (23, 7, 25) (by decide +kernel) (by decide)
theorem hr_9_0 {R : xm_R} (h : xm_HR R) : R 9 0 = some 3 := h (9, 0, 3) (by decide +kernel) (by decide)
theorem hr_9_1 {R : xm_R} (h : xm_HR R) : R 9 1 = some 10 := h (9, 1, 10) (by decide +kernel) (by decide)
theorem hr_11_0 {R : xm_R} (h : xm_HR R) : R 11 0 = some 12 := h (11, 0, 12) (by decide +kernel) (by decide)
theorem hr_11_1 {R : xm_R} (h : xm_HR R) : R 11 1 = some 14 := h (11, 1, 14) (by decide +kernel) (by decide)
theorem hr_11_2 {R : xm_R} (h : xm_HR R) : R 11 2 = some 16 := h (11, 2, 16) (by decide +kernel) (by decide)
theorem hr_11_3 {R : xm_R} (h : xm_HR R) : R 11 3 = some 18 := h (11, 3, 18) (by decide +kernel) (by decide)
theorem hr_26_0 {R : xm_R} (h : xm_HR R) : R 26 0 = some 27 := h (26, 0, 27) (by decide +kernel) (by decide)
theorem hr_26_1 {R : xm_R} (h : xm_HR R) : R 26 1 = some 28 := h (26, 1, 28) (by decide +kernel) (by decide)
theorem hr_29_0 {R : xm_R} (h : xm_HR R) : R 29 0 = some 20 := h (29, 0, 20) (by decide +kernel) (by decide)
theorem hr_29_1 {R : xm_R} (h : xm_HR R) : R 29 1 = some 30 := h (29, 1, 30) (by decide +kernel) (by decide)
theorem hr_29_2 {R : xm_R} (h : xm_HR R) : R 29 2 = some 31 := h (29, 2, 31) (by decide +kernel) (by decide)
theorem hr_29_3 {R : xm_R} (h : xm_HR R) : R 29 3 = some 32 := h (29, 3, 32) (by decide +kernel) (by decide)
theorem hr_29_4 {R : xm_R} (h : xm_HR R) : R 29 4 = some 33 := h (29, 4, 33) (by decide +kernel) (by decide)
theorem hr_29_5 {R : xm_R} (h : xm_HR R) : R 29 5 = some 34 := h (29, 5, 34) (by decide +kernel) (by decide)
theorem hr_29_6 {R : xm_R} (h : xm_HR R) : R 29 6 = some 35 := h (29, 6, 35) (by decide +kernel) (by decide)
theorem hr_29_7 {R : xm_R} (h : xm_HR R) : R 29 7 = some 36 := h (29, 7, 36) (by decide +kernel) (by decide)
theorem hr_29_8 {R : xm_R} (h : xm_HR R) : R 29 8 = some 37 := h (29, 8, 37) (by decide +kernel) (by decide)
theorem hr_38_0 {R : xm_R} (h : xm_HR R) : R 38 0 = some 20 := h (38, 0, 20) (by decide +kernel) (by decide)
theorem hr_38_1 {R : xm_R} (h : xm_HR R) : R 38 1 = some 29 := h (38, 1, 29) (by decide +kernel) (by decide)
theorem hr_42_0 {R : xm_R} (h : xm_HR R) : R 42 0 = some 20 := h (42, 0, 20) (by decide +kernel) (by decide)
theorem hr_42_1 {R : xm_R} (h : xm_HR R) : R 42 1 = some 29 := h (42, 1, 29) (by decide +kernel) (by decide)
theorem hr_44_0 {R : xm_R} (h : xm_HR R) : R 44 0 = some 20 := h (44, 0, 20) (by decide +kernel) (by decide)
theorem hr_44_1 {R : xm_R} (h : xm_HR R) : R 44 1 = some 29 := h (44, 1, 29) (by decide +kernel) (by decide)
theorem hr_46_0 {R : xm_R} (h : xm_HR R) : R 46 0 = some 20 := h (46, 0, 20) (by decide +kernel) (by decide)
theorem hr_46_1 {R : xm_R} (h : xm_HR R) : R 46 1 = some 29 := h (46, 1, 29) (by decide +kernel) (by decide)
theorem hr_38_2 {R : xm_R} (h : xm_HR R) : R 38 2 = some 39 := h (38, 2, 39) (by decide +kernel) (by decide)
theorem hr_38_3 {R : xm_R} (h : xm_HR R) : R 38 3 = some 40 := h (38, 3, 40) (by decide +kernel) (by decide)
theorem hr_38_4 {R : xm_R} (h : xm_HR R) : R 38 4 = some 41 := h (38, 4, 41) (by decide +kernel) (by decide)
theorem hr_42_2 {R : xm_R} (h : xm_HR R) : R 42 2 = some 43 := h (42, 2, 43) (by decide +kernel) (by decide)
theorem hr_44_2 {R : xm_R} (h : xm_HR R) : R 44 2 = some 45 := h (44, 2, 45) (by decide +kernel) (by decide)
theorem hr_46_2 {R : xm_R} (h : xm_HR R) : R 46 2 = some 47 := h (46, 2, 47) (by decide +kernel) (by decide)
theorem hr_46_3 {R : xm_R} (h : xm_HR R) : R 46 3 = some 48 := h (46, 3, 48) (by decide +kernel) (by decide)
theorem hr_49_1 {R : xm_R} (h : xm_HR R) : R 49 1 = some 50 := h (49, 1, 50) (by decide +kernel) (by decide)
theorem hr_49_6 {R : xm_R} (h : xm_HR R) : R 49 6 = some 51 := h (49, 6, 51) (by decide +kernel) (by decide)
theorem hr_49_7 {R : xm_R} (h : xm_HR R) : R 49 7 = some 52 := h (49, 7, 52) (by decide +kernel) (by decide)
theorem hr_49_8 {R : xm_R} (h : xm_HR R) : R 49 8 = some 53 := h (49, 8, 53) (by decide +kernel) (by decide)
theorem hr_49_9 {R : xm_R} (h : xm_HR R) : R 49 9 = some 54 := h (49, 9, 54) (by decide +kernel) (by decide)
theorem hr_49_10 {R : xm_R} (h : xm_HR R) : R 49 10 = some 55 := h (49, 10, 55) (by decide +kernel) (by decide)
theorem hr_49_11 {R : xm_R} (h : xm_HR R) : R 49 11 = some 56 := h (49, 11, 56) (by decide +kernel) (by decide)
theorem hr_49_12 {R : xm_R} (h : xm_HR R) : R 49 12 = some 57 := h (49, 12, 57) (by decide +kernel) (by decide)
theorem hr_49_15 {R : xm_R} (h : xm_HR R) : R 49 15 = some 58 := h (49, 15, 58) (by decide +kernel) (by decide)
theorem hr_49_16 {R : xm_R} (h : xm_HR R) : R 49 16 = some 59 := h (49, 16, 59) (by decide +kernel) (by decide)
theorem hr_49_17 {R : xm_R} (h : xm_HR R) : R 49 17 = some 60 := h (49, 17, 60) (by decide +kernel) (by decide)
theorem hr_49_18 {R : xm_R} (h : xm_HR R) : R 49 18 = some 61 := h (49, 18, 61) (by decide +kernel) (by decide)
theorem hr_49_23 {R : xm_R} (h : xm_HR R) : R 49 23 = some 62 := h (49, 23, 62) (by decide +kernel) (by decide)
theorem hr_49_24 {R : xm_R} (h : xm_HR R) : R 49 24 = some 63 := h (49, 24, 63) (by decide +kernel) (by decide)
theorem hr_49_31 {R : xm_R} (h : xm_HR R) : R 49 31 = some 64 := h (49, 31, 64) (by decide +kernel) (by decide)
theorem hr_49_32 {R : xm_R} (h : xm_HR R) : R 49 32 = some 65 := h (49, 32, 65) (by decide +kernel) (by decide)
theorem hr_49_33 {R : xm_R} (h : xm_HR R) : R 49 33 = some 66 := h (49, 33, 66) (by decide +kernel) (by decide)
theorem hr_49_34 {R : xm_R} (h : xm_HR R) : R 49 34 = some 67 := h (49, 34, 67) (by decide +kernel) (by decide)
theorem hr_49_35 {R : xm_R} (h : xm_HR R) : R 49 35 = some 68 := h (49, 35, 68) (by decide +kernel) (by decide)
theorem hr_49_36 {R : xm_R} (h : xm_HR R) : R 49 36 = some 69 := h (49, 36, 69) (by decide +kernel) (by decide)
theorem hr_49_40 {R : xm_R} (h : xm_HR R) : R 49 40 = some 70 := h (49, 40, 70) (by decide +kernel) (by decide)
theorem hr_49_42 {R : xm_R} (h : xm_HR R) : R 49 42 = some 71 := h (49, 42, 71) (by decide +kernel) (by decide)
theorem hr_49_43 {R : xm_R} (h : xm_HR R) : R 49 43 = some 72 := h (49, 43, 72) (by decide +kernel) (by decide)
theorem hr_49_45 {R : xm_R} (h : xm_HR R) : R 49 45 = some 73 := h (49, 45, 73) (by decide +kernel) (by decide)
theorem hr_49_46 {R : xm_R} (h : xm_HR R) : R 49 46 = some 74 := h (49, 46, 74) (by decide +kernel) (by decide)
theorem hr_49_48 {R : xm_R} (h : xm_HR R) : R 49 48 = some 75 := h (49, 48, 75) (by decide +kernel) (by decide)
theorem hr_49_49 {R : xm_R} (h : xm_HR R) : R 49 49 = some 76 := h (49, 49, 76) (by decide +kernel) (by decide)
theorem hr_up {R : xm_R} {t : Nat} (h : xm_HR R) : xm_HR (xm_up R 3 0 (some t)) := fun r hr hne => by
  have := h r hr hne
  unfold xm_up
  by_cases h1 : r.1 = 3
  · by_cases h2 : r.2.1 = 0
    · exact absurd ⟨h1, h2⟩ hne
    · rw [if_pos h1, if_neg h2]; exact this
  · rw [if_neg h1]; exact this
theorem rf_some {a : Nat} : va_rf (some a) = .ref a := rfl
theorem sm_i {x : Int32} : xm_sm (some (.int x)) = some (.int x) := rfl
theorem sm_r {x : Nat} : xm_sm (some (.ref x)) = some (.ref x) := rfl
theorem sm_n : xm_sm none = none := rfl
theorem sm_l {x : Int64} : xm_sm (some (.long x)) = none := rfl
theorem sm_0 : xm_sm (some .null) = some .null := rfl
theorem z01_0 : ((0 : Int32) = 0 ∨ (0 : Int32) = 1) = True := by simp
theorem z01_1 : ((1 : Int32) = 0 ∨ (1 : Int32) = 1) = True := by simp
theorem up_s {α : Type} {f : Nat → Nat → α} {o k : Nat} {v : α} : xm_up f o k v o k = v := by simp [xm_up]
theorem up_o {α : Type} {f : Nat → Nat → α} {o k a j : Nat} {v : α} (h : ¬ a = o) : xm_up f o k v a j = f a j := by simp [xm_up, h]
theorem up_k {α : Type} {f : Nat → Nat → α} {o k j : Nat} {v : α} (h : ¬ j = k) : xm_up f o k v o j = f o j := by simp [xm_up, h]
theorem up_2 {α : Type} {f : Nat → Nat → α} {o k : Nat} {v w : α} : xm_up (xm_up f o k v) o k w = xm_up f o k w := by
  funext a j
  unfold xm_up
  by_cases h1 : a = o
  · by_cases h2 : j = k
    · simp [h1, h2]
    · simp [h1, h2]
  · simp [h1]
theorem vp_of {N : Nat} {i : Int32} (h1 : ¬ i < 0) (h2 : ¬ Int32.ofNat N ≤ i) (hN : N < 2 ^ 31) : vp_in i N := by
  have e : (Int32.ofNat N).toInt = (N : Int) := nI_toInt hN
  rw [Int32.le_iff_toInt_le, e] at h2
  rw [Int32.lt_iff_toInt_lt, show (0 : Int32).toInt = 0 by decide] at h1
  refine fun h => ?_
  rcases h with h | h
  · rw [Int32.lt_iff_toInt_lt, show (0 : Int32).toInt = 0 by decide] at h; exact h1 h
  · have : i.toNatClampNeg = i.toInt.toNat := rfl
    omega
