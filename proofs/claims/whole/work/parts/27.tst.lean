[(3, 1, 115, 12), (4, 2, 120, 12), (5, 3, 126, 12), (6, 4, 130, 12), (8, 5, 135, 30), (9, 6, 140, 30), (10, 7, 145, 30), (12, 8, 151, 160), (13, 9, 155, 160), (14, 10, 160, 160), (15, 11, 165, 160), (17, 12, 170, 6), (18, 13, 175, 6), (19, 14, 180, 6), (20, 15, 185, 6), (21, 16, 190, 6), (22, 17, 195, 6), (23, 18, 200, 6), (24, 19, 205, 6), (25, 20, 210, 6), (26, 21, 215, 6), (27, 22, 220, 6), (28, 23, 225, 6), (29, 24, 230, 6), (30, 25, 235, 6), (31, 26, 241, 6), (32, 27, 246, 6), (33, 28, 250, 6), (34, 29, 255, 6), (35, 30, 260, 6), (36, 31, 265, 6), (39, 32, 272, 300), (42, 33, 276, 17), (43, 34, 280, 17), (44, 35, 285, 17), (45, 36, 290, 408), (46, 37, 296, 17), (47, 38, 300, 17), (48, 39, 305, 17), (49, 40, 310, 408), (57, 41, 315, 200), (58, 42, 320, 200), (59, 43, 325, 200), (61, 44, 330, 30), (62, 45, 335, 30), (63, 46, 340, 30), (64, 47, 345, 30), (65, 48, 350, 30), (66, 49, 355, 30), (67, 50, 360, 30), (68, 51, 365, 210), (74, 52, 370, 5), (75, 53, 375, 5)]
theorem q_M_isNight_0 (d : Nat) (a : Nat) (x1 : Int32) (u2 : Value) (σ : Mm) (μ : Ms) (hL : LM σ a)  : run d 117 0 [.ref a, .int (x1), u2] [] (put σ a μ) = if ((x1 / 60) - (x1 / 60) / 24 * 24) < 6 then run d 117 20 [.ref a, .int (x1), .int ((x1 / 60) - (x1 / 60) / 24 * 24)] [] (put σ a μ) else run d 117 14 [.ref a, .int (x1), .int ((x1 / 60) - (x1 / 60) / 24 * 24)] [] (put σ a μ) := by
  have e := e_M_isNight_0 d a x1 u2 (put σ a μ) 
  simpa only [ar, va_rf, vd, put_F, put_sF] using e
theorem q_M_isNight_14 (d : Nat) (a : Nat) (x1 : Int32) (x2 : Int32) (σ : Mm) (μ : Ms) (hL : LM σ a)  : run d 117 14 [.ref a, .int (x1), .int (x2)] [] (put σ a μ) = if x2 < 18 then run d 117 24 [.ref a, .int (x1), .int (x2)] [] (put σ a μ) else run d 117 20 [.ref a, .int (x1), .int (x2)] [] (put σ a μ) := by
  have e := e_M_isNight_14 d a x1 x2 (put σ a μ) 
  simpa only [ar, va_rf, vd, put_F, put_sF] using e
theorem q_M_isNight_20 (d : Nat) (a : Nat) (x1 : Int32) (x2 : Int32) (σ : Mm) (μ : Ms) (hL : LM σ a)  : run d 117 20 [.ref a, .int (x1), .int (x2)] [] (put σ a μ) = run d 117 25 [.ref a, .int (x1), .int (x2)] [.int (1)] (put σ a μ) := by
  have e := e_M_isNight_20 d a x1 x2 (put σ a μ) 
  simpa only [ar, va_rf, vd, put_F, put_sF] using e
theorem q_M_isNight_24 (d : Nat) (a : Nat) (x1 : Int32) (x2 : Int32) (σ : Mm) (μ : Ms) (hL : LM σ a)  : run d 117 24 [.ref a, .int (x1), .int (x2)] [] (put σ a μ) = run d 117 25 [.ref a, .int (x1), .int (x2)] [.int (0)] (put σ a μ) := by
  have e := e_M_isNight_24 d a x1 x2 (put σ a μ) 
  simpa only [ar, va_rf, vd, put_F, put_sF] using e
theorem q_M_isNight_25 (d : Nat) (a : Nat) (x1 : Int32) (x2 : Int32) (y0 : Int32) (σ : Mm) (μ : Ms) (hL : LM σ a) (g0 : y0 = 0 ∨ y0 = 1) : run d 117 25 [.ref a, .int (x1), .int (x2)] [.int (y0)] (put σ a μ) = some (some (.int (y0)), (put σ a μ)) := by
  have e := e_M_isNight_25 d a x1 x2 y0 (put σ a μ) (by simpa only [ar, va_rf, vd, put_F, put_sF] using g0)
  simpa only [ar, va_rf, vd, put_F, put_sF] using e
theorem q_M_isStop_0 (d : Nat) (a : Nat) (x1 : Int32) (σ : Mm) (μ : Ms) (hL : LM σ a)  : run d 118 0 [.ref a, .int (x1)] [] (put σ a μ) = if x1 < 0 then run d 118 16 [.ref a, .int (x1)] [] (put σ a μ) else run d 118 4 [.ref a, .int (x1)] [] (put σ a μ) := by
  have e := e_M_isStop_0 d a x1 (put σ a μ) 
  simpa only [ar, va_rf, vd, put_F, put_sF] using e
theorem q_M_isStop_4 (d : Nat) (a : Nat) (x1 : Int32) (σ : Mm) (μ : Ms) (hL : LM σ a)  : run d 118 4 [.ref a, .int (x1)] [] (put σ a μ) = if (μ.1 2) ≤ x1 then run d 118 16 [.ref a, .int (x1)] [] (put σ a μ) else run d 118 12 [.ref a, .int (x1)] [] (put σ a μ) := by
  have e := e_M_isStop_4 d a x1 (put σ a μ) (hL.K μ)
  simpa only [ar, va_rf, vd, put_F, put_sF] using e
theorem q_M_isStop_12 (d : Nat) (a : Nat) (x1 : Int32) (σ : Mm) (μ : Ms) (hL : LM σ a)  : run d 118 12 [.ref a, .int (x1)] [] (put σ a μ) = run d 118 17 [.ref a, .int (x1)] [.int (1)] (put σ a μ) := by
  have e := e_M_isStop_12 d a x1 (put σ a μ) 
  simpa only [ar, va_rf, vd, put_F, put_sF] using e
theorem q_M_isStop_16 (d : Nat) (a : Nat) (x1 : Int32) (σ : Mm) (μ : Ms) (hL : LM σ a)  : run d 118 16 [.ref a, .int (x1)] [] (put σ a μ) = run d 118 17 [.ref a, .int (x1)] [.int (0)] (put σ a μ) := by
  have e := e_M_isStop_16 d a x1 (put σ a μ) 
  simpa only [ar, va_rf, vd, put_F, put_sF] using e
theorem q_M_isStop_17 (d : Nat) (a : Nat) (x1 : Int32) (y0 : Int32) (σ : Mm) (μ : Ms) (hL : LM σ a) (g0 : y0 = 0 ∨ y0 = 1) : run d 118 17 [.ref a, .int (x1)] [.int (y0)] (put σ a μ) = some (some (.int (y0)), (put σ a μ)) := by
  have e := e_M_isStop_17 d a x1 y0 (put σ a μ) (by simpa only [ar, va_rf, vd, put_F, put_sF] using g0)
  simpa only [ar, va_rf, vd, put_F, put_sF] using e
theorem q_M_stop_0 (d : Nat) (a : Nat) (x1 : Int32) (x2 : Int32) (x3 : Int32) (σ : Mm) (μ : Ms) (hL : LM σ a)  : run d 120 0 [.ref a, .int (x1), .int (x2), .int (x3)] [] (put σ a μ) = run d 120 5 [.ref a, .int (x1), .int (x2), .int (x3)] [] (put σ a (fF μ 0 0)) := by
  have e := e_M_stop_0 d a x1 x2 x3 (put σ a μ) (hL.K μ)
  simpa only [ar, va_rf, vd, put_F, put_sF] using e
theorem q_M_stop_5 (d : Nat) (a : Nat) (x1 : Int32) (x2 : Int32) (x3 : Int32) (σ : Mm) (μ : Ms) (hL : LM σ a)  : run d 120 5 [.ref a, .int (x1), .int (x2), .int (x3)] [] (put σ a μ) = if (μ.1 2) = 12 then run d 120 33 [.ref a, .int (x1), .int (x2), .int (x3)] [] (put σ a μ) else run d 120 14 [.ref a, .int (x1), .int (x2), .int (x3)] [] (put σ a μ) := by
  have e := e_M_stop_5 d a x1 x2 x3 (put σ a μ) (hL.K μ)
  simpa only [ar, va_rf, vd, put_F, put_sF] using e
theorem q_M_stop_14 (d : Nat) (a : Nat) (x1 : Int32) (x2 : Int32) (x3 : Int32) (σ : Mm) (μ : Ms) (hL : LM σ a) (r : Int32) (μ1 : Ms)  (hc : runc d 115 [.int (x1), .int (1), .int (4)] (put σ a μ) = some (some (.int r), put σ a μ1)) : run (d + 1) 120 14 [.ref a, .int (x1), .int (x2), .int (x3)] [] (put σ a μ) = run (d + 1) 120 20 [.ref a, .int (x1), .int (x2), .int (x3)] [.int r] (put σ a μ1) := by
  have e := e_M_stop_14 d a x1 x2 x3 (put σ a μ) r (put σ a μ1)  (by simpa only [ar, va_rf, vd, put_F, put_sF] using hc)
  simpa only [ar, va_rf, vd, put_F, put_sF] using e
theorem q_M_stop_20 (d : Nat) (a : Nat) (x1 : Int32) (x2 : Int32) (x3 : Int32) (y0 : Int32) (σ : Mm) (μ : Ms) (hL : LM σ a)  : run d 120 20 [.ref a, .int (x1), .int (x2), .int (x3)] [.int (y0)] (put σ a μ) = if y0 = 0 then run d 120 33 [.ref a, .int (x1), .int (x2), .int (x3)] [] (put σ a μ) else run d 120 23 [.ref a, .int (x1), .int (x2), .int (x3)] [] (put σ a μ) := by
  have e := e_M_stop_20 d a x1 x2 x3 y0 (put σ a μ) 
  simpa only [ar, va_rf, vd, put_F, put_sF] using e
theorem q_M_stop_23 (d : Nat) (a : Nat) (x1 : Int32) (x2 : Int32) (x3 : Int32) (σ : Mm) (μ : Ms) (hL : LM σ a) (r : Int32) (μ1 : Ms)  (hc : runc d 115 [.int (x2), .int (0), .int (60)] (put σ a μ) = some (some (.int r), put σ a μ1)) : run (d + 1) 120 23 [.ref a, .int (x1), .int (x2), .int (x3)] [] (put σ a μ) = run (d + 1) 120 30 [.ref a, .int (x1), .int (x2), .int (x3)] [.int r] (put σ a μ1) := by
  have e := e_M_stop_23 d a x1 x2 x3 (put σ a μ) r (put σ a μ1)  (by simpa only [ar, va_rf, vd, put_F, put_sF] using hc)
  simpa only [ar, va_rf, vd, put_F, put_sF] using e
theorem q_M_stop_30 (d : Nat) (a : Nat) (x1 : Int32) (x2 : Int32) (x3 : Int32) (y0 : Int32) (σ : Mm) (μ : Ms) (hL : LM σ a)  : run d 120 30 [.ref a, .int (x1), .int (x2), .int (x3)] [.int (y0)] (put σ a μ) = if ¬ y0 = 0 then run d 120 35 [.ref a, .int (x1), .int (x2), .int (x3)] [] (put σ a μ) else run d 120 33 [.ref a, .int (x1), .int (x2), .int (x3)] [] (put σ a μ) := by
  have e := e_M_stop_30 d a x1 x2 x3 y0 (put σ a μ) 
  simpa only [ar, va_rf, vd, put_F, put_sF] using e
theorem q_M_stop_33 (d : Nat) (a : Nat) (x1 : Int32) (x2 : Int32) (x3 : Int32) (σ : Mm) (μ : Ms) (hL : LM σ a)  : run d 120 33 [.ref a, .int (x1), .int (x2), .int (x3)] [] (put σ a μ) = some (some (.int ((-1))), (put σ a μ)) := by
  have e := e_M_stop_33 d a x1 x2 x3 (put σ a μ) 
  simpa only [ar, va_rf, vd, put_F, put_sF] using e
theorem q_M_stop_35 (d : Nat) (a : Nat) (x1 : Int32) (x2 : Int32) (x3 : Int32) (σ : Mm) (μ : Ms) (hL : LM σ a) (g0 : ix (μ.1 2) 12 = true) : run d 120 35 [.ref a, .int (x1), .int (x2), .int (x3)] [] (put σ a μ) = run d 120 45 [.ref a, .int (x1), .int (x2), .int (x3)] [] (put σ a (fA μ 3 ((μ.1 2 : Int32).toNatClampNeg) x1)) := by
  have e := e_M_stop_35 d a x1 x2 x3 (put σ a μ) (hL.K μ) (by simp only [ar, va_rf, vd, put_F, put_sF, pP_3 hL, pK_3 hL, pN_3 hL, pA_3, pS_3]; rfl) (by simp only [ar, va_rf, vd, put_F, put_sF, pP_3 hL, pK_3 hL, pN_3 hL, pA_3, pS_3]; rfl) (by simpa only [ar, va_rf, vd, put_F, put_sF, pP_3 hL, pK_3 hL, pN_3 hL, pA_3, pS_3] using g0)
  simpa only [ar, va_rf, vd, put_F, put_sF, pP_3 hL, pK_3 hL, pN_3 hL, pA_3, pS_3] using e
theorem q_M_stop_45 (d : Nat) (a : Nat) (x1 : Int32) (x2 : Int32) (x3 : Int32) (σ : Mm) (μ : Ms) (hL : LM σ a) (g0 : ix (μ.1 2) 12 = true) : run d 120 45 [.ref a, .int (x1), .int (x2), .int (x3)] [] (put σ a μ) = run d 120 55 [.ref a, .int (x1), .int (x2), .int (x3)] [] (put σ a (fA μ 4 ((μ.1 2 : Int32).toNatClampNeg) x2)) := by
  have e := e_M_stop_45 d a x1 x2 x3 (put σ a μ) (hL.K μ) (by simp only [ar, va_rf, vd, put_F, put_sF, pP_4 hL, pK_4 hL, pN_4 hL, pA_4, pS_4]; rfl) (by simp only [ar, va_rf, vd, put_F, put_sF, pP_4 hL, pK_4 hL, pN_4 hL, pA_4, pS_4]; rfl) (by simpa only [ar, va_rf, vd, put_F, put_sF, pP_4 hL, pK_4 hL, pN_4 hL, pA_4, pS_4] using g0)
  simpa only [ar, va_rf, vd, put_F, put_sF, pP_4 hL, pK_4 hL, pN_4 hL, pA_4, pS_4] using e
theorem q_M_stop_55 (d : Nat) (a : Nat) (x1 : Int32) (x2 : Int32) (x3 : Int32) (σ : Mm) (μ : Ms) (hL : LM σ a) (g0 : (x3 : Int32) = 0 ∨ x3 = 1) (g1 : ix (μ.1 2) 12 = true) : run d 120 55 [.ref a, .int (x1), .int (x2), .int (x3)] [] (put σ a μ) = run d 120 65 [.ref a, .int (x1), .int (x2), .int (x3)] [] (put σ a (fA μ 5 ((μ.1 2 : Int32).toNatClampNeg) x3)) := by
  have e := e_M_stop_55 d a x1 x2 x3 (put σ a μ) (hL.K μ) (by simp only [ar, va_rf, vd, put_F, put_sF, pP_5 hL, pK_5 hL, pN_5 hL, pA_5, pS_5]; rfl) (by simp only [ar, va_rf, vd, put_F, put_sF, pP_5 hL, pK_5 hL, pN_5 hL, pA_5, pS_5]; rfl) (by simpa only [ar, va_rf, vd, put_F, put_sF, pP_5 hL, pK_5 hL, pN_5 hL, pA_5, pS_5] using g0) (by simpa only [ar, va_rf, vd, put_F, put_sF, pP_5 hL, pK_5 hL, pN_5 hL, pA_5, pS_5] using g1)
  simpa only [ar, va_rf, vd, put_F, put_sF, pP_5 hL, pK_5 hL, pN_5 hL, pA_5, pS_5] using e
theorem q_M_stop_65 (d : Nat) (a : Nat) (x1 : Int32) (x2 : Int32) (x3 : Int32) (σ : Mm) (μ : Ms) (hL : LM σ a)  : run d 120 65 [.ref a, .int (x1), .int (x2), .int (x3)] [] (put σ a μ) = run d 120 75 [.ref a, .int (x1), .int (x2), .int (x3)] [] (put σ a (fF μ 2 ((μ.1 2) + 1))) := by
  have e := e_M_stop_65 d a x1 x2 x3 (put σ a μ) (hL.K μ)
  simpa only [ar, va_rf, vd, put_F, put_sF] using e
theorem q_M_stop_75 (d : Nat) (a : Nat) (x1 : Int32) (x2 : Int32) (x3 : Int32) (σ : Mm) (μ : Ms) (hL : LM σ a)  : run d 120 75 [.ref a, .int (x1), .int (x2), .int (x3)] [] (put σ a μ) = some (some (.int ((μ.1 2) - 1)), (put σ a μ)) := by
  have e := e_M_stop_75 d a x1 x2 x3 (put σ a μ) (hL.K μ)
  simpa only [ar, va_rf, vd, put_F, put_sF] using e
theorem q_M_drums_0 (d : Nat) (a : Nat) (x1 : Int32) (x2 : Int32) (σ : Mm) (μ : Ms) (hL : LM σ a)  : run d 122 0 [.ref a, .int (x1), .int (x2)] [] (put σ a μ) = run d 122 5 [.ref a, .int (x1), .int (x2)] [] (put σ a (fF μ 0 0)) := by
  have e := e_M_drums_0 d a x1 x2 (put σ a μ) (hL.K μ)
  simpa only [ar, va_rf, vd, put_F, put_sF] using e
theorem q_M_drums_5 (d : Nat) (a : Nat) (x1 : Int32) (x2 : Int32) (σ : Mm) (μ : Ms) (hL : LM σ a) (r : Int32) (μ1 : Ms)  (hc : runc d 118 [.ref a, .int (x1)] (put σ a μ) = some (some (.int r), put σ a μ1)) : run (d + 1) 122 5 [.ref a, .int (x1), .int (x2)] [] (put σ a μ) = run (d + 1) 122 10 [.ref a, .int (x1), .int (x2)] [.int r] (put σ a μ1) := by
  have e := e_M_drums_5 d a x1 x2 (put σ a μ) r (put σ a μ1) (hL.K μ) (by simpa only [ar, va_rf, vd, put_F, put_sF] using hc)
  simpa only [ar, va_rf, vd, put_F, put_sF] using e
theorem q_M_drums_10 (d : Nat) (a : Nat) (x1 : Int32) (x2 : Int32) (y0 : Int32) (σ : Mm) (μ : Ms) (hL : LM σ a)  : run d 122 10 [.ref a, .int (x1), .int (x2)] [.int (y0)] (put σ a μ) = if y0 = 0 then run d 122 38 [.ref a, .int (x1), .int (x2)] [] (put σ a μ) else run d 122 13 [.ref a, .int (x1), .int (x2)] [] (put σ a μ) := by
  have e := e_M_drums_10 d a x1 x2 y0 (put σ a μ) 
  simpa only [ar, va_rf, vd, put_F, put_sF] using e
theorem q_M_drums_13 (d : Nat) (a : Nat) (x1 : Int32) (x2 : Int32) (σ : Mm) (μ : Ms) (hL : LM σ a) (r : Int32) (μ1 : Ms)  (hc : runc d 115 [.int (x2), .int (1), .int (999)] (put σ a μ) = some (some (.int r), put σ a μ1)) : run (d + 1) 122 13 [.ref a, .int (x1), .int (x2)] [] (put σ a μ) = run (d + 1) 122 21 [.ref a, .int (x1), .int (x2)] [.int r] (put σ a μ1) := by
  have e := e_M_drums_13 d a x1 x2 (put σ a μ) r (put σ a μ1)  (by simpa only [ar, va_rf, vd, put_F, put_sF] using hc)
  simpa only [ar, va_rf, vd, put_F, put_sF] using e
theorem q_M_drums_21 (d : Nat) (a : Nat) (x1 : Int32) (x2 : Int32) (y0 : Int32) (σ : Mm) (μ : Ms) (hL : LM σ a)  : run d 122 21 [.ref a, .int (x1), .int (x2)] [.int (y0)] (put σ a μ) = if y0 = 0 then run d 122 38 [.ref a, .int (x1), .int (x2)] [] (put σ a μ) else run d 122 24 [.ref a, .int (x1), .int (x2)] [] (put σ a μ) := by
  have e := e_M_drums_21 d a x1 x2 y0 (put σ a μ) 
  simpa only [ar, va_rf, vd, put_F, put_sF] using e
theorem q_M_drums_24 (d : Nat) (a : Nat) (x1 : Int32) (x2 : Int32) (σ : Mm) (μ : Ms) (hL : LM σ a) (g0 : ix x1 12 = true) : run d 122 24 [.ref a, .int (x1), .int (x2)] [] (put σ a μ) = if ((μ.2 6 (x1 : Int32).toNatClampNeg) + x2) ≤ 999 then run d 122 40 [.ref a, .int (x1), .int (x2)] [] (put σ a μ) else run d 122 38 [.ref a, .int (x1), .int (x2)] [] (put σ a μ) := by
  have e := e_M_drums_24 d a x1 x2 (put σ a μ) (hL.K μ) (by simp only [ar, va_rf, vd, put_F, put_sF, pP_6 hL, pK_6 hL, pN_6 hL, pA_6, pS_6]; rfl) (by simp only [ar, va_rf, vd, put_F, put_sF, pP_6 hL, pK_6 hL, pN_6 hL, pA_6, pS_6]; rfl) (by simpa only [ar, va_rf, vd, put_F, put_sF, pP_6 hL, pK_6 hL, pN_6 hL, pA_6, pS_6] using g0)
  simpa only [ar, va_rf, vd, put_F, put_sF, pP_6 hL, pK_6 hL, pN_6 hL, pA_6, pS_6] using e
theorem q_M_drums_38 (d : Nat) (a : Nat) (x1 : Int32) (x2 : Int32) (σ : Mm) (μ : Ms) (hL : LM σ a)  : run d 122 38 [.ref a, .int (x1), .int (x2)] [] (put σ a μ) = some (some (.int ((-1))), (put σ a μ)) := by
  have e := e_M_drums_38 d a x1 x2 (put σ a μ) 
  simpa only [ar, va_rf, vd, put_F, put_sF] using e
theorem q_M_drums_40 (d : Nat) (a : Nat) (x1 : Int32) (x2 : Int32) (σ : Mm) (μ : Ms) (hL : LM σ a) (g0 : ix x1 12 = true) : run d 122 40 [.ref a, .int (x1), .int (x2)] [] (put σ a μ) = run d 122 50 [.ref a, .int (x1), .int (x2)] [] (put σ a (fA μ 6 ((x1 : Int32).toNatClampNeg) ((μ.2 6 (x1 : Int32).toNatClampNeg) + x2))) := by
  have e := e_M_drums_40 d a x1 x2 (put σ a μ) (hL.K μ) (by simp only [ar, va_rf, vd, put_F, put_sF, pP_6 hL, pK_6 hL, pN_6 hL, pA_6, pS_6]; rfl) (by simp only [ar, va_rf, vd, put_F, put_sF, pP_6 hL, pK_6 hL, pN_6 hL, pA_6, pS_6]; rfl) (by simp only [ar, va_rf, vd, put_F, put_sF, pP_6 hL, pK_6 hL, pN_6 hL, pA_6, pS_6]; rfl) (by simpa only [ar, va_rf, vd, put_F, put_sF, pP_6 hL, pK_6 hL, pN_6 hL, pA_6, pS_6] using g0)
  simpa only [ar, va_rf, vd, put_F, put_sF, pP_6 hL, pK_6 hL, pN_6 hL, pA_6, pS_6] using e
theorem q_M_drums_50 (d : Nat) (a : Nat) (x1 : Int32) (x2 : Int32) (σ : Mm) (μ : Ms) (hL : LM σ a) (g0 : ix x1 12 = true) : run d 122 50 [.ref a, .int (x1), .int (x2)] [] (put σ a μ) = some (some (.int (μ.2 6 (x1 : Int32).toNatClampNeg)), (put σ a μ)) := by
  have e := e_M_drums_50 d a x1 x2 (put σ a μ) (hL.K μ) (by simp only [ar, va_rf, vd, put_F, put_sF, pP_6 hL, pK_6 hL, pN_6 hL, pA_6, pS_6]; rfl) (by simp only [ar, va_rf, vd, put_F, put_sF, pP_6 hL, pK_6 hL, pN_6 hL, pA_6, pS_6]; rfl) (by simpa only [ar, va_rf, vd, put_F, put_sF, pP_6 hL, pK_6 hL, pN_6 hL, pA_6, pS_6] using g0)
  simpa only [ar, va_rf, vd, put_F, put_sF, pP_6 hL, pK_6 hL, pN_6 hL, pA_6, pS_6] using e
theorem q_M_swell_0 (d : Nat) (a : Nat) (x1 : Int32) (x2 : Int32) (x3 : Int32) (σ : Mm) (μ : Ms) (hL : LM σ a)  : run d 124 0 [.ref a, .int (x1), .int (x2), .int (x3)] [] (put σ a μ) = run d 124 5 [.ref a, .int (x1), .int (x2), .int (x3)] [] (put σ a (fF μ 0 0)) := by
  have e := e_M_swell_0 d a x1 x2 x3 (put σ a μ) (hL.K μ)
  simpa only [ar, va_rf, vd, put_F, put_sF] using e
theorem q_M_swell_5 (d : Nat) (a : Nat) (x1 : Int32) (x2 : Int32) (x3 : Int32) (σ : Mm) (μ : Ms) (hL : LM σ a) (r : Int32) (μ1 : Ms)  (hc : runc d 118 [.ref a, .int (x1)] (put σ a μ) = some (some (.int r), put σ a μ1)) : run (d + 1) 124 5 [.ref a, .int (x1), .int (x2), .int (x3)] [] (put σ a μ) = run (d + 1) 124 10 [.ref a, .int (x1), .int (x2), .int (x3)] [.int r] (put σ a μ1) := by
  have e := e_M_swell_5 d a x1 x2 x3 (put σ a μ) r (put σ a μ1) (hL.K μ) (by simpa only [ar, va_rf, vd, put_F, put_sF] using hc)
  simpa only [ar, va_rf, vd, put_F, put_sF] using e
theorem q_M_swell_10 (d : Nat) (a : Nat) (x1 : Int32) (x2 : Int32) (x3 : Int32) (y0 : Int32) (σ : Mm) (μ : Ms) (hL : LM σ a)  : run d 124 10 [.ref a, .int (x1), .int (x2), .int (x3)] [.int (y0)] (put σ a μ) = if y0 = 0 then run d 124 45 [.ref a, .int (x1), .int (x2), .int (x3)] [] (put σ a μ) else run d 124 13 [.ref a, .int (x1), .int (x2), .int (x3)] [] (put σ a μ) := by
  have e := e_M_swell_10 d a x1 x2 x3 y0 (put σ a μ) 
  simpa only [ar, va_rf, vd, put_F, put_sF] using e
theorem q_M_swell_13 (d : Nat) (a : Nat) (x1 : Int32) (x2 : Int32) (x3 : Int32) (σ : Mm) (μ : Ms) (hL : LM σ a) (r : Int32) (μ1 : Ms)  (hc : runc d 115 [.int (x2), .int (0), .int (2399)] (put σ a μ) = some (some (.int r), put σ a μ1)) : run (d + 1) 124 13 [.ref a, .int (x1), .int (x2), .int (x3)] [] (put σ a μ) = run (d + 1) 124 21 [.ref a, .int (x1), .int (x2), .int (x3)] [.int r] (put σ a μ1) := by
  have e := e_M_swell_13 d a x1 x2 x3 (put σ a μ) r (put σ a μ1)  (by simpa only [ar, va_rf, vd, put_F, put_sF] using hc)
  simpa only [ar, va_rf, vd, put_F, put_sF] using e
theorem q_M_swell_21 (d : Nat) (a : Nat) (x1 : Int32) (x2 : Int32) (x3 : Int32) (y0 : Int32) (σ : Mm) (μ : Ms) (hL : LM σ a)  : run d 124 21 [.ref a, .int (x1), .int (x2), .int (x3)] [.int (y0)] (put σ a μ) = if y0 = 0 then run d 124 45 [.ref a, .int (x1), .int (x2), .int (x3)] [] (put σ a μ) else run d 124 24 [.ref a, .int (x1), .int (x2), .int (x3)] [] (put σ a μ) := by
  have e := e_M_swell_21 d a x1 x2 x3 y0 (put σ a μ) 
  simpa only [ar, va_rf, vd, put_F, put_sF] using e
theorem q_M_swell_24 (d : Nat) (a : Nat) (x1 : Int32) (x2 : Int32) (x3 : Int32) (σ : Mm) (μ : Ms) (hL : LM σ a) (r : Int32) (μ1 : Ms)  (hc : runc d 115 [.int (x3), .int (0), .int (9)] (put σ a μ) = some (some (.int r), put σ a μ1)) : run (d + 1) 124 24 [.ref a, .int (x1), .int (x2), .int (x3)] [] (put σ a μ) = run (d + 1) 124 31 [.ref a, .int (x1), .int (x2), .int (x3)] [.int r] (put σ a μ1) := by
  have e := e_M_swell_24 d a x1 x2 x3 (put σ a μ) r (put σ a μ1)  (by simpa only [ar, va_rf, vd, put_F, put_sF] using hc)
  simpa only [ar, va_rf, vd, put_F, put_sF] using e
theorem q_M_swell_31 (d : Nat) (a : Nat) (x1 : Int32) (x2 : Int32) (x3 : Int32) (y0 : Int32) (σ : Mm) (μ : Ms) (hL : LM σ a)  : run d 124 31 [.ref a, .int (x1), .int (x2), .int (x3)] [.int (y0)] (put σ a μ) = if y0 = 0 then run d 124 45 [.ref a, .int (x1), .int (x2), .int (x3)] [] (put σ a μ) else run d 124 34 [.ref a, .int (x1), .int (x2), .int (x3)] [] (put σ a μ) := by
  have e := e_M_swell_31 d a x1 x2 x3 y0 (put σ a μ) 
  simpa only [ar, va_rf, vd, put_F, put_sF] using e
theorem q_M_swell_34 (d : Nat) (a : Nat) (x1 : Int32) (x2 : Int32) (x3 : Int32) (σ : Mm) (μ : Ms) (hL : LM σ a) (r : Int32) (μ1 : Ms)  (hc : runc d 123 [.ref a, .int (0), .int (x1), .int (x2), .int (x3)] (put σ a μ) = some (some (.int r), put σ a μ1)) : run (d + 1) 124 34 [.ref a, .int (x1), .int (x2), .int (x3)] [] (put σ a μ) = run (d + 1) 124 42 [.ref a, .int (x1), .int (x2), .int (x3)] [.int r] (put σ a μ1) := by
  have e := e_M_swell_34 d a x1 x2 x3 (put σ a μ) r (put σ a μ1) (hL.K μ) (by simpa only [ar, va_rf, vd, put_F, put_sF] using hc)
  simpa only [ar, va_rf, vd, put_F, put_sF] using e
theorem q_M_swell_42 (d : Nat) (a : Nat) (x1 : Int32) (x2 : Int32) (x3 : Int32) (y0 : Int32) (σ : Mm) (μ : Ms) (hL : LM σ a)  : run d 124 42 [.ref a, .int (x1), .int (x2), .int (x3)] [.int (y0)] (put σ a μ) = run d 124 46 [.ref a, .int (x1), .int (x2), .int (x3)] [.int (y0)] (put σ a μ) := by
  have e := e_M_swell_42 d a x1 x2 x3 y0 (put σ a μ) 
  simpa only [ar, va_rf, vd, put_F, put_sF] using e
theorem q_M_swell_45 (d : Nat) (a : Nat) (x1 : Int32) (x2 : Int32) (x3 : Int32) (σ : Mm) (μ : Ms) (hL : LM σ a)  : run d 124 45 [.ref a, .int (x1), .int (x2), .int (x3)] [] (put σ a μ) = run d 124 46 [.ref a, .int (x1), .int (x2), .int (x3)] [.int ((-1))] (put σ a μ) := by
  have e := e_M_swell_45 d a x1 x2 x3 (put σ a μ) 
  simpa only [ar, va_rf, vd, put_F, put_sF] using e
theorem q_M_swell_46 (d : Nat) (a : Nat) (x1 : Int32) (x2 : Int32) (x3 : Int32) (y0 : Int32) (σ : Mm) (μ : Ms) (hL : LM σ a)  : run d 124 46 [.ref a, .int (x1), .int (x2), .int (x3)] [.int (y0)] (put σ a μ) = some (some (.int (y0)), (put σ a μ)) := by
  have e := e_M_swell_46 d a x1 x2 x3 y0 (put σ a μ) 
  simpa only [ar, va_rf, vd, put_F, put_sF] using e
theorem q_M_freeAt_0 (d : Nat) (a : Nat) (x1 : Int32) (u2 : Value) (u3 : Value) (σ : Mm) (μ : Ms) (hL : LM σ a) (g0 : ix x1 12 = true) : run d 133 0 [.ref a, .int (x1), u2, u3] [] (put σ a μ) = run d 133 9 [.ref a, .int (x1), .int (μ.2 3 (x1 : Int32).toNatClampNeg), .int (0)] [] (put σ a μ) := by
  have e := e_M_freeAt_0 d a x1 u2 u3 (put σ a μ) (hL.K μ) (by simp only [ar, va_rf, vd, put_F, put_sF, pP_3 hL, pK_3 hL, pN_3 hL, pA_3, pS_3]; rfl) (by simp only [ar, va_rf, vd, put_F, put_sF, pP_3 hL, pK_3 hL, pN_3 hL, pA_3, pS_3]; rfl) (by simpa only [ar, va_rf, vd, put_F, put_sF, pP_3 hL, pK_3 hL, pN_3 hL, pA_3, pS_3] using g0)
  simpa only [ar, va_rf, vd, put_F, put_sF, pP_3 hL, pK_3 hL, pN_3 hL, pA_3, pS_3] using e
theorem q_M_freeAt_9 (d : Nat) (a : Nat) (x1 : Int32) (x2 : Int32) (x3 : Int32) (σ : Mm) (μ : Ms) (hL : LM σ a)  : run d 133 9 [.ref a, .int (x1), .int (x2), .int (x3)] [] (put σ a μ) = if (μ.1 16) ≤ x3 then run d 133 50 [.ref a, .int (x1), .int (x2), .int (x3)] [] (put σ a μ) else run d 133 17 [.ref a, .int (x1), .int (x2), .int (x3)] [] (put σ a μ) := by
  have e := e_M_freeAt_9 d a x1 x2 x3 (put σ a μ) (hL.K μ)
  simpa only [ar, va_rf, vd, put_F, put_sF] using e
theorem q_M_freeAt_17 (d : Nat) (a : Nat) (x1 : Int32) (x2 : Int32) (x3 : Int32) (σ : Mm) (μ : Ms) (hL : LM σ a) (g0 : ix x3 6 = true) : run d 133 17 [.ref a, .int (x1), .int (x2), .int (x3)] [] (put σ a μ) = if ¬ (μ.2 24 (x3 : Int32).toNatClampNeg) = 0 then run d 133 41 [.ref a, .int (x1), .int (x2), .int (x3)] [.int (x2)] (put σ a μ) else run d 133 27 [.ref a, .int (x1), .int (x2), .int (x3)] [.int (x2)] (put σ a μ) := by
  have e := e_M_freeAt_17 d a x1 x2 x3 (put σ a μ) (hL.K μ) (by simp only [ar, va_rf, vd, put_F, put_sF, pP_24 hL, pK_24 hL, pN_24 hL, pA_24, pS_24]; rfl) (by simp only [ar, va_rf, vd, put_F, put_sF, pP_24 hL, pK_24 hL, pN_24 hL, pA_24, pS_24]; rfl) (by simpa only [ar, va_rf, vd, put_F, put_sF, pP_24 hL, pK_24 hL, pN_24 hL, pA_24, pS_24] using g0)
  simpa only [ar, va_rf, vd, put_F, put_sF, pP_24 hL, pK_24 hL, pN_24 hL, pA_24, pS_24] using e
theorem q_M_freeAt_27 (d : Nat) (a : Nat) (x1 : Int32) (x2 : Int32) (x3 : Int32) (y0 : Int32) (σ : Mm) (μ : Ms) (hL : LM σ a) (g0 : ix x3 6 = true) : run d 133 27 [.ref a, .int (x1), .int (x2), .int (x3)] [.int (y0)] (put σ a μ) = if ¬ (μ.2 25 (x3 : Int32).toNatClampNeg) = x1 then run d 133 41 [.ref a, .int (x1), .int (x2), .int (x3)] [.int (y0)] (put σ a μ) else run d 133 37 [.ref a, .int (x1), .int (x2), .int (x3)] [.int (y0)] (put σ a μ) := by
  have e := e_M_freeAt_27 d a x1 x2 x3 y0 (put σ a μ) (hL.K μ) (by simp only [ar, va_rf, vd, put_F, put_sF, pP_25 hL, pK_25 hL, pN_25 hL, pA_25, pS_25]; rfl) (by simp only [ar, va_rf, vd, put_F, put_sF, pP_25 hL, pK_25 hL, pN_25 hL, pA_25, pS_25]; rfl) (by simpa only [ar, va_rf, vd, put_F, put_sF, pP_25 hL, pK_25 hL, pN_25 hL, pA_25, pS_25] using g0)
  simpa only [ar, va_rf, vd, put_F, put_sF, pP_25 hL, pK_25 hL, pN_25 hL, pA_25, pS_25] using e
theorem q_M_freeAt_37 (d : Nat) (a : Nat) (x1 : Int32) (x2 : Int32) (x3 : Int32) (y0 : Int32) (σ : Mm) (μ : Ms) (hL : LM σ a)  : run d 133 37 [.ref a, .int (x1), .int (x2), .int (x3)] [.int (y0)] (put σ a μ) = run d 133 42 [.ref a, .int (x1), .int (x2), .int (x3)] [.int (1), .int (y0)] (put σ a μ) := by
  have e := e_M_freeAt_37 d a x1 x2 x3 y0 (put σ a μ) 
  simpa only [ar, va_rf, vd, put_F, put_sF] using e
theorem q_M_freeAt_41 (d : Nat) (a : Nat) (x1 : Int32) (x2 : Int32) (x3 : Int32) (y0 : Int32) (σ : Mm) (μ : Ms) (hL : LM σ a)  : run d 133 41 [.ref a, .int (x1), .int (x2), .int (x3)] [.int (y0)] (put σ a μ) = run d 133 42 [.ref a, .int (x1), .int (x2), .int (x3)] [.int (0), .int (y0)] (put σ a μ) := by
  have e := e_M_freeAt_41 d a x1 x2 x3 y0 (put σ a μ) 
  simpa only [ar, va_rf, vd, put_F, put_sF] using e
theorem q_M_freeAt_42 (d : Nat) (a : Nat) (x1 : Int32) (x2 : Int32) (x3 : Int32) (y0 : Int32) (y1 : Int32) (σ : Mm) (μ : Ms) (hL : LM σ a)  : run d 133 42 [.ref a, .int (x1), .int (x2), .int (x3)] [.int (y0), .int (y1)] (put σ a μ) = run d 133 9 [.ref a, .int (x1), .int (y1 - y0), .int (x3 + 1)] [] (put σ a μ) := by
  have e := e_M_freeAt_42 d a x1 x2 x3 y0 y1 (put σ a μ) 
  simpa only [ar, va_rf, vd, put_F, put_sF] using e
theorem q_M_freeAt_50 (d : Nat) (a : Nat) (x1 : Int32) (x2 : Int32) (x3 : Int32) (σ : Mm) (μ : Ms) (hL : LM σ a)  : run d 133 50 [.ref a, .int (x1), .int (x2), .int (x3)] [] (put σ a μ) = some (some (.int (x2)), (put σ a μ)) := by
  have e := e_M_freeAt_50 d a x1 x2 x3 (put σ a μ) 
  simpa only [ar, va_rf, vd, put_F, put_sF] using e
theorem q_M_isThis_0 (d : Nat) (a : Nat) (w1 : Int64) (u3 : Value) (u5 : Value) (σ : Mm) (μ : Ms) (hL : LM σ a)  : run d 145 0 [.ref a, .long (w1), uu, u3, uu, u5] [] (put σ a μ) = if ((μ.1 51) - (μ.1 50)) ≤ 7 then run d 145 18 [.ref a, .long (w1), uu, .long (0), uu, u5] [] (put σ a μ) else run d 145 16 [.ref a, .long (w1), uu, .long (0), uu, u5] [] (put σ a μ) := by
  have e := e_M_isThis_0 d a w1 u3 u5 (put σ a μ) (hL.K μ)
  simpa only [ar, va_rf, vd, put_F, put_sF] using e
theorem q_M_isThis_16 (d : Nat) (a : Nat) (w1 : Int64) (w3 : Int64) (u5 : Value) (σ : Mm) (μ : Ms) (hL : LM σ a)  : run d 145 16 [.ref a, .long (w1), uu, .long (w3), uu, u5] [] (put σ a μ) = some (some (.int (0)), (put σ a μ)) := by
  have e := e_M_isThis_16 d a w1 w3 u5 (put σ a μ) 
  simpa only [ar, va_rf, vd, put_F, put_sF] using e
theorem q_M_isThis_18 (d : Nat) (a : Nat) (w1 : Int64) (w3 : Int64) (u5 : Value) (σ : Mm) (μ : Ms) (hL : LM σ a)  : run d 145 18 [.ref a, .long (w1), uu, .long (w3), uu, u5] [] (put σ a μ) = run d 145 24 [.ref a, .long (w1), uu, .long (w3), uu, .int (μ.1 50)] [] (put σ a μ) := by
  have e := e_M_isThis_18 d a w1 w3 u5 (put σ a μ) (hL.K μ)
  simpa only [ar, va_rf, vd, put_F, put_sF] using e
theorem q_M_isThis_24 (d : Nat) (a : Nat) (w1 : Int64) (w3 : Int64) (x5 : Int32) (σ : Mm) (μ : Ms) (hL : LM σ a)  : run d 145 24 [.ref a, .long (w1), uu, .long (w3), uu, .int (x5)] [] (put σ a μ) = if (μ.1 51) ≤ x5 then run d 145 52 [.ref a, .long (w1), uu, .long (w3), uu, .int (x5)] [] (put σ a μ) else run d 145 33 [.ref a, .long (w1), uu, .long (w3), uu, .int (x5)] [] (put σ a μ) := by
  have e := e_M_isThis_24 d a w1 w3 x5 (put σ a μ) (hL.K μ)
  simpa only [ar, va_rf, vd, put_F, put_sF] using e
theorem q_M_isThis_33 (d : Nat) (a : Nat) (w1 : Int64) (w3 : Int64) (x5 : Int32) (σ : Mm) (μ : Ms) (hL : LM σ a) (r : Int32) (μ1 : Ms)  (hc : runc d 144 [.ref a, .int (x5)] (put σ a μ) = some (some (.int r), put σ a μ1)) : run (d + 1) 145 33 [.ref a, .long (w1), uu, .long (w3), uu, .int (x5)] [] (put σ a μ) = run (d + 1) 145 43 [.ref a, .long (w1), uu, .long (w3), uu, .int (x5)] [.int r, .long (w3 <<< ((8 : Int32).toInt64 &&& 63))] (put σ a μ1) := by
  have e := e_M_isThis_33 d a w1 w3 x5 (put σ a μ) r (put σ a μ1) (hL.K μ) (by simpa only [ar, va_rf, vd, put_F, put_sF] using hc)
  simpa only [ar, va_rf, vd, put_F, put_sF] using e
theorem q_M_isThis_43 (d : Nat) (a : Nat) (w1 : Int64) (w3 : Int64) (x5 : Int32) (y0 : Int32) (z1 : Int64) (σ : Mm) (μ : Ms) (hL : LM σ a)  : run d 145 43 [.ref a, .long (w1), uu, .long (w3), uu, .int (x5)] [.int (y0), .long (z1)] (put σ a μ) = run d 145 24 [.ref a, .long (w1), uu, .long (z1 ||| (y0.toInt64)), uu, .int (x5 + 1)] [] (put σ a μ) := by
  have e := e_M_isThis_43 d a w1 w3 x5 y0 z1 (put σ a μ) 
  simpa only [ar, va_rf, vd, put_F, put_sF] using e
theorem q_M_isThis_52 (d : Nat) (a : Nat) (w1 : Int64) (w3 : Int64) (x5 : Int32) (σ : Mm) (μ : Ms) (hL : LM σ a)  : run d 145 52 [.ref a, .long (w1), uu, .long (w3), uu, .int (x5)] [] (put σ a μ) = if ¬ (lg_cmp w3 w1) = 0 then run d 145 62 [.ref a, .long (w1), uu, .long (w3), uu, .int (x5)] [] (put σ a μ) else run d 145 58 [.ref a, .long (w1), uu, .long (w3), uu, .int (x5)] [] (put σ a μ) := by
  have e := e_M_isThis_52 d a w1 w3 x5 (put σ a μ) 
  simpa only [ar, va_rf, vd, put_F, put_sF] using e
theorem q_M_isThis_58 (d : Nat) (a : Nat) (w1 : Int64) (w3 : Int64) (x5 : Int32) (σ : Mm) (μ : Ms) (hL : LM σ a)  : run d 145 58 [.ref a, .long (w1), uu, .long (w3), uu, .int (x5)] [] (put σ a μ) = run d 145 63 [.ref a, .long (w1), uu, .long (w3), uu, .int (x5)] [.int (1)] (put σ a μ) := by
  have e := e_M_isThis_58 d a w1 w3 x5 (put σ a μ) 
  simpa only [ar, va_rf, vd, put_F, put_sF] using e
theorem q_M_isThis_62 (d : Nat) (a : Nat) (w1 : Int64) (w3 : Int64) (x5 : Int32) (σ : Mm) (μ : Ms) (hL : LM σ a)  : run d 145 62 [.ref a, .long (w1), uu, .long (w3), uu, .int (x5)] [] (put σ a μ) = run d 145 63 [.ref a, .long (w1), uu, .long (w3), uu, .int (x5)] [.int (0)] (put σ a μ) := by
  have e := e_M_isThis_62 d a w1 w3 x5 (put σ a μ) 
  simpa only [ar, va_rf, vd, put_F, put_sF] using e
theorem q_M_isThis_63 (d : Nat) (a : Nat) (w1 : Int64) (w3 : Int64) (x5 : Int32) (y0 : Int32) (σ : Mm) (μ : Ms) (hL : LM σ a) (g0 : y0 = 0 ∨ y0 = 1) : run d 145 63 [.ref a, .long (w1), uu, .long (w3), uu, .int (x5)] [.int (y0)] (put σ a μ) = some (some (.int (y0)), (put σ a μ)) := by
  have e := e_M_isThis_63 d a w1 w3 x5 y0 (put σ a μ) (by simpa only [ar, va_rf, vd, put_F, put_sF] using g0)
  simpa only [ar, va_rf, vd, put_F, put_sF] using e
theorem q_M_readLine_0 (d : Nat) (a : Nat) (x1 : Int32) (u2 : Value) (u3 : Value) (σ : Mm) (μ : Ms) (hL : LM σ a)  : run d 152 0 [.ref a, .int (x1), u2, u3] [] (put σ a μ) = if ¬ x1 = 16 then run d 152 25 [.ref a, .int (x1), u2, u3] [] (put σ a μ) else run d 152 6 [.ref a, .int (x1), u2, u3] [] (put σ a μ) := by
  have e := e_M_readLine_0 d a x1 u2 u3 (put σ a μ) 
  simpa only [ar, va_rf, vd, put_F, put_sF] using e
theorem q_M_readLine_6 (d : Nat) (a : Nat) (x1 : Int32) (u2 : Value) (u3 : Value) (σ : Mm) (μ : Ms) (hL : LM σ a) (r : Int32) (μ1 : Ms)  (hc : runc d 115 [.int (μ.1 52), .int (8), .int (9)] (put σ a μ) = some (some (.int r), put σ a μ1)) : run (d + 1) 152 6 [.ref a, .int (x1), u2, u3] [] (put σ a μ) = run (d + 1) 152 17 [.ref a, .int (x1), u2, u3] [.int r] (put σ a μ1) := by
  have e := e_M_readLine_6 d a x1 u2 u3 (put σ a μ) r (put σ a μ1) (hL.K μ) (by simpa only [ar, va_rf, vd, put_F, put_sF] using hc)
  simpa only [ar, va_rf, vd, put_F, put_sF] using e
theorem q_M_readLine_17 (d : Nat) (a : Nat) (x1 : Int32) (u2 : Value) (u3 : Value) (y0 : Int32) (σ : Mm) (μ : Ms) (hL : LM σ a)  : run d 152 17 [.ref a, .int (x1), u2, u3] [.int (y0)] (put σ a μ) = if y0 = 0 then run d 152 25 [.ref a, .int (x1), u2, u3] [] (put σ a μ) else run d 152 20 [.ref a, .int (x1), u2, u3] [] (put σ a μ) := by
  have e := e_M_readLine_17 d a x1 u2 u3 y0 (put σ a μ) 
  simpa only [ar, va_rf, vd, put_F, put_sF] using e
theorem q_M_readLine_20 (d : Nat) (a : Nat) (x1 : Int32) (u2 : Value) (u3 : Value) (σ : Mm) (μ : Ms) (hL : LM σ a) (μ1 : Ms)  (hc : runc d 148 [.ref a, .int (2)] (put σ a μ) = some (none, put σ a μ1)) : run (d + 1) 152 20 [.ref a, .int (x1), u2, u3] [] (put σ a μ) = run (d + 1) 152 25 [.ref a, .int (x1), u2, u3] [] (put σ a μ1) := by
  have e := e_M_readLine_20 d a x1 u2 u3 (put σ a μ) (put σ a μ1) (hL.K μ) (by simpa only [ar, va_rf, vd, put_F, put_sF] using hc)
  simpa only [ar, va_rf, vd, put_F, put_sF] using e
theorem q_M_readLine_25 (d : Nat) (a : Nat) (x1 : Int32) (u2 : Value) (u3 : Value) (σ : Mm) (μ : Ms) (hL : LM σ a) (r : Int32) (μ1 : Ms)  (hc : runc d 149 [.ref a, .int (8), .int (9)] (put σ a μ) = some (some (.int r), put σ a μ1)) : run (d + 1) 152 25 [.ref a, .int (x1), u2, u3] [] (put σ a μ) = run (d + 1) 152 38 [.ref a, .int (x1), u2, u3] [.int r, .int (x1), (.ref (a + 37))] (put σ a μ1) := by
  have e := e_M_readLine_25 d a x1 u2 u3 (put σ a μ) r (put σ a μ1) (hL.K μ) (by simpa only [ar, va_rf, vd, put_F, put_sF, pP_46 hL, pK_46 hL, pN_46 hL, pA_46, pS_46] using hc)
  simpa only [ar, va_rf, vd, put_F, put_sF, pP_46 hL, pK_46 hL, pN_46 hL, pA_46, pS_46] using e
theorem q_M_readLine_38 (d : Nat) (a : Nat) (x1 : Int32) (u2 : Value) (u3 : Value) (y0 : Int32) (y1 : Int32) (σ : Mm) (μ : Ms) (hL : LM σ a)  : run d 152 38 [.ref a, .int (x1), u2, u3] [.int (y0), .int (y1), (.ref (a + 37))] (put σ a μ) = if ¬ y0 = 9 then run d 152 47 [.ref a, .int (x1), u2, u3] [.int (y1), (.ref (a + 37))] (put σ a μ) else run d 152 43 [.ref a, .int (x1), u2, u3] [.int (y1), (.ref (a + 37))] (put σ a μ) := by
  have e := e_M_readLine_38 d a x1 u2 u3 y0 y1 (.ref (a + 37)) (put σ a μ) 
  simpa only [ar, va_rf, vd, put_F, put_sF, pP_46 hL, pK_46 hL, pN_46 hL, pA_46, pS_46] using e
theorem q_M_readLine_43 (d : Nat) (a : Nat) (x1 : Int32) (u2 : Value) (u3 : Value) (y0 : Int32) (σ : Mm) (μ : Ms) (hL : LM σ a)  : run d 152 43 [.ref a, .int (x1), u2, u3] [.int (y0), (.ref (a + 37))] (put σ a μ) = run d 152 48 [.ref a, .int (x1), u2, u3] [.int (1), .int (y0), (.ref (a + 37))] (put σ a μ) := by
  have e := e_M_readLine_43 d a x1 u2 u3 y0 (.ref (a + 37)) (put σ a μ) 
  simpa only [ar, va_rf, vd, put_F, put_sF, pP_46 hL, pK_46 hL, pN_46 hL, pA_46, pS_46] using e
theorem q_M_readLine_47 (d : Nat) (a : Nat) (x1 : Int32) (u2 : Value) (u3 : Value) (y0 : Int32) (σ : Mm) (μ : Ms) (hL : LM σ a)  : run d 152 47 [.ref a, .int (x1), u2, u3] [.int (y0), (.ref (a + 37))] (put σ a μ) = run d 152 48 [.ref a, .int (x1), u2, u3] [.int (0), .int (y0), (.ref (a + 37))] (put σ a μ) := by
  have e := e_M_readLine_47 d a x1 u2 u3 y0 (.ref (a + 37)) (put σ a μ) 
  simpa only [ar, va_rf, vd, put_F, put_sF, pP_46 hL, pK_46 hL, pN_46 hL, pA_46, pS_46] using e
theorem q_M_readLine_48 (d : Nat) (a : Nat) (x1 : Int32) (u2 : Value) (u3 : Value) (y0 : Int32) (y1 : Int32) (σ : Mm) (μ : Ms) (hL : LM σ a) (g0 : (y0 : Int32).toInt8.toInt32 = y0) (g1 : ix y1 17 = true) : run d 152 48 [.ref a, .int (x1), u2, u3] [.int (y0), .int (y1), (.ref (a + 37))] (put σ a μ) = run d 152 49 [.ref a, .int (x1), u2, u3] [] (put σ a (fA μ 46 ((y1 : Int32).toNatClampNeg) y0)) := by
  have e := e_M_readLine_48 d a x1 u2 u3 y0 y1 (.ref (a + 37)) (put σ a μ) rfl (by simp only [ar, va_rf, vd, put_F, put_sF, pP_46 hL, pK_46 hL, pN_46 hL, pA_46, pS_46]; rfl) (by simpa only [ar, va_rf, vd, put_F, put_sF, pP_46 hL, pK_46 hL, pN_46 hL, pA_46, pS_46] using g0) (by simpa only [ar, va_rf, vd, put_F, put_sF, pP_46 hL, pK_46 hL, pN_46 hL, pA_46, pS_46] using g1)
  simpa only [ar, va_rf, vd, put_F, put_sF, pP_46 hL, pK_46 hL, pN_46 hL, pA_46, pS_46] using e
theorem q_M_readLine_49 (d : Nat) (a : Nat) (x1 : Int32) (u2 : Value) (u3 : Value) (σ : Mm) (μ : Ms) (hL : LM σ a) (g0 : ix x1 17 = true) : run d 152 49 [.ref a, .int (x1), u2, u3] [] (put σ a μ) = run d 152 56 [.ref a, .int (x1), u2, u3] [] (put σ a (fA μ 47 ((x1 : Int32).toNatClampNeg) ((-1)))) := by
  have e := e_M_readLine_49 d a x1 u2 u3 (put σ a μ) (hL.K μ) (by simp only [ar, va_rf, vd, put_F, put_sF, pP_47 hL, pK_47 hL, pN_47 hL, pA_47, pS_47]; rfl) (by simp only [ar, va_rf, vd, put_F, put_sF, pP_47 hL, pK_47 hL, pN_47 hL, pA_47, pS_47]; rfl) (by simpa only [ar, va_rf, vd, put_F, put_sF, pP_47 hL, pK_47 hL, pN_47 hL, pA_47, pS_47] using g0)
  simpa only [ar, va_rf, vd, put_F, put_sF, pP_47 hL, pK_47 hL, pN_47 hL, pA_47, pS_47] using e
theorem q_M_readLine_56 (d : Nat) (a : Nat) (x1 : Int32) (u2 : Value) (u3 : Value) (σ : Mm) (μ : Ms) (hL : LM σ a) (g0 : ix x1 17 = true) : run d 152 56 [.ref a, .int (x1), u2, u3] [] (put σ a μ) = run d 152 63 [.ref a, .int (x1), u2, u3] [] (put σ a (fA μ 48 ((x1 : Int32).toNatClampNeg) 0)) := by
  have e := e_M_readLine_56 d a x1 u2 u3 (put σ a μ) (hL.K μ) (by simp only [ar, va_rf, vd, put_F, put_sF, pP_48 hL, pK_48 hL, pN_48 hL, pA_48, pS_48]; rfl) (by simp only [ar, va_rf, vd, put_F, put_sF, pP_48 hL, pK_48 hL, pN_48 hL, pA_48, pS_48]; rfl) (by simpa only [ar, va_rf, vd, put_F, put_sF, pP_48 hL, pK_48 hL, pN_48 hL, pA_48, pS_48] using g0)
  simpa only [ar, va_rf, vd, put_F, put_sF, pP_48 hL, pK_48 hL, pN_48 hL, pA_48, pS_48] using e
theorem q_M_readLine_63 (d : Nat) (a : Nat) (x1 : Int32) (u2 : Value) (u3 : Value) (σ : Mm) (μ : Ms) (hL : LM σ a)  : run d 152 63 [.ref a, .int (x1), u2, u3] [] (put σ a μ) = if ¬ (μ.1 54) = 0 then run d 152 116 [.ref a, .int (x1), u2, u3] [] (put σ a μ) else run d 152 70 [.ref a, .int (x1), u2, u3] [] (put σ a μ) := by
  have e := e_M_readLine_63 d a x1 u2 u3 (put σ a μ) (hL.K μ)
  simpa only [ar, va_rf, vd, put_F, put_sF] using e
theorem q_M_readLine_70 (d : Nat) (a : Nat) (x1 : Int32) (u2 : Value) (u3 : Value) (σ : Mm) (μ : Ms) (hL : LM σ a)  : run d 152 70 [.ref a, .int (x1), u2, u3] [] (put σ a μ) = if ¬ (μ.1 52) = 10 then run d 152 116 [.ref a, .int (x1), u2, u3] [] (put σ a μ) else run d 152 79 [.ref a, .int (x1), u2, u3] [] (put σ a μ) := by
  have e := e_M_readLine_70 d a x1 u2 u3 (put σ a μ) (hL.K μ)
  simpa only [ar, va_rf, vd, put_F, put_sF] using e
theorem q_M_readLine_79 (d : Nat) (a : Nat) (x1 : Int32) (u2 : Value) (u3 : Value) (σ : Mm) (μ : Ms) (hL : LM σ a) (μ1 : Ms)  (hc : runc d 147 [.ref a] (put σ a μ) = some (none, put σ a μ1)) : run (d + 1) 152 79 [.ref a, .int (x1), u2, u3] [] (put σ a μ) = run (d + 1) 152 83 [.ref a, .int (x1), u2, u3] [] (put σ a μ1) := by
  have e := e_M_readLine_79 d a x1 u2 u3 (put σ a μ) (put σ a μ1) (hL.K μ) (by simpa only [ar, va_rf, vd, put_F, put_sF] using hc)
  simpa only [ar, va_rf, vd, put_F, put_sF] using e
theorem q_M_readLine_83 (d : Nat) (a : Nat) (x1 : Int32) (u2 : Value) (u3 : Value) (σ : Mm) (μ : Ms) (hL : LM σ a)  : run d 152 83 [.ref a, .int (x1), u2, u3] [] (put σ a μ) = if ¬ (μ.1 52) = 20 then run d 152 106 [.ref a, .int (x1), u2, u3] [] (put σ a μ) else run d 152 92 [.ref a, .int (x1), u2, u3] [] (put σ a μ) := by
  have e := e_M_readLine_83 d a x1 u2 u3 (put σ a μ) (hL.K μ)
  simpa only [ar, va_rf, vd, put_F, put_sF] using e
theorem q_M_readLine_92 (d : Nat) (a : Nat) (x1 : Int32) (u2 : Value) (u3 : Value) (σ : Mm) (μ : Ms) (hL : LM σ a)  : run d 152 92 [.ref a, .int (x1), u2, u3] [] (put σ a μ) = if (μ.1 53) ≤ 11 then run d 152 106 [.ref a, .int (x1), u2, u3] [] (put σ a μ) else run d 152 101 [.ref a, .int (x1), u2, u3] [] (put σ a μ) := by
  have e := e_M_readLine_92 d a x1 u2 u3 (put σ a μ) (hL.K μ)
  simpa only [ar, va_rf, vd, put_F, put_sF] using e
theorem q_M_readLine_101 (d : Nat) (a : Nat) (x1 : Int32) (u2 : Value) (u3 : Value) (σ : Mm) (μ : Ms) (hL : LM σ a) (μ1 : Ms)  (hc : runc d 148 [.ref a, .int (4)] (put σ a μ) = some (none, put σ a μ1)) : run (d + 1) 152 101 [.ref a, .int (x1), u2, u3] [] (put σ a μ) = run (d + 1) 152 106 [.ref a, .int (x1), u2, u3] [] (put σ a μ1) := by
  have e := e_M_readLine_101 d a x1 u2 u3 (put σ a μ) (put σ a μ1) (hL.K μ) (by simpa only [ar, va_rf, vd, put_F, put_sF] using hc)
  simpa only [ar, va_rf, vd, put_F, put_sF] using e
theorem q_M_readLine_106 (d : Nat) (a : Nat) (x1 : Int32) (u2 : Value) (u3 : Value) (σ : Mm) (μ : Ms) (hL : LM σ a) (r : Int32) (μ1 : Ms)  (hc : runc d 150 [.ref a] (put σ a μ) = some (some (.int r), put σ a μ1)) : run (d + 1) 152 106 [.ref a, .int (x1), u2, u3] [] (put σ a μ) = run (d + 1) 152 115 [.ref a, .int (x1), u2, u3] [.int r, .int (x1), (.ref (a + 38))] (put σ a μ1) := by
  have e := e_M_readLine_106 d a x1 u2 u3 (put σ a μ) r (put σ a μ1) (hL.K μ) (by simpa only [ar, va_rf, vd, put_F, put_sF, pP_47 hL, pK_47 hL, pN_47 hL, pA_47, pS_47] using hc)
  simpa only [ar, va_rf, vd, put_F, put_sF, pP_47 hL, pK_47 hL, pN_47 hL, pA_47, pS_47] using e
theorem q_M_readLine_115 (d : Nat) (a : Nat) (x1 : Int32) (u2 : Value) (u3 : Value) (y0 : Int32) (y1 : Int32) (σ : Mm) (μ : Ms) (hL : LM σ a) (g0 : ix y1 17 = true) : run d 152 115 [.ref a, .int (x1), u2, u3] [.int (y0), .int (y1), (.ref (a + 38))] (put σ a μ) = run d 152 116 [.ref a, .int (x1), u2, u3] [] (put σ a (fA μ 47 ((y1 : Int32).toNatClampNeg) y0)) := by
  have e := e_M_readLine_115 d a x1 u2 u3 y0 y1 (.ref (a + 38)) (put σ a μ) rfl (by simp only [ar, va_rf, vd, put_F, put_sF, pP_47 hL, pK_47 hL, pN_47 hL, pA_47, pS_47]; rfl) (by simpa only [ar, va_rf, vd, put_F, put_sF, pP_47 hL, pK_47 hL, pN_47 hL, pA_47, pS_47] using g0)
  simpa only [ar, va_rf, vd, put_F, put_sF, pP_47 hL, pK_47 hL, pN_47 hL, pA_47, pS_47] using e
theorem q_M_readLine_116 (d : Nat) (a : Nat) (x1 : Int32) (u2 : Value) (u3 : Value) (σ : Mm) (μ : Ms) (hL : LM σ a) (r : Int32) (μ1 : Ms)  (hc : runc d 149 [.ref a, .int (11), .int (11)] (put σ a μ) = some (some (.int r), put σ a μ1)) : run (d + 1) 152 116 [.ref a, .int (x1), u2, u3] [] (put σ a μ) = run (d + 1) 152 124 [.ref a, .int (x1), u2, u3] [.int r] (put σ a μ1) := by
  have e := e_M_readLine_116 d a x1 u2 u3 (put σ a μ) r (put σ a μ1) (hL.K μ) (by simpa only [ar, va_rf, vd, put_F, put_sF] using hc)
  simpa only [ar, va_rf, vd, put_F, put_sF] using e
theorem q_M_readLine_124 (d : Nat) (a : Nat) (x1 : Int32) (u2 : Value) (u3 : Value) (y0 : Int32) (σ : Mm) (μ : Ms) (hL : LM σ a) (μ1 : Ms)  (hc : runc d 151 [.ref a, .int (x1), .int (0)] (put σ a μ) = some (none, put σ a μ1)) : run (d + 1) 152 124 [.ref a, .int (x1), u2, u3] [.int (y0)] (put σ a μ) = run (d + 1) 152 131 [.ref a, .int (x1), .int (y0), u3] [] (put σ a μ1) := by
  have e := e_M_readLine_124 d a x1 u2 u3 y0 (put σ a μ) (put σ a μ1) (hL.K μ) (by simpa only [ar, va_rf, vd, put_F, put_sF] using hc)
  simpa only [ar, va_rf, vd, put_F, put_sF] using e
theorem q_M_readLine_131 (d : Nat) (a : Nat) (x1 : Int32) (x2 : Int32) (u3 : Value) (σ : Mm) (μ : Ms) (hL : LM σ a)  : run d 152 131 [.ref a, .int (x1), .int (x2), u3] [] (put σ a μ) = run d 152 133 [.ref a, .int (x1), .int (x2), .int (1)] [] (put σ a μ) := by
  have e := e_M_readLine_131 d a x1 x2 u3 (put σ a μ) 
  simpa only [ar, va_rf, vd, put_F, put_sF] using e
theorem q_M_readLine_133 (d : Nat) (a : Nat) (x1 : Int32) (x2 : Int32) (x3 : Int32) (σ : Mm) (μ : Ms) (hL : LM σ a)  : run d 152 133 [.ref a, .int (x1), .int (x2), .int (x3)] [] (put σ a μ) = if ¬ (μ.1 54) = 0 then run d 152 165 [.ref a, .int (x1), .int (x2), .int (x3)] [] (put σ a μ) else run d 152 140 [.ref a, .int (x1), .int (x2), .int (x3)] [] (put σ a μ) := by
  have e := e_M_readLine_133 d a x1 x2 x3 (put σ a μ) (hL.K μ)
  simpa only [ar, va_rf, vd, put_F, put_sF] using e
theorem q_M_readLine_140 (d : Nat) (a : Nat) (x1 : Int32) (x2 : Int32) (x3 : Int32) (σ : Mm) (μ : Ms) (hL : LM σ a)  : run d 152 140 [.ref a, .int (x1), .int (x2), .int (x3)] [] (put σ a μ) = if ¬ (μ.1 52) = 12 then run d 152 165 [.ref a, .int (x1), .int (x2), .int (x3)] [] (put σ a μ) else run d 152 149 [.ref a, .int (x1), .int (x2), .int (x3)] [] (put σ a μ) := by
  have e := e_M_readLine_140 d a x1 x2 x3 (put σ a μ) (hL.K μ)
  simpa only [ar, va_rf, vd, put_F, put_sF] using e
theorem q_M_readLine_149 (d : Nat) (a : Nat) (x1 : Int32) (x2 : Int32) (x3 : Int32) (σ : Mm) (μ : Ms) (hL : LM σ a) (μ1 : Ms)  (hc : runc d 147 [.ref a] (put σ a μ) = some (none, put σ a μ1)) : run (d + 1) 152 149 [.ref a, .int (x1), .int (x2), .int (x3)] [] (put σ a μ) = run (d + 1) 152 153 [.ref a, .int (x1), .int (x2), .int (x3)] [] (put σ a μ1) := by
  have e := e_M_readLine_149 d a x1 x2 x3 (put σ a μ) (put σ a μ1) (hL.K μ) (by simpa only [ar, va_rf, vd, put_F, put_sF] using hc)
  simpa only [ar, va_rf, vd, put_F, put_sF] using e
theorem q_M_readLine_153 (d : Nat) (a : Nat) (x1 : Int32) (x2 : Int32) (x3 : Int32) (σ : Mm) (μ : Ms) (hL : LM σ a) (μ1 : Ms)  (hc : runc d 151 [.ref a, .int (x1), .int (x3)] (put σ a μ) = some (none, put σ a μ1)) : run (d + 1) 152 153 [.ref a, .int (x1), .int (x2), .int (x3)] [] (put σ a μ) = run (d + 1) 152 159 [.ref a, .int (x1), .int (x2), .int (x3)] [] (put σ a μ1) := by
  have e := e_M_readLine_153 d a x1 x2 x3 (put σ a μ) (put σ a μ1) (hL.K μ) (by simpa only [ar, va_rf, vd, put_F, put_sF] using hc)
  simpa only [ar, va_rf, vd, put_F, put_sF] using e
theorem q_M_readLine_159 (d : Nat) (a : Nat) (x1 : Int32) (x2 : Int32) (x3 : Int32) (σ : Mm) (μ : Ms) (hL : LM σ a)  : run d 152 159 [.ref a, .int (x1), .int (x2), .int (x3)] [] (put σ a μ) = run d 152 133 [.ref a, .int (x1), .int (x2), .int (x3 + 1)] [] (put σ a μ) := by
  have e := e_M_readLine_159 d a x1 x2 x3 (put σ a μ) 
  simpa only [ar, va_rf, vd, put_F, put_sF] using e
theorem q_M_readLine_165 (d : Nat) (a : Nat) (x1 : Int32) (x2 : Int32) (x3 : Int32) (σ : Mm) (μ : Ms) (hL : LM σ a)  : run d 152 165 [.ref a, .int (x1), .int (x2), .int (x3)] [] (put σ a μ) = if ¬ (μ.1 54) = 0 then run d 152 195 [.ref a, .int (x1), .int (x2), .int (x3)] [] (put σ a μ) else run d 152 172 [.ref a, .int (x1), .int (x2), .int (x3)] [] (put σ a μ) := by
  have e := e_M_readLine_165 d a x1 x2 x3 (put σ a μ) (hL.K μ)
  simpa only [ar, va_rf, vd, put_F, put_sF] using e
theorem q_M_readLine_172 (d : Nat) (a : Nat) (x1 : Int32) (x2 : Int32) (x3 : Int32) (σ : Mm) (μ : Ms) (hL : LM σ a)  : run d 152 172 [.ref a, .int (x1), .int (x2), .int (x3)] [] (put σ a μ) = if ¬ (μ.1 52) = 21 then run d 152 190 [.ref a, .int (x1), .int (x2), .int (x3)] [] (put σ a μ) else run d 152 181 [.ref a, .int (x1), .int (x2), .int (x3)] [] (put σ a μ) := by
  have e := e_M_readLine_172 d a x1 x2 x3 (put σ a μ) (hL.K μ)
  simpa only [ar, va_rf, vd, put_F, put_sF] using e
theorem q_M_readLine_181 (d : Nat) (a : Nat) (x1 : Int32) (x2 : Int32) (x3 : Int32) (σ : Mm) (μ : Ms) (hL : LM σ a)  : run d 152 181 [.ref a, .int (x1), .int (x2), .int (x3)] [] (put σ a μ) = if (μ.1 53) = 59 then run d 152 195 [.ref a, .int (x1), .int (x2), .int (x3)] [] (put σ a μ) else run d 152 190 [.ref a, .int (x1), .int (x2), .int (x3)] [] (put σ a μ) := by
  have e := e_M_readLine_181 d a x1 x2 x3 (put σ a μ) (hL.K μ)
  simpa only [ar, va_rf, vd, put_F, put_sF] using e
theorem q_M_readLine_190 (d : Nat) (a : Nat) (x1 : Int32) (x2 : Int32) (x3 : Int32) (σ : Mm) (μ : Ms) (hL : LM σ a) (μ1 : Ms)  (hc : runc d 148 [.ref a, .int (1)] (put σ a μ) = some (none, put σ a μ1)) : run (d + 1) 152 190 [.ref a, .int (x1), .int (x2), .int (x3)] [] (put σ a μ) = run (d + 1) 152 195 [.ref a, .int (x1), .int (x2), .int (x3)] [] (put σ a μ1) := by
  have e := e_M_readLine_190 d a x1 x2 x3 (put σ a μ) (put σ a μ1) (hL.K μ) (by simpa only [ar, va_rf, vd, put_F, put_sF] using hc)
  simpa only [ar, va_rf, vd, put_F, put_sF] using e
theorem q_M_readLine_195 (d : Nat) (a : Nat) (x1 : Int32) (x2 : Int32) (x3 : Int32) (σ : Mm) (μ : Ms) (hL : LM σ a)  : run d 152 195 [.ref a, .int (x1), .int (x2), .int (x3)] [] (put σ a μ) = if ¬ (μ.1 54) = 0 then run d 152 206 [.ref a, .int (x1), .int (x2), .int (x3)] [] (put σ a μ) else run d 152 202 [.ref a, .int (x1), .int (x2), .int (x3)] [] (put σ a μ) := by
  have e := e_M_readLine_195 d a x1 x2 x3 (put σ a μ) (hL.K μ)
  simpa only [ar, va_rf, vd, put_F, put_sF] using e
theorem q_M_readLine_202 (d : Nat) (a : Nat) (x1 : Int32) (x2 : Int32) (x3 : Int32) (σ : Mm) (μ : Ms) (hL : LM σ a) (μ1 : Ms)  (hc : runc d 147 [.ref a] (put σ a μ) = some (none, put σ a μ1)) : run (d + 1) 152 202 [.ref a, .int (x1), .int (x2), .int (x3)] [] (put σ a μ) = run (d + 1) 152 206 [.ref a, .int (x1), .int (x2), .int (x3)] [] (put σ a μ1) := by
  have e := e_M_readLine_202 d a x1 x2 x3 (put σ a μ) (put σ a μ1) (hL.K μ) (by simpa only [ar, va_rf, vd, put_F, put_sF] using hc)
  simpa only [ar, va_rf, vd, put_F, put_sF] using e
theorem q_M_readLine_206 (d : Nat) (a : Nat) (x1 : Int32) (x2 : Int32) (x3 : Int32) (σ : Mm) (μ : Ms) (hL : LM σ a)  : run d 152 206 [.ref a, .int (x1), .int (x2), .int (x3)] [] (put σ a μ) = some (none, (put σ a μ)) := by
  have e := e_M_readLine_206 d a x1 x2 x3 (put σ a μ) 
  simpa only [ar, va_rf, vd, put_F, put_sF] using e
