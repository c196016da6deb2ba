theorem q_M_thrown_0 (d : Nat) (a : Nat) (σ : Mm) (μ : Ms) (hL : LM σ a)  : run d 114 0 [.ref a] [] (put σ a μ) = some (some (.int (μ.1 0)), (put σ a μ)) := by
  have e := e_M_thrown_0 d a (put σ a μ) (hL.K μ)
  simpa only [ar, va_rf, vd, put_F, put_sF] using e
theorem q_M_isNight_0 (d : Nat) (a : Nat) (x1 : Int32) (u2 : Value) (σ : Mm) (μ : Ms) (hL : LM σ a)  : run d 117 0 [.ref a, .int (x1), u2] [] (put σ a μ) = if ((x1 / 60) - (x1 / 60) / 24 * 24) < 6 then run d 117 20 [.ref a, .int (x1), .int ((x1 / 60) - (x1 / 60) / 24 * 24)] [] (put σ a μ) else run d 117 14 [.ref a, .int (x1), .int ((x1 / 60) - (x1 / 60) / 24 * 24)] [] (put σ a μ) := by
  have e := e_M_isNight_0 d a x1 u2 (put σ a μ) 
  simpa only [ar, va_rf, vd, put_F, put_sF] using e
theorem q_M_isNight_14 (d : Nat) (a : Nat) (x1 : Int32) (x2 : Int32) (σ : Mm) (μ : Ms) (hL : LM σ a)  : run d 117 14 [.ref a, .int (x1), .int (x2)] [] (put σ a μ) = if x2 < 18 then run d 117 24 [.ref a, .int (x1), .int (x2)] [] (put σ a μ) else run d 117 20 [.ref a, .int (x1), .int (x2)] [] (put σ a μ) := by
  have e := e_M_isNight_14 d a x1 x2 (put σ a μ) 
  simpa only [ar, va_rf, vd, put_F, put_sF] using e
theorem q_M_isNight_20 (d : Nat) (a : Nat) (x1 : Int32) (x2 : Int32) (σ : Mm) (μ : Ms) (hL : LM σ a)  : run d 117 20 [.ref a, .int (x1), .int (x2)] [] (put σ a μ) = run d 117 25 [.ref a, .int (x1), .int (x2)] [.int (1)] (put σ a μ) := by
  have e := e_M_isNight_20 d a x1 x2 (put σ a μ) 
  simpa only [ar, va_rf, vd, put_F, put_sF] using e
theorem q_M_isNight_24 (d : Nat) (a : Nat) (x1 : Int32) (x2 : Int32) (σ : Mm) (μ : Ms) (hL : LM σ a)  : run d 117 24 [.ref a, .int (x1), .int (x2)] [] (put σ a μ) = run d 117 25 [.ref a, .int (x1), .int (x2)] [.int (0)] (put σ a μ) := by
  have e := e_M_isNight_24 d a x1 x2 (put σ a μ) 
  simpa only [ar, va_rf, vd, put_F, put_sF] using e
theorem q_M_isNight_25 (d : Nat) (a : Nat) (x1 : Int32) (x2 : Int32) (y0 : Int32) (σ : Mm) (μ : Ms) (hL : LM σ a) (g0 : y0 = 0 ∨ y0 = 1) : run d 117 25 [.ref a, .int (x1), .int (x2)] [.int (y0)] (put σ a μ) = some (some (.int (y0)), (put σ a μ)) := by
  have e := e_M_isNight_25 d a x1 x2 y0 (put σ a μ) (by simpa only [ar, va_rf, vd, put_F, put_sF] using g0)
  simpa only [ar, va_rf, vd, put_F, put_sF] using e
theorem q_M_isStop_0 (d : Nat) (a : Nat) (x1 : Int32) (σ : Mm) (μ : Ms) (hL : LM σ a)  : run d 118 0 [.ref a, .int (x1)] [] (put σ a μ) = if x1 < 0 then run d 118 16 [.ref a, .int (x1)] [] (put σ a μ) else run d 118 4 [.ref a, .int (x1)] [] (put σ a μ) := by
  have e := e_M_isStop_0 d a x1 (put σ a μ) 
  simpa only [ar, va_rf, vd, put_F, put_sF] using e
theorem q_M_isStop_4 (d : Nat) (a : Nat) (x1 : Int32) (σ : Mm) (μ : Ms) (hL : LM σ a)  : run d 118 4 [.ref a, .int (x1)] [] (put σ a μ) = if (μ.1 2) ≤ x1 then run d 118 16 [.ref a, .int (x1)] [] (put σ a μ) else run d 118 12 [.ref a, .int (x1)] [] (put σ a μ) := by
  have e := e_M_isStop_4 d a x1 (put σ a μ) (hL.K μ)
  simpa only [ar, va_rf, vd, put_F, put_sF] using e
theorem q_M_isStop_12 (d : Nat) (a : Nat) (x1 : Int32) (σ : Mm) (μ : Ms) (hL : LM σ a)  : run d 118 12 [.ref a, .int (x1)] [] (put σ a μ) = run d 118 17 [.ref a, .int (x1)] [.int (1)] (put σ a μ) := by
  have e := e_M_isStop_12 d a x1 (put σ a μ) 
  simpa only [ar, va_rf, vd, put_F, put_sF] using e
theorem q_M_isStop_16 (d : Nat) (a : Nat) (x1 : Int32) (σ : Mm) (μ : Ms) (hL : LM σ a)  : run d 118 16 [.ref a, .int (x1)] [] (put σ a μ) = run d 118 17 [.ref a, .int (x1)] [.int (0)] (put σ a μ) := by
  have e := e_M_isStop_16 d a x1 (put σ a μ) 
  simpa only [ar, va_rf, vd, put_F, put_sF] using e
theorem q_M_isStop_17 (d : Nat) (a : Nat) (x1 : Int32) (y0 : Int32) (σ : Mm) (μ : Ms) (hL : LM σ a) (g0 : y0 = 0 ∨ y0 = 1) : run d 118 17 [.ref a, .int (x1)] [.int (y0)] (put σ a μ) = some (some (.int (y0)), (put σ a μ)) := by
  have e := e_M_isStop_17 d a x1 y0 (put σ a μ) (by simpa only [ar, va_rf, vd, put_F, put_sF] using g0)
  simpa only [ar, va_rf, vd, put_F, put_sF] using e
theorem q_M_isLeg_0 (d : Nat) (a : Nat) (x1 : Int32) (σ : Mm) (μ : Ms) (hL : LM σ a)  : run d 119 0 [.ref a, .int (x1)] [] (put σ a μ) = if x1 < 0 then run d 119 16 [.ref a, .int (x1)] [] (put σ a μ) else run d 119 4 [.ref a, .int (x1)] [] (put σ a μ) := by
  have e := e_M_isLeg_0 d a x1 (put σ a μ) 
  simpa only [ar, va_rf, vd, put_F, put_sF] using e
theorem q_M_isLeg_4 (d : Nat) (a : Nat) (x1 : Int32) (σ : Mm) (μ : Ms) (hL : LM σ a)  : run d 119 4 [.ref a, .int (x1)] [] (put σ a μ) = if (μ.1 7) ≤ x1 then run d 119 16 [.ref a, .int (x1)] [] (put σ a μ) else run d 119 12 [.ref a, .int (x1)] [] (put σ a μ) := by
  have e := e_M_isLeg_4 d a x1 (put σ a μ) (hL.K μ)
  simpa only [ar, va_rf, vd, put_F, put_sF] using e
theorem q_M_isLeg_12 (d : Nat) (a : Nat) (x1 : Int32) (σ : Mm) (μ : Ms) (hL : LM σ a)  : run d 119 12 [.ref a, .int (x1)] [] (put σ a μ) = run d 119 17 [.ref a, .int (x1)] [.int (1)] (put σ a μ) := by
  have e := e_M_isLeg_12 d a x1 (put σ a μ) 
  simpa only [ar, va_rf, vd, put_F, put_sF] using e
theorem q_M_isLeg_16 (d : Nat) (a : Nat) (x1 : Int32) (σ : Mm) (μ : Ms) (hL : LM σ a)  : run d 119 16 [.ref a, .int (x1)] [] (put σ a μ) = run d 119 17 [.ref a, .int (x1)] [.int (0)] (put σ a μ) := by
  have e := e_M_isLeg_16 d a x1 (put σ a μ) 
  simpa only [ar, va_rf, vd, put_F, put_sF] using e
theorem q_M_isLeg_17 (d : Nat) (a : Nat) (x1 : Int32) (y0 : Int32) (σ : Mm) (μ : Ms) (hL : LM σ a) (g0 : y0 = 0 ∨ y0 = 1) : run d 119 17 [.ref a, .int (x1)] [.int (y0)] (put σ a μ) = some (some (.int (y0)), (put σ a μ)) := by
  have e := e_M_isLeg_17 d a x1 y0 (put σ a μ) (by simpa only [ar, va_rf, vd, put_F, put_sF] using g0)
  simpa only [ar, va_rf, vd, put_F, put_sF] using e
theorem q_M_stop_0 (d : Nat) (a : Nat) (x1 : Int32) (x2 : Int32) (x3 : Int32) (σ : Mm) (μ : Ms) (hL : LM σ a)  : run d 120 0 [.ref a, .int (x1), .int (x2), .int (x3)] [] (put σ a μ) = run d 120 5 [.ref a, .int (x1), .int (x2), .int (x3)] [] (put σ a (fF μ 0 0)) := by
  have e := e_M_stop_0 d a x1 x2 x3 (put σ a μ) (hL.K μ)
  simpa only [ar, va_rf, vd, put_F, put_sF] using e
theorem q_M_stop_5 (d : Nat) (a : Nat) (x1 : Int32) (x2 : Int32) (x3 : Int32) (σ : Mm) (μ : Ms) (hL : LM σ a)  : run d 120 5 [.ref a, .int (x1), .int (x2), .int (x3)] [] (put σ a μ) = if (μ.1 2) = 12 then run d 120 33 [.ref a, .int (x1), .int (x2), .int (x3)] [] (put σ a μ) else run d 120 14 [.ref a, .int (x1), .int (x2), .int (x3)] [] (put σ a μ) := by
  have e := e_M_stop_5 d a x1 x2 x3 (put σ a μ) (hL.K μ)
  simpa only [ar, va_rf, vd, put_F, put_sF] using e
theorem q_M_stop_14 (d : Nat) (a : Nat) (x1 : Int32) (x2 : Int32) (x3 : Int32) (σ : Mm) (μ : Ms) (hL : LM σ a)  : run (d + 1) 120 14 [.ref a, .int (x1), .int (x2), .int (x3)] [] (put σ a μ) = (runc d 115 [.int (x1), .int (1), .int (4)] (put σ a μ)).bind (fun q => run (d + 1) 120 20 [.ref a, .int (x1), .int (x2), .int (x3)] (psh q.1 []) q.2) := by
  have e := e_M_stop_14 d a x1 x2 x3 (put σ a μ) 
  simpa only [ar, va_rf, vd, put_F, put_sF] using e
theorem q_M_stop_20 (d : Nat) (a : Nat) (x1 : Int32) (x2 : Int32) (x3 : Int32) (y0 : Int32) (σ : Mm) (μ : Ms) (hL : LM σ a)  : run d 120 20 [.ref a, .int (x1), .int (x2), .int (x3)] [.int (y0)] (put σ a μ) = if y0 = 0 then run d 120 33 [.ref a, .int (x1), .int (x2), .int (x3)] [] (put σ a μ) else run d 120 23 [.ref a, .int (x1), .int (x2), .int (x3)] [] (put σ a μ) := by
  have e := e_M_stop_20 d a x1 x2 x3 y0 (put σ a μ) 
  simpa only [ar, va_rf, vd, put_F, put_sF] using e
theorem q_M_stop_23 (d : Nat) (a : Nat) (x1 : Int32) (x2 : Int32) (x3 : Int32) (σ : Mm) (μ : Ms) (hL : LM σ a)  : run (d + 1) 120 23 [.ref a, .int (x1), .int (x2), .int (x3)] [] (put σ a μ) = (runc d 115 [.int (x2), .int (0), .int (60)] (put σ a μ)).bind (fun q => run (d + 1) 120 30 [.ref a, .int (x1), .int (x2), .int (x3)] (psh q.1 []) q.2) := by
  have e := e_M_stop_23 d a x1 x2 x3 (put σ a μ) 
  simpa only [ar, va_rf, vd, put_F, put_sF] using e
theorem q_M_stop_30 (d : Nat) (a : Nat) (x1 : Int32) (x2 : Int32) (x3 : Int32) (y0 : Int32) (σ : Mm) (μ : Ms) (hL : LM σ a)  : run d 120 30 [.ref a, .int (x1), .int (x2), .int (x3)] [.int (y0)] (put σ a μ) = if ¬ y0 = 0 then run d 120 35 [.ref a, .int (x1), .int (x2), .int (x3)] [] (put σ a μ) else run d 120 33 [.ref a, .int (x1), .int (x2), .int (x3)] [] (put σ a μ) := by
  have e := e_M_stop_30 d a x1 x2 x3 y0 (put σ a μ) 
  simpa only [ar, va_rf, vd, put_F, put_sF] using e
theorem q_M_stop_33 (d : Nat) (a : Nat) (x1 : Int32) (x2 : Int32) (x3 : Int32) (σ : Mm) (μ : Ms) (hL : LM σ a)  : run d 120 33 [.ref a, .int (x1), .int (x2), .int (x3)] [] (put σ a μ) = some (some (.int ((-1))), (put σ a μ)) := by
  have e := e_M_stop_33 d a x1 x2 x3 (put σ a μ) 
  simpa only [ar, va_rf, vd, put_F, put_sF] using e
theorem q_M_stop_35 (d : Nat) (a : Nat) (x1 : Int32) (x2 : Int32) (x3 : Int32) (σ : Mm) (μ : Ms) (hL : LM σ a) (g0 : ix (μ.1 2) 12 = true) : run d 120 35 [.ref a, .int (x1), .int (x2), .int (x3)] [] (put σ a μ) = run d 120 45 [.ref a, .int (x1), .int (x2), .int (x3)] [] (put σ a (fA μ 3 ((μ.1 2 : Int32).toNatClampNeg) x1)) := by
  have e := e_M_stop_35 d a x1 x2 x3 (put σ a μ) (hL.K μ) (by simp only [ar, va_rf, vd, put_F, put_sF, pP_3 hL, pK_3 hL, pN_3 hL, pA_3, pS_3]; rfl) (by simp only [ar, va_rf, vd, put_F, put_sF, pP_3 hL, pK_3 hL, pN_3 hL, pA_3, pS_3]; rfl) (by simpa only [ar, va_rf, vd, put_F, put_sF, pP_3 hL, pK_3 hL, pN_3 hL, pA_3, pS_3] using g0)
  simpa only [ar, va_rf, vd, put_F, put_sF, pP_3 hL, pK_3 hL, pN_3 hL, pA_3, pS_3] using e
theorem q_M_stop_45 (d : Nat) (a : Nat) (x1 : Int32) (x2 : Int32) (x3 : Int32) (σ : Mm) (μ : Ms) (hL : LM σ a) (g0 : ix (μ.1 2) 12 = true) : run d 120 45 [.ref a, .int (x1), .int (x2), .int (x3)] [] (put σ a μ) = run d 120 55 [.ref a, .int (x1), .int (x2), .int (x3)] [] (put σ a (fA μ 4 ((μ.1 2 : Int32).toNatClampNeg) x2)) := by
  have e := e_M_stop_45 d a x1 x2 x3 (put σ a μ) (hL.K μ) (by simp only [ar, va_rf, vd, put_F, put_sF, pP_4 hL, pK_4 hL, pN_4 hL, pA_4, pS_4]; rfl) (by simp only [ar, va_rf, vd, put_F, put_sF, pP_4 hL, pK_4 hL, pN_4 hL, pA_4, pS_4]; rfl) (by simpa only [ar, va_rf, vd, put_F, put_sF, pP_4 hL, pK_4 hL, pN_4 hL, pA_4, pS_4] using g0)
  simpa only [ar, va_rf, vd, put_F, put_sF, pP_4 hL, pK_4 hL, pN_4 hL, pA_4, pS_4] using e
theorem q_M_stop_55 (d : Nat) (a : Nat) (x1 : Int32) (x2 : Int32) (x3 : Int32) (σ : Mm) (μ : Ms) (hL : LM σ a) (g0 : (x3 : Int32) = 0 ∨ x3 = 1) (g1 : ix (μ.1 2) 12 = true) : run d 120 55 [.ref a, .int (x1), .int (x2), .int (x3)] [] (put σ a μ) = run d 120 65 [.ref a, .int (x1), .int (x2), .int (x3)] [] (put σ a (fA μ 5 ((μ.1 2 : Int32).toNatClampNeg) x3)) := by
  have e := e_M_stop_55 d a x1 x2 x3 (put σ a μ) (hL.K μ) (by simp only [ar, va_rf, vd, put_F, put_sF, pP_5 hL, pK_5 hL, pN_5 hL, pA_5, pS_5]; rfl) (by simp only [ar, va_rf, vd, put_F, put_sF, pP_5 hL, pK_5 hL, pN_5 hL, pA_5, pS_5]; rfl) (by simpa only [ar, va_rf, vd, put_F, put_sF, pP_5 hL, pK_5 hL, pN_5 hL, pA_5, pS_5] using g0) (by simpa only [ar, va_rf, vd, put_F, put_sF, pP_5 hL, pK_5 hL, pN_5 hL, pA_5, pS_5] using g1)
  simpa only [ar, va_rf, vd, put_F, put_sF, pP_5 hL, pK_5 hL, pN_5 hL, pA_5, pS_5] using e
theorem q_M_stop_65 (d : Nat) (a : Nat) (x1 : Int32) (x2 : Int32) (x3 : Int32) (σ : Mm) (μ : Ms) (hL : LM σ a)  : run d 120 65 [.ref a, .int (x1), .int (x2), .int (x3)] [] (put σ a μ) = run d 120 75 [.ref a, .int (x1), .int (x2), .int (x3)] [] (put σ a (fF μ 2 ((μ.1 2) + 1))) := by
  have e := e_M_stop_65 d a x1 x2 x3 (put σ a μ) (hL.K μ)
  simpa only [ar, va_rf, vd, put_F, put_sF] using e
theorem q_M_stop_75 (d : Nat) (a : Nat) (x1 : Int32) (x2 : Int32) (x3 : Int32) (σ : Mm) (μ : Ms) (hL : LM σ a)  : run d 120 75 [.ref a, .int (x1), .int (x2), .int (x3)] [] (put σ a μ) = some (some (.int ((μ.1 2) - 1)), (put σ a μ)) := by
  have e := e_M_stop_75 d a x1 x2 x3 (put σ a μ) (hL.K μ)
  simpa only [ar, va_rf, vd, put_F, put_sF] using e
theorem q_M_leg_0 (d : Nat) (a : Nat) (x1 : Int32) (x2 : Int32) (x3 : Int32) (σ : Mm) (μ : Ms) (hL : LM σ a)  : run d 121 0 [.ref a, .int (x1), .int (x2), .int (x3)] [] (put σ a μ) = run d 121 5 [.ref a, .int (x1), .int (x2), .int (x3)] [] (put σ a (fF μ 0 0)) := by
  have e := e_M_leg_0 d a x1 x2 x3 (put σ a μ) (hL.K μ)
  simpa only [ar, va_rf, vd, put_F, put_sF] using e
theorem q_M_leg_5 (d : Nat) (a : Nat) (x1 : Int32) (x2 : Int32) (x3 : Int32) (σ : Mm) (μ : Ms) (hL : LM σ a)  : run d 121 5 [.ref a, .int (x1), .int (x2), .int (x3)] [] (put σ a μ) = if (μ.1 7) = 30 then run d 121 47 [.ref a, .int (x1), .int (x2), .int (x3)] [] (put σ a μ) else run d 121 14 [.ref a, .int (x1), .int (x2), .int (x3)] [] (put σ a μ) := by
  have e := e_M_leg_5 d a x1 x2 x3 (put σ a μ) (hL.K μ)
  simpa only [ar, va_rf, vd, put_F, put_sF] using e
theorem q_M_leg_14 (d : Nat) (a : Nat) (x1 : Int32) (x2 : Int32) (x3 : Int32) (σ : Mm) (μ : Ms) (hL : LM σ a)  : run (d + 1) 121 14 [.ref a, .int (x1), .int (x2), .int (x3)] [] (put σ a μ) = (runc d 118 [.ref a, .int (x1)] (put σ a μ)).bind (fun q => run (d + 1) 121 19 [.ref a, .int (x1), .int (x2), .int (x3)] (psh q.1 []) q.2) := by
  have e := e_M_leg_14 d a x1 x2 x3 (put σ a μ) (hL.K μ)
  simpa only [ar, va_rf, vd, put_F, put_sF] using e
theorem q_M_leg_19 (d : Nat) (a : Nat) (x1 : Int32) (x2 : Int32) (x3 : Int32) (y0 : Int32) (σ : Mm) (μ : Ms) (hL : LM σ a)  : run d 121 19 [.ref a, .int (x1), .int (x2), .int (x3)] [.int (y0)] (put σ a μ) = if y0 = 0 then run d 121 47 [.ref a, .int (x1), .int (x2), .int (x3)] [] (put σ a μ) else run d 121 22 [.ref a, .int (x1), .int (x2), .int (x3)] [] (put σ a μ) := by
  have e := e_M_leg_19 d a x1 x2 x3 y0 (put σ a μ) 
  simpa only [ar, va_rf, vd, put_F, put_sF] using e
theorem q_M_leg_22 (d : Nat) (a : Nat) (x1 : Int32) (x2 : Int32) (x3 : Int32) (σ : Mm) (μ : Ms) (hL : LM σ a)  : run (d + 1) 121 22 [.ref a, .int (x1), .int (x2), .int (x3)] [] (put σ a μ) = (runc d 118 [.ref a, .int (x2)] (put σ a μ)).bind (fun q => run (d + 1) 121 27 [.ref a, .int (x1), .int (x2), .int (x3)] (psh q.1 []) q.2) := by
  have e := e_M_leg_22 d a x1 x2 x3 (put σ a μ) (hL.K μ)
  simpa only [ar, va_rf, vd, put_F, put_sF] using e
theorem q_M_leg_27 (d : Nat) (a : Nat) (x1 : Int32) (x2 : Int32) (x3 : Int32) (y0 : Int32) (σ : Mm) (μ : Ms) (hL : LM σ a)  : run d 121 27 [.ref a, .int (x1), .int (x2), .int (x3)] [.int (y0)] (put σ a μ) = if y0 = 0 then run d 121 47 [.ref a, .int (x1), .int (x2), .int (x3)] [] (put σ a μ) else run d 121 30 [.ref a, .int (x1), .int (x2), .int (x3)] [] (put σ a μ) := by
  have e := e_M_leg_27 d a x1 x2 x3 y0 (put σ a μ) 
  simpa only [ar, va_rf, vd, put_F, put_sF] using e
theorem q_M_leg_30 (d : Nat) (a : Nat) (x1 : Int32) (x2 : Int32) (x3 : Int32) (σ : Mm) (μ : Ms) (hL : LM σ a)  : run d 121 30 [.ref a, .int (x1), .int (x2), .int (x3)] [] (put σ a μ) = if x1 = x2 then run d 121 47 [.ref a, .int (x1), .int (x2), .int (x3)] [] (put σ a μ) else run d 121 35 [.ref a, .int (x1), .int (x2), .int (x3)] [] (put σ a μ) := by
  have e := e_M_leg_30 d a x1 x2 x3 (put σ a μ) 
  simpa only [ar, va_rf, vd, put_F, put_sF] using e
theorem q_M_leg_35 (d : Nat) (a : Nat) (x1 : Int32) (x2 : Int32) (x3 : Int32) (σ : Mm) (μ : Ms) (hL : LM σ a)  : run (d + 1) 121 35 [.ref a, .int (x1), .int (x2), .int (x3)] [] (put σ a μ) = (runc d 115 [.int (x3), .int (20), .int (900)] (put σ a μ)).bind (fun q => run (d + 1) 121 44 [.ref a, .int (x1), .int (x2), .int (x3)] (psh q.1 []) q.2) := by
  have e := e_M_leg_35 d a x1 x2 x3 (put σ a μ) 
  simpa only [ar, va_rf, vd, put_F, put_sF] using e
theorem q_M_leg_44 (d : Nat) (a : Nat) (x1 : Int32) (x2 : Int32) (x3 : Int32) (y0 : Int32) (σ : Mm) (μ : Ms) (hL : LM σ a)  : run d 121 44 [.ref a, .int (x1), .int (x2), .int (x3)] [.int (y0)] (put σ a μ) = if ¬ y0 = 0 then run d 121 49 [.ref a, .int (x1), .int (x2), .int (x3)] [] (put σ a μ) else run d 121 47 [.ref a, .int (x1), .int (x2), .int (x3)] [] (put σ a μ) := by
  have e := e_M_leg_44 d a x1 x2 x3 y0 (put σ a μ) 
  simpa only [ar, va_rf, vd, put_F, put_sF] using e
theorem q_M_leg_47 (d : Nat) (a : Nat) (x1 : Int32) (x2 : Int32) (x3 : Int32) (σ : Mm) (μ : Ms) (hL : LM σ a)  : run d 121 47 [.ref a, .int (x1), .int (x2), .int (x3)] [] (put σ a μ) = some (some (.int ((-1))), (put σ a μ)) := by
  have e := e_M_leg_47 d a x1 x2 x3 (put σ a μ) 
  simpa only [ar, va_rf, vd, put_F, put_sF] using e
theorem q_M_leg_49 (d : Nat) (a : Nat) (x1 : Int32) (x2 : Int32) (x3 : Int32) (σ : Mm) (μ : Ms) (hL : LM σ a) (g0 : ix (μ.1 7) 30 = true) : run d 121 49 [.ref a, .int (x1), .int (x2), .int (x3)] [] (put σ a μ) = run d 121 59 [.ref a, .int (x1), .int (x2), .int (x3)] [] (put σ a (fA μ 8 ((μ.1 7 : Int32).toNatClampNeg) x1)) := by
  have e := e_M_leg_49 d a x1 x2 x3 (put σ a μ) (hL.K μ) (by simp only [ar, va_rf, vd, put_F, put_sF, pP_8 hL, pK_8 hL, pN_8 hL, pA_8, pS_8]; rfl) (by simp only [ar, va_rf, vd, put_F, put_sF, pP_8 hL, pK_8 hL, pN_8 hL, pA_8, pS_8]; rfl) (by simpa only [ar, va_rf, vd, put_F, put_sF, pP_8 hL, pK_8 hL, pN_8 hL, pA_8, pS_8] using g0)
  simpa only [ar, va_rf, vd, put_F, put_sF, pP_8 hL, pK_8 hL, pN_8 hL, pA_8, pS_8] using e
theorem q_M_leg_59 (d : Nat) (a : Nat) (x1 : Int32) (x2 : Int32) (x3 : Int32) (σ : Mm) (μ : Ms) (hL : LM σ a) (g0 : ix (μ.1 7) 30 = true) : run d 121 59 [.ref a, .int (x1), .int (x2), .int (x3)] [] (put σ a μ) = run d 121 69 [.ref a, .int (x1), .int (x2), .int (x3)] [] (put σ a (fA μ 9 ((μ.1 7 : Int32).toNatClampNeg) x2)) := by
  have e := e_M_leg_59 d a x1 x2 x3 (put σ a μ) (hL.K μ) (by simp only [ar, va_rf, vd, put_F, put_sF, pP_9 hL, pK_9 hL, pN_9 hL, pA_9, pS_9]; rfl) (by simp only [ar, va_rf, vd, put_F, put_sF, pP_9 hL, pK_9 hL, pN_9 hL, pA_9, pS_9]; rfl) (by simpa only [ar, va_rf, vd, put_F, put_sF, pP_9 hL, pK_9 hL, pN_9 hL, pA_9, pS_9] using g0)
  simpa only [ar, va_rf, vd, put_F, put_sF, pP_9 hL, pK_9 hL, pN_9 hL, pA_9, pS_9] using e
theorem q_M_leg_69 (d : Nat) (a : Nat) (x1 : Int32) (x2 : Int32) (x3 : Int32) (σ : Mm) (μ : Ms) (hL : LM σ a) (g0 : ix (μ.1 7) 30 = true) : run d 121 69 [.ref a, .int (x1), .int (x2), .int (x3)] [] (put σ a μ) = run d 121 79 [.ref a, .int (x1), .int (x2), .int (x3)] [] (put σ a (fA μ 10 ((μ.1 7 : Int32).toNatClampNeg) x3)) := by
  have e := e_M_leg_69 d a x1 x2 x3 (put σ a μ) (hL.K μ) (by simp only [ar, va_rf, vd, put_F, put_sF, pP_10 hL, pK_10 hL, pN_10 hL, pA_10, pS_10]; rfl) (by simp only [ar, va_rf, vd, put_F, put_sF, pP_10 hL, pK_10 hL, pN_10 hL, pA_10, pS_10]; rfl) (by simpa only [ar, va_rf, vd, put_F, put_sF, pP_10 hL, pK_10 hL, pN_10 hL, pA_10, pS_10] using g0)
  simpa only [ar, va_rf, vd, put_F, put_sF, pP_10 hL, pK_10 hL, pN_10 hL, pA_10, pS_10] using e
theorem q_M_leg_79 (d : Nat) (a : Nat) (x1 : Int32) (x2 : Int32) (x3 : Int32) (σ : Mm) (μ : Ms) (hL : LM σ a)  : run d 121 79 [.ref a, .int (x1), .int (x2), .int (x3)] [] (put σ a μ) = run d 121 89 [.ref a, .int (x1), .int (x2), .int (x3)] [] (put σ a (fF μ 7 ((μ.1 7) + 1))) := by
  have e := e_M_leg_79 d a x1 x2 x3 (put σ a μ) (hL.K μ)
  simpa only [ar, va_rf, vd, put_F, put_sF] using e
theorem q_M_leg_89 (d : Nat) (a : Nat) (x1 : Int32) (x2 : Int32) (x3 : Int32) (σ : Mm) (μ : Ms) (hL : LM σ a)  : run d 121 89 [.ref a, .int (x1), .int (x2), .int (x3)] [] (put σ a μ) = some (some (.int ((μ.1 7) - 1)), (put σ a μ)) := by
  have e := e_M_leg_89 d a x1 x2 x3 (put σ a μ) (hL.K μ)
  simpa only [ar, va_rf, vd, put_F, put_sF] using e
theorem q_M_drums_0 (d : Nat) (a : Nat) (x1 : Int32) (x2 : Int32) (σ : Mm) (μ : Ms) (hL : LM σ a)  : run d 122 0 [.ref a, .int (x1), .int (x2)] [] (put σ a μ) = run d 122 5 [.ref a, .int (x1), .int (x2)] [] (put σ a (fF μ 0 0)) := by
  have e := e_M_drums_0 d a x1 x2 (put σ a μ) (hL.K μ)
  simpa only [ar, va_rf, vd, put_F, put_sF] using e
theorem q_M_drums_5 (d : Nat) (a : Nat) (x1 : Int32) (x2 : Int32) (σ : Mm) (μ : Ms) (hL : LM σ a)  : run (d + 1) 122 5 [.ref a, .int (x1), .int (x2)] [] (put σ a μ) = (runc d 118 [.ref a, .int (x1)] (put σ a μ)).bind (fun q => run (d + 1) 122 10 [.ref a, .int (x1), .int (x2)] (psh q.1 []) q.2) := by
  have e := e_M_drums_5 d a x1 x2 (put σ a μ) (hL.K μ)
  simpa only [ar, va_rf, vd, put_F, put_sF] using e
theorem q_M_drums_10 (d : Nat) (a : Nat) (x1 : Int32) (x2 : Int32) (y0 : Int32) (σ : Mm) (μ : Ms) (hL : LM σ a)  : run d 122 10 [.ref a, .int (x1), .int (x2)] [.int (y0)] (put σ a μ) = if y0 = 0 then run d 122 38 [.ref a, .int (x1), .int (x2)] [] (put σ a μ) else run d 122 13 [.ref a, .int (x1), .int (x2)] [] (put σ a μ) := by
  have e := e_M_drums_10 d a x1 x2 y0 (put σ a μ) 
  simpa only [ar, va_rf, vd, put_F, put_sF] using e
theorem q_M_drums_13 (d : Nat) (a : Nat) (x1 : Int32) (x2 : Int32) (σ : Mm) (μ : Ms) (hL : LM σ a)  : run (d + 1) 122 13 [.ref a, .int (x1), .int (x2)] [] (put σ a μ) = (runc d 115 [.int (x2), .int (1), .int (999)] (put σ a μ)).bind (fun q => run (d + 1) 122 21 [.ref a, .int (x1), .int (x2)] (psh q.1 []) q.2) := by
  have e := e_M_drums_13 d a x1 x2 (put σ a μ) 
  simpa only [ar, va_rf, vd, put_F, put_sF] using e
theorem q_M_drums_21 (d : Nat) (a : Nat) (x1 : Int32) (x2 : Int32) (y0 : Int32) (σ : Mm) (μ : Ms) (hL : LM σ a)  : run d 122 21 [.ref a, .int (x1), .int (x2)] [.int (y0)] (put σ a μ) = if y0 = 0 then run d 122 38 [.ref a, .int (x1), .int (x2)] [] (put σ a μ) else run d 122 24 [.ref a, .int (x1), .int (x2)] [] (put σ a μ) := by
  have e := e_M_drums_21 d a x1 x2 y0 (put σ a μ) 
  simpa only [ar, va_rf, vd, put_F, put_sF] using e
theorem q_M_drums_24 (d : Nat) (a : Nat) (x1 : Int32) (x2 : Int32) (σ : Mm) (μ : Ms) (hL : LM σ a) (g0 : ix x1 12 = true) : run d 122 24 [.ref a, .int (x1), .int (x2)] [] (put σ a μ) = if ((μ.2 6 (x1 : Int32).toNatClampNeg) + x2) ≤ 999 then run d 122 40 [.ref a, .int (x1), .int (x2)] [] (put σ a μ) else run d 122 38 [.ref a, .int (x1), .int (x2)] [] (put σ a μ) := by
  have e := e_M_drums_24 d a x1 x2 (put σ a μ) (hL.K μ) (by simp only [ar, va_rf, vd, put_F, put_sF, pP_6 hL, pK_6 hL, pN_6 hL, pA_6, pS_6]; rfl) (by simp only [ar, va_rf, vd, put_F, put_sF, pP_6 hL, pK_6 hL, pN_6 hL, pA_6, pS_6]; rfl) (by simpa only [ar, va_rf, vd, put_F, put_sF, pP_6 hL, pK_6 hL, pN_6 hL, pA_6, pS_6] using g0)
  simpa only [ar, va_rf, vd, put_F, put_sF, pP_6 hL, pK_6 hL, pN_6 hL, pA_6, pS_6] using e
theorem q_M_drums_38 (d : Nat) (a : Nat) (x1 : Int32) (x2 : Int32) (σ : Mm) (μ : Ms) (hL : LM σ a)  : run d 122 38 [.ref a, .int (x1), .int (x2)] [] (put σ a μ) = some (some (.int ((-1))), (put σ a μ)) := by
  have e := e_M_drums_38 d a x1 x2 (put σ a μ) 
  simpa only [ar, va_rf, vd, put_F, put_sF] using e
theorem q_M_drums_40 (d : Nat) (a : Nat) (x1 : Int32) (x2 : Int32) (σ : Mm) (μ : Ms) (hL : LM σ a) (g0 : ix x1 12 = true) : run d 122 40 [.ref a, .int (x1), .int (x2)] [] (put σ a μ) = run d 122 50 [.ref a, .int (x1), .int (x2)] [] (put σ a (fA μ 6 ((x1 : Int32).toNatClampNeg) ((μ.2 6 (x1 : Int32).toNatClampNeg) + x2))) := by
  have e := e_M_drums_40 d a x1 x2 (put σ a μ) (hL.K μ) (by simp only [ar, va_rf, vd, put_F, put_sF, pP_6 hL, pK_6 hL, pN_6 hL, pA_6, pS_6]; rfl) (by simp only [ar, va_rf, vd, put_F, put_sF, pP_6 hL, pK_6 hL, pN_6 hL, pA_6, pS_6]; rfl) (by simp only [ar, va_rf, vd, put_F, put_sF, pP_6 hL, pK_6 hL, pN_6 hL, pA_6, pS_6]; rfl) (by simpa only [ar, va_rf, vd, put_F, put_sF, pP_6 hL, pK_6 hL, pN_6 hL, pA_6, pS_6] using g0)
  simpa only [ar, va_rf, vd, put_F, put_sF, pP_6 hL, pK_6 hL, pN_6 hL, pA_6, pS_6] using e
theorem q_M_drums_50 (d : Nat) (a : Nat) (x1 : Int32) (x2 : Int32) (σ : Mm) (μ : Ms) (hL : LM σ a) (g0 : ix x1 12 = true) : run d 122 50 [.ref a, .int (x1), .int (x2)] [] (put σ a μ) = some (some (.int (μ.2 6 (x1 : Int32).toNatClampNeg)), (put σ a μ)) := by
  have e := e_M_drums_50 d a x1 x2 (put σ a μ) (hL.K μ) (by simp only [ar, va_rf, vd, put_F, put_sF, pP_6 hL, pK_6 hL, pN_6 hL, pA_6, pS_6]; rfl) (by simp only [ar, va_rf, vd, put_F, put_sF, pP_6 hL, pK_6 hL, pN_6 hL, pA_6, pS_6]; rfl) (by simpa only [ar, va_rf, vd, put_F, put_sF, pP_6 hL, pK_6 hL, pN_6 hL, pA_6, pS_6] using g0)
  simpa only [ar, va_rf, vd, put_F, put_sF, pP_6 hL, pK_6 hL, pN_6 hL, pA_6, pS_6] using e
theorem q_M_tells_0 (d : Nat) (a : Nat) (x1 : Int32) (x2 : Int32) (x3 : Int32) (x4 : Int32) (σ : Mm) (μ : Ms) (hL : LM σ a)  : run d 123 0 [.ref a, .int (x1), .int (x2), .int (x3), .int (x4)] [] (put σ a μ) = if ¬ (μ.1 11) = 160 then run d 123 12 [.ref a, .int (x1), .int (x2), .int (x3), .int (x4)] [] (put σ a μ) else run d 123 10 [.ref a, .int (x1), .int (x2), .int (x3), .int (x4)] [] (put σ a μ) := by
  have e := e_M_tells_0 d a x1 x2 x3 x4 (put σ a μ) (hL.K μ)
  simpa only [ar, va_rf, vd, put_F, put_sF] using e
theorem q_M_tells_10 (d : Nat) (a : Nat) (x1 : Int32) (x2 : Int32) (x3 : Int32) (x4 : Int32) (σ : Mm) (μ : Ms) (hL : LM σ a)  : run d 123 10 [.ref a, .int (x1), .int (x2), .int (x3), .int (x4)] [] (put σ a μ) = some (some (.int ((-1))), (put σ a μ)) := by
  have e := e_M_tells_10 d a x1 x2 x3 x4 (put σ a μ) 
  simpa only [ar, va_rf, vd, put_F, put_sF] using e
theorem q_M_tells_12 (d : Nat) (a : Nat) (x1 : Int32) (x2 : Int32) (x3 : Int32) (x4 : Int32) (σ : Mm) (μ : Ms) (hL : LM σ a) (g0 : (x1 : Int32) = 0 ∨ x1 = 1) (g1 : ix (μ.1 11) 160 = true) : run d 123 12 [.ref a, .int (x1), .int (x2), .int (x3), .int (x4)] [] (put σ a μ) = run d 123 22 [.ref a, .int (x1), .int (x2), .int (x3), .int (x4)] [] (put σ a (fA μ 12 ((μ.1 11 : Int32).toNatClampNeg) x1)) := by
  have e := e_M_tells_12 d a x1 x2 x3 x4 (put σ a μ) (hL.K μ) (by simp only [ar, va_rf, vd, put_F, put_sF, pP_12 hL, pK_12 hL, pN_12 hL, pA_12, pS_12]; rfl) (by simp only [ar, va_rf, vd, put_F, put_sF, pP_12 hL, pK_12 hL, pN_12 hL, pA_12, pS_12]; rfl) (by simpa only [ar, va_rf, vd, put_F, put_sF, pP_12 hL, pK_12 hL, pN_12 hL, pA_12, pS_12] using g0) (by simpa only [ar, va_rf, vd, put_F, put_sF, pP_12 hL, pK_12 hL, pN_12 hL, pA_12, pS_12] using g1)
  simpa only [ar, va_rf, vd, put_F, put_sF, pP_12 hL, pK_12 hL, pN_12 hL, pA_12, pS_12] using e
theorem q_M_tells_22 (d : Nat) (a : Nat) (x1 : Int32) (x2 : Int32) (x3 : Int32) (x4 : Int32) (σ : Mm) (μ : Ms) (hL : LM σ a) (g0 : ix (μ.1 11) 160 = true) : run d 123 22 [.ref a, .int (x1), .int (x2), .int (x3), .int (x4)] [] (put σ a μ) = run d 123 32 [.ref a, .int (x1), .int (x2), .int (x3), .int (x4)] [] (put σ a (fA μ 13 ((μ.1 11 : Int32).toNatClampNeg) x2)) := by
  have e := e_M_tells_22 d a x1 x2 x3 x4 (put σ a μ) (hL.K μ) (by simp only [ar, va_rf, vd, put_F, put_sF, pP_13 hL, pK_13 hL, pN_13 hL, pA_13, pS_13]; rfl) (by simp only [ar, va_rf, vd, put_F, put_sF, pP_13 hL, pK_13 hL, pN_13 hL, pA_13, pS_13]; rfl) (by simpa only [ar, va_rf, vd, put_F, put_sF, pP_13 hL, pK_13 hL, pN_13 hL, pA_13, pS_13] using g0)
  simpa only [ar, va_rf, vd, put_F, put_sF, pP_13 hL, pK_13 hL, pN_13 hL, pA_13, pS_13] using e
theorem q_M_tells_32 (d : Nat) (a : Nat) (x1 : Int32) (x2 : Int32) (x3 : Int32) (x4 : Int32) (σ : Mm) (μ : Ms) (hL : LM σ a) (g0 : ix (μ.1 11) 160 = true) : run d 123 32 [.ref a, .int (x1), .int (x2), .int (x3), .int (x4)] [] (put σ a μ) = run d 123 42 [.ref a, .int (x1), .int (x2), .int (x3), .int (x4)] [] (put σ a (fA μ 14 ((μ.1 11 : Int32).toNatClampNeg) x3)) := by
  have e := e_M_tells_32 d a x1 x2 x3 x4 (put σ a μ) (hL.K μ) (by simp only [ar, va_rf, vd, put_F, put_sF, pP_14 hL, pK_14 hL, pN_14 hL, pA_14, pS_14]; rfl) (by simp only [ar, va_rf, vd, put_F, put_sF, pP_14 hL, pK_14 hL, pN_14 hL, pA_14, pS_14]; rfl) (by simpa only [ar, va_rf, vd, put_F, put_sF, pP_14 hL, pK_14 hL, pN_14 hL, pA_14, pS_14] using g0)
  simpa only [ar, va_rf, vd, put_F, put_sF, pP_14 hL, pK_14 hL, pN_14 hL, pA_14, pS_14] using e
theorem q_M_tells_42 (d : Nat) (a : Nat) (x1 : Int32) (x2 : Int32) (x3 : Int32) (x4 : Int32) (σ : Mm) (μ : Ms) (hL : LM σ a) (g0 : ix (μ.1 11) 160 = true) : run d 123 42 [.ref a, .int (x1), .int (x2), .int (x3), .int (x4)] [] (put σ a μ) = run d 123 53 [.ref a, .int (x1), .int (x2), .int (x3), .int (x4)] [] (put σ a (fA μ 15 ((μ.1 11 : Int32).toNatClampNeg) x4)) := by
  have e := e_M_tells_42 d a x1 x2 x3 x4 (put σ a μ) (hL.K μ) (by simp only [ar, va_rf, vd, put_F, put_sF, pP_15 hL, pK_15 hL, pN_15 hL, pA_15, pS_15]; rfl) (by simp only [ar, va_rf, vd, put_F, put_sF, pP_15 hL, pK_15 hL, pN_15 hL, pA_15, pS_15]; rfl) (by simpa only [ar, va_rf, vd, put_F, put_sF, pP_15 hL, pK_15 hL, pN_15 hL, pA_15, pS_15] using g0)
  simpa only [ar, va_rf, vd, put_F, put_sF, pP_15 hL, pK_15 hL, pN_15 hL, pA_15, pS_15] using e
theorem q_M_tells_53 (d : Nat) (a : Nat) (x1 : Int32) (x2 : Int32) (x3 : Int32) (x4 : Int32) (σ : Mm) (μ : Ms) (hL : LM σ a)  : run d 123 53 [.ref a, .int (x1), .int (x2), .int (x3), .int (x4)] [] (put σ a μ) = run d 123 63 [.ref a, .int (x1), .int (x2), .int (x3), .int (x4)] [] (put σ a (fF μ 11 ((μ.1 11) + 1))) := by
  have e := e_M_tells_53 d a x1 x2 x3 x4 (put σ a μ) (hL.K μ)
  simpa only [ar, va_rf, vd, put_F, put_sF] using e
theorem q_M_tells_63 (d : Nat) (a : Nat) (x1 : Int32) (x2 : Int32) (x3 : Int32) (x4 : Int32) (σ : Mm) (μ : Ms) (hL : LM σ a)  : run d 123 63 [.ref a, .int (x1), .int (x2), .int (x3), .int (x4)] [] (put σ a μ) = some (some (.int ((μ.1 11) - 1)), (put σ a μ)) := by
  have e := e_M_tells_63 d a x1 x2 x3 x4 (put σ a μ) (hL.K μ)
  simpa only [ar, va_rf, vd, put_F, put_sF] using e
theorem q_M_swell_0 (d : Nat) (a : Nat) (x1 : Int32) (x2 : Int32) (x3 : Int32) (σ : Mm) (μ : Ms) (hL : LM σ a)  : run d 124 0 [.ref a, .int (x1), .int (x2), .int (x3)] [] (put σ a μ) = run d 124 5 [.ref a, .int (x1), .int (x2), .int (x3)] [] (put σ a (fF μ 0 0)) := by
  have e := e_M_swell_0 d a x1 x2 x3 (put σ a μ) (hL.K μ)
  simpa only [ar, va_rf, vd, put_F, put_sF] using e
theorem q_M_swell_5 (d : Nat) (a : Nat) (x1 : Int32) (x2 : Int32) (x3 : Int32) (σ : Mm) (μ : Ms) (hL : LM σ a)  : run (d + 1) 124 5 [.ref a, .int (x1), .int (x2), .int (x3)] [] (put σ a μ) = (runc d 118 [.ref a, .int (x1)] (put σ a μ)).bind (fun q => run (d + 1) 124 10 [.ref a, .int (x1), .int (x2), .int (x3)] (psh q.1 []) q.2) := by
  have e := e_M_swell_5 d a x1 x2 x3 (put σ a μ) (hL.K μ)
  simpa only [ar, va_rf, vd, put_F, put_sF] using e
theorem q_M_swell_10 (d : Nat) (a : Nat) (x1 : Int32) (x2 : Int32) (x3 : Int32) (y0 : Int32) (σ : Mm) (μ : Ms) (hL : LM σ a)  : run d 124 10 [.ref a, .int (x1), .int (x2), .int (x3)] [.int (y0)] (put σ a μ) = if y0 = 0 then run d 124 45 [.ref a, .int (x1), .int (x2), .int (x3)] [] (put σ a μ) else run d 124 13 [.ref a, .int (x1), .int (x2), .int (x3)] [] (put σ a μ) := by
  have e := e_M_swell_10 d a x1 x2 x3 y0 (put σ a μ) 
  simpa only [ar, va_rf, vd, put_F, put_sF] using e
theorem q_M_swell_13 (d : Nat) (a : Nat) (x1 : Int32) (x2 : Int32) (x3 : Int32) (σ : Mm) (μ : Ms) (hL : LM σ a)  : run (d + 1) 124 13 [.ref a, .int (x1), .int (x2), .int (x3)] [] (put σ a μ) = (runc d 115 [.int (x2), .int (0), .int (2399)] (put σ a μ)).bind (fun q => run (d + 1) 124 21 [.ref a, .int (x1), .int (x2), .int (x3)] (psh q.1 []) q.2) := by
  have e := e_M_swell_13 d a x1 x2 x3 (put σ a μ) 
  simpa only [ar, va_rf, vd, put_F, put_sF] using e
theorem q_M_swell_21 (d : Nat) (a : Nat) (x1 : Int32) (x2 : Int32) (x3 : Int32) (y0 : Int32) (σ : Mm) (μ : Ms) (hL : LM σ a)  : run d 124 21 [.ref a, .int (x1), .int (x2), .int (x3)] [.int (y0)] (put σ a μ) = if y0 = 0 then run d 124 45 [.ref a, .int (x1), .int (x2), .int (x3)] [] (put σ a μ) else run d 124 24 [.ref a, .int (x1), .int (x2), .int (x3)] [] (put σ a μ) := by
  have e := e_M_swell_21 d a x1 x2 x3 y0 (put σ a μ) 
  simpa only [ar, va_rf, vd, put_F, put_sF] using e
theorem q_M_swell_24 (d : Nat) (a : Nat) (x1 : Int32) (x2 : Int32) (x3 : Int32) (σ : Mm) (μ : Ms) (hL : LM σ a)  : run (d + 1) 124 24 [.ref a, .int (x1), .int (x2), .int (x3)] [] (put σ a μ) = (runc d 115 [.int (x3), .int (0), .int (9)] (put σ a μ)).bind (fun q => run (d + 1) 124 31 [.ref a, .int (x1), .int (x2), .int (x3)] (psh q.1 []) q.2) := by
  have e := e_M_swell_24 d a x1 x2 x3 (put σ a μ) 
  simpa only [ar, va_rf, vd, put_F, put_sF] using e
theorem q_M_swell_31 (d : Nat) (a : Nat) (x1 : Int32) (x2 : Int32) (x3 : Int32) (y0 : Int32) (σ : Mm) (μ : Ms) (hL : LM σ a)  : run d 124 31 [.ref a, .int (x1), .int (x2), .int (x3)] [.int (y0)] (put σ a μ) = if y0 = 0 then run d 124 45 [.ref a, .int (x1), .int (x2), .int (x3)] [] (put σ a μ) else run d 124 34 [.ref a, .int (x1), .int (x2), .int (x3)] [] (put σ a μ) := by
  have e := e_M_swell_31 d a x1 x2 x3 y0 (put σ a μ) 
  simpa only [ar, va_rf, vd, put_F, put_sF] using e
theorem q_M_swell_34 (d : Nat) (a : Nat) (x1 : Int32) (x2 : Int32) (x3 : Int32) (σ : Mm) (μ : Ms) (hL : LM σ a)  : run (d + 1) 124 34 [.ref a, .int (x1), .int (x2), .int (x3)] [] (put σ a μ) = (runc d 123 [.ref a, .int (0), .int (x1), .int (x2), .int (x3)] (put σ a μ)).bind (fun q => run (d + 1) 124 42 [.ref a, .int (x1), .int (x2), .int (x3)] (psh q.1 []) q.2) := by
  have e := e_M_swell_34 d a x1 x2 x3 (put σ a μ) (hL.K μ)
  simpa only [ar, va_rf, vd, put_F, put_sF] using e
theorem q_M_swell_42 (d : Nat) (a : Nat) (x1 : Int32) (x2 : Int32) (x3 : Int32) (y0 : Int32) (σ : Mm) (μ : Ms) (hL : LM σ a)  : run d 124 42 [.ref a, .int (x1), .int (x2), .int (x3)] [.int (y0)] (put σ a μ) = run d 124 46 [.ref a, .int (x1), .int (x2), .int (x3)] [.int (y0)] (put σ a μ) := by
  have e := e_M_swell_42 d a x1 x2 x3 y0 (put σ a μ) 
  simpa only [ar, va_rf, vd, put_F, put_sF] using e
theorem q_M_swell_45 (d : Nat) (a : Nat) (x1 : Int32) (x2 : Int32) (x3 : Int32) (σ : Mm) (μ : Ms) (hL : LM σ a)  : run d 124 45 [.ref a, .int (x1), .int (x2), .int (x3)] [] (put σ a μ) = run d 124 46 [.ref a, .int (x1), .int (x2), .int (x3)] [.int ((-1))] (put σ a μ) := by
  have e := e_M_swell_45 d a x1 x2 x3 (put σ a μ) 
  simpa only [ar, va_rf, vd, put_F, put_sF] using e
theorem q_M_swell_46 (d : Nat) (a : Nat) (x1 : Int32) (x2 : Int32) (x3 : Int32) (y0 : Int32) (σ : Mm) (μ : Ms) (hL : LM σ a)  : run d 124 46 [.ref a, .int (x1), .int (x2), .int (x3)] [.int (y0)] (put σ a μ) = some (some (.int (y0)), (put σ a μ)) := by
  have e := e_M_swell_46 d a x1 x2 x3 y0 (put σ a μ) 
  simpa only [ar, va_rf, vd, put_F, put_sF] using e
theorem q_M_wind_0 (d : Nat) (a : Nat) (x1 : Int32) (x2 : Int32) (x3 : Int32) (σ : Mm) (μ : Ms) (hL : LM σ a)  : run d 125 0 [.ref a, .int (x1), .int (x2), .int (x3)] [] (put σ a μ) = run d 125 5 [.ref a, .int (x1), .int (x2), .int (x3)] [] (put σ a (fF μ 0 0)) := by
  have e := e_M_wind_0 d a x1 x2 x3 (put σ a μ) (hL.K μ)
  simpa only [ar, va_rf, vd, put_F, put_sF] using e
theorem q_M_wind_5 (d : Nat) (a : Nat) (x1 : Int32) (x2 : Int32) (x3 : Int32) (σ : Mm) (μ : Ms) (hL : LM σ a)  : run (d + 1) 125 5 [.ref a, .int (x1), .int (x2), .int (x3)] [] (put σ a μ) = (runc d 119 [.ref a, .int (x1)] (put σ a μ)).bind (fun q => run (d + 1) 125 10 [.ref a, .int (x1), .int (x2), .int (x3)] (psh q.1 []) q.2) := by
  have e := e_M_wind_5 d a x1 x2 x3 (put σ a μ) (hL.K μ)
  simpa only [ar, va_rf, vd, put_F, put_sF] using e
theorem q_M_wind_10 (d : Nat) (a : Nat) (x1 : Int32) (x2 : Int32) (x3 : Int32) (y0 : Int32) (σ : Mm) (μ : Ms) (hL : LM σ a)  : run d 125 10 [.ref a, .int (x1), .int (x2), .int (x3)] [.int (y0)] (put σ a μ) = if y0 = 0 then run d 125 45 [.ref a, .int (x1), .int (x2), .int (x3)] [] (put σ a μ) else run d 125 13 [.ref a, .int (x1), .int (x2), .int (x3)] [] (put σ a μ) := by
  have e := e_M_wind_10 d a x1 x2 x3 y0 (put σ a μ) 
  simpa only [ar, va_rf, vd, put_F, put_sF] using e
theorem q_M_wind_13 (d : Nat) (a : Nat) (x1 : Int32) (x2 : Int32) (x3 : Int32) (σ : Mm) (μ : Ms) (hL : LM σ a)  : run (d + 1) 125 13 [.ref a, .int (x1), .int (x2), .int (x3)] [] (put σ a μ) = (runc d 115 [.int (x2), .int (0), .int (99)] (put σ a μ)).bind (fun q => run (d + 1) 125 20 [.ref a, .int (x1), .int (x2), .int (x3)] (psh q.1 []) q.2) := by
  have e := e_M_wind_13 d a x1 x2 x3 (put σ a μ) 
  simpa only [ar, va_rf, vd, put_F, put_sF] using e
theorem q_M_wind_20 (d : Nat) (a : Nat) (x1 : Int32) (x2 : Int32) (x3 : Int32) (y0 : Int32) (σ : Mm) (μ : Ms) (hL : LM σ a)  : run d 125 20 [.ref a, .int (x1), .int (x2), .int (x3)] [.int (y0)] (put σ a μ) = if y0 = 0 then run d 125 45 [.ref a, .int (x1), .int (x2), .int (x3)] [] (put σ a μ) else run d 125 23 [.ref a, .int (x1), .int (x2), .int (x3)] [] (put σ a μ) := by
  have e := e_M_wind_20 d a x1 x2 x3 y0 (put σ a μ) 
  simpa only [ar, va_rf, vd, put_F, put_sF] using e
theorem q_M_wind_23 (d : Nat) (a : Nat) (x1 : Int32) (x2 : Int32) (x3 : Int32) (σ : Mm) (μ : Ms) (hL : LM σ a)  : run (d + 1) 125 23 [.ref a, .int (x1), .int (x2), .int (x3)] [] (put σ a μ) = (runc d 115 [.int (x3), .int ((-60)), .int (60)] (put σ a μ)).bind (fun q => run (d + 1) 125 31 [.ref a, .int (x1), .int (x2), .int (x3)] (psh q.1 []) q.2) := by
  have e := e_M_wind_23 d a x1 x2 x3 (put σ a μ) 
  simpa only [ar, va_rf, vd, put_F, put_sF] using e
theorem q_M_wind_31 (d : Nat) (a : Nat) (x1 : Int32) (x2 : Int32) (x3 : Int32) (y0 : Int32) (σ : Mm) (μ : Ms) (hL : LM σ a)  : run d 125 31 [.ref a, .int (x1), .int (x2), .int (x3)] [.int (y0)] (put σ a μ) = if y0 = 0 then run d 125 45 [.ref a, .int (x1), .int (x2), .int (x3)] [] (put σ a μ) else run d 125 34 [.ref a, .int (x1), .int (x2), .int (x3)] [] (put σ a μ) := by
  have e := e_M_wind_31 d a x1 x2 x3 y0 (put σ a μ) 
  simpa only [ar, va_rf, vd, put_F, put_sF] using e
theorem q_M_wind_34 (d : Nat) (a : Nat) (x1 : Int32) (x2 : Int32) (x3 : Int32) (σ : Mm) (μ : Ms) (hL : LM σ a)  : run (d + 1) 125 34 [.ref a, .int (x1), .int (x2), .int (x3)] [] (put σ a μ) = (runc d 123 [.ref a, .int (1), .int (x1), .int (x2), .int (x3)] (put σ a μ)).bind (fun q => run (d + 1) 125 42 [.ref a, .int (x1), .int (x2), .int (x3)] (psh q.1 []) q.2) := by
  have e := e_M_wind_34 d a x1 x2 x3 (put σ a μ) (hL.K μ)
  simpa only [ar, va_rf, vd, put_F, put_sF] using e
theorem q_M_wind_42 (d : Nat) (a : Nat) (x1 : Int32) (x2 : Int32) (x3 : Int32) (y0 : Int32) (σ : Mm) (μ : Ms) (hL : LM σ a)  : run d 125 42 [.ref a, .int (x1), .int (x2), .int (x3)] [.int (y0)] (put σ a μ) = run d 125 46 [.ref a, .int (x1), .int (x2), .int (x3)] [.int (y0)] (put σ a μ) := by
  have e := e_M_wind_42 d a x1 x2 x3 y0 (put σ a μ) 
  simpa only [ar, va_rf, vd, put_F, put_sF] using e
theorem q_M_wind_45 (d : Nat) (a : Nat) (x1 : Int32) (x2 : Int32) (x3 : Int32) (σ : Mm) (μ : Ms) (hL : LM σ a)  : run d 125 45 [.ref a, .int (x1), .int (x2), .int (x3)] [] (put σ a μ) = run d 125 46 [.ref a, .int (x1), .int (x2), .int (x3)] [.int ((-1))] (put σ a μ) := by
  have e := e_M_wind_45 d a x1 x2 x3 (put σ a μ) 
  simpa only [ar, va_rf, vd, put_F, put_sF] using e
theorem q_M_wind_46 (d : Nat) (a : Nat) (x1 : Int32) (x2 : Int32) (x3 : Int32) (y0 : Int32) (σ : Mm) (μ : Ms) (hL : LM σ a)  : run d 125 46 [.ref a, .int (x1), .int (x2), .int (x3)] [.int (y0)] (put σ a μ) = some (some (.int (y0)), (put σ a μ)) := by
  have e := e_M_wind_46 d a x1 x2 x3 y0 (put σ a μ) 
  simpa only [ar, va_rf, vd, put_F, put_sF] using e
theorem q_M_asKnown_0 (d : Nat) (a : Nat) (x1 : Int32) (x2 : Int32) (x3 : Int32) (x4 : Int32) (x5 : Int32) (u6 : Value) (u7 : Value) (σ : Mm) (μ : Ms) (hL : LM σ a)  : run d 126 0 [.ref a, .int (x1), .int (x2), .int (x3), .int (x4), .int (x5), u6, u7] [] (put σ a μ) = run d 126 6 [.ref a, .int (x1), .int (x2), .int (x3), .int (x4), .int (x5), .int ((-1)), .int (0)] [] (put σ a μ) := by
  have e := e_M_asKnown_0 d a x1 x2 x3 x4 x5 u6 u7 (put σ a μ) 
  simpa only [ar, va_rf, vd, put_F, put_sF] using e
theorem q_M_asKnown_6 (d : Nat) (a : Nat) (x1 : Int32) (x2 : Int32) (x3 : Int32) (x4 : Int32) (x5 : Int32) (x6 : Int32) (x7 : Int32) (σ : Mm) (μ : Ms) (hL : LM σ a)  : run d 126 6 [.ref a, .int (x1), .int (x2), .int (x3), .int (x4), .int (x5), .int (x6), .int (x7)] [] (put σ a μ) = if x4 ≤ x7 then run d 126 82 [.ref a, .int (x1), .int (x2), .int (x3), .int (x4), .int (x5), .int (x6), .int (x7)] [] (put σ a μ) else run d 126 13 [.ref a, .int (x1), .int (x2), .int (x3), .int (x4), .int (x5), .int (x6), .int (x7)] [] (put σ a μ) := by
  have e := e_M_asKnown_6 d a x1 x2 x3 x4 x5 x6 x7 (put σ a μ) 
  simpa only [ar, va_rf, vd, put_F, put_sF] using e
theorem q_M_asKnown_13 (d : Nat) (a : Nat) (x1 : Int32) (x2 : Int32) (x3 : Int32) (x4 : Int32) (x5 : Int32) (x6 : Int32) (x7 : Int32) (σ : Mm) (μ : Ms) (hL : LM σ a) (g0 : ix x7 160 = true) : run d 126 13 [.ref a, .int (x1), .int (x2), .int (x3), .int (x4), .int (x5), .int (x6), .int (x7)] [] (put σ a μ) = if ¬ (μ.2 12 (x7 : Int32).toNatClampNeg) = x1 then run d 126 76 [.ref a, .int (x1), .int (x2), .int (x3), .int (x4), .int (x5), .int (x6), .int (x7)] [] (put σ a μ) else run d 126 24 [.ref a, .int (x1), .int (x2), .int (x3), .int (x4), .int (x5), .int (x6), .int (x7)] [] (put σ a μ) := by
  have e := e_M_asKnown_13 d a x1 x2 x3 x4 x5 x6 x7 (put σ a μ) (hL.K μ) (by simp only [ar, va_rf, vd, put_F, put_sF, pP_12 hL, pK_12 hL, pN_12 hL, pA_12, pS_12]; rfl) (by simp only [ar, va_rf, vd, put_F, put_sF, pP_12 hL, pK_12 hL, pN_12 hL, pA_12, pS_12]; rfl) (by simpa only [ar, va_rf, vd, put_F, put_sF, pP_12 hL, pK_12 hL, pN_12 hL, pA_12, pS_12] using g0)
  simpa only [ar, va_rf, vd, put_F, put_sF, pP_12 hL, pK_12 hL, pN_12 hL, pA_12, pS_12] using e
theorem q_M_asKnown_24 (d : Nat) (a : Nat) (x1 : Int32) (x2 : Int32) (x3 : Int32) (x4 : Int32) (x5 : Int32) (x6 : Int32) (x7 : Int32) (σ : Mm) (μ : Ms) (hL : LM σ a) (g0 : ix x7 160 = true) : run d 126 24 [.ref a, .int (x1), .int (x2), .int (x3), .int (x4), .int (x5), .int (x6), .int (x7)] [] (put σ a μ) = if ¬ (μ.2 13 (x7 : Int32).toNatClampNeg) = x2 then run d 126 76 [.ref a, .int (x1), .int (x2), .int (x3), .int (x4), .int (x5), .int (x6), .int (x7)] [] (put σ a μ) else run d 126 35 [.ref a, .int (x1), .int (x2), .int (x3), .int (x4), .int (x5), .int (x6), .int (x7)] [] (put σ a μ) := by
  have e := e_M_asKnown_24 d a x1 x2 x3 x4 x5 x6 x7 (put σ a μ) (hL.K μ) (by simp only [ar, va_rf, vd, put_F, put_sF, pP_13 hL, pK_13 hL, pN_13 hL, pA_13, pS_13]; rfl) (by simp only [ar, va_rf, vd, put_F, put_sF, pP_13 hL, pK_13 hL, pN_13 hL, pA_13, pS_13]; rfl) (by simpa only [ar, va_rf, vd, put_F, put_sF, pP_13 hL, pK_13 hL, pN_13 hL, pA_13, pS_13] using g0)
  simpa only [ar, va_rf, vd, put_F, put_sF, pP_13 hL, pK_13 hL, pN_13 hL, pA_13, pS_13] using e
theorem q_M_asKnown_35 (d : Nat) (a : Nat) (x1 : Int32) (x2 : Int32) (x3 : Int32) (x4 : Int32) (x5 : Int32) (x6 : Int32) (x7 : Int32) (σ : Mm) (μ : Ms) (hL : LM σ a) (g0 : ix x7 160 = true) : run d 126 35 [.ref a, .int (x1), .int (x2), .int (x3), .int (x4), .int (x5), .int (x6), .int (x7)] [] (put σ a μ) = if (μ.2 14 (x7 : Int32).toNatClampNeg) ≤ x3 then run d 126 49 [.ref a, .int (x1), .int (x2), .int (x3), .int (x4), .int (x5), .int (x6), .int (x7)] [] (put σ a μ) else run d 126 46 [.ref a, .int (x1), .int (x2), .int (x3), .int (x4), .int (x5), .int (x6), .int (x7)] [] (put σ a μ) := by
  have e := e_M_asKnown_35 d a x1 x2 x3 x4 x5 x6 x7 (put σ a μ) (hL.K μ) (by simp only [ar, va_rf, vd, put_F, put_sF, pP_14 hL, pK_14 hL, pN_14 hL, pA_14, pS_14]; rfl) (by simp only [ar, va_rf, vd, put_F, put_sF, pP_14 hL, pK_14 hL, pN_14 hL, pA_14, pS_14]; rfl) (by simpa only [ar, va_rf, vd, put_F, put_sF, pP_14 hL, pK_14 hL, pN_14 hL, pA_14, pS_14] using g0)
  simpa only [ar, va_rf, vd, put_F, put_sF, pP_14 hL, pK_14 hL, pN_14 hL, pA_14, pS_14] using e
theorem q_M_asKnown_46 (d : Nat) (a : Nat) (x1 : Int32) (x2 : Int32) (x3 : Int32) (x4 : Int32) (x5 : Int32) (x6 : Int32) (x7 : Int32) (σ : Mm) (μ : Ms) (hL : LM σ a)  : run d 126 46 [.ref a, .int (x1), .int (x2), .int (x3), .int (x4), .int (x5), .int (x6), .int (x7)] [] (put σ a μ) = run d 126 76 [.ref a, .int (x1), .int (x2), .int (x3), .int (x4), .int (x5), .int (x6), .int (x7)] [] (put σ a μ) := by
  have e := e_M_asKnown_46 d a x1 x2 x3 x4 x5 x6 x7 (put σ a μ) 
  simpa only [ar, va_rf, vd, put_F, put_sF] using e
theorem q_M_asKnown_49 (d : Nat) (a : Nat) (x1 : Int32) (x2 : Int32) (x3 : Int32) (x4 : Int32) (x5 : Int32) (x6 : Int32) (x7 : Int32) (σ : Mm) (μ : Ms) (hL : LM σ a)  : run d 126 49 [.ref a, .int (x1), .int (x2), .int (x3), .int (x4), .int (x5), .int (x6), .int (x7)] [] (put σ a μ) = if x6 = ((-1)) then run d 126 72 [.ref a, .int (x1), .int (x2), .int (x3), .int (x4), .int (x5), .int (x6), .int (x7)] [] (put σ a μ) else run d 126 55 [.ref a, .int (x1), .int (x2), .int (x3), .int (x4), .int (x5), .int (x6), .int (x7)] [] (put σ a μ) := by
  have e := e_M_asKnown_49 d a x1 x2 x3 x4 x5 x6 x7 (put σ a μ) 
  simpa only [ar, va_rf, vd, put_F, put_sF] using e
theorem q_M_asKnown_55 (d : Nat) (a : Nat) (x1 : Int32) (x2 : Int32) (x3 : Int32) (x4 : Int32) (x5 : Int32) (x6 : Int32) (x7 : Int32) (σ : Mm) (μ : Ms) (hL : LM σ a) (g0 : ix x7 160 = true) (g1 : ix x6 160 = true) : run d 126 55 [.ref a, .int (x1), .int (x2), .int (x3), .int (x4), .int (x5), .int (x6), .int (x7)] [] (put σ a μ) = if (μ.2 14 (x7 : Int32).toNatClampNeg) < (μ.2 14 (x6 : Int32).toNatClampNeg) then run d 126 76 [.ref a, .int (x1), .int (x2), .int (x3), .int (x4), .int (x5), .int (x6), .int (x7)] [] (put σ a μ) else run d 126 72 [.ref a, .int (x1), .int (x2), .int (x3), .int (x4), .int (x5), .int (x6), .int (x7)] [] (put σ a μ) := by
  have e := e_M_asKnown_55 d a x1 x2 x3 x4 x5 x6 x7 (put σ a μ) (hL.K μ) (by simp only [ar, va_rf, vd, put_F, put_sF, pP_14 hL, pK_14 hL, pN_14 hL, pA_14, pS_14]; rfl) (by simp only [ar, va_rf, vd, put_F, put_sF, pP_14 hL, pK_14 hL, pN_14 hL, pA_14, pS_14]; rfl) (by simpa only [ar, va_rf, vd, put_F, put_sF, pP_14 hL, pK_14 hL, pN_14 hL, pA_14, pS_14] using g0) (by simpa only [ar, va_rf, vd, put_F, put_sF, pP_14 hL, pK_14 hL, pN_14 hL, pA_14, pS_14] using g1)
  simpa only [ar, va_rf, vd, put_F, put_sF, pP_14 hL, pK_14 hL, pN_14 hL, pA_14, pS_14] using e
theorem q_M_asKnown_72 (d : Nat) (a : Nat) (x1 : Int32) (x2 : Int32) (x3 : Int32) (x4 : Int32) (x5 : Int32) (x6 : Int32) (x7 : Int32) (σ : Mm) (μ : Ms) (hL : LM σ a)  : run d 126 72 [.ref a, .int (x1), .int (x2), .int (x3), .int (x4), .int (x5), .int (x6), .int (x7)] [] (put σ a μ) = run d 126 76 [.ref a, .int (x1), .int (x2), .int (x3), .int (x4), .int (x5), .int (x7), .int (x7)] [] (put σ a μ) := by
  have e := e_M_asKnown_72 d a x1 x2 x3 x4 x5 x6 x7 (put σ a μ) 
  simpa only [ar, va_rf, vd, put_F, put_sF] using e
theorem q_M_asKnown_76 (d : Nat) (a : Nat) (x1 : Int32) (x2 : Int32) (x3 : Int32) (x4 : Int32) (x5 : Int32) (x6 : Int32) (x7 : Int32) (σ : Mm) (μ : Ms) (hL : LM σ a)  : run d 126 76 [.ref a, .int (x1), .int (x2), .int (x3), .int (x4), .int (x5), .int (x6), .int (x7)] [] (put σ a μ) = run d 126 6 [.ref a, .int (x1), .int (x2), .int (x3), .int (x4), .int (x5), .int (x6), .int (x7 + 1)] [] (put σ a μ) := by
  have e := e_M_asKnown_76 d a x1 x2 x3 x4 x5 x6 x7 (put σ a μ) 
  simpa only [ar, va_rf, vd, put_F, put_sF] using e
theorem q_M_asKnown_82 (d : Nat) (a : Nat) (x1 : Int32) (x2 : Int32) (x3 : Int32) (x4 : Int32) (x5 : Int32) (x6 : Int32) (x7 : Int32) (σ : Mm) (μ : Ms) (hL : LM σ a)  : run d 126 82 [.ref a, .int (x1), .int (x2), .int (x3), .int (x4), .int (x5), .int (x6), .int (x7)] [] (put σ a μ) = if ¬ x6 = ((-1)) then run d 126 93 [.ref a, .int (x1), .int (x2), .int (x3), .int (x4), .int (x5), .int (x6), .int (x7)] [] (put σ a μ) else run d 126 88 [.ref a, .int (x1), .int (x2), .int (x3), .int (x4), .int (x5), .int (x6), .int (x7)] [] (put σ a μ) := by
  have e := e_M_asKnown_82 d a x1 x2 x3 x4 x5 x6 x7 (put σ a μ) 
  simpa only [ar, va_rf, vd, put_F, put_sF] using e
theorem q_M_asKnown_88 (d : Nat) (a : Nat) (x1 : Int32) (x2 : Int32) (x3 : Int32) (x4 : Int32) (x5 : Int32) (x6 : Int32) (x7 : Int32) (σ : Mm) (μ : Ms) (hL : LM σ a)  : run d 126 88 [.ref a, .int (x1), .int (x2), .int (x3), .int (x4), .int (x5), .int (x6), .int (x7)] [] (put σ a μ) = run d 126 100 [.ref a, .int (x1), .int (x2), .int (x3), .int (x4), .int (x5), .int (x6), .int (x7)] [.int (x5)] (put σ a μ) := by
  have e := e_M_asKnown_88 d a x1 x2 x3 x4 x5 x6 x7 (put σ a μ) 
  simpa only [ar, va_rf, vd, put_F, put_sF] using e
theorem q_M_asKnown_93 (d : Nat) (a : Nat) (x1 : Int32) (x2 : Int32) (x3 : Int32) (x4 : Int32) (x5 : Int32) (x6 : Int32) (x7 : Int32) (σ : Mm) (μ : Ms) (hL : LM σ a) (g0 : ix x6 160 = true) : run d 126 93 [.ref a, .int (x1), .int (x2), .int (x3), .int (x4), .int (x5), .int (x6), .int (x7)] [] (put σ a μ) = run d 126 100 [.ref a, .int (x1), .int (x2), .int (x3), .int (x4), .int (x5), .int (x6), .int (x7)] [.int (μ.2 15 (x6 : Int32).toNatClampNeg)] (put σ a μ) := by
  have e := e_M_asKnown_93 d a x1 x2 x3 x4 x5 x6 x7 (put σ a μ) (hL.K μ) (by simp only [ar, va_rf, vd, put_F, put_sF, pP_15 hL, pK_15 hL, pN_15 hL, pA_15, pS_15]; rfl) (by simp only [ar, va_rf, vd, put_F, put_sF, pP_15 hL, pK_15 hL, pN_15 hL, pA_15, pS_15]; rfl) (by simpa only [ar, va_rf, vd, put_F, put_sF, pP_15 hL, pK_15 hL, pN_15 hL, pA_15, pS_15] using g0)
  simpa only [ar, va_rf, vd, put_F, put_sF, pP_15 hL, pK_15 hL, pN_15 hL, pA_15, pS_15] using e
theorem q_M_asKnown_100 (d : Nat) (a : Nat) (x1 : Int32) (x2 : Int32) (x3 : Int32) (x4 : Int32) (x5 : Int32) (x6 : Int32) (x7 : Int32) (y0 : Int32) (σ : Mm) (μ : Ms) (hL : LM σ a)  : run d 126 100 [.ref a, .int (x1), .int (x2), .int (x3), .int (x4), .int (x5), .int (x6), .int (x7)] [.int (y0)] (put σ a μ) = some (some (.int (y0)), (put σ a μ)) := by
  have e := e_M_asKnown_100 d a x1 x2 x3 x4 x5 x6 x7 y0 (put σ a μ) 
  simpa only [ar, va_rf, vd, put_F, put_sF] using e
theorem q_M_swellAt_0 (d : Nat) (a : Nat) (x1 : Int32) (x2 : Int32) (x3 : Int32) (σ : Mm) (μ : Ms) (hL : LM σ a)  : run (d + 1) 127 0 [.ref a, .int (x1), .int (x2), .int (x3)] [] (put σ a μ) = (runc d 126 [.ref a, .int (0), .int (x1), .int (x2), .int (x3), .int (3)] (put σ a μ)).bind (fun q => run (d + 1) 127 9 [.ref a, .int (x1), .int (x2), .int (x3)] (psh q.1 []) q.2) := by
  have e := e_M_swellAt_0 d a x1 x2 x3 (put σ a μ) (hL.K μ)
  simpa only [ar, va_rf, vd, put_F, put_sF] using e
theorem q_M_swellAt_9 (d : Nat) (a : Nat) (x1 : Int32) (x2 : Int32) (x3 : Int32) (y0 : Int32) (σ : Mm) (μ : Ms) (hL : LM σ a)  : run d 127 9 [.ref a, .int (x1), .int (x2), .int (x3)] [.int (y0)] (put σ a μ) = some (some (.int (y0)), (put σ a μ)) := by
  have e := e_M_swellAt_9 d a x1 x2 x3 y0 (put σ a μ) 
  simpa only [ar, va_rf, vd, put_F, put_sF] using e
theorem q_M_windAt_0 (d : Nat) (a : Nat) (x1 : Int32) (x2 : Int32) (x3 : Int32) (σ : Mm) (μ : Ms) (hL : LM σ a)  : run (d + 1) 128 0 [.ref a, .int (x1), .int (x2), .int (x3)] [] (put σ a μ) = (runc d 126 [.ref a, .int (1), .int (x1), .int (x2), .int (x3), .int (0)] (put σ a μ)).bind (fun q => run (d + 1) 128 9 [.ref a, .int (x1), .int (x2), .int (x3)] (psh q.1 []) q.2) := by
  have e := e_M_windAt_0 d a x1 x2 x3 (put σ a μ) (hL.K μ)
  simpa only [ar, va_rf, vd, put_F, put_sF] using e
theorem q_M_windAt_9 (d : Nat) (a : Nat) (x1 : Int32) (x2 : Int32) (x3 : Int32) (y0 : Int32) (σ : Mm) (μ : Ms) (hL : LM σ a)  : run d 128 9 [.ref a, .int (x1), .int (x2), .int (x3)] [.int (y0)] (put σ a μ) = some (some (.int (y0)), (put σ a μ)) := by
  have e := e_M_windAt_9 d a x1 x2 x3 y0 (put σ a μ) 
  simpa only [ar, va_rf, vd, put_F, put_sF] using e
theorem q_M_swellOf_0 (d : Nat) (a : Nat) (x1 : Int32) (x2 : Int32) (x3 : Int32) (σ : Mm) (μ : Ms) (hL : LM σ a)  : run d 129 0 [.ref a, .int (x1), .int (x2), .int (x3)] [] (put σ a μ) = run d 129 5 [.ref a, .int (x1), .int (x2), .int (x3)] [] (put σ a (fF μ 0 0)) := by
  have e := e_M_swellOf_0 d a x1 x2 x3 (put σ a μ) (hL.K μ)
  simpa only [ar, va_rf, vd, put_F, put_sF] using e
theorem q_M_swellOf_5 (d : Nat) (a : Nat) (x1 : Int32) (x2 : Int32) (x3 : Int32) (σ : Mm) (μ : Ms) (hL : LM σ a)  : run (d + 1) 129 5 [.ref a, .int (x1), .int (x2), .int (x3)] [] (put σ a μ) = (runc d 118 [.ref a, .int (x1)] (put σ a μ)).bind (fun q => run (d + 1) 129 10 [.ref a, .int (x1), .int (x2), .int (x3)] (psh q.1 []) q.2) := by
  have e := e_M_swellOf_5 d a x1 x2 x3 (put σ a μ) (hL.K μ)
  simpa only [ar, va_rf, vd, put_F, put_sF] using e
theorem q_M_swellOf_10 (d : Nat) (a : Nat) (x1 : Int32) (x2 : Int32) (x3 : Int32) (y0 : Int32) (σ : Mm) (μ : Ms) (hL : LM σ a)  : run d 129 10 [.ref a, .int (x1), .int (x2), .int (x3)] [.int (y0)] (put σ a μ) = if y0 = 0 then run d 129 46 [.ref a, .int (x1), .int (x2), .int (x3)] [] (put σ a μ) else run d 129 13 [.ref a, .int (x1), .int (x2), .int (x3)] [] (put σ a μ) := by
  have e := e_M_swellOf_10 d a x1 x2 x3 y0 (put σ a μ) 
  simpa only [ar, va_rf, vd, put_F, put_sF] using e
theorem q_M_swellOf_13 (d : Nat) (a : Nat) (x1 : Int32) (x2 : Int32) (x3 : Int32) (σ : Mm) (μ : Ms) (hL : LM σ a)  : run (d + 1) 129 13 [.ref a, .int (x1), .int (x2), .int (x3)] [] (put σ a μ) = (runc d 115 [.int (x2), .int (0), .int (2399)] (put σ a μ)).bind (fun q => run (d + 1) 129 21 [.ref a, .int (x1), .int (x2), .int (x3)] (psh q.1 []) q.2) := by
  have e := e_M_swellOf_13 d a x1 x2 x3 (put σ a μ) 
  simpa only [ar, va_rf, vd, put_F, put_sF] using e
theorem q_M_swellOf_21 (d : Nat) (a : Nat) (x1 : Int32) (x2 : Int32) (x3 : Int32) (y0 : Int32) (σ : Mm) (μ : Ms) (hL : LM σ a)  : run d 129 21 [.ref a, .int (x1), .int (x2), .int (x3)] [.int (y0)] (put σ a μ) = if y0 = 0 then run d 129 46 [.ref a, .int (x1), .int (x2), .int (x3)] [] (put σ a μ) else run d 129 24 [.ref a, .int (x1), .int (x2), .int (x3)] [] (put σ a μ) := by
  have e := e_M_swellOf_21 d a x1 x2 x3 y0 (put σ a μ) 
  simpa only [ar, va_rf, vd, put_F, put_sF] using e
theorem q_M_swellOf_24 (d : Nat) (a : Nat) (x1 : Int32) (x2 : Int32) (x3 : Int32) (σ : Mm) (μ : Ms) (hL : LM σ a)  : run (d + 1) 129 24 [.ref a, .int (x1), .int (x2), .int (x3)] [] (put σ a μ) = (runc d 115 [.int (x3), .int (0), .int (μ.1 11)] (put σ a μ)).bind (fun q => run (d + 1) 129 33 [.ref a, .int (x1), .int (x2), .int (x3)] (psh q.1 []) q.2) := by
  have e := e_M_swellOf_24 d a x1 x2 x3 (put σ a μ) (hL.K μ)
  simpa only [ar, va_rf, vd, put_F, put_sF] using e
theorem q_M_swellOf_33 (d : Nat) (a : Nat) (x1 : Int32) (x2 : Int32) (x3 : Int32) (y0 : Int32) (σ : Mm) (μ : Ms) (hL : LM σ a)  : run d 129 33 [.ref a, .int (x1), .int (x2), .int (x3)] [.int (y0)] (put σ a μ) = if y0 = 0 then run d 129 46 [.ref a, .int (x1), .int (x2), .int (x3)] [] (put σ a μ) else run d 129 36 [.ref a, .int (x1), .int (x2), .int (x3)] [] (put σ a μ) := by
  have e := e_M_swellOf_33 d a x1 x2 x3 y0 (put σ a μ) 
  simpa only [ar, va_rf, vd, put_F, put_sF] using e
theorem q_M_swellOf_36 (d : Nat) (a : Nat) (x1 : Int32) (x2 : Int32) (x3 : Int32) (σ : Mm) (μ : Ms) (hL : LM σ a)  : run (d + 1) 129 36 [.ref a, .int (x1), .int (x2), .int (x3)] [] (put σ a μ) = (runc d 127 [.ref a, .int (x1), .int (x2), .int (x3)] (put σ a μ)).bind (fun q => run (d + 1) 129 43 [.ref a, .int (x1), .int (x2), .int (x3)] (psh q.1 []) q.2) := by
  have e := e_M_swellOf_36 d a x1 x2 x3 (put σ a μ) (hL.K μ)
  simpa only [ar, va_rf, vd, put_F, put_sF] using e
theorem q_M_swellOf_43 (d : Nat) (a : Nat) (x1 : Int32) (x2 : Int32) (x3 : Int32) (y0 : Int32) (σ : Mm) (μ : Ms) (hL : LM σ a)  : run d 129 43 [.ref a, .int (x1), .int (x2), .int (x3)] [.int (y0)] (put σ a μ) = run d 129 47 [.ref a, .int (x1), .int (x2), .int (x3)] [.int (y0)] (put σ a μ) := by
  have e := e_M_swellOf_43 d a x1 x2 x3 y0 (put σ a μ) 
  simpa only [ar, va_rf, vd, put_F, put_sF] using e
theorem q_M_swellOf_46 (d : Nat) (a : Nat) (x1 : Int32) (x2 : Int32) (x3 : Int32) (σ : Mm) (μ : Ms) (hL : LM σ a)  : run d 129 46 [.ref a, .int (x1), .int (x2), .int (x3)] [] (put σ a μ) = run d 129 47 [.ref a, .int (x1), .int (x2), .int (x3)] [.int ((-1))] (put σ a μ) := by
  have e := e_M_swellOf_46 d a x1 x2 x3 (put σ a μ) 
  simpa only [ar, va_rf, vd, put_F, put_sF] using e
theorem q_M_swellOf_47 (d : Nat) (a : Nat) (x1 : Int32) (x2 : Int32) (x3 : Int32) (y0 : Int32) (σ : Mm) (μ : Ms) (hL : LM σ a)  : run d 129 47 [.ref a, .int (x1), .int (x2), .int (x3)] [.int (y0)] (put σ a μ) = some (some (.int (y0)), (put σ a μ)) := by
  have e := e_M_swellOf_47 d a x1 x2 x3 y0 (put σ a μ) 
  simpa only [ar, va_rf, vd, put_F, put_sF] using e
theorem q_M_windOf_0 (d : Nat) (a : Nat) (x1 : Int32) (x2 : Int32) (x3 : Int32) (σ : Mm) (μ : Ms) (hL : LM σ a)  : run d 130 0 [.ref a, .int (x1), .int (x2), .int (x3)] [] (put σ a μ) = run d 130 5 [.ref a, .int (x1), .int (x2), .int (x3)] [] (put σ a (fF μ 0 0)) := by
  have e := e_M_windOf_0 d a x1 x2 x3 (put σ a μ) (hL.K μ)
  simpa only [ar, va_rf, vd, put_F, put_sF] using e
theorem q_M_windOf_5 (d : Nat) (a : Nat) (x1 : Int32) (x2 : Int32) (x3 : Int32) (σ : Mm) (μ : Ms) (hL : LM σ a)  : run (d + 1) 130 5 [.ref a, .int (x1), .int (x2), .int (x3)] [] (put σ a μ) = (runc d 119 [.ref a, .int (x1)] (put σ a μ)).bind (fun q => run (d + 1) 130 10 [.ref a, .int (x1), .int (x2), .int (x3)] (psh q.1 []) q.2) := by
  have e := e_M_windOf_5 d a x1 x2 x3 (put σ a μ) (hL.K μ)
  simpa only [ar, va_rf, vd, put_F, put_sF] using e
theorem q_M_windOf_10 (d : Nat) (a : Nat) (x1 : Int32) (x2 : Int32) (x3 : Int32) (y0 : Int32) (σ : Mm) (μ : Ms) (hL : LM σ a)  : run d 130 10 [.ref a, .int (x1), .int (x2), .int (x3)] [.int (y0)] (put σ a μ) = if y0 = 0 then run d 130 45 [.ref a, .int (x1), .int (x2), .int (x3)] [] (put σ a μ) else run d 130 13 [.ref a, .int (x1), .int (x2), .int (x3)] [] (put σ a μ) := by
  have e := e_M_windOf_10 d a x1 x2 x3 y0 (put σ a μ) 
  simpa only [ar, va_rf, vd, put_F, put_sF] using e
theorem q_M_windOf_13 (d : Nat) (a : Nat) (x1 : Int32) (x2 : Int32) (x3 : Int32) (σ : Mm) (μ : Ms) (hL : LM σ a)  : run (d + 1) 130 13 [.ref a, .int (x1), .int (x2), .int (x3)] [] (put σ a μ) = (runc d 115 [.int (x2), .int (0), .int (99)] (put σ a μ)).bind (fun q => run (d + 1) 130 20 [.ref a, .int (x1), .int (x2), .int (x3)] (psh q.1 []) q.2) := by
  have e := e_M_windOf_13 d a x1 x2 x3 (put σ a μ) 
  simpa only [ar, va_rf, vd, put_F, put_sF] using e
theorem q_M_windOf_20 (d : Nat) (a : Nat) (x1 : Int32) (x2 : Int32) (x3 : Int32) (y0 : Int32) (σ : Mm) (μ : Ms) (hL : LM σ a)  : run d 130 20 [.ref a, .int (x1), .int (x2), .int (x3)] [.int (y0)] (put σ a μ) = if y0 = 0 then run d 130 45 [.ref a, .int (x1), .int (x2), .int (x3)] [] (put σ a μ) else run d 130 23 [.ref a, .int (x1), .int (x2), .int (x3)] [] (put σ a μ) := by
  have e := e_M_windOf_20 d a x1 x2 x3 y0 (put σ a μ) 
  simpa only [ar, va_rf, vd, put_F, put_sF] using e
theorem q_M_windOf_23 (d : Nat) (a : Nat) (x1 : Int32) (x2 : Int32) (x3 : Int32) (σ : Mm) (μ : Ms) (hL : LM σ a)  : run (d + 1) 130 23 [.ref a, .int (x1), .int (x2), .int (x3)] [] (put σ a μ) = (runc d 115 [.int (x3), .int (0), .int (μ.1 11)] (put σ a μ)).bind (fun q => run (d + 1) 130 32 [.ref a, .int (x1), .int (x2), .int (x3)] (psh q.1 []) q.2) := by
  have e := e_M_windOf_23 d a x1 x2 x3 (put σ a μ) (hL.K μ)
  simpa only [ar, va_rf, vd, put_F, put_sF] using e
theorem q_M_windOf_32 (d : Nat) (a : Nat) (x1 : Int32) (x2 : Int32) (x3 : Int32) (y0 : Int32) (σ : Mm) (μ : Ms) (hL : LM σ a)  : run d 130 32 [.ref a, .int (x1), .int (x2), .int (x3)] [.int (y0)] (put σ a μ) = if y0 = 0 then run d 130 45 [.ref a, .int (x1), .int (x2), .int (x3)] [] (put σ a μ) else run d 130 35 [.ref a, .int (x1), .int (x2), .int (x3)] [] (put σ a μ) := by
  have e := e_M_windOf_32 d a x1 x2 x3 y0 (put σ a μ) 
  simpa only [ar, va_rf, vd, put_F, put_sF] using e
theorem q_M_windOf_35 (d : Nat) (a : Nat) (x1 : Int32) (x2 : Int32) (x3 : Int32) (σ : Mm) (μ : Ms) (hL : LM σ a)  : run (d + 1) 130 35 [.ref a, .int (x1), .int (x2), .int (x3)] [] (put σ a μ) = (runc d 128 [.ref a, .int (x1), .int (x2), .int (x3)] (put σ a μ)).bind (fun q => run (d + 1) 130 42 [.ref a, .int (x1), .int (x2), .int (x3)] (psh q.1 []) q.2) := by
  have e := e_M_windOf_35 d a x1 x2 x3 (put σ a μ) (hL.K μ)
  simpa only [ar, va_rf, vd, put_F, put_sF] using e
theorem q_M_windOf_42 (d : Nat) (a : Nat) (x1 : Int32) (x2 : Int32) (x3 : Int32) (y0 : Int32) (σ : Mm) (μ : Ms) (hL : LM σ a)  : run d 130 42 [.ref a, .int (x1), .int (x2), .int (x3)] [.int (y0)] (put σ a μ) = run d 130 48 [.ref a, .int (x1), .int (x2), .int (x3)] [.int (y0)] (put σ a μ) := by
  have e := e_M_windOf_42 d a x1 x2 x3 y0 (put σ a μ) 
  simpa only [ar, va_rf, vd, put_F, put_sF] using e
theorem q_M_windOf_45 (d : Nat) (a : Nat) (x1 : Int32) (x2 : Int32) (x3 : Int32) (σ : Mm) (μ : Ms) (hL : LM σ a)  : run d 130 45 [.ref a, .int (x1), .int (x2), .int (x3)] [] (put σ a μ) = run d 130 48 [.ref a, .int (x1), .int (x2), .int (x3)] [.int ((-1000))] (put σ a μ) := by
  have e := e_M_windOf_45 d a x1 x2 x3 (put σ a μ) 
  simpa only [ar, va_rf, vd, put_F, put_sF] using e
theorem q_M_windOf_48 (d : Nat) (a : Nat) (x1 : Int32) (x2 : Int32) (x3 : Int32) (y0 : Int32) (σ : Mm) (μ : Ms) (hL : LM σ a)  : run d 130 48 [.ref a, .int (x1), .int (x2), .int (x3)] [.int (y0)] (put σ a μ) = some (some (.int (y0)), (put σ a μ)) := by
  have e := e_M_windOf_48 d a x1 x2 x3 y0 (put σ a μ) 
  simpa only [ar, va_rf, vd, put_F, put_sF] using e
theorem q_M_isBoat_0 (d : Nat) (a : Nat) (x1 : Int32) (σ : Mm) (μ : Ms) (hL : LM σ a)  : run d 131 0 [.ref a, .int (x1)] [] (put σ a μ) = if x1 < 0 then run d 131 16 [.ref a, .int (x1)] [] (put σ a μ) else run d 131 4 [.ref a, .int (x1)] [] (put σ a μ) := by
  have e := e_M_isBoat_0 d a x1 (put σ a μ) 
  simpa only [ar, va_rf, vd, put_F, put_sF] using e
theorem q_M_isBoat_4 (d : Nat) (a : Nat) (x1 : Int32) (σ : Mm) (μ : Ms) (hL : LM σ a)  : run d 131 4 [.ref a, .int (x1)] [] (put σ a μ) = if (μ.1 16) ≤ x1 then run d 131 16 [.ref a, .int (x1)] [] (put σ a μ) else run d 131 12 [.ref a, .int (x1)] [] (put σ a μ) := by
  have e := e_M_isBoat_4 d a x1 (put σ a μ) (hL.K μ)
  simpa only [ar, va_rf, vd, put_F, put_sF] using e
theorem q_M_isBoat_12 (d : Nat) (a : Nat) (x1 : Int32) (σ : Mm) (μ : Ms) (hL : LM σ a)  : run d 131 12 [.ref a, .int (x1)] [] (put σ a μ) = run d 131 17 [.ref a, .int (x1)] [.int (1)] (put σ a μ) := by
  have e := e_M_isBoat_12 d a x1 (put σ a μ) 
  simpa only [ar, va_rf, vd, put_F, put_sF] using e
theorem q_M_isBoat_16 (d : Nat) (a : Nat) (x1 : Int32) (σ : Mm) (μ : Ms) (hL : LM σ a)  : run d 131 16 [.ref a, .int (x1)] [] (put σ a μ) = run d 131 17 [.ref a, .int (x1)] [.int (0)] (put σ a μ) := by
  have e := e_M_isBoat_16 d a x1 (put σ a μ) 
  simpa only [ar, va_rf, vd, put_F, put_sF] using e
theorem q_M_isBoat_17 (d : Nat) (a : Nat) (x1 : Int32) (y0 : Int32) (σ : Mm) (μ : Ms) (hL : LM σ a) (g0 : y0 = 0 ∨ y0 = 1) : run d 131 17 [.ref a, .int (x1)] [.int (y0)] (put σ a μ) = some (some (.int (y0)), (put σ a μ)) := by
  have e := e_M_isBoat_17 d a x1 y0 (put σ a μ) (by simpa only [ar, va_rf, vd, put_F, put_sF] using g0)
  simpa only [ar, va_rf, vd, put_F, put_sF] using e
theorem q_M_isMoored_0 (d : Nat) (a : Nat) (x1 : Int32) (σ : Mm) (μ : Ms) (hL : LM σ a)  : run (d + 1) 132 0 [.ref a, .int (x1)] [] (put σ a μ) = (runc d 131 [.ref a, .int (x1)] (put σ a μ)).bind (fun q => run (d + 1) 132 5 [.ref a, .int (x1)] (psh q.1 []) q.2) := by
  have e := e_M_isMoored_0 d a x1 (put σ a μ) (hL.K μ)
  simpa only [ar, va_rf, vd, put_F, put_sF] using e
theorem q_M_isMoored_5 (d : Nat) (a : Nat) (x1 : Int32) (y0 : Int32) (σ : Mm) (μ : Ms) (hL : LM σ a)  : run d 132 5 [.ref a, .int (x1)] [.int (y0)] (put σ a μ) = if y0 = 0 then run d 132 21 [.ref a, .int (x1)] [] (put σ a μ) else run d 132 8 [.ref a, .int (x1)] [] (put σ a μ) := by
  have e := e_M_isMoored_5 d a x1 y0 (put σ a μ) 
  simpa only [ar, va_rf, vd, put_F, put_sF] using e
theorem q_M_isMoored_8 (d : Nat) (a : Nat) (x1 : Int32) (σ : Mm) (μ : Ms) (hL : LM σ a) (g0 : ix x1 6 = true) : run d 132 8 [.ref a, .int (x1)] [] (put σ a μ) = if ¬ (μ.2 24 (x1 : Int32).toNatClampNeg) = 0 then run d 132 21 [.ref a, .int (x1)] [] (put σ a μ) else run d 132 17 [.ref a, .int (x1)] [] (put σ a μ) := by
  have e := e_M_isMoored_8 d a x1 (put σ a μ) (hL.K μ) (by simp only [ar, va_rf, vd, put_F, put_sF, pP_24 hL, pK_24 hL, pN_24 hL, pA_24, pS_24]; rfl) (by simp only [ar, va_rf, vd, put_F, put_sF, pP_24 hL, pK_24 hL, pN_24 hL, pA_24, pS_24]; rfl) (by simpa only [ar, va_rf, vd, put_F, put_sF, pP_24 hL, pK_24 hL, pN_24 hL, pA_24, pS_24] using g0)
  simpa only [ar, va_rf, vd, put_F, put_sF, pP_24 hL, pK_24 hL, pN_24 hL, pA_24, pS_24] using e
theorem q_M_isMoored_17 (d : Nat) (a : Nat) (x1 : Int32) (σ : Mm) (μ : Ms) (hL : LM σ a)  : run d 132 17 [.ref a, .int (x1)] [] (put σ a μ) = run d 132 22 [.ref a, .int (x1)] [.int (1)] (put σ a μ) := by
  have e := e_M_isMoored_17 d a x1 (put σ a μ) 
  simpa only [ar, va_rf, vd, put_F, put_sF] using e
theorem q_M_isMoored_21 (d : Nat) (a : Nat) (x1 : Int32) (σ : Mm) (μ : Ms) (hL : LM σ a)  : run d 132 21 [.ref a, .int (x1)] [] (put σ a μ) = run d 132 22 [.ref a, .int (x1)] [.int (0)] (put σ a μ) := by
  have e := e_M_isMoored_21 d a x1 (put σ a μ) 
  simpa only [ar, va_rf, vd, put_F, put_sF] using e
theorem q_M_isMoored_22 (d : Nat) (a : Nat) (x1 : Int32) (y0 : Int32) (σ : Mm) (μ : Ms) (hL : LM σ a) (g0 : y0 = 0 ∨ y0 = 1) : run d 132 22 [.ref a, .int (x1)] [.int (y0)] (put σ a μ) = some (some (.int (y0)), (put σ a μ)) := by
  have e := e_M_isMoored_22 d a x1 y0 (put σ a μ) (by simpa only [ar, va_rf, vd, put_F, put_sF] using g0)
  simpa only [ar, va_rf, vd, put_F, put_sF] using e
theorem q_M_freeAt_0 (d : Nat) (a : Nat) (x1 : Int32) (u2 : Value) (u3 : Value) (σ : Mm) (μ : Ms) (hL : LM σ a) (g0 : ix x1 12 = true) : run d 133 0 [.ref a, .int (x1), u2, u3] [] (put σ a μ) = run d 133 9 [.ref a, .int (x1), .int (μ.2 3 (x1 : Int32).toNatClampNeg), .int (0)] [] (put σ a μ) := by
  have e := e_M_freeAt_0 d a x1 u2 u3 (put σ a μ) (hL.K μ) (by simp only [ar, va_rf, vd, put_F, put_sF, pP_3 hL, pK_3 hL, pN_3 hL, pA_3, pS_3]; rfl) (by simp only [ar, va_rf, vd, put_F, put_sF, pP_3 hL, pK_3 hL, pN_3 hL, pA_3, pS_3]; rfl) (by simpa only [ar, va_rf, vd, put_F, put_sF, pP_3 hL, pK_3 hL, pN_3 hL, pA_3, pS_3] using g0)
  simpa only [ar, va_rf, vd, put_F, put_sF, pP_3 hL, pK_3 hL, pN_3 hL, pA_3, pS_3] using e
theorem q_M_freeAt_9 (d : Nat) (a : Nat) (x1 : Int32) (x2 : Int32) (x3 : Int32) (σ : Mm) (μ : Ms) (hL : LM σ a)  : run d 133 9 [.ref a, .int (x1), .int (x2), .int (x3)] [] (put σ a μ) = if (μ.1 16) ≤ x3 then run d 133 50 [.ref a, .int (x1), .int (x2), .int (x3)] [] (put σ a μ) else run d 133 17 [.ref a, .int (x1), .int (x2), .int (x3)] [] (put σ a μ) := by
  have e := e_M_freeAt_9 d a x1 x2 x3 (put σ a μ) (hL.K μ)
  simpa only [ar, va_rf, vd, put_F, put_sF] using e
theorem q_M_freeAt_17 (d : Nat) (a : Nat) (x1 : Int32) (x2 : Int32) (x3 : Int32) (σ : Mm) (μ : Ms) (hL : LM σ a) (g0 : ix x3 6 = true) : run d 133 17 [.ref a, .int (x1), .int (x2), .int (x3)] [] (put σ a μ) = if ¬ (μ.2 24 (x3 : Int32).toNatClampNeg) = 0 then run d 133 41 [.ref a, .int (x1), .int (x2), .int (x3)] [.int (x2)] (put σ a μ) else run d 133 27 [.ref a, .int (x1), .int (x2), .int (x3)] [.int (x2)] (put σ a μ) := by
  have e := e_M_freeAt_17 d a x1 x2 x3 (put σ a μ) (hL.K μ) (by simp only [ar, va_rf, vd, put_F, put_sF, pP_24 hL, pK_24 hL, pN_24 hL, pA_24, pS_24]; rfl) (by simp only [ar, va_rf, vd, put_F, put_sF, pP_24 hL, pK_24 hL, pN_24 hL, pA_24, pS_24]; rfl) (by simpa only [ar, va_rf, vd, put_F, put_sF, pP_24 hL, pK_24 hL, pN_24 hL, pA_24, pS_24] using g0)
  simpa only [ar, va_rf, vd, put_F, put_sF, pP_24 hL, pK_24 hL, pN_24 hL, pA_24, pS_24] using e
theorem q_M_freeAt_27 (d : Nat) (a : Nat) (x1 : Int32) (x2 : Int32) (x3 : Int32) (y0 : Int32) (σ : Mm) (μ : Ms) (hL : LM σ a) (g0 : ix x3 6 = true) : run d 133 27 [.ref a, .int (x1), .int (x2), .int (x3)] [.int (y0)] (put σ a μ) = if ¬ (μ.2 25 (x3 : Int32).toNatClampNeg) = x1 then run d 133 41 [.ref a, .int (x1), .int (x2), .int (x3)] [.int (y0)] (put σ a μ) else run d 133 37 [.ref a, .int (x1), .int (x2), .int (x3)] [.int (y0)] (put σ a μ) := by
  have e := e_M_freeAt_27 d a x1 x2 x3 y0 (put σ a μ) (hL.K μ) (by simp only [ar, va_rf, vd, put_F, put_sF, pP_25 hL, pK_25 hL, pN_25 hL, pA_25, pS_25]; rfl) (by simp only [ar, va_rf, vd, put_F, put_sF, pP_25 hL, pK_25 hL, pN_25 hL, pA_25, pS_25]; rfl) (by simpa only [ar, va_rf, vd, put_F, put_sF, pP_25 hL, pK_25 hL, pN_25 hL, pA_25, pS_25] using g0)
  simpa only [ar, va_rf, vd, put_F, put_sF, pP_25 hL, pK_25 hL, pN_25 hL, pA_25, pS_25] using e
theorem q_M_freeAt_37 (d : Nat) (a : Nat) (x1 : Int32) (x2 : Int32) (x3 : Int32) (y0 : Int32) (σ : Mm) (μ : Ms) (hL : LM σ a)  : run d 133 37 [.ref a, .int (x1), .int (x2), .int (x3)] [.int (y0)] (put σ a μ) = run d 133 42 [.ref a, .int (x1), .int (x2), .int (x3)] [.int (1), .int (y0)] (put σ a μ) := by
  have e := e_M_freeAt_37 d a x1 x2 x3 y0 (put σ a μ) 
  simpa only [ar, va_rf, vd, put_F, put_sF] using e
theorem q_M_freeAt_41 (d : Nat) (a : Nat) (x1 : Int32) (x2 : Int32) (x3 : Int32) (y0 : Int32) (σ : Mm) (μ : Ms) (hL : LM σ a)  : run d 133 41 [.ref a, .int (x1), .int (x2), .int (x3)] [.int (y0)] (put σ a μ) = run d 133 42 [.ref a, .int (x1), .int (x2), .int (x3)] [.int (0), .int (y0)] (put σ a μ) := by
  have e := e_M_freeAt_41 d a x1 x2 x3 y0 (put σ a μ) 
  simpa only [ar, va_rf, vd, put_F, put_sF] using e
theorem q_M_freeAt_42 (d : Nat) (a : Nat) (x1 : Int32) (x2 : Int32) (x3 : Int32) (y0 : Int32) (y1 : Int32) (σ : Mm) (μ : Ms) (hL : LM σ a)  : run d 133 42 [.ref a, .int (x1), .int (x2), .int (x3)] [.int (y0), .int (y1)] (put σ a μ) = run d 133 9 [.ref a, .int (x1), .int (y1 - y0), .int (x3 + 1)] [] (put σ a μ) := by
  have e := e_M_freeAt_42 d a x1 x2 x3 y0 y1 (put σ a μ) 
  simpa only [ar, va_rf, vd, put_F, put_sF] using e
theorem q_M_freeAt_50 (d : Nat) (a : Nat) (x1 : Int32) (x2 : Int32) (x3 : Int32) (σ : Mm) (μ : Ms) (hL : LM σ a)  : run d 133 50 [.ref a, .int (x1), .int (x2), .int (x3)] [] (put σ a μ) = some (some (.int (x2)), (put σ a μ)) := by
  have e := e_M_freeAt_50 d a x1 x2 x3 (put σ a μ) 
  simpa only [ar, va_rf, vd, put_F, put_sF] using e
theorem q_M_free_0 (d : Nat) (a : Nat) (x1 : Int32) (σ : Mm) (μ : Ms) (hL : LM σ a)  : run d 134 0 [.ref a, .int (x1)] [] (put σ a μ) = run d 134 5 [.ref a, .int (x1)] [] (put σ a (fF μ 0 0)) := by
  have e := e_M_free_0 d a x1 (put σ a μ) (hL.K μ)
  simpa only [ar, va_rf, vd, put_F, put_sF] using e
theorem q_M_free_5 (d : Nat) (a : Nat) (x1 : Int32) (σ : Mm) (μ : Ms) (hL : LM σ a)  : run (d + 1) 134 5 [.ref a, .int (x1)] [] (put σ a μ) = (runc d 118 [.ref a, .int (x1)] (put σ a μ)).bind (fun q => run (d + 1) 134 10 [.ref a, .int (x1)] (psh q.1 []) q.2) := by
  have e := e_M_free_5 d a x1 (put σ a μ) (hL.K μ)
  simpa only [ar, va_rf, vd, put_F, put_sF] using e
theorem q_M_free_10 (d : Nat) (a : Nat) (x1 : Int32) (y0 : Int32) (σ : Mm) (μ : Ms) (hL : LM σ a)  : run d 134 10 [.ref a, .int (x1)] [.int (y0)] (put σ a μ) = if y0 = 0 then run d 134 21 [.ref a, .int (x1)] [] (put σ a μ) else run d 134 13 [.ref a, .int (x1)] [] (put σ a μ) := by
  have e := e_M_free_10 d a x1 y0 (put σ a μ) 
  simpa only [ar, va_rf, vd, put_F, put_sF] using e
theorem q_M_free_13 (d : Nat) (a : Nat) (x1 : Int32) (σ : Mm) (μ : Ms) (hL : LM σ a)  : run (d + 1) 134 13 [.ref a, .int (x1)] [] (put σ a μ) = (runc d 133 [.ref a, .int (x1)] (put σ a μ)).bind (fun q => run (d + 1) 134 18 [.ref a, .int (x1)] (psh q.1 []) q.2) := by
  have e := e_M_free_13 d a x1 (put σ a μ) (hL.K μ)
  simpa only [ar, va_rf, vd, put_F, put_sF] using e
theorem q_M_free_18 (d : Nat) (a : Nat) (x1 : Int32) (y0 : Int32) (σ : Mm) (μ : Ms) (hL : LM σ a)  : run d 134 18 [.ref a, .int (x1)] [.int (y0)] (put σ a μ) = run d 134 22 [.ref a, .int (x1)] [.int (y0)] (put σ a μ) := by
  have e := e_M_free_18 d a x1 y0 (put σ a μ) 
  simpa only [ar, va_rf, vd, put_F, put_sF] using e
theorem q_M_free_21 (d : Nat) (a : Nat) (x1 : Int32) (σ : Mm) (μ : Ms) (hL : LM σ a)  : run d 134 21 [.ref a, .int (x1)] [] (put σ a μ) = run d 134 22 [.ref a, .int (x1)] [.int ((-1))] (put σ a μ) := by
  have e := e_M_free_21 d a x1 (put σ a μ) 
  simpa only [ar, va_rf, vd, put_F, put_sF] using e
theorem q_M_free_22 (d : Nat) (a : Nat) (x1 : Int32) (y0 : Int32) (σ : Mm) (μ : Ms) (hL : LM σ a)  : run d 134 22 [.ref a, .int (x1)] [.int (y0)] (put σ a μ) = some (some (.int (y0)), (put σ a μ)) := by
  have e := e_M_free_22 d a x1 y0 (put σ a μ) 
  simpa only [ar, va_rf, vd, put_F, put_sF] using e
theorem q_M_boat_0 (d : Nat) (a : Nat) (x1 : Int32) (x2 : Int32) (x3 : Int32) (x4 : Int32) (x5 : Int32) (x6 : Int32) (x7 : Int32) (x8 : Int32) (σ : Mm) (μ : Ms) (hL : LM σ a)  : run d 135 0 [.ref a, .int (x1), .int (x2), .int (x3), .int (x4), .int (x5), .int (x6), .int (x7), .int (x8)] [] (put σ a μ) = run d 135 5 [.ref a, .int (x1), .int (x2), .int (x3), .int (x4), .int (x5), .int (x6), .int (x7), .int (x8)] [] (put σ a (fF μ 0 0)) := by
  have e := e_M_boat_0 d a x1 x2 x3 x4 x5 x6 x7 x8 (put σ a μ) (hL.K μ)
  simpa only [ar, va_rf, vd, put_F, put_sF] using e
theorem q_M_boat_5 (d : Nat) (a : Nat) (x1 : Int32) (x2 : Int32) (x3 : Int32) (x4 : Int32) (x5 : Int32) (x6 : Int32) (x7 : Int32) (x8 : Int32) (σ : Mm) (μ : Ms) (hL : LM σ a)  : run d 135 5 [.ref a, .int (x1), .int (x2), .int (x3), .int (x4), .int (x5), .int (x6), .int (x7), .int (x8)] [] (put σ a μ) = if (μ.1 16) = 6 then run d 135 30 [.ref a, .int (x1), .int (x2), .int (x3), .int (x4), .int (x5), .int (x6), .int (x7), .int (x8)] [] (put σ a μ) else run d 135 14 [.ref a, .int (x1), .int (x2), .int (x3), .int (x4), .int (x5), .int (x6), .int (x7), .int (x8)] [] (put σ a μ) := by
  have e := e_M_boat_5 d a x1 x2 x3 x4 x5 x6 x7 x8 (put σ a μ) (hL.K μ)
  simpa only [ar, va_rf, vd, put_F, put_sF] using e
theorem q_M_boat_14 (d : Nat) (a : Nat) (x1 : Int32) (x2 : Int32) (x3 : Int32) (x4 : Int32) (x5 : Int32) (x6 : Int32) (x7 : Int32) (x8 : Int32) (σ : Mm) (μ : Ms) (hL : LM σ a)  : run (d + 1) 135 14 [.ref a, .int (x1), .int (x2), .int (x3), .int (x4), .int (x5), .int (x6), .int (x7), .int (x8)] [] (put σ a μ) = (runc d 118 [.ref a, .int (x1)] (put σ a μ)).bind (fun q => run (d + 1) 135 19 [.ref a, .int (x1), .int (x2), .int (x3), .int (x4), .int (x5), .int (x6), .int (x7), .int (x8)] (psh q.1 []) q.2) := by
  have e := e_M_boat_14 d a x1 x2 x3 x4 x5 x6 x7 x8 (put σ a μ) (hL.K μ)
  simpa only [ar, va_rf, vd, put_F, put_sF] using e
theorem q_M_boat_19 (d : Nat) (a : Nat) (x1 : Int32) (x2 : Int32) (x3 : Int32) (x4 : Int32) (x5 : Int32) (x6 : Int32) (x7 : Int32) (x8 : Int32) (y0 : Int32) (σ : Mm) (μ : Ms) (hL : LM σ a)  : run d 135 19 [.ref a, .int (x1), .int (x2), .int (x3), .int (x4), .int (x5), .int (x6), .int (x7), .int (x8)] [.int (y0)] (put σ a μ) = if y0 = 0 then run d 135 30 [.ref a, .int (x1), .int (x2), .int (x3), .int (x4), .int (x5), .int (x6), .int (x7), .int (x8)] [] (put σ a μ) else run d 135 22 [.ref a, .int (x1), .int (x2), .int (x3), .int (x4), .int (x5), .int (x6), .int (x7), .int (x8)] [] (put σ a μ) := by
  have e := e_M_boat_19 d a x1 x2 x3 x4 x5 x6 x7 x8 y0 (put σ a μ) 
  simpa only [ar, va_rf, vd, put_F, put_sF] using e
theorem q_M_boat_22 (d : Nat) (a : Nat) (x1 : Int32) (x2 : Int32) (x3 : Int32) (x4 : Int32) (x5 : Int32) (x6 : Int32) (x7 : Int32) (x8 : Int32) (σ : Mm) (μ : Ms) (hL : LM σ a)  : run (d + 1) 135 22 [.ref a, .int (x1), .int (x2), .int (x3), .int (x4), .int (x5), .int (x6), .int (x7), .int (x8)] [] (put σ a μ) = (runc d 133 [.ref a, .int (x1)] (put σ a μ)).bind (fun q => run (d + 1) 135 27 [.ref a, .int (x1), .int (x2), .int (x3), .int (x4), .int (x5), .int (x6), .int (x7), .int (x8)] (psh q.1 []) q.2) := by
  have e := e_M_boat_22 d a x1 x2 x3 x4 x5 x6 x7 x8 (put σ a μ) (hL.K μ)
  simpa only [ar, va_rf, vd, put_F, put_sF] using e
theorem q_M_boat_27 (d : Nat) (a : Nat) (x1 : Int32) (x2 : Int32) (x3 : Int32) (x4 : Int32) (x5 : Int32) (x6 : Int32) (x7 : Int32) (x8 : Int32) (y0 : Int32) (σ : Mm) (μ : Ms) (hL : LM σ a)  : run d 135 27 [.ref a, .int (x1), .int (x2), .int (x3), .int (x4), .int (x5), .int (x6), .int (x7), .int (x8)] [.int (y0)] (put σ a μ) = if ¬ y0 = 0 then run d 135 32 [.ref a, .int (x1), .int (x2), .int (x3), .int (x4), .int (x5), .int (x6), .int (x7), .int (x8)] [] (put σ a μ) else run d 135 30 [.ref a, .int (x1), .int (x2), .int (x3), .int (x4), .int (x5), .int (x6), .int (x7), .int (x8)] [] (put σ a μ) := by
  have e := e_M_boat_27 d a x1 x2 x3 x4 x5 x6 x7 x8 y0 (put σ a μ) 
  simpa only [ar, va_rf, vd, put_F, put_sF] using e
theorem q_M_boat_30 (d : Nat) (a : Nat) (x1 : Int32) (x2 : Int32) (x3 : Int32) (x4 : Int32) (x5 : Int32) (x6 : Int32) (x7 : Int32) (x8 : Int32) (σ : Mm) (μ : Ms) (hL : LM σ a)  : run d 135 30 [.ref a, .int (x1), .int (x2), .int (x3), .int (x4), .int (x5), .int (x6), .int (x7), .int (x8)] [] (put σ a μ) = some (some (.int ((-1))), (put σ a μ)) := by
  have e := e_M_boat_30 d a x1 x2 x3 x4 x5 x6 x7 x8 (put σ a μ) 
  simpa only [ar, va_rf, vd, put_F, put_sF] using e
theorem q_M_boat_32 (d : Nat) (a : Nat) (x1 : Int32) (x2 : Int32) (x3 : Int32) (x4 : Int32) (x5 : Int32) (x6 : Int32) (x7 : Int32) (x8 : Int32) (σ : Mm) (μ : Ms) (hL : LM σ a)  : run (d + 1) 135 32 [.ref a, .int (x1), .int (x2), .int (x3), .int (x4), .int (x5), .int (x6), .int (x7), .int (x8)] [] (put σ a μ) = (runc d 115 [.int (x2), .int (1000), .int (40000)] (put σ a μ)).bind (fun q => run (d + 1) 135 41 [.ref a, .int (x1), .int (x2), .int (x3), .int (x4), .int (x5), .int (x6), .int (x7), .int (x8)] (psh q.1 []) q.2) := by
  have e := e_M_boat_32 d a x1 x2 x3 x4 x5 x6 x7 x8 (put σ a μ) 
  simpa only [ar, va_rf, vd, put_F, put_sF] using e
theorem q_M_boat_41 (d : Nat) (a : Nat) (x1 : Int32) (x2 : Int32) (x3 : Int32) (x4 : Int32) (x5 : Int32) (x6 : Int32) (x7 : Int32) (x8 : Int32) (y0 : Int32) (σ : Mm) (μ : Ms) (hL : LM σ a)  : run d 135 41 [.ref a, .int (x1), .int (x2), .int (x3), .int (x4), .int (x5), .int (x6), .int (x7), .int (x8)] [.int (y0)] (put σ a μ) = if y0 = 0 then run d 135 118 [.ref a, .int (x1), .int (x2), .int (x3), .int (x4), .int (x5), .int (x6), .int (x7), .int (x8)] [] (put σ a μ) else run d 135 44 [.ref a, .int (x1), .int (x2), .int (x3), .int (x4), .int (x5), .int (x6), .int (x7), .int (x8)] [] (put σ a μ) := by
  have e := e_M_boat_41 d a x1 x2 x3 x4 x5 x6 x7 x8 y0 (put σ a μ) 
  simpa only [ar, va_rf, vd, put_F, put_sF] using e
theorem q_M_boat_44 (d : Nat) (a : Nat) (x1 : Int32) (x2 : Int32) (x3 : Int32) (x4 : Int32) (x5 : Int32) (x6 : Int32) (x7 : Int32) (x8 : Int32) (σ : Mm) (μ : Ms) (hL : LM σ a)  : run (d + 1) 135 44 [.ref a, .int (x1), .int (x2), .int (x3), .int (x4), .int (x5), .int (x6), .int (x7), .int (x8)] [] (put σ a μ) = (runc d 115 [.int (x3), .int (1000), .int (90000)] (put σ a μ)).bind (fun q => run (d + 1) 135 53 [.ref a, .int (x1), .int (x2), .int (x3), .int (x4), .int (x5), .int (x6), .int (x7), .int (x8)] (psh q.1 []) q.2) := by
  have e := e_M_boat_44 d a x1 x2 x3 x4 x5 x6 x7 x8 (put σ a μ) 
  simpa only [ar, va_rf, vd, put_F, put_sF] using e
theorem q_M_boat_53 (d : Nat) (a : Nat) (x1 : Int32) (x2 : Int32) (x3 : Int32) (x4 : Int32) (x5 : Int32) (x6 : Int32) (x7 : Int32) (x8 : Int32) (y0 : Int32) (σ : Mm) (μ : Ms) (hL : LM σ a)  : run d 135 53 [.ref a, .int (x1), .int (x2), .int (x3), .int (x4), .int (x5), .int (x6), .int (x7), .int (x8)] [.int (y0)] (put σ a μ) = if y0 = 0 then run d 135 118 [.ref a, .int (x1), .int (x2), .int (x3), .int (x4), .int (x5), .int (x6), .int (x7), .int (x8)] [] (put σ a μ) else run d 135 56 [.ref a, .int (x1), .int (x2), .int (x3), .int (x4), .int (x5), .int (x6), .int (x7), .int (x8)] [] (put σ a μ) := by
  have e := e_M_boat_53 d a x1 x2 x3 x4 x5 x6 x7 x8 y0 (put σ a μ) 
  simpa only [ar, va_rf, vd, put_F, put_sF] using e
theorem q_M_boat_56 (d : Nat) (a : Nat) (x1 : Int32) (x2 : Int32) (x3 : Int32) (x4 : Int32) (x5 : Int32) (x6 : Int32) (x7 : Int32) (x8 : Int32) (σ : Mm) (μ : Ms) (hL : LM σ a)  : run (d + 1) 135 56 [.ref a, .int (x1), .int (x2), .int (x3), .int (x4), .int (x5), .int (x6), .int (x7), .int (x8)] [] (put σ a μ) = (runc d 115 [.int (x4), .int (60), .int (200)] (put σ a μ)).bind (fun q => run (d + 1) 135 66 [.ref a, .int (x1), .int (x2), .int (x3), .int (x4), .int (x5), .int (x6), .int (x7), .int (x8)] (psh q.1 []) q.2) := by
  have e := e_M_boat_56 d a x1 x2 x3 x4 x5 x6 x7 x8 (put σ a μ) 
  simpa only [ar, va_rf, vd, put_F, put_sF] using e
theorem q_M_boat_66 (d : Nat) (a : Nat) (x1 : Int32) (x2 : Int32) (x3 : Int32) (x4 : Int32) (x5 : Int32) (x6 : Int32) (x7 : Int32) (x8 : Int32) (y0 : Int32) (σ : Mm) (μ : Ms) (hL : LM σ a)  : run d 135 66 [.ref a, .int (x1), .int (x2), .int (x3), .int (x4), .int (x5), .int (x6), .int (x7), .int (x8)] [.int (y0)] (put σ a μ) = if y0 = 0 then run d 135 118 [.ref a, .int (x1), .int (x2), .int (x3), .int (x4), .int (x5), .int (x6), .int (x7), .int (x8)] [] (put σ a μ) else run d 135 69 [.ref a, .int (x1), .int (x2), .int (x3), .int (x4), .int (x5), .int (x6), .int (x7), .int (x8)] [] (put σ a μ) := by
  have e := e_M_boat_66 d a x1 x2 x3 x4 x5 x6 x7 x8 y0 (put σ a μ) 
  simpa only [ar, va_rf, vd, put_F, put_sF] using e
theorem q_M_boat_69 (d : Nat) (a : Nat) (x1 : Int32) (x2 : Int32) (x3 : Int32) (x4 : Int32) (x5 : Int32) (x6 : Int32) (x7 : Int32) (x8 : Int32) (σ : Mm) (μ : Ms) (hL : LM σ a)  : run (d + 1) 135 69 [.ref a, .int (x1), .int (x2), .int (x3), .int (x4), .int (x5), .int (x6), .int (x7), .int (x8)] [] (put σ a μ) = (runc d 115 [.int (x5), .int (10), .int (300)] (put σ a μ)).bind (fun q => run (d + 1) 135 79 [.ref a, .int (x1), .int (x2), .int (x3), .int (x4), .int (x5), .int (x6), .int (x7), .int (x8)] (psh q.1 []) q.2) := by
  have e := e_M_boat_69 d a x1 x2 x3 x4 x5 x6 x7 x8 (put σ a μ) 
  simpa only [ar, va_rf, vd, put_F, put_sF] using e
theorem q_M_boat_79 (d : Nat) (a : Nat) (x1 : Int32) (x2 : Int32) (x3 : Int32) (x4 : Int32) (x5 : Int32) (x6 : Int32) (x7 : Int32) (x8 : Int32) (y0 : Int32) (σ : Mm) (μ : Ms) (hL : LM σ a)  : run d 135 79 [.ref a, .int (x1), .int (x2), .int (x3), .int (x4), .int (x5), .int (x6), .int (x7), .int (x8)] [.int (y0)] (put σ a μ) = if y0 = 0 then run d 135 118 [.ref a, .int (x1), .int (x2), .int (x3), .int (x4), .int (x5), .int (x6), .int (x7), .int (x8)] [] (put σ a μ) else run d 135 82 [.ref a, .int (x1), .int (x2), .int (x3), .int (x4), .int (x5), .int (x6), .int (x7), .int (x8)] [] (put σ a μ) := by
  have e := e_M_boat_79 d a x1 x2 x3 x4 x5 x6 x7 x8 y0 (put σ a μ) 
  simpa only [ar, va_rf, vd, put_F, put_sF] using e
theorem q_M_boat_82 (d : Nat) (a : Nat) (x1 : Int32) (x2 : Int32) (x3 : Int32) (x4 : Int32) (x5 : Int32) (x6 : Int32) (x7 : Int32) (x8 : Int32) (σ : Mm) (μ : Ms) (hL : LM σ a)  : run (d + 1) 135 82 [.ref a, .int (x1), .int (x2), .int (x3), .int (x4), .int (x5), .int (x6), .int (x7), .int (x8)] [] (put σ a μ) = (runc d 115 [.int (x6), .int (50), .int (3000)] (put σ a μ)).bind (fun q => run (d + 1) 135 92 [.ref a, .int (x1), .int (x2), .int (x3), .int (x4), .int (x5), .int (x6), .int (x7), .int (x8)] (psh q.1 []) q.2) := by
  have e := e_M_boat_82 d a x1 x2 x3 x4 x5 x6 x7 x8 (put σ a μ) 
  simpa only [ar, va_rf, vd, put_F, put_sF] using e
theorem q_M_boat_92 (d : Nat) (a : Nat) (x1 : Int32) (x2 : Int32) (x3 : Int32) (x4 : Int32) (x5 : Int32) (x6 : Int32) (x7 : Int32) (x8 : Int32) (y0 : Int32) (σ : Mm) (μ : Ms) (hL : LM σ a)  : run d 135 92 [.ref a, .int (x1), .int (x2), .int (x3), .int (x4), .int (x5), .int (x6), .int (x7), .int (x8)] [.int (y0)] (put σ a μ) = if y0 = 0 then run d 135 118 [.ref a, .int (x1), .int (x2), .int (x3), .int (x4), .int (x5), .int (x6), .int (x7), .int (x8)] [] (put σ a μ) else run d 135 95 [.ref a, .int (x1), .int (x2), .int (x3), .int (x4), .int (x5), .int (x6), .int (x7), .int (x8)] [] (put σ a μ) := by
  have e := e_M_boat_92 d a x1 x2 x3 x4 x5 x6 x7 x8 y0 (put σ a μ) 
  simpa only [ar, va_rf, vd, put_F, put_sF] using e
theorem q_M_boat_95 (d : Nat) (a : Nat) (x1 : Int32) (x2 : Int32) (x3 : Int32) (x4 : Int32) (x5 : Int32) (x6 : Int32) (x7 : Int32) (x8 : Int32) (σ : Mm) (μ : Ms) (hL : LM σ a)  : run (d + 1) 135 95 [.ref a, .int (x1), .int (x2), .int (x3), .int (x4), .int (x5), .int (x6), .int (x7), .int (x8)] [] (put σ a μ) = (runc d 115 [.int (x7), .int (0), .int (20000)] (put σ a μ)).bind (fun q => run (d + 1) 135 104 [.ref a, .int (x1), .int (x2), .int (x3), .int (x4), .int (x5), .int (x6), .int (x7), .int (x8)] (psh q.1 []) q.2) := by
  have e := e_M_boat_95 d a x1 x2 x3 x4 x5 x6 x7 x8 (put σ a μ) 
  simpa only [ar, va_rf, vd, put_F, put_sF] using e
theorem q_M_boat_104 (d : Nat) (a : Nat) (x1 : Int32) (x2 : Int32) (x3 : Int32) (x4 : Int32) (x5 : Int32) (x6 : Int32) (x7 : Int32) (x8 : Int32) (y0 : Int32) (σ : Mm) (μ : Ms) (hL : LM σ a)  : run d 135 104 [.ref a, .int (x1), .int (x2), .int (x3), .int (x4), .int (x5), .int (x6), .int (x7), .int (x8)] [.int (y0)] (put σ a μ) = if y0 = 0 then run d 135 118 [.ref a, .int (x1), .int (x2), .int (x3), .int (x4), .int (x5), .int (x6), .int (x7), .int (x8)] [] (put σ a μ) else run d 135 107 [.ref a, .int (x1), .int (x2), .int (x3), .int (x4), .int (x5), .int (x6), .int (x7), .int (x8)] [] (put σ a μ) := by
  have e := e_M_boat_104 d a x1 x2 x3 x4 x5 x6 x7 x8 y0 (put σ a μ) 
  simpa only [ar, va_rf, vd, put_F, put_sF] using e
theorem q_M_boat_107 (d : Nat) (a : Nat) (x1 : Int32) (x2 : Int32) (x3 : Int32) (x4 : Int32) (x5 : Int32) (x6 : Int32) (x7 : Int32) (x8 : Int32) (σ : Mm) (μ : Ms) (hL : LM σ a)  : run (d + 1) 135 107 [.ref a, .int (x1), .int (x2), .int (x3), .int (x4), .int (x5), .int (x6), .int (x7), .int (x8)] [] (put σ a μ) = (runc d 115 [.int (x8), .int (2), .int (9)] (put σ a μ)).bind (fun q => run (d + 1) 135 115 [.ref a, .int (x1), .int (x2), .int (x3), .int (x4), .int (x5), .int (x6), .int (x7), .int (x8)] (psh q.1 []) q.2) := by
  have e := e_M_boat_107 d a x1 x2 x3 x4 x5 x6 x7 x8 (put σ a μ) 
  simpa only [ar, va_rf, vd, put_F, put_sF] using e
theorem q_M_boat_115 (d : Nat) (a : Nat) (x1 : Int32) (x2 : Int32) (x3 : Int32) (x4 : Int32) (x5 : Int32) (x6 : Int32) (x7 : Int32) (x8 : Int32) (y0 : Int32) (σ : Mm) (μ : Ms) (hL : LM σ a)  : run d 135 115 [.ref a, .int (x1), .int (x2), .int (x3), .int (x4), .int (x5), .int (x6), .int (x7), .int (x8)] [.int (y0)] (put σ a μ) = if ¬ y0 = 0 then run d 135 120 [.ref a, .int (x1), .int (x2), .int (x3), .int (x4), .int (x5), .int (x6), .int (x7), .int (x8)] [] (put σ a μ) else run d 135 118 [.ref a, .int (x1), .int (x2), .int (x3), .int (x4), .int (x5), .int (x6), .int (x7), .int (x8)] [] (put σ a μ) := by
  have e := e_M_boat_115 d a x1 x2 x3 x4 x5 x6 x7 x8 y0 (put σ a μ) 
  simpa only [ar, va_rf, vd, put_F, put_sF] using e
theorem q_M_boat_118 (d : Nat) (a : Nat) (x1 : Int32) (x2 : Int32) (x3 : Int32) (x4 : Int32) (x5 : Int32) (x6 : Int32) (x7 : Int32) (x8 : Int32) (σ : Mm) (μ : Ms) (hL : LM σ a)  : run d 135 118 [.ref a, .int (x1), .int (x2), .int (x3), .int (x4), .int (x5), .int (x6), .int (x7), .int (x8)] [] (put σ a μ) = some (some (.int ((-1))), (put σ a μ)) := by
  have e := e_M_boat_118 d a x1 x2 x3 x4 x5 x6 x7 x8 (put σ a μ) 
  simpa only [ar, va_rf, vd, put_F, put_sF] using e
theorem q_M_boat_120 (d : Nat) (a : Nat) (x1 : Int32) (x2 : Int32) (x3 : Int32) (x4 : Int32) (x5 : Int32) (x6 : Int32) (x7 : Int32) (x8 : Int32) (σ : Mm) (μ : Ms) (hL : LM σ a) (g0 : ix (μ.1 16) 6 = true) : run d 135 120 [.ref a, .int (x1), .int (x2), .int (x3), .int (x4), .int (x5), .int (x6), .int (x7), .int (x8)] [] (put σ a μ) = run d 135 130 [.ref a, .int (x1), .int (x2), .int (x3), .int (x4), .int (x5), .int (x6), .int (x7), .int (x8)] [] (put σ a (fA μ 17 ((μ.1 16 : Int32).toNatClampNeg) x2)) := by
  have e := e_M_boat_120 d a x1 x2 x3 x4 x5 x6 x7 x8 (put σ a μ) (hL.K μ) (by simp only [ar, va_rf, vd, put_F, put_sF, pP_17 hL, pK_17 hL, pN_17 hL, pA_17, pS_17]; rfl) (by simp only [ar, va_rf, vd, put_F, put_sF, pP_17 hL, pK_17 hL, pN_17 hL, pA_17, pS_17]; rfl) (by simpa only [ar, va_rf, vd, put_F, put_sF, pP_17 hL, pK_17 hL, pN_17 hL, pA_17, pS_17] using g0)
  simpa only [ar, va_rf, vd, put_F, put_sF, pP_17 hL, pK_17 hL, pN_17 hL, pA_17, pS_17] using e
theorem q_M_boat_130 (d : Nat) (a : Nat) (x1 : Int32) (x2 : Int32) (x3 : Int32) (x4 : Int32) (x5 : Int32) (x6 : Int32) (x7 : Int32) (x8 : Int32) (σ : Mm) (μ : Ms) (hL : LM σ a) (g0 : ix (μ.1 16) 6 = true) : run d 135 130 [.ref a, .int (x1), .int (x2), .int (x3), .int (x4), .int (x5), .int (x6), .int (x7), .int (x8)] [] (put σ a μ) = run d 135 140 [.ref a, .int (x1), .int (x2), .int (x3), .int (x4), .int (x5), .int (x6), .int (x7), .int (x8)] [] (put σ a (fA μ 18 ((μ.1 16 : Int32).toNatClampNeg) x3)) := by
  have e := e_M_boat_130 d a x1 x2 x3 x4 x5 x6 x7 x8 (put σ a μ) (hL.K μ) (by simp only [ar, va_rf, vd, put_F, put_sF, pP_18 hL, pK_18 hL, pN_18 hL, pA_18, pS_18]; rfl) (by simp only [ar, va_rf, vd, put_F, put_sF, pP_18 hL, pK_18 hL, pN_18 hL, pA_18, pS_18]; rfl) (by simpa only [ar, va_rf, vd, put_F, put_sF, pP_18 hL, pK_18 hL, pN_18 hL, pA_18, pS_18] using g0)
  simpa only [ar, va_rf, vd, put_F, put_sF, pP_18 hL, pK_18 hL, pN_18 hL, pA_18, pS_18] using e
theorem q_M_boat_140 (d : Nat) (a : Nat) (x1 : Int32) (x2 : Int32) (x3 : Int32) (x4 : Int32) (x5 : Int32) (x6 : Int32) (x7 : Int32) (x8 : Int32) (σ : Mm) (μ : Ms) (hL : LM σ a) (g0 : ix (μ.1 16) 6 = true) : run d 135 140 [.ref a, .int (x1), .int (x2), .int (x3), .int (x4), .int (x5), .int (x6), .int (x7), .int (x8)] [] (put σ a μ) = run d 135 151 [.ref a, .int (x1), .int (x2), .int (x3), .int (x4), .int (x5), .int (x6), .int (x7), .int (x8)] [] (put σ a (fA μ 19 ((μ.1 16 : Int32).toNatClampNeg) x4)) := by
  have e := e_M_boat_140 d a x1 x2 x3 x4 x5 x6 x7 x8 (put σ a μ) (hL.K μ) (by simp only [ar, va_rf, vd, put_F, put_sF, pP_19 hL, pK_19 hL, pN_19 hL, pA_19, pS_19]; rfl) (by simp only [ar, va_rf, vd, put_F, put_sF, pP_19 hL, pK_19 hL, pN_19 hL, pA_19, pS_19]; rfl) (by simpa only [ar, va_rf, vd, put_F, put_sF, pP_19 hL, pK_19 hL, pN_19 hL, pA_19, pS_19] using g0)
  simpa only [ar, va_rf, vd, put_F, put_sF, pP_19 hL, pK_19 hL, pN_19 hL, pA_19, pS_19] using e
theorem q_M_boat_151 (d : Nat) (a : Nat) (x1 : Int32) (x2 : Int32) (x3 : Int32) (x4 : Int32) (x5 : Int32) (x6 : Int32) (x7 : Int32) (x8 : Int32) (σ : Mm) (μ : Ms) (hL : LM σ a) (g0 : ix (μ.1 16) 6 = true) : run d 135 151 [.ref a, .int (x1), .int (x2), .int (x3), .int (x4), .int (x5), .int (x6), .int (x7), .int (x8)] [] (put σ a μ) = run d 135 162 [.ref a, .int (x1), .int (x2), .int (x3), .int (x4), .int (x5), .int (x6), .int (x7), .int (x8)] [] (put σ a (fA μ 20 ((μ.1 16 : Int32).toNatClampNeg) x5)) := by
  have e := e_M_boat_151 d a x1 x2 x3 x4 x5 x6 x7 x8 (put σ a μ) (hL.K μ) (by simp only [ar, va_rf, vd, put_F, put_sF, pP_20 hL, pK_20 hL, pN_20 hL, pA_20, pS_20]; rfl) (by simp only [ar, va_rf, vd, put_F, put_sF, pP_20 hL, pK_20 hL, pN_20 hL, pA_20, pS_20]; rfl) (by simpa only [ar, va_rf, vd, put_F, put_sF, pP_20 hL, pK_20 hL, pN_20 hL, pA_20, pS_20] using g0)
  simpa only [ar, va_rf, vd, put_F, put_sF, pP_20 hL, pK_20 hL, pN_20 hL, pA_20, pS_20] using e
theorem q_M_boat_162 (d : Nat) (a : Nat) (x1 : Int32) (x2 : Int32) (x3 : Int32) (x4 : Int32) (x5 : Int32) (x6 : Int32) (x7 : Int32) (x8 : Int32) (σ : Mm) (μ : Ms) (hL : LM σ a) (g0 : ix (μ.1 16) 6 = true) : run d 135 162 [.ref a, .int (x1), .int (x2), .int (x3), .int (x4), .int (x5), .int (x6), .int (x7), .int (x8)] [] (put σ a μ) = run d 135 173 [.ref a, .int (x1), .int (x2), .int (x3), .int (x4), .int (x5), .int (x6), .int (x7), .int (x8)] [] (put σ a (fA μ 21 ((μ.1 16 : Int32).toNatClampNeg) x6)) := by
  have e := e_M_boat_162 d a x1 x2 x3 x4 x5 x6 x7 x8 (put σ a μ) (hL.K μ) (by simp only [ar, va_rf, vd, put_F, put_sF, pP_21 hL, pK_21 hL, pN_21 hL, pA_21, pS_21]; rfl) (by simp only [ar, va_rf, vd, put_F, put_sF, pP_21 hL, pK_21 hL, pN_21 hL, pA_21, pS_21]; rfl) (by simpa only [ar, va_rf, vd, put_F, put_sF, pP_21 hL, pK_21 hL, pN_21 hL, pA_21, pS_21] using g0)
  simpa only [ar, va_rf, vd, put_F, put_sF, pP_21 hL, pK_21 hL, pN_21 hL, pA_21, pS_21] using e
theorem q_M_boat_173 (d : Nat) (a : Nat) (x1 : Int32) (x2 : Int32) (x3 : Int32) (x4 : Int32) (x5 : Int32) (x6 : Int32) (x7 : Int32) (x8 : Int32) (σ : Mm) (μ : Ms) (hL : LM σ a) (g0 : ix (μ.1 16) 6 = true) : run d 135 173 [.ref a, .int (x1), .int (x2), .int (x3), .int (x4), .int (x5), .int (x6), .int (x7), .int (x8)] [] (put σ a μ) = run d 135 184 [.ref a, .int (x1), .int (x2), .int (x3), .int (x4), .int (x5), .int (x6), .int (x7), .int (x8)] [] (put σ a (fA μ 22 ((μ.1 16 : Int32).toNatClampNeg) x7)) := by
  have e := e_M_boat_173 d a x1 x2 x3 x4 x5 x6 x7 x8 (put σ a μ) (hL.K μ) (by simp only [ar, va_rf, vd, put_F, put_sF, pP_22 hL, pK_22 hL, pN_22 hL, pA_22, pS_22]; rfl) (by simp only [ar, va_rf, vd, put_F, put_sF, pP_22 hL, pK_22 hL, pN_22 hL, pA_22, pS_22]; rfl) (by simpa only [ar, va_rf, vd, put_F, put_sF, pP_22 hL, pK_22 hL, pN_22 hL, pA_22, pS_22] using g0)
  simpa only [ar, va_rf, vd, put_F, put_sF, pP_22 hL, pK_22 hL, pN_22 hL, pA_22, pS_22] using e
theorem q_M_boat_184 (d : Nat) (a : Nat) (x1 : Int32) (x2 : Int32) (x3 : Int32) (x4 : Int32) (x5 : Int32) (x6 : Int32) (x7 : Int32) (x8 : Int32) (σ : Mm) (μ : Ms) (hL : LM σ a) (g0 : ix (μ.1 16) 6 = true) : run d 135 184 [.ref a, .int (x1), .int (x2), .int (x3), .int (x4), .int (x5), .int (x6), .int (x7), .int (x8)] [] (put σ a μ) = run d 135 195 [.ref a, .int (x1), .int (x2), .int (x3), .int (x4), .int (x5), .int (x6), .int (x7), .int (x8)] [] (put σ a (fA μ 23 ((μ.1 16 : Int32).toNatClampNeg) x8)) := by
  have e := e_M_boat_184 d a x1 x2 x3 x4 x5 x6 x7 x8 (put σ a μ) (hL.K μ) (by simp only [ar, va_rf, vd, put_F, put_sF, pP_23 hL, pK_23 hL, pN_23 hL, pA_23, pS_23]; rfl) (by simp only [ar, va_rf, vd, put_F, put_sF, pP_23 hL, pK_23 hL, pN_23 hL, pA_23, pS_23]; rfl) (by simpa only [ar, va_rf, vd, put_F, put_sF, pP_23 hL, pK_23 hL, pN_23 hL, pA_23, pS_23] using g0)
  simpa only [ar, va_rf, vd, put_F, put_sF, pP_23 hL, pK_23 hL, pN_23 hL, pA_23, pS_23] using e
theorem q_M_boat_195 (d : Nat) (a : Nat) (x1 : Int32) (x2 : Int32) (x3 : Int32) (x4 : Int32) (x5 : Int32) (x6 : Int32) (x7 : Int32) (x8 : Int32) (σ : Mm) (μ : Ms) (hL : LM σ a) (g0 : ix (μ.1 16) 6 = true) : run d 135 195 [.ref a, .int (x1), .int (x2), .int (x3), .int (x4), .int (x5), .int (x6), .int (x7), .int (x8)] [] (put σ a μ) = run d 135 205 [.ref a, .int (x1), .int (x2), .int (x3), .int (x4), .int (x5), .int (x6), .int (x7), .int (x8)] [] (put σ a (fA μ 24 ((μ.1 16 : Int32).toNatClampNeg) 0)) := by
  have e := e_M_boat_195 d a x1 x2 x3 x4 x5 x6 x7 x8 (put σ a μ) (hL.K μ) (by simp only [ar, va_rf, vd, put_F, put_sF, pP_24 hL, pK_24 hL, pN_24 hL, pA_24, pS_24]; rfl) (by simp only [ar, va_rf, vd, put_F, put_sF, pP_24 hL, pK_24 hL, pN_24 hL, pA_24, pS_24]; rfl) (by simpa only [ar, va_rf, vd, put_F, put_sF, pP_24 hL, pK_24 hL, pN_24 hL, pA_24, pS_24] using g0)
  simpa only [ar, va_rf, vd, put_F, put_sF, pP_24 hL, pK_24 hL, pN_24 hL, pA_24, pS_24] using e
theorem q_M_boat_205 (d : Nat) (a : Nat) (x1 : Int32) (x2 : Int32) (x3 : Int32) (x4 : Int32) (x5 : Int32) (x6 : Int32) (x7 : Int32) (x8 : Int32) (σ : Mm) (μ : Ms) (hL : LM σ a) (g0 : ix (μ.1 16) 6 = true) : run d 135 205 [.ref a, .int (x1), .int (x2), .int (x3), .int (x4), .int (x5), .int (x6), .int (x7), .int (x8)] [] (put σ a μ) = run d 135 215 [.ref a, .int (x1), .int (x2), .int (x3), .int (x4), .int (x5), .int (x6), .int (x7), .int (x8)] [] (put σ a (fA μ 25 ((μ.1 16 : Int32).toNatClampNeg) x1)) := by
  have e := e_M_boat_205 d a x1 x2 x3 x4 x5 x6 x7 x8 (put σ a μ) (hL.K μ) (by simp only [ar, va_rf, vd, put_F, put_sF, pP_25 hL, pK_25 hL, pN_25 hL, pA_25, pS_25]; rfl) (by simp only [ar, va_rf, vd, put_F, put_sF, pP_25 hL, pK_25 hL, pN_25 hL, pA_25, pS_25]; rfl) (by simpa only [ar, va_rf, vd, put_F, put_sF, pP_25 hL, pK_25 hL, pN_25 hL, pA_25, pS_25] using g0)
  simpa only [ar, va_rf, vd, put_F, put_sF, pP_25 hL, pK_25 hL, pN_25 hL, pA_25, pS_25] using e
theorem q_M_boat_215 (d : Nat) (a : Nat) (x1 : Int32) (x2 : Int32) (x3 : Int32) (x4 : Int32) (x5 : Int32) (x6 : Int32) (x7 : Int32) (x8 : Int32) (σ : Mm) (μ : Ms) (hL : LM σ a) (g0 : ix (μ.1 16) 6 = true) : run d 135 215 [.ref a, .int (x1), .int (x2), .int (x3), .int (x4), .int (x5), .int (x6), .int (x7), .int (x8)] [] (put σ a μ) = run d 135 225 [.ref a, .int (x1), .int (x2), .int (x3), .int (x4), .int (x5), .int (x6), .int (x7), .int (x8)] [] (put σ a (fA μ 27 ((μ.1 16 : Int32).toNatClampNeg) 0)) := by
  have e := e_M_boat_215 d a x1 x2 x3 x4 x5 x6 x7 x8 (put σ a μ) (hL.K μ) (by simp only [ar, va_rf, vd, put_F, put_sF, pP_27 hL, pK_27 hL, pN_27 hL, pA_27, pS_27]; rfl) (by simp only [ar, va_rf, vd, put_F, put_sF, pP_27 hL, pK_27 hL, pN_27 hL, pA_27, pS_27]; rfl) (by simpa only [ar, va_rf, vd, put_F, put_sF, pP_27 hL, pK_27 hL, pN_27 hL, pA_27, pS_27] using g0)
  simpa only [ar, va_rf, vd, put_F, put_sF, pP_27 hL, pK_27 hL, pN_27 hL, pA_27, pS_27] using e
theorem q_M_boat_225 (d : Nat) (a : Nat) (x1 : Int32) (x2 : Int32) (x3 : Int32) (x4 : Int32) (x5 : Int32) (x6 : Int32) (x7 : Int32) (x8 : Int32) (σ : Mm) (μ : Ms) (hL : LM σ a) (g0 : ix (μ.1 16) 6 = true) : run d 135 225 [.ref a, .int (x1), .int (x2), .int (x3), .int (x4), .int (x5), .int (x6), .int (x7), .int (x8)] [] (put σ a μ) = run d 135 235 [.ref a, .int (x1), .int (x2), .int (x3), .int (x4), .int (x5), .int (x6), .int (x7), .int (x8)] [] (put σ a (fA μ 28 ((μ.1 16 : Int32).toNatClampNeg) 0)) := by
  have e := e_M_boat_225 d a x1 x2 x3 x4 x5 x6 x7 x8 (put σ a μ) (hL.K μ) (by simp only [ar, va_rf, vd, put_F, put_sF, pP_28 hL, pK_28 hL, pN_28 hL, pA_28, pS_28]; rfl) (by simp only [ar, va_rf, vd, put_F, put_sF, pP_28 hL, pK_28 hL, pN_28 hL, pA_28, pS_28]; rfl) (by simpa only [ar, va_rf, vd, put_F, put_sF, pP_28 hL, pK_28 hL, pN_28 hL, pA_28, pS_28] using g0)
  simpa only [ar, va_rf, vd, put_F, put_sF, pP_28 hL, pK_28 hL, pN_28 hL, pA_28, pS_28] using e
theorem q_M_boat_235 (d : Nat) (a : Nat) (x1 : Int32) (x2 : Int32) (x3 : Int32) (x4 : Int32) (x5 : Int32) (x6 : Int32) (x7 : Int32) (x8 : Int32) (σ : Mm) (μ : Ms) (hL : LM σ a) (g0 : ix (μ.1 16) 6 = true) : run d 135 235 [.ref a, .int (x1), .int (x2), .int (x3), .int (x4), .int (x5), .int (x6), .int (x7), .int (x8)] [] (put σ a μ) = run d 135 245 [.ref a, .int (x1), .int (x2), .int (x3), .int (x4), .int (x5), .int (x6), .int (x7), .int (x8)] [] (put σ a (fA μ 29 ((μ.1 16 : Int32).toNatClampNeg) ((-1)))) := by
  have e := e_M_boat_235 d a x1 x2 x3 x4 x5 x6 x7 x8 (put σ a μ) (hL.K μ) (by simp only [ar, va_rf, vd, put_F, put_sF, pP_29 hL, pK_29 hL, pN_29 hL, pA_29, pS_29]; rfl) (by simp only [ar, va_rf, vd, put_F, put_sF, pP_29 hL, pK_29 hL, pN_29 hL, pA_29, pS_29]; rfl) (by simpa only [ar, va_rf, vd, put_F, put_sF, pP_29 hL, pK_29 hL, pN_29 hL, pA_29, pS_29] using g0)
  simpa only [ar, va_rf, vd, put_F, put_sF, pP_29 hL, pK_29 hL, pN_29 hL, pA_29, pS_29] using e
theorem q_M_boat_245 (d : Nat) (a : Nat) (x1 : Int32) (x2 : Int32) (x3 : Int32) (x4 : Int32) (x5 : Int32) (x6 : Int32) (x7 : Int32) (x8 : Int32) (σ : Mm) (μ : Ms) (hL : LM σ a) (g0 : ix (μ.1 16) 6 = true) : run d 135 245 [.ref a, .int (x1), .int (x2), .int (x3), .int (x4), .int (x5), .int (x6), .int (x7), .int (x8)] [] (put σ a μ) = run d 135 255 [.ref a, .int (x1), .int (x2), .int (x3), .int (x4), .int (x5), .int (x6), .int (x7), .int (x8)] [] (put σ a (fA μ 30 ((μ.1 16 : Int32).toNatClampNeg) 0)) := by
  have e := e_M_boat_245 d a x1 x2 x3 x4 x5 x6 x7 x8 (put σ a μ) (hL.K μ) (by simp only [ar, va_rf, vd, put_F, put_sF, pP_30 hL, pK_30 hL, pN_30 hL, pA_30, pS_30]; rfl) (by simp only [ar, va_rf, vd, put_F, put_sF, pP_30 hL, pK_30 hL, pN_30 hL, pA_30, pS_30]; rfl) (by simpa only [ar, va_rf, vd, put_F, put_sF, pP_30 hL, pK_30 hL, pN_30 hL, pA_30, pS_30] using g0)
  simpa only [ar, va_rf, vd, put_F, put_sF, pP_30 hL, pK_30 hL, pN_30 hL, pA_30, pS_30] using e
theorem q_M_boat_255 (d : Nat) (a : Nat) (x1 : Int32) (x2 : Int32) (x3 : Int32) (x4 : Int32) (x5 : Int32) (x6 : Int32) (x7 : Int32) (x8 : Int32) (σ : Mm) (μ : Ms) (hL : LM σ a) (g0 : ix (μ.1 16) 6 = true) : run d 135 255 [.ref a, .int (x1), .int (x2), .int (x3), .int (x4), .int (x5), .int (x6), .int (x7), .int (x8)] [] (put σ a μ) = run d 135 265 [.ref a, .int (x1), .int (x2), .int (x3), .int (x4), .int (x5), .int (x6), .int (x7), .int (x8)] [] (put σ a (fA μ 31 ((μ.1 16 : Int32).toNatClampNeg) 0)) := by
  have e := e_M_boat_255 d a x1 x2 x3 x4 x5 x6 x7 x8 (put σ a μ) (hL.K μ) (by simp only [ar, va_rf, vd, put_F, put_sF, pP_31 hL, pK_31 hL, pN_31 hL, pA_31, pS_31]; rfl) (by simp only [ar, va_rf, vd, put_F, put_sF, pP_31 hL, pK_31 hL, pN_31 hL, pA_31, pS_31]; rfl) (by simpa only [ar, va_rf, vd, put_F, put_sF, pP_31 hL, pK_31 hL, pN_31 hL, pA_31, pS_31] using g0)
  simpa only [ar, va_rf, vd, put_F, put_sF, pP_31 hL, pK_31 hL, pN_31 hL, pA_31, pS_31] using e
theorem q_M_boat_265 (d : Nat) (a : Nat) (x1 : Int32) (x2 : Int32) (x3 : Int32) (x4 : Int32) (x5 : Int32) (x6 : Int32) (x7 : Int32) (x8 : Int32) (σ : Mm) (μ : Ms) (hL : LM σ a)  : run d 135 265 [.ref a, .int (x1), .int (x2), .int (x3), .int (x4), .int (x5), .int (x6), .int (x7), .int (x8)] [] (put σ a μ) = run d 135 275 [.ref a, .int (x1), .int (x2), .int (x3), .int (x4), .int (x5), .int (x6), .int (x7), .int (x8)] [] (put σ a (fF μ 16 ((μ.1 16) + 1))) := by
  have e := e_M_boat_265 d a x1 x2 x3 x4 x5 x6 x7 x8 (put σ a μ) (hL.K μ)
  simpa only [ar, va_rf, vd, put_F, put_sF] using e
theorem q_M_boat_275 (d : Nat) (a : Nat) (x1 : Int32) (x2 : Int32) (x3 : Int32) (x4 : Int32) (x5 : Int32) (x6 : Int32) (x7 : Int32) (x8 : Int32) (σ : Mm) (μ : Ms) (hL : LM σ a)  : run d 135 275 [.ref a, .int (x1), .int (x2), .int (x3), .int (x4), .int (x5), .int (x6), .int (x7), .int (x8)] [] (put σ a μ) = some (some (.int ((μ.1 16) - 1)), (put σ a μ)) := by
  have e := e_M_boat_275 d a x1 x2 x3 x4 x5 x6 x7 x8 (put σ a μ) (hL.K μ)
  simpa only [ar, va_rf, vd, put_F, put_sF] using e
theorem q_M_pounds_0 (d : Nat) (a : Nat) (x1 : Int32) (u2 : Value) (u3 : Value) (σ : Mm) (μ : Ms) (hL : LM σ a)  : run d 136 0 [.ref a, .int (x1), u2, u3] [] (put σ a μ) = run d 136 4 [.ref a, .int (x1), .int (0), .int (0)] [] (put σ a μ) := by
  have e := e_M_pounds_0 d a x1 u2 u3 (put σ a μ) 
  simpa only [ar, va_rf, vd, put_F, put_sF] using e
theorem q_M_pounds_4 (d : Nat) (a : Nat) (x1 : Int32) (x2 : Int32) (x3 : Int32) (σ : Mm) (μ : Ms) (hL : LM σ a)  : run d 136 4 [.ref a, .int (x1), .int (x2), .int (x3)] [] (put σ a μ) = if (μ.1 60) ≤ x3 then run d 136 51 [.ref a, .int (x1), .int (x2), .int (x3)] [] (put σ a μ) else run d 136 12 [.ref a, .int (x1), .int (x2), .int (x3)] [] (put σ a μ) := by
  have e := e_M_pounds_4 d a x1 x2 x3 (put σ a μ) (hL.K μ)
  simpa only [ar, va_rf, vd, put_F, put_sF] using e
theorem q_M_pounds_12 (d : Nat) (a : Nat) (x1 : Int32) (x2 : Int32) (x3 : Int32) (σ : Mm) (μ : Ms) (hL : LM σ a) (g0 : ix x3 30 = true) : run d 136 12 [.ref a, .int (x1), .int (x2), .int (x3)] [] (put σ a μ) = if ¬ (μ.2 64 (x3 : Int32).toNatClampNeg) = 1 then run d 136 42 [.ref a, .int (x1), .int (x2), .int (x3)] [.int (x2)] (put σ a μ) else run d 136 23 [.ref a, .int (x1), .int (x2), .int (x3)] [.int (x2)] (put σ a μ) := by
  have e := e_M_pounds_12 d a x1 x2 x3 (put σ a μ) (hL.K μ) (by simp only [ar, va_rf, vd, put_F, put_sF, pP_64 hL, pK_64 hL, pN_64 hL, pA_64, pS_64]; rfl) (by simp only [ar, va_rf, vd, put_F, put_sF, pP_64 hL, pK_64 hL, pN_64 hL, pA_64, pS_64]; rfl) (by simpa only [ar, va_rf, vd, put_F, put_sF, pP_64 hL, pK_64 hL, pN_64 hL, pA_64, pS_64] using g0)
  simpa only [ar, va_rf, vd, put_F, put_sF, pP_64 hL, pK_64 hL, pN_64 hL, pA_64, pS_64] using e
theorem q_M_pounds_23 (d : Nat) (a : Nat) (x1 : Int32) (x2 : Int32) (x3 : Int32) (y0 : Int32) (σ : Mm) (μ : Ms) (hL : LM σ a) (g0 : ix x3 30 = true) : run d 136 23 [.ref a, .int (x1), .int (x2), .int (x3)] [.int (y0)] (put σ a μ) = if ¬ (μ.2 66 (x3 : Int32).toNatClampNeg) = x1 then run d 136 42 [.ref a, .int (x1), .int (x2), .int (x3)] [.int (y0)] (put σ a μ) else run d 136 33 [.ref a, .int (x1), .int (x2), .int (x3)] [.int (y0)] (put σ a μ) := by
  have e := e_M_pounds_23 d a x1 x2 x3 y0 (put σ a μ) (hL.K μ) (by simp only [ar, va_rf, vd, put_F, put_sF, pP_66 hL, pK_66 hL, pN_66 hL, pA_66, pS_66]; rfl) (by simp only [ar, va_rf, vd, put_F, put_sF, pP_66 hL, pK_66 hL, pN_66 hL, pA_66, pS_66]; rfl) (by simpa only [ar, va_rf, vd, put_F, put_sF, pP_66 hL, pK_66 hL, pN_66 hL, pA_66, pS_66] using g0)
  simpa only [ar, va_rf, vd, put_F, put_sF, pP_66 hL, pK_66 hL, pN_66 hL, pA_66, pS_66] using e
theorem q_M_pounds_33 (d : Nat) (a : Nat) (x1 : Int32) (x2 : Int32) (x3 : Int32) (y0 : Int32) (σ : Mm) (μ : Ms) (hL : LM σ a) (g0 : ix x3 30 = true) : run d 136 33 [.ref a, .int (x1), .int (x2), .int (x3)] [.int (y0)] (put σ a μ) = run d 136 43 [.ref a, .int (x1), .int (x2), .int (x3)] [.int (μ.2 62 (x3 : Int32).toNatClampNeg), .int (y0)] (put σ a μ) := by
  have e := e_M_pounds_33 d a x1 x2 x3 y0 (put σ a μ) (hL.K μ) (by simp only [ar, va_rf, vd, put_F, put_sF, pP_62 hL, pK_62 hL, pN_62 hL, pA_62, pS_62]; rfl) (by simp only [ar, va_rf, vd, put_F, put_sF, pP_62 hL, pK_62 hL, pN_62 hL, pA_62, pS_62]; rfl) (by simpa only [ar, va_rf, vd, put_F, put_sF, pP_62 hL, pK_62 hL, pN_62 hL, pA_62, pS_62] using g0)
  simpa only [ar, va_rf, vd, put_F, put_sF, pP_62 hL, pK_62 hL, pN_62 hL, pA_62, pS_62] using e
theorem q_M_pounds_42 (d : Nat) (a : Nat) (x1 : Int32) (x2 : Int32) (x3 : Int32) (y0 : Int32) (σ : Mm) (μ : Ms) (hL : LM σ a)  : run d 136 42 [.ref a, .int (x1), .int (x2), .int (x3)] [.int (y0)] (put σ a μ) = run d 136 43 [.ref a, .int (x1), .int (x2), .int (x3)] [.int (0), .int (y0)] (put σ a μ) := by
  have e := e_M_pounds_42 d a x1 x2 x3 y0 (put σ a μ) 
  simpa only [ar, va_rf, vd, put_F, put_sF] using e
theorem q_M_pounds_43 (d : Nat) (a : Nat) (x1 : Int32) (x2 : Int32) (x3 : Int32) (y0 : Int32) (y1 : Int32) (σ : Mm) (μ : Ms) (hL : LM σ a)  : run d 136 43 [.ref a, .int (x1), .int (x2), .int (x3)] [.int (y0), .int (y1)] (put σ a μ) = run d 136 4 [.ref a, .int (x1), .int (y1 + y0), .int (x3 + 1)] [] (put σ a μ) := by
  have e := e_M_pounds_43 d a x1 x2 x3 y0 y1 (put σ a μ) 
  simpa only [ar, va_rf, vd, put_F, put_sF] using e
theorem q_M_pounds_51 (d : Nat) (a : Nat) (x1 : Int32) (x2 : Int32) (x3 : Int32) (σ : Mm) (μ : Ms) (hL : LM σ a)  : run d 136 51 [.ref a, .int (x1), .int (x2), .int (x3)] [] (put σ a μ) = some (some (.int (x2)), (put σ a μ)) := by
  have e := e_M_pounds_51 d a x1 x2 x3 (put σ a μ) 
  simpa only [ar, va_rf, vd, put_F, put_sF] using e
theorem q_M_weight_0 (d : Nat) (a : Nat) (x1 : Int32) (σ : Mm) (μ : Ms) (hL : LM σ a) (g0 : ix x1 6 = true) (g1 : ix x1 6 = true) : run (d + 1) 137 0 [.ref a, .int (x1)] [] (put σ a μ) = (runc d 136 [.ref a, .int (x1)] (put σ a μ)).bind (fun q => run (d + 1) 137 21 [.ref a, .int (x1)] (psh q.1 [.int ((μ.2 17 (x1 : Int32).toNatClampNeg) + (6 * (μ.2 27 (x1 : Int32).toNatClampNeg)))]) q.2) := by
  have e := e_M_weight_0 d a x1 (put σ a μ) (hL.K μ) (by simp only [ar, va_rf, vd, put_F, put_sF, pP_17 hL, pK_17 hL, pN_17 hL, pA_17, pS_17, pP_27 hL, pK_27 hL, pN_27 hL, pA_27, pS_27]; rfl) (by simp only [ar, va_rf, vd, put_F, put_sF, pP_17 hL, pK_17 hL, pN_17 hL, pA_17, pS_17, pP_27 hL, pK_27 hL, pN_27 hL, pA_27, pS_27]; rfl) (by simpa only [ar, va_rf, vd, put_F, put_sF, pP_17 hL, pK_17 hL, pN_17 hL, pA_17, pS_17, pP_27 hL, pK_27 hL, pN_27 hL, pA_27, pS_27] using g0) (by simp only [ar, va_rf, vd, put_F, put_sF, pP_17 hL, pK_17 hL, pN_17 hL, pA_17, pS_17, pP_27 hL, pK_27 hL, pN_27 hL, pA_27, pS_27]; rfl) (by simp only [ar, va_rf, vd, put_F, put_sF, pP_17 hL, pK_17 hL, pN_17 hL, pA_17, pS_17, pP_27 hL, pK_27 hL, pN_27 hL, pA_27, pS_27]; rfl) (by simpa only [ar, va_rf, vd, put_F, put_sF, pP_17 hL, pK_17 hL, pN_17 hL, pA_17, pS_17, pP_27 hL, pK_27 hL, pN_27 hL, pA_27, pS_27] using g1)
  simpa only [ar, va_rf, vd, put_F, put_sF, pP_17 hL, pK_17 hL, pN_17 hL, pA_17, pS_17, pP_27 hL, pK_27 hL, pN_27 hL, pA_27, pS_27] using e
theorem q_M_weight_21 (d : Nat) (a : Nat) (x1 : Int32) (y0 : Int32) (y1 : Int32) (σ : Mm) (μ : Ms) (hL : LM σ a)  : run d 137 21 [.ref a, .int (x1)] [.int (y0), .int (y1)] (put σ a μ) = some (some (.int (y1 + y0)), (put σ a μ)) := by
  have e := e_M_weight_21 d a x1 y0 y1 (put σ a μ) 
  simpa only [ar, va_rf, vd, put_F, put_sF] using e
theorem q_M_liftsFrom_0 (d : Nat) (a : Nat) (x1 : Int32) (x2 : Int32) (u3 : Value) (σ : Mm) (μ : Ms) (hL : LM σ a)  : run d 138 0 [.ref a, .int (x1), .int (x2), u3] [] (put σ a μ) = if x2 ≤ 6 then run d 138 8 [.ref a, .int (x1), .int (x2), u3] [] (put σ a μ) else run d 138 6 [.ref a, .int (x1), .int (x2), u3] [] (put σ a μ) := by
  have e := e_M_liftsFrom_0 d a x1 x2 u3 (put σ a μ) 
  simpa only [ar, va_rf, vd, put_F, put_sF] using e
theorem q_M_liftsFrom_6 (d : Nat) (a : Nat) (x1 : Int32) (x2 : Int32) (u3 : Value) (σ : Mm) (μ : Ms) (hL : LM σ a)  : run d 138 6 [.ref a, .int (x1), .int (x2), u3] [] (put σ a μ) = some (some (.int (0)), (put σ a μ)) := by
  have e := e_M_liftsFrom_6 d a x1 x2 u3 (put σ a μ) 
  simpa only [ar, va_rf, vd, put_F, put_sF] using e
theorem q_M_liftsFrom_8 (d : Nat) (a : Nat) (x1 : Int32) (x2 : Int32) (u3 : Value) (σ : Mm) (μ : Ms) (hL : LM σ a)  : run d 138 8 [.ref a, .int (x1), .int (x2), u3] [] (put σ a μ) = if x2 ≤ 2 then run d 138 19 [.ref a, .int (x1), .int (x2), u3] [] (put σ a μ) else run d 138 13 [.ref a, .int (x1), .int (x2), u3] [] (put σ a μ) := by
  have e := e_M_liftsFrom_8 d a x1 x2 u3 (put σ a μ) 
  simpa only [ar, va_rf, vd, put_F, put_sF] using e
theorem q_M_liftsFrom_13 (d : Nat) (a : Nat) (x1 : Int32) (x2 : Int32) (u3 : Value) (σ : Mm) (μ : Ms) (hL : LM σ a)  : run d 138 13 [.ref a, .int (x1), .int (x2), u3] [] (put σ a μ) = run d 138 22 [.ref a, .int (x1), .int (x2), u3] [.int (x2 - 2)] (put σ a μ) := by
  have e := e_M_liftsFrom_13 d a x1 x2 u3 (put σ a μ) 
  simpa only [ar, va_rf, vd, put_F, put_sF] using e
theorem q_M_liftsFrom_19 (d : Nat) (a : Nat) (x1 : Int32) (x2 : Int32) (u3 : Value) (σ : Mm) (μ : Ms) (hL : LM σ a)  : run d 138 19 [.ref a, .int (x1), .int (x2), u3] [] (put σ a μ) = run d 138 22 [.ref a, .int (x1), .int (x2), u3] [.int (2 - x2)] (put σ a μ) := by
  have e := e_M_liftsFrom_19 d a x1 x2 u3 (put σ a μ) 
  simpa only [ar, va_rf, vd, put_F, put_sF] using e
theorem q_M_liftsFrom_22 (d : Nat) (a : Nat) (x1 : Int32) (x2 : Int32) (u3 : Value) (y0 : Int32) (σ : Mm) (μ : Ms) (hL : LM σ a) (g0 : ix x1 6 = true) : run d 138 22 [.ref a, .int (x1), .int (x2), u3] [.int (y0)] (put σ a μ) = some (some (.int ((μ.2 18 (x1 : Int32).toNatClampNeg) - (((μ.2 18 (x1 : Int32).toNatClampNeg) / 25) * y0))), (put σ a μ)) := by
  have e := e_M_liftsFrom_22 d a x1 x2 u3 y0 (put σ a μ) (hL.K μ) (by simp only [ar, va_rf, vd, put_F, put_sF, pP_18 hL, pK_18 hL, pN_18 hL, pA_18, pS_18]; rfl) (by simp only [ar, va_rf, vd, put_F, put_sF, pP_18 hL, pK_18 hL, pN_18 hL, pA_18, pS_18]; rfl) (by simpa only [ar, va_rf, vd, put_F, put_sF, pP_18 hL, pK_18 hL, pN_18 hL, pA_18, pS_18] using g0)
  simpa only [ar, va_rf, vd, put_F, put_sF, pP_18 hL, pK_18 hL, pN_18 hL, pA_18, pS_18] using e
theorem q_M_going_0 (d : Nat) (a : Nat) (x1 : Int32) (x2 : Int32) (x3 : Int32) (x4 : Int32) (u5 : Value) (σ : Mm) (μ : Ms) (hL : LM σ a) (g0 : ix x1 6 = true) (g1 : ix x2 30 = true) : run d 139 0 [.ref a, .int (x1), .int (x2), .int (x3), .int (x4), u5] [] (put σ a μ) = if ¬ (μ.2 8 (x2 : Int32).toNatClampNeg) = x3 then run d 139 21 [.ref a, .int (x1), .int (x2), .int (x3), .int (x4), u5] [.int (μ.2 19 (x1 : Int32).toNatClampNeg)] (put σ a μ) else run d 139 16 [.ref a, .int (x1), .int (x2), .int (x3), .int (x4), u5] [.int (μ.2 19 (x1 : Int32).toNatClampNeg)] (put σ a μ) := by
  have e := e_M_going_0 d a x1 x2 x3 x4 u5 (put σ a μ) (hL.K μ) (by simp only [ar, va_rf, vd, put_F, put_sF, pP_8 hL, pK_8 hL, pN_8 hL, pA_8, pS_8, pP_19 hL, pK_19 hL, pN_19 hL, pA_19, pS_19]; rfl) (by simp only [ar, va_rf, vd, put_F, put_sF, pP_8 hL, pK_8 hL, pN_8 hL, pA_8, pS_8, pP_19 hL, pK_19 hL, pN_19 hL, pA_19, pS_19]; rfl) (by simpa only [ar, va_rf, vd, put_F, put_sF, pP_8 hL, pK_8 hL, pN_8 hL, pA_8, pS_8, pP_19 hL, pK_19 hL, pN_19 hL, pA_19, pS_19] using g0) (by simp only [ar, va_rf, vd, put_F, put_sF, pP_8 hL, pK_8 hL, pN_8 hL, pA_8, pS_8, pP_19 hL, pK_19 hL, pN_19 hL, pA_19, pS_19]; rfl) (by simp only [ar, va_rf, vd, put_F, put_sF, pP_8 hL, pK_8 hL, pN_8 hL, pA_8, pS_8, pP_19 hL, pK_19 hL, pN_19 hL, pA_19, pS_19]; rfl) (by simpa only [ar, va_rf, vd, put_F, put_sF, pP_8 hL, pK_8 hL, pN_8 hL, pA_8, pS_8, pP_19 hL, pK_19 hL, pN_19 hL, pA_19, pS_19] using g1)
  simpa only [ar, va_rf, vd, put_F, put_sF, pP_8 hL, pK_8 hL, pN_8 hL, pA_8, pS_8, pP_19 hL, pK_19 hL, pN_19 hL, pA_19, pS_19] using e
theorem q_M_going_16 (d : Nat) (a : Nat) (x1 : Int32) (x2 : Int32) (x3 : Int32) (x4 : Int32) (u5 : Value) (y0 : Int32) (σ : Mm) (μ : Ms) (hL : LM σ a)  : run d 139 16 [.ref a, .int (x1), .int (x2), .int (x3), .int (x4), u5] [.int (y0)] (put σ a μ) = run d 139 24 [.ref a, .int (x1), .int (x2), .int (x3), .int (x4), u5] [.int (x4), .int (y0)] (put σ a μ) := by
  have e := e_M_going_16 d a x1 x2 x3 x4 u5 y0 (put σ a μ) 
  simpa only [ar, va_rf, vd, put_F, put_sF] using e
theorem q_M_going_21 (d : Nat) (a : Nat) (x1 : Int32) (x2 : Int32) (x3 : Int32) (x4 : Int32) (u5 : Value) (y0 : Int32) (σ : Mm) (μ : Ms) (hL : LM σ a)  : run d 139 21 [.ref a, .int (x1), .int (x2), .int (x3), .int (x4), u5] [.int (y0)] (put σ a μ) = run d 139 24 [.ref a, .int (x1), .int (x2), .int (x3), .int (x4), u5] [.int (-x4), .int (y0)] (put σ a μ) := by
  have e := e_M_going_21 d a x1 x2 x3 x4 u5 y0 (put σ a μ) 
  simpa only [ar, va_rf, vd, put_F, put_sF] using e
theorem q_M_going_24 (d : Nat) (a : Nat) (x1 : Int32) (x2 : Int32) (x3 : Int32) (x4 : Int32) (u5 : Value) (y0 : Int32) (y1 : Int32) (σ : Mm) (μ : Ms) (hL : LM σ a)  : run d 139 24 [.ref a, .int (x1), .int (x2), .int (x3), .int (x4), u5] [.int (y0), .int (y1)] (put σ a μ) = if 20 ≤ (y1 + y0) then run d 139 39 [.ref a, .int (x1), .int (x2), .int (x3), .int (x4), .int (y1 + y0)] [] (put σ a μ) else run d 139 34 [.ref a, .int (x1), .int (x2), .int (x3), .int (x4), .int (y1 + y0)] [] (put σ a μ) := by
  have e := e_M_going_24 d a x1 x2 x3 x4 u5 y0 y1 (put σ a μ) 
  simpa only [ar, va_rf, vd, put_F, put_sF] using e
theorem q_M_going_34 (d : Nat) (a : Nat) (x1 : Int32) (x2 : Int32) (x3 : Int32) (x4 : Int32) (x5 : Int32) (σ : Mm) (μ : Ms) (hL : LM σ a)  : run d 139 34 [.ref a, .int (x1), .int (x2), .int (x3), .int (x4), .int (x5)] [] (put σ a μ) = run d 139 41 [.ref a, .int (x1), .int (x2), .int (x3), .int (x4), .int (x5)] [.int (20)] (put σ a μ) := by
  have e := e_M_going_34 d a x1 x2 x3 x4 x5 (put σ a μ) 
  simpa only [ar, va_rf, vd, put_F, put_sF] using e
theorem q_M_going_39 (d : Nat) (a : Nat) (x1 : Int32) (x2 : Int32) (x3 : Int32) (x4 : Int32) (x5 : Int32) (σ : Mm) (μ : Ms) (hL : LM σ a)  : run d 139 39 [.ref a, .int (x1), .int (x2), .int (x3), .int (x4), .int (x5)] [] (put σ a μ) = run d 139 41 [.ref a, .int (x1), .int (x2), .int (x3), .int (x4), .int (x5)] [.int (x5)] (put σ a μ) := by
  have e := e_M_going_39 d a x1 x2 x3 x4 x5 (put σ a μ) 
  simpa only [ar, va_rf, vd, put_F, put_sF] using e
theorem q_M_going_41 (d : Nat) (a : Nat) (x1 : Int32) (x2 : Int32) (x3 : Int32) (x4 : Int32) (x5 : Int32) (y0 : Int32) (σ : Mm) (μ : Ms) (hL : LM σ a)  : run d 139 41 [.ref a, .int (x1), .int (x2), .int (x3), .int (x4), .int (x5)] [.int (y0)] (put σ a μ) = some (some (.int (y0)), (put σ a μ)) := by
  have e := e_M_going_41 d a x1 x2 x3 x4 x5 y0 (put σ a μ) 
  simpa only [ar, va_rf, vd, put_F, put_sF] using e
theorem q_M_burns_0 (d : Nat) (a : Nat) (x1 : Int32) (x2 : Int32) (σ : Mm) (μ : Ms) (hL : LM σ a) (g0 : ix x1 6 = true) : run (d + 1) 140 0 [.ref a, .int (x1), .int (x2)] [] (put σ a μ) = (runc d 116 [.int ((μ.2 20 (x1 : Int32).toNatClampNeg) * x2), .int (60)] (put σ a μ)).bind (fun q => run (d + 1) 140 13 [.ref a, .int (x1), .int (x2)] (psh q.1 []) q.2) := by
  have e := e_M_burns_0 d a x1 x2 (put σ a μ) (hL.K μ) (by simp only [ar, va_rf, vd, put_F, put_sF, pP_20 hL, pK_20 hL, pN_20 hL, pA_20, pS_20]; rfl) (by simp only [ar, va_rf, vd, put_F, put_sF, pP_20 hL, pK_20 hL, pN_20 hL, pA_20, pS_20]; rfl) (by simpa only [ar, va_rf, vd, put_F, put_sF, pP_20 hL, pK_20 hL, pN_20 hL, pA_20, pS_20] using g0)
  simpa only [ar, va_rf, vd, put_F, put_sF, pP_20 hL, pK_20 hL, pN_20 hL, pA_20, pS_20] using e
theorem q_M_burns_13 (d : Nat) (a : Nat) (x1 : Int32) (x2 : Int32) (y0 : Int32) (σ : Mm) (μ : Ms) (hL : LM σ a)  : run d 140 13 [.ref a, .int (x1), .int (x2)] [.int (y0)] (put σ a μ) = some (some (.int (y0)), (put σ a μ)) := by
  have e := e_M_burns_13 d a x1 x2 y0 (put σ a μ) 
  simpa only [ar, va_rf, vd, put_F, put_sF] using e
theorem q_M_four_0 (d : Nat) (a : Nat) (x1 : Int32) (u2 : Value) (σ : Mm) (μ : Ms) (hL : LM σ a)  : run d 141 0 [.ref a, .int (x1), u2] [] (put σ a μ) = run d 141 3 [.ref a, .int (x1), .int (24)] [] (put σ a μ) := by
  have e := e_M_four_0 d a x1 u2 (put σ a μ) 
  simpa only [ar, va_rf, vd, put_F, put_sF] using e
theorem q_M_four_3 (d : Nat) (a : Nat) (x1 : Int32) (x2 : Int32) (σ : Mm) (μ : Ms) (hL : LM σ a)  : run d 141 3 [.ref a, .int (x1), .int (x2)] [] (put σ a μ) = if x2 < 0 then run d 141 36 [.ref a, .int (x1), .int (x2)] [] (put σ a μ) else run d 141 7 [.ref a, .int (x1), .int (x2)] [] (put σ a μ) := by
  have e := e_M_four_3 d a x1 x2 (put σ a μ) 
  simpa only [ar, va_rf, vd, put_F, put_sF] using e
theorem q_M_four_7 (d : Nat) (a : Nat) (x1 : Int32) (x2 : Int32) (σ : Mm) (μ : Ms) (hL : LM σ a) (g0 : ((x1 >>> (x2 &&& 31)).toInt8.toInt32 : Int32).toInt8.toInt32 = ((x1 >>> (x2 &&& 31)).toInt8.toInt32)) (g1 : ix (μ.1 40) 300 = true) : run d 141 7 [.ref a, .int (x1), .int (x2)] [] (put σ a μ) = run d 141 20 [.ref a, .int (x1), .int (x2)] [] (put σ a (fA μ 39 ((μ.1 40 : Int32).toNatClampNeg) ((x1 >>> (x2 &&& 31)).toInt8.toInt32))) := by
  have e := e_M_four_7 d a x1 x2 (put σ a μ) (hL.K μ) (by simp only [ar, va_rf, vd, put_F, put_sF, pP_39 hL, pK_39 hL, pN_39 hL, pA_39, pS_39]; rfl) (by simp only [ar, va_rf, vd, put_F, put_sF, pP_39 hL, pK_39 hL, pN_39 hL, pA_39, pS_39]; rfl) (by simpa only [ar, va_rf, vd, put_F, put_sF, pP_39 hL, pK_39 hL, pN_39 hL, pA_39, pS_39] using g0) (by simpa only [ar, va_rf, vd, put_F, put_sF, pP_39 hL, pK_39 hL, pN_39 hL, pA_39, pS_39] using g1)
  simpa only [ar, va_rf, vd, put_F, put_sF, pP_39 hL, pK_39 hL, pN_39 hL, pA_39, pS_39] using e
theorem q_M_four_20 (d : Nat) (a : Nat) (x1 : Int32) (x2 : Int32) (σ : Mm) (μ : Ms) (hL : LM σ a)  : run d 141 20 [.ref a, .int (x1), .int (x2)] [] (put σ a μ) = run d 141 30 [.ref a, .int (x1), .int (x2)] [] (put σ a (fF μ 40 ((μ.1 40) + 1))) := by
  have e := e_M_four_20 d a x1 x2 (put σ a μ) (hL.K μ)
  simpa only [ar, va_rf, vd, put_F, put_sF] using e
theorem q_M_four_30 (d : Nat) (a : Nat) (x1 : Int32) (x2 : Int32) (σ : Mm) (μ : Ms) (hL : LM σ a)  : run d 141 30 [.ref a, .int (x1), .int (x2)] [] (put σ a μ) = run d 141 3 [.ref a, .int (x1), .int (x2 + (-8))] [] (put σ a μ) := by
  have e := e_M_four_30 d a x1 x2 (put σ a μ) 
  simpa only [ar, va_rf, vd, put_F, put_sF] using e
theorem q_M_four_36 (d : Nat) (a : Nat) (x1 : Int32) (x2 : Int32) (σ : Mm) (μ : Ms) (hL : LM σ a)  : run d 141 36 [.ref a, .int (x1), .int (x2)] [] (put σ a μ) = some (none, (put σ a μ)) := by
  have e := e_M_four_36 d a x1 x2 (put σ a μ) 
  simpa only [ar, va_rf, vd, put_F, put_sF] using e
theorem q_M_feed_0 (d : Nat) (a : Nat) (x1 : Int32) (x2 : Int32) (x3 : Int32) (x4 : Int32) (x5 : Int32) (σ : Mm) (μ : Ms) (hL : LM σ a)  : run d 142 0 [.ref a, .int (x1), .int (x2), .int (x3), .int (x4), .int (x5)] [] (put σ a μ) = run d 142 5 [.ref a, .int (x1), .int (x2), .int (x3), .int (x4), .int (x5)] [] (put σ a (fF μ 0 0)) := by
  have e := e_M_feed_0 d a x1 x2 x3 x4 x5 (put σ a μ) (hL.K μ)
  simpa only [ar, va_rf, vd, put_F, put_sF] using e
theorem q_M_feed_5 (d : Nat) (a : Nat) (x1 : Int32) (x2 : Int32) (x3 : Int32) (x4 : Int32) (x5 : Int32) (σ : Mm) (μ : Ms) (hL : LM σ a)  : run d 142 5 [.ref a, .int (x1), .int (x2), .int (x3), .int (x4), .int (x5)] [] (put σ a μ) = if ((μ.1 40) + 20) ≤ 300 then run d 142 20 [.ref a, .int (x1), .int (x2), .int (x3), .int (x4), .int (x5)] [] (put σ a μ) else run d 142 18 [.ref a, .int (x1), .int (x2), .int (x3), .int (x4), .int (x5)] [] (put σ a μ) := by
  have e := e_M_feed_5 d a x1 x2 x3 x4 x5 (put σ a μ) (hL.K μ)
  simpa only [ar, va_rf, vd, put_F, put_sF] using e
theorem q_M_feed_18 (d : Nat) (a : Nat) (x1 : Int32) (x2 : Int32) (x3 : Int32) (x4 : Int32) (x5 : Int32) (σ : Mm) (μ : Ms) (hL : LM σ a)  : run d 142 18 [.ref a, .int (x1), .int (x2), .int (x3), .int (x4), .int (x5)] [] (put σ a μ) = some (some (.int ((-1))), (put σ a μ)) := by
  have e := e_M_feed_18 d a x1 x2 x3 x4 x5 (put σ a μ) 
  simpa only [ar, va_rf, vd, put_F, put_sF] using e
theorem q_M_feed_20 (d : Nat) (a : Nat) (x1 : Int32) (x2 : Int32) (x3 : Int32) (x4 : Int32) (x5 : Int32) (σ : Mm) (μ : Ms) (hL : LM σ a)  : run (d + 1) 142 20 [.ref a, .int (x1), .int (x2), .int (x3), .int (x4), .int (x5)] [] (put σ a μ) = (runc d 141 [.ref a, .int (x1)] (put σ a μ)).bind (fun q => run (d + 1) 142 25 [.ref a, .int (x1), .int (x2), .int (x3), .int (x4), .int (x5)] (psh q.1 []) q.2) := by
  have e := e_M_feed_20 d a x1 x2 x3 x4 x5 (put σ a μ) (hL.K μ)
  simpa only [ar, va_rf, vd, put_F, put_sF] using e
theorem q_M_feed_25 (d : Nat) (a : Nat) (x1 : Int32) (x2 : Int32) (x3 : Int32) (x4 : Int32) (x5 : Int32) (σ : Mm) (μ : Ms) (hL : LM σ a)  : run (d + 1) 142 25 [.ref a, .int (x1), .int (x2), .int (x3), .int (x4), .int (x5)] [] (put σ a μ) = (runc d 141 [.ref a, .int (x2)] (put σ a μ)).bind (fun q => run (d + 1) 142 30 [.ref a, .int (x1), .int (x2), .int (x3), .int (x4), .int (x5)] (psh q.1 []) q.2) := by
  have e := e_M_feed_25 d a x1 x2 x3 x4 x5 (put σ a μ) (hL.K μ)
  simpa only [ar, va_rf, vd, put_F, put_sF] using e
theorem q_M_feed_30 (d : Nat) (a : Nat) (x1 : Int32) (x2 : Int32) (x3 : Int32) (x4 : Int32) (x5 : Int32) (σ : Mm) (μ : Ms) (hL : LM σ a)  : run (d + 1) 142 30 [.ref a, .int (x1), .int (x2), .int (x3), .int (x4), .int (x5)] [] (put σ a μ) = (runc d 141 [.ref a, .int (x3)] (put σ a μ)).bind (fun q => run (d + 1) 142 35 [.ref a, .int (x1), .int (x2), .int (x3), .int (x4), .int (x5)] (psh q.1 []) q.2) := by
  have e := e_M_feed_30 d a x1 x2 x3 x4 x5 (put σ a μ) (hL.K μ)
  simpa only [ar, va_rf, vd, put_F, put_sF] using e
theorem q_M_feed_35 (d : Nat) (a : Nat) (x1 : Int32) (x2 : Int32) (x3 : Int32) (x4 : Int32) (x5 : Int32) (σ : Mm) (μ : Ms) (hL : LM σ a)  : run (d + 1) 142 35 [.ref a, .int (x1), .int (x2), .int (x3), .int (x4), .int (x5)] [] (put σ a μ) = (runc d 141 [.ref a, .int (x4)] (put σ a μ)).bind (fun q => run (d + 1) 142 41 [.ref a, .int (x1), .int (x2), .int (x3), .int (x4), .int (x5)] (psh q.1 []) q.2) := by
  have e := e_M_feed_35 d a x1 x2 x3 x4 x5 (put σ a μ) (hL.K μ)
  simpa only [ar, va_rf, vd, put_F, put_sF] using e
theorem q_M_feed_41 (d : Nat) (a : Nat) (x1 : Int32) (x2 : Int32) (x3 : Int32) (x4 : Int32) (x5 : Int32) (σ : Mm) (μ : Ms) (hL : LM σ a)  : run (d + 1) 142 41 [.ref a, .int (x1), .int (x2), .int (x3), .int (x4), .int (x5)] [] (put σ a μ) = (runc d 141 [.ref a, .int (x5)] (put σ a μ)).bind (fun q => run (d + 1) 142 47 [.ref a, .int (x1), .int (x2), .int (x3), .int (x4), .int (x5)] (psh q.1 []) q.2) := by
  have e := e_M_feed_41 d a x1 x2 x3 x4 x5 (put σ a μ) (hL.K μ)
  simpa only [ar, va_rf, vd, put_F, put_sF] using e
theorem q_M_feed_47 (d : Nat) (a : Nat) (x1 : Int32) (x2 : Int32) (x3 : Int32) (x4 : Int32) (x5 : Int32) (σ : Mm) (μ : Ms) (hL : LM σ a)  : run d 142 47 [.ref a, .int (x1), .int (x2), .int (x3), .int (x4), .int (x5)] [] (put σ a μ) = some (some (.int (μ.1 40)), (put σ a μ)) := by
  have e := e_M_feed_47 d a x1 x2 x3 x4 x5 (put σ a μ) (hL.K μ)
  simpa only [ar, va_rf, vd, put_F, put_sF] using e
