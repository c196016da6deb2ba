theorem q_M_go_0 (d : Nat) (a : Nat) (x1 : Int32) (u2 : Value) (u3 : Value) (σ : Mm) (μ : Ms) (hL : LM σ a)  : run d 168 0 [.ref a, .int (x1), u2, u3] [] (put σ a μ) = run d 168 5 [.ref a, .int (x1), u2, u3] [] (put σ a (fF μ 0 0)) := by
  have e := e_M_go_0 d a x1 u2 u3 (put σ a μ) (hL.K μ)
  simpa only [ar, va_rf, vd, put_F, put_sF] using e
theorem q_M_go_5 (d : Nat) (a : Nat) (x1 : Int32) (u2 : Value) (u3 : Value) (σ : Mm) (μ : Ms) (hL : LM σ a)  : run (d + 1) 168 5 [.ref a, .int (x1), u2, u3] [] (put σ a μ) = (runc d 115 [.int (x1), .int (1), .int (1440)] (put σ a μ)).bind (fun q => run (d + 1) 168 13 [.ref a, .int (x1), u2, u3] (psh q.1 []) q.2) := by
  have e := e_M_go_5 d a x1 u2 u3 (put σ a μ) 
  simpa only [ar, va_rf, vd, put_F, put_sF] using e
theorem q_M_go_13 (d : Nat) (a : Nat) (x1 : Int32) (u2 : Value) (u3 : Value) (y0 : Int32) (σ : Mm) (μ : Ms) (hL : LM σ a)  : run d 168 13 [.ref a, .int (x1), u2, u3] [.int (y0)] (put σ a μ) = if y0 = 0 then run d 168 28 [.ref a, .int (x1), u2, u3] [] (put σ a μ) else run d 168 16 [.ref a, .int (x1), u2, u3] [] (put σ a μ) := by
  have e := e_M_go_13 d a x1 u2 u3 y0 (put σ a μ) 
  simpa only [ar, va_rf, vd, put_F, put_sF] using e
theorem q_M_go_16 (d : Nat) (a : Nat) (x1 : Int32) (u2 : Value) (u3 : Value) (σ : Mm) (μ : Ms) (hL : LM σ a)  : run d 168 16 [.ref a, .int (x1), u2, u3] [] (put σ a μ) = if ((μ.1 1) + x1) ≤ 143999 then run d 168 30 [.ref a, .int (x1), u2, u3] [] (put σ a μ) else run d 168 28 [.ref a, .int (x1), u2, u3] [] (put σ a μ) := by
  have e := e_M_go_16 d a x1 u2 u3 (put σ a μ) (hL.K μ)
  simpa only [ar, va_rf, vd, put_F, put_sF] using e
theorem q_M_go_28 (d : Nat) (a : Nat) (x1 : Int32) (u2 : Value) (u3 : Value) (σ : Mm) (μ : Ms) (hL : LM σ a)  : run d 168 28 [.ref a, .int (x1), u2, u3] [] (put σ a μ) = some (some (.int ((-1))), (put σ a μ)) := by
  have e := e_M_go_28 d a x1 u2 u3 (put σ a μ) 
  simpa only [ar, va_rf, vd, put_F, put_sF] using e
theorem q_M_go_30 (d : Nat) (a : Nat) (x1 : Int32) (u2 : Value) (u3 : Value) (σ : Mm) (μ : Ms) (hL : LM σ a)  : run d 168 30 [.ref a, .int (x1), u2, u3] [] (put σ a μ) = run d 168 32 [.ref a, .int (x1), .int (0), u3] [] (put σ a μ) := by
  have e := e_M_go_30 d a x1 u2 u3 (put σ a μ) 
  simpa only [ar, va_rf, vd, put_F, put_sF] using e
theorem q_M_go_32 (d : Nat) (a : Nat) (x1 : Int32) (x2 : Int32) (u3 : Value) (σ : Mm) (μ : Ms) (hL : LM σ a)  : run d 168 32 [.ref a, .int (x1), .int (x2), u3] [] (put σ a μ) = if x1 ≤ x2 then run d 168 137 [.ref a, .int (x1), .int (x2), u3] [] (put σ a μ) else run d 168 37 [.ref a, .int (x1), .int (x2), u3] [] (put σ a μ) := by
  have e := e_M_go_32 d a x1 x2 u3 (put σ a μ) 
  simpa only [ar, va_rf, vd, put_F, put_sF] using e
theorem q_M_go_37 (d : Nat) (a : Nat) (x1 : Int32) (x2 : Int32) (u3 : Value) (σ : Mm) (μ : Ms) (hL : LM σ a)  : run d 168 37 [.ref a, .int (x1), .int (x2), u3] [] (put σ a μ) = run d 168 47 [.ref a, .int (x1), .int (x2), u3] [] (put σ a (fF μ 1 ((μ.1 1) + 1))) := by
  have e := e_M_go_37 d a x1 x2 u3 (put σ a μ) (hL.K μ)
  simpa only [ar, va_rf, vd, put_F, put_sF] using e
theorem q_M_go_47 (d : Nat) (a : Nat) (x1 : Int32) (x2 : Int32) (u3 : Value) (σ : Mm) (μ : Ms) (hL : LM σ a)  : run d 168 47 [.ref a, .int (x1), .int (x2), u3] [] (put σ a μ) = run d 168 49 [.ref a, .int (x1), .int (x2), .int (0)] [] (put σ a μ) := by
  have e := e_M_go_47 d a x1 x2 u3 (put σ a μ) 
  simpa only [ar, va_rf, vd, put_F, put_sF] using e
theorem q_M_go_49 (d : Nat) (a : Nat) (x1 : Int32) (x2 : Int32) (x3 : Int32) (σ : Mm) (μ : Ms) (hL : LM σ a)  : run d 168 49 [.ref a, .int (x1), .int (x2), .int (x3)] [] (put σ a μ) = if (μ.1 16) ≤ x3 then run d 168 131 [.ref a, .int (x1), .int (x2), .int (x3)] [] (put σ a μ) else run d 168 57 [.ref a, .int (x1), .int (x2), .int (x3)] [] (put σ a μ) := by
  have e := e_M_go_49 d a x1 x2 x3 (put σ a μ) (hL.K μ)
  simpa only [ar, va_rf, vd, put_F, put_sF] using e
theorem q_M_go_57 (d : Nat) (a : Nat) (x1 : Int32) (x2 : Int32) (x3 : Int32) (σ : Mm) (μ : Ms) (hL : LM σ a) (g0 : ix x3 6 = true) : run d 168 57 [.ref a, .int (x1), .int (x2), .int (x3)] [] (put σ a μ) = if ¬ (μ.2 24 (x3 : Int32).toNatClampNeg) = 0 then run d 168 110 [.ref a, .int (x1), .int (x2), .int (x3)] [] (put σ a μ) else run d 168 66 [.ref a, .int (x1), .int (x2), .int (x3)] [] (put σ a μ) := by
  have e := e_M_go_57 d a x1 x2 x3 (put σ a μ) (hL.K μ) (by simp only [ar, va_rf, vd, put_F, put_sF, pP_24 hL, pK_24 hL, pN_24 hL, pA_24, pS_24]; rfl) (by simp only [ar, va_rf, vd, put_F, put_sF, pP_24 hL, pK_24 hL, pN_24 hL, pA_24, pS_24]; rfl) (by simpa only [ar, va_rf, vd, put_F, put_sF, pP_24 hL, pK_24 hL, pN_24 hL, pA_24, pS_24] using g0)
  simpa only [ar, va_rf, vd, put_F, put_sF, pP_24 hL, pK_24 hL, pN_24 hL, pA_24, pS_24] using e
theorem q_M_go_66 (d : Nat) (a : Nat) (x1 : Int32) (x2 : Int32) (x3 : Int32) (σ : Mm) (μ : Ms) (hL : LM σ a) (g0 : ix x3 6 = true) : run d 168 66 [.ref a, .int (x1), .int (x2), .int (x3)] [] (put σ a μ) = if (μ.2 30 (x3 : Int32).toNatClampNeg) ≤ 0 then run d 168 85 [.ref a, .int (x1), .int (x2), .int (x3)] [] (put σ a μ) else run d 168 75 [.ref a, .int (x1), .int (x2), .int (x3)] [] (put σ a μ) := by
  have e := e_M_go_66 d a x1 x2 x3 (put σ a μ) (hL.K μ) (by simp only [ar, va_rf, vd, put_F, put_sF, pP_30 hL, pK_30 hL, pN_30 hL, pA_30, pS_30]; rfl) (by simp only [ar, va_rf, vd, put_F, put_sF, pP_30 hL, pK_30 hL, pN_30 hL, pA_30, pS_30]; rfl) (by simpa only [ar, va_rf, vd, put_F, put_sF, pP_30 hL, pK_30 hL, pN_30 hL, pA_30, pS_30] using g0)
  simpa only [ar, va_rf, vd, put_F, put_sF, pP_30 hL, pK_30 hL, pN_30 hL, pA_30, pS_30] using e
theorem q_M_go_75 (d : Nat) (a : Nat) (x1 : Int32) (x2 : Int32) (x3 : Int32) (σ : Mm) (μ : Ms) (hL : LM σ a) (g0 : ix x3 6 = true) : run d 168 75 [.ref a, .int (x1), .int (x2), .int (x3)] [] (put σ a μ) = run d 168 85 [.ref a, .int (x1), .int (x2), .int (x3)] [] (put σ a (fA μ 30 ((x3 : Int32).toNatClampNeg) ((μ.2 30 (x3 : Int32).toNatClampNeg) - 1))) := by
  have e := e_M_go_75 d a x1 x2 x3 (put σ a μ) (hL.K μ) (by simp only [ar, va_rf, vd, put_F, put_sF, pP_30 hL, pK_30 hL, pN_30 hL, pA_30, pS_30]; rfl) (by simp only [ar, va_rf, vd, put_F, put_sF, pP_30 hL, pK_30 hL, pN_30 hL, pA_30, pS_30]; rfl) (by simp only [ar, va_rf, vd, put_F, put_sF, pP_30 hL, pK_30 hL, pN_30 hL, pA_30, pS_30]; rfl) (by simpa only [ar, va_rf, vd, put_F, put_sF, pP_30 hL, pK_30 hL, pN_30 hL, pA_30, pS_30] using g0)
  simpa only [ar, va_rf, vd, put_F, put_sF, pP_30 hL, pK_30 hL, pN_30 hL, pA_30, pS_30] using e
theorem q_M_go_85 (d : Nat) (a : Nat) (x1 : Int32) (x2 : Int32) (x3 : Int32) (σ : Mm) (μ : Ms) (hL : LM σ a) (g0 : ix x3 6 = true) : run d 168 85 [.ref a, .int (x1), .int (x2), .int (x3)] [] (put σ a μ) = if (μ.2 29 (x3 : Int32).toNatClampNeg) = ((-1)) then run d 168 125 [.ref a, .int (x1), .int (x2), .int (x3)] [] (put σ a μ) else run d 168 95 [.ref a, .int (x1), .int (x2), .int (x3)] [] (put σ a μ) := by
  have e := e_M_go_85 d a x1 x2 x3 (put σ a μ) (hL.K μ) (by simp only [ar, va_rf, vd, put_F, put_sF, pP_29 hL, pK_29 hL, pN_29 hL, pA_29, pS_29]; rfl) (by simp only [ar, va_rf, vd, put_F, put_sF, pP_29 hL, pK_29 hL, pN_29 hL, pA_29, pS_29]; rfl) (by simpa only [ar, va_rf, vd, put_F, put_sF, pP_29 hL, pK_29 hL, pN_29 hL, pA_29, pS_29] using g0)
  simpa only [ar, va_rf, vd, put_F, put_sF, pP_29 hL, pK_29 hL, pN_29 hL, pA_29, pS_29] using e
theorem q_M_go_95 (d : Nat) (a : Nat) (x1 : Int32) (x2 : Int32) (x3 : Int32) (σ : Mm) (μ : Ms) (hL : LM σ a) (g0 : ix x3 6 = true) : run (d + 1) 168 95 [.ref a, .int (x1), .int (x2), .int (x3)] [] (put σ a μ) = (runc d 161 [.ref a, .int (x3), .int (μ.2 29 (x3 : Int32).toNatClampNeg), .int (1)] (put σ a μ)).bind (fun q => run (d + 1) 168 107 [.ref a, .int (x1), .int (x2), .int (x3)] (psh q.1 []) q.2) := by
  have e := e_M_go_95 d a x1 x2 x3 (put σ a μ) (hL.K μ) (by simp only [ar, va_rf, vd, put_F, put_sF, pP_29 hL, pK_29 hL, pN_29 hL, pA_29, pS_29]; rfl) (by simp only [ar, va_rf, vd, put_F, put_sF, pP_29 hL, pK_29 hL, pN_29 hL, pA_29, pS_29]; rfl) (by simpa only [ar, va_rf, vd, put_F, put_sF, pP_29 hL, pK_29 hL, pN_29 hL, pA_29, pS_29] using g0)
  simpa only [ar, va_rf, vd, put_F, put_sF, pP_29 hL, pK_29 hL, pN_29 hL, pA_29, pS_29] using e
theorem q_M_go_107 (d : Nat) (a : Nat) (x1 : Int32) (x2 : Int32) (x3 : Int32) (σ : Mm) (μ : Ms) (hL : LM σ a)  : run d 168 107 [.ref a, .int (x1), .int (x2), .int (x3)] [] (put σ a μ) = run d 168 125 [.ref a, .int (x1), .int (x2), .int (x3)] [] (put σ a μ) := by
  have e := e_M_go_107 d a x1 x2 x3 (put σ a μ) 
  simpa only [ar, va_rf, vd, put_F, put_sF] using e
theorem q_M_go_110 (d : Nat) (a : Nat) (x1 : Int32) (x2 : Int32) (x3 : Int32) (σ : Mm) (μ : Ms) (hL : LM σ a) (g0 : ix x3 6 = true) : run d 168 110 [.ref a, .int (x1), .int (x2), .int (x3)] [] (put σ a μ) = if ¬ (μ.2 24 (x3 : Int32).toNatClampNeg) = 1 then run d 168 125 [.ref a, .int (x1), .int (x2), .int (x3)] [] (put σ a μ) else run d 168 120 [.ref a, .int (x1), .int (x2), .int (x3)] [] (put σ a μ) := by
  have e := e_M_go_110 d a x1 x2 x3 (put σ a μ) (hL.K μ) (by simp only [ar, va_rf, vd, put_F, put_sF, pP_24 hL, pK_24 hL, pN_24 hL, pA_24, pS_24]; rfl) (by simp only [ar, va_rf, vd, put_F, put_sF, pP_24 hL, pK_24 hL, pN_24 hL, pA_24, pS_24]; rfl) (by simpa only [ar, va_rf, vd, put_F, put_sF, pP_24 hL, pK_24 hL, pN_24 hL, pA_24, pS_24] using g0)
  simpa only [ar, va_rf, vd, put_F, put_sF, pP_24 hL, pK_24 hL, pN_24 hL, pA_24, pS_24] using e
theorem q_M_go_120 (d : Nat) (a : Nat) (x1 : Int32) (x2 : Int32) (x3 : Int32) (σ : Mm) (μ : Ms) (hL : LM σ a)  : run (d + 1) 168 120 [.ref a, .int (x1), .int (x2), .int (x3)] [] (put σ a μ) = (runc d 167 [.ref a, .int (x3)] (put σ a μ)).bind (fun q => run (d + 1) 168 125 [.ref a, .int (x1), .int (x2), .int (x3)] (psh q.1 []) q.2) := by
  have e := e_M_go_120 d a x1 x2 x3 (put σ a μ) (hL.K μ)
  simpa only [ar, va_rf, vd, put_F, put_sF] using e
theorem q_M_go_125 (d : Nat) (a : Nat) (x1 : Int32) (x2 : Int32) (x3 : Int32) (σ : Mm) (μ : Ms) (hL : LM σ a)  : run d 168 125 [.ref a, .int (x1), .int (x2), .int (x3)] [] (put σ a μ) = run d 168 49 [.ref a, .int (x1), .int (x2), .int (x3 + 1)] [] (put σ a μ) := by
  have e := e_M_go_125 d a x1 x2 x3 (put σ a μ) 
  simpa only [ar, va_rf, vd, put_F, put_sF] using e
theorem q_M_go_131 (d : Nat) (a : Nat) (x1 : Int32) (x2 : Int32) (x3 : Int32) (σ : Mm) (μ : Ms) (hL : LM σ a)  : run d 168 131 [.ref a, .int (x1), .int (x2), .int (x3)] [] (put σ a μ) = run d 168 32 [.ref a, .int (x1), .int (x2 + 1), .int (x3)] [] (put σ a μ) := by
  have e := e_M_go_131 d a x1 x2 x3 (put σ a μ) 
  simpa only [ar, va_rf, vd, put_F, put_sF] using e
theorem q_M_go_137 (d : Nat) (a : Nat) (x1 : Int32) (x2 : Int32) (u3 : Value) (σ : Mm) (μ : Ms) (hL : LM σ a)  : run d 168 137 [.ref a, .int (x1), .int (x2), u3] [] (put σ a μ) = some (some (.int (μ.1 1)), (put σ a μ)) := by
  have e := e_M_go_137 d a x1 x2 u3 (put σ a μ) (hL.K μ)
  simpa only [ar, va_rf, vd, put_F, put_sF] using e
theorem q_M_rest_0 (d : Nat) (a : Nat) (x1 : Int32) (u2 : Value) (u3 : Value) (σ : Mm) (μ : Ms) (hL : LM σ a)  : run d 169 0 [.ref a, .int (x1), u2, u3] [] (put σ a μ) = run d 169 5 [.ref a, .int (x1), u2, u3] [] (put σ a (fF μ 0 0)) := by
  have e := e_M_rest_0 d a x1 u2 u3 (put σ a μ) (hL.K μ)
  simpa only [ar, va_rf, vd, put_F, put_sF] using e
theorem q_M_rest_5 (d : Nat) (a : Nat) (x1 : Int32) (u2 : Value) (u3 : Value) (σ : Mm) (μ : Ms) (hL : LM σ a)  : run (d + 1) 169 5 [.ref a, .int (x1), u2, u3] [] (put σ a μ) = (runc d 132 [.ref a, .int (x1)] (put σ a μ)).bind (fun q => run (d + 1) 169 10 [.ref a, .int (x1), u2, u3] (psh q.1 []) q.2) := by
  have e := e_M_rest_5 d a x1 u2 u3 (put σ a μ) (hL.K μ)
  simpa only [ar, va_rf, vd, put_F, put_sF] using e
theorem q_M_rest_10 (d : Nat) (a : Nat) (x1 : Int32) (u2 : Value) (u3 : Value) (y0 : Int32) (σ : Mm) (μ : Ms) (hL : LM σ a)  : run d 169 10 [.ref a, .int (x1), u2, u3] [.int (y0)] (put σ a μ) = if y0 = 0 then run d 169 22 [.ref a, .int (x1), u2, u3] [] (put σ a μ) else run d 169 13 [.ref a, .int (x1), u2, u3] [] (put σ a μ) := by
  have e := e_M_rest_10 d a x1 u2 u3 y0 (put σ a μ) 
  simpa only [ar, va_rf, vd, put_F, put_sF] using e
theorem q_M_rest_13 (d : Nat) (a : Nat) (x1 : Int32) (u2 : Value) (u3 : Value) (σ : Mm) (μ : Ms) (hL : LM σ a) (g0 : ix x1 6 = true) : run d 169 13 [.ref a, .int (x1), u2, u3] [] (put σ a μ) = if (μ.2 30 (x1 : Int32).toNatClampNeg) ≤ 0 then run d 169 24 [.ref a, .int (x1), u2, u3] [] (put σ a μ) else run d 169 22 [.ref a, .int (x1), u2, u3] [] (put σ a μ) := by
  have e := e_M_rest_13 d a x1 u2 u3 (put σ a μ) (hL.K μ) (by simp only [ar, va_rf, vd, put_F, put_sF, pP_30 hL, pK_30 hL, pN_30 hL, pA_30, pS_30]; rfl) (by simp only [ar, va_rf, vd, put_F, put_sF, pP_30 hL, pK_30 hL, pN_30 hL, pA_30, pS_30]; rfl) (by simpa only [ar, va_rf, vd, put_F, put_sF, pP_30 hL, pK_30 hL, pN_30 hL, pA_30, pS_30] using g0)
  simpa only [ar, va_rf, vd, put_F, put_sF, pP_30 hL, pK_30 hL, pN_30 hL, pA_30, pS_30] using e
theorem q_M_rest_22 (d : Nat) (a : Nat) (x1 : Int32) (u2 : Value) (u3 : Value) (σ : Mm) (μ : Ms) (hL : LM σ a)  : run d 169 22 [.ref a, .int (x1), u2, u3] [] (put σ a μ) = some (some (.int (0)), (put σ a μ)) := by
  have e := e_M_rest_22 d a x1 u2 u3 (put σ a μ) 
  simpa only [ar, va_rf, vd, put_F, put_sF] using e
theorem q_M_rest_24 (d : Nat) (a : Nat) (x1 : Int32) (u2 : Value) (u3 : Value) (σ : Mm) (μ : Ms) (hL : LM σ a) (g0 : ix x1 6 = true) : run d 169 24 [.ref a, .int (x1), u2, u3] [] (put σ a μ) = run d 169 33 [.ref a, .int (x1), .int (μ.2 23 (x1 : Int32).toNatClampNeg), .int (0)] [] (put σ a μ) := by
  have e := e_M_rest_24 d a x1 u2 u3 (put σ a μ) (hL.K μ) (by simp only [ar, va_rf, vd, put_F, put_sF, pP_23 hL, pK_23 hL, pN_23 hL, pA_23, pS_23]; rfl) (by simp only [ar, va_rf, vd, put_F, put_sF, pP_23 hL, pK_23 hL, pN_23 hL, pA_23, pS_23]; rfl) (by simpa only [ar, va_rf, vd, put_F, put_sF, pP_23 hL, pK_23 hL, pN_23 hL, pA_23, pS_23] using g0)
  simpa only [ar, va_rf, vd, put_F, put_sF, pP_23 hL, pK_23 hL, pN_23 hL, pA_23, pS_23] using e
theorem q_M_rest_33 (d : Nat) (a : Nat) (x1 : Int32) (x2 : Int32) (x3 : Int32) (σ : Mm) (μ : Ms) (hL : LM σ a)  : run d 169 33 [.ref a, .int (x1), .int (x2), .int (x3)] [] (put σ a μ) = if (μ.1 16) ≤ x3 then run d 169 93 [.ref a, .int (x1), .int (x2), .int (x3)] [] (put σ a μ) else run d 169 41 [.ref a, .int (x1), .int (x2), .int (x3)] [] (put σ a μ) := by
  have e := e_M_rest_33 d a x1 x2 x3 (put σ a μ) (hL.K μ)
  simpa only [ar, va_rf, vd, put_F, put_sF] using e
theorem q_M_rest_41 (d : Nat) (a : Nat) (x1 : Int32) (x2 : Int32) (x3 : Int32) (σ : Mm) (μ : Ms) (hL : LM σ a) (g0 : ix x3 6 = true) : run d 169 41 [.ref a, .int (x1), .int (x2), .int (x3)] [] (put σ a μ) = if ¬ (μ.2 24 (x3 : Int32).toNatClampNeg) = 0 then run d 169 84 [.ref a, .int (x1), .int (x2), .int (x3)] [.int (x2)] (put σ a μ) else run d 169 51 [.ref a, .int (x1), .int (x2), .int (x3)] [.int (x2)] (put σ a μ) := by
  have e := e_M_rest_41 d a x1 x2 x3 (put σ a μ) (hL.K μ) (by simp only [ar, va_rf, vd, put_F, put_sF, pP_24 hL, pK_24 hL, pN_24 hL, pA_24, pS_24]; rfl) (by simp only [ar, va_rf, vd, put_F, put_sF, pP_24 hL, pK_24 hL, pN_24 hL, pA_24, pS_24]; rfl) (by simpa only [ar, va_rf, vd, put_F, put_sF, pP_24 hL, pK_24 hL, pN_24 hL, pA_24, pS_24] using g0)
  simpa only [ar, va_rf, vd, put_F, put_sF, pP_24 hL, pK_24 hL, pN_24 hL, pA_24, pS_24] using e
theorem q_M_rest_51 (d : Nat) (a : Nat) (x1 : Int32) (x2 : Int32) (x3 : Int32) (y0 : Int32) (σ : Mm) (μ : Ms) (hL : LM σ a) (g0 : ix x3 6 = true) (g1 : ix x1 6 = true) : run d 169 51 [.ref a, .int (x1), .int (x2), .int (x3)] [.int (y0)] (put σ a μ) = if ¬ (μ.2 25 (x3 : Int32).toNatClampNeg) = (μ.2 25 (x1 : Int32).toNatClampNeg) then run d 169 84 [.ref a, .int (x1), .int (x2), .int (x3)] [.int (y0)] (put σ a μ) else run d 169 66 [.ref a, .int (x1), .int (x2), .int (x3)] [.int (y0)] (put σ a μ) := by
  have e := e_M_rest_51 d a x1 x2 x3 y0 (put σ a μ) (hL.K μ) (by simp only [ar, va_rf, vd, put_F, put_sF, pP_25 hL, pK_25 hL, pN_25 hL, pA_25, pS_25]; rfl) (by simp only [ar, va_rf, vd, put_F, put_sF, pP_25 hL, pK_25 hL, pN_25 hL, pA_25, pS_25]; rfl) (by simpa only [ar, va_rf, vd, put_F, put_sF, pP_25 hL, pK_25 hL, pN_25 hL, pA_25, pS_25] using g0) (by simpa only [ar, va_rf, vd, put_F, put_sF, pP_25 hL, pK_25 hL, pN_25 hL, pA_25, pS_25] using g1)
  simpa only [ar, va_rf, vd, put_F, put_sF, pP_25 hL, pK_25 hL, pN_25 hL, pA_25, pS_25] using e
theorem q_M_rest_66 (d : Nat) (a : Nat) (x1 : Int32) (x2 : Int32) (x3 : Int32) (y0 : Int32) (σ : Mm) (μ : Ms) (hL : LM σ a) (g0 : ix x3 6 = true) : run d 169 66 [.ref a, .int (x1), .int (x2), .int (x3)] [.int (y0)] (put σ a μ) = if (μ.2 30 (x3 : Int32).toNatClampNeg) ≤ 0 then run d 169 84 [.ref a, .int (x1), .int (x2), .int (x3)] [.int (y0)] (put σ a μ) else run d 169 75 [.ref a, .int (x1), .int (x2), .int (x3)] [.int (y0)] (put σ a μ) := by
  have e := e_M_rest_66 d a x1 x2 x3 y0 (put σ a μ) (hL.K μ) (by simp only [ar, va_rf, vd, put_F, put_sF, pP_30 hL, pK_30 hL, pN_30 hL, pA_30, pS_30]; rfl) (by simp only [ar, va_rf, vd, put_F, put_sF, pP_30 hL, pK_30 hL, pN_30 hL, pA_30, pS_30]; rfl) (by simpa only [ar, va_rf, vd, put_F, put_sF, pP_30 hL, pK_30 hL, pN_30 hL, pA_30, pS_30] using g0)
  simpa only [ar, va_rf, vd, put_F, put_sF, pP_30 hL, pK_30 hL, pN_30 hL, pA_30, pS_30] using e
theorem q_M_rest_75 (d : Nat) (a : Nat) (x1 : Int32) (x2 : Int32) (x3 : Int32) (y0 : Int32) (σ : Mm) (μ : Ms) (hL : LM σ a) (g0 : ix x3 6 = true) : run d 169 75 [.ref a, .int (x1), .int (x2), .int (x3)] [.int (y0)] (put σ a μ) = run d 169 85 [.ref a, .int (x1), .int (x2), .int (x3)] [.int (μ.2 23 (x3 : Int32).toNatClampNeg), .int (y0)] (put σ a μ) := by
  have e := e_M_rest_75 d a x1 x2 x3 y0 (put σ a μ) (hL.K μ) (by simp only [ar, va_rf, vd, put_F, put_sF, pP_23 hL, pK_23 hL, pN_23 hL, pA_23, pS_23]; rfl) (by simp only [ar, va_rf, vd, put_F, put_sF, pP_23 hL, pK_23 hL, pN_23 hL, pA_23, pS_23]; rfl) (by simpa only [ar, va_rf, vd, put_F, put_sF, pP_23 hL, pK_23 hL, pN_23 hL, pA_23, pS_23] using g0)
  simpa only [ar, va_rf, vd, put_F, put_sF, pP_23 hL, pK_23 hL, pN_23 hL, pA_23, pS_23] using e
theorem q_M_rest_84 (d : Nat) (a : Nat) (x1 : Int32) (x2 : Int32) (x3 : Int32) (y0 : Int32) (σ : Mm) (μ : Ms) (hL : LM σ a)  : run d 169 84 [.ref a, .int (x1), .int (x2), .int (x3)] [.int (y0)] (put σ a μ) = run d 169 85 [.ref a, .int (x1), .int (x2), .int (x3)] [.int (0), .int (y0)] (put σ a μ) := by
  have e := e_M_rest_84 d a x1 x2 x3 y0 (put σ a μ) 
  simpa only [ar, va_rf, vd, put_F, put_sF] using e
theorem q_M_rest_85 (d : Nat) (a : Nat) (x1 : Int32) (x2 : Int32) (x3 : Int32) (y0 : Int32) (y1 : Int32) (σ : Mm) (μ : Ms) (hL : LM σ a)  : run d 169 85 [.ref a, .int (x1), .int (x2), .int (x3)] [.int (y0), .int (y1)] (put σ a μ) = run d 169 33 [.ref a, .int (x1), .int (y1 + y0), .int (x3 + 1)] [] (put σ a μ) := by
  have e := e_M_rest_85 d a x1 x2 x3 y0 y1 (put σ a μ) 
  simpa only [ar, va_rf, vd, put_F, put_sF] using e
theorem q_M_rest_93 (d : Nat) (a : Nat) (x1 : Int32) (x2 : Int32) (x3 : Int32) (σ : Mm) (μ : Ms) (hL : LM σ a) (g0 : ix x1 6 = true) (g1 : ix (μ.2 25 (x1 : Int32).toNatClampNeg) 12 = true) : run d 169 93 [.ref a, .int (x1), .int (x2), .int (x3)] [] (put σ a μ) = if x2 ≤ (μ.2 4 (μ.2 25 (x1 : Int32).toNatClampNeg : Int32).toNatClampNeg) then run d 169 110 [.ref a, .int (x1), .int (x2), .int (x3)] [] (put σ a μ) else run d 169 108 [.ref a, .int (x1), .int (x2), .int (x3)] [] (put σ a μ) := by
  have e := e_M_rest_93 d a x1 x2 x3 (put σ a μ) (hL.K μ) (by simp only [ar, va_rf, vd, put_F, put_sF, pP_4 hL, pK_4 hL, pN_4 hL, pA_4, pS_4, pP_25 hL, pK_25 hL, pN_25 hL, pA_25, pS_25]; rfl) (by simp only [ar, va_rf, vd, put_F, put_sF, pP_4 hL, pK_4 hL, pN_4 hL, pA_4, pS_4, pP_25 hL, pK_25 hL, pN_25 hL, pA_25, pS_25]; rfl) (by simpa only [ar, va_rf, vd, put_F, put_sF, pP_4 hL, pK_4 hL, pN_4 hL, pA_4, pS_4, pP_25 hL, pK_25 hL, pN_25 hL, pA_25, pS_25] using g0) (by simp only [ar, va_rf, vd, put_F, put_sF, pP_4 hL, pK_4 hL, pN_4 hL, pA_4, pS_4, pP_25 hL, pK_25 hL, pN_25 hL, pA_25, pS_25]; rfl) (by simp only [ar, va_rf, vd, put_F, put_sF, pP_4 hL, pK_4 hL, pN_4 hL, pA_4, pS_4, pP_25 hL, pK_25 hL, pN_25 hL, pA_25, pS_25]; rfl) (by simpa only [ar, va_rf, vd, put_F, put_sF, pP_4 hL, pK_4 hL, pN_4 hL, pA_4, pS_4, pP_25 hL, pK_25 hL, pN_25 hL, pA_25, pS_25] using g1)
  simpa only [ar, va_rf, vd, put_F, put_sF, pP_4 hL, pK_4 hL, pN_4 hL, pA_4, pS_4, pP_25 hL, pK_25 hL, pN_25 hL, pA_25, pS_25] using e
theorem q_M_rest_108 (d : Nat) (a : Nat) (x1 : Int32) (x2 : Int32) (x3 : Int32) (σ : Mm) (μ : Ms) (hL : LM σ a)  : run d 169 108 [.ref a, .int (x1), .int (x2), .int (x3)] [] (put σ a μ) = some (some (.int (0)), (put σ a μ)) := by
  have e := e_M_rest_108 d a x1 x2 x3 (put σ a μ) 
  simpa only [ar, va_rf, vd, put_F, put_sF] using e
theorem q_M_rest_110 (d : Nat) (a : Nat) (x1 : Int32) (x2 : Int32) (x3 : Int32) (σ : Mm) (μ : Ms) (hL : LM σ a) (g0 : ix x1 6 = true) : run d 169 110 [.ref a, .int (x1), .int (x2), .int (x3)] [] (put σ a μ) = run d 169 119 [.ref a, .int (x1), .int (x2), .int (x3)] [] (put σ a (fA μ 30 ((x1 : Int32).toNatClampNeg) 480)) := by
  have e := e_M_rest_110 d a x1 x2 x3 (put σ a μ) (hL.K μ) (by simp only [ar, va_rf, vd, put_F, put_sF, pP_30 hL, pK_30 hL, pN_30 hL, pA_30, pS_30]; rfl) (by simp only [ar, va_rf, vd, put_F, put_sF, pP_30 hL, pK_30 hL, pN_30 hL, pA_30, pS_30]; rfl) (by simpa only [ar, va_rf, vd, put_F, put_sF, pP_30 hL, pK_30 hL, pN_30 hL, pA_30, pS_30] using g0)
  simpa only [ar, va_rf, vd, put_F, put_sF, pP_30 hL, pK_30 hL, pN_30 hL, pA_30, pS_30] using e
theorem q_M_rest_119 (d : Nat) (a : Nat) (x1 : Int32) (x2 : Int32) (x3 : Int32) (σ : Mm) (μ : Ms) (hL : LM σ a) (g0 : ix x1 6 = true) : run d 169 119 [.ref a, .int (x1), .int (x2), .int (x3)] [] (put σ a μ) = run d 169 126 [.ref a, .int (x1), .int (x2), .int (x3)] [] (put σ a (fA μ 28 ((x1 : Int32).toNatClampNeg) 0)) := by
  have e := e_M_rest_119 d a x1 x2 x3 (put σ a μ) (hL.K μ) (by simp only [ar, va_rf, vd, put_F, put_sF, pP_28 hL, pK_28 hL, pN_28 hL, pA_28, pS_28]; rfl) (by simp only [ar, va_rf, vd, put_F, put_sF, pP_28 hL, pK_28 hL, pN_28 hL, pA_28, pS_28]; rfl) (by simpa only [ar, va_rf, vd, put_F, put_sF, pP_28 hL, pK_28 hL, pN_28 hL, pA_28, pS_28] using g0)
  simpa only [ar, va_rf, vd, put_F, put_sF, pP_28 hL, pK_28 hL, pN_28 hL, pA_28, pS_28] using e
theorem q_M_rest_126 (d : Nat) (a : Nat) (x1 : Int32) (x2 : Int32) (x3 : Int32) (σ : Mm) (μ : Ms) (hL : LM σ a)  : run d 169 126 [.ref a, .int (x1), .int (x2), .int (x3)] [] (put σ a μ) = some (some (.int (1)), (put σ a μ)) := by
  have e := e_M_rest_126 d a x1 x2 x3 (put σ a μ) 
  simpa only [ar, va_rf, vd, put_F, put_sF] using e
theorem q_M_breaks_0 (d : Nat) (a : Nat) (x1 : Int32) (x2 : Int32) (σ : Mm) (μ : Ms) (hL : LM σ a)  : run d 170 0 [.ref a, .int (x1), .int (x2)] [] (put σ a μ) = run d 170 5 [.ref a, .int (x1), .int (x2)] [] (put σ a (fF μ 0 0)) := by
  have e := e_M_breaks_0 d a x1 x2 (put σ a μ) (hL.K μ)
  simpa only [ar, va_rf, vd, put_F, put_sF] using e
theorem q_M_breaks_5 (d : Nat) (a : Nat) (x1 : Int32) (x2 : Int32) (σ : Mm) (μ : Ms) (hL : LM σ a)  : run (d + 1) 170 5 [.ref a, .int (x1), .int (x2)] [] (put σ a μ) = (runc d 132 [.ref a, .int (x1)] (put σ a μ)).bind (fun q => run (d + 1) 170 10 [.ref a, .int (x1), .int (x2)] (psh q.1 []) q.2) := by
  have e := e_M_breaks_5 d a x1 x2 (put σ a μ) (hL.K μ)
  simpa only [ar, va_rf, vd, put_F, put_sF] using e
theorem q_M_breaks_10 (d : Nat) (a : Nat) (x1 : Int32) (x2 : Int32) (y0 : Int32) (σ : Mm) (μ : Ms) (hL : LM σ a)  : run d 170 10 [.ref a, .int (x1), .int (x2)] [.int (y0)] (put σ a μ) = if y0 = 0 then run d 170 23 [.ref a, .int (x1), .int (x2)] [] (put σ a μ) else run d 170 13 [.ref a, .int (x1), .int (x2)] [] (put σ a μ) := by
  have e := e_M_breaks_10 d a x1 x2 y0 (put σ a μ) 
  simpa only [ar, va_rf, vd, put_F, put_sF] using e
theorem q_M_breaks_13 (d : Nat) (a : Nat) (x1 : Int32) (x2 : Int32) (σ : Mm) (μ : Ms) (hL : LM σ a) (g0 : ix x1 6 = true) : run d 170 13 [.ref a, .int (x1), .int (x2)] [] (put σ a μ) = if ¬ (μ.2 31 (x1 : Int32).toNatClampNeg) = x2 then run d 170 25 [.ref a, .int (x1), .int (x2)] [] (put σ a μ) else run d 170 23 [.ref a, .int (x1), .int (x2)] [] (put σ a μ) := by
  have e := e_M_breaks_13 d a x1 x2 (put σ a μ) (hL.K μ) (by simp only [ar, va_rf, vd, put_F, put_sF, pP_31 hL, pK_31 hL, pN_31 hL, pA_31, pS_31]; rfl) (by simp only [ar, va_rf, vd, put_F, put_sF, pP_31 hL, pK_31 hL, pN_31 hL, pA_31, pS_31]; rfl) (by simpa only [ar, va_rf, vd, put_F, put_sF, pP_31 hL, pK_31 hL, pN_31 hL, pA_31, pS_31] using g0)
  simpa only [ar, va_rf, vd, put_F, put_sF, pP_31 hL, pK_31 hL, pN_31 hL, pA_31, pS_31] using e
theorem q_M_breaks_23 (d : Nat) (a : Nat) (x1 : Int32) (x2 : Int32) (σ : Mm) (μ : Ms) (hL : LM σ a)  : run d 170 23 [.ref a, .int (x1), .int (x2)] [] (put σ a μ) = some (some (.int (0)), (put σ a μ)) := by
  have e := e_M_breaks_23 d a x1 x2 (put σ a μ) 
  simpa only [ar, va_rf, vd, put_F, put_sF] using e
theorem q_M_breaks_25 (d : Nat) (a : Nat) (x1 : Int32) (x2 : Int32) (σ : Mm) (μ : Ms) (hL : LM σ a) (g0 : (x2 : Int32) = 0 ∨ x2 = 1) (g1 : ix x1 6 = true) : run d 170 25 [.ref a, .int (x1), .int (x2)] [] (put σ a μ) = run d 170 32 [.ref a, .int (x1), .int (x2)] [] (put σ a (fA μ 31 ((x1 : Int32).toNatClampNeg) x2)) := by
  have e := e_M_breaks_25 d a x1 x2 (put σ a μ) (hL.K μ) (by simp only [ar, va_rf, vd, put_F, put_sF, pP_31 hL, pK_31 hL, pN_31 hL, pA_31, pS_31]; rfl) (by simp only [ar, va_rf, vd, put_F, put_sF, pP_31 hL, pK_31 hL, pN_31 hL, pA_31, pS_31]; rfl) (by simpa only [ar, va_rf, vd, put_F, put_sF, pP_31 hL, pK_31 hL, pN_31 hL, pA_31, pS_31] using g0) (by simpa only [ar, va_rf, vd, put_F, put_sF, pP_31 hL, pK_31 hL, pN_31 hL, pA_31, pS_31] using g1)
  simpa only [ar, va_rf, vd, put_F, put_sF, pP_31 hL, pK_31 hL, pN_31 hL, pA_31, pS_31] using e
theorem q_M_breaks_32 (d : Nat) (a : Nat) (x1 : Int32) (x2 : Int32) (σ : Mm) (μ : Ms) (hL : LM σ a)  : run d 170 32 [.ref a, .int (x1), .int (x2)] [] (put σ a μ) = some (some (.int (1)), (put σ a μ)) := by
  have e := e_M_breaks_32 d a x1 x2 (put σ a μ) 
  simpa only [ar, va_rf, vd, put_F, put_sF] using e
theorem q_M_raise_0 (d : Nat) (a : Nat) (x1 : Int32) (σ : Mm) (μ : Ms) (hL : LM σ a)  : run d 171 0 [.ref a, .int (x1)] [] (put σ a μ) = run d 171 5 [.ref a, .int (x1)] [] (put σ a (fF μ 0 0)) := by
  have e := e_M_raise_0 d a x1 (put σ a μ) (hL.K μ)
  simpa only [ar, va_rf, vd, put_F, put_sF] using e
theorem q_M_raise_5 (d : Nat) (a : Nat) (x1 : Int32) (σ : Mm) (μ : Ms) (hL : LM σ a)  : run (d + 1) 171 5 [.ref a, .int (x1)] [] (put σ a μ) = (runc d 131 [.ref a, .int (x1)] (put σ a μ)).bind (fun q => run (d + 1) 171 10 [.ref a, .int (x1)] (psh q.1 []) q.2) := by
  have e := e_M_raise_5 d a x1 (put σ a μ) (hL.K μ)
  simpa only [ar, va_rf, vd, put_F, put_sF] using e
theorem q_M_raise_10 (d : Nat) (a : Nat) (x1 : Int32) (y0 : Int32) (σ : Mm) (μ : Ms) (hL : LM σ a)  : run d 171 10 [.ref a, .int (x1)] [.int (y0)] (put σ a μ) = if y0 = 0 then run d 171 36 [.ref a, .int (x1)] [] (put σ a μ) else run d 171 13 [.ref a, .int (x1)] [] (put σ a μ) := by
  have e := e_M_raise_10 d a x1 y0 (put σ a μ) 
  simpa only [ar, va_rf, vd, put_F, put_sF] using e
theorem q_M_raise_13 (d : Nat) (a : Nat) (x1 : Int32) (σ : Mm) (μ : Ms) (hL : LM σ a) (g0 : ix x1 6 = true) : run d 171 13 [.ref a, .int (x1)] [] (put σ a μ) = if ¬ (μ.2 24 (x1 : Int32).toNatClampNeg) = 2 then run d 171 36 [.ref a, .int (x1)] [] (put σ a μ) else run d 171 23 [.ref a, .int (x1)] [] (put σ a μ) := by
  have e := e_M_raise_13 d a x1 (put σ a μ) (hL.K μ) (by simp only [ar, va_rf, vd, put_F, put_sF, pP_24 hL, pK_24 hL, pN_24 hL, pA_24, pS_24]; rfl) (by simp only [ar, va_rf, vd, put_F, put_sF, pP_24 hL, pK_24 hL, pN_24 hL, pA_24, pS_24]; rfl) (by simpa only [ar, va_rf, vd, put_F, put_sF, pP_24 hL, pK_24 hL, pN_24 hL, pA_24, pS_24] using g0)
  simpa only [ar, va_rf, vd, put_F, put_sF, pP_24 hL, pK_24 hL, pN_24 hL, pA_24, pS_24] using e
theorem q_M_raise_23 (d : Nat) (a : Nat) (x1 : Int32) (σ : Mm) (μ : Ms) (hL : LM σ a) (g0 : ix x1 6 = true) : run (d + 1) 171 23 [.ref a, .int (x1)] [] (put σ a μ) = (runc d 133 [.ref a, .int (μ.2 25 (x1 : Int32).toNatClampNeg)] (put σ a μ)).bind (fun q => run (d + 1) 171 33 [.ref a, .int (x1)] (psh q.1 []) q.2) := by
  have e := e_M_raise_23 d a x1 (put σ a μ) (hL.K μ) (by simp only [ar, va_rf, vd, put_F, put_sF, pP_25 hL, pK_25 hL, pN_25 hL, pA_25, pS_25]; rfl) (by simp only [ar, va_rf, vd, put_F, put_sF, pP_25 hL, pK_25 hL, pN_25 hL, pA_25, pS_25]; rfl) (by simpa only [ar, va_rf, vd, put_F, put_sF, pP_25 hL, pK_25 hL, pN_25 hL, pA_25, pS_25] using g0)
  simpa only [ar, va_rf, vd, put_F, put_sF, pP_25 hL, pK_25 hL, pN_25 hL, pA_25, pS_25] using e
theorem q_M_raise_33 (d : Nat) (a : Nat) (x1 : Int32) (y0 : Int32) (σ : Mm) (μ : Ms) (hL : LM σ a)  : run d 171 33 [.ref a, .int (x1)] [.int (y0)] (put σ a μ) = if ¬ y0 = 0 then run d 171 38 [.ref a, .int (x1)] [] (put σ a μ) else run d 171 36 [.ref a, .int (x1)] [] (put σ a μ) := by
  have e := e_M_raise_33 d a x1 y0 (put σ a μ) 
  simpa only [ar, va_rf, vd, put_F, put_sF] using e
theorem q_M_raise_36 (d : Nat) (a : Nat) (x1 : Int32) (σ : Mm) (μ : Ms) (hL : LM σ a)  : run d 171 36 [.ref a, .int (x1)] [] (put σ a μ) = some (some (.int (0)), (put σ a μ)) := by
  have e := e_M_raise_36 d a x1 (put σ a μ) 
  simpa only [ar, va_rf, vd, put_F, put_sF] using e
theorem q_M_raise_38 (d : Nat) (a : Nat) (x1 : Int32) (σ : Mm) (μ : Ms) (hL : LM σ a) (g0 : ix x1 6 = true) : run d 171 38 [.ref a, .int (x1)] [] (put σ a μ) = run d 171 45 [.ref a, .int (x1)] [] (put σ a (fA μ 24 ((x1 : Int32).toNatClampNeg) 0)) := by
  have e := e_M_raise_38 d a x1 (put σ a μ) (hL.K μ) (by simp only [ar, va_rf, vd, put_F, put_sF, pP_24 hL, pK_24 hL, pN_24 hL, pA_24, pS_24]; rfl) (by simp only [ar, va_rf, vd, put_F, put_sF, pP_24 hL, pK_24 hL, pN_24 hL, pA_24, pS_24]; rfl) (by simpa only [ar, va_rf, vd, put_F, put_sF, pP_24 hL, pK_24 hL, pN_24 hL, pA_24, pS_24] using g0)
  simpa only [ar, va_rf, vd, put_F, put_sF, pP_24 hL, pK_24 hL, pN_24 hL, pA_24, pS_24] using e
theorem q_M_raise_45 (d : Nat) (a : Nat) (x1 : Int32) (σ : Mm) (μ : Ms) (hL : LM σ a) (g0 : ix x1 6 = true) : run d 171 45 [.ref a, .int (x1)] [] (put σ a μ) = run d 171 52 [.ref a, .int (x1)] [] (put σ a (fA μ 31 ((x1 : Int32).toNatClampNeg) 1)) := by
  have e := e_M_raise_45 d a x1 (put σ a μ) (hL.K μ) (by simp only [ar, va_rf, vd, put_F, put_sF, pP_31 hL, pK_31 hL, pN_31 hL, pA_31, pS_31]; rfl) (by simp only [ar, va_rf, vd, put_F, put_sF, pP_31 hL, pK_31 hL, pN_31 hL, pA_31, pS_31]; rfl) (by simpa only [ar, va_rf, vd, put_F, put_sF, pP_31 hL, pK_31 hL, pN_31 hL, pA_31, pS_31] using g0)
  simpa only [ar, va_rf, vd, put_F, put_sF, pP_31 hL, pK_31 hL, pN_31 hL, pA_31, pS_31] using e
theorem q_M_raise_52 (d : Nat) (a : Nat) (x1 : Int32) (σ : Mm) (μ : Ms) (hL : LM σ a) (g0 : ix x1 6 = true) : run d 171 52 [.ref a, .int (x1)] [] (put σ a μ) = run d 171 59 [.ref a, .int (x1)] [] (put σ a (fA μ 27 ((x1 : Int32).toNatClampNeg) 0)) := by
  have e := e_M_raise_52 d a x1 (put σ a μ) (hL.K μ) (by simp only [ar, va_rf, vd, put_F, put_sF, pP_27 hL, pK_27 hL, pN_27 hL, pA_27, pS_27]; rfl) (by simp only [ar, va_rf, vd, put_F, put_sF, pP_27 hL, pK_27 hL, pN_27 hL, pA_27, pS_27]; rfl) (by simpa only [ar, va_rf, vd, put_F, put_sF, pP_27 hL, pK_27 hL, pN_27 hL, pA_27, pS_27] using g0)
  simpa only [ar, va_rf, vd, put_F, put_sF, pP_27 hL, pK_27 hL, pN_27 hL, pA_27, pS_27] using e
theorem q_M_raise_59 (d : Nat) (a : Nat) (x1 : Int32) (σ : Mm) (μ : Ms) (hL : LM σ a)  : run d 171 59 [.ref a, .int (x1)] [] (put σ a μ) = some (some (.int (1)), (put σ a μ)) := by
  have e := e_M_raise_59 d a x1 (put σ a μ) 
  simpa only [ar, va_rf, vd, put_F, put_sF] using e
theorem q_M_bag_0 (d : Nat) (a : Nat) (x1 : Int32) (x2 : Int32) (x3 : Int32) (x4 : Int32) (σ : Mm) (μ : Ms) (hL : LM σ a)  : run d 172 0 [.ref a, .int (x1), .int (x2), .int (x3), .int (x4)] [] (put σ a μ) = run d 172 5 [.ref a, .int (x1), .int (x2), .int (x3), .int (x4)] [] (put σ a (fF μ 0 0)) := by
  have e := e_M_bag_0 d a x1 x2 x3 x4 (put σ a μ) (hL.K μ)
  simpa only [ar, va_rf, vd, put_F, put_sF] using e
theorem q_M_bag_5 (d : Nat) (a : Nat) (x1 : Int32) (x2 : Int32) (x3 : Int32) (x4 : Int32) (σ : Mm) (μ : Ms) (hL : LM σ a)  : run d 172 5 [.ref a, .int (x1), .int (x2), .int (x3), .int (x4)] [] (put σ a μ) = if (μ.1 60) = 30 then run d 172 58 [.ref a, .int (x1), .int (x2), .int (x3), .int (x4)] [] (put σ a μ) else run d 172 14 [.ref a, .int (x1), .int (x2), .int (x3), .int (x4)] [] (put σ a μ) := by
  have e := e_M_bag_5 d a x1 x2 x3 x4 (put σ a μ) (hL.K μ)
  simpa only [ar, va_rf, vd, put_F, put_sF] using e
theorem q_M_bag_14 (d : Nat) (a : Nat) (x1 : Int32) (x2 : Int32) (x3 : Int32) (x4 : Int32) (σ : Mm) (μ : Ms) (hL : LM σ a)  : run (d + 1) 172 14 [.ref a, .int (x1), .int (x2), .int (x3), .int (x4)] [] (put σ a μ) = (runc d 118 [.ref a, .int (x1)] (put σ a μ)).bind (fun q => run (d + 1) 172 19 [.ref a, .int (x1), .int (x2), .int (x3), .int (x4)] (psh q.1 []) q.2) := by
  have e := e_M_bag_14 d a x1 x2 x3 x4 (put σ a μ) (hL.K μ)
  simpa only [ar, va_rf, vd, put_F, put_sF] using e
theorem q_M_bag_19 (d : Nat) (a : Nat) (x1 : Int32) (x2 : Int32) (x3 : Int32) (x4 : Int32) (y0 : Int32) (σ : Mm) (μ : Ms) (hL : LM σ a)  : run d 172 19 [.ref a, .int (x1), .int (x2), .int (x3), .int (x4)] [.int (y0)] (put σ a μ) = if y0 = 0 then run d 172 58 [.ref a, .int (x1), .int (x2), .int (x3), .int (x4)] [] (put σ a μ) else run d 172 22 [.ref a, .int (x1), .int (x2), .int (x3), .int (x4)] [] (put σ a μ) := by
  have e := e_M_bag_19 d a x1 x2 x3 x4 y0 (put σ a μ) 
  simpa only [ar, va_rf, vd, put_F, put_sF] using e
theorem q_M_bag_22 (d : Nat) (a : Nat) (x1 : Int32) (x2 : Int32) (x3 : Int32) (x4 : Int32) (σ : Mm) (μ : Ms) (hL : LM σ a)  : run (d + 1) 172 22 [.ref a, .int (x1), .int (x2), .int (x3), .int (x4)] [] (put σ a μ) = (runc d 118 [.ref a, .int (x2)] (put σ a μ)).bind (fun q => run (d + 1) 172 27 [.ref a, .int (x1), .int (x2), .int (x3), .int (x4)] (psh q.1 []) q.2) := by
  have e := e_M_bag_22 d a x1 x2 x3 x4 (put σ a μ) (hL.K μ)
  simpa only [ar, va_rf, vd, put_F, put_sF] using e
theorem q_M_bag_27 (d : Nat) (a : Nat) (x1 : Int32) (x2 : Int32) (x3 : Int32) (x4 : Int32) (y0 : Int32) (σ : Mm) (μ : Ms) (hL : LM σ a)  : run d 172 27 [.ref a, .int (x1), .int (x2), .int (x3), .int (x4)] [.int (y0)] (put σ a μ) = if y0 = 0 then run d 172 58 [.ref a, .int (x1), .int (x2), .int (x3), .int (x4)] [] (put σ a μ) else run d 172 30 [.ref a, .int (x1), .int (x2), .int (x3), .int (x4)] [] (put σ a μ) := by
  have e := e_M_bag_27 d a x1 x2 x3 x4 y0 (put σ a μ) 
  simpa only [ar, va_rf, vd, put_F, put_sF] using e
theorem q_M_bag_30 (d : Nat) (a : Nat) (x1 : Int32) (x2 : Int32) (x3 : Int32) (x4 : Int32) (σ : Mm) (μ : Ms) (hL : LM σ a)  : run d 172 30 [.ref a, .int (x1), .int (x2), .int (x3), .int (x4)] [] (put σ a μ) = if x1 = x2 then run d 172 58 [.ref a, .int (x1), .int (x2), .int (x3), .int (x4)] [] (put σ a μ) else run d 172 35 [.ref a, .int (x1), .int (x2), .int (x3), .int (x4)] [] (put σ a μ) := by
  have e := e_M_bag_30 d a x1 x2 x3 x4 (put σ a μ) 
  simpa only [ar, va_rf, vd, put_F, put_sF] using e
theorem q_M_bag_35 (d : Nat) (a : Nat) (x1 : Int32) (x2 : Int32) (x3 : Int32) (x4 : Int32) (σ : Mm) (μ : Ms) (hL : LM σ a)  : run (d + 1) 172 35 [.ref a, .int (x1), .int (x2), .int (x3), .int (x4)] [] (put σ a μ) = (runc d 115 [.int (x3), .int (1), .int (2000)] (put σ a μ)).bind (fun q => run (d + 1) 172 43 [.ref a, .int (x1), .int (x2), .int (x3), .int (x4)] (psh q.1 []) q.2) := by
  have e := e_M_bag_35 d a x1 x2 x3 x4 (put σ a μ) 
  simpa only [ar, va_rf, vd, put_F, put_sF] using e
theorem q_M_bag_43 (d : Nat) (a : Nat) (x1 : Int32) (x2 : Int32) (x3 : Int32) (x4 : Int32) (y0 : Int32) (σ : Mm) (μ : Ms) (hL : LM σ a)  : run d 172 43 [.ref a, .int (x1), .int (x2), .int (x3), .int (x4)] [.int (y0)] (put σ a μ) = if y0 = 0 then run d 172 58 [.ref a, .int (x1), .int (x2), .int (x3), .int (x4)] [] (put σ a μ) else run d 172 46 [.ref a, .int (x1), .int (x2), .int (x3), .int (x4)] [] (put σ a μ) := by
  have e := e_M_bag_43 d a x1 x2 x3 x4 y0 (put σ a μ) 
  simpa only [ar, va_rf, vd, put_F, put_sF] using e
theorem q_M_bag_46 (d : Nat) (a : Nat) (x1 : Int32) (x2 : Int32) (x3 : Int32) (x4 : Int32) (σ : Mm) (μ : Ms) (hL : LM σ a)  : run (d + 1) 172 46 [.ref a, .int (x1), .int (x2), .int (x3), .int (x4)] [] (put σ a μ) = (runc d 115 [.int (x4), .int (0), .int (143999)] (put σ a μ)).bind (fun q => run (d + 1) 172 55 [.ref a, .int (x1), .int (x2), .int (x3), .int (x4)] (psh q.1 []) q.2) := by
  have e := e_M_bag_46 d a x1 x2 x3 x4 (put σ a μ) 
  simpa only [ar, va_rf, vd, put_F, put_sF] using e
theorem q_M_bag_55 (d : Nat) (a : Nat) (x1 : Int32) (x2 : Int32) (x3 : Int32) (x4 : Int32) (y0 : Int32) (σ : Mm) (μ : Ms) (hL : LM σ a)  : run d 172 55 [.ref a, .int (x1), .int (x2), .int (x3), .int (x4)] [.int (y0)] (put σ a μ) = if ¬ y0 = 0 then run d 172 60 [.ref a, .int (x1), .int (x2), .int (x3), .int (x4)] [] (put σ a μ) else run d 172 58 [.ref a, .int (x1), .int (x2), .int (x3), .int (x4)] [] (put σ a μ) := by
  have e := e_M_bag_55 d a x1 x2 x3 x4 y0 (put σ a μ) 
  simpa only [ar, va_rf, vd, put_F, put_sF] using e
theorem q_M_bag_58 (d : Nat) (a : Nat) (x1 : Int32) (x2 : Int32) (x3 : Int32) (x4 : Int32) (σ : Mm) (μ : Ms) (hL : LM σ a)  : run d 172 58 [.ref a, .int (x1), .int (x2), .int (x3), .int (x4)] [] (put σ a μ) = some (some (.int ((-1))), (put σ a μ)) := by
  have e := e_M_bag_58 d a x1 x2 x3 x4 (put σ a μ) 
  simpa only [ar, va_rf, vd, put_F, put_sF] using e
theorem q_M_bag_60 (d : Nat) (a : Nat) (x1 : Int32) (x2 : Int32) (x3 : Int32) (x4 : Int32) (σ : Mm) (μ : Ms) (hL : LM σ a) (g0 : ix (μ.1 60) 30 = true) : run d 172 60 [.ref a, .int (x1), .int (x2), .int (x3), .int (x4)] [] (put σ a μ) = run d 172 70 [.ref a, .int (x1), .int (x2), .int (x3), .int (x4)] [] (put σ a (fA μ 61 ((μ.1 60 : Int32).toNatClampNeg) x2)) := by
  have e := e_M_bag_60 d a x1 x2 x3 x4 (put σ a μ) (hL.K μ) (by simp only [ar, va_rf, vd, put_F, put_sF, pP_61 hL, pK_61 hL, pN_61 hL, pA_61, pS_61]; rfl) (by simp only [ar, va_rf, vd, put_F, put_sF, pP_61 hL, pK_61 hL, pN_61 hL, pA_61, pS_61]; rfl) (by simpa only [ar, va_rf, vd, put_F, put_sF, pP_61 hL, pK_61 hL, pN_61 hL, pA_61, pS_61] using g0)
  simpa only [ar, va_rf, vd, put_F, put_sF, pP_61 hL, pK_61 hL, pN_61 hL, pA_61, pS_61] using e
theorem q_M_bag_70 (d : Nat) (a : Nat) (x1 : Int32) (x2 : Int32) (x3 : Int32) (x4 : Int32) (σ : Mm) (μ : Ms) (hL : LM σ a) (g0 : ix (μ.1 60) 30 = true) : run d 172 70 [.ref a, .int (x1), .int (x2), .int (x3), .int (x4)] [] (put σ a μ) = run d 172 80 [.ref a, .int (x1), .int (x2), .int (x3), .int (x4)] [] (put σ a (fA μ 62 ((μ.1 60 : Int32).toNatClampNeg) x3)) := by
  have e := e_M_bag_70 d a x1 x2 x3 x4 (put σ a μ) (hL.K μ) (by simp only [ar, va_rf, vd, put_F, put_sF, pP_62 hL, pK_62 hL, pN_62 hL, pA_62, pS_62]; rfl) (by simp only [ar, va_rf, vd, put_F, put_sF, pP_62 hL, pK_62 hL, pN_62 hL, pA_62, pS_62]; rfl) (by simpa only [ar, va_rf, vd, put_F, put_sF, pP_62 hL, pK_62 hL, pN_62 hL, pA_62, pS_62] using g0)
  simpa only [ar, va_rf, vd, put_F, put_sF, pP_62 hL, pK_62 hL, pN_62 hL, pA_62, pS_62] using e
theorem q_M_bag_80 (d : Nat) (a : Nat) (x1 : Int32) (x2 : Int32) (x3 : Int32) (x4 : Int32) (σ : Mm) (μ : Ms) (hL : LM σ a) (g0 : ix (μ.1 60) 30 = true) : run d 172 80 [.ref a, .int (x1), .int (x2), .int (x3), .int (x4)] [] (put σ a μ) = run d 172 91 [.ref a, .int (x1), .int (x2), .int (x3), .int (x4)] [] (put σ a (fA μ 63 ((μ.1 60 : Int32).toNatClampNeg) x4)) := by
  have e := e_M_bag_80 d a x1 x2 x3 x4 (put σ a μ) (hL.K μ) (by simp only [ar, va_rf, vd, put_F, put_sF, pP_63 hL, pK_63 hL, pN_63 hL, pA_63, pS_63]; rfl) (by simp only [ar, va_rf, vd, put_F, put_sF, pP_63 hL, pK_63 hL, pN_63 hL, pA_63, pS_63]; rfl) (by simpa only [ar, va_rf, vd, put_F, put_sF, pP_63 hL, pK_63 hL, pN_63 hL, pA_63, pS_63] using g0)
  simpa only [ar, va_rf, vd, put_F, put_sF, pP_63 hL, pK_63 hL, pN_63 hL, pA_63, pS_63] using e
theorem q_M_bag_91 (d : Nat) (a : Nat) (x1 : Int32) (x2 : Int32) (x3 : Int32) (x4 : Int32) (σ : Mm) (μ : Ms) (hL : LM σ a) (g0 : ix (μ.1 60) 30 = true) : run d 172 91 [.ref a, .int (x1), .int (x2), .int (x3), .int (x4)] [] (put σ a μ) = run d 172 101 [.ref a, .int (x1), .int (x2), .int (x3), .int (x4)] [] (put σ a (fA μ 64 ((μ.1 60 : Int32).toNatClampNeg) 0)) := by
  have e := e_M_bag_91 d a x1 x2 x3 x4 (put σ a μ) (hL.K μ) (by simp only [ar, va_rf, vd, put_F, put_sF, pP_64 hL, pK_64 hL, pN_64 hL, pA_64, pS_64]; rfl) (by simp only [ar, va_rf, vd, put_F, put_sF, pP_64 hL, pK_64 hL, pN_64 hL, pA_64, pS_64]; rfl) (by simpa only [ar, va_rf, vd, put_F, put_sF, pP_64 hL, pK_64 hL, pN_64 hL, pA_64, pS_64] using g0)
  simpa only [ar, va_rf, vd, put_F, put_sF, pP_64 hL, pK_64 hL, pN_64 hL, pA_64, pS_64] using e
theorem q_M_bag_101 (d : Nat) (a : Nat) (x1 : Int32) (x2 : Int32) (x3 : Int32) (x4 : Int32) (σ : Mm) (μ : Ms) (hL : LM σ a) (g0 : ix (μ.1 60) 30 = true) : run d 172 101 [.ref a, .int (x1), .int (x2), .int (x3), .int (x4)] [] (put σ a μ) = run d 172 111 [.ref a, .int (x1), .int (x2), .int (x3), .int (x4)] [] (put σ a (fA μ 65 ((μ.1 60 : Int32).toNatClampNeg) x1)) := by
  have e := e_M_bag_101 d a x1 x2 x3 x4 (put σ a μ) (hL.K μ) (by simp only [ar, va_rf, vd, put_F, put_sF, pP_65 hL, pK_65 hL, pN_65 hL, pA_65, pS_65]; rfl) (by simp only [ar, va_rf, vd, put_F, put_sF, pP_65 hL, pK_65 hL, pN_65 hL, pA_65, pS_65]; rfl) (by simpa only [ar, va_rf, vd, put_F, put_sF, pP_65 hL, pK_65 hL, pN_65 hL, pA_65, pS_65] using g0)
  simpa only [ar, va_rf, vd, put_F, put_sF, pP_65 hL, pK_65 hL, pN_65 hL, pA_65, pS_65] using e
theorem q_M_bag_111 (d : Nat) (a : Nat) (x1 : Int32) (x2 : Int32) (x3 : Int32) (x4 : Int32) (σ : Mm) (μ : Ms) (hL : LM σ a)  : run d 172 111 [.ref a, .int (x1), .int (x2), .int (x3), .int (x4)] [] (put σ a μ) = run d 172 121 [.ref a, .int (x1), .int (x2), .int (x3), .int (x4)] [] (put σ a (fF μ 60 ((μ.1 60) + 1))) := by
  have e := e_M_bag_111 d a x1 x2 x3 x4 (put σ a μ) (hL.K μ)
  simpa only [ar, va_rf, vd, put_F, put_sF] using e
theorem q_M_bag_121 (d : Nat) (a : Nat) (x1 : Int32) (x2 : Int32) (x3 : Int32) (x4 : Int32) (σ : Mm) (μ : Ms) (hL : LM σ a)  : run d 172 121 [.ref a, .int (x1), .int (x2), .int (x3), .int (x4)] [] (put σ a μ) = some (some (.int ((μ.1 60) - 1)), (put σ a μ)) := by
  have e := e_M_bag_121 d a x1 x2 x3 x4 (put σ a μ) (hL.K μ)
  simpa only [ar, va_rf, vd, put_F, put_sF] using e
theorem q_M_isBag_0 (d : Nat) (a : Nat) (x1 : Int32) (σ : Mm) (μ : Ms) (hL : LM σ a)  : run d 173 0 [.ref a, .int (x1)] [] (put σ a μ) = if x1 < 0 then run d 173 16 [.ref a, .int (x1)] [] (put σ a μ) else run d 173 4 [.ref a, .int (x1)] [] (put σ a μ) := by
  have e := e_M_isBag_0 d a x1 (put σ a μ) 
  simpa only [ar, va_rf, vd, put_F, put_sF] using e
theorem q_M_isBag_4 (d : Nat) (a : Nat) (x1 : Int32) (σ : Mm) (μ : Ms) (hL : LM σ a)  : run d 173 4 [.ref a, .int (x1)] [] (put σ a μ) = if (μ.1 60) ≤ x1 then run d 173 16 [.ref a, .int (x1)] [] (put σ a μ) else run d 173 12 [.ref a, .int (x1)] [] (put σ a μ) := by
  have e := e_M_isBag_4 d a x1 (put σ a μ) (hL.K μ)
  simpa only [ar, va_rf, vd, put_F, put_sF] using e
theorem q_M_isBag_12 (d : Nat) (a : Nat) (x1 : Int32) (σ : Mm) (μ : Ms) (hL : LM σ a)  : run d 173 12 [.ref a, .int (x1)] [] (put σ a μ) = run d 173 17 [.ref a, .int (x1)] [.int (1)] (put σ a μ) := by
  have e := e_M_isBag_12 d a x1 (put σ a μ) 
  simpa only [ar, va_rf, vd, put_F, put_sF] using e
theorem q_M_isBag_16 (d : Nat) (a : Nat) (x1 : Int32) (σ : Mm) (μ : Ms) (hL : LM σ a)  : run d 173 16 [.ref a, .int (x1)] [] (put σ a μ) = run d 173 17 [.ref a, .int (x1)] [.int (0)] (put σ a μ) := by
  have e := e_M_isBag_16 d a x1 (put σ a μ) 
  simpa only [ar, va_rf, vd, put_F, put_sF] using e
theorem q_M_isBag_17 (d : Nat) (a : Nat) (x1 : Int32) (y0 : Int32) (σ : Mm) (μ : Ms) (hL : LM σ a) (g0 : y0 = 0 ∨ y0 = 1) : run d 173 17 [.ref a, .int (x1)] [.int (y0)] (put σ a μ) = some (some (.int (y0)), (put σ a μ)) := by
  have e := e_M_isBag_17 d a x1 y0 (put σ a μ) (by simpa only [ar, va_rf, vd, put_F, put_sF] using g0)
  simpa only [ar, va_rf, vd, put_F, put_sF] using e
theorem q_M_load_0 (d : Nat) (a : Nat) (x1 : Int32) (x2 : Int32) (σ : Mm) (μ : Ms) (hL : LM σ a)  : run d 174 0 [.ref a, .int (x1), .int (x2)] [] (put σ a μ) = run d 174 5 [.ref a, .int (x1), .int (x2)] [] (put σ a (fF μ 0 0)) := by
  have e := e_M_load_0 d a x1 x2 (put σ a μ) (hL.K μ)
  simpa only [ar, va_rf, vd, put_F, put_sF] using e
theorem q_M_load_5 (d : Nat) (a : Nat) (x1 : Int32) (x2 : Int32) (σ : Mm) (μ : Ms) (hL : LM σ a)  : run (d + 1) 174 5 [.ref a, .int (x1), .int (x2)] [] (put σ a μ) = (runc d 173 [.ref a, .int (x1)] (put σ a μ)).bind (fun q => run (d + 1) 174 10 [.ref a, .int (x1), .int (x2)] (psh q.1 []) q.2) := by
  have e := e_M_load_5 d a x1 x2 (put σ a μ) (hL.K μ)
  simpa only [ar, va_rf, vd, put_F, put_sF] using e
theorem q_M_load_10 (d : Nat) (a : Nat) (x1 : Int32) (x2 : Int32) (y0 : Int32) (σ : Mm) (μ : Ms) (hL : LM σ a)  : run d 174 10 [.ref a, .int (x1), .int (x2)] [.int (y0)] (put σ a μ) = if y0 = 0 then run d 174 66 [.ref a, .int (x1), .int (x2)] [] (put σ a μ) else run d 174 13 [.ref a, .int (x1), .int (x2)] [] (put σ a μ) := by
  have e := e_M_load_10 d a x1 x2 y0 (put σ a μ) 
  simpa only [ar, va_rf, vd, put_F, put_sF] using e
theorem q_M_load_13 (d : Nat) (a : Nat) (x1 : Int32) (x2 : Int32) (σ : Mm) (μ : Ms) (hL : LM σ a) (g0 : ix x1 30 = true) : run d 174 13 [.ref a, .int (x1), .int (x2)] [] (put σ a μ) = if ¬ (μ.2 64 (x1 : Int32).toNatClampNeg) = 0 then run d 174 66 [.ref a, .int (x1), .int (x2)] [] (put σ a μ) else run d 174 22 [.ref a, .int (x1), .int (x2)] [] (put σ a μ) := by
  have e := e_M_load_13 d a x1 x2 (put σ a μ) (hL.K μ) (by simp only [ar, va_rf, vd, put_F, put_sF, pP_64 hL, pK_64 hL, pN_64 hL, pA_64, pS_64]; rfl) (by simp only [ar, va_rf, vd, put_F, put_sF, pP_64 hL, pK_64 hL, pN_64 hL, pA_64, pS_64]; rfl) (by simpa only [ar, va_rf, vd, put_F, put_sF, pP_64 hL, pK_64 hL, pN_64 hL, pA_64, pS_64] using g0)
  simpa only [ar, va_rf, vd, put_F, put_sF, pP_64 hL, pK_64 hL, pN_64 hL, pA_64, pS_64] using e
theorem q_M_load_22 (d : Nat) (a : Nat) (x1 : Int32) (x2 : Int32) (σ : Mm) (μ : Ms) (hL : LM σ a)  : run (d + 1) 174 22 [.ref a, .int (x1), .int (x2)] [] (put σ a μ) = (runc d 132 [.ref a, .int (x2)] (put σ a μ)).bind (fun q => run (d + 1) 174 27 [.ref a, .int (x1), .int (x2)] (psh q.1 []) q.2) := by
  have e := e_M_load_22 d a x1 x2 (put σ a μ) (hL.K μ)
  simpa only [ar, va_rf, vd, put_F, put_sF] using e
theorem q_M_load_27 (d : Nat) (a : Nat) (x1 : Int32) (x2 : Int32) (y0 : Int32) (σ : Mm) (μ : Ms) (hL : LM σ a)  : run d 174 27 [.ref a, .int (x1), .int (x2)] [.int (y0)] (put σ a μ) = if y0 = 0 then run d 174 66 [.ref a, .int (x1), .int (x2)] [] (put σ a μ) else run d 174 30 [.ref a, .int (x1), .int (x2)] [] (put σ a μ) := by
  have e := e_M_load_27 d a x1 x2 y0 (put σ a μ) 
  simpa only [ar, va_rf, vd, put_F, put_sF] using e
theorem q_M_load_30 (d : Nat) (a : Nat) (x1 : Int32) (x2 : Int32) (σ : Mm) (μ : Ms) (hL : LM σ a) (g0 : ix x1 30 = true) (g1 : ix x2 6 = true) : run d 174 30 [.ref a, .int (x1), .int (x2)] [] (put σ a μ) = if ¬ (μ.2 65 (x1 : Int32).toNatClampNeg) = (μ.2 25 (x2 : Int32).toNatClampNeg) then run d 174 66 [.ref a, .int (x1), .int (x2)] [] (put σ a μ) else run d 174 45 [.ref a, .int (x1), .int (x2)] [] (put σ a μ) := by
  have e := e_M_load_30 d a x1 x2 (put σ a μ) (hL.K μ) (by simp only [ar, va_rf, vd, put_F, put_sF, pP_25 hL, pK_25 hL, pN_25 hL, pA_25, pS_25, pP_65 hL, pK_65 hL, pN_65 hL, pA_65, pS_65]; rfl) (by simp only [ar, va_rf, vd, put_F, put_sF, pP_25 hL, pK_25 hL, pN_25 hL, pA_25, pS_25, pP_65 hL, pK_65 hL, pN_65 hL, pA_65, pS_65]; rfl) (by simpa only [ar, va_rf, vd, put_F, put_sF, pP_25 hL, pK_25 hL, pN_25 hL, pA_25, pS_25, pP_65 hL, pK_65 hL, pN_65 hL, pA_65, pS_65] using g0) (by simp only [ar, va_rf, vd, put_F, put_sF, pP_25 hL, pK_25 hL, pN_25 hL, pA_25, pS_25, pP_65 hL, pK_65 hL, pN_65 hL, pA_65, pS_65]; rfl) (by simp only [ar, va_rf, vd, put_F, put_sF, pP_25 hL, pK_25 hL, pN_25 hL, pA_25, pS_25, pP_65 hL, pK_65 hL, pN_65 hL, pA_65, pS_65]; rfl) (by simpa only [ar, va_rf, vd, put_F, put_sF, pP_25 hL, pK_25 hL, pN_25 hL, pA_25, pS_25, pP_65 hL, pK_65 hL, pN_65 hL, pA_65, pS_65] using g1)
  simpa only [ar, va_rf, vd, put_F, put_sF, pP_25 hL, pK_25 hL, pN_25 hL, pA_25, pS_25, pP_65 hL, pK_65 hL, pN_65 hL, pA_65, pS_65] using e
theorem q_M_load_45 (d : Nat) (a : Nat) (x1 : Int32) (x2 : Int32) (σ : Mm) (μ : Ms) (hL : LM σ a)  : run (d + 1) 174 45 [.ref a, .int (x1), .int (x2)] [] (put σ a μ) = (runc d 136 [.ref a, .int (x2)] (put σ a μ)).bind (fun q => run (d + 1) 174 50 [.ref a, .int (x1), .int (x2)] (psh q.1 []) q.2) := by
  have e := e_M_load_45 d a x1 x2 (put σ a μ) (hL.K μ)
  simpa only [ar, va_rf, vd, put_F, put_sF] using e
theorem q_M_load_50 (d : Nat) (a : Nat) (x1 : Int32) (x2 : Int32) (y0 : Int32) (σ : Mm) (μ : Ms) (hL : LM σ a) (g0 : ix x1 30 = true) (g1 : ix x2 6 = true) : run d 174 50 [.ref a, .int (x1), .int (x2)] [.int (y0)] (put σ a μ) = if (y0 + (μ.2 62 (x1 : Int32).toNatClampNeg)) ≤ (μ.2 22 (x2 : Int32).toNatClampNeg) then run d 174 68 [.ref a, .int (x1), .int (x2)] [] (put σ a μ) else run d 174 66 [.ref a, .int (x1), .int (x2)] [] (put σ a μ) := by
  have e := e_M_load_50 d a x1 x2 y0 (put σ a μ) (hL.K μ) (by simp only [ar, va_rf, vd, put_F, put_sF, pP_22 hL, pK_22 hL, pN_22 hL, pA_22, pS_22, pP_62 hL, pK_62 hL, pN_62 hL, pA_62, pS_62]; rfl) (by simp only [ar, va_rf, vd, put_F, put_sF, pP_22 hL, pK_22 hL, pN_22 hL, pA_22, pS_22, pP_62 hL, pK_62 hL, pN_62 hL, pA_62, pS_62]; rfl) (by simpa only [ar, va_rf, vd, put_F, put_sF, pP_22 hL, pK_22 hL, pN_22 hL, pA_22, pS_22, pP_62 hL, pK_62 hL, pN_62 hL, pA_62, pS_62] using g0) (by simp only [ar, va_rf, vd, put_F, put_sF, pP_22 hL, pK_22 hL, pN_22 hL, pA_22, pS_22, pP_62 hL, pK_62 hL, pN_62 hL, pA_62, pS_62]; rfl) (by simp only [ar, va_rf, vd, put_F, put_sF, pP_22 hL, pK_22 hL, pN_22 hL, pA_22, pS_22, pP_62 hL, pK_62 hL, pN_62 hL, pA_62, pS_62]; rfl) (by simpa only [ar, va_rf, vd, put_F, put_sF, pP_22 hL, pK_22 hL, pN_22 hL, pA_22, pS_22, pP_62 hL, pK_62 hL, pN_62 hL, pA_62, pS_62] using g1)
  simpa only [ar, va_rf, vd, put_F, put_sF, pP_22 hL, pK_22 hL, pN_22 hL, pA_22, pS_22, pP_62 hL, pK_62 hL, pN_62 hL, pA_62, pS_62] using e
theorem q_M_load_66 (d : Nat) (a : Nat) (x1 : Int32) (x2 : Int32) (σ : Mm) (μ : Ms) (hL : LM σ a)  : run d 174 66 [.ref a, .int (x1), .int (x2)] [] (put σ a μ) = some (some (.int (0)), (put σ a μ)) := by
  have e := e_M_load_66 d a x1 x2 (put σ a μ) 
  simpa only [ar, va_rf, vd, put_F, put_sF] using e
theorem q_M_load_68 (d : Nat) (a : Nat) (x1 : Int32) (x2 : Int32) (σ : Mm) (μ : Ms) (hL : LM σ a) (g0 : ix x1 30 = true) : run d 174 68 [.ref a, .int (x1), .int (x2)] [] (put σ a μ) = run d 174 75 [.ref a, .int (x1), .int (x2)] [] (put σ a (fA μ 64 ((x1 : Int32).toNatClampNeg) 1)) := by
  have e := e_M_load_68 d a x1 x2 (put σ a μ) (hL.K μ) (by simp only [ar, va_rf, vd, put_F, put_sF, pP_64 hL, pK_64 hL, pN_64 hL, pA_64, pS_64]; rfl) (by simp only [ar, va_rf, vd, put_F, put_sF, pP_64 hL, pK_64 hL, pN_64 hL, pA_64, pS_64]; rfl) (by simpa only [ar, va_rf, vd, put_F, put_sF, pP_64 hL, pK_64 hL, pN_64 hL, pA_64, pS_64] using g0)
  simpa only [ar, va_rf, vd, put_F, put_sF, pP_64 hL, pK_64 hL, pN_64 hL, pA_64, pS_64] using e
theorem q_M_load_75 (d : Nat) (a : Nat) (x1 : Int32) (x2 : Int32) (σ : Mm) (μ : Ms) (hL : LM σ a) (g0 : ix x1 30 = true) : run d 174 75 [.ref a, .int (x1), .int (x2)] [] (put σ a μ) = run d 174 82 [.ref a, .int (x1), .int (x2)] [] (put σ a (fA μ 66 ((x1 : Int32).toNatClampNeg) x2)) := by
  have e := e_M_load_75 d a x1 x2 (put σ a μ) (hL.K μ) (by simp only [ar, va_rf, vd, put_F, put_sF, pP_66 hL, pK_66 hL, pN_66 hL, pA_66, pS_66]; rfl) (by simp only [ar, va_rf, vd, put_F, put_sF, pP_66 hL, pK_66 hL, pN_66 hL, pA_66, pS_66]; rfl) (by simpa only [ar, va_rf, vd, put_F, put_sF, pP_66 hL, pK_66 hL, pN_66 hL, pA_66, pS_66] using g0)
  simpa only [ar, va_rf, vd, put_F, put_sF, pP_66 hL, pK_66 hL, pN_66 hL, pA_66, pS_66] using e
theorem q_M_load_82 (d : Nat) (a : Nat) (x1 : Int32) (x2 : Int32) (σ : Mm) (μ : Ms) (hL : LM σ a)  : run d 174 82 [.ref a, .int (x1), .int (x2)] [] (put σ a μ) = some (some (.int (1)), (put σ a μ)) := by
  have e := e_M_load_82 d a x1 x2 (put σ a μ) 
  simpa only [ar, va_rf, vd, put_F, put_sF] using e
theorem q_M_unload_0 (d : Nat) (a : Nat) (x1 : Int32) (σ : Mm) (μ : Ms) (hL : LM σ a)  : run d 175 0 [.ref a, .int (x1)] [] (put σ a μ) = run d 175 5 [.ref a, .int (x1)] [] (put σ a (fF μ 0 0)) := by
  have e := e_M_unload_0 d a x1 (put σ a μ) (hL.K μ)
  simpa only [ar, va_rf, vd, put_F, put_sF] using e
theorem q_M_unload_5 (d : Nat) (a : Nat) (x1 : Int32) (σ : Mm) (μ : Ms) (hL : LM σ a)  : run (d + 1) 175 5 [.ref a, .int (x1)] [] (put σ a μ) = (runc d 173 [.ref a, .int (x1)] (put σ a μ)).bind (fun q => run (d + 1) 175 10 [.ref a, .int (x1)] (psh q.1 []) q.2) := by
  have e := e_M_unload_5 d a x1 (put σ a μ) (hL.K μ)
  simpa only [ar, va_rf, vd, put_F, put_sF] using e
theorem q_M_unload_10 (d : Nat) (a : Nat) (x1 : Int32) (y0 : Int32) (σ : Mm) (μ : Ms) (hL : LM σ a)  : run d 175 10 [.ref a, .int (x1)] [.int (y0)] (put σ a μ) = if y0 = 0 then run d 175 36 [.ref a, .int (x1)] [] (put σ a μ) else run d 175 13 [.ref a, .int (x1)] [] (put σ a μ) := by
  have e := e_M_unload_10 d a x1 y0 (put σ a μ) 
  simpa only [ar, va_rf, vd, put_F, put_sF] using e
theorem q_M_unload_13 (d : Nat) (a : Nat) (x1 : Int32) (σ : Mm) (μ : Ms) (hL : LM σ a) (g0 : ix x1 30 = true) : run d 175 13 [.ref a, .int (x1)] [] (put σ a μ) = if ¬ (μ.2 64 (x1 : Int32).toNatClampNeg) = 1 then run d 175 36 [.ref a, .int (x1)] [] (put σ a μ) else run d 175 23 [.ref a, .int (x1)] [] (put σ a μ) := by
  have e := e_M_unload_13 d a x1 (put σ a μ) (hL.K μ) (by simp only [ar, va_rf, vd, put_F, put_sF, pP_64 hL, pK_64 hL, pN_64 hL, pA_64, pS_64]; rfl) (by simp only [ar, va_rf, vd, put_F, put_sF, pP_64 hL, pK_64 hL, pN_64 hL, pA_64, pS_64]; rfl) (by simpa only [ar, va_rf, vd, put_F, put_sF, pP_64 hL, pK_64 hL, pN_64 hL, pA_64, pS_64] using g0)
  simpa only [ar, va_rf, vd, put_F, put_sF, pP_64 hL, pK_64 hL, pN_64 hL, pA_64, pS_64] using e
theorem q_M_unload_23 (d : Nat) (a : Nat) (x1 : Int32) (σ : Mm) (μ : Ms) (hL : LM σ a) (g0 : ix x1 30 = true) : run (d + 1) 175 23 [.ref a, .int (x1)] [] (put σ a μ) = (runc d 132 [.ref a, .int (μ.2 66 (x1 : Int32).toNatClampNeg)] (put σ a μ)).bind (fun q => run (d + 1) 175 33 [.ref a, .int (x1)] (psh q.1 []) q.2) := by
  have e := e_M_unload_23 d a x1 (put σ a μ) (hL.K μ) (by simp only [ar, va_rf, vd, put_F, put_sF, pP_66 hL, pK_66 hL, pN_66 hL, pA_66, pS_66]; rfl) (by simp only [ar, va_rf, vd, put_F, put_sF, pP_66 hL, pK_66 hL, pN_66 hL, pA_66, pS_66]; rfl) (by simpa only [ar, va_rf, vd, put_F, put_sF, pP_66 hL, pK_66 hL, pN_66 hL, pA_66, pS_66] using g0)
  simpa only [ar, va_rf, vd, put_F, put_sF, pP_66 hL, pK_66 hL, pN_66 hL, pA_66, pS_66] using e
theorem q_M_unload_33 (d : Nat) (a : Nat) (x1 : Int32) (y0 : Int32) (σ : Mm) (μ : Ms) (hL : LM σ a)  : run d 175 33 [.ref a, .int (x1)] [.int (y0)] (put σ a μ) = if ¬ y0 = 0 then run d 175 38 [.ref a, .int (x1)] [] (put σ a μ) else run d 175 36 [.ref a, .int (x1)] [] (put σ a μ) := by
  have e := e_M_unload_33 d a x1 y0 (put σ a μ) 
  simpa only [ar, va_rf, vd, put_F, put_sF] using e
theorem q_M_unload_36 (d : Nat) (a : Nat) (x1 : Int32) (σ : Mm) (μ : Ms) (hL : LM σ a)  : run d 175 36 [.ref a, .int (x1)] [] (put σ a μ) = some (some (.int (0)), (put σ a μ)) := by
  have e := e_M_unload_36 d a x1 (put σ a μ) 
  simpa only [ar, va_rf, vd, put_F, put_sF] using e
theorem q_M_unload_38 (d : Nat) (a : Nat) (x1 : Int32) (σ : Mm) (μ : Ms) (hL : LM σ a) (g0 : ix x1 30 = true) (g1 : ix (μ.2 66 (x1 : Int32).toNatClampNeg) 6 = true) (g2 : ix x1 30 = true) : run d 175 38 [.ref a, .int (x1)] [] (put σ a μ) = run d 175 55 [.ref a, .int (x1)] [] (put σ a (fA μ 65 ((x1 : Int32).toNatClampNeg) (μ.2 25 (μ.2 66 (x1 : Int32).toNatClampNeg : Int32).toNatClampNeg))) := by
  have e := e_M_unload_38 d a x1 (put σ a μ) (hL.K μ) (by simp only [ar, va_rf, vd, put_F, put_sF, pP_25 hL, pK_25 hL, pN_25 hL, pA_25, pS_25, pP_65 hL, pK_65 hL, pN_65 hL, pA_65, pS_65, pP_66 hL, pK_66 hL, pN_66 hL, pA_66, pS_66]; rfl) (by simp only [ar, va_rf, vd, put_F, put_sF, pP_25 hL, pK_25 hL, pN_25 hL, pA_25, pS_25, pP_65 hL, pK_65 hL, pN_65 hL, pA_65, pS_65, pP_66 hL, pK_66 hL, pN_66 hL, pA_66, pS_66]; rfl) (by simpa only [ar, va_rf, vd, put_F, put_sF, pP_25 hL, pK_25 hL, pN_25 hL, pA_25, pS_25, pP_65 hL, pK_65 hL, pN_65 hL, pA_65, pS_65, pP_66 hL, pK_66 hL, pN_66 hL, pA_66, pS_66] using g0) (by simp only [ar, va_rf, vd, put_F, put_sF, pP_25 hL, pK_25 hL, pN_25 hL, pA_25, pS_25, pP_65 hL, pK_65 hL, pN_65 hL, pA_65, pS_65, pP_66 hL, pK_66 hL, pN_66 hL, pA_66, pS_66]; rfl) (by simp only [ar, va_rf, vd, put_F, put_sF, pP_25 hL, pK_25 hL, pN_25 hL, pA_25, pS_25, pP_65 hL, pK_65 hL, pN_65 hL, pA_65, pS_65, pP_66 hL, pK_66 hL, pN_66 hL, pA_66, pS_66]; rfl) (by simpa only [ar, va_rf, vd, put_F, put_sF, pP_25 hL, pK_25 hL, pN_25 hL, pA_25, pS_25, pP_65 hL, pK_65 hL, pN_65 hL, pA_65, pS_65, pP_66 hL, pK_66 hL, pN_66 hL, pA_66, pS_66] using g1) (by simp only [ar, va_rf, vd, put_F, put_sF, pP_25 hL, pK_25 hL, pN_25 hL, pA_25, pS_25, pP_65 hL, pK_65 hL, pN_65 hL, pA_65, pS_65, pP_66 hL, pK_66 hL, pN_66 hL, pA_66, pS_66]; rfl) (by simp only [ar, va_rf, vd, put_F, put_sF, pP_25 hL, pK_25 hL, pN_25 hL, pA_25, pS_25, pP_65 hL, pK_65 hL, pN_65 hL, pA_65, pS_65, pP_66 hL, pK_66 hL, pN_66 hL, pA_66, pS_66]; rfl) (by simpa only [ar, va_rf, vd, put_F, put_sF, pP_25 hL, pK_25 hL, pN_25 hL, pA_25, pS_25, pP_65 hL, pK_65 hL, pN_65 hL, pA_65, pS_65, pP_66 hL, pK_66 hL, pN_66 hL, pA_66, pS_66] using g2)
  simpa only [ar, va_rf, vd, put_F, put_sF, pP_25 hL, pK_25 hL, pN_25 hL, pA_25, pS_25, pP_65 hL, pK_65 hL, pN_65 hL, pA_65, pS_65, pP_66 hL, pK_66 hL, pN_66 hL, pA_66, pS_66] using e
theorem q_M_unload_55 (d : Nat) (a : Nat) (x1 : Int32) (σ : Mm) (μ : Ms) (hL : LM σ a) (g0 : ix x1 30 = true) (g1 : ix x1 30 = true) : run d 175 55 [.ref a, .int (x1)] [] (put σ a μ) = if ¬ (μ.2 65 (x1 : Int32).toNatClampNeg) = (μ.2 61 (x1 : Int32).toNatClampNeg) then run d 175 79 [.ref a, .int (x1)] [.int (x1), (.ref (a + 47))] (put σ a μ) else run d 175 75 [.ref a, .int (x1)] [.int (x1), (.ref (a + 47))] (put σ a μ) := by
  have e := e_M_unload_55 d a x1 (put σ a μ) (hL.K μ) (by simp only [ar, va_rf, vd, put_F, put_sF, pP_61 hL, pK_61 hL, pN_61 hL, pA_61, pS_61, pP_64 hL, pK_64 hL, pN_64 hL, pA_64, pS_64, pP_65 hL, pK_65 hL, pN_65 hL, pA_65, pS_65]; rfl) (by simp only [ar, va_rf, vd, put_F, put_sF, pP_61 hL, pK_61 hL, pN_61 hL, pA_61, pS_61, pP_64 hL, pK_64 hL, pN_64 hL, pA_64, pS_64, pP_65 hL, pK_65 hL, pN_65 hL, pA_65, pS_65]; rfl) (by simpa only [ar, va_rf, vd, put_F, put_sF, pP_61 hL, pK_61 hL, pN_61 hL, pA_61, pS_61, pP_64 hL, pK_64 hL, pN_64 hL, pA_64, pS_64, pP_65 hL, pK_65 hL, pN_65 hL, pA_65, pS_65] using g0) (by simp only [ar, va_rf, vd, put_F, put_sF, pP_61 hL, pK_61 hL, pN_61 hL, pA_61, pS_61, pP_64 hL, pK_64 hL, pN_64 hL, pA_64, pS_64, pP_65 hL, pK_65 hL, pN_65 hL, pA_65, pS_65]; rfl) (by simp only [ar, va_rf, vd, put_F, put_sF, pP_61 hL, pK_61 hL, pN_61 hL, pA_61, pS_61, pP_64 hL, pK_64 hL, pN_64 hL, pA_64, pS_64, pP_65 hL, pK_65 hL, pN_65 hL, pA_65, pS_65]; rfl) (by simpa only [ar, va_rf, vd, put_F, put_sF, pP_61 hL, pK_61 hL, pN_61 hL, pA_61, pS_61, pP_64 hL, pK_64 hL, pN_64 hL, pA_64, pS_64, pP_65 hL, pK_65 hL, pN_65 hL, pA_65, pS_65] using g1)
  simpa only [ar, va_rf, vd, put_F, put_sF, pP_61 hL, pK_61 hL, pN_61 hL, pA_61, pS_61, pP_64 hL, pK_64 hL, pN_64 hL, pA_64, pS_64, pP_65 hL, pK_65 hL, pN_65 hL, pA_65, pS_65] using e
theorem q_M_unload_75 (d : Nat) (a : Nat) (x1 : Int32) (y0 : Int32) (σ : Mm) (μ : Ms) (hL : LM σ a)  : run d 175 75 [.ref a, .int (x1)] [.int (y0), (.ref (a + 47))] (put σ a μ) = run d 175 80 [.ref a, .int (x1)] [.int (2), .int (y0), (.ref (a + 47))] (put σ a μ) := by
  have e := e_M_unload_75 d a x1 y0 (.ref (a + 47)) (put σ a μ) 
  simpa only [ar, va_rf, vd, put_F, put_sF, pP_64 hL, pK_64 hL, pN_64 hL, pA_64, pS_64] using e
theorem q_M_unload_79 (d : Nat) (a : Nat) (x1 : Int32) (y0 : Int32) (σ : Mm) (μ : Ms) (hL : LM σ a)  : run d 175 79 [.ref a, .int (x1)] [.int (y0), (.ref (a + 47))] (put σ a μ) = run d 175 80 [.ref a, .int (x1)] [.int (0), .int (y0), (.ref (a + 47))] (put σ a μ) := by
  have e := e_M_unload_79 d a x1 y0 (.ref (a + 47)) (put σ a μ) 
  simpa only [ar, va_rf, vd, put_F, put_sF, pP_64 hL, pK_64 hL, pN_64 hL, pA_64, pS_64] using e
theorem q_M_unload_80 (d : Nat) (a : Nat) (x1 : Int32) (y0 : Int32) (y1 : Int32) (σ : Mm) (μ : Ms) (hL : LM σ a) (g0 : ix y1 30 = true) : run d 175 80 [.ref a, .int (x1)] [.int (y0), .int (y1), (.ref (a + 47))] (put σ a μ) = run d 175 81 [.ref a, .int (x1)] [] (put σ a (fA μ 64 ((y1 : Int32).toNatClampNeg) y0)) := by
  have e := e_M_unload_80 d a x1 y0 y1 (.ref (a + 47)) (put σ a μ) rfl (by simp only [ar, va_rf, vd, put_F, put_sF, pP_64 hL, pK_64 hL, pN_64 hL, pA_64, pS_64]; rfl) (by simpa only [ar, va_rf, vd, put_F, put_sF, pP_64 hL, pK_64 hL, pN_64 hL, pA_64, pS_64] using g0)
  simpa only [ar, va_rf, vd, put_F, put_sF, pP_64 hL, pK_64 hL, pN_64 hL, pA_64, pS_64] using e
theorem q_M_unload_81 (d : Nat) (a : Nat) (x1 : Int32) (σ : Mm) (μ : Ms) (hL : LM σ a) (g0 : ix x1 30 = true) : run d 175 81 [.ref a, .int (x1)] [] (put σ a μ) = if ¬ (μ.2 64 (x1 : Int32).toNatClampNeg) = 2 then run d 175 125 [.ref a, .int (x1)] [] (put σ a μ) else run d 175 91 [.ref a, .int (x1)] [] (put σ a μ) := by
  have e := e_M_unload_81 d a x1 (put σ a μ) (hL.K μ) (by simp only [ar, va_rf, vd, put_F, put_sF, pP_64 hL, pK_64 hL, pN_64 hL, pA_64, pS_64]; rfl) (by simp only [ar, va_rf, vd, put_F, put_sF, pP_64 hL, pK_64 hL, pN_64 hL, pA_64, pS_64]; rfl) (by simpa only [ar, va_rf, vd, put_F, put_sF, pP_64 hL, pK_64 hL, pN_64 hL, pA_64, pS_64] using g0)
  simpa only [ar, va_rf, vd, put_F, put_sF, pP_64 hL, pK_64 hL, pN_64 hL, pA_64, pS_64] using e
theorem q_M_unload_91 (d : Nat) (a : Nat) (x1 : Int32) (σ : Mm) (μ : Ms) (hL : LM σ a) (g0 : ix x1 30 = true) : run d 175 91 [.ref a, .int (x1)] [] (put σ a μ) = if (μ.1 1) ≤ (μ.2 63 (x1 : Int32).toNatClampNeg) then run d 175 123 [.ref a, .int (x1)] [.int (x1), (.ref (a + 50))] (put σ a μ) else run d 175 109 [.ref a, .int (x1)] [.int (x1), (.ref (a + 50))] (put σ a μ) := by
  have e := e_M_unload_91 d a x1 (put σ a μ) (hL.K μ) (by simp only [ar, va_rf, vd, put_F, put_sF, pP_63 hL, pK_63 hL, pN_63 hL, pA_63, pS_63, pP_67 hL, pK_67 hL, pN_67 hL, pA_67, pS_67]; rfl) (by simp only [ar, va_rf, vd, put_F, put_sF, pP_63 hL, pK_63 hL, pN_63 hL, pA_63, pS_63, pP_67 hL, pK_67 hL, pN_67 hL, pA_67, pS_67]; rfl) (by simpa only [ar, va_rf, vd, put_F, put_sF, pP_63 hL, pK_63 hL, pN_63 hL, pA_63, pS_63, pP_67 hL, pK_67 hL, pN_67 hL, pA_67, pS_67] using g0)
  simpa only [ar, va_rf, vd, put_F, put_sF, pP_63 hL, pK_63 hL, pN_63 hL, pA_63, pS_63, pP_67 hL, pK_67 hL, pN_67 hL, pA_67, pS_67] using e
theorem q_M_unload_109 (d : Nat) (a : Nat) (x1 : Int32) (y0 : Int32) (σ : Mm) (μ : Ms) (hL : LM σ a) (g0 : ix x1 30 = true) : run d 175 109 [.ref a, .int (x1)] [.int (y0), (.ref (a + 50))] (put σ a μ) = run d 175 124 [.ref a, .int (x1)] [.int ((μ.1 1) - (μ.2 63 (x1 : Int32).toNatClampNeg)), .int (y0), (.ref (a + 50))] (put σ a μ) := by
  have e := e_M_unload_109 d a x1 y0 (.ref (a + 50)) (put σ a μ) (hL.K μ) (by simp only [ar, va_rf, vd, put_F, put_sF, pP_63 hL, pK_63 hL, pN_63 hL, pA_63, pS_63, pP_67 hL, pK_67 hL, pN_67 hL, pA_67, pS_67]; rfl) (by simp only [ar, va_rf, vd, put_F, put_sF, pP_63 hL, pK_63 hL, pN_63 hL, pA_63, pS_63, pP_67 hL, pK_67 hL, pN_67 hL, pA_67, pS_67]; rfl) (by simpa only [ar, va_rf, vd, put_F, put_sF, pP_63 hL, pK_63 hL, pN_63 hL, pA_63, pS_63, pP_67 hL, pK_67 hL, pN_67 hL, pA_67, pS_67] using g0)
  simpa only [ar, va_rf, vd, put_F, put_sF, pP_63 hL, pK_63 hL, pN_63 hL, pA_63, pS_63, pP_67 hL, pK_67 hL, pN_67 hL, pA_67, pS_67] using e
theorem q_M_unload_123 (d : Nat) (a : Nat) (x1 : Int32) (y0 : Int32) (σ : Mm) (μ : Ms) (hL : LM σ a)  : run d 175 123 [.ref a, .int (x1)] [.int (y0), (.ref (a + 50))] (put σ a μ) = run d 175 124 [.ref a, .int (x1)] [.int (0), .int (y0), (.ref (a + 50))] (put σ a μ) := by
  have e := e_M_unload_123 d a x1 y0 (.ref (a + 50)) (put σ a μ) 
  simpa only [ar, va_rf, vd, put_F, put_sF, pP_67 hL, pK_67 hL, pN_67 hL, pA_67, pS_67] using e
theorem q_M_unload_124 (d : Nat) (a : Nat) (x1 : Int32) (y0 : Int32) (y1 : Int32) (σ : Mm) (μ : Ms) (hL : LM σ a) (g0 : ix y1 30 = true) : run d 175 124 [.ref a, .int (x1)] [.int (y0), .int (y1), (.ref (a + 50))] (put σ a μ) = run d 175 125 [.ref a, .int (x1)] [] (put σ a (fA μ 67 ((y1 : Int32).toNatClampNeg) y0)) := by
  have e := e_M_unload_124 d a x1 y0 y1 (.ref (a + 50)) (put σ a μ) rfl (by simp only [ar, va_rf, vd, put_F, put_sF, pP_67 hL, pK_67 hL, pN_67 hL, pA_67, pS_67]; rfl) (by simpa only [ar, va_rf, vd, put_F, put_sF, pP_67 hL, pK_67 hL, pN_67 hL, pA_67, pS_67] using g0)
  simpa only [ar, va_rf, vd, put_F, put_sF, pP_67 hL, pK_67 hL, pN_67 hL, pA_67, pS_67] using e
theorem q_M_unload_125 (d : Nat) (a : Nat) (x1 : Int32) (σ : Mm) (μ : Ms) (hL : LM σ a)  : run d 175 125 [.ref a, .int (x1)] [] (put σ a μ) = some (some (.int (1)), (put σ a μ)) := by
  have e := e_M_unload_125 d a x1 (put σ a μ) 
  simpa only [ar, va_rf, vd, put_F, put_sF] using e
theorem q_M_mail_0 (d : Nat) (a : Nat) (x1 : Int32) (x2 : Int32) (σ : Mm) (μ : Ms) (hL : LM σ a)  : run (d + 1) 176 0 [.ref a, .int (x1), .int (x2)] [] (put σ a μ) = (runc d 173 [.ref a, .int (x1)] (put σ a μ)).bind (fun q => run (d + 1) 176 6 [.ref a, .int (x1), .int (x2)] (psh q.1 [.ref a]) q.2) := by
  have e := e_M_mail_0 d a x1 x2 (put σ a μ) (hL.K μ)
  simpa only [ar, va_rf, vd, put_F, put_sF] using e
theorem q_M_mail_6 (d : Nat) (a : Nat) (x1 : Int32) (x2 : Int32) (y0 : Int32) (σ : Mm) (μ : Ms) (hL : LM σ a)  : run d 176 6 [.ref a, .int (x1), .int (x2)] [.int (y0), (.ref a)] (put σ a μ) = if y0 = 0 then run d 176 33 [.ref a, .int (x1), .int (x2)] [(.ref a)] (put σ a μ) else run d 176 9 [.ref a, .int (x1), .int (x2)] [(.ref a)] (put σ a μ) := by
  have e := e_M_mail_6 d a x1 x2 y0 (.ref a) (put σ a μ) 
  simpa only [ar, va_rf, vd, put_F, put_sF] using e
theorem q_M_mail_9 (d : Nat) (a : Nat) (x1 : Int32) (x2 : Int32) (σ : Mm) (μ : Ms) (hL : LM σ a)  : run (d + 1) 176 9 [.ref a, .int (x1), .int (x2)] [(.ref a)] (put σ a μ) = (runc d 115 [.int (x2), .int (0), .int (3)] (put σ a μ)).bind (fun q => run (d + 1) 176 15 [.ref a, .int (x1), .int (x2)] (psh q.1 [(.ref a)]) q.2) := by
  have e := e_M_mail_9 d a x1 x2 (.ref a) (put σ a μ) 
  simpa only [ar, va_rf, vd, put_F, put_sF] using e
theorem q_M_mail_15 (d : Nat) (a : Nat) (x1 : Int32) (x2 : Int32) (y0 : Int32) (σ : Mm) (μ : Ms) (hL : LM σ a)  : run d 176 15 [.ref a, .int (x1), .int (x2)] [.int (y0), (.ref a)] (put σ a μ) = if ¬ y0 = 0 then run d 176 29 [.ref a, .int (x1), .int (x2)] [(.ref a)] (put σ a μ) else run d 176 18 [.ref a, .int (x1), .int (x2)] [(.ref a)] (put σ a μ) := by
  have e := e_M_mail_15 d a x1 x2 y0 (.ref a) (put σ a μ) 
  simpa only [ar, va_rf, vd, put_F, put_sF] using e
theorem q_M_mail_18 (d : Nat) (a : Nat) (x1 : Int32) (x2 : Int32) (σ : Mm) (μ : Ms) (hL : LM σ a)  : run (d + 1) 176 18 [.ref a, .int (x1), .int (x2)] [(.ref a)] (put σ a μ) = (runc d 115 [.int (x2), .int (10), .int (16)] (put σ a μ)).bind (fun q => run (d + 1) 176 26 [.ref a, .int (x1), .int (x2)] (psh q.1 [(.ref a)]) q.2) := by
  have e := e_M_mail_18 d a x1 x2 (.ref a) (put σ a μ) 
  simpa only [ar, va_rf, vd, put_F, put_sF] using e
theorem q_M_mail_26 (d : Nat) (a : Nat) (x1 : Int32) (x2 : Int32) (y0 : Int32) (σ : Mm) (μ : Ms) (hL : LM σ a)  : run d 176 26 [.ref a, .int (x1), .int (x2)] [.int (y0), (.ref a)] (put σ a μ) = if y0 = 0 then run d 176 33 [.ref a, .int (x1), .int (x2)] [(.ref a)] (put σ a μ) else run d 176 29 [.ref a, .int (x1), .int (x2)] [(.ref a)] (put σ a μ) := by
  have e := e_M_mail_26 d a x1 x2 y0 (.ref a) (put σ a μ) 
  simpa only [ar, va_rf, vd, put_F, put_sF] using e
theorem q_M_mail_29 (d : Nat) (a : Nat) (x1 : Int32) (x2 : Int32) (σ : Mm) (μ : Ms) (hL : LM σ a)  : run d 176 29 [.ref a, .int (x1), .int (x2)] [(.ref a)] (put σ a μ) = run d 176 34 [.ref a, .int (x1), .int (x2)] [.int (0), (.ref a)] (put σ a μ) := by
  have e := e_M_mail_29 d a x1 x2 (.ref a) (put σ a μ) 
  simpa only [ar, va_rf, vd, put_F, put_sF] using e
theorem q_M_mail_33 (d : Nat) (a : Nat) (x1 : Int32) (x2 : Int32) (σ : Mm) (μ : Ms) (hL : LM σ a)  : run d 176 33 [.ref a, .int (x1), .int (x2)] [(.ref a)] (put σ a μ) = run d 176 34 [.ref a, .int (x1), .int (x2)] [.int (1), (.ref a)] (put σ a μ) := by
  have e := e_M_mail_33 d a x1 x2 (.ref a) (put σ a μ) 
  simpa only [ar, va_rf, vd, put_F, put_sF] using e
theorem q_M_mail_34 (d : Nat) (a : Nat) (x1 : Int32) (x2 : Int32) (y0 : Int32) (σ : Mm) (μ : Ms) (hL : LM σ a)  : run d 176 34 [.ref a, .int (x1), .int (x2)] [.int (y0), (.ref a)] (put σ a μ) = run d 176 37 [.ref a, .int (x1), .int (x2)] [] (put σ a (fF μ 0 y0)) := by
  have e := e_M_mail_34 d a x1 x2 y0 (.ref a) (put σ a μ) rfl (hL.K μ)
  simpa only [ar, va_rf, vd, put_F, put_sF] using e
theorem q_M_mail_37 (d : Nat) (a : Nat) (x1 : Int32) (x2 : Int32) (σ : Mm) (μ : Ms) (hL : LM σ a)  : run d 176 37 [.ref a, .int (x1), .int (x2)] [] (put σ a μ) = if (μ.1 0) ≤ 0 then run d 176 46 [.ref a, .int (x1), .int (x2)] [] (put σ a μ) else run d 176 44 [.ref a, .int (x1), .int (x2)] [] (put σ a μ) := by
  have e := e_M_mail_37 d a x1 x2 (put σ a μ) (hL.K μ)
  simpa only [ar, va_rf, vd, put_F, put_sF] using e
theorem q_M_mail_44 (d : Nat) (a : Nat) (x1 : Int32) (x2 : Int32) (σ : Mm) (μ : Ms) (hL : LM σ a)  : run d 176 44 [.ref a, .int (x1), .int (x2)] [] (put σ a μ) = some (some (.int (0)), (put σ a μ)) := by
  have e := e_M_mail_44 d a x1 x2 (put σ a μ) 
  simpa only [ar, va_rf, vd, put_F, put_sF] using e
theorem q_M_mail_46 (d : Nat) (a : Nat) (x1 : Int32) (x2 : Int32) (σ : Mm) (μ : Ms) (hL : LM σ a)  : run d 176 46 [.ref a, .int (x1), .int (x2)] [] (put σ a μ) = if x2 = 0 then run d 176 76 [.ref a, .int (x1), .int (x2)] [] (put σ a μ) else if x2 = 1 then run d 176 83 [.ref a, .int (x1), .int (x2)] [] (put σ a μ) else if x2 = 2 then run d 176 113 [.ref a, .int (x1), .int (x2)] [] (put σ a μ) else if x2 = 3 then run d 176 134 [.ref a, .int (x1), .int (x2)] [] (put σ a μ) else run d 176 155 [.ref a, .int (x1), .int (x2)] [] (put σ a μ) := by
  have e := e_M_mail_46 d a x1 x2 (put σ a μ) 
  simpa only [ar, va_rf, vd, put_F, put_sF] using e
theorem q_M_mail_76 (d : Nat) (a : Nat) (x1 : Int32) (x2 : Int32) (σ : Mm) (μ : Ms) (hL : LM σ a) (g0 : ix x1 30 = true) : run d 176 76 [.ref a, .int (x1), .int (x2)] [] (put σ a μ) = some (some (.int (μ.2 64 (x1 : Int32).toNatClampNeg)), (put σ a μ)) := by
  have e := e_M_mail_76 d a x1 x2 (put σ a μ) (hL.K μ) (by simp only [ar, va_rf, vd, put_F, put_sF, pP_64 hL, pK_64 hL, pN_64 hL, pA_64, pS_64]; rfl) (by simp only [ar, va_rf, vd, put_F, put_sF, pP_64 hL, pK_64 hL, pN_64 hL, pA_64, pS_64]; rfl) (by simpa only [ar, va_rf, vd, put_F, put_sF, pP_64 hL, pK_64 hL, pN_64 hL, pA_64, pS_64] using g0)
  simpa only [ar, va_rf, vd, put_F, put_sF, pP_64 hL, pK_64 hL, pN_64 hL, pA_64, pS_64] using e
theorem q_M_mail_83 (d : Nat) (a : Nat) (x1 : Int32) (x2 : Int32) (σ : Mm) (μ : Ms) (hL : LM σ a) (g0 : ix x1 30 = true) : run d 176 83 [.ref a, .int (x1), .int (x2)] [] (put σ a μ) = if (μ.2 64 (x1 : Int32).toNatClampNeg) = 0 then run d 176 102 [.ref a, .int (x1), .int (x2)] [] (put σ a μ) else run d 176 92 [.ref a, .int (x1), .int (x2)] [] (put σ a μ) := by
  have e := e_M_mail_83 d a x1 x2 (put σ a μ) (hL.K μ) (by simp only [ar, va_rf, vd, put_F, put_sF, pP_64 hL, pK_64 hL, pN_64 hL, pA_64, pS_64]; rfl) (by simp only [ar, va_rf, vd, put_F, put_sF, pP_64 hL, pK_64 hL, pN_64 hL, pA_64, pS_64]; rfl) (by simpa only [ar, va_rf, vd, put_F, put_sF, pP_64 hL, pK_64 hL, pN_64 hL, pA_64, pS_64] using g0)
  simpa only [ar, va_rf, vd, put_F, put_sF, pP_64 hL, pK_64 hL, pN_64 hL, pA_64, pS_64] using e
theorem q_M_mail_92 (d : Nat) (a : Nat) (x1 : Int32) (x2 : Int32) (σ : Mm) (μ : Ms) (hL : LM σ a) (g0 : ix x1 30 = true) : run d 176 92 [.ref a, .int (x1), .int (x2)] [] (put σ a μ) = if ¬ (μ.2 64 (x1 : Int32).toNatClampNeg) = 2 then run d 176 111 [.ref a, .int (x1), .int (x2)] [] (put σ a μ) else run d 176 102 [.ref a, .int (x1), .int (x2)] [] (put σ a μ) := by
  have e := e_M_mail_92 d a x1 x2 (put σ a μ) (hL.K μ) (by simp only [ar, va_rf, vd, put_F, put_sF, pP_64 hL, pK_64 hL, pN_64 hL, pA_64, pS_64]; rfl) (by simp only [ar, va_rf, vd, put_F, put_sF, pP_64 hL, pK_64 hL, pN_64 hL, pA_64, pS_64]; rfl) (by simpa only [ar, va_rf, vd, put_F, put_sF, pP_64 hL, pK_64 hL, pN_64 hL, pA_64, pS_64] using g0)
  simpa only [ar, va_rf, vd, put_F, put_sF, pP_64 hL, pK_64 hL, pN_64 hL, pA_64, pS_64] using e
theorem q_M_mail_102 (d : Nat) (a : Nat) (x1 : Int32) (x2 : Int32) (σ : Mm) (μ : Ms) (hL : LM σ a) (g0 : ix x1 30 = true) : run d 176 102 [.ref a, .int (x1), .int (x2)] [] (put σ a μ) = run d 176 112 [.ref a, .int (x1), .int (x2)] [.int (μ.2 65 (x1 : Int32).toNatClampNeg)] (put σ a μ) := by
  have e := e_M_mail_102 d a x1 x2 (put σ a μ) (hL.K μ) (by simp only [ar, va_rf, vd, put_F, put_sF, pP_65 hL, pK_65 hL, pN_65 hL, pA_65, pS_65]; rfl) (by simp only [ar, va_rf, vd, put_F, put_sF, pP_65 hL, pK_65 hL, pN_65 hL, pA_65, pS_65]; rfl) (by simpa only [ar, va_rf, vd, put_F, put_sF, pP_65 hL, pK_65 hL, pN_65 hL, pA_65, pS_65] using g0)
  simpa only [ar, va_rf, vd, put_F, put_sF, pP_65 hL, pK_65 hL, pN_65 hL, pA_65, pS_65] using e
theorem q_M_mail_111 (d : Nat) (a : Nat) (x1 : Int32) (x2 : Int32) (σ : Mm) (μ : Ms) (hL : LM σ a)  : run d 176 111 [.ref a, .int (x1), .int (x2)] [] (put σ a μ) = run d 176 112 [.ref a, .int (x1), .int (x2)] [.int ((-1))] (put σ a μ) := by
  have e := e_M_mail_111 d a x1 x2 (put σ a μ) 
  simpa only [ar, va_rf, vd, put_F, put_sF] using e
theorem q_M_mail_112 (d : Nat) (a : Nat) (x1 : Int32) (x2 : Int32) (y0 : Int32) (σ : Mm) (μ : Ms) (hL : LM σ a)  : run d 176 112 [.ref a, .int (x1), .int (x2)] [.int (y0)] (put σ a μ) = some (some (.int (y0)), (put σ a μ)) := by
  have e := e_M_mail_112 d a x1 x2 y0 (put σ a μ) 
  simpa only [ar, va_rf, vd, put_F, put_sF] using e
theorem q_M_mail_113 (d : Nat) (a : Nat) (x1 : Int32) (x2 : Int32) (σ : Mm) (μ : Ms) (hL : LM σ a) (g0 : ix x1 30 = true) : run d 176 113 [.ref a, .int (x1), .int (x2)] [] (put σ a μ) = if ¬ (μ.2 64 (x1 : Int32).toNatClampNeg) = 1 then run d 176 132 [.ref a, .int (x1), .int (x2)] [] (put σ a μ) else run d 176 123 [.ref a, .int (x1), .int (x2)] [] (put σ a μ) := by
  have e := e_M_mail_113 d a x1 x2 (put σ a μ) (hL.K μ) (by simp only [ar, va_rf, vd, put_F, put_sF, pP_64 hL, pK_64 hL, pN_64 hL, pA_64, pS_64]; rfl) (by simp only [ar, va_rf, vd, put_F, put_sF, pP_64 hL, pK_64 hL, pN_64 hL, pA_64, pS_64]; rfl) (by simpa only [ar, va_rf, vd, put_F, put_sF, pP_64 hL, pK_64 hL, pN_64 hL, pA_64, pS_64] using g0)
  simpa only [ar, va_rf, vd, put_F, put_sF, pP_64 hL, pK_64 hL, pN_64 hL, pA_64, pS_64] using e
theorem q_M_mail_123 (d : Nat) (a : Nat) (x1 : Int32) (x2 : Int32) (σ : Mm) (μ : Ms) (hL : LM σ a) (g0 : ix x1 30 = true) : run d 176 123 [.ref a, .int (x1), .int (x2)] [] (put σ a μ) = run d 176 133 [.ref a, .int (x1), .int (x2)] [.int (μ.2 66 (x1 : Int32).toNatClampNeg)] (put σ a μ) := by
  have e := e_M_mail_123 d a x1 x2 (put σ a μ) (hL.K μ) (by simp only [ar, va_rf, vd, put_F, put_sF, pP_66 hL, pK_66 hL, pN_66 hL, pA_66, pS_66]; rfl) (by simp only [ar, va_rf, vd, put_F, put_sF, pP_66 hL, pK_66 hL, pN_66 hL, pA_66, pS_66]; rfl) (by simpa only [ar, va_rf, vd, put_F, put_sF, pP_66 hL, pK_66 hL, pN_66 hL, pA_66, pS_66] using g0)
  simpa only [ar, va_rf, vd, put_F, put_sF, pP_66 hL, pK_66 hL, pN_66 hL, pA_66, pS_66] using e
theorem q_M_mail_132 (d : Nat) (a : Nat) (x1 : Int32) (x2 : Int32) (σ : Mm) (μ : Ms) (hL : LM σ a)  : run d 176 132 [.ref a, .int (x1), .int (x2)] [] (put σ a μ) = run d 176 133 [.ref a, .int (x1), .int (x2)] [.int ((-1))] (put σ a μ) := by
  have e := e_M_mail_132 d a x1 x2 (put σ a μ) 
  simpa only [ar, va_rf, vd, put_F, put_sF] using e
theorem q_M_mail_133 (d : Nat) (a : Nat) (x1 : Int32) (x2 : Int32) (y0 : Int32) (σ : Mm) (μ : Ms) (hL : LM σ a)  : run d 176 133 [.ref a, .int (x1), .int (x2)] [.int (y0)] (put σ a μ) = some (some (.int (y0)), (put σ a μ)) := by
  have e := e_M_mail_133 d a x1 x2 y0 (put σ a μ) 
  simpa only [ar, va_rf, vd, put_F, put_sF] using e
theorem q_M_mail_134 (d : Nat) (a : Nat) (x1 : Int32) (x2 : Int32) (σ : Mm) (μ : Ms) (hL : LM σ a) (g0 : ix x1 30 = true) : run d 176 134 [.ref a, .int (x1), .int (x2)] [] (put σ a μ) = if ¬ (μ.2 64 (x1 : Int32).toNatClampNeg) = 2 then run d 176 153 [.ref a, .int (x1), .int (x2)] [] (put σ a μ) else run d 176 144 [.ref a, .int (x1), .int (x2)] [] (put σ a μ) := by
  have e := e_M_mail_134 d a x1 x2 (put σ a μ) (hL.K μ) (by simp only [ar, va_rf, vd, put_F, put_sF, pP_64 hL, pK_64 hL, pN_64 hL, pA_64, pS_64]; rfl) (by simp only [ar, va_rf, vd, put_F, put_sF, pP_64 hL, pK_64 hL, pN_64 hL, pA_64, pS_64]; rfl) (by simpa only [ar, va_rf, vd, put_F, put_sF, pP_64 hL, pK_64 hL, pN_64 hL, pA_64, pS_64] using g0)
  simpa only [ar, va_rf, vd, put_F, put_sF, pP_64 hL, pK_64 hL, pN_64 hL, pA_64, pS_64] using e
theorem q_M_mail_144 (d : Nat) (a : Nat) (x1 : Int32) (x2 : Int32) (σ : Mm) (μ : Ms) (hL : LM σ a) (g0 : ix x1 30 = true) : run d 176 144 [.ref a, .int (x1), .int (x2)] [] (put σ a μ) = run d 176 154 [.ref a, .int (x1), .int (x2)] [.int (μ.2 67 (x1 : Int32).toNatClampNeg)] (put σ a μ) := by
  have e := e_M_mail_144 d a x1 x2 (put σ a μ) (hL.K μ) (by simp only [ar, va_rf, vd, put_F, put_sF, pP_67 hL, pK_67 hL, pN_67 hL, pA_67, pS_67]; rfl) (by simp only [ar, va_rf, vd, put_F, put_sF, pP_67 hL, pK_67 hL, pN_67 hL, pA_67, pS_67]; rfl) (by simpa only [ar, va_rf, vd, put_F, put_sF, pP_67 hL, pK_67 hL, pN_67 hL, pA_67, pS_67] using g0)
  simpa only [ar, va_rf, vd, put_F, put_sF, pP_67 hL, pK_67 hL, pN_67 hL, pA_67, pS_67] using e
theorem q_M_mail_153 (d : Nat) (a : Nat) (x1 : Int32) (x2 : Int32) (σ : Mm) (μ : Ms) (hL : LM σ a)  : run d 176 153 [.ref a, .int (x1), .int (x2)] [] (put σ a μ) = run d 176 154 [.ref a, .int (x1), .int (x2)] [.int ((-1))] (put σ a μ) := by
  have e := e_M_mail_153 d a x1 x2 (put σ a μ) 
  simpa only [ar, va_rf, vd, put_F, put_sF] using e
theorem q_M_mail_154 (d : Nat) (a : Nat) (x1 : Int32) (x2 : Int32) (y0 : Int32) (σ : Mm) (μ : Ms) (hL : LM σ a)  : run d 176 154 [.ref a, .int (x1), .int (x2)] [.int (y0)] (put σ a μ) = some (some (.int (y0)), (put σ a μ)) := by
  have e := e_M_mail_154 d a x1 x2 y0 (put σ a μ) 
  simpa only [ar, va_rf, vd, put_F, put_sF] using e
theorem q_M_mail_155 (d : Nat) (a : Nat) (x1 : Int32) (x2 : Int32) (σ : Mm) (μ : Ms) (hL : LM σ a) (g0 : ix (((7 * x1) + x2) - 10) 210 = true) : run d 176 155 [.ref a, .int (x1), .int (x2)] [] (put σ a μ) = some (some (.int (μ.2 68 (((7 * x1) + x2) - 10 : Int32).toNatClampNeg)), (put σ a μ)) := by
  have e := e_M_mail_155 d a x1 x2 (put σ a μ) (hL.K μ) (by simp only [ar, va_rf, vd, put_F, put_sF, pP_68 hL, pK_68 hL, pN_68 hL, pA_68, pS_68]; rfl) (by simp only [ar, va_rf, vd, put_F, put_sF, pP_68 hL, pK_68 hL, pN_68 hL, pA_68, pS_68]; rfl) (by simpa only [ar, va_rf, vd, put_F, put_sF, pP_68 hL, pK_68 hL, pN_68 hL, pA_68, pS_68] using g0)
  simpa only [ar, va_rf, vd, put_F, put_sF, pP_68 hL, pK_68 hL, pN_68 hL, pA_68, pS_68] using e
theorem q_M_of_0 (d : Nat) (a : Nat) (x1 : Int32) (x2 : Int32) (σ : Mm) (μ : Ms) (hL : LM σ a)  : run (d + 1) 177 0 [.ref a, .int (x1), .int (x2)] [] (put σ a μ) = (runc d 131 [.ref a, .int (x1)] (put σ a μ)).bind (fun q => run (d + 1) 177 6 [.ref a, .int (x1), .int (x2)] (psh q.1 [.ref a]) q.2) := by
  have e := e_M_of_0 d a x1 x2 (put σ a μ) (hL.K μ)
  simpa only [ar, va_rf, vd, put_F, put_sF] using e
theorem q_M_of_6 (d : Nat) (a : Nat) (x1 : Int32) (x2 : Int32) (y0 : Int32) (σ : Mm) (μ : Ms) (hL : LM σ a)  : run d 177 6 [.ref a, .int (x1), .int (x2)] [.int (y0), (.ref a)] (put σ a μ) = if y0 = 0 then run d 177 23 [.ref a, .int (x1), .int (x2)] [(.ref a)] (put σ a μ) else run d 177 9 [.ref a, .int (x1), .int (x2)] [(.ref a)] (put σ a μ) := by
  have e := e_M_of_6 d a x1 x2 y0 (.ref a) (put σ a μ) 
  simpa only [ar, va_rf, vd, put_F, put_sF] using e
theorem q_M_of_9 (d : Nat) (a : Nat) (x1 : Int32) (x2 : Int32) (σ : Mm) (μ : Ms) (hL : LM σ a)  : run (d + 1) 177 9 [.ref a, .int (x1), .int (x2)] [(.ref a)] (put σ a μ) = (runc d 115 [.int (x2), .int (0), .int (9)] (put σ a μ)).bind (fun q => run (d + 1) 177 16 [.ref a, .int (x1), .int (x2)] (psh q.1 [(.ref a)]) q.2) := by
  have e := e_M_of_9 d a x1 x2 (.ref a) (put σ a μ) 
  simpa only [ar, va_rf, vd, put_F, put_sF] using e
theorem q_M_of_16 (d : Nat) (a : Nat) (x1 : Int32) (x2 : Int32) (y0 : Int32) (σ : Mm) (μ : Ms) (hL : LM σ a)  : run d 177 16 [.ref a, .int (x1), .int (x2)] [.int (y0), (.ref a)] (put σ a μ) = if y0 = 0 then run d 177 23 [.ref a, .int (x1), .int (x2)] [(.ref a)] (put σ a μ) else run d 177 19 [.ref a, .int (x1), .int (x2)] [(.ref a)] (put σ a μ) := by
  have e := e_M_of_16 d a x1 x2 y0 (.ref a) (put σ a μ) 
  simpa only [ar, va_rf, vd, put_F, put_sF] using e
theorem q_M_of_19 (d : Nat) (a : Nat) (x1 : Int32) (x2 : Int32) (σ : Mm) (μ : Ms) (hL : LM σ a)  : run d 177 19 [.ref a, .int (x1), .int (x2)] [(.ref a)] (put σ a μ) = run d 177 24 [.ref a, .int (x1), .int (x2)] [.int (0), (.ref a)] (put σ a μ) := by
  have e := e_M_of_19 d a x1 x2 (.ref a) (put σ a μ) 
  simpa only [ar, va_rf, vd, put_F, put_sF] using e
theorem q_M_of_23 (d : Nat) (a : Nat) (x1 : Int32) (x2 : Int32) (σ : Mm) (μ : Ms) (hL : LM σ a)  : run d 177 23 [.ref a, .int (x1), .int (x2)] [(.ref a)] (put σ a μ) = run d 177 24 [.ref a, .int (x1), .int (x2)] [.int (1), (.ref a)] (put σ a μ) := by
  have e := e_M_of_23 d a x1 x2 (.ref a) (put σ a μ) 
  simpa only [ar, va_rf, vd, put_F, put_sF] using e
theorem q_M_of_24 (d : Nat) (a : Nat) (x1 : Int32) (x2 : Int32) (y0 : Int32) (σ : Mm) (μ : Ms) (hL : LM σ a)  : run d 177 24 [.ref a, .int (x1), .int (x2)] [.int (y0), (.ref a)] (put σ a μ) = run d 177 27 [.ref a, .int (x1), .int (x2)] [] (put σ a (fF μ 0 y0)) := by
  have e := e_M_of_24 d a x1 x2 y0 (.ref a) (put σ a μ) rfl (hL.K μ)
  simpa only [ar, va_rf, vd, put_F, put_sF] using e
theorem q_M_of_27 (d : Nat) (a : Nat) (x1 : Int32) (x2 : Int32) (σ : Mm) (μ : Ms) (hL : LM σ a)  : run d 177 27 [.ref a, .int (x1), .int (x2)] [] (put σ a μ) = if (μ.1 0) ≤ 0 then run d 177 36 [.ref a, .int (x1), .int (x2)] [] (put σ a μ) else run d 177 34 [.ref a, .int (x1), .int (x2)] [] (put σ a μ) := by
  have e := e_M_of_27 d a x1 x2 (put σ a μ) (hL.K μ)
  simpa only [ar, va_rf, vd, put_F, put_sF] using e
theorem q_M_of_34 (d : Nat) (a : Nat) (x1 : Int32) (x2 : Int32) (σ : Mm) (μ : Ms) (hL : LM σ a)  : run d 177 34 [.ref a, .int (x1), .int (x2)] [] (put σ a μ) = some (some (.int (0)), (put σ a μ)) := by
  have e := e_M_of_34 d a x1 x2 (put σ a μ) 
  simpa only [ar, va_rf, vd, put_F, put_sF] using e
theorem q_M_of_36 (d : Nat) (a : Nat) (x1 : Int32) (x2 : Int32) (σ : Mm) (μ : Ms) (hL : LM σ a)  : run d 177 36 [.ref a, .int (x1), .int (x2)] [] (put σ a μ) = if x2 = 0 then run d 177 88 [.ref a, .int (x1), .int (x2)] [] (put σ a μ) else if x2 = 1 then run d 177 95 [.ref a, .int (x1), .int (x2)] [] (put σ a μ) else if x2 = 2 then run d 177 102 [.ref a, .int (x1), .int (x2)] [] (put σ a μ) else if x2 = 3 then run d 177 109 [.ref a, .int (x1), .int (x2)] [] (put σ a μ) else if x2 = 4 then run d 177 115 [.ref a, .int (x1), .int (x2)] [] (put σ a μ) else if x2 = 5 then run d 177 122 [.ref a, .int (x1), .int (x2)] [] (put σ a μ) else if x2 = 6 then run d 177 129 [.ref a, .int (x1), .int (x2)] [] (put σ a μ) else if x2 = 7 then run d 177 150 [.ref a, .int (x1), .int (x2)] [] (put σ a μ) else if x2 = 8 then run d 177 171 [.ref a, .int (x1), .int (x2)] [] (put σ a μ) else run d 177 186 [.ref a, .int (x1), .int (x2)] [] (put σ a μ) := by
  have e := e_M_of_36 d a x1 x2 (put σ a μ) 
  simpa only [ar, va_rf, vd, put_F, put_sF] using e
theorem q_M_of_88 (d : Nat) (a : Nat) (x1 : Int32) (x2 : Int32) (σ : Mm) (μ : Ms) (hL : LM σ a) (g0 : ix x1 6 = true) : run d 177 88 [.ref a, .int (x1), .int (x2)] [] (put σ a μ) = some (some (.int (μ.2 24 (x1 : Int32).toNatClampNeg)), (put σ a μ)) := by
  have e := e_M_of_88 d a x1 x2 (put σ a μ) (hL.K μ) (by simp only [ar, va_rf, vd, put_F, put_sF, pP_24 hL, pK_24 hL, pN_24 hL, pA_24, pS_24]; rfl) (by simp only [ar, va_rf, vd, put_F, put_sF, pP_24 hL, pK_24 hL, pN_24 hL, pA_24, pS_24]; rfl) (by simpa only [ar, va_rf, vd, put_F, put_sF, pP_24 hL, pK_24 hL, pN_24 hL, pA_24, pS_24] using g0)
  simpa only [ar, va_rf, vd, put_F, put_sF, pP_24 hL, pK_24 hL, pN_24 hL, pA_24, pS_24] using e
theorem q_M_of_95 (d : Nat) (a : Nat) (x1 : Int32) (x2 : Int32) (σ : Mm) (μ : Ms) (hL : LM σ a) (g0 : ix x1 6 = true) : run d 177 95 [.ref a, .int (x1), .int (x2)] [] (put σ a μ) = some (some (.int (μ.2 25 (x1 : Int32).toNatClampNeg)), (put σ a μ)) := by
  have e := e_M_of_95 d a x1 x2 (put σ a μ) (hL.K μ) (by simp only [ar, va_rf, vd, put_F, put_sF, pP_25 hL, pK_25 hL, pN_25 hL, pA_25, pS_25]; rfl) (by simp only [ar, va_rf, vd, put_F, put_sF, pP_25 hL, pK_25 hL, pN_25 hL, pA_25, pS_25]; rfl) (by simpa only [ar, va_rf, vd, put_F, put_sF, pP_25 hL, pK_25 hL, pN_25 hL, pA_25, pS_25] using g0)
  simpa only [ar, va_rf, vd, put_F, put_sF, pP_25 hL, pK_25 hL, pN_25 hL, pA_25, pS_25] using e
theorem q_M_of_102 (d : Nat) (a : Nat) (x1 : Int32) (x2 : Int32) (σ : Mm) (μ : Ms) (hL : LM σ a) (g0 : ix x1 6 = true) : run d 177 102 [.ref a, .int (x1), .int (x2)] [] (put σ a μ) = some (some (.int (μ.2 27 (x1 : Int32).toNatClampNeg)), (put σ a μ)) := by
  have e := e_M_of_102 d a x1 x2 (put σ a μ) (hL.K μ) (by simp only [ar, va_rf, vd, put_F, put_sF, pP_27 hL, pK_27 hL, pN_27 hL, pA_27, pS_27]; rfl) (by simp only [ar, va_rf, vd, put_F, put_sF, pP_27 hL, pK_27 hL, pN_27 hL, pA_27, pS_27]; rfl) (by simpa only [ar, va_rf, vd, put_F, put_sF, pP_27 hL, pK_27 hL, pN_27 hL, pA_27, pS_27] using g0)
  simpa only [ar, va_rf, vd, put_F, put_sF, pP_27 hL, pK_27 hL, pN_27 hL, pA_27, pS_27] using e
theorem q_M_of_109 (d : Nat) (a : Nat) (x1 : Int32) (x2 : Int32) (σ : Mm) (μ : Ms) (hL : LM σ a)  : run (d + 1) 177 109 [.ref a, .int (x1), .int (x2)] [] (put σ a μ) = (runc d 137 [.ref a, .int (x1)] (put σ a μ)).bind (fun q => run (d + 1) 177 114 [.ref a, .int (x1), .int (x2)] (psh q.1 []) q.2) := by
  have e := e_M_of_109 d a x1 x2 (put σ a μ) (hL.K μ)
  simpa only [ar, va_rf, vd, put_F, put_sF] using e
theorem q_M_of_114 (d : Nat) (a : Nat) (x1 : Int32) (x2 : Int32) (y0 : Int32) (σ : Mm) (μ : Ms) (hL : LM σ a)  : run d 177 114 [.ref a, .int (x1), .int (x2)] [.int (y0)] (put σ a μ) = some (some (.int (y0)), (put σ a μ)) := by
  have e := e_M_of_114 d a x1 x2 y0 (put σ a μ) 
  simpa only [ar, va_rf, vd, put_F, put_sF] using e
theorem q_M_of_115 (d : Nat) (a : Nat) (x1 : Int32) (x2 : Int32) (σ : Mm) (μ : Ms) (hL : LM σ a) (g0 : ix x1 6 = true) : run d 177 115 [.ref a, .int (x1), .int (x2)] [] (put σ a μ) = some (some (.int (μ.2 28 (x1 : Int32).toNatClampNeg)), (put σ a μ)) := by
  have e := e_M_of_115 d a x1 x2 (put σ a μ) (hL.K μ) (by simp only [ar, va_rf, vd, put_F, put_sF, pP_28 hL, pK_28 hL, pN_28 hL, pA_28, pS_28]; rfl) (by simp only [ar, va_rf, vd, put_F, put_sF, pP_28 hL, pK_28 hL, pN_28 hL, pA_28, pS_28]; rfl) (by simpa only [ar, va_rf, vd, put_F, put_sF, pP_28 hL, pK_28 hL, pN_28 hL, pA_28, pS_28] using g0)
  simpa only [ar, va_rf, vd, put_F, put_sF, pP_28 hL, pK_28 hL, pN_28 hL, pA_28, pS_28] using e
theorem q_M_of_122 (d : Nat) (a : Nat) (x1 : Int32) (x2 : Int32) (σ : Mm) (μ : Ms) (hL : LM σ a) (g0 : ix x1 6 = true) : run d 177 122 [.ref a, .int (x1), .int (x2)] [] (put σ a μ) = some (some (.int (μ.2 29 (x1 : Int32).toNatClampNeg)), (put σ a μ)) := by
  have e := e_M_of_122 d a x1 x2 (put σ a μ) (hL.K μ) (by simp only [ar, va_rf, vd, put_F, put_sF, pP_29 hL, pK_29 hL, pN_29 hL, pA_29, pS_29]; rfl) (by simp only [ar, va_rf, vd, put_F, put_sF, pP_29 hL, pK_29 hL, pN_29 hL, pA_29, pS_29]; rfl) (by simpa only [ar, va_rf, vd, put_F, put_sF, pP_29 hL, pK_29 hL, pN_29 hL, pA_29, pS_29] using g0)
  simpa only [ar, va_rf, vd, put_F, put_sF, pP_29 hL, pK_29 hL, pN_29 hL, pA_29, pS_29] using e
theorem q_M_of_129 (d : Nat) (a : Nat) (x1 : Int32) (x2 : Int32) (σ : Mm) (μ : Ms) (hL : LM σ a) (g0 : ix x1 6 = true) : run d 177 129 [.ref a, .int (x1), .int (x2)] [] (put σ a μ) = if ¬ (μ.2 24 (x1 : Int32).toNatClampNeg) = 1 then run d 177 148 [.ref a, .int (x1), .int (x2)] [] (put σ a μ) else run d 177 139 [.ref a, .int (x1), .int (x2)] [] (put σ a μ) := by
  have e := e_M_of_129 d a x1 x2 (put σ a μ) (hL.K μ) (by simp only [ar, va_rf, vd, put_F, put_sF, pP_24 hL, pK_24 hL, pN_24 hL, pA_24, pS_24]; rfl) (by simp only [ar, va_rf, vd, put_F, put_sF, pP_24 hL, pK_24 hL, pN_24 hL, pA_24, pS_24]; rfl) (by simpa only [ar, va_rf, vd, put_F, put_sF, pP_24 hL, pK_24 hL, pN_24 hL, pA_24, pS_24] using g0)
  simpa only [ar, va_rf, vd, put_F, put_sF, pP_24 hL, pK_24 hL, pN_24 hL, pA_24, pS_24] using e
theorem q_M_of_139 (d : Nat) (a : Nat) (x1 : Int32) (x2 : Int32) (σ : Mm) (μ : Ms) (hL : LM σ a) (g0 : ix x1 6 = true) : run d 177 139 [.ref a, .int (x1), .int (x2)] [] (put σ a μ) = run d 177 149 [.ref a, .int (x1), .int (x2)] [.int (μ.2 33 (x1 : Int32).toNatClampNeg)] (put σ a μ) := by
  have e := e_M_of_139 d a x1 x2 (put σ a μ) (hL.K μ) (by simp only [ar, va_rf, vd, put_F, put_sF, pP_33 hL, pK_33 hL, pN_33 hL, pA_33, pS_33]; rfl) (by simp only [ar, va_rf, vd, put_F, put_sF, pP_33 hL, pK_33 hL, pN_33 hL, pA_33, pS_33]; rfl) (by simpa only [ar, va_rf, vd, put_F, put_sF, pP_33 hL, pK_33 hL, pN_33 hL, pA_33, pS_33] using g0)
  simpa only [ar, va_rf, vd, put_F, put_sF, pP_33 hL, pK_33 hL, pN_33 hL, pA_33, pS_33] using e
theorem q_M_of_148 (d : Nat) (a : Nat) (x1 : Int32) (x2 : Int32) (σ : Mm) (μ : Ms) (hL : LM σ a)  : run d 177 148 [.ref a, .int (x1), .int (x2)] [] (put σ a μ) = run d 177 149 [.ref a, .int (x1), .int (x2)] [.int (0)] (put σ a μ) := by
  have e := e_M_of_148 d a x1 x2 (put σ a μ) 
  simpa only [ar, va_rf, vd, put_F, put_sF] using e
theorem q_M_of_149 (d : Nat) (a : Nat) (x1 : Int32) (x2 : Int32) (y0 : Int32) (σ : Mm) (μ : Ms) (hL : LM σ a)  : run d 177 149 [.ref a, .int (x1), .int (x2)] [.int (y0)] (put σ a μ) = some (some (.int (y0)), (put σ a μ)) := by
  have e := e_M_of_149 d a x1 x2 y0 (put σ a μ) 
  simpa only [ar, va_rf, vd, put_F, put_sF] using e
theorem q_M_of_150 (d : Nat) (a : Nat) (x1 : Int32) (x2 : Int32) (σ : Mm) (μ : Ms) (hL : LM σ a) (g0 : ix x1 6 = true) : run d 177 150 [.ref a, .int (x1), .int (x2)] [] (put σ a μ) = if ¬ (μ.2 24 (x1 : Int32).toNatClampNeg) = 1 then run d 177 169 [.ref a, .int (x1), .int (x2)] [] (put σ a μ) else run d 177 160 [.ref a, .int (x1), .int (x2)] [] (put σ a μ) := by
  have e := e_M_of_150 d a x1 x2 (put σ a μ) (hL.K μ) (by simp only [ar, va_rf, vd, put_F, put_sF, pP_24 hL, pK_24 hL, pN_24 hL, pA_24, pS_24]; rfl) (by simp only [ar, va_rf, vd, put_F, put_sF, pP_24 hL, pK_24 hL, pN_24 hL, pA_24, pS_24]; rfl) (by simpa only [ar, va_rf, vd, put_F, put_sF, pP_24 hL, pK_24 hL, pN_24 hL, pA_24, pS_24] using g0)
  simpa only [ar, va_rf, vd, put_F, put_sF, pP_24 hL, pK_24 hL, pN_24 hL, pA_24, pS_24] using e
theorem q_M_of_160 (d : Nat) (a : Nat) (x1 : Int32) (x2 : Int32) (σ : Mm) (μ : Ms) (hL : LM σ a) (g0 : ix x1 6 = true) : run d 177 160 [.ref a, .int (x1), .int (x2)] [] (put σ a μ) = run d 177 170 [.ref a, .int (x1), .int (x2)] [.int (μ.2 34 (x1 : Int32).toNatClampNeg)] (put σ a μ) := by
  have e := e_M_of_160 d a x1 x2 (put σ a μ) (hL.K μ) (by simp only [ar, va_rf, vd, put_F, put_sF, pP_34 hL, pK_34 hL, pN_34 hL, pA_34, pS_34]; rfl) (by simp only [ar, va_rf, vd, put_F, put_sF, pP_34 hL, pK_34 hL, pN_34 hL, pA_34, pS_34]; rfl) (by simpa only [ar, va_rf, vd, put_F, put_sF, pP_34 hL, pK_34 hL, pN_34 hL, pA_34, pS_34] using g0)
  simpa only [ar, va_rf, vd, put_F, put_sF, pP_34 hL, pK_34 hL, pN_34 hL, pA_34, pS_34] using e
theorem q_M_of_169 (d : Nat) (a : Nat) (x1 : Int32) (x2 : Int32) (σ : Mm) (μ : Ms) (hL : LM σ a)  : run d 177 169 [.ref a, .int (x1), .int (x2)] [] (put σ a μ) = run d 177 170 [.ref a, .int (x1), .int (x2)] [.int ((-1))] (put σ a μ) := by
  have e := e_M_of_169 d a x1 x2 (put σ a μ) 
  simpa only [ar, va_rf, vd, put_F, put_sF] using e
theorem q_M_of_170 (d : Nat) (a : Nat) (x1 : Int32) (x2 : Int32) (y0 : Int32) (σ : Mm) (μ : Ms) (hL : LM σ a)  : run d 177 170 [.ref a, .int (x1), .int (x2)] [.int (y0)] (put σ a μ) = some (some (.int (y0)), (put σ a μ)) := by
  have e := e_M_of_170 d a x1 x2 y0 (put σ a μ) 
  simpa only [ar, va_rf, vd, put_F, put_sF] using e
theorem q_M_of_171 (d : Nat) (a : Nat) (x1 : Int32) (x2 : Int32) (σ : Mm) (μ : Ms) (hL : LM σ a) (g0 : ix x1 6 = true) : run d 177 171 [.ref a, .int (x1), .int (x2)] [] (put σ a μ) = if (μ.2 30 (x1 : Int32).toNatClampNeg) ≤ 0 then run d 177 184 [.ref a, .int (x1), .int (x2)] [] (put σ a μ) else run d 177 180 [.ref a, .int (x1), .int (x2)] [] (put σ a μ) := by
  have e := e_M_of_171 d a x1 x2 (put σ a μ) (hL.K μ) (by simp only [ar, va_rf, vd, put_F, put_sF, pP_30 hL, pK_30 hL, pN_30 hL, pA_30, pS_30]; rfl) (by simp only [ar, va_rf, vd, put_F, put_sF, pP_30 hL, pK_30 hL, pN_30 hL, pA_30, pS_30]; rfl) (by simpa only [ar, va_rf, vd, put_F, put_sF, pP_30 hL, pK_30 hL, pN_30 hL, pA_30, pS_30] using g0)
  simpa only [ar, va_rf, vd, put_F, put_sF, pP_30 hL, pK_30 hL, pN_30 hL, pA_30, pS_30] using e
theorem q_M_of_180 (d : Nat) (a : Nat) (x1 : Int32) (x2 : Int32) (σ : Mm) (μ : Ms) (hL : LM σ a)  : run d 177 180 [.ref a, .int (x1), .int (x2)] [] (put σ a μ) = run d 177 185 [.ref a, .int (x1), .int (x2)] [.int (1)] (put σ a μ) := by
  have e := e_M_of_180 d a x1 x2 (put σ a μ) 
  simpa only [ar, va_rf, vd, put_F, put_sF] using e
theorem q_M_of_184 (d : Nat) (a : Nat) (x1 : Int32) (x2 : Int32) (σ : Mm) (μ : Ms) (hL : LM σ a)  : run d 177 184 [.ref a, .int (x1), .int (x2)] [] (put σ a μ) = run d 177 185 [.ref a, .int (x1), .int (x2)] [.int (0)] (put σ a μ) := by
  have e := e_M_of_184 d a x1 x2 (put σ a μ) 
  simpa only [ar, va_rf, vd, put_F, put_sF] using e
theorem q_M_of_185 (d : Nat) (a : Nat) (x1 : Int32) (x2 : Int32) (y0 : Int32) (σ : Mm) (μ : Ms) (hL : LM σ a)  : run d 177 185 [.ref a, .int (x1), .int (x2)] [.int (y0)] (put σ a μ) = some (some (.int (y0)), (put σ a μ)) := by
  have e := e_M_of_185 d a x1 x2 y0 (put σ a μ) 
  simpa only [ar, va_rf, vd, put_F, put_sF] using e
theorem q_M_of_186 (d : Nat) (a : Nat) (x1 : Int32) (x2 : Int32) (σ : Mm) (μ : Ms) (hL : LM σ a) (g0 : ix x1 6 = true) : run d 177 186 [.ref a, .int (x1), .int (x2)] [] (put σ a μ) = if (μ.2 31 (x1 : Int32).toNatClampNeg) = 0 then run d 177 199 [.ref a, .int (x1), .int (x2)] [] (put σ a μ) else run d 177 195 [.ref a, .int (x1), .int (x2)] [] (put σ a μ) := by
  have e := e_M_of_186 d a x1 x2 (put σ a μ) (hL.K μ) (by simp only [ar, va_rf, vd, put_F, put_sF, pP_31 hL, pK_31 hL, pN_31 hL, pA_31, pS_31]; rfl) (by simp only [ar, va_rf, vd, put_F, put_sF, pP_31 hL, pK_31 hL, pN_31 hL, pA_31, pS_31]; rfl) (by simpa only [ar, va_rf, vd, put_F, put_sF, pP_31 hL, pK_31 hL, pN_31 hL, pA_31, pS_31] using g0)
  simpa only [ar, va_rf, vd, put_F, put_sF, pP_31 hL, pK_31 hL, pN_31 hL, pA_31, pS_31] using e
theorem q_M_of_195 (d : Nat) (a : Nat) (x1 : Int32) (x2 : Int32) (σ : Mm) (μ : Ms) (hL : LM σ a)  : run d 177 195 [.ref a, .int (x1), .int (x2)] [] (put σ a μ) = run d 177 200 [.ref a, .int (x1), .int (x2)] [.int (1)] (put σ a μ) := by
  have e := e_M_of_195 d a x1 x2 (put σ a μ) 
  simpa only [ar, va_rf, vd, put_F, put_sF] using e
theorem q_M_of_199 (d : Nat) (a : Nat) (x1 : Int32) (x2 : Int32) (σ : Mm) (μ : Ms) (hL : LM σ a)  : run d 177 199 [.ref a, .int (x1), .int (x2)] [] (put σ a μ) = run d 177 200 [.ref a, .int (x1), .int (x2)] [.int (0)] (put σ a μ) := by
  have e := e_M_of_199 d a x1 x2 (put σ a μ) 
  simpa only [ar, va_rf, vd, put_F, put_sF] using e
theorem q_M_of_200 (d : Nat) (a : Nat) (x1 : Int32) (x2 : Int32) (y0 : Int32) (σ : Mm) (μ : Ms) (hL : LM σ a)  : run d 177 200 [.ref a, .int (x1), .int (x2)] [.int (y0)] (put σ a μ) = some (some (.int (y0)), (put σ a μ)) := by
  have e := e_M_of_200 d a x1 x2 y0 (put σ a μ) 
  simpa only [ar, va_rf, vd, put_F, put_sF] using e
theorem q_M_isExcess_0 (d : Nat) (a : Nat) (x1 : Int32) (σ : Mm) (μ : Ms) (hL : LM σ a) (g0 : ix x1 200 = true) (g1 : ix x1 200 = true) : run d 178 0 [.ref a, .int (x1)] [] (put σ a μ) = if (μ.2 59 (x1 : Int32).toNatClampNeg) < ((μ.2 57 (x1 : Int32).toNatClampNeg) + 100) then run d 178 22 [.ref a, .int (x1)] [] (put σ a μ) else run d 178 18 [.ref a, .int (x1)] [] (put σ a μ) := by
  have e := e_M_isExcess_0 d a x1 (put σ a μ) (hL.K μ) (by simp only [ar, va_rf, vd, put_F, put_sF, pP_57 hL, pK_57 hL, pN_57 hL, pA_57, pS_57, pP_59 hL, pK_59 hL, pN_59 hL, pA_59, pS_59]; rfl) (by simp only [ar, va_rf, vd, put_F, put_sF, pP_57 hL, pK_57 hL, pN_57 hL, pA_57, pS_57, pP_59 hL, pK_59 hL, pN_59 hL, pA_59, pS_59]; rfl) (by simpa only [ar, va_rf, vd, put_F, put_sF, pP_57 hL, pK_57 hL, pN_57 hL, pA_57, pS_57, pP_59 hL, pK_59 hL, pN_59 hL, pA_59, pS_59] using g0) (by simp only [ar, va_rf, vd, put_F, put_sF, pP_57 hL, pK_57 hL, pN_57 hL, pA_57, pS_57, pP_59 hL, pK_59 hL, pN_59 hL, pA_59, pS_59]; rfl) (by simp only [ar, va_rf, vd, put_F, put_sF, pP_57 hL, pK_57 hL, pN_57 hL, pA_57, pS_57, pP_59 hL, pK_59 hL, pN_59 hL, pA_59, pS_59]; rfl) (by simpa only [ar, va_rf, vd, put_F, put_sF, pP_57 hL, pK_57 hL, pN_57 hL, pA_57, pS_57, pP_59 hL, pK_59 hL, pN_59 hL, pA_59, pS_59] using g1)
  simpa only [ar, va_rf, vd, put_F, put_sF, pP_57 hL, pK_57 hL, pN_57 hL, pA_57, pS_57, pP_59 hL, pK_59 hL, pN_59 hL, pA_59, pS_59] using e
theorem q_M_isExcess_18 (d : Nat) (a : Nat) (x1 : Int32) (σ : Mm) (μ : Ms) (hL : LM σ a)  : run d 178 18 [.ref a, .int (x1)] [] (put σ a μ) = run d 178 23 [.ref a, .int (x1)] [.int (1)] (put σ a μ) := by
  have e := e_M_isExcess_18 d a x1 (put σ a μ) 
  simpa only [ar, va_rf, vd, put_F, put_sF] using e
theorem q_M_isExcess_22 (d : Nat) (a : Nat) (x1 : Int32) (σ : Mm) (μ : Ms) (hL : LM σ a)  : run d 178 22 [.ref a, .int (x1)] [] (put σ a μ) = run d 178 23 [.ref a, .int (x1)] [.int (0)] (put σ a μ) := by
  have e := e_M_isExcess_22 d a x1 (put σ a μ) 
  simpa only [ar, va_rf, vd, put_F, put_sF] using e
theorem q_M_isExcess_23 (d : Nat) (a : Nat) (x1 : Int32) (y0 : Int32) (σ : Mm) (μ : Ms) (hL : LM σ a) (g0 : y0 = 0 ∨ y0 = 1) : run d 178 23 [.ref a, .int (x1)] [.int (y0)] (put σ a μ) = some (some (.int (y0)), (put σ a μ)) := by
  have e := e_M_isExcess_23 d a x1 y0 (put σ a μ) (by simpa only [ar, va_rf, vd, put_F, put_sF] using g0)
  simpa only [ar, va_rf, vd, put_F, put_sF] using e
theorem q_M_run_0 (d : Nat) (a : Nat) (x1 : Int32) (x2 : Int32) (σ : Mm) (μ : Ms) (hL : LM σ a)  : run d 179 0 [.ref a, .int (x1), .int (x2)] [] (put σ a μ) = run d 179 5 [.ref a, .int (x1), .int (x2)] [] (put σ a (fF μ 0 0)) := by
  have e := e_M_run_0 d a x1 x2 (put σ a μ) (hL.K μ)
  simpa only [ar, va_rf, vd, put_F, put_sF] using e
theorem q_M_run_5 (d : Nat) (a : Nat) (x1 : Int32) (x2 : Int32) (σ : Mm) (μ : Ms) (hL : LM σ a)  : run d 179 5 [.ref a, .int (x1), .int (x2)] [] (put σ a μ) = if x1 < 0 then run d 179 28 [.ref a, .int (x1), .int (x2)] [] (put σ a μ) else run d 179 9 [.ref a, .int (x1), .int (x2)] [] (put σ a μ) := by
  have e := e_M_run_5 d a x1 x2 (put σ a μ) 
  simpa only [ar, va_rf, vd, put_F, put_sF] using e
theorem q_M_run_9 (d : Nat) (a : Nat) (x1 : Int32) (x2 : Int32) (σ : Mm) (μ : Ms) (hL : LM σ a)  : run d 179 9 [.ref a, .int (x1), .int (x2)] [] (put σ a μ) = if (μ.1 56) ≤ x1 then run d 179 28 [.ref a, .int (x1), .int (x2)] [] (put σ a μ) else run d 179 17 [.ref a, .int (x1), .int (x2)] [] (put σ a μ) := by
  have e := e_M_run_9 d a x1 x2 (put σ a μ) (hL.K μ)
  simpa only [ar, va_rf, vd, put_F, put_sF] using e
theorem q_M_run_17 (d : Nat) (a : Nat) (x1 : Int32) (x2 : Int32) (σ : Mm) (μ : Ms) (hL : LM σ a)  : run (d + 1) 179 17 [.ref a, .int (x1), .int (x2)] [] (put σ a μ) = (runc d 115 [.int (x2), .int (0), .int (200000)] (put σ a μ)).bind (fun q => run (d + 1) 179 25 [.ref a, .int (x1), .int (x2)] (psh q.1 []) q.2) := by
  have e := e_M_run_17 d a x1 x2 (put σ a μ) 
  simpa only [ar, va_rf, vd, put_F, put_sF] using e
theorem q_M_run_25 (d : Nat) (a : Nat) (x1 : Int32) (x2 : Int32) (y0 : Int32) (σ : Mm) (μ : Ms) (hL : LM σ a)  : run d 179 25 [.ref a, .int (x1), .int (x2)] [.int (y0)] (put σ a μ) = if ¬ y0 = 0 then run d 179 30 [.ref a, .int (x1), .int (x2)] [] (put σ a μ) else run d 179 28 [.ref a, .int (x1), .int (x2)] [] (put σ a μ) := by
  have e := e_M_run_25 d a x1 x2 y0 (put σ a μ) 
  simpa only [ar, va_rf, vd, put_F, put_sF] using e
theorem q_M_run_28 (d : Nat) (a : Nat) (x1 : Int32) (x2 : Int32) (σ : Mm) (μ : Ms) (hL : LM σ a)  : run d 179 28 [.ref a, .int (x1), .int (x2)] [] (put σ a μ) = some (some (.int (0)), (put σ a μ)) := by
  have e := e_M_run_28 d a x1 x2 (put σ a μ) 
  simpa only [ar, va_rf, vd, put_F, put_sF] using e
theorem q_M_run_30 (d : Nat) (a : Nat) (x1 : Int32) (x2 : Int32) (σ : Mm) (μ : Ms) (hL : LM σ a) (g0 : ix x1 200 = true) : run d 179 30 [.ref a, .int (x1), .int (x2)] [] (put σ a μ) = run d 179 37 [.ref a, .int (x1), .int (x2)] [] (put σ a (fA μ 59 ((x1 : Int32).toNatClampNeg) x2)) := by
  have e := e_M_run_30 d a x1 x2 (put σ a μ) (hL.K μ) (by simp only [ar, va_rf, vd, put_F, put_sF, pP_59 hL, pK_59 hL, pN_59 hL, pA_59, pS_59]; rfl) (by simp only [ar, va_rf, vd, put_F, put_sF, pP_59 hL, pK_59 hL, pN_59 hL, pA_59, pS_59]; rfl) (by simpa only [ar, va_rf, vd, put_F, put_sF, pP_59 hL, pK_59 hL, pN_59 hL, pA_59, pS_59] using g0)
  simpa only [ar, va_rf, vd, put_F, put_sF, pP_59 hL, pK_59 hL, pN_59 hL, pA_59, pS_59] using e
theorem q_M_run_37 (d : Nat) (a : Nat) (x1 : Int32) (x2 : Int32) (σ : Mm) (μ : Ms) (hL : LM σ a)  : run (d + 1) 179 37 [.ref a, .int (x1), .int (x2)] [] (put σ a μ) = (runc d 178 [.ref a, .int (x1)] (put σ a μ)).bind (fun q => run (d + 1) 179 42 [.ref a, .int (x1), .int (x2)] (psh q.1 []) q.2) := by
  have e := e_M_run_37 d a x1 x2 (put σ a μ) (hL.K μ)
  simpa only [ar, va_rf, vd, put_F, put_sF] using e
theorem q_M_run_42 (d : Nat) (a : Nat) (x1 : Int32) (x2 : Int32) (y0 : Int32) (σ : Mm) (μ : Ms) (hL : LM σ a) (g0 : y0 = 0 ∨ y0 = 1) : run d 179 42 [.ref a, .int (x1), .int (x2)] [.int (y0)] (put σ a μ) = some (some (.int (y0)), (put σ a μ)) := by
  have e := e_M_run_42 d a x1 x2 y0 (put σ a μ) (by simpa only [ar, va_rf, vd, put_F, put_sF] using g0)
  simpa only [ar, va_rf, vd, put_F, put_sF] using e
theorem q_M_suspects_0 (d : Nat) (a : Nat) (u1 : Value) (u2 : Value) (u3 : Value) (σ : Mm) (μ : Ms) (hL : LM σ a)  : run d 180 0 [.ref a, u1, u2, u3] [] (put σ a μ) = run d 180 5 [.ref a, u1, u2, u3] [] (put σ a (fF μ 0 0)) := by
  have e := e_M_suspects_0 d a u1 u2 u3 (put σ a μ) (hL.K μ)
  simpa only [ar, va_rf, vd, put_F, put_sF] using e
theorem q_M_suspects_5 (d : Nat) (a : Nat) (u1 : Value) (u2 : Value) (u3 : Value) (σ : Mm) (μ : Ms) (hL : LM σ a)  : run d 180 5 [.ref a, u1, u2, u3] [] (put σ a μ) = run d 180 11 [.ref a, .int ((-1)), .int (0), .int (0)] [] (put σ a μ) := by
  have e := e_M_suspects_5 d a u1 u2 u3 (put σ a μ) 
  simpa only [ar, va_rf, vd, put_F, put_sF] using e
theorem q_M_suspects_11 (d : Nat) (a : Nat) (x1 : Int32) (x2 : Int32) (x3 : Int32) (σ : Mm) (μ : Ms) (hL : LM σ a)  : run d 180 11 [.ref a, .int (x1), .int (x2), .int (x3)] [] (put σ a μ) = if (μ.1 56) ≤ x3 then run d 180 81 [.ref a, .int (x1), .int (x2), .int (x3)] [] (put σ a μ) else run d 180 19 [.ref a, .int (x1), .int (x2), .int (x3)] [] (put σ a μ) := by
  have e := e_M_suspects_11 d a x1 x2 x3 (put σ a μ) (hL.K μ)
  simpa only [ar, va_rf, vd, put_F, put_sF] using e
theorem q_M_suspects_19 (d : Nat) (a : Nat) (x1 : Int32) (x2 : Int32) (x3 : Int32) (σ : Mm) (μ : Ms) (hL : LM σ a) (g0 : ix x3 200 = true) : run d 180 19 [.ref a, .int (x1), .int (x2), .int (x3)] [] (put σ a μ) = if ¬ (μ.2 59 (x3 : Int32).toNatClampNeg) = ((-1)) then run d 180 32 [.ref a, .int (x1), .int (x2), .int (x3)] [] (put σ a μ) else run d 180 29 [.ref a, .int (x1), .int (x2), .int (x3)] [] (put σ a μ) := by
  have e := e_M_suspects_19 d a x1 x2 x3 (put σ a μ) (hL.K μ) (by simp only [ar, va_rf, vd, put_F, put_sF, pP_59 hL, pK_59 hL, pN_59 hL, pA_59, pS_59]; rfl) (by simp only [ar, va_rf, vd, put_F, put_sF, pP_59 hL, pK_59 hL, pN_59 hL, pA_59, pS_59]; rfl) (by simpa only [ar, va_rf, vd, put_F, put_sF, pP_59 hL, pK_59 hL, pN_59 hL, pA_59, pS_59] using g0)
  simpa only [ar, va_rf, vd, put_F, put_sF, pP_59 hL, pK_59 hL, pN_59 hL, pA_59, pS_59] using e
theorem q_M_suspects_29 (d : Nat) (a : Nat) (x1 : Int32) (x2 : Int32) (x3 : Int32) (σ : Mm) (μ : Ms) (hL : LM σ a)  : run d 180 29 [.ref a, .int (x1), .int (x2), .int (x3)] [] (put σ a μ) = run d 180 75 [.ref a, .int (x1), .int (x2), .int (x3)] [] (put σ a μ) := by
  have e := e_M_suspects_29 d a x1 x2 x3 (put σ a μ) 
  simpa only [ar, va_rf, vd, put_F, put_sF] using e
theorem q_M_suspects_32 (d : Nat) (a : Nat) (x1 : Int32) (x2 : Int32) (x3 : Int32) (σ : Mm) (μ : Ms) (hL : LM σ a)  : run (d + 1) 180 32 [.ref a, .int (x1), .int (x2), .int (x3)] [] (put σ a μ) = (runc d 178 [.ref a, .int (x3)] (put σ a μ)).bind (fun q => run (d + 1) 180 37 [.ref a, .int (x1), .int (x2), .int (x3)] (psh q.1 []) q.2) := by
  have e := e_M_suspects_32 d a x1 x2 x3 (put σ a μ) (hL.K μ)
  simpa only [ar, va_rf, vd, put_F, put_sF] using e
theorem q_M_suspects_37 (d : Nat) (a : Nat) (x1 : Int32) (x2 : Int32) (x3 : Int32) (y0 : Int32) (σ : Mm) (μ : Ms) (hL : LM σ a)  : run d 180 37 [.ref a, .int (x1), .int (x2), .int (x3)] [.int (y0)] (put σ a μ) = if y0 = 0 then run d 180 66 [.ref a, .int (x1), .int (x2), .int (x3)] [] (put σ a μ) else run d 180 40 [.ref a, .int (x1), .int (x2), .int (x3)] [] (put σ a μ) := by
  have e := e_M_suspects_37 d a x1 x2 x3 y0 (put σ a μ) 
  simpa only [ar, va_rf, vd, put_F, put_sF] using e
theorem q_M_suspects_40 (d : Nat) (a : Nat) (x1 : Int32) (x2 : Int32) (x3 : Int32) (σ : Mm) (μ : Ms) (hL : LM σ a)  : run d 180 40 [.ref a, .int (x1), .int (x2), .int (x3)] [] (put σ a μ) = if ¬ x1 = ((-1)) then run d 180 54 [.ref a, .int (x1), .int (x2), .int (x3)] [] (put σ a μ) else run d 180 45 [.ref a, .int (x1), .int (x2), .int (x3)] [] (put σ a μ) := by
  have e := e_M_suspects_40 d a x1 x2 x3 (put σ a μ) 
  simpa only [ar, va_rf, vd, put_F, put_sF] using e
theorem q_M_suspects_45 (d : Nat) (a : Nat) (x1 : Int32) (x2 : Int32) (x3 : Int32) (σ : Mm) (μ : Ms) (hL : LM σ a) (g0 : ix x3 200 = true) : run d 180 45 [.ref a, .int (x1), .int (x2), .int (x3)] [] (put σ a μ) = run d 180 62 [.ref a, .int (x1), .int (x2), .int (x3)] [.int (μ.2 58 (x3 : Int32).toNatClampNeg)] (put σ a μ) := by
  have e := e_M_suspects_45 d a x1 x2 x3 (put σ a μ) (hL.K μ) (by simp only [ar, va_rf, vd, put_F, put_sF, pP_58 hL, pK_58 hL, pN_58 hL, pA_58, pS_58]; rfl) (by simp only [ar, va_rf, vd, put_F, put_sF, pP_58 hL, pK_58 hL, pN_58 hL, pA_58, pS_58]; rfl) (by simpa only [ar, va_rf, vd, put_F, put_sF, pP_58 hL, pK_58 hL, pN_58 hL, pA_58, pS_58] using g0)
  simpa only [ar, va_rf, vd, put_F, put_sF, pP_58 hL, pK_58 hL, pN_58 hL, pA_58, pS_58] using e
theorem q_M_suspects_54 (d : Nat) (a : Nat) (x1 : Int32) (x2 : Int32) (x3 : Int32) (σ : Mm) (μ : Ms) (hL : LM σ a) (g0 : ix x3 200 = true) : run d 180 54 [.ref a, .int (x1), .int (x2), .int (x3)] [] (put σ a μ) = run d 180 62 [.ref a, .int (x1), .int (x2), .int (x3)] [.int (x1 &&& (μ.2 58 (x3 : Int32).toNatClampNeg))] (put σ a μ) := by
  have e := e_M_suspects_54 d a x1 x2 x3 (put σ a μ) (hL.K μ) (by simp only [ar, va_rf, vd, put_F, put_sF, pP_58 hL, pK_58 hL, pN_58 hL, pA_58, pS_58]; rfl) (by simp only [ar, va_rf, vd, put_F, put_sF, pP_58 hL, pK_58 hL, pN_58 hL, pA_58, pS_58]; rfl) (by simpa only [ar, va_rf, vd, put_F, put_sF, pP_58 hL, pK_58 hL, pN_58 hL, pA_58, pS_58] using g0)
  simpa only [ar, va_rf, vd, put_F, put_sF, pP_58 hL, pK_58 hL, pN_58 hL, pA_58, pS_58] using e
theorem q_M_suspects_62 (d : Nat) (a : Nat) (x1 : Int32) (x2 : Int32) (x3 : Int32) (y0 : Int32) (σ : Mm) (μ : Ms) (hL : LM σ a)  : run d 180 62 [.ref a, .int (x1), .int (x2), .int (x3)] [.int (y0)] (put σ a μ) = run d 180 75 [.ref a, .int (y0), .int (x2), .int (x3)] [] (put σ a μ) := by
  have e := e_M_suspects_62 d a x1 x2 x3 y0 (put σ a μ) 
  simpa only [ar, va_rf, vd, put_F, put_sF] using e
theorem q_M_suspects_66 (d : Nat) (a : Nat) (x1 : Int32) (x2 : Int32) (x3 : Int32) (σ : Mm) (μ : Ms) (hL : LM σ a) (g0 : ix x3 200 = true) : run d 180 66 [.ref a, .int (x1), .int (x2), .int (x3)] [] (put σ a μ) = run d 180 75 [.ref a, .int (x1), .int (x2 ||| (μ.2 58 (x3 : Int32).toNatClampNeg)), .int (x3)] [] (put σ a μ) := by
  have e := e_M_suspects_66 d a x1 x2 x3 (put σ a μ) (hL.K μ) (by simp only [ar, va_rf, vd, put_F, put_sF, pP_58 hL, pK_58 hL, pN_58 hL, pA_58, pS_58]; rfl) (by simp only [ar, va_rf, vd, put_F, put_sF, pP_58 hL, pK_58 hL, pN_58 hL, pA_58, pS_58]; rfl) (by simpa only [ar, va_rf, vd, put_F, put_sF, pP_58 hL, pK_58 hL, pN_58 hL, pA_58, pS_58] using g0)
  simpa only [ar, va_rf, vd, put_F, put_sF, pP_58 hL, pK_58 hL, pN_58 hL, pA_58, pS_58] using e
theorem q_M_suspects_75 (d : Nat) (a : Nat) (x1 : Int32) (x2 : Int32) (x3 : Int32) (σ : Mm) (μ : Ms) (hL : LM σ a)  : run d 180 75 [.ref a, .int (x1), .int (x2), .int (x3)] [] (put σ a μ) = run d 180 11 [.ref a, .int (x1), .int (x2), .int (x3 + 1)] [] (put σ a μ) := by
  have e := e_M_suspects_75 d a x1 x2 x3 (put σ a μ) 
  simpa only [ar, va_rf, vd, put_F, put_sF] using e
theorem q_M_suspects_81 (d : Nat) (a : Nat) (x1 : Int32) (x2 : Int32) (x3 : Int32) (σ : Mm) (μ : Ms) (hL : LM σ a)  : run d 180 81 [.ref a, .int (x1), .int (x2), .int (x3)] [] (put σ a μ) = if ¬ x1 = ((-1)) then run d 180 90 [.ref a, .int (x1), .int (x2), .int (x3)] [] (put σ a μ) else run d 180 86 [.ref a, .int (x1), .int (x2), .int (x3)] [] (put σ a μ) := by
  have e := e_M_suspects_81 d a x1 x2 x3 (put σ a μ) 
  simpa only [ar, va_rf, vd, put_F, put_sF] using e
theorem q_M_suspects_86 (d : Nat) (a : Nat) (x1 : Int32) (x2 : Int32) (x3 : Int32) (σ : Mm) (μ : Ms) (hL : LM σ a)  : run d 180 86 [.ref a, .int (x1), .int (x2), .int (x3)] [] (put σ a μ) = run d 180 95 [.ref a, .int (x1), .int (x2), .int (x3)] [.int (0)] (put σ a μ) := by
  have e := e_M_suspects_86 d a x1 x2 x3 (put σ a μ) 
  simpa only [ar, va_rf, vd, put_F, put_sF] using e
theorem q_M_suspects_90 (d : Nat) (a : Nat) (x1 : Int32) (x2 : Int32) (x3 : Int32) (σ : Mm) (μ : Ms) (hL : LM σ a)  : run d 180 90 [.ref a, .int (x1), .int (x2), .int (x3)] [] (put σ a μ) = run d 180 95 [.ref a, .int (x1), .int (x2), .int (x3)] [.int (x1 &&& (x2 ^^^ ((-1))))] (put σ a μ) := by
  have e := e_M_suspects_90 d a x1 x2 x3 (put σ a μ) 
  simpa only [ar, va_rf, vd, put_F, put_sF] using e
theorem q_M_suspects_95 (d : Nat) (a : Nat) (x1 : Int32) (x2 : Int32) (x3 : Int32) (y0 : Int32) (σ : Mm) (μ : Ms) (hL : LM σ a)  : run d 180 95 [.ref a, .int (x1), .int (x2), .int (x3)] [.int (y0)] (put σ a μ) = some (some (.int (y0)), (put σ a μ)) := by
  have e := e_M_suspects_95 d a x1 x2 x3 y0 (put σ a μ) 
  simpa only [ar, va_rf, vd, put_F, put_sF] using e
theorem q_M_leaves_0 (d : Nat) (a : Nat) (x1 : Int32) (x2 : Int32) (x3 : Int32) (u4 : Value) (u5 : Value) (u6 : Value) (σ : Mm) (μ : Ms) (hL : LM σ a) (g0 : ix x1 30 = true) : run d 181 0 [.ref a, .int (x1), .int (x2), .int (x3), u4, u5, u6] [] (put σ a μ) = if ¬ (μ.2 8 (x1 : Int32).toNatClampNeg) = x2 then run d 181 19 [.ref a, .int (x1), .int (x2), .int (x3), u4, u5, u6] [] (put σ a μ) else run d 181 10 [.ref a, .int (x1), .int (x2), .int (x3), u4, u5, u6] [] (put σ a μ) := by
  have e := e_M_leaves_0 d a x1 x2 x3 u4 u5 u6 (put σ a μ) (hL.K μ) (by simp only [ar, va_rf, vd, put_F, put_sF, pP_8 hL, pK_8 hL, pN_8 hL, pA_8, pS_8]; rfl) (by simp only [ar, va_rf, vd, put_F, put_sF, pP_8 hL, pK_8 hL, pN_8 hL, pA_8, pS_8]; rfl) (by simpa only [ar, va_rf, vd, put_F, put_sF, pP_8 hL, pK_8 hL, pN_8 hL, pA_8, pS_8] using g0)
  simpa only [ar, va_rf, vd, put_F, put_sF, pP_8 hL, pK_8 hL, pN_8 hL, pA_8, pS_8] using e
theorem q_M_leaves_10 (d : Nat) (a : Nat) (x1 : Int32) (x2 : Int32) (x3 : Int32) (u4 : Value) (u5 : Value) (u6 : Value) (σ : Mm) (μ : Ms) (hL : LM σ a) (g0 : ix x1 30 = true) : run d 181 10 [.ref a, .int (x1), .int (x2), .int (x3), u4, u5, u6] [] (put σ a μ) = run d 181 25 [.ref a, .int (x1), .int (x2), .int (x3), u4, u5, u6] [.int (μ.2 9 (x1 : Int32).toNatClampNeg)] (put σ a μ) := by
  have e := e_M_leaves_10 d a x1 x2 x3 u4 u5 u6 (put σ a μ) (hL.K μ) (by simp only [ar, va_rf, vd, put_F, put_sF, pP_9 hL, pK_9 hL, pN_9 hL, pA_9, pS_9]; rfl) (by simp only [ar, va_rf, vd, put_F, put_sF, pP_9 hL, pK_9 hL, pN_9 hL, pA_9, pS_9]; rfl) (by simpa only [ar, va_rf, vd, put_F, put_sF, pP_9 hL, pK_9 hL, pN_9 hL, pA_9, pS_9] using g0)
  simpa only [ar, va_rf, vd, put_F, put_sF, pP_9 hL, pK_9 hL, pN_9 hL, pA_9, pS_9] using e
theorem q_M_leaves_19 (d : Nat) (a : Nat) (x1 : Int32) (x2 : Int32) (x3 : Int32) (u4 : Value) (u5 : Value) (u6 : Value) (σ : Mm) (μ : Ms) (hL : LM σ a) (g0 : ix x1 30 = true) : run d 181 19 [.ref a, .int (x1), .int (x2), .int (x3), u4, u5, u6] [] (put σ a μ) = run d 181 25 [.ref a, .int (x1), .int (x2), .int (x3), u4, u5, u6] [.int (μ.2 8 (x1 : Int32).toNatClampNeg)] (put σ a μ) := by
  have e := e_M_leaves_19 d a x1 x2 x3 u4 u5 u6 (put σ a μ) (hL.K μ) (by simp only [ar, va_rf, vd, put_F, put_sF, pP_8 hL, pK_8 hL, pN_8 hL, pA_8, pS_8]; rfl) (by simp only [ar, va_rf, vd, put_F, put_sF, pP_8 hL, pK_8 hL, pN_8 hL, pA_8, pS_8]; rfl) (by simpa only [ar, va_rf, vd, put_F, put_sF, pP_8 hL, pK_8 hL, pN_8 hL, pA_8, pS_8] using g0)
  simpa only [ar, va_rf, vd, put_F, put_sF, pP_8 hL, pK_8 hL, pN_8 hL, pA_8, pS_8] using e
theorem q_M_leaves_25 (d : Nat) (a : Nat) (x1 : Int32) (x2 : Int32) (x3 : Int32) (u4 : Value) (u5 : Value) (u6 : Value) (y0 : Int32) (σ : Mm) (μ : Ms) (hL : LM σ a)  : run d 181 25 [.ref a, .int (x1), .int (x2), .int (x3), u4, u5, u6] [.int (y0)] (put σ a μ) = run d 181 30 [.ref a, .int (x1), .int (x2), .int (x3), .int (y0), .int (0), u6] [] (put σ a μ) := by
  have e := e_M_leaves_25 d a x1 x2 x3 u4 u5 u6 y0 (put σ a μ) 
  simpa only [ar, va_rf, vd, put_F, put_sF] using e
theorem q_M_leaves_30 (d : Nat) (a : Nat) (x1 : Int32) (x2 : Int32) (x3 : Int32) (x4 : Int32) (x5 : Int32) (u6 : Value) (σ : Mm) (μ : Ms) (hL : LM σ a)  : run d 181 30 [.ref a, .int (x1), .int (x2), .int (x3), .int (x4), .int (x5), u6] [] (put σ a μ) = if 25 ≤ x5 then run d 181 177 [.ref a, .int (x1), .int (x2), .int (x3), .int (x4), .int (x5), u6] [] (put σ a μ) else run d 181 37 [.ref a, .int (x1), .int (x2), .int (x3), .int (x4), .int (x5), u6] [] (put σ a μ) := by
  have e := e_M_leaves_30 d a x1 x2 x3 x4 x5 u6 (put σ a μ) 
  simpa only [ar, va_rf, vd, put_F, put_sF] using e
theorem q_M_leaves_37 (d : Nat) (a : Nat) (x1 : Int32) (x2 : Int32) (x3 : Int32) (x4 : Int32) (x5 : Int32) (u6 : Value) (σ : Mm) (μ : Ms) (hL : LM σ a)  : run d 181 37 [.ref a, .int (x1), .int (x2), .int (x3), .int (x4), .int (x5), u6] [] (put σ a μ) = if ¬ x5 = 0 then run d 181 46 [.ref a, .int (x1), .int (x2), .int (x3), .int (x4), .int (x5), u6] [] (put σ a μ) else run d 181 42 [.ref a, .int (x1), .int (x2), .int (x3), .int (x4), .int (x5), u6] [] (put σ a μ) := by
  have e := e_M_leaves_37 d a x1 x2 x3 x4 x5 u6 (put σ a μ) 
  simpa only [ar, va_rf, vd, put_F, put_sF] using e
theorem q_M_leaves_42 (d : Nat) (a : Nat) (x1 : Int32) (x2 : Int32) (x3 : Int32) (x4 : Int32) (x5 : Int32) (u6 : Value) (σ : Mm) (μ : Ms) (hL : LM σ a)  : run d 181 42 [.ref a, .int (x1), .int (x2), .int (x3), .int (x4), .int (x5), u6] [] (put σ a μ) = run d 181 56 [.ref a, .int (x1), .int (x2), .int (x3), .int (x4), .int (x5), u6] [.int (x3)] (put σ a μ) := by
  have e := e_M_leaves_42 d a x1 x2 x3 x4 x5 u6 (put σ a μ) 
  simpa only [ar, va_rf, vd, put_F, put_sF] using e
theorem q_M_leaves_46 (d : Nat) (a : Nat) (x1 : Int32) (x2 : Int32) (x3 : Int32) (x4 : Int32) (x5 : Int32) (u6 : Value) (σ : Mm) (μ : Ms) (hL : LM σ a)  : run d 181 46 [.ref a, .int (x1), .int (x2), .int (x3), .int (x4), .int (x5), u6] [] (put σ a μ) = run d 181 56 [.ref a, .int (x1), .int (x2), .int (x3), .int (x4), .int (x5), u6] [.int (((x3 / 60) + x5) * 60)] (put σ a μ) := by
  have e := e_M_leaves_46 d a x1 x2 x3 x4 x5 u6 (put σ a μ) 
  simpa only [ar, va_rf, vd, put_F, put_sF] using e
theorem q_M_leaves_56 (d : Nat) (a : Nat) (x1 : Int32) (x2 : Int32) (x3 : Int32) (x4 : Int32) (x5 : Int32) (u6 : Value) (y0 : Int32) (σ : Mm) (μ : Ms) (hL : LM σ a)  : run d 181 56 [.ref a, .int (x1), .int (x2), .int (x3), .int (x4), .int (x5), u6] [.int (y0)] (put σ a μ) = if y0 ≤ 143999 then run d 181 68 [.ref a, .int (x1), .int (x2), .int (x3), .int (x4), .int (x5), .int (y0)] [] (put σ a μ) else run d 181 66 [.ref a, .int (x1), .int (x2), .int (x3), .int (x4), .int (x5), .int (y0)] [] (put σ a μ) := by
  have e := e_M_leaves_56 d a x1 x2 x3 x4 x5 u6 y0 (put σ a μ) 
  simpa only [ar, va_rf, vd, put_F, put_sF] using e
theorem q_M_leaves_66 (d : Nat) (a : Nat) (x1 : Int32) (x2 : Int32) (x3 : Int32) (x4 : Int32) (x5 : Int32) (x6 : Int32) (σ : Mm) (μ : Ms) (hL : LM σ a)  : run d 181 66 [.ref a, .int (x1), .int (x2), .int (x3), .int (x4), .int (x5), .int (x6)] [] (put σ a μ) = some (some (.int ((-1))), (put σ a μ)) := by
  have e := e_M_leaves_66 d a x1 x2 x3 x4 x5 x6 (put σ a μ) 
  simpa only [ar, va_rf, vd, put_F, put_sF] using e
theorem q_M_leaves_68 (d : Nat) (a : Nat) (x1 : Int32) (x2 : Int32) (x3 : Int32) (x4 : Int32) (x5 : Int32) (x6 : Int32) (σ : Mm) (μ : Ms) (hL : LM σ a)  : run (d + 1) 181 68 [.ref a, .int (x1), .int (x2), .int (x3), .int (x4), .int (x5), .int (x6)] [] (put σ a μ) = (runc d 127 [.ref a, .int (x2), .int (x6 / 60), .int (μ.1 71)] (put σ a μ)).bind (fun q => run (d + 1) 181 82 [.ref a, .int (x1), .int (x2), .int (x3), .int (x4), .int (x5), .int (x6)] (psh q.1 []) q.2) := by
  have e := e_M_leaves_68 d a x1 x2 x3 x4 x5 x6 (put σ a μ) (hL.K μ)
  simpa only [ar, va_rf, vd, put_F, put_sF] using e
theorem q_M_leaves_82 (d : Nat) (a : Nat) (x1 : Int32) (x2 : Int32) (x3 : Int32) (x4 : Int32) (x5 : Int32) (x6 : Int32) (y0 : Int32) (σ : Mm) (μ : Ms) (hL : LM σ a)  : run d 181 82 [.ref a, .int (x1), .int (x2), .int (x3), .int (x4), .int (x5), .int (x6)] [.int (y0)] (put σ a μ) = if y0 ≤ 6 then run d 181 90 [.ref a, .int (x1), .int (x2), .int (x3), .int (x4), .int (x5), .int (x6)] [] (put σ a μ) else run d 181 87 [.ref a, .int (x1), .int (x2), .int (x3), .int (x4), .int (x5), .int (x6)] [] (put σ a μ) := by
  have e := e_M_leaves_82 d a x1 x2 x3 x4 x5 x6 y0 (put σ a μ) 
  simpa only [ar, va_rf, vd, put_F, put_sF] using e
theorem q_M_leaves_87 (d : Nat) (a : Nat) (x1 : Int32) (x2 : Int32) (x3 : Int32) (x4 : Int32) (x5 : Int32) (x6 : Int32) (σ : Mm) (μ : Ms) (hL : LM σ a)  : run d 181 87 [.ref a, .int (x1), .int (x2), .int (x3), .int (x4), .int (x5), .int (x6)] [] (put σ a μ) = run d 181 171 [.ref a, .int (x1), .int (x2), .int (x3), .int (x4), .int (x5), .int (x6)] [] (put σ a μ) := by
  have e := e_M_leaves_87 d a x1 x2 x3 x4 x5 x6 (put σ a μ) 
  simpa only [ar, va_rf, vd, put_F, put_sF] using e
theorem q_M_leaves_90 (d : Nat) (a : Nat) (x1 : Int32) (x2 : Int32) (x3 : Int32) (x4 : Int32) (x5 : Int32) (x6 : Int32) (σ : Mm) (μ : Ms) (hL : LM σ a) (g0 : ix x1 30 = true) : run (d + 1) 181 90 [.ref a, .int (x1), .int (x2), .int (x3), .int (x4), .int (x5), .int (x6)] [] (put σ a μ) = (runc d 128 [.ref a, .int (x1), .int (x6 / 1440), .int (μ.1 71)] (put σ a μ)).bind (fun q => run (d + 1) 181 122 [.ref a, .int (x1), .int (x2), .int (x3), .int (x4), .int (x5), .int (x6)] (psh q.1 [.int (x2), .int (x1), .int (μ.1 69), .ref a, .int (60 * (μ.2 10 (x1 : Int32).toNatClampNeg)), .ref a]) q.2) := by
  have e := e_M_leaves_90 d a x1 x2 x3 x4 x5 x6 (put σ a μ) (hL.K μ) (by simp only [ar, va_rf, vd, put_F, put_sF, pP_10 hL, pK_10 hL, pN_10 hL, pA_10, pS_10]; rfl) (by simp only [ar, va_rf, vd, put_F, put_sF, pP_10 hL, pK_10 hL, pN_10 hL, pA_10, pS_10]; rfl) (by simpa only [ar, va_rf, vd, put_F, put_sF, pP_10 hL, pK_10 hL, pN_10 hL, pA_10, pS_10] using g0)
  simpa only [ar, va_rf, vd, put_F, put_sF, pP_10 hL, pK_10 hL, pN_10 hL, pA_10, pS_10] using e
theorem q_M_leaves_122 (d : Nat) (a : Nat) (x1 : Int32) (x2 : Int32) (x3 : Int32) (x4 : Int32) (x5 : Int32) (x6 : Int32) (y0 : Int32) (y1 : Int32) (y2 : Int32) (y3 : Int32) (y5 : Int32) (σ : Mm) (μ : Ms) (hL : LM σ a)  : run (d + 1) 181 122 [.ref a, .int (x1), .int (x2), .int (x3), .int (x4), .int (x5), .int (x6)] [.int (y0), .int (y1), .int (y2), .int (y3), (.ref a), .int (y5), (.ref a)] (put σ a μ) = (runc d 139 [(.ref a), .int (y3), .int (y2), .int (y1), .int (y0)] (put σ a μ)).bind (fun q => run (d + 1) 181 125 [.ref a, .int (x1), .int (x2), .int (x3), .int (x4), .int (x5), .int (x6)] (psh q.1 [.int (y5), (.ref a)]) q.2) := by
  have e := e_M_leaves_122 d a x1 x2 x3 x4 x5 x6 y0 y1 y2 y3 (.ref a) y5 (.ref a) (put σ a μ) rfl (hL.K μ)
  simpa only [ar, va_rf, vd, put_F, put_sF] using e
theorem q_M_leaves_125 (d : Nat) (a : Nat) (x1 : Int32) (x2 : Int32) (x3 : Int32) (x4 : Int32) (x5 : Int32) (x6 : Int32) (y0 : Int32) (y1 : Int32) (σ : Mm) (μ : Ms) (hL : LM σ a)  : run (d + 1) 181 125 [.ref a, .int (x1), .int (x2), .int (x3), .int (x4), .int (x5), .int (x6)] [.int (y0), .int (y1), (.ref a)] (put σ a μ) = (runc d 116 [.int (y1), .int (y0)] (put σ a μ)).bind (fun q => run (d + 1) 181 128 [.ref a, .int (x1), .int (x2), .int (x3), .int (x4), .int (x5), .int (x6)] (psh q.1 [(.ref a)]) q.2) := by
  have e := e_M_leaves_125 d a x1 x2 x3 x4 x5 x6 y0 y1 (.ref a) (put σ a μ) 
  simpa only [ar, va_rf, vd, put_F, put_sF] using e
theorem q_M_leaves_128 (d : Nat) (a : Nat) (x1 : Int32) (x2 : Int32) (x3 : Int32) (x4 : Int32) (x5 : Int32) (x6 : Int32) (y0 : Int32) (σ : Mm) (μ : Ms) (hL : LM σ a)  : run d 181 128 [.ref a, .int (x1), .int (x2), .int (x3), .int (x4), .int (x5), .int (x6)] [.int (y0), (.ref a)] (put σ a μ) = run d 181 131 [.ref a, .int (x1), .int (x2), .int (x3), .int (x4), .int (x5), .int (x6)] [] (put σ a (fF μ 76 y0)) := by
  have e := e_M_leaves_128 d a x1 x2 x3 x4 x5 x6 y0 (.ref a) (put σ a μ) rfl (hL.K μ)
  simpa only [ar, va_rf, vd, put_F, put_sF] using e
theorem q_M_leaves_131 (d : Nat) (a : Nat) (x1 : Int32) (x2 : Int32) (x3 : Int32) (x4 : Int32) (x5 : Int32) (x6 : Int32) (σ : Mm) (μ : Ms) (hL : LM σ a)  : run d 181 131 [.ref a, .int (x1), .int (x2), .int (x3), .int (x4), .int (x5), .int (x6)] [] (put σ a μ) = if 143999 < (x6 + (μ.1 76)) then run d 181 171 [.ref a, .int (x1), .int (x2), .int (x3), .int (x4), .int (x5), .int (x6)] [] (put σ a μ) else run d 181 144 [.ref a, .int (x1), .int (x2), .int (x3), .int (x4), .int (x5), .int (x6)] [] (put σ a μ) := by
  have e := e_M_leaves_131 d a x1 x2 x3 x4 x5 x6 (put σ a μ) (hL.K μ)
  simpa only [ar, va_rf, vd, put_F, put_sF] using e
theorem q_M_leaves_144 (d : Nat) (a : Nat) (x1 : Int32) (x2 : Int32) (x3 : Int32) (x4 : Int32) (x5 : Int32) (x6 : Int32) (σ : Mm) (μ : Ms) (hL : LM σ a)  : run (d + 1) 181 144 [.ref a, .int (x1), .int (x2), .int (x3), .int (x4), .int (x5), .int (x6)] [] (put σ a μ) = (runc d 117 [.ref a, .int (x6 + (μ.1 76))] (put σ a μ)).bind (fun q => run (d + 1) 181 155 [.ref a, .int (x1), .int (x2), .int (x3), .int (x4), .int (x5), .int (x6)] (psh q.1 []) q.2) := by
  have e := e_M_leaves_144 d a x1 x2 x3 x4 x5 x6 (put σ a μ) (hL.K μ)
  simpa only [ar, va_rf, vd, put_F, put_sF] using e
theorem q_M_leaves_155 (d : Nat) (a : Nat) (x1 : Int32) (x2 : Int32) (x3 : Int32) (x4 : Int32) (x5 : Int32) (x6 : Int32) (y0 : Int32) (σ : Mm) (μ : Ms) (hL : LM σ a)  : run d 181 155 [.ref a, .int (x1), .int (x2), .int (x3), .int (x4), .int (x5), .int (x6)] [.int (y0)] (put σ a μ) = if y0 = 0 then run d 181 168 [.ref a, .int (x1), .int (x2), .int (x3), .int (x4), .int (x5), .int (x6)] [] (put σ a μ) else run d 181 158 [.ref a, .int (x1), .int (x2), .int (x3), .int (x4), .int (x5), .int (x6)] [] (put σ a μ) := by
  have e := e_M_leaves_155 d a x1 x2 x3 x4 x5 x6 y0 (put σ a μ) 
  simpa only [ar, va_rf, vd, put_F, put_sF] using e
theorem q_M_leaves_158 (d : Nat) (a : Nat) (x1 : Int32) (x2 : Int32) (x3 : Int32) (x4 : Int32) (x5 : Int32) (x6 : Int32) (σ : Mm) (μ : Ms) (hL : LM σ a) (g0 : ix x4 12 = true) : run d 181 158 [.ref a, .int (x1), .int (x2), .int (x3), .int (x4), .int (x5), .int (x6)] [] (put σ a μ) = if (μ.2 5 (x4 : Int32).toNatClampNeg) = 0 then run d 181 171 [.ref a, .int (x1), .int (x2), .int (x3), .int (x4), .int (x5), .int (x6)] [] (put σ a μ) else run d 181 168 [.ref a, .int (x1), .int (x2), .int (x3), .int (x4), .int (x5), .int (x6)] [] (put σ a μ) := by
  have e := e_M_leaves_158 d a x1 x2 x3 x4 x5 x6 (put σ a μ) (hL.K μ) (by simp only [ar, va_rf, vd, put_F, put_sF, pP_5 hL, pK_5 hL, pN_5 hL, pA_5, pS_5]; rfl) (by simp only [ar, va_rf, vd, put_F, put_sF, pP_5 hL, pK_5 hL, pN_5 hL, pA_5, pS_5]; rfl) (by simpa only [ar, va_rf, vd, put_F, put_sF, pP_5 hL, pK_5 hL, pN_5 hL, pA_5, pS_5] using g0)
  simpa only [ar, va_rf, vd, put_F, put_sF, pP_5 hL, pK_5 hL, pN_5 hL, pA_5, pS_5] using e
theorem q_M_leaves_168 (d : Nat) (a : Nat) (x1 : Int32) (x2 : Int32) (x3 : Int32) (x4 : Int32) (x5 : Int32) (x6 : Int32) (σ : Mm) (μ : Ms) (hL : LM σ a)  : run d 181 168 [.ref a, .int (x1), .int (x2), .int (x3), .int (x4), .int (x5), .int (x6)] [] (put σ a μ) = some (some (.int (x6)), (put σ a μ)) := by
  have e := e_M_leaves_168 d a x1 x2 x3 x4 x5 x6 (put σ a μ) 
  simpa only [ar, va_rf, vd, put_F, put_sF] using e
theorem q_M_leaves_171 (d : Nat) (a : Nat) (x1 : Int32) (x2 : Int32) (x3 : Int32) (x4 : Int32) (x5 : Int32) (x6 : Int32) (σ : Mm) (μ : Ms) (hL : LM σ a)  : run d 181 171 [.ref a, .int (x1), .int (x2), .int (x3), .int (x4), .int (x5), .int (x6)] [] (put σ a μ) = run d 181 30 [.ref a, .int (x1), .int (x2), .int (x3), .int (x4), .int (x5 + 1), .int (x6)] [] (put σ a μ) := by
  have e := e_M_leaves_171 d a x1 x2 x3 x4 x5 x6 (put σ a μ) 
  simpa only [ar, va_rf, vd, put_F, put_sF] using e
theorem q_M_leaves_177 (d : Nat) (a : Nat) (x1 : Int32) (x2 : Int32) (x3 : Int32) (x4 : Int32) (x5 : Int32) (u6 : Value) (σ : Mm) (μ : Ms) (hL : LM σ a)  : run d 181 177 [.ref a, .int (x1), .int (x2), .int (x3), .int (x4), .int (x5), u6] [] (put σ a μ) = some (some (.int ((-1))), (put σ a μ)) := by
  have e := e_M_leaves_177 d a x1 x2 x3 x4 x5 u6 (put σ a μ) 
  simpa only [ar, va_rf, vd, put_F, put_sF] using e
