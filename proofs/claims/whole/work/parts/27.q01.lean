theorem q_M_end_0 (d : Nat) (a : Nat) (x1 : Int32) (σ : Mm) (μ : Ms) (hL : LM σ a)  : run d 143 0 [.ref a, .int (x1)] [] (put σ a μ) = run d 143 5 [.ref a, .int (x1)] [] (put σ a (fF μ 0 0)) := by
  have e := e_M_end_0 d a x1 (put σ a μ) (hL.K μ)
  simpa only [ar, va_rf, vd, put_F, put_sF] using e
theorem q_M_end_5 (d : Nat) (a : Nat) (x1 : Int32) (σ : Mm) (μ : Ms) (hL : LM σ a)  : run d 143 5 [.ref a, .int (x1)] [] (put σ a μ) = if x1 < 0 then run d 143 17 [.ref a, .int (x1)] [] (put σ a μ) else run d 143 9 [.ref a, .int (x1)] [] (put σ a μ) := by
  have e := e_M_end_5 d a x1 (put σ a μ) 
  simpa only [ar, va_rf, vd, put_F, put_sF] using e
theorem q_M_end_9 (d : Nat) (a : Nat) (x1 : Int32) (σ : Mm) (μ : Ms) (hL : LM σ a)  : run d 143 9 [.ref a, .int (x1)] [] (put σ a μ) = if x1 ≤ (μ.1 40) then run d 143 19 [.ref a, .int (x1)] [] (put σ a μ) else run d 143 17 [.ref a, .int (x1)] [] (put σ a μ) := by
  have e := e_M_end_9 d a x1 (put σ a μ) (hL.K μ)
  simpa only [ar, va_rf, vd, put_F, put_sF] using e
theorem q_M_end_17 (d : Nat) (a : Nat) (x1 : Int32) (σ : Mm) (μ : Ms) (hL : LM σ a)  : run d 143 17 [.ref a, .int (x1)] [] (put σ a μ) = some (some (.int ((-1))), (put σ a μ)) := by
  have e := e_M_end_17 d a x1 (put σ a μ) 
  simpa only [ar, va_rf, vd, put_F, put_sF] using e
theorem q_M_end_19 (d : Nat) (a : Nat) (x1 : Int32) (σ : Mm) (μ : Ms) (hL : LM σ a)  : run d 143 19 [.ref a, .int (x1)] [] (put σ a μ) = run d 143 24 [.ref a, .int (x1)] [] (put σ a (fF μ 40 x1)) := by
  have e := e_M_end_19 d a x1 (put σ a μ) (hL.K μ)
  simpa only [ar, va_rf, vd, put_F, put_sF] using e
theorem q_M_end_24 (d : Nat) (a : Nat) (x1 : Int32) (σ : Mm) (μ : Ms) (hL : LM σ a)  : run d 143 24 [.ref a, .int (x1)] [] (put σ a μ) = some (some (.int (x1)), (put σ a μ)) := by
  have e := e_M_end_24 d a x1 (put σ a μ) 
  simpa only [ar, va_rf, vd, put_F, put_sF] using e
theorem q_M_byteAt_0 (d : Nat) (a : Nat) (x1 : Int32) (σ : Mm) (μ : Ms) (hL : LM σ a)  : run d 144 0 [.ref a, .int (x1)] [] (put σ a μ) = if (μ.1 40) ≤ x1 then run d 144 17 [.ref a, .int (x1)] [] (put σ a μ) else run d 144 8 [.ref a, .int (x1)] [] (put σ a μ) := by
  have e := e_M_byteAt_0 d a x1 (put σ a μ) (hL.K μ)
  simpa only [ar, va_rf, vd, put_F, put_sF] using e
theorem q_M_byteAt_8 (d : Nat) (a : Nat) (x1 : Int32) (σ : Mm) (μ : Ms) (hL : LM σ a) (g0 : ix x1 300 = true) : run d 144 8 [.ref a, .int (x1)] [] (put σ a μ) = run d 144 18 [.ref a, .int (x1)] [.int (μ.2 39 (x1 : Int32).toNatClampNeg)] (put σ a μ) := by
  have e := e_M_byteAt_8 d a x1 (put σ a μ) (hL.K μ) (by simp only [ar, va_rf, vd, put_F, put_sF, pP_39 hL, pK_39 hL, pN_39 hL, pA_39, pS_39]; rfl) (by simp only [ar, va_rf, vd, put_F, put_sF, pP_39 hL, pK_39 hL, pN_39 hL, pA_39, pS_39]; rfl) (by simpa only [ar, va_rf, vd, put_F, put_sF, pP_39 hL, pK_39 hL, pN_39 hL, pA_39, pS_39] using g0)
  simpa only [ar, va_rf, vd, put_F, put_sF, pP_39 hL, pK_39 hL, pN_39 hL, pA_39, pS_39] using e
theorem q_M_byteAt_17 (d : Nat) (a : Nat) (x1 : Int32) (σ : Mm) (μ : Ms) (hL : LM σ a)  : run d 144 17 [.ref a, .int (x1)] [] (put σ a μ) = run d 144 18 [.ref a, .int (x1)] [.int (0)] (put σ a μ) := by
  have e := e_M_byteAt_17 d a x1 (put σ a μ) 
  simpa only [ar, va_rf, vd, put_F, put_sF] using e
theorem q_M_byteAt_18 (d : Nat) (a : Nat) (x1 : Int32) (y0 : Int32) (σ : Mm) (μ : Ms) (hL : LM σ a)  : run d 144 18 [.ref a, .int (x1)] [.int (y0)] (put σ a μ) = some (some (.int (y0)), (put σ a μ)) := by
  have e := e_M_byteAt_18 d a x1 y0 (put σ a μ) 
  simpa only [ar, va_rf, vd, put_F, put_sF] using e
theorem q_M_isThis_0 (d : Nat) (a : Nat) (w1 : Int64) (u3 : Value) (u5 : Value) (σ : Mm) (μ : Ms) (hL : LM σ a)  : run d 145 0 [.ref a, .long (w1), uu, u3, uu, u5] [] (put σ a μ) = if ((μ.1 51) - (μ.1 50)) ≤ 7 then run d 145 18 [.ref a, .long (w1), uu, .long (0), uu, u5] [] (put σ a μ) else run d 145 16 [.ref a, .long (w1), uu, .long (0), uu, u5] [] (put σ a μ) := by
  have e := e_M_isThis_0 d a w1 u3 u5 (put σ a μ) (hL.K μ)
  simpa only [ar, va_rf, vd, put_F, put_sF] using e
theorem q_M_isThis_16 (d : Nat) (a : Nat) (w1 : Int64) (w3 : Int64) (u5 : Value) (σ : Mm) (μ : Ms) (hL : LM σ a)  : run d 145 16 [.ref a, .long (w1), uu, .long (w3), uu, u5] [] (put σ a μ) = some (some (.int (0)), (put σ a μ)) := by
  have e := e_M_isThis_16 d a w1 w3 u5 (put σ a μ) 
  simpa only [ar, va_rf, vd, put_F, put_sF] using e
theorem q_M_isThis_18 (d : Nat) (a : Nat) (w1 : Int64) (w3 : Int64) (u5 : Value) (σ : Mm) (μ : Ms) (hL : LM σ a)  : run d 145 18 [.ref a, .long (w1), uu, .long (w3), uu, u5] [] (put σ a μ) = run d 145 24 [.ref a, .long (w1), uu, .long (w3), uu, .int (μ.1 50)] [] (put σ a μ) := by
  have e := e_M_isThis_18 d a w1 w3 u5 (put σ a μ) (hL.K μ)
  simpa only [ar, va_rf, vd, put_F, put_sF] using e
theorem q_M_isThis_24 (d : Nat) (a : Nat) (w1 : Int64) (w3 : Int64) (x5 : Int32) (σ : Mm) (μ : Ms) (hL : LM σ a)  : run d 145 24 [.ref a, .long (w1), uu, .long (w3), uu, .int (x5)] [] (put σ a μ) = if (μ.1 51) ≤ x5 then run d 145 52 [.ref a, .long (w1), uu, .long (w3), uu, .int (x5)] [] (put σ a μ) else run d 145 33 [.ref a, .long (w1), uu, .long (w3), uu, .int (x5)] [] (put σ a μ) := by
  have e := e_M_isThis_24 d a w1 w3 x5 (put σ a μ) (hL.K μ)
  simpa only [ar, va_rf, vd, put_F, put_sF] using e
theorem q_M_isThis_33 (d : Nat) (a : Nat) (w1 : Int64) (w3 : Int64) (x5 : Int32) (σ : Mm) (μ : Ms) (hL : LM σ a)  : run (d + 1) 145 33 [.ref a, .long (w1), uu, .long (w3), uu, .int (x5)] [] (put σ a μ) = (runc d 144 [.ref a, .int (x5)] (put σ a μ)).bind (fun q => run (d + 1) 145 43 [.ref a, .long (w1), uu, .long (w3), uu, .int (x5)] (psh q.1 [.long (w3 <<< ((8 : Int32).toInt64 &&& 63))]) q.2) := by
  have e := e_M_isThis_33 d a w1 w3 x5 (put σ a μ) (hL.K μ)
  simpa only [ar, va_rf, vd, put_F, put_sF] using e
theorem q_M_isThis_43 (d : Nat) (a : Nat) (w1 : Int64) (w3 : Int64) (x5 : Int32) (y0 : Int32) (z1 : Int64) (σ : Mm) (μ : Ms) (hL : LM σ a)  : run d 145 43 [.ref a, .long (w1), uu, .long (w3), uu, .int (x5)] [.int (y0), .long (z1)] (put σ a μ) = run d 145 24 [.ref a, .long (w1), uu, .long (z1 ||| (y0.toInt64)), uu, .int (x5 + 1)] [] (put σ a μ) := by
  have e := e_M_isThis_43 d a w1 w3 x5 y0 z1 (put σ a μ) 
  simpa only [ar, va_rf, vd, put_F, put_sF] using e
theorem q_M_isThis_52 (d : Nat) (a : Nat) (w1 : Int64) (w3 : Int64) (x5 : Int32) (σ : Mm) (μ : Ms) (hL : LM σ a)  : run d 145 52 [.ref a, .long (w1), uu, .long (w3), uu, .int (x5)] [] (put σ a μ) = if ¬ (lg_cmp w3 w1) = 0 then run d 145 62 [.ref a, .long (w1), uu, .long (w3), uu, .int (x5)] [] (put σ a μ) else run d 145 58 [.ref a, .long (w1), uu, .long (w3), uu, .int (x5)] [] (put σ a μ) := by
  have e := e_M_isThis_52 d a w1 w3 x5 (put σ a μ) 
  simpa only [ar, va_rf, vd, put_F, put_sF] using e
theorem q_M_isThis_58 (d : Nat) (a : Nat) (w1 : Int64) (w3 : Int64) (x5 : Int32) (σ : Mm) (μ : Ms) (hL : LM σ a)  : run d 145 58 [.ref a, .long (w1), uu, .long (w3), uu, .int (x5)] [] (put σ a μ) = run d 145 63 [.ref a, .long (w1), uu, .long (w3), uu, .int (x5)] [.int (1)] (put σ a μ) := by
  have e := e_M_isThis_58 d a w1 w3 x5 (put σ a μ) 
  simpa only [ar, va_rf, vd, put_F, put_sF] using e
theorem q_M_isThis_62 (d : Nat) (a : Nat) (w1 : Int64) (w3 : Int64) (x5 : Int32) (σ : Mm) (μ : Ms) (hL : LM σ a)  : run d 145 62 [.ref a, .long (w1), uu, .long (w3), uu, .int (x5)] [] (put σ a μ) = run d 145 63 [.ref a, .long (w1), uu, .long (w3), uu, .int (x5)] [.int (0)] (put σ a μ) := by
  have e := e_M_isThis_62 d a w1 w3 x5 (put σ a μ) 
  simpa only [ar, va_rf, vd, put_F, put_sF] using e
theorem q_M_isThis_63 (d : Nat) (a : Nat) (w1 : Int64) (w3 : Int64) (x5 : Int32) (y0 : Int32) (σ : Mm) (μ : Ms) (hL : LM σ a) (g0 : y0 = 0 ∨ y0 = 1) : run d 145 63 [.ref a, .long (w1), uu, .long (w3), uu, .int (x5)] [.int (y0)] (put σ a μ) = some (some (.int (y0)), (put σ a μ)) := by
  have e := e_M_isThis_63 d a w1 w3 x5 y0 (put σ a μ) (by simpa only [ar, va_rf, vd, put_F, put_sF] using g0)
  simpa only [ar, va_rf, vd, put_F, put_sF] using e
theorem q_M_wordHere_0 (d : Nat) (a : Nat) (σ : Mm) (μ : Ms) (hL : LM σ a)  : run (d + 1) 146 0 [.ref a] [] (put σ a μ) = (runc d 145 [.ref a, .long (495924374636)] (put σ a μ)).bind (fun q => run (d + 1) 146 7 [.ref a] (psh q.1 []) q.2) := by
  have e := e_M_wordHere_0 d a (put σ a μ) (hL.K μ)
  simpa only [ar, va_rf, vd, put_F, put_sF] using e
theorem q_M_wordHere_7 (d : Nat) (a : Nat) (y0 : Int32) (σ : Mm) (μ : Ms) (hL : LM σ a)  : run d 146 7 [.ref a] [.int (y0)] (put σ a μ) = if y0 = 0 then run d 146 12 [.ref a] [] (put σ a μ) else run d 146 10 [.ref a] [] (put σ a μ) := by
  have e := e_M_wordHere_7 d a y0 (put σ a μ) 
  simpa only [ar, va_rf, vd, put_F, put_sF] using e
theorem q_M_wordHere_10 (d : Nat) (a : Nat) (σ : Mm) (μ : Ms) (hL : LM σ a)  : run d 146 10 [.ref a] [] (put σ a μ) = some (some (.int (0)), (put σ a μ)) := by
  have e := e_M_wordHere_10 d a (put σ a μ) 
  simpa only [ar, va_rf, vd, put_F, put_sF] using e
theorem q_M_wordHere_12 (d : Nat) (a : Nat) (σ : Mm) (μ : Ms) (hL : LM σ a)  : run (d + 1) 146 12 [.ref a] [] (put σ a μ) = (runc d 145 [.ref a, .long (1752135026)] (put σ a μ)).bind (fun q => run (d + 1) 146 19 [.ref a] (psh q.1 []) q.2) := by
  have e := e_M_wordHere_12 d a (put σ a μ) (hL.K μ)
  simpa only [ar, va_rf, vd, put_F, put_sF] using e
theorem q_M_wordHere_19 (d : Nat) (a : Nat) (y0 : Int32) (σ : Mm) (μ : Ms) (hL : LM σ a)  : run d 146 19 [.ref a] [.int (y0)] (put σ a μ) = if y0 = 0 then run d 146 24 [.ref a] [] (put σ a μ) else run d 146 22 [.ref a] [] (put σ a μ) := by
  have e := e_M_wordHere_19 d a y0 (put σ a μ) 
  simpa only [ar, va_rf, vd, put_F, put_sF] using e
theorem q_M_wordHere_22 (d : Nat) (a : Nat) (σ : Mm) (μ : Ms) (hL : LM σ a)  : run d 146 22 [.ref a] [] (put σ a μ) = some (some (.int (1)), (put σ a μ)) := by
  have e := e_M_wordHere_22 d a (put σ a μ) 
  simpa only [ar, va_rf, vd, put_F, put_sF] using e
theorem q_M_wordHere_24 (d : Nat) (a : Nat) (σ : Mm) (μ : Ms) (hL : LM σ a)  : run (d + 1) 146 24 [.ref a] [] (put σ a μ) = (runc d 145 [.ref a, .long (465624852596)] (put σ a μ)).bind (fun q => run (d + 1) 146 31 [.ref a] (psh q.1 []) q.2) := by
  have e := e_M_wordHere_24 d a (put σ a μ) (hL.K μ)
  simpa only [ar, va_rf, vd, put_F, put_sF] using e
theorem q_M_wordHere_31 (d : Nat) (a : Nat) (y0 : Int32) (σ : Mm) (μ : Ms) (hL : LM σ a)  : run d 146 31 [.ref a] [.int (y0)] (put σ a μ) = if y0 = 0 then run d 146 36 [.ref a] [] (put σ a μ) else run d 146 34 [.ref a] [] (put σ a μ) := by
  have e := e_M_wordHere_31 d a y0 (put σ a μ) 
  simpa only [ar, va_rf, vd, put_F, put_sF] using e
theorem q_M_wordHere_34 (d : Nat) (a : Nat) (σ : Mm) (μ : Ms) (hL : LM σ a)  : run d 146 34 [.ref a] [] (put σ a μ) = some (some (.int (2)), (put σ a μ)) := by
  have e := e_M_wordHere_34 d a (put σ a μ) 
  simpa only [ar, va_rf, vd, put_F, put_sF] using e
theorem q_M_wordHere_36 (d : Nat) (a : Nat) (σ : Mm) (μ : Ms) (hL : LM σ a)  : run (d + 1) 146 36 [.ref a] [] (put σ a μ) = (runc d 145 [.ref a, .long (1718773093)] (put σ a μ)).bind (fun q => run (d + 1) 146 43 [.ref a] (psh q.1 []) q.2) := by
  have e := e_M_wordHere_36 d a (put σ a μ) (hL.K μ)
  simpa only [ar, va_rf, vd, put_F, put_sF] using e
theorem q_M_wordHere_43 (d : Nat) (a : Nat) (y0 : Int32) (σ : Mm) (μ : Ms) (hL : LM σ a)  : run d 146 43 [.ref a] [.int (y0)] (put σ a μ) = if y0 = 0 then run d 146 48 [.ref a] [] (put σ a μ) else run d 146 46 [.ref a] [] (put σ a μ) := by
  have e := e_M_wordHere_43 d a y0 (put σ a μ) 
  simpa only [ar, va_rf, vd, put_F, put_sF] using e
theorem q_M_wordHere_46 (d : Nat) (a : Nat) (σ : Mm) (μ : Ms) (hL : LM σ a)  : run d 146 46 [.ref a] [] (put σ a μ) = some (some (.int (3)), (put σ a μ)) := by
  have e := e_M_wordHere_46 d a (put σ a μ) 
  simpa only [ar, va_rf, vd, put_F, put_sF] using e
theorem q_M_wordHere_48 (d : Nat) (a : Nat) (σ : Mm) (μ : Ms) (hL : LM σ a)  : run (d + 1) 146 48 [.ref a] [] (put σ a μ) = (runc d 145 [.ref a, .long (1718969708)] (put σ a μ)).bind (fun q => run (d + 1) 146 55 [.ref a] (psh q.1 []) q.2) := by
  have e := e_M_wordHere_48 d a (put σ a μ) (hL.K μ)
  simpa only [ar, va_rf, vd, put_F, put_sF] using e
theorem q_M_wordHere_55 (d : Nat) (a : Nat) (y0 : Int32) (σ : Mm) (μ : Ms) (hL : LM σ a)  : run d 146 55 [.ref a] [.int (y0)] (put σ a μ) = if y0 = 0 then run d 146 60 [.ref a] [] (put σ a μ) else run d 146 58 [.ref a] [] (put σ a μ) := by
  have e := e_M_wordHere_55 d a y0 (put σ a μ) 
  simpa only [ar, va_rf, vd, put_F, put_sF] using e
theorem q_M_wordHere_58 (d : Nat) (a : Nat) (σ : Mm) (μ : Ms) (hL : LM σ a)  : run d 146 58 [.ref a] [] (put σ a μ) = some (some (.int (4)), (put σ a μ)) := by
  have e := e_M_wordHere_58 d a (put σ a μ) 
  simpa only [ar, va_rf, vd, put_F, put_sF] using e
theorem q_M_wordHere_60 (d : Nat) (a : Nat) (σ : Mm) (μ : Ms) (hL : LM σ a)  : run (d + 1) 146 60 [.ref a] [] (put σ a μ) = (runc d 145 [.ref a, .long (131277443786868)] (put σ a μ)).bind (fun q => run (d + 1) 146 67 [.ref a] (psh q.1 []) q.2) := by
  have e := e_M_wordHere_60 d a (put σ a μ) (hL.K μ)
  simpa only [ar, va_rf, vd, put_F, put_sF] using e
theorem q_M_wordHere_67 (d : Nat) (a : Nat) (y0 : Int32) (σ : Mm) (μ : Ms) (hL : LM σ a)  : run d 146 67 [.ref a] [.int (y0)] (put σ a μ) = if y0 = 0 then run d 146 72 [.ref a] [] (put σ a μ) else run d 146 70 [.ref a] [] (put σ a μ) := by
  have e := e_M_wordHere_67 d a y0 (put σ a μ) 
  simpa only [ar, va_rf, vd, put_F, put_sF] using e
theorem q_M_wordHere_70 (d : Nat) (a : Nat) (σ : Mm) (μ : Ms) (hL : LM σ a)  : run d 146 70 [.ref a] [] (put σ a μ) = some (some (.int (5)), (put σ a μ)) := by
  have e := e_M_wordHere_70 d a (put σ a μ) 
  simpa only [ar, va_rf, vd, put_F, put_sF] using e
theorem q_M_wordHere_72 (d : Nat) (a : Nat) (σ : Mm) (μ : Ms) (hL : LM σ a)  : run (d + 1) 146 72 [.ref a] [] (put σ a μ) = (runc d 145 [.ref a, .long (6578553)] (put σ a μ)).bind (fun q => run (d + 1) 146 79 [.ref a] (psh q.1 []) q.2) := by
  have e := e_M_wordHere_72 d a (put σ a μ) (hL.K μ)
  simpa only [ar, va_rf, vd, put_F, put_sF] using e
theorem q_M_wordHere_79 (d : Nat) (a : Nat) (y0 : Int32) (σ : Mm) (μ : Ms) (hL : LM σ a)  : run d 146 79 [.ref a] [.int (y0)] (put σ a μ) = if y0 = 0 then run d 146 85 [.ref a] [] (put σ a μ) else run d 146 82 [.ref a] [] (put σ a μ) := by
  have e := e_M_wordHere_79 d a y0 (put σ a μ) 
  simpa only [ar, va_rf, vd, put_F, put_sF] using e
theorem q_M_wordHere_82 (d : Nat) (a : Nat) (σ : Mm) (μ : Ms) (hL : LM σ a)  : run d 146 82 [.ref a] [] (put σ a μ) = some (some (.int (6)), (put σ a μ)) := by
  have e := e_M_wordHere_82 d a (put σ a μ) 
  simpa only [ar, va_rf, vd, put_F, put_sF] using e
theorem q_M_wordHere_85 (d : Nat) (a : Nat) (σ : Mm) (μ : Ms) (hL : LM σ a)  : run (d + 1) 146 85 [.ref a] [] (put σ a μ) = (runc d 145 [.ref a, .long (1650550643)] (put σ a μ)).bind (fun q => run (d + 1) 146 92 [.ref a] (psh q.1 []) q.2) := by
  have e := e_M_wordHere_85 d a (put σ a μ) (hL.K μ)
  simpa only [ar, va_rf, vd, put_F, put_sF] using e
theorem q_M_wordHere_92 (d : Nat) (a : Nat) (y0 : Int32) (σ : Mm) (μ : Ms) (hL : LM σ a)  : run d 146 92 [.ref a] [.int (y0)] (put σ a μ) = if y0 = 0 then run d 146 98 [.ref a] [] (put σ a μ) else run d 146 95 [.ref a] [] (put σ a μ) := by
  have e := e_M_wordHere_92 d a y0 (put σ a μ) 
  simpa only [ar, va_rf, vd, put_F, put_sF] using e
theorem q_M_wordHere_95 (d : Nat) (a : Nat) (σ : Mm) (μ : Ms) (hL : LM σ a)  : run d 146 95 [.ref a] [] (put σ a μ) = some (some (.int (7)), (put σ a μ)) := by
  have e := e_M_wordHere_95 d a (put σ a μ) 
  simpa only [ar, va_rf, vd, put_F, put_sF] using e
theorem q_M_wordHere_98 (d : Nat) (a : Nat) (σ : Mm) (μ : Ms) (hL : LM σ a)  : run (d + 1) 146 98 [.ref a] [] (put σ a μ) = (runc d 145 [.ref a, .long (1818846836)] (put σ a μ)).bind (fun q => run (d + 1) 146 105 [.ref a] (psh q.1 []) q.2) := by
  have e := e_M_wordHere_98 d a (put σ a μ) (hL.K μ)
  simpa only [ar, va_rf, vd, put_F, put_sF] using e
theorem q_M_wordHere_105 (d : Nat) (a : Nat) (y0 : Int32) (σ : Mm) (μ : Ms) (hL : LM σ a)  : run d 146 105 [.ref a] [.int (y0)] (put σ a μ) = if y0 = 0 then run d 146 111 [.ref a] [] (put σ a μ) else run d 146 108 [.ref a] [] (put σ a μ) := by
  have e := e_M_wordHere_105 d a y0 (put σ a μ) 
  simpa only [ar, va_rf, vd, put_F, put_sF] using e
theorem q_M_wordHere_108 (d : Nat) (a : Nat) (σ : Mm) (μ : Ms) (hL : LM σ a)  : run d 146 108 [.ref a] [] (put σ a μ) = some (some (.int (8)), (put σ a μ)) := by
  have e := e_M_wordHere_108 d a (put σ a μ) 
  simpa only [ar, va_rf, vd, put_F, put_sF] using e
theorem q_M_wordHere_111 (d : Nat) (a : Nat) (σ : Mm) (μ : Ms) (hL : LM σ a)  : run (d + 1) 146 111 [.ref a] [] (put σ a μ) = (runc d 145 [.ref a, .long (1818324580)] (put σ a μ)).bind (fun q => run (d + 1) 146 118 [.ref a] (psh q.1 []) q.2) := by
  have e := e_M_wordHere_111 d a (put σ a μ) (hL.K μ)
  simpa only [ar, va_rf, vd, put_F, put_sF] using e
theorem q_M_wordHere_118 (d : Nat) (a : Nat) (y0 : Int32) (σ : Mm) (μ : Ms) (hL : LM σ a)  : run d 146 118 [.ref a] [.int (y0)] (put σ a μ) = if y0 = 0 then run d 146 124 [.ref a] [] (put σ a μ) else run d 146 121 [.ref a] [] (put σ a μ) := by
  have e := e_M_wordHere_118 d a y0 (put σ a μ) 
  simpa only [ar, va_rf, vd, put_F, put_sF] using e
theorem q_M_wordHere_121 (d : Nat) (a : Nat) (σ : Mm) (μ : Ms) (hL : LM σ a)  : run d 146 121 [.ref a] [] (put σ a μ) = some (some (.int (9)), (put σ a μ)) := by
  have e := e_M_wordHere_121 d a (put σ a μ) 
  simpa only [ar, va_rf, vd, put_F, put_sF] using e
theorem q_M_wordHere_124 (d : Nat) (a : Nat) (σ : Mm) (μ : Ms) (hL : LM σ a)  : run (d + 1) 146 124 [.ref a] [] (put σ a μ) = (runc d 145 [.ref a, .long (24948)] (put σ a μ)).bind (fun q => run (d + 1) 146 131 [.ref a] (psh q.1 []) q.2) := by
  have e := e_M_wordHere_124 d a (put σ a μ) (hL.K μ)
  simpa only [ar, va_rf, vd, put_F, put_sF] using e
theorem q_M_wordHere_131 (d : Nat) (a : Nat) (y0 : Int32) (σ : Mm) (μ : Ms) (hL : LM σ a)  : run d 146 131 [.ref a] [.int (y0)] (put σ a μ) = if y0 = 0 then run d 146 137 [.ref a] [] (put σ a μ) else run d 146 134 [.ref a] [] (put σ a μ) := by
  have e := e_M_wordHere_131 d a y0 (put σ a μ) 
  simpa only [ar, va_rf, vd, put_F, put_sF] using e
theorem q_M_wordHere_134 (d : Nat) (a : Nat) (σ : Mm) (μ : Ms) (hL : LM σ a)  : run d 146 134 [.ref a] [] (put σ a μ) = some (some (.int (10)), (put σ a μ)) := by
  have e := e_M_wordHere_134 d a (put σ a μ) 
  simpa only [ar, va_rf, vd, put_F, put_sF] using e
theorem q_M_wordHere_137 (d : Nat) (a : Nat) (σ : Mm) (μ : Ms) (hL : LM σ a)  : run (d + 1) 146 137 [.ref a] [] (put σ a μ) = (runc d 145 [.ref a, .long (26982)] (put σ a μ)).bind (fun q => run (d + 1) 146 144 [.ref a] (psh q.1 []) q.2) := by
  have e := e_M_wordHere_137 d a (put σ a μ) (hL.K μ)
  simpa only [ar, va_rf, vd, put_F, put_sF] using e
theorem q_M_wordHere_144 (d : Nat) (a : Nat) (y0 : Int32) (σ : Mm) (μ : Ms) (hL : LM σ a)  : run d 146 144 [.ref a] [.int (y0)] (put σ a μ) = if y0 = 0 then run d 146 150 [.ref a] [] (put σ a μ) else run d 146 147 [.ref a] [] (put σ a μ) := by
  have e := e_M_wordHere_144 d a y0 (put σ a μ) 
  simpa only [ar, va_rf, vd, put_F, put_sF] using e
theorem q_M_wordHere_147 (d : Nat) (a : Nat) (σ : Mm) (μ : Ms) (hL : LM σ a)  : run d 146 147 [.ref a] [] (put σ a μ) = some (some (.int (11)), (put σ a μ)) := by
  have e := e_M_wordHere_147 d a (put σ a μ) 
  simpa only [ar, va_rf, vd, put_F, put_sF] using e
theorem q_M_wordHere_150 (d : Nat) (a : Nat) (σ : Mm) (μ : Ms) (hL : LM σ a)  : run (d + 1) 146 150 [.ref a] [] (put σ a μ) = (runc d 145 [.ref a, .long (6385252)] (put σ a μ)).bind (fun q => run (d + 1) 146 157 [.ref a] (psh q.1 []) q.2) := by
  have e := e_M_wordHere_150 d a (put σ a μ) (hL.K μ)
  simpa only [ar, va_rf, vd, put_F, put_sF] using e
theorem q_M_wordHere_157 (d : Nat) (a : Nat) (y0 : Int32) (σ : Mm) (μ : Ms) (hL : LM σ a)  : run d 146 157 [.ref a] [.int (y0)] (put σ a μ) = if y0 = 0 then run d 146 163 [.ref a] [] (put σ a μ) else run d 146 160 [.ref a] [] (put σ a μ) := by
  have e := e_M_wordHere_157 d a y0 (put σ a μ) 
  simpa only [ar, va_rf, vd, put_F, put_sF] using e
theorem q_M_wordHere_160 (d : Nat) (a : Nat) (σ : Mm) (μ : Ms) (hL : LM σ a)  : run d 146 160 [.ref a] [] (put σ a μ) = some (some (.int (12)), (put σ a μ)) := by
  have e := e_M_wordHere_160 d a (put σ a μ) 
  simpa only [ar, va_rf, vd, put_F, put_sF] using e
theorem q_M_wordHere_163 (d : Nat) (a : Nat) (σ : Mm) (μ : Ms) (hL : LM σ a)  : run (d + 1) 146 163 [.ref a] [] (put σ a μ) = (runc d 145 [.ref a, .long (7237492)] (put σ a μ)).bind (fun q => run (d + 1) 146 170 [.ref a] (psh q.1 []) q.2) := by
  have e := e_M_wordHere_163 d a (put σ a μ) (hL.K μ)
  simpa only [ar, va_rf, vd, put_F, put_sF] using e
theorem q_M_wordHere_170 (d : Nat) (a : Nat) (y0 : Int32) (σ : Mm) (μ : Ms) (hL : LM σ a)  : run d 146 170 [.ref a] [.int (y0)] (put σ a μ) = if y0 = 0 then run d 146 178 [.ref a] [] (put σ a μ) else run d 146 173 [.ref a] [] (put σ a μ) := by
  have e := e_M_wordHere_170 d a y0 (put σ a μ) 
  simpa only [ar, va_rf, vd, put_F, put_sF] using e
theorem q_M_wordHere_173 (d : Nat) (a : Nat) (σ : Mm) (μ : Ms) (hL : LM σ a)  : run d 146 173 [.ref a] [] (put σ a μ) = run d 146 180 [.ref a] [.int (13)] (put σ a μ) := by
  have e := e_M_wordHere_173 d a (put σ a μ) 
  simpa only [ar, va_rf, vd, put_F, put_sF] using e
theorem q_M_wordHere_178 (d : Nat) (a : Nat) (σ : Mm) (μ : Ms) (hL : LM σ a)  : run d 146 178 [.ref a] [] (put σ a μ) = run d 146 180 [.ref a] [.int (23)] (put σ a μ) := by
  have e := e_M_wordHere_178 d a (put σ a μ) 
  simpa only [ar, va_rf, vd, put_F, put_sF] using e
theorem q_M_wordHere_180 (d : Nat) (a : Nat) (y0 : Int32) (σ : Mm) (μ : Ms) (hL : LM σ a)  : run d 146 180 [.ref a] [.int (y0)] (put σ a μ) = some (some (.int (y0)), (put σ a μ)) := by
  have e := e_M_wordHere_180 d a y0 (put σ a μ) 
  simpa only [ar, va_rf, vd, put_F, put_sF] using e
theorem q_M_next_0 (d : Nat) (a : Nat) (σ : Mm) (μ : Ms) (hL : LM σ a)  : run d 147 0 [.ref a] [] (put σ a μ) = run d 147 8 [.ref a] [] (put σ a (fF μ 50 (μ.1 51))) := by
  have e := e_M_next_0 d a (put σ a μ) (hL.K μ)
  simpa only [ar, va_rf, vd, put_F, put_sF] using e
theorem q_M_next_8 (d : Nat) (a : Nat) (σ : Mm) (μ : Ms) (hL : LM σ a)  : run d 147 8 [.ref a] [] (put σ a μ) = if (μ.1 40) ≤ (μ.1 50) then run d 147 60 [.ref a] [] (put σ a μ) else run d 147 19 [.ref a] [] (put σ a μ) := by
  have e := e_M_next_8 d a (put σ a μ) (hL.K μ)
  simpa only [ar, va_rf, vd, put_F, put_sF] using e
theorem q_M_next_19 (d : Nat) (a : Nat) (σ : Mm) (μ : Ms) (hL : LM σ a) (g0 : ix (μ.1 50) 300 = true) : run d 147 19 [.ref a] [] (put σ a μ) = if (μ.2 39 (μ.1 50 : Int32).toNatClampNeg) = 32 then run d 147 47 [.ref a] [] (put σ a μ) else run d 147 33 [.ref a] [] (put σ a μ) := by
  have e := e_M_next_19 d a (put σ a μ) (hL.K μ) (by simp only [ar, va_rf, vd, put_F, put_sF, pP_39 hL, pK_39 hL, pN_39 hL, pA_39, pS_39]; rfl) (by simp only [ar, va_rf, vd, put_F, put_sF, pP_39 hL, pK_39 hL, pN_39 hL, pA_39, pS_39]; rfl) (by simpa only [ar, va_rf, vd, put_F, put_sF, pP_39 hL, pK_39 hL, pN_39 hL, pA_39, pS_39] using g0)
  simpa only [ar, va_rf, vd, put_F, put_sF, pP_39 hL, pK_39 hL, pN_39 hL, pA_39, pS_39] using e
theorem q_M_next_33 (d : Nat) (a : Nat) (σ : Mm) (μ : Ms) (hL : LM σ a) (g0 : ix (μ.1 50) 300 = true) : run d 147 33 [.ref a] [] (put σ a μ) = if ¬ (μ.2 39 (μ.1 50 : Int32).toNatClampNeg) = 10 then run d 147 60 [.ref a] [] (put σ a μ) else run d 147 47 [.ref a] [] (put σ a μ) := by
  have e := e_M_next_33 d a (put σ a μ) (hL.K μ) (by simp only [ar, va_rf, vd, put_F, put_sF, pP_39 hL, pK_39 hL, pN_39 hL, pA_39, pS_39]; rfl) (by simp only [ar, va_rf, vd, put_F, put_sF, pP_39 hL, pK_39 hL, pN_39 hL, pA_39, pS_39]; rfl) (by simpa only [ar, va_rf, vd, put_F, put_sF, pP_39 hL, pK_39 hL, pN_39 hL, pA_39, pS_39] using g0)
  simpa only [ar, va_rf, vd, put_F, put_sF, pP_39 hL, pK_39 hL, pN_39 hL, pA_39, pS_39] using e
theorem q_M_next_47 (d : Nat) (a : Nat) (σ : Mm) (μ : Ms) (hL : LM σ a)  : run d 147 47 [.ref a] [] (put σ a μ) = run d 147 57 [.ref a] [] (put σ a (fF μ 50 ((μ.1 50) + 1))) := by
  have e := e_M_next_47 d a (put σ a μ) (hL.K μ)
  simpa only [ar, va_rf, vd, put_F, put_sF] using e
theorem q_M_next_57 (d : Nat) (a : Nat) (σ : Mm) (μ : Ms) (hL : LM σ a)  : run d 147 57 [.ref a] [] (put σ a μ) = run d 147 8 [.ref a] [] (put σ a μ) := by
  have e := e_M_next_57 d a (put σ a μ) 
  simpa only [ar, va_rf, vd, put_F, put_sF] using e
theorem q_M_next_60 (d : Nat) (a : Nat) (σ : Mm) (μ : Ms) (hL : LM σ a)  : run d 147 60 [.ref a] [] (put σ a μ) = run d 147 68 [.ref a] [] (put σ a (fF μ 51 (μ.1 50))) := by
  have e := e_M_next_60 d a (put σ a μ) (hL.K μ)
  simpa only [ar, va_rf, vd, put_F, put_sF] using e
theorem q_M_next_68 (d : Nat) (a : Nat) (σ : Mm) (μ : Ms) (hL : LM σ a)  : run d 147 68 [.ref a] [] (put σ a μ) = run d 147 73 [.ref a] [] (put σ a (fF μ 53 0)) := by
  have e := e_M_next_68 d a (put σ a μ) (hL.K μ)
  simpa only [ar, va_rf, vd, put_F, put_sF] using e
theorem q_M_next_73 (d : Nat) (a : Nat) (σ : Mm) (μ : Ms) (hL : LM σ a)  : run d 147 73 [.ref a] [] (put σ a μ) = if ¬ (μ.1 50) = (μ.1 40) then run d 147 93 [.ref a] [] (put σ a μ) else run d 147 84 [.ref a] [] (put σ a μ) := by
  have e := e_M_next_73 d a (put σ a μ) (hL.K μ)
  simpa only [ar, va_rf, vd, put_F, put_sF] using e
theorem q_M_next_84 (d : Nat) (a : Nat) (σ : Mm) (μ : Ms) (hL : LM σ a)  : run d 147 84 [.ref a] [] (put σ a μ) = run d 147 90 [.ref a] [] (put σ a (fF μ 52 22)) := by
  have e := e_M_next_84 d a (put σ a μ) (hL.K μ)
  simpa only [ar, va_rf, vd, put_F, put_sF] using e
theorem q_M_next_90 (d : Nat) (a : Nat) (σ : Mm) (μ : Ms) (hL : LM σ a)  : run d 147 90 [.ref a] [] (put σ a μ) = run d 147 337 [.ref a] [] (put σ a μ) := by
  have e := e_M_next_90 d a (put σ a μ) 
  simpa only [ar, va_rf, vd, put_F, put_sF] using e
theorem q_M_next_93 (d : Nat) (a : Nat) (σ : Mm) (μ : Ms) (hL : LM σ a) (g0 : ix (μ.1 50) 300 = true) : run (d + 1) 147 93 [.ref a] [] (put σ a μ) = (runc d 115 [.int (μ.2 39 (μ.1 50 : Int32).toNatClampNeg), .int (97), .int (122)] (put σ a μ)).bind (fun q => run (d + 1) 147 109 [.ref a] (psh q.1 []) q.2) := by
  have e := e_M_next_93 d a (put σ a μ) (hL.K μ) (by simp only [ar, va_rf, vd, put_F, put_sF, pP_39 hL, pK_39 hL, pN_39 hL, pA_39, pS_39]; rfl) (by simp only [ar, va_rf, vd, put_F, put_sF, pP_39 hL, pK_39 hL, pN_39 hL, pA_39, pS_39]; rfl) (by simpa only [ar, va_rf, vd, put_F, put_sF, pP_39 hL, pK_39 hL, pN_39 hL, pA_39, pS_39] using g0)
  simpa only [ar, va_rf, vd, put_F, put_sF, pP_39 hL, pK_39 hL, pN_39 hL, pA_39, pS_39] using e
theorem q_M_next_109 (d : Nat) (a : Nat) (y0 : Int32) (σ : Mm) (μ : Ms) (hL : LM σ a)  : run d 147 109 [.ref a] [.int (y0)] (put σ a μ) = if y0 = 0 then run d 147 154 [.ref a] [] (put σ a μ) else run d 147 112 [.ref a] [] (put σ a μ) := by
  have e := e_M_next_109 d a y0 (put σ a μ) 
  simpa only [ar, va_rf, vd, put_F, put_sF] using e
theorem q_M_next_112 (d : Nat) (a : Nat) (σ : Mm) (μ : Ms) (hL : LM σ a)  : run (d + 1) 147 112 [.ref a] [] (put σ a μ) = (runc d 144 [.ref a, .int (μ.1 51)] (put σ a μ)).bind (fun q => run (d + 1) 147 120 [.ref a] (psh q.1 []) q.2) := by
  have e := e_M_next_112 d a (put σ a μ) (hL.K μ)
  simpa only [ar, va_rf, vd, put_F, put_sF] using e
theorem q_M_next_120 (d : Nat) (a : Nat) (y0 : Int32) (σ : Mm) (μ : Ms) (hL : LM σ a)  : run (d + 1) 147 120 [.ref a] [.int (y0)] (put σ a μ) = (runc d 115 [.int (y0), .int (97), .int (122)] (put σ a μ)).bind (fun q => run (d + 1) 147 127 [.ref a] (psh q.1 []) q.2) := by
  have e := e_M_next_120 d a y0 (put σ a μ) 
  simpa only [ar, va_rf, vd, put_F, put_sF] using e
theorem q_M_next_127 (d : Nat) (a : Nat) (y0 : Int32) (σ : Mm) (μ : Ms) (hL : LM σ a)  : run d 147 127 [.ref a] [.int (y0)] (put σ a μ) = if y0 = 0 then run d 147 143 [.ref a] [] (put σ a μ) else run d 147 130 [.ref a] [] (put σ a μ) := by
  have e := e_M_next_127 d a y0 (put σ a μ) 
  simpa only [ar, va_rf, vd, put_F, put_sF] using e
theorem q_M_next_130 (d : Nat) (a : Nat) (σ : Mm) (μ : Ms) (hL : LM σ a)  : run d 147 130 [.ref a] [] (put σ a μ) = run d 147 140 [.ref a] [] (put σ a (fF μ 51 ((μ.1 51) + 1))) := by
  have e := e_M_next_130 d a (put σ a μ) (hL.K μ)
  simpa only [ar, va_rf, vd, put_F, put_sF] using e
theorem q_M_next_140 (d : Nat) (a : Nat) (σ : Mm) (μ : Ms) (hL : LM σ a)  : run d 147 140 [.ref a] [] (put σ a μ) = run d 147 112 [.ref a] [] (put σ a μ) := by
  have e := e_M_next_140 d a (put σ a μ) 
  simpa only [ar, va_rf, vd, put_F, put_sF] using e
theorem q_M_next_143 (d : Nat) (a : Nat) (σ : Mm) (μ : Ms) (hL : LM σ a)  : run (d + 1) 147 143 [.ref a] [] (put σ a μ) = (runc d 146 [.ref a] (put σ a μ)).bind (fun q => run (d + 1) 147 148 [.ref a] (psh q.1 [.ref a]) q.2) := by
  have e := e_M_next_143 d a (put σ a μ) (hL.K μ)
  simpa only [ar, va_rf, vd, put_F, put_sF] using e
theorem q_M_next_148 (d : Nat) (a : Nat) (y0 : Int32) (σ : Mm) (μ : Ms) (hL : LM σ a)  : run d 147 148 [.ref a] [.int (y0), (.ref a)] (put σ a μ) = run d 147 151 [.ref a] [] (put σ a (fF μ 52 y0)) := by
  have e := e_M_next_148 d a y0 (.ref a) (put σ a μ) rfl (hL.K μ)
  simpa only [ar, va_rf, vd, put_F, put_sF] using e
theorem q_M_next_151 (d : Nat) (a : Nat) (σ : Mm) (μ : Ms) (hL : LM σ a)  : run d 147 151 [.ref a] [] (put σ a μ) = run d 147 337 [.ref a] [] (put σ a μ) := by
  have e := e_M_next_151 d a (put σ a μ) 
  simpa only [ar, va_rf, vd, put_F, put_sF] using e
theorem q_M_next_154 (d : Nat) (a : Nat) (σ : Mm) (μ : Ms) (hL : LM σ a) (g0 : ix (μ.1 50) 300 = true) : run (d + 1) 147 154 [.ref a] [] (put σ a μ) = (runc d 115 [.int (μ.2 39 (μ.1 50 : Int32).toNatClampNeg), .int (48), .int (57)] (put σ a μ)).bind (fun q => run (d + 1) 147 170 [.ref a] (psh q.1 []) q.2) := by
  have e := e_M_next_154 d a (put σ a μ) (hL.K μ) (by simp only [ar, va_rf, vd, put_F, put_sF, pP_39 hL, pK_39 hL, pN_39 hL, pA_39, pS_39]; rfl) (by simp only [ar, va_rf, vd, put_F, put_sF, pP_39 hL, pK_39 hL, pN_39 hL, pA_39, pS_39]; rfl) (by simpa only [ar, va_rf, vd, put_F, put_sF, pP_39 hL, pK_39 hL, pN_39 hL, pA_39, pS_39] using g0)
  simpa only [ar, va_rf, vd, put_F, put_sF, pP_39 hL, pK_39 hL, pN_39 hL, pA_39, pS_39] using e
theorem q_M_next_170 (d : Nat) (a : Nat) (y0 : Int32) (σ : Mm) (μ : Ms) (hL : LM σ a)  : run d 147 170 [.ref a] [.int (y0)] (put σ a μ) = if y0 = 0 then run d 147 267 [.ref a] [] (put σ a μ) else run d 147 173 [.ref a] [] (put σ a μ) := by
  have e := e_M_next_170 d a y0 (put σ a μ) 
  simpa only [ar, va_rf, vd, put_F, put_sF] using e
theorem q_M_next_173 (d : Nat) (a : Nat) (σ : Mm) (μ : Ms) (hL : LM σ a)  : run (d + 1) 147 173 [.ref a] [] (put σ a μ) = (runc d 144 [.ref a, .int (μ.1 51)] (put σ a μ)).bind (fun q => run (d + 1) 147 181 [.ref a] (psh q.1 []) q.2) := by
  have e := e_M_next_173 d a (put σ a μ) (hL.K μ)
  simpa only [ar, va_rf, vd, put_F, put_sF] using e
theorem q_M_next_181 (d : Nat) (a : Nat) (y0 : Int32) (σ : Mm) (μ : Ms) (hL : LM σ a)  : run (d + 1) 147 181 [.ref a] [.int (y0)] (put σ a μ) = (runc d 115 [.int (y0), .int (48), .int (57)] (put σ a μ)).bind (fun q => run (d + 1) 147 188 [.ref a] (psh q.1 []) q.2) := by
  have e := e_M_next_181 d a y0 (put σ a μ) 
  simpa only [ar, va_rf, vd, put_F, put_sF] using e
theorem q_M_next_188 (d : Nat) (a : Nat) (y0 : Int32) (σ : Mm) (μ : Ms) (hL : LM σ a)  : run d 147 188 [.ref a] [.int (y0)] (put σ a μ) = if y0 = 0 then run d 147 240 [.ref a] [] (put σ a μ) else run d 147 191 [.ref a] [] (put σ a μ) := by
  have e := e_M_next_188 d a y0 (put σ a μ) 
  simpa only [ar, va_rf, vd, put_F, put_sF] using e
theorem q_M_next_191 (d : Nat) (a : Nat) (σ : Mm) (μ : Ms) (hL : LM σ a)  : run d 147 191 [.ref a] [] (put σ a μ) = if 5 ≤ ((μ.1 51) - (μ.1 50)) then run d 147 227 [.ref a] [] (put σ a μ) else run d 147 204 [.ref a] [] (put σ a μ) := by
  have e := e_M_next_191 d a (put σ a μ) (hL.K μ)
  simpa only [ar, va_rf, vd, put_F, put_sF] using e
theorem q_M_next_204 (d : Nat) (a : Nat) (σ : Mm) (μ : Ms) (hL : LM σ a)  : run (d + 1) 147 204 [.ref a] [] (put σ a μ) = (runc d 144 [.ref a, .int (μ.1 51)] (put σ a μ)).bind (fun q => run (d + 1) 147 220 [.ref a] (psh q.1 [.int (10 * (μ.1 53)), .ref a]) q.2) := by
  have e := e_M_next_204 d a (put σ a μ) (hL.K μ)
  simpa only [ar, va_rf, vd, put_F, put_sF] using e
theorem q_M_next_220 (d : Nat) (a : Nat) (y0 : Int32) (y1 : Int32) (σ : Mm) (μ : Ms) (hL : LM σ a)  : run d 147 220 [.ref a] [.int (y0), .int (y1), (.ref a)] (put σ a μ) = run d 147 227 [.ref a] [] (put σ a (fF μ 53 ((y1 + y0) - 48))) := by
  have e := e_M_next_220 d a y0 y1 (.ref a) (put σ a μ) rfl (hL.K μ)
  simpa only [ar, va_rf, vd, put_F, put_sF] using e
theorem q_M_next_227 (d : Nat) (a : Nat) (σ : Mm) (μ : Ms) (hL : LM σ a)  : run d 147 227 [.ref a] [] (put σ a μ) = run d 147 237 [.ref a] [] (put σ a (fF μ 51 ((μ.1 51) + 1))) := by
  have e := e_M_next_227 d a (put σ a μ) (hL.K μ)
  simpa only [ar, va_rf, vd, put_F, put_sF] using e
theorem q_M_next_237 (d : Nat) (a : Nat) (σ : Mm) (μ : Ms) (hL : LM σ a)  : run d 147 237 [.ref a] [] (put σ a μ) = run d 147 173 [.ref a] [] (put σ a μ) := by
  have e := e_M_next_237 d a (put σ a μ) 
  simpa only [ar, va_rf, vd, put_F, put_sF] using e
theorem q_M_next_240 (d : Nat) (a : Nat) (σ : Mm) (μ : Ms) (hL : LM σ a)  : run d 147 240 [.ref a] [] (put σ a μ) = if ((μ.1 51) - (μ.1 50)) ≤ 5 then run d 147 259 [.ref a] [.ref a] (put σ a μ) else run d 147 254 [.ref a] [.ref a] (put σ a μ) := by
  have e := e_M_next_240 d a (put σ a μ) (hL.K μ)
  simpa only [ar, va_rf, vd, put_F, put_sF] using e
theorem q_M_next_254 (d : Nat) (a : Nat) (σ : Mm) (μ : Ms) (hL : LM σ a)  : run d 147 254 [.ref a] [(.ref a)] (put σ a μ) = run d 147 261 [.ref a] [.int (23), (.ref a)] (put σ a μ) := by
  have e := e_M_next_254 d a (.ref a) (put σ a μ) 
  simpa only [ar, va_rf, vd, put_F, put_sF] using e
theorem q_M_next_259 (d : Nat) (a : Nat) (σ : Mm) (μ : Ms) (hL : LM σ a)  : run d 147 259 [.ref a] [(.ref a)] (put σ a μ) = run d 147 261 [.ref a] [.int (20), (.ref a)] (put σ a μ) := by
  have e := e_M_next_259 d a (.ref a) (put σ a μ) 
  simpa only [ar, va_rf, vd, put_F, put_sF] using e
theorem q_M_next_261 (d : Nat) (a : Nat) (y0 : Int32) (σ : Mm) (μ : Ms) (hL : LM σ a)  : run d 147 261 [.ref a] [.int (y0), (.ref a)] (put σ a μ) = run d 147 264 [.ref a] [] (put σ a (fF μ 52 y0)) := by
  have e := e_M_next_261 d a y0 (.ref a) (put σ a μ) rfl (hL.K μ)
  simpa only [ar, va_rf, vd, put_F, put_sF] using e
theorem q_M_next_264 (d : Nat) (a : Nat) (σ : Mm) (μ : Ms) (hL : LM σ a)  : run d 147 264 [.ref a] [] (put σ a μ) = run d 147 337 [.ref a] [] (put σ a μ) := by
  have e := e_M_next_264 d a (put σ a μ) 
  simpa only [ar, va_rf, vd, put_F, put_sF] using e
theorem q_M_next_267 (d : Nat) (a : Nat) (σ : Mm) (μ : Ms) (hL : LM σ a) (g0 : ix (μ.1 50) 300 = true) : run d 147 267 [.ref a] [] (put σ a μ) = run d 147 280 [.ref a] [] (put σ a (fF μ 53 (μ.2 39 (μ.1 50 : Int32).toNatClampNeg))) := by
  have e := e_M_next_267 d a (put σ a μ) (hL.K μ) (by simp only [ar, va_rf, vd, put_F, put_sF, pP_39 hL, pK_39 hL, pN_39 hL, pA_39, pS_39]; rfl) (by simp only [ar, va_rf, vd, put_F, put_sF, pP_39 hL, pK_39 hL, pN_39 hL, pA_39, pS_39]; rfl) (by simpa only [ar, va_rf, vd, put_F, put_sF, pP_39 hL, pK_39 hL, pN_39 hL, pA_39, pS_39] using g0)
  simpa only [ar, va_rf, vd, put_F, put_sF, pP_39 hL, pK_39 hL, pN_39 hL, pA_39, pS_39] using e
theorem q_M_next_280 (d : Nat) (a : Nat) (σ : Mm) (μ : Ms) (hL : LM σ a)  : run d 147 280 [.ref a] [] (put σ a μ) = run d 147 290 [.ref a] [] (put σ a (fF μ 51 ((μ.1 51) + 1))) := by
  have e := e_M_next_280 d a (put σ a μ) (hL.K μ)
  simpa only [ar, va_rf, vd, put_F, put_sF] using e
theorem q_M_next_290 (d : Nat) (a : Nat) (σ : Mm) (μ : Ms) (hL : LM σ a)  : run d 147 290 [.ref a] [] (put σ a μ) = if (μ.1 53) = 60 then run d 147 327 [.ref a] [.ref a] (put σ a μ) else run d 147 300 [.ref a] [.ref a] (put σ a μ) := by
  have e := e_M_next_290 d a (put σ a μ) (hL.K μ)
  simpa only [ar, va_rf, vd, put_F, put_sF] using e
theorem q_M_next_300 (d : Nat) (a : Nat) (σ : Mm) (μ : Ms) (hL : LM σ a)  : run d 147 300 [.ref a] [(.ref a)] (put σ a μ) = if (μ.1 53) = 61 then run d 147 327 [.ref a] [(.ref a)] (put σ a μ) else run d 147 309 [.ref a] [(.ref a)] (put σ a μ) := by
  have e := e_M_next_300 d a (.ref a) (put σ a μ) (hL.K μ)
  simpa only [ar, va_rf, vd, put_F, put_sF] using e
theorem q_M_next_309 (d : Nat) (a : Nat) (σ : Mm) (μ : Ms) (hL : LM σ a)  : run d 147 309 [.ref a] [(.ref a)] (put σ a μ) = if (μ.1 53) = 62 then run d 147 327 [.ref a] [(.ref a)] (put σ a μ) else run d 147 318 [.ref a] [(.ref a)] (put σ a μ) := by
  have e := e_M_next_309 d a (.ref a) (put σ a μ) (hL.K μ)
  simpa only [ar, va_rf, vd, put_F, put_sF] using e
theorem q_M_next_318 (d : Nat) (a : Nat) (σ : Mm) (μ : Ms) (hL : LM σ a)  : run d 147 318 [.ref a] [(.ref a)] (put σ a μ) = if ¬ (μ.1 53) = 59 then run d 147 332 [.ref a] [(.ref a)] (put σ a μ) else run d 147 327 [.ref a] [(.ref a)] (put σ a μ) := by
  have e := e_M_next_318 d a (.ref a) (put σ a μ) (hL.K μ)
  simpa only [ar, va_rf, vd, put_F, put_sF] using e
theorem q_M_next_327 (d : Nat) (a : Nat) (σ : Mm) (μ : Ms) (hL : LM σ a)  : run d 147 327 [.ref a] [(.ref a)] (put σ a μ) = run d 147 334 [.ref a] [.int (21), (.ref a)] (put σ a μ) := by
  have e := e_M_next_327 d a (.ref a) (put σ a μ) 
  simpa only [ar, va_rf, vd, put_F, put_sF] using e
theorem q_M_next_332 (d : Nat) (a : Nat) (σ : Mm) (μ : Ms) (hL : LM σ a)  : run d 147 332 [.ref a] [(.ref a)] (put σ a μ) = run d 147 334 [.ref a] [.int (23), (.ref a)] (put σ a μ) := by
  have e := e_M_next_332 d a (.ref a) (put σ a μ) 
  simpa only [ar, va_rf, vd, put_F, put_sF] using e
theorem q_M_next_334 (d : Nat) (a : Nat) (y0 : Int32) (σ : Mm) (μ : Ms) (hL : LM σ a)  : run d 147 334 [.ref a] [.int (y0), (.ref a)] (put σ a μ) = run d 147 337 [.ref a] [] (put σ a (fF μ 52 y0)) := by
  have e := e_M_next_334 d a y0 (.ref a) (put σ a μ) rfl (hL.K μ)
  simpa only [ar, va_rf, vd, put_F, put_sF] using e
theorem q_M_next_337 (d : Nat) (a : Nat) (σ : Mm) (μ : Ms) (hL : LM σ a)  : run d 147 337 [.ref a] [] (put σ a μ) = some (none, (put σ a μ)) := by
  have e := e_M_next_337 d a (put σ a μ) 
  simpa only [ar, va_rf, vd, put_F, put_sF] using e
theorem q_M_blames_0 (d : Nat) (a : Nat) (x1 : Int32) (σ : Mm) (μ : Ms) (hL : LM σ a)  : run d 148 0 [.ref a, .int (x1)] [] (put σ a μ) = if (μ.1 54) ≤ 0 then run d 148 8 [.ref a, .int (x1)] [] (put σ a μ) else run d 148 7 [.ref a, .int (x1)] [] (put σ a μ) := by
  have e := e_M_blames_0 d a x1 (put σ a μ) (hL.K μ)
  simpa only [ar, va_rf, vd, put_F, put_sF] using e
theorem q_M_blames_7 (d : Nat) (a : Nat) (x1 : Int32) (σ : Mm) (μ : Ms) (hL : LM σ a)  : run d 148 7 [.ref a, .int (x1)] [] (put σ a μ) = some (none, (put σ a μ)) := by
  have e := e_M_blames_7 d a x1 (put σ a μ) 
  simpa only [ar, va_rf, vd, put_F, put_sF] using e
theorem q_M_blames_8 (d : Nat) (a : Nat) (x1 : Int32) (σ : Mm) (μ : Ms) (hL : LM σ a)  : run d 148 8 [.ref a, .int (x1)] [] (put σ a μ) = run d 148 13 [.ref a, .int (x1)] [] (put σ a (fF μ 54 x1)) := by
  have e := e_M_blames_8 d a x1 (put σ a μ) (hL.K μ)
  simpa only [ar, va_rf, vd, put_F, put_sF] using e
theorem q_M_blames_13 (d : Nat) (a : Nat) (x1 : Int32) (σ : Mm) (μ : Ms) (hL : LM σ a)  : run d 148 13 [.ref a, .int (x1)] [] (put σ a μ) = run d 148 21 [.ref a, .int (x1)] [] (put σ a (fF μ 55 (μ.1 50))) := by
  have e := e_M_blames_13 d a x1 (put σ a μ) (hL.K μ)
  simpa only [ar, va_rf, vd, put_F, put_sF] using e
theorem q_M_blames_21 (d : Nat) (a : Nat) (x1 : Int32) (σ : Mm) (μ : Ms) (hL : LM σ a)  : run d 148 21 [.ref a, .int (x1)] [] (put σ a μ) = some (none, (put σ a μ)) := by
  have e := e_M_blames_21 d a x1 (put σ a μ) 
  simpa only [ar, va_rf, vd, put_F, put_sF] using e
theorem q_M_takes_0 (d : Nat) (a : Nat) (x1 : Int32) (x2 : Int32) (u3 : Value) (σ : Mm) (μ : Ms) (hL : LM σ a)  : run d 149 0 [.ref a, .int (x1), .int (x2), u3] [] (put σ a μ) = if (μ.1 54) ≤ 0 then run d 149 9 [.ref a, .int (x1), .int (x2), u3] [] (put σ a μ) else run d 149 7 [.ref a, .int (x1), .int (x2), u3] [] (put σ a μ) := by
  have e := e_M_takes_0 d a x1 x2 u3 (put σ a μ) (hL.K μ)
  simpa only [ar, va_rf, vd, put_F, put_sF] using e
theorem q_M_takes_7 (d : Nat) (a : Nat) (x1 : Int32) (x2 : Int32) (u3 : Value) (σ : Mm) (μ : Ms) (hL : LM σ a)  : run d 149 7 [.ref a, .int (x1), .int (x2), u3] [] (put σ a μ) = some (some (.int (0)), (put σ a μ)) := by
  have e := e_M_takes_7 d a x1 x2 u3 (put σ a μ) 
  simpa only [ar, va_rf, vd, put_F, put_sF] using e
theorem q_M_takes_9 (d : Nat) (a : Nat) (x1 : Int32) (x2 : Int32) (u3 : Value) (σ : Mm) (μ : Ms) (hL : LM σ a)  : run (d + 1) 149 9 [.ref a, .int (x1), .int (x2), u3] [] (put σ a μ) = (runc d 115 [.int (μ.1 52), .int (x1), .int (x2)] (put σ a μ)).bind (fun q => run (d + 1) 149 23 [.ref a, .int (x1), .int (x2), .int (μ.1 52)] (psh q.1 []) q.2) := by
  have e := e_M_takes_9 d a x1 x2 u3 (put σ a μ) (hL.K μ)
  simpa only [ar, va_rf, vd, put_F, put_sF] using e
theorem q_M_takes_23 (d : Nat) (a : Nat) (x1 : Int32) (x2 : Int32) (x3 : Int32) (y0 : Int32) (σ : Mm) (μ : Ms) (hL : LM σ a)  : run d 149 23 [.ref a, .int (x1), .int (x2), .int (x3)] [.int (y0)] (put σ a μ) = if ¬ y0 = 0 then run d 149 31 [.ref a, .int (x1), .int (x2), .int (x3)] [] (put σ a μ) else run d 149 26 [.ref a, .int (x1), .int (x2), .int (x3)] [] (put σ a μ) := by
  have e := e_M_takes_23 d a x1 x2 x3 y0 (put σ a μ) 
  simpa only [ar, va_rf, vd, put_F, put_sF] using e
theorem q_M_takes_26 (d : Nat) (a : Nat) (x1 : Int32) (x2 : Int32) (x3 : Int32) (σ : Mm) (μ : Ms) (hL : LM σ a)  : run (d + 1) 149 26 [.ref a, .int (x1), .int (x2), .int (x3)] [] (put σ a μ) = (runc d 148 [.ref a, .int (1)] (put σ a μ)).bind (fun q => run (d + 1) 149 31 [.ref a, .int (x1), .int (x2), .int (x3)] (psh q.1 []) q.2) := by
  have e := e_M_takes_26 d a x1 x2 x3 (put σ a μ) (hL.K μ)
  simpa only [ar, va_rf, vd, put_F, put_sF] using e
theorem q_M_takes_31 (d : Nat) (a : Nat) (x1 : Int32) (x2 : Int32) (x3 : Int32) (σ : Mm) (μ : Ms) (hL : LM σ a)  : run d 149 31 [.ref a, .int (x1), .int (x2), .int (x3)] [] (put σ a μ) = if ¬ (μ.1 54) = 0 then run d 149 42 [.ref a, .int (x1), .int (x2), .int (x3)] [] (put σ a μ) else run d 149 38 [.ref a, .int (x1), .int (x2), .int (x3)] [] (put σ a μ) := by
  have e := e_M_takes_31 d a x1 x2 x3 (put σ a μ) (hL.K μ)
  simpa only [ar, va_rf, vd, put_F, put_sF] using e
theorem q_M_takes_38 (d : Nat) (a : Nat) (x1 : Int32) (x2 : Int32) (x3 : Int32) (σ : Mm) (μ : Ms) (hL : LM σ a)  : run (d + 1) 149 38 [.ref a, .int (x1), .int (x2), .int (x3)] [] (put σ a μ) = (runc d 147 [.ref a] (put σ a μ)).bind (fun q => run (d + 1) 149 42 [.ref a, .int (x1), .int (x2), .int (x3)] (psh q.1 []) q.2) := by
  have e := e_M_takes_38 d a x1 x2 x3 (put σ a μ) (hL.K μ)
  simpa only [ar, va_rf, vd, put_F, put_sF] using e
theorem q_M_takes_42 (d : Nat) (a : Nat) (x1 : Int32) (x2 : Int32) (x3 : Int32) (σ : Mm) (μ : Ms) (hL : LM σ a)  : run d 149 42 [.ref a, .int (x1), .int (x2), .int (x3)] [] (put σ a μ) = some (some (.int (x3)), (put σ a μ)) := by
  have e := e_M_takes_42 d a x1 x2 x3 (put σ a μ) 
  simpa only [ar, va_rf, vd, put_F, put_sF] using e
theorem q_M_numeral_0 (d : Nat) (a : Nat) (u1 : Value) (σ : Mm) (μ : Ms) (hL : LM σ a)  : run (d + 1) 150 0 [.ref a, u1] [] (put σ a μ) = (runc d 149 [.ref a, .int (20), .int (20)] (put σ a μ)).bind (fun q => run (d + 1) 150 13 [.ref a, .int (μ.1 53)] (psh q.1 []) q.2) := by
  have e := e_M_numeral_0 d a u1 (put σ a μ) (hL.K μ)
  simpa only [ar, va_rf, vd, put_F, put_sF] using e
theorem q_M_numeral_13 (d : Nat) (a : Nat) (x1 : Int32) (y0 : Int32) (σ : Mm) (μ : Ms) (hL : LM σ a)  : run d 150 13 [.ref a, .int (x1)] [.int (y0)] (put σ a μ) = if ¬ y0 = 20 then run d 150 22 [.ref a, .int (x1)] [] (put σ a μ) else run d 150 18 [.ref a, .int (x1)] [] (put σ a μ) := by
  have e := e_M_numeral_13 d a x1 y0 (put σ a μ) 
  simpa only [ar, va_rf, vd, put_F, put_sF] using e
theorem q_M_numeral_18 (d : Nat) (a : Nat) (x1 : Int32) (σ : Mm) (μ : Ms) (hL : LM σ a)  : run d 150 18 [.ref a, .int (x1)] [] (put σ a μ) = run d 150 23 [.ref a, .int (x1)] [.int (x1)] (put σ a μ) := by
  have e := e_M_numeral_18 d a x1 (put σ a μ) 
  simpa only [ar, va_rf, vd, put_F, put_sF] using e
theorem q_M_numeral_22 (d : Nat) (a : Nat) (x1 : Int32) (σ : Mm) (μ : Ms) (hL : LM σ a)  : run d 150 22 [.ref a, .int (x1)] [] (put σ a μ) = run d 150 23 [.ref a, .int (x1)] [.int (0)] (put σ a μ) := by
  have e := e_M_numeral_22 d a x1 (put σ a μ) 
  simpa only [ar, va_rf, vd, put_F, put_sF] using e
theorem q_M_numeral_23 (d : Nat) (a : Nat) (x1 : Int32) (y0 : Int32) (σ : Mm) (μ : Ms) (hL : LM σ a)  : run d 150 23 [.ref a, .int (x1)] [.int (y0)] (put σ a μ) = some (some (.int (y0)), (put σ a μ)) := by
  have e := e_M_numeral_23 d a x1 y0 (put σ a μ) 
  simpa only [ar, va_rf, vd, put_F, put_sF] using e
theorem q_M_readTerm_0 (d : Nat) (a : Nat) (x1 : Int32) (x2 : Int32) (u3 : Value) (u4 : Value) (u5 : Value) (u6 : Value) (u7 : Value) (u8 : Value) (σ : Mm) (μ : Ms) (hL : LM σ a)  : run d 151 0 [.ref a, .int (x1), .int (x2), u3, u4, u5, u6, u7, u8] [] (put σ a μ) = if ¬ x2 = 6 then run d 151 33 [.ref a, .int (x1), .int (x2), u3, u4, u5, u6, u7, u8] [] (put σ a μ) else run d 151 6 [.ref a, .int (x1), .int (x2), u3, u4, u5, u6, u7, u8] [] (put σ a μ) := by
  have e := e_M_readTerm_0 d a x1 x2 u3 u4 u5 u6 u7 u8 (put σ a μ) 
  simpa only [ar, va_rf, vd, put_F, put_sF] using e
theorem q_M_readTerm_6 (d : Nat) (a : Nat) (x1 : Int32) (x2 : Int32) (u3 : Value) (u4 : Value) (u5 : Value) (u6 : Value) (u7 : Value) (u8 : Value) (σ : Mm) (μ : Ms) (hL : LM σ a)  : run d 151 6 [.ref a, .int (x1), .int (x2), u3, u4, u5, u6, u7, u8] [] (put σ a μ) = if (μ.1 52) = 13 then run d 151 28 [.ref a, .int (x1), .int (x2), u3, u4, u5, u6, u7, u8] [] (put σ a μ) else run d 151 15 [.ref a, .int (x1), .int (x2), u3, u4, u5, u6, u7, u8] [] (put σ a μ) := by
  have e := e_M_readTerm_6 d a x1 x2 u3 u4 u5 u6 u7 u8 (put σ a μ) (hL.K μ)
  simpa only [ar, va_rf, vd, put_F, put_sF] using e
theorem q_M_readTerm_15 (d : Nat) (a : Nat) (x1 : Int32) (x2 : Int32) (u3 : Value) (u4 : Value) (u5 : Value) (u6 : Value) (u7 : Value) (u8 : Value) (σ : Mm) (μ : Ms) (hL : LM σ a)  : run (d + 1) 151 15 [.ref a, .int (x1), .int (x2), u3, u4, u5, u6, u7, u8] [] (put σ a μ) = (runc d 115 [.int (μ.1 52), .int (0), .int (7)] (put σ a μ)).bind (fun q => run (d + 1) 151 25 [.ref a, .int (x1), .int (x2), u3, u4, u5, u6, u7, u8] (psh q.1 []) q.2) := by
  have e := e_M_readTerm_15 d a x1 x2 u3 u4 u5 u6 u7 u8 (put σ a μ) (hL.K μ)
  simpa only [ar, va_rf, vd, put_F, put_sF] using e
theorem q_M_readTerm_25 (d : Nat) (a : Nat) (x1 : Int32) (x2 : Int32) (u3 : Value) (u4 : Value) (u5 : Value) (u6 : Value) (u7 : Value) (u8 : Value) (y0 : Int32) (σ : Mm) (μ : Ms) (hL : LM σ a)  : run d 151 25 [.ref a, .int (x1), .int (x2), u3, u4, u5, u6, u7, u8] [.int (y0)] (put σ a μ) = if y0 = 0 then run d 151 33 [.ref a, .int (x1), .int (x2), u3, u4, u5, u6, u7, u8] [] (put σ a μ) else run d 151 28 [.ref a, .int (x1), .int (x2), u3, u4, u5, u6, u7, u8] [] (put σ a μ) := by
  have e := e_M_readTerm_25 d a x1 x2 u3 u4 u5 u6 u7 u8 y0 (put σ a μ) 
  simpa only [ar, va_rf, vd, put_F, put_sF] using e
theorem q_M_readTerm_28 (d : Nat) (a : Nat) (x1 : Int32) (x2 : Int32) (u3 : Value) (u4 : Value) (u5 : Value) (u6 : Value) (u7 : Value) (u8 : Value) (σ : Mm) (μ : Ms) (hL : LM σ a)  : run (d + 1) 151 28 [.ref a, .int (x1), .int (x2), u3, u4, u5, u6, u7, u8] [] (put σ a μ) = (runc d 148 [.ref a, .int (3)] (put σ a μ)).bind (fun q => run (d + 1) 151 33 [.ref a, .int (x1), .int (x2), u3, u4, u5, u6, u7, u8] (psh q.1 []) q.2) := by
  have e := e_M_readTerm_28 d a x1 x2 u3 u4 u5 u6 u7 u8 (put σ a μ) (hL.K μ)
  simpa only [ar, va_rf, vd, put_F, put_sF] using e
theorem q_M_readTerm_33 (d : Nat) (a : Nat) (x1 : Int32) (x2 : Int32) (u3 : Value) (u4 : Value) (u5 : Value) (u6 : Value) (u7 : Value) (u8 : Value) (σ : Mm) (μ : Ms) (hL : LM σ a)  : run d 151 33 [.ref a, .int (x1), .int (x2), u3, u4, u5, u6, u7, u8] [] (put σ a μ) = if ¬ (μ.1 54) = 0 then run d 151 53 [.ref a, .int (x1), .int (x2), u3, u4, u5, u6, u7, u8] [] (put σ a μ) else run d 151 40 [.ref a, .int (x1), .int (x2), u3, u4, u5, u6, u7, u8] [] (put σ a μ) := by
  have e := e_M_readTerm_33 d a x1 x2 u3 u4 u5 u6 u7 u8 (put σ a μ) (hL.K μ)
  simpa only [ar, va_rf, vd, put_F, put_sF] using e
theorem q_M_readTerm_40 (d : Nat) (a : Nat) (x1 : Int32) (x2 : Int32) (u3 : Value) (u4 : Value) (u5 : Value) (u6 : Value) (u7 : Value) (u8 : Value) (σ : Mm) (μ : Ms) (hL : LM σ a)  : run d 151 40 [.ref a, .int (x1), .int (x2), u3, u4, u5, u6, u7, u8] [] (put σ a μ) = if ¬ (μ.1 52) = 13 then run d 151 53 [.ref a, .int (x1), .int (x2), u3, u4, u5, u6, u7, u8] [] (put σ a μ) else run d 151 49 [.ref a, .int (x1), .int (x2), u3, u4, u5, u6, u7, u8] [] (put σ a μ) := by
  have e := e_M_readTerm_40 d a x1 x2 u3 u4 u5 u6 u7 u8 (put σ a μ) (hL.K μ)
  simpa only [ar, va_rf, vd, put_F, put_sF] using e
theorem q_M_readTerm_49 (d : Nat) (a : Nat) (x1 : Int32) (x2 : Int32) (u3 : Value) (u4 : Value) (u5 : Value) (u6 : Value) (u7 : Value) (u8 : Value) (σ : Mm) (μ : Ms) (hL : LM σ a)  : run d 151 49 [.ref a, .int (x1), .int (x2), u3, u4, u5, u6, u7, u8] [] (put σ a μ) = run d 151 54 [.ref a, .int (x1), .int (x2), u3, u4, u5, u6, u7, u8] [.int (1)] (put σ a μ) := by
  have e := e_M_readTerm_49 d a x1 x2 u3 u4 u5 u6 u7 u8 (put σ a μ) 
  simpa only [ar, va_rf, vd, put_F, put_sF] using e
theorem q_M_readTerm_53 (d : Nat) (a : Nat) (x1 : Int32) (x2 : Int32) (u3 : Value) (u4 : Value) (u5 : Value) (u6 : Value) (u7 : Value) (u8 : Value) (σ : Mm) (μ : Ms) (hL : LM σ a)  : run d 151 53 [.ref a, .int (x1), .int (x2), u3, u4, u5, u6, u7, u8] [] (put σ a μ) = run d 151 54 [.ref a, .int (x1), .int (x2), u3, u4, u5, u6, u7, u8] [.int (0)] (put σ a μ) := by
  have e := e_M_readTerm_53 d a x1 x2 u3 u4 u5 u6 u7 u8 (put σ a μ) 
  simpa only [ar, va_rf, vd, put_F, put_sF] using e
theorem q_M_readTerm_54 (d : Nat) (a : Nat) (x1 : Int32) (x2 : Int32) (u3 : Value) (u4 : Value) (u5 : Value) (u6 : Value) (u7 : Value) (u8 : Value) (y0 : Int32) (σ : Mm) (μ : Ms) (hL : LM σ a)  : run d 151 54 [.ref a, .int (x1), .int (x2), u3, u4, u5, u6, u7, u8] [.int (y0)] (put σ a μ) = if y0 = 0 then run d 151 63 [.ref a, .int (x1), .int (x2), .int (y0), u4, u5, u6, u7, u8] [] (put σ a μ) else run d 151 59 [.ref a, .int (x1), .int (x2), .int (y0), u4, u5, u6, u7, u8] [] (put σ a μ) := by
  have e := e_M_readTerm_54 d a x1 x2 u3 u4 u5 u6 u7 u8 y0 (put σ a μ) 
  simpa only [ar, va_rf, vd, put_F, put_sF] using e
theorem q_M_readTerm_59 (d : Nat) (a : Nat) (x1 : Int32) (x2 : Int32) (x3 : Int32) (u4 : Value) (u5 : Value) (u6 : Value) (u7 : Value) (u8 : Value) (σ : Mm) (μ : Ms) (hL : LM σ a)  : run (d + 1) 151 59 [.ref a, .int (x1), .int (x2), .int (x3), u4, u5, u6, u7, u8] [] (put σ a μ) = (runc d 147 [.ref a] (put σ a μ)).bind (fun q => run (d + 1) 151 63 [.ref a, .int (x1), .int (x2), .int (x3), u4, u5, u6, u7, u8] (psh q.1 []) q.2) := by
  have e := e_M_readTerm_59 d a x1 x2 x3 u4 u5 u6 u7 u8 (put σ a μ) (hL.K μ)
  simpa only [ar, va_rf, vd, put_F, put_sF] using e
theorem q_M_readTerm_63 (d : Nat) (a : Nat) (x1 : Int32) (x2 : Int32) (x3 : Int32) (u4 : Value) (u5 : Value) (u6 : Value) (u7 : Value) (u8 : Value) (σ : Mm) (μ : Ms) (hL : LM σ a)  : run (d + 1) 151 63 [.ref a, .int (x1), .int (x2), .int (x3), u4, u5, u6, u7, u8] [] (put σ a μ) = (runc d 149 [.ref a, .int (0), .int (7)] (put σ a μ)).bind (fun q => run (d + 1) 151 70 [.ref a, .int (x1), .int (x2), .int (x3), u4, u5, u6, u7, u8] (psh q.1 []) q.2) := by
  have e := e_M_readTerm_63 d a x1 x2 x3 u4 u5 u6 u7 u8 (put σ a μ) (hL.K μ)
  simpa only [ar, va_rf, vd, put_F, put_sF] using e
theorem q_M_readTerm_70 (d : Nat) (a : Nat) (x1 : Int32) (x2 : Int32) (x3 : Int32) (u4 : Value) (u5 : Value) (u6 : Value) (u7 : Value) (u8 : Value) (y0 : Int32) (σ : Mm) (μ : Ms) (hL : LM σ a)  : run d 151 70 [.ref a, .int (x1), .int (x2), .int (x3), u4, u5, u6, u7, u8] [.int (y0)] (put σ a μ) = if ¬ (μ.1 54) = 0 then run d 151 106 [.ref a, .int (x1), .int (x2), .int (x3), .int (y0), .int (μ.1 53), u6, u7, u8] [] (put σ a μ) else run d 151 85 [.ref a, .int (x1), .int (x2), .int (x3), .int (y0), .int (μ.1 53), u6, u7, u8] [] (put σ a μ) := by
  have e := e_M_readTerm_70 d a x1 x2 x3 u4 u5 u6 u7 u8 y0 (put σ a μ) (hL.K μ)
  simpa only [ar, va_rf, vd, put_F, put_sF] using e
theorem q_M_readTerm_85 (d : Nat) (a : Nat) (x1 : Int32) (x2 : Int32) (x3 : Int32) (x4 : Int32) (x5 : Int32) (u6 : Value) (u7 : Value) (u8 : Value) (σ : Mm) (μ : Ms) (hL : LM σ a)  : run d 151 85 [.ref a, .int (x1), .int (x2), .int (x3), .int (x4), .int (x5), u6, u7, u8] [] (put σ a μ) = if ¬ (μ.1 52) = 21 then run d 151 106 [.ref a, .int (x1), .int (x2), .int (x3), .int (x4), .int (x5), u6, u7, u8] [] (put σ a μ) else run d 151 94 [.ref a, .int (x1), .int (x2), .int (x3), .int (x4), .int (x5), u6, u7, u8] [] (put σ a μ) := by
  have e := e_M_readTerm_85 d a x1 x2 x3 x4 x5 u6 u7 u8 (put σ a μ) (hL.K μ)
  simpa only [ar, va_rf, vd, put_F, put_sF] using e
theorem q_M_readTerm_94 (d : Nat) (a : Nat) (x1 : Int32) (x2 : Int32) (x3 : Int32) (x4 : Int32) (x5 : Int32) (u6 : Value) (u7 : Value) (u8 : Value) (σ : Mm) (μ : Ms) (hL : LM σ a)  : run d 151 94 [.ref a, .int (x1), .int (x2), .int (x3), .int (x4), .int (x5), u6, u7, u8] [] (put σ a μ) = if ¬ x5 = 59 then run d 151 106 [.ref a, .int (x1), .int (x2), .int (x3), .int (x4), .int (x5), u6, u7, u8] [] (put σ a μ) else run d 151 101 [.ref a, .int (x1), .int (x2), .int (x3), .int (x4), .int (x5), u6, u7, u8] [] (put σ a μ) := by
  have e := e_M_readTerm_94 d a x1 x2 x3 x4 x5 u6 u7 u8 (put σ a μ) 
  simpa only [ar, va_rf, vd, put_F, put_sF] using e
theorem q_M_readTerm_101 (d : Nat) (a : Nat) (x1 : Int32) (x2 : Int32) (x3 : Int32) (x4 : Int32) (x5 : Int32) (u6 : Value) (u7 : Value) (u8 : Value) (σ : Mm) (μ : Ms) (hL : LM σ a)  : run (d + 1) 151 101 [.ref a, .int (x1), .int (x2), .int (x3), .int (x4), .int (x5), u6, u7, u8] [] (put σ a μ) = (runc d 148 [.ref a, .int (1)] (put σ a μ)).bind (fun q => run (d + 1) 151 106 [.ref a, .int (x1), .int (x2), .int (x3), .int (x4), .int (x5), u6, u7, u8] (psh q.1 []) q.2) := by
  have e := e_M_readTerm_101 d a x1 x2 x3 x4 x5 u6 u7 u8 (put σ a μ) (hL.K μ)
  simpa only [ar, va_rf, vd, put_F, put_sF] using e
theorem q_M_readTerm_106 (d : Nat) (a : Nat) (x1 : Int32) (x2 : Int32) (x3 : Int32) (x4 : Int32) (x5 : Int32) (u6 : Value) (u7 : Value) (u8 : Value) (σ : Mm) (μ : Ms) (hL : LM σ a)  : run (d + 1) 151 106 [.ref a, .int (x1), .int (x2), .int (x3), .int (x4), .int (x5), u6, u7, u8] [] (put σ a μ) = (runc d 149 [.ref a, .int (21), .int (21)] (put σ a μ)).bind (fun q => run (d + 1) 151 114 [.ref a, .int (x1), .int (x2), .int (x3), .int (x4), .int (x5), u6, u7, u8] (psh q.1 []) q.2) := by
  have e := e_M_readTerm_106 d a x1 x2 x3 x4 x5 u6 u7 u8 (put σ a μ) (hL.K μ)
  simpa only [ar, va_rf, vd, put_F, put_sF] using e
theorem q_M_readTerm_114 (d : Nat) (a : Nat) (x1 : Int32) (x2 : Int32) (x3 : Int32) (x4 : Int32) (x5 : Int32) (u6 : Value) (u7 : Value) (u8 : Value) (y0 : Int32) (σ : Mm) (μ : Ms) (hL : LM σ a)  : run (d + 1) 151 114 [.ref a, .int (x1), .int (x2), .int (x3), .int (x4), .int (x5), u6, u7, u8] [.int (y0)] (put σ a μ) = (runc d 150 [.ref a] (put σ a μ)).bind (fun q => run (d + 1) 151 120 [.ref a, .int (x1), .int (x2), .int (x3), .int (x4), .int (x5), .int (y0), u7, u8] (psh q.1 []) q.2) := by
  have e := e_M_readTerm_114 d a x1 x2 x3 x4 x5 u6 u7 u8 y0 (put σ a μ) (hL.K μ)
  simpa only [ar, va_rf, vd, put_F, put_sF] using e
theorem q_M_readTerm_120 (d : Nat) (a : Nat) (x1 : Int32) (x2 : Int32) (x3 : Int32) (x4 : Int32) (x5 : Int32) (x6 : Int32) (u7 : Value) (u8 : Value) (y0 : Int32) (σ : Mm) (μ : Ms) (hL : LM σ a)  : run d 151 120 [.ref a, .int (x1), .int (x2), .int (x3), .int (x4), .int (x5), .int (x6), u7, u8] [.int (y0)] (put σ a μ) = if (μ.1 54) ≤ 0 then run d 151 130 [.ref a, .int (x1), .int (x2), .int (x3), .int (x4), .int (x5), .int (x6), .int (y0), u8] [] (put σ a μ) else run d 151 129 [.ref a, .int (x1), .int (x2), .int (x3), .int (x4), .int (x5), .int (x6), .int (y0), u8] [] (put σ a μ) := by
  have e := e_M_readTerm_120 d a x1 x2 x3 x4 x5 x6 u7 u8 y0 (put σ a μ) (hL.K μ)
  simpa only [ar, va_rf, vd, put_F, put_sF] using e
theorem q_M_readTerm_129 (d : Nat) (a : Nat) (x1 : Int32) (x2 : Int32) (x3 : Int32) (x4 : Int32) (x5 : Int32) (x6 : Int32) (x7 : Int32) (u8 : Value) (σ : Mm) (μ : Ms) (hL : LM σ a)  : run d 151 129 [.ref a, .int (x1), .int (x2), .int (x3), .int (x4), .int (x5), .int (x6), .int (x7), u8] [] (put σ a μ) = some (none, (put σ a μ)) := by
  have e := e_M_readTerm_129 d a x1 x2 x3 x4 x5 x6 x7 u8 (put σ a μ) 
  simpa only [ar, va_rf, vd, put_F, put_sF] using e
theorem q_M_readTerm_130 (d : Nat) (a : Nat) (x1 : Int32) (x2 : Int32) (x3 : Int32) (x4 : Int32) (x5 : Int32) (x6 : Int32) (x7 : Int32) (u8 : Value) (σ : Mm) (μ : Ms) (hL : LM σ a)  : run d 151 130 [.ref a, .int (x1), .int (x2), .int (x3), .int (x4), .int (x5), .int (x6), .int (x7), u8] [] (put σ a μ) = if x3 = 0 then run d 151 154 [.ref a, .int (x1), .int (x2), .int (x3), .int (x4), .int (x5), .int (x6), .int (x7), .int ((24 * x1) + (4 * x2))] [.int ((24 * x1) + (4 * x2)), (.ref (a + 40))] (put σ a μ) else run d 151 150 [.ref a, .int (x1), .int (x2), .int (x3), .int (x4), .int (x5), .int (x6), .int (x7), .int ((24 * x1) + (4 * x2))] [.int ((24 * x1) + (4 * x2)), (.ref (a + 40))] (put σ a μ) := by
  have e := e_M_readTerm_130 d a x1 x2 x3 x4 x5 x6 x7 u8 (put σ a μ) (hL.K μ)
  simpa only [ar, va_rf, vd, put_F, put_sF, pP_49 hL, pK_49 hL, pN_49 hL, pA_49, pS_49] using e
theorem q_M_readTerm_150 (d : Nat) (a : Nat) (x1 : Int32) (x2 : Int32) (x3 : Int32) (x4 : Int32) (x5 : Int32) (x6 : Int32) (x7 : Int32) (x8 : Int32) (y0 : Int32) (σ : Mm) (μ : Ms) (hL : LM σ a)  : run d 151 150 [.ref a, .int (x1), .int (x2), .int (x3), .int (x4), .int (x5), .int (x6), .int (x7), .int (x8)] [.int (y0), (.ref (a + 40))] (put σ a μ) = run d 151 155 [.ref a, .int (x1), .int (x2), .int (x3), .int (x4), .int (x5), .int (x6), .int (x7), .int (x8)] [.int (1), .int (y0), (.ref (a + 40))] (put σ a μ) := by
  have e := e_M_readTerm_150 d a x1 x2 x3 x4 x5 x6 x7 x8 y0 (.ref (a + 40)) (put σ a μ) 
  simpa only [ar, va_rf, vd, put_F, put_sF, pP_49 hL, pK_49 hL, pN_49 hL, pA_49, pS_49] using e
theorem q_M_readTerm_154 (d : Nat) (a : Nat) (x1 : Int32) (x2 : Int32) (x3 : Int32) (x4 : Int32) (x5 : Int32) (x6 : Int32) (x7 : Int32) (x8 : Int32) (y0 : Int32) (σ : Mm) (μ : Ms) (hL : LM σ a)  : run d 151 154 [.ref a, .int (x1), .int (x2), .int (x3), .int (x4), .int (x5), .int (x6), .int (x7), .int (x8)] [.int (y0), (.ref (a + 40))] (put σ a μ) = run d 151 155 [.ref a, .int (x1), .int (x2), .int (x3), .int (x4), .int (x5), .int (x6), .int (x7), .int (x8)] [.int (0), .int (y0), (.ref (a + 40))] (put σ a μ) := by
  have e := e_M_readTerm_154 d a x1 x2 x3 x4 x5 x6 x7 x8 y0 (.ref (a + 40)) (put σ a μ) 
  simpa only [ar, va_rf, vd, put_F, put_sF, pP_49 hL, pK_49 hL, pN_49 hL, pA_49, pS_49] using e
theorem q_M_readTerm_155 (d : Nat) (a : Nat) (x1 : Int32) (x2 : Int32) (x3 : Int32) (x4 : Int32) (x5 : Int32) (x6 : Int32) (x7 : Int32) (x8 : Int32) (y0 : Int32) (y1 : Int32) (σ : Mm) (μ : Ms) (hL : LM σ a) (g0 : ix y1 408 = true) : run d 151 155 [.ref a, .int (x1), .int (x2), .int (x3), .int (x4), .int (x5), .int (x6), .int (x7), .int (x8)] [.int (y0), .int (y1), (.ref (a + 40))] (put σ a μ) = run d 151 156 [.ref a, .int (x1), .int (x2), .int (x3), .int (x4), .int (x5), .int (x6), .int (x7), .int (x8)] [] (put σ a (fA μ 49 ((y1 : Int32).toNatClampNeg) y0)) := by
  have e := e_M_readTerm_155 d a x1 x2 x3 x4 x5 x6 x7 x8 y0 y1 (.ref (a + 40)) (put σ a μ) rfl (by simp only [ar, va_rf, vd, put_F, put_sF, pP_49 hL, pK_49 hL, pN_49 hL, pA_49, pS_49]; rfl) (by simpa only [ar, va_rf, vd, put_F, put_sF, pP_49 hL, pK_49 hL, pN_49 hL, pA_49, pS_49] using g0)
  simpa only [ar, va_rf, vd, put_F, put_sF, pP_49 hL, pK_49 hL, pN_49 hL, pA_49, pS_49] using e
theorem q_M_readTerm_156 (d : Nat) (a : Nat) (x1 : Int32) (x2 : Int32) (x3 : Int32) (x4 : Int32) (x5 : Int32) (x6 : Int32) (x7 : Int32) (x8 : Int32) (σ : Mm) (μ : Ms) (hL : LM σ a) (g0 : ix (x8 + 1) 408 = true) : run d 151 156 [.ref a, .int (x1), .int (x2), .int (x3), .int (x4), .int (x5), .int (x6), .int (x7), .int (x8)] [] (put σ a μ) = run d 151 167 [.ref a, .int (x1), .int (x2), .int (x3), .int (x4), .int (x5), .int (x6), .int (x7), .int (x8)] [] (put σ a (fA μ 49 ((x8 + 1 : Int32).toNatClampNeg) x4)) := by
  have e := e_M_readTerm_156 d a x1 x2 x3 x4 x5 x6 x7 x8 (put σ a μ) (hL.K μ) (by simp only [ar, va_rf, vd, put_F, put_sF, pP_49 hL, pK_49 hL, pN_49 hL, pA_49, pS_49]; rfl) (by simp only [ar, va_rf, vd, put_F, put_sF, pP_49 hL, pK_49 hL, pN_49 hL, pA_49, pS_49]; rfl) (by simpa only [ar, va_rf, vd, put_F, put_sF, pP_49 hL, pK_49 hL, pN_49 hL, pA_49, pS_49] using g0)
  simpa only [ar, va_rf, vd, put_F, put_sF, pP_49 hL, pK_49 hL, pN_49 hL, pA_49, pS_49] using e
theorem q_M_readTerm_167 (d : Nat) (a : Nat) (x1 : Int32) (x2 : Int32) (x3 : Int32) (x4 : Int32) (x5 : Int32) (x6 : Int32) (x7 : Int32) (x8 : Int32) (σ : Mm) (μ : Ms) (hL : LM σ a) (g0 : ix (x8 + 2) 408 = true) : run d 151 167 [.ref a, .int (x1), .int (x2), .int (x3), .int (x4), .int (x5), .int (x6), .int (x7), .int (x8)] [] (put σ a μ) = run d 151 178 [.ref a, .int (x1), .int (x2), .int (x3), .int (x4), .int (x5), .int (x6), .int (x7), .int (x8)] [] (put σ a (fA μ 49 ((x8 + 2 : Int32).toNatClampNeg) x5)) := by
  have e := e_M_readTerm_167 d a x1 x2 x3 x4 x5 x6 x7 x8 (put σ a μ) (hL.K μ) (by simp only [ar, va_rf, vd, put_F, put_sF, pP_49 hL, pK_49 hL, pN_49 hL, pA_49, pS_49]; rfl) (by simp only [ar, va_rf, vd, put_F, put_sF, pP_49 hL, pK_49 hL, pN_49 hL, pA_49, pS_49]; rfl) (by simpa only [ar, va_rf, vd, put_F, put_sF, pP_49 hL, pK_49 hL, pN_49 hL, pA_49, pS_49] using g0)
  simpa only [ar, va_rf, vd, put_F, put_sF, pP_49 hL, pK_49 hL, pN_49 hL, pA_49, pS_49] using e
theorem q_M_readTerm_178 (d : Nat) (a : Nat) (x1 : Int32) (x2 : Int32) (x3 : Int32) (x4 : Int32) (x5 : Int32) (x6 : Int32) (x7 : Int32) (x8 : Int32) (σ : Mm) (μ : Ms) (hL : LM σ a) (g0 : ix (x8 + 3) 408 = true) : run d 151 178 [.ref a, .int (x1), .int (x2), .int (x3), .int (x4), .int (x5), .int (x6), .int (x7), .int (x8)] [] (put σ a μ) = run d 151 189 [.ref a, .int (x1), .int (x2), .int (x3), .int (x4), .int (x5), .int (x6), .int (x7), .int (x8)] [] (put σ a (fA μ 49 ((x8 + 3 : Int32).toNatClampNeg) x7)) := by
  have e := e_M_readTerm_178 d a x1 x2 x3 x4 x5 x6 x7 x8 (put σ a μ) (hL.K μ) (by simp only [ar, va_rf, vd, put_F, put_sF, pP_49 hL, pK_49 hL, pN_49 hL, pA_49, pS_49]; rfl) (by simp only [ar, va_rf, vd, put_F, put_sF, pP_49 hL, pK_49 hL, pN_49 hL, pA_49, pS_49]; rfl) (by simpa only [ar, va_rf, vd, put_F, put_sF, pP_49 hL, pK_49 hL, pN_49 hL, pA_49, pS_49] using g0)
  simpa only [ar, va_rf, vd, put_F, put_sF, pP_49 hL, pK_49 hL, pN_49 hL, pA_49, pS_49] using e
theorem q_M_readTerm_189 (d : Nat) (a : Nat) (x1 : Int32) (x2 : Int32) (x3 : Int32) (x4 : Int32) (x5 : Int32) (x6 : Int32) (x7 : Int32) (x8 : Int32) (σ : Mm) (μ : Ms) (hL : LM σ a) (g0 : ix x1 17 = true) : run d 151 189 [.ref a, .int (x1), .int (x2), .int (x3), .int (x4), .int (x5), .int (x6), .int (x7), .int (x8)] [] (put σ a μ) = run d 151 198 [.ref a, .int (x1), .int (x2), .int (x3), .int (x4), .int (x5), .int (x6), .int (x7), .int (x8)] [] (put σ a (fA μ 48 ((x1 : Int32).toNatClampNeg) (x2 + 1))) := by
  have e := e_M_readTerm_189 d a x1 x2 x3 x4 x5 x6 x7 x8 (put σ a μ) (hL.K μ) (by simp only [ar, va_rf, vd, put_F, put_sF, pP_48 hL, pK_48 hL, pN_48 hL, pA_48, pS_48]; rfl) (by simp only [ar, va_rf, vd, put_F, put_sF, pP_48 hL, pK_48 hL, pN_48 hL, pA_48, pS_48]; rfl) (by simpa only [ar, va_rf, vd, put_F, put_sF, pP_48 hL, pK_48 hL, pN_48 hL, pA_48, pS_48] using g0)
  simpa only [ar, va_rf, vd, put_F, put_sF, pP_48 hL, pK_48 hL, pN_48 hL, pA_48, pS_48] using e
theorem q_M_readTerm_198 (d : Nat) (a : Nat) (x1 : Int32) (x2 : Int32) (x3 : Int32) (x4 : Int32) (x5 : Int32) (x6 : Int32) (x7 : Int32) (x8 : Int32) (σ : Mm) (μ : Ms) (hL : LM σ a)  : run d 151 198 [.ref a, .int (x1), .int (x2), .int (x3), .int (x4), .int (x5), .int (x6), .int (x7), .int (x8)] [] (put σ a μ) = some (none, (put σ a μ)) := by
  have e := e_M_readTerm_198 d a x1 x2 x3 x4 x5 x6 x7 x8 (put σ a μ) 
  simpa only [ar, va_rf, vd, put_F, put_sF] using e
theorem q_M_readLine_0 (d : Nat) (a : Nat) (x1 : Int32) (u2 : Value) (u3 : Value) (σ : Mm) (μ : Ms) (hL : LM σ a)  : run d 152 0 [.ref a, .int (x1), u2, u3] [] (put σ a μ) = if ¬ x1 = 16 then run d 152 25 [.ref a, .int (x1), u2, u3] [] (put σ a μ) else run d 152 6 [.ref a, .int (x1), u2, u3] [] (put σ a μ) := by
  have e := e_M_readLine_0 d a x1 u2 u3 (put σ a μ) 
  simpa only [ar, va_rf, vd, put_F, put_sF] using e
theorem q_M_readLine_6 (d : Nat) (a : Nat) (x1 : Int32) (u2 : Value) (u3 : Value) (σ : Mm) (μ : Ms) (hL : LM σ a)  : run (d + 1) 152 6 [.ref a, .int (x1), u2, u3] [] (put σ a μ) = (runc d 115 [.int (μ.1 52), .int (8), .int (9)] (put σ a μ)).bind (fun q => run (d + 1) 152 17 [.ref a, .int (x1), u2, u3] (psh q.1 []) q.2) := by
  have e := e_M_readLine_6 d a x1 u2 u3 (put σ a μ) (hL.K μ)
  simpa only [ar, va_rf, vd, put_F, put_sF] using e
theorem q_M_readLine_17 (d : Nat) (a : Nat) (x1 : Int32) (u2 : Value) (u3 : Value) (y0 : Int32) (σ : Mm) (μ : Ms) (hL : LM σ a)  : run d 152 17 [.ref a, .int (x1), u2, u3] [.int (y0)] (put σ a μ) = if y0 = 0 then run d 152 25 [.ref a, .int (x1), u2, u3] [] (put σ a μ) else run d 152 20 [.ref a, .int (x1), u2, u3] [] (put σ a μ) := by
  have e := e_M_readLine_17 d a x1 u2 u3 y0 (put σ a μ) 
  simpa only [ar, va_rf, vd, put_F, put_sF] using e
theorem q_M_readLine_20 (d : Nat) (a : Nat) (x1 : Int32) (u2 : Value) (u3 : Value) (σ : Mm) (μ : Ms) (hL : LM σ a)  : run (d + 1) 152 20 [.ref a, .int (x1), u2, u3] [] (put σ a μ) = (runc d 148 [.ref a, .int (2)] (put σ a μ)).bind (fun q => run (d + 1) 152 25 [.ref a, .int (x1), u2, u3] (psh q.1 []) q.2) := by
  have e := e_M_readLine_20 d a x1 u2 u3 (put σ a μ) (hL.K μ)
  simpa only [ar, va_rf, vd, put_F, put_sF] using e
theorem q_M_readLine_25 (d : Nat) (a : Nat) (x1 : Int32) (u2 : Value) (u3 : Value) (σ : Mm) (μ : Ms) (hL : LM σ a)  : run (d + 1) 152 25 [.ref a, .int (x1), u2, u3] [] (put σ a μ) = (runc d 149 [.ref a, .int (8), .int (9)] (put σ a μ)).bind (fun q => run (d + 1) 152 38 [.ref a, .int (x1), u2, u3] (psh q.1 [.int (x1), (.ref (a + 37))]) q.2) := by
  have e := e_M_readLine_25 d a x1 u2 u3 (put σ a μ) (hL.K μ)
  simpa only [ar, va_rf, vd, put_F, put_sF, pP_46 hL, pK_46 hL, pN_46 hL, pA_46, pS_46] using e
theorem q_M_readLine_38 (d : Nat) (a : Nat) (x1 : Int32) (u2 : Value) (u3 : Value) (y0 : Int32) (y1 : Int32) (σ : Mm) (μ : Ms) (hL : LM σ a)  : run d 152 38 [.ref a, .int (x1), u2, u3] [.int (y0), .int (y1), (.ref (a + 37))] (put σ a μ) = if ¬ y0 = 9 then run d 152 47 [.ref a, .int (x1), u2, u3] [.int (y1), (.ref (a + 37))] (put σ a μ) else run d 152 43 [.ref a, .int (x1), u2, u3] [.int (y1), (.ref (a + 37))] (put σ a μ) := by
  have e := e_M_readLine_38 d a x1 u2 u3 y0 y1 (.ref (a + 37)) (put σ a μ) 
  simpa only [ar, va_rf, vd, put_F, put_sF, pP_46 hL, pK_46 hL, pN_46 hL, pA_46, pS_46] using e
theorem q_M_readLine_43 (d : Nat) (a : Nat) (x1 : Int32) (u2 : Value) (u3 : Value) (y0 : Int32) (σ : Mm) (μ : Ms) (hL : LM σ a)  : run d 152 43 [.ref a, .int (x1), u2, u3] [.int (y0), (.ref (a + 37))] (put σ a μ) = run d 152 48 [.ref a, .int (x1), u2, u3] [.int (1), .int (y0), (.ref (a + 37))] (put σ a μ) := by
  have e := e_M_readLine_43 d a x1 u2 u3 y0 (.ref (a + 37)) (put σ a μ) 
  simpa only [ar, va_rf, vd, put_F, put_sF, pP_46 hL, pK_46 hL, pN_46 hL, pA_46, pS_46] using e
theorem q_M_readLine_47 (d : Nat) (a : Nat) (x1 : Int32) (u2 : Value) (u3 : Value) (y0 : Int32) (σ : Mm) (μ : Ms) (hL : LM σ a)  : run d 152 47 [.ref a, .int (x1), u2, u3] [.int (y0), (.ref (a + 37))] (put σ a μ) = run d 152 48 [.ref a, .int (x1), u2, u3] [.int (0), .int (y0), (.ref (a + 37))] (put σ a μ) := by
  have e := e_M_readLine_47 d a x1 u2 u3 y0 (.ref (a + 37)) (put σ a μ) 
  simpa only [ar, va_rf, vd, put_F, put_sF, pP_46 hL, pK_46 hL, pN_46 hL, pA_46, pS_46] using e
theorem q_M_readLine_48 (d : Nat) (a : Nat) (x1 : Int32) (u2 : Value) (u3 : Value) (y0 : Int32) (y1 : Int32) (σ : Mm) (μ : Ms) (hL : LM σ a) (g0 : (y0 : Int32) = 0 ∨ y0 = 1) (g1 : ix y1 17 = true) : run d 152 48 [.ref a, .int (x1), u2, u3] [.int (y0), .int (y1), (.ref (a + 37))] (put σ a μ) = run d 152 49 [.ref a, .int (x1), u2, u3] [] (put σ a (fA μ 46 ((y1 : Int32).toNatClampNeg) y0)) := by
  have e := e_M_readLine_48 d a x1 u2 u3 y0 y1 (.ref (a + 37)) (put σ a μ) rfl (by simp only [ar, va_rf, vd, put_F, put_sF, pP_46 hL, pK_46 hL, pN_46 hL, pA_46, pS_46]; rfl) (by simpa only [ar, va_rf, vd, put_F, put_sF, pP_46 hL, pK_46 hL, pN_46 hL, pA_46, pS_46] using g0) (by simpa only [ar, va_rf, vd, put_F, put_sF, pP_46 hL, pK_46 hL, pN_46 hL, pA_46, pS_46] using g1)
  simpa only [ar, va_rf, vd, put_F, put_sF, pP_46 hL, pK_46 hL, pN_46 hL, pA_46, pS_46] using e
theorem q_M_readLine_49 (d : Nat) (a : Nat) (x1 : Int32) (u2 : Value) (u3 : Value) (σ : Mm) (μ : Ms) (hL : LM σ a) (g0 : ix x1 17 = true) : run d 152 49 [.ref a, .int (x1), u2, u3] [] (put σ a μ) = run d 152 56 [.ref a, .int (x1), u2, u3] [] (put σ a (fA μ 47 ((x1 : Int32).toNatClampNeg) ((-1)))) := by
  have e := e_M_readLine_49 d a x1 u2 u3 (put σ a μ) (hL.K μ) (by simp only [ar, va_rf, vd, put_F, put_sF, pP_47 hL, pK_47 hL, pN_47 hL, pA_47, pS_47]; rfl) (by simp only [ar, va_rf, vd, put_F, put_sF, pP_47 hL, pK_47 hL, pN_47 hL, pA_47, pS_47]; rfl) (by simpa only [ar, va_rf, vd, put_F, put_sF, pP_47 hL, pK_47 hL, pN_47 hL, pA_47, pS_47] using g0)
  simpa only [ar, va_rf, vd, put_F, put_sF, pP_47 hL, pK_47 hL, pN_47 hL, pA_47, pS_47] using e
theorem q_M_readLine_56 (d : Nat) (a : Nat) (x1 : Int32) (u2 : Value) (u3 : Value) (σ : Mm) (μ : Ms) (hL : LM σ a) (g0 : ix x1 17 = true) : run d 152 56 [.ref a, .int (x1), u2, u3] [] (put σ a μ) = run d 152 63 [.ref a, .int (x1), u2, u3] [] (put σ a (fA μ 48 ((x1 : Int32).toNatClampNeg) 0)) := by
  have e := e_M_readLine_56 d a x1 u2 u3 (put σ a μ) (hL.K μ) (by simp only [ar, va_rf, vd, put_F, put_sF, pP_48 hL, pK_48 hL, pN_48 hL, pA_48, pS_48]; rfl) (by simp only [ar, va_rf, vd, put_F, put_sF, pP_48 hL, pK_48 hL, pN_48 hL, pA_48, pS_48]; rfl) (by simpa only [ar, va_rf, vd, put_F, put_sF, pP_48 hL, pK_48 hL, pN_48 hL, pA_48, pS_48] using g0)
  simpa only [ar, va_rf, vd, put_F, put_sF, pP_48 hL, pK_48 hL, pN_48 hL, pA_48, pS_48] using e
theorem q_M_readLine_63 (d : Nat) (a : Nat) (x1 : Int32) (u2 : Value) (u3 : Value) (σ : Mm) (μ : Ms) (hL : LM σ a)  : run d 152 63 [.ref a, .int (x1), u2, u3] [] (put σ a μ) = if ¬ (μ.1 54) = 0 then run d 152 116 [.ref a, .int (x1), u2, u3] [] (put σ a μ) else run d 152 70 [.ref a, .int (x1), u2, u3] [] (put σ a μ) := by
  have e := e_M_readLine_63 d a x1 u2 u3 (put σ a μ) (hL.K μ)
  simpa only [ar, va_rf, vd, put_F, put_sF] using e
theorem q_M_readLine_70 (d : Nat) (a : Nat) (x1 : Int32) (u2 : Value) (u3 : Value) (σ : Mm) (μ : Ms) (hL : LM σ a)  : run d 152 70 [.ref a, .int (x1), u2, u3] [] (put σ a μ) = if ¬ (μ.1 52) = 10 then run d 152 116 [.ref a, .int (x1), u2, u3] [] (put σ a μ) else run d 152 79 [.ref a, .int (x1), u2, u3] [] (put σ a μ) := by
  have e := e_M_readLine_70 d a x1 u2 u3 (put σ a μ) (hL.K μ)
  simpa only [ar, va_rf, vd, put_F, put_sF] using e
theorem q_M_readLine_79 (d : Nat) (a : Nat) (x1 : Int32) (u2 : Value) (u3 : Value) (σ : Mm) (μ : Ms) (hL : LM σ a)  : run (d + 1) 152 79 [.ref a, .int (x1), u2, u3] [] (put σ a μ) = (runc d 147 [.ref a] (put σ a μ)).bind (fun q => run (d + 1) 152 83 [.ref a, .int (x1), u2, u3] (psh q.1 []) q.2) := by
  have e := e_M_readLine_79 d a x1 u2 u3 (put σ a μ) (hL.K μ)
  simpa only [ar, va_rf, vd, put_F, put_sF] using e
theorem q_M_readLine_83 (d : Nat) (a : Nat) (x1 : Int32) (u2 : Value) (u3 : Value) (σ : Mm) (μ : Ms) (hL : LM σ a)  : run d 152 83 [.ref a, .int (x1), u2, u3] [] (put σ a μ) = if ¬ (μ.1 52) = 20 then run d 152 106 [.ref a, .int (x1), u2, u3] [] (put σ a μ) else run d 152 92 [.ref a, .int (x1), u2, u3] [] (put σ a μ) := by
  have e := e_M_readLine_83 d a x1 u2 u3 (put σ a μ) (hL.K μ)
  simpa only [ar, va_rf, vd, put_F, put_sF] using e
theorem q_M_readLine_92 (d : Nat) (a : Nat) (x1 : Int32) (u2 : Value) (u3 : Value) (σ : Mm) (μ : Ms) (hL : LM σ a)  : run d 152 92 [.ref a, .int (x1), u2, u3] [] (put σ a μ) = if (μ.1 53) ≤ 11 then run d 152 106 [.ref a, .int (x1), u2, u3] [] (put σ a μ) else run d 152 101 [.ref a, .int (x1), u2, u3] [] (put σ a μ) := by
  have e := e_M_readLine_92 d a x1 u2 u3 (put σ a μ) (hL.K μ)
  simpa only [ar, va_rf, vd, put_F, put_sF] using e
theorem q_M_readLine_101 (d : Nat) (a : Nat) (x1 : Int32) (u2 : Value) (u3 : Value) (σ : Mm) (μ : Ms) (hL : LM σ a)  : run (d + 1) 152 101 [.ref a, .int (x1), u2, u3] [] (put σ a μ) = (runc d 148 [.ref a, .int (4)] (put σ a μ)).bind (fun q => run (d + 1) 152 106 [.ref a, .int (x1), u2, u3] (psh q.1 []) q.2) := by
  have e := e_M_readLine_101 d a x1 u2 u3 (put σ a μ) (hL.K μ)
  simpa only [ar, va_rf, vd, put_F, put_sF] using e
theorem q_M_readLine_106 (d : Nat) (a : Nat) (x1 : Int32) (u2 : Value) (u3 : Value) (σ : Mm) (μ : Ms) (hL : LM σ a)  : run (d + 1) 152 106 [.ref a, .int (x1), u2, u3] [] (put σ a μ) = (runc d 150 [.ref a] (put σ a μ)).bind (fun q => run (d + 1) 152 115 [.ref a, .int (x1), u2, u3] (psh q.1 [.int (x1), (.ref (a + 38))]) q.2) := by
  have e := e_M_readLine_106 d a x1 u2 u3 (put σ a μ) (hL.K μ)
  simpa only [ar, va_rf, vd, put_F, put_sF, pP_47 hL, pK_47 hL, pN_47 hL, pA_47, pS_47] using e
theorem q_M_readLine_115 (d : Nat) (a : Nat) (x1 : Int32) (u2 : Value) (u3 : Value) (y0 : Int32) (y1 : Int32) (σ : Mm) (μ : Ms) (hL : LM σ a) (g0 : ix y1 17 = true) : run d 152 115 [.ref a, .int (x1), u2, u3] [.int (y0), .int (y1), (.ref (a + 38))] (put σ a μ) = run d 152 116 [.ref a, .int (x1), u2, u3] [] (put σ a (fA μ 47 ((y1 : Int32).toNatClampNeg) y0)) := by
  have e := e_M_readLine_115 d a x1 u2 u3 y0 y1 (.ref (a + 38)) (put σ a μ) rfl (by simp only [ar, va_rf, vd, put_F, put_sF, pP_47 hL, pK_47 hL, pN_47 hL, pA_47, pS_47]; rfl) (by simpa only [ar, va_rf, vd, put_F, put_sF, pP_47 hL, pK_47 hL, pN_47 hL, pA_47, pS_47] using g0)
  simpa only [ar, va_rf, vd, put_F, put_sF, pP_47 hL, pK_47 hL, pN_47 hL, pA_47, pS_47] using e
theorem q_M_readLine_116 (d : Nat) (a : Nat) (x1 : Int32) (u2 : Value) (u3 : Value) (σ : Mm) (μ : Ms) (hL : LM σ a)  : run (d + 1) 152 116 [.ref a, .int (x1), u2, u3] [] (put σ a μ) = (runc d 149 [.ref a, .int (11), .int (11)] (put σ a μ)).bind (fun q => run (d + 1) 152 124 [.ref a, .int (x1), u2, u3] (psh q.1 []) q.2) := by
  have e := e_M_readLine_116 d a x1 u2 u3 (put σ a μ) (hL.K μ)
  simpa only [ar, va_rf, vd, put_F, put_sF] using e
theorem q_M_readLine_124 (d : Nat) (a : Nat) (x1 : Int32) (u2 : Value) (u3 : Value) (y0 : Int32) (σ : Mm) (μ : Ms) (hL : LM σ a)  : run (d + 1) 152 124 [.ref a, .int (x1), u2, u3] [.int (y0)] (put σ a μ) = (runc d 151 [.ref a, .int (x1), .int (0)] (put σ a μ)).bind (fun q => run (d + 1) 152 131 [.ref a, .int (x1), .int (y0), u3] (psh q.1 []) q.2) := by
  have e := e_M_readLine_124 d a x1 u2 u3 y0 (put σ a μ) (hL.K μ)
  simpa only [ar, va_rf, vd, put_F, put_sF] using e
theorem q_M_readLine_131 (d : Nat) (a : Nat) (x1 : Int32) (x2 : Int32) (u3 : Value) (σ : Mm) (μ : Ms) (hL : LM σ a)  : run d 152 131 [.ref a, .int (x1), .int (x2), u3] [] (put σ a μ) = run d 152 133 [.ref a, .int (x1), .int (x2), .int (1)] [] (put σ a μ) := by
  have e := e_M_readLine_131 d a x1 x2 u3 (put σ a μ) 
  simpa only [ar, va_rf, vd, put_F, put_sF] using e
theorem q_M_readLine_133 (d : Nat) (a : Nat) (x1 : Int32) (x2 : Int32) (x3 : Int32) (σ : Mm) (μ : Ms) (hL : LM σ a)  : run d 152 133 [.ref a, .int (x1), .int (x2), .int (x3)] [] (put σ a μ) = if ¬ (μ.1 54) = 0 then run d 152 165 [.ref a, .int (x1), .int (x2), .int (x3)] [] (put σ a μ) else run d 152 140 [.ref a, .int (x1), .int (x2), .int (x3)] [] (put σ a μ) := by
  have e := e_M_readLine_133 d a x1 x2 x3 (put σ a μ) (hL.K μ)
  simpa only [ar, va_rf, vd, put_F, put_sF] using e
theorem q_M_readLine_140 (d : Nat) (a : Nat) (x1 : Int32) (x2 : Int32) (x3 : Int32) (σ : Mm) (μ : Ms) (hL : LM σ a)  : run d 152 140 [.ref a, .int (x1), .int (x2), .int (x3)] [] (put σ a μ) = if ¬ (μ.1 52) = 12 then run d 152 165 [.ref a, .int (x1), .int (x2), .int (x3)] [] (put σ a μ) else run d 152 149 [.ref a, .int (x1), .int (x2), .int (x3)] [] (put σ a μ) := by
  have e := e_M_readLine_140 d a x1 x2 x3 (put σ a μ) (hL.K μ)
  simpa only [ar, va_rf, vd, put_F, put_sF] using e
theorem q_M_readLine_149 (d : Nat) (a : Nat) (x1 : Int32) (x2 : Int32) (x3 : Int32) (σ : Mm) (μ : Ms) (hL : LM σ a)  : run (d + 1) 152 149 [.ref a, .int (x1), .int (x2), .int (x3)] [] (put σ a μ) = (runc d 147 [.ref a] (put σ a μ)).bind (fun q => run (d + 1) 152 153 [.ref a, .int (x1), .int (x2), .int (x3)] (psh q.1 []) q.2) := by
  have e := e_M_readLine_149 d a x1 x2 x3 (put σ a μ) (hL.K μ)
  simpa only [ar, va_rf, vd, put_F, put_sF] using e
theorem q_M_readLine_153 (d : Nat) (a : Nat) (x1 : Int32) (x2 : Int32) (x3 : Int32) (σ : Mm) (μ : Ms) (hL : LM σ a)  : run (d + 1) 152 153 [.ref a, .int (x1), .int (x2), .int (x3)] [] (put σ a μ) = (runc d 151 [.ref a, .int (x1), .int (x3)] (put σ a μ)).bind (fun q => run (d + 1) 152 159 [.ref a, .int (x1), .int (x2), .int (x3)] (psh q.1 []) q.2) := by
  have e := e_M_readLine_153 d a x1 x2 x3 (put σ a μ) (hL.K μ)
  simpa only [ar, va_rf, vd, put_F, put_sF] using e
theorem q_M_readLine_159 (d : Nat) (a : Nat) (x1 : Int32) (x2 : Int32) (x3 : Int32) (σ : Mm) (μ : Ms) (hL : LM σ a)  : run d 152 159 [.ref a, .int (x1), .int (x2), .int (x3)] [] (put σ a μ) = run d 152 133 [.ref a, .int (x1), .int (x2), .int (x3 + 1)] [] (put σ a μ) := by
  have e := e_M_readLine_159 d a x1 x2 x3 (put σ a μ) 
  simpa only [ar, va_rf, vd, put_F, put_sF] using e
theorem q_M_readLine_165 (d : Nat) (a : Nat) (x1 : Int32) (x2 : Int32) (x3 : Int32) (σ : Mm) (μ : Ms) (hL : LM σ a)  : run d 152 165 [.ref a, .int (x1), .int (x2), .int (x3)] [] (put σ a μ) = if ¬ (μ.1 54) = 0 then run d 152 195 [.ref a, .int (x1), .int (x2), .int (x3)] [] (put σ a μ) else run d 152 172 [.ref a, .int (x1), .int (x2), .int (x3)] [] (put σ a μ) := by
  have e := e_M_readLine_165 d a x1 x2 x3 (put σ a μ) (hL.K μ)
  simpa only [ar, va_rf, vd, put_F, put_sF] using e
theorem q_M_readLine_172 (d : Nat) (a : Nat) (x1 : Int32) (x2 : Int32) (x3 : Int32) (σ : Mm) (μ : Ms) (hL : LM σ a)  : run d 152 172 [.ref a, .int (x1), .int (x2), .int (x3)] [] (put σ a μ) = if ¬ (μ.1 52) = 21 then run d 152 190 [.ref a, .int (x1), .int (x2), .int (x3)] [] (put σ a μ) else run d 152 181 [.ref a, .int (x1), .int (x2), .int (x3)] [] (put σ a μ) := by
  have e := e_M_readLine_172 d a x1 x2 x3 (put σ a μ) (hL.K μ)
  simpa only [ar, va_rf, vd, put_F, put_sF] using e
theorem q_M_readLine_181 (d : Nat) (a : Nat) (x1 : Int32) (x2 : Int32) (x3 : Int32) (σ : Mm) (μ : Ms) (hL : LM σ a)  : run d 152 181 [.ref a, .int (x1), .int (x2), .int (x3)] [] (put σ a μ) = if (μ.1 53) = 59 then run d 152 195 [.ref a, .int (x1), .int (x2), .int (x3)] [] (put σ a μ) else run d 152 190 [.ref a, .int (x1), .int (x2), .int (x3)] [] (put σ a μ) := by
  have e := e_M_readLine_181 d a x1 x2 x3 (put σ a μ) (hL.K μ)
  simpa only [ar, va_rf, vd, put_F, put_sF] using e
theorem q_M_readLine_190 (d : Nat) (a : Nat) (x1 : Int32) (x2 : Int32) (x3 : Int32) (σ : Mm) (μ : Ms) (hL : LM σ a)  : run (d + 1) 152 190 [.ref a, .int (x1), .int (x2), .int (x3)] [] (put σ a μ) = (runc d 148 [.ref a, .int (1)] (put σ a μ)).bind (fun q => run (d + 1) 152 195 [.ref a, .int (x1), .int (x2), .int (x3)] (psh q.1 []) q.2) := by
  have e := e_M_readLine_190 d a x1 x2 x3 (put σ a μ) (hL.K μ)
  simpa only [ar, va_rf, vd, put_F, put_sF] using e
theorem q_M_readLine_195 (d : Nat) (a : Nat) (x1 : Int32) (x2 : Int32) (x3 : Int32) (σ : Mm) (μ : Ms) (hL : LM σ a)  : run d 152 195 [.ref a, .int (x1), .int (x2), .int (x3)] [] (put σ a μ) = if ¬ (μ.1 54) = 0 then run d 152 206 [.ref a, .int (x1), .int (x2), .int (x3)] [] (put σ a μ) else run d 152 202 [.ref a, .int (x1), .int (x2), .int (x3)] [] (put σ a μ) := by
  have e := e_M_readLine_195 d a x1 x2 x3 (put σ a μ) (hL.K μ)
  simpa only [ar, va_rf, vd, put_F, put_sF] using e
theorem q_M_readLine_202 (d : Nat) (a : Nat) (x1 : Int32) (x2 : Int32) (x3 : Int32) (σ : Mm) (μ : Ms) (hL : LM σ a)  : run (d + 1) 152 202 [.ref a, .int (x1), .int (x2), .int (x3)] [] (put σ a μ) = (runc d 147 [.ref a] (put σ a μ)).bind (fun q => run (d + 1) 152 206 [.ref a, .int (x1), .int (x2), .int (x3)] (psh q.1 []) q.2) := by
  have e := e_M_readLine_202 d a x1 x2 x3 (put σ a μ) (hL.K μ)
  simpa only [ar, va_rf, vd, put_F, put_sF] using e
theorem q_M_readLine_206 (d : Nat) (a : Nat) (x1 : Int32) (x2 : Int32) (x3 : Int32) (σ : Mm) (μ : Ms) (hL : LM σ a)  : run d 152 206 [.ref a, .int (x1), .int (x2), .int (x3)] [] (put σ a μ) = some (none, (put σ a μ)) := by
  have e := e_M_readLine_206 d a x1 x2 x3 (put σ a μ) 
  simpa only [ar, va_rf, vd, put_F, put_sF] using e
theorem q_M_rules_0 (d : Nat) (a : Nat) (u1 : Value) (u2 : Value) (σ : Mm) (μ : Ms) (hL : LM σ a)  : run d 153 0 [.ref a, u1, u2] [] (put σ a μ) = run d 153 5 [.ref a, u1, u2] [] (put σ a (fF μ 0 0)) := by
  have e := e_M_rules_0 d a u1 u2 (put σ a μ) (hL.K μ)
  simpa only [ar, va_rf, vd, put_F, put_sF] using e
theorem q_M_rules_5 (d : Nat) (a : Nat) (u1 : Value) (u2 : Value) (σ : Mm) (μ : Ms) (hL : LM σ a)  : run d 153 5 [.ref a, u1, u2] [] (put σ a μ) = run d 153 10 [.ref a, u1, u2] [] (put σ a (fF μ 51 0)) := by
  have e := e_M_rules_5 d a u1 u2 (put σ a μ) (hL.K μ)
  simpa only [ar, va_rf, vd, put_F, put_sF] using e
theorem q_M_rules_10 (d : Nat) (a : Nat) (u1 : Value) (u2 : Value) (σ : Mm) (μ : Ms) (hL : LM σ a)  : run d 153 10 [.ref a, u1, u2] [] (put σ a μ) = run d 153 15 [.ref a, u1, u2] [] (put σ a (fF μ 54 0)) := by
  have e := e_M_rules_10 d a u1 u2 (put σ a μ) (hL.K μ)
  simpa only [ar, va_rf, vd, put_F, put_sF] using e
theorem q_M_rules_15 (d : Nat) (a : Nat) (u1 : Value) (u2 : Value) (σ : Mm) (μ : Ms) (hL : LM σ a)  : run (d + 1) 153 15 [.ref a, u1, u2] [] (put σ a μ) = (runc d 147 [.ref a] (put σ a μ)).bind (fun q => run (d + 1) 153 19 [.ref a, u1, u2] (psh q.1 []) q.2) := by
  have e := e_M_rules_15 d a u1 u2 (put σ a μ) (hL.K μ)
  simpa only [ar, va_rf, vd, put_F, put_sF] using e
theorem q_M_rules_19 (d : Nat) (a : Nat) (u1 : Value) (u2 : Value) (σ : Mm) (μ : Ms) (hL : LM σ a)  : run d 153 19 [.ref a, u1, u2] [] (put σ a μ) = run d 153 21 [.ref a, .int (0), u2] [] (put σ a μ) := by
  have e := e_M_rules_19 d a u1 u2 (put σ a μ) 
  simpa only [ar, va_rf, vd, put_F, put_sF] using e
theorem q_M_rules_21 (d : Nat) (a : Nat) (x1 : Int32) (u2 : Value) (σ : Mm) (μ : Ms) (hL : LM σ a)  : run d 153 21 [.ref a, .int (x1), u2] [] (put σ a μ) = if ¬ (μ.1 54) = 0 then run d 153 48 [.ref a, .int (x1), u2] [] (put σ a μ) else run d 153 28 [.ref a, .int (x1), u2] [] (put σ a μ) := by
  have e := e_M_rules_21 d a x1 u2 (put σ a μ) (hL.K μ)
  simpa only [ar, va_rf, vd, put_F, put_sF] using e
theorem q_M_rules_28 (d : Nat) (a : Nat) (x1 : Int32) (u2 : Value) (σ : Mm) (μ : Ms) (hL : LM σ a)  : run d 153 28 [.ref a, .int (x1), u2] [] (put σ a μ) = if (μ.1 52) = 22 then run d 153 48 [.ref a, .int (x1), u2] [] (put σ a μ) else run d 153 37 [.ref a, .int (x1), u2] [] (put σ a μ) := by
  have e := e_M_rules_28 d a x1 u2 (put σ a μ) (hL.K μ)
  simpa only [ar, va_rf, vd, put_F, put_sF] using e
theorem q_M_rules_37 (d : Nat) (a : Nat) (x1 : Int32) (u2 : Value) (σ : Mm) (μ : Ms) (hL : LM σ a)  : run (d + 1) 153 37 [.ref a, .int (x1), u2] [] (put σ a μ) = (runc d 152 [.ref a, .int (x1)] (put σ a μ)).bind (fun q => run (d + 1) 153 42 [.ref a, .int (x1), u2] (psh q.1 []) q.2) := by
  have e := e_M_rules_37 d a x1 u2 (put σ a μ) (hL.K μ)
  simpa only [ar, va_rf, vd, put_F, put_sF] using e
theorem q_M_rules_42 (d : Nat) (a : Nat) (x1 : Int32) (u2 : Value) (σ : Mm) (μ : Ms) (hL : LM σ a)  : run d 153 42 [.ref a, .int (x1), u2] [] (put σ a μ) = run d 153 21 [.ref a, .int (x1 + 1), u2] [] (put σ a μ) := by
  have e := e_M_rules_42 d a x1 u2 (put σ a μ) 
  simpa only [ar, va_rf, vd, put_F, put_sF] using e
theorem q_M_rules_48 (d : Nat) (a : Nat) (x1 : Int32) (u2 : Value) (σ : Mm) (μ : Ms) (hL : LM σ a)  : run d 153 48 [.ref a, .int (x1), u2] [] (put σ a μ) = run d 153 53 [.ref a, .int (x1), u2] [] (put σ a (fF μ 40 0)) := by
  have e := e_M_rules_48 d a x1 u2 (put σ a μ) (hL.K μ)
  simpa only [ar, va_rf, vd, put_F, put_sF] using e
theorem q_M_rules_53 (d : Nat) (a : Nat) (x1 : Int32) (u2 : Value) (σ : Mm) (μ : Ms) (hL : LM σ a)  : run d 153 53 [.ref a, .int (x1), u2] [] (put σ a μ) = if (μ.1 54) ≤ 0 then run d 153 75 [.ref a, .int (x1), u2] [] (put σ a μ) else run d 153 60 [.ref a, .int (x1), u2] [] (put σ a μ) := by
  have e := e_M_rules_53 d a x1 u2 (put σ a μ) (hL.K μ)
  simpa only [ar, va_rf, vd, put_F, put_sF] using e
theorem q_M_rules_60 (d : Nat) (a : Nat) (x1 : Int32) (u2 : Value) (σ : Mm) (μ : Ms) (hL : LM σ a)  : run d 153 60 [.ref a, .int (x1), u2] [] (put σ a μ) = some (some (.int ((((-1)) - (μ.1 54)) - (10 * (μ.1 55)))), (put σ a μ)) := by
  have e := e_M_rules_60 d a x1 u2 (put σ a μ) (hL.K μ)
  simpa only [ar, va_rf, vd, put_F, put_sF] using e
theorem q_M_rules_75 (d : Nat) (a : Nat) (x1 : Int32) (u2 : Value) (σ : Mm) (μ : Ms) (hL : LM σ a)  : run d 153 75 [.ref a, .int (x1), u2] [] (put σ a μ) = run d 153 80 [.ref a, .int (x1), u2] [] (put σ a (fF μ 41 x1)) := by
  have e := e_M_rules_75 d a x1 u2 (put σ a μ) (hL.K μ)
  simpa only [ar, va_rf, vd, put_F, put_sF] using e
theorem q_M_rules_80 (d : Nat) (a : Nat) (x1 : Int32) (u2 : Value) (σ : Mm) (μ : Ms) (hL : LM σ a)  : run d 153 80 [.ref a, .int (x1), u2] [] (put σ a μ) = run d 153 82 [.ref a, .int (x1), .int (0)] [] (put σ a μ) := by
  have e := e_M_rules_80 d a x1 u2 (put σ a μ) 
  simpa only [ar, va_rf, vd, put_F, put_sF] using e
theorem q_M_rules_82 (d : Nat) (a : Nat) (x1 : Int32) (x2 : Int32) (σ : Mm) (μ : Ms) (hL : LM σ a)  : run d 153 82 [.ref a, .int (x1), .int (x2)] [] (put σ a μ) = if x1 ≤ x2 then run d 153 129 [.ref a, .int (x1), .int (x2)] [] (put σ a μ) else run d 153 87 [.ref a, .int (x1), .int (x2)] [] (put σ a μ) := by
  have e := e_M_rules_82 d a x1 x2 (put σ a μ) 
  simpa only [ar, va_rf, vd, put_F, put_sF] using e
theorem q_M_rules_87 (d : Nat) (a : Nat) (x1 : Int32) (x2 : Int32) (σ : Mm) (μ : Ms) (hL : LM σ a) (g0 : ix x2 17 = true) (g1 : (μ.2 46 (x2 : Int32).toNatClampNeg : Int32) = 0 ∨ (μ.2 46 (x2 : Int32).toNatClampNeg) = 1) (g2 : ix x2 17 = true) : run d 153 87 [.ref a, .int (x1), .int (x2)] [] (put σ a μ) = run d 153 99 [.ref a, .int (x1), .int (x2)] [] (put σ a (fA μ 42 ((x2 : Int32).toNatClampNeg) (μ.2 46 (x2 : Int32).toNatClampNeg))) := by
  have e := e_M_rules_87 d a x1 x2 (put σ a μ) (hL.K μ) (by simp only [ar, va_rf, vd, put_F, put_sF, pP_42 hL, pK_42 hL, pN_42 hL, pA_42, pS_42, pP_46 hL, pK_46 hL, pN_46 hL, pA_46, pS_46]; rfl) (by simp only [ar, va_rf, vd, put_F, put_sF, pP_42 hL, pK_42 hL, pN_42 hL, pA_42, pS_42, pP_46 hL, pK_46 hL, pN_46 hL, pA_46, pS_46]; rfl) (by simpa only [ar, va_rf, vd, put_F, put_sF, pP_42 hL, pK_42 hL, pN_42 hL, pA_42, pS_42, pP_46 hL, pK_46 hL, pN_46 hL, pA_46, pS_46] using g0) (by simp only [ar, va_rf, vd, put_F, put_sF, pP_42 hL, pK_42 hL, pN_42 hL, pA_42, pS_42, pP_46 hL, pK_46 hL, pN_46 hL, pA_46, pS_46]; rfl) (by simp only [ar, va_rf, vd, put_F, put_sF, pP_42 hL, pK_42 hL, pN_42 hL, pA_42, pS_42, pP_46 hL, pK_46 hL, pN_46 hL, pA_46, pS_46]; rfl) (by simpa only [ar, va_rf, vd, put_F, put_sF, pP_42 hL, pK_42 hL, pN_42 hL, pA_42, pS_42, pP_46 hL, pK_46 hL, pN_46 hL, pA_46, pS_46] using g1) (by simpa only [ar, va_rf, vd, put_F, put_sF, pP_42 hL, pK_42 hL, pN_42 hL, pA_42, pS_42, pP_46 hL, pK_46 hL, pN_46 hL, pA_46, pS_46] using g2)
  simpa only [ar, va_rf, vd, put_F, put_sF, pP_42 hL, pK_42 hL, pN_42 hL, pA_42, pS_42, pP_46 hL, pK_46 hL, pN_46 hL, pA_46, pS_46] using e
theorem q_M_rules_99 (d : Nat) (a : Nat) (x1 : Int32) (x2 : Int32) (σ : Mm) (μ : Ms) (hL : LM σ a) (g0 : ix x2 17 = true) (g1 : ix x2 17 = true) : run d 153 99 [.ref a, .int (x1), .int (x2)] [] (put σ a μ) = run d 153 111 [.ref a, .int (x1), .int (x2)] [] (put σ a (fA μ 43 ((x2 : Int32).toNatClampNeg) (μ.2 47 (x2 : Int32).toNatClampNeg))) := by
  have e := e_M_rules_99 d a x1 x2 (put σ a μ) (hL.K μ) (by simp only [ar, va_rf, vd, put_F, put_sF, pP_43 hL, pK_43 hL, pN_43 hL, pA_43, pS_43, pP_47 hL, pK_47 hL, pN_47 hL, pA_47, pS_47]; rfl) (by simp only [ar, va_rf, vd, put_F, put_sF, pP_43 hL, pK_43 hL, pN_43 hL, pA_43, pS_43, pP_47 hL, pK_47 hL, pN_47 hL, pA_47, pS_47]; rfl) (by simpa only [ar, va_rf, vd, put_F, put_sF, pP_43 hL, pK_43 hL, pN_43 hL, pA_43, pS_43, pP_47 hL, pK_47 hL, pN_47 hL, pA_47, pS_47] using g0) (by simp only [ar, va_rf, vd, put_F, put_sF, pP_43 hL, pK_43 hL, pN_43 hL, pA_43, pS_43, pP_47 hL, pK_47 hL, pN_47 hL, pA_47, pS_47]; rfl) (by simp only [ar, va_rf, vd, put_F, put_sF, pP_43 hL, pK_43 hL, pN_43 hL, pA_43, pS_43, pP_47 hL, pK_47 hL, pN_47 hL, pA_47, pS_47]; rfl) (by simpa only [ar, va_rf, vd, put_F, put_sF, pP_43 hL, pK_43 hL, pN_43 hL, pA_43, pS_43, pP_47 hL, pK_47 hL, pN_47 hL, pA_47, pS_47] using g1)
  simpa only [ar, va_rf, vd, put_F, put_sF, pP_43 hL, pK_43 hL, pN_43 hL, pA_43, pS_43, pP_47 hL, pK_47 hL, pN_47 hL, pA_47, pS_47] using e
theorem q_M_rules_111 (d : Nat) (a : Nat) (x1 : Int32) (x2 : Int32) (σ : Mm) (μ : Ms) (hL : LM σ a) (g0 : ix x2 17 = true) (g1 : ix x2 17 = true) : run d 153 111 [.ref a, .int (x1), .int (x2)] [] (put σ a μ) = run d 153 123 [.ref a, .int (x1), .int (x2)] [] (put σ a (fA μ 44 ((x2 : Int32).toNatClampNeg) (μ.2 48 (x2 : Int32).toNatClampNeg))) := by
  have e := e_M_rules_111 d a x1 x2 (put σ a μ) (hL.K μ) (by simp only [ar, va_rf, vd, put_F, put_sF, pP_44 hL, pK_44 hL, pN_44 hL, pA_44, pS_44, pP_48 hL, pK_48 hL, pN_48 hL, pA_48, pS_48]; rfl) (by simp only [ar, va_rf, vd, put_F, put_sF, pP_44 hL, pK_44 hL, pN_44 hL, pA_44, pS_44, pP_48 hL, pK_48 hL, pN_48 hL, pA_48, pS_48]; rfl) (by simpa only [ar, va_rf, vd, put_F, put_sF, pP_44 hL, pK_44 hL, pN_44 hL, pA_44, pS_44, pP_48 hL, pK_48 hL, pN_48 hL, pA_48, pS_48] using g0) (by simp only [ar, va_rf, vd, put_F, put_sF, pP_44 hL, pK_44 hL, pN_44 hL, pA_44, pS_44, pP_48 hL, pK_48 hL, pN_48 hL, pA_48, pS_48]; rfl) (by simp only [ar, va_rf, vd, put_F, put_sF, pP_44 hL, pK_44 hL, pN_44 hL, pA_44, pS_44, pP_48 hL, pK_48 hL, pN_48 hL, pA_48, pS_48]; rfl) (by simpa only [ar, va_rf, vd, put_F, put_sF, pP_44 hL, pK_44 hL, pN_44 hL, pA_44, pS_44, pP_48 hL, pK_48 hL, pN_48 hL, pA_48, pS_48] using g1)
  simpa only [ar, va_rf, vd, put_F, put_sF, pP_44 hL, pK_44 hL, pN_44 hL, pA_44, pS_44, pP_48 hL, pK_48 hL, pN_48 hL, pA_48, pS_48] using e
theorem q_M_rules_123 (d : Nat) (a : Nat) (x1 : Int32) (x2 : Int32) (σ : Mm) (μ : Ms) (hL : LM σ a)  : run d 153 123 [.ref a, .int (x1), .int (x2)] [] (put σ a μ) = run d 153 82 [.ref a, .int (x1), .int (x2 + 1)] [] (put σ a μ) := by
  have e := e_M_rules_123 d a x1 x2 (put σ a μ) 
  simpa only [ar, va_rf, vd, put_F, put_sF] using e
theorem q_M_rules_129 (d : Nat) (a : Nat) (x1 : Int32) (x2 : Int32) (σ : Mm) (μ : Ms) (hL : LM σ a)  : run d 153 129 [.ref a, .int (x1), .int (x2)] [] (put σ a μ) = run d 153 131 [.ref a, .int (x1), .int (0)] [] (put σ a μ) := by
  have e := e_M_rules_129 d a x1 x2 (put σ a μ) 
  simpa only [ar, va_rf, vd, put_F, put_sF] using e
theorem q_M_rules_131 (d : Nat) (a : Nat) (x1 : Int32) (x2 : Int32) (σ : Mm) (μ : Ms) (hL : LM σ a)  : run d 153 131 [.ref a, .int (x1), .int (x2)] [] (put σ a μ) = if 384 ≤ x2 then run d 153 156 [.ref a, .int (x1), .int (x2)] [] (put σ a μ) else run d 153 138 [.ref a, .int (x1), .int (x2)] [] (put σ a μ) := by
  have e := e_M_rules_131 d a x1 x2 (put σ a μ) 
  simpa only [ar, va_rf, vd, put_F, put_sF] using e
theorem q_M_rules_138 (d : Nat) (a : Nat) (x1 : Int32) (x2 : Int32) (σ : Mm) (μ : Ms) (hL : LM σ a) (g0 : ix x2 408 = true) (g1 : ix x2 408 = true) : run d 153 138 [.ref a, .int (x1), .int (x2)] [] (put σ a μ) = run d 153 150 [.ref a, .int (x1), .int (x2)] [] (put σ a (fA μ 45 ((x2 : Int32).toNatClampNeg) (μ.2 49 (x2 : Int32).toNatClampNeg))) := by
  have e := e_M_rules_138 d a x1 x2 (put σ a μ) (hL.K μ) (by simp only [ar, va_rf, vd, put_F, put_sF, pP_45 hL, pK_45 hL, pN_45 hL, pA_45, pS_45, pP_49 hL, pK_49 hL, pN_49 hL, pA_49, pS_49]; rfl) (by simp only [ar, va_rf, vd, put_F, put_sF, pP_45 hL, pK_45 hL, pN_45 hL, pA_45, pS_45, pP_49 hL, pK_49 hL, pN_49 hL, pA_49, pS_49]; rfl) (by simpa only [ar, va_rf, vd, put_F, put_sF, pP_45 hL, pK_45 hL, pN_45 hL, pA_45, pS_45, pP_49 hL, pK_49 hL, pN_49 hL, pA_49, pS_49] using g0) (by simp only [ar, va_rf, vd, put_F, put_sF, pP_45 hL, pK_45 hL, pN_45 hL, pA_45, pS_45, pP_49 hL, pK_49 hL, pN_49 hL, pA_49, pS_49]; rfl) (by simp only [ar, va_rf, vd, put_F, put_sF, pP_45 hL, pK_45 hL, pN_45 hL, pA_45, pS_45, pP_49 hL, pK_49 hL, pN_49 hL, pA_49, pS_49]; rfl) (by simpa only [ar, va_rf, vd, put_F, put_sF, pP_45 hL, pK_45 hL, pN_45 hL, pA_45, pS_45, pP_49 hL, pK_49 hL, pN_49 hL, pA_49, pS_49] using g1)
  simpa only [ar, va_rf, vd, put_F, put_sF, pP_45 hL, pK_45 hL, pN_45 hL, pA_45, pS_45, pP_49 hL, pK_49 hL, pN_49 hL, pA_49, pS_49] using e
theorem q_M_rules_150 (d : Nat) (a : Nat) (x1 : Int32) (x2 : Int32) (σ : Mm) (μ : Ms) (hL : LM σ a)  : run d 153 150 [.ref a, .int (x1), .int (x2)] [] (put σ a μ) = run d 153 131 [.ref a, .int (x1), .int (x2 + 1)] [] (put σ a μ) := by
  have e := e_M_rules_150 d a x1 x2 (put σ a μ) 
  simpa only [ar, va_rf, vd, put_F, put_sF] using e
theorem q_M_rules_156 (d : Nat) (a : Nat) (x1 : Int32) (x2 : Int32) (σ : Mm) (μ : Ms) (hL : LM σ a)  : run d 153 156 [.ref a, .int (x1), .int (x2)] [] (put σ a μ) = some (some (.int (x1)), (put σ a μ)) := by
  have e := e_M_rules_156 d a x1 x2 (put σ a μ) 
  simpa only [ar, va_rf, vd, put_F, put_sF] using e
