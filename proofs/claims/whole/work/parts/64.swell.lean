/-! ===== OPERATIONS: swell, wind ===== -/
section O64
theorem in_wd {v : Int32} (h : ¬ v < -60 ∧ ¬ 60 < v) : ∃ j, j ≤ 120 ∧ v = nI j - 60 := by
  have h1 : ¬ v.toInt < -60 := fun z => h.1 (Int32.lt_iff_toInt_lt.mpr z)
  have h2 : ¬ 60 < v.toInt := fun z => h.2 (Int32.lt_iff_toInt_lt.mpr z)
  refine ⟨(v.toInt + 60).toNat, by omega, ?_⟩
  refine Int32.toInt_inj.mp ?_
  rw [show (60 : Int32) = nI 60 from rfl, pk_sub_toInt (by omega) (by omega)]
  omega
theorem ok_swell (x1 x2 x3 : Int32) : Ok 65 124 [.int x1, .int x2, .int x3] := by
  refine Ok_of fun d σ c a E S L B G H Q Z w μ hR hLM hX hW => ?_
  have hC := hW.1
  obtain ⟨hF, hz, hRX, hRS, hRL, hRB, hRP, hRG, hRF, hRT, hRK, hRR, hRN⟩ := id hR
  have hs12 := hC.s
  have hf := hC.f
  rcases nIx x1 (n := nS μ) (by omega) with ⟨k, hk, rfl⟩ | hno
  · have e1 := c_stopAt (d + 16) hF hRX hC hk (hRS k hk).1
    have j1 := is_ix hk (show nS μ ≤ 1000 by omega)
    by_cases h1 : ¬ x2 < 0 ∧ ¬ 2399 < x2
    · by_cases h2 : ¬ x3 < 0 ∧ ¬ 9 < x3
      · by_cases h3 : nF μ < 160
        · obtain ⟨j, j0, j9, hj⟩ := in_N (a := 0) (b := 9) rfl rfl (by omega) (by omega) h2
          obtain ⟨σ1, Z', r1, q⟩ := c_tell (d + 18) hR hX hW h3 (s := k) (o := k) (wd := 0) x2 x3 (Or.inl ⟨rfl, by omega, rfl⟩)
          refine Res.mk [4, 25, 30, 35, 40] (σ1 := σ1) (μ' := telS μ 0 (nI k) x2 x3) (v := some (.int (nI (nF μ)))) (E := E) (S := S) (L := L) (B := B) (G := G) (H := H) (Q := Q) (Z := Z') (w := w) ?_ (fun τ μ0 hμ hL => ?_) q.1 q.2.1 (by decide) q.2.2.1 (Wf_tel hW h3 (Or.inl ⟨rfl, by omega, j, j9, hj⟩)) (by have := q.2.2.2.1; omega) (by have := q.2.2.2.2; omega)
          · simp [psh_some, psh_none, -Int32.not_lt, -Int32.not_le, va_rf, vd, vr, isR_r, isR_n, isA_r, isI_i, isI_r, isR_i, ar, akI, akZ, akB, akO, mI_sI, mP_sI, mK_sI, mN_sI, mX_sI, mP_sP, mI_sP, mK_sP, mN_sP, mX_sP, rc_C_swell, e_C_swell_0, e_C_swell_5, e_C_swell_8, e_C_swell_16, e_C_swell_19, e_C_swell_26, e_C_swell_31, e_C_swell_41, fK_1 hF, fK_2 hF, fK_3 hF, fK_4 hF, fK_5 hF, fK_6 hF, fN_6 hF, fK_7 hF, fN_7 hF, fK_8 hF, fN_8 hF, fK_9 hF, fN_9 hF, fK_10 hF, fK_11 hF, fN_11 hF, fK_12 hF, fK_13 hF, fN_13 hF, fK_14 hF, fN_14 hF, fK_15 hF, fN_15 hF, fK_16 hF, fN_16 hF, fP_12_0 hF, fP_12_1 hF, fP_12_2 hF, fP_12_3 hF, fP_12_4 hF, fP_12_5 hF, fP_12_6 hF, fP_12_7 hF, fP_4_0 hF, fP_4_1 hF, fP_4_2 hF, fP_4_3 hF, fP_11_0 hF, fP_7_0 hF, fP_7_1 hF, fP_7_2 hF, hF.cc, e1, c_within, bZ_t h1, bZ_t h2, r1]
          · simp [psh_some, psh_none, -Int32.not_lt, -Int32.not_le, rc_M_swell, q_M_swell_0, q_M_swell_5, q_M_swell_10, q_M_swell_13, q_M_swell_21, q_M_swell_24, q_M_swell_31, q_M_swell_34, q_M_swell_42, q_M_swell_46, hL, hμ, m_isStop, hs12.1, bZ_t j1, m_in, bZ_t h1, bZ_t h2, m_tells (d + 19) hL hC h3]
        · have h160 : nI (nF μ) = 160 := by rw [show nF μ = 160 by omega]; rfl
          have z1 : (160 : Int32) ≤ nI (nF μ) := by rw [h160]; decide
          refine Res.same hR hX hW (v := some (.int (-1))) ?_ (fun τ μ0 hμ hL => ?_)
          · simp [psh_some, psh_none, -Int32.not_lt, -Int32.not_le, va_rf, vd, vr, isR_r, isR_n, isA_r, isI_i, isI_r, isR_i, ar, akI, akZ, akB, akO, mI_sI, mP_sI, mK_sI, mN_sI, mX_sI, mP_sP, mI_sP, mK_sP, mN_sP, mX_sP, rc_C_swell, e_C_swell_0, e_C_swell_5, e_C_swell_8, e_C_swell_16, e_C_swell_19, e_C_swell_26, e_C_swell_31, e_C_swell_41, rc_Facts_tell, e_Facts_tell_0, e_Facts_tell_20, fK_1 hF, fK_2 hF, fK_3 hF, fK_4 hF, fK_5 hF, fK_6 hF, fN_6 hF, fK_7 hF, fN_7 hF, fK_8 hF, fN_8 hF, fK_9 hF, fN_9 hF, fK_10 hF, fK_11 hF, fN_11 hF, fK_12 hF, fK_13 hF, fN_13 hF, fK_14 hF, fN_14 hF, fK_15 hF, fN_15 hF, fK_16 hF, fN_16 hF, fP_12_0 hF, fP_12_1 hF, fP_12_2 hF, fP_12_3 hF, fP_12_4 hF, fP_12_5 hF, fP_12_6 hF, fP_12_7 hF, fP_4_0 hF, fP_4_1 hF, fP_4_2 hF, fP_4_3 hF, fP_11_0 hF, fP_7_0 hF, fP_7_1 hF, fP_7_2 hF, hF.cc, e1, c_within, bZ_t h1, bZ_t h2, hRF.1, hf.1, z1]
          · simp [psh_some, psh_none, -Int32.not_lt, -Int32.not_le, rc_M_swell, q_M_swell_0, q_M_swell_5, q_M_swell_10, q_M_swell_13, q_M_swell_21, q_M_swell_24, q_M_swell_31, q_M_swell_34, q_M_swell_42, q_M_swell_46, hL, hμ, m_isStop, hs12.1, bZ_t j1, m_in, bZ_t h1, bZ_t h2, tells_no (d + 19) hL (show μ.1 11 = 160 by rw [hf.1, h160])]
      · refine Res.same hR hX hW (v := some (.int (-1))) ?_ (fun τ μ0 hμ hL => ?_)
        · simp [psh_some, psh_none, -Int32.not_lt, -Int32.not_le, va_rf, vd, vr, isR_r, isR_n, isA_r, isI_i, isI_r, isR_i, ar, akI, akZ, akB, akO, mI_sI, mP_sI, mK_sI, mN_sI, mX_sI, mP_sP, mI_sP, mK_sP, mN_sP, mX_sP, rc_C_swell, e_C_swell_0, e_C_swell_5, e_C_swell_8, e_C_swell_16, e_C_swell_19, e_C_swell_26, e_C_swell_29, fK_1 hF, fK_2 hF, fK_3 hF, fK_4 hF, fK_5 hF, fK_6 hF, fN_6 hF, fK_7 hF, fN_7 hF, fK_8 hF, fN_8 hF, fK_9 hF, fN_9 hF, fK_10 hF, fK_11 hF, fN_11 hF, fK_12 hF, fK_13 hF, fN_13 hF, fK_14 hF, fN_14 hF, fK_15 hF, fN_15 hF, fK_16 hF, fN_16 hF, fP_12_0 hF, fP_12_1 hF, fP_12_2 hF, fP_12_3 hF, fP_12_4 hF, fP_12_5 hF, fP_12_6 hF, fP_12_7 hF, fP_4_0 hF, fP_4_1 hF, fP_4_2 hF, fP_4_3 hF, fP_11_0 hF, fP_7_0 hF, fP_7_1 hF, fP_7_2 hF, hF.cc, e1, c_within, bZ_t h1, bZ_f h2]
        · simp [psh_some, psh_none, -Int32.not_lt, -Int32.not_le, rc_M_swell, q_M_swell_0, q_M_swell_5, q_M_swell_10, q_M_swell_13, q_M_swell_21, q_M_swell_24, q_M_swell_31, q_M_swell_45, q_M_swell_46, hL, hμ, m_isStop, hs12.1, bZ_t j1, m_in, bZ_t h1, bZ_f h2]
    · refine Res.same hR hX hW (v := some (.int (-1))) ?_ (fun τ μ0 hμ hL => ?_)
      · simp [psh_some, psh_none, -Int32.not_lt, -Int32.not_le, va_rf, vd, vr, isR_r, isR_n, isA_r, isI_i, isI_r, isR_i, ar, akI, akZ, akB, akO, mI_sI, mP_sI, mK_sI, mN_sI, mX_sI, mP_sP, mI_sP, mK_sP, mN_sP, mX_sP, rc_C_swell, e_C_swell_0, e_C_swell_5, e_C_swell_8, e_C_swell_16, e_C_swell_29, fK_1 hF, fK_2 hF, fK_3 hF, fK_4 hF, fK_5 hF, fK_6 hF, fN_6 hF, fK_7 hF, fN_7 hF, fK_8 hF, fN_8 hF, fK_9 hF, fN_9 hF, fK_10 hF, fK_11 hF, fN_11 hF, fK_12 hF, fK_13 hF, fN_13 hF, fK_14 hF, fN_14 hF, fK_15 hF, fN_15 hF, fK_16 hF, fN_16 hF, fP_12_0 hF, fP_12_1 hF, fP_12_2 hF, fP_12_3 hF, fP_12_4 hF, fP_12_5 hF, fP_12_6 hF, fP_12_7 hF, fP_4_0 hF, fP_4_1 hF, fP_4_2 hF, fP_4_3 hF, fP_11_0 hF, fP_7_0 hF, fP_7_1 hF, fP_7_2 hF, hF.cc, e1, c_within, bZ_f h1]
      · simp [psh_some, psh_none, -Int32.not_lt, -Int32.not_le, rc_M_swell, q_M_swell_0, q_M_swell_5, q_M_swell_10, q_M_swell_13, q_M_swell_21, q_M_swell_45, q_M_swell_46, hL, hμ, m_isStop, hs12.1, bZ_t j1, m_in, bZ_f h1]
  · refine Res.same hR hX hW (v := some (.int (-1))) ?_ (fun τ μ0 hμ hL => ?_)
    · simp [psh_some, psh_none, -Int32.not_lt, -Int32.not_le, va_rf, vd, vr, isR_r, isR_n, isA_r, isI_i, isI_r, isR_i, ar, akI, akZ, akB, akO, mI_sI, mP_sI, mK_sI, mN_sI, mX_sI, mP_sP, mI_sP, mK_sP, mN_sP, mX_sP, rc_C_swell, e_C_swell_0, e_C_swell_5, e_C_swell_29, fK_1 hF, fK_2 hF, fK_3 hF, fK_4 hF, fK_5 hF, fK_6 hF, fN_6 hF, fK_7 hF, fN_7 hF, fK_8 hF, fN_8 hF, fK_9 hF, fN_9 hF, fK_10 hF, fK_11 hF, fN_11 hF, fK_12 hF, fK_13 hF, fN_13 hF, fK_14 hF, fN_14 hF, fK_15 hF, fN_15 hF, fK_16 hF, fN_16 hF, fP_12_0 hF, fP_12_1 hF, fP_12_2 hF, fP_12_3 hF, fP_12_4 hF, fP_12_5 hF, fP_12_6 hF, fP_12_7 hF, fP_4_0 hF, fP_4_1 hF, fP_4_2 hF, fP_4_3 hF, fP_11_0 hF, fP_7_0 hF, fP_7_1 hF, fP_7_2 hF, hF.cc, c_stopAt_no (d + 16) hF hRX hC hno]
    · simp [psh_some, psh_none, -Int32.not_lt, -Int32.not_le, rc_M_swell, q_M_swell_0, q_M_swell_5, q_M_swell_10, q_M_swell_45, q_M_swell_46, hL, hμ, m_isStop, hs12.1, bZ_f (no_ix hno)]
theorem ok_wind (x1 x2 x3 : Int32) : Ok 66 125 [.int x1, .int x2, .int x3] := by
  refine Ok_of fun d σ c a E S L B G H Q Z w μ hR hLM hX hW => ?_
  have hC := hW.1
  obtain ⟨hF, hz, hRX, hRS, hRL, hRB, hRP, hRG, hRF, hRT, hRK, hRR, hRN⟩ := id hR
  have hl30 := hC.l
  have hf := hC.f
  rcases nIx x1 (n := nL μ) (by omega) with ⟨k, hk, rfl⟩ | hno
  · have e1 := c_legAt (d + 16) hF hRX hC hk (hRL k hk).1
    have j1 := is_ix hk (show nL μ ≤ 1000 by omega)
    have e12 : (12 : Int32) + nI k = nI (12 + k) := by rw [show (12 : Int32) = nI 12 from rfl, nI_add]
    by_cases h1 : ¬ x2 < 0 ∧ ¬ 99 < x2
    · by_cases h2 : ¬ x3 < -60 ∧ ¬ 60 < x3
      · by_cases h3 : nF μ < 160
        · obtain ⟨σ1, Z', r1, q⟩ := c_tell (d + 18) hR hX hW h3 (s := 12 + k) (o := k) (wd := 1) x2 x3 (Or.inr ⟨rfl, by omega, rfl⟩)
          refine Res.mk [4, 25, 30, 35, 40] (σ1 := σ1) (μ' := telS μ 1 (nI k) x2 x3) (v := some (.int (nI (nF μ)))) (E := E) (S := S) (L := L) (B := B) (G := G) (H := H) (Q := Q) (Z := Z') (w := w) ?_ (fun τ μ0 hμ hL => ?_) q.1 q.2.1 (by decide) q.2.2.1 (Wf_tel hW h3 (Or.inr ⟨rfl, by omega, in_wd h2⟩)) (by have := q.2.2.2.1; omega) (by have := q.2.2.2.2; omega)
          · simp [psh_some, psh_none, -Int32.not_lt, -Int32.not_le, va_rf, vd, vr, isR_r, isR_n, isA_r, isI_i, isI_r, isR_i, ar, akI, akZ, akB, akO, mI_sI, mP_sI, mK_sI, mN_sI, mX_sI, mP_sP, mI_sP, mK_sP, mN_sP, mX_sP, rc_C_wind, e_C_wind_0, e_C_wind_5, e_C_wind_8, e_C_wind_15, e_C_wind_18, e_C_wind_26, e_C_wind_31, e_C_wind_44, fK_1 hF, fK_2 hF, fK_3 hF, fK_4 hF, fK_5 hF, fK_6 hF, fN_6 hF, fK_7 hF, fN_7 hF, fK_8 hF, fN_8 hF, fK_9 hF, fN_9 hF, fK_10 hF, fK_11 hF, fN_11 hF, fK_12 hF, fK_13 hF, fN_13 hF, fK_14 hF, fN_14 hF, fK_15 hF, fN_15 hF, fK_16 hF, fN_16 hF, fP_12_0 hF, fP_12_1 hF, fP_12_2 hF, fP_12_3 hF, fP_12_4 hF, fP_12_5 hF, fP_12_6 hF, fP_12_7 hF, fP_4_0 hF, fP_4_1 hF, fP_4_2 hF, fP_4_3 hF, fP_11_0 hF, fP_7_0 hF, fP_7_1 hF, fP_7_2 hF, hF.cc, e1, c_within, bZ_t h1, bZ_t h2, e12, r1]
          · simp [psh_some, psh_none, -Int32.not_lt, -Int32.not_le, rc_M_wind, q_M_wind_0, q_M_wind_5, q_M_wind_10, q_M_wind_13, q_M_wind_20, q_M_wind_23, q_M_wind_31, q_M_wind_34, q_M_wind_42, q_M_wind_46, hL, hμ, m_isLeg, hl30.1, bZ_t j1, m_in, bZ_t h1, bZ_t h2, m_tells (d + 19) hL hC h3]
        · have h160 : nI (nF μ) = 160 := by rw [show nF μ = 160 by omega]; rfl
          have z1 : (160 : Int32) ≤ nI (nF μ) := by rw [h160]; decide
          refine Res.same hR hX hW (v := some (.int (-1))) ?_ (fun τ μ0 hμ hL => ?_)
          · simp [psh_some, psh_none, -Int32.not_lt, -Int32.not_le, va_rf, vd, vr, isR_r, isR_n, isA_r, isI_i, isI_r, isR_i, ar, akI, akZ, akB, akO, mI_sI, mP_sI, mK_sI, mN_sI, mX_sI, mP_sP, mI_sP, mK_sP, mN_sP, mX_sP, rc_C_wind, e_C_wind_0, e_C_wind_5, e_C_wind_8, e_C_wind_15, e_C_wind_18, e_C_wind_26, e_C_wind_31, e_C_wind_44, rc_Facts_tell, e_Facts_tell_0, e_Facts_tell_20, fK_1 hF, fK_2 hF, fK_3 hF, fK_4 hF, fK_5 hF, fK_6 hF, fN_6 hF, fK_7 hF, fN_7 hF, fK_8 hF, fN_8 hF, fK_9 hF, fN_9 hF, fK_10 hF, fK_11 hF, fN_11 hF, fK_12 hF, fK_13 hF, fN_13 hF, fK_14 hF, fN_14 hF, fK_15 hF, fN_15 hF, fK_16 hF, fN_16 hF, fP_12_0 hF, fP_12_1 hF, fP_12_2 hF, fP_12_3 hF, fP_12_4 hF, fP_12_5 hF, fP_12_6 hF, fP_12_7 hF, fP_4_0 hF, fP_4_1 hF, fP_4_2 hF, fP_4_3 hF, fP_11_0 hF, fP_7_0 hF, fP_7_1 hF, fP_7_2 hF, hF.cc, e1, c_within, bZ_t h1, bZ_t h2, hRF.1, hf.1, z1]
          · simp [psh_some, psh_none, -Int32.not_lt, -Int32.not_le, rc_M_wind, q_M_wind_0, q_M_wind_5, q_M_wind_10, q_M_wind_13, q_M_wind_20, q_M_wind_23, q_M_wind_31, q_M_wind_34, q_M_wind_42, q_M_wind_46, hL, hμ, m_isLeg, hl30.1, bZ_t j1, m_in, bZ_t h1, bZ_t h2, tells_no (d + 19) hL (show μ.1 11 = 160 by rw [hf.1, h160])]
      · refine Res.same hR hX hW (v := some (.int (-1))) ?_ (fun τ μ0 hμ hL => ?_)
        · simp [psh_some, psh_none, -Int32.not_lt, -Int32.not_le, va_rf, vd, vr, isR_r, isR_n, isA_r, isI_i, isI_r, isR_i, ar, akI, akZ, akB, akO, mI_sI, mP_sI, mK_sI, mN_sI, mX_sI, mP_sP, mI_sP, mK_sP, mN_sP, mX_sP, rc_C_wind, e_C_wind_0, e_C_wind_5, e_C_wind_8, e_C_wind_15, e_C_wind_18, e_C_wind_26, e_C_wind_29, fK_1 hF, fK_2 hF, fK_3 hF, fK_4 hF, fK_5 hF, fK_6 hF, fN_6 hF, fK_7 hF, fN_7 hF, fK_8 hF, fN_8 hF, fK_9 hF, fN_9 hF, fK_10 hF, fK_11 hF, fN_11 hF, fK_12 hF, fK_13 hF, fN_13 hF, fK_14 hF, fN_14 hF, fK_15 hF, fN_15 hF, fK_16 hF, fN_16 hF, fP_12_0 hF, fP_12_1 hF, fP_12_2 hF, fP_12_3 hF, fP_12_4 hF, fP_12_5 hF, fP_12_6 hF, fP_12_7 hF, fP_4_0 hF, fP_4_1 hF, fP_4_2 hF, fP_4_3 hF, fP_11_0 hF, fP_7_0 hF, fP_7_1 hF, fP_7_2 hF, hF.cc, e1, c_within, bZ_t h1, bZ_f h2]
        · simp [psh_some, psh_none, -Int32.not_lt, -Int32.not_le, rc_M_wind, q_M_wind_0, q_M_wind_5, q_M_wind_10, q_M_wind_13, q_M_wind_20, q_M_wind_23, q_M_wind_31, q_M_wind_45, q_M_wind_46, hL, hμ, m_isLeg, hl30.1, bZ_t j1, m_in, bZ_t h1, bZ_f h2]
    · refine Res.same hR hX hW (v := some (.int (-1))) ?_ (fun τ μ0 hμ hL => ?_)
      · simp [psh_some, psh_none, -Int32.not_lt, -Int32.not_le, va_rf, vd, vr, isR_r, isR_n, isA_r, isI_i, isI_r, isR_i, ar, akI, akZ, akB, akO, mI_sI, mP_sI, mK_sI, mN_sI, mX_sI, mP_sP, mI_sP, mK_sP, mN_sP, mX_sP, rc_C_wind, e_C_wind_0, e_C_wind_5, e_C_wind_8, e_C_wind_15, e_C_wind_29, fK_1 hF, fK_2 hF, fK_3 hF, fK_4 hF, fK_5 hF, fK_6 hF, fN_6 hF, fK_7 hF, fN_7 hF, fK_8 hF, fN_8 hF, fK_9 hF, fN_9 hF, fK_10 hF, fK_11 hF, fN_11 hF, fK_12 hF, fK_13 hF, fN_13 hF, fK_14 hF, fN_14 hF, fK_15 hF, fN_15 hF, fK_16 hF, fN_16 hF, fP_12_0 hF, fP_12_1 hF, fP_12_2 hF, fP_12_3 hF, fP_12_4 hF, fP_12_5 hF, fP_12_6 hF, fP_12_7 hF, fP_4_0 hF, fP_4_1 hF, fP_4_2 hF, fP_4_3 hF, fP_11_0 hF, fP_7_0 hF, fP_7_1 hF, fP_7_2 hF, hF.cc, e1, c_within, bZ_f h1]
      · simp [psh_some, psh_none, -Int32.not_lt, -Int32.not_le, rc_M_wind, q_M_wind_0, q_M_wind_5, q_M_wind_10, q_M_wind_13, q_M_wind_20, q_M_wind_45, q_M_wind_46, hL, hμ, m_isLeg, hl30.1, bZ_t j1, m_in, bZ_f h1]
  · refine Res.same hR hX hW (v := some (.int (-1))) ?_ (fun τ μ0 hμ hL => ?_)
    · simp [psh_some, psh_none, -Int32.not_lt, -Int32.not_le, va_rf, vd, vr, isR_r, isR_n, isA_r, isI_i, isI_r, isR_i, ar, akI, akZ, akB, akO, mI_sI, mP_sI, mK_sI, mN_sI, mX_sI, mP_sP, mI_sP, mK_sP, mN_sP, mX_sP, rc_C_wind, e_C_wind_0, e_C_wind_5, e_C_wind_29, fK_1 hF, fK_2 hF, fK_3 hF, fK_4 hF, fK_5 hF, fK_6 hF, fN_6 hF, fK_7 hF, fN_7 hF, fK_8 hF, fN_8 hF, fK_9 hF, fN_9 hF, fK_10 hF, fK_11 hF, fN_11 hF, fK_12 hF, fK_13 hF, fN_13 hF, fK_14 hF, fN_14 hF, fK_15 hF, fN_15 hF, fK_16 hF, fN_16 hF, fP_12_0 hF, fP_12_1 hF, fP_12_2 hF, fP_12_3 hF, fP_12_4 hF, fP_12_5 hF, fP_12_6 hF, fP_12_7 hF, fP_4_0 hF, fP_4_1 hF, fP_4_2 hF, fP_4_3 hF, fP_11_0 hF, fP_7_0 hF, fP_7_1 hF, fP_7_2 hF, hF.cc, c_legAt_no (d + 16) hF hRX hC hno]
    · simp [psh_some, psh_none, -Int32.not_lt, -Int32.not_le, rc_M_wind, q_M_wind_0, q_M_wind_5, q_M_wind_10, q_M_wind_45, q_M_wind_46, hL, hμ, m_isLeg, hl30.1, bZ_f (no_ix hno)]
end O64
