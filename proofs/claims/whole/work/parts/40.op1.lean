/-! ===== OPERATIONS: drums ===== -/
section O40
theorem ok_drums (s n : Int32) : Ok 63 122 [.int s, .int n] := by
  refine Ok_of fun d σ c a E S L B G H Q Z w μ hR hLM hX hW => ?_
  have hC := hW.1
  obtain ⟨hF, hz, hRX, hRS, hRL, hRB, hRP, hRG, hRF, hRT, hRK, hRR, hRN⟩ := id hR
  rcases nIx s (n := nS μ) (by have := hC.s.2; omega) with ⟨k, hk, rfl⟩ | hno
  · have hS := hRS k hk
    have h12 := hC.s.2
    have i1 : ix (nI k) 12 = true := ix_of (by omega) (by omega)
    have j1 := is_ix hk (show nS μ ≤ 1000 by omega)
    have e1 := c_stopAt (d + 16) hF hRX hC hk hS.1
    by_cases h1 : ¬ n < 1 ∧ ¬ 999 < n
    · by_cases h2 : μ.2 6 k + n ≤ 999
      · have hs : Sm (tk [10]) σ (sI σ 10 (S k) 4 (μ.2 6 k + n)) := SmsI (Sm.rfl' σ) rfl _ _ _
        obtain ⟨m, hm, rfl⟩ : ∃ m, m ≤ 999 ∧ n = nI m := by
          obtain ⟨j, hj, rfl⟩ := nI_of (x := n) (fun z => h1.1 (Int32.lt_trans z (by decide)))
          refine ⟨j, ?_, rfl⟩
          have := h1.2
          rw [show (999 : Int32) = nI 999 from rfl, nI_ltI (by omega) hj] at this
          omega
        obtain ⟨q, hq, hq2⟩ := (hW.2.1.1 k hk).2.2.2.1
        have h3 : q + m ≤ 999 := by
          rw [hq2, nI_add, show (999 : Int32) = nI 999 from rfl, nI_leI (by omega) (by omega)] at h2
          exact h2
        refine Res.mk [10] (σ1 := sI σ 10 (S k) 4 (μ.2 6 k + nI m)) (μ' := fA μ 6 k (μ.2 6 k + nI m)) (v := some (.int (μ.2 6 k + nI m))) (E := E) (S := S) (L := L) (B := B) (G := G) (H := H) (Q := Q) (Z := Z) (w := w) ?_ (fun τ μ0 hμ hL => ?_) ⟨hF.fr hX hs (by rintro q (rfl | rfl | rfl | rfl | rfl) <;> rfl), hz.fr hs rfl, hRX.fr hz hX hs rfl rfl rfl rfl rfl rfl rfl, ?_, hRL.fr hX hs rfl rfl rfl rfl rfl, hRB.fr hX hs rfl rfl rfl rfl (Ar_of (by repeat' constructor)), hRP.fr (fun k hk => (hRB k hk).1.1) hX hs rfl rfl rfl (Ar_of (by repeat' constructor)), hRG.fr hX hs rfl rfl rfl (Ar_of (by repeat' constructor)), hRF.fr hF hX hs rfl rfl rfl rfl rfl rfl (Ar_of (by repeat' constructor)), hRT.fr hF hX hs rfl rfl rfl rfl, hRK.fr hF hX hs rfl rfl rfl rfl rfl (Ar_of (by repeat' constructor)), hRR.fr hF hX hs rfl (by rintro q (rfl | rfl | rfl | rfl | rfl | rfl | rfl | rfl) <;> rfl) rfl (Ar_of (by repeat' constructor)), hRN.fr hF hX hs rfl rfl rfl rfl rfl rfl⟩ hs (by decide) hX ?_ (by simp only [mX_sI]; omega) (by simp only [mS_sI]; omega)
        · simp [psh_some, psh_none, -Int32.not_lt, -Int32.not_le, va_rf, vd, vr, isR_r, isR_n, isA_r, isI_i, isI_r, isR_i, ar, akI, akZ, akB, akO, mI_sI, mP_sI, mK_sI, mN_sI, mX_sI, mP_sP, mI_sP, mK_sP, mN_sP, mX_sP, rc_C_drums, e_C_drums_0, e_C_drums_5, e_C_drums_10, e_C_drums_18, e_C_drums_21, e_C_drums_33, e_C_drums_35, e_C_drums_45, fK_1 hF, fK_2 hF, fK_3 hF, fK_4 hF, fK_5 hF, fK_6 hF, fN_6 hF, fK_7 hF, fN_7 hF, fK_8 hF, fN_8 hF, fK_9 hF, fN_9 hF, fK_10 hF, fK_11 hF, fN_11 hF, fK_12 hF, fK_13 hF, fN_13 hF, fK_14 hF, fN_14 hF, fK_15 hF, fN_15 hF, fK_16 hF, fN_16 hF, fP_12_0 hF, fP_12_1 hF, fP_12_2 hF, fP_12_3 hF, fP_12_4 hF, fP_12_5 hF, fP_12_6 hF, fP_12_7 hF, fP_4_0 hF, fP_4_1 hF, fP_4_2 hF, fP_4_3 hF, fP_11_0 hF, fP_7_0 hF, fP_7_1 hF, fP_7_2 hF, hF.cc, e1, c_within, bZ, h1, h2, hS]
        · simp [psh_some, psh_none, -Int32.not_lt, -Int32.not_le, rc_M_drums, q_M_drums_0, q_M_drums_5, q_M_drums_10, q_M_drums_13, q_M_drums_21, q_M_drums_24, q_M_drums_38, q_M_drums_40, q_M_drums_50, hL, hμ, m_isStop, m_in, fA_2, hC.s.1, j1, bZ, h1, h2, i1, cl12 (show k < 12 by omega)]
        · intro j hj
          have hj' : j < nS μ := hj
          have hSj := hRS j hj'
          obtain ⟨a0, a1, a2, a3, a4, a5, a6⟩ := hSj
          refine ⟨a0, by rw [mI_sI, if_neg (by omega)]; exact a1, by rw [mI_sI, if_neg (by omega)]; exact a2, by rw [mI_sI, if_neg (by omega)]; exact a3, by rw [mI_sI, if_neg (by omega)]; exact a4, ?_, by rw [mI_sI, if_neg (by omega)]; exact a6⟩
          by_cases e : j = k
          · subst e
            simp [mI_sI, fA_2]
          · have e2 : ¬ S j = S k := fun z => e (hRS.inj hC hj' hk z)
            simp [mI_sI, fA_2, e, e2, a5]
        · refine ⟨hC, ⟨fun j hj => ?_, fun j hj => ?_⟩, hW.2.2.1, hW.2.2.2.1, hW.2.2.2.2.1, hW.2.2.2.2.2.1, hW.2.2.2.2.2.2⟩
          · have w1 := hW.2.1.1 j hj
            refine ⟨w1.1, w1.2.1, w1.2.2.1, ?_, w1.2.2.2.2⟩
            by_cases e : j = k
            · subst e
              exact ⟨q + m, h3, by simp [fA_2, hq2, nI_add]⟩
            · obtain ⟨y, hy, hy2⟩ := w1.2.2.2.1
              exact ⟨y, hy, by simp [fA_2, e, hy2]⟩
          · have : j ≠ k := by have : nS μ ≤ j := hj; omega
            simp [fA_2, this, hW.2.1.2 j hj]
      · refine Res.same hR hX hW (v := some (.int (-1))) ?_ (fun τ μ0 hμ hL => ?_)
        · simp [psh_some, psh_none, -Int32.not_lt, -Int32.not_le, va_rf, vd, vr, isR_r, isR_n, isA_r, isI_i, isI_r, isR_i, ar, akI, akZ, akB, akO, mI_sI, mP_sI, mK_sI, mN_sI, mX_sI, mP_sP, mI_sP, mK_sP, mN_sP, mX_sP, rc_C_drums, e_C_drums_0, e_C_drums_5, e_C_drums_10, e_C_drums_18, e_C_drums_21, e_C_drums_33, e_C_drums_35, e_C_drums_45, fK_1 hF, fK_2 hF, fK_3 hF, fK_4 hF, fK_5 hF, fK_6 hF, fN_6 hF, fK_7 hF, fN_7 hF, fK_8 hF, fN_8 hF, fK_9 hF, fN_9 hF, fK_10 hF, fK_11 hF, fN_11 hF, fK_12 hF, fK_13 hF, fN_13 hF, fK_14 hF, fN_14 hF, fK_15 hF, fN_15 hF, fK_16 hF, fN_16 hF, fP_12_0 hF, fP_12_1 hF, fP_12_2 hF, fP_12_3 hF, fP_12_4 hF, fP_12_5 hF, fP_12_6 hF, fP_12_7 hF, fP_4_0 hF, fP_4_1 hF, fP_4_2 hF, fP_4_3 hF, fP_11_0 hF, fP_7_0 hF, fP_7_1 hF, fP_7_2 hF, hF.cc, e1, c_within, bZ, h1, h2, hS]
        · simp [psh_some, psh_none, -Int32.not_lt, -Int32.not_le, rc_M_drums, q_M_drums_0, q_M_drums_5, q_M_drums_10, q_M_drums_13, q_M_drums_21, q_M_drums_24, q_M_drums_38, q_M_drums_40, q_M_drums_50, hL, hμ, m_isStop, m_in, fA_2, hC.s.1, j1, bZ, h1, h2, i1, cl12 (show k < 12 by omega)]
    · refine Res.same hR hX hW (v := some (.int (-1))) ?_ (fun τ μ0 hμ hL => ?_)
      · simp [psh_some, psh_none, -Int32.not_lt, -Int32.not_le, va_rf, vd, vr, isR_r, isR_n, isA_r, isI_i, isI_r, isR_i, ar, akI, akZ, akB, akO, mI_sI, mP_sI, mK_sI, mN_sI, mX_sI, mP_sP, mI_sP, mK_sP, mN_sP, mX_sP, rc_C_drums, e_C_drums_0, e_C_drums_5, e_C_drums_10, e_C_drums_18, e_C_drums_21, e_C_drums_33, e_C_drums_35, e_C_drums_45, fK_1 hF, fK_2 hF, fK_3 hF, fK_4 hF, fK_5 hF, fK_6 hF, fN_6 hF, fK_7 hF, fN_7 hF, fK_8 hF, fN_8 hF, fK_9 hF, fN_9 hF, fK_10 hF, fK_11 hF, fN_11 hF, fK_12 hF, fK_13 hF, fN_13 hF, fK_14 hF, fN_14 hF, fK_15 hF, fN_15 hF, fK_16 hF, fN_16 hF, fP_12_0 hF, fP_12_1 hF, fP_12_2 hF, fP_12_3 hF, fP_12_4 hF, fP_12_5 hF, fP_12_6 hF, fP_12_7 hF, fP_4_0 hF, fP_4_1 hF, fP_4_2 hF, fP_4_3 hF, fP_11_0 hF, fP_7_0 hF, fP_7_1 hF, fP_7_2 hF, hF.cc, e1, c_within, bZ_f h1, hS]
      · simp [psh_some, psh_none, -Int32.not_lt, -Int32.not_le, rc_M_drums, q_M_drums_0, q_M_drums_5, q_M_drums_10, q_M_drums_13, q_M_drums_21, q_M_drums_24, q_M_drums_38, q_M_drums_40, q_M_drums_50, hL, hμ, m_isStop, m_in, hC.s.1, bZ_t j1, bZ_f h1]
  · refine Res.same hR hX hW (v := some (.int (-1))) ?_ (fun τ μ0 hμ hL => ?_)
    · simp [psh_some, psh_none, -Int32.not_lt, -Int32.not_le, va_rf, vd, vr, isR_r, isR_n, isA_r, isI_i, isI_r, isR_i, ar, akI, akZ, akB, akO, mI_sI, mP_sI, mK_sI, mN_sI, mX_sI, mP_sP, mI_sP, mK_sP, mN_sP, mX_sP, rc_C_drums, e_C_drums_0, e_C_drums_5, e_C_drums_10, e_C_drums_18, e_C_drums_21, e_C_drums_33, e_C_drums_35, e_C_drums_45, fK_1 hF, fK_2 hF, fK_3 hF, fK_4 hF, fK_5 hF, fK_6 hF, fN_6 hF, fK_7 hF, fN_7 hF, fK_8 hF, fN_8 hF, fK_9 hF, fN_9 hF, fK_10 hF, fK_11 hF, fN_11 hF, fK_12 hF, fK_13 hF, fN_13 hF, fK_14 hF, fN_14 hF, fK_15 hF, fN_15 hF, fK_16 hF, fN_16 hF, fP_12_0 hF, fP_12_1 hF, fP_12_2 hF, fP_12_3 hF, fP_12_4 hF, fP_12_5 hF, fP_12_6 hF, fP_12_7 hF, fP_4_0 hF, fP_4_1 hF, fP_4_2 hF, fP_4_3 hF, fP_11_0 hF, fP_7_0 hF, fP_7_1 hF, fP_7_2 hF, hF.cc, c_stopAt_no (d + 16) hF hRX hC hno]
    · simp [psh_some, psh_none, -Int32.not_lt, -Int32.not_le, rc_M_drums, q_M_drums_0, q_M_drums_5, q_M_drums_10, q_M_drums_13, q_M_drums_21, q_M_drums_24, q_M_drums_38, q_M_drums_40, q_M_drums_50, hL, hμ, m_isStop, hC.s.1, bZ_f (no_ix hno)]
theorem ok_free (s : Int32) : Ok 90 134 [.int s] := by
  refine Ok_of fun d σ c a E S L B G H Q Z w μ hR hLM hX hW => ?_
  have hC := hW.1
  obtain ⟨hF, hz, hRX, hRS, hRL, hRB, hRP, hRG, hRF, hRT, hRK, hRR, hRN⟩ := id hR
  rcases nIx s (n := nS μ) (by have := hC.s.2; omega) with ⟨k, hk, rfl⟩ | hno
  · have hS := hRS k hk
    have h12 := hC.s.2
    have j1 := is_ix hk (show nS μ ≤ 1000 by omega)
    have e1 := c_stopAt (d + 16) hF hRX hC hk hS.1
    refine Res.same hR hX hW (v := some (.int (frA μ k))) ?_ (fun τ μ0 hμ hL => ?_)
    · simp [psh_some, psh_none, -Int32.not_lt, -Int32.not_le, va_rf, vd, vr, isR_r, isR_n, isA_r, isI_i, isI_r, isR_i, ar, akI, akZ, akB, akO, mI_sI, mP_sI, mK_sI, mN_sI, mX_sI, mP_sP, mI_sP, mK_sP, mN_sP, mX_sP, rc_C_free, e_C_free_0, e_C_free_5, e_C_free_10, e_C_free_14, e_C_free_18, rc_Stop_freeBuoys, e_Stop_freeBuoys_0, fK_1 hF, fK_2 hF, fK_3 hF, fK_4 hF, fK_5 hF, fK_6 hF, fN_6 hF, fK_7 hF, fN_7 hF, fK_8 hF, fN_8 hF, fK_9 hF, fN_9 hF, fK_10 hF, fK_11 hF, fN_11 hF, fK_12 hF, fK_13 hF, fN_13 hF, fK_14 hF, fN_14 hF, fK_15 hF, fN_15 hF, fK_16 hF, fN_16 hF, fP_12_0 hF, fP_12_1 hF, fP_12_2 hF, fP_12_3 hF, fP_12_4 hF, fP_12_5 hF, fP_12_6 hF, fP_12_7 hF, fP_4_0 hF, fP_4_1 hF, fP_4_2 hF, fP_4_3 hF, fP_11_0 hF, fP_7_0 hF, fP_7_1 hF, fP_7_2 hF, hF.cc, e1, hS, frA]
    · have e2 := m_freeAt (d + 19) hL hC.b.2 hC.b.1 (show k < 12 by omega)
      simp [psh_some, psh_none, -Int32.not_lt, -Int32.not_le, rc_M_free, q_M_free_0, q_M_free_5, q_M_free_10, q_M_free_13, q_M_free_18, q_M_free_21, q_M_free_22, hL, hμ, m_isStop, hC.s.1, bZ_t j1, e2, frA]
  · refine Res.same hR hX hW (v := some (.int (-1))) ?_ (fun τ μ0 hμ hL => ?_)
    · simp [psh_some, psh_none, -Int32.not_lt, -Int32.not_le, va_rf, vd, vr, isR_r, isR_n, isA_r, isI_i, isI_r, isR_i, ar, akI, akZ, akB, akO, mI_sI, mP_sI, mK_sI, mN_sI, mX_sI, mP_sP, mI_sP, mK_sP, mN_sP, mX_sP, rc_C_free, e_C_free_0, e_C_free_5, e_C_free_10, e_C_free_14, e_C_free_18, fK_1 hF, fK_2 hF, fK_3 hF, fK_4 hF, fK_5 hF, fK_6 hF, fN_6 hF, fK_7 hF, fN_7 hF, fK_8 hF, fN_8 hF, fK_9 hF, fN_9 hF, fK_10 hF, fK_11 hF, fN_11 hF, fK_12 hF, fK_13 hF, fN_13 hF, fK_14 hF, fN_14 hF, fK_15 hF, fN_15 hF, fK_16 hF, fN_16 hF, fP_12_0 hF, fP_12_1 hF, fP_12_2 hF, fP_12_3 hF, fP_12_4 hF, fP_12_5 hF, fP_12_6 hF, fP_12_7 hF, fP_4_0 hF, fP_4_1 hF, fP_4_2 hF, fP_4_3 hF, fP_11_0 hF, fP_7_0 hF, fP_7_1 hF, fP_7_2 hF, hF.cc, c_stopAt_no (d + 16) hF hRX hC hno]
    · simp [psh_some, psh_none, -Int32.not_lt, -Int32.not_le, rc_M_free, q_M_free_0, q_M_free_5, q_M_free_10, q_M_free_13, q_M_free_18, q_M_free_21, q_M_free_22, hL, hμ, m_isStop, hC.s.1, bZ_f (no_ix hno)]
theorem ok_swellOf (s h n : Int32) : Ok 67 129 [.int s, .int h, .int n] := by
  refine Ok_of fun d σ c a E S L B G H Q Z w μ hR hLM hX hW => ?_
  have hC := hW.1
  obtain ⟨hF, hz, hRX, hRS, hRL, hRB, hRP, hRG, hRF, hRT, hRK, hRR, hRN⟩ := id hR
  have h12 := hC.s.2
  have h160 := hC.f
  rcases nIx s (n := nS μ) (by omega) with ⟨k, hk, rfl⟩ | hno
  · have hS := hRS k hk
    have j1 := is_ix hk (show nS μ ≤ 1000 by omega)
    have e1 := c_stopAt (d + 16) hF hRX hC hk hS.1
    by_cases h1 : ¬ h < 0 ∧ ¬ 2399 < h
    · by_cases h2 : ¬ n < 0 ∧ ¬ nI (nF μ) < n
      · obtain ⟨m, hm, rfl⟩ : ∃ m, m ≤ nF μ ∧ n = nI m := by
          obtain ⟨j, hj, rfl⟩ := nI_of h2.1
          refine ⟨j, ?_, rfl⟩
          have := h2.2
          rw [nI_ltI (by omega) hj] at this
          omega
        refine Res.same hR hX hW (v := some (.int (kno μ 0 (nI k) h m 3))) ?_ (fun τ μ0 hμ hL => ?_)
        · simp [psh_some, psh_none, -Int32.not_lt, -Int32.not_le, va_rf, vd, vr, isR_r, isR_n, isA_r, isI_i, isI_r, isR_i, ar, akI, akZ, akB, akO, mI_sI, mP_sI, mK_sI, mN_sI, mX_sI, mP_sP, mI_sP, mK_sP, mN_sP, mX_sP, rc_C_swellOf, e_C_swellOf_0, e_C_swellOf_5, e_C_swellOf_12, e_C_swellOf_20, e_C_swellOf_23, e_C_swellOf_35, e_C_swellOf_38, e_C_swellOf_40, e_C_swellOf_51, fK_1 hF, fK_2 hF, fK_3 hF, fK_4 hF, fK_5 hF, fK_6 hF, fN_6 hF, fK_7 hF, fN_7 hF, fK_8 hF, fN_8 hF, fK_9 hF, fN_9 hF, fK_10 hF, fK_11 hF, fN_11 hF, fK_12 hF, fK_13 hF, fN_13 hF, fK_14 hF, fN_14 hF, fK_15 hF, fN_15 hF, fK_16 hF, fN_16 hF, fP_12_0 hF, fP_12_1 hF, fP_12_2 hF, fP_12_3 hF, fP_12_4 hF, fP_12_5 hF, fP_12_6 hF, fP_12_7 hF, fP_4_0 hF, fP_4_1 hF, fP_4_2 hF, fP_4_3 hF, fP_11_0 hF, fP_7_0 hF, fP_7_1 hF, fP_7_2 hF, hF.cc, e1, hS, c_within, bZ_t h1, bZ_t h2, hRF.1, h160.1, c_swellAt (d + 18) hF hC hRF hW.2.2.2.2.2.1 hRS hk h hm]
        · have e2 := m_swellAt (μ := μ) (d + 18) hL (show m ≤ 160 by omega) (nI k) h
          simp [psh_some, psh_none, -Int32.not_lt, -Int32.not_le, rc_M_swellOf, q_M_swellOf_0, q_M_swellOf_5, q_M_swellOf_10, q_M_swellOf_13, q_M_swellOf_21, q_M_swellOf_24, q_M_swellOf_33, q_M_swellOf_36, q_M_swellOf_43, q_M_swellOf_46, q_M_swellOf_47, hL, hμ, m_isStop, m_in, hC.s.1, h160.1, bZ_t j1, bZ_t h1, bZ_t h2, e2]
      · refine Res.same hR hX hW (v := some (.int (-1))) ?_ (fun τ μ0 hμ hL => ?_)
        · simp [psh_some, psh_none, -Int32.not_lt, -Int32.not_le, va_rf, vd, vr, isR_r, isR_n, isA_r, isI_i, isI_r, isR_i, ar, akI, akZ, akB, akO, mI_sI, mP_sI, mK_sI, mN_sI, mX_sI, mP_sP, mI_sP, mK_sP, mN_sP, mX_sP, rc_C_swellOf, e_C_swellOf_0, e_C_swellOf_5, e_C_swellOf_12, e_C_swellOf_20, e_C_swellOf_23, e_C_swellOf_35, e_C_swellOf_38, e_C_swellOf_40, e_C_swellOf_51, fK_1 hF, fK_2 hF, fK_3 hF, fK_4 hF, fK_5 hF, fK_6 hF, fN_6 hF, fK_7 hF, fN_7 hF, fK_8 hF, fN_8 hF, fK_9 hF, fN_9 hF, fK_10 hF, fK_11 hF, fN_11 hF, fK_12 hF, fK_13 hF, fN_13 hF, fK_14 hF, fN_14 hF, fK_15 hF, fN_15 hF, fK_16 hF, fN_16 hF, fP_12_0 hF, fP_12_1 hF, fP_12_2 hF, fP_12_3 hF, fP_12_4 hF, fP_12_5 hF, fP_12_6 hF, fP_12_7 hF, fP_4_0 hF, fP_4_1 hF, fP_4_2 hF, fP_4_3 hF, fP_11_0 hF, fP_7_0 hF, fP_7_1 hF, fP_7_2 hF, hF.cc, e1, hS, c_within, bZ_t h1, bZ_f h2, hRF.1, h160.1]
        · simp [psh_some, psh_none, -Int32.not_lt, -Int32.not_le, rc_M_swellOf, q_M_swellOf_0, q_M_swellOf_5, q_M_swellOf_10, q_M_swellOf_13, q_M_swellOf_21, q_M_swellOf_24, q_M_swellOf_33, q_M_swellOf_36, q_M_swellOf_43, q_M_swellOf_46, q_M_swellOf_47, hL, hμ, m_isStop, m_in, hC.s.1, h160.1, bZ_t j1, bZ_t h1, bZ_f h2]
    · refine Res.same hR hX hW (v := some (.int (-1))) ?_ (fun τ μ0 hμ hL => ?_)
      · simp [psh_some, psh_none, -Int32.not_lt, -Int32.not_le, va_rf, vd, vr, isR_r, isR_n, isA_r, isI_i, isI_r, isR_i, ar, akI, akZ, akB, akO, mI_sI, mP_sI, mK_sI, mN_sI, mX_sI, mP_sP, mI_sP, mK_sP, mN_sP, mX_sP, rc_C_swellOf, e_C_swellOf_0, e_C_swellOf_5, e_C_swellOf_12, e_C_swellOf_20, e_C_swellOf_23, e_C_swellOf_35, e_C_swellOf_38, e_C_swellOf_40, e_C_swellOf_51, fK_1 hF, fK_2 hF, fK_3 hF, fK_4 hF, fK_5 hF, fK_6 hF, fN_6 hF, fK_7 hF, fN_7 hF, fK_8 hF, fN_8 hF, fK_9 hF, fN_9 hF, fK_10 hF, fK_11 hF, fN_11 hF, fK_12 hF, fK_13 hF, fN_13 hF, fK_14 hF, fN_14 hF, fK_15 hF, fN_15 hF, fK_16 hF, fN_16 hF, fP_12_0 hF, fP_12_1 hF, fP_12_2 hF, fP_12_3 hF, fP_12_4 hF, fP_12_5 hF, fP_12_6 hF, fP_12_7 hF, fP_4_0 hF, fP_4_1 hF, fP_4_2 hF, fP_4_3 hF, fP_11_0 hF, fP_7_0 hF, fP_7_1 hF, fP_7_2 hF, hF.cc, e1, hS, c_within, bZ_f h1]
      · simp [psh_some, psh_none, -Int32.not_lt, -Int32.not_le, rc_M_swellOf, q_M_swellOf_0, q_M_swellOf_5, q_M_swellOf_10, q_M_swellOf_13, q_M_swellOf_21, q_M_swellOf_24, q_M_swellOf_33, q_M_swellOf_36, q_M_swellOf_43, q_M_swellOf_46, q_M_swellOf_47, hL, hμ, m_isStop, m_in, hC.s.1, bZ_t j1, bZ_f h1]
  · refine Res.same hR hX hW (v := some (.int (-1))) ?_ (fun τ μ0 hμ hL => ?_)
    · simp [psh_some, psh_none, -Int32.not_lt, -Int32.not_le, va_rf, vd, vr, isR_r, isR_n, isA_r, isI_i, isI_r, isR_i, ar, akI, akZ, akB, akO, mI_sI, mP_sI, mK_sI, mN_sI, mX_sI, mP_sP, mI_sP, mK_sP, mN_sP, mX_sP, rc_C_swellOf, e_C_swellOf_0, e_C_swellOf_5, e_C_swellOf_12, e_C_swellOf_20, e_C_swellOf_23, e_C_swellOf_35, e_C_swellOf_38, e_C_swellOf_40, e_C_swellOf_51, fK_1 hF, fK_2 hF, fK_3 hF, fK_4 hF, fK_5 hF, fK_6 hF, fN_6 hF, fK_7 hF, fN_7 hF, fK_8 hF, fN_8 hF, fK_9 hF, fN_9 hF, fK_10 hF, fK_11 hF, fN_11 hF, fK_12 hF, fK_13 hF, fN_13 hF, fK_14 hF, fN_14 hF, fK_15 hF, fN_15 hF, fK_16 hF, fN_16 hF, fP_12_0 hF, fP_12_1 hF, fP_12_2 hF, fP_12_3 hF, fP_12_4 hF, fP_12_5 hF, fP_12_6 hF, fP_12_7 hF, fP_4_0 hF, fP_4_1 hF, fP_4_2 hF, fP_4_3 hF, fP_11_0 hF, fP_7_0 hF, fP_7_1 hF, fP_7_2 hF, hF.cc, c_stopAt_no (d + 16) hF hRX hC hno]
    · simp [psh_some, psh_none, -Int32.not_lt, -Int32.not_le, rc_M_swellOf, q_M_swellOf_0, q_M_swellOf_5, q_M_swellOf_10, q_M_swellOf_13, q_M_swellOf_21, q_M_swellOf_24, q_M_swellOf_33, q_M_swellOf_36, q_M_swellOf_43, q_M_swellOf_46, q_M_swellOf_47, hL, hμ, m_isStop, hC.s.1, bZ_f (no_ix hno)]
theorem ok_windOf (s h n : Int32) : Ok 68 130 [.int s, .int h, .int n] := by
  refine Ok_of fun d σ c a E S L B G H Q Z w μ hR hLM hX hW => ?_
  have hC := hW.1
  obtain ⟨hF, hz, hRX, hRS, hRL, hRB, hRP, hRG, hRF, hRT, hRK, hRR, hRN⟩ := id hR
  have h30 := hC.l.2
  have h160 := hC.f
  rcases nIx s (n := nL μ) (by omega) with ⟨k, hk, rfl⟩ | hno
  · have hS := hRL k hk
    have j1 := is_ix hk (show nL μ ≤ 1000 by omega)
    have e1 := c_legAt (d + 16) hF hRX hC hk hS.1
    have w1 := hW.2.2.1 k hk
    by_cases h1 : ¬ h < 0 ∧ ¬ 99 < h
    · by_cases h2 : ¬ n < 0 ∧ ¬ nI (nF μ) < n
      · obtain ⟨m, hm, rfl⟩ : ∃ m, m ≤ nF μ ∧ n = nI m := by
          obtain ⟨j, hj, rfl⟩ := nI_of h2.1
          refine ⟨j, ?_, rfl⟩
          have := h2.2
          rw [nI_ltI (by omega) hj] at this
          omega
        refine Res.same hR hX hW (v := some (.int (kno μ 1 (nI k) h m 0))) ?_ (fun τ μ0 hμ hL => ?_)
        · simp [psh_some, psh_none, -Int32.not_lt, -Int32.not_le, va_rf, vd, vr, isR_r, isR_n, isA_r, isI_i, isI_r, isR_i, ar, akI, akZ, akB, akO, mI_sI, mP_sI, mK_sI, mN_sI, mX_sI, mP_sP, mI_sP, mK_sP, mN_sP, mX_sP, rc_C_windOf, e_C_windOf_0, e_C_windOf_5, e_C_windOf_12, e_C_windOf_19, e_C_windOf_22, e_C_windOf_34, e_C_windOf_37, e_C_windOf_41, e_C_windOf_57, fK_1 hF, fK_2 hF, fK_3 hF, fK_4 hF, fK_5 hF, fK_6 hF, fN_6 hF, fK_7 hF, fN_7 hF, fK_8 hF, fN_8 hF, fK_9 hF, fN_9 hF, fK_10 hF, fK_11 hF, fN_11 hF, fK_12 hF, fK_13 hF, fN_13 hF, fK_14 hF, fN_14 hF, fK_15 hF, fN_15 hF, fK_16 hF, fN_16 hF, fP_12_0 hF, fP_12_1 hF, fP_12_2 hF, fP_12_3 hF, fP_12_4 hF, fP_12_5 hF, fP_12_6 hF, fP_12_7 hF, fP_4_0 hF, fP_4_1 hF, fP_4_2 hF, fP_4_3 hF, fP_11_0 hF, fP_7_0 hF, fP_7_1 hF, fP_7_2 hF, hF.cc, e1, hS, c_within, bZ_t h1, bZ_t h2, hRF.1, h160.1, c_windFrom (d + 18) hF hC hRF hW.2.2.2.2.2.1 hRS hRL w1.2.1 hk w1.2.1 h hm]
        · have e2 := m_windAt (μ := μ) (d + 18) hL (show m ≤ 160 by omega) (nI k) h
          simp [psh_some, psh_none, -Int32.not_lt, -Int32.not_le, rc_M_windOf, q_M_windOf_0, q_M_windOf_5, q_M_windOf_10, q_M_windOf_13, q_M_windOf_20, q_M_windOf_23, q_M_windOf_32, q_M_windOf_35, q_M_windOf_42, q_M_windOf_45, q_M_windOf_48, hL, hμ, m_isLeg, m_in, hC.l.1, h160.1, bZ_t j1, bZ_t h1, bZ_t h2, e2]
      · refine Res.same hR hX hW (v := some (.int (-1000))) ?_ (fun τ μ0 hμ hL => ?_)
        · simp [psh_some, psh_none, -Int32.not_lt, -Int32.not_le, va_rf, vd, vr, isR_r, isR_n, isA_r, isI_i, isI_r, isR_i, ar, akI, akZ, akB, akO, mI_sI, mP_sI, mK_sI, mN_sI, mX_sI, mP_sP, mI_sP, mK_sP, mN_sP, mX_sP, rc_C_windOf, e_C_windOf_0, e_C_windOf_5, e_C_windOf_12, e_C_windOf_19, e_C_windOf_22, e_C_windOf_34, e_C_windOf_37, e_C_windOf_41, e_C_windOf_57, fK_1 hF, fK_2 hF, fK_3 hF, fK_4 hF, fK_5 hF, fK_6 hF, fN_6 hF, fK_7 hF, fN_7 hF, fK_8 hF, fN_8 hF, fK_9 hF, fN_9 hF, fK_10 hF, fK_11 hF, fN_11 hF, fK_12 hF, fK_13 hF, fN_13 hF, fK_14 hF, fN_14 hF, fK_15 hF, fN_15 hF, fK_16 hF, fN_16 hF, fP_12_0 hF, fP_12_1 hF, fP_12_2 hF, fP_12_3 hF, fP_12_4 hF, fP_12_5 hF, fP_12_6 hF, fP_12_7 hF, fP_4_0 hF, fP_4_1 hF, fP_4_2 hF, fP_4_3 hF, fP_11_0 hF, fP_7_0 hF, fP_7_1 hF, fP_7_2 hF, hF.cc, e1, hS, c_within, bZ_t h1, bZ_f h2, hRF.1, h160.1]
        · simp [psh_some, psh_none, -Int32.not_lt, -Int32.not_le, rc_M_windOf, q_M_windOf_0, q_M_windOf_5, q_M_windOf_10, q_M_windOf_13, q_M_windOf_20, q_M_windOf_23, q_M_windOf_32, q_M_windOf_35, q_M_windOf_42, q_M_windOf_45, q_M_windOf_48, hL, hμ, m_isLeg, m_in, hC.l.1, h160.1, bZ_t j1, bZ_t h1, bZ_f h2]
    · refine Res.same hR hX hW (v := some (.int (-1000))) ?_ (fun τ μ0 hμ hL => ?_)
      · simp [psh_some, psh_none, -Int32.not_lt, -Int32.not_le, va_rf, vd, vr, isR_r, isR_n, isA_r, isI_i, isI_r, isR_i, ar, akI, akZ, akB, akO, mI_sI, mP_sI, mK_sI, mN_sI, mX_sI, mP_sP, mI_sP, mK_sP, mN_sP, mX_sP, rc_C_windOf, e_C_windOf_0, e_C_windOf_5, e_C_windOf_12, e_C_windOf_19, e_C_windOf_22, e_C_windOf_34, e_C_windOf_37, e_C_windOf_41, e_C_windOf_57, fK_1 hF, fK_2 hF, fK_3 hF, fK_4 hF, fK_5 hF, fK_6 hF, fN_6 hF, fK_7 hF, fN_7 hF, fK_8 hF, fN_8 hF, fK_9 hF, fN_9 hF, fK_10 hF, fK_11 hF, fN_11 hF, fK_12 hF, fK_13 hF, fN_13 hF, fK_14 hF, fN_14 hF, fK_15 hF, fN_15 hF, fK_16 hF, fN_16 hF, fP_12_0 hF, fP_12_1 hF, fP_12_2 hF, fP_12_3 hF, fP_12_4 hF, fP_12_5 hF, fP_12_6 hF, fP_12_7 hF, fP_4_0 hF, fP_4_1 hF, fP_4_2 hF, fP_4_3 hF, fP_11_0 hF, fP_7_0 hF, fP_7_1 hF, fP_7_2 hF, hF.cc, e1, hS, c_within, bZ_f h1]
      · simp [psh_some, psh_none, -Int32.not_lt, -Int32.not_le, rc_M_windOf, q_M_windOf_0, q_M_windOf_5, q_M_windOf_10, q_M_windOf_13, q_M_windOf_20, q_M_windOf_23, q_M_windOf_32, q_M_windOf_35, q_M_windOf_42, q_M_windOf_45, q_M_windOf_48, hL, hμ, m_isLeg, m_in, hC.l.1, bZ_t j1, bZ_f h1]
  · refine Res.same hR hX hW (v := some (.int (-1000))) ?_ (fun τ μ0 hμ hL => ?_)
    · simp [psh_some, psh_none, -Int32.not_lt, -Int32.not_le, va_rf, vd, vr, isR_r, isR_n, isA_r, isI_i, isI_r, isR_i, ar, akI, akZ, akB, akO, mI_sI, mP_sI, mK_sI, mN_sI, mX_sI, mP_sP, mI_sP, mK_sP, mN_sP, mX_sP, rc_C_windOf, e_C_windOf_0, e_C_windOf_5, e_C_windOf_12, e_C_windOf_19, e_C_windOf_22, e_C_windOf_34, e_C_windOf_37, e_C_windOf_41, e_C_windOf_57, fK_1 hF, fK_2 hF, fK_3 hF, fK_4 hF, fK_5 hF, fK_6 hF, fN_6 hF, fK_7 hF, fN_7 hF, fK_8 hF, fN_8 hF, fK_9 hF, fN_9 hF, fK_10 hF, fK_11 hF, fN_11 hF, fK_12 hF, fK_13 hF, fN_13 hF, fK_14 hF, fN_14 hF, fK_15 hF, fN_15 hF, fK_16 hF, fN_16 hF, fP_12_0 hF, fP_12_1 hF, fP_12_2 hF, fP_12_3 hF, fP_12_4 hF, fP_12_5 hF, fP_12_6 hF, fP_12_7 hF, fP_4_0 hF, fP_4_1 hF, fP_4_2 hF, fP_4_3 hF, fP_11_0 hF, fP_7_0 hF, fP_7_1 hF, fP_7_2 hF, hF.cc, c_legAt_no (d + 16) hF hRX hC hno]
    · simp [psh_some, psh_none, -Int32.not_lt, -Int32.not_le, rc_M_windOf, q_M_windOf_0, q_M_windOf_5, q_M_windOf_10, q_M_windOf_13, q_M_windOf_20, q_M_windOf_23, q_M_windOf_32, q_M_windOf_35, q_M_windOf_42, q_M_windOf_45, q_M_windOf_48, hL, hμ, m_isLeg, hC.l.1, bZ_f (no_ix hno)]
end O40
