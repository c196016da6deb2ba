/-! ===== OPERATIONS: end, run, breaks, fuel, turn ===== -/
section O42
theorem ok_end (n : Int32) : Ok 70 143 [.int n] := by
  refine Ok_of fun d σ c a E S L B G H Q Z w μ hR hLM hX hW => ?_
  have hC := hW.1
  obtain ⟨hF, hz, hRX, hRS, hRL, hRB, hRP, hRG, hRF, hRT, hRK, hRR, hRN⟩ := id hR
  have ht := hC.t
  by_cases h1 : ¬ n < 0 ∧ ¬ nI (nT μ) < n
  · obtain ⟨m, hm, rfl⟩ : ∃ m, m ≤ nT μ ∧ n = nI m := by
      obtain ⟨j, hj, rfl⟩ := nI_of h1.1
      refine ⟨j, ?_, rfl⟩
      have := h1.2
      rw [nI_ltI (by omega) hj] at this
      omega
    have h2 : nI m ≤ nI (nT μ) := nI_le (by omega) (by omega)
    have hs : Sm (tk [11]) σ (sI σ 11 (c + 10) 1 (nI m)) := SmsI (Sm.rfl' σ) rfl _ _ _
    have hc : (nI m).toNatClampNeg = m := nI_clamp (by omega)
    refine Res.mk [11] (σ1 := sI σ 11 (c + 10) 1 (nI m)) (μ' := fF μ 40 (nI m)) (v := some (.int (nI m))) (E := E) (S := S) (L := L) (B := B) (G := G) (H := H) (Q := Q) (Z := Z) (w := w) ?_ (fun τ μ0 hμ hL => ?_) ⟨hF, hz.fr hs rfl, hRX.fr hz hX hs rfl rfl rfl rfl rfl rfl rfl, hRS.fr hX hs rfl rfl rfl rfl rfl rfl rfl rfl rfl, hRL.fr hX hs rfl rfl rfl rfl rfl, hRB.fr hX hs rfl rfl rfl rfl (Ar_of (by repeat' constructor)), hRP.fr (fun k hk => (hRB k hk).1.1) hX hs rfl rfl rfl (Ar_of (by repeat' constructor)), hRG.fr hX hs rfl rfl rfl (Ar_of (by repeat' constructor)), hRF.fr hF hX hs rfl rfl rfl rfl rfl rfl (Ar_of (by repeat' constructor)), ⟨?_, hRT.2⟩, hRK.fr hF hX hs rfl rfl rfl rfl rfl (Ar_of (by repeat' constructor)), hRR.fr hF hX hs rfl (by rintro q (rfl | rfl | rfl | rfl | rfl | rfl | rfl | rfl) <;> rfl) rfl (Ar_of (by repeat' constructor)), hRN.fr hF hX hs rfl rfl rfl rfl rfl rfl⟩ hs (by decide) hX ?_ (by simp only [mX_sI]; omega) (by simp only [mS_sI]; omega)
    · simp [psh_some, psh_none, -Int32.not_lt, -Int32.not_le, va_rf, vd, vr, isR_r, isR_n, isA_r, isI_i, isI_r, isR_i, ar, akI, akZ, akB, akO, mI_sI, mP_sI, mK_sI, mN_sI, mX_sI, mP_sP, mI_sP, mK_sP, mN_sP, mX_sP, rc_C_end, e_C_end_0, e_C_end_12, e_C_end_15, e_C_end_17, e_C_end_25, fK_1 hF, fK_2 hF, fK_3 hF, fK_4 hF, fK_5 hF, fK_6 hF, fN_6 hF, fK_7 hF, fN_7 hF, fK_8 hF, fN_8 hF, fK_9 hF, fN_9 hF, fK_10 hF, fK_11 hF, fN_11 hF, fK_12 hF, fK_13 hF, fN_13 hF, fK_14 hF, fN_14 hF, fK_15 hF, fN_15 hF, fK_16 hF, fN_16 hF, fP_12_0 hF, fP_12_1 hF, fP_12_2 hF, fP_12_3 hF, fP_12_4 hF, fP_12_5 hF, fP_12_6 hF, fP_12_7 hF, fP_4_0 hF, fP_4_1 hF, fP_4_2 hF, fP_4_3 hF, fP_11_0 hF, fP_7_0 hF, fP_7_1 hF, fP_7_2 hF, hF.cc, hRT.1, ht.1, c_within, bZ_t h1]
    · simp [psh_some, psh_none, -Int32.not_lt, -Int32.not_le, rc_M_end, q_M_end_0, q_M_end_5, q_M_end_9, q_M_end_17, q_M_end_19, q_M_end_24, hL, hμ, ht.1, h1, h2]
    · simp [mI_sI, fF_1]
    · refine ⟨?_, hW.2.1, hW.2.2.1, hW.2.2.2.1, hW.2.2.2.2.1, hW.2.2.2.2.2.1, hW.2.2.2.2.2.2⟩
      refine ⟨hC.1, hC.2.1, hC.2.2.1, hC.2.2.2.1, hC.2.2.2.2.1, hC.2.2.2.2.2.1, ?_, hC.2.2.2.2.2.2.2⟩
      simp only [nT, fF_1, if_true, hc]
      exact ⟨trivial, by omega⟩
  · refine Res.same hR hX hW (v := some (.int (-1))) ?_ (fun τ μ0 hμ hL => ?_)
    · simp [psh_some, psh_none, -Int32.not_lt, -Int32.not_le, va_rf, vd, vr, isR_r, isR_n, isA_r, isI_i, isI_r, isR_i, ar, akI, akZ, akB, akO, mI_sI, mP_sI, mK_sI, mN_sI, mX_sI, mP_sP, mI_sP, mK_sP, mN_sP, mX_sP, rc_C_end, e_C_end_0, e_C_end_12, e_C_end_15, e_C_end_17, e_C_end_25, fK_1 hF, fK_2 hF, fK_3 hF, fK_4 hF, fK_5 hF, fK_6 hF, fN_6 hF, fK_7 hF, fN_7 hF, fK_8 hF, fN_8 hF, fK_9 hF, fN_9 hF, fK_10 hF, fK_11 hF, fN_11 hF, fK_12 hF, fK_13 hF, fN_13 hF, fK_14 hF, fN_14 hF, fK_15 hF, fN_15 hF, fK_16 hF, fN_16 hF, fP_12_0 hF, fP_12_1 hF, fP_12_2 hF, fP_12_3 hF, fP_12_4 hF, fP_12_5 hF, fP_12_6 hF, fP_12_7 hF, fP_4_0 hF, fP_4_1 hF, fP_4_2 hF, fP_4_3 hF, fP_11_0 hF, fP_7_0 hF, fP_7_1 hF, fP_7_2 hF, hF.cc, hRT.1, ht.1, c_within, bZ_f h1]
    · by_cases h2 : n < 0
      · simp [psh_some, psh_none, -Int32.not_lt, -Int32.not_le, rc_M_end, q_M_end_0, q_M_end_5, q_M_end_9, q_M_end_17, q_M_end_19, q_M_end_24, hL, hμ, ht.1, h2]
      · have h3 : ¬ n ≤ nI (nT μ) := fun z => h1 ⟨h2, by simpa using z⟩
        simp [psh_some, psh_none, -Int32.not_lt, -Int32.not_le, rc_M_end, q_M_end_0, q_M_end_5, q_M_end_9, q_M_end_17, q_M_end_19, q_M_end_24, hL, hμ, ht.1, h2, h3]
theorem ok_run (x y : Int32) : Ok 86 179 [.int x, .int y] := by
  refine Ok_of fun d σ c a E S L B G H Q Z w μ hR hLM hX hW => ?_
  have hC := hW.1
  obtain ⟨hF, hz, hRX, hRS, hRL, hRB, hRP, hRG, hRF, hRT, hRK, hRR, hRN⟩ := id hR
  have hk := hC.k
  rcases nIx x (n := nK μ) (by omega) with ⟨k, hkk, rfl⟩ | hno
  · have i1 := sz_ok hkk (show nK μ ≤ 1000 by omega)
    have i2 : ¬ nI k < 0 := nI_pos (by omega)
    have i3 : ¬ nI (nK μ) ≤ nI k := nI_ge hkk (by omega)
    have i4 : ix (nI k) 200 = true := ix_of (by omega) (by omega)
    have i5 : ¬ nI k < 0 ∧ ¬ nI (nK μ) - 1 < nI k := ⟨i2, i1⟩
    have ck := cl1000 (show k < 1000 by omega)
    have r1 := hRK.2 k hkk
    by_cases h1 : ¬ y < 0 ∧ ¬ 200000 < y
    · have hs : Sm (tk [55]) σ (sI σ 55 (c + 15) k y) := SmsI (Sm.rfl' σ) rfl _ _ _
      refine Res.mk [55] (σ1 := sI σ 55 (c + 15) k y) (μ' := fA μ 59 k y) (v := some (.int (bZ (¬ y < μ.2 57 k + 100)))) (E := E) (S := S) (L := L) (B := B) (G := G) (H := H) (Q := Q) (Z := Z) (w := w) ?_ (fun τ μ0 hμ hL => ?_) ⟨hF.fr hX hs (by rintro q (rfl | rfl | rfl | rfl | rfl) <;> rfl), hz.fr hs rfl, hRX.fr hz hX hs rfl rfl rfl rfl rfl rfl rfl, hRS.fr hX hs rfl rfl rfl rfl rfl rfl rfl rfl rfl, hRL.fr hX hs rfl rfl rfl rfl rfl, hRB.fr hX hs rfl rfl rfl rfl (Ar_of (by repeat' constructor)), hRP.fr (fun k hk => (hRB k hk).1.1) hX hs rfl rfl rfl (Ar_of (by repeat' constructor)), hRG.fr hX hs rfl rfl rfl (Ar_of (by repeat' constructor)), hRF.fr hF hX hs rfl rfl rfl rfl rfl rfl (Ar_of (by repeat' constructor)), hRT.fr hF hX hs rfl rfl rfl rfl, ⟨hRK.1, fun l hl => ?_⟩, hRR.fr hF hX hs rfl (by rintro q (rfl | rfl | rfl | rfl | rfl | rfl | rfl | rfl) <;> rfl) rfl (Ar_of (by repeat' constructor)), hRN.fr hF hX hs rfl rfl rfl rfl rfl rfl⟩ hs (by decide) hX ?_ (by simp only [mX_sI]; omega) (by simp only [mS_sI]; omega)
      · by_cases h2 : y < μ.2 57 k + 100 <;> simp [psh_some, psh_none, -Int32.not_lt, -Int32.not_le, va_rf, vd, vr, isR_r, isR_n, isA_r, isI_i, isI_r, isR_i, ar, akI, akZ, akB, akO, mI_sI, mP_sI, mK_sI, mN_sI, mX_sI, mP_sP, mI_sP, mK_sP, mN_sP, mX_sP, rc_C_run, e_C_run_0, e_C_run_14, e_C_run_17, e_C_run_25, e_C_run_28, e_C_run_30, e_C_run_39, rc_LiftLog_find, e_LiftLog_find_0, e_LiftLog_find_11, e_LiftLog_find_14, e_LiftLog_find_16, e_LiftLog_find_23, e_LiftLog_find_28, rc_LiftLog_isExcess, e_LiftLog_isExcess_0, e_LiftLog_isExcess_18, e_LiftLog_isExcess_22, e_LiftLog_isExcess_23, fK_1 hF, fK_2 hF, fK_3 hF, fK_4 hF, fK_5 hF, fK_6 hF, fN_6 hF, fK_7 hF, fN_7 hF, fK_8 hF, fN_8 hF, fK_9 hF, fN_9 hF, fK_10 hF, fK_11 hF, fN_11 hF, fK_12 hF, fK_13 hF, fN_13 hF, fK_14 hF, fN_14 hF, fK_15 hF, fN_15 hF, fK_16 hF, fN_16 hF, fP_12_0 hF, fP_12_1 hF, fP_12_2 hF, fP_12_3 hF, fP_12_4 hF, fP_12_5 hF, fP_12_6 hF, fP_12_7 hF, fP_4_0 hF, fP_4_1 hF, fP_4_2 hF, fP_4_3 hF, fP_11_0 hF, fP_7_0 hF, fP_7_1 hF, fP_7_2 hF, hF.cc, hRK.1, hk.1, c_within, i1, i2, h1.1, h1.2, i4, ck, r1, h2, bZ]
      · have e2 := m_isExcess (μ := fA μ 59 k y) (d + 19) hL (show k < 200 by omega)
        simp [psh_some, psh_none, -Int32.not_lt, -Int32.not_le, rc_M_run, q_M_run_0, q_M_run_5, q_M_run_9, q_M_run_17, q_M_run_25, q_M_run_28, q_M_run_30, q_M_run_37, q_M_run_42, hL, hμ, hk.1, i2, i3, m_in, bZ_t h1, i4, ck, e2, fA_2, bZ_or]
      · have r2 := hRK.2 l hl
        refine ⟨r2.1, r2.2.1, ?_⟩
        by_cases e : l = k
        · subst e; simp [mI_sI, fA_2]
        · simp [mI_sI, fA_2, e, r2.2.2]
      · exact ⟨hC, hW.2.1, hW.2.2.1, hW.2.2.2.1, hW.2.2.2.2.1, hW.2.2.2.2.2.1, hW.2.2.2.2.2.2⟩
    · refine Res.same hR hX hW (v := some (.int 0)) ?_ (fun τ μ0 hμ hL => ?_)
      · simp [psh_some, psh_none, -Int32.not_lt, -Int32.not_le, va_rf, vd, vr, isR_r, isR_n, isA_r, isI_i, isI_r, isR_i, ar, akI, akZ, akB, akO, mI_sI, mP_sI, mK_sI, mN_sI, mX_sI, mP_sP, mI_sP, mK_sP, mN_sP, mX_sP, rc_C_run, e_C_run_0, e_C_run_14, e_C_run_17, e_C_run_25, e_C_run_28, e_C_run_30, e_C_run_39, fK_1 hF, fK_2 hF, fK_3 hF, fK_4 hF, fK_5 hF, fK_6 hF, fN_6 hF, fK_7 hF, fN_7 hF, fK_8 hF, fN_8 hF, fK_9 hF, fN_9 hF, fK_10 hF, fK_11 hF, fN_11 hF, fK_12 hF, fK_13 hF, fN_13 hF, fK_14 hF, fN_14 hF, fK_15 hF, fN_15 hF, fK_16 hF, fN_16 hF, fP_12_0 hF, fP_12_1 hF, fP_12_2 hF, fP_12_3 hF, fP_12_4 hF, fP_12_5 hF, fP_12_6 hF, fP_12_7 hF, fP_4_0 hF, fP_4_1 hF, fP_4_2 hF, fP_4_3 hF, fP_11_0 hF, fP_7_0 hF, fP_7_1 hF, fP_7_2 hF, hF.cc, hRK.1, hk.1, c_within, bZ_f h1, bZ_t i5]
      · simp [psh_some, psh_none, -Int32.not_lt, -Int32.not_le, rc_M_run, q_M_run_0, q_M_run_5, q_M_run_9, q_M_run_17, q_M_run_25, q_M_run_28, q_M_run_30, q_M_run_37, q_M_run_42, hL, hμ, hk.1, i2, i3, m_in, bZ_f h1]
  · have i1 : ¬ (¬ x < 0 ∧ ¬ nI (nK μ) - 1 < x) := fun z => z.2 (sz_no (by omega) hno z.1)
    refine Res.same hR hX hW (v := some (.int 0)) ?_ (fun τ μ0 hμ hL => ?_)
    · simp [psh_some, psh_none, -Int32.not_lt, -Int32.not_le, va_rf, vd, vr, isR_r, isR_n, isA_r, isI_i, isI_r, isR_i, ar, akI, akZ, akB, akO, mI_sI, mP_sI, mK_sI, mN_sI, mX_sI, mP_sP, mI_sP, mK_sP, mN_sP, mX_sP, rc_C_run, e_C_run_0, e_C_run_14, e_C_run_17, e_C_run_25, e_C_run_28, e_C_run_30, e_C_run_39, fK_1 hF, fK_2 hF, fK_3 hF, fK_4 hF, fK_5 hF, fK_6 hF, fN_6 hF, fK_7 hF, fN_7 hF, fK_8 hF, fN_8 hF, fK_9 hF, fN_9 hF, fK_10 hF, fK_11 hF, fN_11 hF, fK_12 hF, fK_13 hF, fN_13 hF, fK_14 hF, fN_14 hF, fK_15 hF, fN_15 hF, fK_16 hF, fN_16 hF, fP_12_0 hF, fP_12_1 hF, fP_12_2 hF, fP_12_3 hF, fP_12_4 hF, fP_12_5 hF, fP_12_6 hF, fP_12_7 hF, fP_4_0 hF, fP_4_1 hF, fP_4_2 hF, fP_4_3 hF, fP_11_0 hF, fP_7_0 hF, fP_7_1 hF, fP_7_2 hF, hF.cc, hRK.1, hk.1, c_within, bZ_f i1]
    · rcases hno with h | h
      · simp [psh_some, psh_none, -Int32.not_lt, -Int32.not_le, rc_M_run, q_M_run_0, q_M_run_5, q_M_run_9, q_M_run_17, q_M_run_25, q_M_run_28, q_M_run_30, q_M_run_37, q_M_run_42, hL, hμ, hk.1, h]
      · by_cases h2 : x < 0 <;> simp [psh_some, psh_none, -Int32.not_lt, -Int32.not_le, rc_M_run, q_M_run_0, q_M_run_5, q_M_run_9, q_M_run_17, q_M_run_25, q_M_run_28, q_M_run_30, q_M_run_37, q_M_run_42, hL, hμ, hk.1, h, h2]
theorem ok_breaks (x y : Int32) (hy : y = 0 ∨ y = 1) : Ok 79 170 [.int x, .int y] := by
  refine Ok_of fun d σ c a E S L B G H Q Z w μ hR hLM hX hW => ?_
  have hC := hW.1
  obtain ⟨hF, hz, hRX, hRS, hRL, hRB, hRP, hRG, hRF, hRT, hRK, hRR, hRN⟩ := id hR
  have hb := hC.b
  rcases nIx x (n := nB μ) (by omega) with ⟨k, hk, rfl⟩ | hno
  · have i4 : ix (nI k) 6 = true := ix_of (by omega) (by omega)
    have ck := cl6 (show k < 6 by omega)
    have em := c_moored (d + 15) hF hRX hC hRB hk
    obtain ⟨a0, a1, a2, a3, a4, a5, a6, a7, a8, a9, a10, a11, a12, a13, a14, a15⟩ := (hRB k hk).1
    by_cases h0 : μ.2 24 k = 0
    · rw [if_pos h0] at em
      by_cases h1 : μ.2 31 k = y
      · refine Res.same hR hX hW (v := some (.int 0)) ?_ (fun τ μ0 hμ hL => ?_)
        · simp [psh_some, psh_none, -Int32.not_lt, -Int32.not_le, va_rf, vd, vr, isR_r, isR_n, isA_r, isI_i, isI_r, isR_i, ar, akI, akZ, akB, akO, mI_sI, mP_sI, mK_sI, mN_sI, mX_sI, mP_sP, mI_sP, mK_sP, mN_sP, mX_sP, rc_C_breaks, e_C_breaks_0, e_C_breaks_5, e_C_breaks_10, e_C_breaks_18, e_C_breaks_20, e_C_breaks_25, fK_1 hF, fK_2 hF, fK_3 hF, fK_4 hF, fK_5 hF, fK_6 hF, fN_6 hF, fK_7 hF, fN_7 hF, fK_8 hF, fN_8 hF, fK_9 hF, fN_9 hF, fK_10 hF, fK_11 hF, fN_11 hF, fK_12 hF, fK_13 hF, fN_13 hF, fK_14 hF, fN_14 hF, fK_15 hF, fN_15 hF, fK_16 hF, fN_16 hF, fP_12_0 hF, fP_12_1 hF, fP_12_2 hF, fP_12_3 hF, fP_12_4 hF, fP_12_5 hF, fP_12_6 hF, fP_12_7 hF, fP_4_0 hF, fP_4_1 hF, fP_4_2 hF, fP_4_3 hF, fP_11_0 hF, fP_7_0 hF, fP_7_1 hF, fP_7_2 hF, hF.cc, em, a0, a9, h1]
        · simp [psh_some, psh_none, -Int32.not_lt, -Int32.not_le, rc_M_breaks, q_M_breaks_0, q_M_breaks_5, q_M_breaks_10, q_M_breaks_13, q_M_breaks_23, q_M_breaks_25, q_M_breaks_32, hL, hμ, m_isMoored (d + 18) hL hb.1 hb.2 hk, bZ_t h0, i4, ck, h1]
      · have hs : Sm (tk [3]) σ (sI σ 3 (B k) 11 y) := SmsI (Sm.rfl' σ) rfl _ _ _
        refine Res.mk [3] (σ1 := sI σ 3 (B k) 11 y) (μ' := fA μ 31 k y) (v := some (.int 1)) (E := E) (S := S) (L := L) (B := B) (G := G) (H := H) (Q := Q) (Z := Z) (w := w) ?_ (fun τ μ0 hμ hL => ?_) ⟨hF.fr hX hs (by rintro q (rfl | rfl | rfl | rfl | rfl) <;> rfl), hz.fr hs rfl, hRX.fr hz hX hs rfl rfl rfl rfl rfl rfl rfl, hRS.fr hX hs rfl rfl rfl rfl rfl rfl rfl rfl rfl, hRL.fr hX hs rfl rfl rfl rfl rfl, ?_, RP_eq hRP (fun q => by simp [mI_sI]) (fun q => by simp [mI_sI]) rfl rfl (Ar_of (by repeat' constructor)), hRG.fr hX hs rfl rfl rfl (Ar_of (by repeat' constructor)), hRF.fr hF hX hs rfl rfl rfl rfl rfl rfl (Ar_of (by repeat' constructor)), hRT.fr hF hX hs rfl rfl rfl rfl, hRK.fr hF hX hs rfl rfl rfl rfl rfl (Ar_of (by repeat' constructor)), hRR.fr hF hX hs rfl (by rintro q (rfl | rfl | rfl | rfl | rfl | rfl | rfl | rfl) <;> rfl) rfl (Ar_of (by repeat' constructor)), hRN.fr hF hX hs rfl rfl rfl rfl rfl rfl⟩ hs (by decide) hX ?_ (by simp only [mX_sI]; omega) (by simp only [mS_sI]; omega)
        · simp [psh_some, psh_none, -Int32.not_lt, -Int32.not_le, va_rf, vd, vr, isR_r, isR_n, isA_r, isI_i, isI_r, isR_i, ar, akI, akZ, akB, akO, mI_sI, mP_sI, mK_sI, mN_sI, mX_sI, mP_sP, mI_sP, mK_sP, mN_sP, mX_sP, rc_C_breaks, e_C_breaks_0, e_C_breaks_5, e_C_breaks_10, e_C_breaks_18, e_C_breaks_20, e_C_breaks_25, fK_1 hF, fK_2 hF, fK_3 hF, fK_4 hF, fK_5 hF, fK_6 hF, fN_6 hF, fK_7 hF, fN_7 hF, fK_8 hF, fN_8 hF, fK_9 hF, fN_9 hF, fK_10 hF, fK_11 hF, fN_11 hF, fK_12 hF, fK_13 hF, fN_13 hF, fK_14 hF, fN_14 hF, fK_15 hF, fN_15 hF, fK_16 hF, fN_16 hF, fP_12_0 hF, fP_12_1 hF, fP_12_2 hF, fP_12_3 hF, fP_12_4 hF, fP_12_5 hF, fP_12_6 hF, fP_12_7 hF, fP_4_0 hF, fP_4_1 hF, fP_4_2 hF, fP_4_3 hF, fP_11_0 hF, fP_7_0 hF, fP_7_1 hF, fP_7_2 hF, hF.cc, em, a0, a9, h1, hy]
        · simp [psh_some, psh_none, -Int32.not_lt, -Int32.not_le, rc_M_breaks, q_M_breaks_0, q_M_breaks_5, q_M_breaks_10, q_M_breaks_13, q_M_breaks_23, q_M_breaks_25, q_M_breaks_32, hL, hμ, m_isMoored (d + 18) hL hb.1 hb.2 hk, bZ_t h0, i4, ck, h1, hy]
        · refine RB_upd hRB hC hk rfl (fun j hj f => by simp [mI_sI, hj]) (fun j hj f => rfl) (fun q f => by simp [mI_sI]) rfl rfl (fun f _ _ j hj => by simp [fA_2, hj]) (fun f h1 h2 => by rw [fA_2n _ (by omega)]) ?_
          simp +contextual [RB1, aT, wH, mI_sI, mP_sI, mK_sI, fA_2, fA_1, a0, a1, a2, a3, a4, a5, a6, a7, a8, a9, a10, a11, a12, a13, a14, a15]
        · refine ⟨hC, WS_eq hW.2.1 rfl (Ar_of (by repeat' constructor)) (fun s hs => rfl), hW.2.2.1, WB_upd hW.2.2.2.1 hk rfl rfl (fun f _ _ j hj => by simp [fA_2, hj]) ?_, WG_eq hW.2.2.2.2.1 rfl rfl rfl (Ar_of (by repeat' constructor)), hW.2.2.2.2.2.1, hW.2.2.2.2.2.2⟩
          obtain ⟨b0, b1, b2, b3, b4, b5, b6, b7, b8, b9, b10, b11, b12⟩ := hW.2.2.2.1.1 k hk
          exact ⟨b0, b1, b2, b3, b4, b5, b6, b7, b8, b9, by simpa [fA_2] using hy, b11, b12⟩
    · rw [if_neg h0] at em
      refine Res.same hR hX hW (v := some (.int 0)) ?_ (fun τ μ0 hμ hL => ?_)
      · simp [psh_some, psh_none, -Int32.not_lt, -Int32.not_le, va_rf, vd, vr, isR_r, isR_n, isA_r, isI_i, isI_r, isR_i, ar, akI, akZ, akB, akO, mI_sI, mP_sI, mK_sI, mN_sI, mX_sI, mP_sP, mI_sP, mK_sP, mN_sP, mX_sP, rc_C_breaks, e_C_breaks_0, e_C_breaks_5, e_C_breaks_10, e_C_breaks_18, e_C_breaks_20, e_C_breaks_25, fK_1 hF, fK_2 hF, fK_3 hF, fK_4 hF, fK_5 hF, fK_6 hF, fN_6 hF, fK_7 hF, fN_7 hF, fK_8 hF, fN_8 hF, fK_9 hF, fN_9 hF, fK_10 hF, fK_11 hF, fN_11 hF, fK_12 hF, fK_13 hF, fN_13 hF, fK_14 hF, fN_14 hF, fK_15 hF, fN_15 hF, fK_16 hF, fN_16 hF, fP_12_0 hF, fP_12_1 hF, fP_12_2 hF, fP_12_3 hF, fP_12_4 hF, fP_12_5 hF, fP_12_6 hF, fP_12_7 hF, fP_4_0 hF, fP_4_1 hF, fP_4_2 hF, fP_4_3 hF, fP_11_0 hF, fP_7_0 hF, fP_7_1 hF, fP_7_2 hF, hF.cc, em]
      · simp [psh_some, psh_none, -Int32.not_lt, -Int32.not_le, rc_M_breaks, q_M_breaks_0, q_M_breaks_5, q_M_breaks_10, q_M_breaks_13, q_M_breaks_23, q_M_breaks_25, q_M_breaks_32, hL, hμ, m_isMoored (d + 18) hL hb.1 hb.2 hk, bZ_f h0]
  · refine Res.same hR hX hW (v := some (.int 0)) ?_ (fun τ μ0 hμ hL => ?_)
    · simp [psh_some, psh_none, -Int32.not_lt, -Int32.not_le, va_rf, vd, vr, isR_r, isR_n, isA_r, isI_i, isI_r, isR_i, ar, akI, akZ, akB, akO, mI_sI, mP_sI, mK_sI, mN_sI, mX_sI, mP_sP, mI_sP, mK_sP, mN_sP, mX_sP, rc_C_breaks, e_C_breaks_0, e_C_breaks_5, e_C_breaks_10, e_C_breaks_18, e_C_breaks_20, e_C_breaks_25, fK_1 hF, fK_2 hF, fK_3 hF, fK_4 hF, fK_5 hF, fK_6 hF, fN_6 hF, fK_7 hF, fN_7 hF, fK_8 hF, fN_8 hF, fK_9 hF, fN_9 hF, fK_10 hF, fK_11 hF, fN_11 hF, fK_12 hF, fK_13 hF, fN_13 hF, fK_14 hF, fN_14 hF, fK_15 hF, fN_15 hF, fK_16 hF, fN_16 hF, fP_12_0 hF, fP_12_1 hF, fP_12_2 hF, fP_12_3 hF, fP_12_4 hF, fP_12_5 hF, fP_12_6 hF, fP_12_7 hF, fP_4_0 hF, fP_4_1 hF, fP_4_2 hF, fP_4_3 hF, fP_11_0 hF, fP_7_0 hF, fP_7_1 hF, fP_7_2 hF, hF.cc, c_moored_no (d + 15) hF hRX hC hno]
    · simp [psh_some, psh_none, -Int32.not_lt, -Int32.not_le, rc_M_breaks, q_M_breaks_0, q_M_breaks_5, q_M_breaks_10, q_M_breaks_13, q_M_breaks_23, q_M_breaks_25, q_M_breaks_32, hL, hμ, m_isMoored_no (d + 18) hL hb.1 hno]
theorem ok_fuel (x n : Int32) : Ok 73 158 [.int x, .int n] := by
  refine Ok_of fun d σ c a E S L B G H Q Z w μ hR hLM hX hW => ?_
  have hC := hW.1
  obtain ⟨hF, hz, hRX, hRS, hRL, hRB, hRP, hRG, hRF, hRT, hRK, hRR, hRN⟩ := id hR
  have hb := hC.b
  have hs12 := hC.s.2
  rcases nIx x (n := nB μ) (by omega) with ⟨k, hk, rfl⟩ | hno
  · have i4 : ix (nI k) 6 = true := ix_of (by omega) (by omega)
    have ck := cl6 (show k < 6 by omega)
    have em := c_moored (d + 15) hF hRX hC hRB hk
    obtain ⟨a0, a1, a2, a3, a4, a5, a6, a7, a8, a9, a10, a11, a12, a13, a14, a15⟩ := (hRB k hk).1
    obtain ⟨u0, u1, u2, u3, u4, u5, u6, u7⟩ := (hRB k hk).2
    have hw := hW.2.2.2.1.1 k hk
    obtain ⟨b0, b1, b2, b3, b4, ⟨t, f, t1, t2, t3, t4, t5⟩, b6, b7, b8, b9, b10, b11, b12⟩ := hw
    have hS := hRS _ b0.2
    have i5 : ix (nI (aT μ k)) 12 = true := ix_of (by omega) (by omega)
    have ca := cl12 (show aT μ k < 12 by omega)
    by_cases h0 : μ.2 24 k = 0
    · rw [if_pos h0] at em
      by_cases h1 : n < 1
      · refine Res.same hR hX hW (v := some (.int (-1))) ?_ (fun τ μ0 hμ hL => ?_)
        · simp [psh_some, psh_none, -Int32.not_lt, -Int32.not_le, va_rf, vd, vr, isR_r, isR_n, isA_r, isI_i, isI_r, isR_i, ar, akI, akZ, akB, akO, mI_sI, mP_sI, mK_sI, mN_sI, mX_sI, mP_sP, mI_sP, mK_sP, mN_sP, mX_sP, rc_C_fuel, e_C_fuel_0, e_C_fuel_5, e_C_fuel_10, e_C_fuel_15, e_C_fuel_26, e_C_fuel_28, e_C_fuel_41, e_C_fuel_78, e_C_fuel_89, fK_1 hF, fK_2 hF, fK_3 hF, fK_4 hF, fK_5 hF, fK_6 hF, fN_6 hF, fK_7 hF, fN_7 hF, fK_8 hF, fN_8 hF, fK_9 hF, fN_9 hF, fK_10 hF, fK_11 hF, fN_11 hF, fK_12 hF, fK_13 hF, fN_13 hF, fK_14 hF, fN_14 hF, fK_15 hF, fN_15 hF, fK_16 hF, fN_16 hF, fP_12_0 hF, fP_12_1 hF, fP_12_2 hF, fP_12_3 hF, fP_12_4 hF, fP_12_5 hF, fP_12_6 hF, fP_12_7 hF, fP_4_0 hF, fP_4_1 hF, fP_4_2 hF, fP_4_3 hF, fP_11_0 hF, fP_7_0 hF, fP_7_1 hF, fP_7_2 hF, hF.cc, em, h1]
        · simp [psh_some, psh_none, -Int32.not_lt, -Int32.not_le, rc_M_fuel, q_M_fuel_0, q_M_fuel_5, q_M_fuel_10, q_M_fuel_13, q_M_fuel_18, q_M_fuel_33, q_M_fuel_35, q_M_fuel_50, q_M_fuel_72, q_M_fuel_89, q_M_fuel_96, q_M_fuel_103, hL, hμ, m_isMoored (d + 18) hL hb.1 hb.2 hk, bZ_t h0, h1]
      · by_cases h2 : n ≤ μ.2 6 (aT μ k)
        · obtain ⟨q, hq, hq2⟩ := (hW.2.1.1 _ b0.2).2.2.2.1
          obtain ⟨m, hm0, hm, rfl⟩ : ∃ m, 1 ≤ m ∧ m ≤ q ∧ n = nI m := by
            obtain ⟨j, hj, rfl⟩ := nI_of (x := n) (fun z => h1 (Int32.lt_trans z (by decide)))
            rw [hq2, nI_leI hj (by omega)] at h2
            rw [show (1 : Int32) = nI 1 from rfl, nI_ltI hj (by omega)] at h1
            exact ⟨j, by omega, h2, rfl⟩
          have e50 : nI m * 50 = nI (m * 50) := by rw [show (50 : Int32) = nI 50 from rfl, pk_mul]
          have e50' : (50 : Int32) * nI m = nI (m * 50) := by rw [show (50 : Int32) = nI 50 from rfl, pk_mul, Nat.mul_comm]
          have etf : nI t - nI f = nI (t - f) := pk_sub t4
          have eqm : nI q - nI m = nI (q - m) := pk_sub hm
          have hs : Sm (tk [3, 10, 12]) σ (sI (sI (sI σ 10 (S (aT μ k)) 4 (nI (q - m))) 12 c 12 (μ.1 38 + nI (m * 50 - min (m * 50) (t - f)))) 3 (B k) 5 (nI (f + min (m * 50) (t - f)))) := SmsI (SmsI (SmsI (Sm.rfl' σ) rfl _ _ _) rfl _ _ _) rfl _ _ _
          have em2 : (if nI (t - f) < nI (m * 50) then nI (t - f) else nI (m * 50)) = nI (min (m * 50) (t - f)) := by
            by_cases z : t - f < m * 50
            · rw [if_pos (nI_lt z (by omega)), Nat.min_eq_right (by omega)]
            · rw [if_neg (nI_nlt (by omega) (by omega)), Nat.min_eq_left (by omega)]
          have em3 : nI (m * 50) - nI (min (m * 50) (t - f)) = nI (m * 50 - min (m * 50) (t - f)) := pk_sub (by omega)
          refine Res.mk [3, 10, 12] (σ1 := sI (sI (sI σ 10 (S (aT μ k)) 4 (nI (q - m))) 12 c 12 (μ.1 38 + nI (m * 50 - min (m * 50) (t - f)))) 3 (B k) 5 (nI (f + min (m * 50) (t - f)))) (μ' := fF (fA (fA μ 6 (aT μ k) (nI (q - m))) 27 k (nI (f + min (m * 50) (t - f)))) 38 (μ.1 38 + nI (m * 50 - min (m * 50) (t - f)))) (v := some (.int (nI (f + min (m * 50) (t - f))))) (E := E) (S := S) (L := L) (B := B) (G := G) (H := H) (Q := Q) (Z := Z) (w := w) ?_ (fun τ μ0 hμ hL => ?_) ⟨hF, hz.fr hs rfl, hRX.fr hz hX hs rfl rfl rfl rfl rfl rfl rfl, ?_, hRL.fr hX hs rfl rfl rfl rfl rfl, ?_, RP_eq hRP (fun q => by simp [mI_sI]) (fun q => by simp [mI_sI]) rfl rfl (Ar_of (by repeat' constructor)), hRG.fr hX hs rfl rfl rfl (Ar_of (by repeat' constructor)), hRF.fr hF hX hs rfl rfl rfl rfl rfl rfl (Ar_of (by repeat' constructor)), hRT.fr hF hX hs rfl rfl rfl rfl, hRK.fr hF hX hs rfl rfl rfl rfl rfl (Ar_of (by repeat' constructor)), ⟨hRR.1, hRR.2.1, hRR.2.2.fr (hF.ru w) hX hs (by rintro q (rfl | rfl | rfl | rfl | rfl | rfl | rfl | rfl) <;> rfl) rfl (Ar_of (by repeat' constructor))⟩, ?_⟩ hs (by decide) hX ?_ (by simp only [mX_sI]; omega) (by simp only [mS_sI]; omega)
          · simp [psh_some, psh_none, -Int32.not_lt, -Int32.not_le, va_rf, vd, vr, isR_r, isR_n, isA_r, isI_i, isI_r, isR_i, ar, akI, akZ, akB, akO, mI_sI, mP_sI, mK_sI, mN_sI, mX_sI, mP_sP, mI_sP, mK_sP, mN_sP, mX_sP, rc_C_fuel, e_C_fuel_0, e_C_fuel_5, e_C_fuel_10, e_C_fuel_15, e_C_fuel_26, e_C_fuel_28, e_C_fuel_41, e_C_fuel_78, e_C_fuel_89, fK_1 hF, fK_2 hF, fK_3 hF, fK_4 hF, fK_5 hF, fK_6 hF, fN_6 hF, fK_7 hF, fN_7 hF, fK_8 hF, fN_8 hF, fK_9 hF, fN_9 hF, fK_10 hF, fK_11 hF, fN_11 hF, fK_12 hF, fK_13 hF, fN_13 hF, fK_14 hF, fN_14 hF, fK_15 hF, fN_15 hF, fK_16 hF, fN_16 hF, fP_12_0 hF, fP_12_1 hF, fP_12_2 hF, fP_12_3 hF, fP_12_4 hF, fP_12_5 hF, fP_12_6 hF, fP_12_7 hF, fP_4_0 hF, fP_4_1 hF, fP_4_2 hF, fP_4_3 hF, fP_11_0 hF, fP_7_0 hF, fP_7_1 hF, fP_7_2 hF, hF.cc, em, h1, a0, a4, hS, hq2, a2, u0, u5, t3, a6, t5, hRN.2.2.1, e50, etf, eqm, em2, em3, nI_le hm (show q < 2 ^ 31 by omega), nI_add]
          · have h3 : nI m ≤ nI q := nI_le hm (by omega)
            by_cases z : f + m * 50 ≤ t
            · have z2 : nI (f + m * 50) ≤ nI t := nI_le z (by omega)
              have z3 : min (m * 50) (t - f) = m * 50 := Nat.min_eq_left (by omega)
              simp [psh_some, psh_none, -Int32.not_lt, -Int32.not_le, rc_M_fuel, q_M_fuel_0, q_M_fuel_5, q_M_fuel_10, q_M_fuel_13, q_M_fuel_18, q_M_fuel_33, q_M_fuel_35, q_M_fuel_50, q_M_fuel_72, q_M_fuel_89, q_M_fuel_96, q_M_fuel_103, hL, hμ, m_isMoored (d + 18) hL hb.1 hb.2 hk, bZ_t h0, h1, i4, ck, b0.1, i5, ca, hq2, h3, eqm, fA_2, t3, t5, e50', nI_add, z2, z3, nI_0, add_zero']
              refine congrArg (put τ a) ?_
              refine Prod.ext (funext fun g => ?_) rfl
              simp only [fF_1, fA_1]
              split
              · rename_i e; rw [e]
              · rfl
            · have z2 : ¬ nI (f + m * 50) ≤ nI t := nI_ge (by omega) (by omega)
              have z3 : min (m * 50) (t - f) = t - f := Nat.min_eq_right (by omega)
              have z4 : nI (f + m * 50) - nI t = nI (m * 50 - (t - f)) := by rw [pk_sub (by omega)]; congr 1; omega
              have z5 : f + (t - f) = t := by omega
              simp [psh_some, psh_none, -Int32.not_lt, -Int32.not_le, rc_M_fuel, q_M_fuel_0, q_M_fuel_5, q_M_fuel_10, q_M_fuel_13, q_M_fuel_18, q_M_fuel_33, q_M_fuel_35, q_M_fuel_50, q_M_fuel_72, q_M_fuel_89, q_M_fuel_96, q_M_fuel_103, hL, hμ, m_isMoored (d + 18) hL hb.1 hb.2 hk, bZ_t h0, h1, i4, ck, b0.1, i5, ca, hq2, h3, eqm, fA_2, fA_1, fF_2, t3, t5, e50', nI_add, z2, z3, z4, z5]
              rfl
          · intro j hj
            obtain ⟨y0, y1, y2, y3, y4, y5, y6⟩ := hRS j hj
            refine ⟨y0, by simpa [mI_sI, fA_2, fF_2] using y1, by simpa [mI_sI, fA_2, fF_2] using y2, by simpa [mI_sI, fA_2, fF_2] using y3, by simpa [mI_sI, fA_2, fF_2] using y4, ?_, by rw [mI_sI, if_neg (by omega), mI_sI, if_neg (by omega), mI_sI, if_neg (by omega)]; exact y6⟩
            by_cases e : j = aT μ k
            · rw [e]; simp [mI_sI, fA_2, fF_2]
            · have e2 : ¬ S j = S (aT μ k) := fun z => e (hRS.inj hC hj b0.2 z)
              simp [mI_sI, fA_2, fF_2, e, e2, y5]
          · refine RB_upd hRB hC hk rfl (fun j hj f => by simp [mI_sI, hj]) (fun j hj f => rfl) (fun q f => by simp [mI_sI]) rfl rfl (fun f h1 h2 j hj => by have : f ≠ 6 := (by omega); simp [fA_2, fF_2, hj, this]) (fun f h1 h2 => by have e1 : f ≠ 27 := (by omega); have e2 : f ≠ 6 := (by omega); simp [fA_2, fF_2, e1, e2]) ?_
            simp +contextual [RB1, aT, wH, mI_sI, mP_sI, mK_sI, fA_2, fA_1, fF_1, fF_2, a0, a1, a2, a3, a5, a7, a8, a9, a10, a11, a12, a13, a14, a15]
            exact a4
          · refine ⟨by simpa [mI_sI, fF_1, fA_1] using hRN.1, by simpa [mI_sI, fF_1, fA_1] using hRN.2.1, by simp [mI_sI, fF_1], ?_⟩
            rw [mI_sI, if_neg (by omega), mI_sI, if_neg (by omega), mI_sI, if_neg (by omega)]
            exact hRN.2.2.2
          · refine ⟨hC, ⟨fun j hj => ?_, fun j hj => ?_⟩, hW.2.2.1, WB_upd hW.2.2.2.1 hk rfl rfl (fun f h1 h2 j hj => by have : f ≠ 6 := (by omega); simp [fA_2, fF_2, hj, this]) ?_, WG_eq hW.2.2.2.2.1 rfl rfl rfl (Ar_of (by repeat' constructor)), hW.2.2.2.2.2.1, hW.2.2.2.2.2.2⟩
            · obtain ⟨y0, y1, y2, ⟨y, y3, y4⟩, y5⟩ := hW.2.1.1 j hj
              refine ⟨y0, y1, y2, ?_, y5⟩
              by_cases e : j = aT μ k
              · exact ⟨q - m, by omega, by rw [e]; simp [fA_2, fF_2]⟩
              · exact ⟨y, y3, by simp [fA_2, fF_2, e, y4]⟩
            · have : j ≠ aT μ k := by have : nS μ ≤ j := hj; omega
              simp [fA_2, fF_2, this, hW.2.1.2 j hj]
            · exact ⟨b0, b1, b2, b3, b4, ⟨t, f + min (m * 50) (t - f), t1, t2, t3, by omega, by simp [fA_2, fF_2]⟩, b6, b7, b8, b9, b10, b11, b12.1, fun z => absurd (h0.symm.trans z) (by decide)⟩
        · refine Res.same hR hX hW (v := some (.int (-1))) ?_ (fun τ μ0 hμ hL => ?_)
          · simp [psh_some, psh_none, -Int32.not_lt, -Int32.not_le, va_rf, vd, vr, isR_r, isR_n, isA_r, isI_i, isI_r, isR_i, ar, akI, akZ, akB, akO, mI_sI, mP_sI, mK_sI, mN_sI, mX_sI, mP_sP, mI_sP, mK_sP, mN_sP, mX_sP, rc_C_fuel, e_C_fuel_0, e_C_fuel_5, e_C_fuel_10, e_C_fuel_15, e_C_fuel_26, e_C_fuel_28, e_C_fuel_41, e_C_fuel_78, e_C_fuel_89, fK_1 hF, fK_2 hF, fK_3 hF, fK_4 hF, fK_5 hF, fK_6 hF, fN_6 hF, fK_7 hF, fN_7 hF, fK_8 hF, fN_8 hF, fK_9 hF, fN_9 hF, fK_10 hF, fK_11 hF, fN_11 hF, fK_12 hF, fK_13 hF, fN_13 hF, fK_14 hF, fN_14 hF, fK_15 hF, fN_15 hF, fK_16 hF, fN_16 hF, fP_12_0 hF, fP_12_1 hF, fP_12_2 hF, fP_12_3 hF, fP_12_4 hF, fP_12_5 hF, fP_12_6 hF, fP_12_7 hF, fP_4_0 hF, fP_4_1 hF, fP_4_2 hF, fP_4_3 hF, fP_11_0 hF, fP_7_0 hF, fP_7_1 hF, fP_7_2 hF, hF.cc, em, h1, a0, a4, hS, h2]
          · simp [psh_some, psh_none, -Int32.not_lt, -Int32.not_le, rc_M_fuel, q_M_fuel_0, q_M_fuel_5, q_M_fuel_10, q_M_fuel_13, q_M_fuel_18, q_M_fuel_33, q_M_fuel_35, q_M_fuel_50, q_M_fuel_72, q_M_fuel_89, q_M_fuel_96, q_M_fuel_103, hL, hμ, m_isMoored (d + 18) hL hb.1 hb.2 hk, bZ_t h0, h1, i4, ck, b0.1, i5, ca, h2]
    · rw [if_neg h0] at em
      refine Res.same hR hX hW (v := some (.int (-1))) ?_ (fun τ μ0 hμ hL => ?_)
      · simp [psh_some, psh_none, -Int32.not_lt, -Int32.not_le, va_rf, vd, vr, isR_r, isR_n, isA_r, isI_i, isI_r, isR_i, ar, akI, akZ, akB, akO, mI_sI, mP_sI, mK_sI, mN_sI, mX_sI, mP_sP, mI_sP, mK_sP, mN_sP, mX_sP, rc_C_fuel, e_C_fuel_0, e_C_fuel_5, e_C_fuel_10, e_C_fuel_15, e_C_fuel_26, e_C_fuel_28, e_C_fuel_41, e_C_fuel_78, e_C_fuel_89, fK_1 hF, fK_2 hF, fK_3 hF, fK_4 hF, fK_5 hF, fK_6 hF, fN_6 hF, fK_7 hF, fN_7 hF, fK_8 hF, fN_8 hF, fK_9 hF, fN_9 hF, fK_10 hF, fK_11 hF, fN_11 hF, fK_12 hF, fK_13 hF, fN_13 hF, fK_14 hF, fN_14 hF, fK_15 hF, fN_15 hF, fK_16 hF, fN_16 hF, fP_12_0 hF, fP_12_1 hF, fP_12_2 hF, fP_12_3 hF, fP_12_4 hF, fP_12_5 hF, fP_12_6 hF, fP_12_7 hF, fP_4_0 hF, fP_4_1 hF, fP_4_2 hF, fP_4_3 hF, fP_11_0 hF, fP_7_0 hF, fP_7_1 hF, fP_7_2 hF, hF.cc, em]
      · simp [psh_some, psh_none, -Int32.not_lt, -Int32.not_le, rc_M_fuel, q_M_fuel_0, q_M_fuel_5, q_M_fuel_10, q_M_fuel_13, q_M_fuel_18, q_M_fuel_33, q_M_fuel_35, q_M_fuel_50, q_M_fuel_72, q_M_fuel_89, q_M_fuel_96, q_M_fuel_103, hL, hμ, m_isMoored (d + 18) hL hb.1 hb.2 hk, bZ_f h0]
  · refine Res.same hR hX hW (v := some (.int (-1))) ?_ (fun τ μ0 hμ hL => ?_)
    · simp [psh_some, psh_none, -Int32.not_lt, -Int32.not_le, va_rf, vd, vr, isR_r, isR_n, isA_r, isI_i, isI_r, isR_i, ar, akI, akZ, akB, akO, mI_sI, mP_sI, mK_sI, mN_sI, mX_sI, mP_sP, mI_sP, mK_sP, mN_sP, mX_sP, rc_C_fuel, e_C_fuel_0, e_C_fuel_5, e_C_fuel_10, e_C_fuel_15, e_C_fuel_26, e_C_fuel_28, e_C_fuel_41, e_C_fuel_78, e_C_fuel_89, fK_1 hF, fK_2 hF, fK_3 hF, fK_4 hF, fK_5 hF, fK_6 hF, fN_6 hF, fK_7 hF, fN_7 hF, fK_8 hF, fN_8 hF, fK_9 hF, fN_9 hF, fK_10 hF, fK_11 hF, fN_11 hF, fK_12 hF, fK_13 hF, fN_13 hF, fK_14 hF, fN_14 hF, fK_15 hF, fN_15 hF, fK_16 hF, fN_16 hF, fP_12_0 hF, fP_12_1 hF, fP_12_2 hF, fP_12_3 hF, fP_12_4 hF, fP_12_5 hF, fP_12_6 hF, fP_12_7 hF, fP_4_0 hF, fP_4_1 hF, fP_4_2 hF, fP_4_3 hF, fP_11_0 hF, fP_7_0 hF, fP_7_1 hF, fP_7_2 hF, hF.cc, c_moored_no (d + 15) hF hRX hC hno]
    · simp [psh_some, psh_none, -Int32.not_lt, -Int32.not_le, rc_M_fuel, q_M_fuel_0, q_M_fuel_5, q_M_fuel_10, q_M_fuel_13, q_M_fuel_18, q_M_fuel_33, q_M_fuel_35, q_M_fuel_50, q_M_fuel_72, q_M_fuel_89, q_M_fuel_96, q_M_fuel_103, hL, hμ, m_isMoored_no (d + 18) hL hb.1 hno]
end O42
