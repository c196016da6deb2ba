/-! ===== OPERATION: leg ===== -/
section O59
variable {σ σ' : Mm} {c a : Nat} {E S L B G H Q : Nat → Nat} {Z : Nat → List Nat} {w : Bool} {μ μ' : Ms} (d : Nat)
theorem ok_leg (x1 x2 x3 : Int32) : Ok 62 121 [.int x1, .int x2, .int x3] := by
  refine Ok_of fun d σ c a E S L B G H Q Z w μ hR hLM hX hW => ?_
  have hC := hW.1
  obtain ⟨hF, hz, hRX, hRS, hRL, hRB, hRP, hRG, hRF, hRT, hRK, hRR, hRN⟩ := id hR
  have hs12 := hC.s
  have hl30 := hC.l
  have l2 := hRX.2.1
  have hlx := hF.lt hX
  have nc : ¬ c = mX σ := by omega
  have nc1 : ¬ c + 2 = mX σ := by omega
  obtain ⟨o2, o2r, o2e⟩ := c_stopAt_any (d + 16) hF hRX hC hRS x2
  rcases nIx x1 (n := nS μ) (by omega) with ⟨i, hi, rfl⟩ | hno1
  · have e1 := c_stopAt (d + 16) hF hRX hC hi (hRS i hi).1
    have j1 := is_ix hi (show nS μ ≤ 1000 by omega)
    by_cases h0 : nL μ = 30
    · have z1 : (30 : Int32) ≤ nI (nL μ) := by rw [h0]; decide
      have z2 : nI (nL μ) = 30 := by rw [h0]; rfl
      refine Res.same hR hX hW (v := some (.int (-1))) ?_ (fun τ μ0 hμ hL => ?_)
      · simp [psh_some, psh_none, -Int32.not_lt, -Int32.not_le, va_rf, vd, vr, isR_r, isR_n, isA_r, isI_i, isI_r, isR_i, ar, akI, akZ, akB, akO, mI_sI, mP_sI, mK_sI, mN_sI, mX_sI, mP_sP, mI_sP, mK_sP, mN_sP, mX_sP, rc_C_leg, e_C_leg_0, e_C_leg_5, e_C_leg_12, e_C_leg_23, e_C_leg_55, fK_1 hF, fK_2 hF, fK_3 hF, fK_4 hF, fK_5 hF, fK_6 hF, fN_6 hF, fK_7 hF, fN_7 hF, fK_8 hF, fN_8 hF, fK_9 hF, fN_9 hF, fK_10 hF, fK_11 hF, fN_11 hF, fK_12 hF, fK_13 hF, fN_13 hF, fK_14 hF, fN_14 hF, fK_15 hF, fN_15 hF, fK_16 hF, fN_16 hF, fP_12_0 hF, fP_12_1 hF, fP_12_2 hF, fP_12_3 hF, fP_12_4 hF, fP_12_5 hF, fP_12_6 hF, fP_12_7 hF, fP_4_0 hF, fP_4_1 hF, fP_4_2 hF, fP_4_3 hF, fP_11_0 hF, fP_7_0 hF, fP_7_1 hF, fP_7_2 hF, hF.cc, e1, o2r, o2e, c_size _ l2.1, l2.2.1, z1]
      · simp [psh_some, psh_none, -Int32.not_lt, -Int32.not_le, rc_M_leg, q_M_leg_0, q_M_leg_5, q_M_leg_47, hL, hμ, hl30.1, z2]
    have z1 : ¬ (30 : Int32) ≤ nI (nL μ) := nI_ge (b := 30) (by omega) (by omega)
    have z2 : ¬ nI (nL μ) = 30 := fun y => h0 ((nI_eq (b := 30) (by omega) (by omega)).mp y)
    rcases nIx x2 (n := nS μ) (by omega) with ⟨j, hj, rfl⟩ | hno2
    · have e2 := c_stopAt (d + 16) hF hRX hC hj (hRS j hj).1
      have j2 := is_ix hj (show nS μ ≤ 1000 by omega)
      by_cases hij : i = j
      · subst hij
        refine Res.same hR hX hW (v := some (.int (-1))) ?_ (fun τ μ0 hμ hL => ?_)
        · simp [psh_some, psh_none, -Int32.not_lt, -Int32.not_le, va_rf, vd, vr, isR_r, isR_n, isA_r, isI_i, isI_r, isR_i, ar, akI, akZ, akB, akO, mI_sI, mP_sI, mK_sI, mN_sI, mX_sI, mP_sP, mI_sP, mK_sP, mN_sP, mX_sP, rc_C_leg, e_C_leg_0, e_C_leg_5, e_C_leg_12, e_C_leg_23, e_C_leg_28, e_C_leg_33, e_C_leg_38, e_C_leg_55, fK_1 hF, fK_2 hF, fK_3 hF, fK_4 hF, fK_5 hF, fK_6 hF, fN_6 hF, fK_7 hF, fN_7 hF, fK_8 hF, fN_8 hF, fK_9 hF, fN_9 hF, fK_10 hF, fK_11 hF, fN_11 hF, fK_12 hF, fK_13 hF, fN_13 hF, fK_14 hF, fN_14 hF, fK_15 hF, fN_15 hF, fK_16 hF, fN_16 hF, fP_12_0 hF, fP_12_1 hF, fP_12_2 hF, fP_12_3 hF, fP_12_4 hF, fP_12_5 hF, fP_12_6 hF, fP_12_7 hF, fP_4_0 hF, fP_4_1 hF, fP_4_2 hF, fP_4_3 hF, fP_11_0 hF, fP_7_0 hF, fP_7_1 hF, fP_7_2 hF, hF.cc, e1, c_size _ l2.1, l2.2.1, z1]
        · simp [psh_some, psh_none, -Int32.not_lt, -Int32.not_le, rc_M_leg, q_M_leg_0, q_M_leg_5, q_M_leg_14, q_M_leg_19, q_M_leg_22, q_M_leg_27, q_M_leg_30, q_M_leg_47, hL, hμ, hl30.1, z2, m_isStop, hs12.1, bZ_t j1]
      have hij' : ¬ nI i = nI j := by rw [nI_eq (by omega) (by omega)]; exact hij
      by_cases h3 : ¬ x3 < 20 ∧ ¬ 900 < x3
      · obtain ⟨mi, m1, m2, m3⟩ := in_N (a := 20) (b := 900) rfl rfl (by omega) (by omega) h3
        have hsa : Sm (tk []) σ (sI (sP (sP (sI (nw σ 6 0 4) 6 (mX σ) 0 (nI (nL μ))) 6 (mX σ) 1 (some (S i))) 6 (mX σ) 2 (some (S j))) 6 (mX σ) 3 x3) := SmsIn (SmsPn (SmsPn (SmsIn (Smnw (Sm.rfl' σ) _ _ _) _ (Nat.le_refl _) _ _) _ (Nat.le_refl _) _ _) _ (Nat.le_refl _) _ _) _ (Nat.le_refl _) _ _
        have hXa : Kx (sI (sP (sP (sI (nw σ 6 0 4) 6 (mX σ) 0 (nI (nL μ))) 6 (mX σ) 1 (some (S i))) 6 (mX σ) 2 (some (S j))) 6 (mX σ) 3 x3) := KxsI (KxsP (KxsP (KxsI (Kxnw hX _ _ _) _ _ _ _) _ _ _ _) _ _ _ _) _ _ _ _
        have hRa := hR.fr hX hsa (fun q _ => rfl)
        obtain ⟨aF, az, aRX, aRS, aRL, aRB, aRP, aRG, aRF, aRT, aRK, aRR, aRN⟩ := id hRa
        generalize hσa : sI (sP (sP (sI (nw σ 6 0 4) 6 (mX σ) 0 (nI (nL μ))) 6 (mX σ) 1 (some (S i))) 6 (mX σ) 2 (some (S j))) 6 (mX σ) 3 x3 = σa at hsa hXa hRa aF az aRX aRS aRL aRB aRP aRG aRF aRT aRK aRR aRN
        have xa : mX σa = mX σ + 1 := by rw [← hσa]; rfl
        have sa' : mS σa = mS σ + 4 := by rw [← hσa]; rfl
        have k10 : mK σa (mX σ) = 6 := by rw [← hσa]; simp [mK_sI, mK_sP, mK_nw]
        obtain ⟨σ1, e', r1, hA⟩ := c_add (d + 18) aRX.2.1 az hXa (show nL μ ≤ 29 by omega) (b := mX σ) (by rw [k10]; decide) (by rw [k10]; decide) (aRX.2.2.2.2.2 1 (by decide)) (fun q hq => by rw [show mK _ _ = _ from aRL q hq |>.1]; decide)
        have hs := hA.2.1
        have hX1 : Kx σ1 := hA.2.2.2.2.2.2.1
        have hx8 := hA.2.2.2.2.2.2.2
        have hn' : nL (fF (fA (fA (fA μ 8 (nL μ) (nI i)) 9 (nL μ) (nI j)) 10 (nL μ) x3) 7 (nI (nL μ) + 1)) = nL μ + 1 := by
          show (nI (nL μ) + 1).toNatClampNeg = _
          rw [nI_1, nI_clamp (by omega)]
        have hF1 : FL σ1 c := aF.fr hXa hs (by rintro q (rfl | rfl | rfl | rfl | rfl) <;> rfl)
        have hE := E_add (σ := σa) (σ' := σ1) (i := 1) aRX.2.2.2.2.1 aRX.2.2.2.2.2 (by decide) hA.2.2.2.2.1 hA.2.2.2.2.2.1 hs.X
        have ne : ∀ i, i ≠ 1 → i < 4 → E i ≠ E 1 := fun i h1 h2 y => by have := aRX.2.2.2.2.1 i 1 h2 (by decide) y; omega
        have f8 : ∀ k, k ≠ nL μ → ∀ f, (fF (fA (fA (fA μ 8 (nL μ) (nI i)) 9 (nL μ) (nI j)) 10 (nL μ) x3) 7 (nI (nL μ) + 1)).2 f k = μ.2 f k := fun k hk f => by simp [fA_2, fF_2, hk]
        have n8 : (fF (fA (fA (fA μ 8 (nL μ) (nI i)) 9 (nL μ) (nI j)) 10 (nL μ) x3) 7 (nI (nL μ) + 1)).2 8 (nL μ) = nI i := by simp [fA_2, fF_2]
        have n9 : (fF (fA (fA (fA μ 8 (nL μ) (nI i)) 9 (nL μ) (nI j)) 10 (nL μ) x3) 7 (nI (nL μ) + 1)).2 9 (nL μ) = nI j := by simp [fA_2, fF_2]
        have n10 : (fF (fA (fA (fA μ 8 (nL μ) (nI i)) 9 (nL μ) (nI j)) 10 (nL μ) x3) 7 (nI (nL μ) + 1)).2 10 (nL μ) = x3 := by simp [fA_2, fF_2]
        have ci := cl12 (show i < 12 by omega)
        have cj := cl12 (show j < 12 by omega)
        refine ⟨some (.int (nI (nL μ))), σ1, fF (fA (fA (fA μ 8 (nL μ) (nI i)) 9 (nL μ) (nI j)) 10 (nL μ) x3) 7 (nI (nL μ) + 1), ?_, fun μ0 hμ hL => ?_, ⟨adj E 1 e', S, adj L (nL μ) (mX σ), B, G, H, Q, Z, w, ?_⟩, ⟨tk [1, 1003], (hsa.mono (fun _ _ => rfl)).trans hs, tk_rf (by decide)⟩, hX1, ?_, by omega, by omega⟩
        · have g2 := hA.1.2.1
          rw [← hσa] at r1
          simp [psh_some, psh_none, -Int32.not_lt, -Int32.not_le, va_rf, vd, vr, isR_r, isR_n, isA_r, isI_i, isI_r, isR_i, ar, akI, akZ, akB, akO, mI_sI, mP_sI, mK_sI, mN_sI, mX_sI, mP_sP, mI_sP, mK_sP, mN_sP, mX_sP, rc_C_leg, e_C_leg_0, e_C_leg_5, e_C_leg_12, e_C_leg_23, e_C_leg_28, e_C_leg_33, e_C_leg_38, e_C_leg_43, e_C_leg_52, e_C_leg_57, e_C_leg_64, e_C_leg_74, e_C_leg_82, e_C_leg_87, e_C_leg_97, rc_Leg_init, e_Leg_init_0, e_Leg_init_9, e_Leg_init_14, e_Leg_init_19, e_Leg_init_25, fK_1 hF, fK_2 hF, fK_3 hF, fK_4 hF, fK_5 hF, fK_6 hF, fN_6 hF, fK_7 hF, fN_7 hF, fK_8 hF, fN_8 hF, fK_9 hF, fN_9 hF, fK_10 hF, fK_11 hF, fN_11 hF, fK_12 hF, fK_13 hF, fN_13 hF, fK_14 hF, fN_14 hF, fK_15 hF, fN_15 hF, fK_16 hF, fN_16 hF, fP_12_0 hF, fP_12_1 hF, fP_12_2 hF, fP_12_3 hF, fP_12_4 hF, fP_12_5 hF, fP_12_6 hF, fP_12_7 hF, fP_4_0 hF, fP_4_1 hF, fP_4_2 hF, fP_4_3 hF, fP_11_0 hF, fP_7_0 hF, fP_7_1 hF, fP_7_2 hF, hF.cc, e1, e2, c_size _ l2.1, l2.2.1, z1, hij', c_within, bZ_t h3, rc_AL_size, e_AL_size_0, mK_nw, mP_nw, mI_nw, nc, nc1, r1, fK_2 hF1, fP_12_1 hF1, hF1.cc, g2, nI_pred]
        · have i1 : ix (nI (nL μ)) 30 = true := ix_of (by omega) (by omega)
          have e1 : nI (nL μ) + 1 - 1 = nI (nL μ) := by grind
          simp [psh_some, psh_none, -Int32.not_lt, -Int32.not_le, rc_M_leg, q_M_leg_0, q_M_leg_5, q_M_leg_14, q_M_leg_19, q_M_leg_22, q_M_leg_27, q_M_leg_30, q_M_leg_35, q_M_leg_44, q_M_leg_49, q_M_leg_59, q_M_leg_69, q_M_leg_79, q_M_leg_89, hL, hμ, hl30.1, z2, m_isStop, hs12.1, bZ_t j1, bZ_t j2, hij', m_in, bZ_t h3, i1, cl30 (show nL μ < 30 by omega), fA_1, fF_1, e1]
        · refine ⟨hF1, az.fr hs rfl, ?_, aRS.fr hXa hs rfl rfl rfl rfl rfl rfl rfl rfl rfl, ?_, aRB.fr hXa hs rfl rfl rfl rfl (Ar_of (by repeat' constructor)), aRP.fr (fun k hk => (aRB k hk).1.1) hXa hs rfl rfl rfl (Ar_of (by repeat' constructor)), aRG.fr hXa hs rfl rfl rfl (Ar_of (by repeat' constructor)), aRF.fr aF hXa hs rfl rfl rfl rfl rfl rfl (Ar_of (by repeat' constructor)), aRT.fr aF hXa hs rfl rfl rfl rfl, aRK.fr aF hXa hs rfl rfl rfl rfl rfl (Ar_of (by repeat' constructor)), aRR.fr aF hXa hs rfl (by rintro q (rfl | rfl | rfl | rfl | rfl | rfl | rfl | rfl) <;> rfl) rfl (Ar_of (by repeat' constructor)), aRN.fr aF hXa hs rfl rfl rfl rfl rfl rfl⟩
          · refine ⟨Lst_oth aRX.1 az hXa hA (by omega) (ne 0 (by decide) (by decide)), ?_, Lst_oth aRX.2.2.1 az hXa hA (by omega) (ne 2 (by decide) (by decide)), Lst_oth aRX.2.2.2.1 az hXa hA (by omega) (ne 3 (by decide) (by decide)), hE.1, hE.2⟩
            rw [hn']
            exact hA.1
          · intro k hk
            rw [hn'] at hk
            by_cases y : k = nL μ
            · subst y
              rw [adj_n]
              have hq : mX σ < mX σa := by omega
              have q : ∀ f, mI σ1 6 (mX σ) f = mI σa 6 (mX σ) f := hs.I rfl hq
              have q2 : ∀ f, mP σ1 6 (mX σ) f = mP σa 6 (mX σ) f := hs.P rfl hq
              unfold lA lB
              rw [hs.K hq, k10, q, q, q2, q2, n8, n9, n10, ci, cj]
              refine ⟨rfl, ?_, ?_, ?_, ?_⟩
              · rw [← hσa]; simp [mI_sI, mI_sP]
              · rw [← hσa]; simp [mP_sI, mP_sP]
              · rw [← hσa]; simp [mP_sI, mP_sP]
              · rw [← hσa]; simp [mI_sI, mI_sP]
            · have hk' : k < nL μ := by omega
              rw [adj_o y]
              have t := aRL k hk'
              have hq := hXa.lt t.1 (by decide)
              have q : ∀ f, mI σ1 6 (L k) f = mI σa 6 (L k) f := hs.I rfl hq
              have q2 : ∀ f, mP σ1 6 (L k) f = mP σa 6 (L k) f := hs.P rfl hq
              unfold lA lB at t ⊢
              rw [hs.K hq, q, q, q2, q2, f8 k y, f8 k y, f8 k y]
              exact t
        · refine ⟨⟨hC.1, ?_, hC.2.2⟩, hW.2.1, fun k hk => ?_, hW.2.2.2.1, hW.2.2.2.2.1, hW.2.2.2.2.2.1, hW.2.2.2.2.2.2.1, hW.2.2.2.2.2.2.2.1, hW.2.2.2.2.2.2.2.2⟩
          · rw [hn']
            refine ⟨?_, by omega⟩
            show nI (nL μ) + 1 = _
            rw [nI_1]
          · rw [hn'] at hk
            by_cases y : k = nL μ
            · subst y
              unfold lA lB
              rw [n8, n9, n10, ci, cj]
              exact ⟨rfl, hi, rfl, hj, hij, mi, m1, m2, m3⟩
            · have t := hW.2.2.1 k (by omega)
              unfold lA lB at t ⊢
              rw [f8 k y, f8 k y, f8 k y]
              exact t
      · refine Res.same hR hX hW (v := some (.int (-1))) ?_ (fun τ μ0 hμ hL => ?_)
        · simp [psh_some, psh_none, -Int32.not_lt, -Int32.not_le, va_rf, vd, vr, isR_r, isR_n, isA_r, isI_i, isI_r, isR_i, ar, akI, akZ, akB, akO, mI_sI, mP_sI, mK_sI, mN_sI, mX_sI, mP_sP, mI_sP, mK_sP, mN_sP, mX_sP, rc_C_leg, e_C_leg_0, e_C_leg_5, e_C_leg_12, e_C_leg_23, e_C_leg_28, e_C_leg_33, e_C_leg_38, e_C_leg_43, e_C_leg_52, e_C_leg_55, fK_1 hF, fK_2 hF, fK_3 hF, fK_4 hF, fK_5 hF, fK_6 hF, fN_6 hF, fK_7 hF, fN_7 hF, fK_8 hF, fN_8 hF, fK_9 hF, fN_9 hF, fK_10 hF, fK_11 hF, fN_11 hF, fK_12 hF, fK_13 hF, fN_13 hF, fK_14 hF, fN_14 hF, fK_15 hF, fN_15 hF, fK_16 hF, fN_16 hF, fP_12_0 hF, fP_12_1 hF, fP_12_2 hF, fP_12_3 hF, fP_12_4 hF, fP_12_5 hF, fP_12_6 hF, fP_12_7 hF, fP_4_0 hF, fP_4_1 hF, fP_4_2 hF, fP_4_3 hF, fP_11_0 hF, fP_7_0 hF, fP_7_1 hF, fP_7_2 hF, hF.cc, e1, e2, c_size _ l2.1, l2.2.1, z1, hij', c_within, bZ_f h3]
        · simp [psh_some, psh_none, -Int32.not_lt, -Int32.not_le, rc_M_leg, q_M_leg_0, q_M_leg_5, q_M_leg_14, q_M_leg_19, q_M_leg_22, q_M_leg_27, q_M_leg_30, q_M_leg_35, q_M_leg_44, q_M_leg_47, hL, hμ, hl30.1, z2, m_isStop, hs12.1, bZ_t j1, bZ_t j2, hij', m_in, bZ_f h3]
    · have e2 := c_stopAt_no (d + 16) hF hRX hC hno2
      refine Res.same hR hX hW (v := some (.int (-1))) ?_ (fun τ μ0 hμ hL => ?_)
      · simp [psh_some, psh_none, -Int32.not_lt, -Int32.not_le, va_rf, vd, vr, isR_r, isR_n, isA_r, isI_i, isI_r, isR_i, ar, akI, akZ, akB, akO, mI_sI, mP_sI, mK_sI, mN_sI, mX_sI, mP_sP, mI_sP, mK_sP, mN_sP, mX_sP, rc_C_leg, e_C_leg_0, e_C_leg_5, e_C_leg_12, e_C_leg_23, e_C_leg_28, e_C_leg_33, e_C_leg_55, fK_1 hF, fK_2 hF, fK_3 hF, fK_4 hF, fK_5 hF, fK_6 hF, fN_6 hF, fK_7 hF, fN_7 hF, fK_8 hF, fN_8 hF, fK_9 hF, fN_9 hF, fK_10 hF, fK_11 hF, fN_11 hF, fK_12 hF, fK_13 hF, fN_13 hF, fK_14 hF, fN_14 hF, fK_15 hF, fN_15 hF, fK_16 hF, fN_16 hF, fP_12_0 hF, fP_12_1 hF, fP_12_2 hF, fP_12_3 hF, fP_12_4 hF, fP_12_5 hF, fP_12_6 hF, fP_12_7 hF, fP_4_0 hF, fP_4_1 hF, fP_4_2 hF, fP_4_3 hF, fP_11_0 hF, fP_7_0 hF, fP_7_1 hF, fP_7_2 hF, hF.cc, e1, e2, c_size _ l2.1, l2.2.1, z1]
      · simp [psh_some, psh_none, -Int32.not_lt, -Int32.not_le, rc_M_leg, q_M_leg_0, q_M_leg_5, q_M_leg_14, q_M_leg_19, q_M_leg_22, q_M_leg_27, q_M_leg_47, hL, hμ, hl30.1, z2, m_isStop, hs12.1, bZ_t j1, bZ_f (no_ix hno2)]
  · have e1 := c_stopAt_no (d + 16) hF hRX hC hno1
    refine Res.same hR hX hW (v := some (.int (-1))) ?_ (fun τ μ0 hμ hL => ?_)
    · by_cases z1 : (30 : Int32) ≤ nI (nL μ) <;> simp [psh_some, psh_none, -Int32.not_lt, -Int32.not_le, va_rf, vd, vr, isR_r, isR_n, isA_r, isI_i, isI_r, isR_i, ar, akI, akZ, akB, akO, mI_sI, mP_sI, mK_sI, mN_sI, mX_sI, mP_sP, mI_sP, mK_sP, mN_sP, mX_sP, rc_C_leg, e_C_leg_0, e_C_leg_5, e_C_leg_12, e_C_leg_23, e_C_leg_28, e_C_leg_55, fK_1 hF, fK_2 hF, fK_3 hF, fK_4 hF, fK_5 hF, fK_6 hF, fN_6 hF, fK_7 hF, fN_7 hF, fK_8 hF, fN_8 hF, fK_9 hF, fN_9 hF, fK_10 hF, fK_11 hF, fN_11 hF, fK_12 hF, fK_13 hF, fN_13 hF, fK_14 hF, fN_14 hF, fK_15 hF, fN_15 hF, fK_16 hF, fN_16 hF, fP_12_0 hF, fP_12_1 hF, fP_12_2 hF, fP_12_3 hF, fP_12_4 hF, fP_12_5 hF, fP_12_6 hF, fP_12_7 hF, fP_4_0 hF, fP_4_1 hF, fP_4_2 hF, fP_4_3 hF, fP_11_0 hF, fP_7_0 hF, fP_7_1 hF, fP_7_2 hF, hF.cc, e1, o2r, o2e, c_size _ l2.1, l2.2.1, z1]
    · by_cases z2 : nI (nL μ) = 30 <;> simp [psh_some, psh_none, -Int32.not_lt, -Int32.not_le, rc_M_leg, q_M_leg_0, q_M_leg_5, q_M_leg_14, q_M_leg_19, q_M_leg_47, hL, hμ, hl30.1, z2, m_isStop, hs12.1, bZ_f (no_ix hno1)]
end O59
