/-! ===== OPERATIONS: stop, leg ===== -/
section O58
variable {σ σ' : Mm} {c a : Nat} {E S L B G H Q : Nat → Nat} {Z : Nat → List Nat} {w : Bool} {μ μ' : Ms} (d : Nat)
theorem RL_S {X : Nat} (h : RLg σ S L μ) (hW : WL μ) : RLg σ (adj S (nS μ) X) L μ := by
  intro l hl
  have w1 := hW l hl
  have e1 : adj S (nS μ) X (lA μ l) = S (lA μ l) := adj_o (by have := w1.2.1; omega)
  have e2 : adj S (nS μ) X (lB μ l) = S (lB μ l) := adj_o (by have := w1.2.2.2.1; omega)
  rw [e1, e2]
  exact h l hl
theorem RB_S {X : Nat} (h : RB σ S B H μ) (hW : WB μ) : RB σ (adj S (nS μ) X) B H μ := by
  intro k hk
  have w1 := hW.1 k hk
  obtain ⟨⟨a0, a1, a2, a3, a4, a5, a6⟩, hh⟩ := h k hk
  refine ⟨⟨a0, a1, a2, a3, ?_, fun z1 z2 => ?_, a6⟩, hh⟩
  · rw [adj_o (by have := w1.1.2; omega)]; exact a4
  · have w2 := w1.2.2.2.2.2.2.2.2.2.2.2.2.1 z1
    rw [adj_o (by have := w2.2.1; omega)]; exact a5 z1 z2
theorem RG_S {X : Nat} (h : RG σ S G Q μ) (hW : WG μ) : RG σ (adj S (nS μ) X) G Q μ := by
  refine ⟨fun g hg => ?_, h.2⟩
  have w1 := hW.1 g hg
  obtain ⟨⟨a0, a1, a2, a3, a4, a5, a6, a7⟩, hh⟩ := h.1 g hg
  refine ⟨⟨a0, ?_, a2, a3, a4, a5, ?_, a7⟩, hh⟩
  · rw [adj_o (by have := w1.1.2; omega)]; exact a1
  · rw [adj_o (by have := w1.2.1.2; omega)]; exact a6
theorem WL_mono (h : WL μ) (hs : nS μ ≤ nS μ') (e1 : μ'.1 7 = μ.1 7) (e : Ar [8, 9, 10] μ μ') : WL μ' := by
  intro l hl
  have hl' : l < nL μ := by unfold nL at hl ⊢; rw [← e1]; exact hl
  obtain ⟨w1, w2, w3, w4, w5, w6⟩ := h l hl'
  have q1 : lA μ' l = lA μ l := by unfold lA; rw [e 8 (by decide)]
  have q2 : lB μ' l = lB μ l := by unfold lB; rw [e 9 (by decide)]
  rw [q1, q2, e 8 (by decide), e 9 (by decide), e 10 (by decide)]
  exact ⟨w1, by omega, w3, by omega, w5, w6⟩
theorem WB_mono (h : WB μ) (hs : nS μ ≤ nS μ') (e1 : μ'.1 16 = μ.1 16) (e : ∀ f, 17 ≤ f → f ≤ 36 → μ'.2 f = μ.2 f) : WB μ' := by
  have hn : nB μ' = nB μ := by unfold nB; rw [e1]
  refine ⟨fun k hk => ?_, fun k hk => ?_⟩
  · rw [hn] at hk
    obtain ⟨b0, b1, b2, b3, b4, b5, b6, b7, b8, b9, b10, b11, b12, b13⟩ := h.1 k hk
    have q1 : aT μ' k = aT μ k := by unfold aT; rw [e 25 (by omega) (by omega)]
    have q2 : wH μ' k = wH μ k := by unfold wH; rw [e 26 (by omega) (by omega)]
    unfold WB1
    rw [q1, q2, e 17 (by omega) (by omega), e 18 (by omega) (by omega), e 19 (by omega) (by omega), e 20 (by omega) (by omega), e 21 (by omega) (by omega), e 22 (by omega) (by omega), e 23 (by omega) (by omega), e 24 (by omega) (by omega), e 25 (by omega) (by omega), e 26 (by omega) (by omega), e 27 (by omega) (by omega), e 29 (by omega) (by omega), e 30 (by omega) (by omega), e 31 (by omega) (by omega), e 32 (by omega) (by omega), e 36 (by omega) (by omega)]
    exact ⟨⟨b0.1, by omega⟩, b1, b2, b3, b4, b5, b6, b7, b8, b9, b10, b11, fun z => ⟨(b12 z).1, by have := (b12 z).2.1; omega, (b12 z).2.2⟩, b13⟩
  · rw [hn] at hk
    rw [e 32 (by omega) (by omega), e 33 (by omega) (by omega), e 34 (by omega) (by omega), e 35 (by omega) (by omega), e 36 (by omega) (by omega)]
    exact h.2 k hk
theorem WG_mono (h : WG μ) (hs : nS μ ≤ nS μ') (hb : nB μ ≤ nB μ') (e1 : μ'.1 60 = μ.1 60) (e : Ar [61, 62, 63, 64, 65, 66, 68] μ μ') : WG μ' := by
  have hn : nG μ' = nG μ := by unfold nG; rw [e1]
  refine ⟨fun g hg => ?_, by rw [hn, e 68 (by decide)]; exact h.2⟩
  rw [hn] at hg
  obtain ⟨v0, v1, v2, v3, v4⟩ := h.1 g hg
  have q1 : gT μ' g = gT μ g := by unfold gT; rw [e 61 (by decide)]
  have q2 : gA μ' g = gA μ g := by unfold gA; rw [e 65 (by decide)]
  unfold WG1
  rw [q1, q2, e 61 (by decide), e 62 (by decide), e 63 (by decide), e 64 (by decide), e 65 (by decide), e 66 (by decide)]
  exact ⟨⟨v0.1, by omega⟩, ⟨v1.1, by omega⟩, v2, v3, fun z => by obtain ⟨b, b1, b2⟩ := v4 z; exact ⟨b, by omega, b2⟩⟩
theorem in_N {x lo hi : Int32} {a b : Nat} (hlo : lo = nI a) (hhi : hi = nI b) (ha : a < 2 ^ 31) (hb : b < 2 ^ 31) (h : ¬ x < lo ∧ ¬ hi < x) : ∃ j, a ≤ j ∧ j ≤ b ∧ x = nI j := by
  subst hlo hhi
  obtain ⟨j, hj, rfl⟩ := nI_of (x := x) (fun z => by
    by_cases y : a = 0
    · subst y; exact h.1 z
    · exact h.1 (Int32.lt_trans z (by rw [show (0 : Int32) = nI 0 from rfl]; exact nI_lt (by omega) ha)))
  obtain ⟨h1, h2⟩ := h
  rw [nI_ltI hj ha] at h1
  rw [nI_ltI hb hj] at h2
  exact ⟨j, by omega, by omega, rfl⟩
theorem sm_zero {f : Nat → Int32} {n : Nat} (h : ∀ j, j < n → f j = 0) : sm f n = 0 := sm_ext (n := 0) (by omega) (fun j _ hj => h j hj)
theorem FL.lt (h : FL σ c) (hX : Kx σ) : c + 32 < mX σ := hX.lt (rK_6 h.r2) (by decide)
theorem ok_stop (x1 x2 x3 : Int32) (hx3 : x3 = 0 ∨ x3 = 1) : Ok 61 120 [.int x1, .int x2, .int x3] := by
  refine Ok_of fun d σ c a E S L B G H Q Z w μ hR hLM hX hW => ?_
  have hC := hW.1
  obtain ⟨hF, hz, hRX, hRS, hRL, hRB, hRP, hRG, hRF, hRT, hRK, hRR, hRN⟩ := id hR
  have hs12 := hC.s
  have l1 := hRX.1
  have hlx := hF.lt hX
  have nc : ¬ c = mX σ := by omega
  have nc1 : ¬ c + 1 = mX σ := by omega
  by_cases h0 : nS μ = 12
  · have z1 : (12 : Int32) ≤ nI (nS μ) := by rw [h0]; decide
    have z2 : nI (nS μ) = 12 := by rw [h0]; rfl
    refine Res.same hR hX hW (v := some (.int (-1))) ?_ (fun τ μ0 hμ hL => ?_)
    · simp [psh_some, psh_none, -Int32.not_lt, -Int32.not_le, va_rf, vd, vr, isR_r, isR_n, isA_r, isI_i, isI_r, isR_i, ar, akI, akZ, akB, akO, mI_sI, mP_sI, mK_sI, mN_sI, mX_sI, mP_sP, mI_sP, mK_sP, mN_sP, mX_sP, rc_C_stop, e_C_stop_0, e_C_stop_9, e_C_stop_33, fK_1 hF, fK_2 hF, fK_3 hF, fK_4 hF, fK_5 hF, fK_6 hF, fN_6 hF, fK_7 hF, fN_7 hF, fK_8 hF, fN_8 hF, fK_9 hF, fN_9 hF, fK_10 hF, fK_11 hF, fN_11 hF, fK_12 hF, fK_13 hF, fN_13 hF, fK_14 hF, fN_14 hF, fK_15 hF, fN_15 hF, fK_16 hF, fN_16 hF, fP_12_0 hF, fP_12_1 hF, fP_12_2 hF, fP_12_3 hF, fP_12_4 hF, fP_12_5 hF, fP_12_6 hF, fP_12_7 hF, fP_4_0 hF, fP_4_1 hF, fP_4_2 hF, fP_4_3 hF, fP_11_0 hF, fP_7_0 hF, fP_7_1 hF, fP_7_2 hF, hF.cc, c_size _ l1.1, l1.2.1, z1]
    · simp [psh_some, psh_none, -Int32.not_lt, -Int32.not_le, rc_M_stop, q_M_stop_0, q_M_stop_5, q_M_stop_33, hL, hμ, hs12.1, z2]
  have z1 : ¬ (12 : Int32) ≤ nI (nS μ) := nI_ge (b := 12) (by omega) (by omega)
  have z2 : ¬ nI (nS μ) = 12 := fun y => h0 ((nI_eq (b := 12) (by omega) (by omega)).mp y)
  by_cases h1 : ¬ x1 < 1 ∧ ¬ 4 < x1
  · by_cases h2 : ¬ x2 < 0 ∧ ¬ 60 < x2
    · obtain ⟨b1, b1a, b1b, b1c⟩ := in_N (a := 1) (b := 4) rfl rfl (by omega) (by omega) h1
      obtain ⟨b2, b2a, b2b, b2c⟩ := in_N (a := 0) (b := 60) rfl rfl (by omega) (by omega) h2
      have hsa : Sm (tk []) σ (sI (sI (sI (sI (nw σ 10 0 6) 10 (mX σ) 0 (nI (nS μ))) 10 (mX σ) 1 x1) 10 (mX σ) 2 x2) 10 (mX σ) 3 x3) := SmsIn (SmsIn (SmsIn (SmsIn (Smnw (Sm.rfl' σ) _ _ _) _ (Nat.le_refl _) _ _) _ (Nat.le_refl _) _ _) _ (Nat.le_refl _) _ _) _ (Nat.le_refl _) _ _
      have hXa : Kx (sI (sI (sI (sI (nw σ 10 0 6) 10 (mX σ) 0 (nI (nS μ))) 10 (mX σ) 1 x1) 10 (mX σ) 2 x2) 10 (mX σ) 3 x3) := KxsI (KxsI (KxsI (KxsI (Kxnw hX _ _ _) _ _ _ _) _ _ _ _) _ _ _ _) _ _ _ _
      have hRa := hR.fr hX hsa (fun q _ => rfl)
      obtain ⟨aF, az, aRX, aRS, aRL, aRB, aRP, aRG, aRF, aRT, aRK, aRR, aRN⟩ := id hRa
      generalize hσa : sI (sI (sI (sI (nw σ 10 0 6) 10 (mX σ) 0 (nI (nS μ))) 10 (mX σ) 1 x1) 10 (mX σ) 2 x2) 10 (mX σ) 3 x3 = σa at hsa hXa hRa aF az aRX aRS aRL aRB aRP aRG aRF aRT aRK aRR aRN
      have xa : mX σa = mX σ + 1 := by rw [← hσa]; rfl
      have sa' : mS σa = mS σ + 6 := by rw [← hσa]; rfl
      have k10 : mK σa (mX σ) = 10 := by rw [← hσa]; simp [mK_sI, mK_nw]
      obtain ⟨σ1, e', r1, hA⟩ := c_add (d + 18) aRX.1 az hXa (show nS μ ≤ 29 by omega) (b := mX σ) (by rw [k10]; decide) (by rw [k10]; decide) (aRX.2.2.2.2.2 0 (by decide)) (fun q hq => by rw [show mK _ _ = _ from aRS q hq |>.1]; decide)
      have hs := hA.2.1
      have hX1 : Kx σ1 := hA.2.2.2.2.2.2.1
      have hx8 := hA.2.2.2.2.2.2.2
      have hn' : nS (fF (fA (fA (fA μ 3 (nS μ) x1) 4 (nS μ) x2) 5 (nS μ) x3) 2 (nI (nS μ) + 1)) = nS μ + 1 := by
        show (nI (nS μ) + 1).toNatClampNeg = _
        rw [nI_1, nI_clamp (by omega)]
      have hmo : sm (mo1 μ (nI (nS μ))) (nB μ) = 0 := sm_zero fun j hj => by
        have w1 := (hW.2.2.2.1.1 j hj).1
        rw [mo1, if_neg]
        rintro ⟨-, y⟩
        rw [w1.1, nI_eq (by omega) (by omega)] at y
        omega
      have hF1 : FL σ1 c := aF.fr hXa hs (by rintro q (rfl | rfl | rfl | rfl | rfl) <;> rfl)
      have hE := E_add (σ := σa) (σ' := σ1) (i := 0) aRX.2.2.2.2.1 aRX.2.2.2.2.2 (by decide) hA.2.2.2.2.1 hA.2.2.2.2.2.1 hs.X
      have ne : ∀ i, 0 < i → i < 4 → E i ≠ E 0 := fun i h1 h2 y => by have := aRX.2.2.2.2.1 i 0 h2 (by decide) y; omega
      refine ⟨some (.int (nI (nS μ))), σ1, fF (fA (fA (fA μ 3 (nS μ) x1) 4 (nS μ) x2) 5 (nS μ) x3) 2 (nI (nS μ) + 1), ?_, fun μ0 hμ hL => ?_, ⟨adj E 0 e', adj S (nS μ) (mX σ), L, B, G, H, Q, Z, w, ?_⟩, ⟨tk [1, 1003], (hsa.mono (fun _ _ => rfl)).trans hs, tk_rf (by decide)⟩, hX1, ?_, by omega, by omega⟩
      · have g1 := hA.1.1
        have g2 := hA.1.2.1
        rw [← hσa] at r1
        simp [psh_some, psh_none, -Int32.not_lt, -Int32.not_le, va_rf, vd, vr, isR_r, isR_n, isA_r, isI_i, isI_r, isR_i, ar, akI, akZ, akB, akO, mI_sI, mP_sI, mK_sI, mN_sI, mX_sI, mP_sP, mI_sP, mK_sP, mN_sP, mX_sP, rc_C_stop, e_C_stop_0, e_C_stop_9, e_C_stop_14, e_C_stop_20, e_C_stop_23, e_C_stop_30, e_C_stop_35, e_C_stop_42, e_C_stop_52, e_C_stop_58, e_C_stop_63, e_C_stop_73, rc_Stop_init, e_Stop_init_0, e_Stop_init_9, e_Stop_init_14, e_Stop_init_19, e_Stop_init_25, fK_1 hF, fK_2 hF, fK_3 hF, fK_4 hF, fK_5 hF, fK_6 hF, fN_6 hF, fK_7 hF, fN_7 hF, fK_8 hF, fN_8 hF, fK_9 hF, fN_9 hF, fK_10 hF, fK_11 hF, fN_11 hF, fK_12 hF, fK_13 hF, fN_13 hF, fK_14 hF, fN_14 hF, fK_15 hF, fN_15 hF, fK_16 hF, fN_16 hF, fP_12_0 hF, fP_12_1 hF, fP_12_2 hF, fP_12_3 hF, fP_12_4 hF, fP_12_5 hF, fP_12_6 hF, fP_12_7 hF, fP_4_0 hF, fP_4_1 hF, fP_4_2 hF, fP_4_3 hF, fP_11_0 hF, fP_7_0 hF, fP_7_1 hF, fP_7_2 hF, hF.cc, c_size _ l1.1, l1.2.1, z1, c_within, bZ_t h1, bZ_t h2, hx3, rc_AL_size, e_AL_size_0, mK_nw, mP_nw, mI_nw, nc, nc1, r1, fK_1 hF1, fP_12_0 hF1, hF1.cc, g2, nI_pred]
      · have i1 : ix (nI (nS μ)) 12 = true := ix_of (by omega) (by omega)
        have e1 : nI (nS μ) + 1 - 1 = nI (nS μ) := by grind
        simp [psh_some, psh_none, -Int32.not_lt, -Int32.not_le, rc_M_stop, q_M_stop_0, q_M_stop_5, q_M_stop_14, q_M_stop_20, q_M_stop_23, q_M_stop_30, q_M_stop_35, q_M_stop_45, q_M_stop_55, q_M_stop_65, q_M_stop_75, hL, hμ, hs12.1, z2, m_in, bZ_t h1, bZ_t h2, i1, cl12 (show nS μ < 12 by omega), hx3, fA_1, fF_1, e1]
      · refine ⟨hF1, az.fr hs rfl, ?_, ?_, (RL_S aRL hW.2.2.1).fr hXa hs rfl rfl rfl rfl rfl, (RB_S aRB hW.2.2.2.1).fr hXa hs rfl rfl rfl rfl (Ar_of (by repeat' constructor)), aRP.fr (fun k hk => (aRB k hk).1.1) hXa hs rfl rfl rfl (Ar_of (by repeat' constructor)), (RG_S aRG hW.2.2.2.2.1).fr hXa hs rfl rfl rfl (Ar_of (by repeat' constructor)), aRF.fr aF hXa hs rfl rfl rfl rfl rfl rfl (Ar_of (by repeat' constructor)), aRT.fr aF hXa hs rfl rfl rfl rfl, aRK.fr aF hXa hs rfl rfl rfl rfl rfl (Ar_of (by repeat' constructor)), aRR.fr aF hXa hs rfl (by rintro q (rfl | rfl | rfl | rfl | rfl | rfl | rfl | rfl) <;> rfl) rfl (Ar_of (by repeat' constructor)), aRN.fr aF hXa hs rfl rfl rfl rfl rfl rfl⟩
        · refine ⟨?_, Lst_oth aRX.2.1 az hXa hA (by omega) (ne 1 (by decide) (by decide)), Lst_oth aRX.2.2.1 az hXa hA (by omega) (ne 2 (by decide) (by decide)), Lst_oth aRX.2.2.2.1 az hXa hA (by omega) (ne 3 (by decide) (by decide)), hE.1, hE.2⟩
          rw [hn']
          exact hA.1
        · intro k hk
          rw [hn'] at hk
          by_cases y : k = nS μ
          · subst y
            rw [adj_n]
            have hq : mX σ < mX σa := by omega
            have q : ∀ f, mI σ1 10 (mX σ) f = mI σa 10 (mX σ) f := hs.I rfl hq
            rw [hs.K hq, k10, q, q, q, q, q, q]
            refine ⟨rfl, ?_, ?_, ?_, ?_, ?_, ?_⟩
            · rw [← hσa]; simp [mI_sI]
            · rw [← hσa]; simp [mI_sI, fA_2, fF_2]
            · rw [← hσa]; simp [mI_sI, fA_2, fF_2]
            · rw [← hσa]; simp [mI_sI, fA_2, fF_2]
            · have := hW.2.1.2 (nS μ) (Nat.le_refl _)
              rw [← hσa]; simp [mI_sI, mI_nw, fA_2, fF_2, this]
            · show _ = sm (mo1 μ (nI (nS μ))) (nB μ)
              rw [hmo, ← hσa]; simp [mI_sI, mI_nw]
          · have hk' : k < nS μ := by omega
            rw [adj_o y]
            have t := aRS k hk'
            have hq := hXa.lt t.1 (by decide)
            have q : ∀ f, mI σ1 10 (S k) f = mI σa 10 (S k) f := hs.I rfl hq
            rw [hs.K hq, q, q, q, q, q, q]
            obtain ⟨t0, t1, t2, t3, t4, t5, t6⟩ := t
            exact ⟨t0, t1, by simpa [fA_2, fF_2, y] using t2, by simpa [fA_2, fF_2, y] using t3, by simpa [fA_2, fF_2, y] using t4, by simpa [fA_2, fF_2, y] using t5, t6⟩
      · have hnB : nB (fF (fA (fA (fA μ 3 (nS μ) x1) 4 (nS μ) x2) 5 (nS μ) x3) 2 (nI (nS μ) + 1)) = nB μ := rfl
        refine ⟨⟨?_, hC.2⟩, ⟨fun k hk => ?_, fun k hk => ?_⟩, WL_mono hW.2.2.1 (by rw [hn']; omega) rfl (Ar_of (by repeat' constructor)), WB_mono hW.2.2.2.1 (by rw [hn']; omega) rfl (fun f f1 f2 => by rw [fF_2, fA_2n _ (by omega), fA_2n _ (by omega), fA_2n _ (by omega)]), WG_mono hW.2.2.2.2.1 (by rw [hn']; omega) (Nat.le_refl _) rfl (Ar_of (by repeat' constructor)), hW.2.2.2.2.2.1, hW.2.2.2.2.2.2.1, hW.2.2.2.2.2.2.2.1, hW.2.2.2.2.2.2.2.2⟩
        · rw [hn']
          refine ⟨?_, by omega⟩
          show nI (nS μ) + 1 = _
          rw [nI_1]
        · rw [hn'] at hk
          by_cases y : k = nS μ
          · subst y
            have := hW.2.1.2 (nS μ) (Nat.le_refl _)
            refine ⟨⟨b1, b1a, b1b, ?_⟩, ⟨b2, b2b, ?_⟩, ?_, ⟨0, by omega, ?_⟩, ⟨b1, b1b, ?_⟩⟩
            · simp [fA_2, fF_2, b1c]
            · simp [fA_2, fF_2, b2c]
            · simpa [fA_2, fF_2] using hx3
            · simp [fA_2, fF_2, this, nI_0]
            · show (fF (fA (fA (fA μ 3 (nS μ) x1) 4 (nS μ) x2) 5 (nS μ) x3) 2 (nI (nS μ) + 1)).2 3 (nS μ) - sm (mo1 μ (nI (nS μ))) (nB μ) = _
              rw [hmo, sub_zero']
              simp [fA_2, fF_2, b1c]
          · have t := hW.2.1.1 k (by omega)
            obtain ⟨t1, t2, t3, t4, f, t5, t6⟩ := t
            refine ⟨by simpa [fA_2, fF_2, y] using t1, by simpa [fA_2, fF_2, y] using t2, by simpa [fA_2, fF_2, y] using t3, by simpa [fA_2, fF_2, y] using t4, f, t5, ?_⟩
            rw [← t6]
            show (fF (fA (fA (fA μ 3 (nS μ) x1) 4 (nS μ) x2) 5 (nS μ) x3) 2 (nI (nS μ) + 1)).2 3 k - _ = μ.2 3 k - _
            have e3 : (fF (fA (fA (fA μ 3 (nS μ) x1) 4 (nS μ) x2) 5 (nS μ) x3) 2 (nI (nS μ) + 1)).2 3 k = μ.2 3 k := by simp [fA_2, fF_2, y]
            rw [e3]
            rfl
        · rw [hn'] at hk
          have := hW.2.1.2 k (by omega)
          simp [fA_2, fF_2, this]
    · refine Res.same hR hX hW (v := some (.int (-1))) ?_ (fun τ μ0 hμ hL => ?_)
      · simp [psh_some, psh_none, -Int32.not_lt, -Int32.not_le, va_rf, vd, vr, isR_r, isR_n, isA_r, isI_i, isI_r, isR_i, ar, akI, akZ, akB, akO, mI_sI, mP_sI, mK_sI, mN_sI, mX_sI, mP_sP, mI_sP, mK_sP, mN_sP, mX_sP, rc_C_stop, e_C_stop_0, e_C_stop_9, e_C_stop_14, e_C_stop_20, e_C_stop_23, e_C_stop_30, e_C_stop_33, fK_1 hF, fK_2 hF, fK_3 hF, fK_4 hF, fK_5 hF, fK_6 hF, fN_6 hF, fK_7 hF, fN_7 hF, fK_8 hF, fN_8 hF, fK_9 hF, fN_9 hF, fK_10 hF, fK_11 hF, fN_11 hF, fK_12 hF, fK_13 hF, fN_13 hF, fK_14 hF, fN_14 hF, fK_15 hF, fN_15 hF, fK_16 hF, fN_16 hF, fP_12_0 hF, fP_12_1 hF, fP_12_2 hF, fP_12_3 hF, fP_12_4 hF, fP_12_5 hF, fP_12_6 hF, fP_12_7 hF, fP_4_0 hF, fP_4_1 hF, fP_4_2 hF, fP_4_3 hF, fP_11_0 hF, fP_7_0 hF, fP_7_1 hF, fP_7_2 hF, hF.cc, c_size _ l1.1, l1.2.1, z1, c_within, bZ_t h1, bZ_f h2]
      · simp [psh_some, psh_none, -Int32.not_lt, -Int32.not_le, rc_M_stop, q_M_stop_0, q_M_stop_5, q_M_stop_14, q_M_stop_20, q_M_stop_23, q_M_stop_30, q_M_stop_33, hL, hμ, hs12.1, z2, m_in, bZ_t h1, bZ_f h2]
  · refine Res.same hR hX hW (v := some (.int (-1))) ?_ (fun τ μ0 hμ hL => ?_)
    · simp [psh_some, psh_none, -Int32.not_lt, -Int32.not_le, va_rf, vd, vr, isR_r, isR_n, isA_r, isI_i, isI_r, isR_i, ar, akI, akZ, akB, akO, mI_sI, mP_sI, mK_sI, mN_sI, mX_sI, mP_sP, mI_sP, mK_sP, mN_sP, mX_sP, rc_C_stop, e_C_stop_0, e_C_stop_9, e_C_stop_14, e_C_stop_20, e_C_stop_33, fK_1 hF, fK_2 hF, fK_3 hF, fK_4 hF, fK_5 hF, fK_6 hF, fN_6 hF, fK_7 hF, fN_7 hF, fK_8 hF, fN_8 hF, fK_9 hF, fN_9 hF, fK_10 hF, fK_11 hF, fN_11 hF, fK_12 hF, fK_13 hF, fN_13 hF, fK_14 hF, fN_14 hF, fK_15 hF, fN_15 hF, fK_16 hF, fN_16 hF, fP_12_0 hF, fP_12_1 hF, fP_12_2 hF, fP_12_3 hF, fP_12_4 hF, fP_12_5 hF, fP_12_6 hF, fP_12_7 hF, fP_4_0 hF, fP_4_1 hF, fP_4_2 hF, fP_4_3 hF, fP_11_0 hF, fP_7_0 hF, fP_7_1 hF, fP_7_2 hF, hF.cc, c_size _ l1.1, l1.2.1, z1, c_within, bZ_f h1]
    · simp [psh_some, psh_none, -Int32.not_lt, -Int32.not_le, rc_M_stop, q_M_stop_0, q_M_stop_5, q_M_stop_14, q_M_stop_20, q_M_stop_33, hL, hμ, hs12.1, z2, m_in, bZ_f h1]
end O58
