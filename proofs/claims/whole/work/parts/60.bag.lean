/-! ===== OPERATION: bag ===== -/
section O60
variable {σ σ' : Mm} {c a : Nat} {E S L B G H Q : Nat → Nat} {Z : Nat → List Nat} {w : Bool} {μ μ' : Ms} (d : Nat)
def bagM (σ : Mm) (s t : Nat) (x3 x4 : Int32) : Mm := sI (sI (sP (sP (sI (sI (sP (nw (nw σ 2 0 8) 20 7 7) 2 (mX σ) 3 (some (mX σ + 1))) 2 (mX σ) 4 0) 2 (mX σ) 6 (-1)) 2 (mX σ) 5 (some s)) 2 (mX σ) 0 (some t)) 2 (mX σ) 1 x3) 2 (mX σ) 2 x4
def bagS (μ : Ms) (i j : Nat) (x3 x4 : Int32) : Ms := fF (fA (fA (fA (fA (fA μ 61 (nG μ) (nI j)) 62 (nG μ) x3) 63 (nG μ) x4) 64 (nG μ) 0) 65 (nG μ) (nI i)) 60 (nI (nG μ) + 1)
theorem bagS_o {i j k : Nat} {x3 x4 : Int32} (f : Nat) (hk : k ≠ nG μ) : (bagS μ i j x3 x4).2 f k = μ.2 f k := by simp [bagS, fA_2, fF_2, hk]
theorem bagS_f {i j : Nat} {x3 x4 : Int32} {f : Nat} (hf : f < 61 ∨ 65 < f) : (bagS μ i j x3 x4).2 f = μ.2 f := by
  unfold bagS
  rw [fF_2, fA_2n _ (by omega), fA_2n _ (by omega), fA_2n _ (by omega), fA_2n _ (by omega), fA_2n _ (by omega)]
theorem ok_bag (x1 x2 x3 x4 : Int32) : Ok 81 172 [.int x1, .int x2, .int x3, .int x4] := by
  refine Ok_of fun d σ c a E S L B G H Q Z w μ hR hLM hX hW => ?_
  have hC := hW.1
  obtain ⟨hF, hz, hRX, hRS, hRL, hRB, hRP, hRG, hRF, hRT, hRK, hRR, hRN⟩ := id hR
  have hs12 := hC.s
  have hg30 := hC.g
  have l2 := hRX.2.2.2.1
  have hlx := hF.lt hX
  have nc : ¬ c = mX σ := by omega
  have nc2 : ¬ c = mX σ + 1 := by omega
  have nc1 : ¬ c + 4 = mX σ := by omega
  have nc12 : ¬ c + 4 = mX σ + 1 := by omega
  obtain ⟨o2, o2r, o2e⟩ := c_stopAt_any (d + 16) hF hRX hC hRS x2
  rcases nIx x1 (n := nS μ) (by omega) with ⟨i, hi, rfl⟩ | hno1
  · have e1 := c_stopAt (d + 16) hF hRX hC hi (hRS i hi).1
    have j1 := is_ix hi (show nS μ ≤ 1000 by omega)
    by_cases h0 : nG μ = 30
    · have z1 : (30 : Int32) ≤ nI (nG μ) := by rw [h0]; decide
      have z2 : nI (nG μ) = 30 := by rw [h0]; rfl
      refine Res.same hR hX hW (v := some (.int (-1))) ?_ (fun τ μ0 hμ hL => ?_)
      · simp [psh_some, psh_none, -Int32.not_lt, -Int32.not_le, va_rf, vd, vr, isR_r, isR_n, isA_r, isI_i, isI_r, isR_i, ar, akI, akZ, akB, akO, mI_sI, mP_sI, mK_sI, mN_sI, mX_sI, mP_sP, mI_sP, mK_sP, mN_sP, mX_sP, rc_C_bag, e_C_bag_0, e_C_bag_5, e_C_bag_12, e_C_bag_23, e_C_bag_43, fK_1 hF, fK_2 hF, fK_3 hF, fK_4 hF, fK_5 hF, fK_6 hF, fN_6 hF, fK_7 hF, fN_7 hF, fK_8 hF, fN_8 hF, fK_9 hF, fN_9 hF, fK_10 hF, fK_11 hF, fN_11 hF, fK_12 hF, fK_13 hF, fN_13 hF, fK_14 hF, fN_14 hF, fK_15 hF, fN_15 hF, fK_16 hF, fN_16 hF, fP_12_0 hF, fP_12_1 hF, fP_12_2 hF, fP_12_3 hF, fP_12_4 hF, fP_12_5 hF, fP_12_6 hF, fP_12_7 hF, fP_4_0 hF, fP_4_1 hF, fP_4_2 hF, fP_4_3 hF, fP_11_0 hF, fP_7_0 hF, fP_7_1 hF, fP_7_2 hF, hF.cc, e1, o2r, o2e, c_size _ l2.1, l2.2.1, z1]
      · simp [psh_some, psh_none, -Int32.not_lt, -Int32.not_le, rc_M_bag, q_M_bag_0, q_M_bag_5, q_M_bag_58, hL, hμ, hg30.1, z2]
    have z1 : ¬ (30 : Int32) ≤ nI (nG μ) := nI_ge (b := 30) (by omega) (by omega)
    have z2 : ¬ nI (nG μ) = 30 := fun y => h0 ((nI_eq (b := 30) (by omega) (by omega)).mp y)
    rcases nIx x2 (n := nS μ) (by omega) with ⟨j, hj, rfl⟩ | hno2
    · have e2 := c_stopAt (d + 16) hF hRX hC hj (hRS j hj).1
      have j2 := is_ix hj (show nS μ ≤ 1000 by omega)
      by_cases hij : i = j
      · subst hij
        refine Res.same hR hX hW (v := some (.int (-1))) ?_ (fun τ μ0 hμ hL => ?_)
        · simp [psh_some, psh_none, -Int32.not_lt, -Int32.not_le, va_rf, vd, vr, isR_r, isR_n, isA_r, isI_i, isI_r, isR_i, ar, akI, akZ, akB, akO, mI_sI, mP_sI, mK_sI, mN_sI, mX_sI, mP_sP, mI_sP, mK_sP, mN_sP, mX_sP, rc_C_bag, e_C_bag_0, e_C_bag_5, e_C_bag_12, e_C_bag_23, e_C_bag_28, e_C_bag_33, e_C_bag_38, e_C_bag_43, fK_1 hF, fK_2 hF, fK_3 hF, fK_4 hF, fK_5 hF, fK_6 hF, fN_6 hF, fK_7 hF, fN_7 hF, fK_8 hF, fN_8 hF, fK_9 hF, fN_9 hF, fK_10 hF, fK_11 hF, fN_11 hF, fK_12 hF, fK_13 hF, fN_13 hF, fK_14 hF, fN_14 hF, fK_15 hF, fN_15 hF, fK_16 hF, fN_16 hF, fP_12_0 hF, fP_12_1 hF, fP_12_2 hF, fP_12_3 hF, fP_12_4 hF, fP_12_5 hF, fP_12_6 hF, fP_12_7 hF, fP_4_0 hF, fP_4_1 hF, fP_4_2 hF, fP_4_3 hF, fP_11_0 hF, fP_7_0 hF, fP_7_1 hF, fP_7_2 hF, hF.cc, e1, c_size _ l2.1, l2.2.1, z1]
        · simp [psh_some, psh_none, -Int32.not_lt, -Int32.not_le, rc_M_bag, q_M_bag_0, q_M_bag_5, q_M_bag_14, q_M_bag_19, q_M_bag_22, q_M_bag_27, q_M_bag_30, q_M_bag_58, hL, hμ, hg30.1, z2, m_isStop, hs12.1, bZ_t j1]
      have hij' : ¬ nI i = nI j := by rw [nI_eq (by omega) (by omega)]; exact hij
      by_cases h3 : ¬ x3 < 1 ∧ ¬ 2000 < x3
      · by_cases h4 : ¬ x4 < 0 ∧ ¬ 143999 < x4
        · obtain ⟨mi, m1, m2, m3⟩ := in_N (a := 1) (b := 2000) rfl rfl (by omega) (by omega) h3
          obtain ⟨me, me1, me2, me3⟩ := in_N (a := 0) (b := 143999) rfl rfl (by omega) (by omega) h4
          have hsa : Sm (tk []) σ (bagM σ (S i) (S j) x3 x4) := SmsIn (SmsIn (SmsPn (SmsPn (SmsIn (SmsIn (SmsPn (Smnw (Smnw (Sm.rfl' σ) _ _ _) _ _ _) _ (Nat.le_refl _) _ _) _ (Nat.le_refl _) _ _) _ (Nat.le_refl _) _ _) _ (Nat.le_refl _) _ _) _ (Nat.le_refl _) _ _) _ (Nat.le_refl _) _ _) _ (Nat.le_refl _) _ _
          have hXa : Kx (bagM σ (S i) (S j) x3 x4) := KxsI (KxsI (KxsP (KxsP (KxsI (KxsI (KxsP (Kxnw (Kxnw hX _ _ _) _ _ _) _ _ _ _) _ _ _ _) _ _ _ _) _ _ _ _) _ _ _ _) _ _ _ _) _ _ _ _
          have hRa := hR.fr hX hsa (fun q _ => rfl)
          obtain ⟨aF, az, aRX, aRS, aRL, aRB, aRP, aRG, aRF, aRT, aRK, aRR, aRN⟩ := id hRa
          generalize hσa : bagM σ (S i) (S j) x3 x4 = σa at hsa hXa hRa aF az aRX aRS aRL aRB aRP aRG aRF aRT aRK aRR aRN
          have xa : mX σa = mX σ + 2 := by rw [← hσa]; rfl
          have sa' : mS σa = mS σ + 15 := by rw [← hσa]; rfl
          have k10 : mK σa (mX σ) = 2 := by rw [← hσa]; simp [bagM, mK_sI, mK_sP, mK_nw, mX_nw]
          have k20 : mK σa (mX σ + 1) = 20 := by rw [← hσa]; simp [bagM, mK_sI, mK_sP, mK_nw, mX_nw]
          have n20 : mN σa (mX σ + 1) = 7 := by rw [← hσa]; simp [bagM, mN_sI, mN_sP, mN_nw, mX_nw]
          obtain ⟨σ1, e', r1, hA⟩ := c_add (d + 18) aRX.2.2.2.1 az hXa (show nG μ ≤ 29 by omega) (b := mX σ) (by rw [k10]; decide) (by rw [k10]; decide) (aRX.2.2.2.2.2 3 (by decide)) (fun q hq => by rw [show mK _ _ = _ from (aRG.1 q hq).1.1]; decide)
          have hs := hA.2.1
          have hX1 : Kx σ1 := hA.2.2.2.2.2.2.1
          have hx8 := hA.2.2.2.2.2.2.2
          have hn' : nG (bagS μ i j x3 x4) = nG μ + 1 := by
            show (nI (nG μ) + 1).toNatClampNeg = _
            rw [nI_1, nI_clamp (by omega)]
          have hF1 : FL σ1 c := aF.fr hXa hs (by rintro q (rfl | rfl | rfl | rfl | rfl) <;> rfl)
          have hE := E_add (σ := σa) (σ' := σ1) (i := 3) aRX.2.2.2.2.1 aRX.2.2.2.2.2 (by decide) hA.2.2.2.2.1 hA.2.2.2.2.2.1 hs.X
          have ne : ∀ i, i ≠ 3 → i < 4 → E i ≠ E 3 := fun i h1 h2 y => by have := aRX.2.2.2.2.1 i 3 h2 (by decide) y; omega
          have n61 : (bagS μ i j x3 x4).2 61 (nG μ) = nI j := by simp [bagS, fA_2, fF_2]
          have n62 : (bagS μ i j x3 x4).2 62 (nG μ) = x3 := by simp [bagS, fA_2, fF_2]
          have n63 : (bagS μ i j x3 x4).2 63 (nG μ) = x4 := by simp [bagS, fA_2, fF_2]
          have n64 : (bagS μ i j x3 x4).2 64 (nG μ) = 0 := by simp [bagS, fA_2, fF_2]
          have n65 : (bagS μ i j x3 x4).2 65 (nG μ) = nI i := by simp [bagS, fA_2, fF_2]
          have ci := cl12 (show i < 12 by omega)
          have cj := cl12 (show j < 12 by omega)
          have no01 : ¬ (0 : Int32) = 1 := by decide
          have no02 : ¬ (0 : Int32) = 2 := by decide
          refine ⟨some (.int (nI (nG μ))), σ1, bagS μ i j x3 x4, ?_, fun μ0 hμ hL => ?_, ⟨adj E 3 e', S, L, B, adj G (nG μ) (mX σ), H, adj Q (nG μ) (mX σ + 1), Z, w, ?_⟩, ⟨tk [1, 1003], (hsa.mono (fun _ _ => rfl)).trans hs, tk_rf (by decide)⟩, hX1, ?_, by omega, by omega⟩
          · have g2 := hA.1.2.1
            rw [← hσa, bagM] at r1
            simp [psh_some, psh_none, -Int32.not_lt, -Int32.not_le, va_rf, vd, vr, isR_r, isR_n, isA_r, isI_i, isI_r, isR_i, ar, akI, akZ, akB, akO, mI_sI, mP_sI, mK_sI, mN_sI, mX_sI, mP_sP, mI_sP, mK_sP, mN_sP, mX_sP, rc_C_bag, e_C_bag_0, e_C_bag_5, e_C_bag_12, e_C_bag_23, e_C_bag_28, e_C_bag_33, e_C_bag_38, e_C_bag_45, e_C_bag_53, e_C_bag_56, e_C_bag_64, e_C_bag_69, e_C_bag_76, e_C_bag_87, e_C_bag_92, e_C_bag_102, rc_Bag_init, e_Bag_init_0, e_Bag_init_9, e_Bag_init_12, e_Bag_init_17, e_Bag_init_22, e_Bag_init_27, e_Bag_init_32, e_Bag_init_37, e_Bag_init_43, fK_1 hF, fK_2 hF, fK_3 hF, fK_4 hF, fK_5 hF, fK_6 hF, fN_6 hF, fK_7 hF, fN_7 hF, fK_8 hF, fN_8 hF, fK_9 hF, fN_9 hF, fK_10 hF, fK_11 hF, fN_11 hF, fK_12 hF, fK_13 hF, fN_13 hF, fK_14 hF, fN_14 hF, fK_15 hF, fN_15 hF, fK_16 hF, fN_16 hF, fP_12_0 hF, fP_12_1 hF, fP_12_2 hF, fP_12_3 hF, fP_12_4 hF, fP_12_5 hF, fP_12_6 hF, fP_12_7 hF, fP_4_0 hF, fP_4_1 hF, fP_4_2 hF, fP_4_3 hF, fP_11_0 hF, fP_7_0 hF, fP_7_1 hF, fP_7_2 hF, hF.cc, e1, e2, c_size _ l2.1, l2.2.1, z1, hij', c_within, bZ_t h3, bZ_t h4, rc_AL_size, e_AL_size_0, mK_nw, mP_nw, mI_nw, mX_nw, nc, nc1, nc2, nc12, r1, fK_4 hF1, fP_12_3 hF1, hF1.cc, g2, nI_pred]
          · have i1 : ix (nI (nG μ)) 30 = true := ix_of (by omega) (by omega)
            have e1 : nI (nG μ) + 1 - 1 = nI (nG μ) := by grind
            simp [psh_some, psh_none, -Int32.not_lt, -Int32.not_le, rc_M_bag, q_M_bag_0, q_M_bag_5, q_M_bag_14, q_M_bag_19, q_M_bag_22, q_M_bag_27, q_M_bag_30, q_M_bag_35, q_M_bag_43, q_M_bag_46, q_M_bag_55, q_M_bag_60, q_M_bag_70, q_M_bag_80, q_M_bag_91, q_M_bag_101, q_M_bag_111, q_M_bag_121, hL, hμ, hg30.1, z2, m_isStop, hs12.1, bZ_t j1, bZ_t j2, hij', m_in, bZ_t h3, bZ_t h4, i1, cl30 (show nG μ < 30 by omega), fA_1, fF_1, e1, bagS]
          · refine ⟨hF1, az.fr hs rfl, ?_, aRS.fr hXa hs rfl rfl rfl rfl rfl rfl rfl rfl rfl, aRL.fr hXa hs rfl rfl rfl rfl rfl, aRB.fr hXa hs rfl rfl rfl rfl (Ar_of (by repeat' constructor)), ?_, ?_, aRF.fr aF hXa hs rfl rfl rfl rfl rfl rfl (Ar_of (by repeat' constructor)), aRT.fr aF hXa hs rfl rfl rfl rfl, aRK.fr aF hXa hs rfl rfl rfl rfl rfl (Ar_of (by repeat' constructor)), aRR.fr aF hXa hs rfl (by rintro q (rfl | rfl | rfl | rfl | rfl | rfl | rfl | rfl) <;> rfl) rfl (Ar_of (by repeat' constructor)), ?_⟩
            · refine ⟨Lst_oth aRX.1 az hXa hA (by omega) (ne 0 (by decide) (by decide)), Lst_oth aRX.2.1 az hXa hA (by omega) (ne 1 (by decide) (by decide)), Lst_oth aRX.2.2.1 az hXa hA (by omega) (ne 2 (by decide) (by decide)), ?_, hE.1, hE.2⟩
              rw [hn']
              exact hA.1
            · intro k hk
              have hk' : k < nB μ := hk
              obtain ⟨y6, y7⟩ := aRP k hk'
              have hq := hXa.lt (aRB k hk').1.1 (by decide)
              rw [hs.I rfl hq, hs.I rfl hq, hn']
              refine ⟨fun g => ?_, ?_⟩
              · rw [y6 g, hn']
                by_cases y : g = nG μ
                · subst y
                  rw [n64, decide_eq_false (by omega), decide_eq_false (fun z => no01 z.2.1)]
                · rw [bagS_o 64 y, bagS_o 66 y]
                  exact decide_eq_decide.mpr ⟨fun z => ⟨by omega, z.2⟩, fun z => ⟨by omega, z.2⟩⟩
              · rw [y7, sm, pd1, if_neg (fun z => no01 (n64.symm.trans z.1)), add_zero']
                refine sm_congr fun g hg => ?_
                have y : g ≠ nG μ := by omega
                unfold pd1
                rw [bagS_o 64 y, bagS_o 66 y, bagS_o 62 y]
            · have hq0 : mX σ < mX σa := by omega
              have hq1 : mX σ + 1 < mX σa := by omega
              have old : ∀ g, g < nG μ → G g < mX σ ∧ Q g < mX σ := fun g hg => ⟨hX.lt (hRG.1 g hg).1.1 (by decide), hX.lt (hRG.1 g hg).2.1 (by decide)⟩
              refine ⟨fun g hg => ?_, fun g g' hg hg' => ?_, fun g g' hg hg' => ?_⟩
              · rw [hn'] at hg
                by_cases y : g = nG μ
                · subst y
                  rw [adj_n, adj_n]
                  have q : ∀ f, mI σ1 2 (mX σ) f = mI σa 2 (mX σ) f := hs.I rfl hq0
                  have q2 : ∀ f, mP σ1 2 (mX σ) f = mP σa 2 (mX σ) f := hs.P rfl hq0
                  have q3 : ∀ f, mI σ1 20 (mX σ + 1) f = mI σa 20 (mX σ + 1) f := hs.I rfl hq1
                  refine ⟨?_, ?_⟩
                  · unfold RG1 gT gA
                    rw [hs.K hq0, k10, n61, n62, n63, n64, n65, ci, cj]
                    simp only [q, q2]
                    refine ⟨trivial, ?_, ?_, ?_, ?_, ?_, ?_, fun z => absurd z no01, fun z => absurd z no02⟩
                    · rw [← hσa]; simp [bagM, mP_sI, mP_sP]
                    · rw [← hσa]; simp [bagM, mI_sI, mI_sP]
                    · rw [← hσa]; simp [bagM, mI_sI, mI_sP]
                    · rw [← hσa]; simp [bagM, mP_sI, mP_sP]
                    · rw [← hσa]; simp [bagM, mI_sI, mI_sP]
                    · rw [← hσa]; simp [bagM, mP_sI, mP_sP]
                  · refine ⟨(hs.K hq1).trans k20, (hs.N hq1).trans n20, fun y hy => ?_⟩
                    rw [q3, bagS_f (by omega), hW.2.2.2.2.1.2 _ (by omega), ← hσa]
                    simp [bagM, mI_sI, mI_sP, mI_nw, mX_nw]
                · have hg' : g < nG μ := by omega
                  rw [adj_o y, adj_o y]
                  obtain ⟨t1, t2⟩ := aRG.1 g hg'
                  refine ⟨t1.fr hXa hs rfl (fun f _ => bagS_o f y), t2.fr hXa hs rfl (fun z _ => by rw [bagS_f (by omega)])⟩
              · rw [hn'] at hg hg'
                intro z
                by_cases y : g = nG μ <;> by_cases y' : g' = nG μ
                · omega
                · rw [y, adj_n, adj_o y'] at z
                  have := (old g' (by omega)).1
                  omega
                · rw [y', adj_n, adj_o y] at z
                  have := (old g (by omega)).1
                  omega
                · rw [adj_o y, adj_o y'] at z
                  exact hRG.2.1 g g' (by omega) (by omega) z
              · rw [hn'] at hg hg'
                intro z
                by_cases y : g = nG μ <;> by_cases y' : g' = nG μ
                · omega
                · rw [y, adj_n, adj_o y'] at z
                  have := (old g' (by omega)).2
                  omega
                · rw [y', adj_n, adj_o y] at z
                  have := (old g (by omega)).2
                  omega
                · rw [adj_o y, adj_o y'] at z
                  exact hRG.2.2 g g' (by omega) (by omega) z
            · have q0 := hXa.lt aF.cc (by decide)
              refine ⟨(hs.I rfl q0 _).trans aRN.1, (hs.I rfl q0 _).trans aRN.2.1, (hs.I rfl q0 _).trans aRN.2.2.1, ?_⟩
              rw [hs.I rfl q0, aRN.2.2.2, hn', sm]
              have e0 : dl1 (bagS μ i j x3 x4) (nG μ) = 0 := by rw [dl1, n64, if_neg no02]
              rw [e0, add_zero']
              refine sm_congr fun g hg => ?_
              unfold dl1
              rw [bagS_o 64 (by omega)]
          · refine ⟨⟨hC.1, hC.2.1, hC.2.2.1, hC.2.2.2.1, ?_, hC.2.2.2.2.2⟩, hW.2.1, hW.2.2.1, hW.2.2.2.1, ⟨fun g hg => ?_, fun q hq => ?_⟩, hW.2.2.2.2.2.1, hW.2.2.2.2.2.2.1, hW.2.2.2.2.2.2.2.1, hW.2.2.2.2.2.2.2.2⟩
            · rw [hn']
              refine ⟨?_, by omega⟩
              show nI (nG μ) + 1 = _
              rw [nI_1]
            · rw [hn'] at hg
              by_cases y : g = nG μ
              · subst y
                unfold WG1 gT gA
                rw [n61, n62, n63, n64, n65, ci, cj]
                exact ⟨⟨rfl, hj⟩, ⟨rfl, hi⟩, ⟨mi, m1, m2, m3⟩, ⟨me, me2, me3⟩, fun z => absurd z no01⟩
              · have t := hW.2.2.2.2.1.1 g (by omega)
                unfold WG1 gT gA at t ⊢
                rw [bagS_o 61 y, bagS_o 62 y, bagS_o 63 y, bagS_o 64 y, bagS_o 65 y, bagS_o 66 y]
                exact t
            · rw [hn'] at hq
              rw [bagS_f (by omega)]
              exact hW.2.2.2.2.1.2 q (by omega)
        · refine Res.same hR hX hW (v := some (.int (-1))) ?_ (fun τ μ0 hμ hL => ?_)
          · simp [psh_some, psh_none, -Int32.not_lt, -Int32.not_le, va_rf, vd, vr, isR_r, isR_n, isA_r, isI_i, isI_r, isR_i, ar, akI, akZ, akB, akO, mI_sI, mP_sI, mK_sI, mN_sI, mX_sI, mP_sP, mI_sP, mK_sP, mN_sP, mX_sP, rc_C_bag, e_C_bag_0, e_C_bag_5, e_C_bag_12, e_C_bag_23, e_C_bag_28, e_C_bag_33, e_C_bag_38, e_C_bag_45, e_C_bag_53, e_C_bag_56, e_C_bag_64, e_C_bag_67, fK_1 hF, fK_2 hF, fK_3 hF, fK_4 hF, fK_5 hF, fK_6 hF, fN_6 hF, fK_7 hF, fN_7 hF, fK_8 hF, fN_8 hF, fK_9 hF, fN_9 hF, fK_10 hF, fK_11 hF, fN_11 hF, fK_12 hF, fK_13 hF, fN_13 hF, fK_14 hF, fN_14 hF, fK_15 hF, fN_15 hF, fK_16 hF, fN_16 hF, fP_12_0 hF, fP_12_1 hF, fP_12_2 hF, fP_12_3 hF, fP_12_4 hF, fP_12_5 hF, fP_12_6 hF, fP_12_7 hF, fP_4_0 hF, fP_4_1 hF, fP_4_2 hF, fP_4_3 hF, fP_11_0 hF, fP_7_0 hF, fP_7_1 hF, fP_7_2 hF, hF.cc, e1, e2, c_size _ l2.1, l2.2.1, z1, hij', c_within, bZ_t h3, bZ_f h4]
          · simp [psh_some, psh_none, -Int32.not_lt, -Int32.not_le, rc_M_bag, q_M_bag_0, q_M_bag_5, q_M_bag_14, q_M_bag_19, q_M_bag_22, q_M_bag_27, q_M_bag_30, q_M_bag_35, q_M_bag_43, q_M_bag_46, q_M_bag_55, q_M_bag_58, hL, hμ, hg30.1, z2, m_isStop, hs12.1, bZ_t j1, bZ_t j2, hij', m_in, bZ_t h3, bZ_f h4]
      · refine Res.same hR hX hW (v := some (.int (-1))) ?_ (fun τ μ0 hμ hL => ?_)
        · simp [psh_some, psh_none, -Int32.not_lt, -Int32.not_le, va_rf, vd, vr, isR_r, isR_n, isA_r, isI_i, isI_r, isR_i, ar, akI, akZ, akB, akO, mI_sI, mP_sI, mK_sI, mN_sI, mX_sI, mP_sP, mI_sP, mK_sP, mN_sP, mX_sP, rc_C_bag, e_C_bag_0, e_C_bag_5, e_C_bag_12, e_C_bag_23, e_C_bag_28, e_C_bag_33, e_C_bag_38, e_C_bag_45, e_C_bag_53, e_C_bag_67, fK_1 hF, fK_2 hF, fK_3 hF, fK_4 hF, fK_5 hF, fK_6 hF, fN_6 hF, fK_7 hF, fN_7 hF, fK_8 hF, fN_8 hF, fK_9 hF, fN_9 hF, fK_10 hF, fK_11 hF, fN_11 hF, fK_12 hF, fK_13 hF, fN_13 hF, fK_14 hF, fN_14 hF, fK_15 hF, fN_15 hF, fK_16 hF, fN_16 hF, fP_12_0 hF, fP_12_1 hF, fP_12_2 hF, fP_12_3 hF, fP_12_4 hF, fP_12_5 hF, fP_12_6 hF, fP_12_7 hF, fP_4_0 hF, fP_4_1 hF, fP_4_2 hF, fP_4_3 hF, fP_11_0 hF, fP_7_0 hF, fP_7_1 hF, fP_7_2 hF, hF.cc, e1, e2, c_size _ l2.1, l2.2.1, z1, hij', c_within, bZ_f h3]
        · simp [psh_some, psh_none, -Int32.not_lt, -Int32.not_le, rc_M_bag, q_M_bag_0, q_M_bag_5, q_M_bag_14, q_M_bag_19, q_M_bag_22, q_M_bag_27, q_M_bag_30, q_M_bag_35, q_M_bag_43, q_M_bag_58, hL, hμ, hg30.1, z2, m_isStop, hs12.1, bZ_t j1, bZ_t j2, hij', m_in, bZ_f h3]
    · have e2 := c_stopAt_no (d + 16) hF hRX hC hno2
      refine Res.same hR hX hW (v := some (.int (-1))) ?_ (fun τ μ0 hμ hL => ?_)
      · simp [psh_some, psh_none, -Int32.not_lt, -Int32.not_le, va_rf, vd, vr, isR_r, isR_n, isA_r, isI_i, isI_r, isR_i, ar, akI, akZ, akB, akO, mI_sI, mP_sI, mK_sI, mN_sI, mX_sI, mP_sP, mI_sP, mK_sP, mN_sP, mX_sP, rc_C_bag, e_C_bag_0, e_C_bag_5, e_C_bag_12, e_C_bag_23, e_C_bag_28, e_C_bag_33, e_C_bag_43, fK_1 hF, fK_2 hF, fK_3 hF, fK_4 hF, fK_5 hF, fK_6 hF, fN_6 hF, fK_7 hF, fN_7 hF, fK_8 hF, fN_8 hF, fK_9 hF, fN_9 hF, fK_10 hF, fK_11 hF, fN_11 hF, fK_12 hF, fK_13 hF, fN_13 hF, fK_14 hF, fN_14 hF, fK_15 hF, fN_15 hF, fK_16 hF, fN_16 hF, fP_12_0 hF, fP_12_1 hF, fP_12_2 hF, fP_12_3 hF, fP_12_4 hF, fP_12_5 hF, fP_12_6 hF, fP_12_7 hF, fP_4_0 hF, fP_4_1 hF, fP_4_2 hF, fP_4_3 hF, fP_11_0 hF, fP_7_0 hF, fP_7_1 hF, fP_7_2 hF, hF.cc, e1, e2, c_size _ l2.1, l2.2.1, z1]
      · simp [psh_some, psh_none, -Int32.not_lt, -Int32.not_le, rc_M_bag, q_M_bag_0, q_M_bag_5, q_M_bag_14, q_M_bag_19, q_M_bag_22, q_M_bag_27, q_M_bag_58, hL, hμ, hg30.1, z2, m_isStop, hs12.1, bZ_t j1, bZ_f (no_ix hno2)]
  · have e1 := c_stopAt_no (d + 16) hF hRX hC hno1
    refine Res.same hR hX hW (v := some (.int (-1))) ?_ (fun τ μ0 hμ hL => ?_)
    · by_cases z1 : (30 : Int32) ≤ nI (nG μ) <;> simp [psh_some, psh_none, -Int32.not_lt, -Int32.not_le, va_rf, vd, vr, isR_r, isR_n, isA_r, isI_i, isI_r, isR_i, ar, akI, akZ, akB, akO, mI_sI, mP_sI, mK_sI, mN_sI, mX_sI, mP_sP, mI_sP, mK_sP, mN_sP, mX_sP, rc_C_bag, e_C_bag_0, e_C_bag_5, e_C_bag_12, e_C_bag_23, e_C_bag_28, e_C_bag_43, fK_1 hF, fK_2 hF, fK_3 hF, fK_4 hF, fK_5 hF, fK_6 hF, fN_6 hF, fK_7 hF, fN_7 hF, fK_8 hF, fN_8 hF, fK_9 hF, fN_9 hF, fK_10 hF, fK_11 hF, fN_11 hF, fK_12 hF, fK_13 hF, fN_13 hF, fK_14 hF, fN_14 hF, fK_15 hF, fN_15 hF, fK_16 hF, fN_16 hF, fP_12_0 hF, fP_12_1 hF, fP_12_2 hF, fP_12_3 hF, fP_12_4 hF, fP_12_5 hF, fP_12_6 hF, fP_12_7 hF, fP_4_0 hF, fP_4_1 hF, fP_4_2 hF, fP_4_3 hF, fP_11_0 hF, fP_7_0 hF, fP_7_1 hF, fP_7_2 hF, hF.cc, e1, o2r, o2e, c_size _ l2.1, l2.2.1, z1]
    · by_cases z2 : nI (nG μ) = 30 <;> simp [psh_some, psh_none, -Int32.not_lt, -Int32.not_le, rc_M_bag, q_M_bag_0, q_M_bag_5, q_M_bag_14, q_M_bag_19, q_M_bag_58, hL, hμ, hg30.1, z2, m_isStop, hs12.1, bZ_f (no_ix hno1)]
end O60
