/-! ===== OPERATION: unload ===== -/
section O56
variable {σ σ' : Mm} {c a : Nat} {E S L B G H Q : Nat → Nat} {Z : Nat → List Nat} {w : Bool} {μ μ' : Ms} (d : Nat)
theorem RuL_P {r : Nat} (h : RuL σ r) (hK : mK σ' = mK σ) (hN : mN σ' = mN σ) (hP : mP σ' 9 = mP σ 9) : RuL σ' r := by
  unfold RuL at h ⊢
  rw [hK, hN, hP]
  exact h
theorem FL_P (h : FL σ c) (hK : mK σ' = mK σ) (hN : mN σ' = mN σ) (hP : ∀ k, k = 4 ∨ k = 7 ∨ k = 9 ∨ k = 11 ∨ k = 12 → mP σ' k = mP σ k) : FL σ' c := by
  refine ⟨by rw [hK]; exact h.1, by rw [hK, hN]; exact h.2.1, fun e he => ?_, RuL_P h.2.2.2.1 hK hN (hP 9 (by simp)), RuL_P h.2.2.2.2 hK hN (hP 9 (by simp))⟩
  rw [hP e.1 ((show ∀ e ∈ clp, e.1 = 4 ∨ e.1 = 7 ∨ e.1 = 9 ∨ e.1 = 11 ∨ e.1 = 12 by decide) e he)]
  exact h.2.2.1 e he
theorem RP_unl {k g : Nat} (h : RP σ B μ) (hRB : RB σ S B H μ) (hC : Cn μ) (hk : k < nB μ) (hg : g < nG μ) (h1 : μ.2 64 g = 1) (hgk : μ.2 66 g = nI k) (e1 : μ'.1 = μ.1) (e2 : μ'.2 62 = μ.2 62) (q4 : ∀ j, j ≠ g → μ'.2 64 j = μ.2 64 j) (q6 : ∀ j, j ≠ g → μ'.2 66 j = μ.2 66 j) (n4 : ¬ μ'.2 64 g = 1) (m6 : mI σ' 3 (B k) 6 = mI σ 3 (B k) 6 &&& ((1 <<< (nI g &&& 31)) ^^^ -1)) (m7 : mI σ' 3 (B k) 7 = mI σ 3 (B k) 7 - μ.2 62 g) (mo : ∀ j, j ≠ B k → ∀ f, mI σ' 3 j f = mI σ 3 j f) : RP σ' B μ' := by
  have hb := hC.b.2
  intro j hj
  have hj' : j < nB μ := by unfold nB at hj ⊢; rw [← e1]; exact hj
  have hn : nG μ' = nG μ := by unfold nG; rw [e1]
  obtain ⟨y6, y7⟩ := h j hj'
  by_cases z : j = k
  · subst z
    rw [m6, m7, hn, pd_up (μ := μ) (μ' := μ') hg e2 q4 q6, y7]
    have z1 : pd1 μ (nI j) g = μ.2 62 g := by rw [pd1, if_pos ⟨h1, hgk⟩]
    have z2 : pd1 μ' (nI j) g = 0 := by rw [pd1, if_neg (fun y => n4 y.1)]
    rw [z1, z2, add_zero']
    exact ⟨Cg_clr y6 hC hg e1 q4 q6 n4, rfl⟩
  · have hnj : B j ≠ B k := fun y => z (hRB.inj hC hj' hk y)
    have hnk : ¬ nI k = nI j := by rw [nI_eq (by omega) (by omega)]; omega
    rw [mo _ hnj, mo _ hnj, hn, pd_up (μ := μ) (μ' := μ') hg e2 q4 q6, y7]
    have z1 : pd1 μ (nI j) g = 0 := by rw [pd1, if_neg (fun y => hnk (hgk.symm.trans y.2))]
    have z2 : pd1 μ' (nI j) g = 0 := by rw [pd1, if_neg (fun y => n4 y.1)]
    rw [z1, z2, add_zero', sub_zero']
    exact ⟨Cg_oth y6 e1 q4 q6 (fun y => hnk (hgk.symm.trans y.2)) (fun y => n4 y.1), rfl⟩
theorem late_eq {n p : Nat} (hn : n ≤ 143999) (hp : p ≤ 143999) : (if 0 < nI n - nI p then nI n - nI p else 0) = if nI n ≤ nI p then 0 else nI n - nI p := by
  by_cases z : n ≤ p
  · rw [if_pos (nI_le z (by omega)), if_neg]
    by_cases y : n = p
    · subst y
      rw [pk_sub (Nat.le_refl _), Nat.sub_self]
      decide
    · have := pk_sneg (a := n) (b := p) (by omega) (by omega)
      exact fun q => absurd (Int32.lt_trans q this) Int32.lt_irrefl
  · rw [if_neg (nI_ge (by omega) (by omega)), pk_sub (by omega), if_pos (by rw [show (0 : Int32) = nI 0 from rfl]; exact nI_lt (by omega) (by omega))]
theorem ok_unload (x : Int32) : Ok 83 175 [.int x] := by
  refine Ok_of fun d σ c a E S L B G H Q Z w μ hR hLM hX hW => ?_
  have hC := hW.1
  obtain ⟨hF, hz, hRX, hRS, hRL, hRB, hRP, hRG, hRF, hRT, hRK, hRR, hRN⟩ := id hR
  have hb := hC.b
  have hw := hC.w
  have hg30 := hC.g
  have hs12 := hC.s.2
  rcases nIx x (n := nG μ) (by omega) with ⟨g, hg, rfl⟩ | hno
  · obtain ⟨⟨g0, g1, g2, g3, g4, g5, g6, g7, g8⟩, hq⟩ := hRG.1 g hg
    obtain ⟨v0, v1, v2, ⟨pd, pd1', pd2⟩, v4⟩ := hW.2.2.2.2.1.1 g hg
    have eg := c_bagAt (d + 16) hF hRX hC hg g0
    have ig : ix (nI g) 30 = true := ix_of (by omega) (by omega)
    have cg := cl30 (show g < 30 by omega)
    have jg := is_ix hg (show nG μ ≤ 1000 by omega)
    by_cases h1 : μ.2 64 g = 1
    · obtain ⟨k, hk, hgk⟩ := v4 h1
      have g7' := g7 h1
      have i4 : ix (nI k) 6 = true := ix_of (by omega) (by omega); have ck := cl6 (show k < 6 by omega); have j1 := is_ix hk (show nB μ ≤ 1000 by omega); obtain ⟨a0, a1, a2, a3, a4, a5, a6, a7, a8, a9, a10, a11, a12, a13, a14, a15⟩ := (hRB k hk).1; have hh := (hRB k hk).2; obtain ⟨u0, u1, u2, u3, u4, u5, u6, u7⟩ := (hRB k hk).2; obtain ⟨b0, b1, b2, b3, b4, b5, b6, b7, b8, b9, b10, b11, b12⟩ := hW.2.2.2.1.1 k hk; have hS := hRS _ b0.2; have i5 : ix (nI (aT μ k)) 12 = true := ix_of (by omega) (by omega); have ca := cl12 (show aT μ k < 12 by omega)
      have em := c_moored (d + 15) hF hRX hC hRB hk
      by_cases h0 : μ.2 24 k = 0
      · rw [if_pos h0] at em
        obtain ⟨p6, p7⟩ := hRP k hk
        have hne : G g ≠ B k := fun z => by have := g0; rw [z, a0] at this; cases this
        by_cases h2 : aT μ k = gT μ g
        · have q4 : ∀ j, j ≠ g → (fA (fA (fA μ 65 g (nI (aT μ k))) 64 g 2) 67 g (if nI (nW μ) ≤ nI pd then 0 else nI (nW μ) - nI pd)).2 64 j = μ.2 64 j := fun j hj => by simp [fA_2, hj]
          have q6 : ∀ j, j ≠ g → (fA (fA (fA μ 65 g (nI (aT μ k))) 64 g 2) 67 g (if nI (nW μ) ≤ nI pd then 0 else nI (nW μ) - nI pd)).2 66 j = μ.2 66 j := fun j hj => by simp [fA_2, hj]
          have r4 : (fA (fA (fA μ 65 g (nI (aT μ k))) 64 g 2) 67 g (if nI (nW μ) ≤ nI pd then 0 else nI (nW μ) - nI pd)).2 64 g = 2 := by simp [fA_2]
          have r67 : (fA (fA (fA μ 65 g (nI (aT μ k))) 64 g 2) 67 g (if nI (nW μ) ≤ nI pd then 0 else nI (nW μ) - nI pd)).2 67 g = (if nI (nW μ) ≤ nI pd then 0 else nI (nW μ) - nI pd) := by simp [fA_2]
          have r65 : (fA (fA (fA μ 65 g (nI (aT μ k))) 64 g 2) 67 g (if nI (nW μ) ≤ nI pd then 0 else nI (nW μ) - nI pd)).2 65 g = nI (aT μ k) := by simp [fA_2]
          have n4 : ¬ (fA (fA (fA μ 65 g (nI (aT μ k))) 64 g 2) 67 g (if nI (nW μ) ≤ nI pd then 0 else nI (nW μ) - nI pd)).2 64 g = 1 := by rw [r4]; decide
          have le := late_eq hw.2 pd1'
          have hs : Sm (tk [2, 3, 12]) σ (sI (sI (sI (sP (sI (sI σ 3 (B k) 7 (sm (pd1 μ (nI k)) (nG μ) - μ.2 62 g)) 3 (B k) 6 (mI σ 3 (B k) 6 &&& ((1 <<< (nI g &&& 31)) ^^^ -1))) 2 (G g) 5 (some (S (aT μ k)))) 2 (G g) 4 2) 2 (G g) 7 (if nI (nW μ) ≤ nI pd then 0 else nI (nW μ) - nI pd)) 12 c 13 (sm (dl1 μ) (nG μ) + 1)) := SmsI (SmsI (SmsI (SmsP (SmsI (SmsI (Sm.rfl' σ) rfl _ _ _) rfl _ _ _) rfl _ _ _) rfl _ _ _) rfl _ _ _) rfl _ _ _
          have hP2 : ∀ k', k' ≠ 2 → mP (sI (sI (sI (sP (sI (sI σ 3 (B k) 7 (sm (pd1 μ (nI k)) (nG μ) - μ.2 62 g)) 3 (B k) 6 (mI σ 3 (B k) 6 &&& ((1 <<< (nI g &&& 31)) ^^^ -1))) 2 (G g) 5 (some (S (aT μ k)))) 2 (G g) 4 2) 2 (G g) 7 (if nI (nW μ) ≤ nI pd then 0 else nI (nW μ) - nI pd)) 12 c 13 (sm (dl1 μ) (nG μ) + 1)) k' = mP σ k' := fun k' hk' => by funext q f; simp [mP_sI, mP_sP, hk']
          refine Res.mk [2, 3, 12] (σ1 := sI (sI (sI (sP (sI (sI σ 3 (B k) 7 (sm (pd1 μ (nI k)) (nG μ) - μ.2 62 g)) 3 (B k) 6 (mI σ 3 (B k) 6 &&& ((1 <<< (nI g &&& 31)) ^^^ -1))) 2 (G g) 5 (some (S (aT μ k)))) 2 (G g) 4 2) 2 (G g) 7 (if nI (nW μ) ≤ nI pd then 0 else nI (nW μ) - nI pd)) 12 c 13 (sm (dl1 μ) (nG μ) + 1)) (μ' := fA (fA (fA μ 65 g (nI (aT μ k))) 64 g 2) 67 g (if nI (nW μ) ≤ nI pd then 0 else nI (nW μ) - nI pd)) (v := some (.int 1)) (E := E) (S := S) (L := L) (B := B) (G := G) (H := H) (Q := Q) (Z := Z) (w := w) ?_ (fun τ μ0 hμ hL => ?_) ⟨FL_P hF rfl rfl (fun k hk => hP2 k (by omega)), hz.fr hs rfl, hRX.fr hz hX hs rfl rfl rfl rfl rfl rfl rfl, hRS.fr hX hs rfl rfl rfl rfl rfl rfl rfl rfl rfl, hRL.fr hX hs rfl rfl rfl rfl rfl, ?_, ?_, ?_, hRF.fr hF hX hs rfl rfl rfl rfl rfl rfl (Ar_of (by repeat' constructor)), hRT.fr hF hX hs rfl rfl rfl rfl, hRK.fr hF hX hs rfl rfl rfl rfl rfl (Ar_of (by repeat' constructor)), ⟨by rw [hP2 12 (by decide)]; exact hRR.1, by rw [hP2 12 (by decide)]; exact hRR.2.1, hRR.2.2.fr (hF.ru w) hX hs (by rintro q (rfl | rfl | rfl | rfl | rfl | rfl | rfl | rfl) <;> rfl) rfl (Ar_of (by repeat' constructor))⟩, ?_⟩ hs (by decide) hX ?_ (by simp only [mX_sI, mX_sP]; omega) (by simp only [mS_sI, mS_sP]; omega)
          · simp [psh_some, psh_none, -Int32.not_lt, -Int32.not_le, va_rf, vd, vr, isR_r, isR_n, isA_r, isI_i, isI_r, isR_i, ar, akI, akZ, akB, akO, mI_sI, mP_sI, mK_sI, mN_sI, mX_sI, mP_sP, mI_sP, mK_sP, mN_sP, mX_sP, rc_C_unload, e_C_unload_0, e_C_unload_5, e_C_unload_10, e_C_unload_18, e_C_unload_20, e_C_unload_28, e_C_unload_33, e_C_unload_35, e_C_unload_48, e_C_unload_62, e_C_unload_71, rc_C_putAshore, e_C_putAshore_0, e_C_putAshore_5, e_C_putAshore_13, e_C_putAshore_18, e_C_putAshore_19, e_C_putAshore_24, e_C_putAshore_41, e_C_putAshore_51, fK_1 hF, fK_2 hF, fK_3 hF, fK_4 hF, fK_5 hF, fK_6 hF, fN_6 hF, fK_7 hF, fN_7 hF, fK_8 hF, fN_8 hF, fK_9 hF, fN_9 hF, fK_10 hF, fK_11 hF, fN_11 hF, fK_12 hF, fK_13 hF, fN_13 hF, fK_14 hF, fN_14 hF, fK_15 hF, fN_15 hF, fK_16 hF, fN_16 hF, fP_12_0 hF, fP_12_1 hF, fP_12_2 hF, fP_12_3 hF, fP_12_4 hF, fP_12_5 hF, fP_12_6 hF, fP_12_7 hF, fP_4_0 hF, fP_4_1 hF, fP_4_2 hF, fP_4_3 hF, fP_11_0 hF, fP_7_0 hF, fP_7_1 hF, fP_7_2 hF, hF.cc, eg, em, g0, g1, g2, g3, g5, h1, g7', hgk, a0, a4, p7, h2, pd2, hRN.1, hw.1, le, hRN.2.2.2]
          · by_cases z : nI (nW μ) ≤ nI pd
            · simp [psh_some, psh_none, -Int32.not_lt, -Int32.not_le, rc_M_unload, q_M_unload_0, q_M_unload_5, q_M_unload_10, q_M_unload_13, q_M_unload_23, q_M_unload_33, q_M_unload_36, q_M_unload_38, q_M_unload_55, q_M_unload_75, q_M_unload_79, q_M_unload_80, q_M_unload_81, q_M_unload_91, q_M_unload_109, q_M_unload_123, q_M_unload_124, q_M_unload_125, hL, hμ, m_isBag, hg30.1, bZ_t jg, ig, cg, h1, hgk, m_isMoored (d + 18) hL hb.1 hb.2 hk, bZ_t h0, i4, ck, b0.1, v0.1, h2, fA_2, fA_1, pd2, hw.1, z]
            · simp [psh_some, psh_none, -Int32.not_lt, -Int32.not_le, rc_M_unload, q_M_unload_0, q_M_unload_5, q_M_unload_10, q_M_unload_13, q_M_unload_23, q_M_unload_33, q_M_unload_36, q_M_unload_38, q_M_unload_55, q_M_unload_75, q_M_unload_79, q_M_unload_80, q_M_unload_81, q_M_unload_91, q_M_unload_109, q_M_unload_123, q_M_unload_124, q_M_unload_125, hL, hμ, m_isBag, hg30.1, bZ_t jg, ig, cg, h1, hgk, m_isMoored (d + 18) hL hb.1 hb.2 hk, bZ_t h0, i4, ck, b0.1, v0.1, h2, fA_2, fA_1, pd2, hw.1, z]
          · exact RB_67 hRB rfl (fun q f => by simp [mP_sI, mP_sP]) (fun q f h6 h7 => by simp [mI_sI, mI_sP, h6, h7]) (fun q f => by simp [mI_sI, mI_sP]) rfl (fun f f1 f2 => by rw [fA_2n _ (by omega), fA_2n _ (by omega), fA_2n _ (by omega)])
          · exact RP_unl hRP hRB hC hk hg h1 hgk rfl (by rw [fA_2n _ (by decide), fA_2n _ (by decide), fA_2n _ (by decide)]) q4 q6 n4 (by simp [mI_sI, mI_sP]) (by simp [mI_sI, mI_sP, p7]) (fun j hj f => by simp [mI_sI, mI_sP, hj])
          · refine RG_upd hRG hg rfl rfl (fun q hq f => by simp [mI_sI, mI_sP, hq]) (fun q hq f => by simp [mP_sI, mP_sP, hq]) (fun q f => by simp [mI_sI, mI_sP]) rfl (fun f _ _ j hj => by simp [fA_2, hj]) (by rw [fA_2n _ (by decide), fA_2n _ (by decide), fA_2n _ (by decide)]) ?_
            refine ⟨g0, ?_, ?_, ?_, ?_, ?_, ?_, fun z => absurd z n4, fun _ => ?_⟩
            · simpa [mP_sI, mP_sP, gT, fA_2] using g1
            · simpa [mI_sI, mI_sP, fA_2] using g2
            · simpa [mI_sI, mI_sP, fA_2] using g3
            · simpa [mP_sI, mP_sP] using g4
            · rw [r4]; simp [mI_sI, mI_sP]
            · unfold gA; rw [r65, ca]; simp [mP_sI, mP_sP]
            · rw [r67]; simp [mI_sI, mI_sP]
          · refine ⟨by simpa [mI_sI, mI_sP, fA_1] using hRN.1, by simpa [mI_sI, mI_sP, fA_1] using hRN.2.1, by simpa [mI_sI, mI_sP, fA_1] using hRN.2.2.1, ?_⟩
            rw [mI_sI, if_pos ⟨rfl, rfl, rfl⟩]
            show _ = sm _ (nG μ)
            rw [dl_up (μ := μ) hg q4]
            have z1 : dl1 μ g = 0 := by rw [dl1, h1, if_neg (by decide)]
            have z2 : dl1 (fA (fA (fA μ 65 g (nI (aT μ k))) 64 g 2) 67 g (if nI (nW μ) ≤ nI pd then 0 else nI (nW μ) - nI pd)) g = 1 := by rw [dl1, r4, if_pos rfl]
            rw [z1, z2, sub_zero']
          · refine ⟨hC, hW.2.1, hW.2.2.1, hW.2.2.2.1, WG_upd hW.2.2.2.2.1 rfl (fun f _ _ j hj => by simp [fA_2, hj]) (by rw [fA_2n _ (by decide), fA_2n _ (by decide), fA_2n _ (by decide)]) ⟨?_, ?_, ?_, ?_, fun z => absurd z n4⟩, hW.2.2.2.2.2.1, hW.2.2.2.2.2.2⟩
            · exact v0
            · unfold gA; rw [r65, ca]; exact ⟨rfl, b0.2⟩
            · simpa [fA_2] using v2
            · exact ⟨pd, pd1', by simpa [fA_2] using pd2⟩
        · have h2' : ¬ S (aT μ k) = S (gT μ g) := fun z => h2 (hRS.inj hC b0.2 v0.2 z)
          have h2'' : ¬ nI (aT μ k) = nI (gT μ g) := by rw [nI_eq (by omega) (by have := v0.2; omega)]; exact h2
          have q4 : ∀ j, j ≠ g → (fA (fA μ 65 g (nI (aT μ k))) 64 g 0).2 64 j = μ.2 64 j := fun j hj => by simp [fA_2, hj]
          have q6 : ∀ j, j ≠ g → (fA (fA μ 65 g (nI (aT μ k))) 64 g 0).2 66 j = μ.2 66 j := fun j hj => by simp [fA_2, hj]
          have r4 : (fA (fA μ 65 g (nI (aT μ k))) 64 g 0).2 64 g = 0 := by simp [fA_2]
          have r65 : (fA (fA μ 65 g (nI (aT μ k))) 64 g 0).2 65 g = nI (aT μ k) := by simp [fA_2]
          have n4 : ¬ (fA (fA μ 65 g (nI (aT μ k))) 64 g 0).2 64 g = 1 := by rw [r4]; decide
          have n42 : ¬ (fA (fA μ 65 g (nI (aT μ k))) 64 g 0).2 64 g = 2 := by rw [r4]; decide
          have hs : Sm (tk [2, 3]) σ (sI (sP (sI (sI σ 3 (B k) 7 (sm (pd1 μ (nI k)) (nG μ) - μ.2 62 g)) 3 (B k) 6 (mI σ 3 (B k) 6 &&& ((1 <<< (nI g &&& 31)) ^^^ -1))) 2 (G g) 5 (some (S (aT μ k)))) 2 (G g) 4 0) := SmsI (SmsP (SmsI (SmsI (Sm.rfl' σ) rfl _ _ _) rfl _ _ _) rfl _ _ _) rfl _ _ _
          refine Res.mk [2, 3] (σ1 := sI (sP (sI (sI σ 3 (B k) 7 (sm (pd1 μ (nI k)) (nG μ) - μ.2 62 g)) 3 (B k) 6 (mI σ 3 (B k) 6 &&& ((1 <<< (nI g &&& 31)) ^^^ -1))) 2 (G g) 5 (some (S (aT μ k)))) 2 (G g) 4 0) (μ' := fA (fA μ 65 g (nI (aT μ k))) 64 g 0) (v := some (.int 1)) (E := E) (S := S) (L := L) (B := B) (G := G) (H := H) (Q := Q) (Z := Z) (w := w) ?_ (fun τ μ0 hμ hL => ?_) ⟨hF.fr hX hs (by rintro q (rfl | rfl | rfl | rfl | rfl) <;> rfl), hz.fr hs rfl, hRX.fr hz hX hs rfl rfl rfl rfl rfl rfl rfl, hRS.fr hX hs rfl rfl rfl rfl rfl rfl rfl rfl rfl, hRL.fr hX hs rfl rfl rfl rfl rfl, ?_, ?_, ?_, hRF.fr hF hX hs rfl rfl rfl rfl rfl rfl (Ar_of (by repeat' constructor)), hRT.fr hF hX hs rfl rfl rfl rfl, hRK.fr hF hX hs rfl rfl rfl rfl rfl (Ar_of (by repeat' constructor)), hRR.fr hF hX hs rfl (by rintro q (rfl | rfl | rfl | rfl | rfl | rfl | rfl | rfl) <;> rfl) rfl (Ar_of (by repeat' constructor)), ?_⟩ hs (by decide) hX ?_ (by simp only [mX_sI, mX_sP]; omega) (by simp only [mS_sI, mS_sP]; omega)
          · simp [psh_some, psh_none, -Int32.not_lt, -Int32.not_le, va_rf, vd, vr, isR_r, isR_n, isA_r, isI_i, isI_r, isR_i, ar, akI, akZ, akB, akO, mI_sI, mP_sI, mK_sI, mN_sI, mX_sI, mP_sP, mI_sP, mK_sP, mN_sP, mX_sP, rc_C_unload, e_C_unload_0, e_C_unload_5, e_C_unload_10, e_C_unload_18, e_C_unload_20, e_C_unload_28, e_C_unload_33, e_C_unload_35, e_C_unload_48, e_C_unload_62, e_C_unload_71, rc_C_putAshore, e_C_putAshore_0, e_C_putAshore_5, e_C_putAshore_13, e_C_putAshore_18, e_C_putAshore_19, e_C_putAshore_24, e_C_putAshore_41, e_C_putAshore_51, fK_1 hF, fK_2 hF, fK_3 hF, fK_4 hF, fK_5 hF, fK_6 hF, fN_6 hF, fK_7 hF, fN_7 hF, fK_8 hF, fN_8 hF, fK_9 hF, fN_9 hF, fK_10 hF, fK_11 hF, fN_11 hF, fK_12 hF, fK_13 hF, fN_13 hF, fK_14 hF, fN_14 hF, fK_15 hF, fN_15 hF, fK_16 hF, fN_16 hF, fP_12_0 hF, fP_12_1 hF, fP_12_2 hF, fP_12_3 hF, fP_12_4 hF, fP_12_5 hF, fP_12_6 hF, fP_12_7 hF, fP_4_0 hF, fP_4_1 hF, fP_4_2 hF, fP_4_3 hF, fP_11_0 hF, fP_7_0 hF, fP_7_1 hF, fP_7_2 hF, hF.cc, eg, em, g0, g1, g2, g5, h1, g7', hgk, a0, a4, p7, h2']
          · simp [psh_some, psh_none, -Int32.not_lt, -Int32.not_le, rc_M_unload, q_M_unload_0, q_M_unload_5, q_M_unload_10, q_M_unload_13, q_M_unload_23, q_M_unload_33, q_M_unload_36, q_M_unload_38, q_M_unload_55, q_M_unload_75, q_M_unload_79, q_M_unload_80, q_M_unload_81, q_M_unload_91, q_M_unload_109, q_M_unload_123, q_M_unload_124, q_M_unload_125, hL, hμ, m_isBag, hg30.1, bZ_t jg, ig, cg, h1, hgk, m_isMoored (d + 18) hL hb.1 hb.2 hk, bZ_t h0, i4, ck, b0.1, v0.1, h2'', fA_2, fA_1]
          · exact RB_67 hRB rfl (fun q f => by simp [mP_sI, mP_sP]) (fun q f h6 h7 => by simp [mI_sI, mI_sP, h6, h7]) (fun q f => by simp [mI_sI, mI_sP]) rfl (fun f f1 f2 => by rw [fA_2n _ (by omega), fA_2n _ (by omega)])
          · exact RP_unl hRP hRB hC hk hg h1 hgk rfl (by rw [fA_2n _ (by decide), fA_2n _ (by decide)]) q4 q6 n4 (by simp [mI_sI, mI_sP]) (by simp [mI_sI, mI_sP, p7]) (fun j hj f => by simp [mI_sI, mI_sP, hj])
          · refine RG_upd hRG hg rfl rfl (fun q hq f => by simp [mI_sI, mI_sP, hq]) (fun q hq f => by simp [mP_sI, mP_sP, hq]) (fun q f => by simp [mI_sI, mI_sP]) rfl (fun f _ _ j hj => by simp [fA_2, hj]) (by rw [fA_2n _ (by decide), fA_2n _ (by decide)]) ?_
            refine ⟨g0, ?_, ?_, ?_, ?_, ?_, ?_, fun z => absurd z n4, fun z => absurd z n42⟩
            · simpa [mP_sI, mP_sP, gT, fA_2] using g1
            · simpa [mI_sI, mI_sP, fA_2] using g2
            · simpa [mI_sI, mI_sP, fA_2] using g3
            · simpa [mP_sI, mP_sP] using g4
            · rw [r4]; simp [mI_sI, mI_sP]
            · unfold gA; rw [r65, ca]; simp [mP_sI, mP_sP]
          · refine ⟨by simpa [mI_sI, mI_sP, fA_1] using hRN.1, by simpa [mI_sI, mI_sP, fA_1] using hRN.2.1, by simpa [mI_sI, mI_sP, fA_1] using hRN.2.2.1, ?_⟩
            show _ = sm _ (nG μ)
            rw [dl_up (μ := μ) hg q4]
            have z1 : dl1 μ g = 0 := by rw [dl1, h1, if_neg (by decide)]
            have z2 : dl1 (fA (fA μ 65 g (nI (aT μ k))) 64 g 0) g = 0 := by rw [dl1, r4, if_neg (by decide)]
            rw [z1, z2, sub_zero', add_zero']
            simpa [mI_sI, mI_sP] using hRN.2.2.2
          · refine ⟨hC, hW.2.1, hW.2.2.1, hW.2.2.2.1, WG_upd hW.2.2.2.2.1 rfl (fun f _ _ j hj => by simp [fA_2, hj]) (by rw [fA_2n _ (by decide), fA_2n _ (by decide)]) ⟨?_, ?_, ?_, ?_, fun z => absurd z n4⟩, hW.2.2.2.2.2.1, hW.2.2.2.2.2.2⟩
            · exact v0
            · unfold gA; rw [r65, ca]; exact ⟨rfl, b0.2⟩
            · simpa [fA_2] using v2
            · exact ⟨pd, pd1', by simpa [fA_2] using pd2⟩
      · rw [if_neg h0] at em
        refine Res.same hR hX hW (v := some (.int 0)) ?_ (fun τ μ0 hμ hL => ?_)
        · simp [psh_some, psh_none, -Int32.not_lt, -Int32.not_le, va_rf, vd, vr, isR_r, isR_n, isA_r, isI_i, isI_r, isR_i, ar, akI, akZ, akB, akO, mI_sI, mP_sI, mK_sI, mN_sI, mX_sI, mP_sP, mI_sP, mK_sP, mN_sP, mX_sP, rc_C_unload, e_C_unload_0, e_C_unload_5, e_C_unload_10, e_C_unload_18, e_C_unload_20, e_C_unload_28, e_C_unload_33, e_C_unload_35, e_C_unload_48, e_C_unload_62, e_C_unload_71, fK_1 hF, fK_2 hF, fK_3 hF, fK_4 hF, fK_5 hF, fK_6 hF, fN_6 hF, fK_7 hF, fN_7 hF, fK_8 hF, fN_8 hF, fK_9 hF, fN_9 hF, fK_10 hF, fK_11 hF, fN_11 hF, fK_12 hF, fK_13 hF, fN_13 hF, fK_14 hF, fN_14 hF, fK_15 hF, fN_15 hF, fK_16 hF, fN_16 hF, fP_12_0 hF, fP_12_1 hF, fP_12_2 hF, fP_12_3 hF, fP_12_4 hF, fP_12_5 hF, fP_12_6 hF, fP_12_7 hF, fP_4_0 hF, fP_4_1 hF, fP_4_2 hF, fP_4_3 hF, fP_11_0 hF, fP_7_0 hF, fP_7_1 hF, fP_7_2 hF, hF.cc, eg, g0, g5, h1, g7', hgk, em]
        · simp [psh_some, psh_none, -Int32.not_lt, -Int32.not_le, rc_M_unload, q_M_unload_0, q_M_unload_5, q_M_unload_10, q_M_unload_13, q_M_unload_23, q_M_unload_33, q_M_unload_36, q_M_unload_38, q_M_unload_55, q_M_unload_75, q_M_unload_79, q_M_unload_80, q_M_unload_81, q_M_unload_91, q_M_unload_109, q_M_unload_123, q_M_unload_124, q_M_unload_125, hL, hμ, m_isBag, hg30.1, bZ_t jg, ig, cg, h1, hgk, m_isMoored (d + 18) hL hb.1 hb.2 hk, bZ_f h0]
    · refine Res.same hR hX hW (v := some (.int 0)) ?_ (fun τ μ0 hμ hL => ?_)
      · simp [psh_some, psh_none, -Int32.not_lt, -Int32.not_le, va_rf, vd, vr, isR_r, isR_n, isA_r, isI_i, isI_r, isR_i, ar, akI, akZ, akB, akO, mI_sI, mP_sI, mK_sI, mN_sI, mX_sI, mP_sP, mI_sP, mK_sP, mN_sP, mX_sP, rc_C_unload, e_C_unload_0, e_C_unload_5, e_C_unload_10, e_C_unload_18, e_C_unload_20, e_C_unload_28, e_C_unload_33, e_C_unload_35, e_C_unload_48, e_C_unload_62, e_C_unload_71, fK_1 hF, fK_2 hF, fK_3 hF, fK_4 hF, fK_5 hF, fK_6 hF, fN_6 hF, fK_7 hF, fN_7 hF, fK_8 hF, fN_8 hF, fK_9 hF, fN_9 hF, fK_10 hF, fK_11 hF, fN_11 hF, fK_12 hF, fK_13 hF, fN_13 hF, fK_14 hF, fN_14 hF, fK_15 hF, fN_15 hF, fK_16 hF, fN_16 hF, fP_12_0 hF, fP_12_1 hF, fP_12_2 hF, fP_12_3 hF, fP_12_4 hF, fP_12_5 hF, fP_12_6 hF, fP_12_7 hF, fP_4_0 hF, fP_4_1 hF, fP_4_2 hF, fP_4_3 hF, fP_11_0 hF, fP_7_0 hF, fP_7_1 hF, fP_7_2 hF, hF.cc, eg, g0, g5, h1]
      · simp [psh_some, psh_none, -Int32.not_lt, -Int32.not_le, rc_M_unload, q_M_unload_0, q_M_unload_5, q_M_unload_10, q_M_unload_13, q_M_unload_23, q_M_unload_33, q_M_unload_36, q_M_unload_38, q_M_unload_55, q_M_unload_75, q_M_unload_79, q_M_unload_80, q_M_unload_81, q_M_unload_91, q_M_unload_109, q_M_unload_123, q_M_unload_124, q_M_unload_125, hL, hμ, m_isBag, hg30.1, bZ_t jg, ig, cg, h1]
  · refine Res.same hR hX hW (v := some (.int 0)) ?_ (fun τ μ0 hμ hL => ?_)
    · simp [psh_some, psh_none, -Int32.not_lt, -Int32.not_le, va_rf, vd, vr, isR_r, isR_n, isA_r, isI_i, isI_r, isR_i, ar, akI, akZ, akB, akO, mI_sI, mP_sI, mK_sI, mN_sI, mX_sI, mP_sP, mI_sP, mK_sP, mN_sP, mX_sP, rc_C_unload, e_C_unload_0, e_C_unload_5, e_C_unload_10, e_C_unload_18, e_C_unload_20, e_C_unload_28, e_C_unload_33, e_C_unload_35, e_C_unload_48, e_C_unload_62, e_C_unload_71, fK_1 hF, fK_2 hF, fK_3 hF, fK_4 hF, fK_5 hF, fK_6 hF, fN_6 hF, fK_7 hF, fN_7 hF, fK_8 hF, fN_8 hF, fK_9 hF, fN_9 hF, fK_10 hF, fK_11 hF, fN_11 hF, fK_12 hF, fK_13 hF, fN_13 hF, fK_14 hF, fN_14 hF, fK_15 hF, fN_15 hF, fK_16 hF, fN_16 hF, fP_12_0 hF, fP_12_1 hF, fP_12_2 hF, fP_12_3 hF, fP_12_4 hF, fP_12_5 hF, fP_12_6 hF, fP_12_7 hF, fP_4_0 hF, fP_4_1 hF, fP_4_2 hF, fP_4_3 hF, fP_11_0 hF, fP_7_0 hF, fP_7_1 hF, fP_7_2 hF, hF.cc, c_bagAt_no (d + 16) hF hRX hC hno]
    · simp [psh_some, psh_none, -Int32.not_lt, -Int32.not_le, rc_M_unload, q_M_unload_0, q_M_unload_5, q_M_unload_10, q_M_unload_13, q_M_unload_23, q_M_unload_33, q_M_unload_36, q_M_unload_38, q_M_unload_55, q_M_unload_75, q_M_unload_79, q_M_unload_80, q_M_unload_81, q_M_unload_91, q_M_unload_109, q_M_unload_123, q_M_unload_124, q_M_unload_125, hL, hμ, m_isBag, hg30.1, bZ_f (no_ix hno)]
end O56
