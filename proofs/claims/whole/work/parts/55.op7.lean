/-! ===== OPERATIONS: load, unload ===== -/
section O55
variable {σ σ' : Mm} {c a : Nat} {E S L B G H Q : Nat → Nat} {Z : Nat → List Nat} {w : Bool} {μ μ' : Ms} (d : Nat)
theorem bit1 {g i : Nat} (hg : g < 32) (hi : i < 32) : btI (1 <<< (nI g &&& 31)) i = decide (i = g) := by
  rw [b_shl g hg 1 hi, b_1]
  by_cases z : i = g
  · subst z; simp
  · by_cases y : g ≤ i
    · have : ¬ i - g = 0 := by omega
      simp [z, this]
    · simp [z, y]
theorem Cg_big {x : Int32} {k j : Nat} (hC : Cn μ) (hj : 32 ≤ j) : btI x j = decide (j < nG μ ∧ μ.2 64 j = 1 ∧ μ.2 66 j = nI k) := by
  have h30 := hC.g.2
  rw [b_big hj]
  symm
  rw [decide_eq_false_iff_not]
  omega
theorem Cg_set {x : Int32} {k g : Nat} (h : Cg x μ k) (hC : Cn μ) (hg : g < nG μ) (e1 : μ'.1 = μ.1) (e4 : ∀ j, j ≠ g → μ'.2 64 j = μ.2 64 j) (e6 : ∀ j, j ≠ g → μ'.2 66 j = μ.2 66 j) (n4 : μ'.2 64 g = 1) (n6 : μ'.2 66 g = nI k) : Cg (x ||| 1 <<< (nI g &&& 31)) μ' k := by
  have h30 := hC.g.2
  have hn : nG μ' = nG μ := by unfold nG; rw [e1]
  have hC' : Cn μ' := by unfold Cn nS nL nF nB nG nK nT nR nW; rw [e1]; exact hC
  intro j
  by_cases hj : j < 32
  · rw [b_or, bit1 (by omega) hj, h j, hn]
    by_cases z : j = g
    · subst z; simp [hg, n4, n6]
    · simp [z, e4 j z, e6 j z]
  · exact Cg_big hC' (by omega)
theorem Cg_clr {x : Int32} {k g : Nat} (h : Cg x μ k) (hC : Cn μ) (hg : g < nG μ) (e1 : μ'.1 = μ.1) (e4 : ∀ j, j ≠ g → μ'.2 64 j = μ.2 64 j) (e6 : ∀ j, j ≠ g → μ'.2 66 j = μ.2 66 j) (n4 : ¬ μ'.2 64 g = 1) : Cg (x &&& ((1 <<< (nI g &&& 31)) ^^^ -1)) μ' k := by
  have h30 := hC.g.2
  have hn : nG μ' = nG μ := by unfold nG; rw [e1]
  have hC' : Cn μ' := by unfold Cn nS nL nF nB nG nK nT nR nW; rw [e1]; exact hC
  intro j
  by_cases hj : j < 32
  · rw [b_and, b_xor, bit1 (by omega) hj, b_m1 j hj, h j, hn]
    by_cases z : j = g
    · subst z; simp [n4]
    · simp [z, e4 j z, e6 j z]
  · exact Cg_big hC' (by omega)
theorem Cg_oth {x : Int32} {k g : Nat} (h : Cg x μ k) (e1 : μ'.1 = μ.1) (e4 : ∀ j, j ≠ g → μ'.2 64 j = μ.2 64 j) (e6 : ∀ j, j ≠ g → μ'.2 66 j = μ.2 66 j) (n1 : ¬ (μ.2 64 g = 1 ∧ μ.2 66 g = nI k)) (n2 : ¬ (μ'.2 64 g = 1 ∧ μ'.2 66 g = nI k)) : Cg x μ' k := by
  have hn : nG μ' = nG μ := by unfold nG; rw [e1]
  intro j
  rw [h j, hn]
  by_cases z : j = g
  · subst z
    congr 1
    exact propext ⟨fun q => absurd q.2 n1, fun q => absurd q.2 n2⟩
  · rw [e4 j z, e6 j z]
theorem pd_up {s : Int32} {g n : Nat} (hg : g < n) (e2 : μ'.2 62 = μ.2 62) (e4 : ∀ j, j ≠ g → μ'.2 64 j = μ.2 64 j) (e6 : ∀ j, j ≠ g → μ'.2 66 j = μ.2 66 j) : sm (pd1 μ' s) n = sm (pd1 μ s) n - pd1 μ s g + pd1 μ' s g := sm_upd hg (fun j hj => by simp only [pd1, e2, e4 j hj, e6 j hj])
/-- boats but for cargo and pounds -/
theorem RB_67 (h : RB σ S B H μ) (hK : mK σ' = mK σ) (hP : ∀ q f, mP σ' 3 q f = mP σ 3 q f) (hI : ∀ q f, f ≠ 6 → f ≠ 7 → mI σ' 3 q f = mI σ 3 q f) (h5 : ∀ q f, mI σ' 5 q f = mI σ 5 q f) (e0 : μ'.1 = μ.1) (e : ∀ f, 17 ≤ f → f ≤ 36 → μ'.2 f = μ.2 f) : RB σ' S B H μ' := by
  intro k hk
  have hk' : k < nB μ := by unfold nB at hk ⊢; rw [← e0]; exact hk
  obtain ⟨b, b2⟩ := h k hk'
  unfold RB1 aT wH at b ⊢
  unfold RH at b2 ⊢
  rw [hK]
  simp only [h5, hP]
  rw [hI _ 0 (by decide) (by decide), hI _ 2 (by decide) (by decide), hI _ 5 (by decide) (by decide), hI _ 8 (by decide) (by decide), hI _ 9 (by decide) (by decide), hI _ 10 (by decide) (by decide), hI _ 11 (by decide) (by decide), hI _ 12 (by decide) (by decide), hI _ 13 (by decide) (by decide), hI _ 14 (by decide) (by decide), hI _ 15 (by decide) (by decide), hI _ 16 (by decide) (by decide)]
  rw [e0, e 17 (by omega) (by omega), e 18 (by omega) (by omega), e 19 (by omega) (by omega), e 20 (by omega) (by omega), e 21 (by omega) (by omega), e 22 (by omega) (by omega), e 23 (by omega) (by omega), e 24 (by omega) (by omega), e 25 (by omega) (by omega), e 26 (by omega) (by omega), e 27 (by omega) (by omega), e 28 (by omega) (by omega), e 29 (by omega) (by omega), e 30 (by omega) (by omega), e 31 (by omega) (by omega), e 32 (by omega) (by omega), e 33 (by omega) (by omega), e 34 (by omega) (by omega), e 35 (by omega) (by omega), e 36 (by omega) (by omega)]
  exact ⟨b, b2⟩
/-- one bag changed -/
theorem RG_upd {g : Nat} (h : RG σ S G Q μ) (hg : g < nG μ) (hK : mK σ' = mK σ) (hN : mN σ' = mN σ) (hI : ∀ q, q ≠ G g → ∀ f, mI σ' 2 q f = mI σ 2 q f) (hP : ∀ q, q ≠ G g → ∀ f, mP σ' 2 q f = mP σ 2 q f) (h20 : ∀ q f, mI σ' 20 q f = mI σ 20 q f) (e0 : μ'.1 = μ.1) (e : ∀ f, 61 ≤ f → f ≤ 67 → ∀ j, j ≠ g → μ'.2 f j = μ.2 f j) (e8 : μ'.2 68 = μ.2 68) (hn : RG1 σ' S (G g) (Q g) μ' g) : RG σ' S G Q μ' := by
  have hnn : nG μ' = nG μ := by unfold nG; rw [e0]
  refine ⟨fun j hj => ?_, by rw [hnn]; exact h.2.1, by rw [hnn]; exact h.2.2⟩
  rw [hnn] at hj
  obtain ⟨b, b2⟩ := h.1 j hj
  refine ⟨?_, ?_⟩
  · by_cases z : j = g
    · rw [z]; exact hn
    · have hne : G j ≠ G g := fun y => z (h.2.1 j g hj hg y)
      unfold RG1 gT gA at b ⊢
      rw [hK]
      simp only [hI _ hne, hP _ hne]
      rw [e 61 (by omega) (by omega) j z, e 62 (by omega) (by omega) j z, e 63 (by omega) (by omega) j z, e 64 (by omega) (by omega) j z, e 65 (by omega) (by omega) j z, e 66 (by omega) (by omega) j z, e 67 (by omega) (by omega) j z]
      exact b
  · unfold RQ1 at b2 ⊢
    rw [hK, hN, e8]
    simp only [h20]
    exact b2
theorem WG_upd {g : Nat} (h : WG μ) (e0 : μ'.1 = μ.1) (e : ∀ f, 61 ≤ f → f ≤ 66 → ∀ j, j ≠ g → μ'.2 f j = μ.2 f j) (e8 : μ'.2 68 = μ.2 68) (hn : WG1 μ' g) : WG μ' := by
  refine ⟨fun j hj => ?_, ?_⟩
  · by_cases z : j = g
    · rw [z]; exact hn
    · have b := h.1 j (by unfold nG at hj ⊢; rw [← e0]; exact hj)
      unfold WG1 gT gA nS nB at b ⊢
      rw [e0, e 61 (by omega) (by omega) j z, e 62 (by omega) (by omega) j z, e 63 (by omega) (by omega) j z, e 64 (by omega) (by omega) j z, e 65 (by omega) (by omega) j z, e 66 (by omega) (by omega) j z]
      exact b
  · have b := h.2
    unfold nG at b ⊢
    rw [e0, e8]
    exact b
theorem dl_up {g n : Nat} (hg : g < n) (e4 : ∀ j, j ≠ g → μ'.2 64 j = μ.2 64 j) : sm (dl1 μ') n = sm (dl1 μ) n - dl1 μ g + dl1 μ' g := sm_upd hg (fun j hj => by simp only [dl1, e4 j hj])
theorem ok_load (x y : Int32) : Ok 82 174 [.int x, .int y] := by
  refine Ok_of fun d σ c a E S L B G H Q Z w μ hR hLM hX hW => ?_
  have hC := hW.1
  obtain ⟨hF, hz, hRX, hRS, hRL, hRB, hRP, hRG, hRF, hRT, hRK, hRR, hRN⟩ := id hR
  have hb := hC.b
  have hg30 := hC.g
  have hs12 := hC.s.2
  rcases nIx x (n := nG μ) (by omega) with ⟨g, hg, rfl⟩ | hno
  · obtain ⟨⟨g0, g1, g2, g3, g4, g5, g6, g7, g8⟩, hq⟩ := hRG.1 g hg
    obtain ⟨v0, v1, v2, v3, v4⟩ := hW.2.2.2.2.1.1 g hg
    have eg := c_bagAt (d + 16) hF hRX hC hg g0
    have ig : ix (nI g) 30 = true := ix_of (by omega) (by omega)
    have cg := cl30 (show g < 30 by omega)
    have jg := is_ix hg (show nG μ ≤ 1000 by omega)
    rcases nIx y (n := nB μ) (by omega) with ⟨k, hk, rfl⟩ | hnb
    · have i4 : ix (nI k) 6 = true := ix_of (by omega) (by omega); have ck := cl6 (show k < 6 by omega); have j1 := is_ix hk (show nB μ ≤ 1000 by omega); obtain ⟨a0, a1, a2, a3, a4, a5, a6, a7, a8, a9, a10, a11, a12, a13, a14, a15⟩ := (hRB k hk).1; have hh := (hRB k hk).2; obtain ⟨u0, u1, u2, u3, u4, u5, u6, u7⟩ := (hRB k hk).2; obtain ⟨b0, b1, b2, b3, b4, b5, b6, b7, b8, b9, b10, b11, b12⟩ := hW.2.2.2.1.1 k hk; have hS := hRS _ b0.2; have i5 : ix (nI (aT μ k)) 12 = true := ix_of (by omega) (by omega); have ca := cl12 (show aT μ k < 12 by omega)
      have em := c_moored (d + 15) hF hRX hC hRB hk
      by_cases h0 : μ.2 24 k = 0
      · rw [if_pos h0] at em
        by_cases h1 : μ.2 64 g = 0
        · by_cases h2 : gA μ g = aT μ k
          · obtain ⟨p6, p7⟩ := hRP k hk
            by_cases h3 : sm (pd1 μ (nI k)) (nG μ) + μ.2 62 g ≤ μ.2 22 k
            · have hne : G g ≠ B k := fun z => by have := g0; rw [z, a0] at this; cases this
              have hs : Sm (tk [2, 3]) σ (sI (sI (sI (sI σ 2 (G g) 4 1) 2 (G g) 6 (nI k)) 3 (B k) 7 (sm (pd1 μ (nI k)) (nG μ) + μ.2 62 g)) 3 (B k) 6 (mI σ 3 (B k) 6 ||| 1 <<< (nI g &&& 31))) := SmsI (SmsI (SmsI (SmsI (Sm.rfl' σ) rfl _ _ _) rfl _ _ _) rfl _ _ _) rfl _ _ _
              have q4 : ∀ j, j ≠ g → (fA (fA μ 64 g 1) 66 g (nI k)).2 64 j = μ.2 64 j := fun j hj => by simp [fA_2, hj]
              have q6 : ∀ j, j ≠ g → (fA (fA μ 64 g 1) 66 g (nI k)).2 66 j = μ.2 66 j := fun j hj => by simp [fA_2, hj]
              have r4 : (fA (fA μ 64 g 1) 66 g (nI k)).2 64 g = 1 := by simp [fA_2]
              have r6 : (fA (fA μ 64 g 1) 66 g (nI k)).2 66 g = nI k := by simp [fA_2]
              have n01 : ¬ (0 : Int32) = 1 := by decide
              refine Res.mk [2, 3] (σ1 := sI (sI (sI (sI σ 2 (G g) 4 1) 2 (G g) 6 (nI k)) 3 (B k) 7 (sm (pd1 μ (nI k)) (nG μ) + μ.2 62 g)) 3 (B k) 6 (mI σ 3 (B k) 6 ||| 1 <<< (nI g &&& 31))) (μ' := fA (fA μ 64 g 1) 66 g (nI k)) (v := some (.int 1)) (E := E) (S := S) (L := L) (B := B) (G := G) (H := H) (Q := Q) (Z := Z) (w := w) ?_ (fun τ μ0 hμ hL => ?_) ⟨hF, hz.fr hs rfl, hRX.fr hz hX hs rfl rfl rfl rfl rfl rfl rfl, hRS.fr hX hs rfl rfl rfl rfl rfl rfl rfl rfl rfl, hRL.fr hX hs rfl rfl rfl rfl rfl, ?_, ?_, ?_, hRF.fr hF hX hs rfl rfl rfl rfl rfl rfl (Ar_of (by repeat' constructor)), hRT.fr hF hX hs rfl rfl rfl rfl, hRK.fr hF hX hs rfl rfl rfl rfl rfl (Ar_of (by repeat' constructor)), hRR.fr hF hX hs rfl (by rintro q (rfl | rfl | rfl | rfl | rfl | rfl | rfl | rfl) <;> rfl) rfl (Ar_of (by repeat' constructor)), ?_⟩ hs (by decide) hX ?_ (by simp only [mX_sI, mX_sP]; omega) (by simp only [mS_sI, mS_sP]; omega)
              · simp [psh_some, psh_none, -Int32.not_lt, -Int32.not_le, va_rf, vd, vr, isR_r, isR_n, isA_r, isI_i, isI_r, isR_i, ar, akI, akZ, akB, akO, mI_sI, mP_sI, mK_sI, mN_sI, mX_sI, mP_sP, mI_sP, mK_sP, mN_sP, mX_sP, rc_C_load, e_C_load_0, e_C_load_5, e_C_load_11, e_C_load_17, e_C_load_22, e_C_load_29, e_C_load_41, e_C_load_43, e_C_load_64, e_C_load_66, e_C_load_71, e_C_load_80, e_C_load_94, e_C_load_107, fK_1 hF, fK_2 hF, fK_3 hF, fK_4 hF, fK_5 hF, fK_6 hF, fN_6 hF, fK_7 hF, fN_7 hF, fK_8 hF, fN_8 hF, fK_9 hF, fN_9 hF, fK_10 hF, fK_11 hF, fN_11 hF, fK_12 hF, fK_13 hF, fN_13 hF, fK_14 hF, fN_14 hF, fK_15 hF, fN_15 hF, fK_16 hF, fN_16 hF, fP_12_0 hF, fP_12_1 hF, fP_12_2 hF, fP_12_3 hF, fP_12_4 hF, fP_12_5 hF, fP_12_6 hF, fP_12_7 hF, fP_4_0 hF, fP_4_1 hF, fP_4_2 hF, fP_4_3 hF, fP_11_0 hF, fP_7_0 hF, fP_7_1 hF, fP_7_2 hF, hF.cc, eg, em, g0, g5, h1, g6, a0, a4, h2, p7, g2, a2, u0, u6, h3, a1]
              · simp [psh_some, psh_none, -Int32.not_lt, -Int32.not_le, rc_M_load, q_M_load_0, q_M_load_5, q_M_load_10, q_M_load_13, q_M_load_22, q_M_load_27, q_M_load_30, q_M_load_45, q_M_load_50, q_M_load_66, q_M_load_68, q_M_load_75, q_M_load_82, hL, hμ, m_isBag, hg30.1, bZ_t jg, ig, cg, h1, m_isMoored (d + 18) hL hb.1 hb.2 hk, bZ_t h0, i4, ck, v1.1, b0.1, h2, m_pounds (d + 19) hL hg30.2 hg30.1, h3, fA_2]
              · exact RB_67 hRB rfl (fun _ _ => rfl) (fun q f h6 h7 => by simp [mI_sI, h6, h7]) (fun q f => by simp [mI_sI]) rfl (fun f f1 f2 => by rw [fA_2n _ (by omega), fA_2n _ (by omega)])
              · intro j hj
                have hj' : j < nB μ := hj
                obtain ⟨y6, y7⟩ := hRP j hj'
                by_cases z : j = k
                · subst z
                  refine ⟨?_, ?_⟩
                  · rw [mI_sI, if_pos ⟨rfl, rfl, rfl⟩]
                    exact Cg_set y6 hC hg rfl q4 q6 r4 r6
                  · rw [mI_sI, if_neg (by omega), mI_sI, if_pos ⟨rfl, rfl, rfl⟩]
                    rw [show nG (fA (fA μ 64 g 1) 66 g (nI j)) = nG μ from rfl, pd_up (μ := μ) (μ' := fA (fA μ 64 g 1) 66 g (nI j)) hg rfl q4 q6]
                    have z1 : pd1 μ (nI j) g = 0 := by simp [pd1, h1]
                    have z2 : pd1 (fA (fA μ 64 g 1) 66 g (nI j)) (nI j) g = μ.2 62 g := by
                      rw [pd1, if_pos ⟨r4, r6⟩, fA_2n _ (by decide), fA_2n _ (by decide)]
                    rw [z1, z2, sub_zero']
                · have hnj : ¬ B j = B k := fun y => z (hRB.inj hC hj' hk y)
                  have hnk : ¬ nI k = nI j := by rw [nI_eq (by omega) (by omega)]; omega
                  have m6 : ∀ f, mI (sI (sI (sI (sI σ 2 (G g) 4 1) 2 (G g) 6 (nI k)) 3 (B k) 7 (sm (pd1 μ (nI k)) (nG μ) + μ.2 62 g)) 3 (B k) 6 (mI σ 3 (B k) 6 ||| 1 <<< (nI g &&& 31))) 3 (B j) f = mI σ 3 (B j) f := fun f => by simp [mI_sI, hnj]
                  rw [m6, m6]
                  refine ⟨Cg_oth y6 rfl q4 q6 (fun y => by rw [h1] at y; exact n01 y.1) (fun y => hnk (r6.symm.trans y.2)), ?_⟩
                  rw [y7, show nG (fA (fA μ 64 g 1) 66 g (nI k)) = nG μ from rfl, pd_up (μ := μ) (μ' := fA (fA μ 64 g 1) 66 g (nI k)) hg rfl q4 q6]
                  have z1 : pd1 μ (nI j) g = 0 := by simp [pd1, h1]
                  have z2 : pd1 (fA (fA μ 64 g 1) 66 g (nI k)) (nI j) g = 0 := by
                    rw [pd1, if_neg (fun y => hnk (r6.symm.trans y.2))]
                  rw [z1, z2, sub_zero', add_zero']
              · refine RG_upd hRG hg rfl rfl (fun q hq f => by simp [mI_sI, hq]) (fun _ _ _ => rfl) (fun q f => by simp [mI_sI]) rfl (fun f _ _ j hj => by simp [fA_2, hj]) (by rw [fA_2n _ (by decide), fA_2n _ (by decide)]) ?_
                have n2 : ¬ (1 : Int32) = 2 := by decide
                simp [RG1, gT, gA, mI_sI, mP_sI, mK_sI, fA_2, g0, g1, g2, g3, g4, n2]
                exact g6
              · refine ⟨by simpa [mI_sI, fA_1] using hRN.1, by simpa [mI_sI, fA_1] using hRN.2.1, by simpa [mI_sI, fA_1] using hRN.2.2.1, ?_⟩
                rw [show nG (fA (fA μ 64 g 1) 66 g (nI k)) = nG μ from rfl, dl_up hg q4]
                have z1 : dl1 μ g = 0 := by simp [dl1, h1]
                have z2 : dl1 (fA (fA μ 64 g 1) 66 g (nI k)) g = 0 := by
                  rw [dl1, r4, if_neg (by decide)]
                rw [z1, z2, sub_zero', add_zero']
                simpa [mI_sI] using hRN.2.2.2
              · refine ⟨hC, hW.2.1, hW.2.2.1, hW.2.2.2.1, WG_upd hW.2.2.2.2.1 rfl (fun f _ _ j hj => by simp [fA_2, hj]) (by rw [fA_2n _ (by decide), fA_2n _ (by decide)]) ⟨v0, v1, v2, v3, fun _ => ⟨k, hk, r6⟩⟩, hW.2.2.2.2.2.1, hW.2.2.2.2.2.2⟩
            · refine Res.same hR hX hW (v := some (.int 0)) ?_ (fun τ μ0 hμ hL => ?_)
              · simp [psh_some, psh_none, -Int32.not_lt, -Int32.not_le, va_rf, vd, vr, isR_r, isR_n, isA_r, isI_i, isI_r, isR_i, ar, akI, akZ, akB, akO, mI_sI, mP_sI, mK_sI, mN_sI, mX_sI, mP_sP, mI_sP, mK_sP, mN_sP, mX_sP, rc_C_load, e_C_load_0, e_C_load_5, e_C_load_11, e_C_load_17, e_C_load_22, e_C_load_29, e_C_load_41, e_C_load_43, e_C_load_64, e_C_load_66, e_C_load_71, e_C_load_80, e_C_load_94, e_C_load_107, fK_1 hF, fK_2 hF, fK_3 hF, fK_4 hF, fK_5 hF, fK_6 hF, fN_6 hF, fK_7 hF, fN_7 hF, fK_8 hF, fN_8 hF, fK_9 hF, fN_9 hF, fK_10 hF, fK_11 hF, fN_11 hF, fK_12 hF, fK_13 hF, fN_13 hF, fK_14 hF, fN_14 hF, fK_15 hF, fN_15 hF, fK_16 hF, fN_16 hF, fP_12_0 hF, fP_12_1 hF, fP_12_2 hF, fP_12_3 hF, fP_12_4 hF, fP_12_5 hF, fP_12_6 hF, fP_12_7 hF, fP_4_0 hF, fP_4_1 hF, fP_4_2 hF, fP_4_3 hF, fP_11_0 hF, fP_7_0 hF, fP_7_1 hF, fP_7_2 hF, hF.cc, eg, em, g0, g5, h1, g6, a0, a4, h2, p7, g2, a2, u0, u6, h3]
              · simp [psh_some, psh_none, -Int32.not_lt, -Int32.not_le, rc_M_load, q_M_load_0, q_M_load_5, q_M_load_10, q_M_load_13, q_M_load_22, q_M_load_27, q_M_load_30, q_M_load_45, q_M_load_50, q_M_load_66, q_M_load_68, q_M_load_75, q_M_load_82, hL, hμ, m_isBag, hg30.1, bZ_t jg, ig, cg, h1, m_isMoored (d + 18) hL hb.1 hb.2 hk, bZ_t h0, i4, ck, v1.1, b0.1, h2, m_pounds (d + 19) hL hg30.2 hg30.1, h3]
          · have h2' : ¬ S (gA μ g) = S (aT μ k) := fun z => h2 (hRS.inj hC v1.2 b0.2 z)
            have h2'' : ¬ nI (gA μ g) = nI (aT μ k) := by rw [nI_eq (by have := v1.2; omega) (by omega)]; exact h2
            refine Res.same hR hX hW (v := some (.int 0)) ?_ (fun τ μ0 hμ hL => ?_)
            · simp [psh_some, psh_none, -Int32.not_lt, -Int32.not_le, va_rf, vd, vr, isR_r, isR_n, isA_r, isI_i, isI_r, isR_i, ar, akI, akZ, akB, akO, mI_sI, mP_sI, mK_sI, mN_sI, mX_sI, mP_sP, mI_sP, mK_sP, mN_sP, mX_sP, rc_C_load, e_C_load_0, e_C_load_5, e_C_load_11, e_C_load_17, e_C_load_22, e_C_load_29, e_C_load_41, e_C_load_43, e_C_load_64, e_C_load_66, e_C_load_71, e_C_load_80, e_C_load_94, e_C_load_107, fK_1 hF, fK_2 hF, fK_3 hF, fK_4 hF, fK_5 hF, fK_6 hF, fN_6 hF, fK_7 hF, fN_7 hF, fK_8 hF, fN_8 hF, fK_9 hF, fN_9 hF, fK_10 hF, fK_11 hF, fN_11 hF, fK_12 hF, fK_13 hF, fN_13 hF, fK_14 hF, fN_14 hF, fK_15 hF, fN_15 hF, fK_16 hF, fN_16 hF, fP_12_0 hF, fP_12_1 hF, fP_12_2 hF, fP_12_3 hF, fP_12_4 hF, fP_12_5 hF, fP_12_6 hF, fP_12_7 hF, fP_4_0 hF, fP_4_1 hF, fP_4_2 hF, fP_4_3 hF, fP_11_0 hF, fP_7_0 hF, fP_7_1 hF, fP_7_2 hF, hF.cc, eg, em, g0, g5, h1, g6, a0, a4, h2']
            · simp [psh_some, psh_none, -Int32.not_lt, -Int32.not_le, rc_M_load, q_M_load_0, q_M_load_5, q_M_load_10, q_M_load_13, q_M_load_22, q_M_load_27, q_M_load_30, q_M_load_45, q_M_load_50, q_M_load_66, q_M_load_68, q_M_load_75, q_M_load_82, hL, hμ, m_isBag, hg30.1, bZ_t jg, ig, cg, h1, m_isMoored (d + 18) hL hb.1 hb.2 hk, bZ_t h0, i4, ck, v1.1, b0.1, h2'']
        · refine Res.same hR hX hW (v := some (.int 0)) ?_ (fun τ μ0 hμ hL => ?_)
          · simp [psh_some, psh_none, -Int32.not_lt, -Int32.not_le, va_rf, vd, vr, isR_r, isR_n, isA_r, isI_i, isI_r, isR_i, ar, akI, akZ, akB, akO, mI_sI, mP_sI, mK_sI, mN_sI, mX_sI, mP_sP, mI_sP, mK_sP, mN_sP, mX_sP, rc_C_load, e_C_load_0, e_C_load_5, e_C_load_11, e_C_load_17, e_C_load_22, e_C_load_29, e_C_load_41, e_C_load_43, e_C_load_64, e_C_load_66, e_C_load_71, e_C_load_80, e_C_load_94, e_C_load_107, fK_1 hF, fK_2 hF, fK_3 hF, fK_4 hF, fK_5 hF, fK_6 hF, fN_6 hF, fK_7 hF, fN_7 hF, fK_8 hF, fN_8 hF, fK_9 hF, fN_9 hF, fK_10 hF, fK_11 hF, fN_11 hF, fK_12 hF, fK_13 hF, fN_13 hF, fK_14 hF, fN_14 hF, fK_15 hF, fN_15 hF, fK_16 hF, fN_16 hF, fP_12_0 hF, fP_12_1 hF, fP_12_2 hF, fP_12_3 hF, fP_12_4 hF, fP_12_5 hF, fP_12_6 hF, fP_12_7 hF, fP_4_0 hF, fP_4_1 hF, fP_4_2 hF, fP_4_3 hF, fP_11_0 hF, fP_7_0 hF, fP_7_1 hF, fP_7_2 hF, hF.cc, eg, em, g0, g5, h1]
          · simp [psh_some, psh_none, -Int32.not_lt, -Int32.not_le, rc_M_load, q_M_load_0, q_M_load_5, q_M_load_10, q_M_load_13, q_M_load_22, q_M_load_27, q_M_load_30, q_M_load_45, q_M_load_50, q_M_load_66, q_M_load_68, q_M_load_75, q_M_load_82, hL, hμ, m_isBag, hg30.1, bZ_t jg, ig, cg, h1]
      · rw [if_neg h0] at em
        refine Res.same hR hX hW (v := some (.int 0)) ?_ (fun τ μ0 hμ hL => ?_)
        · simp [psh_some, psh_none, -Int32.not_lt, -Int32.not_le, va_rf, vd, vr, isR_r, isR_n, isA_r, isI_i, isI_r, isR_i, ar, akI, akZ, akB, akO, mI_sI, mP_sI, mK_sI, mN_sI, mX_sI, mP_sP, mI_sP, mK_sP, mN_sP, mX_sP, rc_C_load, e_C_load_0, e_C_load_5, e_C_load_11, e_C_load_17, e_C_load_22, e_C_load_29, e_C_load_41, e_C_load_43, e_C_load_64, e_C_load_66, e_C_load_71, e_C_load_80, e_C_load_94, e_C_load_107, fK_1 hF, fK_2 hF, fK_3 hF, fK_4 hF, fK_5 hF, fK_6 hF, fN_6 hF, fK_7 hF, fN_7 hF, fK_8 hF, fN_8 hF, fK_9 hF, fN_9 hF, fK_10 hF, fK_11 hF, fN_11 hF, fK_12 hF, fK_13 hF, fN_13 hF, fK_14 hF, fN_14 hF, fK_15 hF, fN_15 hF, fK_16 hF, fN_16 hF, fP_12_0 hF, fP_12_1 hF, fP_12_2 hF, fP_12_3 hF, fP_12_4 hF, fP_12_5 hF, fP_12_6 hF, fP_12_7 hF, fP_4_0 hF, fP_4_1 hF, fP_4_2 hF, fP_4_3 hF, fP_11_0 hF, fP_7_0 hF, fP_7_1 hF, fP_7_2 hF, hF.cc, eg, em]
        · by_cases h1 : μ.2 64 g = 0 <;> simp [psh_some, psh_none, -Int32.not_lt, -Int32.not_le, rc_M_load, q_M_load_0, q_M_load_5, q_M_load_10, q_M_load_13, q_M_load_22, q_M_load_27, q_M_load_30, q_M_load_45, q_M_load_50, q_M_load_66, q_M_load_68, q_M_load_75, q_M_load_82, hL, hμ, m_isBag, hg30.1, bZ_t jg, ig, cg, h1, m_isMoored (d + 18) hL hb.1 hb.2 hk, bZ_f h0]
    · refine Res.same hR hX hW (v := some (.int 0)) ?_ (fun τ μ0 hμ hL => ?_)
      · simp [psh_some, psh_none, -Int32.not_lt, -Int32.not_le, va_rf, vd, vr, isR_r, isR_n, isA_r, isI_i, isI_r, isR_i, ar, akI, akZ, akB, akO, mI_sI, mP_sI, mK_sI, mN_sI, mX_sI, mP_sP, mI_sP, mK_sP, mN_sP, mX_sP, rc_C_load, e_C_load_0, e_C_load_5, e_C_load_11, e_C_load_17, e_C_load_22, e_C_load_29, e_C_load_41, e_C_load_43, e_C_load_64, e_C_load_66, e_C_load_71, e_C_load_80, e_C_load_94, e_C_load_107, fK_1 hF, fK_2 hF, fK_3 hF, fK_4 hF, fK_5 hF, fK_6 hF, fN_6 hF, fK_7 hF, fN_7 hF, fK_8 hF, fN_8 hF, fK_9 hF, fN_9 hF, fK_10 hF, fK_11 hF, fN_11 hF, fK_12 hF, fK_13 hF, fN_13 hF, fK_14 hF, fN_14 hF, fK_15 hF, fN_15 hF, fK_16 hF, fN_16 hF, fP_12_0 hF, fP_12_1 hF, fP_12_2 hF, fP_12_3 hF, fP_12_4 hF, fP_12_5 hF, fP_12_6 hF, fP_12_7 hF, fP_4_0 hF, fP_4_1 hF, fP_4_2 hF, fP_4_3 hF, fP_11_0 hF, fP_7_0 hF, fP_7_1 hF, fP_7_2 hF, hF.cc, eg, c_moored_no (d + 15) hF hRX hC hnb]
      · by_cases h1 : μ.2 64 g = 0 <;> simp [psh_some, psh_none, -Int32.not_lt, -Int32.not_le, rc_M_load, q_M_load_0, q_M_load_5, q_M_load_10, q_M_load_13, q_M_load_22, q_M_load_27, q_M_load_30, q_M_load_45, q_M_load_50, q_M_load_66, q_M_load_68, q_M_load_75, q_M_load_82, hL, hμ, m_isBag, hg30.1, bZ_t jg, ig, cg, h1, m_isMoored_no (d + 18) hL hb.1 hnb]
  · have ev : ∃ v, isR v = true ∧ runc (d + 19) 95 [.ref c, .int y] σ = some (some v, σ) := by
      rcases nIx y (n := nB μ) (by omega) with ⟨k, hk, rfl⟩ | hnb
      · refine ⟨_, ?_, c_moored (d + 15) hF hRX hC hRB hk⟩
        split
        · exact isR_r _
        · exact isR_n
      · exact ⟨_, isR_n, c_moored_no (d + 15) hF hRX hC hnb⟩
    obtain ⟨v, v1, v2⟩ := ev
    refine Res.same hR hX hW (v := some (.int 0)) ?_ (fun τ μ0 hμ hL => ?_)
    · simp [psh_some, psh_none, -Int32.not_lt, -Int32.not_le, va_rf, vd, vr, isR_r, isR_n, isA_r, isI_i, isI_r, isR_i, ar, akI, akZ, akB, akO, mI_sI, mP_sI, mK_sI, mN_sI, mX_sI, mP_sP, mI_sP, mK_sP, mN_sP, mX_sP, rc_C_load, e_C_load_0, e_C_load_5, e_C_load_11, e_C_load_17, e_C_load_22, e_C_load_29, e_C_load_41, e_C_load_43, e_C_load_64, e_C_load_66, e_C_load_71, e_C_load_80, e_C_load_94, e_C_load_107, fK_1 hF, fK_2 hF, fK_3 hF, fK_4 hF, fK_5 hF, fK_6 hF, fN_6 hF, fK_7 hF, fN_7 hF, fK_8 hF, fN_8 hF, fK_9 hF, fN_9 hF, fK_10 hF, fK_11 hF, fN_11 hF, fK_12 hF, fK_13 hF, fN_13 hF, fK_14 hF, fN_14 hF, fK_15 hF, fN_15 hF, fK_16 hF, fN_16 hF, fP_12_0 hF, fP_12_1 hF, fP_12_2 hF, fP_12_3 hF, fP_12_4 hF, fP_12_5 hF, fP_12_6 hF, fP_12_7 hF, fP_4_0 hF, fP_4_1 hF, fP_4_2 hF, fP_4_3 hF, fP_11_0 hF, fP_7_0 hF, fP_7_1 hF, fP_7_2 hF, hF.cc, c_bagAt_no (d + 16) hF hRX hC hno, v1, v2]
    · simp [psh_some, psh_none, -Int32.not_lt, -Int32.not_le, rc_M_load, q_M_load_0, q_M_load_5, q_M_load_10, q_M_load_13, q_M_load_22, q_M_load_27, q_M_load_30, q_M_load_45, q_M_load_50, q_M_load_66, q_M_load_68, q_M_load_75, q_M_load_82, hL, hμ, m_isBag, hg30.1, bZ_f (no_ix hno)]
end O55
