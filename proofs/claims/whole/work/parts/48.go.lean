/-! ===== SINKING, LANDING, A MINUTE, go ===== -/
section O48
variable {σ σ' : Mm} {c : Nat} {E S L B G H Q : Nat → Nat} {Z : Nat → List Nat} {w : Bool} {μ μ' : Ms} (d : Nat)
theorem skM_Sm {ks : List Nat} (x : Int32) {s1 : Mm} (h : Sm (tk ks) σ s1) (h2 : tk ks 2 = true) : ∀ j, Sm (tk ks) σ (skM s1 G μ x j) := by
  intro j
  induction j with
  | zero => exact h
  | succ j ih =>
    rw [skM]
    split
    · exact SmsI ih h2 _ _ _
    · exact ih
theorem Kx_r (h : Kx σ) (e : σ'.2 = σ.2) : Kx σ' := by
  have e1 : mK σ' = mK σ := congrArg (fun z => z.2.2.1) e
  have e2 : mX σ' = mX σ := congrArg (fun z => z.2.2.2.2.1) e
  unfold Kx
  rw [e1, e2]
  exact h
theorem skS_1 (k : Nat) : (skS μ k).1 = fun g => if g = 37 then μ.1 37 + μ.2 27 k else μ.1 g := by
  unfold skS
  rw [skN_1]
  rfl
theorem skS_2 {k f : Nat} (h1 : f ≠ 24) (h2 : f ≠ 27) (h3 : f ≠ 64) : (skS μ k).2 f = μ.2 f := by
  unfold skS
  rw [skN_2 _ h3]
  funext j
  simp [skA, fA_2, fF_2, h1, h2]
theorem skS_24 (k j : Nat) : (skS μ k).2 24 j = if j = k then 2 else μ.2 24 j := by
  unfold skS
  rw [skN_2 _ (by decide)]
  simp [skA, fA_2, fF_2]
theorem skS_27 (k j : Nat) : (skS μ k).2 27 j = if j = k then 0 else μ.2 27 j := by
  unfold skS
  rw [skN_2 _ (by decide)]
  simp [skA, fA_2, fF_2]
theorem skS_64 (k g : Nat) : (skS μ k).2 64 g = if g < nG μ ∧ μ.2 64 g = 1 ∧ μ.2 66 g = nI k then 3 else μ.2 64 g := by
  unfold skS
  rw [skN_64]
  rfl
theorem Wf_skS {k : Nat} (hW : Wf μ) (hk : k < nB μ) (h1 : μ.2 24 k = 1) : Wf (skS μ k) := by
  have e1 : ∀ f, f ≠ 37 → (skS μ k).1 f = μ.1 f := fun f hf => by rw [skS_1]; simp [hf]
  have e2 : ∀ f, f ≠ 24 → f ≠ 27 → f ≠ 64 → (skS μ k).2 f = μ.2 f := fun f h1 h2 h3 => skS_2 h1 h2 h3
  obtain ⟨hC, hWS, hWL, hWB, hWG, hWF, hWT, hWR, hWK⟩ := hW
  obtain ⟨b0, b1, b2, b3, b4, ⟨t, f, t1, t2, t3, t4, t5⟩, b6, b7, b8, ⟨r, r1, r2, r3⟩, b10, b11, b12⟩ := hWB.1 k hk
  have r0 : r = 0 := by
    by_cases z : 0 < r
    · have := r3 z; rw [h1] at this; exact absurd this (by decide)
    · omega
  refine ⟨?_, WS_eq hWS (e1 2 (by decide)) (fun f hf => ?_) (fun s hs => ?_), ?_, WB_upd hWB hk (e1 2 (by decide)) (e1 16 (by decide)) (fun f h1 h2 j hj => ?_) ?_, ?_, ?_, ?_, ?_, ?_⟩
  · unfold Cn nS nL nF nB nG nK nT nR nW
    rw [e1 2 (by decide), e1 7 (by decide), e1 11 (by decide), e1 16 (by decide), e1 60 (by decide), e1 56 (by decide), e1 40 (by decide), e1 41 (by decide), e1 1 (by decide)]
    exact hC
  · simp only [List.mem_cons, List.not_mem_nil, or_false] at hf
    exact e2 f (by omega) (by omega) (by omega)
  · unfold nB
    rw [e1 16 (by decide)]
    refine mo_congr (fun j _ => ?_)
    rw [skS_24, e2 25 (by decide) (by decide) (by decide)]
    by_cases e : j = k
    · subst e; rw [if_pos rfl, h1]; simp
    · rw [if_neg e]
  · unfold WL lA lB nL nS
    rw [e1 7 (by decide), e1 2 (by decide), e2 8 (by decide) (by decide) (by decide), e2 9 (by decide) (by decide) (by decide), e2 10 (by decide) (by decide) (by decide)]
    exact hWL
  · by_cases z4 : f = 24
    · rw [z4, skS_24, if_neg hj]
    · by_cases z7 : f = 27
      · rw [z7, skS_27, if_neg hj]
      · rw [e2 f z4 z7 (by omega)]
  · unfold WB1 aT wH nS
    rw [e1 2 (by decide), e2 25 (by decide) (by decide) (by decide), e2 17 (by decide) (by decide) (by decide), e2 18 (by decide) (by decide) (by decide), e2 19 (by decide) (by decide) (by decide), e2 20 (by decide) (by decide) (by decide), e2 21 (by decide) (by decide) (by decide), e2 22 (by decide) (by decide) (by decide), e2 23 (by decide) (by decide) (by decide), e2 29 (by decide) (by decide) (by decide), e2 30 (by decide) (by decide) (by decide), e2 31 (by decide) (by decide) (by decide), e2 32 (by decide) (by decide) (by decide), e2 26 (by decide) (by decide) (by decide), e2 36 (by decide) (by decide) (by decide), skS_24, skS_27, if_pos rfl, if_pos rfl]
    refine ⟨b0, b1, b2, b3, b4, ⟨t, 0, t1, t2, t3, by omega, rfl⟩, b6, b7, b8, ⟨r, r1, r2, fun z => absurd z (by omega)⟩, b10, b11, fun z => absurd z (by decide), fun _ => rfl⟩
  · unfold WG WG1 gT gA nG nS nB
    rw [e1 60 (by decide), e1 2 (by decide), e1 16 (by decide), e2 61 (by decide) (by decide) (by decide), e2 62 (by decide) (by decide) (by decide), e2 63 (by decide) (by decide) (by decide), e2 65 (by decide) (by decide) (by decide), e2 66 (by decide) (by decide) (by decide), e2 68 (by decide) (by decide) (by decide)]
    refine ⟨fun g hg => ?_, hWG.2⟩
    obtain ⟨y0, y1, y2, y3, y4⟩ := hWG.1 g hg
    refine ⟨y0, y1, y2, y3, fun z => y4 ?_⟩
    rw [skS_64] at z
    split at z
    · exact absurd z (by decide)
    · exact z
  · unfold WF ofN nF
    rw [e1 11 (by decide), e2 12 (by decide) (by decide) (by decide), e2 13 (by decide) (by decide) (by decide), e2 15 (by decide) (by decide) (by decide)]
    exact hWF
  · unfold WT
    rw [e2 39 (by decide) (by decide) (by decide)]
    exact hWT
  · unfold WR Rl tm nR
    rw [e1 41 (by decide), e2 42 (by decide) (by decide) (by decide), e2 44 (by decide) (by decide) (by decide), e2 45 (by decide) (by decide) (by decide)]
    exact hWR
  · unfold WK nK nB nW
    rw [e1 56 (by decide), e1 16 (by decide), e1 1 (by decide), e2 58 (by decide) (by decide) (by decide), e2 33 (by decide) (by decide) (by decide)]
    exact hWK
theorem c_sink {k : Nat} (hR : RC σ c E S L B G H Q Z w μ) (hX : Kx σ) (hW : Wf μ) (hk : k < nB μ) (h1 : μ.2 24 k = 1) : ∃ σ', runc (d + 3) 106 [.ref c, .ref (B k)] σ = some (none, σ') ∧ Spq [2, 3, 12] σ c E S L B G H Q Z w σ' (skS μ k) := by
  obtain ⟨hF, hz, hRX, hRS, hRL, hRB, hRP, hRG, hRF, hRT, hRK, hRR, hRN⟩ := id hR
  have hC := hW.1
  obtain ⟨a0, a1, a2, a3, a4, a5, a6, a7, a8, a9, a10, a11, a12, a13, a14, a15⟩ := (hRB k hk).1
  have hlp := sink_lp (s1 := sI (sI (sI σ 12 c 11 (μ.1 37 + μ.2 27 k)) 3 (B k) 5 0) 3 (B k) 2 2) d hR hC hk rfl (by funext q f; simp [mI_sI]) (by simp [mI_sI]) (nG μ) 0 (by omega)
  rw [nI_0, skM] at hlp
  have hs1 : Sm (tk [2, 3, 12]) σ (sI (sI (sI σ 12 c 11 (μ.1 37 + μ.2 27 k)) 3 (B k) 5 0) 3 (B k) 2 2) := SmsI (SmsI (SmsI (Sm.rfl' σ) rfl _ _ _) rfl _ _ _) rfl _ _ _
  have hs2 := skM_Sm (G := G) (μ := μ) (nI k) hs1 rfl (nG μ)
  have e3r := skM_r (σ := sI (sI (sI σ 12 c 11 (μ.1 37 + μ.2 27 k)) 3 (B k) 5 0) 3 (B k) 2 2) (G := G) (μ := μ) (nI k) (nG μ)
  have eI : ∀ e, e ≠ 2 → mI (skM (sI (sI (sI σ 12 c 11 (μ.1 37 + μ.2 27 k)) 3 (B k) 5 0) 3 (B k) 2 2) G μ (nI k) (nG μ)) e = mI (sI (sI (sI σ 12 c 11 (μ.1 37 + μ.2 27 k)) 3 (B k) 5 0) 3 (B k) 2 2) e := fun e he => skM_I (nI k) he (nG μ)
  have e4 : ∀ g, g < nG μ → mI (skM (sI (sI (sI σ 12 c 11 (μ.1 37 + μ.2 27 k)) 3 (B k) 5 0) 3 (B k) 2 2) G μ (nI k) (nG μ)) 2 (G g) 4 = (skS μ k).2 64 g := fun g hg => by
    rw [skM_4 (nI k) hRG.2.1 hg (nG μ) (Nat.le_refl _), skS_64]
    have := (hRG.1 g hg).1.2.2.2.2.2.1
    simp [mI_sI, this]
  have ef : ∀ g f, f ≠ 4 → mI (skM (sI (sI (sI σ 12 c 11 (μ.1 37 + μ.2 27 k)) 3 (B k) 5 0) 3 (B k) 2 2) G μ (nI k) (nG μ)) 2 g f = mI σ 2 g f := fun g f hf => by
    rw [skM_f (nI k) hf g (nG μ)]
    simp [mI_sI]
  generalize hρ : skM (sI (sI (sI σ 12 c 11 (μ.1 37 + μ.2 27 k)) 3 (B k) 5 0) 3 (B k) 2 2) G μ (nI k) (nG μ) = ρ at *
  have er : ρ.2 = σ.2 := e3r
  have eK : mK ρ = mK σ := congrArg (fun z => z.2.2.1) er
  have eP : mP ρ = mP σ := congrArg (fun z => z.1) er
  have hs : Sm (tk [2, 3, 12]) σ (sI (sI ρ 3 (B k) 6 0) 3 (B k) 7 0) := SmsI (SmsI hs2 rfl _ _ _) rfl _ _ _
  have e1 : ∀ f, f ≠ 37 → (skS μ k).1 f = μ.1 f := fun f hf => by rw [skS_1]; simp [hf]
  have e2 : ∀ f, f ≠ 24 → f ≠ 27 → f ≠ 64 → (skS μ k).2 f = μ.2 f := fun f h1 h2 h3 => skS_2 h1 h2 h3
  have hwk := hW.2.2.2.1.1 k hk
  have hn : nG (skS μ k) = nG μ := by unfold nG; rw [e1 60 (by decide)]
  have hb6 := hC.b.2
  refine ⟨sI (sI ρ 3 (B k) 6 0) 3 (B k) 7 0, ?_, ⟨FL_r hF er, hz.fr hs rfl, hRX.fr hz hX hs rfl rfl rfl (e1 2 (by decide)) (e1 7 (by decide)) (e1 16 (by decide)) (e1 60 (by decide)), RS_eq hRS eK (fun q f => ?_) (e1 2 (by decide)) (fun f hf => ?_) (fun s hs => ?_), hRL.fr hX hs rfl (e1 7 (by decide)) (e2 8 (by decide) (by decide) (by decide)) (e2 9 (by decide) (by decide) (by decide)) (e2 10 (by decide) (by decide) (by decide)), RB_upd hRB hC hk eK (fun j hj f => ?_) (fun j hj f => ?_) (fun q f => ?_) (e1 1 (by decide)) (e1 16 (by decide)) (fun f h1 h2 j hj => ?_) (fun f h1 h2 => ?_) ?_, fun j hj => ?_, ⟨fun g hg => ⟨?_, ?_⟩, ?_, ?_⟩, hRF.fr hF hX hs rfl rfl rfl rfl rfl (e1 11 (by decide)) (fun f hf => ?_), hRT.fr hF hX hs rfl rfl (e1 40 (by decide)) (e2 39 (by decide) (by decide) (by decide)), hRK.fr hF hX hs rfl rfl rfl rfl (e1 56 (by decide)) (fun f hf => ?_), ⟨?_, ?_, hRR.2.2.fr (hF.ru w) hX hs (by rintro q (rfl | rfl | rfl | rfl | rfl | rfl | rfl | rfl) <;> rfl) (e1 41 (by decide)) (fun f hf => ?_)⟩, ?_⟩, hs, Kx_r hX er, ?_, ?_⟩
  · simp [psh_some, psh_none, -Int32.not_lt, -Int32.not_le, va_rf, vd, vr, isR_r, isR_n, isA_r, isI_i, isI_r, isR_i, ar, akI, akZ, akB, akO, mI_sI, mP_sI, mK_sI, mN_sI, mX_sI, mP_sP, mI_sP, mK_sP, mN_sP, mX_sP, rc_C_sink, e_C_sink_0, e_C_sink_13, e_C_sink_18, e_C_sink_23, e_C_sink_69, e_C_sink_74, e_C_sink_79, fK_1 hF, fK_2 hF, fK_3 hF, fK_4 hF, fK_5 hF, fK_6 hF, fN_6 hF, fK_7 hF, fN_7 hF, fK_8 hF, fN_8 hF, fK_9 hF, fN_9 hF, fK_10 hF, fK_11 hF, fN_11 hF, fK_12 hF, fK_13 hF, fN_13 hF, fK_14 hF, fN_14 hF, fK_15 hF, fN_15 hF, fK_16 hF, fN_16 hF, fP_12_0 hF, fP_12_1 hF, fP_12_2 hF, fP_12_3 hF, fP_12_4 hF, fP_12_5 hF, fP_12_6 hF, fP_12_7 hF, fP_4_0 hF, fP_4_1 hF, fP_4_2 hF, fP_4_3 hF, fP_11_0 hF, fP_7_0 hF, fP_7_1 hF, fP_7_2 hF, hF.cc, hRN.2.1, a0, a6, hlp, eK]
  · simp [mI_sI, eI]
  · simp only [List.mem_cons, List.not_mem_nil, or_false] at hf
    exact e2 f (by omega) (by omega) (by omega)
  · unfold nB
    rw [e1 16 (by decide)]
    refine mo_congr (fun j _ => ?_)
    rw [skS_24, e2 25 (by decide) (by decide) (by decide)]
    by_cases e : j = k
    · subst e; rw [if_pos rfl, h1]; simp
    · rw [if_neg e]
  · simp [mI_sI, eI, hj]
  · show mP ρ 3 j f = _
    rw [eP]
  · simp [mI_sI, eI]
  · by_cases z4 : f = 24
    · rw [z4, skS_24, if_neg hj]
    · by_cases z7 : f = 27
      · rw [z7, skS_27, if_neg hj]
      · rw [e2 f z4 z7 (by omega)]
  · rw [e2 f (by omega) (by omega) (by omega)]
  · unfold RB1 aT wH
    rw [e1 1 (by decide), e2 25 (by decide) (by decide) (by decide), e2 26 (by decide) (by decide) (by decide), e2 28 (by decide) (by decide) (by decide), e2 29 (by decide) (by decide) (by decide), e2 30 (by decide) (by decide) (by decide), e2 31 (by decide) (by decide) (by decide), e2 32 (by decide) (by decide) (by decide), e2 33 (by decide) (by decide) (by decide), e2 34 (by decide) (by decide) (by decide), e2 35 (by decide) (by decide) (by decide), e2 36 (by decide) (by decide) (by decide), skS_24, skS_27, if_pos rfl, if_pos rfl]
    have n2 : ¬ (2 : Int32) = 1 := by decide
    simp [mI_sI, mP_sI, mK_sI, eI, eK, eP, a0, a1, a2, a7, a8, a9, a10, a11, a12, a13, a14, n2]
    exact ⟨a4, a15⟩
  · have hj' : j < nB μ := by unfold nB at hj ⊢; rw [← e1 16 (by decide)]; exact hj
    rw [hn]
    by_cases e : j = k
    · subst e
      refine ⟨fun i => ?_, ?_⟩
      · rw [show mI (sI (sI ρ 3 (B j) 6 0) 3 (B j) 7 0) 3 (B j) 6 = 0 by simp [mI_sI], b_0, hn]
        symm
        rw [decide_eq_false_iff_not]
        rintro ⟨z1, z2, z3⟩
        rw [e2 66 (by decide) (by decide) (by decide)] at z3
        rw [skS_64] at z2
        by_cases q : μ.2 64 i = 1
        · rw [if_pos ⟨z1, q, z3⟩] at z2
          exact absurd z2 (by decide)
        · rw [if_neg (fun y => q y.2.1)] at z2
          exact q z2
      · rw [show mI (sI (sI ρ 3 (B j) 6 0) 3 (B j) 7 0) 3 (B j) 7 = 0 by simp [mI_sI], sm_ext (n := 0) (Nat.zero_le _) (fun i _ hi => ?_)]
        · rfl
        · unfold pd1
          rw [e2 66 (by decide) (by decide) (by decide)]
          by_cases q : μ.2 64 i = 1 ∧ μ.2 66 i = nI j
          · have q2 : (skS μ j).2 64 i = 3 := by rw [skS_64, if_pos ⟨hi, q⟩]
            rw [q2, if_neg (fun y => absurd y.1 (by decide))]
          · have q2 : (skS μ j).2 64 i = μ.2 64 i := by rw [skS_64, if_neg (fun y => q y.2)]
            rw [q2, if_neg q]
    · have hne : B j ≠ B k := fun z => e (hRB.inj hC hj' hk z)
      have hp := hRP j hj'
      have hk' : ∀ i, μ.2 66 i = nI j → ¬ μ.2 66 i = nI k := fun i z1 z2 => e (by rw [z1, nI_eq (by omega) (by omega)] at z2; exact z2)
      have h64 : ∀ i, μ.2 66 i = nI j → (skS μ k).2 64 i = μ.2 64 i := fun i z => by rw [skS_64, if_neg (fun y => hk' i z y.2.2)]
      refine ⟨fun i => ?_, ?_⟩
      · rw [show mI (sI (sI ρ 3 (B k) 6 0) 3 (B k) 7 0) 3 (B j) 6 = mI σ 3 (B j) 6 by simp [mI_sI, eI, hne], hp.1 i, hn, e2 66 (by decide) (by decide) (by decide)]
        by_cases q : μ.2 66 i = nI j
        · rw [h64 i q]
        · simp [q]
      · rw [show mI (sI (sI ρ 3 (B k) 6 0) 3 (B k) 7 0) 3 (B j) 7 = mI σ 3 (B j) 7 by simp [mI_sI, eI, hne], hp.2]
        refine sm_congr (fun i hi => ?_)
        unfold pd1
        rw [e2 66 (by decide) (by decide) (by decide), e2 62 (by decide) (by decide) (by decide)]
        by_cases q : μ.2 66 i = nI j
        · rw [h64 i q]
        · rw [if_neg (fun y => q y.2), if_neg (fun y => q y.2)]
  · rw [hn] at hg
    obtain ⟨g0, g1, g2, g3, g4, g5, g6, g7, g8⟩ := (hRG.1 g hg).1
    unfold RG1 gT gA
    rw [e2 61 (by decide) (by decide) (by decide), e2 62 (by decide) (by decide) (by decide), e2 63 (by decide) (by decide) (by decide), e2 65 (by decide) (by decide) (by decide), e2 66 (by decide) (by decide) (by decide), e2 67 (by decide) (by decide) (by decide)]
    have m2 : ∀ q f, mI (sI (sI ρ 3 (B k) 6 0) 3 (B k) 7 0) 2 q f = mI ρ 2 q f := fun q f => by simp [mI_sI]
    rw [m2, m2, m2, m2, m2, ef _ 1 (by decide), ef _ 2 (by decide), ef _ 6 (by decide), ef _ 7 (by decide), e4 g hg]
    show mK ρ (G g) = 2 ∧ mP ρ 2 (G g) 0 = _ ∧ _ ∧ _ ∧ mP ρ 2 (G g) 3 = _ ∧ _ ∧ mP ρ 2 (G g) 5 = _ ∧ _
    rw [eK, eP]
    refine ⟨g0, g1, g2, g3, g4, rfl, g6, fun z => g7 ?_, fun z => g8 ?_⟩
    · rw [skS_64] at z
      split at z
      · exact absurd z (by decide)
      · exact z
    · rw [skS_64] at z
      split at z
      · exact absurd z (by decide)
      · exact z
  · rw [hn] at hg
    exact (hRG.1 g hg).2.fr hX hs rfl (fun y _ => by rw [e2 68 (by decide) (by decide) (by decide)])
  · rw [hn]; exact hRG.2.1
  · rw [hn]; exact hRG.2.2
  · simp only [List.mem_cons, List.not_mem_nil, or_false] at hf
    exact e2 f (by omega) (by omega) (by omega)
  · simp only [List.mem_cons, List.not_mem_nil, or_false] at hf
    exact e2 f (by omega) (by omega) (by omega)
  · show mP ρ 12 c 8 = _
    rw [eP]
    exact hRR.1
  · show mP ρ 12 c 9 = _
    rw [eP]
    exact hRR.2.1
  · simp only [List.mem_cons, List.not_mem_nil, or_false] at hf
    exact e2 f (by omega) (by omega) (by omega)
  · unfold RN
    rw [e1 1 (by decide), e1 38 (by decide), hn]
    have m12 : ∀ f, f ≠ 11 → mI (sI (sI ρ 3 (B k) 6 0) 3 (B k) 7 0) 12 c f = mI σ 12 c f := fun f hf => by simp [mI_sI, eI, hf]
    rw [m12 10 (by decide), m12 12 (by decide), m12 13 (by decide)]
    refine ⟨hRN.1, ?_, hRN.2.2.1, ?_⟩
    · rw [skS_1]; simp [mI_sI, eI]
    · rw [hRN.2.2.2]
      refine sm_congr (fun i hi => ?_)
      unfold dl1
      by_cases q : μ.2 64 i = 1 ∧ μ.2 66 i = nI k
      · have q2 : (skS μ k).2 64 i = 3 := by rw [skS_64, if_pos ⟨hi, q⟩]
        rw [q2, q.1, if_neg (by decide), if_neg (by decide)]
      · have q2 : (skS μ k).2 64 i = μ.2 64 i := by rw [skS_64, if_neg (fun y => q y.2)]
        rw [q2]
  · show ρ.2.2.2.2.2.1 = _
    rw [er]; rfl
  · show ρ.2.2.2.2.2.2 = _
    rw [er]; rfl
end O48
