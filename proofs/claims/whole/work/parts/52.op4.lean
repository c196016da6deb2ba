/-! ===== OPERATIONS: count, suspects ===== -/
section O52
variable {σ : Mm} {c a : Nat} {E S L B G H Q : Nat → Nat} {Z : Nat → List Nat} {w : Bool} {μ : Ms} (d : Nat)
theorem gal_lp (hF : FL σ c) (hX : RX σ c E S L B G μ) (hC : Cn μ) (hB : RB σ S B H μ) : ∀ y j : Nat, j + y = nB μ → run (d + 3) 101 4 [.ref c, .int (sm (μ.2 27) j), .int (nI j)] [] σ = some (some (.int (sm (μ.2 27) (nB μ))), σ) := by
  have hl := hX.2.2.1
  have hb := hC.b
  intro y
  induction y with
  | zero =>
    intro j hj
    have : j = nB μ := by omega
    subst this
    simp [psh_some, psh_none, -Int32.not_lt, -Int32.not_le, va_rf, vd, vr, isR_r, isR_n, isA_r, isI_i, isI_r, isR_i, ar, akI, akZ, akB, akO, mI_sI, mP_sI, mK_sI, mN_sI, mX_sI, mP_sP, mI_sP, mK_sP, mN_sP, mX_sP, e_C_gallonsInTanks_4, e_C_gallonsInTanks_14, e_C_gallonsInTanks_42, fK_1 hF, fK_2 hF, fK_3 hF, fK_4 hF, fK_5 hF, fK_6 hF, fN_6 hF, fK_7 hF, fN_7 hF, fK_8 hF, fN_8 hF, fK_9 hF, fN_9 hF, fK_10 hF, fK_11 hF, fN_11 hF, fK_12 hF, fK_13 hF, fN_13 hF, fK_14 hF, fN_14 hF, fK_15 hF, fN_15 hF, fK_16 hF, fN_16 hF, fP_12_0 hF, fP_12_1 hF, fP_12_2 hF, fP_12_3 hF, fP_12_4 hF, fP_12_5 hF, fP_12_6 hF, fP_12_7 hF, fP_4_0 hF, fP_4_1 hF, fP_4_2 hF, fP_4_3 hF, fP_11_0 hF, fP_7_0 hF, fP_7_1 hF, fP_7_2 hF, hF.cc, c_size _ hl.1, hl.2.1]
  | succ y ih =>
    intro j hj
    have h1 := ih (j + 1) (by omega)
    have h2 : ¬ nI (nB μ) ≤ nI j := nI_ge (by omega) (by omega)
    have eg := c_get d hl (by omega) (show j < nB μ by omega)
    obtain ⟨a0, a1, a2, a3, a4, a5, a6, -⟩ := (hB j (by omega)).1
    rw [sm, nI_succ] at h1
    simp [psh_some, psh_none, -Int32.not_lt, -Int32.not_le, va_rf, vd, vr, isR_r, isR_n, isA_r, isI_i, isI_r, isR_i, ar, akI, akZ, akB, akO, mI_sI, mP_sI, mK_sI, mN_sI, mX_sI, mP_sP, mI_sP, mK_sP, mN_sP, mX_sP, e_C_gallonsInTanks_4, e_C_gallonsInTanks_14, e_C_gallonsInTanks_17, e_C_gallonsInTanks_28, fK_1 hF, fK_2 hF, fK_3 hF, fK_4 hF, fK_5 hF, fK_6 hF, fN_6 hF, fK_7 hF, fN_7 hF, fK_8 hF, fN_8 hF, fK_9 hF, fN_9 hF, fK_10 hF, fK_11 hF, fN_11 hF, fK_12 hF, fK_13 hF, fN_13 hF, fK_14 hF, fN_14 hF, fK_15 hF, fN_15 hF, fK_16 hF, fN_16 hF, fP_12_0 hF, fP_12_1 hF, fP_12_2 hF, fP_12_3 hF, fP_12_4 hF, fP_12_5 hF, fP_12_6 hF, fP_12_7 hF, fP_4_0 hF, fP_4_1 hF, fP_4_2 hF, fP_4_3 hF, fP_11_0 hF, fP_7_0 hF, fP_7_1 hF, fP_7_2 hF, hF.cc, c_size _ hl.1, hl.2.1, h2, eg, a0, a6, h1]
theorem c_gallons (hF : FL σ c) (hX : RX σ c E S L B G μ) (hC : Cn μ) (hB : RB σ S B H μ) : runc (d + 3) 101 [.ref c] σ = some (some (.int (sm (μ.2 27) (nB μ))), σ) := by
  have h := gal_lp d hF hX hC hB (nB μ) 0 (by omega)
  rw [rc_C_gallonsInTanks, e_C_gallonsInTanks_0]
  simpa [sm, nI_0] using h
theorem dru_lp (hF : FL σ c) (hX : RX σ c E S L B G μ) (hC : Cn μ) (hS : RS σ S μ) : ∀ y j : Nat, j + y = nS μ → run (d + 3) 102 4 [.ref c, .int (sm (μ.2 6) j), .int (nI j)] [] σ = some (some (.int (sm (μ.2 6) (nS μ))), σ) := by
  have hl := hX.1
  have hb := hC.s
  intro y
  induction y with
  | zero =>
    intro j hj
    have : j = nS μ := by omega
    subst this
    simp [psh_some, psh_none, -Int32.not_lt, -Int32.not_le, va_rf, vd, vr, isR_r, isR_n, isA_r, isI_i, isI_r, isR_i, ar, akI, akZ, akB, akO, mI_sI, mP_sI, mK_sI, mN_sI, mX_sI, mP_sP, mI_sP, mK_sP, mN_sP, mX_sP, e_C_drumsInAll_4, e_C_drumsInAll_14, e_C_drumsInAll_42, fK_1 hF, fK_2 hF, fK_3 hF, fK_4 hF, fK_5 hF, fK_6 hF, fN_6 hF, fK_7 hF, fN_7 hF, fK_8 hF, fN_8 hF, fK_9 hF, fN_9 hF, fK_10 hF, fK_11 hF, fN_11 hF, fK_12 hF, fK_13 hF, fN_13 hF, fK_14 hF, fN_14 hF, fK_15 hF, fN_15 hF, fK_16 hF, fN_16 hF, fP_12_0 hF, fP_12_1 hF, fP_12_2 hF, fP_12_3 hF, fP_12_4 hF, fP_12_5 hF, fP_12_6 hF, fP_12_7 hF, fP_4_0 hF, fP_4_1 hF, fP_4_2 hF, fP_4_3 hF, fP_11_0 hF, fP_7_0 hF, fP_7_1 hF, fP_7_2 hF, hF.cc, c_size _ hl.1, hl.2.1]
  | succ y ih =>
    intro j hj
    have h1 := ih (j + 1) (by omega)
    have h2 : ¬ nI (nS μ) ≤ nI j := nI_ge (by omega) (by omega)
    have eg := c_get d hl (by omega) (show j < nS μ by omega)
    obtain ⟨a0, a1, a2, a3, a4, a5, a6⟩ := hS j (by omega)
    rw [sm, nI_succ] at h1
    simp [psh_some, psh_none, -Int32.not_lt, -Int32.not_le, va_rf, vd, vr, isR_r, isR_n, isA_r, isI_i, isI_r, isR_i, ar, akI, akZ, akB, akO, mI_sI, mP_sI, mK_sI, mN_sI, mX_sI, mP_sP, mI_sP, mK_sP, mN_sP, mX_sP, e_C_drumsInAll_4, e_C_drumsInAll_14, e_C_drumsInAll_17, e_C_drumsInAll_28, fK_1 hF, fK_2 hF, fK_3 hF, fK_4 hF, fK_5 hF, fK_6 hF, fN_6 hF, fK_7 hF, fN_7 hF, fK_8 hF, fN_8 hF, fK_9 hF, fN_9 hF, fK_10 hF, fK_11 hF, fN_11 hF, fK_12 hF, fK_13 hF, fN_13 hF, fK_14 hF, fN_14 hF, fK_15 hF, fN_15 hF, fK_16 hF, fN_16 hF, fP_12_0 hF, fP_12_1 hF, fP_12_2 hF, fP_12_3 hF, fP_12_4 hF, fP_12_5 hF, fP_12_6 hF, fP_12_7 hF, fP_4_0 hF, fP_4_1 hF, fP_4_2 hF, fP_4_3 hF, fP_11_0 hF, fP_7_0 hF, fP_7_1 hF, fP_7_2 hF, hF.cc, c_size _ hl.1, hl.2.1, h2, eg, a0, a5, h1]
theorem c_drumsAll (hF : FL σ c) (hX : RX σ c E S L B G μ) (hC : Cn μ) (hS : RS σ S μ) : runc (d + 3) 102 [.ref c] σ = some (some (.int (sm (μ.2 6) (nS μ))), σ) := by
  have h := dru_lp d hF hX hC hS (nS μ) 0 (by omega)
  rw [rc_C_drumsInAll, e_C_drumsInAll_0]
  simpa [sm, nI_0] using h
theorem cnt7_lp (hL : LM σ a) (hC : Cn μ) (x : Int32) : ∀ y j : Nat, j + y = nB μ → run d 184 117 [.ref a, .int x, .int (sm (μ.2 27) j), .int (nI j)] [] (put σ a μ) = some (some (.int (sm (μ.2 27) (nB μ))), put σ a μ) := by
  have hb := hC.b
  intro y
  induction y with
  | zero =>
    intro j hj
    have : j = nB μ := by omega
    subst this
    simp [psh_some, psh_none, -Int32.not_lt, -Int32.not_le, q_M_count_117, q_M_count_140, hL, hb.1]
  | succ y ih =>
    intro j hj
    have h1 := ih (j + 1) (by omega)
    have h2 : ¬ nI (nB μ) ≤ nI j := nI_ge (by omega) (by omega)
    have h3 : ix (nI j) 6 = true := ix_of (by omega) (by omega)
    rw [sm, nI_succ] at h1
    simp [psh_some, psh_none, -Int32.not_lt, -Int32.not_le, q_M_count_117, q_M_count_125, hL, hb.1, h2, h3, cl6 (show j < 6 by omega), h1]
theorem cnt8_lp (hL : LM σ a) (hC : Cn μ) (x : Int32) : ∀ y j : Nat, j + y = nS μ → run d 184 144 [.ref a, .int x, .int (sm (μ.2 6) j), .int (nI j)] [] (put σ a μ) = some (some (.int (sm (μ.2 6) (nS μ))), put σ a μ) := by
  have hb := hC.s
  intro y
  induction y with
  | zero =>
    intro j hj
    have : j = nS μ := by omega
    subst this
    simp [psh_some, psh_none, -Int32.not_lt, -Int32.not_le, q_M_count_144, q_M_count_167, hL, hb.1]
  | succ y ih =>
    intro j hj
    have h1 := ih (j + 1) (by omega)
    have h2 : ¬ nI (nS μ) ≤ nI j := nI_ge (by omega) (by omega)
    have h3 : ix (nI j) 12 = true := ix_of (by omega) (by omega)
    rw [sm, nI_succ] at h1
    simp [psh_some, psh_none, -Int32.not_lt, -Int32.not_le, q_M_count_144, q_M_count_152, hL, hb.1, h2, h3, cl12 (show j < 12 by omega), h1]
theorem cnt11_lp (hL : LM σ a) (hC : Cn μ) (x : Int32) : ∀ y j : Nat, j + y = nG μ → run d 184 181 [.ref a, .int x, .int (sm (dl1 μ) j), .int (nI j)] [] (put σ a μ) = some (some (.int (sm (dl1 μ) (nG μ))), put σ a μ) := by
  have hb := hC.g
  intro y
  induction y with
  | zero =>
    intro j hj
    have : j = nG μ := by omega
    subst this
    simp [psh_some, psh_none, -Int32.not_lt, -Int32.not_le, q_M_count_181, q_M_count_213, hL, hb.1]
  | succ y ih =>
    intro j hj
    have h1 := ih (j + 1) (by omega)
    have h2 : ¬ nI (nG μ) ≤ nI j := nI_ge (by omega) (by omega)
    have h3 : ix (nI j) 30 = true := ix_of (by omega) (by omega)
    rw [sm, nI_succ, dl1] at h1
    by_cases z : μ.2 64 j = 2
    · rw [if_pos z] at h1
      simp [psh_some, psh_none, -Int32.not_lt, -Int32.not_le, q_M_count_181, q_M_count_189, q_M_count_200, q_M_count_205, hL, hb.1, h2, h3, cl30 (show j < 30 by omega), z, h1]
    · rw [if_neg z, add_zero'] at h1
      simp [psh_some, psh_none, -Int32.not_lt, -Int32.not_le, q_M_count_181, q_M_count_189, q_M_count_204, q_M_count_205, hL, hb.1, h2, h3, cl30 (show j < 30 by omega), z, h1]
theorem ok_count (x : Int32) : Ok 89 184 [.int x] := by
  refine Ok_of fun d σ c a E S L B G H Q Z w μ hR hLM hX hW => ?_
  have hC := hW.1
  obtain ⟨hF, hz, hRX, hRS, hRL, hRB, hRP, hRG, hRF, hRT, hRK, hRR, hRN⟩ := id hR
  have ks := hC.s.1
  have kl := hC.l.1
  have kf := hC.f.1
  have kb := hC.b.1
  have kg := hC.g.1
  have kk := hC.k.1
  have kt := hC.t.1
  have kr' := hC.r.1
  have l1 := hRX.1
  have l2 := hRX.2.1
  have l3 := hRX.2.2.1
  have l4 := hRX.2.2.2.1
  have hU := hF.ru w
  by_cases c0 : x = 0
  · subst c0
    refine Res.same hR hX hW (v := some (.int (μ.1 1))) ?_ (fun τ μ0 hμ hL => ?_)
    · simp [psh_some, psh_none, -Int32.not_lt, -Int32.not_le, va_rf, vd, vr, isR_r, isR_n, isA_r, isI_i, isI_r, isR_i, ar, akI, akZ, akB, akO, mI_sI, mP_sI, mK_sI, mN_sI, mX_sI, mP_sP, mI_sP, mK_sP, mN_sP, mX_sP, rc_C_count, e_C_count_0, e_C_count_72, fK_1 hF, fK_2 hF, fK_3 hF, fK_4 hF, fK_5 hF, fK_6 hF, fN_6 hF, fK_7 hF, fN_7 hF, fK_8 hF, fN_8 hF, fK_9 hF, fN_9 hF, fK_10 hF, fK_11 hF, fN_11 hF, fK_12 hF, fK_13 hF, fN_13 hF, fK_14 hF, fN_14 hF, fK_15 hF, fN_15 hF, fK_16 hF, fN_16 hF, fP_12_0 hF, fP_12_1 hF, fP_12_2 hF, fP_12_3 hF, fP_12_4 hF, fP_12_5 hF, fP_12_6 hF, fP_12_7 hF, fP_4_0 hF, fP_4_1 hF, fP_4_2 hF, fP_4_3 hF, fP_11_0 hF, fP_7_0 hF, fP_7_1 hF, fP_7_2 hF, hF.cc, hRN.1]
    · simp [psh_some, psh_none, -Int32.not_lt, -Int32.not_le, rc_M_count, q_M_count_0, q_M_count_5, q_M_count_80, hL, hμ]
  by_cases c1 : x = 1
  · subst c1
    refine Res.same hR hX hW (v := some (.int (μ.1 2))) ?_ (fun τ μ0 hμ hL => ?_)
    · simp [psh_some, psh_none, -Int32.not_lt, -Int32.not_le, va_rf, vd, vr, isR_r, isR_n, isA_r, isI_i, isI_r, isR_i, ar, akI, akZ, akB, akO, mI_sI, mP_sI, mK_sI, mN_sI, mX_sI, mP_sP, mI_sP, mK_sP, mN_sP, mX_sP, rc_C_count, e_C_count_0, e_C_count_77, e_C_count_86, fK_1 hF, fK_2 hF, fK_3 hF, fK_4 hF, fK_5 hF, fK_6 hF, fN_6 hF, fK_7 hF, fN_7 hF, fK_8 hF, fN_8 hF, fK_9 hF, fN_9 hF, fK_10 hF, fK_11 hF, fN_11 hF, fK_12 hF, fK_13 hF, fN_13 hF, fK_14 hF, fN_14 hF, fK_15 hF, fN_15 hF, fK_16 hF, fN_16 hF, fP_12_0 hF, fP_12_1 hF, fP_12_2 hF, fP_12_3 hF, fP_12_4 hF, fP_12_5 hF, fP_12_6 hF, fP_12_7 hF, fP_4_0 hF, fP_4_1 hF, fP_4_2 hF, fP_4_3 hF, fP_11_0 hF, fP_7_0 hF, fP_7_1 hF, fP_7_2 hF, hF.cc, c_size _ l1.1, l1.2.1, ks]
    · simp [psh_some, psh_none, -Int32.not_lt, -Int32.not_le, rc_M_count, q_M_count_0, q_M_count_5, q_M_count_85, hL, hμ]
  by_cases c2 : x = 2
  · subst c2
    refine Res.same hR hX hW (v := some (.int (μ.1 7))) ?_ (fun τ μ0 hμ hL => ?_)
    · simp [psh_some, psh_none, -Int32.not_lt, -Int32.not_le, va_rf, vd, vr, isR_r, isR_n, isA_r, isI_i, isI_r, isR_i, ar, akI, akZ, akB, akO, mI_sI, mP_sI, mK_sI, mN_sI, mX_sI, mP_sP, mI_sP, mK_sP, mN_sP, mX_sP, rc_C_count, e_C_count_0, e_C_count_87, e_C_count_96, fK_1 hF, fK_2 hF, fK_3 hF, fK_4 hF, fK_5 hF, fK_6 hF, fN_6 hF, fK_7 hF, fN_7 hF, fK_8 hF, fN_8 hF, fK_9 hF, fN_9 hF, fK_10 hF, fK_11 hF, fN_11 hF, fK_12 hF, fK_13 hF, fN_13 hF, fK_14 hF, fN_14 hF, fK_15 hF, fN_15 hF, fK_16 hF, fN_16 hF, fP_12_0 hF, fP_12_1 hF, fP_12_2 hF, fP_12_3 hF, fP_12_4 hF, fP_12_5 hF, fP_12_6 hF, fP_12_7 hF, fP_4_0 hF, fP_4_1 hF, fP_4_2 hF, fP_4_3 hF, fP_11_0 hF, fP_7_0 hF, fP_7_1 hF, fP_7_2 hF, hF.cc, c_size _ l2.1, l2.2.1, kl]
    · simp [psh_some, psh_none, -Int32.not_lt, -Int32.not_le, rc_M_count, q_M_count_0, q_M_count_5, q_M_count_90, hL, hμ]
  by_cases c3 : x = 3
  · subst c3
    refine Res.same hR hX hW (v := some (.int (μ.1 16))) ?_ (fun τ μ0 hμ hL => ?_)
    · simp [psh_some, psh_none, -Int32.not_lt, -Int32.not_le, va_rf, vd, vr, isR_r, isR_n, isA_r, isI_i, isI_r, isR_i, ar, akI, akZ, akB, akO, mI_sI, mP_sI, mK_sI, mN_sI, mX_sI, mP_sP, mI_sP, mK_sP, mN_sP, mX_sP, rc_C_count, e_C_count_0, e_C_count_97, e_C_count_106, fK_1 hF, fK_2 hF, fK_3 hF, fK_4 hF, fK_5 hF, fK_6 hF, fN_6 hF, fK_7 hF, fN_7 hF, fK_8 hF, fN_8 hF, fK_9 hF, fN_9 hF, fK_10 hF, fK_11 hF, fN_11 hF, fK_12 hF, fK_13 hF, fN_13 hF, fK_14 hF, fN_14 hF, fK_15 hF, fN_15 hF, fK_16 hF, fN_16 hF, fP_12_0 hF, fP_12_1 hF, fP_12_2 hF, fP_12_3 hF, fP_12_4 hF, fP_12_5 hF, fP_12_6 hF, fP_12_7 hF, fP_4_0 hF, fP_4_1 hF, fP_4_2 hF, fP_4_3 hF, fP_11_0 hF, fP_7_0 hF, fP_7_1 hF, fP_7_2 hF, hF.cc, c_size _ l3.1, l3.2.1, kb]
    · simp [psh_some, psh_none, -Int32.not_lt, -Int32.not_le, rc_M_count, q_M_count_0, q_M_count_5, q_M_count_95, hL, hμ]
  by_cases c4 : x = 4
  · subst c4
    refine Res.same hR hX hW (v := some (.int (μ.1 11))) ?_ (fun τ μ0 hμ hL => ?_)
    · simp [psh_some, psh_none, -Int32.not_lt, -Int32.not_le, va_rf, vd, vr, isR_r, isR_n, isA_r, isI_i, isI_r, isR_i, ar, akI, akZ, akB, akO, mI_sI, mP_sI, mK_sI, mN_sI, mX_sI, mP_sP, mI_sP, mK_sP, mN_sP, mX_sP, rc_C_count, e_C_count_0, e_C_count_107, fK_1 hF, fK_2 hF, fK_3 hF, fK_4 hF, fK_5 hF, fK_6 hF, fN_6 hF, fK_7 hF, fN_7 hF, fK_8 hF, fN_8 hF, fK_9 hF, fN_9 hF, fK_10 hF, fK_11 hF, fN_11 hF, fK_12 hF, fK_13 hF, fN_13 hF, fK_14 hF, fN_14 hF, fK_15 hF, fN_15 hF, fK_16 hF, fN_16 hF, fP_12_0 hF, fP_12_1 hF, fP_12_2 hF, fP_12_3 hF, fP_12_4 hF, fP_12_5 hF, fP_12_6 hF, fP_12_7 hF, fP_4_0 hF, fP_4_1 hF, fP_4_2 hF, fP_4_3 hF, fP_11_0 hF, fP_7_0 hF, fP_7_1 hF, fP_7_2 hF, hF.cc, hRF.1]
    · simp [psh_some, psh_none, -Int32.not_lt, -Int32.not_le, rc_M_count, q_M_count_0, q_M_count_5, q_M_count_100, hL, hμ]
  by_cases c5 : x = 5
  · subst c5
    refine Res.same hR hX hW (v := some (.int (μ.1 60))) ?_ (fun τ μ0 hμ hL => ?_)
    · simp [psh_some, psh_none, -Int32.not_lt, -Int32.not_le, va_rf, vd, vr, isR_r, isR_n, isA_r, isI_i, isI_r, isR_i, ar, akI, akZ, akB, akO, mI_sI, mP_sI, mK_sI, mN_sI, mX_sI, mP_sP, mI_sP, mK_sP, mN_sP, mX_sP, rc_C_count, e_C_count_0, e_C_count_115, e_C_count_124, fK_1 hF, fK_2 hF, fK_3 hF, fK_4 hF, fK_5 hF, fK_6 hF, fN_6 hF, fK_7 hF, fN_7 hF, fK_8 hF, fN_8 hF, fK_9 hF, fN_9 hF, fK_10 hF, fK_11 hF, fN_11 hF, fK_12 hF, fK_13 hF, fN_13 hF, fK_14 hF, fN_14 hF, fK_15 hF, fN_15 hF, fK_16 hF, fN_16 hF, fP_12_0 hF, fP_12_1 hF, fP_12_2 hF, fP_12_3 hF, fP_12_4 hF, fP_12_5 hF, fP_12_6 hF, fP_12_7 hF, fP_4_0 hF, fP_4_1 hF, fP_4_2 hF, fP_4_3 hF, fP_11_0 hF, fP_7_0 hF, fP_7_1 hF, fP_7_2 hF, hF.cc, c_size _ l4.1, l4.2.1, kg]
    · simp [psh_some, psh_none, -Int32.not_lt, -Int32.not_le, rc_M_count, q_M_count_0, q_M_count_5, q_M_count_105, hL, hμ]
  by_cases c6 : x = 6
  · subst c6
    refine Res.same hR hX hW (v := some (.int (μ.1 56))) ?_ (fun τ μ0 hμ hL => ?_)
    · simp [psh_some, psh_none, -Int32.not_lt, -Int32.not_le, va_rf, vd, vr, isR_r, isR_n, isA_r, isI_i, isI_r, isR_i, ar, akI, akZ, akB, akO, mI_sI, mP_sI, mK_sI, mN_sI, mX_sI, mP_sP, mI_sP, mK_sP, mN_sP, mX_sP, rc_C_count, e_C_count_0, e_C_count_125, fK_1 hF, fK_2 hF, fK_3 hF, fK_4 hF, fK_5 hF, fK_6 hF, fN_6 hF, fK_7 hF, fN_7 hF, fK_8 hF, fN_8 hF, fK_9 hF, fN_9 hF, fK_10 hF, fK_11 hF, fN_11 hF, fK_12 hF, fK_13 hF, fN_13 hF, fK_14 hF, fN_14 hF, fK_15 hF, fN_15 hF, fK_16 hF, fN_16 hF, fP_12_0 hF, fP_12_1 hF, fP_12_2 hF, fP_12_3 hF, fP_12_4 hF, fP_12_5 hF, fP_12_6 hF, fP_12_7 hF, fP_4_0 hF, fP_4_1 hF, fP_4_2 hF, fP_4_3 hF, fP_11_0 hF, fP_7_0 hF, fP_7_1 hF, fP_7_2 hF, hF.cc, hRK.1]
    · simp [psh_some, psh_none, -Int32.not_lt, -Int32.not_le, rc_M_count, q_M_count_0, q_M_count_5, q_M_count_110, hL, hμ]
  by_cases c7 : x = 7
  · subst c7
    refine Res.same hR hX hW (v := some (.int (sm (μ.2 27) (nB μ)))) ?_ (fun τ μ0 hμ hL => ?_)
    · simp [psh_some, psh_none, -Int32.not_lt, -Int32.not_le, va_rf, vd, vr, isR_r, isR_n, isA_r, isI_i, isI_r, isR_i, ar, akI, akZ, akB, akO, mI_sI, mP_sI, mK_sI, mN_sI, mX_sI, mP_sP, mI_sP, mK_sP, mN_sP, mX_sP, rc_C_count, e_C_count_0, e_C_count_133, e_C_count_137, fK_1 hF, fK_2 hF, fK_3 hF, fK_4 hF, fK_5 hF, fK_6 hF, fN_6 hF, fK_7 hF, fN_7 hF, fK_8 hF, fN_8 hF, fK_9 hF, fN_9 hF, fK_10 hF, fK_11 hF, fN_11 hF, fK_12 hF, fK_13 hF, fN_13 hF, fK_14 hF, fN_14 hF, fK_15 hF, fN_15 hF, fK_16 hF, fN_16 hF, fP_12_0 hF, fP_12_1 hF, fP_12_2 hF, fP_12_3 hF, fP_12_4 hF, fP_12_5 hF, fP_12_6 hF, fP_12_7 hF, fP_4_0 hF, fP_4_1 hF, fP_4_2 hF, fP_4_3 hF, fP_11_0 hF, fP_7_0 hF, fP_7_1 hF, fP_7_2 hF, hF.cc, c_gallons (d + 16) hF hRX hC hRB]
    · have := cnt7_lp (d + 20) hL hC 7 (nB μ) 0 (by omega)
      rw [nI_0, sm] at this
      simp [psh_some, psh_none, -Int32.not_lt, -Int32.not_le, rc_M_count, q_M_count_0, q_M_count_5, q_M_count_115, hL, hμ, this]
  by_cases c8 : x = 8
  · subst c8
    refine Res.same hR hX hW (v := some (.int (sm (μ.2 6) (nS μ)))) ?_ (fun τ μ0 hμ hL => ?_)
    · simp [psh_some, psh_none, -Int32.not_lt, -Int32.not_le, va_rf, vd, vr, isR_r, isR_n, isA_r, isI_i, isI_r, isR_i, ar, akI, akZ, akB, akO, mI_sI, mP_sI, mK_sI, mN_sI, mX_sI, mP_sP, mI_sP, mK_sP, mN_sP, mX_sP, rc_C_count, e_C_count_0, e_C_count_138, e_C_count_142, fK_1 hF, fK_2 hF, fK_3 hF, fK_4 hF, fK_5 hF, fK_6 hF, fN_6 hF, fK_7 hF, fN_7 hF, fK_8 hF, fN_8 hF, fK_9 hF, fN_9 hF, fK_10 hF, fK_11 hF, fN_11 hF, fK_12 hF, fK_13 hF, fN_13 hF, fK_14 hF, fN_14 hF, fK_15 hF, fN_15 hF, fK_16 hF, fN_16 hF, fP_12_0 hF, fP_12_1 hF, fP_12_2 hF, fP_12_3 hF, fP_12_4 hF, fP_12_5 hF, fP_12_6 hF, fP_12_7 hF, fP_4_0 hF, fP_4_1 hF, fP_4_2 hF, fP_4_3 hF, fP_11_0 hF, fP_7_0 hF, fP_7_1 hF, fP_7_2 hF, hF.cc, c_drumsAll (d + 16) hF hRX hC hRS]
    · have := cnt8_lp (d + 20) hL hC 8 (nS μ) 0 (by omega)
      rw [nI_0, sm] at this
      simp [psh_some, psh_none, -Int32.not_lt, -Int32.not_le, rc_M_count, q_M_count_0, q_M_count_5, q_M_count_142, hL, hμ, this]
  by_cases c9 : x = 9
  · subst c9
    refine Res.same hR hX hW (v := some (.int (μ.1 37))) ?_ (fun τ μ0 hμ hL => ?_)
    · simp [psh_some, psh_none, -Int32.not_lt, -Int32.not_le, va_rf, vd, vr, isR_r, isR_n, isA_r, isI_i, isI_r, isR_i, ar, akI, akZ, akB, akO, mI_sI, mP_sI, mK_sI, mN_sI, mX_sI, mP_sP, mI_sP, mK_sP, mN_sP, mX_sP, rc_C_count, e_C_count_0, e_C_count_143, fK_1 hF, fK_2 hF, fK_3 hF, fK_4 hF, fK_5 hF, fK_6 hF, fN_6 hF, fK_7 hF, fN_7 hF, fK_8 hF, fN_8 hF, fK_9 hF, fN_9 hF, fK_10 hF, fK_11 hF, fN_11 hF, fK_12 hF, fK_13 hF, fN_13 hF, fK_14 hF, fN_14 hF, fK_15 hF, fN_15 hF, fK_16 hF, fN_16 hF, fP_12_0 hF, fP_12_1 hF, fP_12_2 hF, fP_12_3 hF, fP_12_4 hF, fP_12_5 hF, fP_12_6 hF, fP_12_7 hF, fP_4_0 hF, fP_4_1 hF, fP_4_2 hF, fP_4_3 hF, fP_11_0 hF, fP_7_0 hF, fP_7_1 hF, fP_7_2 hF, hF.cc, hRN.2.1]
    · simp [psh_some, psh_none, -Int32.not_lt, -Int32.not_le, rc_M_count, q_M_count_0, q_M_count_5, q_M_count_169, hL, hμ]
  by_cases c10 : x = 10
  · subst c10
    refine Res.same hR hX hW (v := some (.int (μ.1 38))) ?_ (fun τ μ0 hμ hL => ?_)
    · simp [psh_some, psh_none, -Int32.not_lt, -Int32.not_le, va_rf, vd, vr, isR_r, isR_n, isA_r, isI_i, isI_r, isR_i, ar, akI, akZ, akB, akO, mI_sI, mP_sI, mK_sI, mN_sI, mX_sI, mP_sP, mI_sP, mK_sP, mN_sP, mX_sP, rc_C_count, e_C_count_0, e_C_count_148, fK_1 hF, fK_2 hF, fK_3 hF, fK_4 hF, fK_5 hF, fK_6 hF, fN_6 hF, fK_7 hF, fN_7 hF, fK_8 hF, fN_8 hF, fK_9 hF, fN_9 hF, fK_10 hF, fK_11 hF, fN_11 hF, fK_12 hF, fK_13 hF, fN_13 hF, fK_14 hF, fN_14 hF, fK_15 hF, fN_15 hF, fK_16 hF, fN_16 hF, fP_12_0 hF, fP_12_1 hF, fP_12_2 hF, fP_12_3 hF, fP_12_4 hF, fP_12_5 hF, fP_12_6 hF, fP_12_7 hF, fP_4_0 hF, fP_4_1 hF, fP_4_2 hF, fP_4_3 hF, fP_11_0 hF, fP_7_0 hF, fP_7_1 hF, fP_7_2 hF, hF.cc, hRN.2.2.1]
    · simp [psh_some, psh_none, -Int32.not_lt, -Int32.not_le, rc_M_count, q_M_count_0, q_M_count_5, q_M_count_174, hL, hμ]
  by_cases c11 : x = 11
  · subst c11
    refine Res.same hR hX hW (v := some (.int (sm (dl1 μ) (nG μ)))) ?_ (fun τ μ0 hμ hL => ?_)
    · simp [psh_some, psh_none, -Int32.not_lt, -Int32.not_le, va_rf, vd, vr, isR_r, isR_n, isA_r, isI_i, isI_r, isR_i, ar, akI, akZ, akB, akO, mI_sI, mP_sI, mK_sI, mN_sI, mX_sI, mP_sP, mI_sP, mK_sP, mN_sP, mX_sP, rc_C_count, e_C_count_0, e_C_count_153, fK_1 hF, fK_2 hF, fK_3 hF, fK_4 hF, fK_5 hF, fK_6 hF, fN_6 hF, fK_7 hF, fN_7 hF, fK_8 hF, fN_8 hF, fK_9 hF, fN_9 hF, fK_10 hF, fK_11 hF, fN_11 hF, fK_12 hF, fK_13 hF, fN_13 hF, fK_14 hF, fN_14 hF, fK_15 hF, fN_15 hF, fK_16 hF, fN_16 hF, fP_12_0 hF, fP_12_1 hF, fP_12_2 hF, fP_12_3 hF, fP_12_4 hF, fP_12_5 hF, fP_12_6 hF, fP_12_7 hF, fP_4_0 hF, fP_4_1 hF, fP_4_2 hF, fP_4_3 hF, fP_11_0 hF, fP_7_0 hF, fP_7_1 hF, fP_7_2 hF, hF.cc, hRN.2.2.2]
    · have := cnt11_lp (d + 20) hL hC 11 (nG μ) 0 (by omega)
      rw [nI_0, sm] at this
      simp [psh_some, psh_none, -Int32.not_lt, -Int32.not_le, rc_M_count, q_M_count_0, q_M_count_5, q_M_count_179, hL, hμ, this]
  by_cases c12 : x = 12
  · subst c12
    refine Res.same hR hX hW (v := some (.int (μ.1 40))) ?_ (fun τ μ0 hμ hL => ?_)
    · simp [psh_some, psh_none, -Int32.not_lt, -Int32.not_le, va_rf, vd, vr, isR_r, isR_n, isA_r, isI_i, isI_r, isR_i, ar, akI, akZ, akB, akO, mI_sI, mP_sI, mK_sI, mN_sI, mX_sI, mP_sP, mI_sP, mK_sP, mN_sP, mX_sP, rc_C_count, e_C_count_0, e_C_count_158, fK_1 hF, fK_2 hF, fK_3 hF, fK_4 hF, fK_5 hF, fK_6 hF, fN_6 hF, fK_7 hF, fN_7 hF, fK_8 hF, fN_8 hF, fK_9 hF, fN_9 hF, fK_10 hF, fK_11 hF, fN_11 hF, fK_12 hF, fK_13 hF, fN_13 hF, fK_14 hF, fN_14 hF, fK_15 hF, fN_15 hF, fK_16 hF, fN_16 hF, fP_12_0 hF, fP_12_1 hF, fP_12_2 hF, fP_12_3 hF, fP_12_4 hF, fP_12_5 hF, fP_12_6 hF, fP_12_7 hF, fP_4_0 hF, fP_4_1 hF, fP_4_2 hF, fP_4_3 hF, fP_11_0 hF, fP_7_0 hF, fP_7_1 hF, fP_7_2 hF, hF.cc, hRT.1]
    · simp [psh_some, psh_none, -Int32.not_lt, -Int32.not_le, rc_M_count, q_M_count_0, q_M_count_5, q_M_count_215, hL, hμ]
  by_cases c13 : x = 13
  · subst c13
    refine Res.same hR hX hW (v := some (.int (μ.1 41))) ?_ (fun τ μ0 hμ hL => ?_)
    · simp [psh_some, psh_none, -Int32.not_lt, -Int32.not_le, va_rf, vd, vr, isR_r, isR_n, isA_r, isI_i, isI_r, isR_i, ar, akI, akZ, akB, akO, mI_sI, mP_sI, mK_sI, mN_sI, mX_sI, mP_sP, mI_sP, mK_sP, mN_sP, mX_sP, rc_C_count, e_C_count_0, e_C_count_166, fK_1 hF, fK_2 hF, fK_3 hF, fK_4 hF, fK_5 hF, fK_6 hF, fN_6 hF, fK_7 hF, fN_7 hF, fK_8 hF, fN_8 hF, fK_9 hF, fN_9 hF, fK_10 hF, fK_11 hF, fN_11 hF, fK_12 hF, fK_13 hF, fN_13 hF, fK_14 hF, fN_14 hF, fK_15 hF, fN_15 hF, fK_16 hF, fN_16 hF, fP_12_0 hF, fP_12_1 hF, fP_12_2 hF, fP_12_3 hF, fP_12_4 hF, fP_12_5 hF, fP_12_6 hF, fP_12_7 hF, fP_4_0 hF, fP_4_1 hF, fP_4_2 hF, fP_4_3 hF, fP_11_0 hF, fP_7_0 hF, fP_7_1 hF, fP_7_2 hF, hF.cc, hRR.1, hU.1, hRR.2.2.1]
    · simp [psh_some, psh_none, -Int32.not_lt, -Int32.not_le, rc_M_count, q_M_count_0, q_M_count_5, q_M_count_220, hL, hμ]
  refine Res.same hR hX hW (v := some (.int (-1))) ?_ (fun τ μ0 hμ hL => ?_)
  · simp [psh_some, psh_none, -Int32.not_lt, -Int32.not_le, va_rf, vd, vr, isR_r, isR_n, isA_r, isI_i, isI_r, isR_i, ar, akI, akZ, akB, akO, mI_sI, mP_sI, mK_sI, mN_sI, mX_sI, mP_sP, mI_sP, mK_sP, mN_sP, mX_sP, rc_C_count, e_C_count_0, e_C_count_174, fK_1 hF, fK_2 hF, fK_3 hF, fK_4 hF, fK_5 hF, fK_6 hF, fN_6 hF, fK_7 hF, fN_7 hF, fK_8 hF, fN_8 hF, fK_9 hF, fN_9 hF, fK_10 hF, fK_11 hF, fN_11 hF, fK_12 hF, fK_13 hF, fN_13 hF, fK_14 hF, fN_14 hF, fK_15 hF, fN_15 hF, fK_16 hF, fN_16 hF, fP_12_0 hF, fP_12_1 hF, fP_12_2 hF, fP_12_3 hF, fP_12_4 hF, fP_12_5 hF, fP_12_6 hF, fP_12_7 hF, fP_4_0 hF, fP_4_1 hF, fP_4_2 hF, fP_4_3 hF, fP_11_0 hF, fP_7_0 hF, fP_7_1 hF, fP_7_2 hF, hF.cc, c0, c1, c2, c3, c4, c5, c6, c7, c8, c9, c10, c11, c12, c13]
  · simp [psh_some, psh_none, -Int32.not_lt, -Int32.not_le, rc_M_count, q_M_count_0, q_M_count_5, q_M_count_225, hL, hμ, c0, c1, c2, c3, c4, c5, c6, c7, c8, c9, c10, c11, c12, c13]
/-- the bags aboard of all found too heavy; of those found right; is there one -/
def sa (μ : Ms) : Nat → Int32 × Int32 × Int32
  | 0 => (-1, 0, 0)
  | j + 1 => if μ.2 59 j = -1 then sa μ j else if μ.2 59 j < μ.2 57 j + 100 then ((sa μ j).1, (sa μ j).2.1 ||| μ.2 58 j, (sa μ j).2.2) else ((sa μ j).1 &&& μ.2 58 j, (sa μ j).2.1, 1)
theorem m1_and (x : Int32) : -1 &&& x = x := b_ext fun i hi => by rw [b_and, b_m1 i hi, Bool.true_and]
theorem sa_any (hK : ∀ l, l < nK μ → btI (μ.2 58 l) 31 = false) : ∀ j, j ≤ nK μ → ((sa μ j).2.2 = 0 ∧ (sa μ j).1 = -1) ∨ ((sa μ j).2.2 = 1 ∧ ¬ (sa μ j).1 = -1) := by
  intro j
  induction j with
  | zero => intro _; exact Or.inl ⟨rfl, rfl⟩
  | succ j ih =>
    intro hj
    have h := ih (by omega)
    rw [sa]
    split
    · exact h
    · split
      · exact h
      · refine Or.inr ⟨rfl, fun z => ?_⟩
        have := congrArg (fun x => btI x 31) z
        simp only [b_and, hK j (by omega), Bool.and_false, b_m1 31 (by omega)] at this
        cases this
theorem sus_lpC (hF : FL σ c) (hC : Cn μ) (hK : RK σ c μ) : ∀ y j : Nat, j + y = nK μ → run (d + 1) 26 9 [.ref (c + 12), .int (sa μ j).1, .int (sa μ j).2.1, .int (sa μ j).2.2, .int (nI j)] [] σ = some (some (.int (if (sa μ (nK μ)).2.2 = 0 then 0 else (sa μ (nK μ)).1 &&& ((sa μ (nK μ)).2.1 ^^^ -1))), σ) := by
  have hk := hC.k
  intro y
  induction y with
  | zero =>
    intro j hj
    have : j = nK μ := by omega
    subst this
    by_cases z : (sa μ (nK μ)).2.2 = 0 <;> simp [psh_some, psh_none, -Int32.not_lt, -Int32.not_le, va_rf, vd, vr, isR_r, isR_n, isA_r, isI_i, isI_r, isR_i, ar, akI, akZ, akB, akO, mI_sI, mP_sI, mK_sI, mN_sI, mX_sI, mP_sP, mI_sP, mK_sP, mN_sP, mX_sP, e_LiftLog_suspectBags_9, e_LiftLog_suspectBags_88, e_LiftLog_suspectBags_92, e_LiftLog_suspectBags_100, e_LiftLog_suspectBags_101, fK_1 hF, fK_2 hF, fK_3 hF, fK_4 hF, fK_5 hF, fK_6 hF, fN_6 hF, fK_7 hF, fN_7 hF, fK_8 hF, fN_8 hF, fK_9 hF, fN_9 hF, fK_10 hF, fK_11 hF, fN_11 hF, fK_12 hF, fK_13 hF, fN_13 hF, fK_14 hF, fN_14 hF, fK_15 hF, fN_15 hF, fK_16 hF, fN_16 hF, fP_12_0 hF, fP_12_1 hF, fP_12_2 hF, fP_12_3 hF, fP_12_4 hF, fP_12_5 hF, fP_12_6 hF, fP_12_7 hF, fP_4_0 hF, fP_4_1 hF, fP_4_2 hF, fP_4_3 hF, fP_11_0 hF, fP_7_0 hF, fP_7_1 hF, fP_7_2 hF, hF.cc, hK.1, hk.1, z]
  | succ y ih =>
    intro j hj
    have h1 := ih (j + 1) (by omega)
    have h2 : ¬ nI (nK μ) ≤ nI j := nI_ge (by omega) (by omega)
    have h3 : ¬ (200 : Int32) ≤ nI j := nI_ge (b := 200) (by omega) (by omega)
    have h4 : ix (nI j) 200 = true := ix_of (by omega) (by omega)
    have cj := cl1000 (show j < 1000 by omega)
    have r1 := hK.2 j (by omega)
    rw [sa, nI_succ] at h1
    by_cases z1 : μ.2 59 j = -1
    · rw [if_pos z1] at h1
      simp [psh_some, psh_none, -Int32.not_lt, -Int32.not_le, va_rf, vd, vr, isR_r, isR_n, isA_r, isI_i, isI_r, isR_i, ar, akI, akZ, akB, akO, mI_sI, mP_sI, mK_sI, mN_sI, mX_sI, mP_sP, mI_sP, mK_sP, mN_sP, mX_sP, e_LiftLog_suspectBags_9, e_LiftLog_suspectBags_18, e_LiftLog_suspectBags_26, e_LiftLog_suspectBags_61, e_LiftLog_suspectBags_82, fK_1 hF, fK_2 hF, fK_3 hF, fK_4 hF, fK_5 hF, fK_6 hF, fN_6 hF, fK_7 hF, fN_7 hF, fK_8 hF, fN_8 hF, fK_9 hF, fN_9 hF, fK_10 hF, fK_11 hF, fN_11 hF, fK_12 hF, fK_13 hF, fN_13 hF, fK_14 hF, fN_14 hF, fK_15 hF, fN_15 hF, fK_16 hF, fN_16 hF, fP_12_0 hF, fP_12_1 hF, fP_12_2 hF, fP_12_3 hF, fP_12_4 hF, fP_12_5 hF, fP_12_6 hF, fP_12_7 hF, fP_4_0 hF, fP_4_1 hF, fP_4_2 hF, fP_4_3 hF, fP_11_0 hF, fP_7_0 hF, fP_7_1 hF, fP_7_2 hF, hF.cc, hK.1, hk.1, h2, h3, h4, cj, r1, z1, h1]
    · rw [if_neg z1] at h1
      by_cases z2 : μ.2 59 j < μ.2 57 j + 100
      · rw [if_pos z2] at h1
        simp [psh_some, psh_none, -Int32.not_lt, -Int32.not_le, va_rf, vd, vr, isR_r, isR_n, isA_r, isI_i, isI_r, isR_i, ar, akI, akZ, akB, akO, mI_sI, mP_sI, mK_sI, mN_sI, mX_sI, mP_sP, mI_sP, mK_sP, mN_sP, mX_sP, e_LiftLog_suspectBags_9, e_LiftLog_suspectBags_18, e_LiftLog_suspectBags_26, e_LiftLog_suspectBags_37, e_LiftLog_suspectBags_43, e_LiftLog_suspectBags_61, e_LiftLog_suspectBags_72, e_LiftLog_suspectBags_82, rc_LiftLog_isExcess, e_LiftLog_isExcess_0, e_LiftLog_isExcess_18, e_LiftLog_isExcess_22, e_LiftLog_isExcess_23, fK_1 hF, fK_2 hF, fK_3 hF, fK_4 hF, fK_5 hF, fK_6 hF, fN_6 hF, fK_7 hF, fN_7 hF, fK_8 hF, fN_8 hF, fK_9 hF, fN_9 hF, fK_10 hF, fK_11 hF, fN_11 hF, fK_12 hF, fK_13 hF, fN_13 hF, fK_14 hF, fN_14 hF, fK_15 hF, fN_15 hF, fK_16 hF, fN_16 hF, fP_12_0 hF, fP_12_1 hF, fP_12_2 hF, fP_12_3 hF, fP_12_4 hF, fP_12_5 hF, fP_12_6 hF, fP_12_7 hF, fP_4_0 hF, fP_4_1 hF, fP_4_2 hF, fP_4_3 hF, fP_11_0 hF, fP_7_0 hF, fP_7_1 hF, fP_7_2 hF, hF.cc, hK.1, hk.1, h2, h3, h4, cj, r1, z1, z2, h1]
      · rw [if_neg z2] at h1
        simp [psh_some, psh_none, -Int32.not_lt, -Int32.not_le, va_rf, vd, vr, isR_r, isR_n, isA_r, isI_i, isI_r, isR_i, ar, akI, akZ, akB, akO, mI_sI, mP_sI, mK_sI, mN_sI, mX_sI, mP_sP, mI_sP, mK_sP, mN_sP, mX_sP, e_LiftLog_suspectBags_9, e_LiftLog_suspectBags_18, e_LiftLog_suspectBags_26, e_LiftLog_suspectBags_37, e_LiftLog_suspectBags_43, e_LiftLog_suspectBags_46, e_LiftLog_suspectBags_82, rc_LiftLog_isExcess, e_LiftLog_isExcess_0, e_LiftLog_isExcess_18, e_LiftLog_isExcess_22, e_LiftLog_isExcess_23, fK_1 hF, fK_2 hF, fK_3 hF, fK_4 hF, fK_5 hF, fK_6 hF, fN_6 hF, fK_7 hF, fN_7 hF, fK_8 hF, fN_8 hF, fK_9 hF, fN_9 hF, fK_10 hF, fK_11 hF, fN_11 hF, fK_12 hF, fK_13 hF, fN_13 hF, fK_14 hF, fN_14 hF, fK_15 hF, fN_15 hF, fK_16 hF, fN_16 hF, fP_12_0 hF, fP_12_1 hF, fP_12_2 hF, fP_12_3 hF, fP_12_4 hF, fP_12_5 hF, fP_12_6 hF, fP_12_7 hF, fP_4_0 hF, fP_4_1 hF, fP_4_2 hF, fP_4_3 hF, fP_11_0 hF, fP_7_0 hF, fP_7_1 hF, fP_7_2 hF, hF.cc, hK.1, hk.1, h2, h3, h4, cj, r1, z1, z2, h1]
theorem sus_lpM (hL : LM σ a) (hC : Cn μ) (hK : ∀ l, l < nK μ → btI (μ.2 58 l) 31 = false) : ∀ y j : Nat, j + y = nK μ → run (d + 1) 180 11 [.ref a, .int (sa μ j).1, .int (sa μ j).2.1, .int (nI j)] [] (put σ a μ) = some (some (.int (if (sa μ (nK μ)).2.2 = 0 then 0 else (sa μ (nK μ)).1 &&& ((sa μ (nK μ)).2.1 ^^^ -1))), put σ a μ) := by
  have hk := hC.k
  intro y
  induction y with
  | zero =>
    intro j hj
    have : j = nK μ := by omega
    subst this
    rcases sa_any hK (nK μ) (Nat.le_refl _) with ⟨z1, z2⟩ | ⟨z1, z2⟩ <;> simp [psh_some, psh_none, -Int32.not_lt, -Int32.not_le, q_M_suspects_11, q_M_suspects_81, q_M_suspects_86, q_M_suspects_90, q_M_suspects_95, hL, hk.1, z1, z2]
  | succ y ih =>
    intro j hj
    have h1 := ih (j + 1) (by omega)
    have h2 : ¬ nI (nK μ) ≤ nI j := nI_ge (by omega) (by omega)
    have h4 : ix (nI j) 200 = true := ix_of (by omega) (by omega)
    have cj := cl1000 (show j < 1000 by omega)
    have em := m_isExcess (μ := μ) d hL (show j < 200 by omega)
    rw [sa, nI_succ] at h1
    by_cases z1 : μ.2 59 j = -1
    · rw [if_pos z1] at h1
      simp [psh_some, psh_none, -Int32.not_lt, -Int32.not_le, q_M_suspects_11, q_M_suspects_19, q_M_suspects_29, q_M_suspects_75, hL, hk.1, h2, h4, cj, z1, h1]
    · rw [if_neg z1] at h1
      by_cases z2 : μ.2 59 j < μ.2 57 j + 100
      · rw [if_pos z2] at h1
        simp [psh_some, psh_none, -Int32.not_lt, -Int32.not_le, q_M_suspects_11, q_M_suspects_19, q_M_suspects_32, q_M_suspects_37, q_M_suspects_66, q_M_suspects_75, hL, hk.1, h2, h4, cj, z1, z2, em, bZ, h1]
      · rw [if_neg z2] at h1
        by_cases z3 : (sa μ j).1 = -1
        · rw [z3, m1_and] at h1
          simp [psh_some, psh_none, -Int32.not_lt, -Int32.not_le, q_M_suspects_11, q_M_suspects_19, q_M_suspects_32, q_M_suspects_37, q_M_suspects_40, q_M_suspects_45, q_M_suspects_62, q_M_suspects_75, hL, hk.1, h2, h4, cj, z1, z2, z3, em, bZ, h1]
        · simp [psh_some, psh_none, -Int32.not_lt, -Int32.not_le, q_M_suspects_11, q_M_suspects_19, q_M_suspects_32, q_M_suspects_37, q_M_suspects_40, q_M_suspects_54, q_M_suspects_62, q_M_suspects_75, hL, hk.1, h2, h4, cj, z1, z2, z3, em, bZ, h1]
theorem ok_suspects : Ok 87 180 [] := by
  refine Ok_of fun d σ c a E S L B G H Q Z w μ hR hLM hX hW => ?_
  have hC := hW.1
  obtain ⟨hF, hz, hRX, hRS, hRL, hRB, hRP, hRG, hRF, hRT, hRK, hRR, hRN⟩ := id hR
  refine Res.same hR hX hW (v := some (.int (if (sa μ (nK μ)).2.2 = 0 then 0 else (sa μ (nK μ)).1 &&& ((sa μ (nK μ)).2.1 ^^^ -1)))) ?_ (fun τ μ0 hμ hL => ?_)
  · have h := sus_lpC (d + 18) hF hC hRK (nK μ) 0 (by omega)
    rw [nI_0] at h
    simp only [sa] at h
    simp [psh_some, psh_none, -Int32.not_lt, -Int32.not_le, va_rf, vd, vr, isR_r, isR_n, isA_r, isI_i, isI_r, isR_i, ar, akI, akZ, akB, akO, mI_sI, mP_sI, mK_sI, mN_sI, mX_sI, mP_sP, mI_sP, mK_sP, mN_sP, mX_sP, rc_C_suspects, e_C_suspects_0, e_C_suspects_7, rc_LiftLog_suspectBags, e_LiftLog_suspectBags_0, fK_1 hF, fK_2 hF, fK_3 hF, fK_4 hF, fK_5 hF, fK_6 hF, fN_6 hF, fK_7 hF, fN_7 hF, fK_8 hF, fN_8 hF, fK_9 hF, fN_9 hF, fK_10 hF, fK_11 hF, fN_11 hF, fK_12 hF, fK_13 hF, fN_13 hF, fK_14 hF, fN_14 hF, fK_15 hF, fN_15 hF, fK_16 hF, fN_16 hF, fP_12_0 hF, fP_12_1 hF, fP_12_2 hF, fP_12_3 hF, fP_12_4 hF, fP_12_5 hF, fP_12_6 hF, fP_12_7 hF, fP_4_0 hF, fP_4_1 hF, fP_4_2 hF, fP_4_3 hF, fP_11_0 hF, fP_7_0 hF, fP_7_1 hF, fP_7_2 hF, hF.cc, h]
  · have h := sus_lpM (d + 19) hL hC hW.2.2.2.2.2.2.2.2.1 (nK μ) 0 (by omega)
    rw [nI_0] at h
    simp only [sa] at h
    simp [psh_some, psh_none, -Int32.not_lt, -Int32.not_le, rc_M_suspects, q_M_suspects_0, q_M_suspects_5, hL, hμ, h]
end O52
