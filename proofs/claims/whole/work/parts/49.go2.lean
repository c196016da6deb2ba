/-! ===== LANDING, A MINUTE OF A BOAT ===== -/
section O49
variable {σ σ' : Mm} {c : Nat} {E S L B G H Q : Nat → Nat} {Z : Nat → List Nat} {w : Bool} {μ μ' : Ms} (d : Nat)
theorem dvu_N2 {x y : Nat} (hx : x ≤ 1000000000) (hy : 1 ≤ y) (hy2 : y ≤ 1000000) : dvu (nI x) (nI y) = nI ((x + y - 1) / y) := by
  unfold dvu
  rw [nI_add, show (1 : Int32) = nI 1 from rfl, pk_sub (by omega), pk_div (by omega) (by omega) (by omega)]
theorem c_night (x : Int32) : runc d 112 [.int x] σ = some (some (.int (niB x)), σ) := by
  by_cases h1 : x / 60 - x / 60 / 24 * 24 < 6 <;> by_cases h2 : x / 60 - x / 60 / 24 * 24 < 18 <;> simp [psh_some, psh_none, -Int32.not_lt, -Int32.not_le, h1, h2, niB, rc_C_isNight, e_C_isNight_0, e_C_isNight_14, e_C_isNight_20, e_C_isNight_24, e_C_isNight_25]
theorem RC_fl2 {k : Nat} (hR : RC σ c E S L B G H Q Z w μ) (hX : Kx σ) (hC : Cn μ) (hk : k < nB μ) : RC (sI (sI σ 3 (B k) 8 (μ.2 28 k + 1)) 3 (B k) 12 (μ.2 33 k + 1)) c E S L B G H Q Z w (fl2 μ k) := by
  obtain ⟨hF, hz, hRX, hRS, hRL, hRB, hRP, hRG, hRF, hRT, hRK, hRR, hRN⟩ := id hR
  have hs : Sm (tk [3]) σ (sI (sI σ 3 (B k) 8 (μ.2 28 k + 1)) 3 (B k) 12 (μ.2 33 k + 1)) := SmsI (SmsI (Sm.rfl' σ) rfl _ _ _) rfl _ _ _
  obtain ⟨a0, a1, a2, a3, a4, a5, a6, a7, a8, a9, a10, a11, a12, a13, a14, a15⟩ := (hRB k hk).1
  refine ⟨hF.fr hX hs (by rintro q (rfl | rfl | rfl | rfl | rfl) <;> rfl), hz.fr hs rfl, hRX.fr hz hX hs rfl rfl rfl rfl rfl rfl rfl, hRS.fr hX hs rfl rfl rfl rfl rfl rfl rfl rfl rfl, hRL.fr hX hs rfl rfl rfl rfl rfl, ?_, RP_eq hRP (fun q => by simp [mI_sI]) (fun q => by simp [mI_sI]) rfl rfl (Ar_of (by repeat' constructor)), hRG.fr hX hs rfl rfl rfl (Ar_of (by repeat' constructor)), hRF.fr hF hX hs rfl rfl rfl rfl rfl rfl (Ar_of (by repeat' constructor)), hRT.fr hF hX hs rfl rfl rfl rfl, hRK.fr hF hX hs rfl rfl rfl rfl rfl (Ar_of (by repeat' constructor)), hRR.fr hF hX hs rfl (by rintro q (rfl | rfl | rfl | rfl | rfl | rfl | rfl | rfl) <;> rfl) rfl (Ar_of (by repeat' constructor)), hRN.fr hF hX hs rfl rfl rfl rfl rfl rfl⟩
  refine RB_upd hRB hC hk rfl (fun j hj f => by simp [mI_sI, hj]) (fun j hj f => rfl) (fun q f => by simp [mI_sI]) rfl rfl (fun f _ _ j hj => by simp [fl2, fA_2, hj]) (fun f h1 h2 => by have e1 : f ≠ 28 := (by omega); have e2 : f ≠ 33 := (by omega); simp [fl2, fA_2, e1, e2]) ?_
  simp +contextual [RB1, aT, wH, fl2, mI_sI, mP_sI, mK_sI, fA_2, fA_1, a0, a1, a2, a3, a6, a7, a8, a9, a10, a11, a12, a13, a14, a15]
  exact ⟨a4, a5⟩
theorem Wf_fl2 {k : Nat} (hW : Wf μ) (hk : k < nB μ) (he : ∃ e, e + 1 ≤ nW μ ∧ μ.2 33 k = nI e) : Wf (fl2 μ k) := by
  obtain ⟨hC, hWS, hWL, hWB, hWG, hWF, hWT, hWR, hWK⟩ := hW
  obtain ⟨e, he1, he2⟩ := he
  refine ⟨hC, WS_eq hWS rfl (Ar_of (by repeat' constructor)) (fun s hs => rfl), hWL, WB_upd hWB hk rfl rfl (fun f _ _ j hj => by simp [fl2, fA_2, hj]) (hWB.1 k hk), WG_eq hWG rfl rfl rfl (Ar_of (by repeat' constructor)), hWF, hWT, hWR, hWK.1, fun j hj => ?_⟩
  by_cases z : j = k
  · subst z
    exact ⟨e + 1, he1, by simp [fl2, fA_2, he2, nI_succ]⟩
  · obtain ⟨e', h1, h2⟩ := hWK.2 j hj
    exact ⟨e', h1, by simp [fl2, fA_2, z, h2]⟩
theorem cLd_free {k s : Nat} (h : cLd μ k s = true) : ¬ frA μ s ≤ 0 := (of_decide_eq_true h).1
theorem c_land {k : Nat} (hR : RC σ c E S L B G H Q Z w μ) (hX : Kx σ) (hW : Wf μ) (hk : k < nB μ) (h1 : μ.2 24 k = 1) (hfr : ¬ frA μ (aT μ k) ≤ 0) (hfu : dvu (μ.2 20 k * μ.2 33 k) 60 ≤ μ.2 27 k) : ∃ σ', runc (d + 1) 105 [.ref c, .ref (B k), .int (dvu (μ.2 20 k * μ.2 33 k) 60)] σ = some (none, σ') ∧ Spq [3, 10, 12] σ c E S L B G H Q Z w σ' (fld μ k) ∧ Wf (fld μ k) := by
  obtain ⟨hF, hz, hRX, hRS, hRL, hRB, hRP, hRG, hRF, hRT, hRK, hRR, hRN⟩ := id hR
  have hC := hW.1
  have hb := hC.b
  have hs12 := hC.s.2
  have i4 : ix (nI k) 6 = true := ix_of (by omega) (by omega); have ck := cl6 (show k < 6 by omega); have j1 := is_ix hk (show nB μ ≤ 1000 by omega); obtain ⟨a0, a1, a2, a3, a4, a5, a6, a7, a8, a9, a10, a11, a12, a13, a14, a15⟩ := (hRB k hk).1; have hh := (hRB k hk).2; obtain ⟨u0, u1, u2, u3, u4, u5, u6, u7⟩ := (hRB k hk).2; obtain ⟨b0, b1, b2, b3, b4, b5, b6, b7, b8, b9, b10, b11, b12⟩ := hW.2.2.2.1.1 k hk; have hS := hRS _ b0.2; have i5 : ix (nI (aT μ k)) 12 = true := ix_of (by omega) (by omega); have ca := cl12 (show aT μ k < 12 by omega)
  obtain ⟨bb, bb1, bb2, bb3⟩ := b4
  obtain ⟨t, f, t1, t2, t3, t4, t5⟩ := b5
  obtain ⟨e, he1, he2⟩ := hW.2.2.2.2.2.2.2.2.2 k hk
  have hw := hC.w.2
  have hbe : bb * e ≤ 300 * 143999 := Nat.mul_le_mul bb2 (by omega)
  have hg : dvu (μ.2 20 k * μ.2 33 k) 60 = nI ((bb * e + 60 - 1) / 60) := by
    rw [bb3, he2, pk_mul, show (60 : Int32) = nI 60 from rfl, dvu_N2 (by omega) (by omega) (by omega)]
  have hgl : (bb * e + 60 - 1) / 60 < 2 ^ 31 := by omega
  generalize (bb * e + 60 - 1) / 60 = g at hg hgl
  have e0 : ¬ μ.2 24 k = 0 := by rw [h1]; decide
  obtain ⟨fr, fr4, hfr2⟩ := (hW.2.1.1 _ b0.2).2.2.2.2
  have hfr1 : 1 ≤ fr := by
    rw [hfr2, show (0 : Int32) = nI 0 from rfl, nI_leI (by omega) (by omega)] at hfr
    omega
  have hfr' := hfr2
  unfold frA at hfr'
  generalize hgg : dvu (μ.2 20 k * μ.2 33 k) 60 = gg at *
  have hge : g ≤ f := by
    rw [hg, t5, nI_leI hgl (by omega)] at hfu
    exact hfu
  have hs : Sm (tk [3, 10, 12]) σ (sI (sI (sI (sI σ 12 c 11 (μ.1 37 + gg)) 3 (B k) 5 (μ.2 27 k - gg)) 3 (B k) 2 0) 10 (S (aT μ k)) 5 (sm (mo1 μ (nI (aT μ k))) (nB μ) + 1)) := SmsI (SmsI (SmsI (SmsI (Sm.rfl' σ) rfl _ _ _) rfl _ _ _) rfl _ _ _) rfl _ _ _
  have efl : fld μ k = fF (fA (fA μ 24 k 0) 27 k (μ.2 27 k - gg)) 37 (μ.1 37 + gg) := by unfold fld; rw [hgg]
  rw [efl]
  obtain ⟨hRS', hmo⟩ := RS_moor (σ' := sI (sI (sI (sI σ 12 c 11 (μ.1 37 + gg)) 3 (B k) 5 (μ.2 27 k - gg)) 3 (B k) 2 0) 10 (S (aT μ k)) 5 (sm (mo1 μ (nI (aT μ k))) (nB μ) + 1)) (μ' := fF (fA (fA μ 24 k 0) 27 k (μ.2 27 k - gg)) 37 (μ.1 37 + gg)) hRS hC hk b0.2 rfl (fun q f hq => by
    rw [mI_sI, if_neg (by omega), mI_sI, if_neg (by omega), mI_sI, if_neg (by omega), mI_sI, if_neg (by omega)]) (by simp [mI_sI, hS]) b0.1 e0 rfl rfl (Ar_of (by repeat' constructor)) (fun j hj => by simp [fA_2, fF_2, hj]) (by simp [fA_2, fF_2])
  refine ⟨sI (sI (sI (sI σ 12 c 11 (μ.1 37 + gg)) 3 (B k) 5 (μ.2 27 k - gg)) 3 (B k) 2 0) 10 (S (aT μ k)) 5 (sm (mo1 μ (nI (aT μ k))) (nB μ) + 1), ?_, ⟨⟨hF, hz.fr hs rfl, hRX.fr hz hX hs rfl rfl rfl rfl rfl rfl rfl, hRS', hRL.fr hX hs rfl rfl rfl rfl rfl, ?_, RP_eq hRP (fun q => by simp [mI_sI]) (fun q => by simp [mI_sI]) rfl rfl (Ar_of (by repeat' constructor)), hRG.fr hX hs rfl rfl rfl (Ar_of (by repeat' constructor)), hRF.fr hF hX hs rfl rfl rfl rfl rfl rfl (Ar_of (by repeat' constructor)), hRT.fr hF hX hs rfl rfl rfl rfl, hRK.fr hF hX hs rfl rfl rfl rfl rfl (Ar_of (by repeat' constructor)), ⟨hRR.1, hRR.2.1, hRR.2.2.fr (hF.ru w) hX hs (by rintro q (rfl | rfl | rfl | rfl | rfl | rfl | rfl | rfl) <;> rfl) rfl (Ar_of (by repeat' constructor))⟩, ?_⟩, hs, hX, rfl, rfl⟩, ?_⟩
  · simp [psh_some, psh_none, -Int32.not_lt, -Int32.not_le, va_rf, vd, vr, isR_r, isR_n, isA_r, isI_i, isI_r, isR_i, ar, akI, akZ, akB, akO, mI_sI, mP_sI, mK_sI, mN_sI, mX_sI, mP_sP, mI_sP, mK_sP, mN_sP, mX_sP, rc_C_land, e_C_land_0, e_C_land_10, e_C_land_20, e_C_land_25, e_C_land_38, fK_1 hF, fK_2 hF, fK_3 hF, fK_4 hF, fK_5 hF, fK_6 hF, fN_6 hF, fK_7 hF, fN_7 hF, fK_8 hF, fN_8 hF, fK_9 hF, fN_9 hF, fK_10 hF, fK_11 hF, fN_11 hF, fK_12 hF, fK_13 hF, fN_13 hF, fK_14 hF, fN_14 hF, fK_15 hF, fN_15 hF, fK_16 hF, fN_16 hF, fP_12_0 hF, fP_12_1 hF, fP_12_2 hF, fP_12_3 hF, fP_12_4 hF, fP_12_5 hF, fP_12_6 hF, fP_12_7 hF, fP_4_0 hF, fP_4_1 hF, fP_4_2 hF, fP_4_3 hF, fP_11_0 hF, fP_7_0 hF, fP_7_1 hF, fP_7_2 hF, hF.cc, hRN.2.1, a0, a6, a4, hS]
  · refine RB_upd hRB hC hk rfl (fun j hj f => by simp [mI_sI, hj]) (fun j hj f => rfl) (fun q f => by simp [mI_sI]) rfl rfl (fun f _ _ j hj => by simp [fA_2, fF_2, hj]) (fun f h1 h2 => by have e1 : f ≠ 24 := (by omega); have e2 : f ≠ 27 := (by omega); simp [fA_2, fF_2, e1, e2]) ?_
    have n0 : ¬ (0 : Int32) = 1 := by decide
    simp +contextual [RB1, aT, wH, mI_sI, mP_sI, mK_sI, fA_2, fA_1, fF_1, fF_2, a0, a1, a2, a3, a6, a7, a8, a9, a10, a11, a12, a13, a14, a15, n0]
    exact a4
  · refine ⟨by simpa [mI_sI, fF_1, fA_1] using hRN.1, by simp [mI_sI, fF_1], by simpa [mI_sI, fF_1, fA_1] using hRN.2.2.1, ?_⟩
    rw [mI_sI, if_neg (by omega), mI_sI, if_neg (by omega), mI_sI, if_neg (by omega), mI_sI, if_neg (by omega)]
    exact hRN.2.2.2
  · refine ⟨hC, ⟨fun j hj => ?_, hW.2.1.2⟩, hW.2.2.1, WB_upd hW.2.2.2.1 hk rfl rfl (fun f _ _ j hj => by simp [fA_2, fF_2, hj]) ?_, WG_eq hW.2.2.2.2.1 rfl rfl rfl (Ar_of (by repeat' constructor)), hW.2.2.2.2.2.1, hW.2.2.2.2.2.2⟩
    · obtain ⟨y0, y1, y2, y3, f', y4, y5⟩ := hW.2.1.1 j hj
      refine ⟨y0, y1, y2, y3, ?_⟩
      unfold frA at y5 ⊢
      rw [hmo j hj]
      by_cases z : j = aT μ k
      · rw [if_pos z]
        subst z
        refine ⟨fr - 1, by omega, ?_⟩
        rw [← pk_sub hfr1, ← hfr']
        show μ.2 3 _ - _ = _
        rw [← sub_sub']
        rfl
      · rw [if_neg z, add_zero']
        exact ⟨f', y4, y5⟩
    · have q3 : (fF (fA (fA μ 24 k 0) 27 k (μ.2 27 k - gg)) 37 (μ.1 37 + gg)).2 24 k = 0 := by simp [fA_2, fF_2]
      obtain ⟨r, r1, r2, r3⟩ := b9
      refine ⟨b0, b1, b2, b3, ⟨bb, bb1, bb2, bb3⟩, ⟨t, f - g, t1, t2, t3, by omega, ?_⟩, b6, b7, b8, ⟨r, r1, r2, fun _ => q3⟩, b10, b11, fun z => ?_, fun z => ?_⟩
      · rw [show (fF (fA (fA μ 24 k 0) 27 k (μ.2 27 k - gg)) 37 (μ.1 37 + gg)).2 27 k = μ.2 27 k - gg by simp [fA_2, fF_2], t5, hg, pk_sub hge]
      · rw [q3] at z; exact absurd z (by decide)
      · rw [q3] at z; exact absurd z (by decide)
theorem c_mayLand {k : Nat} (hR : RC σ c E S L B G H Q Z w μ) (hX : Kx σ) (hW : Wf μ) (hk : k < nB μ) : ∃ σ', runc (d + 4) 104 [.ref c, .ref (B k)] σ = some (some (.int (bZ (cLd μ k (aT μ k) = true))), σ') ∧ Spq [110] σ c E S L B G H Q Z w σ' μ := by
  obtain ⟨hF, hz, hRX, hRS, hRL, hRB, hRP, hRG, hRF, hRT, hRK, hRR, hRN⟩ := id hR
  have hC := hW.1
  have hb := hC.b
  have hs12 := hC.s.2
  have i4 : ix (nI k) 6 = true := ix_of (by omega) (by omega); have ck := cl6 (show k < 6 by omega); have j1 := is_ix hk (show nB μ ≤ 1000 by omega); obtain ⟨a0, a1, a2, a3, a4, a5, a6, a7, a8, a9, a10, a11, a12, a13, a14, a15⟩ := (hRB k hk).1; have hh := (hRB k hk).2; obtain ⟨u0, u1, u2, u3, u4, u5, u6, u7⟩ := (hRB k hk).2; obtain ⟨b0, b1, b2, b3, b4, b5, b6, b7, b8, b9, b10, b11, b12⟩ := hW.2.2.2.1.1 k hk; have hS := hRS _ b0.2; have i5 : ix (nI (aT μ k)) 12 = true := ix_of (by omega) (by omega); have ca := cl12 (show aT μ k < 12 by omega)
  have ef := c_free' (d + 3) hRS b0.2
  have es := c_swellNow (d + 1) hF hC hRF hW.2.2.2.2.2.1 hRS hRN b0.2
  have en := c_night (σ := σ) (d + 3) (μ.1 1)
  have eb := c_fb d hR hX hW hk 1
  have h0 : Spq [110] σ c E S L B G H Q Z w σ μ := ⟨hR, Sm.rfl' σ, hX, rfl, rfl⟩
  have h8 : Spq [110] σ c E S L B G H Q Z w (wW σ c μ k) μ := ⟨RC_110 hR hX (wr_Sm _ _ 8), wr_Sm _ _ 8, wr_Kx hX _ _ 8, wr_X _ _ 8, wr_S _ _ 8⟩
  by_cases c1 : frA μ (aT μ k) ≤ 0
  · refine ⟨σ, ?_, h0⟩
    rw [bZ_f (fun z => (of_decide_eq_true z).1 c1)]
    simp [psh_some, psh_none, -Int32.not_lt, -Int32.not_le, va_rf, vd, vr, isR_r, isR_n, isA_r, isI_i, isI_r, isR_i, ar, akI, akZ, akB, akO, mI_sI, mP_sI, mK_sI, mN_sI, mX_sI, mP_sP, mI_sP, mK_sP, mN_sP, mX_sP, rc_C_mayLand, e_C_mayLand_0, e_C_mayLand_7, e_C_mayLand_10, e_C_mayLand_20, e_C_mayLand_27, e_C_mayLand_30, e_C_mayLand_38, e_C_mayLand_43, e_C_mayLand_49, e_C_mayLand_53, e_C_mayLand_57, e_C_mayLand_58, fK_1 hF, fK_2 hF, fK_3 hF, fK_4 hF, fK_5 hF, fK_6 hF, fN_6 hF, fK_7 hF, fN_7 hF, fK_8 hF, fN_8 hF, fK_9 hF, fN_9 hF, fK_10 hF, fK_11 hF, fN_11 hF, fK_12 hF, fK_13 hF, fN_13 hF, fK_14 hF, fN_14 hF, fK_15 hF, fN_15 hF, fK_16 hF, fN_16 hF, fP_12_0 hF, fP_12_1 hF, fP_12_2 hF, fP_12_3 hF, fP_12_4 hF, fP_12_5 hF, fP_12_6 hF, fP_12_7 hF, fP_4_0 hF, fP_4_1 hF, fP_4_2 hF, fP_4_3 hF, fP_11_0 hF, fP_7_0 hF, fP_7_1 hF, fP_7_2 hF, hF.cc, a0, a4, hS, ef, c1]
  by_cases c3 : niB (μ.1 1) = 0 ∨ ¬ μ.2 5 (aT μ k) = 0
  · have ed : ∀ u, run (d + 4) 104 30 [.ref c, .ref (B k)] [] σ = u → runc (d + 4) 104 [.ref c, .ref (B k)] σ = u := by
      intro u hu
      by_cases c5 : μ.2 5 (aT μ k) = 0
      · have c6 : niB (μ.1 1) = 0 := c3.resolve_right (fun z => z c5)
        simp [psh_some, psh_none, -Int32.not_lt, -Int32.not_le, va_rf, vd, vr, isR_r, isR_n, isA_r, isI_i, isI_r, isR_i, ar, akI, akZ, akB, akO, mI_sI, mP_sI, mK_sI, mN_sI, mX_sI, mP_sP, mI_sP, mK_sP, mN_sP, mX_sP, rc_C_mayLand, e_C_mayLand_0, e_C_mayLand_7, e_C_mayLand_10, e_C_mayLand_20, e_C_mayLand_27, fK_1 hF, fK_2 hF, fK_3 hF, fK_4 hF, fK_5 hF, fK_6 hF, fN_6 hF, fK_7 hF, fN_7 hF, fK_8 hF, fN_8 hF, fK_9 hF, fN_9 hF, fK_10 hF, fK_11 hF, fN_11 hF, fK_12 hF, fK_13 hF, fN_13 hF, fK_14 hF, fN_14 hF, fK_15 hF, fN_15 hF, fK_16 hF, fN_16 hF, fP_12_0 hF, fP_12_1 hF, fP_12_2 hF, fP_12_3 hF, fP_12_4 hF, fP_12_5 hF, fP_12_6 hF, fP_12_7 hF, fP_4_0 hF, fP_4_1 hF, fP_4_2 hF, fP_4_3 hF, fP_11_0 hF, fP_7_0 hF, fP_7_1 hF, fP_7_2 hF, hF.cc, a0, a4, hS, ef, c1, c5, hRN.1, en, c6, hu]
      · simp [psh_some, psh_none, -Int32.not_lt, -Int32.not_le, va_rf, vd, vr, isR_r, isR_n, isA_r, isI_i, isI_r, isR_i, ar, akI, akZ, akB, akO, mI_sI, mP_sI, mK_sI, mN_sI, mX_sI, mP_sP, mI_sP, mK_sP, mN_sP, mX_sP, rc_C_mayLand, e_C_mayLand_0, e_C_mayLand_7, e_C_mayLand_10, fK_1 hF, fK_2 hF, fK_3 hF, fK_4 hF, fK_5 hF, fK_6 hF, fN_6 hF, fK_7 hF, fN_7 hF, fK_8 hF, fN_8 hF, fK_9 hF, fN_9 hF, fK_10 hF, fK_11 hF, fN_11 hF, fK_12 hF, fK_13 hF, fN_13 hF, fK_14 hF, fN_14 hF, fK_15 hF, fN_15 hF, fK_16 hF, fN_16 hF, fP_12_0 hF, fP_12_1 hF, fP_12_2 hF, fP_12_3 hF, fP_12_4 hF, fP_12_5 hF, fP_12_6 hF, fP_12_7 hF, fP_4_0 hF, fP_4_1 hF, fP_4_2 hF, fP_4_3 hF, fP_11_0 hF, fP_7_0 hF, fP_7_1 hF, fP_7_2 hF, hF.cc, a0, a4, hS, ef, c1, c5, hu]
    by_cases c2 : 7 < swN μ (aT μ k)
    · refine ⟨σ, ed _ ?_, h0⟩
      rw [bZ_f (fun z => (of_decide_eq_true z).2.1 c2)]
      simp [psh_some, psh_none, -Int32.not_lt, -Int32.not_le, va_rf, vd, vr, isR_r, isR_n, isA_r, isI_i, isI_r, isR_i, ar, akI, akZ, akB, akO, mI_sI, mP_sI, mK_sI, mN_sI, mX_sI, mP_sP, mI_sP, mK_sP, mN_sP, mX_sP, e_C_mayLand_30, e_C_mayLand_38, e_C_mayLand_57, e_C_mayLand_58, fK_1 hF, fK_2 hF, fK_3 hF, fK_4 hF, fK_5 hF, fK_6 hF, fN_6 hF, fK_7 hF, fN_7 hF, fK_8 hF, fN_8 hF, fK_9 hF, fN_9 hF, fK_10 hF, fK_11 hF, fN_11 hF, fK_12 hF, fK_13 hF, fN_13 hF, fK_14 hF, fN_14 hF, fK_15 hF, fN_15 hF, fK_16 hF, fN_16 hF, fP_12_0 hF, fP_12_1 hF, fP_12_2 hF, fP_12_3 hF, fP_12_4 hF, fP_12_5 hF, fP_12_6 hF, fP_12_7 hF, fP_4_0 hF, fP_4_1 hF, fP_4_2 hF, fP_4_3 hF, fP_11_0 hF, fP_7_0 hF, fP_7_1 hF, fP_7_2 hF, hF.cc, a0, a4, es, c2]
    · refine ⟨wW σ c μ k, ed _ ?_, h8⟩
      by_cases c4 : fns μ k (aT μ k) 1 = -1
      · rw [bZ_t (show cLd μ k (aT μ k) = true from decide_eq_true ⟨c1, c2, c3, c4⟩)]
        simp [psh_some, psh_none, -Int32.not_lt, -Int32.not_le, va_rf, vd, vr, isR_r, isR_n, isA_r, isI_i, isI_r, isR_i, ar, akI, akZ, akB, akO, mI_sI, mP_sI, mK_sI, mN_sI, mX_sI, mP_sP, mI_sP, mK_sP, mN_sP, mX_sP, e_C_mayLand_30, e_C_mayLand_38, e_C_mayLand_43, e_C_mayLand_49, e_C_mayLand_53, e_C_mayLand_58, fK_1 hF, fK_2 hF, fK_3 hF, fK_4 hF, fK_5 hF, fK_6 hF, fN_6 hF, fK_7 hF, fN_7 hF, fK_8 hF, fN_8 hF, fK_9 hF, fN_9 hF, fK_10 hF, fK_11 hF, fN_11 hF, fK_12 hF, fK_13 hF, fN_13 hF, fK_14 hF, fN_14 hF, fK_15 hF, fN_15 hF, fK_16 hF, fN_16 hF, fP_12_0 hF, fP_12_1 hF, fP_12_2 hF, fP_12_3 hF, fP_12_4 hF, fP_12_5 hF, fP_12_6 hF, fP_12_7 hF, fP_4_0 hF, fP_4_1 hF, fP_4_2 hF, fP_4_3 hF, fP_11_0 hF, fP_7_0 hF, fP_7_1 hF, fP_7_2 hF, hF.cc, a0, a4, es, c2, eb, c4]
      · rw [bZ_f (fun z => c4 (of_decide_eq_true z).2.2.2)]
        simp [psh_some, psh_none, -Int32.not_lt, -Int32.not_le, va_rf, vd, vr, isR_r, isR_n, isA_r, isI_i, isI_r, isR_i, ar, akI, akZ, akB, akO, mI_sI, mP_sI, mK_sI, mN_sI, mX_sI, mP_sP, mI_sP, mK_sP, mN_sP, mX_sP, e_C_mayLand_30, e_C_mayLand_38, e_C_mayLand_43, e_C_mayLand_49, e_C_mayLand_57, e_C_mayLand_58, fK_1 hF, fK_2 hF, fK_3 hF, fK_4 hF, fK_5 hF, fK_6 hF, fN_6 hF, fK_7 hF, fN_7 hF, fK_8 hF, fN_8 hF, fK_9 hF, fN_9 hF, fK_10 hF, fK_11 hF, fN_11 hF, fK_12 hF, fK_13 hF, fN_13 hF, fK_14 hF, fN_14 hF, fK_15 hF, fN_15 hF, fK_16 hF, fN_16 hF, fP_12_0 hF, fP_12_1 hF, fP_12_2 hF, fP_12_3 hF, fP_12_4 hF, fP_12_5 hF, fP_12_6 hF, fP_12_7 hF, fP_4_0 hF, fP_4_1 hF, fP_4_2 hF, fP_4_3 hF, fP_11_0 hF, fP_7_0 hF, fP_7_1 hF, fP_7_2 hF, hF.cc, a0, a4, es, c2, eb, c4]
  · refine ⟨σ, ?_, h0⟩
    rw [bZ_f (fun z => c3 (of_decide_eq_true z).2.2.1)]
    have c5 : μ.2 5 (aT μ k) = 0 := Classical.byContradiction (fun z => c3 (Or.inr z))
    have c6 : ¬ niB (μ.1 1) = 0 := fun z => c3 (Or.inl z)
    simp [psh_some, psh_none, -Int32.not_lt, -Int32.not_le, va_rf, vd, vr, isR_r, isR_n, isA_r, isI_i, isI_r, isR_i, ar, akI, akZ, akB, akO, mI_sI, mP_sI, mK_sI, mN_sI, mX_sI, mP_sP, mI_sP, mK_sP, mN_sP, mX_sP, rc_C_mayLand, e_C_mayLand_0, e_C_mayLand_7, e_C_mayLand_10, e_C_mayLand_20, e_C_mayLand_27, e_C_mayLand_30, e_C_mayLand_38, e_C_mayLand_43, e_C_mayLand_49, e_C_mayLand_53, e_C_mayLand_57, e_C_mayLand_58, fK_1 hF, fK_2 hF, fK_3 hF, fK_4 hF, fK_5 hF, fK_6 hF, fN_6 hF, fK_7 hF, fN_7 hF, fK_8 hF, fN_8 hF, fK_9 hF, fN_9 hF, fK_10 hF, fK_11 hF, fN_11 hF, fK_12 hF, fK_13 hF, fN_13 hF, fK_14 hF, fN_14 hF, fK_15 hF, fN_15 hF, fK_16 hF, fN_16 hF, fP_12_0 hF, fP_12_1 hF, fP_12_2 hF, fP_12_3 hF, fP_12_4 hF, fP_12_5 hF, fP_12_6 hF, fP_12_7 hF, fP_4_0 hF, fP_4_1 hF, fP_4_2 hF, fP_4_3 hF, fP_11_0 hF, fP_7_0 hF, fP_7_1 hF, fP_7_2 hF, hF.cc, a0, a4, hS, ef, c1, c5, hRN.1, en, c6]
/-- a minute of the boat k, but for its rest -/
def pmn (μ : Ms) (k : Nat) : Ms :=
  if μ.2 24 k = 0 then (if μ.2 29 k = -1 then μ else lsN μ (nI k) (μ.2 29 k).toNatClampNeg 1 (nG μ))
  else if μ.2 24 k = 1 then (if ¬ μ.2 34 k ≤ μ.2 33 k + 1 then fl2 μ k else if ¬ flA μ k ≤ μ.2 27 k then skS (fl2 μ k) k else if cLd (fl2 μ k) k (aT μ k) = true then fld (fl2 μ k) k else lsN (fl2 μ k) (nI k) 6 1 (nG μ))
  else μ
theorem c_pass {k : Nat} (hR : RC σ c E S L B G H Q Z w μ) (hX : Kx σ) (hW : Wf μ) (hk : k < nB μ) (he : ∃ e, e + 1 ≤ nW μ ∧ μ.2 33 k = nI e) : ∃ σ', runc (d + 5) 103 [.ref c, .ref (B k)] σ = some (none, σ') ∧ Spq [2, 3, 10, 12, 20, 110] σ c E S L B G H Q Z w σ' (pmn μ k) ∧ Wf (pmn μ k) := by
  obtain ⟨hF, hz, hRX, hRS, hRL, hRB, hRP, hRG, hRF, hRT, hRK, hRR, hRN⟩ := id hR
  have hC := hW.1
  have hb := hC.b
  have hs12 := hC.s.2
  have i4 : ix (nI k) 6 = true := ix_of (by omega) (by omega); have ck := cl6 (show k < 6 by omega); have j1 := is_ix hk (show nB μ ≤ 1000 by omega); obtain ⟨a0, a1, a2, a3, a4, a5, a6, a7, a8, a9, a10, a11, a12, a13, a14, a15⟩ := (hRB k hk).1; have hh := (hRB k hk).2; obtain ⟨u0, u1, u2, u3, u4, u5, u6, u7⟩ := (hRB k hk).2; obtain ⟨b0, b1, b2, b3, b4, b5, b6, b7, b8, b9, b10, b11, b12⟩ := hW.2.2.2.1.1 k hk; have hS := hRS _ b0.2; have i5 : ix (nI (aT μ k)) 12 = true := ix_of (by omega) (by omega); have ca := cl12 (show aT μ k < 12 by omega)
  unfold pmn
  by_cases h0 : μ.2 24 k = 0
  · rw [if_pos h0]
    have n1 : ¬ (0 : Int32) = 1 := by decide
    rcases b8 with z | ⟨y, hy, z⟩
    · rw [if_pos z]
      refine ⟨σ, ?_, ⟨hR, Sm.rfl' σ, hX, rfl, rfl⟩, hW⟩
      have ec := c_charge_no (c := c) (B := B) (k := k) (d + 1) 1 a0
      simp [psh_some, psh_none, -Int32.not_lt, -Int32.not_le, va_rf, vd, vr, isR_r, isR_n, isA_r, isI_i, isI_r, isR_i, ar, akI, akZ, akB, akO, mI_sI, mP_sI, mK_sI, mN_sI, mX_sI, mP_sP, mI_sP, mK_sP, mN_sP, mX_sP, rc_C_passMinute, e_C_passMinute_0, e_C_passMinute_7, e_C_passMinute_17, e_C_passMinute_25, e_C_passMinute_26, e_C_passMinute_36, e_C_passMinute_46, e_C_passMinute_57, e_C_passMinute_58, e_C_passMinute_69, e_C_passMinute_78, e_C_passMinute_83, e_C_passMinute_86, e_C_passMinute_91, e_C_passMinute_94, e_C_passMinute_100, e_C_passMinute_103, e_C_passMinute_111, fK_1 hF, fK_2 hF, fK_3 hF, fK_4 hF, fK_5 hF, fK_6 hF, fN_6 hF, fK_7 hF, fN_7 hF, fK_8 hF, fN_8 hF, fK_9 hF, fN_9 hF, fK_10 hF, fK_11 hF, fN_11 hF, fK_12 hF, fK_13 hF, fN_13 hF, fK_14 hF, fN_14 hF, fK_15 hF, fN_15 hF, fK_16 hF, fN_16 hF, fP_12_0 hF, fP_12_1 hF, fP_12_2 hF, fP_12_3 hF, fP_12_4 hF, fP_12_5 hF, fP_12_6 hF, fP_12_7 hF, fP_4_0 hF, fP_4_1 hF, fP_4_2 hF, fP_4_3 hF, fP_11_0 hF, fP_7_0 hF, fP_7_1 hF, fP_7_2 hF, hF.cc, a0, a3, h0, a8, z, ec, n1]
    · have zn : ¬ nI y = -1 := nI_nm1 (by omega)
      rw [z, if_neg zn, cl1000 (show y < 1000 by omega)]
      obtain ⟨σ', h1, h2⟩ := c_charge (d + 1) 1 hR hX hC hk (show y < 7 by omega)
      have h3 := (h2.1.2.2.2.2.2.1 k (by rw [lsN_nB]; exact hk)).1
      have h4 : (lsN μ (nI k) y 1 (nG μ)).2 24 k = 0 := by rw [lsN_2 _ _ _ (by decide)]; exact h0
      refine ⟨σ', ?_, h2.mono (by decide), Wf_lsN hW _ (by omega) _ _ (Nat.le_refl _)⟩
      simp [psh_some, psh_none, -Int32.not_lt, -Int32.not_le, va_rf, vd, vr, isR_r, isR_n, isA_r, isI_i, isI_r, isR_i, ar, akI, akZ, akB, akO, mI_sI, mP_sI, mK_sI, mN_sI, mX_sI, mP_sP, mI_sP, mK_sP, mN_sP, mX_sP, rc_C_passMinute, e_C_passMinute_0, e_C_passMinute_7, e_C_passMinute_17, e_C_passMinute_25, e_C_passMinute_26, e_C_passMinute_36, e_C_passMinute_46, e_C_passMinute_57, e_C_passMinute_58, e_C_passMinute_69, e_C_passMinute_78, e_C_passMinute_83, e_C_passMinute_86, e_C_passMinute_91, e_C_passMinute_94, e_C_passMinute_100, e_C_passMinute_103, e_C_passMinute_111, fK_1 hF, fK_2 hF, fK_3 hF, fK_4 hF, fK_5 hF, fK_6 hF, fN_6 hF, fK_7 hF, fN_7 hF, fK_8 hF, fN_8 hF, fK_9 hF, fN_9 hF, fK_10 hF, fK_11 hF, fN_11 hF, fK_12 hF, fK_13 hF, fN_13 hF, fK_14 hF, fN_14 hF, fK_15 hF, fN_15 hF, fK_16 hF, fN_16 hF, fP_12_0 hF, fP_12_1 hF, fP_12_2 hF, fP_12_3 hF, fP_12_4 hF, fP_12_5 hF, fP_12_6 hF, fP_12_7 hF, fP_4_0 hF, fP_4_1 hF, fP_4_2 hF, fP_4_3 hF, fP_11_0 hF, fP_7_0 hF, fP_7_1 hF, fP_7_2 hF, hF.cc, a0, a3, h0, a8, z, h1, h3.1, h3.2.2.2.1, h4, n1]
  · rw [if_neg h0]
    by_cases h1 : μ.2 24 k = 1
    · rw [if_pos h1]
      have hR2 := RC_fl2 hR hX hC hk
      have hW2 := Wf_fl2 hW hk he
      have hX2 : Kx (sI (sI σ 3 (B k) 8 (μ.2 28 k + 1)) 3 (B k) 12 (μ.2 33 k + 1)) := hX
      have hsm : Sm (tk [2, 3, 10, 12, 20, 110]) σ (sI (sI σ 3 (B k) 8 (μ.2 28 k + 1)) 3 (B k) 12 (μ.2 33 k + 1)) := SmsI (SmsI (Sm.rfl' σ) rfl _ _ _) rfl _ _ _
      have t0 : runc (d + 5) 103 [.ref c, .ref (B k)] σ = run (d + 5) 103 46 [.ref c, .ref (B k), uu] [] (sI (sI σ 3 (B k) 8 (μ.2 28 k + 1)) 3 (B k) 12 (μ.2 33 k + 1)) := by
        simp [psh_some, psh_none, -Int32.not_lt, -Int32.not_le, va_rf, vd, vr, isR_r, isR_n, isA_r, isI_i, isI_r, isR_i, ar, akI, akZ, akB, akO, mI_sI, mP_sI, mK_sI, mN_sI, mX_sI, mP_sP, mI_sP, mK_sP, mN_sP, mX_sP, rc_C_passMinute, e_C_passMinute_0, e_C_passMinute_17, e_C_passMinute_26, e_C_passMinute_36, a0, a3, h0, h1, a7, a10]
      rw [t0]
      have hSp : Spq [2, 3, 10, 12, 20, 110] σ c E S L B G H Q Z w (sI (sI σ 3 (B k) 8 (μ.2 28 k + 1)) 3 (B k) 12 (μ.2 33 k + 1)) (fl2 μ k) := ⟨hR2, hsm, hX2, rfl, rfl⟩
      generalize sI (sI σ 3 (B k) 8 (μ.2 28 k + 1)) 3 (B k) 12 (μ.2 33 k + 1) = ρ at *
      have v33 : (fl2 μ k).2 33 k = μ.2 33 k + 1 := by simp [fl2, fA_2]
      have v34 : (fl2 μ k).2 34 k = μ.2 34 k := rfl
      have v27 : (fl2 μ k).2 27 k = μ.2 27 k := rfl
      have v20 : (fl2 μ k).2 20 k = μ.2 20 k := rfl
      obtain ⟨hF', hz', hRX', hRS', hRL', hRB', hRP', hRG', hRF', hRT', hRK', hRR', hRN'⟩ := id hR2
      obtain ⟨p0, p1, p2, p3, p4, p5, p6, p7, p8, p9, p10, p11, p12, p13, p14, p15⟩ := (hRB' k hk).1
      have hh' := (hRB' k hk).2
      rw [v33] at p10
      rw [v34] at p11
      rw [v27] at p6
      by_cases g1 : μ.2 34 k ≤ μ.2 33 k + 1
      · rw [if_neg (fun z => z g1)]
        have eb := c_burnt (d + 3) hh' (μ.2 33 k + 1)
        rw [v20] at eb
        have eA : dvu (μ.2 20 k * (μ.2 33 k + 1)) 60 = flA μ k := rfl
        rw [eA] at eb
        by_cases g2 : flA μ k ≤ μ.2 27 k
        · rw [if_neg (fun z => z g2)]
          obtain ⟨ρ1, m1, m2⟩ := c_mayLand d hR2 hX2 hW2 hk
          have ea : aT (fl2 μ k) k = aT μ k := rfl
          rw [ea] at m1
          by_cases g3 : cLd (fl2 μ k) k (aT μ k) = true
          · rw [if_pos g3]
            rw [bZ_t g3] at m1
            obtain ⟨ρ2, l1, l2, l3⟩ := c_land (d + 3) m2.1 m2.2.2.1 hW2 hk h1 (cLd_free g3) (by rw [v33, v20, v27]; exact g2)
            rw [v33, v20, eA] at l1
            refine ⟨ρ2, ?_, (hSp.trans (m2.mono (by decide))).trans (l2.mono (by decide)), l3⟩
            simp [psh_some, psh_none, -Int32.not_lt, -Int32.not_le, va_rf, vd, vr, isR_r, isR_n, isA_r, isI_i, isI_r, isR_i, ar, akI, akZ, akB, akO, mI_sI, mP_sI, mK_sI, mN_sI, mX_sI, mP_sP, mI_sP, mK_sP, mN_sP, mX_sP, e_C_passMinute_46, e_C_passMinute_58, e_C_passMinute_69, e_C_passMinute_86, e_C_passMinute_91, e_C_passMinute_94, e_C_passMinute_100, e_C_passMinute_111, hF'.cc, hh'.1, p0, p2, p10, p11, g1, eb, p6, g2, m1, (m2.1.1).cc, l1]
          · rw [if_neg g3]
            rw [bZ_f g3] at m1
            obtain ⟨ρ2, l1, l2⟩ := c_charge (y := 6) (d + 1) 1 m2.1 m2.2.2.1 hC hk (by decide)
            rw [show nI 6 = (6 : Int32) from rfl] at l1
            refine ⟨ρ2, ?_, (hSp.trans (m2.mono (by decide))).trans (l2.mono (by decide)), Wf_lsN hW2 _ (by omega) _ _ (Nat.le_refl _)⟩
            simp [psh_some, psh_none, -Int32.not_lt, -Int32.not_le, va_rf, vd, vr, isR_r, isR_n, isA_r, isI_i, isI_r, isR_i, ar, akI, akZ, akB, akO, mI_sI, mP_sI, mK_sI, mN_sI, mX_sI, mP_sP, mI_sP, mK_sP, mN_sP, mX_sP, e_C_passMinute_46, e_C_passMinute_58, e_C_passMinute_69, e_C_passMinute_86, e_C_passMinute_91, e_C_passMinute_103, e_C_passMinute_111, hF'.cc, hh'.1, p0, p2, p10, p11, g1, eb, p6, g2, m1, (m2.1.1).cc, l1]
        · rw [if_pos g2]
          obtain ⟨ρ2, l1, l2⟩ := c_sink (d + 1) hR2 hX2 hW2 hk h1
          refine ⟨ρ2, ?_, hSp.trans (l2.mono (by decide)), Wf_skS hW2 hk h1⟩
          simp [psh_some, psh_none, -Int32.not_lt, -Int32.not_le, va_rf, vd, vr, isR_r, isR_n, isA_r, isI_i, isI_r, isR_i, ar, akI, akZ, akB, akO, mI_sI, mP_sI, mK_sI, mN_sI, mX_sI, mP_sP, mI_sP, mK_sP, mN_sP, mX_sP, e_C_passMinute_46, e_C_passMinute_58, e_C_passMinute_69, e_C_passMinute_78, e_C_passMinute_83, e_C_passMinute_111, hF'.cc, hh'.1, p0, p2, p10, p11, g1, eb, p6, g2, l1]
      · rw [if_pos g1]
        refine ⟨ρ, ?_, hSp, hW2⟩
        simp [psh_some, psh_none, -Int32.not_lt, -Int32.not_le, va_rf, vd, vr, isR_r, isR_n, isA_r, isI_i, isI_r, isR_i, ar, akI, akZ, akB, akO, mI_sI, mP_sI, mK_sI, mN_sI, mX_sI, mP_sP, mI_sP, mK_sP, mN_sP, mX_sP, e_C_passMinute_46, e_C_passMinute_57, p0, p10, p11, g1]
    · rw [if_neg h1]
      refine ⟨σ, ?_, ⟨hR, Sm.rfl' σ, hX, rfl, rfl⟩, hW⟩
      simp [psh_some, psh_none, -Int32.not_lt, -Int32.not_le, va_rf, vd, vr, isR_r, isR_n, isA_r, isI_i, isI_r, isR_i, ar, akI, akZ, akB, akO, mI_sI, mP_sI, mK_sI, mN_sI, mX_sI, mP_sP, mI_sP, mK_sP, mN_sP, mX_sP, rc_C_passMinute, e_C_passMinute_0, e_C_passMinute_7, e_C_passMinute_17, e_C_passMinute_25, e_C_passMinute_26, e_C_passMinute_36, e_C_passMinute_46, e_C_passMinute_57, e_C_passMinute_58, e_C_passMinute_69, e_C_passMinute_78, e_C_passMinute_83, e_C_passMinute_86, e_C_passMinute_91, e_C_passMinute_94, e_C_passMinute_100, e_C_passMinute_103, e_C_passMinute_111, fK_1 hF, fK_2 hF, fK_3 hF, fK_4 hF, fK_5 hF, fK_6 hF, fN_6 hF, fK_7 hF, fN_7 hF, fK_8 hF, fN_8 hF, fK_9 hF, fN_9 hF, fK_10 hF, fK_11 hF, fN_11 hF, fK_12 hF, fK_13 hF, fN_13 hF, fK_14 hF, fN_14 hF, fK_15 hF, fN_15 hF, fK_16 hF, fN_16 hF, fP_12_0 hF, fP_12_1 hF, fP_12_2 hF, fP_12_3 hF, fP_12_4 hF, fP_12_5 hF, fP_12_6 hF, fP_12_7 hF, fP_4_0 hF, fP_4_1 hF, fP_4_2 hF, fP_4_3 hF, fP_11_0 hF, fP_7_0 hF, fP_7_1 hF, fP_7_2 hF, hF.cc, a0, a3, h0, h1]
end O49
