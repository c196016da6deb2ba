/-! ===== OPERATIONS: turn, raise, rest ===== -/
section O44
variable {σ : Mm} {c : Nat} {E S L B G H Q : Nat → Nat} {Z : Nat → List Nat} {w : Bool} {μ μ' : Ms} (d : Nat)
theorem add_assoc' (x y z : Int32) : x + y + z = x + (y + z) := by grind
theorem mo_up {s : Int32} {k n : Nat} (hk : k < n) (h4 : ∀ j, j ≠ k → μ'.2 24 j = μ.2 24 j) (h5 : ∀ j, j ≠ k → μ'.2 25 j = μ.2 25 j) : sm (mo1 μ' s) n = sm (mo1 μ s) n - mo1 μ s k + mo1 μ' s k := sm_upd hk (fun j hj => by simp only [mo1, h4 j hj, h5 j hj])
theorem c_mayTurn {b h k : Nat} (a : RB1 σ S b h μ k) : runc d 7 [.ref b] σ = some (some (.int (bZ (μ.2 24 k = 1 ∧ μ.2 32 k = 0 ∧ ¬ μ.2 33 k < 1 ∧ ¬ μ.2 34 k ≤ μ.2 33 k))), σ) := by
  obtain ⟨a0, a1, a2, a3, a4, a5, a6, a7, a8, a9, a10, a11, a12, a13, a14, a15⟩ := a
  by_cases c1 : μ.2 24 k = 1
  · by_cases c2 : μ.2 32 k = 0
    · by_cases c3 : μ.2 33 k < 1
      · simp [psh_some, psh_none, -Int32.not_lt, -Int32.not_le, va_rf, vd, vr, isR_r, isR_n, isA_r, isI_i, isI_r, isR_i, ar, akI, akZ, akB, akO, mI_sI, mP_sI, mK_sI, mN_sI, mX_sI, mP_sP, mI_sP, mK_sP, mN_sP, mX_sP, rc_Boat_mayTurn, e_Boat_mayTurn_0, e_Boat_mayTurn_8, e_Boat_mayTurn_15, e_Boat_mayTurn_23, e_Boat_mayTurn_34, e_Boat_mayTurn_38, e_Boat_mayTurn_39, a0, a3, a14, a10, a11, c1, c2, c3, bZ]
      · by_cases c4 : μ.2 34 k ≤ μ.2 33 k <;> simp [psh_some, psh_none, -Int32.not_lt, -Int32.not_le, va_rf, vd, vr, isR_r, isR_n, isA_r, isI_i, isI_r, isR_i, ar, akI, akZ, akB, akO, mI_sI, mP_sI, mK_sI, mN_sI, mX_sI, mP_sP, mI_sP, mK_sP, mN_sP, mX_sP, rc_Boat_mayTurn, e_Boat_mayTurn_0, e_Boat_mayTurn_8, e_Boat_mayTurn_15, e_Boat_mayTurn_23, e_Boat_mayTurn_34, e_Boat_mayTurn_38, e_Boat_mayTurn_39, a0, a3, a14, a10, a11, c1, c2, c3, c4, bZ]
    · simp [psh_some, psh_none, -Int32.not_lt, -Int32.not_le, va_rf, vd, vr, isR_r, isR_n, isA_r, isI_i, isI_r, isR_i, ar, akI, akZ, akB, akO, mI_sI, mP_sI, mK_sI, mN_sI, mX_sI, mP_sP, mI_sP, mK_sP, mN_sP, mX_sP, rc_Boat_mayTurn, e_Boat_mayTurn_0, e_Boat_mayTurn_8, e_Boat_mayTurn_15, e_Boat_mayTurn_23, e_Boat_mayTurn_34, e_Boat_mayTurn_38, e_Boat_mayTurn_39, a0, a3, a14, c1, c2, bZ]
  · simp [psh_some, psh_none, -Int32.not_lt, -Int32.not_le, va_rf, vd, vr, isR_r, isR_n, isA_r, isI_i, isI_r, isR_i, ar, akI, akZ, akB, akO, mI_sI, mP_sI, mK_sI, mN_sI, mX_sI, mP_sP, mI_sP, mK_sP, mN_sP, mX_sP, rc_Boat_mayTurn, e_Boat_mayTurn_0, e_Boat_mayTurn_8, e_Boat_mayTurn_15, e_Boat_mayTurn_23, e_Boat_mayTurn_34, e_Boat_mayTurn_38, e_Boat_mayTurn_39, a0, a3, c1, bZ]
theorem c_turnBack {b h k s : Nat} {x : Int32} (a : RB1 σ S b h μ k) (hs : mP σ 3 b 4 = some s) : runc d 8 [.ref b, .int x] σ = some (none, sI (sI (sP σ 3 b 3 (some s)) 3 b 13 x) 3 b 16 1) := by
  simp [psh_some, psh_none, -Int32.not_lt, -Int32.not_le, va_rf, vd, vr, isR_r, isR_n, isA_r, isI_i, isI_r, isR_i, ar, akI, akZ, akB, akO, mI_sI, mP_sI, mK_sI, mN_sI, mX_sI, mP_sP, mI_sP, mK_sP, mN_sP, mX_sP, rc_Boat_turnBack, e_Boat_turnBack_0, e_Boat_turnBack_8, e_Boat_turnBack_13, e_Boat_turnBack_18, a.1, hs]
theorem ok_turn (x : Int32) : Ok 75 163 [.int x] := by
  refine Ok_of fun d σ c a E S L B G H Q Z w μ hR hLM hX hW => ?_
  have hC := hW.1
  obtain ⟨hF, hz, hRX, hRS, hRL, hRB, hRP, hRG, hRF, hRT, hRK, hRR, hRN⟩ := id hR
  have hb := hC.b
  have hs12 := hC.s.2
  rcases nIx x (n := nB μ) (by omega) with ⟨k, hk, rfl⟩ | hno
  · have i4 : ix (nI k) 6 = true := ix_of (by omega) (by omega); have ck := cl6 (show k < 6 by omega); have j1 := is_ix hk (show nB μ ≤ 1000 by omega); obtain ⟨a0, a1, a2, a3, a4, a5, a6, a7, a8, a9, a10, a11, a12, a13, a14, a15⟩ := (hRB k hk).1; have hh := (hRB k hk).2; obtain ⟨u0, u1, u2, u3, u4, u5, u6, u7⟩ := (hRB k hk).2; obtain ⟨b0, b1, b2, b3, b4, b5, b6, b7, b8, b9, b10, b11, b12⟩ := hW.2.2.2.1.1 k hk; have hS := hRS _ b0.2; have i5 : ix (nI (aT μ k)) 12 = true := ix_of (by omega) (by omega); have ca := cl12 (show aT μ k < 12 by omega)
    have eb := c_boatAt (d + 16) hF hRX hC hk a0
    have em := c_mayTurn (d + 19) (hRB k hk).1
    by_cases h1 : μ.2 24 k = 1
    · by_cases h2 : μ.2 32 k = 0
      · by_cases h3 : μ.2 33 k < 1
        · rw [bZ_f (fun z => z.2.2.1 h3)] at em
          refine Res.same hR hX hW (v := some (.int (-1))) ?_ (fun τ μ0 hμ hL => ?_)
          · simp [psh_some, psh_none, -Int32.not_lt, -Int32.not_le, va_rf, vd, vr, isR_r, isR_n, isA_r, isI_i, isI_r, isR_i, ar, akI, akZ, akB, akO, mI_sI, mP_sI, mK_sI, mN_sI, mX_sI, mP_sP, mI_sP, mK_sP, mN_sP, mX_sP, rc_C_turn, e_C_turn_0, e_C_turn_5, e_C_turn_10, e_C_turn_14, e_C_turn_17, e_C_turn_19, e_C_turn_38, e_C_turn_48, e_C_turn_55, e_C_turn_57, e_C_turn_62, fK_1 hF, fK_2 hF, fK_3 hF, fK_4 hF, fK_5 hF, fK_6 hF, fN_6 hF, fK_7 hF, fN_7 hF, fK_8 hF, fN_8 hF, fK_9 hF, fN_9 hF, fK_10 hF, fK_11 hF, fN_11 hF, fK_12 hF, fK_13 hF, fN_13 hF, fK_14 hF, fN_14 hF, fK_15 hF, fN_15 hF, fK_16 hF, fN_16 hF, fP_12_0 hF, fP_12_1 hF, fP_12_2 hF, fP_12_3 hF, fP_12_4 hF, fP_12_5 hF, fP_12_6 hF, fP_12_7 hF, fP_4_0 hF, fP_4_1 hF, fP_4_2 hF, fP_4_3 hF, fP_11_0 hF, fP_7_0 hF, fP_7_1 hF, fP_7_2 hF, hF.cc, eb, a0, em]
          · simp [psh_some, psh_none, -Int32.not_lt, -Int32.not_le, rc_M_turn, q_M_turn_0, q_M_turn_5, q_M_turn_10, q_M_turn_13, q_M_turn_23, q_M_turn_32, q_M_turn_42, q_M_turn_57, q_M_turn_59, q_M_turn_84, q_M_turn_92, q_M_turn_101, q_M_turn_103, q_M_turn_123, q_M_turn_131, q_M_turn_138, q_M_turn_145, hL, hμ, m_isBoat, hb.1, bZ_t j1, i4, ck, h1, h2, h3]
        · by_cases h4 : μ.2 34 k ≤ μ.2 33 k
          · rw [bZ_f (fun z => z.2.2.2 h4)] at em
            have h4' : ¬ μ.2 33 k < μ.2 34 k := Int32.not_lt.mpr h4
            refine Res.same hR hX hW (v := some (.int (-1))) ?_ (fun τ μ0 hμ hL => ?_)
            · simp [psh_some, psh_none, -Int32.not_lt, -Int32.not_le, va_rf, vd, vr, isR_r, isR_n, isA_r, isI_i, isI_r, isR_i, ar, akI, akZ, akB, akO, mI_sI, mP_sI, mK_sI, mN_sI, mX_sI, mP_sP, mI_sP, mK_sP, mN_sP, mX_sP, rc_C_turn, e_C_turn_0, e_C_turn_5, e_C_turn_10, e_C_turn_14, e_C_turn_17, e_C_turn_19, e_C_turn_38, e_C_turn_48, e_C_turn_55, e_C_turn_57, e_C_turn_62, fK_1 hF, fK_2 hF, fK_3 hF, fK_4 hF, fK_5 hF, fK_6 hF, fN_6 hF, fK_7 hF, fN_7 hF, fK_8 hF, fN_8 hF, fK_9 hF, fN_9 hF, fK_10 hF, fK_11 hF, fN_11 hF, fK_12 hF, fK_13 hF, fN_13 hF, fK_14 hF, fN_14 hF, fK_15 hF, fN_15 hF, fK_16 hF, fN_16 hF, fP_12_0 hF, fP_12_1 hF, fP_12_2 hF, fP_12_3 hF, fP_12_4 hF, fP_12_5 hF, fP_12_6 hF, fP_12_7 hF, fP_4_0 hF, fP_4_1 hF, fP_4_2 hF, fP_4_3 hF, fP_11_0 hF, fP_7_0 hF, fP_7_1 hF, fP_7_2 hF, hF.cc, eb, a0, em]
            · simp [psh_some, psh_none, -Int32.not_lt, -Int32.not_le, rc_M_turn, q_M_turn_0, q_M_turn_5, q_M_turn_10, q_M_turn_13, q_M_turn_23, q_M_turn_32, q_M_turn_42, q_M_turn_57, q_M_turn_59, q_M_turn_84, q_M_turn_92, q_M_turn_101, q_M_turn_103, q_M_turn_123, q_M_turn_131, q_M_turn_138, q_M_turn_145, hL, hμ, m_isBoat, hb.1, bZ_t j1, i4, ck, h1, h2, h3, h4']
          · rw [bZ_t ⟨h1, h2, h3, h4⟩] at em
            have h4' : μ.2 33 k < μ.2 34 k := Int32.not_le.mp h4
            have w1 := b12.1 h1
            have e36 : ¬ μ.2 36 k = 0 := by intro z; rw [z] at w1; exact absurd w1.2.2 (by decide)
            have eM := c_minutesBack (σ := σ) (d + 18) (μ.2 33 k) (μ.2 35 k) w1.2.2
            have n1 : ¬ (1 : Int32) = 0 := by decide
            generalize hX0 : μ.2 33 k + dvu (μ.2 33 k * μ.2 35 k) (μ.2 36 k) = X
            have eB := c_burnt (σ := σ) (d + 18) hh X
            by_cases h5 : dvu (μ.2 20 k * X) 60 ≤ μ.2 27 k
            · have eT := c_turnBack (d + 19) (x := X) (hRB k hk).1 (a5 h1 h2)
              have hs : Sm (tk [3]) σ (sI (sI (sP σ 3 (B k) 3 (some (S (wH μ k)))) 3 (B k) 13 X) 3 (B k) 16 1) := SmsI (SmsI (SmsP (Sm.rfl' σ) rfl _ _ _) rfl _ _ _) rfl _ _ _
              have hmo : ∀ s, s < nS μ → sm (mo1 (fA (fA (fA (fA μ 26 k (μ.2 25 k)) 25 k (μ.2 26 k)) 32 k 1) 34 k X) (nI s)) (nB μ) = sm (mo1 μ (nI s)) (nB μ) := fun s _ => mo_congr (fun j _ => by
                by_cases e : j = k
                · subst e; simp [fA_2, h1]
                · simp [fA_2, e])
              refine Res.mk [3] (σ1 := sI (sI (sP σ 3 (B k) 3 (some (S (wH μ k)))) 3 (B k) 13 X) 3 (B k) 16 1) (μ' := fA (fA (fA (fA μ 26 k (μ.2 25 k)) 25 k (μ.2 26 k)) 32 k 1) 34 k X) (v := some (.int X)) (E := E) (S := S) (L := L) (B := B) (G := G) (H := H) (Q := Q) (Z := Z) (w := w) ?_ (fun τ μ0 hμ hL => ?_) ⟨hF.fr hX hs (by rintro q (rfl | rfl | rfl | rfl | rfl) <;> rfl), hz.fr hs rfl, hRX.fr hz hX hs rfl rfl rfl rfl rfl rfl rfl, RS_eq hRS rfl (fun q f => by simp [mI_sI, mI_sP]) rfl (Ar_of (by repeat' constructor)) hmo, hRL.fr hX hs rfl rfl rfl rfl rfl, ?_, RP_eq hRP (fun q => by simp [mI_sI, mI_sP]) (fun q => by simp [mI_sI, mI_sP]) rfl rfl (Ar_of (by repeat' constructor)), hRG.fr hX hs rfl rfl rfl (Ar_of (by repeat' constructor)), hRF.fr hF hX hs rfl rfl rfl rfl rfl rfl (Ar_of (by repeat' constructor)), hRT.fr hF hX hs rfl rfl rfl rfl, hRK.fr hF hX hs rfl rfl rfl rfl rfl (Ar_of (by repeat' constructor)), hRR.fr hF hX hs rfl (by rintro q (rfl | rfl | rfl | rfl | rfl | rfl | rfl | rfl) <;> rfl) rfl (Ar_of (by repeat' constructor)), hRN.fr hF hX hs rfl rfl rfl rfl rfl rfl⟩ hs (by decide) hX ?_ (by simp only [mX_sI, mX_sP]; omega) (by simp only [mS_sI, mS_sP]; omega)
              · simp [psh_some, psh_none, -Int32.not_lt, -Int32.not_le, va_rf, vd, vr, isR_r, isR_n, isA_r, isI_i, isI_r, isR_i, ar, akI, akZ, akB, akO, mI_sI, mP_sI, mK_sI, mN_sI, mX_sI, mP_sP, mI_sP, mK_sP, mN_sP, mX_sP, rc_C_turn, e_C_turn_0, e_C_turn_5, e_C_turn_10, e_C_turn_14, e_C_turn_17, e_C_turn_19, e_C_turn_38, e_C_turn_48, e_C_turn_55, e_C_turn_57, e_C_turn_62, fK_1 hF, fK_2 hF, fK_3 hF, fK_4 hF, fK_5 hF, fK_6 hF, fN_6 hF, fK_7 hF, fN_7 hF, fK_8 hF, fN_8 hF, fK_9 hF, fN_9 hF, fK_10 hF, fK_11 hF, fN_11 hF, fK_12 hF, fK_13 hF, fN_13 hF, fK_14 hF, fN_14 hF, fK_15 hF, fN_15 hF, fK_16 hF, fN_16 hF, fP_12_0 hF, fP_12_1 hF, fP_12_2 hF, fP_12_3 hF, fP_12_4 hF, fP_12_5 hF, fP_12_6 hF, fP_12_7 hF, fP_4_0 hF, fP_4_1 hF, fP_4_2 hF, fP_4_3 hF, fP_11_0 hF, fP_7_0 hF, fP_7_1 hF, fP_7_2 hF, hF.cc, eb, a0, em, a10, a12, a13, eM, hX0, a2, u0, eB, a6, h5, eT]
              · simp [psh_some, psh_none, -Int32.not_lt, -Int32.not_le, rc_M_turn, q_M_turn_0, q_M_turn_5, q_M_turn_10, q_M_turn_13, q_M_turn_23, q_M_turn_32, q_M_turn_42, q_M_turn_57, q_M_turn_59, q_M_turn_84, q_M_turn_92, q_M_turn_101, q_M_turn_103, q_M_turn_123, q_M_turn_131, q_M_turn_138, q_M_turn_145, hL, hμ, m_isBoat, hb.1, bZ_t j1, i4, ck, h1, h2, h3, h4', m_up _ _ _ e36, hX0, m_burns (d + 18) hL (show k < 6 by omega), h5, fA_2]
              · refine RB_upd hRB hC hk rfl (fun j hj f => by simp [mI_sI, mI_sP, hj]) (fun j hj f => by simp [mP_sI, mP_sP, hj]) (fun q f => by simp [mI_sI, mI_sP]) rfl rfl (fun f _ _ j hj => by simp [fA_2, hj]) (fun f h1 h2 => by have e1 : f ≠ 34 := (by omega); have e2 : f ≠ 32 := (by omega); have e3 : f ≠ 25 := (by omega); have e4 : f ≠ 26 := (by omega); simp [fA_2, e1, e2, e3, e4]) ?_
                simp +contextual [RB1, aT, wH, mI_sI, mP_sI, mK_sI, mI_sP, mP_sP, mK_sP, fA_2, fA_1, a0, a1, a2, a3, a6, a7, a8, a9, a10, a11, a12, a13, a14, a15, n1]
              · refine ⟨hC, WS_eq hW.2.1 rfl (Ar_of (by repeat' constructor)) hmo, hW.2.2.1, WB_upd hW.2.2.2.1 hk rfl rfl (fun f _ _ j hj => by simp [fA_2, hj]) ?_, WG_eq hW.2.2.2.2.1 rfl rfl rfl (Ar_of (by repeat' constructor)), hW.2.2.2.2.2.1, hW.2.2.2.2.2.2⟩
                have q1 : (fA (fA (fA (fA μ 26 k (μ.2 25 k)) 25 k (μ.2 26 k)) 32 k 1) 34 k X).2 25 k = μ.2 26 k := by simp [fA_2]
                have q2 : (fA (fA (fA (fA μ 26 k (μ.2 25 k)) 25 k (μ.2 26 k)) 32 k 1) 34 k X).2 26 k = μ.2 25 k := by simp [fA_2]
                refine ⟨?_, b1, b2, b3, b4, b5, b6, b7, b8, b9, b10, Or.inr (by simp [fA_2]), fun _ => ?_, b12.2⟩
                · unfold aT; rw [q1]; exact ⟨w1.1, w1.2.1⟩
                · unfold wH; rw [q2]; exact ⟨b0.1, b0.2, w1.2.2⟩
            · refine Res.same hR hX hW (v := some (.int (-1))) ?_ (fun τ μ0 hμ hL => ?_)
              · simp [psh_some, psh_none, -Int32.not_lt, -Int32.not_le, va_rf, vd, vr, isR_r, isR_n, isA_r, isI_i, isI_r, isR_i, ar, akI, akZ, akB, akO, mI_sI, mP_sI, mK_sI, mN_sI, mX_sI, mP_sP, mI_sP, mK_sP, mN_sP, mX_sP, rc_C_turn, e_C_turn_0, e_C_turn_5, e_C_turn_10, e_C_turn_14, e_C_turn_17, e_C_turn_19, e_C_turn_38, e_C_turn_48, e_C_turn_55, e_C_turn_57, e_C_turn_62, fK_1 hF, fK_2 hF, fK_3 hF, fK_4 hF, fK_5 hF, fK_6 hF, fN_6 hF, fK_7 hF, fN_7 hF, fK_8 hF, fN_8 hF, fK_9 hF, fN_9 hF, fK_10 hF, fK_11 hF, fN_11 hF, fK_12 hF, fK_13 hF, fN_13 hF, fK_14 hF, fN_14 hF, fK_15 hF, fN_15 hF, fK_16 hF, fN_16 hF, fP_12_0 hF, fP_12_1 hF, fP_12_2 hF, fP_12_3 hF, fP_12_4 hF, fP_12_5 hF, fP_12_6 hF, fP_12_7 hF, fP_4_0 hF, fP_4_1 hF, fP_4_2 hF, fP_4_3 hF, fP_11_0 hF, fP_7_0 hF, fP_7_1 hF, fP_7_2 hF, hF.cc, eb, a0, em, a10, a12, a13, eM, hX0, a2, u0, eB, a6, h5]
              · simp [psh_some, psh_none, -Int32.not_lt, -Int32.not_le, rc_M_turn, q_M_turn_0, q_M_turn_5, q_M_turn_10, q_M_turn_13, q_M_turn_23, q_M_turn_32, q_M_turn_42, q_M_turn_57, q_M_turn_59, q_M_turn_84, q_M_turn_92, q_M_turn_101, q_M_turn_103, q_M_turn_123, q_M_turn_131, q_M_turn_138, q_M_turn_145, hL, hμ, m_isBoat, hb.1, bZ_t j1, i4, ck, h1, h2, h3, h4', m_up _ _ _ e36, hX0, m_burns (d + 18) hL (show k < 6 by omega), h5]
      · rw [bZ_f (fun z => h2 z.2.1)] at em
        refine Res.same hR hX hW (v := some (.int (-1))) ?_ (fun τ μ0 hμ hL => ?_)
        · simp [psh_some, psh_none, -Int32.not_lt, -Int32.not_le, va_rf, vd, vr, isR_r, isR_n, isA_r, isI_i, isI_r, isR_i, ar, akI, akZ, akB, akO, mI_sI, mP_sI, mK_sI, mN_sI, mX_sI, mP_sP, mI_sP, mK_sP, mN_sP, mX_sP, rc_C_turn, e_C_turn_0, e_C_turn_5, e_C_turn_10, e_C_turn_14, e_C_turn_17, e_C_turn_19, e_C_turn_38, e_C_turn_48, e_C_turn_55, e_C_turn_57, e_C_turn_62, fK_1 hF, fK_2 hF, fK_3 hF, fK_4 hF, fK_5 hF, fK_6 hF, fN_6 hF, fK_7 hF, fN_7 hF, fK_8 hF, fN_8 hF, fK_9 hF, fN_9 hF, fK_10 hF, fK_11 hF, fN_11 hF, fK_12 hF, fK_13 hF, fN_13 hF, fK_14 hF, fN_14 hF, fK_15 hF, fN_15 hF, fK_16 hF, fN_16 hF, fP_12_0 hF, fP_12_1 hF, fP_12_2 hF, fP_12_3 hF, fP_12_4 hF, fP_12_5 hF, fP_12_6 hF, fP_12_7 hF, fP_4_0 hF, fP_4_1 hF, fP_4_2 hF, fP_4_3 hF, fP_11_0 hF, fP_7_0 hF, fP_7_1 hF, fP_7_2 hF, hF.cc, eb, a0, em]
        · simp [psh_some, psh_none, -Int32.not_lt, -Int32.not_le, rc_M_turn, q_M_turn_0, q_M_turn_5, q_M_turn_10, q_M_turn_13, q_M_turn_23, q_M_turn_32, q_M_turn_42, q_M_turn_57, q_M_turn_59, q_M_turn_84, q_M_turn_92, q_M_turn_101, q_M_turn_103, q_M_turn_123, q_M_turn_131, q_M_turn_138, q_M_turn_145, hL, hμ, m_isBoat, hb.1, bZ_t j1, i4, ck, h1, h2]
    · rw [bZ_f (fun z => h1 z.1)] at em
      refine Res.same hR hX hW (v := some (.int (-1))) ?_ (fun τ μ0 hμ hL => ?_)
      · simp [psh_some, psh_none, -Int32.not_lt, -Int32.not_le, va_rf, vd, vr, isR_r, isR_n, isA_r, isI_i, isI_r, isR_i, ar, akI, akZ, akB, akO, mI_sI, mP_sI, mK_sI, mN_sI, mX_sI, mP_sP, mI_sP, mK_sP, mN_sP, mX_sP, rc_C_turn, e_C_turn_0, e_C_turn_5, e_C_turn_10, e_C_turn_14, e_C_turn_17, e_C_turn_19, e_C_turn_38, e_C_turn_48, e_C_turn_55, e_C_turn_57, e_C_turn_62, fK_1 hF, fK_2 hF, fK_3 hF, fK_4 hF, fK_5 hF, fK_6 hF, fN_6 hF, fK_7 hF, fN_7 hF, fK_8 hF, fN_8 hF, fK_9 hF, fN_9 hF, fK_10 hF, fK_11 hF, fN_11 hF, fK_12 hF, fK_13 hF, fN_13 hF, fK_14 hF, fN_14 hF, fK_15 hF, fN_15 hF, fK_16 hF, fN_16 hF, fP_12_0 hF, fP_12_1 hF, fP_12_2 hF, fP_12_3 hF, fP_12_4 hF, fP_12_5 hF, fP_12_6 hF, fP_12_7 hF, fP_4_0 hF, fP_4_1 hF, fP_4_2 hF, fP_4_3 hF, fP_11_0 hF, fP_7_0 hF, fP_7_1 hF, fP_7_2 hF, hF.cc, eb, a0, em]
      · simp [psh_some, psh_none, -Int32.not_lt, -Int32.not_le, rc_M_turn, q_M_turn_0, q_M_turn_5, q_M_turn_10, q_M_turn_13, q_M_turn_23, q_M_turn_32, q_M_turn_42, q_M_turn_57, q_M_turn_59, q_M_turn_84, q_M_turn_92, q_M_turn_101, q_M_turn_103, q_M_turn_123, q_M_turn_131, q_M_turn_138, q_M_turn_145, hL, hμ, m_isBoat, hb.1, bZ_t j1, i4, ck, h1]
  · refine Res.same hR hX hW (v := some (.int (-1))) ?_ (fun τ μ0 hμ hL => ?_)
    · simp [psh_some, psh_none, -Int32.not_lt, -Int32.not_le, va_rf, vd, vr, isR_r, isR_n, isA_r, isI_i, isI_r, isR_i, ar, akI, akZ, akB, akO, mI_sI, mP_sI, mK_sI, mN_sI, mX_sI, mP_sP, mI_sP, mK_sP, mN_sP, mX_sP, rc_C_turn, e_C_turn_0, e_C_turn_5, e_C_turn_10, e_C_turn_14, e_C_turn_17, e_C_turn_19, e_C_turn_38, e_C_turn_48, e_C_turn_55, e_C_turn_57, e_C_turn_62, fK_1 hF, fK_2 hF, fK_3 hF, fK_4 hF, fK_5 hF, fK_6 hF, fN_6 hF, fK_7 hF, fN_7 hF, fK_8 hF, fN_8 hF, fK_9 hF, fN_9 hF, fK_10 hF, fK_11 hF, fN_11 hF, fK_12 hF, fK_13 hF, fN_13 hF, fK_14 hF, fN_14 hF, fK_15 hF, fN_15 hF, fK_16 hF, fN_16 hF, fP_12_0 hF, fP_12_1 hF, fP_12_2 hF, fP_12_3 hF, fP_12_4 hF, fP_12_5 hF, fP_12_6 hF, fP_12_7 hF, fP_4_0 hF, fP_4_1 hF, fP_4_2 hF, fP_4_3 hF, fP_11_0 hF, fP_7_0 hF, fP_7_1 hF, fP_7_2 hF, hF.cc, c_boatAt_no (d + 16) hF hRX hC hno]
    · simp [psh_some, psh_none, -Int32.not_lt, -Int32.not_le, rc_M_turn, q_M_turn_0, q_M_turn_5, q_M_turn_10, q_M_turn_13, q_M_turn_23, q_M_turn_32, q_M_turn_42, q_M_turn_57, q_M_turn_59, q_M_turn_84, q_M_turn_92, q_M_turn_101, q_M_turn_103, q_M_turn_123, q_M_turn_131, q_M_turn_138, q_M_turn_145, hL, hμ, m_isBoat, hb.1, bZ_f (no_ix hno)]
theorem c_free' {s : Nat} (hS : RS σ S μ) (hs : s < nS μ) : runc d 47 [.ref (S s)] σ = some (some (.int (frA μ s)), σ) := by
  have h := hS s hs
  simp [psh_some, psh_none, -Int32.not_lt, -Int32.not_le, va_rf, vd, vr, isR_r, isR_n, isA_r, isI_i, isI_r, isR_i, ar, akI, akZ, akB, akO, mI_sI, mP_sI, mK_sI, mN_sI, mX_sI, mP_sP, mI_sP, mK_sP, mN_sP, mX_sP, rc_Stop_freeBuoys, e_Stop_freeBuoys_0, h, frA]
/-- one boat more lies at its stop -/
theorem RS_moor {σ' : Mm} {k : Nat} (hRS : RS σ S μ) (hC : Cn μ) (hk : k < nB μ) (hs : aT μ k < nS μ) (hK : mK σ' = mK σ) (hI : ∀ q f, (q ≠ S (aT μ k) ∨ f ≠ 5) → mI σ' 10 q f = mI σ 10 q f) (h5 : mI σ' 10 (S (aT μ k)) 5 = mI σ 10 (S (aT μ k)) 5 + 1) (ea : μ.2 25 k = nI (aT μ k)) (e0 : ¬ μ.2 24 k = 0) (e2 : μ'.1 2 = μ.1 2) (eb : μ'.1 16 = μ.1 16) (e : Ar [3, 4, 5, 6, 25] μ μ') (e4 : ∀ j, j ≠ k → μ'.2 24 j = μ.2 24 j) (e4k : μ'.2 24 k = 0) : RS σ' S μ' ∧ ∀ s, s < nS μ → sm (mo1 μ' (nI s)) (nB μ') = sm (mo1 μ (nI s)) (nB μ) + (if s = aT μ k then 1 else 0) := by
  have hn : nB μ' = nB μ := by unfold nB; rw [eb]
  have hn2 : nS μ' = nS μ := by unfold nS; rw [e2]
  have h12 := hC.s.2
  have hm : ∀ s, s < nS μ → sm (mo1 μ' (nI s)) (nB μ') = sm (mo1 μ (nI s)) (nB μ) + (if s = aT μ k then 1 else 0) := by
    intro s hs'
    rw [hn, mo_up (μ := μ) (μ' := μ') hk e4 (fun j _ => by rw [e 25 (by decide)])]
    have q1 : mo1 μ (nI s) k = 0 := by simp [mo1, e0]
    have q2 : mo1 μ' (nI s) k = if s = aT μ k then 1 else 0 := by
      simp only [mo1, e4k, e 25 (by decide), ea, true_and]
      by_cases z : s = aT μ k
      · rw [if_pos (by rw [z]), if_pos z]
      · rw [if_neg (by rw [nI_eq (by omega) (by omega)]; omega), if_neg z]
    rw [q1, q2, sub_zero']
  refine ⟨fun j hj => ?_, hm⟩
  rw [hn2] at hj
  obtain ⟨y0, y1, y2, y3, y4, y5, y6⟩ := hRS j hj
  rw [hm j hj, hK, e 3 (by decide), e 4 (by decide), e 5 (by decide), e 6 (by decide), hI _ 0 (Or.inr (by decide)), hI _ 1 (Or.inr (by decide)), hI _ 2 (Or.inr (by decide)), hI _ 3 (Or.inr (by decide)), hI _ 4 (Or.inr (by decide))]
  refine ⟨y0, y1, y2, y3, y4, y5, ?_⟩
  by_cases z : j = aT μ k
  · rw [if_pos z, ← y6, z, h5]
  · rw [if_neg z, hI _ 5 (Or.inl (fun q => z (hRS.inj hC hj hs q))), y6, add_zero']
theorem ok_raise (x : Int32) : Ok 80 171 [.int x] := by
  refine Ok_of fun d σ c a E S L B G H Q Z w μ hR hLM hX hW => ?_
  have hC := hW.1
  obtain ⟨hF, hz, hRX, hRS, hRL, hRB, hRP, hRG, hRF, hRT, hRK, hRR, hRN⟩ := id hR
  have hb := hC.b
  have hs12 := hC.s.2
  rcases nIx x (n := nB μ) (by omega) with ⟨k, hk, rfl⟩ | hno
  · have i4 : ix (nI k) 6 = true := ix_of (by omega) (by omega); have ck := cl6 (show k < 6 by omega); have j1 := is_ix hk (show nB μ ≤ 1000 by omega); obtain ⟨a0, a1, a2, a3, a4, a5, a6, a7, a8, a9, a10, a11, a12, a13, a14, a15⟩ := (hRB k hk).1; have hh := (hRB k hk).2; obtain ⟨u0, u1, u2, u3, u4, u5, u6, u7⟩ := (hRB k hk).2; obtain ⟨b0, b1, b2, b3, b4, b5, b6, b7, b8, b9, b10, b11, b12⟩ := hW.2.2.2.1.1 k hk; have hS := hRS _ b0.2; have i5 : ix (nI (aT μ k)) 12 = true := ix_of (by omega) (by omega); have ca := cl12 (show aT μ k < 12 by omega)
    have eb := c_boatAt (d + 16) hF hRX hC hk a0
    have ef := c_free' (d + 19) hRS b0.2
    obtain ⟨f, hf4, hf⟩ := (hW.2.1.1 _ b0.2).2.2.2.2
    by_cases h1 : μ.2 24 k = 2
    · by_cases h2 : f = 0
      · rw [h2, nI_0] at hf
        rw [hf] at ef
        have hf' := hf; unfold frA at hf'
        refine Res.same hR hX hW (v := some (.int 0)) ?_ (fun τ μ0 hμ hL => ?_)
        · simp [psh_some, psh_none, -Int32.not_lt, -Int32.not_le, va_rf, vd, vr, isR_r, isR_n, isA_r, isI_i, isI_r, isR_i, ar, akI, akZ, akB, akO, mI_sI, mP_sI, mK_sI, mN_sI, mX_sI, mP_sP, mI_sP, mK_sP, mN_sP, mX_sP, rc_C_raise, e_C_raise_0, e_C_raise_5, e_C_raise_10, e_C_raise_18, e_C_raise_25, e_C_raise_29, e_C_raise_31, e_C_raise_44, e_C_raise_49, e_C_raise_54, fK_1 hF, fK_2 hF, fK_3 hF, fK_4 hF, fK_5 hF, fK_6 hF, fN_6 hF, fK_7 hF, fN_7 hF, fK_8 hF, fN_8 hF, fK_9 hF, fN_9 hF, fK_10 hF, fK_11 hF, fN_11 hF, fK_12 hF, fK_13 hF, fN_13 hF, fK_14 hF, fN_14 hF, fK_15 hF, fN_15 hF, fK_16 hF, fN_16 hF, fP_12_0 hF, fP_12_1 hF, fP_12_2 hF, fP_12_3 hF, fP_12_4 hF, fP_12_5 hF, fP_12_6 hF, fP_12_7 hF, fP_4_0 hF, fP_4_1 hF, fP_4_2 hF, fP_4_3 hF, fP_11_0 hF, fP_7_0 hF, fP_7_1 hF, fP_7_2 hF, hF.cc, eb, a0, a3, h1, a4, hS, ef]
        · have e2 := m_freeAt (d + 19) hL hC.b.2 hC.b.1 (show aT μ k < 12 by omega)
          simp [psh_some, psh_none, -Int32.not_lt, -Int32.not_le, rc_M_raise, q_M_raise_0, q_M_raise_5, q_M_raise_10, q_M_raise_13, q_M_raise_23, q_M_raise_33, q_M_raise_36, q_M_raise_38, q_M_raise_45, q_M_raise_52, q_M_raise_59, hL, hμ, m_isBoat, hb.1, bZ_t j1, i4, ck, h1, b0.1, e2, hf']
      · have h0 : ¬ μ.2 24 k = 0 := by rw [h1]; decide
        have hf' := hf; unfold frA at hf'
        have q1 : (1 : Int32) ≤ nI f := nI_le (a := 1) (by omega) (by omega)
        have q2 : ¬ nI f = 0 := nI_ne0 (by omega) (by omega)
        rw [hf] at ef
        have hs : Sm (tk [3, 10]) σ (sI (sI (sI σ 10 (S (aT μ k)) 5 (sm (mo1 μ (nI (aT μ k))) (nB μ) + 1)) 3 (B k) 2 0) 3 (B k) 11 1) := SmsI (SmsI (SmsI (Sm.rfl' σ) rfl _ _ _) rfl _ _ _) rfl _ _ _
        obtain ⟨hRS', hmo⟩ := RS_moor (σ' := sI (sI (sI σ 10 (S (aT μ k)) 5 (sm (mo1 μ (nI (aT μ k))) (nB μ) + 1)) 3 (B k) 2 0) 3 (B k) 11 1) (μ' := fA (fA (fA μ 24 k 0) 31 k 1) 27 k 0) hRS hC hk b0.2 rfl (fun q f hq => by
          rw [mI_sI, if_neg (by omega), mI_sI, if_neg (by omega), mI_sI, if_neg (by omega)]) (by simp [mI_sI, hS]) b0.1 h0 rfl rfl (Ar_of (by repeat' constructor)) (fun j hj => by simp [fA_2, hj]) (by simp [fA_2])
        refine Res.mk [3, 10] (σ1 := sI (sI (sI σ 10 (S (aT μ k)) 5 (sm (mo1 μ (nI (aT μ k))) (nB μ) + 1)) 3 (B k) 2 0) 3 (B k) 11 1) (μ' := fA (fA (fA μ 24 k 0) 31 k 1) 27 k 0) (v := some (.int 1)) (E := E) (S := S) (L := L) (B := B) (G := G) (H := H) (Q := Q) (Z := Z) (w := w) ?_ (fun τ μ0 hμ hL => ?_) ⟨hF.fr hX hs (by rintro q (rfl | rfl | rfl | rfl | rfl) <;> rfl), hz.fr hs rfl, hRX.fr hz hX hs rfl rfl rfl rfl rfl rfl rfl, hRS', hRL.fr hX hs rfl rfl rfl rfl rfl, ?_, RP_eq hRP (fun q => by simp [mI_sI, mI_sP]) (fun q => by simp [mI_sI, mI_sP]) rfl rfl (Ar_of (by repeat' constructor)), hRG.fr hX hs rfl rfl rfl (Ar_of (by repeat' constructor)), hRF.fr hF hX hs rfl rfl rfl rfl rfl rfl (Ar_of (by repeat' constructor)), hRT.fr hF hX hs rfl rfl rfl rfl, hRK.fr hF hX hs rfl rfl rfl rfl rfl (Ar_of (by repeat' constructor)), hRR.fr hF hX hs rfl (by rintro q (rfl | rfl | rfl | rfl | rfl | rfl | rfl | rfl) <;> rfl) rfl (Ar_of (by repeat' constructor)), hRN.fr hF hX hs rfl rfl rfl rfl rfl rfl⟩ hs (by decide) hX ?_ (by simp only [mX_sI, mX_sP]; omega) (by simp only [mS_sI, mS_sP]; omega)
        · simp [psh_some, psh_none, -Int32.not_lt, -Int32.not_le, va_rf, vd, vr, isR_r, isR_n, isA_r, isI_i, isI_r, isR_i, ar, akI, akZ, akB, akO, mI_sI, mP_sI, mK_sI, mN_sI, mX_sI, mP_sP, mI_sP, mK_sP, mN_sP, mX_sP, rc_C_raise, e_C_raise_0, e_C_raise_5, e_C_raise_10, e_C_raise_18, e_C_raise_25, e_C_raise_29, e_C_raise_31, e_C_raise_44, e_C_raise_49, e_C_raise_54, fK_1 hF, fK_2 hF, fK_3 hF, fK_4 hF, fK_5 hF, fK_6 hF, fN_6 hF, fK_7 hF, fN_7 hF, fK_8 hF, fN_8 hF, fK_9 hF, fN_9 hF, fK_10 hF, fK_11 hF, fN_11 hF, fK_12 hF, fK_13 hF, fN_13 hF, fK_14 hF, fN_14 hF, fK_15 hF, fN_15 hF, fK_16 hF, fN_16 hF, fP_12_0 hF, fP_12_1 hF, fP_12_2 hF, fP_12_3 hF, fP_12_4 hF, fP_12_5 hF, fP_12_6 hF, fP_12_7 hF, fP_4_0 hF, fP_4_1 hF, fP_4_2 hF, fP_4_3 hF, fP_11_0 hF, fP_7_0 hF, fP_7_1 hF, fP_7_2 hF, hF.cc, eb, a0, a3, h1, a4, hS, ef, q1]
        · have e2 := m_freeAt (d + 19) hL hC.b.2 hC.b.1 (show aT μ k < 12 by omega)
          simp [psh_some, psh_none, -Int32.not_lt, -Int32.not_le, rc_M_raise, q_M_raise_0, q_M_raise_5, q_M_raise_10, q_M_raise_13, q_M_raise_23, q_M_raise_33, q_M_raise_36, q_M_raise_38, q_M_raise_45, q_M_raise_52, q_M_raise_59, hL, hμ, m_isBoat, hb.1, bZ_t j1, i4, ck, h1, b0.1, e2, hf', q2]
        · refine RB_upd hRB hC hk rfl (fun j hj f => by simp [mI_sI, mI_sP, hj]) (fun j hj f => rfl) (fun q f => by simp [mI_sI, mI_sP]) rfl rfl (fun f _ _ j hj => by simp [fA_2, hj]) (fun f h1 h2 => by have e1 : f ≠ 24 := (by omega); have e2 : f ≠ 31 := (by omega); have e3 : f ≠ 27 := (by omega); simp [fA_2, e1, e2, e3]) ?_
          have h27 := b12.2 h1
          simp +contextual [RB1, aT, wH, mI_sI, mP_sI, mK_sI, mI_sP, mP_sP, mK_sP, fA_2, fA_1, a0, a1, a2, a3, a6, a7, a8, a9, a10, a11, a12, a13, a14, a15, h27]
          exact a4
        · refine ⟨hC, ⟨fun j hj => ?_, hW.2.1.2⟩, hW.2.2.1, WB_upd hW.2.2.2.1 hk rfl rfl (fun f _ _ j hj => by simp [fA_2, hj]) ?_, WG_eq hW.2.2.2.2.1 rfl rfl rfl (Ar_of (by repeat' constructor)), hW.2.2.2.2.2.1, hW.2.2.2.2.2.2⟩
          · obtain ⟨y0, y1, y2, y3, f', y4, y5⟩ := hW.2.1.1 j hj
            refine ⟨y0, y1, y2, y3, ?_⟩
            unfold frA at y5 ⊢
            rw [hmo j hj]
            by_cases z : j = aT μ k
            · rw [if_pos z]
              subst z
              refine ⟨f - 1, by omega, ?_⟩
              rw [← pk_sub (show 1 ≤ f by omega), ← hf']
              show μ.2 3 _ - _ = _
              rw [← sub_sub']
              rfl
            · rw [if_neg z, add_zero']
              exact ⟨f', y4, y5⟩
          · obtain ⟨t, f0, t1, t2, t3, t4, t5⟩ := b5
            have q3 : (fA (fA (fA μ 24 k 0) 31 k 1) 27 k 0).2 24 k = 0 := by simp [fA_2]
            obtain ⟨r, r1, r2, r3⟩ := b9
            refine ⟨b0, b1, b2, b3, b4, ⟨t, 0, t1, t2, t3, by omega, by simp [fA_2, nI_0]⟩, b6, b7, b8, ⟨r, r1, r2, fun _ => q3⟩, Or.inr (by simp [fA_2]), b11, fun z => ?_, fun z => ?_⟩
            · rw [q3] at z; exact absurd z (by decide)
            · rw [q3] at z; exact absurd z (by decide)
    · refine Res.same hR hX hW (v := some (.int 0)) ?_ (fun τ μ0 hμ hL => ?_)
      · simp [psh_some, psh_none, -Int32.not_lt, -Int32.not_le, va_rf, vd, vr, isR_r, isR_n, isA_r, isI_i, isI_r, isR_i, ar, akI, akZ, akB, akO, mI_sI, mP_sI, mK_sI, mN_sI, mX_sI, mP_sP, mI_sP, mK_sP, mN_sP, mX_sP, rc_C_raise, e_C_raise_0, e_C_raise_5, e_C_raise_10, e_C_raise_18, e_C_raise_25, e_C_raise_29, e_C_raise_31, e_C_raise_44, e_C_raise_49, e_C_raise_54, fK_1 hF, fK_2 hF, fK_3 hF, fK_4 hF, fK_5 hF, fK_6 hF, fN_6 hF, fK_7 hF, fN_7 hF, fK_8 hF, fN_8 hF, fK_9 hF, fN_9 hF, fK_10 hF, fK_11 hF, fN_11 hF, fK_12 hF, fK_13 hF, fN_13 hF, fK_14 hF, fN_14 hF, fK_15 hF, fN_15 hF, fK_16 hF, fN_16 hF, fP_12_0 hF, fP_12_1 hF, fP_12_2 hF, fP_12_3 hF, fP_12_4 hF, fP_12_5 hF, fP_12_6 hF, fP_12_7 hF, fP_4_0 hF, fP_4_1 hF, fP_4_2 hF, fP_4_3 hF, fP_11_0 hF, fP_7_0 hF, fP_7_1 hF, fP_7_2 hF, hF.cc, eb, a0, a3, h1]
      · simp [psh_some, psh_none, -Int32.not_lt, -Int32.not_le, rc_M_raise, q_M_raise_0, q_M_raise_5, q_M_raise_10, q_M_raise_13, q_M_raise_23, q_M_raise_33, q_M_raise_36, q_M_raise_38, q_M_raise_45, q_M_raise_52, q_M_raise_59, hL, hμ, m_isBoat, hb.1, bZ_t j1, i4, ck, h1]
  · refine Res.same hR hX hW (v := some (.int 0)) ?_ (fun τ μ0 hμ hL => ?_)
    · simp [psh_some, psh_none, -Int32.not_lt, -Int32.not_le, va_rf, vd, vr, isR_r, isR_n, isA_r, isI_i, isI_r, isR_i, ar, akI, akZ, akB, akO, mI_sI, mP_sI, mK_sI, mN_sI, mX_sI, mP_sP, mI_sP, mK_sP, mN_sP, mX_sP, rc_C_raise, e_C_raise_0, e_C_raise_5, e_C_raise_10, e_C_raise_18, e_C_raise_25, e_C_raise_29, e_C_raise_31, e_C_raise_44, e_C_raise_49, e_C_raise_54, fK_1 hF, fK_2 hF, fK_3 hF, fK_4 hF, fK_5 hF, fK_6 hF, fN_6 hF, fK_7 hF, fN_7 hF, fK_8 hF, fN_8 hF, fK_9 hF, fN_9 hF, fK_10 hF, fK_11 hF, fN_11 hF, fK_12 hF, fK_13 hF, fN_13 hF, fK_14 hF, fN_14 hF, fK_15 hF, fN_15 hF, fK_16 hF, fN_16 hF, fP_12_0 hF, fP_12_1 hF, fP_12_2 hF, fP_12_3 hF, fP_12_4 hF, fP_12_5 hF, fP_12_6 hF, fP_12_7 hF, fP_4_0 hF, fP_4_1 hF, fP_4_2 hF, fP_4_3 hF, fP_11_0 hF, fP_7_0 hF, fP_7_1 hF, fP_7_2 hF, hF.cc, c_boatAt_no (d + 16) hF hRX hC hno]
    · simp [psh_some, psh_none, -Int32.not_lt, -Int32.not_le, rc_M_raise, q_M_raise_0, q_M_raise_5, q_M_raise_10, q_M_raise_13, q_M_raise_23, q_M_raise_33, q_M_raise_36, q_M_raise_38, q_M_raise_45, q_M_raise_52, q_M_raise_59, hL, hμ, m_isBoat, hb.1, bZ_f (no_ix hno)]
/-- heads that rest at s -/
def hd1 (μ : Ms) (s : Int32) (j : Nat) : Int32 := if μ.2 24 j = 0 ∧ μ.2 25 j = s ∧ ¬ μ.2 30 j ≤ 0 then μ.2 23 j else 0
theorem c_isResting {b h k : Nat} (a : RB1 σ S b h μ k) (hC : Cn μ) : runc d 4 [.ref b, .int (μ.1 1)] σ = some (some (.int (bZ (0 < μ.2 30 k))), σ) := by
  obtain ⟨a0, a1, a2, a3, a4, a5, a6, a7, a8, a9, a10, a11, a12, a13, a14, a15⟩ := a
  have hw := hC.w
  have e : (0 < μ.2 30 k) = (μ.1 1 < mI σ 3 b 10) := by rw [a15, hw.1]; exact rsl_pos hw.2 _
  simp only [e]
  by_cases z : μ.1 1 < mI σ 3 b 10
  · have z2 : ¬ mI σ 3 b 10 ≤ μ.1 1 := Int32.not_le.mpr z
    simp [psh_some, psh_none, -Int32.not_lt, -Int32.not_le, va_rf, vd, vr, isR_r, isR_n, isA_r, isI_i, isI_r, isR_i, ar, akI, akZ, akB, akO, mI_sI, mP_sI, mK_sI, mN_sI, mX_sI, mP_sP, mI_sP, mK_sP, mN_sP, mX_sP, rc_Boat_isResting, e_Boat_isResting_0, e_Boat_isResting_8, e_Boat_isResting_12, e_Boat_isResting_13, a0, z, z2, bZ]
  · have z2 : mI σ 3 b 10 ≤ μ.1 1 := Int32.not_lt.mp z
    simp [psh_some, psh_none, -Int32.not_lt, -Int32.not_le, va_rf, vd, vr, isR_r, isR_n, isA_r, isI_i, isI_r, isR_i, ar, akI, akZ, akB, akO, mI_sI, mP_sI, mK_sI, mN_sI, mX_sI, mP_sP, mI_sP, mK_sP, mN_sP, mX_sP, rc_Boat_isResting, e_Boat_isResting_0, e_Boat_isResting_8, e_Boat_isResting_12, e_Boat_isResting_13, a0, z, z2, bZ]
theorem heads_lp (hF : FL σ c) (hX : RX σ c E S L B G μ) (hC : Cn μ) (hB : RB σ S B H μ) (hS : RS σ S μ) (hN : RN σ c μ) (hWB : ∀ k, k < nB μ → WB1 μ k) {s : Nat} (hs : s < nS μ) : ∀ (y j : Nat) (u4 : Value), j + y = nB μ → run (d + 3) 100 4 [.ref c, .ref (S s), .int (sm (hd1 μ (nI s)) j), .int (nI j), u4] [] σ = some (some (.int (sm (hd1 μ (nI s)) (nB μ))), σ) := by
  have hl := hX.2.2.1
  have hb := hC.b
  have h12 := hC.s.2
  intro y
  induction y with
  | zero =>
    intro j u4 hj
    have : j = nB μ := by omega
    subst this
    simp [psh_some, psh_none, -Int32.not_lt, -Int32.not_le, va_rf, vd, vr, isR_r, isR_n, isA_r, isI_i, isI_r, isR_i, ar, akI, akZ, akB, akO, mI_sI, mP_sI, mK_sI, mN_sI, mX_sI, mP_sP, mI_sP, mK_sP, mN_sP, mX_sP, rc_C_headsResting, e_C_headsResting_0, e_C_headsResting_4, e_C_headsResting_14, e_C_headsResting_17, e_C_headsResting_27, e_C_headsResting_41, e_C_headsResting_50, e_C_headsResting_53, e_C_headsResting_64, e_C_headsResting_70, fK_1 hF, fK_2 hF, fK_3 hF, fK_4 hF, fK_5 hF, fK_6 hF, fN_6 hF, fK_7 hF, fN_7 hF, fK_8 hF, fN_8 hF, fK_9 hF, fN_9 hF, fK_10 hF, fK_11 hF, fN_11 hF, fK_12 hF, fK_13 hF, fN_13 hF, fK_14 hF, fN_14 hF, fK_15 hF, fN_15 hF, fK_16 hF, fN_16 hF, fP_12_0 hF, fP_12_1 hF, fP_12_2 hF, fP_12_3 hF, fP_12_4 hF, fP_12_5 hF, fP_12_6 hF, fP_12_7 hF, fP_4_0 hF, fP_4_1 hF, fP_4_2 hF, fP_4_3 hF, fP_11_0 hF, fP_7_0 hF, fP_7_1 hF, fP_7_2 hF, hF.cc, c_size _ hl.1, hl.2.1]
  | succ y ih =>
    intro j u4 hj
    have h1 := ih (j + 1) (.ref (B j)) (by omega)
    have h2 : ¬ nI (nB μ) ≤ nI j := nI_ge (by omega) (by omega)
    have hbj := (hB j (by omega)).1
    have hw := hWB j (by omega)
    have hw2 := hw.1.2
    have eg := c_get (d) hl (by omega) (show j < nB μ by omega)
    have er := c_isResting (d + 2) hbj hC
    obtain ⟨a0, a1, a2, a3, a4, a5, a6, a7, a8, a9, a10, a11, a12, a13, a14, a15⟩ := id hbj
    obtain ⟨u0, u1, u2, u3, u4, u5, u6, u7⟩ := (hB j (by omega)).2
    have i1 : (S (aT μ j) = S s) ↔ aT μ j = s := ⟨fun e => hS.inj hC hw.1.2 hs e, fun e => by rw [e]⟩
    rw [sm, nI_succ] at h1
    by_cases c1 : aT μ j = s
    · by_cases c2 : 0 < μ.2 30 j
      · have c3 : μ.2 24 j = 0 := by
          obtain ⟨r, r1, r2, r3⟩ := hw.2.2.2.2.2.2.2.2.2.1
          refine r3 ?_
          rw [r2, show (0 : Int32) = nI 0 from rfl, nI_ltI (by omega) (by omega)] at c2
          exact c2
        have c4 : ¬ μ.2 30 j ≤ 0 := Int32.not_le.mpr c2
        have e : hd1 μ (nI s) j = μ.2 23 j := if_pos ⟨c3, by rw [hw.1.1, c1], c4⟩
        rw [e] at h1
        rw [bZ_t c2] at er
        simp [psh_some, psh_none, -Int32.not_lt, -Int32.not_le, va_rf, vd, vr, isR_r, isR_n, isA_r, isI_i, isI_r, isR_i, ar, akI, akZ, akB, akO, mI_sI, mP_sI, mK_sI, mN_sI, mX_sI, mP_sP, mI_sP, mK_sP, mN_sP, mX_sP, rc_C_headsResting, e_C_headsResting_0, e_C_headsResting_4, e_C_headsResting_14, e_C_headsResting_17, e_C_headsResting_27, e_C_headsResting_41, e_C_headsResting_50, e_C_headsResting_53, e_C_headsResting_64, e_C_headsResting_70, fK_1 hF, fK_2 hF, fK_3 hF, fK_4 hF, fK_5 hF, fK_6 hF, fN_6 hF, fK_7 hF, fN_7 hF, fK_8 hF, fN_8 hF, fK_9 hF, fN_9 hF, fK_10 hF, fK_11 hF, fN_11 hF, fK_12 hF, fK_13 hF, fN_13 hF, fK_14 hF, fN_14 hF, fK_15 hF, fN_15 hF, fK_16 hF, fN_16 hF, fP_12_0 hF, fP_12_1 hF, fP_12_2 hF, fP_12_3 hF, fP_12_4 hF, fP_12_5 hF, fP_12_6 hF, fP_12_7 hF, fP_4_0 hF, fP_4_1 hF, fP_4_2 hF, fP_4_3 hF, fP_11_0 hF, fP_7_0 hF, fP_7_1 hF, fP_7_2 hF, hF.cc, c_size _ hl.1, hl.2.1, h2, eg, a0, a2, a4, c1, hN.1, er, u0, u7, h1]
      · have c4 : μ.2 30 j ≤ 0 := Int32.not_lt.mp c2
        have e : hd1 μ (nI s) j = 0 := if_neg (fun z => z.2.2 c4)
        rw [e, add_zero'] at h1
        rw [bZ_f c2] at er
        simp [psh_some, psh_none, -Int32.not_lt, -Int32.not_le, va_rf, vd, vr, isR_r, isR_n, isA_r, isI_i, isI_r, isR_i, ar, akI, akZ, akB, akO, mI_sI, mP_sI, mK_sI, mN_sI, mX_sI, mP_sP, mI_sP, mK_sP, mN_sP, mX_sP, rc_C_headsResting, e_C_headsResting_0, e_C_headsResting_4, e_C_headsResting_14, e_C_headsResting_17, e_C_headsResting_27, e_C_headsResting_41, e_C_headsResting_50, e_C_headsResting_53, e_C_headsResting_64, e_C_headsResting_70, fK_1 hF, fK_2 hF, fK_3 hF, fK_4 hF, fK_5 hF, fK_6 hF, fN_6 hF, fK_7 hF, fN_7 hF, fK_8 hF, fN_8 hF, fK_9 hF, fN_9 hF, fK_10 hF, fK_11 hF, fN_11 hF, fK_12 hF, fK_13 hF, fN_13 hF, fK_14 hF, fN_14 hF, fK_15 hF, fN_15 hF, fK_16 hF, fN_16 hF, fP_12_0 hF, fP_12_1 hF, fP_12_2 hF, fP_12_3 hF, fP_12_4 hF, fP_12_5 hF, fP_12_6 hF, fP_12_7 hF, fP_4_0 hF, fP_4_1 hF, fP_4_2 hF, fP_4_3 hF, fP_11_0 hF, fP_7_0 hF, fP_7_1 hF, fP_7_2 hF, hF.cc, c_size _ hl.1, hl.2.1, h2, eg, a0, a2, a4, c1, hN.1, er, h1]
    · have e : hd1 μ (nI s) j = 0 := if_neg (fun z => c1 (by have := z.2.1; rw [hw.1.1, nI_eq (by omega) (by omega)] at this; exact this))
      rw [e, add_zero'] at h1
      simp [psh_some, psh_none, -Int32.not_lt, -Int32.not_le, va_rf, vd, vr, isR_r, isR_n, isA_r, isI_i, isI_r, isR_i, ar, akI, akZ, akB, akO, mI_sI, mP_sI, mK_sI, mN_sI, mX_sI, mP_sP, mI_sP, mK_sP, mN_sP, mX_sP, rc_C_headsResting, e_C_headsResting_0, e_C_headsResting_4, e_C_headsResting_14, e_C_headsResting_17, e_C_headsResting_27, e_C_headsResting_41, e_C_headsResting_50, e_C_headsResting_53, e_C_headsResting_64, e_C_headsResting_70, fK_1 hF, fK_2 hF, fK_3 hF, fK_4 hF, fK_5 hF, fK_6 hF, fN_6 hF, fK_7 hF, fN_7 hF, fK_8 hF, fN_8 hF, fK_9 hF, fN_9 hF, fK_10 hF, fK_11 hF, fN_11 hF, fK_12 hF, fK_13 hF, fN_13 hF, fK_14 hF, fN_14 hF, fK_15 hF, fN_15 hF, fK_16 hF, fN_16 hF, fP_12_0 hF, fP_12_1 hF, fP_12_2 hF, fP_12_3 hF, fP_12_4 hF, fP_12_5 hF, fP_12_6 hF, fP_12_7 hF, fP_4_0 hF, fP_4_1 hF, fP_4_2 hF, fP_4_3 hF, fP_11_0 hF, fP_7_0 hF, fP_7_1 hF, fP_7_2 hF, hF.cc, c_size _ hl.1, hl.2.1, h2, eg, a0, a2, a4, i1, c1, h1]
theorem c_heads (hF : FL σ c) (hX : RX σ c E S L B G μ) (hC : Cn μ) (hB : RB σ S B H μ) (hS : RS σ S μ) (hN : RN σ c μ) (hWB : ∀ k, k < nB μ → WB1 μ k) {s : Nat} (hs : s < nS μ) : runc (d + 3) 100 [.ref c, .ref (S s)] σ = some (some (.int (sm (hd1 μ (nI s)) (nB μ))), σ) := by
  have h := heads_lp d hF hX hC hB hS hN hWB hs (nB μ) 0 uu (by omega)
  rw [rc_C_headsResting, e_C_headsResting_0]
  simpa [sm, nI_0] using h
theorem rest_lp {a : Nat} (hL : LM σ a) (hC : Cn μ) {k s : Nat} (hk : k < 6) (hat : μ.2 25 k = nI s) (x : Int32) : ∀ (y j : Nat), j + y = nB μ → run d 169 33 [.ref a, .int (nI k), .int (x + sm (hd1 μ (nI s)) j), .int (nI j)] [] (put σ a μ) = run d 169 93 [.ref a, .int (nI k), .int (x + sm (hd1 μ (nI s)) (nB μ)), .int (nI (nB μ))] [] (put σ a μ) := by
  have hb := hC.b
  intro y
  induction y with
  | zero =>
    intro j hj
    have : j = nB μ := by omega
    subst this
    simp [psh_some, psh_none, -Int32.not_lt, -Int32.not_le, q_M_rest_33, hL, hb.1]
  | succ y ih =>
    intro j hj
    have h1 := ih (j + 1) (by omega)
    have h2 : ¬ nI (nB μ) ≤ nI j := nI_ge (by omega) (by omega)
    have h3 : ix (nI j) 6 = true := ix_of (by omega) (by omega)
    have h3k : ix (nI k) 6 = true := ix_of (by omega) (by omega)
    have h4 := cl6 (show j < 6 by omega)
    rw [sm, nI_succ] at h1
    by_cases c1 : μ.2 24 j = 0
    · by_cases c2 : μ.2 25 j = nI s
      · by_cases c3 : μ.2 30 j ≤ 0
        · rw [show hd1 μ (nI s) j = 0 from if_neg (fun z => z.2.2 c3), add_zero'] at h1
          simp [psh_some, psh_none, -Int32.not_lt, -Int32.not_le, q_M_rest_33, q_M_rest_41, q_M_rest_51, q_M_rest_66, q_M_rest_84, q_M_rest_85, hL, hb.1, h2, h3, h3k, h4, cl6 hk, hat, c1, c2, c3, add_zero', h1]
        · rw [show hd1 μ (nI s) j = μ.2 23 j from if_pos ⟨c1, c2, c3⟩, ← add_assoc'] at h1
          simp [psh_some, psh_none, -Int32.not_lt, -Int32.not_le, q_M_rest_33, q_M_rest_41, q_M_rest_51, q_M_rest_66, q_M_rest_75, q_M_rest_85, hL, hb.1, h2, h3, h3k, h4, cl6 hk, hat, c1, c2, c3, h1]
      · rw [show hd1 μ (nI s) j = 0 from if_neg (fun z => c2 z.2.1), add_zero'] at h1
        simp [psh_some, psh_none, -Int32.not_lt, -Int32.not_le, q_M_rest_33, q_M_rest_41, q_M_rest_51, q_M_rest_84, q_M_rest_85, hL, hb.1, h2, h3, h3k, h4, cl6 hk, hat, c1, c2, add_zero', h1]
    · rw [show hd1 μ (nI s) j = 0 from if_neg (fun z => c1 z.1), add_zero'] at h1
      simp [psh_some, psh_none, -Int32.not_lt, -Int32.not_le, q_M_rest_33, q_M_rest_41, q_M_rest_84, q_M_rest_85, hL, hb.1, h2, h3, h4, c1, add_zero', h1]
theorem ok_rest (x : Int32) : Ok 78 169 [.int x] := by
  refine Ok_of fun d σ c a E S L B G H Q Z w μ hR hLM hX hW => ?_
  have hC := hW.1
  obtain ⟨hF, hz, hRX, hRS, hRL, hRB, hRP, hRG, hRF, hRT, hRK, hRR, hRN⟩ := id hR
  have hb := hC.b
  have hs12 := hC.s.2
  have hw := hC.w
  rcases nIx x (n := nB μ) (by omega) with ⟨k, hk, rfl⟩ | hno
  · have i4 : ix (nI k) 6 = true := ix_of (by omega) (by omega); have ck := cl6 (show k < 6 by omega); have j1 := is_ix hk (show nB μ ≤ 1000 by omega); obtain ⟨a0, a1, a2, a3, a4, a5, a6, a7, a8, a9, a10, a11, a12, a13, a14, a15⟩ := (hRB k hk).1; have hh := (hRB k hk).2; obtain ⟨u0, u1, u2, u3, u4, u5, u6, u7⟩ := (hRB k hk).2; obtain ⟨b0, b1, b2, b3, b4, b5, b6, b7, b8, b9, b10, b11, b12⟩ := hW.2.2.2.1.1 k hk; have hS := hRS _ b0.2; have i5 : ix (nI (aT μ k)) 12 = true := ix_of (by omega) (by omega); have ca := cl12 (show aT μ k < 12 by omega)
    have em := c_moored (d + 15) hF hRX hC hRB hk
    have er := c_isResting (d + 19) (hRB k hk).1 hC
    have eh := c_heads (d + 16) hF hRX hC hRB hRS hRN hW.2.2.2.1.1 b0.2
    by_cases h0 : μ.2 24 k = 0
    · rw [if_pos h0] at em
      by_cases h1 : μ.2 30 k ≤ 0
      · have h1' : ¬ 0 < μ.2 30 k := Int32.not_lt.mpr h1
        rw [bZ_f h1'] at er
        generalize hX0 : sm (hd1 μ (nI (aT μ k))) (nB μ) = X at eh
        by_cases h2 : X + μ.2 23 k ≤ μ.2 4 (aT μ k)
        · have h2' : μ.2 23 k + X ≤ μ.2 4 (aT μ k) := by rw [Int32.add_comm]; exact h2
          have hs : Sm (tk [3]) σ (sI (sI σ 3 (B k) 10 (μ.1 1 + 480)) 3 (B k) 8 0) := SmsI (SmsI (Sm.rfl' σ) rfl _ _ _) rfl _ _ _
          refine Res.mk [3] (σ1 := sI (sI σ 3 (B k) 10 (μ.1 1 + 480)) 3 (B k) 8 0) (μ' := fA (fA μ 30 k 480) 28 k 0) (v := some (.int 1)) (E := E) (S := S) (L := L) (B := B) (G := G) (H := H) (Q := Q) (Z := Z) (w := w) ?_ (fun τ μ0 hμ hL => ?_) ⟨hF.fr hX hs (by rintro q (rfl | rfl | rfl | rfl | rfl) <;> rfl), hz.fr hs rfl, hRX.fr hz hX hs rfl rfl rfl rfl rfl rfl rfl, hRS.fr hX hs rfl rfl rfl rfl rfl rfl rfl rfl rfl, hRL.fr hX hs rfl rfl rfl rfl rfl, ?_, RP_eq hRP (fun q => by simp [mI_sI]) (fun q => by simp [mI_sI]) rfl rfl (Ar_of (by repeat' constructor)), hRG.fr hX hs rfl rfl rfl (Ar_of (by repeat' constructor)), hRF.fr hF hX hs rfl rfl rfl rfl rfl rfl (Ar_of (by repeat' constructor)), hRT.fr hF hX hs rfl rfl rfl rfl, hRK.fr hF hX hs rfl rfl rfl rfl rfl (Ar_of (by repeat' constructor)), hRR.fr hF hX hs rfl (by rintro q (rfl | rfl | rfl | rfl | rfl | rfl | rfl | rfl) <;> rfl) rfl (Ar_of (by repeat' constructor)), hRN.fr hF hX hs rfl rfl rfl rfl rfl rfl⟩ hs (by decide) hX ?_ (by simp only [mX_sI, mX_sP]; omega) (by simp only [mS_sI, mS_sP]; omega)
          · simp [psh_some, psh_none, -Int32.not_lt, -Int32.not_le, va_rf, vd, vr, isR_r, isR_n, isA_r, isI_i, isI_r, isR_i, ar, akI, akZ, akB, akO, mI_sI, mP_sI, mK_sI, mN_sI, mX_sI, mP_sP, mI_sP, mK_sP, mN_sP, mX_sP, rc_C_rest, e_C_rest_0, e_C_rest_5, e_C_rest_10, e_C_rest_18, e_C_rest_21, e_C_rest_36, e_C_rest_47, e_C_rest_49, e_C_rest_61, e_C_rest_66, fK_1 hF, fK_2 hF, fK_3 hF, fK_4 hF, fK_5 hF, fK_6 hF, fN_6 hF, fK_7 hF, fN_7 hF, fK_8 hF, fN_8 hF, fK_9 hF, fN_9 hF, fK_10 hF, fK_11 hF, fN_11 hF, fK_12 hF, fK_13 hF, fN_13 hF, fK_14 hF, fN_14 hF, fK_15 hF, fN_15 hF, fK_16 hF, fN_16 hF, fP_12_0 hF, fP_12_1 hF, fP_12_2 hF, fP_12_3 hF, fP_12_4 hF, fP_12_5 hF, fP_12_6 hF, fP_12_7 hF, fP_4_0 hF, fP_4_1 hF, fP_4_2 hF, fP_4_3 hF, fP_11_0 hF, fP_7_0 hF, fP_7_1 hF, fP_7_2 hF, hF.cc, em, a0, hRN.1, er, a4, hS, eh, a2, u0, u7, h2]
          · have hl := rest_lp (σ := τ) (d + 20) hL hC (show k < 6 by omega) b0.1 (μ.2 23 k) (nB μ) 0 (by omega)
            rw [hX0, sm, add_zero', nI_0] at hl
            simp [psh_some, psh_none, -Int32.not_lt, -Int32.not_le, rc_M_rest, q_M_rest_0, q_M_rest_5, q_M_rest_10, q_M_rest_13, q_M_rest_24, q_M_rest_93, q_M_rest_110, q_M_rest_119, q_M_rest_126, hl, hL, hμ, m_isMoored (d + 18) hL hb.1 hb.2 hk, bZ_t h0, i4, ck, h1, b0.1, i5, ca, h2']
          · refine RB_upd hRB hC hk rfl (fun j hj f => by simp [mI_sI, hj]) (fun j hj f => rfl) (fun q f => by simp [mI_sI]) rfl rfl (fun f _ _ j hj => by simp [fA_2, hj]) (fun f h1 h2 => by have e1 : f ≠ 30 := (by omega); have e2 : f ≠ 28 := (by omega); simp [fA_2, e1, e2]) ?_
            have e480 : rsl (μ.1 1) (μ.1 1 + 480) = 480 := by
              unfold rsl
              rw [hw.1, show (480 : Int32) = nI 480 from rfl, nI_add, if_pos (nI_lt (by omega) (by omega)), pk_sub (by omega)]
              congr 1; omega
            simp +contextual [RB1, aT, wH, mI_sI, mP_sI, mK_sI, fA_2, fA_1, a0, a1, a2, a3, a6, a7, a8, a9, a10, a11, a12, a13, a14, e480]
            exact ⟨a4, a5⟩
          · refine ⟨hC, WS_eq hW.2.1 rfl (Ar_of (by repeat' constructor)) (fun s hs => rfl), hW.2.2.1, WB_upd hW.2.2.2.1 hk rfl rfl (fun f _ _ j hj => by simp [fA_2, hj]) ?_, WG_eq hW.2.2.2.2.1 rfl rfl rfl (Ar_of (by repeat' constructor)), hW.2.2.2.2.2.1, hW.2.2.2.2.2.2⟩
            exact ⟨b0, b1, b2, b3, b4, b5, b6, b7, b8, ⟨480, by omega, by simp [fA_2]; rfl, fun _ => h0⟩, b10, b11, b12⟩
        · have h2' : ¬ μ.2 23 k + X ≤ μ.2 4 (aT μ k) := by rw [Int32.add_comm]; exact h2
          refine Res.same hR hX hW (v := some (.int 0)) ?_ (fun τ μ0 hμ hL => ?_)
          · simp [psh_some, psh_none, -Int32.not_lt, -Int32.not_le, va_rf, vd, vr, isR_r, isR_n, isA_r, isI_i, isI_r, isR_i, ar, akI, akZ, akB, akO, mI_sI, mP_sI, mK_sI, mN_sI, mX_sI, mP_sP, mI_sP, mK_sP, mN_sP, mX_sP, rc_C_rest, e_C_rest_0, e_C_rest_5, e_C_rest_10, e_C_rest_18, e_C_rest_21, e_C_rest_36, e_C_rest_47, e_C_rest_49, e_C_rest_61, e_C_rest_66, fK_1 hF, fK_2 hF, fK_3 hF, fK_4 hF, fK_5 hF, fK_6 hF, fN_6 hF, fK_7 hF, fN_7 hF, fK_8 hF, fN_8 hF, fK_9 hF, fN_9 hF, fK_10 hF, fK_11 hF, fN_11 hF, fK_12 hF, fK_13 hF, fN_13 hF, fK_14 hF, fN_14 hF, fK_15 hF, fN_15 hF, fK_16 hF, fN_16 hF, fP_12_0 hF, fP_12_1 hF, fP_12_2 hF, fP_12_3 hF, fP_12_4 hF, fP_12_5 hF, fP_12_6 hF, fP_12_7 hF, fP_4_0 hF, fP_4_1 hF, fP_4_2 hF, fP_4_3 hF, fP_11_0 hF, fP_7_0 hF, fP_7_1 hF, fP_7_2 hF, hF.cc, em, a0, hRN.1, er, a4, hS, eh, a2, u0, u7, h2]
          · have hl := rest_lp (σ := τ) (d + 20) hL hC (show k < 6 by omega) b0.1 (μ.2 23 k) (nB μ) 0 (by omega)
            rw [hX0, sm, add_zero', nI_0] at hl
            simp [psh_some, psh_none, -Int32.not_lt, -Int32.not_le, rc_M_rest, q_M_rest_0, q_M_rest_5, q_M_rest_10, q_M_rest_13, q_M_rest_24, q_M_rest_93, q_M_rest_108, hl, hL, hμ, m_isMoored (d + 18) hL hb.1 hb.2 hk, bZ_t h0, i4, ck, h1, b0.1, i5, ca, h2']
      · have h1' : 0 < μ.2 30 k := Int32.not_le.mp h1
        rw [bZ_t h1'] at er
        refine Res.same hR hX hW (v := some (.int 0)) ?_ (fun τ μ0 hμ hL => ?_)
        · simp [psh_some, psh_none, -Int32.not_lt, -Int32.not_le, va_rf, vd, vr, isR_r, isR_n, isA_r, isI_i, isI_r, isR_i, ar, akI, akZ, akB, akO, mI_sI, mP_sI, mK_sI, mN_sI, mX_sI, mP_sP, mI_sP, mK_sP, mN_sP, mX_sP, rc_C_rest, e_C_rest_0, e_C_rest_5, e_C_rest_10, e_C_rest_18, e_C_rest_21, e_C_rest_36, e_C_rest_47, e_C_rest_49, e_C_rest_61, e_C_rest_66, fK_1 hF, fK_2 hF, fK_3 hF, fK_4 hF, fK_5 hF, fK_6 hF, fN_6 hF, fK_7 hF, fN_7 hF, fK_8 hF, fN_8 hF, fK_9 hF, fN_9 hF, fK_10 hF, fK_11 hF, fN_11 hF, fK_12 hF, fK_13 hF, fN_13 hF, fK_14 hF, fN_14 hF, fK_15 hF, fN_15 hF, fK_16 hF, fN_16 hF, fP_12_0 hF, fP_12_1 hF, fP_12_2 hF, fP_12_3 hF, fP_12_4 hF, fP_12_5 hF, fP_12_6 hF, fP_12_7 hF, fP_4_0 hF, fP_4_1 hF, fP_4_2 hF, fP_4_3 hF, fP_11_0 hF, fP_7_0 hF, fP_7_1 hF, fP_7_2 hF, hF.cc, em, a0, hRN.1, er]
        · simp [psh_some, psh_none, -Int32.not_lt, -Int32.not_le, rc_M_rest, q_M_rest_0, q_M_rest_5, q_M_rest_10, q_M_rest_13, q_M_rest_22, q_M_rest_24, q_M_rest_33, q_M_rest_41, q_M_rest_51, q_M_rest_66, q_M_rest_75, q_M_rest_84, q_M_rest_85, q_M_rest_93, q_M_rest_108, q_M_rest_110, q_M_rest_119, q_M_rest_126, hL, hμ, m_isMoored (d + 18) hL hb.1 hb.2 hk, bZ_t h0, i4, ck, h1]
    · rw [if_neg h0] at em
      refine Res.same hR hX hW (v := some (.int 0)) ?_ (fun τ μ0 hμ hL => ?_)
      · simp [psh_some, psh_none, -Int32.not_lt, -Int32.not_le, va_rf, vd, vr, isR_r, isR_n, isA_r, isI_i, isI_r, isR_i, ar, akI, akZ, akB, akO, mI_sI, mP_sI, mK_sI, mN_sI, mX_sI, mP_sP, mI_sP, mK_sP, mN_sP, mX_sP, rc_C_rest, e_C_rest_0, e_C_rest_5, e_C_rest_10, e_C_rest_18, e_C_rest_21, e_C_rest_36, e_C_rest_47, e_C_rest_49, e_C_rest_61, e_C_rest_66, fK_1 hF, fK_2 hF, fK_3 hF, fK_4 hF, fK_5 hF, fK_6 hF, fN_6 hF, fK_7 hF, fN_7 hF, fK_8 hF, fN_8 hF, fK_9 hF, fN_9 hF, fK_10 hF, fK_11 hF, fN_11 hF, fK_12 hF, fK_13 hF, fN_13 hF, fK_14 hF, fN_14 hF, fK_15 hF, fN_15 hF, fK_16 hF, fN_16 hF, fP_12_0 hF, fP_12_1 hF, fP_12_2 hF, fP_12_3 hF, fP_12_4 hF, fP_12_5 hF, fP_12_6 hF, fP_12_7 hF, fP_4_0 hF, fP_4_1 hF, fP_4_2 hF, fP_4_3 hF, fP_11_0 hF, fP_7_0 hF, fP_7_1 hF, fP_7_2 hF, hF.cc, em]
      · simp [psh_some, psh_none, -Int32.not_lt, -Int32.not_le, rc_M_rest, q_M_rest_0, q_M_rest_5, q_M_rest_10, q_M_rest_13, q_M_rest_22, q_M_rest_24, q_M_rest_33, q_M_rest_41, q_M_rest_51, q_M_rest_66, q_M_rest_75, q_M_rest_84, q_M_rest_85, q_M_rest_93, q_M_rest_108, q_M_rest_110, q_M_rest_119, q_M_rest_126, hL, hμ, m_isMoored (d + 18) hL hb.1 hb.2 hk, bZ_f h0]
  · refine Res.same hR hX hW (v := some (.int 0)) ?_ (fun τ μ0 hμ hL => ?_)
    · simp [psh_some, psh_none, -Int32.not_lt, -Int32.not_le, va_rf, vd, vr, isR_r, isR_n, isA_r, isI_i, isI_r, isR_i, ar, akI, akZ, akB, akO, mI_sI, mP_sI, mK_sI, mN_sI, mX_sI, mP_sP, mI_sP, mK_sP, mN_sP, mX_sP, rc_C_rest, e_C_rest_0, e_C_rest_5, e_C_rest_10, e_C_rest_18, e_C_rest_21, e_C_rest_36, e_C_rest_47, e_C_rest_49, e_C_rest_61, e_C_rest_66, fK_1 hF, fK_2 hF, fK_3 hF, fK_4 hF, fK_5 hF, fK_6 hF, fN_6 hF, fK_7 hF, fN_7 hF, fK_8 hF, fN_8 hF, fK_9 hF, fN_9 hF, fK_10 hF, fK_11 hF, fN_11 hF, fK_12 hF, fK_13 hF, fN_13 hF, fK_14 hF, fN_14 hF, fK_15 hF, fN_15 hF, fK_16 hF, fN_16 hF, fP_12_0 hF, fP_12_1 hF, fP_12_2 hF, fP_12_3 hF, fP_12_4 hF, fP_12_5 hF, fP_12_6 hF, fP_12_7 hF, fP_4_0 hF, fP_4_1 hF, fP_4_2 hF, fP_4_3 hF, fP_11_0 hF, fP_7_0 hF, fP_7_1 hF, fP_7_2 hF, hF.cc, c_moored_no (d + 15) hF hRX hC hno]
    · simp [psh_some, psh_none, -Int32.not_lt, -Int32.not_le, rc_M_rest, q_M_rest_0, q_M_rest_5, q_M_rest_10, q_M_rest_13, q_M_rest_22, q_M_rest_24, q_M_rest_33, q_M_rest_41, q_M_rest_51, q_M_rest_66, q_M_rest_75, q_M_rest_84, q_M_rest_85, q_M_rest_93, q_M_rest_108, q_M_rest_110, q_M_rest_119, q_M_rest_126, hL, hμ, m_isMoored_no (d + 18) hL hb.1 hno]
end O44
