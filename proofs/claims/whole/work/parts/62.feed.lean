/-! ===== OPERATION: feed ===== -/
section O62
variable {σ σ' : Mm} {c a : Nat} {E S L B G H Q : Nat → Nat} {Z : Nat → List Nat} {w : Bool} {μ μ' : Ms} (d : Nat)
def byt (x s : Int32) : Int32 := (x >>> (s &&& 31)).toInt8.toInt32
theorem byt8 (x s : Int32) : (byt x s).toInt8.toInt32 = byt x s := by unfold byt; rw [Int8.toInt8_toInt32]
/-- one byte more -/
def tp1 (μ : Ms) (v : Int32) : Ms := fF (fA μ 39 (nT μ) v) 40 (μ.1 40 + 1)
theorem tp1_1 {f : Nat} (v : Int32) (h : f ≠ 40) : (tp1 μ v).1 f = μ.1 f := by simp [tp1, fF_1, fA_1, h]
theorem tp1_2 {f : Nat} (v : Int32) (h : f ≠ 39) : (tp1 μ v).2 f = μ.2 f := by unfold tp1; rw [fF_2, fA_2n _ h]
theorem tp1_n (hC : Cn μ) (v : Int32) : nT (tp1 μ v) = nT μ + 1 := by
  have ht := hC.t
  have : (tp1 μ v).1 40 = nI (nT μ + 1) := by simp [tp1, fF_1]; rw [ht.1, nI_1]
  show ((tp1 μ v).1 40).toNatClampNeg = _
  rw [this, nI_clamp (by omega)]
theorem Wf_tp1 (hW : Wf μ) (hn : nT μ < 300) {v : Int32} (hv : v.toInt8.toInt32 = v) : Wf (tp1 μ v) := by
  have hC := hW.1
  have h1 := tp1_n hC v
  refine ⟨⟨hC.1, hC.2.1, hC.2.2.1, hC.2.2.2.1, hC.2.2.2.2.1, hC.2.2.2.2.2.1, ?_, hC.2.2.2.2.2.2.2⟩, hW.2.1, hW.2.2.1, hW.2.2.2.1, hW.2.2.2.2.1, hW.2.2.2.2.2.1, fun i => ?_, hW.2.2.2.2.2.2.2⟩
  · rw [h1]
    refine ⟨?_, by omega⟩
    have ht := hC.t
    simp [tp1, fF_1]; rw [ht.1, nI_1]
  · by_cases y : i = nT μ
    · have : (tp1 μ v).2 39 i = v := by simp [tp1, fF_2, fA_2, y]
      rw [this]; exact hv
    · have : (tp1 μ v).2 39 i = μ.2 39 i := by simp [tp1, fF_2, fA_2, y]
      rw [this]; exact hW.2.2.2.2.2.2.1 i
theorem RC_tp1 (hR : RC σ c E S L B G H Q Z w μ) (hX : Kx σ) (hC : Cn μ) (hn : nT μ < 300) (v : Int32) : Spq [11, 107] σ c E S L B G H Q Z w (sI (sI σ 107 (c + 11) (nT μ) v) 11 (c + 10) 1 (nI (nT μ) + 1)) (tp1 μ v) := by
  obtain ⟨hF, hz, hRX, hRS, hRL, hRB, hRP, hRG, hRF, hRT, hRK, hRR, hRN⟩ := id hR
  have ht := hC.t
  have hs : Sm (tk [11, 107]) σ (sI (sI σ 107 (c + 11) (nT μ) v) 11 (c + 10) 1 (nI (nT μ) + 1)) := SmsI (SmsI (Sm.rfl' σ) rfl _ _ _) rfl _ _ _
  refine ⟨⟨hF, hz.fr hs rfl, hRX.fr hz hX hs rfl rfl rfl rfl rfl rfl rfl, hRS.fr hX hs rfl rfl rfl rfl rfl rfl rfl rfl rfl, hRL.fr hX hs rfl rfl rfl rfl rfl, hRB.fr hX hs rfl rfl rfl rfl (Ar_of (by repeat' constructor)), hRP.fr (fun k hk => (hRB k hk).1.1) hX hs rfl rfl rfl (Ar_of (by repeat' constructor)), hRG.fr hX hs rfl rfl rfl (Ar_of (by repeat' constructor)), hRF.fr hF hX hs rfl rfl rfl rfl rfl rfl (Ar_of (by repeat' constructor)), ⟨?_, fun i => ?_⟩, hRK.fr hF hX hs rfl rfl rfl rfl rfl (Ar_of (by repeat' constructor)), hRR.fr hF hX hs rfl (by rintro q (rfl | rfl | rfl | rfl | rfl | rfl | rfl | rfl) <;> rfl) rfl (Ar_of (by repeat' constructor)), hRN.fr hF hX hs rfl rfl rfl rfl rfl rfl⟩, hs, hX, rfl, rfl⟩
  · rw [mI_sI, if_pos ⟨rfl, rfl, rfl⟩, ← ht.1]
    simp [tp1, fF_1]
  · by_cases y : i = nT μ
    · have : (tp1 μ v).2 39 i = v := by simp [tp1, fF_2, fA_2, y]
      rw [this, mI_sI, if_neg (by omega), mI_sI, if_pos ⟨rfl, rfl, y⟩]
    · have : (tp1 μ v).2 39 i = μ.2 39 i := by simp [tp1, fF_2, fA_2, y]
      rw [this, mI_sI, if_neg (by omega), mI_sI, if_neg (fun z => y z.2.2)]
      exact hRT.2 i
theorem app_step (hF : FL σ c) (hT : RT σ c μ) (hC : Cn μ) (hn : nT μ < 300) (x : Int32) {s : Int32} (hs : ¬ s < 0) : run d 49 3 [.ref (c + 10), .int x, .int s] [] σ = run d 49 3 [.ref (c + 10), .int x, .int (s + (-8))] [] (sI (sI σ 107 (c + 11) (nT μ) (byt x s)) 11 (c + 10) 1 (nI (nT μ) + 1)) := by
  have ht := hC.t
  have h1 : ¬ (300 : Int32) ≤ nI (nT μ) := nI_ge (b := 300) (by omega) (by omega)
  have h2 : ix (nI (nT μ)) 300 = true := ix_of hn (by omega)
  have h3 := byt8 x s
  unfold byt at h3 ⊢
  simp [psh_some, psh_none, -Int32.not_lt, -Int32.not_le, va_rf, vd, vr, isR_r, isR_n, isA_r, isI_i, isI_r, isR_i, ar, akI, akZ, akB, akO, mI_sI, mP_sI, mK_sI, mN_sI, mX_sI, mP_sP, mI_sP, mK_sP, mN_sP, mX_sP, e_Tape_append_3, e_Tape_append_7, e_Tape_append_17, e_Tape_append_30, e_Tape_append_40, fK_1 hF, fK_2 hF, fK_3 hF, fK_4 hF, fK_5 hF, fK_6 hF, fN_6 hF, fK_7 hF, fN_7 hF, fK_8 hF, fN_8 hF, fK_9 hF, fN_9 hF, fK_10 hF, fK_11 hF, fN_11 hF, fK_12 hF, fK_13 hF, fN_13 hF, fK_14 hF, fN_14 hF, fK_15 hF, fN_15 hF, fK_16 hF, fN_16 hF, fP_12_0 hF, fP_12_1 hF, fP_12_2 hF, fP_12_3 hF, fP_12_4 hF, fP_12_5 hF, fP_12_6 hF, fP_12_7 hF, fP_4_0 hF, fP_4_1 hF, fP_4_2 hF, fP_4_3 hF, fP_11_0 hF, fP_7_0 hF, fP_7_1 hF, fP_7_2 hF, hF.cc, hs, hT.1, ht.1, h1, h2, h3, cl1000 (show nT μ < 1000 by omega)]
theorem four_step (hL : LM σ a) (hC : Cn μ) (hn : nT μ < 300) (x : Int32) {s : Int32} (hs : ¬ s < 0) : run d 141 3 [.ref a, .int x, .int s] [] (put σ a μ) = run d 141 3 [.ref a, .int x, .int (s + (-8))] [] (put σ a (tp1 μ (byt x s))) := by
  have ht := hC.t
  have h2 : ix (nI (nT μ)) 300 = true := ix_of hn (by omega)
  have h3 := byt8 x s
  unfold byt at h3
  unfold tp1 byt
  rw [ht.1]
  simp [psh_some, psh_none, -Int32.not_lt, -Int32.not_le, q_M_four_3, q_M_four_7, q_M_four_20, q_M_four_30, hL, hs, ht.1, h2, h3, cl1000 (show nT μ < 1000 by omega), fA_1]
def fou (μ : Ms) (x : Int32) : Ms := tp1 (tp1 (tp1 (tp1 μ (byt x 24)) (byt x (24 + (-8)))) (byt x (24 + (-8) + (-8)))) (byt x (24 + (-8) + (-8) + (-8)))
theorem fou_n (hW : Wf μ) (hn : nT μ + 4 ≤ 300) (x : Int32) : nT (fou μ x) = nT μ + 4 ∧ Wf (fou μ x) := by
  have n1 := tp1_n hW.1 (byt x 24)
  have w1 := Wf_tp1 hW (by omega) (byt8 x 24)
  have n2 := tp1_n w1.1 (byt x (24 + (-8)))
  have w2 := Wf_tp1 w1 (by omega) (byt8 x (24 + (-8)))
  have n3 := tp1_n w2.1 (byt x (24 + (-8) + (-8)))
  have w3 := Wf_tp1 w2 (by omega) (byt8 x (24 + (-8) + (-8)))
  have n4 := tp1_n w3.1 (byt x (24 + (-8) + (-8) + (-8)))
  have w4 := Wf_tp1 w3 (by omega) (byt8 x (24 + (-8) + (-8) + (-8)))
  exact ⟨by unfold fou; omega, w4⟩
theorem c_append (hR : RC σ c E S L B G H Q Z w μ) (hX : Kx σ) (hW : Wf μ) (hn : nT μ + 4 ≤ 300) (x : Int32) : ∃ σ', runc d 49 [.ref (c + 10), .int x] σ = some (none, σ') ∧ Spq [11, 107] σ c E S L B G H Q Z w σ' (fou μ x) := by
  have n1 := tp1_n hW.1 (byt x 24)
  have w1 := Wf_tp1 hW (by omega) (byt8 x 24)
  have n2 := tp1_n w1.1 (byt x (24 + (-8)))
  have w2 := Wf_tp1 w1 (by omega) (byt8 x (24 + (-8)))
  have n3 := tp1_n w2.1 (byt x (24 + (-8) + (-8)))
  have w3 := Wf_tp1 w2 (by omega) (byt8 x (24 + (-8) + (-8)))
  have r1 := RC_tp1 hR hX hW.1 (by omega) (byt x 24)
  have r2 := RC_tp1 r1.1 r1.2.2.1 w1.1 (by omega) (byt x (24 + (-8)))
  have r3 := RC_tp1 r2.1 r2.2.2.1 w2.1 (by omega) (byt x (24 + (-8) + (-8)))
  have r4 := RC_tp1 r3.1 r3.2.2.1 w3.1 (by omega) (byt x (24 + (-8) + (-8) + (-8)))
  refine ⟨_, ?_, ((r1.trans r2).trans r3).trans r4⟩
  have tt : ∀ {σ : Mm} {μ : Ms}, RC σ c E S L B G H Q Z w μ → RT σ c μ := fun h => h.2.2.2.2.2.2.2.2.2.1
  rw [rc_Tape_append, e_Tape_append_0, app_step d hR.1 (tt hR) hW.1 (by omega) x (s := 24) (by decide), app_step d r1.1.1 (tt r1.1) w1.1 (by omega) x (s := 24 + (-8)) (by decide), app_step d r2.1.1 (tt r2.1) w2.1 (by omega) x (s := 24 + (-8) + (-8)) (by decide), app_step d r3.1.1 (tt r3.1) w3.1 (by omega) x (s := 24 + (-8) + (-8) + (-8)) (by decide)]
  rw [e_Tape_append_3, if_pos (by decide), e_Tape_append_46]
theorem m_four (hL : LM σ a) (hW : Wf μ) (hn : nT μ + 4 ≤ 300) (x : Int32) : runc d 141 [.ref a, .int x] (put σ a μ) = some (none, put σ a (fou μ x)) := by
  have n1 := tp1_n hW.1 (byt x 24)
  have w1 := Wf_tp1 hW (by omega) (byt8 x 24)
  have n2 := tp1_n w1.1 (byt x (24 + (-8)))
  have w2 := Wf_tp1 w1 (by omega) (byt8 x (24 + (-8)))
  have n3 := tp1_n w2.1 (byt x (24 + (-8) + (-8)))
  have w3 := Wf_tp1 w2 (by omega) (byt8 x (24 + (-8) + (-8)))
  rw [rc_M_four, q_M_four_0 _ _ _ _ _ _ hL, four_step d hL hW.1 (by omega) x (s := 24) (by decide), four_step d hL w1.1 (by omega) x (s := 24 + (-8)) (by decide), four_step d hL w2.1 (by omega) x (s := 24 + (-8) + (-8)) (by decide), four_step d hL w3.1 (by omega) x (s := 24 + (-8) + (-8) + (-8)) (by decide)]
  rw [q_M_four_3 _ _ _ _ _ _ hL, if_pos (by decide), q_M_four_36 _ _ _ _ _ _ hL]
  rfl
theorem ok_feed (x1 x2 x3 x4 x5 : Int32) : Ok 69 142 [.int x1, .int x2, .int x3, .int x4, .int x5] := by
  refine Ok_of fun d σ c a E S L B G H Q Z w μ hR hLM hX hW => ?_
  have hC := hW.1
  obtain ⟨hF, hz, hRX, hRS, hRL, hRB, hRP, hRG, hRF, hRT, hRK, hRR, hRN⟩ := id hR
  have ht := hC.t
  by_cases h1 : nT μ ≤ 280
  · have z1 : nI (nT μ) ≤ 280 := nI_le (b := 280) h1 (by omega)
    have z2 : nI (nT μ) + 20 ≤ 300 := by rw [show (20 : Int32) = nI 20 from rfl, nI_add]; exact nI_le (b := 300) (by omega) (by omega)
    obtain ⟨n1, w1⟩ := fou_n hW (by omega) x1
    obtain ⟨s1, e1, r1⟩ := c_append (d + 19) hR hX hW (by omega) x1
    obtain ⟨n2, w2⟩ := fou_n w1 (by omega) x2
    obtain ⟨s2, e2, r2⟩ := c_append (d + 19) r1.1 r1.2.2.1 w1 (by omega) x2
    obtain ⟨n3, w3⟩ := fou_n w2 (by omega) x3
    obtain ⟨s3, e3, r3⟩ := c_append (d + 19) r2.1 r2.2.2.1 w2 (by omega) x3
    obtain ⟨n4, w4⟩ := fou_n w3 (by omega) x4
    obtain ⟨s4, e4, r4⟩ := c_append (d + 19) r3.1 r3.2.2.1 w3 (by omega) x4
    obtain ⟨n5, w5⟩ := fou_n w4 (by omega) x5
    obtain ⟨s5, e5, r5⟩ := c_append (d + 19) r4.1 r4.2.2.1 w4 (by omega) x5
    have r := (((r1.trans r2).trans r3).trans r4).trans r5
    refine Res.mk [11, 107] (σ1 := s5) (μ' := fou (fou (fou (fou (fou μ x1) x2) x3) x4) x5) (v := some (.int ((fou (fou (fou (fou (fou μ x1) x2) x3) x4) x5).1 40))) (E := E) (S := S) (L := L) (B := B) (G := G) (H := H) (Q := Q) (Z := Z) (w := w) ?_ (fun τ μ0 hμ hL => ?_) r.1 r.2.1 (by decide) r.2.2.1 w5 (by have := r.2.2.2.1; omega) (by have := r.2.2.2.2; omega)
    · have f1 := r1.1.1
      have f2 := r2.1.1
      have f3 := r3.1.1
      have f4 := r4.1.1
      have f5 := r5.1.1
      have t5 := r5.1.2.2.2.2.2.2.2.2.2.1.1
      simp [psh_some, psh_none, -Int32.not_lt, -Int32.not_le, va_rf, vd, vr, isR_r, isR_n, isA_r, isI_i, isI_r, isR_i, ar, akI, akZ, akB, akO, mI_sI, mP_sI, mK_sI, mN_sI, mX_sI, mP_sP, mI_sP, mK_sP, mN_sP, mX_sP, rc_C_feed, e_C_feed_0, e_C_feed_15, e_C_feed_23, e_C_feed_31, e_C_feed_39, e_C_feed_48, e_C_feed_57, hF.cc, fP_12_5 hF, fK_10 hF, hRT.1, ht.1, z1, e1, f1.cc, fP_12_5 f1, fK_10 f1, e2, f2.cc, fP_12_5 f2, fK_10 f2, e3, f3.cc, fP_12_5 f3, fK_10 f3, e4, f4.cc, fP_12_5 f4, fK_10 f4, e5, f5.cc, fP_12_5 f5, fK_10 f5, t5]
    · simp [psh_some, psh_none, -Int32.not_lt, -Int32.not_le, rc_M_feed, q_M_feed_0, q_M_feed_5, q_M_feed_20, q_M_feed_25, q_M_feed_30, q_M_feed_35, q_M_feed_41, q_M_feed_47, hL, hμ, ht.1, z2, m_four (d + 19) hL hW (by omega), m_four (d + 19) hL w1 (by omega), m_four (d + 19) hL w2 (by omega), m_four (d + 19) hL w3 (by omega), m_four (d + 19) hL w4 (by omega)]
  · have z1 : ¬ nI (nT μ) ≤ 280 := nI_ge (a := 280) (by omega) (by omega)
    have z2 : ¬ nI (nT μ) + 20 ≤ 300 := by rw [show (20 : Int32) = nI 20 from rfl, nI_add]; exact nI_ge (a := 300) (by omega) (by omega)
    refine Res.same hR hX hW (v := some (.int (-1))) ?_ (fun τ μ0 hμ hL => ?_)
    · simp [psh_some, psh_none, -Int32.not_lt, -Int32.not_le, va_rf, vd, vr, isR_r, isR_n, isA_r, isI_i, isI_r, isR_i, ar, akI, akZ, akB, akO, mI_sI, mP_sI, mK_sI, mN_sI, mX_sI, mP_sP, mI_sP, mK_sP, mN_sP, mX_sP, rc_C_feed, e_C_feed_0, e_C_feed_13, hF.cc, fP_12_5 hF, fK_10 hF, hRT.1, ht.1, z1]
    · simp [psh_some, psh_none, -Int32.not_lt, -Int32.not_le, rc_M_feed, q_M_feed_0, q_M_feed_5, q_M_feed_18, hL, hμ, ht.1, z2]
end O62
