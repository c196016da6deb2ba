/-! ===== WHY A LIFT IS REFUSED ===== -/
section O65
variable {σ σ' : Mm} {c a : Nat} {E S L B G H Q : Nat → Nat} {Z : Nat → List Nat} {w : Bool} {μ μ' : Ms} (d : Nat)
theorem abs_eq : ∀ v : Nat, v ≤ 9 → (if 0 ≤ nI v - 2 then nI v - 2 else 0 - (nI v - 2)) = if nI v ≤ 2 then 2 - nI v else nI v - 2 := by decide +kernel
theorem c_liftsFrom {h k : Nat} (hh : RH σ h μ k) {v : Nat} (hv : v ≤ 9) : runc d 18 [.ref h, .int (nI v)] σ = some (some (.int (lif (μ.2 18 k) (nI v))), σ) := by
  have e := abs_eq v hv
  have h0 := hh.1
  have h1 := hh.2.2.1
  unfold lif
  by_cases z : nI v ≤ 6
  · rw [if_pos z, ← e]
    simp [psh_some, psh_none, -Int32.not_lt, -Int32.not_le, rc_Hull_liftsFrom, e_Hull_liftsFrom_0, e_Hull_liftsFrom_6, e_Hull_liftsFrom_8, h0, h1, z]
  · rw [if_neg z]
    simp [psh_some, psh_none, -Int32.not_lt, -Int32.not_le, rc_Hull_liftsFrom, e_Hull_liftsFrom_0, e_Hull_liftsFrom_6, e_Hull_liftsFrom_8, h0, h1, z]
/-- the cause for which a lift of m minutes is refused, or -1 -/
def rfu (μ : Ms) (k : Nat) (m : Int32) : Int32 := if fns μ k (aT μ k) 0 = -1 then (if lif (μ.2 18 k) (swN μ (aT μ k)) < wgt μ k then 1 else if μ.2 27 k < dvu (μ.2 20 k * m) 60 then 2 else if 0 < μ.2 30 k ∨ ¬ μ.2 28 k + m ≤ 840 then 3 else if μ.2 31 k = 0 then -1 else 4) else 0
theorem rfu_is (k : Nat) (m : Int32) : rfu μ k m = -1 ∨ ∃ y, y < 5 ∧ rfu μ k m = nI y := by
  unfold rfu
  repeat' split
  · exact Or.inr ⟨1, by omega, rfl⟩
  · exact Or.inr ⟨2, by omega, rfl⟩
  · exact Or.inr ⟨3, by omega, rfl⟩
  · exact Or.inl rfl
  · exact Or.inr ⟨4, by omega, rfl⟩
  · exact Or.inr ⟨0, by omega, rfl⟩
theorem c_refusal (hR : RC σ c E S L B G H Q Z w μ) (hX : Kx σ) (hW : Wf μ) {k : Nat} (hk : k < nB μ) (m : Int32) : runc (d + 4) 99 [.ref c, .ref (B k), .int m] σ = some (some (.int (rfu μ k m)), wW σ c μ k) := by
  have hC := hW.1
  have ef := c_fb d hR hX hW hk 0
  have hR1 : RC (wW σ c μ k) c E S L B G H Q Z w μ := RC_110 hR hX (wr_Sm _ _ 8)
  have hX1 : Kx (wW σ c μ k) := wr_Kx hX _ _ 8
  have hFc := hR.1
  have hB0 := (hR.2.2.2.2.2.1 k hk).1.1
  generalize wW σ c μ k = σ1 at ef hR1 hX1
  obtain ⟨hF, hz, hRX, hRS, hRL, hRB, hRP, hRG, hRF, hRT, hRK, hRR, hRN⟩ := id hR1
  have hb := hC.b
  have hs12 := hC.s.2
  have i4 : ix (nI k) 6 = true := ix_of (by omega) (by omega); have ck := cl6 (show k < 6 by omega); have j1 := is_ix hk (show nB μ ≤ 1000 by omega); obtain ⟨a0, a1, a2, a3, a4, a5, a6, a7, a8, a9, a10, a11, a12, a13, a14, a15⟩ := (hRB k hk).1; have hh := (hRB k hk).2; obtain ⟨u0, u1, u2, u3, u4, u5, u6, u7⟩ := (hRB k hk).2; obtain ⟨b0, b1, b2, b3, b4, b5, b6, b7, b8, b9, b10, b11, b12⟩ := hW.2.2.2.1.1 k hk; have hS := hRS _ b0.2; have i5 : ix (nI (aT μ k)) 12 = true := ix_of (by omega) (by omega); have ca := cl12 (show aT μ k < 12 by omega)
  have es := c_swellNow (d + 1) hF hC hRF hW.2.2.2.2.2.1 hRS hRN b0.2
  obtain ⟨v, v1, v2⟩ : ∃ v, v ≤ 9 ∧ swN μ (aT μ k) = nI v := kno_sw hW.2.2.2.2.2.1 (Nat.le_refl _) _ _
  have el := c_liftsFrom (d + 3) hh v1
  rw [← v2] at el
  have ew := c_weight (d + 3) hRB hRP hk
  have eb := c_burnt (σ := σ1) (d + 2) hh m
  have er := c_isResting (d + 3) (hRB k hk).1 hC
  unfold rfu
  by_cases c0 : fns μ k (aT μ k) 0 = -1
  · rw [if_pos c0]
    by_cases c1 : lif (μ.2 18 k) (swN μ (aT μ k)) < wgt μ k
    · have c1' : ¬ wgt μ k ≤ lif (μ.2 18 k) (swN μ (aT μ k)) := by simpa using c1
      rw [if_pos c1]
      simp [psh_some, psh_none, -Int32.not_lt, -Int32.not_le, va_rf, vd, vr, isR_r, isR_n, isA_r, isI_i, isI_r, isR_i, ar, akI, akZ, akB, akO, mI_sI, mP_sI, mK_sI, mN_sI, mX_sI, mP_sP, mI_sP, mK_sP, mN_sP, mX_sP, rc_C_refusalOf, e_C_refusalOf_0, e_C_refusalOf_6, e_C_refusalOf_12, e_C_refusalOf_24, e_C_refusalOf_27, e_C_refusalOf_31, e_C_refusalOf_34, hFc.cc, hB0, ef, c0, hF.cc, a0, a2, a4, u0, es, el, ew, c1']
    · have c1' : wgt μ k ≤ lif (μ.2 18 k) (swN μ (aT μ k)) := by simpa using c1
      rw [if_neg c1]
      by_cases c2 : μ.2 27 k < dvu (μ.2 20 k * m) 60
      · have c2' : ¬ dvu (μ.2 20 k * m) 60 ≤ μ.2 27 k := by simpa using c2
        rw [if_pos c2]
        simp [psh_some, psh_none, -Int32.not_lt, -Int32.not_le, va_rf, vd, vr, isR_r, isR_n, isA_r, isI_i, isI_r, isR_i, ar, akI, akZ, akB, akO, mI_sI, mP_sI, mK_sI, mN_sI, mX_sI, mP_sP, mI_sP, mK_sP, mN_sP, mX_sP, rc_C_refusalOf, e_C_refusalOf_0, e_C_refusalOf_6, e_C_refusalOf_12, e_C_refusalOf_24, e_C_refusalOf_27, e_C_refusalOf_31, e_C_refusalOf_36, e_C_refusalOf_48, e_C_refusalOf_51, hFc.cc, hB0, ef, c0, hF.cc, a0, a2, a4, a6, u0, es, el, ew, eb, c1', c2']
      · have c2' : dvu (μ.2 20 k * m) 60 ≤ μ.2 27 k := by simpa using c2
        rw [if_neg c2]
        by_cases c3 : 0 < μ.2 30 k
        · rw [if_pos (Or.inl c3)]
          rw [bZ_t c3] at er
          simp [psh_some, psh_none, -Int32.not_lt, -Int32.not_le, va_rf, vd, vr, isR_r, isR_n, isA_r, isI_i, isI_r, isR_i, ar, akI, akZ, akB, akO, mI_sI, mP_sI, mK_sI, mN_sI, mX_sI, mP_sP, mI_sP, mK_sP, mN_sP, mX_sP, rc_C_refusalOf, e_C_refusalOf_0, e_C_refusalOf_6, e_C_refusalOf_12, e_C_refusalOf_24, e_C_refusalOf_27, e_C_refusalOf_31, e_C_refusalOf_36, e_C_refusalOf_48, e_C_refusalOf_53, e_C_refusalOf_61, e_C_refusalOf_76, hFc.cc, hB0, ef, c0, hF.cc, a0, a2, a4, a6, u0, es, el, ew, eb, c1', c2', hRN.1, er]
        · rw [bZ_f c3] at er
          by_cases c4 : μ.2 28 k + m ≤ 840
          · rw [if_neg (fun z => z.elim c3 (fun y => y c4))]
            by_cases c5 : μ.2 31 k = 0
            · rw [if_pos c5]
              simp [psh_some, psh_none, -Int32.not_lt, -Int32.not_le, va_rf, vd, vr, isR_r, isR_n, isA_r, isI_i, isI_r, isR_i, ar, akI, akZ, akB, akO, mI_sI, mP_sI, mK_sI, mN_sI, mX_sI, mP_sP, mI_sP, mK_sP, mN_sP, mX_sP, rc_C_refusalOf, e_C_refusalOf_0, e_C_refusalOf_6, e_C_refusalOf_12, e_C_refusalOf_24, e_C_refusalOf_27, e_C_refusalOf_31, e_C_refusalOf_36, e_C_refusalOf_48, e_C_refusalOf_53, e_C_refusalOf_61, e_C_refusalOf_64, e_C_refusalOf_78, e_C_refusalOf_89, e_C_refusalOf_90, hFc.cc, hB0, ef, c0, hF.cc, a0, a2, a4, a6, u0, es, el, ew, eb, c1', c2', hRN.1, er, a7, c4, a9, c5]
            · rw [if_neg c5]
              simp [psh_some, psh_none, -Int32.not_lt, -Int32.not_le, va_rf, vd, vr, isR_r, isR_n, isA_r, isI_i, isI_r, isR_i, ar, akI, akZ, akB, akO, mI_sI, mP_sI, mK_sI, mN_sI, mX_sI, mP_sP, mI_sP, mK_sP, mN_sP, mX_sP, rc_C_refusalOf, e_C_refusalOf_0, e_C_refusalOf_6, e_C_refusalOf_12, e_C_refusalOf_24, e_C_refusalOf_27, e_C_refusalOf_31, e_C_refusalOf_36, e_C_refusalOf_48, e_C_refusalOf_53, e_C_refusalOf_61, e_C_refusalOf_64, e_C_refusalOf_78, e_C_refusalOf_85, e_C_refusalOf_90, hFc.cc, hB0, ef, c0, hF.cc, a0, a2, a4, a6, u0, es, el, ew, eb, c1', c2', hRN.1, er, a7, c4, a9, c5]
          · rw [if_pos (Or.inr c4)]
            simp [psh_some, psh_none, -Int32.not_lt, -Int32.not_le, va_rf, vd, vr, isR_r, isR_n, isA_r, isI_i, isI_r, isR_i, ar, akI, akZ, akB, akO, mI_sI, mP_sI, mK_sI, mN_sI, mX_sI, mP_sP, mI_sP, mK_sP, mN_sP, mX_sP, rc_C_refusalOf, e_C_refusalOf_0, e_C_refusalOf_6, e_C_refusalOf_12, e_C_refusalOf_24, e_C_refusalOf_27, e_C_refusalOf_31, e_C_refusalOf_36, e_C_refusalOf_48, e_C_refusalOf_53, e_C_refusalOf_61, e_C_refusalOf_64, e_C_refusalOf_76, hFc.cc, hB0, ef, c0, hF.cc, a0, a2, a4, a6, u0, es, el, ew, eb, c1', c2', hRN.1, er, a7, c4]
  · rw [if_neg c0]
    simp [psh_some, psh_none, -Int32.not_lt, -Int32.not_le, va_rf, vd, vr, isR_r, isR_n, isA_r, isI_i, isI_r, isR_i, ar, akI, akZ, akB, akO, mI_sI, mP_sI, mK_sI, mN_sI, mX_sI, mP_sP, mI_sP, mK_sP, mN_sP, mX_sP, rc_C_refusalOf, e_C_refusalOf_0, e_C_refusalOf_6, e_C_refusalOf_10, hFc.cc, hB0, ef, c0]
/-- the reference refuses for the same -/
theorem m_refuse (hL : LM σ a) (hW : Wf μ) {k l : Nat} (hk : k < nB μ) {x3 x4 x5 m : Int32} (ha : x3 = nI (aT μ k)) (u7 u8 : Value) (hr : ¬ rfu μ k m = -1) : run (d + 5) 162 67 [.ref a, .int (nI k), .int (nI l), .int x3, .int x4, .int x5, u7, u8, u8] [.int m] (put σ a μ) = some (some (.int (-2 - rfu μ k m)), put σ a (fA μ 29 k (rfu μ k m))) := by
  have hC := hW.1
  have hb := hC.b
  have hf := hC.f
  have hs12 := hC.s.2
  have b0 := (hW.2.2.2.1.1 k hk).1
  have i1 : ix (nI k) 6 = true := ix_of (by omega) (by omega)
  have ck := cl6 (show k < 6 by omega)
  subst ha
  have e0 := m_fns d hL hC hW.2.2.2.2.2.2.2.1.1 (show k < 6 by omega) (show aT μ k < 12 by omega) 0
  have e1 := m_swellAt (μ := μ) (d + 3) hL hf.2 (nI (aT μ k)) (μ.1 1 / 60)
  have e1' : kno μ 0 (nI (aT μ k)) (μ.1 1 / 60) (nF μ) 3 = swN μ (aT μ k) := rfl
  rw [e1'] at e1
  have e2 := m_liftsFrom (μ := μ) (d + 4) hL (show k < 6 by omega) (swN μ (aT μ k))
  have e3 := m_weight (d + 3) hL hC (show k < 6 by omega)
  have e4 := m_burns (μ := μ) (d + 3) hL (show k < 6 by omega) m
  have er : ∀ y, runc (d + 4) 159 [.ref a, .int (nI k), .int y] (put σ a μ) = some (some (.int (-2 - y)), put σ a (fA μ 29 k y)) := fun y => by simp [psh_some, psh_none, -Int32.not_lt, -Int32.not_le, rc_M_refused, q_M_refused_0, q_M_refused_7, hL, i1, ck]
  unfold rfu at hr ⊢
  by_cases c0 : fns μ k (aT μ k) 0 = -1
  · rw [if_pos c0] at hr ⊢
    by_cases c1 : lif (μ.2 18 k) (swN μ (aT μ k)) < wgt μ k
    · have c1' : ¬ wgt μ k ≤ lif (μ.2 18 k) (swN μ (aT μ k)) := by simpa using c1
      rw [if_pos c1]
      simp [psh_some, psh_none, -Int32.not_lt, -Int32.not_le, q_M_lift_67, q_M_lift_76, q_M_lift_87, q_M_lift_105, q_M_lift_108, q_M_lift_113, q_M_lift_116, q_M_lift_122, hL, e0, c0, hf.1, e1, e2, e3, c1', er]
    · have c1' : wgt μ k ≤ lif (μ.2 18 k) (swN μ (aT μ k)) := by simpa using c1
      rw [if_neg c1] at hr ⊢
      by_cases c2 : μ.2 27 k < dvu (μ.2 20 k * m) 60
      · have c2' : ¬ dvu (μ.2 20 k * m) 60 ≤ μ.2 27 k := by simpa using c2
        rw [if_pos c2]
        simp [psh_some, psh_none, -Int32.not_lt, -Int32.not_le, q_M_lift_67, q_M_lift_76, q_M_lift_87, q_M_lift_105, q_M_lift_108, q_M_lift_113, q_M_lift_123, q_M_lift_136, q_M_lift_139, q_M_lift_145, hL, e0, c0, hf.1, e1, e2, e3, c1', i1, ck, e4, c2', er]
      · have c2' : dvu (μ.2 20 k * m) 60 ≤ μ.2 27 k := by simpa using c2
        rw [if_neg c2] at hr ⊢
        by_cases c3 : 0 < μ.2 30 k
        · rw [if_pos (Or.inl c3)]
          simp [psh_some, psh_none, -Int32.not_lt, -Int32.not_le, q_M_lift_67, q_M_lift_76, q_M_lift_87, q_M_lift_105, q_M_lift_108, q_M_lift_113, q_M_lift_123, q_M_lift_136, q_M_lift_146, q_M_lift_170, q_M_lift_176, hL, e0, c0, hf.1, e1, e2, e3, c1', i1, ck, e4, c2', c3, er]
        · by_cases c4 : μ.2 28 k + m ≤ 840
          · rw [if_neg (fun z => z.elim c3 (fun y => y c4))] at hr ⊢
            by_cases c5 : μ.2 31 k = 0
            · rw [if_pos c5] at hr; exact absurd rfl hr
            · rw [if_neg c5]
              simp [psh_some, psh_none, -Int32.not_lt, -Int32.not_le, q_M_lift_67, q_M_lift_76, q_M_lift_87, q_M_lift_105, q_M_lift_108, q_M_lift_113, q_M_lift_123, q_M_lift_136, q_M_lift_146, q_M_lift_155, q_M_lift_177, q_M_lift_186, q_M_lift_192, hL, e0, c0, hf.1, e1, e2, e3, c1', i1, ck, e4, c2', c3, c4, c5, er]
          · rw [if_pos (Or.inr c4)]
            simp [psh_some, psh_none, -Int32.not_lt, -Int32.not_le, q_M_lift_67, q_M_lift_76, q_M_lift_87, q_M_lift_105, q_M_lift_108, q_M_lift_113, q_M_lift_123, q_M_lift_136, q_M_lift_146, q_M_lift_155, q_M_lift_170, q_M_lift_176, hL, e0, c0, hf.1, e1, e2, e3, c1', i1, ck, e4, c2', c3, c4, er]
  · rw [if_neg c0]
    simp [psh_some, psh_none, -Int32.not_lt, -Int32.not_le, q_M_lift_67, q_M_lift_76, q_M_lift_80, q_M_lift_86, hL, e0, c0, er]
theorem m_accept (hL : LM σ a) (hW : Wf μ) {k l : Nat} (hk : k < nB μ) {x3 x4 x5 m : Int32} (ha : x3 = nI (aT μ k)) (u7 u8 : Value) (hr : rfu μ k m = -1) : run (d + 5) 162 67 [.ref a, .int (nI k), .int (nI l), .int x3, .int x4, .int x5, u7, u8, u8] [.int m] (put σ a μ) = run (d + 5) 162 193 [.ref a, .int (nI k), .int (nI l), .int x3, .int x4, .int x5, .int m, u8, u8] [] (put σ a μ) := by
  have hC := hW.1
  have hb := hC.b
  have hf := hC.f
  have hs12 := hC.s.2
  have b0 := (hW.2.2.2.1.1 k hk).1
  have i1 : ix (nI k) 6 = true := ix_of (by omega) (by omega)
  have ck := cl6 (show k < 6 by omega)
  subst ha
  have e0 := m_fns d hL hC hW.2.2.2.2.2.2.2.1.1 (show k < 6 by omega) (show aT μ k < 12 by omega) 0
  have e1 := m_swellAt (μ := μ) (d + 3) hL hf.2 (nI (aT μ k)) (μ.1 1 / 60)
  have e1' : kno μ 0 (nI (aT μ k)) (μ.1 1 / 60) (nF μ) 3 = swN μ (aT μ k) := rfl
  rw [e1'] at e1
  have e2 := m_liftsFrom (μ := μ) (d + 4) hL (show k < 6 by omega) (swN μ (aT μ k))
  have e3 := m_weight (d + 3) hL hC (show k < 6 by omega)
  have e4 := m_burns (μ := μ) (d + 3) hL (show k < 6 by omega) m
  unfold rfu at hr
  by_cases c0 : fns μ k (aT μ k) 0 = -1
  · rw [if_pos c0] at hr
    by_cases c1 : lif (μ.2 18 k) (swN μ (aT μ k)) < wgt μ k
    · rw [if_pos c1] at hr; exact absurd hr (by decide)
    · have c1' : wgt μ k ≤ lif (μ.2 18 k) (swN μ (aT μ k)) := by simpa using c1
      rw [if_neg c1] at hr
      by_cases c2 : μ.2 27 k < dvu (μ.2 20 k * m) 60
      · rw [if_pos c2] at hr; exact absurd hr (by decide)
      · have c2' : dvu (μ.2 20 k * m) 60 ≤ μ.2 27 k := by simpa using c2
        rw [if_neg c2] at hr
        by_cases c3 : 0 < μ.2 30 k
        · rw [if_pos (Or.inl c3)] at hr; exact absurd hr (by decide)
        · by_cases c4 : μ.2 28 k + m ≤ 840
          · rw [if_neg (fun z => z.elim c3 (fun y => y c4))] at hr
            by_cases c5 : μ.2 31 k = 0
            · simp [psh_some, psh_none, -Int32.not_lt, -Int32.not_le, q_M_lift_67, q_M_lift_76, q_M_lift_87, q_M_lift_105, q_M_lift_108, q_M_lift_113, q_M_lift_123, q_M_lift_136, q_M_lift_146, q_M_lift_155, q_M_lift_177, hL, e0, c0, hf.1, e1, e2, e3, c1', i1, ck, e4, c2', c3, c4, c5]
            · rw [if_neg c5] at hr; exact absurd hr (by decide)
          · rw [if_pos (Or.inr c4)] at hr; exact absurd hr (by decide)
  · rw [if_neg c0] at hr; exact absurd hr (by decide)
theorem rfu_rest {k : Nat} {m : Int32} (h : rfu μ k m = -1) : ¬ 0 < μ.2 30 k := by
  intro c3
  unfold rfu at h
  repeat' split at h
  all_goals first | (exact absurd h (by decide)) | skip
  rename_i z _
  exact z (Or.inl c3)
end O65
