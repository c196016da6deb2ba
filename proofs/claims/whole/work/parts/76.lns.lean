/-! ===== BOTH READ ALL LINES ===== -/
section T76
variable {σ τ : Mm} {a c r : Nat} {t : Nat → Int32} {n : Nat} (d b : Nat)
/-- a stored term of the line l -/
def T1 (l k : Nat) (ρ μ : Ms) : Prop := ρ.2 86 (6 * l + k) = μ.2 49 (24 * l + 4 * k) ∧ (μ.2 49 (24 * l + 4 * k) = 0 ∨ μ.2 49 (24 * l + 4 * k) = 1) ∧ ρ.2 90 (6 * l + k) = μ.2 49 (24 * l + 4 * k + 1) ∧ (∃ v, v ≤ 7 ∧ μ.2 49 (24 * l + 4 * k + 1) = nI v) ∧ ρ.2 95 (6 * l + k) = μ.2 49 (24 * l + 4 * k + 2) ∧ ρ.2 100 (6 * l + k) = μ.2 49 (24 * l + 4 * k + 3)
/-- what of the earlier lines stays -/
def Er (l : Nat) (ρ ρ' μ μ' : Ms) : Prop := (∀ j, j < l → (ρ'.2 71 j = ρ.2 71 j ∧ ρ'.2 75 j = ρ.2 75 j ∧ ρ'.2 80 j = ρ.2 80 j) ∧ μ'.2 46 j = μ.2 46 j ∧ μ'.2 47 j = μ.2 47 j ∧ μ'.2 48 j = μ.2 48 j) ∧ (∀ j, j < 6 * l → ∀ q, q = 86 ∨ q = 90 ∨ q = 95 ∨ q = 100 → ρ'.2 q j = ρ.2 q j) ∧ ∀ j, j < 24 * l → μ'.2 49 j = μ.2 49 j
theorem Er.trans {l : Nat} {ρ ρ1 ρ2 μ μ1 μ2 : Ms} (h : Er l ρ ρ1 μ μ1) (h2 : Er l ρ1 ρ2 μ1 μ2) : Er l ρ ρ2 μ μ2 := by
  refine ⟨fun j hj => ?_, fun j hj q hq => (h2.2.1 j hj q hq).trans (h.2.1 j hj q hq), fun j hj => (h2.2.2 j hj).trans (h.2.2 j hj)⟩
  obtain ⟨⟨a1, a2, a3⟩, a4, a5, a6⟩ := h.1 j hj
  obtain ⟨⟨b1, b2, b3⟩, b4, b5, b6⟩ := h2.1 j hj
  exact ⟨⟨b1.trans a1, b2.trans a2, b3.trans a3⟩, b4.trans a4, b5.trans a5, b6.trans a6⟩
/-- a line is stored -/
def L1 (l : Nat) (ρ μ : Ms) : Prop := ρ.2 71 l = μ.2 46 l ∧ (μ.2 46 l = 0 ∨ μ.2 46 l = 1) ∧ ρ.2 75 l = μ.2 47 l ∧ ∃ k, k ≤ 6 ∧ ρ.2 80 l = nI k ∧ μ.2 48 l = nI k ∧ ∀ k', k' < k → T1 l k' ρ μ
theorem aTf_3 (p k : Nat) : (aTf t n p k).1 ≤ 3 := by
  unfold aTf
  by_cases c0 : tC t n p = 13 ∨ tC t n p ≤ 7
  · rw [if_pos c0]
    by_cases c1 : k = 6
    · rw [if_pos c1]; dsimp only; decide
    rw [if_neg c1]
    by_cases c2 : tC t n (aP1 t n p) ≤ 7
    · rw [if_pos c2]
      by_cases c3 : tC t n (aP2 t n p) = 21 ∧ ¬ tN t n (aP2 t n p) = 59
      · rw [if_pos c3]
        by_cases c4 : tC t n (aP3 t n p) = 20
        · rw [if_pos c4]; dsimp only; decide
        · rw [if_neg c4]; dsimp only; decide
      · rw [if_neg c3]; dsimp only; decide
    · rw [if_neg c2]; dsimp only; decide
  · rw [if_neg c0]; dsimp only; decide
theorem aTf_ok {p k : Nat} (h : (aTf t n p k).1 = 0) : tC t n (aP1 t n p) ≤ 7 := by
  unfold aTf at h
  by_cases c0 : tC t n p = 13 ∨ tC t n p ≤ 7
  · rw [if_pos c0] at h
    by_cases c1 : k = 6
    · rw [if_pos c1] at h; exact absurd h (Nat.succ_ne_zero _)
    rw [if_neg c1] at h
    by_cases c2 : tC t n (aP1 t n p) ≤ 7
    · exact c2
    · rw [if_neg c2] at h; exact absurd h (Nat.succ_ne_zero _)
  · rw [if_neg c0] at h; exact absurd h (Nat.succ_ne_zero _)
theorem Qm_tr {μ μ1 μ2 : Ms} {e1 e2 : Nat × Nat} (h1 : Qm t n μ μ1 e1) (h2 : Qm t n μ1 μ2 e2) : Qm t n μ μ2 e2 := ⟨fun g hg => (h2.1 g hg).trans (h1.1 g hg), fun f hf => (h2.2.1 f hf).trans (h1.2.1 f hf), h2.2.2⟩
theorem Qm_tk {μ : Ms} {p : Nat} (hM : CurM t n μ p) (h0 : μ.1 54 = 0) : Qm t n μ (tkS μ n (tT t n p)) (0, tT t n p) := ⟨fun g hg => tkS_1 _ _ _ (by omega), fun _ _ => rfl, fun _ => ⟨CurM_nx hM, by rw [tkS_1 _ _ _ (by omega)]; exact h0⟩, fun z => absurd rfl z⟩
/-- the terms of a line, from the k-th on -/
theorem tms (hB : Tb σ c t) (hS : Sg σ) (hU : RuL σ r) (hL : LM τ a) (hn : n ≤ 300) {l : Nat} (hl : l < 16) : ∀ (y k p : Nat) (ρ μ : Ms) (u3 : Value), k + y = 6 → p ≤ n → CurC t n ρ p → CurM t n μ p → μ.1 54 = 0 → ρ.1 7 = nI l → ρ.2 80 l = nI k → (∀ k', k' < k → T1 l k' ρ μ) → ∃ ρ' μ' μ1 e, run (d + 5) 40 23 [.ref r, .ref (c + 10), .int (nI k), u3] [] (cP σ c r ρ) = some (some (.int (nI e.1)), cP σ c r ρ') ∧ runc (b + 6) 151 [.ref a, .int (nI l), .int (nI k)] (put τ a μ) = some (none, put τ a μ1) ∧ (∀ x2 : Int32, ∃ u : Int32, run (b + 7) 152 133 [.ref a, .int (nI l), .int x2, .int (nI (k + 1))] [] (put τ a μ1) = run (b + 7) 152 165 [.ref a, .int (nI l), .int x2, .int u] [] (put τ a μ')) ∧ Qm t n μ μ' e ∧ CurC t n ρ' e.2 ∧ ρ'.1 7 = nI l ∧ e.2 ≤ n ∧ e.1 ≤ 4 ∧ Er l ρ ρ' μ μ' ∧ (ρ'.2 71 l = ρ.2 71 l ∧ ρ'.2 75 l = ρ.2 75 l ∧ μ'.2 46 l = μ.2 46 l ∧ μ'.2 47 l = μ.2 47 l) ∧ (e.1 = 0 → ∃ kk, kk ≤ 6 ∧ ρ'.2 80 l = nI kk ∧ μ'.2 48 l = nI kk ∧ ∀ k', k' < kk → T1 l k' ρ' μ') := by
  have hF := hB.1
  intro y
  induction y with
  | zero =>
    intro k p ρ μ u3 hk hp hc hM h0 h7 h80 hT
    have hk6 : k = 6 := by omega
    subst hk6
    obtain ⟨ρ1, r1, w0, w1, w2, w3, w4, w5, w6⟩ := c_term (d + 0) hB hS hU hn hp hc hl h7 (by omega) h80
    obtain ⟨μ1, r2, Q1, v1, v2, v3, v4, v5⟩ := m_term (σ := τ) b hL hn hp hM h0 (l := l) (k := 6) (by omega) (by omega)
    have hf : (aTf t n p 6).1 ≠ 0 := fun z => aTf_6 6 z rfl
    have h3 := aTf_3 (t := t) (n := n) p 6
    have hle := aTf_le (t := t) hp 6
    generalize aTf t n p 6 = e at r1 w0 Q1 hf h3 hle
    have z0 : ¬ nI e.1 = 0 := fun z => hf ((nI_eq (b := 0) (by omega) (by omega)).mp z)
    refine ⟨ρ1, μ1, μ1, e, ?_, r2, fun x2 => ⟨nI (6 + 1), ?_⟩, Q1, w0, by rw [w1]; exact h7, hle, by omega, ⟨fun j hj => ⟨⟨by rw [w2], by rw [w3], w4 j (by omega)⟩, by rw [v1], by rw [v2], v3 j (by omega)⟩, fun j hj q hq => w5 q hq j (by omega), fun j hj => v4 j (by omega)⟩, ⟨by rw [w2], by rw [w3], by rw [v1], by rw [v2]⟩, fun z => absurd z hf⟩
    · simp [psh_some, psh_none, -Int32.not_lt, -Int32.not_le, isA_r, isR_r, vd, e_Rules_readTerms_23, e_Rules_readTerms_28, e_Rules_readTerms_33, mK_cP, hU.1, r1, z0]
    · have q := (Q1.2.2.2 hf).1
      simp [psh_some, psh_none, -Int32.not_lt, -Int32.not_le, q_M_readLine_133, hL, q, z0]
  | succ y ih =>
    intro k p ρ μ u3 hk hp hc hM h0 h7 h80 hT
    obtain ⟨ρ1, r1, w0, w1, w2, w3, w4, w5, w6⟩ := c_term (d + 0) hB hS hU hn hp hc hl h7 (show k ≤ 6 by omega) h80
    obtain ⟨μ1, r2, Q1, v1, v2, v3, v4, v5⟩ := m_term (σ := τ) b hL hn hp hM h0 (l := l) (k := k) (by omega) (by omega)
    have h3 := aTf_3 (t := t) (n := n) p k
    have hle := aTf_le (t := t) hp k
    have hok := fun h => aTf_ok (t := t) (n := n) (p := p) (k := k) h
    generalize aTf t n p k = e at r1 w0 w6 Q1 v5 h3 hle hok
    have er1 : Er l ρ ρ1 μ μ1 := ⟨fun j hj => ⟨⟨by rw [w2], by rw [w3], w4 j (by omega)⟩, by rw [v1], by rw [v2], v3 j (by omega)⟩, fun j hj q hq => w5 q hq j (by omega), fun j hj => v4 j (by omega)⟩
    by_cases hf : e.1 = 0
    · obtain ⟨x0, x1, x2, x3, x4⟩ := w6 hf
      obtain ⟨y0, y1, y2, y3, y4⟩ := v5 hf
      have hT1 : ∀ k', k' < k + 1 → T1 l k' ρ1 μ1 := fun k' hk' => by
        by_cases q : k' = k
        · subst q
          refine ⟨by rw [x1, y1], by rw [y1]; exact bZ_or _, by rw [x2, y2], ⟨_, hok hf, y2⟩, by rw [x3, y3], by rw [x4, y4]⟩
        · obtain ⟨t1, t2, t3, t4, t5, t6⟩ := hT k' (by omega)
          unfold T1
          rw [w5 86 (by omega) _ (by omega), w5 90 (by omega) _ (by omega), w5 95 (by omega) _ (by omega), w5 100 (by omega) _ (by omega), v4 _ (by omega), v4 _ (by omega), v4 _ (by omega), v4 _ (by omega)]
          exact ⟨t1, t2, t3, t4, t5, t6⟩
      obtain ⟨M1, f1⟩ := Q1.2.2.1 hf
      obtain ⟨s13, p13, e13⟩ := t_isWord (r := r) (d + 3) hB hS hn hle w0 (k := 13) (by decide)
      rw [show scd 13 = 12 from rfl] at e13
      have h23 := tC_le t n e.2
      have ze : nI e.1 = 0 := by rw [hf]; rfl
      by_cases h12 : tC t n e.2 = 12
      · rw [bZ_t h12] at e13
        have w12 : nI (tC t n e.2) = 12 := (n12 _ (by omega)).mpr h12
        have en := c_next (r := r) (d + 2) hB hn hle w0
        have C2 := CurC_nx hle w0
        have em := m_nx (σ := τ) (b + 3) hL hn hle M1
        have Q2 := Qm_tk M1 f1
        have M2 := CurM_nx M1
        have f2 : (tkS μ1 n (tT t n e.2)).1 54 = 0 := by rw [tkS_1 _ _ _ (by omega)]; exact f1
        have a2 : (tkS μ1 n (tT t n e.2)).2 = μ1.2 := rfl
        have q72 : (tkR t ρ1 n (tT t n e.2)).1 7 = nI l := by rw [tkR_1 _ _ _ _ (by omega), w1]; exact h7
        have b2 : (tkR t ρ1 n (tT t n e.2)).2 = ρ1.2 := rfl
        have i6 : ¬ 6 < nI k + 1 := by rw [nI_1]; exact nI_nlt (a := 6) (by omega) (by omega)
        have s1 : run (d + 5) 40 23 [.ref r, .ref (c + 10), .int (nI k), u3] [] (cP σ c r ρ) = run (d + 5) 40 23 [.ref r, .ref (c + 10), .int (nI (k + 1)), .int 0] [] (cP σ c r (tkR t ρ1 n (tT t n e.2))) := by
          simp [psh_some, psh_none, -Int32.not_lt, -Int32.not_le, va_rf, isA_r, isR_r, vd, e_Rules_readTerms_23, e_Rules_readTerms_28, e_Rules_readTerms_35, e_Rules_readTerms_41, e_Rules_readTerms_46, e_Rules_readTerms_13, e_Rules_readTerms_19, mP_cP, mK_cP, hU.1, fK_10 hF, r1, ze, p13, e13, i6, en]
          rw [nI_1]
        generalize tkR t ρ1 n (tT t n e.2) = ρ2 at C2 q72 b2 s1
        generalize tkS μ1 n (tT t n e.2) = μ2 at em Q2 M2 f2 a2
        obtain ⟨ρ', μ', μ3, e', g1, g2, g3, g4, g5, g6, g7, g8, g9, g10, g11⟩ := ih (k + 1) (tT t n e.2) ρ2 μ2 (.int 0) (by omega) (tT_le t hle).2 C2 M2 f2 q72 (by rw [b2]; exact x0) (fun k' hk' => by
          have := hT1 k' hk'
          unfold T1 at this ⊢
          rw [a2, b2]
          exact this)
        have er2 : Er l ρ1 ρ2 μ1 μ2 := ⟨fun j _ => ⟨⟨by rw [b2], by rw [b2], by rw [b2]⟩, by rw [a2], by rw [a2], by rw [a2]⟩, fun _ _ _ _ => by rw [b2], fun _ _ => by rw [a2]⟩
        refine ⟨ρ', μ', μ1, e', s1.trans g1, r2, fun x2 => ?_, Qm_tr Q1 (Qm_tr Q2 g4), g5, g6, g7, g8, er1.trans (er2.trans g9), ⟨?_, ?_, ?_, ?_⟩, g11⟩
        · obtain ⟨u, gu⟩ := g3 x2
          refine ⟨u, ?_⟩
          rw [← gu]
          simp [psh_some, psh_none, -Int32.not_lt, -Int32.not_le, q_M_readLine_133, q_M_readLine_140, q_M_readLine_149, q_M_readLine_153, q_M_readLine_159, hL, f1, M1.2.2.2.2.1, w12, em, g2, nI_1]
        · rw [g10.1, b2, w2]
        · rw [g10.2.1, b2, w3]
        · rw [g10.2.2.1, a2, v1]
        · rw [g10.2.2.2, a2, v2]
      · rw [bZ_f h12] at e13
        have w12 : ¬ nI (tC t n e.2) = 12 := fun z => h12 ((n12 _ (by omega)).mp z)
        refine ⟨ρ1, μ1, μ1, e, ?_, r2, fun x2 => ⟨nI (k + 1), ?_⟩, Q1, w0, by rw [w1]; exact h7, hle, by omega, er1, ⟨by rw [w2], by rw [w3], by rw [v1], by rw [v2]⟩, fun _ => ⟨k + 1, by omega, x0, y0, hT1⟩⟩
        · simp [psh_some, psh_none, -Int32.not_lt, -Int32.not_le, va_rf, isA_r, isR_r, vd, e_Rules_readTerms_23, e_Rules_readTerms_28, e_Rules_readTerms_35, e_Rules_readTerms_41, e_Rules_readTerms_44, mP_cP, mK_cP, hU.1, fK_10 hF, r1, ze, p13, e13]
        · simp [psh_some, psh_none, -Int32.not_lt, -Int32.not_le, q_M_readLine_133, q_M_readLine_140, hL, f1, M1.2.2.2.2.1, w12]
    · have z0 : ¬ nI e.1 = 0 := fun z => hf ((nI_eq (b := 0) (by omega) (by omega)).mp z)
      refine ⟨ρ1, μ1, μ1, e, ?_, r2, fun x2 => ⟨nI (k + 1), ?_⟩, Q1, w0, by rw [w1]; exact h7, hle, by omega, er1, ⟨by rw [w2], by rw [w3], by rw [v1], by rw [v2]⟩, fun z => absurd z hf⟩
      · simp [psh_some, psh_none, -Int32.not_lt, -Int32.not_le, isA_r, isR_r, vd, e_Rules_readTerms_23, e_Rules_readTerms_28, e_Rules_readTerms_33, mK_cP, hU.1, r1, z0]
      · have q := (Q1.2.2.2 hf).1
        simp [psh_some, psh_none, -Int32.not_lt, -Int32.not_le, q_M_readLine_133, hL, q, z0]
end T76
