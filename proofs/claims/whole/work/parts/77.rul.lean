/-! ===== A LINE, ALL LINES ===== -/
section T77
variable {σ τ : Mm} {a c r : Nat} {t : Nat → Int32} {n : Nat} (d b : Nat)
/-- the class reads the terms behind a head -/
theorem c_close (hB : Tb σ c t) (hn : n ≤ 300) {p : Nat} {ρ : Ms} (hp : p ≤ n) (hc : CurC t n ρ p) : runc (d + 3) 39 [.ref (c + 10)] (cP σ c r ρ) = if tC t n p = 21 ∧ tN t n p = 59 then some (some (.int 0), cP σ c r (tkR t ρ n (tT t n p))) else some (some (.int 1), cP σ c r ρ) := by
  have hF := hB.1
  have es := t_sign (r := r) (d + 1) hB hn hp hc
  have en := c_next (r := r) d hB hn hp hc
  by_cases h1 : tC t n p = 21
  · rw [if_pos h1] at es
    by_cases h2 : tN t n p = 59
    · rw [if_pos ⟨h1, h2⟩]
      simp [psh_some, psh_none, -Int32.not_lt, -Int32.not_le, isA_r, isR_r, vd, rc_Rules_readClose, e_Rules_readClose_0, e_Rules_readClose_4, e_Rules_readClose_11, e_Rules_readClose_15, mK_cP, fK_10 hF, es, h2, en]
    · rw [if_neg (fun z => h2 z.2)]
      simp [psh_some, psh_none, -Int32.not_lt, -Int32.not_le, isA_r, isR_r, vd, rc_Rules_readClose, e_Rules_readClose_0, e_Rules_readClose_4, e_Rules_readClose_9, mK_cP, fK_10 hF, es, h2]
  · rw [if_neg h1] at es
    rw [if_neg (fun z => h1 z.1)]
    simp [psh_some, psh_none, -Int32.not_lt, -Int32.not_le, isA_r, isR_r, vd, rc_Rules_readClose, e_Rules_readClose_0, e_Rules_readClose_4, e_Rules_readClose_9, mK_cP, fK_10 hF, es]
theorem Qm_flt {μ : Ms} {e : Nat × Nat} {μ' : Ms} (h : Qm t n μ μ' e) (hf : e.1 ≠ 0) (h4 : e.1 ≤ 4) : ¬ μ'.1 54 ≤ 0 ∧ ¬ μ'.1 54 = 0 := by
  obtain ⟨q1, -⟩ := h.2.2.2 hf
  rw [q1]
  refine ⟨nI_nle (by omega) (by omega), nI_ne0 (by omega) (by omega)⟩
/-- the reference's line ends with a fault that was there ahead of 'if' -/
theorem m_fl (hL : LM τ a) {μ : Ms} (h1 : ¬ μ.1 54 ≤ 0) (h2 : ¬ μ.1 54 = 0) (l : Int32) (u2 u3 : Value) : run (b + 7) 152 116 [.ref a, .int l, u2, u3] [] (put τ a μ) = some (none, put τ a μ) := by
  have e1 := tk_f (σ := τ) (b + 2) hL h1 11 11
  have e2 := m_term_f (σ := τ) b hL h1 l
  simp [psh_some, psh_none, -Int32.not_lt, -Int32.not_le, q_M_readLine_116, q_M_readLine_124, q_M_readLine_131, q_M_readLine_133, q_M_readLine_165, q_M_readLine_195, q_M_readLine_206, hL, e1, e2, h2]
theorem m_fl2 (hL : LM τ a) {μ : Ms} (h2 : ¬ μ.1 54 = 0) (l : Int32) (x2 x3 : Int32) : run (b + 7) 152 165 [.ref a, .int l, .int x2, .int x3] [] (put τ a μ) = some (none, put τ a μ) := by
  simp [psh_some, psh_none, -Int32.not_lt, -Int32.not_le, q_M_readLine_165, q_M_readLine_195, q_M_readLine_206, hL, h2]
/-- the class's answer with a fault -/
theorem c_flt (hF : FL σ c) {q : Nat} {ρ : Ms} (hc : CurC t n ρ q) {f : Nat} (hf : f ≠ 0) (h4 : f ≤ 4) (x2 : Int32) : run (d + 6) 37 40 [.ref r, .ref (c + 10), .int x2, .int (nI f)] [] (cP σ c r ρ) = some (some (.int (nI f + 10 * nI (tF t n q))), cP σ c r ρ) := by
  have z0 : ¬ nI f = 0 := nI_ne0 (by omega) (by omega)
  simp [psh_some, psh_none, -Int32.not_lt, -Int32.not_le, isA_r, isR_r, vd, e_Rules_read_40, e_Rules_read_49, e_Rules_read_53, mK_cP, cT, fK_10 hF, z0, hc.2.2.1]
theorem Er_0 {l : Nat} {ρ μ ρ' μ' : Ms} (h : ρ'.2 = ρ.2) (h2 : μ'.2 = μ.2) : Er l ρ ρ' μ μ' := ⟨fun j _ => ⟨⟨by rw [h], by rw [h], by rw [h]⟩, by rw [h2], by rw [h2], by rw [h2]⟩, fun _ _ _ _ => by rw [h], fun _ _ => by rw [h2]⟩
theorem L1_eq {l : Nat} {ρ μ ρ' μ' : Ms} (h : L1 l ρ μ) (e1 : ρ'.2 71 l = ρ.2 71 l ∧ ρ'.2 75 l = ρ.2 75 l ∧ ρ'.2 80 l = ρ.2 80 l) (e2 : μ'.2 46 l = μ.2 46 l ∧ μ'.2 47 l = μ.2 47 l ∧ μ'.2 48 l = μ.2 48 l) (e3 : ∀ k, k < 6 → ∀ q, q = 86 ∨ q = 90 ∨ q = 95 ∨ q = 100 → ρ'.2 q (6 * l + k) = ρ.2 q (6 * l + k)) (e4 : ∀ k, k < 24 → μ'.2 49 (24 * l + k) = μ.2 49 (24 * l + k)) : L1 l ρ' μ' := by
  obtain ⟨h1, h2, h3, k, h4, h5, h6, h7⟩ := h
  unfold L1
  rw [e1.1, e1.2.1, e1.2.2, e2.1, e2.2.1, e2.2.2]
  refine ⟨h1, h2, h3, k, h4, h5, h6, fun k' hk' => ?_⟩
  have q := h7 k' hk'
  unfold T1 at q ⊢
  rw [e3 k' (by omega) 86 (by omega), e3 k' (by omega) 90 (by omega), e3 k' (by omega) 95 (by omega), e3 k' (by omega) 100 (by omega), e4 (4 * k') (by omega), show 24 * l + 4 * k' + 1 = 24 * l + (4 * k' + 1) by omega, show 24 * l + 4 * k' + 2 = 24 * l + (4 * k' + 2) by omega, show 24 * l + 4 * k' + 3 = 24 * l + (4 * k' + 3) by omega, e4 (4 * k' + 1) (by omega), e4 (4 * k' + 2) (by omega), e4 (4 * k' + 3) (by omega)]
  exact q
theorem L1_er {l j : Nat} {ρ μ ρ' μ' : Ms} (h : L1 j ρ μ) (hj : j < l) (he : Er l ρ ρ' μ μ') : L1 j ρ' μ' := L1_eq h (he.1 j hj).1 (he.1 j hj).2 (fun k hk q hq => he.2.1 _ (by omega) q hq) (fun k hk => he.2.2 _ (by omega))
theorem lns (hB : Tb σ c t) (hS : Sg σ) (hU : RuL σ r) (hL : LM τ a) (hn : n ≤ 300) {l p : Nat} {ρ μ : Ms} (u3 : Value) (hl : l ≤ 16) (hp : p ≤ n) (hc : CurC t n ρ p) (hM : CurM t n μ p) (h0 : μ.1 54 = 0) (h7 : ρ.1 7 = nI l) : ∃ ρ' μ' e, (∃ u : Value, run (d + 6) 37 24 [.ref r, .ref (c + 10), .int (nI l), u3] [] (cP σ c r ρ) = if e.1 = 0 then run (d + 6) 37 11 [.ref r, .ref (c + 10), .int (nI (l + 1)), u] [] (cP σ c r (fF ρ' 7 (nI (l + 1)))) else some (some (.int (nI e.1 + 10 * nI (tF t n e.2))), cP σ c r ρ')) ∧ runc (b + 7) 152 [.ref a, .int (nI l)] (put τ a μ) = some (none, put τ a μ') ∧ Qm t n μ μ' e ∧ CurC t n ρ' e.2 ∧ e.2 ≤ n ∧ e.1 ≤ 4 ∧ Er l ρ ρ' μ μ' ∧ (e.1 = 0 → l < 16 ∧ L1 l ρ' μ') := by
  have hF := hB.1
  obtain ⟨ρ1, r1, w0, w1, w2, w3, w4⟩ := c_head (d + 2) hB hS hU hn hp hc hl h7
  obtain ⟨μ1, r2, Q1, v1, v2, v3⟩ := m_head (σ := τ) b hL hn hp hM h0 hl
  have hle := aH_le (t := t) hp l
  obtain ⟨h4, h16⟩ := aH_4 (t := t) (n := n) p l
  generalize aH t n p l = e at r1 w0 w4 Q1 v3 hle h4 h16
  have er1 : Er l ρ ρ1 μ μ1 := ⟨fun j hj => ⟨⟨w3 71 (by omega) j (by omega), w3 75 (by omega) j (by omega), w3 80 (by omega) j (by omega)⟩, v2 46 (by omega) j (by omega), v2 47 (by omega) j (by omega), v2 48 (by omega) j (by omega)⟩, fun j hj q hq => by rw [w2 q hq], fun j hj => by rw [v1]⟩
  by_cases hf : e.1 = 0
  · have hl16 : l < 16 := by have := h16 hf; omega
    obtain ⟨x1, x2, x3⟩ := w4 hf
    obtain ⟨y1, y2, y3⟩ := v3 hf
    obtain ⟨M1, f1⟩ := Q1.2.2.1 hf
    have ze : nI e.1 = 0 := by rw [hf]; rfl
    have h23 := tC_le t n e.2
    obtain ⟨s3, p3, e3⟩ := t_isWord (r := r) (d + 3) hB hS hn hle w0 (k := 3) (by decide)
    rw [show scd 3 = 11 from rfl] at e3
    by_cases h11 : tC t n e.2 = 11
    · -- the terms
      rw [bZ_t h11] at e3
      have en := c_next (r := r) (d + 2) hB hn hle w0
      have C2 := CurC_nx hle w0
      have Q2 := Qm_tk M1 f1
      have et := tk_ok (σ := τ) (b + 2) hL hn hle M1 f1 ((i11 _ (by omega)).mpr h11)
      have M2 := CurM_nx M1
      have f2 : (tkS μ1 n (tT t n e.2)).1 54 = 0 := by rw [tkS_1 _ _ _ (by omega)]; exact f1
      have a2 : (tkS μ1 n (tT t n e.2)).2 = μ1.2 := rfl
      have q72 : (tkR t ρ1 n (tT t n e.2)).1 7 = nI l := by rw [tkR_1 _ _ _ _ (by omega), w1]; exact h7
      have b2 : (tkR t ρ1 n (tT t n e.2)).2 = ρ1.2 := rfl
      have p2 := (tT_le t hle).2
      have s1 : runc (d + 5) 40 [.ref r, .ref (c + 10)] (cP σ c r ρ1) = run (d + 5) 40 23 [.ref r, .ref (c + 10), .int (nI 0), uu] [] (cP σ c r (tkR t ρ1 n (tT t n e.2))) := by
        rw [nI_0]
        simp [psh_some, psh_none, -Int32.not_lt, -Int32.not_le, va_rf, isA_r, isR_r, vd, rc_Rules_readTerms, e_Rules_readTerms_0, e_Rules_readTerms_6, e_Rules_readTerms_11, e_Rules_readTerms_13, e_Rules_readTerms_19, mP_cP, mK_cP, hU.1, fK_10 hF, p3, e3, en]
      generalize tkR t ρ1 n (tT t n e.2) = ρ2 at C2 q72 b2 s1
      generalize tkS μ1 n (tT t n e.2) = μ2 at et Q2 M2 f2 a2
      obtain ⟨ρ3, μ3, μ4, e', g1, g2, g3, g4, g5, g6, g7, g8, g9, g10, g11⟩ := tms (r := r) d b hB hS hU hL hn hl16 6 0 (tT t n e.2) ρ2 μ2 uu (by omega) p2 C2 M2 f2 q72 (by rw [b2, x3]; rfl) (fun k' hk' => by omega)
      have er2 : Er l ρ1 ρ2 μ1 μ2 := Er_0 b2 a2
      obtain ⟨u, gu⟩ := g3 (nI (tC t n e.2))
      have rM : runc (b + 7) 152 [.ref a, .int (nI l)] (put τ a μ) = run (b + 7) 152 165 [.ref a, .int (nI l), .int (nI (tC t n e.2)), .int u] [] (put τ a μ3) := by
        rw [r2, ← gu]
        have g2' : runc (b + 6) 151 [.ref a, .int (nI l), .int 0] (put τ a μ2) = some (none, put τ a μ4) := g2
        simp [psh_some, psh_none, -Int32.not_lt, -Int32.not_le, q_M_readLine_116, q_M_readLine_124, q_M_readLine_131, hL, et, g2', show nI (0 + 1) = (1 : Int32) from rfl]
      have rC : run (d + 6) 37 24 [.ref r, .ref (c + 10), .int (nI l), u3] [] (cP σ c r ρ) = run (d + 6) 37 40 [.ref r, .ref (c + 10), .int (nI l), .int (nI e'.1)] [] (cP σ c r ρ3) := by
        have s1' := s1.trans g1
        simp [psh_some, psh_none, -Int32.not_lt, -Int32.not_le, isA_r, isR_r, vd, e_Rules_read_24, e_Rules_read_29, e_Rules_read_34, e_Rules_read_39, mK_cP, hU.1, r1, ze, s1']
      by_cases hf' : e'.1 = 0
      · -- its end
        obtain ⟨M3, f3⟩ := g4.2.2.1 hf'
        have ze' : nI e'.1 = 0 := by rw [hf']; rfl
        have h233 := tC_le t n e'.2
        have ec := c_close (σ := σ) (r := r) (d + 2) hB hn g7 g5
        obtain ⟨kk, k1, k2, k3, k4⟩ := g11 hf'
        by_cases h59 : tC t n e'.2 = 21 ∧ tN t n e'.2 = 59
        · rw [if_pos h59] at ec
          have w21 : nI (tC t n e'.2) = 21 := (n21 _ (by omega)).mpr h59.1
          have em := m_nx (σ := τ) (b + 3) hL hn g7 M3
          have q7 : (tkR t ρ3 n (tT t n e'.2)).1 7 = nI l := by rw [tkR_1 _ _ _ _ (by omega)]; exact g6
          refine ⟨tkR t ρ3 n (tT t n e'.2), tkS μ3 n (tT t n e'.2), (0, tT t n e'.2), ⟨.int 0, ?_⟩, ?_, Qm_tr Q1 (Qm_tr Q2 (Qm_tr g4 (Qm_tk M3 f3))), CurC_nx g7 g5, (tT_le t g7).2, Nat.zero_le _, er1.trans (er2.trans (g9.trans (Er_0 rfl rfl))), fun _ => ⟨hl16, ?_⟩⟩
          · rw [rC, if_pos rfl]
            rw [← nI_1 l]
            simp [psh_some, psh_none, -Int32.not_lt, -Int32.not_le, isA_r, isR_r, vd, e_Rules_read_40, e_Rules_read_44, e_Rules_read_48, e_Rules_read_49, e_Rules_read_63, e_Rules_read_73, mK_cP, cL, cL_s, hU.1, ze', ec, q7]
          · rw [rM]
            simp [psh_some, psh_none, -Int32.not_lt, -Int32.not_le, q_M_readLine_165, q_M_readLine_172, q_M_readLine_181, q_M_readLine_195, q_M_readLine_202, q_M_readLine_206, hL, f3, M3.2.2.2.2.1, M3.2.2.2.2.2, w21, h59.2, em]
          · refine ⟨?_, ?_, ?_, kk, k1, k2, k3, k4⟩
            · show ρ3.2 71 l = μ3.2 46 l
              rw [g10.1, b2, x1, g10.2.2.1, a2, y1]
            · show μ3.2 46 l = 0 ∨ μ3.2 46 l = 1
              rw [g10.2.2.1, a2, y1]
              exact bZ_or _
            · show ρ3.2 75 l = μ3.2 47 l
              rw [g10.2.1, b2, x2, g10.2.2.2, a2, y2]
        · rw [if_neg h59] at ec
          have eb := m_blames (σ := τ) (b + 6) hL f3 1
          refine ⟨ρ3, blm μ3 1, (1, e'.2), ⟨uu, ?_⟩, ?_, Qm_tr Q1 (Qm_tr Q2 (Qm_tr g4 (Qm_blm (k := 1) M3 (by decide)))), g5, g7, (by dsimp only; decide), er1.trans (er2.trans (g9.trans (Er_0 rfl rfl))), fun z => absurd z (Nat.succ_ne_zero _)⟩
          · rw [rC, if_neg (Nat.succ_ne_zero _)]
            have z1 : nI 1 = (1 : Int32) := rfl
            simp [psh_some, psh_none, -Int32.not_lt, -Int32.not_le, isA_r, isR_r, vd, e_Rules_read_40, e_Rules_read_44, e_Rules_read_48, e_Rules_read_49, e_Rules_read_53, mK_cP, cT, hU.1, fK_10 hF, ze', ec, g5.2.2.1, z1]
          · rw [rM]
            by_cases h21 : tC t n e'.2 = 21
            · have w21 : nI (tC t n e'.2) = 21 := (n21 _ (by omega)).mpr h21
              have n59 : ¬ tN t n e'.2 = 59 := fun z => h59 ⟨h21, z⟩
              simp [psh_some, psh_none, -Int32.not_lt, -Int32.not_le, q_M_readLine_165, q_M_readLine_172, q_M_readLine_181, q_M_readLine_190, q_M_readLine_195, q_M_readLine_206, hL, f3, M3.2.2.2.2.1, M3.2.2.2.2.2, w21, n59, eb, blm_54]
            · have w21 : ¬ nI (tC t n e'.2) = 21 := fun z => h21 ((n21 _ (by omega)).mp z)
              simp [psh_some, psh_none, -Int32.not_lt, -Int32.not_le, q_M_readLine_165, q_M_readLine_172, q_M_readLine_190, q_M_readLine_195, q_M_readLine_206, hL, f3, M3.2.2.2.2.1, w21, eb, blm_54]
      · obtain ⟨n1, n2⟩ := Qm_flt g4 hf' g8
        refine ⟨ρ3, μ3, e', ⟨uu, ?_⟩, rM.trans (m_fl2 b hL n2 _ _ _), Qm_tr Q1 (Qm_tr Q2 g4), g5, g7, g8, er1.trans (er2.trans g9), fun z => absurd z hf'⟩
        rw [rC, if_neg hf']
        exact c_flt d hF g5 hf' g8 _
    · rw [bZ_f h11] at e3
      have et := tk_no (σ := τ) (b + 2) hL M1 f1 (lo := 11) (hi := 11) (fun z => h11 ((i11 _ (by omega)).mp z))
      have e2 := m_term_f (σ := τ) (μ := blm μ1 1) b hL (by rw [blm_54]; decide) (nI l)
      refine ⟨ρ1, blm μ1 1, (1, e.2), ⟨uu, ?_⟩, ?_, Qm_tr Q1 (Qm_blm (k := 1) M1 (by decide)), w0, hle, (by dsimp only; decide), er1.trans (Er_0 rfl rfl), fun z => absurd z (Nat.succ_ne_zero _)⟩
      · rw [if_neg (Nat.succ_ne_zero _)]
        have s1 : runc (d + 5) 40 [.ref r, .ref (c + 10)] (cP σ c r ρ1) = some (some (.int (nI 1)), cP σ c r ρ1) := by
          have z1 : nI 1 = (1 : Int32) := rfl
          simp [psh_some, psh_none, -Int32.not_lt, -Int32.not_le, va_rf, isA_r, isR_r, vd, rc_Rules_readTerms, e_Rules_readTerms_0, e_Rules_readTerms_6, e_Rules_readTerms_9, mP_cP, mK_cP, fK_10 hF, p3, e3, z1]
        have q := c_flt (σ := σ) (r := r) d hF w0 (f := 1) (by decide) (by decide) (nI l)
        rw [← q]
        simp [psh_some, psh_none, -Int32.not_lt, -Int32.not_le, isA_r, isR_r, vd, e_Rules_read_24, e_Rules_read_29, e_Rules_read_34, e_Rules_read_39, mK_cP, hU.1, r1, ze, s1]
      · rw [r2]
        simp [psh_some, psh_none, -Int32.not_lt, -Int32.not_le, q_M_readLine_116, q_M_readLine_124, q_M_readLine_131, q_M_readLine_133, q_M_readLine_165, q_M_readLine_195, q_M_readLine_206, hL, et, e2, blm_54]
  · obtain ⟨n1, n2⟩ := Qm_flt Q1 hf h4
    refine ⟨ρ1, μ1, e, ⟨uu, ?_⟩, r2.trans (m_fl b hL n1 n2 _ _ _), Q1, w0, hle, h4, er1, fun z => absurd z hf⟩
    rw [if_neg hf]
    have q := c_flt (σ := σ) (r := r) d hF w0 hf h4 (nI l)
    rw [← q]
    have z0 : ¬ nI e.1 = 0 := nI_ne0 (by omega) (by omega)
    simp [psh_some, psh_none, -Int32.not_lt, -Int32.not_le, isA_r, isR_r, vd, e_Rules_read_24, e_Rules_read_29, mK_cP, hU.1, r1, z0]
/-- all lines, from the l-th on -/
theorem rls (hB : Tb σ c t) (hS : Sg σ) (hU : RuL σ r) (hL : LM τ a) (hn : n ≤ 300) : ∀ (y l p : Nat) (ρ μ : Ms) (u3 : Value), l + y = 16 → p ≤ n → CurC t n ρ p → CurM t n μ p → μ.1 54 = 0 → ρ.1 7 = nI l → (∀ j, j < l → L1 j ρ μ) → ∃ (ρ' μ' : Ms) (e : Nat × Nat) (l' : Nat), run (d + 6) 37 11 [.ref r, .ref (c + 10), .int (nI l), u3] [] (cP σ c r ρ) = some (some (.int (if e.1 = 0 then 0 else nI e.1 + 10 * nI (tF t n e.2))), cP σ c r ρ') ∧ (∀ u2 : Value, run (b + 8) 153 21 [.ref a, .int (nI l), u2] [] (put τ a μ) = run (b + 8) 153 48 [.ref a, .int (nI l'), u2] [] (put τ a μ')) ∧ (∀ g, g < 50 ∨ 55 < g → μ'.1 g = μ.1 g) ∧ (∀ f, f < 46 ∨ 49 < f → μ'.2 f = μ.2 f) ∧ (e.1 ≠ 0 → μ'.1 54 = nI e.1 ∧ μ'.1 55 = nI (tF t n e.2)) ∧ e.1 ≤ 4 ∧ e.2 ≤ n ∧ ρ'.1 1 = nI n ∧ (e.1 = 0 → μ'.1 54 = 0 ∧ l' ≤ 16 ∧ ρ'.1 7 = nI l' ∧ ∀ j, j < l' → L1 j ρ' μ') := by
  have hF := hB.1
  intro y
  induction y with
  | zero =>
    intro l p ρ μ u3 hl hp hc hM h0 h7 hL1
    have h16 : l = 16 := by omega
    have k0 := kind_0 hp hc
    have i16 : ¬ 16 < nI l := nI_nlt (a := 16) (by omega) (by omega)
    have h23 := tC_le t n p
    by_cases h22 : tC t n p = 22
    · have k0' : ρ.1 2 = 0 := k0.mpr h22
      have w22 : nI (tC t n p) = 22 := (n22 _ (by omega)).mpr h22
      refine ⟨ρ, μ, (0, p), l, ?_, fun u2 => ?_, fun _ _ => rfl, fun _ _ => rfl, fun z => absurd rfl z, Nat.zero_le _, hp, hc.1, fun _ => ⟨h0, by omega, h7, hL1⟩⟩
      · simp [psh_some, psh_none, -Int32.not_lt, -Int32.not_le, isA_r, isR_r, vd, e_Rules_read_11, e_Rules_read_17, e_Rules_read_79, mK_cP, cT, fK_10 hF, i16, k0']
      · simp [psh_some, psh_none, -Int32.not_lt, -Int32.not_le, q_M_rules_21, q_M_rules_28, hL, h0, hM.2.2.2.2.1, w22]
    · have k0' : ¬ ρ.1 2 = 0 := fun z => h22 (k0.mp z)
      have w22 : ¬ nI (tC t n p) = 22 := fun z => h22 ((n22 _ (by omega)).mp z)
      obtain ⟨ρ1, μ1, e, ⟨u, g1⟩, g2, g3, g4, g5, g6, g7, g8⟩ := lns (r := r) d b hB hS hU hL hn u3 (show l ≤ 16 by omega) hp hc hM h0 h7
      have hf : e.1 ≠ 0 := fun z => by have := (g8 z).1; omega
      rw [if_neg hf] at g1
      obtain ⟨q1, q2⟩ := g3.2.2.2 hf
      refine ⟨ρ1, μ1, e, l + 1, ?_, fun u2 => ?_, g3.1, g3.2.1, fun _ => ⟨q1, q2⟩, g6, g5, g4.1, fun z => absurd z hf⟩
      · rw [if_neg hf, ← g1]
        simp [psh_some, psh_none, -Int32.not_lt, -Int32.not_le, isA_r, isR_r, vd, e_Rules_read_11, e_Rules_read_17, mK_cP, cT, fK_10 hF, i16, k0']
      · have n2 := (Qm_flt g3 hf g6).2
        simp [psh_some, psh_none, -Int32.not_lt, -Int32.not_le, q_M_rules_21, q_M_rules_28, q_M_rules_37, q_M_rules_42, hL, h0, hM.2.2.2.2.1, w22, g2, n2, nI_1]
  | succ y ih =>
    intro l p ρ μ u3 hl hp hc hM h0 h7 hL1
    have k0 := kind_0 hp hc
    have i16 : ¬ 16 < nI l := nI_nlt (a := 16) (by omega) (by omega)
    have h23 := tC_le t n p
    by_cases h22 : tC t n p = 22
    · have k0' : ρ.1 2 = 0 := k0.mpr h22
      have w22 : nI (tC t n p) = 22 := (n22 _ (by omega)).mpr h22
      refine ⟨ρ, μ, (0, p), l, ?_, fun u2 => ?_, fun _ _ => rfl, fun _ _ => rfl, fun z => absurd rfl z, Nat.zero_le _, hp, hc.1, fun _ => ⟨h0, by omega, h7, hL1⟩⟩
      · simp [psh_some, psh_none, -Int32.not_lt, -Int32.not_le, isA_r, isR_r, vd, e_Rules_read_11, e_Rules_read_17, e_Rules_read_79, mK_cP, cT, fK_10 hF, i16, k0']
      · simp [psh_some, psh_none, -Int32.not_lt, -Int32.not_le, q_M_rules_21, q_M_rules_28, hL, h0, hM.2.2.2.2.1, w22]
    · have k0' : ¬ ρ.1 2 = 0 := fun z => h22 (k0.mp z)
      have w22 : ¬ nI (tC t n p) = 22 := fun z => h22 ((n22 _ (by omega)).mp z)
      obtain ⟨ρ1, μ1, e, ⟨u, g1⟩, g2, g3, g4, g5, g6, g7, g8⟩ := lns (r := r) d b hB hS hU hL hn u3 (show l ≤ 16 by omega) hp hc hM h0 h7
      by_cases hf : e.1 = 0
      · rw [if_pos hf] at g1
        obtain ⟨M1, f1⟩ := g3.2.2.1 hf
        obtain ⟨l16, hL1'⟩ := g8 hf
        obtain ⟨ρ', μ', e', l', j1, j2, j3, j4, j5, j6, j7, j8, j9⟩ := ih (l + 1) e.2 (fF ρ1 7 (nI (l + 1))) μ1 u (by omega) g5 g4 M1 f1 rfl (fun j hj => by
          by_cases q : j = l
          · subst q; exact hL1'
          · exact L1_er (hL1 j (by omega)) (show j < l by omega) g7)
        refine ⟨ρ', μ', e', l', ?_, fun u2 => ?_, fun g hg => (j3 g hg).trans (g3.1 g hg), fun f hf => (j4 f hf).trans (g3.2.1 f hf), j5, j6, j7, j8, j9⟩
        · rw [← j1, ← g1]
          simp [psh_some, psh_none, -Int32.not_lt, -Int32.not_le, isA_r, isR_r, vd, e_Rules_read_11, e_Rules_read_17, mK_cP, cT, fK_10 hF, i16, k0']
        · rw [← j2 u2, ← nI_1 l]
          simp [psh_some, psh_none, -Int32.not_lt, -Int32.not_le, q_M_rules_21, q_M_rules_28, q_M_rules_37, q_M_rules_42, hL, h0, hM.2.2.2.2.1, w22, g2]
      · rw [if_neg hf] at g1
        obtain ⟨q1, q2⟩ := g3.2.2.2 hf
        refine ⟨ρ1, μ1, e, l + 1, ?_, fun u2 => ?_, g3.1, g3.2.1, fun _ => ⟨q1, q2⟩, g6, g5, g4.1, fun z => absurd z hf⟩
        · rw [if_neg hf, ← g1]
          simp [psh_some, psh_none, -Int32.not_lt, -Int32.not_le, isA_r, isR_r, vd, e_Rules_read_11, e_Rules_read_17, mK_cP, cT, fK_10 hF, i16, k0']
        · have n2 := (Qm_flt g3 hf g6).2
          simp [psh_some, psh_none, -Int32.not_lt, -Int32.not_le, q_M_rules_21, q_M_rules_28, q_M_rules_37, q_M_rules_42, hL, h0, hM.2.2.2.2.1, w22, g2, n2, nI_1]
end T77
