/-! ===== THE CLASS READS A TERM ===== -/
section T74
variable {σ : Mm} {c r : Nat} {ρ ρ' : Ms} {t : Nat → Int32} {n p : Nat} (d : Nat)
theorem tkR_1 (t : Nat → Int32) (ρ : Ms) (n p : Nat) {g : Nat} (h : g < 2 ∨ 5 < g) : (tkR t ρ n p).1 g = ρ.1 g := by
  unfold tkR
  simp only [fF_1]
  rw [if_neg (by omega), if_neg (by omega), if_neg (by omega), if_neg (by omega)]
theorem CurC_nx (hp : p ≤ n) (hc : CurC t n ρ p) : CurC t n (tkR t ρ n (tT t n p)) (tT t n p) := CurC_tkR hc.1 (tT_le t hp).2
theorem sg_ne (hp : p ≤ n) (h : tC t n p = 21) : ¬ tN t n p = -1 := by
  rcases tKC t hp with h1 | h1 | h1 | h1 | h1
  · omega
  · omega
  · omega
  · obtain ⟨-, -, -, h4, h5⟩ := h1
    rw [h5]
    intro z
    rw [z] at h4
    exact absurd h4 (by decide)
  · omega
def Tc (t : Nat → Int32) (n p l k : Nat) (ρ ρ' : Ms) : Prop := CurC t n ρ' (aTf t n p k).2 ∧ ρ'.1 7 = ρ.1 7 ∧ ρ'.2 71 = ρ.2 71 ∧ ρ'.2 75 = ρ.2 75 ∧ (∀ j, j ≠ l → ρ'.2 80 j = ρ.2 80 j) ∧ (∀ q, q = 86 ∨ q = 90 ∨ q = 95 ∨ q = 100 → ∀ j, j ≠ 6 * l + k → ρ'.2 q j = ρ.2 q j) ∧ ((aTf t n p k).1 = 0 → ρ'.2 80 l = nI (k + 1) ∧ ρ'.2 86 (6 * l + k) = bZ (tC t n p = 13) ∧ ρ'.2 90 (6 * l + k) = nI (tC t n (aP1 t n p)) ∧ ρ'.2 95 (6 * l + k) = tN t n (aP2 t n p) ∧ ρ'.2 100 (6 * l + k) = tN t n (aP3 t n p))
theorem c_term (hB : Tb σ c t) (hS : Sg σ) (hU : RuL σ r) (hn : n ≤ 300) (hp : p ≤ n) (hc : CurC t n ρ p) {l k : Nat} (hl : l < 16) (h7 : ρ.1 7 = nI l) (hk : k ≤ 6) (h80 : ρ.2 80 l = nI k) : ∃ ρ', runc (d + 4) 41 [.ref r, .ref (c + 10)] (cP σ c r ρ) = some (some (.int (nI (aTf t n p k).1)), cP σ c r ρ') ∧ Tc t n p l k ρ ρ' := by
  have hF := hB.1
  have h23 := tC_le t n p
  have z1 : nI 1 = (1 : Int32) := rfl
  have z3 : nI 3 = (3 : Int32) := rfl
  obtain ⟨s4, p4, e4⟩ := t_isWord (r := r) (d + 2) hB hS hn hp hc (k := 4) (by decide)
  rw [show scd 4 = 13 from rfl] at e4
  have ew := t_wordOf (r := r) (d + 1) hB hS hn hp hc
  have il : ix (nI l) 16 = true := ix_of hl (by omega)
  have cl := cl1000 (show l < 1000 by omega)
  by_cases hs : tC t n p = 13 ∨ tC t n p ≤ 7
  · -- up to the count
    have pre : runc (d + 4) 41 [.ref r, .ref (c + 10)] (cP σ c r ρ) = run (d + 4) 41 21 [.ref r, .ref (c + 10), .int (bZ (tC t n p = 13)), uu] [] (cP σ c r ρ) := by
      by_cases y : tC t n p = 13
      · rw [bZ_t y] at e4 ⊢
        simp [psh_some, psh_none, -Int32.not_lt, -Int32.not_le, va_rf, isA_r, isR_r, vd, rc_Rules_readTerm, e_Rules_readTerm_0, e_Rules_readTerm_6, mP_cP, mK_cP, fK_10 hF, p4, e4]
      · rw [bZ_f y] at e4 ⊢
        have h7' : tC t n p ≤ 7 := by omega
        have nm := nI_nm1 (show tC t n p ≤ 1000 by omega)
        rw [if_pos h7'] at ew
        simp [psh_some, psh_none, -Int32.not_lt, -Int32.not_le, va_rf, isA_r, isR_r, vd, rc_Rules_readTerm, e_Rules_readTerm_0, e_Rules_readTerm_6, e_Rules_readTerm_11, e_Rules_readTerm_15, mP_cP, mK_cP, fK_10 hF, p4, e4, ew, nm]
    by_cases h6 : k = 6
    · have ef : aTf t n p k = (3, p) := by unfold aTf; rw [if_pos hs, if_pos h6]
      subst h6
      have y6 : ¬ nI 6 < 6 := by decide
      refine ⟨ρ, ?_, by unfold Tc; rw [ef]; exact ⟨hc, rfl, rfl, rfl, fun _ _ => rfl, fun _ _ _ _ => rfl, fun z => absurd z (Nat.succ_ne_zero _)⟩⟩
      rw [pre, ef]
      simp [psh_some, psh_none, -Int32.not_lt, -Int32.not_le, va_rf, isA_r, isR_r, vd, ar, akI, e_Rules_readTerm_21, e_Rules_readTerm_35, mP_cP, mK_cP, mN_cP, cL, cA_80, rP_0 hU, rK_0 hU, rN_0 hU, rP_1 hU, rK_1 hU, rN_1 hU, rP_2 hU, rK_2 hU, rN_2 hU, rP_3 hU, rK_3 hU, rN_3 hU, rP_4 hU, rK_4 hU, rN_4 hU, rP_5 hU, rK_5 hU, rN_5 hU, rP_6 hU, rK_6 hU, rN_6 hU, hU.1, h7, il, cl, h80, y6, z3]
    · have y6 : nI k < 6 := nI_lt (b := 6) (by omega) (by omega)
      -- at the word
      have pre2 : ∃ ρ1, run (d + 4) 41 21 [.ref r, .ref (c + 10), .int (bZ (tC t n p = 13)), uu] [] (cP σ c r ρ) = run (d + 4) 41 45 [.ref r, .ref (c + 10), .int (bZ (tC t n p = 13)), uu] [] (cP σ c r ρ1) ∧ CurC t n ρ1 (aP1 t n p) ∧ ρ1.1 7 = nI l ∧ ρ1.2 = ρ.2 := by
        by_cases y : tC t n p = 13
        · have e := c_next (r := r) (d + 1) hB hn hp hc
          refine ⟨tkR t ρ n (tT t n p), ?_, by unfold aP1; rw [if_pos y]; exact CurC_nx hp hc, by rw [tkR_1 _ _ _ _ (by omega)]; exact h7, rfl⟩
          rw [bZ_t y]
          simp [psh_some, psh_none, -Int32.not_lt, -Int32.not_le, va_rf, isA_r, isR_r, vd, ar, akI, e_Rules_readTerm_21, e_Rules_readTerm_37, e_Rules_readTerm_41, mP_cP, mK_cP, mN_cP, cL, cA_80, rP_0 hU, rK_0 hU, rN_0 hU, rP_1 hU, rK_1 hU, rN_1 hU, rP_2 hU, rK_2 hU, rN_2 hU, rP_3 hU, rK_3 hU, rN_3 hU, rP_4 hU, rK_4 hU, rN_4 hU, rP_5 hU, rK_5 hU, rN_5 hU, rP_6 hU, rK_6 hU, rN_6 hU, hU.1, fK_10 hF, h7, il, cl, h80, y6, e]
        · refine ⟨ρ, ?_, by unfold aP1; rw [if_neg y]; exact hc, h7, rfl⟩
          rw [bZ_f y]
          simp [psh_some, psh_none, -Int32.not_lt, -Int32.not_le, va_rf, isA_r, isR_r, vd, ar, akI, e_Rules_readTerm_21, e_Rules_readTerm_37, mP_cP, mK_cP, mN_cP, cL, cA_80, rP_0 hU, rK_0 hU, rN_0 hU, rP_1 hU, rK_1 hU, rN_1 hU, rP_2 hU, rK_2 hU, rN_2 hU, rP_3 hU, rK_3 hU, rN_3 hU, rP_4 hU, rK_4 hU, rN_4 hU, rP_5 hU, rK_5 hU, rN_5 hU, rP_6 hU, rK_6 hU, rN_6 hU, hU.1, h7, il, cl, h80, y6]
      obtain ⟨ρ1, r1, C1, q7, a1⟩ := pre2
      have p1 := aP1_le (t := t) hp
      have p2 := aP2_le (t := t) hp
      have p3 := aP3_le (t := t) hp
      have ei : nI l * 6 + nI k = nI (6 * l + k) := by
        rw [show (6 : Int32) = nI 6 from rfl, pk_mul, nI_add, Nat.mul_comm]
      have ii : ix (nI (6 * l + k)) 96 = true := ix_of (by omega) (by omega)
      have ci := cl1000 (show 6 * l + k < 1000 by omega)
      have h80' : ρ1.2 80 l = nI k := by rw [a1]; exact h80
      have hb01 : bZ (tC t n p = 13) = 0 ∨ bZ (tC t n p = 13) = 1 := bZ_or _
      have C1a : CurC t n (fA ρ1 86 (6 * l + k) (bZ (tC t n p = 13))) (aP1 t n p) := C1
      have ew1 := t_wordOf (r := r) (d + 1) hB hS hn p1 C1a
      have s45 : ∀ wv : Int32, runc (d + 3) 42 [.ref (c + 10)] (cP σ c r (fA ρ1 86 (6 * l + k) (bZ (tC t n p = 13)))) = some (some (.int wv), cP σ c r (fA ρ1 86 (6 * l + k) (bZ (tC t n p = 13)))) → run (d + 4) 41 45 [.ref r, .ref (c + 10), .int (bZ (tC t n p = 13)), uu] [] (cP σ c r ρ1) = run (d + 4) 41 80 [.ref r, .ref (c + 10), .int (bZ (tC t n p = 13)), .int (nI (6 * l + k))] [] (cP σ c r (fA (fA ρ1 86 (6 * l + k) (bZ (tC t n p = 13))) 90 (6 * l + k) wv)) := fun wv hw => by
        generalize bZ (tC t n p = 13) = bb at hb01 hw ⊢
        simp [psh_some, psh_none, -Int32.not_lt, -Int32.not_le, va_rf, isA_r, isR_r, vd, ar, akI, akZ, e_Rules_readTerm_45, e_Rules_readTerm_70, e_Rules_readTerm_79, mP_cP, mK_cP, mN_cP, cL, cA_80, cS_86, cS_90, rP_0 hU, rK_0 hU, rN_0 hU, rP_1 hU, rK_1 hU, rN_1 hU, rP_2 hU, rK_2 hU, rN_2 hU, rP_3 hU, rK_3 hU, rN_3 hU, rP_4 hU, rK_4 hU, rN_4 hU, rP_5 hU, rK_5 hU, rN_5 hU, rP_6 hU, rK_6 hU, rN_6 hU, hU.1, q7, il, cl, h80', ei, ii, ci, hb01, hw]
      by_cases h1 : tC t n (aP1 t n p) ≤ 7
      · rw [if_pos h1] at ew1
        have f1 := s45 _ ew1
        have nm := nI_nm1 (show tC t n (aP1 t n p) ≤ 1000 by omega)
        have C2 := CurC_nx p1 (show CurC t n (fA (fA ρ1 86 (6 * l + k) (bZ (tC t n p = 13))) 90 (6 * l + k) (nI (tC t n (aP1 t n p)))) (aP1 t n p) from C1)
        have en := c_next (r := r) (d + 1) hB hn p1 (show CurC t n (fA (fA ρ1 86 (6 * l + k) (bZ (tC t n p = 13))) 90 (6 * l + k) (nI (tC t n (aP1 t n p)))) (aP1 t n p) from C1)
        have q72 : (tkR t (fA (fA ρ1 86 (6 * l + k) (bZ (tC t n p = 13))) 90 (6 * l + k) (nI (tC t n (aP1 t n p)))) n (tT t n (aP1 t n p))).1 7 = nI l := by rw [tkR_1 _ _ _ _ (by omega)]; exact q7
        have a2 : (tkR t (fA (fA ρ1 86 (6 * l + k) (bZ (tC t n p = 13))) 90 (6 * l + k) (nI (tC t n (aP1 t n p)))) n (tT t n (aP1 t n p))).2 = (fA (fA ρ1 86 (6 * l + k) (bZ (tC t n p = 13))) 90 (6 * l + k) (nI (tC t n (aP1 t n p)))).2 := rfl
        have s80 : run (d + 4) 41 80 [.ref r, .ref (c + 10), .int (bZ (tC t n p = 13)), .int (nI (6 * l + k))] [] (cP σ c r (fA (fA ρ1 86 (6 * l + k) (bZ (tC t n p = 13))) 90 (6 * l + k) (nI (tC t n (aP1 t n p))))) = run (d + 4) 41 96 [.ref r, .ref (c + 10), .int (bZ (tC t n p = 13)), .int (nI (6 * l + k))] [] (cP σ c r (tkR t (fA (fA ρ1 86 (6 * l + k) (bZ (tC t n p = 13))) 90 (6 * l + k) (nI (tC t n (aP1 t n p)))) n (tT t n (aP1 t n p)))) := by
          generalize bZ (tC t n p = 13) = bb at en ⊢
          simp [psh_some, psh_none, -Int32.not_lt, -Int32.not_le, va_rf, isA_r, isR_r, vd, ar, akI, e_Rules_readTerm_80, e_Rules_readTerm_92, mP_cP, mK_cP, mN_cP, cA_90, rP_0 hU, rK_0 hU, rN_0 hU, rP_1 hU, rK_1 hU, rN_1 hU, rP_2 hU, rK_2 hU, rN_2 hU, rP_3 hU, rK_3 hU, rN_3 hU, rP_4 hU, rK_4 hU, rN_4 hU, rP_5 hU, rK_5 hU, rN_5 hU, rP_6 hU, rK_6 hU, rN_6 hU, hU.1, fK_10 hF, ii, ci, fA_2, nm, en]
        have eb2 : ∀ f j, (fA (fA ρ1 86 (6 * l + k) (bZ (tC t n p = 13))) 90 (6 * l + k) (nI (tC t n (aP1 t n p)))).2 f j = if f = 90 ∧ j = 6 * l + k then nI (tC t n (aP1 t n p)) else if f = 86 ∧ j = 6 * l + k then bZ (tC t n p = 13) else ρ.2 f j := fun f j => by rw [fA_2, fA_2, a1]
        generalize tkR t (fA (fA ρ1 86 (6 * l + k) (bZ (tC t n p = 13))) 90 (6 * l + k) (nI (tC t n (aP1 t n p)))) n (tT t n (aP1 t n p)) = ρ2 at C2 q72 a2 s80
        have C2 : CurC t n ρ2 (aP2 t n p) := C2
        have a2' : ∀ f j, ρ2.2 f j = if f = 90 ∧ j = 6 * l + k then nI (tC t n (aP1 t n p)) else if f = 86 ∧ j = 6 * l + k then bZ (tC t n p = 13) else ρ.2 f j := fun f j => by rw [a2]; exact eb2 f j
        have es := t_sign (r := r) (d + 2) hB hn p2 C2
        generalize hbb : bZ (tC t n p = 13) = bb at *
        by_cases h2 : tC t n (aP2 t n p) = 21
        · rw [if_pos h2] at es
          have y1 := sg_ne p2 h2
          by_cases h59 : tN t n (aP2 t n p) = 59
          · have ef : aTf t n p k = (1, aP2 t n p) := by unfold aTf; rw [if_pos hs, if_neg h6, if_pos h1, if_neg (fun z => z.2 h59)]
            refine ⟨fA ρ2 95 (6 * l + k) (tN t n (aP2 t n p)), ?_, ?_⟩
            · rw [pre, r1, f1, s80, ef]
              simp [psh_some, psh_none, -Int32.not_lt, -Int32.not_le, va_rf, isA_r, isR_r, vd, ar, akI, e_Rules_readTerm_96, e_Rules_readTerm_105, e_Rules_readTerm_106, e_Rules_readTerm_116, e_Rules_readTerm_127, mP_cP, mK_cP, mN_cP, cA_95, cS_95, rP_0 hU, rK_0 hU, rN_0 hU, rP_1 hU, rK_1 hU, rN_1 hU, rP_2 hU, rK_2 hU, rN_2 hU, rP_3 hU, rK_3 hU, rN_3 hU, rP_4 hU, rK_4 hU, rN_4 hU, rP_5 hU, rK_5 hU, rN_5 hU, rP_6 hU, rK_6 hU, rN_6 hU, hU.1, fK_10 hF, ii, ci, es, fA_2, h59, z1]
            · unfold Tc
              rw [ef]
              refine ⟨C2, by rw [h7]; exact q72, ?_, ?_, fun j hj => ?_, fun q hq j hj => ?_, fun z => absurd z (Nat.succ_ne_zero _)⟩
              · funext j; rw [fA_2, if_neg (by omega), a2', if_neg (by omega), if_neg (by omega)]
              · funext j; rw [fA_2, if_neg (by omega), a2', if_neg (by omega), if_neg (by omega)]
              · rw [fA_2, if_neg (by omega), a2', if_neg (by omega), if_neg (by omega)]
              · rw [fA_2, if_neg (by omega), a2', if_neg (by omega), if_neg (by omega)]
          · have C3 := CurC_nx p2 (show CurC t n (fA ρ2 95 (6 * l + k) (tN t n (aP2 t n p))) (aP2 t n p) from C2)
            have en3 := c_next (r := r) (d + 1) hB hn p2 (show CurC t n (fA ρ2 95 (6 * l + k) (tN t n (aP2 t n p))) (aP2 t n p) from C2)
            have q73 : (tkR t (fA ρ2 95 (6 * l + k) (tN t n (aP2 t n p))) n (tT t n (aP2 t n p))).1 7 = nI l := by rw [tkR_1 _ _ _ _ (by omega)]; exact q72
            have a3 : ∀ f j, (tkR t (fA ρ2 95 (6 * l + k) (tN t n (aP2 t n p))) n (tT t n (aP2 t n p))).2 f j = if f = 95 ∧ j = 6 * l + k then tN t n (aP2 t n p) else ρ2.2 f j := fun f j => rfl
            have s96 : run (d + 4) 41 96 [.ref r, .ref (c + 10), .int bb, .int (nI (6 * l + k))] [] (cP σ c r ρ2) = run (d + 4) 41 133 [.ref r, .ref (c + 10), .int bb, .int (nI (6 * l + k))] [] (cP σ c r (tkR t (fA ρ2 95 (6 * l + k) (tN t n (aP2 t n p))) n (tT t n (aP2 t n p)))) := by
              simp [psh_some, psh_none, -Int32.not_lt, -Int32.not_le, va_rf, isA_r, isR_r, vd, ar, akI, e_Rules_readTerm_96, e_Rules_readTerm_105, e_Rules_readTerm_106, e_Rules_readTerm_116, e_Rules_readTerm_129, mP_cP, mK_cP, mN_cP, cA_95, cS_95, rP_0 hU, rK_0 hU, rN_0 hU, rP_1 hU, rK_1 hU, rN_1 hU, rP_2 hU, rK_2 hU, rN_2 hU, rP_3 hU, rK_3 hU, rN_3 hU, rP_4 hU, rK_4 hU, rN_4 hU, rP_5 hU, rK_5 hU, rN_5 hU, rP_6 hU, rK_6 hU, rN_6 hU, hU.1, fK_10 hF, ii, ci, es, fA_2, y1, h59, en3]
            generalize tkR t (fA ρ2 95 (6 * l + k) (tN t n (aP2 t n p))) n (tT t n (aP2 t n p)) = ρ3 at C3 q73 a3 s96
            have C3 : CurC t n ρ3 (aP3 t n p) := C3
            have k2 := kind_2 p3 C3
            by_cases h3 : tC t n (aP3 t n p) = 20
            · have ef : aTf t n p k = (0, aP4 t n p) := by unfold aTf; rw [if_pos hs, if_neg h6, if_pos h1, if_pos ⟨h2, h59⟩, if_pos h3]
              have k2' : ρ3.1 2 = 2 := k2.mpr h3
              have v5 := C3.2.2.2.2 h3
              have h803 : ρ3.2 80 l = nI k := by rw [a3, if_neg (by omega), a2', if_neg (by omega), if_neg (by omega)]; exact h80
              have en4 := c_next (r := r) (d + 1) hB hn p3 (show CurC t n (fA (fA ρ3 100 (6 * l + k) (tN t n (aP3 t n p))) 80 l (nI k + 1)) (aP3 t n p) from C3)
              have C4 := CurC_nx p3 (show CurC t n (fA (fA ρ3 100 (6 * l + k) (tN t n (aP3 t n p))) 80 l (nI k + 1)) (aP3 t n p) from C3)
              refine ⟨tkR t (fA (fA ρ3 100 (6 * l + k) (tN t n (aP3 t n p))) 80 l (nI k + 1)) n (tT t n (aP3 t n p)), ?_, ?_⟩
              · rw [pre, r1, f1, s80, s96, ef, nI_0]
                simp [psh_some, psh_none, -Int32.not_lt, -Int32.not_le, va_rf, isA_r, isR_r, isI_r, vd, ar, akI, e_Rules_readTerm_133, e_Rules_readTerm_143, e_Rules_readTerm_153, e_Rules_readTerm_166, e_Rules_readTerm_170, mP_cP, mK_cP, mN_cP, cT, cL, cA_80, cS_80, cS_100, rP_0 hU, rK_0 hU, rN_0 hU, rP_1 hU, rK_1 hU, rN_1 hU, rP_2 hU, rK_2 hU, rN_2 hU, rP_3 hU, rK_3 hU, rN_3 hU, rP_4 hU, rK_4 hU, rN_4 hU, rP_5 hU, rK_5 hU, rN_5 hU, rP_6 hU, rK_6 hU, rN_6 hU, hU.1, fK_10 hF, ii, ci, il, cl, k2', v5, q73, fA_1, fA_2, h803, en4]
              · unfold Tc
                rw [ef]
                have a4 : ∀ f j, (tkR t (fA (fA ρ3 100 (6 * l + k) (tN t n (aP3 t n p))) 80 l (nI k + 1)) n (tT t n (aP3 t n p))).2 f j = if f = 80 ∧ j = l then nI k + 1 else if f = 100 ∧ j = 6 * l + k then tN t n (aP3 t n p) else ρ3.2 f j := fun f j => rfl
                refine ⟨C4, ?_, ?_, ?_, fun j hj => ?_, fun q hq j hj => ?_, fun _ => ⟨?_, ?_, ?_, ?_, ?_⟩⟩
                · rw [tkR_1 _ _ _ _ (by omega), h7]; exact q73
                · funext j; rw [a4, if_neg (by omega), if_neg (by omega), a3, if_neg (by omega), a2', if_neg (by omega), if_neg (by omega)]
                · funext j; rw [a4, if_neg (by omega), if_neg (by omega), a3, if_neg (by omega), a2', if_neg (by omega), if_neg (by omega)]
                · rw [a4, if_neg (by omega), if_neg (by omega), a3, if_neg (by omega), a2', if_neg (by omega), if_neg (by omega)]
                · rw [a4, if_neg (by omega), if_neg (by omega), a3, if_neg (by omega), a2', if_neg (by omega), if_neg (by omega)]
                · rw [a4, if_pos ⟨rfl, rfl⟩, nI_1]
                · rw [a4, if_neg (by omega), if_neg (by omega), a3, if_neg (by omega), a2', if_neg (by omega), if_pos ⟨rfl, rfl⟩]
                  exact hbb.symm
                · rw [a4, if_neg (by omega), if_neg (by omega), a3, if_neg (by omega), a2', if_pos ⟨rfl, rfl⟩]
                · rw [a4, if_neg (by omega), if_neg (by omega), a3, if_pos ⟨rfl, rfl⟩]
                · rw [a4, if_neg (by omega), if_pos ⟨rfl, rfl⟩]
            · have ef : aTf t n p k = (1, aP3 t n p) := by unfold aTf; rw [if_pos hs, if_neg h6, if_pos h1, if_pos ⟨h2, h59⟩, if_neg h3]
              have k2' : ¬ ρ3.1 2 = 2 := fun z => h3 (k2.mp z)
              refine ⟨ρ3, ?_, ?_⟩
              · rw [pre, r1, f1, s80, s96, ef]
                simp [psh_some, psh_none, -Int32.not_lt, -Int32.not_le, isA_r, isR_r, vd, e_Rules_readTerm_133, e_Rules_readTerm_141, mK_cP, cT, fK_10 hF, k2', z1]
              · unfold Tc
                rw [ef]
                refine ⟨C3, by rw [h7]; exact q73, ?_, ?_, fun j hj => ?_, fun q hq j hj => ?_, fun z => absurd z (Nat.succ_ne_zero _)⟩
                · funext j; rw [a3, if_neg (by omega), a2', if_neg (by omega), if_neg (by omega)]
                · funext j; rw [a3, if_neg (by omega), a2', if_neg (by omega), if_neg (by omega)]
                · rw [a3, if_neg (by omega), a2', if_neg (by omega), if_neg (by omega)]
                · rw [a3, if_neg (by omega), a2', if_neg (by omega), if_neg (by omega)]
        · have ef : aTf t n p k = (1, aP2 t n p) := by unfold aTf; rw [if_pos hs, if_neg h6, if_pos h1, if_neg (fun z => h2 z.1)]
          rw [if_neg h2] at es
          refine ⟨fA ρ2 95 (6 * l + k) (-1), ?_, ?_⟩
          · rw [pre, r1, f1, s80, ef]
            simp [psh_some, psh_none, -Int32.not_lt, -Int32.not_le, va_rf, isA_r, isR_r, vd, ar, akI, e_Rules_readTerm_96, e_Rules_readTerm_105, e_Rules_readTerm_106, e_Rules_readTerm_127, mP_cP, mK_cP, mN_cP, cA_95, cS_95, rP_0 hU, rK_0 hU, rN_0 hU, rP_1 hU, rK_1 hU, rN_1 hU, rP_2 hU, rK_2 hU, rN_2 hU, rP_3 hU, rK_3 hU, rN_3 hU, rP_4 hU, rK_4 hU, rN_4 hU, rP_5 hU, rK_5 hU, rN_5 hU, rP_6 hU, rK_6 hU, rN_6 hU, hU.1, fK_10 hF, ii, ci, es, fA_2, z1]
          · unfold Tc
            rw [ef]
            refine ⟨C2, by rw [h7]; exact q72, ?_, ?_, fun j hj => ?_, fun q hq j hj => ?_, fun z => absurd z (Nat.succ_ne_zero _)⟩
            · funext j; rw [fA_2, if_neg (by omega), a2', if_neg (by omega), if_neg (by omega)]
            · funext j; rw [fA_2, if_neg (by omega), a2', if_neg (by omega), if_neg (by omega)]
            · rw [fA_2, if_neg (by omega), a2', if_neg (by omega), if_neg (by omega)]
            · rw [fA_2, if_neg (by omega), a2', if_neg (by omega), if_neg (by omega)]
      · have ef : aTf t n p k = (1, aP1 t n p) := by unfold aTf; rw [if_pos hs, if_neg h6, if_neg h1]
        rw [if_neg h1] at ew1
        have f1 := s45 _ ew1
        refine ⟨fA (fA ρ1 86 (6 * l + k) (bZ (tC t n p = 13))) 90 (6 * l + k) (-1), ?_, ?_⟩
        · rw [pre, r1, f1, ef]
          simp [psh_some, psh_none, -Int32.not_lt, -Int32.not_le, va_rf, isA_r, isR_r, vd, ar, akI, e_Rules_readTerm_80, e_Rules_readTerm_90, mP_cP, mK_cP, mN_cP, cA_90, rP_0 hU, rK_0 hU, rN_0 hU, rP_1 hU, rK_1 hU, rN_1 hU, rP_2 hU, rK_2 hU, rN_2 hU, rP_3 hU, rK_3 hU, rN_3 hU, rP_4 hU, rK_4 hU, rN_4 hU, rP_5 hU, rK_5 hU, rN_5 hU, rP_6 hU, rK_6 hU, rN_6 hU, hU.1, ii, ci, fA_2, z1]
        · unfold Tc
          rw [ef]
          refine ⟨C1, by rw [h7]; exact q7, ?_, ?_, fun j hj => ?_, fun q hq j hj => ?_, fun z => absurd z (Nat.succ_ne_zero _)⟩
          · funext j; rw [fA_2, if_neg (by omega), fA_2, if_neg (by omega), a1]
          · funext j; rw [fA_2, if_neg (by omega), fA_2, if_neg (by omega), a1]
          · rw [fA_2, if_neg (by omega), fA_2, if_neg (by omega), a1]
          · rw [fA_2, if_neg (by omega), fA_2, if_neg (by omega), a1]
  · have ef : aTf t n p k = (1, p) := by unfold aTf; rw [if_neg hs]
    refine ⟨ρ, ?_, by unfold Tc; rw [ef]; exact ⟨hc, rfl, rfl, rfl, fun _ _ => rfl, fun _ _ _ _ => rfl, fun z => absurd z (Nat.succ_ne_zero _)⟩⟩
    rw [bZ_f (fun z => hs (Or.inl z))] at e4
    rw [if_neg (fun z => hs (Or.inr z))] at ew
    rw [ef]
    simp [psh_some, psh_none, -Int32.not_lt, -Int32.not_le, va_rf, isA_r, isR_r, vd, rc_Rules_readTerm, e_Rules_readTerm_0, e_Rules_readTerm_6, e_Rules_readTerm_11, e_Rules_readTerm_15, e_Rules_readTerm_19, mP_cP, mK_cP, fK_10 hF, p4, e4, ew, z1]
end T74
