/-! ===== THE REFERENCE READS A TERM ===== -/
section T73
variable {σ : Mm} {a : Nat} {μ μ' : Ms} {t : Nat → Int32} {n p : Nat} (d : Nat)
/-- the reference's state at the token behind p -/
def CurM (t : Nat → Int32) (n : Nat) (μ : Ms) (p : Nat) : Prop := μ.2 39 = t ∧ μ.1 40 = nI n ∧ μ.1 50 = nI (tF t n p) ∧ μ.1 51 = nI (tT t n p) ∧ μ.1 52 = nI (tC t n p) ∧ μ.1 53 = tN t n p
theorem CurM_tkS (h1 : μ.2 39 = t) (h2 : μ.1 40 = nI n) (q : Nat) : CurM t n (tkS μ n q) q := by
  subst h1
  exact ⟨rfl, h2, rfl, rfl, rfl, rfl⟩
theorem CurM_nx (hM : CurM t n μ p) : CurM t n (tkS μ n (tT t n p)) (tT t n p) := CurM_tkS hM.1 hM.2.1 _
theorem tkS_1 (μ : Ms) (n q : Nat) {g : Nat} (h : g < 50 ∨ 53 < g) : (tkS μ n q).1 g = μ.1 g := by
  unfold tkS
  simp only [fF_1]
  rw [if_neg (by omega), if_neg (by omega), if_neg (by omega), if_neg (by omega)]
theorem tkS_2 (μ : Ms) (n q : Nat) : (tkS μ n q).2 = μ.2 := rfl
theorem m_nx (hL : LM σ a) (hn : n ≤ 300) (hp : p ≤ n) (hM : CurM t n μ p) : runc (d + 3) 147 [.ref a] (put σ a μ) = some (none, put σ a (tkS μ n (tT t n p))) := m_next d hL hn hM.2.1 (tT_le t hp).2 hM.2.2.2.1
def blm (μ : Ms) (k : Int32) : Ms := fF (fF μ 54 k) 55 (μ.1 50)
theorem blm_54 (μ : Ms) (k : Int32) : (blm μ k).1 54 = k := rfl
theorem blm_55 (μ : Ms) (k : Int32) : (blm μ k).1 55 = μ.1 50 := rfl
theorem blm_1 (μ : Ms) (k : Int32) {g : Nat} (h : g < 54 ∨ 55 < g) : (blm μ k).1 g = μ.1 g := by
  unfold blm
  simp only [fF_1]
  rw [if_neg (by omega), if_neg (by omega)]
theorem m_blames (hL : LM σ a) (h0 : μ.1 54 = 0) (k : Int32) : runc d 148 [.ref a, .int k] (put σ a μ) = some (none, put σ a (blm μ k)) := by
  simp [psh_some, psh_none, -Int32.not_lt, -Int32.not_le, rc_M_blames, q_M_blames_0, q_M_blames_7, q_M_blames_8, q_M_blames_13, q_M_blames_21, hL, h0, fF_1, blm]
theorem i07 : ∀ k, k < 24 → ((¬ nI k < 0 ∧ ¬ 7 < nI k) ↔ k ≤ 7) := by decide +kernel
theorem i89 : ∀ k, k < 24 → ((¬ nI k < 8 ∧ ¬ 9 < nI k) ↔ (k = 8 ∨ k = 9)) := by decide +kernel
theorem i11 : ∀ k, k < 24 → ((¬ nI k < 11 ∧ ¬ 11 < nI k) ↔ k = 11) := by decide +kernel
theorem i20 : ∀ k, k < 24 → ((¬ nI k < 20 ∧ ¬ 20 < nI k) ↔ k = 20) := by decide +kernel
theorem i21 : ∀ k, k < 24 → ((¬ nI k < 21 ∧ ¬ 21 < nI k) ↔ k = 21) := by decide +kernel
theorem n13 : ∀ k, k < 24 → (nI k = 13 ↔ k = 13) := by decide +kernel
theorem n21 : ∀ k, k < 24 → (nI k = 21 ↔ k = 21) := by decide +kernel
theorem n20 : ∀ k, k < 24 → (nI k = 20 ↔ k = 20) := by decide +kernel
theorem n22 : ∀ k, k < 24 → (nI k = 22 ↔ k = 22) := by decide +kernel
theorem n12 : ∀ k, k < 24 → (nI k = 12 ↔ k = 12) := by decide +kernel
theorem n10 : ∀ k, k < 24 → (nI k = 10 ↔ k = 10) := by decide +kernel
theorem n9 : ∀ k, k < 24 → (nI k = 9 ↔ k = 9) := by decide +kernel
theorem n6 : ∀ k, k < 24 → (nI k = 6 ↔ k = 6) := by decide +kernel
theorem n16 : ∀ k, k < 24 → (nI k = 16 ↔ k = 16) := by decide +kernel
theorem tk_ok (hL : LM σ a) (hn : n ≤ 300) (hp : p ≤ n) (hM : CurM t n μ p) (h0 : μ.1 54 = 0) {lo hi : Int32} (hin : ¬ nI (tC t n p) < lo ∧ ¬ hi < nI (tC t n p)) : runc (d + 4) 149 [.ref a, .int lo, .int hi] (put σ a μ) = some (some (.int (nI (tC t n p))), put σ a (tkS μ n (tT t n p))) := by
  have e := m_nx d hL hn hp hM
  simp [psh_some, psh_none, -Int32.not_lt, -Int32.not_le, rc_M_takes, q_M_takes_0, q_M_takes_9, q_M_takes_23, q_M_takes_31, q_M_takes_38, q_M_takes_42, hL, h0, hM.2.2.2.2.1, m_in, bZ_t hin, e]
theorem tk_no (hL : LM σ a) (hM : CurM t n μ p) (h0 : μ.1 54 = 0) {lo hi : Int32} (hin : ¬ (¬ nI (tC t n p) < lo ∧ ¬ hi < nI (tC t n p))) : runc (d + 4) 149 [.ref a, .int lo, .int hi] (put σ a μ) = some (some (.int (nI (tC t n p))), put σ a (blm μ 1)) := by
  simp [psh_some, psh_none, -Int32.not_lt, -Int32.not_le, rc_M_takes, q_M_takes_0, q_M_takes_9, q_M_takes_23, q_M_takes_26, q_M_takes_31, q_M_takes_42, hL, h0, hM.2.2.2.2.1, m_in, bZ_f hin, m_blames _ hL h0, blm_54]
theorem tk_f (hL : LM σ a) (h0 : ¬ μ.1 54 ≤ 0) (lo hi : Int32) : runc (d + 4) 149 [.ref a, .int lo, .int hi] (put σ a μ) = some (some (.int 0), put σ a μ) := by
  simp [psh_some, psh_none, -Int32.not_lt, -Int32.not_le, rc_M_takes, q_M_takes_0, q_M_takes_7, hL, h0]
theorem nm_ok (hL : LM σ a) (hn : n ≤ 300) (hp : p ≤ n) (hM : CurM t n μ p) (h0 : μ.1 54 = 0) (hc : tC t n p = 20) : runc (d + 5) 150 [.ref a] (put σ a μ) = some (some (.int (tN t n p)), put σ a (tkS μ n (tT t n p))) := by
  have e := tk_ok (lo := 20) (hi := 20) d hL hn hp hM h0 (by rw [hc]; decide)
  rw [hc] at e
  have z : nI 20 = (20 : Int32) := rfl
  simp [psh_some, psh_none, -Int32.not_lt, -Int32.not_le, rc_M_numeral, q_M_numeral_0, q_M_numeral_13, q_M_numeral_18, q_M_numeral_23, hL, e, z, hM.2.2.2.2.2]
theorem nm_no (hL : LM σ a) (hM : CurM t n μ p) (h0 : μ.1 54 = 0) (hc : ¬ tC t n p = 20) : runc (d + 5) 150 [.ref a] (put σ a μ) = some (some (.int 0), put σ a (blm μ 1)) := by
  have h23 := tC_le t n p
  have e := tk_no (lo := 20) (hi := 20) d hL hM h0 (fun z => hc ((i20 _ (by omega)).mp z))
  have z : ¬ nI (tC t n p) = 20 := fun q => hc ((n20 _ (by omega)).mp q)
  simp [psh_some, psh_none, -Int32.not_lt, -Int32.not_le, rc_M_numeral, q_M_numeral_0, q_M_numeral_13, q_M_numeral_22, q_M_numeral_23, hL, e, z]
theorem nm_f (hL : LM σ a) (h0 : ¬ μ.1 54 ≤ 0) : runc (d + 5) 150 [.ref a] (put σ a μ) = some (some (.int 0), put σ a μ) := by
  have e := tk_f d hL h0 20 20
  simp [psh_some, psh_none, -Int32.not_lt, -Int32.not_le, rc_M_numeral, q_M_numeral_0, q_M_numeral_13, q_M_numeral_22, q_M_numeral_23, hL, e]
/-- places of a term's tokens -/
def aP1 (t : Nat → Int32) (n p : Nat) : Nat := if tC t n p = 13 then tT t n p else p
def aP2 (t : Nat → Int32) (n p : Nat) : Nat := tT t n (aP1 t n p)
def aP3 (t : Nat → Int32) (n p : Nat) : Nat := tT t n (aP2 t n p)
def aP4 (t : Nat → Int32) (n p : Nat) : Nat := tT t n (aP3 t n p)
theorem aP1_le (hp : p ≤ n) : aP1 t n p ≤ n := by
  unfold aP1
  split
  · exact (tT_le t hp).2
  · exact hp
theorem aP2_le (hp : p ≤ n) : aP2 t n p ≤ n := (tT_le t (aP1_le hp)).2
theorem aP3_le (hp : p ≤ n) : aP3 t n p ≤ n := (tT_le t (aP2_le hp)).2
theorem aP4_le (hp : p ≤ n) : aP4 t n p ≤ n := (tT_le t (aP3_le hp)).2
/-- a term at p, the k-th: its fault (0: none) and where; or the place behind it -/
def aTf (t : Nat → Int32) (n p k : Nat) : Nat × Nat := if tC t n p = 13 ∨ tC t n p ≤ 7 then (if k = 6 then (3, p) else if tC t n (aP1 t n p) ≤ 7 then (if tC t n (aP2 t n p) = 21 ∧ ¬ tN t n (aP2 t n p) = 59 then (if tC t n (aP3 t n p) = 20 then (0, aP4 t n p) else (1, aP3 t n p)) else (1, aP2 t n p)) else (1, aP1 t n p)) else (1, p)
theorem aTf_le (hp : p ≤ n) (k : Nat) : (aTf t n p k).2 ≤ n := by
  have q1 := aP1_le (t := t) hp
  have q2 := aP2_le (t := t) hp
  have q3 := aP3_le (t := t) hp
  have q4 := aP4_le (t := t) hp
  unfold aTf
  generalize aP1 t n p = x1 at q1 ⊢
  generalize aP2 t n p = x2 at q2 ⊢
  generalize aP3 t n p = x3 at q3 ⊢
  generalize aP4 t n p = x4 at q4 ⊢
  by_cases c0 : tC t n p = 13 ∨ tC t n p ≤ 7
  · rw [if_pos c0]
    by_cases c1 : k = 6
    · rw [if_pos c1]; exact hp
    rw [if_neg c1]
    by_cases c2 : tC t n x1 ≤ 7
    · rw [if_pos c2]
      by_cases c3 : tC t n x2 = 21 ∧ ¬ tN t n x2 = 59
      · rw [if_pos c3]
        by_cases c4 : tC t n x3 = 20
        · rw [if_pos c4]; exact q4
        · rw [if_neg c4]; exact q3
      · rw [if_neg c3]; exact q2
    · rw [if_neg c2]; exact q1
  · rw [if_neg c0]; exact hp
theorem aTf_6 (k : Nat) (h : (aTf t n p k).1 = 0) : ¬ k = 6 := by
  intro z
  unfold aTf at h
  rw [if_pos z] at h
  split at h <;> cases h
/-- what is left alone by a reading, and what is reached -/
def Qm (t : Nat → Int32) (n : Nat) (μ μ' : Ms) (e : Nat × Nat) : Prop := (∀ g, g < 50 ∨ 55 < g → μ'.1 g = μ.1 g) ∧ (∀ f, f < 46 ∨ 49 < f → μ'.2 f = μ.2 f) ∧ (e.1 = 0 → CurM t n μ' e.2 ∧ μ'.1 54 = 0) ∧ (e.1 ≠ 0 → μ'.1 54 = nI e.1 ∧ μ'.1 55 = nI (tF t n e.2))
theorem Qm_blm (hM : CurM t n μ p) {k : Nat} (hk : k ≠ 0) : Qm t n μ (blm μ (nI k)) (k, p) := ⟨fun g h => blm_1 _ _ (by omega), fun _ _ => rfl, fun z => absurd z hk, fun _ => ⟨rfl, hM.2.2.1⟩⟩
theorem Qm_nx (h : ∀ g, g < 50 ∨ 55 < g → μ.1 g = μ'.1 g) (h2 : ∀ f, f < 46 ∨ 49 < f → μ.2 f = μ'.2 f) {ν : Ms} {e : Nat × Nat} (hQ : Qm t n μ ν e) : Qm t n μ' ν e := ⟨fun g hg => (hQ.1 g hg).trans (h g hg), fun f hf => (hQ.2.1 f hf).trans (h2 f hf), hQ.2.2⟩
/-- what a term leaves of the arrays -/
def Tm (t : Nat → Int32) (n p l k : Nat) (μ μ' : Ms) : Prop := μ'.2 46 = μ.2 46 ∧ μ'.2 47 = μ.2 47 ∧ (∀ j, j ≠ l → μ'.2 48 j = μ.2 48 j) ∧ (∀ j, j < 24 * l + 4 * k ∨ 24 * l + 4 * k + 4 ≤ j → μ'.2 49 j = μ.2 49 j) ∧ ((aTf t n p k).1 = 0 → μ'.2 48 l = nI (k + 1) ∧ μ'.2 49 (24 * l + 4 * k) = bZ (tC t n p = 13) ∧ μ'.2 49 (24 * l + 4 * k + 1) = nI (tC t n (aP1 t n p)) ∧ μ'.2 49 (24 * l + 4 * k + 2) = tN t n (aP2 t n p) ∧ μ'.2 49 (24 * l + 4 * k + 3) = tN t n (aP3 t n p))
theorem Tm_same {l k : Nat} (h : μ'.2 = μ.2) (hf : (aTf t n p k).1 ≠ 0) : Tm t n p l k μ μ' := ⟨by rw [h], by rw [h], fun _ _ => by rw [h], fun _ _ => by rw [h], fun z => absurd z hf⟩
theorem m_term (hL : LM σ a) (hn : n ≤ 300) (hp : p ≤ n) (hM : CurM t n μ p) (h0 : μ.1 54 = 0) {l k : Nat} (hl : l < 17) (hk : k ≤ 6) : ∃ μ', runc (d + 6) 151 [.ref a, .int (nI l), .int (nI k)] (put σ a μ) = some (none, put σ a μ') ∧ Qm t n μ μ' (aTf t n p k) ∧ Tm t n p l k μ μ' := by
  have h23 := tC_le t n p
  have n1 : ¬ (1 : Int32) ≤ 0 := by decide
  have n3 : ¬ (3 : Int32) ≤ 0 := by decide
  by_cases hs : tC t n p = 13 ∨ tC t n p ≤ 7
  · by_cases h6 : k = 6
    · -- one too many
      have ef : aTf t n p k = (3, p) := by unfold aTf; rw [if_pos hs, if_pos h6]
      rw [ef]
      refine ⟨blm μ 3, ?_, Qm_blm (k := 3) hM (by decide), Tm_same rfl (by rw [ef]; exact Nat.succ_ne_zero _)⟩
      subst h6
      have z6 : nI 6 = (6 : Int32) := rfl
      have eb := m_blames (σ := σ) (d + 5) hL h0 3
      have e1 := tk_f (σ := σ) (μ := blm μ 3) (d + 1) hL (by rw [blm_54]; decide) 0 7
      have e2 := tk_f (σ := σ) (μ := blm μ 3) (d + 1) hL (by rw [blm_54]; decide) 21 21
      have e3 := nm_f (σ := σ) (μ := blm μ 3) d hL (by rw [blm_54]; decide)
      by_cases y : tC t n p = 13
      · have y1 : nI (tC t n p) = 13 := (n13 _ (by omega)).mpr y
        simp [psh_some, psh_none, -Int32.not_lt, -Int32.not_le, rc_M_readTerm, q_M_readTerm_0, q_M_readTerm_6, q_M_readTerm_28, q_M_readTerm_33, q_M_readTerm_53, q_M_readTerm_54, q_M_readTerm_63, q_M_readTerm_70, q_M_readTerm_106, q_M_readTerm_114, q_M_readTerm_120, q_M_readTerm_129, hL, z6, hM.2.2.2.2.1, y1, eb, blm_54, e1, e2, e3, n3]
      · have y1 : ¬ nI (tC t n p) = 13 := fun z => y ((n13 _ (by omega)).mp z)
        have y2 := (i07 _ (show tC t n p < 24 by omega)).mpr (by omega)
        simp [psh_some, psh_none, -Int32.not_lt, -Int32.not_le, rc_M_readTerm, q_M_readTerm_0, q_M_readTerm_6, q_M_readTerm_15, q_M_readTerm_25, q_M_readTerm_28, q_M_readTerm_33, q_M_readTerm_53, q_M_readTerm_54, q_M_readTerm_63, q_M_readTerm_70, q_M_readTerm_106, q_M_readTerm_114, q_M_readTerm_120, q_M_readTerm_129, hL, z6, hM.2.2.2.2.1, y1, m_in, bZ_t y2, eb, blm_54, e1, e2, e3, n3]
    · have z6 : ¬ nI k = 6 := fun z => h6 ((n6 _ (by omega)).mp z)
      -- up to the word
      have pre : ∃ μ1, runc (d + 6) 151 [.ref a, .int (nI l), .int (nI k)] (put σ a μ) = run (d + 6) 151 63 [.ref a, .int (nI l), .int (nI k), .int (bZ (tC t n p = 13)), uu, uu, uu, uu, uu] [] (put σ a μ1) ∧ CurM t n μ1 (aP1 t n p) ∧ μ1.1 54 = 0 ∧ (∀ g, g < 50 ∨ 55 < g → μ1.1 g = μ.1 g) ∧ μ1.2 = μ.2 := by
        by_cases y : tC t n p = 13
        · have y1 : nI (tC t n p) = 13 := (n13 _ (by omega)).mpr y
          have e := m_nx (σ := σ) (d + 2) hL hn hp hM
          refine ⟨tkS μ n (tT t n p), ?_, by unfold aP1; rw [if_pos y]; exact CurM_nx hM, by rw [tkS_1 _ _ _ (by omega)]; exact h0, fun g hg => tkS_1 _ _ _ (by omega), rfl⟩
          rw [bZ_t y]
          simp [psh_some, psh_none, -Int32.not_lt, -Int32.not_le, rc_M_readTerm, q_M_readTerm_0, q_M_readTerm_33, q_M_readTerm_40, q_M_readTerm_49, q_M_readTerm_54, q_M_readTerm_59, hL, z6, h0, hM.2.2.2.2.1, y1, e]
        · have y1 : ¬ nI (tC t n p) = 13 := fun z => y ((n13 _ (by omega)).mp z)
          refine ⟨μ, ?_, by unfold aP1; rw [if_neg y]; exact hM, h0, fun _ _ => rfl, rfl⟩
          rw [bZ_f y]
          simp [psh_some, psh_none, -Int32.not_lt, -Int32.not_le, rc_M_readTerm, q_M_readTerm_0, q_M_readTerm_33, q_M_readTerm_40, q_M_readTerm_53, q_M_readTerm_54, hL, z6, h0, hM.2.2.2.2.1, y1]
      obtain ⟨μ1, r1, M1, f1, g1, a1⟩ := pre
      have p1 := aP1_le (t := t) hp
      have p2 := aP2_le (t := t) hp
      have p3 := aP3_le (t := t) hp
      have h231 := tC_le t n (aP1 t n p)
      have h232 := tC_le t n (aP2 t n p)
      have h233 := tC_le t n (aP3 t n p)
      have g1' : ∀ g, g < 50 ∨ 55 < g → μ1.1 g = μ.1 g := g1
      have a1' : ∀ f, f < 46 ∨ 49 < f → μ1.2 f = μ.2 f := fun f _ => by rw [a1]
      by_cases h1 : tC t n (aP1 t n p) ≤ 7
      · have e1 := tk_ok (σ := σ) (d + 1) hL hn p1 M1 f1 ((i07 _ (by omega)).mpr h1)
        have M2 := CurM_nx M1
        have f2 : (tkS μ1 n (tT t n (aP1 t n p))).1 54 = 0 := by rw [tkS_1 _ _ _ (by omega)]; exact f1
        have g2 : ∀ g, g < 50 ∨ 55 < g → (tkS μ1 n (tT t n (aP1 t n p))).1 g = μ.1 g := fun g hg => by rw [tkS_1 _ _ _ (by omega)]; exact g1 g hg
        have a2 : (tkS μ1 n (tT t n (aP1 t n p))).2 = μ.2 := a1
        generalize tkS μ1 n (tT t n (aP1 t n p)) = μ2 at e1 M2 f2 g2 a2
        have M2 : CurM t n μ2 (aP2 t n p) := M2
        have a2' : ∀ f, f < 46 ∨ 49 < f → μ2.2 f = μ.2 f := fun f _ => by rw [a2]
        by_cases h2 : tC t n (aP2 t n p) = 21
        · have y2 : nI (tC t n (aP2 t n p)) = 21 := (n21 _ (by omega)).mpr h2
          by_cases h59 : tN t n (aP2 t n p) = 59
          · have ef : aTf t n p k = (1, aP2 t n p) := by unfold aTf; rw [if_pos hs, if_neg h6, if_pos h1, if_neg (fun z => z.2 h59)]
            rw [ef]
            refine ⟨blm μ2 1, ?_, Qm_nx g2 a2' (Qm_blm (k := 1) M2 (by decide)), Tm_same a2 (by rw [ef]; exact Nat.succ_ne_zero _)⟩
            have eb := m_blames (σ := σ) (d + 5) hL f2 1
            have e2 := tk_f (σ := σ) (μ := blm μ2 1) (d + 1) hL (by rw [blm_54]; decide) 21 21
            have e3 := nm_f (σ := σ) (μ := blm μ2 1) d hL (by rw [blm_54]; decide)
            rw [r1]
            simp [psh_some, psh_none, -Int32.not_lt, -Int32.not_le, q_M_readTerm_63, q_M_readTerm_70, q_M_readTerm_85, q_M_readTerm_94, q_M_readTerm_101, q_M_readTerm_106, q_M_readTerm_114, q_M_readTerm_120, q_M_readTerm_129, hL, e1, f2, M2.2.2.2.2.1, M2.2.2.2.2.2, y2, h59, eb, e2, e3, blm_54, n1]
          · have e2 := tk_ok (σ := σ) (d + 1) hL hn p2 M2 f2 ((i21 _ (by omega)).mpr h2)
            have M3 := CurM_nx M2
            have f3 : (tkS μ2 n (tT t n (aP2 t n p))).1 54 = 0 := by rw [tkS_1 _ _ _ (by omega)]; exact f2
            have g3 : ∀ g, g < 50 ∨ 55 < g → (tkS μ2 n (tT t n (aP2 t n p))).1 g = μ.1 g := fun g hg => by rw [tkS_1 _ _ _ (by omega)]; exact g2 g hg
            have a3 : (tkS μ2 n (tT t n (aP2 t n p))).2 = μ.2 := a2
            generalize tkS μ2 n (tT t n (aP2 t n p)) = μ3 at e2 M3 f3 g3 a3
            have M3 : CurM t n μ3 (aP3 t n p) := M3
            have a3' : ∀ f, f < 46 ∨ 49 < f → μ3.2 f = μ.2 f := fun f _ => by rw [a3]
            by_cases h3 : tC t n (aP3 t n p) = 20
            · have ef : aTf t n p k = (0, aP4 t n p) := by unfold aTf; rw [if_pos hs, if_neg h6, if_pos h1, if_pos ⟨h2, h59⟩, if_pos h3]
              have e3 := nm_ok (σ := σ) d hL hn p3 M3 f3 h3
              have M4 := CurM_nx M3
              have f4 : (tkS μ3 n (tT t n (aP3 t n p))).1 54 = 0 := by rw [tkS_1 _ _ _ (by omega)]; exact f3
              have g4 : ∀ g, g < 50 ∨ 55 < g → (tkS μ3 n (tT t n (aP3 t n p))).1 g = μ.1 g := fun g hg => by rw [tkS_1 _ _ _ (by omega)]; exact g3 g hg
              have a4 : (tkS μ3 n (tT t n (aP3 t n p))).2 = μ.2 := a3
              generalize tkS μ3 n (tT t n (aP3 t n p)) = μ4 at e3 M4 f4 g4 a4
              have M4 : CurM t n μ4 (aP4 t n p) := M4
              have ek : (24 : Int32) * nI l + 4 * nI k = nI (24 * l + 4 * k) := by
                rw [show (24 : Int32) = nI 24 from rfl, show (4 : Int32) = nI 4 from rfl, pk_mul, pk_mul, nI_add]
              have e1k : nI (24 * l + 4 * k) + 1 = nI (24 * l + 4 * k + 1) := nI_add _ 1
              have e2k : nI (24 * l + 4 * k) + 2 = nI (24 * l + 4 * k + 2) := nI_add _ 2
              have e3k : nI (24 * l + 4 * k) + 3 = nI (24 * l + 4 * k + 3) := nI_add _ 3
              have i0 : ix (nI (24 * l + 4 * k)) 408 = true := ix_of (by omega) (by omega)
              have i1 : ix (nI (24 * l + 4 * k + 1)) 408 = true := ix_of (by omega) (by omega)
              have i2 : ix (nI (24 * l + 4 * k + 2)) 408 = true := ix_of (by omega) (by omega)
              have i3 : ix (nI (24 * l + 4 * k + 3)) 408 = true := ix_of (by omega) (by omega)
              have il : ix (nI l) 17 = true := ix_of (by omega) (by omega)
              have k0 := cl1000 (show 24 * l + 4 * k < 1000 by omega)
              have k1 := cl1000 (show 24 * l + 4 * k + 1 < 1000 by omega)
              have k2 := cl1000 (show 24 * l + 4 * k + 2 < 1000 by omega)
              have k3 := cl1000 (show 24 * l + 4 * k + 3 < 1000 by omega)
              have kl := cl1000 (show l < 1000 by omega)
              refine ⟨fA (fA (fA (fA (fA μ4 49 (24 * l + 4 * k) (bZ (tC t n p = 13))) 49 (24 * l + 4 * k + 1) (nI (tC t n (aP1 t n p)))) 49 (24 * l + 4 * k + 2) (tN t n (aP2 t n p))) 49 (24 * l + 4 * k + 3) (tN t n (aP3 t n p))) 48 l (nI k + 1), ?_, ?_, ?_⟩
              · rw [r1]
                by_cases y : tC t n p = 13
                · rw [bZ_t y]
                  simp [psh_some, psh_none, -Int32.not_lt, -Int32.not_le, q_M_readTerm_63, q_M_readTerm_70, q_M_readTerm_85, q_M_readTerm_94, q_M_readTerm_106, q_M_readTerm_114, q_M_readTerm_120, q_M_readTerm_130, q_M_readTerm_150, q_M_readTerm_155, q_M_readTerm_156, q_M_readTerm_167, q_M_readTerm_178, q_M_readTerm_189, q_M_readTerm_198, hL, e1, f2, M2.2.2.2.2.1, M2.2.2.2.2.2, y2, h59, e2, f3, e3, f4, ek, e1k, e2k, e3k, i0, i1, i2, i3, il, k0, k1, k2, k3, kl]
                · rw [bZ_f y]
                  simp [psh_some, psh_none, -Int32.not_lt, -Int32.not_le, q_M_readTerm_63, q_M_readTerm_70, q_M_readTerm_85, q_M_readTerm_94, q_M_readTerm_106, q_M_readTerm_114, q_M_readTerm_120, q_M_readTerm_130, q_M_readTerm_154, q_M_readTerm_155, q_M_readTerm_156, q_M_readTerm_167, q_M_readTerm_178, q_M_readTerm_189, q_M_readTerm_198, hL, e1, f2, M2.2.2.2.2.1, M2.2.2.2.2.2, y2, h59, e2, f3, e3, f4, ek, e1k, e2k, e3k, i0, i1, i2, i3, il, k0, k1, k2, k3, kl]
              · rw [ef]
                refine ⟨fun g hg => g4 g hg, fun f hf => ?_, fun _ => ⟨?_, f4⟩, fun z => absurd rfl z⟩
                · rw [fA_2n _ (by omega), fA_2n _ (by omega), fA_2n _ (by omega), fA_2n _ (by omega), fA_2n _ (by omega), a4]
                · exact M4
              · refine ⟨by rw [← a4]; rfl, by rw [← a4]; rfl, fun j hj => by rw [← a4]; simp [fA_2, hj], fun j hj => ?_, fun _ => ⟨by simp [fA_2, nI_1], by simp [fA_2], by simp [fA_2], by simp [fA_2], by simp [fA_2]⟩⟩
                rw [← a4]
                simp only [fA_2]
                rw [if_neg (by omega), if_neg (by omega), if_neg (by omega), if_neg (by omega), if_neg (by omega)]
            · have ef : aTf t n p k = (1, aP3 t n p) := by unfold aTf; rw [if_pos hs, if_neg h6, if_pos h1, if_pos ⟨h2, h59⟩, if_neg h3]
              rw [ef]
              refine ⟨blm μ3 1, ?_, Qm_nx g3 a3' (Qm_blm (k := 1) M3 (by decide)), Tm_same a3 (by rw [ef]; exact Nat.succ_ne_zero _)⟩
              have e3 := nm_no (σ := σ) d hL M3 f3 h3
              rw [r1]
              simp [psh_some, psh_none, -Int32.not_lt, -Int32.not_le, q_M_readTerm_63, q_M_readTerm_70, q_M_readTerm_85, q_M_readTerm_94, q_M_readTerm_106, q_M_readTerm_114, q_M_readTerm_120, q_M_readTerm_129, hL, e1, f2, M2.2.2.2.2.1, M2.2.2.2.2.2, y2, h59, e2, f3, e3, blm_54, n1]
        · have ef : aTf t n p k = (1, aP2 t n p) := by unfold aTf; rw [if_pos hs, if_neg h6, if_pos h1, if_neg (fun z => h2 z.1)]
          rw [ef]
          refine ⟨blm μ2 1, ?_, Qm_nx g2 a2' (Qm_blm (k := 1) M2 (by decide)), Tm_same a2 (by rw [ef]; exact Nat.succ_ne_zero _)⟩
          have y2 : ¬ nI (tC t n (aP2 t n p)) = 21 := fun z => h2 ((n21 _ (by omega)).mp z)
          have e2 := tk_no (σ := σ) (d + 1) hL M2 f2 (lo := 21) (hi := 21) (fun z => h2 ((i21 _ (by omega)).mp z))
          have e3 := nm_f (σ := σ) (μ := blm μ2 1) d hL (by rw [blm_54]; decide)
          rw [r1]
          simp [psh_some, psh_none, -Int32.not_lt, -Int32.not_le, q_M_readTerm_63, q_M_readTerm_70, q_M_readTerm_85, q_M_readTerm_106, q_M_readTerm_114, q_M_readTerm_120, q_M_readTerm_129, hL, e1, f2, M2.2.2.2.2.1, y2, e2, e3, blm_54, n1]
      · have ef : aTf t n p k = (1, aP1 t n p) := by unfold aTf; rw [if_pos hs, if_neg h6, if_neg h1]
        rw [ef]
        refine ⟨blm μ1 1, ?_, Qm_nx g1' a1' (Qm_blm (k := 1) M1 (by decide)), Tm_same a1 (by rw [ef]; exact Nat.succ_ne_zero _)⟩
        have e1 := tk_no (σ := σ) (d + 1) hL M1 f1 (lo := 0) (hi := 7) (fun z => h1 ((i07 _ (by omega)).mp z))
        have e2 := tk_f (σ := σ) (μ := blm μ1 1) (d + 1) hL (by rw [blm_54]; decide) 21 21
        have e3 := nm_f (σ := σ) (μ := blm μ1 1) d hL (by rw [blm_54]; decide)
        rw [r1]
        simp [psh_some, psh_none, -Int32.not_lt, -Int32.not_le, q_M_readTerm_63, q_M_readTerm_70, q_M_readTerm_106, q_M_readTerm_114, q_M_readTerm_120, q_M_readTerm_129, hL, e1, e2, e3, blm_54, n1]
  · have ef : aTf t n p k = (1, p) := by unfold aTf; rw [if_neg hs]
    rw [ef]
    refine ⟨blm μ 1, ?_, Qm_blm (k := 1) hM (by decide), Tm_same rfl (by rw [ef]; exact Nat.succ_ne_zero _)⟩
    have y1 : ¬ nI (tC t n p) = 13 := fun z => hs (Or.inl ((n13 _ (by omega)).mp z))
    have y2 : ¬ (¬ nI (tC t n p) < 0 ∧ ¬ 7 < nI (tC t n p)) := fun z => hs (Or.inr ((i07 _ (by omega)).mp z))
    have e1 := tk_no (σ := σ) (d + 1) hL hM h0 (lo := 0) (hi := 7) y2
    have e2 := tk_f (σ := σ) (μ := blm μ 1) (d + 1) hL (by rw [blm_54]; decide) 21 21
    have e3 := nm_f (σ := σ) (μ := blm μ 1) d hL (by rw [blm_54]; decide)
    by_cases h6 : k = 6
    · subst h6
      have z6 : nI 6 = (6 : Int32) := rfl
      simp [psh_some, psh_none, -Int32.not_lt, -Int32.not_le, rc_M_readTerm, q_M_readTerm_0, q_M_readTerm_6, q_M_readTerm_15, q_M_readTerm_25, q_M_readTerm_33, q_M_readTerm_40, q_M_readTerm_53, q_M_readTerm_54, q_M_readTerm_63, q_M_readTerm_70, q_M_readTerm_106, q_M_readTerm_114, q_M_readTerm_120, q_M_readTerm_129, hL, z6, h0, hM.2.2.2.2.1, y1, m_in, bZ_f y2, blm_54, e1, e2, e3, n1]
    · have z6 : ¬ nI k = 6 := fun z => h6 ((n6 _ (by omega)).mp z)
      simp [psh_some, psh_none, -Int32.not_lt, -Int32.not_le, rc_M_readTerm, q_M_readTerm_0, q_M_readTerm_33, q_M_readTerm_40, q_M_readTerm_53, q_M_readTerm_54, q_M_readTerm_63, q_M_readTerm_70, q_M_readTerm_106, q_M_readTerm_114, q_M_readTerm_120, q_M_readTerm_129, hL, z6, h0, hM.2.2.2.2.1, y1, blm_54, e1, e2, e3, n1]
/-- with a fault already it does nothing -/
theorem m_term_f (hL : LM σ a) (h0 : ¬ μ.1 54 ≤ 0) (l : Int32) : runc (d + 6) 151 [.ref a, .int l, .int 0] (put σ a μ) = some (none, put σ a μ) := by
  have h1 : ¬ μ.1 54 = 0 := fun z => h0 (by rw [z]; decide)
  have e1 := tk_f (σ := σ) (μ := μ) (d + 1) hL h0 0 7
  have e2 := tk_f (σ := σ) (μ := μ) (d + 1) hL h0 21 21
  have e3 := nm_f (σ := σ) (μ := μ) d hL h0
  simp [psh_some, psh_none, -Int32.not_lt, -Int32.not_le, rc_M_readTerm, q_M_readTerm_0, q_M_readTerm_33, q_M_readTerm_53, q_M_readTerm_54, q_M_readTerm_63, q_M_readTerm_70, q_M_readTerm_106, q_M_readTerm_114, q_M_readTerm_120, q_M_readTerm_129, hL, h0, h1, e1, e2, e3]
end T73
