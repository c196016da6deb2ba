/-! ===== THE REFERENCE'S MINUTE ===== -/
section R3
variable {σ : Mm} {a : Nat} {μ : Ms} (d : Nat)
/-- the boat k may come down at s -/
def cLd (μ : Ms) (k s : Nat) : Bool := decide (¬ frA μ s ≤ 0 ∧ ¬ 7 < swN μ s ∧ (niB (μ.1 1) = 0 ∨ ¬ μ.2 5 s = 0) ∧ fns μ k s 1 = -1)
theorem niB_01 (x : Int32) : niB x = 0 ∨ niB x = 1 := by
  unfold niB
  repeat' split
  all_goals simp
theorem m_canLand (hL : LM σ a) (hC : Cn μ) (hR : Rl μ) {k s : Nat} (hk : k < 6) (hs : s < 12) (ha : μ.2 25 k = nI s) : runc (d + 5) 165 [.ref a, .int (nI k)] (put σ a μ) = some (some (.int (bZ (cLd μ k s = true))), put σ a μ) := by
  have h1 : ix (nI k) 6 = true := ix_of (by omega) (by omega)
  have h2 : ix (nI s) 12 = true := ix_of (by omega) (by omega)
  have e1 := m_freeAt (d + 4) hL hC.b.2 hC.b.1 hs
  have e2 := fun x y => m_swellAt (μ := μ) (d + 3) hL hC.f.2 x y
  have e3 := m_isNight (μ := μ) (d + 4) hL (μ.1 1)
  have e4 := m_fns d hL hC hR hk hs 1
  have n1 : ¬ (1 : Int32) = 0 := by decide
  by_cases c1 : frA μ s ≤ 0
  · have c1' := c1; unfold frA at c1'
    simp [psh_some, psh_none, -Int32.not_lt, -Int32.not_le, rc_M_canLand, q_M_canLand_0, q_M_canLand_10, q_M_canLand_13, q_M_canLand_34, q_M_canLand_39, q_M_canLand_47, q_M_canLand_50, q_M_canLand_64, q_M_canLand_76, q_M_canLand_80, q_M_canLand_84, q_M_canLand_85, hL, h1, cl6 hk, ha, e1, c1', bZ, cLd, c1]
  have c1' := c1; unfold frA at c1'
  by_cases c2 : 7 < swN μ s
  · have c2' := c2; unfold swN at c2'
    simp [psh_some, psh_none, -Int32.not_lt, -Int32.not_le, rc_M_canLand, q_M_canLand_0, q_M_canLand_10, q_M_canLand_13, q_M_canLand_34, q_M_canLand_39, q_M_canLand_47, q_M_canLand_50, q_M_canLand_64, q_M_canLand_76, q_M_canLand_80, q_M_canLand_84, q_M_canLand_85, hL, h1, cl6 hk, ha, e1, c1', bZ, cLd, c1, e2, c2, c2', hC.f.1]
  have c2' := c2; unfold swN at c2'
  by_cases c3 : niB (μ.1 1) = 0
  · by_cases c4 : fns μ k s 1 = -1 <;> simp [psh_some, psh_none, -Int32.not_lt, -Int32.not_le, rc_M_canLand, q_M_canLand_0, q_M_canLand_10, q_M_canLand_13, q_M_canLand_34, q_M_canLand_39, q_M_canLand_47, q_M_canLand_50, q_M_canLand_64, q_M_canLand_76, q_M_canLand_80, q_M_canLand_84, q_M_canLand_85, hL, h1, cl6 hk, ha, e1, c1', bZ, cLd, c1, e2, c2, c2', hC.f.1, e3, c3, e4, c4]
  · by_cases c5 : μ.2 5 s = 0
    · simp [psh_some, psh_none, -Int32.not_lt, -Int32.not_le, rc_M_canLand, q_M_canLand_0, q_M_canLand_10, q_M_canLand_13, q_M_canLand_34, q_M_canLand_39, q_M_canLand_47, q_M_canLand_50, q_M_canLand_64, q_M_canLand_76, q_M_canLand_80, q_M_canLand_84, q_M_canLand_85, hL, h1, cl6 hk, ha, e1, c1', bZ, cLd, c1, e2, c2, c2', hC.f.1, e3, c3, h2, cl12 hs, c5]
    · by_cases c4 : fns μ k s 1 = -1 <;> simp [psh_some, psh_none, -Int32.not_lt, -Int32.not_le, rc_M_canLand, q_M_canLand_0, q_M_canLand_10, q_M_canLand_13, q_M_canLand_34, q_M_canLand_39, q_M_canLand_47, q_M_canLand_50, q_M_canLand_64, q_M_canLand_76, q_M_canLand_80, q_M_canLand_84, q_M_canLand_85, hL, h1, cl6 hk, ha, e1, c1', bZ, cLd, c1, e2, c2, c2', hC.f.1, e3, c3, h2, cl12 hs, c5, e4, c4]
/-- a minute in the air -/
def fl2 (μ : Ms) (k : Nat) : Ms := fA (fA μ 28 k (μ.2 28 k + 1)) 33 k (μ.2 33 k + 1)
def flA (μ : Ms) (k : Nat) : Int32 := dvu (μ.2 20 k * (μ.2 33 k + 1)) 60
def fld (μ : Ms) (k : Nat) : Ms := fF (fA (fA μ 24 k 0) 27 k (μ.2 27 k - dvu (μ.2 20 k * μ.2 33 k) 60)) 37 (μ.1 37 + dvu (μ.2 20 k * μ.2 33 k) 60)
theorem fl2_r {f : Nat} (k : Nat) (h1 : f ≠ 28) (h2 : f ≠ 33) : (fl2 μ k).2 f = μ.2 f := by rw [fl2, fA_2n _ h2, fA_2n _ h1]
theorem Cn_fA {f i : Nat} {v : Int32} (h : Cn μ) : Cn (fA μ f i v) := h
theorem Cn_fl2 {k : Nat} (h : Cn μ) : Cn (fl2 μ k) := h
theorem fl_go (hL : LM σ a) {k : Nat} (hk : k < 6) (hm : ¬ μ.2 34 k ≤ μ.2 33 k + 1) : runc (d + 6) 167 [.ref a, .int (nI k)] (put σ a μ) = some (none, put σ a (fl2 μ k)) := by
  have h1 : ix (nI k) 6 = true := ix_of (by omega) (by omega)
  simp [psh_some, psh_none, -Int32.not_lt, -Int32.not_le, rc_M_flies, q_M_flies_0, q_M_flies_10, q_M_flies_20, q_M_flies_35, q_M_flies_36, q_M_flies_47, q_M_flies_58, q_M_flies_63, q_M_flies_66, q_M_flies_71, q_M_flies_74, q_M_flies_81, q_M_flies_91, q_M_flies_101, q_M_flies_104, q_M_flies_112, hL, h1, cl6 hk, fA_2, fl2, hm]
theorem fl_end (hL : LM σ a) {k : Nat} (hk : k < 6) (hm : μ.2 34 k ≤ μ.2 33 k + 1) : runc (d + 6) 167 [.ref a, .int (nI k)] (put σ a μ) = run (d + 6) 167 47 [.ref a, .int (nI k), uu] [.int (flA μ k)] (put σ a (fl2 μ k)) := by
  have h1 : ix (nI k) 6 = true := ix_of (by omega) (by omega)
  have e : fA (fA μ 28 k (μ.2 28 k + 1)) 33 k (μ.2 33 k + 1) = fl2 μ k := rfl
  have e2 : (fl2 μ k).2 33 k = μ.2 33 k + 1 := by simp [fl2, fA_2]
  simp [psh_some, psh_none, -Int32.not_lt, -Int32.not_le, rc_M_flies, q_M_flies_0, q_M_flies_10, q_M_flies_20, q_M_flies_36, m_burns _ hL hk, hL, h1, cl6 hk, fA_2, e, e2, fl2_r, hm, flA]
theorem fl_sink (hL : LM σ a) (hC : Cn μ) {k : Nat} (hk : k < 6) (hm : μ.2 34 k ≤ μ.2 33 k + 1) (hf : ¬ flA μ k ≤ μ.2 27 k) : runc (d + 6) 167 [.ref a, .int (nI k)] (put σ a μ) = some (none, put σ a (skS (fl2 μ k) k)) := by
  have h1 : ix (nI k) 6 = true := ix_of (by omega) (by omega)
  rw [fl_end d hL hk hm]
  simp [psh_some, psh_none, -Int32.not_lt, -Int32.not_le, q_M_flies_47, q_M_flies_58, q_M_flies_63, q_M_flies_112, hL, h1, cl6 hk, fl2_r, hf, m_sinks _ hL (Cn_fl2 hC) hk]
theorem fl_land (hL : LM σ a) (hC : Cn μ) (hR : Rl μ) {k s : Nat} (hk : k < 6) (hs : s < 12) (ha : μ.2 25 k = nI s) (hm : μ.2 34 k ≤ μ.2 33 k + 1) (hf : flA μ k ≤ μ.2 27 k) (hc : cLd (fl2 μ k) k s = true) : runc (d + 6) 167 [.ref a, .int (nI k)] (put σ a μ) = some (none, put σ a (fld (fl2 μ k) k)) := by
  have h1 : ix (nI k) 6 = true := ix_of (by omega) (by omega)
  have e := m_canLand (μ := fl2 μ k) d hL (Cn_fl2 hC) hR hk hs (by rw [fl2_r k (by decide) (by decide)]; exact ha)
  rw [bZ_t hc] at e
  rw [fl_end d hL hk hm]
  have e2 : (fl2 μ k).2 33 k = μ.2 33 k + 1 := by simp [fl2, fA_2]
  have n1 : ¬ (1 : Int32) = 0 := by decide
  have hf' := hf
  unfold flA at hf'
  simp [psh_some, psh_none, -Int32.not_lt, -Int32.not_le, hf', q_M_flies_47, q_M_flies_66, q_M_flies_71, q_M_flies_74, q_M_flies_81, q_M_flies_91, q_M_flies_101, q_M_flies_112, hL, h1, cl6 hk, fl2_r, hf, e, n1, fA_2, fA_1, fF_1, fld, flA, e2]
theorem fl_held (hL : LM σ a) (hC : Cn μ) (hR : Rl μ) {k s : Nat} (hk : k < 6) (hs : s < 12) (ha : μ.2 25 k = nI s) (hm : μ.2 34 k ≤ μ.2 33 k + 1) (hf : flA μ k ≤ μ.2 27 k) (hc : ¬ cLd (fl2 μ k) k s = true) : runc (d + 6) 167 [.ref a, .int (nI k)] (put σ a μ) = some (none, put σ a (lsN (fl2 μ k) (nI k) 6 1 (nG μ))) := by
  have h1 : ix (nI k) 6 = true := ix_of (by omega) (by omega)
  have e := m_canLand (μ := fl2 μ k) d hL (Cn_fl2 hC) hR hk hs (by rw [fl2_r k (by decide) (by decide)]; exact ha)
  rw [bZ_f hc] at e
  rw [fl_end d hL hk hm]
  have e6 := m_loses (d + 5) hL (Cn_fl2 (k := k) hC) (nI k) 1 (y := 6) (by decide)
  rw [show nI 6 = (6 : Int32) from rfl] at e6
  simp [psh_some, psh_none, -Int32.not_lt, -Int32.not_le, q_M_flies_47, q_M_flies_66, q_M_flies_71, q_M_flies_104, q_M_flies_112, hL, h1, cl6 hk, fl2_r, hf, e, e6]
  rfl
end R3
