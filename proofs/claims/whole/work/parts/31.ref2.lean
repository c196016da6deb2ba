/-! ===== THE REFERENCE'S METHODS OVER RULES, BAGS, A MINUTE ===== -/
section R2
variable {σ : Mm} {a : Nat} {μ : Ms} (d : Nat)
/-- are all k from l on so -/
def al (P : Nat → Prop) [DecidablePred P] : Nat → Nat → Int32
  | 0, _ => 1
  | k + 1, l => if P l then al P k (l + 1) else 0
theorem al_congr {P Q : Nat → Prop} [DecidablePred P] [DecidablePred Q] : ∀ (k l : Nat), (∀ j, l ≤ j → j < l + k → (P j ↔ Q j)) → al P k l = al Q k l := by
  intro k
  induction k with
  | zero => intro l _; rfl
  | succ k ih =>
    intro l h
    rw [al, al, ih (l + 1) (fun j h1 h2 => h j (by omega) (by omega))]
    have := h l (by omega) (by omega)
    by_cases hp : P l
    · rw [if_pos hp, if_pos (this.mp hp)]
    · rw [if_neg hp, if_neg (fun z => hp (this.mpr z))]
theorem al_01 {P : Nat → Prop} [DecidablePred P] : ∀ (k l : Nat), al P k l = 0 ∨ al P k l = 1 := by
  intro k
  induction k with
  | zero => intro l; exact Or.inr rfl
  | succ k ih => intro l; rw [al]; split <;> simp [ih]
theorem tells_no (hL : LM σ a) (h : μ.1 11 = 160) (w o t v : Int32) : runc d 123 [.ref a, .int w, .int o, .int t, .int v] (put σ a μ) = some (some (.int (-1)), put σ a μ) := by
  simp [psh_some, psh_none, -Int32.not_lt, -Int32.not_le, hL, rc_M_tells, q_M_tells_0, q_M_tells_10, q_M_tells_12, q_M_tells_22, q_M_tells_32, q_M_tells_42, q_M_tells_53, q_M_tells_63, h]
def telS (μ : Ms) (w o t v : Int32) : Ms := fF (fA (fA (fA (fA μ 12 (nF μ) w) 13 (nF μ) o) 14 (nF μ) t) 15 (nF μ) v) 11 (μ.1 11 + 1)
theorem m_tells (hL : LM σ a) (hC : Cn μ) (h : nF μ < 160) (w o t v : Int32) (hw : w = 0 ∨ w = 1) : runc d 123 [.ref a, .int w, .int o, .int t, .int v] (put σ a μ) = some (some (.int (nI (nF μ))), put σ a (telS μ w o t v)) := by
  have h1 : ¬ nI (nF μ) = 160 := by
    intro e
    have : (nI (nF μ)) = nI 160 := e
    rw [nI_eq (by omega) (by omega)] at this
    omega
  have h2 : ix (nI (nF μ)) 160 = true := ix_of h (by omega)
  have h3 : nI (nF μ) + 1 - 1 = nI (nF μ) := by grind
  simp [psh_some, psh_none, -Int32.not_lt, -Int32.not_le, hL, rc_M_tells, q_M_tells_0, q_M_tells_10, q_M_tells_12, q_M_tells_22, q_M_tells_32, q_M_tells_42, q_M_tells_53, q_M_tells_63, hC.f.1, h1, h2, hw, telS, fF_1, fF_2, fA_1, cl1000 (show nF μ < 1000 by omega), h3]
def swN (μ : Ms) (s : Nat) : Int32 := kno μ 0 (nI s) (μ.1 1 / 60) (nF μ) 3
def frA (μ : Ms) (s : Nat) : Int32 := μ.2 3 s - sm (mo1 μ (nI s)) (nB μ)
def see (μ : Ms) (w : Int32) (k s : Nat) : Int32 :=
  if w = 0 then swN μ s else if w = 1 then μ.1 1 / 60 - μ.1 1 / 60 / 24 * 24 else if w = 2 then (if μ.2 5 s = 0 then 0 else 1) else if w = 3 then frA μ s else if w = 4 then μ.2 27 k else if w = 5 then wgt μ k else if w = 6 then μ.1 1 / 1440 else sm (bc1 μ (nI k)) (nG μ)
theorem seen_lp (hL : LM σ a) {n : Nat} (hn : n ≤ 30) (hb : μ.1 60 = nI n) (x w s : Int32) : ∀ k j : Nat, j + k = n → run d 154 121 [.ref a, .int w, .int x, .int s, .int (sm (bc1 μ x) j), .int (nI j)] [] (put σ a μ) = some (some (.int (sm (bc1 μ x) n)), put σ a μ) := by
  intro k
  induction k with
  | zero =>
    intro j hj
    have : j = n := by omega
    subst this
    simp [psh_some, psh_none, -Int32.not_lt, -Int32.not_le, q_M_seen_121, q_M_seen_168, hb, hL]
  | succ k ih =>
    intro j hj
    have h1 := ih (j + 1) (by omega)
    have h2 : ¬ nI n ≤ nI j := nI_ge (by omega) (by omega)
    have h3 : ix (nI j) 30 = true := ix_of (by omega) (by omega)
    have h4 : (nI j).toNatClampNeg = j := nI_clamp (by omega)
    rw [sm, nI_succ, bc1] at h1
    by_cases c1 : μ.2 64 j = 1 <;> by_cases c2 : μ.2 66 j = x <;> simp only [c1, c2, and_self, and_true, and_false, true_and, false_and, if_true, if_false, add_zero'] at h1 <;> simpa [psh_some, psh_none, -Int32.not_lt, -Int32.not_le, rc_M_seen, q_M_seen_0, q_M_seen_44, q_M_seen_60, q_M_seen_61, q_M_seen_72, q_M_seen_81, q_M_seen_85, q_M_seen_86, q_M_seen_87, q_M_seen_92, q_M_seen_93, q_M_seen_100, q_M_seen_105, q_M_seen_106, q_M_seen_115, q_M_seen_121, q_M_seen_130, q_M_seen_143, q_M_seen_154, q_M_seen_158, q_M_seen_159, q_M_seen_168, hb, hL, h2, h3, h4, c1, c2, add_zero'] using h1
theorem m_seen (hL : LM σ a) (hC : Cn μ) {k s : Nat} (hk : k < 6) (hs : s < 12) (w : Int32) : runc (d + 2) 154 [.ref a, .int w, .int (nI k), .int (nI s)] (put σ a μ) = some (some (.int (see μ w k s)), put σ a μ) := by
  have h1 : ix (nI k) 6 = true := ix_of (by omega) (by omega)
  have h2 : ix (nI s) 12 = true := ix_of (by omega) (by omega)
  unfold see
  by_cases c0 : w = 0
  · simp [psh_some, psh_none, -Int32.not_lt, -Int32.not_le, rc_M_seen, q_M_seen_0, q_M_seen_44, q_M_seen_60, q_M_seen_61, q_M_seen_72, q_M_seen_81, q_M_seen_85, q_M_seen_86, q_M_seen_87, q_M_seen_92, q_M_seen_93, q_M_seen_100, q_M_seen_105, q_M_seen_106, q_M_seen_115, q_M_seen_121, q_M_seen_130, q_M_seen_143, q_M_seen_154, q_M_seen_158, q_M_seen_159, q_M_seen_168, hL, c0, hC.f.1, m_swellAt d hL hC.f.2, m_swellAt (d + 1) hL hC.f.2, swN]
  by_cases c1 : w = 1
  · simp [psh_some, psh_none, -Int32.not_lt, -Int32.not_le, rc_M_seen, q_M_seen_0, q_M_seen_44, q_M_seen_60, q_M_seen_61, q_M_seen_72, q_M_seen_81, q_M_seen_85, q_M_seen_86, q_M_seen_87, q_M_seen_92, q_M_seen_93, q_M_seen_100, q_M_seen_105, q_M_seen_106, q_M_seen_115, q_M_seen_121, q_M_seen_130, q_M_seen_143, q_M_seen_154, q_M_seen_158, q_M_seen_159, q_M_seen_168, hL, c1]
  by_cases c2 : w = 2
  · by_cases e : μ.2 5 s = 0 <;> simp [psh_some, psh_none, -Int32.not_lt, -Int32.not_le, rc_M_seen, q_M_seen_0, q_M_seen_44, q_M_seen_60, q_M_seen_61, q_M_seen_72, q_M_seen_81, q_M_seen_85, q_M_seen_86, q_M_seen_87, q_M_seen_92, q_M_seen_93, q_M_seen_100, q_M_seen_105, q_M_seen_106, q_M_seen_115, q_M_seen_121, q_M_seen_130, q_M_seen_143, q_M_seen_154, q_M_seen_158, q_M_seen_159, q_M_seen_168, hL, c2, h2, cl12 hs, e]
  by_cases c3 : w = 3
  · simp [psh_some, psh_none, -Int32.not_lt, -Int32.not_le, rc_M_seen, q_M_seen_0, q_M_seen_44, q_M_seen_60, q_M_seen_61, q_M_seen_72, q_M_seen_81, q_M_seen_85, q_M_seen_86, q_M_seen_87, q_M_seen_92, q_M_seen_93, q_M_seen_100, q_M_seen_105, q_M_seen_106, q_M_seen_115, q_M_seen_121, q_M_seen_130, q_M_seen_143, q_M_seen_154, q_M_seen_158, q_M_seen_159, q_M_seen_168, hL, c3, m_freeAt _ hL hC.b.2 hC.b.1 hs, frA]
  by_cases c4 : w = 4
  · simp [psh_some, psh_none, -Int32.not_lt, -Int32.not_le, rc_M_seen, q_M_seen_0, q_M_seen_44, q_M_seen_60, q_M_seen_61, q_M_seen_72, q_M_seen_81, q_M_seen_85, q_M_seen_86, q_M_seen_87, q_M_seen_92, q_M_seen_93, q_M_seen_100, q_M_seen_105, q_M_seen_106, q_M_seen_115, q_M_seen_121, q_M_seen_130, q_M_seen_143, q_M_seen_154, q_M_seen_158, q_M_seen_159, q_M_seen_168, hL, c4, h1, cl6 hk]
  by_cases c5 : w = 5
  · simp [psh_some, psh_none, -Int32.not_lt, -Int32.not_le, rc_M_seen, q_M_seen_0, q_M_seen_44, q_M_seen_60, q_M_seen_61, q_M_seen_72, q_M_seen_81, q_M_seen_85, q_M_seen_86, q_M_seen_87, q_M_seen_92, q_M_seen_93, q_M_seen_100, q_M_seen_105, q_M_seen_106, q_M_seen_115, q_M_seen_121, q_M_seen_130, q_M_seen_143, q_M_seen_154, q_M_seen_158, q_M_seen_159, q_M_seen_168, hL, c5, m_weight _ hL hC hk]
  by_cases c6 : w = 6
  · simp [psh_some, psh_none, -Int32.not_lt, -Int32.not_le, rc_M_seen, q_M_seen_0, q_M_seen_44, q_M_seen_60, q_M_seen_61, q_M_seen_72, q_M_seen_81, q_M_seen_85, q_M_seen_86, q_M_seen_87, q_M_seen_92, q_M_seen_93, q_M_seen_100, q_M_seen_105, q_M_seen_106, q_M_seen_115, q_M_seen_121, q_M_seen_130, q_M_seen_143, q_M_seen_154, q_M_seen_158, q_M_seen_159, q_M_seen_168, hL, c6]
  have h := seen_lp (d + 2) hL hC.g.2 hC.g.1 (nI k) w (nI s) (nG μ) 0 (by omega)
  rw [rc_M_seen, q_M_seen_0 _ _ _ _ _ _ _ _ _ hL]
  simp only [c0, c1, c2, c3, c4, c5, c6, if_false]
  rw [q_M_seen_115 _ _ _ _ _ _ _ _ _ hL]
  simpa [sm, nI_0] using h
def cmv (g v n : Int32) : Int32 := if g = 60 then (if n ≤ v then 0 else 1) else if g = 62 then (if v ≤ n then 0 else 1) else (if v = n then 1 else 0)
def tm (μ : Ms) (l : Nat) : Nat := (μ.2 44 l).toNatClampNeg
/-- the term t of the line l is so -/
def tOk (μ : Ms) (l k s t : Nat) : Bool := !decide (cmv (μ.2 45 (24 * l + 4 * t + 2)) (see μ (μ.2 45 (24 * l + 4 * t + 1)) k s) (μ.2 45 (24 * l + 4 * t + 3)) = (if μ.2 45 (24 * l + 4 * t) = 1 then 1 else 0))
def isO (μ : Ms) (l k s : Nat) : Int32 := if ¬ μ.2 43 l = -1 ∧ ¬ μ.2 43 l = nI s then 1 else al (fun t => tOk μ l k s t = true) (tm μ l) 0
theorem ix24 (l t : Nat) : (24 : Int32) * nI l + 4 * nI t = nI (24 * l + 4 * t) := by
  rw [show (24 : Int32) = nI 24 from rfl, show (4 : Int32) = nI 4 from rfl, pk_mul, pk_mul, nI_add]
theorem nI_p (n : Nat) (m : Nat) : nI n + nI m = nI (n + m) := nI_add n m
theorem isSo_lp (hL : LM σ a) (hC : Cn μ) {l k s n : Nat} (hl : l < 17) (hk : k < 6) (hs : s < 12) (hn : n ≤ 6) (ht : μ.2 44 l = nI n) : ∀ y t : Nat, t + y = n → ∀ u5 u6 u7 : Value, run (d + 3) 155 25 [.ref a, .int (nI l), .int (nI k), .int (nI s), .int (nI t), u5, u6, u7] [] (put σ a μ) = some (some (.int (al (fun t => tOk μ l k s t = true) y t)), put σ a μ) := by
  have h3 : ix (nI l) 17 = true := ix_of (by omega) (by omega)
  intro y
  induction y with
  | zero =>
    intro t hj u5 u6 u7
    have : t = n := by omega
    subst this
    simp [psh_some, psh_none, -Int32.not_lt, -Int32.not_le, q_M_isSo_25, q_M_isSo_186, hL, h3, cl1000 (show l < 1000 by omega), ht, al]
  | succ y ih =>
    intro t hj u5 u6 u7
    have h1 := ih (t + 1) (by omega)
    have h2 : ¬ nI n ≤ nI t := nI_ge (by omega) (by omega)
    have i0 : ix (nI (24 * l + 4 * t)) 408 = true := ix_of (by omega) (by omega)
    have i1 : ix (nI (24 * l + 4 * t) + 1) 408 = true := by rw [nI_1]; exact ix_of (by omega) (by omega)
    have i2 : ix (nI (24 * l + 4 * t) + 2) 408 = true := by rw [show (2 : Int32) = nI 2 from rfl, nI_add]; exact ix_of (by omega) (by omega)
    have i3 : ix (nI (24 * l + 4 * t) + 3) 408 = true := by rw [show (3 : Int32) = nI 3 from rfl, nI_add]; exact ix_of (by omega) (by omega)
    have j0 : (nI (24 * l + 4 * t)).toNatClampNeg = 24 * l + 4 * t := nI_clamp (by omega)
    have j1 : (nI (24 * l + 4 * t) + 1).toNatClampNeg = 24 * l + 4 * t + 1 := by rw [nI_1]; exact nI_clamp (by omega)
    have j2 : (nI (24 * l + 4 * t) + 2).toNatClampNeg = 24 * l + 4 * t + 2 := by rw [show (2 : Int32) = nI 2 from rfl, nI_add]; exact nI_clamp (by omega)
    have j3 : (nI (24 * l + 4 * t) + 3).toNatClampNeg = 24 * l + 4 * t + 3 := by rw [show (3 : Int32) = nI 3 from rfl, nI_add]; exact nI_clamp (by omega)
    rw [nI_succ] at h1
    generalize hv : see μ (μ.2 45 (24 * l + 4 * t + 1)) k s = v
    have ho : tOk μ l k s t = !decide (cmv (μ.2 45 (24 * l + 4 * t + 2)) v (μ.2 45 (24 * l + 4 * t + 3)) = (if μ.2 45 (24 * l + 4 * t) = 1 then 1 else 0)) := by rw [tOk, hv]
    rw [al, ho]
    by_cases c1 : μ.2 45 (24 * l + 4 * t + 2) = 60
    · by_cases c2 : μ.2 45 (24 * l + 4 * t + 3) ≤ v <;> by_cases c3 : μ.2 45 (24 * l + 4 * t) = 1 <;> simp [psh_some, psh_none, -Int32.not_lt, -Int32.not_le, rc_M_isSo, q_M_isSo_0, q_M_isSo_10, q_M_isSo_20, q_M_isSo_22, q_M_isSo_25, q_M_isSo_36, q_M_isSo_62, q_M_isSo_78, q_M_isSo_92, q_M_isSo_96, q_M_isSo_100, q_M_isSo_114, q_M_isSo_128, q_M_isSo_132, q_M_isSo_136, q_M_isSo_150, q_M_isSo_154, q_M_isSo_155, q_M_isSo_170, q_M_isSo_174, q_M_isSo_175, q_M_isSo_178, q_M_isSo_180, q_M_isSo_186, hL, h3, cl1000 (show l < 1000 by omega), ht, h2, ix24, i0, i1, i2, i3, j0, j1, j2, j3, m_seen d hL hC hk hs, hv, c1, c2, c3, cmv, h1]
    · by_cases c4 : μ.2 45 (24 * l + 4 * t + 2) = 62
      · by_cases c2 : v ≤ μ.2 45 (24 * l + 4 * t + 3) <;> by_cases c3 : μ.2 45 (24 * l + 4 * t) = 1 <;> simp [psh_some, psh_none, -Int32.not_lt, -Int32.not_le, rc_M_isSo, q_M_isSo_0, q_M_isSo_10, q_M_isSo_20, q_M_isSo_22, q_M_isSo_25, q_M_isSo_36, q_M_isSo_62, q_M_isSo_78, q_M_isSo_92, q_M_isSo_96, q_M_isSo_100, q_M_isSo_114, q_M_isSo_128, q_M_isSo_132, q_M_isSo_136, q_M_isSo_150, q_M_isSo_154, q_M_isSo_155, q_M_isSo_170, q_M_isSo_174, q_M_isSo_175, q_M_isSo_178, q_M_isSo_180, q_M_isSo_186, hL, h3, cl1000 (show l < 1000 by omega), ht, h2, ix24, i0, i1, i2, i3, j0, j1, j2, j3, m_seen d hL hC hk hs, hv, c4, c2, c3, cmv, h1]
      · by_cases c2 : v = μ.2 45 (24 * l + 4 * t + 3) <;> by_cases c3 : μ.2 45 (24 * l + 4 * t) = 1 <;> simp [psh_some, psh_none, -Int32.not_lt, -Int32.not_le, rc_M_isSo, q_M_isSo_0, q_M_isSo_10, q_M_isSo_20, q_M_isSo_22, q_M_isSo_25, q_M_isSo_36, q_M_isSo_62, q_M_isSo_78, q_M_isSo_92, q_M_isSo_96, q_M_isSo_100, q_M_isSo_114, q_M_isSo_128, q_M_isSo_132, q_M_isSo_136, q_M_isSo_150, q_M_isSo_154, q_M_isSo_155, q_M_isSo_170, q_M_isSo_174, q_M_isSo_175, q_M_isSo_178, q_M_isSo_180, q_M_isSo_186, hL, h3, cl1000 (show l < 1000 by omega), ht, h2, ix24, i0, i1, i2, i3, j0, j1, j2, j3, m_seen d hL hC hk hs, hv, c1, c4, c2, c3, cmv, h1]
theorem m_isSo (hL : LM σ a) (hC : Cn μ) {l k s : Nat} (hl : l < 17) (hk : k < 6) (hs : s < 12) (ht : μ.2 44 l = nI (tm μ l)) (ht6 : tm μ l ≤ 6) : runc (d + 3) 155 [.ref a, .int (nI l), .int (nI k), .int (nI s)] (put σ a μ) = some (some (.int (isO μ l k s)), put σ a μ) := by
  have h3 : ix (nI l) 17 = true := ix_of (by omega) (by omega)
  have h := isSo_lp d hL hC hl hk hs ht6 ht (tm μ l) 0 (by omega)
  rw [nI_0] at h
  unfold isO
  by_cases c1 : μ.2 43 l = -1
  · rw [if_neg (by simp [c1])]
    simp [psh_some, psh_none, -Int32.not_lt, -Int32.not_le, rc_M_isSo, q_M_isSo_0, q_M_isSo_22, hL, h3, cl1000 (show l < 1000 by omega), c1, h]
  · by_cases c2 : μ.2 43 l = nI s
    · rw [if_neg (by simp [c2])]
      simp [psh_some, psh_none, -Int32.not_lt, -Int32.not_le, rc_M_isSo, q_M_isSo_0, q_M_isSo_10, q_M_isSo_22, hL, h3, cl1000 (show l < 1000 by omega), c1, c2, h]
    · rw [if_pos ⟨c1, c2⟩]
      simp [psh_some, psh_none, -Int32.not_lt, -Int32.not_le, rc_M_isSo, q_M_isSo_0, q_M_isSo_10, q_M_isSo_20, hL, h3, cl1000 (show l < 1000 by omega), c1, c2]
def Rl (μ : Ms) : Prop := ∀ l, l < nR μ → μ.2 44 l = nI (tm μ l) ∧ tm μ l ≤ 6
def fns (μ : Ms) (k s : Nat) (ld : Int32) : Int32 := ff (fun l => μ.2 42 l = ld ∧ isO μ l k s = 0) (nR μ) 0
theorem fns_lp (hL : LM σ a) (hC : Cn μ) (hR : Rl μ) {k s : Nat} (hk : k < 6) (hs : s < 12) (ld : Int32) : ∀ y l : Nat, l + y = nR μ → run (d + 4) 156 3 [.ref a, .int (nI k), .int (nI s), .int ld, .int (nI l)] [] (put σ a μ) = some (some (.int (ff (fun l => μ.2 42 l = ld ∧ isO μ l k s = 0) y l)), put σ a μ) := by
  intro y
  have hr := hC.r
  induction y with
  | zero =>
    intro l hj
    have : l = nR μ := by omega
    subst this
    simp [psh_some, psh_none, -Int32.not_lt, -Int32.not_le, rc_M_firstNotSo, q_M_firstNotSo_0, q_M_firstNotSo_3, q_M_firstNotSo_12, q_M_firstNotSo_23, q_M_firstNotSo_31, q_M_firstNotSo_34, q_M_firstNotSo_37, q_M_firstNotSo_43, hL, ff, ← hr.1]
  | succ y ih =>
    intro l hj
    have h1 := ih (l + 1) (by omega)
    have h2 : ¬ nI (nR μ) ≤ nI l := nI_ge (by omega) (by omega)
    have h3 : ix (nI l) 17 = true := ix_of (by omega) (by omega)
    have h4 := hR l (by omega)
    rw [nI_succ] at h1
    rw [ff]
    by_cases c1 : μ.2 42 l = ld <;> by_cases c2 : isO μ l k s = 0 <;> simp [psh_some, psh_none, -Int32.not_lt, -Int32.not_le, rc_M_firstNotSo, q_M_firstNotSo_0, q_M_firstNotSo_3, q_M_firstNotSo_12, q_M_firstNotSo_23, q_M_firstNotSo_31, q_M_firstNotSo_34, q_M_firstNotSo_37, q_M_firstNotSo_43, hL, hr.1, h2, h3, cl1000 (show l < 1000 by omega), m_isSo d hL hC (show l < 17 by omega) hk hs h4.1 h4.2, c1, c2, h1]
theorem m_fns (hL : LM σ a) (hC : Cn μ) (hR : Rl μ) {k s : Nat} (hk : k < 6) (hs : s < 12) (ld : Int32) : runc (d + 4) 156 [.ref a, .int (nI k), .int (nI s), .int ld] (put σ a μ) = some (some (.int (fns μ k s ld)), put σ a μ) := by
  have h := fns_lp d hL hC hR hk hs ld (nR μ) 0 (by omega)
  rw [nI_0] at h
  rw [rc_M_firstNotSo, q_M_firstNotSo_0 _ _ _ _ _ _ _ _ hL]
  exact h
theorem m_refused (hL : LM σ a) {k : Nat} (hk : k < 6) (y : Int32) : runc d 159 [.ref a, .int (nI k), .int y] (put σ a μ) = some (some (.int (-2 - y)), put σ a (fA μ 29 k y)) := by
  have h1 : ix (nI k) 6 = true := ix_of (by omega) (by omega)
  simp [psh_some, psh_none, -Int32.not_lt, -Int32.not_le, rc_M_refused, q_M_refused_0, q_M_refused_7, hL, h1, cl6 hk]
theorem m_isAtEnd (hL : LM σ a) (hC : Cn μ) {k l : Nat} (hk : k < nB μ) (hl : l < nL μ) : runc (d + 2) 160 [.ref a, .int (nI k), .int (nI l)] (put σ a μ) = some (some (.int (bZ (μ.2 24 k = 0 ∧ (μ.2 8 l = μ.2 25 k ∨ μ.2 9 l = μ.2 25 k)))), put σ a μ) := by
  have b := hC.b; have e := hC.l
  have h1 : ix (nI k) 6 = true := ix_of (by omega) (by omega)
  have h2 : ix (nI l) 30 = true := ix_of (by omega) (by omega)
  have h3 := is_ix hl (by omega)
  by_cases c1 : μ.2 24 k = 0 <;> by_cases c2 : μ.2 8 l = μ.2 25 k <;> by_cases c3 : μ.2 9 l = μ.2 25 k <;> simp [psh_some, psh_none, -Int32.not_lt, -Int32.not_le, rc_M_isAtEnd, q_M_isAtEnd_0, q_M_isAtEnd_5, q_M_isAtEnd_8, q_M_isAtEnd_13, q_M_isAtEnd_16, q_M_isAtEnd_31, q_M_isAtEnd_46, q_M_isAtEnd_50, q_M_isAtEnd_51, hL, h1, h2, h3, cl6 (show k < 6 by omega), cl30 (show l < 30 by omega), m_isMoored _ hL b.1 b.2 hk, m_isLeg, e.1, bZ, c1, c2, c3]
theorem m_isAtEnd_no1 (hL : LM σ a) (hC : Cn μ) {x y : Int32} (h : x < 0 ∨ nI (nB μ) ≤ x) : runc (d + 2) 160 [.ref a, .int x, .int y] (put σ a μ) = some (some (.int 0), put σ a μ) := by
  simp [psh_some, psh_none, -Int32.not_lt, -Int32.not_le, rc_M_isAtEnd, q_M_isAtEnd_0, q_M_isAtEnd_5, q_M_isAtEnd_8, q_M_isAtEnd_13, q_M_isAtEnd_16, q_M_isAtEnd_31, q_M_isAtEnd_46, q_M_isAtEnd_50, q_M_isAtEnd_51, hL, m_isMoored_no _ hL hC.b.1 h]
theorem m_isAtEnd_no2 (hL : LM σ a) (hC : Cn μ) {k : Nat} (hk : k < nB μ) {y : Int32} (h : y < 0 ∨ nI (nL μ) ≤ y) : runc (d + 2) 160 [.ref a, .int (nI k), .int y] (put σ a μ) = some (some (.int 0), put σ a μ) := by
  have h1 := bZ_f (no_ix h)
  by_cases c1 : μ.2 24 k = 0 <;> simp [psh_some, psh_none, -Int32.not_lt, -Int32.not_le, rc_M_isAtEnd, q_M_isAtEnd_0, q_M_isAtEnd_5, q_M_isAtEnd_8, q_M_isAtEnd_13, q_M_isAtEnd_16, q_M_isAtEnd_31, q_M_isAtEnd_46, q_M_isAtEnd_50, q_M_isAtEnd_51, hL, m_isMoored _ hL hC.b.1 hC.b.2 hk, m_isLeg, hC.l.1, h1, bZ_0, c1]
/-- minutes lost by each bag aboard of x -/
def lsN (μ : Ms) (x : Int32) (y : Nat) (m : Int32) : Nat → Ms
  | 0 => μ
  | j + 1 => if μ.2 64 j = 1 ∧ μ.2 66 j = x then fA (lsN μ x y m j) 68 (7 * j + y) ((lsN μ x y m j).2 68 (7 * j + y) + m) else lsN μ x y m j
theorem lsN_1 (x : Int32) (y : Nat) (m : Int32) : ∀ j, (lsN μ x y m j).1 = μ.1 := by
  intro j
  induction j with
  | zero => rfl
  | succ j ih => rw [lsN]; split <;> simp [fA_1, ih]
theorem lsN_2 (x : Int32) (y : Nat) (m : Int32) {f : Nat} (hf : f ≠ 68) : ∀ j, (lsN μ x y m j).2 f = μ.2 f := by
  intro j
  induction j with
  | zero => rfl
  | succ j ih => rw [lsN]; split <;> simp [fA_2n, hf, ih]
theorem ix7 (g y : Nat) : (7 : Int32) * nI g + nI y = nI (7 * g + y) := by
  rw [show (7 : Int32) = nI 7 from rfl, pk_mul, nI_add]
theorem loses_lp (hL : LM σ a) {n : Nat} (hn : n ≤ 30) (hb : μ.1 60 = nI n) (x m : Int32) {y : Nat} (hy : y < 7) : ∀ k j : Nat, j + k = n → run d 161 3 [.ref a, .int x, .int (nI y), .int m, .int (nI j)] [] (put σ a (lsN μ x y m j)) = some (none, put σ a (lsN μ x y m n)) := by
  intro k
  induction k with
  | zero =>
    intro j hj
    have : j = n := by omega
    subst this
    simp [psh_some, psh_none, -Int32.not_lt, -Int32.not_le, rc_M_loses, q_M_loses_0, q_M_loses_3, q_M_loses_12, q_M_loses_23, q_M_loses_34, q_M_loses_50, q_M_loses_56, lsN_1, hb, hL]
  | succ k ih =>
    intro j hj
    have h1 := ih (j + 1) (by omega)
    have h2 : ¬ nI n ≤ nI j := nI_ge (by omega) (by omega)
    have h3 : ix (nI j) 30 = true := ix_of (by omega) (by omega)
    have h4 : (nI j).toNatClampNeg = j := nI_clamp (by omega)
    have h5 : ix (nI (7 * j + y)) 210 = true := ix_of (by omega) (by omega)
    have h6 : (nI (7 * j + y)).toNatClampNeg = 7 * j + y := nI_clamp (by omega)
    rw [nI_succ, lsN] at h1
    by_cases c1 : μ.2 64 j = 1 <;> by_cases c2 : μ.2 66 j = x <;> simp only [c1, c2, and_self, and_true, and_false, true_and, false_and, if_true, if_false] at h1 <;> simpa [psh_some, psh_none, -Int32.not_lt, -Int32.not_le, rc_M_loses, q_M_loses_0, q_M_loses_3, q_M_loses_12, q_M_loses_23, q_M_loses_34, q_M_loses_50, q_M_loses_56, lsN_1, lsN_2, hb, hL, h2, h3, h4, h5, h6, ix7, c1, c2] using h1
theorem m_loses (hL : LM σ a) (hC : Cn μ) (x m : Int32) {y : Nat} (hy : y < 7) : runc d 161 [.ref a, .int x, .int (nI y), .int m] (put σ a μ) = some (none, put σ a (lsN μ x y m (nG μ))) := by
  have h := loses_lp d hL hC.g.2 hC.g.1 x m hy (nG μ) 0 (by omega)
  rw [rc_M_loses, q_M_loses_0 _ _ _ _ _ _ _ _ hL]
  simpa [lsN, nI_0] using h
/-- bags aboard of x are lost -/
def skN (μ : Ms) (x : Int32) : Nat → Ms
  | 0 => μ
  | j + 1 => if μ.2 64 j = 1 ∧ μ.2 66 j = x then fA (skN μ x j) 64 j 3 else skN μ x j
theorem skN_1 (x : Int32) : ∀ j, (skN μ x j).1 = μ.1 := by
  intro j
  induction j with
  | zero => rfl
  | succ j ih => rw [skN]; split <;> simp [fA_1, ih]
theorem skN_2 (x : Int32) {f : Nat} (hf : f ≠ 64) : ∀ j, (skN μ x j).2 f = μ.2 f := by
  intro j
  induction j with
  | zero => rfl
  | succ j ih => rw [skN]; split <;> simp [fA_2n, hf, ih]
theorem skN_64 (x : Int32) : ∀ j g, (skN μ x j).2 64 g = if g < j ∧ μ.2 64 g = 1 ∧ μ.2 66 g = x then 3 else μ.2 64 g := by
  intro j
  induction j with
  | zero => intro g; simp [skN]
  | succ j ih =>
    intro g
    rw [skN]
    by_cases c : μ.2 64 j = 1 ∧ μ.2 66 j = x
    · rw [if_pos c, fA_2]
      by_cases e : g = j
      · subst e; simp [c]
      · rw [if_neg (by simp [e]), ih]
        have : (g < j + 1) ↔ g < j := by omega
        simp [this]
    · rw [if_neg c, ih]
      by_cases e : g = j
      · subst e; simp [c]
      · have : (g < j + 1) ↔ g < j := by omega
        simp [this]
theorem sinks_lp (hL : LM σ a) {n : Nat} (hn : n ≤ 30) (hb : μ.1 60 = nI n) (x : Int32) : ∀ k j : Nat, j + k = n → run d 166 31 [.ref a, .int x, .int (nI j)] [] (put σ a (skN μ x j)) = some (none, put σ a (skN μ x n)) := by
  intro k
  induction k with
  | zero =>
    intro j hj
    have : j = n := by omega
    subst this
    simp [psh_some, psh_none, -Int32.not_lt, -Int32.not_le, rc_M_sinks, q_M_sinks_0, q_M_sinks_7, q_M_sinks_22, q_M_sinks_29, q_M_sinks_31, q_M_sinks_39, q_M_sinks_49, q_M_sinks_59, q_M_sinks_66, q_M_sinks_72, skN_1, hb, hL]
  | succ k ih =>
    intro j hj
    have h1 := ih (j + 1) (by omega)
    have h2 : ¬ nI n ≤ nI j := nI_ge (by omega) (by omega)
    have h3 : ix (nI j) 30 = true := ix_of (by omega) (by omega)
    have h4 : (nI j).toNatClampNeg = j := nI_clamp (by omega)
    have h5 : (skN μ x j).2 64 j = μ.2 64 j := by rw [skN_64]; simp
    rw [nI_succ, skN] at h1
    by_cases c1 : μ.2 64 j = 1 <;> by_cases c2 : μ.2 66 j = x <;> simp only [c1, c2, and_self, and_true, and_false, true_and, false_and, if_true, if_false] at h1 <;> simpa [psh_some, psh_none, -Int32.not_lt, -Int32.not_le, rc_M_sinks, q_M_sinks_0, q_M_sinks_7, q_M_sinks_22, q_M_sinks_29, q_M_sinks_31, q_M_sinks_39, q_M_sinks_49, q_M_sinks_59, q_M_sinks_66, q_M_sinks_72, skN_1, skN_2, hb, hL, h2, h3, h4, h5, c1, c2] using h1
def skA (μ : Ms) (k : Nat) : Ms := fA (fF (fA μ 24 k 2) 37 (μ.1 37 + μ.2 27 k)) 27 k 0
def skS (μ : Ms) (k : Nat) : Ms := skN (skA μ k) (nI k) (nG μ)
theorem m_sinks (hL : LM σ a) (hC : Cn μ) {k : Nat} (hk : k < 6) : runc d 166 [.ref a, .int (nI k)] (put σ a μ) = some (none, put σ a (skS μ k)) := by
  have h1 : ix (nI k) 6 = true := ix_of (by omega) (by omega)
  have h := sinks_lp (μ := skA μ k) d hL hC.g.2 (by simp [skA, fA_1, fF_1, hC.g.1]) (nI k) (nG μ) 0 (by omega)
  rw [nI_0, skN] at h
  simp only [rc_M_sinks, q_M_sinks_0 _ _ _ _ _ _ hL h1, q_M_sinks_7 _ _ _ _ _ _ hL h1, q_M_sinks_22 _ _ _ _ _ _ hL h1, q_M_sinks_29 _ _ _ _ _ _ hL, cl6 hk]
  have e : fA (fF (fA μ 24 k 2) 37 ((fA μ 24 k 2).1 37 + (fA μ 24 k 2).2 27 k)) 27 k 0 = skA μ k := by
    simp [skA, fA_1, fA_2]
  rw [e]
  exact h
theorem m_isExcess (hL : LM σ a) {l : Nat} (hl : l < 200) : runc d 178 [.ref a, .int (nI l)] (put σ a μ) = some (some (.int (bZ (¬ μ.2 59 l < μ.2 57 l + 100))), put σ a μ) := by
  have h1 : ix (nI l) 200 = true := ix_of (by omega) (by omega)
  by_cases c : μ.2 59 l < μ.2 57 l + 100 <;> simp [psh_some, psh_none, -Int32.not_lt, -Int32.not_le, rc_M_isExcess, q_M_isExcess_0, q_M_isExcess_18, q_M_isExcess_22, q_M_isExcess_23, hL, h1, cl1000 (show l < 1000 by omega), bZ, c]
end R2
