/-! ===== THE REFERENCE'S SMALL METHODS ===== -/
section R1
variable {σ : Mm} {a : Nat} {μ : Ms} (d : Nat)
theorem m_in (v lo hi : Int32) (σ : Mm) : runc d 115 [.int v, .int lo, .int hi] σ = some (some (.int (bZ (¬ v < lo ∧ ¬ hi < v))), σ) := by
  by_cases h1 : v < lo <;> by_cases h2 : hi < v <;> simp [psh_some, psh_none, -Int32.not_lt, -Int32.not_le, h1, h2, bZ, rc_M_in, e_M_in_0, e_M_in_5, e_M_in_10, e_M_in_14, e_M_in_15]
/-- v by w, up -/
def dvu (v w : Int32) : Int32 := (v + w - 1) / w
theorem m_up (x y : Int32) (h : ¬ y = 0) (σ : Mm) : runc d 116 [.int x, .int y] σ = some (some (.int (dvu x y)), σ) := by
  simp [psh_some, psh_none, -Int32.not_lt, -Int32.not_le, rc_M_up, e_M_up_0, h, dvu]
theorem m_up60 (x : Int32) (σ : Mm) : runc d 116 [.int x, .int 60] σ = some (some (.int (dvu x 60)), σ) := m_up d x 60 (by decide) σ
def nig (x : Int32) : Prop := x / 60 - x / 60 / 24 * 24 < 6 ∨ ¬ x / 60 - x / 60 / 24 * 24 < 18
def niB (x : Int32) : Int32 := if x / 60 - x / 60 / 24 * 24 < 6 then 1 else if x / 60 - x / 60 / 24 * 24 < 18 then 0 else 1
theorem m_isNight (hL : LM σ a) (x : Int32) : runc d 117 [.ref a, .int x] (put σ a μ) = some (some (.int (niB x)), put σ a μ) := by
  by_cases h1 : x / 60 - x / 60 / 24 * 24 < 6 <;> by_cases h2 : x / 60 - x / 60 / 24 * 24 < 18 <;> simp [psh_some, psh_none, -Int32.not_lt, -Int32.not_le, h1, h2, niB, hL, rc_M_isNight, q_M_isNight_0, q_M_isNight_14, q_M_isNight_20, q_M_isNight_24, q_M_isNight_25]
theorem m_isStop (hL : LM σ a) (x : Int32) : runc d 118 [.ref a, .int x] (put σ a μ) = some (some (.int (bZ (¬ x < 0 ∧ ¬ μ.1 2 ≤ x))), put σ a μ) := by
  by_cases h1 : x < 0 <;> by_cases h2 : μ.1 2 ≤ x <;> simp [psh_some, psh_none, -Int32.not_lt, -Int32.not_le, h1, h2, bZ, hL, rc_M_isStop, q_M_isStop_0, q_M_isStop_4, q_M_isStop_12, q_M_isStop_16, q_M_isStop_17]
theorem m_isLeg (hL : LM σ a) (x : Int32) : runc d 119 [.ref a, .int x] (put σ a μ) = some (some (.int (bZ (¬ x < 0 ∧ ¬ μ.1 7 ≤ x))), put σ a μ) := by
  by_cases h1 : x < 0 <;> by_cases h2 : μ.1 7 ≤ x <;> simp [psh_some, psh_none, -Int32.not_lt, -Int32.not_le, h1, h2, bZ, hL, rc_M_isLeg, q_M_isLeg_0, q_M_isLeg_4, q_M_isLeg_12, q_M_isLeg_16, q_M_isLeg_17]
theorem m_isBoat (hL : LM σ a) (x : Int32) : runc d 131 [.ref a, .int x] (put σ a μ) = some (some (.int (bZ (¬ x < 0 ∧ ¬ μ.1 16 ≤ x))), put σ a μ) := by
  by_cases h1 : x < 0 <;> by_cases h2 : μ.1 16 ≤ x <;> simp [psh_some, psh_none, -Int32.not_lt, -Int32.not_le, h1, h2, bZ, hL, rc_M_isBoat, q_M_isBoat_0, q_M_isBoat_4, q_M_isBoat_12, q_M_isBoat_16, q_M_isBoat_17]
theorem m_isBag (hL : LM σ a) (x : Int32) : runc d 173 [.ref a, .int x] (put σ a μ) = some (some (.int (bZ (¬ x < 0 ∧ ¬ μ.1 60 ≤ x))), put σ a μ) := by
  by_cases h1 : x < 0 <;> by_cases h2 : μ.1 60 ≤ x <;> simp [psh_some, psh_none, -Int32.not_lt, -Int32.not_le, h1, h2, bZ, hL, rc_M_isBag, q_M_isBag_0, q_M_isBag_4, q_M_isBag_12, q_M_isBag_16, q_M_isBag_17]
/-- a number that isn't one -/
theorem no_ix {x : Int32} {n : Nat} (h : x < 0 ∨ nI n ≤ x) : ¬ (¬ x < 0 ∧ ¬ nI n ≤ x) := by rintro ⟨h1, h2⟩; exact h.elim h1 h2
theorem is_ix {k n : Nat} (h : k < n) (hn : n ≤ 1000) : ¬ nI k < 0 ∧ ¬ nI n ≤ nI k := ⟨nI_pos (by omega), nI_ge h (by omega)⟩
theorem m_isMoored (hL : LM σ a) {k n : Nat} (hn : μ.1 16 = nI n) (hn6 : n ≤ 6) (hk : k < n) : runc (d + 1) 132 [.ref a, .int (nI k)] (put σ a μ) = some (some (.int (bZ (μ.2 24 k = 0))), put σ a μ) := by
  have h1 := is_ix hk (by omega)
  have h3 : ix (nI k) 6 = true := ix_of (by omega) (by omega)
  by_cases h2 : μ.2 24 k = 0 <;> simp [psh_some, psh_none, -Int32.not_lt, -Int32.not_le, h2, bZ, hL, rc_M_isMoored, q_M_isMoored_0, q_M_isMoored_5, q_M_isMoored_8, q_M_isMoored_17, q_M_isMoored_21, q_M_isMoored_22, m_isBoat, hn, h1, h3, cl6 (show k < 6 by omega)]
theorem m_isMoored_no (hL : LM σ a) {x : Int32} {n : Nat} (hn : μ.1 16 = nI n) (h : x < 0 ∨ nI n ≤ x) : runc (d + 1) 132 [.ref a, .int x] (put σ a μ) = some (some (.int 0), put σ a μ) := by
  have h1 := bZ_f (no_ix h)
  simp [psh_some, psh_none, -Int32.not_lt, -Int32.not_le, hL, rc_M_isMoored, q_M_isMoored_0, q_M_isMoored_5, q_M_isMoored_8, q_M_isMoored_17, q_M_isMoored_21, q_M_isMoored_22, m_isBoat, hn, h1]
/-- how many of the first n boats lie at a stop -/
def mo1 (μ : Ms) (s : Int32) (j : Nat) : Int32 := if μ.2 24 j = 0 ∧ μ.2 25 j = s then 1 else 0
theorem freeAt_lp (hL : LM σ a) {n : Nat} (hn : n ≤ 6) (hb : μ.1 16 = nI n) (s x : Int32) : ∀ k j : Nat, j + k = n → run d 133 9 [.ref a, .int s, .int (x - sm (mo1 μ s) j), .int (nI j)] [] (put σ a μ) = some (some (.int (x - sm (mo1 μ s) n)), put σ a μ) := by
  intro k
  induction k with
  | zero =>
    intro j hj
    have : j = n := by omega
    subst this
    simp [psh_some, psh_none, -Int32.not_lt, -Int32.not_le, rc_M_freeAt, q_M_freeAt_0, q_M_freeAt_9, q_M_freeAt_17, q_M_freeAt_27, q_M_freeAt_37, q_M_freeAt_41, q_M_freeAt_42, q_M_freeAt_50, hb, hL]
  | succ k ih =>
    intro j hj
    have h1 := ih (j + 1) (by omega)
    have h2 : ¬ nI n ≤ nI j := nI_ge (by omega) (by omega)
    have h3 : ix (nI j) 6 = true := ix_of (by omega) (by omega)
    have h4 : (nI j).toNatClampNeg = j := nI_clamp (by omega)
    rw [sm, nI_succ, mo1] at h1
    by_cases c1 : μ.2 24 j = 0 <;> by_cases c2 : μ.2 25 j = s <;> simp only [c1, c2, and_self, and_true, and_false, true_and, false_and, if_true, if_false, add_zero'] at h1 <;> simpa [psh_some, psh_none, -Int32.not_lt, -Int32.not_le, rc_M_freeAt, q_M_freeAt_0, q_M_freeAt_9, q_M_freeAt_17, q_M_freeAt_27, q_M_freeAt_37, q_M_freeAt_41, q_M_freeAt_42, q_M_freeAt_50, hb, hL, h2, h3, h4, c1, c2, sub_sub', sub_zero'] using h1
theorem m_freeAt (hL : LM σ a) {n s : Nat} (hn : n ≤ 6) (hb : μ.1 16 = nI n) (hs : s < 12) : runc d 133 [.ref a, .int (nI s)] (put σ a μ) = some (some (.int (μ.2 3 s - sm (mo1 μ (nI s)) n)), put σ a μ) := by
  have h := freeAt_lp d hL hn hb (nI s) (μ.2 3 s) n 0 (by omega)
  have h3 : ix (nI s) 12 = true := ix_of (by omega) (by omega)
  rw [rc_M_freeAt, q_M_freeAt_0 _ _ _ _ _ _ _ hL h3, cl12 hs]
  simpa [psh_some, psh_none, -Int32.not_lt, -Int32.not_le, sm, sub_zero', nI_0] using h
/-- the bag j is aboard of x -/
def onb (μ : Ms) (x : Int32) (j : Nat) : Prop := μ.2 64 j = 1 ∧ μ.2 66 j = x
def pd1 (μ : Ms) (x : Int32) (j : Nat) : Int32 := if μ.2 64 j = 1 ∧ μ.2 66 j = x then μ.2 62 j else 0
def bc1 (μ : Ms) (x : Int32) (j : Nat) : Int32 := if μ.2 64 j = 1 ∧ μ.2 66 j = x then 1 else 0
theorem pounds_lp (hL : LM σ a) {n : Nat} (hn : n ≤ 30) (hb : μ.1 60 = nI n) (s : Int32) : ∀ k j : Nat, j + k = n → run d 136 4 [.ref a, .int s, .int (sm (pd1 μ s) j), .int (nI j)] [] (put σ a μ) = some (some (.int (sm (pd1 μ s) n)), put σ a μ) := by
  intro k
  induction k with
  | zero =>
    intro j hj
    have : j = n := by omega
    subst this
    simp [psh_some, psh_none, -Int32.not_lt, -Int32.not_le, rc_M_pounds, q_M_pounds_0, q_M_pounds_4, q_M_pounds_12, q_M_pounds_23, q_M_pounds_33, q_M_pounds_42, q_M_pounds_43, q_M_pounds_51, hb, hL]
  | succ k ih =>
    intro j hj
    have h1 := ih (j + 1) (by omega)
    have h2 : ¬ nI n ≤ nI j := nI_ge (by omega) (by omega)
    have h3 : ix (nI j) 30 = true := ix_of (by omega) (by omega)
    have h4 : (nI j).toNatClampNeg = j := nI_clamp (by omega)
    rw [sm, nI_succ, pd1] at h1
    by_cases c1 : μ.2 64 j = 1 <;> by_cases c2 : μ.2 66 j = s <;> simp only [c1, c2, and_self, and_true, and_false, true_and, false_and, if_true, if_false, add_zero'] at h1 <;> simpa [psh_some, psh_none, -Int32.not_lt, -Int32.not_le, rc_M_pounds, q_M_pounds_0, q_M_pounds_4, q_M_pounds_12, q_M_pounds_23, q_M_pounds_33, q_M_pounds_42, q_M_pounds_43, q_M_pounds_51, hb, hL, h2, h3, h4, c1, c2, add_zero'] using h1
theorem m_pounds (hL : LM σ a) {n : Nat} (hn : n ≤ 30) (hb : μ.1 60 = nI n) (s : Int32) : runc d 136 [.ref a, .int s] (put σ a μ) = some (some (.int (sm (pd1 μ s) n)), put σ a μ) := by
  have h := pounds_lp d hL hn hb s n 0 (by omega)
  rw [rc_M_pounds, q_M_pounds_0 _ _ _ _ _ _ _ hL]
  simpa [psh_some, psh_none, -Int32.not_lt, -Int32.not_le, sm, nI_0] using h
/-- what the boat k weighs -/
def wgt (μ : Ms) (k : Nat) : Int32 := μ.2 17 k + 6 * μ.2 27 k + sm (pd1 μ (nI k)) (nG μ)
theorem m_weight (hL : LM σ a) (hC : Cn μ) {k : Nat} (hk : k < 6) : runc (d + 1) 137 [.ref a, .int (nI k)] (put σ a μ) = some (some (.int (wgt μ k)), put σ a μ) := by
  have h3 : ix (nI k) 6 = true := ix_of (by omega) (by omega)
  simp [psh_some, psh_none, -Int32.not_lt, -Int32.not_le, hL, rc_M_weight, q_M_weight_0, q_M_weight_21, m_pounds d hL hC.g.2 hC.g.1, h3, cl6 hk, wgt]
def lif (p s : Int32) : Int32 := if s ≤ 6 then p - p / 25 * (if s ≤ 2 then 2 - s else s - 2) else 0
theorem m_liftsFrom (hL : LM σ a) {k : Nat} (hk : k < 6) (s : Int32) : runc d 138 [.ref a, .int (nI k), .int s] (put σ a μ) = some (some (.int (lif (μ.2 18 k) s)), put σ a μ) := by
  have h3 : ix (nI k) 6 = true := ix_of (by omega) (by omega)
  by_cases c1 : s ≤ 6 <;> by_cases c2 : s ≤ 2 <;> simp [psh_some, psh_none, -Int32.not_lt, -Int32.not_le, hL, rc_M_liftsFrom, q_M_liftsFrom_0, q_M_liftsFrom_6, q_M_liftsFrom_8, q_M_liftsFrom_13, q_M_liftsFrom_19, q_M_liftsFrom_22, h3, cl6 hk, lif, c1, c2]
def gnd (s w : Int32) : Int32 := if 20 ≤ s + w then s + w else 20
theorem m_going (hL : LM σ a) {k l : Nat} (hk : k < 6) (hl : l < 30) (s w : Int32) : runc d 139 [.ref a, .int (nI k), .int (nI l), .int s, .int w] (put σ a μ) = some (some (.int (gnd (μ.2 19 k) (if μ.2 8 l = s then w else -w))), put σ a μ) := by
  have h3 : ix (nI k) 6 = true := ix_of (by omega) (by omega)
  have h4 : ix (nI l) 30 = true := ix_of (by omega) (by omega)
  by_cases c1 : μ.2 8 l = s
  · by_cases c2 : 20 ≤ μ.2 19 k + w <;> simp [psh_some, psh_none, -Int32.not_lt, -Int32.not_le, hL, rc_M_going, q_M_going_0, q_M_going_16, q_M_going_21, q_M_going_24, q_M_going_34, q_M_going_39, q_M_going_41, h3, h4, cl6 hk, cl30 hl, gnd, c1, c2]
  · by_cases c2 : 20 ≤ μ.2 19 k + -w <;> simp [psh_some, psh_none, -Int32.not_lt, -Int32.not_le, hL, rc_M_going, q_M_going_0, q_M_going_16, q_M_going_21, q_M_going_24, q_M_going_34, q_M_going_39, q_M_going_41, h3, h4, cl6 hk, cl30 hl, gnd, c1, c2]
theorem m_burns (hL : LM σ a) {k : Nat} (hk : k < 6) (m : Int32) : runc (d + 1) 140 [.ref a, .int (nI k), .int m] (put σ a μ) = some (some (.int (dvu (μ.2 20 k * m) 60)), put σ a μ) := by
  have h3 : ix (nI k) 6 = true := ix_of (by omega) (by omega)
  simp [psh_some, psh_none, -Int32.not_lt, -Int32.not_le, hL, rc_M_burns, q_M_burns_0, q_M_burns_13, m_up60, h3, cl6 hk]
def bsB (μ : Ms) (j : Nat) : Option Nat → Bool
  | none => true
  | some f => !decide (μ.2 14 j < μ.2 14 f)
/-- the fact that counts of a stop or leg for a time, of the first n -/
def bs (μ : Ms) (w o t : Int32) : Nat → Option Nat
  | 0 => none
  | j + 1 => if μ.2 12 j = w ∧ μ.2 13 j = o ∧ μ.2 14 j ≤ t ∧ bsB μ j (bs μ w o t j) = true then some j else bs μ w o t j
def oI : Option Nat → Int32
  | none => -1
  | some f => nI f
theorem bs_lt {w o t : Int32} : ∀ {j f : Nat}, bs μ w o t j = some f → f < j := by
  intro j
  induction j with
  | zero => intro f h; cases h
  | succ j ih =>
    intro f h
    rw [bs] at h
    split at h
    · cases h; omega
    · have := ih h; omega
theorem nI_nm1 {f : Nat} (h : f ≤ 1000) : ¬ nI f = -1 := by
  intro e
  have := nI_pos' (n := f) (by omega)
  rw [e] at this
  exact absurd this (by decide)
theorem asKnown_lp (hL : LM σ a) {n : Nat} (hn : n ≤ 160) (w o t x : Int32) : ∀ k j : Nat, j + k = n → run d 126 6 [.ref a, .int w, .int o, .int t, .int (nI n), .int x, .int (oI (bs μ w o t j)), .int (nI j)] [] (put σ a μ) = some (some (.int (match bs μ w o t n with | none => x | some f => μ.2 15 f)), put σ a μ) := by
  intro k
  induction k with
  | zero =>
    intro j hj
    have : j = n := by omega
    subst this
    cases hb : bs μ w o t j with
    | none => simp [psh_some, psh_none, -Int32.not_lt, -Int32.not_le, rc_M_asKnown, q_M_asKnown_0, q_M_asKnown_6, q_M_asKnown_13, q_M_asKnown_24, q_M_asKnown_35, q_M_asKnown_46, q_M_asKnown_49, q_M_asKnown_55, q_M_asKnown_72, q_M_asKnown_76, q_M_asKnown_82, q_M_asKnown_88, q_M_asKnown_93, q_M_asKnown_100, hL, oI]
    | some f =>
      have h1 := bs_lt hb
      have h2 : ix (nI f) 160 = true := ix_of (by omega) (by omega)
      simp [psh_some, psh_none, -Int32.not_lt, -Int32.not_le, rc_M_asKnown, q_M_asKnown_0, q_M_asKnown_6, q_M_asKnown_13, q_M_asKnown_24, q_M_asKnown_35, q_M_asKnown_46, q_M_asKnown_49, q_M_asKnown_55, q_M_asKnown_72, q_M_asKnown_76, q_M_asKnown_82, q_M_asKnown_88, q_M_asKnown_93, q_M_asKnown_100, hL, oI, nI_nm1 (show f ≤ 1000 by omega), h2, cl1000 (show f < 1000 by omega)]
  | succ k ih =>
    intro j hj
    have h1 := ih (j + 1) (by omega)
    have h2 : ¬ nI n ≤ nI j := nI_ge (by omega) (by omega)
    have h3 : ix (nI j) 160 = true := ix_of (by omega) (by omega)
    have h4 : (nI j).toNatClampNeg = j := nI_clamp (by omega)
    rw [bs, nI_succ] at h1
    by_cases c1 : μ.2 12 j = w
    · by_cases c2 : μ.2 13 j = o
      · by_cases c3 : μ.2 14 j ≤ t
        · cases hb : bs μ w o t j with
          | none => simpa [psh_some, psh_none, -Int32.not_lt, -Int32.not_le, rc_M_asKnown, q_M_asKnown_0, q_M_asKnown_6, q_M_asKnown_13, q_M_asKnown_24, q_M_asKnown_35, q_M_asKnown_46, q_M_asKnown_49, q_M_asKnown_55, q_M_asKnown_72, q_M_asKnown_76, q_M_asKnown_82, q_M_asKnown_88, q_M_asKnown_93, q_M_asKnown_100, hL, h2, h3, h4, c1, c2, c3, hb, oI, bsB] using h1
          | some f =>
            have h5 := bs_lt hb
            have h6 : ix (nI f) 160 = true := ix_of (by omega) (by omega)
            by_cases c4 : μ.2 14 j < μ.2 14 f
            · rw [if_neg (by simp [psh_some, psh_none, -Int32.not_lt, -Int32.not_le, hb, c4, bsB])] at h1
              simpa [psh_some, psh_none, -Int32.not_lt, -Int32.not_le, rc_M_asKnown, q_M_asKnown_0, q_M_asKnown_6, q_M_asKnown_13, q_M_asKnown_24, q_M_asKnown_35, q_M_asKnown_46, q_M_asKnown_49, q_M_asKnown_55, q_M_asKnown_72, q_M_asKnown_76, q_M_asKnown_82, q_M_asKnown_88, q_M_asKnown_93, q_M_asKnown_100, hL, h2, h3, h4, c1, c2, c3, c4, hb, oI, h6, nI_nm1 (show f ≤ 1000 by omega), cl1000 (show f < 1000 by omega)] using h1
            · rw [if_pos (by simp [psh_some, psh_none, -Int32.not_lt, -Int32.not_le, hb, bsB, c4, c1, c2, c3])] at h1
              simpa [psh_some, psh_none, -Int32.not_lt, -Int32.not_le, rc_M_asKnown, q_M_asKnown_0, q_M_asKnown_6, q_M_asKnown_13, q_M_asKnown_24, q_M_asKnown_35, q_M_asKnown_46, q_M_asKnown_49, q_M_asKnown_55, q_M_asKnown_72, q_M_asKnown_76, q_M_asKnown_82, q_M_asKnown_88, q_M_asKnown_93, q_M_asKnown_100, hL, h2, h3, h4, c1, c2, c3, c4, hb, oI, h6, nI_nm1 (show f ≤ 1000 by omega), cl1000 (show f < 1000 by omega)] using h1
        · simpa [psh_some, psh_none, -Int32.not_lt, -Int32.not_le, rc_M_asKnown, q_M_asKnown_0, q_M_asKnown_6, q_M_asKnown_13, q_M_asKnown_24, q_M_asKnown_35, q_M_asKnown_46, q_M_asKnown_49, q_M_asKnown_55, q_M_asKnown_72, q_M_asKnown_76, q_M_asKnown_82, q_M_asKnown_88, q_M_asKnown_93, q_M_asKnown_100, hL, h2, h3, h4, c1, c2, c3] using h1
      · simpa [psh_some, psh_none, -Int32.not_lt, -Int32.not_le, rc_M_asKnown, q_M_asKnown_0, q_M_asKnown_6, q_M_asKnown_13, q_M_asKnown_24, q_M_asKnown_35, q_M_asKnown_46, q_M_asKnown_49, q_M_asKnown_55, q_M_asKnown_72, q_M_asKnown_76, q_M_asKnown_82, q_M_asKnown_88, q_M_asKnown_93, q_M_asKnown_100, hL, h2, h3, h4, c1, c2] using h1
    · simpa [psh_some, psh_none, -Int32.not_lt, -Int32.not_le, rc_M_asKnown, q_M_asKnown_0, q_M_asKnown_6, q_M_asKnown_13, q_M_asKnown_24, q_M_asKnown_35, q_M_asKnown_46, q_M_asKnown_49, q_M_asKnown_55, q_M_asKnown_72, q_M_asKnown_76, q_M_asKnown_82, q_M_asKnown_88, q_M_asKnown_93, q_M_asKnown_100, hL, h2, h3, h4, c1] using h1
def kno (μ : Ms) (w o t : Int32) (n : Nat) (x : Int32) : Int32 := match bs μ w o t n with
  | none => x
  | some f => μ.2 15 f
theorem m_asKnown (hL : LM σ a) {n : Nat} (hn : n ≤ 160) (w o t x : Int32) : runc d 126 [.ref a, .int w, .int o, .int t, .int (nI n), .int x] (put σ a μ) = some (some (.int (kno μ w o t n x)), put σ a μ) := by
  have h := asKnown_lp (μ := μ) d hL hn w o t x n 0 (by omega)
  rw [rc_M_asKnown, q_M_asKnown_0 _ _ _ _ _ _ _ _ _ _ _ hL]
  simpa [psh_some, psh_none, -Int32.not_lt, -Int32.not_le, bs, oI, nI_0, kno] using h
theorem m_swellAt (hL : LM σ a) {n : Nat} (hn : n ≤ 160) (s h : Int32) : runc (d + 1) 127 [.ref a, .int s, .int h, .int (nI n)] (put σ a μ) = some (some (.int (kno μ 0 s h n 3)), put σ a μ) := by
  simp [psh_some, psh_none, -Int32.not_lt, -Int32.not_le, hL, rc_M_swellAt, q_M_swellAt_0, q_M_swellAt_9, m_asKnown d hL hn]
theorem m_windAt (hL : LM σ a) {n : Nat} (hn : n ≤ 160) (l h : Int32) : runc (d + 1) 128 [.ref a, .int l, .int h, .int (nI n)] (put σ a μ) = some (some (.int (kno μ 1 l h n 0)), put σ a μ) := by
  simp [psh_some, psh_none, -Int32.not_lt, -Int32.not_le, hL, rc_M_windAt, q_M_windAt_0, q_M_windAt_9, m_asKnown d hL hn]
end R1
