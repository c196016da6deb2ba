/-! ===== NUMBERS OF A FLIGHT ===== -/
section A43
variable {σ : Mm} {c : Nat} {E S L B G H Q : Nat → Nat} {Z : Nat → List Nat} {w : Bool} {μ : Ms} (d : Nat)
theorem sm_upd {f f' : Nat → Int32} {k n : Nat} (hk : k < n) (h : ∀ j, j ≠ k → f' j = f j) : sm f' n = sm f n - f k + f' k := by
  induction n with
  | zero => omega
  | succ n ih =>
    rw [sm, sm]
    by_cases e : k = n
    · subst e
      rw [sm_congr (f := f') (g := f) (fun j hj => h j (by omega))]
      grind
    · rw [ih (by omega), h n (fun z => e z.symm)]
      grind
/-- a wind -/
def wdR (x : Int32) : Prop := ∃ v : Nat, v ≤ 120 ∧ x = nI v - 60
theorem wdR_neg {x : Int32} (h : wdR x) : wdR (-x) := by
  obtain ⟨v, hv, rfl⟩ := h
  refine ⟨120 - v, by omega, ?_⟩
  have : nI (120 - v) = 120 - nI v := by rw [← pk_sub hv]; rfl
  rw [this]
  grind
theorem kno_wd (hW : WF μ) {n : Nat} (hn : n ≤ nF μ) (o t : Int32) : wdR (kno μ 1 o t n 0) := by
  unfold kno
  cases hb : bs μ 1 o t n with
  | none => exact show wdR 0 from ⟨60, by omega, by decide⟩
  | some f =>
    have h := (bs_spec (μ := μ) 1 o t n).2 f hb
    obtain ⟨_, h2⟩ := hW f (by omega)
    rcases h2 with ⟨h3, _⟩ | ⟨_, _, v, h4, h5⟩
    · have := h.2.1.1
      rw [h3] at this
      exact absurd this (by decide)
    · exact ⟨v, h4, h5⟩
theorem kno_sw (hW : WF μ) {n : Nat} (hn : n ≤ nF μ) (o t : Int32) : ∃ v, v ≤ 9 ∧ kno μ 0 o t n 3 = nI v := by
  unfold kno
  cases hb : bs μ 0 o t n with
  | none => exact ⟨3, by omega, rfl⟩
  | some f =>
    have h := (bs_spec (μ := μ) 0 o t n).2 f hb
    obtain ⟨_, h2⟩ := hW f (by omega)
    rcases h2 with ⟨_, _, v, h4, h5⟩ | ⟨h3, _⟩
    · exact ⟨v, h4, h5⟩
    · have := h.2.1.1
      rw [h3] at this
      exact absurd this (by decide)
theorem wdN_wd (hW : WF μ) (l s : Nat) : wdR (wdN μ l s) := by
  unfold wdN
  split
  · exact kno_wd hW (Nat.le_refl _) _ _
  · exact wdR_neg (kno_wd hW (Nat.le_refl _) _ _)
theorem gnd_N {s : Nat} {x : Int32} (h1 : 60 ≤ s) (h2 : s ≤ 200) (h : wdR x) : ∃ g, 20 ≤ g ∧ g ≤ 260 ∧ gnd (nI s) x = nI g := by
  obtain ⟨v, hv, rfl⟩ := h
  have e : nI s + (nI v - 60) = nI (s + v - 60) := by
    have : nI (s + v - 60) = nI (s + v) - nI 60 := (pk_sub (by omega)).symm
    rw [this, ← nI_add, show nI 60 = (60 : Int32) from rfl]
    grind
  unfold gnd
  rw [e, show (20 : Int32) = nI 20 from rfl]
  by_cases z : 20 ≤ s + v - 60
  · rw [if_pos (nI_le (a := 20) z (by omega))]
    exact ⟨s + v - 60, z, by omega, rfl⟩
  · rw [if_neg (nI_ge (a := s + v - 60) (b := 20) (by omega) (by omega))]
    exact ⟨20, by omega, by omega, rfl⟩
theorem dvu_N {x y : Nat} (hx : x ≤ 1000000) (hy : 1 ≤ y) (hy2 : y ≤ 1000000) : dvu (nI x) (nI y) = nI ((x + y - 1) / y) := by
  unfold dvu
  rw [nI_add, show (1 : Int32) = nI 1 from rfl, pk_sub (by omega), pk_div (by omega) (by omega) (by omega)]
/-- minutes of the leg l at a ground speed -/
theorem mins_N {m g : Nat} (h1 : 20 ≤ m) (h2 : m ≤ 900) (h3 : 20 ≤ g) (h4 : g ≤ 260) : ∃ q, 1 ≤ q ∧ q ≤ 2700 ∧ dvu (nI m * 60) (nI g) = nI q := by
  rw [show (60 : Int32) = nI 60 from rfl, pk_mul, dvu_N (by omega) (by omega) (by omega)]
  refine ⟨(m * 60 + g - 1) / g, ?_, ?_, rfl⟩
  · exact (Nat.le_div_iff_mul_le (by omega)).mpr (by omega)
  · have : (m * 60 + g - 1) / g < 2701 := (Nat.div_lt_iff_lt_mul (by omega)).mpr (by have := Nat.mul_le_mul_left 2701 h3; omega)
    omega
theorem mul60 (x : Int32) : 60 * x = x * 60 := by grind
theorem rsl_pos {n : Nat} (hn : n ≤ 143999) (e : Int32) : (0 < rsl (nI n) e) = (nI n < e) := by
  unfold rsl
  by_cases h : nI n < e
  · rw [if_pos h]
    simp only [h, eq_iff_iff, iff_true]
    have h1 := h
    rw [Int32.lt_iff_toInt_lt, nI_toInt (by omega)] at h1
    rw [Int32.lt_iff_toInt_lt, Int32.toInt_sub_of_le e (nI n) (nI_pos' (by omega)) (Int32.le_of_lt h), nI_toInt (by omega)]
    show (0 : Int) < _
    omega
  · rw [if_neg h]
    simp only [h, eq_iff_iff, iff_false]
    decide
end A43
