/-! ===== NUMBERS AND STATES ===== -/
theorem ix_of {k n : Nat} (h : k < n) (hn : n ≤ 1000) : ix (nI k) n = true := by
  have h1 : k < 2 ^ 31 := by omega
  simp [ix, nI_pos' h1, nI_clamp h1, h]
def bZ (p : Prop) [Decidable p] : Int32 := if p then 1 else 0
theorem bZ_0 (p : Prop) [Decidable p] : (bZ p = 0) = ¬ p := by by_cases h : p <;> simp [bZ, h]
theorem bZ_1 (p : Prop) [Decidable p] : (bZ p = 1) = p := by by_cases h : p <;> simp [bZ, h]
theorem bZ_or (p : Prop) [Decidable p] : bZ p = 0 ∨ bZ p = 1 := by by_cases h : p <;> simp [bZ, h]
theorem bZ_t {p : Prop} [Decidable p] (h : p) : bZ p = 1 := if_pos h
theorem bZ_f {p : Prop} [Decidable p] (h : ¬ p) : bZ p = 0 := if_neg h
theorem fF_1 (μ : Ms) (f : Nat) (v : Int32) (g : Nat) : (fF μ f v).1 g = if g = f then v else μ.1 g := rfl
theorem fF_2 (μ : Ms) (f : Nat) (v : Int32) : (fF μ f v).2 = μ.2 := rfl
theorem fA_1 (μ : Ms) (f i : Nat) (v : Int32) : (fA μ f i v).1 = μ.1 := rfl
theorem fA_2 (μ : Ms) (f i : Nat) (v : Int32) (g j : Nat) : (fA μ f i v).2 g j = if g = f ∧ j = i then v else μ.2 g j := rfl
theorem fA_2n (μ : Ms) {f i : Nat} {v : Int32} {g : Nat} (h : g ≠ f) : (fA μ f i v).2 g = μ.2 g := by
  funext j; simp [fA, h]
theorem nN {x : Int32} {n : Nat} (h0 : 0 ≤ x) (h1 : x < nI n) (hn : n ≤ 1000) : ∃ k : Nat, k < n ∧ x = nI k := by
  obtain ⟨j, hj, rfl⟩ := nI_of (by simpa using h0)
  exact ⟨j, (nI_ltI hj (by omega)).mp h1, rfl⟩
theorem cl_nI {k : Nat} (h : k ≤ 1000000) : (nI k).toNatClampNeg = k := nI_clamp (by omega)
theorem lt_nI {a b : Nat} (ha : a ≤ 1000000) (hb : b ≤ 1000000) : (nI a < nI b) = (a < b) := propext (nI_ltI (by omega) (by omega))
theorem le_nI {a b : Nat} (ha : a ≤ 1000000) (hb : b ≤ 1000000) : (nI a ≤ nI b) = (a ≤ b) := propext (nI_leI (by omega) (by omega))
theorem eq_nI {a b : Nat} (ha : a ≤ 1000000) (hb : b ≤ 1000000) : (nI a = nI b) = (a = b) := propext (nI_eq (by omega) (by omega))
theorem nI_lit0 : (0 : Int32) = nI 0 := rfl
theorem nIx (x : Int32) {n : Nat} (hn : n ≤ 1000) : (∃ k : Nat, k < n ∧ x = nI k) ∨ (x < 0 ∨ nI n ≤ x) := by
  rcases pk_ix x (n := n) (by omega) with h | h | h
  · exact Or.inr (Or.inl h)
  · exact Or.inr (Or.inr h)
  · exact Or.inl h
/-- a sum -/
def sm (f : Nat → Int32) : Nat → Int32
  | 0 => 0
  | n + 1 => sm f n + f n
theorem sm_congr {f g : Nat → Int32} {n : Nat} (h : ∀ k, k < n → f k = g k) : sm f n = sm g n := by
  induction n with
  | zero => rfl
  | succ n ih => rw [sm, sm, ih (fun k hk => h k (by omega)), h n (by omega)]
/-- the first place, from l on, of k, at which P -/
def ff (P : Nat → Prop) [DecidablePred P] : Nat → Nat → Int32
  | 0, _ => -1
  | k + 1, l => if P l then nI l else ff P k (l + 1)
theorem ff_congr {P Q : Nat → Prop} [DecidablePred P] [DecidablePred Q] : ∀ (k l : Nat), (∀ j, l ≤ j → j < l + k → (P j ↔ Q j)) → ff P k l = ff Q k l := by
  intro k
  induction k with
  | zero => intro l _; rfl
  | succ k ih =>
    intro l h
    rw [ff, ff, ih (l + 1) (fun j h1 h2 => h j (by omega) (by omega))]
    have := h l (by omega) (by omega)
    by_cases hp : P l
    · rw [if_pos hp, if_pos (this.mp hp)]
    · rw [if_neg hp, if_neg (fun z => hp (this.mpr z))]
theorem sub_sub' (x y z : Int32) : x - y - z = x - (y + z) := by grind
theorem sub_zero' (x : Int32) : x - 0 = x := by grind
theorem add_zero' (x : Int32) : x + 0 = x := by grind
/-- counts of the reference's state -/
def nS (μ : Ms) : Nat := (μ.1 2).toNatClampNeg
def nL (μ : Ms) : Nat := (μ.1 7).toNatClampNeg
def nF (μ : Ms) : Nat := (μ.1 11).toNatClampNeg
def nB (μ : Ms) : Nat := (μ.1 16).toNatClampNeg
def nG (μ : Ms) : Nat := (μ.1 60).toNatClampNeg
def nK (μ : Ms) : Nat := (μ.1 56).toNatClampNeg
def nT (μ : Ms) : Nat := (μ.1 40).toNatClampNeg
def nR (μ : Ms) : Nat := (μ.1 41).toNatClampNeg
def nW (μ : Ms) : Nat := (μ.1 1).toNatClampNeg
def Cn (μ : Ms) : Prop := (μ.1 2 = nI (nS μ) ∧ nS μ ≤ 12) ∧ (μ.1 7 = nI (nL μ) ∧ nL μ ≤ 30) ∧ (μ.1 11 = nI (nF μ) ∧ nF μ ≤ 160) ∧ (μ.1 16 = nI (nB μ) ∧ nB μ ≤ 6) ∧ (μ.1 60 = nI (nG μ) ∧ nG μ ≤ 30) ∧ (μ.1 56 = nI (nK μ) ∧ nK μ ≤ 200) ∧ (μ.1 40 = nI (nT μ) ∧ nT μ ≤ 300) ∧ (μ.1 41 = nI (nR μ) ∧ nR μ ≤ 16) ∧ (μ.1 1 = nI (nW μ) ∧ nW μ ≤ 143999)
theorem Cn.s {μ : Ms} (h : Cn μ) : μ.1 2 = nI (nS μ) ∧ nS μ ≤ 12 := h.1
theorem Cn.l {μ : Ms} (h : Cn μ) : μ.1 7 = nI (nL μ) ∧ nL μ ≤ 30 := h.2.1
theorem Cn.f {μ : Ms} (h : Cn μ) : μ.1 11 = nI (nF μ) ∧ nF μ ≤ 160 := h.2.2.1
theorem Cn.b {μ : Ms} (h : Cn μ) : μ.1 16 = nI (nB μ) ∧ nB μ ≤ 6 := h.2.2.2.1
theorem Cn.g {μ : Ms} (h : Cn μ) : μ.1 60 = nI (nG μ) ∧ nG μ ≤ 30 := h.2.2.2.2.1
theorem Cn.k {μ : Ms} (h : Cn μ) : μ.1 56 = nI (nK μ) ∧ nK μ ≤ 200 := h.2.2.2.2.2.1
theorem Cn.t {μ : Ms} (h : Cn μ) : μ.1 40 = nI (nT μ) ∧ nT μ ≤ 300 := h.2.2.2.2.2.2.1
theorem Cn.r {μ : Ms} (h : Cn μ) : μ.1 41 = nI (nR μ) ∧ nR μ ≤ 16 := h.2.2.2.2.2.2.2.1
theorem Cn.w {μ : Ms} (h : Cn μ) : μ.1 1 = nI (nW μ) ∧ nW μ ≤ 143999 := h.2.2.2.2.2.2.2.2
theorem cl6 {k : Nat} (h : k < 6) : (nI k).toNatClampNeg = k := nI_clamp (by omega)
theorem cl12 {k : Nat} (h : k < 12) : (nI k).toNatClampNeg = k := nI_clamp (by omega)
theorem cl30 {k : Nat} (h : k < 30) : (nI k).toNatClampNeg = k := nI_clamp (by omega)
theorem cl1000 {k : Nat} (h : k < 1000) : (nI k).toNatClampNeg = k := nI_clamp (by omega)
theorem isR_r (a : Nat) : isR (.ref a) = true := by unfold isR; simp
theorem isR_n : isR .null = true := by unfold isR; simp
theorem isA_r (a : Nat) : isA (.ref a) = true := by unfold isA; simp
theorem isI_i (x : Int32) : isI (.int x) = true := by unfold isI; simp
theorem isI_r (a : Nat) : isI (.ref a) = false := by unfold isI; simp
theorem isR_i (x : Int32) : isR (.int x) = false := by unfold isR; simp
