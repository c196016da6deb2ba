/-! ===== WHAT THE CLASS's MEMORY SAYS OF THE REFERENCE's STATE ===== -/
section R35
/-- the list's empty row is an old cell -/
def Ez (σ : Mm) : Prop := ∃ z, mP σ 19 0 100 = some z ∧ mK σ z = 0 ∧ z < mX σ
def Lst (σ : Mm) (l e n : Nat) (g : Nat → Nat) : Prop := mK σ l = 1 ∧ mI σ 1 l 2 = nI n ∧ ((n = 0 ∧ mP σ 1 l 1 = mP σ 19 0 100) ∨ (mP σ 1 l 1 = some e ∧ mK σ e = 1003 ∧ n ≤ mN σ e ∧ 10 ≤ mN σ e ∧ mN σ e ≤ 60 ∧ ∀ k, k < n → mP σ 1003 e k = some (g k)))
def RX (σ : Mm) (c : Nat) (E S L B G : Nat → Nat) (μ : Ms) : Prop := Lst σ (c + 1) (E 0) (nS μ) S ∧ Lst σ (c + 2) (E 1) (nL μ) L ∧ Lst σ (c + 3) (E 2) (nB μ) B ∧ Lst σ (c + 4) (E 3) (nG μ) G ∧ (∀ i j, i < 4 → j < 4 → E i = E j → i = j) ∧ ∀ i, i < 4 → E i < mX σ
def RS (σ : Mm) (S : Nat → Nat) (μ : Ms) : Prop := ∀ k, k < nS μ → mK σ (S k) = 10 ∧ mI σ 10 (S k) 0 = nI k ∧ mI σ 10 (S k) 1 = μ.2 3 k ∧ mI σ 10 (S k) 2 = μ.2 4 k ∧ mI σ 10 (S k) 3 = μ.2 5 k ∧ mI σ 10 (S k) 4 = μ.2 6 k ∧ mI σ 10 (S k) 5 = sm (mo1 μ (nI k)) (nB μ)
def lA (μ : Ms) (l : Nat) : Nat := (μ.2 8 l).toNatClampNeg
def lB (μ : Ms) (l : Nat) : Nat := (μ.2 9 l).toNatClampNeg
def RLg (σ : Mm) (S L : Nat → Nat) (μ : Ms) : Prop := ∀ l, l < nL μ → mK σ (L l) = 6 ∧ mI σ 6 (L l) 0 = nI l ∧ mP σ 6 (L l) 1 = some (S (lA μ l)) ∧ mP σ 6 (L l) 2 = some (S (lB μ l)) ∧ mI σ 6 (L l) 3 = μ.2 10 l
def aT (μ : Ms) (k : Nat) : Nat := (μ.2 25 k).toNatClampNeg
def wH (μ : Ms) (k : Nat) : Nat := (μ.2 26 k).toNatClampNeg
def rsl (w e : Int32) : Int32 := if w < e then e - w else 0
def btI (x : Int32) (i : Nat) : Bool := x.toBitVec.getLsbD i
/-- the boat k's cargo, as bits -/
def Cg (x : Int32) (μ : Ms) (k : Nat) : Prop := ∀ j, btI x j = decide (j < nG μ ∧ μ.2 64 j = 1 ∧ μ.2 66 j = nI k)
/-- a hull at h is that of the boat k -/
def RH (σ : Mm) (h : Nat) (μ : Ms) (k : Nat) : Prop := mK σ h = 5 ∧ mI σ 5 h 0 = μ.2 17 k ∧ mI σ 5 h 1 = μ.2 18 k ∧ mI σ 5 h 2 = μ.2 19 k ∧ mI σ 5 h 3 = μ.2 20 k ∧ mI σ 5 h 4 = μ.2 21 k ∧ mI σ 5 h 5 = μ.2 22 k ∧ mI σ 5 h 6 = μ.2 23 k
/-- a boat at b is the boat k -/
def RB1 (σ : Mm) (S : Nat → Nat) (b h : Nat) (μ : Ms) (k : Nat) : Prop := mK σ b = 3 ∧ mI σ 3 b 0 = nI k ∧ mP σ 3 b 1 = some h ∧ mI σ 3 b 2 = μ.2 24 k ∧ mP σ 3 b 3 = some (S (aT μ k)) ∧ (μ.2 24 k = 1 → μ.2 32 k = 0 → mP σ 3 b 4 = some (S (wH μ k))) ∧ mI σ 3 b 5 = μ.2 27 k ∧ mI σ 3 b 8 = μ.2 28 k ∧ mI σ 3 b 9 = μ.2 29 k ∧ mI σ 3 b 11 = μ.2 31 k ∧ mI σ 3 b 12 = μ.2 33 k ∧ mI σ 3 b 13 = μ.2 34 k ∧ mI σ 3 b 14 = μ.2 35 k ∧ mI σ 3 b 15 = μ.2 36 k ∧ mI σ 3 b 16 = μ.2 32 k ∧ μ.2 30 k = rsl (μ.1 1) (mI σ 3 b 10)
def RB (σ : Mm) (S B H : Nat → Nat) (μ : Ms) : Prop := ∀ k, k < nB μ → RB1 σ S (B k) (H k) μ k ∧ RH σ (H k) μ k
/-- cargo and pounds of the boats -/
def RP (σ : Mm) (B : Nat → Nat) (μ : Ms) : Prop := ∀ k, k < nB μ → Cg (mI σ 3 (B k) 6) μ k ∧ mI σ 3 (B k) 7 = sm (pd1 μ (nI k)) (nG μ)
def gT (μ : Ms) (g : Nat) : Nat := (μ.2 61 g).toNatClampNeg
def gA (μ : Ms) (g : Nat) : Nat := (μ.2 65 g).toNatClampNeg
def RG1 (σ : Mm) (S : Nat → Nat) (b q : Nat) (μ : Ms) (g : Nat) : Prop := mK σ b = 2 ∧ mP σ 2 b 0 = some (S (gT μ g)) ∧ mI σ 2 b 1 = μ.2 62 g ∧ mI σ 2 b 2 = μ.2 63 g ∧ mP σ 2 b 3 = some q ∧ mI σ 2 b 4 = μ.2 64 g ∧ mP σ 2 b 5 = some (S (gA μ g)) ∧ (μ.2 64 g = 1 → mI σ 2 b 6 = μ.2 66 g) ∧ (μ.2 64 g = 2 → mI σ 2 b 7 = μ.2 67 g)
def RQ1 (σ : Mm) (q : Nat) (μ : Ms) (g : Nat) : Prop := mK σ q = 20 ∧ mN σ q = 7 ∧ ∀ y, y < 7 → mI σ 20 q y = μ.2 68 (7 * g + y)
def RG (σ : Mm) (S G Q : Nat → Nat) (μ : Ms) : Prop := (∀ g, g < nG μ → RG1 σ S (G g) (Q g) μ g ∧ RQ1 σ (Q g) μ g) ∧ (∀ g g', g < nG μ → g' < nG μ → G g = G g' → g = g') ∧ (∀ g g', g < nG μ → g' < nG μ → Q g = Q g' → g = g')
/-- facts: those of one stop or leg hang together -/
def sbj (μ : Ms) (f : Nat) : Nat := if μ.2 12 f = 0 then (μ.2 13 f).toNatClampNeg else 12 + (μ.2 13 f).toNatClampNeg
def lkd (fo : Nat → Int32) : Int32 → List Nat → Prop
  | h, [] => h = -1
  | h, f :: r => h = nI f ∧ lkd fo (fo f) r
def bef (μ : Ms) (f g : Nat) : Prop := μ.2 14 g < μ.2 14 f ∨ (μ.2 14 g = μ.2 14 f ∧ g < f)
def RF (σ : Mm) (c : Nat) (Z : Nat → List Nat) (μ : Ms) : Prop := mI σ 4 (c + 5) 4 = μ.1 11 ∧ (∀ f, f < nF μ → mI σ 25 (c + 6) f = μ.2 14 f ∧ mI σ 30 (c + 7) f = μ.2 15 f) ∧ (∀ s, s < 42 → lkd (mI σ 35 (c + 8)) (mI σ 40 (c + 9) s) (Z s)) ∧ (∀ s, s < 42 → ∀ f, f ∈ Z s ↔ f < nF μ ∧ sbj μ f = s) ∧ ∀ s, s < 42 → (Z s).Pairwise (bef μ)
def RT (σ : Mm) (c : Nat) (μ : Ms) : Prop := mI σ 11 (c + 10) 1 = μ.1 40 ∧ ∀ i, mI σ 107 (c + 11) i = μ.2 39 i
def RK (σ : Mm) (c : Nat) (μ : Ms) : Prop := mI σ 7 (c + 12) 3 = μ.1 56 ∧ ∀ l, l < nK μ → mI σ 45 (c + 13) l = μ.2 57 l ∧ mI σ 50 (c + 14) l = μ.2 58 l ∧ mI σ 55 (c + 15) l = μ.2 59 l
/-- the rules in force lie at r -/
def RR1 (σ : Mm) (r : Nat) (μ : Ms) : Prop := mI σ 9 r 7 = μ.1 41 ∧ (∀ l, l < nR μ → mI σ 71 (r + 1) l = μ.2 42 l ∧ mI σ 75 (r + 2) l = μ.2 43 l ∧ mI σ 80 (r + 3) l = μ.2 44 l) ∧ ∀ l t, l < nR μ → t < tm μ l → mI σ 86 (r + 4) (6 * l + t) = μ.2 45 (24 * l + 4 * t) ∧ mI σ 90 (r + 5) (6 * l + t) = μ.2 45 (24 * l + 4 * t + 1) ∧ mI σ 95 (r + 6) (6 * l + t) = μ.2 45 (24 * l + 4 * t + 2) ∧ mI σ 100 (r + 7) (6 * l + t) = μ.2 45 (24 * l + 4 * t + 3)
def RR (σ : Mm) (c : Nat) (w : Bool) (μ : Ms) : Prop := mP σ 12 c 8 = some (c + if w then 25 else 17) ∧ mP σ 12 c 9 = some (c + if w then 17 else 25) ∧ RR1 σ (c + if w then 25 else 17) μ
def dl1 (μ : Ms) (g : Nat) : Int32 := if μ.2 64 g = 2 then 1 else 0
def RN (σ : Mm) (c : Nat) (μ : Ms) : Prop := mI σ 12 c 10 = μ.1 1 ∧ mI σ 12 c 11 = μ.1 37 ∧ mI σ 12 c 12 = μ.1 38 ∧ mI σ 12 c 13 = sm (dl1 μ) (nG μ)
/-- all of it -/
def RC (σ : Mm) (c : Nat) (E S L B G H Q : Nat → Nat) (Z : Nat → List Nat) (w : Bool) (μ : Ms) : Prop := FL σ c ∧ Ez σ ∧ RX σ c E S L B G μ ∧ RS σ S μ ∧ RLg σ S L μ ∧ RB σ S B H μ ∧ RP σ B μ ∧ RG σ S G Q μ ∧ RF σ c Z μ ∧ RT σ c μ ∧ RK σ c μ ∧ RR σ c w μ ∧ RN σ c μ
/-! each of them holds in a memory that is the same but for other kinds -/
variable {T : Nat → Bool} {σ σ' : Mm} {c l e n b h k g q r : Nat} {E S L B G H Q : Nat → Nat} {Z : Nat → List Nat} {w : Bool} {μ μ' : Ms}
theorem Ez.fr (hz : Ez σ) (hs : Sm T σ σ') (h19 : T 19 = false) : Ez σ' := by
  obtain ⟨z, h1, h2, h3⟩ := hz
  exact ⟨z, (hs.P h19 (by omega) _).trans h1, (hs.K h3).trans h2, Nat.lt_of_lt_of_le h3 hs.X⟩
theorem Lst.fr {g : Nat → Nat} (h : Lst σ l e n g) (hz : Ez σ) (hX : Kx σ) (hs : Sm T σ σ') (h1 : T 1 = false) (h3 : T 1003 = false) (h19 : T 19 = false) : Lst σ' l e n g := by
  obtain ⟨z, _, _, z3⟩ := hz
  obtain ⟨a1, a2, a3⟩ := h
  have hl := hX.lt a1 (by decide)
  refine ⟨(hs.K hl).trans a1, (hs.I h1 hl _).trans a2, ?_⟩
  rcases a3 with ⟨b1, b2⟩ | ⟨b1, b2, b3, b4, b5, b6⟩
  · exact Or.inl ⟨b1, by rw [hs.P h1 hl, hs.P h19 (by omega)]; exact b2⟩
  · have he := hX.lt b2 (by decide)
    exact Or.inr ⟨(hs.P h1 hl _).trans b1, (hs.K he).trans b2, by rw [hs.N he]; exact b3, by rw [hs.N he]; exact b4, by rw [hs.N he]; exact b5, fun k hk => (hs.P h3 he _).trans (b6 k hk)⟩
theorem RX.fr (h : RX σ c E S L B G μ) (hz : Ez σ) (hX : Kx σ) (hs : Sm T σ σ') (h1 : T 1 = false) (h3 : T 1003 = false) (h19 : T 19 = false) (e1 : μ'.1 2 = μ.1 2) (e2 : μ'.1 7 = μ.1 7) (e3 : μ'.1 16 = μ.1 16) (e4 : μ'.1 60 = μ.1 60) : RX σ' c E S L B G μ' := by
  unfold RX nS nL nB nG
  rw [e1, e2, e3, e4]
  exact ⟨h.1.fr hz hX hs h1 h3 h19, h.2.1.fr hz hX hs h1 h3 h19, h.2.2.1.fr hz hX hs h1 h3 h19, h.2.2.2.1.fr hz hX hs h1 h3 h19, h.2.2.2.2.1, fun i hi => Nat.lt_of_lt_of_le (h.2.2.2.2.2 i hi) hs.X⟩
theorem mo1_eq (e1 : μ'.2 24 = μ.2 24) (e2 : μ'.2 25 = μ.2 25) : mo1 μ' = mo1 μ := by funext s j; simp only [mo1, e1, e2]
theorem pd1_eq (e1 : μ'.2 64 = μ.2 64) (e2 : μ'.2 66 = μ.2 66) (e3 : μ'.2 62 = μ.2 62) : pd1 μ' = pd1 μ := by funext s j; simp only [pd1, e1, e2, e3]
theorem bc1_eq (e1 : μ'.2 64 = μ.2 64) (e2 : μ'.2 66 = μ.2 66) : bc1 μ' = bc1 μ := by funext s j; simp only [bc1, e1, e2]
theorem RS.fr (h : RS σ S μ) (hX : Kx σ) (hs : Sm T σ σ') (h10 : T 10 = false) (e1 : μ'.1 2 = μ.1 2) (e2 : μ'.1 16 = μ.1 16) (e3 : μ'.2 3 = μ.2 3) (e4 : μ'.2 4 = μ.2 4) (e5 : μ'.2 5 = μ.2 5) (e6 : μ'.2 6 = μ.2 6) (e24 : μ'.2 24 = μ.2 24) (e25 : μ'.2 25 = μ.2 25) : RS σ' S μ' := by
  unfold RS nS nB
  rw [e1, e2, e3, e4, e5, e6, mo1_eq e24 e25]
  intro k hk
  have a := h k hk
  have hq := hX.lt a.1 (by decide)
  simp only [hs.K hq, hs.I h10 hq]
  exact a
theorem RLg.fr (h : RLg σ S L μ) (hX : Kx σ) (hs : Sm T σ σ') (h6 : T 6 = false) (e1 : μ'.1 7 = μ.1 7) (e3 : μ'.2 8 = μ.2 8) (e4 : μ'.2 9 = μ.2 9) (e5 : μ'.2 10 = μ.2 10) : RLg σ' S L μ' := by
  unfold RLg nL lA lB
  rw [e1, e3, e4, e5]
  intro k hk
  have a := h k hk
  have hq := hX.lt a.1 (by decide)
  simp only [hs.K hq, hs.I h6 hq, hs.P h6 hq]
  exact a
/-- two states are the same in some arrays -/
def Ar (fs : List Nat) (μ μ' : Ms) : Prop := ∀ f, f ∈ fs → μ'.2 f = μ.2 f
theorem RH.fr (a : RH σ h μ k) (hX : Kx σ) (hs : Sm T σ σ') (h5 : T 5 = false) (e : ∀ f, f ∈ [17, 18, 19, 20, 21, 22, 23] → μ'.2 f k = μ.2 f k) : RH σ' h μ' k := by
  have hq := hX.lt a.1 (by decide)
  unfold RH
  rw [e 17 (by decide), e 18 (by decide), e 19 (by decide), e 20 (by decide), e 21 (by decide), e 22 (by decide), e 23 (by decide)]
  simp only [hs.K hq, hs.I h5 hq]
  exact a
theorem RB1.fr (a : RB1 σ S b h μ k) (hX : Kx σ) (hs : Sm T σ σ') (h3 : T 3 = false) (e0 : μ'.1 1 = μ.1 1) (e : ∀ f, f ∈ [24, 25, 26, 27, 28, 29, 30, 31, 32, 33, 34, 35, 36] → μ'.2 f k = μ.2 f k) : RB1 σ' S b h μ' k := by
  have hq := hX.lt a.1 (by decide)
  unfold RB1 aT wH
  rw [e0, e 24 (by decide), e 25 (by decide), e 26 (by decide), e 27 (by decide), e 28 (by decide), e 29 (by decide), e 30 (by decide), e 31 (by decide), e 32 (by decide), e 33 (by decide), e 34 (by decide), e 35 (by decide), e 36 (by decide)]
  simp only [hs.K hq, hs.I h3 hq, hs.P h3 hq]
  exact a
theorem RB.fr (a : RB σ S B H μ) (hX : Kx σ) (hs : Sm T σ σ') (h3 : T 3 = false) (h5 : T 5 = false) (e0 : μ'.1 1 = μ.1 1) (e1 : μ'.1 16 = μ.1 16) (e : Ar [17, 18, 19, 20, 21, 22, 23, 24, 25, 26, 27, 28, 29, 30, 31, 32, 33, 34, 35, 36] μ μ') : RB σ' S B H μ' := by
  intro k hk
  unfold nB at hk
  rw [e1] at hk
  have z := a k hk
  refine ⟨z.1.fr hX hs h3 e0 (fun f hf => ?_), z.2.fr hX hs h5 (fun f hf => ?_)⟩
  · rw [e f (by simp only [List.mem_cons, List.not_mem_nil, or_false] at hf ⊢; omega)]
  · rw [e f (by simp only [List.mem_cons, List.not_mem_nil, or_false] at hf ⊢; omega)]
theorem Cg.eq {x : Int32} (a : Cg x μ k) (e1 : μ'.1 60 = μ.1 60) (e2 : μ'.2 64 = μ.2 64) (e3 : μ'.2 66 = μ.2 66) : Cg x μ' k := by
  unfold Cg nG
  rw [e1, e2, e3]
  exact a
theorem RP.fr (a : RP σ B μ) (hK : ∀ k, k < nB μ → mK σ (B k) = 3) (hX : Kx σ) (hs : Sm T σ σ') (h3 : T 3 = false) (e1 : μ'.1 16 = μ.1 16) (e2 : μ'.1 60 = μ.1 60) (e : Ar [62, 64, 66] μ μ') : RP σ' B μ' := by
  intro k hk
  unfold nB at hk
  rw [e1] at hk
  have z := a k hk
  have hq := hX.lt (hK k hk) (by decide)
  have e4 : nG μ' = nG μ := by unfold nG; rw [e2]
  rw [hs.I h3 hq, hs.I h3 hq, pd1_eq (e 64 (by decide)) (e 66 (by decide)) (e 62 (by decide)), e4]
  exact ⟨z.1.eq e2 (e 64 (by decide)) (e 66 (by decide)), z.2⟩
theorem RG1.fr (a : RG1 σ S b q μ g) (hX : Kx σ) (hs : Sm T σ σ') (h2 : T 2 = false) (e : ∀ f, f ∈ [61, 62, 63, 64, 65, 66, 67] → μ'.2 f g = μ.2 f g) : RG1 σ' S b q μ' g := by
  have hq := hX.lt a.1 (by decide)
  unfold RG1 gT gA
  rw [e 61 (by decide), e 62 (by decide), e 63 (by decide), e 64 (by decide), e 65 (by decide), e 66 (by decide), e 67 (by decide)]
  simp only [hs.K hq, hs.I h2 hq, hs.P h2 hq]
  exact a
theorem RQ1.fr (a : RQ1 σ q μ g) (hX : Kx σ) (hs : Sm T σ σ') (h2 : T 20 = false) (e : ∀ y, y < 7 → μ'.2 68 (7 * g + y) = μ.2 68 (7 * g + y)) : RQ1 σ' q μ' g := by
  have hq := hX.lt a.1 (by decide)
  refine ⟨(hs.K hq).trans a.1, (hs.N hq).trans a.2.1, fun y hy => ?_⟩
  rw [hs.I h2 hq, e y hy]
  exact a.2.2 y hy
theorem RG.fr (a : RG σ S G Q μ) (hX : Kx σ) (hs : Sm T σ σ') (h2 : T 2 = false) (h20 : T 20 = false) (e1 : μ'.1 60 = μ.1 60) (e : Ar [61, 62, 63, 64, 65, 66, 67, 68] μ μ') : RG σ' S G Q μ' := by
  unfold RG nG
  rw [e1]
  refine ⟨fun g hg => ⟨(a.1 g hg).1.fr hX hs h2 (fun f hf => ?_), (a.1 g hg).2.fr hX hs h20 (fun y _ => by rw [e 68 (by decide)])⟩, a.2.1, a.2.2⟩
  rw [e f (by simp only [List.mem_cons, List.not_mem_nil, or_false] at hf ⊢; omega)]
theorem RF.fr (a : RF σ c Z μ) (hF : FL σ c) (hX : Kx σ) (hs : Sm T σ σ') (h4 : T 4 = false) (h25 : T 25 = false) (h30 : T 30 = false) (h35 : T 35 = false) (h40 : T 40 = false) (e1 : μ'.1 11 = μ.1 11) (e : Ar [12, 13, 14, 15] μ μ') : RF σ' c Z μ' := by
  have q5 := hX.lt (fK_5 hF) (by decide)
  have q6 := hX.lt (fK_6 hF) (by decide)
  have q7 := hX.lt (fK_7 hF) (by decide)
  have q8 := hX.lt (fK_8 hF) (by decide)
  have q9 := hX.lt (fK_9 hF) (by decide)
  have w8 : mI σ' 35 (c + 8) = mI σ 35 (c + 8) := funext (hs.I h35 q8)
  unfold RF bef sbj nF
  rw [hs.I h4 q5, e1, e 12 (by decide), e 13 (by decide), e 14 (by decide), e 15 (by decide), w8]
  simp only [hs.I h25 q6, hs.I h30 q7, hs.I h40 q9]
  exact a
theorem RT.fr (a : RT σ c μ) (hF : FL σ c) (hX : Kx σ) (hs : Sm T σ σ') (h11 : T 11 = false) (h107 : T 107 = false) (e1 : μ'.1 40 = μ.1 40) (e : μ'.2 39 = μ.2 39) : RT σ' c μ' := by
  have q5 := hX.lt (fK_10 hF) (by decide)
  have q6 := hX.lt (fK_11 hF) (by decide)
  unfold RT
  rw [hs.I h11 q5, e1, e]
  simp only [hs.I h107 q6]
  exact a
theorem RK.fr (a : RK σ c μ) (hF : FL σ c) (hX : Kx σ) (hs : Sm T σ σ') (h7 : T 7 = false) (h45 : T 45 = false) (h50 : T 50 = false) (h55 : T 55 = false) (e1 : μ'.1 56 = μ.1 56) (e : Ar [57, 58, 59] μ μ') : RK σ' c μ' := by
  have q5 := hX.lt (fK_12 hF) (by decide)
  have q6 := hX.lt (fK_13 hF) (by decide)
  have q7 := hX.lt (fK_14 hF) (by decide)
  have q8 := hX.lt (fK_15 hF) (by decide)
  unfold RK nK
  rw [hs.I h7 q5, e1, e 57 (by decide), e 58 (by decide), e 59 (by decide)]
  simp only [hs.I h45 q6, hs.I h50 q7, hs.I h55 q8]
  exact a
theorem RR1.fr (a : RR1 σ r μ) (hU : RuL σ r) (hX : Kx σ) (hs : Sm T σ σ') (hT : ∀ q, q = 9 ∨ q = 71 ∨ q = 75 ∨ q = 80 ∨ q = 86 ∨ q = 90 ∨ q = 95 ∨ q = 100 → T q = false) (e1 : μ'.1 41 = μ.1 41) (e : Ar [42, 43, 44, 45] μ μ') : RR1 σ' r μ' := by
  have q0 := hX.lt hU.1 (by decide)
  have q1 := hX.lt (rK_0 hU) (by decide)
  have q2 := hX.lt (rK_1 hU) (by decide)
  have q3 := hX.lt (rK_2 hU) (by decide)
  have q4 := hX.lt (rK_3 hU) (by decide)
  have q5 := hX.lt (rK_4 hU) (by decide)
  have q6 := hX.lt (rK_5 hU) (by decide)
  have q7 := hX.lt (rK_6 hU) (by decide)
  unfold RR1 nR tm
  rw [hs.I (hT 9 (by simp)) q0, e1, e 42 (by decide), e 43 (by decide), e 44 (by decide), e 45 (by decide)]
  simp only [hs.I (hT 71 (by simp)) q1, hs.I (hT 75 (by simp)) q2, hs.I (hT 80 (by simp)) q3, hs.I (hT 86 (by simp)) q4, hs.I (hT 90 (by simp)) q5, hs.I (hT 95 (by simp)) q6, hs.I (hT 100 (by simp)) q7]
  exact a
theorem FL.ru (hF : FL σ c) (w : Bool) : RuL σ (c + if w then 25 else 17) := by cases w; exact hF.r1; exact hF.r2
theorem RR.fr (a : RR σ c w μ) (hF : FL σ c) (hX : Kx σ) (hs : Sm T σ σ') (h12 : T 12 = false) (hT : ∀ q, q = 9 ∨ q = 71 ∨ q = 75 ∨ q = 80 ∨ q = 86 ∨ q = 90 ∨ q = 95 ∨ q = 100 → T q = false) (e1 : μ'.1 41 = μ.1 41) (e : Ar [42, 43, 44, 45] μ μ') : RR σ' c w μ' := by
  have q0 := hX.lt hF.cc (by decide)
  exact ⟨(hs.P h12 q0 _).trans a.1, (hs.P h12 q0 _).trans a.2.1, a.2.2.fr (hF.ru w) hX hs hT e1 e⟩
theorem RN.fr (a : RN σ c μ) (hF : FL σ c) (hX : Kx σ) (hs : Sm T σ σ') (h12 : T 12 = false) (e1 : μ'.1 1 = μ.1 1) (e2 : μ'.1 37 = μ.1 37) (e3 : μ'.1 38 = μ.1 38) (e4 : μ'.1 60 = μ.1 60) (e5 : μ'.2 64 = μ.2 64) : RN σ' c μ' := by
  have q0 := hX.lt hF.cc (by decide)
  have e6 : dl1 μ' = dl1 μ := by funext g; simp only [dl1, e5]
  unfold RN nG
  rw [e1, e2, e3, e4, e6]
  simp only [hs.I h12 q0]
  exact a
end R35
