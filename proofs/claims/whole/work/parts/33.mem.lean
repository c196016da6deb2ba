/-! ===== MEMORIES THAT ARE THE SAME BUT FOR SOME KINDS ===== -/
section M33
theorem mI_sI (σ : Mm) (c a k : Nat) (v : Int32) (c' a' k' : Nat) : mI (sI σ c a k v) c' a' k' = if c' = c ∧ a' = a ∧ k' = k then v else mI σ c' a' k' := rfl
theorem mP_sI (σ : Mm) (c a k : Nat) (v : Int32) : mP (sI σ c a k v) = mP σ := rfl
theorem mK_sI (σ : Mm) (c a k : Nat) (v : Int32) : mK (sI σ c a k v) = mK σ := rfl
theorem mN_sI (σ : Mm) (c a k : Nat) (v : Int32) : mN (sI σ c a k v) = mN σ := rfl
theorem mX_sI (σ : Mm) (c a k : Nat) (v : Int32) : mX (sI σ c a k v) = mX σ := rfl
theorem mS_sI (σ : Mm) (c a k : Nat) (v : Int32) : mS (sI σ c a k v) = mS σ := rfl
theorem mP_sP (σ : Mm) (c a k : Nat) (v : Option Nat) (c' a' k' : Nat) : mP (sP σ c a k v) c' a' k' = if c' = c ∧ a' = a ∧ k' = k then v else mP σ c' a' k' := rfl
theorem mI_sP (σ : Mm) (c a k : Nat) (v : Option Nat) : mI (sP σ c a k v) = mI σ := rfl
theorem mK_sP (σ : Mm) (c a k : Nat) (v : Option Nat) : mK (sP σ c a k v) = mK σ := rfl
theorem mN_sP (σ : Mm) (c a k : Nat) (v : Option Nat) : mN (sP σ c a k v) = mN σ := rfl
theorem mX_sP (σ : Mm) (c a k : Nat) (v : Option Nat) : mX (sP σ c a k v) = mX σ := rfl
theorem mS_sP (σ : Mm) (c a k : Nat) (v : Option Nat) : mS (sP σ c a k v) = mS σ := rfl
theorem mI_nw (σ : Mm) (kd n sl c a k : Nat) : mI (nw σ kd n sl) c a k = if c = kd ∧ a = mX σ then 0 else mI σ c a k := rfl
theorem mP_nw (σ : Mm) (kd n sl c a k : Nat) : mP (nw σ kd n sl) c a k = if c = kd ∧ a = mX σ then none else mP σ c a k := rfl
theorem mK_nw (σ : Mm) (kd n sl q : Nat) : mK (nw σ kd n sl) q = if q = mX σ then kd else mK σ q := rfl
theorem mN_nw (σ : Mm) (kd n sl q : Nat) : mN (nw σ kd n sl) q = if q = mX σ then n else mN σ q := rfl
theorem mX_nw (σ : Mm) (kd n sl : Nat) : mX (nw σ kd n sl) = mX σ + 1 := rfl
theorem mS_nw (σ : Mm) (kd n sl : Nat) : mS (nw σ kd n sl) = mS σ + sl := rfl
theorem mP_put (σ : Mm) (a : Nat) (μ : Ms) : mP (put σ a μ) = mP σ := rfl
theorem mK_put (σ : Mm) (a : Nat) (μ : Ms) : mK (put σ a μ) = mK σ := rfl
theorem mN_put (σ : Mm) (a : Nat) (μ : Ms) : mN (put σ a μ) = mN σ := rfl
theorem mX_put (σ : Mm) (a : Nat) (μ : Ms) : mX (put σ a μ) = mX σ := rfl
theorem mS_put (σ : Mm) (a : Nat) (μ : Ms) : mS (put σ a μ) = mS σ := rfl
/-- every address with a kind lies below the next one -/
def Kx (σ : Mm) : Prop := ∀ q, mK σ q ≠ 0 → q < mX σ
/-- the same at the old addresses, but for the kinds T -/
def Sm (T : Nat → Bool) (σ σ' : Mm) : Prop := (∀ q, q < mX σ → mK σ' q = mK σ q ∧ mN σ' q = mN σ q) ∧ (∀ c, T c = false → ∀ q, q < mX σ → ∀ k, mI σ' c q k = mI σ c q k ∧ mP σ' c q k = mP σ c q k) ∧ mX σ ≤ mX σ'
variable {T : Nat → Bool} {σ σ' σ1 σ2 : Mm}
theorem Sm.K (h : Sm T σ σ') {q : Nat} (hq : q < mX σ) : mK σ' q = mK σ q := (h.1 q hq).1
theorem Sm.N (h : Sm T σ σ') {q : Nat} (hq : q < mX σ) : mN σ' q = mN σ q := (h.1 q hq).2
theorem Sm.I (h : Sm T σ σ') {c : Nat} (hc : T c = false) {q : Nat} (hq : q < mX σ) (k : Nat) : mI σ' c q k = mI σ c q k := (h.2.1 c hc q hq k).1
theorem Sm.P (h : Sm T σ σ') {c : Nat} (hc : T c = false) {q : Nat} (hq : q < mX σ) (k : Nat) : mP σ' c q k = mP σ c q k := (h.2.1 c hc q hq k).2
theorem Sm.X (h : Sm T σ σ') : mX σ ≤ mX σ' := h.2.2
theorem Sm.rfl' (σ : Mm) : Sm T σ σ := ⟨fun _ _ => ⟨rfl, rfl⟩, fun _ _ _ _ _ => ⟨rfl, rfl⟩, Nat.le_refl _⟩
theorem Sm.trans (h : Sm T σ σ1) (h2 : Sm T σ1 σ2) : Sm T σ σ2 :=
  ⟨fun q hq => ⟨(h2.K (Nat.lt_of_lt_of_le hq h.X)).trans (h.K hq), (h2.N (Nat.lt_of_lt_of_le hq h.X)).trans (h.N hq)⟩,
   fun _ hc _ hq k => ⟨(h2.I hc (Nat.lt_of_lt_of_le hq h.X) k).trans (h.I hc hq k), (h2.P hc (Nat.lt_of_lt_of_le hq h.X) k).trans (h.P hc hq k)⟩, Nat.le_trans h.X h2.X⟩
theorem Sm.mono {T' : Nat → Bool} (h : Sm T σ σ') (hT : ∀ c, T' c = false → T c = false) : Sm T' σ σ' := ⟨h.1, fun c hc => h.2.1 c (hT c hc), h.2.2⟩
theorem SmsI (h : Sm T σ σ') {c : Nat} (hc : T c = true) (a k : Nat) (v : Int32) : Sm T σ (sI σ' c a k v) :=
  ⟨h.1, fun c' hc' q hq k' => ⟨by rw [mI_sI, if_neg (fun z => by rw [z.1, hc] at hc'; cases hc')]; exact h.I hc' hq k', h.P hc' hq k'⟩, h.2.2⟩
theorem SmsP (h : Sm T σ σ') {c : Nat} (hc : T c = true) (a k : Nat) (v : Option Nat) : Sm T σ (sP σ' c a k v) :=
  ⟨h.1, fun c' hc' q hq k' => ⟨h.I hc' hq k', by rw [mP_sP, if_neg (fun z => by rw [z.1, hc] at hc'; cases hc')]; exact h.P hc' hq k'⟩, h.2.2⟩
theorem Smnw (h : Sm T σ σ') (kd n sl : Nat) : Sm T σ (nw σ' kd n sl) := by
  have hx := h.X
  refine ⟨fun q hq => ?_, fun c hc q hq k => ?_, by rw [mX_nw]; omega⟩
  · have : q ≠ mX σ' := by omega
    rw [mK_nw, mN_nw, if_neg this, if_neg this]
    exact h.1 q hq
  · have : ¬ (c = kd ∧ q = mX σ') := by omega
    rw [mI_nw, mP_nw, if_neg this, if_neg this]
    exact h.2.1 c hc q hq k
/-- a cell made new may be written: it isn't old -/
theorem SmsIn (h : Sm T σ σ') (c : Nat) {a : Nat} (ha : mX σ ≤ a) (k : Nat) (v : Int32) : Sm T σ (sI σ' c a k v) :=
  ⟨h.1, fun c' hc' q hq k' => ⟨by rw [mI_sI, if_neg (by omega)]; exact h.I hc' hq k', h.P hc' hq k'⟩, h.2.2⟩
theorem SmsPn (h : Sm T σ σ') (c : Nat) {a : Nat} (ha : mX σ ≤ a) (k : Nat) (v : Option Nat) : Sm T σ (sP σ' c a k v) :=
  ⟨h.1, fun c' hc' q hq k' => ⟨h.I hc' hq k', by rw [mP_sP, if_neg (by omega)]; exact h.P hc' hq k'⟩, h.2.2⟩
theorem KxsI (h : Kx σ) (c a k : Nat) (v : Int32) : Kx (sI σ c a k v) := h
theorem KxsP (h : Kx σ) (c a k : Nat) (v : Option Nat) : Kx (sP σ c a k v) := h
theorem Kxput (h : Kx σ) (a : Nat) (μ : Ms) : Kx (put σ a μ) := h
theorem Kxnw (h : Kx σ) (kd n sl : Nat) : Kx (nw σ kd n sl) := by
  intro q hq
  rw [mX_nw]
  rw [mK_nw] at hq
  by_cases e : q = mX σ
  · omega
  · rw [if_neg e] at hq
    have := h q hq
    omega
theorem Kx.lt (h : Kx σ) {q c : Nat} (hq : mK σ q = c) (hc : c ≠ 0) : q < mX σ := h q (by rw [hq]; exact hc)
/-- the reference's kinds -/
def rfK (c : Nat) : Bool := decide (c = 13) || (decide (115 ≤ c) && decide (c < 1000))
theorem mar_rfK : ∀ e ∈ mar, rfK e.2.2.1 = true := by decide +kernel
theorem Sm_put (σ : Mm) (a : Nat) (μ : Ms) : Sm rfK σ (put σ a μ) := by
  refine ⟨fun _ _ => ⟨rfl, rfl⟩, fun c hc q hq k => ⟨?_, rfl⟩, Nat.le_refl _⟩
  have h13 : c ≠ 13 := by rintro rfl; cases hc
  show (if c = 13 then _ else _) = _
  rw [if_neg h13]
  cases hk : kiv c with
  | none => rfl
  | some fo =>
    obtain ⟨n, hm⟩ := kiv_inv (c := c) (f := fo.1) (o := fo.2) hk
    have := mar_rfK _ hm
    dsimp only at this
    rw [this] at hc
    cases hc
/-- the reference's state lies at a -/
def Rf (σ : Mm) (a : Nat) (μ : Ms) : Prop := LM σ a ∧ put σ a μ = σ
theorem Rf.put' {σ : Mm} {a : Nat} {μ : Ms} (h : LM σ a) (μ' : Ms) (he : put σ a μ = σ) : Rf (put σ a μ') a μ' := by
  refine ⟨h, ?_⟩
  refine Prod.ext (funext fun c => funext fun q => funext fun k => ?_) rfl
  show mI (put (put σ a μ') a μ') c q k = mI (put σ a μ') c q k
  simp only [put, mI]
  by_cases h1 : c = 13
  · simp only [h1, if_true]
    split <;> rfl
  · simp only [h1, if_false]
    cases hk : kiv c with
    | none => rfl
    | some fo => dsimp only; split <;> rfl
theorem Rf.I13 {σ : Mm} {a : Nat} {μ : Ms} (h : Rf σ a μ) (f : Nat) : mI σ 13 a f = μ.1 f := by
  have := put_F σ a μ f
  rw [h.2] at this
  exact this
theorem Rf.IA {σ : Mm} {a : Nat} {μ : Ms} (h : Rf σ a μ) {f o K n : Nat} (he : (f, o, K, n) ∈ mar) (i : Nat) : mI σ K (a + o) i = μ.2 f i := by
  have := put_A σ a μ he i
  rw [h.2] at this
  exact this
theorem Rf.fr {a : Nat} {μ : Ms} (h : Rf σ a μ) (hX : Kx σ) (hs : Sm T σ σ') (hT : ∀ c, rfK c = true → T c = false) : Rf σ' a μ := by
  have ha : a < mX σ := hX.lt h.1.1 (by decide)
  have hx : ∀ e ∈ mar, a + e.2.1 < mX σ := fun e he => hX.lt (h.1.2 e he).2.1 (by have := mar_rfK e he; intro z; rw [z] at this; cases this)
  refine ⟨⟨(hs.K ha).trans h.1.1, fun e he => ⟨(hs.P (hT 13 rfl) ha _).trans (h.1.2 e he).1, (hs.K (hx e he)).trans (h.1.2 e he).2.1, (hs.N (hx e he)).trans (h.1.2 e he).2.2⟩⟩, ?_⟩
  refine Prod.ext (funext fun c => funext fun q => funext fun k => ?_) rfl
  show mI (put σ' a μ) c q k = mI σ' c q k
  simp only [put, mI]
  by_cases h1 : c = 13
  · subst h1
    rw [if_pos rfl]
    by_cases h2 : q = a
    · subst h2
      rw [if_pos rfl]
      exact ((hs.I (hT 13 rfl) ha k).trans (h.I13 k)).symm
    · rw [if_neg h2]
  · rw [if_neg h1]
    cases hk : kiv c with
    | none => rfl
    | some fo =>
      dsimp only
      by_cases h2 : q = a + fo.2
      · rw [if_pos h2]
        subst h2
        obtain ⟨n, hm⟩ := kiv_inv (c := c) (f := fo.1) (o := fo.2) hk
        exact ((hs.I (hT c (mar_rfK _ hm)) (hx _ hm) k).trans (h.IA hm k)).symm
      · rw [if_neg h2]
end M33
