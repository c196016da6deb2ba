/-! ===== THE STATES THAT COME ABOUT, AND WHAT AN OPERATION OWES ===== -/
section I38
def WS (μ : Ms) : Prop := (∀ k, k < nS μ → (∃ b, 1 ≤ b ∧ b ≤ 4 ∧ μ.2 3 k = nI b) ∧ (∃ b, b ≤ 60 ∧ μ.2 4 k = nI b) ∧ (μ.2 5 k = 0 ∨ μ.2 5 k = 1) ∧ (∃ n, n ≤ 999 ∧ μ.2 6 k = nI n) ∧ ∃ f, f ≤ 4 ∧ frA μ k = nI f) ∧ ∀ k, nS μ ≤ k → μ.2 6 k = 0
def WL (μ : Ms) : Prop := ∀ l, l < nL μ → μ.2 8 l = nI (lA μ l) ∧ lA μ l < nS μ ∧ μ.2 9 l = nI (lB μ l) ∧ lB μ l < nS μ ∧ lA μ l ≠ lB μ l ∧ ∃ m, 20 ≤ m ∧ m ≤ 900 ∧ μ.2 10 l = nI m
def WB1 (μ : Ms) (k : Nat) : Prop := (μ.2 25 k = nI (aT μ k) ∧ aT μ k < nS μ) ∧ (∃ e, 1000 ≤ e ∧ e ≤ 40000 ∧ μ.2 17 k = nI e) ∧ (∃ e, 1000 ≤ e ∧ e ≤ 90000 ∧ μ.2 18 k = nI e) ∧ (∃ e, 60 ≤ e ∧ e ≤ 200 ∧ μ.2 19 k = nI e) ∧ (∃ e, 10 ≤ e ∧ e ≤ 300 ∧ μ.2 20 k = nI e) ∧ (∃ t f, 50 ≤ t ∧ t ≤ 3000 ∧ μ.2 21 k = nI t ∧ f ≤ t ∧ μ.2 27 k = nI f) ∧ (∃ e, e ≤ 20000 ∧ μ.2 22 k = nI e) ∧ (∃ e, 2 ≤ e ∧ e ≤ 9 ∧ μ.2 23 k = nI e) ∧ (μ.2 29 k = -1 ∨ ∃ y, y < 5 ∧ μ.2 29 k = nI y) ∧ (∃ r, r ≤ 480 ∧ μ.2 30 k = nI r ∧ (0 < r → μ.2 24 k = 0)) ∧ (μ.2 31 k = 0 ∨ μ.2 31 k = 1) ∧ (μ.2 32 k = 0 ∨ μ.2 32 k = 1) ∧ ((μ.2 24 k = 1 → μ.2 26 k = nI (wH μ k) ∧ wH μ k < nS μ ∧ 1 ≤ μ.2 36 k) ∧ (μ.2 24 k = 2 → μ.2 27 k = 0))
def WB (μ : Ms) : Prop := (∀ k, k < nB μ → WB1 μ k) ∧ ∀ k, nB μ ≤ k → μ.2 32 k = 0 ∧ μ.2 33 k = 0 ∧ μ.2 34 k = 0 ∧ μ.2 35 k = 0 ∧ μ.2 36 k = 0
def WG1 (μ : Ms) (g : Nat) : Prop := (μ.2 61 g = nI (gT μ g) ∧ gT μ g < nS μ) ∧ (μ.2 65 g = nI (gA μ g) ∧ gA μ g < nS μ) ∧ (∃ p, 1 ≤ p ∧ p ≤ 2000 ∧ μ.2 62 g = nI p) ∧ (∃ p, p ≤ 143999 ∧ μ.2 63 g = nI p) ∧ (μ.2 64 g = 1 → ∃ b, b < nB μ ∧ μ.2 66 g = nI b)
def WG (μ : Ms) : Prop := (∀ g, g < nG μ → WG1 μ g) ∧ ∀ i, 7 * nG μ ≤ i → μ.2 68 i = 0
def WT (μ : Ms) : Prop := ∀ i, (μ.2 39 i).toInt8.toInt32 = μ.2 39 i
def WR (μ : Ms) : Prop := Rl μ ∧ ∀ l, l < nR μ → (μ.2 42 l = 0 ∨ μ.2 42 l = 1) ∧ ∀ t, t < tm μ l → (μ.2 45 (24 * l + 4 * t) = 0 ∨ μ.2 45 (24 * l + 4 * t) = 1) ∧ ∃ v, v ≤ 7 ∧ μ.2 45 (24 * l + 4 * t + 1) = nI v
def WK (μ : Ms) : Prop := (∀ l, l < nK μ → btI (μ.2 58 l) 31 = false) ∧ ∀ k, k < nB μ → ∃ e, e ≤ nW μ ∧ μ.2 33 k = nI e
def Wf (μ : Ms) : Prop := Cn μ ∧ WS μ ∧ WL μ ∧ WB μ ∧ WG μ ∧ WF μ ∧ WT μ ∧ WR μ ∧ WK μ
def Inv (σ : Mm) (c a : Nat) (μ : Ms) : Prop := (∃ E S L B G H Q Z w, RC σ c E S L B G H Q Z w μ) ∧ Rf σ a μ ∧ Kx σ ∧ Wf μ
/-- both answer alike, and all holds behind -/
def Ok (kc km : Nat) (as : List Value) : Prop := ∀ (d : Nat) (σ : Mm) (c a : Nat) (μ : Ms), Inv σ c a μ → ∃ v σ1 μ', runc (d + 20) kc (.ref c :: as) σ = some (v, σ1) ∧ runc (d + 20) km (.ref a :: as) σ1 = some (v, put σ1 a μ') ∧ Inv (put σ1 a μ') c a μ' ∧ mX σ1 ≤ mX σ + 8 ∧ mS σ1 ≤ mS σ + 100
variable {σ σ1 : Mm} {c a : Nat} {E S L B G H Q : Nat → Nat} {Z : Nat → List Nat} {w : Bool} {μ μ' : Ms} {T : Nat → Bool}
theorem RC.z (h : RC σ c E S L B G H Q Z w μ) (v : Int32) : RC σ c E S L B G H Q Z w (fF μ 0 v) := h
theorem Wf.z (h : Wf μ) (v : Int32) : Wf (fF μ 0 v) := h
theorem RC.fr (h : RC σ c E S L B G H Q Z w μ) (hX : Kx σ) (hs : Sm T σ σ1) (hT : ∀ q, q ≤ 12 ∨ q = 19 ∨ (20 ≤ q ∧ q ≤ 110) ∨ q = 1003 → T q = false) : RC σ1 c E S L B G H Q Z w μ := by
  obtain ⟨a1, a2, a3, a4, a5, a6, a7, a8, a9, a10, a11, a12, a13⟩ := h
  refine ⟨a1.fr hX hs (fun q hq => hT q (by omega)), a2.fr hs (hT _ (by omega)), a3.fr a2 hX hs (hT _ (by omega)) (hT _ (by omega)) (hT _ (by omega)) rfl rfl rfl rfl, a4.fr hX hs (hT _ (by omega)) rfl rfl rfl rfl rfl rfl rfl rfl, a5.fr hX hs (hT _ (by omega)) rfl rfl rfl rfl, a6.fr hX hs (hT _ (by omega)) (hT _ (by omega)) rfl rfl (fun _ _ => rfl), a7.fr (fun k hk => (a6 k hk).1.1) hX hs (hT _ (by omega)) rfl rfl (fun _ _ => rfl), a8.fr hX hs (hT _ (by omega)) (hT _ (by omega)) rfl (fun _ _ => rfl), a9.fr a1 hX hs (hT _ (by omega)) (hT _ (by omega)) (hT _ (by omega)) (hT _ (by omega)) (hT _ (by omega)) rfl (fun _ _ => rfl), a10.fr a1 hX hs (hT _ (by omega)) (hT _ (by omega)) rfl rfl, a11.fr a1 hX hs (hT _ (by omega)) (hT _ (by omega)) (hT _ (by omega)) (hT _ (by omega)) rfl (fun _ _ => rfl), a12.fr a1 hX hs (hT _ (by omega)) (fun q hq => hT q (by omega)) rfl (fun _ _ => rfl), a13.fr a1 hX hs (hT _ (by omega)) rfl rfl rfl rfl rfl⟩
theorem rfK_no : ∀ q, q ≤ 12 ∨ q = 19 ∨ (20 ≤ q ∧ q ≤ 110) ∨ q = 1003 → rfK q = false := by
  intro q hq
  simp only [rfK, Bool.or_eq_false_iff, Bool.and_eq_false_iff, decide_eq_false_iff_not]
  omega
/-- how an operation ends -/
theorem fin (hRC : RC σ1 c E S L B G H Q Z w μ') (hRf : Rf σ1 a μ) (hX : Kx σ1) (hW : Wf μ') : Inv (put σ1 a μ') c a μ' :=
  ⟨⟨E, S, L, B, G, H, Q, Z, w, hRC.fr hX (Sm_put σ1 a μ') rfK_no⟩, Rf.put' hRf.1 μ' hRf.2, Kxput hX a μ', hW⟩
/-- kinds by a list -/
def tk (ks : List Nat) (q : Nat) : Bool := decide (q ∈ ks)
theorem tk_rf {ks : List Nat} (h : ∀ k ∈ ks, rfK k = false) : ∀ c, rfK c = true → tk ks c = false := by
  intro c hc
  simp only [tk, decide_eq_false_iff_not]
  intro hm
  rw [h c hm] at hc
  cases hc
def ArL (μ μ' : Ms) : List Nat → Prop
  | [] => True
  | f :: r => μ'.2 f = μ.2 f ∧ ArL μ μ' r
theorem Ar_of {fs : List Nat} (h : ArL μ μ' fs) : Ar fs μ μ' := by
  induction fs with
  | nil => intro f hf; cases hf
  | cons g r ih =>
    intro f hf
    rcases List.mem_cons.mp hf with e | e
    · rw [e]; exact h.1
    · exact ih h.2 f e
def Res (d kc km : Nat) (as : List Value) (σ : Mm) (c a : Nat) (μ : Ms) : Prop := ∃ v σ1 μ', runc (d + 20) kc (.ref c :: as) σ = some (v, σ1) ∧ (∀ μ0, fF μ0 0 0 = μ → LM σ1 a → runc (d + 20) km (.ref a :: as) (put σ1 a μ0) = some (v, put σ1 a μ')) ∧ (∃ E S L B G H Q Z w, RC σ1 c E S L B G H Q Z w μ') ∧ (∃ T, Sm T σ σ1 ∧ ∀ c, rfK c = true → T c = false) ∧ Kx σ1 ∧ Wf μ' ∧ mX σ1 ≤ mX σ + 8 ∧ mS σ1 ≤ mS σ + 100
theorem Ok_of {kc km : Nat} {as : List Value} (h : ∀ (d : Nat) (σ : Mm) (c a : Nat) (E S L B G H Q : Nat → Nat) (Z : Nat → List Nat) (w : Bool) (μ : Ms), RC σ c E S L B G H Q Z w μ → LM σ a → Kx σ → Wf μ → Res d kc km as σ c a μ) : Ok kc km as := by
  intro d σ c a μ ⟨⟨E, S, L, B, G, H, Q, Z, w, hR⟩, hf, hX, hW⟩
  obtain ⟨v, σ1, μ', h1, h2, ⟨E', S', L', B', G', H', Q', Z', w', h3⟩, ⟨T, hT, hT2⟩, h4, h5, h6, h7⟩ := h d σ c a E S L B G H Q Z w (fF μ 0 0) (hR.z 0) hf.1 hX (hW.z 0)
  have hf1 := hf.fr hX hT hT2
  refine ⟨v, σ1, μ', h1, ?_, fin h3 hf1 h4 h5, h6, h7⟩
  have := h2 μ rfl hf1.1
  rw [hf1.2] at this
  exact this
/-- where the memory stays as it is -/
theorem Res.same {d kc km : Nat} {as : List Value} (hR : RC σ c E S L B G H Q Z w μ) (hX : Kx σ) (hW : Wf μ) {v : Option Value} (h1 : runc (d + 20) kc (.ref c :: as) σ = some (v, σ)) (h2 : ∀ (τ : Mm) μ0, fF μ0 0 0 = μ → LM τ a → runc (d + 20) km (.ref a :: as) (put τ a μ0) = some (v, put τ a μ)) : Res d kc km as σ c a μ :=
  ⟨v, σ, μ, h1, h2 σ, ⟨E, S, L, B, G, H, Q, Z, w, hR⟩, ⟨fun _ => false, Sm.rfl' σ, fun _ _ => rfl⟩, hX, hW, by omega, by omega⟩
/-- where it changes in some kinds -/
theorem Res.mk {d kc km : Nat} {as : List Value} (ks : List Nat) {v : Option Value} (h1 : runc (d + 20) kc (.ref c :: as) σ = some (v, σ1)) (h2 : ∀ (τ : Mm) μ0, fF μ0 0 0 = μ → LM τ a → runc (d + 20) km (.ref a :: as) (put τ a μ0) = some (v, put τ a μ')) (h3 : RC σ1 c E S L B G H Q Z w μ') (hs : Sm (tk ks) σ σ1) (hk : ∀ k ∈ ks, rfK k = false) (hX : Kx σ1) (hW : Wf μ') (x1 : mX σ1 ≤ mX σ + 8) (x2 : mS σ1 ≤ mS σ + 100) : Res d kc km as σ c a μ :=
  ⟨v, σ1, μ', h1, h2 σ1, ⟨E, S, L, B, G, H, Q, Z, w, h3⟩, ⟨tk ks, hs, tk_rf hk⟩, hX, hW, x1, x2⟩
end I38
