/-! ===== OPERATION: rules ===== -/
section O78
variable {σ σ1 τ : Mm} {a c r : Nat} {E S L B G H Q : Nat → Nat} {Z : Nat → List Nat} {w : Bool} {μ μ' : Ms} {t : Nat → Int32} {n : Nat} (d : Nat)
/-- with the constants that are strings -/
def OkS (kc km : Nat) (as : List Value) : Prop := ∀ (d : Nat) (σ : Mm) (c a : Nat) (μ : Ms), Inv σ c a μ → Sg σ → ∃ v σ1 μ', runc (d + 20) kc (.ref c :: as) σ = some (v, σ1) ∧ runc (d + 20) km (.ref a :: as) σ1 = some (v, put σ1 a μ') ∧ Inv (put σ1 a μ') c a μ' ∧ mX σ1 ≤ mX σ + 8 ∧ mS σ1 ≤ mS σ + 100
theorem OkS_of {kc km : Nat} {as : List Value} (h : ∀ (d : Nat) (σ : Mm) (c a : Nat) (E S L B G H Q : Nat → Nat) (Z : Nat → List Nat) (w : Bool) (μ : Ms), RC σ c E S L B G H Q Z w μ → LM σ a → Kx σ → Wf μ → Sg σ → Res d kc km as σ c a μ) : OkS kc km as := by
  intro d σ c a μ ⟨⟨E, S, L, B, G, H, Q, Z, w, hR⟩, hf, hX, hW⟩ hS
  obtain ⟨v, σ1, μ', h1, h2, ⟨E', S', L', B', G', H', Q', Z', w', h3⟩, ⟨T, hT, hT2⟩, h4, h5, h6, h7⟩ := h d σ c a E S L B G H Q Z w (fF μ 0 0) (hR.z 0) hf.1 hX (hW.z 0) hS
  have hf1 := hf.fr hX hT hT2
  refine ⟨v, σ1, μ', h1, ?_, fin h3 hf1 h4 h5, h6, h7⟩
  have := h2 μ rfl hf1.1
  rw [hf1.2] at this
  exact this
/-- the same but for the rules, the tape and what reads them -/
def Eqr (μ μ' : Ms) : Prop := (∀ g, g < 40 ∨ (41 < g ∧ g < 50) ∨ 55 < g → μ'.1 g = μ.1 g) ∧ ∀ f, f < 42 ∨ 49 < f → μ'.2 f = μ.2 f
theorem Wf_eqr (hW : Wf μ) (he : Eqr μ μ') (h40 : μ'.1 40 = 0) (h41 : μ'.1 41 = nI (nR μ') ∧ nR μ' ≤ 16) (hR : WR μ') : Wf μ' := by
  obtain ⟨e1, e2⟩ := he
  obtain ⟨hC, hS, hL, hB, hG, hF, hT, -, hK⟩ := hW
  have k1 := e1 1 (by omega)
  have k2 := e1 2 (by omega)
  have k7 := e1 7 (by omega)
  have k11 := e1 11 (by omega)
  have k16 := e1 16 (by omega)
  have k56 := e1 56 (by omega)
  have k60 := e1 60 (by omega)
  refine ⟨?_, ?_, ?_, ?_, ?_, ?_, ?_, hR, ?_⟩
  · refine ⟨?_, ?_, ?_, ?_, ?_, ?_, ⟨?_, ?_⟩, h41, ?_⟩
    · unfold nS; rw [k2]; exact hC.s
    · unfold nL; rw [k7]; exact hC.l
    · unfold nF; rw [k11]; exact hC.f
    · unfold nB; rw [k16]; exact hC.b
    · unfold nG; rw [k60]; exact hC.g
    · unfold nK; rw [k56]; exact hC.k
    · unfold nT; rw [h40]; rfl
    · unfold nT; rw [h40]; decide
    · unfold nW; rw [k1]; exact hC.w
  · exact WS_eq hS k2 (fun f hf => e2 f (by simp only [List.mem_cons, List.not_mem_nil, or_false] at hf; omega)) (fun s hs => by rw [mo1_eq (e2 24 (by omega)) (e2 25 (by omega))]; unfold nB; rw [k16])
  · exact WL_mono hL (by unfold nS; rw [k2]; exact Nat.le_refl _) k7 (fun f hf => e2 f (by simp only [List.mem_cons, List.not_mem_nil, or_false] at hf; omega))
  · unfold WB WB1 aT wH nS nB at hB ⊢
    rw [k2, k16, e2 17 (by omega), e2 18 (by omega), e2 19 (by omega), e2 20 (by omega), e2 21 (by omega), e2 22 (by omega), e2 23 (by omega), e2 24 (by omega), e2 25 (by omega), e2 26 (by omega), e2 27 (by omega), e2 29 (by omega), e2 30 (by omega), e2 31 (by omega), e2 32 (by omega), e2 33 (by omega), e2 34 (by omega), e2 35 (by omega), e2 36 (by omega)]
    exact hB
  · exact WG_eq hG k2 k16 k60 (fun f hf => e2 f (by simp only [List.mem_cons, List.not_mem_nil, or_false] at hf; omega))
  · unfold WF ofN nF at hF ⊢
    rw [k11, e2 12 (by omega), e2 13 (by omega), e2 15 (by omega)]
    exact hF
  · unfold WT at hT ⊢
    rw [e2 39 (by omega)]
    exact hT
  · unfold WK nK nB nW at hK ⊢
    rw [k56, k16, k1, e2 58 (by omega), e2 33 (by omega)]
    exact hK
/-! the memory as its own overlay -/
def rho (σ : Mm) (c r : Nat) : Ms := (fun f => if f = 7 then mI σ 9 r 7 else mI σ 11 (c + 10) f, fun k j => mI σ k (r + rko k) j)
theorem cP_rho (σ : Mm) (c r : Nat) : cP σ c r (rho σ c r) = σ := by
  refine Prod.ext (funext fun k => funext fun q => funext fun f => ?_) rfl
  show mI (cP σ c r (rho σ c r)) k q f = mI σ k q f
  rw [mI_cP]
  by_cases y1 : k = 11 ∧ q = c + 10 ∧ f ≠ 7
  · rw [if_pos y1]
    show (if f = 7 then _ else _) = _
    rw [if_neg y1.2.2, y1.1, y1.2.1]
  · rw [if_neg y1]
    by_cases y2 : k = 9 ∧ q = r ∧ f = 7
    · rw [if_pos y2]
      show (if 7 = 7 then mI σ 9 r 7 else mI σ 11 (c + 10) 7) = _
      rw [if_pos rfl, y2.1, y2.2.1, y2.2.2]
    · rw [if_neg y2]
      by_cases y3 : rko k ≠ 0 ∧ q = r + rko k
      · rw [if_pos y3, y3.2]; rfl
      · rw [if_neg y3]
theorem rko_no : ∀ k, tk [9, 11, 71, 75, 80, 86, 90, 95, 100] k = false → k ≠ 11 ∧ k ≠ 9 ∧ rko k = 0 := by
  intro k h
  simp only [tk, decide_eq_false_iff_not, List.mem_cons, List.not_mem_nil, or_false] at h
  refine ⟨by omega, by omega, ?_⟩
  unfold rko
  rw [if_neg (by omega), if_neg (by omega), if_neg (by omega), if_neg (by omega), if_neg (by omega), if_neg (by omega), if_neg (by omega)]
theorem Sm_cP (σ : Mm) (c r : Nat) (ρ : Ms) : Sm (tk [9, 11, 71, 75, 80, 86, 90, 95, 100]) σ (cP σ c r ρ) := by
  refine ⟨fun _ _ => ⟨rfl, rfl⟩, fun k hk q _ f => ⟨?_, rfl⟩, Nat.le_refl _⟩
  obtain ⟨h1, h2, h3⟩ := rko_no k hk
  exact cO σ c r ρ h1 h2 h3 q f
theorem cOl (σ : Mm) (c : Nat) {r q : Nat} (ρ : Ms) (h : q ≠ r) : mI (cP σ c r ρ) 9 q 7 = mI σ 9 q 7 := by
  rw [mI_cP, if_neg (fun z => absurd z.1 (by decide)), if_neg (fun z => h z.2.1), if_neg (fun z => z.1 rfl)]
theorem cOa (σ : Mm) (c : Nat) {r q k : Nat} (ρ : Ms) (h : q ≠ r) (hk : rko k ≠ 0) (j : Nat) : mI (cP σ c r ρ) k (q + rko k) j = mI σ k (q + rko k) j := by
  have h1 : k ≠ 11 := by rintro rfl; exact hk rfl
  have h2 : k ≠ 9 := by rintro rfl; exact hk rfl
  rw [mI_cP, if_neg (fun z => h1 z.1), if_neg (fun z => h2 z.1), if_neg (fun z => h (by omega))]
/-- all but the tape and the rules -/
theorem RC_cP (hR : RC σ c E S L B G H Q Z w μ) (hX : Kx σ) (he : Eqr μ μ') (ρ : Ms) (r : Nat) : FL (cP σ c r ρ) c ∧ Ez (cP σ c r ρ) ∧ RX (cP σ c r ρ) c E S L B G μ' ∧ RS (cP σ c r ρ) S μ' ∧ RLg (cP σ c r ρ) S L μ' ∧ RB (cP σ c r ρ) S B H μ' ∧ RP (cP σ c r ρ) B μ' ∧ RG (cP σ c r ρ) S G Q μ' ∧ RF (cP σ c r ρ) c Z μ' ∧ RK (cP σ c r ρ) c μ' ∧ RN (cP σ c r ρ) c μ' := by
  obtain ⟨hF, hz, hRX, hRS, hRL, hRB, hRP, hRG, hRF, hRT, hRK, hRR, hRN⟩ := hR
  obtain ⟨e1, e2⟩ := he
  have hs := Sm_cP σ c r ρ
  have k1 := e1 1 (by omega)
  have k2 := e1 2 (by omega)
  have k7 := e1 7 (by omega)
  have k11 := e1 11 (by omega)
  have k16 := e1 16 (by omega)
  have k37 := e1 37 (by omega)
  have k38 := e1 38 (by omega)
  have k56 := e1 56 (by omega)
  have k60 := e1 60 (by omega)
  refine ⟨hF, hz, hRX.fr hz hX hs rfl rfl rfl k2 k7 k16 k60, hRS.fr hX hs rfl k2 k16 (e2 _ (by omega)) (e2 _ (by omega)) (e2 _ (by omega)) (e2 _ (by omega)) (e2 _ (by omega)) (e2 _ (by omega)), hRL.fr hX hs rfl k7 (e2 _ (by omega)) (e2 _ (by omega)) (e2 _ (by omega)), hRB.fr hX hs rfl rfl k1 k16 (fun f hf => e2 f (by simp only [List.mem_cons, List.not_mem_nil, or_false] at hf; omega)), hRP.fr (fun k hk => (hRB k hk).1.1) hX hs rfl k16 k60 (fun f hf => e2 f (by simp only [List.mem_cons, List.not_mem_nil, or_false] at hf; omega)), hRG.fr hX hs rfl rfl k60 (fun f hf => e2 f (by simp only [List.mem_cons, List.not_mem_nil, or_false] at hf; omega)), hRF.fr hF hX hs rfl rfl rfl rfl rfl k11 (fun f hf => e2 f (by simp only [List.mem_cons, List.not_mem_nil, or_false] at hf; omega)), hRK.fr hF hX hs rfl rfl rfl rfl k56 (fun f hf => e2 f (by simp only [List.mem_cons, List.not_mem_nil, or_false] at hf; omega)), hRN.fr hF hX hs rfl k1 k37 k38 k60 (e2 _ (by omega))⟩
theorem RC_flt (hR : RC σ c E S L B G H Q Z w μ) (hX : Kx σ) (he : Eqr μ μ') (h40 : μ'.1 40 = 0) (h41 : μ'.1 41 = μ.1 41) (h4 : ∀ f, 42 ≤ f → f ≤ 45 → μ'.2 f = μ.2 f) {ρ : Ms} (h1 : ρ.1 1 = 0) (hr : r ≠ c + if w then 25 else 17) : RC (cP σ c r ρ) c E S L B G H Q Z w μ' := by
  obtain ⟨b1, b2, b3, b4, b5, b6, b7, b8, b9, b10, b11⟩ := RC_cP hR hX he ρ r
  obtain ⟨hF, hz, hRX, hRS, hRL, hRB, hRP, hRG, hRF, hRT, hRK, hRR, hRN⟩ := hR
  refine ⟨b1, b2, b3, b4, b5, b6, b7, b8, b9, ⟨?_, fun i => ?_⟩, b10, ⟨hRR.1, hRR.2.1, ?_⟩, b11⟩
  · rw [cT _ _ _ _ (by decide), h1, h40]
  · rw [cO_107, hRT.2 i, he.2 39 (by omega)]
  · have hne : (c + if w then 25 else 17) ≠ r := fun z => hr z.symm
    obtain ⟨q1, q2, q3⟩ := hRR.2.2
    have en : nR μ' = nR μ := by unfold nR; rw [h41]
    generalize (c + if w then 25 else 17) = q at hne q1 q2 q3
    have d71 := fun j => cOa σ c (k := 71) ρ hne (by decide) j
    have d75 := fun j => cOa σ c (k := 75) ρ hne (by decide) j
    have d80 := fun j => cOa σ c (k := 80) ρ hne (by decide) j
    have d86 := fun j => cOa σ c (k := 86) ρ hne (by decide) j
    have d90 := fun j => cOa σ c (k := 90) ρ hne (by decide) j
    have d95 := fun j => cOa σ c (k := 95) ρ hne (by decide) j
    have d100 := fun j => cOa σ c (k := 100) ρ hne (by decide) j
    rw [show rko 71 = 1 from rfl] at d71
    rw [show rko 75 = 2 from rfl] at d75
    rw [show rko 80 = 3 from rfl] at d80
    rw [show rko 86 = 4 from rfl] at d86
    rw [show rko 90 = 5 from rfl] at d90
    rw [show rko 95 = 6 from rfl] at d95
    rw [show rko 100 = 7 from rfl] at d100
    unfold RR1 tm
    rw [cOl _ _ _ hne, h41, en, h4 42 (by omega) (by omega), h4 43 (by omega) (by omega), h4 44 (by omega) (by omega), h4 45 (by omega) (by omega)]
    simp only [d71, d75, d80, d86, d90, d95, d100]
    exact ⟨q1, q2, q3⟩
theorem RC_new (hR : RC σ c E S L B G H Q Z w μ) (hX : Kx σ) (he : Eqr μ μ') (h40 : μ'.1 40 = 0) {ρ : Ms} (h1 : ρ.1 1 = 0) (hr : r = c + if w then 17 else 25) {l : Nat} (hl : l ≤ 16) (h7 : ρ.1 7 = nI l) (h41 : μ'.1 41 = nI l) {ν : Ms} (hL1 : ∀ j, j < l → L1 j ρ ν) (h42 : ∀ j, j < l → μ'.2 42 j = ν.2 46 j ∧ μ'.2 43 j = ν.2 47 j ∧ μ'.2 44 j = ν.2 48 j) (h45 : ∀ j, j < 384 → μ'.2 45 j = ν.2 49 j) : RC (sP (sP (cP σ c r ρ) 12 c 8 (some r)) 12 c 9 (some (c + if w then 25 else 17))) c E S L B G H Q Z (!w) μ' ∧ WR μ' ∧ (μ'.1 41 = nI (nR μ') ∧ nR μ' ≤ 16) := by
  obtain ⟨b1, b2, b3, b4, b5, b6, b7, b8, b9, b10, b11⟩ := RC_cP hR hX he ρ r
  have hRT := hR.2.2.2.2.2.2.2.2.2.1
  have hX' : Kx (cP σ c r ρ) := hX
  have hs : Sm (tk [12]) (cP σ c r ρ) (sP (sP (cP σ c r ρ) 12 c 8 (some r)) 12 c 9 (some (c + if w then 25 else 17))) := SmsP (SmsP (Sm.rfl' _) rfl _ _ _) rfl _ _ _
  have en : nR μ' = l := by unfold nR; rw [h41, nI_clamp (by omega)]
  have hT44 : ∀ j, j < l → ∃ k, k ≤ 6 ∧ μ'.2 44 j = nI k ∧ tm μ' j = k ∧ ρ.2 80 j = nI k ∧ ∀ k', k' < k → T1 j k' ρ ν := fun j hj => by
    obtain ⟨-, -, -, k, k1, k2, k3, k4⟩ := hL1 j hj
    have e : μ'.2 44 j = nI k := by rw [(h42 j hj).2.2]; exact k3
    exact ⟨k, k1, e, by unfold tm; rw [e, nI_clamp (by omega)], k2, k4⟩
  refine ⟨⟨?_, b2, b3.fr b2 hX' hs rfl rfl rfl rfl rfl rfl rfl, b4.fr hX' hs rfl rfl rfl rfl rfl rfl rfl rfl rfl, b5.fr hX' hs rfl rfl rfl rfl rfl, b6.fr hX' hs rfl rfl rfl rfl (fun _ _ => rfl), b7.fr (fun k hk => (b6 k hk).1.1) hX' hs rfl rfl rfl (fun _ _ => rfl), b8.fr hX' hs rfl rfl rfl (fun _ _ => rfl), b9.fr b1 hX' hs rfl rfl rfl rfl rfl rfl (fun _ _ => rfl), ⟨?_, fun i => ?_⟩, b10.fr b1 hX' hs rfl rfl rfl rfl rfl (fun _ _ => rfl), ⟨?_, ?_, ?_⟩, b11⟩, ⟨fun j hj => ?_, fun j hj => ⟨?_, fun k hk => ?_⟩⟩, by rw [en, h41], by rw [en]; exact hl⟩
  · refine ⟨b1.1, b1.2.1, fun e he' => ?_, b1.2.2.2.1, b1.2.2.2.2⟩
    have hne := (show ∀ e ∈ clp, e.1 = 12 → e.2.2.1 ≠ 8 ∧ e.2.2.1 ≠ 9 by decide) e he'
    rw [mP_sP, if_neg (fun z => (hne z.1).2 z.2.2), mP_sP, if_neg (fun z => (hne z.1).1 z.2.2)]
    exact b1.2.2.1 e he'
  · rw [mI_sP, mI_sP, cT _ _ _ _ (by decide), h1, h40]
  · rw [mI_sP, mI_sP, cO_107, hRT.2 i, he.2 39 (by omega)]
  · rw [mP_sP, if_neg (by omega), mP_sP, if_pos ⟨rfl, rfl, rfl⟩, hr]
    cases w <;> rfl
  · rw [mP_sP, if_pos ⟨rfl, rfl, rfl⟩]
    cases w <;> rfl
  · have er : (c + if (!w) = true then 25 else 17) = r := by rw [hr]; cases w <;> rfl
    rw [er]
    refine ⟨by rw [mI_sP, mI_sP, cL, h7, h41], fun j hj => ?_, fun j k hj hk => ?_⟩
    · rw [en] at hj
      obtain ⟨x1, x2, x3, k, x4, x5, x6, x7⟩ := hL1 j hj
      obtain ⟨y1, y2, y3⟩ := h42 j hj
      rw [mI_sP, mI_sP, cA_71, cA_75, cA_80, y1, y2, y3, x1, x3, x5, x6]
      exact ⟨rfl, rfl, rfl⟩
    · rw [en] at hj
      obtain ⟨k0, k1, k2, k3, k4, k5⟩ := hT44 j hj
      rw [k3] at hk
      obtain ⟨t1, t2, t3, t4, t5, t6⟩ := k5 k hk
      rw [mI_sP, mI_sP, cA_86, cA_90, cA_95, cA_100, h45 _ (by omega), h45 _ (by omega), h45 _ (by omega), h45 _ (by omega)]
      exact ⟨t1, t3, t5, t6⟩
  · rw [en] at hj
    obtain ⟨k0, k1, k2, k3, -⟩ := hT44 j hj
    rw [k3]
    exact ⟨k2, k1⟩
  · rw [en] at hj
    rw [(h42 j hj).1]
    exact (hL1 j hj).2.1
  · rw [en] at hj
    obtain ⟨k0, k1, k2, k3, k4, k5⟩ := hT44 j hj
    rw [k3] at hk
    obtain ⟨t1, t2, t3, t4, t5, t6⟩ := k5 k hk
    rw [h45 _ (by omega), h45 _ (by omega)]
    exact ⟨t2, t4⟩
/-! the reference copies its lines -/
def cp1 (μ : Ms) : Nat → Ms
  | 0 => μ
  | l + 1 => fA (fA (fA (cp1 μ l) 42 l (μ.2 46 l)) 43 l (μ.2 47 l)) 44 l (μ.2 48 l)
theorem cp1_1 : ∀ k, (cp1 μ k).1 = μ.1 := by
  intro k
  induction k with
  | zero => rfl
  | succ k ih => rw [cp1, fA_1, fA_1, fA_1, ih]
theorem cp1_2 {f : Nat} (h : f < 42 ∨ 44 < f) : ∀ k, (cp1 μ k).2 f = μ.2 f := by
  intro k
  induction k with
  | zero => rfl
  | succ k ih => rw [cp1, fA_2n _ (by omega), fA_2n _ (by omega), fA_2n _ (by omega), ih]
theorem cp1_v : ∀ k j, j < k → (cp1 μ k).2 42 j = μ.2 46 j ∧ (cp1 μ k).2 43 j = μ.2 47 j ∧ (cp1 μ k).2 44 j = μ.2 48 j := by
  intro k
  induction k with
  | zero => intro j hj; omega
  | succ k ih =>
    intro j hj
    by_cases e : j = k
    · subst e; simp [cp1, fA_2]
    · have := ih j (by omega)
      simpa [cp1, fA_2, e] using this
def cp2 (μ : Ms) : Nat → Ms
  | 0 => μ
  | k + 1 => fA (cp2 μ k) 45 k (μ.2 49 k)
theorem cp2_1 : ∀ k, (cp2 μ k).1 = μ.1 := by
  intro k
  induction k with
  | zero => rfl
  | succ k ih => rw [cp2, fA_1, ih]
theorem cp2_2 {f : Nat} (h : f ≠ 45) : ∀ k, (cp2 μ k).2 f = μ.2 f := by
  intro k
  induction k with
  | zero => rfl
  | succ k ih => rw [cp2, fA_2n _ h, ih]
theorem cp2_v : ∀ k j, j < k → (cp2 μ k).2 45 j = μ.2 49 j := by
  intro k
  induction k with
  | zero => intro j hj; omega
  | succ k ih =>
    intro j hj
    by_cases e : j = k
    · subst e; simp [cp2, fA_2]
    · have := ih j (by omega)
      simpa [cp2, fA_2, e] using this
theorem cp1_lp (hL : LM τ a) {l : Nat} (hl : l ≤ 16) (h01 : ∀ j, j < l → μ.2 46 j = 0 ∨ μ.2 46 j = 1) : ∀ y k, k + y = l → run d 153 82 [.ref a, .int (nI l), .int (nI k)] [] (put τ a (cp1 μ k)) = run d 153 129 [.ref a, .int (nI l), .int (nI l)] [] (put τ a (cp1 μ l)) := by
  intro y
  induction y with
  | zero =>
    intro k hk
    have : k = l := by omega
    subst this
    simp [psh_some, psh_none, -Int32.not_lt, -Int32.not_le, q_M_rules_82, hL]
  | succ y ih =>
    intro k hk
    have h1 := ih (k + 1) (by omega)
    have h2 : ¬ nI l ≤ nI k := nI_ge (by omega) (by omega)
    have h3 : ix (nI k) 17 = true := ix_of (by omega) (by omega)
    have ck := cl1000 (show k < 1000 by omega)
    rw [cp1, nI_succ] at h1
    rw [← h1]
    have e46 : (cp1 μ k).2 46 = μ.2 46 := cp1_2 (by omega) k
    have e47 : (cp1 μ k).2 47 = μ.2 47 := cp1_2 (by omega) k
    have e48 : (cp1 μ k).2 48 = μ.2 48 := cp1_2 (by omega) k
    simp [psh_some, psh_none, -Int32.not_lt, -Int32.not_le, q_M_rules_82, q_M_rules_87, q_M_rules_99, q_M_rules_111, q_M_rules_123, hL, h2, h3, ck, fA_2, e46, e47, e48, h01 k (by omega)]
theorem cp2_lp (hL : LM τ a) (x1 : Int32) : ∀ y k, k + y = 384 → run d 153 131 [.ref a, .int x1, .int (nI k)] [] (put τ a (cp2 μ k)) = some (some (.int x1), put τ a (cp2 μ 384)) := by
  intro y
  induction y with
  | zero =>
    intro k hk
    have : k = 384 := by omega
    subst this
    have z : (384 : Int32) ≤ nI 384 := by decide
    simp [psh_some, psh_none, -Int32.not_lt, -Int32.not_le, q_M_rules_131, q_M_rules_156, hL, z]
  | succ y ih =>
    intro k hk
    have h1 := ih (k + 1) (by omega)
    have h2 : ¬ 384 ≤ nI k := nI_ge (b := 384) (by omega) (by omega)
    have h3 : ix (nI k) 408 = true := ix_of (by omega) (by omega)
    have ck := cl1000 (show k < 1000 by omega)
    rw [cp2, nI_succ] at h1
    rw [← h1]
    have e49 : (cp2 μ k).2 49 = μ.2 49 := cp2_2 (by omega) k
    simp [psh_some, psh_none, -Int32.not_lt, -Int32.not_le, q_M_rules_131, q_M_rules_138, q_M_rules_150, hL, h2, h3, ck, e49]
theorem ok_rules : OkS 71 153 [] := by
  refine OkS_of fun d σ c a E S L B G H Q Z w μ hR hLM hX hW hSg => ?_
  have hC := hW.1
  obtain ⟨hF, hz, hRX, hRS, hRL, hRB, hRP, hRG, hRF, hRT, hRK, hRR, hRN⟩ := id hR
  have ht := hC.t
  have hTb : Tb σ c (μ.2 39) := ⟨hF, hRT.2, hW.2.2.2.2.2.2.1⟩
  obtain ⟨p8, p9, -⟩ := hRR
  generalize hr : (c + if w then 17 else 25) = r at p9
  generalize hrr : (c + if w then 25 else 17) = rr at p8
  have hU : RuL σ r := by rw [← hr]; cases w; exact hF.r2; exact hF.r1
  have hUU : RuL σ rr := by rw [← hrr]; cases w; exact hF.r1; exact hF.r2
  have hne : r ≠ rr := by rw [← hr, ← hrr]; cases w <;> simp
  -- the class's first token
  have i1 : (rho σ c r).1 1 = nI (nT μ) := by
    show (if 1 = 7 then mI σ 9 r 7 else mI σ 11 (c + 10) 1) = _
    rw [if_neg (by decide), hRT.1]; exact ht.1
  have tk0 := t_tok (σ := σ) (r := r) (ρ := fF (fF (rho σ c r) 7 0) 4 0) (d + 15) hTb ht.2 (show _ = nI (nT μ) from i1) (Nat.zero_le _) rfl
  have C0 := CurC_tkR (t := μ.2 39) (n := nT μ) (p := 0) (ρ := fF (fF (rho σ c r) 7 0) 4 0) (show _ = nI (nT μ) from i1) (Nat.zero_le _)
  have q70 : (tkR (μ.2 39) (fF (fF (rho σ c r) 7 0) 4 0) (nT μ) 0).1 7 = nI 0 := by rw [tkR_1 _ _ _ _ (by omega)]; rfl
  have rd : runc (d + 19) 37 [.ref r, .ref (c + 10)] σ = run (d + 19) 37 11 [.ref r, .ref (c + 10), .int (nI 0), uu] [] (cP σ c r (tkR (μ.2 39) (fF (fF (rho σ c r) 7 0) 4 0) (nT μ) 0)) := by
    have rw0 : runc (d + 18) 50 [.ref (c + 10)] (cP σ c r (fF (rho σ c r) 7 0)) = some (none, cP σ c r (tkR (μ.2 39) (fF (fF (rho σ c r) 7 0) 4 0) (nT μ) 0)) := by
      simp [psh_some, psh_none, -Int32.not_lt, -Int32.not_le, rc_Tape_rewind, e_Tape_rewind_0, e_Tape_rewind_5, e_Tape_rewind_9, mK_cP, cT_s, fK_10 hF, tk0]
    have e0 : run (d + 19) 37 0 [.ref r, .ref (c + 10), uu, uu] [] σ = run (d + 19) 37 5 [.ref r, .ref (c + 10), uu, uu] [] (cP σ c r (fF (rho σ c r) 7 0)) := by
      have := e_Rules_read_0 (d + 19) r (.ref (c + 10)) uu uu (cP σ c r (rho σ c r)) (by rw [mK_cP]; exact hU.1)
      rw [cL_s, cP_rho] at this
      exact this
    rw [rc_Rules_read, e0, nI_0]
    simp [psh_some, psh_none, -Int32.not_lt, -Int32.not_le, isA_r, isR_r, vd, e_Rules_read_5, e_Rules_read_9, mK_cP, fK_10 hF, rw0]
  generalize tkR (μ.2 39) (fF (fF (rho σ c r) 7 0) 4 0) (nT μ) 0 = ρ0 at C0 q70 rd
  -- both read
  have M0 : CurM (μ.2 39) (nT μ) (tkS (fF (fF μ 51 0) 54 0) (nT μ) 0) 0 := CurM_tkS rfl (show μ.1 40 = _ from ht.1) 0
  have f0 : (tkS (fF (fF μ 51 0) 54 0) (nT μ) 0).1 54 = 0 := by rw [tkS_1 _ _ _ (by omega)]; rfl
  have g0 : ∀ g, g < 50 ∨ 55 < g → (tkS (fF (fF μ 51 0) 54 0) (nT μ) 0).1 g = μ.1 g := fun g hg => by
    rw [tkS_1 _ _ _ (by omega), fF_1, if_neg (by omega), fF_1, if_neg (by omega)]
  have a0 : (tkS (fF (fF μ 51 0) 54 0) (nT μ) 0).2 = μ.2 := rfl
  have mst : ∀ (τ : Mm) (μ0 : Ms), fF μ0 0 0 = μ → LM τ a → runc (d + 20) 153 [.ref a] (put τ a μ0) = run (d + 20) 153 21 [.ref a, .int (nI 0), uu] [] (put τ a (tkS (fF (fF μ 51 0) 54 0) (nT μ) 0)) := fun τ μ0 hμ hL => by
    have en := m_next (σ := τ) (μ := fF (fF μ 51 0) 54 0) (p := 0) (d + 16) hL ht.2 (show μ.1 40 = _ from ht.1) (Nat.zero_le _) rfl
    rw [nI_0]
    simp [psh_some, psh_none, -Int32.not_lt, -Int32.not_le, rc_M_rules, q_M_rules_0, q_M_rules_5, q_M_rules_10, q_M_rules_15, q_M_rules_19, hL, hμ, en]
  generalize tkS (fF (fF μ 51 0) 54 0) (nT μ) 0 = μ1 at M0 f0 g0 a0 mst
  have main := fun (τ : Mm) (hL : LM τ a) => rls (r := r) (d + 13) (d + 12) hTb hSg hU hL ht.2 16 0 0 ρ0 μ1 uu (by omega) (Nat.zero_le _) C0 M0 f0 q70 (fun j hj => by omega)
  obtain ⟨ρ1, μ9, e1, l1, c1, -, -, -, -, c6, c7, -, -⟩ := main σ hLM
  have rd1 : runc (d + 19) 37 [.ref r, .ref (c + 10)] σ = some (some (.int (if e1.1 = 0 then 0 else nI e1.1 + 10 * nI (tF (μ.2 39) (nT μ) e1.2))), cP σ c r ρ1) := rd.trans c1
  have hF7 := tF_le (μ.2 39) c7
  by_cases hf : e1.1 = 0
  · -- no fault
    rw [if_pos hf] at rd1
    have hLs : LM (sP (sP (cP σ c r (fF ρ1 1 0)) 12 c 8 (some r)) 12 c 9 (some rr)) a := ⟨hLM.1, fun e he => ⟨by rw [mP_sP, if_neg (by omega), mP_sP, if_neg (by omega)]; exact (hLM.2 e he).1, (hLM.2 e he).2⟩⟩
    obtain ⟨ρ2, μ2, e2, l2, b1, b2, b3, b4, b5, b6, b7, b8, b9⟩ := main _ hLs
    have hb := c1.symm.trans b1
    rw [if_pos hf] at hb
    have hcp : cP σ c r ρ1 = cP σ c r ρ2 := (Prod.mk.inj (Option.some.inj hb)).2
    have hv : (0 : Int32) = if e2.1 = 0 then 0 else nI e2.1 + 10 * nI (tF (μ.2 39) (nT μ) e2.2) := Value.int.inj (Option.some.inj (Prod.mk.inj (Option.some.inj hb)).1)
    have hf2 : e2.1 = 0 := by
      by_cases q : e2.1 = 0
      · exact q
      · exfalso
        rw [if_neg q, show (10 : Int32) = nI 10 from rfl, pk_mul, nI_add] at hv
        have := tF_le (μ.2 39) b7
        exact nI_ne0 (n := e2.1 + 10 * tF (μ.2 39) (nT μ) e2.2) (by omega) (by omega) hv.symm
    obtain ⟨d1, d2, d3, d4⟩ := b9 hf2
    have hσ : cP σ c r (fF ρ1 1 0) = cP σ c r (fF ρ2 1 0) := by
      rw [← cT_s _ _ _ _ (by decide), hcp, cT_s _ _ _ _ (by decide)]
    have h17 : ρ1.1 7 = nI l2 := by
      have := cL σ c r ρ1
      rw [hcp, cL] at this
      rw [← this]; exact d3
    have hQ : ∀ (τ : Mm), LM τ a → run (d + 20) 153 48 [.ref a, .int (nI l2), uu] [] (put τ a μ2) = some (some (.int (nI l2)), put τ a (cp2 (cp1 (fF (fF μ2 40 0) 41 (nI l2)) l2) 384)) := fun τ hL => by
      have lp1 := cp1_lp (τ := τ) (μ := fF (fF μ2 40 0) 41 (nI l2)) (d + 20) hL d2 (fun j hj => (d4 j hj).2.1) l2 0 (by omega)
      have lp2 := cp2_lp (τ := τ) (μ := cp1 (fF (fF μ2 40 0) 41 (nI l2)) l2) (d + 20) hL (nI l2) 384 0 (by omega)
      rw [cp1, nI_0] at lp1
      rw [cp2, nI_0] at lp2
      simp [psh_some, psh_none, -Int32.not_lt, -Int32.not_le, q_M_rules_48, q_M_rules_53, q_M_rules_75, q_M_rules_80, q_M_rules_129, hL, fF_1, d1, lp1, lp2]
    have e1' : (cp2 (cp1 (fF (fF μ2 40 0) 41 (nI l2)) l2) 384).1 = (fF (fF μ2 40 0) 41 (nI l2)).1 := by rw [cp2_1, cp1_1]
    have e2' : ∀ f, f < 42 ∨ 45 < f → (cp2 (cp1 (fF (fF μ2 40 0) 41 (nI l2)) l2) 384).2 f = μ2.2 f := fun f hf => by rw [cp2_2 (by omega), cp1_2 (by omega)]; rfl
    have e3' : ∀ j, j < l2 → (cp2 (cp1 (fF (fF μ2 40 0) 41 (nI l2)) l2) 384).2 42 j = μ2.2 46 j ∧ (cp2 (cp1 (fF (fF μ2 40 0) 41 (nI l2)) l2) 384).2 43 j = μ2.2 47 j ∧ (cp2 (cp1 (fF (fF μ2 40 0) 41 (nI l2)) l2) 384).2 44 j = μ2.2 48 j := fun j hj => by
      rw [cp2_2 (by omega), cp2_2 (by omega), cp2_2 (by omega)]
      exact cp1_v l2 j hj
    have e4' : ∀ j, j < 384 → (cp2 (cp1 (fF (fF μ2 40 0) 41 (nI l2)) l2) 384).2 45 j = μ2.2 49 j := fun j hj => by
      rw [cp2_v 384 j hj, cp1_2 (by omega)]; rfl
    generalize cp2 (cp1 (fF (fF μ2 40 0) 41 (nI l2)) l2) 384 = ν at hQ e1' e2' e3' e4'
    have k40 : ν.1 40 = 0 := by rw [e1']; rfl
    have k41 : ν.1 41 = nI l2 := by rw [e1']; rfl
    have he : Eqr μ ν := by
      refine ⟨fun g hg => ?_, fun f hf => ?_⟩
      · rw [e1', fF_1, if_neg (by omega), fF_1, if_neg (by omega), b3 g (by omega), g0 g (by omega)]
      · rw [e2' f (by omega), b4 f (by omega), a0]
    obtain ⟨hRC, hWR, h41⟩ := RC_new (r := r) (ρ := fF ρ2 1 0) hR hX he k40 rfl hr.symm d2 d3 k41 d4 e3' e4'
    rw [hrr, ← hσ] at hRC
    have hs : Sm (tk [9, 11, 71, 75, 80, 86, 90, 95, 100, 12]) σ (sP (sP (cP σ c r (fF ρ1 1 0)) 12 c 8 (some r)) 12 c 9 (some rr)) := SmsP (SmsP (Sm_tk (Sm_cP _ _ _ _) (by decide)) rfl _ _ _) rfl _ _ _
    refine ⟨some (.int (nI l2)), _, ν, ?_, fun μ0 hμ hL => ?_, ⟨_, _, _, _, _, _, _, _, _, hRC⟩, ⟨_, hs, tk_rf (by decide)⟩, hX, Wf_eqr hW he k40 h41 hWR, by simp only [mX_sP, mX_cP]; omega, by simp only [mS_sP, mS_cP]; omega⟩
    · simp [psh_some, psh_none, -Int32.not_lt, -Int32.not_le, va_rf, isA_r, isR_r, vd, vr, ar, rc_C_rules, e_C_rules_0, e_C_rules_11, e_C_rules_20, e_C_rules_28, e_C_rules_41, e_C_rules_46, hF.cc, fP_12_5 hF, fK_10 hF, p8, p9, hU.1, rd1, mP_cP, mK_cP, mP_sP, mK_sP, mI_sP, cT_s, cL, fF_1, h17]
    · rw [mst _ μ0 hμ hL, b2 uu]
      exact hQ _ hL
  · -- a fault
    rw [if_neg hf] at rd1
    have hLs : LM (cP σ c r (fF ρ1 1 0)) a := hLM
    obtain ⟨ρ2, μ2, e2, l2, b1, b2, b3, b4, b5, b6, b7, b8, b9⟩ := main _ hLs
    have hb := c1.symm.trans b1
    rw [if_neg hf] at hb
    have hv : nI e1.1 + 10 * nI (tF (μ.2 39) (nT μ) e1.2) = if e2.1 = 0 then 0 else nI e2.1 + 10 * nI (tF (μ.2 39) (nT μ) e2.2) := Value.int.inj (Option.some.inj (Prod.mk.inj (Option.some.inj hb)).1)
    have hx : ¬ nI e1.1 + 10 * nI (tF (μ.2 39) (nT μ) e1.2) = 0 := by
      rw [show (10 : Int32) = nI 10 from rfl, pk_mul, nI_add]
      exact nI_ne0 (by omega) (by omega)
    have hf2 : ¬ e2.1 = 0 := fun q => hx (by rw [hv, if_pos q])
    rw [if_neg hf2] at hv
    obtain ⟨d1, d2⟩ := b5 hf2
    have d0 : ¬ nI e2.1 ≤ 0 := nI_nle (by omega) (by omega)
    have he : Eqr μ (fF μ2 40 0) := by
      refine ⟨fun g hg => ?_, fun f hf => ?_⟩
      · rw [fF_1, if_neg (by omega), b3 g (by omega), g0 g (by omega)]
      · rw [fF_2, b4 f (by omega), a0]
    have k41 : (fF μ2 40 0).1 41 = μ.1 41 := by rw [fF_1, if_neg (by decide), b3 41 (by omega), g0 41 (by omega)]
    have k4 : ∀ f, 42 ≤ f → f ≤ 45 → (fF μ2 40 0).2 f = μ.2 f := fun f h1 h2 => by rw [fF_2, b4 f (by omega), a0]
    have hRC := RC_flt (r := r) (ρ := fF ρ1 1 0) hR hX he rfl k41 k4 rfl (by rw [hrr]; exact hne)
    have hWR : WR (fF μ2 40 0) := by
      have q := hW.2.2.2.2.2.2.2.1
      unfold WR Rl tm nR at q ⊢
      rw [k41, k4 42 (by omega) (by omega), k4 44 (by omega) (by omega), k4 45 (by omega) (by omega)]
      exact q
    have h41 : (fF μ2 40 0).1 41 = nI (nR (fF μ2 40 0)) ∧ nR (fF μ2 40 0) ≤ 16 := by
      unfold nR
      rw [k41]
      exact hC.r
    refine ⟨some (.int (-1 - (nI e1.1 + 10 * nI (tF (μ.2 39) (nT μ) e1.2)))), cP σ c r (fF ρ1 1 0), fF μ2 40 0, ?_, fun μ0 hμ hL => ?_, ⟨_, _, _, _, _, _, _, _, _, hRC⟩, ⟨_, Sm_cP _ _ _ _, tk_rf (by decide)⟩, hX, Wf_eqr hW he rfl h41 hWR, by simp only [mX_cP]; omega, by simp only [mS_cP]; omega⟩
    · generalize nI e1.1 + 10 * nI (tF (μ.2 39) (nT μ) e1.2) = x at rd1 hx
      simp [psh_some, psh_none, -Int32.not_lt, -Int32.not_le, va_rf, isA_r, isR_r, vd, vr, ar, rc_C_rules, e_C_rules_0, e_C_rules_11, e_C_rules_20, e_C_rules_24, hF.cc, fP_12_5 hF, fK_10 hF, p8, p9, hU.1, rd1, mP_cP, mK_cP, cT_s, hx]
    · rw [mst _ μ0 hμ hL, b2 uu]
      have ev : -1 - (nI e1.1 + 10 * nI (tF (μ.2 39) (nT μ) e1.2)) = -1 - nI e2.1 - 10 * nI (tF (μ.2 39) (nT μ) e2.2) := by rw [hv]; grind
      rw [ev]
      simp [psh_some, psh_none, -Int32.not_lt, -Int32.not_le, q_M_rules_48, q_M_rules_53, q_M_rules_60, hL, fF_1, d1, d2, d0]
end O78
