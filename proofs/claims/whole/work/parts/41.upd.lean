/-! ===== ONE BOAT, ONE STOP CHANGED ===== -/
section U41
variable {σ σ' : Mm} {c : Nat} {E S L B G H Q : Nat → Nat} {Z : Nat → List Nat} {w : Bool} {μ μ' : Ms}
theorem RB_upd {k : Nat} (h : RB σ S B H μ) (hC : Cn μ) (hk : k < nB μ) (hK : mK σ' = mK σ) (hI : ∀ j, j ≠ B k → ∀ f, mI σ' 3 j f = mI σ 3 j f) (hP : ∀ j, j ≠ B k → ∀ f, mP σ' 3 j f = mP σ 3 j f) (h5 : ∀ q f, mI σ' 5 q f = mI σ 5 q f) (e0 : μ'.1 1 = μ.1 1) (eb : μ'.1 16 = μ.1 16) (eo : ∀ f, 17 ≤ f → f ≤ 36 → ∀ j, j ≠ k → μ'.2 f j = μ.2 f j) (eh : ∀ f, 17 ≤ f → f ≤ 23 → μ'.2 f k = μ.2 f k) (hn : RB1 σ' S (B k) (H k) μ' k) : RB σ' S B H μ' := by
  intro j hj
  have hj' : j < nB μ := by unfold nB at hj ⊢; rw [← eb]; exact hj
  have a := h j hj'
  by_cases e : j = k
  · subst e
    refine ⟨hn, ?_⟩
    have b := a.2
    unfold RH at b ⊢
    rw [hK]
    simp only [h5]
    rw [eh 17 (by omega) (by omega), eh 18 (by omega) (by omega), eh 19 (by omega) (by omega), eh 20 (by omega) (by omega), eh 21 (by omega) (by omega), eh 22 (by omega) (by omega), eh 23 (by omega) (by omega)]
    exact b
  · have hne : B j ≠ B k := fun z => e (h.inj hC hj' hk z)
    have b := a.1
    have b2 := a.2
    unfold RB1 aT wH at b ⊢
    unfold RH at b2 ⊢
    rw [hK]
    simp only [h5, hI _ hne, hP _ hne]
    rw [e0, eo 17 (by omega) (by omega) j e, eo 18 (by omega) (by omega) j e, eo 19 (by omega) (by omega) j e, eo 20 (by omega) (by omega) j e, eo 21 (by omega) (by omega) j e, eo 22 (by omega) (by omega) j e, eo 23 (by omega) (by omega) j e, eo 24 (by omega) (by omega) j e, eo 25 (by omega) (by omega) j e, eo 26 (by omega) (by omega) j e, eo 27 (by omega) (by omega) j e, eo 28 (by omega) (by omega) j e, eo 29 (by omega) (by omega) j e, eo 30 (by omega) (by omega) j e, eo 31 (by omega) (by omega) j e, eo 32 (by omega) (by omega) j e, eo 33 (by omega) (by omega) j e, eo 34 (by omega) (by omega) j e, eo 35 (by omega) (by omega) j e, eo 36 (by omega) (by omega) j e]
    exact ⟨b, b2⟩
theorem RP_eq (h : RP σ B μ) (h6 : ∀ q, mI σ' 3 q 6 = mI σ 3 q 6) (h7 : ∀ q, mI σ' 3 q 7 = mI σ 3 q 7) (e1 : μ'.1 16 = μ.1 16) (e2 : μ'.1 60 = μ.1 60) (e : Ar [62, 64, 66] μ μ') : RP σ' B μ' := by
  intro k hk
  have hk' : k < nB μ := by unfold nB at hk ⊢; rw [← e1]; exact hk
  have z := h k hk'
  have e4 : nG μ' = nG μ := by unfold nG; rw [e2]
  rw [h6, h7, pd1_eq (e 64 (by decide)) (e 66 (by decide)) (e 62 (by decide)), e4]
  exact ⟨z.1.eq e2 (e 64 (by decide)) (e 66 (by decide)), z.2⟩
theorem RS_eq (h : RS σ S μ) (hK : mK σ' = mK σ) (hI : ∀ q f, mI σ' 10 q f = mI σ 10 q f) (e1 : μ'.1 2 = μ.1 2) (e : Ar [3, 4, 5, 6] μ μ') (es : ∀ s, s < nS μ → sm (mo1 μ' (nI s)) (nB μ') = sm (mo1 μ (nI s)) (nB μ)) : RS σ' S μ' := by
  intro k hk
  have hk' : k < nS μ := by unfold nS at hk ⊢; rw [← e1]; exact hk
  rw [hK]
  simp only [hI]
  rw [e 3 (by decide), e 4 (by decide), e 5 (by decide), e 6 (by decide), es k hk']
  exact h k hk'
theorem WB_upd {k : Nat} (h : WB μ) (hk : k < nB μ) (es : μ'.1 2 = μ.1 2) (eb : μ'.1 16 = μ.1 16) (eo : ∀ f, 17 ≤ f → f ≤ 36 → ∀ j, j ≠ k → μ'.2 f j = μ.2 f j) (hn : WB1 μ' k) : WB μ' := by
  refine ⟨fun j hj => ?_, fun j hj => ?_⟩
  · have hj' : j < nB μ := by unfold nB at hj ⊢; rw [← eb]; exact hj
    by_cases e : j = k
    · rw [e]; exact hn
    · have a := h.1 j hj'
      unfold WB1 aT wH nS at a ⊢
      rw [es, eo 17 (by omega) (by omega) j e, eo 18 (by omega) (by omega) j e, eo 19 (by omega) (by omega) j e, eo 20 (by omega) (by omega) j e, eo 21 (by omega) (by omega) j e, eo 22 (by omega) (by omega) j e, eo 23 (by omega) (by omega) j e, eo 24 (by omega) (by omega) j e, eo 25 (by omega) (by omega) j e, eo 26 (by omega) (by omega) j e, eo 27 (by omega) (by omega) j e, eo 29 (by omega) (by omega) j e, eo 30 (by omega) (by omega) j e, eo 31 (by omega) (by omega) j e, eo 32 (by omega) (by omega) j e, eo 36 (by omega) (by omega) j e]
      exact a
  · have hj' : nB μ ≤ j := by unfold nB at hj ⊢; rw [← eb]; exact hj
    have e : j ≠ k := by omega
    have a := h.2 j hj'
    rw [eo 32 (by omega) (by omega) j e, eo 33 (by omega) (by omega) j e, eo 34 (by omega) (by omega) j e, eo 35 (by omega) (by omega) j e, eo 36 (by omega) (by omega) j e]
    exact a
theorem WS_eq (h : WS μ) (e1 : μ'.1 2 = μ.1 2) (e : Ar [3, 4, 5, 6] μ μ') (es : ∀ s, s < nS μ → sm (mo1 μ' (nI s)) (nB μ') = sm (mo1 μ (nI s)) (nB μ)) : WS μ' := by
  refine ⟨fun k hk => ?_, fun k hk => ?_⟩
  · have hk' : k < nS μ := by unfold nS at hk ⊢; rw [← e1]; exact hk
    have a := h.1 k hk'
    unfold frA at a ⊢
    rw [e 3 (by decide), e 4 (by decide), e 5 (by decide), e 6 (by decide), es k hk']
    exact a
  · have hk' : nS μ ≤ k := by unfold nS at hk ⊢; rw [← e1]; exact hk
    rw [e 6 (by decide)]
    exact h.2 k hk'
theorem WG_eq (h : WG μ) (e1 : μ'.1 2 = μ.1 2) (e2 : μ'.1 16 = μ.1 16) (e3 : μ'.1 60 = μ.1 60) (e : Ar [61, 62, 63, 64, 65, 66, 68] μ μ') : WG μ' := by
  unfold WG WG1 gT gA nG nS nB at h ⊢
  rw [e1, e2, e3, e 61 (by decide), e 62 (by decide), e 63 (by decide), e 64 (by decide), e 65 (by decide), e 66 (by decide), e 68 (by decide)]
  exact h
theorem mo_congr {s : Int32} {n : Nat} (h : ∀ j, j < n → (μ'.2 24 j = 0 ∧ μ'.2 25 j = s ↔ μ.2 24 j = 0 ∧ μ.2 25 j = s)) : sm (mo1 μ' s) n = sm (mo1 μ s) n := by
  refine sm_congr fun j hj => ?_
  unfold mo1
  by_cases q : μ.2 24 j = 0 ∧ μ.2 25 j = s
  · rw [if_pos q, if_pos ((h j hj).mpr q)]
  · rw [if_neg q, if_neg (fun z => q ((h j hj).mp z))]
end U41
