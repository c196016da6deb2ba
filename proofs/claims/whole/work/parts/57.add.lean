/-! ===== A LIST GROWS BY ONE ===== -/
section O57
variable {σ σ' : Mm} {c a : Nat} {E S L B G H Q : Nat → Nat} {Z : Nat → List Nat} {w : Bool} {μ μ' : Ms} (d : Nat)
def gro (σ : Mm) (e m : Nat) : Mm := ((nw σ 1003 (m + m / 2) (m + m / 2)).1, (fun c q j => if c = 1003 ∧ q = mX σ ∧ j < m then mP σ 1003 e j else (nw σ 1003 (m + m / 2) (m + m / 2)).2.1 c q j), (nw σ 1003 (m + m / 2) (m + m / 2)).2.2)
theorem mI_gro (σ : Mm) (e m c q j : Nat) : mI (gro σ e m) c q j = if c = 1003 ∧ q = mX σ then 0 else mI σ c q j := rfl
theorem mP_gro (σ : Mm) (e m c q j : Nat) : mP (gro σ e m) c q j = if c = 1003 ∧ q = mX σ ∧ j < m then mP σ 1003 e j else if c = 1003 ∧ q = mX σ then none else mP σ c q j := rfl
theorem mK_gro (σ : Mm) (e m q : Nat) : mK (gro σ e m) q = if q = mX σ then 1003 else mK σ q := rfl
theorem mN_gro (σ : Mm) (e m q : Nat) : mN (gro σ e m) q = if q = mX σ then m + m / 2 else mN σ q := rfl
theorem mX_gro (σ : Mm) (e m : Nat) : mX (gro σ e m) = mX σ + 1 := rfl
theorem mS_gro (σ : Mm) (e m : Nat) : mS (gro σ e m) = mS σ + (m + m / 2) := rfl
theorem grS_1 {l : Nat} (h : mP σ 19 0 100 = mP σ 1 l 1) : grS σ l = sP (nw σ 1003 10 10) 1 l 1 (some (mX σ)) := if_pos h
theorem grS_2 {l e : Nat} (h : ¬ mP σ 19 0 100 = mP σ 1 l 1) (h2 : mP σ 1 l 1 = some e) : grS σ l = sP (gro σ e (mN σ e)) 1 l 1 (some (mX σ)) := by
  unfold grS gre gro
  rw [if_neg h, h2]
  rfl
/-- what a list's growth by b leaves -/
def Ad (σ : Mm) (l e n b : Nat) (g : Nat → Nat) (σ' : Mm) (e' : Nat) : Prop := Lst σ' l e' (n + 1) (fun k => if k = n then b else g k) ∧ Sm (tk [1, 1003]) σ σ' ∧ (∀ q, q ≠ l → ∀ f, mI σ' 1 q f = mI σ 1 q f ∧ mP σ' 1 q f = mP σ 1 q f) ∧ (∀ q, q < mX σ → q ≠ e → ∀ f, mP σ' 1003 q f = mP σ 1003 q f) ∧ (e' = e ∨ e' = mX σ) ∧ e' < mX σ' ∧ Kx σ' ∧ mX σ' ≤ mX σ + 1 ∧ mS σ' ≤ mS σ + 43
theorem c_add {l e n b : Nat} {g : Nat → Nat} (h : Lst σ l e n g) (hz : Ez σ) (hX : Kx σ) (hn : n ≤ 29) (hb : 0 < mK σ b) (hb2 : mK σ b < 19) (he : e < mX σ) (hgk : ∀ k, k < n → 0 < mK σ (g k) ∧ mK σ (g k) < 19) : ∃ σ' e', runc (d + 1) 193 [.ref l, .ref b] σ = some (some (.int 1), σ') ∧ Ad σ l e n b g σ' e' := by
  obtain ⟨z, z1, z2, z3⟩ := hz
  obtain ⟨l1, l2, l3⟩ := h
  have hbx : b < mX σ := hX b (by omega)
  have hlx : l < mX σ := hX.lt l1 (by decide)
  have nbx : ¬ b = mX σ := by omega
  have nlx : ¬ l = mX σ := by omega
  rcases l3 with ⟨n0, p0⟩ | ⟨p0, p1, p2, p3, p4, p5⟩
  · subst n0
    rw [z1] at p0
    have hG : grG (sI σ 1 l 0 (mI σ 1 l 0 + 1)) l = true := by simp [grG, mP_sI, mI_sI, z1, p0, l2, nI_0]
    have hS := grS_1 (σ := sI σ 1 l 0 (mI σ 1 l 0 + 1)) (l := l) (by simp [mP_sI, z1, p0])
    have i10 : ix 0 10 = true := by decide
    refine ⟨sI (sP (sP (nw (sI σ 1 l 0 (mI σ 1 l 0 + 1)) 1003 10 10) 1 l 1 (some (mX σ))) 1003 (mX σ) 0 (some b)) 1 l 2 1, mX σ, ?_, ?_⟩
    · have e0 := e_AL_add_0 d l (.ref b) (.ref z) 0 (sI σ 1 l 0 (mI σ 1 l 0 + 1)) (isR_r _) (isA_r _) (Or.inl z1)
      simp [psh_some, psh_none, -Int32.not_lt, -Int32.not_le, va_rf, vd, vr, isR_r, isR_n, isA_r, isI_i, isI_r, isR_i, ar, akI, akZ, akB, akO, mI_sI, mP_sI, mK_sI, mN_sI, mX_sI, mP_sP, mI_sP, mK_sP, mN_sP, mX_sP, rc_AL_add3, e_AL_add3_0, e_AL_add3_10, e_AL_add3_23, rc_AL_add, e0, e_AL_add_6, e_AL_add_10, e_AL_add_11, e_AL_add_15, e_AL_add_22, l1, l2, nI_0, p0, z1, hG, hS, mK_nw, mN_nw, nbx, nlx, hb, hb2, i10]
    · refine ⟨⟨?_, ?_, Or.inr ⟨?_, ?_, ?_, ?_, ?_, ?_⟩⟩, SmsI (SmsPn (SmsP (Smnw (SmsI (Sm.rfl' σ) rfl _ _ _) _ _ _) rfl _ _ _) _ (Nat.le_refl _) _ _) rfl _ _ _, fun q hq f => ?_, fun q hq hq2 f => ?_, Or.inr rfl, ?_, KxsI (KxsP (KxsP (Kxnw (KxsI hX _ _ _ _) _ _ _) _ _ _ _) _ _ _ _) _ _ _ _, ?_, ?_⟩
      · simp [mK_sI, mK_sP, mK_nw, nlx, l1, mX_sI]
      · simp [mI_sI, nI_0]; rfl
      · simp [mP_sI, mP_sP]
      · simp [mK_sI, mK_sP, mK_nw, mX_sI]
      · simp [mN_sI, mN_sP, mN_nw, mX_sI]
      · simp [mN_sI, mN_sP, mN_nw, mX_sI]
      · simp [mN_sI, mN_sP, mN_nw, mX_sI]
      · intro k hk
        have : k = 0 := by omega
        subst this
        simp [mP_sI, mP_sP]
      · simp [mI_sI, mI_sP, mI_nw, mP_sI, mP_sP, mP_nw, hq]
      · have : ¬ q = mX σ := by omega
        simp [mP_sI, mP_sP, mP_nw, mX_sI, this]
      · simp [mX_sI, mX_sP, mX_nw]
      · simp [mX_sI, mX_sP, mX_nw]
      · simp only [mS_sI, mS_sP, mS_nw]; omega
  · have hez : ¬ z = e := fun q => by rw [q, p1] at z2; cases z2
    have hze : ¬ e = z := fun q => hez q.symm
    by_cases hfull : n = mN σ e
    · have hGE : grE (sI σ 1 l 0 (mI σ 1 l 0 + 1)) e = true := by
        unfold grE
        rw [List.all_eq_true]
        intro j hj
        have hj2 : j < n := by rw [hfull]; exact List.mem_range.mp hj
        show (match mP σ 1003 e j with | some y => decide (0 < mK σ y) && decide (mK σ y < 19) | none => true) = true
        rw [p5 j hj2]
        show (decide (0 < mK σ (g j)) && decide (mK σ (g j) < 19)) = true
        rw [decide_eq_true (hgk j hj2).1, decide_eq_true (hgk j hj2).2]; rfl
      have hG : grG (sI σ 1 l 0 (mI σ 1 l 0 + 1)) l = true := by
        have q1 : (2 : Nat) ≤ mN σ e := by omega
        have q2 : mN σ e ≤ 1000 := by omega
        simp [grG, gre, mP_sI, mI_sI, mK_sI, mN_sI, z1, p0, l2, p1, hez, va_rf, isA_r, q1, q2, hGE]
        rw [hfull]; rfl
      have hS := grS_2 (σ := sI σ 1 l 0 (mI σ 1 l 0 + 1)) (l := l) (e := e) (by simp [mP_sI, z1, p0, hez]) (by simp [mP_sI, p0])
      have hN : mN (sI σ 1 l 0 (mI σ 1 l 0 + 1)) e = n := by rw [mN_sI, ← hfull]
      rw [hN] at hS
      have hof : nI n = Int32.ofNat (mN σ e) := by rw [← hfull]; rfl
      have iN : ix (nI n) (n + n / 2) = true := ix_of (by omega) (by omega)
      have cn := cl1000 (show n < 1000 by omega)
      refine ⟨sI (sP (sP (gro (sI σ 1 l 0 (mI σ 1 l 0 + 1)) e n) 1 l 1 (some (mX σ))) 1003 (mX σ) n (some b)) 1 l 2 (nI n + 1), mX σ, ?_, ?_⟩
      · simp [psh_some, psh_none, -Int32.not_lt, -Int32.not_le, va_rf, vd, vr, isR_r, isR_n, isA_r, isI_i, isI_r, isR_i, ar, akI, akZ, akB, akO, mI_sI, mP_sI, mK_sI, mN_sI, mX_sI, mP_sP, mI_sP, mK_sP, mN_sP, mX_sP, rc_AL_add3, e_AL_add3_0, e_AL_add3_10, e_AL_add3_23, rc_AL_add, e_AL_add_0, e_AL_add_6, e_AL_add_10, e_AL_add_11, e_AL_add_15, e_AL_add_22, l1, l2, p0, p1, z1, hez, hof.symm, hG, hS, mK_gro, mN_gro, mX_sI, nbx, nlx, hb, hb2, iN, cn]
      · have hSm : Sm (tk [1, 1003]) σ (gro (sI σ 1 l 0 (mI σ 1 l 0 + 1)) e n) := by
          refine ⟨fun q hq => ?_, fun c' hc' q hq k => ?_, by rw [mX_gro, mX_sI]; omega⟩
          · have : ¬ q = mX σ := by omega
            simp [mK_gro, mN_gro, mX_sI, this, mK_sI, mN_sI]
          · have e1 : c' ≠ 1 := fun y => by rw [y] at hc'; cases hc'
            have : ¬ q = mX σ := by omega
            simp [mI_gro, mP_gro, mI_sI, mP_sI, mX_sI, this, e1]
        refine ⟨⟨?_, ?_, Or.inr ⟨?_, ?_, ?_, ?_, ?_, ?_⟩⟩, SmsI (SmsPn (SmsP hSm rfl _ _ _) _ (Nat.le_refl _) _ _) rfl _ _ _, fun q hq f => ?_, fun q hq hq2 f => ?_, Or.inr rfl, ?_, KxsI (KxsP (KxsP ?_ _ _ _ _) _ _ _ _) _ _ _ _, ?_, ?_⟩
        · simp [mK_sI, mK_sP, mK_gro, nlx, l1, mX_sI]
        · simp [mI_sI, nI_1]
        · simp [mP_sI, mP_sP]
        · simp [mK_sI, mK_sP, mK_gro, mX_sI]
        · simp only [mN_sI, mN_sP, mN_gro, mX_sI, if_true]; omega
        · simp only [mN_sI, mN_sP, mN_gro, mX_sI, if_true]; omega
        · simp only [mN_sI, mN_sP, mN_gro, mX_sI, if_true]; omega
        · intro k hk
          by_cases y : k = n
          · simp [mP_sI, mP_sP, y]
          · have y2 : k < n := by omega
            simp [mP_sI, mP_sP, mP_gro, mX_sI, y, y2, p5 k y2]
        · simp [mI_sI, mI_sP, mI_gro, mP_sI, mP_sP, mP_gro, hq]
        · have : ¬ q = mX σ := by omega
          simp [mP_sI, mP_sP, mP_gro, mX_sI, this]
        · simp [mX_sI, mX_sP, mX_gro]
        · intro q hq
          rw [mX_gro, mX_sI]
          rw [mK_gro, mX_sI] at hq
          by_cases y : q = mX σ
          · omega
          · rw [if_neg y] at hq
            have := hX q hq
            omega
        · simp [mX_sI, mX_sP, mX_gro]
        · simp only [mS_sI, mS_sP, mS_gro]; omega
    · have hlt : n < mN σ e := by omega
      have hof : ¬ nI n = Int32.ofNat (mN σ e) := fun y => by
        have : nI n = nI (mN σ e) := y
        rw [nI_eq (by omega) (by omega)] at this
        omega
      have iN : ix (nI n) (mN σ e) = true := ix_of hlt (by omega)
      have cn := cl1000 (show n < 1000 by omega)
      refine ⟨sI (sP (sI σ 1 l 0 (mI σ 1 l 0 + 1)) 1003 e n (some b)) 1 l 2 (nI n + 1), e, ?_, ?_⟩
      · have e0 := e_AL_add_11 d l (.ref b) (.ref e) (nI n) (sI σ 1 l 0 (mI σ 1 l 0 + 1)) (isR_r _) (isR_r _) (isA_r _) (isA_r _) (by show akO (mK σ e) = true; rw [p1]; rfl) hb hb2 iN
        simp [psh_some, psh_none, -Int32.not_lt, -Int32.not_le, va_rf, vd, vr, isR_r, isR_n, isA_r, isI_i, isI_r, isR_i, ar, akI, akZ, akB, akO, mI_sI, mP_sI, mK_sI, mN_sI, mX_sI, mP_sP, mI_sP, mK_sP, mN_sP, mX_sP, rc_AL_add3, e_AL_add3_0, e_AL_add3_10, e_AL_add3_23, rc_AL_add, e_AL_add_0, e0, e_AL_add_15, e_AL_add_22, l1, l2, p0, p1, z1, hez, hof, hb, hb2, iN, cn]
      · refine ⟨⟨l1, ?_, Or.inr ⟨?_, p1, ?_, p3, p4, ?_⟩⟩, SmsI (SmsP (SmsI (Sm.rfl' σ) rfl _ _ _) rfl _ _ _) rfl _ _ _, fun q hq f => ?_, fun q hq hq2 f => ?_, Or.inl rfl, he, KxsI (KxsP (KxsI hX _ _ _ _) _ _ _ _) _ _ _ _, ?_, ?_⟩
        · simp [mI_sI, nI_1]
        · simp [mP_sI, mP_sP, p0]
        · show n + 1 ≤ mN σ e; omega
        · intro k hk
          by_cases y : k = n
          · simp [mP_sI, mP_sP, y]
          · have y2 : k < n := by omega
            simp [mP_sI, mP_sP, y, p5 k y2]
        · simp [mI_sI, mI_sP, mP_sI, mP_sP, hq]
        · simp [mP_sI, mP_sP, hq2]
        · simp [mX_sI, mX_sP]
        · simp only [mS_sI, mS_sP]; omega
theorem Lst_oth {l e n l' e' n' : Nat} {g g' : Nat → Nat} {b : Nat} {e1 : Nat} (h : Lst σ l' e' n' g') (hz : Ez σ) (hX : Kx σ) (hA : Ad σ l e n b g σ' e1) (hl : l' ≠ l) (he : e' ≠ e) : Lst σ' l' e' n' g' := by
  obtain ⟨z, _, _, z3⟩ := hz
  obtain ⟨a1, a2, a3⟩ := h
  obtain ⟨_, hs, q1, q2, _⟩ := hA
  have hl' := hX.lt a1 (by decide)
  refine ⟨(hs.K hl').trans a1, (q1 l' hl 2).1.trans a2, ?_⟩
  rcases a3 with ⟨b1, b2⟩ | ⟨b1, b2, b3, b4, b5, b6⟩
  · exact Or.inl ⟨b1, by rw [(q1 l' hl 1).2, hs.P rfl (by omega)]; exact b2⟩
  · have he' := hX.lt b2 (by decide)
    exact Or.inr ⟨(q1 l' hl 1).2.trans b1, (hs.K he').trans b2, by rw [hs.N he']; exact b3, by rw [hs.N he']; exact b4, by rw [hs.N he']; exact b5, fun k hk => (q2 e' he' he k).trans (b6 k hk)⟩
/-- a row of addresses with one more -/
def adj (g : Nat → Nat) (n b : Nat) : Nat → Nat := fun k => if k = n then b else g k
theorem adj_o {g : Nat → Nat} {n b k : Nat} (h : k ≠ n) : adj g n b k = g k := if_neg h
theorem adj_n {g : Nat → Nat} {n b : Nat} : adj g n b n = b := if_pos rfl
/-- the lists' rows stay different -/
theorem E_add {i e' : Nat} (hE : ∀ i j, i < 4 → j < 4 → E i = E j → i = j) (hE2 : ∀ i, i < 4 → E i < mX σ) (hi : i < 4) (he : e' = E i ∨ e' = mX σ) (he2 : e' < mX σ') (hx : mX σ ≤ mX σ') : (∀ p q, p < 4 → q < 4 → adj E i e' p = adj E i e' q → p = q) ∧ ∀ p, p < 4 → adj E i e' p < mX σ' := by
  refine ⟨fun p q hp hq h => ?_, fun p hp => ?_⟩
  · unfold adj at h
    have h1 := hE2 p hp
    have h2 := hE2 q hq
    have h3 := hE p q hp hq
    by_cases y1 : p = i <;> by_cases y2 : q = i
    · omega
    · rw [if_pos y1, if_neg y2] at h
      rcases he with h4 | h4
      · have := hE q i hq hi (by rw [← h, h4])
        omega
      · omega
    · rw [if_neg y1, if_pos y2] at h
      rcases he with h4 | h4
      · have := hE p i hp hi (by rw [h, h4])
        omega
      · omega
    · rw [if_neg y1, if_neg y2] at h
      exact h3 h
  · unfold adj
    by_cases y : p = i
    · rw [if_pos y]; exact he2
    · rw [if_neg y]
      have := hE2 p hp
      omega
end O57
