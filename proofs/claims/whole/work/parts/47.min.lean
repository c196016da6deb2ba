/-! ===== A MINUTE OF THE CLASS ===== -/
section O47
variable {σ σ' : Mm} {c : Nat} {E S L B G H Q : Nat → Nat} {Z : Nat → List Nat} {w : Bool} {μ μ' : Ms} (d : Nat)
theorem b_1 (i : Nat) : btI 1 i = decide (i = 0) := by
  rcases Nat.lt_or_ge i 32 with h | h
  · exact (by decide +kernel : ∀ i, i < 32 → btI 1 i = decide (i = 0)) i h
  · rw [b_big h, decide_eq_false (by omega)]
theorem bit_at (x : Int32) {n : Nat} (hn : n < 32) : (x >>> (nI n &&& 31)) &&& 1 = if btI x n = true then 1 else 0 := by
  apply b_ext
  intro i hi
  rw [b_and, b_sshr n hn x hi, b_1]
  by_cases h0 : i = 0
  · subst h0
    rw [if_pos (by omega)]
    cases hb : btI x n <;> simp [hb, b_1, b_0]
  · cases hb : btI x n <;> simp [h0, b_1, b_0]
theorem c_carries {b j : Nat} (hb : mK σ b = 3) (hj : j < 30) : runc (d + 1) 5 [.ref b, .int (nI j)] σ = some (some (.int (bZ (btI (mI σ 3 b 6) j = true))), σ) := by
  have h1 : ¬ nI j < 0 ∧ ¬ (29 : Int32) < nI j := ⟨nI_pos (by omega), nI_nlt (b := j) (a := 29) (by omega) (by omega)⟩
  have h2 := bit_at (mI σ 3 b 6) (show j < 32 by omega)
  by_cases z : btI (mI σ 3 b 6) j = true
  · rw [if_pos z] at h2
    rw [bZ_t z]
    simp [psh_some, psh_none, -Int32.not_lt, -Int32.not_le, va_rf, vd, vr, isR_r, isR_n, isA_r, isI_i, isI_r, isR_i, ar, akI, akZ, akB, akO, mI_sI, mP_sI, mK_sI, mN_sI, mX_sI, mP_sP, mI_sP, mK_sP, mN_sP, mX_sP, rc_Boat_carries, e_Boat_carries_0, e_Boat_carries_7, e_Boat_carries_10, e_Boat_carries_22, e_Boat_carries_26, e_Boat_carries_27, c_within, bZ_t h1, hb, h2]
  · rw [if_neg z] at h2
    rw [bZ_f z]
    simp [psh_some, psh_none, -Int32.not_lt, -Int32.not_le, va_rf, vd, vr, isR_r, isR_n, isA_r, isI_i, isI_r, isR_i, ar, akI, akZ, akB, akO, mI_sI, mP_sI, mK_sI, mN_sI, mX_sI, mP_sP, mI_sP, mK_sP, mN_sP, mX_sP, rc_Boat_carries, e_Boat_carries_0, e_Boat_carries_7, e_Boat_carries_10, e_Boat_carries_22, e_Boat_carries_26, e_Boat_carries_27, c_within, bZ_t h1, hb, h2]
/-- a step that makes nothing new -/
def Spq (ks : List Nat) (σ : Mm) (c : Nat) (E S L B G H Q : Nat → Nat) (Z : Nat → List Nat) (w : Bool) (σ' : Mm) (μ' : Ms) : Prop := RC σ' c E S L B G H Q Z w μ' ∧ Sm (tk ks) σ σ' ∧ Kx σ' ∧ mX σ' = mX σ ∧ mS σ' = mS σ
theorem Spq.mono {ks ks' : List Nat} (h : Spq ks σ c E S L B G H Q Z w σ' μ') (hk : ∀ k ∈ ks, k ∈ ks') : Spq ks' σ c E S L B G H Q Z w σ' μ' := by
  refine ⟨h.1, h.2.1.mono (fun q hq => ?_), h.2.2⟩
  simp only [tk, decide_eq_false_iff_not] at hq ⊢
  exact fun z => hq (hk q z)
theorem Spq.trans {ks : List Nat} {σ1 σ2 : Mm} {μ1 : Ms} (h : Spq ks σ c E S L B G H Q Z w σ1 μ1) (h2 : Spq ks σ1 c E S L B G H Q Z w σ2 μ') : Spq ks σ c E S L B G H Q Z w σ2 μ' :=
  ⟨h2.1, h.2.1.trans h2.2.1, h2.2.2.1, h2.2.2.2.1.trans h.2.2.2.1, h2.2.2.2.2.trans h.2.2.2.2⟩
theorem RC_lose {j y : Nat} (hR : RC σ c E S L B G H Q Z w μ) (hX : Kx σ) (hj : j < nG μ) (hy : y < 7) (v : Int32) : RC (sI σ 20 (Q j) y v) c E S L B G H Q Z w (fA μ 68 (7 * j + y) v) := by
  obtain ⟨hF, hz, hRX, hRS, hRL, hRB, hRP, hRG, hRF, hRT, hRK, hRR, hRN⟩ := id hR
  have hs : Sm (tk [20]) σ (sI σ 20 (Q j) y v) := SmsI (Sm.rfl' σ) rfl _ _ _
  refine ⟨hF.fr hX hs (by rintro q (rfl | rfl | rfl | rfl | rfl) <;> rfl), hz.fr hs rfl, hRX.fr hz hX hs rfl rfl rfl rfl rfl rfl rfl, hRS.fr hX hs rfl rfl rfl rfl rfl rfl rfl rfl rfl, hRL.fr hX hs rfl rfl rfl rfl rfl, hRB.fr hX hs rfl rfl rfl rfl (Ar_of (by repeat' constructor)), hRP.fr (fun k hk => (hRB k hk).1.1) hX hs rfl rfl rfl (Ar_of (by repeat' constructor)), ⟨fun g hg => ⟨(hRG.1 g hg).1, (hRG.1 g hg).2.1, (hRG.1 g hg).2.2.1, fun y' hy' => ?_⟩, hRG.2.1, hRG.2.2⟩, hRF.fr hF hX hs rfl rfl rfl rfl rfl rfl (Ar_of (by repeat' constructor)), hRT.fr hF hX hs rfl rfl rfl rfl, hRK.fr hF hX hs rfl rfl rfl rfl rfl (Ar_of (by repeat' constructor)), hRR.fr hF hX hs rfl (by rintro q (rfl | rfl | rfl | rfl | rfl | rfl | rfl | rfl) <;> rfl) rfl (Ar_of (by repeat' constructor)), hRN.fr hF hX hs rfl rfl rfl rfl rfl rfl⟩
  have a := (hRG.1 g hg).2.2.2 y' hy'
  rw [mI_sI, fA_2]
  by_cases e : g = j ∧ y' = y
  · rw [if_pos ⟨rfl, by rw [e.1], e.2⟩, if_pos ⟨rfl, by omega⟩]
  · rw [if_neg (fun z => e ⟨hRG.2.2 g j hg hj z.2.1, z.2.2⟩), if_neg (fun z => e (by omega))]
    exact a
theorem Wf_lose {i : Nat} (hW : Wf μ) (hi : i < 7 * nG μ) (v : Int32) : Wf (fA μ 68 i v) := by
  refine ⟨hW.1, hW.2.1, hW.2.2.1, hW.2.2.2.1, ⟨hW.2.2.2.2.1.1, fun i' hi' => ?_⟩, hW.2.2.2.2.2⟩
  rw [fA_2, if_neg (fun z => by have : 7 * nG μ ≤ i' := hi'; omega)]
  exact hW.2.2.2.2.1.2 i' hi'
theorem lsN_nG (x : Int32) (y : Nat) (m : Int32) (j : Nat) : nG (lsN μ x y m j) = nG μ := by unfold nG; rw [lsN_1]
theorem lsN_nB (x : Int32) (y : Nat) (m : Int32) (j : Nat) : nB (lsN μ x y m j) = nB μ := by unfold nB; rw [lsN_1]
theorem lsN_no {x : Int32} {y : Nat} {m : Int32} {n : Nat} (h : ∀ j, j < n → ¬ (μ.2 64 j = 1 ∧ μ.2 66 j = x)) : lsN μ x y m n = μ := by
  induction n with
  | zero => rfl
  | succ n ih => rw [lsN, if_neg (h n (by omega)), ih (fun j hj => h j (by omega))]
theorem Wf_lsN (hW : Wf μ) (x : Int32) {y : Nat} (hy : y < 7) (m : Int32) : ∀ n, n ≤ nG μ → Wf (lsN μ x y m n) := by
  intro n
  induction n with
  | zero => intro _; exact hW
  | succ n ih =>
    intro hn
    rw [lsN]
    split
    · exact Wf_lose (ih (by omega)) (by rw [lsN_nG]; omega) _
    · exact ih (by omega)
theorem charge_lp {k y : Nat} (m : Int32) (hk : k < nB μ) (hy : y < 7) (hg30 : nG μ ≤ 30) : ∀ (n j : Nat) (σ : Mm), j + n = nG μ → RC σ c E S L B G H Q Z w (lsN μ (nI k) y m j) → Kx σ → ∃ σ', run (d + 3) 107 21 [.ref c, .ref (B k), .int (nI y), .int m, .int (nI j)] [] σ = some (none, σ') ∧ Spq [20] σ c E S L B G H Q Z w σ' (lsN μ (nI k) y m (nG μ)) := by
  intro n
  induction n with
  | zero =>
    intro j σ hj hR hX
    have : j = nG μ := by omega
    subst this
    obtain ⟨hF, hz, hRX, hRS, hRL, hRB, hRP, hRG, hRF, hRT, hRK, hRR, hRN⟩ := id hR
    have hl := hRX.2.2.2.1
    have e := hl.2.1
    rw [lsN_nG] at e
    refine ⟨σ, ?_, hR, Sm.rfl' σ, hX, rfl, rfl⟩
    simp [psh_some, psh_none, -Int32.not_lt, -Int32.not_le, va_rf, vd, vr, isR_r, isR_n, isA_r, isI_i, isI_r, isR_i, ar, akI, akZ, akB, akO, mI_sI, mP_sI, mK_sI, mN_sI, mX_sI, mP_sP, mI_sP, mK_sP, mN_sP, mX_sP, e_C_charge_21, e_C_charge_32, e_C_charge_73, fK_1 hF, fK_2 hF, fK_3 hF, fK_4 hF, fK_5 hF, fK_6 hF, fN_6 hF, fK_7 hF, fN_7 hF, fK_8 hF, fN_8 hF, fK_9 hF, fN_9 hF, fK_10 hF, fK_11 hF, fN_11 hF, fK_12 hF, fK_13 hF, fN_13 hF, fK_14 hF, fN_14 hF, fK_15 hF, fN_15 hF, fK_16 hF, fN_16 hF, fP_12_0 hF, fP_12_1 hF, fP_12_2 hF, fP_12_3 hF, fP_12_4 hF, fP_12_5 hF, fP_12_6 hF, fP_12_7 hF, fP_4_0 hF, fP_4_1 hF, fP_4_2 hF, fP_4_3 hF, fP_11_0 hF, fP_7_0 hF, fP_7_1 hF, fP_7_2 hF, hF.cc, c_size _ hl.1, e]
  | succ n ih =>
    intro j σ hj hR hX
    obtain ⟨hF, hz, hRX, hRS, hRL, hRB, hRP, hRG, hRF, hRT, hRK, hRR, hRN⟩ := id hR
    have hl := hRX.2.2.2.1
    have e := hl.2.1
    rw [lsN_nG] at e
    have hj' : j < nG (lsN μ (nI k) y m j) := by rw [lsN_nG]; omega
    have h2 : ¬ nI (nG μ) ≤ nI j := nI_ge (by omega) (by omega)
    have hbk := (hRB k (by rw [lsN_nB]; exact hk)).1.1
    have hcg := (hRP k (by rw [lsN_nB]; exact hk)).1 j
    rw [lsN_2 _ _ _ (by decide), lsN_2 _ _ _ (by decide)] at hcg
    have ec := c_carries (d + 1) hbk (show j < 30 by omega)
    have i1 : ix (nI y) 7 = true := ix_of (by omega) (by omega)
    by_cases cnd : μ.2 64 j = 1 ∧ μ.2 66 j = nI k
    · have hb : btI (mI σ 3 (B k) 6) j = true := by rw [hcg]; simp [hj', cnd]
      rw [bZ_t hb] at ec
      have eg := c_get (d) hl (by rw [lsN_nG]; omega) hj'
      obtain ⟨g0, g1, g2, g3, g4, g5, g6, g7, g8⟩ := (hRG.1 j hj').1
      obtain ⟨r0, r1, r2⟩ := (hRG.1 j hj').2
      have hR' := RC_lose hR hX hj' hy ((lsN μ (nI k) y m j).2 68 (7 * j + y) + m)
      have es : lsN μ (nI k) y m (j + 1) = fA (lsN μ (nI k) y m j) 68 (7 * j + y) ((lsN μ (nI k) y m j).2 68 (7 * j + y) + m) := by rw [lsN, if_pos cnd]
      rw [← es] at hR'
      obtain ⟨σ', h1, h3⟩ := ih (j + 1) _ (by omega) hR' (KxsI hX _ _ _ _)
      rw [nI_succ] at h1
      refine ⟨σ', ?_, Spq.trans ⟨hR', SmsI (Sm.rfl' σ) rfl _ _ _, KxsI hX _ _ _ _, rfl, rfl⟩ h3⟩
      simp [psh_some, psh_none, -Int32.not_lt, -Int32.not_le, va_rf, vd, vr, isR_r, isR_n, isA_r, isI_i, isI_r, isR_i, ar, akI, akZ, akB, akO, mI_sI, mP_sI, mK_sI, mN_sI, mX_sI, mP_sP, mI_sP, mK_sP, mN_sP, mX_sP, e_C_charge_21, e_C_charge_32, e_C_charge_35, e_C_charge_41, e_C_charge_44, e_C_charge_55, e_C_charge_67, fK_1 hF, fK_2 hF, fK_3 hF, fK_4 hF, fK_5 hF, fK_6 hF, fN_6 hF, fK_7 hF, fN_7 hF, fK_8 hF, fN_8 hF, fK_9 hF, fN_9 hF, fK_10 hF, fK_11 hF, fN_11 hF, fK_12 hF, fK_13 hF, fN_13 hF, fK_14 hF, fN_14 hF, fK_15 hF, fN_15 hF, fK_16 hF, fN_16 hF, fP_12_0 hF, fP_12_1 hF, fP_12_2 hF, fP_12_3 hF, fP_12_4 hF, fP_12_5 hF, fP_12_6 hF, fP_12_7 hF, fP_4_0 hF, fP_4_1 hF, fP_4_2 hF, fP_4_3 hF, fP_11_0 hF, fP_7_0 hF, fP_7_1 hF, fP_7_2 hF, hF.cc, c_size _ hl.1, e, h2, hbk, ec, eg, g0, g4, r0, r1, r2 y hy, i1, cl1000 (show y < 1000 by omega), h1]
    · have hb : ¬ btI (mI σ 3 (B k) 6) j = true := by rw [hcg]; simp only [decide_eq_true_eq]; exact fun z => cnd z.2
      rw [bZ_f hb] at ec
      have es : lsN μ (nI k) y m (j + 1) = lsN μ (nI k) y m j := by rw [lsN, if_neg cnd]
      obtain ⟨σ', h1, h3⟩ := ih (j + 1) σ (by omega) (by rw [es]; exact hR) hX
      rw [nI_succ] at h1
      refine ⟨σ', ?_, h3⟩
      simp [psh_some, psh_none, -Int32.not_lt, -Int32.not_le, va_rf, vd, vr, isR_r, isR_n, isA_r, isI_i, isI_r, isR_i, ar, akI, akZ, akB, akO, mI_sI, mP_sI, mK_sI, mN_sI, mX_sI, mP_sP, mI_sP, mK_sP, mN_sP, mX_sP, e_C_charge_21, e_C_charge_32, e_C_charge_35, e_C_charge_41, e_C_charge_67, fK_1 hF, fK_2 hF, fK_3 hF, fK_4 hF, fK_5 hF, fK_6 hF, fN_6 hF, fK_7 hF, fN_7 hF, fK_8 hF, fN_8 hF, fK_9 hF, fN_9 hF, fK_10 hF, fK_11 hF, fN_11 hF, fK_12 hF, fK_13 hF, fN_13 hF, fK_14 hF, fN_14 hF, fK_15 hF, fN_15 hF, fK_16 hF, fN_16 hF, fP_12_0 hF, fP_12_1 hF, fP_12_2 hF, fP_12_3 hF, fP_12_4 hF, fP_12_5 hF, fP_12_6 hF, fP_12_7 hF, fP_4_0 hF, fP_4_1 hF, fP_4_2 hF, fP_4_3 hF, fP_11_0 hF, fP_7_0 hF, fP_7_1 hF, fP_7_2 hF, hF.cc, c_size _ hl.1, e, h2, hbk, ec, h1]
theorem c_charge {k y : Nat} (m : Int32) (hR : RC σ c E S L B G H Q Z w μ) (hX : Kx σ) (hC : Cn μ) (hk : k < nB μ) (hy : y < 7) : ∃ σ', runc (d + 3) 107 [.ref c, .ref (B k), .int (nI y), .int m] σ = some (none, σ') ∧ Spq [20] σ c E S L B G H Q Z w σ' (lsN μ (nI k) y m (nG μ)) := by
  obtain ⟨hF, hz, hRX, hRS, hRL, hRB, hRP, hRG, hRF, hRT, hRK, hRR, hRN⟩ := id hR
  have hbk := (hRB k hk).1.1
  by_cases z : mI σ 3 (B k) 6 = 0
  · have e : lsN μ (nI k) y m (nG μ) = μ := lsN_no (fun j hj cnd => by
      have h := (hRP k hk).1 j
      rw [z, b_0] at h
      simp [hj, cnd] at h)
    rw [e]
    refine ⟨σ, ?_, hR, Sm.rfl' σ, hX, rfl, rfl⟩
    simp [psh_some, psh_none, -Int32.not_lt, -Int32.not_le, va_rf, vd, vr, isR_r, isR_n, isA_r, isI_i, isI_r, isR_i, ar, akI, akZ, akB, akO, mI_sI, mP_sI, mK_sI, mN_sI, mX_sI, mP_sP, mI_sP, mK_sP, mN_sP, mX_sP, rc_C_charge, e_C_charge_0, e_C_charge_7, e_C_charge_14, e_C_charge_17, e_C_charge_18, e_C_charge_21, e_C_charge_32, e_C_charge_35, e_C_charge_41, e_C_charge_44, e_C_charge_55, e_C_charge_67, e_C_charge_73, hbk, z]
  · have h1 : ¬ nI y < 0 ∧ ¬ (6 : Int32) < nI y := ⟨nI_pos (by omega), nI_nlt (b := y) (a := 6) (by omega) (by omega)⟩
    obtain ⟨σ', h2, h3⟩ := charge_lp (μ := μ) d m hk hy hC.g.2 (nG μ) 0 σ (by omega) hR hX
    rw [nI_0] at h2
    refine ⟨σ', ?_, h3⟩
    simp [psh_some, psh_none, -Int32.not_lt, -Int32.not_le, va_rf, vd, vr, isR_r, isR_n, isA_r, isI_i, isI_r, isR_i, ar, akI, akZ, akB, akO, mI_sI, mP_sI, mK_sI, mN_sI, mX_sI, mP_sP, mI_sP, mK_sP, mN_sP, mX_sP, rc_C_charge, e_C_charge_0, e_C_charge_7, e_C_charge_14, e_C_charge_18, hbk, z, c_within, bZ_t h1, h2]
theorem c_charge_no {k : Nat} (m : Int32) (hB : mK σ (B k) = 3) : runc (d + 3) 107 [.ref c, .ref (B k), .int (-1), .int m] σ = some (none, σ) := by
  have h1 : ¬ (¬ (-1 : Int32) < 0 ∧ ¬ (6 : Int32) < -1) := by decide
  have e := c_within (d + 2) (-1) 0 6 σ
  rw [bZ_f h1] at e
  by_cases z : mI σ 3 (B k) 6 = 0 <;> simp [psh_some, psh_none, -Int32.not_lt, -Int32.not_le, va_rf, vd, vr, isR_r, isR_n, isA_r, isI_i, isI_r, isR_i, ar, akI, akZ, akB, akO, mI_sI, mP_sI, mK_sI, mN_sI, mX_sI, mP_sP, mI_sP, mK_sP, mN_sP, mX_sP, rc_C_charge, e_C_charge_0, e_C_charge_7, e_C_charge_14, e_C_charge_17, hB, z, e]
/-- bags of a boat that sinks -/
def skM (σ : Mm) (G : Nat → Nat) (μ : Ms) (x : Int32) : Nat → Mm
  | 0 => σ
  | j + 1 => if μ.2 64 j = 1 ∧ μ.2 66 j = x then sI (skM σ G μ x j) 2 (G j) 4 3 else skM σ G μ x j
theorem skM_r (x : Int32) : ∀ j, (skM σ G μ x j).2 = σ.2 := by
  intro j
  induction j with
  | zero => rfl
  | succ j ih => rw [skM]; split; exact ih; exact ih
theorem skM_I (x : Int32) {e : Nat} (he : e ≠ 2) : ∀ j, mI (skM σ G μ x j) e = mI σ e := by
  intro j
  induction j with
  | zero => rfl
  | succ j ih =>
    rw [skM]
    split
    · rw [← ih]; funext q f; rw [mI_sI, if_neg (fun z => he z.1)]
    · exact ih
theorem skM_f (x : Int32) {f : Nat} (hf : f ≠ 4) (q : Nat) : ∀ j, mI (skM σ G μ x j) 2 q f = mI σ 2 q f := by
  intro j
  induction j with
  | zero => rfl
  | succ j ih =>
    rw [skM]
    split
    · rw [mI_sI, if_neg (fun z => hf z.2.2)]; exact ih
    · exact ih
theorem skM_4 (x : Int32) {n : Nat} (hi : ∀ g g', g < n → g' < n → G g = G g' → g = g') {g : Nat} (hg : g < n) : ∀ j, j ≤ n → mI (skM σ G μ x j) 2 (G g) 4 = if g < j ∧ μ.2 64 g = 1 ∧ μ.2 66 g = x then 3 else mI σ 2 (G g) 4 := by
  intro j
  induction j with
  | zero => intro _; rw [if_neg (by omega)]; rfl
  | succ j ih =>
    intro hj
    rw [skM]
    by_cases cnd : μ.2 64 j = 1 ∧ μ.2 66 j = x
    · rw [if_pos cnd, mI_sI]
      by_cases e : g = j
      · subst e
        rw [if_pos ⟨rfl, rfl, rfl⟩, if_pos ⟨by omega, cnd⟩]
      · rw [if_neg (fun z => e (hi g j hg (by omega) z.2.1)), ih (by omega)]
        have : (g < j + 1) = (g < j) := propext (by omega)
        simp only [this]
    · rw [if_neg cnd, ih (by omega)]
      by_cases e : g = j
      · subst e
        rw [if_neg (fun z => cnd z.2), if_neg (fun z => cnd z.2)]
      · have : (g < j + 1) = (g < j) := propext (by omega)
        simp only [this]
theorem FL_r (h : FL σ c) (e : σ'.2 = σ.2) : FL σ' c := by
  have e1 : mK σ' = mK σ := congrArg (fun z => z.2.2.1) e
  have e2 : mN σ' = mN σ := congrArg (fun z => z.2.1) e
  have e3 : mP σ' = mP σ := congrArg (fun z => z.1) e
  unfold FL RuL at h ⊢
  rw [e1, e2, e3]
  exact h
theorem Lst_r {l e n : Nat} {g : Nat → Nat} (h : Lst σ l e n g) (e0 : σ'.2 = σ.2) (e4 : mI σ' 1 = mI σ 1) : Lst σ' l e n g := by
  have e1 : mK σ' = mK σ := congrArg (fun z => z.2.2.1) e0
  have e2 : mN σ' = mN σ := congrArg (fun z => z.2.1) e0
  have e3 : mP σ' = mP σ := congrArg (fun z => z.1) e0
  unfold Lst at h ⊢
  rw [e1, e2, e3, e4]
  exact h
theorem sink_lp {k : Nat} (hR : RC σ c E S L B G H Q Z w μ) (hC : Cn μ) (hk : k < nB μ) {s1 : Mm} (e0 : s1.2 = σ.2) (e1 : mI s1 1 = mI σ 1) (e6 : mI s1 3 (B k) 6 = mI σ 3 (B k) 6) : ∀ n j : Nat, j + n = nG μ → run (d + 3) 106 25 [.ref c, .ref (B k), .int (nI j)] [] (skM s1 G μ (nI k) j) = run (d + 3) 106 69 [.ref c, .ref (B k), .int (nI (nG μ))] [] (skM s1 G μ (nI k) (nG μ)) := by
  obtain ⟨hF0, hz, hRX, hRS, hRL, hRB, hRP, hRG, hRF, hRT, hRK, hRR, hRN⟩ := id hR
  have hg30 := hC.g.2
  have hE : ∀ j, (skM s1 G μ (nI k) j).2 = σ.2 := fun j => (skM_r (nI k) j).trans e0
  have hFj : ∀ j, FL (skM s1 G μ (nI k) j) c := fun j => FL_r hF0 (hE j)
  have hlj : ∀ j, Lst (skM s1 G μ (nI k) j) (c + 4) (E 3) (nG μ) G := fun j => Lst_r hRX.2.2.2.1 (hE j) ((skM_I (nI k) (by decide) j).trans e1)
  have hK : ∀ j q, mK (skM s1 G μ (nI k) j) q = mK σ q := fun j q => congrArg (fun z : (Nat → Nat → Nat → Option Nat) × (Nat → Nat) × (Nat → Nat) × List Nat × Nat × Nat => z.2.2.1 q) (hE j)
  have h6 : ∀ j, mI (skM s1 G μ (nI k) j) 3 (B k) 6 = mI σ 3 (B k) 6 := fun j => by rw [skM_I (nI k) (by decide) j]; exact e6
  intro n
  induction n with
  | zero =>
    intro j hj
    have : j = nG μ := by omega
    subst this
    have hF := hFj (nG μ)
    have hl := hlj (nG μ)
    generalize skM s1 G μ (nI k) (nG μ) = ρ at *
    simp [psh_some, psh_none, -Int32.not_lt, -Int32.not_le, va_rf, vd, vr, isR_r, isR_n, isA_r, isI_i, isI_r, isR_i, ar, akI, akZ, akB, akO, mI_sI, mP_sI, mK_sI, mN_sI, mX_sI, mP_sP, mI_sP, mK_sP, mN_sP, mX_sP, e_C_sink_25, e_C_sink_35, fK_1 hF, fK_2 hF, fK_3 hF, fK_4 hF, fK_5 hF, fK_6 hF, fN_6 hF, fK_7 hF, fN_7 hF, fK_8 hF, fN_8 hF, fK_9 hF, fN_9 hF, fK_10 hF, fK_11 hF, fN_11 hF, fK_12 hF, fK_13 hF, fN_13 hF, fK_14 hF, fN_14 hF, fK_15 hF, fN_15 hF, fK_16 hF, fN_16 hF, fP_12_0 hF, fP_12_1 hF, fP_12_2 hF, fP_12_3 hF, fP_12_4 hF, fP_12_5 hF, fP_12_6 hF, fP_12_7 hF, fP_4_0 hF, fP_4_1 hF, fP_4_2 hF, fP_4_3 hF, fP_11_0 hF, fP_7_0 hF, fP_7_1 hF, fP_7_2 hF, hF.cc, c_size _ hl.1, hl.2.1]
  | succ n ih =>
    intro j hj
    have h1 := ih (j + 1) (by omega)
    rw [skM, nI_succ] at h1
    have hF := hFj j
    have hl := hlj j
    have h2 : ¬ nI (nG μ) ≤ nI j := nI_ge (by omega) (by omega)
    have hbk : mK (skM s1 G μ (nI k) j) (B k) = 3 := by rw [hK]; exact (hRB k hk).1.1
    have hgk : mK (skM s1 G μ (nI k) j) (G j) = 2 := by rw [hK]; exact (hRG.1 j (by omega)).1.1
    have hcg := (hRP k hk).1 j
    rw [← h6 j] at hcg
    have ec := c_carries (d + 1) hbk (show j < 30 by omega)
    have eg := c_get (d) hl (by omega) (show j < nG μ by omega)
    generalize skM s1 G μ (nI k) j = ρ at *
    by_cases cnd : μ.2 64 j = 1 ∧ μ.2 66 j = nI k
    · have hb : btI (mI ρ 3 (B k) 6) j = true := by rw [hcg]; simp [show j < nG μ by omega, cnd]
      rw [bZ_t hb] at ec
      rw [if_pos cnd] at h1
      simp [psh_some, psh_none, -Int32.not_lt, -Int32.not_le, va_rf, vd, vr, isR_r, isR_n, isA_r, isI_i, isI_r, isR_i, ar, akI, akZ, akB, akO, mI_sI, mP_sI, mK_sI, mN_sI, mX_sI, mP_sP, mI_sP, mK_sP, mN_sP, mX_sP, e_C_sink_25, e_C_sink_35, e_C_sink_38, e_C_sink_43, e_C_sink_46, e_C_sink_56, e_C_sink_63, fK_1 hF, fK_2 hF, fK_3 hF, fK_4 hF, fK_5 hF, fK_6 hF, fN_6 hF, fK_7 hF, fN_7 hF, fK_8 hF, fN_8 hF, fK_9 hF, fN_9 hF, fK_10 hF, fK_11 hF, fN_11 hF, fK_12 hF, fK_13 hF, fN_13 hF, fK_14 hF, fN_14 hF, fK_15 hF, fN_15 hF, fK_16 hF, fN_16 hF, fP_12_0 hF, fP_12_1 hF, fP_12_2 hF, fP_12_3 hF, fP_12_4 hF, fP_12_5 hF, fP_12_6 hF, fP_12_7 hF, fP_4_0 hF, fP_4_1 hF, fP_4_2 hF, fP_4_3 hF, fP_11_0 hF, fP_7_0 hF, fP_7_1 hF, fP_7_2 hF, hF.cc, c_size _ hl.1, hl.2.1, h2, hbk, hgk, ec, eg, h1]
    · have hb : ¬ btI (mI ρ 3 (B k) 6) j = true := by rw [hcg]; simp only [decide_eq_true_eq]; exact fun z => cnd z.2
      rw [bZ_f hb] at ec
      rw [if_neg cnd] at h1
      simp [psh_some, psh_none, -Int32.not_lt, -Int32.not_le, va_rf, vd, vr, isR_r, isR_n, isA_r, isI_i, isI_r, isR_i, ar, akI, akZ, akB, akO, mI_sI, mP_sI, mK_sI, mN_sI, mX_sI, mP_sP, mI_sP, mK_sP, mN_sP, mX_sP, e_C_sink_25, e_C_sink_35, e_C_sink_38, e_C_sink_43, e_C_sink_63, fK_1 hF, fK_2 hF, fK_3 hF, fK_4 hF, fK_5 hF, fK_6 hF, fN_6 hF, fK_7 hF, fN_7 hF, fK_8 hF, fN_8 hF, fK_9 hF, fN_9 hF, fK_10 hF, fK_11 hF, fN_11 hF, fK_12 hF, fK_13 hF, fN_13 hF, fK_14 hF, fN_14 hF, fK_15 hF, fN_15 hF, fK_16 hF, fN_16 hF, fP_12_0 hF, fP_12_1 hF, fP_12_2 hF, fP_12_3 hF, fP_12_4 hF, fP_12_5 hF, fP_12_6 hF, fP_12_7 hF, fP_4_0 hF, fP_4_1 hF, fP_4_2 hF, fP_4_3 hF, fP_11_0 hF, fP_7_0 hF, fP_7_1 hF, fP_7_2 hF, hF.cc, c_size _ hl.1, hl.2.1, h2, hbk, ec, h1]
end O47
