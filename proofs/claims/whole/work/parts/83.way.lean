/-! ===== OPERATION: way ===== -/
section O83
variable {σ σ0 τ : Mm} {a c q : Nat} {E S L B G H Q : Nat → Nat} {Z : Nat → List Nat} {w : Bool} {ν μ μ' π : Ms} {k g n : Nat} (d : Nat)
theorem Wf_env (hW : Wf ν) (hE : Evr ν k g n μ) : Wf μ := by
  obtain ⟨e1, -, -, -, e2⟩ := hE
  obtain ⟨hC, hS, hL, hB, hG, hF, hT, hR, hK⟩ := hW
  have k1 := e1 1 (by omega)
  have k2 := e1 2 (by omega)
  have k7 := e1 7 (by omega)
  have k11 := e1 11 (by omega)
  have k16 := e1 16 (by omega)
  have k40 := e1 40 (by omega)
  have k41 := e1 41 (by omega)
  have k56 := e1 56 (by omega)
  have k60 := e1 60 (by omega)
  refine ⟨?_, ?_, ?_, ?_, ?_, ?_, ?_, ?_, ?_⟩
  · unfold Cn nS nL nF nB nG nK nT nR nW at hC ⊢
    rw [k1, k2, k7, k11, k16, k40, k41, k56, k60]
    exact hC
  · exact WS_eq hS k2 (fun f hf => e2 f (by simp only [List.mem_cons, List.not_mem_nil, or_false] at hf; omega)) (fun s hs => by rw [mo1_eq (e2 24 (by omega)) (e2 25 (by omega))]; unfold nB; rw [k16])
  · exact WL_mono hL (by unfold nS; rw [k2]; exact Nat.le_refl _) k7 (fun f hf => e2 f (by simp only [List.mem_cons, List.not_mem_nil, or_false] at hf; omega))
  · unfold WB WB1 aT wH nS nB at hB ⊢
    rw [k2, k16, e2 17 (by omega), e2 18 (by omega), e2 19 (by omega), e2 20 (by omega), e2 21 (by omega), e2 22 (by omega), e2 23 (by omega), e2 24 (by omega), e2 25 (by omega), e2 26 (by omega), e2 27 (by omega), e2 29 (by omega), e2 30 (by omega), e2 31 (by omega), e2 32 (by omega), e2 33 (by omega), e2 34 (by omega), e2 35 (by omega), e2 36 (by omega)]
    exact hB
  · exact WG_eq hG k2 k16 k60 (fun f hf => e2 f (by simp only [List.mem_cons, List.not_mem_nil, or_false] at hf; omega))
  · unfold WF ofN nF at hF ⊢
    rw [k11, e2 12 (by omega), e2 13 (by omega), e2 15 (by omega)]
    exact hF
  · unfold WT at hT ⊢
    rw [e2 39 (by omega)]
    exact hT
  · unfold WR Rl tm nR at hR ⊢
    rw [k41, e2 42 (by omega), e2 44 (by omega), e2 45 (by omega)]
    exact hR
  · unfold WK nK nB nW at hK ⊢
    rw [k56, k16, k1, e2 58 (by omega), e2 33 (by omega)]
    exact hK
theorem RC_env (hR : RC σ c E S L B G H Q Z w ν) (hX : Kx σ) (hE : Evr ν k g n μ) : RC σ c E S L B G H Q Z w μ := by
  obtain ⟨e1, -, -, -, e2⟩ := hE
  obtain ⟨hF, hz, hRX, hRS, hRL, hRB, hRP, hRG, hRF, hRT, hRK, hRR, hRN⟩ := hR
  have hs : Sm (fun _ => false) σ σ := Sm.rfl' σ
  have k1 := e1 1 (by omega)
  have k2 := e1 2 (by omega)
  have k7 := e1 7 (by omega)
  have k11 := e1 11 (by omega)
  have k16 := e1 16 (by omega)
  have k37 := e1 37 (by omega)
  have k38 := e1 38 (by omega)
  have k40 := e1 40 (by omega)
  have k41 := e1 41 (by omega)
  have k56 := e1 56 (by omega)
  have k60 := e1 60 (by omega)
  exact ⟨hF, hz, hRX.fr hz hX hs rfl rfl rfl k2 k7 k16 k60, hRS.fr hX hs rfl k2 k16 (e2 _ (by omega)) (e2 _ (by omega)) (e2 _ (by omega)) (e2 _ (by omega)) (e2 _ (by omega)) (e2 _ (by omega)), hRL.fr hX hs rfl k7 (e2 _ (by omega)) (e2 _ (by omega)) (e2 _ (by omega)), hRB.fr hX hs rfl rfl k1 k16 (fun f hf => e2 f (by simp only [List.mem_cons, List.not_mem_nil, or_false] at hf; omega)), hRP.fr (fun k hk => (hRB k hk).1.1) hX hs rfl k16 k60 (fun f hf => e2 f (by simp only [List.mem_cons, List.not_mem_nil, or_false] at hf; omega)), hRG.fr hX hs rfl rfl k60 (fun f hf => e2 f (by simp only [List.mem_cons, List.not_mem_nil, or_false] at hf; omega)), hRF.fr hF hX hs rfl rfl rfl rfl rfl k11 (fun f hf => e2 f (by simp only [List.mem_cons, List.not_mem_nil, or_false] at hf; omega)), hRT.fr hF hX hs rfl rfl k40 (e2 _ (by omega)), hRK.fr hF hX hs rfl rfl rfl rfl k56 (fun f hf => e2 f (by simp only [List.mem_cons, List.not_mem_nil, or_false] at hf; omega)), hRR.fr hF hX hs rfl (fun _ _ => rfl) k41 (fun f hf => e2 f (by simp only [List.mem_cons, List.not_mem_nil, or_false] at hf; omega)), hRN.fr hF hX hs rfl k1 k37 k38 k60 (e2 _ (by omega))⟩
/-- a planner is made -/
def plM (σ : Mm) (c s h n : Nat) : Mm := sP (sP (sI (sP (sP (sI (sP (nw (sP (nw (nw σ 8 0 9) 60 5 5) 8 (mX σ) 5 (some (mX σ + 1))) 65 5 5) 8 (mX σ) 6 (some (mX σ + 2))) 8 (mX σ) 8 144000) 8 (mX σ) 0 (some (c + 2))) 8 (mX σ) 1 (some (c + 5))) 8 (mX σ) 2 (nI n)) 8 (mX σ) 3 (some h)) 8 (mX σ) 4 (some s)
theorem Sm_plM (σ : Mm) (c s h n : Nat) : Sm (fun _ => false) σ (plM σ c s h n) := SmsPn (SmsPn (SmsIn (SmsPn (SmsPn (SmsIn (SmsPn (Smnw (SmsPn (Smnw (Smnw (Sm.rfl' σ) _ _ _) _ _ _) _ (Nat.le_refl _) _ _) _ _ _) _ (Nat.le_refl _) _ _) _ (Nat.le_refl _) _ _) _ (Nat.le_refl _) _ _) _ (Nat.le_refl _) _ _) _ (Nat.le_refl _) _ _) _ (Nat.le_refl _) _ _) _ (Nat.le_refl _) _ _
theorem Kx_plM (hX : Kx σ) (c s h n : Nat) : Kx (plM σ c s h n) := KxsP (KxsP (KxsI (KxsP (KxsP (KxsI (KxsP (Kxnw (KxsP (Kxnw (Kxnw hX _ _ _) _ _ _) _ _ _ _) _ _ _) _ _ _ _) _ _ _ _) _ _ _ _) _ _ _ _) _ _ _ _) _ _ _ _) _ _ _ _
theorem c_plinit (hX : Kx σ) (c s h n : Nat) : runc d 28 [.ref (mX σ), .ref (c + 2), .ref (c + 5), .int (nI n), .ref h, .ref s] (nw σ 8 0 9) = some (none, plM σ c s h n) := by
  have n1 : ¬ mX σ = mX σ + 1 := by omega
  have n2 : ¬ mX σ = mX σ + 1 + 1 := by omega
  simp [psh_some, psh_none, -Int32.not_lt, -Int32.not_le, va_rf, vr, isA_r, isR_r, vd, rc_Planner_init, e_Planner_init_0, e_Planner_init_8, e_Planner_init_11, e_Planner_init_15, e_Planner_init_18, e_Planner_init_24, e_Planner_init_29, e_Planner_init_34, e_Planner_init_39, e_Planner_init_45, e_Planner_init_51, mK_nw, mK_sP, mK_sI, mX_nw, mX_sP, mX_sI, n1, n2, plM]
theorem Pl_plM (c : Nat) (S H : Nat → Nat) (k g n : Nat) : Pl (plM σ c (S g) (H k) n) c (mX σ) S H k g n := by
  have n1 : ¬ mX σ = mX σ + 1 := by omega
  have n2 : ¬ mX σ = mX σ + 1 + 1 := by omega
  have n3 : ¬ mX σ + 1 = mX σ + 1 + 1 := by omega
  refine ⟨?_, ?_, ?_, ?_, ?_, ?_, ?_, ?_, ?_, ?_, ?_, ?_⟩ <;> simp [plM, mK_nw, mK_sP, mK_sI, mN_nw, mN_sP, mN_sI, mX_nw, mX_sP, mX_sI, mP_sP, mP_sI, mP_nw, mI_sP, mI_sI, mI_nw, n1, n2, n3]
theorem plM_8 (c s h n : Nat) : mI (plM σ c s h n) 8 (mX σ) 8 = 144000 ∧ mI (plM σ c s h n) 8 (mX σ) 7 = 0 := by
  refine ⟨?_, ?_⟩ <;> simp [plM, mI_sP, mI_sI, mI_nw, mX_nw, mX_sP]
def rho2 (σ : Mm) (q : Nat) : Ms := (fun f => mI σ 8 q f, fun e j => if e = 60 then mI σ 60 (q + 1) j else mI σ 65 (q + 2) j)
theorem pP_rho (σ : Mm) (q : Nat) : pP σ q (rho2 σ q) = σ := by
  refine Prod.ext (funext fun e => funext fun x => funext fun f => ?_) rfl
  show mI (pP σ q (rho2 σ q)) e x f = mI σ e x f
  rw [mI_pP]
  by_cases y1 : e = 8 ∧ x = q ∧ (f = 7 ∨ f = 8)
  · rw [if_pos y1, y1.1, y1.2.1]; rfl
  · rw [if_neg y1]
    by_cases y2 : e = 60 ∧ x = q + 1
    · rw [if_pos y2, y2.1, y2.2]
      show (if 60 = 60 then mI σ 60 (q + 1) f else mI σ 65 (q + 2) f) = _
      rw [if_pos rfl]
    · rw [if_neg y2]
      by_cases y3 : e = 65 ∧ x = q + 2
      · rw [if_pos y3, y3.1, y3.2]
        show (if 65 = 60 then mI σ 60 (q + 1) f else mI σ 65 (q + 2) f) = _
        rw [if_neg (by decide)]
      · rw [if_neg y3]
theorem Sm_pPn {T : Nat → Bool} (h : Sm T σ σ0) (hq : mX σ ≤ q) (π : Ms) : Sm T σ (pP σ0 q π) := by
  refine ⟨h.1, fun e he x hx f => ⟨?_, h.P he hx f⟩, h.2.2⟩
  rw [mI_pP, if_neg (by omega), if_neg (by omega), if_neg (by omega)]
  exact h.I he hx f
theorem c_answers (x : Int32) : runc (d + 1) 29 [.int x] σ = some (some (.int (bZ (x = 0 ∨ x = 1 ∨ (¬ x < 10 ∧ ¬ 14 < x)))), σ) := by
  by_cases h0 : x = 0
  · rw [bZ_t (Or.inl h0)]
    simp [psh_some, psh_none, -Int32.not_lt, -Int32.not_le, rc_Planner_answers, e_Planner_answers_0, e_Planner_answers_20, e_Planner_answers_25, h0]
  · by_cases h1 : x = 1
    · rw [bZ_t (Or.inr (Or.inl h1))]
      simp [psh_some, psh_none, -Int32.not_lt, -Int32.not_le, rc_Planner_answers, e_Planner_answers_0, e_Planner_answers_4, e_Planner_answers_20, e_Planner_answers_25, h1]
    · by_cases h2 : ¬ x < 10 ∧ ¬ 14 < x
      · rw [bZ_t (Or.inr (Or.inr h2))]
        simp [psh_some, psh_none, -Int32.not_lt, -Int32.not_le, rc_Planner_answers, e_Planner_answers_0, e_Planner_answers_4, e_Planner_answers_9, e_Planner_answers_17, e_Planner_answers_20, e_Planner_answers_25, h0, h1, c_within, bZ_t h2]
      · rw [bZ_f (fun z => z.elim h0 (fun z => z.elim h1 h2))]
        simp [psh_some, psh_none, -Int32.not_lt, -Int32.not_le, rc_Planner_answers, e_Planner_answers_0, e_Planner_answers_4, e_Planner_answers_9, e_Planner_answers_17, e_Planner_answers_24, e_Planner_answers_25, h0, h1, c_within, bZ_f h2]
/-- what is answered of a way -/
def wyA (b M : Nat) (f : Nat → Int32) (x : Int32) : Int32 := if b = 144000 then -1 else if x = 0 then nI b else if x = 1 then nI M else if ¬ x < 10 ∧ ¬ 9 + nI M < x then f (x - 10).toNatClampNeg else -1
theorem way_end (hL : LM τ a) {b M : Nat} (hb : b ≤ 144000) (hM : M ≤ 5) (h72 : μ.1 72 = if b = 144000 then -1 else nI b) (h73 : μ.1 73 = nI M) (x1 x2 x3 x4 x5 x6 : Int32) : run (d + 1) 183 99 [.ref a, .int x1, .int x2, .int x3, .int x4, .int x5, .int x6] [] (put τ a μ) = some (some (.int (wyA b M (μ.2 74) x6)), put τ a μ) := by
  unfold wyA
  by_cases c : b = 144000
  · rw [if_pos c] at h72 ⊢
    simp [psh_some, psh_none, -Int32.not_lt, -Int32.not_le, q_M_way_99, q_M_way_107, hL, h72]
  · rw [if_neg c] at h72 ⊢
    have nm := nx_m1 (show b ≤ 1000000 by omega)
    by_cases h0 : x6 = 0
    · rw [if_pos h0]
      simp [psh_some, psh_none, -Int32.not_lt, -Int32.not_le, q_M_way_99, q_M_way_109, q_M_way_114, q_M_way_165, hL, h72, nm, h0]
    · rw [if_neg h0]
      by_cases h1 : x6 = 1
      · rw [if_pos h1]
        simp [psh_some, psh_none, -Int32.not_lt, -Int32.not_le, q_M_way_99, q_M_way_109, q_M_way_121, q_M_way_127, q_M_way_165, hL, h72, nm, h1, h73]
      · rw [if_neg h1]
        by_cases h2 : ¬ x6 < 10 ∧ ¬ 9 + nI M < x6
        · have e9 : 9 + nI M = nI (9 + M) := by rw [show (9 : Int32) = nI 9 from rfl, nI_add]
          obtain ⟨j, j1, j2, rfl⟩ := in_N (a := 10) (b := 9 + M) rfl e9 (by omega) (by omega) h2
          have es : nI j - 10 = nI (j - 10) := pk_sub (b := 10) j1
          have i5 : ix (nI (j - 10)) 5 = true := ix_of (by omega) (by omega)
          rw [if_pos h2, es]
          simp [psh_some, psh_none, -Int32.not_lt, -Int32.not_le, q_M_way_99, q_M_way_109, q_M_way_121, q_M_way_134, q_M_way_148, q_M_way_151, q_M_way_165, hL, h72, nm, h0, h1, h73, m_in, bZ_t h2, es, i5]
        · rw [if_neg h2]
          simp [psh_some, psh_none, -Int32.not_lt, -Int32.not_le, q_M_way_99, q_M_way_109, q_M_way_121, q_M_way_134, q_M_way_148, q_M_way_164, q_M_way_165, hL, h72, nm, h0, h1, h73, m_in, bZ_f h2]
theorem c_answer (h : Pl σ c q S H k g n) {b M : Nat} (hb : b ≤ 144000) (hM : M ≤ 5) (h8 : π.1 8 = nI b) (h7 : π.1 7 = nI M) {f : Nat → Int32} (hf : ∀ j, j < M → π.2 65 j = f j) {x : Int32} (hx : x = 0 ∨ x = 1 ∨ (¬ x < 10 ∧ ¬ 14 < x)) : runc (d + 1) 30 [.ref q, .int x] (pP σ q π) = some (some (.int (wyA b M f x)), pP σ q π) := by
  obtain ⟨p0, p1, p2, p3, p4, p5, p6, p7, p8, p9, p10, p11⟩ := h
  unfold wyA
  by_cases c : b = 144000
  · have z : ¬ nI b ≤ 143999 := by rw [c]; decide
    rw [if_pos c]
    simp [psh_some, psh_none, -Int32.not_lt, -Int32.not_le, rc_Planner_answer, e_Planner_answer_0, e_Planner_answer_9, mK_pP, p_8, p0, h8, z]
  · have z : nI b ≤ 143999 := nI_le (b := 143999) (by omega) (by omega)
    rw [if_neg c]
    by_cases h0 : x = 0
    · rw [if_pos h0]
      simp [psh_some, psh_none, -Int32.not_lt, -Int32.not_le, rc_Planner_answer, e_Planner_answer_0, e_Planner_answer_11, e_Planner_answer_15, mK_pP, p_8, p0, h8, z, h0]
    · rw [if_neg h0]
      by_cases h1 : x = 1
      · rw [if_pos h1]
        simp [psh_some, psh_none, -Int32.not_lt, -Int32.not_le, rc_Planner_answer, e_Planner_answer_0, e_Planner_answer_11, e_Planner_answer_20, e_Planner_answer_25, mK_pP, p_8, p_7, p0, h8, h7, z, h1]
      · rw [if_neg h1]
        have h2 := (hx.resolve_left h0).resolve_left h1
        obtain ⟨j, j1, j2, rfl⟩ := in_N (a := 10) (b := 14) rfl rfl (by omega) (by omega) h2
        have z10 : (10 : Int32) ≤ nI j := nI_le (a := 10) j1 (by omega)
        have es : nI j - 10 = nI (j - 10) := pk_sub (b := 10) j1
        have e9 : 9 + nI M = nI (9 + M) := by rw [show (9 : Int32) = nI 9 from rfl, nI_add]
        have i5 : ix (nI (j - 10)) 5 = true := ix_of (by omega) (by omega)
        have cj := cl1000 (show j - 10 < 1000 by omega)
        have n5 : ¬ (5 : Int32) ≤ nI (j - 10) := nI_ge (b := 5) (by omega) (by omega)
        have z0 : ¬ nI (j - 10) < 0 := nI_pos (by omega)
        by_cases hj : j - 10 < M
        · have t1 : ¬ nI j < 10 ∧ ¬ 9 + nI M < nI j := ⟨h2.1, by rw [e9]; exact nI_nlt (by omega) (by omega)⟩
          have t2 : ¬ nI (j - 10) < 0 ∧ ¬ nI M - 1 < nI (j - 10) := ⟨z0, sz_ok hj (by omega)⟩
          rw [if_pos t1, es, cj, ← hf (j - 10) hj]
          simp [psh_some, psh_none, -Int32.not_lt, -Int32.not_le, va_rf, isA_r, isR_r, vd, ar, akI, rc_Planner_answer, e_Planner_answer_0, e_Planner_answer_11, e_Planner_answer_20, e_Planner_answer_30, e_Planner_answer_40, e_Planner_answer_44, e_Planner_answer_56, e_Planner_answer_59, e_Planner_answer_64, e_Planner_answer_74, mP_pP, mK_pP, mN_pP, p_8, p_7, p_65, p0, p7, p10, p11, h8, h7, z, h0, h1, z10, es, c_within, bZ_t t2, n5, i5, cj]
        · have t1 : ¬ (¬ nI j < 10 ∧ ¬ 9 + nI M < nI j) := fun y => y.2 (by rw [e9]; exact nI_lt (by omega) (by omega))
          have t2 : ¬ (¬ nI (j - 10) < 0 ∧ ¬ nI M - 1 < nI (j - 10)) := fun y => y.2 (sz_no (by omega) (Or.inr (nI_le (by omega) (by omega))) z0)
          rw [if_neg t1]
          simp [psh_some, psh_none, -Int32.not_lt, -Int32.not_le, rc_Planner_answer, e_Planner_answer_0, e_Planner_answer_11, e_Planner_answer_20, e_Planner_answer_30, e_Planner_answer_40, e_Planner_answer_44, e_Planner_answer_56, e_Planner_answer_73, e_Planner_answer_74, mK_pP, p_8, p_7, p0, h8, h7, z, h0, h1, z10, es, c_within, bZ_f t2]
theorem wyA_no {b M : Nat} (hM : M ≤ 5) {f : Nat → Int32} {x : Int32} (hx : ¬ (x = 0 ∨ x = 1 ∨ (¬ x < 10 ∧ ¬ 14 < x))) : wyA b M f x = -1 := by
  unfold wyA
  have e9 : 9 + nI M = nI (9 + M) := by rw [show (9 : Int32) = nI 9 from rfl, nI_add]
  by_cases c : b = 144000
  · rw [if_pos c]
  · rw [if_neg c, if_neg (fun z => hx (Or.inl z)), if_neg (fun z => hx (Or.inr (Or.inl z))), if_neg]
    intro h2
    obtain ⟨j, j1, j2, rfl⟩ := in_N (a := 10) (b := 9 + M) rfl e9 (by omega) (by omega) h2
    exact hx (Or.inr (Or.inr ⟨h2.1, nI_nlt (a := 14) (by omega) (by omega)⟩))
end O83
