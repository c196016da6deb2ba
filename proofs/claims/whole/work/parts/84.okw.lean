/-! ===== OPERATION: way, whole ===== -/
section O84
variable {σ τ : Mm} {a c : Nat} {E S L B G H Q : Nat → Nat} {Z : Nat → List Nat} {w : Bool} {μ : Ms} (d : Nat)
theorem c_boatAt_any (hF : FL σ c) (hX : RX σ c E S L B G μ) (hC : Cn μ) (hB : RB σ S B H μ) (x : Int32) : ∃ v, isR v = true ∧ runc (d + 3) 93 [.ref c, .int x] σ = some (some v, σ) := by
  rcases nIx x (n := nB μ) (by have := hC.b.2; omega) with ⟨k, hk, rfl⟩ | hno
  · exact ⟨_, isR_r _, c_boatAt d hF hX hC hk (hB k hk).1.1⟩
  · exact ⟨_, isR_n, c_boatAt_no d hF hX hC hno⟩
/-- the reference's state as a search begins -/
def wyB (μ : Ms) (k g n : Nat) : Ms := fF (fF (fF (fF (fF μ 69 (nI k)) 70 (nI g)) 71 (nI n)) 72 (-1)) 73 0
theorem wyB_E (k g n : Nat) : Evr μ k g n (wyB μ k g n) := by
  refine ⟨fun f hf => ?_, rfl, rfl, rfl, fun _ _ => rfl⟩
  unfold wyB
  simp only [fF_1]
  rw [if_neg (by omega), if_neg (by omega), if_neg (by omega), if_neg (by omega), if_neg (by omega)]
theorem way_beg {μ0 : Ms} (hL : LM τ a) (hW : Wf μ) (hμ : fF μ0 0 0 = μ) {k s g n m : Nat} (hk : k < nB μ) (hs : s < nS μ) (hg : g < nS μ) (hm : m ≤ 143999) (hn : n ≤ nF μ) (x6 : Int32) {t : Nat} (ht : μ.2 21 k = nI t) {μ1 : Ms} (hr : runc (d + 19) 182 [.ref a, .int (nI s), .int (nI m), .int (nI t), .int (nI 0), .int (1 <<< (nI s &&& 31))] (put τ a (wyB μ k g n)) = some (none, put τ a μ1)) : runc (d + 20) 183 [.ref a, .int (nI k), .int (nI s), .int (nI g), .int (nI m), .int (nI n), .int x6] (put τ a μ0) = run (d + 20) 183 99 [.ref a, .int (nI k), .int (nI s), .int (nI g), .int (nI m), .int (nI n), .int x6] [] (put τ a μ1) := by
  have hC := hW.1
  have hb := hC.b
  have h12 := hC.s
  have hf := hC.f
  have j1 := is_ix hk (show nB μ ≤ 1000 by omega)
  have j2 := is_ix hs (show nS μ ≤ 1000 by omega)
  have j3 := is_ix hg (show nS μ ≤ 1000 by omega)
  have j4 : ¬ nI m < 0 ∧ ¬ 143999 < nI m := ⟨nI_pos (by omega), nI_nlt (a := 143999) (by omega) (by omega)⟩
  have j5 : ¬ nI n < 0 ∧ ¬ nI (nF μ) < nI n := ⟨nI_pos (by omega), nI_nlt (by omega) (by omega)⟩
  have i6 : ix (nI k) 6 = true := ix_of (by omega) (by omega)
  have ck := cl6 (show k < 6 by omega)
  rw [nI_0] at hr
  unfold wyB at hr
  simp [psh_some, psh_none, -Int32.not_lt, -Int32.not_le, rc_M_way, q_M_way_0, q_M_way_5, q_M_way_10, q_M_way_13, q_M_way_18, q_M_way_21, q_M_way_26, q_M_way_29, q_M_way_38, q_M_way_41, q_M_way_51, q_M_way_56, q_M_way_61, q_M_way_66, q_M_way_72, q_M_way_77, q_M_way_82, hL, hμ, m_isBoat, m_isStop, m_in, hb.1, h12.1, hf.1, bZ_t j1, bZ_t j2, bZ_t j3, bZ_t j4, bZ_t j5, i6, ck, fF_1, fF_2, ht, hr]
theorem ok_way (x1 x2 x3 x4 x5 x6 : Int32) : Ok 88 183 [.int x1, .int x2, .int x3, .int x4, .int x5, .int x6] := by
  refine Ok_of fun d σ c a E S L B G H Q Z w μ hR hLM hX hW => ?_
  have hC := hW.1
  obtain ⟨hF, hz, hRX, hRS, hRL, hRB, hRP, hRG, hRF, hRT, hRK, hRR, hRN⟩ := id hR
  have hb := hC.b
  have h12 := hC.s
  have hf := hC.f
  obtain ⟨o1, o1r, o1e⟩ := c_boatAt_any (d + 16) hF hRX hC hRB x1
  obtain ⟨o2, o2r, o2e⟩ := c_stopAt_any (d + 16) hF hRX hC hRS x2
  obtain ⟨o3, o3r, o3e⟩ := c_stopAt_any (d + 16) hF hRX hC hRS x3
  rcases nIx x1 (n := nB μ) (by omega) with ⟨k, hk, rfl⟩ | hno1
  · have j1 := is_ix hk (show nB μ ≤ 1000 by omega)
    have e1 := c_boatAt (d + 16) hF hRX hC hk (hRB k hk).1.1
    rcases nIx x2 (n := nS μ) (by omega) with ⟨s, hs, rfl⟩ | hno2
    · have j2 := is_ix hs (show nS μ ≤ 1000 by omega)
      have e2 := c_stopAt (d + 16) hF hRX hC hs (hRS s hs).1
      rcases nIx x3 (n := nS μ) (by omega) with ⟨g, hg, rfl⟩ | hno3
      · have j3 := is_ix hg (show nS μ ≤ 1000 by omega)
        have e3 := c_stopAt (d + 16) hF hRX hC hg (hRS g hg).1
        by_cases h4 : ¬ x4 < 0 ∧ ¬ 143999 < x4
        · obtain ⟨m, -, m2, rfl⟩ := in_N (a := 0) (b := 143999) rfl rfl (by omega) (by omega) h4
          by_cases h5 : ¬ x5 < 0 ∧ ¬ nI (nF μ) < x5
          · obtain ⟨n, -, n2, rfl⟩ := in_N (a := 0) (b := nF μ) rfl rfl (by omega) (by omega) h5
            obtain ⟨t, f, t1, t2, t3, -⟩ := (hW.2.2.2.1.1 k hk).2.2.2.2.2.1
            have hE := wyB_E (μ := μ) k g n
            by_cases hsg : s = g
            · -- to where it is
              subst hsg
              obtain ⟨μ1, r1, r2⟩ := nup (a := a) hW hk n2 hs 5 0 s m t (1 <<< (nI s &&& 31)) (wyB μ k s n) (by omega) hs m2 t2 hE (Or.inl (by rw [bit1 (by omega) (by omega)]; simp))
              refine ⟨some (.int (-1)), σ, μ1, ?_, fun μ0 hμ hL => ?_, ⟨_, _, _, _, _, _, _, _, _, RC_env hR hX r2.1⟩, ⟨fun _ => false, Sm.rfl' σ, fun _ _ => rfl⟩, hX, Wf_env hW r2.1, by omega, by omega⟩
              · simp [psh_some, psh_none, -Int32.not_lt, -Int32.not_le, va_rf, vd, vr, isR_r, isR_n, isA_r, isI_i, isI_r, isR_i, ar, akI, akZ, akB, akO, mI_sI, mP_sI, mK_sI, mN_sI, mX_sI, mP_sP, mI_sP, mK_sP, mN_sP, mX_sP, rc_C_way, e_C_way_0, e_C_way_5, e_C_way_12, e_C_way_19, e_C_way_26, e_C_way_31, e_C_way_36, e_C_way_41, fK_1 hF, fK_2 hF, fK_3 hF, fK_4 hF, fK_5 hF, fK_6 hF, fN_6 hF, fK_7 hF, fN_7 hF, fK_8 hF, fN_8 hF, fK_9 hF, fN_9 hF, fK_10 hF, fK_11 hF, fN_11 hF, fK_12 hF, fK_13 hF, fN_13 hF, fK_14 hF, fN_14 hF, fK_15 hF, fN_15 hF, fK_16 hF, fN_16 hF, fP_12_0 hF, fP_12_1 hF, fP_12_2 hF, fP_12_3 hF, fP_12_4 hF, fP_12_5 hF, fP_12_6 hF, fP_12_7 hF, fP_4_0 hF, fP_4_1 hF, fP_4_2 hF, fP_4_3 hF, fP_11_0 hF, fP_7_0 hF, fP_7_1 hF, fP_7_2 hF, hF.cc, e1, e2]
              · have rr := r1 (d + 10) σ hL
                rw [way_beg d hL hW hμ hk hs hs m2 n2 x6 t3 rr]
                have e := way_end (τ := σ) (μ := μ1) (b := 144000) (M := 0) (d + 19) hL (Nat.le_refl _) (by omega) (by rw [r2.2.1]; rfl) (by rw [r2.2.2.1]; rfl) (nI k) (nI s) (nI s) (nI m) (nI n) x6
                rw [show d + 19 + 1 = d + 20 from rfl] at e
                rw [e]
                unfold wyA
                rw [if_pos rfl]
            · have hsg' : ¬ nI s = nI g := fun z => hsg ((nI_eq (by omega) (by omega)).mp z)
              -- the planner
              have hs0 := Sm_plM σ c (S g) (H k) n
              have hX0 := Kx_plM hX c (S g) (H k) n
              have hP0 := Pl_plM (σ := σ) c S H k g n
              have h8 := plM_8 (σ := σ) c (S g) (H k) n
              have hR0 := hR.fr hX hs0 (fun _ _ => rfl)
              have x0 : mX (plM σ c (S g) (H k) n) = mX σ + 3 := rfl
              have y0 : mS (plM σ c (S g) (H k) n) = mS σ + 9 + 5 + 5 := rfl
              have pin := c_plinit (d + 19) hX c (S g) (H k) n
              generalize plM σ c (S g) (H k) n = σ0 at hs0 hX0 hP0 h8 hR0 x0 y0 pin
              obtain ⟨aF, az, aRX, aRS, aRL, aRB, aRP, aRG, aRF, aRT, aRK, aRR, aRN⟩ := id hR0
              have hPe : Pe σ0 c (mX σ) E S L H Z μ k g n := ⟨aF, aRF, aRS, aRL, (aRB k hk).2, aRX.2.1, hP0⟩
              have hRl : Rl2 0 (rho2 σ0 (mX σ)) (wyB μ k g n) := ⟨144000, 0, h8.1, Nat.le_refl _, rfl, h8.2, rfl, by omega, fun j hj => by omega, fun j hj => by omega⟩
              obtain ⟨π', μ1, r1, r2, r3, b, M, q1, q2, q3, q4, q5, q6, q7, -⟩ := sim (a := a) hPe hX0 az hW hk n2 hg 5 0 s m t (1 <<< (nI s &&& 31)) (rho2 σ0 (mX σ)) (wyB μ k g n) (by omega) hs m2 t2 hE hRl
              rw [pP_rho] at r1
              have hEnd : ∀ (τ : Mm) (μ0 : Ms), fF μ0 0 0 = μ → LM τ a → runc (d + 20) 183 [.ref a, .int (nI k), .int (nI s), .int (nI g), .int (nI m), .int (nI n), .int x6] (put τ a μ0) = some (some (.int (wyA b M (μ1.2 74) x6)), put τ a μ1) := fun τ μ0 hμ hL => by
                rw [way_beg d hL hW hμ hk hs hg m2 n2 x6 t3 (r2 (d + 10) τ hL)]
                exact way_end (τ := τ) (μ := μ1) (d + 19) hL q2 q6 q3 q5 (nI k) (nI s) (nI g) (nI m) (nI n) x6
              by_cases h6 : x6 = 0 ∨ x6 = 1 ∨ (¬ x6 < 10 ∧ ¬ 14 < x6)
              · -- both search
                have hs1 := Sm_pPn hs0 (Nat.le_refl _) π'
                have hR1 := RC_env (hR.fr hX hs1 (fun _ _ => rfl)) (show Kx (pP σ0 (mX σ) π') from hX0) r3
                refine ⟨some (.int (wyA b M (μ1.2 74) x6)), pP σ0 (mX σ) π', μ1, ?_, fun μ0 hμ hL => hEnd _ μ0 hμ hL, ⟨_, _, _, _, _, _, _, _, _, hR1⟩, ⟨_, hs1, fun _ _ => rfl⟩, hX0, Wf_env hW r3, ?_, ?_⟩
                · have ea := c_answer (π := π') (d + 18) hP0 q2 q6 q1 q4 q7 h6
                  have nq : ¬ c = mX σ := fun z => by have := hX.lt hF.cc (by decide); omega
                  have nb : ¬ B k = mX σ := fun z => by have := hX.lt (hRB k hk).1.1 (by decide); omega
                  obtain ⟨a0, a1, a2, -⟩ := (hRB k hk).1
                  obtain ⟨f0, f1, -⟩ := aRS s hs
                  obtain ⟨u0, u1, u2, u3, u4, u5, -⟩ := (aRB k hk).2
                  have p0 := hP0.1
                  have p4 := hP0.2.2.2.2.1
                  have epl : runc (d + 19) 31 [.ref (mX σ), .ref (S s), .int (nI m)] σ0 = some (none, pP σ0 (mX σ) π') := by
                    have r := r1 (d + 9)
                    rw [nI_0] at r
                    simp [psh_some, psh_none, -Int32.not_lt, -Int32.not_le, va_rf, isA_r, isR_r, vd, ar, rc_Planner_plan, e_Planner_plan_0, e_Planner_plan_20, p0, p4, u0, u5, t3, f0, f1, r]
                  simp [psh_some, psh_none, -Int32.not_lt, -Int32.not_le, va_rf, vr, isA_r, isR_r, isI_r, vd, ar, rc_C_way, e_C_way_0, e_C_way_5, e_C_way_12, e_C_way_19, e_C_way_26, e_C_way_31, e_C_way_36, e_C_way_43, e_C_way_51, e_C_way_54, e_C_way_67, e_C_way_70, e_C_way_75, e_C_way_80, e_C_way_83, e_C_way_104, e_C_way_115, e_C_way_122, fK_1 hF, fK_2 hF, fK_3 hF, fK_4 hF, fK_5 hF, fK_6 hF, fN_6 hF, fK_7 hF, fN_7 hF, fK_8 hF, fN_8 hF, fK_9 hF, fN_9 hF, fK_10 hF, fK_11 hF, fN_11 hF, fK_12 hF, fK_13 hF, fN_13 hF, fK_14 hF, fN_14 hF, fK_15 hF, fN_15 hF, fK_16 hF, fN_16 hF, fP_12_0 hF, fP_12_1 hF, fP_12_2 hF, fP_12_3 hF, fP_12_4 hF, fP_12_5 hF, fP_12_6 hF, fP_12_7 hF, fP_4_0 hF, fP_4_1 hF, fP_4_2 hF, fP_4_3 hF, fP_11_0 hF, fP_7_0 hF, fP_7_1 hF, fP_7_2 hF, hF.cc, e1, e2, e3, hsg', c_within, bZ_t h4, bZ_t h5, hRF.1, hf.1, c_answers, bZ_t h6, mK_nw, mP_nw, nq, nb, a0, a2, pin, p0, epl, mK_pP, ea]
                · show mX σ0 ≤ _; omega
                · show mS σ0 ≤ _; omega
              · -- the class doesn't
                refine ⟨some (.int (-1)), σ, μ1, ?_, fun μ0 hμ hL => ?_, ⟨_, _, _, _, _, _, _, _, _, RC_env hR hX r3⟩, ⟨fun _ => false, Sm.rfl' σ, fun _ _ => rfl⟩, hX, Wf_env hW r3, by omega, by omega⟩
                · simp [psh_some, psh_none, -Int32.not_lt, -Int32.not_le, va_rf, vd, vr, isR_r, isR_n, isA_r, isI_i, isI_r, isR_i, ar, akI, akZ, akB, akO, mI_sI, mP_sI, mK_sI, mN_sI, mX_sI, mP_sP, mI_sP, mK_sP, mN_sP, mX_sP, rc_C_way, e_C_way_0, e_C_way_5, e_C_way_12, e_C_way_19, e_C_way_26, e_C_way_31, e_C_way_36, e_C_way_43, e_C_way_51, e_C_way_54, e_C_way_67, e_C_way_70, e_C_way_75, e_C_way_78, fK_1 hF, fK_2 hF, fK_3 hF, fK_4 hF, fK_5 hF, fK_6 hF, fN_6 hF, fK_7 hF, fN_7 hF, fK_8 hF, fN_8 hF, fK_9 hF, fN_9 hF, fK_10 hF, fK_11 hF, fN_11 hF, fK_12 hF, fK_13 hF, fN_13 hF, fK_14 hF, fN_14 hF, fK_15 hF, fN_15 hF, fK_16 hF, fN_16 hF, fP_12_0 hF, fP_12_1 hF, fP_12_2 hF, fP_12_3 hF, fP_12_4 hF, fP_12_5 hF, fP_12_6 hF, fP_12_7 hF, fP_4_0 hF, fP_4_1 hF, fP_4_2 hF, fP_4_3 hF, fP_11_0 hF, fP_7_0 hF, fP_7_1 hF, fP_7_2 hF, hF.cc, e1, e2, e3, hsg', c_within, bZ_t h4, bZ_t h5, hRF.1, hf.1, c_answers, bZ_f h6]
                · rw [hEnd _ μ0 hμ hL, wyA_no q6 h6]
          · refine Res.same hR hX hW (v := some (.int (-1))) ?_ (fun τ μ0 hμ hL => ?_)
            · by_cases hsg : nI s = nI g
              · simp [psh_some, psh_none, -Int32.not_lt, -Int32.not_le, va_rf, vd, vr, isR_r, isR_n, isA_r, isI_i, isI_r, isR_i, ar, akI, akZ, akB, akO, mI_sI, mP_sI, mK_sI, mN_sI, mX_sI, mP_sP, mI_sP, mK_sP, mN_sP, mX_sP, rc_C_way, e_C_way_0, e_C_way_5, e_C_way_12, e_C_way_19, e_C_way_26, e_C_way_31, e_C_way_36, e_C_way_41, fK_1 hF, fK_2 hF, fK_3 hF, fK_4 hF, fK_5 hF, fK_6 hF, fN_6 hF, fK_7 hF, fN_7 hF, fK_8 hF, fN_8 hF, fK_9 hF, fN_9 hF, fK_10 hF, fK_11 hF, fN_11 hF, fK_12 hF, fK_13 hF, fN_13 hF, fK_14 hF, fN_14 hF, fK_15 hF, fN_15 hF, fK_16 hF, fN_16 hF, fP_12_0 hF, fP_12_1 hF, fP_12_2 hF, fP_12_3 hF, fP_12_4 hF, fP_12_5 hF, fP_12_6 hF, fP_12_7 hF, fP_4_0 hF, fP_4_1 hF, fP_4_2 hF, fP_4_3 hF, fP_11_0 hF, fP_7_0 hF, fP_7_1 hF, fP_7_2 hF, hF.cc, e1, e2, o3r, o3e, hsg]
              · simp [psh_some, psh_none, -Int32.not_lt, -Int32.not_le, va_rf, vd, vr, isR_r, isR_n, isA_r, isI_i, isI_r, isR_i, ar, akI, akZ, akB, akO, mI_sI, mP_sI, mK_sI, mN_sI, mX_sI, mP_sP, mI_sP, mK_sP, mN_sP, mX_sP, rc_C_way, e_C_way_0, e_C_way_5, e_C_way_12, e_C_way_19, e_C_way_26, e_C_way_31, e_C_way_36, e_C_way_43, e_C_way_51, e_C_way_54, e_C_way_67, e_C_way_78, fK_1 hF, fK_2 hF, fK_3 hF, fK_4 hF, fK_5 hF, fK_6 hF, fN_6 hF, fK_7 hF, fN_7 hF, fK_8 hF, fN_8 hF, fK_9 hF, fN_9 hF, fK_10 hF, fK_11 hF, fN_11 hF, fK_12 hF, fK_13 hF, fN_13 hF, fK_14 hF, fN_14 hF, fK_15 hF, fN_15 hF, fK_16 hF, fN_16 hF, fP_12_0 hF, fP_12_1 hF, fP_12_2 hF, fP_12_3 hF, fP_12_4 hF, fP_12_5 hF, fP_12_6 hF, fP_12_7 hF, fP_4_0 hF, fP_4_1 hF, fP_4_2 hF, fP_4_3 hF, fP_11_0 hF, fP_7_0 hF, fP_7_1 hF, fP_7_2 hF, hF.cc, e1, e2, e3, hsg, c_within, bZ_t h4, bZ_f h5, hRF.1, hf.1]
            · simp [psh_some, psh_none, -Int32.not_lt, -Int32.not_le, rc_M_way, q_M_way_0, q_M_way_5, q_M_way_10, q_M_way_13, q_M_way_18, q_M_way_21, q_M_way_26, q_M_way_29, q_M_way_38, q_M_way_41, q_M_way_51, q_M_way_54, hL, hμ, m_isBoat, m_isStop, m_in, hb.1, h12.1, hf.1, bZ_t j1, bZ_t j2, bZ_t j3, bZ_t h4, bZ_f h5]
        · refine Res.same hR hX hW (v := some (.int (-1))) ?_ (fun τ μ0 hμ hL => ?_)
          · by_cases hsg : nI s = nI g
            · simp [psh_some, psh_none, -Int32.not_lt, -Int32.not_le, va_rf, vd, vr, isR_r, isR_n, isA_r, isI_i, isI_r, isR_i, ar, akI, akZ, akB, akO, mI_sI, mP_sI, mK_sI, mN_sI, mX_sI, mP_sP, mI_sP, mK_sP, mN_sP, mX_sP, rc_C_way, e_C_way_0, e_C_way_5, e_C_way_12, e_C_way_19, e_C_way_26, e_C_way_31, e_C_way_36, e_C_way_41, fK_1 hF, fK_2 hF, fK_3 hF, fK_4 hF, fK_5 hF, fK_6 hF, fN_6 hF, fK_7 hF, fN_7 hF, fK_8 hF, fN_8 hF, fK_9 hF, fN_9 hF, fK_10 hF, fK_11 hF, fN_11 hF, fK_12 hF, fK_13 hF, fN_13 hF, fK_14 hF, fN_14 hF, fK_15 hF, fN_15 hF, fK_16 hF, fN_16 hF, fP_12_0 hF, fP_12_1 hF, fP_12_2 hF, fP_12_3 hF, fP_12_4 hF, fP_12_5 hF, fP_12_6 hF, fP_12_7 hF, fP_4_0 hF, fP_4_1 hF, fP_4_2 hF, fP_4_3 hF, fP_11_0 hF, fP_7_0 hF, fP_7_1 hF, fP_7_2 hF, hF.cc, e1, e2, o3r, o3e, hsg]
            · simp [psh_some, psh_none, -Int32.not_lt, -Int32.not_le, va_rf, vd, vr, isR_r, isR_n, isA_r, isI_i, isI_r, isR_i, ar, akI, akZ, akB, akO, mI_sI, mP_sI, mK_sI, mN_sI, mX_sI, mP_sP, mI_sP, mK_sP, mN_sP, mX_sP, rc_C_way, e_C_way_0, e_C_way_5, e_C_way_12, e_C_way_19, e_C_way_26, e_C_way_31, e_C_way_36, e_C_way_43, e_C_way_51, e_C_way_78, fK_1 hF, fK_2 hF, fK_3 hF, fK_4 hF, fK_5 hF, fK_6 hF, fN_6 hF, fK_7 hF, fN_7 hF, fK_8 hF, fN_8 hF, fK_9 hF, fN_9 hF, fK_10 hF, fK_11 hF, fN_11 hF, fK_12 hF, fK_13 hF, fN_13 hF, fK_14 hF, fN_14 hF, fK_15 hF, fN_15 hF, fK_16 hF, fN_16 hF, fP_12_0 hF, fP_12_1 hF, fP_12_2 hF, fP_12_3 hF, fP_12_4 hF, fP_12_5 hF, fP_12_6 hF, fP_12_7 hF, fP_4_0 hF, fP_4_1 hF, fP_4_2 hF, fP_4_3 hF, fP_11_0 hF, fP_7_0 hF, fP_7_1 hF, fP_7_2 hF, hF.cc, e1, e2, e3, hsg, c_within, bZ_f h4]
          · simp [psh_some, psh_none, -Int32.not_lt, -Int32.not_le, rc_M_way, q_M_way_0, q_M_way_5, q_M_way_10, q_M_way_13, q_M_way_18, q_M_way_21, q_M_way_26, q_M_way_29, q_M_way_38, q_M_way_54, hL, hμ, m_isBoat, m_isStop, m_in, hb.1, h12.1, bZ_t j1, bZ_t j2, bZ_t j3, bZ_f h4]
      · refine Res.same hR hX hW (v := some (.int (-1))) ?_ (fun τ μ0 hμ hL => ?_)
        · simp [psh_some, psh_none, -Int32.not_lt, -Int32.not_le, va_rf, vd, vr, isR_r, isR_n, isA_r, isI_i, isI_r, isR_i, ar, akI, akZ, akB, akO, mI_sI, mP_sI, mK_sI, mN_sI, mX_sI, mP_sP, mI_sP, mK_sP, mN_sP, mX_sP, rc_C_way, e_C_way_0, e_C_way_5, e_C_way_12, e_C_way_19, e_C_way_26, e_C_way_31, e_C_way_41, fK_1 hF, fK_2 hF, fK_3 hF, fK_4 hF, fK_5 hF, fK_6 hF, fN_6 hF, fK_7 hF, fN_7 hF, fK_8 hF, fN_8 hF, fK_9 hF, fN_9 hF, fK_10 hF, fK_11 hF, fN_11 hF, fK_12 hF, fK_13 hF, fN_13 hF, fK_14 hF, fN_14 hF, fK_15 hF, fN_15 hF, fK_16 hF, fN_16 hF, fP_12_0 hF, fP_12_1 hF, fP_12_2 hF, fP_12_3 hF, fP_12_4 hF, fP_12_5 hF, fP_12_6 hF, fP_12_7 hF, fP_4_0 hF, fP_4_1 hF, fP_4_2 hF, fP_4_3 hF, fP_11_0 hF, fP_7_0 hF, fP_7_1 hF, fP_7_2 hF, hF.cc, e1, e2, c_stopAt_no (d + 16) hF hRX hC hno3]
        · simp [psh_some, psh_none, -Int32.not_lt, -Int32.not_le, rc_M_way, q_M_way_0, q_M_way_5, q_M_way_10, q_M_way_13, q_M_way_18, q_M_way_21, q_M_way_26, q_M_way_54, hL, hμ, m_isBoat, m_isStop, hb.1, h12.1, bZ_t j1, bZ_t j2, bZ_f (no_ix hno3)]
    · refine Res.same hR hX hW (v := some (.int (-1))) ?_ (fun τ μ0 hμ hL => ?_)
      · simp [psh_some, psh_none, -Int32.not_lt, -Int32.not_le, va_rf, vd, vr, isR_r, isR_n, isA_r, isI_i, isI_r, isR_i, ar, akI, akZ, akB, akO, mI_sI, mP_sI, mK_sI, mN_sI, mX_sI, mP_sP, mI_sP, mK_sP, mN_sP, mX_sP, rc_C_way, e_C_way_0, e_C_way_5, e_C_way_12, e_C_way_19, e_C_way_26, e_C_way_41, fK_1 hF, fK_2 hF, fK_3 hF, fK_4 hF, fK_5 hF, fK_6 hF, fN_6 hF, fK_7 hF, fN_7 hF, fK_8 hF, fN_8 hF, fK_9 hF, fN_9 hF, fK_10 hF, fK_11 hF, fN_11 hF, fK_12 hF, fK_13 hF, fN_13 hF, fK_14 hF, fN_14 hF, fK_15 hF, fN_15 hF, fK_16 hF, fN_16 hF, fP_12_0 hF, fP_12_1 hF, fP_12_2 hF, fP_12_3 hF, fP_12_4 hF, fP_12_5 hF, fP_12_6 hF, fP_12_7 hF, fP_4_0 hF, fP_4_1 hF, fP_4_2 hF, fP_4_3 hF, fP_11_0 hF, fP_7_0 hF, fP_7_1 hF, fP_7_2 hF, hF.cc, e1, o3r, o3e, c_stopAt_no (d + 16) hF hRX hC hno2]
      · simp [psh_some, psh_none, -Int32.not_lt, -Int32.not_le, rc_M_way, q_M_way_0, q_M_way_5, q_M_way_10, q_M_way_13, q_M_way_18, q_M_way_54, hL, hμ, m_isBoat, m_isStop, hb.1, h12.1, bZ_t j1, bZ_f (no_ix hno2)]
  · refine Res.same hR hX hW (v := some (.int (-1))) ?_ (fun τ μ0 hμ hL => ?_)
    · simp [psh_some, psh_none, -Int32.not_lt, -Int32.not_le, va_rf, vd, vr, isR_r, isR_n, isA_r, isI_i, isI_r, isR_i, ar, akI, akZ, akB, akO, mI_sI, mP_sI, mK_sI, mN_sI, mX_sI, mP_sP, mI_sP, mK_sP, mN_sP, mX_sP, rc_C_way, e_C_way_0, e_C_way_5, e_C_way_12, e_C_way_19, e_C_way_41, fK_1 hF, fK_2 hF, fK_3 hF, fK_4 hF, fK_5 hF, fK_6 hF, fN_6 hF, fK_7 hF, fN_7 hF, fK_8 hF, fN_8 hF, fK_9 hF, fN_9 hF, fK_10 hF, fK_11 hF, fN_11 hF, fK_12 hF, fK_13 hF, fN_13 hF, fK_14 hF, fN_14 hF, fK_15 hF, fN_15 hF, fK_16 hF, fN_16 hF, fP_12_0 hF, fP_12_1 hF, fP_12_2 hF, fP_12_3 hF, fP_12_4 hF, fP_12_5 hF, fP_12_6 hF, fP_12_7 hF, fP_4_0 hF, fP_4_1 hF, fP_4_2 hF, fP_4_3 hF, fP_11_0 hF, fP_7_0 hF, fP_7_1 hF, fP_7_2 hF, hF.cc, o2r, o2e, o3r, o3e, c_boatAt_no (d + 16) hF hRX hC hno1]
    · simp [psh_some, psh_none, -Int32.not_lt, -Int32.not_le, rc_M_way, q_M_way_0, q_M_way_5, q_M_way_10, q_M_way_54, hL, hμ, m_isBoat, hb.1, bZ_f (no_ix hno1)]
end O84
