/-! ===== OPERATION: boat ===== -/
section O61
variable {σ σ' : Mm} {c a : Nat} {E S L B G H Q : Nat → Nat} {Z : Nat → List Nat} {w : Bool} {μ μ' : Ms} (d : Nat)
def t7 (x2 x3 x4 x5 x6 x7 x8 : Int32) : Bool := decide ((¬ x2 < 1000 ∧ ¬ 40000 < x2) ∧ (¬ x3 < 1000 ∧ ¬ 90000 < x3) ∧ (¬ x4 < 60 ∧ ¬ 200 < x4) ∧ (¬ x5 < 10 ∧ ¬ 300 < x5) ∧ (¬ x6 < 50 ∧ ¬ 3000 < x6) ∧ (¬ x7 < 0 ∧ ¬ 20000 < x7) ∧ (¬ x8 < 2 ∧ ¬ 9 < x8))
theorem c_told {h : Nat} (hk : mK σ h = 5) {x2 x3 x4 x5 x6 x7 x8 : Int32} (m0 : mI σ 5 h 0 = x2) (m1 : mI σ 5 h 1 = x3) (m2 : mI σ 5 h 2 = x4) (m3 : mI σ 5 h 3 = x5) (m4 : mI σ 5 h 4 = x6) (m5 : mI σ 5 h 5 = x7) (m6 : mI σ 5 h 6 = x8) : runc (d + 1) 15 [.ref h] σ = some (some (.int (bZ (t7 x2 x3 x4 x5 x6 x7 x8 = true))), σ) := by
  by_cases c2 : ¬ x2 < 1000 ∧ ¬ 40000 < x2
  · by_cases c3 : ¬ x3 < 1000 ∧ ¬ 90000 < x3
    · by_cases c4 : ¬ x4 < 60 ∧ ¬ 200 < x4
      · by_cases c5 : ¬ x5 < 10 ∧ ¬ 300 < x5
        · by_cases c6 : ¬ x6 < 50 ∧ ¬ 3000 < x6
          · by_cases c7 : ¬ x7 < 0 ∧ ¬ 20000 < x7
            · by_cases c8 : ¬ x8 < 2 ∧ ¬ 9 < x8
              · rw [bZ_t (p := t7 x2 x3 x4 x5 x6 x7 x8 = true) (decide_eq_true ⟨c2, c3, c4, c5, c6, c7, c8⟩)]
                simp [psh_some, psh_none, -Int32.not_lt, -Int32.not_le, rc_Hull_isAsTold, e_Hull_isAsTold_0, e_Hull_isAsTold_12, e_Hull_isAsTold_15, e_Hull_isAsTold_27, e_Hull_isAsTold_30, e_Hull_isAsTold_42, e_Hull_isAsTold_45, e_Hull_isAsTold_57, e_Hull_isAsTold_60, e_Hull_isAsTold_72, e_Hull_isAsTold_75, e_Hull_isAsTold_86, e_Hull_isAsTold_89, e_Hull_isAsTold_99, e_Hull_isAsTold_102, e_Hull_isAsTold_106, e_Hull_isAsTold_107, hk, m0, m1, m2, m3, m4, m5, m6, c_within, bZ_t c2, bZ_t c3, bZ_t c4, bZ_t c5, bZ_t c6, bZ_t c7, bZ_t c8]
              · rw [bZ_f (p := t7 x2 x3 x4 x5 x6 x7 x8 = true) (fun z => c8 (of_decide_eq_true z).2.2.2.2.2.2)]
                simp [psh_some, psh_none, -Int32.not_lt, -Int32.not_le, rc_Hull_isAsTold, e_Hull_isAsTold_0, e_Hull_isAsTold_12, e_Hull_isAsTold_15, e_Hull_isAsTold_27, e_Hull_isAsTold_30, e_Hull_isAsTold_42, e_Hull_isAsTold_45, e_Hull_isAsTold_57, e_Hull_isAsTold_60, e_Hull_isAsTold_72, e_Hull_isAsTold_75, e_Hull_isAsTold_86, e_Hull_isAsTold_89, e_Hull_isAsTold_99, e_Hull_isAsTold_102, e_Hull_isAsTold_106, e_Hull_isAsTold_107, hk, m0, m1, m2, m3, m4, m5, m6, c_within, bZ_t c2, bZ_t c3, bZ_t c4, bZ_t c5, bZ_t c6, bZ_t c7, bZ_f c8]
            · rw [bZ_f (p := t7 x2 x3 x4 x5 x6 x7 x8 = true) (fun z => c7 (of_decide_eq_true z).2.2.2.2.2.1)]
              simp [psh_some, psh_none, -Int32.not_lt, -Int32.not_le, rc_Hull_isAsTold, e_Hull_isAsTold_0, e_Hull_isAsTold_12, e_Hull_isAsTold_15, e_Hull_isAsTold_27, e_Hull_isAsTold_30, e_Hull_isAsTold_42, e_Hull_isAsTold_45, e_Hull_isAsTold_57, e_Hull_isAsTold_60, e_Hull_isAsTold_72, e_Hull_isAsTold_75, e_Hull_isAsTold_86, e_Hull_isAsTold_89, e_Hull_isAsTold_99, e_Hull_isAsTold_102, e_Hull_isAsTold_106, e_Hull_isAsTold_107, hk, m0, m1, m2, m3, m4, m5, c_within, bZ_t c2, bZ_t c3, bZ_t c4, bZ_t c5, bZ_t c6, bZ_f c7]
          · rw [bZ_f (p := t7 x2 x3 x4 x5 x6 x7 x8 = true) (fun z => c6 (of_decide_eq_true z).2.2.2.2.1)]
            simp [psh_some, psh_none, -Int32.not_lt, -Int32.not_le, rc_Hull_isAsTold, e_Hull_isAsTold_0, e_Hull_isAsTold_12, e_Hull_isAsTold_15, e_Hull_isAsTold_27, e_Hull_isAsTold_30, e_Hull_isAsTold_42, e_Hull_isAsTold_45, e_Hull_isAsTold_57, e_Hull_isAsTold_60, e_Hull_isAsTold_72, e_Hull_isAsTold_75, e_Hull_isAsTold_86, e_Hull_isAsTold_89, e_Hull_isAsTold_99, e_Hull_isAsTold_102, e_Hull_isAsTold_106, e_Hull_isAsTold_107, hk, m0, m1, m2, m3, m4, c_within, bZ_t c2, bZ_t c3, bZ_t c4, bZ_t c5, bZ_f c6]
        · rw [bZ_f (p := t7 x2 x3 x4 x5 x6 x7 x8 = true) (fun z => c5 (of_decide_eq_true z).2.2.2.1)]
          simp [psh_some, psh_none, -Int32.not_lt, -Int32.not_le, rc_Hull_isAsTold, e_Hull_isAsTold_0, e_Hull_isAsTold_12, e_Hull_isAsTold_15, e_Hull_isAsTold_27, e_Hull_isAsTold_30, e_Hull_isAsTold_42, e_Hull_isAsTold_45, e_Hull_isAsTold_57, e_Hull_isAsTold_60, e_Hull_isAsTold_72, e_Hull_isAsTold_75, e_Hull_isAsTold_86, e_Hull_isAsTold_89, e_Hull_isAsTold_99, e_Hull_isAsTold_102, e_Hull_isAsTold_106, e_Hull_isAsTold_107, hk, m0, m1, m2, m3, c_within, bZ_t c2, bZ_t c3, bZ_t c4, bZ_f c5]
      · rw [bZ_f (p := t7 x2 x3 x4 x5 x6 x7 x8 = true) (fun z => c4 (of_decide_eq_true z).2.2.1)]
        simp [psh_some, psh_none, -Int32.not_lt, -Int32.not_le, rc_Hull_isAsTold, e_Hull_isAsTold_0, e_Hull_isAsTold_12, e_Hull_isAsTold_15, e_Hull_isAsTold_27, e_Hull_isAsTold_30, e_Hull_isAsTold_42, e_Hull_isAsTold_45, e_Hull_isAsTold_57, e_Hull_isAsTold_60, e_Hull_isAsTold_72, e_Hull_isAsTold_75, e_Hull_isAsTold_86, e_Hull_isAsTold_89, e_Hull_isAsTold_99, e_Hull_isAsTold_102, e_Hull_isAsTold_106, e_Hull_isAsTold_107, hk, m0, m1, m2, c_within, bZ_t c2, bZ_t c3, bZ_f c4]
    · rw [bZ_f (p := t7 x2 x3 x4 x5 x6 x7 x8 = true) (fun z => c3 (of_decide_eq_true z).2.1)]
      simp [psh_some, psh_none, -Int32.not_lt, -Int32.not_le, rc_Hull_isAsTold, e_Hull_isAsTold_0, e_Hull_isAsTold_12, e_Hull_isAsTold_15, e_Hull_isAsTold_27, e_Hull_isAsTold_30, e_Hull_isAsTold_42, e_Hull_isAsTold_45, e_Hull_isAsTold_57, e_Hull_isAsTold_60, e_Hull_isAsTold_72, e_Hull_isAsTold_75, e_Hull_isAsTold_86, e_Hull_isAsTold_89, e_Hull_isAsTold_99, e_Hull_isAsTold_102, e_Hull_isAsTold_106, e_Hull_isAsTold_107, hk, m0, m1, c_within, bZ_t c2, bZ_f c3]
  · rw [bZ_f (p := t7 x2 x3 x4 x5 x6 x7 x8 = true) (fun z => c2 (of_decide_eq_true z).1)]
    simp [psh_some, psh_none, -Int32.not_lt, -Int32.not_le, rc_Hull_isAsTold, e_Hull_isAsTold_0, e_Hull_isAsTold_12, e_Hull_isAsTold_15, e_Hull_isAsTold_27, e_Hull_isAsTold_30, e_Hull_isAsTold_42, e_Hull_isAsTold_45, e_Hull_isAsTold_57, e_Hull_isAsTold_60, e_Hull_isAsTold_72, e_Hull_isAsTold_75, e_Hull_isAsTold_86, e_Hull_isAsTold_89, e_Hull_isAsTold_99, e_Hull_isAsTold_102, e_Hull_isAsTold_106, e_Hull_isAsTold_107, hk, m0, c_within, bZ_f c2]
theorem m_told_t (hL : LM σ a) {x1 x2 x3 x4 x5 x6 x7 x8 : Int32} (h : t7 x2 x3 x4 x5 x6 x7 x8 = true) : run (d + 1) 135 32 [.ref a, .int x1, .int x2, .int x3, .int x4, .int x5, .int x6, .int x7, .int x8] [] (put σ a μ) = run (d + 1) 135 120 [.ref a, .int x1, .int x2, .int x3, .int x4, .int x5, .int x6, .int x7, .int x8] [] (put σ a μ) := by
  obtain ⟨c2, c3, c4, c5, c6, c7, c8⟩ := of_decide_eq_true h
  simp [psh_some, psh_none, -Int32.not_lt, -Int32.not_le, q_M_boat_32, q_M_boat_41, q_M_boat_44, q_M_boat_53, q_M_boat_56, q_M_boat_66, q_M_boat_69, q_M_boat_79, q_M_boat_82, q_M_boat_92, q_M_boat_95, q_M_boat_104, q_M_boat_107, q_M_boat_115, hL, m_in, bZ_t c2, bZ_t c3, bZ_t c4, bZ_t c5, bZ_t c6, bZ_t c7, bZ_t c8]
theorem m_told_f (hL : LM σ a) {x1 x2 x3 x4 x5 x6 x7 x8 : Int32} (h : ¬ t7 x2 x3 x4 x5 x6 x7 x8 = true) : run (d + 1) 135 32 [.ref a, .int x1, .int x2, .int x3, .int x4, .int x5, .int x6, .int x7, .int x8] [] (put σ a μ) = some (some (.int (-1)), put σ a μ) := by
  by_cases c2 : ¬ x2 < 1000 ∧ ¬ 40000 < x2
  · by_cases c3 : ¬ x3 < 1000 ∧ ¬ 90000 < x3
    · by_cases c4 : ¬ x4 < 60 ∧ ¬ 200 < x4
      · by_cases c5 : ¬ x5 < 10 ∧ ¬ 300 < x5
        · by_cases c6 : ¬ x6 < 50 ∧ ¬ 3000 < x6
          · by_cases c7 : ¬ x7 < 0 ∧ ¬ 20000 < x7
            · by_cases c8 : ¬ x8 < 2 ∧ ¬ 9 < x8
              · exact absurd (decide_eq_true ⟨c2, c3, c4, c5, c6, c7, c8⟩) h
              · simp [psh_some, psh_none, -Int32.not_lt, -Int32.not_le, q_M_boat_32, q_M_boat_41, q_M_boat_44, q_M_boat_53, q_M_boat_56, q_M_boat_66, q_M_boat_69, q_M_boat_79, q_M_boat_82, q_M_boat_92, q_M_boat_95, q_M_boat_104, q_M_boat_107, q_M_boat_115, q_M_boat_118, hL, m_in, bZ_t c2, bZ_t c3, bZ_t c4, bZ_t c5, bZ_t c6, bZ_t c7, bZ_f c8]
            · simp [psh_some, psh_none, -Int32.not_lt, -Int32.not_le, q_M_boat_32, q_M_boat_41, q_M_boat_44, q_M_boat_53, q_M_boat_56, q_M_boat_66, q_M_boat_69, q_M_boat_79, q_M_boat_82, q_M_boat_92, q_M_boat_95, q_M_boat_104, q_M_boat_118, hL, m_in, bZ_t c2, bZ_t c3, bZ_t c4, bZ_t c5, bZ_t c6, bZ_f c7]
          · simp [psh_some, psh_none, -Int32.not_lt, -Int32.not_le, q_M_boat_32, q_M_boat_41, q_M_boat_44, q_M_boat_53, q_M_boat_56, q_M_boat_66, q_M_boat_69, q_M_boat_79, q_M_boat_82, q_M_boat_92, q_M_boat_118, hL, m_in, bZ_t c2, bZ_t c3, bZ_t c4, bZ_t c5, bZ_f c6]
        · simp [psh_some, psh_none, -Int32.not_lt, -Int32.not_le, q_M_boat_32, q_M_boat_41, q_M_boat_44, q_M_boat_53, q_M_boat_56, q_M_boat_66, q_M_boat_69, q_M_boat_79, q_M_boat_118, hL, m_in, bZ_t c2, bZ_t c3, bZ_t c4, bZ_f c5]
      · simp [psh_some, psh_none, -Int32.not_lt, -Int32.not_le, q_M_boat_32, q_M_boat_41, q_M_boat_44, q_M_boat_53, q_M_boat_56, q_M_boat_66, q_M_boat_118, hL, m_in, bZ_t c2, bZ_t c3, bZ_f c4]
    · simp [psh_some, psh_none, -Int32.not_lt, -Int32.not_le, q_M_boat_32, q_M_boat_41, q_M_boat_44, q_M_boat_53, q_M_boat_118, hL, m_in, bZ_t c2, bZ_f c3]
  · simp [psh_some, psh_none, -Int32.not_lt, -Int32.not_le, q_M_boat_32, q_M_boat_41, q_M_boat_118, hL, m_in, bZ_f c2]
def hulM (σ : Mm) (x2 x3 x4 x5 x6 x7 x8 : Int32) : Mm := sI (sI (sI (sI (sI (sI (sI (nw σ 5 0 7) 5 (mX σ) 0 x2) 5 (mX σ) 1 x3) 5 (mX σ) 2 x4) 5 (mX σ) 3 x5) 5 (mX σ) 4 x6) 5 (mX σ) 5 x7) 5 (mX σ) 6 x8
def boaM (σ : Mm) (y n h s : Nat) : Mm := sP (sP (sP (sI (sI (sI (nw σ 3 0 17) 3 y 2 0) 3 y 9 (-1)) 3 y 0 (nI n)) 3 y 1 (some h)) 3 y 3 (some s)) 3 y 4 (some s)
def boaS (μ : Ms) (i : Nat) (x2 x3 x4 x5 x6 x7 x8 : Int32) : Ms := fF (fA (fA (fA (fA (fA (fA (fA (fA (fA (fA (fA (fA (fA (fA μ 17 (nB μ) x2) 18 (nB μ) x3) 19 (nB μ) x4) 20 (nB μ) x5) 21 (nB μ) x6) 22 (nB μ) x7) 23 (nB μ) x8) 24 (nB μ) 0) 25 (nB μ) (nI i)) 27 (nB μ) 0) 28 (nB μ) 0) 29 (nB μ) (-1)) 30 (nB μ) 0) 31 (nB μ) 0) 16 (nI (nB μ) + 1)
theorem boaS_o {i k : Nat} {x2 x3 x4 x5 x6 x7 x8 : Int32} (f : Nat) (hk : k ≠ nB μ) : (boaS μ i x2 x3 x4 x5 x6 x7 x8).2 f k = μ.2 f k := by simp [boaS, fA_2, fF_2, hk]
theorem boaS_f {i : Nat} {x2 x3 x4 x5 x6 x7 x8 : Int32} {f : Nat} (hf : f < 17 ∨ 31 < f ∨ f = 26) : (boaS μ i x2 x3 x4 x5 x6 x7 x8).2 f = μ.2 f := by
  unfold boaS
  rw [fF_2, fA_2n _ (by omega), fA_2n _ (by omega), fA_2n _ (by omega), fA_2n _ (by omega), fA_2n _ (by omega), fA_2n _ (by omega), fA_2n _ (by omega), fA_2n _ (by omega), fA_2n _ (by omega), fA_2n _ (by omega), fA_2n _ (by omega), fA_2n _ (by omega), fA_2n _ (by omega), fA_2n _ (by omega)]
def Bn (μ ν : Ms) (i : Nat) (x2 x3 x4 x5 x6 x7 x8 : Int32) : Prop := (∀ g, g ≠ 16 → ν.1 g = μ.1 g) ∧ ν.1 16 = nI (nB μ) + 1 ∧ (∀ f k, k ≠ nB μ → ν.2 f k = μ.2 f k) ∧ (∀ f, f < 17 ∨ 31 < f ∨ f = 26 → ν.2 f = μ.2 f) ∧ ν.2 17 (nB μ) = x2 ∧ ν.2 18 (nB μ) = x3 ∧ ν.2 19 (nB μ) = x4 ∧ ν.2 20 (nB μ) = x5 ∧ ν.2 21 (nB μ) = x6 ∧ ν.2 22 (nB μ) = x7 ∧ ν.2 23 (nB μ) = x8 ∧ ν.2 24 (nB μ) = 0 ∧ ν.2 25 (nB μ) = nI i ∧ ν.2 27 (nB μ) = 0 ∧ ν.2 28 (nB μ) = 0 ∧ ν.2 29 (nB μ) = -1 ∧ ν.2 30 (nB μ) = 0 ∧ ν.2 31 (nB μ) = 0
theorem boaS_Bn (i : Nat) (x2 x3 x4 x5 x6 x7 x8 : Int32) : Bn μ (boaS μ i x2 x3 x4 x5 x6 x7 x8) i x2 x3 x4 x5 x6 x7 x8 := by
  refine ⟨fun g hg => by simp [boaS, fF_1, fA_1, hg], by simp [boaS, fF_1], fun f k hk => boaS_o f hk, fun f hf => boaS_f hf, ?_, ?_, ?_, ?_, ?_, ?_, ?_, ?_, ?_, ?_, ?_, ?_, ?_, ?_⟩
  all_goals simp [boaS, fA_2, fF_2]
theorem boa_I {y n h s : Nat} (f : Nat) (hy : mX σ = y) : mI (boaM σ y n h s) 3 y f = if f = 0 then nI n else if f = 9 then -1 else 0 := by
  by_cases f0 : f = 0
  · simp [boaM, mI_sP, mI_sI, f0]
  · by_cases f9 : f = 9
    · simp [boaM, mI_sP, mI_sI, f9]
    · by_cases f2 : f = 2
      · simp [boaM, mI_sP, mI_sI, f2]
      · simp [boaM, mI_sP, mI_sI, mI_nw, f0, f9, f2, hy]
theorem hul_I {y n h s : Nat} {q f : Nat} : mI (boaM σ y n h s) 5 q f = mI (nw σ 3 0 17) 5 q f := by simp [boaM, mI_sP, mI_sI]
theorem c_hulInit (x2 x3 x4 x5 x6 x7 x8 : Int32) : runc d 14 [.ref (mX σ), .int x2, .int x3, .int x4, .int x5, .int x6, .int x7, .int x8] (nw σ 5 0 7) = some (none, hulM σ x2 x3 x4 x5 x6 x7 x8) := by
  simp [psh_some, psh_none, -Int32.not_lt, -Int32.not_le, rc_Hull_init, e_Hull_init_0, e_Hull_init_9, e_Hull_init_14, e_Hull_init_19, e_Hull_init_25, e_Hull_init_31, e_Hull_init_37, e_Hull_init_43, mK_sI, mK_nw, hulM]
theorem c_boaInit {y n h s : Nat} (hy : mX σ = y) : runc d 2 [.ref y, .int (nI n), .ref h, .ref s] (nw σ 3 0 17) = some (none, boaM σ y n h s) := by
  simp [psh_some, psh_none, -Int32.not_lt, -Int32.not_le, va_rf, vd, vr, isR_r, isR_n, isA_r, isI_i, isI_r, isR_i, ar, akI, akZ, akB, akO, mI_sI, mP_sI, mK_sI, mN_sI, mX_sI, mP_sP, mI_sP, mK_sP, mN_sP, mX_sP, rc_Boat_init, e_Boat_init_0, e_Boat_init_9, e_Boat_init_14, e_Boat_init_19, e_Boat_init_24, e_Boat_init_29, e_Boat_init_34, mK_nw, boaM, hy]
theorem boat_Wf {ν : Ms} {i fr : Nat} {x2 x3 x4 x5 x6 x7 x8 : Int32} (hW : Wf μ) (hb5 : nB μ < 6) (hi : i < nS μ) (hN : Bn μ ν i x2 x3 x4 x5 x6 x7 x8) (fr4 : fr ≤ 4) (hf0 : ¬ fr = 0) (hfr' : μ.2 3 i - sm (mo1 μ (nI i)) (nB μ) = nI fr) (ht : t7 x2 x3 x4 x5 x6 x7 x8 = true) : Wf ν := by
  have hC := hW.1
  have hs12 := hC.s
  have hb6 := hC.b
  obtain ⟨b1, b16, bo, bf, n17, n18, n19, n20, n21, n22, n23, n24, n25, n27, n28, n29, n30, n31⟩ := hN
  have eS : nS ν = nS μ := by unfold nS; rw [b1 2 (by decide)]
  have eL : nL ν = nL μ := by unfold nL; rw [b1 7 (by decide)]
  have eF : nF ν = nF μ := by unfold nF; rw [b1 11 (by decide)]
  have eG : nG ν = nG μ := by unfold nG; rw [b1 60 (by decide)]
  have eK : nK ν = nK μ := by unfold nK; rw [b1 56 (by decide)]
  have eT : nT ν = nT μ := by unfold nT; rw [b1 40 (by decide)]
  have eR : nR ν = nR μ := by unfold nR; rw [b1 41 (by decide)]
  have eW : nW ν = nW μ := by unfold nW; rw [b1 1 (by decide)]
  have hn' : nB ν = nB μ + 1 := by unfold nB; rw [b16]; show (nI (nB μ) + 1).toNatClampNeg = _; rw [nI_1, nI_clamp (by omega)]; rfl
  have hmo : ∀ k, k < nS μ → sm (mo1 (ν) (nI k)) (nB μ + 1) = sm (mo1 μ (nI k)) (nB μ) + (if k = i then 1 else 0) := fun k hk => by
    rw [sm]
    have q1 : sm (mo1 (ν) (nI k)) (nB μ) = sm (mo1 μ (nI k)) (nB μ) := sm_congr fun j hj => by
      unfold mo1
      rw [bo 24 _ (by omega), bo 25 _ (by omega)]
    have q2 : mo1 (ν) (nI k) (nB μ) = if k = i then 1 else 0 := by
      unfold mo1
      rw [n24, n25]
      by_cases y : k = i
      · rw [if_pos ⟨rfl, by rw [y]⟩, if_pos y]
      · rw [if_neg (fun z => y ((nI_eq (by omega) (by omega)).mp z.2).symm), if_neg y]
    rw [q1, q2]
  have no01 : ¬ (0 : Int32) = 1 := by decide
  have no02 : ¬ (0 : Int32) = 2 := by decide
  have ci := cl12 (show i < 12 by omega)
  obtain ⟨o32, o33, o34, o35, o36⟩ := hW.2.2.2.1.2 (nB μ) (Nat.le_refl _)
  obtain ⟨c2, c3, c4, c5, c6, c7, c8⟩ := of_decide_eq_true ht
  obtain ⟨v2, v2a, v2b, v2c⟩ := in_N (a := 1000) (b := 40000) rfl rfl (by omega) (by omega) c2
  obtain ⟨v3, v3a, v3b, v3c⟩ := in_N (a := 1000) (b := 90000) rfl rfl (by omega) (by omega) c3
  obtain ⟨v4, v4a, v4b, v4c⟩ := in_N (a := 60) (b := 200) rfl rfl (by omega) (by omega) c4
  obtain ⟨v5, v5a, v5b, v5c⟩ := in_N (a := 10) (b := 300) rfl rfl (by omega) (by omega) c5
  obtain ⟨v6, v6a, v6b, v6c⟩ := in_N (a := 50) (b := 3000) rfl rfl (by omega) (by omega) c6
  obtain ⟨v7, v7a, v7b, v7c⟩ := in_N (a := 0) (b := 20000) rfl rfl (by omega) (by omega) c7
  obtain ⟨v8, v8a, v8b, v8c⟩ := in_N (a := 2) (b := 9) rfl rfl (by omega) (by omega) c8
  refine ⟨⟨?_, ?_, ?_, ?_, ?_⟩, ⟨fun k hk => ?_, fun k hk => ?_⟩, WL_mono hW.2.2.1 (Nat.le_of_eq eS.symm) (b1 _ (by decide)) (fun f hf => bf f (by simp only [List.mem_cons, List.not_mem_nil, or_false] at hf; omega)), ⟨fun k hk => ?_, fun k hk => ?_⟩, WG_mono hW.2.2.2.2.1 (Nat.le_of_eq eS.symm) (by rw [hn']; omega) (b1 _ (by decide)) (fun f hf => bf f (by simp only [List.mem_cons, List.not_mem_nil, or_false] at hf; omega)), ?_, ?_, ?_, ?_, fun k hk => ?_⟩
  · rw [eS, b1 2 (by decide)]; exact hC.1
  · rw [eL, b1 7 (by decide)]; exact hC.2.1
  · rw [eF, b1 11 (by decide)]; exact hC.2.2.1
  · rw [hn', b16, nI_1]
    exact ⟨rfl, by omega⟩
  · rw [eG, eK, eT, eR, eW, b1 60 (by decide), b1 56 (by decide), b1 40 (by decide), b1 41 (by decide), b1 1 (by decide)]; exact hC.2.2.2.2
  · have hk' : k < nS μ := by rw [← eS]; exact hk
    obtain ⟨t1, t2, t3, t4, f, t5, t6⟩ := hW.2.1.1 k hk'
    rw [bf _ (by omega), bf _ (by omega), bf _ (by omega), bf _ (by omega)]
    refine ⟨t1, t2, t3, t4, ?_⟩
    unfold frA at t6 ⊢
    rw [hn', hmo k hk', bf _ (by omega)]
    by_cases y : k = i
    · subst y
      rw [if_pos rfl, ← sub_sub', hfr']
      exact ⟨fr - 1, by omega, by rw [show (1 : Int32) = nI 1 from rfl, pk_sub (by omega)]⟩
    · rw [if_neg y, add_zero']
      exact ⟨f, t5, t6⟩
  · rw [bf _ (by omega)]
    rw [eS] at hk
    exact hW.2.1.2 k hk
  · rw [hn'] at hk
    by_cases y : k = nB μ
    · subst y
      unfold WB1 aT wH
      rw [eS, n17, n18, n19, n20, n21, n22, n23, n24, n25, n27, n29, n30, n31, bf 32 (by omega), o32, ci]
      exact ⟨⟨rfl, hi⟩, ⟨v2, v2a, v2b, v2c⟩, ⟨v3, v3a, v3b, v3c⟩, ⟨v4, v4a, v4b, v4c⟩, ⟨v5, v5a, v5b, v5c⟩, ⟨v6, 0, v6a, v6b, v6c, by omega, rfl⟩, ⟨v7, v7b, v7c⟩, ⟨v8, v8a, v8b, v8c⟩, Or.inl rfl, ⟨0, by omega, rfl, fun z => absurd z (by omega)⟩, Or.inl rfl, Or.inl rfl, fun z => absurd z no01, fun z => absurd z no02⟩
    · have t := hW.2.2.2.1.1 k (by omega)
      unfold WB1 aT wH at t ⊢
      rw [eS]
      simp only [bo _ _ y]
      exact t
  · rw [hn'] at hk
    rw [bf _ (by omega), bf _ (by omega), bf _ (by omega), bf _ (by omega), bf _ (by omega)]
    exact hW.2.2.2.1.2 k (by omega)
  · have q := hW.2.2.2.2.2.1
    unfold WF ofN at q ⊢
    rw [eF, bf 12 (by omega), bf 13 (by omega), bf 15 (by omega)]
    exact q
  · have q := hW.2.2.2.2.2.2.1
    unfold WT at q ⊢
    rw [bf 39 (by omega)]
    exact q
  · have q := hW.2.2.2.2.2.2.2.1
    unfold WR Rl tm at q ⊢
    rw [eR, bf 42 (by omega), bf 44 (by omega), bf 45 (by omega)]
    exact q
  · have q := hW.2.2.2.2.2.2.2.2.1
    rw [eK, bf 58 (by omega)]
    exact q
  · rw [hn'] at hk
    rw [bf _ (by omega), eW]
    by_cases y : k = nB μ
    · subst y
      exact ⟨0, Nat.zero_le _, o33⟩
    · exact hW.2.2.2.2.2.2.2.2.2 k (by omega)
theorem boat_RC {ν : Ms} {i y h e' : Nat} {σa σ1 : Mm} {x2 x3 x4 x5 x6 x7 x8 : Int32} (hW : Wf μ) (hb5 : nB μ < 6) (hi : i < nS μ) (hN : Bn μ ν i x2 x3 x4 x5 x6 x7 x8) (hRa : RC σa c E S L B G H Q Z w μ) (hXa : Kx σa) (hA : Ad σa (c + 3) (E 2) (nB μ) y B σ1 e') (hya : y < mX σa) (hha : h < mX σa) (k3 : mK σa y = 3) (k5 : mK σa h = 5) (cI : ∀ f, mI σa 3 y f = if f = 0 then nI (nB μ) else if f = 9 then -1 else 0) (cP1 : mP σa 3 y 1 = some h) (cP3 : mP σa 3 y 3 = some (S i)) (h0 : mI σa 5 h 0 = x2) (h1 : mI σa 5 h 1 = x3) (h2 : mI σa 5 h 2 = x4) (h3 : mI σa 5 h 3 = x5) (h4 : mI σa 5 h 4 = x6) (h5 : mI σa 5 h 5 = x7) (h6 : mI σa 5 h 6 = x8) : RC (sI σ1 10 (S i) 5 (mI σ1 10 (S i) 5 + 1)) c (adj E 2 e') S L (adj B (nB μ) y) G (adj H (nB μ) h) Q Z w ν := by
  have hC := hW.1
  have hs12 := hC.s
  have hb6 := hC.b
  obtain ⟨b1, b16, bo, bf, n17, n18, n19, n20, n21, n22, n23, n24, n25, n27, n28, n29, n30, n31⟩ := hN
  have eS : nS ν = nS μ := by unfold nS; rw [b1 2 (by decide)]
  have eL : nL ν = nL μ := by unfold nL; rw [b1 7 (by decide)]
  have eF : nF ν = nF μ := by unfold nF; rw [b1 11 (by decide)]
  have eG : nG ν = nG μ := by unfold nG; rw [b1 60 (by decide)]
  have eK : nK ν = nK μ := by unfold nK; rw [b1 56 (by decide)]
  have eT : nT ν = nT μ := by unfold nT; rw [b1 40 (by decide)]
  have eR : nR ν = nR μ := by unfold nR; rw [b1 41 (by decide)]
  have eW : nW ν = nW μ := by unfold nW; rw [b1 1 (by decide)]
  have hn' : nB ν = nB μ + 1 := by unfold nB; rw [b16]; show (nI (nB μ) + 1).toNatClampNeg = _; rw [nI_1, nI_clamp (by omega)]; rfl
  have hmo : ∀ k, k < nS μ → sm (mo1 (ν) (nI k)) (nB μ + 1) = sm (mo1 μ (nI k)) (nB μ) + (if k = i then 1 else 0) := fun k hk => by
    rw [sm]
    have q1 : sm (mo1 (ν) (nI k)) (nB μ) = sm (mo1 μ (nI k)) (nB μ) := sm_congr fun j hj => by
      unfold mo1
      rw [bo 24 _ (by omega), bo 25 _ (by omega)]
    have q2 : mo1 (ν) (nI k) (nB μ) = if k = i then 1 else 0 := by
      unfold mo1
      rw [n24, n25]
      by_cases y : k = i
      · rw [if_pos ⟨rfl, by rw [y]⟩, if_pos y]
      · rw [if_neg (fun z => y ((nI_eq (by omega) (by omega)).mp z.2).symm), if_neg y]
    rw [q1, q2]
  have no01 : ¬ (0 : Int32) = 1 := by decide
  have ci := cl12 (show i < 12 by omega)
  obtain ⟨o32, o33, o34, o35, o36⟩ := hW.2.2.2.1.2 (nB μ) (Nat.le_refl _)
  obtain ⟨aF, az, aRX, aRS, aRL, aRB, aRP, aRG, aRF, aRT, aRK, aRR, aRN⟩ := id hRa
  have hs1 := hA.2.1
  have hX1 : Kx σ1 := hA.2.2.2.2.2.2.1
  have hF1 : FL σ1 c := aF.fr hXa hs1 (by rintro q (rfl | rfl | rfl | rfl | rfl) <;> rfl)
  have hz1 : Ez σ1 := az.fr hs1 rfl
  have hE := E_add (σ := σa) (σ' := σ1) (i := 2) aRX.2.2.2.2.1 aRX.2.2.2.2.2 (by decide) hA.2.2.2.2.1 hA.2.2.2.2.2.1 hs1.X
  have ne : ∀ i, i ≠ 2 → i < 4 → E i ≠ E 2 := fun i h1 h2 y => by have := aRX.2.2.2.2.1 i 2 h2 (by decide) y; omega
  have hSi := hXa.lt (aRS i hi).1 (by decide)
  have hs10 : Sm (tk [10]) σ1 (sI σ1 10 (S i) 5 (mI σ1 10 (S i) 5 + 1)) := SmsI (Sm.rfl' σ1) rfl _ _ _
  have hs : Sm (tk [1, 10, 1003]) σa (sI σ1 10 (S i) 5 (mI σ1 10 (S i) 5 + 1)) := SmsI (hs1.mono (fun q hq => by
    simp only [tk, decide_eq_false_iff_not, List.mem_cons, List.not_mem_nil, or_false] at hq ⊢
    omega)) rfl _ _ _
  refine ⟨aF.fr hXa hs (by rintro q (rfl | rfl | rfl | rfl | rfl) <;> rfl), az.fr hs rfl, ?_, ?_, aRL.fr hXa hs rfl (b1 _ (by decide)) (bf _ (by omega)) (bf _ (by omega)) (bf _ (by omega)), ?_, ?_, aRG.fr hXa hs rfl rfl (b1 _ (by decide)) (fun f hf => bf f (by simp only [List.mem_cons, List.not_mem_nil, or_false] at hf; omega)), aRF.fr aF hXa hs rfl rfl rfl rfl rfl (b1 _ (by decide)) (fun f hf => bf f (by simp only [List.mem_cons, List.not_mem_nil, or_false] at hf; omega)), aRT.fr aF hXa hs rfl rfl (b1 _ (by decide)) (bf _ (by omega)), aRK.fr aF hXa hs rfl rfl rfl rfl (b1 _ (by decide)) (fun f hf => bf f (by simp only [List.mem_cons, List.not_mem_nil, or_false] at hf; omega)), aRR.fr aF hXa hs rfl (by rintro q (rfl | rfl | rfl | rfl | rfl | rfl | rfl | rfl) <;> rfl) (b1 _ (by decide)) (fun f hf => bf f (by simp only [List.mem_cons, List.not_mem_nil, or_false] at hf; omega)), aRN.fr aF hXa hs rfl (b1 _ (by decide)) (b1 _ (by decide)) (b1 _ (by decide)) (b1 _ (by decide)) (bf _ (by omega))⟩
  · have q1 : RX σ1 c (adj E 2 e') S L (adj B (nB μ) y) G (ν) := by
      unfold RX
      rw [eS, eL, eG]
      refine ⟨Lst_oth aRX.1 az hXa hA (by omega) (ne 0 (by decide) (by decide)), Lst_oth aRX.2.1 az hXa hA (by omega) (ne 1 (by decide) (by decide)), ?_, Lst_oth aRX.2.2.2.1 az hXa hA (by omega) (ne 3 (by decide) (by decide)), hE.1, hE.2⟩
      rw [hn']
      exact hA.1
    exact q1.fr hz1 hX1 hs10 rfl rfl rfl rfl rfl rfl rfl
  · intro k hk
    have hk' : k < nS μ := by rw [← eS]; exact hk
    obtain ⟨t0, t1, t2, t3, t4, t5, t6⟩ := aRS k hk'
    have hq := hXa.lt t0 (by decide)
    have q : ∀ f, mI σ1 10 (S k) f = mI σa 10 (S k) f := hs1.I rfl hq
    have q' : mI σ1 10 (S i) 5 = mI σa 10 (S i) 5 := hs1.I rfl hSi _
    refine ⟨(hs1.K hq).trans t0, ?_, ?_, ?_, ?_, ?_, ?_⟩
    · rw [mI_sI, if_neg (by omega), q]; exact t1
    · rw [mI_sI, if_neg (by omega), q, bf _ (by omega)]; exact t2
    · rw [mI_sI, if_neg (by omega), q, bf _ (by omega)]; exact t3
    · rw [mI_sI, if_neg (by omega), q, bf _ (by omega)]; exact t4
    · rw [mI_sI, if_neg (by omega), q, bf _ (by omega)]; exact t5
    · rw [hn', hmo k hk']
      by_cases y : k = i
      · subst y
        rw [mI_sI, if_pos ⟨rfl, rfl, rfl⟩, if_pos rfl, q', t6]
      · have : ¬ S k = S i := fun z => y (aRS.inj hC hk' hi z)
        rw [mI_sI, if_neg (fun z => this z.2.1), if_neg y, add_zero', q, t6]
  · intro k hk
    rw [hn'] at hk
    by_cases y : k = nB μ
    · subst y
      rw [adj_n, adj_n]
      have hq0 := hha
      have hq1 := hya
      have q : ∀ f, mI (sI σ1 10 (S i) 5 (mI σ1 10 (S i) 5 + 1)) 3 y f = mI σa 3 y f := hs.I rfl hq1
      have q2 : ∀ f, mP (sI σ1 10 (S i) 5 (mI σ1 10 (S i) 5 + 1)) 3 y f = mP σa 3 y f := hs.P rfl hq1
      have q3 : ∀ f, mI (sI σ1 10 (S i) 5 (mI σ1 10 (S i) 5 + 1)) 5 h f = mI σa 5 h f := hs.I rfl hq0
      refine ⟨?_, ?_⟩
      · unfold RB1 aT wH
        rw [hs.K hq1, k3, n24, n25, n27, n28, n29, n30, n31, bf 32 (by omega), bf 33 (by omega), bf 34 (by omega), bf 35 (by omega), bf 36 (by omega), o32, o33, o34, o35, o36, ci]
        simp only [q, q2]
        have r0 : mI σa 3 y 10 = 0 := by simp [cI]
        refine ⟨trivial, ?_, ?_, ?_, ?_, fun z => absurd z no01, ?_, ?_, ?_, ?_, ?_, ?_, ?_, ?_, ?_, ?_⟩
        · simp [cI]
        · first | exact cP1 | exact cP3
        · simp [cI]
        · first | exact cP1 | exact cP3
        · simp [cI]
        · simp [cI]
        · simp [cI]
        · simp [cI]
        · simp [cI]
        · simp [cI]
        · simp [cI]
        · simp [cI]
        · simp [cI]
        · rw [r0]
          have hw := hC.w
          rw [b1 1 (by decide), rsl, hw.1, if_neg (nI_pos (by omega))]
      · unfold RH
        rw [hs.K hq0, k5, n17, n18, n19, n20, n21, n22, n23]
        simp only [q3]
        refine ⟨trivial, ?_, ?_, ?_, ?_, ?_, ?_, ?_⟩
        all_goals first | exact h0 | exact h1 | exact h2 | exact h3 | exact h4 | exact h5 | exact h6
    · have hk' : k < nB μ := by omega
      rw [adj_o y, adj_o y]
      obtain ⟨t1, t2⟩ := aRB k hk'
      exact ⟨t1.fr hXa hs rfl (b1 _ (by decide)) (fun f _ => bo f _ y), t2.fr hXa hs rfl (fun f _ => bo f _ y)⟩
  · have hpd : ∀ s, sm (pd1 (ν) s) (nG μ) = sm (pd1 μ s) (nG μ) := fun s => sm_congr fun g _ => by
      unfold pd1
      rw [bf _ (by omega), bf _ (by omega), bf _ (by omega)]
    intro k hk
    rw [hn'] at hk
    rw [eG, hpd]
    by_cases y : k = nB μ
    · subst y
      rw [adj_n]
      have hq1 := hya
      have q : ∀ f, mI (sI σ1 10 (S i) 5 (mI σ1 10 (S i) 5 + 1)) 3 y f = mI σa 3 y f := hs.I rfl hq1
      have q6 : mI σa 3 y 6 = 0 := by simp [cI]
      have q7 : mI σa 3 y 7 = 0 := by simp [cI]
      have nob : ∀ g, g < nG μ → ¬ (μ.2 64 g = 1 ∧ μ.2 66 g = nI (nB μ)) := fun g hg z => by
        obtain ⟨b, b1, b2⟩ := (hW.2.2.2.2.1.1 g hg).2.2.2.2 z.1
        rw [b2, nI_eq (by omega) (by omega)] at z
        omega
      rw [q, q, q6, q7]
      refine ⟨fun g => ?_, ?_⟩
      · rw [b_0, eG, bf _ (by omega), bf _ (by omega)]
        symm
        rw [decide_eq_false_iff_not]
        rintro ⟨y1, y2⟩
        exact nob g y1 y2
      · symm
        exact sm_zero fun g hg => by rw [pd1, if_neg (nob g hg)]
    · have hk' : k < nB μ := by omega
      rw [adj_o y]
      obtain ⟨y6, y7⟩ := aRP k hk'
      have hq := hXa.lt (aRB k hk').1.1 (by decide)
      rw [hs.I rfl hq, hs.I rfl hq]
      refine ⟨fun g => ?_, y7⟩
      rw [y6 g, eG, bf _ (by omega), bf _ (by omega)]
theorem ok_boat (x1 x2 x3 x4 x5 x6 x7 x8 : Int32) : Ok 64 135 [.int x1, .int x2, .int x3, .int x4, .int x5, .int x6, .int x7, .int x8] := by
  refine Ok_of fun d σ c a E S L B G H Q Z w μ hR hLM hX hW => ?_
  have hC := hW.1
  obtain ⟨hF, hz, hRX, hRS, hRL, hRB, hRP, hRG, hRF, hRT, hRK, hRR, hRN⟩ := id hR
  have hs12 := hC.s
  have hb6 := hC.b
  have l2 := hRX.2.2.1
  have hlx := hF.lt hX
  have nc : ¬ c = mX σ := by omega
  have nc2 : ¬ c = mX σ + 1 := by omega
  have nc1 : ¬ c + 3 = mX σ := by omega
  have nc12 : ¬ c + 3 = mX σ + 1 := by omega
  rcases nIx x1 (n := nS μ) (by omega) with ⟨i, hi, rfl⟩ | hno1
  · have e1 := c_stopAt (d + 16) hF hRX hC hi (hRS i hi).1
    have kSi0 := (hRS i hi).1
    have j1 := is_ix hi (show nS μ ≤ 1000 by omega)
    by_cases h0 : nB μ = 6
    · have z1 : (6 : Int32) ≤ nI (nB μ) := by rw [h0]; decide
      have z2 : nI (nB μ) = 6 := by rw [h0]; rfl
      refine Res.same hR hX hW (v := some (.int (-1))) ?_ (fun τ μ0 hμ hL => ?_)
      · simp [psh_some, psh_none, -Int32.not_lt, -Int32.not_le, va_rf, vd, vr, isR_r, isR_n, isA_r, isI_i, isI_r, isR_i, ar, akI, akZ, akB, akO, mI_sI, mP_sI, mK_sI, mN_sI, mX_sI, mP_sP, mI_sP, mK_sP, mN_sP, mX_sP, rc_C_boat, e_C_boat_0, e_C_boat_5, e_C_boat_16, e_C_boat_35, fK_1 hF, fK_2 hF, fK_3 hF, fK_4 hF, fK_5 hF, fK_6 hF, fN_6 hF, fK_7 hF, fN_7 hF, fK_8 hF, fN_8 hF, fK_9 hF, fN_9 hF, fK_10 hF, fK_11 hF, fN_11 hF, fK_12 hF, fK_13 hF, fN_13 hF, fK_14 hF, fN_14 hF, fK_15 hF, fN_15 hF, fK_16 hF, fN_16 hF, fP_12_0 hF, fP_12_1 hF, fP_12_2 hF, fP_12_3 hF, fP_12_4 hF, fP_12_5 hF, fP_12_6 hF, fP_12_7 hF, fP_4_0 hF, fP_4_1 hF, fP_4_2 hF, fP_4_3 hF, fP_11_0 hF, fP_7_0 hF, fP_7_1 hF, fP_7_2 hF, hF.cc, e1, c_size _ l2.1, l2.2.1, z1]
      · simp [psh_some, psh_none, -Int32.not_lt, -Int32.not_le, rc_M_boat, q_M_boat_0, q_M_boat_5, q_M_boat_30, hL, hμ, hb6.1, z2]
    have z1 : ¬ (6 : Int32) ≤ nI (nB μ) := nI_ge (b := 6) (by omega) (by omega)
    have z2 : ¬ nI (nB μ) = 6 := fun y => h0 ((nI_eq (b := 6) (by omega) (by omega)).mp y)
    obtain ⟨fr, fr4, hfr⟩ := (hW.2.1.1 i hi).2.2.2.2
    have ef := c_free' (σ := σ) (d + 19) hRS hi
    have hfr' := hfr
    unfold frA at hfr'
    have mfr : ∀ (τ : Mm), LM τ a → runc (d + 19) 133 [.ref a, .int (nI i)] (put τ a μ) = some (some (.int (nI fr)), put τ a μ) := fun τ hL => by
      have := m_freeAt (μ := μ) (d + 19) hL hb6.2 hb6.1 (show i < 12 by omega)
      rw [hfr'] at this
      exact this
    by_cases hf0 : fr = 0
    · subst hf0
      have z3 : ¬ (1 : Int32) ≤ frA μ i := by rw [hfr]; decide
      refine Res.same hR hX hW (v := some (.int (-1))) ?_ (fun τ μ0 hμ hL => ?_)
      · simp [psh_some, psh_none, -Int32.not_lt, -Int32.not_le, va_rf, vd, vr, isR_r, isR_n, isA_r, isI_i, isI_r, isR_i, ar, akI, akZ, akB, akO, mI_sI, mP_sI, mK_sI, mN_sI, mX_sI, mP_sP, mI_sP, mK_sP, mN_sP, mX_sP, rc_C_boat, e_C_boat_0, e_C_boat_5, e_C_boat_16, e_C_boat_21, e_C_boat_26, e_C_boat_31, e_C_boat_35, fK_1 hF, fK_2 hF, fK_3 hF, fK_4 hF, fK_5 hF, fK_6 hF, fN_6 hF, fK_7 hF, fN_7 hF, fK_8 hF, fN_8 hF, fK_9 hF, fN_9 hF, fK_10 hF, fK_11 hF, fN_11 hF, fK_12 hF, fK_13 hF, fN_13 hF, fK_14 hF, fN_14 hF, fK_15 hF, fN_15 hF, fK_16 hF, fN_16 hF, fP_12_0 hF, fP_12_1 hF, fP_12_2 hF, fP_12_3 hF, fP_12_4 hF, fP_12_5 hF, fP_12_6 hF, fP_12_7 hF, fP_4_0 hF, fP_4_1 hF, fP_4_2 hF, fP_4_3 hF, fP_11_0 hF, fP_7_0 hF, fP_7_1 hF, fP_7_2 hF, hF.cc, e1, kSi0, c_size _ l2.1, l2.2.1, z1, ef, z3]
      · simp [psh_some, psh_none, -Int32.not_lt, -Int32.not_le, rc_M_boat, q_M_boat_0, q_M_boat_5, q_M_boat_14, q_M_boat_19, q_M_boat_22, q_M_boat_27, q_M_boat_30, hL, hμ, hb6.1, z2, m_isStop, hs12.1, bZ_t j1, mfr τ hL, nI_0]
    have z3 : (1 : Int32) ≤ frA μ i := by rw [hfr]; exact nI_le (a := 1) (by omega) (by omega)
    have z4 : ¬ nI fr = 0 := nI_ne0 (by omega) (by omega)
    have hsh : Sm (tk []) σ (hulM σ x2 x3 x4 x5 x6 x7 x8) := SmsIn (SmsIn (SmsIn (SmsIn (SmsIn (SmsIn (SmsIn (Smnw (Sm.rfl' σ) _ _ _) _ (Nat.le_refl _) _ _) _ (Nat.le_refl _) _ _) _ (Nat.le_refl _) _ _) _ (Nat.le_refl _) _ _) _ (Nat.le_refl _) _ _) _ (Nat.le_refl _) _ _) _ (Nat.le_refl _) _ _
    have hXh : Kx (hulM σ x2 x3 x4 x5 x6 x7 x8) := KxsI (KxsI (KxsI (KxsI (KxsI (KxsI (KxsI (Kxnw hX _ _ _) _ _ _ _) _ _ _ _) _ _ _ _) _ _ _ _) _ _ _ _) _ _ _ _) _ _ _ _
    have et := c_told (σ := hulM σ x2 x3 x4 x5 x6 x7 x8) (d + 18) (h := mX σ) (by simp [hulM, mK_sI, mK_nw]) (x2 := x2) (x3 := x3) (x4 := x4) (x5 := x5) (x6 := x6) (x7 := x7) (x8 := x8) (by simp [hulM, mI_sI]) (by simp [hulM, mI_sI]) (by simp [hulM, mI_sI]) (by simp [hulM, mI_sI]) (by simp [hulM, mI_sI]) (by simp [hulM, mI_sI]) (by simp [hulM, mI_sI])
    have hm32 : ∀ (τ : Mm) μ0, fF μ0 0 0 = μ → LM τ a → runc (d + 20) 135 [.ref a, .int (nI i), .int x2, .int x3, .int x4, .int x5, .int x6, .int x7, .int x8] (put τ a μ0) = run (d + 20) 135 32 [.ref a, .int (nI i), .int x2, .int x3, .int x4, .int x5, .int x6, .int x7, .int x8] [] (put τ a μ) := fun τ μ0 hμ hL => by
      simp [psh_some, psh_none, -Int32.not_lt, -Int32.not_le, rc_M_boat, q_M_boat_0, q_M_boat_5, q_M_boat_14, q_M_boat_19, q_M_boat_22, q_M_boat_27, hL, hμ, hb6.1, z2, m_isStop, hs12.1, bZ_t j1, mfr τ hL, z4]
    by_cases ht : t7 x2 x3 x4 x5 x6 x7 x8 = true
    · rw [bZ_t ht] at et
      have hRh := hR.fr hX hsh (fun q _ => rfl)
      have hr1 : runc (d + 20) 64 [.ref c, .int (nI i), .int x2, .int x3, .int x4, .int x5, .int x6, .int x7, .int x8] σ = run (d + 20) 64 68 [.ref c, .int (nI i), .int x2, .int x3, .int x4, .int x5, .int x6, .int x7, .int x8, .ref (S i), .ref (mX σ)] [] (hulM σ x2 x3 x4 x5 x6 x7 x8) := by
        have ei := c_hulInit (σ := σ) (d + 19) x2 x3 x4 x5 x6 x7 x8
        have k5 : mK (hulM σ x2 x3 x4 x5 x6 x7 x8) (mX σ) = 5 := by simp [hulM, mK_sI, mK_nw]
        simp [psh_some, psh_none, -Int32.not_lt, -Int32.not_le, va_rf, vd, vr, isR_r, isR_n, isA_r, isI_i, isI_r, isR_i, ar, akI, akZ, akB, akO, mI_sI, mP_sI, mK_sI, mN_sI, mX_sI, mP_sP, mI_sP, mK_sP, mN_sP, mX_sP, rc_C_boat, e_C_boat_0, e_C_boat_5, e_C_boat_16, e_C_boat_21, e_C_boat_26, e_C_boat_31, e_C_boat_37, e_C_boat_40, e_C_boat_56, e_C_boat_63, fK_1 hF, fK_2 hF, fK_3 hF, fK_4 hF, fK_5 hF, fK_6 hF, fN_6 hF, fK_7 hF, fN_7 hF, fK_8 hF, fN_8 hF, fK_9 hF, fN_9 hF, fK_10 hF, fK_11 hF, fN_11 hF, fK_12 hF, fK_13 hF, fN_13 hF, fK_14 hF, fN_14 hF, fK_15 hF, fN_15 hF, fK_16 hF, fN_16 hF, fP_12_0 hF, fP_12_1 hF, fP_12_2 hF, fP_12_3 hF, fP_12_4 hF, fP_12_5 hF, fP_12_6 hF, fP_12_7 hF, fP_4_0 hF, fP_4_1 hF, fP_4_2 hF, fP_4_3 hF, fP_11_0 hF, fP_7_0 hF, fP_7_1 hF, fP_7_2 hF, hF.cc, e1, kSi0, c_size _ l2.1, l2.2.1, z1, ef, z3, mK_nw, ei, k5, et]
      have hul : ∀ f, mI (hulM σ x2 x3 x4 x5 x6 x7 x8) 5 (mX σ) f = if f = 6 then x8 else if f = 5 then x7 else if f = 4 then x6 else if f = 3 then x5 else if f = 2 then x4 else if f = 1 then x3 else if f = 0 then x2 else 0 := fun f => by simp [hulM, mI_sI, mI_nw]
      have xh : mX (hulM σ x2 x3 x4 x5 x6 x7 x8) = mX σ + 1 := rfl
      have sh : mS (hulM σ x2 x3 x4 x5 x6 x7 x8) = mS σ + 7 := rfl
      have kh : mK (hulM σ x2 x3 x4 x5 x6 x7 x8) (mX σ) = 5 := by simp [hulM, mK_sI, mK_nw]
      generalize hulM σ x2 x3 x4 x5 x6 x7 x8 = σh at hsh hXh et hRh hr1 hul xh sh kh
      have hsa0 : Sm (tk []) σh (boaM σh (mX σ + 1) (nB μ) (mX σ) (S i)) := SmsPn (SmsPn (SmsPn (SmsIn (SmsIn (SmsIn (Smnw (Sm.rfl' σh) _ _ _) _ (by omega) _ _) _ (by omega) _ _) _ (by omega) _ _) _ (by omega) _ _) _ (by omega) _ _) _ (by omega) _ _
      have hXa : Kx (boaM σh (mX σ + 1) (nB μ) (mX σ) (S i)) := KxsP (KxsP (KxsP (KxsI (KxsI (KxsI (Kxnw hXh _ _ _) _ _ _ _) _ _ _ _) _ _ _ _) _ _ _ _) _ _ _ _) _ _ _ _
      have hRa := hRh.fr hXh hsa0 (fun q _ => rfl)
      have cI := fun f => boa_I (σ := σh) (n := nB μ) (h := mX σ) (s := S i) f xh
      have cP1 : mP (boaM σh (mX σ + 1) (nB μ) (mX σ) (S i)) 3 (mX σ + 1) 1 = some (mX σ) := by simp [boaM, mP_sP]
      have cP3 : mP (boaM σh (mX σ + 1) (nB μ) (mX σ) (S i)) 3 (mX σ + 1) 3 = some (S i) := by simp [boaM, mP_sP]
      have c5 : ∀ f, mI (boaM σh (mX σ + 1) (nB μ) (mX σ) (S i)) 5 (mX σ) f = mI σh 5 (mX σ) f := fun f => by rw [hul_I, mI_nw, if_neg (by omega)]
      have xa : mX (boaM σh (mX σ + 1) (nB μ) (mX σ) (S i)) = mX σ + 2 := by show mX σh + 1 = _; omega
      have sa' : mS (boaM σh (mX σ + 1) (nB μ) (mX σ) (S i)) = mS σ + 24 := by show mS σh + 17 = _; omega
      have k3 : mK (boaM σh (mX σ + 1) (nB μ) (mX σ) (S i)) (mX σ + 1) = 3 := by simp [boaM, mK_sI, mK_sP, mK_nw, xh]
      have k5 : mK (boaM σh (mX σ + 1) (nB μ) (mX σ) (S i)) (mX σ) = 5 := by simp [boaM, mK_sI, mK_sP, mK_nw, xh, kh]
      have eb := c_boaInit (σ := σh) (d + 19) (n := nB μ) (h := mX σ) (s := S i) xh
      generalize boaM σh (mX σ + 1) (nB μ) (mX σ) (S i) = σa at hsa0 hXa hRa cI cP1 cP3 c5 xa sa' k3 k5 eb
      obtain ⟨σ1, e', r1, hA⟩ := c_add (d + 18) hRa.2.2.1.2.2.1 hRa.2.1 hXa (show nB μ ≤ 29 by omega) (b := mX σ + 1) (by rw [k3]; decide) (by rw [k3]; decide) (hRa.2.2.1.2.2.2.2.2 2 (by decide)) (fun q hq => by rw [show mK _ _ = _ from (hRa.2.2.2.2.2.1 q hq).1.1]; decide)
      have hs1 := hA.2.1
      have hx8 := hA.2.2.2.2.2.2.2
      have hF1 : FL σ1 c := hRa.1.fr hXa hs1 (by rintro q (rfl | rfl | rfl | rfl | rfl) <;> rfl)
      have kSi : mK σ1 (S i) = 10 := (hs1.K (hXa.lt (hRa.2.2.2.1 i hi).1 (by decide))).trans (hRa.2.2.2.1 i hi).1
      have hs : Sm (tk [1, 10, 1003]) σa (sI σ1 10 (S i) 5 (mI σ1 10 (S i) 5 + 1)) := SmsI (hs1.mono (fun q hq => by
        simp only [tk, decide_eq_false_iff_not, List.mem_cons, List.not_mem_nil, or_false] at hq ⊢
        omega)) rfl _ _ _
      refine ⟨some (.int (nI (nB μ))), sI σ1 10 (S i) 5 (mI σ1 10 (S i) 5 + 1), boaS μ i x2 x3 x4 x5 x6 x7 x8, ?_, fun μ0 hμ hL => ?_, ⟨adj E 2 e', S, L, adj B (nB μ) (mX σ + 1), G, adj H (nB μ) (mX σ), Q, Z, w, boat_RC hW (by omega) hi (boaS_Bn i x2 x3 x4 x5 x6 x7 x8) hRa hXa hA (by omega) (by omega) k3 k5 cI cP1 cP3 (by rw [c5, hul]; rfl) (by rw [c5, hul]; rfl) (by rw [c5, hul]; rfl) (by rw [c5, hul]; rfl) (by rw [c5, hul]; rfl) (by rw [c5, hul]; rfl) (by rw [c5, hul]; rfl)⟩, ⟨tk [1, 10, 1003], ((hsh.trans hsa0).mono (fun _ _ => rfl)).trans hs, tk_rf (by decide)⟩, KxsI hA.2.2.2.2.2.2.1 _ _ _ _, boat_Wf hW (by omega) hi (boaS_Bn i x2 x3 x4 x5 x6 x7 x8) fr4 hf0 hfr' ht, by rw [mX_sI]; omega, by rw [mS_sI]; omega⟩
      · rw [hr1]
        have g2 := hA.1.2.1
        have hFh := hRh.1
        have l2h := hRh.2.2.1.2.2.1
        simp [psh_some, psh_none, -Int32.not_lt, -Int32.not_le, va_rf, vd, vr, isR_r, isR_n, isA_r, isI_i, isI_r, isR_i, ar, akI, akZ, akB, akO, mI_sI, mP_sI, mK_sI, mN_sI, mX_sI, mP_sP, mI_sP, mK_sP, mN_sP, mX_sP, e_C_boat_68, e_C_boat_75, e_C_boat_85, e_C_boat_92, e_C_boat_97, e_C_boat_109, e_C_boat_118, xh, fK_3 hFh, fP_12_2 hFh, hFh.cc, l2h.2.1, rc_AL_size, e_AL_size_0, mK_nw, mP_nw, mI_nw, nc2, nc12, eb, k3, hRa.1.cc, fK_3 hRa.1, fP_12_2 hRa.1, r1, kSi, fK_3 hF1, fP_12_2 hF1, hF1.cc, g2, nI_pred]
      · have i1 : ix (nI (nB μ)) 6 = true := ix_of (by omega) (by omega)
        have e1 : nI (nB μ) + 1 - 1 = nI (nB μ) := by grind
        rw [hm32 _ μ0 hμ hL, m_told_t (d + 19) hL ht]
        simp [psh_some, psh_none, -Int32.not_lt, -Int32.not_le, q_M_boat_120, q_M_boat_130, q_M_boat_140, q_M_boat_151, q_M_boat_162, q_M_boat_173, q_M_boat_184, q_M_boat_195, q_M_boat_205, q_M_boat_215, q_M_boat_225, q_M_boat_235, q_M_boat_245, q_M_boat_255, q_M_boat_265, q_M_boat_275, hL, hb6.1, i1, cl6 (show nB μ < 6 by omega), fA_1, fF_1, e1, boaS]
    · rw [bZ_f ht] at et
      refine Res.mk [] (σ1 := hulM σ x2 x3 x4 x5 x6 x7 x8) (μ' := μ) (v := some (.int (-1))) (E := E) (S := S) (L := L) (B := B) (G := G) (H := H) (Q := Q) (Z := Z) (w := w) ?_ (fun τ μ0 hμ hL => ?_) (hR.fr hX hsh (fun q _ => rfl)) hsh (by decide) hXh hW (by show mX σ + 1 ≤ _; omega) (by show mS σ + 7 ≤ _; omega)
      · have ei := c_hulInit (σ := σ) (d + 19) x2 x3 x4 x5 x6 x7 x8
        have k5 : mK (hulM σ x2 x3 x4 x5 x6 x7 x8) (mX σ) = 5 := by simp [hulM, mK_sI, mK_nw]
        simp [psh_some, psh_none, -Int32.not_lt, -Int32.not_le, va_rf, vd, vr, isR_r, isR_n, isA_r, isI_i, isI_r, isR_i, ar, akI, akZ, akB, akO, mI_sI, mP_sI, mK_sI, mN_sI, mX_sI, mP_sP, mI_sP, mK_sP, mN_sP, mX_sP, rc_C_boat, e_C_boat_0, e_C_boat_5, e_C_boat_16, e_C_boat_21, e_C_boat_26, e_C_boat_31, e_C_boat_37, e_C_boat_40, e_C_boat_56, e_C_boat_63, e_C_boat_66, fK_1 hF, fK_2 hF, fK_3 hF, fK_4 hF, fK_5 hF, fK_6 hF, fN_6 hF, fK_7 hF, fN_7 hF, fK_8 hF, fN_8 hF, fK_9 hF, fN_9 hF, fK_10 hF, fK_11 hF, fN_11 hF, fK_12 hF, fK_13 hF, fN_13 hF, fK_14 hF, fN_14 hF, fK_15 hF, fN_15 hF, fK_16 hF, fN_16 hF, fP_12_0 hF, fP_12_1 hF, fP_12_2 hF, fP_12_3 hF, fP_12_4 hF, fP_12_5 hF, fP_12_6 hF, fP_12_7 hF, fP_4_0 hF, fP_4_1 hF, fP_4_2 hF, fP_4_3 hF, fP_11_0 hF, fP_7_0 hF, fP_7_1 hF, fP_7_2 hF, hF.cc, e1, kSi0, c_size _ l2.1, l2.2.1, z1, ef, z3, mK_nw, ei, k5, et]
      · rw [hm32 τ μ0 hμ hL, m_told_f (d + 19) hL ht]
  · have e1 := c_stopAt_no (d + 16) hF hRX hC hno1
    refine Res.same hR hX hW (v := some (.int (-1))) ?_ (fun τ μ0 hμ hL => ?_)
    · by_cases z1 : (6 : Int32) ≤ nI (nB μ) <;> simp [psh_some, psh_none, -Int32.not_lt, -Int32.not_le, va_rf, vd, vr, isR_r, isR_n, isA_r, isI_i, isI_r, isR_i, ar, akI, akZ, akB, akO, mI_sI, mP_sI, mK_sI, mN_sI, mX_sI, mP_sP, mI_sP, mK_sP, mN_sP, mX_sP, rc_C_boat, e_C_boat_0, e_C_boat_5, e_C_boat_16, e_C_boat_21, e_C_boat_35, fK_1 hF, fK_2 hF, fK_3 hF, fK_4 hF, fK_5 hF, fK_6 hF, fN_6 hF, fK_7 hF, fN_7 hF, fK_8 hF, fN_8 hF, fK_9 hF, fN_9 hF, fK_10 hF, fK_11 hF, fN_11 hF, fK_12 hF, fK_13 hF, fN_13 hF, fK_14 hF, fN_14 hF, fK_15 hF, fN_15 hF, fK_16 hF, fN_16 hF, fP_12_0 hF, fP_12_1 hF, fP_12_2 hF, fP_12_3 hF, fP_12_4 hF, fP_12_5 hF, fP_12_6 hF, fP_12_7 hF, fP_4_0 hF, fP_4_1 hF, fP_4_2 hF, fP_4_3 hF, fP_11_0 hF, fP_7_0 hF, fP_7_1 hF, fP_7_2 hF, hF.cc, e1, c_size _ l2.1, l2.2.1, z1]
    · by_cases z2 : nI (nB μ) = 6 <;> simp [psh_some, psh_none, -Int32.not_lt, -Int32.not_le, rc_M_boat, q_M_boat_0, q_M_boat_5, q_M_boat_14, q_M_boat_19, q_M_boat_30, hL, hμ, hb6.1, z2, m_isStop, hs12.1, bZ_f (no_ix hno1)]
end O61
