/-! ===== OPERATIONS THAT MAY THROW: of, mail ===== -/
section O54
/-- both answer alike, or one throws and the other says so -/
def OkT (kc km : Nat) (as : List Value) : Prop := ∀ (d : Nat) (σ : Mm) (c a : Nat) (μ : Ms), Inv σ c a μ → ∃ x z : Int32, (z = 0 ∨ z = 1) ∧ runc (d + 20) kc (.ref c :: as) σ = some (some (if z = 0 then .int x else .retAddr 7), σ) ∧ ∀ τ : Mm, LM τ a → runc (d + 20) km (.ref a :: as) (put τ a μ) = some (some (.int (if z = 0 then x else 0)), put τ a (fF μ 0 z))
def ReT (d kc km : Nat) (as : List Value) (σ : Mm) (c a : Nat) (μ : Ms) : Prop := ∃ x z : Int32, (z = 0 ∨ z = 1) ∧ runc (d + 20) kc (.ref c :: as) σ = some (some (if z = 0 then .int x else .retAddr 7), σ) ∧ ∀ τ : Mm, LM τ a → runc (d + 20) km (.ref a :: as) (put τ a μ) = some (some (.int (if z = 0 then x else 0)), put τ a (fF μ 0 z))
theorem OkT_of {kc km : Nat} {as : List Value} (h : ∀ (d : Nat) (σ : Mm) (c a : Nat) (E S L B G H Q : Nat → Nat) (Z : Nat → List Nat) (w : Bool) (μ : Ms), RC σ c E S L B G H Q Z w μ → Kx σ → Wf μ → ReT d kc km as σ c a μ) : OkT kc km as := by
  intro d σ c a μ ⟨⟨E, S, L, B, G, H, Q, Z, w, hR⟩, hf, hX, hW⟩
  obtain ⟨x, z, h0, h1, h2⟩ := h d σ c a E S L B G H Q Z w μ hR hX hW
  exact ⟨x, z, h0, h1, h2⟩
/-- the mark of a throw is set: all holds -/
theorem Inv.z {σ : Mm} {c a : Nat} {μ : Ms} (h : Inv σ c a μ) (z : Int32) : Inv (put σ a (fF μ 0 z)) c a (fF μ 0 z) := by
  obtain ⟨⟨E, S, L, B, G, H, Q, Z, w, hR⟩, hf, hX, hW⟩ := h
  exact fin (hR.z z) hf hX (hW.z z)
theorem ReT.ok {d kc km : Nat} {as : List Value} {σ : Mm} {c a : Nat} {μ : Ms} (x : Int32) (h1 : runc (d + 20) kc (.ref c :: as) σ = some (some (.int x), σ)) (h2 : ∀ τ : Mm, LM τ a → runc (d + 20) km (.ref a :: as) (put τ a μ) = some (some (.int x), put τ a (fF μ 0 0))) : ReT d kc km as σ c a μ :=
  ⟨x, 0, Or.inl rfl, by rw [if_pos rfl]; exact h1, fun τ hL => by rw [if_pos rfl]; exact h2 τ hL⟩
theorem ReT.no {d kc km : Nat} {as : List Value} {σ : Mm} {c a : Nat} {μ : Ms} (h1 : runc (d + 20) kc (.ref c :: as) σ = some (some (.retAddr 7), σ)) (h2 : ∀ τ : Mm, LM τ a → runc (d + 20) km (.ref a :: as) (put τ a μ) = some (some (.int 0), put τ a (fF μ 0 1))) : ReT d kc km as σ c a μ :=
  ⟨0, 1, Or.inr rfl, by rw [if_neg (by decide)]; exact h1, fun τ hL => by rw [if_neg (by decide)]; exact h2 τ hL⟩
theorem in_09 {x : Int32} (h : ¬ x < 0 ∧ ¬ 9 < x) : x = 0 ∨ x = 1 ∨ x = 2 ∨ x = 3 ∨ x = 4 ∨ x = 5 ∨ x = 6 ∨ x = 7 ∨ x = 8 ∨ x = 9 := by
  obtain ⟨j, hj, rfl⟩ := nI_of h.1
  have h2 := h.2
  rw [show (9 : Int32) = nI 9 from rfl, nI_ltI (by omega) hj] at h2
  have : j = 0 ∨ j = 1 ∨ j = 2 ∨ j = 3 ∨ j = 4 ∨ j = 5 ∨ j = 6 ∨ j = 7 ∨ j = 8 ∨ j = 9 := by omega
  rcases this with rfl | rfl | rfl | rfl | rfl | rfl | rfl | rfl | rfl | rfl <;> simp [show nI 0 = (0 : Int32) from rfl, show nI 1 = (1 : Int32) from rfl, show nI 2 = (2 : Int32) from rfl, show nI 3 = (3 : Int32) from rfl, show nI 4 = (4 : Int32) from rfl, show nI 5 = (5 : Int32) from rfl, show nI 6 = (6 : Int32) from rfl, show nI 7 = (7 : Int32) from rfl, show nI 8 = (8 : Int32) from rfl, show nI 9 = (9 : Int32) from rfl]
theorem in_03 {x : Int32} (h : ¬ x < 0 ∧ ¬ 3 < x) : x = 0 ∨ x = 1 ∨ x = 2 ∨ x = 3 := by
  obtain ⟨j, hj, rfl⟩ := nI_of h.1
  have h2 := h.2
  rw [show (3 : Int32) = nI 3 from rfl, nI_ltI (by omega) hj] at h2
  have : j = 0 ∨ j = 1 ∨ j = 2 ∨ j = 3 := by omega
  rcases this with rfl | rfl | rfl | rfl <;> simp [show nI 0 = (0 : Int32) from rfl, show nI 1 = (1 : Int32) from rfl, show nI 2 = (2 : Int32) from rfl, show nI 3 = (3 : Int32) from rfl]
variable {σ : Mm} {a : Nat} {μ : Ms} (d : Nat)
/-- of: a question that is one -/
theorem of_M (hL : LM σ a) (hC : Cn μ) {k : Nat} (hk : k < nB μ) {y : Int32} (hy : ¬ y < 0 ∧ ¬ 9 < y) : runc (d + 2) 177 [.ref a, .int (nI k), .int y] (put σ a μ) = run (d + 2) 177 36 [.ref a, .int (nI k), .int y] [] (put σ a (fF μ 0 0)) := by
  have hb := hC.b
  have j1 := is_ix hk (show nB μ ≤ 1000 by omega)
  simp [psh_some, psh_none, -Int32.not_lt, -Int32.not_le, rc_M_of, q_M_of_0, q_M_of_6, q_M_of_9, q_M_of_16, q_M_of_19, q_M_of_24, q_M_of_27, hL, m_isBoat, hb.1, bZ_t j1, m_in, bZ_t hy, fF_1]
theorem of_Mno (hL : LM σ a) (hC : Cn μ) {k : Nat} (hk : k < nB μ) {y : Int32} (hy : ¬ (¬ y < 0 ∧ ¬ 9 < y)) : runc (d + 2) 177 [.ref a, .int (nI k), .int y] (put σ a μ) = some (some (.int 0), put σ a (fF μ 0 1)) := by
  have hb := hC.b
  have j1 := is_ix hk (show nB μ ≤ 1000 by omega)
  have n1 : ¬ (1 : Int32) ≤ 0 := by decide
  simp [psh_some, psh_none, -Int32.not_lt, -Int32.not_le, rc_M_of, q_M_of_0, q_M_of_6, q_M_of_9, q_M_of_16, q_M_of_23, q_M_of_24, q_M_of_27, q_M_of_34, hL, m_isBoat, hb.1, bZ_t j1, m_in, bZ_f hy, fF_1, n1]
theorem of_Mnb (hL : LM σ a) (hC : Cn μ) {x y : Int32} (hno : x < 0 ∨ nI (nB μ) ≤ x) : runc (d + 2) 177 [.ref a, .int x, .int y] (put σ a μ) = some (some (.int 0), put σ a (fF μ 0 1)) := by
  have hb := hC.b
  have n1 : ¬ (1 : Int32) ≤ 0 := by decide
  simp [psh_some, psh_none, -Int32.not_lt, -Int32.not_le, rc_M_of, q_M_of_0, q_M_of_6, q_M_of_23, q_M_of_24, q_M_of_27, q_M_of_34, hL, m_isBoat, hb.1, bZ_f (no_ix hno), fF_1, n1]
theorem ok_of (x y : Int32) : OkT 85 177 [.int x, .int y] := by
  refine OkT_of fun d σ c a E S L B G H Q Z w μ hR hX hW => ?_
  have hC := hW.1
  obtain ⟨hF, hz, hRX, hRS, hRL, hRB, hRP, hRG, hRF, hRT, hRK, hRR, hRN⟩ := id hR
  have hb := hC.b
  have hs12 := hC.s.2
  rcases nIx x (n := nB μ) (by omega) with ⟨k, hk, rfl⟩ | hno
  · have i4 : ix (nI k) 6 = true := ix_of (by omega) (by omega); have ck := cl6 (show k < 6 by omega); have j1 := is_ix hk (show nB μ ≤ 1000 by omega); obtain ⟨a0, a1, a2, a3, a4, a5, a6, a7, a8, a9, a10, a11, a12, a13, a14, a15⟩ := (hRB k hk).1; have hh := (hRB k hk).2; obtain ⟨u0, u1, u2, u3, u4, u5, u6, u7⟩ := (hRB k hk).2; obtain ⟨b0, b1, b2, b3, b4, b5, b6, b7, b8, b9, b10, b11, b12⟩ := hW.2.2.2.1.1 k hk; have hS := hRS _ b0.2; have i5 : ix (nI (aT μ k)) 12 = true := ix_of (by omega) (by omega); have ca := cl12 (show aT μ k < 12 by omega)
    have e1 := c_boatAt (d + 16) hF hRX hC hk a0
    by_cases hy : ¬ y < 0 ∧ ¬ 9 < y
    · rcases in_09 hy with rfl | rfl | rfl | rfl | rfl | rfl | rfl | rfl | rfl | rfl
      · refine ReT.ok (μ.2 24 k) ?_ (fun τ hL => ?_)
        · simp [psh_some, psh_none, -Int32.not_lt, -Int32.not_le, va_rf, vd, vr, isR_r, isR_n, isA_r, isI_i, isI_r, isR_i, ar, akI, akZ, akB, akO, mI_sI, mP_sI, mK_sI, mN_sI, mX_sI, mP_sP, mI_sP, mK_sP, mN_sP, mX_sP, rc_C_of, e_C_of_0, e_C_of_5, e_C_of_21, e_C_of_76, fK_1 hF, fK_2 hF, fK_3 hF, fK_4 hF, fK_5 hF, fK_6 hF, fN_6 hF, fK_7 hF, fN_7 hF, fK_8 hF, fN_8 hF, fK_9 hF, fN_9 hF, fK_10 hF, fK_11 hF, fN_11 hF, fK_12 hF, fK_13 hF, fN_13 hF, fK_14 hF, fN_14 hF, fK_15 hF, fN_15 hF, fK_16 hF, fN_16 hF, fP_12_0 hF, fP_12_1 hF, fP_12_2 hF, fP_12_3 hF, fP_12_4 hF, fP_12_5 hF, fP_12_6 hF, fP_12_7 hF, fP_4_0 hF, fP_4_1 hF, fP_4_2 hF, fP_4_3 hF, fP_11_0 hF, fP_7_0 hF, fP_7_1 hF, fP_7_2 hF, hF.cc, e1, a0, a3]
        · rw [of_M (d + 18) hL hC hk hy]; simp [psh_some, psh_none, -Int32.not_lt, -Int32.not_le, q_M_of_36, q_M_of_88, hL, i4, ck, fF_2]
      · refine ReT.ok (μ.2 25 k) ?_ (fun τ hL => ?_)
        · simp [psh_some, psh_none, -Int32.not_lt, -Int32.not_le, va_rf, vd, vr, isR_r, isR_n, isA_r, isI_i, isI_r, isR_i, ar, akI, akZ, akB, akO, mI_sI, mP_sI, mK_sI, mN_sI, mX_sI, mP_sP, mI_sP, mK_sP, mN_sP, mX_sP, rc_C_of, e_C_of_0, e_C_of_5, e_C_of_21, e_C_of_81, fK_1 hF, fK_2 hF, fK_3 hF, fK_4 hF, fK_5 hF, fK_6 hF, fN_6 hF, fK_7 hF, fN_7 hF, fK_8 hF, fN_8 hF, fK_9 hF, fN_9 hF, fK_10 hF, fK_11 hF, fN_11 hF, fK_12 hF, fK_13 hF, fN_13 hF, fK_14 hF, fN_14 hF, fK_15 hF, fN_15 hF, fK_16 hF, fN_16 hF, fP_12_0 hF, fP_12_1 hF, fP_12_2 hF, fP_12_3 hF, fP_12_4 hF, fP_12_5 hF, fP_12_6 hF, fP_12_7 hF, fP_4_0 hF, fP_4_1 hF, fP_4_2 hF, fP_4_3 hF, fP_11_0 hF, fP_7_0 hF, fP_7_1 hF, fP_7_2 hF, hF.cc, e1, a0, a4, hS, b0.1]
        · rw [of_M (d + 18) hL hC hk hy]; simp [psh_some, psh_none, -Int32.not_lt, -Int32.not_le, q_M_of_36, q_M_of_95, hL, i4, ck, fF_2]
      · refine ReT.ok (μ.2 27 k) ?_ (fun τ hL => ?_)
        · simp [psh_some, psh_none, -Int32.not_lt, -Int32.not_le, va_rf, vd, vr, isR_r, isR_n, isA_r, isI_i, isI_r, isR_i, ar, akI, akZ, akB, akO, mI_sI, mP_sI, mK_sI, mN_sI, mX_sI, mP_sP, mI_sP, mK_sP, mN_sP, mX_sP, rc_C_of, e_C_of_0, e_C_of_5, e_C_of_21, e_C_of_89, fK_1 hF, fK_2 hF, fK_3 hF, fK_4 hF, fK_5 hF, fK_6 hF, fN_6 hF, fK_7 hF, fN_7 hF, fK_8 hF, fN_8 hF, fK_9 hF, fN_9 hF, fK_10 hF, fK_11 hF, fN_11 hF, fK_12 hF, fK_13 hF, fN_13 hF, fK_14 hF, fN_14 hF, fK_15 hF, fN_15 hF, fK_16 hF, fN_16 hF, fP_12_0 hF, fP_12_1 hF, fP_12_2 hF, fP_12_3 hF, fP_12_4 hF, fP_12_5 hF, fP_12_6 hF, fP_12_7 hF, fP_4_0 hF, fP_4_1 hF, fP_4_2 hF, fP_4_3 hF, fP_11_0 hF, fP_7_0 hF, fP_7_1 hF, fP_7_2 hF, hF.cc, e1, a0, a6]
        · rw [of_M (d + 18) hL hC hk hy]; simp [psh_some, psh_none, -Int32.not_lt, -Int32.not_le, q_M_of_36, q_M_of_102, hL, i4, ck, fF_2]
      · refine ReT.ok (wgt μ k) ?_ (fun τ hL => ?_)
        · simp [psh_some, psh_none, -Int32.not_lt, -Int32.not_le, va_rf, vd, vr, isR_r, isR_n, isA_r, isI_i, isI_r, isR_i, ar, akI, akZ, akB, akO, mI_sI, mP_sI, mK_sI, mN_sI, mX_sI, mP_sP, mI_sP, mK_sP, mN_sP, mX_sP, rc_C_of, e_C_of_0, e_C_of_5, e_C_of_21, e_C_of_94, e_C_of_98, fK_1 hF, fK_2 hF, fK_3 hF, fK_4 hF, fK_5 hF, fK_6 hF, fN_6 hF, fK_7 hF, fN_7 hF, fK_8 hF, fN_8 hF, fK_9 hF, fN_9 hF, fK_10 hF, fK_11 hF, fN_11 hF, fK_12 hF, fK_13 hF, fN_13 hF, fK_14 hF, fN_14 hF, fK_15 hF, fN_15 hF, fK_16 hF, fN_16 hF, fP_12_0 hF, fP_12_1 hF, fP_12_2 hF, fP_12_3 hF, fP_12_4 hF, fP_12_5 hF, fP_12_6 hF, fP_12_7 hF, fP_4_0 hF, fP_4_1 hF, fP_4_2 hF, fP_4_3 hF, fP_11_0 hF, fP_7_0 hF, fP_7_1 hF, fP_7_2 hF, hF.cc, e1, a0, c_weight (d + 19) hRB hRP hk]
        · rw [of_M (d + 18) hL hC hk hy]
          have e2 := m_weight (μ := fF μ 0 0) (d + 18) hL hC (show k < 6 by omega)
          simp [psh_some, psh_none, -Int32.not_lt, -Int32.not_le, q_M_of_36, q_M_of_109, q_M_of_114, hL, i4, ck, e2]
          rfl
      · refine ReT.ok (μ.2 28 k) ?_ (fun τ hL => ?_)
        · simp [psh_some, psh_none, -Int32.not_lt, -Int32.not_le, va_rf, vd, vr, isR_r, isR_n, isA_r, isI_i, isI_r, isR_i, ar, akI, akZ, akB, akO, mI_sI, mP_sI, mK_sI, mN_sI, mX_sI, mP_sP, mI_sP, mK_sP, mN_sP, mX_sP, rc_C_of, e_C_of_0, e_C_of_5, e_C_of_21, e_C_of_99, fK_1 hF, fK_2 hF, fK_3 hF, fK_4 hF, fK_5 hF, fK_6 hF, fN_6 hF, fK_7 hF, fN_7 hF, fK_8 hF, fN_8 hF, fK_9 hF, fN_9 hF, fK_10 hF, fK_11 hF, fN_11 hF, fK_12 hF, fK_13 hF, fN_13 hF, fK_14 hF, fN_14 hF, fK_15 hF, fN_15 hF, fK_16 hF, fN_16 hF, fP_12_0 hF, fP_12_1 hF, fP_12_2 hF, fP_12_3 hF, fP_12_4 hF, fP_12_5 hF, fP_12_6 hF, fP_12_7 hF, fP_4_0 hF, fP_4_1 hF, fP_4_2 hF, fP_4_3 hF, fP_11_0 hF, fP_7_0 hF, fP_7_1 hF, fP_7_2 hF, hF.cc, e1, a0, a7]
        · rw [of_M (d + 18) hL hC hk hy]; simp [psh_some, psh_none, -Int32.not_lt, -Int32.not_le, q_M_of_36, q_M_of_115, hL, i4, ck, fF_2]
      · refine ReT.ok (μ.2 29 k) ?_ (fun τ hL => ?_)
        · simp [psh_some, psh_none, -Int32.not_lt, -Int32.not_le, va_rf, vd, vr, isR_r, isR_n, isA_r, isI_i, isI_r, isR_i, ar, akI, akZ, akB, akO, mI_sI, mP_sI, mK_sI, mN_sI, mX_sI, mP_sP, mI_sP, mK_sP, mN_sP, mX_sP, rc_C_of, e_C_of_0, e_C_of_5, e_C_of_21, e_C_of_104, fK_1 hF, fK_2 hF, fK_3 hF, fK_4 hF, fK_5 hF, fK_6 hF, fN_6 hF, fK_7 hF, fN_7 hF, fK_8 hF, fN_8 hF, fK_9 hF, fN_9 hF, fK_10 hF, fK_11 hF, fN_11 hF, fK_12 hF, fK_13 hF, fN_13 hF, fK_14 hF, fN_14 hF, fK_15 hF, fN_15 hF, fK_16 hF, fN_16 hF, fP_12_0 hF, fP_12_1 hF, fP_12_2 hF, fP_12_3 hF, fP_12_4 hF, fP_12_5 hF, fP_12_6 hF, fP_12_7 hF, fP_4_0 hF, fP_4_1 hF, fP_4_2 hF, fP_4_3 hF, fP_11_0 hF, fP_7_0 hF, fP_7_1 hF, fP_7_2 hF, hF.cc, e1, a0, a8]
        · rw [of_M (d + 18) hL hC hk hy]; simp [psh_some, psh_none, -Int32.not_lt, -Int32.not_le, q_M_of_36, q_M_of_122, hL, i4, ck, fF_2]
      · by_cases z : μ.2 24 k = 1
        · refine ReT.ok (μ.2 33 k) ?_ (fun τ hL => ?_)
          · simp [psh_some, psh_none, -Int32.not_lt, -Int32.not_le, va_rf, vd, vr, isR_r, isR_n, isA_r, isI_i, isI_r, isR_i, ar, akI, akZ, akB, akO, mI_sI, mP_sI, mK_sI, mN_sI, mX_sI, mP_sP, mI_sP, mK_sP, mN_sP, mX_sP, rc_C_of, e_C_of_0, e_C_of_5, e_C_of_21, e_C_of_109, e_C_of_117, e_C_of_125, fK_1 hF, fK_2 hF, fK_3 hF, fK_4 hF, fK_5 hF, fK_6 hF, fN_6 hF, fK_7 hF, fN_7 hF, fK_8 hF, fN_8 hF, fK_9 hF, fN_9 hF, fK_10 hF, fK_11 hF, fN_11 hF, fK_12 hF, fK_13 hF, fN_13 hF, fK_14 hF, fN_14 hF, fK_15 hF, fN_15 hF, fK_16 hF, fN_16 hF, fP_12_0 hF, fP_12_1 hF, fP_12_2 hF, fP_12_3 hF, fP_12_4 hF, fP_12_5 hF, fP_12_6 hF, fP_12_7 hF, fP_4_0 hF, fP_4_1 hF, fP_4_2 hF, fP_4_3 hF, fP_11_0 hF, fP_7_0 hF, fP_7_1 hF, fP_7_2 hF, hF.cc, e1, a0, a3, z, a10]
          · rw [of_M (d + 18) hL hC hk hy]; simp [psh_some, psh_none, -Int32.not_lt, -Int32.not_le, q_M_of_36, q_M_of_129, q_M_of_139, q_M_of_149, hL, i4, ck, fF_2, z]
        · refine ReT.ok 0 ?_ (fun τ hL => ?_)
          · simp [psh_some, psh_none, -Int32.not_lt, -Int32.not_le, va_rf, vd, vr, isR_r, isR_n, isA_r, isI_i, isI_r, isR_i, ar, akI, akZ, akB, akO, mI_sI, mP_sI, mK_sI, mN_sI, mX_sI, mP_sP, mI_sP, mK_sP, mN_sP, mX_sP, rc_C_of, e_C_of_0, e_C_of_5, e_C_of_21, e_C_of_109, e_C_of_124, e_C_of_125, fK_1 hF, fK_2 hF, fK_3 hF, fK_4 hF, fK_5 hF, fK_6 hF, fN_6 hF, fK_7 hF, fN_7 hF, fK_8 hF, fN_8 hF, fK_9 hF, fN_9 hF, fK_10 hF, fK_11 hF, fN_11 hF, fK_12 hF, fK_13 hF, fN_13 hF, fK_14 hF, fN_14 hF, fK_15 hF, fN_15 hF, fK_16 hF, fN_16 hF, fP_12_0 hF, fP_12_1 hF, fP_12_2 hF, fP_12_3 hF, fP_12_4 hF, fP_12_5 hF, fP_12_6 hF, fP_12_7 hF, fP_4_0 hF, fP_4_1 hF, fP_4_2 hF, fP_4_3 hF, fP_11_0 hF, fP_7_0 hF, fP_7_1 hF, fP_7_2 hF, hF.cc, e1, a0, a3, z]
          · rw [of_M (d + 18) hL hC hk hy]; simp [psh_some, psh_none, -Int32.not_lt, -Int32.not_le, q_M_of_36, q_M_of_129, q_M_of_148, q_M_of_149, hL, i4, ck, fF_2, z]
      · by_cases z : μ.2 24 k = 1
        · refine ReT.ok (μ.2 34 k) ?_ (fun τ hL => ?_)
          · simp [psh_some, psh_none, -Int32.not_lt, -Int32.not_le, va_rf, vd, vr, isR_r, isR_n, isA_r, isI_i, isI_r, isR_i, ar, akI, akZ, akB, akO, mI_sI, mP_sI, mK_sI, mN_sI, mX_sI, mP_sP, mI_sP, mK_sP, mN_sP, mX_sP, rc_C_of, e_C_of_0, e_C_of_5, e_C_of_21, e_C_of_126, e_C_of_134, e_C_of_142, fK_1 hF, fK_2 hF, fK_3 hF, fK_4 hF, fK_5 hF, fK_6 hF, fN_6 hF, fK_7 hF, fN_7 hF, fK_8 hF, fN_8 hF, fK_9 hF, fN_9 hF, fK_10 hF, fK_11 hF, fN_11 hF, fK_12 hF, fK_13 hF, fN_13 hF, fK_14 hF, fN_14 hF, fK_15 hF, fN_15 hF, fK_16 hF, fN_16 hF, fP_12_0 hF, fP_12_1 hF, fP_12_2 hF, fP_12_3 hF, fP_12_4 hF, fP_12_5 hF, fP_12_6 hF, fP_12_7 hF, fP_4_0 hF, fP_4_1 hF, fP_4_2 hF, fP_4_3 hF, fP_11_0 hF, fP_7_0 hF, fP_7_1 hF, fP_7_2 hF, hF.cc, e1, a0, a3, z, a11]
          · rw [of_M (d + 18) hL hC hk hy]; simp [psh_some, psh_none, -Int32.not_lt, -Int32.not_le, q_M_of_36, q_M_of_150, q_M_of_160, q_M_of_170, hL, i4, ck, fF_2, z]
        · refine ReT.ok (-1) ?_ (fun τ hL => ?_)
          · simp [psh_some, psh_none, -Int32.not_lt, -Int32.not_le, va_rf, vd, vr, isR_r, isR_n, isA_r, isI_i, isI_r, isR_i, ar, akI, akZ, akB, akO, mI_sI, mP_sI, mK_sI, mN_sI, mX_sI, mP_sP, mI_sP, mK_sP, mN_sP, mX_sP, rc_C_of, e_C_of_0, e_C_of_5, e_C_of_21, e_C_of_126, e_C_of_141, e_C_of_142, fK_1 hF, fK_2 hF, fK_3 hF, fK_4 hF, fK_5 hF, fK_6 hF, fN_6 hF, fK_7 hF, fN_7 hF, fK_8 hF, fN_8 hF, fK_9 hF, fN_9 hF, fK_10 hF, fK_11 hF, fN_11 hF, fK_12 hF, fK_13 hF, fN_13 hF, fK_14 hF, fN_14 hF, fK_15 hF, fN_15 hF, fK_16 hF, fN_16 hF, fP_12_0 hF, fP_12_1 hF, fP_12_2 hF, fP_12_3 hF, fP_12_4 hF, fP_12_5 hF, fP_12_6 hF, fP_12_7 hF, fP_4_0 hF, fP_4_1 hF, fP_4_2 hF, fP_4_3 hF, fP_11_0 hF, fP_7_0 hF, fP_7_1 hF, fP_7_2 hF, hF.cc, e1, a0, a3, z]
          · rw [of_M (d + 18) hL hC hk hy]; simp [psh_some, psh_none, -Int32.not_lt, -Int32.not_le, q_M_of_36, q_M_of_150, q_M_of_169, q_M_of_170, hL, i4, ck, fF_2, z]
      · have er := c_isResting (d + 19) (hRB k hk).1 hC
        by_cases z : μ.2 30 k ≤ 0
        · refine ReT.ok 0 ?_ (fun τ hL => ?_)
          · rw [bZ_f (fun y => absurd z (by simpa using y))] at er
            simp [psh_some, psh_none, -Int32.not_lt, -Int32.not_le, va_rf, vd, vr, isR_r, isR_n, isA_r, isI_i, isI_r, isR_i, ar, akI, akZ, akB, akO, mI_sI, mP_sI, mK_sI, mN_sI, mX_sI, mP_sP, mI_sP, mK_sP, mN_sP, mX_sP, rc_C_of, e_C_of_0, e_C_of_5, e_C_of_21, e_C_of_143, e_C_of_151, e_C_of_158, e_C_of_159, fK_1 hF, fK_2 hF, fK_3 hF, fK_4 hF, fK_5 hF, fK_6 hF, fN_6 hF, fK_7 hF, fN_7 hF, fK_8 hF, fN_8 hF, fK_9 hF, fN_9 hF, fK_10 hF, fK_11 hF, fN_11 hF, fK_12 hF, fK_13 hF, fN_13 hF, fK_14 hF, fN_14 hF, fK_15 hF, fN_15 hF, fK_16 hF, fN_16 hF, fP_12_0 hF, fP_12_1 hF, fP_12_2 hF, fP_12_3 hF, fP_12_4 hF, fP_12_5 hF, fP_12_6 hF, fP_12_7 hF, fP_4_0 hF, fP_4_1 hF, fP_4_2 hF, fP_4_3 hF, fP_11_0 hF, fP_7_0 hF, fP_7_1 hF, fP_7_2 hF, hF.cc, e1, a0, hRN.1, er]
          · rw [of_M (d + 18) hL hC hk hy]; simp [psh_some, psh_none, -Int32.not_lt, -Int32.not_le, q_M_of_36, q_M_of_171, q_M_of_184, q_M_of_185, hL, i4, ck, fF_2, z]
        · refine ReT.ok 1 ?_ (fun τ hL => ?_)
          · rw [bZ_t (by simpa using z)] at er
            simp [psh_some, psh_none, -Int32.not_lt, -Int32.not_le, va_rf, vd, vr, isR_r, isR_n, isA_r, isI_i, isI_r, isR_i, ar, akI, akZ, akB, akO, mI_sI, mP_sI, mK_sI, mN_sI, mX_sI, mP_sP, mI_sP, mK_sP, mN_sP, mX_sP, rc_C_of, e_C_of_0, e_C_of_5, e_C_of_21, e_C_of_143, e_C_of_151, e_C_of_154, e_C_of_159, fK_1 hF, fK_2 hF, fK_3 hF, fK_4 hF, fK_5 hF, fK_6 hF, fN_6 hF, fK_7 hF, fN_7 hF, fK_8 hF, fN_8 hF, fK_9 hF, fN_9 hF, fK_10 hF, fK_11 hF, fN_11 hF, fK_12 hF, fK_13 hF, fN_13 hF, fK_14 hF, fN_14 hF, fK_15 hF, fN_15 hF, fK_16 hF, fN_16 hF, fP_12_0 hF, fP_12_1 hF, fP_12_2 hF, fP_12_3 hF, fP_12_4 hF, fP_12_5 hF, fP_12_6 hF, fP_12_7 hF, fP_4_0 hF, fP_4_1 hF, fP_4_2 hF, fP_4_3 hF, fP_11_0 hF, fP_7_0 hF, fP_7_1 hF, fP_7_2 hF, hF.cc, e1, a0, hRN.1, er]
          · rw [of_M (d + 18) hL hC hk hy]; simp [psh_some, psh_none, -Int32.not_lt, -Int32.not_le, q_M_of_36, q_M_of_171, q_M_of_180, q_M_of_185, hL, i4, ck, fF_2, z]
      · by_cases z : μ.2 31 k = 0
        · refine ReT.ok 0 ?_ (fun τ hL => ?_)
          · simp [psh_some, psh_none, -Int32.not_lt, -Int32.not_le, va_rf, vd, vr, isR_r, isR_n, isA_r, isI_i, isI_r, isR_i, ar, akI, akZ, akB, akO, mI_sI, mP_sI, mK_sI, mN_sI, mX_sI, mP_sP, mI_sP, mK_sP, mN_sP, mX_sP, rc_C_of, e_C_of_0, e_C_of_5, e_C_of_21, e_C_of_160, e_C_of_171, e_C_of_172, fK_1 hF, fK_2 hF, fK_3 hF, fK_4 hF, fK_5 hF, fK_6 hF, fN_6 hF, fK_7 hF, fN_7 hF, fK_8 hF, fN_8 hF, fK_9 hF, fN_9 hF, fK_10 hF, fK_11 hF, fN_11 hF, fK_12 hF, fK_13 hF, fN_13 hF, fK_14 hF, fN_14 hF, fK_15 hF, fN_15 hF, fK_16 hF, fN_16 hF, fP_12_0 hF, fP_12_1 hF, fP_12_2 hF, fP_12_3 hF, fP_12_4 hF, fP_12_5 hF, fP_12_6 hF, fP_12_7 hF, fP_4_0 hF, fP_4_1 hF, fP_4_2 hF, fP_4_3 hF, fP_11_0 hF, fP_7_0 hF, fP_7_1 hF, fP_7_2 hF, hF.cc, e1, a0, a9, z]
          · rw [of_M (d + 18) hL hC hk hy]; simp [psh_some, psh_none, -Int32.not_lt, -Int32.not_le, q_M_of_36, q_M_of_186, q_M_of_199, q_M_of_200, hL, i4, ck, fF_2, z]
        · refine ReT.ok 1 ?_ (fun τ hL => ?_)
          · simp [psh_some, psh_none, -Int32.not_lt, -Int32.not_le, va_rf, vd, vr, isR_r, isR_n, isA_r, isI_i, isI_r, isR_i, ar, akI, akZ, akB, akO, mI_sI, mP_sI, mK_sI, mN_sI, mX_sI, mP_sP, mI_sP, mK_sP, mN_sP, mX_sP, rc_C_of, e_C_of_0, e_C_of_5, e_C_of_21, e_C_of_160, e_C_of_167, e_C_of_172, fK_1 hF, fK_2 hF, fK_3 hF, fK_4 hF, fK_5 hF, fK_6 hF, fN_6 hF, fK_7 hF, fN_7 hF, fK_8 hF, fN_8 hF, fK_9 hF, fN_9 hF, fK_10 hF, fK_11 hF, fN_11 hF, fK_12 hF, fK_13 hF, fN_13 hF, fK_14 hF, fN_14 hF, fK_15 hF, fN_15 hF, fK_16 hF, fN_16 hF, fP_12_0 hF, fP_12_1 hF, fP_12_2 hF, fP_12_3 hF, fP_12_4 hF, fP_12_5 hF, fP_12_6 hF, fP_12_7 hF, fP_4_0 hF, fP_4_1 hF, fP_4_2 hF, fP_4_3 hF, fP_11_0 hF, fP_7_0 hF, fP_7_1 hF, fP_7_2 hF, hF.cc, e1, a0, a9, z]
          · rw [of_M (d + 18) hL hC hk hy]; simp [psh_some, psh_none, -Int32.not_lt, -Int32.not_le, q_M_of_36, q_M_of_186, q_M_of_195, q_M_of_200, hL, i4, ck, fF_2, z]
    · refine ReT.no ?_ (fun τ hL => of_Mno (d + 18) hL hC hk hy)
      have d0 : ¬ y = 0 := fun z => hy (by rw [z]; decide)
      have d1 : ¬ y = 1 := fun z => hy (by rw [z]; decide)
      have d2 : ¬ y = 2 := fun z => hy (by rw [z]; decide)
      have d3 : ¬ y = 3 := fun z => hy (by rw [z]; decide)
      have d4 : ¬ y = 4 := fun z => hy (by rw [z]; decide)
      have d5 : ¬ y = 5 := fun z => hy (by rw [z]; decide)
      have d6 : ¬ y = 6 := fun z => hy (by rw [z]; decide)
      have d7 : ¬ y = 7 := fun z => hy (by rw [z]; decide)
      have d8 : ¬ y = 8 := fun z => hy (by rw [z]; decide)
      have d9 : ¬ y = 9 := fun z => hy (by rw [z]; decide)
      simp [psh_some, psh_none, -Int32.not_lt, -Int32.not_le, va_rf, vd, vr, isR_r, isR_n, isA_r, isI_i, isI_r, isR_i, ar, akI, akZ, akB, akO, mI_sI, mP_sI, mK_sI, mN_sI, mX_sI, mP_sP, mI_sP, mK_sP, mN_sP, mX_sP, rc_C_of, e_C_of_0, e_C_of_5, e_C_of_21, e_C_of_173, fK_1 hF, fK_2 hF, fK_3 hF, fK_4 hF, fK_5 hF, fK_6 hF, fN_6 hF, fK_7 hF, fN_7 hF, fK_8 hF, fN_8 hF, fK_9 hF, fN_9 hF, fK_10 hF, fK_11 hF, fN_11 hF, fK_12 hF, fK_13 hF, fN_13 hF, fK_14 hF, fN_14 hF, fK_15 hF, fN_15 hF, fK_16 hF, fN_16 hF, fP_12_0 hF, fP_12_1 hF, fP_12_2 hF, fP_12_3 hF, fP_12_4 hF, fP_12_5 hF, fP_12_6 hF, fP_12_7 hF, fP_4_0 hF, fP_4_1 hF, fP_4_2 hF, fP_4_3 hF, fP_11_0 hF, fP_7_0 hF, fP_7_1 hF, fP_7_2 hF, hF.cc, e1, d0, d1, d2, d3, d4, d5, d6, d7, d8, d9]
  · refine ReT.no ?_ (fun τ hL => of_Mnb (d + 18) hL hC hno)
    simp [psh_some, psh_none, -Int32.not_lt, -Int32.not_le, va_rf, vd, vr, isR_r, isR_n, isA_r, isI_i, isI_r, isR_i, ar, akI, akZ, akB, akO, mI_sI, mP_sI, mK_sI, mN_sI, mX_sI, mP_sP, mI_sP, mK_sP, mN_sP, mX_sP, rc_C_of, e_C_of_0, e_C_of_5, e_C_of_10, fK_1 hF, fK_2 hF, fK_3 hF, fK_4 hF, fK_5 hF, fK_6 hF, fN_6 hF, fK_7 hF, fN_7 hF, fK_8 hF, fN_8 hF, fK_9 hF, fN_9 hF, fK_10 hF, fK_11 hF, fN_11 hF, fK_12 hF, fK_13 hF, fN_13 hF, fK_14 hF, fN_14 hF, fK_15 hF, fN_15 hF, fK_16 hF, fN_16 hF, fP_12_0 hF, fP_12_1 hF, fP_12_2 hF, fP_12_3 hF, fP_12_4 hF, fP_12_5 hF, fP_12_6 hF, fP_12_7 hF, fP_4_0 hF, fP_4_1 hF, fP_4_2 hF, fP_4_3 hF, fP_11_0 hF, fP_7_0 hF, fP_7_1 hF, fP_7_2 hF, hF.cc, c_boatAt_no (d + 16) hF hRX hC hno]
theorem mail_M (hL : LM σ a) (hC : Cn μ) {k : Nat} (hk : k < nG μ) {y : Int32} (hy : (¬ y < 0 ∧ ¬ 3 < y) ∨ (¬ y < 10 ∧ ¬ 16 < y)) : runc (d + 2) 176 [.ref a, .int (nI k), .int y] (put σ a μ) = run (d + 2) 176 46 [.ref a, .int (nI k), .int y] [] (put σ a (fF μ 0 0)) := by
  have hb := hC.g
  have j1 := is_ix hk (show nG μ ≤ 1000 by omega)
  by_cases h1 : ¬ y < 0 ∧ ¬ 3 < y
  · simp [psh_some, psh_none, -Int32.not_lt, -Int32.not_le, rc_M_mail, q_M_mail_0, q_M_mail_6, q_M_mail_9, q_M_mail_15, q_M_mail_29, q_M_mail_34, q_M_mail_37, hL, m_isBag, hb.1, bZ_t j1, m_in, bZ_t h1, fF_1]
  · have h2 := hy.resolve_left h1
    simp [psh_some, psh_none, -Int32.not_lt, -Int32.not_le, rc_M_mail, q_M_mail_0, q_M_mail_6, q_M_mail_9, q_M_mail_15, q_M_mail_18, q_M_mail_26, q_M_mail_29, q_M_mail_34, q_M_mail_37, hL, m_isBag, hb.1, bZ_t j1, m_in, bZ_f h1, bZ_t h2, fF_1]
theorem mail_Mno (hL : LM σ a) (hC : Cn μ) {k : Nat} (hk : k < nG μ) {y : Int32} (h1 : ¬ (¬ y < 0 ∧ ¬ 3 < y)) (h2 : ¬ (¬ y < 10 ∧ ¬ 16 < y)) : runc (d + 2) 176 [.ref a, .int (nI k), .int y] (put σ a μ) = some (some (.int 0), put σ a (fF μ 0 1)) := by
  have hb := hC.g
  have j1 := is_ix hk (show nG μ ≤ 1000 by omega)
  have n1 : ¬ (1 : Int32) ≤ 0 := by decide
  simp [psh_some, psh_none, -Int32.not_lt, -Int32.not_le, rc_M_mail, q_M_mail_0, q_M_mail_6, q_M_mail_9, q_M_mail_15, q_M_mail_18, q_M_mail_26, q_M_mail_33, q_M_mail_34, q_M_mail_37, q_M_mail_44, hL, m_isBag, hb.1, bZ_t j1, m_in, bZ_f h1, bZ_f h2, fF_1, n1]
theorem mail_Mnb (hL : LM σ a) (hC : Cn μ) {x y : Int32} (hno : x < 0 ∨ nI (nG μ) ≤ x) : runc (d + 2) 176 [.ref a, .int x, .int y] (put σ a μ) = some (some (.int 0), put σ a (fF μ 0 1)) := by
  have hb := hC.g
  have n1 : ¬ (1 : Int32) ≤ 0 := by decide
  simp [psh_some, psh_none, -Int32.not_lt, -Int32.not_le, rc_M_mail, q_M_mail_0, q_M_mail_6, q_M_mail_33, q_M_mail_34, q_M_mail_37, q_M_mail_44, hL, m_isBag, hb.1, bZ_f (no_ix hno), fF_1, n1]
theorem ok_mail (x y : Int32) : OkT 84 176 [.int x, .int y] := by
  refine OkT_of fun d σ c a E S L B G H Q Z w μ hR hX hW => ?_
  have hC := hW.1
  obtain ⟨hF, hz, hRX, hRS, hRL, hRB, hRP, hRG, hRF, hRT, hRK, hRR, hRN⟩ := id hR
  have hg30 := hC.g
  have hs12 := hC.s.2
  rcases nIx x (n := nG μ) (by omega) with ⟨k, hk, rfl⟩ | hno
  · obtain ⟨⟨a0, a1, a2, a3, a4, a5, a6, a7, a8⟩, ⟨r0, r1, r2⟩⟩ := hRG.1 k hk
    obtain ⟨g0, g1, g2, g3, g4⟩ := hW.2.2.2.2.1.1 k hk
    have i4 : ix (nI k) 30 = true := ix_of (by omega) (by omega)
    have ck := cl30 (show k < 30 by omega)
    have hS := hRS _ g1.2
    have e1 := c_bagAt (d + 16) hF hRX hC hk a0
    have n3 : ¬ (¬ (-1 : Int32) < 0 ∧ ¬ (6 : Int32) < -1) := by decide
    by_cases hy : ¬ y < 0 ∧ ¬ 3 < y
    · have lt10 : ¬ 10 ≤ y := by
        intro z
        rcases in_03 hy with rfl | rfl | rfl | rfl <;> exact absurd z (by decide)
      have pre : ∀ u, run (d + 20) 84 56 [.ref c, .int (nI k), .int y, .ref (G k), .int (-1)] [] σ = u → runc (d + 20) 84 [.ref c, .int (nI k), .int y] σ = u := by
        intro u hu
        simp [psh_some, psh_none, -Int32.not_lt, -Int32.not_le, va_rf, vd, vr, isR_r, isR_n, isA_r, isI_i, isI_r, isR_i, ar, akI, akZ, akB, akO, mI_sI, mP_sI, mK_sI, mN_sI, mX_sI, mP_sP, mI_sP, mK_sP, mN_sP, mX_sP, rc_C_mail, e_C_mail_0, e_C_mail_5, e_C_mail_21, e_C_mail_27, e_C_mail_35, e_C_mail_45, fK_1 hF, fK_2 hF, fK_3 hF, fK_4 hF, fK_5 hF, fK_6 hF, fN_6 hF, fK_7 hF, fN_7 hF, fK_8 hF, fN_8 hF, fK_9 hF, fN_9 hF, fK_10 hF, fK_11 hF, fN_11 hF, fK_12 hF, fK_13 hF, fN_13 hF, fK_14 hF, fN_14 hF, fK_15 hF, fN_15 hF, fK_16 hF, fN_16 hF, fP_12_0 hF, fP_12_1 hF, fP_12_2 hF, fP_12_3 hF, fP_12_4 hF, fP_12_5 hF, fP_12_6 hF, fP_12_7 hF, fP_4_0 hF, fP_4_1 hF, fP_4_2 hF, fP_4_3 hF, fP_11_0 hF, fP_7_0 hF, fP_7_1 hF, fP_7_2 hF, hF.cc, e1, lt10, c_within, bZ, hu]
      rcases in_03 hy with rfl | rfl | rfl | rfl
      · refine ReT.ok (μ.2 64 k) (pre _ ?_) (fun τ hL => ?_)
        · simp [psh_some, psh_none, -Int32.not_lt, -Int32.not_le, va_rf, vd, vr, isR_r, isR_n, isA_r, isI_i, isI_r, isR_i, ar, akI, akZ, akB, akO, mI_sI, mP_sI, mK_sI, mN_sI, mX_sI, mP_sP, mI_sP, mK_sP, mN_sP, mX_sP, e_C_mail_56, e_C_mail_88, a0, a5]
        · rw [mail_M (d + 18) hL hC hk (Or.inl hy)]; simp [psh_some, psh_none, -Int32.not_lt, -Int32.not_le, q_M_mail_46, q_M_mail_76, hL, i4, ck, fF_2]
      · by_cases z : μ.2 64 k = 0
        · refine ReT.ok (μ.2 65 k) (pre _ ?_) (fun τ hL => ?_)
          · simp [psh_some, psh_none, -Int32.not_lt, -Int32.not_le, va_rf, vd, vr, isR_r, isR_n, isA_r, isI_i, isI_r, isR_i, ar, akI, akZ, akB, akO, mI_sI, mP_sI, mK_sI, mN_sI, mX_sI, mP_sP, mI_sP, mK_sP, mN_sP, mX_sP, e_C_mail_56, e_C_mail_93, e_C_mail_97, e_C_mail_100, e_C_mail_111, rc_Bag_isOnLand, e_Bag_isOnLand_0, e_Bag_isOnLand_7, e_Bag_isOnLand_15, e_Bag_isOnLand_19, e_Bag_isOnLand_20, a0, a5, z, a6, hS, g1.1]
          · rw [mail_M (d + 18) hL hC hk (Or.inl hy)]; simp [psh_some, psh_none, -Int32.not_lt, -Int32.not_le, q_M_mail_46, q_M_mail_83, q_M_mail_102, q_M_mail_112, hL, i4, ck, fF_2, z]
        · by_cases z2 : μ.2 64 k = 2
          · refine ReT.ok (μ.2 65 k) (pre _ ?_) (fun τ hL => ?_)
            · simp [psh_some, psh_none, -Int32.not_lt, -Int32.not_le, va_rf, vd, vr, isR_r, isR_n, isA_r, isI_i, isI_r, isR_i, ar, akI, akZ, akB, akO, mI_sI, mP_sI, mK_sI, mN_sI, mX_sI, mP_sP, mI_sP, mK_sP, mN_sP, mX_sP, e_C_mail_56, e_C_mail_93, e_C_mail_97, e_C_mail_100, e_C_mail_111, rc_Bag_isOnLand, e_Bag_isOnLand_0, e_Bag_isOnLand_7, e_Bag_isOnLand_15, e_Bag_isOnLand_19, e_Bag_isOnLand_20, a0, a5, z2, a6, hS, g1.1]
            · rw [mail_M (d + 18) hL hC hk (Or.inl hy)]; simp [psh_some, psh_none, -Int32.not_lt, -Int32.not_le, q_M_mail_46, q_M_mail_83, q_M_mail_92, q_M_mail_102, q_M_mail_112, hL, i4, ck, fF_2, z2]
          · refine ReT.ok (-1) (pre _ ?_) (fun τ hL => ?_)
            · simp [psh_some, psh_none, -Int32.not_lt, -Int32.not_le, va_rf, vd, vr, isR_r, isR_n, isA_r, isI_i, isI_r, isR_i, ar, akI, akZ, akB, akO, mI_sI, mP_sI, mK_sI, mN_sI, mX_sI, mP_sP, mI_sP, mK_sP, mN_sP, mX_sP, e_C_mail_56, e_C_mail_93, e_C_mail_97, e_C_mail_110, e_C_mail_111, rc_Bag_isOnLand, e_Bag_isOnLand_0, e_Bag_isOnLand_7, e_Bag_isOnLand_15, e_Bag_isOnLand_19, e_Bag_isOnLand_20, a0, a5, z, z2]
            · rw [mail_M (d + 18) hL hC hk (Or.inl hy)]; simp [psh_some, psh_none, -Int32.not_lt, -Int32.not_le, q_M_mail_46, q_M_mail_83, q_M_mail_92, q_M_mail_111, q_M_mail_112, hL, i4, ck, fF_2, z, z2]
      · by_cases z : μ.2 64 k = 1
        · refine ReT.ok (μ.2 66 k) (pre _ ?_) (fun τ hL => ?_)
          · simp [psh_some, psh_none, -Int32.not_lt, -Int32.not_le, va_rf, vd, vr, isR_r, isR_n, isA_r, isI_i, isI_r, isR_i, ar, akI, akZ, akB, akO, mI_sI, mP_sI, mK_sI, mN_sI, mX_sI, mP_sP, mI_sP, mK_sP, mN_sP, mX_sP, e_C_mail_56, e_C_mail_112, e_C_mail_120, e_C_mail_128, a0, a5, z, a7 z]
          · rw [mail_M (d + 18) hL hC hk (Or.inl hy)]; simp [psh_some, psh_none, -Int32.not_lt, -Int32.not_le, q_M_mail_46, q_M_mail_113, q_M_mail_123, q_M_mail_133, hL, i4, ck, fF_2, z]
        · refine ReT.ok (-1) (pre _ ?_) (fun τ hL => ?_)
          · simp [psh_some, psh_none, -Int32.not_lt, -Int32.not_le, va_rf, vd, vr, isR_r, isR_n, isA_r, isI_i, isI_r, isR_i, ar, akI, akZ, akB, akO, mI_sI, mP_sI, mK_sI, mN_sI, mX_sI, mP_sP, mI_sP, mK_sP, mN_sP, mX_sP, e_C_mail_56, e_C_mail_112, e_C_mail_127, e_C_mail_128, a0, a5, z]
          · rw [mail_M (d + 18) hL hC hk (Or.inl hy)]; simp [psh_some, psh_none, -Int32.not_lt, -Int32.not_le, q_M_mail_46, q_M_mail_113, q_M_mail_132, q_M_mail_133, hL, i4, ck, fF_2, z]
      · by_cases z : μ.2 64 k = 2
        · refine ReT.ok (μ.2 67 k) (pre _ ?_) (fun τ hL => ?_)
          · simp [psh_some, psh_none, -Int32.not_lt, -Int32.not_le, va_rf, vd, vr, isR_r, isR_n, isA_r, isI_i, isI_r, isR_i, ar, akI, akZ, akB, akO, mI_sI, mP_sI, mK_sI, mN_sI, mX_sI, mP_sP, mI_sP, mK_sP, mN_sP, mX_sP, e_C_mail_56, e_C_mail_129, e_C_mail_137, e_C_mail_145, a0, a5, z, a8 z]
          · rw [mail_M (d + 18) hL hC hk (Or.inl hy)]; simp [psh_some, psh_none, -Int32.not_lt, -Int32.not_le, q_M_mail_46, q_M_mail_134, q_M_mail_144, q_M_mail_154, hL, i4, ck, fF_2, z]
        · refine ReT.ok (-1) (pre _ ?_) (fun τ hL => ?_)
          · simp [psh_some, psh_none, -Int32.not_lt, -Int32.not_le, va_rf, vd, vr, isR_r, isR_n, isA_r, isI_i, isI_r, isR_i, ar, akI, akZ, akB, akO, mI_sI, mP_sI, mK_sI, mN_sI, mX_sI, mP_sP, mI_sP, mK_sP, mN_sP, mX_sP, e_C_mail_56, e_C_mail_129, e_C_mail_144, e_C_mail_145, a0, a5, z]
          · rw [mail_M (d + 18) hL hC hk (Or.inl hy)]; simp [psh_some, psh_none, -Int32.not_lt, -Int32.not_le, q_M_mail_46, q_M_mail_134, q_M_mail_153, q_M_mail_154, hL, i4, ck, fF_2, z]
    · have d0 : ¬ y = 0 := fun z => hy (by rw [z]; decide)
      have d1 : ¬ y = 1 := fun z => hy (by rw [z]; decide)
      have d2 : ¬ y = 2 := fun z => hy (by rw [z]; decide)
      have d3 : ¬ y = 3 := fun z => hy (by rw [z]; decide)
      by_cases h2 : ¬ y < 10 ∧ ¬ 16 < y
      · obtain ⟨q, hq, rfl⟩ : ∃ q, q < 7 ∧ y = nI (10 + q) := by
          obtain ⟨j, hj, rfl⟩ := nI_of (x := y) (fun z => h2.1 (Int32.lt_trans z (by decide)))
          have q1 := h2.1
          have q2 := h2.2
          rw [show (10 : Int32) = nI 10 from rfl, nI_ltI hj (by omega)] at q1
          rw [show (16 : Int32) = nI 16 from rfl, nI_ltI (by omega) hj] at q2
          exact ⟨j - 10, by omega, by congr 1; omega⟩
        have e10 : nI (10 + q) - 10 = nI q := by rw [show (10 : Int32) = nI 10 from rfl, pk_sub (by omega)]; congr 1; omega
        have l10 : (10 : Int32) ≤ nI (10 + q) := nI_le (a := 10) (by omega) (by omega)
        have hw6 : ¬ nI q < 0 ∧ ¬ 6 < nI q := ⟨nI_pos (by omega), nI_nlt (a := 6) (by omega) (by omega)⟩
        have i7 : ix (nI q) 7 = true := ix_of (by omega) (by omega)
        have e7 : 7 * nI k + nI (10 + q) - 10 = nI (7 * k + q) := by
          rw [show (7 : Int32) = nI 7 from rfl, pk_mul, nI_add, show (10 : Int32) = nI 10 from rfl, pk_sub (by omega)]
          congr 1
          omega
        have i210 : ix (nI (7 * k + q)) 210 = true := ix_of (by omega) (by omega)
        refine ReT.ok (μ.2 68 (7 * k + q)) ?_ (fun τ hL => ?_)
        · simp [psh_some, psh_none, -Int32.not_lt, -Int32.not_le, va_rf, vd, vr, isR_r, isR_n, isA_r, isI_i, isI_r, isR_i, ar, akI, akZ, akB, akO, mI_sI, mP_sI, mK_sI, mN_sI, mX_sI, mP_sP, mI_sP, mK_sP, mN_sP, mX_sP, rc_C_mail, e_C_mail_0, e_C_mail_5, e_C_mail_21, e_C_mail_31, e_C_mail_35, e_C_mail_45, e_C_mail_48, fK_1 hF, fK_2 hF, fK_3 hF, fK_4 hF, fK_5 hF, fK_6 hF, fN_6 hF, fK_7 hF, fN_7 hF, fK_8 hF, fN_8 hF, fK_9 hF, fN_9 hF, fK_10 hF, fK_11 hF, fN_11 hF, fK_12 hF, fK_13 hF, fN_13 hF, fK_14 hF, fN_14 hF, fK_15 hF, fN_15 hF, fK_16 hF, fN_16 hF, fP_12_0 hF, fP_12_1 hF, fP_12_2 hF, fP_12_3 hF, fP_12_4 hF, fP_12_5 hF, fP_12_6 hF, fP_12_7 hF, fP_4_0 hF, fP_4_1 hF, fP_4_2 hF, fP_4_3 hF, fP_11_0 hF, fP_7_0 hF, fP_7_1 hF, fP_7_2 hF, hF.cc, e1, l10, e10, c_within, bZ_t hw6, a0, a4, r0, r1, i7, cl1000 (show q < 1000 by omega), r2 q hq]
        · rw [mail_M (d + 18) hL hC hk (Or.inr h2)]; simp [psh_some, psh_none, -Int32.not_lt, -Int32.not_le, q_M_mail_46, q_M_mail_155, hL, d0, d1, d2, d3, e7, i210, cl1000 (show 7 * k + q < 1000 by omega), fF_2]
      · refine ReT.no ?_ (fun τ hL => mail_Mno (d + 18) hL hC hk hy h2)
        by_cases l10 : 10 ≤ y
        · have h3 : ¬ (¬ y - 10 < 0 ∧ ¬ 6 < y - 10) := by
            intro z
            refine h2 ⟨by simpa using l10, fun z2 => ?_⟩
            obtain ⟨j, hj, rfl⟩ := nI_of (x := y) (fun z3 => absurd (Int32.lt_of_lt_of_le z3 (Int32.le_trans (by decide) l10)) Int32.lt_irrefl)
            rw [show (10 : Int32) = nI 10 from rfl, nI_leI (by omega) hj] at l10
            rw [show (16 : Int32) = nI 16 from rfl, nI_ltI (by omega) hj] at z2
            have z4 := z.2
            rw [show (10 : Int32) = nI 10 from rfl, pk_sub l10, show (6 : Int32) = nI 6 from rfl, nI_ltI (by omega) (by omega)] at z4
            omega
          simp [psh_some, psh_none, -Int32.not_lt, -Int32.not_le, va_rf, vd, vr, isR_r, isR_n, isA_r, isI_i, isI_r, isR_i, ar, akI, akZ, akB, akO, mI_sI, mP_sI, mK_sI, mN_sI, mX_sI, mP_sP, mI_sP, mK_sP, mN_sP, mX_sP, rc_C_mail, e_C_mail_0, e_C_mail_5, e_C_mail_21, e_C_mail_31, e_C_mail_35, e_C_mail_45, e_C_mail_56, e_C_mail_146, fK_1 hF, fK_2 hF, fK_3 hF, fK_4 hF, fK_5 hF, fK_6 hF, fN_6 hF, fK_7 hF, fN_7 hF, fK_8 hF, fN_8 hF, fK_9 hF, fN_9 hF, fK_10 hF, fK_11 hF, fN_11 hF, fK_12 hF, fK_13 hF, fN_13 hF, fK_14 hF, fN_14 hF, fK_15 hF, fN_15 hF, fK_16 hF, fN_16 hF, fP_12_0 hF, fP_12_1 hF, fP_12_2 hF, fP_12_3 hF, fP_12_4 hF, fP_12_5 hF, fP_12_6 hF, fP_12_7 hF, fP_4_0 hF, fP_4_1 hF, fP_4_2 hF, fP_4_3 hF, fP_11_0 hF, fP_7_0 hF, fP_7_1 hF, fP_7_2 hF, hF.cc, e1, l10, c_within, bZ_f h3, d0, d1, d2, d3]
        · simp [psh_some, psh_none, -Int32.not_lt, -Int32.not_le, va_rf, vd, vr, isR_r, isR_n, isA_r, isI_i, isI_r, isR_i, ar, akI, akZ, akB, akO, mI_sI, mP_sI, mK_sI, mN_sI, mX_sI, mP_sP, mI_sP, mK_sP, mN_sP, mX_sP, rc_C_mail, e_C_mail_0, e_C_mail_5, e_C_mail_21, e_C_mail_27, e_C_mail_35, e_C_mail_45, e_C_mail_56, e_C_mail_146, fK_1 hF, fK_2 hF, fK_3 hF, fK_4 hF, fK_5 hF, fK_6 hF, fN_6 hF, fK_7 hF, fN_7 hF, fK_8 hF, fN_8 hF, fK_9 hF, fN_9 hF, fK_10 hF, fK_11 hF, fN_11 hF, fK_12 hF, fK_13 hF, fN_13 hF, fK_14 hF, fN_14 hF, fK_15 hF, fN_15 hF, fK_16 hF, fN_16 hF, fP_12_0 hF, fP_12_1 hF, fP_12_2 hF, fP_12_3 hF, fP_12_4 hF, fP_12_5 hF, fP_12_6 hF, fP_12_7 hF, fP_4_0 hF, fP_4_1 hF, fP_4_2 hF, fP_4_3 hF, fP_11_0 hF, fP_7_0 hF, fP_7_1 hF, fP_7_2 hF, hF.cc, e1, l10, c_within, bZ, d0, d1, d2, d3]
  · refine ReT.no ?_ (fun τ hL => mail_Mnb (d + 18) hL hC hno)
    simp [psh_some, psh_none, -Int32.not_lt, -Int32.not_le, va_rf, vd, vr, isR_r, isR_n, isA_r, isI_i, isI_r, isR_i, ar, akI, akZ, akB, akO, mI_sI, mP_sI, mK_sI, mN_sI, mX_sI, mP_sP, mI_sP, mK_sP, mN_sP, mX_sP, rc_C_mail, e_C_mail_0, e_C_mail_5, e_C_mail_10, fK_1 hF, fK_2 hF, fK_3 hF, fK_4 hF, fK_5 hF, fK_6 hF, fN_6 hF, fK_7 hF, fN_7 hF, fK_8 hF, fN_8 hF, fK_9 hF, fN_9 hF, fK_10 hF, fK_11 hF, fN_11 hF, fK_12 hF, fK_13 hF, fN_13 hF, fK_14 hF, fN_14 hF, fK_15 hF, fN_15 hF, fK_16 hF, fN_16 hF, fP_12_0 hF, fP_12_1 hF, fP_12_2 hF, fP_12_3 hF, fP_12_4 hF, fP_12_5 hF, fP_12_6 hF, fP_12_7 hF, fP_4_0 hF, fP_4_1 hF, fP_4_2 hF, fP_4_3 hF, fP_11_0 hF, fP_7_0 hF, fP_7_1 hF, fP_7_2 hF, hF.cc, c_bagAt_no (d + 16) hF hRX hC hno]
end O54
