/-! ===== OPERATIONS: point, of, mail ===== -/
section O53
variable {σ : Mm} {c a : Nat} {E S L B G H Q : Nat → Nat} {Z : Nat → List Nat} {w : Bool} {μ : Ms} (d : Nat)
theorem c_legAt_any (hF : FL σ c) (hX : RX σ c E S L B G μ) (hC : Cn μ) (hL : RLg σ S L μ) (x : Int32) : ∃ v, isR v = true ∧ runc (d + 3) 92 [.ref c, .int x] σ = some (some v, σ) := by
  rcases nIx x (n := nL μ) (by have := hC.l.2; omega) with ⟨k, hk, rfl⟩ | hno
  · exact ⟨_, isR_r _, c_legAt d hF hX hC hk (hL k hk).1⟩
  · exact ⟨_, isR_n, c_legAt_no d hF hX hC hno⟩
theorem c_stopAt_any (hF : FL σ c) (hX : RX σ c E S L B G μ) (hC : Cn μ) (hS : RS σ S μ) (x : Int32) : ∃ v, isR v = true ∧ runc (d + 3) 91 [.ref c, .int x] σ = some (some v, σ) := by
  rcases nIx x (n := nS μ) (by have := hC.s.2; omega) with ⟨k, hk, rfl⟩ | hno
  · exact ⟨_, isR_r _, c_stopAt d hF hX hC hk (hS k hk).1⟩
  · exact ⟨_, isR_n, c_stopAt_no d hF hX hC hno⟩
theorem m_atEnd (hL : LM σ a) (hC : Cn μ) {k l : Nat} (hk : k < nB μ) (hl : l < nL μ) : runc (d + 2) 160 [.ref a, .int (nI k), .int (nI l)] (put σ a μ) = some (some (.int (bZ (μ.2 24 k = 0 ∧ (μ.2 8 l = μ.2 25 k ∨ μ.2 9 l = μ.2 25 k)))), put σ a μ) := by
  have hb := hC.b
  have hl30 := hC.l
  have e1 := m_isMoored d hL hb.1 hb.2 hk
  have j1 := is_ix hl (show nL μ ≤ 1000 by omega)
  have i1 : ix (nI k) 6 = true := ix_of (by omega) (by omega)
  have i2 : ix (nI l) 30 = true := ix_of (by omega) (by omega)
  by_cases h0 : μ.2 24 k = 0
  · by_cases h1 : μ.2 8 l = μ.2 25 k
    · simp [psh_some, psh_none, -Int32.not_lt, -Int32.not_le, rc_M_isAtEnd, q_M_isAtEnd_0, q_M_isAtEnd_5, q_M_isAtEnd_8, q_M_isAtEnd_13, q_M_isAtEnd_16, q_M_isAtEnd_31, q_M_isAtEnd_46, q_M_isAtEnd_50, q_M_isAtEnd_51, hL, e1, bZ, h0, m_isLeg, hl30.1, j1, i1, i2, cl6 (show k < 6 by omega), cl30 (show l < 30 by omega), h1]
    · by_cases h2 : μ.2 9 l = μ.2 25 k <;> simp [psh_some, psh_none, -Int32.not_lt, -Int32.not_le, rc_M_isAtEnd, q_M_isAtEnd_0, q_M_isAtEnd_5, q_M_isAtEnd_8, q_M_isAtEnd_13, q_M_isAtEnd_16, q_M_isAtEnd_31, q_M_isAtEnd_46, q_M_isAtEnd_50, q_M_isAtEnd_51, hL, e1, bZ, h0, m_isLeg, hl30.1, j1, i1, i2, cl6 (show k < 6 by omega), cl30 (show l < 30 by omega), h1, h2]
  · simp [psh_some, psh_none, -Int32.not_lt, -Int32.not_le, rc_M_isAtEnd, q_M_isAtEnd_0, q_M_isAtEnd_5, q_M_isAtEnd_8, q_M_isAtEnd_13, q_M_isAtEnd_16, q_M_isAtEnd_31, q_M_isAtEnd_46, q_M_isAtEnd_50, q_M_isAtEnd_51, hL, e1, bZ, h0]
theorem m_atEnd_b (hL : LM σ a) {x y : Int32} (e : runc (d + 1) 132 [.ref a, .int x] (put σ a μ) = some (some (.int 0), put σ a μ)) : runc (d + 2) 160 [.ref a, .int x, .int y] (put σ a μ) = some (some (.int 0), put σ a μ) := by
  simp [psh_some, psh_none, -Int32.not_lt, -Int32.not_le, rc_M_isAtEnd, q_M_isAtEnd_0, q_M_isAtEnd_5, q_M_isAtEnd_8, q_M_isAtEnd_13, q_M_isAtEnd_16, q_M_isAtEnd_31, q_M_isAtEnd_46, q_M_isAtEnd_50, q_M_isAtEnd_51, hL, e]
theorem m_atEnd_l (hL : LM σ a) (hC : Cn μ) {k : Nat} {y : Int32} (hk : k < nB μ) (hno : y < 0 ∨ nI (nL μ) ≤ y) : runc (d + 2) 160 [.ref a, .int (nI k), .int y] (put σ a μ) = some (some (.int 0), put σ a μ) := by
  have hb := hC.b
  have hl30 := hC.l
  have e1 := m_isMoored d hL hb.1 hb.2 hk
  by_cases h0 : μ.2 24 k = 0 <;> simp [psh_some, psh_none, -Int32.not_lt, -Int32.not_le, rc_M_isAtEnd, q_M_isAtEnd_0, q_M_isAtEnd_5, q_M_isAtEnd_8, q_M_isAtEnd_13, q_M_isAtEnd_16, q_M_isAtEnd_31, q_M_isAtEnd_46, q_M_isAtEnd_50, q_M_isAtEnd_51, hL, e1, bZ, h0, m_isLeg, hl30.1, no_ix hno]
theorem gnd_ne (s w : Int32) : ¬ gnd s w = 0 := fun z => absurd (z ▸ gnd_pos s w) (by decide)
/-- the greatest e up to n at which P -/
def ld (P : Nat → Bool) : Nat → Int32
  | 0 => -1
  | n + 1 => if P (n + 1) = true then nI (n + 1) else ld P n
/-- at e it can still turn -/
def pOk (μ : Ms) (k : Nat) (g gb : Int32) (e : Nat) : Bool := decide (¬ μ.2 27 k < dvu (μ.2 20 k * (nI e + dvu (nI e * g) gb)) 60)
theorem pt_lpC {b h k : Nat} (hb : mK σ b = 3) (b1 : mP σ 3 b 1 = some h) (b5 : mI σ 3 b 5 = μ.2 27 k) (hh : RH σ h μ k) (x1 x2 x5 g : Int32) {gb : Int32} (hg : 1 ≤ gb) (v4 : Value) : ∀ n : Nat, n ≤ 10000 → run (d + 2) 76 80 [.ref c, .int x1, .int x2, .ref b, v4, .int x5, .int g, .int gb, .int (nI n)] [] σ = some (some (.int (ld (pOk μ k g gb) n)), σ) := by
  intro n
  induction n with
  | zero => intro _; simp [psh_some, psh_none, -Int32.not_lt, -Int32.not_le, e_C_point_80, e_C_point_121, nI_0, ld]
  | succ n ih =>
    intro hn
    have h1 := ih (by omega)
    have h2 : ¬ nI (n + 1) < 1 := nI_nlt (b := 1) (by omega) (by omega)
    have e1 := fun x => c_burnt (σ := σ) d hh x
    have hk5 := hh.1
    rw [ld]
    by_cases z : μ.2 27 k < dvu (μ.2 20 k * (nI (n + 1) + dvu (nI (n + 1) * g) gb)) 60
    · have z2 : ¬ pOk μ k g gb (n + 1) = true := fun q => of_decide_eq_true q z
      simp [psh_some, psh_none, -Int32.not_lt, -Int32.not_le, va_rf, vd, vr, isR_r, isR_n, isA_r, isI_i, isI_r, isR_i, ar, akI, akZ, akB, akO, mI_sI, mP_sI, mK_sI, mN_sI, mX_sI, mP_sP, mI_sP, mK_sP, mN_sP, mX_sP, e_C_point_80, e_C_point_86, e_C_point_101, e_C_point_105, e_C_point_115, h2, hb, b1, b5, hk5, c_minutesBack d _ _ hg, e1, z, z2, pk_m1, h1]
    · have z2 : pOk μ k g gb (n + 1) = true := decide_eq_true z
      simp [psh_some, psh_none, -Int32.not_lt, -Int32.not_le, va_rf, vd, vr, isR_r, isR_n, isA_r, isI_i, isI_r, isR_i, ar, akI, akZ, akB, akO, mI_sI, mP_sI, mK_sI, mN_sI, mX_sI, mP_sP, mI_sP, mK_sP, mN_sP, mX_sP, e_C_point_80, e_C_point_86, e_C_point_101, e_C_point_105, e_C_point_112, h2, hb, b1, b5, hk5, c_minutesBack d _ _ hg, e1, z, z2]
theorem pt_lpM (hL : LM σ a) {k l q : Nat} (hk : k < 6) (hl : l < 30) (hq : q ≤ 10000) (x3 x4 : Int32) {g gb : Int32} (hg : ¬ g = 0) (hgb : ¬ gb = 0) (em : dvu (60 * μ.2 10 l) g = nI q) : ∀ y j : Nat, j + y = q → run (d + 2) 164 94 [.ref a, .int (nI k), .int (nI l), .int x3, .int x4, .int g, .int gb, .int (ld (pOk μ k g gb) j), .int (nI (j + 1))] [] (put σ a μ) = some (some (.int (ld (pOk μ k g gb) q)), put σ a μ) := by
  have i1 : ix (nI k) 6 = true := ix_of (by omega) (by omega)
  have i2 : ix (nI l) 30 = true := ix_of (by omega) (by omega)
  intro y
  induction y with
  | zero =>
    intro j hj
    have : j = q := by omega
    subst this
    have h2 : nI j < nI (j + 1) := nI_lt (by omega) (by omega)
    simp [psh_some, psh_none, -Int32.not_lt, -Int32.not_le, q_M_point_94, q_M_point_110, q_M_point_150, hL, i2, cl30 hl, m_up _ _ _ hg, em, h2]
  | succ y ih =>
    intro j hj
    have h1 := ih (j + 1) (by omega)
    have h2 : ¬ nI q < nI (j + 1) := nI_nlt (by omega) (by omega)
    rw [ld, nI_succ (j + 1)] at h1
    by_cases z : μ.2 27 k < dvu (μ.2 20 k * (nI (j + 1) + dvu (nI (j + 1) * g) gb)) 60
    · have z2 : ¬ pOk μ k g gb (j + 1) = true := fun q => of_decide_eq_true q z
      rw [if_neg z2] at h1
      simp [psh_some, psh_none, -Int32.not_lt, -Int32.not_le, q_M_point_94, q_M_point_110, q_M_point_113, q_M_point_127, q_M_point_131, q_M_point_144, hL, i1, i2, cl6 hk, cl30 hl, m_up _ _ _ hg, m_up _ _ _ hgb, em, h2, m_burns d hL hk, z, h1]
    · have z2 : pOk μ k g gb (j + 1) = true := decide_eq_true z
      rw [if_pos z2] at h1
      simp [psh_some, psh_none, -Int32.not_lt, -Int32.not_le, q_M_point_94, q_M_point_110, q_M_point_113, q_M_point_127, q_M_point_131, q_M_point_140, q_M_point_144, hL, i1, i2, cl6 hk, cl30 hl, m_up _ _ _ hg, m_up _ _ _ hgb, em, h2, m_burns d hL hk, z, h1]
/-- the wind along a leg from a stop, as the reference says it -/
theorem wd_M (hC : Cn μ) (hWL : WL μ) {l s : Nat} (hl : l < nL μ) (hs : s < nS μ) : (if μ.2 8 l = nI s then kno μ 1 (nI l) (μ.1 1 / 1440) (nF μ) 0 else -kno μ 1 (nI l) (μ.1 1 / 1440) (nF μ) 0) = wdN μ l s := by
  have h12 := hC.s.2
  obtain ⟨w1, w2, -⟩ := hWL l hl
  unfold wdN
  rw [w1]
  by_cases z : s = lA μ l
  · rw [if_pos z, if_pos (by rw [z])]
  · rw [if_neg z, if_neg (by rw [nI_eq (by omega) (by omega)]; omega)]
theorem wd_MB (hC : Cn μ) (hWL : WL μ) {l s : Nat} (hl : l < nL μ) (hs : s < nS μ) : (if μ.2 8 l = (if μ.2 8 l = nI s then μ.2 9 l else μ.2 8 l) then kno μ 1 (nI l) (μ.1 1 / 1440) (nF μ) 0 else -kno μ 1 (nI l) (μ.1 1 / 1440) (nF μ) 0) = -wdN μ l s := by
  have h12 := hC.s.2
  obtain ⟨w1, w2, w3, w4, w5, -⟩ := hWL l hl
  unfold wdN
  rw [w1, w3]
  by_cases z : s = lA μ l
  · rw [if_pos z, if_pos (show nI (lA μ l) = nI s by rw [z]), if_neg (by rw [nI_eq (by omega) (by omega)]; exact w5)]
  · rw [if_neg z, if_neg (show ¬ nI (lA μ l) = nI s by rw [nI_eq (by omega) (by omega)]; omega), if_pos rfl, Int32.neg_neg]
theorem ok_point (x y : Int32) : Ok 76 164 [.int x, .int y] := by
  refine Ok_of fun d σ c a E S L B G H Q Z w μ hR hLM hX hW => ?_
  have hC := hW.1
  obtain ⟨hF, hz, hRX, hRS, hRL, hRB, hRP, hRG, hRF, hRT, hRK, hRR, hRN⟩ := id hR
  have hb := hC.b
  have hl30 := hC.l
  have hs12 := hC.s.2
  rcases nIx x (n := nB μ) (by omega) with ⟨k, hk, rfl⟩ | hno
  · have em := c_moored (d + 15) hF hRX hC hRB hk
    by_cases h0 : μ.2 24 k = 0
    · rw [if_pos h0] at em
      rcases nIx y (n := nL μ) (by omega) with ⟨l, hl, rfl⟩ | hnl
      · have i4 : ix (nI k) 6 = true := ix_of (by omega) (by omega); have ck := cl6 (show k < 6 by omega); have j1 := is_ix hk (show nB μ ≤ 1000 by omega); obtain ⟨a0, a1, a2, a3, a4, a5, a6, a7, a8, a9, a10, a11, a12, a13, a14, a15⟩ := (hRB k hk).1; have hh := (hRB k hk).2; obtain ⟨u0, u1, u2, u3, u4, u5, u6, u7⟩ := (hRB k hk).2; obtain ⟨b0, b1, b2, b3, b4, b5, b6, b7, b8, b9, b10, b11, b12⟩ := hW.2.2.2.1.1 k hk; have hS := hRS _ b0.2; have i5 : ix (nI (aT μ k)) 12 = true := ix_of (by omega) (by omega); have ca := cl12 (show aT μ k < 12 by omega)
        have eL := c_legAt (d + 16) hF hRX hC hl (hRL l hl).1
        have w1 := hW.2.2.1 l hl
        have kL := (hRL l hl).1
        have et := c_touches (d + 19) hRS hC hRL hl b0.2 w1.2.1 w1.2.2.2.1
        have et2 : (μ.2 24 k = 0 ∧ (μ.2 8 l = μ.2 25 k ∨ μ.2 9 l = μ.2 25 k)) ↔ (aT μ k = lA μ l ∨ aT μ k = lB μ l) := by
          rw [w1.1, w1.2.2.1, b0.1, nI_eq (by omega) (by omega), nI_eq (by have := w1.2.2.2.1; omega) (by omega)]
          constructor
          · rintro ⟨-, h | h⟩
            · exact Or.inl h.symm
            · exact Or.inr h.symm
          · rintro (h | h)
            · exact ⟨h0, Or.inl h.symm⟩
            · exact ⟨h0, Or.inr h.symm⟩
        have i6 : ix (nI l) 30 = true := ix_of (by omega) (by omega)
        by_cases ht : aT μ k = lA μ l ∨ aT μ k = lB μ l
        · have ew := c_windNow (d + 17) hF hC hRF hW.2.2.2.2.2.1 hRS hRL hRN b0.2 hl w1.2.1
          obtain ⟨m, m1, m2, m3⟩ := w1.2.2.2.2.2
          obtain ⟨sp, sp1, sp2, sp3⟩ := b3
          obtain ⟨g, g1, g2, g3⟩ := gnd_N sp1 sp2 (wdN_wd hW.2.2.2.2.2.1 l (aT μ k))
          obtain ⟨q, q1, q2, q3⟩ := mins_N m1 m2 g1 g2
          have eg := fun x => c_ground (σ := σ) (d + 19) hh x
          have eq1 := c_minutesAt (d + 18) hRL hl (gnd_pos (μ.2 19 k) (wdN μ l (aT μ k)))
          have eq2 : dvu (μ.2 10 l * 60) (gnd (μ.2 19 k) (wdN μ l (aT μ k))) = nI q := by rw [m3, sp3, g3, q3]
          refine Res.same hR hX hW (v := some (.int (ld (pOk μ k (gnd (μ.2 19 k) (wdN μ l (aT μ k))) (gnd (μ.2 19 k) (-wdN μ l (aT μ k)))) q))) ?_ (fun τ μ0 hμ hL => ?_)
          · have lp := pt_lpC (c := c) (d + 18) a0 a2 a6 hh (nI k) (nI l) (wdN μ l (aT μ k)) (gnd (μ.2 19 k) (wdN μ l (aT μ k))) (gnd_pos (μ.2 19 k) (-wdN μ l (aT μ k))) (.ref (L l)) q (by omega)
            simp [psh_some, psh_none, -Int32.not_lt, -Int32.not_le, va_rf, vd, vr, isR_r, isR_n, isA_r, isI_i, isI_r, isR_i, ar, akI, akZ, akB, akO, mI_sI, mP_sI, mK_sI, mN_sI, mX_sI, mP_sP, mI_sP, mK_sP, mN_sP, mX_sP, rc_C_point, e_C_point_0, e_C_point_5, e_C_point_11, e_C_point_17, e_C_point_22, e_C_point_31, e_C_point_36, e_C_point_46, e_C_point_57, e_C_point_69, e_C_point_78, fK_1 hF, fK_2 hF, fK_3 hF, fK_4 hF, fK_5 hF, fK_6 hF, fN_6 hF, fK_7 hF, fN_7 hF, fK_8 hF, fN_8 hF, fK_9 hF, fN_9 hF, fK_10 hF, fK_11 hF, fN_11 hF, fK_12 hF, fK_13 hF, fN_13 hF, fK_14 hF, fN_14 hF, fK_15 hF, fN_15 hF, fK_16 hF, fN_16 hF, fP_12_0 hF, fP_12_1 hF, fP_12_2 hF, fP_12_3 hF, fP_12_4 hF, fP_12_5 hF, fP_12_6 hF, fP_12_7 hF, fP_4_0 hF, fP_4_1 hF, fP_4_2 hF, fP_4_3 hF, fP_11_0 hF, fP_7_0 hF, fP_7_1 hF, fP_7_2 hF, hF.cc, em, eL, a0, a2, a4, u0, kL, et, bZ_t ht, ew, eg, eq1, eq2, lp]
          · have lp := pt_lpM (σ := τ) (d + 18) hL (show k < 6 by omega) (show l < 30 by omega) (show q ≤ 10000 by omega) (kno μ 1 (nI l) (μ.1 1 / 1440) (nF μ) 0) (nI (aT μ k)) (gnd_ne (μ.2 19 k) (wdN μ l (aT μ k))) (gnd_ne (μ.2 19 k) (-wdN μ l (aT μ k))) (by rw [mul60, eq2]) q 0 (by omega)
            have ea := m_atEnd (σ := τ) (d + 17) hL hC hk hl
            rw [bZ_t (et2.mpr ht)] at ea
            have ewd := m_windAt (μ := μ) (σ := τ) (d + 18) hL hC.f.2 (nI l) (μ.1 1 / 1440)
            have eg1 := m_going (μ := μ) (σ := τ) (d + 19) hL (show k < 6 by omega) (show l < 30 by omega) (nI (aT μ k)) (kno μ 1 (nI l) (μ.1 1 / 1440) (nF μ) 0)
            rw [wd_M hC hW.2.2.1 hl b0.2] at eg1
            have eg2 := m_going (μ := μ) (σ := τ) (d + 19) hL (show k < 6 by omega) (show l < 30 by omega) (if μ.2 8 l = nI (aT μ k) then μ.2 9 l else μ.2 8 l) (kno μ 1 (nI l) (μ.1 1 / 1440) (nF μ) 0)
            rw [wd_MB hC hW.2.2.1 hl b0.2] at eg2
            rw [ld, Nat.zero_add, show nI 1 = (1 : Int32) from rfl] at lp
            by_cases z : μ.2 8 l = nI (aT μ k)
            · rw [if_pos z] at eg2
              simp [psh_some, psh_none, -Int32.not_lt, -Int32.not_le, rc_M_point, q_M_point_0, q_M_point_5, q_M_point_11, q_M_point_16, q_M_point_33, q_M_point_51, q_M_point_67, q_M_point_82, q_M_point_86, hL, hμ, ea, hC.f.1, ewd, i4, i6, ck, cl30 (show l < 30 by omega), b0.1, eg1, z, eg2, lp]
            · rw [if_neg z] at eg2
              simp [psh_some, psh_none, -Int32.not_lt, -Int32.not_le, rc_M_point, q_M_point_0, q_M_point_5, q_M_point_11, q_M_point_16, q_M_point_33, q_M_point_51, q_M_point_76, q_M_point_82, q_M_point_86, hL, hμ, ea, hC.f.1, ewd, i4, i6, ck, cl30 (show l < 30 by omega), b0.1, eg1, z, eg2, lp]
        · refine Res.same hR hX hW (v := some (.int (-1))) ?_ (fun τ μ0 hμ hL => ?_)
          · simp [psh_some, psh_none, -Int32.not_lt, -Int32.not_le, va_rf, vd, vr, isR_r, isR_n, isA_r, isI_i, isI_r, isR_i, ar, akI, akZ, akB, akO, mI_sI, mP_sI, mK_sI, mN_sI, mX_sI, mP_sP, mI_sP, mK_sP, mN_sP, mX_sP, rc_C_point, e_C_point_0, e_C_point_5, e_C_point_11, e_C_point_17, e_C_point_22, e_C_point_31, e_C_point_34, fK_1 hF, fK_2 hF, fK_3 hF, fK_4 hF, fK_5 hF, fK_6 hF, fN_6 hF, fK_7 hF, fN_7 hF, fK_8 hF, fN_8 hF, fK_9 hF, fN_9 hF, fK_10 hF, fK_11 hF, fN_11 hF, fK_12 hF, fK_13 hF, fN_13 hF, fK_14 hF, fN_14 hF, fK_15 hF, fN_15 hF, fK_16 hF, fN_16 hF, fP_12_0 hF, fP_12_1 hF, fP_12_2 hF, fP_12_3 hF, fP_12_4 hF, fP_12_5 hF, fP_12_6 hF, fP_12_7 hF, fP_4_0 hF, fP_4_1 hF, fP_4_2 hF, fP_4_3 hF, fP_11_0 hF, fP_7_0 hF, fP_7_1 hF, fP_7_2 hF, hF.cc, em, eL, a0, a4, kL, et, bZ_f ht]
          · have ea := m_atEnd (σ := τ) (d + 17) hL hC hk hl
            rw [bZ_f (fun z => ht (et2.mp z))] at ea
            simp [psh_some, psh_none, -Int32.not_lt, -Int32.not_le, rc_M_point, q_M_point_0, q_M_point_5, q_M_point_11, q_M_point_14, hL, hμ, ea]
      · refine Res.same hR hX hW (v := some (.int (-1))) ?_ (fun τ μ0 hμ hL => ?_)
        · simp [psh_some, psh_none, -Int32.not_lt, -Int32.not_le, va_rf, vd, vr, isR_r, isR_n, isA_r, isI_i, isI_r, isR_i, ar, akI, akZ, akB, akO, mI_sI, mP_sI, mK_sI, mN_sI, mX_sI, mP_sP, mI_sP, mK_sP, mN_sP, mX_sP, rc_C_point, e_C_point_0, e_C_point_5, e_C_point_11, e_C_point_17, e_C_point_34, fK_1 hF, fK_2 hF, fK_3 hF, fK_4 hF, fK_5 hF, fK_6 hF, fN_6 hF, fK_7 hF, fN_7 hF, fK_8 hF, fN_8 hF, fK_9 hF, fN_9 hF, fK_10 hF, fK_11 hF, fN_11 hF, fK_12 hF, fK_13 hF, fN_13 hF, fK_14 hF, fN_14 hF, fK_15 hF, fN_15 hF, fK_16 hF, fN_16 hF, fP_12_0 hF, fP_12_1 hF, fP_12_2 hF, fP_12_3 hF, fP_12_4 hF, fP_12_5 hF, fP_12_6 hF, fP_12_7 hF, fP_4_0 hF, fP_4_1 hF, fP_4_2 hF, fP_4_3 hF, fP_11_0 hF, fP_7_0 hF, fP_7_1 hF, fP_7_2 hF, hF.cc, em, c_legAt_no (d + 16) hF hRX hC hnl]
        · simp [psh_some, psh_none, -Int32.not_lt, -Int32.not_le, rc_M_point, q_M_point_0, q_M_point_5, q_M_point_11, q_M_point_14, hL, hμ, m_atEnd_l (d + 17) hL hC hk hnl]
    · rw [if_neg h0] at em
      obtain ⟨v, v1, v2⟩ := c_legAt_any (d + 16) hF hRX hC hRL y
      refine Res.same hR hX hW (v := some (.int (-1))) ?_ (fun τ μ0 hμ hL => ?_)
      · simp [psh_some, psh_none, -Int32.not_lt, -Int32.not_le, va_rf, vd, vr, isR_r, isR_n, isA_r, isI_i, isI_r, isR_i, ar, akI, akZ, akB, akO, mI_sI, mP_sI, mK_sI, mN_sI, mX_sI, mP_sP, mI_sP, mK_sP, mN_sP, mX_sP, rc_C_point, e_C_point_0, e_C_point_5, e_C_point_11, e_C_point_34, fK_1 hF, fK_2 hF, fK_3 hF, fK_4 hF, fK_5 hF, fK_6 hF, fN_6 hF, fK_7 hF, fN_7 hF, fK_8 hF, fN_8 hF, fK_9 hF, fN_9 hF, fK_10 hF, fK_11 hF, fN_11 hF, fK_12 hF, fK_13 hF, fN_13 hF, fK_14 hF, fN_14 hF, fK_15 hF, fN_15 hF, fK_16 hF, fN_16 hF, fP_12_0 hF, fP_12_1 hF, fP_12_2 hF, fP_12_3 hF, fP_12_4 hF, fP_12_5 hF, fP_12_6 hF, fP_12_7 hF, fP_4_0 hF, fP_4_1 hF, fP_4_2 hF, fP_4_3 hF, fP_11_0 hF, fP_7_0 hF, fP_7_1 hF, fP_7_2 hF, hF.cc, em, v1, v2]
      · have e := m_isMoored (d + 17) hL hb.1 hb.2 hk
        rw [bZ_f h0] at e
        simp [psh_some, psh_none, -Int32.not_lt, -Int32.not_le, rc_M_point, q_M_point_0, q_M_point_5, q_M_point_11, q_M_point_14, hL, hμ, m_atEnd_b (d + 17) hL e]
  · obtain ⟨v, v1, v2⟩ := c_legAt_any (d + 16) hF hRX hC hRL y
    refine Res.same hR hX hW (v := some (.int (-1))) ?_ (fun τ μ0 hμ hL => ?_)
    · simp [psh_some, psh_none, -Int32.not_lt, -Int32.not_le, va_rf, vd, vr, isR_r, isR_n, isA_r, isI_i, isI_r, isR_i, ar, akI, akZ, akB, akO, mI_sI, mP_sI, mK_sI, mN_sI, mX_sI, mP_sP, mI_sP, mK_sP, mN_sP, mX_sP, rc_C_point, e_C_point_0, e_C_point_5, e_C_point_11, e_C_point_34, fK_1 hF, fK_2 hF, fK_3 hF, fK_4 hF, fK_5 hF, fK_6 hF, fN_6 hF, fK_7 hF, fN_7 hF, fK_8 hF, fN_8 hF, fK_9 hF, fN_9 hF, fK_10 hF, fK_11 hF, fN_11 hF, fK_12 hF, fK_13 hF, fN_13 hF, fK_14 hF, fN_14 hF, fK_15 hF, fN_15 hF, fK_16 hF, fN_16 hF, fP_12_0 hF, fP_12_1 hF, fP_12_2 hF, fP_12_3 hF, fP_12_4 hF, fP_12_5 hF, fP_12_6 hF, fP_12_7 hF, fP_4_0 hF, fP_4_1 hF, fP_4_2 hF, fP_4_3 hF, fP_11_0 hF, fP_7_0 hF, fP_7_1 hF, fP_7_2 hF, hF.cc, c_moored_no (d + 15) hF hRX hC hno, v1, v2]
    · simp [psh_some, psh_none, -Int32.not_lt, -Int32.not_le, rc_M_point, q_M_point_0, q_M_point_5, q_M_point_11, q_M_point_14, hL, hμ, m_atEnd_b (d + 17) hL (m_isMoored_no (d + 17) hL hb.1 hno)]
end O53
