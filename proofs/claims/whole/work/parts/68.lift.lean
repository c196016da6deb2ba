/-! ===== OPERATION: lift ===== -/
section O68
variable {σ σ' : Mm} {c a : Nat} {E S L B G H Q : Nat → Nat} {Z : Nat → List Nat} {w : Bool} {μ μ' : Ms} (d : Nat)
def lfF (μ : Ms) (k l : Nat) : Nat := if aT μ k = lA μ l then lB μ l else lA μ l
def lfG (μ : Ms) (k l : Nat) : Int32 := gnd (μ.2 19 k) (wdN μ l (aT μ k))
def lfB (μ : Ms) (k l : Nat) : Int32 := gnd (μ.2 19 k) (-wdN μ l (aT μ k))
def lfM (μ : Ms) (k l : Nat) : Int32 := dvu (μ.2 10 l * 60) (lfG μ k l)
def lf0 (μ : Ms) (k l : Nat) : Int32 := dvu (μ.2 10 l * 60) (gnd (μ.2 19 k) 0)
def lfX (μ : Ms) (k l : Nat) : Int32 := if 0 < lfM μ k l - lf0 μ k l then lfM μ k l - lf0 μ k l else 0
/-- the state behind a lift -/
def lfS (μ : Ms) (k l : Nat) : Ms := lvS (lsN (ntS μ (wgt μ k) (cbs μ (nI k) (nG μ))) (nI k) 5 (lfX μ k l) (nG μ)) k (aT μ k) (lfF μ k l) (lfM μ k l) (lfG μ k l) (lfB μ k l)
theorem lf_C (hR : RC σ c E S L B G H Q Z w μ) (hX : Kx σ) (hW : Wf μ) {k l : Nat} (hk : k < nB μ) (hl : l < nL μ) (h0 : μ.2 24 k = 0) (hr : ¬ 0 < μ.2 30 k) (x7 : Int32) : ∃ σ', run (d + 5) 74 91 [.ref c, .int (nI k), .int (nI l), .ref (B k), .ref (L l), .int (wdN μ l (aT μ k)), .int (lfM μ k l), .int x7] [] σ = some (some (.int (lfM μ k l)), σ') ∧ Spq [3, 7, 10, 20, 45, 50, 55] σ c E S L B G H Q Z w σ' (lfS μ k l) ∧ Wf (lfS μ k l) := by
  have hC := hW.1
  have hb := hC.b
  have hs12 := hC.s.2
  obtain ⟨hF, hz, hRX, hRS, hRL, hRB, hRP, hRG, hRF, hRT, hRK, hRR, hRN⟩ := id hR
  have w1 := hW.2.2.1 l hl
  have i4 : ix (nI k) 6 = true := ix_of (by omega) (by omega); have ck := cl6 (show k < 6 by omega); have j1 := is_ix hk (show nB μ ≤ 1000 by omega); obtain ⟨a0, a1, a2, a3, a4, a5, a6, a7, a8, a9, a10, a11, a12, a13, a14, a15⟩ := (hRB k hk).1; have hh := (hRB k hk).2; obtain ⟨u0, u1, u2, u3, u4, u5, u6, u7⟩ := (hRB k hk).2; obtain ⟨b0, b1, b2, b3, b4, b5, b6, b7, b8, b9, b10, b11, b12⟩ := hW.2.2.2.1.1 k hk; have hS := hRS _ b0.2; have i5 : ix (nI (aT μ k)) 12 = true := ix_of (by omega) (by omega); have ca := cl12 (show aT μ k < 12 by omega)
  have ew := c_weight (d + 4) hRB hRP hk
  have ecg : mI σ 3 (B k) 6 = cbs μ (nI k) (nG μ) := Cg_cbs (hRP k hk).1 hC
  obtain ⟨σ1, r1, p1⟩ := c_note (d + 4) hR hX hC (wgt μ k) (cbs μ (nI k) (nG μ))
  have hW1 := Wf_ntS (wv := wgt μ k) hW (cbs_31 hC (nI k))
  have n1 : ∀ g, g ≠ 56 → (ntS μ (wgt μ k) (cbs μ (nI k) (nG μ))).1 g = μ.1 g := fun g h => ntS_1 h
  have n2 : ∀ f, f < 57 ∨ 59 < f → (ntS μ (wgt μ k) (cbs μ (nI k) (nG μ))).2 f = μ.2 f := fun f h => ntS_2 h
  unfold lfS
  generalize ntS μ (wgt μ k) (cbs μ (nI k) (nG μ)) = μ1 at p1 hW1 n1 n2 ⊢
  obtain ⟨hR1, s1, hX1, x1, y1⟩ := id p1
  have eB1 : nB μ1 = nB μ := by unfold nB; rw [n1 _ (by decide)]
  have eL1 : nL μ1 = nL μ := by unfold nL; rw [n1 _ (by decide)]
  have eS1 : nS μ1 = nS μ := by unfold nS; rw [n1 _ (by decide)]
  have eG1 : nG μ1 = nG μ := by unfold nG; rw [n1 _ (by decide)]
  have hk1 : k < nB μ1 := by omega
  have hl1 : l < nL μ1 := by omega
  have B1 := hR1.2.2.2.2.2.1 k hk1
  have L1 := hR1.2.2.2.2.1 l hl1
  have eg0 := c_ground (σ := σ1) (d + 4) B1.2 0
  rw [n2 19 (by omega)] at eg0
  have eq0 := c_minutesAt (d + 3) hR1.2.2.2.2.1 hl1 (gnd_pos (μ.2 19 k) 0)
  rw [n2 10 (by omega)] at eq0
  obtain ⟨σ2, r2, p2⟩ := c_charge (d + 1) (y := 5) (lfX μ k l) hR1 hX1 hW1.1 hk1 (by decide)
  have hW2 := Wf_lsN hW1 (nI k) (y := 5) (by decide) (lfX μ k l) (nG μ) (by omega)
  rw [eG1] at p2
  have m1 : (lsN μ1 (nI k) 5 (lfX μ k l) (nG μ)).1 = μ1.1 := lsN_1 _ _ _ _
  have m2 : ∀ f, f ≠ 68 → (lsN μ1 (nI k) 5 (lfX μ k l) (nG μ)).2 f = μ1.2 f := fun f hf => lsN_2 _ _ _ hf _
  generalize lsN μ1 (nI k) 5 (lfX μ k l) (nG μ) = μ2 at p2 hW2 m1 m2 ⊢
  obtain ⟨hR2, s2, hX2, x2, y2⟩ := id p2
  have eB2 : nB μ2 = nB μ := by rw [← eB1]; unfold nB; rw [m1]
  have eL2 : nL μ2 = nL μ := by rw [← eL1]; unfold nL; rw [m1]
  have eS2 : nS μ2 = nS μ := by rw [← eS1]; unfold nS; rw [m1]
  have hk2 : k < nB μ2 := by omega
  have hl2 : l < nL μ2 := by omega
  have q2 : ∀ f, f < 57 → μ2.2 f = μ.2 f := fun f hf => by rw [m2 f (by omega), n2 f (by omega)]
  have eA2 : aT μ2 k = aT μ k := by unfold aT; rw [q2 25 (by omega)]
  have eLA : lA μ2 l = lA μ l := by unfold lA; rw [q2 8 (by omega)]
  have eLB : lB μ2 l = lB μ l := by unfold lB; rw [q2 9 (by omega)]
  obtain ⟨f0, f1, f2, f3, f4, f5, f6, f7, f8, f9, f10, f11, f12, f13, f14, f15⟩ := (hR2.2.2.2.2.2.1 k hk2).1
  obtain ⟨v0, v1, v2, v3, v4, v5, v6, v7⟩ := (hR2.2.2.2.2.2.1 k hk2).2
  obtain ⟨g0, g1, g2, g3, g4⟩ := hR2.2.2.2.2.1 l hl2
  rw [eA2] at f4
  rw [q2 19 (by omega)] at v3
  rw [q2 10 (by omega)] at g4
  rw [eLA] at g2
  rw [eLB] at g3
  have hSs := (hR2.2.2.2.1 (aT μ k) (by rw [eS2]; exact b0.2)).1
  have r3 := c_leave (σ := σ2) (mo := mI σ2 10 (S (aT μ k)) 5 - 1) (wd := wdN μ l (aT μ k)) (d + 2) f0 g0 v0 f2 f4 g2 g3 g4 v3
  have efar : (if S (aT μ k) = S (lA μ l) then S (lB μ l) else S (lA μ l)) = S (lfF μ k l) := by
    unfold lfF
    by_cases z : aT μ k = lA μ l
    · rw [if_pos z, if_pos (by rw [z])]
    · rw [if_neg z, if_neg (fun y => z (hRS.inj hC b0.2 w1.2.1 y))]
  rw [efar] at r3
  have hfar : lfF μ k l < nS μ := by
    unfold lfF
    split
    · exact w1.2.2.2.1
    · exact w1.2.1
  have hlv := lvS_Lv (μ := μ2) k (aT μ k) (lfF μ k l) (lfM μ k l) (lfG μ k l) (lfB μ k l)
  have p3 := RC_lv hlv hR2 hX2 hW2 hk2 (by rw [q2 24 (by omega)]; exact h0) (by rw [q2 25 (by omega)]; exact b0.1) (by rw [eS2]; exact b0.2) (by rw [eS2]; exact hfar)
  have hW3 := Wf_lv hlv hW2 hk2 (by rw [q2 24 (by omega)]; exact h0) (by rw [q2 25 (by omega)]; exact b0.1) (by rw [eS2]; exact b0.2) (by rw [eS2]; exact hfar) (gnd_pos _ _) (by rw [q2 30 (by omega)]; exact hr)
  refine ⟨_, ?_, (p1.mono (by decide)).trans ((p2.mono (by decide)).trans (p3.mono (by decide))), hW3⟩
  have ex : (if 0 < lfM μ k l - dvu (μ.2 10 l * 60) (gnd (μ.2 19 k) 0) then lfM μ k l - dvu (μ.2 10 l * 60) (gnd (μ.2 19 k) 0) else 0) = lfX μ k l := rfl
  have r2' : runc (d + 4) 107 [.ref c, .ref (B k), .int 5, .int (lfX μ k l)] σ1 = some (none, σ2) := r2
  have r3' : runc (d + 4) 6 [.ref (B k), .ref (L l), .int (wdN μ l (aT μ k))] (sI σ2 10 (S (aT μ k)) 5 (mI σ2 10 (S (aT μ k)) 5 - 1)) = some (none, lvM σ2 (S (aT μ k)) (mI σ2 10 (S (aT μ k)) 5 - 1) (B k) (S (lfF μ k l)) (lfM μ k l) (lfG μ k l) (lfB μ k l)) := r3
  simp [psh_some, psh_none, -Int32.not_lt, -Int32.not_le, va_rf, vd, vr, isR_r, isR_n, isA_r, isI_i, isI_r, isR_i, ar, akI, akZ, akB, akO, mI_sI, mP_sI, mK_sI, mN_sI, mX_sI, mP_sP, mI_sP, mK_sP, mN_sP, mX_sP, e_C_lift_91, e_C_lift_99, e_C_lift_106, e_C_lift_122, e_C_lift_125, e_C_lift_132, e_C_lift_145, e_C_lift_153, fK_1 hF, fK_2 hF, fK_3 hF, fK_4 hF, fK_5 hF, fK_6 hF, fN_6 hF, fK_7 hF, fN_7 hF, fK_8 hF, fN_8 hF, fK_9 hF, fN_9 hF, fK_10 hF, fK_11 hF, fN_11 hF, fK_12 hF, fK_13 hF, fN_13 hF, fK_14 hF, fN_14 hF, fK_15 hF, fN_15 hF, fK_16 hF, fN_16 hF, fP_12_0 hF, fP_12_1 hF, fP_12_2 hF, fP_12_3 hF, fP_12_4 hF, fP_12_5 hF, fP_12_6 hF, fP_12_7 hF, fP_4_0 hF, fP_4_1 hF, fP_4_2 hF, fP_4_3 hF, fP_11_0 hF, fP_7_0 hF, fP_7_1 hF, fP_7_2 hF, hF.cc, a0, ew, ecg, r1, B1.1.1, B1.1.2.2.1, B1.2.1, L1.1, eg0, eq0, hR1.1.cc, ex, r2', f0, f2, f4, hSs, r3']
theorem nt_fA {k : Nat} {v wv cv : Int32} : ntS (fA μ 29 k v) wv cv = fA (ntS μ wv cv) 29 k v := by
  unfold ntS
  have e : nK (fA μ 29 k v) = nK μ := rfl
  rw [e]
  by_cases h : nK μ < 200
  · rw [if_pos h, if_pos h, fA_comm (f := 29) (g := 57) (by decide), fA_comm (f := 29) (g := 58) (by decide), fA_comm (f := 29) (g := 59) (by decide)]
    rfl
  · rw [if_neg h, if_neg h]
theorem nt_ls (x : Int32) (y : Nat) (m : Int32) (n : Nat) {wv cv : Int32} : ntS (lsN μ x y m n) wv cv = lsN (ntS μ wv cv) x y m n := by
  unfold ntS
  have e : nK (lsN μ x y m n) = nK μ := by unfold nK; rw [lsN_1]
  rw [e]
  by_cases h : nK μ < 200
  · rw [if_pos h, if_pos h, lsN_fF, lsN_fA (by decide), lsN_fA (by decide), lsN_fA (by decide)]
  · rw [if_neg h, if_neg h]
theorem lf_M (hL : LM σ a) (hW : Wf μ) {k l : Nat} (hk : k < nB μ) (hl : l < nL μ) (u8 : Value) : run (d + 5) 162 193 [.ref a, .int (nI k), .int (nI l), .int (nI (aT μ k)), .int (kno μ 1 (nI l) (μ.1 1 / 1440) (nF μ) 0), .int (lfG μ k l), .int (lfM μ k l), u8, u8] [] (put σ a μ) = some (some (.int (lfM μ k l)), put σ a (lfS μ k l)) := by
  have hC := hW.1
  have hb := hC.b
  have hl30 := hC.l
  have hs12 := hC.s.2
  have w1 := hW.2.2.1 l hl
  have i1 : ix (nI k) 6 = true := ix_of (by omega) (by omega)
  have ck := cl6 (show k < 6 by omega)
  have i2 : ix (nI l) 30 = true := ix_of (by omega) (by omega)
  have cl := cl30 (show l < 30 by omega)
  obtain ⟨b0, -, -, ⟨sp, sp1, sp2, sp3⟩, -⟩ := hW.2.2.2.1.1 k hk
  obtain ⟨m, m1, m2, m3⟩ := w1.2.2.2.2.2
  obtain ⟨g, g1, g2, g3⟩ := gnd_N sp1 sp2 (wdN_wd hW.2.2.2.2.2.1 l (aT μ k))
  obtain ⟨q, q1, q2, q3⟩ := mins_N m1 m2 g1 g2
  obtain ⟨q0, p1, p2, p3⟩ := mins_N m1 m2 (show 20 ≤ sp by omega) (show sp ≤ 260 by omega)
  have eg0 : gnd (μ.2 19 k) 0 = μ.2 19 k := by
    unfold gnd
    rw [add_zero', sp3, if_pos (show (20 : Int32) ≤ nI sp from nI_le (a := 20) (by omega) (by omega))]
  have eM : lfM μ k l = nI q := by unfold lfM lfG; rw [m3, sp3, g3, q3]
  have e0 : lf0 μ k l = nI q0 := by unfold lf0; rw [eg0, m3, sp3, p3]
  have esp : ¬ μ.2 19 k = 0 := by
    rw [sp3]
    intro z
    have : nI sp = nI 0 := z
    rw [nI_eq (by omega) (by omega)] at this
    omega
  have eup := m_up (d + 4) (60 * μ.2 10 l) (μ.2 19 k) esp
  have est : dvu (60 * μ.2 10 l) (μ.2 19 k) = lf0 μ k l := by unfold lf0; rw [mul60, eg0]
  have eX : lfX μ k l = if lfM μ k l ≤ lf0 μ k l then 0 else lfM μ k l - lf0 μ k l := by
    unfold lfX
    rw [eM, e0]
    exact late_eq (by omega) (by omega)
  -- up to the log
  have st1 : run (d + 5) 162 193 [.ref a, .int (nI k), .int (nI l), .int (nI (aT μ k)), .int (kno μ 1 (nI l) (μ.1 1 / 1440) (nF μ) 0), .int (lfG μ k l), .int (lfM μ k l), u8, u8] [] (put σ a μ) = run (d + 5) 162 238 [.ref a, .int (nI k), .int (nI l), .int (nI (aT μ k)), .int (kno μ 1 (nI l) (μ.1 1 / 1440) (nF μ) 0), .int (lfG μ k l), .int (lfM μ k l), .int (lf0 μ k l), u8] [] (put σ a (lsN (fA μ 29 k (-1)) (nI k) 5 (lfX μ k l) (nG μ))) := by
    by_cases z : lfM μ k l ≤ lf0 μ k l
    · rw [eX, if_pos z, lsN_0]
      simp [psh_some, psh_none, -Int32.not_lt, -Int32.not_le, q_M_lift_193, q_M_lift_200, q_M_lift_218, hL, i1, ck, i2, cl, fA_2, eup, est, z]
    · rw [eX, if_neg z]
      have els := m_loses (μ := fA μ 29 k (-1)) (σ := σ) (d + 4) hL hC (nI k) (lfM μ k l - lf0 μ k l) (y := 5) (by decide)
      rw [show nI 5 = (5 : Int32) from rfl, show nG (fA μ 29 k (-1)) = nG μ from rfl] at els
      simp [psh_some, psh_none, -Int32.not_lt, -Int32.not_le, q_M_lift_193, q_M_lift_200, q_M_lift_218, q_M_lift_227, hL, i1, ck, i2, cl, fA_2, eup, est, z, els]
  rw [st1]
  have hC1 : ∀ ν : Ms, ν.1 = μ.1 → Cn ν := fun ν h => by
    unfold Cn nS nL nF nB nG nK nT nR nW
    rw [h]
    exact hC
  have hC2 : Cn (lsN (fA μ 29 k (-1)) (nI k) 5 (lfX μ k l) (nG μ)) := hC1 _ (lsN_1 (μ := fA μ 29 k (-1)) (nI k) 5 (lfX μ k l) (nG μ))
  obtain ⟨u8', lg⟩ := m_log (σ := σ) (d + 3) hL hC2 (show k < 6 by omega) (nI l) (nI (aT μ k)) (kno μ 1 (nI l) (μ.1 1 / 1440) (nF μ) 0) (lfG μ k l) (lfM μ k l) (lf0 μ k l) u8
  have o2 : ∀ f, f ≠ 68 → f ≠ 29 → (lsN (fA μ 29 k (-1)) (nI k) 5 (lfX μ k l) (nG μ)).2 f = μ.2 f := fun f h1 h2 => by rw [lsN_2 _ _ _ h1, fA_2n _ h2]
  have eG : nG (lsN (fA μ 29 k (-1)) (nI k) 5 (lfX μ k l) (nG μ)) = nG μ := lsN_nG _ _ _ _
  have ewg : wgt (lsN (fA μ 29 k (-1)) (nI k) 5 (lfX μ k l) (nG μ)) k = wgt μ k := by
    unfold wgt
    rw [eG, o2 17 (by decide) (by decide), o2 27 (by decide) (by decide), pd1_eq (o2 64 (by decide) (by decide)) (o2 66 (by decide) (by decide)) (o2 62 (by decide) (by decide))]
  have ecb : ∀ j, cbs (lsN (fA μ 29 k (-1)) (nI k) 5 (lfX μ k l) (nG μ)) (nI k) j = cbs μ (nI k) j := by
    intro j
    induction j with
    | zero => rfl
    | succ j ih => rw [cbs, cbs, ih, o2 64 (by decide) (by decide), o2 66 (by decide) (by decide)]
  rw [eG, ewg, ecb] at lg
  have est2 : ntS (lsN (fA μ 29 k (-1)) (nI k) 5 (lfX μ k l) (nG μ)) (wgt μ k) (cbs μ (nI k) (nG μ)) = fA (lsN (ntS μ (wgt μ k) (cbs μ (nI k) (nG μ))) (nI k) 5 (lfX μ k l) (nG μ)) 29 k (-1) := by
    rw [nt_ls, nt_fA, lsN_fA (by decide)]
  rw [est2] at lg
  rw [lg]
  unfold lfS lvS
  have n2 : ∀ f, f < 57 → f ≠ 29 → (fA (lsN (ntS μ (wgt μ k) (cbs μ (nI k) (nG μ))) (nI k) 5 (lfX μ k l) (nG μ)) 29 k (-1)).2 f = μ.2 f := fun f h1 h2 => by
    rw [fA_2n _ h2, lsN_2 _ _ _ (by omega), ntS_2 (by omega)]
  generalize fA (lsN (ntS μ (wgt μ k) (cbs μ (nI k) (nG μ))) (nI k) 5 (lfX μ k l) (nG μ)) 29 k (-1) = μ3 at n2 ⊢
  have k8 := n2 8 (by decide) (by decide)
  have k9 := n2 9 (by decide) (by decide)
  have k19 := n2 19 (by decide) (by decide)
  have eg := fun (ν : Ms) (x : Int32) => m_going (μ := ν) (σ := σ) (d + 4) hL (show k < 6 by omega) (show l < 30 by omega) x (kno μ 1 (nI l) (μ.1 1 / 1440) (nF μ) 0)
  have eb := wd_MB hC hW.2.2.1 hl b0.2
  by_cases z : μ.2 8 l = nI (aT μ k)
  · have ef : μ.2 9 l = nI (lfF μ k l) := by
      unfold lfF
      rw [w1.1, nI_eq (by omega) (by omega)] at z
      rw [if_pos z.symm]
      exact w1.2.2.1
    rw [if_pos z] at eb
    have eb2 : gnd (μ.2 19 k) (if nI (aT μ k) = nI (lfF μ k l) then kno μ 1 (nI l) (μ.1 1 / 1440) (nF μ) 0 else -kno μ 1 (nI l) (μ.1 1 / 1440) (nF μ) 0) = lfB μ k l := by
      unfold lfB
      rw [← eb, z, ef]
    simp [psh_some, psh_none, -Int32.not_lt, -Int32.not_le, q_M_lift_348, q_M_lift_358, q_M_lift_373, q_M_lift_382, q_M_lift_390, q_M_lift_397, q_M_lift_404, q_M_lift_412, q_M_lift_420, q_M_lift_435, q_M_lift_436, q_M_lift_443, hL, i1, ck, i2, cl, fA_2, k8, k9, k19, z, ef, eg, eb2]
  · have ef : μ.2 8 l = nI (lfF μ k l) := by
      unfold lfF
      rw [w1.1, nI_eq (by omega) (by omega)] at z
      rw [if_neg (fun y => z y.symm)]
      exact w1.1
    rw [if_neg z, if_pos rfl] at eb
    have eb2 : gnd (μ.2 19 k) (kno μ 1 (nI l) (μ.1 1 / 1440) (nF μ) 0) = lfB μ k l := by
      unfold lfB
      rw [← eb]
    have z' : ¬ nI (lfF μ k l) = nI (aT μ k) := by rw [← ef]; exact z
    simp [psh_some, psh_none, -Int32.not_lt, -Int32.not_le, q_M_lift_348, q_M_lift_367, q_M_lift_373, q_M_lift_382, q_M_lift_390, q_M_lift_397, q_M_lift_404, q_M_lift_412, q_M_lift_420, q_M_lift_435, q_M_lift_436, q_M_lift_443, hL, i1, ck, i2, cl, fA_2, k8, k9, k19, z', ef, eg, eb2]
theorem lf_at (hW : Wf μ) {k l : Nat} (hk : k < nB μ) (hl : l < nL μ) (h0 : μ.2 24 k = 0) : (μ.2 24 k = 0 ∧ (μ.2 8 l = μ.2 25 k ∨ μ.2 9 l = μ.2 25 k)) ↔ (aT μ k = lA μ l ∨ aT μ k = lB μ l) := by
  have hC := hW.1
  have hs12 := hC.s.2
  have w1 := hW.2.2.1 l hl
  have b0 := (hW.2.2.2.1.1 k hk).1
  rw [w1.1, w1.2.2.1, b0.1, nI_eq (by omega) (by omega), nI_eq (by have := w1.2.2.2.1; omega) (by omega)]
  constructor
  · rintro ⟨-, h | h⟩
    · exact Or.inl h.symm
    · exact Or.inr h.symm
  · rintro (h | h)
    · exact ⟨h0, Or.inl h.symm⟩
    · exact ⟨h0, Or.inr h.symm⟩
theorem lf_pre (hR : RC σ c E S L B G H Q Z w μ) (hX : Kx σ) (hW : Wf μ) {k l : Nat} (hk : k < nB μ) (hl : l < nL μ) (h0 : μ.2 24 k = 0) (ht : aT μ k = lA μ l ∨ aT μ k = lB μ l) : runc (d + 20) 74 [.ref c, .int (nI k), .int (nI l)] σ = if rfu μ k (lfM μ k l) = -1 then run (d + 20) 74 91 [.ref c, .int (nI k), .int (nI l), .ref (B k), .ref (L l), .int (wdN μ l (aT μ k)), .int (lfM μ k l), .int (rfu μ k (lfM μ k l))] [] (wW σ c μ k) else run (d + 20) 74 79 [.ref c, .int (nI k), .int (nI l), .ref (B k), .ref (L l), .int (wdN μ l (aT μ k)), .int (lfM μ k l), .int (rfu μ k (lfM μ k l))] [] (wW σ c μ k) := by
  have hC := hW.1
  have hb := hC.b
  have hl30 := hC.l
  have hs12 := hC.s.2
  obtain ⟨hF, hz, hRX, hRS, hRL, hRB, hRP, hRG, hRF, hRT, hRK, hRR, hRN⟩ := id hR
  have em := c_moored (d + 15) hF hRX hC hRB hk
  rw [if_pos h0] at em
  have i4 : ix (nI k) 6 = true := ix_of (by omega) (by omega); have ck := cl6 (show k < 6 by omega); have j1 := is_ix hk (show nB μ ≤ 1000 by omega); obtain ⟨a0, a1, a2, a3, a4, a5, a6, a7, a8, a9, a10, a11, a12, a13, a14, a15⟩ := (hRB k hk).1; have hh := (hRB k hk).2; obtain ⟨u0, u1, u2, u3, u4, u5, u6, u7⟩ := (hRB k hk).2; obtain ⟨b0, b1, b2, b3, b4, b5, b6, b7, b8, b9, b10, b11, b12⟩ := hW.2.2.2.1.1 k hk; have hS := hRS _ b0.2; have i5 : ix (nI (aT μ k)) 12 = true := ix_of (by omega) (by omega); have ca := cl12 (show aT μ k < 12 by omega)
  have eL := c_legAt (d + 16) hF hRX hC hl (hRL l hl).1
  have w1 := hW.2.2.1 l hl
  have kL := (hRL l hl).1
  have et := c_touches (d + 19) hRS hC hRL hl b0.2 w1.2.1 w1.2.2.2.1
  have ew := c_windNow (d + 17) hF hC hRF hW.2.2.2.2.2.1 hRS hRL hRN b0.2 hl w1.2.1
  have eg : runc (d + 19) 16 [.ref (H k), .int (wdN μ l (aT μ k))] σ = some (some (.int (lfG μ k l)), σ) := c_ground (σ := σ) (d + 19) hh _
  have eq1 : runc (d + 19) 22 [.ref (L l), .int (lfG μ k l)] σ = some (some (.int (lfM μ k l)), σ) := c_minutesAt (d + 18) hRL hl (gnd_pos (μ.2 19 k) (wdN μ l (aT μ k)))
  have er := c_refusal (d + 15) hR hX hW hk (lfM μ k l)
  generalize wW σ c μ k = σ0 at er ⊢
  generalize rfu μ k (lfM μ k l) = rf at er ⊢
  generalize lfM μ k l = M at eq1 er ⊢
  simp [psh_some, psh_none, -Int32.not_lt, -Int32.not_le, va_rf, vd, vr, isR_r, isR_n, isA_r, isI_i, isI_r, isR_i, ar, akI, akZ, akB, akO, mI_sI, mP_sI, mK_sI, mN_sI, mX_sI, mP_sP, mI_sP, mK_sP, mN_sP, mX_sP, rc_C_lift, e_C_lift_0, e_C_lift_5, e_C_lift_11, e_C_lift_17, e_C_lift_22, e_C_lift_31, e_C_lift_36, e_C_lift_46, e_C_lift_59, e_C_lift_62, e_C_lift_71, fK_1 hF, fK_2 hF, fK_3 hF, fK_4 hF, fK_5 hF, fK_6 hF, fN_6 hF, fK_7 hF, fN_7 hF, fK_8 hF, fN_8 hF, fK_9 hF, fN_9 hF, fK_10 hF, fK_11 hF, fN_11 hF, fK_12 hF, fK_13 hF, fN_13 hF, fK_14 hF, fN_14 hF, fK_15 hF, fN_15 hF, fK_16 hF, fN_16 hF, fP_12_0 hF, fP_12_1 hF, fP_12_2 hF, fP_12_3 hF, fP_12_4 hF, fP_12_5 hF, fP_12_6 hF, fP_12_7 hF, fP_4_0 hF, fP_4_1 hF, fP_4_2 hF, fP_4_3 hF, fP_11_0 hF, fP_7_0 hF, fP_7_1 hF, fP_7_2 hF, hF.cc, em, eL, a0, a2, a4, u0, kL, et, bZ_t ht, ew, eg, eq1, er]
theorem lf_preM {μ0 : Ms} (hL : LM σ a) (hW : Wf μ) (hμ : fF μ0 0 0 = μ) {k l : Nat} (hk : k < nB μ) (hl : l < nL μ) (h0 : μ.2 24 k = 0) (ht : aT μ k = lA μ l ∨ aT μ k = lB μ l) : runc (d + 20) 162 [.ref a, .int (nI k), .int (nI l)] (put σ a μ0) = run (d + 20) 162 67 [.ref a, .int (nI k), .int (nI l), .int (nI (aT μ k)), .int (kno μ 1 (nI l) (μ.1 1 / 1440) (nF μ) 0), .int (lfG μ k l), uu, uu, uu] [.int (lfM μ k l)] (put σ a μ) := by
  have hC := hW.1
  have hb := hC.b
  have hl30 := hC.l
  have b0 := (hW.2.2.2.1.1 k hk).1
  have i4 : ix (nI k) 6 = true := ix_of (by omega) (by omega)
  have ck := cl6 (show k < 6 by omega)
  have i6 : ix (nI l) 30 = true := ix_of (by omega) (by omega)
  have ea := m_atEnd (σ := σ) (d + 17) hL hC hk hl
  rw [bZ_t ((lf_at hW hk hl h0).mpr ht)] at ea
  have ewd := m_windAt (μ := μ) (σ := σ) (d + 18) hL hC.f.2 (nI l) (μ.1 1 / 1440)
  have eg1 := m_going (μ := μ) (σ := σ) (d + 19) hL (show k < 6 by omega) (show l < 30 by omega) (nI (aT μ k)) (kno μ 1 (nI l) (μ.1 1 / 1440) (nF μ) 0)
  rw [wd_M hC hW.2.2.1 hl b0.2] at eg1
  have eg1' : runc (d + 19) 139 [.ref a, .int (nI k), .int (nI l), .int (nI (aT μ k)), .int (kno μ 1 (nI l) (μ.1 1 / 1440) (nF μ) 0)] (put σ a μ) = some (some (.int (lfG μ k l)), put σ a μ) := eg1
  have eup : runc (d + 19) 116 [.int (60 * μ.2 10 l), .int (lfG μ k l)] (put σ a μ) = some (some (.int (lfM μ k l)), put σ a μ) := by
    rw [m_up (d + 19) (60 * μ.2 10 l) (lfG μ k l) (show ¬ lfG μ k l = 0 from gnd_ne _ _), mul60]
    rfl
  generalize lfM μ k l = M at eup ⊢
  generalize lfG μ k l = g at eup eg1' ⊢
  simp [psh_some, psh_none, -Int32.not_lt, -Int32.not_le, rc_M_lift, q_M_lift_0, q_M_lift_5, q_M_lift_11, q_M_lift_16, q_M_lift_40, q_M_lift_51, hL, hμ, ea, hC.f.1, ewd, i4, i6, ck, cl30 (show l < 30 by omega), b0.1, eg1', eup]
theorem lf_ref (hR : RC σ c E S L B G H Q Z w μ) (hX : Kx σ) (hW : Wf μ) {k : Nat} (hk : k < nB μ) {r : Int32} (hr : r = -1 ∨ ∃ y, y < 5 ∧ r = nI y) : Spq [3] σ c E S L B G H Q Z w (sI σ 3 (B k) 9 r) (fA μ 29 k r) ∧ Wf (fA μ 29 k r) := by
  have hC := hW.1
  obtain ⟨hF, hz, hRX, hRS, hRL, hRB, hRP, hRG, hRF, hRT, hRK, hRR, hRN⟩ := id hR
  obtain ⟨a0, a1, a2, a3, a4, a5, a6, a7, a8, a9, a10, a11, a12, a13, a14, a15⟩ := (hRB k hk).1
  have hs : Sm (tk [3]) σ (sI σ 3 (B k) 9 r) := SmsI (Sm.rfl' σ) rfl _ _ _
  refine ⟨⟨⟨hF.fr hX hs (by rintro q (rfl | rfl | rfl | rfl | rfl) <;> rfl), hz.fr hs rfl, hRX.fr hz hX hs rfl rfl rfl rfl rfl rfl rfl, hRS.fr hX hs rfl rfl rfl rfl rfl rfl rfl rfl rfl, hRL.fr hX hs rfl rfl rfl rfl rfl, ?_, RP_eq hRP (fun q => by simp [mI_sI]) (fun q => by simp [mI_sI]) rfl rfl (Ar_of (by repeat' constructor)), hRG.fr hX hs rfl rfl rfl (Ar_of (by repeat' constructor)), hRF.fr hF hX hs rfl rfl rfl rfl rfl rfl (Ar_of (by repeat' constructor)), hRT.fr hF hX hs rfl rfl rfl rfl, hRK.fr hF hX hs rfl rfl rfl rfl rfl (Ar_of (by repeat' constructor)), hRR.fr hF hX hs rfl (by rintro q (rfl | rfl | rfl | rfl | rfl | rfl | rfl | rfl) <;> rfl) rfl (Ar_of (by repeat' constructor)), hRN.fr hF hX hs rfl rfl rfl rfl rfl rfl⟩, hs, hX, rfl, rfl⟩, ?_⟩
  · refine RB_upd hRB hC hk rfl (fun j hj f => by simp [mI_sI, hj]) (fun j hj f => rfl) (fun q f => by simp [mI_sI]) rfl rfl (fun f _ _ j hj => by simp [fA_2, hj]) (fun f h1 h2 => by rw [fA_2n _ (by omega)]) ?_
    simp +contextual [RB1, aT, wH, mI_sI, mP_sI, mK_sI, fA_2, fA_1, a0, a1, a2, a3, a4, a5, a6, a7, a8, a9, a10, a11, a12, a13, a14, a15]
  · refine ⟨hC, WS_eq hW.2.1 rfl (Ar_of (by repeat' constructor)) (fun s hs => rfl), hW.2.2.1, WB_upd hW.2.2.2.1 hk rfl rfl (fun f _ _ j hj => by simp [fA_2, hj]) ?_, WG_eq hW.2.2.2.2.1 rfl rfl rfl (Ar_of (by repeat' constructor)), hW.2.2.2.2.2.1, hW.2.2.2.2.2.2⟩
    obtain ⟨b0, b1, b2, b3, b4, b5, b6, b7, b8, b9, b10, b11, b12⟩ := hW.2.2.2.1.1 k hk
    exact ⟨b0, b1, b2, b3, b4, b5, b6, b7, by simpa [fA_2] using hr, b9, b10, b11, b12⟩
theorem Sm_tk {ks ks' : List Nat} {σ σ' : Mm} (h : Sm (tk ks) σ σ') (hk : ∀ k ∈ ks, k ∈ ks') : Sm (tk ks') σ σ' := h.mono (fun q hq => by
  simp only [tk, decide_eq_false_iff_not] at hq ⊢
  exact fun z => hq (hk q z))
theorem ok_lift (x y : Int32) : Ok 74 162 [.int x, .int y] := by
  refine Ok_of fun d σ c a E S L B G H Q Z w μ hR hLM hX hW => ?_
  have hC := hW.1
  obtain ⟨hF, hz, hRX, hRS, hRL, hRB, hRP, hRG, hRF, hRT, hRK, hRR, hRN⟩ := id hR
  have hb := hC.b
  have hl30 := hC.l
  have hs12 := hC.s.2
  rcases nIx x (n := nB μ) (by omega) with ⟨k, hk, rfl⟩ | hno
  · have em := c_moored (d + 15) hF hRX hC hRB hk
    by_cases h0 : μ.2 24 k = 0
    · rw [if_pos h0] at em
      rcases nIx y (n := nL μ) (by omega) with ⟨l, hl, rfl⟩ | hnl
      · have i4 : ix (nI k) 6 = true := ix_of (by omega) (by omega); have ck := cl6 (show k < 6 by omega); have j1 := is_ix hk (show nB μ ≤ 1000 by omega); obtain ⟨a0, a1, a2, a3, a4, a5, a6, a7, a8, a9, a10, a11, a12, a13, a14, a15⟩ := (hRB k hk).1; have hh := (hRB k hk).2; obtain ⟨u0, u1, u2, u3, u4, u5, u6, u7⟩ := (hRB k hk).2; obtain ⟨b0, b1, b2, b3, b4, b5, b6, b7, b8, b9, b10, b11, b12⟩ := hW.2.2.2.1.1 k hk; have hS := hRS _ b0.2; have i5 : ix (nI (aT μ k)) 12 = true := ix_of (by omega) (by omega); have ca := cl12 (show aT μ k < 12 by omega)
        have eL := c_legAt (d + 16) hF hRX hC hl (hRL l hl).1
        have w1 := hW.2.2.1 l hl
        have kL := (hRL l hl).1
        have et := c_touches (d + 19) hRS hC hRL hl b0.2 w1.2.1 w1.2.2.2.1
        have et2 := lf_at hW hk hl h0
        by_cases ht : aT μ k = lA μ l ∨ aT μ k = lB μ l
        · have pre := lf_pre d hR hX hW hk hl h0 ht
          have hsW : Sm (tk [110]) σ (wW σ c μ k) := wr_Sm _ _ 8
          have hXW : Kx (wW σ c μ k) := wr_Kx hX _ _ 8
          have hRW : RC (wW σ c μ k) c E S L B G H Q Z w μ := RC_110 hR hX hsW
          have xW : mX (wW σ c μ k) = mX σ := wr_X _ _ 8
          have sW : mS (wW σ c μ k) = mS σ := wr_S _ _ 8
          generalize wW σ c μ k = σ0 at pre hsW hXW hRW xW sW
          by_cases hr : rfu μ k (lfM μ k l) = -1
          · rw [if_pos hr] at pre
            obtain ⟨σ1, r1, p1, hW1⟩ := lf_C (d + 15) hRW hXW hW hk hl h0 (rfu_rest hr) (rfu μ k (lfM μ k l))
            rw [show d + 15 + 5 = d + 20 from rfl] at r1
            have hq : Sm (tk [3, 7, 10, 20, 45, 50, 55, 110]) σ σ1 := (Sm_tk hsW (by decide)).trans (Sm_tk p1.2.1 (by decide))
            refine Res.mk [3, 7, 10, 20, 45, 50, 55, 110] (v := some (.int (lfM μ k l))) (pre.trans r1) (fun τ μ0 hμ hL => ?_) p1.1 hq (by decide) p1.2.2.1 hW1 (by have := p1.2.2.2.1; omega) (by have := p1.2.2.2.2; omega)
            rw [lf_preM d hL hW hμ hk hl h0 ht]
            have q1 := m_accept (σ := τ) (d + 15) hL hW hk (x3 := nI (aT μ k)) (x4 := kno μ 1 (nI l) (μ.1 1 / 1440) (nF μ) 0) (x5 := lfG μ k l) (l := l) rfl uu uu hr
            have q2 := lf_M (σ := τ) (d + 15) hL hW hk hl uu
            rw [show d + 15 + 5 = d + 20 from rfl] at q1 q2
            exact q1.trans q2
          · rw [if_neg hr] at pre
            obtain ⟨p1, hW1⟩ := lf_ref hRW hXW hW hk (rfu_is (μ := μ) k (lfM μ k l))
            have a0' := (hRW.2.2.2.2.2.1 k hk).1.1
            have hq : Sm (tk [3, 110]) σ (sI σ0 3 (B k) 9 (rfu μ k (lfM μ k l))) := (Sm_tk hsW (by decide)).trans (Sm_tk p1.2.1 (by decide))
            refine Res.mk [3, 110] (v := some (.int (-2 - rfu μ k (lfM μ k l)))) (pre.trans ?_) (fun τ μ0 hμ hL => ?_) p1.1 hq (by decide) p1.2.2.1 hW1 (by have := p1.2.2.2.1; omega) (by have := p1.2.2.2.2; omega)
            · generalize rfu μ k (lfM μ k l) = rf
              simp [psh_some, psh_none, -Int32.not_lt, -Int32.not_le, va_rf, vd, vr, isR_r, isR_n, isA_r, isI_i, isI_r, isR_i, ar, akI, akZ, akB, akO, mI_sI, mP_sI, mK_sI, mN_sI, mX_sI, mP_sP, mI_sP, mK_sP, mN_sP, mX_sP, e_C_lift_79, e_C_lift_85, a0']
            · rw [lf_preM d hL hW hμ hk hl h0 ht]
              have q1 := m_refuse (σ := τ) (d + 15) hL hW hk (x3 := nI (aT μ k)) (x4 := kno μ 1 (nI l) (μ.1 1 / 1440) (nF μ) 0) (x5 := lfG μ k l) (l := l) rfl uu uu hr
              rw [show d + 15 + 5 = d + 20 from rfl] at q1
              exact q1
        · refine Res.same hR hX hW (v := some (.int (-1))) ?_ (fun τ μ0 hμ hL => ?_)
          · simp [psh_some, psh_none, -Int32.not_lt, -Int32.not_le, va_rf, vd, vr, isR_r, isR_n, isA_r, isI_i, isI_r, isR_i, ar, akI, akZ, akB, akO, mI_sI, mP_sI, mK_sI, mN_sI, mX_sI, mP_sP, mI_sP, mK_sP, mN_sP, mX_sP, rc_C_lift, e_C_lift_0, e_C_lift_5, e_C_lift_11, e_C_lift_17, e_C_lift_22, e_C_lift_31, e_C_lift_34, fK_1 hF, fK_2 hF, fK_3 hF, fK_4 hF, fK_5 hF, fK_6 hF, fN_6 hF, fK_7 hF, fN_7 hF, fK_8 hF, fN_8 hF, fK_9 hF, fN_9 hF, fK_10 hF, fK_11 hF, fN_11 hF, fK_12 hF, fK_13 hF, fN_13 hF, fK_14 hF, fN_14 hF, fK_15 hF, fN_15 hF, fK_16 hF, fN_16 hF, fP_12_0 hF, fP_12_1 hF, fP_12_2 hF, fP_12_3 hF, fP_12_4 hF, fP_12_5 hF, fP_12_6 hF, fP_12_7 hF, fP_4_0 hF, fP_4_1 hF, fP_4_2 hF, fP_4_3 hF, fP_11_0 hF, fP_7_0 hF, fP_7_1 hF, fP_7_2 hF, hF.cc, em, eL, a0, a4, kL, et, bZ_f ht]
          · have ea := m_atEnd (σ := τ) (d + 17) hL hC hk hl
            rw [bZ_f (fun z => ht (et2.mp z))] at ea
            simp [psh_some, psh_none, -Int32.not_lt, -Int32.not_le, rc_M_lift, q_M_lift_0, q_M_lift_5, q_M_lift_11, q_M_lift_14, hL, hμ, ea]
      · refine Res.same hR hX hW (v := some (.int (-1))) ?_ (fun τ μ0 hμ hL => ?_)
        · simp [psh_some, psh_none, -Int32.not_lt, -Int32.not_le, va_rf, vd, vr, isR_r, isR_n, isA_r, isI_i, isI_r, isR_i, ar, akI, akZ, akB, akO, mI_sI, mP_sI, mK_sI, mN_sI, mX_sI, mP_sP, mI_sP, mK_sP, mN_sP, mX_sP, rc_C_lift, e_C_lift_0, e_C_lift_5, e_C_lift_11, e_C_lift_17, e_C_lift_34, fK_1 hF, fK_2 hF, fK_3 hF, fK_4 hF, fK_5 hF, fK_6 hF, fN_6 hF, fK_7 hF, fN_7 hF, fK_8 hF, fN_8 hF, fK_9 hF, fN_9 hF, fK_10 hF, fK_11 hF, fN_11 hF, fK_12 hF, fK_13 hF, fN_13 hF, fK_14 hF, fN_14 hF, fK_15 hF, fN_15 hF, fK_16 hF, fN_16 hF, fP_12_0 hF, fP_12_1 hF, fP_12_2 hF, fP_12_3 hF, fP_12_4 hF, fP_12_5 hF, fP_12_6 hF, fP_12_7 hF, fP_4_0 hF, fP_4_1 hF, fP_4_2 hF, fP_4_3 hF, fP_11_0 hF, fP_7_0 hF, fP_7_1 hF, fP_7_2 hF, hF.cc, em, c_legAt_no (d + 16) hF hRX hC hnl]
        · simp [psh_some, psh_none, -Int32.not_lt, -Int32.not_le, rc_M_lift, q_M_lift_0, q_M_lift_5, q_M_lift_11, q_M_lift_14, hL, hμ, m_atEnd_l (d + 17) hL hC hk hnl]
    · rw [if_neg h0] at em
      obtain ⟨v, v1, v2⟩ := c_legAt_any (d + 16) hF hRX hC hRL y
      refine Res.same hR hX hW (v := some (.int (-1))) ?_ (fun τ μ0 hμ hL => ?_)
      · simp [psh_some, psh_none, -Int32.not_lt, -Int32.not_le, va_rf, vd, vr, isR_r, isR_n, isA_r, isI_i, isI_r, isR_i, ar, akI, akZ, akB, akO, mI_sI, mP_sI, mK_sI, mN_sI, mX_sI, mP_sP, mI_sP, mK_sP, mN_sP, mX_sP, rc_C_lift, e_C_lift_0, e_C_lift_5, e_C_lift_11, e_C_lift_34, fK_1 hF, fK_2 hF, fK_3 hF, fK_4 hF, fK_5 hF, fK_6 hF, fN_6 hF, fK_7 hF, fN_7 hF, fK_8 hF, fN_8 hF, fK_9 hF, fN_9 hF, fK_10 hF, fK_11 hF, fN_11 hF, fK_12 hF, fK_13 hF, fN_13 hF, fK_14 hF, fN_14 hF, fK_15 hF, fN_15 hF, fK_16 hF, fN_16 hF, fP_12_0 hF, fP_12_1 hF, fP_12_2 hF, fP_12_3 hF, fP_12_4 hF, fP_12_5 hF, fP_12_6 hF, fP_12_7 hF, fP_4_0 hF, fP_4_1 hF, fP_4_2 hF, fP_4_3 hF, fP_11_0 hF, fP_7_0 hF, fP_7_1 hF, fP_7_2 hF, hF.cc, em, v1, v2]
      · have e := m_isMoored (d + 17) hL hb.1 hb.2 hk
        rw [bZ_f h0] at e
        simp [psh_some, psh_none, -Int32.not_lt, -Int32.not_le, rc_M_lift, q_M_lift_0, q_M_lift_5, q_M_lift_11, q_M_lift_14, hL, hμ, m_atEnd_b (d + 17) hL e]
  · obtain ⟨v, v1, v2⟩ := c_legAt_any (d + 16) hF hRX hC hRL y
    refine Res.same hR hX hW (v := some (.int (-1))) ?_ (fun τ μ0 hμ hL => ?_)
    · simp [psh_some, psh_none, -Int32.not_lt, -Int32.not_le, va_rf, vd, vr, isR_r, isR_n, isA_r, isI_i, isI_r, isR_i, ar, akI, akZ, akB, akO, mI_sI, mP_sI, mK_sI, mN_sI, mX_sI, mP_sP, mI_sP, mK_sP, mN_sP, mX_sP, rc_C_lift, e_C_lift_0, e_C_lift_5, e_C_lift_11, e_C_lift_34, fK_1 hF, fK_2 hF, fK_3 hF, fK_4 hF, fK_5 hF, fK_6 hF, fN_6 hF, fK_7 hF, fN_7 hF, fK_8 hF, fN_8 hF, fK_9 hF, fN_9 hF, fK_10 hF, fK_11 hF, fN_11 hF, fK_12 hF, fK_13 hF, fN_13 hF, fK_14 hF, fN_14 hF, fK_15 hF, fN_15 hF, fK_16 hF, fN_16 hF, fP_12_0 hF, fP_12_1 hF, fP_12_2 hF, fP_12_3 hF, fP_12_4 hF, fP_12_5 hF, fP_12_6 hF, fP_12_7 hF, fP_4_0 hF, fP_4_1 hF, fP_4_2 hF, fP_4_3 hF, fP_11_0 hF, fP_7_0 hF, fP_7_1 hF, fP_7_2 hF, hF.cc, c_moored_no (d + 15) hF hRX hC hno, v1, v2]
    · simp [psh_some, psh_none, -Int32.not_lt, -Int32.not_le, rc_M_lift, q_M_lift_0, q_M_lift_5, q_M_lift_11, q_M_lift_14, hL, hμ, m_atEnd_b (d + 17) hL (m_isMoored_no (d + 17) hL hb.1 hno)]
end O68
