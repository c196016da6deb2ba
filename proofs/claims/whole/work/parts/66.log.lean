/-! ===== A LIFT IS NOTED; STATES THAT COMMUTE ===== -/
section O66
variable {σ σ' : Mm} {c a : Nat} {E S L B G H Q : Nat → Nat} {Z : Nat → List Nat} {w : Bool} {μ μ' : Ms} (d : Nat)
theorem fA_comm {f g i j : Nat} {u v : Int32} (h : f ≠ g) : fA (fA μ f i v) g j u = fA (fA μ g j u) f i v := by
  refine Prod.ext rfl (funext fun e => funext fun q => ?_)
  rw [fA_2, fA_2, fA_2, fA_2]
  by_cases y : e = f ∧ q = i
  · have y2 : ¬ (e = g ∧ q = j) := fun z => h (y.1.symm.trans z.1)
    simp only [if_pos y, if_neg y2]
  · by_cases y2 : e = g ∧ q = j
    · simp only [if_pos y2, if_neg y]
    · simp only [if_neg y, if_neg y2]
theorem fA_fA {f i : Nat} {u v : Int32} : fA (fA μ f i v) f i u = fA μ f i u := by
  refine Prod.ext rfl (funext fun e => funext fun q => ?_)
  rw [fA_2, fA_2, fA_2]
  by_cases y : e = f ∧ q = i
  · rw [if_pos y, if_pos y]
  · rw [if_neg y, if_neg y, if_neg y]
theorem fA_id {f i : Nat} {v : Int32} (h : μ.2 f i = v) : fA μ f i v = μ := by
  refine Prod.ext rfl (funext fun e => funext fun q => ?_)
  rw [fA_2]
  by_cases y : e = f ∧ q = i
  · rw [if_pos y, y.1, y.2, h]
  · rw [if_neg y]
theorem fF_fA {f i g : Nat} {u v : Int32} : fF (fA μ f i v) g u = fA (fF μ g u) f i v := rfl
theorem lsN_fA {f i : Nat} {v : Int32} (h : f ≠ 64 ∧ f ≠ 66 ∧ f ≠ 68) (x : Int32) (y : Nat) (m : Int32) : ∀ n, lsN (fA μ f i v) x y m n = fA (lsN μ x y m n) f i v := by
  intro n
  induction n with
  | zero => rfl
  | succ n ih =>
    rw [lsN, lsN, ih, fA_2n _ (Ne.symm h.1), fA_2n _ (Ne.symm h.2.1)]
    by_cases cnd : μ.2 64 n = 1 ∧ μ.2 66 n = x
    · rw [if_pos cnd, if_pos cnd, fA_2n _ (Ne.symm h.2.2), fA_comm h.2.2]
    · rw [if_neg cnd, if_neg cnd]
theorem lsN_fF {f : Nat} {v : Int32} (x : Int32) (y : Nat) (m : Int32) : ∀ n, lsN (fF μ f v) x y m n = fF (lsN μ x y m n) f v := by
  intro n
  induction n with
  | zero => rfl
  | succ n ih =>
    rw [lsN, lsN, ih, fF_2, fF_2]
    by_cases cnd : μ.2 64 n = 1 ∧ μ.2 66 n = x
    · rw [if_pos cnd, if_pos cnd]
      rfl
    · rw [if_neg cnd, if_neg cnd]
theorem lsN_0 (x : Int32) (y : Nat) : ∀ n, lsN μ x y 0 n = μ := by
  intro n
  induction n with
  | zero => rfl
  | succ n ih =>
    rw [lsN, ih]
    by_cases cnd : μ.2 64 n = 1 ∧ μ.2 66 n = x
    · rw [if_pos cnd, fA_id (by rw [add_zero'])]
    · rw [if_neg cnd]
/-- the bags aboard of x, as bits -/
def cbs (μ : Ms) (x : Int32) : Nat → Int32
  | 0 => 0
  | j + 1 => if μ.2 64 j = 1 ∧ μ.2 66 j = x then cbs μ x j ||| 1 <<< (nI j &&& 31) else cbs μ x j
theorem cbs_bit (x : Int32) : ∀ n, n ≤ 30 → ∀ i, i < 32 → btI (cbs μ x n) i = decide (i < n ∧ μ.2 64 i = 1 ∧ μ.2 66 i = x) := by
  intro n
  induction n with
  | zero =>
    intro _ i _
    rw [cbs, b_0]
    symm
    rw [decide_eq_false_iff_not]
    omega
  | succ n ih =>
    intro hn i hi
    have h1 := ih (by omega) i hi
    rw [cbs]
    by_cases cnd : μ.2 64 n = 1 ∧ μ.2 66 n = x
    · rw [if_pos cnd, b_or, bit1 (by omega) hi, h1]
      by_cases y : i = n
      · subst y; simp [cnd]
      · have : i < n ↔ i < n + 1 := by omega
        simp [y, this]
    · rw [if_neg cnd, h1]
      by_cases y : i = n
      · subst y; simp [cnd]
      · have : i < n ↔ i < n + 1 := by omega
        simp [this]
theorem Cg_cbs {x : Int32} {k : Nat} (h : Cg x μ k) (hC : Cn μ) : x = cbs μ (nI k) (nG μ) := by
  have h30 := hC.g.2
  refine b_ext fun i hi => ?_
  rw [h i, cbs_bit (nI k) (nG μ) h30 i hi]
theorem cbs_31 (hC : Cn μ) (x : Int32) : btI (cbs μ x (nG μ)) 31 = false := by
  have h30 := hC.g.2
  rw [cbs_bit x (nG μ) h30 31 (by omega), decide_eq_false_iff_not]
  omega
/-- a lift is noted -/
def ntS (μ : Ms) (wv cv : Int32) : Ms := if nK μ < 200 then fF (fA (fA (fA μ 57 (nK μ) wv) 58 (nK μ) cv) 59 (nK μ) (-1)) 56 (nI (nK μ) + 1) else μ
theorem ntS_1 {wv cv : Int32} {g : Nat} (h : g ≠ 56) : (ntS μ wv cv).1 g = μ.1 g := by
  unfold ntS
  split
  · simp [fF_1, fA_1, h]
  · rfl
theorem ntS_2 {wv cv : Int32} {f : Nat} (h : f < 57 ∨ 59 < f) : (ntS μ wv cv).2 f = μ.2 f := by
  unfold ntS
  split
  · rw [fF_2, fA_2n _ (by omega), fA_2n _ (by omega), fA_2n _ (by omega)]
  · rfl
theorem Wf_ntS (hW : Wf μ) {wv cv : Int32} (hb : btI cv 31 = false) : Wf (ntS μ wv cv) := by
  unfold ntS
  split
  · rename_i hn
    have hC := hW.1
    have hn' : nK (fF (fA (fA (fA μ 57 (nK μ) wv) 58 (nK μ) cv) 59 (nK μ) (-1)) 56 (nI (nK μ) + 1)) = nK μ + 1 := by
      show (nI (nK μ) + 1).toNatClampNeg = _
      rw [nI_1, nI_clamp (by omega)]
    refine ⟨⟨hC.1, hC.2.1, hC.2.2.1, hC.2.2.2.1, hC.2.2.2.2.1, ?_, hC.2.2.2.2.2.2⟩, hW.2.1, hW.2.2.1, hW.2.2.2.1, hW.2.2.2.2.1, hW.2.2.2.2.2.1, hW.2.2.2.2.2.2.1, hW.2.2.2.2.2.2.2.1, fun l hl => ?_, hW.2.2.2.2.2.2.2.2.2⟩
    · rw [hn']
      refine ⟨?_, by omega⟩
      show nI (nK μ) + 1 = _
      rw [nI_1]
    · rw [hn'] at hl
      by_cases y : l = nK μ
      · have : (fF (fA (fA (fA μ 57 (nK μ) wv) 58 (nK μ) cv) 59 (nK μ) (-1)) 56 (nI (nK μ) + 1)).2 58 l = cv := by simp [fF_2, fA_2, y]
        rw [this]; exact hb
      · have : (fF (fA (fA (fA μ 57 (nK μ) wv) 58 (nK μ) cv) 59 (nK μ) (-1)) 56 (nI (nK μ) + 1)).2 58 l = μ.2 58 l := by simp [fF_2, fA_2, y]
        rw [this]; exact hW.2.2.2.2.2.2.2.2.1 l (by omega)
  · exact hW
theorem c_note (hR : RC σ c E S L B G H Q Z w μ) (hX : Kx σ) (hC : Cn μ) (wv cv : Int32) : ∃ σ', runc d 24 [.ref (c + 12), .int wv, .int cv] σ = some (none, σ') ∧ Spq [7, 45, 50, 55] σ c E S L B G H Q Z w σ' (ntS μ wv cv) := by
  obtain ⟨hF, hz, hRX, hRS, hRL, hRB, hRP, hRG, hRF, hRT, hRK, hRR, hRN⟩ := id hR
  have hk := hC.k
  unfold ntS
  by_cases hn : nK μ < 200
  · rw [if_pos hn]
    have z : nI (nK μ) < 200 := nI_lt (b := 200) hn (by omega)
    have iN : ix (nI (nK μ)) 200 = true := ix_of hn (by omega)
    have cN := cl1000 (show nK μ < 1000 by omega)
    have hn' : nK (fF (fA (fA (fA μ 57 (nK μ) wv) 58 (nK μ) cv) 59 (nK μ) (-1)) 56 (nI (nK μ) + 1)) = nK μ + 1 := by
      show (nI (nK μ) + 1).toNatClampNeg = _
      rw [nI_1, nI_clamp (by omega)]
    have hs : Sm (tk [7, 45, 50, 55]) σ (sI (sI (sI (sI σ 45 (c + 13) (nK μ) wv) 50 (c + 14) (nK μ) cv) 55 (c + 15) (nK μ) (-1)) 7 (c + 12) 3 (nI (nK μ) + 1)) := SmsI (SmsI (SmsI (SmsI (Sm.rfl' σ) rfl _ _ _) rfl _ _ _) rfl _ _ _) rfl _ _ _
    refine ⟨sI (sI (sI (sI σ 45 (c + 13) (nK μ) wv) 50 (c + 14) (nK μ) cv) 55 (c + 15) (nK μ) (-1)) 7 (c + 12) 3 (nI (nK μ) + 1), ?_, ⟨hF, hz.fr hs rfl, hRX.fr hz hX hs rfl rfl rfl rfl rfl rfl rfl, hRS.fr hX hs rfl rfl rfl rfl rfl rfl rfl rfl rfl, hRL.fr hX hs rfl rfl rfl rfl rfl, hRB.fr hX hs rfl rfl rfl rfl (Ar_of (by repeat' constructor)), hRP.fr (fun k hk => (hRB k hk).1.1) hX hs rfl rfl rfl (Ar_of (by repeat' constructor)), hRG.fr hX hs rfl rfl rfl (Ar_of (by repeat' constructor)), hRF.fr hF hX hs rfl rfl rfl rfl rfl rfl (Ar_of (by repeat' constructor)), hRT.fr hF hX hs rfl rfl rfl rfl, ⟨?_, fun l hl => ?_⟩, hRR.fr hF hX hs rfl (by rintro q (rfl | rfl | rfl | rfl | rfl | rfl | rfl | rfl) <;> rfl) rfl (Ar_of (by repeat' constructor)), hRN.fr hF hX hs rfl rfl rfl rfl rfl rfl⟩, hs, hX, rfl, rfl⟩
    · simp [psh_some, psh_none, -Int32.not_lt, -Int32.not_le, va_rf, vd, vr, isR_r, isR_n, isA_r, isI_i, isI_r, isR_i, ar, akI, akZ, akB, akO, mI_sI, mP_sI, mK_sI, mN_sI, mX_sI, mP_sP, mI_sP, mK_sP, mN_sP, mX_sP, rc_LiftLog_note, e_LiftLog_note_0, e_LiftLog_note_10, e_LiftLog_note_11, e_LiftLog_note_21, e_LiftLog_note_31, e_LiftLog_note_41, e_LiftLog_note_51, fK_1 hF, fK_2 hF, fK_3 hF, fK_4 hF, fK_5 hF, fK_6 hF, fN_6 hF, fK_7 hF, fN_7 hF, fK_8 hF, fN_8 hF, fK_9 hF, fN_9 hF, fK_10 hF, fK_11 hF, fN_11 hF, fK_12 hF, fK_13 hF, fN_13 hF, fK_14 hF, fN_14 hF, fK_15 hF, fN_15 hF, fK_16 hF, fN_16 hF, fP_12_0 hF, fP_12_1 hF, fP_12_2 hF, fP_12_3 hF, fP_12_4 hF, fP_12_5 hF, fP_12_6 hF, fP_12_7 hF, fP_4_0 hF, fP_4_1 hF, fP_4_2 hF, fP_4_3 hF, fP_11_0 hF, fP_7_0 hF, fP_7_1 hF, fP_7_2 hF, hF.cc, hRK.1, hk.1, z, iN, cN]
    · simp [mI_sI, fF_1]
    · rw [hn'] at hl
      by_cases y : l = nK μ
      · subst y
        simp [mI_sI, fF_2, fA_2]
      · have r := hRK.2 l (by omega)
        simp [mI_sI, fF_2, fA_2, y, r]
  · rw [if_neg hn]
    have z : ¬ nI (nK μ) < 200 := nI_nlt (b := 200) (by omega) (by omega)
    refine ⟨σ, ?_, hR, Sm.rfl' σ, hX, rfl, rfl⟩
    simp [psh_some, psh_none, -Int32.not_lt, -Int32.not_le, va_rf, vd, vr, isR_r, isR_n, isA_r, isI_i, isI_r, isR_i, ar, akI, akZ, akB, akO, mI_sI, mP_sI, mK_sI, mN_sI, mX_sI, mP_sP, mI_sP, mK_sP, mN_sP, mX_sP, rc_LiftLog_note, e_LiftLog_note_0, e_LiftLog_note_10, e_LiftLog_note_11, e_LiftLog_note_21, e_LiftLog_note_31, e_LiftLog_note_41, e_LiftLog_note_51, fK_1 hF, fK_2 hF, fK_3 hF, fK_4 hF, fK_5 hF, fK_6 hF, fN_6 hF, fK_7 hF, fN_7 hF, fK_8 hF, fN_8 hF, fK_9 hF, fN_9 hF, fK_10 hF, fK_11 hF, fN_11 hF, fK_12 hF, fK_13 hF, fN_13 hF, fK_14 hF, fN_14 hF, fK_15 hF, fN_15 hF, fK_16 hF, fN_16 hF, fP_12_0 hF, fP_12_1 hF, fP_12_2 hF, fP_12_3 hF, fP_12_4 hF, fP_12_5 hF, fP_12_6 hF, fP_12_7 hF, fP_4_0 hF, fP_4_1 hF, fP_4_2 hF, fP_4_3 hF, fP_11_0 hF, fP_7_0 hF, fP_7_1 hF, fP_7_2 hF, hF.cc, hRK.1, hk.1, z]
theorem log_lp {ν : Ms} (hL : LM σ a) (hg30 : nG ν ≤ 30) (hg : ν.1 60 = nI (nG ν)) {n k : Nat} (hn : n < 200) (hk : ν.1 56 = nI n) (x2 x3 x4 x5 x6 x7 : Int32) : ∀ y j : Nat, j + y = nG ν → run d 162 285 [.ref a, .int (nI k), .int x2, .int x3, .int x4, .int x5, .int x6, .int x7, .int (nI j)] [] (put σ a (fA ν 58 n (cbs ν (nI k) j))) = run d 162 338 [.ref a, .int (nI k), .int x2, .int x3, .int x4, .int x5, .int x6, .int x7, .int (nI (nG ν))] [] (put σ a (fA ν 58 n (cbs ν (nI k) (nG ν)))) := by
  have iN : ix (nI n) 200 = true := ix_of hn (by omega)
  have cN := cl1000 (show n < 1000 by omega)
  intro y
  induction y with
  | zero =>
    intro j hj
    have : j = nG ν := by omega
    subst this
    simp [psh_some, psh_none, -Int32.not_lt, -Int32.not_le, q_M_lift_285, hL, fA_1, hg]
  | succ y ih =>
    intro j hj
    have h1 := ih (j + 1) (by omega)
    have h2 : ¬ nI (nG ν) ≤ nI j := nI_ge (by omega) (by omega)
    have h3 : ix (nI j) 30 = true := ix_of (by omega) (by omega)
    have cj := cl30 (show j < 30 by omega)
    rw [cbs, nI_succ] at h1
    rw [← h1]
    by_cases c1 : ν.2 64 j = 1
    · by_cases c2 : ν.2 66 j = nI k
      · rw [if_pos ⟨c1, c2⟩]
        simp [psh_some, psh_none, -Int32.not_lt, -Int32.not_le, q_M_lift_285, q_M_lift_294, q_M_lift_305, q_M_lift_316, q_M_lift_332, hL, fA_1, hg, h2, h3, cj, fA_2, c1, c2, hk, iN, cN, fA_fA]
      · rw [if_neg (fun z => c2 z.2)]
        simp [psh_some, psh_none, -Int32.not_lt, -Int32.not_le, q_M_lift_285, q_M_lift_294, q_M_lift_305, q_M_lift_332, hL, fA_1, hg, h2, h3, cj, fA_2, c1, c2]
    · rw [if_neg (fun z => c1 z.1)]
      simp [psh_some, psh_none, -Int32.not_lt, -Int32.not_le, q_M_lift_285, q_M_lift_294, q_M_lift_332, hL, fA_1, hg, h2, h3, cj, fA_2, c1]
theorem m_log (hL : LM σ a) (hC : Cn μ) {k : Nat} (hk6 : k < 6) (x2 x3 x4 x5 x6 x7 : Int32) (u8 : Value) : ∃ u8', run (d + 2) 162 238 [.ref a, .int (nI k), .int x2, .int x3, .int x4, .int x5, .int x6, .int x7, u8] [] (put σ a μ) = run (d + 2) 162 348 [.ref a, .int (nI k), .int x2, .int x3, .int x4, .int x5, .int x6, .int x7, u8'] [] (put σ a (ntS μ (wgt μ k) (cbs μ (nI k) (nG μ)))) := by
  have hk := hC.k
  have hg := hC.g
  unfold ntS
  by_cases hn : nK μ < 200
  · rw [if_pos hn]
    have z : ¬ (200 : Int32) ≤ nI (nK μ) := nI_ge (b := 200) hn (by omega)
    have iN : ix (nI (nK μ)) 200 = true := ix_of hn (by omega)
    have cN := cl1000 (show nK μ < 1000 by omega)
    have ew := m_weight d hL hC hk6
    have lp := log_lp (ν := fA (fA (fA μ 57 (nK μ) (wgt μ k)) 58 (nK μ) 0) 59 (nK μ) (-1)) (k := k) (d + 2) hL hg.2 hg.1 hn hk.1 x2 x3 x4 x5 x6 x7 (nG μ) 0 (by rw [Nat.zero_add]; rfl)
    have e1 : fA (fA (fA (fA μ 57 (nK μ) (wgt μ k)) 58 (nK μ) 0) 59 (nK μ) (-1)) 58 (nK μ) 0 = fA (fA (fA μ 57 (nK μ) (wgt μ k)) 58 (nK μ) 0) 59 (nK μ) (-1) := fA_id (by simp [fA_2])
    have ec : ∀ j, cbs (fA (fA (fA μ 57 (nK μ) (wgt μ k)) 58 (nK μ) 0) 59 (nK μ) (-1)) (nI k) j = cbs μ (nI k) j := by
      intro j
      induction j with
      | zero => rfl
      | succ j ih => rw [cbs, cbs, ih, fA_2n _ (by decide), fA_2n _ (by decide), fA_2n _ (by decide), fA_2n _ (by decide), fA_2n _ (by decide), fA_2n _ (by decide)]
    have e2 : fA (fA (fA (fA μ 57 (nK μ) (wgt μ k)) 58 (nK μ) 0) 59 (nK μ) (-1)) 58 (nK μ) (cbs μ (nI k) (nG μ)) = fA (fA (fA μ 57 (nK μ) (wgt μ k)) 58 (nK μ) (cbs μ (nI k) (nG μ))) 59 (nK μ) (-1) := by
      rw [fA_comm (f := 59) (g := 58) (by decide), fA_fA]
    rw [ec, ec, cbs, e1, show nG (fA (fA (fA μ 57 (nK μ) (wgt μ k)) 58 (nK μ) 0) 59 (nK μ) (-1)) = nG μ from rfl, e2, nI_0] at lp
    refine ⟨.int (nI (nG μ)), ?_⟩
    have lp2 : run (d + 2) 162 338 [.ref a, .int (nI k), .int x2, .int x3, .int x4, .int x5, .int x6, .int x7, .int (nI (nG μ))] [] (put σ a (fA (fA (fA μ 57 (nK μ) (wgt μ k)) 58 (nK μ) (cbs μ (nI k) (nG μ))) 59 (nK μ) (-1))) = run (d + 2) 162 348 [.ref a, .int (nI k), .int x2, .int x3, .int x4, .int x5, .int x6, .int x7, .int (nI (nG μ))] [] (put σ a (fF (fA (fA (fA μ 57 (nK μ) (wgt μ k)) 58 (nK μ) (cbs μ (nI k) (nG μ))) 59 (nK μ) (-1)) 56 (nI (nK μ) + 1))) := by
      rw [q_M_lift_338 _ _ _ _ _ _ _ _ _ _ _ _ hL]
      simp only [fA_1, hk.1]
    rw [← lp2, ← lp]
    simp [psh_some, psh_none, -Int32.not_lt, -Int32.not_le, q_M_lift_238, q_M_lift_248, q_M_lift_261, q_M_lift_262, q_M_lift_272, q_M_lift_282, hL, hk.1, z, ew, iN, cN, fA_1]
  · rw [if_neg hn]
    have z : (200 : Int32) ≤ nI (nK μ) := nI_le (a := 200) (by omega) (by omega)
    exact ⟨u8, by simp [psh_some, psh_none, -Int32.not_lt, -Int32.not_le, q_M_lift_238, hL, hk.1, z]⟩
end O66
