/-! ===== go ===== -/
section O50
variable {σ σ' : Mm} {c : Nat} {E S L B G H Q : Nat → Nat} {Z : Nat → List Nat} {w : Bool} {μ μ' : Ms} (d : Nat)
/-- the rests are others -/
def ovr (μ : Ms) (r : Nat → Int32) : Ms := (μ.1, fun f j => if f = 30 then r j else μ.2 f j)
theorem ovr_30 (r : Nat → Int32) (j : Nat) : (ovr μ r).2 30 j = r j := rfl
theorem ovr_fA (r : Nat → Int32) {f : Nat} (hf : f ≠ 30) (i : Nat) (v : Int32) : fA (ovr μ r) f i v = ovr (fA μ f i v) r := by
  refine Prod.ext rfl (funext fun g => funext fun j => ?_)
  show (if g = f ∧ j = i then v else if g = 30 then r j else μ.2 g j) = if g = 30 then r j else if g = f ∧ j = i then v else μ.2 g j
  by_cases e : g = 30
  · rw [if_neg (by omega), if_pos e, if_pos e]
  · rw [if_neg e, if_neg e]
theorem ovr_fF (r : Nat → Int32) (f : Nat) (v : Int32) : fF (ovr μ r) f v = ovr (fF μ f v) r := rfl
theorem ovr_lsN (r : Nat → Int32) (x : Int32) (y : Nat) (m : Int32) : ∀ n, lsN (ovr μ r) x y m n = ovr (lsN μ x y m n) r := by
  intro n
  induction n with
  | zero => rfl
  | succ n ih =>
    rw [lsN, lsN, ih]
    show (if μ.2 64 n = 1 ∧ μ.2 66 n = x then _ else _) = _
    by_cases cnd : μ.2 64 n = 1 ∧ μ.2 66 n = x
    · rw [if_pos cnd, if_pos cnd, ovr_fA r (by decide)]
      rfl
    · rw [if_neg cnd, if_neg cnd]
theorem ovr_skN (r : Nat → Int32) (x : Int32) : ∀ n, skN (ovr μ r) x n = ovr (skN μ x n) r := by
  intro n
  induction n with
  | zero => rfl
  | succ n ih =>
    rw [skN, skN, ih]
    show (if μ.2 64 n = 1 ∧ μ.2 66 n = x then _ else _) = _
    by_cases cnd : μ.2 64 n = 1 ∧ μ.2 66 n = x
    · rw [if_pos cnd, if_pos cnd, ovr_fA r (by decide)]
    · rw [if_neg cnd, if_neg cnd]
theorem ovr_fl2 (r : Nat → Int32) (k : Nat) : fl2 (ovr μ r) k = ovr (fl2 μ k) r := by
  unfold fl2
  rw [ovr_fA r (by decide), ovr_fA r (by decide)]
  rfl
theorem ovr_fld (r : Nat → Int32) (k : Nat) : fld (ovr μ r) k = ovr (fld μ k) r := by
  unfold fld
  rw [ovr_fA r (by decide), ovr_fA r (by decide), ovr_fF]
  rfl
theorem ovr_skS (r : Nat → Int32) (k : Nat) : skS (ovr μ r) k = ovr (skS μ k) r := by
  unfold skS skA
  rw [ovr_fA r (by decide), ovr_fF, ovr_fA r (by decide), ovr_skN]
  rfl
theorem ovr_bs (r : Nat → Int32) (w o t : Int32) : ∀ n, bs (ovr μ r) w o t n = bs μ w o t n := by
  intro n
  induction n with
  | zero => rfl
  | succ n ih =>
    rw [bs, bs, ih]
    cases bs μ w o t n <;> rfl
theorem ovr_kno (r : Nat → Int32) (w o t : Int32) (n : Nat) (x : Int32) : kno (ovr μ r) w o t n x = kno μ w o t n x := by
  unfold kno
  rw [ovr_bs]
  rfl
theorem ovr_swN (r : Nat → Int32) (s : Nat) : swN (ovr μ r) s = swN μ s := by
  unfold swN
  rw [ovr_kno]
  rfl
theorem ovr_frA (r : Nat → Int32) (s : Nat) : frA (ovr μ r) s = frA μ s := rfl
theorem ovr_wgt (r : Nat → Int32) (k : Nat) : wgt (ovr μ r) k = wgt μ k := rfl
theorem ovr_see (r : Nat → Int32) (w : Int32) (k s : Nat) : see (ovr μ r) w k s = see μ w k s := by
  unfold see
  rw [ovr_swN, ovr_frA, ovr_wgt]
  rfl
theorem ovr_tOk (r : Nat → Int32) (l k s t : Nat) : tOk (ovr μ r) l k s t = tOk μ l k s t := by
  unfold tOk
  rw [ovr_see]
  rfl
theorem ovr_isO (r : Nat → Int32) (l k s : Nat) : isO (ovr μ r) l k s = isO μ l k s := by
  unfold isO
  simp only [ovr_tOk]
  rfl
theorem ovr_fns (r : Nat → Int32) (k s : Nat) (ld : Int32) : fns (ovr μ r) k s ld = fns μ k s ld := by
  unfold fns
  simp only [ovr_isO]
  rfl
theorem ovr_cLd (r : Nat → Int32) (k s : Nat) : cLd (ovr μ r) k s = cLd μ k s := by
  unfold cLd
  simp only [ovr_frA, ovr_swN, ovr_fns]
  rfl
theorem ovr_pmn (r : Nat → Int32) (k : Nat) : pmn (ovr μ r) k = ovr (pmn μ k) r := by
  unfold pmn
  rw [ovr_fl2, ovr_lsN, ovr_lsN, ovr_skS, ovr_fld, ovr_cLd]
  show (if μ.2 24 k = 0 then (if μ.2 29 k = -1 then _ else ovr (lsN μ (nI k) (μ.2 29 k).toNatClampNeg 1 (nG μ)) r) else if μ.2 24 k = 1 then (if ¬ μ.2 34 k ≤ μ.2 33 k + 1 then _ else if ¬ flA μ k ≤ μ.2 27 k then _ else if cLd (fl2 μ k) k (aT μ k) = true then _ else ovr (lsN (fl2 μ k) (nI k) 6 1 (nG μ)) r) else _) = _
  repeat' split
  all_goals rfl
theorem pmn_o {k j f : Nat} (hj : j ≠ k) (h64 : f ≠ 64) (h68 : f ≠ 68) : (pmn μ k).2 f j = μ.2 f j := by
  have q1 : (fl2 μ k).2 f j = μ.2 f j := by simp [fl2, fA_2, hj]
  have q2 : (fld (fl2 μ k) k).2 f j = (fl2 μ k).2 f j := by simp [fld, fA_2, fF_2, hj]
  have q3 : (skS (fl2 μ k) k).2 f j = (fl2 μ k).2 f j := by
    by_cases z4 : f = 24
    · rw [z4, skS_24, if_neg hj]
    · by_cases z7 : f = 27
      · rw [z7, skS_27, if_neg hj]
      · rw [skS_2 z4 z7 h64]
  unfold pmn
  repeat' split
  · rfl
  · rw [lsN_2 _ _ _ h68]
  · exact q1
  · rw [q3, q1]
  · rw [q2, q1]
  · rw [lsN_2 _ _ _ h68, q1]
  · rfl
theorem pmn_1 {k f : Nat} (h : f ≠ 37) : (pmn μ k).1 f = μ.1 f := by
  unfold pmn
  repeat' split
  · rfl
  · rw [lsN_1]
  · rfl
  · rw [skS_1]; simp [h]; rfl
  · simp [fld, fF_1, fA_1, h]; rfl
  · rw [lsN_1]; rfl
  · rfl
theorem pmn_30 (k : Nat) : (pmn μ k).2 30 = μ.2 30 := by
  unfold pmn
  repeat' split
  · rfl
  · rw [lsN_2 _ _ _ (by decide)]
  · rfl
  · rw [skS_2 (by decide) (by decide) (by decide)]; rfl
  · rfl
  · rw [lsN_2 _ _ _ (by decide)]; rfl
  · rfl
def pmF (μ : Ms) (k : Nat) : Nat → Ms
  | 0 => μ
  | n + 1 => pmF (pmn μ k) (k + 1) n
/-- a rest goes by -/
def dcr (μ : Ms) (k : Nat) : Ms := if μ.2 24 k = 0 ∧ ¬ μ.2 30 k ≤ 0 then fA μ 30 k (μ.2 30 k - 1) else μ
def mif (μ : Ms) (k : Nat) : Nat → Ms
  | 0 => μ
  | n + 1 => mif (pmn (dcr μ k) k) (k + 1) n
def rdd (μ : Ms) (j : Nat) : Int32 := if μ.2 24 j = 0 ∧ ¬ μ.2 30 j ≤ 0 then μ.2 30 j - 1 else μ.2 30 j
theorem dcr_ov (k : Nat) (r : Nat → Int32) : ovr (dcr μ k) r = ovr μ r := by
  unfold dcr
  split
  · refine Prod.ext rfl (funext fun f => funext fun j => ?_)
    show (if f = 30 then r j else (fA μ 30 k (μ.2 30 k - 1)).2 f j) = if f = 30 then r j else μ.2 f j
    by_cases e : f = 30
    · rw [if_pos e, if_pos e]
    · rw [if_neg e, if_neg e, fA_2, if_neg (fun z => e z.1)]
  · rfl
theorem dcr_2 {k f j : Nat} (h : f ≠ 30) : (dcr μ k).2 f j = μ.2 f j := by
  unfold dcr
  split
  · rw [fA_2, if_neg (fun z => h z.1)]
  · rfl
theorem dcr_1 (k : Nat) : (dcr μ k).1 = μ.1 := by
  unfold dcr
  split <;> rfl
theorem dcr_30 (k j : Nat) : (dcr μ k).2 30 j = if j = k then rdd μ k else μ.2 30 j := by
  unfold dcr rdd
  by_cases z : μ.2 24 k = 0 ∧ ¬ μ.2 30 k ≤ 0
  · rw [if_pos z, if_pos z, fA_2]
    by_cases e : j = k
    · rw [if_pos ⟨rfl, e⟩, if_pos e]
    · rw [if_neg (fun y => e y.2), if_neg e]
  · rw [if_neg z, if_neg z]
    by_cases e : j = k
    · rw [if_pos e, e]
    · rw [if_neg e]
theorem pmF_mif : ∀ (n k : Nat) (μ : Ms) (r : Nat → Int32), (∀ j, j < k → r j = μ.2 30 j) → (∀ j, k + n ≤ j → r j = μ.2 30 j) → (∀ j, k ≤ j → j < k + n → r j = rdd μ j) → pmF (ovr μ r) k n = mif μ k n := by
  intro n
  induction n with
  | zero =>
    intro k μ r h1 h2 h3
    refine Prod.ext rfl (funext fun f => funext fun j => ?_)
    show (if f = 30 then r j else μ.2 f j) = μ.2 f j
    by_cases e : f = 30
    · rw [if_pos e, e]
      by_cases z : j < k
      · exact h1 j z
      · exact h2 j (by omega)
    · rw [if_neg e]
  | succ n ih =>
    intro k μ r h1 h2 h3
    rw [pmF, mif, ← dcr_ov k r, ovr_pmn]
    refine ih (k + 1) _ r (fun j hj => ?_) (fun j hj => ?_) (fun j hj1 hj2 => ?_)
    · rw [pmn_30, dcr_30]
      by_cases e : j = k
      · rw [if_pos e, e]; exact h3 k (by omega) (by omega)
      · rw [if_neg e]; exact h1 j (by omega)
    · rw [pmn_30, dcr_30, if_neg (by omega)]
      exact h2 j (by omega)
    · have q1 : (pmn (dcr μ k) k).2 24 j = μ.2 24 j := by rw [pmn_o (by omega) (by decide) (by decide), dcr_2 (by decide)]
      have q2 : (pmn (dcr μ k) k).2 30 j = μ.2 30 j := by rw [pmn_30, dcr_30, if_neg (by omega)]
      unfold rdd
      rw [q1, q2]
      exact h3 j (by omega) (by omega)
theorem pmn_nB (k : Nat) : nB (pmn μ k) = nB μ := by unfold nB; rw [pmn_1 (by decide)]
theorem pmn_nW (k : Nat) : nW (pmn μ k) = nW μ := by unfold nW; rw [pmn_1 (by decide)]
theorem go_in (x1 x2 : Int32) : ∀ (n k : Nat) (σ : Mm) (μ : Ms), k + n = nB μ → RC σ c E S L B G H Q Z w μ → Kx σ → Wf μ → (∀ j, k ≤ j → j < nB μ → ∃ e, e + 1 ≤ nW μ ∧ μ.2 33 j = nI e) → ∃ σ' u3, run (d + 6) 77 43 [.ref c, .int x1, .int x2, .int (nI k)] [] σ = run (d + 6) 77 26 [.ref c, .int x1, .int (x2 + 1), u3] [] σ' ∧ Spq [2, 3, 10, 12, 20, 110] σ c E S L B G H Q Z w σ' (pmF μ k n) ∧ Wf (pmF μ k n) := by
  intro n
  induction n with
  | zero =>
    intro k σ μ hk hR hX hW he
    obtain ⟨hF, hz, hRX, hRS, hRL, hRB, hRP, hRG, hRF, hRT, hRK, hRR, hRN⟩ := id hR
    have hl := hRX.2.2.1
    have : k = nB μ := by omega
    subst this
    refine ⟨σ, .int (nI (nB μ)), ?_, ⟨hR, Sm.rfl' σ, hX, rfl, rfl⟩, hW⟩
    simp [psh_some, psh_none, -Int32.not_lt, -Int32.not_le, va_rf, vd, vr, isR_r, isR_n, isA_r, isI_i, isI_r, isR_i, ar, akI, akZ, akB, akO, mI_sI, mP_sI, mK_sI, mN_sI, mX_sI, mP_sP, mI_sP, mK_sP, mN_sP, mX_sP, e_C_go_43, e_C_go_53, e_C_go_79, fK_1 hF, fK_2 hF, fK_3 hF, fK_4 hF, fK_5 hF, fK_6 hF, fN_6 hF, fK_7 hF, fN_7 hF, fK_8 hF, fN_8 hF, fK_9 hF, fN_9 hF, fK_10 hF, fK_11 hF, fN_11 hF, fK_12 hF, fK_13 hF, fN_13 hF, fK_14 hF, fN_14 hF, fK_15 hF, fN_15 hF, fK_16 hF, fN_16 hF, fP_12_0 hF, fP_12_1 hF, fP_12_2 hF, fP_12_3 hF, fP_12_4 hF, fP_12_5 hF, fP_12_6 hF, fP_12_7 hF, fP_4_0 hF, fP_4_1 hF, fP_4_2 hF, fP_4_3 hF, fP_11_0 hF, fP_7_0 hF, fP_7_1 hF, fP_7_2 hF, hF.cc, c_size _ hl.1, hl.2.1]
  | succ n ih =>
    intro k σ μ hk hR hX hW he
    obtain ⟨hF, hz, hRX, hRS, hRL, hRB, hRP, hRG, hRF, hRT, hRK, hRR, hRN⟩ := id hR
    have hl := hRX.2.2.1
    have hb := hW.1.b
    have hk' : k < nB μ := by omega
    have h2 : ¬ nI (nB μ) ≤ nI k := nI_ge (by omega) (by omega)
    obtain ⟨σ1, p1, p2, p3⟩ := c_pass d hR hX hW hk' (he k (by omega) hk')
    obtain ⟨σ', u3, h3, h4, h5⟩ := ih (k + 1) σ1 (pmn μ k) (by rw [pmn_nB]; omega) p2.1 p2.2.2.1 p3 (fun j h1 h2 => by
      rw [pmn_nW, pmn_o (by omega) (by decide) (by decide)]
      rw [pmn_nB] at h2
      exact he j (by omega) h2)
    rw [nI_succ] at h3
    have eg := c_get (d + 3) hl (by omega) hk'
    refine ⟨σ', u3, ?_, p2.trans h4, h5⟩
    rw [← h3]
    simp [psh_some, psh_none, -Int32.not_lt, -Int32.not_le, va_rf, vd, vr, isR_r, isR_n, isA_r, isI_i, isI_r, isR_i, ar, akI, akZ, akB, akO, mI_sI, mP_sI, mK_sI, mN_sI, mX_sI, mP_sP, mI_sP, mK_sP, mN_sP, mX_sP, e_C_go_43, e_C_go_53, e_C_go_56, e_C_go_67, e_C_go_73, fK_1 hF, fK_2 hF, fK_3 hF, fK_4 hF, fK_5 hF, fK_6 hF, fN_6 hF, fK_7 hF, fN_7 hF, fK_8 hF, fN_8 hF, fK_9 hF, fN_9 hF, fK_10 hF, fK_11 hF, fN_11 hF, fK_12 hF, fK_13 hF, fN_13 hF, fK_14 hF, fN_14 hF, fK_15 hF, fN_15 hF, fK_16 hF, fN_16 hF, fP_12_0 hF, fP_12_1 hF, fP_12_2 hF, fP_12_3 hF, fP_12_4 hF, fP_12_5 hF, fP_12_6 hF, fP_12_7 hF, fP_4_0 hF, fP_4_1 hF, fP_4_2 hF, fP_4_3 hF, fP_11_0 hF, fP_7_0 hF, fP_7_1 hF, fP_7_2 hF, hF.cc, c_size _ hl.1, hl.2.1, h2, eg, (hRB k hk').1.1, p1]
theorem Wf_dcr {k : Nat} (hW : Wf μ) (hk : k < nB μ) : Wf (dcr μ k) := by
  unfold dcr
  split
  · rename_i z
    obtain ⟨hC, hWS, hWL, hWB, hWG, hWF, hWT, hWR, hWK⟩ := hW
    obtain ⟨b0, b1, b2, b3, b4, b5, b6, b7, b8, ⟨r, r1, r2, r3⟩, b10, b11, b12⟩ := hWB.1 k hk
    refine ⟨hC, WS_eq hWS rfl (Ar_of (by repeat' constructor)) (fun s hs => rfl), hWL, WB_upd hWB hk rfl rfl (fun f _ _ j hj => by simp [fA_2, hj]) ⟨b0, b1, b2, b3, b4, b5, b6, b7, b8, ⟨r - 1, by omega, ?_, fun _ => z.1⟩, b10, b11, b12⟩, WG_eq hWG rfl rfl rfl (Ar_of (by repeat' constructor)), hWF, hWT, hWR, hWK⟩
    have h1 : 1 ≤ r := by
      have := z.2
      rw [r2, show (0 : Int32) = nI 0 from rfl, nI_leI (by omega) (by omega)] at this
      omega
    rw [fA_2, if_pos ⟨rfl, rfl⟩, r2, show (1 : Int32) = nI 1 from rfl, pk_sub h1]
  · exact hW
theorem mo_moor {k : Nat} (hC : Cn μ) (hk : k < nB μ) (hs : aT μ k < nS μ) (ea : μ.2 25 k = nI (aT μ k)) (e0 : ¬ μ.2 24 k = 0) (eb : μ'.1 16 = μ.1 16) (e25 : μ'.2 25 = μ.2 25) (e4 : ∀ j, j ≠ k → μ'.2 24 j = μ.2 24 j) (e4k : μ'.2 24 k = 0) : ∀ s, s < nS μ → sm (mo1 μ' (nI s)) (nB μ') = sm (mo1 μ (nI s)) (nB μ) + (if s = aT μ k then 1 else 0) := by
  have hn : nB μ' = nB μ := by unfold nB; rw [eb]
  have h12 := hC.s.2
  intro s hs'
  rw [hn, mo_up (μ := μ) (μ' := μ') hk e4 (fun j _ => by rw [e25])]
  have q1 : mo1 μ (nI s) k = 0 := by simp [mo1, e0]
  have q2 : mo1 μ' (nI s) k = if s = aT μ k then 1 else 0 := by
    simp only [mo1, e4k, e25, ea, true_and]
    by_cases z : s = aT μ k
    · rw [if_pos (by rw [z]), if_pos z]
    · rw [if_neg (by rw [nI_eq (by omega) (by omega)]; omega), if_neg z]
  rw [q1, q2, sub_zero']
theorem Wf_fld {k : Nat} (hW : Wf μ) (hk : k < nB μ) (h1 : μ.2 24 k = 1) (hfr : ¬ frA μ (aT μ k) ≤ 0) (hfu : dvu (μ.2 20 k * μ.2 33 k) 60 ≤ μ.2 27 k) : Wf (fld μ k) := by
  have hC := hW.1
  have hb := hC.b
  have hs12 := hC.s.2
  obtain ⟨b0, b1, b2, b3, b4, b5, b6, b7, b8, b9, b10, b11, b12⟩ := hW.2.2.2.1.1 k hk
  obtain ⟨bb, bb1, bb2, bb3⟩ := b4
  obtain ⟨t, f, t1, t2, t3, t4, t5⟩ := b5
  obtain ⟨e, he1, he2⟩ := hW.2.2.2.2.2.2.2.2.2 k hk
  have hw := hC.w.2
  have hbe : bb * e ≤ 300 * 143999 := Nat.mul_le_mul bb2 (by omega)
  have hg : dvu (μ.2 20 k * μ.2 33 k) 60 = nI ((bb * e + 60 - 1) / 60) := by
    rw [bb3, he2, pk_mul, show (60 : Int32) = nI 60 from rfl, dvu_N2 (by omega) (by omega) (by omega)]
  have hgl : (bb * e + 60 - 1) / 60 < 2 ^ 31 := by omega
  generalize (bb * e + 60 - 1) / 60 = g at hg hgl
  have e0 : ¬ μ.2 24 k = 0 := by rw [h1]; decide
  obtain ⟨fr, fr4, hfr2⟩ := (hW.2.1.1 _ b0.2).2.2.2.2
  have hfr1 : 1 ≤ fr := by
    rw [hfr2, show (0 : Int32) = nI 0 from rfl, nI_leI (by omega) (by omega)] at hfr
    omega
  have hfr' := hfr2
  unfold frA at hfr'
  generalize hgg : dvu (μ.2 20 k * μ.2 33 k) 60 = gg at *
  have hge : g ≤ f := by
    rw [hg, t5, nI_leI hgl (by omega)] at hfu
    exact hfu
  have efl : fld μ k = fF (fA (fA μ 24 k 0) 27 k (μ.2 27 k - gg)) 37 (μ.1 37 + gg) := by unfold fld; rw [hgg]
  rw [efl]
  have hmo := mo_moor (μ' := fF (fA (fA μ 24 k 0) 27 k (μ.2 27 k - gg)) 37 (μ.1 37 + gg)) hC hk b0.2 b0.1 e0 rfl rfl (fun j hj => by simp [fA_2, fF_2, hj]) (by simp [fA_2, fF_2])
  refine ⟨hC, ⟨fun j hj => ?_, hW.2.1.2⟩, hW.2.2.1, WB_upd hW.2.2.2.1 hk rfl rfl (fun f _ _ j hj => by simp [fA_2, fF_2, hj]) ?_, WG_eq hW.2.2.2.2.1 rfl rfl rfl (Ar_of (by repeat' constructor)), hW.2.2.2.2.2.1, hW.2.2.2.2.2.2⟩
  · obtain ⟨y0, y1, y2, y3, f', y4, y5⟩ := hW.2.1.1 j hj
    refine ⟨y0, y1, y2, y3, ?_⟩
    unfold frA at y5 ⊢
    rw [hmo j hj]
    by_cases z : j = aT μ k
    · rw [if_pos z]
      subst z
      refine ⟨fr - 1, by omega, ?_⟩
      rw [← pk_sub hfr1, ← hfr']
      show μ.2 3 _ - _ = _
      rw [← sub_sub']
      rfl
    · rw [if_neg z, add_zero']
      exact ⟨f', y4, y5⟩
  · have q3 : (fF (fA (fA μ 24 k 0) 27 k (μ.2 27 k - gg)) 37 (μ.1 37 + gg)).2 24 k = 0 := by simp [fA_2, fF_2]
    obtain ⟨r, r1, r2, r3⟩ := b9
    refine ⟨b0, b1, b2, b3, ⟨bb, bb1, bb2, bb3⟩, ⟨t, f - g, t1, t2, t3, by omega, ?_⟩, b6, b7, b8, ⟨r, r1, r2, fun _ => q3⟩, b10, b11, fun z => ?_, fun z => ?_⟩
    · rw [show (fF (fA (fA μ 24 k 0) 27 k (μ.2 27 k - gg)) 37 (μ.1 37 + gg)).2 27 k = μ.2 27 k - gg by simp [fA_2, fF_2], t5, hg, pk_sub hge]
    · rw [q3] at z; exact absurd z (by decide)
    · rw [q3] at z; exact absurd z (by decide)
theorem Wf_pmn {k : Nat} (hW : Wf μ) (hk : k < nB μ) (he : ∃ e, e + 1 ≤ nW μ ∧ μ.2 33 k = nI e) : Wf (pmn μ k) := by
  have hW2 := Wf_fl2 hW hk he
  have b8 := (hW.2.2.2.1.1 k hk).2.2.2.2.2.2.2.2.1
  unfold pmn
  split
  · split
    · exact hW
    · rename_i z
      rcases b8 with q | ⟨y, hy, q⟩
      · exact absurd q z
      · rw [q, cl1000 (show y < 1000 by omega)]
        exact Wf_lsN hW _ (by omega) _ _ (Nat.le_refl _)
  · split
    · rename_i h1
      split
      · exact hW2
      · split
        · exact Wf_skS hW2 hk h1
        · rename_i g2
          split
          · rename_i g3
            refine Wf_fld hW2 hk h1 (cLd_free g3) ?_
            have v33 : (fl2 μ k).2 33 k = μ.2 33 k + 1 := by simp [fl2, fA_2]
            rw [v33]
            exact Classical.not_not.mp g2
          · exact Wf_lsN hW2 _ (by omega) _ _ (Nat.le_refl _)
    · exact hW
theorem go_inM {a : Nat} (hL : LM σ a) (x1 x2 : Int32) : ∀ (n k : Nat) (μ : Ms), k + n = nB μ → Wf μ → (∀ j, k ≤ j → j < nB μ → ∃ e, e + 1 ≤ nW μ ∧ μ.2 33 j = nI e) → ∃ u3, run (d + 7) 168 49 [.ref a, .int x1, .int x2, .int (nI k)] [] (put σ a μ) = run (d + 7) 168 32 [.ref a, .int x1, .int (x2 + 1), u3] [] (put σ a (mif μ k n)) := by
  intro n
  induction n with
  | zero =>
    intro k μ hk hW he
    have hb := hW.1.b
    have : k = nB μ := by omega
    subst this
    refine ⟨.int (nI (nB μ)), ?_⟩
    simp [psh_some, psh_none, -Int32.not_lt, -Int32.not_le, q_M_go_49, q_M_go_131, hL, hb.1, mif]
  | succ n ih =>
    intro k μ hk hW he
    have hb := hW.1.b
    have hs12 := hW.1.s.2
    have hk' : k < nB μ := by omega
    have h2 : ¬ nI (nB μ) ≤ nI k := nI_ge (by omega) (by omega)
    have h3 : ix (nI k) 6 = true := ix_of (by omega) (by omega)
    have ck := cl6 (show k < 6 by omega)
    have hWd := Wf_dcr hW hk'
    have hWp : Wf (pmn (dcr μ k) k) := by
      refine Wf_pmn hWd (by unfold nB; rw [dcr_1]; exact hk') ?_
      rw [dcr_2 (by decide)]
      unfold nW
      rw [dcr_1]
      exact he k (by omega) hk'
    obtain ⟨u3, h4⟩ := ih (k + 1) (pmn (dcr μ k) k) (by rw [pmn_nB]; unfold nB; rw [dcr_1]; unfold nB at hk; omega) hWp (fun j h1 h2 => by
      rw [pmn_nW, pmn_o (by omega) (by decide) (by decide), dcr_2 (by decide)]
      rw [pmn_nB] at h2
      unfold nB at h2
      rw [dcr_1] at h2
      unfold nW
      rw [dcr_1]
      exact he j (by omega) h2)
    rw [nI_succ] at h4
    refine ⟨u3, ?_⟩
    rw [mif, ← h4]
    obtain ⟨b0, b1, b2, b3, b4, b5, b6, b7, b8, b9, b10, b11, b12⟩ := hW.2.2.2.1.1 k hk'
    by_cases z0 : μ.2 24 k = 0
    · have t0 : run (d + 7) 168 49 [.ref a, .int x1, .int x2, .int (nI k)] [] (put σ a μ) = run (d + 7) 168 85 [.ref a, .int x1, .int x2, .int (nI k)] [] (put σ a (dcr μ k)) := by
        unfold dcr
        by_cases z1 : μ.2 30 k ≤ 0
        · rw [if_neg (fun z => z.2 z1)]
          simp [psh_some, psh_none, -Int32.not_lt, -Int32.not_le, q_M_go_49, q_M_go_57, q_M_go_66, hL, hb.1, h2, h3, ck, z0, z1]
        · rw [if_pos ⟨z0, z1⟩]
          simp [psh_some, psh_none, -Int32.not_lt, -Int32.not_le, q_M_go_49, q_M_go_57, q_M_go_66, q_M_go_75, hL, hb.1, h2, h3, ck, z0, z1]
      rw [t0]
      have z0' : (dcr μ k).2 24 k = 0 := by rw [dcr_2 (by decide)]; exact z0
      have e29 : (dcr μ k).2 29 k = μ.2 29 k := dcr_2 (by decide)
      unfold pmn
      rw [if_pos z0', e29]
      rcases b8 with z | ⟨y, hy, z⟩
      · rw [if_pos z]
        simp [psh_some, psh_none, -Int32.not_lt, -Int32.not_le, q_M_go_85, q_M_go_125, hL, h3, ck, e29, z]
      · have zn : ¬ nI y = -1 := nI_nm1 (by omega)
        rw [z, if_neg zn, cl1000 (show y < 1000 by omega)]
        have el := m_loses (d + 6) hL hWd.1 (nI k) 1 (show y < 7 by omega)
        simp [psh_some, psh_none, -Int32.not_lt, -Int32.not_le, q_M_go_85, q_M_go_95, q_M_go_107, q_M_go_125, hL, h3, ck, e29, z, zn, el]
    · have ed : dcr μ k = μ := by unfold dcr; rw [if_neg (fun z => z0 z.1)]
      rw [ed]
      unfold pmn
      rw [if_neg z0]
      by_cases z1 : μ.2 24 k = 1
      · rw [if_pos z1]
        by_cases g1 : μ.2 34 k ≤ μ.2 33 k + 1
        · rw [if_neg (fun z => z g1)]
          by_cases g2 : flA μ k ≤ μ.2 27 k
          · rw [if_neg (fun z => z g2)]
            by_cases g3 : cLd (fl2 μ k) k (aT μ k) = true
            · rw [if_pos g3]
              have ef := fl_land d hL hW.1 hW.2.2.2.2.2.2.2.1.1 (show k < 6 by omega) (show aT μ k < 12 by omega) b0.1 g1 g2 g3
              simp [psh_some, psh_none, -Int32.not_lt, -Int32.not_le, q_M_go_49, q_M_go_57, q_M_go_110, q_M_go_120, q_M_go_125, hL, hb.1, h2, h3, ck, z1, ef]
            · rw [if_neg g3]
              have ef := fl_held d hL hW.1 hW.2.2.2.2.2.2.2.1.1 (show k < 6 by omega) (show aT μ k < 12 by omega) b0.1 g1 g2 g3
              simp [psh_some, psh_none, -Int32.not_lt, -Int32.not_le, q_M_go_49, q_M_go_57, q_M_go_110, q_M_go_120, q_M_go_125, hL, hb.1, h2, h3, ck, z1, ef]
          · rw [if_pos g2]
            have ef := fl_sink d hL hW.1 (show k < 6 by omega) g1 g2
            simp [psh_some, psh_none, -Int32.not_lt, -Int32.not_le, q_M_go_49, q_M_go_57, q_M_go_110, q_M_go_120, q_M_go_125, hL, hb.1, h2, h3, ck, z1, ef]
        · rw [if_pos g1]
          have ef := fl_go d hL (show k < 6 by omega) g1
          simp [psh_some, psh_none, -Int32.not_lt, -Int32.not_le, q_M_go_49, q_M_go_57, q_M_go_110, q_M_go_120, q_M_go_125, hL, hb.1, h2, h3, ck, z1, ef]
      · rw [if_neg z1]
        simp [psh_some, psh_none, -Int32.not_lt, -Int32.not_le, q_M_go_49, q_M_go_57, q_M_go_110, q_M_go_125, hL, hb.1, h2, h3, ck, z0, z1]
end O50
