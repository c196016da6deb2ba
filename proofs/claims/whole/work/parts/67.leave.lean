/-! ===== A BOAT LEAVES ===== -/
section O67
variable {σ σ' : Mm} {c a : Nat} {E S L B G H Q : Nat → Nat} {Z : Nat → List Nat} {w : Bool} {μ μ' : Ms} (d : Nat)
/-! the same rows of a memory, but such that a rewriting by them leaves a proof behind -/
theorem jI_sI (σ : Mm) (c a k : Nat) (v : Int32) (c' a' k' : Nat) : mI (sI σ c a k v) c' a' k' = if c' = c ∧ a' = a ∧ k' = k then v else mI σ c' a' k' := by rw [mI_sI]
theorem jP_sI (σ : Mm) (c a k : Nat) (v : Int32) : mP (sI σ c a k v) = mP σ := by rw [mP_sI]
theorem jK_sI (σ : Mm) (c a k : Nat) (v : Int32) : mK (sI σ c a k v) = mK σ := by rw [mK_sI]
theorem jN_sI (σ : Mm) (c a k : Nat) (v : Int32) : mN (sI σ c a k v) = mN σ := by rw [mN_sI]
theorem jX_sI (σ : Mm) (c a k : Nat) (v : Int32) : mX (sI σ c a k v) = mX σ := by rw [mX_sI]
theorem jP_sP (σ : Mm) (c a k : Nat) (v : Option Nat) (c' a' k' : Nat) : mP (sP σ c a k v) c' a' k' = if c' = c ∧ a' = a ∧ k' = k then v else mP σ c' a' k' := by rw [mP_sP]
theorem jI_sP (σ : Mm) (c a k : Nat) (v : Option Nat) : mI (sP σ c a k v) = mI σ := by rw [mI_sP]
theorem jK_sP (σ : Mm) (c a k : Nat) (v : Option Nat) : mK (sP σ c a k v) = mK σ := by rw [mK_sP]
theorem jN_sP (σ : Mm) (c a k : Nat) (v : Option Nat) : mN (sP σ c a k v) = mN σ := by rw [mN_sP]
theorem jX_sP (σ : Mm) (c a k : Nat) (v : Option Nat) : mX (sP σ c a k v) = mX σ := by rw [mX_sP]
def Lv (μ ν : Ms) (k s far : Nat) (m g gb : Int32) : Prop := ν.1 = μ.1 ∧ (∀ f j, j ≠ k → ν.2 f j = μ.2 f j) ∧ (∀ f, f < 24 ∨ f = 27 ∨ f = 28 ∨ f = 30 ∨ f = 31 ∨ 36 < f → ν.2 f = μ.2 f) ∧ ν.2 24 k = 1 ∧ ν.2 25 k = nI far ∧ ν.2 26 k = nI s ∧ ν.2 29 k = -1 ∧ ν.2 32 k = 0 ∧ ν.2 33 k = 0 ∧ ν.2 34 k = m ∧ ν.2 35 k = g ∧ ν.2 36 k = gb
def lvS (μ : Ms) (k s far : Nat) (m g gb : Int32) : Ms := fA (fA (fA (fA (fA (fA (fA (fA (fA μ 29 k (-1)) 24 k 1) 25 k (nI far)) 26 k (nI s)) 33 k 0) 34 k m) 35 k g) 36 k gb) 32 k 0
theorem lvS_Lv (k s far : Nat) (m g gb : Int32) : Lv μ (lvS μ k s far m g gb) k s far m g gb := by
  refine ⟨rfl, fun f j hj => by simp [lvS, fA_2, hj], fun f hf => ?_, ?_, ?_, ?_, ?_, ?_, ?_, ?_, ?_, ?_⟩
  · unfold lvS
    rw [fA_2n _ (by omega), fA_2n _ (by omega), fA_2n _ (by omega), fA_2n _ (by omega), fA_2n _ (by omega), fA_2n _ (by omega), fA_2n _ (by omega), fA_2n _ (by omega), fA_2n _ (by omega)]
  all_goals simp [lvS, fA_2]
def lvM (σ : Mm) (st : Nat) (mo : Int32) (b far : Nat) (m g gb : Int32) : Mm := sI (sI (sI (sI (sI (sP (sP (sI (sI (sI σ 10 st 5 mo) 3 b 2 1) 3 b 9 (-1)) 3 b 4 (some st)) 3 b 3 (some far)) 3 b 14 g) 3 b 15 gb) 3 b 13 m) 3 b 12 0) 3 b 16 0
theorem c_otherE {q x y : Nat} (k6 : mK σ q = 6) (p1 : mP σ 6 q 1 = some x) (p2 : mP σ 6 q 2 = some y) (z : Nat) : runc d 21 [.ref q, .ref z] σ = some (some (.ref (if z = x then y else x)), σ) := by
  by_cases h : z = x
  · rw [if_pos h]; simp [psh_some, psh_none, -Int32.not_lt, -Int32.not_le, va_rf, vd, vr, isR_r, isR_n, isA_r, isI_i, isI_r, isR_i, ar, akI, akZ, akB, akO, mI_sI, mP_sI, mK_sI, mN_sI, mX_sI, mP_sP, mI_sP, mK_sP, mN_sP, mX_sP, rc_Leg_otherEnd, e_Leg_otherEnd_0, e_Leg_otherEnd_8, e_Leg_otherEnd_15, e_Leg_otherEnd_19, k6, p1, p2, h]
  · rw [if_neg h]; simp [psh_some, psh_none, -Int32.not_lt, -Int32.not_le, va_rf, vd, vr, isR_r, isR_n, isA_r, isI_i, isI_r, isR_i, ar, akI, akZ, akB, akO, mI_sI, mP_sI, mK_sI, mN_sI, mX_sI, mP_sP, mI_sP, mK_sP, mN_sP, mX_sP, rc_Leg_otherEnd, e_Leg_otherEnd_0, e_Leg_otherEnd_8, e_Leg_otherEnd_15, e_Leg_otherEnd_19, k6, p1, p2, h]
theorem c_leave {b q h x y st : Nat} {mo wd sp ml : Int32} (kb : mK σ b = 3) (kq : mK σ q = 6) (kh : mK σ h = 5) (b1 : mP σ 3 b 1 = some h) (b3 : mP σ 3 b 3 = some st) (q1 : mP σ 6 q 1 = some x) (q2 : mP σ 6 q 2 = some y) (q3 : mI σ 6 q 3 = ml) (h2 : mI σ 5 h 2 = sp) : runc (d + 2) 6 [.ref b, .ref q, .int wd] (sI σ 10 st 5 mo) = some (none, lvM σ st mo b (if st = x then y else x) (dvu (ml * 60) (gnd sp wd)) (gnd sp wd) (gnd sp (-wd))) := by
  have g1 := gnd_pos sp wd
  have o := c_otherE (σ := sP (sI (sI (sI σ 10 st 5 mo) 3 b 2 1) 3 b 9 (-1)) 3 b 4 (some st)) (d + 1) (q := q) (x := x) (y := y) (by simpa [mK_sI, mK_sP] using kq) (by simpa [mP_sI, mP_sP] using q1) (by simpa [mP_sI, mP_sP] using q2) st
  have eg : ∀ (τ : Mm) (v : Int32), mK τ h = 5 → mI τ 5 h 2 = sp → runc (d + 1) 16 [.ref h, .int v] τ = some (some (.int (gnd sp v)), τ) := fun τ v k1 k2 => by
    simp [psh_some, psh_none, -Int32.not_lt, -Int32.not_le, rc_Hull_ground, e_Hull_ground_0, k1, k2, gnd_eq]
  have em : ∀ (τ : Mm), mK τ q = 6 → mI τ 6 q 3 = ml → runc (d + 1) 22 [.ref q, .int (gnd sp wd)] τ = some (some (.int (dvu (ml * 60) (gnd sp wd))), τ) := fun τ k1 k2 => by
    simp [psh_some, psh_none, -Int32.not_lt, -Int32.not_le, rc_Leg_minutesAt, e_Leg_minutesAt_0, e_Leg_minutesAt_11, k1, k2, c_div d g1]
  unfold lvM
  simp [psh_some, psh_none, -Int32.not_lt, -Int32.not_le, va_rf, vd, vr, isR_r, isR_n, isA_r, isI_i, isI_r, isR_i, ar, akI, akZ, akB, akO, jI_sI, jP_sI, jK_sI, jN_sI, jX_sI, jP_sP, jI_sP, jK_sP, jN_sP, jX_sP, rc_Boat_leave, e_Boat_leave_0, e_Boat_leave_5, e_Boat_leave_10, e_Boat_leave_18, e_Boat_leave_27, e_Boat_leave_30, e_Boat_leave_39, e_Boat_leave_42, e_Boat_leave_52, e_Boat_leave_55, e_Boat_leave_64, e_Boat_leave_67, e_Boat_leave_72, e_Boat_leave_77, kb, kq, kh, b1, b3, q1, q2, q3, h2, o, eg, em]
theorem mo_cnt (x : Int32) : ∀ n, ∃ cnt, cnt ≤ n ∧ sm (mo1 μ x) n = nI cnt ∧ ((∃ j, j < n ∧ μ.2 24 j = 0 ∧ μ.2 25 j = x) → 1 ≤ cnt) := by
  intro n
  induction n with
  | zero => exact ⟨0, Nat.le_refl _, rfl, fun ⟨j, hj, _⟩ => by omega⟩
  | succ n ih =>
    obtain ⟨q, q1, q2, q3⟩ := ih
    rw [sm, q2, mo1]
    by_cases y : μ.2 24 n = 0 ∧ μ.2 25 n = x
    · rw [if_pos y]
      exact ⟨q + 1, by omega, by rw [nI_1], fun _ => by omega⟩
    · rw [if_neg y, add_zero']
      refine ⟨q, by omega, rfl, fun ⟨j, hj, y2⟩ => q3 ⟨j, ?_, y2⟩⟩
      by_cases e : j = n
      · subst e; exact absurd y2 y
      · omega
theorem mo_lv {ν : Ms} {k s far : Nat} {m g gb : Int32} (hL : Lv μ ν k s far m g gb) (hC : Cn μ) (hk : k < nB μ) (h0 : μ.2 24 k = 0) (ha : μ.2 25 k = nI s) (hs : s < nS μ) : ∀ q, q < nS μ → sm (mo1 ν (nI q)) (nB μ) = sm (mo1 μ (nI q)) (nB μ) - (if q = s then 1 else 0) := by
  have h12 := hC.s.2
  obtain ⟨l1, l2, l3, l24, -⟩ := hL
  intro q hq
  rw [mo_up (μ := μ) (μ' := ν) hk (fun j hj => l2 24 j hj) (fun j hj => l2 25 j hj)]
  have q1 : mo1 ν (nI q) k = 0 := by rw [mo1, l24, if_neg (fun z => absurd z.1 (by decide))]
  have q2 : mo1 μ (nI q) k = if q = s then 1 else 0 := by
    rw [mo1, ha]
    by_cases y : q = s
    · rw [if_pos ⟨h0, by rw [y]⟩, if_pos y]
    · rw [if_neg (fun z => y ((nI_eq (by omega) (by omega)).mp z.2).symm), if_neg y]
  rw [q1, q2, add_zero']
theorem Wf_lv {ν : Ms} {k s far : Nat} {m g gb : Int32} (hL : Lv μ ν k s far m g gb) (hW : Wf μ) (hk : k < nB μ) (h0 : μ.2 24 k = 0) (ha : μ.2 25 k = nI s) (hs : s < nS μ) (hfar : far < nS μ) (hg : 1 ≤ gb) (hr : ¬ 0 < μ.2 30 k) : Wf ν := by
  have hC := hW.1
  have h12 := hC.s.2
  have h6 := hC.b.2
  have hmo := mo_lv hL hC hk h0 ha hs
  obtain ⟨l1, l2, l3, l24, l25, l26, l29, l32, l33, l34, l35, l36⟩ := id hL
  have eS : nS ν = nS μ := by unfold nS; rw [l1]
  have eB : nB ν = nB μ := by unfold nB; rw [l1]
  have eG : nG ν = nG μ := by unfold nG; rw [l1]
  have AR : ∀ f, f < 24 ∨ f = 27 ∨ f = 28 ∨ f = 30 ∨ f = 31 ∨ 36 < f → ν.2 f = μ.2 f := l3
  refine ⟨?_, ⟨fun q hq => ?_, fun q hq => ?_⟩, WL_mono hW.2.2.1 (Nat.le_of_eq eS.symm) (by rw [l1]) (fun f hf => AR f (by simp only [List.mem_cons, List.not_mem_nil, or_false] at hf; omega)), WB_upd hW.2.2.2.1 hk (by rw [l1]) (by rw [l1]) (fun f _ _ j hj => l2 f j hj) ?_, WG_eq hW.2.2.2.2.1 (by rw [l1]) (by rw [l1]) (by rw [l1]) (fun f hf => AR f (by simp only [List.mem_cons, List.not_mem_nil, or_false] at hf; omega)), ?_, ?_, ?_, ?_, fun q hq => ?_⟩
  · unfold Cn nS nL nF nB nG nK nT nR nW; rw [l1]; exact hC
  · rw [eS] at hq
    obtain ⟨t1, t2, t3, t4, f, t5, t6⟩ := hW.2.1.1 q hq
    rw [AR 3 (by omega), AR 4 (by omega), AR 5 (by omega), AR 6 (by omega)]
    refine ⟨t1, t2, t3, t4, ?_⟩
    obtain ⟨b, b1, b2, b3⟩ := t1
    unfold frA at t6 ⊢
    rw [eB, hmo q hq, AR 3 (by omega)]
    by_cases y : q = s
    · subst y
      obtain ⟨cnt, c1, c2, c3⟩ := mo_cnt (μ := μ) (nI q) (nB μ)
      have c4 := c3 ⟨k, hk, h0, ha⟩
      rw [b3, c2] at t6 ⊢
      rw [if_pos rfl, show (1 : Int32) = nI 1 from rfl, pk_sub c4]
      have hbc : cnt ≤ b := by
        by_cases y2 : cnt ≤ b
        · exact y2
        · exfalso
          have := pk_sneg (a := b) (b := cnt) (by omega) (by omega)
          rw [t6] at this
          exact nI_pos (by omega) this
      exact ⟨b - (cnt - 1), by omega, by rw [pk_sub (by omega)]⟩
    · rw [if_neg y, sub_zero']
      exact ⟨f, t5, t6⟩
  · rw [eS] at hq
    rw [AR 6 (by omega)]
    exact hW.2.1.2 q hq
  · obtain ⟨b0, b1, b2, b3, b4, b5, b6, b7, b8, ⟨r, r1, r2, r3⟩, b10, b11, b12⟩ := hW.2.2.2.1.1 k hk
    have r0 : r = 0 := by
      rw [r2] at hr
      by_cases y : r = 0
      · exact y
      · exact absurd (show (0 : Int32) < nI r by rw [show (0 : Int32) = nI 0 from rfl]; exact nI_lt (by omega) (by omega)) hr
    unfold WB1 aT wH
    rw [eS, AR 17 (by omega), AR 18 (by omega), AR 19 (by omega), AR 20 (by omega), AR 21 (by omega), AR 22 (by omega), AR 23 (by omega), AR 27 (by omega), AR 30 (by omega), AR 31 (by omega), l24, l25, l26, l29, l32, l36, cl12 (show far < 12 by omega), cl12 (show s < 12 by omega)]
    exact ⟨⟨rfl, hfar⟩, b1, b2, b3, b4, b5, b6, b7, Or.inl rfl, ⟨r, r1, r2, fun z => by omega⟩, b10, Or.inl rfl, fun _ => ⟨rfl, hs, hg⟩, fun z => absurd z (by decide)⟩
  · have q := hW.2.2.2.2.2.1
    unfold WF ofN nF at q ⊢
    rw [l1, AR 12 (by omega), AR 13 (by omega), AR 15 (by omega)]
    exact q
  · have q := hW.2.2.2.2.2.2.1
    unfold WT at q ⊢
    rw [AR 39 (by omega)]
    exact q
  · have q := hW.2.2.2.2.2.2.2.1
    unfold WR Rl tm nR at q ⊢
    rw [l1, AR 42 (by omega), AR 44 (by omega), AR 45 (by omega)]
    exact q
  · have q := hW.2.2.2.2.2.2.2.2.1
    unfold nK at q ⊢
    rw [l1, AR 58 (by omega)]
    exact q
  · rw [eB] at hq
    have e : nW ν = nW μ := by unfold nW; rw [l1]
    rw [e]
    by_cases y : q = k
    · rw [y, l33]; exact ⟨0, Nat.zero_le _, rfl⟩
    · rw [l2 33 q y]; exact hW.2.2.2.2.2.2.2.2.2 q hq
theorem RC_lv {ν : Ms} {k s far : Nat} {m g gb : Int32} (hL : Lv μ ν k s far m g gb) (hR : RC σ c E S L B G H Q Z w μ) (hX : Kx σ) (hW : Wf μ) (hk : k < nB μ) (h0 : μ.2 24 k = 0) (ha : μ.2 25 k = nI s) (hs' : s < nS μ) (hfar : far < nS μ) : Spq [3, 10] σ c E S L B G H Q Z w (lvM σ (S s) (mI σ 10 (S s) 5 - 1) (B k) (S far) m g gb) ν := by
  obtain ⟨hF, hz, hRX, hRS, hRL, hRB, hRP, hRG, hRF, hRT, hRK, hRR, hRN⟩ := id hR
  have hC := hW.1
  have h12 := hC.s.2
  have hmo := mo_lv hL hC hk h0 ha hs'
  obtain ⟨l1, l2, l3, l24, l25, l26, l29, l32, l33, l34, l35, l36⟩ := id hL
  have eS : nS ν = nS μ := by unfold nS; rw [l1]
  have eB : nB ν = nB μ := by unfold nB; rw [l1]
  have AR : ∀ f, f < 24 ∨ f = 27 ∨ f = 28 ∨ f = 30 ∨ f = 31 ∨ 36 < f → ν.2 f = μ.2 f := l3
  have hs : Sm (tk [3, 10]) σ (lvM σ (S s) (mI σ 10 (S s) 5 - 1) (B k) (S far) m g gb) := SmsI (SmsI (SmsI (SmsI (SmsI (SmsP (SmsP (SmsI (SmsI (SmsI (Sm.rfl' σ) rfl _ _ _) rfl _ _ _) rfl _ _ _) rfl _ _ _) rfl _ _ _) rfl _ _ _) rfl _ _ _) rfl _ _ _) rfl _ _ _) rfl _ _ _
  have hK : mK (lvM σ (S s) (mI σ 10 (S s) 5 - 1) (B k) (S far) m g gb) = mK σ := rfl
  have h10 : ∀ q f, mI (lvM σ (S s) (mI σ 10 (S s) 5 - 1) (B k) (S far) m g gb) 10 q f = if q = S s ∧ f = 5 then mI σ 10 (S s) 5 - 1 else mI σ 10 q f := fun q f => by simp [lvM, mI_sI, mI_sP]
  have h5 : ∀ q f, mI (lvM σ (S s) (mI σ 10 (S s) 5 - 1) (B k) (S far) m g gb) 5 q f = mI σ 5 q f := fun q f => by simp [lvM, mI_sI, mI_sP]
  have h3o : ∀ q, q ≠ B k → ∀ f, mI (lvM σ (S s) (mI σ 10 (S s) 5 - 1) (B k) (S far) m g gb) 3 q f = mI σ 3 q f := fun q hq f => by simp [lvM, mI_sI, mI_sP, hq]
  have p3o : ∀ q, q ≠ B k → ∀ f, mP (lvM σ (S s) (mI σ 10 (S s) 5 - 1) (B k) (S far) m g gb) 3 q f = mP σ 3 q f := fun q hq f => by simp [lvM, mP_sI, mP_sP, hq]
  have h3k : ∀ f, mI (lvM σ (S s) (mI σ 10 (S s) 5 - 1) (B k) (S far) m g gb) 3 (B k) f = if f = 16 then 0 else if f = 12 then 0 else if f = 13 then m else if f = 15 then gb else if f = 14 then g else if f = 9 then -1 else if f = 2 then 1 else mI σ 3 (B k) f := fun f => by simp [lvM, mI_sI, mI_sP]
  have p3k : ∀ f, mP (lvM σ (S s) (mI σ 10 (S s) 5 - 1) (B k) (S far) m g gb) 3 (B k) f = if f = 3 then some (S far) else if f = 4 then some (S s) else mP σ 3 (B k) f := fun f => by simp [lvM, mP_sI, mP_sP]
  have h67 : ∀ q f, f = 6 ∨ f = 7 → mI (lvM σ (S s) (mI σ 10 (S s) 5 - 1) (B k) (S far) m g gb) 3 q f = mI σ 3 q f := fun q f hf => by
    by_cases y : q = B k
    · rw [y, h3k]
      rw [if_neg (by omega), if_neg (by omega), if_neg (by omega), if_neg (by omega), if_neg (by omega), if_neg (by omega), if_neg (by omega)]
    · exact h3o q y f
  have hX' : Kx (lvM σ (S s) (mI σ 10 (S s) 5 - 1) (B k) (S far) m g gb) := hX
  have x1 : mX (lvM σ (S s) (mI σ 10 (S s) 5 - 1) (B k) (S far) m g gb) = mX σ := rfl
  have x2 : mS (lvM σ (S s) (mI σ 10 (S s) 5 - 1) (B k) (S far) m g gb) = mS σ := rfl
  generalize lvM σ (S s) (mI σ 10 (S s) 5 - 1) (B k) (S far) m g gb = σ1 at hs hK h10 h5 h3o p3o h3k p3k h67 hX' x1 x2
  refine ⟨⟨hF.fr hX hs (by rintro q (rfl | rfl | rfl | rfl | rfl) <;> rfl), hz.fr hs rfl, hRX.fr hz hX hs rfl rfl rfl (by rw [l1]) (by rw [l1]) (by rw [l1]) (by rw [l1]), fun q hq => ?_, hRL.fr hX hs rfl (by rw [l1]) (AR _ (by omega)) (AR _ (by omega)) (AR _ (by omega)), RB_upd hRB hC hk hK h3o p3o h5 (by rw [l1]) (by rw [l1]) (fun f _ _ j hj => l2 f j hj) (fun f f1 f2 => by rw [AR f (by omega)]) ?_, RP_eq hRP (fun q => h67 q 6 (Or.inl rfl)) (fun q => h67 q 7 (Or.inr rfl)) (by rw [l1]) (by rw [l1]) (fun f hf => AR f (by simp only [List.mem_cons, List.not_mem_nil, or_false] at hf; omega)), hRG.fr hX hs rfl rfl (by rw [l1]) (fun f hf => AR f (by simp only [List.mem_cons, List.not_mem_nil, or_false] at hf; omega)), hRF.fr hF hX hs rfl rfl rfl rfl rfl (by rw [l1]) (fun f hf => AR f (by simp only [List.mem_cons, List.not_mem_nil, or_false] at hf; omega)), hRT.fr hF hX hs rfl rfl (by rw [l1]) (AR _ (by omega)), hRK.fr hF hX hs rfl rfl rfl rfl (by rw [l1]) (fun f hf => AR f (by simp only [List.mem_cons, List.not_mem_nil, or_false] at hf; omega)), hRR.fr hF hX hs rfl (by rintro q (rfl | rfl | rfl | rfl | rfl | rfl | rfl | rfl) <;> rfl) (by rw [l1]) (fun f hf => AR f (by simp only [List.mem_cons, List.not_mem_nil, or_false] at hf; omega)), hRN.fr hF hX hs rfl (by rw [l1]) (by rw [l1]) (by rw [l1]) (by rw [l1]) (AR _ (by omega))⟩, hs, hX', x1, x2⟩
  · rw [eS] at hq
    obtain ⟨t0, t1, t2, t3, t4, t5, t6⟩ := hRS q hq
    rw [hK, h10, h10, h10, h10, h10, h10, if_neg (by omega), if_neg (by omega), if_neg (by omega), if_neg (by omega), if_neg (by omega), AR 3 (by omega), AR 4 (by omega), AR 5 (by omega), AR 6 (by omega), eB, hmo q hq]
    refine ⟨t0, t1, t2, t3, t4, t5, ?_⟩
    by_cases y : q = s
    · subst y
      rw [if_pos ⟨rfl, rfl⟩, if_pos rfl, t6]
    · have : ¬ S q = S s := fun z => y (hRS.inj hC hq hs' z)
      rw [if_neg (fun z => this z.1), if_neg y, sub_zero', t6]
  · obtain ⟨a0, a1, a2, a3, a4, a5, a6, a7, a8, a9, a10, a11, a12, a13, a14, a15⟩ := (hRB k hk).1
    unfold RB1 aT wH
    rw [hK, l24, l25, l26, l29, l32, l33, l34, l35, l36, AR 27 (by omega), AR 28 (by omega), AR 30 (by omega), AR 31 (by omega), l1, cl12 (show far < 12 by omega), cl12 (show s < 12 by omega)]
    simp only [h3k, p3k]
    exact ⟨a0, a1, a2, rfl, rfl, fun _ _ => rfl, a6, a7, rfl, a9, rfl, rfl, rfl, rfl, rfl, a15⟩
end O67
