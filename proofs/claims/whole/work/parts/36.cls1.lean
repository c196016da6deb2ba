/-! ===== THE CLASS's SMALL METHODS ===== -/
section C36
variable {σ : Mm} {c : Nat} {E S L B G H Q : Nat → Nat} {Z : Nat → List Nat} {w : Bool} {μ : Ms} (d : Nat)
theorem sz_ok {k n : Nat} (h : k < n) (hn : n ≤ 1000) : ¬ nI n - 1 < nI k := by
  obtain ⟨m, rfl⟩ : ∃ m, n = m + 1 := ⟨n - 1, by omega⟩
  rw [nI_pred]
  exact nI_nlt (by omega) (by omega)
theorem sz_no {x : Int32} {n : Nat} (hn : n ≤ 1000) (h : x < 0 ∨ nI n ≤ x) (h0 : ¬ x < 0) : nI n - 1 < x := by
  have h1 := h.resolve_left h0
  obtain ⟨j, hj, rfl⟩ := nI_of h0
  rw [nI_leI (by omega) hj] at h1
  cases n with
  | zero =>
    rw [show nI 0 - 1 = -1 from rfl, Int32.lt_iff_toInt_lt, nI_toInt hj]
    exact Int.lt_of_lt_of_le (by decide) (Int.natCast_nonneg j)
  | succ m => rw [nI_pred]; exact nI_lt (by omega) hj
theorem c_within (v lo hi : Int32) (σ : Mm) : runc d 109 [.int v, .int lo, .int hi] σ = some (some (.int (bZ (¬ v < lo ∧ ¬ hi < v))), σ) := by
  by_cases h1 : v < lo <;> by_cases h2 : hi < v <;> simp [h1, h2, bZ, rc_C_within, e_C_within_0, e_C_within_5, e_C_within_10, e_C_within_14, e_C_within_15]
theorem c_div {x y : Int32} (h : 1 ≤ y) (σ : Mm) : runc d 110 [.int x, .int y] σ = some (some (.int (dvu x y)), σ) := by
  have h0 : ¬ y = 0 := by rintro rfl; exact absurd h (by decide)
  simp [psh_some, psh_none, -Int32.not_lt, -Int32.not_le, rc_C_dividedUp, e_C_dividedUp_0, e_C_dividedUp_5, e_C_dividedUp_9, e_C_dividedUp_16, h, h0, dvu]
theorem c_size {l : Nat} (h : mK σ l = 1) : runc d 189 [.ref l] σ = some (some (.int (mI σ 1 l 2)), σ) := by
  simp [psh_some, psh_none, -Int32.not_lt, -Int32.not_le, rc_AL_size, e_AL_size_0, h]
theorem c_get {l e n k : Nat} {g : Nat → Nat} (h : Lst σ l e n g) (hn : n ≤ 1000) (hk : k < n) : runc (d + 2) 191 [.ref l, .int (nI k)] σ = some (some (.ref (g k)), σ) := by
  obtain ⟨a1, a2, a3⟩ := h
  rcases a3 with ⟨b1, b2⟩ | ⟨b1, b2, b3, b4, b5, b6⟩
  · omega
  have i1 : ix (nI k) (mN σ e) = true := ix_of (by omega) (by omega)
  have i2 : ¬ nI k < 0 := nI_pos (by omega)
  have i3 : nI k < nI n := nI_lt hk (by omega)
  simp [psh_some, psh_none, -Int32.not_lt, -Int32.not_le, va_rf, vd, vr, isR_r, isR_n, isA_r, isI_i, isI_r, isR_i, ar, akI, akZ, akB, akO, mI_sI, mP_sI, mK_sI, mN_sI, mX_sI, mP_sP, mI_sP, mK_sP, mN_sP, mX_sP, rc_AL_get, e_AL_get_0, e_AL_get_8, e_AL_get_14, rc_OJ_checkIndex, e_OJ_checkIndex_0, e_OJ_checkIndex_6, rc_PC_checkIndex, e_PC_checkIndex_0, e_PC_checkIndex_4, e_PC_checkIndex_16, rc_AL_elementData, e_AL_elementData_0, a1, a2, b1, b2, b6 k hk, i1, i2, i3, cl1000 (show k < 1000 by omega)]
theorem c_stopAt (hF : FL σ c) (hX : RX σ c E S L B G μ) (hC : Cn μ) {k : Nat} (hk : k < nS μ) (hK : mK σ (S k) = 10) : runc (d + 3) 91 [.ref c, .int (nI k)] σ = some (some (.ref (S k)), σ) := by
  have hl := hX.1
  have hc := hC.s.2
  have i1 := sz_ok hk (by omega)
  have i2 : ¬ nI k < 0 := nI_pos (by omega)
  simp [psh_some, psh_none, -Int32.not_lt, -Int32.not_le, va_rf, vd, vr, isR_r, isR_n, isA_r, isI_i, isI_r, isR_i, ar, akI, akZ, akB, akO, mI_sI, mP_sI, mK_sI, mN_sI, mX_sI, mP_sP, mI_sP, mK_sP, mN_sP, mX_sP, rc_C_stopAt, e_C_stopAt_0, e_C_stopAt_11, e_C_stopAt_16, e_C_stopAt_19, e_C_stopAt_29, e_C_stopAt_35, e_C_stopAt_36, fK_1 hF, fK_2 hF, fK_3 hF, fK_4 hF, fK_5 hF, fK_6 hF, fN_6 hF, fK_7 hF, fN_7 hF, fK_8 hF, fN_8 hF, fK_9 hF, fN_9 hF, fK_10 hF, fK_11 hF, fN_11 hF, fK_12 hF, fK_13 hF, fN_13 hF, fK_14 hF, fN_14 hF, fK_15 hF, fN_15 hF, fK_16 hF, fN_16 hF, fP_12_0 hF, fP_12_1 hF, fP_12_2 hF, fP_12_3 hF, fP_12_4 hF, fP_12_5 hF, fP_12_6 hF, fP_12_7 hF, fP_4_0 hF, fP_4_1 hF, fP_4_2 hF, fP_4_3 hF, fP_11_0 hF, fP_7_0 hF, fP_7_1 hF, fP_7_2 hF, hF.cc, c_size _ hl.1, hl.2.1, c_within, i1, i2, bZ_t, c_get _ hl (by omega) hk, hK, bZ]
theorem c_stopAt_no (hF : FL σ c) (hX : RX σ c E S L B G μ) (hC : Cn μ) {x : Int32} (h : x < 0 ∨ nI (nS μ) ≤ x) : runc (d + 3) 91 [.ref c, .int x] σ = some (some .null, σ) := by
  have hl := hX.1
  have hc := hC.s.2
  have i1 : ¬ (¬ x < 0 ∧ ¬ nI (nS μ) - 1 < x) := fun z => z.2 (sz_no (by omega) h z.1)
  have i2 := bZ_f i1
  simp [psh_some, psh_none, -Int32.not_lt, -Int32.not_le, va_rf, vd, vr, isR_r, isR_n, isA_r, isI_i, isI_r, isR_i, ar, akI, akZ, akB, akO, mI_sI, mP_sI, mK_sI, mN_sI, mX_sI, mP_sP, mI_sP, mK_sP, mN_sP, mX_sP, rc_C_stopAt, e_C_stopAt_0, e_C_stopAt_11, e_C_stopAt_16, e_C_stopAt_19, e_C_stopAt_29, e_C_stopAt_35, e_C_stopAt_36, fK_1 hF, fK_2 hF, fK_3 hF, fK_4 hF, fK_5 hF, fK_6 hF, fN_6 hF, fK_7 hF, fN_7 hF, fK_8 hF, fN_8 hF, fK_9 hF, fN_9 hF, fK_10 hF, fK_11 hF, fN_11 hF, fK_12 hF, fK_13 hF, fN_13 hF, fK_14 hF, fN_14 hF, fK_15 hF, fN_15 hF, fK_16 hF, fN_16 hF, fP_12_0 hF, fP_12_1 hF, fP_12_2 hF, fP_12_3 hF, fP_12_4 hF, fP_12_5 hF, fP_12_6 hF, fP_12_7 hF, fP_4_0 hF, fP_4_1 hF, fP_4_2 hF, fP_4_3 hF, fP_11_0 hF, fP_7_0 hF, fP_7_1 hF, fP_7_2 hF, hF.cc, c_size _ hl.1, hl.2.1, c_within, i2]
theorem c_legAt (hF : FL σ c) (hX : RX σ c E S L B G μ) (hC : Cn μ) {k : Nat} (hk : k < nL μ) (hK : mK σ (L k) = 6) : runc (d + 3) 92 [.ref c, .int (nI k)] σ = some (some (.ref (L k)), σ) := by
  have hl := hX.2.1
  have hc := hC.l.2
  have i1 := sz_ok hk (by omega)
  have i2 : ¬ nI k < 0 := nI_pos (by omega)
  simp [psh_some, psh_none, -Int32.not_lt, -Int32.not_le, va_rf, vd, vr, isR_r, isR_n, isA_r, isI_i, isI_r, isR_i, ar, akI, akZ, akB, akO, mI_sI, mP_sI, mK_sI, mN_sI, mX_sI, mP_sP, mI_sP, mK_sP, mN_sP, mX_sP, rc_C_legAt, e_C_legAt_0, e_C_legAt_11, e_C_legAt_16, e_C_legAt_19, e_C_legAt_29, e_C_legAt_35, e_C_legAt_36, fK_1 hF, fK_2 hF, fK_3 hF, fK_4 hF, fK_5 hF, fK_6 hF, fN_6 hF, fK_7 hF, fN_7 hF, fK_8 hF, fN_8 hF, fK_9 hF, fN_9 hF, fK_10 hF, fK_11 hF, fN_11 hF, fK_12 hF, fK_13 hF, fN_13 hF, fK_14 hF, fN_14 hF, fK_15 hF, fN_15 hF, fK_16 hF, fN_16 hF, fP_12_0 hF, fP_12_1 hF, fP_12_2 hF, fP_12_3 hF, fP_12_4 hF, fP_12_5 hF, fP_12_6 hF, fP_12_7 hF, fP_4_0 hF, fP_4_1 hF, fP_4_2 hF, fP_4_3 hF, fP_11_0 hF, fP_7_0 hF, fP_7_1 hF, fP_7_2 hF, hF.cc, c_size _ hl.1, hl.2.1, c_within, i1, i2, bZ_t, c_get _ hl (by omega) hk, hK, bZ]
theorem c_legAt_no (hF : FL σ c) (hX : RX σ c E S L B G μ) (hC : Cn μ) {x : Int32} (h : x < 0 ∨ nI (nL μ) ≤ x) : runc (d + 3) 92 [.ref c, .int x] σ = some (some .null, σ) := by
  have hl := hX.2.1
  have hc := hC.l.2
  have i1 : ¬ (¬ x < 0 ∧ ¬ nI (nL μ) - 1 < x) := fun z => z.2 (sz_no (by omega) h z.1)
  have i2 := bZ_f i1
  simp [psh_some, psh_none, -Int32.not_lt, -Int32.not_le, va_rf, vd, vr, isR_r, isR_n, isA_r, isI_i, isI_r, isR_i, ar, akI, akZ, akB, akO, mI_sI, mP_sI, mK_sI, mN_sI, mX_sI, mP_sP, mI_sP, mK_sP, mN_sP, mX_sP, rc_C_legAt, e_C_legAt_0, e_C_legAt_11, e_C_legAt_16, e_C_legAt_19, e_C_legAt_29, e_C_legAt_35, e_C_legAt_36, fK_1 hF, fK_2 hF, fK_3 hF, fK_4 hF, fK_5 hF, fK_6 hF, fN_6 hF, fK_7 hF, fN_7 hF, fK_8 hF, fN_8 hF, fK_9 hF, fN_9 hF, fK_10 hF, fK_11 hF, fN_11 hF, fK_12 hF, fK_13 hF, fN_13 hF, fK_14 hF, fN_14 hF, fK_15 hF, fN_15 hF, fK_16 hF, fN_16 hF, fP_12_0 hF, fP_12_1 hF, fP_12_2 hF, fP_12_3 hF, fP_12_4 hF, fP_12_5 hF, fP_12_6 hF, fP_12_7 hF, fP_4_0 hF, fP_4_1 hF, fP_4_2 hF, fP_4_3 hF, fP_11_0 hF, fP_7_0 hF, fP_7_1 hF, fP_7_2 hF, hF.cc, c_size _ hl.1, hl.2.1, c_within, i2]
theorem c_boatAt (hF : FL σ c) (hX : RX σ c E S L B G μ) (hC : Cn μ) {k : Nat} (hk : k < nB μ) (hK : mK σ (B k) = 3) : runc (d + 3) 93 [.ref c, .int (nI k)] σ = some (some (.ref (B k)), σ) := by
  have hl := hX.2.2.1
  have hc := hC.b.2
  have i1 := sz_ok hk (by omega)
  have i2 : ¬ nI k < 0 := nI_pos (by omega)
  simp [psh_some, psh_none, -Int32.not_lt, -Int32.not_le, va_rf, vd, vr, isR_r, isR_n, isA_r, isI_i, isI_r, isR_i, ar, akI, akZ, akB, akO, mI_sI, mP_sI, mK_sI, mN_sI, mX_sI, mP_sP, mI_sP, mK_sP, mN_sP, mX_sP, rc_C_boatAt, e_C_boatAt_0, e_C_boatAt_11, e_C_boatAt_16, e_C_boatAt_19, e_C_boatAt_29, e_C_boatAt_35, e_C_boatAt_36, fK_1 hF, fK_2 hF, fK_3 hF, fK_4 hF, fK_5 hF, fK_6 hF, fN_6 hF, fK_7 hF, fN_7 hF, fK_8 hF, fN_8 hF, fK_9 hF, fN_9 hF, fK_10 hF, fK_11 hF, fN_11 hF, fK_12 hF, fK_13 hF, fN_13 hF, fK_14 hF, fN_14 hF, fK_15 hF, fN_15 hF, fK_16 hF, fN_16 hF, fP_12_0 hF, fP_12_1 hF, fP_12_2 hF, fP_12_3 hF, fP_12_4 hF, fP_12_5 hF, fP_12_6 hF, fP_12_7 hF, fP_4_0 hF, fP_4_1 hF, fP_4_2 hF, fP_4_3 hF, fP_11_0 hF, fP_7_0 hF, fP_7_1 hF, fP_7_2 hF, hF.cc, c_size _ hl.1, hl.2.1, c_within, i1, i2, bZ_t, c_get _ hl (by omega) hk, hK, bZ]
theorem c_boatAt_no (hF : FL σ c) (hX : RX σ c E S L B G μ) (hC : Cn μ) {x : Int32} (h : x < 0 ∨ nI (nB μ) ≤ x) : runc (d + 3) 93 [.ref c, .int x] σ = some (some .null, σ) := by
  have hl := hX.2.2.1
  have hc := hC.b.2
  have i1 : ¬ (¬ x < 0 ∧ ¬ nI (nB μ) - 1 < x) := fun z => z.2 (sz_no (by omega) h z.1)
  have i2 := bZ_f i1
  simp [psh_some, psh_none, -Int32.not_lt, -Int32.not_le, va_rf, vd, vr, isR_r, isR_n, isA_r, isI_i, isI_r, isR_i, ar, akI, akZ, akB, akO, mI_sI, mP_sI, mK_sI, mN_sI, mX_sI, mP_sP, mI_sP, mK_sP, mN_sP, mX_sP, rc_C_boatAt, e_C_boatAt_0, e_C_boatAt_11, e_C_boatAt_16, e_C_boatAt_19, e_C_boatAt_29, e_C_boatAt_35, e_C_boatAt_36, fK_1 hF, fK_2 hF, fK_3 hF, fK_4 hF, fK_5 hF, fK_6 hF, fN_6 hF, fK_7 hF, fN_7 hF, fK_8 hF, fN_8 hF, fK_9 hF, fN_9 hF, fK_10 hF, fK_11 hF, fN_11 hF, fK_12 hF, fK_13 hF, fN_13 hF, fK_14 hF, fN_14 hF, fK_15 hF, fN_15 hF, fK_16 hF, fN_16 hF, fP_12_0 hF, fP_12_1 hF, fP_12_2 hF, fP_12_3 hF, fP_12_4 hF, fP_12_5 hF, fP_12_6 hF, fP_12_7 hF, fP_4_0 hF, fP_4_1 hF, fP_4_2 hF, fP_4_3 hF, fP_11_0 hF, fP_7_0 hF, fP_7_1 hF, fP_7_2 hF, hF.cc, c_size _ hl.1, hl.2.1, c_within, i2]
theorem c_bagAt (hF : FL σ c) (hX : RX σ c E S L B G μ) (hC : Cn μ) {k : Nat} (hk : k < nG μ) (hK : mK σ (G k) = 2) : runc (d + 3) 94 [.ref c, .int (nI k)] σ = some (some (.ref (G k)), σ) := by
  have hl := hX.2.2.2.1
  have hc := hC.g.2
  have i1 := sz_ok hk (by omega)
  have i2 : ¬ nI k < 0 := nI_pos (by omega)
  simp [psh_some, psh_none, -Int32.not_lt, -Int32.not_le, va_rf, vd, vr, isR_r, isR_n, isA_r, isI_i, isI_r, isR_i, ar, akI, akZ, akB, akO, mI_sI, mP_sI, mK_sI, mN_sI, mX_sI, mP_sP, mI_sP, mK_sP, mN_sP, mX_sP, rc_C_bagAt, e_C_bagAt_0, e_C_bagAt_11, e_C_bagAt_16, e_C_bagAt_19, e_C_bagAt_29, e_C_bagAt_35, e_C_bagAt_36, fK_1 hF, fK_2 hF, fK_3 hF, fK_4 hF, fK_5 hF, fK_6 hF, fN_6 hF, fK_7 hF, fN_7 hF, fK_8 hF, fN_8 hF, fK_9 hF, fN_9 hF, fK_10 hF, fK_11 hF, fN_11 hF, fK_12 hF, fK_13 hF, fN_13 hF, fK_14 hF, fN_14 hF, fK_15 hF, fN_15 hF, fK_16 hF, fN_16 hF, fP_12_0 hF, fP_12_1 hF, fP_12_2 hF, fP_12_3 hF, fP_12_4 hF, fP_12_5 hF, fP_12_6 hF, fP_12_7 hF, fP_4_0 hF, fP_4_1 hF, fP_4_2 hF, fP_4_3 hF, fP_11_0 hF, fP_7_0 hF, fP_7_1 hF, fP_7_2 hF, hF.cc, c_size _ hl.1, hl.2.1, c_within, i1, i2, bZ_t, c_get _ hl (by omega) hk, hK, bZ]
theorem c_bagAt_no (hF : FL σ c) (hX : RX σ c E S L B G μ) (hC : Cn μ) {x : Int32} (h : x < 0 ∨ nI (nG μ) ≤ x) : runc (d + 3) 94 [.ref c, .int x] σ = some (some .null, σ) := by
  have hl := hX.2.2.2.1
  have hc := hC.g.2
  have i1 : ¬ (¬ x < 0 ∧ ¬ nI (nG μ) - 1 < x) := fun z => z.2 (sz_no (by omega) h z.1)
  have i2 := bZ_f i1
  simp [psh_some, psh_none, -Int32.not_lt, -Int32.not_le, va_rf, vd, vr, isR_r, isR_n, isA_r, isI_i, isI_r, isR_i, ar, akI, akZ, akB, akO, mI_sI, mP_sI, mK_sI, mN_sI, mX_sI, mP_sP, mI_sP, mK_sP, mN_sP, mX_sP, rc_C_bagAt, e_C_bagAt_0, e_C_bagAt_11, e_C_bagAt_16, e_C_bagAt_19, e_C_bagAt_29, e_C_bagAt_35, e_C_bagAt_36, fK_1 hF, fK_2 hF, fK_3 hF, fK_4 hF, fK_5 hF, fK_6 hF, fN_6 hF, fK_7 hF, fN_7 hF, fK_8 hF, fN_8 hF, fK_9 hF, fN_9 hF, fK_10 hF, fK_11 hF, fN_11 hF, fK_12 hF, fK_13 hF, fN_13 hF, fK_14 hF, fN_14 hF, fK_15 hF, fN_15 hF, fK_16 hF, fN_16 hF, fP_12_0 hF, fP_12_1 hF, fP_12_2 hF, fP_12_3 hF, fP_12_4 hF, fP_12_5 hF, fP_12_6 hF, fP_12_7 hF, fP_4_0 hF, fP_4_1 hF, fP_4_2 hF, fP_4_3 hF, fP_11_0 hF, fP_7_0 hF, fP_7_1 hF, fP_7_2 hF, hF.cc, c_size _ hl.1, hl.2.1, c_within, i2]
theorem RS.inj (h : RS σ S μ) (hC : Cn μ) {i j : Nat} (hi : i < nS μ) (hj : j < nS μ) (e : S i = S j) : i = j := by
  have a := (h i hi).2.1
  have b := (h j hj).2.1
  have := hC.s.2
  rw [e, b, nI_eq (by omega) (by omega)] at a
  omega
theorem RB.inj (h : RB σ S B H μ) (hC : Cn μ) {i j : Nat} (hi : i < nB μ) (hj : j < nB μ) (e : B i = B j) : i = j := by
  have a := (h i hi).1.2.1
  have b := (h j hj).1.2.1
  have := hC.b.2
  rw [e, b, nI_eq (by omega) (by omega)] at a
  omega
theorem RB.K (h : RB σ S B H μ) {k : Nat} (hk : k < nB μ) : mK σ (B k) = 3 := (h k hk).1.1
theorem c_moored (hF : FL σ c) (hX : RX σ c E S L B G μ) (hC : Cn μ) (hB : RB σ S B H μ) {k : Nat} (hk : k < nB μ) : runc (d + 4) 95 [.ref c, .int (nI k)] σ = some (some (if μ.2 24 k = 0 then .ref (B k) else .null), σ) := by
  have hb := (hB k hk).1
  by_cases e : μ.2 24 k = 0 <;> simp [psh_some, psh_none, -Int32.not_lt, -Int32.not_le, va_rf, vd, vr, isR_r, isR_n, isA_r, isI_i, isI_r, isR_i, ar, akI, akZ, akB, akO, mI_sI, mP_sI, mK_sI, mN_sI, mX_sI, mP_sP, mI_sP, mK_sP, mN_sP, mX_sP, rc_C_mooredBoat, e_C_mooredBoat_0, e_C_mooredBoat_5, e_C_mooredBoat_10, e_C_mooredBoat_17, e_C_mooredBoat_21, e_C_mooredBoat_22, fK_1 hF, fK_2 hF, fK_3 hF, fK_4 hF, fK_5 hF, fK_6 hF, fN_6 hF, fK_7 hF, fN_7 hF, fK_8 hF, fN_8 hF, fK_9 hF, fN_9 hF, fK_10 hF, fK_11 hF, fN_11 hF, fK_12 hF, fK_13 hF, fN_13 hF, fK_14 hF, fN_14 hF, fK_15 hF, fN_15 hF, fK_16 hF, fN_16 hF, fP_12_0 hF, fP_12_1 hF, fP_12_2 hF, fP_12_3 hF, fP_12_4 hF, fP_12_5 hF, fP_12_6 hF, fP_12_7 hF, fP_4_0 hF, fP_4_1 hF, fP_4_2 hF, fP_4_3 hF, fP_11_0 hF, fP_7_0 hF, fP_7_1 hF, fP_7_2 hF, hF.cc, c_boatAt _ hF hX hC hk hb.1, hb.1, hb.2.2.2.1, e]
theorem c_moored_no (hF : FL σ c) (hX : RX σ c E S L B G μ) (hC : Cn μ) {x : Int32} (h : x < 0 ∨ nI (nB μ) ≤ x) : runc (d + 4) 95 [.ref c, .int x] σ = some (some .null, σ) := by
  simp [psh_some, psh_none, -Int32.not_lt, -Int32.not_le, va_rf, vd, vr, isR_r, isR_n, isA_r, isI_i, isI_r, isR_i, ar, akI, akZ, akB, akO, mI_sI, mP_sI, mK_sI, mN_sI, mX_sI, mP_sP, mI_sP, mK_sP, mN_sP, mX_sP, rc_C_mooredBoat, e_C_mooredBoat_0, e_C_mooredBoat_5, e_C_mooredBoat_10, e_C_mooredBoat_17, e_C_mooredBoat_21, e_C_mooredBoat_22, fK_1 hF, fK_2 hF, fK_3 hF, fK_4 hF, fK_5 hF, fK_6 hF, fN_6 hF, fK_7 hF, fN_7 hF, fK_8 hF, fN_8 hF, fK_9 hF, fN_9 hF, fK_10 hF, fK_11 hF, fN_11 hF, fK_12 hF, fK_13 hF, fN_13 hF, fK_14 hF, fN_14 hF, fK_15 hF, fN_15 hF, fK_16 hF, fN_16 hF, fP_12_0 hF, fP_12_1 hF, fP_12_2 hF, fP_12_3 hF, fP_12_4 hF, fP_12_5 hF, fP_12_6 hF, fP_12_7 hF, fP_4_0 hF, fP_4_1 hF, fP_4_2 hF, fP_4_3 hF, fP_11_0 hF, fP_7_0 hF, fP_7_1 hF, fP_7_2 hF, hF.cc, c_boatAt_no _ hF hX hC h]
theorem c_weight (hB : RB σ S B H μ) (hP : RP σ B μ) {k : Nat} (hk : k < nB μ) : runc d 3 [.ref (B k)] σ = some (some (.int (wgt μ k)), σ) := by
  have hb := (hB k hk).1
  have hh := (hB k hk).2
  simp [psh_some, psh_none, -Int32.not_lt, -Int32.not_le, va_rf, vd, vr, isR_r, isR_n, isA_r, isI_i, isI_r, isR_i, ar, akI, akZ, akB, akO, mI_sI, mP_sI, mK_sI, mN_sI, mX_sI, mP_sP, mI_sP, mK_sP, mN_sP, mX_sP, rc_Boat_weight, e_Boat_weight_0, hb.1, hb.2.2.1, hh.1, hh.2.1, hb.2.2.2.2.2.2.1, (hP k hk).2, wgt]
theorem gnd_eq (s w : Int32) : (if 20 < s + w then s + w else 20) = gnd s w := by
  unfold gnd
  generalize s + w = x
  by_cases h : 20 < x
  · rw [if_pos h, if_pos (Int32.le_of_lt h)]
  · rw [if_neg h]
    by_cases h2 : 20 ≤ x
    · rw [if_pos h2]
      exact Int32.le_antisymm h2 (by simpa using h)
    · rw [if_neg h2]
theorem gnd_pos (s w : Int32) : 1 ≤ gnd s w := by
  unfold gnd
  split
  · rename_i h
    exact Int32.le_trans (by decide) h
  · decide
theorem c_ground {h : Nat} {k : Nat} (hh : RH σ h μ k) (x : Int32) : runc d 16 [.ref h, .int x] σ = some (some (.int (gnd (μ.2 19 k) x)), σ) := by
  simp [psh_some, psh_none, -Int32.not_lt, -Int32.not_le, va_rf, vd, vr, isR_r, isR_n, isA_r, isI_i, isI_r, isR_i, ar, akI, akZ, akB, akO, mI_sI, mP_sI, mK_sI, mN_sI, mX_sI, mP_sP, mI_sP, mK_sP, mN_sP, mX_sP, rc_Hull_ground, e_Hull_ground_0, hh.1, hh.2.2.2.1, gnd_eq]
theorem c_burnt {h : Nat} {k : Nat} (hh : RH σ h μ k) (x : Int32) : runc (d + 1) 17 [.ref h, .int x] σ = some (some (.int (dvu (μ.2 20 k * x) 60)), σ) := by
  simp [psh_some, psh_none, -Int32.not_lt, -Int32.not_le, va_rf, vd, vr, isR_r, isR_n, isA_r, isI_i, isI_r, isR_i, ar, akI, akZ, akB, akO, mI_sI, mP_sI, mK_sI, mN_sI, mX_sI, mP_sP, mI_sP, mK_sP, mN_sP, mX_sP, rc_Hull_burnt, e_Hull_burnt_0, e_Hull_burnt_11, hh.1, hh.2.2.2.2.1, c_div d (x := μ.2 20 k * x) (y := 60) (by decide)]
theorem c_minutesAt {l : Nat} (hl : RLg σ S L μ) (hk : l < nL μ) {g : Int32} (hg : 1 ≤ g) : runc (d + 1) 22 [.ref (L l), .int g] σ = some (some (.int (dvu (μ.2 10 l * 60) g)), σ) := by
  have h := hl l hk
  simp [psh_some, psh_none, -Int32.not_lt, -Int32.not_le, va_rf, vd, vr, isR_r, isR_n, isA_r, isI_i, isI_r, isR_i, ar, akI, akZ, akB, akO, mI_sI, mP_sI, mK_sI, mN_sI, mX_sI, mP_sP, mI_sP, mK_sP, mN_sP, mX_sP, rc_Leg_minutesAt, e_Leg_minutesAt_0, e_Leg_minutesAt_11, h.1, h.2.2.2.2, c_div d (x := μ.2 10 l * 60) hg]
theorem c_minutesBack (x y : Int32) {g : Int32} (hg : 1 ≤ g) : runc (d + 1) 111 [.int x, .int y, .int g] σ = some (some (.int (dvu (x * y) g)), σ) := by
  simp [psh_some, psh_none, -Int32.not_lt, -Int32.not_le, va_rf, vd, vr, isR_r, isR_n, isA_r, isI_i, isI_r, isR_i, ar, akI, akZ, akB, akO, mI_sI, mP_sI, mK_sI, mN_sI, mX_sI, mP_sP, mI_sP, mK_sP, mN_sP, mX_sP, rc_C_minutesBack, e_C_minutesBack_0, e_C_minutesBack_7, c_div d (x := x * y) hg]
theorem c_touches (hS : RS σ S μ) (hC : Cn μ) (hL : RLg σ S L μ) {l s : Nat} (hl : l < nL μ) (hs : s < nS μ) (ha : lA μ l < nS μ) (hb : lB μ l < nS μ) : runc d 20 [.ref (L l), .ref (S s)] σ = some (some (.int (bZ (s = lA μ l ∨ s = lB μ l))), σ) := by
  have h := hL l hl
  have i1 : (S s = S (lA μ l)) ↔ s = lA μ l := ⟨fun e => hS.inj hC hs ha e, fun e => by rw [e]⟩
  have i2 : (S s = S (lB μ l)) ↔ s = lB μ l := ⟨fun e => hS.inj hC hs hb e, fun e => by rw [e]⟩
  by_cases c1 : s = lA μ l
  · simp [psh_some, psh_none, -Int32.not_lt, -Int32.not_le, va_rf, vd, vr, isR_r, isR_n, isA_r, isI_i, isI_r, isR_i, ar, akI, akZ, akB, akO, mI_sI, mP_sI, mK_sI, mN_sI, mX_sI, mP_sP, mI_sP, mK_sP, mN_sP, mX_sP, rc_Leg_touches, e_Leg_touches_0, e_Leg_touches_8, e_Leg_touches_16, e_Leg_touches_20, e_Leg_touches_21, h.1, h.2.2.1, h.2.2.2.1, c1, bZ]
  · by_cases c2 : s = lB μ l
    · have q1 : ¬ S s = S (lA μ l) := fun z => c1 (i1.mp z)
      have q2 : S s = S (lB μ l) := i2.mpr c2
      rw [bZ_t (Or.inr c2)]
      simp [psh_some, psh_none, -Int32.not_lt, -Int32.not_le, va_rf, vd, vr, isR_r, isR_n, isA_r, isI_i, isI_r, isR_i, ar, akI, akZ, akB, akO, mI_sI, mP_sI, mK_sI, mN_sI, mX_sI, mP_sP, mI_sP, mK_sP, mN_sP, mX_sP, rc_Leg_touches, e_Leg_touches_0, e_Leg_touches_8, e_Leg_touches_16, e_Leg_touches_20, e_Leg_touches_21, h.1, h.2.2.1, h.2.2.2.1, q1]
      exact q2
    · simp [psh_some, psh_none, -Int32.not_lt, -Int32.not_le, va_rf, vd, vr, isR_r, isR_n, isA_r, isI_i, isI_r, isR_i, ar, akI, akZ, akB, akO, mI_sI, mP_sI, mK_sI, mN_sI, mX_sI, mP_sP, mI_sP, mK_sP, mN_sP, mX_sP, rc_Leg_touches, e_Leg_touches_0, e_Leg_touches_8, e_Leg_touches_16, e_Leg_touches_20, e_Leg_touches_21, h.1, h.2.2.1, h.2.2.2.1, i1, i2, c1, c2, bZ]
theorem c_otherEnd (hS : RS σ S μ) (hC : Cn μ) (hL : RLg σ S L μ) {l s : Nat} (hl : l < nL μ) (hs : s < nS μ) (ha : lA μ l < nS μ) : runc d 21 [.ref (L l), .ref (S s)] σ = some (some (.ref (S (if s = lA μ l then lB μ l else lA μ l))), σ) := by
  have h := hL l hl
  have i1 : (S s = S (lA μ l)) ↔ s = lA μ l := ⟨fun e => hS.inj hC hs ha e, fun e => by rw [e]⟩
  by_cases c1 : s = lA μ l
  · simp [psh_some, psh_none, -Int32.not_lt, -Int32.not_le, va_rf, vd, vr, isR_r, isR_n, isA_r, isI_i, isI_r, isR_i, ar, akI, akZ, akB, akO, mI_sI, mP_sI, mK_sI, mN_sI, mX_sI, mP_sP, mI_sP, mK_sP, mN_sP, mX_sP, rc_Leg_otherEnd, e_Leg_otherEnd_0, e_Leg_otherEnd_8, e_Leg_otherEnd_15, e_Leg_otherEnd_19, h.1, h.2.2.1, h.2.2.2.1, c1]
  · simp [psh_some, psh_none, -Int32.not_lt, -Int32.not_le, va_rf, vd, vr, isR_r, isR_n, isA_r, isI_i, isI_r, isR_i, ar, akI, akZ, akB, akO, mI_sI, mP_sI, mK_sI, mN_sI, mX_sI, mP_sP, mI_sP, mK_sP, mN_sP, mX_sP, rc_Leg_otherEnd, e_Leg_otherEnd_0, e_Leg_otherEnd_8, e_Leg_otherEnd_15, e_Leg_otherEnd_19, h.1, h.2.2.1, h.2.2.2.1, i1, c1]
/-- the first fact of a chain that counts -/
def kw (μ : Ms) (t : Int32) (n : Nat) (x : Int32) : List Nat → Int32
  | [] => x
  | f :: r => if f < n ∧ ¬ t < μ.2 14 f then μ.2 15 f else kw μ t n x r
theorem known_lp (hF : FL σ c) (hC : Cn μ) (hR : RF σ c Z μ) (s t x : Int32) {n : Nat} (hn : n ≤ 160) : ∀ (r : List Nat) (h : Int32) (j : Nat), lkd (mI σ 35 (c + 8)) h r → (∀ f ∈ r, f < nF μ) → j + r.length ≤ nF μ → run d 13 24 [.ref (c + 5), .int s, .int t, .int (nI n), .int x, .int h, .int (nI j)] [] σ = some (some (.int (kw μ t n x r)), σ) := by
  have hf := hC.f
  intro r
  induction r with
  | nil =>
    intro h j hl _ _
    have hl : h = -1 := hl
    subst hl
    by_cases e : nI (nF μ) ≤ nI j <;> simp [psh_some, psh_none, -Int32.not_lt, -Int32.not_le, va_rf, vd, vr, isR_r, isR_n, isA_r, isI_i, isI_r, isR_i, ar, akI, akZ, akB, akO, mI_sI, mP_sI, mK_sI, mN_sI, mX_sI, mP_sP, mI_sP, mK_sP, mN_sP, mX_sP, e_Facts_known_24, e_Facts_known_33, e_Facts_known_87, fK_1 hF, fK_2 hF, fK_3 hF, fK_4 hF, fK_5 hF, fK_6 hF, fN_6 hF, fK_7 hF, fN_7 hF, fK_8 hF, fN_8 hF, fK_9 hF, fN_9 hF, fK_10 hF, fK_11 hF, fN_11 hF, fK_12 hF, fK_13 hF, fN_13 hF, fK_14 hF, fN_14 hF, fK_15 hF, fN_15 hF, fK_16 hF, fN_16 hF, fP_12_0 hF, fP_12_1 hF, fP_12_2 hF, fP_12_3 hF, fP_12_4 hF, fP_12_5 hF, fP_12_6 hF, fP_12_7 hF, fP_4_0 hF, fP_4_1 hF, fP_4_2 hF, fP_4_3 hF, fP_11_0 hF, fP_7_0 hF, fP_7_1 hF, fP_7_2 hF, hF.cc, hR.1, hf.1, e, kw]
  | cons f r ih =>
    intro h j hl hm hj
    obtain ⟨h1, h2⟩ := hl
    subst h1
    have hfn := hm f (by simp)
    simp only [List.length_cons] at hj
    have i1 : ¬ nI (nF μ) ≤ nI j := nI_ge (by omega) (by omega)
    have i2 : ¬ nI f < 0 := nI_pos (by omega)
    have i3 : ¬ nI (nF μ) ≤ nI f := nI_ge (by omega) (by omega)
    have i4 : ix (nI f) 160 = true := ix_of (by omega) (by omega)
    have i5 : (nI n ≤ nI f) = (n ≤ f) := propext (nI_leI (by omega) (by omega))
    have hv := hR.2.1 f hfn
    have h3 := ih _ (j + 1) h2 (fun g hg => hm g (by simp [hg])) (by omega)
    rw [nI_succ] at h3
    by_cases c1 : n ≤ f
    · have c1' : ¬ f < n := by omega
      simp [psh_some, psh_none, -Int32.not_lt, -Int32.not_le, va_rf, vd, vr, isR_r, isR_n, isA_r, isI_i, isI_r, isR_i, ar, akI, akZ, akB, akO, mI_sI, mP_sI, mK_sI, mN_sI, mX_sI, mP_sP, mI_sP, mK_sP, mN_sP, mX_sP, rc_Facts_known, e_Facts_known_0, e_Facts_known_4, e_Facts_known_10, e_Facts_known_13, e_Facts_known_24, e_Facts_known_33, e_Facts_known_38, e_Facts_known_47, e_Facts_known_53, e_Facts_known_64, e_Facts_known_72, e_Facts_known_87, fK_1 hF, fK_2 hF, fK_3 hF, fK_4 hF, fK_5 hF, fK_6 hF, fN_6 hF, fK_7 hF, fN_7 hF, fK_8 hF, fN_8 hF, fK_9 hF, fN_9 hF, fK_10 hF, fK_11 hF, fN_11 hF, fK_12 hF, fK_13 hF, fN_13 hF, fK_14 hF, fN_14 hF, fK_15 hF, fN_15 hF, fK_16 hF, fN_16 hF, fP_12_0 hF, fP_12_1 hF, fP_12_2 hF, fP_12_3 hF, fP_12_4 hF, fP_12_5 hF, fP_12_6 hF, fP_12_7 hF, fP_4_0 hF, fP_4_1 hF, fP_4_2 hF, fP_4_3 hF, fP_11_0 hF, fP_7_0 hF, fP_7_1 hF, fP_7_2 hF, hF.cc, hR.1, hf.1, i1, i2, i3, i4, i5, c1, c1', cl1000 (show f < 1000 by omega), kw, h3]
    · have c1' : f < n := by omega
      by_cases c2 : t < μ.2 14 f <;> simp [psh_some, psh_none, -Int32.not_lt, -Int32.not_le, va_rf, vd, vr, isR_r, isR_n, isA_r, isI_i, isI_r, isR_i, ar, akI, akZ, akB, akO, mI_sI, mP_sI, mK_sI, mN_sI, mX_sI, mP_sP, mI_sP, mK_sP, mN_sP, mX_sP, rc_Facts_known, e_Facts_known_0, e_Facts_known_4, e_Facts_known_10, e_Facts_known_13, e_Facts_known_24, e_Facts_known_33, e_Facts_known_38, e_Facts_known_47, e_Facts_known_53, e_Facts_known_64, e_Facts_known_72, e_Facts_known_87, fK_1 hF, fK_2 hF, fK_3 hF, fK_4 hF, fK_5 hF, fK_6 hF, fN_6 hF, fK_7 hF, fN_7 hF, fK_8 hF, fN_8 hF, fK_9 hF, fN_9 hF, fK_10 hF, fK_11 hF, fN_11 hF, fK_12 hF, fK_13 hF, fN_13 hF, fK_14 hF, fN_14 hF, fK_15 hF, fN_15 hF, fK_16 hF, fN_16 hF, fP_12_0 hF, fP_12_1 hF, fP_12_2 hF, fP_12_3 hF, fP_12_4 hF, fP_12_5 hF, fP_12_6 hF, fP_12_7 hF, fP_4_0 hF, fP_4_1 hF, fP_4_2 hF, fP_4_3 hF, fP_11_0 hF, fP_7_0 hF, fP_7_1 hF, fP_7_2 hF, hF.cc, hR.1, hf.1, i1, i2, i3, i4, i5, c1, c1', cl1000 (show f < 1000 by omega), kw, h3, hv, c2]
end C36
