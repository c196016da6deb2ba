/-! ===== THE CLASS's TAPE AND THE RULES THAT ARE READ, AS A PURE STATE ===== -/
section T71
variable {σ : Mm} {c r : Nat} {ρ : Ms} {t : Nat → Int32} (d : Nat)
def rko (k : Nat) : Nat := if k = 71 then 1 else if k = 75 then 2 else if k = 80 then 3 else if k = 86 then 4 else if k = 90 then 5 else if k = 95 then 6 else if k = 100 then 7 else 0
/-- a memory in which the tape's numbers are ρ's first, the rules at r ρ's rest -/
def cP (σ : Mm) (c r : Nat) (ρ : Ms) : Mm := (fun k q f => if k = 11 ∧ q = c + 10 ∧ f ≠ 7 then ρ.1 f else if k = 9 ∧ q = r ∧ f = 7 then ρ.1 7 else if rko k ≠ 0 ∧ q = r + rko k then ρ.2 k f else mI σ k q f, σ.2)
theorem mP_cP (σ : Mm) (c r : Nat) (ρ : Ms) : mP (cP σ c r ρ) = mP σ := rfl
theorem mK_cP (σ : Mm) (c r : Nat) (ρ : Ms) : mK (cP σ c r ρ) = mK σ := rfl
theorem mN_cP (σ : Mm) (c r : Nat) (ρ : Ms) : mN (cP σ c r ρ) = mN σ := rfl
theorem mX_cP (σ : Mm) (c r : Nat) (ρ : Ms) : mX (cP σ c r ρ) = mX σ := rfl
theorem mS_cP (σ : Mm) (c r : Nat) (ρ : Ms) : mS (cP σ c r ρ) = mS σ := rfl
theorem mI_cP (σ : Mm) (c r : Nat) (ρ : Ms) (k q f : Nat) : mI (cP σ c r ρ) k q f = if k = 11 ∧ q = c + 10 ∧ f ≠ 7 then ρ.1 f else if k = 9 ∧ q = r ∧ f = 7 then ρ.1 7 else if rko k ≠ 0 ∧ q = r + rko k then ρ.2 k f else mI σ k q f := rfl
theorem cT (σ : Mm) (c r : Nat) (ρ : Ms) {f : Nat} (h : f ≠ 7) : mI (cP σ c r ρ) 11 (c + 10) f = ρ.1 f := by rw [mI_cP, if_pos ⟨rfl, rfl, h⟩]
theorem cT_s (σ : Mm) (c r : Nat) (ρ : Ms) {f : Nat} (h : f ≠ 7) (v : Int32) : sI (cP σ c r ρ) 11 (c + 10) f v = cP σ c r (fF ρ f v) := by
  refine Prod.ext (funext fun k => funext fun q => funext fun e => ?_) rfl
  show mI (sI (cP σ c r ρ) 11 (c + 10) f v) k q e = mI (cP σ c r (fF ρ f v)) k q e
  rw [mI_sI, mI_cP, mI_cP, fF_1, fF_1, if_neg (show ¬ 7 = f from fun z => h z.symm)]
  by_cases z : k = 11 ∧ q = c + 10 ∧ e = f
  · obtain ⟨rfl, rfl, rfl⟩ := z
    simp [h]
  · rw [if_neg z]
    by_cases y : k = 11 ∧ q = c + 10 ∧ e ≠ 7
    · have : ¬ e = f := fun w => z ⟨y.1, y.2.1, w⟩
      simp [y, this]
    · rw [if_neg y, if_neg y]
      rfl
theorem cL (σ : Mm) (c r : Nat) (ρ : Ms) : mI (cP σ c r ρ) 9 r 7 = ρ.1 7 := by simp [mI_cP]
theorem cL_s (σ : Mm) (c r : Nat) (ρ : Ms) (v : Int32) : sI (cP σ c r ρ) 9 r 7 v = cP σ c r (fF ρ 7 v) := by
  refine Prod.ext (funext fun k => funext fun q => funext fun e => ?_) rfl
  show mI (sI (cP σ c r ρ) 9 r 7 v) k q e = mI (cP σ c r (fF ρ 7 v)) k q e
  rw [mI_sI, mI_cP, mI_cP, fF_1, fF_1, if_pos rfl]
  by_cases z : k = 9 ∧ q = r ∧ e = 7
  · obtain ⟨rfl, rfl, rfl⟩ := z
    simp
  · rw [if_neg z, if_neg z, if_neg z]
    by_cases y : k = 11 ∧ q = c + 10 ∧ e ≠ 7
    · rw [if_pos y, if_pos y, if_neg y.2.2]
    · rw [if_neg y, if_neg y]
      rfl
theorem cA (σ : Mm) (c r : Nat) (ρ : Ms) {k : Nat} (h : rko k ≠ 0) (j : Nat) : mI (cP σ c r ρ) k (r + rko k) j = ρ.2 k j := by
  have h1 : k ≠ 11 := by rintro rfl; exact h rfl
  have h2 : k ≠ 9 := by rintro rfl; exact h rfl
  rw [mI_cP, if_neg (fun z => h1 z.1), if_neg (fun z => h2 z.1), if_pos ⟨h, rfl⟩]
theorem cA_s (σ : Mm) (c r : Nat) (ρ : Ms) {k : Nat} (h : rko k ≠ 0) (j : Nat) (v : Int32) : sI (cP σ c r ρ) k (r + rko k) j v = cP σ c r (fA ρ k j v) := by
  have h1 : k ≠ 11 := by rintro rfl; exact h rfl
  have h2 : k ≠ 9 := by rintro rfl; exact h rfl
  refine Prod.ext (funext fun k' => funext fun q => funext fun e => ?_) rfl
  show mI (sI (cP σ c r ρ) k (r + rko k) j v) k' q e = mI (cP σ c r (fA ρ k j v)) k' q e
  rw [mI_sI, mI_cP, mI_cP, fA_1, fA_2]
  by_cases z : k' = k ∧ q = r + rko k ∧ e = j
  · obtain ⟨rfl, rfl, rfl⟩ := z
    rw [if_pos ⟨rfl, rfl, rfl⟩, if_neg (fun z => h1 z.1), if_neg (fun z => h2 z.1), if_pos ⟨h, rfl⟩, if_pos ⟨rfl, rfl⟩]
  · rw [if_neg z]
    by_cases y1 : k' = 11 ∧ q = c + 10 ∧ e ≠ 7
    · rw [if_pos y1, if_pos y1]
    · rw [if_neg y1, if_neg y1]
      by_cases y2 : k' = 9 ∧ q = r ∧ e = 7
      · rw [if_pos y2, if_pos y2]
      · rw [if_neg y2, if_neg y2]
        by_cases y3 : rko k' ≠ 0 ∧ q = r + rko k'
        · rw [if_pos y3, if_pos y3, if_neg (fun w => z ⟨w.1, by rw [y3.2, w.1], w.2⟩)]
        · rw [if_neg y3, if_neg y3]
theorem cO (σ : Mm) (c r : Nat) (ρ : Ms) {k : Nat} (h1 : k ≠ 11) (h2 : k ≠ 9) (h : rko k = 0) (q f : Nat) : mI (cP σ c r ρ) k q f = mI σ k q f := by
  rw [mI_cP, if_neg (fun z => h1 z.1), if_neg (fun z => h2 z.1), if_neg (fun z => z.1 h)]
theorem cO_107 (σ : Mm) (c r : Nat) (ρ : Ms) (q f : Nat) : mI (cP σ c r ρ) 107 q f = mI σ 107 q f := cO σ c r ρ (by decide) (by decide) (by decide) q f
theorem cO_19 (σ : Mm) (c r : Nat) (ρ : Ms) (q f : Nat) : mI (cP σ c r ρ) 19 q f = mI σ 19 q f := cO σ c r ρ (by decide) (by decide) (by decide) q f
theorem cA_71 (σ : Mm) (c r : Nat) (ρ : Ms) (j : Nat) : mI (cP σ c r ρ) 71 (r + 1) j = ρ.2 71 j := cA σ c r ρ (k := 71) (by decide) j
theorem cS_71 (σ : Mm) (c r : Nat) (ρ : Ms) (j : Nat) (v : Int32) : sI (cP σ c r ρ) 71 (r + 1) j v = cP σ c r (fA ρ 71 j v) := cA_s σ c r ρ (k := 71) (by decide) j v
theorem cA_75 (σ : Mm) (c r : Nat) (ρ : Ms) (j : Nat) : mI (cP σ c r ρ) 75 (r + 2) j = ρ.2 75 j := cA σ c r ρ (k := 75) (by decide) j
theorem cS_75 (σ : Mm) (c r : Nat) (ρ : Ms) (j : Nat) (v : Int32) : sI (cP σ c r ρ) 75 (r + 2) j v = cP σ c r (fA ρ 75 j v) := cA_s σ c r ρ (k := 75) (by decide) j v
theorem cA_80 (σ : Mm) (c r : Nat) (ρ : Ms) (j : Nat) : mI (cP σ c r ρ) 80 (r + 3) j = ρ.2 80 j := cA σ c r ρ (k := 80) (by decide) j
theorem cS_80 (σ : Mm) (c r : Nat) (ρ : Ms) (j : Nat) (v : Int32) : sI (cP σ c r ρ) 80 (r + 3) j v = cP σ c r (fA ρ 80 j v) := cA_s σ c r ρ (k := 80) (by decide) j v
theorem cA_86 (σ : Mm) (c r : Nat) (ρ : Ms) (j : Nat) : mI (cP σ c r ρ) 86 (r + 4) j = ρ.2 86 j := cA σ c r ρ (k := 86) (by decide) j
theorem cS_86 (σ : Mm) (c r : Nat) (ρ : Ms) (j : Nat) (v : Int32) : sI (cP σ c r ρ) 86 (r + 4) j v = cP σ c r (fA ρ 86 j v) := cA_s σ c r ρ (k := 86) (by decide) j v
theorem cA_90 (σ : Mm) (c r : Nat) (ρ : Ms) (j : Nat) : mI (cP σ c r ρ) 90 (r + 5) j = ρ.2 90 j := cA σ c r ρ (k := 90) (by decide) j
theorem cS_90 (σ : Mm) (c r : Nat) (ρ : Ms) (j : Nat) (v : Int32) : sI (cP σ c r ρ) 90 (r + 5) j v = cP σ c r (fA ρ 90 j v) := cA_s σ c r ρ (k := 90) (by decide) j v
theorem cA_95 (σ : Mm) (c r : Nat) (ρ : Ms) (j : Nat) : mI (cP σ c r ρ) 95 (r + 6) j = ρ.2 95 j := cA σ c r ρ (k := 95) (by decide) j
theorem cS_95 (σ : Mm) (c r : Nat) (ρ : Ms) (j : Nat) (v : Int32) : sI (cP σ c r ρ) 95 (r + 6) j v = cP σ c r (fA ρ 95 j v) := cA_s σ c r ρ (k := 95) (by decide) j v
theorem cA_100 (σ : Mm) (c r : Nat) (ρ : Ms) (j : Nat) : mI (cP σ c r ρ) 100 (r + 7) j = ρ.2 100 j := cA σ c r ρ (k := 100) (by decide) j
theorem cS_100 (σ : Mm) (c r : Nat) (ρ : Ms) (j : Nat) (v : Int32) : sI (cP σ c r ρ) 100 (r + 7) j v = cP σ c r (fA ρ 100 j v) := cA_s σ c r ρ (k := 100) (by decide) j v
theorem FL_cP (h : FL σ c) (c' r : Nat) (ρ : Ms) : FL (cP σ c' r ρ) c := h
theorem RuL_cP {q : Nat} (h : RuL σ q) (c' r : Nat) (ρ : Ms) : RuL (cP σ c' r ρ) q := h
theorem byq {x : Int32} (h : x.toInt8.toInt32 = x) : bBl (x &&& 255) = bBl x ∧ bLt (x &&& 255) = bLt x ∧ bDg (x &&& 255) = bDg x ∧ sgn (x &&& 255) = sgn x ∧ (bLt x = true → x &&& 255 = x) ∧ (bDg x = true → x &&& 255 = x) ∧ (sgn x = true → x &&& 255 = x) ∧ ¬ (x &&& 255 = -1) ∧ (0 ≤ x → x &&& 255 = x) ∧ (x < 0 → ¬ x &&& 255 < 128) := by
  have k := (show ∀ i : Fin 256, bBl ((Int8.ofBitVec (BitVec.ofFin (w := 8) i)).toInt32 &&& 255) = bBl (Int8.ofBitVec (BitVec.ofFin (w := 8) i)).toInt32 ∧ bLt ((Int8.ofBitVec (BitVec.ofFin (w := 8) i)).toInt32 &&& 255) = bLt (Int8.ofBitVec (BitVec.ofFin (w := 8) i)).toInt32 ∧ bDg ((Int8.ofBitVec (BitVec.ofFin (w := 8) i)).toInt32 &&& 255) = bDg (Int8.ofBitVec (BitVec.ofFin (w := 8) i)).toInt32 ∧ sgn ((Int8.ofBitVec (BitVec.ofFin (w := 8) i)).toInt32 &&& 255) = sgn (Int8.ofBitVec (BitVec.ofFin (w := 8) i)).toInt32 ∧ (bLt (Int8.ofBitVec (BitVec.ofFin (w := 8) i)).toInt32 = true → (Int8.ofBitVec (BitVec.ofFin (w := 8) i)).toInt32 &&& 255 = (Int8.ofBitVec (BitVec.ofFin (w := 8) i)).toInt32) ∧ (bDg (Int8.ofBitVec (BitVec.ofFin (w := 8) i)).toInt32 = true → (Int8.ofBitVec (BitVec.ofFin (w := 8) i)).toInt32 &&& 255 = (Int8.ofBitVec (BitVec.ofFin (w := 8) i)).toInt32) ∧ (sgn (Int8.ofBitVec (BitVec.ofFin (w := 8) i)).toInt32 = true → (Int8.ofBitVec (BitVec.ofFin (w := 8) i)).toInt32 &&& 255 = (Int8.ofBitVec (BitVec.ofFin (w := 8) i)).toInt32) ∧ ¬ ((Int8.ofBitVec (BitVec.ofFin (w := 8) i)).toInt32 &&& 255 = -1) ∧ (0 ≤ (Int8.ofBitVec (BitVec.ofFin (w := 8) i)).toInt32 → (Int8.ofBitVec (BitVec.ofFin (w := 8) i)).toInt32 &&& 255 = (Int8.ofBitVec (BitVec.ofFin (w := 8) i)).toInt32) ∧ ((Int8.ofBitVec (BitVec.ofFin (w := 8) i)).toInt32 < 0 → ¬ (Int8.ofBitVec (BitVec.ofFin (w := 8) i)).toInt32 &&& 255 < 128) by decide +kernel) x.toInt8.toBitVec.toFin
  have e : (Int8.ofBitVec (BitVec.ofFin (w := 8) x.toInt8.toBitVec.toFin)).toInt32 = x := h
  rw [e] at k
  exact k
/-- what the tape holds -/
def Tb (σ : Mm) (c : Nat) (t : Nat → Int32) : Prop := FL σ c ∧ (∀ i, mI σ 107 (c + 11) i = t i) ∧ ∀ i, (t i).toInt8.toInt32 = t i
theorem t_byteAt (hB : Tb σ c t) {n i : Nat} (hn : n ≤ 300) (h1 : ρ.1 1 = nI n) (hi : i ≤ n) : runc d 56 [.ref (c + 10), .int (nI i)] (cP σ c r ρ) = some (some (.int (if i < n then t i &&& 255 else -1)), cP σ c r ρ) := by
  have hF := hB.1
  have z0 : ¬ nI i < 0 := nI_pos (by omega)
  by_cases h : i < n
  · have z1 : ¬ nI n ≤ nI i := nI_ge h (by omega)
    have z2 : ¬ 300 ≤ nI i := nI_ge (b := 300) (by omega) (by omega)
    have z3 : ix (nI i) 300 = true := ix_of (by omega) (by omega)
    rw [if_pos h]
    simp [psh_some, psh_none, -Int32.not_lt, -Int32.not_le, va_rf, vd, vr, isA_r, ar, akB, rc_Tape_byteAt, e_Tape_byteAt_0, e_Tape_byteAt_4, e_Tape_byteAt_12, e_Tape_byteAt_19, e_Tape_byteAt_32, e_Tape_byteAt_33, mP_cP, mK_cP, mN_cP, cT, fK_10 hF, fK_11 hF, fN_11 hF, fP_11_0 hF, h1, z0, z1, z2, z3, cO_107, cl1000 (show i < 1000 by omega), hB.2.1]
  · have z1 : nI n ≤ nI i := nI_le (by omega) (by omega)
    rw [if_neg h]
    simp [psh_some, psh_none, -Int32.not_lt, -Int32.not_le, rc_Tape_byteAt, e_Tape_byteAt_0, e_Tape_byteAt_4, e_Tape_byteAt_12, e_Tape_byteAt_19, e_Tape_byteAt_32, e_Tape_byteAt_33, mK_cP, cT, fK_10 hF, h1, z0, z1]
theorem t_bl (x : Int32) (σ : Mm) : runc d 57 [.int x] σ = some (some (.int (if bBl x = true then 1 else 0)), σ) := by
  unfold bBl
  by_cases z1 : x = 32
  · simp [psh_some, psh_none, -Int32.not_lt, -Int32.not_le, rc_Tape_isBlank, e_Tape_isBlank_0, e_Tape_isBlank_6, e_Tape_isBlank_12, e_Tape_isBlank_16, e_Tape_isBlank_17, z1]
  · by_cases z2 : x = 10 <;> simp [psh_some, psh_none, -Int32.not_lt, -Int32.not_le, rc_Tape_isBlank, e_Tape_isBlank_0, e_Tape_isBlank_6, e_Tape_isBlank_12, e_Tape_isBlank_16, e_Tape_isBlank_17, z1, z2]
theorem t_lt (x : Int32) (σ : Mm) : runc d 58 [.int x] σ = some (some (.int (if bLt x = true then 1 else 0)), σ) := by
  unfold bLt
  by_cases z1 : x < 97
  · simp [psh_some, psh_none, -Int32.not_lt, -Int32.not_le, rc_Tape_isLetter, e_Tape_isLetter_0, e_Tape_isLetter_6, e_Tape_isLetter_12, e_Tape_isLetter_16, e_Tape_isLetter_17, z1]
  · by_cases z2 : 122 < x <;> simp [psh_some, psh_none, -Int32.not_lt, -Int32.not_le, rc_Tape_isLetter, e_Tape_isLetter_0, e_Tape_isLetter_6, e_Tape_isLetter_12, e_Tape_isLetter_16, e_Tape_isLetter_17, z1, z2]
theorem t_dg (x : Int32) (σ : Mm) : runc d 59 [.int x] σ = some (some (.int (if bDg x = true then 1 else 0)), σ) := by
  unfold bDg
  by_cases z1 : x < 48
  · simp [psh_some, psh_none, -Int32.not_lt, -Int32.not_le, rc_Tape_isDigit, e_Tape_isDigit_0, e_Tape_isDigit_6, e_Tape_isDigit_12, e_Tape_isDigit_16, e_Tape_isDigit_17, z1]
  · by_cases z2 : 57 < x <;> simp [psh_some, psh_none, -Int32.not_lt, -Int32.not_le, rc_Tape_isDigit, e_Tape_isDigit_0, e_Tape_isDigit_6, e_Tape_isDigit_12, e_Tape_isDigit_16, e_Tape_isDigit_17, z1, z2]
theorem rt_bl (hB : Tb σ c t) {n : Nat} (hn : n ≤ 300) (h1 : ρ.1 1 = nI n) (u1 : Value) : ∀ k i, i + k = n → run (d + 1) 51 8 [.ref (c + 10), u1] [] (cP σ c r (fF ρ 3 (nI i))) = run (d + 1) 51 46 [.ref (c + 10), u1] [] (cP σ c r (fF ρ 3 (nI (scn bBl t k i)))) := by
  have hF := hB.1
  intro k
  induction k with
  | zero =>
    intro i hi
    have : i = n := by omega
    subst this
    simp [psh_some, psh_none, -Int32.not_lt, -Int32.not_le, e_Tape_readToken_8, mK_cP, cT, fK_10 hF, fF_1, h1, scn]
  | succ k ih =>
    intro i hi
    have z1 : ¬ nI n ≤ nI i := nI_ge (by omega) (by omega)
    have h3 := ih (i + 1) (by omega)
    rw [nI_succ] at h3
    have e := t_byteAt (ρ := fF ρ 3 (nI i)) (r := r) (i := i) d hB hn h1 (by omega)
    rw [if_pos (by omega)] at e
    rw [scn]
    cases z : bBl (t i) with
    | true =>
      have z2 := (byq (hB.2.2 i)).1.trans z
      dsimp only
      rw [← h3]
      simp [psh_some, psh_none, -Int32.not_lt, -Int32.not_le, e_Tape_readToken_8, e_Tape_readToken_19, e_Tape_readToken_27, e_Tape_readToken_30, e_Tape_readToken_33, e_Tape_readToken_43, mK_cP, cT, cT_s, fK_10 hF, fF_1, h1, z1, e, t_bl, z2, fF_fF]
    | false =>
      have z2 := (byq (hB.2.2 i)).1.trans z
      dsimp only
      simp [psh_some, psh_none, -Int32.not_lt, -Int32.not_le, e_Tape_readToken_8, e_Tape_readToken_19, e_Tape_readToken_27, e_Tape_readToken_30, mK_cP, cT, fK_10 hF, fF_1, h1, z1, e, t_bl, z2]
theorem rw_lt (hB : Tb σ c t) {n : Nat} (hn : n ≤ 300) (h1 : ρ.1 1 = nI n) : ∀ k i, i + k = n → run (d + 1) 52 5 [.ref (c + 10)] [] (cP σ c r (fF ρ 4 (nI i))) = some (none, cP σ c r (fF ρ 4 (nI (scn bLt t k i)))) := by
  have hF := hB.1
  intro k
  induction k with
  | zero =>
    intro i hi
    have : i = n := by omega
    subst this
    simp [psh_some, psh_none, -Int32.not_lt, -Int32.not_le, e_Tape_readWord_5, e_Tape_readWord_43, mK_cP, cT, fK_10 hF, fF_1, h1, scn]
  | succ k ih =>
    intro i hi
    have z1 : ¬ nI n ≤ nI i := nI_ge (by omega) (by omega)
    have h3 := ih (i + 1) (by omega)
    rw [nI_succ] at h3
    have e := t_byteAt (ρ := fF ρ 4 (nI i)) (r := r) (i := i) d hB hn h1 (by omega)
    rw [if_pos (by omega)] at e
    rw [scn]
    cases z : bLt (t i) with
    | true =>
      have z2 := (byq (hB.2.2 i)).2.1.trans z
      dsimp only
      rw [← h3]
      simp [psh_some, psh_none, -Int32.not_lt, -Int32.not_le, e_Tape_readWord_5, e_Tape_readWord_16, e_Tape_readWord_24, e_Tape_readWord_27, e_Tape_readWord_30, e_Tape_readWord_40, mK_cP, cT, cT_s, fK_10 hF, fF_1, h1, z1, e, t_lt, z2, fF_fF]
    | false =>
      have z2 := (byq (hB.2.2 i)).2.1.trans z
      dsimp only
      simp [psh_some, psh_none, -Int32.not_lt, -Int32.not_le, e_Tape_readWord_5, e_Tape_readWord_16, e_Tape_readWord_24, e_Tape_readWord_27, e_Tape_readWord_43, mK_cP, cT, fK_10 hF, fF_1, h1, z1, e, t_lt, z2]
theorem rn_dg (hB : Tb σ c t) {n f : Nat} (hn : n ≤ 300) (h1 : ρ.1 1 = nI n) (h3 : ρ.1 3 = nI f) : ∀ k m, f + m + k = n → run (d + 1) 53 5 [.ref (c + 10)] [] (cP σ c r (fF (fF ρ 4 (nI (f + m))) 5 (nvl t f m))) = run (d + 1) 53 79 [.ref (c + 10)] [] (cP σ c r (fF (fF ρ 4 (nI (scn bDg t k (f + m)))) 5 (nvl t f (scn bDg t k (f + m) - f)))) := by
  have hF := hB.1
  intro k
  induction k with
  | zero =>
    intro m hi
    have hm : f + m = n := by omega
    rw [scn, show f + m - f = m by omega, hm]
    simp [psh_some, psh_none, -Int32.not_lt, -Int32.not_le, e_Tape_readNumber_5, mK_cP, cT, fK_10 hF, fF_1, h1]
  | succ k ih =>
    intro m hi
    have z1 : ¬ nI n ≤ nI (f + m) := nI_ge (by omega) (by omega)
    have h3' := ih (m + 1) (by omega)
    rw [show f + (m + 1) = f + m + 1 by omega, nI_succ, nvl] at h3'
    have e := t_byteAt (ρ := fF (fF ρ 4 (nI (f + m))) 5 (nvl t f m)) (r := r) (i := f + m) d hB hn h1 (by omega)
    rw [if_pos (by omega)] at e
    have es : nI (f + m) - nI f = nI m := by rw [pk_sub (by omega)]; congr 1; omega
    rw [scn]
    cases z : bDg (t (f + m)) with
    | true =>
      have z2 := (byq (hB.2.2 (f + m))).2.2.1.trans z
      have z3 := (byq (hB.2.2 (f + m))).2.2.2.2.2.1 z
      dsimp only
      rw [← h3']
      have ec : ∀ v, fF (fF (fF ρ 4 (nI (f + m))) 5 v) 4 (nI (f + m) + 1) = fF (fF ρ 4 (nI (f + m) + 1)) 5 v := fun v => by rw [fF_comm (f := 5) (g := 4) (by decide), fF_fF]
      by_cases y : m < 5
      · have y1 : ¬ 5 ≤ nI m := nI_ge (b := 5) y (by omega)
        have em : nvl t f m * 10 = 10 * nvl t f m := by grind
        rw [if_pos y]
        rw [z3] at e z2
        simp [psh_some, psh_none, -Int32.not_lt, -Int32.not_le, isA_r, vd, e_Tape_readNumber_5, e_Tape_readNumber_16, e_Tape_readNumber_24, e_Tape_readNumber_27, e_Tape_readNumber_30, e_Tape_readNumber_43, e_Tape_readNumber_59, e_Tape_readNumber_66, e_Tape_readNumber_76, mK_cP, cT, cT_s, fK_10 hF, fF_1, h1, h3, z1, e, t_dg, z2, es, y1, em, fF_fF, ec]
      · have y1 : 5 ≤ nI m := nI_le (a := 5) (by omega) (by omega)
        rw [if_neg y]
        simp [psh_some, psh_none, -Int32.not_lt, -Int32.not_le, e_Tape_readNumber_5, e_Tape_readNumber_16, e_Tape_readNumber_24, e_Tape_readNumber_27, e_Tape_readNumber_30, e_Tape_readNumber_66, e_Tape_readNumber_76, mK_cP, cT, cT_s, fK_10 hF, fF_1, h1, h3, z1, e, t_dg, z2, es, y1, ec]
    | false =>
      have z2 := (byq (hB.2.2 (f + m))).2.2.1.trans z
      dsimp only
      rw [show f + m - f = m by omega]
      simp [psh_some, psh_none, -Int32.not_lt, -Int32.not_le, e_Tape_readNumber_5, e_Tape_readNumber_16, e_Tape_readNumber_24, e_Tape_readNumber_27, mK_cP, cT, fK_10 hF, fF_1, h1, z1, e, t_dg, z2]
/-- the class's state with the token behind p -/
def tkN5 (t : Nat → Int32) (ρ : Ms) (n p : Nat) : Int32 := if tF t n p = n then ρ.1 5 else if bLt (t (tF t n p)) = true then ρ.1 5 else if bDg (t (tF t n p)) = true then nvl t (tF t n p) (tT t n p - tF t n p) else ρ.1 5
def tkR (t : Nat → Int32) (ρ : Ms) (n p : Nat) : Ms := fF (fF (fF (fF ρ 3 (nI (tF t n p))) 4 (nI (tT t n p))) 5 (tkN5 t ρ n p)) 2 (nI (tK t n p))
theorem t_tok (hB : Tb σ c t) {n p : Nat} (hn : n ≤ 300) (h1 : ρ.1 1 = nI n) (hp : p ≤ n) (h4 : ρ.1 4 = nI p) : runc (d + 2) 51 [.ref (c + 10)] (cP σ c r ρ) = some (none, cP σ c r (tkR t ρ n p)) := by
  have hF := hB.1
  have hb := rt_bl (σ := σ) (r := r) (d + 1) hB hn h1 uu (n - p) p (by omega)
  have hf := tF_le t hp
  have hT := tT_le t hp
  have s1 : runc (d + 2) 51 [.ref (c + 10)] (cP σ c r ρ) = run (d + 2) 51 54 [.ref (c + 10), uu] [] (cP σ c r (fF (fF ρ 3 (nI (tF t n p))) 4 (nI (tF t n p)))) := by
    rw [rc_Tape_readToken, e_Tape_readToken_0 _ _ _ _ (by rw [mK_cP]; exact fK_10 hF), cT _ _ _ _ (by decide), cT_s _ _ _ _ (by decide), h4, hb, e_Tape_readToken_46 _ _ _ _ (by rw [mK_cP]; exact fK_10 hF), cT _ _ _ _ (by decide), cT_s _ _ _ _ (by decide)]
    rfl
  rw [s1]
  have e := t_byteAt (ρ := fF (fF ρ 3 (nI (tF t n p))) 4 (nI (tF t n p))) (r := r) (i := tF t n p) (d + 1) hB hn h1 hf.2
  have f5 : ∀ (u v : Int32), fF (fF (fF ρ 3 u) 4 v) 5 (ρ.1 5) = fF (fF ρ 3 u) 4 v := fun u v => fF_id rfl
  unfold tkR tkN5
  by_cases c0 : tF t n p = n
  · rw [if_neg (by omega)] at e
    rw [show tT t n p = tF t n p by unfold tT; rw [if_pos c0, c0], show tK t n p = 0 by unfold tK; rw [if_pos c0], if_pos c0, f5, nI_0]
    simp [psh_some, psh_none, -Int32.not_lt, -Int32.not_le, e_Tape_readToken_54, e_Tape_readToken_62, e_Tape_readToken_68, e_Tape_readToken_73, e_Tape_readToken_147, mK_cP, cT, cT_s, fK_10 hF, fF_1, e]
  · have hlt : tF t n p < n := by omega
    rw [if_pos hlt] at e
    rw [if_neg c0]
    obtain ⟨y1, y2, y3, y4, y5, y6, y7, y8, -⟩ := byq (hB.2.2 (tF t n p))
    by_cases c1 : bLt (t (tF t n p)) = true
    · have eT : tT t n p = scn bLt t (n - tF t n p) (tF t n p) := by unfold tT; rw [if_neg c0, if_pos c1]
      rw [show tK t n p = 1 by unfold tK; rw [if_neg c0, if_pos c1], if_pos c1, f5]
      have lp := rw_lt (ρ := fF (fF ρ 3 (nI (tF t n p))) 2 1) (σ := σ) (r := r) d hB hn h1 (n - tF t n p) (tF t n p) (by omega)
      rw [← eT] at lp
      have rwd : runc (d + 1) 52 [.ref (c + 10)] (cP σ c r (fF (fF ρ 3 (nI (tF t n p))) 4 (nI (tF t n p)))) = some (none, cP σ c r (fF (fF (fF ρ 3 (nI (tF t n p))) 4 (nI (tT t n p))) 2 1)) := by
        rw [rc_Tape_readWord, e_Tape_readWord_0 _ _ _ (by rw [mK_cP]; exact fK_10 hF), cT_s _ _ _ _ (by decide), fF_comm (f := 4) (g := 2) (by decide), lp, fF_comm (f := 4) (g := 2) (by decide)]
      rw [c1] at y2
      simp [psh_some, psh_none, -Int32.not_lt, -Int32.not_le, e_Tape_readToken_54, e_Tape_readToken_62, e_Tape_readToken_76, e_Tape_readToken_80, e_Tape_readToken_83, e_Tape_readToken_87, e_Tape_readToken_147, mK_cP, cT, cT_s, fK_10 hF, fF_1, e, y8, t_lt, y2, rwd]
      rfl
    · have c1' : bLt (t (tF t n p)) = false := by simpa using c1
      rw [c1'] at y2
      rw [if_neg c1]
      by_cases c2 : bDg (t (tF t n p)) = true
      · have eT : tT t n p = scn bDg t (n - tF t n p) (tF t n p) := by unfold tT; rw [if_neg c0, if_neg c1, if_pos c2]
        rw [show tK t n p = if tT t n p - tF t n p ≤ 5 then 2 else 4 by unfold tK; rw [if_neg c0, if_neg c1, if_pos c2], if_pos c2]
        have lp := rn_dg (ρ := fF ρ 3 (nI (tF t n p))) (σ := σ) (r := r) (f := tF t n p) d hB hn h1 rfl (n - tF t n p) 0 (by omega)
        rw [Nat.add_zero (tF t n p), nvl, ← eT] at lp
        have es : nI (tT t n p) - nI (tF t n p) = nI (tT t n p - tF t n p) := pk_sub hT.1
        have rnm : runc (d + 1) 53 [.ref (c + 10)] (cP σ c r (fF (fF ρ 3 (nI (tF t n p))) 4 (nI (tF t n p)))) = some (none, cP σ c r (fF (fF (fF (fF ρ 3 (nI (tF t n p))) 4 (nI (tT t n p))) 5 (nvl t (tF t n p) (tT t n p - tF t n p))) 2 (nI (if tT t n p - tF t n p ≤ 5 then 2 else 4)))) := by
          rw [rc_Tape_readNumber, e_Tape_readNumber_0 _ _ _ (by rw [mK_cP]; exact fK_10 hF), cT_s _ _ _ _ (by decide), lp]
          by_cases c3 : tT t n p - tF t n p ≤ 5
          · have c3' : nI (tT t n p - tF t n p) ≤ 5 := nI_le (b := 5) c3 (by omega)
            rw [if_pos c3]
            simp [psh_some, psh_none, -Int32.not_lt, -Int32.not_le, isA_r, vd, e_Tape_readNumber_79, e_Tape_readNumber_97, e_Tape_readNumber_98, e_Tape_readNumber_101, mK_cP, cT, cT_s, fK_10 hF, fF_1, es, c3']
            rfl
          · have c3' : ¬ nI (tT t n p - tF t n p) ≤ 5 := nI_ge (a := 5) (by omega) (by omega)
            rw [if_neg c3]
            simp [psh_some, psh_none, -Int32.not_lt, -Int32.not_le, isA_r, vd, e_Tape_readNumber_79, e_Tape_readNumber_93, e_Tape_readNumber_98, e_Tape_readNumber_101, mK_cP, cT, cT_s, fK_10 hF, fF_1, es, c3']
            rfl
        rw [c2] at y3
        simp [psh_some, psh_none, -Int32.not_lt, -Int32.not_le, e_Tape_readToken_54, e_Tape_readToken_62, e_Tape_readToken_76, e_Tape_readToken_80, e_Tape_readToken_90, e_Tape_readToken_94, e_Tape_readToken_97, e_Tape_readToken_101, e_Tape_readToken_147, mK_cP, cT, cT_s, fK_10 hF, fF_1, e, y8, t_lt, y2, t_dg, y3, rnm]
      · have c2' : bDg (t (tF t n p)) = false := by simpa using c2
        rw [c2'] at y3
        rw [show tT t n p = tF t n p + 1 by unfold tT; rw [if_neg c0, if_neg c1, if_neg c2], show tK t n p = if sgn (t (tF t n p)) = true then 3 else 4 by unfold tK; rw [if_neg c0, if_neg c1, if_neg c2], if_neg c2, f5, nI_succ, ← y4]
        generalize t (tF t n p) &&& 255 = x at e y2 y3 y8 ⊢
        have s2 : run (d + 2) 51 54 [.ref (c + 10), uu] [] (cP σ c r (fF (fF ρ 3 (nI (tF t n p))) 4 (nI (tF t n p)))) = run (d + 2) 51 114 [.ref (c + 10), .int x] [] (cP σ c r (fF (fF ρ 3 (nI (tF t n p))) 4 (nI (tF t n p) + 1))) := by
          simp [psh_some, psh_none, -Int32.not_lt, -Int32.not_le, e_Tape_readToken_54, e_Tape_readToken_62, e_Tape_readToken_76, e_Tape_readToken_80, e_Tape_readToken_90, e_Tape_readToken_94, e_Tape_readToken_104, mK_cP, cT, cT_s, fK_10 hF, fF_1, e, y8, t_lt, y2, t_dg, y3, fF_fF]
        rw [s2]
        unfold sgn
        by_cases x0 : x = 60
        · simp [psh_some, psh_none, -Int32.not_lt, -Int32.not_le, isA_r, vd, e_Tape_readToken_114, e_Tape_readToken_139, e_Tape_readToken_144, e_Tape_readToken_147, mK_cP, cT_s, fK_10 hF, x0]
          rfl
        · by_cases x1 : x = 61
          · simp [psh_some, psh_none, -Int32.not_lt, -Int32.not_le, isA_r, isR_r, vd, e_Tape_readToken_114, e_Tape_readToken_121, e_Tape_readToken_139, e_Tape_readToken_144, e_Tape_readToken_147, mK_cP, cT_s, fK_10 hF, x1]
            rfl
          · by_cases x2 : x = 62
            · simp [psh_some, psh_none, -Int32.not_lt, -Int32.not_le, isA_r, isR_r, vd, e_Tape_readToken_114, e_Tape_readToken_121, e_Tape_readToken_127, e_Tape_readToken_139, e_Tape_readToken_144, e_Tape_readToken_147, mK_cP, cT_s, fK_10 hF, x2]
              rfl
            · by_cases x3 : x = 59
              · simp [psh_some, psh_none, -Int32.not_lt, -Int32.not_le, isA_r, isR_r, vd, e_Tape_readToken_114, e_Tape_readToken_121, e_Tape_readToken_127, e_Tape_readToken_133, e_Tape_readToken_139, e_Tape_readToken_144, e_Tape_readToken_147, mK_cP, cT_s, fK_10 hF, x3]
                rfl
              · simp [psh_some, psh_none, -Int32.not_lt, -Int32.not_le, isA_r, isR_r, vd, e_Tape_readToken_114, e_Tape_readToken_121, e_Tape_readToken_127, e_Tape_readToken_133, e_Tape_readToken_143, e_Tape_readToken_144, e_Tape_readToken_147, mK_cP, cT_s, fK_10 hF, x0, x1, x2, x3]
                rfl
end T71
