/-! ===== TOKENS OF A TAPE, AND THE REFERENCE's ===== -/
section T69
variable {σ : Mm} {a : Nat} {μ : Ms} (d : Nat)
def bLt (x : Int32) : Bool := decide (¬ x < 97 ∧ ¬ 122 < x)
def bDg (x : Int32) : Bool := decide (¬ x < 48 ∧ ¬ 57 < x)
def bBl (x : Int32) : Bool := decide (x = 32 ∨ x = 10)
/-- so far as P, from i on, at most k further -/
def scn (P : Int32 → Bool) (t : Nat → Int32) : Nat → Nat → Nat
  | 0, i => i
  | k + 1, i => match P (t i) with
    | true => scn P t k (i + 1)
    | false => i
theorem scn_le (P : Int32 → Bool) (t : Nat → Int32) : ∀ k i, i ≤ scn P t k i ∧ scn P t k i ≤ i + k := by
  intro k
  induction k with
  | zero => intro i; exact ⟨Nat.le_refl _, Nat.le_refl _⟩
  | succ k ih =>
    intro i
    rw [scn]
    cases P (t i) with
    | true => dsimp only; have := ih (i + 1); omega
    | false => dsimp only; omega
theorem scn_in (P : Int32 → Bool) (t : Nat → Int32) : ∀ k i j, i ≤ j → j < scn P t k i → P (t j) = true := by
  intro k
  induction k with
  | zero => intro i j h1 h2; rw [scn] at h2; omega
  | succ k ih =>
    intro i j h1 h2
    rw [scn] at h2
    cases hp : P (t i) with
    | true =>
      rw [hp] at h2
      dsimp only at h2
      by_cases e : j = i
      · rw [e]; exact hp
      · exact ih (i + 1) j (by omega) h2
    | false => rw [hp] at h2; dsimp only at h2; omega
/-- the number that the first k digits behind f are -/
def nvl (t : Nat → Int32) (f : Nat) : Nat → Int32
  | 0 => 0
  | k + 1 => if k < 5 then 10 * nvl t f k + t (f + k) - 48 else nvl t f k
/-- the letters of the words, by their numbers -/
def wdl : Nat → List Nat
  | 0 => [115, 119, 101, 108, 108]
  | 1 => [104, 111, 117, 114]
  | 2 => [108, 105, 103, 104, 116]
  | 3 => [102, 114, 101, 101]
  | 4 => [102, 117, 101, 108]
  | 5 => [119, 101, 105, 103, 104, 116]
  | 6 => [100, 97, 121]
  | 7 => [98, 97, 103, 115]
  | 8 => [108, 105, 102, 116]
  | 9 => [108, 97, 110, 100]
  | 10 => [97, 116]
  | 11 => [105, 102]
  | 12 => [97, 110, 100]
  | 13 => [110, 111, 116]
  | _ => []
def ltr (t : Nat → Int32) (f m : Nat) : List Nat := (List.range m).map (fun k => (t (f + k)).toNatClampNeg)
def tkW (l : List Nat) : Nat := if l = wdl 0 then 0 else if l = wdl 1 then 1 else if l = wdl 2 then 2 else if l = wdl 3 then 3 else if l = wdl 4 then 4 else if l = wdl 5 then 5 else if l = wdl 6 then 6 else if l = wdl 7 then 7 else if l = wdl 8 then 8 else if l = wdl 9 then 9 else if l = wdl 10 then 10 else if l = wdl 11 then 11 else if l = wdl 12 then 12 else if l = wdl 13 then 13 else 23
theorem tkW_iff (l : List Nat) (c : Nat) (hc : c < 14) : tkW l = c ↔ l = wdl c := by
  constructor
  · intro h
    unfold tkW at h
    by_cases z0 : l = wdl 0
    · rw [if_pos z0] at h; rw [← h]; exact z0
    rw [if_neg z0] at h
    by_cases z1 : l = wdl 1
    · rw [if_pos z1] at h; rw [← h]; exact z1
    rw [if_neg z1] at h
    by_cases z2 : l = wdl 2
    · rw [if_pos z2] at h; rw [← h]; exact z2
    rw [if_neg z2] at h
    by_cases z3 : l = wdl 3
    · rw [if_pos z3] at h; rw [← h]; exact z3
    rw [if_neg z3] at h
    by_cases z4 : l = wdl 4
    · rw [if_pos z4] at h; rw [← h]; exact z4
    rw [if_neg z4] at h
    by_cases z5 : l = wdl 5
    · rw [if_pos z5] at h; rw [← h]; exact z5
    rw [if_neg z5] at h
    by_cases z6 : l = wdl 6
    · rw [if_pos z6] at h; rw [← h]; exact z6
    rw [if_neg z6] at h
    by_cases z7 : l = wdl 7
    · rw [if_pos z7] at h; rw [← h]; exact z7
    rw [if_neg z7] at h
    by_cases z8 : l = wdl 8
    · rw [if_pos z8] at h; rw [← h]; exact z8
    rw [if_neg z8] at h
    by_cases z9 : l = wdl 9
    · rw [if_pos z9] at h; rw [← h]; exact z9
    rw [if_neg z9] at h
    by_cases z10 : l = wdl 10
    · rw [if_pos z10] at h; rw [← h]; exact z10
    rw [if_neg z10] at h
    by_cases z11 : l = wdl 11
    · rw [if_pos z11] at h; rw [← h]; exact z11
    rw [if_neg z11] at h
    by_cases z12 : l = wdl 12
    · rw [if_pos z12] at h; rw [← h]; exact z12
    rw [if_neg z12] at h
    by_cases z13 : l = wdl 13
    · rw [if_pos z13] at h; rw [← h]; exact z13
    rw [if_neg z13] at h
    omega
  · intro h
    subst h
    revert c hc
    decide +kernel
theorem tkW_le (l : List Nat) : tkW l < 14 ∨ tkW l = 23 := by
  unfold tkW
  by_cases z0 : l = wdl 0
  · rw [if_pos z0]; omega
  rw [if_neg z0]
  by_cases z1 : l = wdl 1
  · rw [if_pos z1]; omega
  rw [if_neg z1]
  by_cases z2 : l = wdl 2
  · rw [if_pos z2]; omega
  rw [if_neg z2]
  by_cases z3 : l = wdl 3
  · rw [if_pos z3]; omega
  rw [if_neg z3]
  by_cases z4 : l = wdl 4
  · rw [if_pos z4]; omega
  rw [if_neg z4]
  by_cases z5 : l = wdl 5
  · rw [if_pos z5]; omega
  rw [if_neg z5]
  by_cases z6 : l = wdl 6
  · rw [if_pos z6]; omega
  rw [if_neg z6]
  by_cases z7 : l = wdl 7
  · rw [if_pos z7]; omega
  rw [if_neg z7]
  by_cases z8 : l = wdl 8
  · rw [if_pos z8]; omega
  rw [if_neg z8]
  by_cases z9 : l = wdl 9
  · rw [if_pos z9]; omega
  rw [if_neg z9]
  by_cases z10 : l = wdl 10
  · rw [if_pos z10]; omega
  rw [if_neg z10]
  by_cases z11 : l = wdl 11
  · rw [if_pos z11]; omega
  rw [if_neg z11]
  by_cases z12 : l = wdl 12
  · rw [if_pos z12]; omega
  rw [if_neg z12]
  by_cases z13 : l = wdl 13
  · rw [if_pos z13]; omega
  rw [if_neg z13]
  exact Or.inr rfl
/-- the token behind the place p of a tape t of n bytes: where it begins, where it ends, its kind for the class, for the reference, its number -/
def tF (t : Nat → Int32) (n p : Nat) : Nat := scn bBl t (n - p) p
def tT (t : Nat → Int32) (n p : Nat) : Nat := if tF t n p = n then n else if bLt (t (tF t n p)) = true then scn bLt t (n - tF t n p) (tF t n p) else if bDg (t (tF t n p)) = true then scn bDg t (n - tF t n p) (tF t n p) else tF t n p + 1
def sgn (x : Int32) : Bool := decide (x = 60 ∨ x = 61 ∨ x = 62 ∨ x = 59)
def tK (t : Nat → Int32) (n p : Nat) : Nat := if tF t n p = n then 0 else if bLt (t (tF t n p)) = true then 1 else if bDg (t (tF t n p)) = true then (if tT t n p - tF t n p ≤ 5 then 2 else 4) else if sgn (t (tF t n p)) = true then 3 else 4
def tC (t : Nat → Int32) (n p : Nat) : Nat := if tF t n p = n then 22 else if bLt (t (tF t n p)) = true then tkW (ltr t (tF t n p) (tT t n p - tF t n p)) else if bDg (t (tF t n p)) = true then (if tT t n p - tF t n p ≤ 5 then 20 else 23) else if sgn (t (tF t n p)) = true then 21 else 23
def tN (t : Nat → Int32) (n p : Nat) : Int32 := if tF t n p = n then 0 else if bLt (t (tF t n p)) = true then 0 else if bDg (t (tF t n p)) = true then nvl t (tF t n p) (tT t n p - tF t n p) else t (tF t n p)
theorem tF_le (t : Nat → Int32) {n p : Nat} (h : p ≤ n) : p ≤ tF t n p ∧ tF t n p ≤ n := by
  have := scn_le bBl t (n - p) p
  unfold tF
  omega
theorem tT_le (t : Nat → Int32) {n p : Nat} (h : p ≤ n) : tF t n p ≤ tT t n p ∧ tT t n p ≤ n := by
  have h1 := tF_le t h
  unfold tT
  have h2 := scn_le bLt t (n - tF t n p) (tF t n p)
  have h3 := scn_le bDg t (n - tF t n p) (tF t n p)
  repeat' split
  all_goals omega
theorem fF_fF {f : Nat} {u v : Int32} : fF (fF μ f u) f v = fF μ f v := by
  refine Prod.ext (funext fun g => ?_) rfl
  simp only [fF_1]
  by_cases h : g = f
  · rw [if_pos h, if_pos h]
  · rw [if_neg h, if_neg h, if_neg h]
theorem fF_comm {f g : Nat} {u v : Int32} (h : f ≠ g) : fF (fF μ f u) g v = fF (fF μ g v) f u := by
  refine Prod.ext (funext fun e => ?_) rfl
  simp only [fF_1]
  by_cases h1 : e = f
  · have : ¬ e = g := fun z => h (h1.symm.trans z)
    rw [if_neg this, if_pos h1, if_pos h1]
  · by_cases h2 : e = g
    · rw [if_pos h2, if_neg h1, if_pos h2]
    · rw [if_neg h2, if_neg h1, if_neg h1, if_neg h2]
theorem fF_id {f : Nat} {v : Int32} (h : μ.1 f = v) : fF μ f v = μ := by
  refine Prod.ext (funext fun e => ?_) rfl
  rw [fF_1]
  by_cases h1 : e = f
  · rw [if_pos h1, h1, h]
  · rw [if_neg h1]
/-- the reference's state with the token behind p -/
def tkS (μ : Ms) (n p : Nat) : Ms := fF (fF (fF (fF μ 50 (nI (tF (μ.2 39) n p))) 51 (nI (tT (μ.2 39) n p))) 53 (tN (μ.2 39) n p)) 52 (nI (tC (μ.2 39) n p))
theorem m_byteAt (hL : LM σ a) {n i : Nat} (hn : n ≤ 300) (h4 : μ.1 40 = nI n) (hi : i ≤ n) : runc d 144 [.ref a, .int (nI i)] (put σ a μ) = some (some (.int (if i < n then μ.2 39 i else 0)), put σ a μ) := by
  by_cases h : i < n
  · have h1 : ¬ nI n ≤ nI i := nI_ge h (by omega)
    have h2 : ix (nI i) 300 = true := ix_of (by omega) (by omega)
    rw [if_pos h]
    simp [psh_some, psh_none, -Int32.not_lt, -Int32.not_le, rc_M_byteAt, q_M_byteAt_0, q_M_byteAt_8, q_M_byteAt_17, q_M_byteAt_18, hL, h4, h1, h2, cl1000 (show i < 1000 by omega)]
  · have h1 : nI n ≤ nI i := nI_le (by omega) (by omega)
    rw [if_neg h]
    simp [psh_some, psh_none, -Int32.not_lt, -Int32.not_le, rc_M_byteAt, q_M_byteAt_0, q_M_byteAt_8, q_M_byteAt_17, q_M_byteAt_18, hL, h4, h1]
theorem nx_bl (hL : LM σ a) {n : Nat} (hn : n ≤ 300) (h4 : μ.1 40 = nI n) : ∀ k i, i + k = n → run d 147 8 [.ref a] [] (put σ a (fF μ 50 (nI i))) = run d 147 60 [.ref a] [] (put σ a (fF μ 50 (nI (scn bBl (μ.2 39) k i)))) := by
  intro k
  induction k with
  | zero =>
    intro i hi
    have : i = n := by omega
    subst this
    simp [psh_some, psh_none, -Int32.not_lt, -Int32.not_le, q_M_next_8, hL, fF_1, h4, scn]
  | succ k ih =>
    intro i hi
    have h1 : ¬ nI n ≤ nI i := nI_ge (by omega) (by omega)
    have h2 : ix (nI i) 300 = true := ix_of (by omega) (by omega)
    have c1 := cl1000 (show i < 1000 by omega)
    have h3 := ih (i + 1) (by omega)
    rw [nI_succ] at h3
    rw [scn]
    by_cases z1 : μ.2 39 i = 32
    · rw [show bBl (μ.2 39 i) = true by simp [bBl, z1]]
      dsimp only
      rw [← h3]
      simp [psh_some, psh_none, -Int32.not_lt, -Int32.not_le, q_M_next_8, q_M_next_19, q_M_next_47, q_M_next_57, hL, fF_1, fF_2, h4, h1, h2, c1, z1, fF_fF]
    · by_cases z2 : μ.2 39 i = 10
      · rw [show bBl (μ.2 39 i) = true by simp [bBl, z2]]
        dsimp only
        rw [← h3]
        simp [psh_some, psh_none, -Int32.not_lt, -Int32.not_le, q_M_next_8, q_M_next_19, q_M_next_33, q_M_next_47, q_M_next_57, hL, fF_1, fF_2, h4, h1, h2, c1, z2, fF_fF]
      · rw [show bBl (μ.2 39 i) = false by simp [bBl, z1, z2]]
        dsimp only
        simp [psh_some, psh_none, -Int32.not_lt, -Int32.not_le, q_M_next_8, q_M_next_19, q_M_next_33, hL, fF_1, fF_2, h4, h1, h2, c1, z1, z2]
theorem bZ_lt (x : Int32) : bZ (¬ x < 97 ∧ ¬ 122 < x) = if bLt x = true then 1 else 0 := by
  unfold bZ bLt
  by_cases h : ¬ x < 97 ∧ ¬ 122 < x
  · rw [if_pos h, if_pos (decide_eq_true h)]
  · rw [if_neg h, if_neg (fun z => h (of_decide_eq_true z))]
theorem bZ_dg (x : Int32) : bZ (¬ x < 48 ∧ ¬ 57 < x) = if bDg x = true then 1 else 0 := by
  unfold bZ bDg
  by_cases h : ¬ x < 48 ∧ ¬ 57 < x
  · rw [if_pos h, if_pos (decide_eq_true h)]
  · rw [if_neg h, if_neg (fun z => h (of_decide_eq_true z))]
theorem m_lt (x : Int32) (σ : Mm) : runc d 115 [.int x, .int 97, .int 122] σ = some (some (.int (if bLt x = true then 1 else 0)), σ) := by rw [m_in, bZ_lt]
theorem m_dg (x : Int32) (σ : Mm) : runc d 115 [.int x, .int 48, .int 57] σ = some (some (.int (if bDg x = true then 1 else 0)), σ) := by rw [m_in, bZ_dg]
theorem nx_lt (hL : LM σ a) {n : Nat} (hn : n ≤ 300) (h4 : μ.1 40 = nI n) : ∀ k i, i + k = n → run (d + 1) 147 112 [.ref a] [] (put σ a (fF μ 51 (nI i))) = run (d + 1) 147 143 [.ref a] [] (put σ a (fF μ 51 (nI (scn bLt (μ.2 39) k i)))) := by
  intro k
  induction k with
  | zero =>
    intro i hi
    have : i = n := by omega
    subst this
    have e := m_byteAt (μ := fF μ 51 (nI i)) (i := i) d hL hn (by rw [fF_1, if_neg (by decide)]; exact h4) (Nat.le_refl _)
    rw [if_neg (Nat.lt_irrefl _)] at e
    have z : bLt 0 = false := by decide
    simp [psh_some, psh_none, -Int32.not_lt, -Int32.not_le, q_M_next_112, q_M_next_120, q_M_next_127, hL, fF_1, e, m_lt, z, scn]
  | succ k ih =>
    intro i hi
    have e := m_byteAt (μ := fF μ 51 (nI i)) (i := i) d hL hn (by rw [fF_1, if_neg (by decide)]; exact h4) (by omega)
    rw [if_pos (by omega), fF_2] at e
    have h3 := ih (i + 1) (by omega)
    rw [nI_succ] at h3
    rw [scn]
    cases z : bLt (μ.2 39 i) with
    | true =>
      dsimp only
      rw [← h3]
      simp [psh_some, psh_none, -Int32.not_lt, -Int32.not_le, q_M_next_112, q_M_next_120, q_M_next_127, q_M_next_130, q_M_next_140, hL, fF_1, e, m_lt, z, fF_fF]
    | false =>
      dsimp only
      simp [psh_some, psh_none, -Int32.not_lt, -Int32.not_le, q_M_next_112, q_M_next_120, q_M_next_127, hL, fF_1, e, m_lt, z]
theorem nx_dg (hL : LM σ a) {n f : Nat} (hn : n ≤ 300) (h4 : μ.1 40 = nI n) (h5 : μ.1 50 = nI f) : ∀ k m, f + m + k = n → run (d + 1) 147 173 [.ref a] [] (put σ a (fF (fF μ 51 (nI (f + m))) 53 (nvl (μ.2 39) f m))) = run (d + 1) 147 240 [.ref a] [] (put σ a (fF (fF μ 51 (nI (scn bDg (μ.2 39) k (f + m)))) 53 (nvl (μ.2 39) f (scn bDg (μ.2 39) k (f + m) - f)))) := by
  intro k
  induction k with
  | zero =>
    intro m hi
    have hm : f + m = n := by omega
    have e := m_byteAt (μ := fF (fF μ 51 (nI (f + m))) 53 (nvl (μ.2 39) f m)) (i := f + m) d hL hn (by rw [fF_1, if_neg (by decide), fF_1, if_neg (by decide)]; exact h4) (by omega)
    rw [if_neg (by omega)] at e
    have z : bDg 0 = false := by decide
    rw [scn, show f + m - f = m by omega]
    simp [psh_some, psh_none, -Int32.not_lt, -Int32.not_le, q_M_next_173, q_M_next_181, q_M_next_188, hL, fF_1, e, m_dg, z]
  | succ k ih =>
    intro m hi
    have e := m_byteAt (μ := fF (fF μ 51 (nI (f + m))) 53 (nvl (μ.2 39) f m)) (i := f + m) d hL hn (by rw [fF_1, if_neg (by decide), fF_1, if_neg (by decide)]; exact h4) (by omega)
    rw [if_pos (by omega), fF_2, fF_2] at e
    have h3 := ih (m + 1) (by omega)
    rw [show f + (m + 1) = f + m + 1 by omega, nI_succ, nvl] at h3
    rw [scn]
    have es : nI (f + m) - nI f = nI m := by rw [pk_sub (by omega)]; congr 1; omega
    cases z : bDg (μ.2 39 (f + m)) with
    | true =>
      dsimp only
      rw [← h3]
      by_cases y : m < 5
      · have y1 : ¬ 5 ≤ nI m := nI_ge (b := 5) y (by omega)
        rw [if_pos y]
        have ec : ∀ v, fF (fF (fF μ 51 (nI (f + m))) 53 v) 51 (nI (f + m) + 1) = fF (fF μ 51 (nI (f + m) + 1)) 53 v := fun v => by rw [fF_comm (f := 53) (g := 51) (by decide), fF_fF]
        simp [psh_some, psh_none, -Int32.not_lt, -Int32.not_le, q_M_next_173, q_M_next_181, q_M_next_188, q_M_next_191, q_M_next_204, q_M_next_220, q_M_next_227, q_M_next_237, hL, fF_1, e, m_dg, z, h5, es, y1, fF_fF, ec]
      · have y1 : 5 ≤ nI m := nI_le (a := 5) (by omega) (by omega)
        rw [if_neg y]
        have ec : ∀ v, fF (fF (fF μ 51 (nI (f + m))) 53 v) 51 (nI (f + m) + 1) = fF (fF μ 51 (nI (f + m) + 1)) 53 v := fun v => by rw [fF_comm (f := 53) (g := 51) (by decide), fF_fF]
        simp [psh_some, psh_none, -Int32.not_lt, -Int32.not_le, q_M_next_173, q_M_next_181, q_M_next_188, q_M_next_191, q_M_next_227, q_M_next_237, hL, fF_1, e, m_dg, z, h5, es, y1, ec]
    | false =>
      dsimp only
      rw [show f + m - f = m by omega]
      simp [psh_some, psh_none, -Int32.not_lt, -Int32.not_le, q_M_next_173, q_M_next_181, q_M_next_188, hL, fF_1, e, m_dg, z]
end T69
