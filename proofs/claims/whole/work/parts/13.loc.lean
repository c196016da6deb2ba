/-! ===== LOCALS, AND WHAT A TABLE's ROW GIVES ===== -/
def LR (ls : Array Slot) (lv : List Value) : Prop := ls.size = lv.length ∧ lv_wf ls ∧ ∀ (i : Nat) (v : Value), lv[i]? = some v → v ≠ uu → ls[i]? = some (.val v)
def lpr (lv : List Value) : List (Nat × Value) := (List.range lv.length).filterMap (fun i => match lv[i]? with
  | some v => if v = uu then none else some (i, v)
  | none => none)
theorem mem_lpr {lv : List Value} {i : Nat} {v : Value} : (i, v) ∈ lpr lv ↔ lv[i]? = some v ∧ v ≠ uu := by
  unfold lpr
  rw [List.mem_filterMap]
  constructor
  · rintro ⟨j, hj, h⟩
    cases hq : lv[j]? with
    | none => rw [hq] at h; cases h
    | some w =>
      rw [hq] at h
      dsimp only at h
      by_cases hw : w = uu
      · rw [if_pos hw] at h; cases h
      · rw [if_neg hw] at h
        cases h
        exact ⟨hq, hw⟩
  · rintro ⟨h1, h2⟩
    refine ⟨i, List.mem_range.mpr (List.getElem?_eq_some_iff.mp h1).1, ?_⟩
    rw [h1]
    simp [h2]
theorem LR.has {ls : Array Slot} {lv : List Value} (h : LR ls lv) : lv_has ls lv.length (lpr lv) := ⟨h.1, h.2.1, fun q hq => by
  obtain ⟨i, v⟩ := q
  obtain ⟨h1, h2⟩ := mem_lpr.mp hq
  exact h.2.2 i v h1 h2⟩
theorem LR.get {ls : Array Slot} {lv : List Value} (h : LR ls lv) {k : Nat} {v : Value} (hv : lv.getD k uu = v) (hne : v ≠ uu) : ls[k]? = some (.val v) := by
  refine h.2.2 k v ?_ hne
  rw [List.getD_eq_getElem?_getD] at hv
  cases hq : lv[k]? with
  | none => rw [hq] at hv; exact absurd hv.symm hne
  | some w => rw [hq] at hv; exact congrArg some hv
/-- one word stored -/
theorem LR.set1 {ls' : Array Slot} {lv : List Value} {i : Nat} {v : Value} (hi : i < lv.length) (hno : ∀ w, 1 ≤ i → lv[i - 1]? = some w → w.category = 1) (h : lv_has ls' lv.length ((i, v) :: (lpr lv).filter (fun q => !(q.1 == i) && !(q.1 + 1 == i && q.2.category == 2)))) : LR ls' (lv.set i v) := by
  refine ⟨by rw [List.length_set]; exact h.1, h.2.1, fun j w hj hw => ?_⟩
  by_cases hji : j = i
  · subst hji
    rw [List.getElem?_set_self hi] at hj
    cases hj
    exact h.2.2 (j, v) List.mem_cons_self
  · rw [List.getElem?_set_ne (Ne.symm hji)] at hj
    refine h.2.2 (j, w) (List.mem_cons_of_mem _ (List.mem_filter.mpr ⟨mem_lpr.mpr ⟨hj, hw⟩, ?_⟩))
    simp only [Bool.and_eq_true, Bool.not_eq_true', beq_eq_false_iff_ne, ne_eq, Bool.and_eq_false_iff]
    refine ⟨hji, ?_⟩
    by_cases h2 : j + 1 = i
    · right
      have := hno w (by omega) (by rw [show i - 1 = j by omega]; exact hj)
      omega
    · left; exact h2
/-- two words stored -/
theorem LR.set2 {ls' : Array Slot} {lv : List Value} {i : Nat} {v : Value} (hi : i + 1 < lv.length) (hno : ∀ w, 1 ≤ i → lv[i - 1]? = some w → w.category = 1) (h : lv_has ls' lv.length ((i, v) :: (lpr lv).filter (fun q => !(q.1 == i) && (!(q.1 == i + 1) && !(q.1 + 1 == i && q.2.category == 2))))) : LR ls' ((lv.set i v).set (i + 1) uu) := by
  refine ⟨by rw [List.length_set, List.length_set]; exact h.1, h.2.1, fun j w hj hw => ?_⟩
  by_cases hj1 : j = i + 1
  · subst hj1
    rw [List.getElem?_set_self (by rw [List.length_set]; exact hi)] at hj
    cases hj
    exact absurd rfl hw
  · rw [List.getElem?_set_ne (Ne.symm hj1)] at hj
    by_cases hji : j = i
    · subst hji
      rw [List.getElem?_set_self (by omega)] at hj
      cases hj
      exact h.2.2 (j, v) List.mem_cons_self
    · rw [List.getElem?_set_ne (Ne.symm hji)] at hj
      refine h.2.2 (j, w) (List.mem_cons_of_mem _ (List.mem_filter.mpr ⟨mem_lpr.mpr ⟨hj, hw⟩, ?_⟩))
      simp only [Bool.and_eq_true, Bool.not_eq_true', beq_eq_false_iff_ne, ne_eq, Bool.and_eq_false_iff]
      refine ⟨hji, hj1, ?_⟩
      by_cases h2 : j + 1 = i
      · right
        have := hno w (by omega) (by rw [show i - 1 = j by omega]; exact hj)
        omega
      · left; exact h2
/-- no long among the locals, but in the one method -/
def LV (m : Nat) (lv : List Value) : Prop := (∀ w ∈ lv, w.category = 1 ∨ isL w = true) ∧ (m = mTh ∨ ∀ w ∈ lv, w.category = 1)
theorem LV.no {m : Nat} {lv : List Value} (h : LV m lv) (hm : m ≠ mTh) {i : Nat} (w : Value) (_ : 1 ≤ i) (hw : lv[i - 1]? = some w) : w.category = 1 := by
  rcases h.2 with h | h
  · exact absurd h hm
  · exact h w (List.mem_of_getElem? hw)
theorem LV.set {m : Nat} {lv : List Value} (h : LV m lv) {i : Nat} {v : Value} (hv : v.category = 1) : LV m (lv.set i v) := by
  refine ⟨fun w hw => ?_, ?_⟩
  · rcases List.mem_or_eq_of_mem_set hw with h1 | h1
    · exact h.1 w h1
    · rw [h1]; exact Or.inl hv
  · rcases h.2 with h | h
    · exact Or.inl h
    · refine Or.inr fun w hw => ?_
      rcases List.mem_or_eq_of_mem_set hw with h1 | h1
      · exact h w h1
      · rw [h1]; exact hv
theorem LV.setT {m : Nat} {lv : List Value} (h : LV m lv) (hm : m = mTh) {i : Nat} {v : Value} (hv : v.category = 1 ∨ isL v = true) : LV m (lv.set i v) := by
  refine ⟨fun w hw => ?_, Or.inl hm⟩
  rcases List.mem_or_eq_of_mem_set hw with h1 | h1
  · exact h.1 w h1
  · rw [h1]; exact hv
theorem notL_cat {m : Nat} {lv : List Value} (hV : LV m lv) {i : Nat} (h : notL (lv.getD (i - 1) uu) = true) (w : Value) (_ : 1 ≤ i) (hw : lv[i - 1]? = some w) : w.category = 1 := by
  rw [List.getD_eq_getElem?_getD, hw] at h
  rcases hV.1 w (List.mem_of_getElem? hw) with h1 | h1
  · exact h1
  · cases w <;> first | rfl | (simp [notL] at h; done) | (simp [isL] at h1; done)
theorem isI_of {v : Value} (h : isI v = true) : ∃ x, v = .int x := by cases v <;> first | exact ⟨_, rfl⟩ | (simp [isI] at h)
theorem isL_of {v : Value} (h : isL v = true) : ∃ x, v = .long x := by cases v <;> first | exact ⟨_, rfl⟩ | (simp [isL] at h)
theorem isA_of {v : Value} (h : isA v = true) : ∃ x, v = .ref x := by cases v <;> first | exact ⟨_, rfl⟩ | (simp [isA] at h)
theorem isR_of {v : Value} (h : isR v = true) : ∃ x, v = va_rf x := by cases v <;> first | exact ⟨none, rfl⟩ | exact ⟨some _, rfl⟩ | (simp [isR] at h)
theorem isIR_cat {v : Value} (h : (isI v || isR v) = true) : v.category = 1 := by cases v <;> first | rfl | (simp [isI, isR] at h)
theorem isR_cat {v : Value} (h : isR v = true) : v.category = 1 := by cases v <;> first | rfl | (simp [isR] at h)
theorem vr_rf (x : Option Nat) : vr (va_rf x) = x := by cases x <;> rfl
theorem rf_cat (x : Option Nat) : (va_rf x).category = 1 := by cases x <;> rfl
theorem isR_rf (x : Option Nat) : isR (va_rf x) = true := by cases x <;> rfl
theorem ix_in {i : Int32} {n : Nat} (h : ix i n = true) : vp_in i n := by
  simp only [ix, Bool.and_eq_true, decide_eq_true_eq] at h
  rintro (h1 | h1)
  · exact absurd h.1 (by rw [Int32.not_le]; exact h1)
  · omega
theorem lk_mem : ∀ (l : List (Nat × Nat × Instr)) {pc ln : Nat} {i : Instr}, lk l pc = (i, ln) → i ≠ .nop → (pc, ln, i) ∈ l
  | [], pc, ln, i, h, hi => by simp [lk] at h; exact absurd h.1.symm hi
  | (q, l2, j) :: r, pc, ln, i, h, hi => by
    rw [lk] at h
    cases hb : Nat.beq q pc with
    | true =>
      rw [hb] at h
      dsimp only at h
      cases h
      rw [Nat.eq_of_beq_eq_true hb]
      exact List.mem_cons_self
    | false =>
      rw [hb] at h
      exact List.mem_cons_of_mem _ (lk_mem r h hi)
/-- the bytes at a place, and what they are resolved to -/
theorem dec_of {k pc ln : Nat} {i : Instr} (hk : k < 196) (hp : pg k pc = (i, ln)) (hi : i ≠ .nop) : ∃ real, decode (mby k) pc = .ok (real, ln) ∧ relB k pc ln real i = true := by
  have h := List.all_eq_true.mp (chk_ok k hk) _ (lk_mem _ hp hi)
  dsimp only at h
  cases hd : decode (mby k) pc with
  | error e => rw [hd] at h; cases h
  | ok q =>
    obtain ⟨real, l2⟩ := q
    rw [hd] at h
    simp only [Bool.and_eq_true] at h
    have := Nat.eq_of_beq_eq_true h.1
    subst this
    exact ⟨real, rfl, h.2⟩
theorem beqT {a b : Nat} (h : Nat.beq a b = true) : a = b := Nat.eq_of_beq_eq_true h
