/-! ===== WORDS AND SIGNS AS THE CLASS READS THEM ===== -/
section T72
variable {σ : Mm} {c r : Nat} {ρ : Ms} {t : Nat → Int32} {n p : Nat} (d : Nat)
theorem tC_le (t : Nat → Int32) (n p : Nat) : tC t n p ≤ 23 := by
  unfold tC
  have := tkW_le (ltr t (tF t n p) (tT t n p - tF t n p))
  by_cases c0 : tF t n p = n
  · rw [if_pos c0]; omega
  rw [if_neg c0]
  by_cases c1 : bLt (t (tF t n p)) = true
  · rw [if_pos c1]; omega
  rw [if_neg c1]
  by_cases c2 : bDg (t (tF t n p)) = true
  · rw [if_pos c2]; split <;> omega
  rw [if_neg c2]
  split <;> omega
/-- kinds and codes: the end, a word, a number, a sign, none -/
theorem tKC (t : Nat → Int32) {n p : Nat} (hp : p ≤ n) : (tK t n p = 0 ∧ tC t n p = 22) ∨ (tK t n p = 1 ∧ (tC t n p < 14 ∨ tC t n p = 23) ∧ tC t n p = tkW (ltr t (tF t n p) (tT t n p - tF t n p)) ∧ ∀ k, k < tT t n p - tF t n p → bLt (t (tF t n p + k)) = true) ∨ (tK t n p = 2 ∧ tC t n p = 20 ∧ tF t n p < n) ∨ (tK t n p = 3 ∧ tC t n p = 21 ∧ tF t n p < n ∧ sgn (t (tF t n p)) = true ∧ tN t n p = t (tF t n p)) ∨ (tK t n p = 4 ∧ tC t n p = 23) := by
  have hf := tF_le t hp
  have hT := tT_le t hp
  by_cases c0 : tF t n p = n
  · left
    unfold tK tC
    rw [if_pos c0, if_pos c0]
    exact ⟨rfl, rfl⟩
  by_cases c1 : bLt (t (tF t n p)) = true
  · right; left
    have eC : tC t n p = tkW (ltr t (tF t n p) (tT t n p - tF t n p)) := by unfold tC; rw [if_neg c0, if_pos c1]
    have eT : tT t n p = scn bLt t (n - tF t n p) (tF t n p) := by unfold tT; rw [if_neg c0, if_pos c1]
    refine ⟨by unfold tK; rw [if_neg c0, if_pos c1], by rw [eC]; exact tkW_le _, eC, fun k hk => ?_⟩
    exact scn_in bLt t (n - tF t n p) (tF t n p) _ (by omega) (by rw [← eT]; omega)
  by_cases c2 : bDg (t (tF t n p)) = true
  · by_cases c3 : tT t n p - tF t n p ≤ 5
    · right; right; left
      refine ⟨by unfold tK; rw [if_neg c0, if_neg c1, if_pos c2, if_pos c3], by unfold tC; rw [if_neg c0, if_neg c1, if_pos c2, if_pos c3], by omega⟩
    · right; right; right; right
      refine ⟨by unfold tK; rw [if_neg c0, if_neg c1, if_pos c2, if_neg c3], by unfold tC; rw [if_neg c0, if_neg c1, if_pos c2, if_neg c3]⟩
  by_cases c3 : sgn (t (tF t n p)) = true
  · right; right; right; left
    refine ⟨by unfold tK; rw [if_neg c0, if_neg c1, if_neg c2, if_pos c3], by unfold tC; rw [if_neg c0, if_neg c1, if_neg c2, if_pos c3], by omega, c3, by unfold tN; rw [if_neg c0, if_neg c1, if_neg c2]⟩
  · right; right; right; right
    refine ⟨by unfold tK; rw [if_neg c0, if_neg c1, if_neg c2, if_neg c3], by unfold tC; rw [if_neg c0, if_neg c1, if_neg c2, if_neg c3]⟩
/-- the class's state at the token behind p -/
def CurC (t : Nat → Int32) (n : Nat) (ρ : Ms) (p : Nat) : Prop := ρ.1 1 = nI n ∧ ρ.1 2 = nI (tK t n p) ∧ ρ.1 3 = nI (tF t n p) ∧ ρ.1 4 = nI (tT t n p) ∧ (tC t n p = 20 → ρ.1 5 = tN t n p)
theorem CurC_tkR (h1 : ρ.1 1 = nI n) (hp : p ≤ n) : CurC t n (tkR t ρ n p) p := by
  refine ⟨h1, rfl, rfl, rfl, fun h => ?_⟩
  show tkN5 t ρ n p = tN t n p
  unfold tC at h
  unfold tkN5 tN
  by_cases c0 : tF t n p = n
  · rw [if_pos c0] at h; omega
  rw [if_neg c0] at h ⊢
  rw [if_neg c0]
  by_cases c1 : bLt (t (tF t n p)) = true
  · rw [if_pos c1] at h
    have := tkW_le (ltr t (tF t n p) (tT t n p - tF t n p))
    omega
  rw [if_neg c1] at h ⊢
  rw [if_neg c1]
  by_cases c2 : bDg (t (tF t n p)) = true
  · rw [if_pos c2, if_pos c2]
  rw [if_neg c2] at h
  split at h <;> omega
theorem c_next (hB : Tb σ c t) (hn : n ≤ 300) (hp : p ≤ n) (hc : CurC t n ρ p) : runc (d + 2) 51 [.ref (c + 10)] (cP σ c r ρ) = some (none, cP σ c r (tkR t ρ n (tT t n p))) := t_tok d hB hn hc.1 (tT_le t hp).2 hc.2.2.2.1
/-- the strings that are constants -/
def scd : Nat → Nat
  | 0 => 9
  | 1 => 8
  | 2 => 10
  | 3 => 11
  | 4 => 13
  | 13 => 12
  | k => k - 5
def Sg (σ : Mm) : Prop := ∀ k, k < 14 → ∃ z, mP σ 19 0 k = some z ∧ mI σ 19 z 0 = 1 ∧ mI σ 19 z 1 = nI (wdl (scd k)).length ∧ ∀ j, j < (wdl (scd k)).length → mI σ 19 z (2 + j) = nI ((wdl (scd k)).getD j 0)
theorem iw_lp (hB : Tb σ c t) {f m z : Nat} {l : List Nat} (hn : n ≤ 300) (h1 : ρ.1 1 = nI n) (h3 : ρ.1 3 = nI f) (hm : f + m ≤ n) (hl : l.length = m) (hw : ∀ b ∈ l, b < 256) (hin : ∀ k, k < m → bLt (t (f + k)) = true) (z0 : mI σ 19 z 0 = 1) (z1 : mI σ 19 z 1 = nI m) (z2 : ∀ j, j < m → mI σ 19 z (2 + j) = nI (l.getD j 0)) : ∀ y j, j + y = m → run (d + 1) 54 28 [.ref (c + 10), .ref z, .int (nI j)] [] (cP σ c r ρ) = some (some (.int (bZ ((ltr t f m).drop j = l.drop j))), cP σ c r ρ) := by
  have hF := hB.1
  have hL := ltr_len t f m
  intro y
  induction y with
  | zero =>
    intro j hj
    have : j = m := by omega
    subst this
    rw [List.drop_eq_nil_of_le (by omega), List.drop_eq_nil_of_le (by omega), bZ_t rfl]
    simp [psh_some, psh_none, -Int32.not_lt, -Int32.not_le, isA_r, isR_r, vd, e_Tape_isWord_28, e_Tape_isWord_62, cO_19, z0, z1]
  | succ y ih =>
    intro j hj
    have h := ih (j + 1) (by omega)
    have i1 : ¬ nI m ≤ nI j := nI_ge (by omega) (by omega)
    have i2 : 0 ≤ nI j := nI_pos' (by omega)
    have i3 : nI j < nI m := nI_lt (by omega) (by omega)
    have cj := cl1000 (show j < 1000 by omega)
    have e := t_byteAt (ρ := ρ) (r := r) (i := f + j) d hB hn h1 (by omega)
    rw [if_pos (by omega)] at e
    have hlt := hin j (by omega)
    obtain ⟨b, b1, b2, b3⟩ := bLt_N hlt
    rw [(byq (hB.2.2 (f + j))).2.2.2.2.1 hlt, b3] at e
    have ea : nI f + nI j = nI (f + j) := nI_add f j
    have d1 : (ltr t f m).drop j = b :: (ltr t f m).drop (j + 1) := by
      rw [List.drop_eq_getElem_cons (by omega)]
      congr 1
      simp only [ltr, List.getElem_map, List.getElem_range, b3]
      exact nI_clamp (by omega)
    have d2 : l.drop j = l.getD j 0 :: l.drop (j + 1) := by
      rw [List.drop_eq_getElem_cons (by omega)]
      congr 1
      rw [List.getD_eq_getElem?_getD, List.getElem?_eq_getElem (by omega)]
      rfl
    have hb : l.getD j 0 < 256 := by
      rw [List.getD_eq_getElem?_getD, List.getElem?_eq_getElem (by omega)]
      exact hw _ (List.getElem_mem _)
    rw [d1, d2]
    rw [nI_succ] at h
    have zj := z2 j (by omega)
    generalize l.getD j 0 = lb at hb zj ⊢
    by_cases q : b = lb
    · have q1 : nI b = nI (lb) := by rw [q]
      have q2 : (b :: (ltr t f m).drop (j + 1) = lb :: l.drop (j + 1)) = ((ltr t f m).drop (j + 1) = l.drop (j + 1)) := by
        rw [q]; simp
      have q3 : bZ (b :: (ltr t f m).drop (j + 1) = lb :: l.drop (j + 1)) = bZ ((ltr t f m).drop (j + 1) = l.drop (j + 1)) := by
        unfold bZ
        simp only [q2]
      rw [q3, ← h]
      simp [psh_some, psh_none, -Int32.not_lt, -Int32.not_le, isA_r, isR_r, vd, e_Tape_isWord_28, e_Tape_isWord_36, e_Tape_isWord_46, e_Tape_isWord_56, cO_19, mK_cP, cT, fK_10 hF, z0, z1, i1, i2, i3, h3, ea, e, cj, zj, q1]
    · have q1 : ¬ nI b = nI (lb) := fun w => q ((nI_eq (by omega) (by omega)).mp w)
      have q2 : ¬ (b :: (ltr t f m).drop (j + 1) = lb :: l.drop (j + 1)) := fun w => q (List.cons.inj w).1
      rw [bZ_f q2]
      simp [psh_some, psh_none, -Int32.not_lt, -Int32.not_le, isA_r, isR_r, vd, e_Tape_isWord_28, e_Tape_isWord_36, e_Tape_isWord_46, e_Tape_isWord_54, cO_19, mK_cP, cT, fK_10 hF, z0, z1, i1, i2, i3, h3, ea, e, cj, zj, q1]
theorem scd_lt : ∀ k, k < 14 → scd k < 14 := by decide +kernel
theorem t_isWord (hB : Tb σ c t) (hS : Sg σ) (hn : n ≤ 300) (hp : p ≤ n) (hc : CurC t n ρ p) {k : Nat} (hk : k < 14) : ∃ z, mP σ 19 0 k = some z ∧ runc (d + 1) 54 [.ref (c + 10), .ref z] (cP σ c r ρ) = some (some (.int (bZ (tC t n p = scd k))), cP σ c r ρ) := by
  have hF := hB.1
  obtain ⟨z, s0, s1, s2, s3⟩ := hS k hk
  refine ⟨z, s0, ?_⟩
  have hsc := scd_lt k hk
  obtain ⟨w1, w2, w3⟩ := wdl_in (scd k) hsc
  obtain ⟨c1, c2, c3, c4, c5⟩ := hc
  have hT := tT_le t hp
  have hf := tF_le t hp
  have es : nI (tT t n p) - nI (tF t n p) = nI (tT t n p - tF t n p) := pk_sub hT.1
  have nw : tK t n p ≠ 1 → tC t n p ≠ scd k → runc (d + 1) 54 [.ref (c + 10), .ref z] (cP σ c r ρ) = some (some (.int (bZ (tC t n p = scd k))), cP σ c r ρ) := fun h1 h2 => by
    have hk4 : tK t n p ≤ 4 := by rcases tKC t hp with h | h | h | h | h <;> omega
    have z1 : ¬ nI (tK t n p) = 1 := fun q => h1 ((nI_eq (b := 1) (by omega) (by omega)).mp q)
    rw [bZ_f h2]
    simp [psh_some, psh_none, -Int32.not_lt, -Int32.not_le, isA_r, isR_r, vd, rc_Tape_isWord, e_Tape_isWord_0, e_Tape_isWord_24, mK_cP, cT, fK_10 hF, c2, z1]
  rcases tKC t hp with ⟨h1, h2⟩ | ⟨h1, h2, h3, h4⟩ | ⟨h1, h2, -⟩ | ⟨h1, h2, -⟩ | ⟨h1, h2⟩
  · exact nw (by omega) (by omega)
  · have eq : tC t n p = scd k ↔ ltr t (tF t n p) (tT t n p - tF t n p) = wdl (scd k) := by rw [h3]; exact tkW_iff _ _ hsc
    rw [h1] at c2
    by_cases q : tT t n p - tF t n p = (wdl (scd k)).length
    · have lp := iw_lp (σ := σ) (ρ := ρ) (r := r) d hB hn c1 c3 (show tF t n p + (tT t n p - tF t n p) ≤ n by omega) q.symm (fun b hb => (w1 b hb).2) h4 s1 (by rw [q]; exact s2) (fun j hj => s3 j (by omega)) (tT t n p - tF t n p) 0 (by omega)
      rw [List.drop_zero, List.drop_zero] at lp
      have eb : bZ (ltr t (tF t n p) (tT t n p - tF t n p) = wdl (scd k)) = bZ (tC t n p = scd k) := by
        unfold bZ
        by_cases y : tC t n p = scd k
        · rw [if_pos y, if_pos (eq.mp y)]
        · rw [if_neg y, if_neg (fun w => y (eq.mpr w))]
      rw [← eb, ← lp]
      have e1 : nI (tT t n p - tF t n p) = nI (wdl (scd k)).length := by rw [q]
      simp [psh_some, psh_none, -Int32.not_lt, -Int32.not_le, isA_r, isR_r, vd, rc_Tape_isWord, e_Tape_isWord_0, e_Tape_isWord_8, e_Tape_isWord_26, mK_cP, cT, cO_19, fK_10 hF, c2, show nI 1 = (1 : Int32) from rfl, c3, c4, s1, s2, es, e1, nI_0]
    · have e1 : ¬ nI (tT t n p - tF t n p) = nI (wdl (scd k)).length := fun w => q ((nI_eq (by omega) (by omega)).mp w)
      have e2 : ¬ tC t n p = scd k := fun w => q (by have := congrArg List.length (eq.mp w); rw [ltr_len] at this; exact this)
      rw [bZ_f e2]
      simp [psh_some, psh_none, -Int32.not_lt, -Int32.not_le, isA_r, isR_r, vd, rc_Tape_isWord, e_Tape_isWord_0, e_Tape_isWord_8, e_Tape_isWord_24, mK_cP, cT, cO_19, fK_10 hF, c2, show nI 1 = (1 : Int32) from rfl, c3, c4, s1, s2, es, e1]
  · exact nw (by omega) (by omega)
  · exact nw (by omega) (by omega)
  · exact nw (by omega) (by omega)
theorem t_sign (hB : Tb σ c t) (hn : n ≤ 300) (hp : p ≤ n) (hc : CurC t n ρ p) : runc (d + 1) 55 [.ref (c + 10)] (cP σ c r ρ) = some (some (.int (if tC t n p = 21 then tN t n p else -1)), cP σ c r ρ) := by
  have hF := hB.1
  obtain ⟨c1, c2, c3, c4, c5⟩ := hc
  have hf := tF_le t hp
  have no : tK t n p ≠ 3 → tC t n p ≠ 21 → runc (d + 1) 55 [.ref (c + 10)] (cP σ c r ρ) = some (some (.int (if tC t n p = 21 then tN t n p else -1)), cP σ c r ρ) := fun h1 h2 => by
    have hk4 : tK t n p ≤ 4 := by rcases tKC t hp with h | h | h | h | h <;> omega
    have z1 : ¬ nI (tK t n p) = 3 := fun q => h1 ((nI_eq (b := 3) (by omega) (by omega)).mp q)
    rw [if_neg h2]
    simp [psh_some, psh_none, -Int32.not_lt, -Int32.not_le, rc_Tape_sign, e_Tape_sign_0, e_Tape_sign_19, e_Tape_sign_20, mK_cP, cT, fK_10 hF, c2, z1]
  rcases tKC t hp with ⟨h1, h2⟩ | ⟨h1, h2, h3, h4⟩ | ⟨h1, h2, -⟩ | ⟨h1, h2, h3, h4, h5⟩ | ⟨h1, h2⟩
  · exact no (by omega) (by omega)
  · exact no (by omega) (by omega)
  · exact no (by omega) (by omega)
  · rw [h1] at c2
    have e := t_byteAt (ρ := ρ) (r := r) (i := tF t n p) d hB hn c1 hf.2
    rw [if_pos h3, (byq (hB.2.2 (tF t n p))).2.2.2.2.2.2.1 h4] at e
    rw [if_pos h2, h5]
    have z1 : nI 3 = (3 : Int32) := rfl
    simp [psh_some, psh_none, -Int32.not_lt, -Int32.not_le, rc_Tape_sign, e_Tape_sign_0, e_Tape_sign_8, e_Tape_sign_16, e_Tape_sign_20, mK_cP, cT, fK_10 hF, c2, z1, c3, e]
  · exact no (by omega) (by omega)
theorem kind_2 (hp : p ≤ n) (hc : CurC t n ρ p) : (ρ.1 2 = 2) = (tC t n p = 20) := by
  rw [hc.2.1]
  have hk4 : tK t n p ≤ 4 := by rcases tKC t hp with h | h | h | h | h <;> omega
  rw [show (2 : Int32) = nI 2 from rfl, eq_nI (by omega) (by omega)]
  apply propext
  rcases tKC t hp with h | h | h | h | h <;> omega
theorem kind_0 (hp : p ≤ n) (hc : CurC t n ρ p) : (ρ.1 2 = 0) = (tC t n p = 22) := by
  rw [hc.2.1]
  have hk4 : tK t n p ≤ 4 := by rcases tKC t hp with h | h | h | h | h <;> omega
  rw [show (0 : Int32) = nI 0 from rfl, eq_nI (by omega) (by omega)]
  apply propext
  rcases tKC t hp with h | h | h | h | h <;> omega
theorem t_wordOf (hB : Tb σ c t) (hS : Sg σ) (hn : n ≤ 300) (hp : p ≤ n) (hc : CurC t n ρ p) : runc (d + 2) 42 [.ref (c + 10)] (cP σ c r ρ) = some (some (.int (if tC t n p ≤ 7 then nI (tC t n p) else -1)), cP σ c r ρ) := by
  have hF := hB.1
  obtain ⟨z0, s0, e0⟩ := t_isWord (r := r) d hB hS hn hp hc (k := 5) (by decide)
  rw [show scd 5 = 0 from rfl] at e0
  obtain ⟨z1, s1, e1⟩ := t_isWord (r := r) d hB hS hn hp hc (k := 6) (by decide)
  rw [show scd 6 = 1 from rfl] at e1
  obtain ⟨z2, s2, e2⟩ := t_isWord (r := r) d hB hS hn hp hc (k := 7) (by decide)
  rw [show scd 7 = 2 from rfl] at e2
  obtain ⟨z3, s3, e3⟩ := t_isWord (r := r) d hB hS hn hp hc (k := 8) (by decide)
  rw [show scd 8 = 3 from rfl] at e3
  obtain ⟨z4, s4, e4⟩ := t_isWord (r := r) d hB hS hn hp hc (k := 9) (by decide)
  rw [show scd 9 = 4 from rfl] at e4
  obtain ⟨z5, s5, e5⟩ := t_isWord (r := r) d hB hS hn hp hc (k := 10) (by decide)
  rw [show scd 10 = 5 from rfl] at e5
  obtain ⟨z6, s6, e6⟩ := t_isWord (r := r) d hB hS hn hp hc (k := 11) (by decide)
  rw [show scd 11 = 6 from rfl] at e6
  obtain ⟨z7, s7, e7⟩ := t_isWord (r := r) d hB hS hn hp hc (k := 12) (by decide)
  rw [show scd 12 = 7 from rfl] at e7
  generalize tC t n p = W at *
  rw [rc_Rules_wordOf]
  have f0 : run (d + 2) 42 0 [.ref (c + 10)] [] (cP σ c r ρ) = run (d + 2) 42 6 [.ref (c + 10)] [.int (bZ (W = 0))] (cP σ c r ρ) := by
    simp [psh_some, psh_none, -Int32.not_lt, -Int32.not_le, va_rf, isA_r, isR_r, vd, e_Rules_wordOf_0, mP_cP, mK_cP, fK_10 hF, s0, e0]
  rw [f0]
  by_cases y0 : W = 0
  · rw [if_pos (by omega), bZ_t y0, y0]
    simp [psh_some, psh_none, -Int32.not_lt, -Int32.not_le, isR_r, isA_r, e_Rules_wordOf_6, e_Rules_wordOf_9]
    rfl
  rw [bZ_f y0]
  have g0 : run (d + 2) 42 6 [.ref (c + 10)] [.int 0] (cP σ c r ρ) = run (d + 2) 42 11 [.ref (c + 10)] [] (cP σ c r ρ) := by
    simp [psh_some, psh_none, -Int32.not_lt, -Int32.not_le, isR_r, isA_r, e_Rules_wordOf_6]
  rw [g0]
  have f1 : run (d + 2) 42 11 [.ref (c + 10)] [] (cP σ c r ρ) = run (d + 2) 42 17 [.ref (c + 10)] [.int (bZ (W = 1))] (cP σ c r ρ) := by
    simp [psh_some, psh_none, -Int32.not_lt, -Int32.not_le, va_rf, isA_r, isR_r, vd, e_Rules_wordOf_11, mP_cP, mK_cP, fK_10 hF, s1, e1]
  rw [f1]
  by_cases y1 : W = 1
  · rw [if_pos (by omega), bZ_t y1, y1]
    simp [psh_some, psh_none, -Int32.not_lt, -Int32.not_le, isR_r, isA_r, e_Rules_wordOf_17, e_Rules_wordOf_20]
    rfl
  rw [bZ_f y1]
  have g1 : run (d + 2) 42 17 [.ref (c + 10)] [.int 0] (cP σ c r ρ) = run (d + 2) 42 22 [.ref (c + 10)] [] (cP σ c r ρ) := by
    simp [psh_some, psh_none, -Int32.not_lt, -Int32.not_le, isR_r, isA_r, e_Rules_wordOf_17]
  rw [g1]
  have f2 : run (d + 2) 42 22 [.ref (c + 10)] [] (cP σ c r ρ) = run (d + 2) 42 28 [.ref (c + 10)] [.int (bZ (W = 2))] (cP σ c r ρ) := by
    simp [psh_some, psh_none, -Int32.not_lt, -Int32.not_le, va_rf, isA_r, isR_r, vd, e_Rules_wordOf_22, mP_cP, mK_cP, fK_10 hF, s2, e2]
  rw [f2]
  by_cases y2 : W = 2
  · rw [if_pos (by omega), bZ_t y2, y2]
    simp [psh_some, psh_none, -Int32.not_lt, -Int32.not_le, isR_r, isA_r, e_Rules_wordOf_28, e_Rules_wordOf_31]
    rfl
  rw [bZ_f y2]
  have g2 : run (d + 2) 42 28 [.ref (c + 10)] [.int 0] (cP σ c r ρ) = run (d + 2) 42 33 [.ref (c + 10)] [] (cP σ c r ρ) := by
    simp [psh_some, psh_none, -Int32.not_lt, -Int32.not_le, isR_r, isA_r, e_Rules_wordOf_28]
  rw [g2]
  have f3 : run (d + 2) 42 33 [.ref (c + 10)] [] (cP σ c r ρ) = run (d + 2) 42 39 [.ref (c + 10)] [.int (bZ (W = 3))] (cP σ c r ρ) := by
    simp [psh_some, psh_none, -Int32.not_lt, -Int32.not_le, va_rf, isA_r, isR_r, vd, e_Rules_wordOf_33, mP_cP, mK_cP, fK_10 hF, s3, e3]
  rw [f3]
  by_cases y3 : W = 3
  · rw [if_pos (by omega), bZ_t y3, y3]
    simp [psh_some, psh_none, -Int32.not_lt, -Int32.not_le, isR_r, isA_r, e_Rules_wordOf_39, e_Rules_wordOf_42]
    rfl
  rw [bZ_f y3]
  have g3 : run (d + 2) 42 39 [.ref (c + 10)] [.int 0] (cP σ c r ρ) = run (d + 2) 42 44 [.ref (c + 10)] [] (cP σ c r ρ) := by
    simp [psh_some, psh_none, -Int32.not_lt, -Int32.not_le, isR_r, isA_r, e_Rules_wordOf_39]
  rw [g3]
  have f4 : run (d + 2) 42 44 [.ref (c + 10)] [] (cP σ c r ρ) = run (d + 2) 42 50 [.ref (c + 10)] [.int (bZ (W = 4))] (cP σ c r ρ) := by
    simp [psh_some, psh_none, -Int32.not_lt, -Int32.not_le, va_rf, isA_r, isR_r, vd, e_Rules_wordOf_44, mP_cP, mK_cP, fK_10 hF, s4, e4]
  rw [f4]
  by_cases y4 : W = 4
  · rw [if_pos (by omega), bZ_t y4, y4]
    simp [psh_some, psh_none, -Int32.not_lt, -Int32.not_le, isR_r, isA_r, e_Rules_wordOf_50, e_Rules_wordOf_53]
    rfl
  rw [bZ_f y4]
  have g4 : run (d + 2) 42 50 [.ref (c + 10)] [.int 0] (cP σ c r ρ) = run (d + 2) 42 55 [.ref (c + 10)] [] (cP σ c r ρ) := by
    simp [psh_some, psh_none, -Int32.not_lt, -Int32.not_le, isR_r, isA_r, e_Rules_wordOf_50]
  rw [g4]
  have f5 : run (d + 2) 42 55 [.ref (c + 10)] [] (cP σ c r ρ) = run (d + 2) 42 61 [.ref (c + 10)] [.int (bZ (W = 5))] (cP σ c r ρ) := by
    simp [psh_some, psh_none, -Int32.not_lt, -Int32.not_le, va_rf, isA_r, isR_r, vd, e_Rules_wordOf_55, mP_cP, mK_cP, fK_10 hF, s5, e5]
  rw [f5]
  by_cases y5 : W = 5
  · rw [if_pos (by omega), bZ_t y5, y5]
    simp [psh_some, psh_none, -Int32.not_lt, -Int32.not_le, isR_r, isA_r, e_Rules_wordOf_61, e_Rules_wordOf_64]
    rfl
  rw [bZ_f y5]
  have g5 : run (d + 2) 42 61 [.ref (c + 10)] [.int 0] (cP σ c r ρ) = run (d + 2) 42 66 [.ref (c + 10)] [] (cP σ c r ρ) := by
    simp [psh_some, psh_none, -Int32.not_lt, -Int32.not_le, isR_r, isA_r, e_Rules_wordOf_61]
  rw [g5]
  have f6 : run (d + 2) 42 66 [.ref (c + 10)] [] (cP σ c r ρ) = run (d + 2) 42 72 [.ref (c + 10)] [.int (bZ (W = 6))] (cP σ c r ρ) := by
    simp [psh_some, psh_none, -Int32.not_lt, -Int32.not_le, va_rf, isA_r, isR_r, vd, e_Rules_wordOf_66, mP_cP, mK_cP, fK_10 hF, s6, e6]
  rw [f6]
  by_cases y6 : W = 6
  · rw [if_pos (by omega), bZ_t y6, y6]
    simp [psh_some, psh_none, -Int32.not_lt, -Int32.not_le, isR_r, isA_r, e_Rules_wordOf_72, e_Rules_wordOf_75]
    rfl
  rw [bZ_f y6]
  have g6 : run (d + 2) 42 72 [.ref (c + 10)] [.int 0] (cP σ c r ρ) = run (d + 2) 42 78 [.ref (c + 10)] [] (cP σ c r ρ) := by
    simp [psh_some, psh_none, -Int32.not_lt, -Int32.not_le, isR_r, isA_r, e_Rules_wordOf_72]
  rw [g6]
  have f7 : run (d + 2) 42 78 [.ref (c + 10)] [] (cP σ c r ρ) = run (d + 2) 42 84 [.ref (c + 10)] [.int (bZ (W = 7))] (cP σ c r ρ) := by
    simp [psh_some, psh_none, -Int32.not_lt, -Int32.not_le, va_rf, isA_r, isR_r, vd, e_Rules_wordOf_78, mP_cP, mK_cP, fK_10 hF, s7, e7]
  rw [f7]
  by_cases y7 : W = 7
  · rw [if_pos (by omega), bZ_t y7, y7]
    simp [psh_some, psh_none, -Int32.not_lt, -Int32.not_le, isR_r, isA_r, e_Rules_wordOf_84, e_Rules_wordOf_87, e_Rules_wordOf_93]
    rfl
  rw [bZ_f y7]
  rw [if_neg (by omega)]
  simp [psh_some, psh_none, -Int32.not_lt, -Int32.not_le, isR_r, isA_r, e_Rules_wordOf_84, e_Rules_wordOf_92, e_Rules_wordOf_93]
end T72
