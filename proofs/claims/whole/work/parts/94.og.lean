/-! ===== WHAT THE STATEMENT GIVES OF THE START (printed by wip/gen/og.py) ===== -/
section G94
variable {s : State} {args : Array Value}
def pick : Cond → List Bool → Cond
  | .and a b, q :: r => if q then pick b r else pick a r
  | c, _ => c
theorem pick_ok : ∀ (r : List Bool) (T : Cond), T.before args s = true → (pick T r).before args s = true
  | [], T, h => by cases T <;> exact h
  | q :: r, T, h => by
    cases T with
    | and a b =>
      rw [Cond.before_and, Bool.and_eq_true] at h
      cases q
      · exact pick_ok r a h.1
      · exact pick_ok r b h.2
    | _ => exact h
theorem pk_ok {w : Cond} (h : narrow_1.before args s = true) (r : List Bool) (e : pick narrow_1 r = w) : w.before args s = true := e ▸ pick_ok r narrow_1 h
abbrev tmS (k : Nat) : Term := .string "HullLine$Rules" (tks.getD k (0, "")).1
set_option maxRecDepth 100000
theorem lt14 {i : Nat} (h : i < 14) : i = 0 ∨ i = 1 ∨ i = 2 ∨ i = 3 ∨ i = 4 ∨ i = 5 ∨ i = 6 ∨ i = 7 ∨ i = 8 ∨ i = 9 ∨ i = 10 ∨ i = 11 ∨ i = 12 ∨ i = 13 := by omega
theorem nf_1 (h : narrow_1.before args s = true) : ∀ i, i < 14 → (Cond.exactly (tmS i) "java/lang/String").before args s = true := by
  intro i hi
  rcases lt14 hi with rfl | rfl | rfl | rfl | rfl | rfl | rfl | rfl | rfl | rfl | rfl | rfl | rfl | rfl
  · exact pk_ok h [false, false, false, true, false, false, true, true, false] rfl
  · exact pk_ok h [false, false, false, true, true, false, false, false] rfl
  · exact pk_ok h [false, false, false, true, true, true, true, false] rfl
  · exact pk_ok h [false, false, true, false, false, true, false, false] rfl
  · exact pk_ok h [false, false, true, false, true, false, true, false] rfl
  · exact pk_ok h [false, false, true, true, false, false, false, true, true] rfl
  · exact pk_ok h [false, false, true, true, true, false, true, true, false] rfl
  · exact pk_ok h [false, true, false, false, false, true, false, true, false] rfl
  · exact pk_ok h [false, true, false, false, true, true, true, true, true] rfl
  · exact pk_ok h [false, true, false, true, true, false, true, false] rfl
  · exact pk_ok h [false, true, true, false, false, true, false, true, true] rfl
  · exact pk_ok h [false, true, true, true, false, false, true, true, false] rfl
  · exact pk_ok h [false, true, true, true, true, true, true, true, false] rfl
  · exact pk_ok h [true, false, false, false, true, true, false, true, false] rfl
theorem nf_2 (h : narrow_1.before args s = true) : ∀ i, i < 14 → (Cond.eq (.field (tmS i) "java/lang/String" "coder" "B") (.int 0)).before args s = true := by
  intro i hi
  rcases lt14 hi with rfl | rfl | rfl | rfl | rfl | rfl | rfl | rfl | rfl | rfl | rfl | rfl | rfl | rfl
  · exact pk_ok h [false, false, false, true, false, false, true, true, true] rfl
  · exact pk_ok h [false, false, false, true, true, false, false, true, false] rfl
  · exact pk_ok h [false, false, false, true, true, true, true, true, false] rfl
  · exact pk_ok h [false, false, true, false, false, true, false, true, false] rfl
  · exact pk_ok h [false, false, true, false, true, false, true, true, false] rfl
  · exact pk_ok h [false, false, true, true, false, false, true, false] rfl
  · exact pk_ok h [false, false, true, true, true, false, true, true, true] rfl
  · exact pk_ok h [false, true, false, false, false, true, false, true, true] rfl
  · exact pk_ok h [false, true, false, true, false, false, false, false] rfl
  · exact pk_ok h [false, true, false, true, true, false, true, true, false] rfl
  · exact pk_ok h [false, true, true, false, false, true, true, false] rfl
  · exact pk_ok h [false, true, true, true, false, false, true, true, true] rfl
  · exact pk_ok h [false, true, true, true, true, true, true, true, true] rfl
  · exact pk_ok h [true, false, false, false, true, true, false, true, true] rfl
theorem nf_3 (h : narrow_1.before args s = true) : ∀ i, i < 14 → (Cond.arrayOf (.field (tmS i) "java/lang/String" "value" "[B") .byte).before args s = true := by
  intro i hi
  rcases lt14 hi with rfl | rfl | rfl | rfl | rfl | rfl | rfl | rfl | rfl | rfl | rfl | rfl | rfl | rfl
  · exact pk_ok h [false, false, false, true, false, true, false, false] rfl
  · exact pk_ok h [false, false, false, true, true, false, false, true, true] rfl
  · exact pk_ok h [false, false, false, true, true, true, true, true, true] rfl
  · exact pk_ok h [false, false, true, false, false, true, false, true, true] rfl
  · exact pk_ok h [false, false, true, false, true, false, true, true, true] rfl
  · exact pk_ok h [false, false, true, true, false, false, true, true, false] rfl
  · exact pk_ok h [false, false, true, true, true, true, false, false] rfl
  · exact pk_ok h [false, true, false, false, false, true, true, false] rfl
  · exact pk_ok h [false, true, false, true, false, false, false, true, false] rfl
  · exact pk_ok h [false, true, false, true, true, false, true, true, true] rfl
  · exact pk_ok h [false, true, true, false, false, true, true, true, false] rfl
  · exact pk_ok h [false, true, true, true, false, true, false, false] rfl
  · exact pk_ok h [true, false, false, false, false, false, false, false] rfl
  · exact pk_ok h [true, false, false, false, true, true, true, false] rfl
theorem nf_4 (h : narrow_1.before args s = true) : ∀ i, i < 14 → (Cond.eq (.length (.field (tmS i) "java/lang/String" "value" "[B")) (.int (Int32.ofNat (lnk.getD i 0)))).before args s = true := by
  intro i hi
  rcases lt14 hi with rfl | rfl | rfl | rfl | rfl | rfl | rfl | rfl | rfl | rfl | rfl | rfl | rfl | rfl
  · exact pk_ok h [false, false, false, true, false, true, false, true, false] rfl
  · exact pk_ok h [false, false, false, true, true, false, true, false] rfl
  · exact pk_ok h [false, false, true, false, false, false, false, false] rfl
  · exact pk_ok h [false, false, true, false, false, true, true, false] rfl
  · exact pk_ok h [false, false, true, false, true, true, false, false] rfl
  · exact pk_ok h [false, false, true, true, false, false, true, true, true] rfl
  · exact pk_ok h [false, false, true, true, true, true, false, true, false] rfl
  · exact pk_ok h [false, true, false, false, false, true, true, true, false] rfl
  · exact pk_ok h [false, true, false, true, false, false, false, true, true] rfl
  · exact pk_ok h [false, true, false, true, true, true, false, false] rfl
  · exact pk_ok h [false, true, true, false, false, true, true, true, true] rfl
  · exact pk_ok h [false, true, true, true, false, true, false, true, false] rfl
  · exact pk_ok h [true, false, false, false, false, false, false, true] rfl
  · exact pk_ok h [true, false, false, false, true, true, true, true, false] rfl
theorem nf_5_0 (h : narrow_1.before args s = true) : ∀ j, j < 4 → (Cond.eq (.elem (.field (tmS 0) "java/lang/String" "value" "[B") (.int (Int32.ofNat j))) (.int ((byk.getD 0 []).getD j 0))).before args s = true := by
  intro j hj
  rcases (show j = 0 ∨ j = 1 ∨ j = 2 ∨ j = 3 by omega) with rfl | rfl | rfl | rfl
  · exact pk_ok h [false, false, false, true, false, true, false, true, true] rfl
  · exact pk_ok h [false, false, false, true, false, true, true, false] rfl
  · exact pk_ok h [false, false, false, true, false, true, true, true, false] rfl
  · exact pk_ok h [false, false, false, true, false, true, true, true, true] rfl
theorem nf_5_1 (h : narrow_1.before args s = true) : ∀ j, j < 4 → (Cond.eq (.elem (.field (tmS 1) "java/lang/String" "value" "[B") (.int (Int32.ofNat j))) (.int ((byk.getD 1 []).getD j 0))).before args s = true := by
  intro j hj
  rcases (show j = 0 ∨ j = 1 ∨ j = 2 ∨ j = 3 by omega) with rfl | rfl | rfl | rfl
  · exact pk_ok h [false, false, false, true, true, false, true, true, false] rfl
  · exact pk_ok h [false, false, false, true, true, false, true, true, true] rfl
  · exact pk_ok h [false, false, false, true, true, true, false, false] rfl
  · exact pk_ok h [false, false, false, true, true, true, false, true, false] rfl
theorem nf_5_2 (h : narrow_1.before args s = true) : ∀ j, j < 2 → (Cond.eq (.elem (.field (tmS 2) "java/lang/String" "value" "[B") (.int (Int32.ofNat j))) (.int ((byk.getD 2 []).getD j 0))).before args s = true := by
  intro j hj
  rcases (show j = 0 ∨ j = 1 by omega) with rfl | rfl
  · exact pk_ok h [false, false, true, false, false, false, false, true] rfl
  · exact pk_ok h [false, false, true, false, false, false, true, false] rfl
theorem nf_5_3 (h : narrow_1.before args s = true) : ∀ j, j < 2 → (Cond.eq (.elem (.field (tmS 3) "java/lang/String" "value" "[B") (.int (Int32.ofNat j))) (.int ((byk.getD 3 []).getD j 0))).before args s = true := by
  intro j hj
  rcases (show j = 0 ∨ j = 1 by omega) with rfl | rfl
  · exact pk_ok h [false, false, true, false, false, true, true, true, false] rfl
  · exact pk_ok h [false, false, true, false, false, true, true, true, true] rfl
theorem nf_5_4 (h : narrow_1.before args s = true) : ∀ j, j < 3 → (Cond.eq (.elem (.field (tmS 4) "java/lang/String" "value" "[B") (.int (Int32.ofNat j))) (.int ((byk.getD 4 []).getD j 0))).before args s = true := by
  intro j hj
  rcases (show j = 0 ∨ j = 1 ∨ j = 2 by omega) with rfl | rfl | rfl
  · exact pk_ok h [false, false, true, false, true, true, false, true, false] rfl
  · exact pk_ok h [false, false, true, false, true, true, false, true, true] rfl
  · exact pk_ok h [false, false, true, false, true, true, true, false] rfl
theorem nf_5_5 (h : narrow_1.before args s = true) : ∀ j, j < 5 → (Cond.eq (.elem (.field (tmS 5) "java/lang/String" "value" "[B") (.int (Int32.ofNat j))) (.int ((byk.getD 5 []).getD j 0))).before args s = true := by
  intro j hj
  rcases (show j = 0 ∨ j = 1 ∨ j = 2 ∨ j = 3 ∨ j = 4 by omega) with rfl | rfl | rfl | rfl | rfl
  · exact pk_ok h [false, false, true, true, false, true, false, false] rfl
  · exact pk_ok h [false, false, true, true, false, true, false, true, false] rfl
  · exact pk_ok h [false, false, true, true, false, true, false, true, true] rfl
  · exact pk_ok h [false, false, true, true, false, true, true, false] rfl
  · exact pk_ok h [false, false, true, true, false, true, true, true, false] rfl
theorem nf_5_6 (h : narrow_1.before args s = true) : ∀ j, j < 4 → (Cond.eq (.elem (.field (tmS 6) "java/lang/String" "value" "[B") (.int (Int32.ofNat j))) (.int ((byk.getD 6 []).getD j 0))).before args s = true := by
  intro j hj
  rcases (show j = 0 ∨ j = 1 ∨ j = 2 ∨ j = 3 by omega) with rfl | rfl | rfl | rfl
  · exact pk_ok h [false, false, true, true, true, true, false, true, true] rfl
  · exact pk_ok h [false, false, true, true, true, true, true, false] rfl
  · exact pk_ok h [false, false, true, true, true, true, true, true, false] rfl
  · exact pk_ok h [false, false, true, true, true, true, true, true, true] rfl
theorem nf_5_7 (h : narrow_1.before args s = true) : ∀ j, j < 5 → (Cond.eq (.elem (.field (tmS 7) "java/lang/String" "value" "[B") (.int (Int32.ofNat j))) (.int ((byk.getD 7 []).getD j 0))).before args s = true := by
  intro j hj
  rcases (show j = 0 ∨ j = 1 ∨ j = 2 ∨ j = 3 ∨ j = 4 by omega) with rfl | rfl | rfl | rfl | rfl
  · exact pk_ok h [false, true, false, false, false, true, true, true, true] rfl
  · exact pk_ok h [false, true, false, false, true, false, false, false] rfl
  · exact pk_ok h [false, true, false, false, true, false, false, true, false] rfl
  · exact pk_ok h [false, true, false, false, true, false, false, true, true] rfl
  · exact pk_ok h [false, true, false, false, true, false, true, false] rfl
theorem nf_5_8 (h : narrow_1.before args s = true) : ∀ j, j < 4 → (Cond.eq (.elem (.field (tmS 8) "java/lang/String" "value" "[B") (.int (Int32.ofNat j))) (.int ((byk.getD 8 []).getD j 0))).before args s = true := by
  intro j hj
  rcases (show j = 0 ∨ j = 1 ∨ j = 2 ∨ j = 3 by omega) with rfl | rfl | rfl | rfl
  · exact pk_ok h [false, true, false, true, false, false, true, false] rfl
  · exact pk_ok h [false, true, false, true, false, false, true, true, false] rfl
  · exact pk_ok h [false, true, false, true, false, false, true, true, true] rfl
  · exact pk_ok h [false, true, false, true, false, true, false, false] rfl
theorem nf_5_9 (h : narrow_1.before args s = true) : ∀ j, j < 4 → (Cond.eq (.elem (.field (tmS 9) "java/lang/String" "value" "[B") (.int (Int32.ofNat j))) (.int ((byk.getD 9 []).getD j 0))).before args s = true := by
  intro j hj
  rcases (show j = 0 ∨ j = 1 ∨ j = 2 ∨ j = 3 by omega) with rfl | rfl | rfl | rfl
  · exact pk_ok h [false, true, false, true, true, true, false, true, false] rfl
  · exact pk_ok h [false, true, false, true, true, true, false, true, true] rfl
  · exact pk_ok h [false, true, false, true, true, true, true, false] rfl
  · exact pk_ok h [false, true, false, true, true, true, true, true, false] rfl
theorem nf_5_10 (h : narrow_1.before args s = true) : ∀ j, j < 6 → (Cond.eq (.elem (.field (tmS 10) "java/lang/String" "value" "[B") (.int (Int32.ofNat j))) (.int ((byk.getD 10 []).getD j 0))).before args s = true := by
  intro j hj
  rcases (show j = 0 ∨ j = 1 ∨ j = 2 ∨ j = 3 ∨ j = 4 ∨ j = 5 by omega) with rfl | rfl | rfl | rfl | rfl | rfl
  · exact pk_ok h [false, true, true, false, true, false, false, false] rfl
  · exact pk_ok h [false, true, true, false, true, false, false, true, false] rfl
  · exact pk_ok h [false, true, true, false, true, false, false, true, true] rfl
  · exact pk_ok h [false, true, true, false, true, false, true, false] rfl
  · exact pk_ok h [false, true, true, false, true, false, true, true, false] rfl
  · exact pk_ok h [false, true, true, false, true, false, true, true, true] rfl
theorem nf_5_11 (h : narrow_1.before args s = true) : ∀ j, j < 3 → (Cond.eq (.elem (.field (tmS 11) "java/lang/String" "value" "[B") (.int (Int32.ofNat j))) (.int ((byk.getD 11 []).getD j 0))).before args s = true := by
  intro j hj
  rcases (show j = 0 ∨ j = 1 ∨ j = 2 by omega) with rfl | rfl | rfl
  · exact pk_ok h [false, true, true, true, false, true, false, true, true] rfl
  · exact pk_ok h [false, true, true, true, false, true, true, false] rfl
  · exact pk_ok h [false, true, true, true, false, true, true, true, false] rfl
theorem nf_5_12 (h : narrow_1.before args s = true) : ∀ j, j < 4 → (Cond.eq (.elem (.field (tmS 12) "java/lang/String" "value" "[B") (.int (Int32.ofNat j))) (.int ((byk.getD 12 []).getD j 0))).before args s = true := by
  intro j hj
  rcases (show j = 0 ∨ j = 1 ∨ j = 2 ∨ j = 3 by omega) with rfl | rfl | rfl | rfl
  · exact pk_ok h [true, false, false, false, false, false, true, false] rfl
  · exact pk_ok h [true, false, false, false, false, false, true, true, false] rfl
  · exact pk_ok h [true, false, false, false, false, false, true, true, true] rfl
  · exact pk_ok h [true, false, false, false, false, true, false, false] rfl
theorem nf_5_13 (h : narrow_1.before args s = true) : ∀ j, j < 3 → (Cond.eq (.elem (.field (tmS 13) "java/lang/String" "value" "[B") (.int (Int32.ofNat j))) (.int ((byk.getD 13 []).getD j 0))).before args s = true := by
  intro j hj
  rcases (show j = 0 ∨ j = 1 ∨ j = 2 by omega) with rfl | rfl | rfl
  · exact pk_ok h [true, false, false, false, true, true, true, true, true] rfl
  · exact pk_ok h [true, false, false, true, false, false, false, false] rfl
  · exact pk_ok h [true, false, false, true, false, false, false, true, false] rfl
theorem nf_5 (h : narrow_1.before args s = true) : ∀ i, i < 14 → ∀ j, j < lnk.getD i 0 → (Cond.eq (.elem (.field (tmS i) "java/lang/String" "value" "[B") (.int (Int32.ofNat j))) (.int ((byk.getD i []).getD j 0))).before args s = true := by
  intro i hi
  rcases lt14 hi with rfl | rfl | rfl | rfl | rfl | rfl | rfl | rfl | rfl | rfl | rfl | rfl | rfl | rfl
  · exact nf_5_0 h
  · exact nf_5_1 h
  · exact nf_5_2 h
  · exact nf_5_3 h
  · exact nf_5_4 h
  · exact nf_5_5 h
  · exact nf_5_6 h
  · exact nf_5_7 h
  · exact nf_5_8 h
  · exact nf_5_9 h
  · exact nf_5_10 h
  · exact nf_5_11 h
  · exact nf_5_12 h
  · exact nf_5_13 h
theorem nf_6_0 (h : narrow_1.before args s = true) : ∀ j, j < 14 → 0 ≠ j → ((Cond.not (Cond.eq (tmS 0) (tmS j))).before args s = true ∨ (Cond.not (Cond.eq (tmS j) (tmS 0))).before args s = true) := by
  intro j hj hn
  rcases lt14 hj with rfl | rfl | rfl | rfl | rfl | rfl | rfl | rfl | rfl | rfl | rfl | rfl | rfl | rfl
  · exact absurd rfl hn
  · exact Or.inl (pk_ok h [false, false, false, true, true, true, false, true, true] rfl)
  · exact Or.inl (pk_ok h [false, false, true, false, false, false, true, true, false] rfl)
  · exact Or.inl (pk_ok h [false, false, true, false, true, false, false, false] rfl)
  · exact Or.inl (pk_ok h [false, false, true, false, true, true, true, true, false] rfl)
  · exact Or.inl (pk_ok h [false, false, true, true, false, true, true, true, true] rfl)
  · exact Or.inl (pk_ok h [false, true, false, false, false, false, false, false] rfl)
  · exact Or.inl (pk_ok h [false, true, false, false, true, false, true, true, false] rfl)
  · exact Or.inl (pk_ok h [false, true, false, true, false, true, false, true, false] rfl)
  · exact Or.inl (pk_ok h [false, true, false, true, true, true, true, true, true] rfl)
  · exact Or.inl (pk_ok h [false, true, true, false, true, true, false, false] rfl)
  · exact Or.inl (pk_ok h [false, true, true, true, false, true, true, true, true] rfl)
  · exact Or.inl (pk_ok h [true, false, false, false, false, true, false, true, false] rfl)
  · exact Or.inl (pk_ok h [true, false, false, true, false, false, false, true, true] rfl)
theorem nf_6_1 (h : narrow_1.before args s = true) : ∀ j, j < 14 → 1 ≠ j → ((Cond.not (Cond.eq (tmS 1) (tmS j))).before args s = true ∨ (Cond.not (Cond.eq (tmS j) (tmS 1))).before args s = true) := by
  intro j hj hn
  rcases lt14 hj with rfl | rfl | rfl | rfl | rfl | rfl | rfl | rfl | rfl | rfl | rfl | rfl | rfl | rfl
  · exact Or.inr (pk_ok h [false, false, false, true, true, true, false, true, true] rfl)
  · exact absurd rfl hn
  · exact Or.inl (pk_ok h [false, false, true, false, false, false, true, true, true] rfl)
  · exact Or.inl (pk_ok h [false, false, true, false, true, false, false, true, false] rfl)
  · exact Or.inl (pk_ok h [false, false, true, false, true, true, true, true, true] rfl)
  · exact Or.inl (pk_ok h [false, false, true, true, true, false, false, false] rfl)
  · exact Or.inl (pk_ok h [false, true, false, false, false, false, false, true] rfl)
  · exact Or.inl (pk_ok h [false, true, false, false, true, false, true, true, true] rfl)
  · exact Or.inl (pk_ok h [false, true, false, true, false, true, false, true, true] rfl)
  · exact Or.inl (pk_ok h [false, true, true, false, false, false, false, false] rfl)
  · exact Or.inl (pk_ok h [false, true, true, false, true, true, false, true, false] rfl)
  · exact Or.inl (pk_ok h [false, true, true, true, true, false, false, false] rfl)
  · exact Or.inl (pk_ok h [true, false, false, false, false, true, false, true, true] rfl)
  · exact Or.inl (pk_ok h [true, false, false, true, false, false, true, false] rfl)
theorem nf_6_2 (h : narrow_1.before args s = true) : ∀ j, j < 14 → 2 ≠ j → ((Cond.not (Cond.eq (tmS 2) (tmS j))).before args s = true ∨ (Cond.not (Cond.eq (tmS j) (tmS 2))).before args s = true) := by
  intro j hj hn
  rcases lt14 hj with rfl | rfl | rfl | rfl | rfl | rfl | rfl | rfl | rfl | rfl | rfl | rfl | rfl | rfl
  · exact Or.inr (pk_ok h [false, false, true, false, false, false, true, true, false] rfl)
  · exact Or.inr (pk_ok h [false, false, true, false, false, false, true, true, true] rfl)
  · exact absurd rfl hn
  · exact Or.inl (pk_ok h [false, false, true, false, true, false, false, true, true] rfl)
  · exact Or.inl (pk_ok h [false, false, true, true, false, false, false, false] rfl)
  · exact Or.inl (pk_ok h [false, false, true, true, true, false, false, true, false] rfl)
  · exact Or.inl (pk_ok h [false, true, false, false, false, false, true, false] rfl)
  · exact Or.inl (pk_ok h [false, true, false, false, true, true, false, false] rfl)
  · exact Or.inl (pk_ok h [false, true, false, true, false, true, true, false] rfl)
  · exact Or.inl (pk_ok h [false, true, true, false, false, false, false, true, false] rfl)
  · exact Or.inl (pk_ok h [false, true, true, false, true, true, false, true, true] rfl)
  · exact Or.inl (pk_ok h [false, true, true, true, true, false, false, true, false] rfl)
  · exact Or.inl (pk_ok h [true, false, false, false, false, true, true, false] rfl)
  · exact Or.inl (pk_ok h [true, false, false, true, false, false, true, true, false] rfl)
theorem nf_6_3 (h : narrow_1.before args s = true) : ∀ j, j < 14 → 3 ≠ j → ((Cond.not (Cond.eq (tmS 3) (tmS j))).before args s = true ∨ (Cond.not (Cond.eq (tmS j) (tmS 3))).before args s = true) := by
  intro j hj hn
  rcases lt14 hj with rfl | rfl | rfl | rfl | rfl | rfl | rfl | rfl | rfl | rfl | rfl | rfl | rfl | rfl
  · exact Or.inr (pk_ok h [false, false, true, false, true, false, false, false] rfl)
  · exact Or.inr (pk_ok h [false, false, true, false, true, false, false, true, false] rfl)
  · exact Or.inr (pk_ok h [false, false, true, false, true, false, false, true, true] rfl)
  · exact absurd rfl hn
  · exact Or.inl (pk_ok h [false, false, true, true, false, false, false, true, false] rfl)
  · exact Or.inl (pk_ok h [false, false, true, true, true, false, false, true, true] rfl)
  · exact Or.inl (pk_ok h [false, true, false, false, false, false, true, true, false] rfl)
  · exact Or.inl (pk_ok h [false, true, false, false, true, true, false, true, false] rfl)
  · exact Or.inl (pk_ok h [false, true, false, true, false, true, true, true, false] rfl)
  · exact Or.inl (pk_ok h [false, true, true, false, false, false, false, true, true] rfl)
  · exact Or.inl (pk_ok h [false, true, true, false, true, true, true, false] rfl)
  · exact Or.inl (pk_ok h [false, true, true, true, true, false, false, true, true] rfl)
  · exact Or.inl (pk_ok h [true, false, false, false, false, true, true, true, false] rfl)
  · exact Or.inl (pk_ok h [true, false, false, true, false, false, true, true, true] rfl)
theorem nf_6_4 (h : narrow_1.before args s = true) : ∀ j, j < 14 → 4 ≠ j → ((Cond.not (Cond.eq (tmS 4) (tmS j))).before args s = true ∨ (Cond.not (Cond.eq (tmS j) (tmS 4))).before args s = true) := by
  intro j hj hn
  rcases lt14 hj with rfl | rfl | rfl | rfl | rfl | rfl | rfl | rfl | rfl | rfl | rfl | rfl | rfl | rfl
  · exact Or.inr (pk_ok h [false, false, true, false, true, true, true, true, false] rfl)
  · exact Or.inr (pk_ok h [false, false, true, false, true, true, true, true, true] rfl)
  · exact Or.inr (pk_ok h [false, false, true, true, false, false, false, false] rfl)
  · exact Or.inr (pk_ok h [false, false, true, true, false, false, false, true, false] rfl)
  · exact absurd rfl hn
  · exact Or.inl (pk_ok h [false, false, true, true, true, false, true, false] rfl)
  · exact Or.inl (pk_ok h [false, true, false, false, false, false, true, true, true] rfl)
  · exact Or.inl (pk_ok h [false, true, false, false, true, true, false, true, true] rfl)
  · exact Or.inl (pk_ok h [false, true, false, true, false, true, true, true, true] rfl)
  · exact Or.inl (pk_ok h [false, true, true, false, false, false, true, false] rfl)
  · exact Or.inl (pk_ok h [false, true, true, false, true, true, true, true, false] rfl)
  · exact Or.inl (pk_ok h [false, true, true, true, true, false, true, false] rfl)
  · exact Or.inl (pk_ok h [true, false, false, false, false, true, true, true, true] rfl)
  · exact Or.inl (pk_ok h [true, false, false, true, false, true, false, false] rfl)
theorem nf_6_5 (h : narrow_1.before args s = true) : ∀ j, j < 14 → 5 ≠ j → ((Cond.not (Cond.eq (tmS 5) (tmS j))).before args s = true ∨ (Cond.not (Cond.eq (tmS j) (tmS 5))).before args s = true) := by
  intro j hj hn
  rcases lt14 hj with rfl | rfl | rfl | rfl | rfl | rfl | rfl | rfl | rfl | rfl | rfl | rfl | rfl | rfl
  · exact Or.inr (pk_ok h [false, false, true, true, false, true, true, true, true] rfl)
  · exact Or.inr (pk_ok h [false, false, true, true, true, false, false, false] rfl)
  · exact Or.inr (pk_ok h [false, false, true, true, true, false, false, true, false] rfl)
  · exact Or.inr (pk_ok h [false, false, true, true, true, false, false, true, true] rfl)
  · exact Or.inr (pk_ok h [false, false, true, true, true, false, true, false] rfl)
  · exact absurd rfl hn
  · exact Or.inl (pk_ok h [false, true, false, false, false, true, false, false] rfl)
  · exact Or.inl (pk_ok h [false, true, false, false, true, true, true, false] rfl)
  · exact Or.inl (pk_ok h [false, true, false, true, true, false, false, false] rfl)
  · exact Or.inl (pk_ok h [false, true, true, false, false, false, true, true, false] rfl)
  · exact Or.inl (pk_ok h [false, true, true, false, true, true, true, true, true] rfl)
  · exact Or.inl (pk_ok h [false, true, true, true, true, false, true, true, false] rfl)
  · exact Or.inl (pk_ok h [true, false, false, false, true, false, false, false] rfl)
  · exact Or.inl (pk_ok h [true, false, false, true, false, true, false, true, false] rfl)
theorem nf_6_6 (h : narrow_1.before args s = true) : ∀ j, j < 14 → 6 ≠ j → ((Cond.not (Cond.eq (tmS 6) (tmS j))).before args s = true ∨ (Cond.not (Cond.eq (tmS j) (tmS 6))).before args s = true) := by
  intro j hj hn
  rcases lt14 hj with rfl | rfl | rfl | rfl | rfl | rfl | rfl | rfl | rfl | rfl | rfl | rfl | rfl | rfl
  · exact Or.inr (pk_ok h [false, true, false, false, false, false, false, false] rfl)
  · exact Or.inr (pk_ok h [false, true, false, false, false, false, false, true] rfl)
  · exact Or.inr (pk_ok h [false, true, false, false, false, false, true, false] rfl)
  · exact Or.inr (pk_ok h [false, true, false, false, false, false, true, true, false] rfl)
  · exact Or.inr (pk_ok h [false, true, false, false, false, false, true, true, true] rfl)
  · exact Or.inr (pk_ok h [false, true, false, false, false, true, false, false] rfl)
  · exact absurd rfl hn
  · exact Or.inl (pk_ok h [false, true, false, false, true, true, true, true, false] rfl)
  · exact Or.inl (pk_ok h [false, true, false, true, true, false, false, true, false] rfl)
  · exact Or.inl (pk_ok h [false, true, true, false, false, false, true, true, true] rfl)
  · exact Or.inl (pk_ok h [false, true, true, true, false, false, false, false] rfl)
  · exact Or.inl (pk_ok h [false, true, true, true, true, false, true, true, true] rfl)
  · exact Or.inl (pk_ok h [true, false, false, false, true, false, false, true, false] rfl)
  · exact Or.inl (pk_ok h [true, false, false, true, false, true, false, true, true] rfl)
theorem nf_6_7 (h : narrow_1.before args s = true) : ∀ j, j < 14 → 7 ≠ j → ((Cond.not (Cond.eq (tmS 7) (tmS j))).before args s = true ∨ (Cond.not (Cond.eq (tmS j) (tmS 7))).before args s = true) := by
  intro j hj hn
  rcases lt14 hj with rfl | rfl | rfl | rfl | rfl | rfl | rfl | rfl | rfl | rfl | rfl | rfl | rfl | rfl
  · exact Or.inr (pk_ok h [false, true, false, false, true, false, true, true, false] rfl)
  · exact Or.inr (pk_ok h [false, true, false, false, true, false, true, true, true] rfl)
  · exact Or.inr (pk_ok h [false, true, false, false, true, true, false, false] rfl)
  · exact Or.inr (pk_ok h [false, true, false, false, true, true, false, true, false] rfl)
  · exact Or.inr (pk_ok h [false, true, false, false, true, true, false, true, true] rfl)
  · exact Or.inr (pk_ok h [false, true, false, false, true, true, true, false] rfl)
  · exact Or.inr (pk_ok h [false, true, false, false, true, true, true, true, false] rfl)
  · exact absurd rfl hn
  · exact Or.inl (pk_ok h [false, true, false, true, true, false, false, true, true] rfl)
  · exact Or.inl (pk_ok h [false, true, true, false, false, true, false, false] rfl)
  · exact Or.inl (pk_ok h [false, true, true, true, false, false, false, true, false] rfl)
  · exact Or.inl (pk_ok h [false, true, true, true, true, true, false, false] rfl)
  · exact Or.inl (pk_ok h [true, false, false, false, true, false, false, true, true] rfl)
  · exact Or.inl (pk_ok h [true, false, false, true, false, true, true, false] rfl)
theorem nf_6_8 (h : narrow_1.before args s = true) : ∀ j, j < 14 → 8 ≠ j → ((Cond.not (Cond.eq (tmS 8) (tmS j))).before args s = true ∨ (Cond.not (Cond.eq (tmS j) (tmS 8))).before args s = true) := by
  intro j hj hn
  rcases lt14 hj with rfl | rfl | rfl | rfl | rfl | rfl | rfl | rfl | rfl | rfl | rfl | rfl | rfl | rfl
  · exact Or.inr (pk_ok h [false, true, false, true, false, true, false, true, false] rfl)
  · exact Or.inr (pk_ok h [false, true, false, true, false, true, false, true, true] rfl)
  · exact Or.inr (pk_ok h [false, true, false, true, false, true, true, false] rfl)
  · exact Or.inr (pk_ok h [false, true, false, true, false, true, true, true, false] rfl)
  · exact Or.inr (pk_ok h [false, true, false, true, false, true, true, true, true] rfl)
  · exact Or.inr (pk_ok h [false, true, false, true, true, false, false, false] rfl)
  · exact Or.inr (pk_ok h [false, true, false, true, true, false, false, true, false] rfl)
  · exact Or.inr (pk_ok h [false, true, false, true, true, false, false, true, true] rfl)
  · exact absurd rfl hn
  · exact Or.inl (pk_ok h [false, true, true, false, false, true, false, true, false] rfl)
  · exact Or.inl (pk_ok h [false, true, true, true, false, false, false, true, true] rfl)
  · exact Or.inl (pk_ok h [false, true, true, true, true, true, false, true, false] rfl)
  · exact Or.inl (pk_ok h [true, false, false, false, true, false, true, false] rfl)
  · exact Or.inl (pk_ok h [true, false, false, true, false, true, true, true, false] rfl)
theorem nf_6_9 (h : narrow_1.before args s = true) : ∀ j, j < 14 → 9 ≠ j → ((Cond.not (Cond.eq (tmS 9) (tmS j))).before args s = true ∨ (Cond.not (Cond.eq (tmS j) (tmS 9))).before args s = true) := by
  intro j hj hn
  rcases lt14 hj with rfl | rfl | rfl | rfl | rfl | rfl | rfl | rfl | rfl | rfl | rfl | rfl | rfl | rfl
  · exact Or.inr (pk_ok h [false, true, false, true, true, true, true, true, true] rfl)
  · exact Or.inr (pk_ok h [false, true, true, false, false, false, false, false] rfl)
  · exact Or.inr (pk_ok h [false, true, true, false, false, false, false, true, false] rfl)
  · exact Or.inr (pk_ok h [false, true, true, false, false, false, false, true, true] rfl)
  · exact Or.inr (pk_ok h [false, true, true, false, false, false, true, false] rfl)
  · exact Or.inr (pk_ok h [false, true, true, false, false, false, true, true, false] rfl)
  · exact Or.inr (pk_ok h [false, true, true, false, false, false, true, true, true] rfl)
  · exact Or.inr (pk_ok h [false, true, true, false, false, true, false, false] rfl)
  · exact Or.inr (pk_ok h [false, true, true, false, false, true, false, true, false] rfl)
  · exact absurd rfl hn
  · exact Or.inl (pk_ok h [false, true, true, true, false, false, true, false] rfl)
  · exact Or.inl (pk_ok h [false, true, true, true, true, true, false, true, true] rfl)
  · exact Or.inl (pk_ok h [true, false, false, false, true, false, true, true, false] rfl)
  · exact Or.inl (pk_ok h [true, false, false, true, false, true, true, true, true] rfl)
theorem nf_6_10 (h : narrow_1.before args s = true) : ∀ j, j < 14 → 10 ≠ j → ((Cond.not (Cond.eq (tmS 10) (tmS j))).before args s = true ∨ (Cond.not (Cond.eq (tmS j) (tmS 10))).before args s = true) := by
  intro j hj hn
  rcases lt14 hj with rfl | rfl | rfl | rfl | rfl | rfl | rfl | rfl | rfl | rfl | rfl | rfl | rfl | rfl
  · exact Or.inr (pk_ok h [false, true, true, false, true, true, false, false] rfl)
  · exact Or.inr (pk_ok h [false, true, true, false, true, true, false, true, false] rfl)
  · exact Or.inr (pk_ok h [false, true, true, false, true, true, false, true, true] rfl)
  · exact Or.inr (pk_ok h [false, true, true, false, true, true, true, false] rfl)
  · exact Or.inr (pk_ok h [false, true, true, false, true, true, true, true, false] rfl)
  · exact Or.inr (pk_ok h [false, true, true, false, true, true, true, true, true] rfl)
  · exact Or.inr (pk_ok h [false, true, true, true, false, false, false, false] rfl)
  · exact Or.inr (pk_ok h [false, true, true, true, false, false, false, true, false] rfl)
  · exact Or.inr (pk_ok h [false, true, true, true, false, false, false, true, true] rfl)
  · exact Or.inr (pk_ok h [false, true, true, true, false, false, true, false] rfl)
  · exact absurd rfl hn
  · exact Or.inl (pk_ok h [false, true, true, true, true, true, true, false] rfl)
  · exact Or.inl (pk_ok h [true, false, false, false, true, false, true, true, true] rfl)
  · exact Or.inl (pk_ok h [true, false, false, true, true, false, false, false] rfl)
theorem nf_6_11 (h : narrow_1.before args s = true) : ∀ j, j < 14 → 11 ≠ j → ((Cond.not (Cond.eq (tmS 11) (tmS j))).before args s = true ∨ (Cond.not (Cond.eq (tmS j) (tmS 11))).before args s = true) := by
  intro j hj hn
  rcases lt14 hj with rfl | rfl | rfl | rfl | rfl | rfl | rfl | rfl | rfl | rfl | rfl | rfl | rfl | rfl
  · exact Or.inr (pk_ok h [false, true, true, true, false, true, true, true, true] rfl)
  · exact Or.inr (pk_ok h [false, true, true, true, true, false, false, false] rfl)
  · exact Or.inr (pk_ok h [false, true, true, true, true, false, false, true, false] rfl)
  · exact Or.inr (pk_ok h [false, true, true, true, true, false, false, true, true] rfl)
  · exact Or.inr (pk_ok h [false, true, true, true, true, false, true, false] rfl)
  · exact Or.inr (pk_ok h [false, true, true, true, true, false, true, true, false] rfl)
  · exact Or.inr (pk_ok h [false, true, true, true, true, false, true, true, true] rfl)
  · exact Or.inr (pk_ok h [false, true, true, true, true, true, false, false] rfl)
  · exact Or.inr (pk_ok h [false, true, true, true, true, true, false, true, false] rfl)
  · exact Or.inr (pk_ok h [false, true, true, true, true, true, false, true, true] rfl)
  · exact Or.inr (pk_ok h [false, true, true, true, true, true, true, false] rfl)
  · exact absurd rfl hn
  · exact Or.inl (pk_ok h [true, false, false, false, true, true, false, false] rfl)
  · exact Or.inl (pk_ok h [true, false, false, true, true, false, false, true, false] rfl)
theorem nf_6_12 (h : narrow_1.before args s = true) : ∀ j, j < 14 → 12 ≠ j → ((Cond.not (Cond.eq (tmS 12) (tmS j))).before args s = true ∨ (Cond.not (Cond.eq (tmS j) (tmS 12))).before args s = true) := by
  intro j hj hn
  rcases lt14 hj with rfl | rfl | rfl | rfl | rfl | rfl | rfl | rfl | rfl | rfl | rfl | rfl | rfl | rfl
  · exact Or.inr (pk_ok h [true, false, false, false, false, true, false, true, false] rfl)
  · exact Or.inr (pk_ok h [true, false, false, false, false, true, false, true, true] rfl)
  · exact Or.inr (pk_ok h [true, false, false, false, false, true, true, false] rfl)
  · exact Or.inr (pk_ok h [true, false, false, false, false, true, true, true, false] rfl)
  · exact Or.inr (pk_ok h [true, false, false, false, false, true, true, true, true] rfl)
  · exact Or.inr (pk_ok h [true, false, false, false, true, false, false, false] rfl)
  · exact Or.inr (pk_ok h [true, false, false, false, true, false, false, true, false] rfl)
  · exact Or.inr (pk_ok h [true, false, false, false, true, false, false, true, true] rfl)
  · exact Or.inr (pk_ok h [true, false, false, false, true, false, true, false] rfl)
  · exact Or.inr (pk_ok h [true, false, false, false, true, false, true, true, false] rfl)
  · exact Or.inr (pk_ok h [true, false, false, false, true, false, true, true, true] rfl)
  · exact Or.inr (pk_ok h [true, false, false, false, true, true, false, false] rfl)
  · exact absurd rfl hn
  · exact Or.inl (pk_ok h [true, false, false, true, true, false, false, true, true] rfl)
theorem nf_6_13 (h : narrow_1.before args s = true) : ∀ j, j < 14 → 13 ≠ j → ((Cond.not (Cond.eq (tmS 13) (tmS j))).before args s = true ∨ (Cond.not (Cond.eq (tmS j) (tmS 13))).before args s = true) := by
  intro j hj hn
  rcases lt14 hj with rfl | rfl | rfl | rfl | rfl | rfl | rfl | rfl | rfl | rfl | rfl | rfl | rfl | rfl
  · exact Or.inr (pk_ok h [true, false, false, true, false, false, false, true, true] rfl)
  · exact Or.inr (pk_ok h [true, false, false, true, false, false, true, false] rfl)
  · exact Or.inr (pk_ok h [true, false, false, true, false, false, true, true, false] rfl)
  · exact Or.inr (pk_ok h [true, false, false, true, false, false, true, true, true] rfl)
  · exact Or.inr (pk_ok h [true, false, false, true, false, true, false, false] rfl)
  · exact Or.inr (pk_ok h [true, false, false, true, false, true, false, true, false] rfl)
  · exact Or.inr (pk_ok h [true, false, false, true, false, true, false, true, true] rfl)
  · exact Or.inr (pk_ok h [true, false, false, true, false, true, true, false] rfl)
  · exact Or.inr (pk_ok h [true, false, false, true, false, true, true, true, false] rfl)
  · exact Or.inr (pk_ok h [true, false, false, true, false, true, true, true, true] rfl)
  · exact Or.inr (pk_ok h [true, false, false, true, true, false, false, false] rfl)
  · exact Or.inr (pk_ok h [true, false, false, true, true, false, false, true, false] rfl)
  · exact Or.inr (pk_ok h [true, false, false, true, true, false, false, true, true] rfl)
  · exact absurd rfl hn
theorem nf_6 (h : narrow_1.before args s = true) : ∀ i, i < 14 → ∀ j, j < 14 → i ≠ j → ((Cond.not (Cond.eq (tmS i) (tmS j))).before args s = true ∨ (Cond.not (Cond.eq (tmS j) (tmS i))).before args s = true) := by
  intro i hi
  rcases lt14 hi with rfl | rfl | rfl | rfl | rfl | rfl | rfl | rfl | rfl | rfl | rfl | rfl | rfl | rfl
  · exact nf_6_0 h
  · exact nf_6_1 h
  · exact nf_6_2 h
  · exact nf_6_3 h
  · exact nf_6_4 h
  · exact nf_6_5 h
  · exact nf_6_6 h
  · exact nf_6_7 h
  · exact nf_6_8 h
  · exact nf_6_9 h
  · exact nf_6_10 h
  · exact nf_6_11 h
  · exact nf_6_12 h
  · exact nf_6_13 h
theorem tb_sr : ∀ i, i < 14 → Cond.stringRef "HullLine$Rules" (tks.getD i (0, "")).1 (tks.getD i (0, "")).2 ∈ tables_1 := by
  intro i hi
  rcases lt14 hi with rfl | rfl | rfl | rfl | rfl | rfl | rfl | rfl | rfl | rfl | rfl | rfl | rfl | rfl
  · exact List.mem_of_getElem? (i := 592) rfl
  · exact List.mem_of_getElem? (i := 643) rfl
  · exact List.mem_of_getElem? (i := 645) rfl
  · exact List.mem_of_getElem? (i := 650) rfl
  · exact List.mem_of_getElem? (i := 655) rfl
  · exact List.mem_of_getElem? (i := 659) rfl
  · exact List.mem_of_getElem? (i := 660) rfl
  · exact List.mem_of_getElem? (i := 661) rfl
  · exact List.mem_of_getElem? (i := 662) rfl
  · exact List.mem_of_getElem? (i := 663) rfl
  · exact List.mem_of_getElem? (i := 664) rfl
  · exact List.mem_of_getElem? (i := 665) rfl
  · exact List.mem_of_getElem? (i := 666) rfl
  · exact List.mem_of_getElem? (i := 671) rfl
theorem tb_ca : ∀ c, c < 13 → ∀ r, vwCl[c]? = some r → Cond.castable r.1 "java/lang/Object" ∈ tables_1 := by
  intro c hc r hr
  have go : ∀ {w : Cond} (i : Nat), tables_1[i]? = some w → w ∈ tables_1 := fun i h => List.mem_of_getElem? h
  rcases (show c = 0 ∨ c = 1 ∨ c = 2 ∨ c = 3 ∨ c = 4 ∨ c = 5 ∨ c = 6 ∨ c = 7 ∨ c = 8 ∨ c = 9 ∨ c = 10 ∨ c = 11 ∨ c = 12 by omega) with rfl | rfl | rfl | rfl | rfl | rfl | rfl | rfl | rfl | rfl | rfl | rfl | rfl
  · cases hr; exact go 1656 rfl
  · cases hr; exact go 1666 rfl
  · cases hr; exact go 1665 rfl
  · cases hr; exact go 1657 rfl
  · cases hr; exact go 1664 rfl
  · cases hr; exact go 1663 rfl
  · cases hr; exact go 1659 rfl
  · cases hr; exact go 1668 rfl
  · cases hr; exact go 1660 rfl
  · cases hr; exact go 1662 rfl
  · cases hr; exact go 1658 rfl
  · cases hr; exact go 1655 rfl
  · cases hr; exact go 1661 rfl
/-- no word of the list ml is of form 3, 4 or 5 but these -/
def m345 : List (Nat × Nat × Nat × Nat) := ml.filter (fun e => decide (3 ≤ e.2.2.2))
theorem m345_eq : m345 = [(1, 46, 109, 3), (2, 28, 109, 3), (3, 34, 109, 3), (3, 45, 110, 3), (4, 25, 110, 3), (5, 25, 109, 3), (6, 42, 109, 3), (6, 64, 189, 5), (6, 70, 191, 5), (6, 112, 112, 3), (7, 111, 109, 3), (10, 34, 48, 4), (10, 41, 23, 4), (10, 52, 36, 4), (10, 60, 189, 5), (10, 75, 193, 5), (10, 249, 191, 5)] := by decide +kernel
theorem tb_ml : ∀ e ∈ m345, e.2.2.2 = 3 ∨ e.2.2.2 = 4 → Cond.methodLinkNest (own e.1) e.2.1 (myn e.2.2.1) "HullLine" ∈ tables_1.filter (fun w => match w with | .methodLinkNest _ _ _ _ => true | _ => false) := by decide +kernel
theorem tb_fw : ∀ e ∈ m345, e.2.2.2 = 5 → (myn e.2.2.1 = ⟨"java/util/ArrayList", "size", "()I"⟩ ∨ myn e.2.2.1 = ⟨"java/util/ArrayList", "add", "(Ljava/lang/Object;)Z"⟩ ∨ myn e.2.2.1 = ⟨"java/util/ArrayList", "get", "(I)Ljava/lang/Object;"⟩) := by decide +kernel
theorem og_all (hgv : (Jvm.Cond.and given_1 narrow_1).before args s = true) (hts0 : ∀ w ∈ lw_tbl, w.before args s = true) : ∃ z mi0 adK adV, Og s.heap.size z mi0 adK adV s := by
  rw [Cond.before_and, Bool.and_eq_true] at hgv
  have h := hgv.2
  have hts : ∀ w ∈ tables_1, w.before args s = true := fun w h => hts0 w (List.mem_append_right _ h)
  have go : ∀ {w : Cond} (i : Nat), tables_1[i]? = some w → w.before args s = true := fun i h => hts _ (List.mem_of_getElem? h)
  have hA : ∀ a : Nat, a < s.heap.size → ¬ (fun q => s.heap.size ≤ q) a := fun a h => Nat.not_le.mpr h
  obtain ⟨adK, adV, hS, hR⟩ := vk_Sof (args := args) (s := s) (N := 14) (tm := tmS) (len := lnk) (byt := byk) (A := fun q => s.heap.size ≤ q) (show ∀ i, i < 14 → lnk.getD i 0 < 2 ^ 31 by decide) (nf_1 h) (nf_2 h) (nf_3 h) (nf_4 h) (nf_5 h) (fun i j hi hj hij => nf_6 h i hi j hj hij) hA
  obtain ⟨z, hz, hT⟩ := va_Tof (args := args) (s := s) (tm := .static "java/util/ArrayList" "DEFAULTCAPACITY_EMPTY_ELEMENTDATA" "[Ljava/lang/Object;") (ty := .object "java/lang/Object") (N := 0) (f := fun _ => .null) (A := fun q => s.heap.size ≤ q) (by decide) (pk_ok h [false, false, false, false, false, false, true, true, false] rfl) (va_eqt (pk_ok h [false, false, false, false, false, true, false, false] rfl)) (fun j hj => absurd hj (Nat.not_lt_zero j)) hA
  obtain ⟨mi0, hM⟩ := va_Mi.of (args := args) (s := s) (C := "[Ljava/lang/Object;") (pk_ok h [false, false, false, true, false, false, true, false] rfl)
  refine ⟨z, mi0, adK, adV, ⟨fun q r hr => ?_, fun e he h3 => ?_, fun e he h5 => ?_⟩, hS, fun k hk => vk_R.of (hts _ (tb_sr k hk)) (hR k hk), va_Zof (go 51 rfl) (go 4 rfl) hz hA, hT, va_Zof (go 606 rfl) (go 20 rfl) (va_eqt (pk_ok h [false, false, false, false, false, true, false, true, false] rfl)) hA, va_Zqof (go 622 rfl) (go 16 rfl) (pk_ok h [false, false, false, false, false, true, false, true, true] rfl) hA, hM, va_Dc.of (go 1673 rfl), va_AO.of (go 320 rfl)⟩
  · have hq : q < 13 := by
      rcases Nat.lt_or_ge q 13 with h | h
      · exact h
      · rw [List.getElem?_eq_none (show vwCl.length ≤ q from h)] at hr; cases hr
    exact va_Nw.of rfl (hts _ (tb_ca q hq r hr))
  · exact va_Nw.of rfl (hts _ (List.mem_filter.mp (tb_ml e (List.mem_filter.mpr ⟨he, by rcases h3 with z | z <;> rw [z] <;> rfl⟩) h3)).1)
  · rcases tb_fw e (List.mem_filter.mpr ⟨he, by rw [h5]; rfl⟩) h5 with z | z | z
    · unfold lin; rw [z]; exact va_Fw.of (go 221 rfl) (go 220 rfl) (go 226 rfl) (go 224 rfl) (go 222 rfl)
    · unfold lin; rw [z]; exact va_Fw.of (go 267 rfl) (go 266 rfl) (go 271 rfl) (go 269 rfl) (go 222 rfl)
    · unfold lin; rw [z]; exact va_Fw.of (go 341 rfl) (go 340 rfl) (go 345 rfl) (go 343 rfl) (go 222 rfl)
end G94
