theorem ex_mono (n : Nat) : ∀ (d m pc : Nat) (ls st : List Value) (σ : Mm) (r : Option Value × Mm), ex n d m pc ls st σ = some r → ex (n + 1) d m pc ls st σ = some r := by
  induction n with
  | zero => intro d m pc ls st σ r h; simp [ex] at h
  | succ n ih =>
    intro d m pc ls st σ r h
    rw [ex] at h ⊢
    cases hq : act m pc ls st σ with
    | none => rw [hq] at h; simp at h
    | some q =>
      rw [hq] at h
      rcases q with q | q | v
      · exact ih _ _ _ _ _ _ _ h
      · dsimp only at h ⊢
        cases d with
        | zero => simp at h
        | succ d =>
          dsimp only at h ⊢
          cases hc : cok q.1 q.2.1 q.2.2.2.length σ with
          | false => rw [hc] at h; simp at h
          | true =>
            rw [hc] at h
            dsimp only at h ⊢
            cases hb : Nat.ble 900 q.1 with
            | true =>
              rw [hb] at h
              dsimp only at h ⊢
              cases hp : prim q.1 q.2.1 σ with
              | none => rw [hp] at h; simp at h
              | some z => rw [hp] at h; exact ih _ _ _ _ _ _ _ h
            | false =>
              rw [hb] at h
              dsimp only at h ⊢
              cases hp : ex n d q.1 0 (clo q.1 q.2.1) [] σ with
              | none => rw [hp] at h; simp at h
              | some z => rw [hp] at h; rw [ih _ _ _ _ _ _ _ hp]; exact ih _ _ _ _ _ _ _ h
      · exact h
theorem ex_up {n k d m pc : Nat} {ls st : List Value} {σ : Mm} {r : Option Value × Mm} (h : ex n d m pc ls st σ = some r) : ex (n + k) d m pc ls st σ = some r := by
  induction k with
  | zero => exact h
  | succ k ih => exact ex_mono _ _ _ _ _ _ _ _ ih
/-- what a frame comes to, if it does -/
noncomputable def run (d m pc : Nat) (ls st : List Value) (σ : Mm) : Option (Option Value × Mm) :=
  @dite _ (∃ r, ∃ n, ex n d m pc ls st σ = some r) (Classical.propDecidable _) (fun h => some (Classical.choose h)) (fun _ => none)
theorem run_iff {d m pc : Nat} {ls st : List Value} {σ : Mm} {r : Option Value × Mm} : run d m pc ls st σ = some r ↔ ∃ n, ex n d m pc ls st σ = some r := by
  unfold run
  by_cases h : ∃ r, ∃ n, ex n d m pc ls st σ = some r
  · rw [dif_pos h]
    have hs := Classical.choose_spec h
    constructor
    · intro e
      cases e
      exact hs
    · rintro ⟨n, hn⟩
      obtain ⟨k, hk⟩ := hs
      have h1 := ex_up (k := k) hn
      have h2 := ex_up (k := n) hk
      rw [Nat.add_comm] at h2
      rw [h2] at h1
      exact h1
  · rw [dif_neg h]
    constructor
    · intro e; cases e
    · rintro hn; exact absurd ⟨r, hn⟩ h
theorem run_ext {d m pc : Nat} {ls st : List Value} {σ : Mm} {x : Option (Option Value × Mm)} (h : ∀ r, (∃ n, ex n d m pc ls st σ = some r) ↔ x = some r) : run d m pc ls st σ = x := by
  cases hx : x with
  | none =>
    cases hr : run d m pc ls st σ with
    | none => rfl
    | some r => have := (h r).mp (run_iff.mp hr); rw [hx] at this; cases this
  | some r => exact run_iff.mpr ((h r).mpr hx)
/-- the call of a method or of a member that isn't walked -/
noncomputable def runc (d k : Nat) (as : List Value) (σ : Mm) : Option (Option Value × Mm) := match Nat.ble 900 k with
  | true => prim k as σ
  | false => run d k 0 (clo k as) [] σ
/-- one instruction of a run -/
theorem run_act (d m pc : Nat) (ls st : List Value) (σ : Mm) : run d m pc ls st σ = match act m pc ls st σ with
    | none => none
    | some (.inl q) => run d m q.1 q.2.1 q.2.2.1 q.2.2.2
    | some (.inr (.inr v)) => some (v, σ)
    | some (.inr (.inl q)) => match d with
      | 0 => none
      | d' + 1 => match cok q.1 q.2.1 q.2.2.2.length σ with
        | false => none
        | true => match runc d' q.1 q.2.1 σ with
          | none => none
          | some r => run (d' + 1) m q.2.2.1 ls (psh r.1 q.2.2.2) r.2 := by
  refine run_ext fun r => ?_
  have h0 : (∃ n, ex n d m pc ls st σ = some r) ↔ ∃ n, ex (n + 1) d m pc ls st σ = some r := by
    constructor
    · rintro ⟨n, hn⟩; exact ⟨n, ex_mono _ _ _ _ _ _ _ _ hn⟩
    · rintro ⟨n, hn⟩; exact ⟨n + 1, hn⟩
  rw [h0]
  simp only [ex]
  cases hq : act m pc ls st σ with
  | none => simp
  | some q =>
    rcases q with q | q | v
    · exact run_iff.symm
    · dsimp only
      cases d with
      | zero => simp
      | succ d =>
        dsimp only
        cases hc : cok q.1 q.2.1 q.2.2.2.length σ with
        | false => simp
        | true =>
          dsimp only [runc]
          cases hb : Nat.ble 900 q.1 with
          | true =>
            dsimp only
            cases hp : prim q.1 q.2.1 σ with
            | none => simp
            | some z => exact run_iff.symm
          | false =>
            dsimp only
            cases hr : run d q.1 0 (clo q.1 q.2.1) [] σ with
            | none =>
              simp only [iff_false, reduceCtorEq]
              rintro ⟨n, hn⟩
              cases hp : ex n d q.1 0 (clo q.1 q.2.1) [] σ with
              | none => rw [hp] at hn; simp at hn
              | some z => have := run_iff.mpr ⟨n, hp⟩; rw [hr] at this; cases this
            | some z =>
              dsimp only
              rw [run_iff]
              obtain ⟨k, hk⟩ := run_iff.mp hr
              constructor
              · rintro ⟨n, hn⟩
                cases hp : ex n d q.1 0 (clo q.1 q.2.1) [] σ with
                | none => rw [hp] at hn; simp at hn
                | some w =>
                  rw [hp] at hn
                  have h1 := run_iff.mpr ⟨n, hp⟩
                  rw [hr] at h1
                  cases h1
                  exact ⟨n, hn⟩
              · rintro ⟨n, hn⟩
                refine ⟨n + k, ?_⟩
                have h1 := ex_up (k := n) hk
                rw [Nat.add_comm] at h1
                rw [h1]
                exact ex_up hn
    · simp [eq_comm]
