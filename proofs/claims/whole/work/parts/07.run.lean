theorem ex_mono (n : Nat) : ∀ (d m pc : Nat) (ls st : List Value) (σ : Mm) (r : Option Value × Mm), ex n d m pc ls st σ = some r → ex (n + 1) d m pc ls st σ = some r := by
  induction n with
  | zero => intro d m pc ls st σ r h; simp [ex] at h
  | succ n ih =>
    intro d m pc ls st σ r h
    rw [ex] at h ⊢
    cases hq : act m pc ls st σ with
    | none => rw [hq] at h; simp at h
    | some q =>
      rw [hq] at h
      rcases q with q | q | v
      · exact ih _ _ _ _ _ _ _ h
      · dsimp only at h ⊢
        cases d with
        | zero => simp at h
        | succ d =>
          dsimp only at h ⊢
          cases hc : cok q.1 q.2.1 q.2.2.2 σ with
          | false => rw [hc] at h; simp at h
          | true =>
            rw [hc] at h
            dsimp only at h ⊢
            cases hp : ex n d q.1 0 (clo q.1 q.2.1) [] σ with
            | none => rw [hp] at h; simp at h
            | some z => rw [hp] at h; rw [ih _ _ _ _ _ _ _ hp]; exact ih _ _ _ _ _ _ _ h
      · exact h
theorem ex_up {n k d m pc : Nat} {ls st : List Value} {σ : Mm} {r : Option Value × Mm} (h : ex n d m pc ls st σ = some r) : ex (n + k) d m pc ls st σ = some r := by
  induction k with
  | zero => exact h
  | succ k ih => exact ex_mono _ _ _ _ _ _ _ _ ih
/-- what a frame comes to, if it does -/
noncomputable def run (d m pc : Nat) (ls st : List Value) (σ : Mm) : Option (Option Value × Mm) :=
  @dite _ (∃ r, ∃ n, ex n d m pc ls st σ = some r) (Classical.propDecidable _) (fun h => some (Classical.choose h)) (fun _ => none)
theorem run_iff {d m pc : Nat} {ls st : List Value} {σ : Mm} {r : Option Value × Mm} : run d m pc ls st σ = some r ↔ ∃ n, ex n d m pc ls st σ = some r := by
  unfold run
  by_cases h : ∃ r, ∃ n, ex n d m pc ls st σ = some r
  · rw [dif_pos h]
    have hs := Classical.choose_spec h
    constructor
    · intro e
      cases e
      exact hs
    · rintro ⟨n, hn⟩
      obtain ⟨k, hk⟩ := hs
      have h1 := ex_up (k := k) hn
      have h2 := ex_up (k := n) hk
      rw [Nat.add_comm] at h2
      rw [h2] at h1
      exact h1
  · rw [dif_neg h]
    constructor
    · intro e; cases e
    · rintro hn; exact absurd ⟨r, hn⟩ h
theorem run_ext {d m pc : Nat} {ls st : List Value} {σ : Mm} {x : Option (Option Value × Mm)} (h : ∀ r, (∃ n, ex n d m pc ls st σ = some r) ↔ x = some r) : run d m pc ls st σ = x := by
  cases hx : x with
  | none =>
    cases hr : run d m pc ls st σ with
    | none => rfl
    | some r => have := (h r).mp (run_iff.mp hr); rw [hx] at this; cases this
  | some r => exact run_iff.mpr ((h r).mpr hx)
/-- the call of a method -/
noncomputable def runc (d k : Nat) (as : List Value) (σ : Mm) : Option (Option Value × Mm) := run d k 0 (clo k as) [] σ
/-- one instruction of a run -/
theorem run_act (d m pc : Nat) (ls st : List Value) (σ : Mm) : run d m pc ls st σ = match act m pc ls st σ with
    | none => none
    | some (.inl q) => run d m q.1 q.2.1 q.2.2.1 q.2.2.2
    | some (.inr (.inr v)) => some (v, σ)
    | some (.inr (.inl q)) => match d with
      | 0 => none
      | d' + 1 => match cok q.1 q.2.1 q.2.2.2 σ with
        | false => none
        | true => match runc d' q.1 q.2.1 σ with
          | none => none
          | some r => run (d' + 1) m q.2.2.1 ls (psh r.1 q.2.2.2) r.2 := by
  refine run_ext fun r => ?_
  have h0 : (∃ n, ex n d m pc ls st σ = some r) ↔ ∃ n, ex (n + 1) d m pc ls st σ = some r := by
    constructor
    · rintro ⟨n, hn⟩; exact ⟨n, ex_mono _ _ _ _ _ _ _ _ hn⟩
    · rintro ⟨n, hn⟩; exact ⟨n + 1, hn⟩
  rw [h0]
  simp only [ex]
  cases hq : act m pc ls st σ with
  | none => simp
  | some q =>
    rcases q with q | q | v
    · exact run_iff.symm
    · dsimp only
      cases d with
      | zero => simp
      | succ d =>
        dsimp only
        cases hc : cok q.1 q.2.1 q.2.2.2 σ with
        | false => simp
        | true =>
          dsimp only [runc]
          cases hr : run d q.1 0 (clo q.1 q.2.1) [] σ with
          | none =>
            simp only [iff_false, reduceCtorEq]
            rintro ⟨n, hn⟩
            cases hp : ex n d q.1 0 (clo q.1 q.2.1) [] σ with
            | none => rw [hp] at hn; simp at hn
            | some z => have := run_iff.mpr ⟨n, hp⟩; rw [hr] at this; cases this
          | some z =>
            dsimp only
            rw [run_iff]
            obtain ⟨k, hk⟩ := run_iff.mp hr
            constructor
            · rintro ⟨n, hn⟩
              cases hp : ex n d q.1 0 (clo q.1 q.2.1) [] σ with
              | none => rw [hp] at hn; simp at hn
              | some w =>
                rw [hp] at hn
                have h1 := run_iff.mpr ⟨n, hp⟩
                rw [hr] at h1
                cases h1
                exact ⟨n, hn⟩
            · rintro ⟨n, hn⟩
              refine ⟨n + k, ?_⟩
              have h1 := ex_up (k := n) hk
              rw [Nat.add_comm] at h1
              rw [h1]
              exact ex_up hn
    · simp [eq_comm]
theorem act_st {m pc : Nat} {ls st : List Value} {σ : Mm} (h : (st1 (pg m pc).1 ls st σ).1 = true) : act m pc ls st σ = some (.inl (pc + (pg m pc).2, (st1 (pg m pc).1 ls st σ).2)) := by
  unfold act
  generalize hz : st1 (pg m pc).1 ls st σ = z at h ⊢
  obtain ⟨b, z⟩ := z
  dsimp only at h
  subst h
  cases hi : (pg m pc).1 <;> rw [hi] at hz <;> first | (simp [st1] at hz; done) | (dsimp only; rw [hz])
theorem run_stN {d m : Nat} (n : Nat) : ∀ (pc : Nat) (ls st : List Value) (σ : Mm), (stN m n pc ls st σ).1 = true → run d m pc ls st σ = run d m (stN m n pc ls st σ).2.1 (stN m n pc ls st σ).2.2.1 (stN m n pc ls st σ).2.2.2.1 (stN m n pc ls st σ).2.2.2.2 := by
  induction n with
  | zero => intro pc ls st σ _; rfl
  | succ n ih =>
    intro pc ls st σ h
    simp only [stN, Bool.and_eq_true] at h
    rw [run_act, act_st h.1]
    exact ih _ _ _ _ h.2
/-- n instructions that go straight on -/
theorem run_go {d m : Nat} (n : Nat) {pc pc' : Nat} {ls st ls' st' : List Value} {σ σ' : Mm} {G : Bool} (h : stN m n pc ls st σ = (G, pc', ls', st', σ')) (hG : G = true) : run d m pc ls st σ = run d m pc' ls' st' σ' := by
  have := run_stN (d := d) (m := m) n pc ls st σ (by rw [h]; exact hG)
  rw [h] at this
  exact this
/-- an instruction that leads on -/
theorem run_on {d m pc : Nat} {ls st : List Value} {σ : Mm} {q : Nat × List Value × List Value × Mm} (h : act m pc ls st σ = some (.inl q)) : run d m pc ls st σ = run d m q.1 q.2.1 q.2.2.1 q.2.2.2 := by
  rw [run_act, h]
/-- a branch -/
theorem run_if {d m pc t : Nat} {ls st r : List Value} {σ : Mm} {c : Prop} [Decidable c] (h : act m pc ls st σ = iff2 pc t ls r σ c) : run d m pc ls st σ = if c then run d m t ls r σ else run d m (pc + 3) ls r σ := by
  rw [run_act, h, iff2]
  by_cases hc : c
  · simp [hc]
  · simp [hc]
/-- a return -/
theorem run_ret {d m pc : Nat} {ls st : List Value} {σ : Mm} {v : Option Value} (h : act m pc ls st σ = some (.inr (.inr v))) : run d m pc ls st σ = some (v, σ) := by
  rw [run_act, h]
/-- a call -/
theorem run_call {d m pc k pc' : Nat} {ls st as r : List Value} {σ σ' : Mm} {v : Option Value} (h : act m pc ls st σ = some (.inr (.inl (k, as, pc', r)))) (hk : cok k as r σ = true) (hc : runc d k as σ = some (v, σ')) : run (d + 1) m pc ls st σ = run (d + 1) m pc' ls (psh v r) σ' := by
  rw [run_act, h]
  simp only [hk, hc]
