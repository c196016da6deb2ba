/-! ===== WHAT A RUN LEAVES AS IT WAS, AND WHAT IT ANSWERS (not built yet) ===== -/
/-- kinds and lengths stay -/
def Ky (σ σ' : Mm) : Prop := mX σ ≤ mX σ' ∧ ∀ a, a < mX σ → mK σ' a = mK σ a ∧ mN σ' a = mN σ a
theorem Ky.rf {σ : Mm} : Ky σ σ := ⟨Nat.le_refl _, fun _ _ => ⟨rfl, rfl⟩⟩
theorem Ky.tr {a b c : Mm} (h1 : Ky a b) (h2 : Ky b c) : Ky a c := ⟨Nat.le_trans h1.1 h2.1, fun x hx => ⟨((h2.2 x (Nat.lt_of_lt_of_le hx h1.1)).1).trans (h1.2 x hx).1, ((h2.2 x (Nat.lt_of_lt_of_le hx h1.1)).2).trans (h1.2 x hx).2⟩⟩
theorem Ky.same {σ σ' : Mm} (e1 : σ'.2.2 = σ.2.2) : Ky σ σ' := by
  have eK : mK σ' = mK σ := by simp only [mK, e1]
  have eN : mN σ' = mN σ := by simp only [mN, e1]
  have eX : mX σ' = mX σ := by simp only [mX, e1]
  exact ⟨by rw [eX]; exact Nat.le_refl _, fun a _ => by rw [eK, eN]; exact ⟨rfl, rfl⟩⟩
theorem Ky.nw {σ : Mm} {kd len sl : Nat} : Ky σ (nw σ kd len sl) := by
  refine ⟨Nat.le_succ _, fun a h => ?_⟩
  rw [mK_nw, mN_nw, if_neg (by omega), if_neg (by omega)]
  exact ⟨rfl, rfl⟩
theorem ky_grS {σ : Mm} {a : Nat} : Ky σ (grS σ a) := by
  unfold grS
  split
  · exact Ky.tr Ky.nw (Ky.same rfl)
  · exact Ky.tr (b := _root_.Jvm.Pilot.CHullLineLaw_law_r3152_7a2528.nw σ kO (mN σ (gre σ a) + mN σ (gre σ a) / 2) (mN σ (gre σ a) + mN σ (gre σ a) / 2)) Ky.nw (Ky.same rfl)
theorem st1_ky {i : Instr} {lv st lv' st' : List Value} {σ σ' : Mm} (h : st1 i lv st σ = (true, lv', st', σ')) : Ky σ σ' := by
  cases i <;> simp only [st1] at h <;> first
    | (simp only [Prod.mk.injEq, Bool.false_eq_true, false_and] at h; done)
    | (simp only [Prod.mk.injEq] at h; obtain ⟨-, rfl, rfl, rfl⟩ := h; first | exact Ky.rf | exact Ky.nw)
    | (split at h <;> first
        | (simp only [Prod.mk.injEq, Bool.false_eq_true, false_and] at h; done)
        | (simp only [Prod.mk.injEq] at h; obtain ⟨-, rfl, rfl, rfl⟩ := h; first | exact Ky.rf | exact Ky.same rfl | exact Ky.nw | exact ky_grS | (split <;> exact Ky.same rfl)))
theorem act_ky {k pc : Nat} {lv st : List Value} {σ : Mm} {q : Nat × List Value × List Value × Mm} (h : act k pc lv st σ = some (.inl q)) : Ky σ q.2.2.2 := by
  by_cases hs : (st1 (pg k pc).1 lv st σ).1 = true
  · rw [act_st hs] at h
    cases h
    exact st1_ky (i := (pg k pc).1) (lv := lv) (st := st) (σ := σ) (by rw [← hs])
  · unfold act at h
    generalize hz : st1 (pg k pc).1 lv st σ = z at hs h
    obtain ⟨b, z⟩ := z
    have hb : b = false := by simpa using hs
    subst hb
    cases hi : (pg k pc).1 <;> rw [hi] at h hz <;> dsimp only at h <;> first
      | (rw [hz] at h; cases h; done)
      | (cases h; exact Ky.rf)
      | (cases h; done)
      | (split at h <;> first | (cases h; done) | skip)
    all_goals (try (split at h <;> first | (cases h; done) | skip))
    all_goals (try (split at h <;> first | (cases h; done) | skip))
    all_goals first
      | (unfold iff2 at h; split at h <;> (cases h; exact Ky.rf))
      | (cases h; exact Ky.rf)
      | (split at h <;> first | (cases h; done) | (cases h; exact Ky.rf))
/-- kinds and lengths stay; a method that answers a number does -/
theorem ex_ky (n : Nat) : ∀ (d k pc : Nat) (lv st : List Value) (σ : Mm) (v : Option Value) (σ' : Mm), ex n d k pc lv st σ = some (v, σ') → Ky σ σ' ∧ (mrt k = 1 ∨ mrt k = 2 → ∃ x : Int32, v = some (.int x)) := by
  induction n with
  | zero => intro d k pc lv st σ v σ' h; simp [ex] at h
  | succ n ih =>
    intro d k pc lv st σ v σ' h
    rw [ex] at h
    cases hq : act k pc lv st σ with
    | none => rw [hq] at h; cases h
    | some q =>
      rw [hq] at h
      rcases q with q | q | w
      · exact ⟨(act_ky hq).tr (ih _ _ _ _ _ _ _ _ h).1, (ih _ _ _ _ _ _ _ _ h).2⟩
      · dsimp only at h
        cases d with
        | zero => cases h
        | succ d =>
          dsimp only at h
          cases hc : cok q.1 q.2.1 q.2.2.2 σ with
          | false => rw [hc] at h; cases h
          | true =>
            rw [hc] at h
            dsimp only at h
            cases hp : ex n d q.1 0 (clo q.1 q.2.1) [] σ with
            | none => rw [hp] at h; cases h
            | some z =>
              rw [hp] at h
              obtain ⟨zv, zσ⟩ := z
              exact ⟨(ih _ _ _ _ _ _ _ _ hp).1.tr (ih _ _ _ _ _ _ _ _ h).1, (ih _ _ _ _ _ _ _ _ h).2⟩
      · cases h
        refine ⟨Ky.rf, fun hm => ?_⟩
        rcases act_ret hq with ⟨-, w, -, rfl, hi, -⟩ | ⟨-, w, -, rfl, hi, hr⟩ | ⟨-, -, -, h0⟩ | ⟨-, h6, -⟩
        · obtain ⟨x, rfl⟩ := isI_of hi
          exact ⟨x, rfl⟩
        · exfalso
          obtain ⟨y, rfl⟩ := isR_of hi
          rcases hm with z | z <;> rw [z] at hr <;> cases y <;> simp [rok, isI, va_rf] at hr
        · omega
        · omega
theorem runc_ky {d k : Nat} {as : List Value} {σ σ' : Mm} {v : Option Value} (h : runc d k as σ = some (v, σ')) : Ky σ σ' ∧ (mrt k = 1 ∨ mrt k = 2 → ∃ x : Int32, v = some (.int x)) := by
  obtain ⟨n, hn⟩ := run_iff.mp h
  exact ex_ky n _ _ _ _ _ _ _ _ hn
