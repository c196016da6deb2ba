/-! ===== SOUNDNESS: GROWTH, ENTRY, RETURN ===== -/
def Gr (σ σ' : Mm) : Prop := mX σ ≤ mX σ' ∧ mS σ ≤ mS σ' ∧ (∀ a ∈ mL σ, a ∈ mL σ') ∧ ∀ a, mX σ ≤ a → a < mX σ' → a ∈ mL σ'
theorem Gr.rf {σ : Mm} : Gr σ σ := ⟨Nat.le_refl _, Nat.le_refl _, fun _ h => h, fun a h1 h2 => by omega⟩
theorem Gr.tr {a b c : Mm} (h1 : Gr a b) (h2 : Gr b c) : Gr a c := ⟨Nat.le_trans h1.1 h2.1, Nat.le_trans h1.2.1 h2.2.1, fun x h => h2.2.2.1 x (h1.2.2.1 x h), fun x hx hy => by
  by_cases h : x < mX b
  · exact h2.2.2.1 x (h1.2.2.2 x hx h)
  · exact h2.2.2.2 x (by omega) hy⟩
theorem Gr.same {σ σ' : Mm} (e1 : σ'.2.2 = σ.2.2) : Gr σ σ' := by
  have eL : mL σ' = mL σ := by simp only [mL, e1]
  have eX : mX σ' = mX σ := by simp only [mX, e1]
  have eS : mS σ' = mS σ := by simp only [mS, e1]
  exact ⟨by rw [eX]; exact Nat.le_refl _, by rw [eS]; exact Nat.le_refl _, by rw [eL]; exact fun _ h => h, fun a h1 h2 => by rw [eX] at h2; omega⟩
theorem Gr.nw {σ : Mm} {kd len sl : Nat} : Gr σ (nw σ kd len sl) := by
  refine ⟨Nat.le_succ _, Nat.le_add_right _ _, fun a h => List.mem_append_left _ h, fun a h1 h2 => ?_⟩
  have h2 : a < mX σ + 1 := h2
  have : a = mX σ := by omega
  rw [this]
  show _ ∈ mL σ ++ [mX σ]
  simp
theorem gr_grS {σ : Mm} {a : Nat} : Gr σ (grS σ a) := by
  unfold grS
  split
  · exact Gr.tr Gr.nw (Gr.same rfl)
  · exact Gr.tr (b := nw σ kO (mN σ (gre σ a) + mN σ (gre σ a) / 2) (mN σ (gre σ a) + mN σ (gre σ a) / 2)) Gr.nw (Gr.same rfl)
theorem st1_gr {i : Instr} {lv st lv' st' : List Value} {σ σ' : Mm} (h : st1 i lv st σ = (true, lv', st', σ')) : Gr σ σ' ∧ lv'.length = lv.length := by
  cases i <;> simp only [st1] at h <;> first
    | (simp only [Prod.mk.injEq, Bool.false_eq_true, false_and] at h; done)
    | (simp only [Prod.mk.injEq] at h; obtain ⟨-, rfl, rfl, rfl⟩ := h; first | exact ⟨Gr.rf, by simp⟩ | exact ⟨Gr.nw, rfl⟩)
    | (split at h <;> first
        | (simp only [Prod.mk.injEq, Bool.false_eq_true, false_and] at h; done)
        | (simp only [Prod.mk.injEq] at h; obtain ⟨-, rfl, rfl, rfl⟩ := h; first | exact ⟨Gr.rf, by simp⟩ | exact ⟨Gr.same rfl, by simp⟩ | exact ⟨Gr.nw, by simp⟩ | exact ⟨gr_grS, by simp⟩ | (refine ⟨?_, by simp⟩; split <;> exact Gr.same rfl)))
theorem act_gr {k pc : Nat} {lv st : List Value} {σ : Mm} {q : Nat × List Value × List Value × Mm} (h : act k pc lv st σ = some (.inl q)) : Gr σ q.2.2.2 ∧ q.2.1.length = lv.length := by
  by_cases hs : (st1 (pg k pc).1 lv st σ).1 = true
  · rw [act_st hs] at h
    cases h
    exact st1_gr (i := (pg k pc).1) (lv := lv) (st := st) (σ := σ) (by rw [← hs])
  · unfold act at h
    generalize hz : st1 (pg k pc).1 lv st σ = z at hs h
    obtain ⟨b, z⟩ := z
    have hb : b = false := by simpa using hs
    subst hb
    cases hi : (pg k pc).1 <;> rw [hi] at h hz <;> dsimp only at h <;> first
      | (rw [hz] at h; cases h; done)
      | (cases h; exact ⟨Gr.rf, rfl⟩)
      | (cases h; done)
      | (split at h <;> first | (cases h; done) | skip)
    all_goals (try (split at h <;> first | (cases h; done) | skip))
    all_goals (try (split at h <;> first | (cases h; done) | skip))
    all_goals first
      | (unfold iff2 at h; split at h <;> (cases h; exact ⟨Gr.rf, rfl⟩))
      | (cases h; exact ⟨Gr.rf, rfl⟩)
      | (split at h <;> first | (cases h; done) | (cases h; exact ⟨Gr.rf, rfl⟩))
theorem ex_gr (n : Nat) : ∀ (d k pc : Nat) (lv st : List Value) (σ : Mm) (v : Option Value) (σ' : Mm), ex n d k pc lv st σ = some (v, σ') → Gr σ σ' := by
  induction n with
  | zero => intro d k pc lv st σ v σ' h; simp [ex] at h
  | succ n ih =>
    intro d k pc lv st σ v σ' h
    rw [ex] at h
    cases hq : act k pc lv st σ with
    | none => rw [hq] at h; cases h
    | some q =>
      rw [hq] at h
      rcases q with q | q | w
      · exact (act_gr hq).1.tr (ih _ _ _ _ _ _ _ _ h)
      · dsimp only at h
        cases d with
        | zero => cases h
        | succ d =>
          dsimp only at h
          cases hc : cok q.1 q.2.1 q.2.2.2 σ with
          | false => rw [hc] at h; cases h
          | true =>
            rw [hc] at h
            dsimp only at h
            cases hp : ex n d q.1 0 (clo q.1 q.2.1) [] σ with
            | none => rw [hp] at h; cases h
            | some z =>
              rw [hp] at h
              obtain ⟨zv, zσ⟩ := z
              exact (ih _ _ _ _ _ _ _ _ hp).tr (ih _ _ _ _ _ _ _ _ h)
      · cases h
        exact Gr.rf
theorem lv_args_mem : ∀ (as : List Value) (n : Nat), (∀ v ∈ as, v.category = 1) → ∀ (i : Nat) (v : Value), as[i]? = some v → (n + i, v) ∈ lv_args n as
  | [], _, _, i, v, h => by simp at h
  | a :: as, n, hc, i, v, h => by
    rw [lv_args, if_neg (by rw [hc a List.mem_cons_self]; decide)]
    cases i with
    | zero => simp at h; subst h; simp
    | succ i =>
      rw [List.getElem?_cons_succ] at h
      have := lv_args_mem as (n + 1) (fun w hw => hc w (List.mem_cons_of_mem _ hw)) i v h
      rw [show n + (i + 1) = n + 1 + i by omega]
      exact List.mem_cons_of_mem _ this
theorem lg_sl_len : ∀ (as : List Value), (∀ v ∈ as, v.category = 1) → (lg_sl as).length = as.length
  | [], _ => rfl
  | a :: as, hc => by
    have h1 := lg_sl_len as (fun w hw => hc w (List.mem_cons_of_mem _ hw))
    unfold lg_sl at h1 ⊢
    rw [List.flatMap_cons, List.length_append, h1, if_neg (by rw [hc a List.mem_cons_self]; decide)]
    simp; omega
/-- a method's first locals -/
theorem entry_ok {k : Nat} {as : List Value} (hk : k < 196) (hlen : as.length = mna k) (hcat : (Nat.beq k mTh = false ∧ ∀ v ∈ as, v.category = 1) ∨ (Nat.beq k mTh = true ∧ ∃ (a : Nat) (w : Int64), as = [.ref a, .long w])) :
    LR ((lg_sl as ++ List.replicate (mml k - (lg_sl as).length) Slot.unset).toArray) (clo k as) ∧ LV k (clo k as) ∧ (clo k as).length = mml k := by
  obtain ⟨-, -, -, -, ⟨-, hna, -, -⟩, -⟩ := mok k hk
  rcases hcat with ⟨hb, hc⟩ | ⟨hb, a, w, rfl⟩
  · have hl := lg_sl_len as hc
    have he := lv_entry as (n := mml k) (by rw [hl, hlen]; exact hna)
    have hcl : clo k as = as ++ List.replicate (mml k - mna k) uu := by unfold clo; rw [hb]
    rw [hcl]
    have hlen2 : (as ++ List.replicate (mml k - mna k) uu).length = mml k := by simp; omega
    refine ⟨⟨by rw [hlen2]; exact he.1, he.2.1, fun i v hv hu => ?_⟩, ⟨fun v hv => ?_, Or.inr fun v hv => ?_⟩, hlen2⟩
    · by_cases hi : i < as.length
      · rw [List.getElem?_append_left hi] at hv
        have := lv_args_mem as 0 hc i v hv
        rw [Nat.zero_add] at this
        exact he.2.2 _ this
      · rw [List.getElem?_append_right (by omega)] at hv
        have := List.mem_of_getElem? hv
        exact absurd (List.eq_of_mem_replicate this) hu
    · rcases List.mem_append.mp hv with h | h
      · exact Or.inl (hc v h)
      · rw [List.eq_of_mem_replicate h]; exact Or.inl rfl
    · rcases List.mem_append.mp hv with h | h
      · exact hc v h
      · rw [List.eq_of_mem_replicate h]; rfl
  · obtain rfl := beqT hb
    have he := lv_entry [.ref a, .long w] (n := mml mTh) (show 3 ≤ 6 by decide)
    have hcl : clo mTh [.ref a, .long w] = [.ref a, .long w, uu, uu, uu, uu] := rfl
    rw [hcl]
    refine ⟨⟨he.1, he.2.1, fun i v hv hu => ?_⟩, ⟨fun v hv => ?_, Or.inl rfl⟩, rfl⟩
    · match i, hv with
      | 0, hv => cases hv; exact he.2.2 (0, .ref a) (by simp [lv_args])
      | 1, hv => cases hv; exact he.2.2 (1, .long w) (by simp [lv_args, Value.category])
      | 2, hv => cases hv; exact absurd rfl hu
      | 3, hv => cases hv; exact absurd rfl hu
      | 4, hv => cases hv; exact absurd rfl hu
      | 5, hv => cases hv; exact absurd rfl hu
      | n + 6, hv => simp at hv
    · simp at hv
      rcases hv with rfl | rfl | rfl
      · exact Or.inl rfl
      · exact Or.inr rfl
      · exact Or.inl rfl
