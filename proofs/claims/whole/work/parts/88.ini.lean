/-! ===== BOTH ARE MADE: ALL HOLDS ===== -/
section I88
variable {σ σ0 σ1 σ2 : Mm} {c a : Nat} {V : Nat → Int32}
def u0 : Ms := (fun _ => 0, fun _ _ => 0)
theorem bd_X (h : Bd σ0 c cKt cNt V σ 33 cPt [4, 3, 2, 1]) : Kx σ := h.2.2.2.2.2.2.1
theorem bd_ru (h : Bd σ0 c cKt cNt V σ 33 cPt [4, 3, 2, 1]) (r : Nat) (h0 : r < 33 ∧ cKt r = 9 ∧ ∀ e ∈ rlk, (9, r, e.1 - 1, r + e.1) ∈ cPt ∧ r + e.1 < 33 ∧ cKt (r + e.1) = e.2.1 ∧ cNt (r + e.1) = e.2.2) : RuL σ (c + r) := by
  refine ⟨(bd_K h h0.1).trans h0.2.1, fun e he => ?_⟩
  obtain ⟨q1, q2, q3, q4⟩ := h0.2.2 e he
  rw [Nat.add_assoc]
  exact ⟨bd_P h q1, (bd_K h q2).trans q3, (bd_N h q2).trans q4⟩
theorem bd_fl (h : Bd σ0 c cKt cNt V σ 33 cPt [4, 3, 2, 1]) : FL σ c := by
  refine ⟨bd_0 h (by decide), fun e he => ?_, fun e he => ?_, bd_ru h 17 (by decide), bd_ru h 25 (by decide)⟩
  · obtain ⟨q1, q2, q3⟩ := (show ∀ e ∈ clk, e.1 < 33 ∧ cKt e.1 = e.2.1 ∧ cNt e.1 = e.2.2 by decide) e he
    exact ⟨(bd_K h q1).trans q2, (bd_N h q1).trans q3⟩
  · obtain ⟨e1, e2, e3, e4⟩ := e
    exact bd_P h ((show ∀ e ∈ clp, e ∈ cPt by decide) _ he)
theorem bd_ls (h : Bd σ0 c cKt cNt V σ 33 cPt [4, 3, 2, 1]) (hz : Ez σ0) {o : Nat} (ho : o < 33 ∧ cKt o = 1 ∧ o ∈ [4, 3, 2, 1]) (e : Nat) (g : Nat → Nat) : Lst σ (c + o) e 0 g := by
  obtain ⟨z, z1, z2, z3⟩ := hz
  have q := bd_I h ho.1 (by rw [ho.2.1]; decide) 2
  rw [ho.2.1] at q
  refine ⟨(bd_K h ho.1).trans ho.2.1, q, Or.inl ⟨rfl, ?_⟩⟩
  rw [(h.2.2.2.2.1 o ho.2.2).2, bd_ez h (by omega)]
theorem bd_zz (h : Bd σ0 c cKt cNt V σ 33 cPt [4, 3, 2, 1]) (o k f : Nat) (ho : o < 33 ∧ cKt o = k ∧ k ≠ 40) : mI σ k (c + o) f = 0 := by
  have q := bd_I h ho.1 (by rw [ho.2.1]; exact ho.2.2) f
  rw [ho.2.1] at q
  exact q
theorem rc_init (h : Bd σ0 c cKt cNt (vH 42) σ 33 cPt [4, 3, 2, 1]) (hz : Ez σ0) : RC σ c (fun i => i) (fun _ => 0) (fun _ => 0) (fun _ => 0) (fun _ => 0) (fun _ => 0) (fun _ => 0) (fun _ => []) false u0 := by
  have hx : mX σ = c + 33 := h.1
  have z0 : ∀ j, ¬ j < nS u0 := fun j hj => absurd hj (Nat.not_lt_zero j)
  refine ⟨bd_fl h, hz.fr h.2.2.2.2.2.1 rfl, ⟨bd_ls h hz (by decide) _ _, bd_ls h hz (by decide) _ _, bd_ls h hz (by decide) _ _, bd_ls h hz (by decide) _ _, fun i j _ _ e => e, fun i hi => by dsimp only; omega⟩, fun j hj => absurd hj (Nat.not_lt_zero j), fun j hj => absurd hj (Nat.not_lt_zero j), fun j hj => absurd hj (Nat.not_lt_zero j), fun j hj => absurd hj (Nat.not_lt_zero j), ⟨fun j hj => absurd hj (Nat.not_lt_zero j), fun j _ hj => absurd hj (Nat.not_lt_zero j), fun j _ hj => absurd hj (Nat.not_lt_zero j)⟩, ⟨bd_zz h 5 4 4 (by decide), fun j hj => absurd hj (Nat.not_lt_zero j), fun s hs => ?_, fun s hs f => ⟨fun hf => (by cases hf), fun hf => absurd hf.1 (Nat.not_lt_zero f)⟩, fun s hs => List.Pairwise.nil⟩, ⟨bd_zz h 10 11 1 (by decide), fun i => bd_zz h 11 107 i (by decide)⟩, ⟨bd_zz h 12 7 3 (by decide), fun j hj => absurd hj (Nat.not_lt_zero j)⟩, ⟨bd_P (o := 0) h (by decide), bd_P (o := 0) h (by decide), bd_zz h 17 9 7 (by decide), fun j hj => absurd hj (Nat.not_lt_zero j), fun j _ hj => absurd hj (Nat.not_lt_zero j)⟩, bd_zz h 0 12 10 (by decide), bd_zz h 0 12 11 (by decide), bd_zz h 0 12 12 (by decide), bd_zz h 0 12 13 (by decide)⟩
  show mI σ 40 (c + 9) s = -1
  rw [bd_V h (o := 9) (by decide) rfl]
  show (if s < 42 then (-1 : Int32) else 0) = -1
  rw [if_pos hs]
theorem wf_init : Wf u0 := by
  refine ⟨by unfold Cn; decide, ⟨fun j hj => absurd hj (Nat.not_lt_zero j), fun _ _ => rfl⟩, fun j hj => absurd hj (Nat.not_lt_zero j), ⟨fun j hj => absurd hj (Nat.not_lt_zero j), fun _ _ => ⟨rfl, rfl, rfl, rfl, rfl⟩⟩, ⟨fun j hj => absurd hj (Nat.not_lt_zero j), fun _ _ => rfl⟩, fun j hj => absurd hj (Nat.not_lt_zero j), fun _ => (show ((0 : Int32).toInt8.toInt32 = 0) by decide), ⟨fun j hj => absurd hj (Nat.not_lt_zero j), fun j hj => absurd hj (Nat.not_lt_zero j)⟩, fun j hj => absurd hj (Nat.not_lt_zero j), fun j hj => absurd hj (Nat.not_lt_zero j)⟩
theorem mtab : ∀ e ∈ mar, (13, 0, e.1, e.2.1) ∈ mPt ∧ e.2.1 < 54 ∧ mKt e.2.1 = e.2.2.1 ∧ mNt e.2.1 = e.2.2.2 ∧ mKt e.2.1 ≠ 40 := by decide +kernel
theorem rf_init (h : Bd σ1 a mKt mNt v0 σ 54 mPt []) : Rf σ a u0 := by
  refine ⟨⟨bd_0 h (by decide), fun e he => ?_⟩, Prod.ext (funext fun k => funext fun q => funext fun j => ?_) rfl⟩
  · obtain ⟨q1, q2, q3, q4, _⟩ := mtab e he
    exact ⟨bd_P (o := 0) h q1, (bd_K h q2).trans q3, (bd_N h q2).trans q4⟩
  · show (if k = 13 then _ else _) = mI σ k q j
    by_cases hk : k = 13
    · subst hk
      rw [if_pos rfl]
      by_cases hq : q = a
      · subst hq
        rw [if_pos rfl]
        exact (bd_I (o := 0) h (by decide) (by decide) j).symm
      · rw [if_neg hq]
    · rw [if_neg hk]
      cases e : kiv k with
      | none => rfl
      | some fo =>
        obtain ⟨f, o⟩ := fo
        obtain ⟨n, hm⟩ := kiv_inv e
        obtain ⟨q1, q2, q3, q4, q5⟩ := mtab _ hm
        dsimp only at q2 q3 q5 ⊢
        by_cases hq : q = a + o
        · subst hq
          rw [if_pos rfl]
          have := bd_I h q2 q5 j
          rw [q3] at this
          exact this.symm
        · rw [if_neg hq]
theorem inv_init (h1 : Bd σ0 c cKt cNt (vH 42) σ1 33 cPt [4, 3, 2, 1]) (hz : Ez σ0) (h2 : Bd σ1 a mKt mNt v0 σ2 54 mPt []) : Inv σ2 c a u0 :=
  ⟨⟨_, _, _, _, _, _, _, _, _, (rc_init h1 hz).fr (bd_X h1) h2.2.2.2.2.2.1 (fun _ _ => rfl)⟩, rf_init h2, h2.2.2.2.2.2.2.1, wf_init⟩
end I88
