/-! ===== EQUATIONS OF RUNS ===== -/
/-- the address that a field holds -/
def ar (σ : Mm) (c a k : Nat) : Nat := vd (va_rf (mP σ c a k))
theorem run_retz {d m pc : Nat} {ls : List Value} {σ : Mm} {x : Int32} (hp : (pg m pc).1 = .ireturn) (hm : mrt m = 2) (h : x = 0 ∨ x = 1) : run d m pc ls [.int x] σ = some (some (.int x), σ) := by
  refine run_ret ?_
  unfold act
  rw [hp]
  rcases h with rfl | rfl <;> simp [isI, rok, hm, vi]
theorem run_reta {d m pc : Nat} {ls : List Value} {σ : Mm} {v : Value} (hp : (pg m pc).1 = .areturn) (hm : mrt m = 4) (h : isR v = true) : run d m pc ls [v] σ = some (some v, σ) := by
  refine run_ret ?_
  unfold act
  rw [hp]
  simp [h, rok, hm]
theorem run_to {d m pc t : Nat} {ls st ls' st' : List Value} {σ σ' : Mm} (h : act m pc ls st σ = some (.inl (t, ls', st', σ'))) : run d m pc ls st σ = run d m t ls' st' σ' := run_on h
theorem run_callG {d m pc k pc' : Nat} {ls st as r : List Value} {σ σ' : Mm} {v : Option Value} {G : Bool} (h : act m pc ls st σ = some (.inr (.inl (k, as, pc', r)))) (hk : cok k as r σ = G) (hG : G = true) (hc : runc d k as σ = some (v, σ')) : run (d + 1) m pc ls st σ = run (d + 1) m pc' ls (psh v r) σ' := run_call h (hk.trans hG) hc
theorem isR_isA {v : Value} (h : isA v = true) : isR v = true := by cases v <;> first | rfl | (simp [isA] at h)
theorem or_true_1 (b : Bool) : (b || true) = true := Bool.or_true b
theorem run_sw_4 {d m pc tD t0 t1 t2 t3 : Nat} {ls r : List Value} {σ : Mm} {x : Int32} {ln : Nat} (hp : pg m pc = (.tableswitch tD 0 3 #[(t0 : Int), (t1 : Int), (t2 : Int), (t3 : Int)], ln)) : run d m pc ls (.int x :: r) σ = if x = 0 then run d m t0 ls r σ else if x = 1 then run d m t1 ls r σ else if x = 2 then run d m t2 ls r σ else if x = 3 then run d m t3 ls r σ else run d m tD ls r σ := by
  by_cases c0 : x = 0
  · rw [if_pos c0]; subst c0; exact run_to (by unfold act; rw [hp]; rfl)
  rw [if_neg c0]
  by_cases c1 : x = 1
  · rw [if_pos c1]; subst c1; exact run_to (by unfold act; rw [hp]; rfl)
  rw [if_neg c1]
  by_cases c2 : x = 2
  · rw [if_pos c2]; subst c2; exact run_to (by unfold act; rw [hp]; rfl)
  rw [if_neg c2]
  by_cases c3 : x = 3
  · rw [if_pos c3]; subst c3; exact run_to (by unfold act; rw [hp]; rfl)
  rw [if_neg c3]
  have ho : x.toInt < 0 ∨ (3 : Int) < x.toInt := by
    by_cases h : x.toInt < 0 ∨ (3 : Int) < x.toInt
    · exact h
    · exfalso
      have h2 : x.toInt = 0 ∨ x.toInt = 1 ∨ x.toInt = 2 ∨ x.toInt = 3 := by omega
      rcases h2 with h2 | h2 | h2 | h2
      · exact c0 (Int32.toInt_inj.mp h2)
      · exact c1 (Int32.toInt_inj.mp h2)
      · exact c2 (Int32.toInt_inj.mp h2)
      · exact c3 (Int32.toInt_inj.mp h2)
  exact run_to (by unfold act; rw [hp]; exact if_pos ho)
theorem run_sw_7 {d m pc tD t0 t1 t2 t3 t4 t5 t6 : Nat} {ls r : List Value} {σ : Mm} {x : Int32} {ln : Nat} (hp : pg m pc = (.tableswitch tD 0 6 #[(t0 : Int), (t1 : Int), (t2 : Int), (t3 : Int), (t4 : Int), (t5 : Int), (t6 : Int)], ln)) : run d m pc ls (.int x :: r) σ = if x = 0 then run d m t0 ls r σ else if x = 1 then run d m t1 ls r σ else if x = 2 then run d m t2 ls r σ else if x = 3 then run d m t3 ls r σ else if x = 4 then run d m t4 ls r σ else if x = 5 then run d m t5 ls r σ else if x = 6 then run d m t6 ls r σ else run d m tD ls r σ := by
  by_cases c0 : x = 0
  · rw [if_pos c0]; subst c0; exact run_to (by unfold act; rw [hp]; rfl)
  rw [if_neg c0]
  by_cases c1 : x = 1
  · rw [if_pos c1]; subst c1; exact run_to (by unfold act; rw [hp]; rfl)
  rw [if_neg c1]
  by_cases c2 : x = 2
  · rw [if_pos c2]; subst c2; exact run_to (by unfold act; rw [hp]; rfl)
  rw [if_neg c2]
  by_cases c3 : x = 3
  · rw [if_pos c3]; subst c3; exact run_to (by unfold act; rw [hp]; rfl)
  rw [if_neg c3]
  by_cases c4 : x = 4
  · rw [if_pos c4]; subst c4; exact run_to (by unfold act; rw [hp]; rfl)
  rw [if_neg c4]
  by_cases c5 : x = 5
  · rw [if_pos c5]; subst c5; exact run_to (by unfold act; rw [hp]; rfl)
  rw [if_neg c5]
  by_cases c6 : x = 6
  · rw [if_pos c6]; subst c6; exact run_to (by unfold act; rw [hp]; rfl)
  rw [if_neg c6]
  have ho : x.toInt < 0 ∨ (6 : Int) < x.toInt := by
    by_cases h : x.toInt < 0 ∨ (6 : Int) < x.toInt
    · exact h
    · exfalso
      have h2 : x.toInt = 0 ∨ x.toInt = 1 ∨ x.toInt = 2 ∨ x.toInt = 3 ∨ x.toInt = 4 ∨ x.toInt = 5 ∨ x.toInt = 6 := by omega
      rcases h2 with h2 | h2 | h2 | h2 | h2 | h2 | h2
      · exact c0 (Int32.toInt_inj.mp h2)
      · exact c1 (Int32.toInt_inj.mp h2)
      · exact c2 (Int32.toInt_inj.mp h2)
      · exact c3 (Int32.toInt_inj.mp h2)
      · exact c4 (Int32.toInt_inj.mp h2)
      · exact c5 (Int32.toInt_inj.mp h2)
      · exact c6 (Int32.toInt_inj.mp h2)
  exact run_to (by unfold act; rw [hp]; exact if_pos ho)
theorem run_sw_9 {d m pc tD t0 t1 t2 t3 t4 t5 t6 t7 t8 : Nat} {ls r : List Value} {σ : Mm} {x : Int32} {ln : Nat} (hp : pg m pc = (.tableswitch tD 0 8 #[(t0 : Int), (t1 : Int), (t2 : Int), (t3 : Int), (t4 : Int), (t5 : Int), (t6 : Int), (t7 : Int), (t8 : Int)], ln)) : run d m pc ls (.int x :: r) σ = if x = 0 then run d m t0 ls r σ else if x = 1 then run d m t1 ls r σ else if x = 2 then run d m t2 ls r σ else if x = 3 then run d m t3 ls r σ else if x = 4 then run d m t4 ls r σ else if x = 5 then run d m t5 ls r σ else if x = 6 then run d m t6 ls r σ else if x = 7 then run d m t7 ls r σ else if x = 8 then run d m t8 ls r σ else run d m tD ls r σ := by
  by_cases c0 : x = 0
  · rw [if_pos c0]; subst c0; exact run_to (by unfold act; rw [hp]; rfl)
  rw [if_neg c0]
  by_cases c1 : x = 1
  · rw [if_pos c1]; subst c1; exact run_to (by unfold act; rw [hp]; rfl)
  rw [if_neg c1]
  by_cases c2 : x = 2
  · rw [if_pos c2]; subst c2; exact run_to (by unfold act; rw [hp]; rfl)
  rw [if_neg c2]
  by_cases c3 : x = 3
  · rw [if_pos c3]; subst c3; exact run_to (by unfold act; rw [hp]; rfl)
  rw [if_neg c3]
  by_cases c4 : x = 4
  · rw [if_pos c4]; subst c4; exact run_to (by unfold act; rw [hp]; rfl)
  rw [if_neg c4]
  by_cases c5 : x = 5
  · rw [if_pos c5]; subst c5; exact run_to (by unfold act; rw [hp]; rfl)
  rw [if_neg c5]
  by_cases c6 : x = 6
  · rw [if_pos c6]; subst c6; exact run_to (by unfold act; rw [hp]; rfl)
  rw [if_neg c6]
  by_cases c7 : x = 7
  · rw [if_pos c7]; subst c7; exact run_to (by unfold act; rw [hp]; rfl)
  rw [if_neg c7]
  by_cases c8 : x = 8
  · rw [if_pos c8]; subst c8; exact run_to (by unfold act; rw [hp]; rfl)
  rw [if_neg c8]
  have ho : x.toInt < 0 ∨ (8 : Int) < x.toInt := by
    by_cases h : x.toInt < 0 ∨ (8 : Int) < x.toInt
    · exact h
    · exfalso
      have h2 : x.toInt = 0 ∨ x.toInt = 1 ∨ x.toInt = 2 ∨ x.toInt = 3 ∨ x.toInt = 4 ∨ x.toInt = 5 ∨ x.toInt = 6 ∨ x.toInt = 7 ∨ x.toInt = 8 := by omega
      rcases h2 with h2 | h2 | h2 | h2 | h2 | h2 | h2 | h2 | h2
      · exact c0 (Int32.toInt_inj.mp h2)
      · exact c1 (Int32.toInt_inj.mp h2)
      · exact c2 (Int32.toInt_inj.mp h2)
      · exact c3 (Int32.toInt_inj.mp h2)
      · exact c4 (Int32.toInt_inj.mp h2)
      · exact c5 (Int32.toInt_inj.mp h2)
      · exact c6 (Int32.toInt_inj.mp h2)
      · exact c7 (Int32.toInt_inj.mp h2)
      · exact c8 (Int32.toInt_inj.mp h2)
  exact run_to (by unfold act; rw [hp]; exact if_pos ho)
theorem run_sw_10 {d m pc tD t0 t1 t2 t3 t4 t5 t6 t7 t8 t9 : Nat} {ls r : List Value} {σ : Mm} {x : Int32} {ln : Nat} (hp : pg m pc = (.tableswitch tD 0 9 #[(t0 : Int), (t1 : Int), (t2 : Int), (t3 : Int), (t4 : Int), (t5 : Int), (t6 : Int), (t7 : Int), (t8 : Int), (t9 : Int)], ln)) : run d m pc ls (.int x :: r) σ = if x = 0 then run d m t0 ls r σ else if x = 1 then run d m t1 ls r σ else if x = 2 then run d m t2 ls r σ else if x = 3 then run d m t3 ls r σ else if x = 4 then run d m t4 ls r σ else if x = 5 then run d m t5 ls r σ else if x = 6 then run d m t6 ls r σ else if x = 7 then run d m t7 ls r σ else if x = 8 then run d m t8 ls r σ else if x = 9 then run d m t9 ls r σ else run d m tD ls r σ := by
  by_cases c0 : x = 0
  · rw [if_pos c0]; subst c0; exact run_to (by unfold act; rw [hp]; rfl)
  rw [if_neg c0]
  by_cases c1 : x = 1
  · rw [if_pos c1]; subst c1; exact run_to (by unfold act; rw [hp]; rfl)
  rw [if_neg c1]
  by_cases c2 : x = 2
  · rw [if_pos c2]; subst c2; exact run_to (by unfold act; rw [hp]; rfl)
  rw [if_neg c2]
  by_cases c3 : x = 3
  · rw [if_pos c3]; subst c3; exact run_to (by unfold act; rw [hp]; rfl)
  rw [if_neg c3]
  by_cases c4 : x = 4
  · rw [if_pos c4]; subst c4; exact run_to (by unfold act; rw [hp]; rfl)
  rw [if_neg c4]
  by_cases c5 : x = 5
  · rw [if_pos c5]; subst c5; exact run_to (by unfold act; rw [hp]; rfl)
  rw [if_neg c5]
  by_cases c6 : x = 6
  · rw [if_pos c6]; subst c6; exact run_to (by unfold act; rw [hp]; rfl)
  rw [if_neg c6]
  by_cases c7 : x = 7
  · rw [if_pos c7]; subst c7; exact run_to (by unfold act; rw [hp]; rfl)
  rw [if_neg c7]
  by_cases c8 : x = 8
  · rw [if_pos c8]; subst c8; exact run_to (by unfold act; rw [hp]; rfl)
  rw [if_neg c8]
  by_cases c9 : x = 9
  · rw [if_pos c9]; subst c9; exact run_to (by unfold act; rw [hp]; rfl)
  rw [if_neg c9]
  have ho : x.toInt < 0 ∨ (9 : Int) < x.toInt := by
    by_cases h : x.toInt < 0 ∨ (9 : Int) < x.toInt
    · exact h
    · exfalso
      have h2 : x.toInt = 0 ∨ x.toInt = 1 ∨ x.toInt = 2 ∨ x.toInt = 3 ∨ x.toInt = 4 ∨ x.toInt = 5 ∨ x.toInt = 6 ∨ x.toInt = 7 ∨ x.toInt = 8 ∨ x.toInt = 9 := by omega
      rcases h2 with h2 | h2 | h2 | h2 | h2 | h2 | h2 | h2 | h2 | h2
      · exact c0 (Int32.toInt_inj.mp h2)
      · exact c1 (Int32.toInt_inj.mp h2)
      · exact c2 (Int32.toInt_inj.mp h2)
      · exact c3 (Int32.toInt_inj.mp h2)
      · exact c4 (Int32.toInt_inj.mp h2)
      · exact c5 (Int32.toInt_inj.mp h2)
      · exact c6 (Int32.toInt_inj.mp h2)
      · exact c7 (Int32.toInt_inj.mp h2)
      · exact c8 (Int32.toInt_inj.mp h2)
      · exact c9 (Int32.toInt_inj.mp h2)
  exact run_to (by unfold act; rw [hp]; exact if_pos ho)
theorem run_sw_14 {d m pc tD t0 t1 t2 t3 t4 t5 t6 t7 t8 t9 t10 t11 t12 t13 : Nat} {ls r : List Value} {σ : Mm} {x : Int32} {ln : Nat} (hp : pg m pc = (.tableswitch tD 0 13 #[(t0 : Int), (t1 : Int), (t2 : Int), (t3 : Int), (t4 : Int), (t5 : Int), (t6 : Int), (t7 : Int), (t8 : Int), (t9 : Int), (t10 : Int), (t11 : Int), (t12 : Int), (t13 : Int)], ln)) : run d m pc ls (.int x :: r) σ = if x = 0 then run d m t0 ls r σ else if x = 1 then run d m t1 ls r σ else if x = 2 then run d m t2 ls r σ else if x = 3 then run d m t3 ls r σ else if x = 4 then run d m t4 ls r σ else if x = 5 then run d m t5 ls r σ else if x = 6 then run d m t6 ls r σ else if x = 7 then run d m t7 ls r σ else if x = 8 then run d m t8 ls r σ else if x = 9 then run d m t9 ls r σ else if x = 10 then run d m t10 ls r σ else if x = 11 then run d m t11 ls r σ else if x = 12 then run d m t12 ls r σ else if x = 13 then run d m t13 ls r σ else run d m tD ls r σ := by
  by_cases c0 : x = 0
  · rw [if_pos c0]; subst c0; exact run_to (by unfold act; rw [hp]; rfl)
  rw [if_neg c0]
  by_cases c1 : x = 1
  · rw [if_pos c1]; subst c1; exact run_to (by unfold act; rw [hp]; rfl)
  rw [if_neg c1]
  by_cases c2 : x = 2
  · rw [if_pos c2]; subst c2; exact run_to (by unfold act; rw [hp]; rfl)
  rw [if_neg c2]
  by_cases c3 : x = 3
  · rw [if_pos c3]; subst c3; exact run_to (by unfold act; rw [hp]; rfl)
  rw [if_neg c3]
  by_cases c4 : x = 4
  · rw [if_pos c4]; subst c4; exact run_to (by unfold act; rw [hp]; rfl)
  rw [if_neg c4]
  by_cases c5 : x = 5
  · rw [if_pos c5]; subst c5; exact run_to (by unfold act; rw [hp]; rfl)
  rw [if_neg c5]
  by_cases c6 : x = 6
  · rw [if_pos c6]; subst c6; exact run_to (by unfold act; rw [hp]; rfl)
  rw [if_neg c6]
  by_cases c7 : x = 7
  · rw [if_pos c7]; subst c7; exact run_to (by unfold act; rw [hp]; rfl)
  rw [if_neg c7]
  by_cases c8 : x = 8
  · rw [if_pos c8]; subst c8; exact run_to (by unfold act; rw [hp]; rfl)
  rw [if_neg c8]
  by_cases c9 : x = 9
  · rw [if_pos c9]; subst c9; exact run_to (by unfold act; rw [hp]; rfl)
  rw [if_neg c9]
  by_cases c10 : x = 10
  · rw [if_pos c10]; subst c10; exact run_to (by unfold act; rw [hp]; rfl)
  rw [if_neg c10]
  by_cases c11 : x = 11
  · rw [if_pos c11]; subst c11; exact run_to (by unfold act; rw [hp]; rfl)
  rw [if_neg c11]
  by_cases c12 : x = 12
  · rw [if_pos c12]; subst c12; exact run_to (by unfold act; rw [hp]; rfl)
  rw [if_neg c12]
  by_cases c13 : x = 13
  · rw [if_pos c13]; subst c13; exact run_to (by unfold act; rw [hp]; rfl)
  rw [if_neg c13]
  have ho : x.toInt < 0 ∨ (13 : Int) < x.toInt := by
    by_cases h : x.toInt < 0 ∨ (13 : Int) < x.toInt
    · exact h
    · exfalso
      have h2 : x.toInt = 0 ∨ x.toInt = 1 ∨ x.toInt = 2 ∨ x.toInt = 3 ∨ x.toInt = 4 ∨ x.toInt = 5 ∨ x.toInt = 6 ∨ x.toInt = 7 ∨ x.toInt = 8 ∨ x.toInt = 9 ∨ x.toInt = 10 ∨ x.toInt = 11 ∨ x.toInt = 12 ∨ x.toInt = 13 := by omega
      rcases h2 with h2 | h2 | h2 | h2 | h2 | h2 | h2 | h2 | h2 | h2 | h2 | h2 | h2 | h2
      · exact c0 (Int32.toInt_inj.mp h2)
      · exact c1 (Int32.toInt_inj.mp h2)
      · exact c2 (Int32.toInt_inj.mp h2)
      · exact c3 (Int32.toInt_inj.mp h2)
      · exact c4 (Int32.toInt_inj.mp h2)
      · exact c5 (Int32.toInt_inj.mp h2)
      · exact c6 (Int32.toInt_inj.mp h2)
      · exact c7 (Int32.toInt_inj.mp h2)
      · exact c8 (Int32.toInt_inj.mp h2)
      · exact c9 (Int32.toInt_inj.mp h2)
      · exact c10 (Int32.toInt_inj.mp h2)
      · exact c11 (Int32.toInt_inj.mp h2)
      · exact c12 (Int32.toInt_inj.mp h2)
      · exact c13 (Int32.toInt_inj.mp h2)
  exact run_to (by unfold act; rw [hp]; exact if_pos ho)
theorem run_callB {d m pc k pc' : Nat} {ls st as r : List Value} {σ : Mm} {G : Bool} (h : act m pc ls st σ = some (.inr (.inl (k, as, pc', r)))) (hk : cok k as r σ = G) (hG : G = true) : run (d + 1) m pc ls st σ = (runc d k as σ).bind (fun q => run (d + 1) m pc' ls (psh q.1 r) q.2) := by
  rw [run_act, h]
  dsimp only
  rw [hk, hG]
  dsimp only
  cases runc d k as σ <;> rfl
theorem psh_some (v : Value) (r : List Value) : psh (some v) r = v :: r := rfl
theorem psh_none (r : List Value) : psh none r = r := rfl
