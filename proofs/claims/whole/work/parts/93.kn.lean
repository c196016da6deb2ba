/-! ===== THE TABLES's WORDS GIVE THE CLASSES; THE PREMISES GIVE THE TEXTS ===== -/
section K93
variable {s : State} {args : Array Value}
set_option maxRecDepth 100000 in
theorem inst_ok : ∀ c, c < 13 → ∀ r, vwCl[c]? = some r → ∃ n, Cond.instantiable r.1 n ∈ lw_tbl := by
  intro c hc r hr
  have go : ∀ {w : Cond} (i : Nat), tables_1[i]? = some w → w ∈ lw_tbl := fun i h => List.mem_append_right _ (List.mem_of_getElem? h)
  rcases (show c = 0 ∨ c = 1 ∨ c = 2 ∨ c = 3 ∨ c = 4 ∨ c = 5 ∨ c = 6 ∨ c = 7 ∨ c = 8 ∨ c = 9 ∨ c = 10 ∨ c = 11 ∨ c = 12 by omega) with rfl | rfl | rfl | rfl | rfl | rfl | rfl | rfl | rfl | rfl | rfl | rfl | rfl
  · cases hr; exact ⟨3, go 39 rfl⟩
  · cases hr; exact ⟨8, go 855 rfl⟩
  · cases hr; exact ⟨17, go 432 rfl⟩
  · cases hr; exact ⟨5, go 65 rfl⟩
  · cases hr; exact ⟨7, go 392 rfl⟩
  · cases hr; exact ⟨4, go 358 rfl⟩
  · cases hr; exact ⟨4, go 119 rfl⟩
  · cases hr; exact ⟨9, go 939 rfl⟩
  · cases hr; exact ⟨8, go 139 rfl⟩
  · cases hr; exact ⟨6, go 232 rfl⟩
  · cases hr; exact ⟨6, go 89 rfl⟩
  · cases hr; exact ⟨14, go 31 rfl⟩
  · cases hr; exact ⟨77, go 1116 rfl⟩
theorem gw_sub {w : Cond} (h : w ∈ gw) : w ∈ lw_tbl := (List.mem_filter.mp h).1
theorem arr_prim {ty : FieldType} (hty : ∀ C, ty ≠ .object C) (h : (Cond.arrayClass ty).before args s = true) : ∃ cA : ClassId, ArrOfT s cA ty ∧ va_RA s cA ty := by
  obtain ⟨cA, k, comp, h1, h2, h3⟩ := Cond.arrayClass_spec (first := s) (o := none) (idx := []) h
  refine ⟨cA, fun n z => ⟨fun k h => (by cases h), k, h2, comp, h3⟩, ?_⟩
  cases ty with
  | object C => exact absurd rfl (hty C)
  | _ => exact h1
theorem arr_obj {C : String} (h : (Cond.arrayOver (.object C)).before args s = true) : ∃ cA : ClassId, ArrOfT s cA (.object C) ∧ va_RA s cA (.object C) := by
  obtain ⟨comp, c, k, h1, h2, h3, h4, h5⟩ := Cond.arrayOver_spec (first := s) (o := none) (idx := []) h
  exact ⟨c, fun n z => ⟨fun k h => (by cases h), k, h3, comp, h4⟩, k, comp, h3, h4, h1, h5⟩
set_option maxRecDepth 100000 in
theorem kn_all (hts : ∀ w ∈ lw_tbl, w.before args s = true) : ∃ (D : va_G) (cid : Nat → ClassId), va_K D vwCl (tyl cid) s := by
  have go : ∀ {w : Cond} (i : Nat), tables_1[i]? = some w → w.before args s = true := fun i h => hts _ (List.mem_append_right _ (List.mem_of_getElem? h))
  have h : ∀ c : Nat, ∃ q : ClassId × (Nat → Nat), ∀ r, vwCl[c]? = some r → u_Kn s r.1 r.2.1 r.2.2 q.1 q.2 := by
    intro c
    by_cases hc : c < 13
    · obtain ⟨r0, hr0⟩ : ∃ r0, vwCl[c]? = some r0 := ⟨_, List.getElem?_eq_getElem (show c < vwCl.length from hc)⟩
      obtain ⟨n, hn⟩ := inst_ok c hc r0 hr0
      obtain ⟨C, U, N⟩ := r0
      obtain ⟨ty, hcw, -⟩ := cls (c := c + 1) (by omega) (by omega) hr0
      obtain ⟨cC, iS, hk⟩ := u_known hts (fun w hw => gw_sub (hcw w hw)) (hts _ hn)
      exact ⟨(cC, iS), fun r hr => by rw [hr0] at hr; cases hr; exact hk⟩
    · exact ⟨(0, fun _ => 0), fun r hr => by rw [List.getElem?_eq_none (show vwCl.length ≤ c by show 13 ≤ c; omega)] at hr; cases hr⟩
  obtain ⟨f, hf⟩ := Classical.axiomOfChoice h
  obtain ⟨c0, a0, b0⟩ := arr_prim (ty := .int) (fun _ h => by cases h) (go 87 rfl)
  obtain ⟨c1, a1, b1⟩ := arr_prim (ty := .boolean) (fun _ h => by cases h) (go 170 rfl)
  obtain ⟨c2, a2, b2⟩ := arr_prim (ty := .byte) (fun _ h => by cases h) (go 117 rfl)
  obtain ⟨c3, a3, b3⟩ := arr_obj (C := "java/lang/Object") (go 320 rfl)
  obtain ⟨c4, a4, b4⟩ := arr_prim (ty := .long) (fun _ h => by cases h) (go 1653 rfl)
  refine ⟨(fun c => (f c).1, fun c => (f c).2), fun k => [c0, c1, c2, c3, c4].getD k 0, fun c q hq => hf c q hq, fun k q hk => ?_⟩
  rcases Nat.lt_or_ge k 5 with h5 | h5
  · rcases (show k = 0 ∨ k = 1 ∨ k = 2 ∨ k = 3 ∨ k = 4 by omega) with rfl | rfl | rfl | rfl | rfl
    · cases hk; exact ⟨a0, b0⟩
    · cases hk; exact ⟨a1, b1⟩
    · cases hk; exact ⟨a2, b2⟩
    · cases hk; exact ⟨a3, b3⟩
    · cases hk; exact ⟨a4, b4⟩
  · rw [List.getElem?_eq_none (by show 5 ≤ k; exact h5)] at hk
    cases hk
end K93
