/-! ===== ROWS OF THE LAW (not built yet) ===== -/
section LA0
variable {p : Program} {l : Launch} {e : Jvm.Env} {R : Room} {s : State} {m : MethodId} {args : Array Value} {below : List Frame} {meth : Method} {c : Code} {Q : State → Prop}
variable {base : Nat} {pc : Nat} {r : List Value} {ls : Array Slot} {H : Heap} {locs : List Loc} {cells slots : Nat} {b L i : Nat} {xs : Nat → Int32} {σ : Mm}
/-- script[i + j], j by iconst -/
theorem lw_ld {j : Nat} {q : Int} (hx : p.tables.exec = Jvm.exec) (hb : c.code = code) (h0 : ls[0]? = some (.val (.ref b))) (h4 : ls[4]? = some (.val (.int (nI i)))) (hXs : va_X b L xs s s.heap) (hbl : b < s.heap.size) (hbA : ¬ base ≤ b) (hS : va_S (fun q => base ≤ q) s.heap H locs) (hij : i + j < L) (hL : L ≤ 4608) (hq : Int32.ofInt q = nI j) (d0 : decode code pc = .ok (.aload_n 0, 1)) (d1 : decode code (pc + 1) = .ok (.iload 4, 2)) (d2 : decode code (pc + 3) = .ok (.iconst q, 1)) (d3 : decode code (pc + 4) = .ok (.iadd, 1)) (d4 : decode code (pc + 5) = .ok (.iaload, 1))
    (kk : W p l e R s m args below meth c H locs cells slots Q (F0 m (pc + 6) ls (.int (xs (i + j)) :: r))) : W p l e R s m args below meth c H locs cells slots Q (F0 m pc ls r) := by
  refine lv_aload_n hx hb d0 rfl h0 ?_
  refine lv_iload hx hb d1 h4 ?_
  refine lv_iconst hx hb d2 hq ?_
  refine lv_iadd hx hb d3 ?_
  rw [nI_add]
  refine va_sld hx hb hXs hbl hbA hS (vp_in_nI hij (by omega)) d4 ?_
  rw [nI_clamp (by omega)]
  exact kk
/-- script[i + j], j by bipush -/
theorem lw_ld2 {j : Nat} {q : Int} (hx : p.tables.exec = Jvm.exec) (hb : c.code = code) (h0 : ls[0]? = some (.val (.ref b))) (h4 : ls[4]? = some (.val (.int (nI i)))) (hXs : va_X b L xs s s.heap) (hbl : b < s.heap.size) (hbA : ¬ base ≤ b) (hS : va_S (fun q => base ≤ q) s.heap H locs) (hij : i + j < L) (hL : L ≤ 4608) (hq : (Int8.ofInt q).toInt32 = nI j) (d0 : decode code pc = .ok (.aload_n 0, 1)) (d1 : decode code (pc + 1) = .ok (.iload 4, 2)) (d2 : decode code (pc + 3) = .ok (.bipush q, 2)) (d3 : decode code (pc + 5) = .ok (.iadd, 1)) (d4 : decode code (pc + 6) = .ok (.iaload, 1))
    (kk : W p l e R s m args below meth c H locs cells slots Q (F0 m (pc + 7) ls (.int (xs (i + j)) :: r))) : W p l e R s m args below meth c H locs cells slots Q (F0 m pc ls r) := by
  refine lv_aload_n hx hb d0 rfl h0 ?_
  refine lv_iload hx hb d1 h4 ?_
  refine lv_bipush hx hb d2 hq ?_
  refine lv_iadd hx hb d3 ?_
  rw [nI_add]
  refine va_sld hx hb hXs hbl hbA hS (vp_in_nI hij (by omega)) d4 ?_
  rw [nI_clamp (by omega)]
  exact kk
def bz (x : Int32) : Int32 := if x = 0 then 0 else 1
theorem bz_01 (x : Int32) : bz x = 0 ∨ bz x = 1 := by
  unfold bz
  split
  · exact Or.inl rfl
  · exact Or.inr rfl
/-- x != 0 -/
theorem lw_bz {x : Int32} {t1 t2 : Nat} (hx : p.tables.exec = Jvm.exec) (hb : c.code = code) (d0 : decode code pc = .ok (.ifCond .eq 7, 3)) (d1 : decode code (pc + 3) = .ok (.iconst 1, 1)) (d2 : decode code (pc + 4) = .ok (.goto 4, 3)) (d3 : decode code t1 = .ok (.iconst 0, 1)) (e1 : t1 = pc + 7) (e2 : t2 = pc + 8) (kk : W p l e R s m args below meth c H locs cells slots Q (F0 m t2 ls (.int (bz x) :: r))) : W p l e R s m args below meth c H locs cells slots Q (F0 m pc ls (.int x :: r)) := by
  subst e1; subst e2
  refine lv_if_eq hx hb d0 (tgt := pc + 7) (by omega) (fun h => ?_) (fun h => ?_)
  · refine lv_iconst hx hb d3 (v := 0) rfl ?_
    rw [show bz x = 0 from if_pos h] at kk
    exact kk
  · refine lv_iconst hx hb d1 (v := 1) rfl ?_
    refine lv_goto hx hb d2 (tgt := pc + 8) (by omega) ?_
    rw [show bz x = 1 from if_neg h] at kk
    exact kk
/-- a call with ints may go -/
theorem cok_int {k ca kd : Nat} {ys : List Int32} (h1 : ys.length + 1 = mna k) (h2 : mrt k ≤ 5) (h3 : mrk k = kd) (h4 : mK σ ca = kd) (h0 : kd ≠ 0) (hr : r.length ≤ 4) (hT : Nat.beq k mTh = false) : cok k (.ref ca :: ys.map .int) r σ = true := by
  unfold cok
  have a1 : decide ((Value.ref ca :: ys.map Value.int).length = mna k) = true := decide_eq_true (by rw [List.length_cons, List.length_map, h1])
  have a2 : Nat.ble r.length 4 = true := Nat.ble_eq_true_of_le hr
  have a3 : Nat.ble (mrt k) 5 = true := Nat.ble_eq_true_of_le h2
  have a5 : (Value.ref ca :: ys.map Value.int).all (fun v => isI v || isR v) = true := by
    rw [List.all_eq_true]
    intro v hv
    rcases List.mem_cons.mp hv with rfl | hv
    · rfl
    · obtain ⟨y, -, rfl⟩ := List.mem_map.mp hv
      rfl
  rw [a1, a2, a3, hT, h3]
  cases kd with
  | zero => exact absurd rfl h0
  | succ q =>
    show (true && (true || _) && true && (isA (.ref ca) && decide (mK σ (vd (.ref ca)) = q + 1)) && List.all _ _) = true
    rw [a5, show decide (mK σ (vd (.ref ca)) = q + 1) = true from decide_eq_true h4]
    rfl
end LA0
