/-! ===== THE LAW MAKES BOTH, AND ITS ROW OF ONE LONG; WHAT A THROW RESTS ON, AT THE START ===== -/
section N8
variable {p : Program} {l : Launch} {e : Jvm.Env} {R : Room} {s : State} {m : MethodId} {args : Array Value} {below : List Frame} {meth : Method} {c : Code} {Q : State → Prop}
variable {D : va_G} {cid : Nat → ClassId} {base : Nat} {eP : Nat → Option Nat} {eI : Nat → Nat → Int32} {pc : Nat} {st : List Value} {σ : Mm} {ls : Array Slot} {H : Heap} {locs : List Loc} {cells slots : Nat} {cc : ByteArray} {nL : Nat} {ow : String}
theorem lw_new {kd idx N : Nat} {C : String} {U : u_T} (S5 : CallFix p m c cc nL s args gw ow) (hK : va_K D vwCl (tyl cid) s) (hW : Wh D cid base eP eI σ H) (hS : va_S (fun q => base ≤ q) s.heap H locs) (hc1 : 1 ≤ kd) (hc13 : kd ≤ 13) (hv : vwCl[kd - 1]? = some (C, U, N)) (hcl : Cond.classLink ow idx C ∈ gw) (hin : Cond.instantiable C N ∈ gw) (hini : Cond.initialized C ∈ gw) (hce : cells + 1 ≤ R.cells) (hsl : slots + N ≤ R.slots) (hd : decode cc pc = .ok (.new idx, 3))
    (kk : ∀ (H1 : Heap), Wh D cid base eP eI (nw σ kd 0 (kn kd)) H1 → va_S (fun q => base ≤ q) s.heap H1 locs → W p l e R s m args below meth c H1 locs (cells + 1) (slots + N) Q (F0 m (pc + 3) ls (.ref (mX σ) :: st))) : W p l e R s m args below meth c H locs cells slots Q (F0 m pc ls st) := by
  obtain ⟨hx, hb, hml, hown, hts⟩ := S5
  obtain ⟨ty, hcw, hcty, hcnm, hcf, hckn⟩ := cls hc1 hc13 hv
  have hKn := hK.1 _ _ hv
  have hz := hW.2.2.1
  refine W.newcK hx hb hown (hts _ hcl) (hts _ hin) (hts _ hini) rfl hd hce hsl hKn.2.1 hz fun H1 kC hkC e1 z1 o1 => ?_
  refine kk H1 (hW.new (by omega) (by omega) (fun _ => hc13) z1 o1 ?_) (hS.grew (by omega) (by rw [hz]; exact o1))
  rw [clf_obj (show mK (nw σ kd 0 (kn kd)) (mX σ) = kd from va_up_self _ _ _) (by omega)]
  refine ⟨_, hv, (u_born ty hts hcw hKn hkC e1 hcty).to fun j hj => ?_⟩
  have hj2 : j < N := hj
  show _ = ((List.range (kn kd)).map (fv (nw σ kd 0 (kn kd)) kd (mX σ))).getD j .null
  rw [List.getD_eq_getElem?_getD, fv_get _ (by rw [hckn]; exact hj2)]
  obtain ⟨-, -, -, -, f6⟩ := hcf j hj2
  rw [f6]
  show _ = fv (nw σ kd 0 (kn kd)) kd (mX σ) j
  unfold fv
  by_cases hkr : kr kd j = true
  · rw [if_pos hkr, if_pos hkr]
    simp [nw, mP, va_rf]
  · rw [if_neg hkr, if_neg hkr]
    simp [nw, mI]
set_option maxRecDepth 100000 in
theorem ga_long : Cond.arrayClass .long ∈ gw := ing 1653 rfl rfl
theorem lw_lnew (S5 : CallFix p m c cc nL s args gw ow) (hK : va_K D vwCl (tyl cid) s) (hW : Wh D cid base eP eI σ H) (hS : va_S (fun q => base ≤ q) s.heap H locs) (hce : cells + 1 ≤ R.cells) (hsl : slots + 1 ≤ R.slots) (hd : decode cc pc = .ok (.newarray .long, 2))
    (kk : ∀ (H1 : Heap), Wh D cid base eP eI (nw σ 1004 1 1) H1 → va_S (fun q => base ≤ q) s.heap H1 locs → W p l e R s m args below meth c H1 locs (cells + 1) (slots + 1) Q (F0 m (pc + 2) ls (.ref (mX σ) :: st))) : W p l e R s m args below meth c H locs cells slots Q (F0 m pc ls (.int 1 :: st)) := by
  obtain ⟨hx, hb, hml, hown, hts⟩ := S5
  have hz := hW.2.2.1
  refine va_newaK (N := 1) hx hb (atype := .long) (hts _ ga_long) rfl hd rfl (by decide) rfl (by decide) hce hsl hz fun H1 cA e1 z1 o1 hAr hNm => ?_
  have hcA : cA = cid 4 := Option.some.inj (hNm.symm.trans (hK.2 4 _ rfl).2)
  subst hcA
  refine kk H1 (hW.new (by decide) (by decide) (fun h => absurd h (by decide)) z1 o1 ?_) (hS.grew (by omega) (by rw [hz]; exact o1))
  have hkd : mK (nw σ 1004 1 1) (mX σ) = 1004 := va_up_self _ _ _
  show va_at D vwCl (mX σ, clf cid (nw σ 1004 1 1) (mX σ)) H1
  rw [clf_arr hkd (by decide), acl_l (by decide)]
  show H1[mX σ]? = some (vp_cell _ _)
  have hN : mN (nw σ 1004 1 1) (mX σ) = 1 := va_up_self _ _ _
  rw [hN, e1, vp_cell_l]
  have hf : (fun j : Nat => Value.long ((mI (nw σ 1004 1 1) 1004 (mX σ) j).toInt64)) = fun _ => defaultValue (newarray.typeOf .long) := by
    funext j
    simp [nw, mI, newarray.typeOf, defaultValue]
  rw [hf]
end N8
section N9
variable {s : State} {args : Array Value}
set_option maxRecDepth 100000 in
theorem th_all (hgv : (Jvm.Cond.and given_1 narrow_1).before args s = true) (hts0 : ∀ w ∈ lw_tbl, w.before args s = true) : Th s.heap.size s := by
  rw [Cond.before_and, Bool.and_eq_true] at hgv
  have h := hgv.2
  have hts : ∀ w ∈ tables_1, w.before args s = true := fun w h => hts0 w (List.mem_append_right _ h)
  have go : ∀ {w : Cond} (i : Nat), tables_1[i]? = some w → w.before args s = true := fun i h => hts _ (List.mem_of_getElem? h)
  have hA : ∀ a : Nat, a < s.heap.size → ¬ (fun q => s.heap.size ≤ q) a := fun a h => Nat.not_le.mpr h
  have str : ∀ {k : Nat}, (Cond.exactly (.string "HullLine" k) "java/lang/String").before args s = true → ∀ {tx : String}, (Cond.stringRef "HullLine" k tx).before args s = true → ∃ a, vk_R "HullLine" k tx a s := by
    intro k h1 tx h2
    obtain ⟨a, c, cA, kA, q1, -⟩ := Cond.exactly_spec (args := args) (first := s) (o := none) (s := s) (idx := []) (t := .string "HullLine" k) (cls := "java/lang/String") h1
    exact ⟨a, vk_R.of h2 q1⟩
  refine ⟨vx_Zqof (go 1063 rfl) (go 25 rfl) (pk_ok h [false, false, false, false, true, false, false, false] rfl) hA, vx_Zqof (go 1065 rfl) (go 25 rfl) (pk_ok h [false, false, false, false, true, false, false, true, false] rfl) hA, va_Nw.of rfl (go 1038 rfl), str (pk_ok h [true, false, false, true, true, false, true, false] rfl) (go 1075 rfl), str (pk_ok h [true, false, true, false, true, true, false, true, true] rfl) (go 1105 rfl), str (pk_ok h [true, true, false, false, true, false, true, true, true] rfl) (go 1113 rfl), str (pk_ok h [true, true, true, false, false, false, false, true, false] rfl) (go 1114 rfl), fun x hx => ?_⟩
  simp only [nsD, List.mem_cons, List.not_mem_nil, or_false] at hx
  rcases hx with rfl | rfl | rfl
  · exact va_Nw.of rfl (go 1040 rfl)
  · exact va_Nw.of rfl (go 1042 rfl)
  · exact va_Nw.of rfl (go 1044 rfl)
end N9
