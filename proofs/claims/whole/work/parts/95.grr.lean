/-! ===== ArrayList.grow (printed by wip/gen/grw.py) ===== -/
theorem dJx4a65c_grow_d5877_0 : decode cJx4a65c_grow_d5877 0 = .ok (.aload_n 0, 1) := by decide +kernel
theorem dJx4a65c_grow_d5877_1 : decode cJx4a65c_grow_d5877 1 = .ok (.aload_n 0, 1) := by decide +kernel
theorem dJx4a65c_grow_d5877_2 : decode cJx4a65c_grow_d5877 2 = .ok (.getfield 48, 3) := by decide +kernel
theorem dJx4a65c_grow_d5877_5 : decode cJx4a65c_grow_d5877 5 = .ok (.iconst 1, 1) := by decide +kernel
theorem dJx4a65c_grow_d5877_6 : decode cJx4a65c_grow_d5877 6 = .ok (.iadd, 1) := by decide +kernel
theorem dJx4a65c_grow_d5877_7 : decode cJx4a65c_grow_d5877 7 = .ok (.invokevirtual 69, 3) := by decide +kernel
theorem dJx4a65c_grow_d5877_10 : decode cJx4a65c_grow_d5877 10 = .ok (.areturn, 1) := by decide +kernel
theorem dJx4a65c_grow_92f84_0 : decode cJx4a65c_grow_92f84 0 = .ok (.aload_n 0, 1) := by decide +kernel
theorem dJx4a65c_grow_92f84_1 : decode cJx4a65c_grow_92f84 1 = .ok (.getfield 9, 3) := by decide +kernel
theorem dJx4a65c_grow_92f84_4 : decode cJx4a65c_grow_92f84 4 = .ok (.arraylength, 1) := by decide +kernel
theorem dJx4a65c_grow_92f84_5 : decode cJx4a65c_grow_92f84 5 = .ok (.istore_n 2, 1) := by decide +kernel
theorem dJx4a65c_grow_92f84_6 : decode cJx4a65c_grow_92f84 6 = .ok (.iload_n 2, 1) := by decide +kernel
theorem dJx4a65c_grow_92f84_7 : decode cJx4a65c_grow_92f84 7 = .ok (.ifCond .gt 13, 3) := by decide +kernel
theorem dJx4a65c_grow_92f84_10 : decode cJx4a65c_grow_92f84 10 = .ok (.aload_n 0, 1) := by decide +kernel
theorem dJx4a65c_grow_92f84_11 : decode cJx4a65c_grow_92f84 11 = .ok (.getfield 9, 3) := by decide +kernel
theorem dJx4a65c_grow_92f84_14 : decode cJx4a65c_grow_92f84 14 = .ok (.getstatic 39, 3) := by decide +kernel
theorem dJx4a65c_grow_92f84_17 : decode cJx4a65c_grow_92f84 17 = .ok (.if_acmp .eq 28, 3) := by decide +kernel
theorem dJx4a65c_grow_92f84_20 : decode cJx4a65c_grow_92f84 20 = .ok (.iload_n 2, 1) := by decide +kernel
theorem dJx4a65c_grow_92f84_21 : decode cJx4a65c_grow_92f84 21 = .ok (.iload_n 1, 1) := by decide +kernel
theorem dJx4a65c_grow_92f84_22 : decode cJx4a65c_grow_92f84 22 = .ok (.iload_n 2, 1) := by decide +kernel
theorem dJx4a65c_grow_92f84_23 : decode cJx4a65c_grow_92f84 23 = .ok (.isub, 1) := by decide +kernel
theorem dJx4a65c_grow_92f84_24 : decode cJx4a65c_grow_92f84 24 = .ok (.iload_n 2, 1) := by decide +kernel
theorem dJx4a65c_grow_92f84_25 : decode cJx4a65c_grow_92f84 25 = .ok (.iconst 1, 1) := by decide +kernel
theorem dJx4a65c_grow_92f84_26 : decode cJx4a65c_grow_92f84 26 = .ok (.ishr, 1) := by decide +kernel
theorem dJx4a65c_grow_92f84_27 : decode cJx4a65c_grow_92f84 27 = .ok (.invokestatic 73, 3) := by decide +kernel
theorem dJx4a65c_grow_92f84_30 : decode cJx4a65c_grow_92f84 30 = .ok (.istore_n 3, 1) := by decide +kernel
theorem dJx4a65c_grow_92f84_31 : decode cJx4a65c_grow_92f84 31 = .ok (.aload_n 0, 1) := by decide +kernel
theorem dJx4a65c_grow_92f84_32 : decode cJx4a65c_grow_92f84 32 = .ok (.aload_n 0, 1) := by decide +kernel
theorem dJx4a65c_grow_92f84_33 : decode cJx4a65c_grow_92f84 33 = .ok (.getfield 9, 3) := by decide +kernel
theorem dJx4a65c_grow_92f84_36 : decode cJx4a65c_grow_92f84 36 = .ok (.iload_n 3, 1) := by decide +kernel
theorem dJx4a65c_grow_92f84_37 : decode cJx4a65c_grow_92f84 37 = .ok (.invokestatic 66, 3) := by decide +kernel
theorem dJx4a65c_grow_92f84_40 : decode cJx4a65c_grow_92f84 40 = .ok (.dup_x1, 1) := by decide +kernel
theorem dJx4a65c_grow_92f84_41 : decode cJx4a65c_grow_92f84 41 = .ok (.putfield 9, 3) := by decide +kernel
theorem dJx4a65c_grow_92f84_44 : decode cJx4a65c_grow_92f84 44 = .ok (.areturn, 1) := by decide +kernel
theorem dJx4a65c_grow_92f84_45 : decode cJx4a65c_grow_92f84 45 = .ok (.aload_n 0, 1) := by decide +kernel
theorem dJx4a65c_grow_92f84_46 : decode cJx4a65c_grow_92f84 46 = .ok (.bipush 10, 2) := by decide +kernel
theorem dJx4a65c_grow_92f84_48 : decode cJx4a65c_grow_92f84 48 = .ok (.iload_n 1, 1) := by decide +kernel
theorem dJx4a65c_grow_92f84_49 : decode cJx4a65c_grow_92f84 49 = .ok (.invokestatic 79, 3) := by decide +kernel
theorem dJx4a65c_grow_92f84_52 : decode cJx4a65c_grow_92f84 52 = .ok (.anewarray 7, 3) := by decide +kernel
theorem dJx4a65c_grow_92f84_55 : decode cJx4a65c_grow_92f84 55 = .ok (.dup_x1, 1) := by decide +kernel
theorem dJx4a65c_grow_92f84_56 : decode cJx4a65c_grow_92f84 56 = .ok (.putfield 9, 3) := by decide +kernel
theorem dJx4a65c_grow_92f84_59 : decode cJx4a65c_grow_92f84 59 = .ok (.areturn, 1) := by decide +kernel
theorem dJ8_newLength_cabcc_0 : decode cJ8_newLength_cabcc 0 = .ok (.iload_n 0, 1) := by decide +kernel
theorem dJ8_newLength_cabcc_1 : decode cJ8_newLength_cabcc 1 = .ok (.iload_n 1, 1) := by decide +kernel
theorem dJ8_newLength_cabcc_2 : decode cJ8_newLength_cabcc 2 = .ok (.iload_n 2, 1) := by decide +kernel
theorem dJ8_newLength_cabcc_3 : decode cJ8_newLength_cabcc 3 = .ok (.invokestatic 194, 3) := by decide +kernel
theorem dJ8_newLength_cabcc_6 : decode cJ8_newLength_cabcc 6 = .ok (.iadd, 1) := by decide +kernel
theorem dJ8_newLength_cabcc_7 : decode cJ8_newLength_cabcc 7 = .ok (.istore_n 3, 1) := by decide +kernel
theorem dJ8_newLength_cabcc_8 : decode cJ8_newLength_cabcc 8 = .ok (.iconst 0, 1) := by decide +kernel
theorem dJ8_newLength_cabcc_9 : decode cJ8_newLength_cabcc 9 = .ok (.iload_n 3, 1) := by decide +kernel
theorem dJ8_newLength_cabcc_10 : decode cJ8_newLength_cabcc 10 = .ok (.if_icmp .ge 11, 3) := by decide +kernel
theorem dJ8_newLength_cabcc_13 : decode cJ8_newLength_cabcc 13 = .ok (.iload_n 3, 1) := by decide +kernel
theorem dJ8_newLength_cabcc_14 : decode cJ8_newLength_cabcc 14 = .ok (.ldc 200, 2) := by decide +kernel
theorem dJ8_newLength_cabcc_16 : decode cJ8_newLength_cabcc 16 = .ok (.if_icmp .gt 5, 3) := by decide +kernel
theorem dJ8_newLength_cabcc_19 : decode cJ8_newLength_cabcc 19 = .ok (.iload_n 3, 1) := by decide +kernel
theorem dJ8_newLength_cabcc_20 : decode cJ8_newLength_cabcc 20 = .ok (.ireturn, 1) := by decide +kernel
theorem dJ8_newLength_cabcc_21 : decode cJ8_newLength_cabcc 21 = .ok (.iload_n 0, 1) := by decide +kernel
theorem dJ8_newLength_cabcc_22 : decode cJ8_newLength_cabcc 22 = .ok (.iload_n 1, 1) := by decide +kernel
theorem dJ8_newLength_cabcc_23 : decode cJ8_newLength_cabcc 23 = .ok (.invokestatic 201, 3) := by decide +kernel
theorem dJ8_newLength_cabcc_26 : decode cJ8_newLength_cabcc 26 = .ok (.ireturn, 1) := by decide +kernel
theorem dJ7_copyOf_1904c_0 : decode cJ7_copyOf_1904c 0 = .ok (.aload_n 0, 1) := by decide +kernel
theorem dJ7_copyOf_1904c_1 : decode cJ7_copyOf_1904c 1 = .ok (.iload_n 1, 1) := by decide +kernel
theorem dJ7_copyOf_1904c_2 : decode cJ7_copyOf_1904c 2 = .ok (.aload_n 0, 1) := by decide +kernel
theorem dJ7_copyOf_1904c_3 : decode cJ7_copyOf_1904c 3 = .ok (.invokevirtual 86, 3) := by decide +kernel
theorem dJ7_copyOf_1904c_6 : decode cJ7_copyOf_1904c 6 = .ok (.invokestatic 300, 3) := by decide +kernel
theorem dJ7_copyOf_1904c_9 : decode cJ7_copyOf_1904c 9 = .ok (.areturn, 1) := by decide +kernel
theorem dJ7_copyOf_6403c_0 : decode cJ7_copyOf_6403c 0 = .ok (.aload_n 2, 1) := by decide +kernel
theorem dJ7_copyOf_6403c_1 : decode cJ7_copyOf_6403c 1 = .ok (.ldc 110, 2) := by decide +kernel
theorem dJ7_copyOf_6403c_3 : decode cJ7_copyOf_6403c 3 = .ok (.if_acmp .ne 10, 3) := by decide +kernel
theorem dJ7_copyOf_6403c_6 : decode cJ7_copyOf_6403c 6 = .ok (.iload_n 1, 1) := by decide +kernel
theorem dJ7_copyOf_6403c_7 : decode cJ7_copyOf_6403c 7 = .ok (.anewarray 2, 3) := by decide +kernel
theorem dJ7_copyOf_6403c_10 : decode cJ7_copyOf_6403c 10 = .ok (.goto 14, 3) := by decide +kernel
theorem dJ7_copyOf_6403c_13 : decode cJ7_copyOf_6403c 13 = .ok (.aload_n 2, 1) := by decide +kernel
theorem dJ7_copyOf_6403c_14 : decode cJ7_copyOf_6403c 14 = .ok (.invokevirtual 90, 3) := by decide +kernel
theorem dJ7_copyOf_6403c_17 : decode cJ7_copyOf_6403c 17 = .ok (.iload_n 1, 1) := by decide +kernel
theorem dJ7_copyOf_6403c_18 : decode cJ7_copyOf_6403c 18 = .ok (.invokestatic 95, 3) := by decide +kernel
theorem dJ7_copyOf_6403c_21 : decode cJ7_copyOf_6403c 21 = .ok (.checkcast 110, 3) := by decide +kernel
theorem dJ7_copyOf_6403c_24 : decode cJ7_copyOf_6403c 24 = .ok (.astore_n 3, 1) := by decide +kernel
theorem dJ7_copyOf_6403c_25 : decode cJ7_copyOf_6403c 25 = .ok (.aload_n 0, 1) := by decide +kernel
theorem dJ7_copyOf_6403c_26 : decode cJ7_copyOf_6403c 26 = .ok (.iconst 0, 1) := by decide +kernel
theorem dJ7_copyOf_6403c_27 : decode cJ7_copyOf_6403c 27 = .ok (.aload_n 3, 1) := by decide +kernel
theorem dJ7_copyOf_6403c_28 : decode cJ7_copyOf_6403c 28 = .ok (.iconst 0, 1) := by decide +kernel
theorem dJ7_copyOf_6403c_29 : decode cJ7_copyOf_6403c 29 = .ok (.aload_n 0, 1) := by decide +kernel
theorem dJ7_copyOf_6403c_30 : decode cJ7_copyOf_6403c 30 = .ok (.arraylength, 1) := by decide +kernel
theorem dJ7_copyOf_6403c_31 : decode cJ7_copyOf_6403c 31 = .ok (.iload_n 1, 1) := by decide +kernel
theorem dJ7_copyOf_6403c_32 : decode cJ7_copyOf_6403c 32 = .ok (.invokestatic 304, 3) := by decide +kernel
theorem dJ7_copyOf_6403c_35 : decode cJ7_copyOf_6403c 35 = .ok (.invokestatic 150, 3) := by decide +kernel
theorem dJ7_copyOf_6403c_38 : decode cJ7_copyOf_6403c 38 = .ok (.aload_n 3, 1) := by decide +kernel
theorem dJ7_copyOf_6403c_39 : decode cJ7_copyOf_6403c 39 = .ok (.areturn, 1) := by decide +kernel
section J95
variable {p : Program} {l : Launch} {e : Jvm.Env} {R : Room} {s : State} {mi : MethodId} {args : Array Value} {below : List Frame} {meth : Method} {c : Code} {Q : State → Prop}
variable {base z mi0 : Nat} {adK adV : Nat → Nat} {D : va_G} {cid : Nat → ClassId} {eP : Nat → Option Nat} {eI : Nat → Nat → Int32} {σ : Mm} {cc : ByteArray} {pc : Nat} {r : List Value} {ls : Array Slot} {H : Heap} {locs : List Loc} {cells slots s0 : Nat}
theorem j_get {ow i kd f a : Nat} (hx : p.tables.exec = Jvm.exec) (hb : c.code = cc) (hts : ∀ w ∈ gw, w.before args s = true) (hown : s.vm.findClass (own ow) = some mi.cls) (hK : va_K D vwCl (tyl cid) s) (hW : Wh D cid base eP eI σ H) (he : (ow, i, kd, f) ∈ fl) (hk : mK σ a = kd) (hd : decode cc pc = .ok (.getfield i, 3)) (kk : W p l e R s mi args below meth c H locs cells slots Q (F0 mi (pc + 3) ls (fv σ kd a f :: r))) : W p l e R s mi args below meth c H locs cells slots Q (F0 mi pc ls (.ref a :: r)) := by
  obtain ⟨C, U, N, ref, hv, hkN, ⟨hc1, hc13⟩, hlink, hsame⟩ := fl_ok _ he
  dsimp only at hv hkN hc1 hc13 hlink hsame
  obtain ⟨ty, hcw, hcty, hcnm, hcf, hckn⟩ := cls hc1 hc13 hv
  obtain ⟨q0, hq0⟩ := hW.at (a := a) (by rw [hk]; exact Nat.ne_of_gt hc1)
  rw [clf_obj hk (Nat.lt_of_le_of_lt hc13 (by decide))] at hq0
  refine va_get hx hb hts hcw hown hK hW.1 q0 hq0 hv f hkN (hts _ hlink) ?_ (fv_get σ (by rw [hckn]; exact hkN)) hd kk
  rcases hsame with rfl | hs
  · exact fun _ h => h
  · exact u_same (hts _ hs)
theorem j_putE {a q : Nat} (hx : p.tables.exec = Jvm.exec) (hb : c.code = cc) (hts : ∀ w ∈ gw, w.before args s = true) (hown : s.vm.findClass (own 15) = some mi.cls) (hK : va_K D vwCl (tyl cid) s) (hW : Wh D cid base eP eI σ H) (hS : va_S (fun q => base ≤ q) s.heap H locs) (hX : Hx s s0 cells slots σ) (hk : mK σ a = 1) (hd : decode cc pc = .ok (.putfield 9, 3)) (kk : ∀ (H1 : Heap) (locs1 : List Loc), Wh D cid base eP eI (sP σ 1 a 1 (some q)) H1 → va_S (fun q => base ≤ q) s.heap H1 locs1 → W p l e R s mi args below meth c H1 locs1 cells slots Q (F0 mi (pc + 3) ls r)) : W p l e R s mi args below meth c H locs cells slots Q (F0 mi pc ls (.ref q :: .ref a :: r)) := by
  obtain ⟨C, U, N, ref, hv, hkN, ⟨hc1, hc13⟩, hlink, hsame⟩ := fl_ok (15, 9, 1, 1) (by decide +kernel)
  dsimp only at hv hkN hc1 hc13 hlink hsame
  obtain ⟨ty, hcw, hcty, hcnm, hcf, hckn⟩ := cls hc1 hc13 hv
  obtain ⟨⟨f1, f2⟩, f3, f4, f5, -⟩ := hcf _ hkN
  have hmem : a ∈ mL σ := hW.2.2.2.2.1 a (by rw [hk]; decide)
  obtain ⟨q0, hq0⟩ := hW.at (a := a) (by rw [hk]; decide)
  have hq1 := hq0
  rw [clf_obj hk (by decide)] at hq0
  have hsm : ∀ x', s.fieldFound? (U 1).1 (U 1).2.1 (U 1).2.2.1 = some x' → s.fieldFound? ref (U 1).2.1 (U 1).2.2.1 = some x' := by
    rcases hsame with rfl | hs
    · exact fun _ h => h
    · exact u_same (hts _ hs)
  have hkr : kr 1 1 = true := by decide +kernel
  have ht := f5 hkr
  have hnf : narrow (ty 1) (.ref q) = .ref q ∧ fits (ty 1) (.ref q) = true := by
    cases hty : ty 1 <;> rw [hty] at ht <;> first | (simp [refTy] at ht; done) | exact ⟨rfl, rfl⟩
  refine put_any hx hb hts hcw hcty hcnm hown hK hW.1 hW.2.1 hS hq0 hv hkN (hts _ hlink) hsm (Or.inl (by rw [← f2]; decide +kernel)) (hcty _ hkN) hnf.1 hnf.2 (by simp [hckn, hkN]) hd ?_
  intro H1 locs1 hP1 hD1 hS1
  have es := va_pl_set (X := []) (e := .inr (1 - 1, ((List.range (kn 1)).map (fv σ 1 a)).set 1 (.ref q))) hW.2.1 hmem hq1
  simp only [List.nil_append] at es
  rw [es] at hP1 hD1
  have eP' : ∀ c' a' k', ¬ (c' = 1 ∧ a' = a ∧ k' = 1) → mP (sP σ 1 a 1 (some q)) c' a' k' = mP σ c' a' k' := fun c' a' k' h => if_neg h
  rw [va_pl_congr (clf_put (cid := cid) (σ := σ) (σ' := sP σ 1 a 1 (some q)) rfl rfl hk (by decide) (fun _ _ _ _ => rfl) eP' (by simp [fv, hkr, sP, mP, up3, va_rf]))] at hP1 hD1
  refine W.sized fun z0 z1 => ?_
  exact kk H1 locs1 (hW.wrote hX z0 z1 hP1 hD1 rfl (fun k' => eP' _ _ _ (fun q => by have := q.1; omega)) (fun a' k' => rfl)) hS1
theorem j_anew {ow : String} {i N : Nat} {n : Int32} (hx : p.tables.exec = Jvm.exec) (hb : c.code = cc) (hown : s.vm.findClass ow = some mi.cls) (hcl : (Cond.classLink ow i "java/lang/Object").before args s = true) (hAO : va_AO "java/lang/Object" s) (hK : va_K D vwCl (tyl cid) s) (hW : Wh D cid base eP eI σ H) (hS : va_S (fun q => base ≤ q) s.heap H locs) (hn : ¬ n < 0) (hN : n.toNatClampNeg = N) (hle : N ≤ 2000) (hc : cells + 1 ≤ R.cells) (hs : slots + N ≤ R.slots) (hd : decode cc pc = .ok (.anewarray i, 3)) (kk : ∀ (H1 : Heap), Wh D cid base eP eI (nw σ kO N N) H1 → va_S (fun q => base ≤ q) s.heap H1 locs → W p l e R s mi args below meth c H1 locs (cells + 1) (slots + N) Q (F0 mi (pc + 3) ls (.ref (mX σ) :: r))) : W p l e R s mi args below meth c H locs cells slots Q (F0 mi pc ls (.int n :: r)) := by
  subst hN
  have hz := hW.2.2.1
  refine W.anew hx hb hown hcl (va_AO.use hAO) rfl hd rfl hn (by omega) hc hs fun cA kA comp f1 f2 f3 f4 => ?_
  generalize hH1 : H.push ({ cls := cA, slots := Array.replicate n.toNatClampNeg .null, vm := .none } : Cell) = H1
  have z1 : H1.size = H.size + 1 := by rw [← hH1, Array.size_push]
  have e1 : H1[H.size]? = some (arrV cA n.toNatClampNeg (fun _ => .null)) := by rw [← hH1, Array.getElem?_push_size, ← arrV_new]
  have o1 : ∀ q : Nat, q < H.size → H1[q]? = H[q]? := fun q hq => by rw [← hH1, Array.getElem?_push, if_neg (Nat.ne_of_lt hq)]
  have hcA : cA = cid 3 := by
    obtain ⟨-, -, -, -, -, h4⟩ := (hK.2 3 _ rfl).2
    exact Option.some.inj (f1.symm.trans h4)
  subst hcA
  have eq : H.size = mX σ := hz
  rw [eq] at e1 z1 o1 ⊢
  refine kk H1 (hW.new (by decide) (by decide) (fun h => absurd h (by decide)) z1 o1 ?_) (hS.grew (by omega) (by rw [hz]; exact o1))
  have hkd : mK (nw σ kO n.toNatClampNeg n.toNatClampNeg) (mX σ) = kO := va_up_self _ _ _
  show va_at D vwCl (mX σ, clf cid (nw σ kO n.toNatClampNeg n.toNatClampNeg) (mX σ)) H1
  rw [clf_arr hkd (by decide), acl_o (by decide)]
  show H1[mX σ]? = some (vp_cell _ _)
  rw [e1, vp_cell_q]
  have hN : mN (nw σ kO n.toNatClampNeg n.toNatClampNeg) (mX σ) = n.toNatClampNeg := va_up_self _ _ _
  rw [hN]
  congr 2
  funext j
  simp [nw, mP, va_rf]
/-- the first n places of row e copied into row d -/
def cpO (σ : Mm) (e d n : Nat) : Mm := (σ.1, (fun c q j => if c = kO ∧ q = d ∧ j < n then mP σ kO e j else mP σ c q j), σ.2.2)
theorem j_copy {ow : String} {i e' d n : Nat} (hx : p.tables.exec = Jvm.exec) (hb : c.code = cc) (hml : c.maxLocals = ls.size) (hown : s.vm.findClass ow = some mi.cls) (hts : ∀ w ∈ gw, w.before args s = true) (hl : Cond.methodLink ow i arraycopyName ∈ gw) (hFc : Fc s) (hK : va_K D vwCl (tyl cid) s) (hW : Wh D cid base eP eI σ H) (hS : va_S (fun q => base ≤ q) s.heap H locs) (hX : Hx s s0 cells slots σ) (k1 : mK σ e' = kO) (k2 : mK σ d = kO) (n1 : n ≤ mN σ e') (n2 : n ≤ mN σ d) (h31 : n < 2 ^ 31) (hel : ∀ j, j < n → ∀ y, mP σ kO e' j = some y → 0 < mK σ y ∧ mK σ y < 19) (hfr : 1 ≤ R.frames) (hlo : (r.map fun v => v.category).sum + 18 ≤ R.locals) (hd : decode cc pc = .ok (.invokestatic i, 3)) (kk : ∀ (H1 : Heap) (locs1 : List Loc), Wh D cid base eP eI (cpO σ e' d n) H1 → va_S (fun q => base ≤ q) s.heap H1 locs1 → W p l e R s mi args below meth c H1 locs1 cells slots Q (F0 mi (pc + 3) ls r)) : W p l e R s mi args below meth c H locs cells slots Q (F0 mi pc ls (.int (nI n) :: .int 0 :: .ref d :: .int 0 :: .ref e' :: r)) := by
  have c1 : 20 ≤ mK σ e' := by rw [k1]; decide
  have c2 : 20 ≤ mK σ d := by rw [k2]; decide
  obtain ⟨-, q0, -, hq⟩ := hW.arr c1
  obtain ⟨-, q1, hq1, hqb⟩ := hW.arr c2
  rw [acl_o (by rw [k1]; decide)] at hq
  rw [acl_o (by rw [k2]; decide)] at hqb
  have m1 : mK σ e' % 5 = 3 := by rw [k1]; decide
  have m2 : mK σ d % 5 = 3 := by rw [k2]; decide
  rw [m1] at hq
  rw [m2] at hqb
  have cn : (nI n).toNatClampNeg = n := nI_clamp h31
  have c0 : (0 : Int32).toNatClampNeg = 0 := rfl
  refine va_copyM hx hb hml hown (hts _ hl) (hts _ w_cpn) (hts _ w_cps) (hts _ (ing 14 rfl rfl)) hK hW.1 hW.2.1 hS q0 q1 3 3 (E0 := "java/lang/Object") (E1 := "java/lang/Object") hq hqb rfl rfl (by decide) (by decide) (nI_pos h31) (by rw [c0, cn]; omega) (by rw [c0, cn]; omega) ?_ hfr ?_ hd ?_
  · intro j hj y hy
    rw [cn] at hj
    rw [c0, Nat.zero_add, k1] at hy
    obtain ⟨y1, y2⟩ := hel j hj y hy
    have y13 := hW.2.2.2.2.2.2.2 y (by omega)
    obtain ⟨q2, hq2⟩ := hW.at (a := y) (by omega)
    rw [clf_obj rfl (by omega)] at hq2
    obtain ⟨r0, hr0⟩ : ∃ r0, vwCl[mK σ y - 1]? = some r0 := ⟨_, List.getElem?_eq_getElem (by show _ < 13; omega)⟩
    exact va_rAny hK hW.1 hq2 hr0 (fun comp c0 h1 h2 => vb_asgC (hFc.1 _ _ hr0) comp c0 h1 h2)
  · have : nativeFrameWords "java/lang/System" "arraycopy" 5 = 7 := by decide +kernel
    omega
  · intro H1 locs1 hP1 hD1 hS1
    refine W.sized fun z0 z1 => ?_
    refine kk H1 locs1 (arr_wrote (σ' := cpO σ e' d n) hW hX c2 hq1 (x := _) (by rw [m2]; exact hP1) (by rw [m2]; exact hD1) z0 z1 rfl (fun _ _ _ _ => rfl) (fun c' a' k' h => if_neg (fun z => h ⟨by rw [z.1, k2], z.2.1⟩)) ?_) hS1
    rw [acl_o (by rw [k2]; decide)]
    show (mN σ d, _) = _
    congr 5
    funext q
    rw [cn, c0, k1, k2]
    show (if kO = kO ∧ d = d ∧ q < n then mP σ kO e' q else mP σ kO d q) = va_cpy _ _ _ _ _ q
    by_cases hq : q < n
    · rw [if_pos ⟨rfl, rfl, hq⟩, pk_cpy_in (by omega) (by omega), Nat.zero_add, Nat.sub_zero]
    · rw [if_neg (fun z => hq z.2.2), pk_cpy_out (by omega)]
end J95
