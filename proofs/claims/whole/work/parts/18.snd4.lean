/-! ===== SOUNDNESS: NEW CELLS, Math, arraycopy ===== -/
/-- the room is enough for what is made up to σ' -/
def Rm (R : Room) (s : State) (s0 : Nat) (σ' : Mm) : Prop := mX σ' ≤ s.heap.size + R.cells ∧ mS σ' ≤ s0 + R.slots
set_option maxRecDepth 100000 in
theorem lk_max : ∀ e ∈ [((3, 39) : Nat × Nat), ((10, 211) : Nat × Nat)], Cond.methodLink (own e.1) e.2 Lib.Math.max.name ∈ gw := List.forall_mem_cons.mpr ⟨ing 738 rfl rfl, List.forall_mem_cons.mpr ⟨ing 770 rfl rfl, fun _ h => absurd h List.not_mem_nil⟩⟩
set_option maxRecDepth 100000 in
theorem lk_min : ∀ e ∈ [((10, 170) : Nat × Nat)], Cond.methodLink (own e.1) e.2 Lib.Math.min.name ∈ gw := List.forall_mem_cons.mpr ⟨ing 721 rfl rfl, fun _ h => absurd h List.not_mem_nil⟩
set_option maxRecDepth 100000 in
theorem lk_abs : ∀ e ∈ [((3, 48) : Nat × Nat)], Cond.methodLink (own e.1) e.2 Lib.Math.abs.name ∈ gw := List.forall_mem_cons.mpr ⟨ing 754 rfl rfl, fun _ h => absurd h List.not_mem_nil⟩
set_option maxRecDepth 100000 in
theorem lk_cpy : ∀ e ∈ [((6, 126) : Nat × Nat)], Cond.methodLink (own e.1) e.2 arraycopyName ∈ gw := List.forall_mem_cons.mpr ⟨ing 1007 rfl rfl, fun _ h => absurd h List.not_mem_nil⟩
set_option maxRecDepth 100000 in
theorem w_max : Cond.code Lib.Math.max.name Lib.Math.max.code 2 (some .int) ∈ gw := ing 290 rfl rfl
set_option maxRecDepth 100000 in
theorem w_min : Cond.code Lib.Math.min.name Lib.Math.min.code 2 (some .int) ∈ gw := ing 324 rfl rfl
set_option maxRecDepth 100000 in
theorem w_abs : Cond.code Lib.Math.abs.name Lib.Math.abs.code 1 (some .int) ∈ gw := ing 756 rfl rfl
set_option maxRecDepth 100000 in
theorem w_maxs : Cond.static Lib.Math.max.name ∈ gw := ing 289 rfl rfl
set_option maxRecDepth 100000 in
theorem w_mins : Cond.static Lib.Math.min.name ∈ gw := ing 323 rfl rfl
set_option maxRecDepth 100000 in
theorem w_abss : Cond.static Lib.Math.abs.name ∈ gw := ing 755 rfl rfl
set_option maxRecDepth 100000 in
theorem w_cpn : Cond.native arraycopyName ∈ gw := ing 327 rfl rfl
set_option maxRecDepth 100000 in
theorem w_cps : Cond.static arraycopyName ∈ gw := ing 326 rfl rfl
section SN4
variable {p : Program} {l : Launch} {e : Env} {R : Room} {s : State} {mi : MethodId} {args : Array Value} {below : List Frame} {meth : Method} {c : Code} {Q : State → Prop}
variable {D : va_G} {cid : Nat → ClassId} {base : Nat} {eP : Nat → Option Nat} {eI : Nat → Nat → Int32} {k pc ln : Nat} {lv st lv' st' : List Value} {σ σ' : Mm} {ls : Array Slot} {H : Heap} {locs : List Loc} {cells slots s0 : Nat}
theorem Wh.fresh (hW : Wh D cid base eP eI σ H) : mK σ (mX σ) = 0 := by
  by_cases h : mK σ (mX σ) = 0
  · exact h
  · exact absurd (hW.lt h) (Nat.lt_irrefl _)
theorem Wh.new {H1 : Heap} {kd len sl : Nat} (hW : Wh D cid base eP eI σ H) (hkd : kd ≠ 0) (hk19 : kd ≠ 19) (hk13 : kd < 20 → kd ≤ 13) (z1 : H1.size = mX σ + 1) (o1 : ∀ q, q < mX σ → H1[q]? = H[q]?) (hat : va_at D vwCl (mX σ, clf cid (nw σ kd len sl) (mX σ)) H1) : Wh D cid base eP eI (nw σ kd len sl) H1 := by
  have hfr := hW.fresh
  obtain ⟨hP, hD, hz, hb, hl, hp, hi, h13⟩ := id hW
  have hmem : mX σ ∉ mL σ := va_pl_fresh (X := []) hP (by rw [hz]; exact Nat.le_refl _)
  have es := va_pl_push (f := clf cid σ) (e := clf cid (nw σ kd len sl) (mX σ)) hmem
  rw [va_pl_congr (clf_new (cid := cid) (σ := σ) (kd := kd) (len := len) (sl := sl) hfr rfl)] at es
  have hk : ∀ (k : Nat) (x : Nat × va_E), (va_pl (mL σ) (clf cid σ))[k]? = some x → H1[x.1]? = H[x.1]? := fun k x hx => o1 x.1 (by rw [← hz]; exact (hP k x hx).lt)
  refine ⟨?_, ?_, z1, Nat.le_succ_of_le hb, fun a ha => ?_, fun q => ?_, fun a q => ?_, fun a ha => ?_⟩
  · show va_P D vwCl (va_pl (mL σ ++ [mX σ]) _) H1
    rw [← es]
    refine (hP.kept hk).app (fun q x hx => ?_)
    have hz0 : q < 1 := (List.getElem?_eq_some_iff.mp hx).1
    rw [show q = 0 by omega] at hx
    cases hx
    exact hat
  · show va_D _ (va_pl (mL σ ++ [mX σ]) _)
    rw [← es]
    exact hD.push hP hz.symm hb
  · show a ∈ mL σ ++ [mX σ]
    by_cases h : a = mX σ
    · rw [h]; simp
    · have : mK (nw σ kd len sl) a = mK σ a := va_up_ne _ _ h
      rw [this] at ha
      exact List.mem_append_left _ (hl a ha)
  · rw [← hp q]
    show (if 19 = kd ∧ 0 = mX σ then none else mP σ 19 0 q) = _
    rw [if_neg (fun h => hk19 h.1.symm)]
  · rw [← hi a q]
    show (if 19 = kd ∧ a = mX σ then 0 else mI σ 19 a q) = _
    rw [if_neg (fun h => hk19 h.1.symm)]
  · by_cases h : a = mX σ
    · subst h
      have : mK (nw σ kd len sl) (mX σ) = kd := va_up_self _ _ _
      rw [this] at ha ⊢
      exact hk13 ha
    · have : mK (nw σ kd len sl) a = mK σ a := va_up_ne _ _ h
      rw [this] at ha ⊢
      exact h13 a ha
theorem Hx.new {kd len sl : Nat} (hX : Hx s s0 cells slots σ) : Hx s s0 (cells + 1) (slots + sl) (nw σ kd len sl) := by
  obtain ⟨h1, h2, h3⟩ := hX
  refine ⟨?_, ?_, fun a ha hb => ?_⟩
  · show _ = mX σ + 1
    omega
  · show _ = mS σ + sl
    omega
  · have hb : a < mX σ + 1 := hb
    show a ∈ mL σ ++ [mX σ]
    by_cases h : a = mX σ
    · rw [h]; simp
    · exact List.mem_append_left _ (h3 a ha (by omega))
theorem va_S.grew {H1 : Heap} (hS : va_S (fun q => base ≤ q) s.heap H locs) (z : H.size ≤ H1.size) (o1 : ∀ q, q < H.size → H1[q]? = H[q]?) : va_S (fun q => base ≤ q) s.heap H1 locs :=
  ⟨Nat.le_trans hS.1 z, fun x h1 h2 => (o1 x (Nat.lt_of_lt_of_le h1 hS.1)).trans (hS.2.1 x h1 h2), hS.2.2⟩
theorem sn_new {kd : Nat} (hF : Fx p R s mi args meth c D cid base k) (hp : pg k pc = (.new kd, ln)) (hH : Ht s D cid base eP eI k s0 lv σ ls H locs cells slots) (hst : st1 (.new kd) lv st σ = (true, lv', st', σ')) (hR : Rm R s s0 σ') (kk : Kt p l e R s mi args below meth c Q D cid base eP eI k s0 (pc + ln) lv' st' σ') : W p l e R s mi args below meth c H locs cells slots Q (F0 mi pc ls st) := by
  obtain ⟨⟨hx, hb, hml, hown, hts⟩, hnm, hK, hba, hk6, hfr, hlo⟩ := id hF
  obtain ⟨hL, hV, hW, hS, hX⟩ := hH
  obtain ⟨real, hd, hr⟩ := dec_of hk6 hp (by intro h; cases h)
  simp only [st1, Prod.mk.injEq, true_and] at hst
  obtain ⟨rfl, rfl, rfl⟩ := hst
  simp only [relB] at hr
  split at hr
  · simp only [Bool.and_eq_true, decide_eq_true_eq] at hr
    obtain ⟨h1, h2⟩ := hr
    obtain rfl := beqT h1
    obtain ⟨C, U, N, hv, ⟨hc1, hc13⟩, hcl, hin, hini⟩ := cn_ok _ h2
    dsimp only at hv hc1 hc13 hcl
    obtain ⟨ty, hcw, hcty, hcnm, hcf, hckn⟩ := cls hc1 hc13 hv
    have hKn := hK.1 _ _ hv
    have hz := hW.2.2.1
    have h3 : mX σ + 1 ≤ s.heap.size + R.cells := hR.1
    have h4 : mS σ + kn kd ≤ s0 + R.slots := hR.2
    have h5 := hX.1
    have h6 := hX.2.1
    refine W.newcK hx hb hown (hts _ hcl) (hts _ hin) (hts _ hini) rfl hd (by omega) (by rw [← hckn]; omega) hKn.2.1 hz fun H1 kC hkC e1 z1 o1 => ?_
    refine kk ls H1 locs (cells + 1) (slots + N) hL hV (hW.new (by omega) (by omega) (fun _ => hc13) z1 o1 ?_) (hS.grew (by omega) (by rw [hz]; exact o1)) (by rw [← hckn]; exact hX.new)
    rw [clf_obj (show mK (nw σ kd 0 (kn kd)) (mX σ) = kd from va_up_self _ _ _) (by omega)]
    refine ⟨_, hv, (u_born ty hts hcw hKn hkC e1 hcty).to fun j hj => ?_⟩
    have hj2 : j < N := hj
    show _ = ((List.range (kn kd)).map (fv (nw σ kd 0 (kn kd)) kd (mX σ))).getD j .null
    rw [List.getD_eq_getElem?_getD, fv_get _ (by rw [hckn]; exact hj2)]
    obtain ⟨-, -, -, -, f6⟩ := hcf j hj2
    rw [f6]
    show _ = fv (nw σ kd 0 (kn kd)) kd (mX σ) j
    unfold fv
    by_cases hkr : kr kd j = true
    · rw [if_pos hkr, if_pos hkr]
      simp [nw, mP, va_rf]
    · rw [if_neg hkr, if_neg hkr]
      simp [nw, mI]
  · cases hr
theorem ac5_of {t : ArrayType} {q : Nat} (h : ac5 t q = true) : (t = .int ∧ q = 0) ∨ (t = .boolean ∧ q = 1) ∨ (t = .byte ∧ q = 2) := by
  unfold ac5 at h
  split at h
  · exact Or.inl ⟨rfl, rfl⟩
  · exact Or.inr (Or.inl ⟨rfl, rfl⟩)
  · exact Or.inr (Or.inr ⟨rfl, rfl⟩)
  · cases h
theorem sn_anewarray {kd : Nat} (hF : Fx p R s mi args meth c D cid base k) (hp : pg k pc = (.anewarray kd, ln)) (hH : Ht s D cid base eP eI k s0 lv σ ls H locs cells slots) (hst : st1 (.anewarray kd) lv st σ = (true, lv', st', σ')) (hR : Rm R s s0 σ') (kk : Kt p l e R s mi args below meth c Q D cid base eP eI k s0 (pc + ln) lv' st' σ') : W p l e R s mi args below meth c H locs cells slots Q (F0 mi pc ls st) := by
  obtain ⟨⟨hx, hb, hml, hown, hts⟩, hnm, hK, hba, hk6, hfr, hlo⟩ := id hF
  obtain ⟨hL, hV, hW, hS, hX⟩ := hH
  obtain ⟨real, hd, hr⟩ := dec_of hk6 hp (by intro h; cases h)
  rcases st with _ | ⟨n, r⟩ <;> simp only [st1, Prod.mk.injEq, Bool.and_eq_true, decide_eq_true_eq, Bool.false_eq_true, false_and] at hst
  obtain ⟨⟨⟨hn, h0⟩, hle⟩, rfl, rfl, rfl⟩ := hst
  obtain ⟨n, rfl⟩ := isI_of hn
  have h0 : 0 ≤ n := h0
  have hle : n.toNatClampNeg ≤ 1000 := hle
  simp only [relB] at hr
  split at hr
  · rename_i t
    simp only [Bool.and_eq_true] at hr
    obtain ⟨⟨h1, h2⟩, h3⟩ := hr
    obtain rfl := beqT h1
    have h20 := Nat.le_of_ble_eq_true h2
    have hz := hW.2.2.1
    have hr1 : mX σ + 1 ≤ s.heap.size + R.cells := hR.1
    have hr2 : mS σ + n.toNatClampNeg ≤ s0 + R.slots := hR.2
    have h5 := hX.1
    have h6 := hX.2.1
    have hnn : ¬ n < 0 := by rw [Int32.not_lt]; exact h0
    have go : ∀ (ty : FieldType) (t0 : Nat), newarray.typeOf t = ty → (Cond.arrayClass (newarray.typeOf t)).before args s = true → kd % 5 = t0 → t0 < 3 → s.vm.findClass ("[" ++ ty.toString) = some (cid t0) → defaultValue ty = .int 0 → componentBytes ty ≤ 4 → W p l e R s mi args below meth c H locs cells slots Q (F0 mi pc ls (.int n :: r)) := by
      intro ty t0 hty harr hk5 ht3 hcid hdef hcb
      refine va_newaK hx hb harr rfl hd rfl hnn rfl (by rw [hty]; calc n.toNatClampNeg * componentBytes ty ≤ 1000 * 4 := Nat.mul_le_mul hle hcb
          _ ≤ 536870912 := by decide) (by omega) (by omega) hz fun H1 cA e1 z1 o1 hAr hNm => ?_
      rw [hty] at hNm e1
      have hcA : cA = cid t0 := Option.some.inj (hNm.symm.trans hcid)
      subst hcA
      refine kk ls H1 locs (cells + 1) (slots + n.toNatClampNeg) hL hV (hW.new (by omega) (by omega) (fun h => by omega) z1 o1 ?_) (hS.grew (by omega) (by rw [hz]; exact o1)) hX.new
      have hkd : mK (nw σ kd n.toNatClampNeg n.toNatClampNeg) (mX σ) = kd := va_up_self _ _ _
      show va_at D vwCl (mX σ, clf cid (nw σ kd n.toNatClampNeg n.toNatClampNeg) (mX σ)) H1
      rw [clf_arr hkd h20, acl_i (by omega) (by omega), hk5]
      show H1[mX σ]? = some (vp_cell _ _)
      rw [e1, vp_cell_i, hdef]
      have hN : mN (nw σ kd n.toNatClampNeg n.toNatClampNeg) (mX σ) = n.toNatClampNeg := va_up_self _ _ _
      rw [hN]
      congr 2
      funext j
      simp [nw, mI]
    rcases ac5_of h3 with ⟨rfl, hk5⟩ | ⟨rfl, hk5⟩ | ⟨rfl, hk5⟩
    · exact go .int 0 rfl (hts _ (ing 87 rfl rfl)) hk5 (by decide) (hK.2 0 _ rfl).2 rfl (by decide)
    · exact go .boolean 1 rfl (hts _ (ing 170 rfl rfl)) hk5 (by decide) (hK.2 1 _ rfl).2 rfl (by decide)
    · exact go .byte 2 rfl (hts _ (ing 117 rfl rfl)) hk5 (by decide) (hK.2 2 _ rfl).2 rfl (by decide)
  · cases hr
theorem sn_fadd (hF : Fx p R s mi args meth c D cid base k) (hp : pg k pc = (.fadd, ln)) (hH : Ht s D cid base eP eI k s0 lv σ ls H locs cells slots) (hst : st1 .fadd lv st σ = (true, lv', st', σ')) (hR : Rm R s s0 σ') (hlv : lv.length = mml k) (kk : Kt p l e R s mi args below meth c Q D cid base eP eI k s0 (pc + ln) lv' st' σ') : W p l e R s mi args below meth c H locs cells slots Q (F0 mi pc ls st) := by
  obtain ⟨⟨hx, hb, hml, hown, hts⟩, hnm, hK, hba, hk6, hfr, hlo⟩ := id hF
  obtain ⟨hL, hV, hW, hS, hX⟩ := hH
  obtain ⟨real, hd, hr⟩ := dec_of hk6 hp (by intro h; cases h)
  rcases st with _ | ⟨b, _ | ⟨a, r⟩⟩ <;> simp only [st1, Prod.mk.injEq, Bool.and_eq_true, decide_eq_true_eq, Bool.false_eq_true, false_and] at hst
  obtain ⟨⟨⟨ha, hb2⟩, hr8⟩, rfl, rfl, rfl⟩ := hst
  obtain ⟨x, rfl⟩ := isI_of ha
  obtain ⟨y, rfl⟩ := isI_of hb2
  have hr8 := Nat.le_of_ble_eq_true hr8
  have hcs := cat_sum r
  have h5 := hX.1
  have h6 := hX.2.1
  have h7 := hR.1
  have h8 := hR.2
  simp only [relB] at hr
  split at hr
  · simp only [Bool.and_eq_true, decide_eq_true_eq] at hr
    obtain ⟨h1, h2⟩ := hr
    obtain rfl := beqT h1
    have hl := lk_max _ h2
    exact va_mmax hx hb (by rw [hml, hL.1, hlv]) hown (hts _ hl) (hts _ w_maxs) (hts _ (ing 12 rfl rfl)) (hts _ w_max) (by omega) (by omega) (by omega) (by omega) hd (kk ls H locs cells slots hL hV hW hS hX)
  · cases hr
theorem sn_fsub (hF : Fx p R s mi args meth c D cid base k) (hp : pg k pc = (.fsub, ln)) (hH : Ht s D cid base eP eI k s0 lv σ ls H locs cells slots) (hst : st1 .fsub lv st σ = (true, lv', st', σ')) (hR : Rm R s s0 σ') (hlv : lv.length = mml k) (kk : Kt p l e R s mi args below meth c Q D cid base eP eI k s0 (pc + ln) lv' st' σ') : W p l e R s mi args below meth c H locs cells slots Q (F0 mi pc ls st) := by
  obtain ⟨⟨hx, hb, hml, hown, hts⟩, hnm, hK, hba, hk6, hfr, hlo⟩ := id hF
  obtain ⟨hL, hV, hW, hS, hX⟩ := hH
  obtain ⟨real, hd, hr⟩ := dec_of hk6 hp (by intro h; cases h)
  rcases st with _ | ⟨b, _ | ⟨a, r⟩⟩ <;> simp only [st1, Prod.mk.injEq, Bool.and_eq_true, decide_eq_true_eq, Bool.false_eq_true, false_and] at hst
  obtain ⟨⟨⟨ha, hb2⟩, hr8⟩, rfl, rfl, rfl⟩ := hst
  obtain ⟨x, rfl⟩ := isI_of ha
  obtain ⟨y, rfl⟩ := isI_of hb2
  have hr8 := Nat.le_of_ble_eq_true hr8
  have hcs := cat_sum r
  have h5 := hX.1
  have h6 := hX.2.1
  have h7 := hR.1
  have h8 := hR.2
  simp only [relB] at hr
  split at hr
  · simp only [Bool.and_eq_true, decide_eq_true_eq] at hr
    obtain ⟨h1, h2⟩ := hr
    obtain rfl := beqT h1
    have hl := lk_min _ h2
    exact va_mmin hx hb (by rw [hml, hL.1, hlv]) hown (hts _ hl) (hts _ w_mins) (hts _ (ing 12 rfl rfl)) (hts _ w_min) (by omega) (by omega) (by omega) (by omega) hd (kk ls H locs cells slots hL hV hW hS hX)
  · cases hr
theorem sn_fneg (hF : Fx p R s mi args meth c D cid base k) (hp : pg k pc = (.fneg, ln)) (hH : Ht s D cid base eP eI k s0 lv σ ls H locs cells slots) (hst : st1 .fneg lv st σ = (true, lv', st', σ')) (hR : Rm R s s0 σ') (hlv : lv.length = mml k) (kk : Kt p l e R s mi args below meth c Q D cid base eP eI k s0 (pc + ln) lv' st' σ') : W p l e R s mi args below meth c H locs cells slots Q (F0 mi pc ls st) := by
  obtain ⟨⟨hx, hb, hml, hown, hts⟩, hnm, hK, hba, hk6, hfr, hlo⟩ := id hF
  obtain ⟨hL, hV, hW, hS, hX⟩ := hH
  obtain ⟨real, hd, hr⟩ := dec_of hk6 hp (by intro h; cases h)
  rcases st with _ | ⟨a, r⟩ <;> simp only [st1, Prod.mk.injEq, Bool.and_eq_true, decide_eq_true_eq, Bool.false_eq_true, false_and] at hst
  obtain ⟨⟨ha, hr8⟩, rfl, rfl, rfl⟩ := hst
  obtain ⟨x, rfl⟩ := isI_of ha
  have hr8 := Nat.le_of_ble_eq_true hr8
  have hcs := cat_sum r
  have h5 := hX.1
  have h6 := hX.2.1
  have h7 := hR.1
  have h8 := hR.2
  simp only [relB] at hr
  split at hr
  · simp only [Bool.and_eq_true, decide_eq_true_eq] at hr
    obtain ⟨h1, h2⟩ := hr
    obtain rfl := beqT h1
    have hl := lk_abs _ h2
    exact va_mabs hx hb (by rw [hml, hL.1, hlv]) hown (hts _ hl) (hts _ w_abss) (hts _ (ing 12 rfl rfl)) (hts _ w_abs) (by omega) (by omega) (by omega) (by omega) hd (kk ls H locs cells slots hL hV hW hS hX)
  · cases hr
theorem sn_dadd (hF : Fx p R s mi args meth c D cid base k) (hp : pg k pc = (.dadd, ln)) (hH : Ht s D cid base eP eI k s0 lv σ ls H locs cells slots) (hst : st1 .dadd lv st σ = (true, lv', st', σ')) (hlv : lv.length = mml k) (kk : Kt p l e R s mi args below meth c Q D cid base eP eI k s0 (pc + ln) lv' st' σ') : W p l e R s mi args below meth c H locs cells slots Q (F0 mi pc ls st) := by
  obtain ⟨⟨hx, hb, hml, hown, hts⟩, hnm, hK, hba, hk6, hfr, hlo⟩ := id hF
  obtain ⟨hL, hV, hW, hS, hX⟩ := hH
  obtain ⟨real, hd, hr⟩ := dec_of hk6 hp (by intro h; cases h)
  rcases st with _ | ⟨n, _ | ⟨j, _ | ⟨b, _ | ⟨i, _ | ⟨a, r⟩⟩⟩⟩⟩ <;> simp only [st1, Prod.mk.injEq, Bool.and_eq_true, decide_eq_true_eq, Bool.false_eq_true, false_and] at hst
  obtain ⟨⟨⟨⟨⟨⟨⟨⟨⟨⟨⟨⟨⟨hn, hj⟩, hb2⟩, hi⟩, ha⟩, hka⟩, hkb⟩, h0i⟩, h0j⟩, h0n⟩, hla⟩, hlb⟩, hr8⟩, rfl, rfl, rfl⟩ := hst
  obtain ⟨n, rfl⟩ := isI_of hn
  obtain ⟨j, rfl⟩ := isI_of hj
  obtain ⟨b, rfl⟩ := isA_of hb2
  obtain ⟨i, rfl⟩ := isI_of hi
  obtain ⟨a, rfl⟩ := isA_of ha
  have hr8 := Nat.le_of_ble_eq_true hr8
  have hcs := cat_sum r
  obtain ⟨a20, a5⟩ := ak_of (kd := mK σ a) hka
  obtain ⟨b20, b5⟩ := ak_of (kd := mK σ b) hkb
  obtain ⟨-, q0, -, hq⟩ := hW.arr a20
  obtain ⟨-, q1, hq1, hqb⟩ := hW.arr b20
  rw [acl_i (by omega) (by omega), a5] at hq
  rw [acl_i (by omega) (by omega), b5] at hqb
  simp only [relB] at hr
  split at hr
  · simp only [Bool.and_eq_true, decide_eq_true_eq] at hr
    obtain ⟨h1, h2⟩ := hr
    obtain rfl := beqT h1
    have hl := lk_cpy _ h2
    refine va_copyi hx hb (by rw [hml, hL.1, hlv]) hown (hts _ hl) (hts _ w_cpn) (hts _ w_cps) (hts _ (ing 14 rfl rfl)) hK hW.1 hW.2.1 hS q0 q1 0 0 hq hqb rfl rfl rfl (by rw [Int32.not_lt]; exact h0i) (by rw [Int32.not_lt]; exact h0j) (by rw [Int32.not_lt]; exact h0n) hla hlb (fun _ _ => rfl) (by omega) ?_ hd ?_
    · have : nativeFrameWords "java/lang/System" "arraycopy" 5 = 7 := by decide +kernel
      omega
    · intro H1 locs1 hP1 hD1 hS1
      refine W.sized fun z0 z1 => ?_
      refine kk ls H1 locs1 cells slots hL hV (arr_wrote (σ' := cpI σ a i.toNatClampNeg b j.toNatClampNeg n.toNatClampNeg) hW hX b20 hq1 (x := _) (by rw [b5]; exact hP1) (by rw [b5]; exact hD1) z0 z1 rfl (fun _ _ _ h => if_neg h) (fun _ _ _ _ => rfl) ?_) hS1 (hX.wrote rfl)
      rw [acl_i (by omega) (by omega)]
      show (mN σ b, Sum.inl _) = _
      congr 2
      funext q
      simp [cpI, mI]
  · cases hr
end SN4
