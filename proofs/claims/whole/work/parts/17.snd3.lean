/-! ===== SOUNDNESS: ARRAYS, NEW CELLS, CASTS ===== -/
section SN3
variable {p : Program} {l : Launch} {e : Env} {R : Room} {s : State} {mi : MethodId} {args : Array Value} {below : List Frame} {meth : Method} {c : Code} {Q : State → Prop}
variable {D : va_G} {cid : Nat → ClassId} {base : Nat} {eP : Nat → Option Nat} {eI : Nat → Nat → Int32} {k pc ln : Nat} {lv st lv' st' : List Value} {σ σ' : Mm} {ls : Array Slot} {H : Heap} {locs : List Loc} {cells slots s0 : Nat}
theorem ak_of {kd t : Nat} (h : (decide (20 ≤ kd) && decide (kd % 5 = t)) = true) : 20 ≤ kd ∧ kd % 5 = t := by simpa using h
theorem acl_i {kd a : Nat} (h3 : kd % 5 ≠ 3) (h4 : kd % 5 ≠ 4) : acl σ kd a = (mN σ a, .inl (fun j => mI σ kd a j)) := by
  unfold acl
  split
  · rename_i h; exact absurd h h3
  · rename_i h; exact absurd h h4
  · rfl
theorem acl_o {kd a : Nat} (h : kd % 5 = 3) : acl σ kd a = (mN σ a, .inr (.inr (.inr (.inr (fun j => mP σ kd a j))))) := by
  simp only [acl, h]
theorem Wh.arr (hW : Wh D cid base eP eI σ H) {a : Nat} (h : 20 ≤ mK σ a) : a ∈ mL σ ∧ ∃ q0 : Nat, (va_pl (mL σ) (clf cid σ))[q0]? = some (a, clf cid σ a) ∧ (va_pl (mL σ) (clf cid σ))[q0]? = some (a, .inl (cid (mK σ a % 5), acl σ (mK σ a) a)) := by
  obtain ⟨q0, hq0⟩ := hW.at (a := a) (by omega)
  refine ⟨hW.2.2.2.2.1 a (by omega), q0, hq0, ?_⟩
  rw [hq0, clf_arr rfl h]
/-- an array was written -/
theorem arr_wrote {H1 : Heap} {a q0 : Nat} {x : vp_A} (hW : Wh D cid base eP eI σ H) (hX : Hx s s0 cells slots σ) (h20 : 20 ≤ mK σ a) (hq : (va_pl (mL σ) (clf cid σ))[q0]? = some (a, clf cid σ a))
    (hP1 : va_P D vwCl ((va_pl (mL σ) (clf cid σ)).set q0 (a, .inl (cid (mK σ a % 5), x))) H1) (hD1 : va_D (fun q => base ≤ q) ((va_pl (mL σ) (clf cid σ)).set q0 (a, .inl (cid (mK σ a % 5), x)))) (h0 : s.heap.size ≤ H1.size) (h1 : H1.size ≤ s.heap.size + cells)
    (e1 : σ'.2.2 = σ.2.2) (eI' : ∀ c' a' k', ¬ (c' = mK σ a ∧ a' = a) → mI σ' c' a' k' = mI σ c' a' k') (eP' : ∀ c' a' k', ¬ (c' = mK σ a ∧ a' = a) → mP σ' c' a' k' = mP σ c' a' k') (hx : acl σ' (mK σ a) a = x) : Wh D cid base eP eI σ' H1 := by
  have hmem : a ∈ mL σ := hW.2.2.2.2.1 a (by omega)
  have es := va_pl_set (X := []) (e := .inl (cid (mK σ a % 5), x)) hW.2.1 hmem hq
  simp only [List.nil_append] at es
  rw [es] at hP1 hD1
  subst hx
  rw [va_pl_congr (clf_arr_put (cid := cid) (σ' := σ') (by simp only [mK, e1]) (by simp only [mN, e1]) rfl h20 eI' eP')] at hP1 hD1
  exact hW.wrote hX h0 h1 hP1 hD1 e1 (fun k' => eP' _ _ _ (fun q => by have := q.1; omega)) (fun a' k' => eI' _ _ _ (fun q => by have := q.1; omega))
theorem acl_sI {a i : Nat} {v : Int32} (h3 : mK σ a % 5 ≠ 3) (h4 : mK σ a % 5 ≠ 4) : acl (sI σ (mK σ a) a i v) (mK σ a) a = (mN σ a, .inl (upd (fun j => mI σ (mK σ a) a j) i v)) := by
  rw [acl_i h3 h4]
  show (mN σ a, Sum.inl _) = _
  congr 2
  funext j
  by_cases hj : j = i
  · simp [sI, mI, up3, upd, hj]
  · simp [sI, mI, up3, upd, hj]
theorem acl_sP {a i : Nat} {v : Option Nat} (h3 : mK σ a % 5 = 3) : acl (sP σ (mK σ a) a i v) (mK σ a) a = (mN σ a, .inr (.inr (.inr (.inr (va_up (fun j => mP σ (mK σ a) a j) i v))))) := by
  rw [acl_o h3]
  show (mN σ a, Sum.inr (Sum.inr (Sum.inr (Sum.inr _)))) = _
  congr 5
  funext j
  by_cases hj : j = i
  · simp [sP, mP, up3, va_up, hj]
  · simp [sP, mP, up3, va_up, hj]
theorem sI_off {σ : Mm} {c a i : Nat} {v : Int32} {c' a' k' : Nat} (h : ¬ (c' = c ∧ a' = a)) : mI (sI σ c a i v) c' a' k' = mI σ c' a' k' := if_neg (fun q => h ⟨q.1, q.2.1⟩)
theorem sP_off {σ : Mm} {c a i : Nat} {v : Option Nat} {c' a' k' : Nat} (h : ¬ (c' = c ∧ a' = a)) : mP (sP σ c a i v) c' a' k' = mP σ c' a' k' := if_neg (fun q => h ⟨q.1, q.2.1⟩)
theorem sn_arraylength (hF : Fx p R s mi args meth c D cid base k) (hp : pg k pc = (.arraylength, ln)) (hH : Ht s D cid base eP eI k s0 lv σ ls H locs cells slots) (hst : st1 (.arraylength) lv st σ = (true, lv', st', σ'))  (kk : Kt p l e R s mi args below meth c Q D cid base eP eI k s0 (pc + ln) lv' st' σ') : W p l e R s mi args below meth c H locs cells slots Q (F0 mi pc ls st) := by
  obtain ⟨⟨hx, hb, hml, hown, hts⟩, hnm, hK, hba, hk6, hfr, hlo⟩ := id hF
  obtain ⟨hL, hV, hW, hS, hX⟩ := hH
  obtain ⟨real, hd, hr⟩ := dec_of hk6 hp (by intro h; cases h)
  simp only [relB, Bool.and_eq_true, decide_eq_true_eq] at hr
  obtain ⟨h1, rfl⟩ := hr
  obtain rfl := beqT h1
  rcases st with _ | ⟨a, r⟩ <;> simp only [st1, Prod.mk.injEq, Bool.and_eq_true, decide_eq_true_eq, Bool.false_eq_true, false_and] at hst
  obtain ⟨⟨ha, h20⟩, rfl, rfl, rfl⟩ := hst
  obtain ⟨a, rfl⟩ := isA_of ha
  have h20 : 20 ≤ mK σ a := h20
  obtain ⟨-, q0, -, hq⟩ := hW.arr h20
  have ht : ∃ t0 : Nat, (tyl cid)[t0]? = some (cid (mK σ a % 5), aty (mK σ a % 5)) := by
    have : mK σ a % 5 < 5 := Nat.mod_lt _ (by decide)
    rcases (show mK σ a % 5 = 0 ∨ mK σ a % 5 = 1 ∨ mK σ a % 5 = 2 ∨ mK σ a % 5 = 3 ∨ mK σ a % 5 = 4 by omega) with h | h | h | h | h <;> rw [h]
    · exact ⟨0, rfl⟩
    · exact ⟨1, rfl⟩
    · exact ⟨2, rfl⟩
    · exact ⟨3, rfl⟩
    · exact ⟨4, rfl⟩
  obtain ⟨t0, ht⟩ := ht
  exact va_alen hx hb hK hW.1 q0 t0 hq ht (show Int32.ofNat (acl σ (mK σ a) a).1 = Int32.ofNat (mN σ a) from rfl) hd (kk ls H locs cells slots hL hV hW hS hX)
theorem sn_iaload (hF : Fx p R s mi args meth c D cid base k) (hp : pg k pc = (.iaload, ln)) (hH : Ht s D cid base eP eI k s0 lv σ ls H locs cells slots) (hst : st1 (.iaload) lv st σ = (true, lv', st', σ'))  (kk : Kt p l e R s mi args below meth c Q D cid base eP eI k s0 (pc + ln) lv' st' σ') : W p l e R s mi args below meth c H locs cells slots Q (F0 mi pc ls st) := by
  obtain ⟨⟨hx, hb, hml, hown, hts⟩, hnm, hK, hba, hk6, hfr, hlo⟩ := id hF
  obtain ⟨hL, hV, hW, hS, hX⟩ := hH
  obtain ⟨real, hd, hr⟩ := dec_of hk6 hp (by intro h; cases h)
  simp only [relB, Bool.and_eq_true, decide_eq_true_eq] at hr
  obtain ⟨h1, rfl⟩ := hr
  obtain rfl := beqT h1
  rcases st with _ | ⟨i, _ | ⟨a, r⟩⟩ <;> simp only [st1, Prod.mk.injEq, Bool.and_eq_true, decide_eq_true_eq, Bool.false_eq_true, false_and] at hst
  obtain ⟨⟨⟨⟨hi, ha⟩, hak⟩, hin⟩, rfl, rfl, rfl⟩ := hst
  obtain ⟨i, rfl⟩ := isI_of hi
  obtain ⟨a, rfl⟩ := isA_of ha
  obtain ⟨h20, h5⟩ := ak_of (kd := mK σ a) hak
  obtain ⟨-, q0, -, hq⟩ := hW.arr h20
  rw [acl_i (by omega) (by omega), h5] at hq
  exact va_iald hx hb hK hW.1 q0 0 hq rfl (ix_in hin) hd (kk ls H locs cells slots hL hV hW hS hX)
theorem sn_baload (hF : Fx p R s mi args meth c D cid base k) (hp : pg k pc = (.baload, ln)) (hH : Ht s D cid base eP eI k s0 lv σ ls H locs cells slots) (hst : st1 (.baload) lv st σ = (true, lv', st', σ'))  (kk : Kt p l e R s mi args below meth c Q D cid base eP eI k s0 (pc + ln) lv' st' σ') : W p l e R s mi args below meth c H locs cells slots Q (F0 mi pc ls st) := by
  obtain ⟨⟨hx, hb, hml, hown, hts⟩, hnm, hK, hba, hk6, hfr, hlo⟩ := id hF
  obtain ⟨hL, hV, hW, hS, hX⟩ := hH
  obtain ⟨real, hd, hr⟩ := dec_of hk6 hp (by intro h; cases h)
  simp only [relB, Bool.and_eq_true, decide_eq_true_eq] at hr
  obtain ⟨h1, rfl⟩ := hr
  obtain rfl := beqT h1
  rcases st with _ | ⟨i, _ | ⟨a, r⟩⟩ <;> simp only [st1, Prod.mk.injEq, Bool.and_eq_true, decide_eq_true_eq, Bool.false_eq_true, false_and] at hst
  obtain ⟨⟨⟨⟨hi, ha⟩, hak⟩, hin⟩, rfl, rfl, rfl⟩ := hst
  obtain ⟨i, rfl⟩ := isI_of hi
  obtain ⟨a, rfl⟩ := isA_of ha
  rcases (Bool.or_eq_true _ _).mp hak with hak | hak
  · obtain ⟨h20, h5⟩ := ak_of (kd := mK σ a) hak
    obtain ⟨-, q0, -, hq⟩ := hW.arr h20
    rw [acl_i (by omega) (by omega), h5] at hq
    exact va_zald hx hb hK hW.1 q0 1 hq rfl (ix_in hin) hd (kk ls H locs cells slots hL hV hW hS hX)
  · obtain ⟨h20, h5⟩ := ak_of (kd := mK σ a) hak
    obtain ⟨-, q0, -, hq⟩ := hW.arr h20
    rw [acl_i (by omega) (by omega), h5] at hq
    exact va_bald hx hb hK hW.1 q0 2 hq rfl (ix_in hin) hd (kk ls H locs cells slots hL hV hW hS hX)
theorem sn_aaload (hF : Fx p R s mi args meth c D cid base k) (hp : pg k pc = (.aaload, ln)) (hH : Ht s D cid base eP eI k s0 lv σ ls H locs cells slots) (hst : st1 (.aaload) lv st σ = (true, lv', st', σ'))  (kk : Kt p l e R s mi args below meth c Q D cid base eP eI k s0 (pc + ln) lv' st' σ') : W p l e R s mi args below meth c H locs cells slots Q (F0 mi pc ls st) := by
  obtain ⟨⟨hx, hb, hml, hown, hts⟩, hnm, hK, hba, hk6, hfr, hlo⟩ := id hF
  obtain ⟨hL, hV, hW, hS, hX⟩ := hH
  obtain ⟨real, hd, hr⟩ := dec_of hk6 hp (by intro h; cases h)
  simp only [relB, Bool.and_eq_true, decide_eq_true_eq] at hr
  obtain ⟨h1, rfl⟩ := hr
  obtain rfl := beqT h1
  rcases st with _ | ⟨i, _ | ⟨a, r⟩⟩ <;> simp only [st1, Prod.mk.injEq, Bool.and_eq_true, decide_eq_true_eq, Bool.false_eq_true, false_and] at hst
  obtain ⟨⟨⟨⟨hi, ha⟩, hak⟩, hin⟩, rfl, rfl, rfl⟩ := hst
  obtain ⟨i, rfl⟩ := isI_of hi
  obtain ⟨a, rfl⟩ := isA_of ha
  obtain ⟨h20, h5⟩ := ak_of (kd := mK σ a) hak
  obtain ⟨-, q0, -, hq⟩ := hW.arr h20
  rw [acl_o h5, h5] at hq
  exact va_aldq hx hb hK hW.1 q0 3 hq rfl (ix_in hin) hd (kk ls H locs cells slots hL hV hW hS hX)
theorem sn_iastore (hF : Fx p R s mi args meth c D cid base k) (hp : pg k pc = (.iastore, ln)) (hH : Ht s D cid base eP eI k s0 lv σ ls H locs cells slots) (hst : st1 (.iastore) lv st σ = (true, lv', st', σ'))  (kk : Kt p l e R s mi args below meth c Q D cid base eP eI k s0 (pc + ln) lv' st' σ') : W p l e R s mi args below meth c H locs cells slots Q (F0 mi pc ls st) := by
  obtain ⟨⟨hx, hb, hml, hown, hts⟩, hnm, hK, hba, hk6, hfr, hlo⟩ := id hF
  obtain ⟨hL, hV, hW, hS, hX⟩ := hH
  obtain ⟨real, hd, hr⟩ := dec_of hk6 hp (by intro h; cases h)
  simp only [relB, Bool.and_eq_true, decide_eq_true_eq] at hr
  obtain ⟨h1, rfl⟩ := hr
  obtain rfl := beqT h1
  rcases st with _ | ⟨v, _ | ⟨i, _ | ⟨a, r⟩⟩⟩ <;> simp only [st1, Prod.mk.injEq, Bool.and_eq_true, decide_eq_true_eq, Bool.false_eq_true, false_and] at hst
  obtain ⟨⟨⟨⟨⟨hv, hi⟩, ha⟩, hak⟩, hin⟩, rfl, rfl, rfl⟩ := hst
  obtain ⟨v, rfl⟩ := isI_of hv
  obtain ⟨i, rfl⟩ := isI_of hi
  obtain ⟨a, rfl⟩ := isA_of ha
  obtain ⟨h20, h5⟩ := ak_of (kd := mK σ a) hak
  obtain ⟨-, q0, hq0, hq⟩ := hW.arr h20
  rw [acl_i (by omega) (by omega), h5] at hq
  refine va_iast hx hb hK hW.1 hW.2.1 hS q0 0 hq rfl (ix_in hin) hd ?_
  intro H1 locs1 hP1 hD1 hS1
  refine W.sized fun z0 z1 => ?_
  refine kk ls H1 locs1 cells slots hL hV (arr_wrote hW hX h20 hq0 (x := _) (by rw [h5]; exact hP1) (by rw [h5]; exact hD1) z0 z1 rfl (fun _ _ _ h => sI_off h) (fun _ _ _ _ => rfl) (acl_sI (σ := σ) (a := a) (by omega) (by omega))) hS1 (hX.wrote rfl)
theorem sn_bastore (hF : Fx p R s mi args meth c D cid base k) (hp : pg k pc = (.bastore, ln)) (hH : Ht s D cid base eP eI k s0 lv σ ls H locs cells slots) (hst : st1 (.bastore) lv st σ = (true, lv', st', σ'))  (kk : Kt p l e R s mi args below meth c Q D cid base eP eI k s0 (pc + ln) lv' st' σ') : W p l e R s mi args below meth c H locs cells slots Q (F0 mi pc ls st) := by
  obtain ⟨⟨hx, hb, hml, hown, hts⟩, hnm, hK, hba, hk6, hfr, hlo⟩ := id hF
  obtain ⟨hL, hV, hW, hS, hX⟩ := hH
  obtain ⟨real, hd, hr⟩ := dec_of hk6 hp (by intro h; cases h)
  simp only [relB, Bool.and_eq_true, decide_eq_true_eq] at hr
  obtain ⟨h1, rfl⟩ := hr
  obtain rfl := beqT h1
  rcases st with _ | ⟨v, _ | ⟨i, _ | ⟨a, r⟩⟩⟩ <;> simp only [st1, Prod.mk.injEq, Bool.and_eq_true, decide_eq_true_eq, Bool.false_eq_true, false_and] at hst
  obtain ⟨⟨⟨⟨⟨hv, hi⟩, ha⟩, hak⟩, hin⟩, rfl, rfl, rfl⟩ := hst
  obtain ⟨v, rfl⟩ := isI_of hv
  obtain ⟨i, rfl⟩ := isI_of hi
  obtain ⟨a, rfl⟩ := isA_of ha
  rcases (Bool.or_eq_true _ _).mp hak with hak | hak
  · obtain ⟨hak, h01⟩ := (Bool.and_eq_true _ _).mp hak
    obtain ⟨h20, h5⟩ := ak_of (kd := mK σ a) hak
    have h01 : v = 0 ∨ v = 1 := of_decide_eq_true h01
    have en : vp_nar .boolean v = v := by rcases h01 with rfl | rfl <;> rfl
    obtain ⟨-, q0, hq0, hq⟩ := hW.arr h20
    rw [acl_i (by omega) (by omega), h5] at hq
    refine va_zast hx hb hK hW.1 hW.2.1 hS q0 1 hq rfl (ix_in hin) hd ?_
    rw [en]
    intro H1 locs1 hP1 hD1 hS1
    refine W.sized fun z0 z1 => ?_
    refine kk ls H1 locs1 cells slots hL hV (arr_wrote hW hX h20 hq0 (x := _) (by rw [h5]; exact hP1) (by rw [h5]; exact hD1) z0 z1 rfl (fun _ _ _ h => sI_off h) (fun _ _ _ _ => rfl) (acl_sI (σ := σ) (a := a) (by omega) (by omega))) hS1 (hX.wrote rfl)
  · obtain ⟨hak, h01⟩ := (Bool.and_eq_true _ _).mp hak
    obtain ⟨h20, h5⟩ := ak_of (kd := mK σ a) hak
    have h01 : v.toInt8.toInt32 = v := of_decide_eq_true h01
    have en : vp_nar .byte v = v := by rw [← h01]; exact pk_vb _
    obtain ⟨-, q0, hq0, hq⟩ := hW.arr h20
    rw [acl_i (by omega) (by omega), h5] at hq
    refine va_bast hx hb hK hW.1 hW.2.1 hS q0 2 hq rfl (ix_in hin) hd ?_
    rw [en]
    intro H1 locs1 hP1 hD1 hS1
    refine W.sized fun z0 z1 => ?_
    refine kk ls H1 locs1 cells slots hL hV (arr_wrote hW hX h20 hq0 (x := _) (by rw [h5]; exact hP1) (by rw [h5]; exact hD1) z0 z1 rfl (fun _ _ _ h => sI_off h) (fun _ _ _ _ => rfl) (acl_sI (σ := σ) (a := a) (by omega) (by omega))) hS1 (hX.wrote rfl)
theorem sn_aastore (hF : Fx p R s mi args meth c D cid base k) (hp : pg k pc = (.aastore, ln)) (hH : Ht s D cid base eP eI k s0 lv σ ls H locs cells slots) (hst : st1 (.aastore) lv st σ = (true, lv', st', σ')) (hC : ∀ (q : Nat) (r : vw_C), vwCl[q]? = some r → va_Nw (.castable r.1 "java/lang/Object") s) (kk : Kt p l e R s mi args below meth c Q D cid base eP eI k s0 (pc + ln) lv' st' σ') : W p l e R s mi args below meth c H locs cells slots Q (F0 mi pc ls st) := by
  obtain ⟨⟨hx, hb, hml, hown, hts⟩, hnm, hK, hba, hk6, hfr, hlo⟩ := id hF
  obtain ⟨hL, hV, hW, hS, hX⟩ := hH
  obtain ⟨real, hd, hr⟩ := dec_of hk6 hp (by intro h; cases h)
  simp only [relB, Bool.and_eq_true, decide_eq_true_eq] at hr
  obtain ⟨h1, rfl⟩ := hr
  obtain rfl := beqT h1
  rcases st with _ | ⟨v, _ | ⟨i, _ | ⟨a, r⟩⟩⟩ <;> simp only [st1, Prod.mk.injEq, Bool.and_eq_true, decide_eq_true_eq, Bool.false_eq_true, false_and] at hst
  obtain ⟨⟨⟨⟨⟨⟨⟨hv, hi⟩, ha⟩, hak⟩, hk0⟩, hk19⟩, hin⟩, rfl, rfl, rfl⟩ := hst
  obtain ⟨v, rfl⟩ := isA_of hv
  obtain ⟨i, rfl⟩ := isI_of hi
  obtain ⟨a, rfl⟩ := isA_of ha
  have hk0 : 0 < mK σ v := hk0
  have hk19 : mK σ v < 19 := hk19
  have hk13 : mK σ v ≤ 13 := hW.2.2.2.2.2.2.2 v (by omega)
  obtain ⟨h20, h5⟩ := ak_of (kd := mK σ a) hak
  obtain ⟨-, q0, hq0, hq⟩ := hW.arr h20
  rw [acl_o h5, h5] at hq
  obtain ⟨qk, hqk⟩ := hW.at (a := v) (by omega)
  rw [clf_obj rfl (by omega)] at hqk
  obtain ⟨r0, hr0⟩ : ∃ r0, vwCl[mK σ v - 1]? = some r0 := ⟨_, List.getElem?_eq_getElem (by show _ < 13; omega)⟩
  refine va_astqO hx hb hK hW.1 hW.2.1 hS q0 3 qk (mK σ v - 1) hq rfl (hC _ r0 hr0) hqk hr0 (ix_in hin) hd ?_
  intro H1 locs1 hP1 hD1 hS1
  refine W.sized fun z0 z1 => ?_
  refine kk ls H1 locs1 cells slots hL hV (arr_wrote hW hX h20 hq0 (x := _) (by rw [h5]; exact hP1) (by rw [h5]; exact hD1) z0 z1 rfl (fun _ _ _ _ => rfl) (fun _ _ _ h => sP_off h) (acl_sP (σ := σ) (a := a) (by omega))) hS1 (hX.wrote rfl)
theorem recv_of_kind {a : Nat} (hK : va_K D vwCl (tyl cid) s) (hW : Wh D cid base eP eI σ H) {q : Nat} {r0 : vw_C} (h : mK σ a = q) (h1 : 1 ≤ q) (h13 : q ≤ 13) (hr : vwCl[q - 1]? = some r0) : ∃ cell : Cell, H[a]? = some cell ∧ cell.vm.isStatics = false ∧ s.vm.findClass r0.1 = some cell.cls := by
  obtain ⟨q0, hq0⟩ := hW.at (a := a) (by omega)
  rw [clf_obj h (by omega)] at hq0
  exact va_recv hK hW.1 hr hq0
theorem sn_checkcast {kd : Nat} (hF : Fx p R s mi args meth c D cid base k) (hp : pg k pc = (.checkcast kd, ln)) (hH : Ht s D cid base eP eI k s0 lv σ ls H locs cells slots) (hst : st1 (.checkcast kd) lv st σ = (true, lv', st', σ'))  (kk : Kt p l e R s mi args below meth c Q D cid base eP eI k s0 (pc + ln) lv' st' σ') : W p l e R s mi args below meth c H locs cells slots Q (F0 mi pc ls st) := by
  obtain ⟨⟨hx, hb, hml, hown, hts⟩, hnm, hK, hba, hk6, hfr, hlo⟩ := id hF
  obtain ⟨hL, hV, hW, hS, hX⟩ := hH
  obtain ⟨real, hd, hr⟩ := dec_of hk6 hp (by intro h; cases h)
  rcases st with _ | ⟨a, r⟩ <;> simp only [st1, Prod.mk.injEq, Bool.and_eq_true, decide_eq_true_eq, Bool.false_eq_true, false_and] at hst
  obtain ⟨⟨ha, hk⟩, rfl, rfl, rfl⟩ := hst
  obtain ⟨a, rfl⟩ := isA_of ha
  have hk : mK σ a = kd := hk
  simp only [relB] at hr
  split at hr
  · simp only [Bool.and_eq_true, decide_eq_true_eq] at hr
    obtain ⟨h1, h2⟩ := hr
    obtain rfl := beqT h1
    obtain ⟨C, U, N, hv, ⟨hc1, hc13⟩, hcl, hin, hini⟩ := cn_ok _ h2
    dsimp only at hv hc1 hc13 hcl
    obtain ⟨cC, hfc, hat⟩ : ∃ cC, s.vm.findClass C = some cC ∧ ClassAt s C cC := by
      have := hK.1 _ _ hv
      exact ⟨_, this.2.1, this.2⟩
    exact va_castS hx hb hown (hts _ hcl) hat (recv_of_kind hK hW hk hc1 hc13 hv) hd (kk ls H locs cells slots hL hV hW hS hX)
  · cases hr
theorem cat_sum (r : List Value) : ((r.map fun v => v.category).sum) ≤ 2 * r.length := by
  induction r with
  | nil => simp
  | cons v t ih =>
    simp only [List.map_cons, List.sum_cons, List.length_cons]
    have : v.category ≤ 2 := by cases v <;> simp [Value.category]
    omega
theorem sn_invokespecial {n : Nat} (hF : Fx p R s mi args meth c D cid base k) (hp : pg k pc = (.invokespecial n, ln)) (hH : Ht s D cid base eP eI k s0 lv σ ls H locs cells slots) (hst : st1 (.invokespecial n) lv st σ = (true, lv', st', σ')) (hlv : lv.length = mml k) (kk : Kt p l e R s mi args below meth c Q D cid base eP eI k s0 (pc + ln) lv' st' σ') : W p l e R s mi args below meth c H locs cells slots Q (F0 mi pc ls st) := by
  obtain ⟨⟨hx, hb, hml, hown, hts⟩, hnm, hK, hba, hk6, hfr, hlo⟩ := id hF
  obtain ⟨hL, hV, hW, hS, hX⟩ := hH
  obtain ⟨real, hd, hr⟩ := dec_of hk6 hp (by intro h; cases h)
  rcases st with _ | ⟨a, r⟩ <;> simp only [st1, Prod.mk.injEq, Bool.and_eq_true, decide_eq_true_eq, Bool.false_eq_true, false_and] at hst
  obtain ⟨⟨ha, hr8⟩, rfl, rfl, rfl⟩ := hst
  obtain ⟨a, rfl⟩ := isA_of ha
  have hr8 := Nat.le_of_ble_eq_true hr8
  have hcs := cat_sum r
  simp only [relB] at hr
  split at hr
  · simp only [Bool.and_eq_true, decide_eq_true_eq] at hr
    obtain ⟨h1, h2⟩ := hr
    obtain rfl := beqT h1
    refine W.objInit hx hb hown (hts _ (ob_ok _ h2)) (hts _ (ing 36 rfl rfl)) (hts _ (ing 37 rfl rfl)) rfl (by rw [hml]; show ls.size = _; rw [hL.1]; exact hlv) rfl hd (by omega) ?_ (kk ls H locs cells slots hL hV hW hS hX)
    show 2 * 0 + _ + 12 ≤ _
    omega
  · cases hr
end SN3
