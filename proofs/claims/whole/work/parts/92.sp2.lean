/-! ===== String.length, String.charAt IN A METHOD ===== -/
section O92
variable {base z mi0 : Nat} {adK adV : Nat → Nat}
variable {p : Program} {l : Launch} {e : Jvm.Env} {R : Room} {s : State} {mi : MethodId} {args : Array Value} {below : List Frame} {meth : Method} {c : Code} {Q : State → Prop}
variable {D : va_G} {cid : Nat → ClassId} {eP : Nat → Option Nat} {eI : Nat → Nat → Int32} {k pc ln : Nat} {lv st lv' st' : List Value} {σ σ' : Mm} {ls : Array Slot} {H : Heap} {locs : List Loc} {cells slots s0 : Nat}
set_option maxRecDepth 100000 in
theorem sp_dneg (hE : EOk z adK eP eI) (hF : Fx p R s mi args meth c D cid base k) (hO : Og base z mi0 adK adV s) (hp : pg k pc = (.dneg, ln)) (hH : Ht s D cid base eP eI k s0 lv σ ls H locs cells slots) (hst : st1 .dneg lv st σ = (true, lv', st', σ')) (hR : Rm R s s0 σ') (hlv : lv.length = mml k) (kk : Kt p l e R s mi args below meth c Q D cid base eP eI k s0 (pc + ln) lv' st' σ') : W p l e R s mi args below meth c H locs cells slots Q (F0 mi pc ls st) := by
  obtain ⟨⟨hx, hb, hml, hown, hts⟩, hnm, hK, hba, hk6, hfr, hlo⟩ := id hF
  obtain ⟨hL, hV, hW, hS, hX⟩ := hH
  obtain ⟨real, hd, hr⟩ := dec_of hk6 hp (by intro h; cases h)
  rcases st with _ | ⟨a, r⟩ <;> simp only [st1, Prod.mk.injEq, Bool.and_eq_true, decide_eq_true_eq, Bool.false_eq_true, false_and] at hst
  obtain ⟨⟨⟨ha, h1⟩, hr4⟩, rfl, rfl, rfl⟩ := hst
  obtain ⟨a, rfl⟩ := isA_of ha
  have h1 : mI σ 19 a 0 = 1 := h1
  have hr4 := Nat.le_of_ble_eq_true hr4
  have hcs := cat_sum r
  have eI0 := hW.2.2.2.2.2.2.1
  rw [eI0] at h1
  obtain ⟨i, hi, rfl⟩ := hE.2.2.1 a h1
  have ev : mI σ 19 (vd (.ref (adK i))) 1 = nI (lnk.getD i 0) := (eI0 _ _).trans (hE.2.2.2 i hi).2.1
  rw [ev] at kk
  have h5 := hX.1
  have h6 := hX.2.1
  have h7 := hR.1
  have h8 := hR.2
  have hsz : (F0 mi pc ls (.ref (adK i) :: r)).locals.size = mml k := by show ls.size = _; rw [hL.1]; exact hlv
  have hWr : 2 * (F0 mi pc ls (.ref (adK i) :: r)).monitorRoom + (r.map fun v => v.category).sum ≤ 8 := by show 2 * 0 + _ ≤ 8; omega
  simp only [relB] at hr
  split at hr
  · simp only [Bool.and_eq_true, decide_eq_true_eq] at hr
    obtain ⟨q1, q2⟩ := hr
    obtain rfl := beqT q1
    obtain ⟨m9, i54⟩ : mow k = 9 ∧ _ = 54 := by
      rcases List.mem_cons.mp q2 with q | q
      · exact ⟨congrArg Prod.fst q, congrArg Prod.snd q⟩
      · cases q
    subst i54
    rw [m9] at hown
    exact callG (va_runV (As := []) (b := adK i) ⟨hx, hb, hml, hown, hts⟩ (mj_length hi) ⟨callB_of 0 hts (gw_c (ing 600 rfl rfl)) rfl rfl rfl (hts _ (ing 20 rfl rfl)) (hts _ (ing 597 rfl rfl)) ⟨by decide, by decide, by decide⟩ ⟨by show 2 + 1 ≤ R.frames; omega, by show 8 + (1 + 11) + 40 ≤ R.locals; omega⟩, hts _ (ing 598 rfl rfl), hts _ (ing 599 rfl rfl)⟩ ⟨Wst.blind Og.ok, vk_recv hO.2.1 hi hS, (fun U hU hw => Wst.pre Og.ok hW hK hO hba hS U hU hw)⟩ rfl rfl hsz rfl hWr hd ⟨by omega, by omega⟩) hS (fun H1 locs1 hW1 hS1 => kk ls H1 locs1 _ _ hL hV hW1 hS1 hX)
  · cases hr
set_option maxRecDepth 100000 in
theorem sp_caload (hE : EOk z adK eP eI) (hF : Fx p R s mi args meth c D cid base k) (hO : Og base z mi0 adK adV s) (hp : pg k pc = (.caload, ln)) (hH : Ht s D cid base eP eI k s0 lv σ ls H locs cells slots) (hst : st1 .caload lv st σ = (true, lv', st', σ')) (hR : Rm R s s0 σ') (hlv : lv.length = mml k) (kk : Kt p l e R s mi args below meth c Q D cid base eP eI k s0 (pc + ln) lv' st' σ') : W p l e R s mi args below meth c H locs cells slots Q (F0 mi pc ls st) := by
  obtain ⟨⟨hx, hb, hml, hown, hts⟩, hnm, hK, hba, hk6, hfr, hlo⟩ := id hF
  obtain ⟨hL, hV, hW, hS, hX⟩ := hH
  obtain ⟨real, hd, hr⟩ := dec_of hk6 hp (by intro h; cases h)
  rcases st with _ | ⟨x, _ | ⟨a, r⟩⟩ <;> simp only [st1, Prod.mk.injEq, Bool.and_eq_true, decide_eq_true_eq, Bool.false_eq_true, false_and] at hst
  obtain ⟨⟨⟨⟨⟨⟨hxi, ha⟩, h1⟩, h0⟩, hlt⟩, hr4⟩, rfl, rfl, rfl⟩ := hst
  obtain ⟨a, rfl⟩ := isA_of ha
  obtain ⟨x, rfl⟩ := isI_of hxi
  have h1 : mI σ 19 a 0 = 1 := h1
  have h0 : 0 ≤ x := h0
  have hlt : x < mI σ 19 a 1 := hlt
  have hr4 := Nat.le_of_ble_eq_true hr4
  have hcs := cat_sum r
  have eI0 := hW.2.2.2.2.2.2.1
  rw [eI0] at h1 hlt
  obtain ⟨i, hi, rfl⟩ := hE.2.2.1 a h1
  rw [(hE.2.2.2 i hi).2.1] at hlt
  have h0' : ¬ x < 0 := Int32.not_lt.mpr h0
  have h31 : lnk.getD i 0 < 2 ^ 31 := (show ∀ i, i < 14 → lnk.getD i 0 < 2 ^ 31 by decide) i hi
  have ev : mI σ 19 (vd (.ref (adK i))) (2 + (vi (.int x)).toNatClampNeg) = (byk.getD i []).getD x.toNatClampNeg 0 := (eI0 _ _).trans ((hE.2.2.2 i hi).2.2 _ (in_of h0' hlt h31).1)
  rw [ev] at kk
  have h5 := hX.1
  have h6 := hX.2.1
  have h7 := hR.1
  have h8 := hR.2
  have hsz : (F0 mi pc ls (.int x :: .ref (adK i) :: r)).locals.size = mml k := by show ls.size = _; rw [hL.1]; exact hlv
  have hWr : 2 * (F0 mi pc ls (.int x :: .ref (adK i) :: r)).monitorRoom + (r.map fun v => v.category).sum ≤ 8 := by show 2 * 0 + _ ≤ 8; omega
  simp only [relB] at hr
  split at hr
  · simp only [Bool.and_eq_true, decide_eq_true_eq] at hr
    obtain ⟨q1, q2⟩ := hr
    obtain rfl := beqT q1
    obtain ⟨m9, i54⟩ : mow k = 9 ∧ _ = 59 := by
      rcases List.mem_cons.mp q2 with q | q
      · exact ⟨congrArg Prod.fst q, congrArg Prod.snd q⟩
      · cases q
    subst i54
    rw [m9] at hown
    exact callG (va_runV (As := [.int x]) (b := adK i) ⟨hx, hb, hml, hown, hts⟩ (mj_char hi h0' hlt) ⟨callB_of 1 hts (gw_c (ing 610 rfl rfl)) rfl rfl rfl (hts _ (ing 20 rfl rfl)) (hts _ (ing 607 rfl rfl)) ⟨by decide, by decide, by decide⟩ ⟨by show 4 + 1 ≤ R.frames; omega, by show 8 + (2 + 11) + 100 ≤ R.locals; omega⟩, hts _ (ing 608 rfl rfl), hts _ (ing 609 rfl rfl)⟩ ⟨Wst.blind Og.ok, vk_recv hO.2.1 hi hS, (fun U hU hw => Wst.pre Og.ok hW hK hO hba hS U hU hw)⟩ rfl rfl hsz rfl hWr hd ⟨by omega, by omega⟩) hS (fun H1 locs1 hW1 hS1 => kk ls H1 locs1 _ _ hL hV hW1 hS1 hX)
  · cases hr
end O92
