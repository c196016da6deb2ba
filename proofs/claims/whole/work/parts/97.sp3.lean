/-! ===== ArrayList.grow() IN A METHOD; ALL SIX ===== -/
section O97
variable {base z mi0 : Nat} {adK adV : Nat → Nat}
variable {p : Program} {l : Launch} {e : Jvm.Env} {R : Room} {s : State} {mi : MethodId} {args : Array Value} {below : List Frame} {meth : Method} {c : Code} {Q : State → Prop}
variable {D : va_G} {cid : Nat → ClassId} {eP : Nat → Option Nat} {eI : Nat → Nat → Int32} {k pc ln : Nat} {lv st lv' st' : List Value} {σ σ' : Mm} {ls : Array Slot} {H : Heap} {locs : List Loc} {cells slots s0 : Nat}
theorem grE_of {n e0 : Nat} (h : grE σ e0 = true) (hn : mN σ e0 = n) : ∀ j, j < n → ∀ y, mP σ kO e0 j = some y → 0 < mK σ y ∧ mK σ y < 19 := by
  intro j hj y hy
  unfold grE at h
  rw [List.all_eq_true] at h
  have h1 := h j (List.mem_range.mpr (by rw [hn]; exact hj))
  try dsimp only at h1
  rw [hy] at h1
  simpa only [Bool.and_eq_true, decide_eq_true_eq] using h1
set_option maxRecDepth 100000 in
theorem sp_gr {a ms : Nat} {r : List Value} (hF : Fx p R s mi args meth c D cid base k) (hO : Og base z mi0 adK adV s) (hH : Ht s D cid base eP eI k s0 lv σ ls H locs cells slots) (hlv : lv.length = mml k) (hka : mK σ a = 1) (hM : Mg l base z mi0 adK adV D cid eP eI σ yJx4a65c_grow_d5877 cJx4a65c_grow_d5877 1 (some Tob) 6 250 1 ms [.ref a] (some (.ref (mX σ))) σ') (hX' : Hx s s0 (cells + 1) (slots + ms) σ') (hr2 : cells + 1 ≤ R.cells ∧ slots + ms ≤ R.slots) (hr4 : r.length ≤ 4) (h15 : mow k = 15) (hd : decode (mby k) pc = .ok (.invokevirtual 129, 3)) (kk : Kt p l e R s mi args below meth c Q D cid base eP eI k s0 (pc + 3) lv (.ref (mX σ) :: r) σ') : W p l e R s mi args below meth c H locs cells slots Q (F0 mi pc ls (.ref a :: r)) := by
  obtain ⟨⟨hx, hb, hml, hown, hts⟩, hnm, hK, hba, hk6, hfr, hlo⟩ := id hF
  obtain ⟨hL, hV, hW, hS, hX⟩ := hH
  have hcs := cat_sum r
  rw [h15] at hown
  have hsz : (F0 mi pc ls (.ref a :: r)).locals.size = mml k := by show ls.size = _; rw [hL.1]; exact hlv
  have hWr : 2 * (F0 mi pc ls (.ref a :: r)).monitorRoom + (r.map fun v => v.category).sum ≤ 8 := by show 2 * 0 + _ ≤ 8; omega
  have hrec := recv_of_kind hK hW hka (by decide) (by decide) (r0 := (RJx4a65c, TJx4a65c, 3)) rfl
  exact callG (va_runV (As := []) (b := a) ⟨hx, hb, hml, hown, hts⟩ hM ⟨callB_of 0 hts (gw_c (ing 280 rfl rfl)) rfl rfl rfl (hts _ (ing 4 rfl rfl)) (hts _ (ing 277 rfl rfl)) ⟨by decide, by decide, by decide⟩ ⟨by show 6 + 1 ≤ R.frames; omega, by show 8 + (1 + 11) + 250 ≤ R.locals; omega⟩, hts _ (ing 279 rfl rfl), hts _ (ings 1 rfl rfl)⟩ ⟨Wst.blind Og.ok, hrec, (fun U hU hw => Wst.pre Og.ok hW hK hO hba hS U hU hw)⟩ rfl rfl hsz rfl hWr hd hr2) hS (fun H1 locs1 hW1 hS1 => kk ls H1 locs1 _ _ hL hV hW1 hS1 hX')
theorem sp_drem (hE : EOk z adK eP eI) (hF : Fx p R s mi args meth c D cid base k) (hO : Og base z mi0 adK adV s) (hp : pg k pc = (.drem, ln)) (hH : Ht s D cid base eP eI k s0 lv σ ls H locs cells slots) (hst : st1 .drem lv st σ = (true, lv', st', σ')) (hR : Rm R s s0 σ') (hlv : lv.length = mml k) (kk : Kt p l e R s mi args below meth c Q D cid base eP eI k s0 (pc + ln) lv' st' σ') : W p l e R s mi args below meth c H locs cells slots Q (F0 mi pc ls st) := by
  obtain ⟨⟨hx, hb, hml, hown, hts⟩, hnm, hK, hba, hk6, hfr, hlo⟩ := id hF
  obtain ⟨hL, hV, hW, hS, hX⟩ := id hH
  obtain ⟨real, hd, hr⟩ := dec_of hk6 hp (by intro h; cases h)
  rcases st with _ | ⟨a, r⟩ <;> simp only [st1, Prod.mk.injEq, Bool.and_eq_true, decide_eq_true_eq, Bool.false_eq_true, false_and] at hst
  obtain ⟨⟨⟨⟨ha, hka⟩, hG⟩, hr4⟩, rfl, rfl, rfl⟩ := hst
  obtain ⟨a, rfl⟩ := isA_of ha
  have hka : mK σ a = 1 := hka
  have hG : grG σ a = true := hG
  have hR : Rm R s s0 (grS σ a) := hR
  have kk : Kt p l e R s mi args below meth c Q D cid base eP eI k s0 (pc + ln) lv (.ref (mX σ) :: r) (grS σ a) := kk
  have hr4 := Nat.le_of_ble_eq_true hr4
  have h5 := hX.1
  have h6 := hX.2.1
  simp only [relB] at hr
  split at hr
  · simp only [Bool.and_eq_true, decide_eq_true_eq] at hr
    obtain ⟨q1, q2⟩ := hr
    obtain rfl := beqT q1
    obtain ⟨m9, i54⟩ : mow k = 15 ∧ _ = 129 := by
      rcases List.mem_cons.mp q2 with q | q
      · exact ⟨congrArg Prod.fst q, congrArg Prod.snd q⟩
      · cases q
    subst i54
    unfold grG at hG
    rw [Bool.or_eq_true] at hG
    by_cases h100 : mP σ 19 0 100 = mP σ 1 a 1
    · have hg : grS σ a = sP (nw σ kO 10 10) 1 a 1 (some (mX σ)) := if_pos h100
      rw [hg] at hR kk
      have h0 : mI σ 1 a 2 = 0 := by
        rcases hG with h | h
        · simp only [Bool.and_eq_true, decide_eq_true_eq] at h
          exact h.2
        · exfalso
          simp only [Bool.and_eq_true, decide_eq_true_eq] at h
          have e0 : mP σ 19 0 100 = some z := (hW.2.2.2.2.2.1 100).trans hE.2.1
          have eg : gre σ a = z := by unfold gre; rw [← h100, e0]; rfl
          have hk := h.1.1.1.1.1
          rw [eg] at hk
          exact hO.2.2.2.2.1.out (hW.ge (a := z) (by rw [hk]; decide))
      have hr1 : mX σ + 1 ≤ s.heap.size + R.cells := hR.1
      have hr2 : mS σ + 10 ≤ s0 + R.slots := hR.2
      exact sp_gr hF hO hH hlv hka (mg_gr hka (x := 1) (by rw [h0]; rfl) (mg_g1 hka hE h100)) ((hX.new (kd := kO) (len := 10) (sl := 10)).wrote rfl) ⟨by omega, by omega⟩ hr4 m9 hd kk
    · have hg2 := hG.resolve_left (fun h => by simp only [Bool.and_eq_true, decide_eq_true_eq] at h; exact h100 h.1)
      simp only [Bool.and_eq_true, decide_eq_true_eq] at hg2
      obtain ⟨⟨⟨⟨⟨g1, g2⟩, g3⟩, g4⟩, g5⟩, g6⟩ := hg2
      obtain ⟨e0, he0⟩ : ∃ e0, mP σ 1 a 1 = some e0 := by
        cases hq : mP σ 1 a 1 with
        | none => rw [hq] at g2; cases g2
        | some e0 => exact ⟨e0, rfl⟩
      have eg : gre σ a = e0 := by unfold gre; rw [he0]; rfl
      rw [eg] at g1 g3 g4 g5 g6
      have hne : ¬ e0 = mX σ := Nat.ne_of_lt (hW.lt (by rw [g1]; decide))
      have hg : grS σ a = sP (cpO (nw σ kO (mN σ e0 + mN σ e0 / 2) (mN σ e0 + mN σ e0 / 2)) e0 (mX σ) (mN σ e0)) 1 a 1 (some (mX σ)) := by
        unfold grS
        rw [if_neg h100, eg]
        unfold cpO
        have : (fun c q j => if c = kO ∧ q = mX σ ∧ j < mN σ e0 then mP σ kO e0 j else (nw σ kO (mN σ e0 + mN σ e0 / 2) (mN σ e0 + mN σ e0 / 2)).2.1 c q j) = (fun c q j => if c = kO ∧ q = mX σ ∧ j < mN σ e0 then mP (nw σ kO (mN σ e0 + mN σ e0 / 2) (mN σ e0 + mN σ e0 / 2)) kO e0 j else mP (nw σ kO (mN σ e0 + mN σ e0 / 2) (mN σ e0 + mN σ e0 / 2)) c q j) := by
          funext c q j
          rw [show mP (nw σ kO (mN σ e0 + mN σ e0 / 2) (mN σ e0 + mN σ e0 / 2)) kO e0 j = mP σ kO e0 j by rw [mP_nw, if_neg (fun z => hne z.2)]]
          rfl
        rw [this]
      rw [hg] at hR kk
      have hr1 : mX σ + 1 ≤ s.heap.size + R.cells := hR.1
      have hr2 : mS σ + (mN σ e0 + mN σ e0 / 2) ≤ s0 + R.slots := hR.2
      exact sp_gr hF hO hH hlv hka (mg_gr hka (x := nI (mN σ e0 + 1)) (by rw [g3]; exact (nI_succ (mN σ e0)).symm) (mg_g2 hka he0 g1 rfl g4 g5 (grE_of g6 rfl))) ((hX.new (kd := kO) (len := mN σ e0 + mN σ e0 / 2) (sl := mN σ e0 + mN σ e0 / 2)).wrote rfl) ⟨by omega, by omega⟩ hr4 m9 hd kk
  · cases hr
/-- ALL SIX -/
theorem sp_ok (hE : EOk z adK eP eI) : SpOk l D cid base eP eI (Og base z mi0 adK adV) := by
  intro i hi p e R s mi args below meth c Q k pc ln lv st lv' st' σ σ' ls H locs cells slots s0 hF hO hp hH hst hR hlv kk
  cases i <;> first
    | exact sp_ldc_w hE hF hO hp hH hst kk
    | exact sp_getstatic hE hF hO hp hH hst kk
    | exact sp_daload hE hF hO hp hH hst kk
    | exact sp_dneg hE hF hO hp hH hst hR hlv kk
    | exact sp_caload hE hF hO hp hH hst hR hlv kk
    | exact sp_drem hE hF hO hp hH hst hR hlv kk
    | (simp [spI] at hi; done)
end O97
