section O90
variable {base z mi0 : Nat} {adK adV : Nat → Nat} {u U : State}
/-- what is not memory says the same -/
def EOk (z : Nat) (adK : Nat → Nat) (eP : Nat → Option Nat) (eI : Nat → Nat → Int32) : Prop := (∀ k, k < 14 → eP k = some (adK k)) ∧ eP 100 = some z ∧ (∀ a, eI a 0 = 1 → ∃ k, k < 14 ∧ a = adK k) ∧ ∀ k, k < 14 → eI (adK k) 0 = 1 ∧ eI (adK k) 1 = nI (lnk.getD k 0) ∧ ∀ j, j < lnk.getD k 0 → eI (adK k) (2 + j) = (byk.getD k []).getD j 0
variable {p : Program} {l : Launch} {e : Jvm.Env} {R : Room} {s : State} {mi : MethodId} {args : Array Value} {below : List Frame} {meth : Method} {c : Code} {Q : State → Prop}
variable {D : va_G} {cid : Nat → ClassId} {eP : Nat → Option Nat} {eI : Nat → Nat → Int32} {k pc ln : Nat} {lv st lv' st' : List Value} {σ σ' : Mm} {ls : Array Slot} {H : Heap} {locs : List Loc} {cells slots s0 : Nat}
theorem sp_ldc_w {n : Nat} (hE : EOk z adK eP eI) (hF : Fx p R s mi args meth c D cid base k) (hO : Og base z mi0 adK adV s) (hp : pg k pc = (.ldc_w n, ln)) (hH : Ht s D cid base eP eI k s0 lv σ ls H locs cells slots) (hst : st1 (.ldc_w n) lv st σ = (true, lv', st', σ')) (kk : Kt p l e R s mi args below meth c Q D cid base eP eI k s0 (pc + ln) lv' st' σ') : W p l e R s mi args below meth c H locs cells slots Q (F0 mi pc ls st) := by
  obtain ⟨⟨hx, hb, hml, hown, hts⟩, hnm, hK, hba, hk6, hfr, hlo⟩ := id hF
  obtain ⟨hL, hV, hW, hS, hX⟩ := hH
  obtain ⟨real, hd, hr⟩ := dec_of hk6 hp (by intro h; cases h)
  simp only [st1, Prod.mk.injEq, Bool.and_eq_true, decide_eq_true_eq, Bool.false_eq_true, false_and] at hst
  obtain ⟨-, rfl, rfl, rfl⟩ := hst
  simp only [relB] at hr
  split at hr
  · simp only [Bool.and_eq_true, decide_eq_true_eq] at hr
    obtain ⟨h1, h2⟩ := hr
    obtain rfl := beqT h1
    obtain ⟨q1, q2, q3⟩ := (show ∀ e ∈ ksl, e.1 = 7 ∧ e.2.2 < 14 ∧ e.2.1 = (tks.getD e.2.2 (0, "")).1 by decide) _ h2
    dsimp only at q1 q2 q3
    rw [q1] at hown
    have hR := hO.2.2.1 n q2
    rw [← q3] at hR
    have ev : mP σ 19 0 n = some (adK n) := (hW.2.2.2.2.2.1 n).trans (hE.1 n q2)
    rw [ev] at kk
    exact va_ldcS hx hb hown hR hd (kk ls H locs cells slots hL hV hW hS hX)
  · cases hr
theorem sp_getstatic {n : Nat} (hE : EOk z adK eP eI) (hF : Fx p R s mi args meth c D cid base k) (hO : Og base z mi0 adK adV s) (hp : pg k pc = (.getstatic n, ln)) (hH : Ht s D cid base eP eI k s0 lv σ ls H locs cells slots) (hst : st1 (.getstatic n) lv st σ = (true, lv', st', σ')) (kk : Kt p l e R s mi args below meth c Q D cid base eP eI k s0 (pc + ln) lv' st' σ') : W p l e R s mi args below meth c H locs cells slots Q (F0 mi pc ls st) := by
  obtain ⟨⟨hx, hb, hml, hown, hts⟩, hnm, hK, hba, hk6, hfr, hlo⟩ := id hF
  obtain ⟨hL, hV, hW, hS, hX⟩ := hH
  obtain ⟨real, hd, hr⟩ := dec_of hk6 hp (by intro h; cases h)
  simp only [st1, Prod.mk.injEq, Bool.and_eq_true, decide_eq_true_eq, Bool.false_eq_true, false_and] at hst
  obtain ⟨-, rfl, rfl, rfl⟩ := hst
  simp only [relB] at hr
  split at hr
  · simp only [Bool.and_eq_true, decide_eq_true_eq] at hr
    obtain ⟨h1, q1, rfl, rfl⟩ := hr
    obtain rfl := beqT h1
    rw [q1] at hown
    have ev : mP σ 19 0 (100 + 0) = some z := (hW.2.2.2.2.2.1 100).trans hE.2.1
    rw [ev] at kk
    exact va_gets hx hb hO.2.2.2.1 hS hown (hts _ (ing 50 rfl rfl)) (fun _ h => h) hd (kk ls H locs cells slots hL hV hW hS hX)
  · cases hr
theorem sp_daload (hE : EOk z adK eP eI) (hF : Fx p R s mi args meth c D cid base k) (hO : Og base z mi0 adK adV s) (hp : pg k pc = (.daload, ln)) (hH : Ht s D cid base eP eI k s0 lv σ ls H locs cells slots) (hst : st1 .daload lv st σ = (true, lv', st', σ')) (kk : Kt p l e R s mi args below meth c Q D cid base eP eI k s0 (pc + ln) lv' st' σ') : W p l e R s mi args below meth c H locs cells slots Q (F0 mi pc ls st) := by
  obtain ⟨⟨hx, hb, hml, hown, hts⟩, hnm, hK, hba, hk6, hfr, hlo⟩ := id hF
  obtain ⟨hL, hV, hW, hS, hX⟩ := hH
  obtain ⟨real, hd, hr⟩ := dec_of hk6 hp (by intro h; cases h)
  rcases st with _ | ⟨a, r⟩ <;> simp only [st1, Prod.mk.injEq, Bool.and_eq_true, decide_eq_true_eq, Bool.false_eq_true, false_and] at hst
  obtain ⟨⟨ha, h20⟩, rfl, rfl, rfl⟩ := hst
  obtain ⟨a, rfl⟩ := isA_of ha
  have ev : mP σ 19 0 100 = some z := (hW.2.2.2.2.2.1 100).trans hE.2.1
  rw [ev] at kk h20
  simp only [relB] at hr
  split at hr
  · obtain rfl := beqT hr
    by_cases hz : z = a
    · subst hz
      have : (some z = vr (.ref z)) := rfl
      rw [if_pos this] at kk
      exact va_tlen hx hb hO.2.2.2.2.1 hS (v := 0) rfl hd (kk ls H locs cells slots hL hV hW hS hX)
    · have hn : ¬ (some z = vr (.ref a)) := fun h => hz (Option.some.inj h)
      rw [if_neg hn] at kk
      have h20 : 20 ≤ mK σ a := h20.resolve_left hn
      obtain ⟨-, q0, -, hq⟩ := hW.arr h20
      have ht : ∃ t0 : Nat, (tyl cid)[t0]? = some (cid (mK σ a % 5), aty (mK σ a % 5)) := by
        have : mK σ a % 5 < 5 := Nat.mod_lt _ (by decide)
        rcases (show mK σ a % 5 = 0 ∨ mK σ a % 5 = 1 ∨ mK σ a % 5 = 2 ∨ mK σ a % 5 = 3 ∨ mK σ a % 5 = 4 by omega) with h | h | h | h | h <;> rw [h]
        · exact ⟨0, rfl⟩
        · exact ⟨1, rfl⟩
        · exact ⟨2, rfl⟩
        · exact ⟨3, rfl⟩
        · exact ⟨4, rfl⟩
      obtain ⟨t0, ht0⟩ := ht
      exact va_alen hx hb hK hW.1 q0 t0 hq ht0 rfl hd (kk ls H locs cells slots hL hV hW hS hX)
  · cases hr
end O90
