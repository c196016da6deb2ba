/-! ===== SOUNDNESS: FIELDS, ARRAYS, NEW CELLS ===== -/
section SN2
variable {p : Program} {l : Launch} {e : Env} {R : Room} {s : State} {mi : MethodId} {args : Array Value} {below : List Frame} {meth : Method} {c : Code} {Q : State → Prop}
variable {D : va_G} {cid : Nat → ClassId} {base : Nat} {eP : Nat → Option Nat} {eI : Nat → Nat → Int32} {k pc ln : Nat} {lv st lv' st' : List Value} {σ σ' : Mm} {ls : Array Slot} {H : Heap} {locs : List Loc} {cells slots s0 : Nat}
theorem W.sized {g : JFrame} (kk : s.heap.size ≤ H.size → H.size ≤ s.heap.size + cells → W p l e R s mi args below meth c H locs cells slots Q g) : W p l e R s mi args below meth c H locs cells slots Q g := fun T hT X => kk (by rw [← hT]; exact X.same.2.1) (by rw [← hT]; exact X.same.2.2.1) T hT X
/-- the world behind a write -/
theorem Wh.wrote {H1 : Heap} (hW : Wh D cid base eP eI σ H) (hX : Hx s s0 cells slots σ) (h0 : s.heap.size ≤ H1.size) (h1 : H1.size ≤ s.heap.size + cells) (hP1 : va_P D vwCl (va_pl (mL σ) (clf cid σ')) H1) (hD1 : va_D (fun q => base ≤ q) (va_pl (mL σ) (clf cid σ'))) (e1 : σ'.2.2 = σ.2.2) (e2 : ∀ k, mP σ' 19 0 k = mP σ 19 0 k) (e3 : ∀ a k, mI σ' 19 a k = mI σ 19 a k) : Wh D cid base eP eI σ' H1 := by
  have eK : mK σ' = mK σ := by simp only [mK, e1]
  have eL : mL σ' = mL σ := by simp only [mL, e1]
  have eX : mX σ' = mX σ := by simp only [mX, e1]
  obtain ⟨-, -, hz, hb, hl, hp, hi, h13⟩ := hW
  refine ⟨by rw [eL]; exact hP1, by rw [eL]; exact hD1, ?_, by rw [eX]; exact hb, by rw [eK, eL]; exact hl, fun k => (e2 k).trans (hp k), fun a k => (e3 a k).trans (hi a k), by rw [eK]; exact h13⟩
  rw [eX]
  have hx := hX.1
  by_cases hc : cells = 0
  · omega
  · have := va_pl_lt (X := []) hP1 (hX.2.2 (mX σ - 1) (by omega) (by omega))
    omega
theorem Hx.wrote (hX : Hx s s0 cells slots σ) (e1 : σ'.2.2 = σ.2.2) : Hx s s0 cells slots σ' := by
  have eL : mL σ' = mL σ := by simp only [mL, e1]
  have eX : mX σ' = mX σ := by simp only [mX, e1]
  have eS : mS σ' = mS σ := by simp only [mS, e1]
  exact ⟨by rw [eX]; exact hX.1, by rw [eS]; exact hX.2.1, by rw [eX, eL]; exact hX.2.2⟩
theorem fv_at {c a k t : Nat} (h : kr c k = Nat.beq t 2) : fv σ c a k = match (generalizing := false) t with
    | 2 => va_rf (mP σ c a k)
    | _ => .int (mI σ c a k) := by
  unfold fv
  by_cases ht : t = 2
  · subst ht
    rw [h]; rfl
  · have hf : Nat.beq t 2 = false := by
      cases hb : Nat.beq t 2 with
      | true => exact absurd (beqT hb) ht
      | false => rfl
    rw [h, hf, if_neg (by decide)]
    split
    · exact absurd rfl ht
    · rfl
theorem sn_getfield {x : Nat} (hF : Fx p R s mi args meth c D cid base k) (hp : pg k pc = (.getfield x, ln)) (hH : Ht s D cid base eP eI k s0 lv σ ls H locs cells slots) (hst : st1 (.getfield x) lv st σ = (true, lv', st', σ')) (kk : Kt p l e R s mi args below meth c Q D cid base eP eI k s0 (pc + ln) lv' st' σ') : W p l e R s mi args below meth c H locs cells slots Q (F0 mi pc ls st) := by
  obtain ⟨⟨hx, hb, hml, hown, hts⟩, hnm, hK, hba, hk6, hfr, hlo⟩ := id hF
  obtain ⟨hL, hV, hW, hS, hX⟩ := hH
  obtain ⟨real, hd, hr⟩ := dec_of hk6 hp (by intro h; cases h)
  rcases st with _ | ⟨o, r⟩ <;> simp only [st1, Prod.mk.injEq, Bool.and_eq_true, decide_eq_true_eq, Bool.false_eq_true, false_and] at hst
  obtain ⟨⟨ha, hk⟩, rfl, rfl, rfl⟩ := hst
  obtain ⟨a, rfl⟩ := isA_of ha
  have hk : mK σ a = x / 512 := hk
  simp only [relB] at hr
  split at hr
  · simp only [Bool.and_eq_true, decide_eq_true_eq] at hr
    obtain ⟨⟨h1, h2⟩, h3⟩ := hr
    obtain rfl := beqT h1
    obtain ⟨C, U, N, ref, hv, hkN, ⟨hc1, hc13⟩, hlink, hsame⟩ := fl_ok _ h2
    obtain ⟨ty, hcw, hcty, hcnm, hcf, hckn⟩ := cls hc1 hc13 hv
    obtain ⟨q0, hq0⟩ := hW.at (a := a) (by rw [hk]; exact Nat.ne_of_gt hc1)
    rw [clf_obj hk (Nat.lt_of_le_of_lt hc13 (by decide))] at hq0
    refine va_get hx hb hts hcw hown hK hW.1 q0 hq0 hv (x / 4 % 128) hkN (hts _ hlink) ?_ (fv_get σ (by rw [hckn]; exact hkN)) hd ?_
    · rcases hsame with rfl | hs
      · exact fun _ h => h
      · exact u_same (hts _ hs)
    · rw [fv_at h3]
      exact kk ls H locs cells slots hL hV hW hS hX
  · cases hr
/-- a field is written: a final one by the constructor, or another -/
theorem put_any {own0 ref C : String} {U : u_T} {N ci index a q0 fk : Nat} {fs : List Value} {v : Value} {rest : List Value} {ty : Nat → FieldType} {tf : FieldType} (hx : p.tables.exec = Jvm.exec) {cc : ByteArray} (hb : c.code = cc) (hts : ∀ w ∈ gw, w.before args s = true) (hcw : ∀ w ∈ u_ws C U N, w ∈ gw) (hcty : ∀ k, k < N → parseFieldDescriptor (U k).2.2.1 = some (ty k)) (hcnm : ∀ a, a < N → ∀ b, b < N → a ≠ b → (U a).2.1 ≠ (U b).2.1) (hown : s.vm.findClass own0 = some mi.cls) (hK : va_K D vwCl (tyl cid) s) {ws : va_W} (hP : va_P D vwCl ws H) (hD : va_D (fun q => base ≤ q) ws) (hS : va_S (fun q => base ≤ q) s.heap H locs) (hq : ws[q0]? = some (a, .inr (ci, fs))) (hv : vwCl[ci]? = some (C, U, N)) (hk : fk < N) (hlink : (Cond.fieldLink own0 index ref (U fk).2.1 (U fk).2.2.1).before args s = true) (hsame : ∀ x, s.fieldFound? (U fk).1 (U fk).2.1 (U fk).2.2.1 = some x → s.fieldFound? ref (U fk).2.1 (U fk).2.2.1 = some x)
    (hfin : (U fk).2.2.2 = false ∨ (meth.name = "<init>" ∧ (U fk).1 = own0)) (hd : parseFieldDescriptor (U fk).2.2.1 = some tf) (hn : narrow tf v = v) (hfit : fits tf v = true) (hl : fk < fs.length) (hdg : decode cc pc = .ok (.putfield index, 3))
    (kk : ∀ (H1 : Heap) (locs1 : List Loc), va_P D vwCl (ws.set q0 (a, .inr (ci, fs.set fk v))) H1 → va_D (fun q => base ≤ q) (ws.set q0 (a, .inr (ci, fs.set fk v))) → va_S (fun q => base ≤ q) s.heap H1 locs1 → W p l e R s mi args below meth c H1 locs1 cells slots Q (F0 mi (pc + 3) ls rest)) : W p l e R s mi args below meth c H locs cells slots Q (F0 mi pc ls (v :: .ref a :: rest)) := by
  cases hf : (U fk).2.2.2 with
  | false => exact va_put hx hb hts hcw ty hcty hcnm hown hK hP hD hS q0 hq hv fk hk hlink hsame hf hd hn hfit hl hdg kk
  | true =>
    rcases hfin with h | ⟨h1, h2⟩
    · rw [hf] at h; cases h
    · exact va_putF hx hb hts hcw ty hcty hcnm hown hK hP hD hS q0 hq hv fk hk hlink hsame hf h1 h2 hd hn hfit hl hdg kk
theorem sn_putfield {x : Nat} (hF : Fx p R s mi args meth c D cid base k) (hp : pg k pc = (.putfield x, ln)) (hH : Ht s D cid base eP eI k s0 lv σ ls H locs cells slots) (hst : st1 (.putfield x) lv st σ = (true, lv', st', σ')) (kk : Kt p l e R s mi args below meth c Q D cid base eP eI k s0 (pc + ln) lv' st' σ') : W p l e R s mi args below meth c H locs cells slots Q (F0 mi pc ls st) := by
  obtain ⟨⟨hx, hb, hml, hown, hts⟩, hnm, hK, hba, hk6, hfr, hlo⟩ := id hF
  obtain ⟨hL, hV, hW, hS, hX⟩ := hH
  obtain ⟨real, hd, hr⟩ := dec_of hk6 hp (by intro h; cases h)
  rcases st with _ | ⟨v, _ | ⟨o, r⟩⟩ <;> simp only [st1, Prod.mk.injEq, Bool.and_eq_true, decide_eq_true_eq, Bool.false_eq_true, false_and] at hst
  obtain ⟨⟨⟨ha, hk⟩, hvv⟩, rfl, rfl, hσ⟩ := hst
  obtain ⟨a, rfl⟩ := isA_of ha
  have hk : mK σ a = x / 512 := hk
  simp only [relB] at hr
  split at hr
  · simp only [Bool.and_eq_true, decide_eq_true_eq] at hr
    obtain ⟨⟨⟨h1, h2⟩, h3⟩, h4⟩ := hr
    obtain rfl := beqT h1
    obtain ⟨C, U, N, ref, hv, hkN, ⟨hc1, hc13⟩, hlink, hsame⟩ := fl_ok _ h2
    dsimp only at hv hkN hc1 hc13 hlink hsame
    obtain ⟨ty, hcw, hcty, hcnm, hcf, hckn⟩ := cls hc1 hc13 hv
    obtain ⟨⟨f1, f2⟩, f3, f4, f5, -⟩ := hcf _ hkN
    have hmem : a ∈ mL σ := hW.2.2.2.2.1 a (by rw [hk]; exact Nat.ne_of_gt hc1)
    have h20 : x / 512 < 20 := Nat.lt_of_le_of_lt hc13 (by decide)
    obtain ⟨q0, hq0⟩ := hW.at (a := a) (by rw [hk]; exact Nat.ne_of_gt hc1)
    have hq1 := hq0
    rw [clf_obj hk h20] at hq0
    have hfin : (U (x / 4 % 128)).2.2.2 = false ∨ (meth.name = "<init>" ∧ (U (x / 4 % 128)).1 = own (mow k)) := by
      simp only [Bool.or_eq_true, Bool.and_eq_true, Bool.not_eq_true', decide_eq_true_eq] at h4
      rcases h4 with h4 | ⟨h4, h5⟩
      · left; rw [← f2]; exact h4
      · right
        rw [hv] at h5
        exact ⟨by rw [hnm]; exact h4, Option.some.inj h5⟩
    have hsm : ∀ x', s.fieldFound? (U (x / 4 % 128)).1 (U (x / 4 % 128)).2.1 (U (x / 4 % 128)).2.2.1 = some x' → s.fieldFound? ref (U (x / 4 % 128)).2.1 (U (x / 4 % 128)).2.2.1 = some x' := by
      rcases hsame with rfl | hs
      · exact fun _ h => h
      · exact u_same (hts _ hs)
    have go : ∀ (vv : Value), v = vv → narrow (ty (x / 4 % 128)) vv = vv → fits (ty (x / 4 % 128)) vv = true → σ'.2.2 = σ.2.2 → (∀ c' a' k', ¬ (c' = x / 512 ∧ a' = a ∧ k' = x / 4 % 128) → mI σ' c' a' k' = mI σ c' a' k') → (∀ c' a' k', ¬ (c' = x / 512 ∧ a' = a ∧ k' = x / 4 % 128) → mP σ' c' a' k' = mP σ c' a' k') → fv σ' (x / 512) a (x / 4 % 128) = vv → W p l e R s mi args below meth c H locs cells slots Q (F0 mi pc ls (v :: .ref a :: r)) := by
      intro vv hvv hn hf e1 eI' eP' hfv
      subst hvv
      refine put_any hx hb hts hcw hcty hcnm hown hK hW.1 hW.2.1 hS hq0 hv hkN (hts _ hlink) hsm hfin (hcty _ hkN) hn hf (by simp [hckn, hkN]) hd ?_
      intro H1 locs1 hP1 hD1 hS1
      have es := va_pl_set (X := []) (e := .inr (x / 512 - 1, ((List.range (kn (x / 512))).map (fv σ (x / 512) a)).set (x / 4 % 128) v)) hW.2.1 hmem hq1
      simp only [List.nil_append] at es
      rw [es] at hP1 hD1
      rw [va_pl_congr (clf_put (cid := cid) (σ' := σ') (by simp only [mK, e1]) (by simp only [mN, e1]) hk h20 eI' eP' hfv)] at hP1 hD1
      refine W.sized fun z0 z1 => ?_
      exact kk ls H1 locs1 cells slots hL hV (hW.wrote hX z0 z1 hP1 hD1 e1 (fun k' => eP' _ _ _ (fun q => by have := q.1; omega)) (fun a' k' => eI' _ _ _ (fun q => by have := q.1; omega))) hS1 (hX.wrote e1)
    rcases h3 with ⟨h3, h5⟩ | ⟨h3, h5⟩ | ⟨h3, h5⟩
    · rw [h5] at hvv hσ
      obtain ⟨y, rfl⟩ := isI_of hvv
      have ht := f3 (by rw [← f1]; exact h3)
      have hkr : kr (x / 512) (x / 4 % 128) = false := by simp [kr, h3]
      refine go (.int y) rfl (by rw [ht]; rfl) (by rw [ht]; rfl) (by rw [← hσ]; rfl) ?_ ?_ ?_
      · intro c' a' k' hne
        rw [← hσ]
        exact if_neg hne
      · intro c' a' k' hne
        rw [← hσ]; rfl
      · rw [← hσ]
        simp [fv, hkr, sI, mI, up3, vi, vd]
    · rw [h5] at hvv hσ
      simp only [Bool.and_eq_true, decide_eq_true_eq] at hvv
      obtain ⟨hi, h01⟩ := hvv
      obtain ⟨y, rfl⟩ := isI_of hi
      have h01 : y = 0 ∨ y = 1 := h01
      have ht := f4 (by rw [← f1]; exact h3)
      have hkr : kr (x / 512) (x / 4 % 128) = false := by simp [kr, h3]
      refine go (.int y) rfl (by rw [ht]; rcases h01 with rfl | rfl <;> rfl) (by rw [ht]; rcases h01 with rfl | rfl <;> rfl) (by rw [← hσ]; rfl) ?_ ?_ ?_
      · intro c' a' k' hne
        rw [← hσ]
        exact if_neg hne
      · intro c' a' k' hne
        rw [← hσ]; rfl
      · rw [← hσ]
        simp [fv, hkr, sI, mI, up3, vi, vd]
    · rw [h5] at hvv hσ
      obtain ⟨y, rfl⟩ := isR_of hvv
      have ht := f5 h3
      have hnf : narrow (ty (x / 4 % 128)) (va_rf y) = va_rf y ∧ fits (ty (x / 4 % 128)) (va_rf y) = true := by
        cases hty : ty (x / 4 % 128) <;> rw [hty] at ht <;> first | (simp [refTy] at ht; done) | (cases y <;> exact ⟨rfl, rfl⟩)
      refine go (va_rf y) rfl hnf.1 hnf.2 (by rw [← hσ]; rfl) ?_ ?_ ?_
      · intro c' a' k' hne
        rw [← hσ]; rfl
      · intro c' a' k' hne
        rw [← hσ]
        exact if_neg hne
      · rw [← hσ]
        simp [fv, h3, sP, mP, up3, vr_rf, vd]
  · cases hr
end SN2
