/-! ===== SOUNDNESS: BRANCHES ===== -/
section SN5
variable {p : Program} {l : Launch} {e : Env} {R : Room} {s : State} {mi : MethodId} {args : Array Value} {below : List Frame} {meth : Method} {c : Code} {Q : State → Prop}
variable {D : va_G} {cid : Nat → ClassId} {base : Nat} {eP : Nat → Option Nat} {eI : Nat → Nat → Int32} {k pc ln : Nat} {lv st lv' st' : List Value} {σ σ' : Mm} {ls : Array Slot} {H : Heap} {locs : List Loc} {cells slots s0 : Nat}
theorem iff_l {pc t : Nat} {ls r : List Value} {σ : Mm} {c : Prop} [Decidable c] {q : Nat × List Value × List Value × Mm} (h : iff2 pc t ls r σ c = some (.inl q)) : (c → q = (t, ls, r, σ)) ∧ (¬ c → q = (pc + 3, ls, r, σ)) := by
  unfold iff2 at h
  constructor
  · intro hc
    rw [if_pos hc] at h
    cases h; rfl
  · intro hc
    rw [if_neg hc] at h
    cases h; rfl
theorem sc_goto {t : Int} {q : Nat × List Value × List Value × Mm} (hF : Fx p R s mi args meth c D cid base k) (hp : pg k pc = (.goto t, ln)) (hH : Ht s D cid base eP eI k s0 lv σ ls H locs cells slots) (ha : act k pc lv st σ = some (.inl q)) (kk : Kt p l e R s mi args below meth c Q D cid base eP eI k s0 q.1 q.2.1 q.2.2.1 q.2.2.2) : W p l e R s mi args below meth c H locs cells slots Q (F0 mi pc ls st) := by
  obtain ⟨⟨hx, hb, hml, hown, hts⟩, hnm, hK, hba, hk6, hfr, hlo⟩ := id hF
  obtain ⟨hL, hV, hW, hS, hX⟩ := hH
  obtain ⟨real, hd, hr⟩ := dec_of hk6 hp (by intro h; cases h)
  unfold act at ha
  rw [hp] at ha
  dsimp only at ha
  simp only [relB] at hr
  split at hr
  · simp only [Bool.and_eq_true, decide_eq_true_eq] at hr
    obtain ⟨h1, h2, h3⟩ := hr
    obtain rfl := beqT h1
    cases ha
    exact lv_goto (tgt := t.toNat) hx hb hd (by rw [h2]; omega) (kk ls H locs cells slots hL hV hW hS hX)
  · cases hr
theorem sc_ifCond {cd : Jvm.ClassFile.Cond} {t : Int} {q : Nat × List Value × List Value × Mm} (hF : Fx p R s mi args meth c D cid base k) (hp : pg k pc = (.ifCond cd t, ln)) (hH : Ht s D cid base eP eI k s0 lv σ ls H locs cells slots) (ha : act k pc lv st σ = some (.inl q)) (kk : Kt p l e R s mi args below meth c Q D cid base eP eI k s0 q.1 q.2.1 q.2.2.1 q.2.2.2) : W p l e R s mi args below meth c H locs cells slots Q (F0 mi pc ls st) := by
  obtain ⟨⟨hx, hb, hml, hown, hts⟩, hnm, hK, hba, hk6, hfr, hlo⟩ := id hF
  obtain ⟨hL, hV, hW, hS, hX⟩ := hH
  obtain ⟨real, hd, hr⟩ := dec_of hk6 hp (by intro h; cases h)
  unfold act at ha
  rw [hp] at ha
  dsimp only at ha
  simp only [relB] at hr
  split at hr
  · simp only [Bool.and_eq_true, decide_eq_true_eq] at hr
    obtain ⟨h1, h2, h3, h4⟩ := hr
    obtain rfl := beqT h1
    rcases st with _ | ⟨v, r⟩
    · cases ha
    · dsimp only at ha
      cases hi : isI v with
      | false => rw [hi] at ha; cases ha
      | true =>
      rw [hi] at ha
      obtain ⟨x, rfl⟩ := isI_of hi
      dsimp only at ha
      cases cd
      · obtain rfl := h2
        exact lv_if_eq (tgt := t.toNat) hx hb hd (by rw [h3]; omega) (fun h => by rw [(iff_l ha).1 h] at kk; exact kk ls H locs cells slots hL hV hW hS hX) (fun h => by rw [(iff_l ha).2 h] at kk; exact kk ls H locs cells slots hL hV hW hS hX)
      · obtain rfl := h2
        exact lv_if_ne (tgt := t.toNat) hx hb hd (by rw [h3]; omega) (fun h => by rw [(iff_l ha).1 h] at kk; exact kk ls H locs cells slots hL hV hW hS hX) (fun h => by rw [(iff_l ha).2 (fun z => z h)] at kk; exact kk ls H locs cells slots hL hV hW hS hX)
      · obtain rfl := h2
        exact lv_if_lt (tgt := t.toNat) hx hb hd (by rw [h3]; omega) (fun h => by rw [(iff_l ha).1 h] at kk; exact kk ls H locs cells slots hL hV hW hS hX) (fun h => by rw [(iff_l ha).2 h] at kk; exact kk ls H locs cells slots hL hV hW hS hX)
      · obtain rfl := h2
        exact lv_if_ge (tgt := t.toNat) hx hb hd (by rw [h3]; omega) (fun h => by rw [(iff_l ha).1 h] at kk; exact kk ls H locs cells slots hL hV hW hS hX) (fun h => by rw [(iff_l ha).2 h] at kk; exact kk ls H locs cells slots hL hV hW hS hX)
      · obtain rfl := h2
        exact lv_if_gt (tgt := t.toNat) hx hb hd (by rw [h3]; omega) (fun h => by rw [(iff_l ha).1 h] at kk; exact kk ls H locs cells slots hL hV hW hS hX) (fun h => by rw [(iff_l ha).2 h] at kk; exact kk ls H locs cells slots hL hV hW hS hX)
      · obtain rfl := h2
        exact lv_if_le (tgt := t.toNat) hx hb hd (by rw [h3]; omega) (fun h => by rw [(iff_l ha).1 h] at kk; exact kk ls H locs cells slots hL hV hW hS hX) (fun h => by rw [(iff_l ha).2 h] at kk; exact kk ls H locs cells slots hL hV hW hS hX)
  · cases hr
theorem sc_if_icmp {cd : Jvm.ClassFile.Cond} {t : Int} {q : Nat × List Value × List Value × Mm} (hF : Fx p R s mi args meth c D cid base k) (hp : pg k pc = (.if_icmp cd t, ln)) (hH : Ht s D cid base eP eI k s0 lv σ ls H locs cells slots) (ha : act k pc lv st σ = some (.inl q)) (kk : Kt p l e R s mi args below meth c Q D cid base eP eI k s0 q.1 q.2.1 q.2.2.1 q.2.2.2) : W p l e R s mi args below meth c H locs cells slots Q (F0 mi pc ls st) := by
  obtain ⟨⟨hx, hb, hml, hown, hts⟩, hnm, hK, hba, hk6, hfr, hlo⟩ := id hF
  obtain ⟨hL, hV, hW, hS, hX⟩ := hH
  obtain ⟨real, hd, hr⟩ := dec_of hk6 hp (by intro h; cases h)
  unfold act at ha
  rw [hp] at ha
  dsimp only at ha
  simp only [relB] at hr
  split at hr
  · simp only [Bool.and_eq_true, decide_eq_true_eq] at hr
    obtain ⟨h1, h2, h3, h4⟩ := hr
    obtain rfl := beqT h1
    rcases st with _ | ⟨y, _ | ⟨x, r⟩⟩
    · cases ha
    · cases ha
    · dsimp only at ha
      cases hi : (isI x && isI y) with
      | false => rw [hi] at ha; cases ha
      | true =>
      rw [hi] at ha
      obtain ⟨hi1, hi2⟩ := (Bool.and_eq_true _ _).mp hi
      obtain ⟨x, rfl⟩ := isI_of hi1
      obtain ⟨y, rfl⟩ := isI_of hi2
      dsimp only at ha
      cases cd
      · obtain rfl := h2
        exact lv_icmp_eq (tgt := t.toNat) hx hb hd (by rw [h3]; omega) (fun h => by rw [(iff_l ha).1 h] at kk; exact kk ls H locs cells slots hL hV hW hS hX) (fun h => by rw [(iff_l ha).2 h] at kk; exact kk ls H locs cells slots hL hV hW hS hX)
      · obtain rfl := h2
        exact lv_icmp_ne (tgt := t.toNat) hx hb hd (by rw [h3]; omega) (fun h => by rw [(iff_l ha).1 h] at kk; exact kk ls H locs cells slots hL hV hW hS hX) (fun h => by rw [(iff_l ha).2 (fun z => z h)] at kk; exact kk ls H locs cells slots hL hV hW hS hX)
      · obtain rfl := h2
        exact lv_icmp_lt (tgt := t.toNat) hx hb hd (by rw [h3]; omega) (fun h => by rw [(iff_l ha).1 h] at kk; exact kk ls H locs cells slots hL hV hW hS hX) (fun h => by rw [(iff_l ha).2 h] at kk; exact kk ls H locs cells slots hL hV hW hS hX)
      · obtain rfl := h2
        exact lv_icmp_ge (tgt := t.toNat) hx hb hd (by rw [h3]; omega) (fun h => by rw [(iff_l ha).1 h] at kk; exact kk ls H locs cells slots hL hV hW hS hX) (fun h => by rw [(iff_l ha).2 h] at kk; exact kk ls H locs cells slots hL hV hW hS hX)
      · obtain rfl := h2
        exact lv_icmp_gt (tgt := t.toNat) hx hb hd (by rw [h3]; omega) (fun h => by rw [(iff_l ha).1 h] at kk; exact kk ls H locs cells slots hL hV hW hS hX) (fun h => by rw [(iff_l ha).2 h] at kk; exact kk ls H locs cells slots hL hV hW hS hX)
      · obtain rfl := h2
        exact lv_icmp_le (tgt := t.toNat) hx hb hd (by rw [h3]; omega) (fun h => by rw [(iff_l ha).1 h] at kk; exact kk ls H locs cells slots hL hV hW hS hX) (fun h => by rw [(iff_l ha).2 h] at kk; exact kk ls H locs cells slots hL hV hW hS hX)
  · cases hr
theorem sc_if_acmp {cd : ACond} {t : Int} {q : Nat × List Value × List Value × Mm} (hF : Fx p R s mi args meth c D cid base k) (hp : pg k pc = (.if_acmp cd t, ln)) (hH : Ht s D cid base eP eI k s0 lv σ ls H locs cells slots) (ha : act k pc lv st σ = some (.inl q)) (kk : Kt p l e R s mi args below meth c Q D cid base eP eI k s0 q.1 q.2.1 q.2.2.1 q.2.2.2) : W p l e R s mi args below meth c H locs cells slots Q (F0 mi pc ls st) := by
  obtain ⟨⟨hx, hb, hml, hown, hts⟩, hnm, hK, hba, hk6, hfr, hlo⟩ := id hF
  obtain ⟨hL, hV, hW, hS, hX⟩ := hH
  obtain ⟨real, hd, hr⟩ := dec_of hk6 hp (by intro h; cases h)
  unfold act at ha
  rw [hp] at ha
  dsimp only at ha
  simp only [relB] at hr
  split at hr
  · simp only [Bool.and_eq_true, decide_eq_true_eq] at hr
    obtain ⟨h1, h2, h3, h4⟩ := hr
    obtain rfl := beqT h1
    rcases st with _ | ⟨y, _ | ⟨x, r⟩⟩
    · cases ha
    · cases ha
    · dsimp only at ha
      cases hi : (isR x && isR y) with
      | false => rw [hi] at ha; cases ha
      | true =>
      rw [hi, if_pos rfl] at ha
      obtain ⟨hi1, hi2⟩ := (Bool.and_eq_true _ _).mp hi
      obtain ⟨x, rfl⟩ := isR_of hi1
      obtain ⟨y, rfl⟩ := isR_of hi2
      simp only [vr_rf] at ha
      cases cd
      · obtain rfl := h2
        exact lv_acmp_eq (tgt := t.toNat) hx hb hd (by rw [h3]; omega) (fun h => by rw [(iff_l ha).1 h] at kk; exact kk ls H locs cells slots hL hV hW hS hX) (fun h => by rw [(iff_l ha).2 h] at kk; exact kk ls H locs cells slots hL hV hW hS hX)
      · obtain rfl := h2
        exact lv_acmp_ne (tgt := t.toNat) hx hb hd (by rw [h3]; omega) (fun h => by rw [(iff_l ha).1 h] at kk; exact kk ls H locs cells slots hL hV hW hS hX) (fun h => by rw [(iff_l ha).2 (fun z => z h)] at kk; exact kk ls H locs cells slots hL hV hW hS hX)
  · cases hr
theorem sc_ifnull {t : Int} {q : Nat × List Value × List Value × Mm} (hF : Fx p R s mi args meth c D cid base k) (hp : pg k pc = (.ifnull t, ln)) (hH : Ht s D cid base eP eI k s0 lv σ ls H locs cells slots) (ha : act k pc lv st σ = some (.inl q)) (kk : Kt p l e R s mi args below meth c Q D cid base eP eI k s0 q.1 q.2.1 q.2.2.1 q.2.2.2) : W p l e R s mi args below meth c H locs cells slots Q (F0 mi pc ls st) := by
  obtain ⟨⟨hx, hb, hml, hown, hts⟩, hnm, hK, hba, hk6, hfr, hlo⟩ := id hF
  obtain ⟨hL, hV, hW, hS, hX⟩ := hH
  obtain ⟨real, hd, hr⟩ := dec_of hk6 hp (by intro h; cases h)
  unfold act at ha
  rw [hp] at ha
  dsimp only at ha
  simp only [relB] at hr
  split at hr
  · simp only [Bool.and_eq_true, decide_eq_true_eq] at hr
    obtain ⟨h1, h2, h3⟩ := hr
    obtain rfl := beqT h1
    rcases st with _ | ⟨x, r⟩
    · cases ha
    · dsimp only at ha
      cases hi : isR x with
      | false => rw [hi] at ha; cases ha
      | true =>
      rw [hi, if_pos rfl] at ha
      obtain ⟨x, rfl⟩ := isR_of hi
      simp only [vr_rf] at ha
      cases x with
      | none => exact lv_ifnullN (tgt := t.toNat) hx hb hd (by rw [h2]; omega) (by rw [(iff_l ha).1 rfl] at kk; exact kk ls H locs cells slots hL hV hW hS hX)
      | some w => exact lv_ifnull hx hb hd (by rw [(iff_l ha).2 (by intro z; cases z)] at kk; exact kk ls H locs cells slots hL hV hW hS hX)
  · cases hr
theorem sc_ifnonnull {t : Int} {q : Nat × List Value × List Value × Mm} (hF : Fx p R s mi args meth c D cid base k) (hp : pg k pc = (.ifnonnull t, ln)) (hH : Ht s D cid base eP eI k s0 lv σ ls H locs cells slots) (ha : act k pc lv st σ = some (.inl q)) (kk : Kt p l e R s mi args below meth c Q D cid base eP eI k s0 q.1 q.2.1 q.2.2.1 q.2.2.2) : W p l e R s mi args below meth c H locs cells slots Q (F0 mi pc ls st) := by
  obtain ⟨⟨hx, hb, hml, hown, hts⟩, hnm, hK, hba, hk6, hfr, hlo⟩ := id hF
  obtain ⟨hL, hV, hW, hS, hX⟩ := hH
  obtain ⟨real, hd, hr⟩ := dec_of hk6 hp (by intro h; cases h)
  unfold act at ha
  rw [hp] at ha
  dsimp only at ha
  simp only [relB] at hr
  split at hr
  · simp only [Bool.and_eq_true, decide_eq_true_eq] at hr
    obtain ⟨h1, h2, h3⟩ := hr
    obtain rfl := beqT h1
    rcases st with _ | ⟨x, r⟩
    · cases ha
    · dsimp only at ha
      cases hi : isR x with
      | false => rw [hi] at ha; cases ha
      | true =>
      rw [hi, if_pos rfl] at ha
      obtain ⟨x, rfl⟩ := isR_of hi
      simp only [vr_rf] at ha
      cases x with
      | none => exact lv_ifnonnullN hx hb hd (by rw [(iff_l ha).2 (fun z => z rfl)] at kk; exact kk ls H locs cells slots hL hV hW hS hX)
      | some w => exact lv_ifnonnull (tgt := t.toNat) hx hb hd (by rw [h2]; omega) (by rw [(iff_l ha).1 (by intro z; cases z)] at kk; exact kk ls H locs cells slots hL hV hW hS hX)
  · cases hr
theorem sc_tableswitch {df lo hi : Int} {offs : Array Int} {q : Nat × List Value × List Value × Mm} (hF : Fx p R s mi args meth c D cid base k) (hp : pg k pc = (.tableswitch df lo hi offs, ln)) (hH : Ht s D cid base eP eI k s0 lv σ ls H locs cells slots) (ha : act k pc lv st σ = some (.inl q)) (kk : Kt p l e R s mi args below meth c Q D cid base eP eI k s0 q.1 q.2.1 q.2.2.1 q.2.2.2) : W p l e R s mi args below meth c H locs cells slots Q (F0 mi pc ls st) := by
  obtain ⟨⟨hx, hb, hml, hown, hts⟩, hnm, hK, hba, hk6, hfr, hlo⟩ := id hF
  obtain ⟨hL, hV, hW, hS, hX⟩ := hH
  obtain ⟨real, hd, hr⟩ := dec_of hk6 hp (by intro h; cases h)
  unfold act at ha
  rw [hp] at ha
  dsimp only at ha
  simp only [relB] at hr
  split at hr
  · rename_i df' lo' hi' offs'
    simp only [decide_eq_true_eq] at hr
    obtain ⟨h1, h2, rfl, rfl, h3, h4⟩ := hr
    rcases st with _ | ⟨v, r⟩
    · cases ha
    · dsimp only at ha
      cases hi0 : isI v with
      | false => rw [hi0] at ha; cases ha
      | true =>
      rw [hi0] at ha
      obtain ⟨x, rfl⟩ := isI_of hi0
      dsimp only at ha
      split at ha
      · rename_i ho
        have ho : x.toInt < lo' ∨ hi' < x.toInt := ho
        cases ha
        exact lv_tableOut (tgt := df.toNat) hx hb hd ho (by rw [h1]; omega) (kk ls H locs cells slots hL hV hW hS hX)
      · rename_i ho
        have ho : ¬ (x.toInt < lo' ∨ hi' < x.toInt) := ho
        dsimp only [vi] at ha
        cases hq : offs.toList[(x.toInt - lo').toNat]? with
        | none => rw [hq] at ha; cases ha
        | some t =>
          rw [hq] at ha
          cases ha
          have hpos : 0 ≤ t := h4 t (List.mem_of_getElem? hq)
          rw [h3, List.getElem?_map] at hq
          cases hq2 : offs'.toList[(x.toInt - lo').toNat]? with
          | none => rw [hq2] at hq; cases hq
          | some off =>
            rw [hq2] at hq
            have hq : (pc : Int) + off = t := Option.some.inj hq
            exact lv_tableIn (tgt := t.toNat) hx hb hd (fun z => ho (Or.inl z)) (fun z => ho (Or.inr z)) (by rw [← Array.getElem?_toList]; exact hq2) (by rw [hq]; omega) (kk ls H locs cells slots hL hV hW hS hX)
  · cases hr
end SN5
