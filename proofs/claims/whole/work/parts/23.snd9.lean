theorem rm_arith {d F L m : Nat} (h1 : d + 1 + 12 ≤ F) (h2 : 64 * (d + 1) + 1000 ≤ L) (h3 : m ≤ 45) : d + 12 + 1 ≤ F ∧ 8 + (m + 11) + (64 * d + 1000) ≤ L := by omega
section SN9
variable {p : Program} {l : Launch} {e : Env} {R : Room} {s : State} {mi : MethodId} {args : Array Value} {below : List Frame} {meth : Method} {c : Code} {Q : State → Prop}
variable {D : va_G} {cid : Nat → ClassId} {base : Nat} {eP : Nat → Option Nat} {eI : Nat → Nat → Int32} {Od : State → Prop} {k pc ln : Nat} {lv st lv' st' : List Value} {σ σ' : Mm} {ls : Array Slot} {H : Heap} {locs : List Loc} {cells slots s0 : Nat}
/-- a call of a method whose contract is there -/
theorem sn_call (hOd : OdOk base Od) {y d : Nat} {v : Option Value} (hF : Fx p R s mi args meth c D cid base k) (hO : Od s) (hp : pg k pc = (.invokevirtual y, ln)) (hH : Ht s D cid base eP eI k s0 lv σ ls H locs cells slots) (hlv : lv.length = mml k) (hfr : d + 1 + 12 ≤ R.frames) (hlo : 64 * (d + 1) + 1000 ≤ R.locals) (hc : cok y (st.take (mna y)).reverse (st.drop (mna y)) σ = true) (hgr : Gr σ σ') (hRm : Rm R s s0 σ')
    (hM : y < 196 → Met l (myn y) (Cond.code (myn y) (mby y) (mml y) (mre y) :: gw) { frames := d + 12, cells := mX σ' - mX σ, slots := mS σ' - mS σ, locals := 64 * d + 1000 } (va_Pc (st.take (mna y)).reverse (Wst D cid base eP eI Od σ)) (Qg D cid base eP eI v σ') (mX σ' - mX σ) (mS σ' - mS σ) (fun q => base ≤ q))
    (kk : Kt p l e R s mi args below meth c Q D cid base eP eI k s0 (pc + ln) lv (psh v (st.drop (mna y))) σ') : W p l e R s mi args below meth c H locs cells slots Q (F0 mi pc ls st) := by
  obtain ⟨⟨hx, hb, hml, hown, hts⟩, hnm, hK, hba, hk6, -, -⟩ := id hF
  obtain ⟨hL, hV, hW, hS, hX⟩ := hH
  obtain ⟨real, hd, hr⟩ := dec_of hk6 hp (by intro h; cases h)
  obtain ⟨c1, c2, c3, c4, c5⟩ := cok_of hc
  have hst : st = (st.take (mna y)).reverse.reverse ++ st.drop (mna y) := by rw [List.reverse_reverse, List.take_append_drop]
  generalize has : (st.take (mna y)).reverse = as at hc hM c1 c4 c5 hst
  generalize hrr : st.drop (mna y) = r at hc kk hst c2
  have hx1 := hX.1
  have hx2 := hX.2.1
  have hr1 := hRm.1
  have hr2 := hRm.2
  have hg1 := hgr.1
  have hg2 := hgr.2.1
  have hcel : cells + (mX σ' - mX σ) ≤ R.cells ∧ slots + (mS σ' - mS σ) ≤ R.slots := ⟨by omega, by omega⟩
  have hX' : Hx s s0 (cells + (mX σ' - mX σ)) (slots + (mS σ' - mS σ)) σ' := ⟨by omega, by omega, fun a h1 h2 => by
    by_cases h : a < mX σ
    · exact hgr.2.2.1 a (hX.2.2 a h1 h)
    · exact hgr.2.2.2 a (by omega) h2⟩
  have hsz : (F0 mi pc ls st).locals.size = mml k := by show ls.size = _; rw [hL.1]; exact hlv
  have hWr : 2 * (F0 mi pc ls st).monitorRoom + (r.map fun v => v.category).sum ≤ 8 := by show 2 * 0 + _ ≤ 8; omega
  have hmr : ∀ (hy : y < 196), d + 12 + 1 ≤ R.frames ∧ 8 + (mml y + 11) + (64 * d + 1000) ≤ R.locals := fun hy => by
    obtain ⟨-, -, -, -, ⟨h45, -⟩, -⟩ := mok y hy
    exact rm_arith hfr hlo h45
  have hpn : mrk y = 0 → as.length = mpn y := fun h => by rw [c1]; simp only [mpn, h]
  have hpn2 : ∀ (b : Nat) (As : List Value), mrk y ≠ 0 → as = .ref b :: As → As.length = mpn y := fun b As h ha => by
    have : as.length = As.length + 1 := by rw [ha]; rfl
    unfold mpn
    split
    · rename_i h0; exact absurd h0 h
    · omega
  have hS5 : CallFix p mi c (mby k) (mml k) s args gw (own (mow k)) := ⟨hx, hb, hml, hown, hts⟩
  have go3 : ∀ {st0 : List Value} {a : Array Value}, ln = 3 → va_Run p l e R s mi args below meth c H locs cells slots (mX σ' - mX σ) (mS σ' - mS σ) (F0 mi pc ls st0) r (Qg D cid base eP eI v σ' a) (fun q => base ≤ q) → W p l e R s mi args below meth c H locs cells slots Q (F0 mi pc ls st0) := by
    intro st0 a hl hrun
    subst hl
    exact callG hrun hS fun H1 locs1 hW1 hS1 => kk ls H1 locs1 _ _ hL hV hW1 hS1 hX'
  have hcb : ∀ (i : Nat) (hy : y < 196), Cond.methodLink (own (mow k)) i (myn y) ∈ gw → CallB R s args (own (mow k)) i (myn y) (mby y) (mml y) (mre y) (Cond.code (myn y) (mby y) (mml y) (mre y) :: gw) { frames := d + 12, cells := mX σ' - mX σ, slots := mS σ' - mS σ, locals := 64 * d + 1000 } (mX σ' - mX σ) (mS σ' - mS σ) (mpn y) := fun i hy hl => by
    obtain ⟨m1, m2, -, m4, -, -⟩ := mok y hy
    exact callB_of (mpn y) hts (gw_c m1) rfl rfl rfl (hts _ m2) (hts _ hl) m4 (hmr hy)
  have hpre : ∀ U : State, U.heap = H → s.WarmedH U.vm → va_Pc as (Wst D cid base eP eI Od σ) as.toArray U := fun U hU hw => Wst.pre hOd hW hK hO hba hS U hU hw
  have hcn : ∀ (i : Nat) (hy : y < 196), va_Nw (.methodLinkNest (own (mow k)) i (myn y) "HullLine") s → va_CN R s args (own (mow k)) i (myn y) "HullLine" (mby y) (mml y) (mre y) (Cond.code (myn y) (mby y) (mml y) (mre y) :: gw) { frames := d + 12, cells := mX σ' - mX σ, slots := mS σ' - mS σ, locals := 64 * d + 1000 } (mX σ' - mX σ) (mS σ' - mS σ) (mpn y) := fun i hy hl => by
    obtain ⟨m1, m2, -, m4, -, -⟩ := mok y hy
    exact va_cnB (mpn y) hts (gw_c m1) rfl rfl rfl hl (hts _ m2) m4 (hmr hy)
  have hFc := hOd.2.2 s hO
  simp only [relB] at hr
  split at hr
  · simp only [Bool.and_eq_true, decide_eq_true_eq] at hr
    obtain ⟨hl3, h2⟩ := hr
    obtain ⟨hy, l1, l2, l3, l4, l5, l6⟩ := ml_ok _ h2
    have hy : y < 196 := hy
    have l5 : 1 ≤ mrk y := l5
    have l6 : mrk y ≤ 13 := l6
    rcases c4 with h0 | ⟨b, As, rfl, hb2⟩
    · exact absurd h0 (Nat.ne_of_gt l5)
    · obtain ⟨r0, hr0⟩ : ∃ r0, vwCl[mrk y - 1]? = some r0 := ⟨_, List.getElem?_eq_getElem (by show _ < 13; omega)⟩
      have hcl : r0.1 = (myn y).cls := by rw [hr0] at l4; exact Option.some.inj l4
      have hrec := recv_of_kind hK hW hb2 l5 l6 hr0
      rw [hcl] at hrec
      refine go3 (beqT hl3) (va_runV (As := As) (b := b) hS5 (hM hy) ⟨hcb _ hy l1, hts _ l2, hts _ l3⟩ ⟨Wst.blind hOd, hrec, hpre⟩ rfl (hpn2 b As (Nat.ne_of_gt l5) rfl) hsz ?_ hWr (by obtain rfl := beqT hl3; exact hd) hcel)
      show st = _
      rw [hst]
      simp
  · simp only [Bool.and_eq_true, Bool.or_eq_true, decide_eq_true_eq] at hr
    obtain ⟨hl3, h2⟩ := hr
    rcases h2 with h2 | h2
    · obtain ⟨hy, l1, l2, l3⟩ := ml_ok _ h2
      have hy : y < 196 := hy
      refine go3 (beqT hl3) (va_runS (As := as) hS5 (hM hy) ⟨hcb _ hy l1, hts _ l2⟩ ⟨Wst.blind hOd, hpre⟩ rfl (hpn l3) hsz hst hWr (by obtain rfl := beqT hl3; exact hd) hcel)
    · have h3 := hFc.2.1 _ h2 (Or.inl rfl)
      obtain ⟨hy, -, l2, l3⟩ := ml_ok _ h2
      have hy : y < 196 := hy
      refine go3 (beqT hl3) (va_runSN (As := as) hS5 (hM hy) ⟨hcn _ hy h3, hts _ l2, trivial⟩ ⟨Wst.blind hOd, hpre⟩ rfl (hpn l3) hsz hst hWr (by obtain rfl := beqT hl3; exact hd) hcel)
  · simp only [Bool.and_eq_true, Bool.or_eq_true, decide_eq_true_eq] at hr
    obtain ⟨hl3, h2⟩ := hr
    rcases h2 with h2 | h2
    · obtain ⟨hy, l1, l2, l3, l4, l5⟩ := ml_ok _ h2
      have hy : y < 196 := hy
      rcases c4 with h0 | ⟨b, As, rfl, hb2⟩
      · exact absurd h0 l4
      · have hM2 := hM hy
        have hcb2 := hcb _ hy l1
        have l5 : mre y = none := l5
        rw [l5] at hM2 hcb2
        refine go3 (beqT hl3) (va_runI (As := As) (b := b) hS5 hM2 ⟨hcb2, l3, hts _ l2⟩ ⟨Wst.blind hOd, hpre⟩ rfl (hpn2 b As l4 rfl) hsz ?_ hWr (by obtain rfl := beqT hl3; exact hd) hcel)
        show st = _
        rw [hst]
        simp
    · have h3 := hFc.2.1 _ h2 (Or.inr rfl)
      obtain ⟨hy, -, l2, l3, l4, l5⟩ := ml_ok _ h2
      have hy : y < 196 := hy
      rcases c4 with h0 | ⟨b, As, rfl, hb2⟩
      · exact absurd h0 l4
      · have hM2 := hM hy
        have hcb2 := hcn _ hy h3
        have l5 : mre y = none := l5
        rw [l5] at hM2 hcb2
        refine go3 (beqT hl3) (va_runIN (As := As) (b := b) hS5 hM2 ⟨hcb2, l3, hts _ l2⟩ ⟨Wst.blind hOd, hpre⟩ rfl (hpn2 b As l4 rfl) hsz ?_ hWr (by obtain rfl := beqT hl3; exact hd) hcel)
        show st = _
        rw [hst]
        simp
  · simp only [Bool.and_eq_true, decide_eq_true_eq] at hr
    obtain ⟨hl5, h2⟩ := hr
    have h3 := hFc.2.2 _ h2 rfl
    obtain ⟨hy, l1, l2, l3, l4, -⟩ := ml_ok _ h2
    have hy : y < 196 := hy
    have l4 : mrk y = 1 := l4
    obtain ⟨m1, m2, -, m4, -, -⟩ := mok y hy
    rcases c4 with h0 | ⟨b, As, rfl, hb2⟩
    · omega
    · have hrec := recv_of_kind hK hW hb2 (by omega) (by omega) (r0 := (RJx4a65c, TJx4a65c, 3)) (by rw [l4]; rfl)
      have hKn := hK.1 0 _ rfl
      have hgd : GoodIn gw (va_wsF (own (mow k)) _ "java/util/ArrayList" (lin y) (myn y) (Cond.code (myn y) (mby y) (mml y) (mre y) :: gw)) := fun w hw => by
        rcases List.mem_append.mp hw with h | h
        · simp only [List.mem_cons, List.not_mem_nil, or_false] at h
          rcases h with rfl | rfl | rfl | rfl
          · exact gw_in _ l1
          · exact gw_in _ l3
          · exact gw_in _ l2
          · exact gw_in _ m2
        · exact gw_c m1 w h
      have hci := va_cwF (R := R) (s := s) (args := args) (rm := { frames := d + 12, cells := mX σ' - mX σ, slots := mS σ' - mS σ, locals := 64 * d + 1000 }) (mpn y) hts hgd rfl rfl rfl h3 ⟨by show "java/util/List" ≠ _; decide, by show "java/util/List" ≠ _; decide, m4.2.2⟩ (hmr hy)
      obtain rfl := beqT hl5
      refine callG5 (va_runF (As := As) (b := b) hKn.2 hS5 (hM hy) hci ⟨Wst.blind hOd, hrec, hpre⟩ rfl (hpn2 b As (by omega) rfl) hsz ?_ hWr hd hcel) hS fun H1 locs1 hW1 hS1 => kk ls H1 locs1 _ _ hL hV hW1 hS1 hX'
      show st = _
      rw [hst]
      simp
  · cases hr
theorem snd_all (hSp : SpOk l D cid base eP eI Od) (hOd : OdOk base Od) (n : Nat) : Snd l D cid base eP eI Od n := by
  induction n with
  | zero => intro d k pc lv st σ v σ' hex; simp [ex] at hex
  | succ n IH =>
    intro d k pc lv st σ v σ' hex p e R s mi args below meth c Q ls H locs cells slots s0 hF hO hH hlv hfr hlo hR kR
    rw [ex] at hex
    cases hq : act k pc lv st σ with
    | none => rw [hq] at hex; cases hex
    | some q =>
      rw [hq] at hex
      rcases q with q | q | w
      · have hg := ex_gr n _ _ _ _ _ _ _ _ hex
        refine sn_act hSp hOd hF hO hH hq ⟨Nat.le_trans hg.1 hR.1, Nat.le_trans hg.2.1 hR.2⟩ hlv ?_
        intro ls' H' locs' cells' slots' hL' hV' hW' hS' hX'
        exact IH _ _ _ _ _ _ _ _ hex p e R s mi args below meth c Q ls' H' locs' cells' slots' s0 hF hO ⟨hL', hV', hW', hS', hX'⟩ ((act_gr hq).2.trans hlv) hfr hlo hR kR
      · obtain ⟨y, as, pc', r⟩ := q
        obtain ⟨a1, a2, a3, a4⟩ := act_call hq
        dsimp only at a1 a2 a3 a4 hex
        cases d with
        | zero => cases hex
        | succ d =>
          dsimp only at hex
          cases hc : cok y as r σ with
          | false => rw [hc] at hex; cases hex
          | true =>
            rw [hc] at hex
            dsimp only at hex
            cases hz : ex n d y 0 (clo y as) [] σ with
            | none => rw [hz] at hex; cases hex
            | some z =>
              obtain ⟨zv, zσ⟩ := z
              rw [hz] at hex
              dsimp only at hex
              have hg1 := ex_gr n _ _ _ _ _ _ _ _ hz
              have hg2 := ex_gr n _ _ _ _ _ _ _ _ hex
              cases hp : pg k pc with
              | mk i ln =>
              rw [hp] at a1 a3
              dsimp only at a1 a3
              subst a1; subst a2; subst a3; subst a4
              refine sn_call hOd (v := zv) (σ' := zσ) hF hO hp hH hlv hfr hlo hc hg1 ⟨Nat.le_trans hg2.1 hR.1, Nat.le_trans hg2.2.1 hR.2⟩ (fun hy => met_of hOd IH hy hz hc) ?_
              intro ls' H' locs' cells' slots' hL' hV' hW' hS' hX'
              exact IH _ _ _ _ _ _ _ _ hex p e R s mi args below meth c Q ls' H' locs' cells' slots' s0 hF hO ⟨hL', hV', hW', hS', hX'⟩ hlv hfr hlo hR kR
      · cases hex
        obtain ⟨hL, hV, hW, hS, hX⟩ := hH
        exact kR pc lv st ls H locs cells slots hq hL hW hS hX
/-- THE CONTRACT OF A METHOD OUT OF ITS RUN: from a memory, with arguments, it returns v with a memory behind -/
theorem met_run (hSp : SpOk l D cid base eP eI Od) (hOd : OdOk base Od) {d : Nat} {as r : List Value} {v : Option Value} (hk : k < 196) (hex : run d k 0 (clo k as) [] σ = some (v, σ')) (hc : cok k as r σ = true) :
    Met l (myn k) (Cond.code (myn k) (mby k) (mml k) (mre k) :: gw) { frames := d + 12, cells := mX σ' - mX σ, slots := mS σ' - mS σ, locals := 64 * d + 1000 } (va_Pc as (Wst D cid base eP eI Od σ)) (Qg D cid base eP eI v σ') (mX σ' - mX σ) (mS σ' - mS σ) (fun q => base ≤ q) := by
  obtain ⟨n, hn⟩ := run_iff.mp hex
  exact met_of hOd (snd_all hSp hOd n) hk hn hc
end SN9
