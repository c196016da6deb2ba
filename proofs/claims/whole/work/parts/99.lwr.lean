/-! ===== ROWS OF THE LAW: A CALL ===== -/
theorem rm_arit2 {d F L m : Nat} (h1 : d + 13 ≤ F) (h2 : 64 * d + 1064 ≤ L) (h3 : m ≤ 45) : d + 12 + 1 ≤ F ∧ 8 + (m + 11) + (64 * d + 1000) ≤ L := by omega
section L99
variable {p : Program} {l : Launch} {e : Jvm.Env} {R : Room} {s : State} {m : MethodId} {args : Array Value} {below : List Frame} {meth : Method} {c : Code} {Q : State → Prop}
variable {D : va_G} {cid : Nat → ClassId} {base : Nat} {eP : Nat → Option Nat} {eI : Nat → Nat → Int32} {Od : State → Prop} {pc : Nat} {st r : List Value} {σ σ' : Mm} {ls : Array Slot} {H : Heap} {locs : List Loc} {cells slots : Nat} {cc : ByteArray} {nL : Nat} {ow : String}
/-- a method of the table called from code that isn't in it -/
theorem lw_call (hSp : SpOk l D cid base eP eI Od) (hOd : OdOk base Od) {y d idx b0 : Nat} {As : List Value} {v : Option Value} (S5 : CallFix p m c cc nL s args gw ow) (hK : va_K D vwCl (tyl cid) s) (hO : Od s) (hba : base ≤ s.heap.size) (hW : Wh D cid base eP eI σ H) (hS : va_S (fun q => base ≤ q) s.heap H locs) (hsz : ls.size = nL) (hy : y < 196) (hlk : Cond.methodLink ow idx (myn y) ∈ gw) (hin : Cond.instanceMethod (myn y) ∈ gw) (hse : Cond.selects (myn y).cls (myn y) (myn y) ∈ gw) (hrk : 1 ≤ mrk y) (hcl : (vwCl[mrk y - 1]?).map (fun q => q.1) = some (myn y).cls) (hrun : runc d y (.ref b0 :: As) σ = some (v, σ')) (hc : cok y (.ref b0 :: As) r σ = true) (hfr : d + 13 ≤ R.frames) (hlo : 64 * d + 1064 ≤ R.locals) (hce : cells + (mX σ' - mX σ) ≤ R.cells ∧ slots + (mS σ' - mS σ) ≤ R.slots) (hst : st = As.reverse ++ .ref b0 :: r) (hd : decode cc pc = .ok (.invokevirtual idx, 3))
    (kk : ∀ (H1 : Heap) (locs1 : List Loc), Wh D cid base eP eI σ' H1 → va_S (fun q => base ≤ q) s.heap H1 locs1 → W p l e R s m args below meth c H1 locs1 (cells + (mX σ' - mX σ)) (slots + (mS σ' - mS σ)) Q (F0 m (pc + 3) ls (psh v r))) : W p l e R s m args below meth c H locs cells slots Q (F0 m pc ls st) := by
  obtain ⟨c1, c2, c3, c4, c5⟩ := cok_of hc
  obtain ⟨m1, m2, -, m4, ⟨h45, -, -, h13⟩, -⟩ := mok y hy
  have hb0 : mK σ b0 = mrk y := by
    rcases c4 with h0 | ⟨b, As', h, hb⟩
    · omega
    · cases h; exact hb
  obtain ⟨r0, hr0⟩ : ∃ r0, vwCl[mrk y - 1]? = some r0 := ⟨_, List.getElem?_eq_getElem (by show _ < 13; omega)⟩
  have hcl2 : r0.1 = (myn y).cls := by rw [hr0] at hcl; exact Option.some.inj hcl
  have hrec := recv_of_kind hK hW hb0 hrk h13 hr0
  rw [hcl2] at hrec
  have hn2 : As.length = mpn y := by
    have : As.length + 1 = mna y := c1
    unfold mpn
    split
    · rename_i h0; omega
    · omega
  exact callG (va_runV (As := As) (b := b0) S5 (met_run hSp hOd hy hrun hc) ⟨callB_of (mpn y) S5.2.2.2.2 (gw_c m1) rfl rfl rfl (S5.2.2.2.2 _ m2) (S5.2.2.2.2 _ hlk) m4 (rm_arit2 hfr hlo h45), S5.2.2.2.2 _ hin, S5.2.2.2.2 _ hse⟩ ⟨Wst.blind hOd, hrec, fun U hU hw => Wst.pre hOd hW hK hO hba hS U hU hw⟩ rfl hn2 hsz hst (by show 2 * 0 + _ ≤ 8; omega) hd hce) hS kk
/-- a constructor -/
theorem lw_make (hSp : SpOk l D cid base eP eI Od) (hOd : OdOk base Od) {y d idx b0 : Nat} {v : Option Value} (S5 : CallFix p m c cc nL s args gw ow) (hK : va_K D vwCl (tyl cid) s) (hO : Od s) (hba : base ≤ s.heap.size) (hW : Wh D cid base eP eI σ H) (hS : va_S (fun q => base ≤ q) s.heap H locs) (hsz : ls.size = nL) (hy : y < 196) (hlk : Cond.methodLink ow idx (myn y) ∈ gw) (hin : Cond.instanceMethod (myn y) ∈ gw) (hnm : (myn y).name = "<init>") (hre : mre y = none) (hrk : 1 ≤ mrk y) (hrun : runc d y [.ref b0] σ = some (v, σ')) (hc : cok y [.ref b0] r σ = true) (hfr : d + 13 ≤ R.frames) (hlo : 64 * d + 1064 ≤ R.locals) (hce : cells + (mX σ' - mX σ) ≤ R.cells ∧ slots + (mS σ' - mS σ) ≤ R.slots) (hst : st = .ref b0 :: r) (hd : decode cc pc = .ok (.invokespecial idx, 3))
    (kk : ∀ (H1 : Heap) (locs1 : List Loc), Wh D cid base eP eI σ' H1 → va_S (fun q => base ≤ q) s.heap H1 locs1 → W p l e R s m args below meth c H1 locs1 (cells + (mX σ' - mX σ)) (slots + (mS σ' - mS σ)) Q (F0 m (pc + 3) ls (psh v r))) : W p l e R s m args below meth c H locs cells slots Q (F0 m pc ls st) := by
  obtain ⟨c1, c2, c3, c4, c5⟩ := cok_of hc
  obtain ⟨m1, m2, -, m4, ⟨h45, -, -, h13⟩, -⟩ := mok y hy
  have hn2 : ([] : List Value).length = mpn y := by
    have : 0 + 1 = mna y := c1
    show 0 = mpn y
    unfold mpn
    split
    · rename_i h0; omega
    · omega
  have hM := met_run hSp hOd hy hrun hc
  have hcb := callB_of (R := R) (s := s) (args := args) (own := ow) (index := idx) (rm := { frames := d + 12, cells := mX σ' - mX σ, slots := mS σ' - mS σ, locals := 64 * d + 1000 }) (mpn y) S5.2.2.2.2 (gw_c m1) rfl rfl rfl (S5.2.2.2.2 _ m2) (S5.2.2.2.2 _ hlk) m4 (rm_arit2 hfr hlo h45)
  rw [hre] at hM hcb
  exact callG (va_runI (As := []) (b := b0) S5 hM ⟨hcb, hnm, S5.2.2.2.2 _ hin⟩ ⟨Wst.blind hOd, fun U hU hw => Wst.pre hOd hW hK hO hba hS U hU hw⟩ rfl hn2 hsz hst (by show 2 * 0 + _ ≤ 8; omega) hd hce) hS kk
end L99
