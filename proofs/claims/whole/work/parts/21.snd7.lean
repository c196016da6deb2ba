/-! ===== SOUNDNESS: CALLS, AND ALL TOGETHER ===== -/
/-- what no reader of steady words carries -/
def Fc (s : State) : Prop := (∀ (q : Nat) (r : vw_C), vwCl[q]? = some r → va_Nw (.castable r.1 "java/lang/Object") s) ∧ (∀ e ∈ ml, e.2.2.2 = 3 ∨ e.2.2.2 = 4 → va_Nw (.methodLinkNest (own e.1) e.2.1 (myn e.2.2.1) "HullLine") s) ∧ (∀ e ∈ ml, e.2.2.2 = 5 → va_Fw "java/util/ArrayList" (lin e.2.2.1) (myn e.2.2.1) s)
theorem gw_in : GoodIn gw gw := fun w h => ⟨h, good_of_word (List.mem_filter.mp h).2⟩
theorem gw_c {w : Cond} (h : w ∈ gw) : GoodIn gw (w :: gw) := fun x hx => (List.mem_cons.mp hx).elim (fun z => z ▸ gw_in w h) (gw_in x)
/-- how a call ends -/
def Qg (D : va_G) (cid : Nat → ClassId) (base : Nat) (eP : Nat → Option Nat) (eI : Nat → Nat → Int32) (v : Option Value) (σ' : Mm) : Array Value → State → Outcome → State → Prop := fun _ st o t => o = .returned v ∧ Wh D cid base eP eI σ' t.heap ∧ va_F (fun q => base ≤ q) st t
/-- where a call begins -/
def Wst (D : va_G) (cid : Nat → ClassId) (base : Nat) (eP : Nat → Option Nat) (eI : Nat → Nat → Int32) (Od : State → Prop) (σ : Mm) : State → Prop := fun U => Wh D cid base eP eI σ U.heap ∧ va_K D vwCl (tyl cid) U ∧ Od U
/-- what the facts of the start must bear: another state of warmer tables and the same old cells has them too -/
def OdOk (base : Nat) (Od : State → Prop) : Prop := (∀ u U : State, Od u → u.WarmedH U.vm → (∀ q, q < base → U.heap[q]? = u.heap[q]?) → Od U) ∧ (∀ u U : State, Od u → u.vm = U.vm → u.heap = U.heap → Od U) ∧ ∀ u : State, Od u → Fc u
/-- the instructions that rest on facts of the start: constants that are Strings, the list's empty row, members of String, ArrayList.grow -/
def spI : Instr → Bool
  | .ldc_w _ => true
  | .getstatic _ => true
  | .dneg => true
  | .caload => true
  | .drem => true
  | .daload => true
  | _ => false
def SpOk (l : Launch) (D : va_G) (cid : Nat → ClassId) (base : Nat) (eP : Nat → Option Nat) (eI : Nat → Nat → Int32) (Od : State → Prop) : Prop :=
  ∀ (i : Instr), spI i = true → ∀ (p : Program) (e : Env) (R : Room) (s : State) (mi : MethodId) (args : Array Value) (below : List Frame) (meth : Method) (c : Code) (Q : State → Prop) (k pc ln : Nat) (lv st lv' st' : List Value) (σ σ' : Mm) (ls : Array Slot) (H : Heap) (locs : List Loc) (cells slots s0 : Nat),
    Fx p R s mi args meth c D cid base k → Od s → pg k pc = (i, ln) → Ht s D cid base eP eI k s0 lv σ ls H locs cells slots → st1 i lv st σ = (true, lv', st', σ') → Rm R s s0 σ' → lv.length = mml k → Kt p l e R s mi args below meth c Q D cid base eP eI k s0 (pc + ln) lv' st' σ' → W p l e R s mi args below meth c H locs cells slots Q (F0 mi pc ls st)
section SN7
variable {p : Program} {l : Launch} {e : Env} {R : Room} {s : State} {mi : MethodId} {args : Array Value} {below : List Frame} {meth : Method} {c : Code} {Q : State → Prop}
variable {D : va_G} {cid : Nat → ClassId} {base : Nat} {eP : Nat → Option Nat} {eI : Nat → Nat → Int32} {Od : State → Prop} {k pc ln : Nat} {lv st lv' st' : List Value} {σ σ' : Mm} {ls : Array Slot} {H : Heap} {locs : List Loc} {cells slots s0 : Nat}
theorem sn_st (hSp : SpOk l D cid base eP eI Od) (hOd : OdOk base Od) {i : Instr} (hF : Fx p R s mi args meth c D cid base k) (hO : Od s) (hp : pg k pc = (i, ln)) (hH : Ht s D cid base eP eI k s0 lv σ ls H locs cells slots) (hst : st1 i lv st σ = (true, lv', st', σ')) (hR : Rm R s s0 σ') (hlv : lv.length = mml k) (kk : Kt p l e R s mi args below meth c Q D cid base eP eI k s0 (pc + ln) lv' st' σ') : W p l e R s mi args below meth c H locs cells slots Q (F0 mi pc ls st) := by
  cases i
  all_goals first
    | (simp only [st1, Prod.mk.injEq, Bool.false_eq_true, false_and] at hst; done)
    | exact hSp _ rfl p e R s mi args below meth c Q k pc ln lv st lv' st' σ σ' ls H locs cells slots s0 hF hO hp hH hst hR hlv kk
    | exact sn_aload hF hp hH hst kk
    | exact sn_iload hF hp hH hst kk
    | exact sn_getfield hF hp hH hst kk
    | exact sn_ldc hF hp hH hst kk
    | exact sn_iaload hF hp hH hst kk
    | exact sn_putfield hF hp hH hst kk
    | exact sn_iadd hF hp hH hst kk
    | exact sn_isub hF hp hH hst kk
    | exact sn_imul hF hp hH hst kk
    | exact sn_iand hF hp hH hst kk
    | exact sn_ior hF hp hH hst kk
    | exact sn_ixor hF hp hH hst kk
    | exact sn_ishl hF hp hH hst kk
    | exact sn_ishr hF hp hH hst kk
    | exact sn_iushr hF hp hH hst kk
    | exact sn_idiv hF hp hH hst kk
    | exact sn_irem hF hp hH hst kk
    | exact sn_ineg hF hp hH hst kk
    | exact sn_i2b hF hp hH hst kk
    | exact sn_i2c hF hp hH hst kk
    | exact sn_i2l hF hp hH hst kk
    | exact sn_lshl hF hp hH hst kk
    | exact sn_lor hF hp hH hst kk
    | exact sn_lcmp hF hp hH hst kk
    | exact sn_dup hF hp hH hst kk
    | exact sn_pop hF hp hH hst kk
    | exact sn_dup2 hF hp hH hst kk
    | exact sn_dup_x1 hF hp hH hst kk
    | exact sn_aconst_null hF hp hH hst kk
    | exact sn_ldc2_w hF hp hH hst kk
    | exact sn_lload hF hp hH hst kk
    | exact sn_istore hF hp hH hst kk
    | exact sn_astore hF hp hH hst kk
    | exact sn_iinc hF hp hH hst kk
    | exact sn_lstore hF hp hH hst kk
    | exact sn_fstore hF hp hH hst kk
    | exact sn_multianewarray hF hp hH hst kk
    | exact sn_arraylength hF hp hH hst kk
    | exact sn_baload hF hp hH hst kk
    | exact sn_aaload hF hp hH hst kk
    | exact sn_iastore hF hp hH hst kk
    | exact sn_bastore hF hp hH hst kk
    | exact sn_aastore hF hp hH hst (hOd.2.2 s hO).1 kk
    | exact sn_checkcast hF hp hH hst kk
    | exact sn_invokespecial hF hp hH hst hlv kk
    | exact sn_new hF hp hH hst hR kk
    | exact sn_anewarray hF hp hH hst hR kk
    | exact sn_fadd hF hp hH hst hR hlv kk
    | exact sn_fsub hF hp hH hst hR hlv kk
    | exact sn_fneg hF hp hH hst hR hlv kk
    | exact sn_dadd hF hp hH hst hlv kk
theorem sn_act (hSp : SpOk l D cid base eP eI Od) (hOd : OdOk base Od) {q : Nat × List Value × List Value × Mm} (hF : Fx p R s mi args meth c D cid base k) (hO : Od s) (hH : Ht s D cid base eP eI k s0 lv σ ls H locs cells slots) (ha : act k pc lv st σ = some (.inl q)) (hR : Rm R s s0 q.2.2.2) (hlv : lv.length = mml k) (kk : Kt p l e R s mi args below meth c Q D cid base eP eI k s0 q.1 q.2.1 q.2.2.1 q.2.2.2) : W p l e R s mi args below meth c H locs cells slots Q (F0 mi pc ls st) := by
  cases hp : pg k pc with
  | mk i ln =>
  by_cases hs : (st1 (pg k pc).1 lv st σ).1 = true
  · rw [act_st hs, hp] at ha
    rw [hp] at hs
    cases ha
    exact sn_st hSp hOd hF hO hp hH (σ' := (st1 i lv st σ).2.2.2) (lv' := (st1 i lv st σ).2.1) (st' := (st1 i lv st σ).2.2.1) (by rw [← hs]) hR hlv kk
  · have hs : ¬ (st1 i lv st σ).1 = true := by rw [hp] at hs; exact hs
    have ha2 := ha
    unfold act at ha2
    rw [hp] at ha2
    generalize hz : st1 i lv st σ = z at hs ha2
    obtain ⟨b, z⟩ := z
    have hb : b = false := by simpa using hs
    subst hb
    cases i
    all_goals first
      | exact sc_goto hF hp hH ha kk
      | exact sc_ifCond hF hp hH ha kk
      | exact sc_if_icmp hF hp hH ha kk
      | exact sc_if_acmp hF hp hH ha kk
      | exact sc_ifnull hF hp hH ha kk
      | exact sc_ifnonnull hF hp hH ha kk
      | exact sc_tableswitch hF hp hH ha kk
      | (exfalso; dsimp only at ha2; first | (rw [hz] at ha2; cases ha2; done) | (cases ha2; done) | (split at ha2 <;> first | (cases ha2; done) | (split at ha2 <;> cases ha2)))
/-- a call that comes back with v: three bytes further, or five -/
theorem callG {mc ms : Nat} {st0 rest : List Value} {a : Array Value} {v : Option Value} (hr : va_Run p l e R s mi args below meth c H locs cells slots mc ms (F0 mi pc ls st0) rest (Qg D cid base eP eI v σ' a) (fun q => base ≤ q)) (hS : va_S (fun q => base ≤ q) s.heap H locs)
    (kk : ∀ (H1 : Heap) (locs1 : List Loc), Wh D cid base eP eI σ' H1 → va_S (fun q => base ≤ q) s.heap H1 locs1 → W p l e R s mi args below meth c H1 locs1 (cells + mc) (slots + ms) Q (F0 mi (pc + 3) ls (psh v rest))) : W p l e R s mi args below meth c H locs cells slots Q (F0 mi pc ls st0) := by
  intro T hT X
  obtain ⟨v', st₀, t, T', L, h0, X', hL, e1, e2, ⟨hv, hw, hz, hk⟩, st⟩ := hr T hT X
  cases hv
  rw [h0] at hz hk
  obtain ⟨t2, a1, b1⟩ := kk T'.heap (locs ++ L) (by rw [e1]; exact hw) ⟨Nat.le_trans hS.1 (by rw [e1]; exact hz), fun q h1 h2 => by rw [e1, hk q (Nat.lt_of_lt_of_le h1 hS.1) h2]; exact hS.2.1 q h1 h2, fun q hq => by
      rcases List.mem_append.mp hq with h | h
      · exact hS.2.2 q h
      · exact hL q h⟩ T' rfl X'
  have ev : v.toList ++ rest = psh v rest := by cases v <;> rfl
  exact ⟨t2, st t2 (by rw [ev]; exact a1), b1⟩
theorem callG5 {mc ms : Nat} {st0 rest : List Value} {a : Array Value} {v : Option Value} (hr : va_Run5 p l e R s mi args below meth c H locs cells slots mc ms (F0 mi pc ls st0) rest (Qg D cid base eP eI v σ' a) (fun q => base ≤ q)) (hS : va_S (fun q => base ≤ q) s.heap H locs)
    (kk : ∀ (H1 : Heap) (locs1 : List Loc), Wh D cid base eP eI σ' H1 → va_S (fun q => base ≤ q) s.heap H1 locs1 → W p l e R s mi args below meth c H1 locs1 (cells + mc) (slots + ms) Q (F0 mi (pc + 5) ls (psh v rest))) : W p l e R s mi args below meth c H locs cells slots Q (F0 mi pc ls st0) := by
  intro T hT X
  obtain ⟨v', st₀, t, T', L, h0, X', hL, e1, e2, ⟨hv, hw, hz, hk⟩, st⟩ := hr T hT X
  cases hv
  rw [h0] at hz hk
  obtain ⟨t2, a1, b1⟩ := kk T'.heap (locs ++ L) (by rw [e1]; exact hw) ⟨Nat.le_trans hS.1 (by rw [e1]; exact hz), fun q h1 h2 => by rw [e1, hk q (Nat.lt_of_lt_of_le h1 hS.1) h2]; exact hS.2.1 q h1 h2, fun q hq => by
      rcases List.mem_append.mp hq with h | h
      · exact hS.2.2 q h
      · exact hL q h⟩ T' rfl X'
  have ev : v.toList ++ rest = psh v rest := by cases v <;> rfl
  exact ⟨t2, st t2 (by rw [ev]; exact a1), b1⟩
theorem Wst.blind (hOd : OdOk base Od) {as : List Value} : FrameBlind (va_Pc as (Wst D cid base eP eI Od σ)) := fun a U g mk q => ⟨q.1, q.2.1, va_K.moved (u := U) (U := U.calling g mk a) (Vm.Alike.refl U.vm) q.2.2.1, hOd.2.1 U _ q.2.2.2 rfl rfl⟩
theorem Wst.pre (hOd : OdOk base Od) (hW : Wh D cid base eP eI σ H) (hK : va_K D vwCl (tyl cid) s) (hO : Od s) (hba : base ≤ s.heap.size) (hS : va_S (fun q => base ≤ q) s.heap H locs) {as : List Value} (U : State) (hU : U.heap = H) (hw : s.WarmedH U.vm) : va_Pc as (Wst D cid base eP eI Od σ) as.toArray U :=
  ⟨rfl, by rw [hU]; exact hW, va_K.moved hw.alike hK, hOd.1 s U hO hw fun q hq => by rw [hU]; exact hS.2.1 q (Nat.lt_of_lt_of_le hq hba) (Nat.not_le.mpr hq)⟩
theorem cat_all : ∀ (r : List Value), r.all (fun v => isI v || isR v) = true → (r.map fun v => v.category).sum = r.length
  | [], _ => rfl
  | v :: t, hb => by
    simp only [List.all_cons, Bool.and_eq_true] at hb
    have h1 := cat_all t hb.2
    have h2 := isIR_cat hb.1
    simp only [List.map_cons, List.sum_cons, List.length_cons, h1, h2]
    omega
theorem cok_of {as r : List Value} (h : cok k as r σ = true) : as.length = mna k ∧ (r.map fun v => v.category).sum ≤ 8 ∧ mrt k ≤ 5 ∧ (mrk k = 0 ∨ ∃ (b : Nat) (As : List Value), as = .ref b :: As ∧ mK σ b = mrk k) ∧ ((Nat.beq k mTh = false ∧ ∀ v ∈ as, v.category = 1) ∨ (Nat.beq k mTh = true ∧ ∃ (a w : Value), as = [a, w] ∧ isL w = true)) := by
  unfold cok at h
  simp only [Bool.and_eq_true, decide_eq_true_eq] at h
  obtain ⟨⟨⟨⟨h1, h2⟩, h3⟩, h4⟩, h5⟩ := h
  refine ⟨h1, ?_, Nat.le_of_ble_eq_true h3, ?_, ?_⟩
  · rcases (Bool.or_eq_true _ _).mp h2 with h | h
    · have := Nat.le_of_ble_eq_true h
      have := cat_sum r
      omega
    · obtain ⟨ha, hb⟩ := (Bool.and_eq_true _ _).mp h
      have ha := Nat.le_of_ble_eq_true ha
      have := cat_all r hb
      omega
  · split at h4
    · rename_i h0; exact Or.inl h0
    · obtain ⟨ha, hb⟩ := (Bool.and_eq_true _ _).mp h4
      obtain ⟨b, hb2⟩ := isA_of ha
      rcases as with _ | ⟨a, As⟩
      · cases hb2
      · have hb2 : a = .ref b := hb2
        subst hb2
        exact Or.inr ⟨b, As, rfl, of_decide_eq_true hb⟩
  · split at h5
    · rename_i h0
      refine Or.inr ⟨h0, ?_⟩
      split at h5
      · exact ⟨_, _, rfl, h5⟩
      · cases h5
    · rename_i h0
      exact Or.inl ⟨h0, fun v hv => isIR_cat (List.all_eq_true.mp h5 v hv)⟩
end SN7
