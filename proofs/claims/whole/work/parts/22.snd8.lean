/-! ===== SOUNDNESS: ALL TOGETHER ===== -/
def Snd (l : Launch) (D : va_G) (cid : Nat → ClassId) (base : Nat) (eP : Nat → Option Nat) (eI : Nat → Nat → Int32) (Od : State → Prop) (n : Nat) : Prop :=
  ∀ (d k pc : Nat) (lv st : List Value) (σ : Mm) (v : Option Value) (σ' : Mm), ex n d k pc lv st σ = some (v, σ') →
  ∀ (p : Program) (e : Env) (R : Room) (s : State) (mi : MethodId) (args : Array Value) (below : List Frame) (meth : Method) (c : Code) (Q : State → Prop) (ls : Array Slot) (H : Heap) (locs : List Loc) (cells slots s0 : Nat),
    Fx p R s mi args meth c D cid base k → Od s → Ht s D cid base eP eI k s0 lv σ ls H locs cells slots → lv.length = mml k → d + 12 ≤ R.frames → 64 * d + 1000 ≤ R.locals → Rm R s s0 σ' →
    (∀ (pc' : Nat) (lv' st' : List Value) (ls' : Array Slot) (H' : Heap) (locs' : List Loc) (cells' slots' : Nat), act k pc' lv' st' σ' = some (.inr (.inr v)) → LR ls' lv' → Wh D cid base eP eI σ' H' → va_S (fun q => base ≤ q) s.heap H' locs' → Hx s s0 cells' slots' σ' → W p l e R s mi args below meth c H' locs' cells' slots' Q (F0 mi pc' ls' st')) →
    W p l e R s mi args below meth c H locs cells slots Q (F0 mi pc ls st)
theorem act_ret {k pc : Nat} {lv st : List Value} {σ : Mm} {v : Option Value} (h : act k pc lv st σ = some (.inr (.inr v))) :
    ((pg k pc).1 = .ireturn ∧ ∃ w, st = [w] ∧ v = some w ∧ isI w = true ∧ rok (mrt k) w = true) ∨ ((pg k pc).1 = .areturn ∧ ∃ w, st = [w] ∧ v = some w ∧ isR w = true ∧ rok (mrt k) w = true) ∨ ((pg k pc).1 = .return_ ∧ st = [] ∧ v = none ∧ mrt k = 0) ∨ ((pg k pc).1 = .athrow ∧ mrt k = 6 ∧ v = some (.retAddr 7)) := by
  by_cases hs : (st1 (pg k pc).1 lv st σ).1 = true
  · rw [act_st hs] at h
    cases h
  · unfold act at h
    generalize hz : st1 (pg k pc).1 lv st σ = z at hs h
    obtain ⟨b, z⟩ := z
    have hb : b = false := by simpa using hs
    subst hb
    cases hi : (pg k pc).1 <;> rw [hi] at h hz <;> dsimp only at h
    case ireturn =>
      split at h
      · split at h
        · rename_i hw
          cases h
          obtain ⟨h1, h2⟩ := (Bool.and_eq_true _ _).mp hw
          exact Or.inl ⟨rfl, _, rfl, rfl, h1, h2⟩
        · cases h
      · cases h
    case areturn =>
      split at h
      · split at h
        · rename_i w hw
          cases h
          obtain ⟨h1, h2⟩ := (Bool.and_eq_true _ _).mp hw
          exact Or.inr (Or.inl ⟨rfl, w, rfl, rfl, h1, h2⟩)
        · cases h
      · cases h
    case return_ =>
      split at h
      · split at h
        · rename_i hw
          cases h
          exact Or.inr (Or.inr (Or.inl ⟨rfl, rfl, rfl, beqT hw⟩))
        · cases h
      · cases h
    case athrow =>
      split at h
      · rename_i hw
        cases h
        exact Or.inr (Or.inr (Or.inr ⟨rfl, beqT hw, rfl⟩))
      · cases h
    all_goals exfalso
    all_goals first
      | (rw [hz] at h; cases h; done)
      | (cases h; done)
      | (split at h <;> first | (cases h; done) | skip)
    all_goals (try (split at h <;> first | (cases h; done) | skip))
    all_goals (try (split at h <;> first | (cases h; done) | skip))
    all_goals first
      | (unfold iff2 at h; split at h <;> cases h; done)
      | (cases h; done)
      | (split at h <;> (cases h; done))
theorem act_call {k pc : Nat} {lv st : List Value} {σ : Mm} {q : Nat × List Value × Nat × List Value} (h : act k pc lv st σ = some (.inr (.inl q))) :
    (pg k pc).1 = .invokevirtual q.1 ∧ q.2.1 = (st.take (mna q.1)).reverse ∧ q.2.2.1 = pc + (pg k pc).2 ∧ q.2.2.2 = st.drop (mna q.1) := by
  by_cases hs : (st1 (pg k pc).1 lv st σ).1 = true
  · rw [act_st hs] at h
    cases h
  · unfold act at h
    generalize hz : st1 (pg k pc).1 lv st σ = z at hs h
    obtain ⟨b, z⟩ := z
    have hb : b = false := by simpa using hs
    subst hb
    cases hi : (pg k pc).1 <;> rw [hi] at h hz <;> dsimp only at h
    case invokevirtual n =>
      cases h
      exact ⟨rfl, rfl, rfl, rfl⟩
    all_goals exfalso
    all_goals first
      | (rw [hz] at h; cases h; done)
      | (cases h; done)
      | (split at h <;> first | (cases h; done) | skip)
    all_goals (try (split at h <;> first | (cases h; done) | skip))
    all_goals (try (split at h <;> first | (cases h; done) | skip))
    all_goals first
      | (unfold iff2 at h; split at h <;> cases h; done)
      | (cases h; done)
      | (split at h <;> (cases h; done))
section SN8
variable {p : Program} {l : Launch} {e : Env} {R : Room} {s : State} {mi : MethodId} {args : Array Value} {below : List Frame} {meth : Method} {c : Code}
variable {D : va_G} {cid : Nat → ClassId} {base : Nat} {eP : Nat → Option Nat} {eI : Nat → Nat → Int32} {Od : State → Prop} {k pc ln : Nat} {lv st lv' st' : List Value} {σ σ' : Mm} {ls : Array Slot} {H : Heap} {locs : List Loc} {cells slots s0 : Nat}
/-- a method returns v -/
theorem sn_ret {mc ms : Nat} {v : Option Value} (hk : k < 196) (hx : p.tables.exec = Jvm.exec) (hb : c.code = mby k) (hrt : meth.sig.returnType = mre k) (hlk : meth.locks = false) (h5 : mrt k ≤ 5) (ha : act k pc lv st σ = some (.inr (.inr v))) (hW : Wh D cid base eP eI σ H) (hS : va_S (fun q => base ≤ q) s.heap H locs) (hc : cells = mc) (hs : slots = ms) :
    W p l e R s mi args below meth c H locs cells slots (MQ below (Qg D cid base eP eI v σ) args s mc ms (fun q => base ≤ q)) (F0 mi pc ls st) := by
  subst hc; subst hs
  obtain ⟨-, -, -, -, -, m6⟩ := mok k hk
  have hq : ∀ (w : Option Value), v = w → ∀ t : State, t.heap = H → s.WarmedH t.vm → Qg D cid base eP eI v σ args s (.returned w) t := fun w hw t ht _ => ⟨by rw [hw], by rw [ht]; exact hW, hS.F ht⟩
  cases hp : pg k pc with
  | mk i ln =>
  rcases act_ret ha with ⟨h1, w, rfl, rfl, hi, hr⟩ | ⟨h1, w, rfl, rfl, hi, hr⟩ | ⟨h1, rfl, rfl, h0⟩ | ⟨-, h6, -⟩
  · rw [hp] at h1
    have h1 : i = .ireturn := h1
    subst h1
    obtain ⟨real, hd, hrl⟩ := dec_of hk hp (by intro h; cases h)
    simp only [relB, Bool.and_eq_true, decide_eq_true_eq] at hrl
    obtain ⟨hl, rfl⟩ := hrl
    obtain rfl := beqT hl
    obtain ⟨x, rfl⟩ := isI_of hi
    have hty : ∃ ty, mre k = some ty ∧ narrow ty (.int x) = .int x := by
      revert m6 hr
      generalize mrt k = z at h5 ⊢
      generalize mre k = rt
      intro m6 hr
      unfold mretOk at m6
      split at m6
      · simp [rok] at hr
      · exact ⟨_, rfl, rfl⟩
      · exact ⟨_, rfl, rfl⟩
      · simp only [rok, Bool.and_eq_true, decide_eq_true_eq] at hr
        have h01 : x = 0 ∨ x = 1 := hr.2
        exact ⟨_, rfl, by rcases h01 with rfl | rfl <;> rfl⟩
      · simp [rok, isR] at hr
      · simp [rok, isR] at hr
      · cases m6
    obtain ⟨ty, ht1, ht2⟩ := hty
    exact W.zret hx hb (by rw [hrt]; exact ht1) ht2 (hq _ rfl) hS.2.2 hd hlk
  · rw [hp] at h1
    have h1 : i = .areturn := h1
    subst h1
    obtain ⟨real, hd, hrl⟩ := dec_of hk hp (by intro h; cases h)
    simp only [relB, Bool.and_eq_true, decide_eq_true_eq] at hrl
    obtain ⟨hl, rfl⟩ := hrl
    obtain rfl := beqT hl
    have hty : ∃ ty, mre k = some ty ∧ ((∃ n, ty = .object n) ∨ ∃ t, ty = .array t) := by
      revert m6 hr
      generalize mrt k = z at h5 ⊢
      generalize mre k = rt
      intro m6 hr
      obtain ⟨x, rfl⟩ := isR_of hi
      unfold mretOk at m6
      split at m6
      · simp [rok] at hr
      · cases x <;> simp [rok, isI, va_rf] at hr
      · cases x <;> simp [rok, isI, va_rf] at hr
      · cases x <;> simp [rok, isI, va_rf] at hr
      · exact ⟨_, rfl, Or.inl ⟨_, rfl⟩⟩
      · exact ⟨_, rfl, Or.inr ⟨_, rfl⟩⟩
      · cases m6
    obtain ⟨ty, ht1, ht2⟩ := hty
    have hv : w = .null ∨ ∃ a, w = .ref a := by
      obtain ⟨x, rfl⟩ := isR_of hi
      cases x with
      | none => exact Or.inl rfl
      | some a => exact Or.inr ⟨a, rfl⟩
    exact W.aret hx hb (by rw [hrt]; exact ht1) ht2 hv (hq _ rfl) hS.2.2 hd hlk
  · rw [hp] at h1
    have h1 : i = .return_ := h1
    subst h1
    obtain ⟨real, hd, hrl⟩ := dec_of hk hp (by intro h; cases h)
    simp only [relB, Bool.and_eq_true, decide_eq_true_eq] at hrl
    obtain ⟨hl, rfl⟩ := hrl
    obtain rfl := beqT hl
    have ht1 : mre k = none := by
      revert m6
      rw [h0]
      generalize mre k = rt
      intro m6
      unfold mretOk at m6
      split at m6 <;> first | rfl | (cases m6; done) | (rename_i hq; cases hq)
    exact W.vret hx hb (by rw [hrt]; exact ht1) (hq _ rfl) hS.2.2 hd hlk
  · omega
/-- a method's contract out of its run -/
theorem met_of (hOd : OdOk base Od) {n d : Nat} {as r : List Value} {v : Option Value} (IH : Snd l D cid base eP eI Od n) (hk : k < 196) (hex : ex n d k 0 (clo k as) [] σ = some (v, σ')) (hc : cok k as r σ = true) :
    Met l (myn k) (Cond.code (myn k) (mby k) (mml k) (mre k) :: gw) { frames := d + 12, cells := mX σ' - mX σ, slots := mS σ' - mS σ, locals := 64 * d + 1000 } (va_Pc as (Wst D cid base eP eI Od σ)) (Qg D cid base eP eI v σ') (mX σ' - mX σ) (mS σ' - mS σ) (fun q => base ≤ q) := by
  obtain ⟨m1, m2, ⟨m3, m3b⟩, m4, m5, m6⟩ := mok k hk
  obtain ⟨c1, c2, c3, c4, c5⟩ := cok_of hc
  have hgr := ex_gr n _ _ _ _ _ _ _ _ hex
  have hcat : (Nat.beq k mTh = false ∧ ∀ v ∈ as, v.category = 1) ∨ (Nat.beq k mTh = true ∧ ∃ (a : Nat) (w : Int64), as = [.ref a, .long w]) := by
    rcases c5 with h | ⟨h, a, w, rfl, hw⟩
    · exact Or.inl h
    · obtain rfl := beqT h
      obtain ⟨w, rfl⟩ := isL_of hw
      rcases c4 with h0 | ⟨b, As, hb, -⟩
      · exact absurd h0 (by decide)
      · cases hb
        exact Or.inr ⟨h, _, _, rfl⟩
  refine Met.ofW (cc := mby k) (maxL := mml k) (ret := mre k) m3 rfl ?_
  intro p e s mi args below meth c s₁ B hml hv
  obtain ⟨rfl, hW, hK, hO⟩ := hv
  have hts := atoms_spec (ws := Cond.code (myn k) (mby k) (mml k) (mre k) :: gw) B.pre
  have hown : s.vm.findClass (own (mow k)) = some mi.cls := by rw [m3b]; exact findClass_of_methodNamed B.named
  have hnm : meth.name = (myn k).name := (name_of_methodNamed B.named B.method).1
  obtain ⟨e1, e2, e3⟩ := entry_ok hk c1 hcat
  have hz := hW.2.2.1
  have hbz := hW.2.2.2.1
  rw [lg_entry_eq]
  refine IH d k 0 (clo k as) [] σ v σ' hex p e _ s mi _ below meth c _ _ s.heap [] 0 0 (mS σ) ⟨⟨B.exec, B.bytes, hml, hown, fun w h => hts w (List.mem_cons_of_mem _ h)⟩, hnm, hK, by omega, hk, ?_, ?_⟩ hO ⟨e1, e2, hW, va_S.rf, hz, rfl, fun a h1 h2 => by omega⟩ e3 (Nat.le_refl _) (Nat.le_refl _) ⟨?_, ?_⟩ ?_
  · show 12 ≤ d + 12
    omega
  · show 1000 ≤ 64 * d + 1000
    omega
  · show mX σ' ≤ s.heap.size + (mX σ' - mX σ)
    omega
  · show mS σ' ≤ mS σ + (mS σ' - mS σ)
    omega
  · intro pc' lv' st' ls' H' locs' cells' slots' hact hLR hW' hS' hX'
    have h1 := hX'.1
    have h2 := hX'.2.1
    exact sn_ret hk B.exec B.bytes B.returns B.notSynchronized c3 hact hW' hS' (by omega) (by omega)
end SN8
