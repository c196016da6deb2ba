/-! ===== A METHOD WHOSE JUMPS ALL GO FORWARD: ITS STACK STAYS SMALL; ITS RUN WITH THE LOCALS' NUMBER ===== -/
def fwd (e : Nat × Nat × Instr) : Bool := decide (0 < e.2.1) && (match e.2.2 with
  | .goto t => decide (e.1 < t.toNat)
  | .ifCond _ t => decide (e.1 < t.toNat)
  | .if_icmp _ t => decide (e.1 < t.toNat)
  | .if_acmp _ t => decide (e.1 < t.toNat)
  | .ifnull t => decide (e.1 < t.toNat)
  | .ifnonnull t => decide (e.1 < t.toNat)
  | .tableswitch df _ _ offs => decide (e.1 < df.toNat) && offs.toList.all (fun t => decide (e.1 < t.toNat))
  | _ => true)
def Fw (k : Nat) : Prop := ∀ e ∈ tbs.getD k [], fwd e = true
theorem fw_84 : Fw 84 := by unfold Fw; decide +kernel
theorem fw_85 : Fw 85 := by unfold Fw; decide +kernel
theorem st1_len {i : Instr} {lv st lv' st' : List Value} {σ σ' : Mm} (h : st1 i lv st σ = (true, lv', st', σ')) : st'.length ≤ st.length + 2 := by
  cases i <;> simp only [st1] at h <;> first
    | (simp only [Prod.mk.injEq, Bool.false_eq_true, false_and] at h; done)
    | (simp only [Prod.mk.injEq] at h; obtain ⟨-, rfl, rfl, rfl⟩ := h; (try simp only [List.length_cons]); omega)
    | (split at h <;> first
        | (simp only [Prod.mk.injEq, Bool.false_eq_true, false_and] at h; done)
        | (simp only [Prod.mk.injEq] at h; obtain ⟨-, rfl, rfl, rfl⟩ := h; (try simp only [List.length_cons]); omega))
theorem fw_at {k pc : Nat} (hf : Fw k) (hi : (pg k pc).1 ≠ .nop) : fwd (pc, (pg k pc).2, (pg k pc).1) = true := hf _ (lk_mem _ (show lk (tbs.getD k []) pc = ((pg k pc).1, (pg k pc).2) from rfl) hi)
theorem fw_act {k pc : Nat} {lv st : List Value} {σ : Mm} {q : Nat × List Value × List Value × Mm} (hf : Fw k) (h : act k pc lv st σ = some (.inl q)) : pc < q.1 ∧ q.2.2.1.length ≤ st.length + 2 := by
  have hn : (pg k pc).1 ≠ .nop := by
    intro h0
    unfold act at h
    rw [h0] at h
    simp [st1] at h
  have hm := fw_at hf hn
  unfold fwd at hm
  rw [Bool.and_eq_true, decide_eq_true_eq] at hm
  obtain ⟨hm1, hm⟩ := hm
  have hm1 : 0 < (pg k pc).2 := hm1
  by_cases hs : (st1 (pg k pc).1 lv st σ).1 = true
  · rw [act_st hs] at h
    cases h
    exact ⟨by show pc < pc + (pg k pc).2; omega, st1_len (i := (pg k pc).1) (lv := lv) (st := st) (σ := σ) (by rw [← hs])⟩
  · unfold act at h
    generalize hz : st1 (pg k pc).1 lv st σ = z at hs h
    obtain ⟨b, z⟩ := z
    have hb : b = false := by simpa using hs
    subst hb
    cases hi : (pg k pc).1 <;> rw [hi] at h hz hm <;> dsimp only at h hm
    case tableswitch df lo hi2 offs =>
      obtain ⟨hm2, hm3⟩ := (Bool.and_eq_true _ _).mp hm
      have hm2 := of_decide_eq_true hm2
      rw [List.all_eq_true] at hm3
      split at h
      · split at h
        · split at h
          · cases h
            exact ⟨hm2, by simp only [List.length_cons]; omega⟩
          · split at h
            · rename_i t ht
              cases h
              exact ⟨of_decide_eq_true (hm3 t (List.mem_of_getElem? ht)), by simp only [List.length_cons]; omega⟩
            · cases h
        · cases h
      · cases h
    all_goals first
      | (rw [hz] at h; cases h; done)
      | (cases h; exact ⟨of_decide_eq_true hm, Nat.le_add_right _ _⟩)
      | (cases h; done)
      | (split at h <;> first | (cases h; done) | skip)
    all_goals (try (split at h <;> first | (cases h; done) | skip))
    all_goals (try (split at h <;> first | (cases h; done) | skip))
    all_goals first
      | (unfold iff2 at h; split at h <;> (cases h; first | exact ⟨of_decide_eq_true hm, by simp only [List.length_cons]; omega⟩ | exact ⟨Nat.lt_add_of_pos_right (by decide), by simp only [List.length_cons]; omega⟩))
      | (split at h <;> first | (cases h; done) | (unfold iff2 at h; split at h <;> (cases h; first | exact ⟨of_decide_eq_true hm, by simp only [List.length_cons]; omega⟩ | exact ⟨Nat.lt_add_of_pos_right (by decide), by simp only [List.length_cons]; omega⟩)))
section F1
variable {l : Launch} {D : va_G} {cid : Nat → ClassId} {base : Nat} {eP : Nat → Option Nat} {eI : Nat → Nat → Int32} {Od : State → Prop}
/-- as snd_all, of one method whose jumps go forward: at its end the number of locals and a bound of the stack are known -/
theorem snd_fw (hSp : SpOk l D cid base eP eI Od) (hOd : OdOk base Od) {k : Nat} (hf : Fw k) (n : Nat) : ∀ (d pc : Nat) (lv st : List Value) (σ : Mm) (v : Option Value) (σ' : Mm), ex n d k pc lv st σ = some (v, σ') →
    ∀ (p : Program) (e : Jvm.Env) (R : Room) (s : State) (mi : MethodId) (args : Array Value) (below : List Frame) (meth : Method) (c : Code) (Q : State → Prop) (ls : Array Slot) (H : Heap) (locs : List Loc) (cells slots s0 : Nat),
    Fx p R s mi args meth c D cid base k → Od s → Ht s D cid base eP eI k s0 lv σ ls H locs cells slots → lv.length = mml k → st.length ≤ 2 * pc → d + 12 ≤ R.frames → 64 * d + 1000 ≤ R.locals → Rm R s s0 σ' →
    (∀ (pc' : Nat) (lv' st' : List Value) (ls' : Array Slot) (H' : Heap) (locs' : List Loc) (cells' slots' : Nat), act k pc' lv' st' σ' = some (.inr (.inr v)) → LR ls' lv' → lv'.length = mml k → st'.length ≤ 2 * pc' → Wh D cid base eP eI σ' H' → va_S (fun q => base ≤ q) s.heap H' locs' → Hx s s0 cells' slots' σ' → W p l e R s mi args below meth c H' locs' cells' slots' Q (F0 mi pc' ls' st')) →
    W p l e R s mi args below meth c H locs cells slots Q (F0 mi pc ls st) := by
  induction n with
  | zero => intro d pc lv st σ v σ' hex; simp [ex] at hex
  | succ n IH =>
    intro d pc lv st σ v σ' hex p e R s mi args below meth c Q ls H locs cells slots s0 hF hO hH hlv hst hfr hlo hR kR
    rw [ex] at hex
    cases hq : act k pc lv st σ with
    | none => rw [hq] at hex; cases hex
    | some q =>
      rw [hq] at hex
      rcases q with q | q | w
      · have hg := ex_gr n _ _ _ _ _ _ _ _ hex
        obtain ⟨f1, f2⟩ := fw_act hf hq
        refine sn_act hSp hOd hF hO hH hq ⟨Nat.le_trans hg.1 hR.1, Nat.le_trans hg.2.1 hR.2⟩ hlv ?_
        intro ls' H' locs' cells' slots' hL' hV' hW' hS' hX'
        exact IH _ _ _ _ _ _ _ hex p e R s mi args below meth c Q ls' H' locs' cells' slots' s0 hF hO ⟨hL', hV', hW', hS', hX'⟩ ((act_gr hq).2.trans hlv) (by omega) hfr hlo hR kR
      · obtain ⟨y, as, pc', r⟩ := q
        obtain ⟨a1, a2, a3, a4⟩ := act_call hq
        dsimp only at a1 a2 a3 a4 hex
        cases d with
        | zero => cases hex
        | succ d =>
          dsimp only at hex
          cases hc : cok y as r σ with
          | false => rw [hc] at hex; cases hex
          | true =>
            rw [hc] at hex
            dsimp only at hex
            cases hz : ex n d y 0 (clo y as) [] σ with
            | none => rw [hz] at hex; cases hex
            | some z =>
              obtain ⟨zv, zσ⟩ := z
              rw [hz] at hex
              dsimp only at hex
              have hg1 := ex_gr n _ _ _ _ _ _ _ _ hz
              have hg2 := ex_gr n _ _ _ _ _ _ _ _ hex
              have hm := fw_at (k := k) (pc := pc) hf (by rw [a1]; intro h; cases h)
              have hm1 : 0 < (pg k pc).2 := of_decide_eq_true ((Bool.and_eq_true _ _).mp hm).1
              cases hp : pg k pc with
              | mk i ln =>
              rw [hp] at a1 a3 hm1
              dsimp only at a1 a3 hm1
              subst a1; subst a2; subst a3; subst a4
              have hl2 : (psh zv (st.drop (mna y))).length ≤ st.length + 1 := by
                cases zv <;> simp [psh] <;> omega
              refine sn_call hOd (v := zv) (σ' := zσ) hF hO hp hH hlv hfr hlo hc hg1 ⟨Nat.le_trans hg2.1 hR.1, Nat.le_trans hg2.2.1 hR.2⟩ (fun hy => met_of hOd (snd_all hSp hOd n) hy hz hc) ?_
              intro ls' H' locs' cells' slots' hL' hV' hW' hS' hX'
              exact IH _ _ _ _ _ _ _ hex p e R s mi args below meth c Q ls' H' locs' cells' slots' s0 hF hO ⟨hL', hV', hW', hS', hX'⟩ hlv (by omega) hfr hlo hR kR
      · cases hex
        obtain ⟨hL, hV, hW, hS, hX⟩ := hH
        exact kR pc lv st ls H locs cells slots hq hL hlv hst hW hS hX
end F1
