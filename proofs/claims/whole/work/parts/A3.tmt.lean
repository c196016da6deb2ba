/-! ===== mail AND of OF THE CLASS: THEY RETURN OR THROW ===== -/
set_option maxRecDepth 100000 in
theorem tw_cl : Cond.classLink "HullLine" 312 nse ∈ gw := ing 1036 rfl rfl
set_option maxRecDepth 100000 in
theorem tw_ini : Cond.initialized nse ∈ gw := ing 28 rfl rfl
/-- where it throws: which String -/
def thS : List (Nat × Nat × Nat) := [(84, 10, 314), (84, 146, 329), (85, 10, 331), (85, 173, 336)]
def ath (e : Nat × Nat × Instr) : Bool := match e.2.2 with
  | .athrow => true
  | _ => false
theorem th_84 : ∀ e ∈ tbs.getD 84 [], ath e = true → e.1 = 10 ∨ e.1 = 146 := by decide +kernel
theorem th_85 : ∀ e ∈ tbs.getD 85 [], ath e = true → e.1 = 10 ∨ e.1 = 173 := by decide +kernel
theorem th_dec : ∀ e ∈ thS, decode (mby e.1) e.2.1 = .ok (.new 312, 3) ∧ decode (mby e.1) (e.2.1 + 3) = .ok (.dup, 1) ∧ decode (mby e.1) (e.2.1 + 4) = .ok (.ldc_w e.2.2, 3) ∧ decode (mby e.1) (e.2.1 + 7) = .ok (.invokespecial 316, 3) ∧ decode (mby e.1) (e.2.1 + 10) = .ok (.athrow, 1) := by decide +kernel
section T3
variable {l : Launch} {D : va_G} {cid : Nat → ClassId} {base : Nat} {eP : Nat → Option Nat} {eI : Nat → Nat → Int32} {Od : State → Prop} {σ σ' : Mm} {k : Nat}
def Qn (D : va_G) (cid : Nat → ClassId) (base : Nat) (eP : Nat → Option Nat) (eI : Nat → Nat → Int32) (v : Option Value) (σ' : Mm) : Array Value → State → Outcome → State → Prop := fun a st o t => Qg D cid base eP eI v σ' a st o t ∧ v ≠ some (.retAddr 7)
def XTh (D : va_G) (cid : Nat → ClassId) (base : Nat) (eP : Nat → Option Nat) (eI : Nat → Nat → Int32) (v : Option Value) (σ' : Mm) : String → State → State → Prop := fun E st t => E = nse ∧ v = some (.retAddr 7) ∧ (∃ n, Wh D cid base eP eI (bm σ' n 6) t.heap) ∧ va_F (fun q => base ≤ q) st t
theorem th_str {U : State} (hT : Th base U) : ∀ e ∈ thS, ∃ tx a, vk_R "HullLine" e.2.2 tx a U := by
  intro e he
  obtain ⟨-, -, -, ⟨a4, h4⟩, ⟨a5, h5⟩, ⟨a6, h6⟩, ⟨a7, h7⟩, -⟩ := hT
  simp only [thS, List.mem_cons, List.not_mem_nil, or_false] at he
  rcases he with rfl | rfl | rfl | rfl
  · exact ⟨_, _, h4⟩
  · exact ⟨_, _, h5⟩
  · exact ⟨_, _, h6⟩
  · exact ⟨_, _, h7⟩
theorem th_at {pc : Nat} (hk : k = 84 ∨ k = 85) (hp : (pg k pc).1 = .athrow) : ∃ tx, (k, pc, tx) ∈ thS := by
  have hm := lk_mem _ (show lk (tbs.getD k []) pc = ((pg k pc).1, (pg k pc).2) from rfl) (by rw [hp]; intro h; cases h)
  have ha : ath (pc, (pg k pc).2, (pg k pc).1) = true := by unfold ath; rw [hp]
  rcases hk with rfl | rfl
  · rcases th_84 _ hm ha with h | h
    · have h : pc = 10 := h
      subst h
      exact ⟨314, by decide⟩
    · have h : pc = 146 := h
      subst h
      exact ⟨329, by decide⟩
  · rcases th_85 _ hm ha with h | h
    · have h : pc = 10 := h
      subst h
      exact ⟨331, by decide⟩
    · have h : pc = 173 := h
      subst h
      exact ⟨336, by decide⟩
theorem cat_le2 : ∀ r : List Value, (r.map fun v => v.category).sum ≤ 2 * r.length := cat_sum
theorem thr_met (hl : l.stackTraces = false) (hSp : SpOk l D cid base eP eI Od) (hOd : OdOk base Od) (hTh : ∀ u, Od u → Th base u) {d : Nat} {as : List Value} {v : Option Value} (hk : k = 84 ∨ k = 85) (hrun : runc d k as σ = some (v, σ')) (hn : as.length = mna k) (hca : ∀ v ∈ as, v.category = 1) :
    vx_Met l (myn k) (Cond.code (myn k) (mby k) (mml k) (mre k) :: gw) { frames := d + 12, cells := mX σ' - mX σ + 1, slots := mS σ' - mS σ + 6, locals := 64 * d + 1000 } (va_Pc as (Wst D cid base eP eI Od σ)) (Qn D cid base eP eI v σ') (XTh D cid base eP eI v σ') (mX σ' - mX σ + 1) (mS σ' - mS σ + 6) (fun q => base ≤ q) := by
  have hk6 : k < 196 := by rcases hk with rfl | rfl <;> decide
  have hr6 : mrt k = 6 := by rcases hk with rfl | rfl <;> rfl
  have hre : mre k = some .int := by rcases hk with rfl | rfl <;> rfl
  have hnT : Nat.beq k mTh = false := by rcases hk with rfl | rfl <;> rfl
  have how : own (mow k) = "HullLine" := by rcases hk with rfl | rfl <;> rfl
  have hfw : Fw k := by
    rcases hk with rfl | rfl
    · exact fw_84
    · exact fw_85
  obtain ⟨n, hex⟩ := run_iff.mp hrun
  obtain ⟨m1, m2, ⟨m3, m3b⟩, m4, m5, m6⟩ := mok k hk6
  have hgr := ex_gr n _ _ _ _ _ _ _ _ hex
  have hg1 := hgr.1
  have hg2 := hgr.2.1
  refine vx_ofW (cc := mby k) (maxL := mml k) (ret := mre k) m3 rfl ?_
  intro p e s mi args below meth c s₁ B hml htab hv
  obtain ⟨rfl, hW, hK, hO⟩ := hv
  have hts0 := atoms_spec (ws := Cond.code (myn k) (mby k) (mml k) (mre k) :: gw) B.pre
  have hts : ∀ w ∈ gw, w.before as.toArray s = true := fun w h => hts0 w (List.mem_cons_of_mem _ h)
  have hown : s.vm.findClass (own (mow k)) = some mi.cls := by rw [m3b]; exact findClass_of_methodNamed B.named
  have hnm : meth.name = (myn k).name := (name_of_methodNamed B.named B.method).1
  obtain ⟨e1, e2, e3⟩ := entry_ok hk6 hn (Or.inl ⟨hnT, hca⟩)
  have hz := hW.2.2.1
  have hbz := hW.2.2.2.1
  have hba : base ≤ s.heap.size := by rw [hz]; exact hbz
  rw [lg_entry_eq]
  refine snd_fw hSp hOd hfw n d 0 (clo k as) [] σ v σ' hex p e _ s mi _ below meth c _ _ s.heap [] 0 0 (mS σ) ⟨⟨B.exec, B.bytes, hml, hown, hts⟩, hnm, hK, hba, hk6, ?_, ?_⟩ hO ⟨e1, e2, hW, va_S.rf, hz, rfl, fun a h1 h2 => absurd h2 (by rw [← hz]; exact Nat.not_lt.mpr h1)⟩ e3 (Nat.le_refl _) (Nat.le_refl _) (Nat.le_refl _) ⟨?_, ?_⟩ ?_
  · show 12 ≤ d + 12
    omega
  · show 1000 ≤ 64 * d + 1000
    omega
  · show mX σ' ≤ s.heap.size + (mX σ' - mX σ + 1)
    rw [hz]
    omega
  · show mS σ' ≤ mS σ + (mS σ' - mS σ + 6)
    omega
  · intro pc' lv' st' ls' H' locs' cells' slots' hact hLR hll hsl hW' hS' hX'
    have h1 := hX'.1
    have h2 := hX'.2.1
    rw [hz] at h1
    have hce : cells' + 1 ≤ mX σ' - mX σ + 1 := by omega
    have hsl2 : slots' + 6 ≤ mS σ' - mS σ + 6 := by omega
    rcases act_ret hact with ⟨hp, w, rfl, rfl, hi, -⟩ | ⟨-, w, -, -, hi, hr⟩ | ⟨-, -, -, h0⟩ | ⟨hp, -, rfl⟩
    · obtain ⟨x, rfl⟩ := isI_of hi
      cases hpg : pg k pc' with
      | mk i ln =>
      rw [hpg] at hp
      have hp : i = .ireturn := hp
      subst hp
      obtain ⟨real, hd, hrl⟩ := dec_of hk6 hpg (by intro h; cases h)
      simp only [relB, Bool.and_eq_true, decide_eq_true_eq] at hrl
      obtain ⟨hl1, rfl⟩ := hrl
      obtain rfl := beqT hl1
      refine W.widen (k := mX σ' - mX σ + 1) (n := mS σ' - mS σ + 6) (by omega) (by omega) (vx_ret (W.iret B.exec B.bytes (B.returns.trans hre) (fun t ht _ => ⟨⟨rfl, by rw [ht]; exact hW', hS'.F ht⟩, fun h => by cases h⟩) hS'.2.2 hd B.notSynchronized))
    · exfalso
      rw [hr6] at hr
      obtain ⟨y, rfl⟩ := isR_of hi
      cases y <;> simp [rok, isI, va_rf] at hr
    · omega
    · obtain ⟨is, hin⟩ := th_at hk hp
      obtain ⟨d0, d3, d4, d7, d10⟩ := th_dec _ hin
      have hT := hTh s hO
      obtain ⟨tx, sa, hstr⟩ := th_str hT _ hin
      rw [how] at hown
      have hpc : pc' ≤ 173 := by
        have := (show ∀ e ∈ thS, e.2.1 ≤ 173 by decide) _ hin
        exact this
      have hcs := cat_le2 st'
      refine thr_row (text := tx) (is := is) (sa := sa) (A := fun q => base ≤ q) B.exec B.bytes hl hown (hts _ tw_cl) (hts _ tw_ini) hstr (ns_hat hts hT) hT.1 hT.2.1 hS' (by rw [hLR.1, hll, hml]) d0 d3 d4 d7 d10 (fun x hx => (htab x hx).elim) ?_ ?_ ?_ ?_ B.notSynchronized (fun t ha hz1 hk1 => ⟨rfl, rfl, ⟨_, wh_bm hW' hz1 hk1⟩, ?_⟩) hS'.2.2 hce hsl2
      · show 2 + 3 < d + 12
        omega
      · show _ + (13 * (2 + 1) + 43) ≤ 64 * d + 1000
        omega
      · show cells' + 1 ≤ mX σ' - mX σ + 1
        exact hce
      · show slots' + 6 ≤ mS σ' - mS σ + 6
        exact hsl2
      · exact ⟨Nat.le_trans hS'.1 hz1, fun q h1 h2 => (hk1 q (Nat.lt_of_lt_of_le h1 hS'.1)).trans (hS'.2.1 q h1 h2)⟩
end T3
