/-! ===== SOUNDNESS: INSTRUCTIONS THAT GO STRAIGHT ON ===== -/
/-- what is fixed while method number k runs -/
def Fx (p : Program) (R : Room) (s : State) (mi : MethodId) (args : Array Value) (meth : Method) (c : Code) (D : va_G) (cid : Nat → ClassId) (base k : Nat) : Prop :=
  (p.tables.exec = Jvm.exec ∧ c.code = mby k ∧ c.maxLocals = mml k ∧ s.vm.findClass (own (mow k)) = some mi.cls ∧ (∀ w ∈ gw, w.before args s = true)) ∧ meth.name = (myn k).name ∧ va_K D vwCl (tyl cid) s ∧ base ≤ s.heap.size ∧ k < 196 ∧ 12 ≤ R.frames ∧ 1000 ≤ R.locals
/-- what a method has made so far: so many cells, so many slots, and all of them are memory -/
def Hx (s : State) (s0 cells slots : Nat) (σ : Mm) : Prop := s.heap.size + cells = mX σ ∧ s0 + slots = mS σ ∧ ∀ a, s.heap.size ≤ a → a < mX σ → a ∈ mL σ
section SND
variable {p : Program} {l : Launch} {e : Env} {R : Room} {s : State} {mi : MethodId} {args : Array Value} {below : List Frame} {meth : Method} {c : Code} {Q : State → Prop}
variable {D : va_G} {cid : Nat → ClassId} {base : Nat} {eP : Nat → Option Nat} {eI : Nat → Nat → Int32} {k pc ln : Nat} {lv st lv' st' : List Value} {σ σ' : Mm} {ls : Array Slot} {H : Heap} {locs : List Loc} {cells slots s0 : Nat}
/-- where it goes on -/
def Kt (p : Program) (l : Launch) (e : Env) (R : Room) (s : State) (mi : MethodId) (args : Array Value) (below : List Frame) (meth : Method) (c : Code) (Q : State → Prop) (D : va_G) (cid : Nat → ClassId) (base : Nat) (eP : Nat → Option Nat) (eI : Nat → Nat → Int32) (k s0 : Nat) (pc' : Nat) (lv' st' : List Value) (σ' : Mm) : Prop :=
  ∀ (ls' : Array Slot) (H' : Heap) (locs' : List Loc) (cells' slots' : Nat), LR ls' lv' → LV k lv' → Wh D cid base eP eI σ' H' → va_S (fun q => base ≤ q) s.heap H' locs' → Hx s s0 cells' slots' σ' → W p l e R s mi args below meth c H' locs' cells' slots' Q (F0 mi pc' ls' st')
/-- where it stands -/
def Ht (s : State) (D : va_G) (cid : Nat → ClassId) (base : Nat) (eP : Nat → Option Nat) (eI : Nat → Nat → Int32) (k s0 : Nat) (lv : List Value) (σ : Mm) (ls : Array Slot) (H : Heap) (locs : List Loc) (cells slots : Nat) : Prop :=
  LR ls lv ∧ LV k lv ∧ Wh D cid base eP eI σ H ∧ va_S (fun q => base ≤ q) s.heap H locs ∧ Hx s s0 cells slots σ
theorem Fx.hA (hF : Fx p R s mi args meth c D cid base k) : ∀ q, s.heap.size ≤ q → (fun q => base ≤ q) q := fun q h => Nat.le_trans hF.2.2.2.1 h
theorem sn_iadd (hF : Fx p R s mi args meth c D cid base k) (hp : pg k pc = (.iadd, ln)) (hH : Ht s D cid base eP eI k s0 lv σ ls H locs cells slots) (hst : st1 (.iadd) lv st σ = (true, lv', st', σ'))  (kk : Kt p l e R s mi args below meth c Q D cid base eP eI k s0 (pc + ln) lv' st' σ') : W p l e R s mi args below meth c H locs cells slots Q (F0 mi pc ls st) := by
  obtain ⟨⟨hx, hb, hml, hown, hts⟩, hnm, hK, hba, hk6, hfr, hlo⟩ := id hF
  obtain ⟨hL, hV, hW, hS, hX⟩ := hH
  obtain ⟨real, hd, hr⟩ := dec_of hk6 hp (by intro h; cases h)
  simp only [relB, Bool.and_eq_true, decide_eq_true_eq] at hr
  obtain ⟨h1, rfl⟩ := hr
  obtain rfl := beqT h1
  rcases st with _ | ⟨b, _ | ⟨a, r⟩⟩ <;> simp only [st1, Prod.mk.injEq, Bool.and_eq_true, decide_eq_true_eq, Bool.false_eq_true, false_and] at hst
  obtain ⟨⟨ha, hb2⟩, rfl, rfl, rfl⟩ := hst
  obtain ⟨x, rfl⟩ := isI_of ha
  obtain ⟨y, rfl⟩ := isI_of hb2
  exact lv_iadd hx hb hd (kk ls H locs cells slots hL hV hW hS hX)
theorem sn_isub (hF : Fx p R s mi args meth c D cid base k) (hp : pg k pc = (.isub, ln)) (hH : Ht s D cid base eP eI k s0 lv σ ls H locs cells slots) (hst : st1 (.isub) lv st σ = (true, lv', st', σ'))  (kk : Kt p l e R s mi args below meth c Q D cid base eP eI k s0 (pc + ln) lv' st' σ') : W p l e R s mi args below meth c H locs cells slots Q (F0 mi pc ls st) := by
  obtain ⟨⟨hx, hb, hml, hown, hts⟩, hnm, hK, hba, hk6, hfr, hlo⟩ := id hF
  obtain ⟨hL, hV, hW, hS, hX⟩ := hH
  obtain ⟨real, hd, hr⟩ := dec_of hk6 hp (by intro h; cases h)
  simp only [relB, Bool.and_eq_true, decide_eq_true_eq] at hr
  obtain ⟨h1, rfl⟩ := hr
  obtain rfl := beqT h1
  rcases st with _ | ⟨b, _ | ⟨a, r⟩⟩ <;> simp only [st1, Prod.mk.injEq, Bool.and_eq_true, decide_eq_true_eq, Bool.false_eq_true, false_and] at hst
  obtain ⟨⟨ha, hb2⟩, rfl, rfl, rfl⟩ := hst
  obtain ⟨x, rfl⟩ := isI_of ha
  obtain ⟨y, rfl⟩ := isI_of hb2
  exact lv_isub hx hb hd (kk ls H locs cells slots hL hV hW hS hX)
theorem sn_imul (hF : Fx p R s mi args meth c D cid base k) (hp : pg k pc = (.imul, ln)) (hH : Ht s D cid base eP eI k s0 lv σ ls H locs cells slots) (hst : st1 (.imul) lv st σ = (true, lv', st', σ'))  (kk : Kt p l e R s mi args below meth c Q D cid base eP eI k s0 (pc + ln) lv' st' σ') : W p l e R s mi args below meth c H locs cells slots Q (F0 mi pc ls st) := by
  obtain ⟨⟨hx, hb, hml, hown, hts⟩, hnm, hK, hba, hk6, hfr, hlo⟩ := id hF
  obtain ⟨hL, hV, hW, hS, hX⟩ := hH
  obtain ⟨real, hd, hr⟩ := dec_of hk6 hp (by intro h; cases h)
  simp only [relB, Bool.and_eq_true, decide_eq_true_eq] at hr
  obtain ⟨h1, rfl⟩ := hr
  obtain rfl := beqT h1
  rcases st with _ | ⟨b, _ | ⟨a, r⟩⟩ <;> simp only [st1, Prod.mk.injEq, Bool.and_eq_true, decide_eq_true_eq, Bool.false_eq_true, false_and] at hst
  obtain ⟨⟨ha, hb2⟩, rfl, rfl, rfl⟩ := hst
  obtain ⟨x, rfl⟩ := isI_of ha
  obtain ⟨y, rfl⟩ := isI_of hb2
  exact lv_imul hx hb hd (kk ls H locs cells slots hL hV hW hS hX)
theorem sn_iand (hF : Fx p R s mi args meth c D cid base k) (hp : pg k pc = (.iand, ln)) (hH : Ht s D cid base eP eI k s0 lv σ ls H locs cells slots) (hst : st1 (.iand) lv st σ = (true, lv', st', σ'))  (kk : Kt p l e R s mi args below meth c Q D cid base eP eI k s0 (pc + ln) lv' st' σ') : W p l e R s mi args below meth c H locs cells slots Q (F0 mi pc ls st) := by
  obtain ⟨⟨hx, hb, hml, hown, hts⟩, hnm, hK, hba, hk6, hfr, hlo⟩ := id hF
  obtain ⟨hL, hV, hW, hS, hX⟩ := hH
  obtain ⟨real, hd, hr⟩ := dec_of hk6 hp (by intro h; cases h)
  simp only [relB, Bool.and_eq_true, decide_eq_true_eq] at hr
  obtain ⟨h1, rfl⟩ := hr
  obtain rfl := beqT h1
  rcases st with _ | ⟨b, _ | ⟨a, r⟩⟩ <;> simp only [st1, Prod.mk.injEq, Bool.and_eq_true, decide_eq_true_eq, Bool.false_eq_true, false_and] at hst
  obtain ⟨⟨ha, hb2⟩, rfl, rfl, rfl⟩ := hst
  obtain ⟨x, rfl⟩ := isI_of ha
  obtain ⟨y, rfl⟩ := isI_of hb2
  exact lv_iand hx hb hd (kk ls H locs cells slots hL hV hW hS hX)
theorem sn_ior (hF : Fx p R s mi args meth c D cid base k) (hp : pg k pc = (.ior, ln)) (hH : Ht s D cid base eP eI k s0 lv σ ls H locs cells slots) (hst : st1 (.ior) lv st σ = (true, lv', st', σ'))  (kk : Kt p l e R s mi args below meth c Q D cid base eP eI k s0 (pc + ln) lv' st' σ') : W p l e R s mi args below meth c H locs cells slots Q (F0 mi pc ls st) := by
  obtain ⟨⟨hx, hb, hml, hown, hts⟩, hnm, hK, hba, hk6, hfr, hlo⟩ := id hF
  obtain ⟨hL, hV, hW, hS, hX⟩ := hH
  obtain ⟨real, hd, hr⟩ := dec_of hk6 hp (by intro h; cases h)
  simp only [relB, Bool.and_eq_true, decide_eq_true_eq] at hr
  obtain ⟨h1, rfl⟩ := hr
  obtain rfl := beqT h1
  rcases st with _ | ⟨b, _ | ⟨a, r⟩⟩ <;> simp only [st1, Prod.mk.injEq, Bool.and_eq_true, decide_eq_true_eq, Bool.false_eq_true, false_and] at hst
  obtain ⟨⟨ha, hb2⟩, rfl, rfl, rfl⟩ := hst
  obtain ⟨x, rfl⟩ := isI_of ha
  obtain ⟨y, rfl⟩ := isI_of hb2
  exact lv_ior hx hb hd (kk ls H locs cells slots hL hV hW hS hX)
theorem sn_ixor (hF : Fx p R s mi args meth c D cid base k) (hp : pg k pc = (.ixor, ln)) (hH : Ht s D cid base eP eI k s0 lv σ ls H locs cells slots) (hst : st1 (.ixor) lv st σ = (true, lv', st', σ'))  (kk : Kt p l e R s mi args below meth c Q D cid base eP eI k s0 (pc + ln) lv' st' σ') : W p l e R s mi args below meth c H locs cells slots Q (F0 mi pc ls st) := by
  obtain ⟨⟨hx, hb, hml, hown, hts⟩, hnm, hK, hba, hk6, hfr, hlo⟩ := id hF
  obtain ⟨hL, hV, hW, hS, hX⟩ := hH
  obtain ⟨real, hd, hr⟩ := dec_of hk6 hp (by intro h; cases h)
  simp only [relB, Bool.and_eq_true, decide_eq_true_eq] at hr
  obtain ⟨h1, rfl⟩ := hr
  obtain rfl := beqT h1
  rcases st with _ | ⟨b, _ | ⟨a, r⟩⟩ <;> simp only [st1, Prod.mk.injEq, Bool.and_eq_true, decide_eq_true_eq, Bool.false_eq_true, false_and] at hst
  obtain ⟨⟨ha, hb2⟩, rfl, rfl, rfl⟩ := hst
  obtain ⟨x, rfl⟩ := isI_of ha
  obtain ⟨y, rfl⟩ := isI_of hb2
  exact lv_ixor hx hb hd (kk ls H locs cells slots hL hV hW hS hX)
theorem sn_ishl (hF : Fx p R s mi args meth c D cid base k) (hp : pg k pc = (.ishl, ln)) (hH : Ht s D cid base eP eI k s0 lv σ ls H locs cells slots) (hst : st1 (.ishl) lv st σ = (true, lv', st', σ'))  (kk : Kt p l e R s mi args below meth c Q D cid base eP eI k s0 (pc + ln) lv' st' σ') : W p l e R s mi args below meth c H locs cells slots Q (F0 mi pc ls st) := by
  obtain ⟨⟨hx, hb, hml, hown, hts⟩, hnm, hK, hba, hk6, hfr, hlo⟩ := id hF
  obtain ⟨hL, hV, hW, hS, hX⟩ := hH
  obtain ⟨real, hd, hr⟩ := dec_of hk6 hp (by intro h; cases h)
  simp only [relB, Bool.and_eq_true, decide_eq_true_eq] at hr
  obtain ⟨h1, rfl⟩ := hr
  obtain rfl := beqT h1
  rcases st with _ | ⟨b, _ | ⟨a, r⟩⟩ <;> simp only [st1, Prod.mk.injEq, Bool.and_eq_true, decide_eq_true_eq, Bool.false_eq_true, false_and] at hst
  obtain ⟨⟨ha, hb2⟩, rfl, rfl, rfl⟩ := hst
  obtain ⟨x, rfl⟩ := isI_of ha
  obtain ⟨y, rfl⟩ := isI_of hb2
  exact lv_ishl hx hb hd (kk ls H locs cells slots hL hV hW hS hX)
theorem sn_ishr (hF : Fx p R s mi args meth c D cid base k) (hp : pg k pc = (.ishr, ln)) (hH : Ht s D cid base eP eI k s0 lv σ ls H locs cells slots) (hst : st1 (.ishr) lv st σ = (true, lv', st', σ'))  (kk : Kt p l e R s mi args below meth c Q D cid base eP eI k s0 (pc + ln) lv' st' σ') : W p l e R s mi args below meth c H locs cells slots Q (F0 mi pc ls st) := by
  obtain ⟨⟨hx, hb, hml, hown, hts⟩, hnm, hK, hba, hk6, hfr, hlo⟩ := id hF
  obtain ⟨hL, hV, hW, hS, hX⟩ := hH
  obtain ⟨real, hd, hr⟩ := dec_of hk6 hp (by intro h; cases h)
  simp only [relB, Bool.and_eq_true, decide_eq_true_eq] at hr
  obtain ⟨h1, rfl⟩ := hr
  obtain rfl := beqT h1
  rcases st with _ | ⟨b, _ | ⟨a, r⟩⟩ <;> simp only [st1, Prod.mk.injEq, Bool.and_eq_true, decide_eq_true_eq, Bool.false_eq_true, false_and] at hst
  obtain ⟨⟨ha, hb2⟩, rfl, rfl, rfl⟩ := hst
  obtain ⟨x, rfl⟩ := isI_of ha
  obtain ⟨y, rfl⟩ := isI_of hb2
  exact lv_ishr hx hb hd (kk ls H locs cells slots hL hV hW hS hX)
theorem sn_iushr (hF : Fx p R s mi args meth c D cid base k) (hp : pg k pc = (.iushr, ln)) (hH : Ht s D cid base eP eI k s0 lv σ ls H locs cells slots) (hst : st1 (.iushr) lv st σ = (true, lv', st', σ'))  (kk : Kt p l e R s mi args below meth c Q D cid base eP eI k s0 (pc + ln) lv' st' σ') : W p l e R s mi args below meth c H locs cells slots Q (F0 mi pc ls st) := by
  obtain ⟨⟨hx, hb, hml, hown, hts⟩, hnm, hK, hba, hk6, hfr, hlo⟩ := id hF
  obtain ⟨hL, hV, hW, hS, hX⟩ := hH
  obtain ⟨real, hd, hr⟩ := dec_of hk6 hp (by intro h; cases h)
  simp only [relB, Bool.and_eq_true, decide_eq_true_eq] at hr
  obtain ⟨h1, rfl⟩ := hr
  obtain rfl := beqT h1
  rcases st with _ | ⟨b, _ | ⟨a, r⟩⟩ <;> simp only [st1, Prod.mk.injEq, Bool.and_eq_true, decide_eq_true_eq, Bool.false_eq_true, false_and] at hst
  obtain ⟨⟨ha, hb2⟩, rfl, rfl, rfl⟩ := hst
  obtain ⟨x, rfl⟩ := isI_of ha
  obtain ⟨y, rfl⟩ := isI_of hb2
  exact lv_iushr hx hb hd rfl (kk ls H locs cells slots hL hV hW hS hX)
theorem sn_idiv (hF : Fx p R s mi args meth c D cid base k) (hp : pg k pc = (.idiv, ln)) (hH : Ht s D cid base eP eI k s0 lv σ ls H locs cells slots) (hst : st1 (.idiv) lv st σ = (true, lv', st', σ'))  (kk : Kt p l e R s mi args below meth c Q D cid base eP eI k s0 (pc + ln) lv' st' σ') : W p l e R s mi args below meth c H locs cells slots Q (F0 mi pc ls st) := by
  obtain ⟨⟨hx, hb, hml, hown, hts⟩, hnm, hK, hba, hk6, hfr, hlo⟩ := id hF
  obtain ⟨hL, hV, hW, hS, hX⟩ := hH
  obtain ⟨real, hd, hr⟩ := dec_of hk6 hp (by intro h; cases h)
  simp only [relB, Bool.and_eq_true, decide_eq_true_eq] at hr
  obtain ⟨h1, rfl⟩ := hr
  obtain rfl := beqT h1
  rcases st with _ | ⟨b, _ | ⟨a, r⟩⟩ <;> simp only [st1, Prod.mk.injEq, Bool.and_eq_true, decide_eq_true_eq, Bool.false_eq_true, false_and] at hst
  obtain ⟨⟨⟨ha, hb2⟩, hne⟩, rfl, rfl, rfl⟩ := hst
  obtain ⟨x, rfl⟩ := isI_of ha
  obtain ⟨y, rfl⟩ := isI_of hb2
  exact lv_idiv hx hb hd hne (kk ls H locs cells slots hL hV hW hS hX)
theorem sn_irem (hF : Fx p R s mi args meth c D cid base k) (hp : pg k pc = (.irem, ln)) (hH : Ht s D cid base eP eI k s0 lv σ ls H locs cells slots) (hst : st1 (.irem) lv st σ = (true, lv', st', σ'))  (kk : Kt p l e R s mi args below meth c Q D cid base eP eI k s0 (pc + ln) lv' st' σ') : W p l e R s mi args below meth c H locs cells slots Q (F0 mi pc ls st) := by
  obtain ⟨⟨hx, hb, hml, hown, hts⟩, hnm, hK, hba, hk6, hfr, hlo⟩ := id hF
  obtain ⟨hL, hV, hW, hS, hX⟩ := hH
  obtain ⟨real, hd, hr⟩ := dec_of hk6 hp (by intro h; cases h)
  simp only [relB, Bool.and_eq_true, decide_eq_true_eq] at hr
  obtain ⟨h1, rfl⟩ := hr
  obtain rfl := beqT h1
  rcases st with _ | ⟨b, _ | ⟨a, r⟩⟩ <;> simp only [st1, Prod.mk.injEq, Bool.and_eq_true, decide_eq_true_eq, Bool.false_eq_true, false_and] at hst
  obtain ⟨⟨⟨ha, hb2⟩, hne⟩, rfl, rfl, rfl⟩ := hst
  obtain ⟨x, rfl⟩ := isI_of ha
  obtain ⟨y, rfl⟩ := isI_of hb2
  exact lv_irem hx hb hd hne (kk ls H locs cells slots hL hV hW hS hX)
theorem sn_ineg (hF : Fx p R s mi args meth c D cid base k) (hp : pg k pc = (.ineg, ln)) (hH : Ht s D cid base eP eI k s0 lv σ ls H locs cells slots) (hst : st1 (.ineg) lv st σ = (true, lv', st', σ'))  (kk : Kt p l e R s mi args below meth c Q D cid base eP eI k s0 (pc + ln) lv' st' σ') : W p l e R s mi args below meth c H locs cells slots Q (F0 mi pc ls st) := by
  obtain ⟨⟨hx, hb, hml, hown, hts⟩, hnm, hK, hba, hk6, hfr, hlo⟩ := id hF
  obtain ⟨hL, hV, hW, hS, hX⟩ := hH
  obtain ⟨real, hd, hr⟩ := dec_of hk6 hp (by intro h; cases h)
  simp only [relB, Bool.and_eq_true, decide_eq_true_eq] at hr
  obtain ⟨h1, rfl⟩ := hr
  obtain rfl := beqT h1
  rcases st with _ | ⟨a, r⟩ <;> simp only [st1, Prod.mk.injEq, Bool.and_eq_true, decide_eq_true_eq, Bool.false_eq_true, false_and] at hst
  obtain ⟨ha, rfl, rfl, rfl⟩ := hst
  obtain ⟨x, rfl⟩ := isI_of ha
  exact lv_ineg hx hb hd (kk ls H locs cells slots hL hV hW hS hX)
theorem sn_i2b (hF : Fx p R s mi args meth c D cid base k) (hp : pg k pc = (.i2b, ln)) (hH : Ht s D cid base eP eI k s0 lv σ ls H locs cells slots) (hst : st1 (.i2b) lv st σ = (true, lv', st', σ'))  (kk : Kt p l e R s mi args below meth c Q D cid base eP eI k s0 (pc + ln) lv' st' σ') : W p l e R s mi args below meth c H locs cells slots Q (F0 mi pc ls st) := by
  obtain ⟨⟨hx, hb, hml, hown, hts⟩, hnm, hK, hba, hk6, hfr, hlo⟩ := id hF
  obtain ⟨hL, hV, hW, hS, hX⟩ := hH
  obtain ⟨real, hd, hr⟩ := dec_of hk6 hp (by intro h; cases h)
  simp only [relB, Bool.and_eq_true, decide_eq_true_eq] at hr
  obtain ⟨h1, rfl⟩ := hr
  obtain rfl := beqT h1
  rcases st with _ | ⟨a, r⟩ <;> simp only [st1, Prod.mk.injEq, Bool.and_eq_true, decide_eq_true_eq, Bool.false_eq_true, false_and] at hst
  obtain ⟨ha, rfl, rfl, rfl⟩ := hst
  obtain ⟨x, rfl⟩ := isI_of ha
  exact lv_i2b hx hb hd rfl (kk ls H locs cells slots hL hV hW hS hX)
theorem sn_i2c (hF : Fx p R s mi args meth c D cid base k) (hp : pg k pc = (.i2c, ln)) (hH : Ht s D cid base eP eI k s0 lv σ ls H locs cells slots) (hst : st1 (.i2c) lv st σ = (true, lv', st', σ'))  (kk : Kt p l e R s mi args below meth c Q D cid base eP eI k s0 (pc + ln) lv' st' σ') : W p l e R s mi args below meth c H locs cells slots Q (F0 mi pc ls st) := by
  obtain ⟨⟨hx, hb, hml, hown, hts⟩, hnm, hK, hba, hk6, hfr, hlo⟩ := id hF
  obtain ⟨hL, hV, hW, hS, hX⟩ := hH
  obtain ⟨real, hd, hr⟩ := dec_of hk6 hp (by intro h; cases h)
  simp only [relB, Bool.and_eq_true, decide_eq_true_eq] at hr
  obtain ⟨h1, rfl⟩ := hr
  obtain rfl := beqT h1
  rcases st with _ | ⟨a, r⟩ <;> simp only [st1, Prod.mk.injEq, Bool.and_eq_true, decide_eq_true_eq, Bool.false_eq_true, false_and] at hst
  obtain ⟨ha, rfl, rfl, rfl⟩ := hst
  obtain ⟨x, rfl⟩ := isI_of ha
  exact lv_i2c hx hb hd rfl (kk ls H locs cells slots hL hV hW hS hX)
theorem sn_i2l (hF : Fx p R s mi args meth c D cid base k) (hp : pg k pc = (.i2l, ln)) (hH : Ht s D cid base eP eI k s0 lv σ ls H locs cells slots) (hst : st1 (.i2l) lv st σ = (true, lv', st', σ'))  (kk : Kt p l e R s mi args below meth c Q D cid base eP eI k s0 (pc + ln) lv' st' σ') : W p l e R s mi args below meth c H locs cells slots Q (F0 mi pc ls st) := by
  obtain ⟨⟨hx, hb, hml, hown, hts⟩, hnm, hK, hba, hk6, hfr, hlo⟩ := id hF
  obtain ⟨hL, hV, hW, hS, hX⟩ := hH
  obtain ⟨real, hd, hr⟩ := dec_of hk6 hp (by intro h; cases h)
  simp only [relB, Bool.and_eq_true, decide_eq_true_eq] at hr
  obtain ⟨h1, rfl⟩ := hr
  obtain rfl := beqT h1
  rcases st with _ | ⟨a, r⟩ <;> simp only [st1, Prod.mk.injEq, Bool.and_eq_true, decide_eq_true_eq, Bool.false_eq_true, false_and] at hst
  obtain ⟨ha, rfl, rfl, rfl⟩ := hst
  obtain ⟨x, rfl⟩ := isI_of ha
  exact lv_i2l hx hb hd rfl (kk ls H locs cells slots hL hV hW hS hX)
theorem sn_lshl (hF : Fx p R s mi args meth c D cid base k) (hp : pg k pc = (.lshl, ln)) (hH : Ht s D cid base eP eI k s0 lv σ ls H locs cells slots) (hst : st1 (.lshl) lv st σ = (true, lv', st', σ'))  (kk : Kt p l e R s mi args below meth c Q D cid base eP eI k s0 (pc + ln) lv' st' σ') : W p l e R s mi args below meth c H locs cells slots Q (F0 mi pc ls st) := by
  obtain ⟨⟨hx, hb, hml, hown, hts⟩, hnm, hK, hba, hk6, hfr, hlo⟩ := id hF
  obtain ⟨hL, hV, hW, hS, hX⟩ := hH
  obtain ⟨real, hd, hr⟩ := dec_of hk6 hp (by intro h; cases h)
  simp only [relB, Bool.and_eq_true, decide_eq_true_eq] at hr
  obtain ⟨h1, rfl⟩ := hr
  obtain rfl := beqT h1
  rcases st with _ | ⟨b, _ | ⟨a, r⟩⟩ <;> simp only [st1, Prod.mk.injEq, Bool.and_eq_true, decide_eq_true_eq, Bool.false_eq_true, false_and] at hst
  obtain ⟨⟨ha, hb2⟩, rfl, rfl, rfl⟩ := hst
  obtain ⟨x, rfl⟩ := isL_of ha
  obtain ⟨y, rfl⟩ := isI_of hb2
  exact lv_lshl hx hb hd rfl (kk ls H locs cells slots hL hV hW hS hX)
theorem sn_lor (hF : Fx p R s mi args meth c D cid base k) (hp : pg k pc = (.lor, ln)) (hH : Ht s D cid base eP eI k s0 lv σ ls H locs cells slots) (hst : st1 (.lor) lv st σ = (true, lv', st', σ'))  (kk : Kt p l e R s mi args below meth c Q D cid base eP eI k s0 (pc + ln) lv' st' σ') : W p l e R s mi args below meth c H locs cells slots Q (F0 mi pc ls st) := by
  obtain ⟨⟨hx, hb, hml, hown, hts⟩, hnm, hK, hba, hk6, hfr, hlo⟩ := id hF
  obtain ⟨hL, hV, hW, hS, hX⟩ := hH
  obtain ⟨real, hd, hr⟩ := dec_of hk6 hp (by intro h; cases h)
  simp only [relB, Bool.and_eq_true, decide_eq_true_eq] at hr
  obtain ⟨h1, rfl⟩ := hr
  obtain rfl := beqT h1
  rcases st with _ | ⟨b, _ | ⟨a, r⟩⟩ <;> simp only [st1, Prod.mk.injEq, Bool.and_eq_true, decide_eq_true_eq, Bool.false_eq_true, false_and] at hst
  obtain ⟨⟨ha, hb2⟩, rfl, rfl, rfl⟩ := hst
  obtain ⟨x, rfl⟩ := isL_of ha
  obtain ⟨y, rfl⟩ := isL_of hb2
  exact lv_lor hx hb hd (kk ls H locs cells slots hL hV hW hS hX)
theorem sn_lcmp (hF : Fx p R s mi args meth c D cid base k) (hp : pg k pc = (.lcmp, ln)) (hH : Ht s D cid base eP eI k s0 lv σ ls H locs cells slots) (hst : st1 (.lcmp) lv st σ = (true, lv', st', σ'))  (kk : Kt p l e R s mi args below meth c Q D cid base eP eI k s0 (pc + ln) lv' st' σ') : W p l e R s mi args below meth c H locs cells slots Q (F0 mi pc ls st) := by
  obtain ⟨⟨hx, hb, hml, hown, hts⟩, hnm, hK, hba, hk6, hfr, hlo⟩ := id hF
  obtain ⟨hL, hV, hW, hS, hX⟩ := hH
  obtain ⟨real, hd, hr⟩ := dec_of hk6 hp (by intro h; cases h)
  simp only [relB, Bool.and_eq_true, decide_eq_true_eq] at hr
  obtain ⟨h1, rfl⟩ := hr
  obtain rfl := beqT h1
  rcases st with _ | ⟨b, _ | ⟨a, r⟩⟩ <;> simp only [st1, Prod.mk.injEq, Bool.and_eq_true, decide_eq_true_eq, Bool.false_eq_true, false_and] at hst
  obtain ⟨⟨ha, hb2⟩, rfl, rfl, rfl⟩ := hst
  obtain ⟨x, rfl⟩ := isL_of ha
  obtain ⟨y, rfl⟩ := isL_of hb2
  exact W.lcmp hx hb hd (kk ls H locs cells slots hL hV hW hS hX)
theorem sn_dup (hF : Fx p R s mi args meth c D cid base k) (hp : pg k pc = (.dup, ln)) (hH : Ht s D cid base eP eI k s0 lv σ ls H locs cells slots) (hst : st1 (.dup) lv st σ = (true, lv', st', σ'))  (kk : Kt p l e R s mi args below meth c Q D cid base eP eI k s0 (pc + ln) lv' st' σ') : W p l e R s mi args below meth c H locs cells slots Q (F0 mi pc ls st) := by
  obtain ⟨⟨hx, hb, hml, hown, hts⟩, hnm, hK, hba, hk6, hfr, hlo⟩ := id hF
  obtain ⟨hL, hV, hW, hS, hX⟩ := hH
  obtain ⟨real, hd, hr⟩ := dec_of hk6 hp (by intro h; cases h)
  simp only [relB, Bool.and_eq_true, decide_eq_true_eq] at hr
  obtain ⟨h1, rfl⟩ := hr
  obtain rfl := beqT h1
  rcases st with _ | ⟨a, r⟩ <;> simp only [st1, Prod.mk.injEq, Bool.and_eq_true, decide_eq_true_eq, Bool.false_eq_true, false_and] at hst
  obtain ⟨ha, rfl, rfl, rfl⟩ := hst
  exact lv_dup hx hb hd (isIR_cat ha) (kk ls H locs cells slots hL hV hW hS hX)
theorem sn_pop (hF : Fx p R s mi args meth c D cid base k) (hp : pg k pc = (.pop, ln)) (hH : Ht s D cid base eP eI k s0 lv σ ls H locs cells slots) (hst : st1 (.pop) lv st σ = (true, lv', st', σ'))  (kk : Kt p l e R s mi args below meth c Q D cid base eP eI k s0 (pc + ln) lv' st' σ') : W p l e R s mi args below meth c H locs cells slots Q (F0 mi pc ls st) := by
  obtain ⟨⟨hx, hb, hml, hown, hts⟩, hnm, hK, hba, hk6, hfr, hlo⟩ := id hF
  obtain ⟨hL, hV, hW, hS, hX⟩ := hH
  obtain ⟨real, hd, hr⟩ := dec_of hk6 hp (by intro h; cases h)
  simp only [relB, Bool.and_eq_true, decide_eq_true_eq] at hr
  obtain ⟨h1, rfl⟩ := hr
  obtain rfl := beqT h1
  rcases st with _ | ⟨a, r⟩ <;> simp only [st1, Prod.mk.injEq, Bool.and_eq_true, decide_eq_true_eq, Bool.false_eq_true, false_and] at hst
  obtain ⟨ha, rfl, rfl, rfl⟩ := hst
  exact lv_pop hx hb hd (isIR_cat ha) (kk ls H locs cells slots hL hV hW hS hX)
theorem sn_dup2 (hF : Fx p R s mi args meth c D cid base k) (hp : pg k pc = (.dup2, ln)) (hH : Ht s D cid base eP eI k s0 lv σ ls H locs cells slots) (hst : st1 (.dup2) lv st σ = (true, lv', st', σ'))  (kk : Kt p l e R s mi args below meth c Q D cid base eP eI k s0 (pc + ln) lv' st' σ') : W p l e R s mi args below meth c H locs cells slots Q (F0 mi pc ls st) := by
  obtain ⟨⟨hx, hb, hml, hown, hts⟩, hnm, hK, hba, hk6, hfr, hlo⟩ := id hF
  obtain ⟨hL, hV, hW, hS, hX⟩ := hH
  obtain ⟨real, hd, hr⟩ := dec_of hk6 hp (by intro h; cases h)
  simp only [relB, Bool.and_eq_true, decide_eq_true_eq] at hr
  obtain ⟨h1, rfl⟩ := hr
  obtain rfl := beqT h1
  rcases st with _ | ⟨a, _ | ⟨b, r⟩⟩ <;> simp only [st1, Prod.mk.injEq, Bool.and_eq_true, decide_eq_true_eq, Bool.false_eq_true, false_and] at hst
  obtain ⟨⟨ha, hb2⟩, rfl, rfl, rfl⟩ := hst
  exact lv_dup2_11 hx hb hd (isIR_cat ha) (isIR_cat hb2) (kk ls H locs cells slots hL hV hW hS hX)
theorem sn_dup_x1 (hF : Fx p R s mi args meth c D cid base k) (hp : pg k pc = (.dup_x1, ln)) (hH : Ht s D cid base eP eI k s0 lv σ ls H locs cells slots) (hst : st1 (.dup_x1) lv st σ = (true, lv', st', σ'))  (kk : Kt p l e R s mi args below meth c Q D cid base eP eI k s0 (pc + ln) lv' st' σ') : W p l e R s mi args below meth c H locs cells slots Q (F0 mi pc ls st) := by
  obtain ⟨⟨hx, hb, hml, hown, hts⟩, hnm, hK, hba, hk6, hfr, hlo⟩ := id hF
  obtain ⟨hL, hV, hW, hS, hX⟩ := hH
  obtain ⟨real, hd, hr⟩ := dec_of hk6 hp (by intro h; cases h)
  simp only [relB, Bool.and_eq_true, decide_eq_true_eq] at hr
  obtain ⟨h1, rfl⟩ := hr
  obtain rfl := beqT h1
  rcases st with _ | ⟨a, _ | ⟨b, r⟩⟩ <;> simp only [st1, Prod.mk.injEq, Bool.and_eq_true, decide_eq_true_eq, Bool.false_eq_true, false_and] at hst
  obtain ⟨⟨ha, hb2⟩, rfl, rfl, rfl⟩ := hst
  exact lv_dup_x1 hx hb hd (isIR_cat ha) (isIR_cat hb2) (kk ls H locs cells slots hL hV hW hS hX)
theorem sn_aconst_null (hF : Fx p R s mi args meth c D cid base k) (hp : pg k pc = (.aconst_null, ln)) (hH : Ht s D cid base eP eI k s0 lv σ ls H locs cells slots) (hst : st1 (.aconst_null) lv st σ = (true, lv', st', σ'))  (kk : Kt p l e R s mi args below meth c Q D cid base eP eI k s0 (pc + ln) lv' st' σ') : W p l e R s mi args below meth c H locs cells slots Q (F0 mi pc ls st) := by
  obtain ⟨⟨hx, hb, hml, hown, hts⟩, hnm, hK, hba, hk6, hfr, hlo⟩ := id hF
  obtain ⟨hL, hV, hW, hS, hX⟩ := hH
  obtain ⟨real, hd, hr⟩ := dec_of hk6 hp (by intro h; cases h)
  simp only [relB, Bool.and_eq_true, decide_eq_true_eq] at hr
  obtain ⟨h1, rfl⟩ := hr
  obtain rfl := beqT h1
  simp only [st1, Prod.mk.injEq, Bool.and_eq_true, decide_eq_true_eq, Bool.false_eq_true, false_and] at hst
  obtain ⟨-, rfl, rfl, rfl⟩ := hst
  exact lv_null hx hb hd (kk ls H locs cells slots hL hV hW hS hX)
theorem sn_ldc {n : Nat} (hF : Fx p R s mi args meth c D cid base k) (hp : pg k pc = (.ldc n, ln)) (hH : Ht s D cid base eP eI k s0 lv σ ls H locs cells slots) (hst : st1 (.ldc n) lv st σ = (true, lv', st', σ'))  (kk : Kt p l e R s mi args below meth c Q D cid base eP eI k s0 (pc + ln) lv' st' σ') : W p l e R s mi args below meth c H locs cells slots Q (F0 mi pc ls st) := by
  obtain ⟨⟨hx, hb, hml, hown, hts⟩, hnm, hK, hba, hk6, hfr, hlo⟩ := id hF
  obtain ⟨hL, hV, hW, hS, hX⟩ := hH
  obtain ⟨real, hd, hr⟩ := dec_of hk6 hp (by intro h; cases h)
  simp only [st1, Prod.mk.injEq, Bool.and_eq_true, decide_eq_true_eq, Bool.false_eq_true, false_and] at hst
  obtain ⟨-, rfl, rfl, rfl⟩ := hst
  simp only [relB] at hr
  split at hr
  · simp only [Bool.and_eq_true, decide_eq_true_eq] at hr
    obtain ⟨h1, h2⟩ := hr
    obtain rfl := beqT h1
    exact lv_iconst hx hb hd h2 (kk ls H locs cells slots hL hV hW hS hX)
  · simp only [Bool.and_eq_true, decide_eq_true_eq] at hr
    obtain ⟨h1, h2⟩ := hr
    obtain rfl := beqT h1
    exact lv_bipush hx hb hd h2 (kk ls H locs cells slots hL hV hW hS hX)
  · simp only [Bool.and_eq_true, decide_eq_true_eq] at hr
    obtain ⟨h1, h2⟩ := hr
    obtain rfl := beqT h1
    exact lv_sipush hx hb hd h2 (kk ls H locs cells slots hL hV hW hS hX)
  · simp only [Bool.and_eq_true, decide_eq_true_eq] at hr
    obtain ⟨h1, h2⟩ := hr
    obtain rfl := beqT h1
    exact lv_ldc hx hb hown (hts _ (ko_ok _ h2)) hd (kk ls H locs cells slots hL hV hW hS hX)
  · simp only [Bool.and_eq_true, decide_eq_true_eq] at hr
    obtain ⟨h1, h2⟩ := hr
    obtain rfl := beqT h1
    exact lv_ldcw hx hb hown (hts _ (ko_ok _ h2)) hd (kk ls H locs cells slots hL hV hW hS hX)
  · cases hr
theorem sn_ldc2_w {n : Nat} (hF : Fx p R s mi args meth c D cid base k) (hp : pg k pc = (.ldc2_w n, ln)) (hH : Ht s D cid base eP eI k s0 lv σ ls H locs cells slots) (hst : st1 (.ldc2_w n) lv st σ = (true, lv', st', σ'))  (kk : Kt p l e R s mi args below meth c Q D cid base eP eI k s0 (pc + ln) lv' st' σ') : W p l e R s mi args below meth c H locs cells slots Q (F0 mi pc ls st) := by
  obtain ⟨⟨hx, hb, hml, hown, hts⟩, hnm, hK, hba, hk6, hfr, hlo⟩ := id hF
  obtain ⟨hL, hV, hW, hS, hX⟩ := hH
  obtain ⟨real, hd, hr⟩ := dec_of hk6 hp (by intro h; cases h)
  simp only [st1, Prod.mk.injEq, Bool.and_eq_true, decide_eq_true_eq, Bool.false_eq_true, false_and] at hst
  obtain ⟨-, rfl, rfl, rfl⟩ := hst
  simp only [relB] at hr
  split at hr
  · simp only [Bool.and_eq_true, decide_eq_true_eq] at hr
    obtain ⟨h1, h2⟩ := hr
    obtain rfl := beqT h1
    exact lv_ldc2 hx hb hown (hts _ (kl_ok _ h2)) hd (kk ls H locs cells slots hL hV hW hS hX)
  · simp only [Bool.and_eq_true, decide_eq_true_eq] at hr
    obtain ⟨h1, h2⟩ := hr
    obtain rfl := beqT h1
    exact lv_lconst hx hb hd h2 (kk ls H locs cells slots hL hV hW hS hX)
  · cases hr
theorem sn_iload {n : Nat} (hF : Fx p R s mi args meth c D cid base k) (hp : pg k pc = (.iload n, ln)) (hH : Ht s D cid base eP eI k s0 lv σ ls H locs cells slots) (hst : st1 (.iload n) lv st σ = (true, lv', st', σ'))  (kk : Kt p l e R s mi args below meth c Q D cid base eP eI k s0 (pc + ln) lv' st' σ') : W p l e R s mi args below meth c H locs cells slots Q (F0 mi pc ls st) := by
  obtain ⟨⟨hx, hb, hml, hown, hts⟩, hnm, hK, hba, hk6, hfr, hlo⟩ := id hF
  obtain ⟨hL, hV, hW, hS, hX⟩ := hH
  obtain ⟨real, hd, hr⟩ := dec_of hk6 hp (by intro h; cases h)
  simp only [st1, Prod.mk.injEq, Bool.and_eq_true, decide_eq_true_eq, Bool.false_eq_true, false_and] at hst
  obtain ⟨ha, rfl, rfl, rfl⟩ := hst
  obtain ⟨x, hxv⟩ := isI_of ha
  rw [hxv] at kk
  simp only [relB] at hr
  split at hr
  · simp only [Bool.and_eq_true, decide_eq_true_eq] at hr
    obtain ⟨h1, h2⟩ := hr
    obtain rfl := beqT h1
    exact lv_iload_n hx hb hd h2 (hL.get hxv (by intro h; cases h)) (kk ls H locs cells slots hL hV hW hS hX)
  · simp only [Bool.and_eq_true, decide_eq_true_eq] at hr
    obtain ⟨h1, h2⟩ := hr
    obtain rfl := beqT h1
    subst h2
    exact lv_iload hx hb hd (hL.get hxv (by intro h; cases h)) (kk ls H locs cells slots hL hV hW hS hX)
  · cases hr
theorem sn_lload {n : Nat} (hF : Fx p R s mi args meth c D cid base k) (hp : pg k pc = (.lload n, ln)) (hH : Ht s D cid base eP eI k s0 lv σ ls H locs cells slots) (hst : st1 (.lload n) lv st σ = (true, lv', st', σ'))  (kk : Kt p l e R s mi args below meth c Q D cid base eP eI k s0 (pc + ln) lv' st' σ') : W p l e R s mi args below meth c H locs cells slots Q (F0 mi pc ls st) := by
  obtain ⟨⟨hx, hb, hml, hown, hts⟩, hnm, hK, hba, hk6, hfr, hlo⟩ := id hF
  obtain ⟨hL, hV, hW, hS, hX⟩ := hH
  obtain ⟨real, hd, hr⟩ := dec_of hk6 hp (by intro h; cases h)
  simp only [st1, Prod.mk.injEq, Bool.and_eq_true, decide_eq_true_eq, Bool.false_eq_true, false_and] at hst
  obtain ⟨ha, rfl, rfl, rfl⟩ := hst
  obtain ⟨x, hxv⟩ := isL_of ha
  rw [hxv] at kk
  simp only [relB] at hr
  split at hr
  · simp only [Bool.and_eq_true, decide_eq_true_eq] at hr
    obtain ⟨h1, h2⟩ := hr
    obtain rfl := beqT h1
    exact lv_lload_n hx hb hd h2.1 (hL.get hxv (by intro h; cases h)) (kk ls H locs cells slots hL hV hW hS hX)
  · cases hr
theorem sn_aload {n : Nat} (hF : Fx p R s mi args meth c D cid base k) (hp : pg k pc = (.aload n, ln)) (hH : Ht s D cid base eP eI k s0 lv σ ls H locs cells slots) (hst : st1 (.aload n) lv st σ = (true, lv', st', σ'))  (kk : Kt p l e R s mi args below meth c Q D cid base eP eI k s0 (pc + ln) lv' st' σ') : W p l e R s mi args below meth c H locs cells slots Q (F0 mi pc ls st) := by
  obtain ⟨⟨hx, hb, hml, hown, hts⟩, hnm, hK, hba, hk6, hfr, hlo⟩ := id hF
  obtain ⟨hL, hV, hW, hS, hX⟩ := hH
  obtain ⟨real, hd, hr⟩ := dec_of hk6 hp (by intro h; cases h)
  simp only [st1, Prod.mk.injEq, Bool.and_eq_true, decide_eq_true_eq, Bool.false_eq_true, false_and] at hst
  obtain ⟨ha, rfl, rfl, rfl⟩ := hst
  obtain ⟨x, hxv⟩ := isR_of ha
  rw [hxv] at kk
  simp only [relB] at hr
  split at hr
  · simp only [Bool.and_eq_true, decide_eq_true_eq] at hr
    obtain ⟨h1, h2⟩ := hr
    obtain rfl := beqT h1
    cases x with
    | none => exact lv_aload_nN hx hb hd h2 (hL.get hxv (by intro h; cases h)) (kk ls H locs cells slots hL hV hW hS hX)
    | some q => exact lv_aload_n hx hb hd h2 (hL.get hxv (by intro h; cases h)) (kk ls H locs cells slots hL hV hW hS hX)
  · simp only [Bool.and_eq_true, decide_eq_true_eq] at hr
    obtain ⟨h1, h2⟩ := hr
    obtain rfl := beqT h1
    subst h2
    cases x with
    | none => exact lv_aloadN hx hb hd (hL.get hxv (by intro h; cases h)) (kk ls H locs cells slots hL hV hW hS hX)
    | some q => exact lv_aload hx hb hd (hL.get hxv (by intro h; cases h)) (kk ls H locs cells slots hL hV hW hS hX)
  · cases hr
theorem sn_istore {n : Nat} (hF : Fx p R s mi args meth c D cid base k) (hp : pg k pc = (.istore n, ln)) (hH : Ht s D cid base eP eI k s0 lv σ ls H locs cells slots) (hst : st1 (.istore n) lv st σ = (true, lv', st', σ'))  (kk : Kt p l e R s mi args below meth c Q D cid base eP eI k s0 (pc + ln) lv' st' σ') : W p l e R s mi args below meth c H locs cells slots Q (F0 mi pc ls st) := by
  obtain ⟨⟨hx, hb, hml, hown, hts⟩, hnm, hK, hba, hk6, hfr, hlo⟩ := id hF
  obtain ⟨hL, hV, hW, hS, hX⟩ := hH
  obtain ⟨real, hd, hr⟩ := dec_of hk6 hp (by intro h; cases h)
  rcases st with _ | ⟨v, r⟩ <;> simp only [st1, Prod.mk.injEq, Bool.and_eq_true, decide_eq_true_eq, Bool.false_eq_true, false_and] at hst
  obtain ⟨⟨ha, hl⟩, rfl, rfl, rfl⟩ := hst
  obtain ⟨x, rfl⟩ := isI_of ha
  simp only [relB] at hr
  split at hr
  · simp only [Bool.and_eq_true, decide_eq_true_eq] at hr
    obtain ⟨h1, h2⟩ := hr
    obtain rfl := beqT h1
    exact lv_istore_n hx hb hd h2.1 hL.has hl rfl (fun ls' h' => kk ls' H locs cells slots (LR.set1 hl (fun w => hV.no h2.2 w) h') (hV.set rfl) hW hS hX)
  · simp only [Bool.and_eq_true, decide_eq_true_eq] at hr
    obtain ⟨h1, h2⟩ := hr
    obtain rfl := beqT h1
    obtain ⟨rfl, h2⟩ := h2
    exact lv_istore hx hb hd hL.has hl rfl (fun ls' h' => kk ls' H locs cells slots (LR.set1 hl (fun w => hV.no h2 w) h') (hV.set rfl) hW hS hX)
  · cases hr
theorem sn_astore {n : Nat} (hF : Fx p R s mi args meth c D cid base k) (hp : pg k pc = (.astore n, ln)) (hH : Ht s D cid base eP eI k s0 lv σ ls H locs cells slots) (hst : st1 (.astore n) lv st σ = (true, lv', st', σ'))  (kk : Kt p l e R s mi args below meth c Q D cid base eP eI k s0 (pc + ln) lv' st' σ') : W p l e R s mi args below meth c H locs cells slots Q (F0 mi pc ls st) := by
  obtain ⟨⟨hx, hb, hml, hown, hts⟩, hnm, hK, hba, hk6, hfr, hlo⟩ := id hF
  obtain ⟨hL, hV, hW, hS, hX⟩ := hH
  obtain ⟨real, hd, hr⟩ := dec_of hk6 hp (by intro h; cases h)
  rcases st with _ | ⟨v, r⟩ <;> simp only [st1, Prod.mk.injEq, Bool.and_eq_true, decide_eq_true_eq, Bool.false_eq_true, false_and] at hst
  obtain ⟨⟨ha, hl⟩, rfl, rfl, rfl⟩ := hst
  obtain ⟨x, rfl⟩ := isR_of ha
  simp only [relB] at hr
  split at hr
  · simp only [Bool.and_eq_true, decide_eq_true_eq] at hr
    obtain ⟨h1, h2⟩ := hr
    obtain rfl := beqT h1
    cases x with
    | none => exact lv_astore_nN hx hb hd h2.1 hL.has hl rfl (fun ls' h' => kk ls' H locs cells slots (LR.set1 hl (fun w => hV.no h2.2 w) h') (hV.set rfl) hW hS hX)
    | some q => exact lv_astore_n hx hb hd h2.1 hL.has hl rfl (fun ls' h' => kk ls' H locs cells slots (LR.set1 hl (fun w => hV.no h2.2 w) h') (hV.set rfl) hW hS hX)
  · simp only [Bool.and_eq_true, decide_eq_true_eq] at hr
    obtain ⟨h1, h2⟩ := hr
    obtain rfl := beqT h1
    obtain ⟨rfl, h2⟩ := h2
    cases x with
    | none => exact lv_astoreN hx hb hd hL.has hl rfl (fun ls' h' => kk ls' H locs cells slots (LR.set1 hl (fun w => hV.no h2 w) h') (hV.set rfl) hW hS hX)
    | some q => exact lv_astore hx hb hd hL.has hl rfl (fun ls' h' => kk ls' H locs cells slots (LR.set1 hl (fun w => hV.no h2 w) h') (hV.set rfl) hW hS hX)
  · cases hr
theorem lpr_at {lv : List Value} {n : Nat} {v : Value} (h : lv.getD n uu = v) (hv : v ≠ uu) : n < lv.length ∧ ∃ q : Nat, (lpr lv)[q]? = some (n, v) := by
  rw [List.getD_eq_getElem?_getD] at h
  cases hq : lv[n]? with
  | none => rw [hq] at h; exact absurd h.symm hv
  | some w =>
    rw [hq] at h
    have h : w = v := h
    subst h
    exact ⟨(List.getElem?_eq_some_iff.mp hq).1, List.getElem?_of_mem (mem_lpr.mpr ⟨hq, hv⟩)⟩
theorem sn_iinc {n : Nat} {z : Int} (hF : Fx p R s mi args meth c D cid base k) (hp : pg k pc = (.iinc n z, ln)) (hH : Ht s D cid base eP eI k s0 lv σ ls H locs cells slots) (hst : st1 (.iinc n z) lv st σ = (true, lv', st', σ'))  (kk : Kt p l e R s mi args below meth c Q D cid base eP eI k s0 (pc + ln) lv' st' σ') : W p l e R s mi args below meth c H locs cells slots Q (F0 mi pc ls st) := by
  obtain ⟨⟨hx, hb, hml, hown, hts⟩, hnm, hK, hba, hk6, hfr, hlo⟩ := id hF
  obtain ⟨hL, hV, hW, hS, hX⟩ := hH
  obtain ⟨real, hd, hr⟩ := dec_of hk6 hp (by intro h; cases h)
  simp only [st1, Prod.mk.injEq, Bool.and_eq_true, decide_eq_true_eq, Bool.false_eq_true, false_and] at hst
  obtain ⟨ha, rfl, rfl, rfl⟩ := hst
  obtain ⟨x, hxv⟩ := isI_of ha
  rw [hxv] at kk
  obtain ⟨hl, q, hq⟩ := lpr_at hxv (by intro h; cases h)
  simp only [relB] at hr
  split at hr
  · simp only [Bool.and_eq_true, decide_eq_true_eq] at hr
    obtain ⟨h1, h2⟩ := hr
    obtain rfl := beqT h1
    obtain ⟨rfl, h2, h3⟩ := h2
    exact lv_iinc hx hb hd hL.has hq (by rw [h2]; rfl) hl rfl (fun ls' h' => kk ls' H locs cells slots (LR.set1 hl (fun w => hV.no h3 w) h') (hV.set rfl) hW hS hX)
  · cases hr
theorem sn_lstore {n : Nat} (hF : Fx p R s mi args meth c D cid base k) (hp : pg k pc = (.lstore n, ln)) (hH : Ht s D cid base eP eI k s0 lv σ ls H locs cells slots) (hst : st1 (.lstore n) lv st σ = (true, lv', st', σ'))  (kk : Kt p l e R s mi args below meth c Q D cid base eP eI k s0 (pc + ln) lv' st' σ') : W p l e R s mi args below meth c H locs cells slots Q (F0 mi pc ls st) := by
  obtain ⟨⟨hx, hb, hml, hown, hts⟩, hnm, hK, hba, hk6, hfr, hlo⟩ := id hF
  obtain ⟨hL, hV, hW, hS, hX⟩ := hH
  obtain ⟨real, hd, hr⟩ := dec_of hk6 hp (by intro h; cases h)
  rcases st with _ | ⟨v, r⟩ <;> simp only [st1, Prod.mk.injEq, Bool.and_eq_true, decide_eq_true_eq, Bool.false_eq_true, false_and] at hst
  obtain ⟨⟨⟨ha, hl⟩, hn⟩, rfl, rfl, rfl⟩ := hst
  obtain ⟨x, rfl⟩ := isL_of ha
  simp only [relB] at hr
  split at hr
  · simp only [Bool.and_eq_true, decide_eq_true_eq] at hr
    obtain ⟨h1, h2⟩ := hr
    obtain rfl := beqT h1
    obtain ⟨h2, hm, h3⟩ := h2
    exact lv_lstore_n hx hb hd h2 hL.has hl rfl (fun ls' h' => kk ls' H locs cells slots (LR.set2 hl (fun w => notL_cat hV hn w) h') ((hV.setT hm (Or.inr rfl)).setT hm (Or.inl rfl)) hW hS hX)
  · cases hr
theorem sn_fstore {n : Nat} (hF : Fx p R s mi args meth c D cid base k) (hp : pg k pc = (.fstore n, ln)) (hH : Ht s D cid base eP eI k s0 lv σ ls H locs cells slots) (hst : st1 (.fstore n) lv st σ = (true, lv', st', σ'))  (kk : Kt p l e R s mi args below meth c Q D cid base eP eI k s0 (pc + ln) lv' st' σ') : W p l e R s mi args below meth c H locs cells slots Q (F0 mi pc ls st) := by
  obtain ⟨⟨hx, hb, hml, hown, hts⟩, hnm, hK, hba, hk6, hfr, hlo⟩ := id hF
  obtain ⟨hL, hV, hW, hS, hX⟩ := hH
  obtain ⟨real, hd, hr⟩ := dec_of hk6 hp (by intro h; cases h)
  rcases st with _ | ⟨v, r⟩ <;> simp only [st1, Prod.mk.injEq, Bool.and_eq_true, decide_eq_true_eq, Bool.false_eq_true, false_and] at hst
  obtain ⟨⟨⟨ha, hl⟩, hn⟩, rfl, rfl, rfl⟩ := hst
  obtain ⟨x, rfl⟩ := isI_of ha
  simp only [relB] at hr
  split at hr
  · simp only [Bool.and_eq_true, decide_eq_true_eq] at hr
    obtain ⟨h1, h2⟩ := hr
    obtain rfl := beqT h1
    obtain ⟨rfl, hm, h3⟩ := h2
    exact lv_istore hx hb hd hL.has hl rfl (fun ls' h' => kk ls' H locs cells slots (LR.set1 hl (fun w => notL_cat hV hn w) h') (hV.setT hm (Or.inl rfl)) hW hS hX)
  · cases hr
theorem sn_multianewarray {n z : Nat} (hF : Fx p R s mi args meth c D cid base k) (hp : pg k pc = (.multianewarray n z, ln)) (hH : Ht s D cid base eP eI k s0 lv σ ls H locs cells slots) (hst : st1 (.multianewarray n z) lv st σ = (true, lv', st', σ'))  (kk : Kt p l e R s mi args below meth c Q D cid base eP eI k s0 (pc + ln) lv' st' σ') : W p l e R s mi args below meth c H locs cells slots Q (F0 mi pc ls st) := by
  obtain ⟨⟨hx, hb, hml, hown, hts⟩, hnm, hK, hba, hk6, hfr, hlo⟩ := id hF
  obtain ⟨hL, hV, hW, hS, hX⟩ := hH
  obtain ⟨real, hd, hr⟩ := dec_of hk6 hp (by intro h; cases h)
  simp only [st1, Prod.mk.injEq, Bool.and_eq_true, decide_eq_true_eq, Bool.false_eq_true, false_and] at hst
  obtain ⟨⟨ha, hn⟩, rfl, rfl, rfl⟩ := hst
  obtain ⟨x, hxv⟩ := isI_of ha
  rw [hxv] at kk
  obtain ⟨hl, q, hq⟩ := lpr_at hxv (by intro h; cases h)
  simp only [relB] at hr
  split at hr
  · simp only [Bool.and_eq_true, decide_eq_true_eq] at hr
    obtain ⟨h1, h2⟩ := hr
    obtain rfl := beqT h1
    obtain ⟨rfl, h2, hm, h3⟩ := h2
    exact lv_iinc hx hb hd hL.has hq (by rw [h2]; rfl) hl rfl (fun ls' h' => kk ls' H locs cells slots (LR.set1 hl (fun w => notL_cat hV hn w) h') (hV.setT hm (Or.inl rfl)) hW hS hX)
  · cases hr
end SND
