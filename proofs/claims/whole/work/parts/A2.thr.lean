/-! ===== A THROW THAT LEAVES A METHOD OF THE CLASS; ITS CATCH ===== -/
abbrev nse : String := "java/util/NoSuchElementException"
/-- constructors that the chain of the exception calls -/
def nsD : List MethodName := [⟨"java/lang/RuntimeException", "<init>", "(Ljava/lang/String;)V"⟩, ⟨"java/lang/Exception", "<init>", "(Ljava/lang/String;)V"⟩, ⟨"java/lang/Throwable", "<init>", "(Ljava/lang/String;)V"⟩]
/-- cells made that are no memory: n of them -/
def bm (σ : Mm) (n k : Nat) : Mm := (σ.1, σ.2.1, σ.2.2.1, σ.2.2.2.1, σ.2.2.2.2.1, mX σ + n, mS σ + k)
section T2
variable {p : Program} {l : Launch} {e : Jvm.Env} {R : Room} {s : State} {m : MethodId} {args : Array Value} {below : List Frame} {meth : Method} {c : Code} {Q : State → Prop} {H : Heap} {locs : List Loc} {cells slots : Nat} {pc : Nat} {ls : Array Slot} {st0 rest : List Value}
variable {D : va_G} {cid : Nat → ClassId} {base : Nat} {eP : Nat → Option Nat} {eI : Nat → Nat → Int32} {Od : State → Prop} {σ σ' : Mm} {u U : State}
/-- the handler of a table of one row (the library's own proofs in Shelf42/NT86 and NT97 are the pattern; rounds don't have them) -/
theorem cx_catch {ow name E : String} {ce : Cell} {q : Addr} {x : ExceptionTableEntry} (hown : s.vm.findClass ow = some m.cls) (htab : c.exceptionTable.toList = [x]) (hx : covers x pc = true) (h0 : x.catchType ≠ 0) (hlink : (Cond.classLink ow x.catchType name).before args s = true) (hcast : (Cond.castable E name).before args s = true) (hcell : H[q]? = some ce) (hv : ce.vm = .none) (hcl : s.vm.findClass E = some ce.cls)
    (kk : W p l e R s m args below meth c H locs cells slots Q (F0 m x.handlerPc ls [.ref q])) : vx_W p l e R s m args below meth c H locs cells slots Q (F0 m pc ls rest) q := by
  intro T hT X
  have hpl : e.platform.magicAccessors = ({} : Platform).magicAccessors := by rw [X.admits.platform]
  obtain ⟨c3, c4, hc3, hc4, hasg⟩ := Cond.castable_spec hcast
  cases Option.some.inj (hc3.symm.trans hcl)
  obtain ⟨c5, hc5, hcl5⟩ := Cond.classLink_spec hown hlink e.platform hpl
  cases Option.some.inj (hc4.symm.trans hc5)
  obtain ⟨dk, _, _, kt, hd, _, _, _, _, hkt, _, hopen⟩ := hcl5.here
  have hcl0 := X.warmed.classLinks hcl5
  have hW' : s.WarmedH (T.vm.noted m.cls x.catchType (.cls c4)) := X.warmed.noted hd hopen (State.rightAt_cls hcl5)
  have hal := X.warmed.alike
  obtain ⟨kt', hkt', -⟩ := hal.2.2 _ _ hkt
  have hfit : T.vm.assignable ce.cls c4 = true := by rw [hal.assignable]; exact hasg
  obtain ⟨kc, hkc⟩ := Vm.classAt_of_assignable hfit ⟨kt', hkt'⟩
  obtain ⟨t, a1, b1⟩ := kk (T.setVm (T.vm.noted m.cls x.catchType (.cls c4))) hT (X.noted hW')
  refine ⟨t, ?_, b1⟩
  obtain ⟨S, hS⟩ : ∃ S, S = (T.setTop (F0 m pc ls rest)).pushFrame (.throwing q) := ⟨_, rfl⟩
  have hSv : S.vm = T.vm := by rw [hS]; rfl
  have hSh : S.heap = T.heap := by rw [hS]; rfl
  have hobj : ∀ k, ce.vm ≠ .statics k := by rw [hv]; intro k h; cases h
  obtain ⟨ha, ht⟩ := (resolveClass_links e.toSetting hcl0).op (op := VmOp.resolveClass m.cls x.catchType) rfl
  have hal2 : T.vm.Alike (T.vm.noted m.cls x.catchType (.cls c4)) := (Vm.Alike.refl T.vm).noted _ _ _
  obtain ⟨k1', hk1', -⟩ := hal2.2.2 _ _ hkc
  obtain ⟨k2', hk2', -⟩ := hal2.2.2 _ _ hkt'
  have hfit' : (T.vm.noted m.cls x.catchType (.cls c4)).assignable ce.cls c4 = true := by rw [hal2.assignable]; exact hfit
  have hcv : (decide (x.startPc ≤ pc) && decide (pc < x.endPc)) = true := hx
  have hwp : ∀ (Q2 : Handler → Pre) (E2 : CtlPost) (d2 : Bool) (acts : List Action), wp (findHandler (F0 m pc ls rest) q) Q2 E2 e d2 acts S ↔ Q2 (.found x.handlerPc) d2 acts (S.setVm (T.vm.noted m.cls x.catchType (.cls c4))) := by
    intro Q2 E2 d2 acts
    rw [W.findHandler_eq (s := S) (meth := meth) (code := c) (by rw [hSv]; exact X.method') X.code, htab]
    have hce : S.heap[q]? = some ce := by rw [hSh, hT]; exact hcell
    simp only [covers] at hx
    simp [findHandler.go, hx, h0, ha, ht, hSv, hce, hobj, hk1', hk2', hfit', VmOp.dirties, VmOp.acts]
  have hstep : ∀ r : List Frame, (stepThrowing e S q (.java (F0 m pc ls rest) :: r)).Is ((S.setVm (T.vm.noted m.cls x.catchType (.cls c4))).setFrames (.java (F0 m x.handlerPc ls [.ref q]) :: r)) [] := by
    intro r
    simp only [stepThrowing, searchFrame, vmDo]
    generalize hr : Sem.go _ e false [] S = res
    obtain ⟨as, rfl, ha⟩ := Sem.eq_ok_of hr (a := Handler.found x.handlerPc) (s' := S.setVm (T.vm.noted m.cls x.catchType (.cls c4))) (acts' := []) (by simp [hwp _ _ _ _])
    exact ⟨rfl, ha⟩
  have hA : At T (F0 m pc ls rest).method c below := X.here
  obtain ⟨hgo, hw⟩ := hA.throwing (g := F0 m pc ls rest) q
  refine Steps.head hgo hw ?_
  rw [stepThread_throwing (frames_entered hA.top _), ← hS, (hstep _).1]
  obtain ⟨g₀, hg⟩ := Option.isSome_iff_exists.mp hA.top
  obtain ⟨r, hr⟩ := State.topJava?_eq_some.mp hg
  have hr' : (T.setVm (T.vm.noted m.cls x.catchType (.cls c4))).frames = .java g₀ :: r := hr
  rw [State.setTop_of_frames _ hr'] at a1
  have hv2 : ∀ (u : State) (vm' : Vm) (F G : List Frame), ((u.setFrames F).setVm vm').setFrames G = (u.setVm vm').setFrames G := fun u vm' F G => by
    have h1 : (u.setFrames F).setVm vm' = (u.setVm vm').setFrames F := rfl
    rw [h1, State.setFrames_setFrames]
  rw [hS, hr, List.tail_cons, State.pushFrame, hv2, State.setTop_of_frames _ hr, hv2]
  exact a1
theorem wh_any {H1 : Heap} {j : Nat} (hW : Wh D cid base eP eI σ H) (hP1 : va_P D vwCl (va_pl (mL σ) (clf cid σ')) H1) (hD1 : va_D (fun q => base ≤ q) (va_pl (mL σ) (clf cid σ'))) (hz : mX σ ≤ H1.size) (e1 : σ'.2.2 = σ.2.2) (e2 : ∀ k, mP σ' 19 0 k = mP σ 19 0 k) (e3 : ∀ a k, mI σ' 19 a k = mI σ 19 a k) : Wh D cid base eP eI (bm σ' (H1.size - mX σ) j) H1 := by
  have eK : mK σ' = mK σ := by simp only [mK, e1]
  have eL : mL σ' = mL σ := by simp only [mL, e1]
  have eX : mX σ' = mX σ := by simp only [mX, e1]
  obtain ⟨-, -, -, hb, hl, hp, hi, h13⟩ := hW
  have g1 : va_P D vwCl (va_pl (mL σ') (clf cid σ')) H1 := by rw [eL]; exact hP1
  have g2 : va_D (fun q => base ≤ q) (va_pl (mL σ') (clf cid σ')) := by rw [eL]; exact hD1
  refine ⟨g1, g2, ?_, ?_, fun a h => ?_, fun k => (e2 k).trans (hp k), fun a k => (e3 a k).trans (hi a k), fun a h => ?_⟩
  · show H1.size = mX σ' + (H1.size - mX σ)
    omega
  · show base ≤ mX σ' + (H1.size - mX σ)
    omega
  · show a ∈ mL σ'
    rw [eL]
    exact hl a (by rw [← eK]; exact h)
  · show mK σ' a ≤ 13
    rw [eK]
    exact h13 a (by rw [← eK]; exact h)
theorem wh_bm {H1 : Heap} {j : Nat} (hW : Wh D cid base eP eI σ H) (hz : H.size ≤ H1.size) (hq : ∀ q : Nat, q < H.size → H1[q]? = H[q]?) : Wh D cid base eP eI (bm σ (H1.size - mX σ) j) H1 :=
  wh_any hW (hW.1.kept fun k x hx => hq x.1 ((hW.1 k x hx).lt)) hW.2.1 (by rw [← hW.2.2.1]; exact hz) rfl (fun _ => rfl) (fun _ _ => rfl)
/-- what a throw rests on -/
def Th (base : Nat) (U : State) : Prop := vx_Zq Bundle.tN "UNASSIGNED_STACK" Bundle.steD (fun q => base ≤ q) U U.heap ∧ vx_Zq Bundle.tN "SUPPRESSED_SENTINEL" Bundle.listD (fun q => base ≤ q) U U.heap ∧ va_Nw (.castable nse nse) U ∧ (∃ a, vk_R "HullLine" 314 "no such bag" a U) ∧ (∃ a, vk_R "HullLine" 329 "no such question of a bag" a U) ∧ (∃ a, vk_R "HullLine" 331 "no such boat" a U) ∧ (∃ a, vk_R "HullLine" 336 "no such question of a boat" a U) ∧ ∀ x ∈ nsD, va_Nw (.declares x) U
theorem Th.go (ha : u.vm.Alike U.vm) (hc : va_Nw (.castable nse nse) u → va_Nw (.castable nse nse) U) (hd : ∀ x : MethodName, va_Nw (.declares x) u → va_Nw (.declares x) U) (hr : ∀ (k : Nat) (tx : String) (a : Nat), vk_R "HullLine" k tx a u → vk_R "HullLine" k tx a U) (hq : ∀ q : Nat, q < base → U.heap[q]? = u.heap[q]?) (h : Th base u) : Th base U := by
  obtain ⟨h1, h2, h3, ⟨a4, h4⟩, ⟨a5, h5⟩, ⟨a6, h6⟩, ⟨a7, h7⟩, h8⟩ := h
  have hk : ∀ a : Nat, a < u.heap.size → ¬ base ≤ a → U.heap[a]? = u.heap[a]? := fun a _ h => hq a (Nat.not_le.mp h)
  exact ⟨(vx_Zq.moved ha h1).kept hk, (vx_Zq.moved ha h2).kept hk, hc h3, ⟨a4, hr _ _ _ h4⟩, ⟨a5, hr _ _ _ h5⟩, ⟨a6, hr _ _ _ h6⟩, ⟨a7, hr _ _ _ h7⟩, fun x hx => hd x (h8 x hx)⟩
def Oh (base z mi0 : Nat) (adK adV : Nat → Nat) (U : State) : Prop := Og base z mi0 adK adV U ∧ Th base U
theorem Oh.ok {z mi0 : Nat} {adK adV : Nat → Nat} : OdOk base (Oh base z mi0 adK adV) :=
  ⟨fun u U h hw hq => ⟨Og.ok.1 u U h.1 hw hq, Th.go hw.alike (va_Nw.warmC hw) (fun _ => va_Nw.warmD hw) (fun _ _ _ w => vk_R.warm hw w) hq h.2⟩, fun u U h hv hH => ⟨Og.ok.2.1 u U h.1 hv hH, Th.go (hv ▸ Vm.Alike.refl u.vm) (va_Nw.same rfl hv) (fun _ => va_Nw.same rfl hv) (fun _ _ _ w => vk_R.same hv.symm w) (fun q _ => by rw [hH]) h.2⟩, fun u h => Og.ok.2.2 u h.1⟩
theorem Oh.sp {z mi0 : Nat} {adK adV : Nat → Nat} (hE : EOk z adK eP eI) : SpOk l D cid base eP eI (Oh base z mi0 adK adV) := by
  intro i hi p e R s mi args below meth c Q k pc ln lv st lv' st' σ σ' ls H locs cells slots s0 hF hO
  exact sp_ok hE i hi p e R s mi args below meth c Q k pc ln lv st lv' st' σ σ' ls H locs cells slots s0 hF hO.1
end T2
