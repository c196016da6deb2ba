/-! ===== THE LAW's HELPERS: A CALL THAT MAY THROW, CAUGHT ===== -/
theorem rm_arit3 {d F L : Nat} (h1 : d + 15 ≤ F) (h2 : 64 * d + 1200 ≤ L) : d + 14 + 1 ≤ F ∧ 8 + (5 + 11) + (64 * d + 1100) ≤ L := by omega
section H4
variable {p : Program} {l : Launch} {e : Jvm.Env} {R : Room} {s : State} {m : MethodId} {args : Array Value} {below : List Frame} {meth : Method} {c : Code} {Q : State → Prop} {H : Heap} {locs : List Loc} {cells slots : Nat} {pc : Nat} {ls : Array Slot} {st0 rest : List Value}
variable {D : va_G} {cid : Nat → ClassId} {base : Nat} {eP : Nat → Option Nat} {eI : Nat → Nat → Int32} {Od : State → Prop} {σ σ' : Mm}
theorem callX {mc ms : Nat} {a : Array Value} {v : Option Value} (hr : vx_Run p l e R s m args below meth c H locs cells slots mc ms (F0 m pc ls st0) rest (Qn D cid base eP eI v σ' a) (XTh D cid base eP eI v σ') (fun q => base ≤ q)) (hS : va_S (fun q => base ≤ q) s.heap H locs)
    (kx : ∀ (H1 : Heap) (locs1 : List Loc) (q9 : Addr) (ce : Cell) (n : Nat), v = some (.retAddr 7) → Wh D cid base eP eI (bm σ' n 6) H1 → va_S (fun q => base ≤ q) s.heap H1 locs1 → H1[q9]? = some ce → ce.vm = .none → s.vm.findClass nse = some ce.cls → vx_W p l e R s m args below meth c H1 locs1 (cells + mc) (slots + ms) Q (F0 m pc ls rest) q9)
    (kk : ∀ (H1 : Heap) (locs1 : List Loc), v ≠ some (.retAddr 7) → Wh D cid base eP eI σ' H1 → va_S (fun q => base ≤ q) s.heap H1 locs1 → W p l e R s m args below meth c H1 locs1 (cells + mc) (slots + ms) Q (F0 m (pc + 3) ls (psh v rest))) : W p l e R s m args below meth c H locs cells slots Q (F0 m pc ls st0) := by
  intro T hT X
  rcases hr T hT X with ⟨v', st₀, t, T', L, h0, X', hL, e1, e2, ⟨⟨hv, hw, hF⟩, hne⟩, st⟩ | ⟨q, st₀, t, T', L, E, ce, h0, X', hL, e1, e2, ⟨hE, hv7, ⟨n, hw⟩, hF⟩, hce, hcv, hcl, st⟩
  · cases hv
    obtain ⟨k1, k2, k3⟩ := vx_keep h0 e1 hS (fun q _ h => h) (fun q h => h) hL hF
    obtain ⟨t2, a1, b1⟩ := kk T'.heap (locs ++ L) hne (by rw [e1]; exact hw) k3 T' rfl X'
    have ev : v.toList ++ rest = psh v rest := by cases v <;> rfl
    exact ⟨t2, st t2 (by rw [ev]; exact a1), b1⟩
  · subst hE
    obtain ⟨k1, k2, k3⟩ := vx_keep h0 e1 hS (fun q _ h => h) (fun q h => h) hL hF
    obtain ⟨t2, a1, b1⟩ := kx T'.heap (locs ++ L) q ce n hv7 (by rw [e1]; exact hw) k3 (by rw [e1]; exact hce) hcv hcl T' rfl X'
    exact ⟨t2, st.trans a1, b1⟩
theorem met_ofWH {y : MethodName} {ws ws' : List Cond} {rm : Room} {Pc : Array Value → State → Prop} {Qc : Array Value → State → Outcome → State → Prop} {mc ms : Nat} {free : Addr → Prop} {cc : ByteArray} {maxL : Nat} {ret : Option FieldType} {hh : List (Nat × Nat × Nat × Nat)}
    (hy : plainName y.cls = true) (hw : ws = Cond.codeWith y cc maxL ret hh :: ws')
    (body : ∀ p e s m args below meth c s₁, BodyLoose p l y (headSpec ws rm) cc maxL ret e s m args below meth c s₁ → c.maxLocals = maxL → Pc args s →
      W p l e (headSpec ws rm).room s m args below meth c s.heap [] 0 0 (MQ below Qc args s mc ms free) (entryFrame m args maxL)) : Met l y ws rm Pc Qc mc ms free := by
  refine MetFree.of_bodyS (code := cc) (maxLocals := maxL) (ret := ret) hy ?_ ?_
  · intro args s m h hn
    obtain ⟨m9, meth, c, hn9, h1, h2, h3, h4, -, h5, h6, -⟩ := Cond.codeWith_spec (atoms_spec (ws := ws) h _ (by rw [hw]; exact List.mem_cons_self))
    cases hn.symm.trans hn9
    exact ⟨meth, c, h1, h2, h3, h4, h5, h6⟩
  · intro p e s m args below meth c s₁ B hml hP _
    have hh0 : s₁.heap = s.heap := by rw [B.state]; rfl
    obtain ⟨t, a1, o, b1, b2, b3⟩ := body p e s m args below meth c s₁ B hml hP s₁ hh0 (Stand.of_body B)
    exact ⟨t, o, a1, b1, b2, ⟨b3.1, b3.2⟩⟩
/-- how a helper ends -/
def Qh (D : va_G) (cid : Nat → ClassId) (base : Nat) (eP : Nat → Option Nat) (eI : Nat → Nat → Int32) (v : Option Value) (P : Mm → Prop) : Array Value → State → Outcome → State → Prop := fun _ st o t => o = .returned v ∧ (∃ σ', P σ' ∧ Wh D cid base eP eI σ' t.heap) ∧ va_F (fun q => base ≤ q) st t
/-- what it leaves -/
def Pz (σ : Mm) (out : Nat) (x z : Int32) (σ' : Mm) : Prop := ∃ n, σ' = bm (if z = 0 then sI σ 1004 out 0 x else σ) n 6
theorem callH {mc ms : Nat} {a : Array Value} {v : Option Value} {P : Mm → Prop} (hr : va_Run p l e R s m args below meth c H locs cells slots mc ms (F0 m pc ls st0) rest (Qh D cid base eP eI v P a) (fun q => base ≤ q)) (hS : va_S (fun q => base ≤ q) s.heap H locs)
    (kk : ∀ (σ' : Mm) (H1 : Heap) (locs1 : List Loc), P σ' → Wh D cid base eP eI σ' H1 → va_S (fun q => base ≤ q) s.heap H1 locs1 → W p l e R s m args below meth c H1 locs1 (cells + mc) (slots + ms) Q (F0 m (pc + 3) ls (psh v rest))) : W p l e R s m args below meth c H locs cells slots Q (F0 m pc ls st0) := by
  intro T hT X
  obtain ⟨v', st₀, t, T', L, h0, X', hL, e1, e2, ⟨hv, ⟨σ', hP, hw⟩, hF⟩, st⟩ := hr T hT X
  cases hv
  obtain ⟨k1, k2, k3⟩ := vx_keep h0 e1 hS (fun q _ h => h) (fun q h => h) hL hF
  obtain ⟨t2, a1, b1⟩ := kk σ' T'.heap (locs ++ L) hP (by rw [e1]; exact hw) k3 T' rfl X'
  have ev : v.toList ++ rest = psh v rest := by cases v <;> rfl
  exact ⟨t2, st t2 (by rw [ev]; exact a1), b1⟩
theorem acl_l {kd a : Nat} (h : kd % 5 = 4) : acl σ kd a = (mN σ a, .inr (.inl (fun j => (mI σ kd a j).toInt64))) := by
  simp only [acl, h]
theorem arr_wrot2 {H1 : Heap} {a q0 j : Nat} {x : vp_A} (hW : Wh D cid base eP eI σ H) (h20 : 20 ≤ mK σ a) (hq : (va_pl (mL σ) (clf cid σ))[q0]? = some (a, clf cid σ a))
    (hP1 : va_P D vwCl ((va_pl (mL σ) (clf cid σ)).set q0 (a, .inl (cid (mK σ a % 5), x))) H1) (hD1 : va_D (fun q => base ≤ q) ((va_pl (mL σ) (clf cid σ)).set q0 (a, .inl (cid (mK σ a % 5), x)))) (hz : mX σ ≤ H1.size)
    (e1 : σ'.2.2 = σ.2.2) (eI' : ∀ c' a' k', ¬ (c' = mK σ a ∧ a' = a) → mI σ' c' a' k' = mI σ c' a' k') (eP' : ∀ c' a' k', ¬ (c' = mK σ a ∧ a' = a) → mP σ' c' a' k' = mP σ c' a' k') (hx : acl σ' (mK σ a) a = x) : Wh D cid base eP eI (bm σ' (H1.size - mX σ) j) H1 := by
  have hmem : a ∈ mL σ := hW.2.2.2.2.1 a (by omega)
  have es := va_pl_set (X := []) (e := .inl (cid (mK σ a % 5), x)) hW.2.1 hmem hq
  simp only [List.nil_append] at es
  rw [es] at hP1 hD1
  subst hx
  rw [va_pl_congr (clf_arr_put (cid := cid) (σ' := σ') (by simp only [mK, e1]) (by simp only [mN, e1]) rfl h20 eI' eP')] at hP1 hD1
  exact wh_any hW hP1 hD1 hz e1 (fun k' => eP' _ _ _ (fun q => by have := q.1; omega)) (fun a' k' => eI' _ _ _ (fun q => by have := q.1; omega))
set_option maxRecDepth 100000 in
theorem lc_13 : Cond.classLink "HullLineLaw" 13 nse ∈ gw := ing 1031 rfl rfl
/-- a helper of the law: what the class answers, or 1 for its throw -/
theorem hlp_met (hl : l.stackTraces = false) (hSp : SpOk l D cid base eP eI Od) (hOd : OdOk base Od) (hTh : ∀ u, Od u → Th base u) {k d ix : Nat} {y : MethodName} {cc : ByteArray} {x0 x1 x z : Int32} {ca out : Nat} (hk : k = 84 ∨ k = 85) (hyc : y.cls = "HullLineLaw")
    (hlk : Cond.methodLink "HullLineLaw" ix (myn k) ∈ gw) (hin : Cond.instanceMethod (myn k) ∈ gw) (hse : Cond.selects (myn k).cls (myn k) (myn k) ∈ gw)
    (d0 : decode cc 0 = .ok (.aload_n 3, 1)) (d1 : decode cc 1 = .ok (.iconst 0, 1)) (d2 : decode cc 2 = .ok (.aload_n 0, 1)) (d3 : decode cc 3 = .ok (.iload_n 1, 1)) (d4 : decode cc 4 = .ok (.iload_n 2, 1)) (d5 : decode cc 5 = .ok (.invokevirtual ix, 3)) (d8 : decode cc 8 = .ok (.i2l, 1)) (d9 : decode cc 9 = .ok (.lastore, 1)) (d10 : decode cc 10 = .ok (.goto 7, 3)) (d13 : decode cc 13 = .ok (.astore 4, 2)) (d15 : decode cc 15 = .ok (.iconst 1, 1)) (d16 : decode cc 16 = .ok (.ireturn, 1)) (d17 : decode cc 17 = .ok (.iconst 0, 1)) (d18 : decode cc 18 = .ok (.ireturn, 1))
    (hrun : runc d k [.ref ca, .int x0, .int x1] σ = some (some (if z = 0 then .int x else .retAddr 7), σ)) (hz01 : z = 0 ∨ z = 1) (hca : mK σ ca = 12) (ho : mK σ out = 1004) (hon : mN σ out = 1) :
    Met l y (Cond.codeWith y cc 5 (some .int) [(0, 10, 13, 13)] :: gw) { frames := d + 14, cells := 1, slots := 6, locals := 64 * d + 1100 } (va_Pc [.ref ca, .int x0, .int x1, .ref out] (Wst D cid base eP eI Od σ)) (Qh D cid base eP eI (some (.int z)) (Pz σ out x z)) 1 6 (fun q => base ≤ q) := by
  have hk6 : k < 196 := by rcases hk with rfl | rfl <;> decide
  have hrk : mrk k = 12 := by rcases hk with rfl | rfl <;> rfl
  have hmn : mna k = 3 := by rcases hk with rfl | rfl <;> rfl
  have hmp : mpn k = 2 := by rcases hk with rfl | rfl <;> rfl
  have hcl : ∃ r0, vwCl[12 - 1]? = some r0 ∧ r0.1 = (myn k).cls := by rcases hk with rfl | rfl <;> exact ⟨_, rfl, rfl⟩
  refine met_ofWH (cc := cc) (maxL := 5) (ret := some .int) (hh := [(0, 10, 13, 13)]) (by rw [hyc]; decide) rfl ?_
  intro p e s m args below meth c s₁ B hml hv
  obtain ⟨rfl, hW, hK, hO⟩ := hv
  have hts0 := atoms_spec (ws := Cond.codeWith y cc 5 (some .int) [(0, 10, 13, 13)] :: gw) B.pre
  have hts : ∀ w ∈ gw, w.before _ s = true := fun w h => hts0 w (List.mem_cons_of_mem _ h)
  have hown : s.vm.findClass "HullLineLaw" = some m.cls := by rw [← hyc]; exact findClass_of_methodNamed B.named
  have htb : c.exceptionTable.toList = [⟨0, 10, 13, 13⟩] := (vx_table (x := y) B (hts0 _ List.mem_cons_self)).trans rfl
  have hx := B.exec
  have hb := B.bytes
  have hlocks := B.notSynchronized
  have hz := hW.2.2.1
  have hba : base ≤ s.heap.size := by rw [hz]; exact hW.2.2.2.1
  have hen := lv_entry ([.ref ca, .int x0, .int x1, .ref out]) (n := 5) (Nat.le_of_ble_eq_true rfl)
  rw [lg_entry_eq]
  generalize (lg_sl ([.ref ca, .int x0, .int x1, .ref out]) ++ List.replicate (5 - (lg_sl ([.ref ca, .int x0, .int x1, .ref out])).length) Slot.unset).toArray = ls at hen ⊢
  have hls : lv_has ls 5 [(0, .ref ca), (1, .int x0), (2, .int x1), (3, .ref out)] := hen
  refine lv_aload_n hx hb d0 rfl (lv_at hls 3 rfl) ?_
  refine lv_iconst (v := 0) hx hb d1 rfl ?_
  refine lv_aload_n hx hb d2 rfl (lv_at hls 0 rfl) ?_
  refine lv_iload_n hx hb d3 rfl (lv_at hls 1 rfl) ?_
  refine lv_iload_n hx hb d4 rfl (lv_at hls 2 rfl) ?_
  have hM := thr_met hl hSp hOd hTh hk hrun (by rw [hmn]; rfl) (fun v hv => by
    simp only [List.mem_cons, List.not_mem_nil, or_false] at hv
    rcases hv with rfl | rfl | rfl <;> rfl)
  obtain ⟨m1, m2, -, m4, ⟨h45, -, -, h13⟩, -⟩ := mok k hk6
  obtain ⟨r0, hr0, hr1⟩ := hcl
  have hrec := recv_of_kind hK hW hca (by decide) (by decide) hr0
  rw [hr1] at hrec
  have hS0 : va_S (fun q => base ≤ q) s.heap s.heap [] := va_S.rf
  refine callX (vx_runV (As := [.int x0, .int x1]) (b := ca) (rest := [.int 0, .ref out]) (cc := cc) (nL := 5) (own := "HullLineLaw") (Ts := gw) ⟨hx, hb, hml, hown, hts⟩ hM ⟨callB_of (mpn k) hts (gw_c m1) rfl rfl rfl (hts _ m2) (hts _ hlk) m4 (rm_arit2 (F := d + 14) (L := 64 * d + 1100) (by omega) (by omega) h45), hts _ hin, hts _ hse⟩ ⟨Wst.blind hOd, hrec, fun U hU hw => Wst.pre hOd hW hK hO hba hS0 U hU hw⟩ rfl (by rw [hmp]; rfl) hls.1 rfl (lv_room (Nat.le_of_ble_eq_true rfl)) d5 ⟨by show 0 + (mX σ - mX σ + 1) ≤ 1; omega, by show 0 + (mS σ - mS σ + 6) ≤ 6; omega⟩) hS0 ?_ ?_
  · intro H1 locs1 q9 ce n hv7 hW1 hS1 hce hcv hcls
    have hz1 : ¬ z = 0 := fun h => by rw [if_pos h] at hv7; cases hv7
    have hz2 : z = 1 := hz01.resolve_left hz1
    refine cx_catch (ow := "HullLineLaw") (name := nse) (E := nse) (x := ⟨0, 10, 13, 13⟩) hown htb rfl (by decide) (hts _ lc_13) (va_Nw.use rfl (hTh s hO).2.2.1) hce hcv hcls ?_
    refine lv_astore (lv' := [(4, .ref q9), (0, .ref ca), (1, .int x0), (2, .int x1), (3, .ref out)]) hx hb d13 hls (by decide) rfl (fun ls2 hls2 => ?_)
    refine lv_iconst (v := 1) hx hb d15 rfl ?_
    refine W.widen (k := 1) (n := 6) (by omega) (by omega) (W.iret hx hb B.returns (fun t ht _ => ⟨by rw [hz2], ⟨bm σ n 6, ⟨n, by rw [if_neg hz1]⟩, by rw [ht]; exact hW1⟩, hS1.F ht⟩) hS1.2.2 d16 hlocks)
  · intro H1 locs1 hne hW1 hS1
    have hz0 : z = 0 := by
      rcases hz01 with h | h
      · exact h
      · exact absurd (by rw [if_neg (by rw [h]; decide)]) hne
    subst hz0
    show W _ _ _ _ _ _ _ _ _ _ _ _ _ _ _ (F0 m 8 ls (.int x :: [.int 0, .ref out]))
    refine lv_i2l (v := x.toInt64) hx hb d8 rfl ?_
    have h20 : 20 ≤ mK σ out := by rw [ho]; decide
    obtain ⟨-, q0, hq0, hq⟩ := hW1.arr h20
    rw [acl_l (by rw [ho]), hon] at hq
    have hty : (tyl cid)[4]? = some (cid (mK σ out % 5), .long) := by rw [ho]; rfl
    refine va_last hx hb hK hW1.1 hW1.2.1 hS1 q0 4 hq hty (vp_in_nI (n := 0) (by decide) (by decide)) d9 ?_
    intro H2 locs2 hP2 hD2 hS2
    have hW2 : Wh D cid base eP eI (bm (sI σ 1004 out 0 x) (H2.size - mX σ) 6) H2 := by
      refine arr_wrot2 hW1 h20 hq0 hP2 hD2 (by rw [← hz]; exact hS2.1) rfl (fun _ _ _ h => sI_off (by rw [ho] at h; exact h)) (fun _ _ _ _ => rfl) ?_
      rw [acl_l (by rw [ho])]
      show (mN σ out, Sum.inr (Sum.inl _)) = _
      rw [hon]
      congr 3
      funext j
      by_cases hj : j = 0
      · subst hj
        rw [ho]
        show (if (1004 : Nat) = 1004 ∧ out = out ∧ (0 : Nat) = 0 then x else _).toInt64 = vp_updL _ _ _ 0
        rw [if_pos ⟨rfl, rfl, rfl⟩]
        rfl
      · rw [ho]
        show (if (1004 : Nat) = 1004 ∧ out = out ∧ j = 0 then x else mI σ 1004 out j).toInt64 = (if j = _ then _ else _)
        rw [if_neg (fun h => hj h.2.2), if_neg (show ¬ j = Int32.toNatClampNeg 0 from hj)]
    refine lv_goto (tgt := 17) hx hb d10 (by decide) ?_
    refine lv_iconst (v := 0) hx hb d17 rfl ?_
    refine W.widen (k := 1) (n := 6) (by omega) (by omega) (W.iret hx hb B.returns (fun t ht _ => ⟨rfl, ⟨_, ⟨H2.size - mX σ, by rw [if_pos rfl]⟩, by rw [ht]; exact hW2⟩, hS2.F ht⟩) hS2.2.2 d18 hlocks)
/-- a helper called by the law -/
theorem lw_hlp {y : MethodName} {cc cy : ByteArray} {nL idx d : Nat} {v : Option Value} {P : Mm → Prop} {As : List Value} {Pc : Array Value → State → Prop} (S5 : CallFix p m c cc nL s args gw "HullLineLaw")
    (hM : Met l y (Cond.codeWith y cy 5 (some .int) [(0, 10, 13, 13)] :: gw) { frames := d + 14, cells := 1, slots := 6, locals := 64 * d + 1100 } (va_Pc As (Wst D cid base eP eI Od σ)) (Qh D cid base eP eI v P) 1 6 (fun q => base ≤ q)) (hOd : OdOk base Od) (hK : va_K D vwCl (tyl cid) s) (hO : Od s) (hba : base ≤ s.heap.size) (hW : Wh D cid base eP eI σ H) (hS : va_S (fun q => base ≤ q) s.heap H locs) (hsz : ls.size = nL) (hyc : y.cls = "HullLineLaw") (hlk : Cond.methodLink "HullLineLaw" idx y ∈ gw) (hst : Cond.static y ∈ gw) (hcw : Cond.codeWith y cy 5 (some .int) [(0, 10, 13, 13)] ∈ gw) (hin : Cond.initialized "HullLineLaw" ∈ gw) (hpd : (parseMethodDescriptor y.desc).map (fun d => d.parameters.length) = some As.length)
    (hfr : d + 15 ≤ R.frames) (hlo : 64 * d + 1200 ≤ R.locals) (hce : cells + 1 ≤ R.cells ∧ slots + 6 ≤ R.slots) (hstk : st0 = As.reverse ++ rest) (hr8 : (rest.map fun v => v.category).sum ≤ 8) (hd : decode cc pc = .ok (.invokestatic idx, 3))
    (kk : ∀ (σ' : Mm) (H1 : Heap) (locs1 : List Loc), P σ' → Wh D cid base eP eI σ' H1 → va_S (fun q => base ≤ q) s.heap H1 locs1 → W p l e R s m args below meth c H1 locs1 (cells + 1) (slots + 6) Q (F0 m (pc + 3) ls (psh v rest))) : W p l e R s m args below meth c H locs cells slots Q (F0 m pc ls st0) := by
  have hG : GoodIn gw (va_wsS "HullLineLaw" idx y (Cond.codeWith y cy 5 (some .int) [(0, 10, 13, 13)] :: gw)) := by
    intro w hw
    unfold va_wsS at hw
    rcases List.mem_append.mp hw with h | h
    · simp only [List.mem_cons, List.not_mem_nil, or_false] at h
      rcases h with rfl | rfl | rfl
      · exact gw_in _ hlk
      · exact gw_in _ hst
      · rw [hyc]; exact gw_in _ hin
    · exact gw_c hcw w h
  exact callH (vx_runSW (As := As) S5 hM (vx_cwSW As.length S5.2.2.2.2 hG rfl rfl rfl ⟨by rw [hyc]; decide, by rw [hyc]; decide, hpd⟩ (rm_arit3 hfr hlo)) ⟨Wst.blind hOd, fun U hU hw => Wst.pre hOd hW hK hO hba hS U hU hw⟩ rfl rfl hsz hstk (lv_room hr8) hd hce) hS kk
end H4
