/-! ===== THE LAW: WHAT STAYS, WHAT A CASE NEEDS ===== -/
theorem m_thr {σ : Mm} {a d : Nat} {μ : Ms} (hL : LM σ a) : runc d 114 [.ref a] (put σ a μ) = some (some (.int (μ.1 0)), put σ a μ) := by
  simp [psh_some, psh_none, -Int32.not_lt, -Int32.not_le, rc_M_thrown, q_M_thrown_0, hL]
section C5
variable {p : Program} {l : Launch} {e : Jvm.Env} {s : State} {m : MethodId} {below : List Frame} {meth : Method} {c : Code} {Q : State → Prop} {D : va_G} {cid : Nat → ClassId} {eP : Nat → Option Nat} {eI : Nat → Nat → Int32} {Od : State → Prop} {b L : Nat} {xs : Nat → Int32} {ca a out j : Nat} {σ σ1 σ2 : Mm} {μ μ' : Ms} {ls : Array Slot} {H H2 : Heap} {locs locs2 : List Loc} {cells slots pc : Nat} {r st : List Value}
theorem inv_ca (h : Inv σ ca a μ) : mK σ ca = 12 := by
  obtain ⟨⟨E, S, L, B, G, H, Q, Z, w, hR⟩, -⟩ := h
  exact hR.1.1
theorem inv_a (h : Inv σ ca a μ) : mK σ a = 13 := h.2.1.1.1
theorem inv_fr {T : Nat → Bool} (h : Inv σ ca a μ) (hs : Sm T σ σ1) (hK : Kx σ1) (hT : ∀ q, q ≤ 13 ∨ q = 19 ∨ (20 ≤ q ∧ q < 1000) ∨ q = 1003 → T q = false) : Inv σ1 ca a μ := by
  obtain ⟨⟨E, S, L, B, G, H, Q, Z, w, hR⟩, hf, hX, hW⟩ := h
  refine ⟨⟨E, S, L, B, G, H, Q, Z, w, hR.fr hX hs (fun q hq => hT q (by omega))⟩, hf.fr hX hs (fun q hq => hT q ?_), hK, hW⟩
  simp only [rfK, Bool.or_eq_true, Bool.and_eq_true, decide_eq_true_eq] at hq
  omega
theorem inv_pz {x z : Int32} (h : Inv σ ca a μ) (ho : mK σ out = 1004) (hn : mN σ out = 1) (hP : Pz σ out x z σ1) : Inv σ1 ca a μ ∧ mK σ1 out = 1004 ∧ mN σ1 out = 1 ∧ (z = 0 → mI σ1 1004 out 0 = x) := by
  obtain ⟨n, rfl⟩ := hP
  have hX := h.2.2.1
  by_cases hz : z = 0
  · rw [if_pos hz]
    refine ⟨inv_fr (T := fun q => decide (q = 1004)) h ⟨fun q _ => ⟨rfl, rfl⟩, fun c hc q _ k => ⟨?_, rfl⟩, Nat.le_add_right _ _⟩ (fun q hq => Nat.lt_of_lt_of_le (hX q hq) (Nat.le_add_right _ _)) (fun q hq => decide_eq_false (by omega)), ho, hn, fun _ => ?_⟩
    · have hc : ¬ c = 1004 := of_decide_eq_false hc
      show (if c = 1004 ∧ q = out ∧ k = 0 then x else mI σ c q k) = mI σ c q k
      rw [if_neg (fun z => hc z.1)]
    · show (if (1004 : Nat) = 1004 ∧ out = out ∧ (0 : Nat) = 0 then x else mI σ 1004 out 0) = x
      rw [if_pos ⟨rfl, rfl, rfl⟩]
  · rw [if_neg hz]
    exact ⟨inv_fr (T := fun _ => false) h ⟨fun q _ => ⟨rfl, rfl⟩, fun c hc q _ k => ⟨rfl, rfl⟩, Nat.le_add_right _ _⟩ (fun q hq => Nat.lt_of_lt_of_le (hX q hq) (Nat.le_add_right _ _)) (fun _ _ => rfl), ho, hn, fun h => absurd h hz⟩
/-- what stays over the whole law -/
def Lw (p : Program) (l : Launch) (s : State) (m : MethodId) (c : Code) (D : va_G) (cid : Nat → ClassId) (eP : Nat → Option Nat) (eI : Nat → Nat → Int32) (Od : State → Prop) (b L : Nat) (xs : Nat → Int32) : Prop :=
  CallFix p m c code 7 s #[.ref b] gw "HullLineLaw" ∧ va_K D vwCl (tyl cid) s ∧ Od s ∧ SpOk l D cid s.heap.size eP eI Od ∧ OdOk s.heap.size Od ∧ (∀ u, Od u → Th s.heap.size u) ∧ l.stackTraces = false ∧ (va_X b L xs s s.heap ∧ b < s.heap.size ∧ L ≤ 4608) ∧ ∃ z adK, EOk z adK eP eI
/-- where its loop stands -/
def Li (D : va_G) (cid : Nat → ClassId) (eP : Nat → Option Nat) (eI : Nat → Nat → Int32) (s : State) (b ca a out j : Nat) (σ : Mm) (μ : Ms) (ls : Array Slot) (H : Heap) (locs : List Loc) : Prop :=
  lv_has ls 7 [(4, .int (nI (9 * j))), (0, .ref b), (1, .ref ca), (2, .ref a), (3, .ref out)] ∧ Inv σ ca a μ ∧ Wh D cid s.heap.size eP eI σ H ∧ va_S (fun q => s.heap.size ≤ q) s.heap H locs ∧ mK σ out = 1004 ∧ mN σ out = 1
/-- where a case goes on -/
def Kn (p : Program) (l : Launch) (e : Jvm.Env) (s : State) (m : MethodId) (below : List Frame) (meth : Method) (c : Code) (Q : State → Prop) (D : va_G) (cid : Nat → ClassId) (eP : Nat → Option Nat) (eI : Nat → Nat → Int32) (b ca a out j cells slots : Nat) : Prop :=
  ∀ (ls' : Array Slot) (σ' : Mm) (μ' : Ms) (H' : Heap) (locs' : List Loc), Li D cid eP eI s b ca a out j σ' μ' ls' H' locs' → W p l e room_1 s m #[.ref b] below meth c H' locs' (cells + 9) (slots + 110) Q (F0 m 1512 ls' [])
/-- a method that the law calls -/
def KC (kd k idx n : Nat) : Prop := k < 196 ∧ Cond.methodLink "HullLineLaw" idx (myn k) ∈ gw ∧ Cond.instanceMethod (myn k) ∈ gw ∧ Cond.selects (myn k).cls (myn k) (myn k) ∈ gw ∧ mrk k = kd ∧ (vwCl[kd - 1]?).map (fun q => q.1) = some (myn k).cls ∧ n + 1 = mna k ∧ mrt k ≤ 5 ∧ Nat.beq k mTh = false ∧ (mrt k = 1 ∨ mrt k = 2)
theorem KC.rt {kd k idx n : Nat} (h : KC kd k idx n) : mrt k = 1 ∨ mrt k = 2 := h.2.2.2.2.2.2.2.2.2
theorem lc_call (hL : Lw p l s m c D cid eP eI Od b L xs) {kd k idx b0 : Nat} {ys : List Int32} {x : Int32} (hKC : KC kd k idx ys.length) (hW : Wh D cid s.heap.size eP eI σ H) (hS : va_S (fun q => s.heap.size ≤ q) s.heap H locs) (hsz : ls.size = 7) (hk0 : 1 ≤ kd) (hb0 : mK σ b0 = kd) (hr : r.length ≤ 4) (hrun : runc (0 + 20) k (.ref b0 :: ys.map .int) σ = some (some (.int x), σ1)) (hce : cells + (mX σ1 - mX σ) ≤ 601024 ∧ slots + (mS σ1 - mS σ) ≤ 7293034) (hst : st = (ys.map .int).reverse ++ .ref b0 :: r) (hd : decode code pc = .ok (.invokevirtual idx, 3))
    (kk : ∀ (H1 : Heap) (locs1 : List Loc), Wh D cid s.heap.size eP eI σ1 H1 → va_S (fun q => s.heap.size ≤ q) s.heap H1 locs1 → W p l e room_1 s m #[.ref b] below meth c H1 locs1 (cells + (mX σ1 - mX σ)) (slots + (mS σ1 - mS σ)) Q (F0 m (pc + 3) ls (.int x :: r))) : W p l e room_1 s m #[.ref b] below meth c H locs cells slots Q (F0 m pc ls st) := by
  obtain ⟨S5, hK, hO, hSp, hOd, -⟩ := hL
  obtain ⟨k1, k2, k3, k4, k5, k6, k7, k8, k9, -⟩ := hKC
  exact lw_call (d := 0 + 20) (As := ys.map .int) (v := some (.int x)) hSp hOd S5 hK hO (Nat.le_refl _) hW hS hsz k1 k2 k3 k4 (by rw [k5]; exact hk0) (by rw [k5]; exact k6) hrun (cok_int k7 k8 k5 hb0 (Nat.ne_of_gt hk0) hr k9) (by decide) (by decide) hce hst hd kk
theorem lc_ld (hL : Lw p l s m c D cid eP eI Od b L xs) (hls : lv_has ls 7 [(4, .int (nI (9 * j))), (0, .ref b), (1, .ref ca), (2, .ref a), (3, .ref out)]) (hS : va_S (fun q => s.heap.size ≤ q) s.heap H locs) {i : Nat} {q : Int} (hi : i < 9) (hj : 9 * j + 9 ≤ L) (hq : Int32.ofInt q = nI i) (d0 : decode code pc = .ok (.aload_n 0, 1)) (d1 : decode code (pc + 1) = .ok (.iload 4, 2)) (d2 : decode code (pc + 3) = .ok (.iconst q, 1)) (d3 : decode code (pc + 4) = .ok (.iadd, 1)) (d4 : decode code (pc + 5) = .ok (.iaload, 1))
    (kk : W p l e room_1 s m #[.ref b] below meth c H locs cells slots Q (F0 m (pc + 6) ls (.int (xs (9 * j + i)) :: r))) : W p l e room_1 s m #[.ref b] below meth c H locs cells slots Q (F0 m pc ls r) := by
  obtain ⟨⟨hx, hb, -⟩, -, -, -, -, -, -, ⟨hX, hbl, hL4⟩, -⟩ := hL
  exact lw_ld (base := s.heap.size) (i := 9 * j) (j := i) hx hb (lv_at hls 1 rfl) (lv_at hls 0 rfl) hX hbl (Nat.not_le.mpr hbl) hS (by omega) hL4 hq d0 d1 d2 d3 d4 kk
theorem lc_ld2 (hL : Lw p l s m c D cid eP eI Od b L xs) (hls : lv_has ls 7 [(4, .int (nI (9 * j))), (0, .ref b), (1, .ref ca), (2, .ref a), (3, .ref out)]) (hS : va_S (fun q => s.heap.size ≤ q) s.heap H locs) {i : Nat} {q : Int} (hi : i < 9) (hj : 9 * j + 9 ≤ L) (hq : (Int8.ofInt q).toInt32 = nI i) (d0 : decode code pc = .ok (.aload_n 0, 1)) (d1 : decode code (pc + 1) = .ok (.iload 4, 2)) (d2 : decode code (pc + 3) = .ok (.bipush q, 2)) (d3 : decode code (pc + 5) = .ok (.iadd, 1)) (d4 : decode code (pc + 6) = .ok (.iaload, 1))
    (kk : W p l e room_1 s m #[.ref b] below meth c H locs cells slots Q (F0 m (pc + 7) ls (.int (xs (9 * j + i)) :: r))) : W p l e room_1 s m #[.ref b] below meth c H locs cells slots Q (F0 m pc ls r) := by
  obtain ⟨⟨hx, hb, -⟩, -, -, -, -, -, -, ⟨hX, hbl, hL4⟩, -⟩ := hL
  exact lw_ld2 (base := s.heap.size) (i := 9 * j) (j := i) hx hb (lv_at hls 1 rfl) (lv_at hls 0 rfl) hX hbl (Nat.not_le.mpr hbl) hS (by omega) hL4 hq d0 d1 d2 d3 d4 kk
theorem li_next {d1 d2 k1 k2 : Nat} {as1 as2 : List Value} {v1 v2 : Option Value} (hI : Li D cid eP eI s b ca a out j σ μ ls H locs) (r1 : runc d1 k1 as1 σ = some (v1, σ1)) (r2 : runc d2 k2 as2 σ1 = some (v2, σ2)) (hv : Inv σ2 ca a μ') (hW2 : Wh D cid s.heap.size eP eI σ2 H2) (hS2 : va_S (fun q => s.heap.size ≤ q) s.heap H2 locs2) : Li D cid eP eI s b ca a out j σ2 μ' ls H2 locs2 := by
  obtain ⟨hls, hv0, hW, hS, ho, hn⟩ := hI
  have ky := (runc_ky r1).1.tr (runc_ky r2).1
  have hlt : out < mX σ := hv0.2.2.1 out (by rw [ho]; decide)
  exact ⟨hls, hv, hW2, hS2, (ky.2 out hlt).1.trans ho, (ky.2 out hlt).2.trans hn⟩
theorem inv_a1 {d k : Nat} {as : List Value} {v : Option Value} (h : Inv σ ca a μ) (r1 : runc d k as σ = some (v, σ1)) : mK σ1 a = 13 := by
  have ky := (runc_ky r1).1
  exact (ky.2 a (h.2.2.1 a (by rw [inv_a h]; decide))).1.trans (inv_a h)
/-- the numbers of a case -/
theorem num1 {n1 n2 s1 s2 : Nat} (hc : cells + 9 ≤ 601024) (hs : slots + 110 ≤ 7293034) (h1 : n2 ≤ n1 + 8) (h2 : s2 ≤ s1 + 100) : cells + (n2 - n1) ≤ 601024 ∧ slots + (s2 - s1) ≤ 7293034 := by omega
theorem num2 {n1 n2 n3 s1 s2 s3 : Nat} (hc : cells + 9 ≤ 601024) (hs : slots + 110 ≤ 7293034) (h1 : n2 ≤ n1 + 8) (h2 : s2 ≤ s1 + 100) (e1 : n3 = n2) (e2 : s3 = s2) : cells + (n2 - n1) + (n3 - n2) ≤ 601024 ∧ slots + (s2 - s1) + (s3 - s2) ≤ 7293034 := by omega
theorem num3 {n1 n2 n3 : Nat} (h1 : n2 ≤ n1 + 8) (e1 : n3 = n2) : cells + (n2 - n1) + (n3 - n2) ≤ cells + 9 := by omega
theorem num4 {s1 s2 s3 : Nat} (h2 : s2 ≤ s1 + 100) (e2 : s3 = s2) : slots + (s2 - s1) + (s3 - s2) ≤ slots + 110 := by omega
end C5
