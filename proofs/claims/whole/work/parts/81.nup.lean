/-! ===== WAYS: A LEG OF THE REFERENCE's SEARCH; WHERE NOTHING BETTER CAN COME ===== -/
section P81
variable {σ τ : Mm} {a c q : Nat} {ν μ : Ms} {k g n : Nat} (d : Nat)
def brN (ν : Ms) (k l s n x : Nat) : Nat := (dvu (ν.2 20 k * mnI ν k l s n x) 60).toNatClampNeg
theorem br_N (hW : Wf ν) (hk : k < nB ν) {l : Nat} (hl : l < nL ν) (hn : n ≤ nF ν) (s x : Nat) : dvu (ν.2 20 k * mnI ν k l s n x) 60 = nI (brN ν k l s n x) ∧ brN ν k l s n x ≤ 14000 := by
  obtain ⟨q1, q2, q3⟩ := mn_N hW hk hl hn s x
  obtain ⟨e, e1, e2, e3⟩ := (hW.2.2.2.1.1 k hk).2.2.2.2.1
  have hle : e * mnN ν k l s n x ≤ 300 * 2700 := Nat.mul_le_mul e2 q3
  have h : dvu (ν.2 20 k * mnI ν k l s n x) 60 = nI ((e * mnN ν k l s n x + 60 - 1) / 60) := by
    rw [e3, q1, pk_mul, show (60 : Int32) = nI 60 from rfl, dvu_N (by omega) (by omega) (by omega)]
  unfold brN
  rw [h, nI_clamp (by omega)]
  exact ⟨rfl, by omega⟩
theorem Env_75 (h : Evr ν k g n μ) (j : Nat) (v : Int32) : Evr ν k g n (fA μ 75 j v) := ⟨h.1, h.2.1, h.2.2.1, h.2.2.2.1, fun f hf => by rw [fA_2n _ (by omega)]; exact h.2.2.2.2 f hf⟩
def fue (ν : Ms) (k e l : Nat) : Nat := if ν.2 6 e ≤ 0 then l else (ν.2 21 k).toNatClampNeg
/-- it doesn't touch, or leads back -/
theorem g_skip (hL : LM τ a) (hW : Wf ν) (hE : Evr ν k g n μ) {i s : Nat} (hi : i < nL ν) (hs : s < nS ν) (m f dp met : Int32) (u7 u8 u9 u10 u11 : Value) (h : ¬ (s = lA ν i ∨ s = lB ν i) ∨ btI met (farN ν i s) = true) : ∃ u7' : Value, run d 182 10 [.ref a, .int (nI s), .int m, .int f, .int dp, .int met, .int (nI i), u7, u8, u9, u10, u11] [] (put τ a μ) = run d 182 10 [.ref a, .int (nI s), .int m, .int f, .int dp, .int met, .int (nI (i + 1)), u7', u8, u9, u10, u11] [] (put τ a μ) := by
  have hC := hW.1
  have h30 := hC.l
  have h12 := hC.s.2
  obtain ⟨w1, w2, w3, w4, w5, -⟩ := hW.2.2.1 i hi
  have i30 : ix (nI i) 30 = true := ix_of (by omega) (by omega)
  have ci := cl30 (show i < 30 by omega)
  have z : ¬ nI (nL ν) ≤ nI i := nI_ge hi (by omega)
  have e7 : μ.1 7 = nI (nL ν) := by rw [hE.1 7 (by omega)]; exact h30.1
  have e8 : μ.2 8 i = nI (lA ν i) := by rw [hE.2.2.2.2 8 (by omega)]; exact w1
  have e9 : μ.2 9 i = nI (lB ν i) := by rw [hE.2.2.2.2 9 (by omega)]; exact w3
  rw [nI_succ]
  by_cases y1 : s = lA ν i
  · have z1 : nI (lA ν i) = nI s := by rw [y1]
    have hb := h.resolve_left (fun z => z (Or.inl y1))
    have ef : farN ν i s = lB ν i := by unfold farN; rw [if_pos y1]
    rw [ef] at hb
    have eb := bit_at met (show lB ν i < 32 by omega)
    rw [if_pos hb] at eb
    exact ⟨.int (nI (lB ν i)), by simp [psh_some, psh_none, -Int32.not_lt, -Int32.not_le, q_M_goesOn_10, q_M_goesOn_19, q_M_goesOn_44, q_M_goesOn_55, q_M_goesOn_72, q_M_goesOn_85, q_M_goesOn_273, hL, e7, z, i30, ci, e8, e9, z1, eb]⟩
  · have z1 : ¬ nI (lA ν i) = nI s := by rw [nI_eq (by omega) (by omega)]; omega
    by_cases y2 : s = lB ν i
    · have z2 : nI (lB ν i) = nI s := by rw [y2]
      have hb := h.resolve_left (fun z => z (Or.inr y2))
      have ef : farN ν i s = lA ν i := by unfold farN; rw [if_neg y1]
      rw [ef] at hb
      have eb := bit_at met (show lA ν i < 32 by omega)
      rw [if_pos hb] at eb
      exact ⟨.int (nI (lA ν i)), by simp [psh_some, psh_none, -Int32.not_lt, -Int32.not_le, q_M_goesOn_10, q_M_goesOn_19, q_M_goesOn_30, q_M_goesOn_44, q_M_goesOn_65, q_M_goesOn_72, q_M_goesOn_85, q_M_goesOn_273, hL, e7, z, i30, ci, e8, e9, z1, z2, eb]⟩
    · have z2 : ¬ nI (lB ν i) = nI s := by rw [nI_eq (by omega) (by omega)]; omega
      exact ⟨u7, by simp [psh_some, psh_none, -Int32.not_lt, -Int32.not_le, q_M_goesOn_10, q_M_goesOn_19, q_M_goesOn_30, q_M_goesOn_41, q_M_goesOn_273, hL, e7, z, i30, ci, e8, e9, z1, z2]⟩
/-- up to the minute at which it goes on -/
theorem g_to (hL : LM τ a) (hW : Wf ν) (hk : k < nB ν) (hn : n ≤ nF ν) (hE : Evr ν k g n μ) {i s m : Nat} (hi : i < nL ν) (hs : s < nS ν) (hm : m ≤ 143999) (f dp met : Int32) (u7 u8 u9 u10 u11 : Value) (h1 : s = lA ν i ∨ s = lB ν i) (h2 : ¬ btI met (farN ν i s) = true) : run (d + 4) 182 10 [.ref a, .int (nI s), .int (nI m), .int f, .int dp, .int met, .int (nI i), u7, u8, u9, u10, u11] [] (put τ a μ) = run (d + 4) 182 96 [.ref a, .int (nI s), .int (nI m), .int f, .int dp, .int met, .int (nI i), .int (nI (farN ν i s)), u8, u9, u10, u11] [.int (oD (dep ν k i s n m))] (put τ a (fF μ 76 (wlv ν k i s n m 25 0 (μ.1 76)))) := by
  have hC := hW.1
  have h30 := hC.l
  have h12 := hC.s.2
  obtain ⟨w1, w2, w3, w4, w5, -⟩ := hW.2.2.1 i hi
  have i30 : ix (nI i) 30 = true := ix_of (by omega) (by omega)
  have ci := cl30 (show i < 30 by omega)
  have z : ¬ nI (nL ν) ≤ nI i := nI_ge hi (by omega)
  have e7 : μ.1 7 = nI (nL ν) := by rw [hE.1 7 (by omega)]; exact h30.1
  have e8 : μ.2 8 i = nI (lA ν i) := by rw [hE.2.2.2.2 8 (by omega)]; exact w1
  have e9 : μ.2 9 i = nI (lB ν i) := by rw [hE.2.2.2.2 9 (by omega)]; exact w3
  have el := m_leaves (τ := τ) d hL hW hk hn hi hs hm hE
  by_cases y1 : s = lA ν i
  · have z1 : nI (lA ν i) = nI s := by rw [y1]
    have ef : farN ν i s = lB ν i := by unfold farN; rw [if_pos y1]
    rw [ef] at h2 ⊢
    have eb := bit_at met (show lB ν i < 32 by omega)
    rw [if_neg h2] at eb
    simp [psh_some, psh_none, -Int32.not_lt, -Int32.not_le, q_M_goesOn_10, q_M_goesOn_19, q_M_goesOn_44, q_M_goesOn_55, q_M_goesOn_72, q_M_goesOn_88, hL, e7, z, i30, ci, e8, e9, z1, eb, el]
  · have z1 : ¬ nI (lA ν i) = nI s := by rw [nI_eq (by omega) (by omega)]; omega
    have y2 : s = lB ν i := h1.resolve_left y1
    have z2 : nI (lB ν i) = nI s := by rw [y2]
    have ef : farN ν i s = lA ν i := by unfold farN; rw [if_neg y1]
    rw [ef] at h2 ⊢
    have eb := bit_at met (show lA ν i < 32 by omega)
    rw [if_neg h2] at eb
    simp [psh_some, psh_none, -Int32.not_lt, -Int32.not_le, q_M_goesOn_10, q_M_goesOn_19, q_M_goesOn_30, q_M_goesOn_44, q_M_goesOn_65, q_M_goesOn_72, q_M_goesOn_88, hL, e7, z, i30, ci, e8, e9, z1, z2, eb, el]
theorem g_none (hL : LM τ a) (x1 x2 x3 x4 x5 x7 : Int32) (i : Nat) (u8 u9 u10 u11 : Value) : ∃ u8' : Value, run d 182 96 [.ref a, .int x1, .int x2, .int x3, .int x4, .int x5, .int (nI i), .int x7, u8, u9, u10, u11] [.int (-1)] (put τ a μ) = run d 182 10 [.ref a, .int x1, .int x2, .int x3, .int x4, .int x5, .int (nI (i + 1)), .int x7, u8', u9, u10, u11] [] (put τ a μ) := by
  rw [nI_succ]
  exact ⟨.int (-1), by simp [psh_some, psh_none, -Int32.not_lt, -Int32.not_le, q_M_goesOn_96, q_M_goesOn_273, hL]⟩
theorem g_fuel (hL : LM τ a) (hW : Wf ν) (hk : k < nB ν) (hn : n ≤ nF ν) (hE : Evr ν k g n μ) {i s x f : Nat} (hi : i < nL ν) (h76 : μ.1 76 = mnI ν k i s n x) (hx : x ≤ 143999) (hf : f ≤ 3000) (h : f < brN ν k i s n x) (x1 x2 x4 x5 x7 : Int32) (u8 u9 u10 u11 : Value) : ∃ u8' : Value, run (d + 4) 182 96 [.ref a, .int x1, .int x2, .int (nI f), .int x4, .int x5, .int (nI i), .int x7, u8, u9, u10, u11] [.int (nI x)] (put τ a μ) = run (d + 4) 182 10 [.ref a, .int x1, .int x2, .int (nI f), .int x4, .int x5, .int (nI (i + 1)), .int x7, u8', u9, u10, u11] [] (put τ a μ) := by
  have hb := hW.1.b
  obtain ⟨b1, b2⟩ := br_N hW hk hi hn s x
  have nm : ¬ nI x = -1 := by
    intro e
    have := nI_pos' (n := x) (by omega)
    rw [e] at this
    exact absurd this (by decide)
  have eb := m_burns (μ := μ) (σ := τ) (d + 2) hL (show k < 6 by omega) (mnI ν k i s n x)
  rw [hE.2.2.2.2 20 (by omega), b1] at eb
  have z : ¬ nI (brN ν k i s n x) ≤ nI f := nI_ge h (by omega)
  rw [nI_succ]
  exact ⟨.int (nI x), by simp [psh_some, psh_none, -Int32.not_lt, -Int32.not_le, q_M_goesOn_96, q_M_goesOn_104, q_M_goesOn_116, q_M_goesOn_120, q_M_goesOn_273, hL, nm, hE.2.1, h76, eb, z]⟩
/-- the leg is walked -/
theorem g_walk (hL : LM τ a) (hW : Wf ν) (hk : k < nB ν) (hn : n ≤ nF ν) (hE : Evr ν k g n μ) {i s x f dp : Nat} (hi : i < nL ν) (h76 : μ.1 76 = mnI ν k i s n x) (hx : x ≤ 143999) (hf : f ≤ 3000) (h : brN ν k i s n x ≤ f) (hd : dp < 5) (x1 x2 x5 x7 : Int32) (u8 u9 u10 u11 : Value) : run (d + 4) 182 96 [.ref a, .int x1, .int x2, .int (nI f), .int (nI dp), .int x5, .int (nI i), .int x7, u8, u9, u10, u11] [.int (nI x)] (put τ a μ) = run (d + 4) 182 157 [.ref a, .int x1, .int x2, .int (nI f), .int (nI dp), .int x5, .int (nI i), .int x7, .int (nI x), .int (nI (x + mnN ν k i s n x)), .int (nI (f - brN ν k i s n x)), u11] [] (put τ a (fA μ 75 dp (nI i))) := by
  have hb := hW.1.b
  obtain ⟨b1, b2⟩ := br_N hW hk hi hn s x
  obtain ⟨q1, q2, q3⟩ := mn_N hW hk hi hn s x
  have nm : ¬ nI x = -1 := by
    intro e
    have := nI_pos' (n := x) (by omega)
    rw [e] at this
    exact absurd this (by decide)
  have eb := m_burns (μ := μ) (σ := τ) (d + 2) hL (show k < 6 by omega) (mnI ν k i s n x)
  rw [hE.2.2.2.2 20 (by omega), b1] at eb
  have z : nI (brN ν k i s n x) ≤ nI f := nI_le h (by omega)
  have ea : nI x + mnI ν k i s n x = nI (x + mnN ν k i s n x) := by rw [q1, nI_add]
  have es : nI f - nI (brN ν k i s n x) = nI (f - brN ν k i s n x) := pk_sub h
  have i5 : ix (nI dp) 5 = true := ix_of hd (by omega)
  have cd := cl1000 (show dp < 1000 by omega)
  simp [psh_some, psh_none, -Int32.not_lt, -Int32.not_le, q_M_goesOn_96, q_M_goesOn_104, q_M_goesOn_116, q_M_goesOn_123, q_M_goesOn_145, hL, nm, hE.2.1, h76, eb, z, ea, es, i5, cd]
theorem g_rec (hL : LM τ a) (hW : Wf ν) (hk : k < nB ν) (hE : Evr ν k g n μ) {e y lft dp i : Nat} (he : e < nS ν) (hg : g < nS ν) (hne : e ≠ g) (x1 x2 x3 x5 x8 : Int32) (u11 : Value) {μ3 : Ms} (hr : runc d 182 [.ref a, .int (nI e), .int (nI y), .int (nI (fue ν k e lft)), .int (nI (dp + 1)), .int (x5 ||| (1 <<< (nI e &&& 31)))] (put τ a μ) = some (none, put τ a μ3)) : ∃ u7 u8 u9 u10 u11' : Value, run (d + 1) 182 157 [.ref a, .int x1, .int x2, .int x3, .int (nI dp), .int x5, .int (nI i), .int (nI e), .int x8, .int (nI y), .int (nI lft), u11] [] (put τ a μ) = run (d + 1) 182 10 [.ref a, .int x1, .int x2, .int x3, .int (nI dp), .int x5, .int (nI (i + 1)), u7, u8, u9, u10, u11'] [] (put τ a μ3) := by
  have h12 := hW.1.s.2
  have hb := hW.1.b
  have z1 : ¬ nI e = nI g := by rw [nI_eq (by omega) (by omega)]; exact hne
  have i12 : ix (nI e) 12 = true := ix_of (by omega) (by omega)
  have ce := cl12 (show e < 12 by omega)
  have i6 : ix (nI k) 6 = true := ix_of (by omega) (by omega)
  have ck := cl6 (show k < 6 by omega)
  have e6 := hE.2.2.2.2 6 (by omega)
  have e21 := hE.2.2.2.2 21 (by omega)
  obtain ⟨t, f, t1, t2, t3, -⟩ := (hW.2.2.2.1.1 k hk).2.2.2.2.2.1
  have et : ν.2 21 k = nI (ν.2 21 k).toNatClampNeg := by rw [t3, nI_clamp (by omega)]
  rw [nI_succ i]
  rw [← nI_1 dp] at hr
  unfold fue at hr
  refine ⟨.int (nI e), .int x8, .int (nI y), .int (nI lft), u11, ?_⟩
  by_cases c : ν.2 6 e ≤ 0
  · rw [if_pos c] at hr
    simp [psh_some, psh_none, -Int32.not_lt, -Int32.not_le, q_M_goesOn_157, q_M_goesOn_166, q_M_goesOn_193, q_M_goesOn_195, q_M_goesOn_209, q_M_goesOn_273, hL, hE.2.2.1, z1, i12, ce, e6, c, hr]
  · rw [if_neg c, ← et] at hr
    simp [psh_some, psh_none, -Int32.not_lt, -Int32.not_le, q_M_goesOn_157, q_M_goesOn_166, q_M_goesOn_181, q_M_goesOn_195, q_M_goesOn_209, q_M_goesOn_273, hL, hE.2.2.1, hE.2.1, z1, i12, ce, i6, ck, e6, e21, c, hr]
theorem g_end (hL : LM τ a) (hW : Wf ν) (hE : Evr ν k g n μ) (x1 x2 x3 x4 x5 : Int32) (u7 u8 u9 u10 u11 : Value) : run d 182 10 [.ref a, .int x1, .int x2, .int x3, .int x4, .int x5, .int (nI (nL ν)), u7, u8, u9, u10, u11] [] (put τ a μ) = some (none, put τ a μ) := by
  have e7 : μ.1 7 = nI (nL ν) := by rw [hE.1 7 (by omega)]; exact hW.1.l.1
  simp [psh_some, psh_none, -Int32.not_lt, -Int32.not_le, q_M_goesOn_10, q_M_goesOn_279, hL, e7]
theorem g_beg (hL : LM τ a) {dp : Nat} (hd : dp < 5) (x1 x2 x3 x5 : Int32) : runc d 182 [.ref a, .int x1, .int x2, .int x3, .int (nI dp), .int x5] (put τ a μ) = run d 182 10 [.ref a, .int x1, .int x2, .int x3, .int (nI dp), .int x5, .int (nI 0), uu, uu, uu, uu, uu] [] (put τ a μ) := by
  have z : ¬ nI dp = 5 := fun e => by
    have : nI dp = nI 5 := e
    rw [nI_eq (by omega) (by omega)] at this
    omega
  rw [nI_0]
  simp [psh_some, psh_none, -Int32.not_lt, -Int32.not_le, rc_M_goesOn, q_M_goesOn_0, q_M_goesOn_7, hL, z]
theorem g_5 (hL : LM τ a) (x1 x2 x3 x5 : Int32) : runc d 182 [.ref a, .int x1, .int x2, .int x3, .int (nI 5), .int x5] (put τ a μ) = some (none, put τ a μ) := by
  have z : nI 5 = (5 : Int32) := rfl
  simp [psh_some, psh_none, -Int32.not_lt, -Int32.not_le, rc_M_goesOn, q_M_goesOn_0, q_M_goesOn_6, hL, z]
/-- the goal, no earlier than the best -/
theorem g_goal0 (hL : LM τ a) (hE : Evr ν k g n μ) {i b y : Nat} (h72 : μ.1 72 = nI b) (hb : b ≤ y) (h1 : b < 144000) (hy : y ≤ 150000) (x1 x2 x3 x4 x5 x8 x10 : Int32) (u11 : Value) : run d 182 157 [.ref a, .int x1, .int x2, .int x3, .int x4, .int x5, .int (nI i), .int (nI g), .int x8, .int (nI y), .int x10, u11] [] (put τ a μ) = run d 182 10 [.ref a, .int x1, .int x2, .int x3, .int x4, .int x5, .int (nI (i + 1)), .int (nI g), .int x8, .int (nI y), .int x10, u11] [] (put τ a μ) := by
  have nm : ¬ nI b = -1 := by
    intro e
    have := nI_pos' (n := b) (by omega)
    rw [e] at this
    exact absurd this (by decide)
  have z : nI b ≤ nI y := nI_le hb (by omega)
  rw [nI_succ]
  simp [psh_some, psh_none, -Int32.not_lt, -Int32.not_le, q_M_goesOn_157, q_M_goesOn_212, q_M_goesOn_220, q_M_goesOn_273, hL, hE.2.2.1, h72, nm, z]
/-- it is left alone -/
def Nu (ν : Ms) (k g n dp : Nat) (μ μ' : Ms) : Prop := Evr ν k g n μ' ∧ μ'.1 72 = μ.1 72 ∧ μ'.1 73 = μ.1 73 ∧ μ'.2 74 = μ.2 74 ∧ ∀ j, j < dp → μ'.2 75 j = μ.2 75 j
theorem Nu.trans {dp dp' : Nat} {μ1 μ2 : Ms} (h1 : Nu ν k g n dp μ μ1) (h2 : Nu ν k g n dp' μ1 μ2) (h : dp ≤ dp') : Nu ν k g n dp μ μ2 := ⟨h2.1, h2.2.1.trans h1.2.1, h2.2.2.1.trans h1.2.2.1, h2.2.2.2.1.trans h1.2.2.2.1, fun j hj => (h2.2.2.2.2 j (by omega)).trans (h1.2.2.2.2 j hj)⟩
theorem Nu_76 (h : Evr ν k g n μ) (dp : Nat) (v : Int32) : Nu ν k g n dp μ (fF μ 76 v) := ⟨Env_76 h v, rfl, rfl, rfl, fun _ _ => rfl⟩
theorem Nu_75 (h : Evr ν k g n μ) (dp : Nat) (v : Int32) : Nu ν k g n dp μ (fA μ 75 dp v) := ⟨Env_75 h dp v, rfl, rfl, fA_2n _ (by decide), fun j hj => by rw [fA_2, if_neg (by omega)]⟩
/-- nothing better can come: the goal was met, or the minute is no earlier than the best -/
def Nb (g : Nat) (met : Int32) (m : Nat) (μ : Ms) : Prop := btI met g = true ∨ ∃ b, μ.1 72 = nI b ∧ b ≤ m ∧ b < 144000
theorem fue_le (hW : Wf ν) (hk : k < nB ν) {e l : Nat} (hl : l ≤ 3000) : fue ν k e l ≤ 3000 := by
  unfold fue
  split
  · exact hl
  · obtain ⟨t, f, t1, t2, t3, -⟩ := (hW.2.2.2.1.1 k hk).2.2.2.2.2.1
    rw [t3, nI_clamp (by omega)]
    exact t2
theorem nup (hW : Wf ν) (hk : k < nB ν) (hn : n ≤ nF ν) (hg : g < nS ν) : ∀ (y dp s m f : Nat) (met : Int32) (μ : Ms), dp + y = 5 → s < nS ν → m ≤ 143999 → f ≤ 3000 → Evr ν k g n μ → Nb g met m μ → ∃ μ', (∀ (d : Nat) (τ : Mm), LM τ a → runc (d + y + 4) 182 [.ref a, .int (nI s), .int (nI m), .int (nI f), .int (nI dp), .int met] (put τ a μ) = some (none, put τ a μ')) ∧ Nu ν k g n dp μ μ' := by
  have h12 := hW.1.s.2
  intro y
  induction y with
  | zero =>
    intro dp s m f met μ hd hs hm hf hE hN
    have : dp = 5 := by omega
    subst this
    exact ⟨μ, fun d τ hL => g_5 _ hL _ _ _ _, hE, rfl, rfl, rfl, fun _ _ => rfl⟩
  | succ y IH =>
    intro dp s m f met μ hd hs hm hf hE hN
    have key : ∀ (z i : Nat) (μ : Ms), i + z = nL ν → Evr ν k g n μ → Nb g met m μ → ∃ μ', (∀ (d : Nat) (τ : Mm) (u7 u8 u9 u10 u11 : Value), LM τ a → run (d + (y + 1) + 4) 182 10 [.ref a, .int (nI s), .int (nI m), .int (nI f), .int (nI dp), .int met, .int (nI i), u7, u8, u9, u10, u11] [] (put τ a μ) = some (none, put τ a μ')) ∧ Nu ν k g n dp μ μ' := by
      intro z
      induction z with
      | zero =>
        intro i μ hi hE hN
        have : i = nL ν := by omega
        subst this
        exact ⟨μ, fun d τ u7 u8 u9 u10 u11 hL => g_end _ hL hW hE _ _ _ _ _ _ _ _ _ _, hE, rfl, rfl, rfl, fun _ _ => rfl⟩
      | succ z ih =>
        intro i μ hi hE hN
        have hi' : i < nL ν := by omega
        obtain ⟨w1, w2, w3, w4, w5, -⟩ := hW.2.2.1 i hi'
        have hfar : farN ν i s < nS ν := by unfold farN; split <;> assumption
        by_cases hsk : ¬ (s = lA ν i ∨ s = lB ν i) ∨ btI met (farN ν i s) = true
        · obtain ⟨μ', h1, h2⟩ := ih (i + 1) μ (by omega) hE hN
          refine ⟨μ', fun d τ u7 u8 u9 u10 u11 hL => ?_, h2⟩
          obtain ⟨u7', e⟩ := g_skip (τ := τ) (d + (y + 1) + 4) hL hW hE hi' hs (nI m) (nI f) (nI dp) met u7 u8 u9 u10 u11 hsk
          rw [e]
          exact h1 d τ _ _ _ _ _ hL
        · have t1 : s = lA ν i ∨ s = lB ν i := by
            by_cases q : s = lA ν i ∨ s = lB ν i
            · exact q
            · exact absurd (Or.inl q) hsk
          have t2 : ¬ btI met (farN ν i s) = true := fun q => hsk (Or.inr q)
          have hE1 := Env_76 hE (wlv ν k i s n m 25 0 (μ.1 76))
          have N1 := Nu_76 hE dp (wlv ν k i s n m 25 0 (μ.1 76))
          cases hdep : dep ν k i s n m with
          | none =>
            obtain ⟨μ', h1, h2⟩ := ih (i + 1) _ (by omega) hE1 hN
            refine ⟨μ', fun d τ u7 u8 u9 u10 u11 hL => ?_, N1.trans h2 (Nat.le_refl _)⟩
            rw [g_to (τ := τ) (d + (y + 1)) hL hW hk hn hE hi' hs hm (nI f) (nI dp) met u7 u8 u9 u10 u11 t1 t2, hdep]
            obtain ⟨u8', e⟩ := g_none (τ := τ) (μ := fF μ 76 (wlv ν k i s n m 25 0 (μ.1 76))) (d + (y + 1) + 4) hL (nI s) (nI m) (nI f) (nI dp) met (nI (farN ν i s)) i u8 u9 u10 u11
            exact e.trans (h1 d τ _ _ _ _ _ hL)
          | some x =>
            obtain ⟨x1, x2, x3⟩ := dpt_ge _ _ _ hdep
            have x1 : m ≤ x := x1
            have x3 := (of_decide_eq_true x3).1
            have h76 : (fF μ 76 (wlv ν k i s n m 25 0 (μ.1 76))).1 76 = mnI ν k i s n x := wlv_ok 25 0 _ x hdep
            generalize hμ1 : fF μ 76 (wlv ν k i s n m 25 0 (μ.1 76)) = μ1 at hE1 N1 h76
            have hN1 : Nb g met m μ1 := by
              rcases hN with q | ⟨b, q1, q2, q3⟩
              · exact Or.inl q
              · exact Or.inr ⟨b, by rw [N1.2.1]; exact q1, q2, q3⟩
            by_cases hfu : f < brN ν k i s n x
            · obtain ⟨μ', h1, h2⟩ := ih (i + 1) μ1 (by omega) hE1 hN1
              refine ⟨μ', fun d τ u7 u8 u9 u10 u11 hL => ?_, N1.trans h2 (Nat.le_refl _)⟩
              rw [g_to (τ := τ) (d + (y + 1)) hL hW hk hn hE hi' hs hm (nI f) (nI dp) met u7 u8 u9 u10 u11 t1 t2, hdep, hμ1]
              obtain ⟨u8', e⟩ := g_fuel (τ := τ) (d + (y + 1)) hL hW hk hn hE1 hi' h76 x2 hf hfu (nI s) (nI m) (nI dp) met (nI (farN ν i s)) u8 u9 u10 u11
              exact e.trans (h1 d τ _ _ _ _ _ hL)
            · have hbr : brN ν k i s n x ≤ f := by omega
              have hE2 := Env_75 hE1 dp (nI i)
              have N2 := Nu_75 hE1 dp (nI i)
              have wk := fun (d : Nat) (τ : Mm) (u8 u9 u10 u11 : Value) (hL : LM τ a) => g_walk (τ := τ) (d + (y + 1)) hL hW hk hn hE1 hi' h76 x2 hf hbr (show dp < 5 by omega) (nI s) (nI m) met (nI (farN ν i s)) u8 u9 u10 u11
              generalize fA μ1 75 dp (nI i) = μ2 at hE2 N2 wk
              have N12 := N1.trans N2 (Nat.le_refl _)
              have hN2 : Nb g met m μ2 := by
                rcases hN1 with q | ⟨b, q1, q2, q3⟩
                · exact Or.inl q
                · exact Or.inr ⟨b, by rw [N2.2.1]; exact q1, q2, q3⟩
              by_cases hfg : farN ν i s = g
              · obtain ⟨b, q1, q2, q3⟩ := hN2.resolve_left (fun q => t2 (by rw [hfg]; exact q))
                obtain ⟨μ', h1, h2⟩ := ih (i + 1) μ2 (by omega) hE2 hN2
                refine ⟨μ', fun d τ u7 u8 u9 u10 u11 hL => ?_, N12.trans h2 (Nat.le_refl _)⟩
                rw [g_to (τ := τ) (d + (y + 1)) hL hW hk hn hE hi' hs hm (nI f) (nI dp) met u7 u8 u9 u10 u11 t1 t2, hdep, hμ1]
                have e := wk d τ u8 u9 u10 u11 hL
                have e2 := g_goal0 (τ := τ) (d + (y + 1) + 4) hL hE2 (i := i) (y := x + mnN ν k i s n x) q1 (by omega) q3 (by omega) (nI s) (nI m) (nI f) (nI dp) met (nI x) (nI (f - brN ν k i s n x)) u11
                rw [← hfg] at e2
                exact e.trans (e2.trans (h1 d τ _ _ _ _ _ hL))
              · have hN3 : Nb g (met ||| (1 <<< (nI (farN ν i s) &&& 31))) (x + mnN ν k i s n x) μ2 := by
                  rcases hN2 with q | ⟨b, q1, q2, q3⟩
                  · exact Or.inl (by rw [b_or, q]; rfl)
                  · exact Or.inr ⟨b, q1, by omega, q3⟩
                obtain ⟨μ3, r1, r2⟩ := IH (dp + 1) (farN ν i s) (x + mnN ν k i s n x) (fue ν k (farN ν i s) (f - brN ν k i s n x)) (met ||| (1 <<< (nI (farN ν i s) &&& 31))) μ2 (by omega) hfar x3 (fue_le hW hk (by omega)) hE2 hN3
                have hN4 : Nb g met m μ3 := by
                  rcases hN2 with q | ⟨b, q1, q2, q3⟩
                  · exact Or.inl q
                  · exact Or.inr ⟨b, by rw [r2.2.1]; exact q1, q2, q3⟩
                obtain ⟨μ', h1, h2⟩ := ih (i + 1) μ3 (by omega) r2.1 hN4
                refine ⟨μ', fun d τ u7 u8 u9 u10 u11 hL => ?_, (N12.trans r2 (Nat.le_succ _)).trans h2 (Nat.le_refl _)⟩
                rw [g_to (τ := τ) (d + (y + 1)) hL hW hk hn hE hi' hs hm (nI f) (nI dp) met u7 u8 u9 u10 u11 t1 t2, hdep, hμ1]
                have e := wk d τ u8 u9 u10 u11 hL
                obtain ⟨v7, v8, v9, v10, v11, e2⟩ := g_rec (τ := τ) (d + y + 4) hL hW hk hE2 (i := i) hfar hg hfg (nI s) (nI m) (nI f) met (nI x) u11 (r1 d τ hL)
                exact e.trans (e2.trans (h1 d τ _ _ _ _ _ hL))
    obtain ⟨μ', h1, h2⟩ := key (nL ν) 0 μ (by omega) hE hN
    refine ⟨μ', fun d τ hL => ?_, h2⟩
    rw [g_beg _ hL (by omega)]
    exact h1 d τ _ _ _ _ _ hL
end P81
