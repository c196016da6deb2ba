/-! ===== WAYS: BOTH SEARCH ALIKE ===== -/
section P82
variable {σ τ : Mm} {a c q : Nat} {E S L H : Nat → Nat} {Z : Nat → List Nat} {ν μ π : Ms} {k g n : Nat} (d : Nat)
theorem nx_m1 {x : Nat} (h : x ≤ 1000000) : ¬ nI x = -1 := by
  intro e
  have := nI_pos' (n := x) (by omega)
  rw [e] at this
  exact absurd this (by decide)
theorem s_head (h : Pe σ c q E S L H Z ν k g n) (hW : Wf ν) {i s : Nat} (hi : i < nL ν) (hs : s < nS ν) (dp m f met : Int32) (u7 u8 u9 u10 u11 : Value) : run (d + 4) 32 9 [.ref q, .int dp, .ref (S s), .int m, .int f, .int met, .int (nI i), u7, u8, u9, u10, u11] [] σ = run (d + 4) 32 53 [.ref q, .int dp, .ref (S s), .int m, .int f, .int met, .int (nI i), .ref (L i), .ref (S (farN ν i s)), u9, u10, u11] [.int (bZ (s = lA ν i ∨ s = lB ν i))] σ := by
  obtain ⟨hF, hRF, hRS, hRL, hh, hLs, p0, p1, p2, p3, p4, p5, p6, p7, p8, p9, p10, p11⟩ := h
  have hC := hW.1
  have h30 := hC.l
  obtain ⟨w1, w2, w3, w4, -⟩ := hW.2.2.1 i hi
  have eo : runc (d + 3) 21 [.ref (L i), .ref (S s)] σ = some (some (.ref (S (farN ν i s))), σ) := c_otherEnd (d + 3) hRS hC hRL hi hs w2
  have et := c_touches (d + 3) hRS hC hRL hi hs w2 w4
  have eg := c_get (d + 1) hLs (by omega) hi
  have es := c_size (σ := σ) (d + 3) hLs.1
  rw [hLs.2.1] at es
  have kL := (hRL i hi).1
  have z : ¬ nI (nL ν) ≤ nI i := nI_ge hi (by omega)
  simp [psh_some, psh_none, -Int32.not_lt, -Int32.not_le, va_rf, isA_r, isR_r, vd, ar, e_Planner_search_9, e_Planner_search_20, e_Planner_search_23, e_Planner_search_34, e_Planner_search_45, p0, p1, fK_2 hF, es, z, eg, kL, eo, et]
theorem s_skip (h : Pe σ c q E S L H Z ν k g n) (hW : Wf ν) {i s : Nat} (hi : i < nL ν) (hs : s < nS ν) (dp m f met : Int32) (u7 u8 u9 u10 u11 : Value) (hsk : ¬ (s = lA ν i ∨ s = lB ν i) ∨ btI met (farN ν i s) = true) : run (d + 4) 32 9 [.ref q, .int dp, .ref (S s), .int m, .int f, .int met, .int (nI i), u7, u8, u9, u10, u11] [] σ = run (d + 4) 32 9 [.ref q, .int dp, .ref (S s), .int m, .int f, .int met, .int (nI (i + 1)), .ref (L i), .ref (S (farN ν i s)), u9, u10, u11] [] σ := by
  rw [s_head d h hW hi hs, nI_succ]
  obtain ⟨w1, w2, w3, w4, -⟩ := hW.2.2.1 i hi
  have h12 := hW.1.s.2
  have hfar : farN ν i s < nS ν := by unfold farN; split <;> assumption
  obtain ⟨f0, f1, -⟩ := h.2.2.1 _ hfar
  by_cases t : s = lA ν i ∨ s = lB ν i
  · have hb := hsk.resolve_left (fun z => z t)
    have eb := bit_at met (show farN ν i s < 32 by omega)
    rw [if_pos hb] at eb
    rw [bZ_t t]
    simp [psh_some, psh_none, -Int32.not_lt, -Int32.not_le, isA_r, isR_r, vd, e_Planner_search_53, e_Planner_search_56, e_Planner_search_70, e_Planner_search_225, f0, f1, eb]
  · rw [bZ_f t]
    simp [psh_some, psh_none, -Int32.not_lt, -Int32.not_le, isA_r, isR_r, vd, e_Planner_search_53, e_Planner_search_225]
theorem s_d4 (h : Pe σ c q E S L H Z ν k g n) (hW : Wf ν) (hg : g < nS ν) {i s : Nat} (hi : i < nL ν) (hs : s < nS ν) (m f met : Int32) (u7 u8 u9 u10 u11 : Value) (t1 : s = lA ν i ∨ s = lB ν i) (t2 : ¬ btI met (farN ν i s) = true) (hfg : ¬ farN ν i s = g) : run (d + 4) 32 9 [.ref q, .int (nI 4), .ref (S s), .int m, .int f, .int met, .int (nI i), u7, u8, u9, u10, u11] [] σ = run (d + 4) 32 9 [.ref q, .int (nI 4), .ref (S s), .int m, .int f, .int met, .int (nI (i + 1)), .ref (L i), .ref (S (farN ν i s)), u9, u10, u11] [] σ := by
  rw [s_head d h hW hi hs, nI_succ i, bZ_t t1]
  obtain ⟨w1, w2, w3, w4, -⟩ := hW.2.2.1 i hi
  have h12 := hW.1.s.2
  have hfar : farN ν i s < nS ν := by unfold farN; split <;> assumption
  obtain ⟨f0, f1, -⟩ := h.2.2.1 _ hfar
  have eb := bit_at met (show farN ν i s < 32 by omega)
  rw [if_neg t2] at eb
  have p0 := h.2.2.2.2.2.2.1
  have p5 := h.2.2.2.2.2.2.2.2.2.2.2.1
  have hne : ¬ S (farN ν i s) = S g := fun z => hfg (h.2.2.1.inj hW.1 hfar hg z)
  have z4 : nI 4 = (4 : Int32) := rfl
  simp [psh_some, psh_none, -Int32.not_lt, -Int32.not_le, va_rf, vr, isA_r, isR_r, vd, e_Planner_search_53, e_Planner_search_56, e_Planner_search_73, e_Planner_search_82, e_Planner_search_87, e_Planner_search_225, f0, f1, eb, p0, p5, hne, z4]
theorem s_to (h : Pe σ c q E S L H Z ν k g n) (hW : Wf ν) (hk : k < nB ν) (hn : n ≤ nF ν) (hg : g < nS ν) {b : Nat} (hb8 : mI σ 8 q 8 = nI b) (hb : b ≤ 144000) {i s m dp : Nat} (hi : i < nL ν) (hs : s < nS ν) (hm : m ≤ 143999) (hd : dp < 5) (f met : Int32) (u7 u8 u9 u10 u11 : Value) (t1 : s = lA ν i ∨ s = lB ν i) (t2 : ¬ btI met (farN ν i s) = true) (hfg : farN ν i s = g ∨ dp ≠ 4) : run (d + 4) 32 9 [.ref q, .int (nI dp), .ref (S s), .int (nI m), .int f, .int met, .int (nI i), u7, u8, u9, u10, u11] [] σ = run (d + 4) 32 98 [.ref q, .int (nI dp), .ref (S s), .int (nI m), .int f, .int met, .int (nI i), .ref (L i), .ref (S (farN ν i s)), u9, u10, u11] [.int (oB b (dep ν k i s n m))] σ := by
  rw [s_head d h hW hi hs, bZ_t t1]
  have ed := c_dep d h hW hk hn hb8 hb hi hs hm
  obtain ⟨w1, w2, w3, w4, -⟩ := hW.2.2.1 i hi
  have h12 := hW.1.s.2
  have hfar : farN ν i s < nS ν := by unfold farN; split <;> assumption
  obtain ⟨f0, f1, -⟩ := h.2.2.1 _ hfar
  have eb := bit_at met (show farN ν i s < 32 by omega)
  rw [if_neg t2] at eb
  have p0 := h.2.2.2.2.2.2.1
  have p5 := h.2.2.2.2.2.2.2.2.2.2.2.1
  by_cases y : farN ν i s = g
  · rw [← y] at p5
    simp [psh_some, psh_none, -Int32.not_lt, -Int32.not_le, va_rf, vr, isA_r, isR_r, vd, e_Planner_search_53, e_Planner_search_56, e_Planner_search_73, e_Planner_search_90, f0, f1, eb, p0, p5, ed]
  · have e1 : ¬ S (farN ν i s) = S g := fun z => y (h.2.2.1.inj hW.1 hfar hg z)
    have z4 : ¬ nI dp = 4 := fun z => (hfg.resolve_left y) ((nI_eq (b := 4) (by omega) (by omega)).mp z)
    simp [psh_some, psh_none, -Int32.not_lt, -Int32.not_le, va_rf, vr, isA_r, isR_r, vd, e_Planner_search_53, e_Planner_search_56, e_Planner_search_73, e_Planner_search_82, e_Planner_search_90, f0, f1, eb, p0, p5, e1, z4, ed]
theorem s_none (h : Pe σ c q E S L H Z ν k g n) {i e s : Nat} (dp m f met : Int32) (u9 u10 u11 : Value) : ∃ u9' u10' u11' : Value, run (d + 4) 32 98 [.ref q, .int dp, .ref (S s), .int m, .int f, .int met, .int (nI i), .ref (L i), .ref (S e), u9, u10, u11] [.int (-1)] σ = run (d + 4) 32 9 [.ref q, .int dp, .ref (S s), .int m, .int f, .int met, .int (nI (i + 1)), .ref (L i), .ref (S e), u9', u10', u11'] [] σ := by
  obtain ⟨hF, hRF, hRS, hRL, hh, hLs, p0, p1, p2, p3, p4, p5, p6, p7, p8, p9, p10, p11⟩ := h
  have eb := c_burnt (σ := σ) (d + 2) hh 0
  have h5 := hh.1
  rw [nI_succ]
  exact ⟨.int (-1), .int 0, .int (f - dvu (ν.2 20 k * 0) 60), by simp [psh_some, psh_none, -Int32.not_lt, -Int32.not_le, va_rf, isA_r, isR_r, vd, ar, e_Planner_search_98, e_Planner_search_106, e_Planner_search_119, e_Planner_search_132, e_Planner_search_225, p0, p4, h5, eb]⟩
theorem s_98 (h : Pe σ c q E S L H Z ν k g n) (hW : Wf ν) (hk : k < nB ν) (hn : n ≤ nF ν) {i s x f : Nat} (hi : i < nL ν) (hs : s < nS ν) (hx : x ≤ 143999) (dp m met : Int32) (v8 u9 u10 u11 : Value) : run (d + 4) 32 98 [.ref q, .int dp, .ref (S s), .int m, .int (nI f), .int met, .int (nI i), .ref (L i), v8, u9, u10, u11] [.int (nI x)] σ = run (d + 4) 32 141 [.ref q, .int dp, .ref (S s), .int m, .int (nI f), .int met, .int (nI i), .ref (L i), v8, .int (nI x), .int (nI (mnN ν k i s n x)), .int (nI f - nI (brN ν k i s n x))] [] σ := by
  have em := c_minutesFrom (x := x) (d + 1) h hW hn hi hs
  obtain ⟨hF, hRF, hRS, hRL, hh, hLs, p0, p1, p2, p3, p4, p5, p6, p7, p8, p9, p10, p11⟩ := h
  obtain ⟨q1, q2, q3⟩ := mn_N hW hk hi hn s x
  obtain ⟨b1, b2⟩ := br_N hW hk hi hn s x
  have eb := c_burnt (σ := σ) (d + 2) hh (mnI ν k i s n x)
  rw [b1, q1] at eb
  rw [q1] at em
  have h5 := hh.1
  have nm := nx_m1 (show x ≤ 1000000 by omega)
  simp [psh_some, psh_none, -Int32.not_lt, -Int32.not_le, va_rf, isA_r, isR_r, vd, ar, e_Planner_search_98, e_Planner_search_110, e_Planner_search_119, e_Planner_search_132, p0, p4, h5, em, eb, nm]
theorem s_fuel {i f b : Nat} (h : f < b) (hb : b ≤ 14000) (dp m met x9 x10 : Int32) (v2 v7 v8 : Value) : run (d + 4) 32 141 [.ref q, .int dp, v2, .int m, .int (nI f), .int met, .int (nI i), v7, v8, .int x9, .int x10, .int (nI f - nI b)] [] σ = run (d + 4) 32 9 [.ref q, .int dp, v2, .int m, .int (nI f), .int met, .int (nI (i + 1)), v7, v8, .int x9, .int x10, .int (nI f - nI b)] [] σ := by
  have z : ¬ 0 ≤ nI f - nI b := Int32.not_le.mpr (pk_sneg (by omega) h)
  rw [nI_succ]
  simp [psh_some, psh_none, -Int32.not_lt, -Int32.not_le, e_Planner_search_141, e_Planner_search_146, e_Planner_search_225, z]
theorem s_walk (h : Pl σ c q S H k g n) {i f b dp : Nat} (hb : b ≤ f) (hf : f ≤ 3000) (hd : dp < 5) (m met x9 x10 : Int32) (v2 v7 v8 : Value) : run (d + 4) 32 141 [.ref q, .int (nI dp), v2, .int m, .int (nI f), .int met, .int (nI i), v7, v8, .int x9, .int x10, .int (nI f - nI b)] [] (pP σ q π) = run (d + 4) 32 157 [.ref q, .int (nI dp), v2, .int m, .int (nI f), .int met, .int (nI i), v7, v8, .int x9, .int x10, .int (nI (f - b))] [] (pP σ q (fA π 60 dp (nI i))) := by
  obtain ⟨p0, p1, p2, p3, p4, p5, p6, p7, p8, p9, p10, p11⟩ := h
  rw [pk_sub hb]
  have z : 0 ≤ nI (f - b) := nI_pos' (by omega)
  have i5 : ix (nI dp) 5 = true := ix_of hd (by omega)
  have cd := cl1000 (show dp < 1000 by omega)
  simp [psh_some, psh_none, -Int32.not_lt, -Int32.not_le, va_rf, isA_r, isR_r, vd, ar, akI, e_Planner_search_141, e_Planner_search_149, mP_pP, mK_pP, mN_pP, p0, p6, p8, p9, z, i5, cd, s_60]
theorem s_goal (h : Pl σ c q S H k g n) {i x w b dp : Nat} (hd : dp < 5) (h8 : π.1 8 = nI b) (hb : b ≤ 144000) (hx : x + w ≤ 150000) (m f met x11 : Int32) (v2 v7 : Value) (v7r : isR v7 = true) : run (d + 4) 32 157 [.ref q, .int (nI dp), v2, .int m, .int f, .int met, .int (nI i), v7, .ref (S g), .int (nI x), .int (nI w), .int x11] [] (pP σ q π) = run (d + 4) 32 9 [.ref q, .int (nI dp), v2, .int m, .int f, .int met, .int (nI (i + 1)), v7, .ref (S g), .int (nI x), .int (nI w), .int x11] [] (pP σ q (if x + w < b then kpt (fF (fF π 8 (nI (x + w))) 7 (nI (dp + 1))) else π)) := by
  have hc := cp_pP h (fF (fF π 8 (nI (x + w))) 7 (nI (dp + 1)))
  obtain ⟨p0, p1, p2, p3, p4, p5, p6, p7, p8, p9, p10, p11⟩ := h
  have ea : nI x + nI w = nI (x + w) := nI_add x w
  have ed : nI dp + 1 = nI (dp + 1) := nI_1 dp
  rw [nI_succ i]
  have kp : runc (d + 3) 35 [.ref q, .int (nI (dp + 1)), .int (nI (x + w))] (pP σ q π) = some (none, pP σ q (if x + w < b then kpt (fF (fF π 8 (nI (x + w))) 7 (nI (dp + 1))) else π)) := by
    by_cases c : x + w < b
    · have z : nI (x + w) < nI b := nI_lt c (by omega)
      rw [if_pos c]
      simp [psh_some, psh_none, -Int32.not_lt, -Int32.not_le, va_rf, isA_r, isR_r, vd, ar, akI, rc_Planner_keepIfEarlier, e_Planner_keepIfEarlier_0, e_Planner_keepIfEarlier_9, e_Planner_keepIfEarlier_14, e_Planner_keepIfEarlier_19, e_Planner_keepIfEarlier_33, mP_pP, mK_pP, mN_pP, p_8, s_7, s_8, p0, p6, p7, p8, p9, p10, p11, h8, z, hc]
    · have z : ¬ nI (x + w) < nI b := nI_nlt (by omega) (by omega)
      rw [if_neg c]
      simp [psh_some, psh_none, -Int32.not_lt, -Int32.not_le, rc_Planner_keepIfEarlier, e_Planner_keepIfEarlier_0, e_Planner_keepIfEarlier_8, mK_pP, p_8, p0, h8, z]
  simp [psh_some, psh_none, -Int32.not_lt, -Int32.not_le, va_rf, vr, isA_r, isR_r, vd, v7r, e_Planner_search_157, e_Planner_search_166, e_Planner_search_178, e_Planner_search_225, mP_pP, mK_pP, p0, p5, ea, ed, kp]
theorem s_rec (h : Pe (pP σ q π) c q E S L H Z ν k g n) (hW : Wf ν) (hk : k < nB ν) (hg : g < nS ν) {i e x w lft dp : Nat} (he : e < nS ν) (hne : e ≠ g) (m f met : Int32) (v2 v7 : Value) (v7r : isR v7 = true) {π3 : Ms} (hr : runc (d + 3) 32 [.ref q, .int (nI (dp + 1)), .ref (S e), .int (nI (x + w)), .int (nI (fue ν k e lft)), .int (met ||| (1 <<< (nI e &&& 31)))] (pP σ q π) = some (none, pP σ q π3)) : run (d + 4) 32 157 [.ref q, .int (nI dp), v2, .int m, .int f, .int met, .int (nI i), v7, .ref (S e), .int (nI x), .int (nI w), .int (nI lft)] [] (pP σ q π) = run (d + 4) 32 9 [.ref q, .int (nI dp), v2, .int m, .int f, .int met, .int (nI (i + 1)), v7, .ref (S e), .int (nI x), .int (nI w), .int (nI lft)] [] (pP σ q π3) := by
  obtain ⟨hF, hRF, hRS, hRL, hh, hLs, p0, p1, p2, p3, p4, p5, p6, p7, p8, p9, p10, p11⟩ := h
  obtain ⟨f0, f1, f2, f3, f4, f5, -⟩ := hRS e he
  have h5 := hh.1
  have u4 := hh.2.2.2.2.2.1
  have e1 : ¬ S e = S g := fun z => hne (hRS.inj hW.1 he hg z)
  have ea : nI x + nI w = nI (x + w) := nI_add x w
  have ed : nI dp + 1 = nI (dp + 1) := nI_1 dp
  obtain ⟨t, f', t1, t2, t3, -⟩ := (hW.2.2.2.1.1 k hk).2.2.2.2.2.1
  have et : ν.2 21 k = nI (ν.2 21 k).toNatClampNeg := by rw [t3, nI_clamp (by omega)]
  rw [nI_succ i]
  unfold fue at hr
  by_cases c : ν.2 6 e ≤ 0
  · rw [if_pos c] at hr
    simp [psh_some, psh_none, -Int32.not_lt, -Int32.not_le, va_rf, vr, isA_r, isR_r, vd, ar, v7r, e_Planner_search_157, e_Planner_search_181, e_Planner_search_210, e_Planner_search_212, e_Planner_search_225, p0, p5, e1, f0, f1, f5, c, ea, ed, hr]
  · rw [if_neg c, ← et] at hr
    simp [psh_some, psh_none, -Int32.not_lt, -Int32.not_le, va_rf, vr, isA_r, isR_r, vd, ar, v7r, e_Planner_search_157, e_Planner_search_181, e_Planner_search_200, e_Planner_search_212, e_Planner_search_225, p0, p4, p5, e1, f0, f1, f5, h5, u4, c, ea, ed, hr]
theorem s_end (h : Pe σ c q E S L H Z ν k g n) (dp m f met : Int32) (v2 u7 u8 u9 u10 u11 : Value) : run (d + 4) 32 9 [.ref q, .int dp, v2, .int m, .int f, .int met, .int (nI (nL ν)), u7, u8, u9, u10, u11] [] σ = some (none, σ) := by
  obtain ⟨hF, hRF, hRS, hRL, hh, hLs, p0, p1, p2, p3, p4, p5, p6, p7, p8, p9, p10, p11⟩ := h
  have es := c_size (σ := σ) (d + 3) hLs.1
  rw [hLs.2.1] at es
  simp [psh_some, psh_none, -Int32.not_lt, -Int32.not_le, va_rf, isA_r, isR_r, vd, ar, e_Planner_search_9, e_Planner_search_20, e_Planner_search_231, p0, p1, fK_2 hF, es]
theorem s_beg {dp : Nat} (hd : dp < 5) (v2 : Value) (x3 x4 x5 : Int32) : runc d 32 [.ref q, .int (nI dp), v2, .int x3, .int x4, .int x5] σ = run d 32 9 [.ref q, .int (nI dp), v2, .int x3, .int x4, .int x5, .int (nI 0), uu, uu, uu, uu, uu] [] σ := by
  have z : nI dp < 5 := nI_lt (b := 5) hd (by omega)
  rw [nI_0]
  simp [psh_some, psh_none, -Int32.not_lt, -Int32.not_le, rc_Planner_search, e_Planner_search_0, e_Planner_search_6, z]
theorem s_5 (v2 : Value) (x3 x4 x5 : Int32) : runc d 32 [.ref q, .int (nI 5), v2, .int x3, .int x4, .int x5] σ = some (none, σ) := by
  have z : ¬ nI 5 < 5 := by decide
  simp [psh_some, psh_none, -Int32.not_lt, -Int32.not_le, rc_Planner_search, e_Planner_search_0, e_Planner_search_5, z]
/-- what both searches have in common -/
def Rl2 (dp : Nat) (π μ : Ms) : Prop := ∃ b M : Nat, π.1 8 = nI b ∧ b ≤ 144000 ∧ μ.1 72 = (if b = 144000 then -1 else nI b) ∧ π.1 7 = nI M ∧ μ.1 73 = nI M ∧ M ≤ 5 ∧ (∀ j, j < M → π.2 65 j = μ.2 74 j) ∧ ∀ j, j < dp → π.2 60 j = μ.2 75 j
theorem Rl2_nu {dp : Nat} {μ' : Ms} (h : Rl2 dp π μ) (hn : Nu ν k g n dp μ μ') : Rl2 dp π μ' := by
  obtain ⟨b, M, h1, h2, h3, h4, h5, h6, h7, h8⟩ := h
  obtain ⟨n1, n2, n3, n4, n5⟩ := hn
  exact ⟨b, M, h1, h2, by rw [n2]; exact h3, h4, by rw [n3]; exact h5, h6, fun j hj => by rw [n4]; exact h7 j hj, fun j hj => by rw [n5 j hj]; exact h8 j hj⟩
/-- the reference keeps a way -/
def cpw (μ : Ms) : Nat → Ms
  | 0 => μ
  | j + 1 => fA (cpw μ j) 74 j (μ.2 75 j)
theorem cpw_1 : ∀ j, (cpw μ j).1 = μ.1 := by
  intro j
  induction j with
  | zero => rfl
  | succ j ih => rw [cpw, fA_1, ih]
theorem cpw_2 {f : Nat} (h : f ≠ 74) : ∀ j, (cpw μ j).2 f = μ.2 f := by
  intro j
  induction j with
  | zero => rfl
  | succ j ih => rw [cpw, fA_2n _ h, ih]
theorem cpw_v : ∀ j i, i < j → (cpw μ j).2 74 i = μ.2 75 i := by
  intro j
  induction j with
  | zero => intro i hi; omega
  | succ j ih =>
    intro i hi
    by_cases e : i = j
    · subst e; simp [cpw, fA_2]
    · have := ih i (by omega)
      simpa [cpw, fA_2, e] using this
theorem cpw_lp (hL : LM τ a) {dp : Nat} (hd : dp < 5) (x1 x2 x3 x5 x6 x7 x8 x9 x10 : Int32) : ∀ y j, j + y = dp + 1 → run d 182 246 [.ref a, .int x1, .int x2, .int x3, .int (nI dp), .int x5, .int x6, .int x7, .int x8, .int x9, .int x10, .int (nI j)] [] (put τ a (cpw μ j)) = run d 182 273 [.ref a, .int x1, .int x2, .int x3, .int (nI dp), .int x5, .int x6, .int x7, .int x8, .int x9, .int x10, .int (nI (dp + 1))] [] (put τ a (cpw μ (dp + 1))) := by
  intro y
  induction y with
  | zero =>
    intro j hj
    have : j = dp + 1 := by omega
    subst this
    have z : nI dp < nI (dp + 1) := nI_lt (by omega) (by omega)
    generalize nI (dp + 1) = e at z ⊢
    simp [psh_some, psh_none, -Int32.not_lt, -Int32.not_le, q_M_goesOn_246, hL, z]
  | succ y ih =>
    intro j hj
    have h1 := ih (j + 1) (by omega)
    have z : ¬ nI dp < nI j := nI_nlt (by omega) (by omega)
    have i5 : ix (nI j) 5 = true := ix_of (by omega) (by omega)
    have cj := cl1000 (show j < 1000 by omega)
    have e75 : (cpw μ j).2 75 = μ.2 75 := cpw_2 (by decide) j
    rw [cpw, nI_succ j] at h1
    rw [← h1]
    simp [psh_some, psh_none, -Int32.not_lt, -Int32.not_le, q_M_goesOn_246, q_M_goesOn_253, q_M_goesOn_267, hL, z, i5, cj, e75]
theorem g_goal1 (hL : LM τ a) (hE : Evr ν k g n μ) {i b y dp : Nat} (hd : dp < 5) (h72 : μ.1 72 = if b = 144000 then -1 else nI b) (hb : y < b) (h1 : b ≤ 144000) (x1 x2 x3 x5 x8 x10 : Int32) (u11 : Value) : ∃ u11' : Value, run d 182 157 [.ref a, .int x1, .int x2, .int x3, .int (nI dp), .int x5, .int (nI i), .int (nI g), .int x8, .int (nI y), .int x10, u11] [] (put τ a μ) = run d 182 10 [.ref a, .int x1, .int x2, .int x3, .int (nI dp), .int x5, .int (nI (i + 1)), .int (nI g), .int x8, .int (nI y), .int x10, u11'] [] (put τ a (cpw (fF (fF μ 72 (nI y)) 73 (nI (dp + 1))) (dp + 1))) := by
  have lp := cpw_lp (τ := τ) (μ := fF (fF μ 72 (nI y)) 73 (nI (dp + 1))) d hL hd x1 x2 x3 x5 (nI i) (nI g) x8 (nI y) x10 (dp + 1) 0 (by omega)
  rw [cpw, nI_0] at lp
  have ed : nI dp + 1 = nI (dp + 1) := nI_1 dp
  refine ⟨.int (nI (dp + 1)), ?_⟩
  have s2 : run d 182 229 [.ref a, .int x1, .int x2, .int x3, .int (nI dp), .int x5, .int (nI i), .int (nI g), .int x8, .int (nI y), .int x10, u11] [] (put τ a μ) = run d 182 10 [.ref a, .int x1, .int x2, .int x3, .int (nI dp), .int x5, .int (nI (i + 1)), .int (nI g), .int x8, .int (nI y), .int x10, .int (nI (dp + 1))] [] (put τ a (cpw (fF (fF μ 72 (nI y)) 73 (nI (dp + 1))) (dp + 1))) := by
    rw [nI_succ i]
    generalize nI (dp + 1) = e at lp ed ⊢
    simp [psh_some, psh_none, -Int32.not_lt, -Int32.not_le, q_M_goesOn_229, q_M_goesOn_235, q_M_goesOn_243, q_M_goesOn_273, hL, ed, lp]
  rw [← s2]
  by_cases c : b = 144000
  · rw [if_pos c] at h72
    simp [psh_some, psh_none, -Int32.not_lt, -Int32.not_le, q_M_goesOn_157, q_M_goesOn_212, hL, hE.2.2.1, h72]
  · rw [if_neg c] at h72
    have nm := nx_m1 (show b ≤ 1000000 by omega)
    have z : ¬ nI b ≤ nI y := nI_ge hb (by omega)
    simp [psh_some, psh_none, -Int32.not_lt, -Int32.not_le, q_M_goesOn_157, q_M_goesOn_212, q_M_goesOn_220, hL, hE.2.2.1, h72, nm, z]
theorem Env_cpw (hE : Evr ν k g n μ) (u v : Int32) (j : Nat) : Evr ν k g n (cpw (fF (fF μ 72 u) 73 v) j) := by
  obtain ⟨E1, E2, E3, E4, E5⟩ := hE
  refine ⟨fun f hf => ?_, ?_, ?_, ?_, fun f hf => ?_⟩
  · rw [cpw_1, fF_1, if_neg (by omega), fF_1, if_neg (by omega)]; exact E1 f hf
  · rw [cpw_1]; exact E2
  · rw [cpw_1]; exact E3
  · rw [cpw_1]; exact E4
  · rw [cpw_2 (by omega)]; exact E5 f hf
theorem oD_some {o : Option Nat} {x : Nat} (h : o = some x) : oD o = nI x := by rw [h]; rfl
theorem sim (hP : Pe σ c q E S L H Z ν k g n) (hX : Kx σ) (hz : Ez σ) (hW : Wf ν) (hk : k < nB ν) (hn : n ≤ nF ν) (hg : g < nS ν) : ∀ (y dp s m f : Nat) (met : Int32) (π μ : Ms), dp + y = 5 → s < nS ν → m ≤ 143999 → f ≤ 3000 → Evr ν k g n μ → Rl2 dp π μ → ∃ π' μ', (∀ d : Nat, runc (d + y + 4) 32 [.ref q, .int (nI dp), .ref (S s), .int (nI m), .int (nI f), .int met] (pP σ q π) = some (none, pP σ q π')) ∧ (∀ (d : Nat) (τ : Mm), LM τ a → runc (d + y + 4) 182 [.ref a, .int (nI s), .int (nI m), .int (nI f), .int (nI dp), .int met] (put τ a μ) = some (none, put τ a μ')) ∧ Evr ν k g n μ' ∧ Rl2 dp π' μ' := by
  have h12 := hW.1.s.2
  have hPl := hP.2.2.2.2.2.2
  intro y
  induction y with
  | zero =>
    intro dp s m f met π μ hd hs hm hf hE hR
    have : dp = 5 := by omega
    subst this
    exact ⟨π, μ, fun d => s_5 _ _ _ _ _, fun d τ hL => g_5 _ hL _ _ _ _, hE, hR⟩
  | succ y IH =>
    intro dp s m f met π μ hd hs hm hf hE hR
    have key : ∀ (z i : Nat) (π μ : Ms), i + z = nL ν → Evr ν k g n μ → Rl2 dp π μ → ∃ π' μ', (∀ (d : Nat) (u7 u8 u9 u10 u11 : Value), run (d + (y + 1) + 4) 32 9 [.ref q, .int (nI dp), .ref (S s), .int (nI m), .int (nI f), .int met, .int (nI i), u7, u8, u9, u10, u11] [] (pP σ q π) = some (none, pP σ q π')) ∧ (∀ (d : Nat) (τ : Mm) (u7 u8 u9 u10 u11 : Value), LM τ a → run (d + (y + 1) + 4) 182 10 [.ref a, .int (nI s), .int (nI m), .int (nI f), .int (nI dp), .int met, .int (nI i), u7, u8, u9, u10, u11] [] (put τ a μ) = some (none, put τ a μ')) ∧ Evr ν k g n μ' ∧ Rl2 dp π' μ' := by
      intro z
      induction z with
      | zero =>
        intro i π μ hi hE hR
        have : i = nL ν := by omega
        subst this
        exact ⟨π, μ, fun d u7 u8 u9 u10 u11 => s_end (d + (y + 1)) (Pe_pP hP hX hz π) _ _ _ _ _ _ _ _ _ _, fun d τ u7 u8 u9 u10 u11 hL => g_end _ hL hW hE _ _ _ _ _ _ _ _ _ _, hE, hR⟩
      | succ z ih =>
        intro i π μ hi hE hR
        have hQ := Pe_pP hP hX hz π
        have hi' : i < nL ν := by omega
        obtain ⟨w1, w2, w3, w4, w5, -⟩ := hW.2.2.1 i hi'
        have hfar : farN ν i s < nS ν := by unfold farN; split <;> assumption
        by_cases hsk : ¬ (s = lA ν i ∨ s = lB ν i) ∨ btI met (farN ν i s) = true
        · obtain ⟨π', μ', h1, h2, h3, h4⟩ := ih (i + 1) π μ (by omega) hE hR
          refine ⟨π', μ', fun d u7 u8 u9 u10 u11 => ?_, fun d τ u7 u8 u9 u10 u11 hL => ?_, h3, h4⟩
          · rw [s_skip (d + (y + 1)) hQ hW hi' hs _ _ _ _ _ _ _ _ _ hsk]
            exact h1 d _ _ _ _ _
          · obtain ⟨u7', e⟩ := g_skip (τ := τ) (d + (y + 1) + 4) hL hW hE hi' hs (nI m) (nI f) (nI dp) met u7 u8 u9 u10 u11 hsk
            rw [e]
            exact h2 d τ _ _ _ _ _ hL
        · have t1 : s = lA ν i ∨ s = lB ν i := by
            by_cases q : s = lA ν i ∨ s = lB ν i
            · exact q
            · exact absurd (Or.inl q) hsk
          have t2 : ¬ btI met (farN ν i s) = true := fun q => hsk (Or.inr q)
          obtain ⟨b, M, r1, r2, r3, r4, r5, r6, r7, r8⟩ := id hR
          have hb8 : mI (pP σ q π) 8 q 8 = nI b := by rw [p_8]; exact r1
          have hE1 := Env_76 hE (wlv ν k i s n m 25 0 (μ.1 76))
          have N1 := Nu_76 hE dp (wlv ν k i s n m 25 0 (μ.1 76))
          have gt := fun (d : Nat) (τ : Mm) (u7 u8 u9 u10 u11 : Value) (hL : LM τ a) => g_to (τ := τ) (d + (y + 1)) hL hW hk hn hE hi' hs hm (nI f) (nI dp) met u7 u8 u9 u10 u11 t1 t2
          have h76 : ∀ x, dep ν k i s n m = some x → (fF μ 76 (wlv ν k i s n m 25 0 (μ.1 76))).1 76 = mnI ν k i s n x := fun x hx => wlv_ok 25 0 _ x hx
          generalize fF μ 76 (wlv ν k i s n m 25 0 (μ.1 76)) = μ1 at hE1 N1 gt h76
          have hR1 := Rl2_nu hR N1
          -- where the class stays as it is and the reference finds nothing better
          have stay : (∀ (d : Nat) (u7 u8 u9 u10 u11 : Value), ∃ u7' u8' u9' u10' u11' : Value, run (d + (y + 1) + 4) 32 9 [.ref q, .int (nI dp), .ref (S s), .int (nI m), .int (nI f), .int met, .int (nI i), u7, u8, u9, u10, u11] [] (pP σ q π) = run (d + (y + 1) + 4) 32 9 [.ref q, .int (nI dp), .ref (S s), .int (nI m), .int (nI f), .int met, .int (nI (i + 1)), u7', u8', u9', u10', u11'] [] (pP σ q π)) → ∀ μ2 : Ms, Nu ν k g n dp μ μ2 → (∀ (d : Nat) (τ : Mm) (u7 u8 u9 u10 u11 : Value), LM τ a → ∃ u7' u8' u9' u10' u11' : Value, run (d + (y + 1) + 4) 182 10 [.ref a, .int (nI s), .int (nI m), .int (nI f), .int (nI dp), .int met, .int (nI i), u7, u8, u9, u10, u11] [] (put τ a μ) = run (d + (y + 1) + 4) 182 10 [.ref a, .int (nI s), .int (nI m), .int (nI f), .int (nI dp), .int met, .int (nI (i + 1)), u7', u8', u9', u10', u11'] [] (put τ a μ2)) → ∃ π' μ', (∀ (d : Nat) (u7 u8 u9 u10 u11 : Value), run (d + (y + 1) + 4) 32 9 [.ref q, .int (nI dp), .ref (S s), .int (nI m), .int (nI f), .int met, .int (nI i), u7, u8, u9, u10, u11] [] (pP σ q π) = some (none, pP σ q π')) ∧ (∀ (d : Nat) (τ : Mm) (u7 u8 u9 u10 u11 : Value), LM τ a → run (d + (y + 1) + 4) 182 10 [.ref a, .int (nI s), .int (nI m), .int (nI f), .int (nI dp), .int met, .int (nI i), u7, u8, u9, u10, u11] [] (put τ a μ) = some (none, put τ a μ')) ∧ Evr ν k g n μ' ∧ Rl2 dp π' μ' := by
            intro hc μ2 hNu hm2
            obtain ⟨π', μ', h1, h2, h3, h4⟩ := ih (i + 1) π μ2 (by omega) hNu.1 (Rl2_nu hR hNu)
            refine ⟨π', μ', fun d u7 u8 u9 u10 u11 => ?_, fun d τ u7 u8 u9 u10 u11 hL => ?_, h3, h4⟩
            · obtain ⟨_, _, _, _, _, e⟩ := hc d u7 u8 u9 u10 u11
              rw [e]
              exact h1 d _ _ _ _ _
            · obtain ⟨_, _, _, _, _, e⟩ := hm2 d τ u7 u8 u9 u10 u11 hL
              rw [e]
              exact h2 d τ _ _ _ _ _ hL
          -- the class's own step where nothing is found
          have cnone : (farN ν i s = g ∨ dp ≠ 4 → oB b (dep ν k i s n m) = -1) → ∀ (d : Nat) (u7 u8 u9 u10 u11 : Value), ∃ u7' u8' u9' u10' u11' : Value, run (d + (y + 1) + 4) 32 9 [.ref q, .int (nI dp), .ref (S s), .int (nI m), .int (nI f), .int met, .int (nI i), u7, u8, u9, u10, u11] [] (pP σ q π) = run (d + (y + 1) + 4) 32 9 [.ref q, .int (nI dp), .ref (S s), .int (nI m), .int (nI f), .int met, .int (nI (i + 1)), u7', u8', u9', u10', u11'] [] (pP σ q π) := by
            intro ho d u7 u8 u9 u10 u11
            by_cases hg4 : farN ν i s = g ∨ dp ≠ 4
            · obtain ⟨_, _, _, e⟩ := s_none (d + (y + 1)) hQ (i := i) (e := farN ν i s) (s := s) (nI dp) (nI m) (nI f) met u9 u10 u11
              have e0 := s_to (d + (y + 1)) hQ hW hk hn hg hb8 r2 hi' hs hm (show dp < 5 by omega) (nI f) met u7 u8 u9 u10 u11 t1 t2 hg4
              rw [ho hg4] at e0
              exact ⟨_, _, _, _, _, e0.trans e⟩
            · have d4 : dp = 4 := by
                by_cases q4 : dp = 4
                · exact q4
                · exact absurd (Or.inr q4) hg4
              have hfg : ¬ farN ν i s = g := fun q => hg4 (Or.inl q)
              subst d4
              exact ⟨_, _, _, _, _, s_d4 (d + (y + 1)) hQ hW hg hi' hs (nI m) (nI f) met u7 u8 u9 u10 u11 t1 t2 hfg⟩
          cases hdep : dep ν k i s n m with
          | none =>
            refine stay (cnone (fun _ => by rw [hdep]; rfl)) μ1 N1 (fun d τ u7 u8 u9 u10 u11 hL => ?_)
            obtain ⟨u8', e⟩ := g_none (τ := τ) (μ := μ1) (d + (y + 1) + 4) hL (nI s) (nI m) (nI f) (nI dp) met (nI (farN ν i s)) i u8 u9 u10 u11
            have e0 := gt d τ u7 u8 u9 u10 u11 hL
            rw [hdep] at e0
            exact ⟨_, _, _, _, _, e0.trans e⟩
          | some x =>
            obtain ⟨x1, x2, x3⟩ := dpt_ge _ _ _ hdep
            have x1 : m ≤ x := x1
            have x3 := (of_decide_eq_true x3).1
            have h76 := h76 x hdep
            have gt' := fun (d : Nat) (τ : Mm) (u7 u8 u9 u10 u11 : Value) (hL : LM τ a) => (gt d τ u7 u8 u9 u10 u11 hL).trans (by rw [oD_some hdep])
            obtain ⟨q1, q2, q3⟩ := mn_N hW hk hi' hn s x
            obtain ⟨b1, b2⟩ := br_N hW hk hi' hn s x
            -- too little fuel
            by_cases hfu : f < brN ν k i s n x
            · have mfu : ∀ (d : Nat) (τ : Mm) (u7 u8 u9 u10 u11 : Value), LM τ a → ∃ u7' u8' u9' u10' u11' : Value, run (d + (y + 1) + 4) 182 10 [.ref a, .int (nI s), .int (nI m), .int (nI f), .int (nI dp), .int met, .int (nI i), u7, u8, u9, u10, u11] [] (put τ a μ) = run (d + (y + 1) + 4) 182 10 [.ref a, .int (nI s), .int (nI m), .int (nI f), .int (nI dp), .int met, .int (nI (i + 1)), u7', u8', u9', u10', u11'] [] (put τ a μ1) := fun d τ u7 u8 u9 u10 u11 hL => by
                obtain ⟨u8', e⟩ := g_fuel (τ := τ) (d + (y + 1)) hL hW hk hn hE1 hi' h76 x2 hf hfu (nI s) (nI m) (nI dp) met (nI (farN ν i s)) u8 u9 u10 u11
                exact ⟨_, _, _, _, _, (gt' d τ u7 u8 u9 u10 u11 hL).trans e⟩
              by_cases hg4 : (farN ν i s = g ∨ dp ≠ 4) ∧ x < b
              · refine stay (fun d u7 u8 u9 u10 u11 => ?_) μ1 N1 mfu
                have eo : oB b (dep ν k i s n m) = nI x := by rw [hdep]; unfold oB; dsimp only; rw [if_pos hg4.2]
                have e0 := s_to (d + (y + 1)) hQ hW hk hn hg hb8 r2 hi' hs hm (show dp < 5 by omega) (nI f) met u7 u8 u9 u10 u11 t1 t2 hg4.1
                rw [eo] at e0
                exact ⟨_, _, _, _, _, e0.trans ((s_98 (d + (y + 1)) hQ hW hk hn hi' hs x2 (nI dp) (nI m) met (.ref (S (farN ν i s))) u9 u10 u11).trans (s_fuel (d + (y + 1)) hfu b2 (nI dp) (nI m) met (nI x) (nI (mnN ν k i s n x)) (.ref (S s)) (.ref (L i)) (.ref (S (farN ν i s)))))⟩
              · refine stay (cnone (fun q4 => ?_)) μ1 N1 mfu
                rw [hdep]
                unfold oB
                dsimp only
                rw [if_neg (fun xb => hg4 ⟨q4, xb⟩)]
            · have hbr : brN ν k i s n x ≤ f := by omega
              have hE2 := Env_75 hE1 dp (nI i)
              have N2 := Nu_75 hE1 dp (nI i)
              have wk := fun (d : Nat) (τ : Mm) (u7 u8 u9 u10 u11 : Value) (hL : LM τ a) => (gt' d τ u7 u8 u9 u10 u11 hL).trans (g_walk (τ := τ) (d + (y + 1)) hL hW hk hn hE1 hi' h76 x2 hf hbr (show dp < 5 by omega) (nI s) (nI m) met (nI (farN ν i s)) u8 u9 u10 u11)
              have v75 : (fA μ1 75 dp (nI i)).2 75 dp = nI i := by simp [fA_2]
              generalize fA μ1 75 dp (nI i) = μ2 at hE2 N2 wk v75
              have N12 := N1.trans N2 (Nat.le_refl _)
              have s72 : μ2.1 72 = if b = 144000 then -1 else nI b := by rw [N12.2.1]; exact r3
              by_cases hg4 : farN ν i s = g ∨ dp ≠ 4
              · by_cases hxb : x < b
                · -- it is walked by both
                  have eo : oB b (dep ν k i s n m) = nI x := by rw [hdep]; unfold oB; dsimp only; rw [if_pos hxb]
                  have cw := fun (d : Nat) (u7 u8 u9 u10 u11 : Value) => ((s_to (d + (y + 1)) hQ hW hk hn hg hb8 r2 hi' hs hm (show dp < 5 by omega) (nI f) met u7 u8 u9 u10 u11 t1 t2 hg4).trans (by rw [eo])).trans ((s_98 (d + (y + 1)) hQ hW hk hn hi' hs x2 (nI dp) (nI m) met (.ref (S (farN ν i s))) u9 u10 u11).trans (s_walk (π := π) (d + (y + 1)) hPl hbr hf (show dp < 5 by omega) (nI m) met (nI x) (nI (mnN ν k i s n x)) (.ref (S s)) (.ref (L i)) (.ref (S (farN ν i s)))))
                  have a1 : (fA π 60 dp (nI i)).1 = π.1 := rfl
                  have a65 : (fA π 60 dp (nI i)).2 65 = π.2 65 := fA_2n _ (by decide)
                  have a60 : ∀ j, j < dp + 1 → (fA π 60 dp (nI i)).2 60 j = μ2.2 75 j := fun j hj => by
                    by_cases e : j = dp
                    · subst e; rw [v75]; simp [fA_2]
                    · rw [fA_2, if_neg (by omega), N12.2.2.2.2 j (by omega)]; exact r8 j (by omega)
                  generalize fA π 60 dp (nI i) = π1 at cw a1 a65 a60
                  by_cases hfg : farN ν i s = g
                  · -- the goal
                    rw [hfg] at cw wk
                    have cg := fun (d : Nat) => s_goal (π := π1) (d + (y + 1)) hPl (i := i) (x := x) (w := mnN ν k i s n x) (b := b) (show dp < 5 by omega) (by rw [a1]; exact r1) r2 (by omega) (nI m) (nI f) met (nI (f - brN ν k i s n x)) (.ref (S s)) (.ref (L i)) (isR_r _)
                    by_cases hbt : x + mnN ν k i s n x < b
                    · rw [if_pos hbt] at cg
                      have hE3 := Env_cpw hE2 (nI (x + mnN ν k i s n x)) (nI (dp + 1)) (dp + 1)
                      have hR3 : Rl2 dp (kpt (fF (fF π1 8 (nI (x + mnN ν k i s n x))) 7 (nI (dp + 1)))) (cpw (fF (fF μ2 72 (nI (x + mnN ν k i s n x))) 73 (nI (dp + 1))) (dp + 1)) := by
                        refine ⟨x + mnN ν k i s n x, dp + 1, rfl, by omega, ?_, rfl, ?_, by omega, fun j hj => ?_, fun j hj => ?_⟩
                        · rw [cpw_1, if_neg (by omega)]; rfl
                        · rw [cpw_1]; rfl
                        · rw [kpt_v _ (by omega), cpw_v _ j hj]
                          exact a60 j hj
                        · rw [cpw_2 (by decide)]
                          exact a60 j (by omega)
                      obtain ⟨π', μ', h1, h2, h3, h4⟩ := ih (i + 1) _ _ (by omega) hE3 hR3
                      refine ⟨π', μ', fun d u7 u8 u9 u10 u11 => (cw d u7 u8 u9 u10 u11).trans ((cg d).trans (h1 d _ _ _ _ _)), fun d τ u7 u8 u9 u10 u11 hL => ?_, h3, h4⟩
                      obtain ⟨u11', e⟩ := g_goal1 (τ := τ) (d + (y + 1) + 4) hL hE2 (i := i) (b := b) (y := x + mnN ν k i s n x) (show dp < 5 by omega) s72 hbt r2 (nI s) (nI m) (nI f) met (nI x) (nI (f - brN ν k i s n x)) u11
                      exact (wk d τ u7 u8 u9 u10 u11 hL).trans (e.trans (h2 d τ _ _ _ _ _ hL))
                    · rw [if_neg hbt] at cg
                      have s72' : μ2.1 72 = nI b := by rw [s72, if_neg (by omega)]
                      have hR2 : Rl2 dp π1 μ2 := ⟨b, M, by rw [a1]; exact r1, r2, s72, by rw [a1]; exact r4, by rw [N12.2.2.1]; exact r5, r6, fun j hj => by rw [a65, N12.2.2.2.1]; exact r7 j hj, fun j hj => a60 j (by omega)⟩
                      obtain ⟨π', μ', h1, h2, h3, h4⟩ := ih (i + 1) π1 μ2 (by omega) hE2 hR2
                      refine ⟨π', μ', fun d u7 u8 u9 u10 u11 => (cw d u7 u8 u9 u10 u11).trans ((cg d).trans (h1 d _ _ _ _ _)), fun d τ u7 u8 u9 u10 u11 hL => ?_, h3, h4⟩
                      have e := g_goal0 (τ := τ) (d + (y + 1) + 4) hL hE2 (i := i) (y := x + mnN ν k i s n x) s72' (by omega) (by omega) (by omega) (nI s) (nI m) (nI f) (nI dp) met (nI x) (nI (f - brN ν k i s n x)) u11
                      exact (wk d τ u7 u8 u9 u10 u11 hL).trans (e.trans (h2 d τ _ _ _ _ _ hL))
                  · -- further
                    have d4 : dp ≠ 4 := hg4.resolve_left hfg
                    have hR2 : Rl2 (dp + 1) π1 μ2 := ⟨b, M, by rw [a1]; exact r1, r2, s72, by rw [a1]; exact r4, by rw [N12.2.2.1]; exact r5, r6, fun j hj => by rw [a65, N12.2.2.2.1]; exact r7 j hj, a60⟩
                    obtain ⟨π3, μ3, k1, k2, k3, k4⟩ := IH (dp + 1) (farN ν i s) (x + mnN ν k i s n x) (fue ν k (farN ν i s) (f - brN ν k i s n x)) (met ||| (1 <<< (nI (farN ν i s) &&& 31))) π1 μ2 (by omega) hfar x3 (fue_le hW hk (by omega)) hE2 hR2
                    have hR3 : Rl2 dp π3 μ3 := by
                      obtain ⟨b', M', j1, j2, j3, j4, j5, j6, j7, j8⟩ := k4
                      exact ⟨b', M', j1, j2, j3, j4, j5, j6, j7, fun j hj => j8 j (by omega)⟩
                    obtain ⟨π', μ', h1, h2, h3, h4⟩ := ih (i + 1) π3 μ3 (by omega) k3 hR3
                    refine ⟨π', μ', fun d u7 u8 u9 u10 u11 => ?_, fun d τ u7 u8 u9 u10 u11 hL => ?_, h3, h4⟩
                    · have e := s_rec (d + (y + 1)) (Pe_pP hP hX hz π1) hW hk hg (i := i) (x := x) (w := mnN ν k i s n x) (lft := f - brN ν k i s n x) (dp := dp) hfar hfg (nI m) (nI f) met (.ref (S s)) (.ref (L i)) (isR_r _) (π3 := π3) (by have := k1 d; rw [show d + (y + 1) + 3 = d + y + 4 by omega]; exact this)
                      exact (cw d u7 u8 u9 u10 u11).trans (e.trans (h1 d _ _ _ _ _))
                    · obtain ⟨v7, v8, v9, v10, v11, e⟩ := g_rec (τ := τ) (d + y + 4) hL hW hk hE2 (i := i) hfar hg hfg (nI s) (nI m) (nI f) met (nI x) u11 (k2 d τ hL)
                      exact (wk d τ u7 u8 u9 u10 u11 hL).trans (e.trans (h2 d τ _ _ _ _ _ hL))
                · -- the class leaves it out
                  have hc := cnone (fun _ => by rw [hdep]; unfold oB; dsimp only; rw [if_neg hxb])
                  have s72' : μ2.1 72 = nI b := by rw [s72, if_neg (by omega)]
                  by_cases hfg : farN ν i s = g
                  · rw [hfg] at wk
                    refine stay hc μ2 N12 (fun d τ u7 u8 u9 u10 u11 hL => ?_)
                    have e := g_goal0 (τ := τ) (d + (y + 1) + 4) hL hE2 (i := i) (y := x + mnN ν k i s n x) s72' (by omega) (by omega) (by omega) (nI s) (nI m) (nI f) (nI dp) met (nI x) (nI (f - brN ν k i s n x)) u11
                    exact ⟨_, _, _, _, _, (wk d τ u7 u8 u9 u10 u11 hL).trans e⟩
                  · obtain ⟨μ3, k1, k2⟩ := nup (a := a) hW hk hn hg y (dp + 1) (farN ν i s) (x + mnN ν k i s n x) (fue ν k (farN ν i s) (f - brN ν k i s n x)) (met ||| (1 <<< (nI (farN ν i s) &&& 31))) μ2 (by omega) hfar x3 (fue_le hW hk (by omega)) hE2 (Or.inr ⟨b, s72', by omega, by omega⟩)
                    refine stay hc μ3 (N12.trans k2 (Nat.le_succ _)) (fun d τ u7 u8 u9 u10 u11 hL => ?_)
                    obtain ⟨v7, v8, v9, v10, v11, e⟩ := g_rec (τ := τ) (d + y + 4) hL hW hk hE2 (i := i) hfar hg hfg (nI s) (nI m) (nI f) met (nI x) u11 (k1 d τ hL)
                    exact ⟨_, _, _, _, _, (wk d τ u7 u8 u9 u10 u11 hL).trans e⟩
              · -- a fifth leg that doesn't end there
                have d4 : dp = 4 := by
                  by_cases q4 : dp = 4
                  · exact q4
                  · exact absurd (Or.inr q4) hg4
                have hfg : ¬ farN ν i s = g := fun q => hg4 (Or.inl q)
                refine stay (cnone (fun q4 => absurd q4 hg4)) μ2 N12 (fun d τ u7 u8 u9 u10 u11 hL => ?_)
                subst d4
                obtain ⟨v7, v8, v9, v10, v11, e⟩ := g_rec (τ := τ) (d + y + 4) hL hW hk hE2 (i := i) (y := x + mnN ν k i s n x) (lft := f - brN ν k i s n x) (dp := 4) hfar hg hfg (nI s) (nI m) (nI f) met (nI x) u11 (g_5 _ hL _ _ _ _)
                exact ⟨_, _, _, _, _, (wk d τ u7 u8 u9 u10 u11 hL).trans e⟩
    obtain ⟨π', μ', h1, h2, h3, h4⟩ := key (nL ν) 0 π μ (by omega) hE hR
    refine ⟨π', μ', fun d => ?_, fun d τ hL => ?_, h3, h4⟩
    · rw [s_beg _ (by omega)]
      exact h1 d _ _ _ _ _
    · rw [g_beg _ hL (by omega)]
      exact h2 d τ _ _ _ _ _ hL
end P82
