/-! ===== WAYS: WHEN IT GOES ON ===== -/
section P79
variable {σ τ : Mm} {a c q : Nat} {E S L B G H Q : Nat → Nat} {Z : Nat → List Nat} {w : Bool} {ν μ π : Ms} {k g n : Nat} (d : Nat)
def wdT (ν : Ms) (l s n : Nat) (x : Nat) : Int32 := if s = lA ν l then kno ν 1 (nI l) (nI x / 1440) n 0 else -kno ν 1 (nI l) (nI x / 1440) n 0
def mnI (ν : Ms) (k l s n x : Nat) : Int32 := dvu (ν.2 10 l * 60) (gnd (ν.2 19 k) (wdT ν l s n x))
def mnN (ν : Ms) (k l s n x : Nat) : Nat := (mnI ν k l s n x).toNatClampNeg
def farN (ν : Ms) (l s : Nat) : Nat := if s = lA ν l then lB ν l else lA ν l
theorem mn_N (hW : Wf ν) (hk : k < nB ν) {l : Nat} (hl : l < nL ν) (hn : n ≤ nF ν) (s x : Nat) : mnI ν k l s n x = nI (mnN ν k l s n x) ∧ 1 ≤ mnN ν k l s n x ∧ mnN ν k l s n x ≤ 2700 := by
  obtain ⟨m, m1, m2, m3⟩ := (hW.2.2.1 l hl).2.2.2.2.2
  obtain ⟨sp, sp1, sp2, sp3⟩ := (hW.2.2.2.1.1 k hk).2.2.2.1
  have hwd : wdR (wdT ν l s n x) := by
    unfold wdT
    split
    · exact kno_wd hW.2.2.2.2.2.1 hn _ _
    · exact wdR_neg (kno_wd hW.2.2.2.2.2.1 hn _ _)
  obtain ⟨y, y1, y2, y3⟩ := gnd_N sp1 sp2 hwd
  obtain ⟨z, z1, z2, z3⟩ := mins_N m1 m2 y1 y2
  have e : mnI ν k l s n x = nI z := by unfold mnI; rw [m3, sp3, y3, z3]
  unfold mnN
  rw [e, nI_clamp (by omega)]
  exact ⟨rfl, z1, z2⟩
/-- the i-th minute at which it may go on -/
def tki (m i : Nat) : Nat := if i = 0 then m else (m / 60 + i) * 60
theorem tki_lt (m : Nat) {i j : Nat} (h : i < j) : tki m i < tki m j := by
  unfold tki
  rw [if_neg (show ¬ j = 0 by omega)]
  by_cases hi : i = 0
  · rw [if_pos hi]; omega
  · rw [if_neg hi]; omega
theorem tki_le {m i : Nat} (hm : m ≤ 143999) (hi : i ≤ 24) : tki m i ≤ 150000 := by
  unfold tki
  split <;> omega
theorem tki_I {m i : Nat} (hm : m ≤ 143999) (hi : i ≤ 24) (h0 : ¬ i = 0) : (nI m / 60 + nI i) * 60 = nI (tki m i) := by
  unfold tki
  rw [if_neg h0, show (60 : Int32) = nI 60 from rfl, pk_div (by omega) (by omega) (by omega), nI_add, pk_mul]
def okd (ν : Ms) (k l s n x : Nat) : Bool := decide (x + mnN ν k l s n x ≤ 143999 ∧ (niB (nI (x + mnN ν k l s n x)) = 0 ∨ ¬ ν.2 5 (farN ν l s) = 0))
def swd (ν : Ms) (s n x : Nat) : Bool := decide (kno ν 0 (nI s) (nI x / 60) n 3 ≤ 6)
/-- the minute at which it goes on, from the i-th on, of y -/
def dpt (ν : Ms) (k l s n m : Nat) : Nat → Nat → Option Nat
  | 0, _ => none
  | y + 1, i => if 143999 < tki m i then none else if swd ν s n (tki m i) = true ∧ okd ν k l s n (tki m i) = true then some (tki m i) else dpt ν k l s n m y (i + 1)
theorem dpt_ge {l s m : Nat} : ∀ (y i x : Nat), dpt ν k l s n m y i = some x → tki m i ≤ x ∧ x ≤ 143999 ∧ okd ν k l s n x = true := by
  intro y
  induction y with
  | zero => intro i x h; cases h
  | succ y ih =>
    intro i x h
    rw [dpt] at h
    by_cases c1 : 143999 < tki m i
    · rw [if_pos c1] at h; cases h
    rw [if_neg c1] at h
    by_cases c2 : swd ν s n (tki m i) = true ∧ okd ν k l s n (tki m i) = true
    · rw [if_pos c2] at h
      cases h
      exact ⟨Nat.le_refl _, by omega, c2.2⟩
    · rw [if_neg c2] at h
      have h1 := ih (i + 1) x h
      have h2 := tki_lt m (show i < i + 1 by omega)
      exact ⟨by omega, h1.2⟩
/-- what the reference's last reckoning of minutes leaves -/
def wlv (ν : Ms) (k l s n m : Nat) : Nat → Nat → Int32 → Int32
  | 0, _, v => v
  | y + 1, i, v => if 143999 < tki m i then v else if swd ν s n (tki m i) = true then (if okd ν k l s n (tki m i) = true then mnI ν k l s n (tki m i) else wlv ν k l s n m y (i + 1) (mnI ν k l s n (tki m i))) else wlv ν k l s n m y (i + 1) v
theorem wlv_ok {l s m : Nat} : ∀ (y i : Nat) (v : Int32) (x : Nat), dpt ν k l s n m y i = some x → wlv ν k l s n m y i v = mnI ν k l s n x := by
  intro y
  induction y with
  | zero => intro i v x h; cases h
  | succ y ih =>
    intro i v x h
    rw [dpt] at h
    rw [wlv]
    by_cases c1 : 143999 < tki m i
    · rw [if_pos c1] at h; cases h
    rw [if_neg c1] at h ⊢
    by_cases c2 : swd ν s n (tki m i) = true
    · rw [if_pos c2]
      by_cases c3 : okd ν k l s n (tki m i) = true
      · rw [if_pos ⟨c2, c3⟩] at h
        rw [if_pos c3]
        cases h
        rfl
      · rw [if_neg (fun z => c3 z.2)] at h
        rw [if_neg c3]
        exact ih _ _ _ h
    · rw [if_neg (fun z => c2 z.1)] at h
      rw [if_neg c2]
      exact ih _ _ _ h
def oD : Option Nat → Int32
  | none => -1
  | some x => nI x
/-! the reference -/
/-- the state while a way is looked for: ν's but for what the search writes -/
def Evr (ν : Ms) (k g n : Nat) (μ : Ms) : Prop := (∀ f, f < 69 → μ.1 f = ν.1 f) ∧ μ.1 69 = nI k ∧ μ.1 70 = nI g ∧ μ.1 71 = nI n ∧ ∀ f, f < 74 → μ.2 f = ν.2 f
theorem bs_eq (h12 : μ.2 12 = ν.2 12) (h13 : μ.2 13 = ν.2 13) (h14 : μ.2 14 = ν.2 14) (w o t : Int32) : ∀ j, bs μ w o t j = bs ν w o t j := by
  intro j
  induction j with
  | zero => rfl
  | succ j ih =>
    have e : ∀ o, bsB μ j o = bsB ν j o := fun o => by cases o <;> simp [bsB, h14]
    rw [bs, bs, ih, e, h12, h13, h14]
theorem kno_eq (h : Evr ν k g n μ) (w o t : Int32) (j : Nat) (x : Int32) : kno μ w o t j x = kno ν w o t j x := by
  have h5 := h.2.2.2.2
  unfold kno
  rw [bs_eq (h5 12 (by omega)) (h5 13 (by omega)) (h5 14 (by omega)), h5 15 (by omega)]
theorem Env_76 (h : Evr ν k g n μ) (v : Int32) : Evr ν k g n (fF μ 76 v) := ⟨fun f hf => by rw [fF_1, if_neg (by omega)]; exact h.1 f hf, h.2.1, h.2.2.1, h.2.2.2.1, h.2.2.2.2⟩
theorem lv_lp (hL : LM τ a) (hW : Wf ν) (hk : k < nB ν) (hn : n ≤ nF ν) {l s m : Nat} (hl : l < nL ν) (hs : s < nS ν) (hm : m ≤ 143999) : ∀ (y i : Nat) (μ : Ms) (u6 : Value), i + y = 25 → Evr ν k g n μ → run (d + 3) 181 30 [.ref a, .int (nI l), .int (nI s), .int (nI m), .int (nI (farN ν l s)), .int (nI i), u6] [] (put τ a μ) = some (some (.int (oD (dpt ν k l s n m y i))), put τ a (fF μ 76 (wlv ν k l s n m y i (μ.1 76)))) := by
  have hC := hW.1
  have hb := hC.b
  have h30 := hC.l.2
  have h12 := hC.s.2
  have hf := hC.f
  obtain ⟨w1, w2, w3, w4, -⟩ := hW.2.2.1 l hl
  have hfar : farN ν l s < nS ν := by unfold farN; split <;> assumption
  have i30 : ix (nI l) 30 = true := ix_of (by omega) (by omega)
  have cl := cl30 (show l < 30 by omega)
  have i12 : ix (nI (farN ν l s)) 12 = true := ix_of (by omega) (by omega)
  have cf := cl12 (show farN ν l s < 12 by omega)
  intro y
  induction y with
  | zero =>
    intro i μ u6 hi hE
    have z : (25 : Int32) ≤ nI i := nI_le (a := 25) (by omega) (by omega)
    rw [dpt, wlv, fF_id rfl]
    simp [psh_some, psh_none, -Int32.not_lt, -Int32.not_le, q_M_leaves_30, q_M_leaves_177, hL, z, oD]
  | succ y ih =>
    intro i μ u6 hi hE
    have z : ¬ (25 : Int32) ≤ nI i := nI_ge (b := 25) (by omega) (by omega)
    obtain ⟨E1, E2, E3, E4, E5⟩ := id hE
    have t1 := tki_le hm (show i ≤ 24 by omega)
    -- the i-th minute
    have s1 : run (d + 3) 181 30 [.ref a, .int (nI l), .int (nI s), .int (nI m), .int (nI (farN ν l s)), .int (nI i), u6] [] (put τ a μ) = run (d + 3) 181 56 [.ref a, .int (nI l), .int (nI s), .int (nI m), .int (nI (farN ν l s)), .int (nI i), u6] [.int (nI (tki m i))] (put τ a μ) := by
      by_cases i0 : i = 0
      · subst i0
        rw [show tki m 0 = m from rfl, nI_0]
        simp [psh_some, psh_none, -Int32.not_lt, -Int32.not_le, q_M_leaves_30, q_M_leaves_37, q_M_leaves_42, hL]
      · have z0 : ¬ nI i = 0 := nI_ne0 (by omega) (by omega)
        rw [← tki_I hm (by omega) i0]
        simp [psh_some, psh_none, -Int32.not_lt, -Int32.not_le, q_M_leaves_30, q_M_leaves_37, q_M_leaves_46, hL, z, z0]
    rw [s1, dpt, wlv]
    by_cases c1 : 143999 < tki m i
    · have z1 : ¬ nI (tki m i) ≤ 143999 := nI_ge (a := 143999) (by omega) (by omega)
      rw [if_pos c1, if_pos c1, fF_id rfl]
      simp [psh_some, psh_none, -Int32.not_lt, -Int32.not_le, q_M_leaves_56, q_M_leaves_66, hL, z1, oD]
    · have z1 : nI (tki m i) ≤ 143999 := nI_le (b := 143999) (by omega) (by omega)
      rw [if_neg c1, if_neg c1]
      have es := m_swellAt (μ := μ) (σ := τ) (d + 1) hL (show n ≤ 160 by omega) (nI s) (nI (tki m i) / 60)
      rw [kno_eq hE] at es
      by_cases c2 : swd ν s n (tki m i) = true
      · have c2' : kno ν 0 (nI s) (nI (tki m i) / 60) n 3 ≤ 6 := of_decide_eq_true c2
        have ew := m_windAt (μ := μ) (σ := τ) (d + 1) hL (show n ≤ 160 by omega) (nI l) (nI (tki m i) / 1440)
        rw [kno_eq hE] at ew
        have eg := m_going (μ := μ) (σ := τ) (d + 2) hL (show k < 6 by omega) (show l < 30 by omega) (nI s) (kno ν 1 (nI l) (nI (tki m i) / 1440) n 0)
        rw [E5 8 (by omega), E5 19 (by omega), w1] at eg
        have ewd : (if nI (lA ν l) = nI s then kno ν 1 (nI l) (nI (tki m i) / 1440) n 0 else -kno ν 1 (nI l) (nI (tki m i) / 1440) n 0) = wdT ν l s n (tki m i) := by
          unfold wdT
          by_cases y1 : s = lA ν l
          · rw [if_pos y1, if_pos (by rw [y1])]
          · rw [if_neg y1, if_neg (by rw [nI_eq (by omega) (by omega)]; omega)]
        rw [ewd] at eg
        have eu : runc (d + 2) 116 [.int (60 * ν.2 10 l), .int (gnd (ν.2 19 k) (wdT ν l s n (tki m i)))] (put τ a μ) = some (some (.int (mnI ν k l s n (tki m i))), put τ a μ) := by
          rw [m_up (d + 2) _ _ (gnd_ne _ _), mul60]
          rfl
        obtain ⟨q1, q2, q3⟩ := mn_N hW hk hl hn s (tki m i)
        have s2 : run (d + 3) 181 56 [.ref a, .int (nI l), .int (nI s), .int (nI m), .int (nI (farN ν l s)), .int (nI i), u6] [.int (nI (tki m i))] (put τ a μ) = run (d + 3) 181 131 [.ref a, .int (nI l), .int (nI s), .int (nI m), .int (nI (farN ν l s)), .int (nI i), .int (nI (tki m i))] [] (put τ a (fF μ 76 (mnI ν k l s n (tki m i)))) := by
          simp [psh_some, psh_none, -Int32.not_lt, -Int32.not_le, q_M_leaves_56, q_M_leaves_68, q_M_leaves_82, q_M_leaves_90, q_M_leaves_122, q_M_leaves_125, q_M_leaves_128, hL, z1, E4, es, c2', i30, cl, ew, E2, eg, E5 10 (by omega), eu]
        rw [s2, if_pos c2]
        have en := m_isNight (μ := fF μ 76 (mnI ν k l s n (tki m i))) (σ := τ) (d + 2) hL (nI (tki m i + mnN ν k l s n (tki m i)))
        have ea : nI (tki m i) + mnI ν k l s n (tki m i) = nI (tki m i + mnN ν k l s n (tki m i)) := by rw [q1, nI_add]
        have e76 : (fF μ 76 (mnI ν k l s n (tki m i))).1 76 = mnI ν k l s n (tki m i) := rfl
        have e5 : (fF μ 76 (mnI ν k l s n (tki m i))).2 5 = ν.2 5 := E5 5 (by omega)
        have goOn : run (d + 3) 181 171 [.ref a, .int (nI l), .int (nI s), .int (nI m), .int (nI (farN ν l s)), .int (nI i), .int (nI (tki m i))] [] (put τ a (fF μ 76 (mnI ν k l s n (tki m i)))) = some (some (.int (oD (dpt ν k l s n m y (i + 1)))), put τ a (fF μ 76 (wlv ν k l s n m y (i + 1) (mnI ν k l s n (tki m i))))) := by
          have h := ih (i + 1) (fF μ 76 (mnI ν k l s n (tki m i))) (.int (nI (tki m i))) (by omega) (Env_76 hE _)
          rw [fF_fF, nI_succ, e76] at h
          rw [← h]
          simp [psh_some, psh_none, -Int32.not_lt, -Int32.not_le, q_M_leaves_171, hL]
        by_cases c3 : okd ν k l s n (tki m i) = true
        · obtain ⟨o1, o2⟩ := of_decide_eq_true c3
          have z2 : ¬ (143999 : Int32) < nI (tki m i + mnN ν k l s n (tki m i)) := nI_nlt (a := 143999) (by omega) (by omega)
          rw [if_pos c3, if_pos ⟨c2, c3⟩]
          rcases o2 with o2 | o2
          · rw [o2] at en
            simp [psh_some, psh_none, -Int32.not_lt, -Int32.not_le, q_M_leaves_131, q_M_leaves_144, q_M_leaves_155, q_M_leaves_168, hL, e76, ea, z2, en, oD]
          · rcases niB_01 (nI (tki m i + mnN ν k l s n (tki m i))) with o3 | o3
            · rw [o3] at en
              simp [psh_some, psh_none, -Int32.not_lt, -Int32.not_le, q_M_leaves_131, q_M_leaves_144, q_M_leaves_155, q_M_leaves_168, hL, e76, ea, z2, en, oD]
            · rw [o3] at en
              simp [psh_some, psh_none, -Int32.not_lt, -Int32.not_le, q_M_leaves_131, q_M_leaves_144, q_M_leaves_155, q_M_leaves_158, q_M_leaves_168, hL, e76, ea, z2, en, i12, cf, e5, o2, oD]
        · rw [if_neg c3, if_neg (fun z => c3 z.2), ← goOn]
          by_cases o1 : tki m i + mnN ν k l s n (tki m i) ≤ 143999
          · have z2 : ¬ (143999 : Int32) < nI (tki m i + mnN ν k l s n (tki m i)) := nI_nlt (a := 143999) (by omega) (by omega)
            have o3 : niB (nI (tki m i + mnN ν k l s n (tki m i))) = 1 := (niB_01 _).resolve_left (fun z => c3 (decide_eq_true ⟨o1, Or.inl z⟩))
            have o4 : ν.2 5 (farN ν l s) = 0 := by
              by_cases z : ν.2 5 (farN ν l s) = 0
              · exact z
              · exact absurd (decide_eq_true ⟨o1, Or.inr z⟩) c3
            rw [o3] at en
            simp [psh_some, psh_none, -Int32.not_lt, -Int32.not_le, q_M_leaves_131, q_M_leaves_144, q_M_leaves_155, q_M_leaves_158, hL, e76, ea, z2, en, i12, cf, e5, o4]
          · have z2 : (143999 : Int32) < nI (tki m i + mnN ν k l s n (tki m i)) := nI_lt (a := 143999) (by omega) (by omega)
            simp [psh_some, psh_none, -Int32.not_lt, -Int32.not_le, q_M_leaves_131, hL, e76, ea, z2]
      · have c2' : ¬ kno ν 0 (nI s) (nI (tki m i) / 60) n 3 ≤ 6 := fun z => c2 (decide_eq_true z)
        rw [if_neg c2, if_neg (fun z => c2 z.1)]
        have h := ih (i + 1) μ (.int (nI (tki m i))) (by omega) hE
        rw [nI_succ] at h
        rw [← h]
        simp [psh_some, psh_none, -Int32.not_lt, -Int32.not_le, q_M_leaves_56, q_M_leaves_68, q_M_leaves_82, q_M_leaves_87, q_M_leaves_171, hL, z1, E4, es, c2']
def dep (ν : Ms) (k l s n m : Nat) : Option Nat := dpt ν k l s n m 25 0
theorem m_leaves (hL : LM τ a) (hW : Wf ν) (hk : k < nB ν) (hn : n ≤ nF ν) {l s m : Nat} (hl : l < nL ν) (hs : s < nS ν) (hm : m ≤ 143999) (hE : Evr ν k g n μ) : runc (d + 3) 181 [.ref a, .int (nI l), .int (nI s), .int (nI m)] (put τ a μ) = some (some (.int (oD (dep ν k l s n m))), put τ a (fF μ 76 (wlv ν k l s n m 25 0 (μ.1 76)))) := by
  have hC := hW.1
  have h30 := hC.l.2
  have h12 := hC.s.2
  obtain ⟨w1, w2, w3, w4, -⟩ := hW.2.2.1 l hl
  have i30 : ix (nI l) 30 = true := ix_of (by omega) (by omega)
  have cl := cl30 (show l < 30 by omega)
  have lp := lv_lp (τ := τ) d hL hW hk hn hl hs hm 25 0 μ uu (by omega) hE
  rw [nI_0] at lp
  unfold dep
  rw [← lp]
  have e8 := hE.2.2.2.2 8 (by omega)
  have e9 := hE.2.2.2.2 9 (by omega)
  unfold farN
  by_cases y : s = lA ν l
  · have y1 : nI (lA ν l) = nI s := by rw [y]
    rw [if_pos y]
    simp [psh_some, psh_none, -Int32.not_lt, -Int32.not_le, rc_M_leaves, q_M_leaves_0, q_M_leaves_10, q_M_leaves_25, hL, i30, cl, e8, e9, w1, w3, y1]
  · have y1 : ¬ nI (lA ν l) = nI s := by rw [nI_eq (by omega) (by omega)]; omega
    rw [if_neg y]
    simp [psh_some, psh_none, -Int32.not_lt, -Int32.not_le, rc_M_leaves, q_M_leaves_0, q_M_leaves_19, q_M_leaves_25, hL, i30, cl, e8, w1, y1]
end P79
