/-! ===== WAYS: THE CLASS's PLANNER ===== -/
section P80
variable {σ τ : Mm} {a c q : Nat} {E S L B G H Q : Nat → Nat} {Z : Nat → List Nat} {w : Bool} {ν μ π : Ms} {k g n : Nat} (d : Nat)
/-- the planner at q, and what it looks at -/
def Pl (σ : Mm) (c q : Nat) (S H : Nat → Nat) (k g n : Nat) : Prop := mK σ q = 8 ∧ mP σ 8 q 0 = some (c + 2) ∧ mP σ 8 q 1 = some (c + 5) ∧ mI σ 8 q 2 = nI n ∧ mP σ 8 q 3 = some (H k) ∧ mP σ 8 q 4 = some (S g) ∧ mP σ 8 q 5 = some (q + 1) ∧ mP σ 8 q 6 = some (q + 2) ∧ mK σ (q + 1) = 60 ∧ mN σ (q + 1) = 5 ∧ mK σ (q + 2) = 65 ∧ mN σ (q + 2) = 5
def Pe (σ : Mm) (c q : Nat) (E S L H : Nat → Nat) (Z : Nat → List Nat) (ν : Ms) (k g n : Nat) : Prop := FL σ c ∧ RF σ c Z ν ∧ RS σ S ν ∧ RLg σ S L ν ∧ RH σ (H k) ν k ∧ Lst σ (c + 2) (E 1) (nL ν) L ∧ Pl σ c q S H k g n
theorem c_minutesFrom (h : Pe σ c q E S L H Z ν k g n) (hW : Wf ν) (hn : n ≤ nF ν) {l s x : Nat} (hl : l < nL ν) (hs : s < nS ν) : runc (d + 2) 34 [.ref q, .ref (L l), .ref (S s), .int (nI x)] σ = some (some (.int (mnI ν k l s n x)), σ) := by
  obtain ⟨hF, hRF, hRS, hRL, hh, hLs, p0, p1, p2, p3, p4, p5, p6, p7, p8, p9, p10, p11⟩ := h
  have hC := hW.1
  obtain ⟨w1, w2, -⟩ := hW.2.2.1 l hl
  have ew : runc (d + 1) 12 [.ref (c + 5), .ref (S s), .ref (L l), .int (nI x / 1440), .int (nI n)] σ = some (some (.int (wdT ν l s n x)), σ) := c_windFrom d hF hC hRF hW.2.2.2.2.2.1 hRS hRL hs hl w2 (nI x / 1440) hn
  have eg := c_ground (d + 1) hh (wdT ν l s n x)
  have em : runc (d + 1) 22 [.ref (L l), .int (gnd (ν.2 19 k) (wdT ν l s n x))] σ = some (some (.int (mnI ν k l s n x)), σ) := c_minutesAt d hRL hl (gnd_pos _ _)
  have h5 := hh.1
  have kL := (hRL l hl).1
  simp [psh_some, psh_none, -Int32.not_lt, -Int32.not_le, va_rf, isA_r, isR_r, vd, ar, rc_Planner_minutesFrom, e_Planner_minutesFrom_0, e_Planner_minutesFrom_23, e_Planner_minutesFrom_26, e_Planner_minutesFrom_29, fK_5 hF, p0, p2, p3, p4, h5, kL, ew, eg, em]
def oB (b : Nat) : Option Nat → Int32
  | none => -1
  | some x => if x < b then nI x else -1
theorem cd_lp (h : Pe σ c q E S L H Z ν k g n) (hW : Wf ν) (hk : k < nB ν) (hn : n ≤ nF ν) {b : Nat} (hb8 : mI σ 8 q 8 = nI b) (hb : b ≤ 144000) {l s m : Nat} (hl : l < nL ν) (hs : s < nS ν) (hm : m ≤ 143999) : ∀ (y i : Nat) (u6 u7 : Value), i + y = 25 → run (d + 3) 33 10 [.ref q, .ref (L l), .ref (S s), .int (nI m), .ref (S (farN ν l s)), .int (nI i), u6, u7] [] σ = some (some (.int (oB b (dpt ν k l s n m y i))), σ) := by
  have hP := h
  obtain ⟨hF, hRF, hRS, hRL, hh, hLs, p0, p1, p2, p3, p4, p5, p6, p7, p8, p9, p10, p11⟩ := h
  have hC := hW.1
  obtain ⟨w1, w2, w3, w4, -⟩ := hW.2.2.1 l hl
  have hfar : farN ν l s < nS ν := by unfold farN; split <;> assumption
  obtain ⟨f0, f1, f2, f3, f4, -⟩ := hRS _ hfar
  have kL := (hRL l hl).1
  intro y
  induction y with
  | zero =>
    intro i u6 u7 hi
    have z : (24 : Int32) < nI i := nI_lt (a := 24) (by omega) (by omega)
    rw [dpt]
    simp [psh_some, psh_none, -Int32.not_lt, -Int32.not_le, isR_r, e_Planner_departure_10, e_Planner_departure_126, z, oB]
  | succ y ih =>
    intro i u6 u7 hi
    have z : ¬ (24 : Int32) < nI i := nI_nlt (a := 24) (by omega) (by omega)
    have t1 := tki_le hm (show i ≤ 24 by omega)
    have s1 : run (d + 3) 33 10 [.ref q, .ref (L l), .ref (S s), .int (nI m), .ref (S (farN ν l s)), .int (nI i), u6, u7] [] σ = run (d + 3) 33 36 [.ref q, .ref (L l), .ref (S s), .int (nI m), .ref (S (farN ν l s)), .int (nI i), u6, u7] [.int (nI (tki m i))] σ := by
      by_cases i0 : i = 0
      · subst i0
        rw [show tki m 0 = m from rfl, nI_0]
        simp [psh_some, psh_none, -Int32.not_lt, -Int32.not_le, isR_r, e_Planner_departure_10, e_Planner_departure_17, e_Planner_departure_22]
      · have z0 : ¬ nI i = 0 := nI_ne0 (by omega) (by omega)
        rw [← tki_I hm (by omega) i0]
        simp [psh_some, psh_none, -Int32.not_lt, -Int32.not_le, isR_r, e_Planner_departure_10, e_Planner_departure_17, e_Planner_departure_26, z, z0]
    rw [s1]
    by_cases cb : b ≤ tki m i
    · have zb : nI b ≤ nI (tki m i) := nI_le cb (by omega)
      have e : oB b (dpt ν k l s n m (y + 1) i) = -1 := by
        cases hd : dpt ν k l s n m (y + 1) i with
        | none => rfl
        | some x =>
          have := (dpt_ge _ _ _ hd).1
          unfold oB
          dsimp only
          rw [if_neg (by omega)]
      rw [e]
      simp [psh_some, psh_none, -Int32.not_lt, -Int32.not_le, isR_r, e_Planner_departure_36, e_Planner_departure_54, p0, hb8, zb]
    · have zb : ¬ nI b ≤ nI (tki m i) := nI_ge (by omega) (by omega)
      rw [dpt]
      by_cases c1 : 143999 < tki m i
      · omega
      · have z1 : nI (tki m i) ≤ 143999 := nI_le (b := 143999) (by omega) (by omega)
        rw [if_neg c1]
        have es := c_swellAt (d + 1) hF hC hRF hW.2.2.2.2.2.1 hRS hs (nI (tki m i) / 60) hn
        have goOn : ∀ u : Value, run (d + 3) 33 120 [.ref q, .ref (L l), .ref (S s), .int (nI m), .ref (S (farN ν l s)), .int (nI i), .int (nI (tki m i)), u] [] σ = some (some (.int (oB b (dpt ν k l s n m y (i + 1)))), σ) := fun u => by
          have h := ih (i + 1) (.int (nI (tki m i))) u (by omega)
          rw [nI_succ] at h
          rw [← h]
          simp [psh_some, psh_none, -Int32.not_lt, -Int32.not_le, isR_r, e_Planner_departure_120]
        by_cases c2 : swd ν s n (tki m i) = true
        · have c2' : kno ν 0 (nI s) (nI (tki m i) / 60) n 3 ≤ 6 := of_decide_eq_true c2
          have em := c_minutesFrom (x := tki m i) d hP hW hn hl hs
          obtain ⟨q1, q2, q3⟩ := mn_N hW hk hl hn s (tki m i)
          have ea : nI (tki m i) + mnI ν k l s n (tki m i) = nI (tki m i + mnN ν k l s n (tki m i)) := by rw [q1, nI_add]
          have en := c_night (σ := σ) (d + 2) (nI (tki m i + mnN ν k l s n (tki m i)))
          by_cases c3 : okd ν k l s n (tki m i) = true
          · obtain ⟨o1, o2⟩ := of_decide_eq_true c3
            have z2 : ¬ (143999 : Int32) < nI (tki m i + mnN ν k l s n (tki m i)) := nI_nlt (a := 143999) (by omega) (by omega)
            rw [if_pos ⟨c2, c3⟩]
            have eo : oB b (some (tki m i)) = nI (tki m i) := by unfold oB; dsimp only; rw [if_pos (by omega)]
            rw [eo]
            by_cases o4 : ν.2 5 (farN ν l s) = 0
            · have o3 := o2.resolve_right (fun z => z o4)
              rw [o3] at en
              simp [psh_some, psh_none, -Int32.not_lt, -Int32.not_le, va_rf, isA_r, isR_r, vd, ar, e_Planner_departure_36, e_Planner_departure_47, e_Planner_departure_56, e_Planner_departure_73, e_Planner_departure_81, e_Planner_departure_91, e_Planner_departure_101, e_Planner_departure_109, e_Planner_departure_114, e_Planner_departure_117, p0, p2, p3, fK_5 hF, hb8, zb, z1, es, c2', em, ea, z2, f0, f4, o4, en]
            · simp [psh_some, psh_none, -Int32.not_lt, -Int32.not_le, va_rf, isA_r, isR_r, vd, ar, e_Planner_departure_36, e_Planner_departure_47, e_Planner_departure_56, e_Planner_departure_73, e_Planner_departure_81, e_Planner_departure_91, e_Planner_departure_101, e_Planner_departure_117, p0, p2, p3, fK_5 hF, hb8, zb, z1, es, c2', em, ea, z2, f0, f4, o4]
          · rw [if_neg (fun z => c3 z.2)]
            by_cases o1 : tki m i + mnN ν k l s n (tki m i) ≤ 143999
            · have z2 : ¬ (143999 : Int32) < nI (tki m i + mnN ν k l s n (tki m i)) := nI_nlt (a := 143999) (by omega) (by omega)
              have o3 : niB (nI (tki m i + mnN ν k l s n (tki m i))) = 1 := (niB_01 _).resolve_left (fun z => c3 (decide_eq_true ⟨o1, Or.inl z⟩))
              have o4 : ν.2 5 (farN ν l s) = 0 := by
                by_cases z : ν.2 5 (farN ν l s) = 0
                · exact z
                · exact absurd (decide_eq_true ⟨o1, Or.inr z⟩) c3
              rw [o3] at en
              rw [← goOn (.int (nI (tki m i + mnN ν k l s n (tki m i))))]
              simp [psh_some, psh_none, -Int32.not_lt, -Int32.not_le, va_rf, isA_r, isR_r, vd, ar, e_Planner_departure_36, e_Planner_departure_47, e_Planner_departure_56, e_Planner_departure_73, e_Planner_departure_81, e_Planner_departure_91, e_Planner_departure_101, e_Planner_departure_109, e_Planner_departure_114, p0, p2, p3, fK_5 hF, hb8, zb, z1, es, c2', em, ea, z2, f0, f4, o4, en]
            · have z2 : (143999 : Int32) < nI (tki m i + mnN ν k l s n (tki m i)) := nI_lt (a := 143999) (by omega) (by omega)
              rw [← goOn (.int (nI (tki m i + mnN ν k l s n (tki m i))))]
              simp [psh_some, psh_none, -Int32.not_lt, -Int32.not_le, va_rf, isA_r, isR_r, vd, ar, e_Planner_departure_36, e_Planner_departure_47, e_Planner_departure_56, e_Planner_departure_73, e_Planner_departure_81, e_Planner_departure_91, p0, p2, p3, fK_5 hF, hb8, zb, z1, es, c2', em, ea, z2]
        · have c2' : ¬ kno ν 0 (nI s) (nI (tki m i) / 60) n 3 ≤ 6 := fun z => c2 (decide_eq_true z)
          rw [if_neg (fun z => c2 z.1), ← goOn u7]
          simp [psh_some, psh_none, -Int32.not_lt, -Int32.not_le, va_rf, isA_r, isR_r, vd, ar, e_Planner_departure_36, e_Planner_departure_47, e_Planner_departure_56, e_Planner_departure_73, e_Planner_departure_78, p0, p2, p3, fK_5 hF, hb8, zb, z1, es, c2']
theorem c_dep (h : Pe σ c q E S L H Z ν k g n) (hW : Wf ν) (hk : k < nB ν) (hn : n ≤ nF ν) {b : Nat} (hb8 : mI σ 8 q 8 = nI b) (hb : b ≤ 144000) {l s m : Nat} (hl : l < nL ν) (hs : s < nS ν) (hm : m ≤ 143999) : runc (d + 3) 33 [.ref q, .ref (L l), .ref (S s), .int (nI m)] σ = some (some (.int (oB b (dep ν k l s n m))), σ) := by
  have lp := cd_lp d h hW hk hn hb8 hb hl hs hm 25 0 uu uu (by omega)
  obtain ⟨hF, hRF, hRS, hRL, hh, hLs, p0, p1, p2, p3, p4, p5, p6, p7, p8, p9, p10, p11⟩ := h
  obtain ⟨w1, w2, w3, w4, -⟩ := hW.2.2.1 l hl
  have eo := c_otherEnd (d + 2) hRS hW.1 hRL hl hs w2
  have kL := (hRL l hl).1
  rw [nI_0] at lp
  unfold dep
  rw [← lp]
  unfold farN
  simp [psh_some, psh_none, -Int32.not_lt, -Int32.not_le, isA_r, isR_r, vd, rc_Planner_departure, e_Planner_departure_0, e_Planner_departure_5, kL, eo]
/-! the planner's own state over a memory -/
def pP (σ : Mm) (q : Nat) (π : Ms) : Mm := (fun e x f => if e = 8 ∧ x = q ∧ (f = 7 ∨ f = 8) then π.1 f else if e = 60 ∧ x = q + 1 then π.2 60 f else if e = 65 ∧ x = q + 2 then π.2 65 f else mI σ e x f, σ.2)
theorem mI_pP (σ : Mm) (q : Nat) (π : Ms) (e x f : Nat) : mI (pP σ q π) e x f = if e = 8 ∧ x = q ∧ (f = 7 ∨ f = 8) then π.1 f else if e = 60 ∧ x = q + 1 then π.2 60 f else if e = 65 ∧ x = q + 2 then π.2 65 f else mI σ e x f := rfl
theorem mP_pP (σ : Mm) (q : Nat) (π : Ms) : mP (pP σ q π) = mP σ := rfl
theorem mK_pP (σ : Mm) (q : Nat) (π : Ms) : mK (pP σ q π) = mK σ := rfl
theorem mN_pP (σ : Mm) (q : Nat) (π : Ms) : mN (pP σ q π) = mN σ := rfl
theorem p_7 (σ : Mm) (q : Nat) (π : Ms) : mI (pP σ q π) 8 q 7 = π.1 7 := by simp [mI_pP]
theorem p_8 (σ : Mm) (q : Nat) (π : Ms) : mI (pP σ q π) 8 q 8 = π.1 8 := by simp [mI_pP]
theorem p_2 (σ : Mm) (q : Nat) (π : Ms) : mI (pP σ q π) 8 q 2 = mI σ 8 q 2 := by simp [mI_pP]
theorem p_60 (σ : Mm) (q : Nat) (π : Ms) (j : Nat) : mI (pP σ q π) 60 (q + 1) j = π.2 60 j := by simp [mI_pP]
theorem p_65 (σ : Mm) (q : Nat) (π : Ms) (j : Nat) : mI (pP σ q π) 65 (q + 2) j = π.2 65 j := by simp [mI_pP]
theorem s_78 (σ : Mm) (q : Nat) (π : Ms) {f : Nat} (h : f = 7 ∨ f = 8) (v : Int32) : sI (pP σ q π) 8 q f v = pP σ q (fF π f v) := by
  refine Prod.ext (funext fun e => funext fun x => funext fun f' => ?_) rfl
  show mI (sI (pP σ q π) 8 q f v) e x f' = mI (pP σ q (fF π f v)) e x f'
  rw [mI_sI, mI_pP, mI_pP, fF_1]
  by_cases z : e = 8 ∧ x = q ∧ f' = f
  · obtain ⟨rfl, rfl, rfl⟩ := z
    rw [if_pos ⟨rfl, rfl, rfl⟩, if_pos ⟨rfl, rfl, h⟩, if_pos rfl]
  · rw [if_neg z]
    by_cases y : e = 8 ∧ x = q ∧ (f' = 7 ∨ f' = 8)
    · rw [if_pos y, if_pos y, if_neg (fun u => z ⟨y.1, y.2.1, u⟩)]
    · rw [if_neg y, if_neg y]
      rfl
theorem s_7 (σ : Mm) (q : Nat) (π : Ms) (v : Int32) : sI (pP σ q π) 8 q 7 v = pP σ q (fF π 7 v) := s_78 σ q π (Or.inl rfl) v
theorem s_8 (σ : Mm) (q : Nat) (π : Ms) (v : Int32) : sI (pP σ q π) 8 q 8 v = pP σ q (fF π 8 v) := s_78 σ q π (Or.inr rfl) v
theorem s_60 (σ : Mm) (q : Nat) (π : Ms) (j : Nat) (v : Int32) : sI (pP σ q π) 60 (q + 1) j v = pP σ q (fA π 60 j v) := by
  refine Prod.ext (funext fun e => funext fun x => funext fun f' => ?_) rfl
  show mI (sI (pP σ q π) 60 (q + 1) j v) e x f' = mI (pP σ q (fA π 60 j v)) e x f'
  rw [mI_sI, mI_pP, mI_pP, fA_1, fA_2, fA_2]
  by_cases z : e = 60 ∧ x = q + 1 ∧ f' = j
  · obtain ⟨rfl, rfl, rfl⟩ := z
    rw [if_pos ⟨rfl, rfl, rfl⟩, if_neg (by omega), if_pos ⟨rfl, rfl⟩, if_pos ⟨rfl, rfl⟩]
  · rw [if_neg z]
    by_cases y1 : e = 8 ∧ x = q ∧ (f' = 7 ∨ f' = 8)
    · rw [if_pos y1, if_pos y1]
    · rw [if_neg y1, if_neg y1]
      by_cases y2 : e = 60 ∧ x = q + 1
      · rw [if_pos y2, if_pos y2, if_neg (fun u => z ⟨y2.1, y2.2, u.2⟩)]
      · rw [if_neg y2, if_neg y2, if_neg (show ¬ (65 = 60 ∧ f' = j) from fun u => absurd u.1 (by decide))]
/-- the path is kept -/
def kpt (π : Ms) : Ms := (π.1, fun f j => if f = 65 then va_cpy (π.2 60) (π.2 65) 0 0 5 j else π.2 f j)
theorem cp_pP (h : Pl σ c q S H k g n) (π : Ms) : cpI (pP σ q π) (q + 1) 0 (q + 2) 0 5 = pP σ q (kpt π) := by
  obtain ⟨p0, p1, p2, p3, p4, p5, p6, p7, p8, p9, p10, p11⟩ := h
  refine Prod.ext (funext fun e => funext fun x => funext fun f' => ?_) rfl
  show (if e = mK (pP σ q π) (q + 2) ∧ x = q + 2 then va_cpy (mI (pP σ q π) (mK (pP σ q π) (q + 1)) (q + 1)) (mI (pP σ q π) (mK (pP σ q π) (q + 2)) (q + 2)) 0 0 5 f' else mI (pP σ q π) e x f') = mI (pP σ q (kpt π)) e x f'
  rw [mK_pP, p8, p10, show mI (pP σ q π) 60 (q + 1) = π.2 60 from funext (p_60 σ q π), show mI (pP σ q π) 65 (q + 2) = π.2 65 from funext (p_65 σ q π), mI_pP, mI_pP]
  by_cases z : e = 65 ∧ x = q + 2
  · rw [if_pos z, if_neg (by omega), if_neg (by omega), if_pos z]
    show _ = if 65 = 65 then va_cpy (π.2 60) (π.2 65) 0 0 5 f' else π.2 65 f'
    rw [if_pos rfl]
  · rw [if_neg z, if_neg z, if_neg z]
    rfl
theorem kpt_v (π : Ms) {j : Nat} (h : j < 5) : (kpt π).2 65 j = π.2 60 j := by
  show (if 65 = 65 then va_cpy (π.2 60) (π.2 65) 0 0 5 j else π.2 65 j) = _
  rw [if_pos rfl, pk_cpy_in (by omega) (by omega), show 0 + (j - 0) = j by omega]
theorem Sm_pP (σ : Mm) (q : Nat) (π : Ms) : Sm (tk [8, 60, 65]) σ (pP σ q π) := by
  refine ⟨fun _ _ => ⟨rfl, rfl⟩, fun e he x _ f => ⟨?_, rfl⟩, Nat.le_refl _⟩
  simp only [tk, decide_eq_false_iff_not, List.mem_cons, List.not_mem_nil, or_false] at he
  rw [mI_pP, if_neg (by omega), if_neg (by omega), if_neg (by omega)]
theorem Pe_pP (h : Pe σ c q E S L H Z ν k g n) (hX : Kx σ) (hz : Ez σ) (π : Ms) : Pe (pP σ q π) c q E S L H Z ν k g n := by
  obtain ⟨hF, hRF, hRS, hRL, hh, hLs, p0, p1, p2, p3, p4, p5, p6, p7, p8, p9, p10, p11⟩ := h
  have hs := Sm_pP σ q π
  exact ⟨hF, hRF.fr hF hX hs rfl rfl rfl rfl rfl rfl (fun _ _ => rfl), hRS.fr hX hs rfl rfl rfl rfl rfl rfl rfl rfl rfl, hRL.fr hX hs rfl rfl rfl rfl rfl, hh.fr hX hs rfl (fun _ _ => rfl), hLs.fr hz hX hs rfl rfl rfl, p0, p1, p2, by rw [p_2]; exact p3, p4, p5, p6, p7, p8, p9, p10, p11⟩
end P80
