/-! ===== BOTH READ A LINE ===== -/
section T75
variable {σ τ : Mm} {a c r : Nat} {ρ ρ' μ μ' : Ms} {t : Nat → Int32} {n p : Nat} (d : Nat)
theorem lt12 (x : Int32) : (x < 12) = (x ≤ 11) := by
  apply propext
  rw [Int32.lt_iff_toInt_lt, Int32.le_iff_toInt_le]
  show x.toInt < 12 ↔ x.toInt ≤ 11
  omega
def aH (t : Nat → Int32) (n p l : Nat) : Nat × Nat := if tC t n p = 8 ∨ tC t n p = 9 then (if l = 16 then (2, p) else if tC t n (tT t n p) = 10 then (if tC t n (tT t n (tT t n p)) = 20 then (if tN t n (tT t n (tT t n p)) ≤ 11 then (0, tT t n (tT t n (tT t n p))) else (4, tT t n (tT t n p))) else (1, tT t n (tT t n p))) else (0, tT t n p)) else (1, p)
def aS (t : Nat → Int32) (n p : Nat) : Int32 := if tC t n (tT t n p) = 10 then tN t n (tT t n (tT t n p)) else -1
def Hc (t : Nat → Int32) (n p l : Nat) (ρ ρ' : Ms) : Prop := CurC t n ρ' (aH t n p l).2 ∧ ρ'.1 7 = ρ.1 7 ∧ (∀ q, q = 86 ∨ q = 90 ∨ q = 95 ∨ q = 100 → ρ'.2 q = ρ.2 q) ∧ (∀ q, q = 71 ∨ q = 75 ∨ q = 80 → ∀ j, j ≠ l → ρ'.2 q j = ρ.2 q j) ∧ ((aH t n p l).1 = 0 → ρ'.2 71 l = bZ (tC t n p = 9) ∧ ρ'.2 75 l = aS t n p ∧ ρ'.2 80 l = 0)
theorem c_head (hB : Tb σ c t) (hS : Sg σ) (hU : RuL σ r) (hn : n ≤ 300) (hp : p ≤ n) (hc : CurC t n ρ p) {l : Nat} (hl : l ≤ 16) (h7 : ρ.1 7 = nI l) : ∃ ρ', runc (d + 3) 38 [.ref r, .ref (c + 10)] (cP σ c r ρ) = some (some (.int (nI (aH t n p l).1)), cP σ c r ρ') ∧ Hc t n p l ρ ρ' := by
  have hF := hB.1
  have z1 : nI 1 = (1 : Int32) := rfl
  have z2 : nI 2 = (2 : Int32) := rfl
  have z4 : nI 4 = (4 : Int32) := rfl
  obtain ⟨s0, q0, e0⟩ := t_isWord (r := r) (d + 1) hB hS hn hp hc (k := 0) (by decide)
  obtain ⟨s1, q1, e1⟩ := t_isWord (r := r) (d + 1) hB hS hn hp hc (k := 1) (by decide)
  rw [show scd 0 = 9 from rfl] at e0
  rw [show scd 1 = 8 from rfl] at e1
  by_cases hs : tC t n p = 8 ∨ tC t n p = 9
  · have pre : runc (d + 3) 38 [.ref r, .ref (c + 10)] (cP σ c r ρ) = run (d + 3) 38 22 [.ref r, .ref (c + 10), .int (bZ (tC t n p = 9))] [] (cP σ c r ρ) := by
      by_cases y : tC t n p = 9
      · rw [bZ_t y] at e0 ⊢
        simp [psh_some, psh_none, -Int32.not_lt, -Int32.not_le, va_rf, isA_r, isR_r, vd, rc_Rules_readHead, e_Rules_readHead_0, e_Rules_readHead_6, mP_cP, mK_cP, fK_10 hF, q0, e0]
      · rw [bZ_f y] at e0 ⊢
        rw [bZ_t (show tC t n p = 8 by omega)] at e1
        simp [psh_some, psh_none, -Int32.not_lt, -Int32.not_le, va_rf, isA_r, isR_r, vd, rc_Rules_readHead, e_Rules_readHead_0, e_Rules_readHead_6, e_Rules_readHead_11, e_Rules_readHead_17, mP_cP, mK_cP, fK_10 hF, q0, e0, q1, e1]
    by_cases h16 : l = 16
    · have ef : aH t n p l = (2, p) := by unfold aH; rw [if_pos hs, if_pos h16]
      refine ⟨ρ, ?_, by unfold Hc; rw [ef]; exact ⟨hc, rfl, fun _ _ => rfl, fun _ _ _ _ => rfl, fun z => absurd z (Nat.succ_ne_zero _)⟩⟩
      subst h16
      have y : ¬ nI 16 < 16 := by decide
      rw [pre, ef]
      simp [psh_some, psh_none, -Int32.not_lt, -Int32.not_le, isA_r, isR_r, vd, e_Rules_readHead_22, e_Rules_readHead_31, mK_cP, cL, hU.1, h7, y, z2]
    · have y : nI l < 16 := nI_lt (b := 16) (by omega) (by omega)
      have il : ix (nI l) 16 = true := ix_of (by omega) (by omega)
      have cl := cl1000 (show l < 1000 by omega)
      have hb01 : bZ (tC t n p = 9) = 0 ∨ bZ (tC t n p = 9) = 1 := bZ_or _
      generalize hbb : bZ (tC t n p = 9) = bb at hb01 pre
      have Ca : CurC t n (fA (fA (fA ρ 71 l bb) 75 l (-1)) 80 l 0) p := hc
      have en := c_next (r := r) d hB hn hp Ca
      have C1 := CurC_nx hp Ca
      have p1 := (tT_le t hp).2
      have p2 := (tT_le t p1).2
      have s1' : run (d + 3) 38 22 [.ref r, .ref (c + 10), .int bb] [] (cP σ c r ρ) = run (d + 3) 38 67 [.ref r, .ref (c + 10), .int bb] [] (cP σ c r (tkR t (fA (fA (fA ρ 71 l bb) 75 l (-1)) 80 l 0) n (tT t n p))) := by
        simp [psh_some, psh_none, -Int32.not_lt, -Int32.not_le, va_rf, isA_r, isR_r, vd, ar, akI, akZ, e_Rules_readHead_22, e_Rules_readHead_33, e_Rules_readHead_43, e_Rules_readHead_53, e_Rules_readHead_63, mP_cP, mK_cP, mN_cP, cL, cS_71, cS_75, cS_80, rP_0 hU, rK_0 hU, rN_0 hU, rP_1 hU, rK_1 hU, rN_1 hU, rP_2 hU, rK_2 hU, rN_2 hU, rP_3 hU, rK_3 hU, rN_3 hU, rP_4 hU, rK_4 hU, rN_4 hU, rP_5 hU, rK_5 hU, rN_5 hU, rP_6 hU, rK_6 hU, rN_6 hU, hU.1, fK_10 hF, h7, y, il, cl, hb01, fA_1, en]
      have q71 : (tkR t (fA (fA (fA ρ 71 l bb) 75 l (-1)) 80 l 0) n (tT t n p)).1 7 = nI l := by rw [tkR_1 _ _ _ _ (by omega)]; exact h7
      have a1 : ∀ f j, (tkR t (fA (fA (fA ρ 71 l bb) 75 l (-1)) 80 l 0) n (tT t n p)).2 f j = if f = 80 ∧ j = l then 0 else if f = 75 ∧ j = l then -1 else if f = 71 ∧ j = l then bb else ρ.2 f j := fun f j => rfl
      generalize tkR t (fA (fA (fA ρ 71 l bb) 75 l (-1)) 80 l 0) n (tT t n p) = ρ1 at C1 s1' q71 a1
      obtain ⟨s2, q2, e2⟩ := t_isWord (r := r) (d + 1) hB hS hn p1 C1 (k := 2) (by decide)
      rw [show scd 2 = 10 from rfl] at e2
      by_cases h10 : tC t n (tT t n p) = 10
      · rw [bZ_t h10] at e2
        have en2 := c_next (r := r) d hB hn p1 C1
        have C2 := CurC_nx p1 C1
        have s2' : run (d + 3) 38 67 [.ref r, .ref (c + 10), .int bb] [] (cP σ c r ρ1) = run (d + 3) 38 82 [.ref r, .ref (c + 10), .int bb] [] (cP σ c r (tkR t ρ1 n (tT t n (tT t n p)))) := by
          simp [psh_some, psh_none, -Int32.not_lt, -Int32.not_le, va_rf, isA_r, isR_r, vd, e_Rules_readHead_67, e_Rules_readHead_73, e_Rules_readHead_78, mP_cP, mK_cP, fK_10 hF, q2, e2, en2]
        have q72 : (tkR t ρ1 n (tT t n (tT t n p))).1 7 = nI l := by rw [tkR_1 _ _ _ _ (by omega)]; exact q71
        have a2 : (tkR t ρ1 n (tT t n (tT t n p))).2 = ρ1.2 := rfl
        generalize tkR t ρ1 n (tT t n (tT t n p)) = ρ2 at C2 s2' q72 a2
        have k2 := kind_2 p2 C2
        have o2 : ∀ q j, j ≠ l → ρ2.2 q j = ρ.2 q j := fun q j hj => by rw [a2, a1, if_neg (by omega), if_neg (by omega), if_neg (by omega)]
        have o3 : ∀ q, q = 86 ∨ q = 90 ∨ q = 95 ∨ q = 100 → ρ2.2 q = ρ.2 q := fun q hq => by funext j; rw [a2, a1, if_neg (by omega), if_neg (by omega), if_neg (by omega)]
        by_cases h20 : tC t n (tT t n (tT t n p)) = 20
        · have k2' : ρ2.1 2 = 2 := k2.mpr h20
          have v5 := C2.2.2.2.2 h20
          by_cases h11 : tN t n (tT t n (tT t n p)) ≤ 11
          · have ef : aH t n p l = (0, tT t n (tT t n (tT t n p))) := by unfold aH; rw [if_pos hs, if_neg h16, if_pos h10, if_pos h20, if_pos h11]
            have h12 : tN t n (tT t n (tT t n p)) < 12 := (lt12 _).mpr h11
            have en3 := c_next (r := r) d hB hn p2 (show CurC t n (fA ρ2 75 l (tN t n (tT t n (tT t n p)))) (tT t n (tT t n p)) from C2)
            have C3 := CurC_nx p2 (show CurC t n (fA ρ2 75 l (tN t n (tT t n (tT t n p)))) (tT t n (tT t n p)) from C2)
            refine ⟨tkR t (fA ρ2 75 l (tN t n (tT t n (tT t n p)))) n (tT t n (tT t n (tT t n p))), ?_, ?_⟩
            · rw [pre, s1', s2', ef, nI_0]
              simp [psh_some, psh_none, -Int32.not_lt, -Int32.not_le, va_rf, isA_r, isR_r, vd, ar, akI, e_Rules_readHead_82, e_Rules_readHead_92, e_Rules_readHead_103, e_Rules_readHead_116, e_Rules_readHead_120, mP_cP, mK_cP, mN_cP, cT, cL, cS_75, rP_0 hU, rK_0 hU, rN_0 hU, rP_1 hU, rK_1 hU, rN_1 hU, rP_2 hU, rK_2 hU, rN_2 hU, rP_3 hU, rK_3 hU, rN_3 hU, rP_4 hU, rK_4 hU, rN_4 hU, rP_5 hU, rK_5 hU, rN_5 hU, rP_6 hU, rK_6 hU, rN_6 hU, hU.1, fK_10 hF, k2', v5, h12, q72, il, cl, en3]
            · unfold Hc
              rw [ef]
              have a3 : ∀ f j, (tkR t (fA ρ2 75 l (tN t n (tT t n (tT t n p)))) n (tT t n (tT t n (tT t n p)))).2 f j = if f = 75 ∧ j = l then tN t n (tT t n (tT t n p)) else ρ2.2 f j := fun f j => rfl
              refine ⟨C3, by rw [tkR_1 _ _ _ _ (by omega), h7]; exact q72, fun q hq => ?_, fun q hq j hj => ?_, fun _ => ⟨?_, ?_, ?_⟩⟩
              · funext j; rw [a3, if_neg (by omega), o3 q hq]
              · rw [a3, if_neg (by omega), o2 q j hj]
              · rw [a3, if_neg (by omega), a2, a1, if_neg (by omega), if_neg (by omega), if_pos ⟨rfl, rfl⟩]; exact hbb.symm
              · rw [a3, if_pos ⟨rfl, rfl⟩]; unfold aS; rw [if_pos h10]
              · rw [a3, if_neg (by omega), a2, a1, if_pos ⟨rfl, rfl⟩]
          · have ef : aH t n p l = (4, tT t n (tT t n p)) := by unfold aH; rw [if_pos hs, if_neg h16, if_pos h10, if_pos h20, if_neg h11]
            have h12 : ¬ tN t n (tT t n (tT t n p)) < 12 := fun z => h11 ((lt12 _).mp z)
            refine ⟨ρ2, ?_, by unfold Hc; rw [ef]; exact ⟨C2, by rw [h7]; exact q72, o3, fun q _ j hj => o2 q j hj, fun z => absurd z (Nat.succ_ne_zero _)⟩⟩
            rw [pre, s1', s2', ef]
            simp [psh_some, psh_none, -Int32.not_lt, -Int32.not_le, isA_r, isR_r, vd, e_Rules_readHead_82, e_Rules_readHead_92, e_Rules_readHead_101, mK_cP, cT, fK_10 hF, k2', v5, h12, z4]
        · have ef : aH t n p l = (1, tT t n (tT t n p)) := by unfold aH; rw [if_pos hs, if_neg h16, if_pos h10, if_neg h20]
          have k2' : ¬ ρ2.1 2 = 2 := fun z => h20 (k2.mp z)
          refine ⟨ρ2, ?_, by unfold Hc; rw [ef]; exact ⟨C2, by rw [h7]; exact q72, o3, fun q _ j hj => o2 q j hj, fun z => absurd z (Nat.succ_ne_zero _)⟩⟩
          rw [pre, s1', s2', ef]
          simp [psh_some, psh_none, -Int32.not_lt, -Int32.not_le, isA_r, isR_r, vd, e_Rules_readHead_82, e_Rules_readHead_90, mK_cP, cT, fK_10 hF, k2', z1]
      · rw [bZ_f h10] at e2
        have ef : aH t n p l = (0, tT t n p) := by unfold aH; rw [if_pos hs, if_neg h16, if_neg h10]
        refine ⟨ρ1, ?_, ?_⟩
        · rw [pre, s1', ef, nI_0]
          simp [psh_some, psh_none, -Int32.not_lt, -Int32.not_le, va_rf, isA_r, isR_r, vd, e_Rules_readHead_67, e_Rules_readHead_73, e_Rules_readHead_76, mP_cP, mK_cP, fK_10 hF, q2, e2]
        · unfold Hc
          rw [ef]
          refine ⟨C1, by rw [h7]; exact q71, fun q hq => ?_, fun q hq j hj => ?_, fun _ => ⟨?_, ?_, ?_⟩⟩
          · funext j; rw [a1, if_neg (by omega), if_neg (by omega), if_neg (by omega)]
          · rw [a1, if_neg (by omega), if_neg (by omega), if_neg (by omega)]
          · rw [a1, if_neg (by omega), if_neg (by omega), if_pos ⟨rfl, rfl⟩]; exact hbb.symm
          · rw [a1, if_neg (by omega), if_pos ⟨rfl, rfl⟩]; unfold aS; rw [if_neg h10]
          · rw [a1, if_pos ⟨rfl, rfl⟩]
  · have ef : aH t n p l = (1, p) := by unfold aH; rw [if_neg hs]
    refine ⟨ρ, ?_, by unfold Hc; rw [ef]; exact ⟨hc, rfl, fun _ _ => rfl, fun _ _ _ _ => rfl, fun z => absurd z (Nat.succ_ne_zero _)⟩⟩
    rw [bZ_f (fun z => hs (Or.inr z))] at e0
    rw [bZ_f (fun z => hs (Or.inl z))] at e1
    rw [ef]
    simp [psh_some, psh_none, -Int32.not_lt, -Int32.not_le, va_rf, isA_r, isR_r, vd, rc_Rules_readHead, e_Rules_readHead_0, e_Rules_readHead_6, e_Rules_readHead_11, e_Rules_readHead_17, e_Rules_readHead_20, mP_cP, mK_cP, fK_10 hF, q0, e0, q1, e1, z1]
theorem aH_le (hp : p ≤ n) (l : Nat) : (aH t n p l).2 ≤ n := by
  have q1 := (tT_le t hp).2
  have q2 := (tT_le t q1).2
  have q3 := (tT_le t q2).2
  unfold aH
  generalize tT t n (tT t n (tT t n p)) = x3 at q3 ⊢
  generalize tT t n (tT t n p) = x2 at q2 ⊢
  generalize tT t n p = x1 at q1 ⊢
  by_cases c0 : tC t n p = 8 ∨ tC t n p = 9
  · rw [if_pos c0]
    by_cases c1 : l = 16
    · rw [if_pos c1]; exact hp
    rw [if_neg c1]
    by_cases c2 : tC t n x1 = 10
    · rw [if_pos c2]
      by_cases c3 : tC t n x2 = 20
      · rw [if_pos c3]
        by_cases c4 : tN t n x2 ≤ 11
        · rw [if_pos c4]; exact q3
        · rw [if_neg c4]; exact q2
      · rw [if_neg c3]; exact q2
    · rw [if_neg c2]; exact q1
  · rw [if_neg c0]; exact hp
theorem aH_4 (p l : Nat) : (aH t n p l).1 ≤ 4 ∧ ((aH t n p l).1 = 0 → l ≠ 16) := by
  unfold aH
  by_cases c0 : tC t n p = 8 ∨ tC t n p = 9
  · rw [if_pos c0]
    by_cases c1 : l = 16
    · rw [if_pos c1]; exact ⟨by dsimp only; decide, fun z => absurd z (Nat.succ_ne_zero _)⟩
    rw [if_neg c1]
    refine ⟨?_, fun _ => c1⟩
    by_cases c2 : tC t n (tT t n p) = 10
    · rw [if_pos c2]
      by_cases c3 : tC t n (tT t n (tT t n p)) = 20
      · rw [if_pos c3]
        by_cases c4 : tN t n (tT t n (tT t n p)) ≤ 11
        · rw [if_pos c4]; dsimp only; decide
        · rw [if_neg c4]; dsimp only; decide
      · rw [if_neg c3]; dsimp only; decide
    · rw [if_neg c2]; dsimp only; decide
  · rw [if_neg c0]; exact ⟨by dsimp only; decide, fun z => absurd z (Nat.succ_ne_zero _)⟩
def Hm (t : Nat → Int32) (n p l : Nat) (μ μ' : Ms) : Prop := Qm t n μ μ' (aH t n p l) ∧ μ'.2 49 = μ.2 49 ∧ (∀ q, q = 46 ∨ q = 47 ∨ q = 48 → ∀ j, j ≠ l → μ'.2 q j = μ.2 q j) ∧ ((aH t n p l).1 = 0 → μ'.2 46 l = bZ (tC t n p = 9) ∧ μ'.2 47 l = aS t n p ∧ μ'.2 48 l = 0)
theorem Qm_ar {e : Nat × Nat} {ν : Ms} (h : Qm t n μ ν e) (h1 : μ'.1 = ν.1) (h2 : ∀ f, f < 46 ∨ 49 < f → μ'.2 f = ν.2 f) : Qm t n μ μ' e := by
  obtain ⟨q1, q2, q3, q4⟩ := h
  refine ⟨fun g hg => by rw [h1]; exact q1 g hg, fun f hf => by rw [h2 f hf]; exact q2 f hf, fun z => ?_, fun z => by rw [h1]; exact q4 z⟩
  obtain ⟨w1, w2⟩ := q3 z
  unfold CurM at w1 ⊢
  rw [h1, h2 39 (by omega)]
  exact ⟨w1, w2⟩
theorem m_head (hL : LM σ a) (hn : n ≤ 300) (hp : p ≤ n) (hM : CurM t n μ p) (h0 : μ.1 54 = 0) {l : Nat} (hl : l ≤ 16) : ∃ μ', runc (d + 7) 152 [.ref a, .int (nI l)] (put σ a μ) = run (d + 7) 152 116 [.ref a, .int (nI l), uu, uu] [] (put σ a μ') ∧ Hm t n p l μ μ' := by
  have h23 := tC_le t n p
  have il : ix (nI l) 17 = true := ix_of (by omega) (by omega)
  have cl := cl1000 (show l < 1000 by omega)
  have p1 := (tT_le t hp).2
  have p2 := (tT_le t p1).2
  -- behind a fault
  have flt : ∀ (ν : Ms) (y : Int32) (f : Nat), f ≠ 0 → (aH t n p l) = (f, p) → Qm t n μ ν (f, p) → ν.2 = μ.2 → ¬ ν.1 54 = 0 → run (d + 7) 152 38 [.ref a, .int (nI l), uu, uu] [.int y, .int (nI l), .ref (a + 37)] (put σ a ν) = run (d + 7) 152 116 [.ref a, .int (nI l), uu, uu] [] (put σ a (fA (fA (fA ν 46 l (bZ (y = 9))) 47 l (-1)) 48 l 0)) ∧ Hm t n p l μ (fA (fA (fA ν 46 l (bZ (y = 9))) 47 l (-1)) 48 l 0) := fun ν y f hf0 ef hQ hν hf => by
    refine ⟨?_, ?_⟩
    · by_cases y9 : y = 9
      · rw [bZ_t y9]
        simp [psh_some, psh_none, -Int32.not_lt, -Int32.not_le, q_M_readLine_38, q_M_readLine_43, q_M_readLine_48, q_M_readLine_49, q_M_readLine_56, q_M_readLine_63, hL, y9, il, cl, fA_1, hf]
      · rw [bZ_f y9]
        simp [psh_some, psh_none, -Int32.not_lt, -Int32.not_le, q_M_readLine_38, q_M_readLine_47, q_M_readLine_48, q_M_readLine_49, q_M_readLine_56, q_M_readLine_63, hL, y9, il, cl, fA_1, hf]
    · unfold Hm
      rw [ef]
      refine ⟨Qm_ar hQ rfl (fun g hg => ?_), ?_, fun q hq j hj => ?_, fun z => absurd z hf0⟩
      · rw [fA_2n _ (by omega), fA_2n _ (by omega), fA_2n _ (by omega)]
      · rw [fA_2n _ (by omega), fA_2n _ (by omega), fA_2n _ (by omega), hν]
      · simp only [fA_2]; rw [if_neg (by omega), if_neg (by omega), if_neg (by omega), hν]
  by_cases hs : tC t n p = 8 ∨ tC t n p = 9
  · have y2 := (i89 _ (show tC t n p < 24 by omega)).mpr hs
    by_cases h16 : l = 16
    · have ef : aH t n p l = (2, p) := by unfold aH; rw [if_pos hs, if_pos h16]
      obtain ⟨r1, r2⟩ := flt (blm μ 2) 0 2 (by decide) ef (Qm_blm (k := 2) hM (by decide)) rfl (by rw [blm_54]; decide)
      refine ⟨_, ?_, r2⟩
      rw [← r1]
      have z16 : nI l = (16 : Int32) := by rw [h16]; rfl
      have eb := m_blames (σ := σ) (d + 6) hL h0 2
      have e1 := tk_f (σ := σ) (μ := blm μ 2) (d + 2) hL (by rw [blm_54]; decide) 8 9
      simp [psh_some, psh_none, -Int32.not_lt, -Int32.not_le, rc_M_readLine, q_M_readLine_0, q_M_readLine_6, q_M_readLine_17, q_M_readLine_20, q_M_readLine_25, hL, z16, hM.2.2.2.2.1, m_in, bZ_t y2, eb, e1]
    · have z16 : ¬ nI l = 16 := fun z => h16 ((n16 _ (by omega)).mp z)
      have e1 := tk_ok (σ := σ) (d + 2) hL hn hp hM h0 y2
      have M1 := CurM_nx hM
      have f1 : (tkS μ n (tT t n p)).1 54 = 0 := by rw [tkS_1 _ _ _ (by omega)]; exact h0
      have g1 : ∀ g, g < 50 ∨ 55 < g → (tkS μ n (tT t n p)).1 g = μ.1 g := fun g hg => tkS_1 _ _ _ (by omega)
      have a1 : (tkS μ n (tT t n p)).2 = μ.2 := rfl
      generalize tkS μ n (tT t n p) = μ1 at e1 M1 f1 g1 a1
      have s1 : runc (d + 7) 152 [.ref a, .int (nI l)] (put σ a μ) = run (d + 7) 152 70 [.ref a, .int (nI l), uu, uu] [] (put σ a (fA (fA (fA μ1 46 l (bZ (tC t n p = 9))) 47 l (-1)) 48 l 0)) := by
        by_cases y9 : tC t n p = 9
        · have w9 : nI (tC t n p) = 9 := (n9 _ (by omega)).mpr y9
          rw [bZ_t y9]
          simp [psh_some, psh_none, -Int32.not_lt, -Int32.not_le, rc_M_readLine, q_M_readLine_0, q_M_readLine_25, q_M_readLine_38, q_M_readLine_43, q_M_readLine_48, q_M_readLine_49, q_M_readLine_56, q_M_readLine_63, hL, z16, e1, w9, il, cl, fA_1, f1]
        · have w9 : ¬ nI (tC t n p) = 9 := fun z => y9 ((n9 _ (by omega)).mp z)
          rw [bZ_f y9]
          simp [psh_some, psh_none, -Int32.not_lt, -Int32.not_le, rc_M_readLine, q_M_readLine_0, q_M_readLine_25, q_M_readLine_38, q_M_readLine_47, q_M_readLine_48, q_M_readLine_49, q_M_readLine_56, q_M_readLine_63, hL, z16, e1, w9, il, cl, fA_1, f1]
      have M1' : CurM t n (fA (fA (fA μ1 46 l (bZ (tC t n p = 9))) 47 l (-1)) 48 l 0) (tT t n p) := M1
      have f1' : (fA (fA (fA μ1 46 l (bZ (tC t n p = 9))) 47 l (-1)) 48 l 0).1 54 = 0 := f1
      have g1' : ∀ g, g < 50 ∨ 55 < g → (fA (fA (fA μ1 46 l (bZ (tC t n p = 9))) 47 l (-1)) 48 l 0).1 g = μ.1 g := g1
      have a1' : ∀ f j, (fA (fA (fA μ1 46 l (bZ (tC t n p = 9))) 47 l (-1)) 48 l 0).2 f j = if f = 48 ∧ j = l then 0 else if f = 47 ∧ j = l then -1 else if f = 46 ∧ j = l then bZ (tC t n p = 9) else μ.2 f j := fun f j => by rw [fA_2, fA_2, fA_2, a1]
      generalize fA (fA (fA μ1 46 l (bZ (tC t n p = 9))) 47 l (-1)) 48 l 0 = μ2 at s1 M1' f1' g1' a1'
      have b2 : ∀ f, f < 46 ∨ 48 < f → μ2.2 f = μ.2 f := fun f hf => by funext j; rw [a1', if_neg (by omega), if_neg (by omega), if_neg (by omega)]
      have o2 : ∀ q j, j ≠ l → μ2.2 q j = μ.2 q j := fun q j hj => by rw [a1', if_neg (by omega), if_neg (by omega), if_neg (by omega)]
      have h231 := tC_le t n (tT t n p)
      by_cases h10 : tC t n (tT t n p) = 10
      · have w10 : nI (tC t n (tT t n p)) = 10 := (n10 _ (by omega)).mpr h10
        have e2 := m_nx (σ := σ) (d + 3) hL hn p1 M1'
        have M2 := CurM_nx M1'
        have f2 : (tkS μ2 n (tT t n (tT t n p))).1 54 = 0 := by rw [tkS_1 _ _ _ (by omega)]; exact f1'
        have g2 : ∀ g, g < 50 ∨ 55 < g → (tkS μ2 n (tT t n (tT t n p))).1 g = μ.1 g := fun g hg => by rw [tkS_1 _ _ _ (by omega)]; exact g1' g hg
        have a2 : (tkS μ2 n (tT t n (tT t n p))).2 = μ2.2 := rfl
        generalize tkS μ2 n (tT t n (tT t n p)) = μ3 at e2 M2 f2 g2 a2
        have b3 : ∀ f, f < 46 ∨ 48 < f → μ3.2 f = μ.2 f := fun f hf => by rw [a2]; exact b2 f hf
        have o3 : ∀ q j, j ≠ l → μ3.2 q j = μ.2 q j := fun q j hj => by rw [a2]; exact o2 q j hj
        have h232 := tC_le t n (tT t n (tT t n p))
        have s2 : run (d + 7) 152 70 [.ref a, .int (nI l), uu, uu] [] (put σ a μ2) = run (d + 7) 152 83 [.ref a, .int (nI l), uu, uu] [] (put σ a μ3) := by
          simp [psh_some, psh_none, -Int32.not_lt, -Int32.not_le, q_M_readLine_70, q_M_readLine_79, hL, M1'.2.2.2.2.1, w10, e2]
        -- behind the number
        by_cases h20 : tC t n (tT t n (tT t n p)) = 20
        · have w20 : nI (tC t n (tT t n (tT t n p))) = 20 := (n20 _ (by omega)).mpr h20
          by_cases h11 : tN t n (tT t n (tT t n p)) ≤ 11
          · have ef : aH t n p l = (0, tT t n (tT t n (tT t n p))) := by unfold aH; rw [if_pos hs, if_neg h16, if_pos h10, if_pos h20, if_pos h11]
            have e3 := nm_ok (σ := σ) (d + 1) hL hn p2 M2 f2 h20
            have M3 := CurM_nx M2
            have f3 : (tkS μ3 n (tT t n (tT t n (tT t n p)))).1 54 = 0 := by rw [tkS_1 _ _ _ (by omega)]; exact f2
            have g3 : ∀ g, g < 50 ∨ 55 < g → (tkS μ3 n (tT t n (tT t n (tT t n p)))).1 g = μ.1 g := fun g hg => by rw [tkS_1 _ _ _ (by omega)]; exact g2 g hg
            have a3 : (tkS μ3 n (tT t n (tT t n (tT t n p)))).2 = μ3.2 := rfl
            generalize tkS μ3 n (tT t n (tT t n (tT t n p))) = μ4 at e3 M3 f3 g3 a3
            refine ⟨fA μ4 47 l (tN t n (tT t n (tT t n p))), ?_, ?_⟩
            · rw [s1, s2]
              simp [psh_some, psh_none, -Int32.not_lt, -Int32.not_le, q_M_readLine_83, q_M_readLine_92, q_M_readLine_106, q_M_readLine_115, hL, M2.2.2.2.2.1, M2.2.2.2.2.2, w20, h11, e3, il, cl]
            · unfold Hm
              rw [ef]
              refine ⟨⟨g3, fun f hf => ?_, fun _ => ⟨M3, f3⟩, fun z => absurd rfl z⟩, ?_, fun q hq j hj => ?_, fun _ => ⟨?_, ?_, ?_⟩⟩
              · rw [fA_2n _ (by omega), a3]; exact b3 f (by omega)
              · rw [fA_2n _ (by omega), a3]; exact b3 49 (by omega)
              · rw [fA_2, if_neg (by omega), a3]; exact o3 q j hj
              · rw [fA_2, if_neg (by omega), a3, a2, a1', if_neg (by omega), if_neg (by omega), if_pos ⟨rfl, rfl⟩]
              · rw [fA_2, if_pos ⟨rfl, rfl⟩]; unfold aS; rw [if_pos h10]
              · rw [fA_2, if_neg (by omega), a3, a2, a1', if_pos ⟨rfl, rfl⟩]
          · have ef : aH t n p l = (4, tT t n (tT t n p)) := by unfold aH; rw [if_pos hs, if_neg h16, if_pos h10, if_pos h20, if_neg h11]
            have eb := m_blames (σ := σ) (d + 6) hL f2 4
            have e3 := nm_f (σ := σ) (μ := blm μ3 4) (d + 1) hL (by rw [blm_54]; decide)
            refine ⟨fA (blm μ3 4) 47 l 0, ?_, ?_⟩
            · rw [s1, s2]
              simp [psh_some, psh_none, -Int32.not_lt, -Int32.not_le, q_M_readLine_83, q_M_readLine_92, q_M_readLine_101, q_M_readLine_106, q_M_readLine_115, hL, M2.2.2.2.2.1, M2.2.2.2.2.2, w20, h11, eb, e3, il, cl]
            · unfold Hm
              rw [ef]
              refine ⟨Qm_ar (Qm_nx (μ' := μ) g2 (fun f hf => b3 f (by omega)) (Qm_blm (k := 4) M2 (by decide))) rfl (fun f hf => by rw [fA_2n _ (by omega)]; rfl), ?_, fun q hq j hj => ?_, fun z => absurd z (Nat.succ_ne_zero _)⟩
              · rw [fA_2n _ (by omega)]; exact b3 49 (by omega)
              · rw [fA_2, if_neg (by omega)]; exact o3 q j hj
        · have ef : aH t n p l = (1, tT t n (tT t n p)) := by unfold aH; rw [if_pos hs, if_neg h16, if_pos h10, if_neg h20]
          have w20 : ¬ nI (tC t n (tT t n (tT t n p))) = 20 := fun z => h20 ((n20 _ (by omega)).mp z)
          have e3 := nm_no (σ := σ) (d + 1) hL M2 f2 h20
          refine ⟨fA (blm μ3 1) 47 l 0, ?_, ?_⟩
          · rw [s1, s2]
            simp [psh_some, psh_none, -Int32.not_lt, -Int32.not_le, q_M_readLine_83, q_M_readLine_106, q_M_readLine_115, hL, M2.2.2.2.2.1, w20, e3, il, cl]
          · unfold Hm
            rw [ef]
            refine ⟨Qm_ar (Qm_nx (μ' := μ) g2 (fun f hf => b3 f (by omega)) (Qm_blm (k := 1) M2 (by decide))) rfl (fun f hf => by rw [fA_2n _ (by omega)]; rfl), ?_, fun q hq j hj => ?_, fun z => absurd z (Nat.succ_ne_zero _)⟩
            · rw [fA_2n _ (by omega)]; exact b3 49 (by omega)
            · rw [fA_2, if_neg (by omega)]; exact o3 q j hj
      · have w10 : ¬ nI (tC t n (tT t n p)) = 10 := fun z => h10 ((n10 _ (by omega)).mp z)
        have ef : aH t n p l = (0, tT t n p) := by unfold aH; rw [if_pos hs, if_neg h16, if_neg h10]
        refine ⟨μ2, ?_, ?_⟩
        · rw [s1]
          simp [psh_some, psh_none, -Int32.not_lt, -Int32.not_le, q_M_readLine_70, hL, M1'.2.2.2.2.1, w10]
        · unfold Hm
          rw [ef]
          refine ⟨⟨g1', fun f hf => b2 f (by omega), fun _ => ⟨M1', f1'⟩, fun z => absurd rfl z⟩, b2 49 (by omega), fun q hq j hj => o2 q j hj, fun _ => ⟨?_, ?_, ?_⟩⟩
          · rw [a1', if_neg (by omega), if_neg (by omega), if_pos ⟨rfl, rfl⟩]
          · rw [a1', if_neg (by omega), if_pos ⟨rfl, rfl⟩]; unfold aS; rw [if_neg h10]
          · rw [a1', if_pos ⟨rfl, rfl⟩]
  · have ef : aH t n p l = (1, p) := by unfold aH; rw [if_neg hs]
    have y2 : ¬ (¬ nI (tC t n p) < 8 ∧ ¬ 9 < nI (tC t n p)) := fun z => hs ((i89 _ (by omega)).mp z)
    have e1 := tk_no (σ := σ) (d + 2) hL hM h0 (lo := 8) (hi := 9) y2
    obtain ⟨r1, r2⟩ := flt (blm μ 1) (nI (tC t n p)) 1 (by decide) ef (Qm_blm (k := 1) hM (by decide)) rfl (by rw [blm_54]; decide)
    refine ⟨_, ?_, r2⟩
    rw [← r1]
    by_cases h16 : l = 16
    · have z16 : nI l = (16 : Int32) := by rw [h16]; rfl
      simp [psh_some, psh_none, -Int32.not_lt, -Int32.not_le, rc_M_readLine, q_M_readLine_0, q_M_readLine_6, q_M_readLine_17, q_M_readLine_25, hL, z16, hM.2.2.2.2.1, m_in, bZ_f y2, e1]
    · have z16 : ¬ nI l = 16 := fun z => h16 ((n16 _ (by omega)).mp z)
      simp [psh_some, psh_none, -Int32.not_lt, -Int32.not_le, rc_M_readLine, q_M_readLine_0, q_M_readLine_25, hL, z16, e1]
end T75
