/-! ===== THE RULES: THE FIRST LINE THAT IS NOT SO; barred ===== -/
section O46
variable {σ σ1 : Mm} {c : Nat} {E S L B G H Q : Nat → Nat} {Z : Nat → List Nat} {w : Bool} {μ μ' : Ms} (d : Nat)
theorem c_compares (v g n : Int32) : runc d 45 [.int v, .int g, .int n] σ = some (some (.int (cmv g v n)), σ) := by
  unfold cmv
  by_cases c1 : g = 60
  · by_cases c2 : n ≤ v <;> simp [psh_some, psh_none, -Int32.not_lt, -Int32.not_le, rc_Rules_compares, e_Rules_compares_0, e_Rules_compares_6, e_Rules_compares_11, e_Rules_compares_15, e_Rules_compares_16, e_Rules_compares_17, e_Rules_compares_23, e_Rules_compares_28, e_Rules_compares_32, e_Rules_compares_36, e_Rules_compares_41, e_Rules_compares_45, e_Rules_compares_46, c1, c2]
  · by_cases c3 : g = 62
    · by_cases c2 : v ≤ n <;> simp [psh_some, psh_none, -Int32.not_lt, -Int32.not_le, rc_Rules_compares, e_Rules_compares_0, e_Rules_compares_6, e_Rules_compares_11, e_Rules_compares_15, e_Rules_compares_16, e_Rules_compares_17, e_Rules_compares_23, e_Rules_compares_28, e_Rules_compares_32, e_Rules_compares_36, e_Rules_compares_41, e_Rules_compares_45, e_Rules_compares_46, c3, c2]
    · by_cases c2 : v = n <;> simp [psh_some, psh_none, -Int32.not_lt, -Int32.not_le, rc_Rules_compares, e_Rules_compares_0, e_Rules_compares_6, e_Rules_compares_11, e_Rules_compares_15, e_Rules_compares_16, e_Rules_compares_17, e_Rules_compares_23, e_Rules_compares_28, e_Rules_compares_32, e_Rules_compares_36, e_Rules_compares_41, e_Rules_compares_45, e_Rules_compares_46, c1, c3, c2]
theorem cmv_01 (g v n : Int32) : cmv g v n = 0 ∨ cmv g v n = 1 := by
  unfold cmv
  repeat' split
  all_goals simp
theorem isSo_lpC {r q l k s : Nat} (hU : RuL σ r) (hR : RR1 σ r μ) (hW : WR μ) (hn : nR μ ≤ 16) (hl : l < nR μ) (q1 : mK σ q = 110) (q2 : mN σ q = 8) (q3 : ∀ i, i < 8 → mI σ 110 q i = see μ (nI i) k s) : ∀ (y t : Nat), t + y = tm μ l → ∀ u4 u5 : Value, run (d + 1) 44 2 [.ref r, .int (nI l), .ref q, .int (nI t), u4, u5] [] σ = some (some (.int (al (fun t => tOk μ l k s t = true) y t)), σ) := by
  have hrl := hW.1 l hl
  have i1 : ix (nI l) 16 = true := ix_of (by omega) (by omega)
  have ea := (hR.2.1 l hl).2.2
  intro y
  induction y with
  | zero =>
    intro t ht u4 u5
    have : t = tm μ l := by omega
    subst this
    simp [psh_some, psh_none, -Int32.not_lt, -Int32.not_le, va_rf, vd, vr, isR_r, isR_n, isA_r, isI_i, isI_r, isR_i, ar, akI, akZ, akB, akO, mI_sI, mP_sI, mK_sI, mN_sI, mX_sI, mP_sP, mI_sP, mK_sP, mN_sP, mX_sP, e_Rules_isSo_2, e_Rules_isSo_89, rP_0 hU, rK_0 hU, rN_0 hU, rP_1 hU, rK_1 hU, rN_1 hU, rP_2 hU, rK_2 hU, rN_2 hU, rP_3 hU, rK_3 hU, rN_3 hU, rP_4 hU, rK_4 hU, rN_4 hU, rP_5 hU, rK_5 hU, rN_5 hU, rP_6 hU, rK_6 hU, rN_6 hU, hU.1, i1, cl1000 (show l < 1000 by omega), ea, hrl.1, al]
  | succ y ih =>
    intro t ht u4 u5
    have h6 := hrl.2
    have h2 : ¬ nI (tm μ l) ≤ nI t := nI_ge (by omega) (by omega)
    have h3 : ¬ (6 : Int32) ≤ nI t := nI_ge (b := 6) (by omega) (by omega)
    have e0 : nI l * 6 + nI t = nI (6 * l + t) := by rw [show (6 : Int32) = nI 6 from rfl, pk_mul, nI_add, Nat.mul_comm]
    have i2 : ix (nI (6 * l + t)) 96 = true := ix_of (by omega) (by omega)
    have c2 := cl1000 (show 6 * l + t < 1000 by omega)
    obtain ⟨f0, f1, f2, f3⟩ := hR.2.2 l t hl (by omega)
    obtain ⟨g0, v, hv, g1⟩ := (hW.2 l hl).2 t (by omega)
    have e7 : Int32.ofNat 8 - 1 = (7 : Int32) := by decide
    have i3 : ix (nI v) 8 = true := ix_of (by omega) (by omega)
    have ew : ¬ nI v < 0 ∧ ¬ (7 : Int32) < nI v := ⟨nI_pos (by omega), nI_nlt (b := v) (a := 7) (by omega) (by omega)⟩
    have h1 := ih (t + 1) (by omega)
    rw [nI_succ] at h1
    have hs := q3 v (by omega)
    have ho : tOk μ l k s t = !decide (cmv (μ.2 45 (24 * l + 4 * t + 2)) (see μ (nI v) k s) (μ.2 45 (24 * l + 4 * t + 3)) = μ.2 45 (24 * l + 4 * t)) := by
      unfold tOk
      rw [g1]
      have : (if μ.2 45 (24 * l + 4 * t) = 1 then (1 : Int32) else 0) = μ.2 45 (24 * l + 4 * t) := by
        rcases g0 with z | z <;> rw [z] <;> simp
      rw [this]
    rw [al, ho]
    by_cases z : cmv (μ.2 45 (24 * l + 4 * t + 2)) (see μ (nI v) k s) (μ.2 45 (24 * l + 4 * t + 3)) = μ.2 45 (24 * l + 4 * t)
    · simp [psh_some, psh_none, -Int32.not_lt, -Int32.not_le, va_rf, vd, vr, isR_r, isR_n, isA_r, isI_i, isI_r, isR_i, ar, akI, akZ, akB, akO, mI_sI, mP_sI, mK_sI, mN_sI, mX_sI, mP_sP, mI_sP, mK_sP, mN_sP, mX_sP, rc_Rules_isSo, e_Rules_isSo_0, e_Rules_isSo_2, e_Rules_isSo_12, e_Rules_isSo_18, e_Rules_isSo_45, e_Rules_isSo_48, e_Rules_isSo_50, e_Rules_isSo_71, e_Rules_isSo_81, e_Rules_isSo_83, e_Rules_isSo_89, rP_0 hU, rK_0 hU, rN_0 hU, rP_1 hU, rK_1 hU, rN_1 hU, rP_2 hU, rK_2 hU, rN_2 hU, rP_3 hU, rK_3 hU, rN_3 hU, rP_4 hU, rK_4 hU, rN_4 hU, rP_5 hU, rK_5 hU, rN_5 hU, rP_6 hU, rK_6 hU, rN_6 hU, hU.1, i1, cl1000 (show l < 1000 by omega), ea, hrl.1, h2, h3, e0, i2, c2, f0, f1, f2, f3, g1, q1, q2, e7, c_within, bZ_t ew, i3, cl1000 (show v < 1000 by omega), hs, c_compares, z]
    · simp [psh_some, psh_none, -Int32.not_lt, -Int32.not_le, va_rf, vd, vr, isR_r, isR_n, isA_r, isI_i, isI_r, isR_i, ar, akI, akZ, akB, akO, mI_sI, mP_sI, mK_sI, mN_sI, mX_sI, mP_sP, mI_sP, mK_sP, mN_sP, mX_sP, rc_Rules_isSo, e_Rules_isSo_0, e_Rules_isSo_2, e_Rules_isSo_12, e_Rules_isSo_18, e_Rules_isSo_45, e_Rules_isSo_48, e_Rules_isSo_50, e_Rules_isSo_71, e_Rules_isSo_81, e_Rules_isSo_83, e_Rules_isSo_89, rP_0 hU, rK_0 hU, rN_0 hU, rP_1 hU, rK_1 hU, rN_1 hU, rP_2 hU, rK_2 hU, rN_2 hU, rP_3 hU, rK_3 hU, rN_3 hU, rP_4 hU, rK_4 hU, rN_4 hU, rP_5 hU, rK_5 hU, rN_5 hU, rP_6 hU, rK_6 hU, rN_6 hU, hU.1, i1, cl1000 (show l < 1000 by omega), ea, hrl.1, h2, h3, e0, i2, c2, f0, f1, f2, f3, g1, q1, q2, e7, c_within, bZ_t ew, i3, cl1000 (show v < 1000 by omega), hs, c_compares, z, h1]
theorem c_isSo {r q l k s : Nat} (hU : RuL σ r) (hR : RR1 σ r μ) (hW : WR μ) (hn : nR μ ≤ 16) (hl : l < nR μ) (q1 : mK σ q = 110) (q2 : mN σ q = 8) (q3 : ∀ i, i < 8 → mI σ 110 q i = see μ (nI i) k s) : runc (d + 1) 44 [.ref r, .int (nI l), .ref q] σ = some (some (.int (al (fun t => tOk μ l k s t = true) (tm μ l) 0)), σ) := by
  have h := isSo_lpC d hU hR hW hn hl q1 q2 q3 (tm μ l) 0 (by omega) uu uu
  rw [nI_0] at h
  simp [va_rf, vd, vr, isR_r, isR_n, isA_r, isI_i, isI_r, isR_i, ar, akI, akZ, akB, akO, mI_sI, mP_sI, mK_sI, mN_sI, mX_sI, mP_sP, mI_sP, mK_sP, mN_sP, mX_sP, rc_Rules_isSo, e_Rules_isSo_0, h]
theorem frb_lp {r q k s : Nat} (hU : RuL σ r) (hR : RR1 σ r μ) (hW : WR μ) (hC : Cn μ) (hs : s < 12) (q1 : mK σ q = 110) (q2 : mN σ q = 8) (q3 : ∀ i, i < 8 → mI σ 110 q i = see μ (nI i) k s) (ld : Int32) : ∀ (y l : Nat), l + y = nR μ → ∀ u5 : Value, run (d + 2) 43 3 [.ref r, .int ld, .int (nI s), .ref q, .int (nI l), u5] [] σ = some (some (.int (ff (fun l => μ.2 42 l = ld ∧ isO μ l k s = 0) y l)), σ) := by
  have hn := hC.r
  intro y
  induction y with
  | zero =>
    intro l hl u5
    have : l = nR μ := by omega
    subst this
    simp [psh_some, psh_none, -Int32.not_lt, -Int32.not_le, va_rf, vd, vr, isR_r, isR_n, isA_r, isI_i, isI_r, isR_i, ar, akI, akZ, akB, akO, mI_sI, mP_sI, mK_sI, mN_sI, mX_sI, mP_sP, mI_sP, mK_sP, mN_sP, mX_sP, e_Rules_firstBroken_3, e_Rules_firstBroken_83, rP_0 hU, rK_0 hU, rN_0 hU, rP_1 hU, rK_1 hU, rN_1 hU, rP_2 hU, rK_2 hU, rN_2 hU, rP_3 hU, rK_3 hU, rN_3 hU, rP_4 hU, rK_4 hU, rN_4 hU, rP_5 hU, rK_5 hU, rN_5 hU, rP_6 hU, rK_6 hU, rN_6 hU, hU.1, hR.1, hn.1, ff]
  | succ y ih =>
    intro l hl u5
    have h2 : ¬ nI (nR μ) ≤ nI l := nI_ge (by omega) (by omega)
    have h3 : ¬ (16 : Int32) ≤ nI l := nI_ge (b := 16) (by omega) (by omega)
    have i1 : ix (nI l) 16 = true := ix_of (by omega) (by omega)
    have c1 := cl1000 (show l < 1000 by omega)
    obtain ⟨f0, f1, f2⟩ := hR.2.1 l (by omega)
    have h1 := fun u => ih (l + 1) (by omega) u
    simp only [nI_succ] at h1
    have es := c_isSo d hU hR hW hn.2 (show l < nR μ by omega) q1 q2 q3
    rw [ff]
    by_cases z1 : μ.2 42 l = ld
    · by_cases z2 : μ.2 43 l = -1
      · have eo : isO μ l k s = al (fun t => tOk μ l k s t = true) (tm μ l) 0 := if_neg (fun z => z.1 z2)
        rw [eo]
        generalize al (fun t => tOk μ l k s t = true) (tm μ l) 0 = A at es ⊢
        by_cases z4 : A = 0 <;> simp [psh_some, psh_none, -Int32.not_lt, -Int32.not_le, va_rf, vd, vr, isR_r, isR_n, isA_r, isI_i, isI_r, isR_i, ar, akI, akZ, akB, akO, mI_sI, mP_sI, mK_sI, mN_sI, mX_sI, mP_sP, mI_sP, mK_sP, mN_sP, mX_sP, rc_Rules_firstBroken, e_Rules_firstBroken_0, e_Rules_firstBroken_3, e_Rules_firstBroken_12, e_Rules_firstBroken_19, e_Rules_firstBroken_30, e_Rules_firstBroken_41, e_Rules_firstBroken_52, e_Rules_firstBroken_56, e_Rules_firstBroken_57, e_Rules_firstBroken_64, e_Rules_firstBroken_71, e_Rules_firstBroken_74, e_Rules_firstBroken_77, e_Rules_firstBroken_83, rP_0 hU, rK_0 hU, rN_0 hU, rP_1 hU, rK_1 hU, rN_1 hU, rP_2 hU, rK_2 hU, rN_2 hU, rP_3 hU, rK_3 hU, rN_3 hU, rP_4 hU, rK_4 hU, rN_4 hU, rP_5 hU, rK_5 hU, rN_5 hU, rP_6 hU, rK_6 hU, rN_6 hU, hU.1, hR.1, hn.1, h2, h3, i1, c1, f0, f1, z1, z2, es, z4, h1]
      · by_cases z3 : μ.2 43 l = nI s
        · have eo : isO μ l k s = al (fun t => tOk μ l k s t = true) (tm μ l) 0 := if_neg (fun z => z.2 z3)
          rw [eo]
          generalize al (fun t => tOk μ l k s t = true) (tm μ l) 0 = A at es ⊢
          have z3' : ¬ nI s = -1 := nI_nm1 (by omega)
          by_cases z4 : A = 0 <;> simp [psh_some, psh_none, -Int32.not_lt, -Int32.not_le, va_rf, vd, vr, isR_r, isR_n, isA_r, isI_i, isI_r, isR_i, ar, akI, akZ, akB, akO, mI_sI, mP_sI, mK_sI, mN_sI, mX_sI, mP_sP, mI_sP, mK_sP, mN_sP, mX_sP, rc_Rules_firstBroken, e_Rules_firstBroken_0, e_Rules_firstBroken_3, e_Rules_firstBroken_12, e_Rules_firstBroken_19, e_Rules_firstBroken_30, e_Rules_firstBroken_41, e_Rules_firstBroken_52, e_Rules_firstBroken_56, e_Rules_firstBroken_57, e_Rules_firstBroken_64, e_Rules_firstBroken_71, e_Rules_firstBroken_74, e_Rules_firstBroken_77, e_Rules_firstBroken_83, rP_0 hU, rK_0 hU, rN_0 hU, rP_1 hU, rK_1 hU, rN_1 hU, rP_2 hU, rK_2 hU, rN_2 hU, rP_3 hU, rK_3 hU, rN_3 hU, rP_4 hU, rK_4 hU, rN_4 hU, rP_5 hU, rK_5 hU, rN_5 hU, rP_6 hU, rK_6 hU, rN_6 hU, hU.1, hR.1, hn.1, h2, h3, i1, c1, f0, f1, z1, z3, z3', es, z4, h1]
        · have eo : isO μ l k s = 1 := if_pos ⟨z2, z3⟩
          simp [psh_some, psh_none, -Int32.not_lt, -Int32.not_le, va_rf, vd, vr, isR_r, isR_n, isA_r, isI_i, isI_r, isR_i, ar, akI, akZ, akB, akO, mI_sI, mP_sI, mK_sI, mN_sI, mX_sI, mP_sP, mI_sP, mK_sP, mN_sP, mX_sP, rc_Rules_firstBroken, e_Rules_firstBroken_0, e_Rules_firstBroken_3, e_Rules_firstBroken_12, e_Rules_firstBroken_19, e_Rules_firstBroken_30, e_Rules_firstBroken_41, e_Rules_firstBroken_52, e_Rules_firstBroken_56, e_Rules_firstBroken_57, e_Rules_firstBroken_64, e_Rules_firstBroken_71, e_Rules_firstBroken_74, e_Rules_firstBroken_77, e_Rules_firstBroken_83, rP_0 hU, rK_0 hU, rN_0 hU, rP_1 hU, rK_1 hU, rN_1 hU, rP_2 hU, rK_2 hU, rN_2 hU, rP_3 hU, rK_3 hU, rN_3 hU, rP_4 hU, rK_4 hU, rN_4 hU, rP_5 hU, rK_5 hU, rN_5 hU, rP_6 hU, rK_6 hU, rN_6 hU, hU.1, hR.1, hn.1, h2, h3, i1, c1, f0, f1, z1, z2, z3, eo, h1]
    · simp [psh_some, psh_none, -Int32.not_lt, -Int32.not_le, va_rf, vd, vr, isR_r, isR_n, isA_r, isI_i, isI_r, isR_i, ar, akI, akZ, akB, akO, mI_sI, mP_sI, mK_sI, mN_sI, mX_sI, mP_sP, mI_sP, mK_sP, mN_sP, mX_sP, rc_Rules_firstBroken, e_Rules_firstBroken_0, e_Rules_firstBroken_3, e_Rules_firstBroken_12, e_Rules_firstBroken_19, e_Rules_firstBroken_30, e_Rules_firstBroken_41, e_Rules_firstBroken_52, e_Rules_firstBroken_56, e_Rules_firstBroken_57, e_Rules_firstBroken_64, e_Rules_firstBroken_71, e_Rules_firstBroken_74, e_Rules_firstBroken_77, e_Rules_firstBroken_83, rP_0 hU, rK_0 hU, rN_0 hU, rP_1 hU, rK_1 hU, rN_1 hU, rP_2 hU, rK_2 hU, rN_2 hU, rP_3 hU, rK_3 hU, rN_3 hU, rP_4 hU, rK_4 hU, rN_4 hU, rP_5 hU, rK_5 hU, rN_5 hU, rP_6 hU, rK_6 hU, rN_6 hU, hU.1, hR.1, hn.1, h2, h3, i1, c1, f0, f1, z1, h1]
theorem c_rfb {r q k s : Nat} (hU : RuL σ r) (hR : RR1 σ r μ) (hW : WR μ) (hC : Cn μ) (hs : s < 12) (q1 : mK σ q = 110) (q2 : mN σ q = 8) (q3 : ∀ i, i < 8 → mI σ 110 q i = see μ (nI i) k s) (ld : Int32) : runc (d + 2) 43 [.ref r, .int ld, .int (nI s), .ref q] σ = some (some (.int (fns μ k s ld)), σ) := by
  have h := frb_lp d hU hR hW hC hs q1 q2 q3 ld (nR μ) 0 (by omega) uu
  rw [nI_0] at h
  simp [va_rf, vd, vr, isR_r, isR_n, isA_r, isI_i, isI_r, isR_i, ar, akI, akZ, akB, akO, mI_sI, mP_sI, mK_sI, mN_sI, mX_sI, mP_sP, mI_sP, mK_sP, mN_sP, mX_sP, rc_Rules_firstBroken, e_Rules_firstBroken_0, h, fns]
/-- words are written -/
def wr (σ : Mm) (q : Nat) (f : Nat → Int32) : Nat → Mm
  | 0 => σ
  | i + 1 => sI (wr σ q f i) 110 q i (f i)
theorem wr_Sm (q : Nat) (f : Nat → Int32) : ∀ i, Sm (tk [110]) σ (wr σ q f i) := by
  intro i
  induction i with
  | zero => exact Sm.rfl' σ
  | succ i ih => exact SmsI ih rfl _ _ _
theorem wr_K (q : Nat) (f : Nat → Int32) : ∀ i, mK (wr σ q f i) = mK σ := by
  intro i
  induction i with
  | zero => rfl
  | succ i ih => exact ih
theorem wr_N (q : Nat) (f : Nat → Int32) : ∀ i, mN (wr σ q f i) = mN σ := by
  intro i
  induction i with
  | zero => rfl
  | succ i ih => exact ih
theorem wr_X (q : Nat) (f : Nat → Int32) : ∀ i, mX (wr σ q f i) = mX σ := by
  intro i
  induction i with
  | zero => rfl
  | succ i ih => exact ih
theorem wr_S (q : Nat) (f : Nat → Int32) : ∀ i, mS (wr σ q f i) = mS σ := by
  intro i
  induction i with
  | zero => rfl
  | succ i ih => exact ih
theorem wr_P (q : Nat) (f : Nat → Int32) : ∀ i, mP (wr σ q f i) = mP σ := by
  intro i
  induction i with
  | zero => rfl
  | succ i ih => exact ih
theorem wr_I (q : Nat) (f : Nat → Int32) {e : Nat} (he : e ≠ 110) : ∀ i, mI (wr σ q f i) e = mI σ e := by
  intro i
  induction i with
  | zero => rfl
  | succ i ih => rw [wr, ← ih]; funext x y; rw [mI_sI, if_neg (fun z => he z.1)]
theorem wr_at (q : Nat) (f : Nat → Int32) : ∀ i j, j < i → mI (wr σ q f i) 110 q j = f j := by
  intro i
  induction i with
  | zero => intro j hj; omega
  | succ i ih =>
    intro j hj
    rw [wr, mI_sI]
    by_cases e : j = i
    · rw [if_pos ⟨rfl, rfl, e⟩, e]
    · rw [if_neg (fun z => e z.2.2)]
      exact ih j (by omega)
theorem wr_Kx (hX : Kx σ) (q : Nat) (f : Nat → Int32) (i : Nat) : Kx (wr σ q f i) := by
  intro x hx
  rw [wr_K] at hx
  rw [wr_X]
  exact hX x hx
theorem RC_110 (h : RC σ c E S L B G H Q Z w μ) (hX : Kx σ) (hs : Sm (tk [110]) σ σ1) : RC σ1 c E S L B G H Q Z w μ := by
  obtain ⟨hF, hz, hRX, hRS, hRL, hRB, hRP, hRG, hRF, hRT, hRK, hRR, hRN⟩ := h
  exact ⟨hF.fr hX hs (by rintro q (rfl | rfl | rfl | rfl | rfl) <;> rfl), hz.fr hs rfl, hRX.fr hz hX hs rfl rfl rfl rfl rfl rfl rfl, hRS.fr hX hs rfl rfl rfl rfl rfl rfl rfl rfl rfl, hRL.fr hX hs rfl rfl rfl rfl rfl, hRB.fr hX hs rfl rfl rfl rfl (Ar_of (by repeat' constructor)), hRP.fr (fun k hk => (hRB k hk).1.1) hX hs rfl rfl rfl (Ar_of (by repeat' constructor)), hRG.fr hX hs rfl rfl rfl (Ar_of (by repeat' constructor)), hRF.fr hF hX hs rfl rfl rfl rfl rfl rfl (Ar_of (by repeat' constructor)), hRT.fr hF hX hs rfl rfl rfl rfl, hRK.fr hF hX hs rfl rfl rfl rfl rfl (Ar_of (by repeat' constructor)), hRR.fr hF hX hs rfl (by rintro q (rfl | rfl | rfl | rfl | rfl | rfl | rfl | rfl) <;> rfl) rfl (Ar_of (by repeat' constructor)), hRN.fr hF hX hs rfl rfl rfl rfl rfl rfl⟩
/-- what the words are worth for the boat k at s -/
def wv (μ : Ms) (k s : Nat) (i : Nat) : Int32 := see μ (nI i) k s
theorem wv_0 (k s : Nat) : wv μ k s 0 = swN μ s := by unfold wv see; rw [if_pos (by decide)]
theorem wv_1 (k s : Nat) : wv μ k s 1 = μ.1 1 / 60 - μ.1 1 / 60 / 24 * 24 := by unfold wv see; rw [if_neg (by decide), if_pos (by decide)]
theorem wv_2 (k s : Nat) : wv μ k s 2 = if μ.2 5 s = 0 then 0 else 1 := by unfold wv see; rw [if_neg (by decide), if_neg (by decide), if_pos (by decide)]
theorem wv_3 (k s : Nat) : wv μ k s 3 = frA μ s := by unfold wv see; rw [if_neg (by decide), if_neg (by decide), if_neg (by decide), if_pos (by decide)]
theorem wv_4 (k s : Nat) : wv μ k s 4 = μ.2 27 k := by unfold wv see; rw [if_neg (by decide), if_neg (by decide), if_neg (by decide), if_neg (by decide), if_pos (by decide)]
theorem wv_5 (k s : Nat) : wv μ k s 5 = wgt μ k := by unfold wv see; rw [if_neg (by decide), if_neg (by decide), if_neg (by decide), if_neg (by decide), if_neg (by decide), if_pos (by decide)]
theorem wv_6 (k s : Nat) : wv μ k s 6 = μ.1 1 / 1440 := by unfold wv see; rw [if_neg (by decide), if_neg (by decide), if_neg (by decide), if_neg (by decide), if_neg (by decide), if_neg (by decide), if_pos (by decide)]
theorem wv_7 (k s : Nat) : wv μ k s 7 = sm (bc1 μ (nI k)) (nG μ) := by unfold wv see; rw [if_neg (by decide), if_neg (by decide), if_neg (by decide), if_neg (by decide), if_neg (by decide), if_neg (by decide), if_neg (by decide)]
/-- the memory behind the words -/
def wW (σ : Mm) (c : Nat) (μ : Ms) (k : Nat) : Mm := wr σ (c + 16) (wv μ k (aT μ k)) 8
theorem c_fb (hR : RC σ c E S L B G H Q Z w μ) (hX : Kx σ) (hW : Wf μ) {k : Nat} (hk : k < nB μ) (ld : Int32) : runc (d + 3) 98 [.ref c, .ref (B k), .int ld] σ = some (some (.int (fns μ k (aT μ k) ld)), wW σ c μ k) := by
  have hC := hW.1
  have hwk := hW.2.2.2.1.1 k hk
  have hs := hwk.1.2
  have hs12 := hC.s.2
  have hi : ∀ i, RC (wr σ (c + 16) (wv μ k (aT μ k)) i) c E S L B G H Q Z w μ := fun i => RC_110 hR hX (wr_Sm _ _ i)
  have x16 : ∀ i, i < 8 → ix (nI i) 8 = true := fun i h => ix_of h (by omega)
  have t0 : runc (d + 3) 98 [.ref c, .ref (B k), .int ld] σ = run (d + 3) 98 16 [.ref c, .ref (B k), .int ld, .ref (S (aT μ k))] [] (wr σ (c + 16) (wv μ k (aT μ k)) 1) := by
    obtain ⟨hF, hz, hRX, hRS, hRL, hRB, hRP, hRG, hRF, hRT, hRK, hRR, hRN⟩ := id hR
    obtain ⟨a0, a1, a2, a3, a4, a5, a6, a7, a8, a9, a10, a11, a12, a13, a14, a15⟩ := (hRB k hk).1
    have e1 := c_swellNow d hF hC hRF hW.2.2.2.2.2.1 hRS hRN hs
    have i0 := x16 0 (by omega)
    rw [nI_0] at i0
    show _ = run (d + 3) 98 16 [.ref c, .ref (B k), .int ld, .ref (S (aT μ k))] [] (sI σ 110 (c + 16) 0 (wv μ k (aT μ k) 0))
    rw [wv_0]
    simp [psh_some, psh_none, -Int32.not_lt, -Int32.not_le, va_rf, vd, vr, isR_r, isR_n, isA_r, isI_i, isI_r, isR_i, ar, akI, akZ, akB, akO, mI_sI, mP_sI, mK_sI, mN_sI, mX_sI, mP_sP, mI_sP, mK_sP, mN_sP, mX_sP, rc_C_firstBroken, e_C_firstBroken_0, e_C_firstBroken_15, fK_1 hF, fK_2 hF, fK_3 hF, fK_4 hF, fK_5 hF, fK_6 hF, fN_6 hF, fK_7 hF, fN_7 hF, fK_8 hF, fN_8 hF, fK_9 hF, fN_9 hF, fK_10 hF, fK_11 hF, fN_11 hF, fK_12 hF, fK_13 hF, fN_13 hF, fK_14 hF, fN_14 hF, fK_15 hF, fN_15 hF, fK_16 hF, fN_16 hF, fP_12_0 hF, fP_12_1 hF, fP_12_2 hF, fP_12_3 hF, fP_12_4 hF, fP_12_5 hF, fP_12_6 hF, fP_12_7 hF, fP_4_0 hF, fP_4_1 hF, fP_4_2 hF, fP_4_3 hF, fP_11_0 hF, fP_7_0 hF, fP_7_1 hF, fP_7_2 hF, hF.cc, a0, a4, e1, i0]
  have t1 : run (d + 3) 98 16 [.ref c, .ref (B k), .int ld, .ref (S (aT μ k))] [] (wr σ (c + 16) (wv μ k (aT μ k)) 1) = run (d + 3) 98 50 [.ref c, .ref (B k), .int ld, .ref (S (aT μ k))] [] (wr σ (c + 16) (wv μ k (aT μ k)) 3) := by
    obtain ⟨hF, hz, hRX, hRS, hRL, hRB, hRP, hRG, hRF, hRT, hRK, hRR, hRN⟩ := hi 1
    have hS := hRS _ hs
    have i1 : ix (1 : Int32) 8 = true := x16 1 (by omega)
    have i2 : ix (2 : Int32) 8 = true := x16 2 (by omega)
    have k1 : (1 : Int32).toNatClampNeg = 1 := by decide
    have k2 : (2 : Int32).toNatClampNeg = 2 := by decide
    show _ = run (d + 3) 98 50 [.ref c, .ref (B k), .int ld, .ref (S (aT μ k))] [] (sI (sI (wr σ (c + 16) (wv μ k (aT μ k)) 1) 110 (c + 16) 1 (wv μ k (aT μ k) 1)) 110 (c + 16) 2 (wv μ k (aT μ k) 2))
    rw [wv_1, wv_2]
    generalize wr σ (c + 16) (wv μ k (aT μ k)) 1 = ρ at *
    by_cases z : μ.2 5 (aT μ k) = 0 <;> simp [psh_some, psh_none, -Int32.not_lt, -Int32.not_le, va_rf, vd, vr, isR_r, isR_n, isA_r, isI_i, isI_r, isR_i, ar, akI, akZ, akB, akO, mI_sI, mP_sI, mK_sI, mN_sI, mX_sI, mP_sP, mI_sP, mK_sP, mN_sP, mX_sP, e_C_firstBroken_16, e_C_firstBroken_32, e_C_firstBroken_44, e_C_firstBroken_48, e_C_firstBroken_49, fK_1 hF, fK_2 hF, fK_3 hF, fK_4 hF, fK_5 hF, fK_6 hF, fN_6 hF, fK_7 hF, fN_7 hF, fK_8 hF, fN_8 hF, fK_9 hF, fN_9 hF, fK_10 hF, fK_11 hF, fN_11 hF, fK_12 hF, fK_13 hF, fN_13 hF, fK_14 hF, fN_14 hF, fK_15 hF, fN_15 hF, fK_16 hF, fN_16 hF, fP_12_0 hF, fP_12_1 hF, fP_12_2 hF, fP_12_3 hF, fP_12_4 hF, fP_12_5 hF, fP_12_6 hF, fP_12_7 hF, fP_4_0 hF, fP_4_1 hF, fP_4_2 hF, fP_4_3 hF, fP_11_0 hF, fP_7_0 hF, fP_7_1 hF, fP_7_2 hF, hF.cc, hS, hRN.1, i1, i2, k1, k2, z]
  have t2 : run (d + 3) 98 50 [.ref c, .ref (B k), .int ld, .ref (S (aT μ k))] [] (wr σ (c + 16) (wv μ k (aT μ k)) 3) = run (d + 3) 98 70 [.ref c, .ref (B k), .int ld, .ref (S (aT μ k))] [] (wr σ (c + 16) (wv μ k (aT μ k)) 5) := by
    obtain ⟨hF, hz, hRX, hRS, hRL, hRB, hRP, hRG, hRF, hRT, hRK, hRR, hRN⟩ := hi 3
    obtain ⟨a0, a1, a2, a3, a4, a5, a6, a7, a8, a9, a10, a11, a12, a13, a14, a15⟩ := (hRB k hk).1
    have hS := hRS _ hs
    have e1 := c_free' (d + 2) hRS hs
    have i1 : ix (3 : Int32) 8 = true := x16 3 (by omega)
    have i2 : ix (4 : Int32) 8 = true := x16 4 (by omega)
    have k1 : (3 : Int32).toNatClampNeg = 3 := by decide
    have k2 : (4 : Int32).toNatClampNeg = 4 := by decide
    show _ = run (d + 3) 98 70 [.ref c, .ref (B k), .int ld, .ref (S (aT μ k))] [] (sI (sI (wr σ (c + 16) (wv μ k (aT μ k)) 3) 110 (c + 16) 3 (wv μ k (aT μ k) 3)) 110 (c + 16) 4 (wv μ k (aT μ k) 4))
    rw [wv_3, wv_4]
    generalize wr σ (c + 16) (wv μ k (aT μ k)) 3 = ρ at *
    simp [psh_some, psh_none, -Int32.not_lt, -Int32.not_le, va_rf, vd, vr, isR_r, isR_n, isA_r, isI_i, isI_r, isR_i, ar, akI, akZ, akB, akO, mI_sI, mP_sI, mK_sI, mN_sI, mX_sI, mP_sP, mI_sP, mK_sP, mN_sP, mX_sP, e_C_firstBroken_50, e_C_firstBroken_59, e_C_firstBroken_60, fK_1 hF, fK_2 hF, fK_3 hF, fK_4 hF, fK_5 hF, fK_6 hF, fN_6 hF, fK_7 hF, fN_7 hF, fK_8 hF, fN_8 hF, fK_9 hF, fN_9 hF, fK_10 hF, fK_11 hF, fN_11 hF, fK_12 hF, fK_13 hF, fN_13 hF, fK_14 hF, fN_14 hF, fK_15 hF, fN_15 hF, fK_16 hF, fN_16 hF, fP_12_0 hF, fP_12_1 hF, fP_12_2 hF, fP_12_3 hF, fP_12_4 hF, fP_12_5 hF, fP_12_6 hF, fP_12_7 hF, fP_4_0 hF, fP_4_1 hF, fP_4_2 hF, fP_4_3 hF, fP_11_0 hF, fP_7_0 hF, fP_7_1 hF, fP_7_2 hF, hF.cc, hS, e1, a0, a6, i1, i2, k1, k2]
  have t3 : run (d + 3) 98 70 [.ref c, .ref (B k), .int ld, .ref (S (aT μ k))] [] (wr σ (c + 16) (wv μ k (aT μ k)) 5) = run (d + 3) 98 95 [.ref c, .ref (B k), .int ld, .ref (S (aT μ k))] [] (wr σ (c + 16) (wv μ k (aT μ k)) 7) := by
    obtain ⟨hF, hz, hRX, hRS, hRL, hRB, hRP, hRG, hRF, hRT, hRK, hRR, hRN⟩ := hi 5
    obtain ⟨a0, a1, a2, a3, a4, a5, a6, a7, a8, a9, a10, a11, a12, a13, a14, a15⟩ := (hRB k hk).1
    have e1 := c_weight (d + 2) hRB hRP hk
    have i1 : ix (5 : Int32) 8 = true := x16 5 (by omega)
    have i2 : ix (6 : Int32) 8 = true := x16 6 (by omega)
    have k1 : (5 : Int32).toNatClampNeg = 5 := by decide
    have k2 : (6 : Int32).toNatClampNeg = 6 := by decide
    show _ = run (d + 3) 98 95 [.ref c, .ref (B k), .int ld, .ref (S (aT μ k))] [] (sI (sI (wr σ (c + 16) (wv μ k (aT μ k)) 5) 110 (c + 16) 5 (wv μ k (aT μ k) 5)) 110 (c + 16) 6 (wv μ k (aT μ k) 6))
    rw [wv_5, wv_6]
    generalize wr σ (c + 16) (wv μ k (aT μ k)) 5 = ρ at *
    simp [psh_some, psh_none, -Int32.not_lt, -Int32.not_le, va_rf, vd, vr, isR_r, isR_n, isA_r, isI_i, isI_r, isR_i, ar, akI, akZ, akB, akO, mI_sI, mP_sI, mK_sI, mN_sI, mX_sI, mP_sP, mI_sP, mK_sP, mN_sP, mX_sP, e_C_firstBroken_70, e_C_firstBroken_79, e_C_firstBroken_80, fK_1 hF, fK_2 hF, fK_3 hF, fK_4 hF, fK_5 hF, fK_6 hF, fN_6 hF, fK_7 hF, fN_7 hF, fK_8 hF, fN_8 hF, fK_9 hF, fN_9 hF, fK_10 hF, fK_11 hF, fN_11 hF, fK_12 hF, fK_13 hF, fN_13 hF, fK_14 hF, fN_14 hF, fK_15 hF, fN_15 hF, fK_16 hF, fN_16 hF, fP_12_0 hF, fP_12_1 hF, fP_12_2 hF, fP_12_3 hF, fP_12_4 hF, fP_12_5 hF, fP_12_6 hF, fP_12_7 hF, fP_4_0 hF, fP_4_1 hF, fP_4_2 hF, fP_4_3 hF, fP_11_0 hF, fP_7_0 hF, fP_7_1 hF, fP_7_2 hF, hF.cc, hRN.1, e1, a0, i1, i2, k1, k2]
  have t4 : run (d + 3) 98 95 [.ref c, .ref (B k), .int ld, .ref (S (aT μ k))] [] (wr σ (c + 16) (wv μ k (aT μ k)) 7) = run (d + 3) 98 109 [.ref c, .ref (B k), .int ld, .ref (S (aT μ k))] [] (wr σ (c + 16) (wv μ k (aT μ k)) 8) := by
    obtain ⟨hF, hz, hRX, hRS, hRL, hRB, hRP, hRG, hRF, hRT, hRK, hRR, hRN⟩ := hi 7
    obtain ⟨a0, a1, a2, a3, a4, a5, a6, a7, a8, a9, a10, a11, a12, a13, a14, a15⟩ := (hRB k hk).1
    have i1 : ix (7 : Int32) 8 = true := x16 7 (by omega)
    have k1 : (7 : Int32).toNatClampNeg = 7 := by decide
    have hg := Cg_count (hRP k hk).1 hC
    show _ = run (d + 3) 98 109 [.ref c, .ref (B k), .int ld, .ref (S (aT μ k))] [] (sI (wr σ (c + 16) (wv μ k (aT μ k)) 7) 110 (c + 16) 7 (wv μ k (aT μ k) 7))
    rw [wv_7]
    generalize wr σ (c + 16) (wv μ k (aT μ k)) 7 = ρ at *
    simp [psh_some, psh_none, -Int32.not_lt, -Int32.not_le, va_rf, vd, vr, isR_r, isR_n, isA_r, isI_i, isI_r, isR_i, ar, akI, akZ, akB, akO, mI_sI, mP_sI, mK_sI, mN_sI, mX_sI, mP_sP, mI_sP, mK_sP, mN_sP, mX_sP, e_C_firstBroken_95, e_C_firstBroken_108, fK_1 hF, fK_2 hF, fK_3 hF, fK_4 hF, fK_5 hF, fK_6 hF, fN_6 hF, fK_7 hF, fN_7 hF, fK_8 hF, fN_8 hF, fK_9 hF, fN_9 hF, fK_10 hF, fK_11 hF, fN_11 hF, fK_12 hF, fK_13 hF, fN_13 hF, fK_14 hF, fN_14 hF, fK_15 hF, fN_15 hF, fK_16 hF, fN_16 hF, fP_12_0 hF, fP_12_1 hF, fP_12_2 hF, fP_12_3 hF, fP_12_4 hF, fP_12_5 hF, fP_12_6 hF, fP_12_7 hF, fP_4_0 hF, fP_4_1 hF, fP_4_2 hF, fP_4_3 hF, fP_11_0 hF, fP_7_0 hF, fP_7_1 hF, fP_7_2 hF, hF.cc, c_bitCount, hg, a0, i1, k1]
  have t5 : run (d + 3) 98 109 [.ref c, .ref (B k), .int ld, .ref (S (aT μ k))] [] (wr σ (c + 16) (wv μ k (aT μ k)) 8) = some (some (.int (fns μ k (aT μ k) ld)), wr σ (c + 16) (wv μ k (aT μ k)) 8) := by
    have hat := wr_at (σ := σ) (c + 16) (wv μ k (aT μ k)) 8
    obtain ⟨hF, hz, hRX, hRS, hRL, hRB, hRP, hRG, hRF, hRT, hRK, hRR, hRN⟩ := hi 8
    have hS := hRS _ hs
    have e1 := c_rfb d (hF.ru w) hRR.2.2 hW.2.2.2.2.2.2.2.1 hC (show aT μ k < 12 by omega) (fK_16 hF) (fN_16 hF) hat ld
    have e2 := (hF.ru w).1
    generalize wr σ (c + 16) (wv μ k (aT μ k)) 8 = ρ at *
    simp [psh_some, psh_none, -Int32.not_lt, -Int32.not_le, va_rf, vd, vr, isR_r, isR_n, isA_r, isI_i, isI_r, isR_i, ar, akI, akZ, akB, akO, mI_sI, mP_sI, mK_sI, mN_sI, mX_sI, mP_sP, mI_sP, mK_sP, mN_sP, mX_sP, e_C_firstBroken_109, e_C_firstBroken_125, fK_1 hF, fK_2 hF, fK_3 hF, fK_4 hF, fK_5 hF, fK_6 hF, fN_6 hF, fK_7 hF, fN_7 hF, fK_8 hF, fN_8 hF, fK_9 hF, fN_9 hF, fK_10 hF, fK_11 hF, fN_11 hF, fK_12 hF, fK_13 hF, fN_13 hF, fK_14 hF, fN_14 hF, fK_15 hF, fN_15 hF, fK_16 hF, fN_16 hF, fP_12_0 hF, fP_12_1 hF, fP_12_2 hF, fP_12_3 hF, fP_12_4 hF, fP_12_5 hF, fP_12_6 hF, fP_12_7 hF, fP_4_0 hF, fP_4_1 hF, fP_4_2 hF, fP_4_3 hF, fP_11_0 hF, fP_7_0 hF, fP_7_1 hF, fP_7_2 hF, hF.cc, hS, hRR.1, e2, e1]
  rw [t0, t1, t2, t3, t4, t5]
  rfl
theorem ok_barred (x y : Int32) (hy : y = 0 ∨ y = 1) : Ok 72 157 [.int x, .int y] := by
  refine Ok_of fun d σ c a E S L B G H Q Z w μ hR hLM hX hW => ?_
  have hC := hW.1
  obtain ⟨hF, hz, hRX, hRS, hRL, hRB, hRP, hRG, hRF, hRT, hRK, hRR, hRN⟩ := id hR
  have hb := hC.b
  have hs12 := hC.s.2
  rcases nIx x (n := nB μ) (by omega) with ⟨k, hk, rfl⟩ | hno
  · have i4 : ix (nI k) 6 = true := ix_of (by omega) (by omega); have ck := cl6 (show k < 6 by omega); have j1 := is_ix hk (show nB μ ≤ 1000 by omega); obtain ⟨a0, a1, a2, a3, a4, a5, a6, a7, a8, a9, a10, a11, a12, a13, a14, a15⟩ := (hRB k hk).1; have hh := (hRB k hk).2; obtain ⟨u0, u1, u2, u3, u4, u5, u6, u7⟩ := (hRB k hk).2; obtain ⟨b0, b1, b2, b3, b4, b5, b6, b7, b8, b9, b10, b11, b12⟩ := hW.2.2.2.1.1 k hk; have hS := hRS _ b0.2; have i5 : ix (nI (aT μ k)) 12 = true := ix_of (by omega) (by omega); have ca := cl12 (show aT μ k < 12 by omega)
    have em := c_moored (d + 15) hF hRX hC hRB hk
    by_cases h0 : μ.2 24 k = 0
    · rw [if_pos h0] at em
      have ef := c_fb (d + 16) hR hX hW hk y
      refine Res.mk [110] (σ1 := wW σ c μ k) (μ' := μ) (v := some (.int (fns μ k (aT μ k) y))) (E := E) (S := S) (L := L) (B := B) (G := G) (H := H) (Q := Q) (Z := Z) (w := w) ?_ (fun τ μ0 hμ hL => ?_) (RC_110 hR hX (wr_Sm _ _ 8)) (wr_Sm _ _ 8) (by decide) (wr_Kx hX _ _ 8) hW (by rw [wW, wr_X]; omega) (by rw [wW, wr_S]; omega)
      · simp [psh_some, psh_none, -Int32.not_lt, -Int32.not_le, va_rf, vd, vr, isR_r, isR_n, isA_r, isI_i, isI_r, isR_i, ar, akI, akZ, akB, akO, mI_sI, mP_sI, mK_sI, mN_sI, mX_sI, mP_sP, mI_sP, mK_sP, mN_sP, mX_sP, rc_C_barred, e_C_barred_0, e_C_barred_5, e_C_barred_10, e_C_barred_15, e_C_barred_21, fK_1 hF, fK_2 hF, fK_3 hF, fK_4 hF, fK_5 hF, fK_6 hF, fN_6 hF, fK_7 hF, fN_7 hF, fK_8 hF, fN_8 hF, fK_9 hF, fN_9 hF, fK_10 hF, fK_11 hF, fN_11 hF, fK_12 hF, fK_13 hF, fN_13 hF, fK_14 hF, fN_14 hF, fK_15 hF, fN_15 hF, fK_16 hF, fN_16 hF, fP_12_0 hF, fP_12_1 hF, fP_12_2 hF, fP_12_3 hF, fP_12_4 hF, fP_12_5 hF, fP_12_6 hF, fP_12_7 hF, fP_4_0 hF, fP_4_1 hF, fP_4_2 hF, fP_4_3 hF, fP_11_0 hF, fP_7_0 hF, fP_7_1 hF, fP_7_2 hF, hF.cc, em, a0, ef]
      · simp [psh_some, psh_none, -Int32.not_lt, -Int32.not_le, rc_M_barred, q_M_barred_0, q_M_barred_5, q_M_barred_10, q_M_barred_13, q_M_barred_25, q_M_barred_28, q_M_barred_30, hL, hμ, m_isMoored (d + 18) hL hb.1 hb.2 hk, bZ_t h0, i4, ck, b0.1, m_fns (d + 15) hL hC hW.2.2.2.2.2.2.2.1.1 (show k < 6 by omega) (show aT μ k < 12 by omega)]
    · rw [if_neg h0] at em
      refine Res.same hR hX hW (v := some (.int (-2))) ?_ (fun τ μ0 hμ hL => ?_)
      · simp [psh_some, psh_none, -Int32.not_lt, -Int32.not_le, va_rf, vd, vr, isR_r, isR_n, isA_r, isI_i, isI_r, isR_i, ar, akI, akZ, akB, akO, mI_sI, mP_sI, mK_sI, mN_sI, mX_sI, mP_sP, mI_sP, mK_sP, mN_sP, mX_sP, rc_C_barred, e_C_barred_0, e_C_barred_5, e_C_barred_10, e_C_barred_15, e_C_barred_21, fK_1 hF, fK_2 hF, fK_3 hF, fK_4 hF, fK_5 hF, fK_6 hF, fN_6 hF, fK_7 hF, fN_7 hF, fK_8 hF, fN_8 hF, fK_9 hF, fN_9 hF, fK_10 hF, fK_11 hF, fN_11 hF, fK_12 hF, fK_13 hF, fN_13 hF, fK_14 hF, fN_14 hF, fK_15 hF, fN_15 hF, fK_16 hF, fN_16 hF, fP_12_0 hF, fP_12_1 hF, fP_12_2 hF, fP_12_3 hF, fP_12_4 hF, fP_12_5 hF, fP_12_6 hF, fP_12_7 hF, fP_4_0 hF, fP_4_1 hF, fP_4_2 hF, fP_4_3 hF, fP_11_0 hF, fP_7_0 hF, fP_7_1 hF, fP_7_2 hF, hF.cc, em]
      · simp [psh_some, psh_none, -Int32.not_lt, -Int32.not_le, rc_M_barred, q_M_barred_0, q_M_barred_5, q_M_barred_10, q_M_barred_13, q_M_barred_25, q_M_barred_28, q_M_barred_30, hL, hμ, m_isMoored (d + 18) hL hb.1 hb.2 hk, bZ_f h0]
  · refine Res.same hR hX hW (v := some (.int (-2))) ?_ (fun τ μ0 hμ hL => ?_)
    · simp [psh_some, psh_none, -Int32.not_lt, -Int32.not_le, va_rf, vd, vr, isR_r, isR_n, isA_r, isI_i, isI_r, isR_i, ar, akI, akZ, akB, akO, mI_sI, mP_sI, mK_sI, mN_sI, mX_sI, mP_sP, mI_sP, mK_sP, mN_sP, mX_sP, rc_C_barred, e_C_barred_0, e_C_barred_5, e_C_barred_10, e_C_barred_15, e_C_barred_21, fK_1 hF, fK_2 hF, fK_3 hF, fK_4 hF, fK_5 hF, fK_6 hF, fN_6 hF, fK_7 hF, fN_7 hF, fK_8 hF, fN_8 hF, fK_9 hF, fN_9 hF, fK_10 hF, fK_11 hF, fN_11 hF, fK_12 hF, fK_13 hF, fN_13 hF, fK_14 hF, fN_14 hF, fK_15 hF, fN_15 hF, fK_16 hF, fN_16 hF, fP_12_0 hF, fP_12_1 hF, fP_12_2 hF, fP_12_3 hF, fP_12_4 hF, fP_12_5 hF, fP_12_6 hF, fP_12_7 hF, fP_4_0 hF, fP_4_1 hF, fP_4_2 hF, fP_4_3 hF, fP_11_0 hF, fP_7_0 hF, fP_7_1 hF, fP_7_2 hF, hF.cc, c_moored_no (d + 15) hF hRX hC hno]
    · simp [psh_some, psh_none, -Int32.not_lt, -Int32.not_le, rc_M_barred, q_M_barred_0, q_M_barred_5, q_M_barred_10, q_M_barred_13, q_M_barred_25, q_M_barred_28, q_M_barred_30, hL, hμ, m_isMoored_no (d + 18) hL hb.1 hno]
end O46
