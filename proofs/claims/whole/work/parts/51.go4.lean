/-! ===== go, whole ===== -/
section O51
variable {σ σ' : Mm} {c : Nat} {E S L B G H Q : Nat → Nat} {Z : Nat → List Nat} {w : Bool} {μ μ' : Ms} (d d' : Nat)
theorem rsl_tick {n r : Nat} (hn : n + 1 ≤ 143999) (hr : r ≤ 480) {e : Int32} (h : nI r = rsl (nI n) e) : rsl (nI n + 1) e = if 0 < r then nI (r - 1) else 0 := by
  unfold rsl at h ⊢
  by_cases q : nI n < e
  · rw [if_pos q] at h
    have he : e = nI (n + r) := by rw [← nI_add]; grind
    subst he
    rw [nI_ltI (by omega) (by omega)] at q
    rw [if_pos (show 0 < r by omega), nI_1]
    by_cases z : n + 1 < n + r
    · rw [if_pos (nI_lt z (by omega)), pk_sub (by omega)]
      congr 1
      omega
    · rw [if_neg (nI_nlt (by omega) (by omega))]
      have : r = 1 := by omega
      subst this
      rfl
  · rw [if_neg q] at h
    have hr0 : r = 0 := by
      rw [show (0 : Int32) = nI 0 from rfl, nI_eq (by omega) (by omega)] at h
      exact h
    rw [if_neg (show ¬ 0 < r by omega), if_neg (fun z => q (Int32.lt_trans (by rw [nI_1]; exact nI_lt (by omega) (by omega)) z))]
def rdx (μ : Ms) (j : Nat) : Int32 := if j < nB μ then rdd μ j else μ.2 30 j
theorem nW_tick (hC : Cn μ) (hw : nW μ + 1 ≤ 143999) : nW (fF μ 1 (μ.1 1 + 1)) = nW μ + 1 := by
  have h : (fF μ 1 (μ.1 1 + 1)).1 1 = nI (nW μ + 1) := by rw [fF_1, if_pos rfl, hC.w.1, nI_1]
  show ((fF μ 1 (μ.1 1 + 1)).1 1).toNatClampNeg = _
  rw [h, nI_clamp (by omega)]
theorem Wf_tick (hW : Wf μ) (hw : nW μ + 1 ≤ 143999) : Wf (fF μ 1 (μ.1 1 + 1)) := by
  have hC := hW.1
  have hn := nW_tick hC hw
  refine ⟨⟨hC.1, hC.2.1, hC.2.2.1, hC.2.2.2.1, hC.2.2.2.2.1, hC.2.2.2.2.2.1, hC.2.2.2.2.2.2.1, hC.2.2.2.2.2.2.2.1, ?_⟩, hW.2.1, hW.2.2.1, hW.2.2.2.1, hW.2.2.2.2.1, hW.2.2.2.2.2.1, hW.2.2.2.2.2.2.1, hW.2.2.2.2.2.2.2.1, hW.2.2.2.2.2.2.2.2.1, fun k hk => ?_⟩
  · rw [hn, fF_1, if_pos rfl, hC.w.1, nI_1]
    exact ⟨rfl, by omega⟩
  · obtain ⟨e, e1, e2⟩ := hW.2.2.2.2.2.2.2.2.2 k hk
    exact ⟨e, by omega, e2⟩
theorem RC_tick (hR : RC σ c E S L B G H Q Z w μ) (hX : Kx σ) (hW : Wf μ) (hw : nW μ + 1 ≤ 143999) : RC (sI σ 12 c 10 (μ.1 1 + 1)) c E S L B G H Q Z w (ovr (fF μ 1 (μ.1 1 + 1)) (rdx (fF μ 1 (μ.1 1 + 1)))) ∧ Wf (ovr (fF μ 1 (μ.1 1 + 1)) (rdx (fF μ 1 (μ.1 1 + 1)))) := by
  obtain ⟨hF, hz, hRX, hRS, hRL, hRB, hRP, hRG, hRF, hRT, hRK, hRR, hRN⟩ := id hR
  have hC := hW.1
  have hWt := Wf_tick hW hw
  have hs : Sm (tk [12]) σ (sI σ 12 c 10 (μ.1 1 + 1)) := SmsI (Sm.rfl' σ) rfl _ _ _
  have hrd : ∀ k, k < nB μ → ∃ r, r ≤ 480 ∧ μ.2 30 k = nI r ∧ (0 < r → μ.2 24 k = 0) ∧ rdx (fF μ 1 (μ.1 1 + 1)) k = if 0 < r then nI (r - 1) else 0 := by
    intro k hk
    obtain ⟨r, r1, r2, r3⟩ := (hW.2.2.2.1.1 k hk).2.2.2.2.2.2.2.2.2.1
    refine ⟨r, r1, r2, r3, ?_⟩
    unfold rdx rdd
    rw [if_pos (show k < nB (fF μ 1 (μ.1 1 + 1)) from hk)]
    show (if μ.2 24 k = 0 ∧ ¬ μ.2 30 k ≤ 0 then μ.2 30 k - 1 else μ.2 30 k) = _
    rw [r2]
    by_cases z : 0 < r
    · rw [if_pos ⟨r3 z, nI_nle z (by omega)⟩, if_pos z, show (1 : Int32) = nI 1 from rfl, pk_sub (by omega)]
    · have : r = 0 := by omega
      subst this
      rw [if_neg z, if_neg (fun y => y.2 (by decide))]
      rfl
  have hRB' : RB (sI σ 12 c 10 (μ.1 1 + 1)) S B H (ovr (fF μ 1 (μ.1 1 + 1)) (rdx (fF μ 1 (μ.1 1 + 1)))) := by
    intro k hk
    have hk' : k < nB μ := hk
    obtain ⟨⟨a0, a1, a2, a3, a4, a5, a6, a7, a8, a9, a10, a11, a12, a13, a14, a15⟩, hh⟩ := hRB k hk'
    obtain ⟨r, r1, r2, r3, r4⟩ := hrd k hk'
    refine ⟨⟨a0, a1, a2, a3, a4, a5, a6, a7, a8, a9, a10, a11, a12, a13, a14, ?_⟩, hh⟩
    show rdx (fF μ 1 (μ.1 1 + 1)) k = rsl (μ.1 1 + 1) (mI σ 3 (B k) 10)
    rw [r4, hC.w.1]
    rw [hC.w.1, r2] at a15
    exact (rsl_tick hw r1 a15).symm
  refine ⟨⟨hF, hz.fr hs rfl, hRX.fr hz hX hs rfl rfl rfl rfl rfl rfl rfl, hRS.fr hX hs rfl rfl rfl rfl rfl rfl rfl rfl rfl, hRL.fr hX hs rfl rfl rfl rfl rfl, hRB', hRP.fr (fun k hk => (hRB k hk).1.1) hX hs rfl rfl rfl (Ar_of (by repeat' constructor)), hRG.fr hX hs rfl rfl rfl (Ar_of (by repeat' constructor)), hRF.fr hF hX hs rfl rfl rfl rfl rfl rfl (Ar_of (by repeat' constructor)), hRT.fr hF hX hs rfl rfl rfl rfl, hRK.fr hF hX hs rfl rfl rfl rfl rfl (Ar_of (by repeat' constructor)), ⟨hRR.1, hRR.2.1, hRR.2.2.fr (hF.ru w) hX hs (by rintro q (rfl | rfl | rfl | rfl | rfl | rfl | rfl | rfl) <;> rfl) rfl (Ar_of (by repeat' constructor))⟩, ?_⟩, ?_⟩
  · refine ⟨by rw [mI_sI, if_pos ⟨rfl, rfl, rfl⟩]; rfl, ?_, ?_, ?_⟩
    · rw [mI_sI, if_neg (by omega)]; exact hRN.2.1
    · rw [mI_sI, if_neg (by omega)]; exact hRN.2.2.1
    · rw [mI_sI, if_neg (by omega)]; exact hRN.2.2.2
  · obtain ⟨w1, w2, w3, w4, w5, w6, w7, w8, w9⟩ := hWt
    refine ⟨w1, w2, w3, ⟨fun k hk => ?_, w4.2⟩, w5, w6, w7, w8, w9⟩
    have hk' : k < nB μ := hk
    obtain ⟨b0, b1, b2, b3, b4, b5, b6, b7, b8, b9, b10, b11, b12⟩ := w4.1 k hk'
    obtain ⟨r, r1, r2, r3, r4⟩ := hrd k hk'
    refine ⟨b0, b1, b2, b3, b4, b5, b6, b7, b8, ⟨r - 1, by omega, ?_, fun z => r3 (by omega)⟩, b10, b11, b12⟩
    show rdx (fF μ 1 (μ.1 1 + 1)) k = nI (r - 1)
    rw [r4]
    by_cases z : 0 < r
    · rw [if_pos z]
    · rw [if_neg z, show r - 1 = 0 by omega]
      rfl
theorem go_lp {m : Nat} (hm : m ≤ 1440) : ∀ (y i : Nat) (σ : Mm) (μ : Ms) (u3 : Value), i + y = m → nW μ + y ≤ 143999 → RC σ c E S L B G H Q Z w μ → Kx σ → Wf μ → ∃ σ' μ', run (d + 6) 77 26 [.ref c, .int (nI m), .int (nI i), u3] [] σ = some (some (.int (μ'.1 1)), σ') ∧ Spq [2, 3, 10, 12, 20, 110] σ c E S L B G H Q Z w σ' μ' ∧ Wf μ' ∧ ∀ (τ : Mm) (a : Nat) (u : Value), LM τ a → run (d' + 7) 168 32 [.ref a, .int (nI m), .int (nI i), u] [] (put τ a μ) = some (some (.int (μ'.1 1)), put τ a μ') := by
  intro y
  induction y with
  | zero =>
    intro i σ μ u3 hi hw hR hX hW
    have : i = m := by omega
    subst this
    have hF := hR.1
    have hRN := hR.2.2.2.2.2.2.2.2.2.2.2.2
    refine ⟨σ, μ, ?_, ⟨hR, Sm.rfl' σ, hX, rfl, rfl⟩, hW, fun τ a u hL => ?_⟩
    · simp [psh_some, psh_none, -Int32.not_lt, -Int32.not_le, e_C_go_26, e_C_go_85, hF.cc, hRN.1]
    · simp [psh_some, psh_none, -Int32.not_lt, -Int32.not_le, q_M_go_32, q_M_go_137, hL]
  | succ y ih =>
    intro i σ μ u3 hi hw hR hX hW
    have h2 : ¬ nI m ≤ nI i := nI_ge (by omega) (by omega)
    have hC := hW.1
    have hF := hR.1
    have hRN := hR.2.2.2.2.2.2.2.2.2.2.2.2
    have hnt := nW_tick hC (show nW μ + 1 ≤ 143999 by omega)
    obtain ⟨t1, t2⟩ := RC_tick hR hX hW (show nW μ + 1 ≤ 143999 by omega)
    have hWt := Wf_tick hW (show nW μ + 1 ≤ 143999 by omega)
    have he : ∀ j, 0 ≤ j → j < nB μ → ∃ e, e + 1 ≤ nW μ + 1 ∧ μ.2 33 j = nI e := fun j _ hj => by
      obtain ⟨e, e1, e2⟩ := hW.2.2.2.2.2.2.2.2.2 j hj
      exact ⟨e, by omega, e2⟩
    have hov : ∀ j, 0 ≤ j → j < nB (ovr (fF μ 1 (μ.1 1 + 1)) (rdx (fF μ 1 (μ.1 1 + 1)))) → ∃ e, e + 1 ≤ nW (ovr (fF μ 1 (μ.1 1 + 1)) (rdx (fF μ 1 (μ.1 1 + 1)))) ∧ (ovr (fF μ 1 (μ.1 1 + 1)) (rdx (fF μ 1 (μ.1 1 + 1)))).2 33 j = nI e := fun j h1 h2 => by
      show ∃ e, e + 1 ≤ nW (fF μ 1 (μ.1 1 + 1)) ∧ μ.2 33 j = nI e
      rw [hnt]
      exact he j h1 h2
    have hov2 : ∀ j, 0 ≤ j → j < nB (fF μ 1 (μ.1 1 + 1)) → ∃ e, e + 1 ≤ nW (fF μ 1 (μ.1 1 + 1)) ∧ (fF μ 1 (μ.1 1 + 1)).2 33 j = nI e := fun j h1 h2 => by
      rw [hnt]
      exact he j h1 h2
    obtain ⟨σ2, v3, g1, g2, g3⟩ := go_in d (nI m) (nI i) (nB μ) 0 _ _ (by rw [Nat.zero_add]; rfl) t1 (KxsI hX _ _ _ _) t2 hov
    have hpm : pmF (ovr (fF μ 1 (μ.1 1 + 1)) (rdx (fF μ 1 (μ.1 1 + 1)))) 0 (nB μ) = mif (fF μ 1 (μ.1 1 + 1)) 0 (nB μ) := by
      refine pmF_mif (nB μ) 0 _ _ (fun j hj => absurd hj (by omega)) (fun j hj => ?_) (fun j h1 h2 => ?_)
      · unfold rdx
        rw [if_neg (show ¬ j < nB (fF μ 1 (μ.1 1 + 1)) from by show ¬ j < nB μ; omega)]
      · unfold rdx
        rw [if_pos (show j < nB (fF μ 1 (μ.1 1 + 1)) from by show j < nB μ; omega)]
    rw [hpm] at g2 g3
    have hnm : ∀ (n k : Nat) (ν : Ms), nW (mif ν k n) = nW ν := by
      intro n
      induction n with
      | zero => intro k ν; rfl
      | succ n ih2 =>
        intro k ν
        rw [mif, ih2, pmn_nW]
        unfold nW
        rw [dcr_1]
    obtain ⟨σ', μ', p1, p2, p3, p4⟩ := ih (i + 1) σ2 _ v3 (by omega) (by rw [hnm, hnt]; omega) g2.1 g2.2.2.1 g3
    have hs1 : Spq [2, 3, 10, 12, 20, 110] σ c E S L B G H Q Z w (sI σ 12 c 10 (μ.1 1 + 1)) (ovr (fF μ 1 (μ.1 1 + 1)) (rdx (fF μ 1 (μ.1 1 + 1)))) := ⟨t1, SmsI (Sm.rfl' σ) rfl _ _ _, KxsI hX _ _ _ _, rfl, rfl⟩
    refine ⟨σ', μ', ?_, (hs1.trans g2).trans p2, p3, fun τ a u hL => ?_⟩
    · rw [nI_succ] at p1
      rw [← p1, ← g1]
      simp [psh_some, psh_none, -Int32.not_lt, -Int32.not_le, e_C_go_26, e_C_go_31, e_C_go_41, hF.cc, hRN.1, h2, nI_0]
    · obtain ⟨v4, q1⟩ := go_inM d' hL (nI m) (nI i) (nB μ) 0 (fF μ 1 (μ.1 1 + 1)) (by rw [Nat.zero_add]; rfl) hWt hov2
      have q2 := p4 τ a v4 hL
      rw [nI_succ, ← q1] at q2
      rw [← q2]
      simp [psh_some, psh_none, -Int32.not_lt, -Int32.not_le, q_M_go_32, q_M_go_37, q_M_go_47, hL, h2, nI_0]
theorem ok_go (n : Int32) : Ok 77 168 [.int n] := by
  refine Ok_of fun d σ c a E S L B G H Q Z w μ hR hLM hX hW => ?_
  have hC := hW.1
  obtain ⟨hF, hz, hRX, hRS, hRL, hRB, hRP, hRG, hRF, hRT, hRK, hRR, hRN⟩ := id hR
  have hw := hC.w
  by_cases h1 : ¬ n < 1 ∧ ¬ 1440 < n
  · obtain ⟨m, hm0, hm, rfl⟩ : ∃ m, 1 ≤ m ∧ m ≤ 1440 ∧ n = nI m := by
      obtain ⟨j, hj, rfl⟩ := nI_of (x := n) (fun z => h1.1 (Int32.lt_trans z (by decide)))
      have q1 := h1.1
      have q2 := h1.2
      rw [show (1 : Int32) = nI 1 from rfl, nI_ltI hj (by omega)] at q1
      rw [show (1440 : Int32) = nI 1440 from rfl, nI_ltI (by omega) hj] at q2
      exact ⟨j, by omega, by omega, rfl⟩
    have e1 : (143999 : Int32) - nI (nW μ) = nI (143999 - nW μ) := by rw [show (143999 : Int32) = nI 143999 from rfl, pk_sub hw.2]
    by_cases h2 : nW μ + m ≤ 143999
    · obtain ⟨σ', μ', p1, p2, p3, p4⟩ := go_lp (d + 14) (d + 13) hm m 0 σ μ uu (by omega) h2 hR hX hW
      have z1 : nI m ≤ nI (143999 - nW μ) := nI_le (by omega) (by omega)
      have z2 : nI (nW μ + m) ≤ 143999 := nI_le (b := 143999) h2 (by omega)
      refine Res.mk [2, 3, 10, 12, 20, 110] (σ1 := σ') (μ' := μ') (v := some (.int (μ'.1 1))) (E := E) (S := S) (L := L) (B := B) (G := G) (H := H) (Q := Q) (Z := Z) (w := w) ?_ (fun τ μ0 hμ hL => ?_) p2.1 p2.2.1 (by decide) p2.2.2.1 p3 (by have := p2.2.2.2.1; omega) (by have := p2.2.2.2.2; omega)
      · rw [← p1]
        simp [psh_some, psh_none, -Int32.not_lt, -Int32.not_le, rc_C_go, e_C_go_0, e_C_go_8, e_C_go_11, e_C_go_24, hF.cc, c_within, bZ_t h1, hRN.1, hw.1, e1, z1, nI_0]
      · rw [← p4 τ a uu hL]
        simp [psh_some, psh_none, -Int32.not_lt, -Int32.not_le, rc_M_go, q_M_go_0, q_M_go_5, q_M_go_13, q_M_go_16, q_M_go_30, hL, hμ, m_in, bZ_t h1, hw.1, nI_add, z2, nI_0]
    · have z1 : ¬ nI m ≤ nI (143999 - nW μ) := nI_ge (by omega) (by omega)
      have z2 : ¬ nI (nW μ + m) ≤ 143999 := nI_ge (a := 143999) (by omega) (by omega)
      refine Res.same hR hX hW (v := some (.int (-1))) ?_ (fun τ μ0 hμ hL => ?_)
      · simp [psh_some, psh_none, -Int32.not_lt, -Int32.not_le, rc_C_go, e_C_go_0, e_C_go_8, e_C_go_11, e_C_go_22, hF.cc, c_within, bZ_t h1, hRN.1, hw.1, e1, z1]
      · simp [psh_some, psh_none, -Int32.not_lt, -Int32.not_le, rc_M_go, q_M_go_0, q_M_go_5, q_M_go_13, q_M_go_16, q_M_go_28, hL, hμ, m_in, bZ_t h1, hw.1, nI_add, z2]
  · refine Res.same hR hX hW (v := some (.int (-1))) ?_ (fun τ μ0 hμ hL => ?_)
    · simp [psh_some, psh_none, -Int32.not_lt, -Int32.not_le, rc_C_go, e_C_go_0, e_C_go_8, e_C_go_22, c_within, bZ_f h1]
    · simp [psh_some, psh_none, -Int32.not_lt, -Int32.not_le, rc_M_go, q_M_go_0, q_M_go_5, q_M_go_13, q_M_go_28, hL, hμ, m_in, bZ_f h1]
end O51
