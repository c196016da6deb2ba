/-! ===== A FACT IS TOLD ===== -/
section O63
variable {σ σ' : Mm} {c a : Nat} {E S L B G H Q : Nat → Nat} {Z : Nat → List Nat} {w : Bool} {μ μ' : Ms} (d : Nat)
theorem lkd_congr {fo fo' : Nat → Int32} : ∀ {r : List Nat} {h : Int32}, lkd fo h r → (∀ f ∈ r, fo' f = fo f) → lkd fo' h r := by
  intro r
  induction r with
  | nil => intro h hl _; exact hl
  | cons f r ih =>
    intro h hl he
    refine ⟨hl.1, ?_⟩
    rw [he f List.mem_cons_self]
    exact ih hl.2 (fun g hg => he g (List.mem_cons_of_mem _ hg))
theorem lkd_ins {fo fo' : Nat → Int32} {b n : Nat} {r : List Nat} (hb : fo' b = nI n) (hn : fo' n = fo b) : ∀ {p : List Nat} {h : Int32}, lkd fo h (p ++ b :: r) → (∀ f, f ∈ p ++ b :: r → f ≠ b → fo' f = fo f) → b ∉ p → b ∉ r → lkd fo' h (p ++ b :: n :: r) := by
  intro p
  induction p with
  | nil =>
    intro h hl he _ hbr
    refine ⟨hl.1, hb, ?_⟩
    rw [hn]
    exact lkd_congr hl.2 (fun g hg => he g (List.mem_cons_of_mem _ hg) (fun z => hbr (z ▸ hg)))
  | cons f p ih =>
    intro h hl he hbp hbr
    refine ⟨hl.1, ?_⟩
    have : fo' f = fo f := he f List.mem_cons_self (fun z => hbp (z ▸ List.mem_cons_self))
    rw [this]
    exact ih hl.2 (fun g hg => he g (List.mem_cons_of_mem _ hg)) (fun z => hbp (List.mem_cons_of_mem _ z)) hbr
def bfr (p : List Nat) : Int32 := match p.getLast? with
  | none => -1
  | some f => nI f
theorem tell_lp (hF : FL σ c) (hC : Cn μ) (hR : RF σ c Z μ) {s : Nat} (hs : s < 42) (t v : Int32) : ∀ (r p : List Nat) (h : Int32), Z s = p ++ r → lkd (mI σ 35 (c + 8)) h r → (∀ f ∈ p, t < μ.2 14 f) → ∃ p' r' h', Z s = p' ++ r' ∧ lkd (mI σ 35 (c + 8)) h' r' ∧ (∀ f ∈ p', t < μ.2 14 f) ∧ (∀ f q, r' = f :: q → μ.2 14 f ≤ t) ∧ run d 10 36 [.ref (c + 5), .int (nI s), .int t, .int v, .int (bfr p), .int h, .int (nI p.length)] [] σ = run d 10 89 [.ref (c + 5), .int (nI s), .int t, .int v, .int (bfr p'), .int h', .int (nI p'.length)] [] σ := by
  have hf := hC.f
  have hlen := Z_len hR hs
  intro r
  induction r with
  | nil =>
    intro p h hZ hl hp
    have hh : h = -1 := hl
    subst hh
    refine ⟨p, [], -1, hZ, rfl, hp, (fun f q y => by cases y), ?_⟩
    have n1 : (-1 : Int32) < 0 := by decide
    by_cases z : nI (nF μ) ≤ nI p.length <;> simp [psh_some, psh_none, -Int32.not_lt, -Int32.not_le, va_rf, vd, vr, isR_r, isR_n, isA_r, isI_i, isI_r, isR_i, ar, akI, akZ, akB, akO, mI_sI, mP_sI, mK_sI, mN_sI, mX_sI, mP_sP, mI_sP, mK_sP, mN_sP, mX_sP, e_Facts_tell_36, e_Facts_tell_45, fK_1 hF, fK_2 hF, fK_3 hF, fK_4 hF, fK_5 hF, fK_6 hF, fN_6 hF, fK_7 hF, fN_7 hF, fK_8 hF, fN_8 hF, fK_9 hF, fN_9 hF, fK_10 hF, fK_11 hF, fN_11 hF, fK_12 hF, fK_13 hF, fN_13 hF, fK_14 hF, fN_14 hF, fK_15 hF, fN_15 hF, fK_16 hF, fN_16 hF, fP_12_0 hF, fP_12_1 hF, fP_12_2 hF, fP_12_3 hF, fP_12_4 hF, fP_12_5 hF, fP_12_6 hF, fP_12_7 hF, fP_4_0 hF, fP_4_1 hF, fP_4_2 hF, fP_4_3 hF, fP_11_0 hF, fP_7_0 hF, fP_7_1 hF, fP_7_2 hF, hF.cc, hR.1, hf.1, z, n1]
  | cons f r ih =>
    intro p h hZ hl hp
    obtain ⟨rfl, hl2⟩ := hl
    have hmem : f ∈ Z s := by rw [hZ]; simp
    have hfl := ((hR.2.2.2.1 s hs f).mp hmem).1
    have hpl : p.length < nF μ := by
      rw [hZ, List.length_append, List.length_cons] at hlen
      omega
    have z1 : ¬ nI (nF μ) ≤ nI p.length := nI_ge hpl (by omega)
    have z2 : ¬ nI f < 0 := nI_pos (by omega)
    have z3 : ¬ nI (nF μ) ≤ nI f := nI_ge hfl (by omega)
    have i1 : ix (nI f) 160 = true := ix_of (by omega) (by omega)
    have cf := cl1000 (show f < 1000 by omega)
    have tm := (hR.2.1 f hfl).1
    by_cases z : μ.2 14 f ≤ t
    · refine ⟨p, f :: r, nI f, hZ, ⟨rfl, hl2⟩, hp, (fun g q y => by cases y; exact z), ?_⟩
      simp [psh_some, psh_none, -Int32.not_lt, -Int32.not_le, va_rf, vd, vr, isR_r, isR_n, isA_r, isI_i, isI_r, isR_i, ar, akI, akZ, akB, akO, mI_sI, mP_sI, mK_sI, mN_sI, mX_sI, mP_sP, mI_sP, mK_sP, mN_sP, mX_sP, e_Facts_tell_36, e_Facts_tell_45, e_Facts_tell_50, e_Facts_tell_59, fK_1 hF, fK_2 hF, fK_3 hF, fK_4 hF, fK_5 hF, fK_6 hF, fN_6 hF, fK_7 hF, fN_7 hF, fK_8 hF, fN_8 hF, fK_9 hF, fN_9 hF, fK_10 hF, fK_11 hF, fN_11 hF, fK_12 hF, fK_13 hF, fN_13 hF, fK_14 hF, fN_14 hF, fK_15 hF, fN_15 hF, fK_16 hF, fN_16 hF, fP_12_0 hF, fP_12_1 hF, fP_12_2 hF, fP_12_3 hF, fP_12_4 hF, fP_12_5 hF, fP_12_6 hF, fP_12_7 hF, fP_4_0 hF, fP_4_1 hF, fP_4_2 hF, fP_4_3 hF, fP_11_0 hF, fP_7_0 hF, fP_7_1 hF, fP_7_2 hF, hF.cc, hR.1, hf.1, z1, z2, z3, i1, cf, tm, z]
    · obtain ⟨p', r', h', q1, q2, q3, q4, q5⟩ := ih (p ++ [f]) (mI σ 35 (c + 8) f) (by rw [hZ]; simp) hl2 (fun g hg => by
        rcases List.mem_append.mp hg with y | y
        · exact hp g y
        · rw [List.mem_singleton.mp y]; simpa using z)
      refine ⟨p', r', h', q1, q2, q3, q4, ?_⟩
      rw [← q5]
      have e1 : bfr (p ++ [f]) = nI f := by unfold bfr; rw [List.getLast?_append]; rfl
      have e2 : nI (p ++ [f]).length = nI p.length + 1 := by rw [List.length_append, List.length_singleton, nI_succ]
      rw [e1, e2]
      simp [psh_some, psh_none, -Int32.not_lt, -Int32.not_le, va_rf, vd, vr, isR_r, isR_n, isA_r, isI_i, isI_r, isR_i, ar, akI, akZ, akB, akO, mI_sI, mP_sI, mK_sI, mN_sI, mX_sI, mP_sP, mI_sP, mK_sP, mN_sP, mX_sP, e_Facts_tell_36, e_Facts_tell_45, e_Facts_tell_50, e_Facts_tell_59, e_Facts_tell_70, fK_1 hF, fK_2 hF, fK_3 hF, fK_4 hF, fK_5 hF, fK_6 hF, fN_6 hF, fK_7 hF, fN_7 hF, fK_8 hF, fN_8 hF, fK_9 hF, fN_9 hF, fK_10 hF, fK_11 hF, fN_11 hF, fK_12 hF, fK_13 hF, fN_13 hF, fK_14 hF, fN_14 hF, fK_15 hF, fN_15 hF, fK_16 hF, fN_16 hF, fP_12_0 hF, fP_12_1 hF, fP_12_2 hF, fP_12_3 hF, fP_12_4 hF, fP_12_5 hF, fP_12_6 hF, fP_12_7 hF, fP_4_0 hF, fP_4_1 hF, fP_4_2 hF, fP_4_3 hF, fP_11_0 hF, fP_7_0 hF, fP_7_1 hF, fP_7_2 hF, hF.cc, hR.1, hf.1, z1, z2, z3, i1, cf, tm, z]
theorem telS_1 {wd o t v : Int32} {g : Nat} (h : g ≠ 11) : (telS μ wd o t v).1 g = μ.1 g := by simp [telS, fF_1, fA_1, h]
theorem telS_f {wd o t v : Int32} {f : Nat} (h : f < 12 ∨ 15 < f) : (telS μ wd o t v).2 f = μ.2 f := by
  unfold telS
  rw [fF_2, fA_2n _ (by omega), fA_2n _ (by omega), fA_2n _ (by omega), fA_2n _ (by omega)]
theorem telS_o {wd o t v : Int32} {k : Nat} (f : Nat) (h : k ≠ nF μ) : (telS μ wd o t v).2 f k = μ.2 f k := by simp [telS, fF_2, fA_2, h]
theorem telS_n (hC : Cn μ) {wd o t v : Int32} (hn : nF μ < 160) : nF (telS μ wd o t v) = nF μ + 1 := by
  have hf := hC.f
  have : (telS μ wd o t v).1 11 = nI (nF μ + 1) := by simp [telS, fF_1]; rw [hf.1, nI_1]
  show ((telS μ wd o t v).1 11).toNatClampNeg = _
  rw [this, nI_clamp (by omega)]
theorem Wf_tel (hW : Wf μ) (hn : nF μ < 160) {wd t v : Int32} {o : Nat} (hv : (wd = 0 ∧ o < 12 ∧ ∃ j, j ≤ 9 ∧ v = nI j) ∨ (wd = 1 ∧ o < 30 ∧ ∃ j, j ≤ 120 ∧ v = nI j - 60)) : Wf (telS μ wd (nI o) t v) := by
  have hC := hW.1
  have hf := hC.f
  have hn' := telS_n (wd := wd) (o := nI o) (t := t) (v := v) hC hn
  refine ⟨⟨hC.1, hC.2.1, ?_, hC.2.2.2⟩, hW.2.1, hW.2.2.1, hW.2.2.2.1, hW.2.2.2.2.1, fun f hf' => ?_, hW.2.2.2.2.2.2⟩
  · rw [hn']
    refine ⟨?_, by omega⟩
    simp [telS, fF_1]; rw [hf.1, nI_1]
  · rw [hn'] at hf'
    unfold ofN
    by_cases y : f = nF μ
    · have e2 : (telS μ wd (nI o) t v).2 12 f = wd := by simp [telS, fF_2, fA_2, y]
      have e3 : (telS μ wd (nI o) t v).2 13 f = nI o := by simp [telS, fF_2, fA_2, y]
      have e5 : (telS μ wd (nI o) t v).2 15 f = v := by simp [telS, fF_2, fA_2, y]
      rw [e2, e3, e5]
      rcases hv with ⟨h1, h2, h3⟩ | ⟨h1, h2, h3⟩
      · rw [cl1000 (show o < 1000 by omega)]
        exact ⟨rfl, Or.inl ⟨h1, h2, h3⟩⟩
      · rw [cl1000 (show o < 1000 by omega)]
        exact ⟨rfl, Or.inr ⟨h1, h2, h3⟩⟩
    · have t1 := hW.2.2.2.2.2.1 f (by omega)
      unfold ofN at t1
      rw [telS_o 12 y, telS_o 13 y, telS_o 15 y]
      exact t1
theorem c_tell (hR : RC σ c E S L B G H Q Z w μ) (hX : Kx σ) (hW : Wf μ) (hn : nF μ < 160) {s o : Nat} {wd : Int32} (t v : Int32) (hs : (wd = 0 ∧ o < 12 ∧ s = o) ∨ (wd = 1 ∧ o < 30 ∧ s = 12 + o)) : ∃ σ' Z', runc (d + 1) 10 [.ref (c + 5), .int (nI s), .int t, .int v] σ = some (some (.int (nI (nF μ))), σ') ∧ Spq [4, 25, 30, 35, 40] σ c E S L B G H Q Z' w σ' (telS μ wd (nI o) t v) := by
  obtain ⟨hF, hz, hRX, hRS, hRL, hRB, hRP, hRG, hRF, hRT, hRK, hRR, hRN⟩ := id hR
  have hC := hW.1
  have hf := hC.f
  have hs42 : s < 42 := by omega
  have i42 : ix (nI s) 42 = true := ix_of hs42 (by omega)
  have in42 : ¬ nI s < 0 ∧ ¬ 41 < nI s := ⟨nI_pos (by omega), nI_nlt (a := 41) (by omega) (by omega)⟩
  have z0 : ¬ (160 : Int32) ≤ nI (nF μ) := nI_ge (b := 160) hn (by omega)
  have iN : ix (nI (nF μ)) 160 = true := ix_of hn (by omega)
  have cN := cl1000 (show nF μ < 1000 by omega)
  have cs := cl1000 (show s < 1000 by omega)
  obtain ⟨p, r, h', q1, q2, q3, q4, q5⟩ := tell_lp (d + 1) hF hC hRF hs42 t v (Z s) [] _ rfl (hRF.2.2.1 s hs42) (fun f hf => by cases hf)
  have hpw := hRF.2.2.2.2 s hs42
  have hmem := hRF.2.2.2.1 s hs42
  have hnd := pw_nd hpw
  have hnZ : nF μ ∉ Z s := fun y => absurd ((hmem _).mp y).1 (Nat.lt_irrefl _)
  have hn' := telS_n (wd := wd) (o := nI o) (t := t) (v := v) hC hn
  -- what the new row of facts holds, whatever came of the links
  have e12 : (telS μ wd (nI o) t v).2 12 (nF μ) = wd := by simp [telS, fF_2, fA_2]
  have e13 : (telS μ wd (nI o) t v).2 13 (nF μ) = nI o := by simp [telS, fF_2, fA_2]
  have e14 : (telS μ wd (nI o) t v).2 14 (nF μ) = t := by simp [telS, fF_2, fA_2]
  have e15 : (telS μ wd (nI o) t v).2 15 (nF μ) = v := by simp [telS, fF_2, fA_2]
  have esb : sbj (telS μ wd (nI o) t v) (nF μ) = s := by
    unfold sbj
    rw [e12, e13]
    rcases hs with ⟨h1, h2, h3⟩ | ⟨h1, h2, h3⟩
    · rw [if_pos h1, cl1000 (show o < 1000 by omega), h3]
    · rw [if_neg (by rw [h1]; decide), cl1000 (show o < 1000 by omega), h3]
  have eso : ∀ f, f ≠ nF μ → sbj (telS μ wd (nI o) t v) f = sbj μ f := fun f hf => by unfold sbj; rw [telS_o 12 hf, telS_o 13 hf]
  have ebe : ∀ f g, f ≠ nF μ → g ≠ nF μ → (bef μ f g → bef (telS μ wd (nI o) t v) f g) := fun f g hf hg y => by
    unfold bef at y ⊢
    rw [telS_o 14 hf, telS_o 14 hg]
    exact y
  have hmZ : ∀ s', s' < 42 → ∀ f, f ∈ (if s' = s then p ++ nF μ :: r else Z s') ↔ f < nF (telS μ wd (nI o) t v) ∧ sbj (telS μ wd (nI o) t v) f = s' := by
    intro s' hs' f
    rw [hn']
    by_cases y : s' = s
    · subst y
      rw [if_pos rfl]
      have : f ∈ p ++ nF μ :: r ↔ f = nF μ ∨ f ∈ Z s' := by rw [q1]; simp only [List.mem_append, List.mem_cons]; constructor <;> (intro y; rcases y with y | y | y <;> simp [y])
      rw [this, hmem f]
      by_cases z : f = nF μ
      · subst z
        simp [esb]
      · rw [eso f z]
        constructor
        · rintro (y | y)
          · exact absurd y z
          · exact ⟨by omega, y.2⟩
        · rintro ⟨y1, y2⟩
          exact Or.inr ⟨by omega, y2⟩
    · rw [if_neg y, hRF.2.2.2.1 s' hs' f]
      by_cases z : f = nF μ
      · subst z
        rw [esb]
        constructor
        · rintro ⟨y1, _⟩; exact absurd y1 (Nat.lt_irrefl _)
        · rintro ⟨_, y2⟩; exact absurd y2.symm y
      · rw [eso f z]
        constructor
        · rintro ⟨y1, y2⟩; exact ⟨by omega, y2⟩
        · rintro ⟨y1, y2⟩; exact ⟨by omega, y2⟩
  have hpZ : ∀ s', s' < 42 → (if s' = s then p ++ nF μ :: r else Z s').Pairwise (bef (telS μ wd (nI o) t v)) := by
    intro s' hs'
    by_cases y : s' = s
    · subst y
      rw [if_pos rfl]
      rw [q1] at hpw hnZ
      have nfa : ∀ f, f ∈ p ++ r → f ≠ nF μ := fun f hf z => hnZ (z ▸ hf)
      have nfp : ∀ f, f ∈ p → f ≠ nF μ := fun f hf => nfa f (List.mem_append_left _ hf)
      have nfr : ∀ f, f ∈ r → f ≠ nF μ := fun f hf => nfa f (List.mem_append_right _ hf)
      obtain ⟨w1, w2, w3⟩ := List.pairwise_append.mp hpw
      refine List.pairwise_append.mpr ⟨w1.imp_of_mem (fun ha hb => ebe _ _ (nfp _ ha) (nfp _ hb)), List.pairwise_cons.mpr ⟨fun g hg => ?_, w2.imp_of_mem (fun ha hb => ebe _ _ (nfr _ ha) (nfr _ hb))⟩, fun f hf g hg => ?_⟩
      · have hgn : g < nF μ := ((hmem g).mp (by rw [q1]; exact List.mem_append_right _ hg)).1
        unfold bef
        rw [e14, telS_o 14 (nfr g hg)]
        have hgt : μ.2 14 g ≤ t := by
          cases r with
          | nil => cases hg
          | cons f0 r0 =>
            have k1 := q4 f0 r0 rfl
            rcases List.mem_cons.mp hg with y | y
            · rw [y]; exact k1
            · have k2 := (List.pairwise_cons.mp w2).1 g y
              rcases k2 with k2 | k2
              · exact Int32.le_trans (Int32.le_of_lt k2) k1
              · rw [k2.1]; exact k1
        by_cases k3 : μ.2 14 g = t
        · exact Or.inr ⟨k3, hgn⟩
        · exact Or.inl (Int32.lt_of_le_of_ne hgt k3)
      · rcases List.mem_cons.mp hg with y | y
        · subst y
          unfold bef
          rw [e14, telS_o 14 (nfp f hf)]
          exact Or.inl (q3 f hf)
        · exact ebe _ _ (nfp f hf) (nfr g y) (w3 f hf g y)
    · rw [if_neg y]
      have k := hRF.2.2.2.2 s' hs'
      have nf : ∀ f, f ∈ Z s' → f ≠ nF μ := fun f hf z => absurd ((hRF.2.2.2.1 s' hs' f).mp hf).1 (by omega)
      exact k.imp_of_mem (fun ha hb => ebe _ _ (nf _ ha) (nf _ hb))
  have hnr : nF μ ∉ r := fun y => hnZ (by rw [q1]; exact List.mem_append_right _ y)
  have run0 : ∀ u, run (d + 1) 10 89 [.ref (c + 5), .int (nI s), .int t, .int v, .int (bfr p), .int h', .int (nI p.length)] [] σ = u → runc (d + 1) 10 [.ref (c + 5), .int (nI s), .int t, .int v] σ = u := by
    intro u hu
    rw [← q5] at hu
    rw [← hu]
    have e1 : bfr [] = -1 := rfl
    rw [e1, List.length_nil, nI_0]
    simp [psh_some, psh_none, -Int32.not_lt, -Int32.not_le, va_rf, vd, vr, isR_r, isR_n, isA_r, isI_i, isI_r, isR_i, ar, akI, akZ, akB, akO, mI_sI, mP_sI, mK_sI, mN_sI, mX_sI, mP_sP, mI_sP, mK_sP, mN_sP, mX_sP, rc_Facts_tell, e_Facts_tell_0, e_Facts_tell_10, e_Facts_tell_17, e_Facts_tell_22, fK_1 hF, fK_2 hF, fK_3 hF, fK_4 hF, fK_5 hF, fK_6 hF, fN_6 hF, fK_7 hF, fN_7 hF, fK_8 hF, fN_8 hF, fK_9 hF, fN_9 hF, fK_10 hF, fK_11 hF, fN_11 hF, fK_12 hF, fK_13 hF, fN_13 hF, fK_14 hF, fN_14 hF, fK_15 hF, fN_15 hF, fK_16 hF, fN_16 hF, fP_12_0 hF, fP_12_1 hF, fP_12_2 hF, fP_12_3 hF, fP_12_4 hF, fP_12_5 hF, fP_12_6 hF, fP_12_7 hF, fP_4_0 hF, fP_4_1 hF, fP_4_2 hF, fP_4_3 hF, fP_11_0 hF, fP_7_0 hF, fP_7_1 hF, fP_7_2 hF, hF.cc, hRF.1, hf.1, z0, c_within, bZ_t in42, i42, cs]
  have epr : nI (nF μ) + 1 - 1 = nI (nF μ) := by grind
  have hfin : ∀ σ1 : Mm, Sm (tk [4, 25, 30, 35, 40]) σ σ1 → FL σ1 c → RF σ1 c (fun s' => if s' = s then p ++ nF μ :: r else Z s') (telS μ wd (nI o) t v) → RC σ1 c E S L B G H Q (fun s' => if s' = s then p ++ nF μ :: r else Z s') w (telS μ wd (nI o) t v) := fun σ1 hs hF1 hRF1 =>
    ⟨hF1, hz.fr hs rfl, hRX.fr hz hX hs rfl rfl rfl rfl rfl rfl rfl, hRS.fr hX hs rfl rfl rfl rfl rfl rfl rfl rfl rfl, hRL.fr hX hs rfl rfl rfl rfl rfl, hRB.fr hX hs rfl rfl rfl rfl (Ar_of (by repeat' constructor)), hRP.fr (fun k hk => (hRB k hk).1.1) hX hs rfl rfl rfl (Ar_of (by repeat' constructor)), hRG.fr hX hs rfl rfl rfl (Ar_of (by repeat' constructor)), hRF1, hRT.fr hF hX hs rfl rfl rfl rfl, hRK.fr hF hX hs rfl rfl rfl rfl rfl (Ar_of (by repeat' constructor)), hRR.fr hF hX hs rfl (by rintro q (rfl | rfl | rfl | rfl | rfl | rfl | rfl | rfl) <;> rfl) rfl (Ar_of (by repeat' constructor)), hRN.fr hF hX hs rfl rfl rfl rfl rfl rfl⟩
  rcases List.eq_nil_or_concat p with hp | ⟨p0, b, hp⟩
  · -- ahead of all
    have hb : bfr p = -1 := by rw [hp]; rfl
    have hs : Sm (tk [4, 25, 30, 35, 40]) σ (sI (sI (sI (sI (sI σ 25 (c + 6) (nF μ) t) 30 (c + 7) (nF μ) v) 35 (c + 8) (nF μ) h') 40 (c + 9) s (nI (nF μ))) 4 (c + 5) 4 (nI (nF μ) + 1)) := SmsI (SmsI (SmsI (SmsI (SmsI (Sm.rfl' σ) rfl _ _ _) rfl _ _ _) rfl _ _ _) rfl _ _ _) rfl _ _ _
    refine ⟨_, _, run0 _ ?_, hfin _ hs hF ?_, hs, hX, rfl, rfl⟩
    · rw [hb]
      simp [psh_some, psh_none, -Int32.not_lt, -Int32.not_le, va_rf, vd, vr, isR_r, isR_n, isA_r, isI_i, isI_r, isR_i, ar, akI, akZ, akB, akO, mI_sI, mP_sI, mK_sI, mN_sI, mX_sI, mP_sP, mI_sP, mK_sP, mN_sP, mX_sP, e_Facts_tell_89, e_Facts_tell_99, e_Facts_tell_109, e_Facts_tell_120, e_Facts_tell_126, e_Facts_tell_136, e_Facts_tell_150, e_Facts_tell_160, fK_1 hF, fK_2 hF, fK_3 hF, fK_4 hF, fK_5 hF, fK_6 hF, fN_6 hF, fK_7 hF, fN_7 hF, fK_8 hF, fN_8 hF, fK_9 hF, fN_9 hF, fK_10 hF, fK_11 hF, fN_11 hF, fK_12 hF, fK_13 hF, fN_13 hF, fK_14 hF, fN_14 hF, fK_15 hF, fN_15 hF, fK_16 hF, fN_16 hF, fP_12_0 hF, fP_12_1 hF, fP_12_2 hF, fP_12_3 hF, fP_12_4 hF, fP_12_5 hF, fP_12_6 hF, fP_12_7 hF, fP_4_0 hF, fP_4_1 hF, fP_4_2 hF, fP_4_3 hF, fP_11_0 hF, fP_7_0 hF, fP_7_1 hF, fP_7_2 hF, hF.cc, hRF.1, hf.1, iN, cN, i42, cs, epr]
    · refine ⟨?_, fun f hf' => ?_, fun s' hs' => ?_, hmZ, hpZ⟩
      · simp [mI_sI, telS, fF_1, hf.1]
      · rw [hn'] at hf'
        by_cases y : f = nF μ
        · subst y
          rw [e14, e15]
          simp [mI_sI]
        · rw [telS_o 14 y, telS_o 15 y]
          have := hRF.2.1 f (by omega)
          simpa [mI_sI, y] using this
      · have hfo : ∀ f, f ≠ nF μ → mI (sI (sI (sI (sI (sI σ 25 (c + 6) (nF μ) t) 30 (c + 7) (nF μ) v) 35 (c + 8) (nF μ) h') 40 (c + 9) s (nI (nF μ))) 4 (c + 5) 4 (nI (nF μ) + 1)) 35 (c + 8) f = mI σ 35 (c + 8) f := fun f hf => by simp [mI_sI, hf]
        have hfn : mI (sI (sI (sI (sI (sI σ 25 (c + 6) (nF μ) t) 30 (c + 7) (nF μ) v) 35 (c + 8) (nF μ) h') 40 (c + 9) s (nI (nF μ))) 4 (c + 5) 4 (nI (nF μ) + 1)) 35 (c + 8) (nF μ) = h' := by simp [mI_sI]
        by_cases y : s' = s
        · subst y
          dsimp only
          rw [if_pos rfl, hp, List.nil_append]
          refine ⟨by simp [mI_sI], ?_⟩
          rw [hfn]
          exact lkd_congr q2 (fun f hf => hfo f (fun z => hnr (z ▸ hf)))
        · dsimp only
          rw [if_neg y]
          have hh : mI (sI (sI (sI (sI (sI σ 25 (c + 6) (nF μ) t) 30 (c + 7) (nF μ) v) 35 (c + 8) (nF μ) h') 40 (c + 9) s (nI (nF μ))) 4 (c + 5) 4 (nI (nF μ) + 1)) 40 (c + 9) s' = mI σ 40 (c + 9) s' := by simp [mI_sI, y]
          rw [hh]
          exact lkd_congr (hRF.2.2.1 s' hs') (fun f hf => hfo f (fun z => absurd ((hRF.2.2.2.1 s' hs' f).mp hf).1 (by omega)))
  · -- behind b
    rw [List.concat_eq_append] at hp
    have hb : bfr p = nI b := by rw [hp]; unfold bfr; rw [List.getLast?_append]; rfl
    have hbZ : b ∈ Z s := by rw [q1, hp]; simp
    have hbn : b < nF μ := ((hmem b).mp hbZ).1
    have ib : ix (nI b) 160 = true := ix_of (by omega) (by omega)
    have cb := cl1000 (show b < 1000 by omega)
    have nb1 : ¬ nI b = -1 := nI_nm1 (by omega)
    have hs : Sm (tk [4, 25, 30, 35, 40]) σ (sI (sI (sI (sI (sI σ 25 (c + 6) (nF μ) t) 30 (c + 7) (nF μ) v) 35 (c + 8) (nF μ) h') 35 (c + 8) b (nI (nF μ))) 4 (c + 5) 4 (nI (nF μ) + 1)) := SmsI (SmsI (SmsI (SmsI (SmsI (Sm.rfl' σ) rfl _ _ _) rfl _ _ _) rfl _ _ _) rfl _ _ _) rfl _ _ _
    refine ⟨_, _, run0 _ ?_, hfin _ hs hF ?_, hs, hX, rfl, rfl⟩
    · rw [hb]
      simp [psh_some, psh_none, -Int32.not_lt, -Int32.not_le, va_rf, vd, vr, isR_r, isR_n, isA_r, isI_i, isI_r, isR_i, ar, akI, akZ, akB, akO, mI_sI, mP_sI, mK_sI, mN_sI, mX_sI, mP_sP, mI_sP, mK_sP, mN_sP, mX_sP, e_Facts_tell_89, e_Facts_tell_99, e_Facts_tell_109, e_Facts_tell_120, e_Facts_tell_139, e_Facts_tell_150, e_Facts_tell_160, fK_1 hF, fK_2 hF, fK_3 hF, fK_4 hF, fK_5 hF, fK_6 hF, fN_6 hF, fK_7 hF, fN_7 hF, fK_8 hF, fN_8 hF, fK_9 hF, fN_9 hF, fK_10 hF, fK_11 hF, fN_11 hF, fK_12 hF, fK_13 hF, fN_13 hF, fK_14 hF, fN_14 hF, fK_15 hF, fN_15 hF, fK_16 hF, fN_16 hF, fP_12_0 hF, fP_12_1 hF, fP_12_2 hF, fP_12_3 hF, fP_12_4 hF, fP_12_5 hF, fP_12_6 hF, fP_12_7 hF, fP_4_0 hF, fP_4_1 hF, fP_4_2 hF, fP_4_3 hF, fP_11_0 hF, fP_7_0 hF, fP_7_1 hF, fP_7_2 hF, hF.cc, hRF.1, hf.1, iN, cN, ib, cb, nb1, epr]
    · refine ⟨?_, fun f hf' => ?_, fun s' hs' => ?_, hmZ, hpZ⟩
      · simp [mI_sI, telS, fF_1, hf.1]
      · rw [hn'] at hf'
        by_cases y : f = nF μ
        · subst y
          rw [e14, e15]
          simp [mI_sI]
        · rw [telS_o 14 y, telS_o 15 y]
          have := hRF.2.1 f (by omega)
          simpa [mI_sI, y] using this
      · have hfo : ∀ f, f ≠ nF μ → f ≠ b → mI (sI (sI (sI (sI (sI σ 25 (c + 6) (nF μ) t) 30 (c + 7) (nF μ) v) 35 (c + 8) (nF μ) h') 35 (c + 8) b (nI (nF μ))) 4 (c + 5) 4 (nI (nF μ) + 1)) 35 (c + 8) f = mI σ 35 (c + 8) f := fun f hf hf2 => by simp [mI_sI, hf, hf2]
        have nnb : ¬ nF μ = b := by omega
        have hfn : mI (sI (sI (sI (sI (sI σ 25 (c + 6) (nF μ) t) 30 (c + 7) (nF μ) v) 35 (c + 8) (nF μ) h') 35 (c + 8) b (nI (nF μ))) 4 (c + 5) 4 (nI (nF μ) + 1)) 35 (c + 8) (nF μ) = h' := by simp [mI_sI, nnb]
        have hfb : mI (sI (sI (sI (sI (sI σ 25 (c + 6) (nF μ) t) 30 (c + 7) (nF μ) v) 35 (c + 8) (nF μ) h') 35 (c + 8) b (nI (nF μ))) 4 (c + 5) 4 (nI (nF μ) + 1)) 35 (c + 8) b = nI (nF μ) := by simp [mI_sI]
        have hh : mI (sI (sI (sI (sI (sI σ 25 (c + 6) (nF μ) t) 30 (c + 7) (nF μ) v) 35 (c + 8) (nF μ) h') 35 (c + 8) b (nI (nF μ))) 4 (c + 5) 4 (nI (nF μ) + 1)) 40 (c + 9) s' = mI σ 40 (c + 9) s' := by simp [mI_sI]
        rw [hh]
        by_cases y : s' = s
        · subst y
          dsimp only
          rw [if_pos rfl, hp, List.append_assoc, List.singleton_append]
          have hl := hRF.2.2.1 s' hs'
          have hZs : Z s' = p0 ++ b :: r := by rw [q1, hp, List.append_assoc, List.singleton_append]
          rw [hZs] at hl hnd hnZ
          obtain ⟨d1, d2, d3⟩ := List.nodup_append.mp hnd
          have hbr : b ∉ r := (List.nodup_cons.mp d2).1
          have hbp : b ∉ p0 := fun z => d3 b z b List.mem_cons_self rfl
          have hb' : mI σ 35 (c + 8) b = h' := by
            have : ∀ (q : List Nat) (h : Int32), lkd (mI σ 35 (c + 8)) h (q ++ b :: r) → lkd (mI σ 35 (c + 8)) (mI σ 35 (c + 8) b) r := by
              intro q
              induction q with
              | nil => intro h hq; exact hq.2
              | cons x q ih => intro h hq; exact ih _ hq.2
            have k1 := this p0 _ hl
            cases r with
            | nil => exact k1.trans q2.symm
            | cons x r0 => exact k1.1.trans q2.1.symm
          exact lkd_ins hfb (by rw [hfn, hb']) hl (fun f hf hf2 => hfo f (fun z => hnZ (z ▸ hf)) hf2) hbp hbr
        · dsimp only
          rw [if_neg y]
          refine lkd_congr (hRF.2.2.1 s' hs') (fun f hf => hfo f (fun z => absurd ((hRF.2.2.2.1 s' hs' f).mp hf).1 (by omega)) (fun z => y ?_))
          have k1 := ((hRF.2.2.2.1 s' hs' f).mp hf).2
          have k2 := ((hmem b).mp hbZ).2
          rw [z, k2] at k1
          exact k1.symm
end O63
