/-! ===== FACTS: A CHAIN AND A SCAN ===== -/
section C37
variable {σ : Mm} {c : Nat} {E S L B G H Q : Nat → Nat} {Z : Nat → List Nat} {w : Bool} {μ : Ms} (d : Nat)
theorem nd_len : ∀ (n : Nat) (l : List Nat), l.Nodup → (∀ x ∈ l, x < n) → l.length ≤ n := by
  intro n
  induction n with
  | zero =>
    intro l _ h
    cases l with
    | nil => simp
    | cons a r => exact absurd (h a (by simp)) (by omega)
  | succ n ih =>
    intro l hl h
    by_cases hn : n ∈ l
    · have h1 := ih (l.erase n) (hl.erase n) (fun x hx => by
        rw [hl.mem_erase_iff] at hx
        have := h x hx.2
        have := hx.1
        omega)
      rw [List.length_erase_of_mem hn] at h1
      omega
    · have h1 := ih l hl (fun x hx => by
        have := h x hx
        have : x ≠ n := fun e => hn (e ▸ hx)
        omega)
      omega
theorem bef_ne {f g : Nat} (h : bef μ f g) : f ≠ g := by
  rintro rfl
  rcases h with h | h
  · rw [Int32.lt_iff_toInt_lt] at h; omega
  · omega
theorem pw_nd {l : List Nat} (h : l.Pairwise (bef μ)) : l.Nodup := h.imp (fun z => bef_ne z)
def mt (μ : Ms) (w o t : Int32) (f : Nat) : Prop := μ.2 12 f = w ∧ μ.2 13 f = o ∧ μ.2 14 f ≤ t
theorem bs_spec (w o t : Int32) : ∀ n : Nat, (bs μ w o t n = none → ∀ f, f < n → ¬ mt μ w o t f) ∧ ∀ f, bs μ w o t n = some f → f < n ∧ mt μ w o t f ∧ ∀ g, g < n → mt μ w o t g → g = f ∨ bef μ f g := by
  intro n
  induction n with
  | zero => exact ⟨fun _ f hf => absurd hf (by omega), fun f h => by cases h⟩
  | succ n ih =>
    rw [bs]
    by_cases hc : μ.2 12 n = w ∧ μ.2 13 n = o ∧ μ.2 14 n ≤ t ∧ bsB μ n (bs μ w o t n) = true
    · rw [if_pos hc]
      refine ⟨fun h => (by cases h), fun f hf => ?_⟩
      cases hf
      refine ⟨by omega, ⟨hc.1, hc.2.1, hc.2.2.1⟩, fun g hg hm => ?_⟩
      by_cases e : g = n
      · exact Or.inl e
      · right
        have hg' : g < n := by omega
        cases hb : bs μ w o t n with
        | none => exact absurd hm (ih.1 hb g hg')
        | some f0 =>
          have h0 := ih.2 f0 hb
          have h1 : bsB μ n (some f0) = true := by rw [← hb]; exact hc.2.2.2
          simp only [bsB, Bool.not_eq_true', decide_eq_false_iff_not] at h1
          unfold bef at *
          rcases h0.2.2 g hg' hm with rfl | h2
          · simp only [Int32.lt_iff_toInt_lt, ← Int32.toInt_inj] at *; omega
          · simp only [Int32.lt_iff_toInt_lt, ← Int32.toInt_inj] at *; omega
    · rw [if_neg hc]
      have hk : mt μ w o t n → ∃ f, bs μ w o t n = some f ∧ μ.2 14 n < μ.2 14 f := by
        intro hm
        have h1 : ¬ bsB μ n (bs μ w o t n) = true := fun z => hc ⟨hm.1, hm.2.1, hm.2.2, z⟩
        cases hb : bs μ w o t n with
        | none => rw [hb] at h1; exact absurd rfl h1
        | some f => rw [hb] at h1; exact ⟨f, rfl, by simpa [bsB] using h1⟩
      refine ⟨fun h f hf hm => ?_, fun f hf => ?_⟩
      · by_cases e : f = n
        · subst e
          obtain ⟨g, h1, _⟩ := hk hm
          rw [h] at h1
          cases h1
        · exact ih.1 h f (by omega) hm
      · have h0 := ih.2 f hf
        refine ⟨by omega, h0.2.1, fun g hg hm => ?_⟩
        by_cases e : g = n
        · subst e
          obtain ⟨g', h1, h2⟩ := hk hm
          rw [hf] at h1
          cases h1
          exact Or.inr (Or.inl h2)
        · exact h0.2.2 g (by omega) hm
theorem kw_spec (t : Int32) (n : Nat) (x : Int32) : ∀ r : List Nat, r.Pairwise (bef μ) → ((∀ f, f ∈ r → ¬ (f < n ∧ ¬ t < μ.2 14 f)) ∧ kw μ t n x r = x) ∨ ∃ f, f ∈ r ∧ (f < n ∧ ¬ t < μ.2 14 f) ∧ kw μ t n x r = μ.2 15 f ∧ ∀ g, g ∈ r → (g < n ∧ ¬ t < μ.2 14 g) → g = f ∨ bef μ f g := by
  intro r
  induction r with
  | nil => intro _; exact Or.inl ⟨fun f hf => (by cases hf), rfl⟩
  | cons f r ih =>
    intro hp
    rw [List.pairwise_cons] at hp
    rw [kw]
    by_cases hc : f < n ∧ ¬ t < μ.2 14 f
    · rw [if_pos hc]
      refine Or.inr ⟨f, by simp, hc, rfl, fun g hg _ => ?_⟩
      rcases List.mem_cons.mp hg with e | e
      · exact Or.inl e
      · exact Or.inr (hp.1 g e)
    · rw [if_neg hc]
      rcases ih hp.2 with ⟨h1, h2⟩ | ⟨f', h1, h2, h3, h4⟩
      · refine Or.inl ⟨fun g hg => ?_, h2⟩
        rcases List.mem_cons.mp hg with e | e
        · rw [e]; exact hc
        · exact h1 g e
      · refine Or.inr ⟨f', by simp [h1], h2, h3, fun g hg hg2 => ?_⟩
        rcases List.mem_cons.mp hg with e | e
        · rw [e] at hg2; exact absurd hg2 hc
        · exact h4 g e hg2
theorem bef_as {f g : Nat} (h1 : bef μ f g) (h2 : bef μ g f) : False := by
  unfold bef at *
  simp only [Int32.lt_iff_toInt_lt, ← Int32.toInt_inj] at *
  omega
theorem kw_kno {wd o t x : Int32} {n : Nat} {r : List Nat} (hn : n ≤ nF μ) (hm : ∀ f, f ∈ r ↔ f < nF μ ∧ μ.2 12 f = wd ∧ μ.2 13 f = o) (hp : r.Pairwise (bef μ)) : kw μ t n x r = kno μ wd o t n x := by
  have hs := bs_spec (μ := μ) wd o t n
  have hmt : ∀ f, (f ∈ r ∧ (f < n ∧ ¬ t < μ.2 14 f)) ↔ (f < n ∧ mt μ wd o t f) := by
    intro f
    rw [hm f]
    unfold mt
    rw [Int32.not_lt]
    constructor
    · rintro ⟨⟨_, h2, h3⟩, h4, h5⟩; exact ⟨h4, h2, h3, h5⟩
    · rintro ⟨h4, h2, h3, h5⟩; exact ⟨⟨by omega, h2, h3⟩, h4, h5⟩
  unfold kno
  rcases kw_spec t n x r hp with ⟨h1, h2⟩ | ⟨f, h1, h2, h3, h4⟩
  · rw [h2]
    cases hb : bs μ wd o t n with
    | none => rfl
    | some f =>
      have h0 := hs.2 f hb
      have := (hmt f).mpr ⟨h0.1, h0.2.1⟩
      exact absurd this.2 (h1 f this.1)
  · rw [h3]
    have hf := (hmt f).mp ⟨h1, h2⟩
    cases hb : bs μ wd o t n with
    | none => exact absurd hf.2 (hs.1 hb f hf.1)
    | some f' =>
      have h0 := hs.2 f' hb
      have hf' := (hmt f').mpr ⟨h0.1, h0.2.1⟩
      have e : f = f' := by
        rcases h0.2.2 f hf.1 hf.2 with z | z
        · exact z
        · rcases h4 f' hf'.1 hf'.2 with y | y
          · exact y.symm
          · exact (bef_as y z).elim
      rw [e]
def ofN (μ : Ms) (f : Nat) : Nat := (μ.2 13 f).toNatClampNeg
/-- the facts' own words -/
def WF (μ : Ms) : Prop := ∀ f, f < nF μ → μ.2 13 f = nI (ofN μ f) ∧ ((μ.2 12 f = 0 ∧ ofN μ f < 12 ∧ ∃ v, v ≤ 9 ∧ μ.2 15 f = nI v) ∨ (μ.2 12 f = 1 ∧ ofN μ f < 30 ∧ ∃ v, v ≤ 120 ∧ μ.2 15 f = nI v - 60))
theorem sbj_0 (hW : WF μ) {f s : Nat} (hf : f < nF μ) (hs : s < 12) : sbj μ f = s ↔ μ.2 12 f = 0 ∧ μ.2 13 f = nI s := by
  obtain ⟨h1, h2⟩ := hW f hf
  unfold sbj
  have e : (μ.2 13 f).toNatClampNeg = ofN μ f := rfl
  rw [e]
  rcases h2 with ⟨h3, h4, _⟩ | ⟨h3, h4, _⟩
  · rw [if_pos h3, h1, nI_eq (by omega) (by omega)]
    exact ⟨fun z => ⟨h3, z⟩, fun z => z.2⟩
  · rw [if_neg (by rw [h3]; decide)]
    constructor
    · intro z; omega
    · rintro ⟨z, _⟩; rw [h3] at z; exact absurd z (by decide)
theorem sbj_1 (hW : WF μ) {f s : Nat} (hf : f < nF μ) (hs : s < 30) : sbj μ f = 12 + s ↔ μ.2 12 f = 1 ∧ μ.2 13 f = nI s := by
  obtain ⟨h1, h2⟩ := hW f hf
  unfold sbj
  have e : (μ.2 13 f).toNatClampNeg = ofN μ f := rfl
  rw [e]
  rcases h2 with ⟨h3, h4, _⟩ | ⟨h3, h4, _⟩
  · rw [if_pos h3]
    constructor
    · intro z; omega
    · rintro ⟨z, _⟩; rw [h3] at z; exact absurd z (by decide)
  · rw [if_neg (by rw [h3]; decide), h1, nI_eq (by omega) (by omega)]
    constructor
    · intro z; exact ⟨h3, by omega⟩
    · rintro ⟨_, z⟩; omega
theorem Z_len (hR : RF σ c Z μ) {s : Nat} (hs : s < 42) : (Z s).length ≤ nF μ := nd_len _ _ (pw_nd (hR.2.2.2.2 s hs)) (fun x hx => ((hR.2.2.2.1 s hs x).mp hx).1)
theorem c_known (hF : FL σ c) (hC : Cn μ) (hR : RF σ c Z μ) {s : Nat} (hs : s < 42) (t x : Int32) {n : Nat} (hn : n ≤ nF μ) : runc d 13 [.ref (c + 5), .int (nI s), .int t, .int (nI n), .int x] σ = some (some (.int (kw μ t n x (Z s))), σ) := by
  have hf := hC.f.2
  have h := known_lp d hF hC hR (nI s) t x (n := n) (by omega) (Z s) _ 0 (hR.2.2.1 s hs) (fun f hf => ((hR.2.2.2.1 s hs f).mp hf).1) (by have := Z_len hR hs; omega)
  have i1 : ¬ nI s < 0 := nI_pos (by omega)
  have i2 : nI s < 42 := nI_lt (b := 42) (by omega) (by omega)
  have i3 : ix (nI s) 42 = true := ix_of (by omega) (by omega)
  rw [nI_0] at h
  simp [psh_some, psh_none, -Int32.not_lt, -Int32.not_le, va_rf, vd, vr, isR_r, isR_n, isA_r, isI_i, isI_r, isR_i, ar, akI, akZ, akB, akO, mI_sI, mP_sI, mK_sI, mN_sI, mX_sI, mP_sP, mI_sP, mK_sP, mN_sP, mX_sP, rc_Facts_known, e_Facts_known_0, e_Facts_known_4, e_Facts_known_13, fK_1 hF, fK_2 hF, fK_3 hF, fK_4 hF, fK_5 hF, fK_6 hF, fN_6 hF, fK_7 hF, fN_7 hF, fK_8 hF, fN_8 hF, fK_9 hF, fN_9 hF, fK_10 hF, fK_11 hF, fN_11 hF, fK_12 hF, fK_13 hF, fN_13 hF, fK_14 hF, fN_14 hF, fK_15 hF, fN_15 hF, fK_16 hF, fN_16 hF, fP_12_0 hF, fP_12_1 hF, fP_12_2 hF, fP_12_3 hF, fP_12_4 hF, fP_12_5 hF, fP_12_6 hF, fP_12_7 hF, fP_4_0 hF, fP_4_1 hF, fP_4_2 hF, fP_4_3 hF, fP_11_0 hF, fP_7_0 hF, fP_7_1 hF, fP_7_2 hF, hF.cc, i1, i2, i3, cl1000 (show s < 1000 by omega), h]
theorem c_swellAt (hF : FL σ c) (hC : Cn μ) (hR : RF σ c Z μ) (hW : WF μ) (hS : RS σ S μ) {s : Nat} (hs : s < nS μ) (t : Int32) {n : Nat} (hn : n ≤ nF μ) : runc (d + 1) 11 [.ref (c + 5), .ref (S s), .int t, .int (nI n)] σ = some (some (.int (kno μ 0 (nI s) t n 3)), σ) := by
  have h12 := hC.s.2
  have h := hS s hs
  have e : kw μ t n 3 (Z s) = kno μ 0 (nI s) t n 3 := kw_kno hn (fun f => by
    rw [hR.2.2.2.1 s (by omega) f]
    constructor
    · rintro ⟨h1, h2⟩; exact ⟨h1, (sbj_0 hW h1 (by omega)).mp h2⟩
    · rintro ⟨h1, h2⟩; exact ⟨h1, (sbj_0 hW h1 (by omega)).mpr h2⟩) (hR.2.2.2.2 s (by omega))
  rw [← e]
  simp [psh_some, psh_none, -Int32.not_lt, -Int32.not_le, va_rf, vd, vr, isR_r, isR_n, isA_r, isI_i, isI_r, isR_i, ar, akI, akZ, akB, akO, mI_sI, mP_sI, mK_sI, mN_sI, mX_sI, mP_sP, mI_sP, mK_sP, mN_sP, mX_sP, rc_Facts_swellAt, e_Facts_swellAt_0, e_Facts_swellAt_11, fK_1 hF, fK_2 hF, fK_3 hF, fK_4 hF, fK_5 hF, fK_6 hF, fN_6 hF, fK_7 hF, fN_7 hF, fK_8 hF, fN_8 hF, fK_9 hF, fN_9 hF, fK_10 hF, fK_11 hF, fN_11 hF, fK_12 hF, fK_13 hF, fN_13 hF, fK_14 hF, fN_14 hF, fK_15 hF, fN_15 hF, fK_16 hF, fN_16 hF, fP_12_0 hF, fP_12_1 hF, fP_12_2 hF, fP_12_3 hF, fP_12_4 hF, fP_12_5 hF, fP_12_6 hF, fP_12_7 hF, fP_4_0 hF, fP_4_1 hF, fP_4_2 hF, fP_4_3 hF, fP_11_0 hF, fP_7_0 hF, fP_7_1 hF, fP_7_2 hF, hF.cc, h.1, h.2.1, c_known d hF hC hR (show s < 42 by omega) t 3 hn]
theorem c_windFrom (hF : FL σ c) (hC : Cn μ) (hR : RF σ c Z μ) (hW : WF μ) (hS : RS σ S μ) (hL : RLg σ S L μ) {s l : Nat} (hs : s < nS μ) (hl : l < nL μ) (ha : lA μ l < nS μ) (t : Int32) {n : Nat} (hn : n ≤ nF μ) : runc (d + 1) 12 [.ref (c + 5), .ref (S s), .ref (L l), .int t, .int (nI n)] σ = some (some (.int (if s = lA μ l then kno μ 1 (nI l) t n 0 else -kno μ 1 (nI l) t n 0)), σ) := by
  have h30 := hC.l.2
  have h := hL l hl
  have i1 : (S s = S (lA μ l)) ↔ s = lA μ l := ⟨fun e => hS.inj hC hs ha e, fun e => by rw [e]⟩
  have e : kw μ t n 0 (Z (12 + l)) = kno μ 1 (nI l) t n 0 := kw_kno hn (fun f => by
    rw [hR.2.2.2.1 (12 + l) (by omega) f]
    constructor
    · rintro ⟨h1, h2⟩; exact ⟨h1, (sbj_1 hW h1 (by omega)).mp h2⟩
    · rintro ⟨h1, h2⟩; exact ⟨h1, (sbj_1 hW h1 (by omega)).mpr h2⟩) (hR.2.2.2.2 (12 + l) (by omega))
  have e2 : (12 : Int32) + nI l = nI (12 + l) := by rw [show (12 : Int32) = nI 12 from rfl, nI_add]
  rw [← e]
  by_cases c1 : s = lA μ l
  · simp [psh_some, psh_none, -Int32.not_lt, -Int32.not_le, va_rf, vd, vr, isR_r, isR_n, isA_r, isI_i, isI_r, isR_i, ar, akI, akZ, akB, akO, mI_sI, mP_sI, mK_sI, mN_sI, mX_sI, mP_sP, mI_sP, mK_sP, mN_sP, mX_sP, rc_Facts_windFrom, e_Facts_windFrom_0, e_Facts_windFrom_15, e_Facts_windFrom_25, e_Facts_windFrom_30, e_Facts_windFrom_33, fK_1 hF, fK_2 hF, fK_3 hF, fK_4 hF, fK_5 hF, fK_6 hF, fN_6 hF, fK_7 hF, fN_7 hF, fK_8 hF, fN_8 hF, fK_9 hF, fN_9 hF, fK_10 hF, fK_11 hF, fN_11 hF, fK_12 hF, fK_13 hF, fN_13 hF, fK_14 hF, fN_14 hF, fK_15 hF, fN_15 hF, fK_16 hF, fN_16 hF, fP_12_0 hF, fP_12_1 hF, fP_12_2 hF, fP_12_3 hF, fP_12_4 hF, fP_12_5 hF, fP_12_6 hF, fP_12_7 hF, fP_4_0 hF, fP_4_1 hF, fP_4_2 hF, fP_4_3 hF, fP_11_0 hF, fP_7_0 hF, fP_7_1 hF, fP_7_2 hF, hF.cc, h.1, h.2.1, h.2.2.1, e2, c_known d hF hC hR (show 12 + l < 42 by omega) t 0 hn, c1]
  · simp [psh_some, psh_none, -Int32.not_lt, -Int32.not_le, va_rf, vd, vr, isR_r, isR_n, isA_r, isI_i, isI_r, isR_i, ar, akI, akZ, akB, akO, mI_sI, mP_sI, mK_sI, mN_sI, mX_sI, mP_sP, mI_sP, mK_sP, mN_sP, mX_sP, rc_Facts_windFrom, e_Facts_windFrom_0, e_Facts_windFrom_15, e_Facts_windFrom_25, e_Facts_windFrom_30, e_Facts_windFrom_33, fK_1 hF, fK_2 hF, fK_3 hF, fK_4 hF, fK_5 hF, fK_6 hF, fN_6 hF, fK_7 hF, fN_7 hF, fK_8 hF, fN_8 hF, fK_9 hF, fN_9 hF, fK_10 hF, fK_11 hF, fN_11 hF, fK_12 hF, fK_13 hF, fN_13 hF, fK_14 hF, fN_14 hF, fK_15 hF, fN_15 hF, fK_16 hF, fN_16 hF, fP_12_0 hF, fP_12_1 hF, fP_12_2 hF, fP_12_3 hF, fP_12_4 hF, fP_12_5 hF, fP_12_6 hF, fP_12_7 hF, fP_4_0 hF, fP_4_1 hF, fP_4_2 hF, fP_4_3 hF, fP_11_0 hF, fP_7_0 hF, fP_7_1 hF, fP_7_2 hF, hF.cc, h.1, h.2.1, h.2.2.1, e2, c_known d hF hC hR (show 12 + l < 42 by omega) t 0 hn, i1, c1]
theorem c_swellNow (hF : FL σ c) (hC : Cn μ) (hR : RF σ c Z μ) (hW : WF μ) (hS : RS σ S μ) (hN : RN σ c μ) {s : Nat} (hs : s < nS μ) : runc (d + 2) 96 [.ref c, .ref (S s)] σ = some (some (.int (swN μ s)), σ) := by
  simp [psh_some, psh_none, -Int32.not_lt, -Int32.not_le, va_rf, vd, vr, isR_r, isR_n, isA_r, isI_i, isI_r, isR_i, ar, akI, akZ, akB, akO, mI_sI, mP_sI, mK_sI, mN_sI, mX_sI, mP_sP, mI_sP, mK_sP, mN_sP, mX_sP, rc_C_swellNow, e_C_swellNow_0, e_C_swellNow_22, fK_1 hF, fK_2 hF, fK_3 hF, fK_4 hF, fK_5 hF, fK_6 hF, fN_6 hF, fK_7 hF, fN_7 hF, fK_8 hF, fN_8 hF, fK_9 hF, fN_9 hF, fK_10 hF, fK_11 hF, fN_11 hF, fK_12 hF, fK_13 hF, fN_13 hF, fK_14 hF, fN_14 hF, fK_15 hF, fN_15 hF, fK_16 hF, fN_16 hF, fP_12_0 hF, fP_12_1 hF, fP_12_2 hF, fP_12_3 hF, fP_12_4 hF, fP_12_5 hF, fP_12_6 hF, fP_12_7 hF, fP_4_0 hF, fP_4_1 hF, fP_4_2 hF, fP_4_3 hF, fP_11_0 hF, fP_7_0 hF, fP_7_1 hF, fP_7_2 hF, hF.cc, hN.1, hR.1, hC.f.1, c_swellAt d hF hC hR hW hS hs (μ.1 1 / 60) (Nat.le_refl _), swN]
/-- the wind now on the leg l from s -/
def wdN (μ : Ms) (l s : Nat) : Int32 := if s = lA μ l then kno μ 1 (nI l) (μ.1 1 / 1440) (nF μ) 0 else -kno μ 1 (nI l) (μ.1 1 / 1440) (nF μ) 0
theorem c_windNow (hF : FL σ c) (hC : Cn μ) (hR : RF σ c Z μ) (hW : WF μ) (hS : RS σ S μ) (hL : RLg σ S L μ) (hN : RN σ c μ) {s l : Nat} (hs : s < nS μ) (hl : l < nL μ) (ha : lA μ l < nS μ) : runc (d + 2) 97 [.ref c, .ref (S s), .ref (L l)] σ = some (some (.int (wdN μ l s)), σ) := by
  simp [psh_some, psh_none, -Int32.not_lt, -Int32.not_le, va_rf, vd, vr, isR_r, isR_n, isA_r, isI_i, isI_r, isR_i, ar, akI, akZ, akB, akO, mI_sI, mP_sI, mK_sI, mN_sI, mX_sI, mP_sP, mI_sP, mK_sP, mN_sP, mX_sP, rc_C_windNow, e_C_windNow_0, e_C_windNow_24, fK_1 hF, fK_2 hF, fK_3 hF, fK_4 hF, fK_5 hF, fK_6 hF, fN_6 hF, fK_7 hF, fN_7 hF, fK_8 hF, fN_8 hF, fK_9 hF, fN_9 hF, fK_10 hF, fK_11 hF, fN_11 hF, fK_12 hF, fK_13 hF, fN_13 hF, fK_14 hF, fN_14 hF, fK_15 hF, fN_15 hF, fK_16 hF, fN_16 hF, fP_12_0 hF, fP_12_1 hF, fP_12_2 hF, fP_12_3 hF, fP_12_4 hF, fP_12_5 hF, fP_12_6 hF, fP_12_7 hF, fP_4_0 hF, fP_4_1 hF, fP_4_2 hF, fP_4_3 hF, fP_11_0 hF, fP_7_0 hF, fP_7_1 hF, fP_7_2 hF, hF.cc, hN.1, hR.1, hC.f.1, c_windFrom d hF hC hR hW hS hL hs hl ha (μ.1 1 / 1440) (Nat.le_refl _), wdN]
end C37
