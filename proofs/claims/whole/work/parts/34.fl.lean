/-! ===== HOW THE CLASS LIES IN THE MEMORY ===== -/
/-- fixed cells: how far behind the object, kind, length -/
def clk : List (Nat × Nat × Nat) := [(1, 1, 0), (2, 1, 0), (3, 1, 0), (4, 1, 0), (5, 4, 0), (6, 25, 160), (7, 30, 160), (8, 35, 160), (9, 40, 42), (10, 11, 0), (11, 107, 300), (12, 7, 0), (13, 45, 200), (14, 50, 200), (15, 55, 200), (16, 110, 8)]
def clp : List (Nat × Nat × Nat × Nat) := [(12, 0, 0, 1), (12, 0, 1, 2), (12, 0, 2, 3), (12, 0, 3, 4), (12, 0, 4, 5), (12, 0, 5, 10), (12, 0, 6, 12), (12, 0, 7, 16), (4, 5, 0, 6), (4, 5, 1, 7), (4, 5, 2, 8), (4, 5, 3, 9), (11, 10, 0, 11), (7, 12, 0, 13), (7, 12, 1, 14), (7, 12, 2, 15)]
def rlk : List (Nat × Nat × Nat) := [(1, 71, 16), (2, 75, 16), (3, 80, 16), (4, 86, 96), (5, 90, 96), (6, 95, 96), (7, 100, 96)]
/-- a row of rules at r -/
def RuL (σ : Mm) (r : Nat) : Prop := mK σ r = 9 ∧ ∀ e ∈ rlk, mP σ 9 r (e.1 - 1) = some (r + e.1) ∧ mK σ (r + e.1) = e.2.1 ∧ mN σ (r + e.1) = e.2.2
def FL (σ : Mm) (c : Nat) : Prop := mK σ c = 12 ∧ (∀ e ∈ clk, mK σ (c + e.1) = e.2.1 ∧ mN σ (c + e.1) = e.2.2) ∧ (∀ e ∈ clp, mP σ e.1 (c + e.2.1) e.2.2.1 = some (c + e.2.2.2)) ∧ RuL σ (c + 17) ∧ RuL σ (c + 25)
section FLS
variable {σ σ' : Mm} {c r : Nat} {T : Nat → Bool}
theorem fK_1 (h : FL σ c) : mK σ (c + 1) = 1 := (h.2.1 (1, 1, 0) (by decide)).1
theorem fK_2 (h : FL σ c) : mK σ (c + 2) = 1 := (h.2.1 (2, 1, 0) (by decide)).1
theorem fK_3 (h : FL σ c) : mK σ (c + 3) = 1 := (h.2.1 (3, 1, 0) (by decide)).1
theorem fK_4 (h : FL σ c) : mK σ (c + 4) = 1 := (h.2.1 (4, 1, 0) (by decide)).1
theorem fK_5 (h : FL σ c) : mK σ (c + 5) = 4 := (h.2.1 (5, 4, 0) (by decide)).1
theorem fK_6 (h : FL σ c) : mK σ (c + 6) = 25 := (h.2.1 (6, 25, 160) (by decide)).1
theorem fN_6 (h : FL σ c) : mN σ (c + 6) = 160 := (h.2.1 (6, 25, 160) (by decide)).2
theorem fK_7 (h : FL σ c) : mK σ (c + 7) = 30 := (h.2.1 (7, 30, 160) (by decide)).1
theorem fN_7 (h : FL σ c) : mN σ (c + 7) = 160 := (h.2.1 (7, 30, 160) (by decide)).2
theorem fK_8 (h : FL σ c) : mK σ (c + 8) = 35 := (h.2.1 (8, 35, 160) (by decide)).1
theorem fN_8 (h : FL σ c) : mN σ (c + 8) = 160 := (h.2.1 (8, 35, 160) (by decide)).2
theorem fK_9 (h : FL σ c) : mK σ (c + 9) = 40 := (h.2.1 (9, 40, 42) (by decide)).1
theorem fN_9 (h : FL σ c) : mN σ (c + 9) = 42 := (h.2.1 (9, 40, 42) (by decide)).2
theorem fK_10 (h : FL σ c) : mK σ (c + 10) = 11 := (h.2.1 (10, 11, 0) (by decide)).1
theorem fK_11 (h : FL σ c) : mK σ (c + 11) = 107 := (h.2.1 (11, 107, 300) (by decide)).1
theorem fN_11 (h : FL σ c) : mN σ (c + 11) = 300 := (h.2.1 (11, 107, 300) (by decide)).2
theorem fK_12 (h : FL σ c) : mK σ (c + 12) = 7 := (h.2.1 (12, 7, 0) (by decide)).1
theorem fK_13 (h : FL σ c) : mK σ (c + 13) = 45 := (h.2.1 (13, 45, 200) (by decide)).1
theorem fN_13 (h : FL σ c) : mN σ (c + 13) = 200 := (h.2.1 (13, 45, 200) (by decide)).2
theorem fK_14 (h : FL σ c) : mK σ (c + 14) = 50 := (h.2.1 (14, 50, 200) (by decide)).1
theorem fN_14 (h : FL σ c) : mN σ (c + 14) = 200 := (h.2.1 (14, 50, 200) (by decide)).2
theorem fK_15 (h : FL σ c) : mK σ (c + 15) = 55 := (h.2.1 (15, 55, 200) (by decide)).1
theorem fN_15 (h : FL σ c) : mN σ (c + 15) = 200 := (h.2.1 (15, 55, 200) (by decide)).2
theorem fK_16 (h : FL σ c) : mK σ (c + 16) = 110 := (h.2.1 (16, 110, 8) (by decide)).1
theorem fN_16 (h : FL σ c) : mN σ (c + 16) = 8 := (h.2.1 (16, 110, 8) (by decide)).2
theorem fP_12_0 (h : FL σ c) : mP σ 12 c 0 = some (c + 1) := h.2.2.1 (12, 0, 0, 1) (by decide)
theorem fP_12_1 (h : FL σ c) : mP σ 12 c 1 = some (c + 2) := h.2.2.1 (12, 0, 1, 2) (by decide)
theorem fP_12_2 (h : FL σ c) : mP σ 12 c 2 = some (c + 3) := h.2.2.1 (12, 0, 2, 3) (by decide)
theorem fP_12_3 (h : FL σ c) : mP σ 12 c 3 = some (c + 4) := h.2.2.1 (12, 0, 3, 4) (by decide)
theorem fP_12_4 (h : FL σ c) : mP σ 12 c 4 = some (c + 5) := h.2.2.1 (12, 0, 4, 5) (by decide)
theorem fP_12_5 (h : FL σ c) : mP σ 12 c 5 = some (c + 10) := h.2.2.1 (12, 0, 5, 10) (by decide)
theorem fP_12_6 (h : FL σ c) : mP σ 12 c 6 = some (c + 12) := h.2.2.1 (12, 0, 6, 12) (by decide)
theorem fP_12_7 (h : FL σ c) : mP σ 12 c 7 = some (c + 16) := h.2.2.1 (12, 0, 7, 16) (by decide)
theorem fP_4_0 (h : FL σ c) : mP σ 4 (c + 5) 0 = some (c + 6) := h.2.2.1 (4, 5, 0, 6) (by decide)
theorem fP_4_1 (h : FL σ c) : mP σ 4 (c + 5) 1 = some (c + 7) := h.2.2.1 (4, 5, 1, 7) (by decide)
theorem fP_4_2 (h : FL σ c) : mP σ 4 (c + 5) 2 = some (c + 8) := h.2.2.1 (4, 5, 2, 8) (by decide)
theorem fP_4_3 (h : FL σ c) : mP σ 4 (c + 5) 3 = some (c + 9) := h.2.2.1 (4, 5, 3, 9) (by decide)
theorem fP_11_0 (h : FL σ c) : mP σ 11 (c + 10) 0 = some (c + 11) := h.2.2.1 (11, 10, 0, 11) (by decide)
theorem fP_7_0 (h : FL σ c) : mP σ 7 (c + 12) 0 = some (c + 13) := h.2.2.1 (7, 12, 0, 13) (by decide)
theorem fP_7_1 (h : FL σ c) : mP σ 7 (c + 12) 1 = some (c + 14) := h.2.2.1 (7, 12, 1, 14) (by decide)
theorem fP_7_2 (h : FL σ c) : mP σ 7 (c + 12) 2 = some (c + 15) := h.2.2.1 (7, 12, 2, 15) (by decide)
theorem rP_0 (h : RuL σ r) : mP σ 9 r 0 = some (r + 1) := (h.2 (1, 71, 16) (by decide)).1
theorem rK_0 (h : RuL σ r) : mK σ (r + 1) = 71 := (h.2 (1, 71, 16) (by decide)).2.1
theorem rN_0 (h : RuL σ r) : mN σ (r + 1) = 16 := (h.2 (1, 71, 16) (by decide)).2.2
theorem rP_1 (h : RuL σ r) : mP σ 9 r 1 = some (r + 2) := (h.2 (2, 75, 16) (by decide)).1
theorem rK_1 (h : RuL σ r) : mK σ (r + 2) = 75 := (h.2 (2, 75, 16) (by decide)).2.1
theorem rN_1 (h : RuL σ r) : mN σ (r + 2) = 16 := (h.2 (2, 75, 16) (by decide)).2.2
theorem rP_2 (h : RuL σ r) : mP σ 9 r 2 = some (r + 3) := (h.2 (3, 80, 16) (by decide)).1
theorem rK_2 (h : RuL σ r) : mK σ (r + 3) = 80 := (h.2 (3, 80, 16) (by decide)).2.1
theorem rN_2 (h : RuL σ r) : mN σ (r + 3) = 16 := (h.2 (3, 80, 16) (by decide)).2.2
theorem rP_3 (h : RuL σ r) : mP σ 9 r 3 = some (r + 4) := (h.2 (4, 86, 96) (by decide)).1
theorem rK_3 (h : RuL σ r) : mK σ (r + 4) = 86 := (h.2 (4, 86, 96) (by decide)).2.1
theorem rN_3 (h : RuL σ r) : mN σ (r + 4) = 96 := (h.2 (4, 86, 96) (by decide)).2.2
theorem rP_4 (h : RuL σ r) : mP σ 9 r 4 = some (r + 5) := (h.2 (5, 90, 96) (by decide)).1
theorem rK_4 (h : RuL σ r) : mK σ (r + 5) = 90 := (h.2 (5, 90, 96) (by decide)).2.1
theorem rN_4 (h : RuL σ r) : mN σ (r + 5) = 96 := (h.2 (5, 90, 96) (by decide)).2.2
theorem rP_5 (h : RuL σ r) : mP σ 9 r 5 = some (r + 6) := (h.2 (6, 95, 96) (by decide)).1
theorem rK_5 (h : RuL σ r) : mK σ (r + 6) = 95 := (h.2 (6, 95, 96) (by decide)).2.1
theorem rN_5 (h : RuL σ r) : mN σ (r + 6) = 96 := (h.2 (6, 95, 96) (by decide)).2.2
theorem rP_6 (h : RuL σ r) : mP σ 9 r 6 = some (r + 7) := (h.2 (7, 100, 96) (by decide)).1
theorem rK_6 (h : RuL σ r) : mK σ (r + 7) = 100 := (h.2 (7, 100, 96) (by decide)).2.1
theorem rN_6 (h : RuL σ r) : mN σ (r + 7) = 96 := (h.2 (7, 100, 96) (by decide)).2.2
theorem RuL.fr (h : RuL σ r) (hX : Kx σ) (hs : Sm T σ σ') (h9 : T 9 = false) : RuL σ' r := by
  have hr := hX.lt h.1 (by decide)
  refine ⟨(hs.K hr).trans h.1, fun e he => ?_⟩
  have hk : e.2.1 ≠ 0 := (show ∀ e ∈ rlk, e.2.1 ≠ 0 by decide) e he
  have hq := hX.lt (h.2 e he).2.1 hk
  exact ⟨(hs.P h9 hr _).trans (h.2 e he).1, (hs.K hq).trans (h.2 e he).2.1, (hs.N hq).trans (h.2 e he).2.2⟩
theorem FL.fr (h : FL σ c) (hX : Kx σ) (hs : Sm T σ σ') (hT : ∀ q, q = 4 ∨ q = 7 ∨ q = 9 ∨ q = 11 ∨ q = 12 → T q = false) : FL σ' c := by
  have hc := hX.lt h.1 (by decide)
  refine ⟨(hs.K hc).trans h.1, fun e he => ?_, fun e he => ?_, h.2.2.2.1.fr hX hs (hT 9 (by simp)), h.2.2.2.2.fr hX hs (hT 9 (by simp))⟩
  · have hk : e.2.1 ≠ 0 := (show ∀ e ∈ clk, e.2.1 ≠ 0 by decide) e he
    have hq := hX.lt (h.2.1 e he).1 hk
    exact ⟨(hs.K hq).trans (h.2.1 e he).1, (hs.N hq).trans (h.2.1 e he).2⟩
  · have ht := hT e.1 ((show ∀ e ∈ clp, e.1 = 4 ∨ e.1 = 7 ∨ e.1 = 9 ∨ e.1 = 11 ∨ e.1 = 12 by decide) e he)
    have hq : c + e.2.1 < mX σ := by
      rcases (show ∀ e ∈ clp, e.2.1 = 0 ∨ e.2.1 = 5 ∨ e.2.1 = 10 ∨ e.2.1 = 12 by decide) e he with z | z | z | z <;> rw [z]
      · exact hc
      · exact hX.lt (fK_5 h) (by decide)
      · exact hX.lt (fK_10 h) (by decide)
      · exact hX.lt (fK_12 h) (by decide)
    exact (hs.P ht hq _).trans (h.2.2.1 e he)
theorem FL.cc {σ : Mm} {c : Nat} (h : FL σ c) : mK σ c = 12 := h.1
theorem FL.r1 {σ : Mm} {c : Nat} (h : FL σ c) : RuL σ (c + 17) := h.2.2.2.1
theorem FL.r2 {σ : Mm} {c : Nat} (h : FL σ c) : RuL σ (c + 25) := h.2.2.2.2
theorem FL_sI (h : FL σ c) (k a f : Nat) (v : Int32) : FL (sI σ k a f v) c := h
theorem RuL_sI (h : RuL σ r) (k a f : Nat) (v : Int32) : RuL (sI σ k a f v) r := h
theorem FL_put (h : FL σ c) (a : Nat) (μ : Ms) : FL (put σ a μ) c := h
end FLS
