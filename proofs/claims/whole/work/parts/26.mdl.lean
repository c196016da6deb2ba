/-! ===== THE REFERENCE AS A PURE STATE (printed by wip/gen/model.py) ===== -/
/-- its arrays: field, how far behind the object, kind, length -/
def mar : List (Nat × Nat × Nat × Nat) := [(3, 1, 115, 12), (4, 2, 120, 12), (5, 3, 126, 12), (6, 4, 130, 12), (8, 5, 135, 30), (9, 6, 140, 30), (10, 7, 145, 30), (12, 8, 151, 160), (13, 9, 155, 160), (14, 10, 160, 160), (15, 11, 165, 160), (17, 12, 170, 6), (18, 13, 175, 6), (19, 14, 180, 6), (20, 15, 185, 6), (21, 16, 190, 6), (22, 17, 195, 6), (23, 18, 200, 6), (24, 19, 205, 6), (25, 20, 210, 6), (26, 21, 215, 6), (27, 22, 220, 6), (28, 23, 225, 6), (29, 24, 230, 6), (30, 25, 235, 6), (31, 26, 241, 6), (32, 27, 246, 6), (33, 28, 250, 6), (34, 29, 255, 6), (35, 30, 260, 6), (36, 31, 265, 6), (39, 32, 272, 300), (42, 33, 276, 17), (43, 34, 280, 17), (44, 35, 285, 17), (45, 36, 290, 408), (46, 37, 296, 17), (47, 38, 300, 17), (48, 39, 305, 17), (49, 40, 310, 408), (57, 41, 315, 200), (58, 42, 320, 200), (59, 43, 325, 200), (61, 44, 330, 30), (62, 45, 335, 30), (63, 46, 340, 30), (64, 47, 345, 30), (65, 48, 350, 30), (66, 49, 355, 30), (67, 50, 360, 30), (68, 51, 365, 210), (74, 52, 370, 5), (75, 53, 375, 5)]
/-- a state of the reference: its numbers by field, its arrays by field and place -/
abbrev Ms : Type := (Nat → Int32) × (Nat → Nat → Int32)
def fF (μ : Ms) (f : Nat) (v : Int32) : Ms := (fun g => if g = f then v else μ.1 g, μ.2)
def fA (μ : Ms) (f i : Nat) (v : Int32) : Ms := (μ.1, fun g j => if g = f ∧ j = i then v else μ.2 g j)
/-- how it lies in the memory -/
def LM (σ : Mm) (a : Nat) : Prop := mK σ a = 13 ∧ ∀ e ∈ mar, mP σ 13 a e.1 = some (a + e.2.1) ∧ mK σ (a + e.2.1) = e.2.2.1 ∧ mN σ (a + e.2.1) = e.2.2.2
def kiv (c : Nat) : Option (Nat × Nat) := (mar.find? (fun e => e.2.2.1 == c)).map (fun e => (e.1, e.2.1))
/-- a memory in which the reference's state is μ -/
def put (σ : Mm) (a : Nat) (μ : Ms) : Mm := (fun c q k => if c = 13 then (if q = a then μ.1 k else mI σ c q k) else match kiv c with
  | some fo => if q = a + fo.2 then μ.2 fo.1 k else mI σ c q k
  | none => mI σ c q k, σ.2)
theorem kiv_of : ∀ e ∈ mar, kiv e.2.2.1 = some (e.1, e.2.1) := by decide +kernel
theorem mar_ne : ∀ e ∈ mar, e.2.2.1 ≠ 13 := by decide +kernel
theorem mar_inj : ∀ e ∈ mar, ∀ e' ∈ mar, e.1 = e'.1 → e = e' := by decide +kernel
theorem kiv_inv {c f o : Nat} (h : kiv c = some (f, o)) : ∃ n, (f, o, c, n) ∈ mar := by
  unfold kiv at h
  cases hq : mar.find? (fun e => e.2.2.1 == c) with
  | none => rw [hq] at h; cases h
  | some e =>
    rw [hq] at h
    have h1 := List.mem_of_find?_eq_some hq
    have h2 : e.2.2.1 = c := by simpa using List.find?_some hq
    obtain ⟨e1, e2, e3, e4⟩ := e
    cases h
    dsimp only at h2
    subst h2
    exact ⟨e4, h1⟩
theorem put_F (σ : Mm) (a : Nat) (μ : Ms) (f : Nat) : mI (put σ a μ) 13 a f = μ.1 f := by simp [put, mI]
theorem put_sF (σ : Mm) (a : Nat) (μ : Ms) (f : Nat) (v : Int32) : sI (put σ a μ) 13 a f v = put σ a (fF μ f v) := by
  unfold sI
  show (up3 _ _ _ _ _, _) = (_, _)
  refine Prod.ext (funext fun c => funext fun q => funext fun k => ?_) rfl
  show (if c = 13 ∧ q = a ∧ k = f then v else mI (put σ a μ) c q k) = mI (put σ a (fF μ f v)) c q k
  simp only [put, mI, fF]
  by_cases h1 : c = 13
  · by_cases h2 : q = a
    · simp [h1, h2]
    · simp [h1, h2]
  · simp [h1]
theorem put_A (σ : Mm) (a : Nat) (μ : Ms) {f o K n : Nat} (he : (f, o, K, n) ∈ mar) (i : Nat) : mI (put σ a μ) K (a + o) i = μ.2 f i := by
  have h1 := kiv_of _ he
  have h2 := mar_ne _ he
  dsimp only at h1 h2
  simp [put, mI, h1, h2]
theorem put_sA (σ : Mm) (a : Nat) (μ : Ms) {f o K n : Nat} (he : (f, o, K, n) ∈ mar) (i : Nat) (v : Int32) : sI (put σ a μ) K (a + o) i v = put σ a (fA μ f i v) := by
  have h1 := kiv_of _ he
  have h2 := mar_ne _ he
  dsimp only at h1 h2
  refine Prod.ext (funext fun c => funext fun q => funext fun k => ?_) rfl
  show (if c = K ∧ q = a + o ∧ k = i then v else mI (put σ a μ) c q k) = mI (put σ a (fA μ f i v)) c q k
  simp only [put, mI, fA]
  by_cases hc : c = 13
  · simp [hc, Ne.symm h2]
  · rw [if_neg hc, if_neg hc]
    cases hk : kiv c with
    | none =>
      have : c ≠ K := fun z => by rw [z, h1] at hk; cases hk
      simp [this]
    | some fo =>
      obtain ⟨f', o'⟩ := fo
      dsimp only
      by_cases hK : c = K
      · subst hK
        rw [h1] at hk
        cases hk
        by_cases hq : q = a + o
        · by_cases hki : k = i <;> simp [hq, hki]
        · simp [hq]
      · obtain ⟨n', hm⟩ := kiv_inv hk
        have hf : f' ≠ f := fun z => hK (by have := mar_inj _ hm _ he z; exact congrArg (fun e => e.2.2.1) this)
        simp [hK, hf]
theorem LM.K {σ : Mm} {a : Nat} (h : LM σ a) (μ : Ms) : mK (put σ a μ) a = 13 := h.1
theorem mm_3 : ((3, 1, 115, 12) : Nat × Nat × Nat × Nat) ∈ mar := by decide +kernel
theorem pP_3 {σ : Mm} {a : Nat} (h : LM σ a) (μ : Ms) : mP (put σ a μ) 13 a 3 = some (a + 1) := (h.2 _ mm_3).1
theorem pK_3 {σ : Mm} {a : Nat} (h : LM σ a) (μ : Ms) : mK (put σ a μ) (a + 1) = 115 := (h.2 _ mm_3).2.1
theorem pN_3 {σ : Mm} {a : Nat} (h : LM σ a) (μ : Ms) : mN (put σ a μ) (a + 1) = 12 := (h.2 _ mm_3).2.2
theorem pA_3 (σ : Mm) (a : Nat) (μ : Ms) (i : Nat) : mI (put σ a μ) 115 (a + 1) i = μ.2 3 i := put_A σ a μ mm_3 i
theorem pS_3 (σ : Mm) (a : Nat) (μ : Ms) (i : Nat) (v : Int32) : sI (put σ a μ) 115 (a + 1) i v = put σ a (fA μ 3 i v) := put_sA σ a μ mm_3 i v
theorem mm_4 : ((4, 2, 120, 12) : Nat × Nat × Nat × Nat) ∈ mar := by decide +kernel
theorem pP_4 {σ : Mm} {a : Nat} (h : LM σ a) (μ : Ms) : mP (put σ a μ) 13 a 4 = some (a + 2) := (h.2 _ mm_4).1
theorem pK_4 {σ : Mm} {a : Nat} (h : LM σ a) (μ : Ms) : mK (put σ a μ) (a + 2) = 120 := (h.2 _ mm_4).2.1
theorem pN_4 {σ : Mm} {a : Nat} (h : LM σ a) (μ : Ms) : mN (put σ a μ) (a + 2) = 12 := (h.2 _ mm_4).2.2
theorem pA_4 (σ : Mm) (a : Nat) (μ : Ms) (i : Nat) : mI (put σ a μ) 120 (a + 2) i = μ.2 4 i := put_A σ a μ mm_4 i
theorem pS_4 (σ : Mm) (a : Nat) (μ : Ms) (i : Nat) (v : Int32) : sI (put σ a μ) 120 (a + 2) i v = put σ a (fA μ 4 i v) := put_sA σ a μ mm_4 i v
theorem mm_5 : ((5, 3, 126, 12) : Nat × Nat × Nat × Nat) ∈ mar := by decide +kernel
theorem pP_5 {σ : Mm} {a : Nat} (h : LM σ a) (μ : Ms) : mP (put σ a μ) 13 a 5 = some (a + 3) := (h.2 _ mm_5).1
theorem pK_5 {σ : Mm} {a : Nat} (h : LM σ a) (μ : Ms) : mK (put σ a μ) (a + 3) = 126 := (h.2 _ mm_5).2.1
theorem pN_5 {σ : Mm} {a : Nat} (h : LM σ a) (μ : Ms) : mN (put σ a μ) (a + 3) = 12 := (h.2 _ mm_5).2.2
theorem pA_5 (σ : Mm) (a : Nat) (μ : Ms) (i : Nat) : mI (put σ a μ) 126 (a + 3) i = μ.2 5 i := put_A σ a μ mm_5 i
theorem pS_5 (σ : Mm) (a : Nat) (μ : Ms) (i : Nat) (v : Int32) : sI (put σ a μ) 126 (a + 3) i v = put σ a (fA μ 5 i v) := put_sA σ a μ mm_5 i v
theorem mm_6 : ((6, 4, 130, 12) : Nat × Nat × Nat × Nat) ∈ mar := by decide +kernel
theorem pP_6 {σ : Mm} {a : Nat} (h : LM σ a) (μ : Ms) : mP (put σ a μ) 13 a 6 = some (a + 4) := (h.2 _ mm_6).1
theorem pK_6 {σ : Mm} {a : Nat} (h : LM σ a) (μ : Ms) : mK (put σ a μ) (a + 4) = 130 := (h.2 _ mm_6).2.1
theorem pN_6 {σ : Mm} {a : Nat} (h : LM σ a) (μ : Ms) : mN (put σ a μ) (a + 4) = 12 := (h.2 _ mm_6).2.2
theorem pA_6 (σ : Mm) (a : Nat) (μ : Ms) (i : Nat) : mI (put σ a μ) 130 (a + 4) i = μ.2 6 i := put_A σ a μ mm_6 i
theorem pS_6 (σ : Mm) (a : Nat) (μ : Ms) (i : Nat) (v : Int32) : sI (put σ a μ) 130 (a + 4) i v = put σ a (fA μ 6 i v) := put_sA σ a μ mm_6 i v
theorem mm_8 : ((8, 5, 135, 30) : Nat × Nat × Nat × Nat) ∈ mar := by decide +kernel
theorem pP_8 {σ : Mm} {a : Nat} (h : LM σ a) (μ : Ms) : mP (put σ a μ) 13 a 8 = some (a + 5) := (h.2 _ mm_8).1
theorem pK_8 {σ : Mm} {a : Nat} (h : LM σ a) (μ : Ms) : mK (put σ a μ) (a + 5) = 135 := (h.2 _ mm_8).2.1
theorem pN_8 {σ : Mm} {a : Nat} (h : LM σ a) (μ : Ms) : mN (put σ a μ) (a + 5) = 30 := (h.2 _ mm_8).2.2
theorem pA_8 (σ : Mm) (a : Nat) (μ : Ms) (i : Nat) : mI (put σ a μ) 135 (a + 5) i = μ.2 8 i := put_A σ a μ mm_8 i
theorem pS_8 (σ : Mm) (a : Nat) (μ : Ms) (i : Nat) (v : Int32) : sI (put σ a μ) 135 (a + 5) i v = put σ a (fA μ 8 i v) := put_sA σ a μ mm_8 i v
theorem mm_9 : ((9, 6, 140, 30) : Nat × Nat × Nat × Nat) ∈ mar := by decide +kernel
theorem pP_9 {σ : Mm} {a : Nat} (h : LM σ a) (μ : Ms) : mP (put σ a μ) 13 a 9 = some (a + 6) := (h.2 _ mm_9).1
theorem pK_9 {σ : Mm} {a : Nat} (h : LM σ a) (μ : Ms) : mK (put σ a μ) (a + 6) = 140 := (h.2 _ mm_9).2.1
theorem pN_9 {σ : Mm} {a : Nat} (h : LM σ a) (μ : Ms) : mN (put σ a μ) (a + 6) = 30 := (h.2 _ mm_9).2.2
theorem pA_9 (σ : Mm) (a : Nat) (μ : Ms) (i : Nat) : mI (put σ a μ) 140 (a + 6) i = μ.2 9 i := put_A σ a μ mm_9 i
theorem pS_9 (σ : Mm) (a : Nat) (μ : Ms) (i : Nat) (v : Int32) : sI (put σ a μ) 140 (a + 6) i v = put σ a (fA μ 9 i v) := put_sA σ a μ mm_9 i v
theorem mm_10 : ((10, 7, 145, 30) : Nat × Nat × Nat × Nat) ∈ mar := by decide +kernel
theorem pP_10 {σ : Mm} {a : Nat} (h : LM σ a) (μ : Ms) : mP (put σ a μ) 13 a 10 = some (a + 7) := (h.2 _ mm_10).1
theorem pK_10 {σ : Mm} {a : Nat} (h : LM σ a) (μ : Ms) : mK (put σ a μ) (a + 7) = 145 := (h.2 _ mm_10).2.1
theorem pN_10 {σ : Mm} {a : Nat} (h : LM σ a) (μ : Ms) : mN (put σ a μ) (a + 7) = 30 := (h.2 _ mm_10).2.2
theorem pA_10 (σ : Mm) (a : Nat) (μ : Ms) (i : Nat) : mI (put σ a μ) 145 (a + 7) i = μ.2 10 i := put_A σ a μ mm_10 i
theorem pS_10 (σ : Mm) (a : Nat) (μ : Ms) (i : Nat) (v : Int32) : sI (put σ a μ) 145 (a + 7) i v = put σ a (fA μ 10 i v) := put_sA σ a μ mm_10 i v
theorem mm_12 : ((12, 8, 151, 160) : Nat × Nat × Nat × Nat) ∈ mar := by decide +kernel
theorem pP_12 {σ : Mm} {a : Nat} (h : LM σ a) (μ : Ms) : mP (put σ a μ) 13 a 12 = some (a + 8) := (h.2 _ mm_12).1
theorem pK_12 {σ : Mm} {a : Nat} (h : LM σ a) (μ : Ms) : mK (put σ a μ) (a + 8) = 151 := (h.2 _ mm_12).2.1
theorem pN_12 {σ : Mm} {a : Nat} (h : LM σ a) (μ : Ms) : mN (put σ a μ) (a + 8) = 160 := (h.2 _ mm_12).2.2
theorem pA_12 (σ : Mm) (a : Nat) (μ : Ms) (i : Nat) : mI (put σ a μ) 151 (a + 8) i = μ.2 12 i := put_A σ a μ mm_12 i
theorem pS_12 (σ : Mm) (a : Nat) (μ : Ms) (i : Nat) (v : Int32) : sI (put σ a μ) 151 (a + 8) i v = put σ a (fA μ 12 i v) := put_sA σ a μ mm_12 i v
theorem mm_13 : ((13, 9, 155, 160) : Nat × Nat × Nat × Nat) ∈ mar := by decide +kernel
theorem pP_13 {σ : Mm} {a : Nat} (h : LM σ a) (μ : Ms) : mP (put σ a μ) 13 a 13 = some (a + 9) := (h.2 _ mm_13).1
theorem pK_13 {σ : Mm} {a : Nat} (h : LM σ a) (μ : Ms) : mK (put σ a μ) (a + 9) = 155 := (h.2 _ mm_13).2.1
theorem pN_13 {σ : Mm} {a : Nat} (h : LM σ a) (μ : Ms) : mN (put σ a μ) (a + 9) = 160 := (h.2 _ mm_13).2.2
theorem pA_13 (σ : Mm) (a : Nat) (μ : Ms) (i : Nat) : mI (put σ a μ) 155 (a + 9) i = μ.2 13 i := put_A σ a μ mm_13 i
theorem pS_13 (σ : Mm) (a : Nat) (μ : Ms) (i : Nat) (v : Int32) : sI (put σ a μ) 155 (a + 9) i v = put σ a (fA μ 13 i v) := put_sA σ a μ mm_13 i v
theorem mm_14 : ((14, 10, 160, 160) : Nat × Nat × Nat × Nat) ∈ mar := by decide +kernel
theorem pP_14 {σ : Mm} {a : Nat} (h : LM σ a) (μ : Ms) : mP (put σ a μ) 13 a 14 = some (a + 10) := (h.2 _ mm_14).1
theorem pK_14 {σ : Mm} {a : Nat} (h : LM σ a) (μ : Ms) : mK (put σ a μ) (a + 10) = 160 := (h.2 _ mm_14).2.1
theorem pN_14 {σ : Mm} {a : Nat} (h : LM σ a) (μ : Ms) : mN (put σ a μ) (a + 10) = 160 := (h.2 _ mm_14).2.2
theorem pA_14 (σ : Mm) (a : Nat) (μ : Ms) (i : Nat) : mI (put σ a μ) 160 (a + 10) i = μ.2 14 i := put_A σ a μ mm_14 i
theorem pS_14 (σ : Mm) (a : Nat) (μ : Ms) (i : Nat) (v : Int32) : sI (put σ a μ) 160 (a + 10) i v = put σ a (fA μ 14 i v) := put_sA σ a μ mm_14 i v
theorem mm_15 : ((15, 11, 165, 160) : Nat × Nat × Nat × Nat) ∈ mar := by decide +kernel
theorem pP_15 {σ : Mm} {a : Nat} (h : LM σ a) (μ : Ms) : mP (put σ a μ) 13 a 15 = some (a + 11) := (h.2 _ mm_15).1
theorem pK_15 {σ : Mm} {a : Nat} (h : LM σ a) (μ : Ms) : mK (put σ a μ) (a + 11) = 165 := (h.2 _ mm_15).2.1
theorem pN_15 {σ : Mm} {a : Nat} (h : LM σ a) (μ : Ms) : mN (put σ a μ) (a + 11) = 160 := (h.2 _ mm_15).2.2
theorem pA_15 (σ : Mm) (a : Nat) (μ : Ms) (i : Nat) : mI (put σ a μ) 165 (a + 11) i = μ.2 15 i := put_A σ a μ mm_15 i
theorem pS_15 (σ : Mm) (a : Nat) (μ : Ms) (i : Nat) (v : Int32) : sI (put σ a μ) 165 (a + 11) i v = put σ a (fA μ 15 i v) := put_sA σ a μ mm_15 i v
theorem mm_17 : ((17, 12, 170, 6) : Nat × Nat × Nat × Nat) ∈ mar := by decide +kernel
theorem pP_17 {σ : Mm} {a : Nat} (h : LM σ a) (μ : Ms) : mP (put σ a μ) 13 a 17 = some (a + 12) := (h.2 _ mm_17).1
theorem pK_17 {σ : Mm} {a : Nat} (h : LM σ a) (μ : Ms) : mK (put σ a μ) (a + 12) = 170 := (h.2 _ mm_17).2.1
theorem pN_17 {σ : Mm} {a : Nat} (h : LM σ a) (μ : Ms) : mN (put σ a μ) (a + 12) = 6 := (h.2 _ mm_17).2.2
theorem pA_17 (σ : Mm) (a : Nat) (μ : Ms) (i : Nat) : mI (put σ a μ) 170 (a + 12) i = μ.2 17 i := put_A σ a μ mm_17 i
theorem pS_17 (σ : Mm) (a : Nat) (μ : Ms) (i : Nat) (v : Int32) : sI (put σ a μ) 170 (a + 12) i v = put σ a (fA μ 17 i v) := put_sA σ a μ mm_17 i v
theorem mm_18 : ((18, 13, 175, 6) : Nat × Nat × Nat × Nat) ∈ mar := by decide +kernel
theorem pP_18 {σ : Mm} {a : Nat} (h : LM σ a) (μ : Ms) : mP (put σ a μ) 13 a 18 = some (a + 13) := (h.2 _ mm_18).1
theorem pK_18 {σ : Mm} {a : Nat} (h : LM σ a) (μ : Ms) : mK (put σ a μ) (a + 13) = 175 := (h.2 _ mm_18).2.1
theorem pN_18 {σ : Mm} {a : Nat} (h : LM σ a) (μ : Ms) : mN (put σ a μ) (a + 13) = 6 := (h.2 _ mm_18).2.2
theorem pA_18 (σ : Mm) (a : Nat) (μ : Ms) (i : Nat) : mI (put σ a μ) 175 (a + 13) i = μ.2 18 i := put_A σ a μ mm_18 i
theorem pS_18 (σ : Mm) (a : Nat) (μ : Ms) (i : Nat) (v : Int32) : sI (put σ a μ) 175 (a + 13) i v = put σ a (fA μ 18 i v) := put_sA σ a μ mm_18 i v
theorem mm_19 : ((19, 14, 180, 6) : Nat × Nat × Nat × Nat) ∈ mar := by decide +kernel
theorem pP_19 {σ : Mm} {a : Nat} (h : LM σ a) (μ : Ms) : mP (put σ a μ) 13 a 19 = some (a + 14) := (h.2 _ mm_19).1
theorem pK_19 {σ : Mm} {a : Nat} (h : LM σ a) (μ : Ms) : mK (put σ a μ) (a + 14) = 180 := (h.2 _ mm_19).2.1
theorem pN_19 {σ : Mm} {a : Nat} (h : LM σ a) (μ : Ms) : mN (put σ a μ) (a + 14) = 6 := (h.2 _ mm_19).2.2
theorem pA_19 (σ : Mm) (a : Nat) (μ : Ms) (i : Nat) : mI (put σ a μ) 180 (a + 14) i = μ.2 19 i := put_A σ a μ mm_19 i
theorem pS_19 (σ : Mm) (a : Nat) (μ : Ms) (i : Nat) (v : Int32) : sI (put σ a μ) 180 (a + 14) i v = put σ a (fA μ 19 i v) := put_sA σ a μ mm_19 i v
theorem mm_20 : ((20, 15, 185, 6) : Nat × Nat × Nat × Nat) ∈ mar := by decide +kernel
theorem pP_20 {σ : Mm} {a : Nat} (h : LM σ a) (μ : Ms) : mP (put σ a μ) 13 a 20 = some (a + 15) := (h.2 _ mm_20).1
theorem pK_20 {σ : Mm} {a : Nat} (h : LM σ a) (μ : Ms) : mK (put σ a μ) (a + 15) = 185 := (h.2 _ mm_20).2.1
theorem pN_20 {σ : Mm} {a : Nat} (h : LM σ a) (μ : Ms) : mN (put σ a μ) (a + 15) = 6 := (h.2 _ mm_20).2.2
theorem pA_20 (σ : Mm) (a : Nat) (μ : Ms) (i : Nat) : mI (put σ a μ) 185 (a + 15) i = μ.2 20 i := put_A σ a μ mm_20 i
theorem pS_20 (σ : Mm) (a : Nat) (μ : Ms) (i : Nat) (v : Int32) : sI (put σ a μ) 185 (a + 15) i v = put σ a (fA μ 20 i v) := put_sA σ a μ mm_20 i v
theorem mm_21 : ((21, 16, 190, 6) : Nat × Nat × Nat × Nat) ∈ mar := by decide +kernel
theorem pP_21 {σ : Mm} {a : Nat} (h : LM σ a) (μ : Ms) : mP (put σ a μ) 13 a 21 = some (a + 16) := (h.2 _ mm_21).1
theorem pK_21 {σ : Mm} {a : Nat} (h : LM σ a) (μ : Ms) : mK (put σ a μ) (a + 16) = 190 := (h.2 _ mm_21).2.1
theorem pN_21 {σ : Mm} {a : Nat} (h : LM σ a) (μ : Ms) : mN (put σ a μ) (a + 16) = 6 := (h.2 _ mm_21).2.2
theorem pA_21 (σ : Mm) (a : Nat) (μ : Ms) (i : Nat) : mI (put σ a μ) 190 (a + 16) i = μ.2 21 i := put_A σ a μ mm_21 i
theorem pS_21 (σ : Mm) (a : Nat) (μ : Ms) (i : Nat) (v : Int32) : sI (put σ a μ) 190 (a + 16) i v = put σ a (fA μ 21 i v) := put_sA σ a μ mm_21 i v
theorem mm_22 : ((22, 17, 195, 6) : Nat × Nat × Nat × Nat) ∈ mar := by decide +kernel
theorem pP_22 {σ : Mm} {a : Nat} (h : LM σ a) (μ : Ms) : mP (put σ a μ) 13 a 22 = some (a + 17) := (h.2 _ mm_22).1
theorem pK_22 {σ : Mm} {a : Nat} (h : LM σ a) (μ : Ms) : mK (put σ a μ) (a + 17) = 195 := (h.2 _ mm_22).2.1
theorem pN_22 {σ : Mm} {a : Nat} (h : LM σ a) (μ : Ms) : mN (put σ a μ) (a + 17) = 6 := (h.2 _ mm_22).2.2
theorem pA_22 (σ : Mm) (a : Nat) (μ : Ms) (i : Nat) : mI (put σ a μ) 195 (a + 17) i = μ.2 22 i := put_A σ a μ mm_22 i
theorem pS_22 (σ : Mm) (a : Nat) (μ : Ms) (i : Nat) (v : Int32) : sI (put σ a μ) 195 (a + 17) i v = put σ a (fA μ 22 i v) := put_sA σ a μ mm_22 i v
theorem mm_23 : ((23, 18, 200, 6) : Nat × Nat × Nat × Nat) ∈ mar := by decide +kernel
theorem pP_23 {σ : Mm} {a : Nat} (h : LM σ a) (μ : Ms) : mP (put σ a μ) 13 a 23 = some (a + 18) := (h.2 _ mm_23).1
theorem pK_23 {σ : Mm} {a : Nat} (h : LM σ a) (μ : Ms) : mK (put σ a μ) (a + 18) = 200 := (h.2 _ mm_23).2.1
theorem pN_23 {σ : Mm} {a : Nat} (h : LM σ a) (μ : Ms) : mN (put σ a μ) (a + 18) = 6 := (h.2 _ mm_23).2.2
theorem pA_23 (σ : Mm) (a : Nat) (μ : Ms) (i : Nat) : mI (put σ a μ) 200 (a + 18) i = μ.2 23 i := put_A σ a μ mm_23 i
theorem pS_23 (σ : Mm) (a : Nat) (μ : Ms) (i : Nat) (v : Int32) : sI (put σ a μ) 200 (a + 18) i v = put σ a (fA μ 23 i v) := put_sA σ a μ mm_23 i v
theorem mm_24 : ((24, 19, 205, 6) : Nat × Nat × Nat × Nat) ∈ mar := by decide +kernel
theorem pP_24 {σ : Mm} {a : Nat} (h : LM σ a) (μ : Ms) : mP (put σ a μ) 13 a 24 = some (a + 19) := (h.2 _ mm_24).1
theorem pK_24 {σ : Mm} {a : Nat} (h : LM σ a) (μ : Ms) : mK (put σ a μ) (a + 19) = 205 := (h.2 _ mm_24).2.1
theorem pN_24 {σ : Mm} {a : Nat} (h : LM σ a) (μ : Ms) : mN (put σ a μ) (a + 19) = 6 := (h.2 _ mm_24).2.2
theorem pA_24 (σ : Mm) (a : Nat) (μ : Ms) (i : Nat) : mI (put σ a μ) 205 (a + 19) i = μ.2 24 i := put_A σ a μ mm_24 i
theorem pS_24 (σ : Mm) (a : Nat) (μ : Ms) (i : Nat) (v : Int32) : sI (put σ a μ) 205 (a + 19) i v = put σ a (fA μ 24 i v) := put_sA σ a μ mm_24 i v
theorem mm_25 : ((25, 20, 210, 6) : Nat × Nat × Nat × Nat) ∈ mar := by decide +kernel
theorem pP_25 {σ : Mm} {a : Nat} (h : LM σ a) (μ : Ms) : mP (put σ a μ) 13 a 25 = some (a + 20) := (h.2 _ mm_25).1
theorem pK_25 {σ : Mm} {a : Nat} (h : LM σ a) (μ : Ms) : mK (put σ a μ) (a + 20) = 210 := (h.2 _ mm_25).2.1
theorem pN_25 {σ : Mm} {a : Nat} (h : LM σ a) (μ : Ms) : mN (put σ a μ) (a + 20) = 6 := (h.2 _ mm_25).2.2
theorem pA_25 (σ : Mm) (a : Nat) (μ : Ms) (i : Nat) : mI (put σ a μ) 210 (a + 20) i = μ.2 25 i := put_A σ a μ mm_25 i
theorem pS_25 (σ : Mm) (a : Nat) (μ : Ms) (i : Nat) (v : Int32) : sI (put σ a μ) 210 (a + 20) i v = put σ a (fA μ 25 i v) := put_sA σ a μ mm_25 i v
theorem mm_26 : ((26, 21, 215, 6) : Nat × Nat × Nat × Nat) ∈ mar := by decide +kernel
theorem pP_26 {σ : Mm} {a : Nat} (h : LM σ a) (μ : Ms) : mP (put σ a μ) 13 a 26 = some (a + 21) := (h.2 _ mm_26).1
theorem pK_26 {σ : Mm} {a : Nat} (h : LM σ a) (μ : Ms) : mK (put σ a μ) (a + 21) = 215 := (h.2 _ mm_26).2.1
theorem pN_26 {σ : Mm} {a : Nat} (h : LM σ a) (μ : Ms) : mN (put σ a μ) (a + 21) = 6 := (h.2 _ mm_26).2.2
theorem pA_26 (σ : Mm) (a : Nat) (μ : Ms) (i : Nat) : mI (put σ a μ) 215 (a + 21) i = μ.2 26 i := put_A σ a μ mm_26 i
theorem pS_26 (σ : Mm) (a : Nat) (μ : Ms) (i : Nat) (v : Int32) : sI (put σ a μ) 215 (a + 21) i v = put σ a (fA μ 26 i v) := put_sA σ a μ mm_26 i v
theorem mm_27 : ((27, 22, 220, 6) : Nat × Nat × Nat × Nat) ∈ mar := by decide +kernel
theorem pP_27 {σ : Mm} {a : Nat} (h : LM σ a) (μ : Ms) : mP (put σ a μ) 13 a 27 = some (a + 22) := (h.2 _ mm_27).1
theorem pK_27 {σ : Mm} {a : Nat} (h : LM σ a) (μ : Ms) : mK (put σ a μ) (a + 22) = 220 := (h.2 _ mm_27).2.1
theorem pN_27 {σ : Mm} {a : Nat} (h : LM σ a) (μ : Ms) : mN (put σ a μ) (a + 22) = 6 := (h.2 _ mm_27).2.2
theorem pA_27 (σ : Mm) (a : Nat) (μ : Ms) (i : Nat) : mI (put σ a μ) 220 (a + 22) i = μ.2 27 i := put_A σ a μ mm_27 i
theorem pS_27 (σ : Mm) (a : Nat) (μ : Ms) (i : Nat) (v : Int32) : sI (put σ a μ) 220 (a + 22) i v = put σ a (fA μ 27 i v) := put_sA σ a μ mm_27 i v
theorem mm_28 : ((28, 23, 225, 6) : Nat × Nat × Nat × Nat) ∈ mar := by decide +kernel
theorem pP_28 {σ : Mm} {a : Nat} (h : LM σ a) (μ : Ms) : mP (put σ a μ) 13 a 28 = some (a + 23) := (h.2 _ mm_28).1
theorem pK_28 {σ : Mm} {a : Nat} (h : LM σ a) (μ : Ms) : mK (put σ a μ) (a + 23) = 225 := (h.2 _ mm_28).2.1
theorem pN_28 {σ : Mm} {a : Nat} (h : LM σ a) (μ : Ms) : mN (put σ a μ) (a + 23) = 6 := (h.2 _ mm_28).2.2
theorem pA_28 (σ : Mm) (a : Nat) (μ : Ms) (i : Nat) : mI (put σ a μ) 225 (a + 23) i = μ.2 28 i := put_A σ a μ mm_28 i
theorem pS_28 (σ : Mm) (a : Nat) (μ : Ms) (i : Nat) (v : Int32) : sI (put σ a μ) 225 (a + 23) i v = put σ a (fA μ 28 i v) := put_sA σ a μ mm_28 i v
theorem mm_29 : ((29, 24, 230, 6) : Nat × Nat × Nat × Nat) ∈ mar := by decide +kernel
theorem pP_29 {σ : Mm} {a : Nat} (h : LM σ a) (μ : Ms) : mP (put σ a μ) 13 a 29 = some (a + 24) := (h.2 _ mm_29).1
theorem pK_29 {σ : Mm} {a : Nat} (h : LM σ a) (μ : Ms) : mK (put σ a μ) (a + 24) = 230 := (h.2 _ mm_29).2.1
theorem pN_29 {σ : Mm} {a : Nat} (h : LM σ a) (μ : Ms) : mN (put σ a μ) (a + 24) = 6 := (h.2 _ mm_29).2.2
theorem pA_29 (σ : Mm) (a : Nat) (μ : Ms) (i : Nat) : mI (put σ a μ) 230 (a + 24) i = μ.2 29 i := put_A σ a μ mm_29 i
theorem pS_29 (σ : Mm) (a : Nat) (μ : Ms) (i : Nat) (v : Int32) : sI (put σ a μ) 230 (a + 24) i v = put σ a (fA μ 29 i v) := put_sA σ a μ mm_29 i v
theorem mm_30 : ((30, 25, 235, 6) : Nat × Nat × Nat × Nat) ∈ mar := by decide +kernel
theorem pP_30 {σ : Mm} {a : Nat} (h : LM σ a) (μ : Ms) : mP (put σ a μ) 13 a 30 = some (a + 25) := (h.2 _ mm_30).1
theorem pK_30 {σ : Mm} {a : Nat} (h : LM σ a) (μ : Ms) : mK (put σ a μ) (a + 25) = 235 := (h.2 _ mm_30).2.1
theorem pN_30 {σ : Mm} {a : Nat} (h : LM σ a) (μ : Ms) : mN (put σ a μ) (a + 25) = 6 := (h.2 _ mm_30).2.2
theorem pA_30 (σ : Mm) (a : Nat) (μ : Ms) (i : Nat) : mI (put σ a μ) 235 (a + 25) i = μ.2 30 i := put_A σ a μ mm_30 i
theorem pS_30 (σ : Mm) (a : Nat) (μ : Ms) (i : Nat) (v : Int32) : sI (put σ a μ) 235 (a + 25) i v = put σ a (fA μ 30 i v) := put_sA σ a μ mm_30 i v
theorem mm_31 : ((31, 26, 241, 6) : Nat × Nat × Nat × Nat) ∈ mar := by decide +kernel
theorem pP_31 {σ : Mm} {a : Nat} (h : LM σ a) (μ : Ms) : mP (put σ a μ) 13 a 31 = some (a + 26) := (h.2 _ mm_31).1
theorem pK_31 {σ : Mm} {a : Nat} (h : LM σ a) (μ : Ms) : mK (put σ a μ) (a + 26) = 241 := (h.2 _ mm_31).2.1
theorem pN_31 {σ : Mm} {a : Nat} (h : LM σ a) (μ : Ms) : mN (put σ a μ) (a + 26) = 6 := (h.2 _ mm_31).2.2
theorem pA_31 (σ : Mm) (a : Nat) (μ : Ms) (i : Nat) : mI (put σ a μ) 241 (a + 26) i = μ.2 31 i := put_A σ a μ mm_31 i
theorem pS_31 (σ : Mm) (a : Nat) (μ : Ms) (i : Nat) (v : Int32) : sI (put σ a μ) 241 (a + 26) i v = put σ a (fA μ 31 i v) := put_sA σ a μ mm_31 i v
theorem mm_32 : ((32, 27, 246, 6) : Nat × Nat × Nat × Nat) ∈ mar := by decide +kernel
theorem pP_32 {σ : Mm} {a : Nat} (h : LM σ a) (μ : Ms) : mP (put σ a μ) 13 a 32 = some (a + 27) := (h.2 _ mm_32).1
theorem pK_32 {σ : Mm} {a : Nat} (h : LM σ a) (μ : Ms) : mK (put σ a μ) (a + 27) = 246 := (h.2 _ mm_32).2.1
theorem pN_32 {σ : Mm} {a : Nat} (h : LM σ a) (μ : Ms) : mN (put σ a μ) (a + 27) = 6 := (h.2 _ mm_32).2.2
theorem pA_32 (σ : Mm) (a : Nat) (μ : Ms) (i : Nat) : mI (put σ a μ) 246 (a + 27) i = μ.2 32 i := put_A σ a μ mm_32 i
theorem pS_32 (σ : Mm) (a : Nat) (μ : Ms) (i : Nat) (v : Int32) : sI (put σ a μ) 246 (a + 27) i v = put σ a (fA μ 32 i v) := put_sA σ a μ mm_32 i v
theorem mm_33 : ((33, 28, 250, 6) : Nat × Nat × Nat × Nat) ∈ mar := by decide +kernel
theorem pP_33 {σ : Mm} {a : Nat} (h : LM σ a) (μ : Ms) : mP (put σ a μ) 13 a 33 = some (a + 28) := (h.2 _ mm_33).1
theorem pK_33 {σ : Mm} {a : Nat} (h : LM σ a) (μ : Ms) : mK (put σ a μ) (a + 28) = 250 := (h.2 _ mm_33).2.1
theorem pN_33 {σ : Mm} {a : Nat} (h : LM σ a) (μ : Ms) : mN (put σ a μ) (a + 28) = 6 := (h.2 _ mm_33).2.2
theorem pA_33 (σ : Mm) (a : Nat) (μ : Ms) (i : Nat) : mI (put σ a μ) 250 (a + 28) i = μ.2 33 i := put_A σ a μ mm_33 i
theorem pS_33 (σ : Mm) (a : Nat) (μ : Ms) (i : Nat) (v : Int32) : sI (put σ a μ) 250 (a + 28) i v = put σ a (fA μ 33 i v) := put_sA σ a μ mm_33 i v
theorem mm_34 : ((34, 29, 255, 6) : Nat × Nat × Nat × Nat) ∈ mar := by decide +kernel
theorem pP_34 {σ : Mm} {a : Nat} (h : LM σ a) (μ : Ms) : mP (put σ a μ) 13 a 34 = some (a + 29) := (h.2 _ mm_34).1
theorem pK_34 {σ : Mm} {a : Nat} (h : LM σ a) (μ : Ms) : mK (put σ a μ) (a + 29) = 255 := (h.2 _ mm_34).2.1
theorem pN_34 {σ : Mm} {a : Nat} (h : LM σ a) (μ : Ms) : mN (put σ a μ) (a + 29) = 6 := (h.2 _ mm_34).2.2
theorem pA_34 (σ : Mm) (a : Nat) (μ : Ms) (i : Nat) : mI (put σ a μ) 255 (a + 29) i = μ.2 34 i := put_A σ a μ mm_34 i
theorem pS_34 (σ : Mm) (a : Nat) (μ : Ms) (i : Nat) (v : Int32) : sI (put σ a μ) 255 (a + 29) i v = put σ a (fA μ 34 i v) := put_sA σ a μ mm_34 i v
theorem mm_35 : ((35, 30, 260, 6) : Nat × Nat × Nat × Nat) ∈ mar := by decide +kernel
theorem pP_35 {σ : Mm} {a : Nat} (h : LM σ a) (μ : Ms) : mP (put σ a μ) 13 a 35 = some (a + 30) := (h.2 _ mm_35).1
theorem pK_35 {σ : Mm} {a : Nat} (h : LM σ a) (μ : Ms) : mK (put σ a μ) (a + 30) = 260 := (h.2 _ mm_35).2.1
theorem pN_35 {σ : Mm} {a : Nat} (h : LM σ a) (μ : Ms) : mN (put σ a μ) (a + 30) = 6 := (h.2 _ mm_35).2.2
theorem pA_35 (σ : Mm) (a : Nat) (μ : Ms) (i : Nat) : mI (put σ a μ) 260 (a + 30) i = μ.2 35 i := put_A σ a μ mm_35 i
theorem pS_35 (σ : Mm) (a : Nat) (μ : Ms) (i : Nat) (v : Int32) : sI (put σ a μ) 260 (a + 30) i v = put σ a (fA μ 35 i v) := put_sA σ a μ mm_35 i v
theorem mm_36 : ((36, 31, 265, 6) : Nat × Nat × Nat × Nat) ∈ mar := by decide +kernel
theorem pP_36 {σ : Mm} {a : Nat} (h : LM σ a) (μ : Ms) : mP (put σ a μ) 13 a 36 = some (a + 31) := (h.2 _ mm_36).1
theorem pK_36 {σ : Mm} {a : Nat} (h : LM σ a) (μ : Ms) : mK (put σ a μ) (a + 31) = 265 := (h.2 _ mm_36).2.1
theorem pN_36 {σ : Mm} {a : Nat} (h : LM σ a) (μ : Ms) : mN (put σ a μ) (a + 31) = 6 := (h.2 _ mm_36).2.2
theorem pA_36 (σ : Mm) (a : Nat) (μ : Ms) (i : Nat) : mI (put σ a μ) 265 (a + 31) i = μ.2 36 i := put_A σ a μ mm_36 i
theorem pS_36 (σ : Mm) (a : Nat) (μ : Ms) (i : Nat) (v : Int32) : sI (put σ a μ) 265 (a + 31) i v = put σ a (fA μ 36 i v) := put_sA σ a μ mm_36 i v
theorem mm_39 : ((39, 32, 272, 300) : Nat × Nat × Nat × Nat) ∈ mar := by decide +kernel
theorem pP_39 {σ : Mm} {a : Nat} (h : LM σ a) (μ : Ms) : mP (put σ a μ) 13 a 39 = some (a + 32) := (h.2 _ mm_39).1
theorem pK_39 {σ : Mm} {a : Nat} (h : LM σ a) (μ : Ms) : mK (put σ a μ) (a + 32) = 272 := (h.2 _ mm_39).2.1
theorem pN_39 {σ : Mm} {a : Nat} (h : LM σ a) (μ : Ms) : mN (put σ a μ) (a + 32) = 300 := (h.2 _ mm_39).2.2
theorem pA_39 (σ : Mm) (a : Nat) (μ : Ms) (i : Nat) : mI (put σ a μ) 272 (a + 32) i = μ.2 39 i := put_A σ a μ mm_39 i
theorem pS_39 (σ : Mm) (a : Nat) (μ : Ms) (i : Nat) (v : Int32) : sI (put σ a μ) 272 (a + 32) i v = put σ a (fA μ 39 i v) := put_sA σ a μ mm_39 i v
theorem mm_42 : ((42, 33, 276, 17) : Nat × Nat × Nat × Nat) ∈ mar := by decide +kernel
theorem pP_42 {σ : Mm} {a : Nat} (h : LM σ a) (μ : Ms) : mP (put σ a μ) 13 a 42 = some (a + 33) := (h.2 _ mm_42).1
theorem pK_42 {σ : Mm} {a : Nat} (h : LM σ a) (μ : Ms) : mK (put σ a μ) (a + 33) = 276 := (h.2 _ mm_42).2.1
theorem pN_42 {σ : Mm} {a : Nat} (h : LM σ a) (μ : Ms) : mN (put σ a μ) (a + 33) = 17 := (h.2 _ mm_42).2.2
theorem pA_42 (σ : Mm) (a : Nat) (μ : Ms) (i : Nat) : mI (put σ a μ) 276 (a + 33) i = μ.2 42 i := put_A σ a μ mm_42 i
theorem pS_42 (σ : Mm) (a : Nat) (μ : Ms) (i : Nat) (v : Int32) : sI (put σ a μ) 276 (a + 33) i v = put σ a (fA μ 42 i v) := put_sA σ a μ mm_42 i v
theorem mm_43 : ((43, 34, 280, 17) : Nat × Nat × Nat × Nat) ∈ mar := by decide +kernel
theorem pP_43 {σ : Mm} {a : Nat} (h : LM σ a) (μ : Ms) : mP (put σ a μ) 13 a 43 = some (a + 34) := (h.2 _ mm_43).1
theorem pK_43 {σ : Mm} {a : Nat} (h : LM σ a) (μ : Ms) : mK (put σ a μ) (a + 34) = 280 := (h.2 _ mm_43).2.1
theorem pN_43 {σ : Mm} {a : Nat} (h : LM σ a) (μ : Ms) : mN (put σ a μ) (a + 34) = 17 := (h.2 _ mm_43).2.2
theorem pA_43 (σ : Mm) (a : Nat) (μ : Ms) (i : Nat) : mI (put σ a μ) 280 (a + 34) i = μ.2 43 i := put_A σ a μ mm_43 i
theorem pS_43 (σ : Mm) (a : Nat) (μ : Ms) (i : Nat) (v : Int32) : sI (put σ a μ) 280 (a + 34) i v = put σ a (fA μ 43 i v) := put_sA σ a μ mm_43 i v
theorem mm_44 : ((44, 35, 285, 17) : Nat × Nat × Nat × Nat) ∈ mar := by decide +kernel
theorem pP_44 {σ : Mm} {a : Nat} (h : LM σ a) (μ : Ms) : mP (put σ a μ) 13 a 44 = some (a + 35) := (h.2 _ mm_44).1
theorem pK_44 {σ : Mm} {a : Nat} (h : LM σ a) (μ : Ms) : mK (put σ a μ) (a + 35) = 285 := (h.2 _ mm_44).2.1
theorem pN_44 {σ : Mm} {a : Nat} (h : LM σ a) (μ : Ms) : mN (put σ a μ) (a + 35) = 17 := (h.2 _ mm_44).2.2
theorem pA_44 (σ : Mm) (a : Nat) (μ : Ms) (i : Nat) : mI (put σ a μ) 285 (a + 35) i = μ.2 44 i := put_A σ a μ mm_44 i
theorem pS_44 (σ : Mm) (a : Nat) (μ : Ms) (i : Nat) (v : Int32) : sI (put σ a μ) 285 (a + 35) i v = put σ a (fA μ 44 i v) := put_sA σ a μ mm_44 i v
theorem mm_45 : ((45, 36, 290, 408) : Nat × Nat × Nat × Nat) ∈ mar := by decide +kernel
theorem pP_45 {σ : Mm} {a : Nat} (h : LM σ a) (μ : Ms) : mP (put σ a μ) 13 a 45 = some (a + 36) := (h.2 _ mm_45).1
theorem pK_45 {σ : Mm} {a : Nat} (h : LM σ a) (μ : Ms) : mK (put σ a μ) (a + 36) = 290 := (h.2 _ mm_45).2.1
theorem pN_45 {σ : Mm} {a : Nat} (h : LM σ a) (μ : Ms) : mN (put σ a μ) (a + 36) = 408 := (h.2 _ mm_45).2.2
theorem pA_45 (σ : Mm) (a : Nat) (μ : Ms) (i : Nat) : mI (put σ a μ) 290 (a + 36) i = μ.2 45 i := put_A σ a μ mm_45 i
theorem pS_45 (σ : Mm) (a : Nat) (μ : Ms) (i : Nat) (v : Int32) : sI (put σ a μ) 290 (a + 36) i v = put σ a (fA μ 45 i v) := put_sA σ a μ mm_45 i v
theorem mm_46 : ((46, 37, 296, 17) : Nat × Nat × Nat × Nat) ∈ mar := by decide +kernel
theorem pP_46 {σ : Mm} {a : Nat} (h : LM σ a) (μ : Ms) : mP (put σ a μ) 13 a 46 = some (a + 37) := (h.2 _ mm_46).1
theorem pK_46 {σ : Mm} {a : Nat} (h : LM σ a) (μ : Ms) : mK (put σ a μ) (a + 37) = 296 := (h.2 _ mm_46).2.1
theorem pN_46 {σ : Mm} {a : Nat} (h : LM σ a) (μ : Ms) : mN (put σ a μ) (a + 37) = 17 := (h.2 _ mm_46).2.2
theorem pA_46 (σ : Mm) (a : Nat) (μ : Ms) (i : Nat) : mI (put σ a μ) 296 (a + 37) i = μ.2 46 i := put_A σ a μ mm_46 i
theorem pS_46 (σ : Mm) (a : Nat) (μ : Ms) (i : Nat) (v : Int32) : sI (put σ a μ) 296 (a + 37) i v = put σ a (fA μ 46 i v) := put_sA σ a μ mm_46 i v
theorem mm_47 : ((47, 38, 300, 17) : Nat × Nat × Nat × Nat) ∈ mar := by decide +kernel
theorem pP_47 {σ : Mm} {a : Nat} (h : LM σ a) (μ : Ms) : mP (put σ a μ) 13 a 47 = some (a + 38) := (h.2 _ mm_47).1
theorem pK_47 {σ : Mm} {a : Nat} (h : LM σ a) (μ : Ms) : mK (put σ a μ) (a + 38) = 300 := (h.2 _ mm_47).2.1
theorem pN_47 {σ : Mm} {a : Nat} (h : LM σ a) (μ : Ms) : mN (put σ a μ) (a + 38) = 17 := (h.2 _ mm_47).2.2
theorem pA_47 (σ : Mm) (a : Nat) (μ : Ms) (i : Nat) : mI (put σ a μ) 300 (a + 38) i = μ.2 47 i := put_A σ a μ mm_47 i
theorem pS_47 (σ : Mm) (a : Nat) (μ : Ms) (i : Nat) (v : Int32) : sI (put σ a μ) 300 (a + 38) i v = put σ a (fA μ 47 i v) := put_sA σ a μ mm_47 i v
theorem mm_48 : ((48, 39, 305, 17) : Nat × Nat × Nat × Nat) ∈ mar := by decide +kernel
theorem pP_48 {σ : Mm} {a : Nat} (h : LM σ a) (μ : Ms) : mP (put σ a μ) 13 a 48 = some (a + 39) := (h.2 _ mm_48).1
theorem pK_48 {σ : Mm} {a : Nat} (h : LM σ a) (μ : Ms) : mK (put σ a μ) (a + 39) = 305 := (h.2 _ mm_48).2.1
theorem pN_48 {σ : Mm} {a : Nat} (h : LM σ a) (μ : Ms) : mN (put σ a μ) (a + 39) = 17 := (h.2 _ mm_48).2.2
theorem pA_48 (σ : Mm) (a : Nat) (μ : Ms) (i : Nat) : mI (put σ a μ) 305 (a + 39) i = μ.2 48 i := put_A σ a μ mm_48 i
theorem pS_48 (σ : Mm) (a : Nat) (μ : Ms) (i : Nat) (v : Int32) : sI (put σ a μ) 305 (a + 39) i v = put σ a (fA μ 48 i v) := put_sA σ a μ mm_48 i v
theorem mm_49 : ((49, 40, 310, 408) : Nat × Nat × Nat × Nat) ∈ mar := by decide +kernel
theorem pP_49 {σ : Mm} {a : Nat} (h : LM σ a) (μ : Ms) : mP (put σ a μ) 13 a 49 = some (a + 40) := (h.2 _ mm_49).1
theorem pK_49 {σ : Mm} {a : Nat} (h : LM σ a) (μ : Ms) : mK (put σ a μ) (a + 40) = 310 := (h.2 _ mm_49).2.1
theorem pN_49 {σ : Mm} {a : Nat} (h : LM σ a) (μ : Ms) : mN (put σ a μ) (a + 40) = 408 := (h.2 _ mm_49).2.2
theorem pA_49 (σ : Mm) (a : Nat) (μ : Ms) (i : Nat) : mI (put σ a μ) 310 (a + 40) i = μ.2 49 i := put_A σ a μ mm_49 i
theorem pS_49 (σ : Mm) (a : Nat) (μ : Ms) (i : Nat) (v : Int32) : sI (put σ a μ) 310 (a + 40) i v = put σ a (fA μ 49 i v) := put_sA σ a μ mm_49 i v
theorem mm_57 : ((57, 41, 315, 200) : Nat × Nat × Nat × Nat) ∈ mar := by decide +kernel
theorem pP_57 {σ : Mm} {a : Nat} (h : LM σ a) (μ : Ms) : mP (put σ a μ) 13 a 57 = some (a + 41) := (h.2 _ mm_57).1
theorem pK_57 {σ : Mm} {a : Nat} (h : LM σ a) (μ : Ms) : mK (put σ a μ) (a + 41) = 315 := (h.2 _ mm_57).2.1
theorem pN_57 {σ : Mm} {a : Nat} (h : LM σ a) (μ : Ms) : mN (put σ a μ) (a + 41) = 200 := (h.2 _ mm_57).2.2
theorem pA_57 (σ : Mm) (a : Nat) (μ : Ms) (i : Nat) : mI (put σ a μ) 315 (a + 41) i = μ.2 57 i := put_A σ a μ mm_57 i
theorem pS_57 (σ : Mm) (a : Nat) (μ : Ms) (i : Nat) (v : Int32) : sI (put σ a μ) 315 (a + 41) i v = put σ a (fA μ 57 i v) := put_sA σ a μ mm_57 i v
theorem mm_58 : ((58, 42, 320, 200) : Nat × Nat × Nat × Nat) ∈ mar := by decide +kernel
theorem pP_58 {σ : Mm} {a : Nat} (h : LM σ a) (μ : Ms) : mP (put σ a μ) 13 a 58 = some (a + 42) := (h.2 _ mm_58).1
theorem pK_58 {σ : Mm} {a : Nat} (h : LM σ a) (μ : Ms) : mK (put σ a μ) (a + 42) = 320 := (h.2 _ mm_58).2.1
theorem pN_58 {σ : Mm} {a : Nat} (h : LM σ a) (μ : Ms) : mN (put σ a μ) (a + 42) = 200 := (h.2 _ mm_58).2.2
theorem pA_58 (σ : Mm) (a : Nat) (μ : Ms) (i : Nat) : mI (put σ a μ) 320 (a + 42) i = μ.2 58 i := put_A σ a μ mm_58 i
theorem pS_58 (σ : Mm) (a : Nat) (μ : Ms) (i : Nat) (v : Int32) : sI (put σ a μ) 320 (a + 42) i v = put σ a (fA μ 58 i v) := put_sA σ a μ mm_58 i v
theorem mm_59 : ((59, 43, 325, 200) : Nat × Nat × Nat × Nat) ∈ mar := by decide +kernel
theorem pP_59 {σ : Mm} {a : Nat} (h : LM σ a) (μ : Ms) : mP (put σ a μ) 13 a 59 = some (a + 43) := (h.2 _ mm_59).1
theorem pK_59 {σ : Mm} {a : Nat} (h : LM σ a) (μ : Ms) : mK (put σ a μ) (a + 43) = 325 := (h.2 _ mm_59).2.1
theorem pN_59 {σ : Mm} {a : Nat} (h : LM σ a) (μ : Ms) : mN (put σ a μ) (a + 43) = 200 := (h.2 _ mm_59).2.2
theorem pA_59 (σ : Mm) (a : Nat) (μ : Ms) (i : Nat) : mI (put σ a μ) 325 (a + 43) i = μ.2 59 i := put_A σ a μ mm_59 i
theorem pS_59 (σ : Mm) (a : Nat) (μ : Ms) (i : Nat) (v : Int32) : sI (put σ a μ) 325 (a + 43) i v = put σ a (fA μ 59 i v) := put_sA σ a μ mm_59 i v
theorem mm_61 : ((61, 44, 330, 30) : Nat × Nat × Nat × Nat) ∈ mar := by decide +kernel
theorem pP_61 {σ : Mm} {a : Nat} (h : LM σ a) (μ : Ms) : mP (put σ a μ) 13 a 61 = some (a + 44) := (h.2 _ mm_61).1
theorem pK_61 {σ : Mm} {a : Nat} (h : LM σ a) (μ : Ms) : mK (put σ a μ) (a + 44) = 330 := (h.2 _ mm_61).2.1
theorem pN_61 {σ : Mm} {a : Nat} (h : LM σ a) (μ : Ms) : mN (put σ a μ) (a + 44) = 30 := (h.2 _ mm_61).2.2
theorem pA_61 (σ : Mm) (a : Nat) (μ : Ms) (i : Nat) : mI (put σ a μ) 330 (a + 44) i = μ.2 61 i := put_A σ a μ mm_61 i
theorem pS_61 (σ : Mm) (a : Nat) (μ : Ms) (i : Nat) (v : Int32) : sI (put σ a μ) 330 (a + 44) i v = put σ a (fA μ 61 i v) := put_sA σ a μ mm_61 i v
theorem mm_62 : ((62, 45, 335, 30) : Nat × Nat × Nat × Nat) ∈ mar := by decide +kernel
theorem pP_62 {σ : Mm} {a : Nat} (h : LM σ a) (μ : Ms) : mP (put σ a μ) 13 a 62 = some (a + 45) := (h.2 _ mm_62).1
theorem pK_62 {σ : Mm} {a : Nat} (h : LM σ a) (μ : Ms) : mK (put σ a μ) (a + 45) = 335 := (h.2 _ mm_62).2.1
theorem pN_62 {σ : Mm} {a : Nat} (h : LM σ a) (μ : Ms) : mN (put σ a μ) (a + 45) = 30 := (h.2 _ mm_62).2.2
theorem pA_62 (σ : Mm) (a : Nat) (μ : Ms) (i : Nat) : mI (put σ a μ) 335 (a + 45) i = μ.2 62 i := put_A σ a μ mm_62 i
theorem pS_62 (σ : Mm) (a : Nat) (μ : Ms) (i : Nat) (v : Int32) : sI (put σ a μ) 335 (a + 45) i v = put σ a (fA μ 62 i v) := put_sA σ a μ mm_62 i v
theorem mm_63 : ((63, 46, 340, 30) : Nat × Nat × Nat × Nat) ∈ mar := by decide +kernel
theorem pP_63 {σ : Mm} {a : Nat} (h : LM σ a) (μ : Ms) : mP (put σ a μ) 13 a 63 = some (a + 46) := (h.2 _ mm_63).1
theorem pK_63 {σ : Mm} {a : Nat} (h : LM σ a) (μ : Ms) : mK (put σ a μ) (a + 46) = 340 := (h.2 _ mm_63).2.1
theorem pN_63 {σ : Mm} {a : Nat} (h : LM σ a) (μ : Ms) : mN (put σ a μ) (a + 46) = 30 := (h.2 _ mm_63).2.2
theorem pA_63 (σ : Mm) (a : Nat) (μ : Ms) (i : Nat) : mI (put σ a μ) 340 (a + 46) i = μ.2 63 i := put_A σ a μ mm_63 i
theorem pS_63 (σ : Mm) (a : Nat) (μ : Ms) (i : Nat) (v : Int32) : sI (put σ a μ) 340 (a + 46) i v = put σ a (fA μ 63 i v) := put_sA σ a μ mm_63 i v
theorem mm_64 : ((64, 47, 345, 30) : Nat × Nat × Nat × Nat) ∈ mar := by decide +kernel
theorem pP_64 {σ : Mm} {a : Nat} (h : LM σ a) (μ : Ms) : mP (put σ a μ) 13 a 64 = some (a + 47) := (h.2 _ mm_64).1
theorem pK_64 {σ : Mm} {a : Nat} (h : LM σ a) (μ : Ms) : mK (put σ a μ) (a + 47) = 345 := (h.2 _ mm_64).2.1
theorem pN_64 {σ : Mm} {a : Nat} (h : LM σ a) (μ : Ms) : mN (put σ a μ) (a + 47) = 30 := (h.2 _ mm_64).2.2
theorem pA_64 (σ : Mm) (a : Nat) (μ : Ms) (i : Nat) : mI (put σ a μ) 345 (a + 47) i = μ.2 64 i := put_A σ a μ mm_64 i
theorem pS_64 (σ : Mm) (a : Nat) (μ : Ms) (i : Nat) (v : Int32) : sI (put σ a μ) 345 (a + 47) i v = put σ a (fA μ 64 i v) := put_sA σ a μ mm_64 i v
theorem mm_65 : ((65, 48, 350, 30) : Nat × Nat × Nat × Nat) ∈ mar := by decide +kernel
theorem pP_65 {σ : Mm} {a : Nat} (h : LM σ a) (μ : Ms) : mP (put σ a μ) 13 a 65 = some (a + 48) := (h.2 _ mm_65).1
theorem pK_65 {σ : Mm} {a : Nat} (h : LM σ a) (μ : Ms) : mK (put σ a μ) (a + 48) = 350 := (h.2 _ mm_65).2.1
theorem pN_65 {σ : Mm} {a : Nat} (h : LM σ a) (μ : Ms) : mN (put σ a μ) (a + 48) = 30 := (h.2 _ mm_65).2.2
theorem pA_65 (σ : Mm) (a : Nat) (μ : Ms) (i : Nat) : mI (put σ a μ) 350 (a + 48) i = μ.2 65 i := put_A σ a μ mm_65 i
theorem pS_65 (σ : Mm) (a : Nat) (μ : Ms) (i : Nat) (v : Int32) : sI (put σ a μ) 350 (a + 48) i v = put σ a (fA μ 65 i v) := put_sA σ a μ mm_65 i v
theorem mm_66 : ((66, 49, 355, 30) : Nat × Nat × Nat × Nat) ∈ mar := by decide +kernel
theorem pP_66 {σ : Mm} {a : Nat} (h : LM σ a) (μ : Ms) : mP (put σ a μ) 13 a 66 = some (a + 49) := (h.2 _ mm_66).1
theorem pK_66 {σ : Mm} {a : Nat} (h : LM σ a) (μ : Ms) : mK (put σ a μ) (a + 49) = 355 := (h.2 _ mm_66).2.1
theorem pN_66 {σ : Mm} {a : Nat} (h : LM σ a) (μ : Ms) : mN (put σ a μ) (a + 49) = 30 := (h.2 _ mm_66).2.2
theorem pA_66 (σ : Mm) (a : Nat) (μ : Ms) (i : Nat) : mI (put σ a μ) 355 (a + 49) i = μ.2 66 i := put_A σ a μ mm_66 i
theorem pS_66 (σ : Mm) (a : Nat) (μ : Ms) (i : Nat) (v : Int32) : sI (put σ a μ) 355 (a + 49) i v = put σ a (fA μ 66 i v) := put_sA σ a μ mm_66 i v
theorem mm_67 : ((67, 50, 360, 30) : Nat × Nat × Nat × Nat) ∈ mar := by decide +kernel
theorem pP_67 {σ : Mm} {a : Nat} (h : LM σ a) (μ : Ms) : mP (put σ a μ) 13 a 67 = some (a + 50) := (h.2 _ mm_67).1
theorem pK_67 {σ : Mm} {a : Nat} (h : LM σ a) (μ : Ms) : mK (put σ a μ) (a + 50) = 360 := (h.2 _ mm_67).2.1
theorem pN_67 {σ : Mm} {a : Nat} (h : LM σ a) (μ : Ms) : mN (put σ a μ) (a + 50) = 30 := (h.2 _ mm_67).2.2
theorem pA_67 (σ : Mm) (a : Nat) (μ : Ms) (i : Nat) : mI (put σ a μ) 360 (a + 50) i = μ.2 67 i := put_A σ a μ mm_67 i
theorem pS_67 (σ : Mm) (a : Nat) (μ : Ms) (i : Nat) (v : Int32) : sI (put σ a μ) 360 (a + 50) i v = put σ a (fA μ 67 i v) := put_sA σ a μ mm_67 i v
theorem mm_68 : ((68, 51, 365, 210) : Nat × Nat × Nat × Nat) ∈ mar := by decide +kernel
theorem pP_68 {σ : Mm} {a : Nat} (h : LM σ a) (μ : Ms) : mP (put σ a μ) 13 a 68 = some (a + 51) := (h.2 _ mm_68).1
theorem pK_68 {σ : Mm} {a : Nat} (h : LM σ a) (μ : Ms) : mK (put σ a μ) (a + 51) = 365 := (h.2 _ mm_68).2.1
theorem pN_68 {σ : Mm} {a : Nat} (h : LM σ a) (μ : Ms) : mN (put σ a μ) (a + 51) = 210 := (h.2 _ mm_68).2.2
theorem pA_68 (σ : Mm) (a : Nat) (μ : Ms) (i : Nat) : mI (put σ a μ) 365 (a + 51) i = μ.2 68 i := put_A σ a μ mm_68 i
theorem pS_68 (σ : Mm) (a : Nat) (μ : Ms) (i : Nat) (v : Int32) : sI (put σ a μ) 365 (a + 51) i v = put σ a (fA μ 68 i v) := put_sA σ a μ mm_68 i v
theorem mm_74 : ((74, 52, 370, 5) : Nat × Nat × Nat × Nat) ∈ mar := by decide +kernel
theorem pP_74 {σ : Mm} {a : Nat} (h : LM σ a) (μ : Ms) : mP (put σ a μ) 13 a 74 = some (a + 52) := (h.2 _ mm_74).1
theorem pK_74 {σ : Mm} {a : Nat} (h : LM σ a) (μ : Ms) : mK (put σ a μ) (a + 52) = 370 := (h.2 _ mm_74).2.1
theorem pN_74 {σ : Mm} {a : Nat} (h : LM σ a) (μ : Ms) : mN (put σ a μ) (a + 52) = 5 := (h.2 _ mm_74).2.2
theorem pA_74 (σ : Mm) (a : Nat) (μ : Ms) (i : Nat) : mI (put σ a μ) 370 (a + 52) i = μ.2 74 i := put_A σ a μ mm_74 i
theorem pS_74 (σ : Mm) (a : Nat) (μ : Ms) (i : Nat) (v : Int32) : sI (put σ a μ) 370 (a + 52) i v = put σ a (fA μ 74 i v) := put_sA σ a μ mm_74 i v
theorem mm_75 : ((75, 53, 375, 5) : Nat × Nat × Nat × Nat) ∈ mar := by decide +kernel
theorem pP_75 {σ : Mm} {a : Nat} (h : LM σ a) (μ : Ms) : mP (put σ a μ) 13 a 75 = some (a + 53) := (h.2 _ mm_75).1
theorem pK_75 {σ : Mm} {a : Nat} (h : LM σ a) (μ : Ms) : mK (put σ a μ) (a + 53) = 375 := (h.2 _ mm_75).2.1
theorem pN_75 {σ : Mm} {a : Nat} (h : LM σ a) (μ : Ms) : mN (put σ a μ) (a + 53) = 5 := (h.2 _ mm_75).2.2
theorem pA_75 (σ : Mm) (a : Nat) (μ : Ms) (i : Nat) : mI (put σ a μ) 375 (a + 53) i = μ.2 75 i := put_A σ a μ mm_75 i
theorem pS_75 (σ : Mm) (a : Nat) (μ : Ms) (i : Nat) (v : Int32) : sI (put σ a μ) 375 (a + 53) i v = put σ a (fA μ 75 i v) := put_sA σ a μ mm_75 i v
