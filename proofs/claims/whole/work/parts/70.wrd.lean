/-! ===== WORDS AS THE REFERENCE READS THEM; ITS NEXT TOKEN ===== -/
section T70
variable {σ : Mm} {a : Nat} {μ : Ms} (d : Nat)
/-! of kit/laws/BITS.to-paste -/
theorem wb_tb (n : Nat) : (lN n).toBitVec = BitVec.ofNat 64 n := rfl
theorem wb_inj {a b : Int64} (h : a.toBitVec = b.toBitVec) : a = b := Int64.toBitVec_inj.mp h
theorem wb_c : ∀ k, k < 64 → ((nI k).toInt64 &&& 63) = lN k := by decide +kernel
theorem wb_sm : ∀ k, k < 64 → (BitVec.ofNat 64 k).smod 64 = BitVec.ofNat 64 k := by decide +kernel
theorem wb_shl (n : Nat) {k : Nat} (hk : k < 64) : lN n <<< ((nI k).toInt64 &&& 63) = lN (n * 2 ^ k) := by
  rw [wb_c k hk]
  apply wb_inj
  rw [Int64.toBitVec_shiftLeft, wb_tb, wb_tb, wb_tb, wb_sm k hk]
  apply BitVec.eq_of_toNat_eq
  rw [BitVec.shiftLeft_eq', BitVec.toNat_shiftLeft, BitVec.toNat_ofNat, BitVec.toNat_ofNat, BitVec.toNat_ofNat, Nat.mod_eq_of_lt (show k < 2 ^ 64 by omega), Nat.shiftLeft_eq, Nat.mul_mod, Nat.mod_mod, ← Nat.mul_mod]
theorem wb_or {a b : Nat} (ha : a < 2 ^ 64) (hb : b < 2 ^ 64) : lN a ||| lN b = lN (a ||| b) := by
  apply wb_inj
  rw [Int64.toBitVec_or, wb_tb, wb_tb, wb_tb]
  apply BitVec.eq_of_toNat_eq
  rw [BitVec.toNat_or, BitVec.toNat_ofNat, BitVec.toNat_ofNat, BitVec.toNat_ofNat, Nat.mod_eq_of_lt ha, Nat.mod_eq_of_lt hb, Nat.mod_eq_of_lt (Nat.or_lt_two_pow ha hb)]
theorem sh8 {v b : Nat} (hv : v < 2 ^ 48) (hb : b < 256) : lN v <<< ((8 : Int32).toInt64 &&& 63) ||| (nI b).toInt64 = lN (v * 256 + b) := by
  rw [show (8 : Int32) = nI 8 from rfl, wb_shl v (by decide), nI_l (by omega), wb_or (by omega) (by omega)]
  congr 1
  have := Nat.two_pow_add_eq_or_of_lt (i := 8) (b := b) (by omega) v
  rw [Nat.mul_comm v (2 ^ 8), ← this]
/-- letters, as one number: the first highest -/
def fkN (t : Nat → Int32) (f : Nat) : Nat → Nat
  | 0 => 0
  | k + 1 => fkN t f k * 256 + (t (f + k)).toNatClampNeg
def fvN (l : List Nat) : Nat := l.foldl (fun v b => v * 256 + b) 0
theorem fv_app (l : List Nat) (b : Nat) : fvN (l ++ [b]) = fvN l * 256 + b := by
  unfold fvN
  rw [List.foldl_append]
  rfl
theorem ltr_succ (t : Nat → Int32) (f m : Nat) : ltr t f (m + 1) = ltr t f m ++ [(t (f + m)).toNatClampNeg] := by
  unfold ltr
  rw [List.range_succ, List.map_append]
  rfl
theorem ltr_len (t : Nat → Int32) (f m : Nat) : (ltr t f m).length = m := by simp [ltr]
theorem fv_ltr (t : Nat → Int32) (f : Nat) : ∀ m, fvN (ltr t f m) = fkN t f m := by
  intro m
  induction m with
  | zero => rfl
  | succ m ih => rw [ltr_succ, fv_app, ih, fkN]
def frN : List Nat → Nat
  | [] => 0
  | b :: r => frN r * 256 + b
theorem fr_inj : ∀ (l l' : List Nat), (∀ b ∈ l, 1 ≤ b ∧ b < 256) → (∀ b ∈ l', 1 ≤ b ∧ b < 256) → frN l = frN l' → l = l' := by
  intro l
  induction l with
  | nil =>
    intro l' _ h2 h
    cases l' with
    | nil => rfl
    | cons b r =>
      have := h2 b (by simp)
      simp only [frN] at h
      omega
  | cons b r ih =>
    intro l' h1 h2 h
    cases l' with
    | nil =>
      have := h1 b (by simp)
      simp only [frN] at h
      omega
    | cons b' r' =>
      have q1 := h1 b (by simp)
      have q2 := h2 b' (by simp)
      simp only [frN] at h
      have e1 : b = b' := by omega
      have e2 : frN r = frN r' := by omega
      rw [e1, ih r' (fun x hx => h1 x (by simp [hx])) (fun x hx => h2 x (by simp [hx])) e2]
theorem fv_fr : ∀ (l : List Nat), fvN l.reverse = frN l := by
  intro l
  induction l with
  | nil => rfl
  | cons b r ih => rw [List.reverse_cons, fv_app, ih, frN]
theorem fv_inj {l l' : List Nat} (h1 : ∀ b ∈ l, 1 ≤ b ∧ b < 256) (h2 : ∀ b ∈ l', 1 ≤ b ∧ b < 256) (h : fvN l = fvN l') : l = l' := by
  have e := fr_inj l.reverse l'.reverse (fun b hb => h1 b (by simpa using hb)) (fun b hb => h2 b (by simpa using hb)) (by rw [← fv_fr, ← fv_fr, List.reverse_reverse, List.reverse_reverse]; exact h)
  simpa using congrArg List.reverse e
theorem bLt_N {x : Int32} (h : bLt x = true) : ∃ b, 97 ≤ b ∧ b ≤ 122 ∧ x = nI b := in_N (a := 97) (b := 122) rfl rfl (by omega) (by omega) (of_decide_eq_true h)
theorem bDg_N {x : Int32} (h : bDg x = true) : ∃ b, 48 ≤ b ∧ b ≤ 57 ∧ x = nI b := in_N (a := 48) (b := 57) rfl rfl (by omega) (by omega) (of_decide_eq_true h)
theorem ltr_in {t : Nat → Int32} {f m : Nat} (h : ∀ k, k < m → bLt (t (f + k)) = true) : ∀ b ∈ ltr t f m, 1 ≤ b ∧ b < 256 := by
  intro b hb
  simp only [ltr, List.mem_map, List.mem_range] at hb
  obtain ⟨k, hk, rfl⟩ := hb
  obtain ⟨b, b1, b2, b3⟩ := bLt_N (h k hk)
  rw [b3, nI_clamp (by omega)]
  omega
theorem wdl_in : ∀ c, c < 14 → (∀ b ∈ wdl c, 1 ≤ b ∧ b < 256) ∧ (wdl c).length ≤ 7 ∧ fvN (wdl c) < 2 ^ 63 := by decide +kernel
theorem fk_lt {t : Nat → Int32} {f m : Nat} (h : ∀ k, k < m → bLt (t (f + k)) = true) : ∀ k, k ≤ m → fkN t f k < 256 ^ k := by
  intro k
  induction k with
  | zero => intro _; rw [fkN]; decide
  | succ k ih =>
    intro hk
    have h1 := ih (by omega)
    obtain ⟨b, b1, b2, b3⟩ := bLt_N (h k (by omega))
    rw [fkN, b3, nI_clamp (by omega), Nat.pow_succ]
    omega
theorem p256 {k : Nat} (hk : k ≤ 6) : 256 ^ k ≤ 2 ^ 48 := by
  have : 256 ^ k ≤ 256 ^ 6 := Nat.pow_le_pow_right (by decide) hk
  simpa using this
theorem th_lp (hL : LM σ a) {n f m : Nat} (hn : n ≤ 300) (h4 : μ.1 40 = nI n) (hT : μ.1 51 = nI (f + m)) (hm : f + m ≤ n) (hm7 : m ≤ 7) (hl : ∀ k, k < m → bLt (μ.2 39 (f + k)) = true) (w : Int64) : ∀ y k, k + y = m → run (d + 1) 145 24 [.ref a, .long w, uu, .long (lN (fkN (μ.2 39) f k)), uu, .int (nI (f + k))] [] (put σ a μ) = some (some (.int (bZ (lN (fkN (μ.2 39) f m) = w))), put σ a μ) := by
  intro y
  induction y with
  | zero =>
    intro k hk
    have : k = m := by omega
    subst this
    by_cases z : lN (fkN (μ.2 39) f k) = w
    · have z1 : lg_cmp (lN (fkN (μ.2 39) f k)) w = 0 := (lg_cmp_eq _ _).mpr z
      rw [bZ_t z]
      simp [psh_some, psh_none, -Int32.not_lt, -Int32.not_le, q_M_isThis_24, q_M_isThis_52, q_M_isThis_58, q_M_isThis_63, hL, hT, z1]
    · have z1 : ¬ lg_cmp (lN (fkN (μ.2 39) f k)) w = 0 := fun q => z ((lg_cmp_eq _ _).mp q)
      rw [bZ_f z]
      simp [psh_some, psh_none, -Int32.not_lt, -Int32.not_le, q_M_isThis_24, q_M_isThis_52, q_M_isThis_62, q_M_isThis_63, hL, hT, z1]
  | succ y ih =>
    intro k hk
    have h1 := ih (k + 1) (by omega)
    have h2 : ¬ nI (f + m) ≤ nI (f + k) := nI_ge (by omega) (by omega)
    have e := m_byteAt (i := f + k) d hL hn h4 (by omega)
    rw [if_pos (by omega)] at e
    obtain ⟨b, b1, b2, b3⟩ := bLt_N (hl k (by omega))
    have h3 := fk_lt hl k (by omega)
    have h4' := p256 (k := k) (by omega)
    have h5 : lN (fkN (μ.2 39) f k) <<< ((8 : Int32).toInt64 &&& 63) ||| (μ.2 39 (f + k)).toInt64 = lN (fkN (μ.2 39) f (k + 1)) := by
      rw [b3, sh8 (by omega) (by omega), fkN, b3, nI_clamp (by omega)]
    rw [show f + (k + 1) = f + k + 1 by omega, nI_succ, ← h5] at h1
    rw [← h1]
    simp [psh_some, psh_none, -Int32.not_lt, -Int32.not_le, q_M_isThis_24, q_M_isThis_33, q_M_isThis_43, hL, hT, h2, e]
theorem m_isThis (hL : LM σ a) {n f m : Nat} (hn : n ≤ 300) (h4 : μ.1 40 = nI n) (hF : μ.1 50 = nI f) (hT : μ.1 51 = nI (f + m)) (hm : f + m ≤ n) (hl : ∀ k, k < m → bLt (μ.2 39 (f + k)) = true) {c : Nat} (hc : c < 14) (w : Int64) (hw : w = lN (fvN (wdl c))) : runc (d + 1) 145 [.ref a, .long w] (put σ a μ) = some (some (.int (bZ (ltr (μ.2 39) f m = wdl c))), put σ a μ) := by
  obtain ⟨w1, w2, w3⟩ := wdl_in c hc
  have es : nI (f + m) - nI f = nI m := by rw [pk_sub (by omega)]; congr 1; omega
  by_cases h7 : m ≤ 7
  · have y : nI m ≤ 7 := nI_le (b := 7) h7 (by omega)
    have lp := th_lp d hL hn h4 hT hm h7 hl w m 0 (by omega)
    rw [fkN, Nat.add_zero] at lp
    have e0 : lN 0 = 0 := rfl
    rw [e0] at lp
    have eq : (lN (fkN (μ.2 39) f m) = w) ↔ ltr (μ.2 39) f m = wdl c := by
      have hb : fkN (μ.2 39) f m < 2 ^ 63 := by
        have q1 := fk_lt hl m (Nat.le_refl _)
        have q2 : 256 ^ m ≤ 256 ^ 7 := Nat.pow_le_pow_right (by decide) h7
        have q3 : (256 : Nat) ^ 7 < 2 ^ 63 := by decide
        omega
      rw [hw, pk_lEQ hb w3, ← fv_ltr]
      exact ⟨fun z => fv_inj (ltr_in hl) w1 z, fun z => by rw [z]⟩
    have eb : bZ (lN (fkN (μ.2 39) f m) = w) = bZ (ltr (μ.2 39) f m = wdl c) := by
      unfold bZ
      by_cases z : ltr (μ.2 39) f m = wdl c
      · rw [if_pos z, if_pos (eq.mpr z)]
      · rw [if_neg z, if_neg (fun q => z (eq.mp q))]
    rw [← eb, ← lp]
    simp [psh_some, psh_none, -Int32.not_lt, -Int32.not_le, rc_M_isThis, q_M_isThis_0, q_M_isThis_18, hL, hF, hT, es, y]
  · have y : ¬ nI m ≤ 7 := nI_ge (a := 7) (by omega) (by omega)
    have z : ¬ ltr (μ.2 39) f m = wdl c := fun q => by
      have := congrArg List.length q
      rw [ltr_len] at this
      omega
    rw [bZ_f z]
    simp [psh_some, psh_none, -Int32.not_lt, -Int32.not_le, rc_M_isThis, q_M_isThis_0, q_M_isThis_16, hL, hF, hT, es, y]
theorem m_wordHere (hL : LM σ a) {n f m : Nat} (hn : n ≤ 300) (h4 : μ.1 40 = nI n) (hF : μ.1 50 = nI f) (hT : μ.1 51 = nI (f + m)) (hm : f + m ≤ n) (hl : ∀ k, k < m → bLt (μ.2 39 (f + k)) = true) : runc (d + 2) 146 [.ref a] (put σ a μ) = some (some (.int (nI (tkW (ltr (μ.2 39) f m)))), put σ a μ) := by
  rw [rc_M_wordHere]
  have e0 := m_isThis d hL hn h4 hF hT hm hl (c := 0) (by decide) 495924374636 (by decide +kernel)
  have e1 := m_isThis d hL hn h4 hF hT hm hl (c := 1) (by decide) 1752135026 (by decide +kernel)
  have e2 := m_isThis d hL hn h4 hF hT hm hl (c := 2) (by decide) 465624852596 (by decide +kernel)
  have e3 := m_isThis d hL hn h4 hF hT hm hl (c := 3) (by decide) 1718773093 (by decide +kernel)
  have e4 := m_isThis d hL hn h4 hF hT hm hl (c := 4) (by decide) 1718969708 (by decide +kernel)
  have e5 := m_isThis d hL hn h4 hF hT hm hl (c := 5) (by decide) 131277443786868 (by decide +kernel)
  have e6 := m_isThis d hL hn h4 hF hT hm hl (c := 6) (by decide) 6578553 (by decide +kernel)
  have e7 := m_isThis d hL hn h4 hF hT hm hl (c := 7) (by decide) 1650550643 (by decide +kernel)
  have e8 := m_isThis d hL hn h4 hF hT hm hl (c := 8) (by decide) 1818846836 (by decide +kernel)
  have e9 := m_isThis d hL hn h4 hF hT hm hl (c := 9) (by decide) 1818324580 (by decide +kernel)
  have e10 := m_isThis d hL hn h4 hF hT hm hl (c := 10) (by decide) 24948 (by decide +kernel)
  have e11 := m_isThis d hL hn h4 hF hT hm hl (c := 11) (by decide) 26982 (by decide +kernel)
  have e12 := m_isThis d hL hn h4 hF hT hm hl (c := 12) (by decide) 6385252 (by decide +kernel)
  have e13 := m_isThis d hL hn h4 hF hT hm hl (c := 13) (by decide) 7237492 (by decide +kernel)
  generalize ltr (μ.2 39) f m = W at *
  unfold tkW
  rw [q_M_wordHere_0 _ _ _ _ hL, e0]
  by_cases z0 : W = wdl 0
  · rw [if_pos z0, bZ_t z0]
    simp [psh_some, psh_none, -Int32.not_lt, -Int32.not_le, q_M_wordHere_7, q_M_wordHere_10, hL]
    rfl
  rw [if_neg z0, bZ_f z0]
  simp only [Option.bind_some, psh_some, q_M_wordHere_7 _ _ _ _ _ hL, if_true]
  rw [q_M_wordHere_12 _ _ _ _ hL, e1]
  by_cases z1 : W = wdl 1
  · rw [if_pos z1, bZ_t z1]
    simp [psh_some, psh_none, -Int32.not_lt, -Int32.not_le, q_M_wordHere_19, q_M_wordHere_22, hL]
    rfl
  rw [if_neg z1, bZ_f z1]
  simp only [Option.bind_some, psh_some, q_M_wordHere_19 _ _ _ _ _ hL, if_true]
  rw [q_M_wordHere_24 _ _ _ _ hL, e2]
  by_cases z2 : W = wdl 2
  · rw [if_pos z2, bZ_t z2]
    simp [psh_some, psh_none, -Int32.not_lt, -Int32.not_le, q_M_wordHere_31, q_M_wordHere_34, hL]
    rfl
  rw [if_neg z2, bZ_f z2]
  simp only [Option.bind_some, psh_some, q_M_wordHere_31 _ _ _ _ _ hL, if_true]
  rw [q_M_wordHere_36 _ _ _ _ hL, e3]
  by_cases z3 : W = wdl 3
  · rw [if_pos z3, bZ_t z3]
    simp [psh_some, psh_none, -Int32.not_lt, -Int32.not_le, q_M_wordHere_43, q_M_wordHere_46, hL]
    rfl
  rw [if_neg z3, bZ_f z3]
  simp only [Option.bind_some, psh_some, q_M_wordHere_43 _ _ _ _ _ hL, if_true]
  rw [q_M_wordHere_48 _ _ _ _ hL, e4]
  by_cases z4 : W = wdl 4
  · rw [if_pos z4, bZ_t z4]
    simp [psh_some, psh_none, -Int32.not_lt, -Int32.not_le, q_M_wordHere_55, q_M_wordHere_58, hL]
    rfl
  rw [if_neg z4, bZ_f z4]
  simp only [Option.bind_some, psh_some, q_M_wordHere_55 _ _ _ _ _ hL, if_true]
  rw [q_M_wordHere_60 _ _ _ _ hL, e5]
  by_cases z5 : W = wdl 5
  · rw [if_pos z5, bZ_t z5]
    simp [psh_some, psh_none, -Int32.not_lt, -Int32.not_le, q_M_wordHere_67, q_M_wordHere_70, hL]
    rfl
  rw [if_neg z5, bZ_f z5]
  simp only [Option.bind_some, psh_some, q_M_wordHere_67 _ _ _ _ _ hL, if_true]
  rw [q_M_wordHere_72 _ _ _ _ hL, e6]
  by_cases z6 : W = wdl 6
  · rw [if_pos z6, bZ_t z6]
    simp [psh_some, psh_none, -Int32.not_lt, -Int32.not_le, q_M_wordHere_79, q_M_wordHere_82, hL]
    rfl
  rw [if_neg z6, bZ_f z6]
  simp only [Option.bind_some, psh_some, q_M_wordHere_79 _ _ _ _ _ hL, if_true]
  rw [q_M_wordHere_85 _ _ _ _ hL, e7]
  by_cases z7 : W = wdl 7
  · rw [if_pos z7, bZ_t z7]
    simp [psh_some, psh_none, -Int32.not_lt, -Int32.not_le, q_M_wordHere_92, q_M_wordHere_95, hL]
    rfl
  rw [if_neg z7, bZ_f z7]
  simp only [Option.bind_some, psh_some, q_M_wordHere_92 _ _ _ _ _ hL, if_true]
  rw [q_M_wordHere_98 _ _ _ _ hL, e8]
  by_cases z8 : W = wdl 8
  · rw [if_pos z8, bZ_t z8]
    simp [psh_some, psh_none, -Int32.not_lt, -Int32.not_le, q_M_wordHere_105, q_M_wordHere_108, hL]
    rfl
  rw [if_neg z8, bZ_f z8]
  simp only [Option.bind_some, psh_some, q_M_wordHere_105 _ _ _ _ _ hL, if_true]
  rw [q_M_wordHere_111 _ _ _ _ hL, e9]
  by_cases z9 : W = wdl 9
  · rw [if_pos z9, bZ_t z9]
    simp [psh_some, psh_none, -Int32.not_lt, -Int32.not_le, q_M_wordHere_118, q_M_wordHere_121, hL]
    rfl
  rw [if_neg z9, bZ_f z9]
  simp only [Option.bind_some, psh_some, q_M_wordHere_118 _ _ _ _ _ hL, if_true]
  rw [q_M_wordHere_124 _ _ _ _ hL, e10]
  by_cases z10 : W = wdl 10
  · rw [if_pos z10, bZ_t z10]
    simp [psh_some, psh_none, -Int32.not_lt, -Int32.not_le, q_M_wordHere_131, q_M_wordHere_134, hL]
    rfl
  rw [if_neg z10, bZ_f z10]
  simp only [Option.bind_some, psh_some, q_M_wordHere_131 _ _ _ _ _ hL, if_true]
  rw [q_M_wordHere_137 _ _ _ _ hL, e11]
  by_cases z11 : W = wdl 11
  · rw [if_pos z11, bZ_t z11]
    simp [psh_some, psh_none, -Int32.not_lt, -Int32.not_le, q_M_wordHere_144, q_M_wordHere_147, hL]
    rfl
  rw [if_neg z11, bZ_f z11]
  simp only [Option.bind_some, psh_some, q_M_wordHere_144 _ _ _ _ _ hL, if_true]
  rw [q_M_wordHere_150 _ _ _ _ hL, e12]
  by_cases z12 : W = wdl 12
  · rw [if_pos z12, bZ_t z12]
    simp [psh_some, psh_none, -Int32.not_lt, -Int32.not_le, q_M_wordHere_157, q_M_wordHere_160, hL]
    rfl
  rw [if_neg z12, bZ_f z12]
  simp only [Option.bind_some, psh_some, q_M_wordHere_157 _ _ _ _ _ hL, if_true]
  rw [q_M_wordHere_163 _ _ _ _ hL, e13]
  by_cases z13 : W = wdl 13
  · rw [if_pos z13, bZ_t z13]
    simp [psh_some, psh_none, -Int32.not_lt, -Int32.not_le, q_M_wordHere_170, q_M_wordHere_173, q_M_wordHere_180, hL]
    rfl
  rw [if_neg z13, bZ_f z13]
  simp [psh_some, psh_none, -Int32.not_lt, -Int32.not_le, q_M_wordHere_170, q_M_wordHere_178, q_M_wordHere_180, hL]
  rfl
theorem m_next (hL : LM σ a) {n p : Nat} (hn : n ≤ 300) (h4 : μ.1 40 = nI n) (hp : p ≤ n) (h1 : μ.1 51 = nI p) : runc (d + 3) 147 [.ref a] (put σ a μ) = some (none, put σ a (tkS μ n p)) := by
  have hb := nx_bl (σ := σ) (d + 3) hL hn h4 (n - p) p (by omega)
  have hf := tF_le (μ.2 39) hp
  have s1 : runc (d + 3) 147 [.ref a] (put σ a μ) = run (d + 3) 147 73 [.ref a] [] (put σ a (fF (fF (fF μ 50 (nI (tF (μ.2 39) n p))) 51 (nI (tF (μ.2 39) n p))) 53 0)) := by
    simp only [rc_M_next, q_M_next_0 _ _ _ _ hL, h1, hb]
    simp [psh_some, psh_none, -Int32.not_lt, -Int32.not_le, q_M_next_60, q_M_next_68, hL, fF_1, tF]
  rw [s1]
  unfold tkS
  have hT := tT_le (μ.2 39) hp
  by_cases c0 : tF (μ.2 39) n p = n
  · rw [show tT (μ.2 39) n p = tF (μ.2 39) n p by unfold tT; rw [if_pos c0, c0], show tN (μ.2 39) n p = 0 by unfold tN; rw [if_pos c0], show tC (μ.2 39) n p = 22 by unfold tC; rw [if_pos c0]]
    simp [psh_some, psh_none, -Int32.not_lt, -Int32.not_le, q_M_next_73, q_M_next_84, q_M_next_90, q_M_next_337, hL, fF_1, h4, c0]
    rfl
  · have hlt : tF (μ.2 39) n p < n := by omega
    have z0 : ¬ nI (tF (μ.2 39) n p) = nI n := fun z => c0 ((nI_eq (by omega) (by omega)).mp z)
    have i0 : ix (nI (tF (μ.2 39) n p)) 300 = true := ix_of (by omega) (by omega)
    have k0 := cl1000 (show tF (μ.2 39) n p < 1000 by omega)
    by_cases c1 : bLt (μ.2 39 (tF (μ.2 39) n p)) = true
    · have eT : tT (μ.2 39) n p = scn bLt (μ.2 39) (n - tF (μ.2 39) n p) (tF (μ.2 39) n p) := by unfold tT; rw [if_neg c0, if_pos c1]
      rw [show tN (μ.2 39) n p = 0 by unfold tN; rw [if_neg c0, if_pos c1], show tC (μ.2 39) n p = tkW (ltr (μ.2 39) (tF (μ.2 39) n p) (tT (μ.2 39) n p - tF (μ.2 39) n p)) by unfold tC; rw [if_neg c0, if_pos c1]]
      have hin : ∀ k, k < tT (μ.2 39) n p - tF (μ.2 39) n p → bLt (μ.2 39 (tF (μ.2 39) n p + k)) = true := fun k hk => scn_in bLt (μ.2 39) (n - tF (μ.2 39) n p) (tF (μ.2 39) n p) _ (by omega) (by rw [← eT]; omega)
      have lp := nx_lt (μ := fF (fF μ 50 (nI (tF (μ.2 39) n p))) 53 0) (σ := σ) (d + 2) hL hn h4 (n - tF (μ.2 39) n p) (tF (μ.2 39) n p) (by omega)
      rw [show (fF (fF μ 50 (nI (tF (μ.2 39) n p))) 53 0).2 39 = μ.2 39 from rfl, ← eT] at lp
      have ew := m_wordHere (μ := fF (fF (fF μ 50 (nI (tF (μ.2 39) n p))) 53 0) 51 (nI (tT (μ.2 39) n p))) (σ := σ) (f := tF (μ.2 39) n p) (m := tT (μ.2 39) n p - tF (μ.2 39) n p) d hL hn h4 rfl (by rw [show tF (μ.2 39) n p + (tT (μ.2 39) n p - tF (μ.2 39) n p) = tT (μ.2 39) n p by omega]; rfl) (by omega) hin
      rw [show (fF (fF (fF μ 50 (nI (tF (μ.2 39) n p))) 53 0) 51 (nI (tT (μ.2 39) n p))).2 39 = μ.2 39 from rfl] at ew
      generalize tkW (ltr (μ.2 39) (tF (μ.2 39) n p) (tT (μ.2 39) n p - tF (μ.2 39) n p)) = W at ew ⊢
      rw [fF_comm (f := 51) (g := 53) (by decide), fF_comm (f := 51) (g := 53) (by decide)]
      have s2 : run (d + 3) 147 73 [.ref a] [] (put σ a (fF (fF (fF μ 50 (nI (tF (μ.2 39) n p))) 53 0) 51 (nI (tF (μ.2 39) n p)))) = run (d + 3) 147 112 [.ref a] [] (put σ a (fF (fF (fF μ 50 (nI (tF (μ.2 39) n p))) 53 0) 51 (nI (tF (μ.2 39) n p)))) := by
        simp [psh_some, psh_none, -Int32.not_lt, -Int32.not_le, q_M_next_73, q_M_next_93, q_M_next_109, hL, fF_1, fF_2, h4, z0, i0, k0, m_lt, c1]
      rw [s2, lp]
      simp [psh_some, psh_none, -Int32.not_lt, -Int32.not_le, q_M_next_143, q_M_next_148, q_M_next_151, q_M_next_337, hL, ew]
    · have c1' : bLt (μ.2 39 (tF (μ.2 39) n p)) = false := by simpa using c1
      by_cases c2 : bDg (μ.2 39 (tF (μ.2 39) n p)) = true
      · have eT : tT (μ.2 39) n p = scn bDg (μ.2 39) (n - tF (μ.2 39) n p) (tF (μ.2 39) n p) := by unfold tT; rw [if_neg c0, if_neg c1, if_pos c2]
        rw [show tN (μ.2 39) n p = nvl (μ.2 39) (tF (μ.2 39) n p) (tT (μ.2 39) n p - tF (μ.2 39) n p) by unfold tN; rw [if_neg c0, if_neg c1, if_pos c2], show tC (μ.2 39) n p = if tT (μ.2 39) n p - tF (μ.2 39) n p ≤ 5 then 20 else 23 by unfold tC; rw [if_neg c0, if_neg c1, if_pos c2]]
        have lp := nx_dg (μ := fF μ 50 (nI (tF (μ.2 39) n p))) (σ := σ) (f := tF (μ.2 39) n p) (d + 2) hL hn h4 rfl (n - tF (μ.2 39) n p) 0 (by omega)
        rw [show (fF μ 50 (nI (tF (μ.2 39) n p))).2 39 = μ.2 39 from rfl, Nat.add_zero (tF (μ.2 39) n p), nvl, ← eT] at lp
        have s2 : run (d + 3) 147 73 [.ref a] [] (put σ a (fF (fF (fF μ 50 (nI (tF (μ.2 39) n p))) 51 (nI (tF (μ.2 39) n p))) 53 0)) = run (d + 3) 147 173 [.ref a] [] (put σ a (fF (fF (fF μ 50 (nI (tF (μ.2 39) n p))) 51 (nI (tF (μ.2 39) n p))) 53 0)) := by
          simp [psh_some, psh_none, -Int32.not_lt, -Int32.not_le, q_M_next_73, q_M_next_93, q_M_next_109, q_M_next_154, q_M_next_170, hL, fF_1, fF_2, h4, z0, i0, k0, m_lt, c1', m_dg, c2]
        rw [s2, lp]
        have es : nI (tT (μ.2 39) n p) - nI (tF (μ.2 39) n p) = nI (tT (μ.2 39) n p - tF (μ.2 39) n p) := pk_sub hT.1
        by_cases c3 : tT (μ.2 39) n p - tF (μ.2 39) n p ≤ 5
        · have c3' : nI (tT (μ.2 39) n p - tF (μ.2 39) n p) ≤ 5 := nI_le (b := 5) c3 (by omega)
          rw [if_pos c3]
          simp [psh_some, psh_none, -Int32.not_lt, -Int32.not_le, q_M_next_240, q_M_next_259, q_M_next_261, q_M_next_264, q_M_next_337, hL, fF_1, es, c3']
          rfl
        · have c3' : ¬ nI (tT (μ.2 39) n p - tF (μ.2 39) n p) ≤ 5 := nI_ge (a := 5) (by omega) (by omega)
          rw [if_neg c3]
          simp [psh_some, psh_none, -Int32.not_lt, -Int32.not_le, q_M_next_240, q_M_next_254, q_M_next_261, q_M_next_264, q_M_next_337, hL, fF_1, es, c3']
          rfl
      · have c2' : bDg (μ.2 39 (tF (μ.2 39) n p)) = false := by simpa using c2
        rw [show tT (μ.2 39) n p = tF (μ.2 39) n p + 1 by unfold tT; rw [if_neg c0, if_neg c1, if_neg c2], show tN (μ.2 39) n p = μ.2 39 (tF (μ.2 39) n p) by unfold tN; rw [if_neg c0, if_neg c1, if_neg c2], show tC (μ.2 39) n p = if sgn (μ.2 39 (tF (μ.2 39) n p)) = true then 21 else 23 by unfold tC; rw [if_neg c0, if_neg c1, if_neg c2], nI_succ]
        have ec : ∀ u v : Int32, fF (fF (fF (fF (fF μ 50 u) 51 u) 53 0) 53 v) 51 (u + 1) = fF (fF (fF μ 50 u) 51 (u + 1)) 53 v := fun u v => by
          rw [fF_fF, fF_comm (f := 53) (g := 51) (by decide), fF_fF]
        have s2 : run (d + 3) 147 73 [.ref a] [] (put σ a (fF (fF (fF μ 50 (nI (tF (μ.2 39) n p))) 51 (nI (tF (μ.2 39) n p))) 53 0)) = run (d + 3) 147 290 [.ref a] [] (put σ a (fF (fF (fF μ 50 (nI (tF (μ.2 39) n p))) 51 (nI (tF (μ.2 39) n p) + 1)) 53 (μ.2 39 (tF (μ.2 39) n p)))) := by
          rw [← ec]
          simp [psh_some, psh_none, -Int32.not_lt, -Int32.not_le, q_M_next_73, q_M_next_93, q_M_next_109, q_M_next_154, q_M_next_170, q_M_next_267, q_M_next_280, hL, fF_1, fF_2, h4, z0, i0, k0, m_lt, c1', m_dg, c2']
        rw [s2]
        unfold sgn
        by_cases y0 : μ.2 39 (tF (μ.2 39) n p) = 60
        · simp [psh_some, psh_none, -Int32.not_lt, -Int32.not_le, q_M_next_290, q_M_next_327, q_M_next_334, q_M_next_337, hL, fF_1, y0]
          rfl
        · by_cases y1 : μ.2 39 (tF (μ.2 39) n p) = 61
          · simp [psh_some, psh_none, -Int32.not_lt, -Int32.not_le, q_M_next_290, q_M_next_300, q_M_next_327, q_M_next_334, q_M_next_337, hL, fF_1, y1]
            rfl
          · by_cases y2 : μ.2 39 (tF (μ.2 39) n p) = 62
            · simp [psh_some, psh_none, -Int32.not_lt, -Int32.not_le, q_M_next_290, q_M_next_300, q_M_next_309, q_M_next_327, q_M_next_334, q_M_next_337, hL, fF_1, y2]
              rfl
            · by_cases y3 : μ.2 39 (tF (μ.2 39) n p) = 59
              · simp [psh_some, psh_none, -Int32.not_lt, -Int32.not_le, q_M_next_290, q_M_next_300, q_M_next_309, q_M_next_318, q_M_next_327, q_M_next_334, q_M_next_337, hL, fF_1, y3]
                rfl
              · simp [psh_some, psh_none, -Int32.not_lt, -Int32.not_le, q_M_next_290, q_M_next_300, q_M_next_309, q_M_next_318, q_M_next_332, q_M_next_334, q_M_next_337, hL, fF_1, y0, y1, y2, y3]
                rfl
end T70
