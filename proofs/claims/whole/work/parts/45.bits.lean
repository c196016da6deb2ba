/-! ===== BITS OF AN INT (a family of kit/laws/BITS.to-paste over btI); HOW MANY ARE SET ===== -/
section B45
theorem b_ext {x y : Int32} (h : ∀ i, i < 32 → btI x i = btI y i) : x = y := Int32.toBitVec_inj.mp (BitVec.eq_of_getLsbD_eq (fun i hi => h i hi))
theorem b_or (x y : Int32) (i : Nat) : btI (x ||| y) i = (btI x i || btI y i) := by unfold btI; rw [Int32.toBitVec_or, BitVec.getLsbD_or]
theorem b_and (x y : Int32) (i : Nat) : btI (x &&& y) i = (btI x i && btI y i) := by unfold btI; rw [Int32.toBitVec_and, BitVec.getLsbD_and]
theorem b_xor (x y : Int32) (i : Nat) : btI (x ^^^ y) i = (btI x i ^^ btI y i) := by unfold btI; rw [Int32.toBitVec_xor, BitVec.getLsbD_xor]
theorem b_big {x : Int32} {i : Nat} (h : 32 ≤ i) : btI x i = false := BitVec.getLsbD_of_ge _ _ h
theorem b_m1 : ∀ i, i < 32 → btI (-1) i = true := by decide +kernel
theorem b_0 (i : Nat) : btI 0 i = false := BitVec.getLsbD_zero
theorem s_l : ∀ n, n < 32 → ((nI n &&& 31).toBitVec.smod 32).toNat = n := by decide +kernel
theorem s_u : ∀ n, n < 32 → (((nI n).toUInt32 &&& Int32.toUInt32 31).toBitVec % 32).toNat = n := by decide +kernel
theorem b_shl (n : Nat) (hn : n < 32) (x : Int32) {i : Nat} (hi : i < 32) : btI (x <<< (nI n &&& 31)) i = (decide (n ≤ i) && btI x (i - n)) := by
  unfold btI
  rw [Int32.toBitVec_shiftLeft]
  show (x.toBitVec <<< ((nI n &&& 31).toBitVec.smod 32).toNat).getLsbD i = _
  rw [s_l n hn, BitVec.getLsbD_shiftLeft]
  rcases Nat.lt_or_ge i n with h | h
  · simp [h, Nat.not_le.mpr h]
  · simp [hi, h, Nat.not_lt.mpr h]
theorem b_ushr (n : Nat) (hn : n < 32) (x : Int32) (i : Nat) : btI ((x.toUInt32 >>> ((nI n).toUInt32 &&& Int32.toUInt32 31)).toInt32) i = btI x (n + i) := by
  show (x.toUInt32 >>> ((nI n).toUInt32 &&& Int32.toUInt32 31)).toBitVec.getLsbD i = x.toUInt32.toBitVec.getLsbD (n + i)
  rw [UInt32.toBitVec_shiftRight]
  show (x.toUInt32.toBitVec >>> (((nI n).toUInt32 &&& Int32.toUInt32 31).toBitVec % 32).toNat).getLsbD i = _
  rw [s_u n hn, BitVec.getLsbD_ushiftRight]
theorem b_sshr (n : Nat) (hn : n < 32) (x : Int32) {i : Nat} (hi : i < 32) : btI (x >>> (nI n &&& 31)) i = if n + i < 32 then btI x (n + i) else btI x 31 := by
  unfold btI
  rw [Int32.toBitVec_shiftRight]
  show (x.toBitVec.sshiftRight ((nI n &&& 31).toBitVec.smod 32).toNat).getLsbD i = _
  rw [s_l n hn, BitVec.getLsbD_sshiftRight, BitVec.msb_eq_getLsbD_last]
  simp [hi]
theorem nx_and (a b : Nat) : nI a &&& nI b = nI (a &&& b) := by
  apply Int32.toBitVec_inj.1
  show BitVec.ofNat 32 a &&& BitVec.ofNat 32 b = BitVec.ofNat 32 (a &&& b)
  apply BitVec.eq_of_getLsbD_eq
  intro i hi
  simp [hi]
theorem and1 {a b m k : Nat} (ha : a < 256) (hm : m < 256) : (a + 256 * b) &&& (m + 256 * k) = (a &&& m) + 256 * (b &&& k) := by
  have h1 : (a &&& m) < 2 ^ 8 := Nat.and_lt_two_pow a (by simpa using hm)
  apply Nat.eq_of_testBit_eq
  intro j
  rw [Nat.testBit_and, Nat.add_comm a, Nat.add_comm m, Nat.add_comm (a &&& m), show (256 : Nat) = 2 ^ 8 from rfl, Nat.testBit_two_pow_mul_add b (by simpa using ha) j, Nat.testBit_two_pow_mul_add k (by simpa using hm) j, Nat.testBit_two_pow_mul_add (b &&& k) h1 j]
  by_cases h : j < 8 <;> simp [h, Nat.testBit_and]
theorem and4 {a b c e m : Nat} (ha : a < 256) (hb : b < 256) (hc : c < 256) (hm : m < 256) : (a + 256 * (b + 256 * (c + 256 * e))) &&& (m + 256 * (m + 256 * (m + 256 * m))) = (a &&& m) + 256 * ((b &&& m) + 256 * ((c &&& m) + 256 * (e &&& m))) := by
  rw [and1 ha hm, and1 hb hm, and1 hc hm]
def v1N (n : Nat) : Nat := n - (n / 2 &&& 1431655765)
def v2N (v : Nat) : Nat := (v &&& 858993459) + (v / 4 &&& 858993459)
def v3N (v : Nat) : Nat := (v + v / 16) &&& 252645135
def bcN (n : Nat) : Nat := (v3N (v2N (v1N n)) + v3N (v2N (v1N n)) / 256 + (v3N (v2N (v1N n)) + v3N (v2N (v1N n)) / 256) / 65536) &&& 63
def p1N (a : Nat) : Nat := a - (a / 2 &&& 85)
def p2N (a : Nat) : Nat := (a &&& 51) + (a / 4 &&& 51)
def p3N (a : Nat) : Nat := (p2N (p1N a) + p2N (p1N a) / 16) % 16
def p8N (a : Nat) : Nat := a % 2 + a / 2 % 2 + a / 4 % 2 + a / 8 % 2 + a / 16 % 2 + a / 32 % 2 + a / 64 % 2 + a / 128 % 2
theorem y1 : ∀ a, a < 256 → ∀ t, t < 2 → ((a / 2 + 128 * t) &&& 85) = (a / 2 &&& 85) := by decide +kernel
theorem y1b : ∀ a, a < 256 → (a / 2 &&& 85) ≤ a := by decide +kernel
theorem y2 : ∀ a, a < 256 → ∀ t, t < 4 → ((a / 4 + 64 * t) &&& 51) = (a / 4 &&& 51) := by decide +kernel
theorem y3 : ∀ a, a < 256 → p2N (p1N a) % 16 ≤ 4 ∧ p2N (p1N a) / 16 ≤ 4 ∧ p1N a < 256 := by decide +kernel
theorem y4 : ∀ a, a < 256 → p3N a = p8N a := by decide +kernel
theorem v1_4 {a b c e : Nat} (ha : a < 256) (hb : b < 256) (hc : c < 256) (he : e < 256) : v1N (a + 256 * (b + 256 * (c + 256 * e))) = p1N a + 256 * (p1N b + 256 * (p1N c + 256 * p1N e)) := by
  have e1 : (a + 256 * (b + 256 * (c + 256 * e))) / 2 = (a / 2 + 128 * (b % 2)) + 256 * ((b / 2 + 128 * (c % 2)) + 256 * ((c / 2 + 128 * (e % 2)) + 256 * (e / 2))) := by omega
  unfold v1N
  rw [e1, show (1431655765 : Nat) = 85 + 256 * (85 + 256 * (85 + 256 * 85)) from rfl, and4 (by omega) (by omega) (by omega) (by omega), y1 a ha _ (by omega), y1 b hb _ (by omega), y1 c hc _ (by omega)]
  have q1 := y1b a ha
  have q2 := y1b b hb
  have q3 := y1b c hc
  have q4 := y1b e he
  unfold p1N
  generalize (a / 2 &&& 85) = A at *
  generalize (b / 2 &&& 85) = B at *
  generalize (c / 2 &&& 85) = C at *
  generalize (e / 2 &&& 85) = D at *
  omega
theorem v2_4 {a b c e : Nat} (ha : a < 256) (hb : b < 256) (hc : c < 256) (he : e < 256) : v2N (a + 256 * (b + 256 * (c + 256 * e))) = p2N a + 256 * (p2N b + 256 * (p2N c + 256 * p2N e)) := by
  have e1 : (a + 256 * (b + 256 * (c + 256 * e))) / 4 = (a / 4 + 64 * (b % 4)) + 256 * ((b / 4 + 64 * (c % 4)) + 256 * ((c / 4 + 64 * (e % 4)) + 256 * (e / 4))) := by omega
  unfold v2N
  rw [e1, show (858993459 : Nat) = 51 + 256 * (51 + 256 * (51 + 256 * 51)) from rfl, and4 ha hb hc (by omega), and4 (by omega) (by omega) (by omega) (by omega), y2 a ha _ (by omega), y2 b hb _ (by omega), y2 c hc _ (by omega)]
  unfold p2N
  omega
theorem and15 (x : Nat) : x &&& 15 = x % 16 := Nat.and_two_pow_sub_one_eq_mod x 4
theorem v3_4 {a b c e : Nat} (ha : a < 256) (hb : b < 256) (hc : c < 256) (he : e < 256) : v3N (v2N (v1N (a + 256 * (b + 256 * (c + 256 * e))))) = p3N a + 256 * (p3N b + 256 * (p3N c + 256 * p3N e)) := by
  have q1 := y3 a ha
  have q2 := y3 b hb
  have q3 := y3 c hc
  have q4 := y3 e he
  rw [v1_4 ha hb hc he, v2_4 q1.2.2 q2.2.2 q3.2.2 q4.2.2]
  unfold p3N
  generalize p2N (p1N a) = A at *
  generalize p2N (p1N b) = B at *
  generalize p2N (p1N c) = C at *
  generalize p2N (p1N e) = D at *
  have e1 : (A + 256 * (B + 256 * (C + 256 * D))) + (A + 256 * (B + 256 * (C + 256 * D))) / 16 = (A + A / 16 + 16 * (B % 16)) + 256 * ((B + B / 16 + 16 * (C % 16)) + 256 * ((C + C / 16 + 16 * (D % 16)) + 256 * (D + D / 16))) := by omega
  unfold v3N
  rw [e1, show (252645135 : Nat) = 15 + 256 * (15 + 256 * (15 + 256 * 15)) from rfl, and4 (by omega) (by omega) (by omega) (by omega), and15, and15, and15, and15, Nat.add_mul_mod_self_left, Nat.add_mul_mod_self_left, Nat.add_mul_mod_self_left]
theorem bc_4 {a b c e : Nat} (ha : a < 256) (hb : b < 256) (hc : c < 256) (he : e < 256) : bcN (a + 256 * (b + 256 * (c + 256 * e))) = p8N a + p8N b + p8N c + p8N e := by
  unfold bcN
  rw [v3_4 ha hb hc he, y4 a ha, y4 b hb, y4 c hc, y4 e he, show (63 : Nat) = 2 ^ 6 - 1 from rfl, Nat.and_two_pow_sub_one_eq_mod]
  have h : ∀ x, p8N x ≤ 8 := fun x => by unfold p8N; omega
  have h1 := h a
  have h2 := h b
  have h3 := h c
  have h4 := h e
  generalize p8N a = A at *
  generalize p8N b = B at *
  generalize p8N c = C at *
  generalize p8N e = D at *
  have k1 : (A + 256 * (B + 256 * (C + 256 * D))) / 256 = B + 256 * (C + 256 * D) := by omega
  have k2 : A + 256 * (B + 256 * (C + 256 * D)) + (B + 256 * (C + 256 * D)) = (A + B) + 256 * ((B + C) + 256 * ((C + D) + 256 * D)) := by omega
  have k3 : ((A + B) + 256 * ((B + C) + 256 * ((C + D) + 256 * D))) / 65536 = (C + D) + 256 * D := by omega
  have k4 : (A + B) + 256 * ((B + C) + 256 * ((C + D) + 256 * D)) + ((C + D) + 256 * D) = (A + B + C + D) + 2 ^ 6 * (4 * ((B + C) + 256 * ((C + D) + 256 * D)) + 4 * D) := by omega
  rw [k1, k2, k3, k4, Nat.add_mul_mod_self_left]
  exact Nat.mod_eq_of_lt (by omega)
theorem c_bitCount (d : Nat) (σ : Mm) (x : Int32) : runc d 185 [.int x] σ = some (some (.int (nI (bcN x.toBitVec.toNat))), σ) := by
  rw [rc_IN_bitCount, e_IN_bitCount_0]
  have hx : x = nI x.toBitVec.toNat := Int32.toBitVec_inj.mp (by show _ = BitVec.ofNat 32 _; simp)
  have hn : x.toBitVec.toNat < 2 ^ 32 := x.toBitVec.isLt
  generalize x.toBitVec.toNat = n at hx hn
  subst hx
  have w0 : (n / 2 &&& 1431655765) ≤ n := Nat.le_trans Nat.and_le_left (by omega)
  have s1 : nI n - (((nI n).toUInt32 >>> ((1 : Int32).toUInt32 &&& Int32.toUInt32 31)).toInt32 &&& 1431655765) = nI (v1N n) := by
    rw [pk_ushrN hn 1 1 (by decide), show (1431655765 : Int32) = nI 1431655765 from rfl, nx_and, pk_sub (by simpa using w0)]
    rfl
  have h1 : v1N n < 2 ^ 32 := by unfold v1N; omega
  rw [s1]
  have s2 : (nI (v1N n) &&& 858993459) + (((nI (v1N n)).toUInt32 >>> ((2 : Int32).toUInt32 &&& Int32.toUInt32 31)).toInt32 &&& 858993459) = nI (v2N (v1N n)) := by
    rw [pk_ushrN h1 2 2 (by decide), show (858993459 : Int32) = nI 858993459 from rfl, nx_and, nx_and, nI_add]
    rfl
  have h2 : v2N (v1N n) < 2 ^ 32 := by
    unfold v2N
    have : (v1N n &&& 858993459) ≤ 858993459 := Nat.and_le_right
    have : (v1N n / 4 &&& 858993459) ≤ 858993459 := Nat.and_le_right
    omega
  rw [s2]
  have s3 : (nI (v2N (v1N n)) + ((nI (v2N (v1N n))).toUInt32 >>> ((4 : Int32).toUInt32 &&& Int32.toUInt32 31)).toInt32) &&& 252645135 = nI (v3N (v2N (v1N n))) := by
    rw [pk_ushrN h2 4 4 (by decide), show (252645135 : Int32) = nI 252645135 from rfl, nI_add, nx_and]
    rfl
  have h3 : v3N (v2N (v1N n)) ≤ 252645135 := Nat.and_le_right
  rw [s3]
  unfold bcN
  generalize v3N (v2N (v1N n)) = v at *
  have s4 : nI v + ((nI v).toUInt32 >>> ((8 : Int32).toUInt32 &&& Int32.toUInt32 31)).toInt32 = nI (v + v / 256) := by
    rw [pk_ushrN (by omega) 8 8 (by decide), nI_add]
  rw [s4]
  have s5 : nI (v + v / 256) + ((nI (v + v / 256)).toUInt32 >>> ((16 : Int32).toUInt32 &&& Int32.toUInt32 31)).toInt32 = nI (v + v / 256 + (v + v / 256) / 65536) := by
    rw [pk_ushrN (by omega) 16 16 (by decide), nI_add]
  rw [s5, show (63 : Int32) = nI 63 from rfl, nx_and]
def b1 (x : Int32) (j : Nat) : Int32 := if btI x j = true then 1 else 0
theorem b1_N (x : Int32) (j : Nat) : b1 x j = nI (x.toBitVec.toNat / 2 ^ j % 2) := by
  unfold b1 btI
  rw [BitVec.getLsbD, Nat.testBit_eq_decide_div_mod_eq]
  rcases Nat.mod_two_eq_zero_or_one (x.toBitVec.toNat / 2 ^ j) with h | h
  · rw [h]; rfl
  · rw [h]; rfl
theorem sm_nI {f : Nat → Int32} {g : Nat → Nat} (h : ∀ j, f j = nI (g j)) (n : Nat) : sm f n = nI (Nat.rec 0 (fun k s => s + g k) n) := by
  induction n with
  | zero => rfl
  | succ n ih => rw [sm, ih, h n, nI_add]
theorem L8 (m : Nat) : p8N (m % 256) = m % 2 + m / 2 % 2 + m / 4 % 2 + m / 8 % 2 + m / 16 % 2 + m / 32 % 2 + m / 64 % 2 + m / 128 % 2 := by
  unfold p8N
  omega
theorem bc_sm (x : Int32) : nI (bcN x.toBitVec.toNat) = sm (b1 x) 32 := by
  rw [sm_nI (b1_N x)]
  have hn : x.toBitVec.toNat < 2 ^ 32 := x.toBitVec.isLt
  generalize x.toBitVec.toNat = n at hn ⊢
  have e : n = n % 256 + 256 * (n / 256 % 256 + 256 * (n / 65536 % 256 + 256 * (n / 16777216))) := by omega
  have h := bc_4 (a := n % 256) (b := n / 256 % 256) (c := n / 65536 % 256) (e := n / 16777216) (by omega) (by omega) (by omega) (by omega)
  rw [← e] at h
  rw [h]
  refine congrArg nI ?_
  have e4 : p8N (n / 16777216) = p8N (n / 16777216 % 256) := congrArg p8N (by omega)
  rw [e4, L8, L8, L8, L8]
  show _ = 0 + n / 1 % 2 + n / 2 % 2 + n / 4 % 2 + n / 8 % 2 + n / 16 % 2 + n / 32 % 2 + n / 64 % 2 + n / 128 % 2 + n / 256 % 2 + n / 512 % 2 + n / 1024 % 2 + n / 2048 % 2 + n / 4096 % 2 + n / 8192 % 2 + n / 16384 % 2 + n / 32768 % 2 + n / 65536 % 2 + n / 131072 % 2 + n / 262144 % 2 + n / 524288 % 2 + n / 1048576 % 2 + n / 2097152 % 2 + n / 4194304 % 2 + n / 8388608 % 2 + n / 16777216 % 2 + n / 33554432 % 2 + n / 67108864 % 2 + n / 134217728 % 2 + n / 268435456 % 2 + n / 536870912 % 2 + n / 1073741824 % 2 + n / 2147483648 % 2
  simp only [Nat.div_div_eq_div_mul, Nat.reduceMul, Nat.zero_add, Nat.add_assoc, Nat.div_one]
theorem sm_ext {f : Nat → Int32} {n m : Nat} (h : n ≤ m) (h0 : ∀ j, n ≤ j → j < m → f j = 0) : sm f m = sm f n := by
  induction m with
  | zero => have : n = 0 := by omega
            rw [this]
  | succ m ih =>
    by_cases e : n = m + 1
    · rw [e]
    · rw [sm, ih (by omega) (fun j h1 h2 => h0 j h1 (by omega)), h0 m (by omega) (by omega), add_zero']
/-- a boat's cargo counts its bags -/
theorem Cg_count {x : Int32} {μ : Ms} {k : Nat} (h : Cg x μ k) (hC : Cn μ) : nI (bcN x.toBitVec.toNat) = sm (bc1 μ (nI k)) (nG μ) := by
  have hg := hC.g.2
  rw [bc_sm, sm_ext (n := nG μ) (by omega) (fun j h1 _ => by unfold b1; rw [h j, if_neg (by simp; omega)])]
  refine sm_congr fun j hj => ?_
  unfold b1 bc1
  rw [h j]
  by_cases z : μ.2 64 j = 1 ∧ μ.2 66 j = nI k
  · rw [if_pos z, if_pos (by simp [hj, z])]
  · rw [if_neg z, if_neg (by simp [hj]; exact fun q1 q2 => z ⟨q1, q2⟩)]
end B45
