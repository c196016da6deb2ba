/-! ===== THE MEMORY IN THE MACHINE's HEAP ===== -/
def fv (σ : Mm) (kd a k : Nat) : Value := if kr kd k = true then va_rf (mP σ kd a k) else .int (mI σ kd a k)
def aty (t : Nat) : FieldType := match t with
  | 0 => .int
  | 1 => .boolean
  | 2 => .byte
  | 3 => .object "java/lang/Object"
  | _ => .long
def acl (σ : Mm) (kd a : Nat) : vp_A := (mN σ a, match kd % 5 with
  | 3 => .inr (.inr (.inr (.inr (fun j => mP σ kd a j))))
  | 4 => .inr (.inl (fun j => (mI σ kd a j).toInt64))
  | _ => .inl (fun j => mI σ kd a j))
/-- what lies at an address, by its kind -/
def clf (cid : Nat → ClassId) (σ : Mm) (a : Nat) : va_E := if mK σ a < 20 then .inr (mK σ a - 1, (List.range (kn (mK σ a))).map (fv σ (mK σ a) a)) else .inl (cid (mK σ a % 5), acl σ (mK σ a) a)
abbrev tyl (cid : Nat → ClassId) : List (ClassId × FieldType) := [(cid 0, aty 0), (cid 1, aty 1), (cid 2, aty 2), (cid 3, aty 3), (cid 4, aty 4)]
/-- the heap holds the memory; nothing of it lies below base; what is not memory is as eP, eI have it -/
def Wh (D : va_G) (cid : Nat → ClassId) (base : Nat) (eP : Nat → Option Nat) (eI : Nat → Nat → Int32) (σ : Mm) (H : Heap) : Prop :=
  va_P D vwCl (va_pl (mL σ) (clf cid σ)) H ∧ va_D (fun q => base ≤ q) (va_pl (mL σ) (clf cid σ)) ∧ H.size = mX σ ∧ base ≤ mX σ ∧ (∀ a, mK σ a ≠ 0 → a ∈ mL σ) ∧ (∀ k, mP σ 19 0 k = eP k) ∧ (∀ a k, mI σ 19 a k = eI a k) ∧ (∀ a, mK σ a < 20 → mK σ a ≤ 13)
section WH
variable {D : va_G} {cid : Nat → ClassId} {base : Nat} {eP : Nat → Option Nat} {eI : Nat → Nat → Int32} {σ : Mm} {H : Heap}
theorem clf_obj {a c : Nat} (h : mK σ a = c) (hc : c < 20) : clf cid σ a = .inr (c - 1, (List.range (kn c)).map (fv σ c a)) := by
  subst h
  simp only [clf, if_pos hc]
theorem clf_arr {a c : Nat} (h : mK σ a = c) (hc : 20 ≤ c) : clf cid σ a = .inl (cid (c % 5), acl σ c a) := by
  subst h
  simp only [clf, if_neg (Nat.not_lt.mpr hc)]
theorem Wh.at (hW : Wh D cid base eP eI σ H) {a : Nat} (h : mK σ a ≠ 0) : ∃ k : Nat, (va_pl (mL σ) (clf cid σ))[k]? = some (a, clf cid σ a) := by
  obtain ⟨k, hk⟩ := va_pl_get (X := []) (f := clf cid σ) (hW.2.2.2.2.1 a h)
  exact ⟨k, hk⟩
theorem Wh.lt (hW : Wh D cid base eP eI σ H) {a : Nat} (h : mK σ a ≠ 0) : a < mX σ := by
  rw [← hW.2.2.1]
  exact va_pl_lt (X := []) hW.1 (hW.2.2.2.2.1 a h)
theorem Wh.ge (hW : Wh D cid base eP eI σ H) {a : Nat} (h : mK σ a ≠ 0) : base ≤ a := by
  obtain ⟨k, hk⟩ := hW.at h
  exact hW.2.1.2 k _ hk
theorem fv_get (σ : Mm) {c a k : Nat} (hk : k < kn c) : ((List.range (kn c)).map (fv σ c a))[k]? = some (fv σ c a k) := by
  simp [hk]
/-- one field of one object changed -/
theorem clf_put {σ σ' : Mm} {c a k : Nat} {v : Value} (hK : mK σ' = mK σ) (hN : mN σ' = mN σ) (hc : mK σ a = c) (h20 : c < 20) (hI : ∀ c' a' k', ¬ (c' = c ∧ a' = a ∧ k' = k) → mI σ' c' a' k' = mI σ c' a' k') (hP : ∀ c' a' k', ¬ (c' = c ∧ a' = a ∧ k' = k) → mP σ' c' a' k' = mP σ c' a' k') (hv : fv σ' c a k = v) (b : Nat) :
    va_up (clf cid σ) a (.inr (c - 1, ((List.range (kn c)).map (fv σ c a)).set k v)) b = clf cid σ' b := by
  by_cases hb : b = a
  · subst hb
    rw [va_up_self, clf_obj (σ := σ') (by rw [hK]; exact hc) h20]
    congr 2
    apply List.ext_getElem?
    intro j
    by_cases hj : j = k
    · subst hj
      by_cases hl : j < kn c
      · rw [List.getElem?_set_self (by simpa using hl), fv_get σ' hl, hv]
      · rw [List.getElem?_eq_none (by simpa using Nat.not_lt.mp hl), List.getElem?_eq_none (by simpa using Nat.not_lt.mp hl)]
    · rw [List.getElem?_set_ne (Ne.symm hj)]
      simp only [List.getElem?_map]
      cases hq : (List.range (kn c))[j]? with
      | none => rfl
      | some x =>
        have hx : x = j := by
          have := List.getElem?_eq_some_iff.mp hq
          obtain ⟨h1, h2⟩ := this
          simpa using h2.symm
        subst hx
        simp only [Option.map_some, fv]
        rw [hI _ _ _ (fun q => hj q.2.2), hP _ _ _ (fun q => hj q.2.2)]
  · rw [va_up_ne _ _ hb]
    simp only [clf, hK, acl, hN]
    have e1 : ∀ c' k', mI σ' c' b k' = mI σ c' b k' := fun c' k' => hI _ _ _ (fun q => hb q.2.1)
    have e2 : ∀ c' k', mP σ' c' b k' = mP σ c' b k' := fun c' k' => hP _ _ _ (fun q => hb q.2.1)
    have e3 : fv σ' (mK σ b) b = fv σ (mK σ b) b := by
      funext k'
      simp only [fv, e1, e2]
    rw [e3]
    simp only [e1, e2]
/-- one array changed -/
theorem clf_arr_put {σ σ' : Mm} {c a : Nat} (hK : mK σ' = mK σ) (hN : mN σ' = mN σ) (hc : mK σ a = c) (h20 : 20 ≤ c) (hI : ∀ c' a' k', ¬ (c' = c ∧ a' = a) → mI σ' c' a' k' = mI σ c' a' k') (hP : ∀ c' a' k', ¬ (c' = c ∧ a' = a) → mP σ' c' a' k' = mP σ c' a' k') (b : Nat) :
    va_up (clf cid σ) a (.inl (cid (c % 5), acl σ' c a)) b = clf cid σ' b := by
  by_cases hb : b = a
  · subst hb
    rw [va_up_self, clf_arr (σ := σ') (by rw [hK]; exact hc) h20]
  · rw [va_up_ne _ _ hb]
    simp only [clf, hK, acl, hN]
    have e1 : ∀ c' k', mI σ' c' b k' = mI σ c' b k' := fun c' k' => hI _ _ _ (fun q => hb q.2)
    have e2 : ∀ c' k', mP σ' c' b k' = mP σ c' b k' := fun c' k' => hP _ _ _ (fun q => hb q.2)
    have e3 : fv σ' (mK σ b) b = fv σ (mK σ b) b := by
      funext k'
      simp only [fv, e1, e2]
    rw [e3]
    simp only [e1, e2]
/-- a new cell -/
theorem clf_new {σ : Mm} {kd len sl : Nat} {e : va_E} (hf : mK σ (mX σ) = 0) (he : clf cid (nw σ kd len sl) (mX σ) = e) (b : Nat) : va_up (clf cid σ) (mX σ) e b = clf cid (nw σ kd len sl) b := by
  by_cases hb : b = mX σ
  · subst hb
    rw [va_up_self, he]
  · rw [va_up_ne _ _ hb]
    have e1 : ∀ c' k', mI (nw σ kd len sl) c' b k' = mI σ c' b k' := fun c' k' => by simp [nw, mI, hb]
    have e2 : ∀ c' k', mP (nw σ kd len sl) c' b k' = mP σ c' b k' := fun c' k' => by simp [nw, mP, hb]
    have e3 : mK (nw σ kd len sl) b = mK σ b := by show va_up _ _ _ _ = _; rw [va_up_ne _ _ hb]
    have e4 : mN (nw σ kd len sl) b = mN σ b := by show va_up _ _ _ _ = _; rw [va_up_ne _ _ hb]
    have e5 : fv (nw σ kd len sl) (mK σ b) b = fv σ (mK σ b) b := by
      funext k'
      simp only [fv, e1, e2]
    simp only [clf, acl, e3, e4, e5, e1, e2]
end WH
