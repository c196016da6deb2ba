/-! ===== A BUILDER's PREDICATE (printed by wip/gen/init.py) ===== -/
section B85
variable {σ σ0 : Mm} {c n : Nat} {K N : Nat → Nat} {V : Nat → Int32} {pts : List (Nat × Nat × Nat × Nat)} {es : List Nat}
/-- n cells are made from c on, of kinds K and lengths N, all zero but those of kind 40, which hold V; pointers by pts; lists' empty rows at es; what was there is as it was -/
def Bd (σ0 : Mm) (c : Nat) (K N : Nat → Nat) (V : Nat → Int32) (σ : Mm) (n : Nat) (pts : List (Nat × Nat × Nat × Nat)) (es : List Nat) : Prop := mX σ = c + n ∧ mX σ0 ≤ c ∧ (∀ o, o < n → mK σ (c + o) = K o ∧ mN σ (c + o) = N o ∧ (K o ≠ 40 → ∀ j, mI σ (K o) (c + o) j = 0) ∧ (K o = 40 → ∀ j, mI σ 40 (c + o) j = V j)) ∧ (∀ e, e ∈ pts → e.2.1 < n ∧ mP σ e.1 (c + e.2.1) e.2.2.1 = some (c + e.2.2.2)) ∧ (∀ o, o ∈ es → o < n ∧ mP σ 1 (c + o) 1 = mP σ0 19 0 100) ∧ Sm (fun _ => false) σ0 σ ∧ Kx σ ∧ mS σ ≤ mS σ0 + n * 500
theorem bd_K (h : Bd σ0 c K N V σ n pts es) {o : Nat} (ho : o < n) : mK σ (c + o) = K o := (h.2.2.1 o ho).1
theorem bd_N (h : Bd σ0 c K N V σ n pts es) {o : Nat} (ho : o < n) : mN σ (c + o) = N o := (h.2.2.1 o ho).2.1
theorem bd_I (h : Bd σ0 c K N V σ n pts es) {o : Nat} (ho : o < n) (hk : K o ≠ 40) (j : Nat) : mI σ (K o) (c + o) j = 0 := (h.2.2.1 o ho).2.2.1 hk j
theorem bd_V (h : Bd σ0 c K N V σ n pts es) {o : Nat} (ho : o < n) (hk : K o = 40) (j : Nat) : mI σ 40 (c + o) j = V j := (h.2.2.1 o ho).2.2.2 hk j
theorem bd_P (h : Bd σ0 c K N V σ n pts es) {k o f t : Nat} (he : (k, o, f, t) ∈ pts) : mP σ k (c + o) f = some (c + t) := (h.2.2.2.1 _ he).2
theorem bd_0 (h : Bd σ0 c K N V σ n pts es) (ho : 0 < n) : mK σ c = K 0 := bd_K (o := 0) h ho
theorem bd_nw (h : Bd σ0 c K N V σ n pts es) {kd len : Nat} (sl : Nat) (hk : K n = kd) (hl : N n = len) (hv : kd = 40 → ∀ j, V j = 0) (hs : sl ≤ 500 := by decide) : Bd σ0 c K N V (nw σ kd len sl) (n + 1) pts es := by
  obtain ⟨h1, h2, h3, h4, h5, h6, h7, h8⟩ := h
  refine ⟨by rw [mX_nw, h1]; omega, h2, fun o ho => ?_, fun e he => ?_, fun o ho => ?_, Smnw h6 _ _ _, Kxnw h7 _ _ _, by rw [mS_nw]; omega⟩
  · by_cases e : o = n
    · subst e
      rw [mK_nw, mN_nw, h1, if_pos rfl, if_pos rfl]
      exact ⟨hk.symm, hl.symm, fun _ j => by rw [mI_nw, if_pos ⟨hk, h1.symm⟩], fun z j => by rw [hk] at z; rw [mI_nw, if_pos ⟨z.symm, h1.symm⟩, hv z]⟩
    · obtain ⟨q1, q2, q3, q4⟩ := h3 o (by omega)
      rw [mK_nw, mN_nw, h1, if_neg (by omega), if_neg (by omega)]
      exact ⟨q1, q2, fun z j => by rw [mI_nw, h1, if_neg (by omega)]; exact q3 z j, fun z j => by rw [mI_nw, h1, if_neg (by omega)]; exact q4 z j⟩
  · obtain ⟨q1, q2⟩ := h4 e he
    exact ⟨by omega, by rw [mP_nw, h1, if_neg (by omega)]; exact q2⟩
  · obtain ⟨q1, q2⟩ := h5 o ho
    exact ⟨by omega, by rw [mP_nw, h1, if_neg (by omega)]; exact q2⟩
theorem bd_sP (h : Bd σ0 c K N V σ n pts es) (k f t : Nat) {o : Nat} (ho : o < n) (hk : k ≠ 1) (hne : ∀ e, e ∈ pts → ¬ (e.1 = k ∧ e.2.1 = o ∧ e.2.2.1 = f)) : Bd σ0 c K N V (sP σ k (c + o) f (some (c + t))) n ((k, o, f, t) :: pts) es := by
  obtain ⟨h1, h2, h3, h4, h5, h6, h7, h8⟩ := h
  refine ⟨h1, h2, fun o ho => h3 o ho, fun e he => ?_, fun o' ho' => ?_, SmsPn h6 _ (by omega) _ _, h7, h8⟩
  · rcases List.mem_cons.mp he with q | q
    · subst q
      exact ⟨ho, by rw [mP_sP, if_pos ⟨rfl, rfl, rfl⟩]⟩
    · obtain ⟨q1, q2⟩ := h4 e q
      have := hne e q
      exact ⟨q1, by rw [mP_sP, if_neg (fun z => this ⟨z.1, by omega, z.2.2⟩)]; exact q2⟩
  · obtain ⟨q1, q2⟩ := h5 o' ho'
    exact ⟨q1, by rw [mP_sP, if_neg (fun z => hk z.1.symm)]; exact q2⟩
theorem bd_sP0 (h : Bd σ0 c K N V σ n pts es) (k f t : Nat) (ho : 0 < n) (hk : k ≠ 1) (hne : ∀ e, e ∈ pts → ¬ (e.1 = k ∧ e.2.1 = 0 ∧ e.2.2.1 = f)) : Bd σ0 c K N V (sP σ k c f (some (c + t))) n ((k, 0, f, t) :: pts) es := bd_sP (o := 0) h k f t ho hk hne
theorem bd_sE (h : Bd σ0 c K N V σ n pts es) {o : Nat} (ho : o < n) (hne : ∀ e, e ∈ pts → e.1 ≠ 1) {v : Option Nat} (hv : v = mP σ0 19 0 100) : Bd σ0 c K N V (sP σ 1 (c + o) 1 v) n pts (o :: es) := by
  obtain ⟨h1, h2, h3, h4, h5, h6, h7, h8⟩ := h
  refine ⟨h1, h2, fun o ho => h3 o ho, fun e he => ?_, fun o' ho' => ?_, SmsPn h6 _ (by omega) _ _, h7, h8⟩
  · obtain ⟨q1, q2⟩ := h4 e he
    exact ⟨q1, by rw [mP_sP, if_neg (fun z => hne e he z.1)]; exact q2⟩
  · by_cases q : o' = o
    · subst q
      exact ⟨ho, by rw [mP_sP, if_pos ⟨rfl, rfl, rfl⟩]; exact hv⟩
    · obtain ⟨q1, q2⟩ := h5 o' ((List.mem_cons.mp ho').resolve_left q)
      exact ⟨q1, by rw [mP_sP, if_neg (by omega)]; exact q2⟩
theorem bd_s0 (h : Bd σ0 c K N V σ n pts es) {k : Nat} (hk : k ≠ 40) (f : Nat) {o : Nat} (_ : o < n) : Bd σ0 c K N V (sI σ k (c + o) f 0) n pts es := by
  obtain ⟨h1, h2, h3, h4, h5, h6, h7, h8⟩ := h
  refine ⟨h1, h2, fun o' ho' => ⟨(h3 o' ho').1, (h3 o' ho').2.1, fun z j => ?_, fun z j => ?_⟩, h4, h5, SmsIn h6 _ (by omega) _ _, h7, h8⟩
  · rw [mI_sI]
    split
    · rfl
    · exact (h3 o' ho').2.2.1 z j
  · rw [mI_sI, if_neg (fun y => hk y.1.symm)]
    exact (h3 o' ho').2.2.2 z j
theorem bd_hd (h : Bd σ0 c K N V σ n pts es) (f : Nat) (v : Int32) {o : Nat} (_ : o < n) (hu : ∀ o', o' < n → K o' = 40 → o' = o) : Bd σ0 c K N (fun j => if j = f then v else V j) (sI σ 40 (c + o) f v) n pts es := by
  obtain ⟨h1, h2, h3, h4, h5, h6, h7, h8⟩ := h
  refine ⟨h1, h2, fun o' ho' => ⟨(h3 o' ho').1, (h3 o' ho').2.1, fun z j => ?_, fun z j => ?_⟩, h4, h5, SmsIn h6 _ (by omega) _ _, h7, h8⟩
  · rw [mI_sI, if_neg (fun y => z y.1)]
    exact (h3 o' ho').2.2.1 z j
  · have := hu o' ho' z
    subst this
    rw [mI_sI]
    by_cases y : j = f
    · rw [if_pos ⟨rfl, rfl, y⟩]
      show v = if j = f then v else V j
      rw [if_pos y]
    · rw [if_neg (fun u => y u.2.2)]
      show _ = if j = f then v else V j
      rw [if_neg y]
      exact (h3 o' ho').2.2.2 z j
theorem bd_ez (h : Bd σ0 c K N V σ n pts es) (hc : 0 < mX σ0) : mP σ 19 0 100 = mP σ0 19 0 100 := h.2.2.2.2.2.1.P rfl hc _
theorem bd_beg (hX : Kx σ0) {kd len sl : Nat} (hk : K 0 = kd) (hl : N 0 = len) (h4 : kd ≠ 40) (hs : sl ≤ 500) : Bd σ0 (mX σ0) K N V (nw σ0 kd len sl) 1 [] [] := by
  have h : Bd σ0 (mX σ0) K N V σ0 0 [] [] := ⟨rfl, Nat.le_refl _, fun o ho => by omega, fun e he => (by cases he), fun o ho => (by cases ho), Sm.rfl' σ0, hX, by omega⟩
  exact bd_nw h sl hk hl (fun z => absurd z h4) hs
end B85
