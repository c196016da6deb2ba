/-! ===== WHAT IS NOT MEMORY, AND THE MEMORY OF THE LAW's ENTRY ===== -/
section E98
variable {z base : Nat} {adK adV : Nat → Nat} {D : va_G} {cid : Nat → ClassId} {eP : Nat → Option Nat} {eI : Nat → Nat → Int32} {σ : Mm} {H : Heap} {U : State} {mi0 : Nat}
def eP0 (z : Nat) (adK : Nat → Nat) (k : Nat) : Option Nat := if k < 14 then some (adK k) else if k = 100 then some z else none
def eI0 (adK : Nat → Nat) (a j : Nat) : Int32 := match (List.range 14).find? (fun k => adK k == a) with
  | none => 0
  | some k => if j = 0 then 1 else if j = 1 then nI (lnk.getD k 0) else (byk.getD k []).getD (j - 2) 0
theorem find_K (hi : ∀ i j : Nat, i < 14 → j < 14 → adK i = adK j → i = j) {k : Nat} (hk : k < 14) : (List.range 14).find? (fun q => adK q == adK k) = some k := by
  cases hq : (List.range 14).find? (fun q => adK q == adK k) with
  | none =>
    have := List.find?_eq_none.mp hq k (List.mem_range.mpr hk)
    simp at this
  | some q =>
    have h1 := List.mem_range.mp (List.mem_of_find?_eq_some hq)
    have h2 : adK q = adK k := by simpa using List.find?_some hq
    rw [hi q k h1 hk h2]
theorem eok0 (hi : ∀ i j : Nat, i < 14 → j < 14 → adK i = adK j → i = j) : EOk z adK (eP0 z adK) (eI0 adK) := by
  refine ⟨fun k hk => if_pos hk, rfl, fun a h => ?_, fun k hk => ?_⟩
  · unfold eI0 at h
    cases hq : (List.range 14).find? (fun k => adK k == a) with
    | none => rw [hq] at h; exact absurd h (by decide)
    | some k =>
      have h1 := List.mem_range.mp (List.mem_of_find?_eq_some hq)
      have h2 : adK k = a := by simpa using List.find?_some hq
      exact ⟨k, h1, h2.symm⟩
  · have e := find_K hi hk
    unfold eI0
    rw [e]
    refine ⟨rfl, rfl, fun j hj => ?_⟩
    show (if 2 + j = 0 then (1 : Int32) else if 2 + j = 1 then nI (lnk.getD k 0) else (byk.getD k []).getD (2 + j - 2) 0) = _
    rw [if_neg (by omega), if_neg (by omega), show 2 + j - 2 = j by omega]
theorem wd_ok : ∀ k, k < 14 → (wdl (scd k)).length = lnk.getD k 0 ∧ ∀ j, j < lnk.getD k 0 → (byk.getD k []).getD j 0 = nI ((wdl (scd k)).getD j 0) := by decide
theorem sg_of (hE : EOk z adK eP eI) (hW : Wh D cid base eP eI σ H) : Sg σ := by
  intro k hk
  obtain ⟨w1, w2⟩ := wd_ok k hk
  obtain ⟨e1, e2, e3⟩ := hE.2.2.2 k hk
  refine ⟨adK k, (hW.2.2.2.2.2.1 k).trans (hE.1 k hk), (hW.2.2.2.2.2.2.1 _ _).trans e1, ?_, fun j hj => ?_⟩
  · rw [w1]; exact (hW.2.2.2.2.2.2.1 _ _).trans e2
  · rw [w1] at hj
    exact ((hW.2.2.2.2.2.2.1 _ _).trans (e3 j hj)).trans (w2 j hj)
/-- nothing is made yet -/
def s00 (n : Nat) (eP : Nat → Option Nat) (eI : Nat → Nat → Int32) : Mm := (fun c a k => if c = 19 then eI a k else 0, fun c a k => if c = 19 ∧ a = 0 then eP k else none, fun _ => 0, fun _ => 0, [], n, 0)
theorem s00_P {n k : Nat} : mP (s00 n eP eI) 19 0 k = eP k := by
  show (if (19 : Nat) = 19 ∧ (0 : Nat) = 0 then eP k else none) = eP k
  rw [if_pos ⟨rfl, rfl⟩]
theorem s00_I {n a k : Nat} : mI (s00 n eP eI) 19 a k = eI a k := by
  show (if (19 : Nat) = 19 then eI a k else 0) = eI a k
  rw [if_pos rfl]
theorem wh_00 : Wh D cid U.heap.size eP eI (s00 U.heap.size eP eI) U.heap := by
  refine ⟨fun k q h => ?_, ⟨fun i j p q h => ?_, fun k q h => ?_⟩, rfl, Nat.le_refl _, fun a h => absurd rfl h, fun k => s00_P, fun a k => s00_I, fun a _ => Nat.zero_le _⟩
  · cases h
  · cases h
  · cases h
theorem kx_00 {n : Nat} : Kx (s00 n eP eI) := fun q h => absurd rfl h
theorem ez_00 (hE : EOk z adK eP eI) (hO : Og U.heap.size z mi0 adK adV U) : Ez (s00 U.heap.size eP eI) := by
  refine ⟨z, ?_, rfl, ?_⟩
  · exact s00_P.trans hE.2.1
  · exact Nat.not_le.mp hO.2.2.2.2.1.out
end E98
