/-! ===== WHAT IS GIVEN OF THE START: TEXTS, THE LIST's EMPTY ROW ===== -/
def tks : List (Nat × String) := [(59, "land"), (65, "lift"), (70, "at"), (79, "if"), (86, "not"), (91, "swell"), (93, "hour"), (95, "light"), (97, "free"), (99, "fuel"), (101, "weight"), (103, "day"), (105, "bags"), (84, "and")]
def byk : List (List Int32) := [[108, 97, 110, 100], [108, 105, 102, 116], [97, 116], [105, 102], [110, 111, 116], [115, 119, 101, 108, 108], [104, 111, 117, 114], [108, 105, 103, 104, 116], [102, 114, 101, 101], [102, 117, 101, 108], [119, 101, 105, 103, 104, 116], [100, 97, 121], [98, 97, 103, 115], [97, 110, 100]]
def lnk : List Nat := [4, 4, 2, 2, 3, 5, 4, 5, 4, 4, 6, 3, 4, 3]
section O89
variable {base z mi0 : Nat} {adK adV : Nat → Nat} {u U : State}
def Og (base z mi0 : Nat) (adK adV : Nat → Nat) (U : State) : Prop := Fc U ∧ vk_S 14 lnk byk adK adV (fun q => base ≤ q) U U.heap ∧ (∀ k, k < 14 → vk_R "HullLine$Rules" (tks.getD k (0, "")).1 (tks.getD k (0, "")).2 (adK k) U) ∧ va_Z "java/util/ArrayList" "DEFAULTCAPACITY_EMPTY_ELEMENTDATA" "[Ljava/lang/Object;" (.ref z) (fun q => base ≤ q) U U.heap ∧ va_T (.object "java/lang/Object") z 0 (fun _ => .null) (fun q => base ≤ q) U U.heap ∧ va_Z "java/lang/String" "COMPACT_STRINGS" "Z" (.int 1) (fun q => base ≤ q) U U.heap ∧ va_Zq "jdk/internal/util/Preconditions" "SIOOBE_FORMATTER" "Ljava/util/function/BiFunction;" (fun q => base ≤ q) U U.heap ∧ va_Mi "[Ljava/lang/Object;" mi0 U ∧ va_Dc U
theorem Fc.w1 (hw : u.WarmedH U.vm) (h : Fc u) : ∀ (q : Nat) (r : vw_C), vwCl[q]? = some r → va_Nw (.castable r.1 "java/lang/Object") U := fun q r hr => va_Nw.warmC hw (h.1 q r hr)
theorem Fc.w2 (hw : u.WarmedH U.vm) (h : Fc u) : ∀ e ∈ ml, e.2.2.2 = 3 ∨ e.2.2.2 = 4 → va_Nw (.methodLinkNest (own e.1) e.2.1 (myn e.2.2.1) "HullLine") U := fun e he h5 => va_Nw.warmM hw (h.2.1 e he h5)
end O89
