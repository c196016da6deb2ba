/-! ===== WHAT IS GIVEN OF THE START: TEXTS, THE LIST's EMPTY ROW ===== -/
def tks : List (Nat × String) := [(59, "land"), (65, "lift"), (70, "at"), (79, "if"), (86, "not"), (91, "swell"), (93, "hour"), (95, "light"), (97, "free"), (99, "fuel"), (101, "weight"), (103, "day"), (105, "bags"), (84, "and")]
def byk : List (List Int32) := [[108, 97, 110, 100], [108, 105, 102, 116], [97, 116], [105, 102], [110, 111, 116], [115, 119, 101, 108, 108], [104, 111, 117, 114], [108, 105, 103, 104, 116], [102, 114, 101, 101], [102, 117, 101, 108], [119, 101, 105, 103, 104, 116], [100, 97, 121], [98, 97, 103, 115], [97, 110, 100]]
def lnk : List Nat := [4, 4, 2, 2, 3, 5, 4, 5, 4, 4, 6, 3, 4, 3]
section O89
variable {base z mi0 : Nat} {adK adV : Nat → Nat} {u U : State}
def Og (base z mi0 : Nat) (adK adV : Nat → Nat) (U : State) : Prop := Fc U ∧ vk_S 14 lnk byk adK adV (fun q => base ≤ q) U U.heap ∧ (∀ k, k < 14 → vk_R "HullLine$Rules" (tks.getD k (0, "")).1 (tks.getD k (0, "")).2 (adK k) U) ∧ va_Z "java/util/ArrayList" "DEFAULTCAPACITY_EMPTY_ELEMENTDATA" "[Ljava/lang/Object;" (.ref z) (fun q => base ≤ q) U U.heap ∧ va_T (.object "java/lang/Object") z 0 (fun _ => .null) (fun q => base ≤ q) U U.heap ∧ va_Z "java/lang/String" "COMPACT_STRINGS" "Z" (.int 1) (fun q => base ≤ q) U U.heap ∧ va_Zq "jdk/internal/util/Preconditions" "SIOOBE_FORMATTER" "Ljava/util/function/BiFunction;" (fun q => base ≤ q) U U.heap ∧ va_Mi "[Ljava/lang/Object;" mi0 U ∧ va_Dc U ∧ va_AO "java/lang/Object" U
theorem Fc.warm (hw : u.WarmedH U.vm) (h : Fc u) : Fc U :=
  ⟨fun q r hr => va_Nw.warmC hw (h.1 q r hr), fun e he h5 => va_Nw.warmM hw (h.2.1 e he h5), fun e he h5 => va_Fw.moved ⟨by show "java/util/List" ≠ _; decide, by show "java/util/List" ≠ _; decide⟩ hw.alike (h.2.2 e he h5)⟩
theorem Fc.same (hv : u.vm = U.vm) (h : Fc u) : Fc U :=
  ⟨fun q r hr => va_Nw.same rfl hv (h.1 q r hr), fun e he h5 => va_Nw.same rfl hv (h.2.1 e he h5), fun e he h5 => va_Fw.moved ⟨by show "java/util/List" ≠ _; decide, by show "java/util/List" ≠ _; decide⟩ (hv ▸ Vm.Alike.refl u.vm) (h.2.2 e he h5)⟩
theorem Og.go (ha : u.vm.Alike U.vm) (hf : Fc u → Fc U) (hr : ∀ (k : Nat) (tx : String) (a : Nat), vk_R "HullLine$Rules" k tx a u → vk_R "HullLine$Rules" k tx a U) (hq : ∀ q : Nat, q < base → U.heap[q]? = u.heap[q]?) (h : Og base z mi0 adK adV u) : Og base z mi0 adK adV U := by
  obtain ⟨h1, h2, h3, h4, h5, h6, h7, h8, h9, h10⟩ := h
  have hk : ∀ a : Nat, a < u.heap.size → ¬ base ≤ a → U.heap[a]? = u.heap[a]? := fun a _ h => hq a (Nat.not_le.mp h)
  exact ⟨hf h1, (vk_S.moved ha h2).kept hk, fun k hk => hr _ _ _ (h3 k hk), (va_Z.moved ha h4).kept hk, (va_T.moved ha h5).kept hk, (va_Z.moved ha h6).kept hk, h7.elim (fun w => Or.inl ((va_Z.moved ha w).kept hk)) (fun ⟨t, w⟩ => Or.inr ⟨t, (va_Z.moved ha w).kept hk⟩), va_Mi.moved ha h8, va_Dc.moved ha h9, va_AO.moved ha h10⟩
theorem Og.ok : OdOk base (Og base z mi0 adK adV) :=
  ⟨fun u U h hw hq => Og.go hw.alike (Fc.warm hw) (fun _ _ _ w => vk_R.warm hw w) hq h, fun u U h hv hH => Og.go (hv ▸ Vm.Alike.refl u.vm) (Fc.same hv) (fun _ _ _ w => vk_R.same hv.symm w) (fun q _ => by rw [hH]) h, fun u h => h.1⟩
end O89
