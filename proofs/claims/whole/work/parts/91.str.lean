/-! ===== MEMBERS OF String (printed by wip/gen/jdk.py) ===== -/
theorem dJ0_coder_7d493_0 : decode cJ0_coder_7d493 0 = .ok (.getstatic 38, 3) := by decide +kernel
theorem dJ0_coder_7d493_3 : decode cJ0_coder_7d493 3 = .ok (.ifCond .eq 10, 3) := by decide +kernel
theorem dJ0_coder_7d493_6 : decode cJ0_coder_7d493 6 = .ok (.aload_n 0, 1) := by decide +kernel
theorem dJ0_coder_7d493_7 : decode cJ0_coder_7d493 7 = .ok (.getfield 15, 3) := by decide +kernel
theorem dJ0_coder_7d493_10 : decode cJ0_coder_7d493 10 = .ok (.goto 4, 3) := by decide +kernel
theorem dJ0_coder_7d493_13 : decode cJ0_coder_7d493 13 = .ok (.iconst 1, 1) := by decide +kernel
theorem dJ0_coder_7d493_14 : decode cJ0_coder_7d493 14 = .ok (.ireturn, 1) := by decide +kernel
theorem dJ0_length_8abf5_0 : decode cJ0_length_8abf5 0 = .ok (.aload_n 0, 1) := by decide +kernel
theorem dJ0_length_8abf5_1 : decode cJ0_length_8abf5 1 = .ok (.getfield 9, 3) := by decide +kernel
theorem dJ0_length_8abf5_4 : decode cJ0_length_8abf5 4 = .ok (.arraylength, 1) := by decide +kernel
theorem dJ0_length_8abf5_5 : decode cJ0_length_8abf5 5 = .ok (.aload_n 0, 1) := by decide +kernel
theorem dJ0_length_8abf5_6 : decode cJ0_length_8abf5 6 = .ok (.invokevirtual 335, 3) := by decide +kernel
theorem dJ0_length_8abf5_9 : decode cJ0_length_8abf5 9 = .ok (.ishr, 1) := by decide +kernel
theorem dJ0_length_8abf5_10 : decode cJ0_length_8abf5 10 = .ok (.ireturn, 1) := by decide +kernel
theorem dJ0_isLatin1_aae02_0 : decode cJ0_isLatin1_aae02 0 = .ok (.getstatic 38, 3) := by decide +kernel
theorem dJ0_isLatin1_aae02_3 : decode cJ0_isLatin1_aae02 3 = .ok (.ifCond .eq 14, 3) := by decide +kernel
theorem dJ0_isLatin1_aae02_6 : decode cJ0_isLatin1_aae02 6 = .ok (.aload_n 0, 1) := by decide +kernel
theorem dJ0_isLatin1_aae02_7 : decode cJ0_isLatin1_aae02 7 = .ok (.getfield 15, 3) := by decide +kernel
theorem dJ0_isLatin1_aae02_10 : decode cJ0_isLatin1_aae02 10 = .ok (.ifCond .ne 7, 3) := by decide +kernel
theorem dJ0_isLatin1_aae02_13 : decode cJ0_isLatin1_aae02 13 = .ok (.iconst 1, 1) := by decide +kernel
theorem dJ0_isLatin1_aae02_14 : decode cJ0_isLatin1_aae02 14 = .ok (.goto 4, 3) := by decide +kernel
theorem dJ0_isLatin1_aae02_17 : decode cJ0_isLatin1_aae02 17 = .ok (.iconst 0, 1) := by decide +kernel
theorem dJ0_isLatin1_aae02_18 : decode cJ0_isLatin1_aae02 18 = .ok (.ireturn, 1) := by decide +kernel
theorem dJ0_checkIndex_df160_0 : decode cJ0_checkIndex_df160 0 = .ok (.iload_n 0, 1) := by decide +kernel
theorem dJ0_checkIndex_df160_1 : decode cJ0_checkIndex_df160 1 = .ok (.iload_n 1, 1) := by decide +kernel
theorem dJ0_checkIndex_df160_2 : decode cJ0_checkIndex_df160 2 = .ok (.getstatic 1053, 3) := by decide +kernel
theorem dJ0_checkIndex_df160_5 : decode cJ0_checkIndex_df160 5 = .ok (.invokestatic 1059, 3) := by decide +kernel
theorem dJ0_checkIndex_df160_8 : decode cJ0_checkIndex_df160 8 = .ok (.pop, 1) := by decide +kernel
theorem dJ0_checkIndex_df160_9 : decode cJ0_checkIndex_df160 9 = .ok (.return_, 1) := by decide +kernel
theorem dJ1_charAt_3b067_0 : decode cJ1_charAt_3b067 0 = .ok (.iload_n 1, 1) := by decide +kernel
theorem dJ1_charAt_3b067_1 : decode cJ1_charAt_3b067 1 = .ok (.aload_n 0, 1) := by decide +kernel
theorem dJ1_charAt_3b067_2 : decode cJ1_charAt_3b067 2 = .ok (.arraylength, 1) := by decide +kernel
theorem dJ1_charAt_3b067_3 : decode cJ1_charAt_3b067 3 = .ok (.invokestatic 9, 3) := by decide +kernel
theorem dJ1_charAt_3b067_6 : decode cJ1_charAt_3b067 6 = .ok (.aload_n 0, 1) := by decide +kernel
theorem dJ1_charAt_3b067_7 : decode cJ1_charAt_3b067 7 = .ok (.iload_n 1, 1) := by decide +kernel
theorem dJ1_charAt_3b067_8 : decode cJ1_charAt_3b067 8 = .ok (.baload, 1) := by decide +kernel
theorem dJ1_charAt_3b067_9 : decode cJ1_charAt_3b067 9 = .ok (.sipush 255, 3) := by decide +kernel
theorem dJ1_charAt_3b067_12 : decode cJ1_charAt_3b067 12 = .ok (.iand, 1) := by decide +kernel
theorem dJ1_charAt_3b067_13 : decode cJ1_charAt_3b067 13 = .ok (.i2c, 1) := by decide +kernel
theorem dJ1_charAt_3b067_14 : decode cJ1_charAt_3b067 14 = .ok (.ireturn, 1) := by decide +kernel
theorem dJ3_checkIndex_8e157_0 : decode cJ3_checkIndex_8e157 0 = .ok (.iload_n 0, 1) := by decide +kernel
theorem dJ3_checkIndex_8e157_1 : decode cJ3_checkIndex_8e157 1 = .ok (.ifCond .lt 8, 3) := by decide +kernel
theorem dJ3_checkIndex_8e157_4 : decode cJ3_checkIndex_8e157 4 = .ok (.iload_n 0, 1) := by decide +kernel
theorem dJ3_checkIndex_8e157_5 : decode cJ3_checkIndex_8e157 5 = .ok (.iload_n 1, 1) := by decide +kernel
theorem dJ3_checkIndex_8e157_6 : decode cJ3_checkIndex_8e157 6 = .ok (.if_icmp .lt 10, 3) := by decide +kernel
theorem dJ3_checkIndex_8e157_9 : decode cJ3_checkIndex_8e157 9 = .ok (.aload_n 2, 1) := by decide +kernel
theorem dJ3_checkIndex_8e157_10 : decode cJ3_checkIndex_8e157 10 = .ok (.iload_n 0, 1) := by decide +kernel
theorem dJ3_checkIndex_8e157_11 : decode cJ3_checkIndex_8e157 11 = .ok (.iload_n 1, 1) := by decide +kernel
theorem dJ3_checkIndex_8e157_12 : decode cJ3_checkIndex_8e157 12 = .ok (.invokestatic 95, 3) := by decide +kernel
theorem dJ3_checkIndex_8e157_15 : decode cJ3_checkIndex_8e157 15 = .ok (.athrow, 1) := by decide +kernel
theorem dJ3_checkIndex_8e157_16 : decode cJ3_checkIndex_8e157 16 = .ok (.iload_n 0, 1) := by decide +kernel
theorem dJ3_checkIndex_8e157_17 : decode cJ3_checkIndex_8e157 17 = .ok (.ireturn, 1) := by decide +kernel
theorem dJ0_charAt_5068e_0 : decode cJ0_charAt_5068e 0 = .ok (.aload_n 0, 1) := by decide +kernel
theorem dJ0_charAt_5068e_1 : decode cJ0_charAt_5068e 1 = .ok (.invokevirtual 492, 3) := by decide +kernel
theorem dJ0_charAt_5068e_4 : decode cJ0_charAt_5068e 4 = .ok (.ifCond .eq 12, 3) := by decide +kernel
theorem dJ0_charAt_5068e_7 : decode cJ0_charAt_5068e 7 = .ok (.aload_n 0, 1) := by decide +kernel
theorem dJ0_charAt_5068e_8 : decode cJ0_charAt_5068e 8 = .ok (.getfield 9, 3) := by decide +kernel
theorem dJ0_charAt_5068e_11 : decode cJ0_charAt_5068e 11 = .ok (.iload_n 1, 1) := by decide +kernel
theorem dJ0_charAt_5068e_12 : decode cJ0_charAt_5068e 12 = .ok (.invokestatic 495, 3) := by decide +kernel
theorem dJ0_charAt_5068e_15 : decode cJ0_charAt_5068e 15 = .ok (.ireturn, 1) := by decide +kernel
theorem dJ0_charAt_5068e_16 : decode cJ0_charAt_5068e 16 = .ok (.aload_n 0, 1) := by decide +kernel
theorem dJ0_charAt_5068e_17 : decode cJ0_charAt_5068e 17 = .ok (.getfield 9, 3) := by decide +kernel
theorem dJ0_charAt_5068e_20 : decode cJ0_charAt_5068e 20 = .ok (.iload_n 1, 1) := by decide +kernel
theorem dJ0_charAt_5068e_21 : decode cJ0_charAt_5068e 21 = .ok (.invokestatic 498, 3) := by decide +kernel
theorem dJ0_charAt_5068e_24 : decode cJ0_charAt_5068e 24 = .ok (.ireturn, 1) := by decide +kernel
section J90
variable {l : Launch} {base z mi0 : Nat} {adK adV : Nat → Nat} {D : va_G} {cid : Nat → ClassId} {eP : Nat → Option Nat} {eI : Nat → Nat → Int32} {σ : Mm}
/-- so many frames and locals, no cell -/
abbrev rmJ (f n : Nat) : Room := { frames := f, cells := 0, slots := 0, locals := n }
/-- a contract of a member that makes nothing -/
abbrev Mj (l : Launch) (base z mi0 : Nat) (adK adV : Nat → Nat) (D : va_G) (cid : Nat → ClassId) (eP : Nat → Option Nat) (eI : Nat → Nat → Int32) (σ : Mm) (y : MethodName) (cc : ByteArray) (n : Nat) (ret : Option FieldType) (f nl : Nat) (as : List Value) (v : Option Value) : Prop :=
  Met l y (Cond.code y cc n ret :: gw) (rmJ f nl) (va_Pc as (Wst D cid base eP eI (Og base z mi0 adK adV) σ)) (Qg D cid base eP eI v σ) 0 0 (fun q => base ≤ q)
set_option maxRecDepth 100000 in
theorem mj_coder {i : Nat} (hi : i < 14) : Mj l base z mi0 adK adV D cid eP eI σ yJ0_coder_7d493 cJ0_coder_7d493 1 (some .byte) 1 10 [.ref (adK i)] (some (.int 0)) := by
  refine Met.ofW (cc := cJ0_coder_7d493) (maxL := 1) (ret := some .byte) (by decide) rfl ?_
  intro p e s m args below meth c s₁ B hml hv
  obtain ⟨rfl, hW, hK, hO⟩ := hv
  have hts0 := atoms_spec (ws := Cond.code yJ0_coder_7d493 cJ0_coder_7d493 1 (some .byte) :: gw) B.pre
  have hts : ∀ w ∈ gw, w.before _ s = true := fun w h => hts0 w (List.mem_cons_of_mem _ h)
  have hown : s.vm.findClass "java/lang/String" = some m.cls := findClass_of_methodNamed B.named
  have hx := B.exec
  have hb := B.bytes
  have hba : base ≤ s.heap.size := by rw [hW.2.2.1]; exact hW.2.2.2.1
  have hS : va_S (fun q => base ≤ q) s.heap s.heap [] := va_S.rf
  rw [lg_entry_eq]
  have hl := lv_entry ([Value.ref (adK i)] : List Value) (n := 1) (Nat.le_of_ble_eq_true rfl)
  generalize (lg_sl ([Value.ref (adK i)] : List Value) ++ List.replicate (1 - (lg_sl ([Value.ref (adK i)] : List Value)).length) Slot.unset).toArray = ls at hl ⊢
  refine va_gets hx hb hO.2.2.2.2.2.1 hS hown (hts _ (ing 605 rfl rfl)) (fun _ h => h) dJ0_coder_7d493_0 ?_
  refine lv_if_eq hx hb dJ0_coder_7d493_3 (tgt := 13) rfl (fun h => absurd h (by decide)) (fun _ => ?_)
  refine lv_aload_n hx hb dJ0_coder_7d493_6 rfl (lv_at hl 0 rfl) ?_
  refine vk_getf hx hb (hO.2.1.1 i hi).2.1 hS hown (hts _ (ing 1680 rfl rfl)) (fun _ h => h) dJ0_coder_7d493_7 ?_
  refine lv_goto hx hb dJ0_coder_7d493_10 (tgt := 14) rfl ?_
  exact W.zret hx hb B.returns rfl (fun t ht _ => ⟨rfl, by rw [ht]; exact hW, hS.F ht⟩) hS.2.2 dJ0_coder_7d493_14 B.notSynchronized
set_option maxRecDepth 100000 in
theorem mj_latin {i : Nat} (hi : i < 14) : Mj l base z mi0 adK adV D cid eP eI σ yJ0_isLatin1_aae02 cJ0_isLatin1_aae02 1 (some .boolean) 1 10 [.ref (adK i)] (some (.int 1)) := by
  refine Met.ofW (cc := cJ0_isLatin1_aae02) (maxL := 1) (ret := some .boolean) (by decide) rfl ?_
  intro p e s m args below meth c s₁ B hml hv
  obtain ⟨rfl, hW, hK, hO⟩ := hv
  have hts0 := atoms_spec (ws := Cond.code yJ0_isLatin1_aae02 cJ0_isLatin1_aae02 1 (some .boolean) :: gw) B.pre
  have hts : ∀ w ∈ gw, w.before _ s = true := fun w h => hts0 w (List.mem_cons_of_mem _ h)
  have hown : s.vm.findClass "java/lang/String" = some m.cls := findClass_of_methodNamed B.named
  have hx := B.exec
  have hb := B.bytes
  have hba : base ≤ s.heap.size := by rw [hW.2.2.1]; exact hW.2.2.2.1
  have hS : va_S (fun q => base ≤ q) s.heap s.heap [] := va_S.rf
  rw [lg_entry_eq]
  have hl := lv_entry ([Value.ref (adK i)] : List Value) (n := 1) (Nat.le_of_ble_eq_true rfl)
  generalize (lg_sl ([Value.ref (adK i)] : List Value) ++ List.replicate (1 - (lg_sl ([Value.ref (adK i)] : List Value)).length) Slot.unset).toArray = ls at hl ⊢
  refine va_gets hx hb hO.2.2.2.2.2.1 hS hown (hts _ (ing 605 rfl rfl)) (fun _ h => h) dJ0_isLatin1_aae02_0 ?_
  refine lv_if_eq hx hb dJ0_isLatin1_aae02_3 (tgt := 17) rfl (fun h => absurd h (by decide)) (fun _ => ?_)
  refine lv_aload_n hx hb dJ0_isLatin1_aae02_6 rfl (lv_at hl 0 rfl) ?_
  refine vk_getf hx hb (hO.2.1.1 i hi).2.1 hS hown (hts _ (ing 1680 rfl rfl)) (fun _ h => h) dJ0_isLatin1_aae02_7 ?_
  refine lv_if_ne hx hb dJ0_isLatin1_aae02_10 (tgt := 17) rfl (fun h => absurd rfl h) (fun _ => ?_)
  refine lv_iconst hx hb dJ0_isLatin1_aae02_13 (v := 1) rfl ?_
  refine lv_goto hx hb dJ0_isLatin1_aae02_14 (tgt := 18) rfl ?_
  exact W.zret hx hb B.returns rfl (fun t ht _ => ⟨rfl, by rw [ht]; exact hW, hS.F ht⟩) hS.2.2 dJ0_isLatin1_aae02_18 B.notSynchronized
set_option maxRecDepth 100000 in
theorem mj_length {i : Nat} (hi : i < 14) : Mj l base z mi0 adK adV D cid eP eI σ yJ0_length_8abf5 cJ0_length_8abf5 1 (some .int) 2 40 [.ref (adK i)] (some (.int (nI (lnk.getD i 0)))) := by
  refine Met.ofW (cc := cJ0_length_8abf5) (maxL := 1) (ret := some .int) (by decide) rfl ?_
  intro p e s m args below meth c s₁ B hml hv
  obtain ⟨rfl, hW, hK, hO⟩ := hv
  have hts0 := atoms_spec (ws := Cond.code yJ0_length_8abf5 cJ0_length_8abf5 1 (some .int) :: gw) B.pre
  have hts : ∀ w ∈ gw, w.before _ s = true := fun w h => hts0 w (List.mem_cons_of_mem _ h)
  have hown : s.vm.findClass "java/lang/String" = some m.cls := findClass_of_methodNamed B.named
  have hx := B.exec
  have hb := B.bytes
  have hba : base ≤ s.heap.size := by rw [hW.2.2.1]; exact hW.2.2.2.1
  have hS : va_S (fun q => base ≤ q) s.heap s.heap [] := va_S.rf
  rw [lg_entry_eq]
  have hl := lv_entry ([Value.ref (adK i)] : List Value) (n := 1) (Nat.le_of_ble_eq_true rfl)
  generalize (lg_sl ([Value.ref (adK i)] : List Value) ++ List.replicate (1 - (lg_sl ([Value.ref (adK i)] : List Value)).length) Slot.unset).toArray = ls at hl ⊢
  refine lv_aload_n hx hb dJ0_length_8abf5_0 rfl (lv_at hl 0 rfl) ?_
  refine vk_getf hx hb (hO.2.1.1 i hi).2.2.1 hS hown (hts _ (ing 1679 rfl rfl)) (fun _ h => h) dJ0_length_8abf5_1 ?_
  refine va_tlen hx hb (hO.2.1.1 i hi).2.2.2 hS (v := nI (lnk.getD i 0)) rfl dJ0_length_8abf5_4 ?_
  refine lv_aload_n hx hb dJ0_length_8abf5_5 rfl (lv_at hl 0 rfl) ?_
  refine callG (va_runV (As := []) (b := adK i) ⟨hx, hb, hml, hown, hts⟩ (mj_coder hi) ⟨callB_of 0 hts (gw_c (ing 604 rfl rfl)) rfl rfl rfl (hts _ (ing 20 rfl rfl)) (hts _ (ing 601 rfl rfl)) ⟨by decide, by decide, by decide⟩ ⟨by decide, by decide⟩, hts _ (ing 602 rfl rfl), hts _ (ing 603 rfl rfl)⟩ ⟨Wst.blind Og.ok, vk_recv hO.2.1 hi hS, (fun U hU hw => Wst.pre Og.ok hW hK hO hba hS U hU hw)⟩ rfl rfl hl.1 rfl (by show 2 * 0 + (1 + 0) ≤ 8; decide) dJ0_length_8abf5_6 ⟨by decide, by decide⟩) hS (fun H1 locs1 hW1 hS1 => ?_)
  refine lv_ishr hx hb dJ0_length_8abf5_9 ?_
  have e9 : nI (lnk.getD i 0) >>> ((0 : Int32) &&& 31) = nI (lnk.getD i 0) := (show ∀ i, i < 14 → nI (lnk.getD i 0) >>> ((0 : Int32) &&& 31) = nI (lnk.getD i 0) by decide) i hi
  rw [e9]
  exact W.zret hx hb B.returns rfl (fun t ht _ => ⟨rfl, by rw [ht]; exact hW1, hS1.F ht⟩) hS1.2.2 dJ0_length_8abf5_10 B.notSynchronized
set_option maxRecDepth 100000 in
theorem mj_ck (w : Option Nat) {x n : Int32} (h0 : ¬ x < 0) (hn : x < n) : Mj l base z mi0 adK adV D cid eP eI σ yJ3_checkIndex_8e157 cJ3_checkIndex_8e157 3 (some .int) 1 10 [.int x, .int n, va_rf w] (some (.int x)) := by
  refine Met.ofW (cc := cJ3_checkIndex_8e157) (maxL := 3) (ret := some .int) (by decide) rfl ?_
  intro p e s m args below meth c s₁ B hml hv
  obtain ⟨rfl, hW, hK, hO⟩ := hv
  have hts0 := atoms_spec (ws := Cond.code yJ3_checkIndex_8e157 cJ3_checkIndex_8e157 3 (some .int) :: gw) B.pre
  have hts : ∀ w ∈ gw, w.before _ s = true := fun w h => hts0 w (List.mem_cons_of_mem _ h)
  have hown : s.vm.findClass "jdk/internal/util/Preconditions" = some m.cls := findClass_of_methodNamed B.named
  have hx := B.exec
  have hb := B.bytes
  have hba : base ≤ s.heap.size := by rw [hW.2.2.1]; exact hW.2.2.2.1
  have hS : va_S (fun q => base ≤ q) s.heap s.heap [] := va_S.rf
  rw [lg_entry_eq]
  have hl := lv_entry ([Value.int x, .int n, va_rf w] : List Value) (n := 3) (by cases w <;> exact Nat.le_of_ble_eq_true rfl)
  generalize (lg_sl ([Value.int x, .int n, va_rf w] : List Value) ++ List.replicate (3 - (lg_sl ([Value.int x, .int n, va_rf w] : List Value)).length) Slot.unset).toArray = ls at hl ⊢
  have q0 : ls[0]? = some (.val (.int x)) := by cases w <;> exact lv_at hl 0 rfl
  have q1 : ls[1]? = some (.val (.int n)) := by cases w <;> exact lv_at hl 1 rfl
  refine lv_iload_n hx hb dJ3_checkIndex_8e157_0 rfl q0 ?_
  refine lv_if_lt hx hb dJ3_checkIndex_8e157_1 (tgt := 9) rfl (fun h => absurd h h0) (fun _ => ?_)
  refine lv_iload_n hx hb dJ3_checkIndex_8e157_4 rfl q0 ?_
  refine lv_iload_n hx hb dJ3_checkIndex_8e157_5 rfl q1 ?_
  refine lv_icmp_lt hx hb dJ3_checkIndex_8e157_6 (tgt := 16) rfl (fun _ => ?_) (fun h => absurd hn h)
  refine lv_iload_n hx hb dJ3_checkIndex_8e157_16 rfl q0 ?_
  exact W.zret hx hb B.returns rfl (fun t ht _ => ⟨rfl, by rw [ht]; exact hW, hS.F ht⟩) hS.2.2 dJ3_checkIndex_8e157_17 B.notSynchronized
set_option maxRecDepth 100000 in
theorem mj_ci {x n : Int32} (h0 : ¬ x < 0) (hn : x < n) : Mj l base z mi0 adK adV D cid eP eI σ yJ0_checkIndex_df160 cJ0_checkIndex_df160 2 none 2 40 [.int x, .int n] none := by
  refine Met.ofW (cc := cJ0_checkIndex_df160) (maxL := 2) (ret := none) (by decide) rfl ?_
  intro p e s m args below meth c s₁ B hml hv
  obtain ⟨rfl, hW, hK, hO⟩ := hv
  have hts0 := atoms_spec (ws := Cond.code yJ0_checkIndex_df160 cJ0_checkIndex_df160 2 (none) :: gw) B.pre
  have hts : ∀ w ∈ gw, w.before _ s = true := fun w h => hts0 w (List.mem_cons_of_mem _ h)
  have hown : s.vm.findClass "java/lang/String" = some m.cls := findClass_of_methodNamed B.named
  have hx := B.exec
  have hb := B.bytes
  have hba : base ≤ s.heap.size := by rw [hW.2.2.1]; exact hW.2.2.2.1
  have hS : va_S (fun q => base ≤ q) s.heap s.heap [] := va_S.rf
  rw [lg_entry_eq]
  have hl := lv_entry ([Value.int x, .int n] : List Value) (n := 2) (Nat.le_of_ble_eq_true rfl)
  generalize (lg_sl ([Value.int x, .int n] : List Value) ++ List.replicate (2 - (lg_sl ([Value.int x, .int n] : List Value)).length) Slot.unset).toArray = ls at hl ⊢
  refine lv_iload_n hx hb dJ0_checkIndex_df160_0 rfl (lv_at hl 0 rfl) ?_
  refine lv_iload_n hx hb dJ0_checkIndex_df160_1 rfl (lv_at hl 1 rfl) ?_
  have hz : ∃ w : Option Nat, va_Z "jdk/internal/util/Preconditions" "SIOOBE_FORMATTER" "Ljava/util/function/BiFunction;" (va_rf w) (fun q => base ≤ q) s s.heap := hO.2.2.2.2.2.2.1.elim (fun h => ⟨none, h⟩) (fun ⟨t, h⟩ => ⟨some t, h⟩)
  obtain ⟨w, hz⟩ := hz
  refine va_gets hx hb hz hS hown (hts _ (ing 621 rfl rfl)) (fun _ h => h) dJ0_checkIndex_df160_2 ?_
  refine callG (va_runS (As := [.int x, .int n, va_rf w]) ⟨hx, hb, hml, hown, hts⟩ (mj_ck w h0 hn) ⟨callB_of 3 hts (gw_c (ing 352 rfl rfl)) rfl rfl rfl (hts _ (ing 16 rfl rfl)) (hts _ (ing 623 rfl rfl)) ⟨by decide, by decide, by decide⟩ ⟨by decide, by decide⟩, hts _ (ing 351 rfl rfl)⟩ ⟨Wst.blind Og.ok, (fun U hU hw => Wst.pre Og.ok hW hK hO hba hS U hU hw)⟩ rfl rfl hl.1 rfl (by show 2 * 0 + 0 ≤ 8; decide) dJ0_checkIndex_df160_5 ⟨by decide, by decide⟩) hS (fun H1 locs1 hW1 hS1 => ?_)
  refine lv_pop hx hb dJ0_checkIndex_df160_8 rfl ?_
  exact W.vret hx hb B.returns (fun t ht _ => ⟨rfl, by rw [ht]; exact hW1, hS1.F ht⟩) hS1.2.2 dJ0_checkIndex_df160_9 B.notSynchronized
theorem byk_ok : ∀ i, i < 14 → ∀ j, j < lnk.getD i 0 → ((((byk.getD i []).getD j 0 &&& 255).toUInt32 % 65536).toInt32 = (byk.getD i []).getD j 0 ∧ narrow .char (.int ((byk.getD i []).getD j 0)) = .int ((byk.getD i []).getD j 0)) := by decide +kernel
theorem in_of {x : Int32} {n : Nat} (h0 : ¬ x < 0) (hn : x < nI n) (h31 : n < 2 ^ 31) : x.toNatClampNeg < n ∧ vp_in x n := by
  obtain ⟨k, hk, rfl⟩ := nI_of h0
  have hlt : k < n := by
    rcases Nat.lt_or_ge k n with q | q
    · exact q
    · exact absurd hn (nI_nlt (a := k) (b := n) (by omega) (by omega))
  rw [nI_clamp hk]
  exact ⟨hlt, vp_in_nI hlt h31⟩
set_option maxRecDepth 100000 in
theorem mj_ch1 {i : Nat} (hi : i < 14) {x : Int32} (h0 : ¬ x < 0) (hn : x < nI (lnk.getD i 0)) : Mj l base z mi0 adK adV D cid eP eI σ yJ1_charAt_3b067 cJ1_charAt_3b067 2 (some .char) 3 70 [.ref (adV i), .int x] (some (.int ((byk.getD i []).getD x.toNatClampNeg 0))) := by
  refine Met.ofW (cc := cJ1_charAt_3b067) (maxL := 2) (ret := some .char) (by decide) rfl ?_
  intro p e s m args below meth c s₁ B hml hv
  obtain ⟨rfl, hW, hK, hO⟩ := hv
  have hts0 := atoms_spec (ws := Cond.code yJ1_charAt_3b067 cJ1_charAt_3b067 2 (some .char) :: gw) B.pre
  have hts : ∀ w ∈ gw, w.before _ s = true := fun w h => hts0 w (List.mem_cons_of_mem _ h)
  have hown : s.vm.findClass "java/lang/StringLatin1" = some m.cls := findClass_of_methodNamed B.named
  have hx := B.exec
  have hb := B.bytes
  have hba : base ≤ s.heap.size := by rw [hW.2.2.1]; exact hW.2.2.2.1
  have hS : va_S (fun q => base ≤ q) s.heap s.heap [] := va_S.rf
  rw [lg_entry_eq]
  have hl := lv_entry ([Value.ref (adV i), .int x] : List Value) (n := 2) (Nat.le_of_ble_eq_true rfl)
  generalize (lg_sl ([Value.ref (adV i), .int x] : List Value) ++ List.replicate (2 - (lg_sl ([Value.ref (adV i), .int x] : List Value)).length) Slot.unset).toArray = ls at hl ⊢
  have h31 : lnk.getD i 0 < 2 ^ 31 := (show ∀ i, i < 14 → lnk.getD i 0 < 2 ^ 31 by decide) i hi
  obtain ⟨hj, hin⟩ := in_of h0 hn h31
  obtain ⟨b1, b2⟩ := byk_ok i hi _ hj
  refine lv_iload_n hx hb dJ1_charAt_3b067_0 rfl (lv_at hl 1 rfl) ?_
  refine lv_aload_n hx hb dJ1_charAt_3b067_1 rfl (lv_at hl 0 rfl) ?_
  refine va_tlen hx hb (hO.2.1.1 i hi).2.2.2 hS (v := nI (lnk.getD i 0)) rfl dJ1_charAt_3b067_2 ?_
  refine callG (va_runS (As := [.int x, .int (nI (lnk.getD i 0))]) ⟨hx, hb, hml, hown, hts⟩ (mj_ci h0 hn) ⟨callB_of 2 hts (gw_c (ing 620 rfl rfl)) rfl rfl rfl (hts _ (ing 20 rfl rfl)) (hts _ (ing 618 rfl rfl)) ⟨by decide, by decide, by decide⟩ ⟨by decide, by decide⟩, hts _ (ing 619 rfl rfl)⟩ ⟨Wst.blind Og.ok, (fun U hU hw => Wst.pre Og.ok hW hK hO hba hS U hU hw)⟩ rfl rfl hl.1 rfl (by show 2 * 0 + 0 ≤ 8; decide) dJ1_charAt_3b067_3 ⟨by decide, by decide⟩) hS (fun H1 locs1 hW1 hS1 => ?_)
  refine lv_aload_n hx hb dJ1_charAt_3b067_6 rfl (lv_at hl 0 rfl) ?_
  refine lv_iload_n hx hb dJ1_charAt_3b067_7 rfl (lv_at hl 1 rfl) ?_
  refine va_tb hx hb (hO.2.1.1 i hi).2.2.2 hS1 hin (v := .int ((byk.getD i []).getD x.toNatClampNeg 0)) rfl dJ1_charAt_3b067_8 ?_
  refine lv_sipush hx hb dJ1_charAt_3b067_9 (v := 255) (by decide) ?_
  refine lv_iand hx hb dJ1_charAt_3b067_12 ?_
  refine lv_i2c hx hb dJ1_charAt_3b067_13 b1 ?_
  exact W.zret hx hb B.returns b2 (fun t ht _ => ⟨rfl, by rw [ht]; exact hW1, hS1.F ht⟩) hS1.2.2 dJ1_charAt_3b067_14 B.notSynchronized
set_option maxRecDepth 100000 in
theorem mj_char {i : Nat} (hi : i < 14) {x : Int32} (h0 : ¬ x < 0) (hn : x < nI (lnk.getD i 0)) : Mj l base z mi0 adK adV D cid eP eI σ yJ0_charAt_5068e cJ0_charAt_5068e 2 (some .char) 4 100 [.ref (adK i), .int x] (some (.int ((byk.getD i []).getD x.toNatClampNeg 0))) := by
  refine Met.ofW (cc := cJ0_charAt_5068e) (maxL := 2) (ret := some .char) (by decide) rfl ?_
  intro p e s m args below meth c s₁ B hml hv
  obtain ⟨rfl, hW, hK, hO⟩ := hv
  have hts0 := atoms_spec (ws := Cond.code yJ0_charAt_5068e cJ0_charAt_5068e 2 (some .char) :: gw) B.pre
  have hts : ∀ w ∈ gw, w.before _ s = true := fun w h => hts0 w (List.mem_cons_of_mem _ h)
  have hown : s.vm.findClass "java/lang/String" = some m.cls := findClass_of_methodNamed B.named
  have hx := B.exec
  have hb := B.bytes
  have hba : base ≤ s.heap.size := by rw [hW.2.2.1]; exact hW.2.2.2.1
  have hS : va_S (fun q => base ≤ q) s.heap s.heap [] := va_S.rf
  rw [lg_entry_eq]
  have hl := lv_entry ([Value.ref (adK i), .int x] : List Value) (n := 2) (Nat.le_of_ble_eq_true rfl)
  generalize (lg_sl ([Value.ref (adK i), .int x] : List Value) ++ List.replicate (2 - (lg_sl ([Value.ref (adK i), .int x] : List Value)).length) Slot.unset).toArray = ls at hl ⊢
  have h31 : lnk.getD i 0 < 2 ^ 31 := (show ∀ i, i < 14 → lnk.getD i 0 < 2 ^ 31 by decide) i hi
  obtain ⟨b1, b2⟩ := byk_ok i hi _ (in_of h0 hn h31).1
  refine lv_aload_n hx hb dJ0_charAt_5068e_0 rfl (lv_at hl 0 rfl) ?_
  refine callG (va_runV (As := []) (b := adK i) ⟨hx, hb, hml, hown, hts⟩ (mj_latin hi) ⟨callB_of 0 hts (gw_c (ing 614 rfl rfl)) rfl rfl rfl (hts _ (ing 20 rfl rfl)) (hts _ (ing 611 rfl rfl)) ⟨by decide, by decide, by decide⟩ ⟨by decide, by decide⟩, hts _ (ing 612 rfl rfl), hts _ (ing 613 rfl rfl)⟩ ⟨Wst.blind Og.ok, vk_recv hO.2.1 hi hS, (fun U hU hw => Wst.pre Og.ok hW hK hO hba hS U hU hw)⟩ rfl rfl hl.1 rfl (by show 2 * 0 + 0 ≤ 8; decide) dJ0_charAt_5068e_1 ⟨by decide, by decide⟩) hS (fun H1 locs1 hW1 hS1 => ?_)
  refine lv_if_eq hx hb dJ0_charAt_5068e_4 (tgt := 16) rfl (fun h => absurd h (by decide)) (fun _ => ?_)
  refine lv_aload_n hx hb dJ0_charAt_5068e_7 rfl (lv_at hl 0 rfl) ?_
  refine vk_getf hx hb (hO.2.1.1 i hi).2.2.1 hS1 hown (hts _ (ing 1679 rfl rfl)) (fun _ h => h) dJ0_charAt_5068e_8 ?_
  refine lv_iload_n hx hb dJ0_charAt_5068e_11 rfl (lv_at hl 1 rfl) ?_
  refine callG (va_runS (As := [.ref (adV i), .int x]) ⟨hx, hb, hml, hown, hts⟩ (mj_ch1 hi h0 hn) ⟨callB_of 2 hts (gw_c (ing 617 rfl rfl)) rfl rfl rfl (hts _ (ing 21 rfl rfl)) (hts _ (ing 615 rfl rfl)) ⟨by decide, by decide, by decide⟩ ⟨by decide, by decide⟩, hts _ (ing 616 rfl rfl)⟩ ⟨Wst.blind Og.ok, (fun U hU hw => Wst.pre Og.ok hW1 hK hO hba hS1 U hU hw)⟩ rfl rfl hl.1 rfl (by show 2 * 0 + 0 ≤ 8; decide) dJ0_charAt_5068e_12 ⟨by decide, by decide⟩) hS1 (fun H2 locs2 hW2 hS2 => ?_)
  exact W.zret hx hb B.returns b2 (fun t ht _ => ⟨rfl, by rw [ht]; exact hW2, hS2.F ht⟩) hS2.2.2 dJ0_charAt_5068e_15 B.notSynchronized
end J90
