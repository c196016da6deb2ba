/-! ===== ArrayList.grow: contracts (printed by wip/gen/grw.py) ===== -/
section J96
variable {l : Launch} {base z mi0 : Nat} {adK adV : Nat → Nat} {D : va_G} {cid : Nat → ClassId} {eP : Nat → Option Nat} {eI : Nat → Nat → Int32} {σ : Mm}
/-- a contract of a member that makes mc cells of ms slots -/
abbrev Mg (l : Launch) (base z mi0 : Nat) (adK adV : Nat → Nat) (D : va_G) (cid : Nat → ClassId) (eP : Nat → Option Nat) (eI : Nat → Nat → Int32) (σ : Mm) (y : MethodName) (cc : ByteArray) (n : Nat) (ret : Option FieldType) (f nl mc ms : Nat) (as : List Value) (v : Option Value) (σ' : Mm) : Prop :=
  Met l y (Cond.code y cc n ret :: gw) { frames := f, cells := mc, slots := ms, locals := nl } (va_Pc as (Wst D cid base eP eI (Og base z mi0 adK adV) σ)) (Qg D cid base eP eI v σ') mc ms (fun q => base ≤ q)
abbrev Tob : FieldType := .array (.object "java/lang/Object")
set_option maxRecDepth 100000 in
theorem mj_nl {n : Nat} (h2 : 2 ≤ n) (hn : n ≤ 1000) : Mj l base z mi0 adK adV D cid eP eI σ yJ8_newLength_cabcc cJ8_newLength_cabcc 4 (some .int) 2 60 [.int (nI n), .int 1, .int (nI (n / 2))] (some (.int (nI (n + n / 2)))) := by
  refine Met.ofW (cc := cJ8_newLength_cabcc) (maxL := 4) (ret := some .int) (by decide) rfl ?_
  intro p e s m args below meth c s₁ B hml hv
  obtain ⟨rfl, hW, hK, hO⟩ := hv
  have hts0 := atoms_spec (ws := Cond.code yJ8_newLength_cabcc cJ8_newLength_cabcc 4 (some .int) :: gw) B.pre
  have hts : ∀ w ∈ gw, w.before _ s = true := fun w h => hts0 w (List.mem_cons_of_mem _ h)
  have hown : s.vm.findClass "jdk/internal/util/ArraysSupport" = some m.cls := findClass_of_methodNamed B.named
  have hx := B.exec
  have hb := B.bytes
  have hba : base ≤ s.heap.size := by rw [hW.2.2.1]; exact hW.2.2.2.1
  have hS : va_S (fun q => base ≤ q) s.heap s.heap [] := va_S.rf
  rw [lg_entry_eq]
  have hl := lv_entry ([Value.int (nI n), .int 1, .int (nI (n / 2))] : List Value) (n := 4) (Nat.le_of_ble_eq_true rfl)
  generalize (lg_sl ([Value.int (nI n), .int 1, .int (nI (n / 2))] : List Value) ++ List.replicate (4 - (lg_sl ([Value.int (nI n), .int 1, .int (nI (n / 2))] : List Value)).length) Slot.unset).toArray = ls at hl ⊢
  have e1 : nI n + (if (1 : Int32) < nI (n / 2) then nI (n / 2) else 1) = nI (n + n / 2) := by
    by_cases h : n / 2 = 1
    · rw [h, if_neg (show ¬ (1 : Int32) < nI 1 by decide)]; exact (nI_succ n).symm
    · rw [if_pos (show (1 : Int32) < nI (n / 2) from nI_lt (a := 1) (by omega) (by omega)), nI_add]
  refine lv_iload_n hx hb dJ8_newLength_cabcc_0 rfl (lv_at hl 0 rfl) ?_
  refine lv_iload_n hx hb dJ8_newLength_cabcc_1 rfl (lv_at hl 1 rfl) ?_
  refine lv_iload_n hx hb dJ8_newLength_cabcc_2 rfl (lv_at hl 2 rfl) ?_
  refine va_mmax hx hb (by rw [hml, hl.1]) hown (hts _ (ing 288 rfl rfl)) (hts _ w_maxs) (hts _ (ing 12 rfl rfl)) (hts _ w_max) (by decide) (by show 1 + 0 + 13 ≤ 60; decide) (by decide) (by decide) dJ8_newLength_cabcc_3 ?_
  refine lv_iadd hx hb dJ8_newLength_cabcc_6 ?_
  rw [e1]
  refine lv_istore_n hx hb dJ8_newLength_cabcc_7 rfl hl (by decide) rfl (fun ls' hl' => ?_)
  refine lv_iconst hx hb dJ8_newLength_cabcc_8 (v := 0) rfl ?_
  refine lv_iload_n hx hb dJ8_newLength_cabcc_9 rfl (lv_at hl' 0 rfl) ?_
  refine lv_icmp_ge hx hb dJ8_newLength_cabcc_10 (tgt := 21) rfl (fun h => absurd h (nI_ge (a := 0) (b := n + n / 2) (by omega) (by omega))) (fun _ => ?_)
  refine lv_iload_n hx hb dJ8_newLength_cabcc_13 rfl (lv_at hl' 0 rfl) ?_
  refine lv_ldc hx hb hown (hts _ (ing 291 rfl rfl)) dJ8_newLength_cabcc_14 ?_
  refine lv_icmp_gt hx hb dJ8_newLength_cabcc_16 (tgt := 21) rfl (fun h => absurd h (nI_nlt (a := 2147483639) (b := n + n / 2) (by omega) (by omega))) (fun _ => ?_)
  refine lv_iload_n hx hb dJ8_newLength_cabcc_19 rfl (lv_at hl' 0 rfl) ?_
  exact W.zret hx hb B.returns rfl (fun t ht _ => ⟨rfl, by rw [ht]; exact hW, hS.F ht⟩) hS.2.2 dJ8_newLength_cabcc_20 B.notSynchronized
set_option maxRecDepth 100000 in
theorem mg_cp3 {e0 n L : Nat} (k1 : mK σ e0 = kO) (hn : mN σ e0 = n) (hL : n ≤ L) (hL2 : L ≤ 2000) (hel : ∀ j, j < n → ∀ y, mP σ kO e0 j = some y → 0 < mK σ y ∧ mK σ y < 19) : Mg l base z mi0 adK adV D cid eP eI σ yJ7_copyOf_6403c cJ7_copyOf_6403c 4 (some Tob) 2 100 1 L [.ref e0, .int (nI L), .ref mi0] (some (.ref (mX σ))) (cpO (nw σ kO L L) e0 (mX σ) n) := by
  refine Met.ofW (cc := cJ7_copyOf_6403c) (maxL := 4) (ret := some Tob) (by decide) rfl ?_
  intro p e s m args below meth c s₁ B hml hv
  obtain ⟨rfl, hW, hK, hO⟩ := hv
  have hts0 := atoms_spec (ws := Cond.code yJ7_copyOf_6403c cJ7_copyOf_6403c 4 (some Tob) :: gw) B.pre
  have hts : ∀ w ∈ gw, w.before _ s = true := fun w h => hts0 w (List.mem_cons_of_mem _ h)
  have hown : s.vm.findClass "java/util/Arrays" = some m.cls := findClass_of_methodNamed B.named
  have hx := B.exec
  have hb := B.bytes
  have hba : base ≤ s.heap.size := by rw [hW.2.2.1]; exact hW.2.2.2.1
  have hS : va_S (fun q => base ≤ q) s.heap s.heap [] := va_S.rf
  rw [lg_entry_eq]
  have hl := lv_entry ([Value.ref e0, .int (nI L), .ref mi0] : List Value) (n := 4) (Nat.le_of_ble_eq_true rfl)
  generalize (lg_sl ([Value.ref e0, .int (nI L), .ref mi0] : List Value) ++ List.replicate (4 - (lg_sl ([Value.ref e0, .int (nI L), .ref mi0] : List Value)).length) Slot.unset).toArray = ls at hl ⊢
  have hne : ¬ e0 = mX σ := Nat.ne_of_lt (hW.lt (by rw [k1]; decide))
  have cL : (nI L).toNatClampNeg = L := nI_clamp (by omega)
  refine lv_aload_n hx hb dJ7_copyOf_6403c_0 rfl (lv_at hl 2 rfl) ?_
  refine va_ldcM hx hb hown (hts _ (ing 319 rfl rfl)) hO.2.2.2.2.2.2.2.1 dJ7_copyOf_6403c_1 ?_
  refine lv_acmp_ne (rx := some mi0) (ry := some mi0) hx hb dJ7_copyOf_6403c_3 (tgt := 13) rfl (fun h => absurd rfl h) (fun _ => ?_)
  refine lv_iload_n hx hb dJ7_copyOf_6403c_6 rfl (lv_at hl 1 rfl) ?_
  refine j_anew hx hb hown (hts _ (ing 321 rfl rfl)) hO.2.2.2.2.2.2.2.2.2 hK hW hS (nI_pos (by omega)) cL hL2 (by show 0 + 1 ≤ 1; decide) (by show 0 + L ≤ L; omega) dJ7_copyOf_6403c_7 (fun H1 hW1 hS1 => ?_)
  have hX1 : Hx s (mS σ) (0 + 1) (0 + L) (nw σ kO L L) := Hx.new ⟨hW.2.2.1, rfl, fun a h1 h2 => absurd h2 (by rw [hW.2.2.1] at h1; omega)⟩
  refine lv_goto hx hb dJ7_copyOf_6403c_10 (tgt := 24) rfl ?_
  refine lv_astore_n hx hb dJ7_copyOf_6403c_24 rfl hl (by decide) rfl (fun ls' hl' => ?_)
  refine lv_aload_n hx hb dJ7_copyOf_6403c_25 rfl (lv_at hl' 1 rfl) ?_
  refine lv_iconst hx hb dJ7_copyOf_6403c_26 (v := 0) rfl ?_
  refine lv_aload_n hx hb dJ7_copyOf_6403c_27 rfl (lv_at hl' 0 rfl) ?_
  refine lv_iconst hx hb dJ7_copyOf_6403c_28 (v := 0) rfl ?_
  refine lv_aload_n hx hb dJ7_copyOf_6403c_29 rfl (lv_at hl' 1 rfl) ?_
  have ke : mK (nw σ kO L L) e0 = kO := by rw [mK_nw, if_neg hne]; exact k1
  have kx : mK (nw σ kO L L) (mX σ) = kO := by rw [mK_nw, if_pos rfl]
  have ne : mN (nw σ kO L L) e0 = n := by rw [mN_nw, if_neg hne]; exact hn
  have nx : mN (nw σ kO L L) (mX σ) = L := by rw [mN_nw, if_pos rfl]
  obtain ⟨-, q0, -, hq⟩ := hW1.arr (a := e0) (by rw [ke]; decide)
  rw [acl_o (by rw [ke]; decide), ke, ne] at hq
  refine va_alen hx hb hK hW1.1 q0 3 hq rfl (v := nI n) rfl dJ7_copyOf_6403c_30 ?_
  refine lv_iload_n hx hb dJ7_copyOf_6403c_31 rfl (lv_at hl' 2 rfl) ?_
  refine va_mmin hx hb (by rw [hml, hl'.1]) hown (hts _ (ing 322 rfl rfl)) (hts _ w_mins) (hts _ (ing 12 rfl rfl)) (hts _ w_min) (by show 1 ≤ 2; decide) (by show 1 + (1 + (1 + (1 + 0))) + 13 ≤ 100; decide) (by show 0 + 1 ≤ 1; decide) (by show 0 + L ≤ L; omega) dJ7_copyOf_6403c_32 ?_
  rw [if_neg (nI_nlt (a := L) (b := n) hL (by omega))]
  refine j_copy hx hb (by rw [hml, hl'.1]) hown hts (ing 325 rfl rfl) hO.1 hK hW1 hS1 hX1 ke kx (by rw [ne]; exact Nat.le_refl _) (by rw [nx]; exact hL) (by omega) (fun j hj y hy => ?_) (by show 1 ≤ 2; decide) (by show 0 + 18 ≤ 100; decide) dJ7_copyOf_6403c_35 (fun H2 locs2 hW2 hS2 => ?_)
  · rw [mP_nw, if_neg (fun z => hne z.2)] at hy
    have := hel j hj y hy
    have hy2 : ¬ y = mX σ := Nat.ne_of_lt (hW.lt (by omega))
    rw [mK_nw, if_neg hy2]
    exact this
  · refine lv_aload_n hx hb dJ7_copyOf_6403c_38 rfl (lv_at hl' 0 rfl) ?_
    have he : 0 + 1 = 1 ∧ 0 + L = L := ⟨rfl, Nat.zero_add L⟩
    rw [he.1, he.2]
    exact W.aret hx hb B.returns (Or.inr ⟨_, rfl⟩) (Or.inr ⟨_, rfl⟩) (fun t ht _ => ⟨rfl, by rw [ht]; exact hW2, hS2.F ht⟩) hS2.2.2 dJ7_copyOf_6403c_39 B.notSynchronized
set_option maxRecDepth 100000 in
theorem mg_cp2 {e0 n L : Nat} (k1 : mK σ e0 = kO) (hn : mN σ e0 = n) (hL : n ≤ L) (hL2 : L ≤ 2000) (hel : ∀ j, j < n → ∀ y, mP σ kO e0 j = some y → 0 < mK σ y ∧ mK σ y < 19) : Mg l base z mi0 adK adV D cid eP eI σ yJ7_copyOf_1904c cJ7_copyOf_1904c 2 (some Tob) 3 130 1 L [.ref e0, .int (nI L)] (some (.ref (mX σ))) (cpO (nw σ kO L L) e0 (mX σ) n) := by
  refine Met.ofW (cc := cJ7_copyOf_1904c) (maxL := 2) (ret := some Tob) (by decide) rfl ?_
  intro p e s m args below meth c s₁ B hml hv
  obtain ⟨rfl, hW, hK, hO⟩ := hv
  have hts0 := atoms_spec (ws := Cond.code yJ7_copyOf_1904c cJ7_copyOf_1904c 2 (some Tob) :: gw) B.pre
  have hts : ∀ w ∈ gw, w.before _ s = true := fun w h => hts0 w (List.mem_cons_of_mem _ h)
  have hown : s.vm.findClass "java/util/Arrays" = some m.cls := findClass_of_methodNamed B.named
  have hx := B.exec
  have hb := B.bytes
  have hba : base ≤ s.heap.size := by rw [hW.2.2.1]; exact hW.2.2.2.1
  have hS : va_S (fun q => base ≤ q) s.heap s.heap [] := va_S.rf
  rw [lg_entry_eq]
  have hl := lv_entry ([Value.ref e0, .int (nI L)] : List Value) (n := 2) (Nat.le_of_ble_eq_true rfl)
  generalize (lg_sl ([Value.ref e0, .int (nI L)] : List Value) ++ List.replicate (2 - (lg_sl ([Value.ref e0, .int (nI L)] : List Value)).length) Slot.unset).toArray = ls at hl ⊢
  refine lv_aload_n hx hb dJ7_copyOf_1904c_0 rfl (lv_at hl 0 rfl) ?_
  refine lv_iload_n hx hb dJ7_copyOf_1904c_1 rfl (lv_at hl 1 rfl) ?_
  refine lv_aload_n hx hb dJ7_copyOf_1904c_2 rfl (lv_at hl 0 rfl) ?_
  obtain ⟨-, q0, -, hq⟩ := hW.arr (a := e0) (by rw [k1]; decide)
  rw [acl_o (by rw [k1]; decide), k1] at hq
  have hcell : s.heap[e0]? = some (vp_cell (cid (kO % 5)) _) := hW.1 q0 _ hq
  have hr : ∃ cell : Cell, s.heap[e0]? = some cell ∧ cell.vm.isStatics = false ∧ s.vm.findClass "[Ljava/lang/Object;" = some cell.cls := by
    refine ⟨_, hcell, ?_, ?_⟩
    · rw [vp_cell_q]; rfl
    · rw [vp_cell_q]
      obtain ⟨-, -, -, -, -, h4⟩ := (hK.2 3 _ rfl).2
      exact h4
  refine va_getC hx hb (by rw [hml, hl.1]) hown (hts _ (ing 298 rfl rfl)) (va_Dc.use hO.2.2.2.2.2.2.2.2.1) (hts _ (ing 1672 rfl rfl)) (hts _ (ing 299 rfl rfl)) (hts _ (ing 315 rfl rfl)) hO.2.2.2.2.2.2.2.1 hr (by show 1 ≤ 3; decide) (by show 1 + (1 + 0) + 14 ≤ 130; decide) dJ7_copyOf_1904c_3 ?_
  refine callG (va_runS (As := [.ref e0, .int (nI L), .ref mi0]) ⟨hx, hb, hml, hown, hts⟩ (mg_cp3 k1 hn hL hL2 hel) ⟨callB_of 3 hts (gw_c (ing 318 rfl rfl)) rfl rfl rfl (hts _ (ing 13 rfl rfl)) (hts _ (ing 316 rfl rfl)) ⟨by decide, by decide, by decide⟩ ⟨by show 2 + 1 ≤ 3; decide, by show 8 + (4 + 11) + 100 ≤ 130; decide⟩, hts _ (ing 317 rfl rfl)⟩ ⟨Wst.blind Og.ok, (fun U hU hw => Wst.pre Og.ok hW hK hO hba hS U hU hw)⟩ rfl rfl hl.1 rfl (by show 2 * 0 + 0 ≤ 8; decide) dJ7_copyOf_1904c_6 ⟨by show 0 + 1 ≤ 1; decide, by show 0 + L ≤ L; omega⟩) hS (fun H1 locs1 hW1 hS1 => ?_)
  have he : 0 + 1 = 1 ∧ 0 + L = L := ⟨rfl, Nat.zero_add L⟩
  rw [he.1, he.2]
  exact W.aret hx hb B.returns (Or.inr ⟨_, rfl⟩) (Or.inr ⟨_, rfl⟩) (fun t ht _ => ⟨rfl, by rw [ht]; exact hW1, hS1.F ht⟩) hS1.2.2 dJ7_copyOf_1904c_9 B.notSynchronized
set_option maxRecDepth 100000 in
theorem mg_g1 {a : Nat} (hka : mK σ a = 1) (hE : EOk z adK eP eI) (h100 : mP σ 19 0 100 = mP σ 1 a 1) : Mg l base z mi0 adK adV D cid eP eI σ yJx4a65c_grow_92f84 cJx4a65c_grow_92f84 4 (some Tob) 5 200 1 10 [.ref a, .int 1] (some (.ref (mX σ))) (sP (nw σ kO 10 10) 1 a 1 (some (mX σ))) := by
  refine Met.ofW (cc := cJx4a65c_grow_92f84) (maxL := 4) (ret := some Tob) (by decide) rfl ?_
  intro p e s m args below meth c s₁ B hml hv
  obtain ⟨rfl, hW, hK, hO⟩ := hv
  have hts0 := atoms_spec (ws := Cond.code yJx4a65c_grow_92f84 cJx4a65c_grow_92f84 4 (some Tob) :: gw) B.pre
  have hts : ∀ w ∈ gw, w.before _ s = true := fun w h => hts0 w (List.mem_cons_of_mem _ h)
  have hown : s.vm.findClass (own 15) = some m.cls := findClass_of_methodNamed B.named
  have hx := B.exec
  have hb := B.bytes
  have hba : base ≤ s.heap.size := by rw [hW.2.2.1]; exact hW.2.2.2.1
  have hS : va_S (fun q => base ≤ q) s.heap s.heap [] := va_S.rf
  rw [lg_entry_eq]
  have hl := lv_entry ([Value.ref a, .int 1] : List Value) (n := 4) (Nat.le_of_ble_eq_true rfl)
  generalize (lg_sl ([Value.ref a, .int 1] : List Value) ++ List.replicate (4 - (lg_sl ([Value.ref a, .int 1] : List Value)).length) Slot.unset).toArray = ls at hl ⊢
  have e0 : mP σ 19 0 100 = some z := (hW.2.2.2.2.2.1 100).trans hE.2.1
  have ef : fv σ 1 a 1 = .ref z := by
    have hkr : kr 1 1 = true := by decide +kernel
    unfold fv
    rw [if_pos hkr, ← h100, e0]; rfl
  have hne : ¬ a = mX σ := Nat.ne_of_lt (hW.lt (by rw [hka]; decide))
  refine lv_aload_n hx hb dJx4a65c_grow_92f84_0 rfl (lv_at hl 0 rfl) ?_
  refine j_get hx hb hts hown hK hW (ow := 15) (i := 9) (kd := 1) (f := 1) (by decide +kernel) hka dJx4a65c_grow_92f84_1 ?_
  rw [ef]
  refine va_tlen hx hb hO.2.2.2.2.1 hS (v := 0) rfl dJx4a65c_grow_92f84_4 ?_
  refine lv_istore_n hx hb dJx4a65c_grow_92f84_5 rfl hl (by decide) rfl (fun ls1 hl1 => ?_)
  refine lv_iload_n hx hb dJx4a65c_grow_92f84_6 rfl (lv_at hl1 0 rfl) ?_
  refine lv_if_gt hx hb dJx4a65c_grow_92f84_7 (tgt := 20) rfl (fun h => absurd h (by decide)) (fun _ => ?_)
  refine lv_aload_n hx hb dJx4a65c_grow_92f84_10 rfl (lv_at hl1 1 rfl) ?_
  refine j_get hx hb hts hown hK hW (ow := 15) (i := 9) (kd := 1) (f := 1) (by decide +kernel) hka dJx4a65c_grow_92f84_11 ?_
  rw [ef]
  refine va_gets hx hb hO.2.2.2.1 hS hown (hts _ (ing 50 rfl rfl)) (fun _ h => h) dJx4a65c_grow_92f84_14 ?_
  refine lv_acmp_eq (rx := some z) (ry := some z) hx hb dJx4a65c_grow_92f84_17 (tgt := 45) rfl (fun _ => ?_) (fun h => absurd rfl h)
  refine lv_aload_n hx hb dJx4a65c_grow_92f84_45 rfl (lv_at hl1 1 rfl) ?_
  refine lv_bipush hx hb dJx4a65c_grow_92f84_46 (v := 10) (by decide) ?_
  refine lv_iload_n hx hb dJx4a65c_grow_92f84_48 rfl (lv_at hl1 2 rfl) ?_
  refine va_mmax hx hb (by rw [hml, hl1.1]) hown (hts _ (ing 328 rfl rfl)) (hts _ w_maxs) (hts _ (ing 12 rfl rfl)) (hts _ w_max) (by show 1 ≤ 5; decide) (by show 1 + 0 + 13 ≤ 200; decide) (by show 0 ≤ 1; decide) (by show 0 ≤ 10; decide) dJx4a65c_grow_92f84_49 ?_
  rw [if_neg (show ¬ (10 : Int32) < 1 by decide)]
  refine j_anew hx hb hown (hts _ (ing 329 rfl rfl)) hO.2.2.2.2.2.2.2.2.2 hK hW hS (N := 10) (by decide) (by decide) (by decide) (by show 0 + 1 ≤ 1; decide) (by show 0 + 10 ≤ 10; decide) dJx4a65c_grow_92f84_52 (fun H1 hW1 hS1 => ?_)
  have hX1 : Hx s (mS σ) (0 + 1) (0 + 10) (nw σ kO 10 10) := Hx.new ⟨hW.2.2.1, rfl, fun a h1 h2 => absurd h2 (by rw [hW.2.2.1] at h1; omega)⟩
  refine lv_dup_x1 hx hb dJx4a65c_grow_92f84_55 rfl rfl ?_
  refine j_putE hx hb hts hown hK hW1 hS1 hX1 (by rw [mK_nw, if_neg hne]; exact hka) dJx4a65c_grow_92f84_56 (fun H2 locs2 hW2 hS2 => ?_)
  exact W.aret hx hb B.returns (Or.inr ⟨_, rfl⟩) (Or.inr ⟨_, rfl⟩) (fun t ht _ => ⟨rfl, by rw [ht]; exact hW2, hS2.F ht⟩) hS2.2.2 dJx4a65c_grow_92f84_59 B.notSynchronized
set_option maxRecDepth 100000 in
theorem mg_g2 {a e0 n : Nat} (hka : mK σ a = 1) (hp0 : mP σ 1 a 1 = some e0) (k1 : mK σ e0 = kO) (hn : mN σ e0 = n) (h2 : 2 ≤ n) (h3 : n ≤ 1000) (hel : ∀ j, j < n → ∀ y, mP σ kO e0 j = some y → 0 < mK σ y ∧ mK σ y < 19) : Mg l base z mi0 adK adV D cid eP eI σ yJx4a65c_grow_92f84 cJx4a65c_grow_92f84 4 (some Tob) 5 200 1 (n + n / 2) [.ref a, .int (nI (n + 1))] (some (.ref (mX σ))) (sP (cpO (nw σ kO (n + n / 2) (n + n / 2)) e0 (mX σ) n) 1 a 1 (some (mX σ))) := by
  refine Met.ofW (cc := cJx4a65c_grow_92f84) (maxL := 4) (ret := some Tob) (by decide) rfl ?_
  intro p e s m args below meth c s₁ B hml hv
  obtain ⟨rfl, hW, hK, hO⟩ := hv
  have hts0 := atoms_spec (ws := Cond.code yJx4a65c_grow_92f84 cJx4a65c_grow_92f84 4 (some Tob) :: gw) B.pre
  have hts : ∀ w ∈ gw, w.before _ s = true := fun w h => hts0 w (List.mem_cons_of_mem _ h)
  have hown : s.vm.findClass (own 15) = some m.cls := findClass_of_methodNamed B.named
  have hx := B.exec
  have hb := B.bytes
  have hba : base ≤ s.heap.size := by rw [hW.2.2.1]; exact hW.2.2.2.1
  have hS : va_S (fun q => base ≤ q) s.heap s.heap [] := va_S.rf
  rw [lg_entry_eq]
  have hl := lv_entry ([Value.ref a, .int (nI (n + 1))] : List Value) (n := 4) (Nat.le_of_ble_eq_true rfl)
  generalize (lg_sl ([Value.ref a, .int (nI (n + 1))] : List Value) ++ List.replicate (4 - (lg_sl ([Value.ref a, .int (nI (n + 1))] : List Value)).length) Slot.unset).toArray = ls at hl ⊢
  have ef : fv σ 1 a 1 = .ref e0 := by
    have hkr : kr 1 1 = true := by decide +kernel
    unfold fv
    rw [if_pos hkr, hp0]; rfl
  have hne : ¬ a = mX σ := Nat.ne_of_lt (hW.lt (by rw [hka]; decide))
  obtain ⟨-, q0, -, hq⟩ := hW.arr (a := e0) (by rw [k1]; decide)
  rw [acl_o (by rw [k1]; decide), k1, hn] at hq
  refine lv_aload_n hx hb dJx4a65c_grow_92f84_0 rfl (lv_at hl 0 rfl) ?_
  refine j_get hx hb hts hown hK hW (ow := 15) (i := 9) (kd := 1) (f := 1) (by decide +kernel) hka dJx4a65c_grow_92f84_1 ?_
  rw [ef]
  refine va_alen hx hb hK hW.1 q0 3 hq rfl (v := nI n) rfl dJx4a65c_grow_92f84_4 ?_
  refine lv_istore_n hx hb dJx4a65c_grow_92f84_5 rfl hl (by decide) rfl (fun ls1 hl1 => ?_)
  refine lv_iload_n hx hb dJx4a65c_grow_92f84_6 rfl (lv_at hl1 0 rfl) ?_
  refine lv_if_gt hx hb dJx4a65c_grow_92f84_7 (tgt := 20) rfl (fun _ => ?_) (fun h => absurd (nI_lt (a := 0) (b := n) (by omega) (by omega)) h)
  refine lv_iload_n hx hb dJx4a65c_grow_92f84_20 rfl (lv_at hl1 0 rfl) ?_
  refine lv_iload_n hx hb dJx4a65c_grow_92f84_21 rfl (lv_at hl1 2 rfl) ?_
  refine lv_iload_n hx hb dJx4a65c_grow_92f84_22 rfl (lv_at hl1 0 rfl) ?_
  refine lv_isub hx hb dJx4a65c_grow_92f84_23 ?_
  refine lv_iload_n hx hb dJx4a65c_grow_92f84_24 rfl (lv_at hl1 0 rfl) ?_
  refine lv_iconst hx hb dJx4a65c_grow_92f84_25 (v := 1) rfl ?_
  refine lv_ishr hx hb dJx4a65c_grow_92f84_26 ?_
  have e1 : nI (n + 1) - nI n = 1 := by rw [pk_sub (by omega)]; rw [show n + 1 - n = 1 by omega]; rfl
  have e2 : nI n >>> ((1 : Int32) &&& 31) = nI (n / 2) := pk_shrN (by omega) _ 1 (by decide)
  rw [e1, e2]
  refine callG (va_runS (As := [.int (nI n), .int 1, .int (nI (n / 2))]) ⟨hx, hb, hml, hown, hts⟩ (mj_nl h2 h3) ⟨callB_of 3 hts (gw_c (ing 287 rfl rfl)) rfl rfl rfl (hts _ (ing 11 rfl rfl)) (hts _ (ing 285 rfl rfl)) ⟨by decide, by decide, by decide⟩ ⟨by show 2 + 1 ≤ 5; decide, by show 8 + (4 + 11) + 60 ≤ 200; decide⟩, hts _ (ing 286 rfl rfl)⟩ ⟨Wst.blind Og.ok, (fun U hU hw => Wst.pre Og.ok hW hK hO hba hS U hU hw)⟩ rfl rfl hl1.1 rfl (by show 2 * 0 + 0 ≤ 8; decide) dJx4a65c_grow_92f84_27 ⟨by show 0 + 0 ≤ 1; decide, by show 0 + 0 ≤ n + n / 2; omega⟩) hS (fun H1 locs1 hW1 hS1 => ?_)
  refine lv_istore_n hx hb dJx4a65c_grow_92f84_30 rfl hl1 (by decide) rfl (fun ls2 hl2 => ?_)
  refine lv_aload_n hx hb dJx4a65c_grow_92f84_31 rfl (lv_at hl2 2 rfl) ?_
  refine lv_aload_n hx hb dJx4a65c_grow_92f84_32 rfl (lv_at hl2 2 rfl) ?_
  refine j_get hx hb hts hown hK hW1 (ow := 15) (i := 9) (kd := 1) (f := 1) (by decide +kernel) hka dJx4a65c_grow_92f84_33 ?_
  rw [ef]
  refine lv_iload_n hx hb dJx4a65c_grow_92f84_36 rfl (lv_at hl2 0 rfl) ?_
  refine callG (va_runS (As := [.ref e0, .int (nI (n + n / 2))]) ⟨hx, hb, hml, hown, hts⟩ (mg_cp2 k1 hn (L := n + n / 2) (by omega) (by omega) hel) ⟨callB_of 2 hts (gw_c (ing 297 rfl rfl)) rfl rfl rfl (hts _ (ing 13 rfl rfl)) (hts _ (ing 295 rfl rfl)) ⟨by decide, by decide, by decide⟩ ⟨by show 3 + 1 ≤ 5; decide, by show 8 + (2 + 11) + 130 ≤ 200; decide⟩, hts _ (ing 296 rfl rfl)⟩ ⟨Wst.blind Og.ok, (fun U hU hw => Wst.pre Og.ok hW1 hK hO hba hS1 U hU hw)⟩ rfl rfl hl2.1 rfl (by show 2 * 0 + (1 + 0) ≤ 8; decide) dJx4a65c_grow_92f84_37 ⟨by show 0 + 0 + 1 ≤ 1; decide, by show 0 + 0 + (n + n / 2) ≤ n + n / 2; omega⟩) hS1 (fun H2 locs2 hW2 hS2 => ?_)
  have hX2 : Hx s (mS σ) (0 + 0 + 1) (0 + 0 + (n + n / 2)) (cpO (nw σ kO (n + n / 2) (n + n / 2)) e0 (mX σ) n) := by
    have hX1 : Hx s (mS σ) (0 + 1) (0 + (n + n / 2)) (nw σ kO (n + n / 2) (n + n / 2)) := Hx.new ⟨hW.2.2.1, rfl, fun a h1 h2 => absurd h2 (by rw [hW.2.2.1] at h1; omega)⟩
    exact hX1.wrote rfl
  refine lv_dup_x1 hx hb dJx4a65c_grow_92f84_40 rfl rfl ?_
  refine j_putE hx hb hts hown hK hW2 hS2 hX2 (by show mK (nw σ kO (n + n / 2) (n + n / 2)) a = 1; rw [mK_nw, if_neg hne]; exact hka) dJx4a65c_grow_92f84_41 (fun H3 locs3 hW3 hS3 => ?_)
  have he : 0 + 0 + 1 = 1 ∧ 0 + 0 + (n + n / 2) = n + n / 2 := ⟨rfl, by omega⟩
  rw [he.1, he.2]
  exact W.aret hx hb B.returns (Or.inr ⟨_, rfl⟩) (Or.inr ⟨_, rfl⟩) (fun t ht _ => ⟨rfl, by rw [ht]; exact hW3, hS3.F ht⟩) hS3.2.2 dJx4a65c_grow_92f84_44 B.notSynchronized
set_option maxRecDepth 100000 in
/-- grow() out of grow(int) -/
theorem mg_gr {a ms : Nat} {σ2 : Mm} {x : Int32} (hka : mK σ a = 1) (hsz : mI σ 1 a 2 + 1 = x) (hM : Mg l base z mi0 adK adV D cid eP eI σ yJx4a65c_grow_92f84 cJx4a65c_grow_92f84 4 (some Tob) 5 200 1 ms [.ref a, .int x] (some (.ref (mX σ))) σ2) : Mg l base z mi0 adK adV D cid eP eI σ yJx4a65c_grow_d5877 cJx4a65c_grow_d5877 1 (some Tob) 6 250 1 ms [.ref a] (some (.ref (mX σ))) σ2 := by
  refine Met.ofW (cc := cJx4a65c_grow_d5877) (maxL := 1) (ret := some Tob) (by decide) rfl ?_
  intro p e s m args below meth c s₁ B hml hv
  obtain ⟨rfl, hW, hK, hO⟩ := hv
  have hts0 := atoms_spec (ws := Cond.code yJx4a65c_grow_d5877 cJx4a65c_grow_d5877 1 (some Tob) :: gw) B.pre
  have hts : ∀ w ∈ gw, w.before _ s = true := fun w h => hts0 w (List.mem_cons_of_mem _ h)
  have hown : s.vm.findClass (own 15) = some m.cls := findClass_of_methodNamed B.named
  have hx := B.exec
  have hb := B.bytes
  have hba : base ≤ s.heap.size := by rw [hW.2.2.1]; exact hW.2.2.2.1
  have hS : va_S (fun q => base ≤ q) s.heap s.heap [] := va_S.rf
  rw [lg_entry_eq]
  have hl := lv_entry ([Value.ref a] : List Value) (n := 1) (Nat.le_of_ble_eq_true rfl)
  generalize (lg_sl ([Value.ref a] : List Value) ++ List.replicate (1 - (lg_sl ([Value.ref a] : List Value)).length) Slot.unset).toArray = ls at hl ⊢
  have ef : fv σ 1 a 2 = .int (mI σ 1 a 2) := by
    have hkr : ¬ kr 1 2 = true := by decide +kernel
    unfold fv
    rw [if_neg hkr]
  refine lv_aload_n hx hb dJx4a65c_grow_d5877_0 rfl (lv_at hl 0 rfl) ?_
  refine lv_aload_n hx hb dJx4a65c_grow_d5877_1 rfl (lv_at hl 0 rfl) ?_
  refine j_get hx hb hts hown hK hW (ow := 15) (i := 48) (kd := 1) (f := 2) (by decide +kernel) hka dJx4a65c_grow_d5877_2 ?_
  rw [ef]
  refine lv_iconst hx hb dJx4a65c_grow_d5877_5 (v := 1) rfl ?_
  refine lv_iadd hx hb dJx4a65c_grow_d5877_6 ?_
  rw [hsz]
  have hrec := recv_of_kind hK hW hka (by decide) (by decide) (r0 := (RJx4a65c, TJx4a65c, 3)) rfl
  refine callG (va_runV (As := [.int x]) (b := a) ⟨hx, hb, hml, hown, hts⟩ hM ⟨callB_of 1 hts (gw_c (ing 284 rfl rfl)) rfl rfl rfl (hts _ (ing 4 rfl rfl)) (hts _ (ing 281 rfl rfl)) ⟨by decide, by decide, by decide⟩ ⟨by show 5 + 1 ≤ 6; decide, by show 8 + (4 + 11) + 200 ≤ 250; decide⟩, hts _ (ing 283 rfl rfl), hts _ (ings 2 rfl rfl)⟩ ⟨Wst.blind Og.ok, hrec, (fun U hU hw => Wst.pre Og.ok hW hK hO hba hS U hU hw)⟩ rfl rfl hl.1 rfl (by show 2 * 0 + 0 ≤ 8; decide) dJx4a65c_grow_d5877_7 ⟨by show 0 + 1 ≤ 1; decide, by show 0 + ms ≤ ms; omega⟩) hS (fun H1 locs1 hW1 hS1 => ?_)
  have he : 0 + 1 = 1 ∧ 0 + ms = ms := ⟨rfl, Nat.zero_add ms⟩
  rw [he.1, he.2]
  exact W.aret hx hb B.returns (Or.inr ⟨_, rfl⟩) (Or.inr ⟨_, rfl⟩) (fun t ht _ => ⟨rfl, by rw [ht]; exact hW1, hS1.F ht⟩) hS1.2.2 dJx4a65c_grow_d5877_10 B.notSynchronized
end J96
