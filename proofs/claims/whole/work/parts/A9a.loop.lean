/-! ===== THE LAW's LOOP ===== -/
theorem idx_cmp {L j : Nat} (hL : L ≤ 4608) (hj : j ≤ 4700) : (Int32.ofNat L - 9 < nI j) ↔ L < j + 9 := by
  have e1 : (Int32.ofNat L).toInt = (L : Int) := nI_toInt (n := L) (by omega)
  have e2 : (nI j).toInt = (j : Int) := nI_toInt (by omega)
  have e3 : (9 : Int32).toInt = 9 := by decide
  have e4 : (Int32.ofNat L - 9).toInt = (L : Int) - 9 := by
    rw [Int32.toInt_sub, e1, e3]
    exact Int.bmod_eq_of_le (by omega) (by omega)
  rw [Int32.lt_iff_toInt_lt, e4, e2]
  omega
theorem add9 (j : Nat) : nI (9 * j) + Int32.ofInt 9 = nI (9 * (j + 1)) := by
  rw [show Int32.ofInt 9 = nI 9 by decide, nI_add, Nat.mul_add]
section P9
variable {p : Program} {l : Launch} {e : Jvm.Env} {s : State} {m : MethodId} {below : List Frame} {meth : Method} {c : Code} {Q : State → Prop} {D : va_G} {cid : Nat → ClassId} {eP : Nat → Option Nat} {eI : Nat → Nat → Int32} {Od : State → Prop} {b L : Nat} {xs : Nat → Int32} {ca a out : Nat}
theorem law_case {j : Nat} {σ : Mm} {μ : Ms} {ls : Array Slot} {H : Heap} {locs : List Loc} {cells slots : Nat} (hL : Lw p l s m c D cid eP eI Od b L xs) (hI : Li D cid eP eI s b ca a out j σ μ ls H locs) (hj : 9 * j + 9 ≤ L) (hc : cells + 9 ≤ 601024) (hs : slots + 110 ≤ 7293034) (kk : Kn p l e s m below meth c Q D cid eP eI b ca a out j cells slots) {q : Nat} (hq : q < 32) : W p l e room_1 s m #[.ref b] below meth c H locs cells slots Q (F0 m 40 ls [.int (nI q)]) := by
  have hx := hL.1.1
  have hb := hL.1.2.1
  rcases (show q = 0 ∨ q = 1 ∨ q = 2 ∨ q = 3 ∨ q = 4 ∨ q = 5 ∨ q = 6 ∨ q = 7 ∨ q = 8 ∨ q = 9 ∨ q = 10 ∨ q = 11 ∨ q = 12 ∨ q = 13 ∨ q = 14 ∨ q = 15 ∨ q = 16 ∨ q = 17 ∨ q = 18 ∨ q = 19 ∨ q = 20 ∨ q = 21 ∨ q = 22 ∨ q = 23 ∨ q = 24 ∨ q = 25 ∨ q = 26 ∨ q = 27 ∨ q = 28 ∨ q = 29 ∨ q = 30 ∨ q = 31 by omega) with rfl | rfl | rfl | rfl | rfl | rfl | rfl | rfl | rfl | rfl | rfl | rfl | rfl | rfl | rfl | rfl | rfl | rfl | rfl | rfl | rfl | rfl | rfl | rfl | rfl | rfl | rfl | rfl | rfl | rfl | rfl | rfl
  · exact lv_tableIn hx hb dl_40 (off := 136) (tgt := 176) (by decide) (by decide) rfl (by decide) (cs_0 hL hI hj hc hs kk)
  · exact lv_tableIn hx hb dl_40 (off := 201) (tgt := 241) (by decide) (by decide) rfl (by decide) (cs_1 hL hI hj hc hs kk)
  · exact lv_tableIn hx hb dl_40 (off := 250) (tgt := 290) (by decide) (by decide) rfl (by decide) (cs_2 hL hI hj hc hs kk)
  · exact lv_tableIn hx hb dl_40 (off := 287) (tgt := 327) (by decide) (by decide) rfl (by decide) (cs_3 hL hI hj hc hs kk)
  · exact lv_tableIn hx hb dl_40 (off := 402) (tgt := 442) (by decide) (by decide) rfl (by decide) (cs_4 hL hI hj hc hs kk)
  · exact lv_tableIn hx hb dl_40 (off := 451) (tgt := 491) (by decide) (by decide) rfl (by decide) (cs_5 hL hI hj hc hs kk)
  · exact lv_tableIn hx hb dl_40 (off := 500) (tgt := 540) (by decide) (by decide) rfl (by decide) (cs_6 hL hI hj hc hs kk)
  · exact lv_tableIn hx hb dl_40 (off := 549) (tgt := 589) (by decide) (by decide) rfl (by decide) (cs_7 hL hI hj hc hs kk)
  · exact lv_tableIn hx hb dl_40 (off := 598) (tgt := 638) (by decide) (by decide) rfl (by decide) (cs_8 hL hI hj hc hs kk)
  · exact lv_tableIn hx hb dl_40 (off := 671) (tgt := 711) (by decide) (by decide) rfl (by decide) (cs_9 hL hI hj hc hs kk)
  · exact lv_tableIn hx hb dl_40 (off := 696) (tgt := 736) (by decide) (by decide) rfl (by decide) (cs_10 hL hI hj hc hs kk)
  · exact lv_tableIn hx hb dl_40 (off := 709) (tgt := 749) (by decide) (by decide) rfl (by decide) (cs_11 hL hI hj hc hs kk)
  · exact lv_tableIn hx hb dl_40 (off := 762) (tgt := 802) (by decide) (by decide) rfl (by decide) (cs_12 hL hI hj hc hs kk)
  · exact lv_tableIn hx hb dl_40 (off := 799) (tgt := 839) (by decide) (by decide) rfl (by decide) (cs_13 hL hI hj hc hs kk)
  · exact lv_tableIn hx hb dl_40 (off := 836) (tgt := 876) (by decide) (by decide) rfl (by decide) (cs_14 hL hI hj hc hs kk)
  · exact lv_tableIn hx hb dl_40 (off := 861) (tgt := 901) (by decide) (by decide) rfl (by decide) (cs_15 hL hI hj hc hs kk)
  · exact lv_tableIn hx hb dl_40 (off := 898) (tgt := 938) (by decide) (by decide) rfl (by decide) (cs_16 hL hI hj hc hs kk)
  · exact lv_tableIn hx hb dl_40 (off := 923) (tgt := 963) (by decide) (by decide) rfl (by decide) (cs_17 hL hI hj hc hs kk)
  · exact lv_tableIn hx hb dl_40 (off := 948) (tgt := 988) (by decide) (by decide) rfl (by decide) (cs_18 hL hI hj hc hs kk)
  · exact lv_tableIn hx hb dl_40 (off := 1001) (tgt := 1041) (by decide) (by decide) rfl (by decide) (cs_19 hL hI hj hc hs kk)
  · exact lv_tableIn hx hb dl_40 (off := 1026) (tgt := 1066) (by decide) (by decide) rfl (by decide) (cs_20 hL hI hj hc hs kk)
  · exact lv_tableIn hx hb dl_40 (off := 1087) (tgt := 1127) (by decide) (by decide) rfl (by decide) (cs_21 hL hI hj hc hs kk)
  · exact lv_tableIn hx hb dl_40 (off := 1124) (tgt := 1164) (by decide) (by decide) rfl (by decide) (cs_22 hL hI hj hc hs kk)
  · exact lv_tableIn hx hb dl_40 (off := 1149) (tgt := 1189) (by decide) (by decide) rfl (by decide) (cs_23 hL hI hj hc hs kk)
  · exact lv_tableIn hx hb dl_40 (off := 1217) (tgt := 1257) (by decide) (by decide) rfl (by decide) (cs_24 hL hI hj hc hs kk)
  · exact lv_tableIn hx hb dl_40 (off := 1285) (tgt := 1325) (by decide) (by decide) rfl (by decide) (cs_25 hL hI hj hc hs kk)
  · exact lv_tableIn hx hb dl_40 (off := 1322) (tgt := 1362) (by decide) (by decide) rfl (by decide) (cs_26 hL hI hj hc hs kk)
  · exact lv_tableIn hx hb dl_40 (off := 1335) (tgt := 1375) (by decide) (by decide) rfl (by decide) (cs_27 hL hI hj hc hs kk)
  · exact lv_tableIn hx hb dl_40 (off := 1422) (tgt := 1462) (by decide) (by decide) rfl (by decide) (cs_28 hL hI hj hc hs kk)
  · exact lv_tableIn hx hb dl_40 (off := 1447) (tgt := 1487) (by decide) (by decide) rfl (by decide) (cs_29 hL hI hj hc hs kk)
  · exact lv_tableOut hx hb dl_40 (tgt := 1512) (by decide) (by decide) (W.widen (Nat.le_add_right _ _) (Nat.le_add_right _ _) (kk ls σ μ H locs hI))
  · exact lv_tableOut hx hb dl_40 (tgt := 1512) (by decide) (by decide) (W.widen (Nat.le_add_right _ _) (Nat.le_add_right _ _) (kk ls σ μ H locs hI))
theorem law_loop (hL : Lw p l s m c D cid eP eI Od b L xs) (hr : meth.sig.returnType = ret) (hlk : meth.locks = false) (n : Nat) : ∀ (j : Nat) (σ : Mm) (μ : Ms) (ls : Array Slot) (H : Heap) (locs : List Loc), L ≤ 9 * j + 9 * n → 9 * j ≤ L → Li D cid eP eI s b ca a out j σ μ ls H locs → W p l e room_1 s m #[.ref b] below meth c H locs (100 + 9 * j) (50000 + 110 * j) (lw_Z below #[.ref b] s) (F0 m 23 ls []) := by
  obtain ⟨⟨hx, hb, -⟩, -, -, -, -, -, -, ⟨hX, hbl, hL4⟩, -⟩ := id hL
  induction n with
  | zero =>
    intro j σ μ ls H locs hn hjL hI
    obtain ⟨hls, hv, hW, hS, hok, hon⟩ := id hI
    refine lv_iload hx hb dl_23 (lv_at hls 0 rfl) ?_
    refine lv_aload_n hx hb dl_25 rfl (lv_at hls 1 rfl) ?_
    refine va_slen (A := fun q => s.heap.size ≤ q) hx hb hX hbl (Nat.not_le.mpr hbl) hS dl_26 ?_
    refine lv_bipush (v := 9) hx hb dl_27 (by decide) ?_
    refine lv_isub hx hb dl_29 ?_
    refine lv_icmp_gt hx hb dl_30 (tgt := 1518) (by decide) (fun _ => ?_) (fun h => absurd ((idx_cmp hL4 (by omega)).mpr (by omega)) h)
    refine lv_iconst (v := 1) hx hb dl_1518 (by decide) ?_
    exact W.widen (by omega) (by omega) (va_forget hS.2.2 (lw_ret hx hb hr hlk dl_1519))
  | succ n ih =>
    intro j σ μ ls H locs hn hjL hI
    obtain ⟨hls, hv, hW, hS, hok, hon⟩ := id hI
    refine lv_iload hx hb dl_23 (lv_at hls 0 rfl) ?_
    refine lv_aload_n hx hb dl_25 rfl (lv_at hls 1 rfl) ?_
    refine va_slen (A := fun q => s.heap.size ≤ q) hx hb hX hbl (Nat.not_le.mpr hbl) hS dl_26 ?_
    refine lv_bipush (v := 9) hx hb dl_27 (by decide) ?_
    refine lv_isub hx hb dl_29 ?_
    refine lv_icmp_gt hx hb dl_30 (tgt := 1518) (by decide) (fun _ => ?_) (fun h => ?_)
    · refine lv_iconst (v := 1) hx hb dl_1518 (by decide) ?_
      exact W.widen (by omega) (by omega) (va_forget hS.2.2 (lw_ret hx hb hr hlk dl_1519))
    · have hj : 9 * j + 9 ≤ L := Nat.not_lt.mp fun z => h ((idx_cmp hL4 (by omega)).mpr z)
      refine lv_aload_n hx hb dl_33 rfl (lv_at hls 1 rfl) ?_
      refine lv_iload hx hb dl_34 (lv_at hls 0 rfl) ?_
      refine va_sld (A := fun q => s.heap.size ≤ q) hx hb hX hbl (Nat.not_le.mpr hbl) hS (vp_in_nI (by omega) (by omega)) dl_36 ?_
      refine lv_bipush (v := 31) hx hb dl_37 (by decide) ?_
      refine lv_iand hx hb dl_39 ?_
      obtain ⟨q, hq, eq⟩ := pk_andE (xs (nI (9 * j)).toNatClampNeg) (m := 31) 5 (by decide)
      rw [eq]
      refine law_case hL hI hj (by omega) (by omega) ?_ hq
      intro ls' σ' μ' H' locs' hI'
      obtain ⟨hl2, hR⟩ := id hI'
      refine lv_iinc (v := nI (9 * (j + 1))) (lv' := [(4, .int (nI (9 * (j + 1)))), (0, .ref b), (1, .ref ca), (2, .ref a), (3, .ref out)]) hx hb dl_1512 hl2 (k := 0) rfl (add9 j) (by decide) rfl (fun ls2 hl3 => ?_)
      refine lv_goto hx hb dl_1515 (tgt := 23) (by decide) ?_
      exact W.widen (by omega) (by omega) (ih (j + 1) σ' μ' ls2 H' locs' (by omega) (by omega) ⟨hl3, hR⟩)
end P9
