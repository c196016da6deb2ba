/-! ===== THE LAW FROM ITS ENTRY ===== -/
set_option maxRecDepth 100000 in
theorem bw_c : Cond.classLink "HullLineLaw" 8 "HullLine" ∈ gw ∧ Cond.instantiable "HullLine" 14 ∈ gw ∧ Cond.initialized "HullLine" ∈ gw ∧ Cond.methodLink "HullLineLaw" 18 (myn 60) ∈ gw ∧ Cond.instanceMethod (myn 60) ∈ gw := ⟨ing 30 rfl rfl, ing 31 rfl rfl, ing 1 rfl rfl, ing 32 rfl rfl, ing 33 rfl rfl⟩
set_option maxRecDepth 100000 in
theorem bw_m : Cond.classLink "HullLineLaw" 19 "HullLineModel" ∈ gw ∧ Cond.instantiable "HullLineModel" 77 ∈ gw ∧ Cond.initialized "HullLineModel" ∈ gw ∧ Cond.methodLink "HullLineLaw" 21 (myn 113) ∈ gw ∧ Cond.instanceMethod (myn 113) ∈ gw := ⟨ing 1115 rfl rfl, ing 1116 rfl rfl, ing 9 rfl rfl, ing 1117 rfl rfl, ing 1118 rfl rfl⟩
theorem runc_gr {d k : Nat} {as : List Value} {σ σ' : Mm} {v : Option Value} (h : runc d k as σ = some (v, σ')) : Gr σ σ' := by
  obtain ⟨n, hn⟩ := run_iff.mp h
  exact ex_gr n _ _ _ _ _ _ _ _ hn
theorem numA {n0 x1 x2 : Nat} (h1 : x1 = n0 + 33) (h2 : x2 = x1 + 54) : 0 + 1 + (x1 - (n0 + 1)) + 1 + (x2 - (x1 + 1)) + 1 ≤ 100 + 9 * 0 := by omega
theorem numB {s1 s2 : Nat} (h1 : s1 ≤ 0 + 33 * 500) (h2 : s2 ≤ s1 + 54 * 500) (h3 : 0 + 14 ≤ s1) (h4 : s1 + 77 ≤ s2) : 0 + 14 + (s1 - (0 + 14)) + 77 + (s2 - (s1 + 77)) + 1 ≤ 50000 + 110 * 0 := by omega
section Q0
variable {p : Program} {e : Jvm.Env} {s : State} {m : MethodId} {below : List Frame} {meth : Method} {c : Code}
set_option maxHeartbeats 4000000 in
theorem whole_start (l : Launch) (hst : l.stackTraces = false) {b L : Nat} {xs : Nat → Int32} (hL : L ≤ 4608) (C0 : lw_At p s m meth c b L xs) : W p l e room_1 s m #[Value.ref b] below meth c s.heap [] 0 0 (lw_Z below #[Value.ref b] s) (entryFrame m ([Value.ref b] : List Value).toArray 7) := by
  obtain ⟨hx, hb, hr, hml, hown, hts, hX, hbl, hlocks, hgv⟩ := id C0
  obtain ⟨D, cid, hK⟩ := kn_all hts
  obtain ⟨z, mi0, adK, adV, hO⟩ := og_all hgv hts
  have hT := th_all hgv hts
  have hE : EOk z adK (eP0 z adK) (eI0 adK) := eok0 hO.2.1.2
  have hS5 : CallFix p m c code 7 s #[.ref b] gw "HullLineLaw" := ⟨hx, hb, hml, hown, fun w h => hts w (gw_sub h)⟩
  have hLw : Lw p l s m c D cid (eP0 z adK) (eI0 adK) (Oh s.heap.size z mi0 adK adV) b L xs := ⟨hS5, hK, ⟨hO, hT⟩, Oh.sp hE, Oh.ok, fun u h => h.2, hst, ⟨hX, hbl, hL⟩, z, adK, hE⟩
  obtain ⟨-, -, hOd, hSp, hok, -⟩ := id hLw
  generalize eP0 z adK = eP at hE hLw hSp
  generalize eI0 adK = eI at hE hLw hSp
  have hW0 : Wh D cid s.heap.size eP eI (s00 s.heap.size eP eI) s.heap := wh_00
  have hS0 : va_S (fun q => s.heap.size ≤ q) s.heap s.heap [] := va_S.rf
  have hz0 := ez_00 hE hO
  have hk0 : Kx (s00 s.heap.size eP eI) := kx_00
  have hx0 : mX (s00 s.heap.size eP eI) = s.heap.size := rfl
  have hm0 : mS (s00 s.heap.size eP eI) = 0 := rfl
  have hen := lv_entry ([.ref b]) (n := 7) (Nat.le_of_ble_eq_true rfl)
  rw [lg_entry_eq]
  generalize (lg_sl ([.ref b]) ++ List.replicate (7 - (lg_sl ([.ref b])).length) Slot.unset).toArray = ls at hen ⊢
  have hls : lv_has ls 7 [(0, .ref b)] := hen
  generalize s00 s.heap.size eP eI = σ0 at hW0 hz0 hk0 hx0 hm0
  have B1 : Bd σ0 (mX σ0) cKt cNt v0 (nw σ0 12 0 (kn 12)) 1 [] [] := bd_beg hk0 rfl rfl (by decide) (by decide)
  obtain ⟨σ1, r1, B2⟩ := c_init (d := 0) B1 hz0
  have B3 : Bd σ1 (mX σ1) mKt mNt v0 (nw σ1 13 0 (kn 13)) 1 [] [] := bd_beg (bd_X B2) rfl rfl (by decide) (by decide)
  obtain ⟨σ2, r2, B4⟩ := m_init (d := 4) B3
  have hv := inv_init B2 hz0 B4
  have x1 : mX σ1 = mX σ0 + 33 := B2.1
  have x2 : mX σ2 = mX σ1 + 54 := B4.1
  have g1 := runc_gr r1
  have g2 := runc_gr r2
  have y1 : mS σ1 ≤ mS σ0 + 33 * 500 := B2.2.2.2.2.2.2.2
  have y2 : mS σ2 ≤ mS σ1 + 54 * 500 := B4.2.2.2.2.2.2.2
  have w1 : mS σ0 + 14 ≤ mS σ1 := g1.2.1
  have w2 : mS σ1 + 77 ≤ mS σ2 := g2.2.1
  have q1 : mX (nw σ0 12 0 (kn 12)) = mX σ0 + 1 := rfl
  have q2 : mX (nw σ1 13 0 (kn 13)) = mX σ1 + 1 := rfl
  have q3 : mS (nw σ0 12 0 (kn 12)) = mS σ0 + 14 := rfl
  have q4 : mS (nw σ1 13 0 (kn 13)) = mS σ1 + 77 := rfl
  refine lw_new (kd := 12) (N := 14) hS5 hK hW0 hS0 (by decide) (by decide) rfl bw_c.1 bw_c.2.1 bw_c.2.2.1 (by decide) (by decide) dl_0 (fun H1 hW1 hS1 => ?_)
  refine lv_dup hx hb dl_3 rfl ?_
  refine lw_make (y := 60) (d := 0 + 4) (r := [.ref (mX σ0)]) hSp hok hS5 hK hOd (Nat.le_refl _) hW1 hS1 hls.1 (by decide) bw_c.2.2.2.1 bw_c.2.2.2.2 rfl rfl (by decide) r1 (cok_int (ys := []) (kd := 12) rfl (by decide) rfl (bd_0 B1 (by decide)) (by decide) (Nat.le_of_ble_eq_true rfl) rfl) (by decide) (by decide) ⟨?_, ?_⟩ rfl dl_4 (fun H2 locs2 hW2 hS2 => ?_)
  · show 0 + 1 + _ ≤ 601024
    rw [q1, x1]
    omega
  · show 0 + 14 + _ ≤ 7293034
    rw [q3]
    omega
  refine lv_astore_n (lv' := [(1, .ref (mX σ0)), (0, .ref b)]) hx hb dl_7 rfl hls (by decide) rfl (fun ls2 hl2 => ?_)
  refine lw_new (kd := 13) (N := 77) hS5 hK hW2 hS2 (by decide) (by decide) rfl bw_m.1 bw_m.2.1 bw_m.2.2.1 ?_ ?_ dl_8 (fun H3 hW3 hS3 => ?_)
  · show 0 + 1 + _ + 1 ≤ 601024
    rw [q1, x1]
    omega
  · show 0 + 14 + _ + 77 ≤ 7293034
    rw [q3]
    omega
  refine lv_dup hx hb dl_11 rfl ?_
  refine lw_make (y := 113) (d := 4) (r := [.ref (mX σ1)]) hSp hok hS5 hK hOd (Nat.le_refl _) hW3 hS3 hl2.1 (by decide) bw_m.2.2.2.1 bw_m.2.2.2.2 rfl rfl (by decide) r2 (cok_int (ys := []) (kd := 13) rfl (by decide) rfl (bd_0 B3 (by decide)) (by decide) (Nat.le_of_ble_eq_true rfl) rfl) (by decide) (by decide) ⟨?_, ?_⟩ rfl dl_12 (fun H4 locs4 hW4 hS4 => ?_)
  · show 0 + 1 + _ + 1 + _ ≤ 601024
    rw [q1, q2, x2, x1]
    omega
  · show 0 + 14 + _ + 77 + _ ≤ 7293034
    rw [q3, q4]
    omega
  refine lv_astore_n (lv' := [(2, .ref (mX σ1)), (1, .ref (mX σ0)), (0, .ref b)]) hx hb dl_15 rfl hl2 (by decide) rfl (fun ls3 hl3 => ?_)
  refine lv_iconst (v := 1) hx hb dl_16 (by decide) ?_
  refine lw_lnew hS5 hK hW4 hS4 ?_ ?_ dl_17 (fun H5 hW5 hS5' => ?_)
  · show 0 + 1 + _ + 1 + _ + 1 ≤ 601024
    rw [q1, q2, x2, x1]
    omega
  · show 0 + 14 + _ + 77 + _ + 1 ≤ 7293034
    rw [q3, q4]
    omega
  refine lv_astore_n (lv' := [(3, .ref (mX σ2)), (2, .ref (mX σ1)), (1, .ref (mX σ0)), (0, .ref b)]) hx hb dl_19 rfl hl3 (by decide) rfl (fun ls4 hl4 => ?_)
  refine lv_iconst (v := 0) hx hb dl_20 (by decide) ?_
  refine lv_istore (lv' := [(4, .int 0), (3, .ref (mX σ2)), (2, .ref (mX σ1)), (1, .ref (mX σ0)), (0, .ref b)]) hx hb dl_21 hl4 (by decide) rfl (fun ls5 hl5 => ?_)
  have hv5 : Inv (nw σ2 1004 1 1) (mX σ0) (mX σ1) u0 := inv_fr (T := fun _ => false) hv (Smnw (Sm.rfl' σ2) 1004 1 1) (Kxnw hv.2.2.1 1004 1 1) (fun _ _ => rfl)
  have hI : Li D cid eP eI s b (mX σ0) (mX σ1) (mX σ2) 0 (nw σ2 1004 1 1) u0 ls5 H5 locs4 := ⟨lv_sub hl5 [0, 4, 3, 2, 1] rfl, hv5, hW5, hS5', va_up_self _ _ _, va_up_self _ _ _⟩
  refine W.widen (k := 100 + 9 * 0) (n := 50000 + 110 * 0) ?_ ?_ (law_loop hLw hr hlocks 512 0 _ u0 ls5 H5 locs4 (by omega) (by omega) hI)
  · rw [q1, q2]
    exact numA x1 x2
  · rw [q3, q4, hm0]
    rw [hm0] at y1 w1
    exact numB y1 y2 w1 w2
end Q0
