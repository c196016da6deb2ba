/-! ===== CASES OF THE LAW (printed by wip/gen/law.py) ===== -/
section V3
variable {p : Program} {l : Launch} {e : Jvm.Env} {s : State} {m : MethodId} {below : List Frame} {meth : Method} {c : Code} {Q : State → Prop} {D : va_G} {cid : Nat → ClassId} {eP : Nat → Option Nat} {eI : Nat → Nat → Int32} {Od : State → Prop} {b L : Nat} {xs : Nat → Int32} {ca a out j : Nat} {σ : Mm} {μ : Ms} {ls : Array Slot} {H : Heap} {locs : List Loc} {cells slots : Nat}
theorem num5 (hc : cells + 9 ≤ 601024) (hs : slots + 110 ≤ 7293034) : cells + 1 ≤ room_1.cells ∧ slots + 6 ≤ room_1.slots := by
  show cells + 1 ≤ 601024 ∧ slots + 6 ≤ 7293034
  omega
theorem num6 {n1 n2 s1 s2 : Nat} (hc : cells + 9 ≤ 601024) (hs : slots + 110 ≤ 7293034) (e1 : n2 = n1) (e2 : s2 = s1) : cells + 1 + (n2 - n1) ≤ 601024 ∧ slots + 6 + (s2 - s1) ≤ 7293034 := by omega
theorem num7 {n1 n2 n3 s1 s2 s3 : Nat} (hc : cells + 9 ≤ 601024) (hs : slots + 110 ≤ 7293034) (e1 : n2 = n1) (e2 : s2 = s1) : cells + 1 + (n2 - n1) + (n3 - n3) ≤ 601024 ∧ slots + 6 + (s2 - s1) + (s3 - s3) ≤ 7293034 := by omega
theorem num8 {n1 n2 n3 : Nat} (e1 : n2 = n1) (e3 : n3 = n3) : cells + 1 + (n2 - n1) + (n3 - n3) ≤ cells + 9 := by omega
theorem num9 {s1 s2 s3 : Nat} (e2 : s2 = s1) (e3 : s3 = s3) : slots + 6 + (s2 - s1) + (s3 - s3) ≤ slots + 110 := by omega
theorem cmp_self (x : Int64) : lg_cmp x x = 0 := by
  unfold lg_cmp
  simp
theorem pd_h : (parseMethodDescriptor "(LHullLine;II[J)I").map (fun d => d.parameters.length) = some 4 := by decide +kernel
theorem cs_23 (hL : Lw p l s m c D cid eP eI Od b L xs) (hI : Li D cid eP eI s b ca a out j σ μ ls H locs) (hj : 9 * j + 9 ≤ L) (hc : cells + 9 ≤ 601024) (hs : slots + 110 ≤ 7293034) (kk : Kn p l e s m below meth c Q D cid eP eI b ca a out j cells slots) : W p l e room_1 s m #[.ref b] below meth c H locs cells slots Q (F0 m 1189 ls []) := by
  obtain ⟨hls, hv, hW, hS, hok, hon⟩ := id hI
  obtain ⟨S5, hK, hO, hSp, hOd, hTh, hst, -, -⟩ := id hL
  obtain ⟨hx, hb, -⟩ := id S5
  obtain ⟨x, z, hz, r1, r2⟩ := ok_mail (xs (9 * j + 1)) (xs (9 * j + 2)) 0 σ ca a μ hv
  refine lv_aload_n hx hb dl_1189 rfl (lv_at hls 2 rfl) ?_
  refine lc_ld hL hls hS (i := 1) (by decide) hj rfl dl_1190 dl_1191 dl_1193 dl_1194 dl_1195 ?_
  refine lc_ld hL hls hS (i := 2) (by decide) hj rfl dl_1196 dl_1197 dl_1199 dl_1200 dl_1201 ?_
  refine lv_aload_n hx hb dl_1202 rfl (lv_at hls 4 rfl) ?_
  refine lw_hlp (Pc := fun _ _ => True) (y := ⟨"HullLineLaw", "mail", "(LHullLine;II[J)I"⟩) (cy := method_3_code) (d := 0 + 20) (v := some (.int z)) (P := Pz σ out x z) (As := [.ref ca, .int (xs (9 * j + 1)), .int (xs (9 * j + 2)), .ref out]) S5 (hlp_met (k := 84) (ix := 7) hst hSp hOd hTh (Or.inl rfl) rfl hh_mail.1 hh_mail.2.1 hh_mail.2.2.1 dh_mail_0 dh_mail_1 dh_mail_2 dh_mail_3 dh_mail_4 dh_mail_5 dh_mail_8 dh_mail_9 dh_mail_10 dh_mail_13 dh_mail_15 dh_mail_16 dh_mail_17 dh_mail_18 r1 hz (inv_ca hv) hok hon) hOd hK hO (Nat.le_refl _) hW hS hls.1 rfl hh_mail.2.2.2.1 hh_mail.2.2.2.2.1 hh_mail.2.2.2.2.2.1 hh_mail.2.2.2.2.2.2 pd_h (by decide) (by decide) (num5 hc hs) rfl (by decide) dl_1203 (fun σ1 H1 locs1 hP hW1 hS1 => ?_)
  obtain ⟨hv1, ho1, hn1, hm1⟩ := inv_pz hv hok hon hP
  refine lv_istore (lv' := [(5, .int z), (4, .int (nI (9 * j))), (0, .ref b), (1, .ref ca), (2, .ref a), (3, .ref out)]) hx hb dl_1206 hls (by decide) rfl (fun ls2 hl2 => ?_)
  have hl2s : lv_has ls2 7 [(4, .int (nI (9 * j))), (0, .ref b), (1, .ref ca), (2, .ref a), (3, .ref out)] := lv_sub hl2 [1, 2, 3, 4, 5] rfl
  refine lv_aload_n hx hb dl_1208 rfl (lv_at hl2 4 rfl) ?_
  refine lc_ld hL hl2s hS1 (i := 1) (by decide) hj rfl dl_1209 dl_1210 dl_1212 dl_1213 dl_1214 ?_
  refine lc_ld hL hl2s hS1 (i := 2) (by decide) hj rfl dl_1215 dl_1216 dl_1218 dl_1219 dl_1220 ?_
  have r3 := r2 σ1 hv1.2.1.1
  rw [hv1.2.1.2] at r3
  refine lc_call hL (ys := [xs (9 * j + 1), xs (9 * j + 2)]) kc_M_mail hW1 hS1 hl2.1 (by decide) (inv_a hv1) (by decide) r3 (num6 hc hs rfl rfl) rfl dl_1221 (fun H2 locs2 hW2 hS2 => ?_)
  refine lv_istore (lv' := [(6, .int (if z = 0 then x else 0)), (5, .int z), (4, .int (nI (9 * j))), (0, .ref b), (1, .ref ca), (2, .ref a), (3, .ref out)]) hx hb dl_1224 hl2 (by decide) rfl (fun ls3 hl3 => ?_)
  refine lv_aload_n hx hb dl_1226 rfl (lv_at hl3 5 rfl) ?_
  have hv2 := hv1.z z
  refine lc_call hL (ys := []) kc_M_thrown hW2 hS2 hl3.1 (by decide) (inv_a hv2) (by decide) (m_thr hv1.2.1.1) (num7 hc hs rfl rfl) rfl dl_1227 (fun H3 locs3 hW3 hS3 => ?_)
  have hfin : Li D cid eP eI s b ca a out j (put σ1 a (fF μ 0 z)) (fF μ 0 z) ls3 H3 locs3 := ⟨lv_sub hl3 [2, 3, 4, 5, 6] rfl, hv2, hW3, hS3, ho1, hn1⟩
  have hgo := kk ls3 _ _ H3 locs3 hfin
  show W _ _ _ _ _ _ _ _ _ _ _ _ _ _ _ (F0 m 1230 ls3 [.int z])
  refine W.widen (k := cells + 9) (n := slots + 110) (num8 rfl rfl) (num9 rfl rfl) ?_
  refine lv_iload hx hb dl_1230 (lv_at hl3 1 rfl) ?_
  refine lv_icmp_eq hx hb dl_1232 (tgt := 1237) (by decide) (fun _ => ?_) (fun h => absurd rfl h)
  refine lv_iload hx hb dl_1237 (lv_at hl3 1 rfl) ?_
  refine lv_if_ne hx hb dl_1239 (tgt := 1254) (by decide) (fun h => ?_) (fun h => ?_)
  · exact lv_goto hx hb dl_1254 (tgt := 1512) (by decide) hgo
  · have hz0 : z = 0 := h
    have hlt : out < mX σ1 := hv1.2.2.1 out (by rw [ho1]; decide)
    have hm3 : mI (put σ1 a (fF μ 0 z)) 1004 out 0 = x := ((Sm_put σ1 a (fF μ 0 z)).2.1 1004 rfl out hlt 0).1.trans (hm1 hz0)
    have ho3 : mK (put σ1 a (fF μ 0 z)) out = 1004 := ho1
    have hn3 : mN (put σ1 a (fF μ 0 z)) out = 1 := hn1
    obtain ⟨-, q0, -, hq⟩ := hW3.arr (a := out) (by rw [ho3]; decide)
    rw [acl_l (by rw [ho3]), hn3] at hq
    have hty : (tyl cid)[4]? = some (cid (mK (put σ1 a (fF μ 0 z)) out % 5), .long) := by rw [ho3]; rfl
    refine lv_aload_n hx hb dl_1242 rfl (lv_at hl3 6 rfl) ?_
    refine lv_iconst (v := 0) hx hb dl_1243 rfl ?_
    refine va_lald hx hb hK hW3.1 q0 4 hq hty (vp_in_nI (n := 0) (by decide) (by decide)) dl_1244 ?_
    rw [ho3]
    show W _ _ _ _ _ _ _ _ _ _ _ _ _ _ _ (F0 m 1245 ls3 [.long (mI (put σ1 a (fF μ 0 z)) 1004 out 0).toInt64])
    rw [hm3]
    refine lv_iload hx hb dl_1245 (lv_at hl3 0 rfl) ?_
    rw [if_pos hz0]
    refine lv_i2l (v := x.toInt64) hx hb dl_1247 rfl ?_
    refine W.lcmp hx hb dl_1248 ?_
    refine lv_if_eq hx hb dl_1249 (tgt := 1254) (by decide) (fun _ => ?_) (fun h => absurd (cmp_self _) h)
    exact lv_goto hx hb dl_1254 (tgt := 1512) (by decide) hgo
theorem cs_24 (hL : Lw p l s m c D cid eP eI Od b L xs) (hI : Li D cid eP eI s b ca a out j σ μ ls H locs) (hj : 9 * j + 9 ≤ L) (hc : cells + 9 ≤ 601024) (hs : slots + 110 ≤ 7293034) (kk : Kn p l e s m below meth c Q D cid eP eI b ca a out j cells slots) : W p l e room_1 s m #[.ref b] below meth c H locs cells slots Q (F0 m 1257 ls []) := by
  obtain ⟨hls, hv, hW, hS, hok, hon⟩ := id hI
  obtain ⟨S5, hK, hO, hSp, hOd, hTh, hst, -, -⟩ := id hL
  obtain ⟨hx, hb, -⟩ := id S5
  obtain ⟨x, z, hz, r1, r2⟩ := ok_of (xs (9 * j + 1)) (xs (9 * j + 2)) 0 σ ca a μ hv
  refine lv_aload_n hx hb dl_1257 rfl (lv_at hls 2 rfl) ?_
  refine lc_ld hL hls hS (i := 1) (by decide) hj rfl dl_1258 dl_1259 dl_1261 dl_1262 dl_1263 ?_
  refine lc_ld hL hls hS (i := 2) (by decide) hj rfl dl_1264 dl_1265 dl_1267 dl_1268 dl_1269 ?_
  refine lv_aload_n hx hb dl_1270 rfl (lv_at hls 4 rfl) ?_
  refine lw_hlp (Pc := fun _ _ => True) (y := ⟨"HullLineLaw", "of", "(LHullLine;II[J)I"⟩) (cy := method_4_code) (d := 0 + 20) (v := some (.int z)) (P := Pz σ out x z) (As := [.ref ca, .int (xs (9 * j + 1)), .int (xs (9 * j + 2)), .ref out]) S5 (hlp_met (k := 85) (ix := 15) hst hSp hOd hTh (Or.inr rfl) rfl hh_of.1 hh_of.2.1 hh_of.2.2.1 dh_of_0 dh_of_1 dh_of_2 dh_of_3 dh_of_4 dh_of_5 dh_of_8 dh_of_9 dh_of_10 dh_of_13 dh_of_15 dh_of_16 dh_of_17 dh_of_18 r1 hz (inv_ca hv) hok hon) hOd hK hO (Nat.le_refl _) hW hS hls.1 rfl hh_of.2.2.2.1 hh_of.2.2.2.2.1 hh_of.2.2.2.2.2.1 hh_of.2.2.2.2.2.2 pd_h (by decide) (by decide) (num5 hc hs) rfl (by decide) dl_1271 (fun σ1 H1 locs1 hP hW1 hS1 => ?_)
  obtain ⟨hv1, ho1, hn1, hm1⟩ := inv_pz hv hok hon hP
  refine lv_istore (lv' := [(5, .int z), (4, .int (nI (9 * j))), (0, .ref b), (1, .ref ca), (2, .ref a), (3, .ref out)]) hx hb dl_1274 hls (by decide) rfl (fun ls2 hl2 => ?_)
  have hl2s : lv_has ls2 7 [(4, .int (nI (9 * j))), (0, .ref b), (1, .ref ca), (2, .ref a), (3, .ref out)] := lv_sub hl2 [1, 2, 3, 4, 5] rfl
  refine lv_aload_n hx hb dl_1276 rfl (lv_at hl2 4 rfl) ?_
  refine lc_ld hL hl2s hS1 (i := 1) (by decide) hj rfl dl_1277 dl_1278 dl_1280 dl_1281 dl_1282 ?_
  refine lc_ld hL hl2s hS1 (i := 2) (by decide) hj rfl dl_1283 dl_1284 dl_1286 dl_1287 dl_1288 ?_
  have r3 := r2 σ1 hv1.2.1.1
  rw [hv1.2.1.2] at r3
  refine lc_call hL (ys := [xs (9 * j + 1), xs (9 * j + 2)]) kc_M_of hW1 hS1 hl2.1 (by decide) (inv_a hv1) (by decide) r3 (num6 hc hs rfl rfl) rfl dl_1289 (fun H2 locs2 hW2 hS2 => ?_)
  refine lv_istore (lv' := [(6, .int (if z = 0 then x else 0)), (5, .int z), (4, .int (nI (9 * j))), (0, .ref b), (1, .ref ca), (2, .ref a), (3, .ref out)]) hx hb dl_1292 hl2 (by decide) rfl (fun ls3 hl3 => ?_)
  refine lv_aload_n hx hb dl_1294 rfl (lv_at hl3 5 rfl) ?_
  have hv2 := hv1.z z
  refine lc_call hL (ys := []) kc_M_thrown hW2 hS2 hl3.1 (by decide) (inv_a hv2) (by decide) (m_thr hv1.2.1.1) (num7 hc hs rfl rfl) rfl dl_1295 (fun H3 locs3 hW3 hS3 => ?_)
  have hfin : Li D cid eP eI s b ca a out j (put σ1 a (fF μ 0 z)) (fF μ 0 z) ls3 H3 locs3 := ⟨lv_sub hl3 [2, 3, 4, 5, 6] rfl, hv2, hW3, hS3, ho1, hn1⟩
  have hgo := kk ls3 _ _ H3 locs3 hfin
  show W _ _ _ _ _ _ _ _ _ _ _ _ _ _ _ (F0 m 1298 ls3 [.int z])
  refine W.widen (k := cells + 9) (n := slots + 110) (num8 rfl rfl) (num9 rfl rfl) ?_
  refine lv_iload hx hb dl_1298 (lv_at hl3 1 rfl) ?_
  refine lv_icmp_eq hx hb dl_1300 (tgt := 1305) (by decide) (fun _ => ?_) (fun h => absurd rfl h)
  refine lv_iload hx hb dl_1305 (lv_at hl3 1 rfl) ?_
  refine lv_if_ne hx hb dl_1307 (tgt := 1322) (by decide) (fun h => ?_) (fun h => ?_)
  · exact lv_goto hx hb dl_1322 (tgt := 1512) (by decide) hgo
  · have hz0 : z = 0 := h
    have hlt : out < mX σ1 := hv1.2.2.1 out (by rw [ho1]; decide)
    have hm3 : mI (put σ1 a (fF μ 0 z)) 1004 out 0 = x := ((Sm_put σ1 a (fF μ 0 z)).2.1 1004 rfl out hlt 0).1.trans (hm1 hz0)
    have ho3 : mK (put σ1 a (fF μ 0 z)) out = 1004 := ho1
    have hn3 : mN (put σ1 a (fF μ 0 z)) out = 1 := hn1
    obtain ⟨-, q0, -, hq⟩ := hW3.arr (a := out) (by rw [ho3]; decide)
    rw [acl_l (by rw [ho3]), hn3] at hq
    have hty : (tyl cid)[4]? = some (cid (mK (put σ1 a (fF μ 0 z)) out % 5), .long) := by rw [ho3]; rfl
    refine lv_aload_n hx hb dl_1310 rfl (lv_at hl3 6 rfl) ?_
    refine lv_iconst (v := 0) hx hb dl_1311 rfl ?_
    refine va_lald hx hb hK hW3.1 q0 4 hq hty (vp_in_nI (n := 0) (by decide) (by decide)) dl_1312 ?_
    rw [ho3]
    show W _ _ _ _ _ _ _ _ _ _ _ _ _ _ _ (F0 m 1313 ls3 [.long (mI (put σ1 a (fF μ 0 z)) 1004 out 0).toInt64])
    rw [hm3]
    refine lv_iload hx hb dl_1313 (lv_at hl3 0 rfl) ?_
    rw [if_pos hz0]
    refine lv_i2l (v := x.toInt64) hx hb dl_1315 rfl ?_
    refine W.lcmp hx hb dl_1316 ?_
    refine lv_if_eq hx hb dl_1317 (tgt := 1322) (by decide) (fun _ => ?_) (fun h => absurd (cmp_self _) h)
    exact lv_goto hx hb dl_1322 (tgt := 1512) (by decide) hgo
end V3
