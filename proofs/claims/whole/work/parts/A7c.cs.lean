/-! ===== CASES OF THE LAW (printed by wip/gen/law.py) ===== -/
section V2
variable {p : Program} {l : Launch} {e : Jvm.Env} {s : State} {m : MethodId} {below : List Frame} {meth : Method} {c : Code} {Q : State → Prop} {D : va_G} {cid : Nat → ClassId} {eP : Nat → Option Nat} {eI : Nat → Nat → Int32} {Od : State → Prop} {b L : Nat} {xs : Nat → Int32} {ca a out j : Nat} {σ : Mm} {μ : Ms} {ls : Array Slot} {H : Heap} {locs : List Loc} {cells slots : Nat}
theorem cs_16 (hL : Lw p l s m c D cid eP eI Od b L xs) (hI : Li D cid eP eI s b ca a out j σ μ ls H locs) (hj : 9 * j + 9 ≤ L) (hc : cells + 9 ≤ 601024) (hs : slots + 110 ≤ 7293034) (kk : Kn p l e s m below meth c Q D cid eP eI b ca a out j cells slots) : W p l e room_1 s m #[.ref b] below meth c H locs cells slots Q (F0 m 938 ls []) := by
  obtain ⟨hls, hv, hW, hS, hok, hon⟩ := id hI
  obtain ⟨v, σ1, μ', r1, r2, hv', n1, n2⟩ := ok_go (xs (9 * j + 1)) 0 σ ca a μ hv
  obtain ⟨x, rfl⟩ := (runc_ky r1).2 kc_C_go.rt
  refine lv_aload_n hL.1.1 hL.1.2.1 dl_938 rfl (lv_at hls 2 rfl) ?_
  refine lc_ld hL hls hS (i := 1) (by decide) hj rfl dl_939 dl_940 dl_942 dl_943 dl_944 ?_
  refine lc_call hL (ys := [xs (9 * j + 1)]) kc_C_go hW hS hls.1 (by decide) (inv_ca hv) (by decide) r1 (num1 hc hs n1 n2) rfl dl_945 (fun H1 locs1 hW1 hS1 => ?_)
  refine lv_aload_n hL.1.1 hL.1.2.1 dl_948 rfl (lv_at hls 3 rfl) ?_
  refine lc_ld hL hls hS1 (i := 1) (by decide) hj rfl dl_949 dl_950 dl_952 dl_953 dl_954 ?_
  refine lc_call hL (ys := [xs (9 * j + 1)]) kc_M_go hW1 hS1 hls.1 (by decide) (inv_a1 hv r1) (Nat.le_of_ble_eq_true rfl) r2 (num2 hc hs n1 n2 rfl rfl) rfl dl_955 (fun H2 locs2 hW2 hS2 => ?_)
  refine lv_icmp_eq hL.1.1 hL.1.2.1 dl_958 (tgt := 1512) (by decide) (fun _ => ?_) (fun h => absurd rfl h)
  exact W.widen (num3 n1 rfl) (num4 n2 rfl) (kk ls _ μ' H2 locs2 (li_next hI r1 r2 hv' hW2 hS2))
theorem cs_17 (hL : Lw p l s m c D cid eP eI Od b L xs) (hI : Li D cid eP eI s b ca a out j σ μ ls H locs) (hj : 9 * j + 9 ≤ L) (hc : cells + 9 ≤ 601024) (hs : slots + 110 ≤ 7293034) (kk : Kn p l e s m below meth c Q D cid eP eI b ca a out j cells slots) : W p l e room_1 s m #[.ref b] below meth c H locs cells slots Q (F0 m 963 ls []) := by
  obtain ⟨hls, hv, hW, hS, hok, hon⟩ := id hI
  obtain ⟨v, σ1, μ', r1, r2, hv', n1, n2⟩ := ok_rest (xs (9 * j + 1)) 0 σ ca a μ hv
  obtain ⟨x, rfl⟩ := (runc_ky r1).2 kc_C_rest.rt
  refine lv_aload_n hL.1.1 hL.1.2.1 dl_963 rfl (lv_at hls 2 rfl) ?_
  refine lc_ld hL hls hS (i := 1) (by decide) hj rfl dl_964 dl_965 dl_967 dl_968 dl_969 ?_
  refine lc_call hL (ys := [xs (9 * j + 1)]) kc_C_rest hW hS hls.1 (by decide) (inv_ca hv) (by decide) r1 (num1 hc hs n1 n2) rfl dl_970 (fun H1 locs1 hW1 hS1 => ?_)
  refine lv_aload_n hL.1.1 hL.1.2.1 dl_973 rfl (lv_at hls 3 rfl) ?_
  refine lc_ld hL hls hS1 (i := 1) (by decide) hj rfl dl_974 dl_975 dl_977 dl_978 dl_979 ?_
  refine lc_call hL (ys := [xs (9 * j + 1)]) kc_M_rest hW1 hS1 hls.1 (by decide) (inv_a1 hv r1) (Nat.le_of_ble_eq_true rfl) r2 (num2 hc hs n1 n2 rfl rfl) rfl dl_980 (fun H2 locs2 hW2 hS2 => ?_)
  refine lv_icmp_eq hL.1.1 hL.1.2.1 dl_983 (tgt := 1512) (by decide) (fun _ => ?_) (fun h => absurd rfl h)
  exact W.widen (num3 n1 rfl) (num4 n2 rfl) (kk ls _ μ' H2 locs2 (li_next hI r1 r2 hv' hW2 hS2))
theorem cs_18 (hL : Lw p l s m c D cid eP eI Od b L xs) (hI : Li D cid eP eI s b ca a out j σ μ ls H locs) (hj : 9 * j + 9 ≤ L) (hc : cells + 9 ≤ 601024) (hs : slots + 110 ≤ 7293034) (kk : Kn p l e s m below meth c Q D cid eP eI b ca a out j cells slots) : W p l e room_1 s m #[.ref b] below meth c H locs cells slots Q (F0 m 988 ls []) := by
  obtain ⟨hls, hv, hW, hS, hok, hon⟩ := id hI
  obtain ⟨v, σ1, μ', r1, r2, hv', n1, n2⟩ := ok_breaks (xs (9 * j + 1)) (bz (xs (9 * j + 2))) (bz_01 _) 0 σ ca a μ hv
  obtain ⟨x, rfl⟩ := (runc_ky r1).2 kc_C_breaks.rt
  refine lv_aload_n hL.1.1 hL.1.2.1 dl_988 rfl (lv_at hls 2 rfl) ?_
  refine lc_ld hL hls hS (i := 1) (by decide) hj rfl dl_989 dl_990 dl_992 dl_993 dl_994 ?_
  refine lc_ld hL hls hS (i := 2) (by decide) hj rfl dl_995 dl_996 dl_998 dl_999 dl_1000 ?_
  refine lw_bz hL.1.1 hL.1.2.1 dl_1001 dl_1004 dl_1005 dl_1008 (t1 := 1008) (t2 := 1009) rfl rfl ?_
  refine lc_call hL (ys := [xs (9 * j + 1), bz (xs (9 * j + 2))]) kc_C_breaks hW hS hls.1 (by decide) (inv_ca hv) (by decide) r1 (num1 hc hs n1 n2) rfl dl_1009 (fun H1 locs1 hW1 hS1 => ?_)
  refine lv_aload_n hL.1.1 hL.1.2.1 dl_1012 rfl (lv_at hls 3 rfl) ?_
  refine lc_ld hL hls hS1 (i := 1) (by decide) hj rfl dl_1013 dl_1014 dl_1016 dl_1017 dl_1018 ?_
  refine lc_ld hL hls hS1 (i := 2) (by decide) hj rfl dl_1019 dl_1020 dl_1022 dl_1023 dl_1024 ?_
  refine lw_bz hL.1.1 hL.1.2.1 dl_1025 dl_1028 dl_1029 dl_1032 (t1 := 1032) (t2 := 1033) rfl rfl ?_
  refine lc_call hL (ys := [xs (9 * j + 1), bz (xs (9 * j + 2))]) kc_M_breaks hW1 hS1 hls.1 (by decide) (inv_a1 hv r1) (Nat.le_of_ble_eq_true rfl) r2 (num2 hc hs n1 n2 rfl rfl) rfl dl_1033 (fun H2 locs2 hW2 hS2 => ?_)
  refine lv_icmp_eq hL.1.1 hL.1.2.1 dl_1036 (tgt := 1512) (by decide) (fun _ => ?_) (fun h => absurd rfl h)
  exact W.widen (num3 n1 rfl) (num4 n2 rfl) (kk ls _ μ' H2 locs2 (li_next hI r1 r2 hv' hW2 hS2))
theorem cs_19 (hL : Lw p l s m c D cid eP eI Od b L xs) (hI : Li D cid eP eI s b ca a out j σ μ ls H locs) (hj : 9 * j + 9 ≤ L) (hc : cells + 9 ≤ 601024) (hs : slots + 110 ≤ 7293034) (kk : Kn p l e s m below meth c Q D cid eP eI b ca a out j cells slots) : W p l e room_1 s m #[.ref b] below meth c H locs cells slots Q (F0 m 1041 ls []) := by
  obtain ⟨hls, hv, hW, hS, hok, hon⟩ := id hI
  obtain ⟨v, σ1, μ', r1, r2, hv', n1, n2⟩ := ok_raise (xs (9 * j + 1)) 0 σ ca a μ hv
  obtain ⟨x, rfl⟩ := (runc_ky r1).2 kc_C_raise.rt
  refine lv_aload_n hL.1.1 hL.1.2.1 dl_1041 rfl (lv_at hls 2 rfl) ?_
  refine lc_ld hL hls hS (i := 1) (by decide) hj rfl dl_1042 dl_1043 dl_1045 dl_1046 dl_1047 ?_
  refine lc_call hL (ys := [xs (9 * j + 1)]) kc_C_raise hW hS hls.1 (by decide) (inv_ca hv) (by decide) r1 (num1 hc hs n1 n2) rfl dl_1048 (fun H1 locs1 hW1 hS1 => ?_)
  refine lv_aload_n hL.1.1 hL.1.2.1 dl_1051 rfl (lv_at hls 3 rfl) ?_
  refine lc_ld hL hls hS1 (i := 1) (by decide) hj rfl dl_1052 dl_1053 dl_1055 dl_1056 dl_1057 ?_
  refine lc_call hL (ys := [xs (9 * j + 1)]) kc_M_raise hW1 hS1 hls.1 (by decide) (inv_a1 hv r1) (Nat.le_of_ble_eq_true rfl) r2 (num2 hc hs n1 n2 rfl rfl) rfl dl_1058 (fun H2 locs2 hW2 hS2 => ?_)
  refine lv_icmp_eq hL.1.1 hL.1.2.1 dl_1061 (tgt := 1512) (by decide) (fun _ => ?_) (fun h => absurd rfl h)
  exact W.widen (num3 n1 rfl) (num4 n2 rfl) (kk ls _ μ' H2 locs2 (li_next hI r1 r2 hv' hW2 hS2))
theorem cs_20 (hL : Lw p l s m c D cid eP eI Od b L xs) (hI : Li D cid eP eI s b ca a out j σ μ ls H locs) (hj : 9 * j + 9 ≤ L) (hc : cells + 9 ≤ 601024) (hs : slots + 110 ≤ 7293034) (kk : Kn p l e s m below meth c Q D cid eP eI b ca a out j cells slots) : W p l e room_1 s m #[.ref b] below meth c H locs cells slots Q (F0 m 1066 ls []) := by
  obtain ⟨hls, hv, hW, hS, hok, hon⟩ := id hI
  obtain ⟨v, σ1, μ', r1, r2, hv', n1, n2⟩ := ok_bag (xs (9 * j + 1)) (xs (9 * j + 2)) (xs (9 * j + 3)) (xs (9 * j + 4)) 0 σ ca a μ hv
  obtain ⟨x, rfl⟩ := (runc_ky r1).2 kc_C_bag.rt
  refine lv_aload_n hL.1.1 hL.1.2.1 dl_1066 rfl (lv_at hls 2 rfl) ?_
  refine lc_ld hL hls hS (i := 1) (by decide) hj rfl dl_1067 dl_1068 dl_1070 dl_1071 dl_1072 ?_
  refine lc_ld hL hls hS (i := 2) (by decide) hj rfl dl_1073 dl_1074 dl_1076 dl_1077 dl_1078 ?_
  refine lc_ld hL hls hS (i := 3) (by decide) hj rfl dl_1079 dl_1080 dl_1082 dl_1083 dl_1084 ?_
  refine lc_ld hL hls hS (i := 4) (by decide) hj rfl dl_1085 dl_1086 dl_1088 dl_1089 dl_1090 ?_
  refine lc_call hL (ys := [xs (9 * j + 1), xs (9 * j + 2), xs (9 * j + 3), xs (9 * j + 4)]) kc_C_bag hW hS hls.1 (by decide) (inv_ca hv) (by decide) r1 (num1 hc hs n1 n2) rfl dl_1091 (fun H1 locs1 hW1 hS1 => ?_)
  refine lv_aload_n hL.1.1 hL.1.2.1 dl_1094 rfl (lv_at hls 3 rfl) ?_
  refine lc_ld hL hls hS1 (i := 1) (by decide) hj rfl dl_1095 dl_1096 dl_1098 dl_1099 dl_1100 ?_
  refine lc_ld hL hls hS1 (i := 2) (by decide) hj rfl dl_1101 dl_1102 dl_1104 dl_1105 dl_1106 ?_
  refine lc_ld hL hls hS1 (i := 3) (by decide) hj rfl dl_1107 dl_1108 dl_1110 dl_1111 dl_1112 ?_
  refine lc_ld hL hls hS1 (i := 4) (by decide) hj rfl dl_1113 dl_1114 dl_1116 dl_1117 dl_1118 ?_
  refine lc_call hL (ys := [xs (9 * j + 1), xs (9 * j + 2), xs (9 * j + 3), xs (9 * j + 4)]) kc_M_bag hW1 hS1 hls.1 (by decide) (inv_a1 hv r1) (Nat.le_of_ble_eq_true rfl) r2 (num2 hc hs n1 n2 rfl rfl) rfl dl_1119 (fun H2 locs2 hW2 hS2 => ?_)
  refine lv_icmp_eq hL.1.1 hL.1.2.1 dl_1122 (tgt := 1512) (by decide) (fun _ => ?_) (fun h => absurd rfl h)
  exact W.widen (num3 n1 rfl) (num4 n2 rfl) (kk ls _ μ' H2 locs2 (li_next hI r1 r2 hv' hW2 hS2))
theorem cs_21 (hL : Lw p l s m c D cid eP eI Od b L xs) (hI : Li D cid eP eI s b ca a out j σ μ ls H locs) (hj : 9 * j + 9 ≤ L) (hc : cells + 9 ≤ 601024) (hs : slots + 110 ≤ 7293034) (kk : Kn p l e s m below meth c Q D cid eP eI b ca a out j cells slots) : W p l e room_1 s m #[.ref b] below meth c H locs cells slots Q (F0 m 1127 ls []) := by
  obtain ⟨hls, hv, hW, hS, hok, hon⟩ := id hI
  obtain ⟨v, σ1, μ', r1, r2, hv', n1, n2⟩ := ok_load (xs (9 * j + 1)) (xs (9 * j + 2)) 0 σ ca a μ hv
  obtain ⟨x, rfl⟩ := (runc_ky r1).2 kc_C_load.rt
  refine lv_aload_n hL.1.1 hL.1.2.1 dl_1127 rfl (lv_at hls 2 rfl) ?_
  refine lc_ld hL hls hS (i := 1) (by decide) hj rfl dl_1128 dl_1129 dl_1131 dl_1132 dl_1133 ?_
  refine lc_ld hL hls hS (i := 2) (by decide) hj rfl dl_1134 dl_1135 dl_1137 dl_1138 dl_1139 ?_
  refine lc_call hL (ys := [xs (9 * j + 1), xs (9 * j + 2)]) kc_C_load hW hS hls.1 (by decide) (inv_ca hv) (by decide) r1 (num1 hc hs n1 n2) rfl dl_1140 (fun H1 locs1 hW1 hS1 => ?_)
  refine lv_aload_n hL.1.1 hL.1.2.1 dl_1143 rfl (lv_at hls 3 rfl) ?_
  refine lc_ld hL hls hS1 (i := 1) (by decide) hj rfl dl_1144 dl_1145 dl_1147 dl_1148 dl_1149 ?_
  refine lc_ld hL hls hS1 (i := 2) (by decide) hj rfl dl_1150 dl_1151 dl_1153 dl_1154 dl_1155 ?_
  refine lc_call hL (ys := [xs (9 * j + 1), xs (9 * j + 2)]) kc_M_load hW1 hS1 hls.1 (by decide) (inv_a1 hv r1) (Nat.le_of_ble_eq_true rfl) r2 (num2 hc hs n1 n2 rfl rfl) rfl dl_1156 (fun H2 locs2 hW2 hS2 => ?_)
  refine lv_icmp_eq hL.1.1 hL.1.2.1 dl_1159 (tgt := 1512) (by decide) (fun _ => ?_) (fun h => absurd rfl h)
  exact W.widen (num3 n1 rfl) (num4 n2 rfl) (kk ls _ μ' H2 locs2 (li_next hI r1 r2 hv' hW2 hS2))
theorem cs_22 (hL : Lw p l s m c D cid eP eI Od b L xs) (hI : Li D cid eP eI s b ca a out j σ μ ls H locs) (hj : 9 * j + 9 ≤ L) (hc : cells + 9 ≤ 601024) (hs : slots + 110 ≤ 7293034) (kk : Kn p l e s m below meth c Q D cid eP eI b ca a out j cells slots) : W p l e room_1 s m #[.ref b] below meth c H locs cells slots Q (F0 m 1164 ls []) := by
  obtain ⟨hls, hv, hW, hS, hok, hon⟩ := id hI
  obtain ⟨v, σ1, μ', r1, r2, hv', n1, n2⟩ := ok_unload (xs (9 * j + 1)) 0 σ ca a μ hv
  obtain ⟨x, rfl⟩ := (runc_ky r1).2 kc_C_unload.rt
  refine lv_aload_n hL.1.1 hL.1.2.1 dl_1164 rfl (lv_at hls 2 rfl) ?_
  refine lc_ld hL hls hS (i := 1) (by decide) hj rfl dl_1165 dl_1166 dl_1168 dl_1169 dl_1170 ?_
  refine lc_call hL (ys := [xs (9 * j + 1)]) kc_C_unload hW hS hls.1 (by decide) (inv_ca hv) (by decide) r1 (num1 hc hs n1 n2) rfl dl_1171 (fun H1 locs1 hW1 hS1 => ?_)
  refine lv_aload_n hL.1.1 hL.1.2.1 dl_1174 rfl (lv_at hls 3 rfl) ?_
  refine lc_ld hL hls hS1 (i := 1) (by decide) hj rfl dl_1175 dl_1176 dl_1178 dl_1179 dl_1180 ?_
  refine lc_call hL (ys := [xs (9 * j + 1)]) kc_M_unload hW1 hS1 hls.1 (by decide) (inv_a1 hv r1) (Nat.le_of_ble_eq_true rfl) r2 (num2 hc hs n1 n2 rfl rfl) rfl dl_1181 (fun H2 locs2 hW2 hS2 => ?_)
  refine lv_icmp_eq hL.1.1 hL.1.2.1 dl_1184 (tgt := 1512) (by decide) (fun _ => ?_) (fun h => absurd rfl h)
  exact W.widen (num3 n1 rfl) (num4 n2 rfl) (kk ls _ μ' H2 locs2 (li_next hI r1 r2 hv' hW2 hS2))
end V2
