/-! ===== THE CLASSES (printed by wip/gen/links.py) ===== -/
def refTy : FieldType → Bool
  | .object _ => true
  | .array _ => true
  | _ => false
/-- what holds of a class of the tables: its words, types, names -/
def Cls (c : Nat) (C : String) (U : u_T) (N : Nat) (ty : Nat → FieldType) : Prop := (∀ w ∈ u_ws C U N, w ∈ gw) ∧ (∀ k, k < N → parseFieldDescriptor (U k).2.2.1 = some (ty k)) ∧ (∀ a, a < N → ∀ b, b < N → a ≠ b → (U a).2.1 ≠ (U b).2.1) ∧ (∀ k, k < N → (kT c k = (U k).2.2.1 ∧ kfin c k = (U k).2.2.2) ∧ ((U k).2.2.1 = "I" → ty k = .int) ∧ ((U k).2.2.1 = "Z" → ty k = .boolean) ∧ (kr c k = true → refTy (ty k) = true) ∧ defaultValue (ty k) = (if kr c k = true then .null else .int 0)) ∧ kn c = N
set_option maxRecDepth 100000 in
theorem cw_1 : ∀ w ∈ u_ws RJx4a65c TJx4a65c 3, w ∈ gw := List.forall_mem_cons.mpr ⟨ing 61 rfl rfl, List.forall_mem_cons.mpr ⟨ing 57 rfl rfl, List.forall_mem_cons.mpr ⟨ing 59 rfl rfl, fun _ h => absurd h List.not_mem_nil⟩⟩⟩
set_option maxRecDepth 100000 in
theorem cls_1 : Cls 1 RJx4a65c TJx4a65c 3 tyJx4a65c := ⟨cw_1, tyJx4a65c_ok, nmJx4a65c, by decide +kernel, by decide +kernel⟩
set_option maxRecDepth 100000 in
theorem cw_2 : ∀ w ∈ u_ws RX0 TX0 8, w ∈ gw := List.forall_mem_cons.mpr ⟨ing 875 rfl rfl, List.forall_mem_cons.mpr ⟨ing 877 rfl rfl, List.forall_mem_cons.mpr ⟨ing 879 rfl rfl, List.forall_mem_cons.mpr ⟨ing 881 rfl rfl, List.forall_mem_cons.mpr ⟨ing 883 rfl rfl, List.forall_mem_cons.mpr ⟨ing 885 rfl rfl, List.forall_mem_cons.mpr ⟨ing 887 rfl rfl, List.forall_mem_cons.mpr ⟨ing 889 rfl rfl, fun _ h => absurd h List.not_mem_nil⟩⟩⟩⟩⟩⟩⟩⟩
set_option maxRecDepth 100000 in
theorem cls_2 : Cls 2 RX0 TX0 8 tyX0 := ⟨cw_2, tyX0_ok, nmX0, by decide +kernel, by decide +kernel⟩
set_option maxRecDepth 100000 in
theorem cw_3 : ∀ w ∈ u_ws RX1 TX1 17, w ∈ gw := List.forall_mem_cons.mpr ⟨ing 467 rfl rfl, List.forall_mem_cons.mpr ⟨ing 469 rfl rfl, List.forall_mem_cons.mpr ⟨ing 471 rfl rfl, List.forall_mem_cons.mpr ⟨ing 473 rfl rfl, List.forall_mem_cons.mpr ⟨ing 475 rfl rfl, List.forall_mem_cons.mpr ⟨ing 477 rfl rfl, List.forall_mem_cons.mpr ⟨ing 479 rfl rfl, List.forall_mem_cons.mpr ⟨ing 481 rfl rfl, List.forall_mem_cons.mpr ⟨ing 483 rfl rfl, List.forall_mem_cons.mpr ⟨ing 485 rfl rfl, List.forall_mem_cons.mpr ⟨ing 487 rfl rfl, List.forall_mem_cons.mpr ⟨ing 489 rfl rfl, List.forall_mem_cons.mpr ⟨ing 491 rfl rfl, List.forall_mem_cons.mpr ⟨ing 493 rfl rfl, List.forall_mem_cons.mpr ⟨ing 495 rfl rfl, List.forall_mem_cons.mpr ⟨ing 497 rfl rfl, List.forall_mem_cons.mpr ⟨ing 499 rfl rfl, fun _ h => absurd h List.not_mem_nil⟩⟩⟩⟩⟩⟩⟩⟩⟩⟩⟩⟩⟩⟩⟩⟩⟩
set_option maxRecDepth 100000 in
theorem cls_3 : Cls 3 RX1 TX1 17 tyX1 := ⟨cw_3, tyX1_ok, nmX1, by decide +kernel, by decide +kernel⟩
set_option maxRecDepth 100000 in
theorem cw_4 : ∀ w ∈ u_ws RX2 TX2 5, w ∈ gw := List.forall_mem_cons.mpr ⟨ing 76 rfl rfl, List.forall_mem_cons.mpr ⟨ing 78 rfl rfl, List.forall_mem_cons.mpr ⟨ing 80 rfl rfl, List.forall_mem_cons.mpr ⟨ing 82 rfl rfl, List.forall_mem_cons.mpr ⟨ing 84 rfl rfl, fun _ h => absurd h List.not_mem_nil⟩⟩⟩⟩⟩
set_option maxRecDepth 100000 in
theorem cls_4 : Cls 4 RX2 TX2 5 tyX2 := ⟨cw_4, tyX2_ok, nmX2, by decide +kernel, by decide +kernel⟩
set_option maxRecDepth 100000 in
theorem cw_5 : ∀ w ∈ u_ws RX3 TX3 7, w ∈ gw := List.forall_mem_cons.mpr ⟨ing 409 rfl rfl, List.forall_mem_cons.mpr ⟨ing 411 rfl rfl, List.forall_mem_cons.mpr ⟨ing 413 rfl rfl, List.forall_mem_cons.mpr ⟨ing 415 rfl rfl, List.forall_mem_cons.mpr ⟨ing 417 rfl rfl, List.forall_mem_cons.mpr ⟨ing 419 rfl rfl, List.forall_mem_cons.mpr ⟨ing 421 rfl rfl, fun _ h => absurd h List.not_mem_nil⟩⟩⟩⟩⟩⟩⟩
set_option maxRecDepth 100000 in
theorem cls_5 : Cls 5 RX3 TX3 7 tyX3 := ⟨cw_5, tyX3_ok, nmX3, by decide +kernel, by decide +kernel⟩
set_option maxRecDepth 100000 in
theorem cw_6 : ∀ w ∈ u_ws RX4 TX4 4, w ∈ gw := List.forall_mem_cons.mpr ⟨ing 370 rfl rfl, List.forall_mem_cons.mpr ⟨ing 372 rfl rfl, List.forall_mem_cons.mpr ⟨ing 374 rfl rfl, List.forall_mem_cons.mpr ⟨ing 376 rfl rfl, fun _ h => absurd h List.not_mem_nil⟩⟩⟩⟩
set_option maxRecDepth 100000 in
theorem cls_6 : Cls 6 RX4 TX4 4 tyX4 := ⟨cw_6, tyX4_ok, nmX4, by decide +kernel, by decide +kernel⟩
set_option maxRecDepth 100000 in
theorem cw_7 : ∀ w ∈ u_ws RX5 TX5 4, w ∈ gw := List.forall_mem_cons.mpr ⟨ing 129 rfl rfl, List.forall_mem_cons.mpr ⟨ing 131 rfl rfl, List.forall_mem_cons.mpr ⟨ing 133 rfl rfl, List.forall_mem_cons.mpr ⟨ing 135 rfl rfl, fun _ h => absurd h List.not_mem_nil⟩⟩⟩⟩
set_option maxRecDepth 100000 in
theorem cls_7 : Cls 7 RX5 TX5 4 tyX5 := ⟨cw_7, tyX5_ok, nmX5, by decide +kernel, by decide +kernel⟩
set_option maxRecDepth 100000 in
theorem cw_8 : ∀ w ∈ u_ws RX6 TX6 9, w ∈ gw := List.forall_mem_cons.mpr ⟨ing 954 rfl rfl, List.forall_mem_cons.mpr ⟨ing 956 rfl rfl, List.forall_mem_cons.mpr ⟨ing 958 rfl rfl, List.forall_mem_cons.mpr ⟨ing 960 rfl rfl, List.forall_mem_cons.mpr ⟨ing 962 rfl rfl, List.forall_mem_cons.mpr ⟨ing 964 rfl rfl, List.forall_mem_cons.mpr ⟨ing 966 rfl rfl, List.forall_mem_cons.mpr ⟨ing 968 rfl rfl, List.forall_mem_cons.mpr ⟨ing 970 rfl rfl, fun _ h => absurd h List.not_mem_nil⟩⟩⟩⟩⟩⟩⟩⟩⟩
set_option maxRecDepth 100000 in
theorem cls_8 : Cls 8 RX6 TX6 9 tyX6 := ⟨cw_8, tyX6_ok, nmX6, by decide +kernel, by decide +kernel⟩
set_option maxRecDepth 100000 in
theorem cw_9 : ∀ w ∈ u_ws RX7 TX7 8, w ∈ gw := List.forall_mem_cons.mpr ⟨ing 153 rfl rfl, List.forall_mem_cons.mpr ⟨ing 155 rfl rfl, List.forall_mem_cons.mpr ⟨ing 157 rfl rfl, List.forall_mem_cons.mpr ⟨ing 159 rfl rfl, List.forall_mem_cons.mpr ⟨ing 161 rfl rfl, List.forall_mem_cons.mpr ⟨ing 163 rfl rfl, List.forall_mem_cons.mpr ⟨ing 165 rfl rfl, List.forall_mem_cons.mpr ⟨ing 167 rfl rfl, fun _ h => absurd h List.not_mem_nil⟩⟩⟩⟩⟩⟩⟩⟩
set_option maxRecDepth 100000 in
theorem cls_9 : Cls 9 RX7 TX7 8 tyX7 := ⟨cw_9, tyX7_ok, nmX7, by decide +kernel, by decide +kernel⟩
set_option maxRecDepth 100000 in
theorem cw_10 : ∀ w ∈ u_ws RX8 TX8 6, w ∈ gw := List.forall_mem_cons.mpr ⟨ing 251 rfl rfl, List.forall_mem_cons.mpr ⟨ing 253 rfl rfl, List.forall_mem_cons.mpr ⟨ing 255 rfl rfl, List.forall_mem_cons.mpr ⟨ing 257 rfl rfl, List.forall_mem_cons.mpr ⟨ing 259 rfl rfl, List.forall_mem_cons.mpr ⟨ing 261 rfl rfl, fun _ h => absurd h List.not_mem_nil⟩⟩⟩⟩⟩⟩
set_option maxRecDepth 100000 in
theorem cls_10 : Cls 10 RX8 TX8 6 tyX8 := ⟨cw_10, tyX8_ok, nmX8, by decide +kernel, by decide +kernel⟩
set_option maxRecDepth 100000 in
theorem cw_11 : ∀ w ∈ u_ws RX9 TX9 6, w ∈ gw := List.forall_mem_cons.mpr ⟨ing 104 rfl rfl, List.forall_mem_cons.mpr ⟨ing 106 rfl rfl, List.forall_mem_cons.mpr ⟨ing 108 rfl rfl, List.forall_mem_cons.mpr ⟨ing 110 rfl rfl, List.forall_mem_cons.mpr ⟨ing 112 rfl rfl, List.forall_mem_cons.mpr ⟨ing 114 rfl rfl, fun _ h => absurd h List.not_mem_nil⟩⟩⟩⟩⟩⟩
set_option maxRecDepth 100000 in
theorem cls_11 : Cls 11 RX9 TX9 6 tyX9 := ⟨cw_11, tyX9_ok, nmX9, by decide +kernel, by decide +kernel⟩
set_option maxRecDepth 100000 in
theorem cw_12 : ∀ w ∈ u_ws RX10 TX10 14, w ∈ gw := List.forall_mem_cons.mpr ⟨ing 185 rfl rfl, List.forall_mem_cons.mpr ⟨ing 187 rfl rfl, List.forall_mem_cons.mpr ⟨ing 189 rfl rfl, List.forall_mem_cons.mpr ⟨ing 191 rfl rfl, List.forall_mem_cons.mpr ⟨ing 193 rfl rfl, List.forall_mem_cons.mpr ⟨ing 195 rfl rfl, List.forall_mem_cons.mpr ⟨ing 197 rfl rfl, List.forall_mem_cons.mpr ⟨ing 199 rfl rfl, List.forall_mem_cons.mpr ⟨ing 201 rfl rfl, List.forall_mem_cons.mpr ⟨ing 203 rfl rfl, List.forall_mem_cons.mpr ⟨ing 205 rfl rfl, List.forall_mem_cons.mpr ⟨ing 207 rfl rfl, List.forall_mem_cons.mpr ⟨ing 209 rfl rfl, List.forall_mem_cons.mpr ⟨ing 211 rfl rfl, fun _ h => absurd h List.not_mem_nil⟩⟩⟩⟩⟩⟩⟩⟩⟩⟩⟩⟩⟩⟩
set_option maxRecDepth 100000 in
theorem cls_12 : Cls 12 RX10 TX10 14 tyX10 := ⟨cw_12, tyX10_ok, nmX10, by decide +kernel, by decide +kernel⟩
set_option maxRecDepth 100000 in
theorem cw_13 : ∀ w ∈ u_ws RX11 TX11 77, w ∈ gw := List.forall_mem_cons.mpr ⟨ing 1198 rfl rfl, List.forall_mem_cons.mpr ⟨ing 1200 rfl rfl, List.forall_mem_cons.mpr ⟨ing 1202 rfl rfl, List.forall_mem_cons.mpr ⟨ing 1204 rfl rfl, List.forall_mem_cons.mpr ⟨ing 1206 rfl rfl, List.forall_mem_cons.mpr ⟨ing 1208 rfl rfl, List.forall_mem_cons.mpr ⟨ing 1210 rfl rfl, List.forall_mem_cons.mpr ⟨ing 1212 rfl rfl, List.forall_mem_cons.mpr ⟨ing 1214 rfl rfl, List.forall_mem_cons.mpr ⟨ing 1216 rfl rfl, List.forall_mem_cons.mpr ⟨ing 1218 rfl rfl, List.forall_mem_cons.mpr ⟨ing 1220 rfl rfl, List.forall_mem_cons.mpr ⟨ing 1222 rfl rfl, List.forall_mem_cons.mpr ⟨ing 1224 rfl rfl, List.forall_mem_cons.mpr ⟨ing 1226 rfl rfl, List.forall_mem_cons.mpr ⟨ing 1228 rfl rfl, List.forall_mem_cons.mpr ⟨ing 1230 rfl rfl, List.forall_mem_cons.mpr ⟨ing 1232 rfl rfl, List.forall_mem_cons.mpr ⟨ing 1234 rfl rfl, List.forall_mem_cons.mpr ⟨ing 1236 rfl rfl, List.forall_mem_cons.mpr ⟨ing 1238 rfl rfl, List.forall_mem_cons.mpr ⟨ing 1240 rfl rfl, List.forall_mem_cons.mpr ⟨ing 1242 rfl rfl, List.forall_mem_cons.mpr ⟨ing 1244 rfl rfl, List.forall_mem_cons.mpr ⟨ing 1246 rfl rfl, List.forall_mem_cons.mpr ⟨ing 1248 rfl rfl, List.forall_mem_cons.mpr ⟨ing 1250 rfl rfl, List.forall_mem_cons.mpr ⟨ing 1252 rfl rfl, List.forall_mem_cons.mpr ⟨ing 1254 rfl rfl, List.forall_mem_cons.mpr ⟨ing 1256 rfl rfl, List.forall_mem_cons.mpr ⟨ing 1258 rfl rfl, List.forall_mem_cons.mpr ⟨ing 1260 rfl rfl, List.forall_mem_cons.mpr ⟨ing 1262 rfl rfl, List.forall_mem_cons.mpr ⟨ing 1264 rfl rfl, List.forall_mem_cons.mpr ⟨ing 1266 rfl rfl, List.forall_mem_cons.mpr ⟨ing 1268 rfl rfl, List.forall_mem_cons.mpr ⟨ing 1270 rfl rfl, List.forall_mem_cons.mpr ⟨ing 1272 rfl rfl, List.forall_mem_cons.mpr ⟨ing 1274 rfl rfl, List.forall_mem_cons.mpr ⟨ing 1276 rfl rfl, List.forall_mem_cons.mpr ⟨ing 1278 rfl rfl, List.forall_mem_cons.mpr ⟨ing 1280 rfl rfl, List.forall_mem_cons.mpr ⟨ing 1282 rfl rfl, List.forall_mem_cons.mpr ⟨ing 1284 rfl rfl, List.forall_mem_cons.mpr ⟨ing 1286 rfl rfl, List.forall_mem_cons.mpr ⟨ing 1288 rfl rfl, List.forall_mem_cons.mpr ⟨ing 1290 rfl rfl, List.forall_mem_cons.mpr ⟨ing 1292 rfl rfl, List.forall_mem_cons.mpr ⟨ing 1294 rfl rfl, List.forall_mem_cons.mpr ⟨ing 1296 rfl rfl, List.forall_mem_cons.mpr ⟨ing 1298 rfl rfl, List.forall_mem_cons.mpr ⟨ing 1300 rfl rfl, List.forall_mem_cons.mpr ⟨ing 1302 rfl rfl, List.forall_mem_cons.mpr ⟨ing 1304 rfl rfl, List.forall_mem_cons.mpr ⟨ing 1306 rfl rfl, List.forall_mem_cons.mpr ⟨ing 1308 rfl rfl, List.forall_mem_cons.mpr ⟨ing 1310 rfl rfl, List.forall_mem_cons.mpr ⟨ing 1312 rfl rfl, List.forall_mem_cons.mpr ⟨ing 1314 rfl rfl, List.forall_mem_cons.mpr ⟨ing 1316 rfl rfl, List.forall_mem_cons.mpr ⟨ing 1318 rfl rfl, List.forall_mem_cons.mpr ⟨ing 1320 rfl rfl, List.forall_mem_cons.mpr ⟨ing 1322 rfl rfl, List.forall_mem_cons.mpr ⟨ing 1324 rfl rfl, List.forall_mem_cons.mpr ⟨ing 1326 rfl rfl, List.forall_mem_cons.mpr ⟨ing 1328 rfl rfl, List.forall_mem_cons.mpr ⟨ing 1330 rfl rfl, List.forall_mem_cons.mpr ⟨ing 1332 rfl rfl, List.forall_mem_cons.mpr ⟨ing 1334 rfl rfl, List.forall_mem_cons.mpr ⟨ing 1336 rfl rfl, List.forall_mem_cons.mpr ⟨ing 1338 rfl rfl, List.forall_mem_cons.mpr ⟨ing 1340 rfl rfl, List.forall_mem_cons.mpr ⟨ing 1342 rfl rfl, List.forall_mem_cons.mpr ⟨ing 1344 rfl rfl, List.forall_mem_cons.mpr ⟨ing 1346 rfl rfl, List.forall_mem_cons.mpr ⟨ing 1348 rfl rfl, List.forall_mem_cons.mpr ⟨ing 1350 rfl rfl, fun _ h => absurd h List.not_mem_nil⟩⟩⟩⟩⟩⟩⟩⟩⟩⟩⟩⟩⟩⟩⟩⟩⟩⟩⟩⟩⟩⟩⟩⟩⟩⟩⟩⟩⟩⟩⟩⟩⟩⟩⟩⟩⟩⟩⟩⟩⟩⟩⟩⟩⟩⟩⟩⟩⟩⟩⟩⟩⟩⟩⟩⟩⟩⟩⟩⟩⟩⟩⟩⟩⟩⟩⟩⟩⟩⟩⟩⟩⟩⟩⟩⟩⟩
set_option maxRecDepth 100000 in
theorem cls_13 : Cls 13 RX11 TX11 77 tyX11 := ⟨cw_13, tyX11_ok, nmX11, by decide +kernel, by decide +kernel⟩
theorem cls {c : Nat} {C : String} {U : u_T} {N : Nat} (h1 : 1 ≤ c) (h2 : c ≤ 13) (h : vwCl[c - 1]? = some (C, U, N)) : ∃ ty, Cls c C U N ty := by
  rcases (show c = 1 ∨ c = 2 ∨ c = 3 ∨ c = 4 ∨ c = 5 ∨ c = 6 ∨ c = 7 ∨ c = 8 ∨ c = 9 ∨ c = 10 ∨ c = 11 ∨ c = 12 ∨ c = 13 by omega) with rfl | rfl | rfl | rfl | rfl | rfl | rfl | rfl | rfl | rfl | rfl | rfl | rfl
  · cases h; exact ⟨_, cls_1⟩
  · cases h; exact ⟨_, cls_2⟩
  · cases h; exact ⟨_, cls_3⟩
  · cases h; exact ⟨_, cls_4⟩
  · cases h; exact ⟨_, cls_5⟩
  · cases h; exact ⟨_, cls_6⟩
  · cases h; exact ⟨_, cls_7⟩
  · cases h; exact ⟨_, cls_8⟩
  · cases h; exact ⟨_, cls_9⟩
  · cases h; exact ⟨_, cls_10⟩
  · cases h; exact ⟨_, cls_11⟩
  · cases h; exact ⟨_, cls_12⟩
  · cases h; exact ⟨_, cls_13⟩
