/-! ===== THE METHODS THAT THE LAW CALLS; ITS HELPERS (printed by wip/gen/law.py) ===== -/
set_option maxRecDepth 100000 in
theorem kc_C_bag : KC 12 81 111 4 := ⟨by decide, ing 851 rfl rfl, ing 852 rfl rfl, ing 853 rfl rfl, rfl, rfl, rfl, by decide, rfl, Or.inl rfl⟩
set_option maxRecDepth 100000 in
theorem kc_C_barred : KC 12 72 72 2 := ⟨by decide, ing 675 rfl rfl, ing 676 rfl rfl, ing 677 rfl rfl, rfl, rfl, rfl, by decide, rfl, Or.inl rfl⟩
set_option maxRecDepth 100000 in
theorem kc_C_boat : KC 12 64 36 8 := ⟨by decide, ing 383 rfl rfl, ing 384 rfl rfl, ing 385 rfl rfl, rfl, rfl, rfl, by decide, rfl, Or.inl rfl⟩
set_option maxRecDepth 100000 in
theorem kc_C_breaks : KC 12 79 102 2 := ⟨by decide, ing 843 rfl rfl, ing 844 rfl rfl, ing 845 rfl rfl, rfl, rfl, rfl, by decide, rfl, Or.inr rfl⟩
set_option maxRecDepth 100000 in
theorem kc_C_count : KC 12 89 150 1 := ⟨by decide, ing 1012 rfl rfl, ing 1013 rfl rfl, ing 1014 rfl rfl, rfl, rfl, rfl, by decide, rfl, Or.inl rfl⟩
set_option maxRecDepth 100000 in
theorem kc_C_drums : KC 12 63 32 2 := ⟨by decide, ing 379 rfl rfl, ing 380 rfl rfl, ing 381 rfl rfl, rfl, rfl, rfl, by decide, rfl, Or.inl rfl⟩
set_option maxRecDepth 100000 in
theorem kc_C_end : KC 12 70 62 1 := ⟨by decide, ing 547 rfl rfl, ing 548 rfl rfl, ing 549 rfl rfl, rfl, rfl, rfl, by decide, rfl, Or.inl rfl⟩
set_option maxRecDepth 100000 in
theorem kc_C_feed : KC 12 69 57 5 := ⟨by decide, ing 539 rfl rfl, ing 540 rfl rfl, ing 541 rfl rfl, rfl, rfl, rfl, by decide, rfl, Or.inl rfl⟩
set_option maxRecDepth 100000 in
theorem kc_C_free : KC 12 90 154 1 := ⟨by decide, ing 1024 rfl rfl, ing 1025 rfl rfl, ing 1026 rfl rfl, rfl, rfl, rfl, by decide, rfl, Or.inl rfl⟩
set_option maxRecDepth 100000 in
theorem kc_C_fuel : KC 12 73 77 2 := ⟨by decide, ing 717 rfl rfl, ing 718 rfl rfl, ing 719 rfl rfl, rfl, rfl, rfl, by decide, rfl, Or.inl rfl⟩
set_option maxRecDepth 100000 in
theorem kc_C_go : KC 12 77 93 1 := ⟨by decide, ing 811 rfl rfl, ing 812 rfl rfl, ing 813 rfl rfl, rfl, rfl, rfl, by decide, rfl, Or.inl rfl⟩
set_option maxRecDepth 100000 in
theorem kc_C_leg : KC 12 62 27 3 := ⟨by decide, ing 330 rfl rfl, ing 331 rfl rfl, ing 332 rfl rfl, rfl, rfl, rfl, by decide, rfl, Or.inl rfl⟩
set_option maxRecDepth 100000 in
theorem kc_C_lift : KC 12 74 81 2 := ⟨by decide, ing 722 rfl rfl, ing 723 rfl rfl, ing 724 rfl rfl, rfl, rfl, rfl, by decide, rfl, Or.inl rfl⟩
set_option maxRecDepth 100000 in
theorem kc_C_load : KC 12 82 116 2 := ⟨by decide, ing 892 rfl rfl, ing 893 rfl rfl, ing 894 rfl rfl, rfl, rfl, rfl, by decide, rfl, Or.inr rfl⟩
set_option maxRecDepth 100000 in
theorem kc_C_point : KC 12 76 89 2 := ⟨by decide, ing 807 rfl rfl, ing 808 rfl rfl, ing 809 rfl rfl, rfl, rfl, rfl, by decide, rfl, Or.inl rfl⟩
set_option maxRecDepth 100000 in
theorem kc_C_raise : KC 12 80 107 1 := ⟨by decide, ing 847 rfl rfl, ing 848 rfl rfl, ing 849 rfl rfl, rfl, rfl, rfl, by decide, rfl, Or.inr rfl⟩
set_option maxRecDepth 100000 in
theorem kc_C_rest : KC 12 78 97 1 := ⟨by decide, ing 835 rfl rfl, ing 836 rfl rfl, ing 837 rfl rfl, rfl, rfl, rfl, by decide, rfl, Or.inr rfl⟩
set_option maxRecDepth 100000 in
theorem kc_C_rules : KC 12 71 67 0 := ⟨by decide, ing 551 rfl rfl, ing 552 rfl rfl, ing 553 rfl rfl, rfl, rfl, rfl, by decide, rfl, Or.inl rfl⟩
set_option maxRecDepth 100000 in
theorem kc_C_run : KC 12 86 137 2 := ⟨by decide, ing 908 rfl rfl, ing 909 rfl rfl, ing 910 rfl rfl, rfl, rfl, rfl, by decide, rfl, Or.inr rfl⟩
set_option maxRecDepth 100000 in
theorem kc_C_stop : KC 12 61 22 3 := ⟨by decide, ing 214 rfl rfl, ing 215 rfl rfl, ing 216 rfl rfl, rfl, rfl, rfl, by decide, rfl, Or.inl rfl⟩
set_option maxRecDepth 100000 in
theorem kc_C_suspects : KC 12 87 141 0 := ⟨by decide, ing 922 rfl rfl, ing 923 rfl rfl, ing 924 rfl rfl, rfl, rfl, rfl, by decide, rfl, Or.inl rfl⟩
set_option maxRecDepth 100000 in
theorem kc_C_swell : KC 12 65 41 3 := ⟨by decide, ing 502 rfl rfl, ing 503 rfl rfl, ing 504 rfl rfl, rfl, rfl, rfl, by decide, rfl, Or.inl rfl⟩
set_option maxRecDepth 100000 in
theorem kc_C_swellOf : KC 12 67 49 3 := ⟨by decide, ing 519 rfl rfl, ing 520 rfl rfl, ing 521 rfl rfl, rfl, rfl, rfl, by decide, rfl, Or.inl rfl⟩
set_option maxRecDepth 100000 in
theorem kc_C_turn : KC 12 75 85 1 := ⟨by decide, ing 791 rfl rfl, ing 792 rfl rfl, ing 793 rfl rfl, rfl, rfl, rfl, by decide, rfl, Or.inl rfl⟩
set_option maxRecDepth 100000 in
theorem kc_C_unload : KC 12 83 121 1 := ⟨by decide, ing 900 rfl rfl, ing 901 rfl rfl, ing 902 rfl rfl, rfl, rfl, rfl, by decide, rfl, Or.inr rfl⟩
set_option maxRecDepth 100000 in
theorem kc_C_way : KC 12 88 145 6 := ⟨by decide, ing 930 rfl rfl, ing 931 rfl rfl, ing 932 rfl rfl, rfl, rfl, rfl, by decide, rfl, Or.inl rfl⟩
set_option maxRecDepth 100000 in
theorem kc_C_wind : KC 12 66 45 3 := ⟨by decide, ing 511 rfl rfl, ing 512 rfl rfl, ing 513 rfl rfl, rfl, rfl, rfl, by decide, rfl, Or.inl rfl⟩
set_option maxRecDepth 100000 in
theorem kc_C_windOf : KC 12 68 53 3 := ⟨by decide, ing 531 rfl rfl, ing 532 rfl rfl, ing 533 rfl rfl, rfl, rfl, rfl, by decide, rfl, Or.inl rfl⟩
set_option maxRecDepth 100000 in
theorem kc_M_bag : KC 13 172 115 4 := ⟨by decide, ing 1600 rfl rfl, ing 1601 rfl rfl, ing 1602 rfl rfl, rfl, rfl, rfl, by decide, rfl, Or.inl rfl⟩
set_option maxRecDepth 100000 in
theorem kc_M_barred : KC 13 157 76 2 := ⟨by decide, ing 1492 rfl rfl, ing 1493 rfl rfl, ing 1494 rfl rfl, rfl, rfl, rfl, by decide, rfl, Or.inl rfl⟩
set_option maxRecDepth 100000 in
theorem kc_M_boat : KC 13 135 40 8 := ⟨by decide, ing 1420 rfl rfl, ing 1421 rfl rfl, ing 1422 rfl rfl, rfl, rfl, rfl, by decide, rfl, Or.inl rfl⟩
set_option maxRecDepth 100000 in
theorem kc_M_breaks : KC 13 170 106 2 := ⟨by decide, ing 1592 rfl rfl, ing 1593 rfl rfl, ing 1594 rfl rfl, rfl, rfl, rfl, by decide, rfl, Or.inr rfl⟩
set_option maxRecDepth 100000 in
theorem kc_M_count : KC 13 184 153 1 := ⟨by decide, ing 1649 rfl rfl, ing 1650 rfl rfl, ing 1651 rfl rfl, rfl, rfl, rfl, by decide, rfl, Or.inl rfl⟩
set_option maxRecDepth 100000 in
theorem kc_M_drums : KC 13 122 35 2 := ⟨by decide, ing 1372 rfl rfl, ing 1373 rfl rfl, ing 1374 rfl rfl, rfl, rfl, rfl, by decide, rfl, Or.inl rfl⟩
set_option maxRecDepth 100000 in
theorem kc_M_end : KC 13 143 66 1 := ⟨by decide, ing 1434 rfl rfl, ing 1435 rfl rfl, ing 1436 rfl rfl, rfl, rfl, rfl, by decide, rfl, Or.inl rfl⟩
set_option maxRecDepth 100000 in
theorem kc_M_feed : KC 13 142 61 5 := ⟨by decide, ing 1426 rfl rfl, ing 1427 rfl rfl, ing 1428 rfl rfl, rfl, rfl, rfl, by decide, rfl, Or.inl rfl⟩
set_option maxRecDepth 100000 in
theorem kc_M_free : KC 13 134 157 1 := ⟨by decide, ing 1412 rfl rfl, ing 1413 rfl rfl, ing 1414 rfl rfl, rfl, rfl, rfl, by decide, rfl, Or.inl rfl⟩
set_option maxRecDepth 100000 in
theorem kc_M_fuel : KC 13 158 80 2 := ⟨by decide, ing 1524 rfl rfl, ing 1525 rfl rfl, ing 1526 rfl rfl, rfl, rfl, rfl, by decide, rfl, Or.inl rfl⟩
set_option maxRecDepth 100000 in
theorem kc_M_go : KC 13 168 96 1 := ⟨by decide, ing 1567 rfl rfl, ing 1568 rfl rfl, ing 1569 rfl rfl, rfl, rfl, rfl, by decide, rfl, Or.inl rfl⟩
set_option maxRecDepth 100000 in
theorem kc_M_leg : KC 13 121 31 3 := ⟨by decide, ing 1364 rfl rfl, ing 1365 rfl rfl, ing 1366 rfl rfl, rfl, rfl, rfl, by decide, rfl, Or.inl rfl⟩
set_option maxRecDepth 100000 in
theorem kc_M_lift : KC 13 162 84 2 := ⟨by decide, ing 1528 rfl rfl, ing 1529 rfl rfl, ing 1530 rfl rfl, rfl, rfl, rfl, by decide, rfl, Or.inl rfl⟩
set_option maxRecDepth 100000 in
theorem kc_M_load : KC 13 174 120 2 := ⟨by decide, ing 1604 rfl rfl, ing 1605 rfl rfl, ing 1606 rfl rfl, rfl, rfl, rfl, by decide, rfl, Or.inr rfl⟩
set_option maxRecDepth 100000 in
theorem kc_M_mail : KC 13 176 130 2 := ⟨by decide, ing 1616 rfl rfl, ing 1617 rfl rfl, ing 1618 rfl rfl, rfl, rfl, rfl, by decide, rfl, Or.inl rfl⟩
set_option maxRecDepth 100000 in
theorem kc_M_of : KC 13 177 136 2 := ⟨by decide, ing 1620 rfl rfl, ing 1621 rfl rfl, ing 1622 rfl rfl, rfl, rfl, rfl, by decide, rfl, Or.inl rfl⟩
set_option maxRecDepth 100000 in
theorem kc_M_point : KC 13 164 92 2 := ⟨by decide, ing 1563 rfl rfl, ing 1564 rfl rfl, ing 1565 rfl rfl, rfl, rfl, rfl, by decide, rfl, Or.inl rfl⟩
set_option maxRecDepth 100000 in
theorem kc_M_raise : KC 13 171 110 1 := ⟨by decide, ing 1596 rfl rfl, ing 1597 rfl rfl, ing 1598 rfl rfl, rfl, rfl, rfl, by decide, rfl, Or.inr rfl⟩
set_option maxRecDepth 100000 in
theorem kc_M_rest : KC 13 169 101 1 := ⟨by decide, ing 1588 rfl rfl, ing 1589 rfl rfl, ing 1590 rfl rfl, rfl, rfl, rfl, by decide, rfl, Or.inr rfl⟩
set_option maxRecDepth 100000 in
theorem kc_M_rules : KC 13 153 71 0 := ⟨by decide, ing 1438 rfl rfl, ing 1439 rfl rfl, ing 1440 rfl rfl, rfl, rfl, rfl, by decide, rfl, Or.inl rfl⟩
set_option maxRecDepth 100000 in
theorem kc_M_run : KC 13 179 140 2 := ⟨by decide, ing 1624 rfl rfl, ing 1625 rfl rfl, ing 1626 rfl rfl, rfl, rfl, rfl, by decide, rfl, Or.inr rfl⟩
set_option maxRecDepth 100000 in
theorem kc_M_stop : KC 13 120 26 3 := ⟨by decide, ing 1357 rfl rfl, ing 1358 rfl rfl, ing 1359 rfl rfl, rfl, rfl, rfl, by decide, rfl, Or.inl rfl⟩
set_option maxRecDepth 100000 in
theorem kc_M_suspects : KC 13 180 144 0 := ⟨by decide, ing 1633 rfl rfl, ing 1634 rfl rfl, ing 1635 rfl rfl, rfl, rfl, rfl, by decide, rfl, Or.inl rfl⟩
set_option maxRecDepth 100000 in
theorem kc_M_swell : KC 13 124 44 3 := ⟨by decide, ing 1376 rfl rfl, ing 1377 rfl rfl, ing 1378 rfl rfl, rfl, rfl, rfl, by decide, rfl, Or.inl rfl⟩
set_option maxRecDepth 100000 in
theorem kc_M_swellOf : KC 13 129 52 3 := ⟨by decide, ing 1392 rfl rfl, ing 1393 rfl rfl, ing 1394 rfl rfl, rfl, rfl, rfl, by decide, rfl, Or.inl rfl⟩
set_option maxRecDepth 100000 in
theorem kc_M_thrown : KC 13 114 131 0 := ⟨by decide, ing 1353 rfl rfl, ing 1354 rfl rfl, ing 1355 rfl rfl, rfl, rfl, rfl, by decide, rfl, Or.inl rfl⟩
set_option maxRecDepth 100000 in
theorem kc_M_turn : KC 13 163 88 1 := ⟨by decide, ing 1559 rfl rfl, ing 1560 rfl rfl, ing 1561 rfl rfl, rfl, rfl, rfl, by decide, rfl, Or.inl rfl⟩
set_option maxRecDepth 100000 in
theorem kc_M_unload : KC 13 175 124 1 := ⟨by decide, ing 1612 rfl rfl, ing 1613 rfl rfl, ing 1614 rfl rfl, rfl, rfl, rfl, by decide, rfl, Or.inr rfl⟩
set_option maxRecDepth 100000 in
theorem kc_M_way : KC 13 183 149 6 := ⟨by decide, ing 1637 rfl rfl, ing 1638 rfl rfl, ing 1639 rfl rfl, rfl, rfl, rfl, by decide, rfl, Or.inl rfl⟩
set_option maxRecDepth 100000 in
theorem kc_M_wind : KC 13 125 48 3 := ⟨by decide, ing 1384 rfl rfl, ing 1385 rfl rfl, ing 1386 rfl rfl, rfl, rfl, rfl, by decide, rfl, Or.inl rfl⟩
set_option maxRecDepth 100000 in
theorem kc_M_windOf : KC 13 130 56 3 := ⟨by decide, ing 1404 rfl rfl, ing 1405 rfl rfl, ing 1406 rfl rfl, rfl, rfl, rfl, by decide, rfl, Or.inl rfl⟩
theorem dh_mail_0 : decode method_3_code 0 = .ok (.aload_n 3, 1) := by decide +kernel
theorem dh_mail_1 : decode method_3_code 1 = .ok (.iconst 0, 1) := by decide +kernel
theorem dh_mail_2 : decode method_3_code 2 = .ok (.aload_n 0, 1) := by decide +kernel
theorem dh_mail_3 : decode method_3_code 3 = .ok (.iload_n 1, 1) := by decide +kernel
theorem dh_mail_4 : decode method_3_code 4 = .ok (.iload_n 2, 1) := by decide +kernel
theorem dh_mail_5 : decode method_3_code 5 = .ok (.invokevirtual 7, 3) := by decide +kernel
theorem dh_mail_8 : decode method_3_code 8 = .ok (.i2l, 1) := by decide +kernel
theorem dh_mail_9 : decode method_3_code 9 = .ok (.lastore, 1) := by decide +kernel
theorem dh_mail_10 : decode method_3_code 10 = .ok (.goto 7, 3) := by decide +kernel
theorem dh_mail_13 : decode method_3_code 13 = .ok (.astore 4, 2) := by decide +kernel
theorem dh_mail_15 : decode method_3_code 15 = .ok (.iconst 1, 1) := by decide +kernel
theorem dh_mail_16 : decode method_3_code 16 = .ok (.ireturn, 1) := by decide +kernel
theorem dh_mail_17 : decode method_3_code 17 = .ok (.iconst 0, 1) := by decide +kernel
theorem dh_mail_18 : decode method_3_code 18 = .ok (.ireturn, 1) := by decide +kernel
set_option maxRecDepth 100000 in
theorem hh_mail : Cond.methodLink "HullLineLaw" 7 (myn 84) ∈ gw ∧ Cond.instanceMethod (myn 84) ∈ gw ∧ Cond.selects (myn 84).cls (myn 84) (myn 84) ∈ gw ∧ Cond.methodLink "HullLineLaw" 125 ⟨"HullLineLaw", "mail", "(LHullLine;II[J)I"⟩ ∈ gw ∧ Cond.static ⟨"HullLineLaw", "mail", "(LHullLine;II[J)I"⟩ ∈ gw ∧ Cond.codeWith ⟨"HullLineLaw", "mail", "(LHullLine;II[J)I"⟩ method_3_code 5 (some .int) [(0, 10, 13, 13)] ∈ gw ∧ Cond.initialized "HullLineLaw" ∈ gw := ⟨ing 1032 rfl rfl, ing 1033 rfl rfl, ing 1034 rfl rfl, ing 1028 rfl rfl, ing 1029 rfl rfl, ing 1030 rfl rfl, ing 0 rfl rfl⟩
theorem dh_of_0 : decode method_4_code 0 = .ok (.aload_n 3, 1) := by decide +kernel
theorem dh_of_1 : decode method_4_code 1 = .ok (.iconst 0, 1) := by decide +kernel
theorem dh_of_2 : decode method_4_code 2 = .ok (.aload_n 0, 1) := by decide +kernel
theorem dh_of_3 : decode method_4_code 3 = .ok (.iload_n 1, 1) := by decide +kernel
theorem dh_of_4 : decode method_4_code 4 = .ok (.iload_n 2, 1) := by decide +kernel
theorem dh_of_5 : decode method_4_code 5 = .ok (.invokevirtual 15, 3) := by decide +kernel
theorem dh_of_8 : decode method_4_code 8 = .ok (.i2l, 1) := by decide +kernel
theorem dh_of_9 : decode method_4_code 9 = .ok (.lastore, 1) := by decide +kernel
theorem dh_of_10 : decode method_4_code 10 = .ok (.goto 7, 3) := by decide +kernel
theorem dh_of_13 : decode method_4_code 13 = .ok (.astore 4, 2) := by decide +kernel
theorem dh_of_15 : decode method_4_code 15 = .ok (.iconst 1, 1) := by decide +kernel
theorem dh_of_16 : decode method_4_code 16 = .ok (.ireturn, 1) := by decide +kernel
theorem dh_of_17 : decode method_4_code 17 = .ok (.iconst 0, 1) := by decide +kernel
theorem dh_of_18 : decode method_4_code 18 = .ok (.ireturn, 1) := by decide +kernel
set_option maxRecDepth 100000 in
theorem hh_of : Cond.methodLink "HullLineLaw" 15 (myn 85) ∈ gw ∧ Cond.instanceMethod (myn 85) ∈ gw ∧ Cond.selects (myn 85).cls (myn 85) (myn 85) ∈ gw ∧ Cond.methodLink "HullLineLaw" 134 ⟨"HullLineLaw", "of", "(LHullLine;II[J)I"⟩ ∈ gw ∧ Cond.static ⟨"HullLineLaw", "of", "(LHullLine;II[J)I"⟩ ∈ gw ∧ Cond.codeWith ⟨"HullLineLaw", "of", "(LHullLine;II[J)I"⟩ method_4_code 5 (some .int) [(0, 10, 13, 13)] ∈ gw ∧ Cond.initialized "HullLineLaw" ∈ gw := ⟨ing 1109 rfl rfl, ing 1110 rfl rfl, ing 1111 rfl rfl, ing 1106 rfl rfl, ing 1107 rfl rfl, ing 1108 rfl rfl, ing 0 rfl rfl⟩
