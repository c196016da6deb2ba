/-! ===== WHICH WORDS EACH NAME RESTS ON (printed by wip/gen/links.py) ===== -/
def gw : List Cond := lw_tbl.filter goodWord
theorem ing {w : Cond} (i : Nat) (h : tables_1[i]? = some w) (hg : goodWord w = true) : w ∈ gw := List.mem_filter.mpr ⟨List.mem_append_right _ (List.mem_of_getElem? h), hg⟩
theorem ings {w : Cond} (i : Nat) (h : (k2_sels lw_privs)[i]? = some w) (hg : goodWord w = true) : w ∈ gw := List.mem_filter.mpr ⟨List.mem_append_left _ (List.mem_of_getElem? h), hg⟩
def mth : List (MethodName × ByteArray × Option FieldType × Nat) := [(yX0_init, cX0_init, none, 0), (yX0_isOnLand, cX0_isOnLand, (some FieldType.boolean), 0), (yX1_init, cX1_init, none, 1), (yX1_weight, cX1_weight, (some FieldType.int), 1), (yX1_isResting, cX1_isResting, (some FieldType.boolean), 1), (yX1_carries, cX1_carries, (some FieldType.boolean), 1), (yX1_leave, cX1_leave, none, 1), (yX1_mayTurn, cX1_mayTurn, (some FieldType.boolean), 1), (yX1_turnBack, cX1_turnBack, none, 1), (yX2_init, cX2_init, none, 2), (yX2_tell, cX2_tell, (some FieldType.int), 2), (yX2_swellAt, cX2_swellAt, (some FieldType.int), 2), (yX2_windFrom, cX2_windFrom, (some FieldType.int), 2), (yX2_known, cX2_known, (some FieldType.int), 2), (yX3_init, cX3_init, none, 3), (yX3_isAsTold, cX3_isAsTold, (some FieldType.boolean), 3), (yX3_ground, cX3_ground, (some FieldType.int), 3), (yX3_burnt, cX3_burnt, (some FieldType.int), 3), (yX3_liftsFrom, cX3_liftsFrom, (some FieldType.int), 3), (yX4_init, cX4_init, none, 4), (yX4_touches, cX4_touches, (some FieldType.boolean), 4), (yX4_otherEnd, cX4_otherEnd, (some (FieldType.object "HullLine$Stop")), 4), (yX4_minutesAt, cX4_minutesAt, (some FieldType.int), 4), (yX5_init, cX5_init, none, 5), (yX5_note, cX5_note, none, 5), (yX5_find, cX5_find, (some FieldType.boolean), 5), (yX5_suspectBags, cX5_suspectBags, (some FieldType.int), 5), (yX5_isExcess, cX5_isExcess, (some FieldType.boolean), 5), (yX6_init, cX6_init, none, 6), (yX6_answers, cX6_answers, (some FieldType.boolean), 6), (yX6_answer, cX6_answer, (some FieldType.int), 6), (yX6_plan, cX6_plan, none, 6), (yX6_search, cX6_search, none, 6), (yX6_departure, cX6_departure, (some FieldType.int), 6), (yX6_minutesFrom, cX6_minutesFrom, (some FieldType.int), 6), (yX6_keepIfEarlier, cX6_keepIfEarlier, none, 6), (yX7_init, cX7_init, none, 7), (yX7_read, cX7_read, (some FieldType.int), 7), (yX7_readHead, cX7_readHead, (some FieldType.int), 7), (yX7_readClose, cX7_readClose, (some FieldType.int), 7), (yX7_readTerms, cX7_readTerms, (some FieldType.int), 7), (yX7_readTerm, cX7_readTerm, (some FieldType.int), 7), (yX7_wordOf, cX7_wordOf, (some FieldType.int), 7), (yX7_firstBroken, cX7_firstBroken, (some FieldType.int), 7), (yX7_isSo, cX7_isSo, (some FieldType.boolean), 7), (yX7_compares, cX7_compares, (some FieldType.boolean), 7), (yX8_init, cX8_init, none, 8), (yX8_freeBuoys, cX8_freeBuoys, (some FieldType.int), 8), (yX9_init, cX9_init, none, 9), (yX9_append, cX9_append, none, 9), (yX9_rewind, cX9_rewind, none, 9), (yX9_readToken, cX9_readToken, none, 9), (yX9_readWord, cX9_readWord, none, 9), (yX9_readNumber, cX9_readNumber, none, 9), (yX9_isWord, cX9_isWord, (some FieldType.boolean), 9), (yX9_sign, cX9_sign, (some FieldType.int), 9), (yX9_byteAt, cX9_byteAt, (some FieldType.int), 9), (yX9_isBlank, cX9_isBlank, (some FieldType.boolean), 9), (yX9_isLetter, cX9_isLetter, (some FieldType.boolean), 9), (yX9_isDigit, cX9_isDigit, (some FieldType.boolean), 9), (yX10_init, cX10_init, none, 10), (yX10_stop, cX10_stop, (some FieldType.int), 10), (yX10_leg, cX10_leg, (some FieldType.int), 10), (yX10_drums, cX10_drums, (some FieldType.int), 10), (yX10_boat, cX10_boat, (some FieldType.int), 10), (yX10_swell, cX10_swell, (some FieldType.int), 10), (yX10_wind, cX10_wind, (some FieldType.int), 10), (yX10_swellOf, cX10_swellOf, (some FieldType.int), 10), (yX10_windOf, cX10_windOf, (some FieldType.int), 10), (yX10_feed, cX10_feed, (some FieldType.int), 10), (yX10_end, cX10_end, (some FieldType.int), 10), (yX10_rules, cX10_rules, (some FieldType.int), 10), (yX10_barred, cX10_barred, (some FieldType.int), 10), (yX10_fuel, cX10_fuel, (some FieldType.int), 10), (yX10_lift, cX10_lift, (some FieldType.int), 10), (yX10_turn, cX10_turn, (some FieldType.int), 10), (yX10_point, cX10_point, (some FieldType.int), 10), (yX10_go, cX10_go, (some FieldType.int), 10), (yX10_rest, cX10_rest, (some FieldType.boolean), 10), (yX10_breaks, cX10_breaks, (some FieldType.boolean), 10), (yX10_raise, cX10_raise, (some FieldType.boolean), 10), (yX10_bag, cX10_bag, (some FieldType.int), 10), (yX10_load, cX10_load, (some FieldType.boolean), 10), (yX10_unload, cX10_unload, (some FieldType.boolean), 10), (yX10_mail, cX10_mail, (some FieldType.int), 10), (yX10_of, cX10_of, (some FieldType.int), 10), (yX10_run, cX10_run, (some FieldType.boolean), 10), (yX10_suspects, cX10_suspects, (some FieldType.int), 10), (yX10_way, cX10_way, (some FieldType.int), 10), (yX10_count, cX10_count, (some FieldType.int), 10), (yX10_free, cX10_free, (some FieldType.int), 10), (yX10_stopAt, cX10_stopAt, (some (FieldType.object "HullLine$Stop")), 10), (yX10_legAt, cX10_legAt, (some (FieldType.object "HullLine$Leg")), 10), (yX10_boatAt, cX10_boatAt, (some (FieldType.object "HullLine$Boat")), 10), (yX10_bagAt, cX10_bagAt, (some (FieldType.object "HullLine$Bag")), 10), (yX10_mooredBoat, cX10_mooredBoat, (some (FieldType.object "HullLine$Boat")), 10), (yX10_swellNow, cX10_swellNow, (some FieldType.int), 10), (yX10_windNow, cX10_windNow, (some FieldType.int), 10), (yX10_firstBroken, cX10_firstBroken, (some FieldType.int), 10), (yX10_refusalOf, cX10_refusalOf, (some FieldType.int), 10), (yX10_headsResting, cX10_headsResting, (some FieldType.int), 10), (yX10_gallonsInTanks, cX10_gallonsInTanks, (some FieldType.int), 10), (yX10_drumsInAll, cX10_drumsInAll, (some FieldType.int), 10), (yX10_passMinute, cX10_passMinute, none, 10), (yX10_mayLand, cX10_mayLand, (some FieldType.boolean), 10), (yX10_land, cX10_land, none, 10), (yX10_sink, cX10_sink, none, 10), (yX10_charge, cX10_charge, none, 10), (yX10_putAshore, cX10_putAshore, none, 10), (yX10_within, cX10_within, (some FieldType.boolean), 10), (yX10_dividedUp, cX10_dividedUp, (some FieldType.int), 10), (yX10_minutesBack, cX10_minutesBack, (some FieldType.int), 10), (yX10_isNight, cX10_isNight, (some FieldType.boolean), 10), (yX11_init, cX11_init, none, 11), (yX11_thrown, cX11_thrown, (some FieldType.int), 11), (yX11_in, cX11_in, (some FieldType.boolean), 11), (yX11_up, cX11_up, (some FieldType.int), 11), (yX11_isNight, cX11_isNight, (some FieldType.boolean), 11), (yX11_isStop, cX11_isStop, (some FieldType.boolean), 11), (yX11_isLeg, cX11_isLeg, (some FieldType.boolean), 11), (yX11_stop, cX11_stop, (some FieldType.int), 11), (yX11_leg, cX11_leg, (some FieldType.int), 11), (yX11_drums, cX11_drums, (some FieldType.int), 11), (yX11_tells, cX11_tells, (some FieldType.int), 11), (yX11_swell, cX11_swell, (some FieldType.int), 11), (yX11_wind, cX11_wind, (some FieldType.int), 11), (yX11_asKnown, cX11_asKnown, (some FieldType.int), 11), (yX11_swellAt, cX11_swellAt, (some FieldType.int), 11), (yX11_windAt, cX11_windAt, (some FieldType.int), 11), (yX11_swellOf, cX11_swellOf, (some FieldType.int), 11), (yX11_windOf, cX11_windOf, (some FieldType.int), 11), (yX11_isBoat, cX11_isBoat, (some FieldType.boolean), 11), (yX11_isMoored, cX11_isMoored, (some FieldType.boolean), 11), (yX11_freeAt, cX11_freeAt, (some FieldType.int), 11), (yX11_free, cX11_free, (some FieldType.int), 11), (yX11_boat, cX11_boat, (some FieldType.int), 11), (yX11_pounds, cX11_pounds, (some FieldType.int), 11), (yX11_weight, cX11_weight, (some FieldType.int), 11), (yX11_liftsFrom, cX11_liftsFrom, (some FieldType.int), 11), (yX11_going, cX11_going, (some FieldType.int), 11), (yX11_burns, cX11_burns, (some FieldType.int), 11), (yX11_four, cX11_four, none, 11), (yX11_feed, cX11_feed, (some FieldType.int), 11), (yX11_end, cX11_end, (some FieldType.int), 11), (yX11_byteAt, cX11_byteAt, (some FieldType.int), 11), (yX11_isThis, cX11_isThis, (some FieldType.boolean), 11), (yX11_wordHere, cX11_wordHere, (some FieldType.int), 11), (yX11_next, cX11_next, none, 11), (yX11_blames, cX11_blames, none, 11), (yX11_takes, cX11_takes, (some FieldType.int), 11), (yX11_numeral, cX11_numeral, (some FieldType.int), 11), (yX11_readTerm, cX11_readTerm, none, 11), (yX11_readLine, cX11_readLine, none, 11), (yX11_rules, cX11_rules, (some FieldType.int), 11), (yX11_seen, cX11_seen, (some FieldType.int), 11), (yX11_isSo, cX11_isSo, (some FieldType.boolean), 11), (yX11_firstNotSo, cX11_firstNotSo, (some FieldType.int), 11), (yX11_barred, cX11_barred, (some FieldType.int), 11), (yX11_fuel, cX11_fuel, (some FieldType.int), 11), (yX11_refused, cX11_refused, (some FieldType.int), 11), (yX11_isAtEnd, cX11_isAtEnd, (some FieldType.boolean), 11), (yX11_loses, cX11_loses, none, 11), (yX11_lift, cX11_lift, (some FieldType.int), 11), (yX11_turn, cX11_turn, (some FieldType.int), 11), (yX11_point, cX11_point, (some FieldType.int), 11), (yX11_canLand, cX11_canLand, (some FieldType.boolean), 11), (yX11_sinks, cX11_sinks, none, 11), (yX11_flies, cX11_flies, none, 11), (yX11_go, cX11_go, (some FieldType.int), 11), (yX11_rest, cX11_rest, (some FieldType.boolean), 11), (yX11_breaks, cX11_breaks, (some FieldType.boolean), 11), (yX11_raise, cX11_raise, (some FieldType.boolean), 11), (yX11_bag, cX11_bag, (some FieldType.int), 11), (yX11_isBag, cX11_isBag, (some FieldType.boolean), 11), (yX11_load, cX11_load, (some FieldType.boolean), 11), (yX11_unload, cX11_unload, (some FieldType.boolean), 11), (yX11_mail, cX11_mail, (some FieldType.int), 11), (yX11_of, cX11_of, (some FieldType.int), 11), (yX11_isExcess, cX11_isExcess, (some FieldType.boolean), 11), (yX11_run, cX11_run, (some FieldType.boolean), 11), (yX11_suspects, cX11_suspects, (some FieldType.int), 11), (yX11_leaves, cX11_leaves, (some FieldType.int), 11), (yX11_goesOn, cX11_goesOn, none, 11), (yX11_way, cX11_way, (some FieldType.int), 11), (yX11_count, cX11_count, (some FieldType.int), 11), (yJ6_bitCount_0f7a4, cJ6_bitCount_0f7a4, (some FieldType.int), 12), (yJxa1e45_init_da8c8, cJxa1e45_init_da8c8, none, 13), (yJxc12de_init_da8c8, cJxc12de_init_da8c8, none, 14), (yJx4a65c_init_da8c8, cJx4a65c_init_da8c8, none, 15), (yJx4a65c_size_8abf5, cJx4a65c_size_8abf5, (some FieldType.int), 15), (yJx4a65c_elementData_915e3, cJx4a65c_elementData_915e3, (some (FieldType.object "java/lang/Object")), 15), (yJx4a65c_get_915e3, cJx4a65c_get_915e3, (some (FieldType.object "java/lang/Object")), 15), (yJx4a65c_add_72be8, cJx4a65c_add_72be8, none, 15), (yJx4a65c_add_9ea2d, cJx4a65c_add_9ea2d, (some FieldType.boolean), 15), (yJ15_checkIndex_7cf53, cJ15_checkIndex_7cf53, (some FieldType.int), 16), (yJ3_checkIndex_8e157, cJ3_checkIndex_8e157, (some FieldType.int), 17)]
def ow : List String := ["HullLine$Bag", "HullLine$Boat", "HullLine$Facts", "HullLine$Hull", "HullLine$Leg", "HullLine$LiftLog", "HullLine$Planner", "HullLine$Rules", "HullLine$Stop", "HullLine$Tape", "HullLine", "HullLineModel", "java/lang/Integer", "java/util/AbstractCollection", "java/util/AbstractList", "java/util/ArrayList", "java/util/Objects", "jdk/internal/util/Preconditions"]
def mdf : MethodName × ByteArray × Option FieldType × Nat := (⟨"", "", ""⟩, ⟨#[]⟩, none, 0)
def myn (m : Nat) : MethodName := (mth.getD m mdf).1
def mby (m : Nat) : ByteArray := (mth.getD m mdf).2.1
def mre (m : Nat) : Option FieldType := (mth.getD m mdf).2.2.1
def mow (m : Nat) : Nat := (mth.getD m mdf).2.2.2
def own (n : Nat) : String := ow.getD n ""
/-- a method's number of parameters without the receiver -/
def mpn (m : Nat) : Nat := match mrk m with
  | 0 => mna m
  | _ => mna m - 1
def mretOk (t : Nat) (r : Option FieldType) : Bool := match t, r with
  | 0, none => true
  | 1, some .int => true
  | 6, some .int => true
  | 2, some .boolean => true
  | 4, some (.object _) => true
  | 4, some (.array _) => true
  | _, _ => false
/-- what holds of a method by itself -/
def Mok (m : Nat) : Prop := Cond.code (myn m) (mby m) (mml m) (mre m) ∈ gw ∧ Cond.initialized (myn m).cls ∈ gw ∧ (plainName (myn m).cls = true ∧ own (mow m) = (myn m).cls) ∧ ((myn m).cls ≠ "java/lang/invoke/MethodHandle" ∧ (myn m).cls ≠ "java/lang/invoke/VarHandle" ∧ (parseMethodDescriptor (myn m).desc).map (fun d => d.parameters.length) = some (mpn m)) ∧ (mml m ≤ 45 ∧ mna m ≤ mml m ∧ (mrk m = 0 ∨ 1 ≤ mna m) ∧ mrk m ≤ 13) ∧ mretOk (mrt m) (mre m) = true
set_option maxRecDepth 100000 in
theorem mo_0 : Mok 0 := ⟨ing 858 rfl rfl, ing 24 rfl rfl, by decide +kernel, by decide +kernel, by decide +kernel, by decide +kernel⟩
set_option maxRecDepth 100000 in
theorem mo_1 : Mok 1 := ⟨ing 1104 rfl rfl, ing 24 rfl rfl, by decide +kernel, by decide +kernel, by decide +kernel, by decide +kernel⟩
set_option maxRecDepth 100000 in
theorem mo_2 : Mok 2 := ⟨ing 435 rfl rfl, ing 19 rfl rfl, by decide +kernel, by decide +kernel, by decide +kernel, by decide +kernel⟩
set_option maxRecDepth 100000 in
theorem mo_3 : Mok 3 := ⟨ing 698 rfl rfl, ing 19 rfl rfl, by decide +kernel, by decide +kernel, by decide +kernel, by decide +kernel⟩
set_option maxRecDepth 100000 in
theorem mo_4 : Mok 4 := ⟨ing 765 rfl rfl, ing 19 rfl rfl, by decide +kernel, by decide +kernel, by decide +kernel, by decide +kernel⟩
set_option maxRecDepth 100000 in
theorem mo_5 : Mok 5 := ⟨ing 778 rfl rfl, ing 19 rfl rfl, by decide +kernel, by decide +kernel, by decide +kernel, by decide +kernel⟩
set_option maxRecDepth 100000 in
theorem mo_6 : Mok 6 := ⟨ing 784 rfl rfl, ing 19 rfl rfl, by decide +kernel, by decide +kernel, by decide +kernel, by decide +kernel⟩
set_option maxRecDepth 100000 in
theorem mo_7 : Mok 7 := ⟨ing 798 rfl rfl, ing 19 rfl rfl, by decide +kernel, by decide +kernel, by decide +kernel, by decide +kernel⟩
set_option maxRecDepth 100000 in
theorem mo_8 : Mok 8 := ⟨ing 806 rfl rfl, ing 19 rfl rfl, by decide +kernel, by decide +kernel, by decide +kernel, by decide +kernel⟩
set_option maxRecDepth 100000 in
theorem mo_9 : Mok 9 := ⟨ing 68 rfl rfl, ing 5 rfl rfl, by decide +kernel, by decide +kernel, by decide +kernel, by decide +kernel⟩
set_option maxRecDepth 100000 in
theorem mo_10 : Mok 10 := ⟨ing 509 rfl rfl, ing 5 rfl rfl, by decide +kernel, by decide +kernel, by decide +kernel, by decide +kernel⟩
set_option maxRecDepth 100000 in
theorem mo_11 : Mok 11 := ⟨ing 526 rfl rfl, ing 5 rfl rfl, by decide +kernel, by decide +kernel, by decide +kernel, by decide +kernel⟩
set_option maxRecDepth 100000 in
theorem mo_12 : Mok 12 := ⟨ing 538 rfl rfl, ing 5 rfl rfl, by decide +kernel, by decide +kernel, by decide +kernel, by decide +kernel⟩
set_option maxRecDepth 100000 in
theorem mo_13 : Mok 13 := ⟨ing 530 rfl rfl, ing 5 rfl rfl, by decide +kernel, by decide +kernel, by decide +kernel, by decide +kernel⟩
set_option maxRecDepth 100000 in
theorem mo_14 : Mok 14 := ⟨ing 395 rfl rfl, ing 18 rfl rfl, by decide +kernel, by decide +kernel, by decide +kernel, by decide +kernel⟩
set_option maxRecDepth 100000 in
theorem mo_15 : Mok 15 := ⟨ing 427 rfl rfl, ing 18 rfl rfl, by decide +kernel, by decide +kernel, by decide +kernel, by decide +kernel⟩
set_option maxRecDepth 100000 in
theorem mo_16 : Mok 16 := ⟨ing 737 rfl rfl, ing 18 rfl rfl, by decide +kernel, by decide +kernel, by decide +kernel, by decide +kernel⟩
set_option maxRecDepth 100000 in
theorem mo_17 : Mok 17 := ⟨ing 760 rfl rfl, ing 18 rfl rfl, by decide +kernel, by decide +kernel, by decide +kernel, by decide +kernel⟩
set_option maxRecDepth 100000 in
theorem mo_18 : Mok 18 := ⟨ing 753 rfl rfl, ing 18 rfl rfl, by decide +kernel, by decide +kernel, by decide +kernel, by decide +kernel⟩
set_option maxRecDepth 100000 in
theorem mo_19 : Mok 19 := ⟨ing 361 rfl rfl, ing 17 rfl rfl, by decide +kernel, by decide +kernel, by decide +kernel, by decide +kernel⟩
set_option maxRecDepth 100000 in
theorem mo_20 : Mok 20 := ⟨ing 729 rfl rfl, ing 17 rfl rfl, by decide +kernel, by decide +kernel, by decide +kernel, by decide +kernel⟩
set_option maxRecDepth 100000 in
theorem mo_21 : Mok 21 := ⟨ing 788 rfl rfl, ing 17 rfl rfl, by decide +kernel, by decide +kernel, by decide +kernel, by decide +kernel⟩
set_option maxRecDepth 100000 in
theorem mo_22 : Mok 22 := ⟨ing 742 rfl rfl, ing 17 rfl rfl, by decide +kernel, by decide +kernel, by decide +kernel, by decide +kernel⟩
set_option maxRecDepth 100000 in
theorem mo_23 : Mok 23 := ⟨ing 122 rfl rfl, ing 7 rfl rfl, by decide +kernel, by decide +kernel, by decide +kernel, by decide +kernel⟩
set_option maxRecDepth 100000 in
theorem mo_24 : Mok 24 := ⟨ing 769 rfl rfl, ing 7 rfl rfl, by decide +kernel, by decide +kernel, by decide +kernel, by decide +kernel⟩
set_option maxRecDepth 100000 in
theorem mo_25 : Mok 25 := ⟨ing 916 rfl rfl, ing 7 rfl rfl, by decide +kernel, by decide +kernel, by decide +kernel, by decide +kernel⟩
set_option maxRecDepth 100000 in
theorem mo_26 : Mok 26 := ⟨ing 929 rfl rfl, ing 7 rfl rfl, by decide +kernel, by decide +kernel, by decide +kernel, by decide +kernel⟩
set_option maxRecDepth 100000 in
theorem mo_27 : Mok 27 := ⟨ing 921 rfl rfl, ing 7 rfl rfl, by decide +kernel, by decide +kernel, by decide +kernel, by decide +kernel⟩
set_option maxRecDepth 100000 in
theorem mo_28 : Mok 28 := ⟨ing 942 rfl rfl, ing 29 rfl rfl, by decide +kernel, by decide +kernel, by decide +kernel, by decide +kernel⟩
set_option maxRecDepth 100000 in
theorem mo_29 : Mok 29 := ⟨ing 936 rfl rfl, ing 29 rfl rfl, by decide +kernel, by decide +kernel, by decide +kernel, by decide +kernel⟩
set_option maxRecDepth 100000 in
theorem mo_30 : Mok 30 := ⟨ing 1011 rfl rfl, ing 29 rfl rfl, by decide +kernel, by decide +kernel, by decide +kernel, by decide +kernel⟩
set_option maxRecDepth 100000 in
theorem mo_31 : Mok 31 := ⟨ing 976 rfl rfl, ing 29 rfl rfl, by decide +kernel, by decide +kernel, by decide +kernel, by decide +kernel⟩
set_option maxRecDepth 100000 in
theorem mo_32 : Mok 32 := ⟨ing 980 rfl rfl, ing 29 rfl rfl, by decide +kernel, by decide +kernel, by decide +kernel, by decide +kernel⟩
set_option maxRecDepth 100000 in
theorem mo_33 : Mok 33 := ⟨ing 991 rfl rfl, ing 29 rfl rfl, by decide +kernel, by decide +kernel, by decide +kernel, by decide +kernel⟩
set_option maxRecDepth 100000 in
theorem mo_34 : Mok 34 := ⟨ing 997 rfl rfl, ing 29 rfl rfl, by decide +kernel, by decide +kernel, by decide +kernel, by decide +kernel⟩
set_option maxRecDepth 100000 in
theorem mo_35 : Mok 35 := ⟨ing 1006 rfl rfl, ing 29 rfl rfl, by decide +kernel, by decide +kernel, by decide +kernel, by decide +kernel⟩
set_option maxRecDepth 100000 in
theorem mo_36 : Mok 36 := ⟨ing 142 rfl rfl, ing 8 rfl rfl, by decide +kernel, by decide +kernel, by decide +kernel, by decide +kernel⟩
set_option maxRecDepth 100000 in
theorem mo_37 : Mok 37 := ⟨ing 558 rfl rfl, ing 8 rfl rfl, by decide +kernel, by decide +kernel, by decide +kernel, by decide +kernel⟩
set_option maxRecDepth 100000 in
theorem mo_38 : Mok 38 := ⟨ing 591 rfl rfl, ing 8 rfl rfl, by decide +kernel, by decide +kernel, by decide +kernel, by decide +kernel⟩
set_option maxRecDepth 100000 in
theorem mo_39 : Mok 39 := ⟨ing 674 rfl rfl, ing 8 rfl rfl, by decide +kernel, by decide +kernel, by decide +kernel, by decide +kernel⟩
set_option maxRecDepth 100000 in
theorem mo_40 : Mok 40 := ⟨ing 649 rfl rfl, ing 8 rfl rfl, by decide +kernel, by decide +kernel, by decide +kernel, by decide +kernel⟩
set_option maxRecDepth 100000 in
theorem mo_41 : Mok 41 := ⟨ing 654 rfl rfl, ing 8 rfl rfl, by decide +kernel, by decide +kernel, by decide +kernel, by decide +kernel⟩
set_option maxRecDepth 100000 in
theorem mo_42 : Mok 42 := ⟨ing 658 rfl rfl, ing 8 rfl rfl, by decide +kernel, by decide +kernel, by decide +kernel, by decide +kernel⟩
set_option maxRecDepth 100000 in
theorem mo_43 : Mok 43 := ⟨ing 708 rfl rfl, ing 8 rfl rfl, by decide +kernel, by decide +kernel, by decide +kernel, by decide +kernel⟩
set_option maxRecDepth 100000 in
theorem mo_44 : Mok 44 := ⟨ing 712 rfl rfl, ing 8 rfl rfl, by decide +kernel, by decide +kernel, by decide +kernel, by decide +kernel⟩
set_option maxRecDepth 100000 in
theorem mo_45 : Mok 45 := ⟨ing 716 rfl rfl, ing 8 rfl rfl, by decide +kernel, by decide +kernel, by decide +kernel, by decide +kernel⟩
set_option maxRecDepth 100000 in
theorem mo_46 : Mok 46 := ⟨ing 235 rfl rfl, ing 10 rfl rfl, by decide +kernel, by decide +kernel, by decide +kernel, by decide +kernel⟩
set_option maxRecDepth 100000 in
theorem mo_47 : Mok 47 := ⟨ing 390 rfl rfl, ing 10 rfl rfl, by decide +kernel, by decide +kernel, by decide +kernel, by decide +kernel⟩
set_option maxRecDepth 100000 in
theorem mo_48 : Mok 48 := ⟨ing 92 rfl rfl, ing 6 rfl rfl, by decide +kernel, by decide +kernel, by decide +kernel, by decide +kernel⟩
set_option maxRecDepth 100000 in
theorem mo_49 : Mok 49 := ⟨ing 546 rfl rfl, ing 6 rfl rfl, by decide +kernel, by decide +kernel, by decide +kernel, by decide +kernel⟩
set_option maxRecDepth 100000 in
theorem mo_50 : Mok 50 := ⟨ing 562 rfl rfl, ing 6 rfl rfl, by decide +kernel, by decide +kernel, by decide +kernel, by decide +kernel⟩
set_option maxRecDepth 100000 in
theorem mo_51 : Mok 51 := ⟨ing 566 rfl rfl, ing 6 rfl rfl, by decide +kernel, by decide +kernel, by decide +kernel, by decide +kernel⟩
set_option maxRecDepth 100000 in
theorem mo_52 : Mok 52 := ⟨ing 580 rfl rfl, ing 6 rfl rfl, by decide +kernel, by decide +kernel, by decide +kernel, by decide +kernel⟩
set_option maxRecDepth 100000 in
theorem mo_53 : Mok 53 := ⟨ing 587 rfl rfl, ing 6 rfl rfl, by decide +kernel, by decide +kernel, by decide +kernel, by decide +kernel⟩
set_option maxRecDepth 100000 in
theorem mo_54 : Mok 54 := ⟨ing 596 rfl rfl, ing 6 rfl rfl, by decide +kernel, by decide +kernel, by decide +kernel, by decide +kernel⟩
set_option maxRecDepth 100000 in
theorem mo_55 : Mok 55 := ⟨ing 670 rfl rfl, ing 6 rfl rfl, by decide +kernel, by decide +kernel, by decide +kernel, by decide +kernel⟩
set_option maxRecDepth 100000 in
theorem mo_56 : Mok 56 := ⟨ing 570 rfl rfl, ing 6 rfl rfl, by decide +kernel, by decide +kernel, by decide +kernel, by decide +kernel⟩
set_option maxRecDepth 100000 in
theorem mo_57 : Mok 57 := ⟨ing 573 rfl rfl, ing 6 rfl rfl, by decide +kernel, by decide +kernel, by decide +kernel, by decide +kernel⟩
set_option maxRecDepth 100000 in
theorem mo_58 : Mok 58 := ⟨ing 576 rfl rfl, ing 6 rfl rfl, by decide +kernel, by decide +kernel, by decide +kernel, by decide +kernel⟩
set_option maxRecDepth 100000 in
theorem mo_59 : Mok 59 := ⟨ing 583 rfl rfl, ing 6 rfl rfl, by decide +kernel, by decide +kernel, by decide +kernel, by decide +kernel⟩
set_option maxRecDepth 100000 in
theorem mo_60 : Mok 60 := ⟨ing 34 rfl rfl, ing 1 rfl rfl, by decide +kernel, by decide +kernel, by decide +kernel, by decide +kernel⟩
set_option maxRecDepth 100000 in
theorem mo_61 : Mok 61 := ⟨ing 217 rfl rfl, ing 1 rfl rfl, by decide +kernel, by decide +kernel, by decide +kernel, by decide +kernel⟩
set_option maxRecDepth 100000 in
theorem mo_62 : Mok 62 := ⟨ing 333 rfl rfl, ing 1 rfl rfl, by decide +kernel, by decide +kernel, by decide +kernel, by decide +kernel⟩
set_option maxRecDepth 100000 in
theorem mo_63 : Mok 63 := ⟨ing 382 rfl rfl, ing 1 rfl rfl, by decide +kernel, by decide +kernel, by decide +kernel, by decide +kernel⟩
set_option maxRecDepth 100000 in
theorem mo_64 : Mok 64 := ⟨ing 386 rfl rfl, ing 1 rfl rfl, by decide +kernel, by decide +kernel, by decide +kernel, by decide +kernel⟩
set_option maxRecDepth 100000 in
theorem mo_65 : Mok 65 := ⟨ing 505 rfl rfl, ing 1 rfl rfl, by decide +kernel, by decide +kernel, by decide +kernel, by decide +kernel⟩
set_option maxRecDepth 100000 in
theorem mo_66 : Mok 66 := ⟨ing 514 rfl rfl, ing 1 rfl rfl, by decide +kernel, by decide +kernel, by decide +kernel, by decide +kernel⟩
set_option maxRecDepth 100000 in
theorem mo_67 : Mok 67 := ⟨ing 522 rfl rfl, ing 1 rfl rfl, by decide +kernel, by decide +kernel, by decide +kernel, by decide +kernel⟩
set_option maxRecDepth 100000 in
theorem mo_68 : Mok 68 := ⟨ing 534 rfl rfl, ing 1 rfl rfl, by decide +kernel, by decide +kernel, by decide +kernel, by decide +kernel⟩
set_option maxRecDepth 100000 in
theorem mo_69 : Mok 69 := ⟨ing 542 rfl rfl, ing 1 rfl rfl, by decide +kernel, by decide +kernel, by decide +kernel, by decide +kernel⟩
set_option maxRecDepth 100000 in
theorem mo_70 : Mok 70 := ⟨ing 550 rfl rfl, ing 1 rfl rfl, by decide +kernel, by decide +kernel, by decide +kernel, by decide +kernel⟩
set_option maxRecDepth 100000 in
theorem mo_71 : Mok 71 := ⟨ing 554 rfl rfl, ing 1 rfl rfl, by decide +kernel, by decide +kernel, by decide +kernel, by decide +kernel⟩
set_option maxRecDepth 100000 in
theorem mo_72 : Mok 72 := ⟨ing 678 rfl rfl, ing 1 rfl rfl, by decide +kernel, by decide +kernel, by decide +kernel, by decide +kernel⟩
set_option maxRecDepth 100000 in
theorem mo_73 : Mok 73 := ⟨ing 720 rfl rfl, ing 1 rfl rfl, by decide +kernel, by decide +kernel, by decide +kernel, by decide +kernel⟩
set_option maxRecDepth 100000 in
theorem mo_74 : Mok 74 := ⟨ing 725 rfl rfl, ing 1 rfl rfl, by decide +kernel, by decide +kernel, by decide +kernel, by decide +kernel⟩
set_option maxRecDepth 100000 in
theorem mo_75 : Mok 75 := ⟨ing 794 rfl rfl, ing 1 rfl rfl, by decide +kernel, by decide +kernel, by decide +kernel, by decide +kernel⟩
set_option maxRecDepth 100000 in
theorem mo_76 : Mok 76 := ⟨ing 810 rfl rfl, ing 1 rfl rfl, by decide +kernel, by decide +kernel, by decide +kernel, by decide +kernel⟩
set_option maxRecDepth 100000 in
theorem mo_77 : Mok 77 := ⟨ing 814 rfl rfl, ing 1 rfl rfl, by decide +kernel, by decide +kernel, by decide +kernel, by decide +kernel⟩
set_option maxRecDepth 100000 in
theorem mo_78 : Mok 78 := ⟨ing 838 rfl rfl, ing 1 rfl rfl, by decide +kernel, by decide +kernel, by decide +kernel, by decide +kernel⟩
set_option maxRecDepth 100000 in
theorem mo_79 : Mok 79 := ⟨ing 846 rfl rfl, ing 1 rfl rfl, by decide +kernel, by decide +kernel, by decide +kernel, by decide +kernel⟩
set_option maxRecDepth 100000 in
theorem mo_80 : Mok 80 := ⟨ing 850 rfl rfl, ing 1 rfl rfl, by decide +kernel, by decide +kernel, by decide +kernel, by decide +kernel⟩
set_option maxRecDepth 100000 in
theorem mo_81 : Mok 81 := ⟨ing 854 rfl rfl, ing 1 rfl rfl, by decide +kernel, by decide +kernel, by decide +kernel, by decide +kernel⟩
set_option maxRecDepth 100000 in
theorem mo_82 : Mok 82 := ⟨ing 895 rfl rfl, ing 1 rfl rfl, by decide +kernel, by decide +kernel, by decide +kernel, by decide +kernel⟩
set_option maxRecDepth 100000 in
theorem mo_83 : Mok 83 := ⟨ing 903 rfl rfl, ing 1 rfl rfl, by decide +kernel, by decide +kernel, by decide +kernel, by decide +kernel⟩
set_option maxRecDepth 100000 in
theorem mo_84 : Mok 84 := ⟨ing 1035 rfl rfl, ing 1 rfl rfl, by decide +kernel, by decide +kernel, by decide +kernel, by decide +kernel⟩
set_option maxRecDepth 100000 in
theorem mo_85 : Mok 85 := ⟨ing 1112 rfl rfl, ing 1 rfl rfl, by decide +kernel, by decide +kernel, by decide +kernel, by decide +kernel⟩
set_option maxRecDepth 100000 in
theorem mo_86 : Mok 86 := ⟨ing 911 rfl rfl, ing 1 rfl rfl, by decide +kernel, by decide +kernel, by decide +kernel, by decide +kernel⟩
set_option maxRecDepth 100000 in
theorem mo_87 : Mok 87 := ⟨ing 925 rfl rfl, ing 1 rfl rfl, by decide +kernel, by decide +kernel, by decide +kernel, by decide +kernel⟩
set_option maxRecDepth 100000 in
theorem mo_88 : Mok 88 := ⟨ing 933 rfl rfl, ing 1 rfl rfl, by decide +kernel, by decide +kernel, by decide +kernel, by decide +kernel⟩
set_option maxRecDepth 100000 in
theorem mo_89 : Mok 89 := ⟨ing 1015 rfl rfl, ing 1 rfl rfl, by decide +kernel, by decide +kernel, by decide +kernel, by decide +kernel⟩
set_option maxRecDepth 100000 in
theorem mo_90 : Mok 90 := ⟨ing 1027 rfl rfl, ing 1 rfl rfl, by decide +kernel, by decide +kernel, by decide +kernel, by decide +kernel⟩
set_option maxRecDepth 100000 in
theorem mo_91 : Mok 91 := ⟨ing 337 rfl rfl, ing 1 rfl rfl, by decide +kernel, by decide +kernel, by decide +kernel, by decide +kernel⟩
set_option maxRecDepth 100000 in
theorem mo_92 : Mok 92 := ⟨ing 518 rfl rfl, ing 1 rfl rfl, by decide +kernel, by decide +kernel, by decide +kernel, by decide +kernel⟩
set_option maxRecDepth 100000 in
theorem mo_93 : Mok 93 := ⟨ing 686 rfl rfl, ing 1 rfl rfl, by decide +kernel, by decide +kernel, by decide +kernel, by decide +kernel⟩
set_option maxRecDepth 100000 in
theorem mo_94 : Mok 94 := ⟨ing 899 rfl rfl, ing 1 rfl rfl, by decide +kernel, by decide +kernel, by decide +kernel, by decide +kernel⟩
set_option maxRecDepth 100000 in
theorem mo_95 : Mok 95 := ⟨ing 682 rfl rfl, ing 1 rfl rfl, by decide +kernel, by decide +kernel, by decide +kernel, by decide +kernel⟩
set_option maxRecDepth 100000 in
theorem mo_96 : Mok 96 := ⟨ing 694 rfl rfl, ing 1 rfl rfl, by decide +kernel, by decide +kernel, by decide +kernel, by decide +kernel⟩
set_option maxRecDepth 100000 in
theorem mo_97 : Mok 97 := ⟨ing 733 rfl rfl, ing 1 rfl rfl, by decide +kernel, by decide +kernel, by decide +kernel, by decide +kernel⟩
set_option maxRecDepth 100000 in
theorem mo_98 : Mok 98 := ⟨ing 690 rfl rfl, ing 1 rfl rfl, by decide +kernel, by decide +kernel, by decide +kernel, by decide +kernel⟩
set_option maxRecDepth 100000 in
theorem mo_99 : Mok 99 := ⟨ing 749 rfl rfl, ing 1 rfl rfl, by decide +kernel, by decide +kernel, by decide +kernel, by decide +kernel⟩
set_option maxRecDepth 100000 in
theorem mo_100 : Mok 100 := ⟨ing 842 rfl rfl, ing 1 rfl rfl, by decide +kernel, by decide +kernel, by decide +kernel, by decide +kernel⟩
set_option maxRecDepth 100000 in
theorem mo_101 : Mok 101 := ⟨ing 1019 rfl rfl, ing 1 rfl rfl, by decide +kernel, by decide +kernel, by decide +kernel, by decide +kernel⟩
set_option maxRecDepth 100000 in
theorem mo_102 : Mok 102 := ⟨ing 1023 rfl rfl, ing 1 rfl rfl, by decide +kernel, by decide +kernel, by decide +kernel, by decide +kernel⟩
set_option maxRecDepth 100000 in
theorem mo_103 : Mok 103 := ⟨ing 819 rfl rfl, ing 1 rfl rfl, by decide +kernel, by decide +kernel, by decide +kernel, by decide +kernel⟩
set_option maxRecDepth 100000 in
theorem mo_104 : Mok 104 := ⟨ing 827 rfl rfl, ing 1 rfl rfl, by decide +kernel, by decide +kernel, by decide +kernel, by decide +kernel⟩
set_option maxRecDepth 100000 in
theorem mo_105 : Mok 105 := ⟨ing 834 rfl rfl, ing 1 rfl rfl, by decide +kernel, by decide +kernel, by decide +kernel, by decide +kernel⟩
set_option maxRecDepth 100000 in
theorem mo_106 : Mok 106 := ⟨ing 823 rfl rfl, ing 1 rfl rfl, by decide +kernel, by decide +kernel, by decide +kernel, by decide +kernel⟩
set_option maxRecDepth 100000 in
theorem mo_107 : Mok 107 := ⟨ing 774 rfl rfl, ing 1 rfl rfl, by decide +kernel, by decide +kernel, by decide +kernel, by decide +kernel⟩
set_option maxRecDepth 100000 in
theorem mo_108 : Mok 108 := ⟨ing 907 rfl rfl, ing 1 rfl rfl, by decide +kernel, by decide +kernel, by decide +kernel, by decide +kernel⟩
set_option maxRecDepth 100000 in
theorem mo_109 : Mok 109 := ⟨ing 230 rfl rfl, ing 1 rfl rfl, by decide +kernel, by decide +kernel, by decide +kernel, by decide +kernel⟩
set_option maxRecDepth 100000 in
theorem mo_110 : Mok 110 := ⟨ing 745 rfl rfl, ing 1 rfl rfl, by decide +kernel, by decide +kernel, by decide +kernel, by decide +kernel⟩
set_option maxRecDepth 100000 in
theorem mo_111 : Mok 111 := ⟨ing 801 rfl rfl, ing 1 rfl rfl, by decide +kernel, by decide +kernel, by decide +kernel, by decide +kernel⟩
set_option maxRecDepth 100000 in
theorem mo_112 : Mok 112 := ⟨ing 830 rfl rfl, ing 1 rfl rfl, by decide +kernel, by decide +kernel, by decide +kernel, by decide +kernel⟩
set_option maxRecDepth 100000 in
theorem mo_113 : Mok 113 := ⟨ing 1119 rfl rfl, ing 9 rfl rfl, by decide +kernel, by decide +kernel, by decide +kernel, by decide +kernel⟩
set_option maxRecDepth 100000 in
theorem mo_114 : Mok 114 := ⟨ing 1356 rfl rfl, ing 9 rfl rfl, by decide +kernel, by decide +kernel, by decide +kernel, by decide +kernel⟩
set_option maxRecDepth 100000 in
theorem mo_115 : Mok 115 := ⟨ing 1363 rfl rfl, ing 9 rfl rfl, by decide +kernel, by decide +kernel, by decide +kernel, by decide +kernel⟩
set_option maxRecDepth 100000 in
theorem mo_116 : Mok 116 := ⟨ing 1542 rfl rfl, ing 9 rfl rfl, by decide +kernel, by decide +kernel, by decide +kernel, by decide +kernel⟩
set_option maxRecDepth 100000 in
theorem mo_117 : Mok 117 := ⟨ing 1587 rfl rfl, ing 9 rfl rfl, by decide +kernel, by decide +kernel, by decide +kernel, by decide +kernel⟩
set_option maxRecDepth 100000 in
theorem mo_118 : Mok 118 := ⟨ing 1371 rfl rfl, ing 9 rfl rfl, by decide +kernel, by decide +kernel, by decide +kernel, by decide +kernel⟩
set_option maxRecDepth 100000 in
theorem mo_119 : Mok 119 := ⟨ing 1391 rfl rfl, ing 9 rfl rfl, by decide +kernel, by decide +kernel, by decide +kernel, by decide +kernel⟩
set_option maxRecDepth 100000 in
theorem mo_120 : Mok 120 := ⟨ing 1360 rfl rfl, ing 9 rfl rfl, by decide +kernel, by decide +kernel, by decide +kernel, by decide +kernel⟩
set_option maxRecDepth 100000 in
theorem mo_121 : Mok 121 := ⟨ing 1367 rfl rfl, ing 9 rfl rfl, by decide +kernel, by decide +kernel, by decide +kernel, by decide +kernel⟩
set_option maxRecDepth 100000 in
theorem mo_122 : Mok 122 := ⟨ing 1375 rfl rfl, ing 9 rfl rfl, by decide +kernel, by decide +kernel, by decide +kernel, by decide +kernel⟩
set_option maxRecDepth 100000 in
theorem mo_123 : Mok 123 := ⟨ing 1383 rfl rfl, ing 9 rfl rfl, by decide +kernel, by decide +kernel, by decide +kernel, by decide +kernel⟩
set_option maxRecDepth 100000 in
theorem mo_124 : Mok 124 := ⟨ing 1379 rfl rfl, ing 9 rfl rfl, by decide +kernel, by decide +kernel, by decide +kernel, by decide +kernel⟩
set_option maxRecDepth 100000 in
theorem mo_125 : Mok 125 := ⟨ing 1387 rfl rfl, ing 9 rfl rfl, by decide +kernel, by decide +kernel, by decide +kernel, by decide +kernel⟩
set_option maxRecDepth 100000 in
theorem mo_126 : Mok 126 := ⟨ing 1403 rfl rfl, ing 9 rfl rfl, by decide +kernel, by decide +kernel, by decide +kernel, by decide +kernel⟩
set_option maxRecDepth 100000 in
theorem mo_127 : Mok 127 := ⟨ing 1399 rfl rfl, ing 9 rfl rfl, by decide +kernel, by decide +kernel, by decide +kernel, by decide +kernel⟩
set_option maxRecDepth 100000 in
theorem mo_128 : Mok 128 := ⟨ing 1411 rfl rfl, ing 9 rfl rfl, by decide +kernel, by decide +kernel, by decide +kernel, by decide +kernel⟩
set_option maxRecDepth 100000 in
theorem mo_129 : Mok 129 := ⟨ing 1395 rfl rfl, ing 9 rfl rfl, by decide +kernel, by decide +kernel, by decide +kernel, by decide +kernel⟩
set_option maxRecDepth 100000 in
theorem mo_130 : Mok 130 := ⟨ing 1407 rfl rfl, ing 9 rfl rfl, by decide +kernel, by decide +kernel, by decide +kernel, by decide +kernel⟩
set_option maxRecDepth 100000 in
theorem mo_131 : Mok 131 := ⟨ing 1503 rfl rfl, ing 9 rfl rfl, by decide +kernel, by decide +kernel, by decide +kernel, by decide +kernel⟩
set_option maxRecDepth 100000 in
theorem mo_132 : Mok 132 := ⟨ing 1499 rfl rfl, ing 9 rfl rfl, by decide +kernel, by decide +kernel, by decide +kernel, by decide +kernel⟩
set_option maxRecDepth 100000 in
theorem mo_133 : Mok 133 := ⟨ing 1419 rfl rfl, ing 9 rfl rfl, by decide +kernel, by decide +kernel, by decide +kernel, by decide +kernel⟩
set_option maxRecDepth 100000 in
theorem mo_134 : Mok 134 := ⟨ing 1415 rfl rfl, ing 9 rfl rfl, by decide +kernel, by decide +kernel, by decide +kernel, by decide +kernel⟩
set_option maxRecDepth 100000 in
theorem mo_135 : Mok 135 := ⟨ing 1423 rfl rfl, ing 9 rfl rfl, by decide +kernel, by decide +kernel, by decide +kernel, by decide +kernel⟩
set_option maxRecDepth 100000 in
theorem mo_136 : Mok 136 := ⟨ing 1523 rfl rfl, ing 9 rfl rfl, by decide +kernel, by decide +kernel, by decide +kernel, by decide +kernel⟩
set_option maxRecDepth 100000 in
theorem mo_137 : Mok 137 := ⟨ing 1519 rfl rfl, ing 9 rfl rfl, by decide +kernel, by decide +kernel, by decide +kernel, by decide +kernel⟩
set_option maxRecDepth 100000 in
theorem mo_138 : Mok 138 := ⟨ing 1550 rfl rfl, ing 9 rfl rfl, by decide +kernel, by decide +kernel, by decide +kernel, by decide +kernel⟩
set_option maxRecDepth 100000 in
theorem mo_139 : Mok 139 := ⟨ing 1539 rfl rfl, ing 9 rfl rfl, by decide +kernel, by decide +kernel, by decide +kernel, by decide +kernel⟩
set_option maxRecDepth 100000 in
theorem mo_140 : Mok 140 := ⟨ing 1554 rfl rfl, ing 9 rfl rfl, by decide +kernel, by decide +kernel, by decide +kernel, by decide +kernel⟩
set_option maxRecDepth 100000 in
theorem mo_141 : Mok 141 := ⟨ing 1433 rfl rfl, ing 9 rfl rfl, by decide +kernel, by decide +kernel, by decide +kernel, by decide +kernel⟩
set_option maxRecDepth 100000 in
theorem mo_142 : Mok 142 := ⟨ing 1429 rfl rfl, ing 9 rfl rfl, by decide +kernel, by decide +kernel, by decide +kernel, by decide +kernel⟩
set_option maxRecDepth 100000 in
theorem mo_143 : Mok 143 := ⟨ing 1437 rfl rfl, ing 9 rfl rfl, by decide +kernel, by decide +kernel, by decide +kernel, by decide +kernel⟩
set_option maxRecDepth 100000 in
theorem mo_144 : Mok 144 := ⟨ing 1449 rfl rfl, ing 9 rfl rfl, by decide +kernel, by decide +kernel, by decide +kernel, by decide +kernel⟩
set_option maxRecDepth 100000 in
theorem mo_145 : Mok 145 := ⟨ing 1458 rfl rfl, ing 9 rfl rfl, by decide +kernel, by decide +kernel, by decide +kernel, by decide +kernel⟩
set_option maxRecDepth 100000 in
theorem mo_146 : Mok 146 := ⟨ing 1453 rfl rfl, ing 9 rfl rfl, by decide +kernel, by decide +kernel, by decide +kernel, by decide +kernel⟩
set_option maxRecDepth 100000 in
theorem mo_147 : Mok 147 := ⟨ing 1445 rfl rfl, ing 9 rfl rfl, by decide +kernel, by decide +kernel, by decide +kernel, by decide +kernel⟩
set_option maxRecDepth 100000 in
theorem mo_148 : Mok 148 := ⟨ing 1479 rfl rfl, ing 9 rfl rfl, by decide +kernel, by decide +kernel, by decide +kernel, by decide +kernel⟩
set_option maxRecDepth 100000 in
theorem mo_149 : Mok 149 := ⟨ing 1483 rfl rfl, ing 9 rfl rfl, by decide +kernel, by decide +kernel, by decide +kernel, by decide +kernel⟩
set_option maxRecDepth 100000 in
theorem mo_150 : Mok 150 := ⟨ing 1487 rfl rfl, ing 9 rfl rfl, by decide +kernel, by decide +kernel, by decide +kernel, by decide +kernel⟩
set_option maxRecDepth 100000 in
theorem mo_151 : Mok 151 := ⟨ing 1491 rfl rfl, ing 9 rfl rfl, by decide +kernel, by decide +kernel, by decide +kernel, by decide +kernel⟩
set_option maxRecDepth 100000 in
theorem mo_152 : Mok 152 := ⟨ing 1475 rfl rfl, ing 9 rfl rfl, by decide +kernel, by decide +kernel, by decide +kernel, by decide +kernel⟩
set_option maxRecDepth 100000 in
theorem mo_153 : Mok 153 := ⟨ing 1441 rfl rfl, ing 9 rfl rfl, by decide +kernel, by decide +kernel, by decide +kernel, by decide +kernel⟩
set_option maxRecDepth 100000 in
theorem mo_154 : Mok 154 := ⟨ing 1515 rfl rfl, ing 9 rfl rfl, by decide +kernel, by decide +kernel, by decide +kernel, by decide +kernel⟩
set_option maxRecDepth 100000 in
theorem mo_155 : Mok 155 := ⟨ing 1511 rfl rfl, ing 9 rfl rfl, by decide +kernel, by decide +kernel, by decide +kernel, by decide +kernel⟩
set_option maxRecDepth 100000 in
theorem mo_156 : Mok 156 := ⟨ing 1507 rfl rfl, ing 9 rfl rfl, by decide +kernel, by decide +kernel, by decide +kernel, by decide +kernel⟩
set_option maxRecDepth 100000 in
theorem mo_157 : Mok 157 := ⟨ing 1495 rfl rfl, ing 9 rfl rfl, by decide +kernel, by decide +kernel, by decide +kernel, by decide +kernel⟩
set_option maxRecDepth 100000 in
theorem mo_158 : Mok 158 := ⟨ing 1527 rfl rfl, ing 9 rfl rfl, by decide +kernel, by decide +kernel, by decide +kernel, by decide +kernel⟩
set_option maxRecDepth 100000 in
theorem mo_159 : Mok 159 := ⟨ing 1546 rfl rfl, ing 9 rfl rfl, by decide +kernel, by decide +kernel, by decide +kernel, by decide +kernel⟩
set_option maxRecDepth 100000 in
theorem mo_160 : Mok 160 := ⟨ing 1535 rfl rfl, ing 9 rfl rfl, by decide +kernel, by decide +kernel, by decide +kernel, by decide +kernel⟩
set_option maxRecDepth 100000 in
theorem mo_161 : Mok 161 := ⟨ing 1558 rfl rfl, ing 9 rfl rfl, by decide +kernel, by decide +kernel, by decide +kernel, by decide +kernel⟩
set_option maxRecDepth 100000 in
theorem mo_162 : Mok 162 := ⟨ing 1531 rfl rfl, ing 9 rfl rfl, by decide +kernel, by decide +kernel, by decide +kernel, by decide +kernel⟩
set_option maxRecDepth 100000 in
theorem mo_163 : Mok 163 := ⟨ing 1562 rfl rfl, ing 9 rfl rfl, by decide +kernel, by decide +kernel, by decide +kernel, by decide +kernel⟩
set_option maxRecDepth 100000 in
theorem mo_164 : Mok 164 := ⟨ing 1566 rfl rfl, ing 9 rfl rfl, by decide +kernel, by decide +kernel, by decide +kernel, by decide +kernel⟩
set_option maxRecDepth 100000 in
theorem mo_165 : Mok 165 := ⟨ing 1583 rfl rfl, ing 9 rfl rfl, by decide +kernel, by decide +kernel, by decide +kernel, by decide +kernel⟩
set_option maxRecDepth 100000 in
theorem mo_166 : Mok 166 := ⟨ing 1579 rfl rfl, ing 9 rfl rfl, by decide +kernel, by decide +kernel, by decide +kernel, by decide +kernel⟩
set_option maxRecDepth 100000 in
theorem mo_167 : Mok 167 := ⟨ing 1575 rfl rfl, ing 9 rfl rfl, by decide +kernel, by decide +kernel, by decide +kernel, by decide +kernel⟩
set_option maxRecDepth 100000 in
theorem mo_168 : Mok 168 := ⟨ing 1570 rfl rfl, ing 9 rfl rfl, by decide +kernel, by decide +kernel, by decide +kernel, by decide +kernel⟩
set_option maxRecDepth 100000 in
theorem mo_169 : Mok 169 := ⟨ing 1591 rfl rfl, ing 9 rfl rfl, by decide +kernel, by decide +kernel, by decide +kernel, by decide +kernel⟩
set_option maxRecDepth 100000 in
theorem mo_170 : Mok 170 := ⟨ing 1595 rfl rfl, ing 9 rfl rfl, by decide +kernel, by decide +kernel, by decide +kernel, by decide +kernel⟩
set_option maxRecDepth 100000 in
theorem mo_171 : Mok 171 := ⟨ing 1599 rfl rfl, ing 9 rfl rfl, by decide +kernel, by decide +kernel, by decide +kernel, by decide +kernel⟩
set_option maxRecDepth 100000 in
theorem mo_172 : Mok 172 := ⟨ing 1603 rfl rfl, ing 9 rfl rfl, by decide +kernel, by decide +kernel, by decide +kernel, by decide +kernel⟩
set_option maxRecDepth 100000 in
theorem mo_173 : Mok 173 := ⟨ing 1611 rfl rfl, ing 9 rfl rfl, by decide +kernel, by decide +kernel, by decide +kernel, by decide +kernel⟩
set_option maxRecDepth 100000 in
theorem mo_174 : Mok 174 := ⟨ing 1607 rfl rfl, ing 9 rfl rfl, by decide +kernel, by decide +kernel, by decide +kernel, by decide +kernel⟩
set_option maxRecDepth 100000 in
theorem mo_175 : Mok 175 := ⟨ing 1615 rfl rfl, ing 9 rfl rfl, by decide +kernel, by decide +kernel, by decide +kernel, by decide +kernel⟩
set_option maxRecDepth 100000 in
theorem mo_176 : Mok 176 := ⟨ing 1619 rfl rfl, ing 9 rfl rfl, by decide +kernel, by decide +kernel, by decide +kernel, by decide +kernel⟩
set_option maxRecDepth 100000 in
theorem mo_177 : Mok 177 := ⟨ing 1623 rfl rfl, ing 9 rfl rfl, by decide +kernel, by decide +kernel, by decide +kernel, by decide +kernel⟩
set_option maxRecDepth 100000 in
theorem mo_178 : Mok 178 := ⟨ing 1632 rfl rfl, ing 9 rfl rfl, by decide +kernel, by decide +kernel, by decide +kernel, by decide +kernel⟩
set_option maxRecDepth 100000 in
theorem mo_179 : Mok 179 := ⟨ing 1627 rfl rfl, ing 9 rfl rfl, by decide +kernel, by decide +kernel, by decide +kernel, by decide +kernel⟩
set_option maxRecDepth 100000 in
theorem mo_180 : Mok 180 := ⟨ing 1636 rfl rfl, ing 9 rfl rfl, by decide +kernel, by decide +kernel, by decide +kernel, by decide +kernel⟩
set_option maxRecDepth 100000 in
theorem mo_181 : Mok 181 := ⟨ing 1648 rfl rfl, ing 9 rfl rfl, by decide +kernel, by decide +kernel, by decide +kernel, by decide +kernel⟩
set_option maxRecDepth 100000 in
theorem mo_182 : Mok 182 := ⟨ing 1644 rfl rfl, ing 9 rfl rfl, by decide +kernel, by decide +kernel, by decide +kernel, by decide +kernel⟩
set_option maxRecDepth 100000 in
theorem mo_183 : Mok 183 := ⟨ing 1640 rfl rfl, ing 9 rfl rfl, by decide +kernel, by decide +kernel, by decide +kernel, by decide +kernel⟩
set_option maxRecDepth 100000 in
theorem mo_184 : Mok 184 := ⟨ing 1652 rfl rfl, ing 9 rfl rfl, by decide +kernel, by decide +kernel, by decide +kernel, by decide +kernel⟩
set_option maxRecDepth 100000 in
theorem mo_185 : Mok 185 := ⟨ing 701 rfl rfl, ing 23 rfl rfl, by decide +kernel, by decide +kernel, by decide +kernel, by decide +kernel⟩
set_option maxRecDepth 100000 in
theorem mo_186 : Mok 186 := ⟨ing 48 rfl rfl, ing 2 rfl rfl, by decide +kernel, by decide +kernel, by decide +kernel, by decide +kernel⟩
set_option maxRecDepth 100000 in
theorem mo_187 : Mok 187 := ⟨ing 45 rfl rfl, ing 3 rfl rfl, by decide +kernel, by decide +kernel, by decide +kernel, by decide +kernel⟩
set_option maxRecDepth 100000 in
theorem mo_188 : Mok 188 := ⟨ing 42 rfl rfl, ing 4 rfl rfl, by decide +kernel, by decide +kernel, by decide +kernel, by decide +kernel⟩
set_option maxRecDepth 100000 in
theorem mo_189 : Mok 189 := ⟨ing 227 rfl rfl, ing 4 rfl rfl, by decide +kernel, by decide +kernel, by decide +kernel, by decide +kernel⟩
set_option maxRecDepth 100000 in
theorem mo_190 : Mok 190 := ⟨ing 356 rfl rfl, ing 4 rfl rfl, by decide +kernel, by decide +kernel, by decide +kernel, by decide +kernel⟩
set_option maxRecDepth 100000 in
theorem mo_191 : Mok 191 := ⟨ing 346 rfl rfl, ing 4 rfl rfl, by decide +kernel, by decide +kernel, by decide +kernel, by decide +kernel⟩
set_option maxRecDepth 100000 in
theorem mo_192 : Mok 192 := ⟨ing 276 rfl rfl, ing 4 rfl rfl, by decide +kernel, by decide +kernel, by decide +kernel, by decide +kernel⟩
set_option maxRecDepth 100000 in
theorem mo_193 : Mok 193 := ⟨ing 272 rfl rfl, ing 4 rfl rfl, by decide +kernel, by decide +kernel, by decide +kernel, by decide +kernel⟩
set_option maxRecDepth 100000 in
theorem mo_194 : Mok 194 := ⟨ing 349 rfl rfl, ing 15 rfl rfl, by decide +kernel, by decide +kernel, by decide +kernel, by decide +kernel⟩
set_option maxRecDepth 100000 in
theorem mo_195 : Mok 195 := ⟨ing 352 rfl rfl, ing 16 rfl rfl, by decide +kernel, by decide +kernel, by decide +kernel, by decide +kernel⟩
theorem mos_0 : ∀ m ∈ [0, 1, 2, 3, 4, 5, 6, 7, 8, 9, 10, 11, 12, 13, 14, 15, 16, 17, 18, 19, 20, 21, 22, 23, 24, 25, 26, 27, 28, 29, 30, 31, 32, 33, 34, 35, 36, 37, 38, 39], Mok m := List.forall_mem_cons.mpr ⟨mo_0, List.forall_mem_cons.mpr ⟨mo_1, List.forall_mem_cons.mpr ⟨mo_2, List.forall_mem_cons.mpr ⟨mo_3, List.forall_mem_cons.mpr ⟨mo_4, List.forall_mem_cons.mpr ⟨mo_5, List.forall_mem_cons.mpr ⟨mo_6, List.forall_mem_cons.mpr ⟨mo_7, List.forall_mem_cons.mpr ⟨mo_8, List.forall_mem_cons.mpr ⟨mo_9, List.forall_mem_cons.mpr ⟨mo_10, List.forall_mem_cons.mpr ⟨mo_11, List.forall_mem_cons.mpr ⟨mo_12, List.forall_mem_cons.mpr ⟨mo_13, List.forall_mem_cons.mpr ⟨mo_14, List.forall_mem_cons.mpr ⟨mo_15, List.forall_mem_cons.mpr ⟨mo_16, List.forall_mem_cons.mpr ⟨mo_17, List.forall_mem_cons.mpr ⟨mo_18, List.forall_mem_cons.mpr ⟨mo_19, List.forall_mem_cons.mpr ⟨mo_20, List.forall_mem_cons.mpr ⟨mo_21, List.forall_mem_cons.mpr ⟨mo_22, List.forall_mem_cons.mpr ⟨mo_23, List.forall_mem_cons.mpr ⟨mo_24, List.forall_mem_cons.mpr ⟨mo_25, List.forall_mem_cons.mpr ⟨mo_26, List.forall_mem_cons.mpr ⟨mo_27, List.forall_mem_cons.mpr ⟨mo_28, List.forall_mem_cons.mpr ⟨mo_29, List.forall_mem_cons.mpr ⟨mo_30, List.forall_mem_cons.mpr ⟨mo_31, List.forall_mem_cons.mpr ⟨mo_32, List.forall_mem_cons.mpr ⟨mo_33, List.forall_mem_cons.mpr ⟨mo_34, List.forall_mem_cons.mpr ⟨mo_35, List.forall_mem_cons.mpr ⟨mo_36, List.forall_mem_cons.mpr ⟨mo_37, List.forall_mem_cons.mpr ⟨mo_38, List.forall_mem_cons.mpr ⟨mo_39, fun _ h => absurd h List.not_mem_nil⟩⟩⟩⟩⟩⟩⟩⟩⟩⟩⟩⟩⟩⟩⟩⟩⟩⟩⟩⟩⟩⟩⟩⟩⟩⟩⟩⟩⟩⟩⟩⟩⟩⟩⟩⟩⟩⟩⟩⟩
theorem mos_1 : ∀ m ∈ [40, 41, 42, 43, 44, 45, 46, 47, 48, 49, 50, 51, 52, 53, 54, 55, 56, 57, 58, 59, 60, 61, 62, 63, 64, 65, 66, 67, 68, 69, 70, 71, 72, 73, 74, 75, 76, 77, 78, 79], Mok m := List.forall_mem_cons.mpr ⟨mo_40, List.forall_mem_cons.mpr ⟨mo_41, List.forall_mem_cons.mpr ⟨mo_42, List.forall_mem_cons.mpr ⟨mo_43, List.forall_mem_cons.mpr ⟨mo_44, List.forall_mem_cons.mpr ⟨mo_45, List.forall_mem_cons.mpr ⟨mo_46, List.forall_mem_cons.mpr ⟨mo_47, List.forall_mem_cons.mpr ⟨mo_48, List.forall_mem_cons.mpr ⟨mo_49, List.forall_mem_cons.mpr ⟨mo_50, List.forall_mem_cons.mpr ⟨mo_51, List.forall_mem_cons.mpr ⟨mo_52, List.forall_mem_cons.mpr ⟨mo_53, List.forall_mem_cons.mpr ⟨mo_54, List.forall_mem_cons.mpr ⟨mo_55, List.forall_mem_cons.mpr ⟨mo_56, List.forall_mem_cons.mpr ⟨mo_57, List.forall_mem_cons.mpr ⟨mo_58, List.forall_mem_cons.mpr ⟨mo_59, List.forall_mem_cons.mpr ⟨mo_60, List.forall_mem_cons.mpr ⟨mo_61, List.forall_mem_cons.mpr ⟨mo_62, List.forall_mem_cons.mpr ⟨mo_63, List.forall_mem_cons.mpr ⟨mo_64, List.forall_mem_cons.mpr ⟨mo_65, List.forall_mem_cons.mpr ⟨mo_66, List.forall_mem_cons.mpr ⟨mo_67, List.forall_mem_cons.mpr ⟨mo_68, List.forall_mem_cons.mpr ⟨mo_69, List.forall_mem_cons.mpr ⟨mo_70, List.forall_mem_cons.mpr ⟨mo_71, List.forall_mem_cons.mpr ⟨mo_72, List.forall_mem_cons.mpr ⟨mo_73, List.forall_mem_cons.mpr ⟨mo_74, List.forall_mem_cons.mpr ⟨mo_75, List.forall_mem_cons.mpr ⟨mo_76, List.forall_mem_cons.mpr ⟨mo_77, List.forall_mem_cons.mpr ⟨mo_78, List.forall_mem_cons.mpr ⟨mo_79, fun _ h => absurd h List.not_mem_nil⟩⟩⟩⟩⟩⟩⟩⟩⟩⟩⟩⟩⟩⟩⟩⟩⟩⟩⟩⟩⟩⟩⟩⟩⟩⟩⟩⟩⟩⟩⟩⟩⟩⟩⟩⟩⟩⟩⟩⟩
theorem mos_2 : ∀ m ∈ [80, 81, 82, 83, 84, 85, 86, 87, 88, 89, 90, 91, 92, 93, 94, 95, 96, 97, 98, 99, 100, 101, 102, 103, 104, 105, 106, 107, 108, 109, 110, 111, 112, 113, 114, 115, 116, 117, 118, 119], Mok m := List.forall_mem_cons.mpr ⟨mo_80, List.forall_mem_cons.mpr ⟨mo_81, List.forall_mem_cons.mpr ⟨mo_82, List.forall_mem_cons.mpr ⟨mo_83, List.forall_mem_cons.mpr ⟨mo_84, List.forall_mem_cons.mpr ⟨mo_85, List.forall_mem_cons.mpr ⟨mo_86, List.forall_mem_cons.mpr ⟨mo_87, List.forall_mem_cons.mpr ⟨mo_88, List.forall_mem_cons.mpr ⟨mo_89, List.forall_mem_cons.mpr ⟨mo_90, List.forall_mem_cons.mpr ⟨mo_91, List.forall_mem_cons.mpr ⟨mo_92, List.forall_mem_cons.mpr ⟨mo_93, List.forall_mem_cons.mpr ⟨mo_94, List.forall_mem_cons.mpr ⟨mo_95, List.forall_mem_cons.mpr ⟨mo_96, List.forall_mem_cons.mpr ⟨mo_97, List.forall_mem_cons.mpr ⟨mo_98, List.forall_mem_cons.mpr ⟨mo_99, List.forall_mem_cons.mpr ⟨mo_100, List.forall_mem_cons.mpr ⟨mo_101, List.forall_mem_cons.mpr ⟨mo_102, List.forall_mem_cons.mpr ⟨mo_103, List.forall_mem_cons.mpr ⟨mo_104, List.forall_mem_cons.mpr ⟨mo_105, List.forall_mem_cons.mpr ⟨mo_106, List.forall_mem_cons.mpr ⟨mo_107, List.forall_mem_cons.mpr ⟨mo_108, List.forall_mem_cons.mpr ⟨mo_109, List.forall_mem_cons.mpr ⟨mo_110, List.forall_mem_cons.mpr ⟨mo_111, List.forall_mem_cons.mpr ⟨mo_112, List.forall_mem_cons.mpr ⟨mo_113, List.forall_mem_cons.mpr ⟨mo_114, List.forall_mem_cons.mpr ⟨mo_115, List.forall_mem_cons.mpr ⟨mo_116, List.forall_mem_cons.mpr ⟨mo_117, List.forall_mem_cons.mpr ⟨mo_118, List.forall_mem_cons.mpr ⟨mo_119, fun _ h => absurd h List.not_mem_nil⟩⟩⟩⟩⟩⟩⟩⟩⟩⟩⟩⟩⟩⟩⟩⟩⟩⟩⟩⟩⟩⟩⟩⟩⟩⟩⟩⟩⟩⟩⟩⟩⟩⟩⟩⟩⟩⟩⟩⟩
theorem mos_3 : ∀ m ∈ [120, 121, 122, 123, 124, 125, 126, 127, 128, 129, 130, 131, 132, 133, 134, 135, 136, 137, 138, 139, 140, 141, 142, 143, 144, 145, 146, 147, 148, 149, 150, 151, 152, 153, 154, 155, 156, 157, 158, 159], Mok m := List.forall_mem_cons.mpr ⟨mo_120, List.forall_mem_cons.mpr ⟨mo_121, List.forall_mem_cons.mpr ⟨mo_122, List.forall_mem_cons.mpr ⟨mo_123, List.forall_mem_cons.mpr ⟨mo_124, List.forall_mem_cons.mpr ⟨mo_125, List.forall_mem_cons.mpr ⟨mo_126, List.forall_mem_cons.mpr ⟨mo_127, List.forall_mem_cons.mpr ⟨mo_128, List.forall_mem_cons.mpr ⟨mo_129, List.forall_mem_cons.mpr ⟨mo_130, List.forall_mem_cons.mpr ⟨mo_131, List.forall_mem_cons.mpr ⟨mo_132, List.forall_mem_cons.mpr ⟨mo_133, List.forall_mem_cons.mpr ⟨mo_134, List.forall_mem_cons.mpr ⟨mo_135, List.forall_mem_cons.mpr ⟨mo_136, List.forall_mem_cons.mpr ⟨mo_137, List.forall_mem_cons.mpr ⟨mo_138, List.forall_mem_cons.mpr ⟨mo_139, List.forall_mem_cons.mpr ⟨mo_140, List.forall_mem_cons.mpr ⟨mo_141, List.forall_mem_cons.mpr ⟨mo_142, List.forall_mem_cons.mpr ⟨mo_143, List.forall_mem_cons.mpr ⟨mo_144, List.forall_mem_cons.mpr ⟨mo_145, List.forall_mem_cons.mpr ⟨mo_146, List.forall_mem_cons.mpr ⟨mo_147, List.forall_mem_cons.mpr ⟨mo_148, List.forall_mem_cons.mpr ⟨mo_149, List.forall_mem_cons.mpr ⟨mo_150, List.forall_mem_cons.mpr ⟨mo_151, List.forall_mem_cons.mpr ⟨mo_152, List.forall_mem_cons.mpr ⟨mo_153, List.forall_mem_cons.mpr ⟨mo_154, List.forall_mem_cons.mpr ⟨mo_155, List.forall_mem_cons.mpr ⟨mo_156, List.forall_mem_cons.mpr ⟨mo_157, List.forall_mem_cons.mpr ⟨mo_158, List.forall_mem_cons.mpr ⟨mo_159, fun _ h => absurd h List.not_mem_nil⟩⟩⟩⟩⟩⟩⟩⟩⟩⟩⟩⟩⟩⟩⟩⟩⟩⟩⟩⟩⟩⟩⟩⟩⟩⟩⟩⟩⟩⟩⟩⟩⟩⟩⟩⟩⟩⟩⟩⟩
theorem mos_4 : ∀ m ∈ [160, 161, 162, 163, 164, 165, 166, 167, 168, 169, 170, 171, 172, 173, 174, 175, 176, 177, 178, 179, 180, 181, 182, 183, 184, 185, 186, 187, 188, 189, 190, 191, 192, 193, 194, 195], Mok m := List.forall_mem_cons.mpr ⟨mo_160, List.forall_mem_cons.mpr ⟨mo_161, List.forall_mem_cons.mpr ⟨mo_162, List.forall_mem_cons.mpr ⟨mo_163, List.forall_mem_cons.mpr ⟨mo_164, List.forall_mem_cons.mpr ⟨mo_165, List.forall_mem_cons.mpr ⟨mo_166, List.forall_mem_cons.mpr ⟨mo_167, List.forall_mem_cons.mpr ⟨mo_168, List.forall_mem_cons.mpr ⟨mo_169, List.forall_mem_cons.mpr ⟨mo_170, List.forall_mem_cons.mpr ⟨mo_171, List.forall_mem_cons.mpr ⟨mo_172, List.forall_mem_cons.mpr ⟨mo_173, List.forall_mem_cons.mpr ⟨mo_174, List.forall_mem_cons.mpr ⟨mo_175, List.forall_mem_cons.mpr ⟨mo_176, List.forall_mem_cons.mpr ⟨mo_177, List.forall_mem_cons.mpr ⟨mo_178, List.forall_mem_cons.mpr ⟨mo_179, List.forall_mem_cons.mpr ⟨mo_180, List.forall_mem_cons.mpr ⟨mo_181, List.forall_mem_cons.mpr ⟨mo_182, List.forall_mem_cons.mpr ⟨mo_183, List.forall_mem_cons.mpr ⟨mo_184, List.forall_mem_cons.mpr ⟨mo_185, List.forall_mem_cons.mpr ⟨mo_186, List.forall_mem_cons.mpr ⟨mo_187, List.forall_mem_cons.mpr ⟨mo_188, List.forall_mem_cons.mpr ⟨mo_189, List.forall_mem_cons.mpr ⟨mo_190, List.forall_mem_cons.mpr ⟨mo_191, List.forall_mem_cons.mpr ⟨mo_192, List.forall_mem_cons.mpr ⟨mo_193, List.forall_mem_cons.mpr ⟨mo_194, List.forall_mem_cons.mpr ⟨mo_195, fun _ h => absurd h List.not_mem_nil⟩⟩⟩⟩⟩⟩⟩⟩⟩⟩⟩⟩⟩⟩⟩⟩⟩⟩⟩⟩⟩⟩⟩⟩⟩⟩⟩⟩⟩⟩⟩⟩⟩⟩⟩⟩
theorem mor : List.range 196 = [0, 1, 2, 3, 4, 5, 6, 7, 8, 9, 10, 11, 12, 13, 14, 15, 16, 17, 18, 19, 20, 21, 22, 23, 24, 25, 26, 27, 28, 29, 30, 31, 32, 33, 34, 35, 36, 37, 38, 39] ++ ([40, 41, 42, 43, 44, 45, 46, 47, 48, 49, 50, 51, 52, 53, 54, 55, 56, 57, 58, 59, 60, 61, 62, 63, 64, 65, 66, 67, 68, 69, 70, 71, 72, 73, 74, 75, 76, 77, 78, 79] ++ ([80, 81, 82, 83, 84, 85, 86, 87, 88, 89, 90, 91, 92, 93, 94, 95, 96, 97, 98, 99, 100, 101, 102, 103, 104, 105, 106, 107, 108, 109, 110, 111, 112, 113, 114, 115, 116, 117, 118, 119] ++ ([120, 121, 122, 123, 124, 125, 126, 127, 128, 129, 130, 131, 132, 133, 134, 135, 136, 137, 138, 139, 140, 141, 142, 143, 144, 145, 146, 147, 148, 149, 150, 151, 152, 153, 154, 155, 156, 157, 158, 159] ++ ([160, 161, 162, 163, 164, 165, 166, 167, 168, 169, 170, 171, 172, 173, 174, 175, 176, 177, 178, 179, 180, 181, 182, 183, 184, 185, 186, 187, 188, 189, 190, 191, 192, 193, 194, 195])))) := by decide +kernel
theorem mok (m : Nat) (h : m < 196) : Mok m := (fun h => (List.mem_append.mp h).elim (mos_0 m) (fun h => (List.mem_append.mp h).elim (mos_1 m) (fun h => (List.mem_append.mp h).elim (mos_2 m) (fun h => (List.mem_append.mp h).elim (mos_3 m) (mos_4 m))))) (mor ▸ List.mem_range.mpr h)
