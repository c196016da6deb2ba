/-! ===== FIELDS, CALLS, CLASSES, CONSTANTS BY THEIR PLACES IN THE POOLS (printed by wip/gen/links.py) ===== -/
/-- a field by its place in a pool: own class, place, kind, field -/
def Fok (e : Nat × Nat × Nat × Nat) : Prop := ∃ (C : String) (U : u_T) (N : Nat) (ref : String), vwCl[e.2.2.1 - 1]? = some (C, U, N) ∧ e.2.2.2 < N ∧ (1 ≤ e.2.2.1 ∧ e.2.2.1 ≤ 13) ∧ Cond.fieldLink (own e.1) e.2.1 ref (U e.2.2.2).2.1 (U e.2.2.2).2.2.1 ∈ gw ∧ (ref = (U e.2.2.2).1 ∨ Cond.sameField ref (U e.2.2.2).1 (U e.2.2.2).2.1 (U e.2.2.2).2.2.1 ∈ gw)
set_option maxRecDepth 100000 in
theorem fl_0 : Fok (0, 9, 2, 3) := ⟨_, _, _, "HullLine$Bag", rfl, by decide, by decide, ing 866 rfl rfl, Or.inl rfl⟩
set_option maxRecDepth 100000 in
theorem fl_1 : Fok (0, 15, 2, 4) := ⟨_, _, _, "HullLine$Bag", rfl, by decide, by decide, ing 868 rfl rfl, Or.inl rfl⟩
set_option maxRecDepth 100000 in
theorem fl_2 : Fok (0, 19, 2, 6) := ⟨_, _, _, "HullLine$Bag", rfl, by decide, by decide, ing 872 rfl rfl, Or.inl rfl⟩
set_option maxRecDepth 100000 in
theorem fl_3 : Fok (0, 22, 2, 5) := ⟨_, _, _, "HullLine$Bag", rfl, by decide, by decide, ing 870 rfl rfl, Or.inl rfl⟩
set_option maxRecDepth 100000 in
theorem fl_4 : Fok (0, 26, 2, 0) := ⟨_, _, _, "HullLine$Bag", rfl, by decide, by decide, ing 860 rfl rfl, Or.inl rfl⟩
set_option maxRecDepth 100000 in
theorem fl_5 : Fok (0, 29, 2, 1) := ⟨_, _, _, "HullLine$Bag", rfl, by decide, by decide, ing 862 rfl rfl, Or.inl rfl⟩
set_option maxRecDepth 100000 in
theorem fl_6 : Fok (0, 32, 2, 2) := ⟨_, _, _, "HullLine$Bag", rfl, by decide, by decide, ing 864 rfl rfl, Or.inl rfl⟩
set_option maxRecDepth 100000 in
theorem fl_7 : Fok (1, 9, 3, 2) := ⟨_, _, _, "HullLine$Boat", rfl, by decide, by decide, ing 441 rfl rfl, Or.inl rfl⟩
set_option maxRecDepth 100000 in
theorem fl_8 : Fok (1, 15, 3, 9) := ⟨_, _, _, "HullLine$Boat", rfl, by decide, by decide, ing 453 rfl rfl, Or.inl rfl⟩
set_option maxRecDepth 100000 in
theorem fl_9 : Fok (1, 18, 3, 0) := ⟨_, _, _, "HullLine$Boat", rfl, by decide, by decide, ing 437 rfl rfl, Or.inl rfl⟩
set_option maxRecDepth 100000 in
theorem fl_10 : Fok (1, 21, 3, 1) := ⟨_, _, _, "HullLine$Boat", rfl, by decide, by decide, ing 439 rfl rfl, Or.inl rfl⟩
set_option maxRecDepth 100000 in
theorem fl_11 : Fok (1, 25, 3, 3) := ⟨_, _, _, "HullLine$Boat", rfl, by decide, by decide, ing 443 rfl rfl, Or.inl rfl⟩
set_option maxRecDepth 100000 in
theorem fl_12 : Fok (1, 29, 3, 4) := ⟨_, _, _, "HullLine$Boat", rfl, by decide, by decide, ing 445 rfl rfl, Or.inl rfl⟩
set_option maxRecDepth 100000 in
theorem fl_13 : Fok (1, 32, 5, 0) := ⟨_, _, _, "HullLine$Hull", rfl, by decide, by decide, ing 398 rfl rfl, Or.inl rfl⟩
set_option maxRecDepth 100000 in
theorem fl_14 : Fok (1, 37, 3, 5) := ⟨_, _, _, "HullLine$Boat", rfl, by decide, by decide, ing 446 rfl rfl, Or.inl rfl⟩
set_option maxRecDepth 100000 in
theorem fl_15 : Fok (1, 40, 3, 7) := ⟨_, _, _, "HullLine$Boat", rfl, by decide, by decide, ing 450 rfl rfl, Or.inl rfl⟩
set_option maxRecDepth 100000 in
theorem fl_16 : Fok (1, 43, 3, 10) := ⟨_, _, _, "HullLine$Boat", rfl, by decide, by decide, ing 455 rfl rfl, Or.inl rfl⟩
set_option maxRecDepth 100000 in
theorem fl_17 : Fok (1, 50, 3, 6) := ⟨_, _, _, "HullLine$Boat", rfl, by decide, by decide, ing 448 rfl rfl, Or.inl rfl⟩
set_option maxRecDepth 100000 in
theorem fl_18 : Fok (1, 63, 3, 14) := ⟨_, _, _, "HullLine$Boat", rfl, by decide, by decide, ing 462 rfl rfl, Or.inl rfl⟩
set_option maxRecDepth 100000 in
theorem fl_19 : Fok (1, 65, 3, 15) := ⟨_, _, _, "HullLine$Boat", rfl, by decide, by decide, ing 464 rfl rfl, Or.inl rfl⟩
set_option maxRecDepth 100000 in
theorem fl_20 : Fok (1, 71, 3, 13) := ⟨_, _, _, "HullLine$Boat", rfl, by decide, by decide, ing 460 rfl rfl, Or.inl rfl⟩
set_option maxRecDepth 100000 in
theorem fl_21 : Fok (1, 74, 3, 12) := ⟨_, _, _, "HullLine$Boat", rfl, by decide, by decide, ing 458 rfl rfl, Or.inl rfl⟩
set_option maxRecDepth 100000 in
theorem fl_22 : Fok (1, 77, 3, 16) := ⟨_, _, _, "HullLine$Boat", rfl, by decide, by decide, ing 466 rfl rfl, Or.inl rfl⟩
set_option maxRecDepth 100000 in
theorem fl_23 : Fok (2, 11, 4, 0) := ⟨_, _, _, "HullLine$Facts", rfl, by decide, by decide, ing 70 rfl rfl, Or.inl rfl⟩
set_option maxRecDepth 100000 in
theorem fl_24 : Fok (2, 15, 4, 1) := ⟨_, _, _, "HullLine$Facts", rfl, by decide, by decide, ing 71 rfl rfl, Or.inl rfl⟩
set_option maxRecDepth 100000 in
theorem fl_25 : Fok (2, 18, 4, 2) := ⟨_, _, _, "HullLine$Facts", rfl, by decide, by decide, ing 72 rfl rfl, Or.inl rfl⟩
set_option maxRecDepth 100000 in
theorem fl_26 : Fok (2, 21, 4, 3) := ⟨_, _, _, "HullLine$Facts", rfl, by decide, by decide, ing 73 rfl rfl, Or.inl rfl⟩
set_option maxRecDepth 100000 in
theorem fl_27 : Fok (2, 24, 4, 4) := ⟨_, _, _, "HullLine$Facts", rfl, by decide, by decide, ing 74 rfl rfl, Or.inl rfl⟩
set_option maxRecDepth 100000 in
theorem fl_28 : Fok (2, 32, 10, 0) := ⟨_, _, _, "HullLine$Stop", rfl, by decide, by decide, ing 238 rfl rfl, Or.inl rfl⟩
set_option maxRecDepth 100000 in
theorem fl_29 : Fok (2, 41, 6, 0) := ⟨_, _, _, "HullLine$Leg", rfl, by decide, by decide, ing 364 rfl rfl, Or.inl rfl⟩
set_option maxRecDepth 100000 in
theorem fl_30 : Fok (2, 44, 6, 1) := ⟨_, _, _, "HullLine$Leg", rfl, by decide, by decide, ing 366 rfl rfl, Or.inl rfl⟩
set_option maxRecDepth 100000 in
theorem fl_31 : Fok (3, 9, 5, 0) := ⟨_, _, _, "HullLine$Hull", rfl, by decide, by decide, ing 397 rfl rfl, Or.inl rfl⟩
set_option maxRecDepth 100000 in
theorem fl_32 : Fok (3, 15, 5, 1) := ⟨_, _, _, "HullLine$Hull", rfl, by decide, by decide, ing 399 rfl rfl, Or.inl rfl⟩
set_option maxRecDepth 100000 in
theorem fl_33 : Fok (3, 18, 5, 2) := ⟨_, _, _, "HullLine$Hull", rfl, by decide, by decide, ing 400 rfl rfl, Or.inl rfl⟩
set_option maxRecDepth 100000 in
theorem fl_34 : Fok (3, 21, 5, 3) := ⟨_, _, _, "HullLine$Hull", rfl, by decide, by decide, ing 401 rfl rfl, Or.inl rfl⟩
set_option maxRecDepth 100000 in
theorem fl_35 : Fok (3, 24, 5, 4) := ⟨_, _, _, "HullLine$Hull", rfl, by decide, by decide, ing 402 rfl rfl, Or.inl rfl⟩
set_option maxRecDepth 100000 in
theorem fl_36 : Fok (3, 27, 5, 5) := ⟨_, _, _, "HullLine$Hull", rfl, by decide, by decide, ing 405 rfl rfl, Or.inl rfl⟩
set_option maxRecDepth 100000 in
theorem fl_37 : Fok (3, 30, 5, 6) := ⟨_, _, _, "HullLine$Hull", rfl, by decide, by decide, ing 407 rfl rfl, Or.inl rfl⟩
set_option maxRecDepth 100000 in
theorem fl_38 : Fok (4, 9, 6, 0) := ⟨_, _, _, "HullLine$Leg", rfl, by decide, by decide, ing 363 rfl rfl, Or.inl rfl⟩
set_option maxRecDepth 100000 in
theorem fl_39 : Fok (4, 15, 6, 1) := ⟨_, _, _, "HullLine$Leg", rfl, by decide, by decide, ing 365 rfl rfl, Or.inl rfl⟩
set_option maxRecDepth 100000 in
theorem fl_40 : Fok (4, 19, 6, 2) := ⟨_, _, _, "HullLine$Leg", rfl, by decide, by decide, ing 368 rfl rfl, Or.inl rfl⟩
set_option maxRecDepth 100000 in
theorem fl_41 : Fok (4, 22, 6, 3) := ⟨_, _, _, "HullLine$Leg", rfl, by decide, by decide, ing 369 rfl rfl, Or.inl rfl⟩
set_option maxRecDepth 100000 in
theorem fl_42 : Fok (5, 11, 7, 0) := ⟨_, _, _, "HullLine$LiftLog", rfl, by decide, by decide, ing 124 rfl rfl, Or.inl rfl⟩
set_option maxRecDepth 100000 in
theorem fl_43 : Fok (5, 15, 7, 1) := ⟨_, _, _, "HullLine$LiftLog", rfl, by decide, by decide, ing 125 rfl rfl, Or.inl rfl⟩
set_option maxRecDepth 100000 in
theorem fl_44 : Fok (5, 18, 7, 2) := ⟨_, _, _, "HullLine$LiftLog", rfl, by decide, by decide, ing 126 rfl rfl, Or.inl rfl⟩
set_option maxRecDepth 100000 in
theorem fl_45 : Fok (5, 21, 7, 3) := ⟨_, _, _, "HullLine$LiftLog", rfl, by decide, by decide, ing 127 rfl rfl, Or.inl rfl⟩
set_option maxRecDepth 100000 in
theorem fl_46 : Fok (6, 11, 8, 5) := ⟨_, _, _, "HullLine$Planner", rfl, by decide, by decide, ing 950 rfl rfl, Or.inl rfl⟩
set_option maxRecDepth 100000 in
theorem fl_47 : Fok (6, 15, 8, 6) := ⟨_, _, _, "HullLine$Planner", rfl, by decide, by decide, ing 951 rfl rfl, Or.inl rfl⟩
set_option maxRecDepth 100000 in
theorem fl_48 : Fok (6, 19, 8, 8) := ⟨_, _, _, "HullLine$Planner", rfl, by decide, by decide, ing 953 rfl rfl, Or.inl rfl⟩
set_option maxRecDepth 100000 in
theorem fl_49 : Fok (6, 23, 8, 0) := ⟨_, _, _, "HullLine$Planner", rfl, by decide, by decide, ing 945 rfl rfl, Or.inl rfl⟩
def fll_0 : List (Nat × Nat × Nat × Nat) := [(0, 9, 2, 3), (0, 15, 2, 4), (0, 19, 2, 6), (0, 22, 2, 5), (0, 26, 2, 0), (0, 29, 2, 1), (0, 32, 2, 2), (1, 9, 3, 2), (1, 15, 3, 9), (1, 18, 3, 0), (1, 21, 3, 1), (1, 25, 3, 3), (1, 29, 3, 4), (1, 32, 5, 0), (1, 37, 3, 5), (1, 40, 3, 7), (1, 43, 3, 10), (1, 50, 3, 6), (1, 63, 3, 14), (1, 65, 3, 15), (1, 71, 3, 13), (1, 74, 3, 12), (1, 77, 3, 16), (2, 11, 4, 0), (2, 15, 4, 1), (2, 18, 4, 2), (2, 21, 4, 3), (2, 24, 4, 4), (2, 32, 10, 0), (2, 41, 6, 0), (2, 44, 6, 1), (3, 9, 5, 0), (3, 15, 5, 1), (3, 18, 5, 2), (3, 21, 5, 3), (3, 24, 5, 4), (3, 27, 5, 5), (3, 30, 5, 6), (4, 9, 6, 0), (4, 15, 6, 1), (4, 19, 6, 2), (4, 22, 6, 3), (5, 11, 7, 0), (5, 15, 7, 1), (5, 18, 7, 2), (5, 21, 7, 3), (6, 11, 8, 5), (6, 15, 8, 6), (6, 19, 8, 8), (6, 23, 8, 0)]
theorem fls_0 : ∀ e ∈ fll_0, Fok e := List.forall_mem_cons.mpr ⟨fl_0, List.forall_mem_cons.mpr ⟨fl_1, List.forall_mem_cons.mpr ⟨fl_2, List.forall_mem_cons.mpr ⟨fl_3, List.forall_mem_cons.mpr ⟨fl_4, List.forall_mem_cons.mpr ⟨fl_5, List.forall_mem_cons.mpr ⟨fl_6, List.forall_mem_cons.mpr ⟨fl_7, List.forall_mem_cons.mpr ⟨fl_8, List.forall_mem_cons.mpr ⟨fl_9, List.forall_mem_cons.mpr ⟨fl_10, List.forall_mem_cons.mpr ⟨fl_11, List.forall_mem_cons.mpr ⟨fl_12, List.forall_mem_cons.mpr ⟨fl_13, List.forall_mem_cons.mpr ⟨fl_14, List.forall_mem_cons.mpr ⟨fl_15, List.forall_mem_cons.mpr ⟨fl_16, List.forall_mem_cons.mpr ⟨fl_17, List.forall_mem_cons.mpr ⟨fl_18, List.forall_mem_cons.mpr ⟨fl_19, List.forall_mem_cons.mpr ⟨fl_20, List.forall_mem_cons.mpr ⟨fl_21, List.forall_mem_cons.mpr ⟨fl_22, List.forall_mem_cons.mpr ⟨fl_23, List.forall_mem_cons.mpr ⟨fl_24, List.forall_mem_cons.mpr ⟨fl_25, List.forall_mem_cons.mpr ⟨fl_26, List.forall_mem_cons.mpr ⟨fl_27, List.forall_mem_cons.mpr ⟨fl_28, List.forall_mem_cons.mpr ⟨fl_29, List.forall_mem_cons.mpr ⟨fl_30, List.forall_mem_cons.mpr ⟨fl_31, List.forall_mem_cons.mpr ⟨fl_32, List.forall_mem_cons.mpr ⟨fl_33, List.forall_mem_cons.mpr ⟨fl_34, List.forall_mem_cons.mpr ⟨fl_35, List.forall_mem_cons.mpr ⟨fl_36, List.forall_mem_cons.mpr ⟨fl_37, List.forall_mem_cons.mpr ⟨fl_38, List.forall_mem_cons.mpr ⟨fl_39, List.forall_mem_cons.mpr ⟨fl_40, List.forall_mem_cons.mpr ⟨fl_41, List.forall_mem_cons.mpr ⟨fl_42, List.forall_mem_cons.mpr ⟨fl_43, List.forall_mem_cons.mpr ⟨fl_44, List.forall_mem_cons.mpr ⟨fl_45, List.forall_mem_cons.mpr ⟨fl_46, List.forall_mem_cons.mpr ⟨fl_47, List.forall_mem_cons.mpr ⟨fl_48, List.forall_mem_cons.mpr ⟨fl_49, fun _ h => absurd h List.not_mem_nil⟩⟩⟩⟩⟩⟩⟩⟩⟩⟩⟩⟩⟩⟩⟩⟩⟩⟩⟩⟩⟩⟩⟩⟩⟩⟩⟩⟩⟩⟩⟩⟩⟩⟩⟩⟩⟩⟩⟩⟩⟩⟩⟩⟩⟩⟩⟩⟩⟩⟩
set_option maxRecDepth 100000 in
theorem fl_50 : Fok (6, 27, 8, 1) := ⟨_, _, _, "HullLine$Planner", rfl, by decide, by decide, ing 946 rfl rfl, Or.inl rfl⟩
set_option maxRecDepth 100000 in
theorem fl_51 : Fok (6, 31, 8, 2) := ⟨_, _, _, "HullLine$Planner", rfl, by decide, by decide, ing 947 rfl rfl, Or.inl rfl⟩
set_option maxRecDepth 100000 in
theorem fl_52 : Fok (6, 34, 8, 3) := ⟨_, _, _, "HullLine$Planner", rfl, by decide, by decide, ing 948 rfl rfl, Or.inl rfl⟩
set_option maxRecDepth 100000 in
theorem fl_53 : Fok (6, 38, 8, 4) := ⟨_, _, _, "HullLine$Planner", rfl, by decide, by decide, ing 949 rfl rfl, Or.inl rfl⟩
set_option maxRecDepth 100000 in
theorem fl_54 : Fok (6, 47, 8, 7) := ⟨_, _, _, "HullLine$Planner", rfl, by decide, by decide, ing 952 rfl rfl, Or.inl rfl⟩
set_option maxRecDepth 100000 in
theorem fl_55 : Fok (6, 50, 5, 4) := ⟨_, _, _, "HullLine$Hull", rfl, by decide, by decide, ing 403 rfl rfl, Or.inl rfl⟩
set_option maxRecDepth 100000 in
theorem fl_56 : Fok (6, 55, 10, 0) := ⟨_, _, _, "HullLine$Stop", rfl, by decide, by decide, ing 239 rfl rfl, Or.inl rfl⟩
set_option maxRecDepth 100000 in
theorem fl_57 : Fok (6, 99, 10, 4) := ⟨_, _, _, "HullLine$Stop", rfl, by decide, by decide, ing 248 rfl rfl, Or.inl rfl⟩
set_option maxRecDepth 100000 in
theorem fl_58 : Fok (6, 108, 10, 3) := ⟨_, _, _, "HullLine$Stop", rfl, by decide, by decide, ing 245 rfl rfl, Or.inl rfl⟩
set_option maxRecDepth 100000 in
theorem fl_59 : Fok (7, 11, 9, 0) := ⟨_, _, _, "HullLine$Rules", rfl, by decide, by decide, ing 144 rfl rfl, Or.inl rfl⟩
set_option maxRecDepth 100000 in
theorem fl_60 : Fok (7, 15, 9, 1) := ⟨_, _, _, "HullLine$Rules", rfl, by decide, by decide, ing 145 rfl rfl, Or.inl rfl⟩
set_option maxRecDepth 100000 in
theorem fl_61 : Fok (7, 19, 9, 2) := ⟨_, _, _, "HullLine$Rules", rfl, by decide, by decide, ing 146 rfl rfl, Or.inl rfl⟩
set_option maxRecDepth 100000 in
theorem fl_62 : Fok (7, 22, 9, 3) := ⟨_, _, _, "HullLine$Rules", rfl, by decide, by decide, ing 147 rfl rfl, Or.inl rfl⟩
set_option maxRecDepth 100000 in
theorem fl_63 : Fok (7, 25, 9, 4) := ⟨_, _, _, "HullLine$Rules", rfl, by decide, by decide, ing 148 rfl rfl, Or.inl rfl⟩
set_option maxRecDepth 100000 in
theorem fl_64 : Fok (7, 28, 9, 5) := ⟨_, _, _, "HullLine$Rules", rfl, by decide, by decide, ing 149 rfl rfl, Or.inl rfl⟩
set_option maxRecDepth 100000 in
theorem fl_65 : Fok (7, 31, 9, 6) := ⟨_, _, _, "HullLine$Rules", rfl, by decide, by decide, ing 150 rfl rfl, Or.inl rfl⟩
set_option maxRecDepth 100000 in
theorem fl_66 : Fok (7, 34, 9, 7) := ⟨_, _, _, "HullLine$Rules", rfl, by decide, by decide, ing 151 rfl rfl, Or.inl rfl⟩
set_option maxRecDepth 100000 in
theorem fl_67 : Fok (7, 43, 11, 2) := ⟨_, _, _, "HullLine$Tape", rfl, by decide, by decide, ing 97 rfl rfl, Or.inl rfl⟩
set_option maxRecDepth 100000 in
theorem fl_68 : Fok (7, 56, 11, 3) := ⟨_, _, _, "HullLine$Tape", rfl, by decide, by decide, ing 99 rfl rfl, Or.inl rfl⟩
set_option maxRecDepth 100000 in
theorem fl_69 : Fok (7, 72, 11, 5) := ⟨_, _, _, "HullLine$Tape", rfl, by decide, by decide, ing 102 rfl rfl, Or.inl rfl⟩
set_option maxRecDepth 100000 in
theorem fl_70 : Fok (8, 7, 10, 0) := ⟨_, _, _, "HullLine$Stop", rfl, by decide, by decide, ing 237 rfl rfl, Or.inl rfl⟩
set_option maxRecDepth 100000 in
theorem fl_71 : Fok (8, 13, 10, 1) := ⟨_, _, _, "HullLine$Stop", rfl, by decide, by decide, ing 241 rfl rfl, Or.inl rfl⟩
set_option maxRecDepth 100000 in
theorem fl_72 : Fok (8, 16, 10, 2) := ⟨_, _, _, "HullLine$Stop", rfl, by decide, by decide, ing 242 rfl rfl, Or.inl rfl⟩
set_option maxRecDepth 100000 in
theorem fl_73 : Fok (8, 19, 10, 3) := ⟨_, _, _, "HullLine$Stop", rfl, by decide, by decide, ing 244 rfl rfl, Or.inl rfl⟩
set_option maxRecDepth 100000 in
theorem fl_74 : Fok (8, 23, 10, 5) := ⟨_, _, _, "HullLine$Stop", rfl, by decide, by decide, ing 249 rfl rfl, Or.inl rfl⟩
set_option maxRecDepth 100000 in
theorem fl_75 : Fok (9, 11, 11, 0) := ⟨_, _, _, "HullLine$Tape", rfl, by decide, by decide, ing 94 rfl rfl, Or.inl rfl⟩
set_option maxRecDepth 100000 in
theorem fl_76 : Fok (9, 15, 11, 1) := ⟨_, _, _, "HullLine$Tape", rfl, by decide, by decide, ing 95 rfl rfl, Or.inl rfl⟩
set_option maxRecDepth 100000 in
theorem fl_77 : Fok (9, 19, 11, 4) := ⟨_, _, _, "HullLine$Tape", rfl, by decide, by decide, ing 101 rfl rfl, Or.inl rfl⟩
set_option maxRecDepth 100000 in
theorem fl_78 : Fok (9, 25, 11, 3) := ⟨_, _, _, "HullLine$Tape", rfl, by decide, by decide, ing 100 rfl rfl, Or.inl rfl⟩
set_option maxRecDepth 100000 in
theorem fl_79 : Fok (9, 36, 11, 2) := ⟨_, _, _, "HullLine$Tape", rfl, by decide, by decide, ing 98 rfl rfl, Or.inl rfl⟩
set_option maxRecDepth 100000 in
theorem fl_80 : Fok (9, 51, 11, 5) := ⟨_, _, _, "HullLine$Tape", rfl, by decide, by decide, ing 103 rfl rfl, Or.inl rfl⟩
set_option maxRecDepth 100000 in
theorem fl_81 : Fok (10, 10, 12, 0) := ⟨_, _, _, "HullLine", rfl, by decide, by decide, ing 171 rfl rfl, Or.inl rfl⟩
set_option maxRecDepth 100000 in
theorem fl_82 : Fok (10, 16, 12, 1) := ⟨_, _, _, "HullLine", rfl, by decide, by decide, ing 172 rfl rfl, Or.inl rfl⟩
set_option maxRecDepth 100000 in
theorem fl_83 : Fok (10, 19, 12, 2) := ⟨_, _, _, "HullLine", rfl, by decide, by decide, ing 173 rfl rfl, Or.inl rfl⟩
set_option maxRecDepth 100000 in
theorem fl_84 : Fok (10, 22, 12, 3) := ⟨_, _, _, "HullLine", rfl, by decide, by decide, ing 174 rfl rfl, Or.inl rfl⟩
set_option maxRecDepth 100000 in
theorem fl_85 : Fok (10, 28, 12, 4) := ⟨_, _, _, "HullLine", rfl, by decide, by decide, ing 175 rfl rfl, Or.inl rfl⟩
set_option maxRecDepth 100000 in
theorem fl_86 : Fok (10, 35, 12, 5) := ⟨_, _, _, "HullLine", rfl, by decide, by decide, ing 176 rfl rfl, Or.inl rfl⟩
set_option maxRecDepth 100000 in
theorem fl_87 : Fok (10, 42, 12, 6) := ⟨_, _, _, "HullLine", rfl, by decide, by decide, ing 177 rfl rfl, Or.inl rfl⟩
set_option maxRecDepth 100000 in
theorem fl_88 : Fok (10, 46, 12, 7) := ⟨_, _, _, "HullLine", rfl, by decide, by decide, ing 178 rfl rfl, Or.inl rfl⟩
set_option maxRecDepth 100000 in
theorem fl_89 : Fok (10, 53, 12, 8) := ⟨_, _, _, "HullLine", rfl, by decide, by decide, ing 179 rfl rfl, Or.inl rfl⟩
set_option maxRecDepth 100000 in
theorem fl_90 : Fok (10, 57, 12, 9) := ⟨_, _, _, "HullLine", rfl, by decide, by decide, ing 180 rfl rfl, Or.inl rfl⟩
set_option maxRecDepth 100000 in
theorem fl_91 : Fok (10, 88, 10, 4) := ⟨_, _, _, "HullLine$Stop", rfl, by decide, by decide, ing 247 rfl rfl, Or.inl rfl⟩
set_option maxRecDepth 100000 in
theorem fl_92 : Fok (10, 109, 10, 5) := ⟨_, _, _, "HullLine$Stop", rfl, by decide, by decide, ing 250 rfl rfl, Or.inl rfl⟩
set_option maxRecDepth 100000 in
theorem fl_93 : Fok (10, 120, 4, 4) := ⟨_, _, _, "HullLine$Facts", rfl, by decide, by decide, ing 75 rfl rfl, Or.inl rfl⟩
set_option maxRecDepth 100000 in
theorem fl_94 : Fok (10, 127, 6, 1) := ⟨_, _, _, "HullLine$Leg", rfl, by decide, by decide, ing 367 rfl rfl, Or.inl rfl⟩
set_option maxRecDepth 100000 in
theorem fl_95 : Fok (10, 135, 11, 1) := ⟨_, _, _, "HullLine$Tape", rfl, by decide, by decide, ing 96 rfl rfl, Or.inl rfl⟩
set_option maxRecDepth 100000 in
theorem fl_96 : Fok (10, 146, 9, 7) := ⟨_, _, _, "HullLine$Rules", rfl, by decide, by decide, ing 152 rfl rfl, Or.inl rfl⟩
set_option maxRecDepth 100000 in
theorem fl_97 : Fok (10, 157, 3, 3) := ⟨_, _, _, "HullLine$Boat", rfl, by decide, by decide, ing 444 rfl rfl, Or.inl rfl⟩
set_option maxRecDepth 100000 in
theorem fl_98 : Fok (10, 160, 3, 1) := ⟨_, _, _, "HullLine$Boat", rfl, by decide, by decide, ing 440 rfl rfl, Or.inl rfl⟩
set_option maxRecDepth 100000 in
theorem fl_99 : Fok (10, 164, 5, 4) := ⟨_, _, _, "HullLine$Hull", rfl, by decide, by decide, ing 404 rfl rfl, Or.inl rfl⟩
def fll_1 : List (Nat × Nat × Nat × Nat) := [(6, 27, 8, 1), (6, 31, 8, 2), (6, 34, 8, 3), (6, 38, 8, 4), (6, 47, 8, 7), (6, 50, 5, 4), (6, 55, 10, 0), (6, 99, 10, 4), (6, 108, 10, 3), (7, 11, 9, 0), (7, 15, 9, 1), (7, 19, 9, 2), (7, 22, 9, 3), (7, 25, 9, 4), (7, 28, 9, 5), (7, 31, 9, 6), (7, 34, 9, 7), (7, 43, 11, 2), (7, 56, 11, 3), (7, 72, 11, 5), (8, 7, 10, 0), (8, 13, 10, 1), (8, 16, 10, 2), (8, 19, 10, 3), (8, 23, 10, 5), (9, 11, 11, 0), (9, 15, 11, 1), (9, 19, 11, 4), (9, 25, 11, 3), (9, 36, 11, 2), (9, 51, 11, 5), (10, 10, 12, 0), (10, 16, 12, 1), (10, 19, 12, 2), (10, 22, 12, 3), (10, 28, 12, 4), (10, 35, 12, 5), (10, 42, 12, 6), (10, 46, 12, 7), (10, 53, 12, 8), (10, 57, 12, 9), (10, 88, 10, 4), (10, 109, 10, 5), (10, 120, 4, 4), (10, 127, 6, 1), (10, 135, 11, 1), (10, 146, 9, 7), (10, 157, 3, 3), (10, 160, 3, 1), (10, 164, 5, 4)]
theorem fls_1 : ∀ e ∈ fll_1, Fok e := List.forall_mem_cons.mpr ⟨fl_50, List.forall_mem_cons.mpr ⟨fl_51, List.forall_mem_cons.mpr ⟨fl_52, List.forall_mem_cons.mpr ⟨fl_53, List.forall_mem_cons.mpr ⟨fl_54, List.forall_mem_cons.mpr ⟨fl_55, List.forall_mem_cons.mpr ⟨fl_56, List.forall_mem_cons.mpr ⟨fl_57, List.forall_mem_cons.mpr ⟨fl_58, List.forall_mem_cons.mpr ⟨fl_59, List.forall_mem_cons.mpr ⟨fl_60, List.forall_mem_cons.mpr ⟨fl_61, List.forall_mem_cons.mpr ⟨fl_62, List.forall_mem_cons.mpr ⟨fl_63, List.forall_mem_cons.mpr ⟨fl_64, List.forall_mem_cons.mpr ⟨fl_65, List.forall_mem_cons.mpr ⟨fl_66, List.forall_mem_cons.mpr ⟨fl_67, List.forall_mem_cons.mpr ⟨fl_68, List.forall_mem_cons.mpr ⟨fl_69, List.forall_mem_cons.mpr ⟨fl_70, List.forall_mem_cons.mpr ⟨fl_71, List.forall_mem_cons.mpr ⟨fl_72, List.forall_mem_cons.mpr ⟨fl_73, List.forall_mem_cons.mpr ⟨fl_74, List.forall_mem_cons.mpr ⟨fl_75, List.forall_mem_cons.mpr ⟨fl_76, List.forall_mem_cons.mpr ⟨fl_77, List.forall_mem_cons.mpr ⟨fl_78, List.forall_mem_cons.mpr ⟨fl_79, List.forall_mem_cons.mpr ⟨fl_80, List.forall_mem_cons.mpr ⟨fl_81, List.forall_mem_cons.mpr ⟨fl_82, List.forall_mem_cons.mpr ⟨fl_83, List.forall_mem_cons.mpr ⟨fl_84, List.forall_mem_cons.mpr ⟨fl_85, List.forall_mem_cons.mpr ⟨fl_86, List.forall_mem_cons.mpr ⟨fl_87, List.forall_mem_cons.mpr ⟨fl_88, List.forall_mem_cons.mpr ⟨fl_89, List.forall_mem_cons.mpr ⟨fl_90, List.forall_mem_cons.mpr ⟨fl_91, List.forall_mem_cons.mpr ⟨fl_92, List.forall_mem_cons.mpr ⟨fl_93, List.forall_mem_cons.mpr ⟨fl_94, List.forall_mem_cons.mpr ⟨fl_95, List.forall_mem_cons.mpr ⟨fl_96, List.forall_mem_cons.mpr ⟨fl_97, List.forall_mem_cons.mpr ⟨fl_98, List.forall_mem_cons.mpr ⟨fl_99, fun _ h => absurd h List.not_mem_nil⟩⟩⟩⟩⟩⟩⟩⟩⟩⟩⟩⟩⟩⟩⟩⟩⟩⟩⟩⟩⟩⟩⟩⟩⟩⟩⟩⟩⟩⟩⟩⟩⟩⟩⟩⟩⟩⟩⟩⟩⟩⟩⟩⟩⟩⟩⟩⟩⟩⟩
set_option maxRecDepth 100000 in
theorem fl_100 : Fok (10, 167, 3, 5) := ⟨_, _, _, "HullLine$Boat", rfl, by decide, by decide, ing 447 rfl rfl, Or.inl rfl⟩
set_option maxRecDepth 100000 in
theorem fl_101 : Fok (10, 176, 12, 12) := ⟨_, _, _, "HullLine", rfl, by decide, by decide, ing 183 rfl rfl, Or.inl rfl⟩
set_option maxRecDepth 100000 in
theorem fl_102 : Fok (10, 198, 3, 9) := ⟨_, _, _, "HullLine$Boat", rfl, by decide, by decide, ing 454 rfl rfl, Or.inl rfl⟩
set_option maxRecDepth 100000 in
theorem fl_103 : Fok (10, 204, 3, 6) := ⟨_, _, _, "HullLine$Boat", rfl, by decide, by decide, ing 449 rfl rfl, Or.inl rfl⟩
set_option maxRecDepth 100000 in
theorem fl_104 : Fok (10, 228, 3, 12) := ⟨_, _, _, "HullLine$Boat", rfl, by decide, by decide, ing 459 rfl rfl, Or.inl rfl⟩
set_option maxRecDepth 100000 in
theorem fl_105 : Fok (10, 231, 3, 14) := ⟨_, _, _, "HullLine$Boat", rfl, by decide, by decide, ing 463 rfl rfl, Or.inl rfl⟩
set_option maxRecDepth 100000 in
theorem fl_106 : Fok (10, 233, 3, 15) := ⟨_, _, _, "HullLine$Boat", rfl, by decide, by decide, ing 465 rfl rfl, Or.inl rfl⟩
set_option maxRecDepth 100000 in
theorem fl_107 : Fok (10, 246, 12, 10) := ⟨_, _, _, "HullLine", rfl, by decide, by decide, ing 181 rfl rfl, Or.inl rfl⟩
set_option maxRecDepth 100000 in
theorem fl_108 : Fok (10, 261, 10, 2) := ⟨_, _, _, "HullLine$Stop", rfl, by decide, by decide, ing 243 rfl rfl, Or.inl rfl⟩
set_option maxRecDepth 100000 in
theorem fl_109 : Fok (10, 268, 5, 6) := ⟨_, _, _, "HullLine$Hull", rfl, by decide, by decide, ing 408 rfl rfl, Or.inl rfl⟩
set_option maxRecDepth 100000 in
theorem fl_110 : Fok (10, 271, 3, 10) := ⟨_, _, _, "HullLine$Boat", rfl, by decide, by decide, ing 456 rfl rfl, Or.inl rfl⟩
set_option maxRecDepth 100000 in
theorem fl_111 : Fok (10, 274, 3, 8) := ⟨_, _, _, "HullLine$Boat", rfl, by decide, by decide, ing 452 rfl rfl, Or.inl rfl⟩
set_option maxRecDepth 100000 in
theorem fl_112 : Fok (10, 277, 3, 11) := ⟨_, _, _, "HullLine$Boat", rfl, by decide, by decide, ing 457 rfl rfl, Or.inl rfl⟩
set_option maxRecDepth 100000 in
theorem fl_113 : Fok (10, 281, 3, 2) := ⟨_, _, _, "HullLine$Boat", rfl, by decide, by decide, ing 442 rfl rfl, Or.inl rfl⟩
set_option maxRecDepth 100000 in
theorem fl_114 : Fok (10, 293, 2, 4) := ⟨_, _, _, "HullLine$Bag", rfl, by decide, by decide, ing 869 rfl rfl, Or.inl rfl⟩
set_option maxRecDepth 100000 in
theorem fl_115 : Fok (10, 294, 2, 5) := ⟨_, _, _, "HullLine$Bag", rfl, by decide, by decide, ing 871 rfl rfl, Or.inl rfl⟩
set_option maxRecDepth 100000 in
theorem fl_116 : Fok (10, 295, 3, 7) := ⟨_, _, _, "HullLine$Boat", rfl, by decide, by decide, ing 451 rfl rfl, Or.inl rfl⟩
set_option maxRecDepth 100000 in
theorem fl_117 : Fok (10, 298, 2, 1) := ⟨_, _, _, "HullLine$Bag", rfl, by decide, by decide, ing 863 rfl rfl, Or.inl rfl⟩
set_option maxRecDepth 100000 in
theorem fl_118 : Fok (10, 299, 5, 5) := ⟨_, _, _, "HullLine$Hull", rfl, by decide, by decide, ing 406 rfl rfl, Or.inl rfl⟩
set_option maxRecDepth 100000 in
theorem fl_119 : Fok (10, 302, 3, 0) := ⟨_, _, _, "HullLine$Boat", rfl, by decide, by decide, ing 438 rfl rfl, Or.inl rfl⟩
set_option maxRecDepth 100000 in
theorem fl_120 : Fok (10, 305, 2, 6) := ⟨_, _, _, "HullLine$Bag", rfl, by decide, by decide, ing 873 rfl rfl, Or.inl rfl⟩
set_option maxRecDepth 100000 in
theorem fl_121 : Fok (10, 319, 2, 3) := ⟨_, _, _, "HullLine$Bag", rfl, by decide, by decide, ing 867 rfl rfl, Or.inl rfl⟩
set_option maxRecDepth 100000 in
theorem fl_122 : Fok (10, 325, 10, 0) := ⟨_, _, _, "HullLine$Stop", rfl, by decide, by decide, ing 240 rfl rfl, Or.inl rfl⟩
set_option maxRecDepth 100000 in
theorem fl_123 : Fok (10, 326, 2, 7) := ⟨_, _, _, "HullLine$Bag", rfl, by decide, by decide, ing 874 rfl rfl, Or.inl rfl⟩
set_option maxRecDepth 100000 in
theorem fl_124 : Fok (10, 333, 3, 13) := ⟨_, _, _, "HullLine$Boat", rfl, by decide, by decide, ing 461 rfl rfl, Or.inl rfl⟩
set_option maxRecDepth 100000 in
theorem fl_125 : Fok (10, 338, 7, 3) := ⟨_, _, _, "HullLine$LiftLog", rfl, by decide, by decide, ing 128 rfl rfl, Or.inl rfl⟩
set_option maxRecDepth 100000 in
theorem fl_126 : Fok (10, 370, 12, 11) := ⟨_, _, _, "HullLine", rfl, by decide, by decide, ing 182 rfl rfl, Or.inl rfl⟩
set_option maxRecDepth 100000 in
theorem fl_127 : Fok (10, 373, 12, 13) := ⟨_, _, _, "HullLine", rfl, by decide, by decide, ing 184 rfl rfl, Or.inl rfl⟩
set_option maxRecDepth 100000 in
theorem fl_128 : Fok (10, 379, 10, 3) := ⟨_, _, _, "HullLine$Stop", rfl, by decide, by decide, ing 246 rfl rfl, Or.inl rfl⟩
set_option maxRecDepth 100000 in
theorem fl_129 : Fok (10, 410, 2, 0) := ⟨_, _, _, "HullLine$Bag", rfl, by decide, by decide, ing 861 rfl rfl, Or.inl rfl⟩
set_option maxRecDepth 100000 in
theorem fl_130 : Fok (10, 413, 2, 2) := ⟨_, _, _, "HullLine$Bag", rfl, by decide, by decide, ing 865 rfl rfl, Or.inl rfl⟩
set_option maxRecDepth 100000 in
theorem fl_131 : Fok (11, 7, 13, 3) := ⟨_, _, _, "HullLineModel", rfl, by decide, by decide, ing 1124 rfl rfl, Or.inl rfl⟩
set_option maxRecDepth 100000 in
theorem fl_132 : Fok (11, 13, 13, 4) := ⟨_, _, _, "HullLineModel", rfl, by decide, by decide, ing 1125 rfl rfl, Or.inl rfl⟩
set_option maxRecDepth 100000 in
theorem fl_133 : Fok (11, 16, 13, 5) := ⟨_, _, _, "HullLineModel", rfl, by decide, by decide, ing 1126 rfl rfl, Or.inl rfl⟩
set_option maxRecDepth 100000 in
theorem fl_134 : Fok (11, 20, 13, 6) := ⟨_, _, _, "HullLineModel", rfl, by decide, by decide, ing 1127 rfl rfl, Or.inl rfl⟩
set_option maxRecDepth 100000 in
theorem fl_135 : Fok (11, 23, 13, 8) := ⟨_, _, _, "HullLineModel", rfl, by decide, by decide, ing 1129 rfl rfl, Or.inl rfl⟩
set_option maxRecDepth 100000 in
theorem fl_136 : Fok (11, 26, 13, 9) := ⟨_, _, _, "HullLineModel", rfl, by decide, by decide, ing 1130 rfl rfl, Or.inl rfl⟩
set_option maxRecDepth 100000 in
theorem fl_137 : Fok (11, 29, 13, 10) := ⟨_, _, _, "HullLineModel", rfl, by decide, by decide, ing 1131 rfl rfl, Or.inl rfl⟩
set_option maxRecDepth 100000 in
theorem fl_138 : Fok (11, 32, 13, 12) := ⟨_, _, _, "HullLineModel", rfl, by decide, by decide, ing 1133 rfl rfl, Or.inl rfl⟩
set_option maxRecDepth 100000 in
theorem fl_139 : Fok (11, 35, 13, 13) := ⟨_, _, _, "HullLineModel", rfl, by decide, by decide, ing 1134 rfl rfl, Or.inl rfl⟩
set_option maxRecDepth 100000 in
theorem fl_140 : Fok (11, 38, 13, 14) := ⟨_, _, _, "HullLineModel", rfl, by decide, by decide, ing 1135 rfl rfl, Or.inl rfl⟩
set_option maxRecDepth 100000 in
theorem fl_141 : Fok (11, 41, 13, 15) := ⟨_, _, _, "HullLineModel", rfl, by decide, by decide, ing 1136 rfl rfl, Or.inl rfl⟩
set_option maxRecDepth 100000 in
theorem fl_142 : Fok (11, 44, 13, 17) := ⟨_, _, _, "HullLineModel", rfl, by decide, by decide, ing 1138 rfl rfl, Or.inl rfl⟩
set_option maxRecDepth 100000 in
theorem fl_143 : Fok (11, 47, 13, 18) := ⟨_, _, _, "HullLineModel", rfl, by decide, by decide, ing 1139 rfl rfl, Or.inl rfl⟩
set_option maxRecDepth 100000 in
theorem fl_144 : Fok (11, 50, 13, 19) := ⟨_, _, _, "HullLineModel", rfl, by decide, by decide, ing 1140 rfl rfl, Or.inl rfl⟩
set_option maxRecDepth 100000 in
theorem fl_145 : Fok (11, 53, 13, 20) := ⟨_, _, _, "HullLineModel", rfl, by decide, by decide, ing 1141 rfl rfl, Or.inl rfl⟩
set_option maxRecDepth 100000 in
theorem fl_146 : Fok (11, 56, 13, 21) := ⟨_, _, _, "HullLineModel", rfl, by decide, by decide, ing 1142 rfl rfl, Or.inl rfl⟩
set_option maxRecDepth 100000 in
theorem fl_147 : Fok (11, 59, 13, 22) := ⟨_, _, _, "HullLineModel", rfl, by decide, by decide, ing 1143 rfl rfl, Or.inl rfl⟩
set_option maxRecDepth 100000 in
theorem fl_148 : Fok (11, 62, 13, 23) := ⟨_, _, _, "HullLineModel", rfl, by decide, by decide, ing 1144 rfl rfl, Or.inl rfl⟩
set_option maxRecDepth 100000 in
theorem fl_149 : Fok (11, 65, 13, 24) := ⟨_, _, _, "HullLineModel", rfl, by decide, by decide, ing 1145 rfl rfl, Or.inl rfl⟩
def fll_2 : List (Nat × Nat × Nat × Nat) := [(10, 167, 3, 5), (10, 176, 12, 12), (10, 198, 3, 9), (10, 204, 3, 6), (10, 228, 3, 12), (10, 231, 3, 14), (10, 233, 3, 15), (10, 246, 12, 10), (10, 261, 10, 2), (10, 268, 5, 6), (10, 271, 3, 10), (10, 274, 3, 8), (10, 277, 3, 11), (10, 281, 3, 2), (10, 293, 2, 4), (10, 294, 2, 5), (10, 295, 3, 7), (10, 298, 2, 1), (10, 299, 5, 5), (10, 302, 3, 0), (10, 305, 2, 6), (10, 319, 2, 3), (10, 325, 10, 0), (10, 326, 2, 7), (10, 333, 3, 13), (10, 338, 7, 3), (10, 370, 12, 11), (10, 373, 12, 13), (10, 379, 10, 3), (10, 410, 2, 0), (10, 413, 2, 2), (11, 7, 13, 3), (11, 13, 13, 4), (11, 16, 13, 5), (11, 20, 13, 6), (11, 23, 13, 8), (11, 26, 13, 9), (11, 29, 13, 10), (11, 32, 13, 12), (11, 35, 13, 13), (11, 38, 13, 14), (11, 41, 13, 15), (11, 44, 13, 17), (11, 47, 13, 18), (11, 50, 13, 19), (11, 53, 13, 20), (11, 56, 13, 21), (11, 59, 13, 22), (11, 62, 13, 23), (11, 65, 13, 24)]
theorem fls_2 : ∀ e ∈ fll_2, Fok e := List.forall_mem_cons.mpr ⟨fl_100, List.forall_mem_cons.mpr ⟨fl_101, List.forall_mem_cons.mpr ⟨fl_102, List.forall_mem_cons.mpr ⟨fl_103, List.forall_mem_cons.mpr ⟨fl_104, List.forall_mem_cons.mpr ⟨fl_105, List.forall_mem_cons.mpr ⟨fl_106, List.forall_mem_cons.mpr ⟨fl_107, List.forall_mem_cons.mpr ⟨fl_108, List.forall_mem_cons.mpr ⟨fl_109, List.forall_mem_cons.mpr ⟨fl_110, List.forall_mem_cons.mpr ⟨fl_111, List.forall_mem_cons.mpr ⟨fl_112, List.forall_mem_cons.mpr ⟨fl_113, List.forall_mem_cons.mpr ⟨fl_114, List.forall_mem_cons.mpr ⟨fl_115, List.forall_mem_cons.mpr ⟨fl_116, List.forall_mem_cons.mpr ⟨fl_117, List.forall_mem_cons.mpr ⟨fl_118, List.forall_mem_cons.mpr ⟨fl_119, List.forall_mem_cons.mpr ⟨fl_120, List.forall_mem_cons.mpr ⟨fl_121, List.forall_mem_cons.mpr ⟨fl_122, List.forall_mem_cons.mpr ⟨fl_123, List.forall_mem_cons.mpr ⟨fl_124, List.forall_mem_cons.mpr ⟨fl_125, List.forall_mem_cons.mpr ⟨fl_126, List.forall_mem_cons.mpr ⟨fl_127, List.forall_mem_cons.mpr ⟨fl_128, List.forall_mem_cons.mpr ⟨fl_129, List.forall_mem_cons.mpr ⟨fl_130, List.forall_mem_cons.mpr ⟨fl_131, List.forall_mem_cons.mpr ⟨fl_132, List.forall_mem_cons.mpr ⟨fl_133, List.forall_mem_cons.mpr ⟨fl_134, List.forall_mem_cons.mpr ⟨fl_135, List.forall_mem_cons.mpr ⟨fl_136, List.forall_mem_cons.mpr ⟨fl_137, List.forall_mem_cons.mpr ⟨fl_138, List.forall_mem_cons.mpr ⟨fl_139, List.forall_mem_cons.mpr ⟨fl_140, List.forall_mem_cons.mpr ⟨fl_141, List.forall_mem_cons.mpr ⟨fl_142, List.forall_mem_cons.mpr ⟨fl_143, List.forall_mem_cons.mpr ⟨fl_144, List.forall_mem_cons.mpr ⟨fl_145, List.forall_mem_cons.mpr ⟨fl_146, List.forall_mem_cons.mpr ⟨fl_147, List.forall_mem_cons.mpr ⟨fl_148, List.forall_mem_cons.mpr ⟨fl_149, fun _ h => absurd h List.not_mem_nil⟩⟩⟩⟩⟩⟩⟩⟩⟩⟩⟩⟩⟩⟩⟩⟩⟩⟩⟩⟩⟩⟩⟩⟩⟩⟩⟩⟩⟩⟩⟩⟩⟩⟩⟩⟩⟩⟩⟩⟩⟩⟩⟩⟩⟩⟩⟩⟩⟩⟩
set_option maxRecDepth 100000 in
theorem fl_150 : Fok (11, 68, 13, 25) := ⟨_, _, _, "HullLineModel", rfl, by decide, by decide, ing 1146 rfl rfl, Or.inl rfl⟩
set_option maxRecDepth 100000 in
theorem fl_151 : Fok (11, 71, 13, 26) := ⟨_, _, _, "HullLineModel", rfl, by decide, by decide, ing 1147 rfl rfl, Or.inl rfl⟩
set_option maxRecDepth 100000 in
theorem fl_152 : Fok (11, 74, 13, 27) := ⟨_, _, _, "HullLineModel", rfl, by decide, by decide, ing 1148 rfl rfl, Or.inl rfl⟩
set_option maxRecDepth 100000 in
theorem fl_153 : Fok (11, 77, 13, 28) := ⟨_, _, _, "HullLineModel", rfl, by decide, by decide, ing 1149 rfl rfl, Or.inl rfl⟩
set_option maxRecDepth 100000 in
theorem fl_154 : Fok (11, 80, 13, 29) := ⟨_, _, _, "HullLineModel", rfl, by decide, by decide, ing 1150 rfl rfl, Or.inl rfl⟩
set_option maxRecDepth 100000 in
theorem fl_155 : Fok (11, 83, 13, 30) := ⟨_, _, _, "HullLineModel", rfl, by decide, by decide, ing 1151 rfl rfl, Or.inl rfl⟩
set_option maxRecDepth 100000 in
theorem fl_156 : Fok (11, 86, 13, 31) := ⟨_, _, _, "HullLineModel", rfl, by decide, by decide, ing 1152 rfl rfl, Or.inl rfl⟩
set_option maxRecDepth 100000 in
theorem fl_157 : Fok (11, 89, 13, 32) := ⟨_, _, _, "HullLineModel", rfl, by decide, by decide, ing 1153 rfl rfl, Or.inl rfl⟩
set_option maxRecDepth 100000 in
theorem fl_158 : Fok (11, 92, 13, 33) := ⟨_, _, _, "HullLineModel", rfl, by decide, by decide, ing 1154 rfl rfl, Or.inl rfl⟩
set_option maxRecDepth 100000 in
theorem fl_159 : Fok (11, 95, 13, 34) := ⟨_, _, _, "HullLineModel", rfl, by decide, by decide, ing 1155 rfl rfl, Or.inl rfl⟩
set_option maxRecDepth 100000 in
theorem fl_160 : Fok (11, 98, 13, 35) := ⟨_, _, _, "HullLineModel", rfl, by decide, by decide, ing 1156 rfl rfl, Or.inl rfl⟩
set_option maxRecDepth 100000 in
theorem fl_161 : Fok (11, 101, 13, 36) := ⟨_, _, _, "HullLineModel", rfl, by decide, by decide, ing 1157 rfl rfl, Or.inl rfl⟩
set_option maxRecDepth 100000 in
theorem fl_162 : Fok (11, 104, 13, 39) := ⟨_, _, _, "HullLineModel", rfl, by decide, by decide, ing 1160 rfl rfl, Or.inl rfl⟩
set_option maxRecDepth 100000 in
theorem fl_163 : Fok (11, 108, 13, 42) := ⟨_, _, _, "HullLineModel", rfl, by decide, by decide, ing 1163 rfl rfl, Or.inl rfl⟩
set_option maxRecDepth 100000 in
theorem fl_164 : Fok (11, 111, 13, 43) := ⟨_, _, _, "HullLineModel", rfl, by decide, by decide, ing 1164 rfl rfl, Or.inl rfl⟩
set_option maxRecDepth 100000 in
theorem fl_165 : Fok (11, 114, 13, 44) := ⟨_, _, _, "HullLineModel", rfl, by decide, by decide, ing 1165 rfl rfl, Or.inl rfl⟩
set_option maxRecDepth 100000 in
theorem fl_166 : Fok (11, 117, 13, 45) := ⟨_, _, _, "HullLineModel", rfl, by decide, by decide, ing 1166 rfl rfl, Or.inl rfl⟩
set_option maxRecDepth 100000 in
theorem fl_167 : Fok (11, 120, 13, 46) := ⟨_, _, _, "HullLineModel", rfl, by decide, by decide, ing 1167 rfl rfl, Or.inl rfl⟩
set_option maxRecDepth 100000 in
theorem fl_168 : Fok (11, 123, 13, 47) := ⟨_, _, _, "HullLineModel", rfl, by decide, by decide, ing 1168 rfl rfl, Or.inl rfl⟩
set_option maxRecDepth 100000 in
theorem fl_169 : Fok (11, 126, 13, 48) := ⟨_, _, _, "HullLineModel", rfl, by decide, by decide, ing 1169 rfl rfl, Or.inl rfl⟩
set_option maxRecDepth 100000 in
theorem fl_170 : Fok (11, 129, 13, 49) := ⟨_, _, _, "HullLineModel", rfl, by decide, by decide, ing 1170 rfl rfl, Or.inl rfl⟩
set_option maxRecDepth 100000 in
theorem fl_171 : Fok (11, 132, 13, 57) := ⟨_, _, _, "HullLineModel", rfl, by decide, by decide, ing 1178 rfl rfl, Or.inl rfl⟩
set_option maxRecDepth 100000 in
theorem fl_172 : Fok (11, 135, 13, 58) := ⟨_, _, _, "HullLineModel", rfl, by decide, by decide, ing 1179 rfl rfl, Or.inl rfl⟩
set_option maxRecDepth 100000 in
theorem fl_173 : Fok (11, 138, 13, 59) := ⟨_, _, _, "HullLineModel", rfl, by decide, by decide, ing 1180 rfl rfl, Or.inl rfl⟩
set_option maxRecDepth 100000 in
theorem fl_174 : Fok (11, 141, 13, 61) := ⟨_, _, _, "HullLineModel", rfl, by decide, by decide, ing 1182 rfl rfl, Or.inl rfl⟩
set_option maxRecDepth 100000 in
theorem fl_175 : Fok (11, 144, 13, 62) := ⟨_, _, _, "HullLineModel", rfl, by decide, by decide, ing 1183 rfl rfl, Or.inl rfl⟩
set_option maxRecDepth 100000 in
theorem fl_176 : Fok (11, 147, 13, 63) := ⟨_, _, _, "HullLineModel", rfl, by decide, by decide, ing 1184 rfl rfl, Or.inl rfl⟩
set_option maxRecDepth 100000 in
theorem fl_177 : Fok (11, 150, 13, 64) := ⟨_, _, _, "HullLineModel", rfl, by decide, by decide, ing 1185 rfl rfl, Or.inl rfl⟩
set_option maxRecDepth 100000 in
theorem fl_178 : Fok (11, 153, 13, 65) := ⟨_, _, _, "HullLineModel", rfl, by decide, by decide, ing 1186 rfl rfl, Or.inl rfl⟩
set_option maxRecDepth 100000 in
theorem fl_179 : Fok (11, 156, 13, 66) := ⟨_, _, _, "HullLineModel", rfl, by decide, by decide, ing 1187 rfl rfl, Or.inl rfl⟩
set_option maxRecDepth 100000 in
theorem fl_180 : Fok (11, 159, 13, 67) := ⟨_, _, _, "HullLineModel", rfl, by decide, by decide, ing 1188 rfl rfl, Or.inl rfl⟩
set_option maxRecDepth 100000 in
theorem fl_181 : Fok (11, 162, 13, 68) := ⟨_, _, _, "HullLineModel", rfl, by decide, by decide, ing 1189 rfl rfl, Or.inl rfl⟩
set_option maxRecDepth 100000 in
theorem fl_182 : Fok (11, 165, 13, 74) := ⟨_, _, _, "HullLineModel", rfl, by decide, by decide, ing 1195 rfl rfl, Or.inl rfl⟩
set_option maxRecDepth 100000 in
theorem fl_183 : Fok (11, 168, 13, 75) := ⟨_, _, _, "HullLineModel", rfl, by decide, by decide, ing 1196 rfl rfl, Or.inl rfl⟩
set_option maxRecDepth 100000 in
theorem fl_184 : Fok (11, 171, 13, 0) := ⟨_, _, _, "HullLineModel", rfl, by decide, by decide, ing 1121 rfl rfl, Or.inl rfl⟩
set_option maxRecDepth 100000 in
theorem fl_185 : Fok (11, 175, 13, 2) := ⟨_, _, _, "HullLineModel", rfl, by decide, by decide, ing 1123 rfl rfl, Or.inl rfl⟩
set_option maxRecDepth 100000 in
theorem fl_186 : Fok (11, 178, 13, 7) := ⟨_, _, _, "HullLineModel", rfl, by decide, by decide, ing 1128 rfl rfl, Or.inl rfl⟩
set_option maxRecDepth 100000 in
theorem fl_187 : Fok (11, 189, 13, 11) := ⟨_, _, _, "HullLineModel", rfl, by decide, by decide, ing 1132 rfl rfl, Or.inl rfl⟩
set_option maxRecDepth 100000 in
theorem fl_188 : Fok (11, 210, 13, 16) := ⟨_, _, _, "HullLineModel", rfl, by decide, by decide, ing 1137 rfl rfl, Or.inl rfl⟩
set_option maxRecDepth 100000 in
theorem fl_189 : Fok (11, 222, 13, 60) := ⟨_, _, _, "HullLineModel", rfl, by decide, by decide, ing 1181 rfl rfl, Or.inl rfl⟩
set_option maxRecDepth 100000 in
theorem fl_190 : Fok (11, 232, 13, 40) := ⟨_, _, _, "HullLineModel", rfl, by decide, by decide, ing 1161 rfl rfl, Or.inl rfl⟩
set_option maxRecDepth 100000 in
theorem fl_191 : Fok (11, 239, 13, 51) := ⟨_, _, _, "HullLineModel", rfl, by decide, by decide, ing 1172 rfl rfl, Or.inl rfl⟩
set_option maxRecDepth 100000 in
theorem fl_192 : Fok (11, 242, 13, 50) := ⟨_, _, _, "HullLineModel", rfl, by decide, by decide, ing 1171 rfl rfl, Or.inl rfl⟩
set_option maxRecDepth 100000 in
theorem fl_193 : Fok (11, 280, 13, 53) := ⟨_, _, _, "HullLineModel", rfl, by decide, by decide, ing 1174 rfl rfl, Or.inl rfl⟩
set_option maxRecDepth 100000 in
theorem fl_194 : Fok (11, 283, 13, 52) := ⟨_, _, _, "HullLineModel", rfl, by decide, by decide, ing 1173 rfl rfl, Or.inl rfl⟩
set_option maxRecDepth 100000 in
theorem fl_195 : Fok (11, 290, 13, 54) := ⟨_, _, _, "HullLineModel", rfl, by decide, by decide, ing 1175 rfl rfl, Or.inl rfl⟩
set_option maxRecDepth 100000 in
theorem fl_196 : Fok (11, 293, 13, 55) := ⟨_, _, _, "HullLineModel", rfl, by decide, by decide, ing 1176 rfl rfl, Or.inl rfl⟩
set_option maxRecDepth 100000 in
theorem fl_197 : Fok (11, 315, 13, 41) := ⟨_, _, _, "HullLineModel", rfl, by decide, by decide, ing 1162 rfl rfl, Or.inl rfl⟩
set_option maxRecDepth 100000 in
theorem fl_198 : Fok (11, 318, 13, 1) := ⟨_, _, _, "HullLineModel", rfl, by decide, by decide, ing 1122 rfl rfl, Or.inl rfl⟩
set_option maxRecDepth 100000 in
theorem fl_199 : Fok (11, 337, 13, 38) := ⟨_, _, _, "HullLineModel", rfl, by decide, by decide, ing 1159 rfl rfl, Or.inl rfl⟩
def fll_3 : List (Nat × Nat × Nat × Nat) := [(11, 68, 13, 25), (11, 71, 13, 26), (11, 74, 13, 27), (11, 77, 13, 28), (11, 80, 13, 29), (11, 83, 13, 30), (11, 86, 13, 31), (11, 89, 13, 32), (11, 92, 13, 33), (11, 95, 13, 34), (11, 98, 13, 35), (11, 101, 13, 36), (11, 104, 13, 39), (11, 108, 13, 42), (11, 111, 13, 43), (11, 114, 13, 44), (11, 117, 13, 45), (11, 120, 13, 46), (11, 123, 13, 47), (11, 126, 13, 48), (11, 129, 13, 49), (11, 132, 13, 57), (11, 135, 13, 58), (11, 138, 13, 59), (11, 141, 13, 61), (11, 144, 13, 62), (11, 147, 13, 63), (11, 150, 13, 64), (11, 153, 13, 65), (11, 156, 13, 66), (11, 159, 13, 67), (11, 162, 13, 68), (11, 165, 13, 74), (11, 168, 13, 75), (11, 171, 13, 0), (11, 175, 13, 2), (11, 178, 13, 7), (11, 189, 13, 11), (11, 210, 13, 16), (11, 222, 13, 60), (11, 232, 13, 40), (11, 239, 13, 51), (11, 242, 13, 50), (11, 280, 13, 53), (11, 283, 13, 52), (11, 290, 13, 54), (11, 293, 13, 55), (11, 315, 13, 41), (11, 318, 13, 1), (11, 337, 13, 38)]
theorem fls_3 : ∀ e ∈ fll_3, Fok e := List.forall_mem_cons.mpr ⟨fl_150, List.forall_mem_cons.mpr ⟨fl_151, List.forall_mem_cons.mpr ⟨fl_152, List.forall_mem_cons.mpr ⟨fl_153, List.forall_mem_cons.mpr ⟨fl_154, List.forall_mem_cons.mpr ⟨fl_155, List.forall_mem_cons.mpr ⟨fl_156, List.forall_mem_cons.mpr ⟨fl_157, List.forall_mem_cons.mpr ⟨fl_158, List.forall_mem_cons.mpr ⟨fl_159, List.forall_mem_cons.mpr ⟨fl_160, List.forall_mem_cons.mpr ⟨fl_161, List.forall_mem_cons.mpr ⟨fl_162, List.forall_mem_cons.mpr ⟨fl_163, List.forall_mem_cons.mpr ⟨fl_164, List.forall_mem_cons.mpr ⟨fl_165, List.forall_mem_cons.mpr ⟨fl_166, List.forall_mem_cons.mpr ⟨fl_167, List.forall_mem_cons.mpr ⟨fl_168, List.forall_mem_cons.mpr ⟨fl_169, List.forall_mem_cons.mpr ⟨fl_170, List.forall_mem_cons.mpr ⟨fl_171, List.forall_mem_cons.mpr ⟨fl_172, List.forall_mem_cons.mpr ⟨fl_173, List.forall_mem_cons.mpr ⟨fl_174, List.forall_mem_cons.mpr ⟨fl_175, List.forall_mem_cons.mpr ⟨fl_176, List.forall_mem_cons.mpr ⟨fl_177, List.forall_mem_cons.mpr ⟨fl_178, List.forall_mem_cons.mpr ⟨fl_179, List.forall_mem_cons.mpr ⟨fl_180, List.forall_mem_cons.mpr ⟨fl_181, List.forall_mem_cons.mpr ⟨fl_182, List.forall_mem_cons.mpr ⟨fl_183, List.forall_mem_cons.mpr ⟨fl_184, List.forall_mem_cons.mpr ⟨fl_185, List.forall_mem_cons.mpr ⟨fl_186, List.forall_mem_cons.mpr ⟨fl_187, List.forall_mem_cons.mpr ⟨fl_188, List.forall_mem_cons.mpr ⟨fl_189, List.forall_mem_cons.mpr ⟨fl_190, List.forall_mem_cons.mpr ⟨fl_191, List.forall_mem_cons.mpr ⟨fl_192, List.forall_mem_cons.mpr ⟨fl_193, List.forall_mem_cons.mpr ⟨fl_194, List.forall_mem_cons.mpr ⟨fl_195, List.forall_mem_cons.mpr ⟨fl_196, List.forall_mem_cons.mpr ⟨fl_197, List.forall_mem_cons.mpr ⟨fl_198, List.forall_mem_cons.mpr ⟨fl_199, fun _ h => absurd h List.not_mem_nil⟩⟩⟩⟩⟩⟩⟩⟩⟩⟩⟩⟩⟩⟩⟩⟩⟩⟩⟩⟩⟩⟩⟩⟩⟩⟩⟩⟩⟩⟩⟩⟩⟩⟩⟩⟩⟩⟩⟩⟩⟩⟩⟩⟩⟩⟩⟩⟩⟩⟩
set_option maxRecDepth 100000 in
theorem fl_200 : Fok (11, 361, 13, 56) := ⟨_, _, _, "HullLineModel", rfl, by decide, by decide, ing 1177 rfl rfl, Or.inl rfl⟩
set_option maxRecDepth 100000 in
theorem fl_201 : Fok (11, 367, 13, 37) := ⟨_, _, _, "HullLineModel", rfl, by decide, by decide, ing 1158 rfl rfl, Or.inl rfl⟩
set_option maxRecDepth 100000 in
theorem fl_202 : Fok (11, 387, 13, 71) := ⟨_, _, _, "HullLineModel", rfl, by decide, by decide, ing 1192 rfl rfl, Or.inl rfl⟩
set_option maxRecDepth 100000 in
theorem fl_203 : Fok (11, 390, 13, 69) := ⟨_, _, _, "HullLineModel", rfl, by decide, by decide, ing 1190 rfl rfl, Or.inl rfl⟩
set_option maxRecDepth 100000 in
theorem fl_204 : Fok (11, 393, 13, 76) := ⟨_, _, _, "HullLineModel", rfl, by decide, by decide, ing 1197 rfl rfl, Or.inl rfl⟩
set_option maxRecDepth 100000 in
theorem fl_205 : Fok (11, 399, 13, 70) := ⟨_, _, _, "HullLineModel", rfl, by decide, by decide, ing 1191 rfl rfl, Or.inl rfl⟩
set_option maxRecDepth 100000 in
theorem fl_206 : Fok (11, 406, 13, 72) := ⟨_, _, _, "HullLineModel", rfl, by decide, by decide, ing 1193 rfl rfl, Or.inl rfl⟩
set_option maxRecDepth 100000 in
theorem fl_207 : Fok (11, 409, 13, 73) := ⟨_, _, _, "HullLineModel", rfl, by decide, by decide, ing 1194 rfl rfl, Or.inl rfl⟩
set_option maxRecDepth 100000 in
theorem fl_208 : Fok (14, 7, 1, 0) := ⟨_, _, _, "java/util/AbstractList", rfl, by decide, by decide, ing 54 rfl rfl, Or.inl rfl⟩
set_option maxRecDepth 100000 in
theorem fl_209 : Fok (15, 9, 1, 1) := ⟨_, _, _, "java/util/ArrayList", rfl, by decide, by decide, ing 52 rfl rfl, Or.inl rfl⟩
set_option maxRecDepth 100000 in
theorem fl_210 : Fok (15, 48, 1, 2) := ⟨_, _, _, "java/util/ArrayList", rfl, by decide, by decide, ing 53 rfl rfl, Or.inl rfl⟩
set_option maxRecDepth 100000 in
theorem fl_211 : Fok (15, 63, 1, 0) := ⟨_, _, _, "java/util/ArrayList", rfl, by decide, by decide, ing 55 rfl rfl, Or.inr (ing 56 rfl rfl)⟩
def fll_4 : List (Nat × Nat × Nat × Nat) := [(11, 361, 13, 56), (11, 367, 13, 37), (11, 387, 13, 71), (11, 390, 13, 69), (11, 393, 13, 76), (11, 399, 13, 70), (11, 406, 13, 72), (11, 409, 13, 73), (14, 7, 1, 0), (15, 9, 1, 1), (15, 48, 1, 2), (15, 63, 1, 0)]
theorem fls_4 : ∀ e ∈ fll_4, Fok e := List.forall_mem_cons.mpr ⟨fl_200, List.forall_mem_cons.mpr ⟨fl_201, List.forall_mem_cons.mpr ⟨fl_202, List.forall_mem_cons.mpr ⟨fl_203, List.forall_mem_cons.mpr ⟨fl_204, List.forall_mem_cons.mpr ⟨fl_205, List.forall_mem_cons.mpr ⟨fl_206, List.forall_mem_cons.mpr ⟨fl_207, List.forall_mem_cons.mpr ⟨fl_208, List.forall_mem_cons.mpr ⟨fl_209, List.forall_mem_cons.mpr ⟨fl_210, List.forall_mem_cons.mpr ⟨fl_211, fun _ h => absurd h List.not_mem_nil⟩⟩⟩⟩⟩⟩⟩⟩⟩⟩⟩⟩
def fl : List (Nat × Nat × Nat × Nat) := fll_0 ++ (fll_1 ++ (fll_2 ++ (fll_3 ++ (fll_4))))
theorem fl_ok : ∀ e ∈ fl, Fok e := fun e => fun h => (List.mem_append.mp h).elim (fls_0 e) (fun h => (List.mem_append.mp h).elim (fls_1 e) (fun h => (List.mem_append.mp h).elim (fls_2 e) (fun h => (List.mem_append.mp h).elim (fls_3 e) (fls_4 e))))
/-- a call by its place: own class, place, method, form (0 virtual, 1 static, 2 a constructor, 3 static of a nest mate, 4 a nest mate's constructor, 5 through List) -/
def lin (k : Nat) : MethodName := ⟨"java/util/List", (myn k).name, (myn k).desc⟩
def Lok (e : Nat × Nat × Nat × Nat) : Prop := e.2.2.1 < mth.length ∧ match e.2.2.2 with
  | 0 => Cond.methodLink (own e.1) e.2.1 (myn e.2.2.1) ∈ gw ∧ Cond.instanceMethod (myn e.2.2.1) ∈ gw ∧ Cond.selects (myn e.2.2.1).cls (myn e.2.2.1) (myn e.2.2.1) ∈ gw ∧ (vwCl[mrk e.2.2.1 - 1]?).map (fun q => q.1) = some (myn e.2.2.1).cls ∧ (1 ≤ mrk e.2.2.1 ∧ mrk e.2.2.1 ≤ 13)
  | 1 => Cond.methodLink (own e.1) e.2.1 (myn e.2.2.1) ∈ gw ∧ Cond.static (myn e.2.2.1) ∈ gw ∧ mrk e.2.2.1 = 0
  | 2 => Cond.methodLink (own e.1) e.2.1 (myn e.2.2.1) ∈ gw ∧ Cond.instanceMethod (myn e.2.2.1) ∈ gw ∧ (myn e.2.2.1).name = "<init>" ∧ mrk e.2.2.1 ≠ 0 ∧ mre e.2.2.1 = none
  | 3 => Cond.methodLinkNest (own e.1) e.2.1 (myn e.2.2.1) "HullLine" ∈ tables_1 ∧ Cond.static (myn e.2.2.1) ∈ gw ∧ mrk e.2.2.1 = 0
  | 4 => Cond.methodLinkNest (own e.1) e.2.1 (myn e.2.2.1) "HullLine" ∈ tables_1 ∧ Cond.instanceMethod (myn e.2.2.1) ∈ gw ∧ (myn e.2.2.1).name = "<init>" ∧ mrk e.2.2.1 ≠ 0 ∧ mre e.2.2.1 = none
  | 5 => Cond.methodLink (own e.1) e.2.1 (lin e.2.2.1) ∈ gw ∧ Cond.instanceMethod (myn e.2.2.1) ∈ gw ∧ Cond.selects "java/util/ArrayList" (lin e.2.2.1) (myn e.2.2.1) ∈ gw ∧ mrk e.2.2.1 = 1 ∧ (Cond.declares (lin e.2.2.1) ∈ tables_1 ∧ Cond.interfaceMethod (lin e.2.2.1).cls (lin e.2.2.1).cls (lin e.2.2.1).name (lin e.2.2.1).desc ∈ tables_1 ∧ Cond.publicMethod (myn e.2.2.1) ∈ tables_1 ∧ Cond.unhidden "java/util/ArrayList" (lin e.2.2.1).name (lin e.2.2.1).desc ∈ tables_1 ∧ Cond.castable "java/util/ArrayList" (lin e.2.2.1).cls ∈ tables_1)
  | _ => False
set_option maxRecDepth 100000 in
theorem ml_0 : Lok (1, 46, 109, 3) := ⟨by decide, ⟨List.mem_of_getElem? (i := 779) rfl, ing 229 rfl rfl, rfl⟩⟩
set_option maxRecDepth 100000 in
theorem ml_1 : Lok (1, 53, 21, 0) := ⟨by decide, ⟨ing 785 rfl rfl, ing 786 rfl rfl, ing 787 rfl rfl, rfl, by decide⟩⟩
set_option maxRecDepth 100000 in
theorem ml_2 : Lok (1, 59, 16, 0) := ⟨by decide, ⟨ing 789 rfl rfl, ing 735 rfl rfl, ing 736 rfl rfl, rfl, by decide⟩⟩
set_option maxRecDepth 100000 in
theorem ml_3 : Lok (1, 68, 22, 0) := ⟨by decide, ⟨ing 790 rfl rfl, ing 740 rfl rfl, ing 741 rfl rfl, rfl, by decide⟩⟩
set_option maxRecDepth 100000 in
theorem ml_4 : Lok (2, 28, 109, 3) := ⟨by decide, ⟨List.mem_of_getElem? (i := 510) rfl, ing 229 rfl rfl, rfl⟩⟩
set_option maxRecDepth 100000 in
theorem ml_5 : Lok (2, 37, 13, 0) := ⟨by decide, ⟨ing 527 rfl rfl, ing 529 rfl rfl, ings 5 rfl rfl, rfl, by decide⟩⟩
set_option maxRecDepth 100000 in
theorem ml_6 : Lok (3, 34, 109, 3) := ⟨by decide, ⟨List.mem_of_getElem? (i := 429) rfl, ing 229 rfl rfl, rfl⟩⟩
set_option maxRecDepth 100000 in
theorem ml_7 : Lok (3, 45, 110, 3) := ⟨by decide, ⟨List.mem_of_getElem? (i := 761) rfl, ing 744 rfl rfl, rfl⟩⟩
set_option maxRecDepth 100000 in
theorem ml_8 : Lok (4, 25, 110, 3) := ⟨by decide, ⟨List.mem_of_getElem? (i := 743) rfl, ing 744 rfl rfl, rfl⟩⟩
set_option maxRecDepth 100000 in
theorem ml_9 : Lok (5, 25, 109, 3) := ⟨by decide, ⟨List.mem_of_getElem? (i := 917) rfl, ing 229 rfl rfl, rfl⟩⟩
set_option maxRecDepth 100000 in
theorem ml_10 : Lok (5, 29, 27, 0) := ⟨by decide, ⟨ing 918 rfl rfl, ing 920 rfl rfl, ings 27 rfl rfl, rfl, by decide⟩⟩
set_option maxRecDepth 100000 in
theorem ml_11 : Lok (6, 42, 109, 3) := ⟨by decide, ⟨List.mem_of_getElem? (i := 937) rfl, ing 229 rfl rfl, rfl⟩⟩
set_option maxRecDepth 100000 in
theorem ml_12 : Lok (6, 60, 32, 0) := ⟨by decide, ⟨ing 977 rfl rfl, ing 979 rfl rfl, ings 28 rfl rfl, rfl, by decide⟩⟩
set_option maxRecDepth 100000 in
theorem ml_13 : Lok (6, 64, 189, 5) := ⟨by decide, ⟨ing 982 rfl rfl, ing 225 rfl rfl, ing 223 rfl rfl, rfl, List.mem_of_getElem? (i := 221) rfl, List.mem_of_getElem? (i := 220) rfl, List.mem_of_getElem? (i := 226) rfl, List.mem_of_getElem? (i := 224) rfl, List.mem_of_getElem? (i := 222) rfl⟩⟩
set_option maxRecDepth 100000 in
theorem ml_14 : Lok (6, 70, 191, 5) := ⟨by decide, ⟨ing 984 rfl rfl, ing 344 rfl rfl, ing 342 rfl rfl, rfl, List.mem_of_getElem? (i := 341) rfl, List.mem_of_getElem? (i := 340) rfl, List.mem_of_getElem? (i := 345) rfl, List.mem_of_getElem? (i := 343) rfl, List.mem_of_getElem? (i := 222) rfl⟩⟩
set_option maxRecDepth 100000 in
theorem ml_15 : Lok (6, 76, 21, 0) := ⟨by decide, ⟨ing 986 rfl rfl, ing 786 rfl rfl, ing 787 rfl rfl, rfl, by decide⟩⟩
set_option maxRecDepth 100000 in
theorem ml_16 : Lok (6, 80, 20, 0) := ⟨by decide, ⟨ing 987 rfl rfl, ing 727 rfl rfl, ing 728 rfl rfl, rfl, by decide⟩⟩
set_option maxRecDepth 100000 in
theorem ml_17 : Lok (6, 84, 33, 0) := ⟨by decide, ⟨ing 988 rfl rfl, ing 990 rfl rfl, ings 29 rfl rfl, rfl, by decide⟩⟩
set_option maxRecDepth 100000 in
theorem ml_18 : Lok (6, 88, 34, 0) := ⟨by decide, ⟨ing 994 rfl rfl, ing 996 rfl rfl, ings 30 rfl rfl, rfl, by decide⟩⟩
set_option maxRecDepth 100000 in
theorem ml_19 : Lok (6, 91, 17, 0) := ⟨by decide, ⟨ing 1002 rfl rfl, ing 758 rfl rfl, ing 759 rfl rfl, rfl, by decide⟩⟩
set_option maxRecDepth 100000 in
theorem ml_20 : Lok (6, 95, 35, 0) := ⟨by decide, ⟨ing 1003 rfl rfl, ing 1005 rfl rfl, ings 31 rfl rfl, rfl, by decide⟩⟩
set_option maxRecDepth 100000 in
theorem ml_21 : Lok (6, 102, 11, 0) := ⟨by decide, ⟨ing 993 rfl rfl, ing 524 rfl rfl, ing 525 rfl rfl, rfl, by decide⟩⟩
set_option maxRecDepth 100000 in
theorem ml_22 : Lok (6, 112, 112, 3) := ⟨by decide, ⟨List.mem_of_getElem? (i := 1001) rfl, ing 829 rfl rfl, rfl⟩⟩
set_option maxRecDepth 100000 in
theorem ml_23 : Lok (6, 116, 12, 0) := ⟨by decide, ⟨ing 998 rfl rfl, ing 536 rfl rfl, ing 537 rfl rfl, rfl, by decide⟩⟩
set_option maxRecDepth 100000 in
theorem ml_24 : Lok (6, 120, 16, 0) := ⟨by decide, ⟨ing 999 rfl rfl, ing 735 rfl rfl, ing 736 rfl rfl, rfl, by decide⟩⟩
set_option maxRecDepth 100000 in
theorem ml_25 : Lok (6, 123, 22, 0) := ⟨by decide, ⟨ing 1000 rfl rfl, ing 740 rfl rfl, ing 741 rfl rfl, rfl, by decide⟩⟩
set_option maxRecDepth 100000 in
theorem ml_26 : Lok (7, 38, 50, 0) := ⟨by decide, ⟨ing 559 rfl rfl, ing 560 rfl rfl, ing 561 rfl rfl, rfl, by decide⟩⟩
set_option maxRecDepth 100000 in
theorem ml_27 : Lok (7, 46, 38, 0) := ⟨by decide, ⟨ing 588 rfl rfl, ing 590 rfl rfl, ings 9 rfl rfl, rfl, by decide⟩⟩
set_option maxRecDepth 100000 in
theorem ml_28 : Lok (7, 50, 40, 0) := ⟨by decide, ⟨ing 646 rfl rfl, ing 648 rfl rfl, ings 10 rfl rfl, rfl, by decide⟩⟩
set_option maxRecDepth 100000 in
theorem ml_29 : Lok (7, 53, 39, 1) := ⟨by decide, ⟨ing 672 rfl rfl, ing 673 rfl rfl, rfl⟩⟩
set_option maxRecDepth 100000 in
theorem ml_30 : Lok (7, 61, 54, 0) := ⟨by decide, ⟨ing 593 rfl rfl, ing 594 rfl rfl, ing 595 rfl rfl, rfl, by decide⟩⟩
set_option maxRecDepth 100000 in
theorem ml_31 : Lok (7, 67, 51, 0) := ⟨by decide, ⟨ing 644 rfl rfl, ing 564 rfl rfl, ing 565 rfl rfl, rfl, by decide⟩⟩
set_option maxRecDepth 100000 in
theorem ml_32 : Lok (7, 75, 55, 0) := ⟨by decide, ⟨ing 667 rfl rfl, ing 668 rfl rfl, ing 669 rfl rfl, rfl, by decide⟩⟩
set_option maxRecDepth 100000 in
theorem ml_33 : Lok (7, 81, 41, 0) := ⟨by decide, ⟨ing 651 rfl rfl, ing 653 rfl rfl, ings 11 rfl rfl, rfl, by decide⟩⟩
set_option maxRecDepth 100000 in
theorem ml_34 : Lok (7, 88, 42, 1) := ⟨by decide, ⟨ing 656 rfl rfl, ing 657 rfl rfl, rfl⟩⟩
set_option maxRecDepth 100000 in
theorem ml_35 : Lok (7, 107, 44, 0) := ⟨by decide, ⟨ing 709 rfl rfl, ing 711 rfl rfl, ings 16 rfl rfl, rfl, by decide⟩⟩
set_option maxRecDepth 100000 in
theorem ml_36 : Lok (7, 111, 109, 3) := ⟨by decide, ⟨List.mem_of_getElem? (i := 713) rfl, ing 229 rfl rfl, rfl⟩⟩
set_option maxRecDepth 100000 in
theorem ml_37 : Lok (7, 115, 45, 1) := ⟨by decide, ⟨ing 714 rfl rfl, ing 715 rfl rfl, rfl⟩⟩
set_option maxRecDepth 100000 in
theorem ml_38 : Lok (9, 22, 51, 0) := ⟨by decide, ⟨ing 563 rfl rfl, ing 564 rfl rfl, ing 565 rfl rfl, rfl, by decide⟩⟩
set_option maxRecDepth 100000 in
theorem ml_39 : Lok (9, 28, 56, 0) := ⟨by decide, ⟨ing 567 rfl rfl, ing 569 rfl rfl, ings 6 rfl rfl, rfl, by decide⟩⟩
set_option maxRecDepth 100000 in
theorem ml_40 : Lok (9, 32, 57, 1) := ⟨by decide, ⟨ing 571 rfl rfl, ing 572 rfl rfl, rfl⟩⟩
set_option maxRecDepth 100000 in
theorem ml_41 : Lok (9, 39, 58, 1) := ⟨by decide, ⟨ing 574 rfl rfl, ing 575 rfl rfl, rfl⟩⟩
set_option maxRecDepth 100000 in
theorem ml_42 : Lok (9, 42, 52, 0) := ⟨by decide, ⟨ing 577 rfl rfl, ing 579 rfl rfl, ings 7 rfl rfl, rfl, by decide⟩⟩
set_option maxRecDepth 100000 in
theorem ml_43 : Lok (9, 45, 59, 1) := ⟨by decide, ⟨ing 581 rfl rfl, ing 582 rfl rfl, rfl⟩⟩
set_option maxRecDepth 100000 in
theorem ml_44 : Lok (9, 48, 53, 0) := ⟨by decide, ⟨ing 584 rfl rfl, ing 586 rfl rfl, ings 8 rfl rfl, rfl, by decide⟩⟩
set_option maxRecDepth 100000 in
theorem ml_45 : Lok (10, 9, 188, 2) := ⟨by decide, ⟨ing 40 rfl rfl, ing 41 rfl rfl, by decide +kernel, by decide, rfl⟩⟩
set_option maxRecDepth 100000 in
theorem ml_46 : Lok (10, 27, 9, 2) := ⟨by decide, ⟨ing 66 rfl rfl, ing 67 rfl rfl, by decide +kernel, by decide, rfl⟩⟩
set_option maxRecDepth 100000 in
theorem ml_47 : Lok (10, 34, 48, 4) := ⟨by decide, ⟨List.mem_of_getElem? (i := 90) rfl, ing 91 rfl rfl, by decide +kernel, by decide, rfl⟩⟩
set_option maxRecDepth 100000 in
theorem ml_48 : Lok (10, 41, 23, 4) := ⟨by decide, ⟨List.mem_of_getElem? (i := 120) rfl, ing 121 rfl rfl, by decide +kernel, by decide, rfl⟩⟩
set_option maxRecDepth 100000 in
theorem ml_49 : Lok (10, 52, 36, 4) := ⟨by decide, ⟨List.mem_of_getElem? (i := 140) rfl, ing 141 rfl rfl, by decide +kernel, by decide, rfl⟩⟩
def mll_0 : List (Nat × Nat × Nat × Nat) := [(1, 46, 109, 3), (1, 53, 21, 0), (1, 59, 16, 0), (1, 68, 22, 0), (2, 28, 109, 3), (2, 37, 13, 0), (3, 34, 109, 3), (3, 45, 110, 3), (4, 25, 110, 3), (5, 25, 109, 3), (5, 29, 27, 0), (6, 42, 109, 3), (6, 60, 32, 0), (6, 64, 189, 5), (6, 70, 191, 5), (6, 76, 21, 0), (6, 80, 20, 0), (6, 84, 33, 0), (6, 88, 34, 0), (6, 91, 17, 0), (6, 95, 35, 0), (6, 102, 11, 0), (6, 112, 112, 3), (6, 116, 12, 0), (6, 120, 16, 0), (6, 123, 22, 0), (7, 38, 50, 0), (7, 46, 38, 0), (7, 50, 40, 0), (7, 53, 39, 1), (7, 61, 54, 0), (7, 67, 51, 0), (7, 75, 55, 0), (7, 81, 41, 0), (7, 88, 42, 1), (7, 107, 44, 0), (7, 111, 109, 3), (7, 115, 45, 1), (9, 22, 51, 0), (9, 28, 56, 0), (9, 32, 57, 1), (9, 39, 58, 1), (9, 42, 52, 0), (9, 45, 59, 1), (9, 48, 53, 0), (10, 9, 188, 2), (10, 27, 9, 2), (10, 34, 48, 4), (10, 41, 23, 4), (10, 52, 36, 4)]
theorem mls_0 : ∀ e ∈ mll_0, Lok e := List.forall_mem_cons.mpr ⟨ml_0, List.forall_mem_cons.mpr ⟨ml_1, List.forall_mem_cons.mpr ⟨ml_2, List.forall_mem_cons.mpr ⟨ml_3, List.forall_mem_cons.mpr ⟨ml_4, List.forall_mem_cons.mpr ⟨ml_5, List.forall_mem_cons.mpr ⟨ml_6, List.forall_mem_cons.mpr ⟨ml_7, List.forall_mem_cons.mpr ⟨ml_8, List.forall_mem_cons.mpr ⟨ml_9, List.forall_mem_cons.mpr ⟨ml_10, List.forall_mem_cons.mpr ⟨ml_11, List.forall_mem_cons.mpr ⟨ml_12, List.forall_mem_cons.mpr ⟨ml_13, List.forall_mem_cons.mpr ⟨ml_14, List.forall_mem_cons.mpr ⟨ml_15, List.forall_mem_cons.mpr ⟨ml_16, List.forall_mem_cons.mpr ⟨ml_17, List.forall_mem_cons.mpr ⟨ml_18, List.forall_mem_cons.mpr ⟨ml_19, List.forall_mem_cons.mpr ⟨ml_20, List.forall_mem_cons.mpr ⟨ml_21, List.forall_mem_cons.mpr ⟨ml_22, List.forall_mem_cons.mpr ⟨ml_23, List.forall_mem_cons.mpr ⟨ml_24, List.forall_mem_cons.mpr ⟨ml_25, List.forall_mem_cons.mpr ⟨ml_26, List.forall_mem_cons.mpr ⟨ml_27, List.forall_mem_cons.mpr ⟨ml_28, List.forall_mem_cons.mpr ⟨ml_29, List.forall_mem_cons.mpr ⟨ml_30, List.forall_mem_cons.mpr ⟨ml_31, List.forall_mem_cons.mpr ⟨ml_32, List.forall_mem_cons.mpr ⟨ml_33, List.forall_mem_cons.mpr ⟨ml_34, List.forall_mem_cons.mpr ⟨ml_35, List.forall_mem_cons.mpr ⟨ml_36, List.forall_mem_cons.mpr ⟨ml_37, List.forall_mem_cons.mpr ⟨ml_38, List.forall_mem_cons.mpr ⟨ml_39, List.forall_mem_cons.mpr ⟨ml_40, List.forall_mem_cons.mpr ⟨ml_41, List.forall_mem_cons.mpr ⟨ml_42, List.forall_mem_cons.mpr ⟨ml_43, List.forall_mem_cons.mpr ⟨ml_44, List.forall_mem_cons.mpr ⟨ml_45, List.forall_mem_cons.mpr ⟨ml_46, List.forall_mem_cons.mpr ⟨ml_47, List.forall_mem_cons.mpr ⟨ml_48, List.forall_mem_cons.mpr ⟨ml_49, fun _ h => absurd h List.not_mem_nil⟩⟩⟩⟩⟩⟩⟩⟩⟩⟩⟩⟩⟩⟩⟩⟩⟩⟩⟩⟩⟩⟩⟩⟩⟩⟩⟩⟩⟩⟩⟩⟩⟩⟩⟩⟩⟩⟩⟩⟩⟩⟩⟩⟩⟩⟩⟩⟩⟩⟩
set_option maxRecDepth 100000 in
theorem ml_50 : Lok (10, 60, 189, 5) := ⟨by decide, ⟨ing 219 rfl rfl, ing 225 rfl rfl, ing 223 rfl rfl, rfl, List.mem_of_getElem? (i := 221) rfl, List.mem_of_getElem? (i := 220) rfl, List.mem_of_getElem? (i := 226) rfl, List.mem_of_getElem? (i := 224) rfl, List.mem_of_getElem? (i := 222) rfl⟩⟩
set_option maxRecDepth 100000 in
theorem ml_51 : Lok (10, 66, 109, 1) := ⟨by decide, ⟨ing 228 rfl rfl, ing 229 rfl rfl, rfl⟩⟩
set_option maxRecDepth 100000 in
theorem ml_52 : Lok (10, 72, 46, 2) := ⟨by decide, ⟨ing 233 rfl rfl, ing 234 rfl rfl, by decide +kernel, by decide, rfl⟩⟩
set_option maxRecDepth 100000 in
theorem ml_53 : Lok (10, 75, 193, 5) := ⟨by decide, ⟨ing 265 rfl rfl, ing 270 rfl rfl, ing 268 rfl rfl, rfl, List.mem_of_getElem? (i := 267) rfl, List.mem_of_getElem? (i := 266) rfl, List.mem_of_getElem? (i := 271) rfl, List.mem_of_getElem? (i := 269) rfl, List.mem_of_getElem? (i := 222) rfl⟩⟩
set_option maxRecDepth 100000 in
theorem ml_54 : Lok (10, 79, 91, 0) := ⟨by decide, ⟨ing 334 rfl rfl, ing 336 rfl rfl, ings 3 rfl rfl, rfl, by decide⟩⟩
set_option maxRecDepth 100000 in
theorem ml_55 : Lok (10, 85, 19, 2) := ⟨by decide, ⟨ing 359 rfl rfl, ing 360 rfl rfl, by decide +kernel, by decide, rfl⟩⟩
set_option maxRecDepth 100000 in
theorem ml_56 : Lok (10, 92, 47, 0) := ⟨by decide, ⟨ing 387 rfl rfl, ing 388 rfl rfl, ing 389 rfl rfl, rfl, by decide⟩⟩
set_option maxRecDepth 100000 in
theorem ml_57 : Lok (10, 97, 14, 2) := ⟨by decide, ⟨ing 393 rfl rfl, ing 394 rfl rfl, by decide +kernel, by decide, rfl⟩⟩
set_option maxRecDepth 100000 in
theorem ml_58 : Lok (10, 100, 15, 0) := ⟨by decide, ⟨ing 424 rfl rfl, ing 425 rfl rfl, ing 426 rfl rfl, rfl, by decide⟩⟩
set_option maxRecDepth 100000 in
theorem ml_59 : Lok (10, 106, 2, 2) := ⟨by decide, ⟨ing 433 rfl rfl, ing 434 rfl rfl, by decide +kernel, by decide, rfl⟩⟩
set_option maxRecDepth 100000 in
theorem ml_60 : Lok (10, 112, 10, 0) := ⟨by decide, ⟨ing 506 rfl rfl, ing 507 rfl rfl, ing 508 rfl rfl, rfl, by decide⟩⟩
set_option maxRecDepth 100000 in
theorem ml_61 : Lok (10, 116, 92, 0) := ⟨by decide, ⟨ing 515 rfl rfl, ing 517 rfl rfl, ings 4 rfl rfl, rfl, by decide⟩⟩
set_option maxRecDepth 100000 in
theorem ml_62 : Lok (10, 123, 11, 0) := ⟨by decide, ⟨ing 523 rfl rfl, ing 524 rfl rfl, ing 525 rfl rfl, rfl, by decide⟩⟩
set_option maxRecDepth 100000 in
theorem ml_63 : Lok (10, 131, 12, 0) := ⟨by decide, ⟨ing 535 rfl rfl, ing 536 rfl rfl, ing 537 rfl rfl, rfl, by decide⟩⟩
set_option maxRecDepth 100000 in
theorem ml_64 : Lok (10, 138, 49, 0) := ⟨by decide, ⟨ing 543 rfl rfl, ing 544 rfl rfl, ing 545 rfl rfl, rfl, by decide⟩⟩
set_option maxRecDepth 100000 in
theorem ml_65 : Lok (10, 142, 37, 0) := ⟨by decide, ⟨ing 555 rfl rfl, ing 556 rfl rfl, ing 557 rfl rfl, rfl, by decide⟩⟩
set_option maxRecDepth 100000 in
theorem ml_66 : Lok (10, 149, 95, 0) := ⟨by decide, ⟨ing 679 rfl rfl, ing 681 rfl rfl, ings 12 rfl rfl, rfl, by decide⟩⟩
set_option maxRecDepth 100000 in
theorem ml_67 : Lok (10, 153, 98, 0) := ⟨by decide, ⟨ing 687 rfl rfl, ing 689 rfl rfl, ings 14 rfl rfl, rfl, by decide⟩⟩
set_option maxRecDepth 100000 in
theorem ml_68 : Lok (10, 179, 20, 0) := ⟨by decide, ⟨ing 726 rfl rfl, ing 727 rfl rfl, ing 728 rfl rfl, rfl, by decide⟩⟩
set_option maxRecDepth 100000 in
theorem ml_69 : Lok (10, 183, 97, 0) := ⟨by decide, ⟨ing 730 rfl rfl, ing 732 rfl rfl, ings 17 rfl rfl, rfl, by decide⟩⟩
set_option maxRecDepth 100000 in
theorem ml_70 : Lok (10, 187, 16, 0) := ⟨by decide, ⟨ing 734 rfl rfl, ing 735 rfl rfl, ing 736 rfl rfl, rfl, by decide⟩⟩
set_option maxRecDepth 100000 in
theorem ml_71 : Lok (10, 191, 22, 0) := ⟨by decide, ⟨ing 739 rfl rfl, ing 740 rfl rfl, ing 741 rfl rfl, rfl, by decide⟩⟩
set_option maxRecDepth 100000 in
theorem ml_72 : Lok (10, 194, 99, 0) := ⟨by decide, ⟨ing 746 rfl rfl, ing 748 rfl rfl, ings 18 rfl rfl, rfl, by decide⟩⟩
set_option maxRecDepth 100000 in
theorem ml_73 : Lok (10, 201, 3, 0) := ⟨by decide, ⟨ing 695 rfl rfl, ing 696 rfl rfl, ing 697 rfl rfl, rfl, by decide⟩⟩
set_option maxRecDepth 100000 in
theorem ml_74 : Lok (10, 207, 24, 0) := ⟨by decide, ⟨ing 766 rfl rfl, ing 767 rfl rfl, ing 768 rfl rfl, rfl, by decide⟩⟩
set_option maxRecDepth 100000 in
theorem ml_75 : Lok (10, 214, 107, 0) := ⟨by decide, ⟨ing 771 rfl rfl, ing 773 rfl rfl, ings 19 rfl rfl, rfl, by decide⟩⟩
set_option maxRecDepth 100000 in
theorem ml_76 : Lok (10, 218, 6, 0) := ⟨by decide, ⟨ing 781 rfl rfl, ing 782 rfl rfl, ing 783 rfl rfl, rfl, by decide⟩⟩
set_option maxRecDepth 100000 in
theorem ml_77 : Lok (10, 222, 93, 0) := ⟨by decide, ⟨ing 683 rfl rfl, ing 685 rfl rfl, ings 13 rfl rfl, rfl, by decide⟩⟩
set_option maxRecDepth 100000 in
theorem ml_78 : Lok (10, 225, 7, 0) := ⟨by decide, ⟨ing 795 rfl rfl, ing 796 rfl rfl, ing 797 rfl rfl, rfl, by decide⟩⟩
set_option maxRecDepth 100000 in
theorem ml_79 : Lok (10, 236, 111, 1) := ⟨by decide, ⟨ing 799 rfl rfl, ing 800 rfl rfl, rfl⟩⟩
set_option maxRecDepth 100000 in
theorem ml_80 : Lok (10, 239, 17, 0) := ⟨by decide, ⟨ing 757 rfl rfl, ing 758 rfl rfl, ing 759 rfl rfl, rfl, by decide⟩⟩
set_option maxRecDepth 100000 in
theorem ml_81 : Lok (10, 242, 8, 0) := ⟨by decide, ⟨ing 803 rfl rfl, ing 804 rfl rfl, ing 805 rfl rfl, rfl, by decide⟩⟩
set_option maxRecDepth 100000 in
theorem ml_82 : Lok (10, 249, 191, 5) := ⟨by decide, ⟨ing 339 rfl rfl, ing 344 rfl rfl, ing 342 rfl rfl, rfl, List.mem_of_getElem? (i := 341) rfl, List.mem_of_getElem? (i := 340) rfl, List.mem_of_getElem? (i := 345) rfl, List.mem_of_getElem? (i := 343) rfl, List.mem_of_getElem? (i := 222) rfl⟩⟩
set_option maxRecDepth 100000 in
theorem ml_83 : Lok (10, 253, 103, 0) := ⟨by decide, ⟨ing 816 rfl rfl, ing 818 rfl rfl, ings 20 rfl rfl, rfl, by decide⟩⟩
set_option maxRecDepth 100000 in
theorem ml_84 : Lok (10, 257, 4, 0) := ⟨by decide, ⟨ing 762 rfl rfl, ing 763 rfl rfl, ing 764 rfl rfl, rfl, by decide⟩⟩
set_option maxRecDepth 100000 in
theorem ml_85 : Lok (10, 264, 100, 0) := ⟨by decide, ⟨ing 839 rfl rfl, ing 841 rfl rfl, ings 24 rfl rfl, rfl, by decide⟩⟩
set_option maxRecDepth 100000 in
theorem ml_86 : Lok (10, 286, 0, 2) := ⟨by decide, ⟨ing 856 rfl rfl, ing 857 rfl rfl, by decide +kernel, by decide, rfl⟩⟩
set_option maxRecDepth 100000 in
theorem ml_87 : Lok (10, 289, 94, 0) := ⟨by decide, ⟨ing 896 rfl rfl, ing 898 rfl rfl, ings 25 rfl rfl, rfl, by decide⟩⟩
set_option maxRecDepth 100000 in
theorem ml_88 : Lok (10, 308, 108, 0) := ⟨by decide, ⟨ing 904 rfl rfl, ing 906 rfl rfl, ings 26 rfl rfl, rfl, by decide⟩⟩
set_option maxRecDepth 100000 in
theorem ml_89 : Lok (10, 322, 1, 0) := ⟨by decide, ⟨ing 1101 rfl rfl, ing 1102 rfl rfl, ing 1103 rfl rfl, rfl, by decide⟩⟩
set_option maxRecDepth 100000 in
theorem ml_90 : Lok (10, 342, 25, 0) := ⟨by decide, ⟨ing 913 rfl rfl, ing 914 rfl rfl, ing 915 rfl rfl, rfl, by decide⟩⟩
set_option maxRecDepth 100000 in
theorem ml_91 : Lok (10, 346, 26, 0) := ⟨by decide, ⟨ing 926 rfl rfl, ing 927 rfl rfl, ing 928 rfl rfl, rfl, by decide⟩⟩
set_option maxRecDepth 100000 in
theorem ml_92 : Lok (10, 349, 29, 1) := ⟨by decide, ⟨ing 934 rfl rfl, ing 935 rfl rfl, rfl⟩⟩
set_option maxRecDepth 100000 in
theorem ml_93 : Lok (10, 354, 28, 2) := ⟨by decide, ⟨ing 940 rfl rfl, ing 941 rfl rfl, by decide +kernel, by decide, rfl⟩⟩
set_option maxRecDepth 100000 in
theorem ml_94 : Lok (10, 357, 31, 0) := ⟨by decide, ⟨ing 973 rfl rfl, ing 974 rfl rfl, ing 975 rfl rfl, rfl, by decide⟩⟩
set_option maxRecDepth 100000 in
theorem ml_95 : Lok (10, 361, 30, 0) := ⟨by decide, ⟨ing 1008 rfl rfl, ing 1009 rfl rfl, ing 1010 rfl rfl, rfl, by decide⟩⟩
set_option maxRecDepth 100000 in
theorem ml_96 : Lok (10, 364, 101, 0) := ⟨by decide, ⟨ing 1016 rfl rfl, ing 1018 rfl rfl, ings 32 rfl rfl, rfl, by decide⟩⟩
set_option maxRecDepth 100000 in
theorem ml_97 : Lok (10, 367, 102, 0) := ⟨by decide, ⟨ing 1020 rfl rfl, ing 1022 rfl rfl, ings 33 rfl rfl, rfl, by decide⟩⟩
set_option maxRecDepth 100000 in
theorem ml_98 : Lok (10, 376, 96, 0) := ⟨by decide, ⟨ing 691 rfl rfl, ing 693 rfl rfl, ings 15 rfl rfl, rfl, by decide⟩⟩
set_option maxRecDepth 100000 in
theorem ml_99 : Lok (10, 382, 185, 1) := ⟨by decide, ⟨ing 699 rfl rfl, ing 700 rfl rfl, rfl⟩⟩
def mll_1 : List (Nat × Nat × Nat × Nat) := [(10, 60, 189, 5), (10, 66, 109, 1), (10, 72, 46, 2), (10, 75, 193, 5), (10, 79, 91, 0), (10, 85, 19, 2), (10, 92, 47, 0), (10, 97, 14, 2), (10, 100, 15, 0), (10, 106, 2, 2), (10, 112, 10, 0), (10, 116, 92, 0), (10, 123, 11, 0), (10, 131, 12, 0), (10, 138, 49, 0), (10, 142, 37, 0), (10, 149, 95, 0), (10, 153, 98, 0), (10, 179, 20, 0), (10, 183, 97, 0), (10, 187, 16, 0), (10, 191, 22, 0), (10, 194, 99, 0), (10, 201, 3, 0), (10, 207, 24, 0), (10, 214, 107, 0), (10, 218, 6, 0), (10, 222, 93, 0), (10, 225, 7, 0), (10, 236, 111, 1), (10, 239, 17, 0), (10, 242, 8, 0), (10, 249, 191, 5), (10, 253, 103, 0), (10, 257, 4, 0), (10, 264, 100, 0), (10, 286, 0, 2), (10, 289, 94, 0), (10, 308, 108, 0), (10, 322, 1, 0), (10, 342, 25, 0), (10, 346, 26, 0), (10, 349, 29, 1), (10, 354, 28, 2), (10, 357, 31, 0), (10, 361, 30, 0), (10, 364, 101, 0), (10, 367, 102, 0), (10, 376, 96, 0), (10, 382, 185, 1)]
theorem mls_1 : ∀ e ∈ mll_1, Lok e := List.forall_mem_cons.mpr ⟨ml_50, List.forall_mem_cons.mpr ⟨ml_51, List.forall_mem_cons.mpr ⟨ml_52, List.forall_mem_cons.mpr ⟨ml_53, List.forall_mem_cons.mpr ⟨ml_54, List.forall_mem_cons.mpr ⟨ml_55, List.forall_mem_cons.mpr ⟨ml_56, List.forall_mem_cons.mpr ⟨ml_57, List.forall_mem_cons.mpr ⟨ml_58, List.forall_mem_cons.mpr ⟨ml_59, List.forall_mem_cons.mpr ⟨ml_60, List.forall_mem_cons.mpr ⟨ml_61, List.forall_mem_cons.mpr ⟨ml_62, List.forall_mem_cons.mpr ⟨ml_63, List.forall_mem_cons.mpr ⟨ml_64, List.forall_mem_cons.mpr ⟨ml_65, List.forall_mem_cons.mpr ⟨ml_66, List.forall_mem_cons.mpr ⟨ml_67, List.forall_mem_cons.mpr ⟨ml_68, List.forall_mem_cons.mpr ⟨ml_69, List.forall_mem_cons.mpr ⟨ml_70, List.forall_mem_cons.mpr ⟨ml_71, List.forall_mem_cons.mpr ⟨ml_72, List.forall_mem_cons.mpr ⟨ml_73, List.forall_mem_cons.mpr ⟨ml_74, List.forall_mem_cons.mpr ⟨ml_75, List.forall_mem_cons.mpr ⟨ml_76, List.forall_mem_cons.mpr ⟨ml_77, List.forall_mem_cons.mpr ⟨ml_78, List.forall_mem_cons.mpr ⟨ml_79, List.forall_mem_cons.mpr ⟨ml_80, List.forall_mem_cons.mpr ⟨ml_81, List.forall_mem_cons.mpr ⟨ml_82, List.forall_mem_cons.mpr ⟨ml_83, List.forall_mem_cons.mpr ⟨ml_84, List.forall_mem_cons.mpr ⟨ml_85, List.forall_mem_cons.mpr ⟨ml_86, List.forall_mem_cons.mpr ⟨ml_87, List.forall_mem_cons.mpr ⟨ml_88, List.forall_mem_cons.mpr ⟨ml_89, List.forall_mem_cons.mpr ⟨ml_90, List.forall_mem_cons.mpr ⟨ml_91, List.forall_mem_cons.mpr ⟨ml_92, List.forall_mem_cons.mpr ⟨ml_93, List.forall_mem_cons.mpr ⟨ml_94, List.forall_mem_cons.mpr ⟨ml_95, List.forall_mem_cons.mpr ⟨ml_96, List.forall_mem_cons.mpr ⟨ml_97, List.forall_mem_cons.mpr ⟨ml_98, List.forall_mem_cons.mpr ⟨ml_99, fun _ h => absurd h List.not_mem_nil⟩⟩⟩⟩⟩⟩⟩⟩⟩⟩⟩⟩⟩⟩⟩⟩⟩⟩⟩⟩⟩⟩⟩⟩⟩⟩⟩⟩⟩⟩⟩⟩⟩⟩⟩⟩⟩⟩⟩⟩⟩⟩⟩⟩⟩⟩⟩⟩⟩⟩
set_option maxRecDepth 100000 in
theorem ml_100 : Lok (10, 387, 43, 0) := ⟨by decide, ⟨ing 705 rfl rfl, ing 706 rfl rfl, ing 707 rfl rfl, rfl, by decide⟩⟩
set_option maxRecDepth 100000 in
theorem ml_101 : Lok (10, 390, 18, 0) := ⟨by decide, ⟨ing 750 rfl rfl, ing 751 rfl rfl, ing 752 rfl rfl, rfl, by decide⟩⟩
set_option maxRecDepth 100000 in
theorem ml_102 : Lok (10, 393, 106, 0) := ⟨by decide, ⟨ing 820 rfl rfl, ing 822 rfl rfl, ings 21 rfl rfl, rfl, by decide⟩⟩
set_option maxRecDepth 100000 in
theorem ml_103 : Lok (10, 396, 104, 0) := ⟨by decide, ⟨ing 824 rfl rfl, ing 826 rfl rfl, ings 22 rfl rfl, rfl, by decide⟩⟩
set_option maxRecDepth 100000 in
theorem ml_104 : Lok (10, 400, 105, 0) := ⟨by decide, ⟨ing 831 rfl rfl, ing 833 rfl rfl, ings 23 rfl rfl, rfl, by decide⟩⟩
set_option maxRecDepth 100000 in
theorem ml_105 : Lok (10, 404, 112, 1) := ⟨by decide, ⟨ing 828 rfl rfl, ing 829 rfl rfl, rfl⟩⟩
set_option maxRecDepth 100000 in
theorem ml_106 : Lok (10, 407, 5, 0) := ⟨by decide, ⟨ing 775 rfl rfl, ing 776 rfl rfl, ing 777 rfl rfl, rfl, by decide⟩⟩
set_option maxRecDepth 100000 in
theorem ml_107 : Lok (10, 416, 110, 1) := ⟨by decide, ⟨ing 802 rfl rfl, ing 744 rfl rfl, rfl⟩⟩
set_option maxRecDepth 100000 in
theorem ml_108 : Lok (11, 181, 115, 1) := ⟨by decide, ⟨ing 1361 rfl rfl, ing 1362 rfl rfl, rfl⟩⟩
set_option maxRecDepth 100000 in
theorem ml_109 : Lok (11, 185, 118, 0) := ⟨by decide, ⟨ing 1368 rfl rfl, ing 1370 rfl rfl, ings 35 rfl rfl, rfl, by decide⟩⟩
set_option maxRecDepth 100000 in
theorem ml_110 : Lok (11, 192, 123, 0) := ⟨by decide, ⟨ing 1380 rfl rfl, ing 1382 rfl rfl, ings 36 rfl rfl, rfl, by decide⟩⟩
set_option maxRecDepth 100000 in
theorem ml_111 : Lok (11, 196, 119, 0) := ⟨by decide, ⟨ing 1388 rfl rfl, ing 1390 rfl rfl, ings 37 rfl rfl, rfl, by decide⟩⟩
set_option maxRecDepth 100000 in
theorem ml_112 : Lok (11, 199, 126, 0) := ⟨by decide, ⟨ing 1400 rfl rfl, ing 1402 rfl rfl, ings 39 rfl rfl, rfl, by decide⟩⟩
set_option maxRecDepth 100000 in
theorem ml_113 : Lok (11, 203, 127, 0) := ⟨by decide, ⟨ing 1396 rfl rfl, ing 1398 rfl rfl, ings 38 rfl rfl, rfl, by decide⟩⟩
set_option maxRecDepth 100000 in
theorem ml_114 : Lok (11, 207, 128, 0) := ⟨by decide, ⟨ing 1408 rfl rfl, ing 1410 rfl rfl, ings 40 rfl rfl, rfl, by decide⟩⟩
set_option maxRecDepth 100000 in
theorem ml_115 : Lok (11, 213, 131, 0) := ⟨by decide, ⟨ing 1500 rfl rfl, ing 1502 rfl rfl, ings 53 rfl rfl, rfl, by decide⟩⟩
set_option maxRecDepth 100000 in
theorem ml_116 : Lok (11, 216, 133, 0) := ⟨by decide, ⟨ing 1416 rfl rfl, ing 1418 rfl rfl, ings 41 rfl rfl, rfl, by decide⟩⟩
set_option maxRecDepth 100000 in
theorem ml_117 : Lok (11, 225, 136, 0) := ⟨by decide, ⟨ing 1520 rfl rfl, ing 1522 rfl rfl, ings 58 rfl rfl, rfl, by decide⟩⟩
set_option maxRecDepth 100000 in
theorem ml_118 : Lok (11, 228, 116, 1) := ⟨by decide, ⟨ing 1540 rfl rfl, ing 1541 rfl rfl, rfl⟩⟩
set_option maxRecDepth 100000 in
theorem ml_119 : Lok (11, 235, 141, 0) := ⟨by decide, ⟨ing 1430 rfl rfl, ing 1432 rfl rfl, ings 42 rfl rfl, rfl, by decide⟩⟩
set_option maxRecDepth 100000 in
theorem ml_120 : Lok (11, 245, 144, 0) := ⟨by decide, ⟨ing 1446 rfl rfl, ing 1448 rfl rfl, ings 44 rfl rfl, rfl, by decide⟩⟩
set_option maxRecDepth 100000 in
theorem ml_121 : Lok (11, 250, 145, 0) := ⟨by decide, ⟨ing 1455 rfl rfl, ing 1457 rfl rfl, ings 46 rfl rfl, rfl, by decide⟩⟩
set_option maxRecDepth 100000 in
theorem ml_122 : Lok (11, 286, 146, 0) := ⟨by decide, ⟨ing 1450 rfl rfl, ing 1452 rfl rfl, ings 45 rfl rfl, rfl, by decide⟩⟩
set_option maxRecDepth 100000 in
theorem ml_123 : Lok (11, 296, 148, 0) := ⟨by decide, ⟨ing 1476 rfl rfl, ing 1478 rfl rfl, ings 48 rfl rfl, rfl, by decide⟩⟩
set_option maxRecDepth 100000 in
theorem ml_124 : Lok (11, 299, 147, 0) := ⟨by decide, ⟨ing 1442 rfl rfl, ing 1444 rfl rfl, ings 43 rfl rfl, rfl, by decide⟩⟩
set_option maxRecDepth 100000 in
theorem ml_125 : Lok (11, 302, 149, 0) := ⟨by decide, ⟨ing 1480 rfl rfl, ing 1482 rfl rfl, ings 49 rfl rfl, rfl, by decide⟩⟩
set_option maxRecDepth 100000 in
theorem ml_126 : Lok (11, 305, 150, 0) := ⟨by decide, ⟨ing 1484 rfl rfl, ing 1486 rfl rfl, ings 50 rfl rfl, rfl, by decide⟩⟩
set_option maxRecDepth 100000 in
theorem ml_127 : Lok (11, 308, 151, 0) := ⟨by decide, ⟨ing 1488 rfl rfl, ing 1490 rfl rfl, ings 51 rfl rfl, rfl, by decide⟩⟩
set_option maxRecDepth 100000 in
theorem ml_128 : Lok (11, 312, 152, 0) := ⟨by decide, ⟨ing 1472 rfl rfl, ing 1474 rfl rfl, ings 47 rfl rfl, rfl, by decide⟩⟩
set_option maxRecDepth 100000 in
theorem ml_129 : Lok (11, 321, 137, 0) := ⟨by decide, ⟨ing 1516 rfl rfl, ing 1518 rfl rfl, ings 57 rfl rfl, rfl, by decide⟩⟩
set_option maxRecDepth 100000 in
theorem ml_130 : Lok (11, 324, 154, 0) := ⟨by decide, ⟨ing 1512 rfl rfl, ing 1514 rfl rfl, ings 56 rfl rfl, rfl, by decide⟩⟩
set_option maxRecDepth 100000 in
theorem ml_131 : Lok (11, 327, 155, 0) := ⟨by decide, ⟨ing 1508 rfl rfl, ing 1510 rfl rfl, ings 55 rfl rfl, rfl, by decide⟩⟩
set_option maxRecDepth 100000 in
theorem ml_132 : Lok (11, 330, 132, 0) := ⟨by decide, ⟨ing 1496 rfl rfl, ing 1498 rfl rfl, ings 52 rfl rfl, rfl, by decide⟩⟩
set_option maxRecDepth 100000 in
theorem ml_133 : Lok (11, 333, 156, 0) := ⟨by decide, ⟨ing 1504 rfl rfl, ing 1506 rfl rfl, ings 54 rfl rfl, rfl, by decide⟩⟩
set_option maxRecDepth 100000 in
theorem ml_134 : Lok (11, 340, 160, 0) := ⟨by decide, ⟨ing 1532 rfl rfl, ing 1534 rfl rfl, ings 59 rfl rfl, rfl, by decide⟩⟩
set_option maxRecDepth 100000 in
theorem ml_135 : Lok (11, 344, 139, 0) := ⟨by decide, ⟨ing 1536 rfl rfl, ing 1538 rfl rfl, ings 60 rfl rfl, rfl, by decide⟩⟩
set_option maxRecDepth 100000 in
theorem ml_136 : Lok (11, 348, 159, 0) := ⟨by decide, ⟨ing 1543 rfl rfl, ing 1545 rfl rfl, ings 61 rfl rfl, rfl, by decide⟩⟩
set_option maxRecDepth 100000 in
theorem ml_137 : Lok (11, 351, 138, 0) := ⟨by decide, ⟨ing 1547 rfl rfl, ing 1549 rfl rfl, ings 62 rfl rfl, rfl, by decide⟩⟩
set_option maxRecDepth 100000 in
theorem ml_138 : Lok (11, 354, 140, 0) := ⟨by decide, ⟨ing 1551 rfl rfl, ing 1553 rfl rfl, ings 63 rfl rfl, rfl, by decide⟩⟩
set_option maxRecDepth 100000 in
theorem ml_139 : Lok (11, 357, 161, 0) := ⟨by decide, ⟨ing 1555 rfl rfl, ing 1557 rfl rfl, ings 64 rfl rfl, rfl, by decide⟩⟩
set_option maxRecDepth 100000 in
theorem ml_140 : Lok (11, 364, 117, 0) := ⟨by decide, ⟨ing 1584 rfl rfl, ing 1586 rfl rfl, ings 68 rfl rfl, rfl, by decide⟩⟩
set_option maxRecDepth 100000 in
theorem ml_141 : Lok (11, 370, 166, 0) := ⟨by decide, ⟨ing 1576 rfl rfl, ing 1578 rfl rfl, ings 66 rfl rfl, rfl, by decide⟩⟩
set_option maxRecDepth 100000 in
theorem ml_142 : Lok (11, 373, 165, 0) := ⟨by decide, ⟨ing 1580 rfl rfl, ing 1582 rfl rfl, ings 67 rfl rfl, rfl, by decide⟩⟩
set_option maxRecDepth 100000 in
theorem ml_143 : Lok (11, 377, 167, 0) := ⟨by decide, ⟨ing 1572 rfl rfl, ing 1574 rfl rfl, ings 65 rfl rfl, rfl, by decide⟩⟩
set_option maxRecDepth 100000 in
theorem ml_144 : Lok (11, 380, 173, 0) := ⟨by decide, ⟨ing 1608 rfl rfl, ing 1610 rfl rfl, ings 69 rfl rfl, rfl, by decide⟩⟩
set_option maxRecDepth 100000 in
theorem ml_145 : Lok (11, 384, 178, 0) := ⟨by decide, ⟨ing 1629 rfl rfl, ing 1631 rfl rfl, ings 70 rfl rfl, rfl, by decide⟩⟩
set_option maxRecDepth 100000 in
theorem ml_146 : Lok (11, 396, 181, 0) := ⟨by decide, ⟨ing 1645 rfl rfl, ing 1647 rfl rfl, ings 72 rfl rfl, rfl, by decide⟩⟩
set_option maxRecDepth 100000 in
theorem ml_147 : Lok (11, 402, 182, 0) := ⟨by decide, ⟨ing 1641 rfl rfl, ing 1643 rfl rfl, ings 71 rfl rfl, rfl, by decide⟩⟩
set_option maxRecDepth 100000 in
theorem ml_148 : Lok (14, 1, 186, 2) := ⟨by decide, ⟨ing 46 rfl rfl, ing 47 rfl rfl, by decide +kernel, by decide, rfl⟩⟩
set_option maxRecDepth 100000 in
theorem ml_149 : Lok (15, 1, 187, 2) := ⟨by decide, ⟨ing 43 rfl rfl, ing 44 rfl rfl, by decide +kernel, by decide, rfl⟩⟩
def mll_2 : List (Nat × Nat × Nat × Nat) := [(10, 387, 43, 0), (10, 390, 18, 0), (10, 393, 106, 0), (10, 396, 104, 0), (10, 400, 105, 0), (10, 404, 112, 1), (10, 407, 5, 0), (10, 416, 110, 1), (11, 181, 115, 1), (11, 185, 118, 0), (11, 192, 123, 0), (11, 196, 119, 0), (11, 199, 126, 0), (11, 203, 127, 0), (11, 207, 128, 0), (11, 213, 131, 0), (11, 216, 133, 0), (11, 225, 136, 0), (11, 228, 116, 1), (11, 235, 141, 0), (11, 245, 144, 0), (11, 250, 145, 0), (11, 286, 146, 0), (11, 296, 148, 0), (11, 299, 147, 0), (11, 302, 149, 0), (11, 305, 150, 0), (11, 308, 151, 0), (11, 312, 152, 0), (11, 321, 137, 0), (11, 324, 154, 0), (11, 327, 155, 0), (11, 330, 132, 0), (11, 333, 156, 0), (11, 340, 160, 0), (11, 344, 139, 0), (11, 348, 159, 0), (11, 351, 138, 0), (11, 354, 140, 0), (11, 357, 161, 0), (11, 364, 117, 0), (11, 370, 166, 0), (11, 373, 165, 0), (11, 377, 167, 0), (11, 380, 173, 0), (11, 384, 178, 0), (11, 396, 181, 0), (11, 402, 182, 0), (14, 1, 186, 2), (15, 1, 187, 2)]
theorem mls_2 : ∀ e ∈ mll_2, Lok e := List.forall_mem_cons.mpr ⟨ml_100, List.forall_mem_cons.mpr ⟨ml_101, List.forall_mem_cons.mpr ⟨ml_102, List.forall_mem_cons.mpr ⟨ml_103, List.forall_mem_cons.mpr ⟨ml_104, List.forall_mem_cons.mpr ⟨ml_105, List.forall_mem_cons.mpr ⟨ml_106, List.forall_mem_cons.mpr ⟨ml_107, List.forall_mem_cons.mpr ⟨ml_108, List.forall_mem_cons.mpr ⟨ml_109, List.forall_mem_cons.mpr ⟨ml_110, List.forall_mem_cons.mpr ⟨ml_111, List.forall_mem_cons.mpr ⟨ml_112, List.forall_mem_cons.mpr ⟨ml_113, List.forall_mem_cons.mpr ⟨ml_114, List.forall_mem_cons.mpr ⟨ml_115, List.forall_mem_cons.mpr ⟨ml_116, List.forall_mem_cons.mpr ⟨ml_117, List.forall_mem_cons.mpr ⟨ml_118, List.forall_mem_cons.mpr ⟨ml_119, List.forall_mem_cons.mpr ⟨ml_120, List.forall_mem_cons.mpr ⟨ml_121, List.forall_mem_cons.mpr ⟨ml_122, List.forall_mem_cons.mpr ⟨ml_123, List.forall_mem_cons.mpr ⟨ml_124, List.forall_mem_cons.mpr ⟨ml_125, List.forall_mem_cons.mpr ⟨ml_126, List.forall_mem_cons.mpr ⟨ml_127, List.forall_mem_cons.mpr ⟨ml_128, List.forall_mem_cons.mpr ⟨ml_129, List.forall_mem_cons.mpr ⟨ml_130, List.forall_mem_cons.mpr ⟨ml_131, List.forall_mem_cons.mpr ⟨ml_132, List.forall_mem_cons.mpr ⟨ml_133, List.forall_mem_cons.mpr ⟨ml_134, List.forall_mem_cons.mpr ⟨ml_135, List.forall_mem_cons.mpr ⟨ml_136, List.forall_mem_cons.mpr ⟨ml_137, List.forall_mem_cons.mpr ⟨ml_138, List.forall_mem_cons.mpr ⟨ml_139, List.forall_mem_cons.mpr ⟨ml_140, List.forall_mem_cons.mpr ⟨ml_141, List.forall_mem_cons.mpr ⟨ml_142, List.forall_mem_cons.mpr ⟨ml_143, List.forall_mem_cons.mpr ⟨ml_144, List.forall_mem_cons.mpr ⟨ml_145, List.forall_mem_cons.mpr ⟨ml_146, List.forall_mem_cons.mpr ⟨ml_147, List.forall_mem_cons.mpr ⟨ml_148, List.forall_mem_cons.mpr ⟨ml_149, fun _ h => absurd h List.not_mem_nil⟩⟩⟩⟩⟩⟩⟩⟩⟩⟩⟩⟩⟩⟩⟩⟩⟩⟩⟩⟩⟩⟩⟩⟩⟩⟩⟩⟩⟩⟩⟩⟩⟩⟩⟩⟩⟩⟩⟩⟩⟩⟩⟩⟩⟩⟩⟩⟩⟩⟩
set_option maxRecDepth 100000 in
theorem ml_150 : Lok (15, 118, 194, 1) := ⟨by decide, ⟨ing 347 rfl rfl, ing 348 rfl rfl, rfl⟩⟩
set_option maxRecDepth 100000 in
theorem ml_151 : Lok (15, 123, 190, 0) := ⟨by decide, ⟨ing 353 rfl rfl, ing 354 rfl rfl, ing 355 rfl rfl, rfl, by decide⟩⟩
set_option maxRecDepth 100000 in
theorem ml_152 : Lok (15, 131, 192, 0) := ⟨by decide, ⟨ing 273 rfl rfl, ing 275 rfl rfl, ings 0 rfl rfl, rfl, by decide⟩⟩
set_option maxRecDepth 100000 in
theorem ml_153 : Lok (16, 105, 195, 1) := ⟨by decide, ⟨ing 350 rfl rfl, ing 351 rfl rfl, rfl⟩⟩
def mll_3 : List (Nat × Nat × Nat × Nat) := [(15, 118, 194, 1), (15, 123, 190, 0), (15, 131, 192, 0), (16, 105, 195, 1)]
theorem mls_3 : ∀ e ∈ mll_3, Lok e := List.forall_mem_cons.mpr ⟨ml_150, List.forall_mem_cons.mpr ⟨ml_151, List.forall_mem_cons.mpr ⟨ml_152, List.forall_mem_cons.mpr ⟨ml_153, fun _ h => absurd h List.not_mem_nil⟩⟩⟩⟩
def ml : List (Nat × Nat × Nat × Nat) := mll_0 ++ (mll_1 ++ (mll_2 ++ (mll_3)))
theorem ml_ok : ∀ e ∈ ml, Lok e := fun e => fun h => (List.mem_append.mp h).elim (mls_0 e) (fun h => (List.mem_append.mp h).elim (mls_1 e) (fun h => (List.mem_append.mp h).elim (mls_2 e) (mls_3 e)))
/-- a class by its place: own class, place, kind -/
def Cok (e : Nat × Nat × Nat) : Prop := ∃ (C : String) (U : u_T) (N : Nat), vwCl[e.2.2 - 1]? = some (C, U, N) ∧ (1 ≤ e.2.2 ∧ e.2.2 ≤ 13) ∧ Cond.classLink (own e.1) e.2.1 C ∈ gw ∧ Cond.instantiable C N ∈ gw ∧ Cond.initialized C ∈ gw
set_option maxRecDepth 100000 in
theorem cn_0 : Cok (6, 74, 6) := ⟨_, _, _, rfl, by decide, ing 985 rfl rfl, ing 358 rfl rfl, ing 17 rfl rfl⟩
set_option maxRecDepth 100000 in
theorem cn_1 : Cok (10, 7, 1) := ⟨_, _, _, rfl, by decide, ing 38 rfl rfl, ing 39 rfl rfl, ing 4 rfl rfl⟩
set_option maxRecDepth 100000 in
theorem cn_2 : Cok (10, 25, 4) := ⟨_, _, _, rfl, by decide, ing 64 rfl rfl, ing 65 rfl rfl, ing 5 rfl rfl⟩
set_option maxRecDepth 100000 in
theorem cn_3 : Cok (10, 32, 11) := ⟨_, _, _, rfl, by decide, ing 88 rfl rfl, ing 89 rfl rfl, ing 6 rfl rfl⟩
set_option maxRecDepth 100000 in
theorem cn_4 : Cok (10, 39, 7) := ⟨_, _, _, rfl, by decide, ing 118 rfl rfl, ing 119 rfl rfl, ing 7 rfl rfl⟩
set_option maxRecDepth 100000 in
theorem cn_5 : Cok (10, 50, 9) := ⟨_, _, _, rfl, by decide, ing 138 rfl rfl, ing 139 rfl rfl, ing 8 rfl rfl⟩
set_option maxRecDepth 100000 in
theorem cn_6 : Cok (10, 70, 10) := ⟨_, _, _, rfl, by decide, ing 231 rfl rfl, ing 232 rfl rfl, ing 10 rfl rfl⟩
set_option maxRecDepth 100000 in
theorem cn_7 : Cok (10, 83, 6) := ⟨_, _, _, rfl, by decide, ing 357 rfl rfl, ing 358 rfl rfl, ing 17 rfl rfl⟩
set_option maxRecDepth 100000 in
theorem cn_8 : Cok (10, 95, 5) := ⟨_, _, _, rfl, by decide, ing 391 rfl rfl, ing 392 rfl rfl, ing 18 rfl rfl⟩
set_option maxRecDepth 100000 in
theorem cn_9 : Cok (10, 104, 3) := ⟨_, _, _, rfl, by decide, ing 431 rfl rfl, ing 432 rfl rfl, ing 19 rfl rfl⟩
set_option maxRecDepth 100000 in
theorem cn_10 : Cok (10, 284, 2) := ⟨_, _, _, rfl, by decide, ing 780 rfl rfl, ing 855 rfl rfl, ing 24 rfl rfl⟩
set_option maxRecDepth 100000 in
theorem cn_11 : Cok (10, 350, 8) := ⟨_, _, _, rfl, by decide, ing 938 rfl rfl, ing 939 rfl rfl, ing 29 rfl rfl⟩
def cnl_0 : List (Nat × Nat × Nat) := [(6, 74, 6), (10, 7, 1), (10, 25, 4), (10, 32, 11), (10, 39, 7), (10, 50, 9), (10, 70, 10), (10, 83, 6), (10, 95, 5), (10, 104, 3), (10, 284, 2), (10, 350, 8)]
theorem cns_0 : ∀ e ∈ cnl_0, Cok e := List.forall_mem_cons.mpr ⟨cn_0, List.forall_mem_cons.mpr ⟨cn_1, List.forall_mem_cons.mpr ⟨cn_2, List.forall_mem_cons.mpr ⟨cn_3, List.forall_mem_cons.mpr ⟨cn_4, List.forall_mem_cons.mpr ⟨cn_5, List.forall_mem_cons.mpr ⟨cn_6, List.forall_mem_cons.mpr ⟨cn_7, List.forall_mem_cons.mpr ⟨cn_8, List.forall_mem_cons.mpr ⟨cn_9, List.forall_mem_cons.mpr ⟨cn_10, List.forall_mem_cons.mpr ⟨cn_11, fun _ h => absurd h List.not_mem_nil⟩⟩⟩⟩⟩⟩⟩⟩⟩⟩⟩⟩
def cn : List (Nat × Nat × Nat) := cnl_0
theorem cn_ok : ∀ e ∈ cn, Cok e := fun e => cns_0 e
def Kok (e : Nat × Nat × Nat) : Prop := Cond.constant (own e.1) e.2.1 (ck.getD e.2.2 0) ∈ gw
set_option maxRecDepth 100000 in
theorem ko_0 : Kok (3, 33, 13) := ing 428 rfl rfl
set_option maxRecDepth 100000 in
theorem ko_1 : Kok (3, 38, 14) := ing 430 rfl rfl
set_option maxRecDepth 100000 in
theorem ko_2 : Kok (6, 18, 27) := ing 944 rfl rfl
set_option maxRecDepth 100000 in
theorem ko_3 : Kok (6, 46, 29) := ing 992 rfl rfl
set_option maxRecDepth 100000 in
theorem ko_4 : Kok (10, 245, 29) := ing 815 rfl rfl
set_option maxRecDepth 100000 in
theorem ko_5 : Kok (10, 341, 57) := ing 912 rfl rfl
set_option maxRecDepth 100000 in
theorem ko_6 : Kok (11, 220, 13) := ing 1424 rfl rfl
set_option maxRecDepth 100000 in
theorem ko_7 : Kok (11, 221, 14) := ing 1425 rfl rfl
set_option maxRecDepth 100000 in
theorem ko_8 : Kok (11, 376, 29) := ing 1571 rfl rfl
set_option maxRecDepth 100000 in
theorem ko_9 : Kok (11, 383, 57) := ing 1628 rfl rfl
set_option maxRecDepth 100000 in
theorem ko_10 : Kok (12, 265, 69) := ing 702 rfl rfl
set_option maxRecDepth 100000 in
theorem ko_11 : Kok (12, 266, 70) := ing 703 rfl rfl
set_option maxRecDepth 100000 in
theorem ko_12 : Kok (12, 267, 71) := ing 704 rfl rfl
def kol_0 : List (Nat × Nat × Nat) := [(3, 33, 13), (3, 38, 14), (6, 18, 27), (6, 46, 29), (10, 245, 29), (10, 341, 57), (11, 220, 13), (11, 221, 14), (11, 376, 29), (11, 383, 57), (12, 265, 69), (12, 266, 70), (12, 267, 71)]
theorem kos_0 : ∀ e ∈ kol_0, Kok e := List.forall_mem_cons.mpr ⟨ko_0, List.forall_mem_cons.mpr ⟨ko_1, List.forall_mem_cons.mpr ⟨ko_2, List.forall_mem_cons.mpr ⟨ko_3, List.forall_mem_cons.mpr ⟨ko_4, List.forall_mem_cons.mpr ⟨ko_5, List.forall_mem_cons.mpr ⟨ko_6, List.forall_mem_cons.mpr ⟨ko_7, List.forall_mem_cons.mpr ⟨ko_8, List.forall_mem_cons.mpr ⟨ko_9, List.forall_mem_cons.mpr ⟨ko_10, List.forall_mem_cons.mpr ⟨ko_11, List.forall_mem_cons.mpr ⟨ko_12, fun _ h => absurd h List.not_mem_nil⟩⟩⟩⟩⟩⟩⟩⟩⟩⟩⟩⟩⟩
def ko : List (Nat × Nat × Nat) := kol_0
theorem ko_ok : ∀ e ∈ ko, Kok e := fun e => kos_0 e
def KLok (e : Nat × Nat × Nat) : Prop := Cond.constantLong (own e.1) e.2.1 (cl.getD e.2.2 0) ∈ gw
set_option maxRecDepth 100000 in
theorem kl_0 : KLok (11, 248, 1) := ing 1454 rfl rfl
set_option maxRecDepth 100000 in
theorem kl_1 : KLok (11, 254, 2) := ing 1459 rfl rfl
set_option maxRecDepth 100000 in
theorem kl_2 : KLok (11, 256, 3) := ing 1460 rfl rfl
set_option maxRecDepth 100000 in
theorem kl_3 : KLok (11, 258, 4) := ing 1461 rfl rfl
set_option maxRecDepth 100000 in
theorem kl_4 : KLok (11, 260, 5) := ing 1462 rfl rfl
set_option maxRecDepth 100000 in
theorem kl_5 : KLok (11, 262, 6) := ing 1463 rfl rfl
set_option maxRecDepth 100000 in
theorem kl_6 : KLok (11, 264, 7) := ing 1464 rfl rfl
set_option maxRecDepth 100000 in
theorem kl_7 : KLok (11, 266, 8) := ing 1465 rfl rfl
set_option maxRecDepth 100000 in
theorem kl_8 : KLok (11, 268, 9) := ing 1466 rfl rfl
set_option maxRecDepth 100000 in
theorem kl_9 : KLok (11, 270, 10) := ing 1467 rfl rfl
set_option maxRecDepth 100000 in
theorem kl_10 : KLok (11, 272, 11) := ing 1468 rfl rfl
set_option maxRecDepth 100000 in
theorem kl_11 : KLok (11, 274, 12) := ing 1469 rfl rfl
set_option maxRecDepth 100000 in
theorem kl_12 : KLok (11, 276, 13) := ing 1470 rfl rfl
set_option maxRecDepth 100000 in
theorem kl_13 : KLok (11, 278, 14) := ing 1471 rfl rfl
def kll_0 : List (Nat × Nat × Nat) := [(11, 248, 1), (11, 254, 2), (11, 256, 3), (11, 258, 4), (11, 260, 5), (11, 262, 6), (11, 264, 7), (11, 266, 8), (11, 268, 9), (11, 270, 10), (11, 272, 11), (11, 274, 12), (11, 276, 13), (11, 278, 14)]
theorem kls_0 : ∀ e ∈ kll_0, KLok e := List.forall_mem_cons.mpr ⟨kl_0, List.forall_mem_cons.mpr ⟨kl_1, List.forall_mem_cons.mpr ⟨kl_2, List.forall_mem_cons.mpr ⟨kl_3, List.forall_mem_cons.mpr ⟨kl_4, List.forall_mem_cons.mpr ⟨kl_5, List.forall_mem_cons.mpr ⟨kl_6, List.forall_mem_cons.mpr ⟨kl_7, List.forall_mem_cons.mpr ⟨kl_8, List.forall_mem_cons.mpr ⟨kl_9, List.forall_mem_cons.mpr ⟨kl_10, List.forall_mem_cons.mpr ⟨kl_11, List.forall_mem_cons.mpr ⟨kl_12, List.forall_mem_cons.mpr ⟨kl_13, fun _ h => absurd h List.not_mem_nil⟩⟩⟩⟩⟩⟩⟩⟩⟩⟩⟩⟩⟩⟩
def kl : List (Nat × Nat × Nat) := kll_0
theorem kl_ok : ∀ e ∈ kl, KLok e := fun e => kls_0 e
def Ook (e : Nat × Nat) : Prop := Cond.methodLink (own e.1) e.2 Lib.objectInit ∈ gw
set_option maxRecDepth 100000 in
theorem ob_0 : Ook (0, 3) := ing 859 rfl rfl
set_option maxRecDepth 100000 in
theorem ob_1 : Ook (1, 3) := ing 436 rfl rfl
set_option maxRecDepth 100000 in
theorem ob_2 : Ook (2, 3) := ing 69 rfl rfl
set_option maxRecDepth 100000 in
theorem ob_3 : Ook (3, 3) := ing 396 rfl rfl
set_option maxRecDepth 100000 in
theorem ob_4 : Ook (4, 3) := ing 362 rfl rfl
set_option maxRecDepth 100000 in
theorem ob_5 : Ook (5, 3) := ing 123 rfl rfl
set_option maxRecDepth 100000 in
theorem ob_6 : Ook (6, 3) := ing 943 rfl rfl
set_option maxRecDepth 100000 in
theorem ob_7 : Ook (7, 3) := ing 143 rfl rfl
set_option maxRecDepth 100000 in
theorem ob_8 : Ook (8, 1) := ing 236 rfl rfl
set_option maxRecDepth 100000 in
theorem ob_9 : Ook (9, 3) := ing 93 rfl rfl
set_option maxRecDepth 100000 in
theorem ob_10 : Ook (10, 1) := ing 35 rfl rfl
set_option maxRecDepth 100000 in
theorem ob_11 : Ook (11, 1) := ing 1120 rfl rfl
set_option maxRecDepth 100000 in
theorem ob_12 : Ook (13, 1) := ing 49 rfl rfl
def obl_0 : List (Nat × Nat) := [(0, 3), (1, 3), (2, 3), (3, 3), (4, 3), (5, 3), (6, 3), (7, 3), (8, 1), (9, 3), (10, 1), (11, 1), (13, 1)]
theorem obs_0 : ∀ e ∈ obl_0, Ook e := List.forall_mem_cons.mpr ⟨ob_0, List.forall_mem_cons.mpr ⟨ob_1, List.forall_mem_cons.mpr ⟨ob_2, List.forall_mem_cons.mpr ⟨ob_3, List.forall_mem_cons.mpr ⟨ob_4, List.forall_mem_cons.mpr ⟨ob_5, List.forall_mem_cons.mpr ⟨ob_6, List.forall_mem_cons.mpr ⟨ob_7, List.forall_mem_cons.mpr ⟨ob_8, List.forall_mem_cons.mpr ⟨ob_9, List.forall_mem_cons.mpr ⟨ob_10, List.forall_mem_cons.mpr ⟨ob_11, List.forall_mem_cons.mpr ⟨ob_12, fun _ h => absurd h List.not_mem_nil⟩⟩⟩⟩⟩⟩⟩⟩⟩⟩⟩⟩⟩
def ob : List (Nat × Nat) := obl_0
theorem ob_ok : ∀ e ∈ ob, Ook e := fun e => obs_0 e
/- strings, statics, members of the JDK: [(7, 59, 0), (7, 65, 1), (7, 70, 2), (7, 79, 3), (7, 84, 13), (7, 86, 4), (7, 91, 5), (7, 93, 6), (7, 95, 7), (7, 97, 8), (7, 99, 9), (7, 101, 10), (7, 103, 11), (7, 105, 12)] [(15, 39)] [(3, 39, '.fadd'), (3, 48, '.fneg'), (6, 126, '.dadd'), (9, 54, '.dneg'), (9, 59, '.caload'), (10, 170, '.fsub'), (10, 211, '.fadd'), (15, 129, '.drem')] -/
