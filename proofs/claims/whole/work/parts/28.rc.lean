/-! ===== A CALL OF EACH METHOD, FROM ITS ARGUMENTS (printed by wip/gen/rc.py) ===== -/
theorem rc_Bag_init (d : Nat) (v0 v1 v2 v3 v4 : Value) (σ : Mm) : runc d 0 [v0, v1, v2, v3, v4] σ = run d 0 0 [v0, v1, v2, v3, v4] [] σ := rfl
theorem rc_Bag_isOnLand (d : Nat) (v0 : Value) (σ : Mm) : runc d 1 [v0] σ = run d 1 0 [v0] [] σ := rfl
theorem rc_Boat_init (d : Nat) (v0 v1 v2 v3 : Value) (σ : Mm) : runc d 2 [v0, v1, v2, v3] σ = run d 2 0 [v0, v1, v2, v3] [] σ := rfl
theorem rc_Boat_weight (d : Nat) (v0 : Value) (σ : Mm) : runc d 3 [v0] σ = run d 3 0 [v0] [] σ := rfl
theorem rc_Boat_isResting (d : Nat) (v0 v1 : Value) (σ : Mm) : runc d 4 [v0, v1] σ = run d 4 0 [v0, v1] [] σ := rfl
theorem rc_Boat_carries (d : Nat) (v0 v1 : Value) (σ : Mm) : runc d 5 [v0, v1] σ = run d 5 0 [v0, v1] [] σ := rfl
theorem rc_Boat_leave (d : Nat) (v0 v1 v2 : Value) (σ : Mm) : runc d 6 [v0, v1, v2] σ = run d 6 0 [v0, v1, v2] [] σ := rfl
theorem rc_Boat_mayTurn (d : Nat) (v0 : Value) (σ : Mm) : runc d 7 [v0] σ = run d 7 0 [v0] [] σ := rfl
theorem rc_Boat_turnBack (d : Nat) (v0 v1 : Value) (σ : Mm) : runc d 8 [v0, v1] σ = run d 8 0 [v0, v1] [] σ := rfl
theorem rc_Facts_init (d : Nat) (v0 : Value) (σ : Mm) : runc d 9 [v0] σ = run d 9 0 [v0, uu] [] σ := rfl
theorem rc_Facts_tell (d : Nat) (v0 v1 v2 v3 : Value) (σ : Mm) : runc d 10 [v0, v1, v2, v3] σ = run d 10 0 [v0, v1, v2, v3, uu, uu, uu] [] σ := rfl
theorem rc_Facts_swellAt (d : Nat) (v0 v1 v2 v3 : Value) (σ : Mm) : runc d 11 [v0, v1, v2, v3] σ = run d 11 0 [v0, v1, v2, v3] [] σ := rfl
theorem rc_Facts_windFrom (d : Nat) (v0 v1 v2 v3 v4 : Value) (σ : Mm) : runc d 12 [v0, v1, v2, v3, v4] σ = run d 12 0 [v0, v1, v2, v3, v4, uu] [] σ := rfl
theorem rc_Facts_known (d : Nat) (v0 v1 v2 v3 v4 : Value) (σ : Mm) : runc d 13 [v0, v1, v2, v3, v4] σ = run d 13 0 [v0, v1, v2, v3, v4, uu, uu] [] σ := rfl
theorem rc_Hull_init (d : Nat) (v0 v1 v2 v3 v4 v5 v6 v7 : Value) (σ : Mm) : runc d 14 [v0, v1, v2, v3, v4, v5, v6, v7] σ = run d 14 0 [v0, v1, v2, v3, v4, v5, v6, v7] [] σ := rfl
theorem rc_Hull_isAsTold (d : Nat) (v0 : Value) (σ : Mm) : runc d 15 [v0] σ = run d 15 0 [v0] [] σ := rfl
theorem rc_Hull_ground (d : Nat) (v0 v1 : Value) (σ : Mm) : runc d 16 [v0, v1] σ = run d 16 0 [v0, v1] [] σ := rfl
theorem rc_Hull_burnt (d : Nat) (v0 v1 : Value) (σ : Mm) : runc d 17 [v0, v1] σ = run d 17 0 [v0, v1] [] σ := rfl
theorem rc_Hull_liftsFrom (d : Nat) (v0 v1 : Value) (σ : Mm) : runc d 18 [v0, v1] σ = run d 18 0 [v0, v1] [] σ := rfl
theorem rc_Leg_init (d : Nat) (v0 v1 v2 v3 v4 : Value) (σ : Mm) : runc d 19 [v0, v1, v2, v3, v4] σ = run d 19 0 [v0, v1, v2, v3, v4] [] σ := rfl
theorem rc_Leg_touches (d : Nat) (v0 v1 : Value) (σ : Mm) : runc d 20 [v0, v1] σ = run d 20 0 [v0, v1] [] σ := rfl
theorem rc_Leg_otherEnd (d : Nat) (v0 v1 : Value) (σ : Mm) : runc d 21 [v0, v1] σ = run d 21 0 [v0, v1] [] σ := rfl
theorem rc_Leg_minutesAt (d : Nat) (v0 v1 : Value) (σ : Mm) : runc d 22 [v0, v1] σ = run d 22 0 [v0, v1] [] σ := rfl
theorem rc_LiftLog_init (d : Nat) (v0 : Value) (σ : Mm) : runc d 23 [v0] σ = run d 23 0 [v0] [] σ := rfl
theorem rc_LiftLog_note (d : Nat) (v0 v1 v2 : Value) (σ : Mm) : runc d 24 [v0, v1, v2] σ = run d 24 0 [v0, v1, v2] [] σ := rfl
theorem rc_LiftLog_find (d : Nat) (v0 v1 v2 : Value) (σ : Mm) : runc d 25 [v0, v1, v2] σ = run d 25 0 [v0, v1, v2] [] σ := rfl
theorem rc_LiftLog_suspectBags (d : Nat) (v0 : Value) (σ : Mm) : runc d 26 [v0] σ = run d 26 0 [v0, uu, uu, uu, uu] [] σ := rfl
theorem rc_LiftLog_isExcess (d : Nat) (v0 v1 : Value) (σ : Mm) : runc d 27 [v0, v1] σ = run d 27 0 [v0, v1] [] σ := rfl
theorem rc_Planner_init (d : Nat) (v0 v1 v2 v3 v4 v5 : Value) (σ : Mm) : runc d 28 [v0, v1, v2, v3, v4, v5] σ = run d 28 0 [v0, v1, v2, v3, v4, v5] [] σ := rfl
theorem rc_Planner_answers (d : Nat) (v0 : Value) (σ : Mm) : runc d 29 [v0] σ = run d 29 0 [v0] [] σ := rfl
theorem rc_Planner_answer (d : Nat) (v0 v1 : Value) (σ : Mm) : runc d 30 [v0, v1] σ = run d 30 0 [v0, v1, uu] [] σ := rfl
theorem rc_Planner_plan (d : Nat) (v0 v1 v2 : Value) (σ : Mm) : runc d 31 [v0, v1, v2] σ = run d 31 0 [v0, v1, v2] [] σ := rfl
theorem rc_Planner_search (d : Nat) (v0 v1 v2 v3 v4 v5 : Value) (σ : Mm) : runc d 32 [v0, v1, v2, v3, v4, v5] σ = run d 32 0 [v0, v1, v2, v3, v4, v5, uu, uu, uu, uu, uu, uu] [] σ := rfl
theorem rc_Planner_departure (d : Nat) (v0 v1 v2 v3 : Value) (σ : Mm) : runc d 33 [v0, v1, v2, v3] σ = run d 33 0 [v0, v1, v2, v3, uu, uu, uu, uu] [] σ := rfl
theorem rc_Planner_minutesFrom (d : Nat) (v0 v1 v2 v3 : Value) (σ : Mm) : runc d 34 [v0, v1, v2, v3] σ = run d 34 0 [v0, v1, v2, v3] [] σ := rfl
theorem rc_Planner_keepIfEarlier (d : Nat) (v0 v1 v2 : Value) (σ : Mm) : runc d 35 [v0, v1, v2] σ = run d 35 0 [v0, v1, v2] [] σ := rfl
theorem rc_Rules_init (d : Nat) (v0 : Value) (σ : Mm) : runc d 36 [v0] σ = run d 36 0 [v0] [] σ := rfl
theorem rc_Rules_read (d : Nat) (v0 v1 : Value) (σ : Mm) : runc d 37 [v0, v1] σ = run d 37 0 [v0, v1, uu, uu] [] σ := rfl
theorem rc_Rules_readHead (d : Nat) (v0 v1 : Value) (σ : Mm) : runc d 38 [v0, v1] σ = run d 38 0 [v0, v1, uu] [] σ := rfl
theorem rc_Rules_readClose (d : Nat) (v0 : Value) (σ : Mm) : runc d 39 [v0] σ = run d 39 0 [v0] [] σ := rfl
theorem rc_Rules_readTerms (d : Nat) (v0 v1 : Value) (σ : Mm) : runc d 40 [v0, v1] σ = run d 40 0 [v0, v1, uu, uu] [] σ := rfl
theorem rc_Rules_readTerm (d : Nat) (v0 v1 : Value) (σ : Mm) : runc d 41 [v0, v1] σ = run d 41 0 [v0, v1, uu, uu] [] σ := rfl
theorem rc_Rules_wordOf (d : Nat) (v0 : Value) (σ : Mm) : runc d 42 [v0] σ = run d 42 0 [v0] [] σ := rfl
theorem rc_Rules_firstBroken (d : Nat) (v0 v1 v2 v3 : Value) (σ : Mm) : runc d 43 [v0, v1, v2, v3] σ = run d 43 0 [v0, v1, v2, v3, uu, uu] [] σ := rfl
theorem rc_Rules_isSo (d : Nat) (v0 v1 v2 : Value) (σ : Mm) : runc d 44 [v0, v1, v2] σ = run d 44 0 [v0, v1, v2, uu, uu, uu] [] σ := rfl
theorem rc_Rules_compares (d : Nat) (v0 v1 v2 : Value) (σ : Mm) : runc d 45 [v0, v1, v2] σ = run d 45 0 [v0, v1, v2] [] σ := rfl
theorem rc_Stop_init (d : Nat) (v0 v1 v2 v3 v4 : Value) (σ : Mm) : runc d 46 [v0, v1, v2, v3, v4] σ = run d 46 0 [v0, v1, v2, v3, v4] [] σ := rfl
theorem rc_Stop_freeBuoys (d : Nat) (v0 : Value) (σ : Mm) : runc d 47 [v0] σ = run d 47 0 [v0] [] σ := rfl
theorem rc_Tape_init (d : Nat) (v0 : Value) (σ : Mm) : runc d 48 [v0] σ = run d 48 0 [v0] [] σ := rfl
theorem rc_Tape_append (d : Nat) (v0 v1 : Value) (σ : Mm) : runc d 49 [v0, v1] σ = run d 49 0 [v0, v1, uu] [] σ := rfl
theorem rc_Tape_rewind (d : Nat) (v0 : Value) (σ : Mm) : runc d 50 [v0] σ = run d 50 0 [v0] [] σ := rfl
theorem rc_Tape_readToken (d : Nat) (v0 : Value) (σ : Mm) : runc d 51 [v0] σ = run d 51 0 [v0, uu] [] σ := rfl
theorem rc_Tape_readWord (d : Nat) (v0 : Value) (σ : Mm) : runc d 52 [v0] σ = run d 52 0 [v0] [] σ := rfl
theorem rc_Tape_readNumber (d : Nat) (v0 : Value) (σ : Mm) : runc d 53 [v0] σ = run d 53 0 [v0] [] σ := rfl
theorem rc_Tape_isWord (d : Nat) (v0 v1 : Value) (σ : Mm) : runc d 54 [v0, v1] σ = run d 54 0 [v0, v1, uu] [] σ := rfl
theorem rc_Tape_sign (d : Nat) (v0 : Value) (σ : Mm) : runc d 55 [v0] σ = run d 55 0 [v0] [] σ := rfl
theorem rc_Tape_byteAt (d : Nat) (v0 v1 : Value) (σ : Mm) : runc d 56 [v0, v1] σ = run d 56 0 [v0, v1] [] σ := rfl
theorem rc_Tape_isBlank (d : Nat) (v0 : Value) (σ : Mm) : runc d 57 [v0] σ = run d 57 0 [v0] [] σ := rfl
theorem rc_Tape_isLetter (d : Nat) (v0 : Value) (σ : Mm) : runc d 58 [v0] σ = run d 58 0 [v0] [] σ := rfl
theorem rc_Tape_isDigit (d : Nat) (v0 : Value) (σ : Mm) : runc d 59 [v0] σ = run d 59 0 [v0] [] σ := rfl
theorem rc_C_init (d : Nat) (v0 : Value) (σ : Mm) : runc d 60 [v0] σ = run d 60 0 [v0] [] σ := rfl
theorem rc_C_stop (d : Nat) (v0 v1 v2 v3 : Value) (σ : Mm) : runc d 61 [v0, v1, v2, v3] σ = run d 61 0 [v0, v1, v2, v3] [] σ := rfl
theorem rc_C_leg (d : Nat) (v0 v1 v2 v3 : Value) (σ : Mm) : runc d 62 [v0, v1, v2, v3] σ = run d 62 0 [v0, v1, v2, v3, uu, uu] [] σ := rfl
theorem rc_C_drums (d : Nat) (v0 v1 v2 : Value) (σ : Mm) : runc d 63 [v0, v1, v2] σ = run d 63 0 [v0, v1, v2, uu] [] σ := rfl
theorem rc_C_boat (d : Nat) (v0 v1 v2 v3 v4 v5 v6 v7 v8 : Value) (σ : Mm) : runc d 64 [v0, v1, v2, v3, v4, v5, v6, v7, v8] σ = run d 64 0 [v0, v1, v2, v3, v4, v5, v6, v7, v8, uu, uu] [] σ := rfl
theorem rc_C_swell (d : Nat) (v0 v1 v2 v3 : Value) (σ : Mm) : runc d 65 [v0, v1, v2, v3] σ = run d 65 0 [v0, v1, v2, v3] [] σ := rfl
theorem rc_C_wind (d : Nat) (v0 v1 v2 v3 : Value) (σ : Mm) : runc d 66 [v0, v1, v2, v3] σ = run d 66 0 [v0, v1, v2, v3] [] σ := rfl
theorem rc_C_swellOf (d : Nat) (v0 v1 v2 v3 : Value) (σ : Mm) : runc d 67 [v0, v1, v2, v3] σ = run d 67 0 [v0, v1, v2, v3, uu] [] σ := rfl
theorem rc_C_windOf (d : Nat) (v0 v1 v2 v3 : Value) (σ : Mm) : runc d 68 [v0, v1, v2, v3] σ = run d 68 0 [v0, v1, v2, v3, uu] [] σ := rfl
theorem rc_C_feed (d : Nat) (v0 v1 v2 v3 v4 v5 : Value) (σ : Mm) : runc d 69 [v0, v1, v2, v3, v4, v5] σ = run d 69 0 [v0, v1, v2, v3, v4, v5] [] σ := rfl
theorem rc_C_end (d : Nat) (v0 v1 : Value) (σ : Mm) : runc d 70 [v0, v1] σ = run d 70 0 [v0, v1] [] σ := rfl
theorem rc_C_rules (d : Nat) (v0 : Value) (σ : Mm) : runc d 71 [v0] σ = run d 71 0 [v0, uu, uu] [] σ := rfl
theorem rc_C_barred (d : Nat) (v0 v1 v2 : Value) (σ : Mm) : runc d 72 [v0, v1, v2] σ = run d 72 0 [v0, v1, v2, uu] [] σ := rfl
theorem rc_C_fuel (d : Nat) (v0 v1 v2 : Value) (σ : Mm) : runc d 73 [v0, v1, v2] σ = run d 73 0 [v0, v1, v2, uu, uu] [] σ := rfl
theorem rc_C_lift (d : Nat) (v0 v1 v2 : Value) (σ : Mm) : runc d 74 [v0, v1, v2] σ = run d 74 0 [v0, v1, v2, uu, uu, uu, uu, uu] [] σ := rfl
theorem rc_C_turn (d : Nat) (v0 v1 : Value) (σ : Mm) : runc d 75 [v0, v1] σ = run d 75 0 [v0, v1, uu, uu] [] σ := rfl
theorem rc_C_point (d : Nat) (v0 v1 v2 : Value) (σ : Mm) : runc d 76 [v0, v1, v2] σ = run d 76 0 [v0, v1, v2, uu, uu, uu, uu, uu, uu] [] σ := rfl
theorem rc_C_go (d : Nat) (v0 v1 : Value) (σ : Mm) : runc d 77 [v0, v1] σ = run d 77 0 [v0, v1, uu, uu] [] σ := rfl
theorem rc_C_rest (d : Nat) (v0 v1 : Value) (σ : Mm) : runc d 78 [v0, v1] σ = run d 78 0 [v0, v1, uu] [] σ := rfl
theorem rc_C_breaks (d : Nat) (v0 v1 v2 : Value) (σ : Mm) : runc d 79 [v0, v1, v2] σ = run d 79 0 [v0, v1, v2, uu] [] σ := rfl
theorem rc_C_raise (d : Nat) (v0 v1 : Value) (σ : Mm) : runc d 80 [v0, v1] σ = run d 80 0 [v0, v1, uu] [] σ := rfl
theorem rc_C_bag (d : Nat) (v0 v1 v2 v3 v4 : Value) (σ : Mm) : runc d 81 [v0, v1, v2, v3, v4] σ = run d 81 0 [v0, v1, v2, v3, v4, uu, uu] [] σ := rfl
theorem rc_C_load (d : Nat) (v0 v1 v2 : Value) (σ : Mm) : runc d 82 [v0, v1, v2] σ = run d 82 0 [v0, v1, v2, uu, uu] [] σ := rfl
theorem rc_C_unload (d : Nat) (v0 v1 : Value) (σ : Mm) : runc d 83 [v0, v1] σ = run d 83 0 [v0, v1, uu, uu] [] σ := rfl
theorem rc_C_mail (d : Nat) (v0 v1 v2 : Value) (σ : Mm) : runc d 84 [v0, v1, v2] σ = run d 84 0 [v0, v1, v2, uu, uu] [] σ := rfl
theorem rc_C_of (d : Nat) (v0 v1 v2 : Value) (σ : Mm) : runc d 85 [v0, v1, v2] σ = run d 85 0 [v0, v1, v2, uu] [] σ := rfl
theorem rc_C_run (d : Nat) (v0 v1 v2 : Value) (σ : Mm) : runc d 86 [v0, v1, v2] σ = run d 86 0 [v0, v1, v2] [] σ := rfl
theorem rc_C_suspects (d : Nat) (v0 : Value) (σ : Mm) : runc d 87 [v0] σ = run d 87 0 [v0] [] σ := rfl
theorem rc_C_way (d : Nat) (v0 v1 v2 v3 v4 v5 v6 : Value) (σ : Mm) : runc d 88 [v0, v1, v2, v3, v4, v5, v6] σ = run d 88 0 [v0, v1, v2, v3, v4, v5, v6, uu, uu, uu, uu] [] σ := rfl
theorem rc_C_count (d : Nat) (v0 v1 : Value) (σ : Mm) : runc d 89 [v0, v1] σ = run d 89 0 [v0, v1] [] σ := rfl
theorem rc_C_free (d : Nat) (v0 v1 : Value) (σ : Mm) : runc d 90 [v0, v1] σ = run d 90 0 [v0, v1, uu] [] σ := rfl
theorem rc_C_stopAt (d : Nat) (v0 v1 : Value) (σ : Mm) : runc d 91 [v0, v1] σ = run d 91 0 [v0, v1] [] σ := rfl
theorem rc_C_legAt (d : Nat) (v0 v1 : Value) (σ : Mm) : runc d 92 [v0, v1] σ = run d 92 0 [v0, v1] [] σ := rfl
theorem rc_C_boatAt (d : Nat) (v0 v1 : Value) (σ : Mm) : runc d 93 [v0, v1] σ = run d 93 0 [v0, v1] [] σ := rfl
theorem rc_C_bagAt (d : Nat) (v0 v1 : Value) (σ : Mm) : runc d 94 [v0, v1] σ = run d 94 0 [v0, v1] [] σ := rfl
theorem rc_C_mooredBoat (d : Nat) (v0 v1 : Value) (σ : Mm) : runc d 95 [v0, v1] σ = run d 95 0 [v0, v1, uu] [] σ := rfl
theorem rc_C_swellNow (d : Nat) (v0 v1 : Value) (σ : Mm) : runc d 96 [v0, v1] σ = run d 96 0 [v0, v1] [] σ := rfl
theorem rc_C_windNow (d : Nat) (v0 v1 v2 : Value) (σ : Mm) : runc d 97 [v0, v1, v2] σ = run d 97 0 [v0, v1, v2] [] σ := rfl
theorem rc_C_firstBroken (d : Nat) (v0 v1 v2 : Value) (σ : Mm) : runc d 98 [v0, v1, v2] σ = run d 98 0 [v0, v1, v2, uu] [] σ := rfl
theorem rc_C_refusalOf (d : Nat) (v0 v1 v2 : Value) (σ : Mm) : runc d 99 [v0, v1, v2] σ = run d 99 0 [v0, v1, v2] [] σ := rfl
theorem rc_C_headsResting (d : Nat) (v0 v1 : Value) (σ : Mm) : runc d 100 [v0, v1] σ = run d 100 0 [v0, v1, uu, uu, uu] [] σ := rfl
theorem rc_C_gallonsInTanks (d : Nat) (v0 : Value) (σ : Mm) : runc d 101 [v0] σ = run d 101 0 [v0, uu, uu] [] σ := rfl
theorem rc_C_drumsInAll (d : Nat) (v0 : Value) (σ : Mm) : runc d 102 [v0] σ = run d 102 0 [v0, uu, uu] [] σ := rfl
theorem rc_C_passMinute (d : Nat) (v0 v1 : Value) (σ : Mm) : runc d 103 [v0, v1] σ = run d 103 0 [v0, v1, uu] [] σ := rfl
theorem rc_C_mayLand (d : Nat) (v0 v1 : Value) (σ : Mm) : runc d 104 [v0, v1] σ = run d 104 0 [v0, v1] [] σ := rfl
theorem rc_C_land (d : Nat) (v0 v1 v2 : Value) (σ : Mm) : runc d 105 [v0, v1, v2] σ = run d 105 0 [v0, v1, v2] [] σ := rfl
theorem rc_C_sink (d : Nat) (v0 v1 : Value) (σ : Mm) : runc d 106 [v0, v1] σ = run d 106 0 [v0, v1, uu] [] σ := rfl
theorem rc_C_charge (d : Nat) (v0 v1 v2 v3 : Value) (σ : Mm) : runc d 107 [v0, v1, v2, v3] σ = run d 107 0 [v0, v1, v2, v3, uu] [] σ := rfl
theorem rc_C_putAshore (d : Nat) (v0 v1 v2 : Value) (σ : Mm) : runc d 108 [v0, v1, v2] σ = run d 108 0 [v0, v1, v2] [] σ := rfl
theorem rc_C_within (d : Nat) (v0 v1 v2 : Value) (σ : Mm) : runc d 109 [v0, v1, v2] σ = run d 109 0 [v0, v1, v2] [] σ := rfl
theorem rc_C_dividedUp (d : Nat) (v0 v1 : Value) (σ : Mm) : runc d 110 [v0, v1] σ = run d 110 0 [v0, v1] [] σ := rfl
theorem rc_C_minutesBack (d : Nat) (v0 v1 v2 : Value) (σ : Mm) : runc d 111 [v0, v1, v2] σ = run d 111 0 [v0, v1, v2] [] σ := rfl
theorem rc_C_isNight (d : Nat) (v0 : Value) (σ : Mm) : runc d 112 [v0] σ = run d 112 0 [v0, uu] [] σ := rfl
theorem rc_M_init (d : Nat) (v0 : Value) (σ : Mm) : runc d 113 [v0] σ = run d 113 0 [v0] [] σ := rfl
theorem rc_M_thrown (d : Nat) (v0 : Value) (σ : Mm) : runc d 114 [v0] σ = run d 114 0 [v0] [] σ := rfl
theorem rc_M_in (d : Nat) (v0 v1 v2 : Value) (σ : Mm) : runc d 115 [v0, v1, v2] σ = run d 115 0 [v0, v1, v2] [] σ := rfl
theorem rc_M_up (d : Nat) (v0 v1 : Value) (σ : Mm) : runc d 116 [v0, v1] σ = run d 116 0 [v0, v1] [] σ := rfl
theorem rc_M_isNight (d : Nat) (v0 v1 : Value) (σ : Mm) : runc d 117 [v0, v1] σ = run d 117 0 [v0, v1, uu] [] σ := rfl
theorem rc_M_isStop (d : Nat) (v0 v1 : Value) (σ : Mm) : runc d 118 [v0, v1] σ = run d 118 0 [v0, v1] [] σ := rfl
theorem rc_M_isLeg (d : Nat) (v0 v1 : Value) (σ : Mm) : runc d 119 [v0, v1] σ = run d 119 0 [v0, v1] [] σ := rfl
theorem rc_M_stop (d : Nat) (v0 v1 v2 v3 : Value) (σ : Mm) : runc d 120 [v0, v1, v2, v3] σ = run d 120 0 [v0, v1, v2, v3] [] σ := rfl
theorem rc_M_leg (d : Nat) (v0 v1 v2 v3 : Value) (σ : Mm) : runc d 121 [v0, v1, v2, v3] σ = run d 121 0 [v0, v1, v2, v3] [] σ := rfl
theorem rc_M_drums (d : Nat) (v0 v1 v2 : Value) (σ : Mm) : runc d 122 [v0, v1, v2] σ = run d 122 0 [v0, v1, v2] [] σ := rfl
theorem rc_M_tells (d : Nat) (v0 v1 v2 v3 v4 : Value) (σ : Mm) : runc d 123 [v0, v1, v2, v3, v4] σ = run d 123 0 [v0, v1, v2, v3, v4] [] σ := rfl
theorem rc_M_swell (d : Nat) (v0 v1 v2 v3 : Value) (σ : Mm) : runc d 124 [v0, v1, v2, v3] σ = run d 124 0 [v0, v1, v2, v3] [] σ := rfl
theorem rc_M_wind (d : Nat) (v0 v1 v2 v3 : Value) (σ : Mm) : runc d 125 [v0, v1, v2, v3] σ = run d 125 0 [v0, v1, v2, v3] [] σ := rfl
theorem rc_M_asKnown (d : Nat) (v0 v1 v2 v3 v4 v5 : Value) (σ : Mm) : runc d 126 [v0, v1, v2, v3, v4, v5] σ = run d 126 0 [v0, v1, v2, v3, v4, v5, uu, uu] [] σ := rfl
theorem rc_M_swellAt (d : Nat) (v0 v1 v2 v3 : Value) (σ : Mm) : runc d 127 [v0, v1, v2, v3] σ = run d 127 0 [v0, v1, v2, v3] [] σ := rfl
theorem rc_M_windAt (d : Nat) (v0 v1 v2 v3 : Value) (σ : Mm) : runc d 128 [v0, v1, v2, v3] σ = run d 128 0 [v0, v1, v2, v3] [] σ := rfl
theorem rc_M_swellOf (d : Nat) (v0 v1 v2 v3 : Value) (σ : Mm) : runc d 129 [v0, v1, v2, v3] σ = run d 129 0 [v0, v1, v2, v3] [] σ := rfl
theorem rc_M_windOf (d : Nat) (v0 v1 v2 v3 : Value) (σ : Mm) : runc d 130 [v0, v1, v2, v3] σ = run d 130 0 [v0, v1, v2, v3] [] σ := rfl
theorem rc_M_isBoat (d : Nat) (v0 v1 : Value) (σ : Mm) : runc d 131 [v0, v1] σ = run d 131 0 [v0, v1] [] σ := rfl
theorem rc_M_isMoored (d : Nat) (v0 v1 : Value) (σ : Mm) : runc d 132 [v0, v1] σ = run d 132 0 [v0, v1] [] σ := rfl
theorem rc_M_freeAt (d : Nat) (v0 v1 : Value) (σ : Mm) : runc d 133 [v0, v1] σ = run d 133 0 [v0, v1, uu, uu] [] σ := rfl
theorem rc_M_free (d : Nat) (v0 v1 : Value) (σ : Mm) : runc d 134 [v0, v1] σ = run d 134 0 [v0, v1] [] σ := rfl
theorem rc_M_boat (d : Nat) (v0 v1 v2 v3 v4 v5 v6 v7 v8 : Value) (σ : Mm) : runc d 135 [v0, v1, v2, v3, v4, v5, v6, v7, v8] σ = run d 135 0 [v0, v1, v2, v3, v4, v5, v6, v7, v8] [] σ := rfl
theorem rc_M_pounds (d : Nat) (v0 v1 : Value) (σ : Mm) : runc d 136 [v0, v1] σ = run d 136 0 [v0, v1, uu, uu] [] σ := rfl
theorem rc_M_weight (d : Nat) (v0 v1 : Value) (σ : Mm) : runc d 137 [v0, v1] σ = run d 137 0 [v0, v1] [] σ := rfl
theorem rc_M_liftsFrom (d : Nat) (v0 v1 v2 : Value) (σ : Mm) : runc d 138 [v0, v1, v2] σ = run d 138 0 [v0, v1, v2, uu] [] σ := rfl
theorem rc_M_going (d : Nat) (v0 v1 v2 v3 v4 : Value) (σ : Mm) : runc d 139 [v0, v1, v2, v3, v4] σ = run d 139 0 [v0, v1, v2, v3, v4, uu] [] σ := rfl
theorem rc_M_burns (d : Nat) (v0 v1 v2 : Value) (σ : Mm) : runc d 140 [v0, v1, v2] σ = run d 140 0 [v0, v1, v2] [] σ := rfl
theorem rc_M_four (d : Nat) (v0 v1 : Value) (σ : Mm) : runc d 141 [v0, v1] σ = run d 141 0 [v0, v1, uu] [] σ := rfl
theorem rc_M_feed (d : Nat) (v0 v1 v2 v3 v4 v5 : Value) (σ : Mm) : runc d 142 [v0, v1, v2, v3, v4, v5] σ = run d 142 0 [v0, v1, v2, v3, v4, v5] [] σ := rfl
theorem rc_M_end (d : Nat) (v0 v1 : Value) (σ : Mm) : runc d 143 [v0, v1] σ = run d 143 0 [v0, v1] [] σ := rfl
theorem rc_M_byteAt (d : Nat) (v0 v1 : Value) (σ : Mm) : runc d 144 [v0, v1] σ = run d 144 0 [v0, v1] [] σ := rfl
theorem rc_M_isThis (d : Nat) (v0 v1 : Value) (σ : Mm) : runc d 145 [v0, v1] σ = run d 145 0 [v0, v1, uu, uu, uu, uu] [] σ := rfl
theorem rc_M_wordHere (d : Nat) (v0 : Value) (σ : Mm) : runc d 146 [v0] σ = run d 146 0 [v0] [] σ := rfl
theorem rc_M_next (d : Nat) (v0 : Value) (σ : Mm) : runc d 147 [v0] σ = run d 147 0 [v0] [] σ := rfl
theorem rc_M_blames (d : Nat) (v0 v1 : Value) (σ : Mm) : runc d 148 [v0, v1] σ = run d 148 0 [v0, v1] [] σ := rfl
theorem rc_M_takes (d : Nat) (v0 v1 v2 : Value) (σ : Mm) : runc d 149 [v0, v1, v2] σ = run d 149 0 [v0, v1, v2, uu] [] σ := rfl
theorem rc_M_numeral (d : Nat) (v0 : Value) (σ : Mm) : runc d 150 [v0] σ = run d 150 0 [v0, uu] [] σ := rfl
theorem rc_M_readTerm (d : Nat) (v0 v1 v2 : Value) (σ : Mm) : runc d 151 [v0, v1, v2] σ = run d 151 0 [v0, v1, v2, uu, uu, uu, uu, uu, uu] [] σ := rfl
theorem rc_M_readLine (d : Nat) (v0 v1 : Value) (σ : Mm) : runc d 152 [v0, v1] σ = run d 152 0 [v0, v1, uu, uu] [] σ := rfl
theorem rc_M_rules (d : Nat) (v0 : Value) (σ : Mm) : runc d 153 [v0] σ = run d 153 0 [v0, uu, uu] [] σ := rfl
theorem rc_M_seen (d : Nat) (v0 v1 v2 v3 : Value) (σ : Mm) : runc d 154 [v0, v1, v2, v3] σ = run d 154 0 [v0, v1, v2, v3, uu, uu] [] σ := rfl
theorem rc_M_isSo (d : Nat) (v0 v1 v2 v3 : Value) (σ : Mm) : runc d 155 [v0, v1, v2, v3] σ = run d 155 0 [v0, v1, v2, v3, uu, uu, uu, uu] [] σ := rfl
theorem rc_M_firstNotSo (d : Nat) (v0 v1 v2 v3 : Value) (σ : Mm) : runc d 156 [v0, v1, v2, v3] σ = run d 156 0 [v0, v1, v2, v3, uu] [] σ := rfl
theorem rc_M_barred (d : Nat) (v0 v1 v2 : Value) (σ : Mm) : runc d 157 [v0, v1, v2] σ = run d 157 0 [v0, v1, v2] [] σ := rfl
theorem rc_M_fuel (d : Nat) (v0 v1 v2 : Value) (σ : Mm) : runc d 158 [v0, v1, v2] σ = run d 158 0 [v0, v1, v2, uu] [] σ := rfl
theorem rc_M_refused (d : Nat) (v0 v1 v2 : Value) (σ : Mm) : runc d 159 [v0, v1, v2] σ = run d 159 0 [v0, v1, v2] [] σ := rfl
theorem rc_M_isAtEnd (d : Nat) (v0 v1 v2 : Value) (σ : Mm) : runc d 160 [v0, v1, v2] σ = run d 160 0 [v0, v1, v2] [] σ := rfl
theorem rc_M_loses (d : Nat) (v0 v1 v2 v3 : Value) (σ : Mm) : runc d 161 [v0, v1, v2, v3] σ = run d 161 0 [v0, v1, v2, v3, uu] [] σ := rfl
theorem rc_M_lift (d : Nat) (v0 v1 v2 : Value) (σ : Mm) : runc d 162 [v0, v1, v2] σ = run d 162 0 [v0, v1, v2, uu, uu, uu, uu, uu, uu] [] σ := rfl
theorem rc_M_turn (d : Nat) (v0 v1 : Value) (σ : Mm) : runc d 163 [v0, v1] σ = run d 163 0 [v0, v1, uu, uu, uu] [] σ := rfl
theorem rc_M_point (d : Nat) (v0 v1 v2 : Value) (σ : Mm) : runc d 164 [v0, v1, v2] σ = run d 164 0 [v0, v1, v2, uu, uu, uu, uu, uu, uu] [] σ := rfl
theorem rc_M_canLand (d : Nat) (v0 v1 : Value) (σ : Mm) : runc d 165 [v0, v1] σ = run d 165 0 [v0, v1] [] σ := rfl
theorem rc_M_sinks (d : Nat) (v0 v1 : Value) (σ : Mm) : runc d 166 [v0, v1] σ = run d 166 0 [v0, v1, uu] [] σ := rfl
theorem rc_M_flies (d : Nat) (v0 v1 : Value) (σ : Mm) : runc d 167 [v0, v1] σ = run d 167 0 [v0, v1, uu] [] σ := rfl
theorem rc_M_go (d : Nat) (v0 v1 : Value) (σ : Mm) : runc d 168 [v0, v1] σ = run d 168 0 [v0, v1, uu, uu] [] σ := rfl
theorem rc_M_rest (d : Nat) (v0 v1 : Value) (σ : Mm) : runc d 169 [v0, v1] σ = run d 169 0 [v0, v1, uu, uu] [] σ := rfl
theorem rc_M_breaks (d : Nat) (v0 v1 v2 : Value) (σ : Mm) : runc d 170 [v0, v1, v2] σ = run d 170 0 [v0, v1, v2] [] σ := rfl
theorem rc_M_raise (d : Nat) (v0 v1 : Value) (σ : Mm) : runc d 171 [v0, v1] σ = run d 171 0 [v0, v1] [] σ := rfl
theorem rc_M_bag (d : Nat) (v0 v1 v2 v3 v4 : Value) (σ : Mm) : runc d 172 [v0, v1, v2, v3, v4] σ = run d 172 0 [v0, v1, v2, v3, v4] [] σ := rfl
theorem rc_M_isBag (d : Nat) (v0 v1 : Value) (σ : Mm) : runc d 173 [v0, v1] σ = run d 173 0 [v0, v1] [] σ := rfl
theorem rc_M_load (d : Nat) (v0 v1 v2 : Value) (σ : Mm) : runc d 174 [v0, v1, v2] σ = run d 174 0 [v0, v1, v2] [] σ := rfl
theorem rc_M_unload (d : Nat) (v0 v1 : Value) (σ : Mm) : runc d 175 [v0, v1] σ = run d 175 0 [v0, v1] [] σ := rfl
theorem rc_M_mail (d : Nat) (v0 v1 v2 : Value) (σ : Mm) : runc d 176 [v0, v1, v2] σ = run d 176 0 [v0, v1, v2] [] σ := rfl
theorem rc_M_of (d : Nat) (v0 v1 v2 : Value) (σ : Mm) : runc d 177 [v0, v1, v2] σ = run d 177 0 [v0, v1, v2] [] σ := rfl
theorem rc_M_isExcess (d : Nat) (v0 v1 : Value) (σ : Mm) : runc d 178 [v0, v1] σ = run d 178 0 [v0, v1] [] σ := rfl
theorem rc_M_run (d : Nat) (v0 v1 v2 : Value) (σ : Mm) : runc d 179 [v0, v1, v2] σ = run d 179 0 [v0, v1, v2] [] σ := rfl
theorem rc_M_suspects (d : Nat) (v0 : Value) (σ : Mm) : runc d 180 [v0] σ = run d 180 0 [v0, uu, uu, uu] [] σ := rfl
theorem rc_M_leaves (d : Nat) (v0 v1 v2 v3 : Value) (σ : Mm) : runc d 181 [v0, v1, v2, v3] σ = run d 181 0 [v0, v1, v2, v3, uu, uu, uu] [] σ := rfl
theorem rc_M_goesOn (d : Nat) (v0 v1 v2 v3 v4 v5 : Value) (σ : Mm) : runc d 182 [v0, v1, v2, v3, v4, v5] σ = run d 182 0 [v0, v1, v2, v3, v4, v5, uu, uu, uu, uu, uu, uu] [] σ := rfl
theorem rc_M_way (d : Nat) (v0 v1 v2 v3 v4 v5 v6 : Value) (σ : Mm) : runc d 183 [v0, v1, v2, v3, v4, v5, v6] σ = run d 183 0 [v0, v1, v2, v3, v4, v5, v6] [] σ := rfl
theorem rc_M_count (d : Nat) (v0 v1 : Value) (σ : Mm) : runc d 184 [v0, v1] σ = run d 184 0 [v0, v1, uu, uu] [] σ := rfl
theorem rc_IN_bitCount (d : Nat) (v0 : Value) (σ : Mm) : runc d 185 [v0] σ = run d 185 0 [v0] [] σ := rfl
theorem rc_AC_init (d : Nat) (v0 : Value) (σ : Mm) : runc d 186 [v0] σ = run d 186 0 [v0] [] σ := rfl
theorem rc_AB_init (d : Nat) (v0 : Value) (σ : Mm) : runc d 187 [v0] σ = run d 187 0 [v0] [] σ := rfl
theorem rc_AL_init (d : Nat) (v0 : Value) (σ : Mm) : runc d 188 [v0] σ = run d 188 0 [v0] [] σ := rfl
theorem rc_AL_size (d : Nat) (v0 : Value) (σ : Mm) : runc d 189 [v0] σ = run d 189 0 [v0] [] σ := rfl
theorem rc_AL_elementData (d : Nat) (v0 v1 : Value) (σ : Mm) : runc d 190 [v0, v1] σ = run d 190 0 [v0, v1] [] σ := rfl
theorem rc_AL_get (d : Nat) (v0 v1 : Value) (σ : Mm) : runc d 191 [v0, v1] σ = run d 191 0 [v0, v1] [] σ := rfl
theorem rc_AL_add (d : Nat) (v0 v1 v2 v3 : Value) (σ : Mm) : runc d 192 [v0, v1, v2, v3] σ = run d 192 0 [v0, v1, v2, v3] [] σ := rfl
theorem rc_AL_add3 (d : Nat) (v0 v1 : Value) (σ : Mm) : runc d 193 [v0, v1] σ = run d 193 0 [v0, v1] [] σ := rfl
theorem rc_OJ_checkIndex (d : Nat) (v0 v1 : Value) (σ : Mm) : runc d 194 [v0, v1] σ = run d 194 0 [v0, v1] [] σ := rfl
theorem rc_PC_checkIndex (d : Nat) (v0 v1 v2 : Value) (σ : Mm) : runc d 195 [v0, v1, v2] σ = run d 195 0 [v0, v1, v2] [] σ := rfl
