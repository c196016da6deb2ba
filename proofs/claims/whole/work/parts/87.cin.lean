/-! ===== THE CLASS IS MADE (printed by wip/gen/init.py) ===== -/
section B87
variable {σ σ0 : Mm} {c : Nat} {V : Nat → Int32} (d : Nat)
def cKt (o : Nat) : Nat := [12, 1, 1, 1, 1, 4, 25, 30, 35, 40, 11, 107, 7, 45, 50, 55, 110, 9, 71, 75, 80, 86, 90, 95, 100, 9, 71, 75, 80, 86, 90, 95, 100].getD o 0
def cNt (o : Nat) : Nat := [0, 0, 0, 0, 0, 0, 160, 160, 160, 42, 0, 300, 0, 200, 200, 200, 8, 0, 16, 16, 16, 96, 96, 96, 96, 0, 16, 16, 16, 96, 96, 96, 96].getD o 0
theorem al_init {n o : Nat} {pts : List (Nat × Nat × Nat × Nat)} {es : List Nat} (h : Bd σ0 c cKt cNt V σ n pts es) (hz : Ez σ0) (ho : o < n) (hk : cKt o = 1) (hne : ∀ e, e ∈ pts → e.1 ≠ 1) : ∃ σ', runc (d + 2) 188 [.ref (c + o)] σ = some (none, σ') ∧ Bd σ0 c cKt cNt V σ' n pts (o :: es) := by
  obtain ⟨z, z1, z2, z3⟩ := hz
  have k1 : mK σ (c + o) = 1 := by rw [bd_K h ho]; exact hk
  have ez := bd_ez h (by omega)
  refine ⟨_, ?_, bd_sE (bd_s0 h (k := 1) (by decide) 0 ho) ho hne (v := some z) z1.symm⟩
  rw [z1] at ez
  simp [psh_some, psh_none, -Int32.not_lt, -Int32.not_le, va_rf, vr, isA_r, isR_r, vd, rc_AL_init, e_AL_init_0, e_AL_init_4, e_AL_init_11, rc_AB_init, e_AB_init_0, e_AB_init_4, e_AB_init_9, rc_AC_init, e_AC_init_0, mK_sI, mP_sI, k1, ez]
/-- heads are set, so far -/
def vH (m : Nat) : Nat → Int32 := fun j => if j < m then -1 else 0
theorem in_Facts_init_5 (h : Bd σ0 c cKt cNt v0 σ 6 [(12, 0, 3, 4), (12, 0, 2, 3), (12, 0, 1, 2), (12, 0, 0, 1)] [4, 3, 2, 1]) : ∃ σ', runc d 9 [.ref (c + 5)] σ = some (none, σ') ∧ Bd σ0 c cKt cNt (vH 42) σ' 10 [(4, 5, 3, 9), (4, 5, 2, 8), (4, 5, 1, 7), (4, 5, 0, 6), (12, 0, 3, 4), (12, 0, 2, 3), (12, 0, 1, 2), (12, 0, 0, 1)] [4, 3, 2, 1] := by
  rw [rc_Facts_init]
  have b1 := bd_nw h 160 (show cKt 6 = 25 from rfl) (show cNt 6 = 160 from rfl) (fun z => absurd z (by decide))
  have b2 := bd_sP b1 4 0 6 (show 5 < 7 by decide) (by decide) (by decide)
  have e1 : run d 9 0 [.ref (c + 5), uu] [] σ = run d 9 13 [.ref (c + 5), uu] [] (sP (nw σ 25 160 160) 4 (c + 5) 0 (some (c + 6))) := by
    rw [e_Facts_init_0 d (c + 5) uu σ, h.1]
    exact e_Facts_init_10 d (c + 5) uu (.ref (c + 6)) (.ref (c + 5)) _ (isA_r _) (bd_K b1 (show 5 < 7 by decide)) (isR_r _)
  rw [e1]; clear e1 b1
  generalize sP (nw σ 25 160 160) 4 (c + 5) 0 (some (c + 6)) = s6 at b2 ⊢
  have h6 := b2; clear b2
  have b1 := bd_nw h6 160 (show cKt 7 = 30 from rfl) (show cNt 7 = 160 from rfl) (fun z => absurd z (by decide))
  have b2 := bd_sP b1 4 1 7 (show 5 < 8 by decide) (by decide) (by decide)
  have e1 : run d 9 13 [.ref (c + 5), uu] [] s6 = run d 9 22 [.ref (c + 5), uu] [] (sP (nw s6 30 160 160) 4 (c + 5) 1 (some (c + 7))) := by
    rw [e_Facts_init_13 d (c + 5) uu s6, h6.1]
    exact e_Facts_init_19 d (c + 5) uu (.ref (c + 7)) (.ref (c + 5)) _ (isA_r _) (bd_K b1 (show 5 < 8 by decide)) (isR_r _)
  rw [e1]; clear e1 b1
  generalize sP (nw s6 30 160 160) 4 (c + 5) 1 (some (c + 7)) = s7 at b2 ⊢
  have h7 := b2; clear b2 h6
  have b1 := bd_nw h7 160 (show cKt 8 = 35 from rfl) (show cNt 8 = 160 from rfl) (fun z => absurd z (by decide))
  have b2 := bd_sP b1 4 2 8 (show 5 < 9 by decide) (by decide) (by decide)
  have e1 : run d 9 22 [.ref (c + 5), uu] [] s7 = run d 9 31 [.ref (c + 5), uu] [] (sP (nw s7 35 160 160) 4 (c + 5) 2 (some (c + 8))) := by
    rw [e_Facts_init_22 d (c + 5) uu s7, h7.1]
    exact e_Facts_init_28 d (c + 5) uu (.ref (c + 8)) (.ref (c + 5)) _ (isA_r _) (bd_K b1 (show 5 < 9 by decide)) (isR_r _)
  rw [e1]; clear e1 b1
  generalize sP (nw s7 35 160 160) 4 (c + 5) 2 (some (c + 8)) = s8 at b2 ⊢
  have h8 := b2; clear b2 h7
  have b1 := bd_nw h8 42 (show cKt 9 = 40 from rfl) (show cNt 9 = 42 from rfl) (fun _ _ => rfl)
  have b2 := bd_sP b1 4 3 9 (show 5 < 10 by decide) (by decide) (by decide)
  have e1 : run d 9 31 [.ref (c + 5), uu] [] s8 = run d 9 39 [.ref (c + 5), uu] [] (sP (nw s8 40 42 42) 4 (c + 5) 3 (some (c + 9))) := by
    rw [e_Facts_init_31 d (c + 5) uu s8, h8.1]
    exact e_Facts_init_36 d (c + 5) uu (.ref (c + 9)) (.ref (c + 5)) _ (isA_r _) (bd_K b1 (show 5 < 10 by decide)) (isR_r _)
  rw [e1]; clear e1 b1
  generalize sP (nw s8 40 42 42) 4 (c + 5) 3 (some (c + 9)) = s9 at b2 ⊢
  have h9 := b2; clear b2 h8
  have lp : ∀ (y m : Nat) (τ : Mm), m + y = 42 → Bd σ0 c cKt cNt (vH m) τ 10 [(4, 5, 3, 9), (4, 5, 2, 8), (4, 5, 1, 7), (4, 5, 0, 6), (12, 0, 3, 4), (12, 0, 2, 3), (12, 0, 1, 2), (12, 0, 0, 1)] [4, 3, 2, 1] → ∃ σ', run d 9 41 [.ref (c + 5), .int (nI m)] [] τ = some (none, σ') ∧ Bd σ0 c cKt cNt (vH 42) σ' 10 [(4, 5, 3, 9), (4, 5, 2, 8), (4, 5, 1, 7), (4, 5, 0, 6), (12, 0, 3, 4), (12, 0, 2, 3), (12, 0, 1, 2), (12, 0, 0, 1)] [4, 3, 2, 1] := by
    intro y
    induction y with
    | zero =>
      intro m τ hm hb
      have : m = 42 := by omega
      subst this
      have z : (42 : Int32) ≤ nI 42 := by decide
      refine ⟨τ, ?_, hb⟩
      simp [psh_some, psh_none, -Int32.not_lt, -Int32.not_le, e_Facts_init_41, e_Facts_init_60, z]
    | succ y ih =>
      intro m τ hm hb
      have z : ¬ (42 : Int32) ≤ nI m := nI_ge (b := 42) (by omega) (by omega)
      have im : ix (nI m) 42 = true := ix_of (by omega) (by omega)
      have cm := cl1000 (show m < 1000 by omega)
      have b := bd_hd hb m (-1) (o := 9) (by decide) (by decide)
      have ev : (fun j => if j = m then -1 else vH m j) = vH (m + 1) := by
        funext j
        unfold vH
        by_cases y1 : j = m
        · rw [if_pos y1, if_pos (by omega)]
        · rw [if_neg y1]
          by_cases y2 : j < m
          · rw [if_pos y2, if_pos (by omega)]
          · rw [if_neg y2, if_neg (by omega)]
      rw [ev] at b
      obtain ⟨σ', r1, r2⟩ := ih (m + 1) _ (by omega) b
      refine ⟨σ', ?_, r2⟩
      have k5 := bd_K hb (show 5 < 10 by decide)
      have k9 := bd_K hb (show 9 < 10 by decide)
      have n9 := bd_N hb (show 9 < 10 by decide)
      have p9 := bd_P hb (k := 4) (o := 5) (f := 3) (t := 9) (by decide)
      rw [show cKt 5 = 4 from rfl] at k5
      rw [show cKt 9 = 40 from rfl] at k9
      rw [show cNt 9 = 42 from rfl] at n9
      rw [← r1, nI_succ]
      simp [psh_some, psh_none, -Int32.not_lt, -Int32.not_le, va_rf, isA_r, isR_r, vd, ar, akI, e_Facts_init_41, e_Facts_init_47, e_Facts_init_54, k5, k9, n9, p9, z, im, cm]
  rw [e_Facts_init_39 d (c + 5) uu]
  have ev : (fun _ => 0 : Nat → Int32) = vH 0 := by funext j; simp [vH]
  rw [show (v0 : Nat → Int32) = vH 0 from ev] at h9
  exact lp 42 0 _ (by omega) h9
theorem in_Tape_init_10 (h : Bd σ0 c cKt cNt (vH 42) σ 11 [(12, 0, 4, 5), (4, 5, 3, 9), (4, 5, 2, 8), (4, 5, 1, 7), (4, 5, 0, 6), (12, 0, 3, 4), (12, 0, 2, 3), (12, 0, 1, 2), (12, 0, 0, 1)] [4, 3, 2, 1]) : ∃ σ', runc d 48 [.ref (c + 10)] σ = some (none, σ') ∧ Bd σ0 c cKt cNt (vH 42) σ' 12 [(11, 10, 0, 11), (12, 0, 4, 5), (4, 5, 3, 9), (4, 5, 2, 8), (4, 5, 1, 7), (4, 5, 0, 6), (12, 0, 3, 4), (12, 0, 2, 3), (12, 0, 1, 2), (12, 0, 0, 1)] [4, 3, 2, 1] := by
  rw [rc_Tape_init]
  have b1 := bd_nw h 300 (show cKt 11 = 107 from rfl) (show cNt 11 = 300 from rfl) (fun z => absurd z (by decide))
  have b2 := bd_sP b1 11 0 11 (show 10 < 12 by decide) (by decide) (by decide)
  have e1 : run d 48 0 [.ref (c + 10)] [] σ = run d 48 13 [.ref (c + 10)] [] (sP (nw σ 107 300 300) 11 (c + 10) 0 (some (c + 11))) := by
    rw [e_Tape_init_0 d (c + 10) σ, h.1]
    exact e_Tape_init_10 d (c + 10) (.ref (c + 11)) (.ref (c + 10)) _ (isA_r _) (bd_K b1 (show 10 < 12 by decide)) (isR_r _)
  rw [e1]; clear e1 b1
  generalize sP (nw σ 107 300 300) 11 (c + 10) 0 (some (c + 11)) = s11 at b2 ⊢
  have h11 := b2; clear b2
  exact ⟨_, e_Tape_init_13 d (c + 10) _, h11⟩
theorem in_LiftLog_init_12 (h : Bd σ0 c cKt cNt (vH 42) σ 13 [(12, 0, 5, 10), (11, 10, 0, 11), (12, 0, 4, 5), (4, 5, 3, 9), (4, 5, 2, 8), (4, 5, 1, 7), (4, 5, 0, 6), (12, 0, 3, 4), (12, 0, 2, 3), (12, 0, 1, 2), (12, 0, 0, 1)] [4, 3, 2, 1]) : ∃ σ', runc d 23 [.ref (c + 12)] σ = some (none, σ') ∧ Bd σ0 c cKt cNt (vH 42) σ' 16 [(7, 12, 2, 15), (7, 12, 1, 14), (7, 12, 0, 13), (12, 0, 5, 10), (11, 10, 0, 11), (12, 0, 4, 5), (4, 5, 3, 9), (4, 5, 2, 8), (4, 5, 1, 7), (4, 5, 0, 6), (12, 0, 3, 4), (12, 0, 2, 3), (12, 0, 1, 2), (12, 0, 0, 1)] [4, 3, 2, 1] := by
  rw [rc_LiftLog_init]
  have b1 := bd_nw h 200 (show cKt 13 = 45 from rfl) (show cNt 13 = 200 from rfl) (fun z => absurd z (by decide))
  have b2 := bd_sP b1 7 0 13 (show 12 < 14 by decide) (by decide) (by decide)
  have e1 : run d 23 0 [.ref (c + 12)] [] σ = run d 23 13 [.ref (c + 12)] [] (sP (nw σ 45 200 200) 7 (c + 12) 0 (some (c + 13))) := by
    rw [e_LiftLog_init_0 d (c + 12) σ, h.1]
    exact e_LiftLog_init_10 d (c + 12) (.ref (c + 13)) (.ref (c + 12)) _ (isA_r _) (bd_K b1 (show 12 < 14 by decide)) (isR_r _)
  rw [e1]; clear e1 b1
  generalize sP (nw σ 45 200 200) 7 (c + 12) 0 (some (c + 13)) = s13 at b2 ⊢
  have h13 := b2; clear b2
  have b1 := bd_nw h13 200 (show cKt 14 = 50 from rfl) (show cNt 14 = 200 from rfl) (fun z => absurd z (by decide))
  have b2 := bd_sP b1 7 1 14 (show 12 < 15 by decide) (by decide) (by decide)
  have e1 : run d 23 13 [.ref (c + 12)] [] s13 = run d 23 22 [.ref (c + 12)] [] (sP (nw s13 50 200 200) 7 (c + 12) 1 (some (c + 14))) := by
    rw [e_LiftLog_init_13 d (c + 12) s13, h13.1]
    exact e_LiftLog_init_19 d (c + 12) (.ref (c + 14)) (.ref (c + 12)) _ (isA_r _) (bd_K b1 (show 12 < 15 by decide)) (isR_r _)
  rw [e1]; clear e1 b1
  generalize sP (nw s13 50 200 200) 7 (c + 12) 1 (some (c + 14)) = s14 at b2 ⊢
  have h14 := b2; clear b2 h13
  have b1 := bd_nw h14 200 (show cKt 15 = 55 from rfl) (show cNt 15 = 200 from rfl) (fun z => absurd z (by decide))
  have b2 := bd_sP b1 7 2 15 (show 12 < 16 by decide) (by decide) (by decide)
  have e1 : run d 23 22 [.ref (c + 12)] [] s14 = run d 23 31 [.ref (c + 12)] [] (sP (nw s14 55 200 200) 7 (c + 12) 2 (some (c + 15))) := by
    rw [e_LiftLog_init_22 d (c + 12) s14, h14.1]
    exact e_LiftLog_init_28 d (c + 12) (.ref (c + 15)) (.ref (c + 12)) _ (isA_r _) (bd_K b1 (show 12 < 16 by decide)) (isR_r _)
  rw [e1]; clear e1 b1
  generalize sP (nw s14 55 200 200) 7 (c + 12) 2 (some (c + 15)) = s15 at b2 ⊢
  have h15 := b2; clear b2 h14
  exact ⟨_, e_LiftLog_init_31 d (c + 12) _, h15⟩
theorem in_Rules_init_17 (h : Bd σ0 c cKt cNt (vH 42) σ 18 [(12, 0, 7, 16), (12, 0, 6, 12), (7, 12, 2, 15), (7, 12, 1, 14), (7, 12, 0, 13), (12, 0, 5, 10), (11, 10, 0, 11), (12, 0, 4, 5), (4, 5, 3, 9), (4, 5, 2, 8), (4, 5, 1, 7), (4, 5, 0, 6), (12, 0, 3, 4), (12, 0, 2, 3), (12, 0, 1, 2), (12, 0, 0, 1)] [4, 3, 2, 1]) : ∃ σ', runc d 36 [.ref (c + 17)] σ = some (none, σ') ∧ Bd σ0 c cKt cNt (vH 42) σ' 25 [(9, 17, 6, 24), (9, 17, 5, 23), (9, 17, 4, 22), (9, 17, 3, 21), (9, 17, 2, 20), (9, 17, 1, 19), (9, 17, 0, 18), (12, 0, 7, 16), (12, 0, 6, 12), (7, 12, 2, 15), (7, 12, 1, 14), (7, 12, 0, 13), (12, 0, 5, 10), (11, 10, 0, 11), (12, 0, 4, 5), (4, 5, 3, 9), (4, 5, 2, 8), (4, 5, 1, 7), (4, 5, 0, 6), (12, 0, 3, 4), (12, 0, 2, 3), (12, 0, 1, 2), (12, 0, 0, 1)] [4, 3, 2, 1] := by
  rw [rc_Rules_init]
  have b1 := bd_nw h 16 (show cKt 18 = 71 from rfl) (show cNt 18 = 16 from rfl) (fun z => absurd z (by decide))
  have b2 := bd_sP b1 9 0 18 (show 17 < 19 by decide) (by decide) (by decide)
  have e1 : run d 36 0 [.ref (c + 17)] [] σ = run d 36 12 [.ref (c + 17)] [] (sP (nw σ 71 16 16) 9 (c + 17) 0 (some (c + 18))) := by
    rw [e_Rules_init_0 d (c + 17) σ, h.1]
    exact e_Rules_init_9 d (c + 17) (.ref (c + 18)) (.ref (c + 17)) _ (isA_r _) (bd_K b1 (show 17 < 19 by decide)) (isR_r _)
  rw [e1]; clear e1 b1
  generalize sP (nw σ 71 16 16) 9 (c + 17) 0 (some (c + 18)) = s18 at b2 ⊢
  have h18 := b2; clear b2
  have b1 := bd_nw h18 16 (show cKt 19 = 75 from rfl) (show cNt 19 = 16 from rfl) (fun z => absurd z (by decide))
  have b2 := bd_sP b1 9 1 19 (show 17 < 20 by decide) (by decide) (by decide)
  have e1 : run d 36 12 [.ref (c + 17)] [] s18 = run d 36 20 [.ref (c + 17)] [] (sP (nw s18 75 16 16) 9 (c + 17) 1 (some (c + 19))) := by
    rw [e_Rules_init_12 d (c + 17) s18, h18.1]
    exact e_Rules_init_17 d (c + 17) (.ref (c + 19)) (.ref (c + 17)) _ (isA_r _) (bd_K b1 (show 17 < 20 by decide)) (isR_r _)
  rw [e1]; clear e1 b1
  generalize sP (nw s18 75 16 16) 9 (c + 17) 1 (some (c + 19)) = s19 at b2 ⊢
  have h19 := b2; clear b2 h18
  have b1 := bd_nw h19 16 (show cKt 20 = 80 from rfl) (show cNt 20 = 16 from rfl) (fun z => absurd z (by decide))
  have b2 := bd_sP b1 9 2 20 (show 17 < 21 by decide) (by decide) (by decide)
  have e1 : run d 36 20 [.ref (c + 17)] [] s19 = run d 36 28 [.ref (c + 17)] [] (sP (nw s19 80 16 16) 9 (c + 17) 2 (some (c + 20))) := by
    rw [e_Rules_init_20 d (c + 17) s19, h19.1]
    exact e_Rules_init_25 d (c + 17) (.ref (c + 20)) (.ref (c + 17)) _ (isA_r _) (bd_K b1 (show 17 < 21 by decide)) (isR_r _)
  rw [e1]; clear e1 b1
  generalize sP (nw s19 80 16 16) 9 (c + 17) 2 (some (c + 20)) = s20 at b2 ⊢
  have h20 := b2; clear b2 h19
  have b1 := bd_nw h20 96 (show cKt 21 = 86 from rfl) (show cNt 21 = 96 from rfl) (fun z => absurd z (by decide))
  have b2 := bd_sP b1 9 3 21 (show 17 < 22 by decide) (by decide) (by decide)
  have e1 : run d 36 28 [.ref (c + 17)] [] s20 = run d 36 36 [.ref (c + 17)] [] (sP (nw s20 86 96 96) 9 (c + 17) 3 (some (c + 21))) := by
    rw [e_Rules_init_28 d (c + 17) s20, h20.1]
    exact e_Rules_init_33 d (c + 17) (.ref (c + 21)) (.ref (c + 17)) _ (isA_r _) (bd_K b1 (show 17 < 22 by decide)) (isR_r _)
  rw [e1]; clear e1 b1
  generalize sP (nw s20 86 96 96) 9 (c + 17) 3 (some (c + 21)) = s21 at b2 ⊢
  have h21 := b2; clear b2 h20
  have b1 := bd_nw h21 96 (show cKt 22 = 90 from rfl) (show cNt 22 = 96 from rfl) (fun z => absurd z (by decide))
  have b2 := bd_sP b1 9 4 22 (show 17 < 23 by decide) (by decide) (by decide)
  have e1 : run d 36 36 [.ref (c + 17)] [] s21 = run d 36 44 [.ref (c + 17)] [] (sP (nw s21 90 96 96) 9 (c + 17) 4 (some (c + 22))) := by
    rw [e_Rules_init_36 d (c + 17) s21, h21.1]
    exact e_Rules_init_41 d (c + 17) (.ref (c + 22)) (.ref (c + 17)) _ (isA_r _) (bd_K b1 (show 17 < 23 by decide)) (isR_r _)
  rw [e1]; clear e1 b1
  generalize sP (nw s21 90 96 96) 9 (c + 17) 4 (some (c + 22)) = s22 at b2 ⊢
  have h22 := b2; clear b2 h21
  have b1 := bd_nw h22 96 (show cKt 23 = 95 from rfl) (show cNt 23 = 96 from rfl) (fun z => absurd z (by decide))
  have b2 := bd_sP b1 9 5 23 (show 17 < 24 by decide) (by decide) (by decide)
  have e1 : run d 36 44 [.ref (c + 17)] [] s22 = run d 36 52 [.ref (c + 17)] [] (sP (nw s22 95 96 96) 9 (c + 17) 5 (some (c + 23))) := by
    rw [e_Rules_init_44 d (c + 17) s22, h22.1]
    exact e_Rules_init_49 d (c + 17) (.ref (c + 23)) (.ref (c + 17)) _ (isA_r _) (bd_K b1 (show 17 < 24 by decide)) (isR_r _)
  rw [e1]; clear e1 b1
  generalize sP (nw s22 95 96 96) 9 (c + 17) 5 (some (c + 23)) = s23 at b2 ⊢
  have h23 := b2; clear b2 h22
  have b1 := bd_nw h23 96 (show cKt 24 = 100 from rfl) (show cNt 24 = 96 from rfl) (fun z => absurd z (by decide))
  have b2 := bd_sP b1 9 6 24 (show 17 < 25 by decide) (by decide) (by decide)
  have e1 : run d 36 52 [.ref (c + 17)] [] s23 = run d 36 60 [.ref (c + 17)] [] (sP (nw s23 100 96 96) 9 (c + 17) 6 (some (c + 24))) := by
    rw [e_Rules_init_52 d (c + 17) s23, h23.1]
    exact e_Rules_init_57 d (c + 17) (.ref (c + 24)) (.ref (c + 17)) _ (isA_r _) (bd_K b1 (show 17 < 25 by decide)) (isR_r _)
  rw [e1]; clear e1 b1
  generalize sP (nw s23 100 96 96) 9 (c + 17) 6 (some (c + 24)) = s24 at b2 ⊢
  have h24 := b2; clear b2 h23
  exact ⟨_, e_Rules_init_60 d (c + 17) _, h24⟩
theorem in_Rules_init_25 (h : Bd σ0 c cKt cNt (vH 42) σ 26 [(12, 0, 8, 17), (9, 17, 6, 24), (9, 17, 5, 23), (9, 17, 4, 22), (9, 17, 3, 21), (9, 17, 2, 20), (9, 17, 1, 19), (9, 17, 0, 18), (12, 0, 7, 16), (12, 0, 6, 12), (7, 12, 2, 15), (7, 12, 1, 14), (7, 12, 0, 13), (12, 0, 5, 10), (11, 10, 0, 11), (12, 0, 4, 5), (4, 5, 3, 9), (4, 5, 2, 8), (4, 5, 1, 7), (4, 5, 0, 6), (12, 0, 3, 4), (12, 0, 2, 3), (12, 0, 1, 2), (12, 0, 0, 1)] [4, 3, 2, 1]) : ∃ σ', runc d 36 [.ref (c + 25)] σ = some (none, σ') ∧ Bd σ0 c cKt cNt (vH 42) σ' 33 [(9, 25, 6, 32), (9, 25, 5, 31), (9, 25, 4, 30), (9, 25, 3, 29), (9, 25, 2, 28), (9, 25, 1, 27), (9, 25, 0, 26), (12, 0, 8, 17), (9, 17, 6, 24), (9, 17, 5, 23), (9, 17, 4, 22), (9, 17, 3, 21), (9, 17, 2, 20), (9, 17, 1, 19), (9, 17, 0, 18), (12, 0, 7, 16), (12, 0, 6, 12), (7, 12, 2, 15), (7, 12, 1, 14), (7, 12, 0, 13), (12, 0, 5, 10), (11, 10, 0, 11), (12, 0, 4, 5), (4, 5, 3, 9), (4, 5, 2, 8), (4, 5, 1, 7), (4, 5, 0, 6), (12, 0, 3, 4), (12, 0, 2, 3), (12, 0, 1, 2), (12, 0, 0, 1)] [4, 3, 2, 1] := by
  rw [rc_Rules_init]
  have b1 := bd_nw h 16 (show cKt 26 = 71 from rfl) (show cNt 26 = 16 from rfl) (fun z => absurd z (by decide))
  have b2 := bd_sP b1 9 0 26 (show 25 < 27 by decide) (by decide) (by decide)
  have e1 : run d 36 0 [.ref (c + 25)] [] σ = run d 36 12 [.ref (c + 25)] [] (sP (nw σ 71 16 16) 9 (c + 25) 0 (some (c + 26))) := by
    rw [e_Rules_init_0 d (c + 25) σ, h.1]
    exact e_Rules_init_9 d (c + 25) (.ref (c + 26)) (.ref (c + 25)) _ (isA_r _) (bd_K b1 (show 25 < 27 by decide)) (isR_r _)
  rw [e1]; clear e1 b1
  generalize sP (nw σ 71 16 16) 9 (c + 25) 0 (some (c + 26)) = s26 at b2 ⊢
  have h26 := b2; clear b2
  have b1 := bd_nw h26 16 (show cKt 27 = 75 from rfl) (show cNt 27 = 16 from rfl) (fun z => absurd z (by decide))
  have b2 := bd_sP b1 9 1 27 (show 25 < 28 by decide) (by decide) (by decide)
  have e1 : run d 36 12 [.ref (c + 25)] [] s26 = run d 36 20 [.ref (c + 25)] [] (sP (nw s26 75 16 16) 9 (c + 25) 1 (some (c + 27))) := by
    rw [e_Rules_init_12 d (c + 25) s26, h26.1]
    exact e_Rules_init_17 d (c + 25) (.ref (c + 27)) (.ref (c + 25)) _ (isA_r _) (bd_K b1 (show 25 < 28 by decide)) (isR_r _)
  rw [e1]; clear e1 b1
  generalize sP (nw s26 75 16 16) 9 (c + 25) 1 (some (c + 27)) = s27 at b2 ⊢
  have h27 := b2; clear b2 h26
  have b1 := bd_nw h27 16 (show cKt 28 = 80 from rfl) (show cNt 28 = 16 from rfl) (fun z => absurd z (by decide))
  have b2 := bd_sP b1 9 2 28 (show 25 < 29 by decide) (by decide) (by decide)
  have e1 : run d 36 20 [.ref (c + 25)] [] s27 = run d 36 28 [.ref (c + 25)] [] (sP (nw s27 80 16 16) 9 (c + 25) 2 (some (c + 28))) := by
    rw [e_Rules_init_20 d (c + 25) s27, h27.1]
    exact e_Rules_init_25 d (c + 25) (.ref (c + 28)) (.ref (c + 25)) _ (isA_r _) (bd_K b1 (show 25 < 29 by decide)) (isR_r _)
  rw [e1]; clear e1 b1
  generalize sP (nw s27 80 16 16) 9 (c + 25) 2 (some (c + 28)) = s28 at b2 ⊢
  have h28 := b2; clear b2 h27
  have b1 := bd_nw h28 96 (show cKt 29 = 86 from rfl) (show cNt 29 = 96 from rfl) (fun z => absurd z (by decide))
  have b2 := bd_sP b1 9 3 29 (show 25 < 30 by decide) (by decide) (by decide)
  have e1 : run d 36 28 [.ref (c + 25)] [] s28 = run d 36 36 [.ref (c + 25)] [] (sP (nw s28 86 96 96) 9 (c + 25) 3 (some (c + 29))) := by
    rw [e_Rules_init_28 d (c + 25) s28, h28.1]
    exact e_Rules_init_33 d (c + 25) (.ref (c + 29)) (.ref (c + 25)) _ (isA_r _) (bd_K b1 (show 25 < 30 by decide)) (isR_r _)
  rw [e1]; clear e1 b1
  generalize sP (nw s28 86 96 96) 9 (c + 25) 3 (some (c + 29)) = s29 at b2 ⊢
  have h29 := b2; clear b2 h28
  have b1 := bd_nw h29 96 (show cKt 30 = 90 from rfl) (show cNt 30 = 96 from rfl) (fun z => absurd z (by decide))
  have b2 := bd_sP b1 9 4 30 (show 25 < 31 by decide) (by decide) (by decide)
  have e1 : run d 36 36 [.ref (c + 25)] [] s29 = run d 36 44 [.ref (c + 25)] [] (sP (nw s29 90 96 96) 9 (c + 25) 4 (some (c + 30))) := by
    rw [e_Rules_init_36 d (c + 25) s29, h29.1]
    exact e_Rules_init_41 d (c + 25) (.ref (c + 30)) (.ref (c + 25)) _ (isA_r _) (bd_K b1 (show 25 < 31 by decide)) (isR_r _)
  rw [e1]; clear e1 b1
  generalize sP (nw s29 90 96 96) 9 (c + 25) 4 (some (c + 30)) = s30 at b2 ⊢
  have h30 := b2; clear b2 h29
  have b1 := bd_nw h30 96 (show cKt 31 = 95 from rfl) (show cNt 31 = 96 from rfl) (fun z => absurd z (by decide))
  have b2 := bd_sP b1 9 5 31 (show 25 < 32 by decide) (by decide) (by decide)
  have e1 : run d 36 44 [.ref (c + 25)] [] s30 = run d 36 52 [.ref (c + 25)] [] (sP (nw s30 95 96 96) 9 (c + 25) 5 (some (c + 31))) := by
    rw [e_Rules_init_44 d (c + 25) s30, h30.1]
    exact e_Rules_init_49 d (c + 25) (.ref (c + 31)) (.ref (c + 25)) _ (isA_r _) (bd_K b1 (show 25 < 32 by decide)) (isR_r _)
  rw [e1]; clear e1 b1
  generalize sP (nw s30 95 96 96) 9 (c + 25) 5 (some (c + 31)) = s31 at b2 ⊢
  have h31 := b2; clear b2 h30
  have b1 := bd_nw h31 96 (show cKt 32 = 100 from rfl) (show cNt 32 = 96 from rfl) (fun z => absurd z (by decide))
  have b2 := bd_sP b1 9 6 32 (show 25 < 33 by decide) (by decide) (by decide)
  have e1 : run d 36 52 [.ref (c + 25)] [] s31 = run d 36 60 [.ref (c + 25)] [] (sP (nw s31 100 96 96) 9 (c + 25) 6 (some (c + 32))) := by
    rw [e_Rules_init_52 d (c + 25) s31, h31.1]
    exact e_Rules_init_57 d (c + 25) (.ref (c + 32)) (.ref (c + 25)) _ (isA_r _) (bd_K b1 (show 25 < 33 by decide)) (isR_r _)
  rw [e1]; clear e1 b1
  generalize sP (nw s31 100 96 96) 9 (c + 25) 6 (some (c + 32)) = s32 at b2 ⊢
  have h32 := b2; clear b2 h31
  exact ⟨_, e_Rules_init_60 d (c + 25) _, h32⟩
abbrev cPt : List (Nat × Nat × Nat × Nat) := [(12, 0, 9, 25), (9, 25, 6, 32), (9, 25, 5, 31), (9, 25, 4, 30), (9, 25, 3, 29), (9, 25, 2, 28), (9, 25, 1, 27), (9, 25, 0, 26), (12, 0, 8, 17), (9, 17, 6, 24), (9, 17, 5, 23), (9, 17, 4, 22), (9, 17, 3, 21), (9, 17, 2, 20), (9, 17, 1, 19), (9, 17, 0, 18), (12, 0, 7, 16), (12, 0, 6, 12), (7, 12, 2, 15), (7, 12, 1, 14), (7, 12, 0, 13), (12, 0, 5, 10), (11, 10, 0, 11), (12, 0, 4, 5), (4, 5, 3, 9), (4, 5, 2, 8), (4, 5, 1, 7), (4, 5, 0, 6), (12, 0, 3, 4), (12, 0, 2, 3), (12, 0, 1, 2), (12, 0, 0, 1)]
theorem c_init (h : Bd σ0 c cKt cNt v0 σ 1 [] []) (hz : Ez σ0) : ∃ σ', runc (d + 4) 60 [.ref c] σ = some (none, σ') ∧ Bd σ0 c cKt cNt (vH 42) σ' 33 cPt [4, 3, 2, 1] := by
  have b1 := bd_nw h 3 (show cKt 1 = 1 from rfl) (show cNt 1 = 0 from rfl) (fun z => absurd z (by decide))
  obtain ⟨q1, r1, b2⟩ := al_init (d + 1) b1 hz (show 1 < 2 by decide) rfl (by decide)
  have b3 := bd_sP0 b2 12 0 1 (by decide) (by decide) (by decide)
  have e1 : run (d + 4) 60 0 [.ref c] [] σ = run (d + 4) 60 15 [.ref c] [] (sP q1 12 c 0 (some (c + 1))) := by
    rw [e_C_init_0 (d + 4) c σ, h.1, e_C_init_8 (d + 3) c (.ref (c + 1)) (.ref c) _ (by rw [isR_r]; simp) (isA_r _) (bd_K b1 (show 1 < 2 by decide)), r1]
    exact e_C_init_12 (d + 4) c (.ref (c + 1)) (.ref c) _ (isA_r _) (bd_0 b2 (by decide)) (isR_r _)
  clear b1 b2 r1
  generalize sP q1 12 c 0 (some (c + 1)) = t1 at b3 e1
  have g1 := b3; clear b3
  have b1 := bd_nw g1 3 (show cKt 2 = 1 from rfl) (show cNt 2 = 0 from rfl) (fun z => absurd z (by decide))
  obtain ⟨q2, r2, b2⟩ := al_init (d + 1) b1 hz (show 2 < 3 by decide) rfl (by decide)
  have b3 := bd_sP0 b2 12 1 2 (by decide) (by decide) (by decide)
  have e2 : run (d + 4) 60 15 [.ref c] [] t1 = run (d + 4) 60 26 [.ref c] [] (sP q2 12 c 1 (some (c + 2))) := by
    rw [e_C_init_15 (d + 4) c t1, g1.1, e_C_init_19 (d + 3) c (.ref (c + 2)) (.ref c) _ (by rw [isR_r]; simp) (isA_r _) (bd_K b1 (show 2 < 3 by decide)), r2]
    exact e_C_init_23 (d + 4) c (.ref (c + 2)) (.ref c) _ (isA_r _) (bd_0 b2 (by decide)) (isR_r _)
  clear b1 b2 r2
  generalize sP q2 12 c 1 (some (c + 2)) = t2 at b3 e2
  have g2 := b3; clear b3 g1
  have b1 := bd_nw g2 3 (show cKt 3 = 1 from rfl) (show cNt 3 = 0 from rfl) (fun z => absurd z (by decide))
  obtain ⟨q3, r3, b2⟩ := al_init (d + 1) b1 hz (show 3 < 4 by decide) rfl (by decide)
  have b3 := bd_sP0 b2 12 2 3 (by decide) (by decide) (by decide)
  have e3 : run (d + 4) 60 26 [.ref c] [] t2 = run (d + 4) 60 37 [.ref c] [] (sP q3 12 c 2 (some (c + 3))) := by
    rw [e_C_init_26 (d + 4) c t2, g2.1, e_C_init_30 (d + 3) c (.ref (c + 3)) (.ref c) _ (by rw [isR_r]; simp) (isA_r _) (bd_K b1 (show 3 < 4 by decide)), r3]
    exact e_C_init_34 (d + 4) c (.ref (c + 3)) (.ref c) _ (isA_r _) (bd_0 b2 (by decide)) (isR_r _)
  clear b1 b2 r3
  generalize sP q3 12 c 2 (some (c + 3)) = t3 at b3 e3
  have g3 := b3; clear b3 g2
  have b1 := bd_nw g3 3 (show cKt 4 = 1 from rfl) (show cNt 4 = 0 from rfl) (fun z => absurd z (by decide))
  obtain ⟨q4, r4, b2⟩ := al_init (d + 1) b1 hz (show 4 < 5 by decide) rfl (by decide)
  have b3 := bd_sP0 b2 12 3 4 (by decide) (by decide) (by decide)
  have e4 : run (d + 4) 60 37 [.ref c] [] t3 = run (d + 4) 60 48 [.ref c] [] (sP q4 12 c 3 (some (c + 4))) := by
    rw [e_C_init_37 (d + 4) c t3, g3.1, e_C_init_41 (d + 3) c (.ref (c + 4)) (.ref c) _ (by rw [isR_r]; simp) (isA_r _) (bd_K b1 (show 4 < 5 by decide)), r4]
    exact e_C_init_45 (d + 4) c (.ref (c + 4)) (.ref c) _ (isA_r _) (bd_0 b2 (by decide)) (isR_r _)
  clear b1 b2 r4
  generalize sP q4 12 c 3 (some (c + 4)) = t4 at b3 e4
  have g4 := b3; clear b3 g3
  have b1 := bd_nw g4 5 (show cKt 5 = 4 from rfl) (show cNt 5 = 0 from rfl) (fun z => absurd z (by decide))
  obtain ⟨q5, r5, b2⟩ := in_Facts_init_5 (d + 3) b1
  have b3 := bd_sP0 b2 12 4 5 (by decide) (by decide) (by decide)
  have e5 : run (d + 4) 60 48 [.ref c] [] t4 = run (d + 4) 60 59 [.ref c] [] (sP q5 12 c 4 (some (c + 5))) := by
    rw [e_C_init_48 (d + 4) c t4, g4.1, e_C_init_52 (d + 3) c (.ref (c + 5)) (.ref c) _ (by rw [isR_r]; simp) (isA_r _) (bd_K b1 (show 5 < 6 by decide)), r5]
    exact e_C_init_56 (d + 4) c (.ref (c + 5)) (.ref c) _ (isA_r _) (bd_0 b2 (by decide)) (isR_r _)
  clear b1 b2 r5
  generalize sP q5 12 c 4 (some (c + 5)) = t5 at b3 e5
  have g5 := b3; clear b3 g4
  have b1 := bd_nw g5 6 (show cKt 10 = 11 from rfl) (show cNt 10 = 0 from rfl) (fun z => absurd z (by decide))
  obtain ⟨q10, r10, b2⟩ := in_Tape_init_10 (d + 3) b1
  have b3 := bd_sP0 b2 12 5 10 (by decide) (by decide) (by decide)
  have e10 : run (d + 4) 60 59 [.ref c] [] t5 = run (d + 4) 60 70 [.ref c] [] (sP q10 12 c 5 (some (c + 10))) := by
    rw [e_C_init_59 (d + 4) c t5, g5.1, e_C_init_63 (d + 3) c (.ref (c + 10)) (.ref c) _ (by rw [isR_r]; simp) (isA_r _) (bd_K b1 (show 10 < 11 by decide)), r10]
    exact e_C_init_67 (d + 4) c (.ref (c + 10)) (.ref c) _ (isA_r _) (bd_0 b2 (by decide)) (isR_r _)
  clear b1 b2 r10
  generalize sP q10 12 c 5 (some (c + 10)) = t10 at b3 e10
  have g10 := b3; clear b3 g5
  have b1 := bd_nw g10 4 (show cKt 12 = 7 from rfl) (show cNt 12 = 0 from rfl) (fun z => absurd z (by decide))
  obtain ⟨q12, r12, b2⟩ := in_LiftLog_init_12 (d + 3) b1
  have b3 := bd_sP0 b2 12 6 12 (by decide) (by decide) (by decide)
  have e12 : run (d + 4) 60 70 [.ref c] [] t10 = run (d + 4) 60 81 [.ref c] [] (sP q12 12 c 6 (some (c + 12))) := by
    rw [e_C_init_70 (d + 4) c t10, g10.1, e_C_init_74 (d + 3) c (.ref (c + 12)) (.ref c) _ (by rw [isR_r]; simp) (isA_r _) (bd_K b1 (show 12 < 13 by decide)), r12]
    exact e_C_init_78 (d + 4) c (.ref (c + 12)) (.ref c) _ (isA_r _) (bd_0 b2 (by decide)) (isR_r _)
  clear b1 b2 r12
  generalize sP q12 12 c 6 (some (c + 12)) = t12 at b3 e12
  have g12 := b3; clear b3 g10
  have e16 : run (d + 4) 60 81 [.ref c] [] t12 = run (d + 4) 60 89 [.ref c] [] (sP (nw t12 110 8 8) 12 c 7 (some (c + 16))) := by
    rw [e_C_init_81 (d + 4) c t12, g12.1]
    exact e_C_init_86 (d + 4) c (.ref (c + 16)) (.ref c) _ (isA_r _) (bd_0 (bd_nw g12 8 (show cKt 16 = 110 from rfl) (show cNt 16 = 8 from rfl) (fun z => absurd z (by decide))) (by decide)) (isR_r _)
  have g16 := bd_sP0 (bd_nw g12 8 (show cKt 16 = 110 from rfl) (show cNt 16 = 8 from rfl) (fun z => absurd z (by decide))) 12 7 16 (by decide) (by decide) (by decide)
  generalize sP (nw t12 110 8 8) 12 c 7 (some (c + 16)) = t16 at g16 e16
  clear g12
  have b1 := bd_nw g16 8 (show cKt 17 = 9 from rfl) (show cNt 17 = 0 from rfl) (fun z => absurd z (by decide))
  obtain ⟨q17, r17, b2⟩ := in_Rules_init_17 (d + 3) b1
  have b3 := bd_sP0 b2 12 8 17 (by decide) (by decide) (by decide)
  have e17 : run (d + 4) 60 89 [.ref c] [] t16 = run (d + 4) 60 100 [.ref c] [] (sP q17 12 c 8 (some (c + 17))) := by
    rw [e_C_init_89 (d + 4) c t16, g16.1, e_C_init_93 (d + 3) c (.ref (c + 17)) (.ref c) _ (by rw [isR_r]; simp) (isA_r _) (bd_K b1 (show 17 < 18 by decide)), r17]
    exact e_C_init_97 (d + 4) c (.ref (c + 17)) (.ref c) _ (isA_r _) (bd_0 b2 (by decide)) (isR_r _)
  clear b1 b2 r17
  generalize sP q17 12 c 8 (some (c + 17)) = t17 at b3 e17
  have g17 := b3; clear b3 g16
  have b1 := bd_nw g17 8 (show cKt 25 = 9 from rfl) (show cNt 25 = 0 from rfl) (fun z => absurd z (by decide))
  obtain ⟨q25, r25, b2⟩ := in_Rules_init_25 (d + 3) b1
  have b3 := bd_sP0 b2 12 9 25 (by decide) (by decide) (by decide)
  have e25 : run (d + 4) 60 100 [.ref c] [] t17 = run (d + 4) 60 111 [.ref c] [] (sP q25 12 c 9 (some (c + 25))) := by
    rw [e_C_init_100 (d + 4) c t17, g17.1, e_C_init_104 (d + 3) c (.ref (c + 25)) (.ref c) _ (by rw [isR_r]; simp) (isA_r _) (bd_K b1 (show 25 < 26 by decide)), r25]
    exact e_C_init_108 (d + 4) c (.ref (c + 25)) (.ref c) _ (isA_r _) (bd_0 b2 (by decide)) (isR_r _)
  clear b1 b2 r25
  generalize sP q25 12 c 9 (some (c + 25)) = t25 at b3 e25
  have g25 := b3; clear b3 g17
  refine ⟨_, ?_, g25⟩
  rw [rc_C_init, e1, e2, e3, e4, e5, e10, e12, e16, e17, e25]
  exact e_C_init_111 (d + 4) c _
end B87
