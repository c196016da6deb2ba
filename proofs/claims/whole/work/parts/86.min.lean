/-! ===== THE REFERENCE IS MADE (printed by wip/gen/init.py) ===== -/
section B86
variable {σ σ0 : Mm} {a : Nat} (d : Nat)
def mKt (o : Nat) : Nat := [13, 115, 120, 126, 130, 135, 140, 145, 151, 155, 160, 165, 170, 175, 180, 185, 190, 195, 200, 205, 210, 215, 220, 225, 230, 235, 241, 246, 250, 255, 260, 265, 272, 276, 280, 285, 290, 296, 300, 305, 310, 315, 320, 325, 330, 335, 340, 345, 350, 355, 360, 365, 370, 375].getD o 0
def mNt (o : Nat) : Nat := [0, 12, 12, 12, 12, 30, 30, 30, 160, 160, 160, 160, 6, 6, 6, 6, 6, 6, 6, 6, 6, 6, 6, 6, 6, 6, 6, 6, 6, 6, 6, 6, 300, 17, 17, 17, 408, 17, 17, 17, 408, 200, 200, 200, 30, 30, 30, 30, 30, 30, 30, 210, 5, 5].getD o 0
abbrev v0 : Nat → Int32 := fun _ => 0
theorem mi_0 (h : Bd σ0 a mKt mNt v0 σ 1 [] []) : ∃ σ', run d 113 0 [.ref a] [] σ = run d 113 78 [.ref a] [] σ' ∧ Bd σ0 a mKt mNt v0 σ' 10 [(13, 0, 13, 9), (13, 0, 12, 8), (13, 0, 10, 7), (13, 0, 9, 6), (13, 0, 8, 5), (13, 0, 6, 4), (13, 0, 5, 3), (13, 0, 4, 2), (13, 0, 3, 1)] [] := by
  have b1 := bd_nw h 12 (show mKt 1 = 115 from rfl) (show mNt 1 = 12 from rfl) (fun z => absurd z (by decide))
  have b2 := bd_sP0 b1 13 3 1 (by decide) (by decide) (by decide)
  have e1 : run d 113 0 [.ref a] [] σ = run d 113 12 [.ref a] [] (sP (nw σ 115 12 12) 13 a 3 (some (a + 1))) := by
    rw [e_M_init_0 d a σ, h.1]
    exact e_M_init_9 d a (.ref (a + 1)) (.ref a) _ (isA_r _) (bd_0 b1 (by decide)) (isR_r _)
  rw [e1]; clear e1 b1
  generalize sP (nw σ 115 12 12) 13 a 3 (some (a + 1)) = s1 at b2 ⊢
  have h1 := b2; clear b2
  have b1 := bd_nw h1 12 (show mKt 2 = 120 from rfl) (show mNt 2 = 12 from rfl) (fun z => absurd z (by decide))
  have b2 := bd_sP0 b1 13 4 2 (by decide) (by decide) (by decide)
  have e1 : run d 113 12 [.ref a] [] s1 = run d 113 20 [.ref a] [] (sP (nw s1 120 12 12) 13 a 4 (some (a + 2))) := by
    rw [e_M_init_12 d a s1, h1.1]
    exact e_M_init_17 d a (.ref (a + 2)) (.ref a) _ (isA_r _) (bd_0 b1 (by decide)) (isR_r _)
  rw [e1]; clear e1 b1
  generalize sP (nw s1 120 12 12) 13 a 4 (some (a + 2)) = s2 at b2 ⊢
  have h2 := b2; clear b2 h1
  have b1 := bd_nw h2 12 (show mKt 3 = 126 from rfl) (show mNt 3 = 12 from rfl) (fun z => absurd z (by decide))
  have b2 := bd_sP0 b1 13 5 3 (by decide) (by decide) (by decide)
  have e1 : run d 113 20 [.ref a] [] s2 = run d 113 28 [.ref a] [] (sP (nw s2 126 12 12) 13 a 5 (some (a + 3))) := by
    rw [e_M_init_20 d a s2, h2.1]
    exact e_M_init_25 d a (.ref (a + 3)) (.ref a) _ (isA_r _) (bd_0 b1 (by decide)) (isR_r _)
  rw [e1]; clear e1 b1
  generalize sP (nw s2 126 12 12) 13 a 5 (some (a + 3)) = s3 at b2 ⊢
  have h3 := b2; clear b2 h2
  have b1 := bd_nw h3 12 (show mKt 4 = 130 from rfl) (show mNt 4 = 12 from rfl) (fun z => absurd z (by decide))
  have b2 := bd_sP0 b1 13 6 4 (by decide) (by decide) (by decide)
  have e1 : run d 113 28 [.ref a] [] s3 = run d 113 36 [.ref a] [] (sP (nw s3 130 12 12) 13 a 6 (some (a + 4))) := by
    rw [e_M_init_28 d a s3, h3.1]
    exact e_M_init_33 d a (.ref (a + 4)) (.ref a) _ (isA_r _) (bd_0 b1 (by decide)) (isR_r _)
  rw [e1]; clear e1 b1
  generalize sP (nw s3 130 12 12) 13 a 6 (some (a + 4)) = s4 at b2 ⊢
  have h4 := b2; clear b2 h3
  have b1 := bd_nw h4 30 (show mKt 5 = 135 from rfl) (show mNt 5 = 30 from rfl) (fun z => absurd z (by decide))
  have b2 := bd_sP0 b1 13 8 5 (by decide) (by decide) (by decide)
  have e1 : run d 113 36 [.ref a] [] s4 = run d 113 44 [.ref a] [] (sP (nw s4 135 30 30) 13 a 8 (some (a + 5))) := by
    rw [e_M_init_36 d a s4, h4.1]
    exact e_M_init_41 d a (.ref (a + 5)) (.ref a) _ (isA_r _) (bd_0 b1 (by decide)) (isR_r _)
  rw [e1]; clear e1 b1
  generalize sP (nw s4 135 30 30) 13 a 8 (some (a + 5)) = s5 at b2 ⊢
  have h5 := b2; clear b2 h4
  have b1 := bd_nw h5 30 (show mKt 6 = 140 from rfl) (show mNt 6 = 30 from rfl) (fun z => absurd z (by decide))
  have b2 := bd_sP0 b1 13 9 6 (by decide) (by decide) (by decide)
  have e1 : run d 113 44 [.ref a] [] s5 = run d 113 52 [.ref a] [] (sP (nw s5 140 30 30) 13 a 9 (some (a + 6))) := by
    rw [e_M_init_44 d a s5, h5.1]
    exact e_M_init_49 d a (.ref (a + 6)) (.ref a) _ (isA_r _) (bd_0 b1 (by decide)) (isR_r _)
  rw [e1]; clear e1 b1
  generalize sP (nw s5 140 30 30) 13 a 9 (some (a + 6)) = s6 at b2 ⊢
  have h6 := b2; clear b2 h5
  have b1 := bd_nw h6 30 (show mKt 7 = 145 from rfl) (show mNt 7 = 30 from rfl) (fun z => absurd z (by decide))
  have b2 := bd_sP0 b1 13 10 7 (by decide) (by decide) (by decide)
  have e1 : run d 113 52 [.ref a] [] s6 = run d 113 60 [.ref a] [] (sP (nw s6 145 30 30) 13 a 10 (some (a + 7))) := by
    rw [e_M_init_52 d a s6, h6.1]
    exact e_M_init_57 d a (.ref (a + 7)) (.ref a) _ (isA_r _) (bd_0 b1 (by decide)) (isR_r _)
  rw [e1]; clear e1 b1
  generalize sP (nw s6 145 30 30) 13 a 10 (some (a + 7)) = s7 at b2 ⊢
  have h7 := b2; clear b2 h6
  have b1 := bd_nw h7 160 (show mKt 8 = 151 from rfl) (show mNt 8 = 160 from rfl) (fun z => absurd z (by decide))
  have b2 := bd_sP0 b1 13 12 8 (by decide) (by decide) (by decide)
  have e1 : run d 113 60 [.ref a] [] s7 = run d 113 69 [.ref a] [] (sP (nw s7 151 160 160) 13 a 12 (some (a + 8))) := by
    rw [e_M_init_60 d a s7, h7.1]
    exact e_M_init_66 d a (.ref (a + 8)) (.ref a) _ (isA_r _) (bd_0 b1 (by decide)) (isR_r _)
  rw [e1]; clear e1 b1
  generalize sP (nw s7 151 160 160) 13 a 12 (some (a + 8)) = s8 at b2 ⊢
  have h8 := b2; clear b2 h7
  have b1 := bd_nw h8 160 (show mKt 9 = 155 from rfl) (show mNt 9 = 160 from rfl) (fun z => absurd z (by decide))
  have b2 := bd_sP0 b1 13 13 9 (by decide) (by decide) (by decide)
  have e1 : run d 113 69 [.ref a] [] s8 = run d 113 78 [.ref a] [] (sP (nw s8 155 160 160) 13 a 13 (some (a + 9))) := by
    rw [e_M_init_69 d a s8, h8.1]
    exact e_M_init_75 d a (.ref (a + 9)) (.ref a) _ (isA_r _) (bd_0 b1 (by decide)) (isR_r _)
  rw [e1]; clear e1 b1
  generalize sP (nw s8 155 160 160) 13 a 13 (some (a + 9)) = s9 at b2 ⊢
  have h9 := b2; clear b2 h8
  exact ⟨_, rfl, h9⟩
theorem mi_1 (h : Bd σ0 a mKt mNt v0 σ 10 [(13, 0, 13, 9), (13, 0, 12, 8), (13, 0, 10, 7), (13, 0, 9, 6), (13, 0, 8, 5), (13, 0, 6, 4), (13, 0, 5, 3), (13, 0, 4, 2), (13, 0, 3, 1)] []) : ∃ σ', run d 113 78 [.ref a] [] σ = run d 113 152 [.ref a] [] σ' ∧ Bd σ0 a mKt mNt v0 σ' 19 [(13, 0, 23, 18), (13, 0, 22, 17), (13, 0, 21, 16), (13, 0, 20, 15), (13, 0, 19, 14), (13, 0, 18, 13), (13, 0, 17, 12), (13, 0, 15, 11), (13, 0, 14, 10), (13, 0, 13, 9), (13, 0, 12, 8), (13, 0, 10, 7), (13, 0, 9, 6), (13, 0, 8, 5), (13, 0, 6, 4), (13, 0, 5, 3), (13, 0, 4, 2), (13, 0, 3, 1)] [] := by
  have b1 := bd_nw h 160 (show mKt 10 = 160 from rfl) (show mNt 10 = 160 from rfl) (fun z => absurd z (by decide))
  have b2 := bd_sP0 b1 13 14 10 (by decide) (by decide) (by decide)
  have e1 : run d 113 78 [.ref a] [] σ = run d 113 87 [.ref a] [] (sP (nw σ 160 160 160) 13 a 14 (some (a + 10))) := by
    rw [e_M_init_78 d a σ, h.1]
    exact e_M_init_84 d a (.ref (a + 10)) (.ref a) _ (isA_r _) (bd_0 b1 (by decide)) (isR_r _)
  rw [e1]; clear e1 b1
  generalize sP (nw σ 160 160 160) 13 a 14 (some (a + 10)) = s10 at b2 ⊢
  have h10 := b2; clear b2
  have b1 := bd_nw h10 160 (show mKt 11 = 165 from rfl) (show mNt 11 = 160 from rfl) (fun z => absurd z (by decide))
  have b2 := bd_sP0 b1 13 15 11 (by decide) (by decide) (by decide)
  have e1 : run d 113 87 [.ref a] [] s10 = run d 113 96 [.ref a] [] (sP (nw s10 165 160 160) 13 a 15 (some (a + 11))) := by
    rw [e_M_init_87 d a s10, h10.1]
    exact e_M_init_93 d a (.ref (a + 11)) (.ref a) _ (isA_r _) (bd_0 b1 (by decide)) (isR_r _)
  rw [e1]; clear e1 b1
  generalize sP (nw s10 165 160 160) 13 a 15 (some (a + 11)) = s11 at b2 ⊢
  have h11 := b2; clear b2 h10
  have b1 := bd_nw h11 6 (show mKt 12 = 170 from rfl) (show mNt 12 = 6 from rfl) (fun z => absurd z (by decide))
  have b2 := bd_sP0 b1 13 17 12 (by decide) (by decide) (by decide)
  have e1 : run d 113 96 [.ref a] [] s11 = run d 113 104 [.ref a] [] (sP (nw s11 170 6 6) 13 a 17 (some (a + 12))) := by
    rw [e_M_init_96 d a s11, h11.1]
    exact e_M_init_101 d a (.ref (a + 12)) (.ref a) _ (isA_r _) (bd_0 b1 (by decide)) (isR_r _)
  rw [e1]; clear e1 b1
  generalize sP (nw s11 170 6 6) 13 a 17 (some (a + 12)) = s12 at b2 ⊢
  have h12 := b2; clear b2 h11
  have b1 := bd_nw h12 6 (show mKt 13 = 175 from rfl) (show mNt 13 = 6 from rfl) (fun z => absurd z (by decide))
  have b2 := bd_sP0 b1 13 18 13 (by decide) (by decide) (by decide)
  have e1 : run d 113 104 [.ref a] [] s12 = run d 113 112 [.ref a] [] (sP (nw s12 175 6 6) 13 a 18 (some (a + 13))) := by
    rw [e_M_init_104 d a s12, h12.1]
    exact e_M_init_109 d a (.ref (a + 13)) (.ref a) _ (isA_r _) (bd_0 b1 (by decide)) (isR_r _)
  rw [e1]; clear e1 b1
  generalize sP (nw s12 175 6 6) 13 a 18 (some (a + 13)) = s13 at b2 ⊢
  have h13 := b2; clear b2 h12
  have b1 := bd_nw h13 6 (show mKt 14 = 180 from rfl) (show mNt 14 = 6 from rfl) (fun z => absurd z (by decide))
  have b2 := bd_sP0 b1 13 19 14 (by decide) (by decide) (by decide)
  have e1 : run d 113 112 [.ref a] [] s13 = run d 113 120 [.ref a] [] (sP (nw s13 180 6 6) 13 a 19 (some (a + 14))) := by
    rw [e_M_init_112 d a s13, h13.1]
    exact e_M_init_117 d a (.ref (a + 14)) (.ref a) _ (isA_r _) (bd_0 b1 (by decide)) (isR_r _)
  rw [e1]; clear e1 b1
  generalize sP (nw s13 180 6 6) 13 a 19 (some (a + 14)) = s14 at b2 ⊢
  have h14 := b2; clear b2 h13
  have b1 := bd_nw h14 6 (show mKt 15 = 185 from rfl) (show mNt 15 = 6 from rfl) (fun z => absurd z (by decide))
  have b2 := bd_sP0 b1 13 20 15 (by decide) (by decide) (by decide)
  have e1 : run d 113 120 [.ref a] [] s14 = run d 113 128 [.ref a] [] (sP (nw s14 185 6 6) 13 a 20 (some (a + 15))) := by
    rw [e_M_init_120 d a s14, h14.1]
    exact e_M_init_125 d a (.ref (a + 15)) (.ref a) _ (isA_r _) (bd_0 b1 (by decide)) (isR_r _)
  rw [e1]; clear e1 b1
  generalize sP (nw s14 185 6 6) 13 a 20 (some (a + 15)) = s15 at b2 ⊢
  have h15 := b2; clear b2 h14
  have b1 := bd_nw h15 6 (show mKt 16 = 190 from rfl) (show mNt 16 = 6 from rfl) (fun z => absurd z (by decide))
  have b2 := bd_sP0 b1 13 21 16 (by decide) (by decide) (by decide)
  have e1 : run d 113 128 [.ref a] [] s15 = run d 113 136 [.ref a] [] (sP (nw s15 190 6 6) 13 a 21 (some (a + 16))) := by
    rw [e_M_init_128 d a s15, h15.1]
    exact e_M_init_133 d a (.ref (a + 16)) (.ref a) _ (isA_r _) (bd_0 b1 (by decide)) (isR_r _)
  rw [e1]; clear e1 b1
  generalize sP (nw s15 190 6 6) 13 a 21 (some (a + 16)) = s16 at b2 ⊢
  have h16 := b2; clear b2 h15
  have b1 := bd_nw h16 6 (show mKt 17 = 195 from rfl) (show mNt 17 = 6 from rfl) (fun z => absurd z (by decide))
  have b2 := bd_sP0 b1 13 22 17 (by decide) (by decide) (by decide)
  have e1 : run d 113 136 [.ref a] [] s16 = run d 113 144 [.ref a] [] (sP (nw s16 195 6 6) 13 a 22 (some (a + 17))) := by
    rw [e_M_init_136 d a s16, h16.1]
    exact e_M_init_141 d a (.ref (a + 17)) (.ref a) _ (isA_r _) (bd_0 b1 (by decide)) (isR_r _)
  rw [e1]; clear e1 b1
  generalize sP (nw s16 195 6 6) 13 a 22 (some (a + 17)) = s17 at b2 ⊢
  have h17 := b2; clear b2 h16
  have b1 := bd_nw h17 6 (show mKt 18 = 200 from rfl) (show mNt 18 = 6 from rfl) (fun z => absurd z (by decide))
  have b2 := bd_sP0 b1 13 23 18 (by decide) (by decide) (by decide)
  have e1 : run d 113 144 [.ref a] [] s17 = run d 113 152 [.ref a] [] (sP (nw s17 200 6 6) 13 a 23 (some (a + 18))) := by
    rw [e_M_init_144 d a s17, h17.1]
    exact e_M_init_149 d a (.ref (a + 18)) (.ref a) _ (isA_r _) (bd_0 b1 (by decide)) (isR_r _)
  rw [e1]; clear e1 b1
  generalize sP (nw s17 200 6 6) 13 a 23 (some (a + 18)) = s18 at b2 ⊢
  have h18 := b2; clear b2 h17
  exact ⟨_, rfl, h18⟩
theorem mi_2 (h : Bd σ0 a mKt mNt v0 σ 19 [(13, 0, 23, 18), (13, 0, 22, 17), (13, 0, 21, 16), (13, 0, 20, 15), (13, 0, 19, 14), (13, 0, 18, 13), (13, 0, 17, 12), (13, 0, 15, 11), (13, 0, 14, 10), (13, 0, 13, 9), (13, 0, 12, 8), (13, 0, 10, 7), (13, 0, 9, 6), (13, 0, 8, 5), (13, 0, 6, 4), (13, 0, 5, 3), (13, 0, 4, 2), (13, 0, 3, 1)] []) : ∃ σ', run d 113 152 [.ref a] [] σ = run d 113 224 [.ref a] [] σ' ∧ Bd σ0 a mKt mNt v0 σ' 28 [(13, 0, 32, 27), (13, 0, 31, 26), (13, 0, 30, 25), (13, 0, 29, 24), (13, 0, 28, 23), (13, 0, 27, 22), (13, 0, 26, 21), (13, 0, 25, 20), (13, 0, 24, 19), (13, 0, 23, 18), (13, 0, 22, 17), (13, 0, 21, 16), (13, 0, 20, 15), (13, 0, 19, 14), (13, 0, 18, 13), (13, 0, 17, 12), (13, 0, 15, 11), (13, 0, 14, 10), (13, 0, 13, 9), (13, 0, 12, 8), (13, 0, 10, 7), (13, 0, 9, 6), (13, 0, 8, 5), (13, 0, 6, 4), (13, 0, 5, 3), (13, 0, 4, 2), (13, 0, 3, 1)] [] := by
  have b1 := bd_nw h 6 (show mKt 19 = 205 from rfl) (show mNt 19 = 6 from rfl) (fun z => absurd z (by decide))
  have b2 := bd_sP0 b1 13 24 19 (by decide) (by decide) (by decide)
  have e1 : run d 113 152 [.ref a] [] σ = run d 113 160 [.ref a] [] (sP (nw σ 205 6 6) 13 a 24 (some (a + 19))) := by
    rw [e_M_init_152 d a σ, h.1]
    exact e_M_init_157 d a (.ref (a + 19)) (.ref a) _ (isA_r _) (bd_0 b1 (by decide)) (isR_r _)
  rw [e1]; clear e1 b1
  generalize sP (nw σ 205 6 6) 13 a 24 (some (a + 19)) = s19 at b2 ⊢
  have h19 := b2; clear b2
  have b1 := bd_nw h19 6 (show mKt 20 = 210 from rfl) (show mNt 20 = 6 from rfl) (fun z => absurd z (by decide))
  have b2 := bd_sP0 b1 13 25 20 (by decide) (by decide) (by decide)
  have e1 : run d 113 160 [.ref a] [] s19 = run d 113 168 [.ref a] [] (sP (nw s19 210 6 6) 13 a 25 (some (a + 20))) := by
    rw [e_M_init_160 d a s19, h19.1]
    exact e_M_init_165 d a (.ref (a + 20)) (.ref a) _ (isA_r _) (bd_0 b1 (by decide)) (isR_r _)
  rw [e1]; clear e1 b1
  generalize sP (nw s19 210 6 6) 13 a 25 (some (a + 20)) = s20 at b2 ⊢
  have h20 := b2; clear b2 h19
  have b1 := bd_nw h20 6 (show mKt 21 = 215 from rfl) (show mNt 21 = 6 from rfl) (fun z => absurd z (by decide))
  have b2 := bd_sP0 b1 13 26 21 (by decide) (by decide) (by decide)
  have e1 : run d 113 168 [.ref a] [] s20 = run d 113 176 [.ref a] [] (sP (nw s20 215 6 6) 13 a 26 (some (a + 21))) := by
    rw [e_M_init_168 d a s20, h20.1]
    exact e_M_init_173 d a (.ref (a + 21)) (.ref a) _ (isA_r _) (bd_0 b1 (by decide)) (isR_r _)
  rw [e1]; clear e1 b1
  generalize sP (nw s20 215 6 6) 13 a 26 (some (a + 21)) = s21 at b2 ⊢
  have h21 := b2; clear b2 h20
  have b1 := bd_nw h21 6 (show mKt 22 = 220 from rfl) (show mNt 22 = 6 from rfl) (fun z => absurd z (by decide))
  have b2 := bd_sP0 b1 13 27 22 (by decide) (by decide) (by decide)
  have e1 : run d 113 176 [.ref a] [] s21 = run d 113 184 [.ref a] [] (sP (nw s21 220 6 6) 13 a 27 (some (a + 22))) := by
    rw [e_M_init_176 d a s21, h21.1]
    exact e_M_init_181 d a (.ref (a + 22)) (.ref a) _ (isA_r _) (bd_0 b1 (by decide)) (isR_r _)
  rw [e1]; clear e1 b1
  generalize sP (nw s21 220 6 6) 13 a 27 (some (a + 22)) = s22 at b2 ⊢
  have h22 := b2; clear b2 h21
  have b1 := bd_nw h22 6 (show mKt 23 = 225 from rfl) (show mNt 23 = 6 from rfl) (fun z => absurd z (by decide))
  have b2 := bd_sP0 b1 13 28 23 (by decide) (by decide) (by decide)
  have e1 : run d 113 184 [.ref a] [] s22 = run d 113 192 [.ref a] [] (sP (nw s22 225 6 6) 13 a 28 (some (a + 23))) := by
    rw [e_M_init_184 d a s22, h22.1]
    exact e_M_init_189 d a (.ref (a + 23)) (.ref a) _ (isA_r _) (bd_0 b1 (by decide)) (isR_r _)
  rw [e1]; clear e1 b1
  generalize sP (nw s22 225 6 6) 13 a 28 (some (a + 23)) = s23 at b2 ⊢
  have h23 := b2; clear b2 h22
  have b1 := bd_nw h23 6 (show mKt 24 = 230 from rfl) (show mNt 24 = 6 from rfl) (fun z => absurd z (by decide))
  have b2 := bd_sP0 b1 13 29 24 (by decide) (by decide) (by decide)
  have e1 : run d 113 192 [.ref a] [] s23 = run d 113 200 [.ref a] [] (sP (nw s23 230 6 6) 13 a 29 (some (a + 24))) := by
    rw [e_M_init_192 d a s23, h23.1]
    exact e_M_init_197 d a (.ref (a + 24)) (.ref a) _ (isA_r _) (bd_0 b1 (by decide)) (isR_r _)
  rw [e1]; clear e1 b1
  generalize sP (nw s23 230 6 6) 13 a 29 (some (a + 24)) = s24 at b2 ⊢
  have h24 := b2; clear b2 h23
  have b1 := bd_nw h24 6 (show mKt 25 = 235 from rfl) (show mNt 25 = 6 from rfl) (fun z => absurd z (by decide))
  have b2 := bd_sP0 b1 13 30 25 (by decide) (by decide) (by decide)
  have e1 : run d 113 200 [.ref a] [] s24 = run d 113 208 [.ref a] [] (sP (nw s24 235 6 6) 13 a 30 (some (a + 25))) := by
    rw [e_M_init_200 d a s24, h24.1]
    exact e_M_init_205 d a (.ref (a + 25)) (.ref a) _ (isA_r _) (bd_0 b1 (by decide)) (isR_r _)
  rw [e1]; clear e1 b1
  generalize sP (nw s24 235 6 6) 13 a 30 (some (a + 25)) = s25 at b2 ⊢
  have h25 := b2; clear b2 h24
  have b1 := bd_nw h25 6 (show mKt 26 = 241 from rfl) (show mNt 26 = 6 from rfl) (fun z => absurd z (by decide))
  have b2 := bd_sP0 b1 13 31 26 (by decide) (by decide) (by decide)
  have e1 : run d 113 208 [.ref a] [] s25 = run d 113 216 [.ref a] [] (sP (nw s25 241 6 6) 13 a 31 (some (a + 26))) := by
    rw [e_M_init_208 d a s25, h25.1]
    exact e_M_init_213 d a (.ref (a + 26)) (.ref a) _ (isA_r _) (bd_0 b1 (by decide)) (isR_r _)
  rw [e1]; clear e1 b1
  generalize sP (nw s25 241 6 6) 13 a 31 (some (a + 26)) = s26 at b2 ⊢
  have h26 := b2; clear b2 h25
  have b1 := bd_nw h26 6 (show mKt 27 = 246 from rfl) (show mNt 27 = 6 from rfl) (fun z => absurd z (by decide))
  have b2 := bd_sP0 b1 13 32 27 (by decide) (by decide) (by decide)
  have e1 : run d 113 216 [.ref a] [] s26 = run d 113 224 [.ref a] [] (sP (nw s26 246 6 6) 13 a 32 (some (a + 27))) := by
    rw [e_M_init_216 d a s26, h26.1]
    exact e_M_init_221 d a (.ref (a + 27)) (.ref a) _ (isA_r _) (bd_0 b1 (by decide)) (isR_r _)
  rw [e1]; clear e1 b1
  generalize sP (nw s26 246 6 6) 13 a 32 (some (a + 27)) = s27 at b2 ⊢
  have h27 := b2; clear b2 h26
  exact ⟨_, rfl, h27⟩
theorem mi_3 (h : Bd σ0 a mKt mNt v0 σ 28 [(13, 0, 32, 27), (13, 0, 31, 26), (13, 0, 30, 25), (13, 0, 29, 24), (13, 0, 28, 23), (13, 0, 27, 22), (13, 0, 26, 21), (13, 0, 25, 20), (13, 0, 24, 19), (13, 0, 23, 18), (13, 0, 22, 17), (13, 0, 21, 16), (13, 0, 20, 15), (13, 0, 19, 14), (13, 0, 18, 13), (13, 0, 17, 12), (13, 0, 15, 11), (13, 0, 14, 10), (13, 0, 13, 9), (13, 0, 12, 8), (13, 0, 10, 7), (13, 0, 9, 6), (13, 0, 8, 5), (13, 0, 6, 4), (13, 0, 5, 3), (13, 0, 4, 2), (13, 0, 3, 1)] []) : ∃ σ', run d 113 224 [.ref a] [] σ = run d 113 298 [.ref a] [] σ' ∧ Bd σ0 a mKt mNt v0 σ' 37 [(13, 0, 45, 36), (13, 0, 44, 35), (13, 0, 43, 34), (13, 0, 42, 33), (13, 0, 39, 32), (13, 0, 36, 31), (13, 0, 35, 30), (13, 0, 34, 29), (13, 0, 33, 28), (13, 0, 32, 27), (13, 0, 31, 26), (13, 0, 30, 25), (13, 0, 29, 24), (13, 0, 28, 23), (13, 0, 27, 22), (13, 0, 26, 21), (13, 0, 25, 20), (13, 0, 24, 19), (13, 0, 23, 18), (13, 0, 22, 17), (13, 0, 21, 16), (13, 0, 20, 15), (13, 0, 19, 14), (13, 0, 18, 13), (13, 0, 17, 12), (13, 0, 15, 11), (13, 0, 14, 10), (13, 0, 13, 9), (13, 0, 12, 8), (13, 0, 10, 7), (13, 0, 9, 6), (13, 0, 8, 5), (13, 0, 6, 4), (13, 0, 5, 3), (13, 0, 4, 2), (13, 0, 3, 1)] [] := by
  have b1 := bd_nw h 6 (show mKt 28 = 250 from rfl) (show mNt 28 = 6 from rfl) (fun z => absurd z (by decide))
  have b2 := bd_sP0 b1 13 33 28 (by decide) (by decide) (by decide)
  have e1 : run d 113 224 [.ref a] [] σ = run d 113 232 [.ref a] [] (sP (nw σ 250 6 6) 13 a 33 (some (a + 28))) := by
    rw [e_M_init_224 d a σ, h.1]
    exact e_M_init_229 d a (.ref (a + 28)) (.ref a) _ (isA_r _) (bd_0 b1 (by decide)) (isR_r _)
  rw [e1]; clear e1 b1
  generalize sP (nw σ 250 6 6) 13 a 33 (some (a + 28)) = s28 at b2 ⊢
  have h28 := b2; clear b2
  have b1 := bd_nw h28 6 (show mKt 29 = 255 from rfl) (show mNt 29 = 6 from rfl) (fun z => absurd z (by decide))
  have b2 := bd_sP0 b1 13 34 29 (by decide) (by decide) (by decide)
  have e1 : run d 113 232 [.ref a] [] s28 = run d 113 240 [.ref a] [] (sP (nw s28 255 6 6) 13 a 34 (some (a + 29))) := by
    rw [e_M_init_232 d a s28, h28.1]
    exact e_M_init_237 d a (.ref (a + 29)) (.ref a) _ (isA_r _) (bd_0 b1 (by decide)) (isR_r _)
  rw [e1]; clear e1 b1
  generalize sP (nw s28 255 6 6) 13 a 34 (some (a + 29)) = s29 at b2 ⊢
  have h29 := b2; clear b2 h28
  have b1 := bd_nw h29 6 (show mKt 30 = 260 from rfl) (show mNt 30 = 6 from rfl) (fun z => absurd z (by decide))
  have b2 := bd_sP0 b1 13 35 30 (by decide) (by decide) (by decide)
  have e1 : run d 113 240 [.ref a] [] s29 = run d 113 248 [.ref a] [] (sP (nw s29 260 6 6) 13 a 35 (some (a + 30))) := by
    rw [e_M_init_240 d a s29, h29.1]
    exact e_M_init_245 d a (.ref (a + 30)) (.ref a) _ (isA_r _) (bd_0 b1 (by decide)) (isR_r _)
  rw [e1]; clear e1 b1
  generalize sP (nw s29 260 6 6) 13 a 35 (some (a + 30)) = s30 at b2 ⊢
  have h30 := b2; clear b2 h29
  have b1 := bd_nw h30 6 (show mKt 31 = 265 from rfl) (show mNt 31 = 6 from rfl) (fun z => absurd z (by decide))
  have b2 := bd_sP0 b1 13 36 31 (by decide) (by decide) (by decide)
  have e1 : run d 113 248 [.ref a] [] s30 = run d 113 256 [.ref a] [] (sP (nw s30 265 6 6) 13 a 36 (some (a + 31))) := by
    rw [e_M_init_248 d a s30, h30.1]
    exact e_M_init_253 d a (.ref (a + 31)) (.ref a) _ (isA_r _) (bd_0 b1 (by decide)) (isR_r _)
  rw [e1]; clear e1 b1
  generalize sP (nw s30 265 6 6) 13 a 36 (some (a + 31)) = s31 at b2 ⊢
  have h31 := b2; clear b2 h30
  have b1 := bd_nw h31 300 (show mKt 32 = 272 from rfl) (show mNt 32 = 300 from rfl) (fun z => absurd z (by decide))
  have b2 := bd_sP0 b1 13 39 32 (by decide) (by decide) (by decide)
  have e1 : run d 113 256 [.ref a] [] s31 = run d 113 265 [.ref a] [] (sP (nw s31 272 300 300) 13 a 39 (some (a + 32))) := by
    rw [e_M_init_256 d a s31, h31.1]
    exact e_M_init_262 d a (.ref (a + 32)) (.ref a) _ (isA_r _) (bd_0 b1 (by decide)) (isR_r _)
  rw [e1]; clear e1 b1
  generalize sP (nw s31 272 300 300) 13 a 39 (some (a + 32)) = s32 at b2 ⊢
  have h32 := b2; clear b2 h31
  have b1 := bd_nw h32 17 (show mKt 33 = 276 from rfl) (show mNt 33 = 17 from rfl) (fun z => absurd z (by decide))
  have b2 := bd_sP0 b1 13 42 33 (by decide) (by decide) (by decide)
  have e1 : run d 113 265 [.ref a] [] s32 = run d 113 273 [.ref a] [] (sP (nw s32 276 17 17) 13 a 42 (some (a + 33))) := by
    rw [e_M_init_265 d a s32, h32.1]
    exact e_M_init_270 d a (.ref (a + 33)) (.ref a) _ (isA_r _) (bd_0 b1 (by decide)) (isR_r _)
  rw [e1]; clear e1 b1
  generalize sP (nw s32 276 17 17) 13 a 42 (some (a + 33)) = s33 at b2 ⊢
  have h33 := b2; clear b2 h32
  have b1 := bd_nw h33 17 (show mKt 34 = 280 from rfl) (show mNt 34 = 17 from rfl) (fun z => absurd z (by decide))
  have b2 := bd_sP0 b1 13 43 34 (by decide) (by decide) (by decide)
  have e1 : run d 113 273 [.ref a] [] s33 = run d 113 281 [.ref a] [] (sP (nw s33 280 17 17) 13 a 43 (some (a + 34))) := by
    rw [e_M_init_273 d a s33, h33.1]
    exact e_M_init_278 d a (.ref (a + 34)) (.ref a) _ (isA_r _) (bd_0 b1 (by decide)) (isR_r _)
  rw [e1]; clear e1 b1
  generalize sP (nw s33 280 17 17) 13 a 43 (some (a + 34)) = s34 at b2 ⊢
  have h34 := b2; clear b2 h33
  have b1 := bd_nw h34 17 (show mKt 35 = 285 from rfl) (show mNt 35 = 17 from rfl) (fun z => absurd z (by decide))
  have b2 := bd_sP0 b1 13 44 35 (by decide) (by decide) (by decide)
  have e1 : run d 113 281 [.ref a] [] s34 = run d 113 289 [.ref a] [] (sP (nw s34 285 17 17) 13 a 44 (some (a + 35))) := by
    rw [e_M_init_281 d a s34, h34.1]
    exact e_M_init_286 d a (.ref (a + 35)) (.ref a) _ (isA_r _) (bd_0 b1 (by decide)) (isR_r _)
  rw [e1]; clear e1 b1
  generalize sP (nw s34 285 17 17) 13 a 44 (some (a + 35)) = s35 at b2 ⊢
  have h35 := b2; clear b2 h34
  have b1 := bd_nw h35 408 (show mKt 36 = 290 from rfl) (show mNt 36 = 408 from rfl) (fun z => absurd z (by decide))
  have b2 := bd_sP0 b1 13 45 36 (by decide) (by decide) (by decide)
  have e1 : run d 113 289 [.ref a] [] s35 = run d 113 298 [.ref a] [] (sP (nw s35 290 408 408) 13 a 45 (some (a + 36))) := by
    rw [e_M_init_289 d a s35, h35.1]
    exact e_M_init_295 d a (.ref (a + 36)) (.ref a) _ (isA_r _) (bd_0 b1 (by decide)) (isR_r _)
  rw [e1]; clear e1 b1
  generalize sP (nw s35 290 408 408) 13 a 45 (some (a + 36)) = s36 at b2 ⊢
  have h36 := b2; clear b2 h35
  exact ⟨_, rfl, h36⟩
theorem mi_4 (h : Bd σ0 a mKt mNt v0 σ 37 [(13, 0, 45, 36), (13, 0, 44, 35), (13, 0, 43, 34), (13, 0, 42, 33), (13, 0, 39, 32), (13, 0, 36, 31), (13, 0, 35, 30), (13, 0, 34, 29), (13, 0, 33, 28), (13, 0, 32, 27), (13, 0, 31, 26), (13, 0, 30, 25), (13, 0, 29, 24), (13, 0, 28, 23), (13, 0, 27, 22), (13, 0, 26, 21), (13, 0, 25, 20), (13, 0, 24, 19), (13, 0, 23, 18), (13, 0, 22, 17), (13, 0, 21, 16), (13, 0, 20, 15), (13, 0, 19, 14), (13, 0, 18, 13), (13, 0, 17, 12), (13, 0, 15, 11), (13, 0, 14, 10), (13, 0, 13, 9), (13, 0, 12, 8), (13, 0, 10, 7), (13, 0, 9, 6), (13, 0, 8, 5), (13, 0, 6, 4), (13, 0, 5, 3), (13, 0, 4, 2), (13, 0, 3, 1)] []) : ∃ σ', run d 113 298 [.ref a] [] σ = run d 113 374 [.ref a] [] σ' ∧ Bd σ0 a mKt mNt v0 σ' 46 [(13, 0, 62, 45), (13, 0, 61, 44), (13, 0, 59, 43), (13, 0, 58, 42), (13, 0, 57, 41), (13, 0, 49, 40), (13, 0, 48, 39), (13, 0, 47, 38), (13, 0, 46, 37), (13, 0, 45, 36), (13, 0, 44, 35), (13, 0, 43, 34), (13, 0, 42, 33), (13, 0, 39, 32), (13, 0, 36, 31), (13, 0, 35, 30), (13, 0, 34, 29), (13, 0, 33, 28), (13, 0, 32, 27), (13, 0, 31, 26), (13, 0, 30, 25), (13, 0, 29, 24), (13, 0, 28, 23), (13, 0, 27, 22), (13, 0, 26, 21), (13, 0, 25, 20), (13, 0, 24, 19), (13, 0, 23, 18), (13, 0, 22, 17), (13, 0, 21, 16), (13, 0, 20, 15), (13, 0, 19, 14), (13, 0, 18, 13), (13, 0, 17, 12), (13, 0, 15, 11), (13, 0, 14, 10), (13, 0, 13, 9), (13, 0, 12, 8), (13, 0, 10, 7), (13, 0, 9, 6), (13, 0, 8, 5), (13, 0, 6, 4), (13, 0, 5, 3), (13, 0, 4, 2), (13, 0, 3, 1)] [] := by
  have b1 := bd_nw h 17 (show mKt 37 = 296 from rfl) (show mNt 37 = 17 from rfl) (fun z => absurd z (by decide))
  have b2 := bd_sP0 b1 13 46 37 (by decide) (by decide) (by decide)
  have e1 : run d 113 298 [.ref a] [] σ = run d 113 306 [.ref a] [] (sP (nw σ 296 17 17) 13 a 46 (some (a + 37))) := by
    rw [e_M_init_298 d a σ, h.1]
    exact e_M_init_303 d a (.ref (a + 37)) (.ref a) _ (isA_r _) (bd_0 b1 (by decide)) (isR_r _)
  rw [e1]; clear e1 b1
  generalize sP (nw σ 296 17 17) 13 a 46 (some (a + 37)) = s37 at b2 ⊢
  have h37 := b2; clear b2
  have b1 := bd_nw h37 17 (show mKt 38 = 300 from rfl) (show mNt 38 = 17 from rfl) (fun z => absurd z (by decide))
  have b2 := bd_sP0 b1 13 47 38 (by decide) (by decide) (by decide)
  have e1 : run d 113 306 [.ref a] [] s37 = run d 113 314 [.ref a] [] (sP (nw s37 300 17 17) 13 a 47 (some (a + 38))) := by
    rw [e_M_init_306 d a s37, h37.1]
    exact e_M_init_311 d a (.ref (a + 38)) (.ref a) _ (isA_r _) (bd_0 b1 (by decide)) (isR_r _)
  rw [e1]; clear e1 b1
  generalize sP (nw s37 300 17 17) 13 a 47 (some (a + 38)) = s38 at b2 ⊢
  have h38 := b2; clear b2 h37
  have b1 := bd_nw h38 17 (show mKt 39 = 305 from rfl) (show mNt 39 = 17 from rfl) (fun z => absurd z (by decide))
  have b2 := bd_sP0 b1 13 48 39 (by decide) (by decide) (by decide)
  have e1 : run d 113 314 [.ref a] [] s38 = run d 113 322 [.ref a] [] (sP (nw s38 305 17 17) 13 a 48 (some (a + 39))) := by
    rw [e_M_init_314 d a s38, h38.1]
    exact e_M_init_319 d a (.ref (a + 39)) (.ref a) _ (isA_r _) (bd_0 b1 (by decide)) (isR_r _)
  rw [e1]; clear e1 b1
  generalize sP (nw s38 305 17 17) 13 a 48 (some (a + 39)) = s39 at b2 ⊢
  have h39 := b2; clear b2 h38
  have b1 := bd_nw h39 408 (show mKt 40 = 310 from rfl) (show mNt 40 = 408 from rfl) (fun z => absurd z (by decide))
  have b2 := bd_sP0 b1 13 49 40 (by decide) (by decide) (by decide)
  have e1 : run d 113 322 [.ref a] [] s39 = run d 113 331 [.ref a] [] (sP (nw s39 310 408 408) 13 a 49 (some (a + 40))) := by
    rw [e_M_init_322 d a s39, h39.1]
    exact e_M_init_328 d a (.ref (a + 40)) (.ref a) _ (isA_r _) (bd_0 b1 (by decide)) (isR_r _)
  rw [e1]; clear e1 b1
  generalize sP (nw s39 310 408 408) 13 a 49 (some (a + 40)) = s40 at b2 ⊢
  have h40 := b2; clear b2 h39
  have b1 := bd_nw h40 200 (show mKt 41 = 315 from rfl) (show mNt 41 = 200 from rfl) (fun z => absurd z (by decide))
  have b2 := bd_sP0 b1 13 57 41 (by decide) (by decide) (by decide)
  have e1 : run d 113 331 [.ref a] [] s40 = run d 113 340 [.ref a] [] (sP (nw s40 315 200 200) 13 a 57 (some (a + 41))) := by
    rw [e_M_init_331 d a s40, h40.1]
    exact e_M_init_337 d a (.ref (a + 41)) (.ref a) _ (isA_r _) (bd_0 b1 (by decide)) (isR_r _)
  rw [e1]; clear e1 b1
  generalize sP (nw s40 315 200 200) 13 a 57 (some (a + 41)) = s41 at b2 ⊢
  have h41 := b2; clear b2 h40
  have b1 := bd_nw h41 200 (show mKt 42 = 320 from rfl) (show mNt 42 = 200 from rfl) (fun z => absurd z (by decide))
  have b2 := bd_sP0 b1 13 58 42 (by decide) (by decide) (by decide)
  have e1 : run d 113 340 [.ref a] [] s41 = run d 113 349 [.ref a] [] (sP (nw s41 320 200 200) 13 a 58 (some (a + 42))) := by
    rw [e_M_init_340 d a s41, h41.1]
    exact e_M_init_346 d a (.ref (a + 42)) (.ref a) _ (isA_r _) (bd_0 b1 (by decide)) (isR_r _)
  rw [e1]; clear e1 b1
  generalize sP (nw s41 320 200 200) 13 a 58 (some (a + 42)) = s42 at b2 ⊢
  have h42 := b2; clear b2 h41
  have b1 := bd_nw h42 200 (show mKt 43 = 325 from rfl) (show mNt 43 = 200 from rfl) (fun z => absurd z (by decide))
  have b2 := bd_sP0 b1 13 59 43 (by decide) (by decide) (by decide)
  have e1 : run d 113 349 [.ref a] [] s42 = run d 113 358 [.ref a] [] (sP (nw s42 325 200 200) 13 a 59 (some (a + 43))) := by
    rw [e_M_init_349 d a s42, h42.1]
    exact e_M_init_355 d a (.ref (a + 43)) (.ref a) _ (isA_r _) (bd_0 b1 (by decide)) (isR_r _)
  rw [e1]; clear e1 b1
  generalize sP (nw s42 325 200 200) 13 a 59 (some (a + 43)) = s43 at b2 ⊢
  have h43 := b2; clear b2 h42
  have b1 := bd_nw h43 30 (show mKt 44 = 330 from rfl) (show mNt 44 = 30 from rfl) (fun z => absurd z (by decide))
  have b2 := bd_sP0 b1 13 61 44 (by decide) (by decide) (by decide)
  have e1 : run d 113 358 [.ref a] [] s43 = run d 113 366 [.ref a] [] (sP (nw s43 330 30 30) 13 a 61 (some (a + 44))) := by
    rw [e_M_init_358 d a s43, h43.1]
    exact e_M_init_363 d a (.ref (a + 44)) (.ref a) _ (isA_r _) (bd_0 b1 (by decide)) (isR_r _)
  rw [e1]; clear e1 b1
  generalize sP (nw s43 330 30 30) 13 a 61 (some (a + 44)) = s44 at b2 ⊢
  have h44 := b2; clear b2 h43
  have b1 := bd_nw h44 30 (show mKt 45 = 335 from rfl) (show mNt 45 = 30 from rfl) (fun z => absurd z (by decide))
  have b2 := bd_sP0 b1 13 62 45 (by decide) (by decide) (by decide)
  have e1 : run d 113 366 [.ref a] [] s44 = run d 113 374 [.ref a] [] (sP (nw s44 335 30 30) 13 a 62 (some (a + 45))) := by
    rw [e_M_init_366 d a s44, h44.1]
    exact e_M_init_371 d a (.ref (a + 45)) (.ref a) _ (isA_r _) (bd_0 b1 (by decide)) (isR_r _)
  rw [e1]; clear e1 b1
  generalize sP (nw s44 335 30 30) 13 a 62 (some (a + 45)) = s45 at b2 ⊢
  have h45 := b2; clear b2 h44
  exact ⟨_, rfl, h45⟩
theorem mi_5 (h : Bd σ0 a mKt mNt v0 σ 46 [(13, 0, 62, 45), (13, 0, 61, 44), (13, 0, 59, 43), (13, 0, 58, 42), (13, 0, 57, 41), (13, 0, 49, 40), (13, 0, 48, 39), (13, 0, 47, 38), (13, 0, 46, 37), (13, 0, 45, 36), (13, 0, 44, 35), (13, 0, 43, 34), (13, 0, 42, 33), (13, 0, 39, 32), (13, 0, 36, 31), (13, 0, 35, 30), (13, 0, 34, 29), (13, 0, 33, 28), (13, 0, 32, 27), (13, 0, 31, 26), (13, 0, 30, 25), (13, 0, 29, 24), (13, 0, 28, 23), (13, 0, 27, 22), (13, 0, 26, 21), (13, 0, 25, 20), (13, 0, 24, 19), (13, 0, 23, 18), (13, 0, 22, 17), (13, 0, 21, 16), (13, 0, 20, 15), (13, 0, 19, 14), (13, 0, 18, 13), (13, 0, 17, 12), (13, 0, 15, 11), (13, 0, 14, 10), (13, 0, 13, 9), (13, 0, 12, 8), (13, 0, 10, 7), (13, 0, 9, 6), (13, 0, 8, 5), (13, 0, 6, 4), (13, 0, 5, 3), (13, 0, 4, 2), (13, 0, 3, 1)] []) : ∃ σ', run d 113 374 [.ref a] [] σ = run d 113 437 [.ref a] [] σ' ∧ Bd σ0 a mKt mNt v0 σ' 54 [(13, 0, 75, 53), (13, 0, 74, 52), (13, 0, 68, 51), (13, 0, 67, 50), (13, 0, 66, 49), (13, 0, 65, 48), (13, 0, 64, 47), (13, 0, 63, 46), (13, 0, 62, 45), (13, 0, 61, 44), (13, 0, 59, 43), (13, 0, 58, 42), (13, 0, 57, 41), (13, 0, 49, 40), (13, 0, 48, 39), (13, 0, 47, 38), (13, 0, 46, 37), (13, 0, 45, 36), (13, 0, 44, 35), (13, 0, 43, 34), (13, 0, 42, 33), (13, 0, 39, 32), (13, 0, 36, 31), (13, 0, 35, 30), (13, 0, 34, 29), (13, 0, 33, 28), (13, 0, 32, 27), (13, 0, 31, 26), (13, 0, 30, 25), (13, 0, 29, 24), (13, 0, 28, 23), (13, 0, 27, 22), (13, 0, 26, 21), (13, 0, 25, 20), (13, 0, 24, 19), (13, 0, 23, 18), (13, 0, 22, 17), (13, 0, 21, 16), (13, 0, 20, 15), (13, 0, 19, 14), (13, 0, 18, 13), (13, 0, 17, 12), (13, 0, 15, 11), (13, 0, 14, 10), (13, 0, 13, 9), (13, 0, 12, 8), (13, 0, 10, 7), (13, 0, 9, 6), (13, 0, 8, 5), (13, 0, 6, 4), (13, 0, 5, 3), (13, 0, 4, 2), (13, 0, 3, 1)] [] := by
  have b1 := bd_nw h 30 (show mKt 46 = 340 from rfl) (show mNt 46 = 30 from rfl) (fun z => absurd z (by decide))
  have b2 := bd_sP0 b1 13 63 46 (by decide) (by decide) (by decide)
  have e1 : run d 113 374 [.ref a] [] σ = run d 113 382 [.ref a] [] (sP (nw σ 340 30 30) 13 a 63 (some (a + 46))) := by
    rw [e_M_init_374 d a σ, h.1]
    exact e_M_init_379 d a (.ref (a + 46)) (.ref a) _ (isA_r _) (bd_0 b1 (by decide)) (isR_r _)
  rw [e1]; clear e1 b1
  generalize sP (nw σ 340 30 30) 13 a 63 (some (a + 46)) = s46 at b2 ⊢
  have h46 := b2; clear b2
  have b1 := bd_nw h46 30 (show mKt 47 = 345 from rfl) (show mNt 47 = 30 from rfl) (fun z => absurd z (by decide))
  have b2 := bd_sP0 b1 13 64 47 (by decide) (by decide) (by decide)
  have e1 : run d 113 382 [.ref a] [] s46 = run d 113 390 [.ref a] [] (sP (nw s46 345 30 30) 13 a 64 (some (a + 47))) := by
    rw [e_M_init_382 d a s46, h46.1]
    exact e_M_init_387 d a (.ref (a + 47)) (.ref a) _ (isA_r _) (bd_0 b1 (by decide)) (isR_r _)
  rw [e1]; clear e1 b1
  generalize sP (nw s46 345 30 30) 13 a 64 (some (a + 47)) = s47 at b2 ⊢
  have h47 := b2; clear b2 h46
  have b1 := bd_nw h47 30 (show mKt 48 = 350 from rfl) (show mNt 48 = 30 from rfl) (fun z => absurd z (by decide))
  have b2 := bd_sP0 b1 13 65 48 (by decide) (by decide) (by decide)
  have e1 : run d 113 390 [.ref a] [] s47 = run d 113 398 [.ref a] [] (sP (nw s47 350 30 30) 13 a 65 (some (a + 48))) := by
    rw [e_M_init_390 d a s47, h47.1]
    exact e_M_init_395 d a (.ref (a + 48)) (.ref a) _ (isA_r _) (bd_0 b1 (by decide)) (isR_r _)
  rw [e1]; clear e1 b1
  generalize sP (nw s47 350 30 30) 13 a 65 (some (a + 48)) = s48 at b2 ⊢
  have h48 := b2; clear b2 h47
  have b1 := bd_nw h48 30 (show mKt 49 = 355 from rfl) (show mNt 49 = 30 from rfl) (fun z => absurd z (by decide))
  have b2 := bd_sP0 b1 13 66 49 (by decide) (by decide) (by decide)
  have e1 : run d 113 398 [.ref a] [] s48 = run d 113 406 [.ref a] [] (sP (nw s48 355 30 30) 13 a 66 (some (a + 49))) := by
    rw [e_M_init_398 d a s48, h48.1]
    exact e_M_init_403 d a (.ref (a + 49)) (.ref a) _ (isA_r _) (bd_0 b1 (by decide)) (isR_r _)
  rw [e1]; clear e1 b1
  generalize sP (nw s48 355 30 30) 13 a 66 (some (a + 49)) = s49 at b2 ⊢
  have h49 := b2; clear b2 h48
  have b1 := bd_nw h49 30 (show mKt 50 = 360 from rfl) (show mNt 50 = 30 from rfl) (fun z => absurd z (by decide))
  have b2 := bd_sP0 b1 13 67 50 (by decide) (by decide) (by decide)
  have e1 : run d 113 406 [.ref a] [] s49 = run d 113 414 [.ref a] [] (sP (nw s49 360 30 30) 13 a 67 (some (a + 50))) := by
    rw [e_M_init_406 d a s49, h49.1]
    exact e_M_init_411 d a (.ref (a + 50)) (.ref a) _ (isA_r _) (bd_0 b1 (by decide)) (isR_r _)
  rw [e1]; clear e1 b1
  generalize sP (nw s49 360 30 30) 13 a 67 (some (a + 50)) = s50 at b2 ⊢
  have h50 := b2; clear b2 h49
  have b1 := bd_nw h50 210 (show mKt 51 = 365 from rfl) (show mNt 51 = 210 from rfl) (fun z => absurd z (by decide))
  have b2 := bd_sP0 b1 13 68 51 (by decide) (by decide) (by decide)
  have e1 : run d 113 414 [.ref a] [] s50 = run d 113 423 [.ref a] [] (sP (nw s50 365 210 210) 13 a 68 (some (a + 51))) := by
    rw [e_M_init_414 d a s50, h50.1]
    exact e_M_init_420 d a (.ref (a + 51)) (.ref a) _ (isA_r _) (bd_0 b1 (by decide)) (isR_r _)
  rw [e1]; clear e1 b1
  generalize sP (nw s50 365 210 210) 13 a 68 (some (a + 51)) = s51 at b2 ⊢
  have h51 := b2; clear b2 h50
  have b1 := bd_nw h51 5 (show mKt 52 = 370 from rfl) (show mNt 52 = 5 from rfl) (fun z => absurd z (by decide))
  have b2 := bd_sP0 b1 13 74 52 (by decide) (by decide) (by decide)
  have e1 : run d 113 423 [.ref a] [] s51 = run d 113 430 [.ref a] [] (sP (nw s51 370 5 5) 13 a 74 (some (a + 52))) := by
    rw [e_M_init_423 d a s51, h51.1]
    exact e_M_init_427 d a (.ref (a + 52)) (.ref a) _ (isA_r _) (bd_0 b1 (by decide)) (isR_r _)
  rw [e1]; clear e1 b1
  generalize sP (nw s51 370 5 5) 13 a 74 (some (a + 52)) = s52 at b2 ⊢
  have h52 := b2; clear b2 h51
  have b1 := bd_nw h52 5 (show mKt 53 = 375 from rfl) (show mNt 53 = 5 from rfl) (fun z => absurd z (by decide))
  have b2 := bd_sP0 b1 13 75 53 (by decide) (by decide) (by decide)
  have e1 : run d 113 430 [.ref a] [] s52 = run d 113 437 [.ref a] [] (sP (nw s52 375 5 5) 13 a 75 (some (a + 53))) := by
    rw [e_M_init_430 d a s52, h52.1]
    exact e_M_init_434 d a (.ref (a + 53)) (.ref a) _ (isA_r _) (bd_0 b1 (by decide)) (isR_r _)
  rw [e1]; clear e1 b1
  generalize sP (nw s52 375 5 5) 13 a 75 (some (a + 53)) = s53 at b2 ⊢
  have h53 := b2; clear b2 h52
  exact ⟨_, rfl, h53⟩
abbrev mPt : List (Nat × Nat × Nat × Nat) := [(13, 0, 75, 53), (13, 0, 74, 52), (13, 0, 68, 51), (13, 0, 67, 50), (13, 0, 66, 49), (13, 0, 65, 48), (13, 0, 64, 47), (13, 0, 63, 46), (13, 0, 62, 45), (13, 0, 61, 44), (13, 0, 59, 43), (13, 0, 58, 42), (13, 0, 57, 41), (13, 0, 49, 40), (13, 0, 48, 39), (13, 0, 47, 38), (13, 0, 46, 37), (13, 0, 45, 36), (13, 0, 44, 35), (13, 0, 43, 34), (13, 0, 42, 33), (13, 0, 39, 32), (13, 0, 36, 31), (13, 0, 35, 30), (13, 0, 34, 29), (13, 0, 33, 28), (13, 0, 32, 27), (13, 0, 31, 26), (13, 0, 30, 25), (13, 0, 29, 24), (13, 0, 28, 23), (13, 0, 27, 22), (13, 0, 26, 21), (13, 0, 25, 20), (13, 0, 24, 19), (13, 0, 23, 18), (13, 0, 22, 17), (13, 0, 21, 16), (13, 0, 20, 15), (13, 0, 19, 14), (13, 0, 18, 13), (13, 0, 17, 12), (13, 0, 15, 11), (13, 0, 14, 10), (13, 0, 13, 9), (13, 0, 12, 8), (13, 0, 10, 7), (13, 0, 9, 6), (13, 0, 8, 5), (13, 0, 6, 4), (13, 0, 5, 3), (13, 0, 4, 2), (13, 0, 3, 1)]
theorem m_init (h : Bd σ0 a mKt mNt v0 σ 1 [] []) : ∃ σ', runc d 113 [.ref a] σ = some (none, σ') ∧ Bd σ0 a mKt mNt v0 σ' 54 mPt [] := by
  obtain ⟨t0, e0, h0⟩ := mi_0 d h
  obtain ⟨t1, e1, h1⟩ := mi_1 d h0
  obtain ⟨t2, e2, h2⟩ := mi_2 d h1
  obtain ⟨t3, e3, h3⟩ := mi_3 d h2
  obtain ⟨t4, e4, h4⟩ := mi_4 d h3
  obtain ⟨t5, e5, h5⟩ := mi_5 d h4
  refine ⟨_, ?_, h5⟩
  rw [rc_M_init, e0, e1, e2, e3, e4, e5]
  exact e_M_init_437 d a _
end B86
