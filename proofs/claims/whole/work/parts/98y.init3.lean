set_option maxHeartbeats 4000000 in
theorem sg12_8 {fu : Nat} {G : GG} {S : ST} {a : Nat} {P : ST → Prop} (hJ : J12_8 a S) (nx : ∀ S', J12_9 a S' → ∃ z, f_X12_init_g9 fu G S' a = some z ∧ P z) : ∃ z, f_X12_init_g8 fu G S a = some z ∧ P z := by
  obtain ⟨f_C, f_P1, f_R0, f_P6, f_P7, f_R1, f_P9, f_R2, f_P16, f_R3, f_R4, f_R5, f_P25, f_R6, f_C23, f_N23, f_C24, f_N24, f_P29, f_R7, f_P32, f_P33, f_R8, f_A40, f_R9, f_A41, f_R10, f_A42, f_R11, f_P43, f_P51, f_R12, f_P58, f_P66, f_R13, f_P73, f_R14, f_P78, f_R15, f_I16, f_I17, f_I18, f_P83, f_Q23, f_P90, f_P97, f_P104, f_P111, f_P118, f_P125⟩ := hJ
  unfold f_X12_init_g8
  obtain ⟨V0, h0⟩ : ∃ y, S a = y := ⟨_, rfl⟩
  rw [h0] at f_C f_R0 f_R1 f_R2 f_R3 f_R4 f_R5 f_R6 f_R7 f_R8 f_R9 f_R10 f_R11 f_R12 f_R13 f_R14 f_R15 f_I16 f_I17 f_I18
  refine ex_ck (decide_eq_true (by rw [h0]; exact f_C)) ?_
  refine ex_bd (x := a + 23) (by rw [h0]; exact f_R4) ?_
  refine ex_nm (fun S126 he1 => ?_)
  have h0 := (st_at he1 (off_ne0 (j := 132) (by decide))).trans h0
  obtain ⟨S127, e1, e2, he2⟩ := i_X3 (fu := fu) (G := G) (S := S126) (a := a + 132) (by rw [he1, st_same]; rfl)
  refine ex_bd e1 ?_
  have h0 : S127 a = V0 := (sub_at (k := 132) (n := 7) (j := 0) he2 (by decide)).trans h0
  have p132 : gC (S127 (a + 132)) = 3 ∧ CHL (S127 (a + 132)) (q00, lk0) := e2
  obtain ⟨W23, h23⟩ : ∃ y, S127 (a + 23) = y := ⟨_, rfl⟩
  have w_C23 := f_C23
  rw [← (show S127 (a + 23) = S (a + 23) from by rw [he2 _ (off_out (j := 23) (k := 132) (n := 7) (by decide)), he1, st_ne _ _ (off_ne (i := 23) (j := 132) (by decide))]), h23] at w_C23
  have w_N23 := f_N23
  rw [← (show S127 (a + 23) = S (a + 23) from by rw [he2 _ (off_out (j := 23) (k := 132) (n := 7) (by decide)), he1, st_ne _ _ (off_ne (i := 23) (j := 132) (by decide))]), h23] at w_N23
  have w_Q23 := f_Q23
  rw [← (show S127 (a + 23) = S (a + 23) from by rw [he2 _ (off_out (j := 23) (k := 132) (n := 7) (by decide)), he1, st_ne _ _ (off_ne (i := 23) (j := 132) (by decide))]), h23] at w_Q23
  refine ex_ck (decide_eq_true (by rw [h23]; exact w_C23)) ?_
  refine ex_ck (decide_eq_true p132.1) ?_
  refine ex_ck (by rw [h23, w_N23]; decide) ?_
  refine ex_nm (fun S128 he3 => ?_)
  have h0 := (st_at he3 (off_ne0 (j := 23) (by decide))).trans h0
  rw [h23, show (7 : Int32).toNatClampNeg = 7 by decide] at he3
  have h23 := (congrFun he3 (a + 23)).trans (st_same _ _ _)
  have w_Q23 := gQ_step (x := a + 132) w_Q23 (by omega)
  have w_C23 : gC (sQ W23 0 7 (some (a + 132))) = 29 := w_C23
  have w_N23 : gN (sQ W23 0 7 (some (a + 132))) 0 = 17 := w_N23
  obtain ⟨W23_3, eW⟩ : ∃ y, sQ W23 0 7 (some (a + 132)) = y := ⟨_, rfl⟩
  rw [eW] at h23 w_Q23 w_C23 w_N23 he3
  clear eW
  refine ex_ck (decide_eq_true (by rw [h0]; exact f_C)) ?_
  refine ex_bd (x := a + 23) (by rw [h0]; exact f_R4) ?_
  refine ex_nm (fun S134 he4 => ?_)
  have h0 := (st_at he4 (off_ne0 (j := 139) (by decide))).trans h0
  have h23 := (st_at he4 (off_ne (i := 23) (j := 139) (by decide))).trans h23
  obtain ⟨S135, e1, e2, he5⟩ := i_X3 (fu := fu) (G := G) (S := S134) (a := a + 139) (by rw [he4, st_same]; rfl)
  refine ex_bd e1 ?_
  have h0 : S135 a = V0 := (sub_at (k := 139) (n := 7) (j := 0) he5 (by decide)).trans h0
  have h23 := (sub_at (k := 139) (n := 7) (j := 23) he5 (by decide)).trans h23
  have p139 : gC (S135 (a + 139)) = 3 ∧ CHL (S135 (a + 139)) (q00, lk0) := e2
  refine ex_ck (decide_eq_true (by rw [h23]; exact w_C23)) ?_
  refine ex_ck (decide_eq_true p139.1) ?_
  refine ex_ck (by rw [h23, w_N23]; decide) ?_
  refine ex_nm (fun S136 he6 => ?_)
  have h0 := (st_at he6 (off_ne0 (j := 23) (by decide))).trans h0
  rw [h23, show (8 : Int32).toNatClampNeg = 8 by decide] at he6
  have h23 := (congrFun he6 (a + 23)).trans (st_same _ _ _)
  have w_Q23 := gQ_step (x := a + 139) w_Q23 (by omega)
  have w_C23 : gC (sQ W23_3 0 8 (some (a + 139))) = 29 := w_C23
  have w_N23 : gN (sQ W23_3 0 8 (some (a + 139))) 0 = 17 := w_N23
  obtain ⟨W23_6, eW⟩ : ∃ y, sQ W23_3 0 8 (some (a + 139)) = y := ⟨_, rfl⟩
  rw [eW] at h23 w_Q23 w_C23 w_N23 he6
  clear eW
  refine nx S136 ⟨?_, ?_, ?_, ?_, ?_, ?_, ?_, ?_, ?_, ?_, ?_, ?_, ?_, ?_, ?_, ?_, ?_, ?_, ?_, ?_, ?_, ?_, ?_, ?_, ?_, ?_, ?_, ?_, ?_, ?_, ?_, ?_, ?_, ?_, ?_, ?_, ?_, ?_, ?_, ?_, ?_, ?_, ?_, ?_, ?_, ?_, ?_, ?_, ?_, ?_, ?_, ?_⟩
  · rw [h0]; exact f_C
  · rw [show S136 (a + 1) = S (a + 1) from by rw [he6, st_ne _ _ (off_ne (i := 1) (j := 23) (by decide)), he5 _ (off_out (j := 1) (k := 139) (n := 7) (by decide)), he4, st_ne _ _ (off_ne (i := 1) (j := 139) (by decide)), he3, st_ne _ _ (off_ne (i := 1) (j := 23) (by decide)), he2 _ (off_out (j := 1) (k := 132) (n := 7) (by decide)), he1, st_ne _ _ (off_ne (i := 1) (j := 132) (by decide))]]; exact f_P1
  · rw [h0]; exact f_R0
  · rw [show S136 (a + 6) = S (a + 6) from by rw [he6, st_ne _ _ (off_ne (i := 6) (j := 23) (by decide)), he5 _ (off_out (j := 6) (k := 139) (n := 7) (by decide)), he4, st_ne _ _ (off_ne (i := 6) (j := 139) (by decide)), he3, st_ne _ _ (off_ne (i := 6) (j := 23) (by decide)), he2 _ (off_out (j := 6) (k := 132) (n := 7) (by decide)), he1, st_ne _ _ (off_ne (i := 6) (j := 132) (by decide))]]; exact f_P6
  · rw [show S136 (a + 7) = S (a + 7) from by rw [he6, st_ne _ _ (off_ne (i := 7) (j := 23) (by decide)), he5 _ (off_out (j := 7) (k := 139) (n := 7) (by decide)), he4, st_ne _ _ (off_ne (i := 7) (j := 139) (by decide)), he3, st_ne _ _ (off_ne (i := 7) (j := 23) (by decide)), he2 _ (off_out (j := 7) (k := 132) (n := 7) (by decide)), he1, st_ne _ _ (off_ne (i := 7) (j := 132) (by decide))]]; exact f_P7
  · rw [h0]; exact f_R1
  · rw [show S136 (a + 9) = S (a + 9) from by rw [he6, st_ne _ _ (off_ne (i := 9) (j := 23) (by decide)), he5 _ (off_out (j := 9) (k := 139) (n := 7) (by decide)), he4, st_ne _ _ (off_ne (i := 9) (j := 139) (by decide)), he3, st_ne _ _ (off_ne (i := 9) (j := 23) (by decide)), he2 _ (off_out (j := 9) (k := 132) (n := 7) (by decide)), he1, st_ne _ _ (off_ne (i := 9) (j := 132) (by decide))]]; exact f_P9
  · rw [h0]; exact f_R2
  · rw [show S136 (a + 16) = S (a + 16) from by rw [he6, st_ne _ _ (off_ne (i := 16) (j := 23) (by decide)), he5 _ (off_out (j := 16) (k := 139) (n := 7) (by decide)), he4, st_ne _ _ (off_ne (i := 16) (j := 139) (by decide)), he3, st_ne _ _ (off_ne (i := 16) (j := 23) (by decide)), he2 _ (off_out (j := 16) (k := 132) (n := 7) (by decide)), he1, st_ne _ _ (off_ne (i := 16) (j := 132) (by decide))]]; exact f_P16
  · rw [h0]; exact f_R3
  · rw [h0]; exact f_R4
  · rw [h0]; exact f_R5
  · rw [show S136 (a + 25) = S (a + 25) from by rw [he6, st_ne _ _ (off_ne (i := 25) (j := 23) (by decide)), he5 _ (off_out (j := 25) (k := 139) (n := 7) (by decide)), he4, st_ne _ _ (off_ne (i := 25) (j := 139) (by decide)), he3, st_ne _ _ (off_ne (i := 25) (j := 23) (by decide)), he2 _ (off_out (j := 25) (k := 132) (n := 7) (by decide)), he1, st_ne _ _ (off_ne (i := 25) (j := 132) (by decide))]]; exact f_P25
  · rw [h0]; exact f_R6
  · rw [h23]; exact w_C23
  · rw [h23]; exact w_N23
  · rw [show S136 (a + 24) = S (a + 24) from by rw [he6, st_ne _ _ (off_ne (i := 24) (j := 23) (by decide)), he5 _ (off_out (j := 24) (k := 139) (n := 7) (by decide)), he4, st_ne _ _ (off_ne (i := 24) (j := 139) (by decide)), he3, st_ne _ _ (off_ne (i := 24) (j := 23) (by decide)), he2 _ (off_out (j := 24) (k := 132) (n := 7) (by decide)), he1, st_ne _ _ (off_ne (i := 24) (j := 132) (by decide))]]; exact f_C24
  · rw [show S136 (a + 24) = S (a + 24) from by rw [he6, st_ne _ _ (off_ne (i := 24) (j := 23) (by decide)), he5 _ (off_out (j := 24) (k := 139) (n := 7) (by decide)), he4, st_ne _ _ (off_ne (i := 24) (j := 139) (by decide)), he3, st_ne _ _ (off_ne (i := 24) (j := 23) (by decide)), he2 _ (off_out (j := 24) (k := 132) (n := 7) (by decide)), he1, st_ne _ _ (off_ne (i := 24) (j := 132) (by decide))]]; exact f_N24
  · rw [show S136 (a + 29) = S (a + 29) from by rw [he6, st_ne _ _ (off_ne (i := 29) (j := 23) (by decide)), he5 _ (off_out (j := 29) (k := 139) (n := 7) (by decide)), he4, st_ne _ _ (off_ne (i := 29) (j := 139) (by decide)), he3, st_ne _ _ (off_ne (i := 29) (j := 23) (by decide)), he2 _ (off_out (j := 29) (k := 132) (n := 7) (by decide)), he1, st_ne _ _ (off_ne (i := 29) (j := 132) (by decide))]]; exact f_P29
  · rw [h0]; exact f_R7
  · rw [show S136 (a + 32) = S (a + 32) from by rw [he6, st_ne _ _ (off_ne (i := 32) (j := 23) (by decide)), he5 _ (off_out (j := 32) (k := 139) (n := 7) (by decide)), he4, st_ne _ _ (off_ne (i := 32) (j := 139) (by decide)), he3, st_ne _ _ (off_ne (i := 32) (j := 23) (by decide)), he2 _ (off_out (j := 32) (k := 132) (n := 7) (by decide)), he1, st_ne _ _ (off_ne (i := 32) (j := 132) (by decide))]]; exact f_P32
  · rw [show S136 (a + 33) = S (a + 33) from by rw [he6, st_ne _ _ (off_ne (i := 33) (j := 23) (by decide)), he5 _ (off_out (j := 33) (k := 139) (n := 7) (by decide)), he4, st_ne _ _ (off_ne (i := 33) (j := 139) (by decide)), he3, st_ne _ _ (off_ne (i := 33) (j := 23) (by decide)), he2 _ (off_out (j := 33) (k := 132) (n := 7) (by decide)), he1, st_ne _ _ (off_ne (i := 33) (j := 132) (by decide))]]; exact f_P33
  · rw [h0]; exact f_R8
  · rw [show S136 (a + 40) = S (a + 40) from by rw [he6, st_ne _ _ (off_ne (i := 40) (j := 23) (by decide)), he5 _ (off_out (j := 40) (k := 139) (n := 7) (by decide)), he4, st_ne _ _ (off_ne (i := 40) (j := 139) (by decide)), he3, st_ne _ _ (off_ne (i := 40) (j := 23) (by decide)), he2 _ (off_out (j := 40) (k := 132) (n := 7) (by decide)), he1, st_ne _ _ (off_ne (i := 40) (j := 132) (by decide))]]; exact f_A40
  · rw [h0]; exact f_R9
  · rw [show S136 (a + 41) = S (a + 41) from by rw [he6, st_ne _ _ (off_ne (i := 41) (j := 23) (by decide)), he5 _ (off_out (j := 41) (k := 139) (n := 7) (by decide)), he4, st_ne _ _ (off_ne (i := 41) (j := 139) (by decide)), he3, st_ne _ _ (off_ne (i := 41) (j := 23) (by decide)), he2 _ (off_out (j := 41) (k := 132) (n := 7) (by decide)), he1, st_ne _ _ (off_ne (i := 41) (j := 132) (by decide))]]; exact f_A41
  · rw [h0]; exact f_R10
  · rw [show S136 (a + 42) = S (a + 42) from by rw [he6, st_ne _ _ (off_ne (i := 42) (j := 23) (by decide)), he5 _ (off_out (j := 42) (k := 139) (n := 7) (by decide)), he4, st_ne _ _ (off_ne (i := 42) (j := 139) (by decide)), he3, st_ne _ _ (off_ne (i := 42) (j := 23) (by decide)), he2 _ (off_out (j := 42) (k := 132) (n := 7) (by decide)), he1, st_ne _ _ (off_ne (i := 42) (j := 132) (by decide))]]; exact f_A42
  · rw [h0]; exact f_R11
  · rw [show S136 (a + 43) = S (a + 43) from by rw [he6, st_ne _ _ (off_ne (i := 43) (j := 23) (by decide)), he5 _ (off_out (j := 43) (k := 139) (n := 7) (by decide)), he4, st_ne _ _ (off_ne (i := 43) (j := 139) (by decide)), he3, st_ne _ _ (off_ne (i := 43) (j := 23) (by decide)), he2 _ (off_out (j := 43) (k := 132) (n := 7) (by decide)), he1, st_ne _ _ (off_ne (i := 43) (j := 132) (by decide))]]; exact f_P43
  · rw [show S136 (a + 51) = S (a + 51) from by rw [he6, st_ne _ _ (off_ne (i := 51) (j := 23) (by decide)), he5 _ (off_out (j := 51) (k := 139) (n := 7) (by decide)), he4, st_ne _ _ (off_ne (i := 51) (j := 139) (by decide)), he3, st_ne _ _ (off_ne (i := 51) (j := 23) (by decide)), he2 _ (off_out (j := 51) (k := 132) (n := 7) (by decide)), he1, st_ne _ _ (off_ne (i := 51) (j := 132) (by decide))]]; exact f_P51
  · rw [h0]; exact f_R12
  · rw [show S136 (a + 58) = S (a + 58) from by rw [he6, st_ne _ _ (off_ne (i := 58) (j := 23) (by decide)), he5 _ (off_out (j := 58) (k := 139) (n := 7) (by decide)), he4, st_ne _ _ (off_ne (i := 58) (j := 139) (by decide)), he3, st_ne _ _ (off_ne (i := 58) (j := 23) (by decide)), he2 _ (off_out (j := 58) (k := 132) (n := 7) (by decide)), he1, st_ne _ _ (off_ne (i := 58) (j := 132) (by decide))]]; exact f_P58
  · rw [show S136 (a + 66) = S (a + 66) from by rw [he6, st_ne _ _ (off_ne (i := 66) (j := 23) (by decide)), he5 _ (off_out (j := 66) (k := 139) (n := 7) (by decide)), he4, st_ne _ _ (off_ne (i := 66) (j := 139) (by decide)), he3, st_ne _ _ (off_ne (i := 66) (j := 23) (by decide)), he2 _ (off_out (j := 66) (k := 132) (n := 7) (by decide)), he1, st_ne _ _ (off_ne (i := 66) (j := 132) (by decide))]]; exact f_P66
  · rw [h0]; exact f_R13
  · rw [show S136 (a + 73) = S (a + 73) from by rw [he6, st_ne _ _ (off_ne (i := 73) (j := 23) (by decide)), he5 _ (off_out (j := 73) (k := 139) (n := 7) (by decide)), he4, st_ne _ _ (off_ne (i := 73) (j := 139) (by decide)), he3, st_ne _ _ (off_ne (i := 73) (j := 23) (by decide)), he2 _ (off_out (j := 73) (k := 132) (n := 7) (by decide)), he1, st_ne _ _ (off_ne (i := 73) (j := 132) (by decide))]]; exact f_P73
  · rw [h0]; exact f_R14
  · rw [show S136 (a + 78) = S (a + 78) from by rw [he6, st_ne _ _ (off_ne (i := 78) (j := 23) (by decide)), he5 _ (off_out (j := 78) (k := 139) (n := 7) (by decide)), he4, st_ne _ _ (off_ne (i := 78) (j := 139) (by decide)), he3, st_ne _ _ (off_ne (i := 78) (j := 23) (by decide)), he2 _ (off_out (j := 78) (k := 132) (n := 7) (by decide)), he1, st_ne _ _ (off_ne (i := 78) (j := 132) (by decide))]]; exact f_P78
  · rw [h0]; exact f_R15
  · rw [h0]; exact f_I16
  · rw [h0]; exact f_I17
  · rw [h0]; exact f_I18
  · rw [show S136 (a + 83) = S (a + 83) from by rw [he6, st_ne _ _ (off_ne (i := 83) (j := 23) (by decide)), he5 _ (off_out (j := 83) (k := 139) (n := 7) (by decide)), he4, st_ne _ _ (off_ne (i := 83) (j := 139) (by decide)), he3, st_ne _ _ (off_ne (i := 83) (j := 23) (by decide)), he2 _ (off_out (j := 83) (k := 132) (n := 7) (by decide)), he1, st_ne _ _ (off_ne (i := 83) (j := 132) (by decide))]]; exact f_P83
  · rw [h23]; exact w_Q23
  · rw [show S136 (a + 90) = S (a + 90) from by rw [he6, st_ne _ _ (off_ne (i := 90) (j := 23) (by decide)), he5 _ (off_out (j := 90) (k := 139) (n := 7) (by decide)), he4, st_ne _ _ (off_ne (i := 90) (j := 139) (by decide)), he3, st_ne _ _ (off_ne (i := 90) (j := 23) (by decide)), he2 _ (off_out (j := 90) (k := 132) (n := 7) (by decide)), he1, st_ne _ _ (off_ne (i := 90) (j := 132) (by decide))]]; exact f_P90
  · rw [show S136 (a + 97) = S (a + 97) from by rw [he6, st_ne _ _ (off_ne (i := 97) (j := 23) (by decide)), he5 _ (off_out (j := 97) (k := 139) (n := 7) (by decide)), he4, st_ne _ _ (off_ne (i := 97) (j := 139) (by decide)), he3, st_ne _ _ (off_ne (i := 97) (j := 23) (by decide)), he2 _ (off_out (j := 97) (k := 132) (n := 7) (by decide)), he1, st_ne _ _ (off_ne (i := 97) (j := 132) (by decide))]]; exact f_P97
  · rw [show S136 (a + 104) = S (a + 104) from by rw [he6, st_ne _ _ (off_ne (i := 104) (j := 23) (by decide)), he5 _ (off_out (j := 104) (k := 139) (n := 7) (by decide)), he4, st_ne _ _ (off_ne (i := 104) (j := 139) (by decide)), he3, st_ne _ _ (off_ne (i := 104) (j := 23) (by decide)), he2 _ (off_out (j := 104) (k := 132) (n := 7) (by decide)), he1, st_ne _ _ (off_ne (i := 104) (j := 132) (by decide))]]; exact f_P104
  · rw [show S136 (a + 111) = S (a + 111) from by rw [he6, st_ne _ _ (off_ne (i := 111) (j := 23) (by decide)), he5 _ (off_out (j := 111) (k := 139) (n := 7) (by decide)), he4, st_ne _ _ (off_ne (i := 111) (j := 139) (by decide)), he3, st_ne _ _ (off_ne (i := 111) (j := 23) (by decide)), he2 _ (off_out (j := 111) (k := 132) (n := 7) (by decide)), he1, st_ne _ _ (off_ne (i := 111) (j := 132) (by decide))]]; exact f_P111
  · rw [show S136 (a + 118) = S (a + 118) from by rw [he6, st_ne _ _ (off_ne (i := 118) (j := 23) (by decide)), he5 _ (off_out (j := 118) (k := 139) (n := 7) (by decide)), he4, st_ne _ _ (off_ne (i := 118) (j := 139) (by decide)), he3, st_ne _ _ (off_ne (i := 118) (j := 23) (by decide)), he2 _ (off_out (j := 118) (k := 132) (n := 7) (by decide)), he1, st_ne _ _ (off_ne (i := 118) (j := 132) (by decide))]]; exact f_P118
  · rw [show S136 (a + 125) = S (a + 125) from by rw [he6, st_ne _ _ (off_ne (i := 125) (j := 23) (by decide)), he5 _ (off_out (j := 125) (k := 139) (n := 7) (by decide)), he4, st_ne _ _ (off_ne (i := 125) (j := 139) (by decide)), he3, st_ne _ _ (off_ne (i := 125) (j := 23) (by decide)), he2 _ (off_out (j := 125) (k := 132) (n := 7) (by decide)), he1, st_ne _ _ (off_ne (i := 125) (j := 132) (by decide))]]; exact f_P125
  · rw [show S136 (a + 132) = S127 (a + 132) from by rw [he6, st_ne _ _ (off_ne (i := 132) (j := 23) (by decide)), he5 _ (off_out (j := 132) (k := 139) (n := 7) (by decide)), he4, st_ne _ _ (off_ne (i := 132) (j := 139) (by decide)), he3, st_ne _ _ (off_ne (i := 132) (j := 23) (by decide))]]; exact p132
  · rw [show S136 (a + 139) = S135 (a + 139) from by rw [he6, st_ne _ _ (off_ne (i := 139) (j := 23) (by decide))]]; exact p139
set_option maxHeartbeats 4000000 in
theorem sg12_9 {fu : Nat} {G : GG} {S : ST} {a : Nat} {P : ST → Prop} (hJ : J12_9 a S) (nx : ∀ S', J12_10 a S' → ∃ z, f_X12_init_g10 fu G S' a = some z ∧ P z) : ∃ z, f_X12_init_g9 fu G S a = some z ∧ P z := by
  obtain ⟨f_C, f_P1, f_R0, f_P6, f_P7, f_R1, f_P9, f_R2, f_P16, f_R3, f_R4, f_R5, f_P25, f_R6, f_C23, f_N23, f_C24, f_N24, f_P29, f_R7, f_P32, f_P33, f_R8, f_A40, f_R9, f_A41, f_R10, f_A42, f_R11, f_P43, f_P51, f_R12, f_P58, f_P66, f_R13, f_P73, f_R14, f_P78, f_R15, f_I16, f_I17, f_I18, f_P83, f_Q23, f_P90, f_P97, f_P104, f_P111, f_P118, f_P125, f_P132, f_P139⟩ := hJ
  unfold f_X12_init_g9
  obtain ⟨V0, h0⟩ : ∃ y, S a = y := ⟨_, rfl⟩
  rw [h0] at f_C f_R0 f_R1 f_R2 f_R3 f_R4 f_R5 f_R6 f_R7 f_R8 f_R9 f_R10 f_R11 f_R12 f_R13 f_R14 f_R15 f_I16 f_I17 f_I18
  refine ex_ck (decide_eq_true (by rw [h0]; exact f_C)) ?_
  refine ex_bd (x := a + 23) (by rw [h0]; exact f_R4) ?_
  refine ex_nm (fun S142 he1 => ?_)
  have h0 := (st_at he1 (off_ne0 (j := 146) (by decide))).trans h0
  obtain ⟨S143, e1, e2, he2⟩ := i_X3 (fu := fu) (G := G) (S := S142) (a := a + 146) (by rw [he1, st_same]; rfl)
  refine ex_bd e1 ?_
  have h0 : S143 a = V0 := (sub_at (k := 146) (n := 7) (j := 0) he2 (by decide)).trans h0
  have p146 : gC (S143 (a + 146)) = 3 ∧ CHL (S143 (a + 146)) (q00, lk0) := e2
  obtain ⟨W23, h23⟩ : ∃ y, S143 (a + 23) = y := ⟨_, rfl⟩
  have w_C23 := f_C23
  rw [← (show S143 (a + 23) = S (a + 23) from by rw [he2 _ (off_out (j := 23) (k := 146) (n := 7) (by decide)), he1, st_ne _ _ (off_ne (i := 23) (j := 146) (by decide))]), h23] at w_C23
  have w_N23 := f_N23
  rw [← (show S143 (a + 23) = S (a + 23) from by rw [he2 _ (off_out (j := 23) (k := 146) (n := 7) (by decide)), he1, st_ne _ _ (off_ne (i := 23) (j := 146) (by decide))]), h23] at w_N23
  have w_Q23 := f_Q23
  rw [← (show S143 (a + 23) = S (a + 23) from by rw [he2 _ (off_out (j := 23) (k := 146) (n := 7) (by decide)), he1, st_ne _ _ (off_ne (i := 23) (j := 146) (by decide))]), h23] at w_Q23
  refine ex_ck (decide_eq_true (by rw [h23]; exact w_C23)) ?_
  refine ex_ck (decide_eq_true p146.1) ?_
  refine ex_ck (by rw [h23, w_N23]; decide) ?_
  refine ex_nm (fun S144 he3 => ?_)
  have h0 := (st_at he3 (off_ne0 (j := 23) (by decide))).trans h0
  rw [h23, show (9 : Int32).toNatClampNeg = 9 by decide] at he3
  have h23 := (congrFun he3 (a + 23)).trans (st_same _ _ _)
  have w_Q23 := gQ_step (x := a + 146) w_Q23 (by omega)
  have w_C23 : gC (sQ W23 0 9 (some (a + 146))) = 29 := w_C23
  have w_N23 : gN (sQ W23 0 9 (some (a + 146))) 0 = 17 := w_N23
  obtain ⟨W23_3, eW⟩ : ∃ y, sQ W23 0 9 (some (a + 146)) = y := ⟨_, rfl⟩
  rw [eW] at h23 w_Q23 w_C23 w_N23 he3
  clear eW
  refine ex_ck (decide_eq_true (by rw [h0]; exact f_C)) ?_
  refine ex_bd (x := a + 23) (by rw [h0]; exact f_R4) ?_
  refine ex_nm (fun S150 he4 => ?_)
  have h0 := (st_at he4 (off_ne0 (j := 153) (by decide))).trans h0
  have h23 := (st_at he4 (off_ne (i := 23) (j := 153) (by decide))).trans h23
  obtain ⟨S151, e1, e2, he5⟩ := i_X3 (fu := fu) (G := G) (S := S150) (a := a + 153) (by rw [he4, st_same]; rfl)
  refine ex_bd e1 ?_
  have h0 : S151 a = V0 := (sub_at (k := 153) (n := 7) (j := 0) he5 (by decide)).trans h0
  have h23 := (sub_at (k := 153) (n := 7) (j := 23) he5 (by decide)).trans h23
  have p153 : gC (S151 (a + 153)) = 3 ∧ CHL (S151 (a + 153)) (q00, lk0) := e2
  refine ex_ck (decide_eq_true (by rw [h23]; exact w_C23)) ?_
  refine ex_ck (decide_eq_true p153.1) ?_
  refine ex_ck (by rw [h23, w_N23]; decide) ?_
  refine ex_nm (fun S152 he6 => ?_)
  have h0 := (st_at he6 (off_ne0 (j := 23) (by decide))).trans h0
  rw [h23, show (10 : Int32).toNatClampNeg = 10 by decide] at he6
  have h23 := (congrFun he6 (a + 23)).trans (st_same _ _ _)
  have w_Q23 := gQ_step (x := a + 153) w_Q23 (by omega)
  have w_C23 : gC (sQ W23_3 0 10 (some (a + 153))) = 29 := w_C23
  have w_N23 : gN (sQ W23_3 0 10 (some (a + 153))) 0 = 17 := w_N23
  obtain ⟨W23_6, eW⟩ : ∃ y, sQ W23_3 0 10 (some (a + 153)) = y := ⟨_, rfl⟩
  rw [eW] at h23 w_Q23 w_C23 w_N23 he6
  clear eW
  refine nx S152 ⟨?_, ?_, ?_, ?_, ?_, ?_, ?_, ?_, ?_, ?_, ?_, ?_, ?_, ?_, ?_, ?_, ?_, ?_, ?_, ?_, ?_, ?_, ?_, ?_, ?_, ?_, ?_, ?_, ?_, ?_, ?_, ?_, ?_, ?_, ?_, ?_, ?_, ?_, ?_, ?_, ?_, ?_, ?_, ?_, ?_, ?_, ?_, ?_, ?_, ?_, ?_, ?_, ?_, ?_⟩
  · rw [h0]; exact f_C
  · rw [show S152 (a + 1) = S (a + 1) from by rw [he6, st_ne _ _ (off_ne (i := 1) (j := 23) (by decide)), he5 _ (off_out (j := 1) (k := 153) (n := 7) (by decide)), he4, st_ne _ _ (off_ne (i := 1) (j := 153) (by decide)), he3, st_ne _ _ (off_ne (i := 1) (j := 23) (by decide)), he2 _ (off_out (j := 1) (k := 146) (n := 7) (by decide)), he1, st_ne _ _ (off_ne (i := 1) (j := 146) (by decide))]]; exact f_P1
  · rw [h0]; exact f_R0
  · rw [show S152 (a + 6) = S (a + 6) from by rw [he6, st_ne _ _ (off_ne (i := 6) (j := 23) (by decide)), he5 _ (off_out (j := 6) (k := 153) (n := 7) (by decide)), he4, st_ne _ _ (off_ne (i := 6) (j := 153) (by decide)), he3, st_ne _ _ (off_ne (i := 6) (j := 23) (by decide)), he2 _ (off_out (j := 6) (k := 146) (n := 7) (by decide)), he1, st_ne _ _ (off_ne (i := 6) (j := 146) (by decide))]]; exact f_P6
  · rw [show S152 (a + 7) = S (a + 7) from by rw [he6, st_ne _ _ (off_ne (i := 7) (j := 23) (by decide)), he5 _ (off_out (j := 7) (k := 153) (n := 7) (by decide)), he4, st_ne _ _ (off_ne (i := 7) (j := 153) (by decide)), he3, st_ne _ _ (off_ne (i := 7) (j := 23) (by decide)), he2 _ (off_out (j := 7) (k := 146) (n := 7) (by decide)), he1, st_ne _ _ (off_ne (i := 7) (j := 146) (by decide))]]; exact f_P7
  · rw [h0]; exact f_R1
  · rw [show S152 (a + 9) = S (a + 9) from by rw [he6, st_ne _ _ (off_ne (i := 9) (j := 23) (by decide)), he5 _ (off_out (j := 9) (k := 153) (n := 7) (by decide)), he4, st_ne _ _ (off_ne (i := 9) (j := 153) (by decide)), he3, st_ne _ _ (off_ne (i := 9) (j := 23) (by decide)), he2 _ (off_out (j := 9) (k := 146) (n := 7) (by decide)), he1, st_ne _ _ (off_ne (i := 9) (j := 146) (by decide))]]; exact f_P9
  · rw [h0]; exact f_R2
  · rw [show S152 (a + 16) = S (a + 16) from by rw [he6, st_ne _ _ (off_ne (i := 16) (j := 23) (by decide)), he5 _ (off_out (j := 16) (k := 153) (n := 7) (by decide)), he4, st_ne _ _ (off_ne (i := 16) (j := 153) (by decide)), he3, st_ne _ _ (off_ne (i := 16) (j := 23) (by decide)), he2 _ (off_out (j := 16) (k := 146) (n := 7) (by decide)), he1, st_ne _ _ (off_ne (i := 16) (j := 146) (by decide))]]; exact f_P16
  · rw [h0]; exact f_R3
  · rw [h0]; exact f_R4
  · rw [h0]; exact f_R5
  · rw [show S152 (a + 25) = S (a + 25) from by rw [he6, st_ne _ _ (off_ne (i := 25) (j := 23) (by decide)), he5 _ (off_out (j := 25) (k := 153) (n := 7) (by decide)), he4, st_ne _ _ (off_ne (i := 25) (j := 153) (by decide)), he3, st_ne _ _ (off_ne (i := 25) (j := 23) (by decide)), he2 _ (off_out (j := 25) (k := 146) (n := 7) (by decide)), he1, st_ne _ _ (off_ne (i := 25) (j := 146) (by decide))]]; exact f_P25
  · rw [h0]; exact f_R6
  · rw [h23]; exact w_C23
  · rw [h23]; exact w_N23
  · rw [show S152 (a + 24) = S (a + 24) from by rw [he6, st_ne _ _ (off_ne (i := 24) (j := 23) (by decide)), he5 _ (off_out (j := 24) (k := 153) (n := 7) (by decide)), he4, st_ne _ _ (off_ne (i := 24) (j := 153) (by decide)), he3, st_ne _ _ (off_ne (i := 24) (j := 23) (by decide)), he2 _ (off_out (j := 24) (k := 146) (n := 7) (by decide)), he1, st_ne _ _ (off_ne (i := 24) (j := 146) (by decide))]]; exact f_C24
  · rw [show S152 (a + 24) = S (a + 24) from by rw [he6, st_ne _ _ (off_ne (i := 24) (j := 23) (by decide)), he5 _ (off_out (j := 24) (k := 153) (n := 7) (by decide)), he4, st_ne _ _ (off_ne (i := 24) (j := 153) (by decide)), he3, st_ne _ _ (off_ne (i := 24) (j := 23) (by decide)), he2 _ (off_out (j := 24) (k := 146) (n := 7) (by decide)), he1, st_ne _ _ (off_ne (i := 24) (j := 146) (by decide))]]; exact f_N24
  · rw [show S152 (a + 29) = S (a + 29) from by rw [he6, st_ne _ _ (off_ne (i := 29) (j := 23) (by decide)), he5 _ (off_out (j := 29) (k := 153) (n := 7) (by decide)), he4, st_ne _ _ (off_ne (i := 29) (j := 153) (by decide)), he3, st_ne _ _ (off_ne (i := 29) (j := 23) (by decide)), he2 _ (off_out (j := 29) (k := 146) (n := 7) (by decide)), he1, st_ne _ _ (off_ne (i := 29) (j := 146) (by decide))]]; exact f_P29
  · rw [h0]; exact f_R7
  · rw [show S152 (a + 32) = S (a + 32) from by rw [he6, st_ne _ _ (off_ne (i := 32) (j := 23) (by decide)), he5 _ (off_out (j := 32) (k := 153) (n := 7) (by decide)), he4, st_ne _ _ (off_ne (i := 32) (j := 153) (by decide)), he3, st_ne _ _ (off_ne (i := 32) (j := 23) (by decide)), he2 _ (off_out (j := 32) (k := 146) (n := 7) (by decide)), he1, st_ne _ _ (off_ne (i := 32) (j := 146) (by decide))]]; exact f_P32
  · rw [show S152 (a + 33) = S (a + 33) from by rw [he6, st_ne _ _ (off_ne (i := 33) (j := 23) (by decide)), he5 _ (off_out (j := 33) (k := 153) (n := 7) (by decide)), he4, st_ne _ _ (off_ne (i := 33) (j := 153) (by decide)), he3, st_ne _ _ (off_ne (i := 33) (j := 23) (by decide)), he2 _ (off_out (j := 33) (k := 146) (n := 7) (by decide)), he1, st_ne _ _ (off_ne (i := 33) (j := 146) (by decide))]]; exact f_P33
  · rw [h0]; exact f_R8
  · rw [show S152 (a + 40) = S (a + 40) from by rw [he6, st_ne _ _ (off_ne (i := 40) (j := 23) (by decide)), he5 _ (off_out (j := 40) (k := 153) (n := 7) (by decide)), he4, st_ne _ _ (off_ne (i := 40) (j := 153) (by decide)), he3, st_ne _ _ (off_ne (i := 40) (j := 23) (by decide)), he2 _ (off_out (j := 40) (k := 146) (n := 7) (by decide)), he1, st_ne _ _ (off_ne (i := 40) (j := 146) (by decide))]]; exact f_A40
  · rw [h0]; exact f_R9
  · rw [show S152 (a + 41) = S (a + 41) from by rw [he6, st_ne _ _ (off_ne (i := 41) (j := 23) (by decide)), he5 _ (off_out (j := 41) (k := 153) (n := 7) (by decide)), he4, st_ne _ _ (off_ne (i := 41) (j := 153) (by decide)), he3, st_ne _ _ (off_ne (i := 41) (j := 23) (by decide)), he2 _ (off_out (j := 41) (k := 146) (n := 7) (by decide)), he1, st_ne _ _ (off_ne (i := 41) (j := 146) (by decide))]]; exact f_A41
  · rw [h0]; exact f_R10
  · rw [show S152 (a + 42) = S (a + 42) from by rw [he6, st_ne _ _ (off_ne (i := 42) (j := 23) (by decide)), he5 _ (off_out (j := 42) (k := 153) (n := 7) (by decide)), he4, st_ne _ _ (off_ne (i := 42) (j := 153) (by decide)), he3, st_ne _ _ (off_ne (i := 42) (j := 23) (by decide)), he2 _ (off_out (j := 42) (k := 146) (n := 7) (by decide)), he1, st_ne _ _ (off_ne (i := 42) (j := 146) (by decide))]]; exact f_A42
  · rw [h0]; exact f_R11
  · rw [show S152 (a + 43) = S (a + 43) from by rw [he6, st_ne _ _ (off_ne (i := 43) (j := 23) (by decide)), he5 _ (off_out (j := 43) (k := 153) (n := 7) (by decide)), he4, st_ne _ _ (off_ne (i := 43) (j := 153) (by decide)), he3, st_ne _ _ (off_ne (i := 43) (j := 23) (by decide)), he2 _ (off_out (j := 43) (k := 146) (n := 7) (by decide)), he1, st_ne _ _ (off_ne (i := 43) (j := 146) (by decide))]]; exact f_P43
  · rw [show S152 (a + 51) = S (a + 51) from by rw [he6, st_ne _ _ (off_ne (i := 51) (j := 23) (by decide)), he5 _ (off_out (j := 51) (k := 153) (n := 7) (by decide)), he4, st_ne _ _ (off_ne (i := 51) (j := 153) (by decide)), he3, st_ne _ _ (off_ne (i := 51) (j := 23) (by decide)), he2 _ (off_out (j := 51) (k := 146) (n := 7) (by decide)), he1, st_ne _ _ (off_ne (i := 51) (j := 146) (by decide))]]; exact f_P51
  · rw [h0]; exact f_R12
  · rw [show S152 (a + 58) = S (a + 58) from by rw [he6, st_ne _ _ (off_ne (i := 58) (j := 23) (by decide)), he5 _ (off_out (j := 58) (k := 153) (n := 7) (by decide)), he4, st_ne _ _ (off_ne (i := 58) (j := 153) (by decide)), he3, st_ne _ _ (off_ne (i := 58) (j := 23) (by decide)), he2 _ (off_out (j := 58) (k := 146) (n := 7) (by decide)), he1, st_ne _ _ (off_ne (i := 58) (j := 146) (by decide))]]; exact f_P58
  · rw [show S152 (a + 66) = S (a + 66) from by rw [he6, st_ne _ _ (off_ne (i := 66) (j := 23) (by decide)), he5 _ (off_out (j := 66) (k := 153) (n := 7) (by decide)), he4, st_ne _ _ (off_ne (i := 66) (j := 153) (by decide)), he3, st_ne _ _ (off_ne (i := 66) (j := 23) (by decide)), he2 _ (off_out (j := 66) (k := 146) (n := 7) (by decide)), he1, st_ne _ _ (off_ne (i := 66) (j := 146) (by decide))]]; exact f_P66
  · rw [h0]; exact f_R13
  · rw [show S152 (a + 73) = S (a + 73) from by rw [he6, st_ne _ _ (off_ne (i := 73) (j := 23) (by decide)), he5 _ (off_out (j := 73) (k := 153) (n := 7) (by decide)), he4, st_ne _ _ (off_ne (i := 73) (j := 153) (by decide)), he3, st_ne _ _ (off_ne (i := 73) (j := 23) (by decide)), he2 _ (off_out (j := 73) (k := 146) (n := 7) (by decide)), he1, st_ne _ _ (off_ne (i := 73) (j := 146) (by decide))]]; exact f_P73
  · rw [h0]; exact f_R14
  · rw [show S152 (a + 78) = S (a + 78) from by rw [he6, st_ne _ _ (off_ne (i := 78) (j := 23) (by decide)), he5 _ (off_out (j := 78) (k := 153) (n := 7) (by decide)), he4, st_ne _ _ (off_ne (i := 78) (j := 153) (by decide)), he3, st_ne _ _ (off_ne (i := 78) (j := 23) (by decide)), he2 _ (off_out (j := 78) (k := 146) (n := 7) (by decide)), he1, st_ne _ _ (off_ne (i := 78) (j := 146) (by decide))]]; exact f_P78
  · rw [h0]; exact f_R15
  · rw [h0]; exact f_I16
  · rw [h0]; exact f_I17
  · rw [h0]; exact f_I18
  · rw [show S152 (a + 83) = S (a + 83) from by rw [he6, st_ne _ _ (off_ne (i := 83) (j := 23) (by decide)), he5 _ (off_out (j := 83) (k := 153) (n := 7) (by decide)), he4, st_ne _ _ (off_ne (i := 83) (j := 153) (by decide)), he3, st_ne _ _ (off_ne (i := 83) (j := 23) (by decide)), he2 _ (off_out (j := 83) (k := 146) (n := 7) (by decide)), he1, st_ne _ _ (off_ne (i := 83) (j := 146) (by decide))]]; exact f_P83
  · rw [h23]; exact w_Q23
  · rw [show S152 (a + 90) = S (a + 90) from by rw [he6, st_ne _ _ (off_ne (i := 90) (j := 23) (by decide)), he5 _ (off_out (j := 90) (k := 153) (n := 7) (by decide)), he4, st_ne _ _ (off_ne (i := 90) (j := 153) (by decide)), he3, st_ne _ _ (off_ne (i := 90) (j := 23) (by decide)), he2 _ (off_out (j := 90) (k := 146) (n := 7) (by decide)), he1, st_ne _ _ (off_ne (i := 90) (j := 146) (by decide))]]; exact f_P90
  · rw [show S152 (a + 97) = S (a + 97) from by rw [he6, st_ne _ _ (off_ne (i := 97) (j := 23) (by decide)), he5 _ (off_out (j := 97) (k := 153) (n := 7) (by decide)), he4, st_ne _ _ (off_ne (i := 97) (j := 153) (by decide)), he3, st_ne _ _ (off_ne (i := 97) (j := 23) (by decide)), he2 _ (off_out (j := 97) (k := 146) (n := 7) (by decide)), he1, st_ne _ _ (off_ne (i := 97) (j := 146) (by decide))]]; exact f_P97
  · rw [show S152 (a + 104) = S (a + 104) from by rw [he6, st_ne _ _ (off_ne (i := 104) (j := 23) (by decide)), he5 _ (off_out (j := 104) (k := 153) (n := 7) (by decide)), he4, st_ne _ _ (off_ne (i := 104) (j := 153) (by decide)), he3, st_ne _ _ (off_ne (i := 104) (j := 23) (by decide)), he2 _ (off_out (j := 104) (k := 146) (n := 7) (by decide)), he1, st_ne _ _ (off_ne (i := 104) (j := 146) (by decide))]]; exact f_P104
  · rw [show S152 (a + 111) = S (a + 111) from by rw [he6, st_ne _ _ (off_ne (i := 111) (j := 23) (by decide)), he5 _ (off_out (j := 111) (k := 153) (n := 7) (by decide)), he4, st_ne _ _ (off_ne (i := 111) (j := 153) (by decide)), he3, st_ne _ _ (off_ne (i := 111) (j := 23) (by decide)), he2 _ (off_out (j := 111) (k := 146) (n := 7) (by decide)), he1, st_ne _ _ (off_ne (i := 111) (j := 146) (by decide))]]; exact f_P111
  · rw [show S152 (a + 118) = S (a + 118) from by rw [he6, st_ne _ _ (off_ne (i := 118) (j := 23) (by decide)), he5 _ (off_out (j := 118) (k := 153) (n := 7) (by decide)), he4, st_ne _ _ (off_ne (i := 118) (j := 153) (by decide)), he3, st_ne _ _ (off_ne (i := 118) (j := 23) (by decide)), he2 _ (off_out (j := 118) (k := 146) (n := 7) (by decide)), he1, st_ne _ _ (off_ne (i := 118) (j := 146) (by decide))]]; exact f_P118
  · rw [show S152 (a + 125) = S (a + 125) from by rw [he6, st_ne _ _ (off_ne (i := 125) (j := 23) (by decide)), he5 _ (off_out (j := 125) (k := 153) (n := 7) (by decide)), he4, st_ne _ _ (off_ne (i := 125) (j := 153) (by decide)), he3, st_ne _ _ (off_ne (i := 125) (j := 23) (by decide)), he2 _ (off_out (j := 125) (k := 146) (n := 7) (by decide)), he1, st_ne _ _ (off_ne (i := 125) (j := 146) (by decide))]]; exact f_P125
  · rw [show S152 (a + 132) = S (a + 132) from by rw [he6, st_ne _ _ (off_ne (i := 132) (j := 23) (by decide)), he5 _ (off_out (j := 132) (k := 153) (n := 7) (by decide)), he4, st_ne _ _ (off_ne (i := 132) (j := 153) (by decide)), he3, st_ne _ _ (off_ne (i := 132) (j := 23) (by decide)), he2 _ (off_out (j := 132) (k := 146) (n := 7) (by decide)), he1, st_ne _ _ (off_ne (i := 132) (j := 146) (by decide))]]; exact f_P132
  · rw [show S152 (a + 139) = S (a + 139) from by rw [he6, st_ne _ _ (off_ne (i := 139) (j := 23) (by decide)), he5 _ (off_out (j := 139) (k := 153) (n := 7) (by decide)), he4, st_ne _ _ (off_ne (i := 139) (j := 153) (by decide)), he3, st_ne _ _ (off_ne (i := 139) (j := 23) (by decide)), he2 _ (off_out (j := 139) (k := 146) (n := 7) (by decide)), he1, st_ne _ _ (off_ne (i := 139) (j := 146) (by decide))]]; exact f_P139
  · rw [show S152 (a + 146) = S143 (a + 146) from by rw [he6, st_ne _ _ (off_ne (i := 146) (j := 23) (by decide)), he5 _ (off_out (j := 146) (k := 153) (n := 7) (by decide)), he4, st_ne _ _ (off_ne (i := 146) (j := 153) (by decide)), he3, st_ne _ _ (off_ne (i := 146) (j := 23) (by decide))]]; exact p146
  · rw [show S152 (a + 153) = S151 (a + 153) from by rw [he6, st_ne _ _ (off_ne (i := 153) (j := 23) (by decide))]]; exact p153
set_option maxHeartbeats 4000000 in
theorem sg12_10 {fu : Nat} {G : GG} {S : ST} {a : Nat} {P : ST → Prop} (hJ : J12_10 a S) (nx : ∀ S', J12_11 a S' → ∃ z, f_X12_init_g11 fu G S' a = some z ∧ P z) : ∃ z, f_X12_init_g10 fu G S a = some z ∧ P z := by
  obtain ⟨f_C, f_P1, f_R0, f_P6, f_P7, f_R1, f_P9, f_R2, f_P16, f_R3, f_R4, f_R5, f_P25, f_R6, f_C23, f_N23, f_C24, f_N24, f_P29, f_R7, f_P32, f_P33, f_R8, f_A40, f_R9, f_A41, f_R10, f_A42, f_R11, f_P43, f_P51, f_R12, f_P58, f_P66, f_R13, f_P73, f_R14, f_P78, f_R15, f_I16, f_I17, f_I18, f_P83, f_Q23, f_P90, f_P97, f_P104, f_P111, f_P118, f_P125, f_P132, f_P139, f_P146, f_P153⟩ := hJ
  unfold f_X12_init_g10
  obtain ⟨V0, h0⟩ : ∃ y, S a = y := ⟨_, rfl⟩
  rw [h0] at f_C f_R0 f_R1 f_R2 f_R3 f_R4 f_R5 f_R6 f_R7 f_R8 f_R9 f_R10 f_R11 f_R12 f_R13 f_R14 f_R15 f_I16 f_I17 f_I18
  refine ex_ck (decide_eq_true (by rw [h0]; exact f_C)) ?_
  refine ex_bd (x := a + 23) (by rw [h0]; exact f_R4) ?_
  refine ex_nm (fun S158 he1 => ?_)
  have h0 := (st_at he1 (off_ne0 (j := 160) (by decide))).trans h0
  obtain ⟨S159, e1, e2, he2⟩ := i_X3 (fu := fu) (G := G) (S := S158) (a := a + 160) (by rw [he1, st_same]; rfl)
  refine ex_bd e1 ?_
  have h0 : S159 a = V0 := (sub_at (k := 160) (n := 7) (j := 0) he2 (by decide)).trans h0
  have p160 : gC (S159 (a + 160)) = 3 ∧ CHL (S159 (a + 160)) (q00, lk0) := e2
  obtain ⟨W23, h23⟩ : ∃ y, S159 (a + 23) = y := ⟨_, rfl⟩
  have w_C23 := f_C23
  rw [← (show S159 (a + 23) = S (a + 23) from by rw [he2 _ (off_out (j := 23) (k := 160) (n := 7) (by decide)), he1, st_ne _ _ (off_ne (i := 23) (j := 160) (by decide))]), h23] at w_C23
  have w_N23 := f_N23
  rw [← (show S159 (a + 23) = S (a + 23) from by rw [he2 _ (off_out (j := 23) (k := 160) (n := 7) (by decide)), he1, st_ne _ _ (off_ne (i := 23) (j := 160) (by decide))]), h23] at w_N23
  have w_Q23 := f_Q23
  rw [← (show S159 (a + 23) = S (a + 23) from by rw [he2 _ (off_out (j := 23) (k := 160) (n := 7) (by decide)), he1, st_ne _ _ (off_ne (i := 23) (j := 160) (by decide))]), h23] at w_Q23
  refine ex_ck (decide_eq_true (by rw [h23]; exact w_C23)) ?_
  refine ex_ck (decide_eq_true p160.1) ?_
  refine ex_ck (by rw [h23, w_N23]; decide) ?_
  refine ex_nm (fun S160 he3 => ?_)
  have h0 := (st_at he3 (off_ne0 (j := 23) (by decide))).trans h0
  rw [h23, show (11 : Int32).toNatClampNeg = 11 by decide] at he3
  have h23 := (congrFun he3 (a + 23)).trans (st_same _ _ _)
  have w_Q23 := gQ_step (x := a + 160) w_Q23 (by omega)
  have w_C23 : gC (sQ W23 0 11 (some (a + 160))) = 29 := w_C23
  have w_N23 : gN (sQ W23 0 11 (some (a + 160))) 0 = 17 := w_N23
  obtain ⟨W23_3, eW⟩ : ∃ y, sQ W23 0 11 (some (a + 160)) = y := ⟨_, rfl⟩
  rw [eW] at h23 w_Q23 w_C23 w_N23 he3
  clear eW
  refine ex_ck (decide_eq_true (by rw [h0]; exact f_C)) ?_
  refine ex_bd (x := a + 23) (by rw [h0]; exact f_R4) ?_
  refine ex_nm (fun S166 he4 => ?_)
  have h0 := (st_at he4 (off_ne0 (j := 167) (by decide))).trans h0
  have h23 := (st_at he4 (off_ne (i := 23) (j := 167) (by decide))).trans h23
  obtain ⟨S167, e1, e2, he5⟩ := i_X3 (fu := fu) (G := G) (S := S166) (a := a + 167) (by rw [he4, st_same]; rfl)
  refine ex_bd e1 ?_
  have h0 : S167 a = V0 := (sub_at (k := 167) (n := 7) (j := 0) he5 (by decide)).trans h0
  have h23 := (sub_at (k := 167) (n := 7) (j := 23) he5 (by decide)).trans h23
  have p167 : gC (S167 (a + 167)) = 3 ∧ CHL (S167 (a + 167)) (q00, lk0) := e2
  refine ex_ck (decide_eq_true (by rw [h23]; exact w_C23)) ?_
  refine ex_ck (decide_eq_true p167.1) ?_
  refine ex_ck (by rw [h23, w_N23]; decide) ?_
  refine ex_nm (fun S168 he6 => ?_)
  have h0 := (st_at he6 (off_ne0 (j := 23) (by decide))).trans h0
  rw [h23, show (12 : Int32).toNatClampNeg = 12 by decide] at he6
  have h23 := (congrFun he6 (a + 23)).trans (st_same _ _ _)
  have w_Q23 := gQ_step (x := a + 167) w_Q23 (by omega)
  have w_C23 : gC (sQ W23_3 0 12 (some (a + 167))) = 29 := w_C23
  have w_N23 : gN (sQ W23_3 0 12 (some (a + 167))) 0 = 17 := w_N23
  obtain ⟨W23_6, eW⟩ : ∃ y, sQ W23_3 0 12 (some (a + 167)) = y := ⟨_, rfl⟩
  rw [eW] at h23 w_Q23 w_C23 w_N23 he6
  clear eW
  refine nx S168 ⟨?_, ?_, ?_, ?_, ?_, ?_, ?_, ?_, ?_, ?_, ?_, ?_, ?_, ?_, ?_, ?_, ?_, ?_, ?_, ?_, ?_, ?_, ?_, ?_, ?_, ?_, ?_, ?_, ?_, ?_, ?_, ?_, ?_, ?_, ?_, ?_, ?_, ?_, ?_, ?_, ?_, ?_, ?_, ?_, ?_, ?_, ?_, ?_, ?_, ?_, ?_, ?_, ?_, ?_, ?_, ?_⟩
  · rw [h0]; exact f_C
  · rw [show S168 (a + 1) = S (a + 1) from by rw [he6, st_ne _ _ (off_ne (i := 1) (j := 23) (by decide)), he5 _ (off_out (j := 1) (k := 167) (n := 7) (by decide)), he4, st_ne _ _ (off_ne (i := 1) (j := 167) (by decide)), he3, st_ne _ _ (off_ne (i := 1) (j := 23) (by decide)), he2 _ (off_out (j := 1) (k := 160) (n := 7) (by decide)), he1, st_ne _ _ (off_ne (i := 1) (j := 160) (by decide))]]; exact f_P1
  · rw [h0]; exact f_R0
  · rw [show S168 (a + 6) = S (a + 6) from by rw [he6, st_ne _ _ (off_ne (i := 6) (j := 23) (by decide)), he5 _ (off_out (j := 6) (k := 167) (n := 7) (by decide)), he4, st_ne _ _ (off_ne (i := 6) (j := 167) (by decide)), he3, st_ne _ _ (off_ne (i := 6) (j := 23) (by decide)), he2 _ (off_out (j := 6) (k := 160) (n := 7) (by decide)), he1, st_ne _ _ (off_ne (i := 6) (j := 160) (by decide))]]; exact f_P6
  · rw [show S168 (a + 7) = S (a + 7) from by rw [he6, st_ne _ _ (off_ne (i := 7) (j := 23) (by decide)), he5 _ (off_out (j := 7) (k := 167) (n := 7) (by decide)), he4, st_ne _ _ (off_ne (i := 7) (j := 167) (by decide)), he3, st_ne _ _ (off_ne (i := 7) (j := 23) (by decide)), he2 _ (off_out (j := 7) (k := 160) (n := 7) (by decide)), he1, st_ne _ _ (off_ne (i := 7) (j := 160) (by decide))]]; exact f_P7
  · rw [h0]; exact f_R1
  · rw [show S168 (a + 9) = S (a + 9) from by rw [he6, st_ne _ _ (off_ne (i := 9) (j := 23) (by decide)), he5 _ (off_out (j := 9) (k := 167) (n := 7) (by decide)), he4, st_ne _ _ (off_ne (i := 9) (j := 167) (by decide)), he3, st_ne _ _ (off_ne (i := 9) (j := 23) (by decide)), he2 _ (off_out (j := 9) (k := 160) (n := 7) (by decide)), he1, st_ne _ _ (off_ne (i := 9) (j := 160) (by decide))]]; exact f_P9
  · rw [h0]; exact f_R2
  · rw [show S168 (a + 16) = S (a + 16) from by rw [he6, st_ne _ _ (off_ne (i := 16) (j := 23) (by decide)), he5 _ (off_out (j := 16) (k := 167) (n := 7) (by decide)), he4, st_ne _ _ (off_ne (i := 16) (j := 167) (by decide)), he3, st_ne _ _ (off_ne (i := 16) (j := 23) (by decide)), he2 _ (off_out (j := 16) (k := 160) (n := 7) (by decide)), he1, st_ne _ _ (off_ne (i := 16) (j := 160) (by decide))]]; exact f_P16
  · rw [h0]; exact f_R3
  · rw [h0]; exact f_R4
  · rw [h0]; exact f_R5
  · rw [show S168 (a + 25) = S (a + 25) from by rw [he6, st_ne _ _ (off_ne (i := 25) (j := 23) (by decide)), he5 _ (off_out (j := 25) (k := 167) (n := 7) (by decide)), he4, st_ne _ _ (off_ne (i := 25) (j := 167) (by decide)), he3, st_ne _ _ (off_ne (i := 25) (j := 23) (by decide)), he2 _ (off_out (j := 25) (k := 160) (n := 7) (by decide)), he1, st_ne _ _ (off_ne (i := 25) (j := 160) (by decide))]]; exact f_P25
  · rw [h0]; exact f_R6
  · rw [h23]; exact w_C23
  · rw [h23]; exact w_N23
  · rw [show S168 (a + 24) = S (a + 24) from by rw [he6, st_ne _ _ (off_ne (i := 24) (j := 23) (by decide)), he5 _ (off_out (j := 24) (k := 167) (n := 7) (by decide)), he4, st_ne _ _ (off_ne (i := 24) (j := 167) (by decide)), he3, st_ne _ _ (off_ne (i := 24) (j := 23) (by decide)), he2 _ (off_out (j := 24) (k := 160) (n := 7) (by decide)), he1, st_ne _ _ (off_ne (i := 24) (j := 160) (by decide))]]; exact f_C24
  · rw [show S168 (a + 24) = S (a + 24) from by rw [he6, st_ne _ _ (off_ne (i := 24) (j := 23) (by decide)), he5 _ (off_out (j := 24) (k := 167) (n := 7) (by decide)), he4, st_ne _ _ (off_ne (i := 24) (j := 167) (by decide)), he3, st_ne _ _ (off_ne (i := 24) (j := 23) (by decide)), he2 _ (off_out (j := 24) (k := 160) (n := 7) (by decide)), he1, st_ne _ _ (off_ne (i := 24) (j := 160) (by decide))]]; exact f_N24
  · rw [show S168 (a + 29) = S (a + 29) from by rw [he6, st_ne _ _ (off_ne (i := 29) (j := 23) (by decide)), he5 _ (off_out (j := 29) (k := 167) (n := 7) (by decide)), he4, st_ne _ _ (off_ne (i := 29) (j := 167) (by decide)), he3, st_ne _ _ (off_ne (i := 29) (j := 23) (by decide)), he2 _ (off_out (j := 29) (k := 160) (n := 7) (by decide)), he1, st_ne _ _ (off_ne (i := 29) (j := 160) (by decide))]]; exact f_P29
  · rw [h0]; exact f_R7
  · rw [show S168 (a + 32) = S (a + 32) from by rw [he6, st_ne _ _ (off_ne (i := 32) (j := 23) (by decide)), he5 _ (off_out (j := 32) (k := 167) (n := 7) (by decide)), he4, st_ne _ _ (off_ne (i := 32) (j := 167) (by decide)), he3, st_ne _ _ (off_ne (i := 32) (j := 23) (by decide)), he2 _ (off_out (j := 32) (k := 160) (n := 7) (by decide)), he1, st_ne _ _ (off_ne (i := 32) (j := 160) (by decide))]]; exact f_P32
  · rw [show S168 (a + 33) = S (a + 33) from by rw [he6, st_ne _ _ (off_ne (i := 33) (j := 23) (by decide)), he5 _ (off_out (j := 33) (k := 167) (n := 7) (by decide)), he4, st_ne _ _ (off_ne (i := 33) (j := 167) (by decide)), he3, st_ne _ _ (off_ne (i := 33) (j := 23) (by decide)), he2 _ (off_out (j := 33) (k := 160) (n := 7) (by decide)), he1, st_ne _ _ (off_ne (i := 33) (j := 160) (by decide))]]; exact f_P33
  · rw [h0]; exact f_R8
  · rw [show S168 (a + 40) = S (a + 40) from by rw [he6, st_ne _ _ (off_ne (i := 40) (j := 23) (by decide)), he5 _ (off_out (j := 40) (k := 167) (n := 7) (by decide)), he4, st_ne _ _ (off_ne (i := 40) (j := 167) (by decide)), he3, st_ne _ _ (off_ne (i := 40) (j := 23) (by decide)), he2 _ (off_out (j := 40) (k := 160) (n := 7) (by decide)), he1, st_ne _ _ (off_ne (i := 40) (j := 160) (by decide))]]; exact f_A40
  · rw [h0]; exact f_R9
  · rw [show S168 (a + 41) = S (a + 41) from by rw [he6, st_ne _ _ (off_ne (i := 41) (j := 23) (by decide)), he5 _ (off_out (j := 41) (k := 167) (n := 7) (by decide)), he4, st_ne _ _ (off_ne (i := 41) (j := 167) (by decide)), he3, st_ne _ _ (off_ne (i := 41) (j := 23) (by decide)), he2 _ (off_out (j := 41) (k := 160) (n := 7) (by decide)), he1, st_ne _ _ (off_ne (i := 41) (j := 160) (by decide))]]; exact f_A41
  · rw [h0]; exact f_R10
  · rw [show S168 (a + 42) = S (a + 42) from by rw [he6, st_ne _ _ (off_ne (i := 42) (j := 23) (by decide)), he5 _ (off_out (j := 42) (k := 167) (n := 7) (by decide)), he4, st_ne _ _ (off_ne (i := 42) (j := 167) (by decide)), he3, st_ne _ _ (off_ne (i := 42) (j := 23) (by decide)), he2 _ (off_out (j := 42) (k := 160) (n := 7) (by decide)), he1, st_ne _ _ (off_ne (i := 42) (j := 160) (by decide))]]; exact f_A42
  · rw [h0]; exact f_R11
  · rw [show S168 (a + 43) = S (a + 43) from by rw [he6, st_ne _ _ (off_ne (i := 43) (j := 23) (by decide)), he5 _ (off_out (j := 43) (k := 167) (n := 7) (by decide)), he4, st_ne _ _ (off_ne (i := 43) (j := 167) (by decide)), he3, st_ne _ _ (off_ne (i := 43) (j := 23) (by decide)), he2 _ (off_out (j := 43) (k := 160) (n := 7) (by decide)), he1, st_ne _ _ (off_ne (i := 43) (j := 160) (by decide))]]; exact f_P43
  · rw [show S168 (a + 51) = S (a + 51) from by rw [he6, st_ne _ _ (off_ne (i := 51) (j := 23) (by decide)), he5 _ (off_out (j := 51) (k := 167) (n := 7) (by decide)), he4, st_ne _ _ (off_ne (i := 51) (j := 167) (by decide)), he3, st_ne _ _ (off_ne (i := 51) (j := 23) (by decide)), he2 _ (off_out (j := 51) (k := 160) (n := 7) (by decide)), he1, st_ne _ _ (off_ne (i := 51) (j := 160) (by decide))]]; exact f_P51
  · rw [h0]; exact f_R12
  · rw [show S168 (a + 58) = S (a + 58) from by rw [he6, st_ne _ _ (off_ne (i := 58) (j := 23) (by decide)), he5 _ (off_out (j := 58) (k := 167) (n := 7) (by decide)), he4, st_ne _ _ (off_ne (i := 58) (j := 167) (by decide)), he3, st_ne _ _ (off_ne (i := 58) (j := 23) (by decide)), he2 _ (off_out (j := 58) (k := 160) (n := 7) (by decide)), he1, st_ne _ _ (off_ne (i := 58) (j := 160) (by decide))]]; exact f_P58
  · rw [show S168 (a + 66) = S (a + 66) from by rw [he6, st_ne _ _ (off_ne (i := 66) (j := 23) (by decide)), he5 _ (off_out (j := 66) (k := 167) (n := 7) (by decide)), he4, st_ne _ _ (off_ne (i := 66) (j := 167) (by decide)), he3, st_ne _ _ (off_ne (i := 66) (j := 23) (by decide)), he2 _ (off_out (j := 66) (k := 160) (n := 7) (by decide)), he1, st_ne _ _ (off_ne (i := 66) (j := 160) (by decide))]]; exact f_P66
  · rw [h0]; exact f_R13
  · rw [show S168 (a + 73) = S (a + 73) from by rw [he6, st_ne _ _ (off_ne (i := 73) (j := 23) (by decide)), he5 _ (off_out (j := 73) (k := 167) (n := 7) (by decide)), he4, st_ne _ _ (off_ne (i := 73) (j := 167) (by decide)), he3, st_ne _ _ (off_ne (i := 73) (j := 23) (by decide)), he2 _ (off_out (j := 73) (k := 160) (n := 7) (by decide)), he1, st_ne _ _ (off_ne (i := 73) (j := 160) (by decide))]]; exact f_P73
  · rw [h0]; exact f_R14
  · rw [show S168 (a + 78) = S (a + 78) from by rw [he6, st_ne _ _ (off_ne (i := 78) (j := 23) (by decide)), he5 _ (off_out (j := 78) (k := 167) (n := 7) (by decide)), he4, st_ne _ _ (off_ne (i := 78) (j := 167) (by decide)), he3, st_ne _ _ (off_ne (i := 78) (j := 23) (by decide)), he2 _ (off_out (j := 78) (k := 160) (n := 7) (by decide)), he1, st_ne _ _ (off_ne (i := 78) (j := 160) (by decide))]]; exact f_P78
  · rw [h0]; exact f_R15
  · rw [h0]; exact f_I16
  · rw [h0]; exact f_I17
  · rw [h0]; exact f_I18
  · rw [show S168 (a + 83) = S (a + 83) from by rw [he6, st_ne _ _ (off_ne (i := 83) (j := 23) (by decide)), he5 _ (off_out (j := 83) (k := 167) (n := 7) (by decide)), he4, st_ne _ _ (off_ne (i := 83) (j := 167) (by decide)), he3, st_ne _ _ (off_ne (i := 83) (j := 23) (by decide)), he2 _ (off_out (j := 83) (k := 160) (n := 7) (by decide)), he1, st_ne _ _ (off_ne (i := 83) (j := 160) (by decide))]]; exact f_P83
  · rw [h23]; exact w_Q23
  · rw [show S168 (a + 90) = S (a + 90) from by rw [he6, st_ne _ _ (off_ne (i := 90) (j := 23) (by decide)), he5 _ (off_out (j := 90) (k := 167) (n := 7) (by decide)), he4, st_ne _ _ (off_ne (i := 90) (j := 167) (by decide)), he3, st_ne _ _ (off_ne (i := 90) (j := 23) (by decide)), he2 _ (off_out (j := 90) (k := 160) (n := 7) (by decide)), he1, st_ne _ _ (off_ne (i := 90) (j := 160) (by decide))]]; exact f_P90
  · rw [show S168 (a + 97) = S (a + 97) from by rw [he6, st_ne _ _ (off_ne (i := 97) (j := 23) (by decide)), he5 _ (off_out (j := 97) (k := 167) (n := 7) (by decide)), he4, st_ne _ _ (off_ne (i := 97) (j := 167) (by decide)), he3, st_ne _ _ (off_ne (i := 97) (j := 23) (by decide)), he2 _ (off_out (j := 97) (k := 160) (n := 7) (by decide)), he1, st_ne _ _ (off_ne (i := 97) (j := 160) (by decide))]]; exact f_P97
  · rw [show S168 (a + 104) = S (a + 104) from by rw [he6, st_ne _ _ (off_ne (i := 104) (j := 23) (by decide)), he5 _ (off_out (j := 104) (k := 167) (n := 7) (by decide)), he4, st_ne _ _ (off_ne (i := 104) (j := 167) (by decide)), he3, st_ne _ _ (off_ne (i := 104) (j := 23) (by decide)), he2 _ (off_out (j := 104) (k := 160) (n := 7) (by decide)), he1, st_ne _ _ (off_ne (i := 104) (j := 160) (by decide))]]; exact f_P104
  · rw [show S168 (a + 111) = S (a + 111) from by rw [he6, st_ne _ _ (off_ne (i := 111) (j := 23) (by decide)), he5 _ (off_out (j := 111) (k := 167) (n := 7) (by decide)), he4, st_ne _ _ (off_ne (i := 111) (j := 167) (by decide)), he3, st_ne _ _ (off_ne (i := 111) (j := 23) (by decide)), he2 _ (off_out (j := 111) (k := 160) (n := 7) (by decide)), he1, st_ne _ _ (off_ne (i := 111) (j := 160) (by decide))]]; exact f_P111
  · rw [show S168 (a + 118) = S (a + 118) from by rw [he6, st_ne _ _ (off_ne (i := 118) (j := 23) (by decide)), he5 _ (off_out (j := 118) (k := 167) (n := 7) (by decide)), he4, st_ne _ _ (off_ne (i := 118) (j := 167) (by decide)), he3, st_ne _ _ (off_ne (i := 118) (j := 23) (by decide)), he2 _ (off_out (j := 118) (k := 160) (n := 7) (by decide)), he1, st_ne _ _ (off_ne (i := 118) (j := 160) (by decide))]]; exact f_P118
  · rw [show S168 (a + 125) = S (a + 125) from by rw [he6, st_ne _ _ (off_ne (i := 125) (j := 23) (by decide)), he5 _ (off_out (j := 125) (k := 167) (n := 7) (by decide)), he4, st_ne _ _ (off_ne (i := 125) (j := 167) (by decide)), he3, st_ne _ _ (off_ne (i := 125) (j := 23) (by decide)), he2 _ (off_out (j := 125) (k := 160) (n := 7) (by decide)), he1, st_ne _ _ (off_ne (i := 125) (j := 160) (by decide))]]; exact f_P125
  · rw [show S168 (a + 132) = S (a + 132) from by rw [he6, st_ne _ _ (off_ne (i := 132) (j := 23) (by decide)), he5 _ (off_out (j := 132) (k := 167) (n := 7) (by decide)), he4, st_ne _ _ (off_ne (i := 132) (j := 167) (by decide)), he3, st_ne _ _ (off_ne (i := 132) (j := 23) (by decide)), he2 _ (off_out (j := 132) (k := 160) (n := 7) (by decide)), he1, st_ne _ _ (off_ne (i := 132) (j := 160) (by decide))]]; exact f_P132
  · rw [show S168 (a + 139) = S (a + 139) from by rw [he6, st_ne _ _ (off_ne (i := 139) (j := 23) (by decide)), he5 _ (off_out (j := 139) (k := 167) (n := 7) (by decide)), he4, st_ne _ _ (off_ne (i := 139) (j := 167) (by decide)), he3, st_ne _ _ (off_ne (i := 139) (j := 23) (by decide)), he2 _ (off_out (j := 139) (k := 160) (n := 7) (by decide)), he1, st_ne _ _ (off_ne (i := 139) (j := 160) (by decide))]]; exact f_P139
  · rw [show S168 (a + 146) = S (a + 146) from by rw [he6, st_ne _ _ (off_ne (i := 146) (j := 23) (by decide)), he5 _ (off_out (j := 146) (k := 167) (n := 7) (by decide)), he4, st_ne _ _ (off_ne (i := 146) (j := 167) (by decide)), he3, st_ne _ _ (off_ne (i := 146) (j := 23) (by decide)), he2 _ (off_out (j := 146) (k := 160) (n := 7) (by decide)), he1, st_ne _ _ (off_ne (i := 146) (j := 160) (by decide))]]; exact f_P146
  · rw [show S168 (a + 153) = S (a + 153) from by rw [he6, st_ne _ _ (off_ne (i := 153) (j := 23) (by decide)), he5 _ (off_out (j := 153) (k := 167) (n := 7) (by decide)), he4, st_ne _ _ (off_ne (i := 153) (j := 167) (by decide)), he3, st_ne _ _ (off_ne (i := 153) (j := 23) (by decide)), he2 _ (off_out (j := 153) (k := 160) (n := 7) (by decide)), he1, st_ne _ _ (off_ne (i := 153) (j := 160) (by decide))]]; exact f_P153
  · rw [show S168 (a + 160) = S159 (a + 160) from by rw [he6, st_ne _ _ (off_ne (i := 160) (j := 23) (by decide)), he5 _ (off_out (j := 160) (k := 167) (n := 7) (by decide)), he4, st_ne _ _ (off_ne (i := 160) (j := 167) (by decide)), he3, st_ne _ _ (off_ne (i := 160) (j := 23) (by decide))]]; exact p160
  · rw [show S168 (a + 167) = S167 (a + 167) from by rw [he6, st_ne _ _ (off_ne (i := 167) (j := 23) (by decide))]]; exact p167
set_option maxHeartbeats 4000000 in
theorem sg12_11 {fu : Nat} {G : GG} {S : ST} {a : Nat} {P : ST → Prop} (hJ : J12_11 a S) (nx : ∀ S', J12_12 a S' → ∃ z, f_X12_init_g12 fu G S' a = some z ∧ P z) : ∃ z, f_X12_init_g11 fu G S a = some z ∧ P z := by
  obtain ⟨f_C, f_P1, f_R0, f_P6, f_P7, f_R1, f_P9, f_R2, f_P16, f_R3, f_R4, f_R5, f_P25, f_R6, f_C23, f_N23, f_C24, f_N24, f_P29, f_R7, f_P32, f_P33, f_R8, f_A40, f_R9, f_A41, f_R10, f_A42, f_R11, f_P43, f_P51, f_R12, f_P58, f_P66, f_R13, f_P73, f_R14, f_P78, f_R15, f_I16, f_I17, f_I18, f_P83, f_Q23, f_P90, f_P97, f_P104, f_P111, f_P118, f_P125, f_P132, f_P139, f_P146, f_P153, f_P160, f_P167⟩ := hJ
  unfold f_X12_init_g11
  obtain ⟨V0, h0⟩ : ∃ y, S a = y := ⟨_, rfl⟩
  rw [h0] at f_C f_R0 f_R1 f_R2 f_R3 f_R4 f_R5 f_R6 f_R7 f_R8 f_R9 f_R10 f_R11 f_R12 f_R13 f_R14 f_R15 f_I16 f_I17 f_I18
  refine ex_ck (decide_eq_true (by rw [h0]; exact f_C)) ?_
  refine ex_bd (x := a + 23) (by rw [h0]; exact f_R4) ?_
  refine ex_nm (fun S174 he1 => ?_)
  have h0 := (st_at he1 (off_ne0 (j := 174) (by decide))).trans h0
  obtain ⟨S175, e1, e2, he2⟩ := i_X3 (fu := fu) (G := G) (S := S174) (a := a + 174) (by rw [he1, st_same]; rfl)
  refine ex_bd e1 ?_
  have h0 : S175 a = V0 := (sub_at (k := 174) (n := 7) (j := 0) he2 (by decide)).trans h0
  have p174 : gC (S175 (a + 174)) = 3 ∧ CHL (S175 (a + 174)) (q00, lk0) := e2
  obtain ⟨W23, h23⟩ : ∃ y, S175 (a + 23) = y := ⟨_, rfl⟩
  have w_C23 := f_C23
  rw [← (show S175 (a + 23) = S (a + 23) from by rw [he2 _ (off_out (j := 23) (k := 174) (n := 7) (by decide)), he1, st_ne _ _ (off_ne (i := 23) (j := 174) (by decide))]), h23] at w_C23
  have w_N23 := f_N23
  rw [← (show S175 (a + 23) = S (a + 23) from by rw [he2 _ (off_out (j := 23) (k := 174) (n := 7) (by decide)), he1, st_ne _ _ (off_ne (i := 23) (j := 174) (by decide))]), h23] at w_N23
  have w_Q23 := f_Q23
  rw [← (show S175 (a + 23) = S (a + 23) from by rw [he2 _ (off_out (j := 23) (k := 174) (n := 7) (by decide)), he1, st_ne _ _ (off_ne (i := 23) (j := 174) (by decide))]), h23] at w_Q23
  refine ex_ck (decide_eq_true (by rw [h23]; exact w_C23)) ?_
  refine ex_ck (decide_eq_true p174.1) ?_
  refine ex_ck (by rw [h23, w_N23]; decide) ?_
  refine ex_nm (fun S176 he3 => ?_)
  have h0 := (st_at he3 (off_ne0 (j := 23) (by decide))).trans h0
  rw [h23, show (13 : Int32).toNatClampNeg = 13 by decide] at he3
  have h23 := (congrFun he3 (a + 23)).trans (st_same _ _ _)
  have w_Q23 := gQ_step (x := a + 174) w_Q23 (by omega)
  have w_C23 : gC (sQ W23 0 13 (some (a + 174))) = 29 := w_C23
  have w_N23 : gN (sQ W23 0 13 (some (a + 174))) 0 = 17 := w_N23
  obtain ⟨W23_3, eW⟩ : ∃ y, sQ W23 0 13 (some (a + 174)) = y := ⟨_, rfl⟩
  rw [eW] at h23 w_Q23 w_C23 w_N23 he3
  clear eW
  refine ex_ck (decide_eq_true (by rw [h0]; exact f_C)) ?_
  refine ex_bd (x := a + 23) (by rw [h0]; exact f_R4) ?_
  refine ex_nm (fun S182 he4 => ?_)
  have h0 := (st_at he4 (off_ne0 (j := 181) (by decide))).trans h0
  have h23 := (st_at he4 (off_ne (i := 23) (j := 181) (by decide))).trans h23
  obtain ⟨S183, e1, e2, he5⟩ := i_X3 (fu := fu) (G := G) (S := S182) (a := a + 181) (by rw [he4, st_same]; rfl)
  refine ex_bd e1 ?_
  have h0 : S183 a = V0 := (sub_at (k := 181) (n := 7) (j := 0) he5 (by decide)).trans h0
  have h23 := (sub_at (k := 181) (n := 7) (j := 23) he5 (by decide)).trans h23
  have p181 : gC (S183 (a + 181)) = 3 ∧ CHL (S183 (a + 181)) (q00, lk0) := e2
  refine ex_ck (decide_eq_true (by rw [h23]; exact w_C23)) ?_
  refine ex_ck (decide_eq_true p181.1) ?_
  refine ex_ck (by rw [h23, w_N23]; decide) ?_
  refine ex_nm (fun S184 he6 => ?_)
  have h0 := (st_at he6 (off_ne0 (j := 23) (by decide))).trans h0
  rw [h23, show (14 : Int32).toNatClampNeg = 14 by decide] at he6
  have h23 := (congrFun he6 (a + 23)).trans (st_same _ _ _)
  have w_Q23 := gQ_step (x := a + 181) w_Q23 (by omega)
  have w_C23 : gC (sQ W23_3 0 14 (some (a + 181))) = 29 := w_C23
  have w_N23 : gN (sQ W23_3 0 14 (some (a + 181))) 0 = 17 := w_N23
  obtain ⟨W23_6, eW⟩ : ∃ y, sQ W23_3 0 14 (some (a + 181)) = y := ⟨_, rfl⟩
  rw [eW] at h23 w_Q23 w_C23 w_N23 he6
  clear eW
  refine nx S184 ⟨?_, ?_, ?_, ?_, ?_, ?_, ?_, ?_, ?_, ?_, ?_, ?_, ?_, ?_, ?_, ?_, ?_, ?_, ?_, ?_, ?_, ?_, ?_, ?_, ?_, ?_, ?_, ?_, ?_, ?_, ?_, ?_, ?_, ?_, ?_, ?_, ?_, ?_, ?_, ?_, ?_, ?_, ?_, ?_, ?_, ?_, ?_, ?_, ?_, ?_, ?_, ?_, ?_, ?_, ?_, ?_, ?_, ?_⟩
  · rw [h0]; exact f_C
  · rw [show S184 (a + 1) = S (a + 1) from by rw [he6, st_ne _ _ (off_ne (i := 1) (j := 23) (by decide)), he5 _ (off_out (j := 1) (k := 181) (n := 7) (by decide)), he4, st_ne _ _ (off_ne (i := 1) (j := 181) (by decide)), he3, st_ne _ _ (off_ne (i := 1) (j := 23) (by decide)), he2 _ (off_out (j := 1) (k := 174) (n := 7) (by decide)), he1, st_ne _ _ (off_ne (i := 1) (j := 174) (by decide))]]; exact f_P1
  · rw [h0]; exact f_R0
  · rw [show S184 (a + 6) = S (a + 6) from by rw [he6, st_ne _ _ (off_ne (i := 6) (j := 23) (by decide)), he5 _ (off_out (j := 6) (k := 181) (n := 7) (by decide)), he4, st_ne _ _ (off_ne (i := 6) (j := 181) (by decide)), he3, st_ne _ _ (off_ne (i := 6) (j := 23) (by decide)), he2 _ (off_out (j := 6) (k := 174) (n := 7) (by decide)), he1, st_ne _ _ (off_ne (i := 6) (j := 174) (by decide))]]; exact f_P6
  · rw [show S184 (a + 7) = S (a + 7) from by rw [he6, st_ne _ _ (off_ne (i := 7) (j := 23) (by decide)), he5 _ (off_out (j := 7) (k := 181) (n := 7) (by decide)), he4, st_ne _ _ (off_ne (i := 7) (j := 181) (by decide)), he3, st_ne _ _ (off_ne (i := 7) (j := 23) (by decide)), he2 _ (off_out (j := 7) (k := 174) (n := 7) (by decide)), he1, st_ne _ _ (off_ne (i := 7) (j := 174) (by decide))]]; exact f_P7
  · rw [h0]; exact f_R1
  · rw [show S184 (a + 9) = S (a + 9) from by rw [he6, st_ne _ _ (off_ne (i := 9) (j := 23) (by decide)), he5 _ (off_out (j := 9) (k := 181) (n := 7) (by decide)), he4, st_ne _ _ (off_ne (i := 9) (j := 181) (by decide)), he3, st_ne _ _ (off_ne (i := 9) (j := 23) (by decide)), he2 _ (off_out (j := 9) (k := 174) (n := 7) (by decide)), he1, st_ne _ _ (off_ne (i := 9) (j := 174) (by decide))]]; exact f_P9
  · rw [h0]; exact f_R2
  · rw [show S184 (a + 16) = S (a + 16) from by rw [he6, st_ne _ _ (off_ne (i := 16) (j := 23) (by decide)), he5 _ (off_out (j := 16) (k := 181) (n := 7) (by decide)), he4, st_ne _ _ (off_ne (i := 16) (j := 181) (by decide)), he3, st_ne _ _ (off_ne (i := 16) (j := 23) (by decide)), he2 _ (off_out (j := 16) (k := 174) (n := 7) (by decide)), he1, st_ne _ _ (off_ne (i := 16) (j := 174) (by decide))]]; exact f_P16
  · rw [h0]; exact f_R3
  · rw [h0]; exact f_R4
  · rw [h0]; exact f_R5
  · rw [show S184 (a + 25) = S (a + 25) from by rw [he6, st_ne _ _ (off_ne (i := 25) (j := 23) (by decide)), he5 _ (off_out (j := 25) (k := 181) (n := 7) (by decide)), he4, st_ne _ _ (off_ne (i := 25) (j := 181) (by decide)), he3, st_ne _ _ (off_ne (i := 25) (j := 23) (by decide)), he2 _ (off_out (j := 25) (k := 174) (n := 7) (by decide)), he1, st_ne _ _ (off_ne (i := 25) (j := 174) (by decide))]]; exact f_P25
  · rw [h0]; exact f_R6
  · rw [h23]; exact w_C23
  · rw [h23]; exact w_N23
  · rw [show S184 (a + 24) = S (a + 24) from by rw [he6, st_ne _ _ (off_ne (i := 24) (j := 23) (by decide)), he5 _ (off_out (j := 24) (k := 181) (n := 7) (by decide)), he4, st_ne _ _ (off_ne (i := 24) (j := 181) (by decide)), he3, st_ne _ _ (off_ne (i := 24) (j := 23) (by decide)), he2 _ (off_out (j := 24) (k := 174) (n := 7) (by decide)), he1, st_ne _ _ (off_ne (i := 24) (j := 174) (by decide))]]; exact f_C24
  · rw [show S184 (a + 24) = S (a + 24) from by rw [he6, st_ne _ _ (off_ne (i := 24) (j := 23) (by decide)), he5 _ (off_out (j := 24) (k := 181) (n := 7) (by decide)), he4, st_ne _ _ (off_ne (i := 24) (j := 181) (by decide)), he3, st_ne _ _ (off_ne (i := 24) (j := 23) (by decide)), he2 _ (off_out (j := 24) (k := 174) (n := 7) (by decide)), he1, st_ne _ _ (off_ne (i := 24) (j := 174) (by decide))]]; exact f_N24
  · rw [show S184 (a + 29) = S (a + 29) from by rw [he6, st_ne _ _ (off_ne (i := 29) (j := 23) (by decide)), he5 _ (off_out (j := 29) (k := 181) (n := 7) (by decide)), he4, st_ne _ _ (off_ne (i := 29) (j := 181) (by decide)), he3, st_ne _ _ (off_ne (i := 29) (j := 23) (by decide)), he2 _ (off_out (j := 29) (k := 174) (n := 7) (by decide)), he1, st_ne _ _ (off_ne (i := 29) (j := 174) (by decide))]]; exact f_P29
  · rw [h0]; exact f_R7
  · rw [show S184 (a + 32) = S (a + 32) from by rw [he6, st_ne _ _ (off_ne (i := 32) (j := 23) (by decide)), he5 _ (off_out (j := 32) (k := 181) (n := 7) (by decide)), he4, st_ne _ _ (off_ne (i := 32) (j := 181) (by decide)), he3, st_ne _ _ (off_ne (i := 32) (j := 23) (by decide)), he2 _ (off_out (j := 32) (k := 174) (n := 7) (by decide)), he1, st_ne _ _ (off_ne (i := 32) (j := 174) (by decide))]]; exact f_P32
  · rw [show S184 (a + 33) = S (a + 33) from by rw [he6, st_ne _ _ (off_ne (i := 33) (j := 23) (by decide)), he5 _ (off_out (j := 33) (k := 181) (n := 7) (by decide)), he4, st_ne _ _ (off_ne (i := 33) (j := 181) (by decide)), he3, st_ne _ _ (off_ne (i := 33) (j := 23) (by decide)), he2 _ (off_out (j := 33) (k := 174) (n := 7) (by decide)), he1, st_ne _ _ (off_ne (i := 33) (j := 174) (by decide))]]; exact f_P33
  · rw [h0]; exact f_R8
  · rw [show S184 (a + 40) = S (a + 40) from by rw [he6, st_ne _ _ (off_ne (i := 40) (j := 23) (by decide)), he5 _ (off_out (j := 40) (k := 181) (n := 7) (by decide)), he4, st_ne _ _ (off_ne (i := 40) (j := 181) (by decide)), he3, st_ne _ _ (off_ne (i := 40) (j := 23) (by decide)), he2 _ (off_out (j := 40) (k := 174) (n := 7) (by decide)), he1, st_ne _ _ (off_ne (i := 40) (j := 174) (by decide))]]; exact f_A40
  · rw [h0]; exact f_R9
  · rw [show S184 (a + 41) = S (a + 41) from by rw [he6, st_ne _ _ (off_ne (i := 41) (j := 23) (by decide)), he5 _ (off_out (j := 41) (k := 181) (n := 7) (by decide)), he4, st_ne _ _ (off_ne (i := 41) (j := 181) (by decide)), he3, st_ne _ _ (off_ne (i := 41) (j := 23) (by decide)), he2 _ (off_out (j := 41) (k := 174) (n := 7) (by decide)), he1, st_ne _ _ (off_ne (i := 41) (j := 174) (by decide))]]; exact f_A41
  · rw [h0]; exact f_R10
  · rw [show S184 (a + 42) = S (a + 42) from by rw [he6, st_ne _ _ (off_ne (i := 42) (j := 23) (by decide)), he5 _ (off_out (j := 42) (k := 181) (n := 7) (by decide)), he4, st_ne _ _ (off_ne (i := 42) (j := 181) (by decide)), he3, st_ne _ _ (off_ne (i := 42) (j := 23) (by decide)), he2 _ (off_out (j := 42) (k := 174) (n := 7) (by decide)), he1, st_ne _ _ (off_ne (i := 42) (j := 174) (by decide))]]; exact f_A42
  · rw [h0]; exact f_R11
  · rw [show S184 (a + 43) = S (a + 43) from by rw [he6, st_ne _ _ (off_ne (i := 43) (j := 23) (by decide)), he5 _ (off_out (j := 43) (k := 181) (n := 7) (by decide)), he4, st_ne _ _ (off_ne (i := 43) (j := 181) (by decide)), he3, st_ne _ _ (off_ne (i := 43) (j := 23) (by decide)), he2 _ (off_out (j := 43) (k := 174) (n := 7) (by decide)), he1, st_ne _ _ (off_ne (i := 43) (j := 174) (by decide))]]; exact f_P43
  · rw [show S184 (a + 51) = S (a + 51) from by rw [he6, st_ne _ _ (off_ne (i := 51) (j := 23) (by decide)), he5 _ (off_out (j := 51) (k := 181) (n := 7) (by decide)), he4, st_ne _ _ (off_ne (i := 51) (j := 181) (by decide)), he3, st_ne _ _ (off_ne (i := 51) (j := 23) (by decide)), he2 _ (off_out (j := 51) (k := 174) (n := 7) (by decide)), he1, st_ne _ _ (off_ne (i := 51) (j := 174) (by decide))]]; exact f_P51
  · rw [h0]; exact f_R12
  · rw [show S184 (a + 58) = S (a + 58) from by rw [he6, st_ne _ _ (off_ne (i := 58) (j := 23) (by decide)), he5 _ (off_out (j := 58) (k := 181) (n := 7) (by decide)), he4, st_ne _ _ (off_ne (i := 58) (j := 181) (by decide)), he3, st_ne _ _ (off_ne (i := 58) (j := 23) (by decide)), he2 _ (off_out (j := 58) (k := 174) (n := 7) (by decide)), he1, st_ne _ _ (off_ne (i := 58) (j := 174) (by decide))]]; exact f_P58
  · rw [show S184 (a + 66) = S (a + 66) from by rw [he6, st_ne _ _ (off_ne (i := 66) (j := 23) (by decide)), he5 _ (off_out (j := 66) (k := 181) (n := 7) (by decide)), he4, st_ne _ _ (off_ne (i := 66) (j := 181) (by decide)), he3, st_ne _ _ (off_ne (i := 66) (j := 23) (by decide)), he2 _ (off_out (j := 66) (k := 174) (n := 7) (by decide)), he1, st_ne _ _ (off_ne (i := 66) (j := 174) (by decide))]]; exact f_P66
  · rw [h0]; exact f_R13
  · rw [show S184 (a + 73) = S (a + 73) from by rw [he6, st_ne _ _ (off_ne (i := 73) (j := 23) (by decide)), he5 _ (off_out (j := 73) (k := 181) (n := 7) (by decide)), he4, st_ne _ _ (off_ne (i := 73) (j := 181) (by decide)), he3, st_ne _ _ (off_ne (i := 73) (j := 23) (by decide)), he2 _ (off_out (j := 73) (k := 174) (n := 7) (by decide)), he1, st_ne _ _ (off_ne (i := 73) (j := 174) (by decide))]]; exact f_P73
  · rw [h0]; exact f_R14
  · rw [show S184 (a + 78) = S (a + 78) from by rw [he6, st_ne _ _ (off_ne (i := 78) (j := 23) (by decide)), he5 _ (off_out (j := 78) (k := 181) (n := 7) (by decide)), he4, st_ne _ _ (off_ne (i := 78) (j := 181) (by decide)), he3, st_ne _ _ (off_ne (i := 78) (j := 23) (by decide)), he2 _ (off_out (j := 78) (k := 174) (n := 7) (by decide)), he1, st_ne _ _ (off_ne (i := 78) (j := 174) (by decide))]]; exact f_P78
  · rw [h0]; exact f_R15
  · rw [h0]; exact f_I16
  · rw [h0]; exact f_I17
  · rw [h0]; exact f_I18
  · rw [show S184 (a + 83) = S (a + 83) from by rw [he6, st_ne _ _ (off_ne (i := 83) (j := 23) (by decide)), he5 _ (off_out (j := 83) (k := 181) (n := 7) (by decide)), he4, st_ne _ _ (off_ne (i := 83) (j := 181) (by decide)), he3, st_ne _ _ (off_ne (i := 83) (j := 23) (by decide)), he2 _ (off_out (j := 83) (k := 174) (n := 7) (by decide)), he1, st_ne _ _ (off_ne (i := 83) (j := 174) (by decide))]]; exact f_P83
  · rw [h23]; exact w_Q23
  · rw [show S184 (a + 90) = S (a + 90) from by rw [he6, st_ne _ _ (off_ne (i := 90) (j := 23) (by decide)), he5 _ (off_out (j := 90) (k := 181) (n := 7) (by decide)), he4, st_ne _ _ (off_ne (i := 90) (j := 181) (by decide)), he3, st_ne _ _ (off_ne (i := 90) (j := 23) (by decide)), he2 _ (off_out (j := 90) (k := 174) (n := 7) (by decide)), he1, st_ne _ _ (off_ne (i := 90) (j := 174) (by decide))]]; exact f_P90
  · rw [show S184 (a + 97) = S (a + 97) from by rw [he6, st_ne _ _ (off_ne (i := 97) (j := 23) (by decide)), he5 _ (off_out (j := 97) (k := 181) (n := 7) (by decide)), he4, st_ne _ _ (off_ne (i := 97) (j := 181) (by decide)), he3, st_ne _ _ (off_ne (i := 97) (j := 23) (by decide)), he2 _ (off_out (j := 97) (k := 174) (n := 7) (by decide)), he1, st_ne _ _ (off_ne (i := 97) (j := 174) (by decide))]]; exact f_P97
  · rw [show S184 (a + 104) = S (a + 104) from by rw [he6, st_ne _ _ (off_ne (i := 104) (j := 23) (by decide)), he5 _ (off_out (j := 104) (k := 181) (n := 7) (by decide)), he4, st_ne _ _ (off_ne (i := 104) (j := 181) (by decide)), he3, st_ne _ _ (off_ne (i := 104) (j := 23) (by decide)), he2 _ (off_out (j := 104) (k := 174) (n := 7) (by decide)), he1, st_ne _ _ (off_ne (i := 104) (j := 174) (by decide))]]; exact f_P104
  · rw [show S184 (a + 111) = S (a + 111) from by rw [he6, st_ne _ _ (off_ne (i := 111) (j := 23) (by decide)), he5 _ (off_out (j := 111) (k := 181) (n := 7) (by decide)), he4, st_ne _ _ (off_ne (i := 111) (j := 181) (by decide)), he3, st_ne _ _ (off_ne (i := 111) (j := 23) (by decide)), he2 _ (off_out (j := 111) (k := 174) (n := 7) (by decide)), he1, st_ne _ _ (off_ne (i := 111) (j := 174) (by decide))]]; exact f_P111
  · rw [show S184 (a + 118) = S (a + 118) from by rw [he6, st_ne _ _ (off_ne (i := 118) (j := 23) (by decide)), he5 _ (off_out (j := 118) (k := 181) (n := 7) (by decide)), he4, st_ne _ _ (off_ne (i := 118) (j := 181) (by decide)), he3, st_ne _ _ (off_ne (i := 118) (j := 23) (by decide)), he2 _ (off_out (j := 118) (k := 174) (n := 7) (by decide)), he1, st_ne _ _ (off_ne (i := 118) (j := 174) (by decide))]]; exact f_P118
  · rw [show S184 (a + 125) = S (a + 125) from by rw [he6, st_ne _ _ (off_ne (i := 125) (j := 23) (by decide)), he5 _ (off_out (j := 125) (k := 181) (n := 7) (by decide)), he4, st_ne _ _ (off_ne (i := 125) (j := 181) (by decide)), he3, st_ne _ _ (off_ne (i := 125) (j := 23) (by decide)), he2 _ (off_out (j := 125) (k := 174) (n := 7) (by decide)), he1, st_ne _ _ (off_ne (i := 125) (j := 174) (by decide))]]; exact f_P125
  · rw [show S184 (a + 132) = S (a + 132) from by rw [he6, st_ne _ _ (off_ne (i := 132) (j := 23) (by decide)), he5 _ (off_out (j := 132) (k := 181) (n := 7) (by decide)), he4, st_ne _ _ (off_ne (i := 132) (j := 181) (by decide)), he3, st_ne _ _ (off_ne (i := 132) (j := 23) (by decide)), he2 _ (off_out (j := 132) (k := 174) (n := 7) (by decide)), he1, st_ne _ _ (off_ne (i := 132) (j := 174) (by decide))]]; exact f_P132
  · rw [show S184 (a + 139) = S (a + 139) from by rw [he6, st_ne _ _ (off_ne (i := 139) (j := 23) (by decide)), he5 _ (off_out (j := 139) (k := 181) (n := 7) (by decide)), he4, st_ne _ _ (off_ne (i := 139) (j := 181) (by decide)), he3, st_ne _ _ (off_ne (i := 139) (j := 23) (by decide)), he2 _ (off_out (j := 139) (k := 174) (n := 7) (by decide)), he1, st_ne _ _ (off_ne (i := 139) (j := 174) (by decide))]]; exact f_P139
  · rw [show S184 (a + 146) = S (a + 146) from by rw [he6, st_ne _ _ (off_ne (i := 146) (j := 23) (by decide)), he5 _ (off_out (j := 146) (k := 181) (n := 7) (by decide)), he4, st_ne _ _ (off_ne (i := 146) (j := 181) (by decide)), he3, st_ne _ _ (off_ne (i := 146) (j := 23) (by decide)), he2 _ (off_out (j := 146) (k := 174) (n := 7) (by decide)), he1, st_ne _ _ (off_ne (i := 146) (j := 174) (by decide))]]; exact f_P146
  · rw [show S184 (a + 153) = S (a + 153) from by rw [he6, st_ne _ _ (off_ne (i := 153) (j := 23) (by decide)), he5 _ (off_out (j := 153) (k := 181) (n := 7) (by decide)), he4, st_ne _ _ (off_ne (i := 153) (j := 181) (by decide)), he3, st_ne _ _ (off_ne (i := 153) (j := 23) (by decide)), he2 _ (off_out (j := 153) (k := 174) (n := 7) (by decide)), he1, st_ne _ _ (off_ne (i := 153) (j := 174) (by decide))]]; exact f_P153
  · rw [show S184 (a + 160) = S (a + 160) from by rw [he6, st_ne _ _ (off_ne (i := 160) (j := 23) (by decide)), he5 _ (off_out (j := 160) (k := 181) (n := 7) (by decide)), he4, st_ne _ _ (off_ne (i := 160) (j := 181) (by decide)), he3, st_ne _ _ (off_ne (i := 160) (j := 23) (by decide)), he2 _ (off_out (j := 160) (k := 174) (n := 7) (by decide)), he1, st_ne _ _ (off_ne (i := 160) (j := 174) (by decide))]]; exact f_P160
  · rw [show S184 (a + 167) = S (a + 167) from by rw [he6, st_ne _ _ (off_ne (i := 167) (j := 23) (by decide)), he5 _ (off_out (j := 167) (k := 181) (n := 7) (by decide)), he4, st_ne _ _ (off_ne (i := 167) (j := 181) (by decide)), he3, st_ne _ _ (off_ne (i := 167) (j := 23) (by decide)), he2 _ (off_out (j := 167) (k := 174) (n := 7) (by decide)), he1, st_ne _ _ (off_ne (i := 167) (j := 174) (by decide))]]; exact f_P167
  · rw [show S184 (a + 174) = S175 (a + 174) from by rw [he6, st_ne _ _ (off_ne (i := 174) (j := 23) (by decide)), he5 _ (off_out (j := 174) (k := 181) (n := 7) (by decide)), he4, st_ne _ _ (off_ne (i := 174) (j := 181) (by decide)), he3, st_ne _ _ (off_ne (i := 174) (j := 23) (by decide))]]; exact p174
  · rw [show S184 (a + 181) = S183 (a + 181) from by rw [he6, st_ne _ _ (off_ne (i := 181) (j := 23) (by decide))]]; exact p181
set_option maxHeartbeats 4000000 in
theorem sg12_12 {fu : Nat} {G : GG} {S : ST} {a : Nat} {P : ST → Prop} (hJ : J12_12 a S) (nx : ∀ S', J12_13 a S' → ∃ z, f_X12_init_g13 fu G S' a = some z ∧ P z) : ∃ z, f_X12_init_g12 fu G S a = some z ∧ P z := by
  obtain ⟨f_C, f_P1, f_R0, f_P6, f_P7, f_R1, f_P9, f_R2, f_P16, f_R3, f_R4, f_R5, f_P25, f_R6, f_C23, f_N23, f_C24, f_N24, f_P29, f_R7, f_P32, f_P33, f_R8, f_A40, f_R9, f_A41, f_R10, f_A42, f_R11, f_P43, f_P51, f_R12, f_P58, f_P66, f_R13, f_P73, f_R14, f_P78, f_R15, f_I16, f_I17, f_I18, f_P83, f_Q23, f_P90, f_P97, f_P104, f_P111, f_P118, f_P125, f_P132, f_P139, f_P146, f_P153, f_P160, f_P167, f_P174, f_P181⟩ := hJ
  unfold f_X12_init_g12
  obtain ⟨V0, h0⟩ : ∃ y, S a = y := ⟨_, rfl⟩
  rw [h0] at f_C f_R0 f_R1 f_R2 f_R3 f_R4 f_R5 f_R6 f_R7 f_R8 f_R9 f_R10 f_R11 f_R12 f_R13 f_R14 f_R15 f_I16 f_I17 f_I18
  refine ex_ck (decide_eq_true (by rw [h0]; exact f_C)) ?_
  refine ex_bd (x := a + 23) (by rw [h0]; exact f_R4) ?_
  refine ex_nm (fun S190 he1 => ?_)
  have h0 := (st_at he1 (off_ne0 (j := 188) (by decide))).trans h0
  obtain ⟨S191, e1, e2, he2⟩ := i_X3 (fu := fu) (G := G) (S := S190) (a := a + 188) (by rw [he1, st_same]; rfl)
  refine ex_bd e1 ?_
  have h0 : S191 a = V0 := (sub_at (k := 188) (n := 7) (j := 0) he2 (by decide)).trans h0
  have p188 : gC (S191 (a + 188)) = 3 ∧ CHL (S191 (a + 188)) (q00, lk0) := e2
  obtain ⟨W23, h23⟩ : ∃ y, S191 (a + 23) = y := ⟨_, rfl⟩
  have w_C23 := f_C23
  rw [← (show S191 (a + 23) = S (a + 23) from by rw [he2 _ (off_out (j := 23) (k := 188) (n := 7) (by decide)), he1, st_ne _ _ (off_ne (i := 23) (j := 188) (by decide))]), h23] at w_C23
  have w_N23 := f_N23
  rw [← (show S191 (a + 23) = S (a + 23) from by rw [he2 _ (off_out (j := 23) (k := 188) (n := 7) (by decide)), he1, st_ne _ _ (off_ne (i := 23) (j := 188) (by decide))]), h23] at w_N23
  have w_Q23 := f_Q23
  rw [← (show S191 (a + 23) = S (a + 23) from by rw [he2 _ (off_out (j := 23) (k := 188) (n := 7) (by decide)), he1, st_ne _ _ (off_ne (i := 23) (j := 188) (by decide))]), h23] at w_Q23
  refine ex_ck (decide_eq_true (by rw [h23]; exact w_C23)) ?_
  refine ex_ck (decide_eq_true p188.1) ?_
  refine ex_ck (by rw [h23, w_N23]; decide) ?_
  refine ex_nm (fun S192 he3 => ?_)
  have h0 := (st_at he3 (off_ne0 (j := 23) (by decide))).trans h0
  rw [h23, show (15 : Int32).toNatClampNeg = 15 by decide] at he3
  have h23 := (congrFun he3 (a + 23)).trans (st_same _ _ _)
  have w_Q23 := gQ_step (x := a + 188) w_Q23 (by omega)
  have w_C23 : gC (sQ W23 0 15 (some (a + 188))) = 29 := w_C23
  have w_N23 : gN (sQ W23 0 15 (some (a + 188))) 0 = 17 := w_N23
  obtain ⟨W23_3, eW⟩ : ∃ y, sQ W23 0 15 (some (a + 188)) = y := ⟨_, rfl⟩
  rw [eW] at h23 w_Q23 w_C23 w_N23 he3
  clear eW
  refine ex_ck (decide_eq_true (by rw [h0]; exact f_C)) ?_
  refine ex_bd (x := a + 23) (by rw [h0]; exact f_R4) ?_
  refine ex_nm (fun S198 he4 => ?_)
  have h0 := (st_at he4 (off_ne0 (j := 195) (by decide))).trans h0
  have h23 := (st_at he4 (off_ne (i := 23) (j := 195) (by decide))).trans h23
  obtain ⟨S199, e1, e2, he5⟩ := i_X3 (fu := fu) (G := G) (S := S198) (a := a + 195) (by rw [he4, st_same]; rfl)
  refine ex_bd e1 ?_
  have h0 : S199 a = V0 := (sub_at (k := 195) (n := 7) (j := 0) he5 (by decide)).trans h0
  have h23 := (sub_at (k := 195) (n := 7) (j := 23) he5 (by decide)).trans h23
  have p195 : gC (S199 (a + 195)) = 3 ∧ CHL (S199 (a + 195)) (q00, lk0) := e2
  refine ex_ck (decide_eq_true (by rw [h23]; exact w_C23)) ?_
  refine ex_ck (decide_eq_true p195.1) ?_
  refine ex_ck (by rw [h23, w_N23]; decide) ?_
  refine ex_nm (fun S200 he6 => ?_)
  have h0 := (st_at he6 (off_ne0 (j := 23) (by decide))).trans h0
  rw [h23, show (16 : Int32).toNatClampNeg = 16 by decide] at he6
  have h23 := (congrFun he6 (a + 23)).trans (st_same _ _ _)
  have w_Q23 := gQ_step (x := a + 195) w_Q23 (by omega)
  have w_C23 : gC (sQ W23_3 0 16 (some (a + 195))) = 29 := w_C23
  have w_N23 : gN (sQ W23_3 0 16 (some (a + 195))) 0 = 17 := w_N23
  obtain ⟨W23_6, eW⟩ : ∃ y, sQ W23_3 0 16 (some (a + 195)) = y := ⟨_, rfl⟩
  rw [eW] at h23 w_Q23 w_C23 w_N23 he6
  clear eW
  refine nx S200 ⟨?_, ?_, ?_, ?_, ?_, ?_, ?_, ?_, ?_, ?_, ?_, ?_, ?_, ?_, ?_, ?_, ?_, ?_, ?_, ?_, ?_, ?_, ?_, ?_, ?_, ?_, ?_, ?_, ?_, ?_, ?_, ?_, ?_, ?_, ?_, ?_, ?_, ?_, ?_, ?_, ?_, ?_, ?_, ?_, ?_, ?_, ?_, ?_, ?_, ?_, ?_, ?_, ?_, ?_, ?_, ?_, ?_, ?_, ?_, ?_⟩
  · rw [h0]; exact f_C
  · rw [show S200 (a + 1) = S (a + 1) from by rw [he6, st_ne _ _ (off_ne (i := 1) (j := 23) (by decide)), he5 _ (off_out (j := 1) (k := 195) (n := 7) (by decide)), he4, st_ne _ _ (off_ne (i := 1) (j := 195) (by decide)), he3, st_ne _ _ (off_ne (i := 1) (j := 23) (by decide)), he2 _ (off_out (j := 1) (k := 188) (n := 7) (by decide)), he1, st_ne _ _ (off_ne (i := 1) (j := 188) (by decide))]]; exact f_P1
  · rw [h0]; exact f_R0
  · rw [show S200 (a + 6) = S (a + 6) from by rw [he6, st_ne _ _ (off_ne (i := 6) (j := 23) (by decide)), he5 _ (off_out (j := 6) (k := 195) (n := 7) (by decide)), he4, st_ne _ _ (off_ne (i := 6) (j := 195) (by decide)), he3, st_ne _ _ (off_ne (i := 6) (j := 23) (by decide)), he2 _ (off_out (j := 6) (k := 188) (n := 7) (by decide)), he1, st_ne _ _ (off_ne (i := 6) (j := 188) (by decide))]]; exact f_P6
  · rw [show S200 (a + 7) = S (a + 7) from by rw [he6, st_ne _ _ (off_ne (i := 7) (j := 23) (by decide)), he5 _ (off_out (j := 7) (k := 195) (n := 7) (by decide)), he4, st_ne _ _ (off_ne (i := 7) (j := 195) (by decide)), he3, st_ne _ _ (off_ne (i := 7) (j := 23) (by decide)), he2 _ (off_out (j := 7) (k := 188) (n := 7) (by decide)), he1, st_ne _ _ (off_ne (i := 7) (j := 188) (by decide))]]; exact f_P7
  · rw [h0]; exact f_R1
  · rw [show S200 (a + 9) = S (a + 9) from by rw [he6, st_ne _ _ (off_ne (i := 9) (j := 23) (by decide)), he5 _ (off_out (j := 9) (k := 195) (n := 7) (by decide)), he4, st_ne _ _ (off_ne (i := 9) (j := 195) (by decide)), he3, st_ne _ _ (off_ne (i := 9) (j := 23) (by decide)), he2 _ (off_out (j := 9) (k := 188) (n := 7) (by decide)), he1, st_ne _ _ (off_ne (i := 9) (j := 188) (by decide))]]; exact f_P9
  · rw [h0]; exact f_R2
  · rw [show S200 (a + 16) = S (a + 16) from by rw [he6, st_ne _ _ (off_ne (i := 16) (j := 23) (by decide)), he5 _ (off_out (j := 16) (k := 195) (n := 7) (by decide)), he4, st_ne _ _ (off_ne (i := 16) (j := 195) (by decide)), he3, st_ne _ _ (off_ne (i := 16) (j := 23) (by decide)), he2 _ (off_out (j := 16) (k := 188) (n := 7) (by decide)), he1, st_ne _ _ (off_ne (i := 16) (j := 188) (by decide))]]; exact f_P16
  · rw [h0]; exact f_R3
  · rw [h0]; exact f_R4
  · rw [h0]; exact f_R5
  · rw [show S200 (a + 25) = S (a + 25) from by rw [he6, st_ne _ _ (off_ne (i := 25) (j := 23) (by decide)), he5 _ (off_out (j := 25) (k := 195) (n := 7) (by decide)), he4, st_ne _ _ (off_ne (i := 25) (j := 195) (by decide)), he3, st_ne _ _ (off_ne (i := 25) (j := 23) (by decide)), he2 _ (off_out (j := 25) (k := 188) (n := 7) (by decide)), he1, st_ne _ _ (off_ne (i := 25) (j := 188) (by decide))]]; exact f_P25
  · rw [h0]; exact f_R6
  · rw [h23]; exact w_C23
  · rw [h23]; exact w_N23
  · rw [show S200 (a + 24) = S (a + 24) from by rw [he6, st_ne _ _ (off_ne (i := 24) (j := 23) (by decide)), he5 _ (off_out (j := 24) (k := 195) (n := 7) (by decide)), he4, st_ne _ _ (off_ne (i := 24) (j := 195) (by decide)), he3, st_ne _ _ (off_ne (i := 24) (j := 23) (by decide)), he2 _ (off_out (j := 24) (k := 188) (n := 7) (by decide)), he1, st_ne _ _ (off_ne (i := 24) (j := 188) (by decide))]]; exact f_C24
  · rw [show S200 (a + 24) = S (a + 24) from by rw [he6, st_ne _ _ (off_ne (i := 24) (j := 23) (by decide)), he5 _ (off_out (j := 24) (k := 195) (n := 7) (by decide)), he4, st_ne _ _ (off_ne (i := 24) (j := 195) (by decide)), he3, st_ne _ _ (off_ne (i := 24) (j := 23) (by decide)), he2 _ (off_out (j := 24) (k := 188) (n := 7) (by decide)), he1, st_ne _ _ (off_ne (i := 24) (j := 188) (by decide))]]; exact f_N24
  · rw [show S200 (a + 29) = S (a + 29) from by rw [he6, st_ne _ _ (off_ne (i := 29) (j := 23) (by decide)), he5 _ (off_out (j := 29) (k := 195) (n := 7) (by decide)), he4, st_ne _ _ (off_ne (i := 29) (j := 195) (by decide)), he3, st_ne _ _ (off_ne (i := 29) (j := 23) (by decide)), he2 _ (off_out (j := 29) (k := 188) (n := 7) (by decide)), he1, st_ne _ _ (off_ne (i := 29) (j := 188) (by decide))]]; exact f_P29
  · rw [h0]; exact f_R7
  · rw [show S200 (a + 32) = S (a + 32) from by rw [he6, st_ne _ _ (off_ne (i := 32) (j := 23) (by decide)), he5 _ (off_out (j := 32) (k := 195) (n := 7) (by decide)), he4, st_ne _ _ (off_ne (i := 32) (j := 195) (by decide)), he3, st_ne _ _ (off_ne (i := 32) (j := 23) (by decide)), he2 _ (off_out (j := 32) (k := 188) (n := 7) (by decide)), he1, st_ne _ _ (off_ne (i := 32) (j := 188) (by decide))]]; exact f_P32
  · rw [show S200 (a + 33) = S (a + 33) from by rw [he6, st_ne _ _ (off_ne (i := 33) (j := 23) (by decide)), he5 _ (off_out (j := 33) (k := 195) (n := 7) (by decide)), he4, st_ne _ _ (off_ne (i := 33) (j := 195) (by decide)), he3, st_ne _ _ (off_ne (i := 33) (j := 23) (by decide)), he2 _ (off_out (j := 33) (k := 188) (n := 7) (by decide)), he1, st_ne _ _ (off_ne (i := 33) (j := 188) (by decide))]]; exact f_P33
  · rw [h0]; exact f_R8
  · rw [show S200 (a + 40) = S (a + 40) from by rw [he6, st_ne _ _ (off_ne (i := 40) (j := 23) (by decide)), he5 _ (off_out (j := 40) (k := 195) (n := 7) (by decide)), he4, st_ne _ _ (off_ne (i := 40) (j := 195) (by decide)), he3, st_ne _ _ (off_ne (i := 40) (j := 23) (by decide)), he2 _ (off_out (j := 40) (k := 188) (n := 7) (by decide)), he1, st_ne _ _ (off_ne (i := 40) (j := 188) (by decide))]]; exact f_A40
  · rw [h0]; exact f_R9
  · rw [show S200 (a + 41) = S (a + 41) from by rw [he6, st_ne _ _ (off_ne (i := 41) (j := 23) (by decide)), he5 _ (off_out (j := 41) (k := 195) (n := 7) (by decide)), he4, st_ne _ _ (off_ne (i := 41) (j := 195) (by decide)), he3, st_ne _ _ (off_ne (i := 41) (j := 23) (by decide)), he2 _ (off_out (j := 41) (k := 188) (n := 7) (by decide)), he1, st_ne _ _ (off_ne (i := 41) (j := 188) (by decide))]]; exact f_A41
  · rw [h0]; exact f_R10
  · rw [show S200 (a + 42) = S (a + 42) from by rw [he6, st_ne _ _ (off_ne (i := 42) (j := 23) (by decide)), he5 _ (off_out (j := 42) (k := 195) (n := 7) (by decide)), he4, st_ne _ _ (off_ne (i := 42) (j := 195) (by decide)), he3, st_ne _ _ (off_ne (i := 42) (j := 23) (by decide)), he2 _ (off_out (j := 42) (k := 188) (n := 7) (by decide)), he1, st_ne _ _ (off_ne (i := 42) (j := 188) (by decide))]]; exact f_A42
  · rw [h0]; exact f_R11
  · rw [show S200 (a + 43) = S (a + 43) from by rw [he6, st_ne _ _ (off_ne (i := 43) (j := 23) (by decide)), he5 _ (off_out (j := 43) (k := 195) (n := 7) (by decide)), he4, st_ne _ _ (off_ne (i := 43) (j := 195) (by decide)), he3, st_ne _ _ (off_ne (i := 43) (j := 23) (by decide)), he2 _ (off_out (j := 43) (k := 188) (n := 7) (by decide)), he1, st_ne _ _ (off_ne (i := 43) (j := 188) (by decide))]]; exact f_P43
  · rw [show S200 (a + 51) = S (a + 51) from by rw [he6, st_ne _ _ (off_ne (i := 51) (j := 23) (by decide)), he5 _ (off_out (j := 51) (k := 195) (n := 7) (by decide)), he4, st_ne _ _ (off_ne (i := 51) (j := 195) (by decide)), he3, st_ne _ _ (off_ne (i := 51) (j := 23) (by decide)), he2 _ (off_out (j := 51) (k := 188) (n := 7) (by decide)), he1, st_ne _ _ (off_ne (i := 51) (j := 188) (by decide))]]; exact f_P51
  · rw [h0]; exact f_R12
  · rw [show S200 (a + 58) = S (a + 58) from by rw [he6, st_ne _ _ (off_ne (i := 58) (j := 23) (by decide)), he5 _ (off_out (j := 58) (k := 195) (n := 7) (by decide)), he4, st_ne _ _ (off_ne (i := 58) (j := 195) (by decide)), he3, st_ne _ _ (off_ne (i := 58) (j := 23) (by decide)), he2 _ (off_out (j := 58) (k := 188) (n := 7) (by decide)), he1, st_ne _ _ (off_ne (i := 58) (j := 188) (by decide))]]; exact f_P58
  · rw [show S200 (a + 66) = S (a + 66) from by rw [he6, st_ne _ _ (off_ne (i := 66) (j := 23) (by decide)), he5 _ (off_out (j := 66) (k := 195) (n := 7) (by decide)), he4, st_ne _ _ (off_ne (i := 66) (j := 195) (by decide)), he3, st_ne _ _ (off_ne (i := 66) (j := 23) (by decide)), he2 _ (off_out (j := 66) (k := 188) (n := 7) (by decide)), he1, st_ne _ _ (off_ne (i := 66) (j := 188) (by decide))]]; exact f_P66
  · rw [h0]; exact f_R13
  · rw [show S200 (a + 73) = S (a + 73) from by rw [he6, st_ne _ _ (off_ne (i := 73) (j := 23) (by decide)), he5 _ (off_out (j := 73) (k := 195) (n := 7) (by decide)), he4, st_ne _ _ (off_ne (i := 73) (j := 195) (by decide)), he3, st_ne _ _ (off_ne (i := 73) (j := 23) (by decide)), he2 _ (off_out (j := 73) (k := 188) (n := 7) (by decide)), he1, st_ne _ _ (off_ne (i := 73) (j := 188) (by decide))]]; exact f_P73
  · rw [h0]; exact f_R14
  · rw [show S200 (a + 78) = S (a + 78) from by rw [he6, st_ne _ _ (off_ne (i := 78) (j := 23) (by decide)), he5 _ (off_out (j := 78) (k := 195) (n := 7) (by decide)), he4, st_ne _ _ (off_ne (i := 78) (j := 195) (by decide)), he3, st_ne _ _ (off_ne (i := 78) (j := 23) (by decide)), he2 _ (off_out (j := 78) (k := 188) (n := 7) (by decide)), he1, st_ne _ _ (off_ne (i := 78) (j := 188) (by decide))]]; exact f_P78
  · rw [h0]; exact f_R15
  · rw [h0]; exact f_I16
  · rw [h0]; exact f_I17
  · rw [h0]; exact f_I18
  · rw [show S200 (a + 83) = S (a + 83) from by rw [he6, st_ne _ _ (off_ne (i := 83) (j := 23) (by decide)), he5 _ (off_out (j := 83) (k := 195) (n := 7) (by decide)), he4, st_ne _ _ (off_ne (i := 83) (j := 195) (by decide)), he3, st_ne _ _ (off_ne (i := 83) (j := 23) (by decide)), he2 _ (off_out (j := 83) (k := 188) (n := 7) (by decide)), he1, st_ne _ _ (off_ne (i := 83) (j := 188) (by decide))]]; exact f_P83
  · rw [h23]; exact w_Q23
  · rw [show S200 (a + 90) = S (a + 90) from by rw [he6, st_ne _ _ (off_ne (i := 90) (j := 23) (by decide)), he5 _ (off_out (j := 90) (k := 195) (n := 7) (by decide)), he4, st_ne _ _ (off_ne (i := 90) (j := 195) (by decide)), he3, st_ne _ _ (off_ne (i := 90) (j := 23) (by decide)), he2 _ (off_out (j := 90) (k := 188) (n := 7) (by decide)), he1, st_ne _ _ (off_ne (i := 90) (j := 188) (by decide))]]; exact f_P90
  · rw [show S200 (a + 97) = S (a + 97) from by rw [he6, st_ne _ _ (off_ne (i := 97) (j := 23) (by decide)), he5 _ (off_out (j := 97) (k := 195) (n := 7) (by decide)), he4, st_ne _ _ (off_ne (i := 97) (j := 195) (by decide)), he3, st_ne _ _ (off_ne (i := 97) (j := 23) (by decide)), he2 _ (off_out (j := 97) (k := 188) (n := 7) (by decide)), he1, st_ne _ _ (off_ne (i := 97) (j := 188) (by decide))]]; exact f_P97
  · rw [show S200 (a + 104) = S (a + 104) from by rw [he6, st_ne _ _ (off_ne (i := 104) (j := 23) (by decide)), he5 _ (off_out (j := 104) (k := 195) (n := 7) (by decide)), he4, st_ne _ _ (off_ne (i := 104) (j := 195) (by decide)), he3, st_ne _ _ (off_ne (i := 104) (j := 23) (by decide)), he2 _ (off_out (j := 104) (k := 188) (n := 7) (by decide)), he1, st_ne _ _ (off_ne (i := 104) (j := 188) (by decide))]]; exact f_P104
  · rw [show S200 (a + 111) = S (a + 111) from by rw [he6, st_ne _ _ (off_ne (i := 111) (j := 23) (by decide)), he5 _ (off_out (j := 111) (k := 195) (n := 7) (by decide)), he4, st_ne _ _ (off_ne (i := 111) (j := 195) (by decide)), he3, st_ne _ _ (off_ne (i := 111) (j := 23) (by decide)), he2 _ (off_out (j := 111) (k := 188) (n := 7) (by decide)), he1, st_ne _ _ (off_ne (i := 111) (j := 188) (by decide))]]; exact f_P111
  · rw [show S200 (a + 118) = S (a + 118) from by rw [he6, st_ne _ _ (off_ne (i := 118) (j := 23) (by decide)), he5 _ (off_out (j := 118) (k := 195) (n := 7) (by decide)), he4, st_ne _ _ (off_ne (i := 118) (j := 195) (by decide)), he3, st_ne _ _ (off_ne (i := 118) (j := 23) (by decide)), he2 _ (off_out (j := 118) (k := 188) (n := 7) (by decide)), he1, st_ne _ _ (off_ne (i := 118) (j := 188) (by decide))]]; exact f_P118
  · rw [show S200 (a + 125) = S (a + 125) from by rw [he6, st_ne _ _ (off_ne (i := 125) (j := 23) (by decide)), he5 _ (off_out (j := 125) (k := 195) (n := 7) (by decide)), he4, st_ne _ _ (off_ne (i := 125) (j := 195) (by decide)), he3, st_ne _ _ (off_ne (i := 125) (j := 23) (by decide)), he2 _ (off_out (j := 125) (k := 188) (n := 7) (by decide)), he1, st_ne _ _ (off_ne (i := 125) (j := 188) (by decide))]]; exact f_P125
  · rw [show S200 (a + 132) = S (a + 132) from by rw [he6, st_ne _ _ (off_ne (i := 132) (j := 23) (by decide)), he5 _ (off_out (j := 132) (k := 195) (n := 7) (by decide)), he4, st_ne _ _ (off_ne (i := 132) (j := 195) (by decide)), he3, st_ne _ _ (off_ne (i := 132) (j := 23) (by decide)), he2 _ (off_out (j := 132) (k := 188) (n := 7) (by decide)), he1, st_ne _ _ (off_ne (i := 132) (j := 188) (by decide))]]; exact f_P132
  · rw [show S200 (a + 139) = S (a + 139) from by rw [he6, st_ne _ _ (off_ne (i := 139) (j := 23) (by decide)), he5 _ (off_out (j := 139) (k := 195) (n := 7) (by decide)), he4, st_ne _ _ (off_ne (i := 139) (j := 195) (by decide)), he3, st_ne _ _ (off_ne (i := 139) (j := 23) (by decide)), he2 _ (off_out (j := 139) (k := 188) (n := 7) (by decide)), he1, st_ne _ _ (off_ne (i := 139) (j := 188) (by decide))]]; exact f_P139
  · rw [show S200 (a + 146) = S (a + 146) from by rw [he6, st_ne _ _ (off_ne (i := 146) (j := 23) (by decide)), he5 _ (off_out (j := 146) (k := 195) (n := 7) (by decide)), he4, st_ne _ _ (off_ne (i := 146) (j := 195) (by decide)), he3, st_ne _ _ (off_ne (i := 146) (j := 23) (by decide)), he2 _ (off_out (j := 146) (k := 188) (n := 7) (by decide)), he1, st_ne _ _ (off_ne (i := 146) (j := 188) (by decide))]]; exact f_P146
  · rw [show S200 (a + 153) = S (a + 153) from by rw [he6, st_ne _ _ (off_ne (i := 153) (j := 23) (by decide)), he5 _ (off_out (j := 153) (k := 195) (n := 7) (by decide)), he4, st_ne _ _ (off_ne (i := 153) (j := 195) (by decide)), he3, st_ne _ _ (off_ne (i := 153) (j := 23) (by decide)), he2 _ (off_out (j := 153) (k := 188) (n := 7) (by decide)), he1, st_ne _ _ (off_ne (i := 153) (j := 188) (by decide))]]; exact f_P153
  · rw [show S200 (a + 160) = S (a + 160) from by rw [he6, st_ne _ _ (off_ne (i := 160) (j := 23) (by decide)), he5 _ (off_out (j := 160) (k := 195) (n := 7) (by decide)), he4, st_ne _ _ (off_ne (i := 160) (j := 195) (by decide)), he3, st_ne _ _ (off_ne (i := 160) (j := 23) (by decide)), he2 _ (off_out (j := 160) (k := 188) (n := 7) (by decide)), he1, st_ne _ _ (off_ne (i := 160) (j := 188) (by decide))]]; exact f_P160
  · rw [show S200 (a + 167) = S (a + 167) from by rw [he6, st_ne _ _ (off_ne (i := 167) (j := 23) (by decide)), he5 _ (off_out (j := 167) (k := 195) (n := 7) (by decide)), he4, st_ne _ _ (off_ne (i := 167) (j := 195) (by decide)), he3, st_ne _ _ (off_ne (i := 167) (j := 23) (by decide)), he2 _ (off_out (j := 167) (k := 188) (n := 7) (by decide)), he1, st_ne _ _ (off_ne (i := 167) (j := 188) (by decide))]]; exact f_P167
  · rw [show S200 (a + 174) = S (a + 174) from by rw [he6, st_ne _ _ (off_ne (i := 174) (j := 23) (by decide)), he5 _ (off_out (j := 174) (k := 195) (n := 7) (by decide)), he4, st_ne _ _ (off_ne (i := 174) (j := 195) (by decide)), he3, st_ne _ _ (off_ne (i := 174) (j := 23) (by decide)), he2 _ (off_out (j := 174) (k := 188) (n := 7) (by decide)), he1, st_ne _ _ (off_ne (i := 174) (j := 188) (by decide))]]; exact f_P174
  · rw [show S200 (a + 181) = S (a + 181) from by rw [he6, st_ne _ _ (off_ne (i := 181) (j := 23) (by decide)), he5 _ (off_out (j := 181) (k := 195) (n := 7) (by decide)), he4, st_ne _ _ (off_ne (i := 181) (j := 195) (by decide)), he3, st_ne _ _ (off_ne (i := 181) (j := 23) (by decide)), he2 _ (off_out (j := 181) (k := 188) (n := 7) (by decide)), he1, st_ne _ _ (off_ne (i := 181) (j := 188) (by decide))]]; exact f_P181
  · rw [show S200 (a + 188) = S191 (a + 188) from by rw [he6, st_ne _ _ (off_ne (i := 188) (j := 23) (by decide)), he5 _ (off_out (j := 188) (k := 195) (n := 7) (by decide)), he4, st_ne _ _ (off_ne (i := 188) (j := 195) (by decide)), he3, st_ne _ _ (off_ne (i := 188) (j := 23) (by decide))]]; exact p188
  · rw [show S200 (a + 195) = S199 (a + 195) from by rw [he6, st_ne _ _ (off_ne (i := 195) (j := 23) (by decide))]]; exact p195
set_option maxHeartbeats 4000000 in
theorem sg12_13 {fu : Nat} {G : GG} {S : ST} {a : Nat} {P : ST → Prop} (hJ : J12_13 a S) (nx : ∀ S', J12_14 a S' → ∃ z, f_X12_init_g14 fu G S' a = some z ∧ P z) : ∃ z, f_X12_init_g13 fu G S a = some z ∧ P z := by
  obtain ⟨f_C, f_P1, f_R0, f_P6, f_P7, f_R1, f_P9, f_R2, f_P16, f_R3, f_R4, f_R5, f_P25, f_R6, f_C23, f_N23, f_C24, f_N24, f_P29, f_R7, f_P32, f_P33, f_R8, f_A40, f_R9, f_A41, f_R10, f_A42, f_R11, f_P43, f_P51, f_R12, f_P58, f_P66, f_R13, f_P73, f_R14, f_P78, f_R15, f_I16, f_I17, f_I18, f_P83, f_Q23, f_P90, f_P97, f_P104, f_P111, f_P118, f_P125, f_P132, f_P139, f_P146, f_P153, f_P160, f_P167, f_P174, f_P181, f_P188, f_P195⟩ := hJ
  unfold f_X12_init_g13
  obtain ⟨V0, h0⟩ : ∃ y, S a = y := ⟨_, rfl⟩
  rw [h0] at f_C f_R0 f_R1 f_R2 f_R3 f_R4 f_R5 f_R6 f_R7 f_R8 f_R9 f_R10 f_R11 f_R12 f_R13 f_R14 f_R15 f_I16 f_I17 f_I18
  refine ex_ck (decide_eq_true (by rw [h0]; exact f_C)) ?_
  refine ex_bd (x := a + 24) (by rw [h0]; exact f_R5) ?_
  refine ex_nm (fun S206 he1 => ?_)
  have h0 := (st_at he1 (off_ne0 (j := 202) (by decide))).trans h0
  obtain ⟨S207, e1, e2, he2⟩ := i_X3 (fu := fu) (G := G) (S := S206) (a := a + 202) (by rw [he1, st_same]; rfl)
  refine ex_bd e1 ?_
  have h0 : S207 a = V0 := (sub_at (k := 202) (n := 7) (j := 0) he2 (by decide)).trans h0
  have p202 : gC (S207 (a + 202)) = 3 ∧ CHL (S207 (a + 202)) (q00, lk0) := e2
  obtain ⟨W24, h24⟩ : ∃ y, S207 (a + 24) = y := ⟨_, rfl⟩
  have w_C24 := f_C24
  rw [← (show S207 (a + 24) = S (a + 24) from by rw [he2 _ (off_out (j := 24) (k := 202) (n := 7) (by decide)), he1, st_ne _ _ (off_ne (i := 24) (j := 202) (by decide))]), h24] at w_C24
  have w_N24 := f_N24
  rw [← (show S207 (a + 24) = S (a + 24) from by rw [he2 _ (off_out (j := 24) (k := 202) (n := 7) (by decide)), he1, st_ne _ _ (off_ne (i := 24) (j := 202) (by decide))]), h24] at w_N24
  refine ex_ck (decide_eq_true (by rw [h24]; exact w_C24)) ?_
  refine ex_ck (decide_eq_true p202.1) ?_
  refine ex_ck (by rw [h24, w_N24]; decide) ?_
  refine ex_nm (fun S208 he3 => ?_)
  have h0 := (st_at he3 (off_ne0 (j := 24) (by decide))).trans h0
  rw [h24, show (0 : Int32).toNatClampNeg = 0 by decide] at he3
  have h24 := (congrFun he3 (a + 24)).trans (st_same _ _ _)
  have w_Q24 : ∀ i, i < 0 → gQ W24 0 i = some (a + 202 + 7 * i) := fun i hi => absurd hi (Nat.not_lt_zero _)
  have w_Q24 := gQ_step (x := a + 202) w_Q24 (by omega)
  have w_C24 : gC (sQ W24 0 0 (some (a + 202))) = 29 := w_C24
  have w_N24 : gN (sQ W24 0 0 (some (a + 202))) 0 = 4 := w_N24
  obtain ⟨W24_3, eW⟩ : ∃ y, sQ W24 0 0 (some (a + 202)) = y := ⟨_, rfl⟩
  rw [eW] at h24 w_Q24 w_C24 w_N24 he3
  clear eW
  refine ex_ck (decide_eq_true (by rw [h0]; exact f_C)) ?_
  refine ex_bd (x := a + 24) (by rw [h0]; exact f_R5) ?_
  refine ex_nm (fun S214 he4 => ?_)
  have h0 := (st_at he4 (off_ne0 (j := 209) (by decide))).trans h0
  have h24 := (st_at he4 (off_ne (i := 24) (j := 209) (by decide))).trans h24
  obtain ⟨S215, e1, e2, he5⟩ := i_X3 (fu := fu) (G := G) (S := S214) (a := a + 209) (by rw [he4, st_same]; rfl)
  refine ex_bd e1 ?_
  have h0 : S215 a = V0 := (sub_at (k := 209) (n := 7) (j := 0) he5 (by decide)).trans h0
  have h24 := (sub_at (k := 209) (n := 7) (j := 24) he5 (by decide)).trans h24
  have p209 : gC (S215 (a + 209)) = 3 ∧ CHL (S215 (a + 209)) (q00, lk0) := e2
  refine ex_ck (decide_eq_true (by rw [h24]; exact w_C24)) ?_
  refine ex_ck (decide_eq_true p209.1) ?_
  refine ex_ck (by rw [h24, w_N24]; decide) ?_
  refine ex_nm (fun S216 he6 => ?_)
  have h0 := (st_at he6 (off_ne0 (j := 24) (by decide))).trans h0
  rw [h24, show (1 : Int32).toNatClampNeg = 1 by decide] at he6
  have h24 := (congrFun he6 (a + 24)).trans (st_same _ _ _)
  have w_Q24 := gQ_step (x := a + 209) w_Q24 (by omega)
  have w_C24 : gC (sQ W24_3 0 1 (some (a + 209))) = 29 := w_C24
  have w_N24 : gN (sQ W24_3 0 1 (some (a + 209))) 0 = 4 := w_N24
  obtain ⟨W24_6, eW⟩ : ∃ y, sQ W24_3 0 1 (some (a + 209)) = y := ⟨_, rfl⟩
  rw [eW] at h24 w_Q24 w_C24 w_N24 he6
  clear eW
  refine nx S216 ⟨?_, ?_, ?_, ?_, ?_, ?_, ?_, ?_, ?_, ?_, ?_, ?_, ?_, ?_, ?_, ?_, ?_, ?_, ?_, ?_, ?_, ?_, ?_, ?_, ?_, ?_, ?_, ?_, ?_, ?_, ?_, ?_, ?_, ?_, ?_, ?_, ?_, ?_, ?_, ?_, ?_, ?_, ?_, ?_, ?_, ?_, ?_, ?_, ?_, ?_, ?_, ?_, ?_, ?_, ?_, ?_, ?_, ?_, ?_, ?_, ?_, ?_, ?_⟩
  · rw [h0]; exact f_C
  · rw [show S216 (a + 1) = S (a + 1) from by rw [he6, st_ne _ _ (off_ne (i := 1) (j := 24) (by decide)), he5 _ (off_out (j := 1) (k := 209) (n := 7) (by decide)), he4, st_ne _ _ (off_ne (i := 1) (j := 209) (by decide)), he3, st_ne _ _ (off_ne (i := 1) (j := 24) (by decide)), he2 _ (off_out (j := 1) (k := 202) (n := 7) (by decide)), he1, st_ne _ _ (off_ne (i := 1) (j := 202) (by decide))]]; exact f_P1
  · rw [h0]; exact f_R0
  · rw [show S216 (a + 6) = S (a + 6) from by rw [he6, st_ne _ _ (off_ne (i := 6) (j := 24) (by decide)), he5 _ (off_out (j := 6) (k := 209) (n := 7) (by decide)), he4, st_ne _ _ (off_ne (i := 6) (j := 209) (by decide)), he3, st_ne _ _ (off_ne (i := 6) (j := 24) (by decide)), he2 _ (off_out (j := 6) (k := 202) (n := 7) (by decide)), he1, st_ne _ _ (off_ne (i := 6) (j := 202) (by decide))]]; exact f_P6
  · rw [show S216 (a + 7) = S (a + 7) from by rw [he6, st_ne _ _ (off_ne (i := 7) (j := 24) (by decide)), he5 _ (off_out (j := 7) (k := 209) (n := 7) (by decide)), he4, st_ne _ _ (off_ne (i := 7) (j := 209) (by decide)), he3, st_ne _ _ (off_ne (i := 7) (j := 24) (by decide)), he2 _ (off_out (j := 7) (k := 202) (n := 7) (by decide)), he1, st_ne _ _ (off_ne (i := 7) (j := 202) (by decide))]]; exact f_P7
  · rw [h0]; exact f_R1
  · rw [show S216 (a + 9) = S (a + 9) from by rw [he6, st_ne _ _ (off_ne (i := 9) (j := 24) (by decide)), he5 _ (off_out (j := 9) (k := 209) (n := 7) (by decide)), he4, st_ne _ _ (off_ne (i := 9) (j := 209) (by decide)), he3, st_ne _ _ (off_ne (i := 9) (j := 24) (by decide)), he2 _ (off_out (j := 9) (k := 202) (n := 7) (by decide)), he1, st_ne _ _ (off_ne (i := 9) (j := 202) (by decide))]]; exact f_P9
  · rw [h0]; exact f_R2
  · rw [show S216 (a + 16) = S (a + 16) from by rw [he6, st_ne _ _ (off_ne (i := 16) (j := 24) (by decide)), he5 _ (off_out (j := 16) (k := 209) (n := 7) (by decide)), he4, st_ne _ _ (off_ne (i := 16) (j := 209) (by decide)), he3, st_ne _ _ (off_ne (i := 16) (j := 24) (by decide)), he2 _ (off_out (j := 16) (k := 202) (n := 7) (by decide)), he1, st_ne _ _ (off_ne (i := 16) (j := 202) (by decide))]]; exact f_P16
  · rw [h0]; exact f_R3
  · rw [h0]; exact f_R4
  · rw [h0]; exact f_R5
  · rw [show S216 (a + 25) = S (a + 25) from by rw [he6, st_ne _ _ (off_ne (i := 25) (j := 24) (by decide)), he5 _ (off_out (j := 25) (k := 209) (n := 7) (by decide)), he4, st_ne _ _ (off_ne (i := 25) (j := 209) (by decide)), he3, st_ne _ _ (off_ne (i := 25) (j := 24) (by decide)), he2 _ (off_out (j := 25) (k := 202) (n := 7) (by decide)), he1, st_ne _ _ (off_ne (i := 25) (j := 202) (by decide))]]; exact f_P25
  · rw [h0]; exact f_R6
  · rw [show S216 (a + 23) = S (a + 23) from by rw [he6, st_ne _ _ (off_ne (i := 23) (j := 24) (by decide)), he5 _ (off_out (j := 23) (k := 209) (n := 7) (by decide)), he4, st_ne _ _ (off_ne (i := 23) (j := 209) (by decide)), he3, st_ne _ _ (off_ne (i := 23) (j := 24) (by decide)), he2 _ (off_out (j := 23) (k := 202) (n := 7) (by decide)), he1, st_ne _ _ (off_ne (i := 23) (j := 202) (by decide))]]; exact f_C23
  · rw [show S216 (a + 23) = S (a + 23) from by rw [he6, st_ne _ _ (off_ne (i := 23) (j := 24) (by decide)), he5 _ (off_out (j := 23) (k := 209) (n := 7) (by decide)), he4, st_ne _ _ (off_ne (i := 23) (j := 209) (by decide)), he3, st_ne _ _ (off_ne (i := 23) (j := 24) (by decide)), he2 _ (off_out (j := 23) (k := 202) (n := 7) (by decide)), he1, st_ne _ _ (off_ne (i := 23) (j := 202) (by decide))]]; exact f_N23
  · rw [h24]; exact w_C24
  · rw [h24]; exact w_N24
  · rw [show S216 (a + 29) = S (a + 29) from by rw [he6, st_ne _ _ (off_ne (i := 29) (j := 24) (by decide)), he5 _ (off_out (j := 29) (k := 209) (n := 7) (by decide)), he4, st_ne _ _ (off_ne (i := 29) (j := 209) (by decide)), he3, st_ne _ _ (off_ne (i := 29) (j := 24) (by decide)), he2 _ (off_out (j := 29) (k := 202) (n := 7) (by decide)), he1, st_ne _ _ (off_ne (i := 29) (j := 202) (by decide))]]; exact f_P29
  · rw [h0]; exact f_R7
  · rw [show S216 (a + 32) = S (a + 32) from by rw [he6, st_ne _ _ (off_ne (i := 32) (j := 24) (by decide)), he5 _ (off_out (j := 32) (k := 209) (n := 7) (by decide)), he4, st_ne _ _ (off_ne (i := 32) (j := 209) (by decide)), he3, st_ne _ _ (off_ne (i := 32) (j := 24) (by decide)), he2 _ (off_out (j := 32) (k := 202) (n := 7) (by decide)), he1, st_ne _ _ (off_ne (i := 32) (j := 202) (by decide))]]; exact f_P32
  · rw [show S216 (a + 33) = S (a + 33) from by rw [he6, st_ne _ _ (off_ne (i := 33) (j := 24) (by decide)), he5 _ (off_out (j := 33) (k := 209) (n := 7) (by decide)), he4, st_ne _ _ (off_ne (i := 33) (j := 209) (by decide)), he3, st_ne _ _ (off_ne (i := 33) (j := 24) (by decide)), he2 _ (off_out (j := 33) (k := 202) (n := 7) (by decide)), he1, st_ne _ _ (off_ne (i := 33) (j := 202) (by decide))]]; exact f_P33
  · rw [h0]; exact f_R8
  · rw [show S216 (a + 40) = S (a + 40) from by rw [he6, st_ne _ _ (off_ne (i := 40) (j := 24) (by decide)), he5 _ (off_out (j := 40) (k := 209) (n := 7) (by decide)), he4, st_ne _ _ (off_ne (i := 40) (j := 209) (by decide)), he3, st_ne _ _ (off_ne (i := 40) (j := 24) (by decide)), he2 _ (off_out (j := 40) (k := 202) (n := 7) (by decide)), he1, st_ne _ _ (off_ne (i := 40) (j := 202) (by decide))]]; exact f_A40
  · rw [h0]; exact f_R9
  · rw [show S216 (a + 41) = S (a + 41) from by rw [he6, st_ne _ _ (off_ne (i := 41) (j := 24) (by decide)), he5 _ (off_out (j := 41) (k := 209) (n := 7) (by decide)), he4, st_ne _ _ (off_ne (i := 41) (j := 209) (by decide)), he3, st_ne _ _ (off_ne (i := 41) (j := 24) (by decide)), he2 _ (off_out (j := 41) (k := 202) (n := 7) (by decide)), he1, st_ne _ _ (off_ne (i := 41) (j := 202) (by decide))]]; exact f_A41
  · rw [h0]; exact f_R10
  · rw [show S216 (a + 42) = S (a + 42) from by rw [he6, st_ne _ _ (off_ne (i := 42) (j := 24) (by decide)), he5 _ (off_out (j := 42) (k := 209) (n := 7) (by decide)), he4, st_ne _ _ (off_ne (i := 42) (j := 209) (by decide)), he3, st_ne _ _ (off_ne (i := 42) (j := 24) (by decide)), he2 _ (off_out (j := 42) (k := 202) (n := 7) (by decide)), he1, st_ne _ _ (off_ne (i := 42) (j := 202) (by decide))]]; exact f_A42
  · rw [h0]; exact f_R11
  · rw [show S216 (a + 43) = S (a + 43) from by rw [he6, st_ne _ _ (off_ne (i := 43) (j := 24) (by decide)), he5 _ (off_out (j := 43) (k := 209) (n := 7) (by decide)), he4, st_ne _ _ (off_ne (i := 43) (j := 209) (by decide)), he3, st_ne _ _ (off_ne (i := 43) (j := 24) (by decide)), he2 _ (off_out (j := 43) (k := 202) (n := 7) (by decide)), he1, st_ne _ _ (off_ne (i := 43) (j := 202) (by decide))]]; exact f_P43
  · rw [show S216 (a + 51) = S (a + 51) from by rw [he6, st_ne _ _ (off_ne (i := 51) (j := 24) (by decide)), he5 _ (off_out (j := 51) (k := 209) (n := 7) (by decide)), he4, st_ne _ _ (off_ne (i := 51) (j := 209) (by decide)), he3, st_ne _ _ (off_ne (i := 51) (j := 24) (by decide)), he2 _ (off_out (j := 51) (k := 202) (n := 7) (by decide)), he1, st_ne _ _ (off_ne (i := 51) (j := 202) (by decide))]]; exact f_P51
  · rw [h0]; exact f_R12
  · rw [show S216 (a + 58) = S (a + 58) from by rw [he6, st_ne _ _ (off_ne (i := 58) (j := 24) (by decide)), he5 _ (off_out (j := 58) (k := 209) (n := 7) (by decide)), he4, st_ne _ _ (off_ne (i := 58) (j := 209) (by decide)), he3, st_ne _ _ (off_ne (i := 58) (j := 24) (by decide)), he2 _ (off_out (j := 58) (k := 202) (n := 7) (by decide)), he1, st_ne _ _ (off_ne (i := 58) (j := 202) (by decide))]]; exact f_P58
  · rw [show S216 (a + 66) = S (a + 66) from by rw [he6, st_ne _ _ (off_ne (i := 66) (j := 24) (by decide)), he5 _ (off_out (j := 66) (k := 209) (n := 7) (by decide)), he4, st_ne _ _ (off_ne (i := 66) (j := 209) (by decide)), he3, st_ne _ _ (off_ne (i := 66) (j := 24) (by decide)), he2 _ (off_out (j := 66) (k := 202) (n := 7) (by decide)), he1, st_ne _ _ (off_ne (i := 66) (j := 202) (by decide))]]; exact f_P66
  · rw [h0]; exact f_R13
  · rw [show S216 (a + 73) = S (a + 73) from by rw [he6, st_ne _ _ (off_ne (i := 73) (j := 24) (by decide)), he5 _ (off_out (j := 73) (k := 209) (n := 7) (by decide)), he4, st_ne _ _ (off_ne (i := 73) (j := 209) (by decide)), he3, st_ne _ _ (off_ne (i := 73) (j := 24) (by decide)), he2 _ (off_out (j := 73) (k := 202) (n := 7) (by decide)), he1, st_ne _ _ (off_ne (i := 73) (j := 202) (by decide))]]; exact f_P73
  · rw [h0]; exact f_R14
  · rw [show S216 (a + 78) = S (a + 78) from by rw [he6, st_ne _ _ (off_ne (i := 78) (j := 24) (by decide)), he5 _ (off_out (j := 78) (k := 209) (n := 7) (by decide)), he4, st_ne _ _ (off_ne (i := 78) (j := 209) (by decide)), he3, st_ne _ _ (off_ne (i := 78) (j := 24) (by decide)), he2 _ (off_out (j := 78) (k := 202) (n := 7) (by decide)), he1, st_ne _ _ (off_ne (i := 78) (j := 202) (by decide))]]; exact f_P78
  · rw [h0]; exact f_R15
  · rw [h0]; exact f_I16
  · rw [h0]; exact f_I17
  · rw [h0]; exact f_I18
  · rw [show S216 (a + 83) = S (a + 83) from by rw [he6, st_ne _ _ (off_ne (i := 83) (j := 24) (by decide)), he5 _ (off_out (j := 83) (k := 209) (n := 7) (by decide)), he4, st_ne _ _ (off_ne (i := 83) (j := 209) (by decide)), he3, st_ne _ _ (off_ne (i := 83) (j := 24) (by decide)), he2 _ (off_out (j := 83) (k := 202) (n := 7) (by decide)), he1, st_ne _ _ (off_ne (i := 83) (j := 202) (by decide))]]; exact f_P83
  · rw [show S216 (a + 23) = S (a + 23) from by rw [he6, st_ne _ _ (off_ne (i := 23) (j := 24) (by decide)), he5 _ (off_out (j := 23) (k := 209) (n := 7) (by decide)), he4, st_ne _ _ (off_ne (i := 23) (j := 209) (by decide)), he3, st_ne _ _ (off_ne (i := 23) (j := 24) (by decide)), he2 _ (off_out (j := 23) (k := 202) (n := 7) (by decide)), he1, st_ne _ _ (off_ne (i := 23) (j := 202) (by decide))]]; exact f_Q23
  · rw [show S216 (a + 90) = S (a + 90) from by rw [he6, st_ne _ _ (off_ne (i := 90) (j := 24) (by decide)), he5 _ (off_out (j := 90) (k := 209) (n := 7) (by decide)), he4, st_ne _ _ (off_ne (i := 90) (j := 209) (by decide)), he3, st_ne _ _ (off_ne (i := 90) (j := 24) (by decide)), he2 _ (off_out (j := 90) (k := 202) (n := 7) (by decide)), he1, st_ne _ _ (off_ne (i := 90) (j := 202) (by decide))]]; exact f_P90
  · rw [show S216 (a + 97) = S (a + 97) from by rw [he6, st_ne _ _ (off_ne (i := 97) (j := 24) (by decide)), he5 _ (off_out (j := 97) (k := 209) (n := 7) (by decide)), he4, st_ne _ _ (off_ne (i := 97) (j := 209) (by decide)), he3, st_ne _ _ (off_ne (i := 97) (j := 24) (by decide)), he2 _ (off_out (j := 97) (k := 202) (n := 7) (by decide)), he1, st_ne _ _ (off_ne (i := 97) (j := 202) (by decide))]]; exact f_P97
  · rw [show S216 (a + 104) = S (a + 104) from by rw [he6, st_ne _ _ (off_ne (i := 104) (j := 24) (by decide)), he5 _ (off_out (j := 104) (k := 209) (n := 7) (by decide)), he4, st_ne _ _ (off_ne (i := 104) (j := 209) (by decide)), he3, st_ne _ _ (off_ne (i := 104) (j := 24) (by decide)), he2 _ (off_out (j := 104) (k := 202) (n := 7) (by decide)), he1, st_ne _ _ (off_ne (i := 104) (j := 202) (by decide))]]; exact f_P104
  · rw [show S216 (a + 111) = S (a + 111) from by rw [he6, st_ne _ _ (off_ne (i := 111) (j := 24) (by decide)), he5 _ (off_out (j := 111) (k := 209) (n := 7) (by decide)), he4, st_ne _ _ (off_ne (i := 111) (j := 209) (by decide)), he3, st_ne _ _ (off_ne (i := 111) (j := 24) (by decide)), he2 _ (off_out (j := 111) (k := 202) (n := 7) (by decide)), he1, st_ne _ _ (off_ne (i := 111) (j := 202) (by decide))]]; exact f_P111
  · rw [show S216 (a + 118) = S (a + 118) from by rw [he6, st_ne _ _ (off_ne (i := 118) (j := 24) (by decide)), he5 _ (off_out (j := 118) (k := 209) (n := 7) (by decide)), he4, st_ne _ _ (off_ne (i := 118) (j := 209) (by decide)), he3, st_ne _ _ (off_ne (i := 118) (j := 24) (by decide)), he2 _ (off_out (j := 118) (k := 202) (n := 7) (by decide)), he1, st_ne _ _ (off_ne (i := 118) (j := 202) (by decide))]]; exact f_P118
  · rw [show S216 (a + 125) = S (a + 125) from by rw [he6, st_ne _ _ (off_ne (i := 125) (j := 24) (by decide)), he5 _ (off_out (j := 125) (k := 209) (n := 7) (by decide)), he4, st_ne _ _ (off_ne (i := 125) (j := 209) (by decide)), he3, st_ne _ _ (off_ne (i := 125) (j := 24) (by decide)), he2 _ (off_out (j := 125) (k := 202) (n := 7) (by decide)), he1, st_ne _ _ (off_ne (i := 125) (j := 202) (by decide))]]; exact f_P125
  · rw [show S216 (a + 132) = S (a + 132) from by rw [he6, st_ne _ _ (off_ne (i := 132) (j := 24) (by decide)), he5 _ (off_out (j := 132) (k := 209) (n := 7) (by decide)), he4, st_ne _ _ (off_ne (i := 132) (j := 209) (by decide)), he3, st_ne _ _ (off_ne (i := 132) (j := 24) (by decide)), he2 _ (off_out (j := 132) (k := 202) (n := 7) (by decide)), he1, st_ne _ _ (off_ne (i := 132) (j := 202) (by decide))]]; exact f_P132
  · rw [show S216 (a + 139) = S (a + 139) from by rw [he6, st_ne _ _ (off_ne (i := 139) (j := 24) (by decide)), he5 _ (off_out (j := 139) (k := 209) (n := 7) (by decide)), he4, st_ne _ _ (off_ne (i := 139) (j := 209) (by decide)), he3, st_ne _ _ (off_ne (i := 139) (j := 24) (by decide)), he2 _ (off_out (j := 139) (k := 202) (n := 7) (by decide)), he1, st_ne _ _ (off_ne (i := 139) (j := 202) (by decide))]]; exact f_P139
  · rw [show S216 (a + 146) = S (a + 146) from by rw [he6, st_ne _ _ (off_ne (i := 146) (j := 24) (by decide)), he5 _ (off_out (j := 146) (k := 209) (n := 7) (by decide)), he4, st_ne _ _ (off_ne (i := 146) (j := 209) (by decide)), he3, st_ne _ _ (off_ne (i := 146) (j := 24) (by decide)), he2 _ (off_out (j := 146) (k := 202) (n := 7) (by decide)), he1, st_ne _ _ (off_ne (i := 146) (j := 202) (by decide))]]; exact f_P146
  · rw [show S216 (a + 153) = S (a + 153) from by rw [he6, st_ne _ _ (off_ne (i := 153) (j := 24) (by decide)), he5 _ (off_out (j := 153) (k := 209) (n := 7) (by decide)), he4, st_ne _ _ (off_ne (i := 153) (j := 209) (by decide)), he3, st_ne _ _ (off_ne (i := 153) (j := 24) (by decide)), he2 _ (off_out (j := 153) (k := 202) (n := 7) (by decide)), he1, st_ne _ _ (off_ne (i := 153) (j := 202) (by decide))]]; exact f_P153
  · rw [show S216 (a + 160) = S (a + 160) from by rw [he6, st_ne _ _ (off_ne (i := 160) (j := 24) (by decide)), he5 _ (off_out (j := 160) (k := 209) (n := 7) (by decide)), he4, st_ne _ _ (off_ne (i := 160) (j := 209) (by decide)), he3, st_ne _ _ (off_ne (i := 160) (j := 24) (by decide)), he2 _ (off_out (j := 160) (k := 202) (n := 7) (by decide)), he1, st_ne _ _ (off_ne (i := 160) (j := 202) (by decide))]]; exact f_P160
  · rw [show S216 (a + 167) = S (a + 167) from by rw [he6, st_ne _ _ (off_ne (i := 167) (j := 24) (by decide)), he5 _ (off_out (j := 167) (k := 209) (n := 7) (by decide)), he4, st_ne _ _ (off_ne (i := 167) (j := 209) (by decide)), he3, st_ne _ _ (off_ne (i := 167) (j := 24) (by decide)), he2 _ (off_out (j := 167) (k := 202) (n := 7) (by decide)), he1, st_ne _ _ (off_ne (i := 167) (j := 202) (by decide))]]; exact f_P167
  · rw [show S216 (a + 174) = S (a + 174) from by rw [he6, st_ne _ _ (off_ne (i := 174) (j := 24) (by decide)), he5 _ (off_out (j := 174) (k := 209) (n := 7) (by decide)), he4, st_ne _ _ (off_ne (i := 174) (j := 209) (by decide)), he3, st_ne _ _ (off_ne (i := 174) (j := 24) (by decide)), he2 _ (off_out (j := 174) (k := 202) (n := 7) (by decide)), he1, st_ne _ _ (off_ne (i := 174) (j := 202) (by decide))]]; exact f_P174
  · rw [show S216 (a + 181) = S (a + 181) from by rw [he6, st_ne _ _ (off_ne (i := 181) (j := 24) (by decide)), he5 _ (off_out (j := 181) (k := 209) (n := 7) (by decide)), he4, st_ne _ _ (off_ne (i := 181) (j := 209) (by decide)), he3, st_ne _ _ (off_ne (i := 181) (j := 24) (by decide)), he2 _ (off_out (j := 181) (k := 202) (n := 7) (by decide)), he1, st_ne _ _ (off_ne (i := 181) (j := 202) (by decide))]]; exact f_P181
  · rw [show S216 (a + 188) = S (a + 188) from by rw [he6, st_ne _ _ (off_ne (i := 188) (j := 24) (by decide)), he5 _ (off_out (j := 188) (k := 209) (n := 7) (by decide)), he4, st_ne _ _ (off_ne (i := 188) (j := 209) (by decide)), he3, st_ne _ _ (off_ne (i := 188) (j := 24) (by decide)), he2 _ (off_out (j := 188) (k := 202) (n := 7) (by decide)), he1, st_ne _ _ (off_ne (i := 188) (j := 202) (by decide))]]; exact f_P188
  · rw [show S216 (a + 195) = S (a + 195) from by rw [he6, st_ne _ _ (off_ne (i := 195) (j := 24) (by decide)), he5 _ (off_out (j := 195) (k := 209) (n := 7) (by decide)), he4, st_ne _ _ (off_ne (i := 195) (j := 209) (by decide)), he3, st_ne _ _ (off_ne (i := 195) (j := 24) (by decide)), he2 _ (off_out (j := 195) (k := 202) (n := 7) (by decide)), he1, st_ne _ _ (off_ne (i := 195) (j := 202) (by decide))]]; exact f_P195
  · rw [show S216 (a + 202) = S207 (a + 202) from by rw [he6, st_ne _ _ (off_ne (i := 202) (j := 24) (by decide)), he5 _ (off_out (j := 202) (k := 209) (n := 7) (by decide)), he4, st_ne _ _ (off_ne (i := 202) (j := 209) (by decide)), he3, st_ne _ _ (off_ne (i := 202) (j := 24) (by decide))]]; exact p202
  · rw [show S216 (a + 209) = S215 (a + 209) from by rw [he6, st_ne _ _ (off_ne (i := 209) (j := 24) (by decide))]]; exact p209
  · rw [h24]; exact w_Q24
set_option maxHeartbeats 4000000 in
theorem sg12_14 {fu : Nat} {G : GG} {S : ST} {a : Nat} {P : ST → Prop} (hJ : J12_14 a S) (nx : ∀ S', J12_15 a S' → ∃ z, f_X12_init_g15 fu G S' a = some z ∧ P z) : ∃ z, f_X12_init_g14 fu G S a = some z ∧ P z := by
  obtain ⟨f_C, f_P1, f_R0, f_P6, f_P7, f_R1, f_P9, f_R2, f_P16, f_R3, f_R4, f_R5, f_P25, f_R6, f_C23, f_N23, f_C24, f_N24, f_P29, f_R7, f_P32, f_P33, f_R8, f_A40, f_R9, f_A41, f_R10, f_A42, f_R11, f_P43, f_P51, f_R12, f_P58, f_P66, f_R13, f_P73, f_R14, f_P78, f_R15, f_I16, f_I17, f_I18, f_P83, f_Q23, f_P90, f_P97, f_P104, f_P111, f_P118, f_P125, f_P132, f_P139, f_P146, f_P153, f_P160, f_P167, f_P174, f_P181, f_P188, f_P195, f_P202, f_P209, f_Q24⟩ := hJ
  unfold f_X12_init_g14
  obtain ⟨V0, h0⟩ : ∃ y, S a = y := ⟨_, rfl⟩
  rw [h0] at f_C f_R0 f_R1 f_R2 f_R3 f_R4 f_R5 f_R6 f_R7 f_R8 f_R9 f_R10 f_R11 f_R12 f_R13 f_R14 f_R15 f_I16 f_I17 f_I18
  refine ex_ck (decide_eq_true (by rw [h0]; exact f_C)) ?_
  refine ex_bd (x := a + 24) (by rw [h0]; exact f_R5) ?_
  refine ex_nm (fun S222 he1 => ?_)
  have h0 := (st_at he1 (off_ne0 (j := 216) (by decide))).trans h0
  obtain ⟨S223, e1, e2, he2⟩ := i_X3 (fu := fu) (G := G) (S := S222) (a := a + 216) (by rw [he1, st_same]; rfl)
  refine ex_bd e1 ?_
  have h0 : S223 a = V0 := (sub_at (k := 216) (n := 7) (j := 0) he2 (by decide)).trans h0
  have p216 : gC (S223 (a + 216)) = 3 ∧ CHL (S223 (a + 216)) (q00, lk0) := e2
  obtain ⟨W24, h24⟩ : ∃ y, S223 (a + 24) = y := ⟨_, rfl⟩
  have w_C24 := f_C24
  rw [← (show S223 (a + 24) = S (a + 24) from by rw [he2 _ (off_out (j := 24) (k := 216) (n := 7) (by decide)), he1, st_ne _ _ (off_ne (i := 24) (j := 216) (by decide))]), h24] at w_C24
  have w_N24 := f_N24
  rw [← (show S223 (a + 24) = S (a + 24) from by rw [he2 _ (off_out (j := 24) (k := 216) (n := 7) (by decide)), he1, st_ne _ _ (off_ne (i := 24) (j := 216) (by decide))]), h24] at w_N24
  have w_Q24 := f_Q24
  rw [← (show S223 (a + 24) = S (a + 24) from by rw [he2 _ (off_out (j := 24) (k := 216) (n := 7) (by decide)), he1, st_ne _ _ (off_ne (i := 24) (j := 216) (by decide))]), h24] at w_Q24
  refine ex_ck (decide_eq_true (by rw [h24]; exact w_C24)) ?_
  refine ex_ck (decide_eq_true p216.1) ?_
  refine ex_ck (by rw [h24, w_N24]; decide) ?_
  refine ex_nm (fun S224 he3 => ?_)
  have h0 := (st_at he3 (off_ne0 (j := 24) (by decide))).trans h0
  rw [h24, show (2 : Int32).toNatClampNeg = 2 by decide] at he3
  have h24 := (congrFun he3 (a + 24)).trans (st_same _ _ _)
  have w_Q24 := gQ_step (x := a + 216) w_Q24 (by omega)
  have w_C24 : gC (sQ W24 0 2 (some (a + 216))) = 29 := w_C24
  have w_N24 : gN (sQ W24 0 2 (some (a + 216))) 0 = 4 := w_N24
  obtain ⟨W24_3, eW⟩ : ∃ y, sQ W24 0 2 (some (a + 216)) = y := ⟨_, rfl⟩
  rw [eW] at h24 w_Q24 w_C24 w_N24 he3
  clear eW
  refine ex_ck (decide_eq_true (by rw [h0]; exact f_C)) ?_
  refine ex_bd (x := a + 24) (by rw [h0]; exact f_R5) ?_
  refine ex_nm (fun S230 he4 => ?_)
  have h0 := (st_at he4 (off_ne0 (j := 223) (by decide))).trans h0
  have h24 := (st_at he4 (off_ne (i := 24) (j := 223) (by decide))).trans h24
  obtain ⟨S231, e1, e2, he5⟩ := i_X3 (fu := fu) (G := G) (S := S230) (a := a + 223) (by rw [he4, st_same]; rfl)
  refine ex_bd e1 ?_
  have h0 : S231 a = V0 := (sub_at (k := 223) (n := 7) (j := 0) he5 (by decide)).trans h0
  have h24 := (sub_at (k := 223) (n := 7) (j := 24) he5 (by decide)).trans h24
  have p223 : gC (S231 (a + 223)) = 3 ∧ CHL (S231 (a + 223)) (q00, lk0) := e2
  refine ex_ck (decide_eq_true (by rw [h24]; exact w_C24)) ?_
  refine ex_ck (decide_eq_true p223.1) ?_
  refine ex_ck (by rw [h24, w_N24]; decide) ?_
  refine ex_nm (fun S232 he6 => ?_)
  have h0 := (st_at he6 (off_ne0 (j := 24) (by decide))).trans h0
  rw [h24, show (3 : Int32).toNatClampNeg = 3 by decide] at he6
  have h24 := (congrFun he6 (a + 24)).trans (st_same _ _ _)
  have w_Q24 := gQ_step (x := a + 223) w_Q24 (by omega)
  have w_C24 : gC (sQ W24_3 0 3 (some (a + 223))) = 29 := w_C24
  have w_N24 : gN (sQ W24_3 0 3 (some (a + 223))) 0 = 4 := w_N24
  obtain ⟨W24_6, eW⟩ : ∃ y, sQ W24_3 0 3 (some (a + 223)) = y := ⟨_, rfl⟩
  rw [eW] at h24 w_Q24 w_C24 w_N24 he6
  clear eW
  refine nx S232 ⟨?_, ?_, ?_, ?_, ?_, ?_, ?_, ?_, ?_, ?_, ?_, ?_, ?_, ?_, ?_, ?_, ?_, ?_, ?_, ?_, ?_, ?_, ?_, ?_, ?_, ?_, ?_, ?_, ?_, ?_, ?_, ?_, ?_, ?_, ?_, ?_, ?_, ?_, ?_, ?_, ?_, ?_, ?_, ?_, ?_, ?_, ?_, ?_, ?_, ?_, ?_, ?_, ?_, ?_, ?_, ?_, ?_, ?_, ?_, ?_, ?_, ?_, ?_, ?_, ?_⟩
  · rw [h0]; exact f_C
  · rw [show S232 (a + 1) = S (a + 1) from by rw [he6, st_ne _ _ (off_ne (i := 1) (j := 24) (by decide)), he5 _ (off_out (j := 1) (k := 223) (n := 7) (by decide)), he4, st_ne _ _ (off_ne (i := 1) (j := 223) (by decide)), he3, st_ne _ _ (off_ne (i := 1) (j := 24) (by decide)), he2 _ (off_out (j := 1) (k := 216) (n := 7) (by decide)), he1, st_ne _ _ (off_ne (i := 1) (j := 216) (by decide))]]; exact f_P1
  · rw [h0]; exact f_R0
  · rw [show S232 (a + 6) = S (a + 6) from by rw [he6, st_ne _ _ (off_ne (i := 6) (j := 24) (by decide)), he5 _ (off_out (j := 6) (k := 223) (n := 7) (by decide)), he4, st_ne _ _ (off_ne (i := 6) (j := 223) (by decide)), he3, st_ne _ _ (off_ne (i := 6) (j := 24) (by decide)), he2 _ (off_out (j := 6) (k := 216) (n := 7) (by decide)), he1, st_ne _ _ (off_ne (i := 6) (j := 216) (by decide))]]; exact f_P6
  · rw [show S232 (a + 7) = S (a + 7) from by rw [he6, st_ne _ _ (off_ne (i := 7) (j := 24) (by decide)), he5 _ (off_out (j := 7) (k := 223) (n := 7) (by decide)), he4, st_ne _ _ (off_ne (i := 7) (j := 223) (by decide)), he3, st_ne _ _ (off_ne (i := 7) (j := 24) (by decide)), he2 _ (off_out (j := 7) (k := 216) (n := 7) (by decide)), he1, st_ne _ _ (off_ne (i := 7) (j := 216) (by decide))]]; exact f_P7
  · rw [h0]; exact f_R1
  · rw [show S232 (a + 9) = S (a + 9) from by rw [he6, st_ne _ _ (off_ne (i := 9) (j := 24) (by decide)), he5 _ (off_out (j := 9) (k := 223) (n := 7) (by decide)), he4, st_ne _ _ (off_ne (i := 9) (j := 223) (by decide)), he3, st_ne _ _ (off_ne (i := 9) (j := 24) (by decide)), he2 _ (off_out (j := 9) (k := 216) (n := 7) (by decide)), he1, st_ne _ _ (off_ne (i := 9) (j := 216) (by decide))]]; exact f_P9
  · rw [h0]; exact f_R2
  · rw [show S232 (a + 16) = S (a + 16) from by rw [he6, st_ne _ _ (off_ne (i := 16) (j := 24) (by decide)), he5 _ (off_out (j := 16) (k := 223) (n := 7) (by decide)), he4, st_ne _ _ (off_ne (i := 16) (j := 223) (by decide)), he3, st_ne _ _ (off_ne (i := 16) (j := 24) (by decide)), he2 _ (off_out (j := 16) (k := 216) (n := 7) (by decide)), he1, st_ne _ _ (off_ne (i := 16) (j := 216) (by decide))]]; exact f_P16
  · rw [h0]; exact f_R3
  · rw [h0]; exact f_R4
  · rw [h0]; exact f_R5
  · rw [show S232 (a + 25) = S (a + 25) from by rw [he6, st_ne _ _ (off_ne (i := 25) (j := 24) (by decide)), he5 _ (off_out (j := 25) (k := 223) (n := 7) (by decide)), he4, st_ne _ _ (off_ne (i := 25) (j := 223) (by decide)), he3, st_ne _ _ (off_ne (i := 25) (j := 24) (by decide)), he2 _ (off_out (j := 25) (k := 216) (n := 7) (by decide)), he1, st_ne _ _ (off_ne (i := 25) (j := 216) (by decide))]]; exact f_P25
  · rw [h0]; exact f_R6
  · rw [show S232 (a + 23) = S (a + 23) from by rw [he6, st_ne _ _ (off_ne (i := 23) (j := 24) (by decide)), he5 _ (off_out (j := 23) (k := 223) (n := 7) (by decide)), he4, st_ne _ _ (off_ne (i := 23) (j := 223) (by decide)), he3, st_ne _ _ (off_ne (i := 23) (j := 24) (by decide)), he2 _ (off_out (j := 23) (k := 216) (n := 7) (by decide)), he1, st_ne _ _ (off_ne (i := 23) (j := 216) (by decide))]]; exact f_C23
  · rw [show S232 (a + 23) = S (a + 23) from by rw [he6, st_ne _ _ (off_ne (i := 23) (j := 24) (by decide)), he5 _ (off_out (j := 23) (k := 223) (n := 7) (by decide)), he4, st_ne _ _ (off_ne (i := 23) (j := 223) (by decide)), he3, st_ne _ _ (off_ne (i := 23) (j := 24) (by decide)), he2 _ (off_out (j := 23) (k := 216) (n := 7) (by decide)), he1, st_ne _ _ (off_ne (i := 23) (j := 216) (by decide))]]; exact f_N23
  · rw [h24]; exact w_C24
  · rw [h24]; exact w_N24
  · rw [show S232 (a + 29) = S (a + 29) from by rw [he6, st_ne _ _ (off_ne (i := 29) (j := 24) (by decide)), he5 _ (off_out (j := 29) (k := 223) (n := 7) (by decide)), he4, st_ne _ _ (off_ne (i := 29) (j := 223) (by decide)), he3, st_ne _ _ (off_ne (i := 29) (j := 24) (by decide)), he2 _ (off_out (j := 29) (k := 216) (n := 7) (by decide)), he1, st_ne _ _ (off_ne (i := 29) (j := 216) (by decide))]]; exact f_P29
  · rw [h0]; exact f_R7
  · rw [show S232 (a + 32) = S (a + 32) from by rw [he6, st_ne _ _ (off_ne (i := 32) (j := 24) (by decide)), he5 _ (off_out (j := 32) (k := 223) (n := 7) (by decide)), he4, st_ne _ _ (off_ne (i := 32) (j := 223) (by decide)), he3, st_ne _ _ (off_ne (i := 32) (j := 24) (by decide)), he2 _ (off_out (j := 32) (k := 216) (n := 7) (by decide)), he1, st_ne _ _ (off_ne (i := 32) (j := 216) (by decide))]]; exact f_P32
  · rw [show S232 (a + 33) = S (a + 33) from by rw [he6, st_ne _ _ (off_ne (i := 33) (j := 24) (by decide)), he5 _ (off_out (j := 33) (k := 223) (n := 7) (by decide)), he4, st_ne _ _ (off_ne (i := 33) (j := 223) (by decide)), he3, st_ne _ _ (off_ne (i := 33) (j := 24) (by decide)), he2 _ (off_out (j := 33) (k := 216) (n := 7) (by decide)), he1, st_ne _ _ (off_ne (i := 33) (j := 216) (by decide))]]; exact f_P33
  · rw [h0]; exact f_R8
  · rw [show S232 (a + 40) = S (a + 40) from by rw [he6, st_ne _ _ (off_ne (i := 40) (j := 24) (by decide)), he5 _ (off_out (j := 40) (k := 223) (n := 7) (by decide)), he4, st_ne _ _ (off_ne (i := 40) (j := 223) (by decide)), he3, st_ne _ _ (off_ne (i := 40) (j := 24) (by decide)), he2 _ (off_out (j := 40) (k := 216) (n := 7) (by decide)), he1, st_ne _ _ (off_ne (i := 40) (j := 216) (by decide))]]; exact f_A40
  · rw [h0]; exact f_R9
  · rw [show S232 (a + 41) = S (a + 41) from by rw [he6, st_ne _ _ (off_ne (i := 41) (j := 24) (by decide)), he5 _ (off_out (j := 41) (k := 223) (n := 7) (by decide)), he4, st_ne _ _ (off_ne (i := 41) (j := 223) (by decide)), he3, st_ne _ _ (off_ne (i := 41) (j := 24) (by decide)), he2 _ (off_out (j := 41) (k := 216) (n := 7) (by decide)), he1, st_ne _ _ (off_ne (i := 41) (j := 216) (by decide))]]; exact f_A41
  · rw [h0]; exact f_R10
  · rw [show S232 (a + 42) = S (a + 42) from by rw [he6, st_ne _ _ (off_ne (i := 42) (j := 24) (by decide)), he5 _ (off_out (j := 42) (k := 223) (n := 7) (by decide)), he4, st_ne _ _ (off_ne (i := 42) (j := 223) (by decide)), he3, st_ne _ _ (off_ne (i := 42) (j := 24) (by decide)), he2 _ (off_out (j := 42) (k := 216) (n := 7) (by decide)), he1, st_ne _ _ (off_ne (i := 42) (j := 216) (by decide))]]; exact f_A42
  · rw [h0]; exact f_R11
  · rw [show S232 (a + 43) = S (a + 43) from by rw [he6, st_ne _ _ (off_ne (i := 43) (j := 24) (by decide)), he5 _ (off_out (j := 43) (k := 223) (n := 7) (by decide)), he4, st_ne _ _ (off_ne (i := 43) (j := 223) (by decide)), he3, st_ne _ _ (off_ne (i := 43) (j := 24) (by decide)), he2 _ (off_out (j := 43) (k := 216) (n := 7) (by decide)), he1, st_ne _ _ (off_ne (i := 43) (j := 216) (by decide))]]; exact f_P43
  · rw [show S232 (a + 51) = S (a + 51) from by rw [he6, st_ne _ _ (off_ne (i := 51) (j := 24) (by decide)), he5 _ (off_out (j := 51) (k := 223) (n := 7) (by decide)), he4, st_ne _ _ (off_ne (i := 51) (j := 223) (by decide)), he3, st_ne _ _ (off_ne (i := 51) (j := 24) (by decide)), he2 _ (off_out (j := 51) (k := 216) (n := 7) (by decide)), he1, st_ne _ _ (off_ne (i := 51) (j := 216) (by decide))]]; exact f_P51
  · rw [h0]; exact f_R12
  · rw [show S232 (a + 58) = S (a + 58) from by rw [he6, st_ne _ _ (off_ne (i := 58) (j := 24) (by decide)), he5 _ (off_out (j := 58) (k := 223) (n := 7) (by decide)), he4, st_ne _ _ (off_ne (i := 58) (j := 223) (by decide)), he3, st_ne _ _ (off_ne (i := 58) (j := 24) (by decide)), he2 _ (off_out (j := 58) (k := 216) (n := 7) (by decide)), he1, st_ne _ _ (off_ne (i := 58) (j := 216) (by decide))]]; exact f_P58
  · rw [show S232 (a + 66) = S (a + 66) from by rw [he6, st_ne _ _ (off_ne (i := 66) (j := 24) (by decide)), he5 _ (off_out (j := 66) (k := 223) (n := 7) (by decide)), he4, st_ne _ _ (off_ne (i := 66) (j := 223) (by decide)), he3, st_ne _ _ (off_ne (i := 66) (j := 24) (by decide)), he2 _ (off_out (j := 66) (k := 216) (n := 7) (by decide)), he1, st_ne _ _ (off_ne (i := 66) (j := 216) (by decide))]]; exact f_P66
  · rw [h0]; exact f_R13
  · rw [show S232 (a + 73) = S (a + 73) from by rw [he6, st_ne _ _ (off_ne (i := 73) (j := 24) (by decide)), he5 _ (off_out (j := 73) (k := 223) (n := 7) (by decide)), he4, st_ne _ _ (off_ne (i := 73) (j := 223) (by decide)), he3, st_ne _ _ (off_ne (i := 73) (j := 24) (by decide)), he2 _ (off_out (j := 73) (k := 216) (n := 7) (by decide)), he1, st_ne _ _ (off_ne (i := 73) (j := 216) (by decide))]]; exact f_P73
  · rw [h0]; exact f_R14
  · rw [show S232 (a + 78) = S (a + 78) from by rw [he6, st_ne _ _ (off_ne (i := 78) (j := 24) (by decide)), he5 _ (off_out (j := 78) (k := 223) (n := 7) (by decide)), he4, st_ne _ _ (off_ne (i := 78) (j := 223) (by decide)), he3, st_ne _ _ (off_ne (i := 78) (j := 24) (by decide)), he2 _ (off_out (j := 78) (k := 216) (n := 7) (by decide)), he1, st_ne _ _ (off_ne (i := 78) (j := 216) (by decide))]]; exact f_P78
  · rw [h0]; exact f_R15
  · rw [h0]; exact f_I16
  · rw [h0]; exact f_I17
  · rw [h0]; exact f_I18
  · rw [show S232 (a + 83) = S (a + 83) from by rw [he6, st_ne _ _ (off_ne (i := 83) (j := 24) (by decide)), he5 _ (off_out (j := 83) (k := 223) (n := 7) (by decide)), he4, st_ne _ _ (off_ne (i := 83) (j := 223) (by decide)), he3, st_ne _ _ (off_ne (i := 83) (j := 24) (by decide)), he2 _ (off_out (j := 83) (k := 216) (n := 7) (by decide)), he1, st_ne _ _ (off_ne (i := 83) (j := 216) (by decide))]]; exact f_P83
  · rw [show S232 (a + 23) = S (a + 23) from by rw [he6, st_ne _ _ (off_ne (i := 23) (j := 24) (by decide)), he5 _ (off_out (j := 23) (k := 223) (n := 7) (by decide)), he4, st_ne _ _ (off_ne (i := 23) (j := 223) (by decide)), he3, st_ne _ _ (off_ne (i := 23) (j := 24) (by decide)), he2 _ (off_out (j := 23) (k := 216) (n := 7) (by decide)), he1, st_ne _ _ (off_ne (i := 23) (j := 216) (by decide))]]; exact f_Q23
  · rw [show S232 (a + 90) = S (a + 90) from by rw [he6, st_ne _ _ (off_ne (i := 90) (j := 24) (by decide)), he5 _ (off_out (j := 90) (k := 223) (n := 7) (by decide)), he4, st_ne _ _ (off_ne (i := 90) (j := 223) (by decide)), he3, st_ne _ _ (off_ne (i := 90) (j := 24) (by decide)), he2 _ (off_out (j := 90) (k := 216) (n := 7) (by decide)), he1, st_ne _ _ (off_ne (i := 90) (j := 216) (by decide))]]; exact f_P90
  · rw [show S232 (a + 97) = S (a + 97) from by rw [he6, st_ne _ _ (off_ne (i := 97) (j := 24) (by decide)), he5 _ (off_out (j := 97) (k := 223) (n := 7) (by decide)), he4, st_ne _ _ (off_ne (i := 97) (j := 223) (by decide)), he3, st_ne _ _ (off_ne (i := 97) (j := 24) (by decide)), he2 _ (off_out (j := 97) (k := 216) (n := 7) (by decide)), he1, st_ne _ _ (off_ne (i := 97) (j := 216) (by decide))]]; exact f_P97
  · rw [show S232 (a + 104) = S (a + 104) from by rw [he6, st_ne _ _ (off_ne (i := 104) (j := 24) (by decide)), he5 _ (off_out (j := 104) (k := 223) (n := 7) (by decide)), he4, st_ne _ _ (off_ne (i := 104) (j := 223) (by decide)), he3, st_ne _ _ (off_ne (i := 104) (j := 24) (by decide)), he2 _ (off_out (j := 104) (k := 216) (n := 7) (by decide)), he1, st_ne _ _ (off_ne (i := 104) (j := 216) (by decide))]]; exact f_P104
  · rw [show S232 (a + 111) = S (a + 111) from by rw [he6, st_ne _ _ (off_ne (i := 111) (j := 24) (by decide)), he5 _ (off_out (j := 111) (k := 223) (n := 7) (by decide)), he4, st_ne _ _ (off_ne (i := 111) (j := 223) (by decide)), he3, st_ne _ _ (off_ne (i := 111) (j := 24) (by decide)), he2 _ (off_out (j := 111) (k := 216) (n := 7) (by decide)), he1, st_ne _ _ (off_ne (i := 111) (j := 216) (by decide))]]; exact f_P111
  · rw [show S232 (a + 118) = S (a + 118) from by rw [he6, st_ne _ _ (off_ne (i := 118) (j := 24) (by decide)), he5 _ (off_out (j := 118) (k := 223) (n := 7) (by decide)), he4, st_ne _ _ (off_ne (i := 118) (j := 223) (by decide)), he3, st_ne _ _ (off_ne (i := 118) (j := 24) (by decide)), he2 _ (off_out (j := 118) (k := 216) (n := 7) (by decide)), he1, st_ne _ _ (off_ne (i := 118) (j := 216) (by decide))]]; exact f_P118
  · rw [show S232 (a + 125) = S (a + 125) from by rw [he6, st_ne _ _ (off_ne (i := 125) (j := 24) (by decide)), he5 _ (off_out (j := 125) (k := 223) (n := 7) (by decide)), he4, st_ne _ _ (off_ne (i := 125) (j := 223) (by decide)), he3, st_ne _ _ (off_ne (i := 125) (j := 24) (by decide)), he2 _ (off_out (j := 125) (k := 216) (n := 7) (by decide)), he1, st_ne _ _ (off_ne (i := 125) (j := 216) (by decide))]]; exact f_P125
  · rw [show S232 (a + 132) = S (a + 132) from by rw [he6, st_ne _ _ (off_ne (i := 132) (j := 24) (by decide)), he5 _ (off_out (j := 132) (k := 223) (n := 7) (by decide)), he4, st_ne _ _ (off_ne (i := 132) (j := 223) (by decide)), he3, st_ne _ _ (off_ne (i := 132) (j := 24) (by decide)), he2 _ (off_out (j := 132) (k := 216) (n := 7) (by decide)), he1, st_ne _ _ (off_ne (i := 132) (j := 216) (by decide))]]; exact f_P132
  · rw [show S232 (a + 139) = S (a + 139) from by rw [he6, st_ne _ _ (off_ne (i := 139) (j := 24) (by decide)), he5 _ (off_out (j := 139) (k := 223) (n := 7) (by decide)), he4, st_ne _ _ (off_ne (i := 139) (j := 223) (by decide)), he3, st_ne _ _ (off_ne (i := 139) (j := 24) (by decide)), he2 _ (off_out (j := 139) (k := 216) (n := 7) (by decide)), he1, st_ne _ _ (off_ne (i := 139) (j := 216) (by decide))]]; exact f_P139
  · rw [show S232 (a + 146) = S (a + 146) from by rw [he6, st_ne _ _ (off_ne (i := 146) (j := 24) (by decide)), he5 _ (off_out (j := 146) (k := 223) (n := 7) (by decide)), he4, st_ne _ _ (off_ne (i := 146) (j := 223) (by decide)), he3, st_ne _ _ (off_ne (i := 146) (j := 24) (by decide)), he2 _ (off_out (j := 146) (k := 216) (n := 7) (by decide)), he1, st_ne _ _ (off_ne (i := 146) (j := 216) (by decide))]]; exact f_P146
  · rw [show S232 (a + 153) = S (a + 153) from by rw [he6, st_ne _ _ (off_ne (i := 153) (j := 24) (by decide)), he5 _ (off_out (j := 153) (k := 223) (n := 7) (by decide)), he4, st_ne _ _ (off_ne (i := 153) (j := 223) (by decide)), he3, st_ne _ _ (off_ne (i := 153) (j := 24) (by decide)), he2 _ (off_out (j := 153) (k := 216) (n := 7) (by decide)), he1, st_ne _ _ (off_ne (i := 153) (j := 216) (by decide))]]; exact f_P153
  · rw [show S232 (a + 160) = S (a + 160) from by rw [he6, st_ne _ _ (off_ne (i := 160) (j := 24) (by decide)), he5 _ (off_out (j := 160) (k := 223) (n := 7) (by decide)), he4, st_ne _ _ (off_ne (i := 160) (j := 223) (by decide)), he3, st_ne _ _ (off_ne (i := 160) (j := 24) (by decide)), he2 _ (off_out (j := 160) (k := 216) (n := 7) (by decide)), he1, st_ne _ _ (off_ne (i := 160) (j := 216) (by decide))]]; exact f_P160
  · rw [show S232 (a + 167) = S (a + 167) from by rw [he6, st_ne _ _ (off_ne (i := 167) (j := 24) (by decide)), he5 _ (off_out (j := 167) (k := 223) (n := 7) (by decide)), he4, st_ne _ _ (off_ne (i := 167) (j := 223) (by decide)), he3, st_ne _ _ (off_ne (i := 167) (j := 24) (by decide)), he2 _ (off_out (j := 167) (k := 216) (n := 7) (by decide)), he1, st_ne _ _ (off_ne (i := 167) (j := 216) (by decide))]]; exact f_P167
  · rw [show S232 (a + 174) = S (a + 174) from by rw [he6, st_ne _ _ (off_ne (i := 174) (j := 24) (by decide)), he5 _ (off_out (j := 174) (k := 223) (n := 7) (by decide)), he4, st_ne _ _ (off_ne (i := 174) (j := 223) (by decide)), he3, st_ne _ _ (off_ne (i := 174) (j := 24) (by decide)), he2 _ (off_out (j := 174) (k := 216) (n := 7) (by decide)), he1, st_ne _ _ (off_ne (i := 174) (j := 216) (by decide))]]; exact f_P174
  · rw [show S232 (a + 181) = S (a + 181) from by rw [he6, st_ne _ _ (off_ne (i := 181) (j := 24) (by decide)), he5 _ (off_out (j := 181) (k := 223) (n := 7) (by decide)), he4, st_ne _ _ (off_ne (i := 181) (j := 223) (by decide)), he3, st_ne _ _ (off_ne (i := 181) (j := 24) (by decide)), he2 _ (off_out (j := 181) (k := 216) (n := 7) (by decide)), he1, st_ne _ _ (off_ne (i := 181) (j := 216) (by decide))]]; exact f_P181
  · rw [show S232 (a + 188) = S (a + 188) from by rw [he6, st_ne _ _ (off_ne (i := 188) (j := 24) (by decide)), he5 _ (off_out (j := 188) (k := 223) (n := 7) (by decide)), he4, st_ne _ _ (off_ne (i := 188) (j := 223) (by decide)), he3, st_ne _ _ (off_ne (i := 188) (j := 24) (by decide)), he2 _ (off_out (j := 188) (k := 216) (n := 7) (by decide)), he1, st_ne _ _ (off_ne (i := 188) (j := 216) (by decide))]]; exact f_P188
  · rw [show S232 (a + 195) = S (a + 195) from by rw [he6, st_ne _ _ (off_ne (i := 195) (j := 24) (by decide)), he5 _ (off_out (j := 195) (k := 223) (n := 7) (by decide)), he4, st_ne _ _ (off_ne (i := 195) (j := 223) (by decide)), he3, st_ne _ _ (off_ne (i := 195) (j := 24) (by decide)), he2 _ (off_out (j := 195) (k := 216) (n := 7) (by decide)), he1, st_ne _ _ (off_ne (i := 195) (j := 216) (by decide))]]; exact f_P195
  · rw [show S232 (a + 202) = S (a + 202) from by rw [he6, st_ne _ _ (off_ne (i := 202) (j := 24) (by decide)), he5 _ (off_out (j := 202) (k := 223) (n := 7) (by decide)), he4, st_ne _ _ (off_ne (i := 202) (j := 223) (by decide)), he3, st_ne _ _ (off_ne (i := 202) (j := 24) (by decide)), he2 _ (off_out (j := 202) (k := 216) (n := 7) (by decide)), he1, st_ne _ _ (off_ne (i := 202) (j := 216) (by decide))]]; exact f_P202
  · rw [show S232 (a + 209) = S (a + 209) from by rw [he6, st_ne _ _ (off_ne (i := 209) (j := 24) (by decide)), he5 _ (off_out (j := 209) (k := 223) (n := 7) (by decide)), he4, st_ne _ _ (off_ne (i := 209) (j := 223) (by decide)), he3, st_ne _ _ (off_ne (i := 209) (j := 24) (by decide)), he2 _ (off_out (j := 209) (k := 216) (n := 7) (by decide)), he1, st_ne _ _ (off_ne (i := 209) (j := 216) (by decide))]]; exact f_P209
  · rw [h24]; exact w_Q24
  · rw [show S232 (a + 216) = S223 (a + 216) from by rw [he6, st_ne _ _ (off_ne (i := 216) (j := 24) (by decide)), he5 _ (off_out (j := 216) (k := 223) (n := 7) (by decide)), he4, st_ne _ _ (off_ne (i := 216) (j := 223) (by decide)), he3, st_ne _ _ (off_ne (i := 216) (j := 24) (by decide))]]; exact p216
  · rw [show S232 (a + 223) = S231 (a + 223) from by rw [he6, st_ne _ _ (off_ne (i := 223) (j := 24) (by decide))]]; exact p223
set_option maxHeartbeats 4000000 in
theorem sg12_15 {fu : Nat} {G : GG} {S : ST} {a : Nat} (hJ : J12_15 a S) : ∃ z, f_X12_init_g15 fu G S a = some z ∧ RC a z A00 := by
  obtain ⟨f_C, f_P1, f_R0, f_P6, f_P7, f_R1, f_P9, f_R2, f_P16, f_R3, f_R4, f_R5, f_P25, f_R6, f_C23, f_N23, f_C24, f_N24, f_P29, f_R7, f_P32, f_P33, f_R8, f_A40, f_R9, f_A41, f_R10, f_A42, f_R11, f_P43, f_P51, f_R12, f_P58, f_P66, f_R13, f_P73, f_R14, f_P78, f_R15, f_I16, f_I17, f_I18, f_P83, f_Q23, f_P90, f_P97, f_P104, f_P111, f_P118, f_P125, f_P132, f_P139, f_P146, f_P153, f_P160, f_P167, f_P174, f_P181, f_P188, f_P195, f_P202, f_P209, f_Q24, f_P216, f_P223⟩ := hJ
  unfold f_X12_init_g15
  obtain ⟨V0, h0⟩ : ∃ y, S a = y := ⟨_, rfl⟩
  rw [h0] at f_C f_R0 f_R1 f_R2 f_R3 f_R4 f_R5 f_R6 f_R7 f_R8 f_R9 f_R10 f_R11 f_R12 f_R13 f_R14 f_R15 f_I16 f_I17 f_I18
  have rV : ∀ k x, gR V0 k = x → gR (S a) k = x := fun k x hx => by rw [h0]; exact hx
  refine ex_ck (frB_of (by rw [h0]; exact f_C) (fun k hk => ?_)) ?_
  · rw [nf_10] at hk
    rcases (show k = 0 ∨ k = 1 ∨ k = 2 ∨ k = 3 ∨ k = 4 ∨ k = 5 ∨ k = 6 ∨ k = 7 ∨ k = 8 ∨ k = 9 ∨ k = 10 ∨ k = 11 ∨ k = 12 ∨ k = 13 ∨ k = 14 ∨ k = 15 ∨ k = 16 ∨ k = 17 ∨ k = 18 by omega) with rfl | rfl | rfl | rfl | rfl | rfl | rfl | rfl | rfl | rfl | rfl | rfl | rfl | rfl | rfl | rfl | rfl | rfl | rfl
    · rw [ds_10_0]
      exact ⟨fun h => absurd h (by decide), fun _ => (rV 0 _ (by exact f_R0)), fun h => absurd h (by decide)⟩
    · rw [ds_10_1]
      exact ⟨fun h => absurd h (by decide), fun _ => (rV 1 _ (by exact f_R1)), fun h => absurd h (by decide)⟩
    · rw [ds_10_2]
      exact ⟨fun h => absurd h (by decide), fun _ => (rV 2 _ (by exact f_R2)), fun h => absurd h (by decide)⟩
    · rw [ds_10_3]
      exact ⟨fun h => absurd h (by decide), fun _ => (rV 3 _ (by exact f_R3)), fun h => absurd h (by decide)⟩
    · rw [ds_10_4]
      refine ⟨fun _ => ⟨(rV 4 _ (by exact f_R4)), ?_, ?_⟩, fun h => absurd h (by decide), fun h => absurd h (by decide)⟩
      · show gC (S (a + 23)) = _
        exact f_C23
      · show _ ∨ gN (S (a + 23)) 0 = _
        exact Or.inr f_N23
    · rw [ds_10_5]
      refine ⟨fun _ => ⟨(rV 5 _ (by exact f_R5)), ?_, ?_⟩, fun h => absurd h (by decide), fun h => absurd h (by decide)⟩
      · show gC (S (a + 24)) = _
        exact f_C24
      · show _ ∨ gN (S (a + 24)) 0 = _
        exact Or.inr f_N24
    · rw [ds_10_6]
      exact ⟨fun h => absurd h (by decide), fun _ => (rV 6 _ (by exact f_R6)), fun h => absurd h (by decide)⟩
    · rw [ds_10_7]
      exact ⟨fun h => absurd h (by decide), fun _ => (rV 7 _ (by exact f_R7)), fun h => absurd h (by decide)⟩
    · rw [ds_10_8]
      exact ⟨fun h => absurd h (by decide), fun _ => (rV 8 _ (by exact f_R8)), fun h => absurd h (by decide)⟩
    · rw [ds_10_9]
      refine ⟨fun _ => ⟨(rV 9 _ (by exact f_R9)), ?_, ?_⟩, fun h => absurd h (by decide), fun h => absurd h (by decide)⟩
      · show gC (S (a + 40)) = _
        rw [f_A40]; rfl
      · show _ ∨ gN (S (a + 40)) 0 = _
        rw [f_A40]; exact Or.inr rfl
    · rw [ds_10_10]
      refine ⟨fun _ => ⟨(rV 10 _ (by exact f_R10)), ?_, ?_⟩, fun h => absurd h (by decide), fun h => absurd h (by decide)⟩
      · show gC (S (a + 41)) = _
        rw [f_A41]; rfl
      · show _ ∨ gN (S (a + 41)) 0 = _
        rw [f_A41]; exact Or.inr rfl
    · rw [ds_10_11]
      refine ⟨fun _ => ⟨(rV 11 _ (by exact f_R11)), ?_, ?_⟩, fun h => absurd h (by decide), fun h => absurd h (by decide)⟩
      · show gC (S (a + 42)) = _
        rw [f_A42]; rfl
      · show _ ∨ gN (S (a + 42)) 0 = _
        rw [f_A42]; exact Or.inr rfl
    · rw [ds_10_12]
      exact ⟨fun h => absurd h (by decide), fun h => absurd h (by decide), fun h => absurd h (by decide)⟩
    · rw [ds_10_13]
      exact ⟨fun h => absurd h (by decide), fun h => absurd h (by decide), fun h => absurd h (by decide)⟩
    · rw [ds_10_14]
      exact ⟨fun h => absurd h (by decide), fun h => absurd h (by decide), fun h => absurd h (by decide)⟩
    · rw [ds_10_15]
      exact ⟨fun h => absurd h (by decide), fun h => absurd h (by decide), fun h => absurd h (by decide)⟩
    · rw [ds_10_16]
      exact ⟨fun h => absurd h (by decide), fun h => absurd h (by decide), fun h => absurd h (by decide)⟩
    · rw [ds_10_17]
      exact ⟨fun h => absurd h (by decide), fun h => absurd h (by decide), fun h => absurd h (by decide)⟩
    · rw [ds_10_18]
      exact ⟨fun h => absurd h (by decide), fun h => absurd h (by decide), fun h => absurd h (by decide)⟩
  refine ex_nm (fun z he => ?_)
  have h1 := frm_at (a := a) (k := 1) he (by decide) (by decide +kernel)
  have h6 := frm_at (a := a) (k := 6) he (by decide) (by decide +kernel)
  have h7 := frm_at (a := a) (k := 7) he (by decide) (by decide +kernel)
  have h9 := frm_at (a := a) (k := 9) he (by decide) (by decide +kernel)
  have h16 := frm_at (a := a) (k := 16) he (by decide) (by decide +kernel)
  have h25 := frm_at (a := a) (k := 25) he (by decide) (by decide +kernel)
  have h29 := frm_at (a := a) (k := 29) he (by decide) (by decide +kernel)
  have h32 := frm_at (a := a) (k := 32) he (by decide) (by decide +kernel)
  have h33 := frm_at (a := a) (k := 33) he (by decide) (by decide +kernel)
  have h43 := frm_at (a := a) (k := 43) he (by decide) (by decide +kernel)
  have h51 := frm_at (a := a) (k := 51) he (by decide) (by decide +kernel)
  have h58 := frm_at (a := a) (k := 58) he (by decide) (by decide +kernel)
  have h66 := frm_at (a := a) (k := 66) he (by decide) (by decide +kernel)
  have h73 := frm_at (a := a) (k := 73) he (by decide) (by decide +kernel)
  have h78 := frm_at (a := a) (k := 78) he (by decide) (by decide +kernel)
  have h83 := frm_at (a := a) (k := 83) he (by decide) (by decide +kernel)
  have h90 := frm_at (a := a) (k := 90) he (by decide) (by decide +kernel)
  have h97 := frm_at (a := a) (k := 97) he (by decide) (by decide +kernel)
  have h104 := frm_at (a := a) (k := 104) he (by decide) (by decide +kernel)
  have h111 := frm_at (a := a) (k := 111) he (by decide) (by decide +kernel)
  have h118 := frm_at (a := a) (k := 118) he (by decide) (by decide +kernel)
  have h125 := frm_at (a := a) (k := 125) he (by decide) (by decide +kernel)
  have h132 := frm_at (a := a) (k := 132) he (by decide) (by decide +kernel)
  have h139 := frm_at (a := a) (k := 139) he (by decide) (by decide +kernel)
  have h146 := frm_at (a := a) (k := 146) he (by decide) (by decide +kernel)
  have h153 := frm_at (a := a) (k := 153) he (by decide) (by decide +kernel)
  have h160 := frm_at (a := a) (k := 160) he (by decide) (by decide +kernel)
  have h167 := frm_at (a := a) (k := 167) he (by decide) (by decide +kernel)
  have h174 := frm_at (a := a) (k := 174) he (by decide) (by decide +kernel)
  have h181 := frm_at (a := a) (k := 181) he (by decide) (by decide +kernel)
  have h188 := frm_at (a := a) (k := 188) he (by decide) (by decide +kernel)
  have h195 := frm_at (a := a) (k := 195) he (by decide) (by decide +kernel)
  have h202 := frm_at (a := a) (k := 202) he (by decide) (by decide +kernel)
  have h209 := frm_at (a := a) (k := 209) he (by decide) (by decide +kernel)
  have h216 := frm_at (a := a) (k := 216) he (by decide) (by decide +kernel)
  have h223 := frm_at (a := a) (k := 223) he (by decide) (by decide +kernel)
  have hz : z a = frv S a 10 28 := by rw [he]; exact if_pos rfl
  refine ⟨_, rfl, ?_⟩
  refine ⟨a + 43, a + 58, a + 73, a + 78, 0, ⟨⟨by rw [hz]; rfl, by rw [h1]; exact f_P1.1, by rw [h9]; exact f_P9.1, by rw [h16]; exact f_P16.1, by rw [h25]; exact f_P25, by rw [h29]; exact f_P29, by rw [h32]; exact f_P32, by rw [h33]; exact f_P33⟩, ⟨by rw [h43]; exact f_P43.1, by rw [h58]; exact f_P58.1, by rw [show a + 43 + 8 = a + 51 from rfl, h51]; exact f_P51.1, by rw [show a + 58 + 8 = a + 66 from rfl, h66]; exact f_P66.1, by rw [h73]; exact f_P73.1, by rw [h78]; exact f_P78.1⟩, fun i hi => ⟨?_, by rw [hz, frw_Q, ds_10_4]; exact f_Q23 i hi⟩, fun i hi => ⟨?_, by rw [hz, frw_Q, ds_10_5]; exact f_Q24 i hi⟩, ⟨by rw [hz]; show gR (S a) 12 = _; rw [h0]; exact f_R12, by rw [hz]; show gR (S a) 13 = _; rw [h0]; exact f_R13, by rw [hz]; show gR (S a) 14 = _; rw [h0]; exact f_R14, by rw [hz]; show gR (S a) 15 = _; rw [h0]; exact f_R15⟩, Or.inl ⟨rfl, rfl⟩, Or.inl ⟨rfl, rfl⟩, by rw [h6]; exact f_P6.1, by rw [h6]; exact f_P6.2, by rw [h7]; exact f_P7.1, by rw [h7]; exact f_P7.2⟩, by rw [h9]; exact f_P9.2, ⟨by rw [h43]; exact f_P43.1, by rw [h43]; exact f_P43.2.1, by rw [h43]; exact f_P43.2.2.1, by rw [h43]; exact f_P43.2.2.2.1, fun i hi => absurd hi (Nat.not_lt_zero _), fun i hi => absurd hi (Nat.not_lt_zero _), Or.inl ⟨by rw [h43]; exact f_P43.2.2.2.2.1, rfl⟩, Or.inl ⟨by rw [h43]; exact f_P43.2.2.2.2.2, rfl⟩⟩, ⟨fun i hi => absurd hi (Nat.not_lt_zero _), fun i hi => absurd hi (Nat.not_lt_zero _), fun i hi => absurd hi (Nat.not_lt_zero _)⟩, by rw [show a + 43 + 8 = a + 51 from rfl, h51]; exact f_P51.2, ⟨by rw [hz, frw_I (by decide +kernel), h0]; exact f_I16, by decide, by rw [hz, frw_I (by decide +kernel), h0]; exact f_I17, fun i hi => absurd hi (Nat.not_lt_zero _)⟩, ⟨by rw [hz, frw_I (by decide +kernel), h0]; exact f_I18, fun i _ hb => ?_⟩, ⟨by rw [h73]; exact f_P73.2, fun i hi => absurd hi (Nat.not_lt_zero _)⟩, ⟨by rw [h1]; exact f_P1.2, fun i hi => absurd hi (Nat.not_lt_zero _)⟩⟩
  · rcases (show i = 0 ∨ i = 1 ∨ i = 2 ∨ i = 3 ∨ i = 4 ∨ i = 5 ∨ i = 6 ∨ i = 7 ∨ i = 8 ∨ i = 9 ∨ i = 10 ∨ i = 11 ∨ i = 12 ∨ i = 13 ∨ i = 14 ∨ i = 15 ∨ i = 16 by omega) with rfl | rfl | rfl | rfl | rfl | rfl | rfl | rfl | rfl | rfl | rfl | rfl | rfl | rfl | rfl | rfl | rfl
    · rw [show a + 83 + 7 * 0 = a + 83 by omega, h83]; exact f_P83.1
    · rw [show a + 83 + 7 * 1 = a + 90 by omega, h90]; exact f_P90.1
    · rw [show a + 83 + 7 * 2 = a + 97 by omega, h97]; exact f_P97.1
    · rw [show a + 83 + 7 * 3 = a + 104 by omega, h104]; exact f_P104.1
    · rw [show a + 83 + 7 * 4 = a + 111 by omega, h111]; exact f_P111.1
    · rw [show a + 83 + 7 * 5 = a + 118 by omega, h118]; exact f_P118.1
    · rw [show a + 83 + 7 * 6 = a + 125 by omega, h125]; exact f_P125.1
    · rw [show a + 83 + 7 * 7 = a + 132 by omega, h132]; exact f_P132.1
    · rw [show a + 83 + 7 * 8 = a + 139 by omega, h139]; exact f_P139.1
    · rw [show a + 83 + 7 * 9 = a + 146 by omega, h146]; exact f_P146.1
    · rw [show a + 83 + 7 * 10 = a + 153 by omega, h153]; exact f_P153.1
    · rw [show a + 83 + 7 * 11 = a + 160 by omega, h160]; exact f_P160.1
    · rw [show a + 83 + 7 * 12 = a + 167 by omega, h167]; exact f_P167.1
    · rw [show a + 83 + 7 * 13 = a + 174 by omega, h174]; exact f_P174.1
    · rw [show a + 83 + 7 * 14 = a + 181 by omega, h181]; exact f_P181.1
    · rw [show a + 83 + 7 * 15 = a + 188 by omega, h188]; exact f_P188.1
    · rw [show a + 83 + 7 * 16 = a + 195 by omega, h195]; exact f_P195.1
  · rcases (show i = 0 ∨ i = 1 ∨ i = 2 ∨ i = 3 by omega) with rfl | rfl | rfl | rfl
    · rw [show a + 202 + 7 * 0 = a + 202 by omega, h202]; exact f_P202.1
    · rw [show a + 202 + 7 * 1 = a + 209 by omega, h209]; exact f_P209.1
    · rw [show a + 202 + 7 * 2 = a + 216 by omega, h216]; exact f_P216.1
    · rw [show a + 202 + 7 * 3 = a + 223 by omega, h223]; exact f_P223.1
  · have hb : bt 0 i = 1 := hb
    unfold bt at hb; rw [Nat.zero_div] at hb; omega
theorem i_X12 {fu : Nat} {G : GG} {S : ST} {a : Nat} (hJ : gC (S a) = 23) : ∃ z, f_X12_init fu G S a = some z ∧ RC a z A00 :=
  sg12_0 hJ (fun S1 hJ => sg12_1 hJ (fun S2 hJ => sg12_2 hJ (fun S3 hJ => sg12_3 hJ (fun S4 hJ => sg12_4 hJ (fun S5 hJ => sg12_5 hJ (fun S6 hJ => sg12_6 hJ (fun S7 hJ => sg12_7 hJ (fun S8 hJ => sg12_8 hJ (fun S9 hJ => sg12_9 hJ (fun S10 hJ => sg12_10 hJ (fun S11 hJ => sg12_11 hJ (fun S12 hJ => sg12_12 hJ (fun S13 hJ => sg12_13 hJ (fun S14 hJ => sg12_14 hJ (fun S15 hJ => sg12_15 hJ)))))))))))))))
