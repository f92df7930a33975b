/-! ===== the constructor of the model ===== -/
def J13_0 (a : Nat) (S0 : ST) (S : ST) : Prop := (∀ b, b < a ∨ a + 27 ≤ b → S b = S0 b) ∧ (gC (S a) = 24) ∧ (gI (S a) 2 = nI 0) ∧ (gI (S a) 18 = nI 0)
def J13_1 (a : Nat) (S0 : ST) (S : ST) : Prop := (∀ b, b < a ∨ a + 27 ≤ b → S b = S0 b) ∧ (gC (S a) = 24) ∧ (gI (S a) 2 = nI 0) ∧ (gI (S a) 18 = nI 0) ∧ (S (a + 1) = barr 1 1000) ∧ (gR (S a) 1 = (some (a + 1))) ∧ (S (a + 2) = barr 1 1002) ∧ (gR (S a) 4 = (some (a + 2))) ∧ (S (a + 3) = barr 1 1002) ∧ (gR (S a) 5 = (some (a + 3))) ∧ (S (a + 4) = barr 2 1002) ∧ (gR (S a) 6 = (some (a + 4))) ∧ (gR (S a) 9 = (some (a + 5))) ∧ (gC (S (a + 5)) = 26) ∧ (gN (S (a + 5)) 0 = 29) ∧ (∀ i, i < 29 → gL (S (a + 5)) 0 i = lN (wds.getD i 0))
def J13_2 (a : Nat) (S0 : ST) (S : ST) : Prop := (∀ b, b < a ∨ a + 27 ≤ b → S b = S0 b) ∧ (gC (S a) = 24) ∧ (gI (S a) 2 = nI 0) ∧ (gI (S a) 18 = nI 0) ∧ (S (a + 1) = barr 1 1000) ∧ (gR (S a) 1 = (some (a + 1))) ∧ (S (a + 2) = barr 1 1002) ∧ (gR (S a) 4 = (some (a + 2))) ∧ (S (a + 3) = barr 1 1002) ∧ (gR (S a) 5 = (some (a + 3))) ∧ (S (a + 4) = barr 2 1002) ∧ (gR (S a) 6 = (some (a + 4))) ∧ (gR (S a) 9 = (some (a + 5))) ∧ (gC (S (a + 5)) = 26) ∧ (gN (S (a + 5)) 0 = 29) ∧ (∀ i, i < 29 → gL (S (a + 5)) 0 i = lN (wds.getD i 0)) ∧ (S (a + 6) = barr 1 140) ∧ (gR (S a) 10 = (some (a + 6))) ∧ (S (a + 7) = barr 1 2200) ∧ (gR (S a) 11 = (some (a + 7))) ∧ (S (a + 8) = barr 1 2200) ∧ (gR (S a) 12 = (some (a + 8))) ∧ (S (a + 9) = barr 2 18) ∧ (gR (S a) 14 = (some (a + 9))) ∧ (S (a + 10) = barr 2 18) ∧ (gR (S a) 15 = (some (a + 10)))
def J13_3 (a : Nat) (S0 : ST) (S : ST) : Prop := (∀ b, b < a ∨ a + 27 ≤ b → S b = S0 b) ∧ (gC (S a) = 24) ∧ (gI (S a) 2 = nI 0) ∧ (gI (S a) 18 = nI 0) ∧ (S (a + 1) = barr 1 1000) ∧ (gR (S a) 1 = (some (a + 1))) ∧ (S (a + 2) = barr 1 1002) ∧ (gR (S a) 4 = (some (a + 2))) ∧ (S (a + 3) = barr 1 1002) ∧ (gR (S a) 5 = (some (a + 3))) ∧ (S (a + 4) = barr 2 1002) ∧ (gR (S a) 6 = (some (a + 4))) ∧ (gR (S a) 9 = (some (a + 5))) ∧ (gC (S (a + 5)) = 26) ∧ (gN (S (a + 5)) 0 = 29) ∧ (∀ i, i < 29 → gL (S (a + 5)) 0 i = lN (wds.getD i 0)) ∧ (S (a + 6) = barr 1 140) ∧ (gR (S a) 10 = (some (a + 6))) ∧ (S (a + 7) = barr 1 2200) ∧ (gR (S a) 11 = (some (a + 7))) ∧ (S (a + 8) = barr 1 2200) ∧ (gR (S a) 12 = (some (a + 8))) ∧ (S (a + 9) = barr 2 18) ∧ (gR (S a) 14 = (some (a + 9))) ∧ (S (a + 10) = barr 2 18) ∧ (gR (S a) 15 = (some (a + 10))) ∧ (S (a + 11) = barr 1 18) ∧ (gR (S a) 16 = (some (a + 11))) ∧ (S (a + 12) = barr 1 18) ∧ (gR (S a) 17 = (some (a + 12))) ∧ (S (a + 13) = barr 1 250) ∧ (gR (S a) 21 = (some (a + 13))) ∧ (S (a + 14) = barr 1 4) ∧ (gR (S a) 22 = (some (a + 14))) ∧ (S (a + 15) = barr 1 1100) ∧ (gR (S a) 23 = (some (a + 15)))
def J13_4 (a : Nat) (S0 : ST) (S : ST) : Prop := (∀ b, b < a ∨ a + 27 ≤ b → S b = S0 b) ∧ (gC (S a) = 24) ∧ (gI (S a) 2 = nI 0) ∧ (gI (S a) 18 = nI 0) ∧ (S (a + 1) = barr 1 1000) ∧ (gR (S a) 1 = (some (a + 1))) ∧ (S (a + 2) = barr 1 1002) ∧ (gR (S a) 4 = (some (a + 2))) ∧ (S (a + 3) = barr 1 1002) ∧ (gR (S a) 5 = (some (a + 3))) ∧ (S (a + 4) = barr 2 1002) ∧ (gR (S a) 6 = (some (a + 4))) ∧ (gR (S a) 9 = (some (a + 5))) ∧ (gC (S (a + 5)) = 26) ∧ (gN (S (a + 5)) 0 = 29) ∧ (∀ i, i < 29 → gL (S (a + 5)) 0 i = lN (wds.getD i 0)) ∧ (S (a + 6) = barr 1 140) ∧ (gR (S a) 10 = (some (a + 6))) ∧ (S (a + 7) = barr 1 2200) ∧ (gR (S a) 11 = (some (a + 7))) ∧ (S (a + 8) = barr 1 2200) ∧ (gR (S a) 12 = (some (a + 8))) ∧ (S (a + 9) = barr 2 18) ∧ (gR (S a) 14 = (some (a + 9))) ∧ (S (a + 10) = barr 2 18) ∧ (gR (S a) 15 = (some (a + 10))) ∧ (S (a + 11) = barr 1 18) ∧ (gR (S a) 16 = (some (a + 11))) ∧ (S (a + 12) = barr 1 18) ∧ (gR (S a) 17 = (some (a + 12))) ∧ (S (a + 13) = barr 1 250) ∧ (gR (S a) 21 = (some (a + 13))) ∧ (S (a + 14) = barr 1 4) ∧ (gR (S a) 22 = (some (a + 14))) ∧ (S (a + 15) = barr 1 1100) ∧ (gR (S a) 23 = (some (a + 15))) ∧ (S (a + 16) = barr 1 1518) ∧ (gR (S a) 24 = (some (a + 16))) ∧ (S (a + 17) = barr 4 4) ∧ (gR (S a) 26 = (some (a + 17))) ∧ (S (a + 18) = barr 1 6) ∧ (gR (S a) 27 = (some (a + 18))) ∧ (S (a + 19) = barr 1 6) ∧ (gR (S a) 28 = (some (a + 19))) ∧ (S (a + 20) = barr 1 6) ∧ (gR (S a) 29 = (some (a + 20)))
def J13_5 (a : Nat) (S0 : ST) (S : ST) : Prop := (∀ b, b < a ∨ a + 27 ≤ b → S b = S0 b) ∧ (gC (S a) = 24) ∧ (gI (S a) 2 = nI 0) ∧ (gI (S a) 18 = nI 0) ∧ (S (a + 1) = barr 1 1000) ∧ (gR (S a) 1 = (some (a + 1))) ∧ (S (a + 2) = barr 1 1002) ∧ (gR (S a) 4 = (some (a + 2))) ∧ (S (a + 3) = barr 1 1002) ∧ (gR (S a) 5 = (some (a + 3))) ∧ (S (a + 4) = barr 2 1002) ∧ (gR (S a) 6 = (some (a + 4))) ∧ (gR (S a) 9 = (some (a + 5))) ∧ (gC (S (a + 5)) = 26) ∧ (gN (S (a + 5)) 0 = 29) ∧ (∀ i, i < 29 → gL (S (a + 5)) 0 i = lN (wds.getD i 0)) ∧ (S (a + 6) = barr 1 140) ∧ (gR (S a) 10 = (some (a + 6))) ∧ (S (a + 7) = barr 1 2200) ∧ (gR (S a) 11 = (some (a + 7))) ∧ (S (a + 8) = barr 1 2200) ∧ (gR (S a) 12 = (some (a + 8))) ∧ (S (a + 9) = barr 2 18) ∧ (gR (S a) 14 = (some (a + 9))) ∧ (S (a + 10) = barr 2 18) ∧ (gR (S a) 15 = (some (a + 10))) ∧ (S (a + 11) = barr 1 18) ∧ (gR (S a) 16 = (some (a + 11))) ∧ (S (a + 12) = barr 1 18) ∧ (gR (S a) 17 = (some (a + 12))) ∧ (S (a + 13) = barr 1 250) ∧ (gR (S a) 21 = (some (a + 13))) ∧ (S (a + 14) = barr 1 4) ∧ (gR (S a) 22 = (some (a + 14))) ∧ (S (a + 15) = barr 1 1100) ∧ (gR (S a) 23 = (some (a + 15))) ∧ (S (a + 16) = barr 1 1518) ∧ (gR (S a) 24 = (some (a + 16))) ∧ (S (a + 17) = barr 4 4) ∧ (gR (S a) 26 = (some (a + 17))) ∧ (S (a + 18) = barr 1 6) ∧ (gR (S a) 27 = (some (a + 18))) ∧ (S (a + 19) = barr 1 6) ∧ (gR (S a) 28 = (some (a + 19))) ∧ (S (a + 20) = barr 1 6) ∧ (gR (S a) 29 = (some (a + 20))) ∧ (S (a + 21) = barr 1 5) ∧ (gR (S a) 32 = (some (a + 21))) ∧ (S (a + 22) = barr 1 8) ∧ (gR (S a) 33 = (some (a + 22))) ∧ (S (a + 23) = barr 1 8) ∧ (gR (S a) 34 = (some (a + 23))) ∧ (S (a + 24) = barr 1 8) ∧ (gR (S a) 35 = (some (a + 24))) ∧ (S (a + 25) = barr 1 10) ∧ (gR (S a) 38 = (some (a + 25)))
set_option maxHeartbeats 4000000 in
theorem sg13_0 {fu : Nat} {G : GG} {S S0 : ST} {a : Nat} {P : ST → Prop} (hJ : J13_0 a S0 S) (nx : ∀ S', J13_1 a S0 S' → ∃ z, f_X13_init_g1 fu G S' a = some z ∧ P z) : ∃ z, f_X13_init fu G S a = some z ∧ P z := by
  obtain ⟨hF, f_C, f_I2, f_I18⟩ := hJ
  unfold f_X13_init
  obtain ⟨V0, h0⟩ : ∃ y, S a = y := ⟨_, rfl⟩
  rw [h0] at f_C f_I2 f_I18
  refine ex_nm (fun S1 he1 => ?_)
  have h0 := (st_at he1 (off_ne0 (j := 1) (by decide))).trans h0
  refine ex_ck (decide_eq_true (by rw [h0]; exact f_C)) ?_
  refine ex_nm (fun S2 he2 => ?_)
  obtain ⟨V1, eV1⟩ : ∃ y, y = sR V0 1 (some (a + 1)) := ⟨_, rfl⟩
  have h0 : S2 a = V1 := by rw [he2, st_same, h0, eV1]
  refine ex_nm (fun S4 he3 => ?_)
  have h0 := (st_at he3 (off_ne0 (j := 2) (by decide))).trans h0
  refine ex_ck (decide_eq_true (by rw [h0]; exact (by simp only [eV1, gC_sR, gC_sI, gC_sJ, gR_sR, gR_sI, gR_sJ, gI_sR, gI_sI, gI_sJ, Nat.reduceEqDiff, ↓reduceIte]; exact f_C))) ?_
  refine ex_nm (fun S5 he4 => ?_)
  obtain ⟨V2, eV2⟩ : ∃ y, y = sR V1 4 (some (a + 2)) := ⟨_, rfl⟩
  have h0 : S5 a = V2 := by rw [he4, st_same, h0, eV2]
  refine ex_nm (fun S7 he5 => ?_)
  have h0 := (st_at he5 (off_ne0 (j := 3) (by decide))).trans h0
  refine ex_ck (decide_eq_true (by rw [h0]; exact (by simp only [eV2, eV1, gC_sR, gC_sI, gC_sJ, gR_sR, gR_sI, gR_sJ, gI_sR, gI_sI, gI_sJ, Nat.reduceEqDiff, ↓reduceIte]; exact f_C))) ?_
  refine ex_nm (fun S8 he6 => ?_)
  obtain ⟨V3, eV3⟩ : ∃ y, y = sR V2 5 (some (a + 3)) := ⟨_, rfl⟩
  have h0 : S8 a = V3 := by rw [he6, st_same, h0, eV3]
  refine ex_nm (fun S10 he7 => ?_)
  have h0 := (st_at he7 (off_ne0 (j := 4) (by decide))).trans h0
  refine ex_ck (decide_eq_true (by rw [h0]; exact (by simp only [eV3, eV2, eV1, gC_sR, gC_sI, gC_sJ, gR_sR, gR_sI, gR_sJ, gI_sR, gI_sI, gI_sJ, Nat.reduceEqDiff, ↓reduceIte]; exact f_C))) ?_
  refine ex_nm (fun S11 he8 => ?_)
  obtain ⟨V4, eV4⟩ : ∃ y, y = sR V3 6 (some (a + 4)) := ⟨_, rfl⟩
  have h0 : S11 a = V4 := by rw [he8, st_same, h0, eV4]
  refine ex_nm (fun S13 he9 => ?_)
  have h0 := (st_at he9 (off_ne0 (j := 5) (by decide))).trans h0
  have h5 : S13 (a + 5) = barr 2 29 := by rw [he9, st_same]
  have w_C5 : gC (barr 2 29) = 26 := rfl
  have w_N5 : gN (barr 2 29) 0 = 29 := rfl
  have w_Q5 : ∀ i, i < 0 → gL (barr 2 29) 0 i = lN (wds.getD i 0) := fun i hi => absurd hi (Nat.not_lt_zero _)
  generalize barr 2 29 = W5 at h5 w_C5 w_N5 w_Q5
  refine ex_ck (decide_eq_true (by rw [h5]; exact w_C5)) ?_
  refine ex_ck (by rw [h5, w_N5]; decide) ?_
  refine ex_nm (fun S14 he10 => ?_)
  have h0 := (st_at he10 (off_ne0 (j := 5) (by decide))).trans h0
  rw [h5, show (0 : Int32).toNatClampNeg = 0 by decide] at he10
  have h5 := (congrFun he10 (a + 5)).trans (st_same _ _ _)
  have w_Q5 := gL_step (x := (984886 : Int64)) w_Q5 (by decide)
  have w_C5 : gC (sL W5 0 0 (984886 : Int64)) = 26 := w_C5
  have w_N5 : gN (sL W5 0 0 (984886 : Int64)) 0 = 29 := w_N5
  obtain ⟨W5_10, eW⟩ : ∃ y, sL W5 0 0 (984886 : Int64) = y := ⟨_, rfl⟩
  rw [eW] at h5 w_Q5 w_C5 w_N5 he10
  clear eW
  refine ex_ck (decide_eq_true (by rw [h5]; exact w_C5)) ?_
  refine ex_ck (by rw [h5, w_N5]; decide) ?_
  refine ex_nm (fun S17 he11 => ?_)
  have h0 := (st_at he11 (off_ne0 (j := 5) (by decide))).trans h0
  rw [h5, show (1 : Int32).toNatClampNeg = 1 by decide] at he11
  have h5 := (congrFun he11 (a + 5)).trans (st_same _ _ _)
  have w_Q5 := gL_step (x := (37900956 : Int64)) w_Q5 (by decide)
  have w_C5 : gC (sL W5_10 0 1 (37900956 : Int64)) = 26 := w_C5
  have w_N5 : gN (sL W5_10 0 1 (37900956 : Int64)) 0 = 29 := w_N5
  obtain ⟨W5_11, eW⟩ : ∃ y, sL W5_10 0 1 (37900956 : Int64) = y := ⟨_, rfl⟩
  rw [eW] at h5 w_Q5 w_C5 w_N5 he11
  clear eW
  refine ex_ck (decide_eq_true (by rw [h5]; exact w_C5)) ?_
  refine ex_ck (by rw [h5, w_N5]; decide) ?_
  refine ex_nm (fun S20 he12 => ?_)
  have h0 := (st_at he12 (off_ne0 (j := 5) (by decide))).trans h0
  rw [h5, show (2 : Int32).toNatClampNeg = 2 by decide] at he12
  have h5 := (congrFun he12 (a + 5)).trans (st_same _ _ _)
  have w_Q5 := gL_step (x := (36179019 : Int64)) w_Q5 (by decide)
  have w_C5 : gC (sL W5_11 0 2 (36179019 : Int64)) = 26 := w_C5
  have w_N5 : gN (sL W5_11 0 2 (36179019 : Int64)) 0 = 29 := w_N5
  obtain ⟨W5_12, eW⟩ : ∃ y, sL W5_11 0 2 (36179019 : Int64) = y := ⟨_, rfl⟩
  rw [eW] at h5 w_Q5 w_C5 w_N5 he12
  clear eW
  refine ex_ck (decide_eq_true (by rw [h5]; exact w_C5)) ?_
  refine ex_ck (by rw [h5, w_N5]; decide) ?_
  refine ex_nm (fun S23 he13 => ?_)
  have h0 := (st_at he13 (off_ne0 (j := 5) (by decide))).trans h0
  rw [h5, show (3 : Int32).toNatClampNeg = 3 by decide] at he13
  have h5 := (congrFun he13 (a + 5)).trans (st_same _ _ _)
  have w_Q5 := gL_step (x := (6395136 : Int64)) w_Q5 (by decide)
  have w_C5 : gC (sL W5_12 0 3 (6395136 : Int64)) = 26 := w_C5
  have w_N5 : gN (sL W5_12 0 3 (6395136 : Int64)) 0 = 29 := w_N5
  obtain ⟨W5_13, eW⟩ : ∃ y, sL W5_12 0 3 (6395136 : Int64) = y := ⟨_, rfl⟩
  rw [eW] at h5 w_Q5 w_C5 w_N5 he13
  clear eW
  refine ex_ck (decide_eq_true (by rw [h5]; exact w_C5)) ?_
  refine ex_ck (by rw [h5, w_N5]; decide) ?_
  refine ex_nm (fun S26 he14 => ?_)
  have h0 := (st_at he14 (off_ne0 (j := 5) (by decide))).trans h0
  rw [h5, show (4 : Int32).toNatClampNeg = 4 by decide] at he14
  have h5 := (congrFun he14 (a + 5)).trans (st_same _ _ _)
  have w_Q5 := gL_step (x := (57 : Int64)) w_Q5 (by decide)
  have w_C5 : gC (sL W5_13 0 4 (57 : Int64)) = 26 := w_C5
  have w_N5 : gN (sL W5_13 0 4 (57 : Int64)) 0 = 29 := w_N5
  obtain ⟨W5_14, eW⟩ : ∃ y, sL W5_13 0 4 (57 : Int64) = y := ⟨_, rfl⟩
  rw [eW] at h5 w_Q5 w_C5 w_N5 he14
  clear eW
  refine ex_ck (decide_eq_true (by rw [h5]; exact w_C5)) ?_
  refine ex_ck (by rw [h5, w_N5]; decide) ?_
  refine ex_nm (fun S29 he15 => ?_)
  have h0 := (st_at he15 (off_ne0 (j := 5) (by decide))).trans h0
  rw [h5, show (5 : Int32).toNatClampNeg = 5 by decide] at he15
  have h5 := (congrFun he15 (a + 5)).trans (st_same _ _ _)
  have w_Q5 := gL_step (x := (173111 : Int64)) w_Q5 (by decide)
  have w_C5 : gC (sL W5_14 0 5 (173111 : Int64)) = 26 := w_C5
  have w_N5 : gN (sL W5_14 0 5 (173111 : Int64)) 0 = 29 := w_N5
  obtain ⟨W5_15, eW⟩ : ∃ y, sL W5_14 0 5 (173111 : Int64) = y := ⟨_, rfl⟩
  rw [eW] at h5 w_Q5 w_C5 w_N5 he15
  clear eW
  refine ex_ck (decide_eq_true (by rw [h5]; exact w_C5)) ?_
  refine ex_ck (by rw [h5, w_N5]; decide) ?_
  refine ex_nm (fun S32 he16 => ?_)
  have h0 := (st_at he16 (off_ne0 (j := 5) (by decide))).trans h0
  rw [h5, show (6 : Int32).toNatClampNeg = 6 by decide] at he16
  have h5 := (congrFun he16 (a + 5)).trans (st_same _ _ _)
  have w_Q5 := gL_step (x := (561 : Int64)) w_Q5 (by decide)
  have w_C5 : gC (sL W5_15 0 6 (561 : Int64)) = 26 := w_C5
  have w_N5 : gN (sL W5_15 0 6 (561 : Int64)) 0 = 29 := w_N5
  obtain ⟨W5_16, eW⟩ : ∃ y, sL W5_15 0 6 (561 : Int64) = y := ⟨_, rfl⟩
  rw [eW] at h5 w_Q5 w_C5 w_N5 he16
  clear eW
  refine ex_ck (decide_eq_true (by rw [h5]; exact w_C5)) ?_
  refine ex_ck (by rw [h5, w_N5]; decide) ?_
  refine ex_nm (fun S35 he17 => ?_)
  have h0 := (st_at he17 (off_ne0 (j := 5) (by decide))).trans h0
  rw [h5, show (7 : Int32).toNatClampNeg = 7 by decide] at he17
  have h5 := (congrFun he17 (a + 5)).trans (st_same _ _ _)
  have w_Q5 := gL_step (x := (979184 : Int64)) w_Q5 (by decide)
  have w_C5 : gC (sL W5_16 0 7 (979184 : Int64)) = 26 := w_C5
  have w_N5 : gN (sL W5_16 0 7 (979184 : Int64)) 0 = 29 := w_N5
  obtain ⟨W5_17, eW⟩ : ∃ y, sL W5_16 0 7 (979184 : Int64) = y := ⟨_, rfl⟩
  rw [eW] at h5 w_Q5 w_C5 w_N5 he17
  clear eW
  refine ex_ck (decide_eq_true (by rw [h5]; exact w_C5)) ?_
  refine ex_ck (by rw [h5, w_N5]; decide) ?_
  refine ex_nm (fun S38 he18 => ?_)
  have h0 := (st_at he18 (off_ne0 (j := 5) (by decide))).trans h0
  rw [h5, show (8 : Int32).toNatClampNeg = 8 by decide] at he18
  have h5 := (congrFun he18 (a + 5)).trans (st_same _ _ _)
  have w_Q5 := gL_step (x := (1178088 : Int64)) w_Q5 (by decide)
  have w_C5 : gC (sL W5_17 0 8 (1178088 : Int64)) = 26 := w_C5
  have w_N5 : gN (sL W5_17 0 8 (1178088 : Int64)) 0 = 29 := w_N5
  obtain ⟨W5_18, eW⟩ : ∃ y, sL W5_17 0 8 (1178088 : Int64) = y := ⟨_, rfl⟩
  rw [eW] at h5 w_Q5 w_C5 w_N5 he18
  clear eW
  refine ex_ck (decide_eq_true (by rw [h5]; exact w_C5)) ?_
  refine ex_ck (by rw [h5, w_N5]; decide) ?_
  refine ex_nm (fun S41 he19 => ?_)
  have h0 := (st_at he19 (off_ne0 (j := 5) (by decide))).trans h0
  rw [h5, show (9 : Int32).toNatClampNeg = 9 by decide] at he19
  have h5 := (congrFun he19 (a + 5)).trans (st_same _ _ _)
  have w_Q5 := gL_step (x := (392517628 : Int64)) w_Q5 (by decide)
  have w_C5 : gC (sL W5_18 0 9 (392517628 : Int64)) = 26 := w_C5
  have w_N5 : gN (sL W5_18 0 9 (392517628 : Int64)) 0 = 29 := w_N5
  obtain ⟨W5_19, eW⟩ : ∃ y, sL W5_18 0 9 (392517628 : Int64) = y := ⟨_, rfl⟩
  rw [eW] at h5 w_Q5 w_C5 w_N5 he19
  clear eW
  refine ex_ck (decide_eq_true (by rw [h5]; exact w_C5)) ?_
  refine ex_ck (by rw [h5, w_N5]; decide) ?_
  refine ex_nm (fun S44 he20 => ?_)
  have h0 := (st_at he20 (off_ne0 (j := 5) (by decide))).trans h0
  rw [h5, show (10 : Int32).toNatClampNeg = 10 by decide] at he20
  have h5 := (congrFun he20 (a + 5)).trans (st_same _ _ _)
  have w_Q5 := gL_step (x := (969456 : Int64)) w_Q5 (by decide)
  have w_C5 : gC (sL W5_19 0 10 (969456 : Int64)) = 26 := w_C5
  have w_N5 : gN (sL W5_19 0 10 (969456 : Int64)) 0 = 29 := w_N5
  obtain ⟨W5_20, eW⟩ : ∃ y, sL W5_19 0 10 (969456 : Int64) = y := ⟨_, rfl⟩
  rw [eW] at h5 w_Q5 w_C5 w_N5 he20
  clear eW
  refine ex_ck (decide_eq_true (by rw [h5]; exact w_C5)) ?_
  refine ex_ck (by rw [h5, w_N5]; decide) ?_
  refine ex_nm (fun S47 he21 => ?_)
  have h0 := (st_at he21 (off_ne0 (j := 5) (by decide))).trans h0
  rw [h5, show (11 : Int32).toNatClampNeg = 11 by decide] at he21
  have h5 := (congrFun he21 (a + 5)).trans (st_same _ _ _)
  have w_Q5 := gL_step (x := (43890888 : Int64)) w_Q5 (by decide)
  have w_C5 : gC (sL W5_20 0 11 (43890888 : Int64)) = 26 := w_C5
  have w_N5 : gN (sL W5_20 0 11 (43890888 : Int64)) 0 = 29 := w_N5
  obtain ⟨W5_21, eW⟩ : ∃ y, sL W5_20 0 11 (43890888 : Int64) = y := ⟨_, rfl⟩
  rw [eW] at h5 w_Q5 w_C5 w_N5 he21
  clear eW
  refine ex_ck (decide_eq_true (by rw [h5]; exact w_C5)) ?_
  refine ex_ck (by rw [h5, w_N5]; decide) ?_
  refine ex_nm (fun S50 he22 => ?_)
  have h0 := (st_at he22 (off_ne0 (j := 5) (by decide))).trans h0
  rw [h5, show (12 : Int32).toNatClampNeg = 12 by decide] at he22
  have h5 := (congrFun he22 (a + 5)).trans (st_same _ _ _)
  have w_Q5 := gL_step (x := (407263 : Int64)) w_Q5 (by decide)
  have w_C5 : gC (sL W5_21 0 12 (407263 : Int64)) = 26 := w_C5
  have w_N5 : gN (sL W5_21 0 12 (407263 : Int64)) 0 = 29 := w_N5
  obtain ⟨W5_22, eW⟩ : ∃ y, sL W5_21 0 12 (407263 : Int64) = y := ⟨_, rfl⟩
  rw [eW] at h5 w_Q5 w_C5 w_N5 he22
  clear eW
  refine ex_ck (decide_eq_true (by rw [h5]; exact w_C5)) ?_
  refine ex_ck (by rw [h5, w_N5]; decide) ?_
  refine ex_nm (fun S53 he23 => ?_)
  have h0 := (st_at he23 (off_ne0 (j := 5) (by decide))).trans h0
  rw [h5, show (13 : Int32).toNatClampNeg = 13 by decide] at he23
  have h5 := (congrFun he23 (a + 5)).trans (st_same _ _ _)
  have w_Q5 := gL_step (x := (36629013 : Int64)) w_Q5 (by decide)
  have w_C5 : gC (sL W5_22 0 13 (36629013 : Int64)) = 26 := w_C5
  have w_N5 : gN (sL W5_22 0 13 (36629013 : Int64)) 0 = 29 := w_N5
  obtain ⟨W5_23, eW⟩ : ∃ y, sL W5_22 0 13 (36629013 : Int64) = y := ⟨_, rfl⟩
  rw [eW] at h5 w_Q5 w_C5 w_N5 he23
  clear eW
  refine ex_ck (decide_eq_true (by rw [h5]; exact w_C5)) ?_
  refine ex_ck (by rw [h5, w_N5]; decide) ?_
  refine ex_nm (fun S56 he24 => ?_)
  have h0 := (st_at he24 (off_ne0 (j := 5) (by decide))).trans h0
  rw [h5, show (14 : Int32).toNatClampNeg = 14 by decide] at he24
  have h5 := (congrFun he24 (a + 5)).trans (st_same _ _ _)
  have w_Q5 := gL_step (x := (30050088 : Int64)) w_Q5 (by decide)
  have w_C5 : gC (sL W5_23 0 14 (30050088 : Int64)) = 26 := w_C5
  have w_N5 : gN (sL W5_23 0 14 (30050088 : Int64)) 0 = 29 := w_N5
  obtain ⟨W5_24, eW⟩ : ∃ y, sL W5_23 0 14 (30050088 : Int64) = y := ⟨_, rfl⟩
  rw [eW] at h5 w_Q5 w_C5 w_N5 he24
  clear eW
  refine ex_ck (decide_eq_true (by rw [h5]; exact w_C5)) ?_
  refine ex_ck (by rw [h5, w_N5]; decide) ?_
  refine ex_nm (fun S59 he25 => ?_)
  have h0 := (st_at he25 (off_ne0 (j := 5) (by decide))).trans h0
  rw [h5, show (15 : Int32).toNatClampNeg = 15 by decide] at he25
  have h5 := (congrFun he25 (a + 5)).trans (st_same _ _ _)
  have w_Q5 := gL_step (x := (969708 : Int64)) w_Q5 (by decide)
  have w_C5 : gC (sL W5_24 0 15 (969708 : Int64)) = 26 := w_C5
  have w_N5 : gN (sL W5_24 0 15 (969708 : Int64)) 0 = 29 := w_N5
  obtain ⟨W5_25, eW⟩ : ∃ y, sL W5_24 0 15 (969708 : Int64) = y := ⟨_, rfl⟩
  rw [eW] at h5 w_Q5 w_C5 w_N5 he25
  clear eW
  refine ex_ck (decide_eq_true (by rw [h5]; exact w_C5)) ?_
  refine ex_ck (by rw [h5, w_N5]; decide) ?_
  refine ex_nm (fun S62 he26 => ?_)
  have h0 := (st_at he26 (off_ne0 (j := 5) (by decide))).trans h0
  rw [h5, show (16 : Int32).toNatClampNeg = 16 by decide] at he26
  have h5 := (congrFun he26 (a + 5)).trans (st_same _ _ _)
  have w_Q5 := gL_step (x := (14184879 : Int64)) w_Q5 (by decide)
  have w_C5 : gC (sL W5_25 0 16 (14184879 : Int64)) = 26 := w_C5
  have w_N5 : gN (sL W5_25 0 16 (14184879 : Int64)) 0 = 29 := w_N5
  obtain ⟨W5_26, eW⟩ : ∃ y, sL W5_25 0 16 (14184879 : Int64) = y := ⟨_, rfl⟩
  rw [eW] at h5 w_Q5 w_C5 w_N5 he26
  clear eW
  refine ex_ck (decide_eq_true (by rw [h5]; exact w_C5)) ?_
  refine ex_ck (by rw [h5, w_N5]; decide) ?_
  refine ex_nm (fun S65 he27 => ?_)
  have h0 := (st_at he27 (off_ne0 (j := 5) (by decide))).trans h0
  rw [h5, show (17 : Int32).toNatClampNeg = 17 by decide] at he27
  have h5 := (congrFun he27 (a + 5)).trans (st_same _ _ _)
  have w_Q5 := gL_step (x := (26704030 : Int64)) w_Q5 (by decide)
  have w_C5 : gC (sL W5_26 0 17 (26704030 : Int64)) = 26 := w_C5
  have w_N5 : gN (sL W5_26 0 17 (26704030 : Int64)) 0 = 29 := w_N5
  obtain ⟨W5_27, eW⟩ : ∃ y, sL W5_26 0 17 (26704030 : Int64) = y := ⟨_, rfl⟩
  rw [eW] at h5 w_Q5 w_C5 w_N5 he27
  clear eW
  refine ex_ck (decide_eq_true (by rw [h5]; exact w_C5)) ?_
  refine ex_ck (by rw [h5, w_N5]; decide) ?_
  refine ex_nm (fun S68 he28 => ?_)
  have h0 := (st_at he28 (off_ne0 (j := 5) (by decide))).trans h0
  rw [h5, show (18 : Int32).toNatClampNeg = 18 by decide] at he28
  have h5 := (congrFun he28 (a + 5)).trans (st_same _ _ _)
  have w_Q5 := gL_step (x := (30596128 : Int64)) w_Q5 (by decide)
  have w_C5 : gC (sL W5_27 0 18 (30596128 : Int64)) = 26 := w_C5
  have w_N5 : gN (sL W5_27 0 18 (30596128 : Int64)) 0 = 29 := w_N5
  obtain ⟨W5_28, eW⟩ : ∃ y, sL W5_27 0 18 (30596128 : Int64) = y := ⟨_, rfl⟩
  rw [eW] at h5 w_Q5 w_C5 w_N5 he28
  clear eW
  refine ex_ck (decide_eq_true (by rw [h5]; exact w_C5)) ?_
  refine ex_ck (by rw [h5, w_N5]; decide) ?_
  refine ex_nm (fun S71 he29 => ?_)
  have h0 := (st_at he29 (off_ne0 (j := 5) (by decide))).trans h0
  rw [h5, show (19 : Int32).toNatClampNeg = 19 by decide] at he29
  have h5 := (congrFun he29 (a + 5)).trans (st_same _ _ _)
  have w_Q5 := gL_step (x := (122289 : Int64)) w_Q5 (by decide)
  have w_C5 : gC (sL W5_28 0 19 (122289 : Int64)) = 26 := w_C5
  have w_N5 : gN (sL W5_28 0 19 (122289 : Int64)) 0 = 29 := w_N5
  obtain ⟨W5_29, eW⟩ : ∃ y, sL W5_28 0 19 (122289 : Int64) = y := ⟨_, rfl⟩
  rw [eW] at h5 w_Q5 w_C5 w_N5 he29
  clear eW
  refine ex_ck (decide_eq_true (by rw [h5]; exact w_C5)) ?_
  refine ex_ck (by rw [h5, w_N5]; decide) ?_
  refine ex_nm (fun S74 he30 => ?_)
  have h0 := (st_at he30 (off_ne0 (j := 5) (by decide))).trans h0
  rw [h5, show (20 : Int32).toNatClampNeg = 20 by decide] at he30
  have h5 := (congrFun he30 (a + 5)).trans (st_same _ _ _)
  have w_Q5 := gL_step (x := (1722958223482 : Int64)) w_Q5 (by decide)
  have w_C5 : gC (sL W5_29 0 20 (1722958223482 : Int64)) = 26 := w_C5
  have w_N5 : gN (sL W5_29 0 20 (1722958223482 : Int64)) 0 = 29 := w_N5
  obtain ⟨W5_30, eW⟩ : ∃ y, sL W5_29 0 20 (1722958223482 : Int64) = y := ⟨_, rfl⟩
  rw [eW] at h5 w_Q5 w_C5 w_N5 he30
  clear eW
  refine ex_ck (decide_eq_true (by rw [h5]; exact w_C5)) ?_
  refine ex_ck (by rw [h5, w_N5]; decide) ?_
  refine ex_nm (fun S77 he31 => ?_)
  have h0 := (st_at he31 (off_ne0 (j := 5) (by decide))).trans h0
  rw [h5, show (21 : Int32).toNatClampNeg = 21 by decide] at he31
  have h5 := (congrFun he31 (a + 5)).trans (st_same _ _ _)
  have w_Q5 := gL_step (x := (3318 : Int64)) w_Q5 (by decide)
  have w_C5 : gC (sL W5_30 0 21 (3318 : Int64)) = 26 := w_C5
  have w_N5 : gN (sL W5_30 0 21 (3318 : Int64)) 0 = 29 := w_N5
  obtain ⟨W5_31, eW⟩ : ∃ y, sL W5_30 0 21 (3318 : Int64) = y := ⟨_, rfl⟩
  rw [eW] at h5 w_Q5 w_C5 w_N5 he31
  clear eW
  refine ex_ck (decide_eq_true (by rw [h5]; exact w_C5)) ?_
  refine ex_ck (by rw [h5, w_N5]; decide) ?_
  refine ex_nm (fun S80 he32 => ?_)
  have h0 := (st_at he32 (off_ne0 (j := 5) (by decide))).trans h0
  rw [h5, show (22 : Int32).toNatClampNeg = 22 by decide] at he32
  have h5 := (congrFun he32 (a + 5)).trans (st_same _ _ _)
  have w_Q5 := gL_step (x := (19741 : Int64)) w_Q5 (by decide)
  have w_C5 : gC (sL W5_31 0 22 (19741 : Int64)) = 26 := w_C5
  have w_N5 : gN (sL W5_31 0 22 (19741 : Int64)) 0 = 29 := w_N5
  obtain ⟨W5_32, eW⟩ : ∃ y, sL W5_31 0 22 (19741 : Int64) = y := ⟨_, rfl⟩
  rw [eW] at h5 w_Q5 w_C5 w_N5 he32
  clear eW
  refine ex_ck (decide_eq_true (by rw [h5]; exact w_C5)) ?_
  refine ex_ck (by rw [h5, w_N5]; decide) ?_
  refine ex_nm (fun S83 he33 => ?_)
  have h0 := (st_at he33 (off_ne0 (j := 5) (by decide))).trans h0
  rw [h5, show (23 : Int32).toNatClampNeg = 23 by decide] at he33
  have h5 := (congrFun he33 (a + 5)).trans (st_same _ _ _)
  have w_Q5 := gL_step (x := (1891 : Int64)) w_Q5 (by decide)
  have w_C5 : gC (sL W5_32 0 23 (1891 : Int64)) = 26 := w_C5
  have w_N5 : gN (sL W5_32 0 23 (1891 : Int64)) 0 = 29 := w_N5
  obtain ⟨W5_33, eW⟩ : ∃ y, sL W5_32 0 23 (1891 : Int64) = y := ⟨_, rfl⟩
  rw [eW] at h5 w_Q5 w_C5 w_N5 he33
  clear eW
  refine ex_ck (decide_eq_true (by rw [h5]; exact w_C5)) ?_
  refine ex_ck (by rw [h5, w_N5]; decide) ?_
  refine ex_nm (fun S86 he34 => ?_)
  have h0 := (st_at he34 (off_ne0 (j := 5) (by decide))).trans h0
  rw [h5, show (24 : Int32).toNatClampNeg = 24 by decide] at he34
  have h5 := (congrFun he34 (a + 5)).trans (st_same _ _ _)
  have w_Q5 := gL_step (x := (573 : Int64)) w_Q5 (by decide)
  have w_C5 : gC (sL W5_33 0 24 (573 : Int64)) = 26 := w_C5
  have w_N5 : gN (sL W5_33 0 24 (573 : Int64)) 0 = 29 := w_N5
  obtain ⟨W5_34, eW⟩ : ∃ y, sL W5_33 0 24 (573 : Int64) = y := ⟨_, rfl⟩
  rw [eW] at h5 w_Q5 w_C5 w_N5 he34
  clear eW
  refine ex_ck (decide_eq_true (by rw [h5]; exact w_C5)) ?_
  refine ex_ck (by rw [h5, w_N5]; decide) ?_
  refine ex_nm (fun S89 he35 => ?_)
  have h0 := (st_at he35 (off_ne0 (j := 5) (by decide))).trans h0
  rw [h5, show (25 : Int32).toNatClampNeg = 25 by decide] at he35
  have h5 := (congrFun he35 (a + 5)).trans (st_same _ _ _)
  have w_Q5 := gL_step (x := (36229827 : Int64)) w_Q5 (by decide)
  have w_C5 : gC (sL W5_34 0 25 (36229827 : Int64)) = 26 := w_C5
  have w_N5 : gN (sL W5_34 0 25 (36229827 : Int64)) 0 = 29 := w_N5
  obtain ⟨W5_35, eW⟩ : ∃ y, sL W5_34 0 25 (36229827 : Int64) = y := ⟨_, rfl⟩
  rw [eW] at h5 w_Q5 w_C5 w_N5 he35
  clear eW
  refine ex_ck (decide_eq_true (by rw [h5]; exact w_C5)) ?_
  refine ex_ck (by rw [h5, w_N5]; decide) ?_
  refine ex_nm (fun S92 he36 => ?_)
  have h0 := (st_at he36 (off_ne0 (j := 5) (by decide))).trans h0
  rw [h5, show (26 : Int32).toNatClampNeg = 26 by decide] at he36
  have h5 := (congrFun he36 (a + 5)).trans (st_same _ _ _)
  have w_Q5 := gL_step (x := (1633 : Int64)) w_Q5 (by decide)
  have w_C5 : gC (sL W5_35 0 26 (1633 : Int64)) = 26 := w_C5
  have w_N5 : gN (sL W5_35 0 26 (1633 : Int64)) 0 = 29 := w_N5
  obtain ⟨W5_36, eW⟩ : ∃ y, sL W5_35 0 26 (1633 : Int64) = y := ⟨_, rfl⟩
  rw [eW] at h5 w_Q5 w_C5 w_N5 he36
  clear eW
  refine ex_ck (decide_eq_true (by rw [h5]; exact w_C5)) ?_
  refine ex_ck (by rw [h5, w_N5]; decide) ?_
  refine ex_nm (fun S95 he37 => ?_)
  have h0 := (st_at he37 (off_ne0 (j := 5) (by decide))).trans h0
  rw [h5, show (27 : Int32).toNatClampNeg = 27 by decide] at he37
  have h5 := (congrFun he37 (a + 5)).trans (st_same _ _ _)
  have w_Q5 := gL_step (x := (434498 : Int64)) w_Q5 (by decide)
  have w_C5 : gC (sL W5_36 0 27 (434498 : Int64)) = 26 := w_C5
  have w_N5 : gN (sL W5_36 0 27 (434498 : Int64)) 0 = 29 := w_N5
  obtain ⟨W5_37, eW⟩ : ∃ y, sL W5_36 0 27 (434498 : Int64) = y := ⟨_, rfl⟩
  rw [eW] at h5 w_Q5 w_C5 w_N5 he37
  clear eW
  refine ex_ck (decide_eq_true (by rw [h5]; exact w_C5)) ?_
  refine ex_ck (by rw [h5, w_N5]; decide) ?_
  refine ex_nm (fun S98 he38 => ?_)
  have h0 := (st_at he38 (off_ne0 (j := 5) (by decide))).trans h0
  rw [h5, show (28 : Int32).toNatClampNeg = 28 by decide] at he38
  have h5 := (congrFun he38 (a + 5)).trans (st_same _ _ _)
  have w_Q5 := gL_step (x := (30595897 : Int64)) w_Q5 (by decide)
  have w_C5 : gC (sL W5_37 0 28 (30595897 : Int64)) = 26 := w_C5
  have w_N5 : gN (sL W5_37 0 28 (30595897 : Int64)) 0 = 29 := w_N5
  obtain ⟨W5_38, eW⟩ : ∃ y, sL W5_37 0 28 (30595897 : Int64) = y := ⟨_, rfl⟩
  rw [eW] at h5 w_Q5 w_C5 w_N5 he38
  clear eW
  refine ex_ck (decide_eq_true (by rw [h0]; exact (by simp only [eV4, eV3, eV2, eV1, gC_sR, gC_sI, gC_sJ, gR_sR, gR_sI, gR_sJ, gI_sR, gI_sI, gI_sJ, Nat.reduceEqDiff, ↓reduceIte]; exact f_C))) ?_
  refine ex_nm (fun S101 he39 => ?_)
  have h5 := (st_at he39 (off_ne0' (j := 5) (by decide))).trans h5
  obtain ⟨V5, eV5⟩ : ∃ y, y = sR V4 9 (some (a + 5)) := ⟨_, rfl⟩
  have h0 : S101 a = V5 := by rw [he39, st_same, h0, eV5]
  refine nx S101 ⟨?_, ?_, ?_, ?_, ?_, ?_, ?_, ?_, ?_, ?_, ?_, ?_, ?_, ?_, ?_, ?_⟩
  · intro b hb
    rw [he39, st_ne _ _ (by omega), he38, st_ne _ _ (by omega), he37, st_ne _ _ (by omega), he36, st_ne _ _ (by omega), he35, st_ne _ _ (by omega), he34, st_ne _ _ (by omega), he33, st_ne _ _ (by omega), he32, st_ne _ _ (by omega), he31, st_ne _ _ (by omega), he30, st_ne _ _ (by omega), he29, st_ne _ _ (by omega), he28, st_ne _ _ (by omega), he27, st_ne _ _ (by omega), he26, st_ne _ _ (by omega), he25, st_ne _ _ (by omega), he24, st_ne _ _ (by omega), he23, st_ne _ _ (by omega), he22, st_ne _ _ (by omega), he21, st_ne _ _ (by omega), he20, st_ne _ _ (by omega), he19, st_ne _ _ (by omega), he18, st_ne _ _ (by omega), he17, st_ne _ _ (by omega), he16, st_ne _ _ (by omega), he15, st_ne _ _ (by omega), he14, st_ne _ _ (by omega), he13, st_ne _ _ (by omega), he12, st_ne _ _ (by omega), he11, st_ne _ _ (by omega), he10, st_ne _ _ (by omega), he9, st_ne _ _ (by omega), he8, st_ne _ _ (by omega), he7, st_ne _ _ (by omega), he6, st_ne _ _ (by omega), he5, st_ne _ _ (by omega), he4, st_ne _ _ (by omega), he3, st_ne _ _ (by omega), he2, st_ne _ _ (by omega), he1, st_ne _ _ (by omega)]; exact hF b hb
  · rw [h0]; simp only [eV5, eV4, eV3, eV2, eV1, gC_sR, gC_sI, gC_sJ, gR_sR, gR_sI, gR_sJ, gI_sR, gI_sI, gI_sJ, Nat.reduceEqDiff, ↓reduceIte]; exact f_C
  · rw [h0]; simp only [eV5, eV4, eV3, eV2, eV1, gC_sR, gC_sI, gC_sJ, gR_sR, gR_sI, gR_sJ, gI_sR, gI_sI, gI_sJ, Nat.reduceEqDiff, ↓reduceIte]; exact f_I2
  · rw [h0]; simp only [eV5, eV4, eV3, eV2, eV1, gC_sR, gC_sI, gC_sJ, gR_sR, gR_sI, gR_sJ, gI_sR, gI_sI, gI_sJ, Nat.reduceEqDiff, ↓reduceIte]; exact f_I18
  · rw [show S101 (a + 1) = S1 (a + 1) from by rw [he39, st_ne _ _ (off_ne0' (j := 1) (by decide)), he38, st_ne _ _ (off_ne (i := 1) (j := 5) (by decide)), he37, st_ne _ _ (off_ne (i := 1) (j := 5) (by decide)), he36, st_ne _ _ (off_ne (i := 1) (j := 5) (by decide)), he35, st_ne _ _ (off_ne (i := 1) (j := 5) (by decide)), he34, st_ne _ _ (off_ne (i := 1) (j := 5) (by decide)), he33, st_ne _ _ (off_ne (i := 1) (j := 5) (by decide)), he32, st_ne _ _ (off_ne (i := 1) (j := 5) (by decide)), he31, st_ne _ _ (off_ne (i := 1) (j := 5) (by decide)), he30, st_ne _ _ (off_ne (i := 1) (j := 5) (by decide)), he29, st_ne _ _ (off_ne (i := 1) (j := 5) (by decide)), he28, st_ne _ _ (off_ne (i := 1) (j := 5) (by decide)), he27, st_ne _ _ (off_ne (i := 1) (j := 5) (by decide)), he26, st_ne _ _ (off_ne (i := 1) (j := 5) (by decide)), he25, st_ne _ _ (off_ne (i := 1) (j := 5) (by decide)), he24, st_ne _ _ (off_ne (i := 1) (j := 5) (by decide)), he23, st_ne _ _ (off_ne (i := 1) (j := 5) (by decide)), he22, st_ne _ _ (off_ne (i := 1) (j := 5) (by decide)), he21, st_ne _ _ (off_ne (i := 1) (j := 5) (by decide)), he20, st_ne _ _ (off_ne (i := 1) (j := 5) (by decide)), he19, st_ne _ _ (off_ne (i := 1) (j := 5) (by decide)), he18, st_ne _ _ (off_ne (i := 1) (j := 5) (by decide)), he17, st_ne _ _ (off_ne (i := 1) (j := 5) (by decide)), he16, st_ne _ _ (off_ne (i := 1) (j := 5) (by decide)), he15, st_ne _ _ (off_ne (i := 1) (j := 5) (by decide)), he14, st_ne _ _ (off_ne (i := 1) (j := 5) (by decide)), he13, st_ne _ _ (off_ne (i := 1) (j := 5) (by decide)), he12, st_ne _ _ (off_ne (i := 1) (j := 5) (by decide)), he11, st_ne _ _ (off_ne (i := 1) (j := 5) (by decide)), he10, st_ne _ _ (off_ne (i := 1) (j := 5) (by decide)), he9, st_ne _ _ (off_ne (i := 1) (j := 5) (by decide)), he8, st_ne _ _ (off_ne0' (j := 1) (by decide)), he7, st_ne _ _ (off_ne (i := 1) (j := 4) (by decide)), he6, st_ne _ _ (off_ne0' (j := 1) (by decide)), he5, st_ne _ _ (off_ne (i := 1) (j := 3) (by decide)), he4, st_ne _ _ (off_ne0' (j := 1) (by decide)), he3, st_ne _ _ (off_ne (i := 1) (j := 2) (by decide)), he2, st_ne _ _ (off_ne0' (j := 1) (by decide))]]; rw [he1, st_same]
  · rw [h0]; simp only [eV5, eV4, eV3, eV2, eV1, gC_sR, gC_sI, gC_sJ, gR_sR, gR_sI, gR_sJ, gI_sR, gI_sI, gI_sJ, Nat.reduceEqDiff, ↓reduceIte]
  · rw [show S101 (a + 2) = S4 (a + 2) from by rw [he39, st_ne _ _ (off_ne0' (j := 2) (by decide)), he38, st_ne _ _ (off_ne (i := 2) (j := 5) (by decide)), he37, st_ne _ _ (off_ne (i := 2) (j := 5) (by decide)), he36, st_ne _ _ (off_ne (i := 2) (j := 5) (by decide)), he35, st_ne _ _ (off_ne (i := 2) (j := 5) (by decide)), he34, st_ne _ _ (off_ne (i := 2) (j := 5) (by decide)), he33, st_ne _ _ (off_ne (i := 2) (j := 5) (by decide)), he32, st_ne _ _ (off_ne (i := 2) (j := 5) (by decide)), he31, st_ne _ _ (off_ne (i := 2) (j := 5) (by decide)), he30, st_ne _ _ (off_ne (i := 2) (j := 5) (by decide)), he29, st_ne _ _ (off_ne (i := 2) (j := 5) (by decide)), he28, st_ne _ _ (off_ne (i := 2) (j := 5) (by decide)), he27, st_ne _ _ (off_ne (i := 2) (j := 5) (by decide)), he26, st_ne _ _ (off_ne (i := 2) (j := 5) (by decide)), he25, st_ne _ _ (off_ne (i := 2) (j := 5) (by decide)), he24, st_ne _ _ (off_ne (i := 2) (j := 5) (by decide)), he23, st_ne _ _ (off_ne (i := 2) (j := 5) (by decide)), he22, st_ne _ _ (off_ne (i := 2) (j := 5) (by decide)), he21, st_ne _ _ (off_ne (i := 2) (j := 5) (by decide)), he20, st_ne _ _ (off_ne (i := 2) (j := 5) (by decide)), he19, st_ne _ _ (off_ne (i := 2) (j := 5) (by decide)), he18, st_ne _ _ (off_ne (i := 2) (j := 5) (by decide)), he17, st_ne _ _ (off_ne (i := 2) (j := 5) (by decide)), he16, st_ne _ _ (off_ne (i := 2) (j := 5) (by decide)), he15, st_ne _ _ (off_ne (i := 2) (j := 5) (by decide)), he14, st_ne _ _ (off_ne (i := 2) (j := 5) (by decide)), he13, st_ne _ _ (off_ne (i := 2) (j := 5) (by decide)), he12, st_ne _ _ (off_ne (i := 2) (j := 5) (by decide)), he11, st_ne _ _ (off_ne (i := 2) (j := 5) (by decide)), he10, st_ne _ _ (off_ne (i := 2) (j := 5) (by decide)), he9, st_ne _ _ (off_ne (i := 2) (j := 5) (by decide)), he8, st_ne _ _ (off_ne0' (j := 2) (by decide)), he7, st_ne _ _ (off_ne (i := 2) (j := 4) (by decide)), he6, st_ne _ _ (off_ne0' (j := 2) (by decide)), he5, st_ne _ _ (off_ne (i := 2) (j := 3) (by decide)), he4, st_ne _ _ (off_ne0' (j := 2) (by decide))]]; rw [he3, st_same]
  · rw [h0]; simp only [eV5, eV4, eV3, eV2, eV1, gC_sR, gC_sI, gC_sJ, gR_sR, gR_sI, gR_sJ, gI_sR, gI_sI, gI_sJ, Nat.reduceEqDiff, ↓reduceIte]
  · rw [show S101 (a + 3) = S7 (a + 3) from by rw [he39, st_ne _ _ (off_ne0' (j := 3) (by decide)), he38, st_ne _ _ (off_ne (i := 3) (j := 5) (by decide)), he37, st_ne _ _ (off_ne (i := 3) (j := 5) (by decide)), he36, st_ne _ _ (off_ne (i := 3) (j := 5) (by decide)), he35, st_ne _ _ (off_ne (i := 3) (j := 5) (by decide)), he34, st_ne _ _ (off_ne (i := 3) (j := 5) (by decide)), he33, st_ne _ _ (off_ne (i := 3) (j := 5) (by decide)), he32, st_ne _ _ (off_ne (i := 3) (j := 5) (by decide)), he31, st_ne _ _ (off_ne (i := 3) (j := 5) (by decide)), he30, st_ne _ _ (off_ne (i := 3) (j := 5) (by decide)), he29, st_ne _ _ (off_ne (i := 3) (j := 5) (by decide)), he28, st_ne _ _ (off_ne (i := 3) (j := 5) (by decide)), he27, st_ne _ _ (off_ne (i := 3) (j := 5) (by decide)), he26, st_ne _ _ (off_ne (i := 3) (j := 5) (by decide)), he25, st_ne _ _ (off_ne (i := 3) (j := 5) (by decide)), he24, st_ne _ _ (off_ne (i := 3) (j := 5) (by decide)), he23, st_ne _ _ (off_ne (i := 3) (j := 5) (by decide)), he22, st_ne _ _ (off_ne (i := 3) (j := 5) (by decide)), he21, st_ne _ _ (off_ne (i := 3) (j := 5) (by decide)), he20, st_ne _ _ (off_ne (i := 3) (j := 5) (by decide)), he19, st_ne _ _ (off_ne (i := 3) (j := 5) (by decide)), he18, st_ne _ _ (off_ne (i := 3) (j := 5) (by decide)), he17, st_ne _ _ (off_ne (i := 3) (j := 5) (by decide)), he16, st_ne _ _ (off_ne (i := 3) (j := 5) (by decide)), he15, st_ne _ _ (off_ne (i := 3) (j := 5) (by decide)), he14, st_ne _ _ (off_ne (i := 3) (j := 5) (by decide)), he13, st_ne _ _ (off_ne (i := 3) (j := 5) (by decide)), he12, st_ne _ _ (off_ne (i := 3) (j := 5) (by decide)), he11, st_ne _ _ (off_ne (i := 3) (j := 5) (by decide)), he10, st_ne _ _ (off_ne (i := 3) (j := 5) (by decide)), he9, st_ne _ _ (off_ne (i := 3) (j := 5) (by decide)), he8, st_ne _ _ (off_ne0' (j := 3) (by decide)), he7, st_ne _ _ (off_ne (i := 3) (j := 4) (by decide)), he6, st_ne _ _ (off_ne0' (j := 3) (by decide))]]; rw [he5, st_same]
  · rw [h0]; simp only [eV5, eV4, eV3, eV2, eV1, gC_sR, gC_sI, gC_sJ, gR_sR, gR_sI, gR_sJ, gI_sR, gI_sI, gI_sJ, Nat.reduceEqDiff, ↓reduceIte]
  · rw [show S101 (a + 4) = S10 (a + 4) from by rw [he39, st_ne _ _ (off_ne0' (j := 4) (by decide)), he38, st_ne _ _ (off_ne (i := 4) (j := 5) (by decide)), he37, st_ne _ _ (off_ne (i := 4) (j := 5) (by decide)), he36, st_ne _ _ (off_ne (i := 4) (j := 5) (by decide)), he35, st_ne _ _ (off_ne (i := 4) (j := 5) (by decide)), he34, st_ne _ _ (off_ne (i := 4) (j := 5) (by decide)), he33, st_ne _ _ (off_ne (i := 4) (j := 5) (by decide)), he32, st_ne _ _ (off_ne (i := 4) (j := 5) (by decide)), he31, st_ne _ _ (off_ne (i := 4) (j := 5) (by decide)), he30, st_ne _ _ (off_ne (i := 4) (j := 5) (by decide)), he29, st_ne _ _ (off_ne (i := 4) (j := 5) (by decide)), he28, st_ne _ _ (off_ne (i := 4) (j := 5) (by decide)), he27, st_ne _ _ (off_ne (i := 4) (j := 5) (by decide)), he26, st_ne _ _ (off_ne (i := 4) (j := 5) (by decide)), he25, st_ne _ _ (off_ne (i := 4) (j := 5) (by decide)), he24, st_ne _ _ (off_ne (i := 4) (j := 5) (by decide)), he23, st_ne _ _ (off_ne (i := 4) (j := 5) (by decide)), he22, st_ne _ _ (off_ne (i := 4) (j := 5) (by decide)), he21, st_ne _ _ (off_ne (i := 4) (j := 5) (by decide)), he20, st_ne _ _ (off_ne (i := 4) (j := 5) (by decide)), he19, st_ne _ _ (off_ne (i := 4) (j := 5) (by decide)), he18, st_ne _ _ (off_ne (i := 4) (j := 5) (by decide)), he17, st_ne _ _ (off_ne (i := 4) (j := 5) (by decide)), he16, st_ne _ _ (off_ne (i := 4) (j := 5) (by decide)), he15, st_ne _ _ (off_ne (i := 4) (j := 5) (by decide)), he14, st_ne _ _ (off_ne (i := 4) (j := 5) (by decide)), he13, st_ne _ _ (off_ne (i := 4) (j := 5) (by decide)), he12, st_ne _ _ (off_ne (i := 4) (j := 5) (by decide)), he11, st_ne _ _ (off_ne (i := 4) (j := 5) (by decide)), he10, st_ne _ _ (off_ne (i := 4) (j := 5) (by decide)), he9, st_ne _ _ (off_ne (i := 4) (j := 5) (by decide)), he8, st_ne _ _ (off_ne0' (j := 4) (by decide))]]; rw [he7, st_same]
  · rw [h0]; simp only [eV5, eV4, eV3, eV2, eV1, gC_sR, gC_sI, gC_sJ, gR_sR, gR_sI, gR_sJ, gI_sR, gI_sI, gI_sJ, Nat.reduceEqDiff, ↓reduceIte]
  · rw [h0]; simp only [eV5, eV4, eV3, eV2, eV1, gC_sR, gC_sI, gC_sJ, gR_sR, gR_sI, gR_sJ, gI_sR, gI_sI, gI_sJ, Nat.reduceEqDiff, ↓reduceIte]
  · rw [h5]; exact w_C5
  · rw [h5]; exact w_N5
  · rw [h5]; exact w_Q5
set_option maxHeartbeats 4000000 in
theorem sg13_1 {fu : Nat} {G : GG} {S S0 : ST} {a : Nat} {P : ST → Prop} (hJ : J13_1 a S0 S) (nx : ∀ S', J13_2 a S0 S' → ∃ z, f_X13_init_g2 fu G S' a = some z ∧ P z) : ∃ z, f_X13_init_g1 fu G S a = some z ∧ P z := by
  obtain ⟨hF, f_C, f_I2, f_I18, f_A1, f_R1, f_A2, f_R4, f_A3, f_R5, f_A4, f_R6, f_R9, f_C5, f_N5, f_Q5⟩ := hJ
  unfold f_X13_init_g1
  obtain ⟨V0, h0⟩ : ∃ y, S a = y := ⟨_, rfl⟩
  rw [h0] at f_C f_I2 f_I18 f_R1 f_R4 f_R5 f_R6 f_R9
  refine ex_nm (fun S103 he1 => ?_)
  have h0 := (st_at he1 (off_ne0 (j := 6) (by decide))).trans h0
  refine ex_ck (decide_eq_true (by rw [h0]; exact f_C)) ?_
  refine ex_nm (fun S104 he2 => ?_)
  obtain ⟨V1, eV1⟩ : ∃ y, y = sR V0 10 (some (a + 6)) := ⟨_, rfl⟩
  have h0 : S104 a = V1 := by rw [he2, st_same, h0, eV1]
  refine ex_nm (fun S106 he3 => ?_)
  have h0 := (st_at he3 (off_ne0 (j := 7) (by decide))).trans h0
  refine ex_ck (decide_eq_true (by rw [h0]; exact (by simp only [eV1, gC_sR, gC_sI, gC_sJ, gR_sR, gR_sI, gR_sJ, gI_sR, gI_sI, gI_sJ, Nat.reduceEqDiff, ↓reduceIte]; exact f_C))) ?_
  refine ex_nm (fun S107 he4 => ?_)
  obtain ⟨V2, eV2⟩ : ∃ y, y = sR V1 11 (some (a + 7)) := ⟨_, rfl⟩
  have h0 : S107 a = V2 := by rw [he4, st_same, h0, eV2]
  refine ex_nm (fun S109 he5 => ?_)
  have h0 := (st_at he5 (off_ne0 (j := 8) (by decide))).trans h0
  refine ex_ck (decide_eq_true (by rw [h0]; exact (by simp only [eV2, eV1, gC_sR, gC_sI, gC_sJ, gR_sR, gR_sI, gR_sJ, gI_sR, gI_sI, gI_sJ, Nat.reduceEqDiff, ↓reduceIte]; exact f_C))) ?_
  refine ex_nm (fun S110 he6 => ?_)
  obtain ⟨V3, eV3⟩ : ∃ y, y = sR V2 12 (some (a + 8)) := ⟨_, rfl⟩
  have h0 : S110 a = V3 := by rw [he6, st_same, h0, eV3]
  refine ex_nm (fun S112 he7 => ?_)
  have h0 := (st_at he7 (off_ne0 (j := 9) (by decide))).trans h0
  refine ex_ck (decide_eq_true (by rw [h0]; exact (by simp only [eV3, eV2, eV1, gC_sR, gC_sI, gC_sJ, gR_sR, gR_sI, gR_sJ, gI_sR, gI_sI, gI_sJ, Nat.reduceEqDiff, ↓reduceIte]; exact f_C))) ?_
  refine ex_nm (fun S113 he8 => ?_)
  obtain ⟨V4, eV4⟩ : ∃ y, y = sR V3 14 (some (a + 9)) := ⟨_, rfl⟩
  have h0 : S113 a = V4 := by rw [he8, st_same, h0, eV4]
  refine ex_nm (fun S115 he9 => ?_)
  have h0 := (st_at he9 (off_ne0 (j := 10) (by decide))).trans h0
  refine ex_ck (decide_eq_true (by rw [h0]; exact (by simp only [eV4, eV3, eV2, eV1, gC_sR, gC_sI, gC_sJ, gR_sR, gR_sI, gR_sJ, gI_sR, gI_sI, gI_sJ, Nat.reduceEqDiff, ↓reduceIte]; exact f_C))) ?_
  refine ex_nm (fun S116 he10 => ?_)
  obtain ⟨V5, eV5⟩ : ∃ y, y = sR V4 15 (some (a + 10)) := ⟨_, rfl⟩
  have h0 : S116 a = V5 := by rw [he10, st_same, h0, eV5]
  refine nx S116 ⟨?_, ?_, ?_, ?_, ?_, ?_, ?_, ?_, ?_, ?_, ?_, ?_, ?_, ?_, ?_, ?_, ?_, ?_, ?_, ?_, ?_, ?_, ?_, ?_, ?_, ?_⟩
  · intro b hb
    rw [he10, st_ne _ _ (by omega), he9, st_ne _ _ (by omega), he8, st_ne _ _ (by omega), he7, st_ne _ _ (by omega), he6, st_ne _ _ (by omega), he5, st_ne _ _ (by omega), he4, st_ne _ _ (by omega), he3, st_ne _ _ (by omega), he2, st_ne _ _ (by omega), he1, st_ne _ _ (by omega)]; exact hF b hb
  · rw [h0]; simp only [eV5, eV4, eV3, eV2, eV1, gC_sR, gC_sI, gC_sJ, gR_sR, gR_sI, gR_sJ, gI_sR, gI_sI, gI_sJ, Nat.reduceEqDiff, ↓reduceIte]; exact f_C
  · rw [h0]; simp only [eV5, eV4, eV3, eV2, eV1, gC_sR, gC_sI, gC_sJ, gR_sR, gR_sI, gR_sJ, gI_sR, gI_sI, gI_sJ, Nat.reduceEqDiff, ↓reduceIte]; exact f_I2
  · rw [h0]; simp only [eV5, eV4, eV3, eV2, eV1, gC_sR, gC_sI, gC_sJ, gR_sR, gR_sI, gR_sJ, gI_sR, gI_sI, gI_sJ, Nat.reduceEqDiff, ↓reduceIte]; exact f_I18
  · rw [show S116 (a + 1) = S (a + 1) from by rw [he10, st_ne _ _ (off_ne0' (j := 1) (by decide)), he9, st_ne _ _ (off_ne (i := 1) (j := 10) (by decide)), he8, st_ne _ _ (off_ne0' (j := 1) (by decide)), he7, st_ne _ _ (off_ne (i := 1) (j := 9) (by decide)), he6, st_ne _ _ (off_ne0' (j := 1) (by decide)), he5, st_ne _ _ (off_ne (i := 1) (j := 8) (by decide)), he4, st_ne _ _ (off_ne0' (j := 1) (by decide)), he3, st_ne _ _ (off_ne (i := 1) (j := 7) (by decide)), he2, st_ne _ _ (off_ne0' (j := 1) (by decide)), he1, st_ne _ _ (off_ne (i := 1) (j := 6) (by decide))]]; exact f_A1
  · rw [h0]; simp only [eV5, eV4, eV3, eV2, eV1, gC_sR, gC_sI, gC_sJ, gR_sR, gR_sI, gR_sJ, gI_sR, gI_sI, gI_sJ, Nat.reduceEqDiff, ↓reduceIte]; exact f_R1
  · rw [show S116 (a + 2) = S (a + 2) from by rw [he10, st_ne _ _ (off_ne0' (j := 2) (by decide)), he9, st_ne _ _ (off_ne (i := 2) (j := 10) (by decide)), he8, st_ne _ _ (off_ne0' (j := 2) (by decide)), he7, st_ne _ _ (off_ne (i := 2) (j := 9) (by decide)), he6, st_ne _ _ (off_ne0' (j := 2) (by decide)), he5, st_ne _ _ (off_ne (i := 2) (j := 8) (by decide)), he4, st_ne _ _ (off_ne0' (j := 2) (by decide)), he3, st_ne _ _ (off_ne (i := 2) (j := 7) (by decide)), he2, st_ne _ _ (off_ne0' (j := 2) (by decide)), he1, st_ne _ _ (off_ne (i := 2) (j := 6) (by decide))]]; exact f_A2
  · rw [h0]; simp only [eV5, eV4, eV3, eV2, eV1, gC_sR, gC_sI, gC_sJ, gR_sR, gR_sI, gR_sJ, gI_sR, gI_sI, gI_sJ, Nat.reduceEqDiff, ↓reduceIte]; exact f_R4
  · rw [show S116 (a + 3) = S (a + 3) from by rw [he10, st_ne _ _ (off_ne0' (j := 3) (by decide)), he9, st_ne _ _ (off_ne (i := 3) (j := 10) (by decide)), he8, st_ne _ _ (off_ne0' (j := 3) (by decide)), he7, st_ne _ _ (off_ne (i := 3) (j := 9) (by decide)), he6, st_ne _ _ (off_ne0' (j := 3) (by decide)), he5, st_ne _ _ (off_ne (i := 3) (j := 8) (by decide)), he4, st_ne _ _ (off_ne0' (j := 3) (by decide)), he3, st_ne _ _ (off_ne (i := 3) (j := 7) (by decide)), he2, st_ne _ _ (off_ne0' (j := 3) (by decide)), he1, st_ne _ _ (off_ne (i := 3) (j := 6) (by decide))]]; exact f_A3
  · rw [h0]; simp only [eV5, eV4, eV3, eV2, eV1, gC_sR, gC_sI, gC_sJ, gR_sR, gR_sI, gR_sJ, gI_sR, gI_sI, gI_sJ, Nat.reduceEqDiff, ↓reduceIte]; exact f_R5
  · rw [show S116 (a + 4) = S (a + 4) from by rw [he10, st_ne _ _ (off_ne0' (j := 4) (by decide)), he9, st_ne _ _ (off_ne (i := 4) (j := 10) (by decide)), he8, st_ne _ _ (off_ne0' (j := 4) (by decide)), he7, st_ne _ _ (off_ne (i := 4) (j := 9) (by decide)), he6, st_ne _ _ (off_ne0' (j := 4) (by decide)), he5, st_ne _ _ (off_ne (i := 4) (j := 8) (by decide)), he4, st_ne _ _ (off_ne0' (j := 4) (by decide)), he3, st_ne _ _ (off_ne (i := 4) (j := 7) (by decide)), he2, st_ne _ _ (off_ne0' (j := 4) (by decide)), he1, st_ne _ _ (off_ne (i := 4) (j := 6) (by decide))]]; exact f_A4
  · rw [h0]; simp only [eV5, eV4, eV3, eV2, eV1, gC_sR, gC_sI, gC_sJ, gR_sR, gR_sI, gR_sJ, gI_sR, gI_sI, gI_sJ, Nat.reduceEqDiff, ↓reduceIte]; exact f_R6
  · rw [h0]; simp only [eV5, eV4, eV3, eV2, eV1, gC_sR, gC_sI, gC_sJ, gR_sR, gR_sI, gR_sJ, gI_sR, gI_sI, gI_sJ, Nat.reduceEqDiff, ↓reduceIte]; exact f_R9
  · rw [show S116 (a + 5) = S (a + 5) from by rw [he10, st_ne _ _ (off_ne0' (j := 5) (by decide)), he9, st_ne _ _ (off_ne (i := 5) (j := 10) (by decide)), he8, st_ne _ _ (off_ne0' (j := 5) (by decide)), he7, st_ne _ _ (off_ne (i := 5) (j := 9) (by decide)), he6, st_ne _ _ (off_ne0' (j := 5) (by decide)), he5, st_ne _ _ (off_ne (i := 5) (j := 8) (by decide)), he4, st_ne _ _ (off_ne0' (j := 5) (by decide)), he3, st_ne _ _ (off_ne (i := 5) (j := 7) (by decide)), he2, st_ne _ _ (off_ne0' (j := 5) (by decide)), he1, st_ne _ _ (off_ne (i := 5) (j := 6) (by decide))]]; exact f_C5
  · rw [show S116 (a + 5) = S (a + 5) from by rw [he10, st_ne _ _ (off_ne0' (j := 5) (by decide)), he9, st_ne _ _ (off_ne (i := 5) (j := 10) (by decide)), he8, st_ne _ _ (off_ne0' (j := 5) (by decide)), he7, st_ne _ _ (off_ne (i := 5) (j := 9) (by decide)), he6, st_ne _ _ (off_ne0' (j := 5) (by decide)), he5, st_ne _ _ (off_ne (i := 5) (j := 8) (by decide)), he4, st_ne _ _ (off_ne0' (j := 5) (by decide)), he3, st_ne _ _ (off_ne (i := 5) (j := 7) (by decide)), he2, st_ne _ _ (off_ne0' (j := 5) (by decide)), he1, st_ne _ _ (off_ne (i := 5) (j := 6) (by decide))]]; exact f_N5
  · rw [show S116 (a + 5) = S (a + 5) from by rw [he10, st_ne _ _ (off_ne0' (j := 5) (by decide)), he9, st_ne _ _ (off_ne (i := 5) (j := 10) (by decide)), he8, st_ne _ _ (off_ne0' (j := 5) (by decide)), he7, st_ne _ _ (off_ne (i := 5) (j := 9) (by decide)), he6, st_ne _ _ (off_ne0' (j := 5) (by decide)), he5, st_ne _ _ (off_ne (i := 5) (j := 8) (by decide)), he4, st_ne _ _ (off_ne0' (j := 5) (by decide)), he3, st_ne _ _ (off_ne (i := 5) (j := 7) (by decide)), he2, st_ne _ _ (off_ne0' (j := 5) (by decide)), he1, st_ne _ _ (off_ne (i := 5) (j := 6) (by decide))]]; exact f_Q5
  · rw [show S116 (a + 6) = S103 (a + 6) from by rw [he10, st_ne _ _ (off_ne0' (j := 6) (by decide)), he9, st_ne _ _ (off_ne (i := 6) (j := 10) (by decide)), he8, st_ne _ _ (off_ne0' (j := 6) (by decide)), he7, st_ne _ _ (off_ne (i := 6) (j := 9) (by decide)), he6, st_ne _ _ (off_ne0' (j := 6) (by decide)), he5, st_ne _ _ (off_ne (i := 6) (j := 8) (by decide)), he4, st_ne _ _ (off_ne0' (j := 6) (by decide)), he3, st_ne _ _ (off_ne (i := 6) (j := 7) (by decide)), he2, st_ne _ _ (off_ne0' (j := 6) (by decide))]]; rw [he1, st_same]
  · rw [h0]; simp only [eV5, eV4, eV3, eV2, eV1, gC_sR, gC_sI, gC_sJ, gR_sR, gR_sI, gR_sJ, gI_sR, gI_sI, gI_sJ, Nat.reduceEqDiff, ↓reduceIte]
  · rw [show S116 (a + 7) = S106 (a + 7) from by rw [he10, st_ne _ _ (off_ne0' (j := 7) (by decide)), he9, st_ne _ _ (off_ne (i := 7) (j := 10) (by decide)), he8, st_ne _ _ (off_ne0' (j := 7) (by decide)), he7, st_ne _ _ (off_ne (i := 7) (j := 9) (by decide)), he6, st_ne _ _ (off_ne0' (j := 7) (by decide)), he5, st_ne _ _ (off_ne (i := 7) (j := 8) (by decide)), he4, st_ne _ _ (off_ne0' (j := 7) (by decide))]]; rw [he3, st_same]
  · rw [h0]; simp only [eV5, eV4, eV3, eV2, eV1, gC_sR, gC_sI, gC_sJ, gR_sR, gR_sI, gR_sJ, gI_sR, gI_sI, gI_sJ, Nat.reduceEqDiff, ↓reduceIte]
  · rw [show S116 (a + 8) = S109 (a + 8) from by rw [he10, st_ne _ _ (off_ne0' (j := 8) (by decide)), he9, st_ne _ _ (off_ne (i := 8) (j := 10) (by decide)), he8, st_ne _ _ (off_ne0' (j := 8) (by decide)), he7, st_ne _ _ (off_ne (i := 8) (j := 9) (by decide)), he6, st_ne _ _ (off_ne0' (j := 8) (by decide))]]; rw [he5, st_same]
  · rw [h0]; simp only [eV5, eV4, eV3, eV2, eV1, gC_sR, gC_sI, gC_sJ, gR_sR, gR_sI, gR_sJ, gI_sR, gI_sI, gI_sJ, Nat.reduceEqDiff, ↓reduceIte]
  · rw [show S116 (a + 9) = S112 (a + 9) from by rw [he10, st_ne _ _ (off_ne0' (j := 9) (by decide)), he9, st_ne _ _ (off_ne (i := 9) (j := 10) (by decide)), he8, st_ne _ _ (off_ne0' (j := 9) (by decide))]]; rw [he7, st_same]
  · rw [h0]; simp only [eV5, eV4, eV3, eV2, eV1, gC_sR, gC_sI, gC_sJ, gR_sR, gR_sI, gR_sJ, gI_sR, gI_sI, gI_sJ, Nat.reduceEqDiff, ↓reduceIte]
  · rw [show S116 (a + 10) = S115 (a + 10) from by rw [he10, st_ne _ _ (off_ne0' (j := 10) (by decide))]]; rw [he9, st_same]
  · rw [h0]; simp only [eV5, eV4, eV3, eV2, eV1, gC_sR, gC_sI, gC_sJ, gR_sR, gR_sI, gR_sJ, gI_sR, gI_sI, gI_sJ, Nat.reduceEqDiff, ↓reduceIte]
set_option maxHeartbeats 4000000 in
theorem sg13_2 {fu : Nat} {G : GG} {S S0 : ST} {a : Nat} {P : ST → Prop} (hJ : J13_2 a S0 S) (nx : ∀ S', J13_3 a S0 S' → ∃ z, f_X13_init_g3 fu G S' a = some z ∧ P z) : ∃ z, f_X13_init_g2 fu G S a = some z ∧ P z := by
  obtain ⟨hF, f_C, f_I2, f_I18, f_A1, f_R1, f_A2, f_R4, f_A3, f_R5, f_A4, f_R6, f_R9, f_C5, f_N5, f_Q5, f_A6, f_R10, f_A7, f_R11, f_A8, f_R12, f_A9, f_R14, f_A10, f_R15⟩ := hJ
  unfold f_X13_init_g2
  obtain ⟨V0, h0⟩ : ∃ y, S a = y := ⟨_, rfl⟩
  rw [h0] at f_C f_I2 f_I18 f_R1 f_R4 f_R5 f_R6 f_R9 f_R10 f_R11 f_R12 f_R14 f_R15
  refine ex_nm (fun S118 he1 => ?_)
  have h0 := (st_at he1 (off_ne0 (j := 11) (by decide))).trans h0
  refine ex_ck (decide_eq_true (by rw [h0]; exact f_C)) ?_
  refine ex_nm (fun S119 he2 => ?_)
  obtain ⟨V1, eV1⟩ : ∃ y, y = sR V0 16 (some (a + 11)) := ⟨_, rfl⟩
  have h0 : S119 a = V1 := by rw [he2, st_same, h0, eV1]
  refine ex_nm (fun S121 he3 => ?_)
  have h0 := (st_at he3 (off_ne0 (j := 12) (by decide))).trans h0
  refine ex_ck (decide_eq_true (by rw [h0]; exact (by simp only [eV1, gC_sR, gC_sI, gC_sJ, gR_sR, gR_sI, gR_sJ, gI_sR, gI_sI, gI_sJ, Nat.reduceEqDiff, ↓reduceIte]; exact f_C))) ?_
  refine ex_nm (fun S122 he4 => ?_)
  obtain ⟨V2, eV2⟩ : ∃ y, y = sR V1 17 (some (a + 12)) := ⟨_, rfl⟩
  have h0 : S122 a = V2 := by rw [he4, st_same, h0, eV2]
  refine ex_nm (fun S124 he5 => ?_)
  have h0 := (st_at he5 (off_ne0 (j := 13) (by decide))).trans h0
  refine ex_ck (decide_eq_true (by rw [h0]; exact (by simp only [eV2, eV1, gC_sR, gC_sI, gC_sJ, gR_sR, gR_sI, gR_sJ, gI_sR, gI_sI, gI_sJ, Nat.reduceEqDiff, ↓reduceIte]; exact f_C))) ?_
  refine ex_nm (fun S125 he6 => ?_)
  obtain ⟨V3, eV3⟩ : ∃ y, y = sR V2 21 (some (a + 13)) := ⟨_, rfl⟩
  have h0 : S125 a = V3 := by rw [he6, st_same, h0, eV3]
  refine ex_nm (fun S127 he7 => ?_)
  have h0 := (st_at he7 (off_ne0 (j := 14) (by decide))).trans h0
  refine ex_ck (decide_eq_true (by rw [h0]; exact (by simp only [eV3, eV2, eV1, gC_sR, gC_sI, gC_sJ, gR_sR, gR_sI, gR_sJ, gI_sR, gI_sI, gI_sJ, Nat.reduceEqDiff, ↓reduceIte]; exact f_C))) ?_
  refine ex_nm (fun S128 he8 => ?_)
  obtain ⟨V4, eV4⟩ : ∃ y, y = sR V3 22 (some (a + 14)) := ⟨_, rfl⟩
  have h0 : S128 a = V4 := by rw [he8, st_same, h0, eV4]
  refine ex_nm (fun S130 he9 => ?_)
  have h0 := (st_at he9 (off_ne0 (j := 15) (by decide))).trans h0
  refine ex_ck (decide_eq_true (by rw [h0]; exact (by simp only [eV4, eV3, eV2, eV1, gC_sR, gC_sI, gC_sJ, gR_sR, gR_sI, gR_sJ, gI_sR, gI_sI, gI_sJ, Nat.reduceEqDiff, ↓reduceIte]; exact f_C))) ?_
  refine ex_nm (fun S131 he10 => ?_)
  obtain ⟨V5, eV5⟩ : ∃ y, y = sR V4 23 (some (a + 15)) := ⟨_, rfl⟩
  have h0 : S131 a = V5 := by rw [he10, st_same, h0, eV5]
  refine nx S131 ⟨?_, ?_, ?_, ?_, ?_, ?_, ?_, ?_, ?_, ?_, ?_, ?_, ?_, ?_, ?_, ?_, ?_, ?_, ?_, ?_, ?_, ?_, ?_, ?_, ?_, ?_, ?_, ?_, ?_, ?_, ?_, ?_, ?_, ?_, ?_, ?_⟩
  · intro b hb
    rw [he10, st_ne _ _ (by omega), he9, st_ne _ _ (by omega), he8, st_ne _ _ (by omega), he7, st_ne _ _ (by omega), he6, st_ne _ _ (by omega), he5, st_ne _ _ (by omega), he4, st_ne _ _ (by omega), he3, st_ne _ _ (by omega), he2, st_ne _ _ (by omega), he1, st_ne _ _ (by omega)]; exact hF b hb
  · rw [h0]; simp only [eV5, eV4, eV3, eV2, eV1, gC_sR, gC_sI, gC_sJ, gR_sR, gR_sI, gR_sJ, gI_sR, gI_sI, gI_sJ, Nat.reduceEqDiff, ↓reduceIte]; exact f_C
  · rw [h0]; simp only [eV5, eV4, eV3, eV2, eV1, gC_sR, gC_sI, gC_sJ, gR_sR, gR_sI, gR_sJ, gI_sR, gI_sI, gI_sJ, Nat.reduceEqDiff, ↓reduceIte]; exact f_I2
  · rw [h0]; simp only [eV5, eV4, eV3, eV2, eV1, gC_sR, gC_sI, gC_sJ, gR_sR, gR_sI, gR_sJ, gI_sR, gI_sI, gI_sJ, Nat.reduceEqDiff, ↓reduceIte]; exact f_I18
  · rw [show S131 (a + 1) = S (a + 1) from by rw [he10, st_ne _ _ (off_ne0' (j := 1) (by decide)), he9, st_ne _ _ (off_ne (i := 1) (j := 15) (by decide)), he8, st_ne _ _ (off_ne0' (j := 1) (by decide)), he7, st_ne _ _ (off_ne (i := 1) (j := 14) (by decide)), he6, st_ne _ _ (off_ne0' (j := 1) (by decide)), he5, st_ne _ _ (off_ne (i := 1) (j := 13) (by decide)), he4, st_ne _ _ (off_ne0' (j := 1) (by decide)), he3, st_ne _ _ (off_ne (i := 1) (j := 12) (by decide)), he2, st_ne _ _ (off_ne0' (j := 1) (by decide)), he1, st_ne _ _ (off_ne (i := 1) (j := 11) (by decide))]]; exact f_A1
  · rw [h0]; simp only [eV5, eV4, eV3, eV2, eV1, gC_sR, gC_sI, gC_sJ, gR_sR, gR_sI, gR_sJ, gI_sR, gI_sI, gI_sJ, Nat.reduceEqDiff, ↓reduceIte]; exact f_R1
  · rw [show S131 (a + 2) = S (a + 2) from by rw [he10, st_ne _ _ (off_ne0' (j := 2) (by decide)), he9, st_ne _ _ (off_ne (i := 2) (j := 15) (by decide)), he8, st_ne _ _ (off_ne0' (j := 2) (by decide)), he7, st_ne _ _ (off_ne (i := 2) (j := 14) (by decide)), he6, st_ne _ _ (off_ne0' (j := 2) (by decide)), he5, st_ne _ _ (off_ne (i := 2) (j := 13) (by decide)), he4, st_ne _ _ (off_ne0' (j := 2) (by decide)), he3, st_ne _ _ (off_ne (i := 2) (j := 12) (by decide)), he2, st_ne _ _ (off_ne0' (j := 2) (by decide)), he1, st_ne _ _ (off_ne (i := 2) (j := 11) (by decide))]]; exact f_A2
  · rw [h0]; simp only [eV5, eV4, eV3, eV2, eV1, gC_sR, gC_sI, gC_sJ, gR_sR, gR_sI, gR_sJ, gI_sR, gI_sI, gI_sJ, Nat.reduceEqDiff, ↓reduceIte]; exact f_R4
  · rw [show S131 (a + 3) = S (a + 3) from by rw [he10, st_ne _ _ (off_ne0' (j := 3) (by decide)), he9, st_ne _ _ (off_ne (i := 3) (j := 15) (by decide)), he8, st_ne _ _ (off_ne0' (j := 3) (by decide)), he7, st_ne _ _ (off_ne (i := 3) (j := 14) (by decide)), he6, st_ne _ _ (off_ne0' (j := 3) (by decide)), he5, st_ne _ _ (off_ne (i := 3) (j := 13) (by decide)), he4, st_ne _ _ (off_ne0' (j := 3) (by decide)), he3, st_ne _ _ (off_ne (i := 3) (j := 12) (by decide)), he2, st_ne _ _ (off_ne0' (j := 3) (by decide)), he1, st_ne _ _ (off_ne (i := 3) (j := 11) (by decide))]]; exact f_A3
  · rw [h0]; simp only [eV5, eV4, eV3, eV2, eV1, gC_sR, gC_sI, gC_sJ, gR_sR, gR_sI, gR_sJ, gI_sR, gI_sI, gI_sJ, Nat.reduceEqDiff, ↓reduceIte]; exact f_R5
  · rw [show S131 (a + 4) = S (a + 4) from by rw [he10, st_ne _ _ (off_ne0' (j := 4) (by decide)), he9, st_ne _ _ (off_ne (i := 4) (j := 15) (by decide)), he8, st_ne _ _ (off_ne0' (j := 4) (by decide)), he7, st_ne _ _ (off_ne (i := 4) (j := 14) (by decide)), he6, st_ne _ _ (off_ne0' (j := 4) (by decide)), he5, st_ne _ _ (off_ne (i := 4) (j := 13) (by decide)), he4, st_ne _ _ (off_ne0' (j := 4) (by decide)), he3, st_ne _ _ (off_ne (i := 4) (j := 12) (by decide)), he2, st_ne _ _ (off_ne0' (j := 4) (by decide)), he1, st_ne _ _ (off_ne (i := 4) (j := 11) (by decide))]]; exact f_A4
  · rw [h0]; simp only [eV5, eV4, eV3, eV2, eV1, gC_sR, gC_sI, gC_sJ, gR_sR, gR_sI, gR_sJ, gI_sR, gI_sI, gI_sJ, Nat.reduceEqDiff, ↓reduceIte]; exact f_R6
  · rw [h0]; simp only [eV5, eV4, eV3, eV2, eV1, gC_sR, gC_sI, gC_sJ, gR_sR, gR_sI, gR_sJ, gI_sR, gI_sI, gI_sJ, Nat.reduceEqDiff, ↓reduceIte]; exact f_R9
  · rw [show S131 (a + 5) = S (a + 5) from by rw [he10, st_ne _ _ (off_ne0' (j := 5) (by decide)), he9, st_ne _ _ (off_ne (i := 5) (j := 15) (by decide)), he8, st_ne _ _ (off_ne0' (j := 5) (by decide)), he7, st_ne _ _ (off_ne (i := 5) (j := 14) (by decide)), he6, st_ne _ _ (off_ne0' (j := 5) (by decide)), he5, st_ne _ _ (off_ne (i := 5) (j := 13) (by decide)), he4, st_ne _ _ (off_ne0' (j := 5) (by decide)), he3, st_ne _ _ (off_ne (i := 5) (j := 12) (by decide)), he2, st_ne _ _ (off_ne0' (j := 5) (by decide)), he1, st_ne _ _ (off_ne (i := 5) (j := 11) (by decide))]]; exact f_C5
  · rw [show S131 (a + 5) = S (a + 5) from by rw [he10, st_ne _ _ (off_ne0' (j := 5) (by decide)), he9, st_ne _ _ (off_ne (i := 5) (j := 15) (by decide)), he8, st_ne _ _ (off_ne0' (j := 5) (by decide)), he7, st_ne _ _ (off_ne (i := 5) (j := 14) (by decide)), he6, st_ne _ _ (off_ne0' (j := 5) (by decide)), he5, st_ne _ _ (off_ne (i := 5) (j := 13) (by decide)), he4, st_ne _ _ (off_ne0' (j := 5) (by decide)), he3, st_ne _ _ (off_ne (i := 5) (j := 12) (by decide)), he2, st_ne _ _ (off_ne0' (j := 5) (by decide)), he1, st_ne _ _ (off_ne (i := 5) (j := 11) (by decide))]]; exact f_N5
  · rw [show S131 (a + 5) = S (a + 5) from by rw [he10, st_ne _ _ (off_ne0' (j := 5) (by decide)), he9, st_ne _ _ (off_ne (i := 5) (j := 15) (by decide)), he8, st_ne _ _ (off_ne0' (j := 5) (by decide)), he7, st_ne _ _ (off_ne (i := 5) (j := 14) (by decide)), he6, st_ne _ _ (off_ne0' (j := 5) (by decide)), he5, st_ne _ _ (off_ne (i := 5) (j := 13) (by decide)), he4, st_ne _ _ (off_ne0' (j := 5) (by decide)), he3, st_ne _ _ (off_ne (i := 5) (j := 12) (by decide)), he2, st_ne _ _ (off_ne0' (j := 5) (by decide)), he1, st_ne _ _ (off_ne (i := 5) (j := 11) (by decide))]]; exact f_Q5
  · rw [show S131 (a + 6) = S (a + 6) from by rw [he10, st_ne _ _ (off_ne0' (j := 6) (by decide)), he9, st_ne _ _ (off_ne (i := 6) (j := 15) (by decide)), he8, st_ne _ _ (off_ne0' (j := 6) (by decide)), he7, st_ne _ _ (off_ne (i := 6) (j := 14) (by decide)), he6, st_ne _ _ (off_ne0' (j := 6) (by decide)), he5, st_ne _ _ (off_ne (i := 6) (j := 13) (by decide)), he4, st_ne _ _ (off_ne0' (j := 6) (by decide)), he3, st_ne _ _ (off_ne (i := 6) (j := 12) (by decide)), he2, st_ne _ _ (off_ne0' (j := 6) (by decide)), he1, st_ne _ _ (off_ne (i := 6) (j := 11) (by decide))]]; exact f_A6
  · rw [h0]; simp only [eV5, eV4, eV3, eV2, eV1, gC_sR, gC_sI, gC_sJ, gR_sR, gR_sI, gR_sJ, gI_sR, gI_sI, gI_sJ, Nat.reduceEqDiff, ↓reduceIte]; exact f_R10
  · rw [show S131 (a + 7) = S (a + 7) from by rw [he10, st_ne _ _ (off_ne0' (j := 7) (by decide)), he9, st_ne _ _ (off_ne (i := 7) (j := 15) (by decide)), he8, st_ne _ _ (off_ne0' (j := 7) (by decide)), he7, st_ne _ _ (off_ne (i := 7) (j := 14) (by decide)), he6, st_ne _ _ (off_ne0' (j := 7) (by decide)), he5, st_ne _ _ (off_ne (i := 7) (j := 13) (by decide)), he4, st_ne _ _ (off_ne0' (j := 7) (by decide)), he3, st_ne _ _ (off_ne (i := 7) (j := 12) (by decide)), he2, st_ne _ _ (off_ne0' (j := 7) (by decide)), he1, st_ne _ _ (off_ne (i := 7) (j := 11) (by decide))]]; exact f_A7
  · rw [h0]; simp only [eV5, eV4, eV3, eV2, eV1, gC_sR, gC_sI, gC_sJ, gR_sR, gR_sI, gR_sJ, gI_sR, gI_sI, gI_sJ, Nat.reduceEqDiff, ↓reduceIte]; exact f_R11
  · rw [show S131 (a + 8) = S (a + 8) from by rw [he10, st_ne _ _ (off_ne0' (j := 8) (by decide)), he9, st_ne _ _ (off_ne (i := 8) (j := 15) (by decide)), he8, st_ne _ _ (off_ne0' (j := 8) (by decide)), he7, st_ne _ _ (off_ne (i := 8) (j := 14) (by decide)), he6, st_ne _ _ (off_ne0' (j := 8) (by decide)), he5, st_ne _ _ (off_ne (i := 8) (j := 13) (by decide)), he4, st_ne _ _ (off_ne0' (j := 8) (by decide)), he3, st_ne _ _ (off_ne (i := 8) (j := 12) (by decide)), he2, st_ne _ _ (off_ne0' (j := 8) (by decide)), he1, st_ne _ _ (off_ne (i := 8) (j := 11) (by decide))]]; exact f_A8
  · rw [h0]; simp only [eV5, eV4, eV3, eV2, eV1, gC_sR, gC_sI, gC_sJ, gR_sR, gR_sI, gR_sJ, gI_sR, gI_sI, gI_sJ, Nat.reduceEqDiff, ↓reduceIte]; exact f_R12
  · rw [show S131 (a + 9) = S (a + 9) from by rw [he10, st_ne _ _ (off_ne0' (j := 9) (by decide)), he9, st_ne _ _ (off_ne (i := 9) (j := 15) (by decide)), he8, st_ne _ _ (off_ne0' (j := 9) (by decide)), he7, st_ne _ _ (off_ne (i := 9) (j := 14) (by decide)), he6, st_ne _ _ (off_ne0' (j := 9) (by decide)), he5, st_ne _ _ (off_ne (i := 9) (j := 13) (by decide)), he4, st_ne _ _ (off_ne0' (j := 9) (by decide)), he3, st_ne _ _ (off_ne (i := 9) (j := 12) (by decide)), he2, st_ne _ _ (off_ne0' (j := 9) (by decide)), he1, st_ne _ _ (off_ne (i := 9) (j := 11) (by decide))]]; exact f_A9
  · rw [h0]; simp only [eV5, eV4, eV3, eV2, eV1, gC_sR, gC_sI, gC_sJ, gR_sR, gR_sI, gR_sJ, gI_sR, gI_sI, gI_sJ, Nat.reduceEqDiff, ↓reduceIte]; exact f_R14
  · rw [show S131 (a + 10) = S (a + 10) from by rw [he10, st_ne _ _ (off_ne0' (j := 10) (by decide)), he9, st_ne _ _ (off_ne (i := 10) (j := 15) (by decide)), he8, st_ne _ _ (off_ne0' (j := 10) (by decide)), he7, st_ne _ _ (off_ne (i := 10) (j := 14) (by decide)), he6, st_ne _ _ (off_ne0' (j := 10) (by decide)), he5, st_ne _ _ (off_ne (i := 10) (j := 13) (by decide)), he4, st_ne _ _ (off_ne0' (j := 10) (by decide)), he3, st_ne _ _ (off_ne (i := 10) (j := 12) (by decide)), he2, st_ne _ _ (off_ne0' (j := 10) (by decide)), he1, st_ne _ _ (off_ne (i := 10) (j := 11) (by decide))]]; exact f_A10
  · rw [h0]; simp only [eV5, eV4, eV3, eV2, eV1, gC_sR, gC_sI, gC_sJ, gR_sR, gR_sI, gR_sJ, gI_sR, gI_sI, gI_sJ, Nat.reduceEqDiff, ↓reduceIte]; exact f_R15
  · rw [show S131 (a + 11) = S118 (a + 11) from by rw [he10, st_ne _ _ (off_ne0' (j := 11) (by decide)), he9, st_ne _ _ (off_ne (i := 11) (j := 15) (by decide)), he8, st_ne _ _ (off_ne0' (j := 11) (by decide)), he7, st_ne _ _ (off_ne (i := 11) (j := 14) (by decide)), he6, st_ne _ _ (off_ne0' (j := 11) (by decide)), he5, st_ne _ _ (off_ne (i := 11) (j := 13) (by decide)), he4, st_ne _ _ (off_ne0' (j := 11) (by decide)), he3, st_ne _ _ (off_ne (i := 11) (j := 12) (by decide)), he2, st_ne _ _ (off_ne0' (j := 11) (by decide))]]; rw [he1, st_same]
  · rw [h0]; simp only [eV5, eV4, eV3, eV2, eV1, gC_sR, gC_sI, gC_sJ, gR_sR, gR_sI, gR_sJ, gI_sR, gI_sI, gI_sJ, Nat.reduceEqDiff, ↓reduceIte]
  · rw [show S131 (a + 12) = S121 (a + 12) from by rw [he10, st_ne _ _ (off_ne0' (j := 12) (by decide)), he9, st_ne _ _ (off_ne (i := 12) (j := 15) (by decide)), he8, st_ne _ _ (off_ne0' (j := 12) (by decide)), he7, st_ne _ _ (off_ne (i := 12) (j := 14) (by decide)), he6, st_ne _ _ (off_ne0' (j := 12) (by decide)), he5, st_ne _ _ (off_ne (i := 12) (j := 13) (by decide)), he4, st_ne _ _ (off_ne0' (j := 12) (by decide))]]; rw [he3, st_same]
  · rw [h0]; simp only [eV5, eV4, eV3, eV2, eV1, gC_sR, gC_sI, gC_sJ, gR_sR, gR_sI, gR_sJ, gI_sR, gI_sI, gI_sJ, Nat.reduceEqDiff, ↓reduceIte]
  · rw [show S131 (a + 13) = S124 (a + 13) from by rw [he10, st_ne _ _ (off_ne0' (j := 13) (by decide)), he9, st_ne _ _ (off_ne (i := 13) (j := 15) (by decide)), he8, st_ne _ _ (off_ne0' (j := 13) (by decide)), he7, st_ne _ _ (off_ne (i := 13) (j := 14) (by decide)), he6, st_ne _ _ (off_ne0' (j := 13) (by decide))]]; rw [he5, st_same]
  · rw [h0]; simp only [eV5, eV4, eV3, eV2, eV1, gC_sR, gC_sI, gC_sJ, gR_sR, gR_sI, gR_sJ, gI_sR, gI_sI, gI_sJ, Nat.reduceEqDiff, ↓reduceIte]
  · rw [show S131 (a + 14) = S127 (a + 14) from by rw [he10, st_ne _ _ (off_ne0' (j := 14) (by decide)), he9, st_ne _ _ (off_ne (i := 14) (j := 15) (by decide)), he8, st_ne _ _ (off_ne0' (j := 14) (by decide))]]; rw [he7, st_same]
  · rw [h0]; simp only [eV5, eV4, eV3, eV2, eV1, gC_sR, gC_sI, gC_sJ, gR_sR, gR_sI, gR_sJ, gI_sR, gI_sI, gI_sJ, Nat.reduceEqDiff, ↓reduceIte]
  · rw [show S131 (a + 15) = S130 (a + 15) from by rw [he10, st_ne _ _ (off_ne0' (j := 15) (by decide))]]; rw [he9, st_same]
  · rw [h0]; simp only [eV5, eV4, eV3, eV2, eV1, gC_sR, gC_sI, gC_sJ, gR_sR, gR_sI, gR_sJ, gI_sR, gI_sI, gI_sJ, Nat.reduceEqDiff, ↓reduceIte]
set_option maxHeartbeats 4000000 in
theorem sg13_3 {fu : Nat} {G : GG} {S S0 : ST} {a : Nat} {P : ST → Prop} (hJ : J13_3 a S0 S) (nx : ∀ S', J13_4 a S0 S' → ∃ z, f_X13_init_g4 fu G S' a = some z ∧ P z) : ∃ z, f_X13_init_g3 fu G S a = some z ∧ P z := by
  obtain ⟨hF, f_C, f_I2, f_I18, f_A1, f_R1, f_A2, f_R4, f_A3, f_R5, f_A4, f_R6, f_R9, f_C5, f_N5, f_Q5, f_A6, f_R10, f_A7, f_R11, f_A8, f_R12, f_A9, f_R14, f_A10, f_R15, f_A11, f_R16, f_A12, f_R17, f_A13, f_R21, f_A14, f_R22, f_A15, f_R23⟩ := hJ
  unfold f_X13_init_g3
  obtain ⟨V0, h0⟩ : ∃ y, S a = y := ⟨_, rfl⟩
  rw [h0] at f_C f_I2 f_I18 f_R1 f_R4 f_R5 f_R6 f_R9 f_R10 f_R11 f_R12 f_R14 f_R15 f_R16 f_R17 f_R21 f_R22 f_R23
  refine ex_nm (fun S133 he1 => ?_)
  have h0 := (st_at he1 (off_ne0 (j := 16) (by decide))).trans h0
  refine ex_ck (decide_eq_true (by rw [h0]; exact f_C)) ?_
  refine ex_nm (fun S134 he2 => ?_)
  obtain ⟨V1, eV1⟩ : ∃ y, y = sR V0 24 (some (a + 16)) := ⟨_, rfl⟩
  have h0 : S134 a = V1 := by rw [he2, st_same, h0, eV1]
  refine ex_nm (fun S136 he3 => ?_)
  have h0 := (st_at he3 (off_ne0 (j := 17) (by decide))).trans h0
  refine ex_ck (decide_eq_true (by rw [h0]; exact (by simp only [eV1, gC_sR, gC_sI, gC_sJ, gR_sR, gR_sI, gR_sJ, gI_sR, gI_sI, gI_sJ, Nat.reduceEqDiff, ↓reduceIte]; exact f_C))) ?_
  refine ex_nm (fun S137 he4 => ?_)
  obtain ⟨V2, eV2⟩ : ∃ y, y = sR V1 26 (some (a + 17)) := ⟨_, rfl⟩
  have h0 : S137 a = V2 := by rw [he4, st_same, h0, eV2]
  refine ex_nm (fun S139 he5 => ?_)
  have h0 := (st_at he5 (off_ne0 (j := 18) (by decide))).trans h0
  refine ex_ck (decide_eq_true (by rw [h0]; exact (by simp only [eV2, eV1, gC_sR, gC_sI, gC_sJ, gR_sR, gR_sI, gR_sJ, gI_sR, gI_sI, gI_sJ, Nat.reduceEqDiff, ↓reduceIte]; exact f_C))) ?_
  refine ex_nm (fun S140 he6 => ?_)
  obtain ⟨V3, eV3⟩ : ∃ y, y = sR V2 27 (some (a + 18)) := ⟨_, rfl⟩
  have h0 : S140 a = V3 := by rw [he6, st_same, h0, eV3]
  refine ex_nm (fun S142 he7 => ?_)
  have h0 := (st_at he7 (off_ne0 (j := 19) (by decide))).trans h0
  refine ex_ck (decide_eq_true (by rw [h0]; exact (by simp only [eV3, eV2, eV1, gC_sR, gC_sI, gC_sJ, gR_sR, gR_sI, gR_sJ, gI_sR, gI_sI, gI_sJ, Nat.reduceEqDiff, ↓reduceIte]; exact f_C))) ?_
  refine ex_nm (fun S143 he8 => ?_)
  obtain ⟨V4, eV4⟩ : ∃ y, y = sR V3 28 (some (a + 19)) := ⟨_, rfl⟩
  have h0 : S143 a = V4 := by rw [he8, st_same, h0, eV4]
  refine ex_nm (fun S145 he9 => ?_)
  have h0 := (st_at he9 (off_ne0 (j := 20) (by decide))).trans h0
  refine ex_ck (decide_eq_true (by rw [h0]; exact (by simp only [eV4, eV3, eV2, eV1, gC_sR, gC_sI, gC_sJ, gR_sR, gR_sI, gR_sJ, gI_sR, gI_sI, gI_sJ, Nat.reduceEqDiff, ↓reduceIte]; exact f_C))) ?_
  refine ex_nm (fun S146 he10 => ?_)
  obtain ⟨V5, eV5⟩ : ∃ y, y = sR V4 29 (some (a + 20)) := ⟨_, rfl⟩
  have h0 : S146 a = V5 := by rw [he10, st_same, h0, eV5]
  refine nx S146 ⟨?_, ?_, ?_, ?_, ?_, ?_, ?_, ?_, ?_, ?_, ?_, ?_, ?_, ?_, ?_, ?_, ?_, ?_, ?_, ?_, ?_, ?_, ?_, ?_, ?_, ?_, ?_, ?_, ?_, ?_, ?_, ?_, ?_, ?_, ?_, ?_, ?_, ?_, ?_, ?_, ?_, ?_, ?_, ?_, ?_, ?_⟩
  · intro b hb
    rw [he10, st_ne _ _ (by omega), he9, st_ne _ _ (by omega), he8, st_ne _ _ (by omega), he7, st_ne _ _ (by omega), he6, st_ne _ _ (by omega), he5, st_ne _ _ (by omega), he4, st_ne _ _ (by omega), he3, st_ne _ _ (by omega), he2, st_ne _ _ (by omega), he1, st_ne _ _ (by omega)]; exact hF b hb
  · rw [h0]; simp only [eV5, eV4, eV3, eV2, eV1, gC_sR, gC_sI, gC_sJ, gR_sR, gR_sI, gR_sJ, gI_sR, gI_sI, gI_sJ, Nat.reduceEqDiff, ↓reduceIte]; exact f_C
  · rw [h0]; simp only [eV5, eV4, eV3, eV2, eV1, gC_sR, gC_sI, gC_sJ, gR_sR, gR_sI, gR_sJ, gI_sR, gI_sI, gI_sJ, Nat.reduceEqDiff, ↓reduceIte]; exact f_I2
  · rw [h0]; simp only [eV5, eV4, eV3, eV2, eV1, gC_sR, gC_sI, gC_sJ, gR_sR, gR_sI, gR_sJ, gI_sR, gI_sI, gI_sJ, Nat.reduceEqDiff, ↓reduceIte]; exact f_I18
  · rw [show S146 (a + 1) = S (a + 1) from by rw [he10, st_ne _ _ (off_ne0' (j := 1) (by decide)), he9, st_ne _ _ (off_ne (i := 1) (j := 20) (by decide)), he8, st_ne _ _ (off_ne0' (j := 1) (by decide)), he7, st_ne _ _ (off_ne (i := 1) (j := 19) (by decide)), he6, st_ne _ _ (off_ne0' (j := 1) (by decide)), he5, st_ne _ _ (off_ne (i := 1) (j := 18) (by decide)), he4, st_ne _ _ (off_ne0' (j := 1) (by decide)), he3, st_ne _ _ (off_ne (i := 1) (j := 17) (by decide)), he2, st_ne _ _ (off_ne0' (j := 1) (by decide)), he1, st_ne _ _ (off_ne (i := 1) (j := 16) (by decide))]]; exact f_A1
  · rw [h0]; simp only [eV5, eV4, eV3, eV2, eV1, gC_sR, gC_sI, gC_sJ, gR_sR, gR_sI, gR_sJ, gI_sR, gI_sI, gI_sJ, Nat.reduceEqDiff, ↓reduceIte]; exact f_R1
  · rw [show S146 (a + 2) = S (a + 2) from by rw [he10, st_ne _ _ (off_ne0' (j := 2) (by decide)), he9, st_ne _ _ (off_ne (i := 2) (j := 20) (by decide)), he8, st_ne _ _ (off_ne0' (j := 2) (by decide)), he7, st_ne _ _ (off_ne (i := 2) (j := 19) (by decide)), he6, st_ne _ _ (off_ne0' (j := 2) (by decide)), he5, st_ne _ _ (off_ne (i := 2) (j := 18) (by decide)), he4, st_ne _ _ (off_ne0' (j := 2) (by decide)), he3, st_ne _ _ (off_ne (i := 2) (j := 17) (by decide)), he2, st_ne _ _ (off_ne0' (j := 2) (by decide)), he1, st_ne _ _ (off_ne (i := 2) (j := 16) (by decide))]]; exact f_A2
  · rw [h0]; simp only [eV5, eV4, eV3, eV2, eV1, gC_sR, gC_sI, gC_sJ, gR_sR, gR_sI, gR_sJ, gI_sR, gI_sI, gI_sJ, Nat.reduceEqDiff, ↓reduceIte]; exact f_R4
  · rw [show S146 (a + 3) = S (a + 3) from by rw [he10, st_ne _ _ (off_ne0' (j := 3) (by decide)), he9, st_ne _ _ (off_ne (i := 3) (j := 20) (by decide)), he8, st_ne _ _ (off_ne0' (j := 3) (by decide)), he7, st_ne _ _ (off_ne (i := 3) (j := 19) (by decide)), he6, st_ne _ _ (off_ne0' (j := 3) (by decide)), he5, st_ne _ _ (off_ne (i := 3) (j := 18) (by decide)), he4, st_ne _ _ (off_ne0' (j := 3) (by decide)), he3, st_ne _ _ (off_ne (i := 3) (j := 17) (by decide)), he2, st_ne _ _ (off_ne0' (j := 3) (by decide)), he1, st_ne _ _ (off_ne (i := 3) (j := 16) (by decide))]]; exact f_A3
  · rw [h0]; simp only [eV5, eV4, eV3, eV2, eV1, gC_sR, gC_sI, gC_sJ, gR_sR, gR_sI, gR_sJ, gI_sR, gI_sI, gI_sJ, Nat.reduceEqDiff, ↓reduceIte]; exact f_R5
  · rw [show S146 (a + 4) = S (a + 4) from by rw [he10, st_ne _ _ (off_ne0' (j := 4) (by decide)), he9, st_ne _ _ (off_ne (i := 4) (j := 20) (by decide)), he8, st_ne _ _ (off_ne0' (j := 4) (by decide)), he7, st_ne _ _ (off_ne (i := 4) (j := 19) (by decide)), he6, st_ne _ _ (off_ne0' (j := 4) (by decide)), he5, st_ne _ _ (off_ne (i := 4) (j := 18) (by decide)), he4, st_ne _ _ (off_ne0' (j := 4) (by decide)), he3, st_ne _ _ (off_ne (i := 4) (j := 17) (by decide)), he2, st_ne _ _ (off_ne0' (j := 4) (by decide)), he1, st_ne _ _ (off_ne (i := 4) (j := 16) (by decide))]]; exact f_A4
  · rw [h0]; simp only [eV5, eV4, eV3, eV2, eV1, gC_sR, gC_sI, gC_sJ, gR_sR, gR_sI, gR_sJ, gI_sR, gI_sI, gI_sJ, Nat.reduceEqDiff, ↓reduceIte]; exact f_R6
  · rw [h0]; simp only [eV5, eV4, eV3, eV2, eV1, gC_sR, gC_sI, gC_sJ, gR_sR, gR_sI, gR_sJ, gI_sR, gI_sI, gI_sJ, Nat.reduceEqDiff, ↓reduceIte]; exact f_R9
  · rw [show S146 (a + 5) = S (a + 5) from by rw [he10, st_ne _ _ (off_ne0' (j := 5) (by decide)), he9, st_ne _ _ (off_ne (i := 5) (j := 20) (by decide)), he8, st_ne _ _ (off_ne0' (j := 5) (by decide)), he7, st_ne _ _ (off_ne (i := 5) (j := 19) (by decide)), he6, st_ne _ _ (off_ne0' (j := 5) (by decide)), he5, st_ne _ _ (off_ne (i := 5) (j := 18) (by decide)), he4, st_ne _ _ (off_ne0' (j := 5) (by decide)), he3, st_ne _ _ (off_ne (i := 5) (j := 17) (by decide)), he2, st_ne _ _ (off_ne0' (j := 5) (by decide)), he1, st_ne _ _ (off_ne (i := 5) (j := 16) (by decide))]]; exact f_C5
  · rw [show S146 (a + 5) = S (a + 5) from by rw [he10, st_ne _ _ (off_ne0' (j := 5) (by decide)), he9, st_ne _ _ (off_ne (i := 5) (j := 20) (by decide)), he8, st_ne _ _ (off_ne0' (j := 5) (by decide)), he7, st_ne _ _ (off_ne (i := 5) (j := 19) (by decide)), he6, st_ne _ _ (off_ne0' (j := 5) (by decide)), he5, st_ne _ _ (off_ne (i := 5) (j := 18) (by decide)), he4, st_ne _ _ (off_ne0' (j := 5) (by decide)), he3, st_ne _ _ (off_ne (i := 5) (j := 17) (by decide)), he2, st_ne _ _ (off_ne0' (j := 5) (by decide)), he1, st_ne _ _ (off_ne (i := 5) (j := 16) (by decide))]]; exact f_N5
  · rw [show S146 (a + 5) = S (a + 5) from by rw [he10, st_ne _ _ (off_ne0' (j := 5) (by decide)), he9, st_ne _ _ (off_ne (i := 5) (j := 20) (by decide)), he8, st_ne _ _ (off_ne0' (j := 5) (by decide)), he7, st_ne _ _ (off_ne (i := 5) (j := 19) (by decide)), he6, st_ne _ _ (off_ne0' (j := 5) (by decide)), he5, st_ne _ _ (off_ne (i := 5) (j := 18) (by decide)), he4, st_ne _ _ (off_ne0' (j := 5) (by decide)), he3, st_ne _ _ (off_ne (i := 5) (j := 17) (by decide)), he2, st_ne _ _ (off_ne0' (j := 5) (by decide)), he1, st_ne _ _ (off_ne (i := 5) (j := 16) (by decide))]]; exact f_Q5
  · rw [show S146 (a + 6) = S (a + 6) from by rw [he10, st_ne _ _ (off_ne0' (j := 6) (by decide)), he9, st_ne _ _ (off_ne (i := 6) (j := 20) (by decide)), he8, st_ne _ _ (off_ne0' (j := 6) (by decide)), he7, st_ne _ _ (off_ne (i := 6) (j := 19) (by decide)), he6, st_ne _ _ (off_ne0' (j := 6) (by decide)), he5, st_ne _ _ (off_ne (i := 6) (j := 18) (by decide)), he4, st_ne _ _ (off_ne0' (j := 6) (by decide)), he3, st_ne _ _ (off_ne (i := 6) (j := 17) (by decide)), he2, st_ne _ _ (off_ne0' (j := 6) (by decide)), he1, st_ne _ _ (off_ne (i := 6) (j := 16) (by decide))]]; exact f_A6
  · rw [h0]; simp only [eV5, eV4, eV3, eV2, eV1, gC_sR, gC_sI, gC_sJ, gR_sR, gR_sI, gR_sJ, gI_sR, gI_sI, gI_sJ, Nat.reduceEqDiff, ↓reduceIte]; exact f_R10
  · rw [show S146 (a + 7) = S (a + 7) from by rw [he10, st_ne _ _ (off_ne0' (j := 7) (by decide)), he9, st_ne _ _ (off_ne (i := 7) (j := 20) (by decide)), he8, st_ne _ _ (off_ne0' (j := 7) (by decide)), he7, st_ne _ _ (off_ne (i := 7) (j := 19) (by decide)), he6, st_ne _ _ (off_ne0' (j := 7) (by decide)), he5, st_ne _ _ (off_ne (i := 7) (j := 18) (by decide)), he4, st_ne _ _ (off_ne0' (j := 7) (by decide)), he3, st_ne _ _ (off_ne (i := 7) (j := 17) (by decide)), he2, st_ne _ _ (off_ne0' (j := 7) (by decide)), he1, st_ne _ _ (off_ne (i := 7) (j := 16) (by decide))]]; exact f_A7
  · rw [h0]; simp only [eV5, eV4, eV3, eV2, eV1, gC_sR, gC_sI, gC_sJ, gR_sR, gR_sI, gR_sJ, gI_sR, gI_sI, gI_sJ, Nat.reduceEqDiff, ↓reduceIte]; exact f_R11
  · rw [show S146 (a + 8) = S (a + 8) from by rw [he10, st_ne _ _ (off_ne0' (j := 8) (by decide)), he9, st_ne _ _ (off_ne (i := 8) (j := 20) (by decide)), he8, st_ne _ _ (off_ne0' (j := 8) (by decide)), he7, st_ne _ _ (off_ne (i := 8) (j := 19) (by decide)), he6, st_ne _ _ (off_ne0' (j := 8) (by decide)), he5, st_ne _ _ (off_ne (i := 8) (j := 18) (by decide)), he4, st_ne _ _ (off_ne0' (j := 8) (by decide)), he3, st_ne _ _ (off_ne (i := 8) (j := 17) (by decide)), he2, st_ne _ _ (off_ne0' (j := 8) (by decide)), he1, st_ne _ _ (off_ne (i := 8) (j := 16) (by decide))]]; exact f_A8
  · rw [h0]; simp only [eV5, eV4, eV3, eV2, eV1, gC_sR, gC_sI, gC_sJ, gR_sR, gR_sI, gR_sJ, gI_sR, gI_sI, gI_sJ, Nat.reduceEqDiff, ↓reduceIte]; exact f_R12
  · rw [show S146 (a + 9) = S (a + 9) from by rw [he10, st_ne _ _ (off_ne0' (j := 9) (by decide)), he9, st_ne _ _ (off_ne (i := 9) (j := 20) (by decide)), he8, st_ne _ _ (off_ne0' (j := 9) (by decide)), he7, st_ne _ _ (off_ne (i := 9) (j := 19) (by decide)), he6, st_ne _ _ (off_ne0' (j := 9) (by decide)), he5, st_ne _ _ (off_ne (i := 9) (j := 18) (by decide)), he4, st_ne _ _ (off_ne0' (j := 9) (by decide)), he3, st_ne _ _ (off_ne (i := 9) (j := 17) (by decide)), he2, st_ne _ _ (off_ne0' (j := 9) (by decide)), he1, st_ne _ _ (off_ne (i := 9) (j := 16) (by decide))]]; exact f_A9
  · rw [h0]; simp only [eV5, eV4, eV3, eV2, eV1, gC_sR, gC_sI, gC_sJ, gR_sR, gR_sI, gR_sJ, gI_sR, gI_sI, gI_sJ, Nat.reduceEqDiff, ↓reduceIte]; exact f_R14
  · rw [show S146 (a + 10) = S (a + 10) from by rw [he10, st_ne _ _ (off_ne0' (j := 10) (by decide)), he9, st_ne _ _ (off_ne (i := 10) (j := 20) (by decide)), he8, st_ne _ _ (off_ne0' (j := 10) (by decide)), he7, st_ne _ _ (off_ne (i := 10) (j := 19) (by decide)), he6, st_ne _ _ (off_ne0' (j := 10) (by decide)), he5, st_ne _ _ (off_ne (i := 10) (j := 18) (by decide)), he4, st_ne _ _ (off_ne0' (j := 10) (by decide)), he3, st_ne _ _ (off_ne (i := 10) (j := 17) (by decide)), he2, st_ne _ _ (off_ne0' (j := 10) (by decide)), he1, st_ne _ _ (off_ne (i := 10) (j := 16) (by decide))]]; exact f_A10
  · rw [h0]; simp only [eV5, eV4, eV3, eV2, eV1, gC_sR, gC_sI, gC_sJ, gR_sR, gR_sI, gR_sJ, gI_sR, gI_sI, gI_sJ, Nat.reduceEqDiff, ↓reduceIte]; exact f_R15
  · rw [show S146 (a + 11) = S (a + 11) from by rw [he10, st_ne _ _ (off_ne0' (j := 11) (by decide)), he9, st_ne _ _ (off_ne (i := 11) (j := 20) (by decide)), he8, st_ne _ _ (off_ne0' (j := 11) (by decide)), he7, st_ne _ _ (off_ne (i := 11) (j := 19) (by decide)), he6, st_ne _ _ (off_ne0' (j := 11) (by decide)), he5, st_ne _ _ (off_ne (i := 11) (j := 18) (by decide)), he4, st_ne _ _ (off_ne0' (j := 11) (by decide)), he3, st_ne _ _ (off_ne (i := 11) (j := 17) (by decide)), he2, st_ne _ _ (off_ne0' (j := 11) (by decide)), he1, st_ne _ _ (off_ne (i := 11) (j := 16) (by decide))]]; exact f_A11
  · rw [h0]; simp only [eV5, eV4, eV3, eV2, eV1, gC_sR, gC_sI, gC_sJ, gR_sR, gR_sI, gR_sJ, gI_sR, gI_sI, gI_sJ, Nat.reduceEqDiff, ↓reduceIte]; exact f_R16
  · rw [show S146 (a + 12) = S (a + 12) from by rw [he10, st_ne _ _ (off_ne0' (j := 12) (by decide)), he9, st_ne _ _ (off_ne (i := 12) (j := 20) (by decide)), he8, st_ne _ _ (off_ne0' (j := 12) (by decide)), he7, st_ne _ _ (off_ne (i := 12) (j := 19) (by decide)), he6, st_ne _ _ (off_ne0' (j := 12) (by decide)), he5, st_ne _ _ (off_ne (i := 12) (j := 18) (by decide)), he4, st_ne _ _ (off_ne0' (j := 12) (by decide)), he3, st_ne _ _ (off_ne (i := 12) (j := 17) (by decide)), he2, st_ne _ _ (off_ne0' (j := 12) (by decide)), he1, st_ne _ _ (off_ne (i := 12) (j := 16) (by decide))]]; exact f_A12
  · rw [h0]; simp only [eV5, eV4, eV3, eV2, eV1, gC_sR, gC_sI, gC_sJ, gR_sR, gR_sI, gR_sJ, gI_sR, gI_sI, gI_sJ, Nat.reduceEqDiff, ↓reduceIte]; exact f_R17
  · rw [show S146 (a + 13) = S (a + 13) from by rw [he10, st_ne _ _ (off_ne0' (j := 13) (by decide)), he9, st_ne _ _ (off_ne (i := 13) (j := 20) (by decide)), he8, st_ne _ _ (off_ne0' (j := 13) (by decide)), he7, st_ne _ _ (off_ne (i := 13) (j := 19) (by decide)), he6, st_ne _ _ (off_ne0' (j := 13) (by decide)), he5, st_ne _ _ (off_ne (i := 13) (j := 18) (by decide)), he4, st_ne _ _ (off_ne0' (j := 13) (by decide)), he3, st_ne _ _ (off_ne (i := 13) (j := 17) (by decide)), he2, st_ne _ _ (off_ne0' (j := 13) (by decide)), he1, st_ne _ _ (off_ne (i := 13) (j := 16) (by decide))]]; exact f_A13
  · rw [h0]; simp only [eV5, eV4, eV3, eV2, eV1, gC_sR, gC_sI, gC_sJ, gR_sR, gR_sI, gR_sJ, gI_sR, gI_sI, gI_sJ, Nat.reduceEqDiff, ↓reduceIte]; exact f_R21
  · rw [show S146 (a + 14) = S (a + 14) from by rw [he10, st_ne _ _ (off_ne0' (j := 14) (by decide)), he9, st_ne _ _ (off_ne (i := 14) (j := 20) (by decide)), he8, st_ne _ _ (off_ne0' (j := 14) (by decide)), he7, st_ne _ _ (off_ne (i := 14) (j := 19) (by decide)), he6, st_ne _ _ (off_ne0' (j := 14) (by decide)), he5, st_ne _ _ (off_ne (i := 14) (j := 18) (by decide)), he4, st_ne _ _ (off_ne0' (j := 14) (by decide)), he3, st_ne _ _ (off_ne (i := 14) (j := 17) (by decide)), he2, st_ne _ _ (off_ne0' (j := 14) (by decide)), he1, st_ne _ _ (off_ne (i := 14) (j := 16) (by decide))]]; exact f_A14
  · rw [h0]; simp only [eV5, eV4, eV3, eV2, eV1, gC_sR, gC_sI, gC_sJ, gR_sR, gR_sI, gR_sJ, gI_sR, gI_sI, gI_sJ, Nat.reduceEqDiff, ↓reduceIte]; exact f_R22
  · rw [show S146 (a + 15) = S (a + 15) from by rw [he10, st_ne _ _ (off_ne0' (j := 15) (by decide)), he9, st_ne _ _ (off_ne (i := 15) (j := 20) (by decide)), he8, st_ne _ _ (off_ne0' (j := 15) (by decide)), he7, st_ne _ _ (off_ne (i := 15) (j := 19) (by decide)), he6, st_ne _ _ (off_ne0' (j := 15) (by decide)), he5, st_ne _ _ (off_ne (i := 15) (j := 18) (by decide)), he4, st_ne _ _ (off_ne0' (j := 15) (by decide)), he3, st_ne _ _ (off_ne (i := 15) (j := 17) (by decide)), he2, st_ne _ _ (off_ne0' (j := 15) (by decide)), he1, st_ne _ _ (off_ne (i := 15) (j := 16) (by decide))]]; exact f_A15
  · rw [h0]; simp only [eV5, eV4, eV3, eV2, eV1, gC_sR, gC_sI, gC_sJ, gR_sR, gR_sI, gR_sJ, gI_sR, gI_sI, gI_sJ, Nat.reduceEqDiff, ↓reduceIte]; exact f_R23
  · rw [show S146 (a + 16) = S133 (a + 16) from by rw [he10, st_ne _ _ (off_ne0' (j := 16) (by decide)), he9, st_ne _ _ (off_ne (i := 16) (j := 20) (by decide)), he8, st_ne _ _ (off_ne0' (j := 16) (by decide)), he7, st_ne _ _ (off_ne (i := 16) (j := 19) (by decide)), he6, st_ne _ _ (off_ne0' (j := 16) (by decide)), he5, st_ne _ _ (off_ne (i := 16) (j := 18) (by decide)), he4, st_ne _ _ (off_ne0' (j := 16) (by decide)), he3, st_ne _ _ (off_ne (i := 16) (j := 17) (by decide)), he2, st_ne _ _ (off_ne0' (j := 16) (by decide))]]; rw [he1, st_same]
  · rw [h0]; simp only [eV5, eV4, eV3, eV2, eV1, gC_sR, gC_sI, gC_sJ, gR_sR, gR_sI, gR_sJ, gI_sR, gI_sI, gI_sJ, Nat.reduceEqDiff, ↓reduceIte]
  · rw [show S146 (a + 17) = S136 (a + 17) from by rw [he10, st_ne _ _ (off_ne0' (j := 17) (by decide)), he9, st_ne _ _ (off_ne (i := 17) (j := 20) (by decide)), he8, st_ne _ _ (off_ne0' (j := 17) (by decide)), he7, st_ne _ _ (off_ne (i := 17) (j := 19) (by decide)), he6, st_ne _ _ (off_ne0' (j := 17) (by decide)), he5, st_ne _ _ (off_ne (i := 17) (j := 18) (by decide)), he4, st_ne _ _ (off_ne0' (j := 17) (by decide))]]; rw [he3, st_same]
  · rw [h0]; simp only [eV5, eV4, eV3, eV2, eV1, gC_sR, gC_sI, gC_sJ, gR_sR, gR_sI, gR_sJ, gI_sR, gI_sI, gI_sJ, Nat.reduceEqDiff, ↓reduceIte]
  · rw [show S146 (a + 18) = S139 (a + 18) from by rw [he10, st_ne _ _ (off_ne0' (j := 18) (by decide)), he9, st_ne _ _ (off_ne (i := 18) (j := 20) (by decide)), he8, st_ne _ _ (off_ne0' (j := 18) (by decide)), he7, st_ne _ _ (off_ne (i := 18) (j := 19) (by decide)), he6, st_ne _ _ (off_ne0' (j := 18) (by decide))]]; rw [he5, st_same]
  · rw [h0]; simp only [eV5, eV4, eV3, eV2, eV1, gC_sR, gC_sI, gC_sJ, gR_sR, gR_sI, gR_sJ, gI_sR, gI_sI, gI_sJ, Nat.reduceEqDiff, ↓reduceIte]
  · rw [show S146 (a + 19) = S142 (a + 19) from by rw [he10, st_ne _ _ (off_ne0' (j := 19) (by decide)), he9, st_ne _ _ (off_ne (i := 19) (j := 20) (by decide)), he8, st_ne _ _ (off_ne0' (j := 19) (by decide))]]; rw [he7, st_same]
  · rw [h0]; simp only [eV5, eV4, eV3, eV2, eV1, gC_sR, gC_sI, gC_sJ, gR_sR, gR_sI, gR_sJ, gI_sR, gI_sI, gI_sJ, Nat.reduceEqDiff, ↓reduceIte]
  · rw [show S146 (a + 20) = S145 (a + 20) from by rw [he10, st_ne _ _ (off_ne0' (j := 20) (by decide))]]; rw [he9, st_same]
  · rw [h0]; simp only [eV5, eV4, eV3, eV2, eV1, gC_sR, gC_sI, gC_sJ, gR_sR, gR_sI, gR_sJ, gI_sR, gI_sI, gI_sJ, Nat.reduceEqDiff, ↓reduceIte]
set_option maxHeartbeats 4000000 in
theorem sg13_4 {fu : Nat} {G : GG} {S S0 : ST} {a : Nat} {P : ST → Prop} (hJ : J13_4 a S0 S) (nx : ∀ S', J13_5 a S0 S' → ∃ z, f_X13_init_g5 fu G S' a = some z ∧ P z) : ∃ z, f_X13_init_g4 fu G S a = some z ∧ P z := by
  obtain ⟨hF, f_C, f_I2, f_I18, f_A1, f_R1, f_A2, f_R4, f_A3, f_R5, f_A4, f_R6, f_R9, f_C5, f_N5, f_Q5, f_A6, f_R10, f_A7, f_R11, f_A8, f_R12, f_A9, f_R14, f_A10, f_R15, f_A11, f_R16, f_A12, f_R17, f_A13, f_R21, f_A14, f_R22, f_A15, f_R23, f_A16, f_R24, f_A17, f_R26, f_A18, f_R27, f_A19, f_R28, f_A20, f_R29⟩ := hJ
  unfold f_X13_init_g4
  obtain ⟨V0, h0⟩ : ∃ y, S a = y := ⟨_, rfl⟩
  rw [h0] at f_C f_I2 f_I18 f_R1 f_R4 f_R5 f_R6 f_R9 f_R10 f_R11 f_R12 f_R14 f_R15 f_R16 f_R17 f_R21 f_R22 f_R23 f_R24 f_R26 f_R27 f_R28 f_R29
  refine ex_nm (fun S148 he1 => ?_)
  have h0 := (st_at he1 (off_ne0 (j := 21) (by decide))).trans h0
  refine ex_ck (decide_eq_true (by rw [h0]; exact f_C)) ?_
  refine ex_nm (fun S149 he2 => ?_)
  obtain ⟨V1, eV1⟩ : ∃ y, y = sR V0 32 (some (a + 21)) := ⟨_, rfl⟩
  have h0 : S149 a = V1 := by rw [he2, st_same, h0, eV1]
  refine ex_nm (fun S151 he3 => ?_)
  have h0 := (st_at he3 (off_ne0 (j := 22) (by decide))).trans h0
  refine ex_ck (decide_eq_true (by rw [h0]; exact (by simp only [eV1, gC_sR, gC_sI, gC_sJ, gR_sR, gR_sI, gR_sJ, gI_sR, gI_sI, gI_sJ, Nat.reduceEqDiff, ↓reduceIte]; exact f_C))) ?_
  refine ex_nm (fun S152 he4 => ?_)
  obtain ⟨V2, eV2⟩ : ∃ y, y = sR V1 33 (some (a + 22)) := ⟨_, rfl⟩
  have h0 : S152 a = V2 := by rw [he4, st_same, h0, eV2]
  refine ex_nm (fun S154 he5 => ?_)
  have h0 := (st_at he5 (off_ne0 (j := 23) (by decide))).trans h0
  refine ex_ck (decide_eq_true (by rw [h0]; exact (by simp only [eV2, eV1, gC_sR, gC_sI, gC_sJ, gR_sR, gR_sI, gR_sJ, gI_sR, gI_sI, gI_sJ, Nat.reduceEqDiff, ↓reduceIte]; exact f_C))) ?_
  refine ex_nm (fun S155 he6 => ?_)
  obtain ⟨V3, eV3⟩ : ∃ y, y = sR V2 34 (some (a + 23)) := ⟨_, rfl⟩
  have h0 : S155 a = V3 := by rw [he6, st_same, h0, eV3]
  refine ex_nm (fun S157 he7 => ?_)
  have h0 := (st_at he7 (off_ne0 (j := 24) (by decide))).trans h0
  refine ex_ck (decide_eq_true (by rw [h0]; exact (by simp only [eV3, eV2, eV1, gC_sR, gC_sI, gC_sJ, gR_sR, gR_sI, gR_sJ, gI_sR, gI_sI, gI_sJ, Nat.reduceEqDiff, ↓reduceIte]; exact f_C))) ?_
  refine ex_nm (fun S158 he8 => ?_)
  obtain ⟨V4, eV4⟩ : ∃ y, y = sR V3 35 (some (a + 24)) := ⟨_, rfl⟩
  have h0 : S158 a = V4 := by rw [he8, st_same, h0, eV4]
  refine ex_nm (fun S160 he9 => ?_)
  have h0 := (st_at he9 (off_ne0 (j := 25) (by decide))).trans h0
  refine ex_ck (decide_eq_true (by rw [h0]; exact (by simp only [eV4, eV3, eV2, eV1, gC_sR, gC_sI, gC_sJ, gR_sR, gR_sI, gR_sJ, gI_sR, gI_sI, gI_sJ, Nat.reduceEqDiff, ↓reduceIte]; exact f_C))) ?_
  refine ex_nm (fun S161 he10 => ?_)
  obtain ⟨V5, eV5⟩ : ∃ y, y = sR V4 38 (some (a + 25)) := ⟨_, rfl⟩
  have h0 : S161 a = V5 := by rw [he10, st_same, h0, eV5]
  refine nx S161 ⟨?_, ?_, ?_, ?_, ?_, ?_, ?_, ?_, ?_, ?_, ?_, ?_, ?_, ?_, ?_, ?_, ?_, ?_, ?_, ?_, ?_, ?_, ?_, ?_, ?_, ?_, ?_, ?_, ?_, ?_, ?_, ?_, ?_, ?_, ?_, ?_, ?_, ?_, ?_, ?_, ?_, ?_, ?_, ?_, ?_, ?_, ?_, ?_, ?_, ?_, ?_, ?_, ?_, ?_, ?_, ?_⟩
  · intro b hb
    rw [he10, st_ne _ _ (by omega), he9, st_ne _ _ (by omega), he8, st_ne _ _ (by omega), he7, st_ne _ _ (by omega), he6, st_ne _ _ (by omega), he5, st_ne _ _ (by omega), he4, st_ne _ _ (by omega), he3, st_ne _ _ (by omega), he2, st_ne _ _ (by omega), he1, st_ne _ _ (by omega)]; exact hF b hb
  · rw [h0]; simp only [eV5, eV4, eV3, eV2, eV1, gC_sR, gC_sI, gC_sJ, gR_sR, gR_sI, gR_sJ, gI_sR, gI_sI, gI_sJ, Nat.reduceEqDiff, ↓reduceIte]; exact f_C
  · rw [h0]; simp only [eV5, eV4, eV3, eV2, eV1, gC_sR, gC_sI, gC_sJ, gR_sR, gR_sI, gR_sJ, gI_sR, gI_sI, gI_sJ, Nat.reduceEqDiff, ↓reduceIte]; exact f_I2
  · rw [h0]; simp only [eV5, eV4, eV3, eV2, eV1, gC_sR, gC_sI, gC_sJ, gR_sR, gR_sI, gR_sJ, gI_sR, gI_sI, gI_sJ, Nat.reduceEqDiff, ↓reduceIte]; exact f_I18
  · rw [show S161 (a + 1) = S (a + 1) from by rw [he10, st_ne _ _ (off_ne0' (j := 1) (by decide)), he9, st_ne _ _ (off_ne (i := 1) (j := 25) (by decide)), he8, st_ne _ _ (off_ne0' (j := 1) (by decide)), he7, st_ne _ _ (off_ne (i := 1) (j := 24) (by decide)), he6, st_ne _ _ (off_ne0' (j := 1) (by decide)), he5, st_ne _ _ (off_ne (i := 1) (j := 23) (by decide)), he4, st_ne _ _ (off_ne0' (j := 1) (by decide)), he3, st_ne _ _ (off_ne (i := 1) (j := 22) (by decide)), he2, st_ne _ _ (off_ne0' (j := 1) (by decide)), he1, st_ne _ _ (off_ne (i := 1) (j := 21) (by decide))]]; exact f_A1
  · rw [h0]; simp only [eV5, eV4, eV3, eV2, eV1, gC_sR, gC_sI, gC_sJ, gR_sR, gR_sI, gR_sJ, gI_sR, gI_sI, gI_sJ, Nat.reduceEqDiff, ↓reduceIte]; exact f_R1
  · rw [show S161 (a + 2) = S (a + 2) from by rw [he10, st_ne _ _ (off_ne0' (j := 2) (by decide)), he9, st_ne _ _ (off_ne (i := 2) (j := 25) (by decide)), he8, st_ne _ _ (off_ne0' (j := 2) (by decide)), he7, st_ne _ _ (off_ne (i := 2) (j := 24) (by decide)), he6, st_ne _ _ (off_ne0' (j := 2) (by decide)), he5, st_ne _ _ (off_ne (i := 2) (j := 23) (by decide)), he4, st_ne _ _ (off_ne0' (j := 2) (by decide)), he3, st_ne _ _ (off_ne (i := 2) (j := 22) (by decide)), he2, st_ne _ _ (off_ne0' (j := 2) (by decide)), he1, st_ne _ _ (off_ne (i := 2) (j := 21) (by decide))]]; exact f_A2
  · rw [h0]; simp only [eV5, eV4, eV3, eV2, eV1, gC_sR, gC_sI, gC_sJ, gR_sR, gR_sI, gR_sJ, gI_sR, gI_sI, gI_sJ, Nat.reduceEqDiff, ↓reduceIte]; exact f_R4
  · rw [show S161 (a + 3) = S (a + 3) from by rw [he10, st_ne _ _ (off_ne0' (j := 3) (by decide)), he9, st_ne _ _ (off_ne (i := 3) (j := 25) (by decide)), he8, st_ne _ _ (off_ne0' (j := 3) (by decide)), he7, st_ne _ _ (off_ne (i := 3) (j := 24) (by decide)), he6, st_ne _ _ (off_ne0' (j := 3) (by decide)), he5, st_ne _ _ (off_ne (i := 3) (j := 23) (by decide)), he4, st_ne _ _ (off_ne0' (j := 3) (by decide)), he3, st_ne _ _ (off_ne (i := 3) (j := 22) (by decide)), he2, st_ne _ _ (off_ne0' (j := 3) (by decide)), he1, st_ne _ _ (off_ne (i := 3) (j := 21) (by decide))]]; exact f_A3
  · rw [h0]; simp only [eV5, eV4, eV3, eV2, eV1, gC_sR, gC_sI, gC_sJ, gR_sR, gR_sI, gR_sJ, gI_sR, gI_sI, gI_sJ, Nat.reduceEqDiff, ↓reduceIte]; exact f_R5
  · rw [show S161 (a + 4) = S (a + 4) from by rw [he10, st_ne _ _ (off_ne0' (j := 4) (by decide)), he9, st_ne _ _ (off_ne (i := 4) (j := 25) (by decide)), he8, st_ne _ _ (off_ne0' (j := 4) (by decide)), he7, st_ne _ _ (off_ne (i := 4) (j := 24) (by decide)), he6, st_ne _ _ (off_ne0' (j := 4) (by decide)), he5, st_ne _ _ (off_ne (i := 4) (j := 23) (by decide)), he4, st_ne _ _ (off_ne0' (j := 4) (by decide)), he3, st_ne _ _ (off_ne (i := 4) (j := 22) (by decide)), he2, st_ne _ _ (off_ne0' (j := 4) (by decide)), he1, st_ne _ _ (off_ne (i := 4) (j := 21) (by decide))]]; exact f_A4
  · rw [h0]; simp only [eV5, eV4, eV3, eV2, eV1, gC_sR, gC_sI, gC_sJ, gR_sR, gR_sI, gR_sJ, gI_sR, gI_sI, gI_sJ, Nat.reduceEqDiff, ↓reduceIte]; exact f_R6
  · rw [h0]; simp only [eV5, eV4, eV3, eV2, eV1, gC_sR, gC_sI, gC_sJ, gR_sR, gR_sI, gR_sJ, gI_sR, gI_sI, gI_sJ, Nat.reduceEqDiff, ↓reduceIte]; exact f_R9
  · rw [show S161 (a + 5) = S (a + 5) from by rw [he10, st_ne _ _ (off_ne0' (j := 5) (by decide)), he9, st_ne _ _ (off_ne (i := 5) (j := 25) (by decide)), he8, st_ne _ _ (off_ne0' (j := 5) (by decide)), he7, st_ne _ _ (off_ne (i := 5) (j := 24) (by decide)), he6, st_ne _ _ (off_ne0' (j := 5) (by decide)), he5, st_ne _ _ (off_ne (i := 5) (j := 23) (by decide)), he4, st_ne _ _ (off_ne0' (j := 5) (by decide)), he3, st_ne _ _ (off_ne (i := 5) (j := 22) (by decide)), he2, st_ne _ _ (off_ne0' (j := 5) (by decide)), he1, st_ne _ _ (off_ne (i := 5) (j := 21) (by decide))]]; exact f_C5
  · rw [show S161 (a + 5) = S (a + 5) from by rw [he10, st_ne _ _ (off_ne0' (j := 5) (by decide)), he9, st_ne _ _ (off_ne (i := 5) (j := 25) (by decide)), he8, st_ne _ _ (off_ne0' (j := 5) (by decide)), he7, st_ne _ _ (off_ne (i := 5) (j := 24) (by decide)), he6, st_ne _ _ (off_ne0' (j := 5) (by decide)), he5, st_ne _ _ (off_ne (i := 5) (j := 23) (by decide)), he4, st_ne _ _ (off_ne0' (j := 5) (by decide)), he3, st_ne _ _ (off_ne (i := 5) (j := 22) (by decide)), he2, st_ne _ _ (off_ne0' (j := 5) (by decide)), he1, st_ne _ _ (off_ne (i := 5) (j := 21) (by decide))]]; exact f_N5
  · rw [show S161 (a + 5) = S (a + 5) from by rw [he10, st_ne _ _ (off_ne0' (j := 5) (by decide)), he9, st_ne _ _ (off_ne (i := 5) (j := 25) (by decide)), he8, st_ne _ _ (off_ne0' (j := 5) (by decide)), he7, st_ne _ _ (off_ne (i := 5) (j := 24) (by decide)), he6, st_ne _ _ (off_ne0' (j := 5) (by decide)), he5, st_ne _ _ (off_ne (i := 5) (j := 23) (by decide)), he4, st_ne _ _ (off_ne0' (j := 5) (by decide)), he3, st_ne _ _ (off_ne (i := 5) (j := 22) (by decide)), he2, st_ne _ _ (off_ne0' (j := 5) (by decide)), he1, st_ne _ _ (off_ne (i := 5) (j := 21) (by decide))]]; exact f_Q5
  · rw [show S161 (a + 6) = S (a + 6) from by rw [he10, st_ne _ _ (off_ne0' (j := 6) (by decide)), he9, st_ne _ _ (off_ne (i := 6) (j := 25) (by decide)), he8, st_ne _ _ (off_ne0' (j := 6) (by decide)), he7, st_ne _ _ (off_ne (i := 6) (j := 24) (by decide)), he6, st_ne _ _ (off_ne0' (j := 6) (by decide)), he5, st_ne _ _ (off_ne (i := 6) (j := 23) (by decide)), he4, st_ne _ _ (off_ne0' (j := 6) (by decide)), he3, st_ne _ _ (off_ne (i := 6) (j := 22) (by decide)), he2, st_ne _ _ (off_ne0' (j := 6) (by decide)), he1, st_ne _ _ (off_ne (i := 6) (j := 21) (by decide))]]; exact f_A6
  · rw [h0]; simp only [eV5, eV4, eV3, eV2, eV1, gC_sR, gC_sI, gC_sJ, gR_sR, gR_sI, gR_sJ, gI_sR, gI_sI, gI_sJ, Nat.reduceEqDiff, ↓reduceIte]; exact f_R10
  · rw [show S161 (a + 7) = S (a + 7) from by rw [he10, st_ne _ _ (off_ne0' (j := 7) (by decide)), he9, st_ne _ _ (off_ne (i := 7) (j := 25) (by decide)), he8, st_ne _ _ (off_ne0' (j := 7) (by decide)), he7, st_ne _ _ (off_ne (i := 7) (j := 24) (by decide)), he6, st_ne _ _ (off_ne0' (j := 7) (by decide)), he5, st_ne _ _ (off_ne (i := 7) (j := 23) (by decide)), he4, st_ne _ _ (off_ne0' (j := 7) (by decide)), he3, st_ne _ _ (off_ne (i := 7) (j := 22) (by decide)), he2, st_ne _ _ (off_ne0' (j := 7) (by decide)), he1, st_ne _ _ (off_ne (i := 7) (j := 21) (by decide))]]; exact f_A7
  · rw [h0]; simp only [eV5, eV4, eV3, eV2, eV1, gC_sR, gC_sI, gC_sJ, gR_sR, gR_sI, gR_sJ, gI_sR, gI_sI, gI_sJ, Nat.reduceEqDiff, ↓reduceIte]; exact f_R11
  · rw [show S161 (a + 8) = S (a + 8) from by rw [he10, st_ne _ _ (off_ne0' (j := 8) (by decide)), he9, st_ne _ _ (off_ne (i := 8) (j := 25) (by decide)), he8, st_ne _ _ (off_ne0' (j := 8) (by decide)), he7, st_ne _ _ (off_ne (i := 8) (j := 24) (by decide)), he6, st_ne _ _ (off_ne0' (j := 8) (by decide)), he5, st_ne _ _ (off_ne (i := 8) (j := 23) (by decide)), he4, st_ne _ _ (off_ne0' (j := 8) (by decide)), he3, st_ne _ _ (off_ne (i := 8) (j := 22) (by decide)), he2, st_ne _ _ (off_ne0' (j := 8) (by decide)), he1, st_ne _ _ (off_ne (i := 8) (j := 21) (by decide))]]; exact f_A8
  · rw [h0]; simp only [eV5, eV4, eV3, eV2, eV1, gC_sR, gC_sI, gC_sJ, gR_sR, gR_sI, gR_sJ, gI_sR, gI_sI, gI_sJ, Nat.reduceEqDiff, ↓reduceIte]; exact f_R12
  · rw [show S161 (a + 9) = S (a + 9) from by rw [he10, st_ne _ _ (off_ne0' (j := 9) (by decide)), he9, st_ne _ _ (off_ne (i := 9) (j := 25) (by decide)), he8, st_ne _ _ (off_ne0' (j := 9) (by decide)), he7, st_ne _ _ (off_ne (i := 9) (j := 24) (by decide)), he6, st_ne _ _ (off_ne0' (j := 9) (by decide)), he5, st_ne _ _ (off_ne (i := 9) (j := 23) (by decide)), he4, st_ne _ _ (off_ne0' (j := 9) (by decide)), he3, st_ne _ _ (off_ne (i := 9) (j := 22) (by decide)), he2, st_ne _ _ (off_ne0' (j := 9) (by decide)), he1, st_ne _ _ (off_ne (i := 9) (j := 21) (by decide))]]; exact f_A9
  · rw [h0]; simp only [eV5, eV4, eV3, eV2, eV1, gC_sR, gC_sI, gC_sJ, gR_sR, gR_sI, gR_sJ, gI_sR, gI_sI, gI_sJ, Nat.reduceEqDiff, ↓reduceIte]; exact f_R14
  · rw [show S161 (a + 10) = S (a + 10) from by rw [he10, st_ne _ _ (off_ne0' (j := 10) (by decide)), he9, st_ne _ _ (off_ne (i := 10) (j := 25) (by decide)), he8, st_ne _ _ (off_ne0' (j := 10) (by decide)), he7, st_ne _ _ (off_ne (i := 10) (j := 24) (by decide)), he6, st_ne _ _ (off_ne0' (j := 10) (by decide)), he5, st_ne _ _ (off_ne (i := 10) (j := 23) (by decide)), he4, st_ne _ _ (off_ne0' (j := 10) (by decide)), he3, st_ne _ _ (off_ne (i := 10) (j := 22) (by decide)), he2, st_ne _ _ (off_ne0' (j := 10) (by decide)), he1, st_ne _ _ (off_ne (i := 10) (j := 21) (by decide))]]; exact f_A10
  · rw [h0]; simp only [eV5, eV4, eV3, eV2, eV1, gC_sR, gC_sI, gC_sJ, gR_sR, gR_sI, gR_sJ, gI_sR, gI_sI, gI_sJ, Nat.reduceEqDiff, ↓reduceIte]; exact f_R15
  · rw [show S161 (a + 11) = S (a + 11) from by rw [he10, st_ne _ _ (off_ne0' (j := 11) (by decide)), he9, st_ne _ _ (off_ne (i := 11) (j := 25) (by decide)), he8, st_ne _ _ (off_ne0' (j := 11) (by decide)), he7, st_ne _ _ (off_ne (i := 11) (j := 24) (by decide)), he6, st_ne _ _ (off_ne0' (j := 11) (by decide)), he5, st_ne _ _ (off_ne (i := 11) (j := 23) (by decide)), he4, st_ne _ _ (off_ne0' (j := 11) (by decide)), he3, st_ne _ _ (off_ne (i := 11) (j := 22) (by decide)), he2, st_ne _ _ (off_ne0' (j := 11) (by decide)), he1, st_ne _ _ (off_ne (i := 11) (j := 21) (by decide))]]; exact f_A11
  · rw [h0]; simp only [eV5, eV4, eV3, eV2, eV1, gC_sR, gC_sI, gC_sJ, gR_sR, gR_sI, gR_sJ, gI_sR, gI_sI, gI_sJ, Nat.reduceEqDiff, ↓reduceIte]; exact f_R16
  · rw [show S161 (a + 12) = S (a + 12) from by rw [he10, st_ne _ _ (off_ne0' (j := 12) (by decide)), he9, st_ne _ _ (off_ne (i := 12) (j := 25) (by decide)), he8, st_ne _ _ (off_ne0' (j := 12) (by decide)), he7, st_ne _ _ (off_ne (i := 12) (j := 24) (by decide)), he6, st_ne _ _ (off_ne0' (j := 12) (by decide)), he5, st_ne _ _ (off_ne (i := 12) (j := 23) (by decide)), he4, st_ne _ _ (off_ne0' (j := 12) (by decide)), he3, st_ne _ _ (off_ne (i := 12) (j := 22) (by decide)), he2, st_ne _ _ (off_ne0' (j := 12) (by decide)), he1, st_ne _ _ (off_ne (i := 12) (j := 21) (by decide))]]; exact f_A12
  · rw [h0]; simp only [eV5, eV4, eV3, eV2, eV1, gC_sR, gC_sI, gC_sJ, gR_sR, gR_sI, gR_sJ, gI_sR, gI_sI, gI_sJ, Nat.reduceEqDiff, ↓reduceIte]; exact f_R17
  · rw [show S161 (a + 13) = S (a + 13) from by rw [he10, st_ne _ _ (off_ne0' (j := 13) (by decide)), he9, st_ne _ _ (off_ne (i := 13) (j := 25) (by decide)), he8, st_ne _ _ (off_ne0' (j := 13) (by decide)), he7, st_ne _ _ (off_ne (i := 13) (j := 24) (by decide)), he6, st_ne _ _ (off_ne0' (j := 13) (by decide)), he5, st_ne _ _ (off_ne (i := 13) (j := 23) (by decide)), he4, st_ne _ _ (off_ne0' (j := 13) (by decide)), he3, st_ne _ _ (off_ne (i := 13) (j := 22) (by decide)), he2, st_ne _ _ (off_ne0' (j := 13) (by decide)), he1, st_ne _ _ (off_ne (i := 13) (j := 21) (by decide))]]; exact f_A13
  · rw [h0]; simp only [eV5, eV4, eV3, eV2, eV1, gC_sR, gC_sI, gC_sJ, gR_sR, gR_sI, gR_sJ, gI_sR, gI_sI, gI_sJ, Nat.reduceEqDiff, ↓reduceIte]; exact f_R21
  · rw [show S161 (a + 14) = S (a + 14) from by rw [he10, st_ne _ _ (off_ne0' (j := 14) (by decide)), he9, st_ne _ _ (off_ne (i := 14) (j := 25) (by decide)), he8, st_ne _ _ (off_ne0' (j := 14) (by decide)), he7, st_ne _ _ (off_ne (i := 14) (j := 24) (by decide)), he6, st_ne _ _ (off_ne0' (j := 14) (by decide)), he5, st_ne _ _ (off_ne (i := 14) (j := 23) (by decide)), he4, st_ne _ _ (off_ne0' (j := 14) (by decide)), he3, st_ne _ _ (off_ne (i := 14) (j := 22) (by decide)), he2, st_ne _ _ (off_ne0' (j := 14) (by decide)), he1, st_ne _ _ (off_ne (i := 14) (j := 21) (by decide))]]; exact f_A14
  · rw [h0]; simp only [eV5, eV4, eV3, eV2, eV1, gC_sR, gC_sI, gC_sJ, gR_sR, gR_sI, gR_sJ, gI_sR, gI_sI, gI_sJ, Nat.reduceEqDiff, ↓reduceIte]; exact f_R22
  · rw [show S161 (a + 15) = S (a + 15) from by rw [he10, st_ne _ _ (off_ne0' (j := 15) (by decide)), he9, st_ne _ _ (off_ne (i := 15) (j := 25) (by decide)), he8, st_ne _ _ (off_ne0' (j := 15) (by decide)), he7, st_ne _ _ (off_ne (i := 15) (j := 24) (by decide)), he6, st_ne _ _ (off_ne0' (j := 15) (by decide)), he5, st_ne _ _ (off_ne (i := 15) (j := 23) (by decide)), he4, st_ne _ _ (off_ne0' (j := 15) (by decide)), he3, st_ne _ _ (off_ne (i := 15) (j := 22) (by decide)), he2, st_ne _ _ (off_ne0' (j := 15) (by decide)), he1, st_ne _ _ (off_ne (i := 15) (j := 21) (by decide))]]; exact f_A15
  · rw [h0]; simp only [eV5, eV4, eV3, eV2, eV1, gC_sR, gC_sI, gC_sJ, gR_sR, gR_sI, gR_sJ, gI_sR, gI_sI, gI_sJ, Nat.reduceEqDiff, ↓reduceIte]; exact f_R23
  · rw [show S161 (a + 16) = S (a + 16) from by rw [he10, st_ne _ _ (off_ne0' (j := 16) (by decide)), he9, st_ne _ _ (off_ne (i := 16) (j := 25) (by decide)), he8, st_ne _ _ (off_ne0' (j := 16) (by decide)), he7, st_ne _ _ (off_ne (i := 16) (j := 24) (by decide)), he6, st_ne _ _ (off_ne0' (j := 16) (by decide)), he5, st_ne _ _ (off_ne (i := 16) (j := 23) (by decide)), he4, st_ne _ _ (off_ne0' (j := 16) (by decide)), he3, st_ne _ _ (off_ne (i := 16) (j := 22) (by decide)), he2, st_ne _ _ (off_ne0' (j := 16) (by decide)), he1, st_ne _ _ (off_ne (i := 16) (j := 21) (by decide))]]; exact f_A16
  · rw [h0]; simp only [eV5, eV4, eV3, eV2, eV1, gC_sR, gC_sI, gC_sJ, gR_sR, gR_sI, gR_sJ, gI_sR, gI_sI, gI_sJ, Nat.reduceEqDiff, ↓reduceIte]; exact f_R24
  · rw [show S161 (a + 17) = S (a + 17) from by rw [he10, st_ne _ _ (off_ne0' (j := 17) (by decide)), he9, st_ne _ _ (off_ne (i := 17) (j := 25) (by decide)), he8, st_ne _ _ (off_ne0' (j := 17) (by decide)), he7, st_ne _ _ (off_ne (i := 17) (j := 24) (by decide)), he6, st_ne _ _ (off_ne0' (j := 17) (by decide)), he5, st_ne _ _ (off_ne (i := 17) (j := 23) (by decide)), he4, st_ne _ _ (off_ne0' (j := 17) (by decide)), he3, st_ne _ _ (off_ne (i := 17) (j := 22) (by decide)), he2, st_ne _ _ (off_ne0' (j := 17) (by decide)), he1, st_ne _ _ (off_ne (i := 17) (j := 21) (by decide))]]; exact f_A17
  · rw [h0]; simp only [eV5, eV4, eV3, eV2, eV1, gC_sR, gC_sI, gC_sJ, gR_sR, gR_sI, gR_sJ, gI_sR, gI_sI, gI_sJ, Nat.reduceEqDiff, ↓reduceIte]; exact f_R26
  · rw [show S161 (a + 18) = S (a + 18) from by rw [he10, st_ne _ _ (off_ne0' (j := 18) (by decide)), he9, st_ne _ _ (off_ne (i := 18) (j := 25) (by decide)), he8, st_ne _ _ (off_ne0' (j := 18) (by decide)), he7, st_ne _ _ (off_ne (i := 18) (j := 24) (by decide)), he6, st_ne _ _ (off_ne0' (j := 18) (by decide)), he5, st_ne _ _ (off_ne (i := 18) (j := 23) (by decide)), he4, st_ne _ _ (off_ne0' (j := 18) (by decide)), he3, st_ne _ _ (off_ne (i := 18) (j := 22) (by decide)), he2, st_ne _ _ (off_ne0' (j := 18) (by decide)), he1, st_ne _ _ (off_ne (i := 18) (j := 21) (by decide))]]; exact f_A18
  · rw [h0]; simp only [eV5, eV4, eV3, eV2, eV1, gC_sR, gC_sI, gC_sJ, gR_sR, gR_sI, gR_sJ, gI_sR, gI_sI, gI_sJ, Nat.reduceEqDiff, ↓reduceIte]; exact f_R27
  · rw [show S161 (a + 19) = S (a + 19) from by rw [he10, st_ne _ _ (off_ne0' (j := 19) (by decide)), he9, st_ne _ _ (off_ne (i := 19) (j := 25) (by decide)), he8, st_ne _ _ (off_ne0' (j := 19) (by decide)), he7, st_ne _ _ (off_ne (i := 19) (j := 24) (by decide)), he6, st_ne _ _ (off_ne0' (j := 19) (by decide)), he5, st_ne _ _ (off_ne (i := 19) (j := 23) (by decide)), he4, st_ne _ _ (off_ne0' (j := 19) (by decide)), he3, st_ne _ _ (off_ne (i := 19) (j := 22) (by decide)), he2, st_ne _ _ (off_ne0' (j := 19) (by decide)), he1, st_ne _ _ (off_ne (i := 19) (j := 21) (by decide))]]; exact f_A19
  · rw [h0]; simp only [eV5, eV4, eV3, eV2, eV1, gC_sR, gC_sI, gC_sJ, gR_sR, gR_sI, gR_sJ, gI_sR, gI_sI, gI_sJ, Nat.reduceEqDiff, ↓reduceIte]; exact f_R28
  · rw [show S161 (a + 20) = S (a + 20) from by rw [he10, st_ne _ _ (off_ne0' (j := 20) (by decide)), he9, st_ne _ _ (off_ne (i := 20) (j := 25) (by decide)), he8, st_ne _ _ (off_ne0' (j := 20) (by decide)), he7, st_ne _ _ (off_ne (i := 20) (j := 24) (by decide)), he6, st_ne _ _ (off_ne0' (j := 20) (by decide)), he5, st_ne _ _ (off_ne (i := 20) (j := 23) (by decide)), he4, st_ne _ _ (off_ne0' (j := 20) (by decide)), he3, st_ne _ _ (off_ne (i := 20) (j := 22) (by decide)), he2, st_ne _ _ (off_ne0' (j := 20) (by decide)), he1, st_ne _ _ (off_ne (i := 20) (j := 21) (by decide))]]; exact f_A20
  · rw [h0]; simp only [eV5, eV4, eV3, eV2, eV1, gC_sR, gC_sI, gC_sJ, gR_sR, gR_sI, gR_sJ, gI_sR, gI_sI, gI_sJ, Nat.reduceEqDiff, ↓reduceIte]; exact f_R29
  · rw [show S161 (a + 21) = S148 (a + 21) from by rw [he10, st_ne _ _ (off_ne0' (j := 21) (by decide)), he9, st_ne _ _ (off_ne (i := 21) (j := 25) (by decide)), he8, st_ne _ _ (off_ne0' (j := 21) (by decide)), he7, st_ne _ _ (off_ne (i := 21) (j := 24) (by decide)), he6, st_ne _ _ (off_ne0' (j := 21) (by decide)), he5, st_ne _ _ (off_ne (i := 21) (j := 23) (by decide)), he4, st_ne _ _ (off_ne0' (j := 21) (by decide)), he3, st_ne _ _ (off_ne (i := 21) (j := 22) (by decide)), he2, st_ne _ _ (off_ne0' (j := 21) (by decide))]]; rw [he1, st_same]
  · rw [h0]; simp only [eV5, eV4, eV3, eV2, eV1, gC_sR, gC_sI, gC_sJ, gR_sR, gR_sI, gR_sJ, gI_sR, gI_sI, gI_sJ, Nat.reduceEqDiff, ↓reduceIte]
  · rw [show S161 (a + 22) = S151 (a + 22) from by rw [he10, st_ne _ _ (off_ne0' (j := 22) (by decide)), he9, st_ne _ _ (off_ne (i := 22) (j := 25) (by decide)), he8, st_ne _ _ (off_ne0' (j := 22) (by decide)), he7, st_ne _ _ (off_ne (i := 22) (j := 24) (by decide)), he6, st_ne _ _ (off_ne0' (j := 22) (by decide)), he5, st_ne _ _ (off_ne (i := 22) (j := 23) (by decide)), he4, st_ne _ _ (off_ne0' (j := 22) (by decide))]]; rw [he3, st_same]
  · rw [h0]; simp only [eV5, eV4, eV3, eV2, eV1, gC_sR, gC_sI, gC_sJ, gR_sR, gR_sI, gR_sJ, gI_sR, gI_sI, gI_sJ, Nat.reduceEqDiff, ↓reduceIte]
  · rw [show S161 (a + 23) = S154 (a + 23) from by rw [he10, st_ne _ _ (off_ne0' (j := 23) (by decide)), he9, st_ne _ _ (off_ne (i := 23) (j := 25) (by decide)), he8, st_ne _ _ (off_ne0' (j := 23) (by decide)), he7, st_ne _ _ (off_ne (i := 23) (j := 24) (by decide)), he6, st_ne _ _ (off_ne0' (j := 23) (by decide))]]; rw [he5, st_same]
  · rw [h0]; simp only [eV5, eV4, eV3, eV2, eV1, gC_sR, gC_sI, gC_sJ, gR_sR, gR_sI, gR_sJ, gI_sR, gI_sI, gI_sJ, Nat.reduceEqDiff, ↓reduceIte]
  · rw [show S161 (a + 24) = S157 (a + 24) from by rw [he10, st_ne _ _ (off_ne0' (j := 24) (by decide)), he9, st_ne _ _ (off_ne (i := 24) (j := 25) (by decide)), he8, st_ne _ _ (off_ne0' (j := 24) (by decide))]]; rw [he7, st_same]
  · rw [h0]; simp only [eV5, eV4, eV3, eV2, eV1, gC_sR, gC_sI, gC_sJ, gR_sR, gR_sI, gR_sJ, gI_sR, gI_sI, gI_sJ, Nat.reduceEqDiff, ↓reduceIte]
  · rw [show S161 (a + 25) = S160 (a + 25) from by rw [he10, st_ne _ _ (off_ne0' (j := 25) (by decide))]]; rw [he9, st_same]
  · rw [h0]; simp only [eV5, eV4, eV3, eV2, eV1, gC_sR, gC_sI, gC_sJ, gR_sR, gR_sI, gR_sJ, gI_sR, gI_sI, gI_sJ, Nat.reduceEqDiff, ↓reduceIte]
set_option maxHeartbeats 4000000 in
theorem sg13_5 {fu : Nat} {G : GG} {S S0 : ST} {a : Nat} (hf : 1101 ≤ fu) (hJ : J13_5 a S0 S) : ∃ z, f_X13_init_g5 fu G S a = some z ∧ RM (z a) A00 ∧ ∀ b, b < a ∨ a + 27 ≤ b → z b = S0 b := by
  obtain ⟨hF, f_C, f_I2, f_I18, f_A1, f_R1, f_A2, f_R4, f_A3, f_R5, f_A4, f_R6, f_R9, f_C5, f_N5, f_Q5, f_A6, f_R10, f_A7, f_R11, f_A8, f_R12, f_A9, f_R14, f_A10, f_R15, f_A11, f_R16, f_A12, f_R17, f_A13, f_R21, f_A14, f_R22, f_A15, f_R23, f_A16, f_R24, f_A17, f_R26, f_A18, f_R27, f_A19, f_R28, f_A20, f_R29, f_A21, f_R32, f_A22, f_R33, f_A23, f_R34, f_A24, f_R35, f_A25, f_R38⟩ := hJ
  unfold f_X13_init_g5
  obtain ⟨V0, h0⟩ : ∃ y, S a = y := ⟨_, rfl⟩
  rw [h0] at f_C f_I2 f_I18 f_R1 f_R4 f_R5 f_R6 f_R9 f_R10 f_R11 f_R12 f_R14 f_R15 f_R16 f_R17 f_R21 f_R22 f_R23 f_R24 f_R26 f_R27 f_R28 f_R29 f_R32 f_R33 f_R34 f_R35 f_R38
  refine ex_nm (fun S163 he1 => ?_)
  have h0 := (st_at he1 (off_ne0 (j := 26) (by decide))).trans h0
  refine ex_ck (decide_eq_true (by rw [h0]; exact f_C)) ?_
  refine ex_nm (fun S164 he2 => ?_)
  obtain ⟨V1, eV1⟩ : ∃ y, y = sR V0 39 (some (a + 26)) := ⟨_, rfl⟩
  have h0 : S164 a = V1 := by rw [he2, st_same, h0, eV1]
  have rV : ∀ k x, gR V1 k = x → gR (S164 a) k = x := fun k x hx => by rw [h0]; exact hx
  refine ex_ck (frB_of (by rw [h0]; exact (by simp only [eV1, gC_sR, gC_sI, gC_sJ, gR_sR, gR_sI, gR_sJ, gI_sR, gI_sI, gI_sJ, Nat.reduceEqDiff, ↓reduceIte]; exact f_C)) (fun k hk => ?_)) ?_
  · rw [nf_11] at hk
    rcases (show k = 0 ∨ k = 1 ∨ k = 2 ∨ k = 3 ∨ k = 4 ∨ k = 5 ∨ k = 6 ∨ k = 7 ∨ k = 8 ∨ k = 9 ∨ k = 10 ∨ k = 11 ∨ k = 12 ∨ k = 13 ∨ k = 14 ∨ k = 15 ∨ k = 16 ∨ k = 17 ∨ k = 18 ∨ k = 19 ∨ k = 20 ∨ k = 21 ∨ k = 22 ∨ k = 23 ∨ k = 24 ∨ k = 25 ∨ k = 26 ∨ k = 27 ∨ k = 28 ∨ k = 29 ∨ k = 30 ∨ k = 31 ∨ k = 32 ∨ k = 33 ∨ k = 34 ∨ k = 35 ∨ k = 36 ∨ k = 37 ∨ k = 38 ∨ k = 39 ∨ k = 40 by omega) with rfl | rfl | rfl | rfl | rfl | rfl | rfl | rfl | rfl | rfl | rfl | rfl | rfl | rfl | rfl | rfl | rfl | rfl | rfl | rfl | rfl | rfl | rfl | rfl | rfl | rfl | rfl | rfl | rfl | rfl | rfl | rfl | rfl | rfl | rfl | rfl | rfl | rfl | rfl | rfl | rfl
    · rw [ds_11_0]
      exact ⟨fun h => absurd h (by decide), fun h => absurd h (by decide), fun h => absurd h (by decide)⟩
    · rw [ds_11_1]
      refine ⟨fun _ => ⟨(rV 1 _ (by simp only [eV1, gC_sR, gC_sI, gC_sJ, gR_sR, gR_sI, gR_sJ, gI_sR, gI_sI, gI_sJ, Nat.reduceEqDiff, ↓reduceIte]; exact f_R1)), ?_, ?_⟩, fun h => absurd h (by decide), fun h => absurd h (by decide)⟩
      · show gC (S164 (a + 1)) = _
        rw [show S164 (a + 1) = S (a + 1) from by rw [he2, st_ne _ _ (off_ne0' (j := 1) (by decide)), he1, st_ne _ _ (off_ne (i := 1) (j := 26) (by decide))], f_A1]; rfl
      · show _ ∨ gN (S164 (a + 1)) 0 = _
        rw [show S164 (a + 1) = S (a + 1) from by rw [he2, st_ne _ _ (off_ne0' (j := 1) (by decide)), he1, st_ne _ _ (off_ne (i := 1) (j := 26) (by decide))], f_A1]; exact Or.inr rfl
    · rw [ds_11_2]
      exact ⟨fun h => absurd h (by decide), fun h => absurd h (by decide), fun h => absurd h (by decide)⟩
    · rw [ds_11_3]
      exact ⟨fun h => absurd h (by decide), fun h => absurd h (by decide), fun h => absurd h (by decide)⟩
    · rw [ds_11_4]
      refine ⟨fun _ => ⟨(rV 4 _ (by simp only [eV1, gC_sR, gC_sI, gC_sJ, gR_sR, gR_sI, gR_sJ, gI_sR, gI_sI, gI_sJ, Nat.reduceEqDiff, ↓reduceIte]; exact f_R4)), ?_, ?_⟩, fun h => absurd h (by decide), fun h => absurd h (by decide)⟩
      · show gC (S164 (a + 2)) = _
        rw [show S164 (a + 2) = S (a + 2) from by rw [he2, st_ne _ _ (off_ne0' (j := 2) (by decide)), he1, st_ne _ _ (off_ne (i := 2) (j := 26) (by decide))], f_A2]; rfl
      · show _ ∨ gN (S164 (a + 2)) 0 = _
        rw [show S164 (a + 2) = S (a + 2) from by rw [he2, st_ne _ _ (off_ne0' (j := 2) (by decide)), he1, st_ne _ _ (off_ne (i := 2) (j := 26) (by decide))], f_A2]; exact Or.inr rfl
    · rw [ds_11_5]
      refine ⟨fun _ => ⟨(rV 5 _ (by simp only [eV1, gC_sR, gC_sI, gC_sJ, gR_sR, gR_sI, gR_sJ, gI_sR, gI_sI, gI_sJ, Nat.reduceEqDiff, ↓reduceIte]; exact f_R5)), ?_, ?_⟩, fun h => absurd h (by decide), fun h => absurd h (by decide)⟩
      · show gC (S164 (a + 3)) = _
        rw [show S164 (a + 3) = S (a + 3) from by rw [he2, st_ne _ _ (off_ne0' (j := 3) (by decide)), he1, st_ne _ _ (off_ne (i := 3) (j := 26) (by decide))], f_A3]; rfl
      · show _ ∨ gN (S164 (a + 3)) 0 = _
        rw [show S164 (a + 3) = S (a + 3) from by rw [he2, st_ne _ _ (off_ne0' (j := 3) (by decide)), he1, st_ne _ _ (off_ne (i := 3) (j := 26) (by decide))], f_A3]; exact Or.inr rfl
    · rw [ds_11_6]
      refine ⟨fun _ => ⟨(rV 6 _ (by simp only [eV1, gC_sR, gC_sI, gC_sJ, gR_sR, gR_sI, gR_sJ, gI_sR, gI_sI, gI_sJ, Nat.reduceEqDiff, ↓reduceIte]; exact f_R6)), ?_, ?_⟩, fun h => absurd h (by decide), fun h => absurd h (by decide)⟩
      · show gC (S164 (a + 4)) = _
        rw [show S164 (a + 4) = S (a + 4) from by rw [he2, st_ne _ _ (off_ne0' (j := 4) (by decide)), he1, st_ne _ _ (off_ne (i := 4) (j := 26) (by decide))], f_A4]; rfl
      · show _ ∨ gN (S164 (a + 4)) 0 = _
        rw [show S164 (a + 4) = S (a + 4) from by rw [he2, st_ne _ _ (off_ne0' (j := 4) (by decide)), he1, st_ne _ _ (off_ne (i := 4) (j := 26) (by decide))], f_A4]; exact Or.inr rfl
    · rw [ds_11_7]
      exact ⟨fun h => absurd h (by decide), fun h => absurd h (by decide), fun h => absurd h (by decide)⟩
    · rw [ds_11_8]
      exact ⟨fun h => absurd h (by decide), fun h => absurd h (by decide), fun h => absurd h (by decide)⟩
    · rw [ds_11_9]
      refine ⟨fun _ => ⟨(rV 9 _ (by simp only [eV1, gC_sR, gC_sI, gC_sJ, gR_sR, gR_sI, gR_sJ, gI_sR, gI_sI, gI_sJ, Nat.reduceEqDiff, ↓reduceIte]; exact f_R9)), ?_, ?_⟩, fun h => absurd h (by decide), fun h => absurd h (by decide)⟩
      · show gC (S164 (a + 5)) = _
        rw [show S164 (a + 5) = S (a + 5) from by rw [he2, st_ne _ _ (off_ne0' (j := 5) (by decide)), he1, st_ne _ _ (off_ne (i := 5) (j := 26) (by decide))]]; exact f_C5
      · show _ ∨ gN (S164 (a + 5)) 0 = _
        rw [show S164 (a + 5) = S (a + 5) from by rw [he2, st_ne _ _ (off_ne0' (j := 5) (by decide)), he1, st_ne _ _ (off_ne (i := 5) (j := 26) (by decide))]]; exact Or.inr f_N5
    · rw [ds_11_10]
      refine ⟨fun _ => ⟨(rV 10 _ (by simp only [eV1, gC_sR, gC_sI, gC_sJ, gR_sR, gR_sI, gR_sJ, gI_sR, gI_sI, gI_sJ, Nat.reduceEqDiff, ↓reduceIte]; exact f_R10)), ?_, ?_⟩, fun h => absurd h (by decide), fun h => absurd h (by decide)⟩
      · show gC (S164 (a + 6)) = _
        rw [show S164 (a + 6) = S (a + 6) from by rw [he2, st_ne _ _ (off_ne0' (j := 6) (by decide)), he1, st_ne _ _ (off_ne (i := 6) (j := 26) (by decide))], f_A6]; rfl
      · show _ ∨ gN (S164 (a + 6)) 0 = _
        rw [show S164 (a + 6) = S (a + 6) from by rw [he2, st_ne _ _ (off_ne0' (j := 6) (by decide)), he1, st_ne _ _ (off_ne (i := 6) (j := 26) (by decide))], f_A6]; exact Or.inr rfl
    · rw [ds_11_11]
      refine ⟨fun _ => ⟨(rV 11 _ (by simp only [eV1, gC_sR, gC_sI, gC_sJ, gR_sR, gR_sI, gR_sJ, gI_sR, gI_sI, gI_sJ, Nat.reduceEqDiff, ↓reduceIte]; exact f_R11)), ?_, ?_⟩, fun h => absurd h (by decide), fun h => absurd h (by decide)⟩
      · show gC (S164 (a + 7)) = _
        rw [show S164 (a + 7) = S (a + 7) from by rw [he2, st_ne _ _ (off_ne0' (j := 7) (by decide)), he1, st_ne _ _ (off_ne (i := 7) (j := 26) (by decide))], f_A7]; rfl
      · show _ ∨ gN (S164 (a + 7)) 0 = _
        rw [show S164 (a + 7) = S (a + 7) from by rw [he2, st_ne _ _ (off_ne0' (j := 7) (by decide)), he1, st_ne _ _ (off_ne (i := 7) (j := 26) (by decide))], f_A7]; exact Or.inr rfl
    · rw [ds_11_12]
      refine ⟨fun _ => ⟨(rV 12 _ (by simp only [eV1, gC_sR, gC_sI, gC_sJ, gR_sR, gR_sI, gR_sJ, gI_sR, gI_sI, gI_sJ, Nat.reduceEqDiff, ↓reduceIte]; exact f_R12)), ?_, ?_⟩, fun h => absurd h (by decide), fun h => absurd h (by decide)⟩
      · show gC (S164 (a + 8)) = _
        rw [show S164 (a + 8) = S (a + 8) from by rw [he2, st_ne _ _ (off_ne0' (j := 8) (by decide)), he1, st_ne _ _ (off_ne (i := 8) (j := 26) (by decide))], f_A8]; rfl
      · show _ ∨ gN (S164 (a + 8)) 0 = _
        rw [show S164 (a + 8) = S (a + 8) from by rw [he2, st_ne _ _ (off_ne0' (j := 8) (by decide)), he1, st_ne _ _ (off_ne (i := 8) (j := 26) (by decide))], f_A8]; exact Or.inr rfl
    · rw [ds_11_13]
      exact ⟨fun h => absurd h (by decide), fun h => absurd h (by decide), fun h => absurd h (by decide)⟩
    · rw [ds_11_14]
      refine ⟨fun _ => ⟨(rV 14 _ (by simp only [eV1, gC_sR, gC_sI, gC_sJ, gR_sR, gR_sI, gR_sJ, gI_sR, gI_sI, gI_sJ, Nat.reduceEqDiff, ↓reduceIte]; exact f_R14)), ?_, ?_⟩, fun h => absurd h (by decide), fun h => absurd h (by decide)⟩
      · show gC (S164 (a + 9)) = _
        rw [show S164 (a + 9) = S (a + 9) from by rw [he2, st_ne _ _ (off_ne0' (j := 9) (by decide)), he1, st_ne _ _ (off_ne (i := 9) (j := 26) (by decide))], f_A9]; rfl
      · show _ ∨ gN (S164 (a + 9)) 0 = _
        rw [show S164 (a + 9) = S (a + 9) from by rw [he2, st_ne _ _ (off_ne0' (j := 9) (by decide)), he1, st_ne _ _ (off_ne (i := 9) (j := 26) (by decide))], f_A9]; exact Or.inr rfl
    · rw [ds_11_15]
      refine ⟨fun _ => ⟨(rV 15 _ (by simp only [eV1, gC_sR, gC_sI, gC_sJ, gR_sR, gR_sI, gR_sJ, gI_sR, gI_sI, gI_sJ, Nat.reduceEqDiff, ↓reduceIte]; exact f_R15)), ?_, ?_⟩, fun h => absurd h (by decide), fun h => absurd h (by decide)⟩
      · show gC (S164 (a + 10)) = _
        rw [show S164 (a + 10) = S (a + 10) from by rw [he2, st_ne _ _ (off_ne0' (j := 10) (by decide)), he1, st_ne _ _ (off_ne (i := 10) (j := 26) (by decide))], f_A10]; rfl
      · show _ ∨ gN (S164 (a + 10)) 0 = _
        rw [show S164 (a + 10) = S (a + 10) from by rw [he2, st_ne _ _ (off_ne0' (j := 10) (by decide)), he1, st_ne _ _ (off_ne (i := 10) (j := 26) (by decide))], f_A10]; exact Or.inr rfl
    · rw [ds_11_16]
      refine ⟨fun _ => ⟨(rV 16 _ (by simp only [eV1, gC_sR, gC_sI, gC_sJ, gR_sR, gR_sI, gR_sJ, gI_sR, gI_sI, gI_sJ, Nat.reduceEqDiff, ↓reduceIte]; exact f_R16)), ?_, ?_⟩, fun h => absurd h (by decide), fun h => absurd h (by decide)⟩
      · show gC (S164 (a + 11)) = _
        rw [show S164 (a + 11) = S (a + 11) from by rw [he2, st_ne _ _ (off_ne0' (j := 11) (by decide)), he1, st_ne _ _ (off_ne (i := 11) (j := 26) (by decide))], f_A11]; rfl
      · show _ ∨ gN (S164 (a + 11)) 0 = _
        rw [show S164 (a + 11) = S (a + 11) from by rw [he2, st_ne _ _ (off_ne0' (j := 11) (by decide)), he1, st_ne _ _ (off_ne (i := 11) (j := 26) (by decide))], f_A11]; exact Or.inr rfl
    · rw [ds_11_17]
      refine ⟨fun _ => ⟨(rV 17 _ (by simp only [eV1, gC_sR, gC_sI, gC_sJ, gR_sR, gR_sI, gR_sJ, gI_sR, gI_sI, gI_sJ, Nat.reduceEqDiff, ↓reduceIte]; exact f_R17)), ?_, ?_⟩, fun h => absurd h (by decide), fun h => absurd h (by decide)⟩
      · show gC (S164 (a + 12)) = _
        rw [show S164 (a + 12) = S (a + 12) from by rw [he2, st_ne _ _ (off_ne0' (j := 12) (by decide)), he1, st_ne _ _ (off_ne (i := 12) (j := 26) (by decide))], f_A12]; rfl
      · show _ ∨ gN (S164 (a + 12)) 0 = _
        rw [show S164 (a + 12) = S (a + 12) from by rw [he2, st_ne _ _ (off_ne0' (j := 12) (by decide)), he1, st_ne _ _ (off_ne (i := 12) (j := 26) (by decide))], f_A12]; exact Or.inr rfl
    · rw [ds_11_18]
      exact ⟨fun h => absurd h (by decide), fun h => absurd h (by decide), fun h => absurd h (by decide)⟩
    · rw [ds_11_19]
      exact ⟨fun h => absurd h (by decide), fun h => absurd h (by decide), fun h => absurd h (by decide)⟩
    · rw [ds_11_20]
      exact ⟨fun h => absurd h (by decide), fun h => absurd h (by decide), fun h => absurd h (by decide)⟩
    · rw [ds_11_21]
      refine ⟨fun _ => ⟨(rV 21 _ (by simp only [eV1, gC_sR, gC_sI, gC_sJ, gR_sR, gR_sI, gR_sJ, gI_sR, gI_sI, gI_sJ, Nat.reduceEqDiff, ↓reduceIte]; exact f_R21)), ?_, ?_⟩, fun h => absurd h (by decide), fun h => absurd h (by decide)⟩
      · show gC (S164 (a + 13)) = _
        rw [show S164 (a + 13) = S (a + 13) from by rw [he2, st_ne _ _ (off_ne0' (j := 13) (by decide)), he1, st_ne _ _ (off_ne (i := 13) (j := 26) (by decide))], f_A13]; rfl
      · show _ ∨ gN (S164 (a + 13)) 0 = _
        rw [show S164 (a + 13) = S (a + 13) from by rw [he2, st_ne _ _ (off_ne0' (j := 13) (by decide)), he1, st_ne _ _ (off_ne (i := 13) (j := 26) (by decide))], f_A13]; exact Or.inr rfl
    · rw [ds_11_22]
      refine ⟨fun _ => ⟨(rV 22 _ (by simp only [eV1, gC_sR, gC_sI, gC_sJ, gR_sR, gR_sI, gR_sJ, gI_sR, gI_sI, gI_sJ, Nat.reduceEqDiff, ↓reduceIte]; exact f_R22)), ?_, ?_⟩, fun h => absurd h (by decide), fun h => absurd h (by decide)⟩
      · show gC (S164 (a + 14)) = _
        rw [show S164 (a + 14) = S (a + 14) from by rw [he2, st_ne _ _ (off_ne0' (j := 14) (by decide)), he1, st_ne _ _ (off_ne (i := 14) (j := 26) (by decide))], f_A14]; rfl
      · show _ ∨ gN (S164 (a + 14)) 0 = _
        rw [show S164 (a + 14) = S (a + 14) from by rw [he2, st_ne _ _ (off_ne0' (j := 14) (by decide)), he1, st_ne _ _ (off_ne (i := 14) (j := 26) (by decide))], f_A14]; exact Or.inr rfl
    · rw [ds_11_23]
      refine ⟨fun _ => ⟨(rV 23 _ (by simp only [eV1, gC_sR, gC_sI, gC_sJ, gR_sR, gR_sI, gR_sJ, gI_sR, gI_sI, gI_sJ, Nat.reduceEqDiff, ↓reduceIte]; exact f_R23)), ?_, ?_⟩, fun h => absurd h (by decide), fun h => absurd h (by decide)⟩
      · show gC (S164 (a + 15)) = _
        rw [show S164 (a + 15) = S (a + 15) from by rw [he2, st_ne _ _ (off_ne0' (j := 15) (by decide)), he1, st_ne _ _ (off_ne (i := 15) (j := 26) (by decide))], f_A15]; rfl
      · show _ ∨ gN (S164 (a + 15)) 0 = _
        rw [show S164 (a + 15) = S (a + 15) from by rw [he2, st_ne _ _ (off_ne0' (j := 15) (by decide)), he1, st_ne _ _ (off_ne (i := 15) (j := 26) (by decide))], f_A15]; exact Or.inr rfl
    · rw [ds_11_24]
      refine ⟨fun _ => ⟨(rV 24 _ (by simp only [eV1, gC_sR, gC_sI, gC_sJ, gR_sR, gR_sI, gR_sJ, gI_sR, gI_sI, gI_sJ, Nat.reduceEqDiff, ↓reduceIte]; exact f_R24)), ?_, ?_⟩, fun h => absurd h (by decide), fun h => absurd h (by decide)⟩
      · show gC (S164 (a + 16)) = _
        rw [show S164 (a + 16) = S (a + 16) from by rw [he2, st_ne _ _ (off_ne0' (j := 16) (by decide)), he1, st_ne _ _ (off_ne (i := 16) (j := 26) (by decide))], f_A16]; rfl
      · show _ ∨ gN (S164 (a + 16)) 0 = _
        rw [show S164 (a + 16) = S (a + 16) from by rw [he2, st_ne _ _ (off_ne0' (j := 16) (by decide)), he1, st_ne _ _ (off_ne (i := 16) (j := 26) (by decide))], f_A16]; exact Or.inr rfl
    · rw [ds_11_25]
      exact ⟨fun h => absurd h (by decide), fun h => absurd h (by decide), fun h => absurd h (by decide)⟩
    · rw [ds_11_26]
      refine ⟨fun _ => ⟨(rV 26 _ (by simp only [eV1, gC_sR, gC_sI, gC_sJ, gR_sR, gR_sI, gR_sJ, gI_sR, gI_sI, gI_sJ, Nat.reduceEqDiff, ↓reduceIte]; exact f_R26)), ?_, ?_⟩, fun h => absurd h (by decide), fun h => absurd h (by decide)⟩
      · show gC (S164 (a + 17)) = _
        rw [show S164 (a + 17) = S (a + 17) from by rw [he2, st_ne _ _ (off_ne0' (j := 17) (by decide)), he1, st_ne _ _ (off_ne (i := 17) (j := 26) (by decide))], f_A17]; rfl
      · show _ ∨ gN (S164 (a + 17)) 0 = _
        rw [show S164 (a + 17) = S (a + 17) from by rw [he2, st_ne _ _ (off_ne0' (j := 17) (by decide)), he1, st_ne _ _ (off_ne (i := 17) (j := 26) (by decide))], f_A17]; exact Or.inr rfl
    · rw [ds_11_27]
      refine ⟨fun _ => ⟨(rV 27 _ (by simp only [eV1, gC_sR, gC_sI, gC_sJ, gR_sR, gR_sI, gR_sJ, gI_sR, gI_sI, gI_sJ, Nat.reduceEqDiff, ↓reduceIte]; exact f_R27)), ?_, ?_⟩, fun h => absurd h (by decide), fun h => absurd h (by decide)⟩
      · show gC (S164 (a + 18)) = _
        rw [show S164 (a + 18) = S (a + 18) from by rw [he2, st_ne _ _ (off_ne0' (j := 18) (by decide)), he1, st_ne _ _ (off_ne (i := 18) (j := 26) (by decide))], f_A18]; rfl
      · show _ ∨ gN (S164 (a + 18)) 0 = _
        rw [show S164 (a + 18) = S (a + 18) from by rw [he2, st_ne _ _ (off_ne0' (j := 18) (by decide)), he1, st_ne _ _ (off_ne (i := 18) (j := 26) (by decide))], f_A18]; exact Or.inr rfl
    · rw [ds_11_28]
      refine ⟨fun _ => ⟨(rV 28 _ (by simp only [eV1, gC_sR, gC_sI, gC_sJ, gR_sR, gR_sI, gR_sJ, gI_sR, gI_sI, gI_sJ, Nat.reduceEqDiff, ↓reduceIte]; exact f_R28)), ?_, ?_⟩, fun h => absurd h (by decide), fun h => absurd h (by decide)⟩
      · show gC (S164 (a + 19)) = _
        rw [show S164 (a + 19) = S (a + 19) from by rw [he2, st_ne _ _ (off_ne0' (j := 19) (by decide)), he1, st_ne _ _ (off_ne (i := 19) (j := 26) (by decide))], f_A19]; rfl
      · show _ ∨ gN (S164 (a + 19)) 0 = _
        rw [show S164 (a + 19) = S (a + 19) from by rw [he2, st_ne _ _ (off_ne0' (j := 19) (by decide)), he1, st_ne _ _ (off_ne (i := 19) (j := 26) (by decide))], f_A19]; exact Or.inr rfl
    · rw [ds_11_29]
      refine ⟨fun _ => ⟨(rV 29 _ (by simp only [eV1, gC_sR, gC_sI, gC_sJ, gR_sR, gR_sI, gR_sJ, gI_sR, gI_sI, gI_sJ, Nat.reduceEqDiff, ↓reduceIte]; exact f_R29)), ?_, ?_⟩, fun h => absurd h (by decide), fun h => absurd h (by decide)⟩
      · show gC (S164 (a + 20)) = _
        rw [show S164 (a + 20) = S (a + 20) from by rw [he2, st_ne _ _ (off_ne0' (j := 20) (by decide)), he1, st_ne _ _ (off_ne (i := 20) (j := 26) (by decide))], f_A20]; rfl
      · show _ ∨ gN (S164 (a + 20)) 0 = _
        rw [show S164 (a + 20) = S (a + 20) from by rw [he2, st_ne _ _ (off_ne0' (j := 20) (by decide)), he1, st_ne _ _ (off_ne (i := 20) (j := 26) (by decide))], f_A20]; exact Or.inr rfl
    · rw [ds_11_30]
      exact ⟨fun h => absurd h (by decide), fun h => absurd h (by decide), fun h => absurd h (by decide)⟩
    · rw [ds_11_31]
      exact ⟨fun h => absurd h (by decide), fun h => absurd h (by decide), fun h => absurd h (by decide)⟩
    · rw [ds_11_32]
      refine ⟨fun _ => ⟨(rV 32 _ (by simp only [eV1, gC_sR, gC_sI, gC_sJ, gR_sR, gR_sI, gR_sJ, gI_sR, gI_sI, gI_sJ, Nat.reduceEqDiff, ↓reduceIte]; exact f_R32)), ?_, ?_⟩, fun h => absurd h (by decide), fun h => absurd h (by decide)⟩
      · show gC (S164 (a + 21)) = _
        rw [show S164 (a + 21) = S (a + 21) from by rw [he2, st_ne _ _ (off_ne0' (j := 21) (by decide)), he1, st_ne _ _ (off_ne (i := 21) (j := 26) (by decide))], f_A21]; rfl
      · show _ ∨ gN (S164 (a + 21)) 0 = _
        rw [show S164 (a + 21) = S (a + 21) from by rw [he2, st_ne _ _ (off_ne0' (j := 21) (by decide)), he1, st_ne _ _ (off_ne (i := 21) (j := 26) (by decide))], f_A21]; exact Or.inr rfl
    · rw [ds_11_33]
      refine ⟨fun _ => ⟨(rV 33 _ (by simp only [eV1, gC_sR, gC_sI, gC_sJ, gR_sR, gR_sI, gR_sJ, gI_sR, gI_sI, gI_sJ, Nat.reduceEqDiff, ↓reduceIte]; exact f_R33)), ?_, ?_⟩, fun h => absurd h (by decide), fun h => absurd h (by decide)⟩
      · show gC (S164 (a + 22)) = _
        rw [show S164 (a + 22) = S (a + 22) from by rw [he2, st_ne _ _ (off_ne0' (j := 22) (by decide)), he1, st_ne _ _ (off_ne (i := 22) (j := 26) (by decide))], f_A22]; rfl
      · show _ ∨ gN (S164 (a + 22)) 0 = _
        rw [show S164 (a + 22) = S (a + 22) from by rw [he2, st_ne _ _ (off_ne0' (j := 22) (by decide)), he1, st_ne _ _ (off_ne (i := 22) (j := 26) (by decide))], f_A22]; exact Or.inr rfl
    · rw [ds_11_34]
      refine ⟨fun _ => ⟨(rV 34 _ (by simp only [eV1, gC_sR, gC_sI, gC_sJ, gR_sR, gR_sI, gR_sJ, gI_sR, gI_sI, gI_sJ, Nat.reduceEqDiff, ↓reduceIte]; exact f_R34)), ?_, ?_⟩, fun h => absurd h (by decide), fun h => absurd h (by decide)⟩
      · show gC (S164 (a + 23)) = _
        rw [show S164 (a + 23) = S (a + 23) from by rw [he2, st_ne _ _ (off_ne0' (j := 23) (by decide)), he1, st_ne _ _ (off_ne (i := 23) (j := 26) (by decide))], f_A23]; rfl
      · show _ ∨ gN (S164 (a + 23)) 0 = _
        rw [show S164 (a + 23) = S (a + 23) from by rw [he2, st_ne _ _ (off_ne0' (j := 23) (by decide)), he1, st_ne _ _ (off_ne (i := 23) (j := 26) (by decide))], f_A23]; exact Or.inr rfl
    · rw [ds_11_35]
      refine ⟨fun _ => ⟨(rV 35 _ (by simp only [eV1, gC_sR, gC_sI, gC_sJ, gR_sR, gR_sI, gR_sJ, gI_sR, gI_sI, gI_sJ, Nat.reduceEqDiff, ↓reduceIte]; exact f_R35)), ?_, ?_⟩, fun h => absurd h (by decide), fun h => absurd h (by decide)⟩
      · show gC (S164 (a + 24)) = _
        rw [show S164 (a + 24) = S (a + 24) from by rw [he2, st_ne _ _ (off_ne0' (j := 24) (by decide)), he1, st_ne _ _ (off_ne (i := 24) (j := 26) (by decide))], f_A24]; rfl
      · show _ ∨ gN (S164 (a + 24)) 0 = _
        rw [show S164 (a + 24) = S (a + 24) from by rw [he2, st_ne _ _ (off_ne0' (j := 24) (by decide)), he1, st_ne _ _ (off_ne (i := 24) (j := 26) (by decide))], f_A24]; exact Or.inr rfl
    · rw [ds_11_36]
      exact ⟨fun h => absurd h (by decide), fun h => absurd h (by decide), fun h => absurd h (by decide)⟩
    · rw [ds_11_37]
      exact ⟨fun h => absurd h (by decide), fun h => absurd h (by decide), fun h => absurd h (by decide)⟩
    · rw [ds_11_38]
      refine ⟨fun _ => ⟨(rV 38 _ (by simp only [eV1, gC_sR, gC_sI, gC_sJ, gR_sR, gR_sI, gR_sJ, gI_sR, gI_sI, gI_sJ, Nat.reduceEqDiff, ↓reduceIte]; exact f_R38)), ?_, ?_⟩, fun h => absurd h (by decide), fun h => absurd h (by decide)⟩
      · show gC (S164 (a + 25)) = _
        rw [show S164 (a + 25) = S (a + 25) from by rw [he2, st_ne _ _ (off_ne0' (j := 25) (by decide)), he1, st_ne _ _ (off_ne (i := 25) (j := 26) (by decide))], f_A25]; rfl
      · show _ ∨ gN (S164 (a + 25)) 0 = _
        rw [show S164 (a + 25) = S (a + 25) from by rw [he2, st_ne _ _ (off_ne0' (j := 25) (by decide)), he1, st_ne _ _ (off_ne (i := 25) (j := 26) (by decide))], f_A25]; exact Or.inr rfl
    · rw [ds_11_39]
      refine ⟨fun _ => ⟨(rV 39 _ (by simp only [eV1, gC_sR, gC_sI, gC_sJ, gR_sR, gR_sI, gR_sJ, gI_sR, gI_sI, gI_sJ, Nat.reduceEqDiff, ↓reduceIte])), ?_, ?_⟩, fun h => absurd h (by decide), fun h => absurd h (by decide)⟩
      · show gC (S164 (a + 26)) = _
        rw [show S164 (a + 26) = barr 1 10 from by rw [he2, st_ne _ _ (off_ne0' (j := 26) (by decide)), he1, st_same]]; rfl
      · show _ ∨ gN (S164 (a + 26)) 0 = _
        rw [show S164 (a + 26) = barr 1 10 from by rw [he2, st_ne _ _ (off_ne0' (j := 26) (by decide)), he1, st_same]]; exact Or.inr rfl
    · rw [ds_11_40]
      exact ⟨fun h => absurd h (by decide), fun h => absurd h (by decide), fun h => absurd h (by decide)⟩
  have h5 : S164 (a + 5) = S (a + 5) := by rw [he2, st_ne _ _ (off_ne0' (j := 5) (by decide)), he1, st_ne _ _ (off_ne (i := 5) (j := 26) (by decide))]
  have h21 : S164 (a + 21) = S (a + 21) := by rw [he2, st_ne _ _ (off_ne0' (j := 21) (by decide)), he1, st_ne _ _ (off_ne (i := 21) (j := 26) (by decide))]
  have hF : ∀ b, b < a ∨ a + 27 ≤ b → S164 b = S0 b := fun b hb => by rw [he2, st_ne _ _ (by omega), he1, st_ne _ _ (by omega)]; exact hF b hb
  refine ex_nm (fun S167 he => ?_)
  have hF := frm_fr (N := 27) he (by decide +kernel) hF
  have hz : S167 a = frv S164 a 11 28 := by rw [he]; exact if_pos rfl
  refine ex_ck (decide_eq_true (by rw [hz]; rfl)) ?_
  obtain ⟨f, e1, f3, f4, f5, f30, f33, fo⟩ := m_stands0 (fu := fu) (v := S167 a) hf
  refine ex_bd e1 ?_
  refine ex_nm (fun S169 he => ?_)
  have hF := st_fr (k := 0) (N := 27) he (by decide) hF
  have hz1 : S169 a = sAf (S167 a) 10 f := by rw [he, st_same]
  have g10 : gA (S169 a) 10 = f := by rw [hz1, gA_sAf]
  obtain ⟨w, b1, b2, b3, b4, b5, b6, b7, b8, b9, b10⟩ := m_begins (fu := fu) (v := S169 a) (G := G00) (q := q00) hf okG_00 (MG_00 g10 f4 f5 fo) (MBg_00 g10 f3 f30 f33 fo) (okB_00 G00)
  refine ex_ck (decide_eq_true (by rw [hz1, gC_sAf, hz]; rfl)) ?_
  refine ex_bd b1 ?_
  refine ex_nm (fun S172 he => ?_)
  have hF := st_fr (k := 0) (N := 27) he (by decide) hF
  have hz2 : S172 a = w := by rw [he, st_same]
  have w12 : gC w = 12 := by rw [b5, hz1, gC_sAf, hz]; rfl
  refine ex_ck (decide_eq_true (by rw [hz2]; exact w12)) ?_
  refine ⟨_, rfl, ?_⟩
  refine ⟨⟨by rw [hz2]; exact w12, ?_, ⟨by rw [hz2]; exact b6, by rw [hz2]; exact b7, fun i hi => absurd hi (Nat.not_lt_zero _)⟩, ⟨by rw [hz2]; exact b9, fun i hi => absurd hi (Nat.not_lt_zero _)⟩, fun m hm => ⟨by rw [hz2, b10 m hm]; show _ = nI (bt 0 m); unfold bt; rw [Nat.zero_div], fun hb => ?_⟩, ?_, ⟨by rw [hz2]; exact b8, fun i hi => absurd hi (Nat.not_lt_zero _)⟩, ⟨(by rw [hz2, b3 _ (by decide), hz1, gI_sAf, hz, frw_I (by decide +kernel), h0]; simp only [eV1, gI_sR]; exact f_I2), fun i hi => absurd hi (Nat.not_lt_zero _)⟩, ⟨0, fun _ => 0, fun _ => 0, ⟨rfl, fun i hi => absurd hi (Nat.not_lt_zero _), fun i hi => absurd hi (Nat.not_lt_zero _), fun i hi => absurd hi (Nat.not_lt_zero _), fun i hi => absurd hi (Nat.not_lt_zero _), fun i hi => absurd hi (Nat.not_lt_zero _), fun j k hj => absurd hj (Nat.not_lt_zero _)⟩, (by rw [hz2, b3 _ (by decide), hz1, gI_sAf, hz, frw_I (by decide +kernel), h0]; simp only [eV1, gI_sR]; exact f_I18), fun i hi => absurd hi (Nat.not_lt_zero _)⟩, fun i hi => ?_, fun i hi => ?_⟩, hF⟩
  · rw [hz2]; exact MG_00 ((b2 10 (by decide) (by decide) (by decide)).trans g10) f4 f5 fo
  · have hb : bt 0 m = 1 := hb
    unfold bt at hb; rw [Nat.zero_div] at hb; omega
  · rw [hz2]; exact MBg_00 ((b2 10 (by decide) (by decide) (by decide)).trans g10) f3 f30 f33 fo
  · rw [hz2, b4, hz1, gL_sAf, hz, frw_L, ds_11_9]; show gL (S164 (a + 5)) 0 i = _; rw [h5]; exact f_Q5 i hi
  · rw [hz2, b2 32 (by decide) (by decide) (by decide), hz1, gA_sAfn _ _ (by decide), hz, frw_A, ds_11_32]; show gA (S164 (a + 21)) 0 i = _; rw [h21, f_A21]; rfl
theorem i_X13 {fu : Nat} {G : GG} {S : ST} {a : Nat} (hf : 1101 ≤ fu) (hr : S a = rawo 11) : ∃ z, f_X13_init fu G S a = some z ∧ RM (z a) A00 ∧ ∀ b, b < a ∨ a + 27 ≤ b → z b = S b := by
  have hJ : J13_0 a S S := ⟨fun _ _ => rfl, by rw [hr]; rfl, by rw [hr]; rfl, by rw [hr]; rfl⟩
  exact sg13_0 hJ (fun S1 hJ => sg13_1 hJ (fun S2 hJ => sg13_2 hJ (fun S3 hJ => sg13_3 hJ (fun S4 hJ => sg13_4 hJ (fun S5 hJ => sg13_5 hf hJ)))))
