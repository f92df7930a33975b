/-! ===== what the constructors make (printed by mkinit.py) ===== -/
theorem ex_nm {α β : Type} {x : α} {k : α → Option β} {P : β → Prop} (h : ∀ y, y = x → ∃ z, k y = some z ∧ P z) : ∃ z, nm x k = some z ∧ P z := h x rfl
theorem ex_ck {β : Type} {b : Bool} {k : Option β} {P : β → Prop} (hb : b = true) (h : ∃ z, k = some z ∧ P z) : ∃ z, ck b k = some z ∧ P z := by subst hb; exact h
theorem ex_bd {α β : Type} {o : Option α} {x : α} {k : α → Option β} {P : β → Prop} (ho : o = some x) (h : ∃ z, k x = some z ∧ P z) : ∃ z, bd o k = some z ∧ P z := by subst ho; exact h
theorem st_fr {S S1 S2 : ST} {a k N : Nat} {v : GV} (he : S2 = st S1 (a + k) v) (hk : k < N) (hF : ∀ b, b < a ∨ a + N ≤ b → S1 b = S b) : ∀ b, b < a ∨ a + N ≤ b → S2 b = S b := fun b hb => by rw [he, st_ne _ _ (by omega)]; exact hF b hb
theorem st_at {S1 S2 : ST} {x b : Nat} {v : GV} (he : S2 = st S1 x v) (h : b ≠ x) : S2 b = S1 b := by rw [he, st_ne _ _ h]
theorem off_ne {a i j : Nat} (h : i ≠ j) : a + i ≠ a + j := by omega
theorem off_ne0 {a j : Nat} (h : 0 < j) : a ≠ a + j := by omega
theorem off_ne0' {a j : Nat} (h : 0 < j) : a + j ≠ a := by omega
theorem sub_fr {S S1 S2 : ST} {a k n N : Nat} (he : ∀ b, b < a + k ∨ a + k + n ≤ b → S2 b = S1 b) (hk : k + n ≤ N) (hF : ∀ b, b < a ∨ a + N ≤ b → S1 b = S b) : ∀ b, b < a ∨ a + N ≤ b → S2 b = S b := fun b hb => by rw [he b (by omega)]; exact hF b hb
theorem sub_at {S1 S2 : ST} {a k n j : Nat} (he : ∀ b, b < a + k ∨ a + k + n ≤ b → S2 b = S1 b) (hj : j < k ∨ k + n ≤ j) : S2 (a + j) = S1 (a + j) := he _ (by omega)
theorem frB_of {G : GG} {S : ST} {q ci : Nat} (h0 : gC (S q) = 12 + ci + 1) (h : ∀ k, k < nf ci → ((ds ci k).1 = 2 → gR (S q) k = some (q + (ds ci k).2.1) ∧ gC (S (q + (ds ci k).2.1)) = 23 + (ds ci k).2.2.1 + 1 ∧ ((ds ci k).2.2.2 = 0 ∨ gN (S (q + (ds ci k).2.1)) 0 = (ds ci k).2.2.2)) ∧ ((ds ci k).1 = 3 → gR (S q) k = some (q + (ds ci k).2.1)) ∧ ((ds ci k).1 = 5 → gR (S q) k = some (kAd G 28))) : frB G S q ci 28 = true := by
  unfold frB
  rw [decide_eq_true h0, Bool.true_and, List.all_eq_true]
  intro k hk
  obtain ⟨h2, h3, h5⟩ := h k (List.mem_range.mp hk)
  simp only [Bool.and_eq_true, Bool.or_eq_true, Bool.not_eq_true', decide_eq_true_eq, decide_eq_false_iff_not]
  refine ⟨⟨?_, ?_⟩, ?_⟩
  · by_cases c : (ds ci k).1 = 2
    · obtain ⟨g1, g2, g3⟩ := h2 c
      exact Or.inr ⟨⟨g1, g2⟩, g3⟩
    · exact Or.inl c
  · by_cases c : (ds ci k).1 = 3
    · exact Or.inr (h3 c)
    · exact Or.inl c
  · by_cases c : (ds ci k).1 = 5
    · exact Or.inr (h5 c)
    · exact Or.inl c
theorem frm_at {S S2 : ST} {a ci k : Nat} (he : S2 = frm S a ci 28) (hk : 0 < k) (h : isOff ci k = false) : S2 (a + k) = S (a + k) := by
  rw [he]
  unfold frm
  rw [if_neg (by omega), if_neg]
  rw [show a + k - a = k by omega, h]
  exact fun q => absurd q.2 (by decide)
theorem frm_fr {S S1 S2 : ST} {a ci N : Nat} (he : S2 = frm S1 a ci 28) (hN : (decide (0 < N) && (List.range (nf ci)).all fun k => decide ((ds ci k).1 ≠ 2 ∨ (ds ci k).2.1 < N)) = true) (hF : ∀ b, b < a ∨ a + N ≤ b → S1 b = S b) : ∀ b, b < a ∨ a + N ≤ b → S2 b = S b := by
  intro b hb
  rw [Bool.and_eq_true, decide_eq_true_eq] at hN
  have h0 := hN.1
  rw [← hF b hb, he]
  unfold frm
  rw [if_neg (by omega), if_neg]
  rintro ⟨h1, h2⟩
  obtain ⟨k, hk, h3, h4⟩ := isOff_ex h2
  have := List.all_eq_true.mp hN.2 k (List.mem_range.mpr hk)
  simp only [decide_eq_true_eq] at this
  rcases this with q | q
  · exact q h3
  · omega
theorem frw_I {S : ST} {q ci j k : Nat} (h : (ds ci k).1 ≠ 5) : gI (frv S q ci j) k = gI (S q) k := if_neg h
theorem frw_Q {S : ST} {q ci j k : Nat} : gQ (frv S q ci j) k = gQ (S (q + (ds ci k).2.1)) 0 := (id rfl)
theorem frw_L {S : ST} {q ci j k : Nat} : gL (frv S q ci j) k = gL (S (q + (ds ci k).2.1)) 0 := (id rfl)
theorem frw_A {S : ST} {q ci j k : Nat} : gA (frv S q ci j) k = gA (S (q + (ds ci k).2.1)) 0 := (id rfl)
theorem nf_0 : nf 0 = 13 := by decide +kernel
theorem nf_1 : nf 1 = 2 := by decide +kernel
theorem nf_2 : nf 2 = 13 := by decide +kernel
theorem nf_3 : nf 3 = 2 := by decide +kernel
theorem nf_4 : nf 4 = 4 := by decide +kernel
theorem nf_5 : nf 5 = 5 := by decide +kernel
theorem nf_6 : nf 6 = 3 := by decide +kernel
theorem nf_7 : nf 7 = 8 := by decide +kernel
theorem nf_8 : nf 8 = 6 := by decide +kernel
theorem nf_9 : nf 9 = 3 := by decide +kernel
theorem nf_10 : nf 10 = 19 := by decide +kernel
theorem nf_11 : nf 11 = 41 := by decide +kernel
theorem ds_0_0 : ds 0 0 = (2, 1, 2, 8) := by decide +kernel
theorem ds_0_1 : ds 0 1 = (2, 2, 2, 5) := by decide +kernel
theorem ds_0_2 : ds 0 2 = (2, 3, 2, 4) := by decide +kernel
theorem ds_0_3 : ds 0 3 = (2, 4, 1, 5) := by decide +kernel
theorem ds_0_4 : ds 0 4 = (2, 5, 1, 5) := by decide +kernel
theorem ds_0_5 : ds 0 5 = (2, 6, 1, 5) := by decide +kernel
theorem ds_0_6 : ds 0 6 = (2, 7, 1, 4) := by decide +kernel
theorem ds_0_7 : ds 0 7 = (3, 8, 0, 0) := by decide +kernel
theorem ds_0_8 : ds 0 8 = (0, 0, 0, 0) := by decide +kernel
theorem ds_0_9 : ds 0 9 = (0, 0, 0, 0) := by decide +kernel
theorem ds_0_10 : ds 0 10 = (0, 0, 0, 0) := by decide +kernel
theorem ds_0_11 : ds 0 11 = (4, 0, 0, 0) := by decide +kernel
theorem ds_0_12 : ds 0 12 = (4, 0, 0, 0) := by decide +kernel
theorem ds_1_0 : ds 1 0 = (4, 0, 0, 0) := by decide +kernel
theorem ds_1_1 : ds 1 1 = (3, 1, 0, 0) := by decide +kernel
theorem ds_2_0 : ds 2 0 = (2, 1, 1, 8) := by decide +kernel
theorem ds_2_1 : ds 2 1 = (2, 2, 1, 8) := by decide +kernel
theorem ds_2_2 : ds 2 2 = (2, 3, 1, 8) := by decide +kernel
theorem ds_2_3 : ds 2 3 = (2, 4, 1, 8) := by decide +kernel
theorem ds_2_4 : ds 2 4 = (2, 5, 1, 8) := by decide +kernel
theorem ds_2_5 : ds 2 5 = (2, 6, 1, 5) := by decide +kernel
theorem ds_2_6 : ds 2 6 = (0, 0, 0, 0) := by decide +kernel
theorem ds_2_7 : ds 2 7 = (0, 0, 0, 0) := by decide +kernel
theorem ds_2_8 : ds 2 8 = (0, 0, 0, 0) := by decide +kernel
theorem ds_2_9 : ds 2 9 = (0, 0, 0, 0) := by decide +kernel
theorem ds_2_10 : ds 2 10 = (0, 0, 0, 0) := by decide +kernel
theorem ds_2_11 : ds 2 11 = (0, 0, 0, 0) := by decide +kernel
theorem ds_2_12 : ds 2 12 = (0, 0, 0, 0) := by decide +kernel
theorem ds_3_0 : ds 3 0 = (2, 1, 1, 0) := by decide +kernel
theorem ds_3_1 : ds 3 1 = (2, 2, 1, 32) := by decide +kernel
theorem ds_4_0 : ds 4 0 = (4, 0, 0, 0) := by decide +kernel
theorem ds_4_1 : ds 4 1 = (2, 1, 1, 1000) := by decide +kernel
theorem ds_4_2 : ds 4 2 = (0, 0, 0, 0) := by decide +kernel
theorem ds_4_3 : ds 4 3 = (5, 0, 0, 0) := by decide +kernel
theorem ds_5_0 : ds 5 0 = (2, 1, 1, 30) := by decide +kernel
theorem ds_5_1 : ds 5 1 = (2, 2, 1, 30) := by decide +kernel
theorem ds_5_2 : ds 5 2 = (2, 3, 1, 30) := by decide +kernel
theorem ds_5_3 : ds 5 3 = (2, 4, 1, 30) := by decide +kernel
theorem ds_5_4 : ds 5 4 = (0, 0, 0, 0) := by decide +kernel
theorem ds_6_0 : ds 6 0 = (2, 1, 1, 8) := by decide +kernel
theorem ds_6_1 : ds 6 1 = (2, 2, 1, 243) := by decide +kernel
theorem ds_6_2 : ds 6 2 = (0, 0, 0, 0) := by decide +kernel
theorem ds_7_0 : ds 7 0 = (2, 1, 3, 1000) := by decide +kernel
theorem ds_7_1 : ds 7 1 = (2, 2, 1, 1001) := by decide +kernel
theorem ds_7_2 : ds 7 2 = (2, 3, 1, 1001) := by decide +kernel
theorem ds_7_3 : ds 7 3 = (2, 4, 2, 1001) := by decide +kernel
theorem ds_7_4 : ds 7 4 = (0, 0, 0, 0) := by decide +kernel
theorem ds_7_5 : ds 7 5 = (0, 0, 0, 0) := by decide +kernel
theorem ds_7_6 : ds 7 6 = (0, 0, 0, 0) := by decide +kernel
theorem ds_7_7 : ds 7 7 = (0, 0, 0, 0) := by decide +kernel
theorem ds_8_0 : ds 8 0 = (2, 1, 1, 6) := by decide +kernel
theorem ds_8_1 : ds 8 1 = (2, 2, 1, 6) := by decide +kernel
theorem ds_8_2 : ds 8 2 = (2, 3, 1, 6) := by decide +kernel
theorem ds_8_3 : ds 8 3 = (0, 0, 0, 0) := by decide +kernel
theorem ds_8_4 : ds 8 4 = (0, 0, 0, 0) := by decide +kernel
theorem ds_8_5 : ds 8 5 = (0, 0, 0, 0) := by decide +kernel
theorem ds_9_0 : ds 9 0 = (3, 1, 0, 0) := by decide +kernel
theorem ds_9_1 : ds 9 1 = (1, 0, 0, 0) := by decide +kernel
theorem ds_9_2 : ds 9 2 = (0, 0, 0, 0) := by decide +kernel
theorem ds_10_0 : ds 10 0 = (3, 1, 0, 0) := by decide +kernel
theorem ds_10_1 : ds 10 1 = (3, 6, 0, 0) := by decide +kernel
theorem ds_10_2 : ds 10 2 = (3, 9, 0, 0) := by decide +kernel
theorem ds_10_3 : ds 10 3 = (3, 16, 0, 0) := by decide +kernel
theorem ds_10_4 : ds 10 4 = (2, 23, 5, 17) := by decide +kernel
theorem ds_10_5 : ds 10 5 = (2, 24, 5, 4) := by decide +kernel
theorem ds_10_6 : ds 10 6 = (3, 25, 0, 0) := by decide +kernel
theorem ds_10_7 : ds 10 7 = (3, 29, 0, 0) := by decide +kernel
theorem ds_10_8 : ds 10 8 = (3, 32, 0, 0) := by decide +kernel
theorem ds_10_9 : ds 10 9 = (2, 40, 1, 32) := by decide +kernel
theorem ds_10_10 : ds 10 10 = (2, 41, 1, 9) := by decide +kernel
theorem ds_10_11 : ds 10 11 = (2, 42, 1, 9) := by decide +kernel
theorem ds_10_12 : ds 10 12 = (4, 0, 0, 0) := by decide +kernel
theorem ds_10_13 : ds 10 13 = (4, 0, 0, 0) := by decide +kernel
theorem ds_10_14 : ds 10 14 = (4, 0, 0, 0) := by decide +kernel
theorem ds_10_15 : ds 10 15 = (4, 0, 0, 0) := by decide +kernel
theorem ds_10_16 : ds 10 16 = (0, 0, 0, 0) := by decide +kernel
theorem ds_10_17 : ds 10 17 = (0, 0, 0, 0) := by decide +kernel
theorem ds_10_18 : ds 10 18 = (0, 0, 0, 0) := by decide +kernel
theorem ds_11_0 : ds 11 0 = (0, 0, 0, 0) := by decide +kernel
theorem ds_11_1 : ds 11 1 = (2, 1, 1, 1000) := by decide +kernel
theorem ds_11_2 : ds 11 2 = (0, 0, 0, 0) := by decide +kernel
theorem ds_11_3 : ds 11 3 = (0, 0, 0, 0) := by decide +kernel
theorem ds_11_4 : ds 11 4 = (2, 2, 1, 1002) := by decide +kernel
theorem ds_11_5 : ds 11 5 = (2, 3, 1, 1002) := by decide +kernel
theorem ds_11_6 : ds 11 6 = (2, 4, 2, 1002) := by decide +kernel
theorem ds_11_7 : ds 11 7 = (0, 0, 0, 0) := by decide +kernel
theorem ds_11_8 : ds 11 8 = (0, 0, 0, 0) := by decide +kernel
theorem ds_11_9 : ds 11 9 = (2, 5, 2, 29) := by decide +kernel
theorem ds_11_10 : ds 11 10 = (2, 6, 1, 140) := by decide +kernel
theorem ds_11_11 : ds 11 11 = (2, 7, 1, 2200) := by decide +kernel
theorem ds_11_12 : ds 11 12 = (2, 8, 1, 2200) := by decide +kernel
theorem ds_11_13 : ds 11 13 = (0, 0, 0, 0) := by decide +kernel
theorem ds_11_14 : ds 11 14 = (2, 9, 2, 18) := by decide +kernel
theorem ds_11_15 : ds 11 15 = (2, 10, 2, 18) := by decide +kernel
theorem ds_11_16 : ds 11 16 = (2, 11, 1, 18) := by decide +kernel
theorem ds_11_17 : ds 11 17 = (2, 12, 1, 18) := by decide +kernel
theorem ds_11_18 : ds 11 18 = (0, 0, 0, 0) := by decide +kernel
theorem ds_11_19 : ds 11 19 = (0, 0, 0, 0) := by decide +kernel
theorem ds_11_20 : ds 11 20 = (0, 0, 0, 0) := by decide +kernel
theorem ds_11_21 : ds 11 21 = (2, 13, 1, 250) := by decide +kernel
theorem ds_11_22 : ds 11 22 = (2, 14, 1, 4) := by decide +kernel
theorem ds_11_23 : ds 11 23 = (2, 15, 1, 1100) := by decide +kernel
theorem ds_11_24 : ds 11 24 = (2, 16, 1, 1518) := by decide +kernel
theorem ds_11_25 : ds 11 25 = (0, 0, 0, 0) := by decide +kernel
theorem ds_11_26 : ds 11 26 = (2, 17, 4, 4) := by decide +kernel
theorem ds_11_27 : ds 11 27 = (2, 18, 1, 6) := by decide +kernel
theorem ds_11_28 : ds 11 28 = (2, 19, 1, 6) := by decide +kernel
theorem ds_11_29 : ds 11 29 = (2, 20, 1, 6) := by decide +kernel
theorem ds_11_30 : ds 11 30 = (0, 0, 0, 0) := by decide +kernel
theorem ds_11_31 : ds 11 31 = (0, 0, 0, 0) := by decide +kernel
theorem ds_11_32 : ds 11 32 = (2, 21, 1, 5) := by decide +kernel
theorem ds_11_33 : ds 11 33 = (2, 22, 1, 8) := by decide +kernel
theorem ds_11_34 : ds 11 34 = (2, 23, 1, 8) := by decide +kernel
theorem ds_11_35 : ds 11 35 = (2, 24, 1, 8) := by decide +kernel
theorem ds_11_36 : ds 11 36 = (0, 0, 0, 0) := by decide +kernel
theorem ds_11_37 : ds 11 37 = (0, 0, 0, 0) := by decide +kernel
theorem ds_11_38 : ds 11 38 = (2, 25, 1, 10) := by decide +kernel
theorem ds_11_39 : ds 11 39 = (2, 26, 1, 10) := by decide +kernel
theorem ds_11_40 : ds 11 40 = (1, 0, 0, 0) := by decide +kernel
section IN
variable {fu : Nat} {G : GG} {S : ST} {a g1 : Nat}
set_option maxHeartbeats 4000000 in
theorem i_X8 (hraw : gC (S a) = 20) : ∃ z, f_X8_init fu G S a = some z ∧ (gC (z a) = 8 ∧ gI (z a) 6 = nI 0) ∧ ∀ b, b < a ∨ a + 5 ≤ b → z b = S b := by
  unfold f_X8_init
  have hF : ∀ b, b < a ∨ a + 5 ≤ b → S b = S b := fun _ _ => rfl
  obtain ⟨V0, h0⟩ : ∃ y, S a = y := ⟨_, rfl⟩
  rw [h0] at hraw
  refine ex_nm (fun S1 he => ?_)
  have hF := st_fr (k := 1) (N := 5) he (by decide) hF
  have h0 := (st_at he (off_ne0 (j := 1) (by decide))).trans h0
  have h1 : S1 (a + 1) = barr 3 1000 := by rw [he, st_same]
  refine ex_ck (decide_eq_true (by rw [h0]; exact hraw)) ?_
  refine ex_nm (fun S2 he => ?_)
  have hF := st_fr (k := 0) (N := 5) he (by decide) hF
  have h1 := (st_at he (off_ne0' (j := 1) (by decide))).trans h1
  obtain ⟨V1, eV1⟩ : ∃ y, y = sR V0 0 (some (a + 1)) := ⟨_, rfl⟩
  have h0 : S2 a = V1 := by rw [he, st_same, h0, eV1]
  refine ex_nm (fun S4 he => ?_)
  have hF := st_fr (k := 2) (N := 5) he (by decide) hF
  have h1 := (st_at he (off_ne (i := 1) (j := 2) (by decide))).trans h1
  have h0 := (st_at he (off_ne0 (j := 2) (by decide))).trans h0
  have h2 : S4 (a + 2) = barr 1 1001 := by rw [he, st_same]
  refine ex_ck (decide_eq_true (by rw [h0]; exact (by simp only [eV1, gC_sR, gC_sI, gC_sJ]; exact hraw))) ?_
  refine ex_nm (fun S5 he => ?_)
  have hF := st_fr (k := 0) (N := 5) he (by decide) hF
  have h1 := (st_at he (off_ne0' (j := 1) (by decide))).trans h1
  have h2 := (st_at he (off_ne0' (j := 2) (by decide))).trans h2
  obtain ⟨V2, eV2⟩ : ∃ y, y = sR V1 1 (some (a + 2)) := ⟨_, rfl⟩
  have h0 : S5 a = V2 := by rw [he, st_same, h0, eV2]
  refine ex_nm (fun S7 he => ?_)
  have hF := st_fr (k := 3) (N := 5) he (by decide) hF
  have h1 := (st_at he (off_ne (i := 1) (j := 3) (by decide))).trans h1
  have h2 := (st_at he (off_ne (i := 2) (j := 3) (by decide))).trans h2
  have h0 := (st_at he (off_ne0 (j := 3) (by decide))).trans h0
  have h3 : S7 (a + 3) = barr 1 1001 := by rw [he, st_same]
  refine ex_ck (decide_eq_true (by rw [h0]; exact (by simp only [eV2, eV1, gC_sR, gC_sI, gC_sJ]; exact hraw))) ?_
  refine ex_nm (fun S8 he => ?_)
  have hF := st_fr (k := 0) (N := 5) he (by decide) hF
  have h1 := (st_at he (off_ne0' (j := 1) (by decide))).trans h1
  have h2 := (st_at he (off_ne0' (j := 2) (by decide))).trans h2
  have h3 := (st_at he (off_ne0' (j := 3) (by decide))).trans h3
  obtain ⟨V3, eV3⟩ : ∃ y, y = sR V2 2 (some (a + 3)) := ⟨_, rfl⟩
  have h0 : S8 a = V3 := by rw [he, st_same, h0, eV3]
  refine ex_nm (fun S10 he => ?_)
  have hF := st_fr (k := 4) (N := 5) he (by decide) hF
  have h1 := (st_at he (off_ne (i := 1) (j := 4) (by decide))).trans h1
  have h2 := (st_at he (off_ne (i := 2) (j := 4) (by decide))).trans h2
  have h3 := (st_at he (off_ne (i := 3) (j := 4) (by decide))).trans h3
  have h0 := (st_at he (off_ne0 (j := 4) (by decide))).trans h0
  have h4 : S10 (a + 4) = barr 2 1001 := by rw [he, st_same]
  refine ex_ck (decide_eq_true (by rw [h0]; exact (by simp only [eV3, eV2, eV1, gC_sR, gC_sI, gC_sJ]; exact hraw))) ?_
  refine ex_nm (fun S11 he => ?_)
  have hF := st_fr (k := 0) (N := 5) he (by decide) hF
  have h1 := (st_at he (off_ne0' (j := 1) (by decide))).trans h1
  have h2 := (st_at he (off_ne0' (j := 2) (by decide))).trans h2
  have h3 := (st_at he (off_ne0' (j := 3) (by decide))).trans h3
  have h4 := (st_at he (off_ne0' (j := 4) (by decide))).trans h4
  obtain ⟨V4, eV4⟩ : ∃ y, y = sR V3 3 (some (a + 4)) := ⟨_, rfl⟩
  have h0 : S11 a = V4 := by rw [he, st_same, h0, eV4]
  refine ex_ck (decide_eq_true (by rw [h0]; exact (by simp only [eV4, eV3, eV2, eV1, gC_sR, gC_sI, gC_sJ]; exact hraw))) ?_
  refine ex_nm (fun S13 he => ?_)
  have hF := st_fr (k := 0) (N := 5) he (by decide) hF
  have h1 := (st_at he (off_ne0' (j := 1) (by decide))).trans h1
  have h2 := (st_at he (off_ne0' (j := 2) (by decide))).trans h2
  have h3 := (st_at he (off_ne0' (j := 3) (by decide))).trans h3
  have h4 := (st_at he (off_ne0' (j := 4) (by decide))).trans h4
  obtain ⟨V5, eV5⟩ : ∃ y, y = sI V4 4 (0 : Int32) := ⟨_, rfl⟩
  have h0 : S13 a = V5 := by rw [he, st_same, h0, eV5]
  unfold f_X8_init_g1
  refine ex_ck (decide_eq_true (by rw [h0]; exact (by simp only [eV5, eV4, eV3, eV2, eV1, gC_sR, gC_sI, gC_sJ]; exact hraw))) ?_
  refine ex_nm (fun S15 he => ?_)
  have hF := st_fr (k := 0) (N := 5) he (by decide) hF
  have h1 := (st_at he (off_ne0' (j := 1) (by decide))).trans h1
  have h2 := (st_at he (off_ne0' (j := 2) (by decide))).trans h2
  have h3 := (st_at he (off_ne0' (j := 3) (by decide))).trans h3
  have h4 := (st_at he (off_ne0' (j := 4) (by decide))).trans h4
  obtain ⟨V6, eV6⟩ : ∃ y, y = sI V5 5 (0 : Int32) := ⟨_, rfl⟩
  have h0 : S15 a = V6 := by rw [he, st_same, h0, eV6]
  refine ex_ck (decide_eq_true (by rw [h0]; exact (by simp only [eV6, eV5, eV4, eV3, eV2, eV1, gC_sR, gC_sI, gC_sJ]; exact hraw))) ?_
  refine ex_nm (fun S17 he => ?_)
  have hF := st_fr (k := 0) (N := 5) he (by decide) hF
  have h1 := (st_at he (off_ne0' (j := 1) (by decide))).trans h1
  have h2 := (st_at he (off_ne0' (j := 2) (by decide))).trans h2
  have h3 := (st_at he (off_ne0' (j := 3) (by decide))).trans h3
  have h4 := (st_at he (off_ne0' (j := 4) (by decide))).trans h4
  obtain ⟨V7, eV7⟩ : ∃ y, y = sI V6 6 (0 : Int32) := ⟨_, rfl⟩
  have h0 : S17 a = V7 := by rw [he, st_same, h0, eV7]
  refine ex_ck (decide_eq_true (by rw [h0]; exact (by simp only [eV7, eV6, eV5, eV4, eV3, eV2, eV1, gC_sR, gC_sI, gC_sJ]; exact hraw))) ?_
  refine ex_nm (fun S19 he => ?_)
  have hF := st_fr (k := 0) (N := 5) he (by decide) hF
  have h1 := (st_at he (off_ne0' (j := 1) (by decide))).trans h1
  have h2 := (st_at he (off_ne0' (j := 2) (by decide))).trans h2
  have h3 := (st_at he (off_ne0' (j := 3) (by decide))).trans h3
  have h4 := (st_at he (off_ne0' (j := 4) (by decide))).trans h4
  obtain ⟨V8, eV8⟩ : ∃ y, y = sI V7 7 (0 : Int32) := ⟨_, rfl⟩
  have h0 : S19 a = V8 := by rw [he, st_same, h0, eV8]
  have rV : ∀ k x, gR V8 k = x → gR (S19 a) k = x := fun k x hx => by rw [h0]; exact hx
  refine ex_ck (frB_of (by rw [h0]; exact (by simp only [eV8, eV7, eV6, eV5, eV4, eV3, eV2, eV1, gC_sR, gC_sI, gC_sJ]; exact hraw)) (fun k hk => ?_)) ?_
  · rw [nf_7] at hk
    rcases (show k = 0 ∨ k = 1 ∨ k = 2 ∨ k = 3 ∨ k = 4 ∨ k = 5 ∨ k = 6 ∨ k = 7 by omega) with rfl | rfl | rfl | rfl | rfl | rfl | rfl | rfl
    · rw [ds_7_0]
      refine ⟨fun _ => ⟨(rV 0 _ (by simp only [eV8, eV7, eV6, eV5, eV4, eV3, eV2, eV1, gR_sR, gR_sI, gR_sJ, Nat.reduceEqDiff, ↓reduceIte])), ?_, ?_⟩, fun h => absurd h (by decide), fun h => absurd h (by decide)⟩
      · show gC (S19 (a + 1)) = _
        rw [h1]
        rfl
      · show _ ∨ gN (S19 (a + 1)) 0 = _
        rw [h1]
        exact Or.inr rfl
    · rw [ds_7_1]
      refine ⟨fun _ => ⟨(rV 1 _ (by simp only [eV8, eV7, eV6, eV5, eV4, eV3, eV2, eV1, gR_sR, gR_sI, gR_sJ, Nat.reduceEqDiff, ↓reduceIte])), ?_, ?_⟩, fun h => absurd h (by decide), fun h => absurd h (by decide)⟩
      · show gC (S19 (a + 2)) = _
        rw [h2]
        rfl
      · show _ ∨ gN (S19 (a + 2)) 0 = _
        rw [h2]
        exact Or.inr rfl
    · rw [ds_7_2]
      refine ⟨fun _ => ⟨(rV 2 _ (by simp only [eV8, eV7, eV6, eV5, eV4, eV3, eV2, eV1, gR_sR, gR_sI, gR_sJ, Nat.reduceEqDiff, ↓reduceIte])), ?_, ?_⟩, fun h => absurd h (by decide), fun h => absurd h (by decide)⟩
      · show gC (S19 (a + 3)) = _
        rw [h3]
        rfl
      · show _ ∨ gN (S19 (a + 3)) 0 = _
        rw [h3]
        exact Or.inr rfl
    · rw [ds_7_3]
      refine ⟨fun _ => ⟨(rV 3 _ (by simp only [eV8, eV7, eV6, eV5, eV4, eV3, eV2, eV1, gR_sR, gR_sI, gR_sJ, Nat.reduceEqDiff, ↓reduceIte])), ?_, ?_⟩, fun h => absurd h (by decide), fun h => absurd h (by decide)⟩
      · show gC (S19 (a + 4)) = _
        rw [h4]
        rfl
      · show _ ∨ gN (S19 (a + 4)) 0 = _
        rw [h4]
        exact Or.inr rfl
    · rw [ds_7_4]
      exact ⟨fun h => absurd h (by decide), fun h => absurd h (by decide), fun h => absurd h (by decide)⟩
    · rw [ds_7_5]
      exact ⟨fun h => absurd h (by decide), fun h => absurd h (by decide), fun h => absurd h (by decide)⟩
    · rw [ds_7_6]
      exact ⟨fun h => absurd h (by decide), fun h => absurd h (by decide), fun h => absurd h (by decide)⟩
    · rw [ds_7_7]
      exact ⟨fun h => absurd h (by decide), fun h => absurd h (by decide), fun h => absurd h (by decide)⟩
  refine ex_nm (fun S22 he => ?_)
  have hF := frm_fr (N := 5) he (by decide +kernel) hF
  have hz : S22 a = frv S19 a 7 28 := by rw [he]; exact if_pos rfl
  refine ⟨_, rfl, ?_⟩
  exact ⟨⟨by rw [hz]; rfl, (by rw [hz, frw_I (by decide +kernel)]; show gI (S19 a) 6 = _; rw [h0]; simp only [eV8, eV7, eV6, eV5, eV4, eV3, eV2, eV1, gI_sR, gI_sI, gI_sJ, Nat.reduceEqDiff, ↓reduceIte]; try rfl)⟩, hF⟩
set_option maxHeartbeats 4000000 in
theorem i_X3 (hraw : gC (S a) = 15) : ∃ z, f_X3_init fu G S a = some z ∧ (gC (z a) = 3 ∧ CHL (z a) (q00, lk0)) ∧ ∀ b, b < a ∨ a + 7 ≤ b → z b = S b := by
  unfold f_X3_init
  have hF : ∀ b, b < a ∨ a + 7 ≤ b → S b = S b := fun _ _ => rfl
  obtain ⟨V0, h0⟩ : ∃ y, S a = y := ⟨_, rfl⟩
  rw [h0] at hraw
  refine ex_nm (fun S1 he => ?_)
  have hF := st_fr (k := 1) (N := 7) he (by decide) hF
  have h0 := (st_at he (off_ne0 (j := 1) (by decide))).trans h0
  have h1 : S1 (a + 1) = barr 1 8 := by rw [he, st_same]
  refine ex_ck (decide_eq_true (by rw [h0]; exact hraw)) ?_
  refine ex_nm (fun S2 he => ?_)
  have hF := st_fr (k := 0) (N := 7) he (by decide) hF
  have h1 := (st_at he (off_ne0' (j := 1) (by decide))).trans h1
  obtain ⟨V1, eV1⟩ : ∃ y, y = sR V0 0 (some (a + 1)) := ⟨_, rfl⟩
  have h0 : S2 a = V1 := by rw [he, st_same, h0, eV1]
  refine ex_nm (fun S4 he => ?_)
  have hF := st_fr (k := 2) (N := 7) he (by decide) hF
  have h1 := (st_at he (off_ne (i := 1) (j := 2) (by decide))).trans h1
  have h0 := (st_at he (off_ne0 (j := 2) (by decide))).trans h0
  have h2 : S4 (a + 2) = barr 1 8 := by rw [he, st_same]
  refine ex_ck (decide_eq_true (by rw [h0]; exact (by simp only [eV1, gC_sR, gC_sI, gC_sJ]; exact hraw))) ?_
  refine ex_nm (fun S5 he => ?_)
  have hF := st_fr (k := 0) (N := 7) he (by decide) hF
  have h1 := (st_at he (off_ne0' (j := 1) (by decide))).trans h1
  have h2 := (st_at he (off_ne0' (j := 2) (by decide))).trans h2
  obtain ⟨V2, eV2⟩ : ∃ y, y = sR V1 1 (some (a + 2)) := ⟨_, rfl⟩
  have h0 : S5 a = V2 := by rw [he, st_same, h0, eV2]
  refine ex_nm (fun S7 he => ?_)
  have hF := st_fr (k := 3) (N := 7) he (by decide) hF
  have h1 := (st_at he (off_ne (i := 1) (j := 3) (by decide))).trans h1
  have h2 := (st_at he (off_ne (i := 2) (j := 3) (by decide))).trans h2
  have h0 := (st_at he (off_ne0 (j := 3) (by decide))).trans h0
  have h3 : S7 (a + 3) = barr 1 8 := by rw [he, st_same]
  refine ex_ck (decide_eq_true (by rw [h0]; exact (by simp only [eV2, eV1, gC_sR, gC_sI, gC_sJ]; exact hraw))) ?_
  refine ex_nm (fun S8 he => ?_)
  have hF := st_fr (k := 0) (N := 7) he (by decide) hF
  have h1 := (st_at he (off_ne0' (j := 1) (by decide))).trans h1
  have h2 := (st_at he (off_ne0' (j := 2) (by decide))).trans h2
  have h3 := (st_at he (off_ne0' (j := 3) (by decide))).trans h3
  obtain ⟨V3, eV3⟩ : ∃ y, y = sR V2 2 (some (a + 3)) := ⟨_, rfl⟩
  have h0 : S8 a = V3 := by rw [he, st_same, h0, eV3]
  refine ex_nm (fun S10 he => ?_)
  have hF := st_fr (k := 4) (N := 7) he (by decide) hF
  have h1 := (st_at he (off_ne (i := 1) (j := 4) (by decide))).trans h1
  have h2 := (st_at he (off_ne (i := 2) (j := 4) (by decide))).trans h2
  have h3 := (st_at he (off_ne (i := 3) (j := 4) (by decide))).trans h3
  have h0 := (st_at he (off_ne0 (j := 4) (by decide))).trans h0
  have h4 : S10 (a + 4) = barr 1 8 := by rw [he, st_same]
  refine ex_ck (decide_eq_true (by rw [h0]; exact (by simp only [eV3, eV2, eV1, gC_sR, gC_sI, gC_sJ]; exact hraw))) ?_
  refine ex_nm (fun S11 he => ?_)
  have hF := st_fr (k := 0) (N := 7) he (by decide) hF
  have h1 := (st_at he (off_ne0' (j := 1) (by decide))).trans h1
  have h2 := (st_at he (off_ne0' (j := 2) (by decide))).trans h2
  have h3 := (st_at he (off_ne0' (j := 3) (by decide))).trans h3
  have h4 := (st_at he (off_ne0' (j := 4) (by decide))).trans h4
  obtain ⟨V4, eV4⟩ : ∃ y, y = sR V3 3 (some (a + 4)) := ⟨_, rfl⟩
  have h0 : S11 a = V4 := by rw [he, st_same, h0, eV4]
  refine ex_nm (fun S13 he => ?_)
  have hF := st_fr (k := 5) (N := 7) he (by decide) hF
  have h1 := (st_at he (off_ne (i := 1) (j := 5) (by decide))).trans h1
  have h2 := (st_at he (off_ne (i := 2) (j := 5) (by decide))).trans h2
  have h3 := (st_at he (off_ne (i := 3) (j := 5) (by decide))).trans h3
  have h4 := (st_at he (off_ne (i := 4) (j := 5) (by decide))).trans h4
  have h0 := (st_at he (off_ne0 (j := 5) (by decide))).trans h0
  have h5 : S13 (a + 5) = barr 1 8 := by rw [he, st_same]
  refine ex_ck (decide_eq_true (by rw [h0]; exact (by simp only [eV4, eV3, eV2, eV1, gC_sR, gC_sI, gC_sJ]; exact hraw))) ?_
  refine ex_nm (fun S14 he => ?_)
  have hF := st_fr (k := 0) (N := 7) he (by decide) hF
  have h1 := (st_at he (off_ne0' (j := 1) (by decide))).trans h1
  have h2 := (st_at he (off_ne0' (j := 2) (by decide))).trans h2
  have h3 := (st_at he (off_ne0' (j := 3) (by decide))).trans h3
  have h4 := (st_at he (off_ne0' (j := 4) (by decide))).trans h4
  have h5 := (st_at he (off_ne0' (j := 5) (by decide))).trans h5
  obtain ⟨V5, eV5⟩ : ∃ y, y = sR V4 4 (some (a + 5)) := ⟨_, rfl⟩
  have h0 : S14 a = V5 := by rw [he, st_same, h0, eV5]
  unfold f_X3_init_g1
  refine ex_nm (fun S16 he => ?_)
  have hF := st_fr (k := 6) (N := 7) he (by decide) hF
  have h1 := (st_at he (off_ne (i := 1) (j := 6) (by decide))).trans h1
  have h2 := (st_at he (off_ne (i := 2) (j := 6) (by decide))).trans h2
  have h3 := (st_at he (off_ne (i := 3) (j := 6) (by decide))).trans h3
  have h4 := (st_at he (off_ne (i := 4) (j := 6) (by decide))).trans h4
  have h5 := (st_at he (off_ne (i := 5) (j := 6) (by decide))).trans h5
  have h0 := (st_at he (off_ne0 (j := 6) (by decide))).trans h0
  have h6 : S16 (a + 6) = barr 1 5 := by rw [he, st_same]
  refine ex_ck (decide_eq_true (by rw [h0]; exact (by simp only [eV5, eV4, eV3, eV2, eV1, gC_sR, gC_sI, gC_sJ]; exact hraw))) ?_
  refine ex_nm (fun S17 he => ?_)
  have hF := st_fr (k := 0) (N := 7) he (by decide) hF
  have h1 := (st_at he (off_ne0' (j := 1) (by decide))).trans h1
  have h2 := (st_at he (off_ne0' (j := 2) (by decide))).trans h2
  have h3 := (st_at he (off_ne0' (j := 3) (by decide))).trans h3
  have h4 := (st_at he (off_ne0' (j := 4) (by decide))).trans h4
  have h5 := (st_at he (off_ne0' (j := 5) (by decide))).trans h5
  have h6 := (st_at he (off_ne0' (j := 6) (by decide))).trans h6
  obtain ⟨V6, eV6⟩ : ∃ y, y = sR V5 5 (some (a + 6)) := ⟨_, rfl⟩
  have h0 : S17 a = V6 := by rw [he, st_same, h0, eV6]
  refine ex_ck (decide_eq_true (by rw [h0]; exact (by simp only [eV6, eV5, eV4, eV3, eV2, eV1, gC_sR, gC_sI, gC_sJ]; exact hraw))) ?_
  refine ex_nm (fun S19 he => ?_)
  have hF := st_fr (k := 0) (N := 7) he (by decide) hF
  have h1 := (st_at he (off_ne0' (j := 1) (by decide))).trans h1
  have h2 := (st_at he (off_ne0' (j := 2) (by decide))).trans h2
  have h3 := (st_at he (off_ne0' (j := 3) (by decide))).trans h3
  have h4 := (st_at he (off_ne0' (j := 4) (by decide))).trans h4
  have h5 := (st_at he (off_ne0' (j := 5) (by decide))).trans h5
  have h6 := (st_at he (off_ne0' (j := 6) (by decide))).trans h6
  obtain ⟨V7, eV7⟩ : ∃ y, y = sI V6 6 (0 : Int32) := ⟨_, rfl⟩
  have h0 : S19 a = V7 := by rw [he, st_same, h0, eV7]
  refine ex_ck (decide_eq_true (by rw [h0]; exact (by simp only [eV7, eV6, eV5, eV4, eV3, eV2, eV1, gC_sR, gC_sI, gC_sJ]; exact hraw))) ?_
  refine ex_nm (fun S21 he => ?_)
  have hF := st_fr (k := 0) (N := 7) he (by decide) hF
  have h1 := (st_at he (off_ne0' (j := 1) (by decide))).trans h1
  have h2 := (st_at he (off_ne0' (j := 2) (by decide))).trans h2
  have h3 := (st_at he (off_ne0' (j := 3) (by decide))).trans h3
  have h4 := (st_at he (off_ne0' (j := 4) (by decide))).trans h4
  have h5 := (st_at he (off_ne0' (j := 5) (by decide))).trans h5
  have h6 := (st_at he (off_ne0' (j := 6) (by decide))).trans h6
  obtain ⟨V8, eV8⟩ : ∃ y, y = sI V7 7 (1 : Int32) := ⟨_, rfl⟩
  have h0 : S21 a = V8 := by rw [he, st_same, h0, eV8]
  refine ex_ck (decide_eq_true (by rw [h0]; exact (by simp only [eV8, eV7, eV6, eV5, eV4, eV3, eV2, eV1, gC_sR, gC_sI, gC_sJ]; exact hraw))) ?_
  refine ex_nm (fun S23 he => ?_)
  have hF := st_fr (k := 0) (N := 7) he (by decide) hF
  have h1 := (st_at he (off_ne0' (j := 1) (by decide))).trans h1
  have h2 := (st_at he (off_ne0' (j := 2) (by decide))).trans h2
  have h3 := (st_at he (off_ne0' (j := 3) (by decide))).trans h3
  have h4 := (st_at he (off_ne0' (j := 4) (by decide))).trans h4
  have h5 := (st_at he (off_ne0' (j := 5) (by decide))).trans h5
  have h6 := (st_at he (off_ne0' (j := 6) (by decide))).trans h6
  obtain ⟨V9, eV9⟩ : ∃ y, y = sI V8 8 (0 : Int32) := ⟨_, rfl⟩
  have h0 : S23 a = V9 := by rw [he, st_same, h0, eV9]
  refine ex_ck (decide_eq_true (by rw [h0]; exact (by simp only [eV9, eV8, eV7, eV6, eV5, eV4, eV3, eV2, eV1, gC_sR, gC_sI, gC_sJ]; exact hraw))) ?_
  refine ex_nm (fun S25 he => ?_)
  have hF := st_fr (k := 0) (N := 7) he (by decide) hF
  have h1 := (st_at he (off_ne0' (j := 1) (by decide))).trans h1
  have h2 := (st_at he (off_ne0' (j := 2) (by decide))).trans h2
  have h3 := (st_at he (off_ne0' (j := 3) (by decide))).trans h3
  have h4 := (st_at he (off_ne0' (j := 4) (by decide))).trans h4
  have h5 := (st_at he (off_ne0' (j := 5) (by decide))).trans h5
  have h6 := (st_at he (off_ne0' (j := 6) (by decide))).trans h6
  obtain ⟨V10, eV10⟩ : ∃ y, y = sI V9 9 (0 : Int32) := ⟨_, rfl⟩
  have h0 : S25 a = V10 := by rw [he, st_same, h0, eV10]
  refine ex_ck (decide_eq_true (by rw [h0]; exact (by simp only [eV10, eV9, eV8, eV7, eV6, eV5, eV4, eV3, eV2, eV1, gC_sR, gC_sI, gC_sJ]; exact hraw))) ?_
  refine ex_nm (fun S27 he => ?_)
  have hF := st_fr (k := 0) (N := 7) he (by decide) hF
  have h1 := (st_at he (off_ne0' (j := 1) (by decide))).trans h1
  have h2 := (st_at he (off_ne0' (j := 2) (by decide))).trans h2
  have h3 := (st_at he (off_ne0' (j := 3) (by decide))).trans h3
  have h4 := (st_at he (off_ne0' (j := 4) (by decide))).trans h4
  have h5 := (st_at he (off_ne0' (j := 5) (by decide))).trans h5
  have h6 := (st_at he (off_ne0' (j := 6) (by decide))).trans h6
  obtain ⟨V11, eV11⟩ : ∃ y, y = sI V10 10 (0 : Int32) := ⟨_, rfl⟩
  have h0 : S27 a = V11 := by rw [he, st_same, h0, eV11]
  refine ex_ck (decide_eq_true (by rw [h0]; exact (by simp only [eV11, eV10, eV9, eV8, eV7, eV6, eV5, eV4, eV3, eV2, eV1, gC_sR, gC_sI, gC_sJ]; exact hraw))) ?_
  refine ex_nm (fun S29 he => ?_)
  have hF := st_fr (k := 0) (N := 7) he (by decide) hF
  have h1 := (st_at he (off_ne0' (j := 1) (by decide))).trans h1
  have h2 := (st_at he (off_ne0' (j := 2) (by decide))).trans h2
  have h3 := (st_at he (off_ne0' (j := 3) (by decide))).trans h3
  have h4 := (st_at he (off_ne0' (j := 4) (by decide))).trans h4
  have h5 := (st_at he (off_ne0' (j := 5) (by decide))).trans h5
  have h6 := (st_at he (off_ne0' (j := 6) (by decide))).trans h6
  obtain ⟨V12, eV12⟩ : ∃ y, y = sI V11 11 (0 : Int32) := ⟨_, rfl⟩
  have h0 : S29 a = V12 := by rw [he, st_same, h0, eV12]
  unfold f_X3_init_g2
  refine ex_ck (decide_eq_true (by rw [h0]; exact (by simp only [eV12, eV11, eV10, eV9, eV8, eV7, eV6, eV5, eV4, eV3, eV2, eV1, gC_sR, gC_sI, gC_sJ]; exact hraw))) ?_
  refine ex_nm (fun S31 he => ?_)
  have hF := st_fr (k := 0) (N := 7) he (by decide) hF
  have h1 := (st_at he (off_ne0' (j := 1) (by decide))).trans h1
  have h2 := (st_at he (off_ne0' (j := 2) (by decide))).trans h2
  have h3 := (st_at he (off_ne0' (j := 3) (by decide))).trans h3
  have h4 := (st_at he (off_ne0' (j := 4) (by decide))).trans h4
  have h5 := (st_at he (off_ne0' (j := 5) (by decide))).trans h5
  have h6 := (st_at he (off_ne0' (j := 6) (by decide))).trans h6
  obtain ⟨V13, eV13⟩ : ∃ y, y = sI V12 12 (0 : Int32) := ⟨_, rfl⟩
  have h0 : S31 a = V13 := by rw [he, st_same, h0, eV13]
  have rV : ∀ k x, gR V13 k = x → gR (S31 a) k = x := fun k x hx => by rw [h0]; exact hx
  refine ex_ck (frB_of (by rw [h0]; exact (by simp only [eV13, eV12, eV11, eV10, eV9, eV8, eV7, eV6, eV5, eV4, eV3, eV2, eV1, gC_sR, gC_sI, gC_sJ]; exact hraw)) (fun k hk => ?_)) ?_
  · rw [nf_2] at hk
    rcases (show k = 0 ∨ k = 1 ∨ k = 2 ∨ k = 3 ∨ k = 4 ∨ k = 5 ∨ k = 6 ∨ k = 7 ∨ k = 8 ∨ k = 9 ∨ k = 10 ∨ k = 11 ∨ k = 12 by omega) with rfl | rfl | rfl | rfl | rfl | rfl | rfl | rfl | rfl | rfl | rfl | rfl | rfl
    · rw [ds_2_0]
      refine ⟨fun _ => ⟨(rV 0 _ (by simp only [eV13, eV12, eV11, eV10, eV9, eV8, eV7, eV6, eV5, eV4, eV3, eV2, eV1, gR_sR, gR_sI, gR_sJ, Nat.reduceEqDiff, ↓reduceIte])), ?_, ?_⟩, fun h => absurd h (by decide), fun h => absurd h (by decide)⟩
      · show gC (S31 (a + 1)) = _
        rw [h1]
        rfl
      · show _ ∨ gN (S31 (a + 1)) 0 = _
        rw [h1]
        exact Or.inr rfl
    · rw [ds_2_1]
      refine ⟨fun _ => ⟨(rV 1 _ (by simp only [eV13, eV12, eV11, eV10, eV9, eV8, eV7, eV6, eV5, eV4, eV3, eV2, eV1, gR_sR, gR_sI, gR_sJ, Nat.reduceEqDiff, ↓reduceIte])), ?_, ?_⟩, fun h => absurd h (by decide), fun h => absurd h (by decide)⟩
      · show gC (S31 (a + 2)) = _
        rw [h2]
        rfl
      · show _ ∨ gN (S31 (a + 2)) 0 = _
        rw [h2]
        exact Or.inr rfl
    · rw [ds_2_2]
      refine ⟨fun _ => ⟨(rV 2 _ (by simp only [eV13, eV12, eV11, eV10, eV9, eV8, eV7, eV6, eV5, eV4, eV3, eV2, eV1, gR_sR, gR_sI, gR_sJ, Nat.reduceEqDiff, ↓reduceIte])), ?_, ?_⟩, fun h => absurd h (by decide), fun h => absurd h (by decide)⟩
      · show gC (S31 (a + 3)) = _
        rw [h3]
        rfl
      · show _ ∨ gN (S31 (a + 3)) 0 = _
        rw [h3]
        exact Or.inr rfl
    · rw [ds_2_3]
      refine ⟨fun _ => ⟨(rV 3 _ (by simp only [eV13, eV12, eV11, eV10, eV9, eV8, eV7, eV6, eV5, eV4, eV3, eV2, eV1, gR_sR, gR_sI, gR_sJ, Nat.reduceEqDiff, ↓reduceIte])), ?_, ?_⟩, fun h => absurd h (by decide), fun h => absurd h (by decide)⟩
      · show gC (S31 (a + 4)) = _
        rw [h4]
        rfl
      · show _ ∨ gN (S31 (a + 4)) 0 = _
        rw [h4]
        exact Or.inr rfl
    · rw [ds_2_4]
      refine ⟨fun _ => ⟨(rV 4 _ (by simp only [eV13, eV12, eV11, eV10, eV9, eV8, eV7, eV6, eV5, eV4, eV3, eV2, eV1, gR_sR, gR_sI, gR_sJ, Nat.reduceEqDiff, ↓reduceIte])), ?_, ?_⟩, fun h => absurd h (by decide), fun h => absurd h (by decide)⟩
      · show gC (S31 (a + 5)) = _
        rw [h5]
        rfl
      · show _ ∨ gN (S31 (a + 5)) 0 = _
        rw [h5]
        exact Or.inr rfl
    · rw [ds_2_5]
      refine ⟨fun _ => ⟨(rV 5 _ (by simp only [eV13, eV12, eV11, eV10, eV9, eV8, eV7, eV6, eV5, eV4, eV3, eV2, eV1, gR_sR, gR_sI, gR_sJ, Nat.reduceEqDiff, ↓reduceIte])), ?_, ?_⟩, fun h => absurd h (by decide), fun h => absurd h (by decide)⟩
      · show gC (S31 (a + 6)) = _
        rw [h6]
        rfl
      · show _ ∨ gN (S31 (a + 6)) 0 = _
        rw [h6]
        exact Or.inr rfl
    · rw [ds_2_6]
      exact ⟨fun h => absurd h (by decide), fun h => absurd h (by decide), fun h => absurd h (by decide)⟩
    · rw [ds_2_7]
      exact ⟨fun h => absurd h (by decide), fun h => absurd h (by decide), fun h => absurd h (by decide)⟩
    · rw [ds_2_8]
      exact ⟨fun h => absurd h (by decide), fun h => absurd h (by decide), fun h => absurd h (by decide)⟩
    · rw [ds_2_9]
      exact ⟨fun h => absurd h (by decide), fun h => absurd h (by decide), fun h => absurd h (by decide)⟩
    · rw [ds_2_10]
      exact ⟨fun h => absurd h (by decide), fun h => absurd h (by decide), fun h => absurd h (by decide)⟩
    · rw [ds_2_11]
      exact ⟨fun h => absurd h (by decide), fun h => absurd h (by decide), fun h => absurd h (by decide)⟩
    · rw [ds_2_12]
      exact ⟨fun h => absurd h (by decide), fun h => absurd h (by decide), fun h => absurd h (by decide)⟩
  refine ex_nm (fun S34 he => ?_)
  have hF := frm_fr (N := 7) he (by decide +kernel) hF
  have hz : S34 a = frv S31 a 2 28 := by rw [he]; exact if_pos rfl
  refine ex_ck (decide_eq_true (by rw [hz]; rfl)) ?_
  obtain ⟨wh, e1, e2⟩ := x3_clear (fu := fu) (S := S34) (h := a) (by rw [hz]; rfl)
  refine ex_bd e1 ?_
  have hF := st_fr (k := 0) (N := 7) (S2 := st S34 a wh) rfl (by decide) hF
  refine ex_ck (decide_eq_true (by rw [st_same]; exact e2.1.1)) ?_
  refine ⟨_, rfl, ?_⟩
  exact ⟨⟨by rw [st_same]; exact e2.1.1, by rw [st_same]; exact e2⟩, hF⟩
set_option maxHeartbeats 4000000 in
theorem i_X5 (hraw : gC (S a) = 17) : ∃ z, f_X5_init fu G S a g1 = some z ∧ (gC (z a) = 5 ∧ gR (z a) 0 = some g1) ∧ ∀ b, b < a ∨ a + 2 ≤ b → z b = S b := by
  unfold f_X5_init
  have hF : ∀ b, b < a ∨ a + 2 ≤ b → S b = S b := fun _ _ => rfl
  obtain ⟨V0, h0⟩ : ∃ y, S a = y := ⟨_, rfl⟩
  rw [h0] at hraw
  refine ex_nm (fun S1 he => ?_)
  have hF := st_fr (k := 1) (N := 2) he (by decide) hF
  have h0 := (st_at he (off_ne0 (j := 1) (by decide))).trans h0
  have h1 : S1 (a + 1) = barr 1 1000 := by rw [he, st_same]
  refine ex_ck (decide_eq_true (by rw [h0]; exact hraw)) ?_
  refine ex_nm (fun S2 he => ?_)
  have hF := st_fr (k := 0) (N := 2) he (by decide) hF
  have h1 := (st_at he (off_ne0' (j := 1) (by decide))).trans h1
  obtain ⟨V1, eV1⟩ : ∃ y, y = sR V0 1 (some (a + 1)) := ⟨_, rfl⟩
  have h0 : S2 a = V1 := by rw [he, st_same, h0, eV1]
  refine ex_ck (decide_eq_true (by rw [h0]; exact (by simp only [eV1, gC_sR, gC_sI, gC_sJ]; exact hraw))) ?_
  refine ex_nm (fun S4 he => ?_)
  have hF := st_fr (k := 0) (N := 2) he (by decide) hF
  have h1 := (st_at he (off_ne0' (j := 1) (by decide))).trans h1
  obtain ⟨V2, eV2⟩ : ∃ y, y = sI V1 2 (0 : Int32) := ⟨_, rfl⟩
  have h0 : S4 a = V2 := by rw [he, st_same, h0, eV2]
  refine ex_ck (decide_eq_true (by rw [h0]; exact (by simp only [eV2, eV1, gC_sR, gC_sI, gC_sJ]; exact hraw))) ?_
  refine ex_nm (fun S6 he => ?_)
  have hF := st_fr (k := 0) (N := 2) he (by decide) hF
  have h1 := (st_at he (off_ne0' (j := 1) (by decide))).trans h1
  obtain ⟨V3, eV3⟩ : ∃ y, y = sR V2 3 (some (kAd G 28)) := ⟨_, rfl⟩
  have h0 : S6 a = V3 := by rw [he, st_same, h0, eV3]
  refine ex_ck (decide_eq_true (by rw [h0]; exact (by simp only [eV3, eV2, eV1, gC_sR, gC_sI, gC_sJ]; exact hraw))) ?_
  refine ex_nm (fun S8 he => ?_)
  have hF := st_fr (k := 0) (N := 2) he (by decide) hF
  have h1 := (st_at he (off_ne0' (j := 1) (by decide))).trans h1
  obtain ⟨V4, eV4⟩ : ∃ y, y = sR V3 0 (some g1) := ⟨_, rfl⟩
  have h0 : S8 a = V4 := by rw [he, st_same, h0, eV4]
  have rV : ∀ k x, gR V4 k = x → gR (S8 a) k = x := fun k x hx => by rw [h0]; exact hx
  refine ex_ck (frB_of (by rw [h0]; exact (by simp only [eV4, eV3, eV2, eV1, gC_sR, gC_sI, gC_sJ]; exact hraw)) (fun k hk => ?_)) ?_
  · rw [nf_4] at hk
    rcases (show k = 0 ∨ k = 1 ∨ k = 2 ∨ k = 3 by omega) with rfl | rfl | rfl | rfl
    · rw [ds_4_0]
      exact ⟨fun h => absurd h (by decide), fun h => absurd h (by decide), fun h => absurd h (by decide)⟩
    · rw [ds_4_1]
      refine ⟨fun _ => ⟨(rV 1 _ (by simp only [eV4, eV3, eV2, eV1, gR_sR, gR_sI, gR_sJ, Nat.reduceEqDiff, ↓reduceIte])), ?_, ?_⟩, fun h => absurd h (by decide), fun h => absurd h (by decide)⟩
      · show gC (S8 (a + 1)) = _
        rw [h1]
        rfl
      · show _ ∨ gN (S8 (a + 1)) 0 = _
        rw [h1]
        exact Or.inr rfl
    · rw [ds_4_2]
      exact ⟨fun h => absurd h (by decide), fun h => absurd h (by decide), fun h => absurd h (by decide)⟩
    · rw [ds_4_3]
      exact ⟨fun h => absurd h (by decide), fun h => absurd h (by decide), fun _ => (rV 3 _ (by simp only [eV4, eV3, eV2, eV1, gR_sR, gR_sI, gR_sJ, Nat.reduceEqDiff, ↓reduceIte]))⟩
  refine ex_nm (fun S11 he => ?_)
  have hF := frm_fr (N := 2) he (by decide +kernel) hF
  have hz : S11 a = frv S8 a 4 28 := by rw [he]; exact if_pos rfl
  refine ⟨_, rfl, ?_⟩
  exact ⟨⟨by rw [hz]; rfl, (by rw [hz]; show gR (S8 a) 0 = _; rw [h0]; simp only [eV4, eV3, eV2, eV1, gR_sR, gR_sI, gR_sJ, Nat.reduceEqDiff, ↓reduceIte]; try rfl)⟩, hF⟩
set_option maxHeartbeats 4000000 in
theorem i_X2 (hraw : gC (S a) = 14) : ∃ z, f_X2_init fu G S a g1 = some z ∧ (gC (z a) = 2 ∧ gR (z a) 0 = some g1 ∧ gC (z (a + 1)) = 5 ∧ gR (z (a + 1)) 0 = some g1) ∧ ∀ b, b < a ∨ a + 3 ≤ b → z b = S b := by
  unfold f_X2_init
  have hF : ∀ b, b < a ∨ a + 3 ≤ b → S b = S b := fun _ _ => rfl
  obtain ⟨V0, h0⟩ : ∃ y, S a = y := ⟨_, rfl⟩
  rw [h0] at hraw
  refine ex_ck (decide_eq_true (by rw [h0]; exact hraw)) ?_
  refine ex_nm (fun S1 he => ?_)
  have hF := st_fr (k := 0) (N := 3) he (by decide) hF
  obtain ⟨V1, eV1⟩ : ∃ y, y = sR V0 0 (some g1) := ⟨_, rfl⟩
  have h0 : S1 a = V1 := by rw [he, st_same, h0, eV1]
  refine ex_nm (fun S3 he => ?_)
  have hF := st_fr (k := 1) (N := 3) he (by decide) hF
  have h0 := (st_at he (off_ne0 (j := 1) (by decide))).trans h0
  have h1 : S3 (a + 1) = rawo 4 := by rw [he, st_same]
  obtain ⟨S4, e1, e2, he⟩ := i_X5 (fu := fu) (G := G) (S := S3) (a := a + 1) (g1 := g1) (by rw [h1]; rfl)
  refine ex_bd e1 ?_
  have hF := sub_fr (k := 1) (n := 2) (N := 3) he (by decide) hF
  have h0 : S4 a = V1 := (sub_at (k := 1) (n := 2) (j := 0) he (by decide)).trans h0
  obtain ⟨W1, h1⟩ : ∃ y, S4 (a + 1) = y := ⟨_, rfl⟩
  rw [h1] at e2
  have p1 := e2
  refine ex_ck (decide_eq_true (by rw [h0]; exact (by simp only [eV1, gC_sR, gC_sI, gC_sJ]; exact hraw))) ?_
  refine ex_nm (fun S5 he => ?_)
  have hF := st_fr (k := 0) (N := 3) he (by decide) hF
  have h1 := (st_at he (off_ne0' (j := 1) (by decide))).trans h1
  obtain ⟨V2, eV2⟩ : ∃ y, y = sR V1 1 (some (a + 1)) := ⟨_, rfl⟩
  have h0 : S5 a = V2 := by rw [he, st_same, h0, eV2]
  have rV : ∀ k x, gR V2 k = x → gR (S5 a) k = x := fun k x hx => by rw [h0]; exact hx
  refine ex_ck (frB_of (by rw [h0]; exact (by simp only [eV2, eV1, gC_sR, gC_sI, gC_sJ]; exact hraw)) (fun k hk => ?_)) ?_
  · rw [nf_1] at hk
    rcases (show k = 0 ∨ k = 1 by omega) with rfl | rfl
    · rw [ds_1_0]
      exact ⟨fun h => absurd h (by decide), fun h => absurd h (by decide), fun h => absurd h (by decide)⟩
    · rw [ds_1_1]
      exact ⟨fun h => absurd h (by decide), fun _ => (rV 1 _ (by simp only [eV2, eV1, gR_sR, gR_sI, gR_sJ, Nat.reduceEqDiff, ↓reduceIte])), fun h => absurd h (by decide)⟩
  refine ex_nm (fun S8 he => ?_)
  have hF := frm_fr (N := 3) he (by decide +kernel) hF
  have h1 := (frm_at (k := 1) he (by decide) (by decide +kernel)).trans h1
  have hz : S8 a = frv S5 a 1 28 := by rw [he]; exact if_pos rfl
  refine ⟨_, rfl, ?_⟩
  exact ⟨⟨by rw [hz]; rfl, (by rw [hz]; show gR (S5 a) 0 = _; rw [h0]; simp only [eV2, eV1, gR_sR, gR_sI, gR_sJ, Nat.reduceEqDiff, ↓reduceIte]; try rfl), by rw [h1]; exact p1.1, by rw [h1]; exact p1.2⟩, hF⟩
set_option maxHeartbeats 4000000 in
theorem i_X1 (hraw : gC (S a) = 13) : ∃ z, f_X1_init fu G S a = some z ∧ (gC (z a) = 1 ∧ gI (z a) 8 = nI 0 ∧ gI (z a) 9 = nI 0 ∧ gI (z a) 10 = nI 0 ∧ gR (z a) 11 = none ∧ gR (z a) 12 = none ∧ gC (z (a + 8)) = 3 ∧ CHL (z (a + 8)) (q00, lk0)) ∧ ∀ b, b < a ∨ a + 15 ≤ b → z b = S b := by
  unfold f_X1_init
  have hF : ∀ b, b < a ∨ a + 15 ≤ b → S b = S b := fun _ _ => rfl
  obtain ⟨V0, h0⟩ : ∃ y, S a = y := ⟨_, rfl⟩
  rw [h0] at hraw
  refine ex_nm (fun S1 he => ?_)
  have hF := st_fr (k := 1) (N := 15) he (by decide) hF
  have h0 := (st_at he (off_ne0 (j := 1) (by decide))).trans h0
  have h1 : S1 (a + 1) = barr 2 8 := by rw [he, st_same]
  refine ex_ck (decide_eq_true (by rw [h0]; exact hraw)) ?_
  refine ex_nm (fun S2 he => ?_)
  have hF := st_fr (k := 0) (N := 15) he (by decide) hF
  have h1 := (st_at he (off_ne0' (j := 1) (by decide))).trans h1
  obtain ⟨V1, eV1⟩ : ∃ y, y = sR V0 0 (some (a + 1)) := ⟨_, rfl⟩
  have h0 : S2 a = V1 := by rw [he, st_same, h0, eV1]
  refine ex_nm (fun S4 he => ?_)
  have hF := st_fr (k := 2) (N := 15) he (by decide) hF
  have h1 := (st_at he (off_ne (i := 1) (j := 2) (by decide))).trans h1
  have h0 := (st_at he (off_ne0 (j := 2) (by decide))).trans h0
  have h2 : S4 (a + 2) = barr 2 5 := by rw [he, st_same]
  refine ex_ck (decide_eq_true (by rw [h0]; exact (by simp only [eV1, gC_sR, gC_sI, gC_sJ]; exact hraw))) ?_
  refine ex_nm (fun S5 he => ?_)
  have hF := st_fr (k := 0) (N := 15) he (by decide) hF
  have h1 := (st_at he (off_ne0' (j := 1) (by decide))).trans h1
  have h2 := (st_at he (off_ne0' (j := 2) (by decide))).trans h2
  obtain ⟨V2, eV2⟩ : ∃ y, y = sR V1 1 (some (a + 2)) := ⟨_, rfl⟩
  have h0 : S5 a = V2 := by rw [he, st_same, h0, eV2]
  refine ex_nm (fun S7 he => ?_)
  have hF := st_fr (k := 3) (N := 15) he (by decide) hF
  have h1 := (st_at he (off_ne (i := 1) (j := 3) (by decide))).trans h1
  have h2 := (st_at he (off_ne (i := 2) (j := 3) (by decide))).trans h2
  have h0 := (st_at he (off_ne0 (j := 3) (by decide))).trans h0
  have h3 : S7 (a + 3) = barr 2 4 := by rw [he, st_same]
  refine ex_ck (decide_eq_true (by rw [h0]; exact (by simp only [eV2, eV1, gC_sR, gC_sI, gC_sJ]; exact hraw))) ?_
  refine ex_nm (fun S8 he => ?_)
  have hF := st_fr (k := 0) (N := 15) he (by decide) hF
  have h1 := (st_at he (off_ne0' (j := 1) (by decide))).trans h1
  have h2 := (st_at he (off_ne0' (j := 2) (by decide))).trans h2
  have h3 := (st_at he (off_ne0' (j := 3) (by decide))).trans h3
  obtain ⟨V3, eV3⟩ : ∃ y, y = sR V2 2 (some (a + 3)) := ⟨_, rfl⟩
  have h0 : S8 a = V3 := by rw [he, st_same, h0, eV3]
  refine ex_nm (fun S10 he => ?_)
  have hF := st_fr (k := 4) (N := 15) he (by decide) hF
  have h1 := (st_at he (off_ne (i := 1) (j := 4) (by decide))).trans h1
  have h2 := (st_at he (off_ne (i := 2) (j := 4) (by decide))).trans h2
  have h3 := (st_at he (off_ne (i := 3) (j := 4) (by decide))).trans h3
  have h0 := (st_at he (off_ne0 (j := 4) (by decide))).trans h0
  have h4 : S10 (a + 4) = barr 1 5 := by rw [he, st_same]
  refine ex_ck (decide_eq_true (by rw [h0]; exact (by simp only [eV3, eV2, eV1, gC_sR, gC_sI, gC_sJ]; exact hraw))) ?_
  refine ex_nm (fun S11 he => ?_)
  have hF := st_fr (k := 0) (N := 15) he (by decide) hF
  have h1 := (st_at he (off_ne0' (j := 1) (by decide))).trans h1
  have h2 := (st_at he (off_ne0' (j := 2) (by decide))).trans h2
  have h3 := (st_at he (off_ne0' (j := 3) (by decide))).trans h3
  have h4 := (st_at he (off_ne0' (j := 4) (by decide))).trans h4
  obtain ⟨V4, eV4⟩ : ∃ y, y = sR V3 3 (some (a + 4)) := ⟨_, rfl⟩
  have h0 : S11 a = V4 := by rw [he, st_same, h0, eV4]
  refine ex_nm (fun S13 he => ?_)
  have hF := st_fr (k := 5) (N := 15) he (by decide) hF
  have h1 := (st_at he (off_ne (i := 1) (j := 5) (by decide))).trans h1
  have h2 := (st_at he (off_ne (i := 2) (j := 5) (by decide))).trans h2
  have h3 := (st_at he (off_ne (i := 3) (j := 5) (by decide))).trans h3
  have h4 := (st_at he (off_ne (i := 4) (j := 5) (by decide))).trans h4
  have h0 := (st_at he (off_ne0 (j := 5) (by decide))).trans h0
  have h5 : S13 (a + 5) = barr 1 5 := by rw [he, st_same]
  refine ex_ck (decide_eq_true (by rw [h0]; exact (by simp only [eV4, eV3, eV2, eV1, gC_sR, gC_sI, gC_sJ]; exact hraw))) ?_
  refine ex_nm (fun S14 he => ?_)
  have hF := st_fr (k := 0) (N := 15) he (by decide) hF
  have h1 := (st_at he (off_ne0' (j := 1) (by decide))).trans h1
  have h2 := (st_at he (off_ne0' (j := 2) (by decide))).trans h2
  have h3 := (st_at he (off_ne0' (j := 3) (by decide))).trans h3
  have h4 := (st_at he (off_ne0' (j := 4) (by decide))).trans h4
  have h5 := (st_at he (off_ne0' (j := 5) (by decide))).trans h5
  obtain ⟨V5, eV5⟩ : ∃ y, y = sR V4 4 (some (a + 5)) := ⟨_, rfl⟩
  have h0 : S14 a = V5 := by rw [he, st_same, h0, eV5]
  unfold f_X1_init_g1
  refine ex_nm (fun S16 he => ?_)
  have hF := st_fr (k := 6) (N := 15) he (by decide) hF
  have h1 := (st_at he (off_ne (i := 1) (j := 6) (by decide))).trans h1
  have h2 := (st_at he (off_ne (i := 2) (j := 6) (by decide))).trans h2
  have h3 := (st_at he (off_ne (i := 3) (j := 6) (by decide))).trans h3
  have h4 := (st_at he (off_ne (i := 4) (j := 6) (by decide))).trans h4
  have h5 := (st_at he (off_ne (i := 5) (j := 6) (by decide))).trans h5
  have h0 := (st_at he (off_ne0 (j := 6) (by decide))).trans h0
  have h6 : S16 (a + 6) = barr 1 5 := by rw [he, st_same]
  refine ex_ck (decide_eq_true (by rw [h0]; exact (by simp only [eV5, eV4, eV3, eV2, eV1, gC_sR, gC_sI, gC_sJ]; exact hraw))) ?_
  refine ex_nm (fun S17 he => ?_)
  have hF := st_fr (k := 0) (N := 15) he (by decide) hF
  have h1 := (st_at he (off_ne0' (j := 1) (by decide))).trans h1
  have h2 := (st_at he (off_ne0' (j := 2) (by decide))).trans h2
  have h3 := (st_at he (off_ne0' (j := 3) (by decide))).trans h3
  have h4 := (st_at he (off_ne0' (j := 4) (by decide))).trans h4
  have h5 := (st_at he (off_ne0' (j := 5) (by decide))).trans h5
  have h6 := (st_at he (off_ne0' (j := 6) (by decide))).trans h6
  obtain ⟨V6, eV6⟩ : ∃ y, y = sR V5 5 (some (a + 6)) := ⟨_, rfl⟩
  have h0 : S17 a = V6 := by rw [he, st_same, h0, eV6]
  refine ex_nm (fun S19 he => ?_)
  have hF := st_fr (k := 7) (N := 15) he (by decide) hF
  have h1 := (st_at he (off_ne (i := 1) (j := 7) (by decide))).trans h1
  have h2 := (st_at he (off_ne (i := 2) (j := 7) (by decide))).trans h2
  have h3 := (st_at he (off_ne (i := 3) (j := 7) (by decide))).trans h3
  have h4 := (st_at he (off_ne (i := 4) (j := 7) (by decide))).trans h4
  have h5 := (st_at he (off_ne (i := 5) (j := 7) (by decide))).trans h5
  have h6 := (st_at he (off_ne (i := 6) (j := 7) (by decide))).trans h6
  have h0 := (st_at he (off_ne0 (j := 7) (by decide))).trans h0
  have h7 : S19 (a + 7) = barr 1 4 := by rw [he, st_same]
  refine ex_ck (decide_eq_true (by rw [h0]; exact (by simp only [eV6, eV5, eV4, eV3, eV2, eV1, gC_sR, gC_sI, gC_sJ]; exact hraw))) ?_
  refine ex_nm (fun S20 he => ?_)
  have hF := st_fr (k := 0) (N := 15) he (by decide) hF
  have h1 := (st_at he (off_ne0' (j := 1) (by decide))).trans h1
  have h2 := (st_at he (off_ne0' (j := 2) (by decide))).trans h2
  have h3 := (st_at he (off_ne0' (j := 3) (by decide))).trans h3
  have h4 := (st_at he (off_ne0' (j := 4) (by decide))).trans h4
  have h5 := (st_at he (off_ne0' (j := 5) (by decide))).trans h5
  have h6 := (st_at he (off_ne0' (j := 6) (by decide))).trans h6
  have h7 := (st_at he (off_ne0' (j := 7) (by decide))).trans h7
  obtain ⟨V7, eV7⟩ : ∃ y, y = sR V6 6 (some (a + 7)) := ⟨_, rfl⟩
  have h0 : S20 a = V7 := by rw [he, st_same, h0, eV7]
  refine ex_nm (fun S22 he => ?_)
  have hF := st_fr (k := 8) (N := 15) he (by decide) hF
  have h1 := (st_at he (off_ne (i := 1) (j := 8) (by decide))).trans h1
  have h2 := (st_at he (off_ne (i := 2) (j := 8) (by decide))).trans h2
  have h3 := (st_at he (off_ne (i := 3) (j := 8) (by decide))).trans h3
  have h4 := (st_at he (off_ne (i := 4) (j := 8) (by decide))).trans h4
  have h5 := (st_at he (off_ne (i := 5) (j := 8) (by decide))).trans h5
  have h6 := (st_at he (off_ne (i := 6) (j := 8) (by decide))).trans h6
  have h7 := (st_at he (off_ne (i := 7) (j := 8) (by decide))).trans h7
  have h0 := (st_at he (off_ne0 (j := 8) (by decide))).trans h0
  have h8 : S22 (a + 8) = rawo 2 := by rw [he, st_same]
  obtain ⟨S23, e1, e2, he⟩ := i_X3 (fu := fu) (G := G) (S := S22) (a := a + 8) (by rw [h8]; rfl)
  refine ex_bd e1 ?_
  have hF := sub_fr (k := 8) (n := 7) (N := 15) he (by decide) hF
  have h1 := (sub_at (k := 8) (n := 7) (j := 1) he (by decide)).trans h1
  have h2 := (sub_at (k := 8) (n := 7) (j := 2) he (by decide)).trans h2
  have h3 := (sub_at (k := 8) (n := 7) (j := 3) he (by decide)).trans h3
  have h4 := (sub_at (k := 8) (n := 7) (j := 4) he (by decide)).trans h4
  have h5 := (sub_at (k := 8) (n := 7) (j := 5) he (by decide)).trans h5
  have h6 := (sub_at (k := 8) (n := 7) (j := 6) he (by decide)).trans h6
  have h7 := (sub_at (k := 8) (n := 7) (j := 7) he (by decide)).trans h7
  have h0 : S23 a = V7 := (sub_at (k := 8) (n := 7) (j := 0) he (by decide)).trans h0
  obtain ⟨W8, h8⟩ : ∃ y, S23 (a + 8) = y := ⟨_, rfl⟩
  rw [h8] at e2
  have p8 := e2
  refine ex_ck (decide_eq_true (by rw [h0]; exact (by simp only [eV7, eV6, eV5, eV4, eV3, eV2, eV1, gC_sR, gC_sI, gC_sJ]; exact hraw))) ?_
  refine ex_nm (fun S24 he => ?_)
  have hF := st_fr (k := 0) (N := 15) he (by decide) hF
  have h1 := (st_at he (off_ne0' (j := 1) (by decide))).trans h1
  have h2 := (st_at he (off_ne0' (j := 2) (by decide))).trans h2
  have h3 := (st_at he (off_ne0' (j := 3) (by decide))).trans h3
  have h4 := (st_at he (off_ne0' (j := 4) (by decide))).trans h4
  have h5 := (st_at he (off_ne0' (j := 5) (by decide))).trans h5
  have h6 := (st_at he (off_ne0' (j := 6) (by decide))).trans h6
  have h7 := (st_at he (off_ne0' (j := 7) (by decide))).trans h7
  have h8 := (st_at he (off_ne0' (j := 8) (by decide))).trans h8
  obtain ⟨V8, eV8⟩ : ∃ y, y = sR V7 7 (some (a + 8)) := ⟨_, rfl⟩
  have h0 : S24 a = V8 := by rw [he, st_same, h0, eV8]
  refine ex_ck (decide_eq_true (by rw [h0]; exact (by simp only [eV8, eV7, eV6, eV5, eV4, eV3, eV2, eV1, gC_sR, gC_sI, gC_sJ]; exact hraw))) ?_
  refine ex_nm (fun S26 he => ?_)
  have hF := st_fr (k := 0) (N := 15) he (by decide) hF
  have h1 := (st_at he (off_ne0' (j := 1) (by decide))).trans h1
  have h2 := (st_at he (off_ne0' (j := 2) (by decide))).trans h2
  have h3 := (st_at he (off_ne0' (j := 3) (by decide))).trans h3
  have h4 := (st_at he (off_ne0' (j := 4) (by decide))).trans h4
  have h5 := (st_at he (off_ne0' (j := 5) (by decide))).trans h5
  have h6 := (st_at he (off_ne0' (j := 6) (by decide))).trans h6
  have h7 := (st_at he (off_ne0' (j := 7) (by decide))).trans h7
  have h8 := (st_at he (off_ne0' (j := 8) (by decide))).trans h8
  obtain ⟨V9, eV9⟩ : ∃ y, y = sI V8 8 (0 : Int32) := ⟨_, rfl⟩
  have h0 : S26 a = V9 := by rw [he, st_same, h0, eV9]
  refine ex_ck (decide_eq_true (by rw [h0]; exact (by simp only [eV9, eV8, eV7, eV6, eV5, eV4, eV3, eV2, eV1, gC_sR, gC_sI, gC_sJ]; exact hraw))) ?_
  refine ex_nm (fun S28 he => ?_)
  have hF := st_fr (k := 0) (N := 15) he (by decide) hF
  have h1 := (st_at he (off_ne0' (j := 1) (by decide))).trans h1
  have h2 := (st_at he (off_ne0' (j := 2) (by decide))).trans h2
  have h3 := (st_at he (off_ne0' (j := 3) (by decide))).trans h3
  have h4 := (st_at he (off_ne0' (j := 4) (by decide))).trans h4
  have h5 := (st_at he (off_ne0' (j := 5) (by decide))).trans h5
  have h6 := (st_at he (off_ne0' (j := 6) (by decide))).trans h6
  have h7 := (st_at he (off_ne0' (j := 7) (by decide))).trans h7
  have h8 := (st_at he (off_ne0' (j := 8) (by decide))).trans h8
  obtain ⟨V10, eV10⟩ : ∃ y, y = sI V9 9 (0 : Int32) := ⟨_, rfl⟩
  have h0 : S28 a = V10 := by rw [he, st_same, h0, eV10]
  unfold f_X1_init_g2
  refine ex_ck (decide_eq_true (by rw [h0]; exact (by simp only [eV10, eV9, eV8, eV7, eV6, eV5, eV4, eV3, eV2, eV1, gC_sR, gC_sI, gC_sJ]; exact hraw))) ?_
  refine ex_nm (fun S30 he => ?_)
  have hF := st_fr (k := 0) (N := 15) he (by decide) hF
  have h1 := (st_at he (off_ne0' (j := 1) (by decide))).trans h1
  have h2 := (st_at he (off_ne0' (j := 2) (by decide))).trans h2
  have h3 := (st_at he (off_ne0' (j := 3) (by decide))).trans h3
  have h4 := (st_at he (off_ne0' (j := 4) (by decide))).trans h4
  have h5 := (st_at he (off_ne0' (j := 5) (by decide))).trans h5
  have h6 := (st_at he (off_ne0' (j := 6) (by decide))).trans h6
  have h7 := (st_at he (off_ne0' (j := 7) (by decide))).trans h7
  have h8 := (st_at he (off_ne0' (j := 8) (by decide))).trans h8
  obtain ⟨V11, eV11⟩ : ∃ y, y = sI V10 10 (0 : Int32) := ⟨_, rfl⟩
  have h0 : S30 a = V11 := by rw [he, st_same, h0, eV11]
  refine ex_ck (decide_eq_true (by rw [h0]; exact (by simp only [eV11, eV10, eV9, eV8, eV7, eV6, eV5, eV4, eV3, eV2, eV1, gC_sR, gC_sI, gC_sJ]; exact hraw))) ?_
  refine ex_nm (fun S32 he => ?_)
  have hF := st_fr (k := 0) (N := 15) he (by decide) hF
  have h1 := (st_at he (off_ne0' (j := 1) (by decide))).trans h1
  have h2 := (st_at he (off_ne0' (j := 2) (by decide))).trans h2
  have h3 := (st_at he (off_ne0' (j := 3) (by decide))).trans h3
  have h4 := (st_at he (off_ne0' (j := 4) (by decide))).trans h4
  have h5 := (st_at he (off_ne0' (j := 5) (by decide))).trans h5
  have h6 := (st_at he (off_ne0' (j := 6) (by decide))).trans h6
  have h7 := (st_at he (off_ne0' (j := 7) (by decide))).trans h7
  have h8 := (st_at he (off_ne0' (j := 8) (by decide))).trans h8
  obtain ⟨V12, eV12⟩ : ∃ y, y = sR V11 11 none := ⟨_, rfl⟩
  have h0 : S32 a = V12 := by rw [he, st_same, h0, eV12]
  refine ex_ck (decide_eq_true (by rw [h0]; exact (by simp only [eV12, eV11, eV10, eV9, eV8, eV7, eV6, eV5, eV4, eV3, eV2, eV1, gC_sR, gC_sI, gC_sJ]; exact hraw))) ?_
  refine ex_nm (fun S34 he => ?_)
  have hF := st_fr (k := 0) (N := 15) he (by decide) hF
  have h1 := (st_at he (off_ne0' (j := 1) (by decide))).trans h1
  have h2 := (st_at he (off_ne0' (j := 2) (by decide))).trans h2
  have h3 := (st_at he (off_ne0' (j := 3) (by decide))).trans h3
  have h4 := (st_at he (off_ne0' (j := 4) (by decide))).trans h4
  have h5 := (st_at he (off_ne0' (j := 5) (by decide))).trans h5
  have h6 := (st_at he (off_ne0' (j := 6) (by decide))).trans h6
  have h7 := (st_at he (off_ne0' (j := 7) (by decide))).trans h7
  have h8 := (st_at he (off_ne0' (j := 8) (by decide))).trans h8
  obtain ⟨V13, eV13⟩ : ∃ y, y = sR V12 12 none := ⟨_, rfl⟩
  have h0 : S34 a = V13 := by rw [he, st_same, h0, eV13]
  have rV : ∀ k x, gR V13 k = x → gR (S34 a) k = x := fun k x hx => by rw [h0]; exact hx
  refine ex_ck (frB_of (by rw [h0]; exact (by simp only [eV13, eV12, eV11, eV10, eV9, eV8, eV7, eV6, eV5, eV4, eV3, eV2, eV1, gC_sR, gC_sI, gC_sJ]; exact hraw)) (fun k hk => ?_)) ?_
  · rw [nf_0] at hk
    rcases (show k = 0 ∨ k = 1 ∨ k = 2 ∨ k = 3 ∨ k = 4 ∨ k = 5 ∨ k = 6 ∨ k = 7 ∨ k = 8 ∨ k = 9 ∨ k = 10 ∨ k = 11 ∨ k = 12 by omega) with rfl | rfl | rfl | rfl | rfl | rfl | rfl | rfl | rfl | rfl | rfl | rfl | rfl
    · rw [ds_0_0]
      refine ⟨fun _ => ⟨(rV 0 _ (by simp only [eV13, eV12, eV11, eV10, eV9, eV8, eV7, eV6, eV5, eV4, eV3, eV2, eV1, gR_sR, gR_sI, gR_sJ, Nat.reduceEqDiff, ↓reduceIte])), ?_, ?_⟩, fun h => absurd h (by decide), fun h => absurd h (by decide)⟩
      · show gC (S34 (a + 1)) = _
        rw [h1]
        rfl
      · show _ ∨ gN (S34 (a + 1)) 0 = _
        rw [h1]
        exact Or.inr rfl
    · rw [ds_0_1]
      refine ⟨fun _ => ⟨(rV 1 _ (by simp only [eV13, eV12, eV11, eV10, eV9, eV8, eV7, eV6, eV5, eV4, eV3, eV2, eV1, gR_sR, gR_sI, gR_sJ, Nat.reduceEqDiff, ↓reduceIte])), ?_, ?_⟩, fun h => absurd h (by decide), fun h => absurd h (by decide)⟩
      · show gC (S34 (a + 2)) = _
        rw [h2]
        rfl
      · show _ ∨ gN (S34 (a + 2)) 0 = _
        rw [h2]
        exact Or.inr rfl
    · rw [ds_0_2]
      refine ⟨fun _ => ⟨(rV 2 _ (by simp only [eV13, eV12, eV11, eV10, eV9, eV8, eV7, eV6, eV5, eV4, eV3, eV2, eV1, gR_sR, gR_sI, gR_sJ, Nat.reduceEqDiff, ↓reduceIte])), ?_, ?_⟩, fun h => absurd h (by decide), fun h => absurd h (by decide)⟩
      · show gC (S34 (a + 3)) = _
        rw [h3]
        rfl
      · show _ ∨ gN (S34 (a + 3)) 0 = _
        rw [h3]
        exact Or.inr rfl
    · rw [ds_0_3]
      refine ⟨fun _ => ⟨(rV 3 _ (by simp only [eV13, eV12, eV11, eV10, eV9, eV8, eV7, eV6, eV5, eV4, eV3, eV2, eV1, gR_sR, gR_sI, gR_sJ, Nat.reduceEqDiff, ↓reduceIte])), ?_, ?_⟩, fun h => absurd h (by decide), fun h => absurd h (by decide)⟩
      · show gC (S34 (a + 4)) = _
        rw [h4]
        rfl
      · show _ ∨ gN (S34 (a + 4)) 0 = _
        rw [h4]
        exact Or.inr rfl
    · rw [ds_0_4]
      refine ⟨fun _ => ⟨(rV 4 _ (by simp only [eV13, eV12, eV11, eV10, eV9, eV8, eV7, eV6, eV5, eV4, eV3, eV2, eV1, gR_sR, gR_sI, gR_sJ, Nat.reduceEqDiff, ↓reduceIte])), ?_, ?_⟩, fun h => absurd h (by decide), fun h => absurd h (by decide)⟩
      · show gC (S34 (a + 5)) = _
        rw [h5]
        rfl
      · show _ ∨ gN (S34 (a + 5)) 0 = _
        rw [h5]
        exact Or.inr rfl
    · rw [ds_0_5]
      refine ⟨fun _ => ⟨(rV 5 _ (by simp only [eV13, eV12, eV11, eV10, eV9, eV8, eV7, eV6, eV5, eV4, eV3, eV2, eV1, gR_sR, gR_sI, gR_sJ, Nat.reduceEqDiff, ↓reduceIte])), ?_, ?_⟩, fun h => absurd h (by decide), fun h => absurd h (by decide)⟩
      · show gC (S34 (a + 6)) = _
        rw [h6]
        rfl
      · show _ ∨ gN (S34 (a + 6)) 0 = _
        rw [h6]
        exact Or.inr rfl
    · rw [ds_0_6]
      refine ⟨fun _ => ⟨(rV 6 _ (by simp only [eV13, eV12, eV11, eV10, eV9, eV8, eV7, eV6, eV5, eV4, eV3, eV2, eV1, gR_sR, gR_sI, gR_sJ, Nat.reduceEqDiff, ↓reduceIte])), ?_, ?_⟩, fun h => absurd h (by decide), fun h => absurd h (by decide)⟩
      · show gC (S34 (a + 7)) = _
        rw [h7]
        rfl
      · show _ ∨ gN (S34 (a + 7)) 0 = _
        rw [h7]
        exact Or.inr rfl
    · rw [ds_0_7]
      exact ⟨fun h => absurd h (by decide), fun _ => (rV 7 _ (by simp only [eV13, eV12, eV11, eV10, eV9, eV8, eV7, eV6, eV5, eV4, eV3, eV2, eV1, gR_sR, gR_sI, gR_sJ, Nat.reduceEqDiff, ↓reduceIte])), fun h => absurd h (by decide)⟩
    · rw [ds_0_8]
      exact ⟨fun h => absurd h (by decide), fun h => absurd h (by decide), fun h => absurd h (by decide)⟩
    · rw [ds_0_9]
      exact ⟨fun h => absurd h (by decide), fun h => absurd h (by decide), fun h => absurd h (by decide)⟩
    · rw [ds_0_10]
      exact ⟨fun h => absurd h (by decide), fun h => absurd h (by decide), fun h => absurd h (by decide)⟩
    · rw [ds_0_11]
      exact ⟨fun h => absurd h (by decide), fun h => absurd h (by decide), fun h => absurd h (by decide)⟩
    · rw [ds_0_12]
      exact ⟨fun h => absurd h (by decide), fun h => absurd h (by decide), fun h => absurd h (by decide)⟩
  refine ex_nm (fun S37 he => ?_)
  have hF := frm_fr (N := 15) he (by decide +kernel) hF
  have h8 := (frm_at (k := 8) he (by decide) (by decide +kernel)).trans h8
  have hz : S37 a = frv S34 a 0 28 := by rw [he]; exact if_pos rfl
  refine ⟨_, rfl, ?_⟩
  exact ⟨⟨by rw [hz]; rfl, (by rw [hz, frw_I (by decide +kernel)]; show gI (S34 a) 8 = _; rw [h0]; simp only [eV13, eV12, eV11, eV10, eV9, eV8, eV7, eV6, eV5, eV4, eV3, eV2, eV1, gI_sR, gI_sI, gI_sJ, Nat.reduceEqDiff, ↓reduceIte]; try rfl), (by rw [hz, frw_I (by decide +kernel)]; show gI (S34 a) 9 = _; rw [h0]; simp only [eV13, eV12, eV11, eV10, eV9, eV8, eV7, eV6, eV5, eV4, eV3, eV2, eV1, gI_sR, gI_sI, gI_sJ, Nat.reduceEqDiff, ↓reduceIte]; try rfl), (by rw [hz, frw_I (by decide +kernel)]; show gI (S34 a) 10 = _; rw [h0]; simp only [eV13, eV12, eV11, eV10, eV9, eV8, eV7, eV6, eV5, eV4, eV3, eV2, eV1, gI_sR, gI_sI, gI_sJ, Nat.reduceEqDiff, ↓reduceIte]; try rfl), (by rw [hz]; show gR (S34 a) 11 = _; rw [h0]; simp only [eV13, eV12, eV11, eV10, eV9, eV8, eV7, eV6, eV5, eV4, eV3, eV2, eV1, gR_sR, gR_sI, gR_sJ, Nat.reduceEqDiff, ↓reduceIte]; try rfl), (by rw [hz]; show gR (S34 a) 12 = _; rw [h0]; simp only [eV13, eV12, eV11, eV10, eV9, eV8, eV7, eV6, eV5, eV4, eV3, eV2, eV1, gR_sR, gR_sI, gR_sJ, Nat.reduceEqDiff, ↓reduceIte]; try rfl), by rw [h8]; exact p8.1, by rw [h8]; exact p8.2⟩, hF⟩
set_option maxHeartbeats 4000000 in
theorem i_X6 (hraw : gC (S a) = 18) : ∃ z, f_X6_init fu G S a = some z ∧ (gC (z a) = 6 ∧ gI (z a) 4 = nI 0) ∧ ∀ b, b < a ∨ a + 5 ≤ b → z b = S b := by
  unfold f_X6_init
  have hF : ∀ b, b < a ∨ a + 5 ≤ b → S b = S b := fun _ _ => rfl
  obtain ⟨V0, h0⟩ : ∃ y, S a = y := ⟨_, rfl⟩
  rw [h0] at hraw
  refine ex_nm (fun S1 he => ?_)
  have hF := st_fr (k := 1) (N := 5) he (by decide) hF
  have h0 := (st_at he (off_ne0 (j := 1) (by decide))).trans h0
  have h1 : S1 (a + 1) = barr 1 30 := by rw [he, st_same]
  refine ex_ck (decide_eq_true (by rw [h0]; exact hraw)) ?_
  refine ex_nm (fun S2 he => ?_)
  have hF := st_fr (k := 0) (N := 5) he (by decide) hF
  have h1 := (st_at he (off_ne0' (j := 1) (by decide))).trans h1
  obtain ⟨V1, eV1⟩ : ∃ y, y = sR V0 0 (some (a + 1)) := ⟨_, rfl⟩
  have h0 : S2 a = V1 := by rw [he, st_same, h0, eV1]
  refine ex_nm (fun S4 he => ?_)
  have hF := st_fr (k := 2) (N := 5) he (by decide) hF
  have h1 := (st_at he (off_ne (i := 1) (j := 2) (by decide))).trans h1
  have h0 := (st_at he (off_ne0 (j := 2) (by decide))).trans h0
  have h2 : S4 (a + 2) = barr 1 30 := by rw [he, st_same]
  refine ex_ck (decide_eq_true (by rw [h0]; exact (by simp only [eV1, gC_sR, gC_sI, gC_sJ]; exact hraw))) ?_
  refine ex_nm (fun S5 he => ?_)
  have hF := st_fr (k := 0) (N := 5) he (by decide) hF
  have h1 := (st_at he (off_ne0' (j := 1) (by decide))).trans h1
  have h2 := (st_at he (off_ne0' (j := 2) (by decide))).trans h2
  obtain ⟨V2, eV2⟩ : ∃ y, y = sR V1 1 (some (a + 2)) := ⟨_, rfl⟩
  have h0 : S5 a = V2 := by rw [he, st_same, h0, eV2]
  refine ex_nm (fun S7 he => ?_)
  have hF := st_fr (k := 3) (N := 5) he (by decide) hF
  have h1 := (st_at he (off_ne (i := 1) (j := 3) (by decide))).trans h1
  have h2 := (st_at he (off_ne (i := 2) (j := 3) (by decide))).trans h2
  have h0 := (st_at he (off_ne0 (j := 3) (by decide))).trans h0
  have h3 : S7 (a + 3) = barr 1 30 := by rw [he, st_same]
  refine ex_ck (decide_eq_true (by rw [h0]; exact (by simp only [eV2, eV1, gC_sR, gC_sI, gC_sJ]; exact hraw))) ?_
  refine ex_nm (fun S8 he => ?_)
  have hF := st_fr (k := 0) (N := 5) he (by decide) hF
  have h1 := (st_at he (off_ne0' (j := 1) (by decide))).trans h1
  have h2 := (st_at he (off_ne0' (j := 2) (by decide))).trans h2
  have h3 := (st_at he (off_ne0' (j := 3) (by decide))).trans h3
  obtain ⟨V3, eV3⟩ : ∃ y, y = sR V2 2 (some (a + 3)) := ⟨_, rfl⟩
  have h0 : S8 a = V3 := by rw [he, st_same, h0, eV3]
  refine ex_nm (fun S10 he => ?_)
  have hF := st_fr (k := 4) (N := 5) he (by decide) hF
  have h1 := (st_at he (off_ne (i := 1) (j := 4) (by decide))).trans h1
  have h2 := (st_at he (off_ne (i := 2) (j := 4) (by decide))).trans h2
  have h3 := (st_at he (off_ne (i := 3) (j := 4) (by decide))).trans h3
  have h0 := (st_at he (off_ne0 (j := 4) (by decide))).trans h0
  have h4 : S10 (a + 4) = barr 1 30 := by rw [he, st_same]
  refine ex_ck (decide_eq_true (by rw [h0]; exact (by simp only [eV3, eV2, eV1, gC_sR, gC_sI, gC_sJ]; exact hraw))) ?_
  refine ex_nm (fun S11 he => ?_)
  have hF := st_fr (k := 0) (N := 5) he (by decide) hF
  have h1 := (st_at he (off_ne0' (j := 1) (by decide))).trans h1
  have h2 := (st_at he (off_ne0' (j := 2) (by decide))).trans h2
  have h3 := (st_at he (off_ne0' (j := 3) (by decide))).trans h3
  have h4 := (st_at he (off_ne0' (j := 4) (by decide))).trans h4
  obtain ⟨V4, eV4⟩ : ∃ y, y = sR V3 3 (some (a + 4)) := ⟨_, rfl⟩
  have h0 : S11 a = V4 := by rw [he, st_same, h0, eV4]
  refine ex_ck (decide_eq_true (by rw [h0]; exact (by simp only [eV4, eV3, eV2, eV1, gC_sR, gC_sI, gC_sJ]; exact hraw))) ?_
  refine ex_nm (fun S13 he => ?_)
  have hF := st_fr (k := 0) (N := 5) he (by decide) hF
  have h1 := (st_at he (off_ne0' (j := 1) (by decide))).trans h1
  have h2 := (st_at he (off_ne0' (j := 2) (by decide))).trans h2
  have h3 := (st_at he (off_ne0' (j := 3) (by decide))).trans h3
  have h4 := (st_at he (off_ne0' (j := 4) (by decide))).trans h4
  obtain ⟨V5, eV5⟩ : ∃ y, y = sI V4 4 (0 : Int32) := ⟨_, rfl⟩
  have h0 : S13 a = V5 := by rw [he, st_same, h0, eV5]
  have rV : ∀ k x, gR V5 k = x → gR (S13 a) k = x := fun k x hx => by rw [h0]; exact hx
  refine ex_ck (frB_of (by rw [h0]; exact (by simp only [eV5, eV4, eV3, eV2, eV1, gC_sR, gC_sI, gC_sJ]; exact hraw)) (fun k hk => ?_)) ?_
  · rw [nf_5] at hk
    rcases (show k = 0 ∨ k = 1 ∨ k = 2 ∨ k = 3 ∨ k = 4 by omega) with rfl | rfl | rfl | rfl | rfl
    · rw [ds_5_0]
      refine ⟨fun _ => ⟨(rV 0 _ (by simp only [eV5, eV4, eV3, eV2, eV1, gR_sR, gR_sI, gR_sJ, Nat.reduceEqDiff, ↓reduceIte])), ?_, ?_⟩, fun h => absurd h (by decide), fun h => absurd h (by decide)⟩
      · show gC (S13 (a + 1)) = _
        rw [h1]
        rfl
      · show _ ∨ gN (S13 (a + 1)) 0 = _
        rw [h1]
        exact Or.inr rfl
    · rw [ds_5_1]
      refine ⟨fun _ => ⟨(rV 1 _ (by simp only [eV5, eV4, eV3, eV2, eV1, gR_sR, gR_sI, gR_sJ, Nat.reduceEqDiff, ↓reduceIte])), ?_, ?_⟩, fun h => absurd h (by decide), fun h => absurd h (by decide)⟩
      · show gC (S13 (a + 2)) = _
        rw [h2]
        rfl
      · show _ ∨ gN (S13 (a + 2)) 0 = _
        rw [h2]
        exact Or.inr rfl
    · rw [ds_5_2]
      refine ⟨fun _ => ⟨(rV 2 _ (by simp only [eV5, eV4, eV3, eV2, eV1, gR_sR, gR_sI, gR_sJ, Nat.reduceEqDiff, ↓reduceIte])), ?_, ?_⟩, fun h => absurd h (by decide), fun h => absurd h (by decide)⟩
      · show gC (S13 (a + 3)) = _
        rw [h3]
        rfl
      · show _ ∨ gN (S13 (a + 3)) 0 = _
        rw [h3]
        exact Or.inr rfl
    · rw [ds_5_3]
      refine ⟨fun _ => ⟨(rV 3 _ (by simp only [eV5, eV4, eV3, eV2, eV1, gR_sR, gR_sI, gR_sJ, Nat.reduceEqDiff, ↓reduceIte])), ?_, ?_⟩, fun h => absurd h (by decide), fun h => absurd h (by decide)⟩
      · show gC (S13 (a + 4)) = _
        rw [h4]
        rfl
      · show _ ∨ gN (S13 (a + 4)) 0 = _
        rw [h4]
        exact Or.inr rfl
    · rw [ds_5_4]
      exact ⟨fun h => absurd h (by decide), fun h => absurd h (by decide), fun h => absurd h (by decide)⟩
  refine ex_nm (fun S16 he => ?_)
  have hF := frm_fr (N := 5) he (by decide +kernel) hF
  have hz : S16 a = frv S13 a 5 28 := by rw [he]; exact if_pos rfl
  refine ⟨_, rfl, ?_⟩
  exact ⟨⟨by rw [hz]; rfl, (by rw [hz, frw_I (by decide +kernel)]; show gI (S13 a) 4 = _; rw [h0]; simp only [eV5, eV4, eV3, eV2, eV1, gI_sR, gI_sI, gI_sJ, Nat.reduceEqDiff, ↓reduceIte]; try rfl)⟩, hF⟩
set_option maxHeartbeats 4000000 in
theorem i_X7 (hraw : gC (S a) = 19) : ∃ z, f_X7_init fu G S a = some z ∧ gC (z a) = 7 ∧ ∀ b, b < a ∨ a + 3 ≤ b → z b = S b := by
  unfold f_X7_init
  have hF : ∀ b, b < a ∨ a + 3 ≤ b → S b = S b := fun _ _ => rfl
  obtain ⟨V0, h0⟩ : ∃ y, S a = y := ⟨_, rfl⟩
  rw [h0] at hraw
  refine ex_nm (fun S1 he => ?_)
  have hF := st_fr (k := 1) (N := 3) he (by decide) hF
  have h0 := (st_at he (off_ne0 (j := 1) (by decide))).trans h0
  have h1 : S1 (a + 1) = barr 1 8 := by rw [he, st_same]
  refine ex_ck (decide_eq_true (by rw [h0]; exact hraw)) ?_
  refine ex_nm (fun S2 he => ?_)
  have hF := st_fr (k := 0) (N := 3) he (by decide) hF
  have h1 := (st_at he (off_ne0' (j := 1) (by decide))).trans h1
  obtain ⟨V1, eV1⟩ : ∃ y, y = sR V0 0 (some (a + 1)) := ⟨_, rfl⟩
  have h0 : S2 a = V1 := by rw [he, st_same, h0, eV1]
  refine ex_nm (fun S4 he => ?_)
  have hF := st_fr (k := 2) (N := 3) he (by decide) hF
  have h1 := (st_at he (off_ne (i := 1) (j := 2) (by decide))).trans h1
  have h0 := (st_at he (off_ne0 (j := 2) (by decide))).trans h0
  have h2 : S4 (a + 2) = barr 1 243 := by rw [he, st_same]
  refine ex_ck (decide_eq_true (by rw [h0]; exact (by simp only [eV1, gC_sR, gC_sI, gC_sJ]; exact hraw))) ?_
  refine ex_nm (fun S5 he => ?_)
  have hF := st_fr (k := 0) (N := 3) he (by decide) hF
  have h1 := (st_at he (off_ne0' (j := 1) (by decide))).trans h1
  have h2 := (st_at he (off_ne0' (j := 2) (by decide))).trans h2
  obtain ⟨V2, eV2⟩ : ∃ y, y = sR V1 1 (some (a + 2)) := ⟨_, rfl⟩
  have h0 : S5 a = V2 := by rw [he, st_same, h0, eV2]
  refine ex_ck (decide_eq_true (by rw [h0]; exact (by simp only [eV2, eV1, gC_sR, gC_sI, gC_sJ]; exact hraw))) ?_
  refine ex_nm (fun S7 he => ?_)
  have hF := st_fr (k := 0) (N := 3) he (by decide) hF
  have h1 := (st_at he (off_ne0' (j := 1) (by decide))).trans h1
  have h2 := (st_at he (off_ne0' (j := 2) (by decide))).trans h2
  obtain ⟨V3, eV3⟩ : ∃ y, y = sI V2 2 (1 : Int32) := ⟨_, rfl⟩
  have h0 : S7 a = V3 := by rw [he, st_same, h0, eV3]
  have rV : ∀ k x, gR V3 k = x → gR (S7 a) k = x := fun k x hx => by rw [h0]; exact hx
  refine ex_ck (frB_of (by rw [h0]; exact (by simp only [eV3, eV2, eV1, gC_sR, gC_sI, gC_sJ]; exact hraw)) (fun k hk => ?_)) ?_
  · rw [nf_6] at hk
    rcases (show k = 0 ∨ k = 1 ∨ k = 2 by omega) with rfl | rfl | rfl
    · rw [ds_6_0]
      refine ⟨fun _ => ⟨(rV 0 _ (by simp only [eV3, eV2, eV1, gR_sR, gR_sI, gR_sJ, Nat.reduceEqDiff, ↓reduceIte])), ?_, ?_⟩, fun h => absurd h (by decide), fun h => absurd h (by decide)⟩
      · show gC (S7 (a + 1)) = _
        rw [h1]
        rfl
      · show _ ∨ gN (S7 (a + 1)) 0 = _
        rw [h1]
        exact Or.inr rfl
    · rw [ds_6_1]
      refine ⟨fun _ => ⟨(rV 1 _ (by simp only [eV3, eV2, eV1, gR_sR, gR_sI, gR_sJ, Nat.reduceEqDiff, ↓reduceIte])), ?_, ?_⟩, fun h => absurd h (by decide), fun h => absurd h (by decide)⟩
      · show gC (S7 (a + 2)) = _
        rw [h2]
        rfl
      · show _ ∨ gN (S7 (a + 2)) 0 = _
        rw [h2]
        exact Or.inr rfl
    · rw [ds_6_2]
      exact ⟨fun h => absurd h (by decide), fun h => absurd h (by decide), fun h => absurd h (by decide)⟩
  refine ex_nm (fun S10 he => ?_)
  have hF := frm_fr (N := 3) he (by decide +kernel) hF
  have hz : S10 a = frv S7 a 6 28 := by rw [he]; exact if_pos rfl
  refine ⟨_, rfl, ?_⟩
  exact ⟨by rw [hz]; rfl, hF⟩
set_option maxHeartbeats 4000000 in
theorem i_X9 (hraw : gC (S a) = 21) : ∃ z, f_X9_init fu G S a = some z ∧ gC (z a) = 9 ∧ ∀ b, b < a ∨ a + 4 ≤ b → z b = S b := by
  unfold f_X9_init
  have hF : ∀ b, b < a ∨ a + 4 ≤ b → S b = S b := fun _ _ => rfl
  obtain ⟨V0, h0⟩ : ∃ y, S a = y := ⟨_, rfl⟩
  rw [h0] at hraw
  refine ex_nm (fun S1 he => ?_)
  have hF := st_fr (k := 1) (N := 4) he (by decide) hF
  have h0 := (st_at he (off_ne0 (j := 1) (by decide))).trans h0
  have h1 : S1 (a + 1) = barr 1 6 := by rw [he, st_same]
  refine ex_ck (decide_eq_true (by rw [h0]; exact hraw)) ?_
  refine ex_nm (fun S2 he => ?_)
  have hF := st_fr (k := 0) (N := 4) he (by decide) hF
  have h1 := (st_at he (off_ne0' (j := 1) (by decide))).trans h1
  obtain ⟨V1, eV1⟩ : ∃ y, y = sR V0 0 (some (a + 1)) := ⟨_, rfl⟩
  have h0 : S2 a = V1 := by rw [he, st_same, h0, eV1]
  refine ex_nm (fun S4 he => ?_)
  have hF := st_fr (k := 2) (N := 4) he (by decide) hF
  have h1 := (st_at he (off_ne (i := 1) (j := 2) (by decide))).trans h1
  have h0 := (st_at he (off_ne0 (j := 2) (by decide))).trans h0
  have h2 : S4 (a + 2) = barr 1 6 := by rw [he, st_same]
  refine ex_ck (decide_eq_true (by rw [h0]; exact (by simp only [eV1, gC_sR, gC_sI, gC_sJ]; exact hraw))) ?_
  refine ex_nm (fun S5 he => ?_)
  have hF := st_fr (k := 0) (N := 4) he (by decide) hF
  have h1 := (st_at he (off_ne0' (j := 1) (by decide))).trans h1
  have h2 := (st_at he (off_ne0' (j := 2) (by decide))).trans h2
  obtain ⟨V2, eV2⟩ : ∃ y, y = sR V1 1 (some (a + 2)) := ⟨_, rfl⟩
  have h0 : S5 a = V2 := by rw [he, st_same, h0, eV2]
  refine ex_nm (fun S7 he => ?_)
  have hF := st_fr (k := 3) (N := 4) he (by decide) hF
  have h1 := (st_at he (off_ne (i := 1) (j := 3) (by decide))).trans h1
  have h2 := (st_at he (off_ne (i := 2) (j := 3) (by decide))).trans h2
  have h0 := (st_at he (off_ne0 (j := 3) (by decide))).trans h0
  have h3 : S7 (a + 3) = barr 1 6 := by rw [he, st_same]
  refine ex_ck (decide_eq_true (by rw [h0]; exact (by simp only [eV2, eV1, gC_sR, gC_sI, gC_sJ]; exact hraw))) ?_
  refine ex_nm (fun S8 he => ?_)
  have hF := st_fr (k := 0) (N := 4) he (by decide) hF
  have h1 := (st_at he (off_ne0' (j := 1) (by decide))).trans h1
  have h2 := (st_at he (off_ne0' (j := 2) (by decide))).trans h2
  have h3 := (st_at he (off_ne0' (j := 3) (by decide))).trans h3
  obtain ⟨V3, eV3⟩ : ∃ y, y = sR V2 2 (some (a + 3)) := ⟨_, rfl⟩
  have h0 : S8 a = V3 := by rw [he, st_same, h0, eV3]
  refine ex_ck (decide_eq_true (by rw [h0]; exact (by simp only [eV3, eV2, eV1, gC_sR, gC_sI, gC_sJ]; exact hraw))) ?_
  refine ex_nm (fun S10 he => ?_)
  have hF := st_fr (k := 0) (N := 4) he (by decide) hF
  have h1 := (st_at he (off_ne0' (j := 1) (by decide))).trans h1
  have h2 := (st_at he (off_ne0' (j := 2) (by decide))).trans h2
  have h3 := (st_at he (off_ne0' (j := 3) (by decide))).trans h3
  obtain ⟨V4, eV4⟩ : ∃ y, y = sI V3 3 (0 : Int32) := ⟨_, rfl⟩
  have h0 : S10 a = V4 := by rw [he, st_same, h0, eV4]
  refine ex_ck (decide_eq_true (by rw [h0]; exact (by simp only [eV4, eV3, eV2, eV1, gC_sR, gC_sI, gC_sJ]; exact hraw))) ?_
  refine ex_nm (fun S12 he => ?_)
  have hF := st_fr (k := 0) (N := 4) he (by decide) hF
  have h1 := (st_at he (off_ne0' (j := 1) (by decide))).trans h1
  have h2 := (st_at he (off_ne0' (j := 2) (by decide))).trans h2
  have h3 := (st_at he (off_ne0' (j := 3) (by decide))).trans h3
  obtain ⟨V5, eV5⟩ : ∃ y, y = sI V4 4 (0 : Int32) := ⟨_, rfl⟩
  have h0 : S12 a = V5 := by rw [he, st_same, h0, eV5]
  refine ex_ck (decide_eq_true (by rw [h0]; exact (by simp only [eV5, eV4, eV3, eV2, eV1, gC_sR, gC_sI, gC_sJ]; exact hraw))) ?_
  refine ex_nm (fun S14 he => ?_)
  have hF := st_fr (k := 0) (N := 4) he (by decide) hF
  have h1 := (st_at he (off_ne0' (j := 1) (by decide))).trans h1
  have h2 := (st_at he (off_ne0' (j := 2) (by decide))).trans h2
  have h3 := (st_at he (off_ne0' (j := 3) (by decide))).trans h3
  obtain ⟨V6, eV6⟩ : ∃ y, y = sI V5 5 (0 : Int32) := ⟨_, rfl⟩
  have h0 : S14 a = V6 := by rw [he, st_same, h0, eV6]
  have rV : ∀ k x, gR V6 k = x → gR (S14 a) k = x := fun k x hx => by rw [h0]; exact hx
  refine ex_ck (frB_of (by rw [h0]; exact (by simp only [eV6, eV5, eV4, eV3, eV2, eV1, gC_sR, gC_sI, gC_sJ]; exact hraw)) (fun k hk => ?_)) ?_
  · rw [nf_8] at hk
    rcases (show k = 0 ∨ k = 1 ∨ k = 2 ∨ k = 3 ∨ k = 4 ∨ k = 5 by omega) with rfl | rfl | rfl | rfl | rfl | rfl
    · rw [ds_8_0]
      refine ⟨fun _ => ⟨(rV 0 _ (by simp only [eV6, eV5, eV4, eV3, eV2, eV1, gR_sR, gR_sI, gR_sJ, Nat.reduceEqDiff, ↓reduceIte])), ?_, ?_⟩, fun h => absurd h (by decide), fun h => absurd h (by decide)⟩
      · show gC (S14 (a + 1)) = _
        rw [h1]
        rfl
      · show _ ∨ gN (S14 (a + 1)) 0 = _
        rw [h1]
        exact Or.inr rfl
    · rw [ds_8_1]
      refine ⟨fun _ => ⟨(rV 1 _ (by simp only [eV6, eV5, eV4, eV3, eV2, eV1, gR_sR, gR_sI, gR_sJ, Nat.reduceEqDiff, ↓reduceIte])), ?_, ?_⟩, fun h => absurd h (by decide), fun h => absurd h (by decide)⟩
      · show gC (S14 (a + 2)) = _
        rw [h2]
        rfl
      · show _ ∨ gN (S14 (a + 2)) 0 = _
        rw [h2]
        exact Or.inr rfl
    · rw [ds_8_2]
      refine ⟨fun _ => ⟨(rV 2 _ (by simp only [eV6, eV5, eV4, eV3, eV2, eV1, gR_sR, gR_sI, gR_sJ, Nat.reduceEqDiff, ↓reduceIte])), ?_, ?_⟩, fun h => absurd h (by decide), fun h => absurd h (by decide)⟩
      · show gC (S14 (a + 3)) = _
        rw [h3]
        rfl
      · show _ ∨ gN (S14 (a + 3)) 0 = _
        rw [h3]
        exact Or.inr rfl
    · rw [ds_8_3]
      exact ⟨fun h => absurd h (by decide), fun h => absurd h (by decide), fun h => absurd h (by decide)⟩
    · rw [ds_8_4]
      exact ⟨fun h => absurd h (by decide), fun h => absurd h (by decide), fun h => absurd h (by decide)⟩
    · rw [ds_8_5]
      exact ⟨fun h => absurd h (by decide), fun h => absurd h (by decide), fun h => absurd h (by decide)⟩
  refine ex_nm (fun S17 he => ?_)
  have hF := frm_fr (N := 4) he (by decide +kernel) hF
  have hz : S17 a = frv S14 a 8 28 := by rw [he]; exact if_pos rfl
  refine ⟨_, rfl, ?_⟩
  exact ⟨by rw [hz]; rfl, hF⟩
set_option maxHeartbeats 4000000 in
theorem i_X11 (hraw : gC (S a) = 22) : ∃ z, f_X11_init fu G S a = some z ∧ (gC (z a) = 10 ∧ gC (z (a + 1)) = 3) ∧ ∀ b, b < a ∨ a + 8 ≤ b → z b = S b := by
  unfold f_X11_init
  have hF : ∀ b, b < a ∨ a + 8 ≤ b → S b = S b := fun _ _ => rfl
  obtain ⟨V0, h0⟩ : ∃ y, S a = y := ⟨_, rfl⟩
  rw [h0] at hraw
  refine ex_nm (fun S1 he => ?_)
  have hF := st_fr (k := 1) (N := 8) he (by decide) hF
  have h0 := (st_at he (off_ne0 (j := 1) (by decide))).trans h0
  have h1 : S1 (a + 1) = rawo 2 := by rw [he, st_same]
  obtain ⟨S2, e1, e2, he⟩ := i_X3 (fu := fu) (G := G) (S := S1) (a := a + 1) (by rw [h1]; rfl)
  refine ex_bd e1 ?_
  have hF := sub_fr (k := 1) (n := 7) (N := 8) he (by decide) hF
  have h0 : S2 a = V0 := (sub_at (k := 1) (n := 7) (j := 0) he (by decide)).trans h0
  obtain ⟨W1, h1⟩ : ∃ y, S2 (a + 1) = y := ⟨_, rfl⟩
  rw [h1] at e2
  have p1 := e2
  refine ex_ck (decide_eq_true (by rw [h0]; exact hraw)) ?_
  refine ex_nm (fun S3 he => ?_)
  have hF := st_fr (k := 0) (N := 8) he (by decide) hF
  have h1 := (st_at he (off_ne0' (j := 1) (by decide))).trans h1
  obtain ⟨V1, eV1⟩ : ∃ y, y = sR V0 0 (some (a + 1)) := ⟨_, rfl⟩
  have h0 : S3 a = V1 := by rw [he, st_same, h0, eV1]
  refine ex_ck (decide_eq_true (by rw [h0]; exact (by simp only [eV1, gC_sR, gC_sI, gC_sJ]; exact hraw))) ?_
  refine ex_nm (fun S5 he => ?_)
  have hF := st_fr (k := 0) (N := 8) he (by decide) hF
  have h1 := (st_at he (off_ne0' (j := 1) (by decide))).trans h1
  obtain ⟨V2, eV2⟩ : ∃ y, y = sJ V1 1 (0 : Int64) := ⟨_, rfl⟩
  have h0 : S5 a = V2 := by rw [he, st_same, h0, eV2]
  refine ex_ck (decide_eq_true (by rw [h0]; exact (by simp only [eV2, eV1, gC_sR, gC_sI, gC_sJ]; exact hraw))) ?_
  refine ex_nm (fun S7 he => ?_)
  have hF := st_fr (k := 0) (N := 8) he (by decide) hF
  have h1 := (st_at he (off_ne0' (j := 1) (by decide))).trans h1
  obtain ⟨V3, eV3⟩ : ∃ y, y = sI V2 2 (0 : Int32) := ⟨_, rfl⟩
  have h0 : S7 a = V3 := by rw [he, st_same, h0, eV3]
  have rV : ∀ k x, gR V3 k = x → gR (S7 a) k = x := fun k x hx => by rw [h0]; exact hx
  refine ex_ck (frB_of (by rw [h0]; exact (by simp only [eV3, eV2, eV1, gC_sR, gC_sI, gC_sJ]; exact hraw)) (fun k hk => ?_)) ?_
  · rw [nf_9] at hk
    rcases (show k = 0 ∨ k = 1 ∨ k = 2 by omega) with rfl | rfl | rfl
    · rw [ds_9_0]
      exact ⟨fun h => absurd h (by decide), fun _ => (rV 0 _ (by simp only [eV3, eV2, eV1, gR_sR, gR_sI, gR_sJ, Nat.reduceEqDiff, ↓reduceIte])), fun h => absurd h (by decide)⟩
    · rw [ds_9_1]
      exact ⟨fun h => absurd h (by decide), fun h => absurd h (by decide), fun h => absurd h (by decide)⟩
    · rw [ds_9_2]
      exact ⟨fun h => absurd h (by decide), fun h => absurd h (by decide), fun h => absurd h (by decide)⟩
  refine ex_nm (fun S10 he => ?_)
  have hF := frm_fr (N := 8) he (by decide +kernel) hF
  have h1 := (frm_at (k := 1) he (by decide) (by decide +kernel)).trans h1
  have hz : S10 a = frv S7 a 9 28 := by rw [he]; exact if_pos rfl
  refine ⟨_, rfl, ?_⟩
  exact ⟨⟨by rw [hz]; rfl, by rw [h1]; exact p1.1⟩, hF⟩
theorem gQ_step {W : GV} {c x a0 : Nat} (h : ∀ i, i < c → gQ W 0 i = some (a0 + 7 * i)) (hx : x = a0 + 7 * c) : ∀ i, i < c + 1 → gQ (sQ W 0 c (some x)) 0 i = some (a0 + 7 * i) := by
  intro i hi
  by_cases e : i = c
  · subst e; rw [hx]; simp [gQ, sQ, va_up]
  · have : gQ (sQ W 0 c (some x)) 0 i = gQ W 0 i := by simp [gQ, sQ, va_up, e]
    rw [this]; exact h i (by omega)
theorem gL_step {W : GV} {c : Nat} {x : Int64} (h : ∀ i, i < c → gL W 0 i = lN (wds.getD i 0)) (hx : x = lN (wds.getD c 0)) : ∀ i, i < c + 1 → gL (sL W 0 c x) 0 i = lN (wds.getD i 0) := by
  intro i hi
  rw [gL_sL]
  by_cases e : i = c
  · rw [if_pos e, hx, e]
  · rw [if_neg e]; exact h i (by omega)
theorem okG_00 : okG G00 := ⟨by decide, by decide, by decide, fun t ht => absurd ht (Nat.not_lt_zero _), fun t ht => absurd ht (Nat.not_lt_zero _)⟩
theorem MG_00 {v : GV} {f : Nat → Int32} (h : gA v 10 = f) (f4 : f 4 = mI 1) (f5 : f 5 = mI 1) (fo : ∀ x, x < 70 → x ≠ 3 → x ≠ 4 → x ≠ 5 → x ≠ 30 → x ≠ 33 → f x = nI 0) : MG v G00 := by
  unfold MG
  rw [h]
  exact ⟨fo 0 (by decide) (by decide) (by decide) (by decide) (by decide) (by decide), fo 1 (by decide) (by decide) (by decide) (by decide) (by decide) (by decide), fo 2 (by decide) (by decide) (by decide) (by decide) (by decide) (by decide), fun t ht => absurd ht (Nat.not_lt_zero _), fun t ht => absurd ht (Nat.not_lt_zero _), Or.inl ⟨f4, rfl⟩, Or.inl ⟨f5, rfl⟩⟩
theorem MBg_00 {v : GV} {f : Nat → Int32} (h : gA v 10 = f) (f3 : f 3 = nI 1) (f30 : f 30 = mI 1) (f33 : f 33 = nI 5) (fo : ∀ x, x < 70 → x ≠ 3 → x ≠ 4 → x ≠ 5 → x ≠ 30 → x ≠ 33 → f x = nI 0) : MBg v q00 := by
  unfold MBg
  rw [h]
  refine ⟨f3, fun p hp => ?_, fun t ht => fo _ (by omega) (by omega) (by omega) (by omega) (by omega) (by omega)⟩
  have hp : p < 1 := hp
  have : p = 0 := by omega
  subst this
  exact ⟨f30, fun q => absurd rfl q, f33⟩
theorem m_stands0 {v : GV} (hf : 1101 ≤ fu) : ∃ f, f_X13_standsAsAlways fu v (0 : Int32) = some (sAf v 10 f) ∧ f 3 = nI 1 ∧ f 4 = mI 1 ∧ f 5 = mI 1 ∧ f 30 = mI 1 ∧ f 33 = nI 5 ∧ ∀ x, x < 70 → x ≠ 3 → x ≠ 4 → x ≠ 5 → x ≠ 30 → x ≠ 33 → f x = nI 0 := by
  have l70 : (70 : Int32) = nI 70 := by decide
  have key := lpI2 (fun k2 => f_X13_standsAsAlways_2s fu k2 (nI 0)) (fun k y w => y = nI k ∧ ∃ f, w = sAf v 10 f ∧ ∀ x, x < k → f x = nI 0) (fun r => ∃ f, r = some (sAf v 10 f) ∧ f 3 = nI 1 ∧ f 4 = mI 1 ∧ f 5 = mI 1 ∧ f 30 = mI 1 ∧ f 33 = nI 5 ∧ ∀ x, x < 70 → x ≠ 3 → x ≠ 4 → x ≠ 5 → x ≠ 30 → x ≠ 33 → f x = nI 0) 70 ?_ ?_ fu 0 (nI 0) v ⟨rfl, _, (sAf_self v 10).symm, fun x h1 => by omega⟩ (by omega) (by omega)
  · obtain ⟨r, ⟨f, hr, h⟩, e⟩ := key
    refine ⟨f, ?_, h⟩
    rw [← hr, ← e]
    simp only [f_X13_standsAsAlways, f_X13_standsAsAlways_0, f_X13_standsAsAlways_2, l70, ↓lm_1, ↓lm_2, ↓lm_3, ↓lm_4, ↓lm_5, ↓lm_6, ↓lm_7, ↓lm_8, ↓lm_9, ↓lm_10, ↓lm_11, li_0, li_1, li_2, li_3, li_4, li_5, li_6, li_7, li_8, li_9, li_10, li_11, li_12, li_13, li_14, li_15, li_16, li_17, li_18, li_19, li_20, li_21, li_22, li_23, li_24, li_25, li_26, li_27, li_28, li_29, li_30, li_31, li_32, li_33, li_34, li_35, li_36, li_37, li_38, li_39, li_40, li_41, li_42, li_43, li_44, li_45, li_46, li_47, li_48, li_49, li_50, li_51, li_52, li_53, li_54, li_55, li_56, li_57, li_58, li_59, li_60, li_61, li_62, li_63, li_64, li_65, li_66, li_96, li_97, li_99, li_100, li_122, li_125, li_126, li_140, li_255, li_256, li_999, li_1000, li_1001, li_1002, li_1100, li_1386, li_1452, li_1518, li_9999, li_1000000]
  · rintro y u ⟨rfl, f, rfl, g2⟩
    have l7 : nI 70 ≤ nI 70 := by decide
    refine ⟨_, ⟨upd (upd (upd (upd (upd f 3 (nI 1)) 4 (mI 1)) 5 (mI 1)) 30 (mI 1)) 33 (nI 5), rfl, ?_, ?_, ?_, ?_, ?_, fun x h2 h3 h4 h5 h6 h7 => ?_⟩, fun rec => ?_⟩
    · rw [pk_un (by omega), pk_un (by omega), pk_un (by omega), pk_un (by omega), pk_us]
    · rw [pk_un (by omega), pk_un (by omega), pk_un (by omega), pk_us]
    · rw [pk_un (by omega), pk_un (by omega), pk_us]
    · rw [pk_un (by omega), pk_us]
    · rw [pk_us]
    · rw [pk_un h7, pk_un h6, pk_un h5, pk_un h4, pk_un h3]; exact g2 x (by omega)
    · simp (disch := omega) only [f_X13_standsAsAlways_2s, l70, ↓lm_1, ↓lm_2, ↓lm_3, ↓lm_4, ↓lm_5, ↓lm_6, ↓lm_7, ↓lm_8, ↓lm_9, ↓lm_10, ↓lm_11, li_0, li_1, li_2, li_3, li_4, li_5, li_6, li_7, li_8, li_9, li_10, li_11, li_12, li_13, li_14, li_15, li_16, li_17, li_18, li_19, li_20, li_21, li_22, li_23, li_24, li_25, li_26, li_27, li_28, li_29, li_30, li_31, li_32, li_33, li_34, li_35, li_36, li_37, li_38, li_39, li_40, li_41, li_42, li_43, li_44, li_45, li_46, li_47, li_48, li_49, li_50, li_51, li_52, li_53, li_54, li_55, li_56, li_57, li_58, li_59, li_60, li_61, li_62, li_63, li_64, li_65, li_66, li_96, li_97, li_99, li_100, li_122, li_125, li_126, li_140, li_255, li_256, li_999, li_1000, li_1001, li_1002, li_1100, li_1386, li_1452, li_1518, li_9999, li_1000000, l7, ↓reduceIte, nI_add, inb_n, ck_t, nI_clamp, nm_eq, sA, gA_sAf, sAf_sAf, Nat.reduceAdd]
  · rintro k y u hk ⟨rfl, f, rfl, g2⟩
    have hle : ¬ nI 70 ≤ nI k := nI_ge hk (by omega)
    refine Or.inl ⟨nI (k + 1), sAf v 10 (upd f (0 + k) (nI 0)), ⟨rfl, _, rfl, fun x h2 => ?_⟩, fun rec => ?_⟩
    · by_cases e : x = 0 + k
      · rw [e, pk_us]
      · rw [pk_un e]; exact g2 x (by omega)
    · simp (disch := omega) only [f_X13_standsAsAlways_2s, l70, ↓lm_1, ↓lm_2, ↓lm_3, ↓lm_4, ↓lm_5, ↓lm_6, ↓lm_7, ↓lm_8, ↓lm_9, ↓lm_10, ↓lm_11, li_0, li_1, li_2, li_3, li_4, li_5, li_6, li_7, li_8, li_9, li_10, li_11, li_12, li_13, li_14, li_15, li_16, li_17, li_18, li_19, li_20, li_21, li_22, li_23, li_24, li_25, li_26, li_27, li_28, li_29, li_30, li_31, li_32, li_33, li_34, li_35, li_36, li_37, li_38, li_39, li_40, li_41, li_42, li_43, li_44, li_45, li_46, li_47, li_48, li_49, li_50, li_51, li_52, li_53, li_54, li_55, li_56, li_57, li_58, li_59, li_60, li_61, li_62, li_63, li_64, li_65, li_66, li_96, li_97, li_99, li_100, li_122, li_125, li_126, li_140, li_255, li_256, li_999, li_1000, li_1001, li_1002, li_1100, li_1386, li_1452, li_1518, li_9999, li_1000000, hle, ↓reduceIte, nI_add, inb_n, ck_t, nI_clamp, nm_eq, sA, gA_sAf, sAf_sAf]
/-- the picture at the start -/
def A00 : AP := mkA G00 (q00, lk0) (0, fun _ => q00) (0, fun _ => (q00, lk0)) q00 (0, fun _ => (0, 0, 0, 0)) (0, fun _ => 0) N00
theorem okA_00 : okA A00 := by
  refine ⟨okG_00, ⟨(okB_00 G00).1, Nat.zero_le _, fun i hi => absurd hi (Nat.not_lt_zero _)⟩, ⟨Nat.zero_le _, fun i hi => absurd hi (Nat.not_lt_zero _)⟩, ⟨by show (0 : Nat) < 16; omega, fun m _ hb => ?_⟩, okB_00 G00, ⟨Nat.zero_le _, fun i hi => absurd hi (Nat.not_lt_zero _)⟩, ⟨Nat.zero_le _, fun i hi => absurd hi (Nat.not_lt_zero _)⟩⟩
  have hb : bt 0 m = 1 := hb
  unfold bt at hb; rw [Nat.zero_div] at hb; omega
end IN
