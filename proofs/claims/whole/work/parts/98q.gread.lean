/-! ===== gallery: from the text to the draft, class and model ===== -/
/-- of the model this may have changed -/
def GMc (v v' : GV) : Prop := (∀ k, k ≠ 4 → k ≠ 5 → k ≠ 10 → k ≠ 11 → k ≠ 12 → k ≠ 17 → gA v' k = gA v k) ∧ (∀ x, x < 70 → gA v' 10 x = gA v 10 x) ∧ (∀ x, x < 1100 → gA v' 11 x = gA v 11 x ∧ gA v' 12 x = gA v 12 x) ∧ (∀ k, k ≠ 0 → k ≠ 2 → k ≠ 3 → k ≠ 7 → k ≠ 8 → k ≠ 13 → k ≠ 19 → k ≠ 20 → gI v' k = gI v k) ∧ gI v' 2 = nI 0 ∧ (∀ k, k ≠ 6 → k ≠ 15 → gL v' k = gL v k) ∧ gC v' = gC v
theorem j_gread {fu p t d ln dl f n : Nat} {g0 : GG} {S : ST} {v : GV} {A : AP} (hf : 1101 ≤ fu) (hA : okA A) (hP : RP p t d ln dl S) (hK : RK p t ln f S A) (hM : RM v A) (hn : p + 223 < n) : ∃ K w S' v' a' fl' j', okK K ∧ gC w = 8 ∧ f_X2_read fu g0 S (p + 6) d n = some (nI fl', st S' (p + 1) (sI (tw w a' fl') 6 (nI 0)), j') ∧ f_X13_gallery fu v = f_X13_gallery_57 fu (mw v' a' fl') ∧ DI K w p d n S' v' a' fl' j' ∧ GF p d n S S' ∧ GMc v v' ∧ (fl' = 0 → DR d n j' a' S' v') := by
  have hT := hA.2.2.2.2.2.2
  have c1 := hP.1.2.1
  have cd1 := hP.2.1.2.1
  have cd8 := hP.2.1.2.2.2.1
  have td := hP.2.2.2.2.2.1
  have h6 := hP.2.2.2.2.2.2.2.1
  have r6 := hP.2.2.2.2.2.2.2.2.1
  have h7 := hP.2.2.2.2.2.2.2.2.2
  have hd : d = p + 43 ∨ d = p + 58 := by omega
  have hMT : MT (sI v 0 (nI 0)) (aT A) := hM.2.2.2.2.2.2.2.1
  obtain ⟨K, w, v1, k1, k2, k3, k4, k5, k6, k7⟩ := cut (fu := fu) hf hT c1 hK.2.2.2.2.2.2.2 hMT
  obtain ⟨cb, etw⟩ := CK_tw k4
  obtain ⟨mbb, emw⟩ := MK_mw k5
  have gw : gC w = 8 := k4.1
  -- the class's draft
  obtain ⟨wh, cl1, cl2⟩ := x1_clear (fu := fu) (S := S) (d := d) cd1 cd8
  have S1p : st (st S d (clG (S d))) (d + 8) wh (p + 1) = S (p + 1) := by rw [st_ne _ _ (by omega), st_ne _ _ (by omega)]
  have S16 : st (st S d (clG (S d))) (d + 8) wh (p + 6) = S (p + 6) := by rw [st_ne _ _ (by omega), st_ne _ _ (by omega)]
  generalize hS2 : st (st (st S d (clG (S d))) (d + 8) wh) (p + 1) w = S2 at *
  have S2d : S2 d = clG (S d) := by rw [← hS2, st_ne _ _ (by omega), st_ne _ _ (by omega), st_same]
  have S28 : S2 (d + 8) = wh := by rw [← hS2, st_ne _ _ (by omega), st_same]
  have S2o : ∀ b, b ≠ p + 1 → b ≠ d → b ≠ d + 8 → S2 b = S b := fun b b1 b2 b3 => by rw [← hS2, st_ne _ _ b1, st_ne _ _ b3, st_ne _ _ b2]
  -- the model's draft
  obtain ⟨g, st1, st2, st3, st4, st5, st6, st7, st8⟩ := m_stands (fu := fu) (v := sI (sI v1 13 (nI 0)) 19 (nI 0)) hf
  generalize hv7 : sAf (sI (sI v1 13 (nI 0)) 19 (nI 0)) 10 g = v7 at *
  have m7 : mw v7 0 0 = v7 := by
    have a7 : gI v7 7 = nI 0 := by rw [← hv7, gI_sAf, gI_sI, if_neg (by decide), gI_sI, if_neg (by decide)]; exact k5.1
    have a8 : gI v7 8 = nI 0 := by rw [← hv7, gI_sAf, gI_sI, if_neg (by decide), gI_sI, if_neg (by decide)]; exact k5.2.1
    have b7 : sI v7 7 (nI 0) = v7 := by rw [← a7]; exact sI_self v7 7
    have b8 : sI v7 8 (nI 0) = v7 := by rw [← a8]; exact sI_self v7 8
    rw [mw, b7, b8]
  have A7 : ∀ k, k ≠ 10 → gA v7 k = gA v1 k := fun k hk => by rw [← hv7, gA_sAfn _ _ hk]; rfl
  have A10 : gA v7 10 = g := by rw [← hv7, gA_sAf]
  have L7 : gL v7 = gL v1 := by rw [← hv7]; rfl
  have mb7 : MB v7 K := fun i hi => by
    obtain ⟨q1, q2, q3⟩ := mbb i hi
    exact ⟨by rw [A7 4 (by decide)]; exact q1, by rw [A7 5 (by decide)]; exact q2, fun z => by rw [L7]; exact q3 z⟩
  have W7 : WB9 v7 := fun i hi => by
    rw [L7, k7.2.2.1 9 (by decide)]; exact hM.2.2.2.2.2.2.2.2.2.1 i hi
  have di : DI K w p d n S2 v7 0 0 0 := by
    refine ⟨⟨Nat.zero_le _, by omega⟩, by rw [← hS2, st_same]; exact etw.symm, by rw [S2o _ (by omega) (by omega) (by omega)]; exact ⟨h6, r6⟩, by rw [S2o _ (by omega) (by omega) (by omega)]; exact h7, by rw [S2d]; exact cd1, by rw [S28]; exact cl2.1.1, mb7, W7, Or.inl rfl, by omega⟩
  have dr : DR d n 0 0 S2 v7 := by
    refine ⟨G00, N00, q00, 0, fun _ => 0, fun _ => 0, 0, 0, 0, ⟨by decide, by decide, by decide, fun t ht => absurd ht (Nat.not_lt_zero _), fun t ht => absurd ht (Nat.not_lt_zero _)⟩, okB_00 G00, ?_, ?_, by rw [S28]; exact cl2, ?_, ?_, ?_, ?_, ⟨?_, by omega⟩, ?_, ?_, rfl⟩
    · rw [S2d]
      refine ⟨?_, ?_, ?_, fun t ht => absurd ht (Nat.not_lt_zero _), fun t ht => absurd ht (Nat.not_lt_zero _)⟩
      · simp only [clG, gI_sR, gI_sI, Nat.reduceEqDiff, ↓reduceIte] <;> rfl
      · simp only [clG, gI_sR, gI_sI, Nat.reduceEqDiff, ↓reduceIte] <;> rfl
      · simp only [clG, gI_sR, gI_sI, Nat.reduceEqDiff, ↓reduceIte] <;> rfl
    · exact ⟨fun t ht => absurd ht (Nat.not_lt_zero _), fun t ht => absurd ht (Nat.not_lt_zero _), fun t ht => absurd ht (Nat.not_lt_zero _)⟩
    · rw [MG0, A10]
      exact ⟨st8 70 (by omega) (by omega) (by omega) (by omega) (by omega) (by omega) (by omega), st8 71 (by omega) (by omega) (by omega) (by omega) (by omega) (by omega) (by omega), st8 72 (by omega) (by omega) (by omega) (by omega) (by omega) (by omega) (by omega), fun t ht => absurd ht (Nat.not_lt_zero _), fun t ht => absurd ht (Nat.not_lt_zero _)⟩
    · rw [MB0, A10]
      refine ⟨st3, fun r hr => ?_, fun t ht => st8 _ (by omega) (by omega) (by omega) (by omega) (by omega) (by omega) (by omega)⟩
      have hr : r < 1 := hr
      have : r = 0 := by omega
      subst this
      exact ⟨st6, fun q => absurd rfl q, st7⟩
    · exact ⟨rfl, fun k hk => absurd hk (Nat.not_lt_zero _), fun k hk => absurd hk (Nat.not_lt_zero _), fun k hk => absurd hk (Nat.not_lt_zero _), fun k hk => absurd hk (Nat.not_lt_zero _), fun k hk => absurd hk (Nat.not_lt_zero _), fun k _ hk => absurd hk (Nat.not_lt_zero _)⟩
    · refine ⟨by omega, ?_, fun k hk => absurd hk (Nat.not_lt_zero _)⟩
      simp only [↓reduceIte]
      rw [← hv7, gI_sAf, gI_sI, if_pos rfl]
    · rw [← hv7, gI_sAf, gI_sI, if_neg (by decide), gI_sI, if_pos rfl]
    · exact Or.inl ⟨by rw [S2d]; simp only [clG, gR_sR, Nat.reduceEqDiff, ↓reduceIte], by rw [A10]; exact st4, rfl, rfl⟩
    · exact Or.inl ⟨by rw [S2d]; simp only [clG, gR_sR, Nat.reduceEqDiff, ↓reduceIte], by rw [A10]; exact st5, rfl, rfl⟩
  obtain ⟨S', v', a', fl', j', e1, e2, e3, e4, e5, e6⟩ := j_glines (fu := fu) (g0 := g0) hf k3 cb gw hd hn 1001 0 fu fu 0 0 0 S2 v7 (by omega) (by omega) (by omega) (fun _ => Nat.le_refl _) di (fun _ => dr)
  refine ⟨K, w, S', v', a', fl', j', k3, gw, ?_, ?_, e3, fun b h0 b1 b2 b3 b4 => by rw [e4 b h0 b1 b2 b3 b4, S2o b b1 b3 b4], ?_, e6⟩
  · rw [← e1]
    simp only [f_X2_read, ↓lm_1, ↓lm_2, ↓lm_3, ↓lm_4, ↓lm_5, ↓lm_6, ↓lm_7, ↓lm_8, ↓lm_9, ↓lm_10, ↓lm_11, li_0, li_1, li_2, li_3, li_4, li_5, li_6, li_7, li_8, li_9, li_10, li_11, li_12, li_13, li_14, li_15, li_16, li_17, li_18, li_19, li_20, li_21, li_22, li_23, li_24, li_25, li_26, li_27, li_28, li_29, li_30, li_31, li_32, li_33, li_34, li_35, li_36, li_37, li_38, li_39, li_40, li_41, li_42, li_43, li_44, li_45, li_46, li_47, li_48, li_49, li_50, li_51, li_52, li_53, li_54, li_55, li_56, li_57, li_58, li_59, li_60, li_61, li_62, li_63, li_64, li_65, li_66, li_96, li_97, li_99, li_100, li_122, li_125, li_126, li_140, li_255, li_256, li_999, li_1000, li_1001, li_1002, li_1100, li_1386, li_1452, li_1518, li_9999, li_1000000, cl1, bd_s, S16, h6, decide_true, ck_t, r6, S1p, c1, k1, nm_eq, hS2]
  · rw [m7] at e2
    rw [← e2]
    have st1' := st1
    simp only [f_X13_gallery, f_X13_gallery_0, ↓lm_1, ↓lm_2, ↓lm_3, ↓lm_4, ↓lm_5, ↓lm_6, ↓lm_7, ↓lm_8, ↓lm_9, ↓lm_10, ↓lm_11, li_0, li_1, li_2, li_3, li_4, li_5, li_6, li_7, li_8, li_9, li_10, li_11, li_12, li_13, li_14, li_15, li_16, li_17, li_18, li_19, li_20, li_21, li_22, li_23, li_24, li_25, li_26, li_27, li_28, li_29, li_30, li_31, li_32, li_33, li_34, li_35, li_36, li_37, li_38, li_39, li_40, li_41, li_42, li_43, li_44, li_45, li_46, li_47, li_48, li_49, li_50, li_51, li_52, li_53, li_54, li_55, li_56, li_57, li_58, li_59, li_60, li_61, li_62, li_63, li_64, li_65, li_66, li_96, li_97, li_99, li_100, li_122, li_125, li_126, li_140, li_255, li_256, li_999, li_1000, li_1001, li_1002, li_1100, li_1386, li_1452, li_1518, li_9999, li_1000000, nm_eq, k2, bd_s, st1']
  · refine ⟨fun k h1 h2 h3 h4 h5 h6 => ?_, fun x hx => ?_, fun x hx => ?_, fun k h1 h2 h3 h4 h5 h6 h7 h8 => ?_, ?_, fun k h1 h2 => ?_, ?_⟩
    · rw [e5.1 k h3 h4 h5 h6, A7 k h3, k7.1 k h1 h2]; rfl
    · rw [e5.2.1 x hx, A10, st2 x hx]
      show gA v1 10 x = _
      rw [k7.1 10 (by decide) (by decide)]; rfl
    · rw [(e5.2.2.1 x hx).1, (e5.2.2.1 x hx).2, A7 11 (by decide), A7 12 (by decide), k7.1 11 (by decide) (by decide), k7.1 12 (by decide) (by decide)]; exact ⟨rfl, rfl⟩
    · rw [e5.2.2.2.1 k h6 h7 h8, ← hv7, gI_sAf, gI_sI, if_neg h7, gI_sI, if_neg h6, k7.2.1 k h4 h5, gI_sI, if_neg h2, gI_sI, if_neg h3, gI_sI, if_neg h1]
    · rw [e5.2.2.2.1 2 (by decide) (by decide) (by decide), ← hv7, gI_sAf, gI_sI, if_neg (by decide), gI_sI, if_neg (by decide), k7.2.1 2 (by decide) (by decide), gI_sI, if_pos rfl]
    · rw [e5.2.2.2.2.1 k h2, L7, k7.2.2.1 k h1]; rfl
    · rw [e5.2.2.2.2.2, ← hv7]; exact k7.2.2.2
