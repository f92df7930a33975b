/-! ===== gallery: a law is made of its steps ===== -/
theorem ds30 : ds 3 0 = (2, 1, 1, 0) := by decide +kernel
theorem ds31 : ds 3 1 = (2, 2, 1, 32) := by decide +kernel
theorem nf3 : nf 3 = 2 := by decide +kernel
theorem frv_N (S : ST) (q ci j k : Nat) : gN (frv S q ci j) k = gN (S (q + (ds ci k).2.1)) 0 := (id rfl)
theorem frv_A (S : ST) (q ci j k : Nat) : gA (frv S q ci j) k = gA (S (q + (ds ci k).2.1)) 0 := (id rfl)
theorem x5_make {fu : Nat} {g0 : GG} {S S3 : ST} {a n u e1 : Nat} (hx : f_X5_expression fu (f_X5_partD fu 8) (st S a (sI (sI (S a) 3 (nI e1)) 2 (nI 0))) a (nI 0) = some S3) (hc : gC (S3 a) = 5) (h2 : gI (S3 a) 2 = nI u) (hu : u < 1000) (han : a < n) : ∃ S', f_X5_read fu g0 S a e1 n = some S' ∧ (∀ b, b < n → S' b = S3 b) ∧ gC (S' n) = 4 ∧ gN (S' n) 0 = u ∧ ∀ k, k < u → gA (S' n) 0 k = gA (S3 a) 1 k := by
  have n1 : ¬ nI u < nI 0 := nI_nlt (by omega) (by omega)
  have n2 : nI u < nI 1000 := nI_lt hu (by omega)
  have cl : (nI u).toNatClampNeg = u := nI_clamp (by omega)
  have e3 : st S3 n (rawo 3) a = S3 a := st_ne _ _ (by omega)
  have a1 : a ≠ n + 1 := by omega
  have cr : gC (rawo 3) = 16 := rfl
  refine ⟨frm (st (st (st (cpo (st S3 n (rawo 3)) a (n + 1) (nI u)) (n + 2) (barr 1 32)) n (sR (rawo 3) 1 (some (n + 2)))) n (sR (sR (rawo 3) 1 (some (n + 2))) 0 (some (n + 1)))) n 3 28, ?_, fun b hb => ?_, by rw [frm, if_pos rfl]; rfl, ?_, fun k hk => ?_⟩
  · have o1 : st (cpo (st S3 n (rawo 3)) a (n + 1) (nI u)) (n + 2) (barr 1 32) n = rawo 3 := by
      rw [st_ne _ _ (by omega), cpo, st_ne _ _ (by omega), st_same]
    have fb : frB g0 (st (st (st (cpo (st S3 n (rawo 3)) a (n + 1) (nI u)) (n + 2) (barr 1 32)) n (sR (rawo 3) 1 (some (n + 2)))) n (sR (sR (rawo 3) 1 (some (n + 2))) 0 (some (n + 1)))) n 3 28 = true := by
      have i1 : ∀ x y : GV, st (st (st (cpo (st S3 n (rawo 3)) a (n + 1) (nI u)) (n + 2) (barr 1 32)) n x) n y (n + 1) = sAf (barr 1 u) 0 (va_cpy (gA (S3 a) 1) (gA (barr 1 u) 0) 0 0 u) := by
        intro x y
        rw [st_ne _ _ (by omega), st_ne _ _ (by omega), st_ne _ _ (by omega), cpo, st_same, e3, cl]
      have i2 : ∀ x y : GV, st (st (st (cpo (st S3 n (rawo 3)) a (n + 1) (nI u)) (n + 2) (barr 1 32)) n x) n y (n + 2) = barr 1 32 := by
        intro x y
        rw [st_ne _ _ (by omega), st_ne _ _ (by omega), st_same]
      have r2 : List.range 2 = [0, 1] := by decide
      rw [frB, nf3, r2, st_same]
      simp only [List.all_cons, List.all_nil, ds30, ds31, i1, i2, gR_sR, gC_sR, gC_sAf, gN_sAf]
      simp only [show gC (barr 1 32) = 25 from rfl, show gC (barr 1 u) = 25 from rfl, show gN (barr 1 32) 0 = 32 from rfl, cr]
      simp
    simp only [f_X5_read, f_X4_init, ↓lm_1, ↓lm_2, ↓lm_3, ↓lm_4, ↓lm_5, ↓lm_6, ↓lm_7, ↓lm_8, ↓lm_9, ↓lm_10, ↓lm_11, li_0, li_1, li_2, li_3, li_4, li_5, li_6, li_7, li_8, li_9, li_10, li_11, li_12, li_13, li_14, li_15, li_16, li_17, li_18, li_19, li_20, li_21, li_22, li_23, li_24, li_25, li_26, li_27, li_28, li_29, li_30, li_31, li_32, li_33, li_34, li_35, li_36, li_37, li_38, li_39, li_40, li_41, li_42, li_43, li_44, li_45, li_46, li_47, li_48, li_49, li_50, li_51, li_52, li_53, li_54, li_55, li_56, li_57, li_58, li_59, li_60, li_61, li_62, li_63, li_64, li_65, li_66, li_96, li_97, li_99, li_100, li_122, li_125, li_126, li_140, li_255, li_256, li_999, li_1000, li_1001, li_1002, li_1100, li_1386, li_1452, li_1518, li_9999, li_1000000, nm_eq, st_same, st_st, hx, bd_s, e3, hc, decide_true, ck_t, h2, n1, n2, not_false_eq_true, a1, ne_eq, o1, cr, gC_sR] at fb ⊢
    rw [fb, ck_t]
  · rw [frm, if_neg (by omega), if_neg (by omega), st_ne _ _ (by omega), st_ne _ _ (by omega), st_ne _ _ (by omega), cpo, st_ne _ _ (by omega), st_ne _ _ (by omega)]
  · rw [frm, if_pos rfl]
    rw [frv_N, ds30]
    simp only
    rw [st_ne _ _ (by omega), st_ne _ _ (by omega), st_ne _ _ (by omega), cpo, st_same, cl]; rfl
  · rw [frm, if_pos rfl]
    rw [frv_A, ds30]
    simp only
    rw [st_ne _ _ (by omega), st_ne _ _ (by omega), st_ne _ _ (by omega), cpo, st_same, cl, gA_sAf, va_cpy, if_pos (by omega), e3]
    congr 1; omega
