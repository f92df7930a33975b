/-! ===== questions: kin, nearest, meet, joined ===== -/
section Q
variable {fu p : Nat} {S : ST} {v : GV} {A : AP}
theorem c_kin (hf : 1101 ≤ fu) (hA : okA A) (hC : RC p S A) {a : Nat} (ha : a < qn (aQ A).1) : f_X12_kin fu S p (nI a) = some (nI (kst (aQ A).1 a (qn (aQ A).1 - (a + 1)))) := by
  obtain ⟨t, d, ln, dl, f, hP, hK⟩ := id hC
  have hc := hP.1.2.2.1
  have hw := hK.1.1
  have hq := hA.2.1.1
  have h8 := hq.1.2.1
  have e0 : f_X12_kin fu S p (nI a) = f_X12_kin_21 fu fu S p (nI a) (nI (kst (aQ A).1 a 0 ||| 2 ^ a)) (nI (a + 1 + 0)) := by
    simp (disch := omega) only [f_X12_kin, f_X12_kin_0, ↓lm_1, ↓lm_2, ↓lm_3, ↓lm_4, ↓lm_5, ↓lm_6, ↓lm_7, ↓lm_8, ↓lm_9, ↓lm_10, ↓lm_11, li_0, li_1, li_2, li_3, li_4, li_5, li_6, li_7, li_8, li_9, li_10, li_11, li_12, li_13, li_14, li_15, li_16, li_17, li_18, li_19, li_20, li_21, li_22, li_23, li_24, li_25, li_26, li_27, li_28, li_29, li_30, li_31, li_32, li_33, li_34, li_35, li_36, li_37, li_38, li_39, li_40, li_41, li_42, li_43, li_44, li_45, li_46, li_47, li_48, li_49, li_50, li_51, li_52, li_53, li_54, li_55, li_56, li_57, li_58, li_59, li_60, li_61, li_62, li_63, li_64, li_65, li_66, li_96, li_97, li_99, li_100, li_122, li_125, li_126, li_140, li_255, li_256, li_999, li_1000, li_1001, li_1002, li_1100, li_1386, li_1452, li_1518, li_9999, li_1000000, hc, decide_true, ck_t, x3_isThere_in hw hq ha, bd_s, n10, ↓reduceIte, nm_eq, nI_and31, nI_shl1, nI_add, kst, Nat.zero_or, Nat.add_zero]
  rw [e0, f_X12_kin_21]
  refine for2 _ (fun i => nI (kst (aQ A).1 a i ||| 2 ^ a)) (fun i => nI (a + 1 + i)) 0 (qn (aQ A).1 - (a + 1)) _ ?_ ?_ fu (by omega) (by omega)
  · intro rec
    have hk := kst_lt (aQ A).1 a (qn (aQ A).1 - (a + 1)) (by omega)
    have hle : nI (qn (aQ A).1) ≤ nI (a + 1 + (qn (aQ A).1 - (a + 1))) := nI_le (by omega) (by omega)
    simp (disch := omega) only [f_X12_kin_21s, ↓lm_1, ↓lm_2, ↓lm_3, ↓lm_4, ↓lm_5, ↓lm_6, ↓lm_7, ↓lm_8, ↓lm_9, ↓lm_10, ↓lm_11, li_0, li_1, li_2, li_3, li_4, li_5, li_6, li_7, li_8, li_9, li_10, li_11, li_12, li_13, li_14, li_15, li_16, li_17, li_18, li_19, li_20, li_21, li_22, li_23, li_24, li_25, li_26, li_27, li_28, li_29, li_30, li_31, li_32, li_33, li_34, li_35, li_36, li_37, li_38, li_39, li_40, li_41, li_42, li_43, li_44, li_45, li_46, li_47, li_48, li_49, li_50, li_51, li_52, li_53, li_54, li_55, li_56, li_57, li_58, li_59, li_60, li_61, li_62, li_63, li_64, li_65, li_66, li_96, li_97, li_99, li_100, li_122, li_125, li_126, li_140, li_255, li_256, li_999, li_1000, li_1001, li_1002, li_1100, li_1386, li_1452, li_1518, li_9999, li_1000000, hc, decide_true, ck_t, hw.2.2.1, hle, ↓reduceIte, nI_and31, nI_shl1, kin_end hk.1 (show a < 8 by omega) hk.2]
  · intro i rec _ hi
    have hk := kst_lt (aQ A).1 a i (by omega)
    have hk2 : kst (aQ A).1 a i ||| 2 ^ a < 256 := Nat.or_lt_two_pow (n := 8) hk.1 (p2_256 (by omega))
    have p2 := p2_256 (s := a + 1 + i) (by omega)
    have hle : ¬ nI (qn (aQ A).1) ≤ nI (a + 1 + i) := nI_ge (by omega) (by omega)
    have hs := (hq.2.2.1 (a + 1 + i) (by omega) (by omega)).2.2
    have e2 := (hw.2.2.2.2.2.1 (a + 1 + i) (by omega)).2.2.2.1
    rw [if_neg (by omega)] at e2
    have hbt := bt_lt (kst (aQ A).1 a i ||| 2 ^ a) (qs (aQ A).1 (a + 1 + i))
    simp (disch := omega) only [f_X12_kin_21s, f_X12_kin_54, ↓lm_1, ↓lm_2, ↓lm_3, ↓lm_4, ↓lm_5, ↓lm_6, ↓lm_7, ↓lm_8, ↓lm_9, ↓lm_10, ↓lm_11, li_0, li_1, li_2, li_3, li_4, li_5, li_6, li_7, li_8, li_9, li_10, li_11, li_12, li_13, li_14, li_15, li_16, li_17, li_18, li_19, li_20, li_21, li_22, li_23, li_24, li_25, li_26, li_27, li_28, li_29, li_30, li_31, li_32, li_33, li_34, li_35, li_36, li_37, li_38, li_39, li_40, li_41, li_42, li_43, li_44, li_45, li_46, li_47, li_48, li_49, li_50, li_51, li_52, li_53, li_54, li_55, li_56, li_57, li_58, li_59, li_60, li_61, li_62, li_63, li_64, li_65, li_66, li_96, li_97, li_99, li_100, li_122, li_125, li_126, li_140, li_255, li_256, li_999, li_1000, li_1001, li_1002, li_1100, li_1386, li_1452, li_1518, li_9999, li_1000000, hc, decide_true, ck_t, hw.2.2.1, hle, ↓reduceIte, inb_n, nI_clamp, e2, nI_and31, nI_bt, nI_eq, nI_shl1, nI_orN, nm_eq, nI_add, kst]
    rcases bt_01 (kst (aQ A).1 a i ||| 2 ^ a) (qs (aQ A).1 (a + 1 + i)) with e | e
    · rw [if_pos e, if_neg (fun c => by have := (bt_or_p2 _ _ _).mpr c; omega)]; rfl
    · rw [if_neg (by omega), if_pos ((bt_or_p2 _ _ _).mp e), Nat.or_assoc, Nat.or_comm (2 ^ a), ← Nat.or_assoc]; rfl
theorem m_kin (hf : 1101 ≤ fu) (hA : okA A) (hM : RM v A) {a : Nat} (ha : a < qn (aQ A).1) : f_X13_kin fu v (nI a) = some (nI (kst (aQ A).1 a (qn (aQ A).1 - (a + 1))), sI v 0 (nI 0)) := by
  have hq := hA.2.1.1
  have h8 := hq.1.2.1
  have hh : MH (gA (sI v 0 (nI 0)) 24) (aQ A).1 := hM.2.2.1.1
  have e0 : f_X13_kin fu v (nI a) = f_X13_kin_22 fu fu (nI a) (nI (kst (aQ A).1 a 0)) (nI (a + 1 + 0)) (sI v 0 (nI 0)) := by
    simp (disch := omega) only [f_X13_kin, f_X13_kin_0, ↓lm_1, ↓lm_2, ↓lm_3, ↓lm_4, ↓lm_5, ↓lm_6, ↓lm_7, ↓lm_8, ↓lm_9, ↓lm_10, ↓lm_11, li_0, li_1, li_2, li_3, li_4, li_5, li_6, li_7, li_8, li_9, li_10, li_11, li_12, li_13, li_14, li_15, li_16, li_17, li_18, li_19, li_20, li_21, li_22, li_23, li_24, li_25, li_26, li_27, li_28, li_29, li_30, li_31, li_32, li_33, li_34, li_35, li_36, li_37, li_38, li_39, li_40, li_41, li_42, li_43, li_44, li_45, li_46, li_47, li_48, li_49, li_50, li_51, li_52, li_53, li_54, li_55, li_56, li_57, li_58, li_59, li_60, li_61, li_62, li_63, li_64, li_65, li_66, li_96, li_97, li_99, li_100, li_122, li_125, li_126, li_140, li_255, li_256, li_999, li_1000, li_1001, li_1002, li_1100, li_1386, li_1452, li_1518, li_9999, li_1000000, nm_eq, m0_isPiece_in hh hq ha, bd_s, n10, ↓reduceIte, nI_add, kst, Nat.add_zero]
  rw [e0, f_X13_kin_22]
  refine for3 _ (fun i => nI (kst (aQ A).1 a i)) (fun i => nI (a + 1 + i)) (fun _ => sI v 0 (nI 0)) 0 (qn (aQ A).1 - (a + 1)) _ ?_ ?_ fu (by omega) (by omega)
  · intro rec
    have hle : nI (qn (aQ A).1) ≤ nI (a + 1 + (qn (aQ A).1 - (a + 1))) := nI_le (by omega) (by omega)
    simp (disch := omega) only [f_X13_kin_22s, ↓lm_1, ↓lm_2, ↓lm_3, ↓lm_4, ↓lm_5, ↓lm_6, ↓lm_7, ↓lm_8, ↓lm_9, ↓lm_10, ↓lm_11, li_0, li_1, li_2, li_3, li_4, li_5, li_6, li_7, li_8, li_9, li_10, li_11, li_12, li_13, li_14, li_15, li_16, li_17, li_18, li_19, li_20, li_21, li_22, li_23, li_24, li_25, li_26, li_27, li_28, li_29, li_30, li_31, li_32, li_33, li_34, li_35, li_36, li_37, li_38, li_39, li_40, li_41, li_42, li_43, li_44, li_45, li_46, li_47, li_48, li_49, li_50, li_51, li_52, li_53, li_54, li_55, li_56, li_57, li_58, li_59, li_60, li_61, li_62, li_63, li_64, li_65, li_66, li_96, li_97, li_99, li_100, li_122, li_125, li_126, li_140, li_255, li_256, li_999, li_1000, li_1001, li_1002, li_1100, li_1386, li_1452, li_1518, li_9999, li_1000000, nI_clamp, hh.2.2.1, hle, ↓reduceIte]
  · intro i rec _ hi
    have hk := kst_lt (aQ A).1 a i (by omega)
    have p2 := p2_256 (s := a + 1 + i) (by omega)
    have hle : ¬ nI (qn (aQ A).1) ≤ nI (a + 1 + i) := nI_ge (by omega) (by omega)
    have hs := (hq.2.2.1 (a + 1 + i) (by omega) (by omega)).2.2
    have e2 := (hh.2.2.2.1 (a + 1 + i) (by omega)).2.2.2.1
    rw [if_neg (by omega)] at e2
    have hbt := bt_lt (kst (aQ A).1 a i) (qs (aQ A).1 (a + 1 + i))
    simp (disch := omega) only [f_X13_kin_22s, f_X13_kin_60, f_X13_kin_67, ↓lm_1, ↓lm_2, ↓lm_3, ↓lm_4, ↓lm_5, ↓lm_6, ↓lm_7, ↓lm_8, ↓lm_9, ↓lm_10, ↓lm_11, li_0, li_1, li_2, li_3, li_4, li_5, li_6, li_7, li_8, li_9, li_10, li_11, li_12, li_13, li_14, li_15, li_16, li_17, li_18, li_19, li_20, li_21, li_22, li_23, li_24, li_25, li_26, li_27, li_28, li_29, li_30, li_31, li_32, li_33, li_34, li_35, li_36, li_37, li_38, li_39, li_40, li_41, li_42, li_43, li_44, li_45, li_46, li_47, li_48, li_49, li_50, li_51, li_52, li_53, li_54, li_55, li_56, li_57, li_58, li_59, li_60, li_61, li_62, li_63, li_64, li_65, li_66, li_96, li_97, li_99, li_100, li_122, li_125, li_126, li_140, li_255, li_256, li_999, li_1000, li_1001, li_1002, li_1100, li_1386, li_1452, li_1518, li_9999, li_1000000, nI_clamp, hh.2.2.1, hle, ↓reduceIte, nI_add, nm_eq, inb_n, ck_t, e2, nI_and31, nI_bt, nI_eq, nI_shl1, nI_orN, Nat.or_zero, kst]
    by_cases e : a = qs (aQ A).1 (a + 1 + i)
    · rw [if_pos e.symm, if_pos (Or.inr e)]; rfl
    · rw [if_neg (fun c => e c.symm)]
      by_cases c : bt (kst (aQ A).1 a i) (qs (aQ A).1 (a + 1 + i)) = 1
      · rw [if_pos c, if_pos (Or.inl c)]; rfl
      · rw [if_neg c, if_neg (fun k => k.elim c e)]; rfl
theorem r_kin (hf : 1101 ≤ fu) (h : RR p S v) (x : Int32) : ∃ z v', f_X12_kin fu S p x = some z ∧ f_X13_kin fu v x = some (z, v') ∧ RR p S v' := by
  obtain ⟨A, hA, hC, hM⟩ := h
  obtain ⟨t, d, ln, dl, f, hP, hK⟩ := id hC
  have hc := hP.1.2.2.1
  have hw := hK.1.1
  have hq := hA.2.1.1
  have hh : MH (gA (sI v 0 (nI 0)) 24) (aQ A).1 := hM.2.2.1.1
  have hr : RR p S (sI v 0 (nI 0)) := RR_q hA hC hM (scr_refl p S) (mscr_sI (mscr_refl v) (by decide) (by decide) (by decide))
  by_cases hx : ∃ j, j < qn (aQ A).1 ∧ x = nI j
  · obtain ⟨a, ha, rfl⟩ := hx
    exact ⟨_, _, c_kin hf hA hC ha, m_kin hf hA hM ha, hr⟩
  · refine ⟨mI 1, _, ?_, ?_, hr⟩
    · simp only [f_X12_kin, f_X12_kin_0, ↓lm_1, ↓lm_2, ↓lm_3, ↓lm_4, ↓lm_5, ↓lm_6, ↓lm_7, ↓lm_8, ↓lm_9, ↓lm_10, ↓lm_11, li_0, li_1, li_2, li_3, li_4, li_5, li_6, li_7, li_8, li_9, li_10, li_11, li_12, li_13, li_14, li_15, li_16, li_17, li_18, li_19, li_20, li_21, li_22, li_23, li_24, li_25, li_26, li_27, li_28, li_29, li_30, li_31, li_32, li_33, li_34, li_35, li_36, li_37, li_38, li_39, li_40, li_41, li_42, li_43, li_44, li_45, li_46, li_47, li_48, li_49, li_50, li_51, li_52, li_53, li_54, li_55, li_56, li_57, li_58, li_59, li_60, li_61, li_62, li_63, li_64, li_65, li_66, li_96, li_97, li_99, li_100, li_122, li_125, li_126, li_140, li_255, li_256, li_999, li_1000, li_1001, li_1002, li_1100, li_1386, li_1452, li_1518, li_9999, li_1000000, hc, decide_true, ck_t, x3_isThere_out hw hq hx, bd_s, ↓reduceIte]
    · simp only [f_X13_kin, f_X13_kin_0, ↓lm_1, ↓lm_2, ↓lm_3, ↓lm_4, ↓lm_5, ↓lm_6, ↓lm_7, ↓lm_8, ↓lm_9, ↓lm_10, ↓lm_11, li_0, li_1, li_2, li_3, li_4, li_5, li_6, li_7, li_8, li_9, li_10, li_11, li_12, li_13, li_14, li_15, li_16, li_17, li_18, li_19, li_20, li_21, li_22, li_23, li_24, li_25, li_26, li_27, li_28, li_29, li_30, li_31, li_32, li_33, li_34, li_35, li_36, li_37, li_38, li_39, li_40, li_41, li_42, li_43, li_44, li_45, li_46, li_47, li_48, li_49, li_50, li_51, li_52, li_53, li_54, li_55, li_56, li_57, li_58, li_59, li_60, li_61, li_62, li_63, li_64, li_65, li_66, li_96, li_97, li_99, li_100, li_122, li_125, li_126, li_140, li_255, li_256, li_999, li_1000, li_1001, li_1002, li_1100, li_1386, li_1452, li_1518, li_9999, li_1000000, nm_eq, m0_isPiece_out hh hq hx, bd_s, ↓reduceIte]
theorem bs8 : ∀ x k, bs x k ≤ k := bs_le
theorem pcn30 (x : Nat) : pcn x ≤ 30 := bs_le x 30
theorem c_nearest (hf : 1101 ≤ fu) (hA : okA A) (hC : RC p S A) {a : Nat} (ha : a < qn (aQ A).1) : f_X12_nearest fu S p (nI a) = some (oI (nst (aQ A).1 a (qn (aQ A).1))) := by
  obtain ⟨t, d, ln, dl, f, hP, hK⟩ := id hC
  have hc := hP.1.2.2.1
  have hw := hK.1.1
  have hq := hA.2.1.1
  have hG := hA.1
  have h5 := hG.2.1
  have h8 := hq.1.2.1
  simp only [f_X12_nearest, f_X12_nearest_0, f_X12_nearest_17, ↓lm_1, ↓lm_2, ↓lm_3, ↓lm_4, ↓lm_5, ↓lm_6, ↓lm_7, ↓lm_8, ↓lm_9, ↓lm_10, ↓lm_11, li_0, li_1, li_2, li_3, li_4, li_5, li_6, li_7, li_8, li_9, li_10, li_11, li_12, li_13, li_14, li_15, li_16, li_17, li_18, li_19, li_20, li_21, li_22, li_23, li_24, li_25, li_26, li_27, li_28, li_29, li_30, li_31, li_32, li_33, li_34, li_35, li_36, li_37, li_38, li_39, li_40, li_41, li_42, li_43, li_44, li_45, li_46, li_47, li_48, li_49, li_50, li_51, li_52, li_53, li_54, li_55, li_56, li_57, li_58, li_59, li_60, li_61, li_62, li_63, li_64, li_65, li_66, li_96, li_97, li_99, li_100, li_122, li_125, li_126, li_140, li_255, li_256, li_999, li_1000, li_1001, li_1002, li_1100, li_1386, li_1452, li_1518, li_9999, li_1000000, hc, decide_true, ck_t, x3_isThere_in hw hq ha, bd_s, n10, ↓reduceIte]
  refine for2 _ (fun k => oI (nst (aQ A).1 a k)) (fun k => nI k) 0 (qn (aQ A).1) _ ?_ ?_ fu (by omega) (by omega)
  · intro rec
    simp (disch := omega) only [f_X12_nearest_17s, ↓lm_1, ↓lm_2, ↓lm_3, ↓lm_4, ↓lm_5, ↓lm_6, ↓lm_7, ↓lm_8, ↓lm_9, ↓lm_10, ↓lm_11, li_0, li_1, li_2, li_3, li_4, li_5, li_6, li_7, li_8, li_9, li_10, li_11, li_12, li_13, li_14, li_15, li_16, li_17, li_18, li_19, li_20, li_21, li_22, li_23, li_24, li_25, li_26, li_27, li_28, li_29, li_30, li_31, li_32, li_33, li_34, li_35, li_36, li_37, li_38, li_39, li_40, li_41, li_42, li_43, li_44, li_45, li_46, li_47, li_48, li_49, li_50, li_51, li_52, li_53, li_54, li_55, li_56, li_57, li_58, li_59, li_60, li_61, li_62, li_63, li_64, li_65, li_66, li_96, li_97, li_99, li_100, li_122, li_125, li_126, li_140, li_255, li_256, li_999, li_1000, li_1001, li_1002, li_1100, li_1386, li_1452, li_1518, li_9999, li_1000000, hc, decide_true, ck_t, hw.2.2.1, nI_leI, Nat.le_refl, ↓reduceIte]
  · intro k rec _ hk
    have hle : ¬ nI (qn (aQ A).1) ≤ nI k := nI_ge hk (by omega)
    have hb := (hq.2.1 k hk).2.2
    simp (disch := omega) only [f_X12_nearest_17s, f_X12_nearest_51, f_X12_nearest_52, f_X12_nearest_85, f_X12_nearest_87, ↓lm_1, ↓lm_2, ↓lm_3, ↓lm_4, ↓lm_5, ↓lm_6, ↓lm_7, ↓lm_8, ↓lm_9, ↓lm_10, ↓lm_11, li_0, li_1, li_2, li_3, li_4, li_5, li_6, li_7, li_8, li_9, li_10, li_11, li_12, li_13, li_14, li_15, li_16, li_17, li_18, li_19, li_20, li_21, li_22, li_23, li_24, li_25, li_26, li_27, li_28, li_29, li_30, li_31, li_32, li_33, li_34, li_35, li_36, li_37, li_38, li_39, li_40, li_41, li_42, li_43, li_44, li_45, li_46, li_47, li_48, li_49, li_50, li_51, li_52, li_53, li_54, li_55, li_56, li_57, li_58, li_59, li_60, li_61, li_62, li_63, li_64, li_65, li_66, li_96, li_97, li_99, li_100, li_122, li_125, li_126, li_140, li_255, li_256, li_999, li_1000, li_1001, li_1002, li_1100, li_1386, li_1452, li_1518, li_9999, li_1000000, hc, decide_true, ck_t, hw.2.2.1, hle, ↓reduceIte, inb_n, nI_clamp, (hw.2.2.2.2.2.1 k hk).2.1, nI_eq, nm_eq, nI_add, Nat.one_ne_zero, nst]
    by_cases e1 : k = a
    · rw [if_pos e1, if_pos (Or.inl e1)]
    · rw [if_neg e1]
      by_cases e2 : qh (aQ A).1 k = 6
      · rw [if_pos e2, if_pos (Or.inr e2)]
      · rw [if_neg e2, if_neg (show ¬ (k = a ∨ qh (aQ A).1 k = 6) from fun c => c.elim e1 e2)]
        cases hn : nst (aQ A).1 a k with
        | none => simp only [oI, ↓reduceIte]
        | some j =>
          have hj := nst_lt _ _ _ _ hn
          have b1 := pcn30 (qo (aQ A).1 a ^^^ qo (aQ A).1 j)
          have b2 := pcn30 (qo (aQ A).1 a ^^^ qo (aQ A).1 k)
          have hm : ¬ nI j = mI 1 := nI_nem (by omega) (by omega) (by omega)
          simp (disch := omega) only [oI, hm, ↓reduceIte, x3_apart hw hq ha (show j < qn (aQ A).1 by omega), x3_apart hw hq ha hk, bd_s, nI_leI]
          split <;> rfl
theorem m_nearest (hf : 1101 ≤ fu) (hA : okA A) (hM : RM v A) {a : Nat} (ha : a < qn (aQ A).1) : f_X13_nearest fu v (nI a) = some (oI (nst (aQ A).1 a (qn (aQ A).1)), sI v 0 (nI 0)) := by
  have hq := hA.2.1.1
  have hG := hA.1
  have h5 := hG.2.1
  have h8 := hq.1.2.1
  have hh : MH (gA (sI v 0 (nI 0)) 24) (aQ A).1 := hM.2.2.1.1
  simp only [f_X13_nearest, f_X13_nearest_0, f_X13_nearest_9, ↓lm_1, ↓lm_2, ↓lm_3, ↓lm_4, ↓lm_5, ↓lm_6, ↓lm_7, ↓lm_8, ↓lm_9, ↓lm_10, ↓lm_11, li_0, li_1, li_2, li_3, li_4, li_5, li_6, li_7, li_8, li_9, li_10, li_11, li_12, li_13, li_14, li_15, li_16, li_17, li_18, li_19, li_20, li_21, li_22, li_23, li_24, li_25, li_26, li_27, li_28, li_29, li_30, li_31, li_32, li_33, li_34, li_35, li_36, li_37, li_38, li_39, li_40, li_41, li_42, li_43, li_44, li_45, li_46, li_47, li_48, li_49, li_50, li_51, li_52, li_53, li_54, li_55, li_56, li_57, li_58, li_59, li_60, li_61, li_62, li_63, li_64, li_65, li_66, li_96, li_97, li_99, li_100, li_122, li_125, li_126, li_140, li_255, li_256, li_999, li_1000, li_1001, li_1002, li_1100, li_1386, li_1452, li_1518, li_9999, li_1000000, nm_eq]
  refine for3 _ (fun k => oI (nst (aQ A).1 a k)) (fun k => nI k) (fun _ => sI v 0 (nI 0)) 0 (qn (aQ A).1) _ ?_ ?_ fu (by omega) (by omega)
  · intro rec
    simp (disch := omega) only [f_X13_nearest_9s, f_X13_nearest_90, ↓lm_1, ↓lm_2, ↓lm_3, ↓lm_4, ↓lm_5, ↓lm_6, ↓lm_7, ↓lm_8, ↓lm_9, ↓lm_10, ↓lm_11, li_0, li_1, li_2, li_3, li_4, li_5, li_6, li_7, li_8, li_9, li_10, li_11, li_12, li_13, li_14, li_15, li_16, li_17, li_18, li_19, li_20, li_21, li_22, li_23, li_24, li_25, li_26, li_27, li_28, li_29, li_30, li_31, li_32, li_33, li_34, li_35, li_36, li_37, li_38, li_39, li_40, li_41, li_42, li_43, li_44, li_45, li_46, li_47, li_48, li_49, li_50, li_51, li_52, li_53, li_54, li_55, li_56, li_57, li_58, li_59, li_60, li_61, li_62, li_63, li_64, li_65, li_66, li_96, li_97, li_99, li_100, li_122, li_125, li_126, li_140, li_255, li_256, li_999, li_1000, li_1001, li_1002, li_1100, li_1386, li_1452, li_1518, li_9999, li_1000000, nI_clamp, hh.2.2.1, nI_leI, Nat.le_refl, ↓reduceIte]
  · intro k rec _ hk
    have hle : ¬ nI (qn (aQ A).1) ≤ nI k := nI_ge hk (by omega)
    have hb := (hq.2.1 k hk).2.2
    simp (disch := omega) only [f_X13_nearest_9s, f_X13_nearest_90, f_X13_nearest_51, f_X13_nearest_52, f_X13_nearest_78, f_X13_nearest_82, f_X13_nearest_83, ↓lm_1, ↓lm_2, ↓lm_3, ↓lm_4, ↓lm_5, ↓lm_6, ↓lm_7, ↓lm_8, ↓lm_9, ↓lm_10, ↓lm_11, li_0, li_1, li_2, li_3, li_4, li_5, li_6, li_7, li_8, li_9, li_10, li_11, li_12, li_13, li_14, li_15, li_16, li_17, li_18, li_19, li_20, li_21, li_22, li_23, li_24, li_25, li_26, li_27, li_28, li_29, li_30, li_31, li_32, li_33, li_34, li_35, li_36, li_37, li_38, li_39, li_40, li_41, li_42, li_43, li_44, li_45, li_46, li_47, li_48, li_49, li_50, li_51, li_52, li_53, li_54, li_55, li_56, li_57, li_58, li_59, li_60, li_61, li_62, li_63, li_64, li_65, li_66, li_96, li_97, li_99, li_100, li_122, li_125, li_126, li_140, li_255, li_256, li_999, li_1000, li_1001, li_1002, li_1100, li_1386, li_1452, li_1518, li_9999, li_1000000, nI_clamp, hh.2.2.1, hle, ↓reduceIte, m0_isPiece_in hh hq ha, bd_s, n10, inb_n, ck_t, (hh.2.2.2.1 k hk).2.1, nI_eq, nm_eq, nI_add, Nat.one_ne_zero, nst]
    by_cases e1 : k = a
    · rw [if_pos e1, if_pos (Or.inl e1)]
    · rw [if_neg e1]
      by_cases e2 : qh (aQ A).1 k = 6
      · rw [if_pos e2, if_pos (Or.inr e2)]
      · rw [if_neg e2, if_neg (show ¬ (k = a ∨ qh (aQ A).1 k = 6) from fun c => c.elim e1 e2)]
        cases hn : nst (aQ A).1 a k with
        | none =>
          have hm : mI 1 < nI 0 := by decide
          simp only [oI, hm, ↓reduceIte]
        | some j =>
          have hj := nst_lt _ _ _ _ hn
          have b1 := pcn30 (qo (aQ A).1 a ^^^ qo (aQ A).1 j)
          have b2 := pcn30 (qo (aQ A).1 a ^^^ qo (aQ A).1 k)
          have hm : ¬ nI j < nI 0 := nI_nlt (by omega) (by omega)
          simp (disch := omega) only [oI, hm, ↓reduceIte, m0_distanceOf hf hh hq ha (show j < qn (aQ A).1 by omega), m0_distanceOf hf hh hq ha hk, bd_s, nI_leI]
          split <;> rfl
theorem r_nearest (hf : 1101 ≤ fu) (h : RR p S v) (x : Int32) : ∃ z v', f_X12_nearest fu S p x = some z ∧ f_X13_nearest fu v x = some (z, v') ∧ RR p S v' := by
  obtain ⟨A, hA, hC, hM⟩ := h
  obtain ⟨t, d, ln, dl, f, hP, hK⟩ := id hC
  have hc := hP.1.2.2.1
  have hw := hK.1.1
  have hq := hA.2.1.1
  have h1 := hq.1.1
  have h8 := hq.1.2.1
  have hh : MH (gA (sI v 0 (nI 0)) 24) (aQ A).1 := hM.2.2.1.1
  have hr : RR p S (sI v 0 (nI 0)) := RR_q hA hC hM (scr_refl p S) (mscr_sI (mscr_refl v) (by decide) (by decide) (by decide))
  by_cases hx : ∃ j, j < qn (aQ A).1 ∧ x = nI j
  · obtain ⟨a, ha, rfl⟩ := hx
    exact ⟨_, _, c_nearest hf hA hC ha, m_nearest hf hA hM ha, hr⟩
  · refine ⟨mI 1, _, ?_, ?_, hr⟩
    · simp only [f_X12_nearest, f_X12_nearest_0, ↓lm_1, ↓lm_2, ↓lm_3, ↓lm_4, ↓lm_5, ↓lm_6, ↓lm_7, ↓lm_8, ↓lm_9, ↓lm_10, ↓lm_11, li_0, li_1, li_2, li_3, li_4, li_5, li_6, li_7, li_8, li_9, li_10, li_11, li_12, li_13, li_14, li_15, li_16, li_17, li_18, li_19, li_20, li_21, li_22, li_23, li_24, li_25, li_26, li_27, li_28, li_29, li_30, li_31, li_32, li_33, li_34, li_35, li_36, li_37, li_38, li_39, li_40, li_41, li_42, li_43, li_44, li_45, li_46, li_47, li_48, li_49, li_50, li_51, li_52, li_53, li_54, li_55, li_56, li_57, li_58, li_59, li_60, li_61, li_62, li_63, li_64, li_65, li_66, li_96, li_97, li_99, li_100, li_122, li_125, li_126, li_140, li_255, li_256, li_999, li_1000, li_1001, li_1002, li_1100, li_1386, li_1452, li_1518, li_9999, li_1000000, hc, decide_true, ck_t, x3_isThere_out hw hq hx, bd_s, ↓reduceIte]
    · obtain ⟨n, rfl⟩ : ∃ n, fu = n + 1 := ⟨fu - 1, by omega⟩
      have hle : ¬ nI (qn (aQ A).1) ≤ nI 0 := nI_ge (by omega) (by omega)
      simp (disch := omega) only [f_X13_nearest, f_X13_nearest_0, f_X13_nearest_9, lq3_s, f_X13_nearest_9s, f_X13_nearest_90, ↓lm_1, ↓lm_2, ↓lm_3, ↓lm_4, ↓lm_5, ↓lm_6, ↓lm_7, ↓lm_8, ↓lm_9, ↓lm_10, ↓lm_11, li_0, li_1, li_2, li_3, li_4, li_5, li_6, li_7, li_8, li_9, li_10, li_11, li_12, li_13, li_14, li_15, li_16, li_17, li_18, li_19, li_20, li_21, li_22, li_23, li_24, li_25, li_26, li_27, li_28, li_29, li_30, li_31, li_32, li_33, li_34, li_35, li_36, li_37, li_38, li_39, li_40, li_41, li_42, li_43, li_44, li_45, li_46, li_47, li_48, li_49, li_50, li_51, li_52, li_53, li_54, li_55, li_56, li_57, li_58, li_59, li_60, li_61, li_62, li_63, li_64, li_65, li_66, li_96, li_97, li_99, li_100, li_122, li_125, li_126, li_140, li_255, li_256, li_999, li_1000, li_1001, li_1002, li_1100, li_1386, li_1452, li_1518, li_9999, li_1000000, nm_eq, nI_clamp, hh.2.2.1, hle, ↓reduceIte, m0_isPiece_out hh hq hx, bd_s]
theorem r_meet (hf : 1101 ≤ fu) (h : RR p S v) (x : Int32) : ∃ z v', f_X12_meet fu S p x = some z ∧ f_X13_meet fu v x = some (z, v') ∧ RR p S v' := by
  obtain ⟨A, hA, hC, hM⟩ := h
  obtain ⟨t, d, ln, dl, f, hP, hK⟩ := id hC
  have hc := hP.1.2.2.1
  have hct := hP.2.1.1
  have hrt := hP.2.2.2.2.1.1
  have hw := hK.1.1
  have hG := hA.1
  have h5 := hG.2.1
  have hgc := hK.2.1
  have hh : MH (gA (sI v 0 (nI 0)) 24) (aQ A).1 := hM.2.2.1.1
  have hg : MG (sI v 0 (nI 0)) (aG A) := hM.2.1
  have hr0 : RR p S (sI v 0 (nI 0)) := RR_q hA hC hM (scr_refl p S) (mscr_sI (mscr_refl v) (by decide) (by decide) (by decide))
  by_cases hx : ∃ j, j < nt (aG A) ∧ x = nI j
  · obtain ⟨a, ha, rfl⟩ := hx
    refine ⟨nI (setb (mtc (aG A) (aQ A).1 a) (nt (aG A))), _, ?_, ?_, hr0⟩
    · simp (disch := omega) only [f_X12_meet, f_X12_meet_0, f_X12_meet_38, ↓lm_1, ↓lm_2, ↓lm_3, ↓lm_4, ↓lm_5, ↓lm_6, ↓lm_7, ↓lm_8, ↓lm_9, ↓lm_10, ↓lm_11, li_0, li_1, li_2, li_3, li_4, li_5, li_6, li_7, li_8, li_9, li_10, li_11, li_12, li_13, li_14, li_15, li_16, li_17, li_18, li_19, li_20, li_21, li_22, li_23, li_24, li_25, li_26, li_27, li_28, li_29, li_30, li_31, li_32, li_33, li_34, li_35, li_36, li_37, li_38, li_39, li_40, li_41, li_42, li_43, li_44, li_45, li_46, li_47, li_48, li_49, li_50, li_51, li_52, li_53, li_54, li_55, li_56, li_57, li_58, li_59, li_60, li_61, li_62, li_63, li_64, li_65, li_66, li_96, li_97, li_99, li_100, li_122, li_125, li_126, li_140, li_255, li_256, li_999, li_1000, li_1001, li_1002, li_1100, li_1386, li_1452, li_1518, li_9999, li_1000000, hc, hrt, hct, decide_true, ck_t, x1_hasThief_in hgc hG ha, bd_s, n10, ↓reduceIte, nm_eq, inb_n, nI_clamp, (hgc.2.2.2.2.1 a ha).2.2, hw.2.2.2.2.1]
      refine for2 _ (fun k => nI (setb (mtc (aG A) (aQ A).1 a) k)) (fun k => nI k) 0 (nt (aG A)) _ ?_ ?_ fu (by omega) (by omega)
      · intro rec
        simp (disch := omega) only [f_X12_meet_38s, ↓lm_1, ↓lm_2, ↓lm_3, ↓lm_4, ↓lm_5, ↓lm_6, ↓lm_7, ↓lm_8, ↓lm_9, ↓lm_10, ↓lm_11, li_0, li_1, li_2, li_3, li_4, li_5, li_6, li_7, li_8, li_9, li_10, li_11, li_12, li_13, li_14, li_15, li_16, li_17, li_18, li_19, li_20, li_21, li_22, li_23, li_24, li_25, li_26, li_27, li_28, li_29, li_30, li_31, li_32, li_33, li_34, li_35, li_36, li_37, li_38, li_39, li_40, li_41, li_42, li_43, li_44, li_45, li_46, li_47, li_48, li_49, li_50, li_51, li_52, li_53, li_54, li_55, li_56, li_57, li_58, li_59, li_60, li_61, li_62, li_63, li_64, li_65, li_66, li_96, li_97, li_99, li_100, li_122, li_125, li_126, li_140, li_255, li_256, li_999, li_1000, li_1001, li_1002, li_1100, li_1386, li_1452, li_1518, li_9999, li_1000000, hrt, hct, decide_true, ck_t, bd_s, hgc.2.2.1, nI_leI, Nat.le_refl, ↓reduceIte]
      · intro k rec _ hk
        have hle : ¬ nI (nt (aG A)) ≤ nI k := nI_ge hk (by omega)
        simp (disch := omega) only [f_X12_meet_38s, f_X12_meet_78, ↓lm_1, ↓lm_2, ↓lm_3, ↓lm_4, ↓lm_5, ↓lm_6, ↓lm_7, ↓lm_8, ↓lm_9, ↓lm_10, ↓lm_11, li_0, li_1, li_2, li_3, li_4, li_5, li_6, li_7, li_8, li_9, li_10, li_11, li_12, li_13, li_14, li_15, li_16, li_17, li_18, li_19, li_20, li_21, li_22, li_23, li_24, li_25, li_26, li_27, li_28, li_29, li_30, li_31, li_32, li_33, li_34, li_35, li_36, li_37, li_38, li_39, li_40, li_41, li_42, li_43, li_44, li_45, li_46, li_47, li_48, li_49, li_50, li_51, li_52, li_53, li_54, li_55, li_56, li_57, li_58, li_59, li_60, li_61, li_62, li_63, li_64, li_65, li_66, li_96, li_97, li_99, li_100, li_122, li_125, li_126, li_140, li_255, li_256, li_999, li_1000, li_1001, li_1002, li_1100, li_1386, li_1452, li_1518, li_9999, li_1000000, hrt, hct, decide_true, ck_t, bd_s, hgc.2.2.1, hle, ↓reduceIte, nI_eq, inb_n, nI_clamp, (hgc.2.2.2.2.1 k hk).2.2, nm_eq, nI_add, nI_and31, nI_shl1, setb, mtc, decide_eq_true_eq]
        by_cases e : k = a
        · rw [if_pos e, if_neg (fun c => c.1 e)]
        · rw [if_neg e]
          by_cases c : nI (hr (aG A) k) &&& (nI (hr (aG A) a) &&& (nI (qg (aQ A).1) ^^^ mI 1)) = nI 0
          · rw [if_pos c, if_neg (fun z => z.2 c)]
          · rw [if_neg c, if_pos ⟨e, c⟩, ← setb_step _ (by omega)]
    · simp (disch := omega) only [f_X13_meet, f_X13_meet_0, f_X13_meet_19, ↓lm_1, ↓lm_2, ↓lm_3, ↓lm_4, ↓lm_5, ↓lm_6, ↓lm_7, ↓lm_8, ↓lm_9, ↓lm_10, ↓lm_11, li_0, li_1, li_2, li_3, li_4, li_5, li_6, li_7, li_8, li_9, li_10, li_11, li_12, li_13, li_14, li_15, li_16, li_17, li_18, li_19, li_20, li_21, li_22, li_23, li_24, li_25, li_26, li_27, li_28, li_29, li_30, li_31, li_32, li_33, li_34, li_35, li_36, li_37, li_38, li_39, li_40, li_41, li_42, li_43, li_44, li_45, li_46, li_47, li_48, li_49, li_50, li_51, li_52, li_53, li_54, li_55, li_56, li_57, li_58, li_59, li_60, li_61, li_62, li_63, li_64, li_65, li_66, li_96, li_97, li_99, li_100, li_122, li_125, li_126, li_140, li_255, li_256, li_999, li_1000, li_1001, li_1002, li_1100, li_1386, li_1452, li_1518, li_9999, li_1000000, nm_eq, m_isThief_in hg hG ha, bd_s, n10, ↓reduceIte]
      refine for3 _ (fun k => nI (setb (mtc (aG A) (aQ A).1 a) k)) (fun k => nI k) (fun _ => sI v 0 (nI 0)) 0 (nt (aG A)) _ ?_ ?_ fu (by omega) (by omega)
      · intro rec
        simp (disch := omega) only [f_X13_meet_19s, ↓lm_1, ↓lm_2, ↓lm_3, ↓lm_4, ↓lm_5, ↓lm_6, ↓lm_7, ↓lm_8, ↓lm_9, ↓lm_10, ↓lm_11, li_0, li_1, li_2, li_3, li_4, li_5, li_6, li_7, li_8, li_9, li_10, li_11, li_12, li_13, li_14, li_15, li_16, li_17, li_18, li_19, li_20, li_21, li_22, li_23, li_24, li_25, li_26, li_27, li_28, li_29, li_30, li_31, li_32, li_33, li_34, li_35, li_36, li_37, li_38, li_39, li_40, li_41, li_42, li_43, li_44, li_45, li_46, li_47, li_48, li_49, li_50, li_51, li_52, li_53, li_54, li_55, li_56, li_57, li_58, li_59, li_60, li_61, li_62, li_63, li_64, li_65, li_66, li_96, li_97, li_99, li_100, li_122, li_125, li_126, li_140, li_255, li_256, li_999, li_1000, li_1001, li_1002, li_1100, li_1386, li_1452, li_1518, li_9999, li_1000000, x13_thieves hg.2.1, bd_s, nI_leI, Nat.le_refl, ↓reduceIte]
      · intro k rec _ hk
        have hle : ¬ nI (nt (aG A)) ≤ nI k := nI_ge hk (by omega)
        have hz := setb_lt' (mtc (aG A) (aQ A).1 a) (k := k) (by omega)
        simp (disch := omega) only [f_X13_meet_19s, f_X13_meet_61, f_X13_meet_62, f_X13_meet_77, ↓lm_1, ↓lm_2, ↓lm_3, ↓lm_4, ↓lm_5, ↓lm_6, ↓lm_7, ↓lm_8, ↓lm_9, ↓lm_10, ↓lm_11, li_0, li_1, li_2, li_3, li_4, li_5, li_6, li_7, li_8, li_9, li_10, li_11, li_12, li_13, li_14, li_15, li_16, li_17, li_18, li_19, li_20, li_21, li_22, li_23, li_24, li_25, li_26, li_27, li_28, li_29, li_30, li_31, li_32, li_33, li_34, li_35, li_36, li_37, li_38, li_39, li_40, li_41, li_42, li_43, li_44, li_45, li_46, li_47, li_48, li_49, li_50, li_51, li_52, li_53, li_54, li_55, li_56, li_57, li_58, li_59, li_60, li_61, li_62, li_63, li_64, li_65, li_66, li_96, li_97, li_99, li_100, li_122, li_125, li_126, li_140, li_255, li_256, li_999, li_1000, li_1001, li_1002, li_1100, li_1386, li_1452, li_1518, li_9999, li_1000000, x13_thieves hg.2.1, bd_s, hle, ↓reduceIte, nI_eq, m_hours hg hG ha, m_hours hg hG hk, nI_clamp, hh.2.1, nm_eq, nI_add, nI_and31, nI_shl1, setb, mtc, decide_eq_true_eq, Nat.one_ne_zero]
        have ec : nI (hr (aG A) a) &&& nI (hr (aG A) k) &&& (nI (qg (aQ A).1) ^^^ mI 1) = nI (hr (aG A) k) &&& (nI (hr (aG A) a) &&& (nI (qg (aQ A).1) ^^^ mI 1)) := by
          rw [Int32.and_comm (nI (hr (aG A) a)), Int32.and_assoc]
        rw [ec]
        have e0 : nI (setb (mtc (aG A) (aQ A).1 a) k) ||| nI 0 = nI (setb (mtc (aG A) (aQ A).1 a) k) := by rw [nI_orN (by omega) (by omega), Nat.or_zero]
        have e0' := e0
        have eP := setb_step (mtc (aG A) (aQ A).1 a) (k := k) (by omega)
        by_cases e : k = a
        · rw [if_pos e, if_neg (fun c => c.1 e), e0]
        · rw [if_neg e]
          by_cases c : nI (hr (aG A) k) &&& (nI (hr (aG A) a) &&& (nI (qg (aQ A).1) ^^^ mI 1)) = nI 0
          · rw [if_pos c, if_neg (fun z => z.2 c), e0]
          · rw [if_neg c, if_pos ⟨e, c⟩, eP]
  · refine ⟨mI 1, _, ?_, ?_, hr0⟩
    · simp only [f_X12_meet, f_X12_meet_0, ↓lm_1, ↓lm_2, ↓lm_3, ↓lm_4, ↓lm_5, ↓lm_6, ↓lm_7, ↓lm_8, ↓lm_9, ↓lm_10, ↓lm_11, li_0, li_1, li_2, li_3, li_4, li_5, li_6, li_7, li_8, li_9, li_10, li_11, li_12, li_13, li_14, li_15, li_16, li_17, li_18, li_19, li_20, li_21, li_22, li_23, li_24, li_25, li_26, li_27, li_28, li_29, li_30, li_31, li_32, li_33, li_34, li_35, li_36, li_37, li_38, li_39, li_40, li_41, li_42, li_43, li_44, li_45, li_46, li_47, li_48, li_49, li_50, li_51, li_52, li_53, li_54, li_55, li_56, li_57, li_58, li_59, li_60, li_61, li_62, li_63, li_64, li_65, li_66, li_96, li_97, li_99, li_100, li_122, li_125, li_126, li_140, li_255, li_256, li_999, li_1000, li_1001, li_1002, li_1100, li_1386, li_1452, li_1518, li_9999, li_1000000, hrt, hct, decide_true, ck_t, x1_hasThief_out hgc hG hx, bd_s, ↓reduceIte]
    · simp only [f_X13_meet, f_X13_meet_0, ↓lm_1, ↓lm_2, ↓lm_3, ↓lm_4, ↓lm_5, ↓lm_6, ↓lm_7, ↓lm_8, ↓lm_9, ↓lm_10, ↓lm_11, li_0, li_1, li_2, li_3, li_4, li_5, li_6, li_7, li_8, li_9, li_10, li_11, li_12, li_13, li_14, li_15, li_16, li_17, li_18, li_19, li_20, li_21, li_22, li_23, li_24, li_25, li_26, li_27, li_28, li_29, li_30, li_31, li_32, li_33, li_34, li_35, li_36, li_37, li_38, li_39, li_40, li_41, li_42, li_43, li_44, li_45, li_46, li_47, li_48, li_49, li_50, li_51, li_52, li_53, li_54, li_55, li_56, li_57, li_58, li_59, li_60, li_61, li_62, li_63, li_64, li_65, li_66, li_96, li_97, li_99, li_100, li_122, li_125, li_126, li_140, li_255, li_256, li_999, li_1000, li_1001, li_1002, li_1100, li_1386, li_1452, li_1518, li_9999, li_1000000, nm_eq, m_isThief_out hg hG hx, bd_s, ↓reduceIte]
end Q
