/-! ===== gallery: one part of a law ===== -/
theorem fbit {th r : Nat} (ht : th = 2 ∨ th = 3) (hr : r < 4) : ((nI (3 + 2 ^ th) >>> (nI r &&& nI 31)) &&& nI 1) = nI 1 ↔ (r = 0 ∨ r = 1 ∨ r = th) := by
  rcases ht with rfl | rfl
  · have h : (List.range 4).all (fun r => decide (((nI (3 + 2 ^ 2) >>> (nI r &&& nI 31)) &&& nI 1) = nI 1 ↔ (r = 0 ∨ r = 1 ∨ r = 2))) = true := by decide +kernel
    exact co_dec (P := fun r => ((nI (3 + 2 ^ 2) >>> (nI r &&& nI 31)) &&& nI 1) = nI 1 ↔ (r = 0 ∨ r = 1 ∨ r = 2)) h hr
  · have h : (List.range 4).all (fun r => decide (((nI (3 + 2 ^ 3) >>> (nI r &&& nI 31)) &&& nI 1) = nI 1 ↔ (r = 0 ∨ r = 1 ∨ r = 3))) = true := by decide +kernel
    exact co_dec (P := fun r => ((nI (3 + 2 ^ 3) >>> (nI r &&& nI 31)) &&& nI 1) = nI 1 ↔ (r = 0 ∨ r = 1 ∨ r = 3)) h hr
def isF (K : KT) (a fl th : Nat) : Bool := decide (tI K a fl = 26 ∨ tI K a fl = 27 ∨ tI K a fl = 26 + th)
theorem isF_t {K : KT} {a fl th : Nat} (h : isF K a fl th = true) : tI K a fl = 26 ∨ tI K a fl = 27 ∨ tI K a fl = 26 + th := of_decide_eq_true h
theorem isF_f {K : KT} {a fl th : Nat} (h : isF K a fl th = false) : ¬ (tI K a fl = 26 ∨ tI K a fl = 27 ∨ tI K a fl = 26 + th) := of_decide_eq_false h
section Q
variable {fu p th c0 : Nat} {K : KT} {w : GV} {S : ST} {v : GV} {a fl u : Nat}
theorem x5_isFact (hK : okK K) (hw : CB w K) (gw : gC w = 8) (ht : th = 2 ∨ th = 3) (hE : PE K w p th c0 S v a fl u) : f_X5_isFact fu S (p + 7) = some (b01 (isF K a fl th)) := by
  have r0 := hE.2.2.1.2.1
  have r3 := hE.2.2.1.2.2.1
  have s1 := hE.2.1
  have g8 : gC (tw w a fl) = 8 := gw
  have i1 := x8_isAtW (fu := fu) (i := 26) hK hw hE.1 (by omega) (by omega)
  have i2 := x8_isAtW (fu := fu) (i := 27) hK hw hE.1 (by omega) (by omega)
  have i3 := x8_isAtW (fu := fu) (i := 26 + th) hK hw hE.1 (by omega) (by omega)
  have e30 : 26 + th < 30 := by omega
  have cl : (nI (26 + th)).toNatClampNeg = 26 + th := nI_clamp (by omega)
  by_cases c1 : tI K a fl = 26
  · rw [decide_eq_true c1] at i1
    rw [show isF K a fl th = true from decide_eq_true (Or.inl c1)]
    simp only [f_X5_isFact, f_X5_isFact_0, f_X5_isFact_40, ↓lm_1, ↓lm_2, ↓lm_3, ↓lm_4, ↓lm_5, ↓lm_6, ↓lm_7, ↓lm_8, ↓lm_9, ↓lm_10, ↓lm_11, li_0, li_1, li_2, li_3, li_4, li_5, li_6, li_7, li_8, li_9, li_10, li_11, li_12, li_13, li_14, li_15, li_16, li_17, li_18, li_19, li_20, li_21, li_22, li_23, li_24, li_25, li_26, li_27, li_28, li_29, li_30, li_31, li_32, li_33, li_34, li_35, li_36, li_37, li_38, li_39, li_40, li_41, li_42, li_43, li_44, li_45, li_46, li_47, li_48, li_49, li_50, li_51, li_52, li_53, li_54, li_55, li_56, li_57, li_58, li_59, li_60, li_61, li_62, li_63, li_64, li_65, li_66, li_96, li_97, li_99, li_100, li_122, li_125, li_126, li_140, li_255, li_256, li_999, li_1000, li_1001, li_1002, li_1100, li_1386, li_1452, li_1518, li_9999, li_1000000, r0, bd_s, s1, g8, decide_true, ck_t, i1, b01_t, n10, ↓reduceIte]
  · rw [decide_eq_false c1] at i1
    by_cases c2 : tI K a fl = 27
    · rw [decide_eq_true c2] at i2
      rw [show isF K a fl th = true from decide_eq_true (Or.inr (Or.inl c2))]
      simp only [f_X5_isFact, f_X5_isFact_0, f_X5_isFact_40, ↓lm_1, ↓lm_2, ↓lm_3, ↓lm_4, ↓lm_5, ↓lm_6, ↓lm_7, ↓lm_8, ↓lm_9, ↓lm_10, ↓lm_11, li_0, li_1, li_2, li_3, li_4, li_5, li_6, li_7, li_8, li_9, li_10, li_11, li_12, li_13, li_14, li_15, li_16, li_17, li_18, li_19, li_20, li_21, li_22, li_23, li_24, li_25, li_26, li_27, li_28, li_29, li_30, li_31, li_32, li_33, li_34, li_35, li_36, li_37, li_38, li_39, li_40, li_41, li_42, li_43, li_44, li_45, li_46, li_47, li_48, li_49, li_50, li_51, li_52, li_53, li_54, li_55, li_56, li_57, li_58, li_59, li_60, li_61, li_62, li_63, li_64, li_65, li_66, li_96, li_97, li_99, li_100, li_122, li_125, li_126, li_140, li_255, li_256, li_999, li_1000, li_1001, li_1002, li_1100, li_1386, li_1452, li_1518, li_9999, li_1000000, r0, bd_s, s1, g8, decide_true, ck_t, i1, i2, b01_t, b01_f, n10, ↓reduceIte]
    · rw [decide_eq_false c2] at i2
      by_cases c3 : tI K a fl = 26 + th
      · rw [decide_eq_true c3] at i3
        rw [show isF K a fl th = true from decide_eq_true (Or.inr (Or.inr c3))]
        simp only [f_X5_isFact, f_X5_isFact_0, f_X5_isFact_40, ↓lm_1, ↓lm_2, ↓lm_3, ↓lm_4, ↓lm_5, ↓lm_6, ↓lm_7, ↓lm_8, ↓lm_9, ↓lm_10, ↓lm_11, li_0, li_1, li_2, li_3, li_4, li_5, li_6, li_7, li_8, li_9, li_10, li_11, li_12, li_13, li_14, li_15, li_16, li_17, li_18, li_19, li_20, li_21, li_22, li_23, li_24, li_25, li_26, li_27, li_28, li_29, li_30, li_31, li_32, li_33, li_34, li_35, li_36, li_37, li_38, li_39, li_40, li_41, li_42, li_43, li_44, li_45, li_46, li_47, li_48, li_49, li_50, li_51, li_52, li_53, li_54, li_55, li_56, li_57, li_58, li_59, li_60, li_61, li_62, li_63, li_64, li_65, li_66, li_96, li_97, li_99, li_100, li_122, li_125, li_126, li_140, li_255, li_256, li_999, li_1000, li_1001, li_1002, li_1100, li_1386, li_1452, li_1518, li_9999, li_1000000, r0, bd_s, s1, g8, decide_true, ck_t, i1, i2, r3, cl, e30, i3, b01_t, b01_f, n10, ↓reduceIte]
      · rw [decide_eq_false c3] at i3
        rw [show isF K a fl th = false from decide_eq_false (fun q => by rcases q with q | q | q <;> contradiction)]
        simp only [f_X5_isFact, f_X5_isFact_0, f_X5_isFact_40, ↓lm_1, ↓lm_2, ↓lm_3, ↓lm_4, ↓lm_5, ↓lm_6, ↓lm_7, ↓lm_8, ↓lm_9, ↓lm_10, ↓lm_11, li_0, li_1, li_2, li_3, li_4, li_5, li_6, li_7, li_8, li_9, li_10, li_11, li_12, li_13, li_14, li_15, li_16, li_17, li_18, li_19, li_20, li_21, li_22, li_23, li_24, li_25, li_26, li_27, li_28, li_29, li_30, li_31, li_32, li_33, li_34, li_35, li_36, li_37, li_38, li_39, li_40, li_41, li_42, li_43, li_44, li_45, li_46, li_47, li_48, li_49, li_50, li_51, li_52, li_53, li_54, li_55, li_56, li_57, li_58, li_59, li_60, li_61, li_62, li_63, li_64, li_65, li_66, li_96, li_97, li_99, li_100, li_122, li_125, li_126, li_140, li_255, li_256, li_999, li_1000, li_1001, li_1002, li_1100, li_1386, li_1452, li_1518, li_9999, li_1000000, r0, bd_s, s1, g8, decide_true, ck_t, i1, i2, r3, cl, e30, i3, b01_f, ↓reduceIte]
theorem x5_factStep (hK : okK K) (hw : CB w K) (gw : gC w = 8) (ht : th = 2 ∨ th = 3) (hE : PE K w p th c0 S v a fl u) (hF : isF K a fl th = true) : ∃ z, f_X5_factStep fu S (p + 7) = some z ∧ csR th z (nI 2) (nI (tI K a fl - 26)) := by
  have r0 := hE.2.2.1.2.1
  have s1 := hE.2.1
  have g8 : gC (tw w a fl) = 8 := gw
  have i1 := x8_isAtW (fu := fu) (i := 26) hK hw hE.1 (by omega) (by omega)
  have i2 := x8_isAtW (fu := fu) (i := 27) hK hw hE.1 (by omega) (by omega)
  by_cases c1 : tI K a fl = 26
  · rw [decide_eq_true c1] at i1
    refine ⟨mI 1, ?_, Or.inr (Or.inl ⟨rfl, Or.inl ⟨by rw [c1], rfl⟩⟩)⟩
    simp only [f_X5_factStep, f_X5_factStep_0, ↓lm_1, ↓lm_2, ↓lm_3, ↓lm_4, ↓lm_5, ↓lm_6, ↓lm_7, ↓lm_8, ↓lm_9, ↓lm_10, ↓lm_11, li_0, li_1, li_2, li_3, li_4, li_5, li_6, li_7, li_8, li_9, li_10, li_11, li_12, li_13, li_14, li_15, li_16, li_17, li_18, li_19, li_20, li_21, li_22, li_23, li_24, li_25, li_26, li_27, li_28, li_29, li_30, li_31, li_32, li_33, li_34, li_35, li_36, li_37, li_38, li_39, li_40, li_41, li_42, li_43, li_44, li_45, li_46, li_47, li_48, li_49, li_50, li_51, li_52, li_53, li_54, li_55, li_56, li_57, li_58, li_59, li_60, li_61, li_62, li_63, li_64, li_65, li_66, li_96, li_97, li_99, li_100, li_122, li_125, li_126, li_140, li_255, li_256, li_999, li_1000, li_1001, li_1002, li_1100, li_1386, li_1452, li_1518, li_9999, li_1000000, r0, bd_s, s1, g8, decide_true, ck_t, i1, b01_t, n10, ↓reduceIte]
  · rw [decide_eq_false c1] at i1
    by_cases c2 : tI K a fl = 27
    · rw [decide_eq_true c2] at i2
      refine ⟨mI 2, ?_, Or.inr (Or.inl ⟨rfl, Or.inr (Or.inl ⟨by rw [c2], rfl⟩)⟩)⟩
      simp only [f_X5_factStep, f_X5_factStep_0, ↓lm_1, ↓lm_2, ↓lm_3, ↓lm_4, ↓lm_5, ↓lm_6, ↓lm_7, ↓lm_8, ↓lm_9, ↓lm_10, ↓lm_11, li_0, li_1, li_2, li_3, li_4, li_5, li_6, li_7, li_8, li_9, li_10, li_11, li_12, li_13, li_14, li_15, li_16, li_17, li_18, li_19, li_20, li_21, li_22, li_23, li_24, li_25, li_26, li_27, li_28, li_29, li_30, li_31, li_32, li_33, li_34, li_35, li_36, li_37, li_38, li_39, li_40, li_41, li_42, li_43, li_44, li_45, li_46, li_47, li_48, li_49, li_50, li_51, li_52, li_53, li_54, li_55, li_56, li_57, li_58, li_59, li_60, li_61, li_62, li_63, li_64, li_65, li_66, li_96, li_97, li_99, li_100, li_122, li_125, li_126, li_140, li_255, li_256, li_999, li_1000, li_1001, li_1002, li_1100, li_1386, li_1452, li_1518, li_9999, li_1000000, r0, bd_s, s1, g8, decide_true, ck_t, i1, i2, b01_t, b01_f, n10, ↓reduceIte]
    · rw [decide_eq_false c2] at i2
      have c3 : tI K a fl = 26 + th := by rcases isF_t hF with q | q | q; exact absurd q c1; exact absurd q c2; exact q
      refine ⟨mI 3, ?_, Or.inr (Or.inl ⟨rfl, Or.inr (Or.inr ⟨by rw [c3, Nat.add_sub_cancel_left], rfl⟩)⟩)⟩
      simp only [f_X5_factStep, f_X5_factStep_0, ↓lm_1, ↓lm_2, ↓lm_3, ↓lm_4, ↓lm_5, ↓lm_6, ↓lm_7, ↓lm_8, ↓lm_9, ↓lm_10, ↓lm_11, li_0, li_1, li_2, li_3, li_4, li_5, li_6, li_7, li_8, li_9, li_10, li_11, li_12, li_13, li_14, li_15, li_16, li_17, li_18, li_19, li_20, li_21, li_22, li_23, li_24, li_25, li_26, li_27, li_28, li_29, li_30, li_31, li_32, li_33, li_34, li_35, li_36, li_37, li_38, li_39, li_40, li_41, li_42, li_43, li_44, li_45, li_46, li_47, li_48, li_49, li_50, li_51, li_52, li_53, li_54, li_55, li_56, li_57, li_58, li_59, li_60, li_61, li_62, li_63, li_64, li_65, li_66, li_96, li_97, li_99, li_100, li_122, li_125, li_126, li_140, li_255, li_256, li_999, li_1000, li_1001, li_1002, li_1100, li_1386, li_1452, li_1518, li_9999, li_1000000, r0, bd_s, s1, g8, decide_true, ck_t, i1, i2, b01_f, ↓reduceIte]
theorem m_part0 {x : Int32} {recm : GV → Int32 → Option GV} (hf : 1101 ≤ fu) (hK : okK K) (ht : th = 2 ∨ th = 3) (hE : PE K w p th c0 S v a 0 u) : f_X13_takePart fu recm (mw v a 0) x = f_X13_takePart_56 fu recm (mw v a 0) x (b01 (tD K a 0)) (if isF K a 0 th = true then nI (tI K a 0 - 26) else mI 1) := by
  have hn := hK.1
  have h1 := hE.1.1
  have t4 := (hE.2.2.2.1 a h1).1
  have kk := (hK.2.2 a h1).1.1
  have g20 := hE.2.2.2.2.2.2.1
  have wh := m_wordHere (fu := fu) (b := 25) (m := 4) hf hK hE.2.2.2.1 hE.2.2.2.2.1 hE.1 (by omega)
  simp only [Nat.reduceAdd] at wh
  have key : ∀ y, f_X13_takePart_26 fu recm (mw v a 0) x y = f_X13_takePart_56 fu recm (mw v a 0) x y (if isF K a 0 th = true then nI (tI K a 0 - 26) else mI 1) := by
    intro y
    by_cases c : 26 ≤ tI K a 0 ∧ tI K a 0 < 30
    · rw [if_pos c] at wh
      have n0 : ¬ nI (tI K a 0 - 26) < nI 0 := nI_nlt (by omega) (by omega)
      have fb := fbit (r := tI K a 0 - 26) ht (by omega)
      by_cases cF : isF K a 0 th = true
      · have := fb.mpr (by have := isF_t cF; omega)
        rw [if_pos cF]
        simp (disch := omega) only [f_X13_takePart_26, ↓lm_1, ↓lm_2, ↓lm_3, ↓lm_4, ↓lm_5, ↓lm_6, ↓lm_7, ↓lm_8, ↓lm_9, ↓lm_10, ↓lm_11, li_0, li_1, li_2, li_3, li_4, li_5, li_6, li_7, li_8, li_9, li_10, li_11, li_12, li_13, li_14, li_15, li_16, li_17, li_18, li_19, li_20, li_21, li_22, li_23, li_24, li_25, li_26, li_27, li_28, li_29, li_30, li_31, li_32, li_33, li_34, li_35, li_36, li_37, li_38, li_39, li_40, li_41, li_42, li_43, li_44, li_45, li_46, li_47, li_48, li_49, li_50, li_51, li_52, li_53, li_54, li_55, li_56, li_57, li_58, li_59, li_60, li_61, li_62, li_63, li_64, li_65, li_66, li_96, li_97, li_99, li_100, li_122, li_125, li_126, li_140, li_255, li_256, li_999, li_1000, li_1001, li_1002, li_1100, li_1386, li_1452, li_1518, li_9999, li_1000000, wh, bd_s, oI, n0, ↓reduceIte, mw_I, g20, if_pos this]
      · have : ¬ ((nI (3 + 2 ^ th) >>> (nI (tI K a 0 - 26) &&& nI 31)) &&& nI 1) = nI 1 := fun q => cF (decide_eq_true (by have := fb.mp q; omega))
        rw [if_neg cF]
        simp (disch := omega) only [f_X13_takePart_26, f_X13_takePart_55, ↓lm_1, ↓lm_2, ↓lm_3, ↓lm_4, ↓lm_5, ↓lm_6, ↓lm_7, ↓lm_8, ↓lm_9, ↓lm_10, ↓lm_11, li_0, li_1, li_2, li_3, li_4, li_5, li_6, li_7, li_8, li_9, li_10, li_11, li_12, li_13, li_14, li_15, li_16, li_17, li_18, li_19, li_20, li_21, li_22, li_23, li_24, li_25, li_26, li_27, li_28, li_29, li_30, li_31, li_32, li_33, li_34, li_35, li_36, li_37, li_38, li_39, li_40, li_41, li_42, li_43, li_44, li_45, li_46, li_47, li_48, li_49, li_50, li_51, li_52, li_53, li_54, li_55, li_56, li_57, li_58, li_59, li_60, li_61, li_62, li_63, li_64, li_65, li_66, li_96, li_97, li_99, li_100, li_122, li_125, li_126, li_140, li_255, li_256, li_999, li_1000, li_1001, li_1002, li_1100, li_1386, li_1452, li_1518, li_9999, li_1000000, wh, bd_s, oI, n0, ↓reduceIte, mw_I, g20, if_neg this]
    · rw [if_neg c] at wh
      have cF : ¬ isF K a 0 th = true := fun q => by have := isF_t q; omega
      have n0 : mI 1 < nI 0 := by decide
      rw [if_neg cF]
      simp only [f_X13_takePart_26, f_X13_takePart_55, ↓lm_1, ↓lm_2, ↓lm_3, ↓lm_4, ↓lm_5, ↓lm_6, ↓lm_7, ↓lm_8, ↓lm_9, ↓lm_10, ↓lm_11, li_0, li_1, li_2, li_3, li_4, li_5, li_6, li_7, li_8, li_9, li_10, li_11, li_12, li_13, li_14, li_15, li_16, li_17, li_18, li_19, li_20, li_21, li_22, li_23, li_24, li_25, li_26, li_27, li_28, li_29, li_30, li_31, li_32, li_33, li_34, li_35, li_36, li_37, li_38, li_39, li_40, li_41, li_42, li_43, li_44, li_45, li_46, li_47, li_48, li_49, li_50, li_51, li_52, li_53, li_54, li_55, li_56, li_57, li_58, li_59, li_60, li_61, li_62, li_63, li_64, li_65, li_66, li_96, li_97, li_99, li_100, li_122, li_125, li_126, li_140, li_255, li_256, li_999, li_1000, li_1001, li_1002, li_1100, li_1386, li_1452, li_1518, li_9999, li_1000000, wh, bd_s, oI, n0, ↓reduceIte]
  have n00 : nI 0 ≤ nI 0 := by decide
  by_cases c2 : kK K a = 2
  · have q : tD K a 0 = true := decide_eq_true ⟨rfl, c2⟩
    rw [q, b01_t]
    simp (disch := omega) only [f_X13_takePart, f_X13_takePart_0, ↓lm_1, ↓lm_2, ↓lm_3, ↓lm_4, ↓lm_5, ↓lm_6, ↓lm_7, ↓lm_8, ↓lm_9, ↓lm_10, ↓lm_11, li_0, li_1, li_2, li_3, li_4, li_5, li_6, li_7, li_8, li_9, li_10, li_11, li_12, li_13, li_14, li_15, li_16, li_17, li_18, li_19, li_20, li_21, li_22, li_23, li_24, li_25, li_26, li_27, li_28, li_29, li_30, li_31, li_32, li_33, li_34, li_35, li_36, li_37, li_38, li_39, li_40, li_41, li_42, li_43, li_44, li_45, li_46, li_47, li_48, li_49, li_50, li_51, li_52, li_53, li_54, li_55, li_56, li_57, li_58, li_59, li_60, li_61, li_62, li_63, li_64, li_65, li_66, li_96, li_97, li_99, li_100, li_122, li_125, li_126, li_140, li_255, li_256, li_999, li_1000, li_1001, li_1002, li_1100, li_1386, li_1452, li_1518, li_9999, li_1000000, mw_g7, mw_g8, mw_A, n00, ↓reduceIte, ↓nm_eq, inb_n, ck_t, nI_clamp, t4, c2, key]
  · have q : tD K a 0 = false := decide_eq_false (fun q => c2 q.2)
    have e5 : ¬ nI (kK K a) = nI 2 := by rw [nI_eq (by omega) (by omega)]; exact c2
    rw [q, b01_f]
    simp (disch := omega) only [f_X13_takePart, f_X13_takePart_0, ↓lm_1, ↓lm_2, ↓lm_3, ↓lm_4, ↓lm_5, ↓lm_6, ↓lm_7, ↓lm_8, ↓lm_9, ↓lm_10, ↓lm_11, li_0, li_1, li_2, li_3, li_4, li_5, li_6, li_7, li_8, li_9, li_10, li_11, li_12, li_13, li_14, li_15, li_16, li_17, li_18, li_19, li_20, li_21, li_22, li_23, li_24, li_25, li_26, li_27, li_28, li_29, li_30, li_31, li_32, li_33, li_34, li_35, li_36, li_37, li_38, li_39, li_40, li_41, li_42, li_43, li_44, li_45, li_46, li_47, li_48, li_49, li_50, li_51, li_52, li_53, li_54, li_55, li_56, li_57, li_58, li_59, li_60, li_61, li_62, li_63, li_64, li_65, li_66, li_96, li_97, li_99, li_100, li_122, li_125, li_126, li_140, li_255, li_256, li_999, li_1000, li_1001, li_1002, li_1100, li_1386, li_1452, li_1518, li_9999, li_1000000, mw_g7, mw_g8, mw_A, n00, ↓reduceIte, ↓nm_eq, inb_n, ck_t, nI_clamp, t4, e5, key]
theorem tS_f {c : Nat} (h : kK K a ≠ 3) : tS K a fl c = false := decide_eq_false (fun q => h q.2.1)
theorem tI_f (h : kK K a ≠ 1) : tI K a fl = 0 := if_neg (fun q => h q.2)
theorem tD_f (h : kK K a ≠ 2) : tD K a fl = false := decide_eq_false (fun q => h q.2)
theorem p_part {x : Nat} {rec : ST → Nat → Int32 → Option ST} {recm : GV → Int32 → Option GV} (hf : 1101 ≤ fu) (hK : okK K) (hw : CB w K) (gw : gC w = 8) (ht : th = 2 ∨ th = 3) (hx : x ≤ 5) (h1 : x < 5 → PS K w p th c0 (4 * (x + 1) + 4) (fun S => rec S (p + 7) (nI (x + 1))) (fun v => recm v (nI (x + 1)))) : PS K w p th c0 (4 * x + 4) (fun S => f_X5_part fu rec S (p + 7) (nI x)) (fun v => f_X13_takePart fu recm v (nI x)) := by
  intro S v a fl u h hE hc hh
  have r0 := hE.2.2.1.2.1
  have c5 := hE.2.2.1.1
  have s1 := hE.2.1
  have g8 : ∀ a fl, gC (tw w a fl) = 8 := fun _ _ => gw
  have hN := hK.1
  have ha := hE.1.1
  have h2 := hE.1.2
  have ia := x8_isAt (fu := fu) (c := 40) hK hw hE.1 (by omega)
  have ib := x8_isAtW (fu := fu) (i := 23) hK hw hE.1 (by omega) (by omega)
  have ic := x8_isNumber (fu := fu) hK hw hE.1
  have id' := x5_isFact (fu := fu) hK hw gw ht hE
  have fa1 := x8_fail (fu := fu) hK hw hE.1 1
  have fa5 := x8_fail (fu := fu) hK hw hE.1 5
  have sp := x8_step1 (fu := fu) hK hw hE.1
  by_cases c0' : fl = 0
  case neg =>
    -- a fault is behind us: nothing is done
    have t1 : tS K a fl 40 = false := decide_eq_false (fun q => c0' q.1)
    have t2 : tI K a fl = 0 := if_neg (fun q => c0' q.1)
    have t3 : tD K a fl = false := decide_eq_false (fun q => c0' q.1)
    have t4 : isF K a fl th = false := decide_eq_false (by omega)
    have f1 : ¬ nI fl ≤ nI 0 := nI_ge (by omega) (by omega)
    have ff : flf K a fl 1 = fl := if_neg c0'
    rw [t1] at ia
    rw [decide_eq_false (by omega)] at ib
    rw [t3] at ic
    rw [t4] at id'
    rw [ff] at fa1
    refine ⟨S, v, a, fl, u, ?_, ?_, hE, FR_refl p S, MF_refl c0 v, Nat.le_refl _, Nat.le_refl _, fun q => absurd q c0'⟩
    · simp only [f_X5_part, f_X5_part_0, ↓lm_1, ↓lm_2, ↓lm_3, ↓lm_4, ↓lm_5, ↓lm_6, ↓lm_7, ↓lm_8, ↓lm_9, ↓lm_10, ↓lm_11, li_0, li_1, li_2, li_3, li_4, li_5, li_6, li_7, li_8, li_9, li_10, li_11, li_12, li_13, li_14, li_15, li_16, li_17, li_18, li_19, li_20, li_21, li_22, li_23, li_24, li_25, li_26, li_27, li_28, li_29, li_30, li_31, li_32, li_33, li_34, li_35, li_36, li_37, li_38, li_39, li_40, li_41, li_42, li_43, li_44, li_45, li_46, li_47, li_48, li_49, li_50, li_51, li_52, li_53, li_54, li_55, li_56, li_57, li_58, li_59, li_60, li_61, li_62, li_63, li_64, li_65, li_66, li_96, li_97, li_99, li_100, li_122, li_125, li_126, li_140, li_255, li_256, li_999, li_1000, li_1001, li_1002, li_1100, li_1386, li_1452, li_1518, li_9999, li_1000000, r0, bd_s, s1, g8, decide_true, ck_t, ia, ib, ic, id', b01_f, ↓reduceIte, fa1, nm_eq]
      rw [← s1, st_self]
    · simp only [f_X13_takePart, f_X13_takePart_0, ↓lm_1, ↓lm_2, ↓lm_3, ↓lm_4, ↓lm_5, ↓lm_6, ↓lm_7, ↓lm_8, ↓lm_9, ↓lm_10, ↓lm_11, li_0, li_1, li_2, li_3, li_4, li_5, li_6, li_7, li_8, li_9, li_10, li_11, li_12, li_13, li_14, li_15, li_16, li_17, li_18, li_19, li_20, li_21, li_22, li_23, li_24, li_25, li_26, li_27, li_28, li_29, li_30, li_31, li_32, li_33, li_34, li_35, li_36, li_37, li_38, li_39, li_40, li_41, li_42, li_43, li_44, li_45, li_46, li_47, li_48, li_49, li_50, li_51, li_52, li_53, li_54, li_55, li_56, li_57, li_58, li_59, li_60, li_61, li_62, li_63, li_64, li_65, li_66, li_96, li_97, li_99, li_100, li_122, li_125, li_126, li_140, li_255, li_256, li_999, li_1000, li_1001, li_1002, li_1100, li_1386, li_1452, li_1518, li_9999, li_1000000, mw_g8, f1, ↓reduceIte]
  case pos =>
  subst c0'
  obtain ⟨hh1, hb⟩ := hh rfl
  have m0 := m_part0 (fu := fu) (x := nI x) (recm := recm) hf hK ht hE
  have ms := m_isSign (fu := fu) (c := 40) hK hE.2.2.2.1 hE.1 (by omega)
  have mwd := m_isWord (fu := fu) (i := 22) hK hE.2.2.2.1 hE.2.2.2.2.1 hE.1 (by omega)
  have mhw := m_hasWord (fu := fu) (i := 22) hK hE.2.2.2.1 hE.2.2.2.2.1 hE.1 (by omega)
  have mhs := m_hasSign (fu := fu) (c := 40) hK hE.2.2.2.1 hE.1 (by omega)
  have mr1 := m_wrong (fu := fu) hK hE.2.2.2.1 hE.1 1
  have mr5 := m_wrong (fu := fu) hK hE.2.2.2.1 hE.1 5
  simp only [Nat.reduceAdd] at mwd mhw
  have n00 : nI 0 ≤ nI 0 := by decide
  have nm1 : ¬ nI 0 ≤ mI 1 := by decide
  have bad : ∀ j, 1 ≤ j → j ≤ 5 → ¬ nI (flf K a 0 j) ≤ nI 0 := fun j j1 j5 => by
    have := (okP_flf hK hE.1 j5).2
    have := flf_pos (K := K) (a := a) (fl := 0) j1
    exact nI_ge (by omega) (by omega)
  -- what comes out at a fault
  have flt : ∀ j, 1 ≤ j → j ≤ 5 → f_X5_part fu rec S (p + 7) (nI x) = some (st S (p + 1) (tw w a (flf K a 0 j))) → f_X13_takePart fu recm (mw v a 0) (nI x) = some (mw v a (flf K a 0 j)) → ∃ S' v' a' fl' u', f_X5_part fu rec S (p + 7) (nI x) = some S' ∧ f_X13_takePart fu recm (mw v a 0) (nI x) = some (mw v' a' fl') ∧ PE K w p th c0 S' v' a' fl' u' ∧ FR p S S' ∧ MF c0 v v' ∧ a ≤ a' ∧ u' + a ≤ u + a' ∧ (fl' = 0 → 0 = 0 ∧ a < a' ∧ HT v' c0 u' (h + 1)) := by
    intro j j1 j5 q1 q2
    exact ⟨_, v, a, flf K a 0 j, u, q1, q2, PE_t hE (okP_flf hK hE.1 j5), FR_1, MF_refl c0 v, Nat.le_refl _, Nat.le_refl _, fun q => absurd q (flf_pos j1)⟩
  -- something begins here
  have deep : (tS K a 0 40 = true ∨ decide (tI K a 0 = 23) = true ∨ tD K a 0 = true ∨ isF K a 0 th = true) → f_X5_part fu rec S (p + 7) (nI x) = f_X5_part_57 fu rec S (p + 7) (nI x) (b01 (tS K a 0 40)) (b01 (decide (tI K a 0 = 23))) ∧ f_X13_takePart fu recm (mw v a 0) (nI x) = f_X13_takePart_91 fu recm (mw v a 0) (nI x) (b01 (tD K a 0)) (if isF K a 0 th = true then nI (tI K a 0 - 26) else mI 1) := by
    intro q
    rw [m0]
    have t30 : tI K a 0 < 30 := tI_lt
    have nn : nI 0 ≤ nI (tI K a 0 - 26) := nI_le (by omega) (by omega)
    constructor
    · simp only [f_X5_part, f_X5_part_0, ↓lm_1, ↓lm_2, ↓lm_3, ↓lm_4, ↓lm_5, ↓lm_6, ↓lm_7, ↓lm_8, ↓lm_9, ↓lm_10, ↓lm_11, li_0, li_1, li_2, li_3, li_4, li_5, li_6, li_7, li_8, li_9, li_10, li_11, li_12, li_13, li_14, li_15, li_16, li_17, li_18, li_19, li_20, li_21, li_22, li_23, li_24, li_25, li_26, li_27, li_28, li_29, li_30, li_31, li_32, li_33, li_34, li_35, li_36, li_37, li_38, li_39, li_40, li_41, li_42, li_43, li_44, li_45, li_46, li_47, li_48, li_49, li_50, li_51, li_52, li_53, li_54, li_55, li_56, li_57, li_58, li_59, li_60, li_61, li_62, li_63, li_64, li_65, li_66, li_96, li_97, li_99, li_100, li_122, li_125, li_126, li_140, li_255, li_256, li_999, li_1000, li_1001, li_1002, li_1100, li_1386, li_1452, li_1518, li_9999, li_1000000, r0, bd_s, s1, g8, decide_true, ck_t, ia, ib, ic, id']
      generalize tS K a 0 40 = b1 at *
      generalize decide (tI K a 0 = 23) = b2 at *
      generalize tD K a 0 = b3 at *
      generalize isF K a 0 th = b4 at *
      cases b1 <;> cases b2 <;> cases b3 <;> cases b4 <;> first | (simp only [b01_t, b01_f, n10, ↓reduceIte, r0, bd_s, s1, g8, decide_true, ck_t, ic, id'] ; done) | (exfalso; simp at q)
    · simp only [f_X13_takePart_56, ↓lm_1, ↓lm_2, ↓lm_3, ↓lm_4, ↓lm_5, ↓lm_6, ↓lm_7, ↓lm_8, ↓lm_9, ↓lm_10, ↓lm_11, li_0, li_1, li_2, li_3, li_4, li_5, li_6, li_7, li_8, li_9, li_10, li_11, li_12, li_13, li_14, li_15, li_16, li_17, li_18, li_19, li_20, li_21, li_22, li_23, li_24, li_25, li_26, li_27, li_28, li_29, li_30, li_31, li_32, li_33, li_34, li_35, li_36, li_37, li_38, li_39, li_40, li_41, li_42, li_43, li_44, li_45, li_46, li_47, li_48, li_49, li_50, li_51, li_52, li_53, li_54, li_55, li_56, li_57, li_58, li_59, li_60, li_61, li_62, li_63, li_64, li_65, li_66, li_96, li_97, li_99, li_100, li_122, li_125, li_126, li_140, li_255, li_256, li_999, li_1000, li_1001, li_1002, li_1100, li_1386, li_1452, li_1518, li_9999, li_1000000]
      generalize tS K a 0 40 = b1 at *
      generalize decide (tI K a 0 = 23) = b2 at *
      generalize tD K a 0 = b3 at *
      generalize isF K a 0 th = b4 at *
      cases b1 <;> cases b2 <;> cases b3 <;> cases b4 <;> first | (simp only [b01_t, b01_f, n10, ↓reduceIte, ms, mwd, bd_s, nn, nm1, Bool.false_eq_true] ; done) | (exfalso; simp at q)
  by_cases hd : tS K a 0 40 = true ∨ decide (tI K a 0 = 23) = true ∨ tD K a 0 = true ∨ isF K a 0 th = true
  case neg =>
    have t1 : tS K a 0 40 = false := by cases q : tS K a 0 40; rfl; exact absurd (Or.inl q) hd
    have t2 : decide (tI K a 0 = 23) = false := by cases q : decide (tI K a 0 = 23); rfl; exact absurd (Or.inr (Or.inl q)) hd
    have t3 : tD K a 0 = false := by cases q : tD K a 0; rfl; exact absurd (Or.inr (Or.inr (Or.inl q))) hd
    have t4 : isF K a 0 th = false := by cases q : isF K a 0 th; rfl; exact absurd (Or.inr (Or.inr (Or.inr q))) hd
    have b1 := bad 1 (by omega) (by omega)
    refine flt 1 (by omega) (by omega) ?_ ?_
    · rw [t1] at ia
      rw [t2] at ib
      rw [t3] at ic
      rw [t4] at id'
      simp only [f_X5_part, f_X5_part_0, ↓lm_1, ↓lm_2, ↓lm_3, ↓lm_4, ↓lm_5, ↓lm_6, ↓lm_7, ↓lm_8, ↓lm_9, ↓lm_10, ↓lm_11, li_0, li_1, li_2, li_3, li_4, li_5, li_6, li_7, li_8, li_9, li_10, li_11, li_12, li_13, li_14, li_15, li_16, li_17, li_18, li_19, li_20, li_21, li_22, li_23, li_24, li_25, li_26, li_27, li_28, li_29, li_30, li_31, li_32, li_33, li_34, li_35, li_36, li_37, li_38, li_39, li_40, li_41, li_42, li_43, li_44, li_45, li_46, li_47, li_48, li_49, li_50, li_51, li_52, li_53, li_54, li_55, li_56, li_57, li_58, li_59, li_60, li_61, li_62, li_63, li_64, li_65, li_66, li_96, li_97, li_99, li_100, li_122, li_125, li_126, li_140, li_255, li_256, li_999, li_1000, li_1001, li_1002, li_1100, li_1386, li_1452, li_1518, li_9999, li_1000000, r0, bd_s, s1, g8, decide_true, ck_t, ia, ib, ic, id', b01_f, ↓reduceIte, fa1, nm_eq]
    · rw [m0, t3, t4]
      rw [t1] at ms
      rw [t2] at mwd
      simp only [f_X13_takePart_56, f_X13_takePart_101, ↓lm_1, ↓lm_2, ↓lm_3, ↓lm_4, ↓lm_5, ↓lm_6, ↓lm_7, ↓lm_8, ↓lm_9, ↓lm_10, ↓lm_11, li_0, li_1, li_2, li_3, li_4, li_5, li_6, li_7, li_8, li_9, li_10, li_11, li_12, li_13, li_14, li_15, li_16, li_17, li_18, li_19, li_20, li_21, li_22, li_23, li_24, li_25, li_26, li_27, li_28, li_29, li_30, li_31, li_32, li_33, li_34, li_35, li_36, li_37, li_38, li_39, li_40, li_41, li_42, li_43, li_44, li_45, li_46, li_47, li_48, li_49, li_50, li_51, li_52, li_53, li_54, li_55, li_56, li_57, li_58, li_59, li_60, li_61, li_62, li_63, li_64, li_65, li_66, li_96, li_97, li_99, li_100, li_122, li_125, li_126, li_140, li_255, li_256, li_999, li_1000, li_1001, li_1002, li_1100, li_1386, li_1452, li_1518, li_9999, li_1000000, b01_f, Bool.false_eq_true, ↓reduceIte, nm1, ms, mwd, bd_s, mr1, mw_g8, b1]
  case pos =>
  obtain ⟨cl, md⟩ := deep hd
  by_cases x5 : x = 5
  · subst x5
    have b5 := bad 5 (by omega) (by omega)
    have n55 : ¬ nI 5 < nI 5 := by decide
    refine flt 5 (by omega) (by omega) ?_ ?_
    · rw [cl]
      simp only [f_X5_part_57, ↓lm_1, ↓lm_2, ↓lm_3, ↓lm_4, ↓lm_5, ↓lm_6, ↓lm_7, ↓lm_8, ↓lm_9, ↓lm_10, ↓lm_11, li_0, li_1, li_2, li_3, li_4, li_5, li_6, li_7, li_8, li_9, li_10, li_11, li_12, li_13, li_14, li_15, li_16, li_17, li_18, li_19, li_20, li_21, li_22, li_23, li_24, li_25, li_26, li_27, li_28, li_29, li_30, li_31, li_32, li_33, li_34, li_35, li_36, li_37, li_38, li_39, li_40, li_41, li_42, li_43, li_44, li_45, li_46, li_47, li_48, li_49, li_50, li_51, li_52, li_53, li_54, li_55, li_56, li_57, li_58, li_59, li_60, li_61, li_62, li_63, li_64, li_65, li_66, li_96, li_97, li_99, li_100, li_122, li_125, li_126, li_140, li_255, li_256, li_999, li_1000, li_1001, li_1002, li_1100, li_1386, li_1452, li_1518, li_9999, li_1000000, n55, ↓reduceIte, r0, bd_s, s1, g8, decide_true, ck_t, fa5, nm_eq]
    · rw [md]
      simp only [f_X13_takePart_91, f_X13_takePart_101, ↓lm_1, ↓lm_2, ↓lm_3, ↓lm_4, ↓lm_5, ↓lm_6, ↓lm_7, ↓lm_8, ↓lm_9, ↓lm_10, ↓lm_11, li_0, li_1, li_2, li_3, li_4, li_5, li_6, li_7, li_8, li_9, li_10, li_11, li_12, li_13, li_14, li_15, li_16, li_17, li_18, li_19, li_20, li_21, li_22, li_23, li_24, li_25, li_26, li_27, li_28, li_29, li_30, li_31, li_32, li_33, li_34, li_35, li_36, li_37, li_38, li_39, li_40, li_41, li_42, li_43, li_44, li_45, li_46, li_47, li_48, li_49, li_50, li_51, li_52, li_53, li_54, li_55, li_56, li_57, li_58, li_59, li_60, li_61, li_62, li_63, li_64, li_65, li_66, li_96, li_97, li_99, li_100, li_122, li_125, li_126, li_140, li_255, li_256, li_999, li_1000, li_1001, li_1002, li_1100, li_1386, li_1452, li_1518, li_9999, li_1000000, ↓reduceIte, mr5, bd_s, mw_g8, b5]
  have xl : x < 5 := by omega
  have x5l : nI x < nI 5 := nI_lt xl (by omega)
  have x5n : ¬ nI x = nI 5 := by rw [nI_eq (by omega) (by omega)]; exact x5
  have h1 := h1 xl
  have s7 : ∀ y : GV, st S (p + 1) y (p + 7) = S (p + 7) := fun y => st_ne _ _ (by omega)
  simp only
  rw [cl, md]
  cases q1 : tS K a 0 40
  case true =>
    -- a bracket
    obtain ⟨_, k3⟩ := tS_k q1
    have hk0 : kK K a ≠ 0 := by omega
    have t2 : tI K a 0 = 0 := tI_f (by omega)
    have t3 : tD K a 0 = false := tD_f (by omega)
    have ok1 := okP_in hK hE.1 hk0
    have hx1 := p_expr (fu := fu) (B := 4 * (x + 1)) hf hK hw gw h1
    obtain ⟨S2, v2, a2, fl2, u2, e1, e2, e3, e4, e5, e6, e7, e8⟩ := hx1 _ v (a + 1) 0 u h (PE_t hE ok1) (by omega) (fun _ => ⟨hh1, by omega⟩)
    simp only at e1 e2
    rw [stp_in rfl hk0] at sp
    have nd := x8_need1 (fu := fu) (c := 41) hK hw e3.1 (by omega)
    have mt := m_takeSign (fu := fu) (c := 41) hK e3.2.2.2.1 e3.1 (by omega)
    have okn := okP_ndS hK e3.1 41
    have t2f : decide (tI K a 0 = 23) = false := decide_eq_false (by omega)
    rw [q1, if_pos rfl] at mhs
    rw [t2f, if_neg (show ¬ tI K a 0 = 23 by omega)] at mhw
    refine ⟨st S2 (p + 1) (tw w (ndS K a2 fl2 41).1 (ndS K a2 fl2 41).2), v2, (ndS K a2 fl2 41).1, (ndS K a2 fl2 41).2, u2, ?_, ?_, PE_t e3 okn, FR_trans FR_1 (FR_trans e4 FR_1), e5, ?_, ?_, fun q => ?_⟩
    · have r2 := e3.2.2.1.2.1
      have s2 := e3.2.1
      simp only [f_X5_part_57, ↓lm_1, ↓lm_2, ↓lm_3, ↓lm_4, ↓lm_5, ↓lm_6, ↓lm_7, ↓lm_8, ↓lm_9, ↓lm_10, ↓lm_11, li_0, li_1, li_2, li_3, li_4, li_5, li_6, li_7, li_8, li_9, li_10, li_11, li_12, li_13, li_14, li_15, li_16, li_17, li_18, li_19, li_20, li_21, li_22, li_23, li_24, li_25, li_26, li_27, li_28, li_29, li_30, li_31, li_32, li_33, li_34, li_35, li_36, li_37, li_38, li_39, li_40, li_41, li_42, li_43, li_44, li_45, li_46, li_47, li_48, li_49, li_50, li_51, li_52, li_53, li_54, li_55, li_56, li_57, li_58, li_59, li_60, li_61, li_62, li_63, li_64, li_65, li_66, li_96, li_97, li_99, li_100, li_122, li_125, li_126, li_140, li_255, li_256, li_999, li_1000, li_1001, li_1002, li_1100, li_1386, li_1452, li_1518, li_9999, li_1000000, x5l, ↓reduceIte, b01_t, n10, r0, bd_s, s1, g8, decide_true, ck_t, sp, nm_eq, nI_add, e1, r2, s2, nd]
    · rw [t3]
      simp only [f_X13_takePart_91, f_X13_takePart_101, ↓lm_1, ↓lm_2, ↓lm_3, ↓lm_4, ↓lm_5, ↓lm_6, ↓lm_7, ↓lm_8, ↓lm_9, ↓lm_10, ↓lm_11, li_0, li_1, li_2, li_3, li_4, li_5, li_6, li_7, li_8, li_9, li_10, li_11, li_12, li_13, li_14, li_15, li_16, li_17, li_18, li_19, li_20, li_21, li_22, li_23, li_24, li_25, li_26, li_27, li_28, li_29, li_30, li_31, li_32, li_33, li_34, li_35, li_36, li_37, li_38, li_39, li_40, li_41, li_42, li_43, li_44, li_45, li_46, li_47, li_48, li_49, li_50, li_51, li_52, li_53, li_54, li_55, li_56, li_57, li_58, li_59, li_60, li_61, li_62, li_63, li_64, li_65, li_66, li_96, li_97, li_99, li_100, li_122, li_125, li_126, li_140, li_255, li_256, li_999, li_1000, li_1001, li_1002, li_1100, li_1386, li_1452, li_1518, li_9999, li_1000000, x5n, ↓reduceIte, mw_g8, n00, mhw, bd2_s, b01_f, mhs, b01_t, n10, nI_add, e2, bd_s, mt]
    · unfold ndS; split <;> simp only <;> omega
    · unfold ndS; split <;> simp only <;> omega
    · have f2 := ndS_0 q
      obtain ⟨_, z2, z3⟩ := e8 f2
      refine ⟨trivial, ?_, z3⟩
      unfold ndS; split <;> simp only <;> omega
  case false =>
  rw [q1] at mhs
  simp only [Bool.false_eq_true, ↓reduceIte] at mhs
  by_cases q2 : tI K a 0 = 23
  · -- not
    obtain ⟨_, k1⟩ := tI_k (by omega) q2
    have hk0 : kK K a ≠ 0 := by omega
    have t3 : tD K a 0 = false := tD_f (by omega)
    have ok1 := okP_in hK hE.1 hk0
    obtain ⟨S2, v2, a2, fl2, u2, e1, e2, e3, e4, e5, e6, e7, e8⟩ := h1 _ v (a + 1) 0 u h (PE_t hE ok1) (by omega) (fun _ => ⟨hh1, by omega⟩)
    simp only at e1 e2
    rw [stp_in rfl hk0] at sp
    have a2l := e3.1.1
    obtain ⟨y1, y2, y3⟩ := PE_em (fu := fu) (x := mI 4) (o := nI 3) (y := nI 0) e3 (Or.inr (Or.inr (Or.inl ⟨rfl, rfl⟩))) (by omega)
    rw [decide_eq_true q2, if_pos q2] at mhw
    refine ⟨_, _, a2, fl2, u2 + 1, ?_, ?_, y3, FR_trans FR_1 (FR_trans e4 FR_7), MF_trans e5 MF_em, by omega, by omega, fun q => ?_⟩
    · rw [decide_eq_true q2]
      simp only [f_X5_part_57, ↓lm_1, ↓lm_2, ↓lm_3, ↓lm_4, ↓lm_5, ↓lm_6, ↓lm_7, ↓lm_8, ↓lm_9, ↓lm_10, ↓lm_11, li_0, li_1, li_2, li_3, li_4, li_5, li_6, li_7, li_8, li_9, li_10, li_11, li_12, li_13, li_14, li_15, li_16, li_17, li_18, li_19, li_20, li_21, li_22, li_23, li_24, li_25, li_26, li_27, li_28, li_29, li_30, li_31, li_32, li_33, li_34, li_35, li_36, li_37, li_38, li_39, li_40, li_41, li_42, li_43, li_44, li_45, li_46, li_47, li_48, li_49, li_50, li_51, li_52, li_53, li_54, li_55, li_56, li_57, li_58, li_59, li_60, li_61, li_62, li_63, li_64, li_65, li_66, li_96, li_97, li_99, li_100, li_122, li_125, li_126, li_140, li_255, li_256, li_999, li_1000, li_1001, li_1002, li_1100, li_1386, li_1452, li_1518, li_9999, li_1000000, x5l, ↓reduceIte, b01_t, b01_f, n10, r0, bd_s, s1, g8, decide_true, ck_t, sp, nm_eq, nI_add, e1, y1]
    · rw [t3]
      simp only [f_X13_takePart_91, f_X13_takePart_101, ↓lm_1, ↓lm_2, ↓lm_3, ↓lm_4, ↓lm_5, ↓lm_6, ↓lm_7, ↓lm_8, ↓lm_9, ↓lm_10, ↓lm_11, li_0, li_1, li_2, li_3, li_4, li_5, li_6, li_7, li_8, li_9, li_10, li_11, li_12, li_13, li_14, li_15, li_16, li_17, li_18, li_19, li_20, li_21, li_22, li_23, li_24, li_25, li_26, li_27, li_28, li_29, li_30, li_31, li_32, li_33, li_34, li_35, li_36, li_37, li_38, li_39, li_40, li_41, li_42, li_43, li_44, li_45, li_46, li_47, li_48, li_49, li_50, li_51, li_52, li_53, li_54, li_55, li_56, li_57, li_58, li_59, li_60, li_61, li_62, li_63, li_64, li_65, li_66, li_96, li_97, li_99, li_100, li_122, li_125, li_126, li_140, li_255, li_256, li_999, li_1000, li_1001, li_1002, li_1100, li_1386, li_1452, li_1518, li_9999, li_1000000, x5n, ↓reduceIte, mw_g8, n00, mhw, bd2_s, b01_f, b01_t, n10, nI_add, e2, bd_s, y2]
    · obtain ⟨_, z2, z3⟩ := e8 q
      exact ⟨trivial, by omega, HT_s z3 (Or.inr (Or.inr (Or.inl ⟨rfl, by omega, rfl⟩)))⟩
  rw [decide_eq_false q2, if_neg q2] at mhw
  rw [decide_eq_false q2]
  cases q3 : tD K a 0
  case true =>
    -- a number
    have k2 := (of_decide_eq_true q3).2
    have hk0 : kK K a ≠ 0 := by omega
    have hv := ((hK.2.2 a ha).1).2.2.2.1 k2
    have l3 := (hw a ha).2.2 (Or.inr (Or.inl k2))
    have l6 := (hE.2.2.2.1 a ha).2.2 (Or.inr (Or.inl k2))
    rw [if_neg (by omega)] at l6
    have nu := x8_numberA (fu := fu) (w := w) hK hE.1
    rw [l3, lN_i] at nu
    have i6 : (gL v 6 a).toInt32 = nI (kV K a) := by rw [l6, lN_i]
    rw [q3] at ic
    rw [stp_in rfl hk0] at sp
    obtain ⟨y1, y2, y3⟩ := PE_em (fu := fu) (x := nI (kV K a)) (o := nI 1) (y := nI (kV K a)) hE (Or.inl ⟨rfl, rfl, kV K a, hv, rfl⟩) (by omega)
    have ok1 := okP_in hK hE.1 hk0
    refine ⟨_, _, a + 1, 0, u + 1, ?_, ?_, PE_t y3 ok1, FR_trans FR_7 FR_1, MF_em, by omega, by omega, fun q => ⟨trivial, by omega, HT_s hh1 (Or.inl ⟨rfl, by omega, rfl⟩)⟩⟩
    · have s7' : st S (p + 7) (pu (S (p + 7)) u (nI (kV K a))) (p + 1) = tw w a 0 := by rw [st_ne _ _ (by omega)]; exact s1
      have r7' : gR (pu (S (p + 7)) u (nI (kV K a))) 0 = some (p + 1) := r0
      simp only [f_X5_part_57, f_X5_part_155, ↓lm_1, ↓lm_2, ↓lm_3, ↓lm_4, ↓lm_5, ↓lm_6, ↓lm_7, ↓lm_8, ↓lm_9, ↓lm_10, ↓lm_11, li_0, li_1, li_2, li_3, li_4, li_5, li_6, li_7, li_8, li_9, li_10, li_11, li_12, li_13, li_14, li_15, li_16, li_17, li_18, li_19, li_20, li_21, li_22, li_23, li_24, li_25, li_26, li_27, li_28, li_29, li_30, li_31, li_32, li_33, li_34, li_35, li_36, li_37, li_38, li_39, li_40, li_41, li_42, li_43, li_44, li_45, li_46, li_47, li_48, li_49, li_50, li_51, li_52, li_53, li_54, li_55, li_56, li_57, li_58, li_59, li_60, li_61, li_62, li_63, li_64, li_65, li_66, li_96, li_97, li_99, li_100, li_122, li_125, li_126, li_140, li_255, li_256, li_999, li_1000, li_1001, li_1002, li_1100, li_1386, li_1452, li_1518, li_9999, li_1000000, x5l, ↓reduceIte, b01_t, b01_f, n10, r0, bd_s, s1, g8, decide_true, ck_t, ic, nu, y1, nm_eq, st_same, r7', s7', sp]
    · simp (disch := omega) only [f_X13_takePart_91, f_X13_takePart_101, f_X13_takePart_169, f_X13_takePart_187, ↓lm_1, ↓lm_2, ↓lm_3, ↓lm_4, ↓lm_5, ↓lm_6, ↓lm_7, ↓lm_8, ↓lm_9, ↓lm_10, ↓lm_11, li_0, li_1, li_2, li_3, li_4, li_5, li_6, li_7, li_8, li_9, li_10, li_11, li_12, li_13, li_14, li_15, li_16, li_17, li_18, li_19, li_20, li_21, li_22, li_23, li_24, li_25, li_26, li_27, li_28, li_29, li_30, li_31, li_32, li_33, li_34, li_35, li_36, li_37, li_38, li_39, li_40, li_41, li_42, li_43, li_44, li_45, li_46, li_47, li_48, li_49, li_50, li_51, li_52, li_53, li_54, li_55, li_56, li_57, li_58, li_59, li_60, li_61, li_62, li_63, li_64, li_65, li_66, li_96, li_97, li_99, li_100, li_122, li_125, li_126, li_140, li_255, li_256, li_999, li_1000, li_1001, li_1002, li_1100, li_1386, li_1452, li_1518, li_9999, li_1000000, x5n, ↓reduceIte, mw_g8, mw_g7, mw_L, n00, mhw, bd2_s, b01_f, mhs, b01_t, n10, ↓nm_eq, inb_n, ck_t, nI_clamp, i6, y2, bd_s, nI_add, mw_7]
  case false =>
    -- a fact
    have q4 : isF K a 0 th = true := by
      rcases hd with q | q | q | q
      · rw [q1] at q; cases q
      · exact absurd (of_decide_eq_true q) q2
      · rw [q3] at q; cases q
      · exact q
    have q4' := isF_t q4
    obtain ⟨_, k1⟩ := tI_k (K := K) (a := a) (fl := 0) (i := tI K a 0) (by omega) rfl
    have hk0 : kK K a ≠ 0 := by omega
    obtain ⟨z, fs1, fs2⟩ := x5_factStep (fu := fu) hK hw gw ht hE q4
    rw [q3] at ic
    rw [stp_in rfl hk0] at sp
    obtain ⟨y1, y2, y3⟩ := PE_em (fu := fu) hE fs2 (by omega)
    have ok1 := okP_in hK hE.1 hk0
    rw [if_pos q4]
    refine ⟨_, _, a + 1, 0, u + 1, ?_, ?_, PE_t y3 ok1, FR_trans FR_7 FR_1, MF_em, by omega, by omega, fun q => ⟨trivial, by omega, HT_s hh1 (Or.inr (Or.inl ⟨rfl, ⟨_, by omega, rfl⟩, by omega, rfl⟩))⟩⟩
    · have s7' : st S (p + 7) (pu (S (p + 7)) u z) (p + 1) = tw w a 0 := by rw [st_ne _ _ (by omega)]; exact s1
      have r7' : gR (pu (S (p + 7)) u z) 0 = some (p + 1) := r0
      simp only [f_X5_part_57, f_X5_part_155, ↓lm_1, ↓lm_2, ↓lm_3, ↓lm_4, ↓lm_5, ↓lm_6, ↓lm_7, ↓lm_8, ↓lm_9, ↓lm_10, ↓lm_11, li_0, li_1, li_2, li_3, li_4, li_5, li_6, li_7, li_8, li_9, li_10, li_11, li_12, li_13, li_14, li_15, li_16, li_17, li_18, li_19, li_20, li_21, li_22, li_23, li_24, li_25, li_26, li_27, li_28, li_29, li_30, li_31, li_32, li_33, li_34, li_35, li_36, li_37, li_38, li_39, li_40, li_41, li_42, li_43, li_44, li_45, li_46, li_47, li_48, li_49, li_50, li_51, li_52, li_53, li_54, li_55, li_56, li_57, li_58, li_59, li_60, li_61, li_62, li_63, li_64, li_65, li_66, li_96, li_97, li_99, li_100, li_122, li_125, li_126, li_140, li_255, li_256, li_999, li_1000, li_1001, li_1002, li_1100, li_1386, li_1452, li_1518, li_9999, li_1000000, x5l, ↓reduceIte, b01_t, b01_f, n10, r0, bd_s, s1, g8, decide_true, ck_t, ic, fs1, y1, nm_eq, st_same, r7', s7', sp]
    · simp (disch := omega) only [f_X13_takePart_91, f_X13_takePart_101, f_X13_takePart_169, f_X13_takePart_187, ↓lm_1, ↓lm_2, ↓lm_3, ↓lm_4, ↓lm_5, ↓lm_6, ↓lm_7, ↓lm_8, ↓lm_9, ↓lm_10, ↓lm_11, li_0, li_1, li_2, li_3, li_4, li_5, li_6, li_7, li_8, li_9, li_10, li_11, li_12, li_13, li_14, li_15, li_16, li_17, li_18, li_19, li_20, li_21, li_22, li_23, li_24, li_25, li_26, li_27, li_28, li_29, li_30, li_31, li_32, li_33, li_34, li_35, li_36, li_37, li_38, li_39, li_40, li_41, li_42, li_43, li_44, li_45, li_46, li_47, li_48, li_49, li_50, li_51, li_52, li_53, li_54, li_55, li_56, li_57, li_58, li_59, li_60, li_61, li_62, li_63, li_64, li_65, li_66, li_96, li_97, li_99, li_100, li_122, li_125, li_126, li_140, li_255, li_256, li_999, li_1000, li_1001, li_1002, li_1100, li_1386, li_1452, li_1518, li_9999, li_1000000, x5n, ↓reduceIte, mw_g8, mw_g7, n00, mhw, bd2_s, b01_f, mhs, b01_t, n10, ↓nm_eq, y2, bd_s, nI_add, mw_7]
theorem p_partD (hf : 1101 ≤ fu) (hK : okK K) (hw : CB w K) (gw : gC w = 8) (ht : th = 2 ∨ th = 3) : ∀ d x, x ≤ 5 → 5 ≤ x + d → PS K w p th c0 (4 * x + 4) (fun S => f_X5_partD fu (d + 1) S (p + 7) (nI x)) (fun v => f_X13_takePartD fu (d + 1) v (nI x)) := by
  intro d
  induction d with
  | zero =>
    intro x hx h5
    exact p_part (fu := fu) hf hK hw gw ht hx (fun q => by omega)
  | succ d ih =>
    intro x hx h5
    exact p_part (fu := fu) hf hK hw gw ht hx (fun q => ih (x + 1) (by omega) (by omega))
end Q
