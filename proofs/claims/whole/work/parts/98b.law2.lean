/-! ===== gallery: products, sums, tests, whole laws ===== -/
theorem cs_bin {th k m : Nat} (h : (k = 4 ∧ m = 9) ∨ (k = 5 ∧ m = 10) ∨ (k = 6 ∧ m = 11) ∨ (k = 7 ∧ m = 7) ∨ (k = 8 ∧ m = 8) ∨ (k = 9 ∧ m = 5) ∨ (k = 10 ∧ m = 6)) : csR th (mI m) (nI k) (nI 0) := Or.inr (Or.inr (Or.inr ⟨k, m, rfl, rfl, h⟩))
section Q
variable {fu p th c0 : Nat} {K : KT} {w : GV}
theorem b_product {x : Int32} {B : Nat} {rec : ST → Nat → Int32 → Option ST} {recm : GV → Int32 → Option GV} (hK : okK K) (hw : CB w K) (gw : gC w = 8) (h1 : PS K w p th c0 (B + 1) (fun S => rec S (p + 7) x) (fun v => recm v x)) : PB K w p th c0 B (fun k7 => f_X5_product_7s fu rec k7 (p + 7) x) (fun k5 => f_X13_products_5s fu recm k5 x) := by
  intro i S v a fl u h hi hE hc hh
  have r0 := hE.2.2.1.2.1
  have s1 := hE.2.1
  have g8 : gC (tw w a fl) = 8 := gw
  have li : ¬ nI 1000 ≤ nI i := nI_ge hi (by omega)
  have ia := x8_isAt (fu := fu) (c := 42) hK hw hE.1 (by omega)
  have ms := m_hasSign (fu := fu) (c := 42) hK hE.2.2.2.1 hE.1 (by omega)
  cases q : tS K a fl 42
  · rw [q] at ia ms
    refine Or.inl fun k km => ⟨?_, ?_⟩
    · simp only [f_X5_product_7s, ↓lm_1, ↓lm_2, ↓lm_3, ↓lm_4, ↓lm_5, ↓lm_6, ↓lm_7, ↓lm_8, ↓lm_9, ↓lm_10, ↓lm_11, li_0, li_1, li_2, li_3, li_4, li_5, li_6, li_7, li_8, li_9, li_10, li_11, li_12, li_13, li_14, li_15, li_16, li_17, li_18, li_19, li_20, li_21, li_22, li_23, li_24, li_25, li_26, li_27, li_28, li_29, li_30, li_31, li_32, li_33, li_34, li_35, li_36, li_37, li_38, li_39, li_40, li_41, li_42, li_43, li_44, li_45, li_46, li_47, li_48, li_49, li_50, li_51, li_52, li_53, li_54, li_55, li_56, li_57, li_58, li_59, li_60, li_61, li_62, li_63, li_64, li_65, li_66, li_96, li_97, li_99, li_100, li_122, li_125, li_126, li_140, li_255, li_256, li_999, li_1000, li_1001, li_1002, li_1100, li_1386, li_1452, li_1518, li_9999, li_1000000, li, ↓reduceIte, r0, bd_s, s1, g8, decide_true, ck_t, ia, b01_f]
    · simp only [f_X13_products_5s, ↓lm_1, ↓lm_2, ↓lm_3, ↓lm_4, ↓lm_5, ↓lm_6, ↓lm_7, ↓lm_8, ↓lm_9, ↓lm_10, ↓lm_11, li_0, li_1, li_2, li_3, li_4, li_5, li_6, li_7, li_8, li_9, li_10, li_11, li_12, li_13, li_14, li_15, li_16, li_17, li_18, li_19, li_20, li_21, li_22, li_23, li_24, li_25, li_26, li_27, li_28, li_29, li_30, li_31, li_32, li_33, li_34, li_35, li_36, li_37, li_38, li_39, li_40, li_41, li_42, li_43, li_44, li_45, li_46, li_47, li_48, li_49, li_50, li_51, li_52, li_53, li_54, li_55, li_56, li_57, li_58, li_59, li_60, li_61, li_62, li_63, li_64, li_65, li_66, li_96, li_97, li_99, li_100, li_122, li_125, li_126, li_140, li_255, li_256, li_999, li_1000, li_1001, li_1002, li_1100, li_1386, li_1452, li_1518, li_9999, li_1000000, ms, bd2_s, b01_f, ↓reduceIte, Bool.false_eq_true]
  · rw [q] at ia ms
    obtain ⟨f0, k3⟩ := tS_k q
    subst f0
    have hk0 : kK K a ≠ 0 := by omega
    obtain ⟨hh1, hb⟩ := hh rfl
    obtain ⟨S1, z, v1, v2, a1, fl1, u1, e1, e2, e3, e4, e5, e6, e7, e8, e9, e10⟩ := PE_op (fu := fu) (o := 6) (x := mI 11) hK h1 hE hk0 hc hh1 hb (by omega) (cs_bin (by omega))
    have sp := x8_step1 (fu := fu) hK hw hE.1
    rw [stp_in rfl hk0] at sp
    refine Or.inr ⟨st S1 (p + 7) z, v2, a1, fl1, u1, fun k km => ⟨?_, ?_⟩, e5, e6, e7, e8, e9, fun z => ⟨rfl, (e10 z).2⟩⟩
    · simp only [f_X5_product_7s, ↓lm_1, ↓lm_2, ↓lm_3, ↓lm_4, ↓lm_5, ↓lm_6, ↓lm_7, ↓lm_8, ↓lm_9, ↓lm_10, ↓lm_11, li_0, li_1, li_2, li_3, li_4, li_5, li_6, li_7, li_8, li_9, li_10, li_11, li_12, li_13, li_14, li_15, li_16, li_17, li_18, li_19, li_20, li_21, li_22, li_23, li_24, li_25, li_26, li_27, li_28, li_29, li_30, li_31, li_32, li_33, li_34, li_35, li_36, li_37, li_38, li_39, li_40, li_41, li_42, li_43, li_44, li_45, li_46, li_47, li_48, li_49, li_50, li_51, li_52, li_53, li_54, li_55, li_56, li_57, li_58, li_59, li_60, li_61, li_62, li_63, li_64, li_65, li_66, li_96, li_97, li_99, li_100, li_122, li_125, li_126, li_140, li_255, li_256, li_999, li_1000, li_1001, li_1002, li_1100, li_1386, li_1452, li_1518, li_9999, li_1000000, li, ↓reduceIte, r0, bd_s, s1, g8, decide_true, ck_t, ia, b01_t, n10, sp, nm_eq, e1, e3, nI_add]
    · simp only [f_X13_products_5s, ↓lm_1, ↓lm_2, ↓lm_3, ↓lm_4, ↓lm_5, ↓lm_6, ↓lm_7, ↓lm_8, ↓lm_9, ↓lm_10, ↓lm_11, li_0, li_1, li_2, li_3, li_4, li_5, li_6, li_7, li_8, li_9, li_10, li_11, li_12, li_13, li_14, li_15, li_16, li_17, li_18, li_19, li_20, li_21, li_22, li_23, li_24, li_25, li_26, li_27, li_28, li_29, li_30, li_31, li_32, li_33, li_34, li_35, li_36, li_37, li_38, li_39, li_40, li_41, li_42, li_43, li_44, li_45, li_46, li_47, li_48, li_49, li_50, li_51, li_52, li_53, li_54, li_55, li_56, li_57, li_58, li_59, li_60, li_61, li_62, li_63, li_64, li_65, li_66, li_96, li_97, li_99, li_100, li_122, li_125, li_126, li_140, li_255, li_256, li_999, li_1000, li_1001, li_1002, li_1100, li_1386, li_1452, li_1518, li_9999, li_1000000, ms, bd2_s, b01_t, n10, ↓reduceIte, e2, bd_s, e4]
theorem p_product {x : Int32} {B : Nat} {rec : ST → Nat → Int32 → Option ST} {recm : GV → Int32 → Option GV} (hf : 1101 ≤ fu) (hK : okK K) (hw : CB w K) (gw : gC w = 8) (h1 : PS K w p th c0 (B + 1) (fun S => rec S (p + 7) x) (fun v => recm v x)) : PS K w p th c0 B (fun S => f_X5_product fu rec S (p + 7) x) (fun v => f_X13_products fu recm v x) := by
  have := PS_loop (fu := fu) hf hK (PS_mono h1 (by omega)) (b_product (fu := fu) hK hw gw h1)
  have e1 : (fun S => f_X5_product fu rec S (p + 7) x) = (fun S => bd ((fun S => rec S (p + 7) x) S) fun S2 => lq_2 (fun k7 => f_X5_product_7s fu rec k7 (p + 7) x) fu (nI 0) S2) := by
    funext S; simp only [f_X5_product, f_X5_product_0, f_X5_product_7, ↓lm_1, ↓lm_2, ↓lm_3, ↓lm_4, ↓lm_5, ↓lm_6, ↓lm_7, ↓lm_8, ↓lm_9, ↓lm_10, ↓lm_11, li_0, li_1, li_2, li_3, li_4, li_5, li_6, li_7, li_8, li_9, li_10, li_11, li_12, li_13, li_14, li_15, li_16, li_17, li_18, li_19, li_20, li_21, li_22, li_23, li_24, li_25, li_26, li_27, li_28, li_29, li_30, li_31, li_32, li_33, li_34, li_35, li_36, li_37, li_38, li_39, li_40, li_41, li_42, li_43, li_44, li_45, li_46, li_47, li_48, li_49, li_50, li_51, li_52, li_53, li_54, li_55, li_56, li_57, li_58, li_59, li_60, li_61, li_62, li_63, li_64, li_65, li_66, li_96, li_97, li_99, li_100, li_122, li_125, li_126, li_140, li_255, li_256, li_999, li_1000, li_1001, li_1002, li_1100, li_1386, li_1452, li_1518, li_9999, li_1000000]
  have e2 : (fun v => f_X13_products fu recm v x) = (fun v => bd ((fun v => recm v x) v) fun v2 => lq_1 (fun k5 => f_X13_products_5s fu recm k5 x) fu v2) := by
    funext v; simp only [f_X13_products, f_X13_products_0, f_X13_products_5]
  rw [e1, e2]; exact this
theorem b_sum {x : Int32} {B : Nat} {rec : ST → Nat → Int32 → Option ST} {recm : GV → Int32 → Option GV} (hK : okK K) (hw : CB w K) (gw : gC w = 8) (h1 : PS K w p th c0 (B + 1) (fun S => f_X5_product fu rec S (p + 7) x) (fun v => f_X13_products fu recm v x)) : PB K w p th c0 B (fun k7 => f_X5_sum_7s fu rec k7 (p + 7) x) (fun k5 => f_X13_sums_5s fu recm k5 x) := by
  intro i S v a fl u h hi hE hc hh
  have r0 := hE.2.2.1.2.1
  have s1 := hE.2.1
  have g8 : gC (tw w a fl) = 8 := gw
  have li : ¬ nI 1000 ≤ nI i := nI_ge hi (by omega)
  have ia := x8_isAt (fu := fu) (c := 43) hK hw hE.1 (by omega)
  have ib := x8_isAt (fu := fu) (c := 45) hK hw hE.1 (by omega)
  have ma := m_isSign (fu := fu) (c := 43) hK hE.2.2.2.1 hE.1 (by omega)
  have mb := m_isSign (fu := fu) (c := 45) hK hE.2.2.2.1 hE.1 (by omega)
  have sp := x8_step1 (fu := fu) hK hw hE.1
  cases q : tS K a fl 43
  · cases q' : tS K a fl 45
    · rw [q] at ia ma
      rw [q'] at ib mb
      refine Or.inl fun k km => ⟨?_, ?_⟩
      · simp only [f_X5_sum_7s, ↓lm_1, ↓lm_2, ↓lm_3, ↓lm_4, ↓lm_5, ↓lm_6, ↓lm_7, ↓lm_8, ↓lm_9, ↓lm_10, ↓lm_11, li_0, li_1, li_2, li_3, li_4, li_5, li_6, li_7, li_8, li_9, li_10, li_11, li_12, li_13, li_14, li_15, li_16, li_17, li_18, li_19, li_20, li_21, li_22, li_23, li_24, li_25, li_26, li_27, li_28, li_29, li_30, li_31, li_32, li_33, li_34, li_35, li_36, li_37, li_38, li_39, li_40, li_41, li_42, li_43, li_44, li_45, li_46, li_47, li_48, li_49, li_50, li_51, li_52, li_53, li_54, li_55, li_56, li_57, li_58, li_59, li_60, li_61, li_62, li_63, li_64, li_65, li_66, li_96, li_97, li_99, li_100, li_122, li_125, li_126, li_140, li_255, li_256, li_999, li_1000, li_1001, li_1002, li_1100, li_1386, li_1452, li_1518, li_9999, li_1000000, li, ↓reduceIte, r0, bd_s, s1, g8, decide_true, ck_t, ia, ib, b01_f]
      · simp only [f_X13_sums_5s, ↓lm_1, ↓lm_2, ↓lm_3, ↓lm_4, ↓lm_5, ↓lm_6, ↓lm_7, ↓lm_8, ↓lm_9, ↓lm_10, ↓lm_11, li_0, li_1, li_2, li_3, li_4, li_5, li_6, li_7, li_8, li_9, li_10, li_11, li_12, li_13, li_14, li_15, li_16, li_17, li_18, li_19, li_20, li_21, li_22, li_23, li_24, li_25, li_26, li_27, li_28, li_29, li_30, li_31, li_32, li_33, li_34, li_35, li_36, li_37, li_38, li_39, li_40, li_41, li_42, li_43, li_44, li_45, li_46, li_47, li_48, li_49, li_50, li_51, li_52, li_53, li_54, li_55, li_56, li_57, li_58, li_59, li_60, li_61, li_62, li_63, li_64, li_65, li_66, li_96, li_97, li_99, li_100, li_122, li_125, li_126, li_140, li_255, li_256, li_999, li_1000, li_1001, li_1002, li_1100, li_1386, li_1452, li_1518, li_9999, li_1000000, ma, mb, bd_s, b01_f, ↓reduceIte]
    · rw [q] at ia ma
      rw [q'] at ib mb
      obtain ⟨f0, k3⟩ := tS_k q'
      subst f0
      have hk0 : kK K a ≠ 0 := by omega
      obtain ⟨hh1, hb⟩ := hh rfl
      obtain ⟨S1, z, v1, v2, a1, fl1, u1, e1, e2, e3, e4, e5, e6, e7, e8, e9, e10⟩ := PE_op (fu := fu) (o := 5) (x := mI 10) hK h1 hE hk0 hc hh1 hb (by omega) (cs_bin (by omega))
      rw [stp_in rfl hk0] at sp
      refine Or.inr ⟨st S1 (p + 7) z, v2, a1, fl1, u1, fun k km => ⟨?_, ?_⟩, e5, e6, e7, e8, e9, fun z => ⟨rfl, (e10 z).2⟩⟩
      · simp only [f_X5_sum_7s, f_X5_sum_38, f_X5_sum_57, ↓lm_1, ↓lm_2, ↓lm_3, ↓lm_4, ↓lm_5, ↓lm_6, ↓lm_7, ↓lm_8, ↓lm_9, ↓lm_10, ↓lm_11, li_0, li_1, li_2, li_3, li_4, li_5, li_6, li_7, li_8, li_9, li_10, li_11, li_12, li_13, li_14, li_15, li_16, li_17, li_18, li_19, li_20, li_21, li_22, li_23, li_24, li_25, li_26, li_27, li_28, li_29, li_30, li_31, li_32, li_33, li_34, li_35, li_36, li_37, li_38, li_39, li_40, li_41, li_42, li_43, li_44, li_45, li_46, li_47, li_48, li_49, li_50, li_51, li_52, li_53, li_54, li_55, li_56, li_57, li_58, li_59, li_60, li_61, li_62, li_63, li_64, li_65, li_66, li_96, li_97, li_99, li_100, li_122, li_125, li_126, li_140, li_255, li_256, li_999, li_1000, li_1001, li_1002, li_1100, li_1386, li_1452, li_1518, li_9999, li_1000000, li, ↓reduceIte, r0, bd_s, s1, g8, decide_true, ck_t, ia, ib, b01_t, b01_f, n10, sp, nm_eq, e1, e3, nI_add]
      · simp only [f_X13_sums_5s, f_X13_sums_23, f_X13_sums_55, ↓lm_1, ↓lm_2, ↓lm_3, ↓lm_4, ↓lm_5, ↓lm_6, ↓lm_7, ↓lm_8, ↓lm_9, ↓lm_10, ↓lm_11, li_0, li_1, li_2, li_3, li_4, li_5, li_6, li_7, li_8, li_9, li_10, li_11, li_12, li_13, li_14, li_15, li_16, li_17, li_18, li_19, li_20, li_21, li_22, li_23, li_24, li_25, li_26, li_27, li_28, li_29, li_30, li_31, li_32, li_33, li_34, li_35, li_36, li_37, li_38, li_39, li_40, li_41, li_42, li_43, li_44, li_45, li_46, li_47, li_48, li_49, li_50, li_51, li_52, li_53, li_54, li_55, li_56, li_57, li_58, li_59, li_60, li_61, li_62, li_63, li_64, li_65, li_66, li_96, li_97, li_99, li_100, li_122, li_125, li_126, li_140, li_255, li_256, li_999, li_1000, li_1001, li_1002, li_1100, li_1386, li_1452, li_1518, li_9999, li_1000000, ma, mb, b01_t, b01_f, n10, ↓reduceIte, mw_g7, nI_add, mw_7, nm_eq, e2, bd_s, e4]
  · rw [q] at ia ma
    obtain ⟨f0, k3⟩ := tS_k q
    subst f0
    have hk0 : kK K a ≠ 0 := by omega
    obtain ⟨hh1, hb⟩ := hh rfl
    obtain ⟨S1, z, v1, v2, a1, fl1, u1, e1, e2, e3, e4, e5, e6, e7, e8, e9, e10⟩ := PE_op (fu := fu) (o := 4) (x := mI 9) hK h1 hE hk0 hc hh1 hb (by omega) (cs_bin (by omega))
    rw [stp_in rfl hk0] at sp
    refine Or.inr ⟨st S1 (p + 7) z, v2, a1, fl1, u1, fun k km => ⟨?_, ?_⟩, e5, e6, e7, e8, e9, fun z => ⟨rfl, (e10 z).2⟩⟩
    · simp only [f_X5_sum_7s, f_X5_sum_38, f_X5_sum_57, ↓lm_1, ↓lm_2, ↓lm_3, ↓lm_4, ↓lm_5, ↓lm_6, ↓lm_7, ↓lm_8, ↓lm_9, ↓lm_10, ↓lm_11, li_0, li_1, li_2, li_3, li_4, li_5, li_6, li_7, li_8, li_9, li_10, li_11, li_12, li_13, li_14, li_15, li_16, li_17, li_18, li_19, li_20, li_21, li_22, li_23, li_24, li_25, li_26, li_27, li_28, li_29, li_30, li_31, li_32, li_33, li_34, li_35, li_36, li_37, li_38, li_39, li_40, li_41, li_42, li_43, li_44, li_45, li_46, li_47, li_48, li_49, li_50, li_51, li_52, li_53, li_54, li_55, li_56, li_57, li_58, li_59, li_60, li_61, li_62, li_63, li_64, li_65, li_66, li_96, li_97, li_99, li_100, li_122, li_125, li_126, li_140, li_255, li_256, li_999, li_1000, li_1001, li_1002, li_1100, li_1386, li_1452, li_1518, li_9999, li_1000000, li, ↓reduceIte, r0, bd_s, s1, g8, decide_true, ck_t, ia, b01_t, n10, sp, nm_eq, e1, e3, nI_add]
    · simp only [f_X13_sums_5s, f_X13_sums_23, f_X13_sums_55, ↓lm_1, ↓lm_2, ↓lm_3, ↓lm_4, ↓lm_5, ↓lm_6, ↓lm_7, ↓lm_8, ↓lm_9, ↓lm_10, ↓lm_11, li_0, li_1, li_2, li_3, li_4, li_5, li_6, li_7, li_8, li_9, li_10, li_11, li_12, li_13, li_14, li_15, li_16, li_17, li_18, li_19, li_20, li_21, li_22, li_23, li_24, li_25, li_26, li_27, li_28, li_29, li_30, li_31, li_32, li_33, li_34, li_35, li_36, li_37, li_38, li_39, li_40, li_41, li_42, li_43, li_44, li_45, li_46, li_47, li_48, li_49, li_50, li_51, li_52, li_53, li_54, li_55, li_56, li_57, li_58, li_59, li_60, li_61, li_62, li_63, li_64, li_65, li_66, li_96, li_97, li_99, li_100, li_122, li_125, li_126, li_140, li_255, li_256, li_999, li_1000, li_1001, li_1002, li_1100, li_1386, li_1452, li_1518, li_9999, li_1000000, ma, b01_t, n10, ↓reduceIte, mw_g7, nI_add, mw_7, nm_eq, e2, bd_s, e4]
theorem p_sum {x : Int32} {B : Nat} {rec : ST → Nat → Int32 → Option ST} {recm : GV → Int32 → Option GV} (hf : 1101 ≤ fu) (hK : okK K) (hw : CB w K) (gw : gC w = 8) (h1 : PS K w p th c0 (B + 1) (fun S => f_X5_product fu rec S (p + 7) x) (fun v => f_X13_products fu recm v x)) : PS K w p th c0 B (fun S => f_X5_sum fu rec S (p + 7) x) (fun v => f_X13_sums fu recm v x) := by
  have := PS_loop (fu := fu) hf hK (PS_mono h1 (by omega)) (b_sum (fu := fu) hK hw gw h1)
  have e1 : (fun S => f_X5_sum fu rec S (p + 7) x) = (fun S => bd ((fun S => f_X5_product fu rec S (p + 7) x) S) fun S2 => lq_2 (fun k7 => f_X5_sum_7s fu rec k7 (p + 7) x) fu (nI 0) S2) := by
    funext S; simp only [f_X5_sum, f_X5_sum_0, f_X5_sum_7, ↓lm_1, ↓lm_2, ↓lm_3, ↓lm_4, ↓lm_5, ↓lm_6, ↓lm_7, ↓lm_8, ↓lm_9, ↓lm_10, ↓lm_11, li_0, li_1, li_2, li_3, li_4, li_5, li_6, li_7, li_8, li_9, li_10, li_11, li_12, li_13, li_14, li_15, li_16, li_17, li_18, li_19, li_20, li_21, li_22, li_23, li_24, li_25, li_26, li_27, li_28, li_29, li_30, li_31, li_32, li_33, li_34, li_35, li_36, li_37, li_38, li_39, li_40, li_41, li_42, li_43, li_44, li_45, li_46, li_47, li_48, li_49, li_50, li_51, li_52, li_53, li_54, li_55, li_56, li_57, li_58, li_59, li_60, li_61, li_62, li_63, li_64, li_65, li_66, li_96, li_97, li_99, li_100, li_122, li_125, li_126, li_140, li_255, li_256, li_999, li_1000, li_1001, li_1002, li_1100, li_1386, li_1452, li_1518, li_9999, li_1000000]
  have e2 : (fun v => f_X13_sums fu recm v x) = (fun v => bd ((fun v => f_X13_products fu recm v x) v) fun v2 => lq_1 (fun k5 => f_X13_sums_5s fu recm k5 x) fu v2) := by
    funext v; simp only [f_X13_sums, f_X13_sums_0, f_X13_sums_5]
  rw [e1, e2]; exact this
theorem p_test {x : Int32} {B : Nat} {rec : ST → Nat → Int32 → Option ST} {recm : GV → Int32 → Option GV} (hK : okK K) (hw : CB w K) (gw : gC w = 8) (h1 : PS K w p th c0 (B + 1) (fun S => f_X5_sum fu rec S (p + 7) x) (fun v => f_X13_sums fu recm v x)) : PS K w p th c0 B (fun S => f_X5_test fu rec S (p + 7) x) (fun v => f_X13_test fu recm v x) := by
  intro S v a fl u h hE0 hc0 hh0
  obtain ⟨S1, v1, a1, fl1, u1, d1, d2, d3, d4, d5, d6, d7, d8⟩ := h1 S v a fl u h hE0 hc0 (fun q => ⟨(hh0 q).1, by have := (hh0 q).2; omega⟩)
  simp only at d1 d2
  have hE := d3
  have r0 := hE.2.2.1.2.1
  have s1 := hE.2.1
  have g8 : gC (tw w a1 fl1) = 8 := gw
  have ia := x8_isAt (fu := fu) (c := 60) hK hw hE.1 (by omega)
  have ib := x8_isAt (fu := fu) (c := 61) hK hw hE.1 (by omega)
  have ma := m_isSign (fu := fu) (c := 60) hK hE.2.2.2.1 hE.1 (by omega)
  have mh := m_hasSign (fu := fu) (c := 60) hK hE.2.2.2.1 hE.1 (by omega)
  have mg := m_hasSign (fu := fu) (c := 61) hK hE.2.2.2.1 hE.1 (by omega)
  have sp := x8_step1 (fu := fu) hK hw hE.1
  cases q : tS K a1 fl1 60
  · rw [q] at ia ma mh
    simp only [Bool.false_eq_true, ↓reduceIte] at mh
    cases q' : tS K a1 fl1 61
    · rw [q'] at ib mg
      simp only [Bool.false_eq_true, ↓reduceIte] at mg
      refine ⟨S1, v1, a1, fl1, u1, ?_, ?_, d3, d4, d5, d6, d7, d8⟩
      · simp only [f_X5_test, f_X5_test_0, ↓lm_1, ↓lm_2, ↓lm_3, ↓lm_4, ↓lm_5, ↓lm_6, ↓lm_7, ↓lm_8, ↓lm_9, ↓lm_10, ↓lm_11, li_0, li_1, li_2, li_3, li_4, li_5, li_6, li_7, li_8, li_9, li_10, li_11, li_12, li_13, li_14, li_15, li_16, li_17, li_18, li_19, li_20, li_21, li_22, li_23, li_24, li_25, li_26, li_27, li_28, li_29, li_30, li_31, li_32, li_33, li_34, li_35, li_36, li_37, li_38, li_39, li_40, li_41, li_42, li_43, li_44, li_45, li_46, li_47, li_48, li_49, li_50, li_51, li_52, li_53, li_54, li_55, li_56, li_57, li_58, li_59, li_60, li_61, li_62, li_63, li_64, li_65, li_66, li_96, li_97, li_99, li_100, li_122, li_125, li_126, li_140, li_255, li_256, li_999, li_1000, li_1001, li_1002, li_1100, li_1386, li_1452, li_1518, li_9999, li_1000000, d1, ↓reduceIte, r0, bd_s, s1, g8, decide_true, ck_t, ia, ib, b01_f]
      · simp only [f_X13_test, f_X13_test_0, ↓lm_1, ↓lm_2, ↓lm_3, ↓lm_4, ↓lm_5, ↓lm_6, ↓lm_7, ↓lm_8, ↓lm_9, ↓lm_10, ↓lm_11, li_0, li_1, li_2, li_3, li_4, li_5, li_6, li_7, li_8, li_9, li_10, li_11, li_12, li_13, li_14, li_15, li_16, li_17, li_18, li_19, li_20, li_21, li_22, li_23, li_24, li_25, li_26, li_27, li_28, li_29, li_30, li_31, li_32, li_33, li_34, li_35, li_36, li_37, li_38, li_39, li_40, li_41, li_42, li_43, li_44, li_45, li_46, li_47, li_48, li_49, li_50, li_51, li_52, li_53, li_54, li_55, li_56, li_57, li_58, li_59, li_60, li_61, li_62, li_63, li_64, li_65, li_66, li_96, li_97, li_99, li_100, li_122, li_125, li_126, li_140, li_255, li_256, li_999, li_1000, li_1001, li_1002, li_1100, li_1386, li_1452, li_1518, li_9999, li_1000000, d2, ma, mh, mg, bd_s, bd2_s, b01_f, ↓reduceIte]
    · rw [q'] at ib mg
      simp only [↓reduceIte] at mg
      obtain ⟨f0, k3⟩ := tS_k q'
      subst f0
      have hk0 : kK K a1 ≠ 0 := by omega
      obtain ⟨z1, z2, z3⟩ := d8 rfl
      obtain ⟨hh1, hb⟩ := hh0 z1
      obtain ⟨S2, z, v2, v3, a2, fl2, u2, e1, e2, e3, e4, e5, e6, e7, e8, e9, e10⟩ := PE_op (fu := fu) (o := 8) (x := mI 8) hK h1 hE hk0 (by omega) z3 hb (by omega) (cs_bin (by omega))
      rw [stp_in rfl hk0] at sp
      refine ⟨st S2 (p + 7) z, v3, a2, fl2, u2, ?_, ?_, e5, FR_trans d4 e6, MF_trans d5 e7, by omega, by omega, fun z => ⟨z1, by omega, (e10 z).2⟩⟩
      · simp only [f_X5_test, f_X5_test_0, f_X5_test_29, f_X5_test_48, ↓lm_1, ↓lm_2, ↓lm_3, ↓lm_4, ↓lm_5, ↓lm_6, ↓lm_7, ↓lm_8, ↓lm_9, ↓lm_10, ↓lm_11, li_0, li_1, li_2, li_3, li_4, li_5, li_6, li_7, li_8, li_9, li_10, li_11, li_12, li_13, li_14, li_15, li_16, li_17, li_18, li_19, li_20, li_21, li_22, li_23, li_24, li_25, li_26, li_27, li_28, li_29, li_30, li_31, li_32, li_33, li_34, li_35, li_36, li_37, li_38, li_39, li_40, li_41, li_42, li_43, li_44, li_45, li_46, li_47, li_48, li_49, li_50, li_51, li_52, li_53, li_54, li_55, li_56, li_57, li_58, li_59, li_60, li_61, li_62, li_63, li_64, li_65, li_66, li_96, li_97, li_99, li_100, li_122, li_125, li_126, li_140, li_255, li_256, li_999, li_1000, li_1001, li_1002, li_1100, li_1386, li_1452, li_1518, li_9999, li_1000000, d1, ↓reduceIte, r0, bd_s, s1, g8, decide_true, ck_t, ia, ib, b01_t, b01_f, n10, sp, nm_eq, e1, e3]
      · simp only [f_X13_test, f_X13_test_0, f_X13_test_30, f_X13_test_47, ↓lm_1, ↓lm_2, ↓lm_3, ↓lm_4, ↓lm_5, ↓lm_6, ↓lm_7, ↓lm_8, ↓lm_9, ↓lm_10, ↓lm_11, li_0, li_1, li_2, li_3, li_4, li_5, li_6, li_7, li_8, li_9, li_10, li_11, li_12, li_13, li_14, li_15, li_16, li_17, li_18, li_19, li_20, li_21, li_22, li_23, li_24, li_25, li_26, li_27, li_28, li_29, li_30, li_31, li_32, li_33, li_34, li_35, li_36, li_37, li_38, li_39, li_40, li_41, li_42, li_43, li_44, li_45, li_46, li_47, li_48, li_49, li_50, li_51, li_52, li_53, li_54, li_55, li_56, li_57, li_58, li_59, li_60, li_61, li_62, li_63, li_64, li_65, li_66, li_96, li_97, li_99, li_100, li_122, li_125, li_126, li_140, li_255, li_256, li_999, li_1000, li_1001, li_1002, li_1100, li_1386, li_1452, li_1518, li_9999, li_1000000, d2, ma, mh, mg, b01_t, b01_f, n10, ↓reduceIte, e2, bd_s, bd2_s, e4]
  · rw [q] at ia ma mh
    simp only [↓reduceIte] at mh
    obtain ⟨f0, k3⟩ := tS_k q
    subst f0
    have hk0 : kK K a1 ≠ 0 := by omega
    obtain ⟨z1, z2, z3⟩ := d8 rfl
    obtain ⟨hh1, hb⟩ := hh0 z1
    obtain ⟨S2, z, v2, v3, a2, fl2, u2, e1, e2, e3, e4, e5, e6, e7, e8, e9, e10⟩ := PE_op (fu := fu) (o := 7) (x := mI 7) hK h1 hE hk0 (by omega) z3 hb (by omega) (cs_bin (by omega))
    rw [stp_in rfl hk0] at sp
    refine ⟨st S2 (p + 7) z, v3, a2, fl2, u2, ?_, ?_, e5, FR_trans d4 e6, MF_trans d5 e7, by omega, by omega, fun z => ⟨z1, by omega, (e10 z).2⟩⟩
    · simp only [f_X5_test, f_X5_test_0, f_X5_test_29, f_X5_test_48, ↓lm_1, ↓lm_2, ↓lm_3, ↓lm_4, ↓lm_5, ↓lm_6, ↓lm_7, ↓lm_8, ↓lm_9, ↓lm_10, ↓lm_11, li_0, li_1, li_2, li_3, li_4, li_5, li_6, li_7, li_8, li_9, li_10, li_11, li_12, li_13, li_14, li_15, li_16, li_17, li_18, li_19, li_20, li_21, li_22, li_23, li_24, li_25, li_26, li_27, li_28, li_29, li_30, li_31, li_32, li_33, li_34, li_35, li_36, li_37, li_38, li_39, li_40, li_41, li_42, li_43, li_44, li_45, li_46, li_47, li_48, li_49, li_50, li_51, li_52, li_53, li_54, li_55, li_56, li_57, li_58, li_59, li_60, li_61, li_62, li_63, li_64, li_65, li_66, li_96, li_97, li_99, li_100, li_122, li_125, li_126, li_140, li_255, li_256, li_999, li_1000, li_1001, li_1002, li_1100, li_1386, li_1452, li_1518, li_9999, li_1000000, d1, ↓reduceIte, r0, bd_s, s1, g8, decide_true, ck_t, ia, b01_t, n10, sp, nm_eq, e1, e3]
    · simp only [f_X13_test, f_X13_test_0, f_X13_test_30, f_X13_test_47, ↓lm_1, ↓lm_2, ↓lm_3, ↓lm_4, ↓lm_5, ↓lm_6, ↓lm_7, ↓lm_8, ↓lm_9, ↓lm_10, ↓lm_11, li_0, li_1, li_2, li_3, li_4, li_5, li_6, li_7, li_8, li_9, li_10, li_11, li_12, li_13, li_14, li_15, li_16, li_17, li_18, li_19, li_20, li_21, li_22, li_23, li_24, li_25, li_26, li_27, li_28, li_29, li_30, li_31, li_32, li_33, li_34, li_35, li_36, li_37, li_38, li_39, li_40, li_41, li_42, li_43, li_44, li_45, li_46, li_47, li_48, li_49, li_50, li_51, li_52, li_53, li_54, li_55, li_56, li_57, li_58, li_59, li_60, li_61, li_62, li_63, li_64, li_65, li_66, li_96, li_97, li_99, li_100, li_122, li_125, li_126, li_140, li_255, li_256, li_999, li_1000, li_1001, li_1002, li_1100, li_1386, li_1452, li_1518, li_9999, li_1000000, d2, ma, mh, b01_t, n10, ↓reduceIte, e2, bd_s, bd2_s, e4]
theorem b_expr {x : Int32} {B : Nat} {rec : ST → Nat → Int32 → Option ST} {recm : GV → Int32 → Option GV} (hK : okK K) (hw : CB w K) (gw : gC w = 8) (h1 : PS K w p th c0 (B + 1) (fun S => f_X5_test fu rec S (p + 7) x) (fun v => f_X13_test fu recm v x)) : PB K w p th c0 B (fun k7 => f_X5_expression_7s fu rec k7 (p + 7) x) (fun k5 => f_X13_all_5s fu recm k5 x) := by
  intro i S v a fl u h hi hE hc hh
  have r0 := hE.2.2.1.2.1
  have s1 := hE.2.1
  have g8 : gC (tw w a fl) = 8 := gw
  have li : ¬ nI 1000 ≤ nI i := nI_ge hi (by omega)
  have ia := x8_isAtW (fu := fu) (i := 24) hK hw hE.1 (by omega) (by omega)
  have ib := x8_isAtW (fu := fu) (i := 25) hK hw hE.1 (by omega) (by omega)
  have ma := m_isWord (fu := fu) (i := 23) hK hE.2.2.2.1 hE.2.2.2.2.1 hE.1 (by omega)
  have mb := m_isWord (fu := fu) (i := 24) hK hE.2.2.2.1 hE.2.2.2.2.1 hE.1 (by omega)
  have sp := x8_step1 (fu := fu) hK hw hE.1
  simp only [Nat.reduceAdd] at ma mb
  by_cases q : tI K a fl = 24
  · rw [decide_eq_true q] at ia ma
    obtain ⟨f0, k3⟩ := tI_k (by omega) q
    subst f0
    have hk0 : kK K a ≠ 0 := by omega
    obtain ⟨hh1, hb⟩ := hh rfl
    obtain ⟨S1, z, v1, v2, a1, fl1, u1, e1, e2, e3, e4, e5, e6, e7, e8, e9, e10⟩ := PE_op (fu := fu) (o := 9) (x := mI 5) hK h1 hE hk0 hc hh1 hb (by omega) (cs_bin (by omega))
    rw [stp_in rfl hk0] at sp
    refine Or.inr ⟨st S1 (p + 7) z, v2, a1, fl1, u1, fun k km => ⟨?_, ?_⟩, e5, e6, e7, e8, e9, fun z => ⟨rfl, (e10 z).2⟩⟩
    · simp only [f_X5_expression_7s, f_X5_expression_40, f_X5_expression_60, ↓lm_1, ↓lm_2, ↓lm_3, ↓lm_4, ↓lm_5, ↓lm_6, ↓lm_7, ↓lm_8, ↓lm_9, ↓lm_10, ↓lm_11, li_0, li_1, li_2, li_3, li_4, li_5, li_6, li_7, li_8, li_9, li_10, li_11, li_12, li_13, li_14, li_15, li_16, li_17, li_18, li_19, li_20, li_21, li_22, li_23, li_24, li_25, li_26, li_27, li_28, li_29, li_30, li_31, li_32, li_33, li_34, li_35, li_36, li_37, li_38, li_39, li_40, li_41, li_42, li_43, li_44, li_45, li_46, li_47, li_48, li_49, li_50, li_51, li_52, li_53, li_54, li_55, li_56, li_57, li_58, li_59, li_60, li_61, li_62, li_63, li_64, li_65, li_66, li_96, li_97, li_99, li_100, li_122, li_125, li_126, li_140, li_255, li_256, li_999, li_1000, li_1001, li_1002, li_1100, li_1386, li_1452, li_1518, li_9999, li_1000000, li, ↓reduceIte, r0, bd_s, s1, g8, decide_true, ck_t, ia, b01_t, n10, sp, nm_eq, e1, e3, nI_add]
    · simp only [f_X13_all_5s, f_X13_all_23, f_X13_all_57, ↓lm_1, ↓lm_2, ↓lm_3, ↓lm_4, ↓lm_5, ↓lm_6, ↓lm_7, ↓lm_8, ↓lm_9, ↓lm_10, ↓lm_11, li_0, li_1, li_2, li_3, li_4, li_5, li_6, li_7, li_8, li_9, li_10, li_11, li_12, li_13, li_14, li_15, li_16, li_17, li_18, li_19, li_20, li_21, li_22, li_23, li_24, li_25, li_26, li_27, li_28, li_29, li_30, li_31, li_32, li_33, li_34, li_35, li_36, li_37, li_38, li_39, li_40, li_41, li_42, li_43, li_44, li_45, li_46, li_47, li_48, li_49, li_50, li_51, li_52, li_53, li_54, li_55, li_56, li_57, li_58, li_59, li_60, li_61, li_62, li_63, li_64, li_65, li_66, li_96, li_97, li_99, li_100, li_122, li_125, li_126, li_140, li_255, li_256, li_999, li_1000, li_1001, li_1002, li_1100, li_1386, li_1452, li_1518, li_9999, li_1000000, ma, b01_t, n10, ↓reduceIte, mw_g7, nI_add, mw_7, nm_eq, e2, bd_s, e4]
  · rw [decide_eq_false q] at ia ma
    by_cases q' : tI K a fl = 25
    · rw [decide_eq_true q'] at ib mb
      obtain ⟨f0, k3⟩ := tI_k (by omega) q'
      subst f0
      have hk0 : kK K a ≠ 0 := by omega
      obtain ⟨hh1, hb⟩ := hh rfl
      obtain ⟨S1, z, v1, v2, a1, fl1, u1, e1, e2, e3, e4, e5, e6, e7, e8, e9, e10⟩ := PE_op (fu := fu) (o := 10) (x := mI 6) hK h1 hE hk0 hc hh1 hb (by omega) (cs_bin (by omega))
      rw [stp_in rfl hk0] at sp
      refine Or.inr ⟨st S1 (p + 7) z, v2, a1, fl1, u1, fun k km => ⟨?_, ?_⟩, e5, e6, e7, e8, e9, fun z => ⟨rfl, (e10 z).2⟩⟩
      · simp only [f_X5_expression_7s, f_X5_expression_40, f_X5_expression_60, ↓lm_1, ↓lm_2, ↓lm_3, ↓lm_4, ↓lm_5, ↓lm_6, ↓lm_7, ↓lm_8, ↓lm_9, ↓lm_10, ↓lm_11, li_0, li_1, li_2, li_3, li_4, li_5, li_6, li_7, li_8, li_9, li_10, li_11, li_12, li_13, li_14, li_15, li_16, li_17, li_18, li_19, li_20, li_21, li_22, li_23, li_24, li_25, li_26, li_27, li_28, li_29, li_30, li_31, li_32, li_33, li_34, li_35, li_36, li_37, li_38, li_39, li_40, li_41, li_42, li_43, li_44, li_45, li_46, li_47, li_48, li_49, li_50, li_51, li_52, li_53, li_54, li_55, li_56, li_57, li_58, li_59, li_60, li_61, li_62, li_63, li_64, li_65, li_66, li_96, li_97, li_99, li_100, li_122, li_125, li_126, li_140, li_255, li_256, li_999, li_1000, li_1001, li_1002, li_1100, li_1386, li_1452, li_1518, li_9999, li_1000000, li, ↓reduceIte, r0, bd_s, s1, g8, decide_true, ck_t, ia, ib, b01_t, b01_f, n10, sp, nm_eq, e1, e3, nI_add]
      · simp only [f_X13_all_5s, f_X13_all_23, f_X13_all_57, ↓lm_1, ↓lm_2, ↓lm_3, ↓lm_4, ↓lm_5, ↓lm_6, ↓lm_7, ↓lm_8, ↓lm_9, ↓lm_10, ↓lm_11, li_0, li_1, li_2, li_3, li_4, li_5, li_6, li_7, li_8, li_9, li_10, li_11, li_12, li_13, li_14, li_15, li_16, li_17, li_18, li_19, li_20, li_21, li_22, li_23, li_24, li_25, li_26, li_27, li_28, li_29, li_30, li_31, li_32, li_33, li_34, li_35, li_36, li_37, li_38, li_39, li_40, li_41, li_42, li_43, li_44, li_45, li_46, li_47, li_48, li_49, li_50, li_51, li_52, li_53, li_54, li_55, li_56, li_57, li_58, li_59, li_60, li_61, li_62, li_63, li_64, li_65, li_66, li_96, li_97, li_99, li_100, li_122, li_125, li_126, li_140, li_255, li_256, li_999, li_1000, li_1001, li_1002, li_1100, li_1386, li_1452, li_1518, li_9999, li_1000000, ma, mb, b01_t, b01_f, n10, ↓reduceIte, mw_g7, nI_add, mw_7, nm_eq, e2, bd_s, e4]
    · rw [decide_eq_false q'] at ib mb
      refine Or.inl fun k km => ⟨?_, ?_⟩
      · simp only [f_X5_expression_7s, ↓lm_1, ↓lm_2, ↓lm_3, ↓lm_4, ↓lm_5, ↓lm_6, ↓lm_7, ↓lm_8, ↓lm_9, ↓lm_10, ↓lm_11, li_0, li_1, li_2, li_3, li_4, li_5, li_6, li_7, li_8, li_9, li_10, li_11, li_12, li_13, li_14, li_15, li_16, li_17, li_18, li_19, li_20, li_21, li_22, li_23, li_24, li_25, li_26, li_27, li_28, li_29, li_30, li_31, li_32, li_33, li_34, li_35, li_36, li_37, li_38, li_39, li_40, li_41, li_42, li_43, li_44, li_45, li_46, li_47, li_48, li_49, li_50, li_51, li_52, li_53, li_54, li_55, li_56, li_57, li_58, li_59, li_60, li_61, li_62, li_63, li_64, li_65, li_66, li_96, li_97, li_99, li_100, li_122, li_125, li_126, li_140, li_255, li_256, li_999, li_1000, li_1001, li_1002, li_1100, li_1386, li_1452, li_1518, li_9999, li_1000000, li, ↓reduceIte, r0, bd_s, s1, g8, decide_true, ck_t, ia, ib, b01_f]
      · simp only [f_X13_all_5s, ↓lm_1, ↓lm_2, ↓lm_3, ↓lm_4, ↓lm_5, ↓lm_6, ↓lm_7, ↓lm_8, ↓lm_9, ↓lm_10, ↓lm_11, li_0, li_1, li_2, li_3, li_4, li_5, li_6, li_7, li_8, li_9, li_10, li_11, li_12, li_13, li_14, li_15, li_16, li_17, li_18, li_19, li_20, li_21, li_22, li_23, li_24, li_25, li_26, li_27, li_28, li_29, li_30, li_31, li_32, li_33, li_34, li_35, li_36, li_37, li_38, li_39, li_40, li_41, li_42, li_43, li_44, li_45, li_46, li_47, li_48, li_49, li_50, li_51, li_52, li_53, li_54, li_55, li_56, li_57, li_58, li_59, li_60, li_61, li_62, li_63, li_64, li_65, li_66, li_96, li_97, li_99, li_100, li_122, li_125, li_126, li_140, li_255, li_256, li_999, li_1000, li_1001, li_1002, li_1100, li_1386, li_1452, li_1518, li_9999, li_1000000, ma, mb, bd_s, b01_f, ↓reduceIte]
theorem p_expr {x : Int32} {B : Nat} {rec : ST → Nat → Int32 → Option ST} {recm : GV → Int32 → Option GV} (hf : 1101 ≤ fu) (hK : okK K) (hw : CB w K) (gw : gC w = 8) (h1 : PS K w p th c0 (B + 4) (fun S => rec S (p + 7) x) (fun v => recm v x)) : PS K w p th c0 B (fun S => f_X5_expression fu rec S (p + 7) x) (fun v => f_X13_all fu recm v x) := by
  have h2 := p_test (fu := fu) hK hw gw (p_sum (fu := fu) hf hK hw gw (p_product (fu := fu) hf hK hw gw h1))
  have := PS_loop (fu := fu) hf hK (PS_mono h2 (by omega)) (b_expr (fu := fu) hK hw gw h2)
  have e1 : (fun S => f_X5_expression fu rec S (p + 7) x) = (fun S => bd ((fun S => f_X5_test fu rec S (p + 7) x) S) fun S2 => lq_2 (fun k7 => f_X5_expression_7s fu rec k7 (p + 7) x) fu (nI 0) S2) := by
    funext S; simp only [f_X5_expression, f_X5_expression_0, f_X5_expression_7, ↓lm_1, ↓lm_2, ↓lm_3, ↓lm_4, ↓lm_5, ↓lm_6, ↓lm_7, ↓lm_8, ↓lm_9, ↓lm_10, ↓lm_11, li_0, li_1, li_2, li_3, li_4, li_5, li_6, li_7, li_8, li_9, li_10, li_11, li_12, li_13, li_14, li_15, li_16, li_17, li_18, li_19, li_20, li_21, li_22, li_23, li_24, li_25, li_26, li_27, li_28, li_29, li_30, li_31, li_32, li_33, li_34, li_35, li_36, li_37, li_38, li_39, li_40, li_41, li_42, li_43, li_44, li_45, li_46, li_47, li_48, li_49, li_50, li_51, li_52, li_53, li_54, li_55, li_56, li_57, li_58, li_59, li_60, li_61, li_62, li_63, li_64, li_65, li_66, li_96, li_97, li_99, li_100, li_122, li_125, li_126, li_140, li_255, li_256, li_999, li_1000, li_1001, li_1002, li_1100, li_1386, li_1452, li_1518, li_9999, li_1000000]
  have e2 : (fun v => f_X13_all fu recm v x) = (fun v => bd ((fun v => f_X13_test fu recm v x) v) fun v2 => lq_1 (fun k5 => f_X13_all_5s fu recm k5 x) fu v2) := by
    funext v; simp only [f_X13_all, f_X13_all_0, f_X13_all_5]
  rw [e1, e2]; exact this
end Q
