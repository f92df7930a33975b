/-! ===== gallery: a law is read and made ===== -/
section T
variable {fu p d n a fl j th c m : Nat} {g0 : GG} {K : KT} {w v : GV} {S : ST} {G : GP} {N : NM}
theorem m_emit {k : Nat} {o y : Int32} (h : gI v 13 = nI k) (hk : k < 1100) : f_X13_emit fu (mw v a fl) o y = some (mw (em v k o y) a fl) := by
  simp (disch := omega) only [f_X13_emit, f_X13_emit_0, ↓lm_1, ↓lm_2, ↓lm_3, ↓lm_4, ↓lm_5, ↓lm_6, ↓lm_7, ↓lm_8, ↓lm_9, ↓lm_10, ↓lm_11, li_0, li_1, li_2, li_3, li_4, li_5, li_6, li_7, li_8, li_9, li_10, li_11, li_12, li_13, li_14, li_15, li_16, li_17, li_18, li_19, li_20, li_21, li_22, li_23, li_24, li_25, li_26, li_27, li_28, li_29, li_30, li_31, li_32, li_33, li_34, li_35, li_36, li_37, li_38, li_39, li_40, li_41, li_42, li_43, li_44, li_45, li_46, li_47, li_48, li_49, li_50, li_51, li_52, li_53, li_54, li_55, li_56, li_57, li_58, li_59, li_60, li_61, li_62, li_63, li_64, li_65, li_66, li_96, li_97, li_99, li_100, li_122, li_125, li_126, li_140, li_255, li_256, li_999, li_1000, li_1001, li_1002, li_1100, li_1386, li_1452, li_1518, li_9999, li_1000000, mw_I, mw_sA, h, gI_sA, nI_add, inb_n, ck_t, nI_clamp, nm_eq, mw_sI, em]
theorem law_core (hf : 1101 ≤ fu) (hK : okK K) (hw : CB w K) (gw : gC w = 8) (ht : th = 2 ∨ th = 3) (h : okP K a 0) (hS : S (p + 1) = tw w a 0) (h5 : gC (S (p + 7)) = 5 ∧ gR (S (p + 7)) 0 = some (p + 1)) (hv : MB v K) (h9 : WB9 v) (h13 : gI v 13 = nI c) (h20 : gI v 20 = nI (3 + 2 ^ th)) (hc : c + 1 ≤ a) (hm : p + 7 < m) : ∃ S4 v6 a3 fl3 u, f_X5_read fu g0 S (p + 7) (26 + th) m = some S4 ∧ (bd (f_X13_all fu (f_X13_takePartD fu 8) (mw v a 0) (nI 0)) fun v3 => f_X13_emit fu v3 (nI 0) (nI 0)) = some (mw v6 a3 fl3) ∧ okP K a3 fl3 ∧ S4 (p + 1) = tw w a3 fl3 ∧ (gC (S4 (p + 7)) = 5 ∧ gR (S4 (p + 7)) 0 = some (p + 1)) ∧ (∀ b, b < m → b ≠ p + 1 → b ≠ p + 7 → S4 b = S b) ∧ gC (S4 m) = 4 ∧ MF c v v6 ∧ gI v6 13 = nI (c + u + 1) ∧ u + a ≤ a3 ∧ (fl3 = 0 → a < a3 ∧ LC (S4 m) (dO v6) (dA v6) c u th ∧ okL (dO v6) (dA v6) c u) := by
  have hN := hK.1
  have pe : PE K w p th c (st S (p + 7) (sI (sI (S (p + 7)) 3 (nI (26 + th))) 2 (nI 0))) v a 0 0 := by
    refine ⟨h, by rw [st_ne _ _ (by omega)]; exact hS, ?_, hv, h9, h13, h20, fun k hk => by omega⟩
    rw [st_same]
    exact ⟨h5.1, h5.2, by rw [gI_sI, if_neg (by decide), gI_sI, if_pos rfl], by rw [gI_sI, if_pos rfl]⟩
  have ps := p_expr (fu := fu) (x := nI 0) (B := 0) (p := p) (th := th) (c0 := c) hf hK hw gw (p_partD (fu := fu) (c0 := c) (p := p) hf hK hw gw ht 7 0 (by omega) (by omega))
  obtain ⟨S3, v3, a3, fl3, u, e1, e2, e3, e4, e5, e6, e7, e8⟩ := ps _ v a 0 0 0 pe (by omega) (fun _ => ⟨⟨fun k hk => by omega, rfl⟩, by omega⟩)
  simp only at e1 e2
  have ha3 := e3.1.1
  obtain ⟨f1, f2, ⟨f3, f4, f5, f6⟩, f7, f8, f9, f10, f11⟩ := e3
  obtain ⟨S4, m1, m2, m3, m4, m5⟩ := x5_make (fu := fu) (g0 := g0) (S := S) (S3 := S3) (a := p + 7) (n := m) (u := u) (e1 := 26 + th) e1 f3 f6 (by omega) hm
  have em1 := m_emit (fu := fu) (v := v3) (a := a3) (fl := fl3) (o := nI 0) (y := nI 0) f9 (by omega)
  have Oe : ∀ k, k < u → dO (em v3 (c + u) (nI 0) (nI 0)) (c + k) = dO v3 (c + k) := fun k hk => by rw [dO_em, if_neg (by omega)]
  have Ae : ∀ k, k < u → dA (em v3 (c + u) (nI 0) (nI 0)) (c + k) = dA v3 (c + k) := fun k hk => by rw [dA_em, if_neg (by omega)]
  refine ⟨S4, em v3 (c + u) (nI 0) (nI 0), a3, fl3, u, m1, by rw [e2, bd_s, em1], f1, by rw [m2 _ (by omega)]; exact f2, by rw [m2 _ hm]; exact ⟨f3, f4⟩, fun b b1 b2 b3 => by rw [m2 b b1, e4 b b2 b3, st_ne _ _ b3], m3, MF_trans e5 MF_em, by rw [em, gI_sI, if_pos rfl], by omega, fun z => ?_⟩
  obtain ⟨_, z2, z3, z4⟩ := e8 z
  refine ⟨z2, ⟨m3, m4, fun k hk => by rw [m5 k hk, Oe k hk, Ae k hk]; exact f11 k hk⟩, ?_, by omega, by omega, by rw [dO_em, if_pos rfl], hOK_ext Oe Ae z3⟩
  rcases Nat.eq_zero_or_pos u with q | q
  · subst q; simp [tp] at z4
  · exact q
theorem m_allF {recm : GV → Int32 → Option GV} {x : Int32} (hf : 1101 ≤ fu) (hK : okK K) (hv : MB v K) (h9 : WB9 v) (h : okP K a fl) (c0 : fl ≠ 0) (hr : recm (mw v a fl) x = some (mw v a fl)) : f_X13_all fu recm (mw v a fl) x = some (mw v a fl) := by
  obtain ⟨fv, rfl⟩ : ∃ k, fu = k + 1 := ⟨fu - 1, by omega⟩
  have tf : ∀ c, tS K a fl c = false := fun c => decide_eq_false (fun q => c0 q.1)
  have tz : tI K a fl = 0 := if_neg (fun q => c0 q.1)
  have hs : ∀ c, c < 128 → f_X13_hasSign (fv + 1) (mw v a fl) (nI c) = some (nI 0, mw v a fl) := fun c hc => by
    have := m_hasSign (fu := fv + 1) (c := c) hK hv h hc
    rw [tf c] at this
    simpa only [b01_f, Bool.false_eq_true, ↓reduceIte] using this
  have is : ∀ c, c < 128 → f_X13_isSign (fv + 1) (mw v a fl) (nI c) = some (nI 0) := fun c hc => by
    have := m_isSign (fu := fv + 1) (c := c) hK hv h hc
    rw [tf c] at this
    simpa only [b01_f] using this
  have iw : ∀ i, i < 29 → f_X13_isWord (fv + 1) (mw v a fl) (nI i) = some (nI 0) := fun i hi => by
    have := m_isWord (fu := fv + 1) (i := i) hK hv h9 h hi
    rw [tz, decide_eq_false (by omega)] at this
    simpa only [b01_f] using this
  have pr : f_X13_products (fv + 1) recm (mw v a fl) x = some (mw v a fl) := by
    simp only [f_X13_products, f_X13_products_0, f_X13_products_5, lq1_s, f_X13_products_5s, ↓lm_1, ↓lm_2, ↓lm_3, ↓lm_4, ↓lm_5, ↓lm_6, ↓lm_7, ↓lm_8, ↓lm_9, ↓lm_10, ↓lm_11, li_0, li_1, li_2, li_3, li_4, li_5, li_6, li_7, li_8, li_9, li_10, li_11, li_12, li_13, li_14, li_15, li_16, li_17, li_18, li_19, li_20, li_21, li_22, li_23, li_24, li_25, li_26, li_27, li_28, li_29, li_30, li_31, li_32, li_33, li_34, li_35, li_36, li_37, li_38, li_39, li_40, li_41, li_42, li_43, li_44, li_45, li_46, li_47, li_48, li_49, li_50, li_51, li_52, li_53, li_54, li_55, li_56, li_57, li_58, li_59, li_60, li_61, li_62, li_63, li_64, li_65, li_66, li_96, li_97, li_99, li_100, li_122, li_125, li_126, li_140, li_255, li_256, li_999, li_1000, li_1001, li_1002, li_1100, li_1386, li_1452, li_1518, li_9999, li_1000000, hr, bd_s, hs 42 (by omega), bd2_s, ↓reduceIte]
  have su : f_X13_sums (fv + 1) recm (mw v a fl) x = some (mw v a fl) := by
    simp only [f_X13_sums, f_X13_sums_0, f_X13_sums_5, lq1_s, f_X13_sums_5s, ↓lm_1, ↓lm_2, ↓lm_3, ↓lm_4, ↓lm_5, ↓lm_6, ↓lm_7, ↓lm_8, ↓lm_9, ↓lm_10, ↓lm_11, li_0, li_1, li_2, li_3, li_4, li_5, li_6, li_7, li_8, li_9, li_10, li_11, li_12, li_13, li_14, li_15, li_16, li_17, li_18, li_19, li_20, li_21, li_22, li_23, li_24, li_25, li_26, li_27, li_28, li_29, li_30, li_31, li_32, li_33, li_34, li_35, li_36, li_37, li_38, li_39, li_40, li_41, li_42, li_43, li_44, li_45, li_46, li_47, li_48, li_49, li_50, li_51, li_52, li_53, li_54, li_55, li_56, li_57, li_58, li_59, li_60, li_61, li_62, li_63, li_64, li_65, li_66, li_96, li_97, li_99, li_100, li_122, li_125, li_126, li_140, li_255, li_256, li_999, li_1000, li_1001, li_1002, li_1100, li_1386, li_1452, li_1518, li_9999, li_1000000, pr, bd_s, is 43 (by omega), is 45 (by omega), ↓reduceIte]
  have te : f_X13_test (fv + 1) recm (mw v a fl) x = some (mw v a fl) := by
    simp only [f_X13_test, f_X13_test_0, ↓lm_1, ↓lm_2, ↓lm_3, ↓lm_4, ↓lm_5, ↓lm_6, ↓lm_7, ↓lm_8, ↓lm_9, ↓lm_10, ↓lm_11, li_0, li_1, li_2, li_3, li_4, li_5, li_6, li_7, li_8, li_9, li_10, li_11, li_12, li_13, li_14, li_15, li_16, li_17, li_18, li_19, li_20, li_21, li_22, li_23, li_24, li_25, li_26, li_27, li_28, li_29, li_30, li_31, li_32, li_33, li_34, li_35, li_36, li_37, li_38, li_39, li_40, li_41, li_42, li_43, li_44, li_45, li_46, li_47, li_48, li_49, li_50, li_51, li_52, li_53, li_54, li_55, li_56, li_57, li_58, li_59, li_60, li_61, li_62, li_63, li_64, li_65, li_66, li_96, li_97, li_99, li_100, li_122, li_125, li_126, li_140, li_255, li_256, li_999, li_1000, li_1001, li_1002, li_1100, li_1386, li_1452, li_1518, li_9999, li_1000000, su, bd_s, is 60 (by omega), hs 60 (by omega), hs 61 (by omega), bd2_s, ↓reduceIte]
  simp only [f_X13_all, f_X13_all_0, f_X13_all_5, lq1_s, f_X13_all_5s, ↓lm_1, ↓lm_2, ↓lm_3, ↓lm_4, ↓lm_5, ↓lm_6, ↓lm_7, ↓lm_8, ↓lm_9, ↓lm_10, ↓lm_11, li_0, li_1, li_2, li_3, li_4, li_5, li_6, li_7, li_8, li_9, li_10, li_11, li_12, li_13, li_14, li_15, li_16, li_17, li_18, li_19, li_20, li_21, li_22, li_23, li_24, li_25, li_26, li_27, li_28, li_29, li_30, li_31, li_32, li_33, li_34, li_35, li_36, li_37, li_38, li_39, li_40, li_41, li_42, li_43, li_44, li_45, li_46, li_47, li_48, li_49, li_50, li_51, li_52, li_53, li_54, li_55, li_56, li_57, li_58, li_59, li_60, li_61, li_62, li_63, li_64, li_65, li_66, li_96, li_97, li_99, li_100, li_122, li_125, li_126, li_140, li_255, li_256, li_999, li_1000, li_1001, li_1002, li_1100, li_1386, li_1452, li_1518, li_9999, li_1000000, te, bd_s, iw 23 (by omega), iw 24 (by omega), ↓reduceIte]
theorem law_fail (hf : 1101 ≤ fu) (hK : okK K) (hw : CB w K) (gw : gC w = 8) (ht : th = 2 ∨ th = 3) (h : okP K a fl) (c0 : fl ≠ 0) (h1 : 1 ≤ a) (hS : S (p + 1) = tw w a fl) (h5 : gC (S (p + 7)) = 5 ∧ gR (S (p + 7)) 0 = some (p + 1)) (hv : MB v K) (h9 : WB9 v) (hm : p + 7 < m) : ∃ S4, f_X5_read fu g0 S (p + 7) (26 + th) m = some S4 ∧ S4 (p + 1) = tw w a fl ∧ (gC (S4 (p + 7)) = 5 ∧ gR (S4 (p + 7)) 0 = some (p + 1)) ∧ (∀ b, b < m → b ≠ p + 1 → b ≠ p + 7 → S4 b = S b) ∧ gC (S4 m) = 4 := by
  have hN := hK.1
  have pe : PE K w p th 0 (st S (p + 7) (sI (sI (S (p + 7)) 3 (nI (26 + th))) 2 (nI 0))) (sI (sI v 13 (nI 0)) 20 (nI (3 + 2 ^ th))) a fl 0 := by
    refine ⟨h, by rw [st_ne _ _ (by omega)]; exact hS, ?_, hv, h9, by rw [gI_sI, if_neg (by decide), gI_sI, if_pos rfl], by rw [gI_sI, if_pos rfl], fun k hk => by omega⟩
    rw [st_same]
    exact ⟨h5.1, h5.2, by rw [gI_sI, if_neg (by decide), gI_sI, if_pos rfl], by rw [gI_sI, if_pos rfl]⟩
  have ps := p_expr (fu := fu) (x := nI 0) (B := 0) (p := p) (th := th) (c0 := 0) hf hK hw gw (p_partD (fu := fu) (c0 := 0) (p := p) hf hK hw gw ht 7 0 (by omega) (by omega))
  obtain ⟨S3, v3, a3, fl3, u, e1, e2, e3, e4, e5, e6, e7, e8⟩ := ps _ _ a fl 0 0 pe (by omega) (fun q => absurd q c0)
  simp only at e1 e2
  generalize hv' : sI (sI v 13 (nI 0)) 20 (nI (3 + 2 ^ th)) = v' at *
  have hvb : MB v' K := by rw [← hv']; exact hv
  have h9b : WB9 v' := by rw [← hv']; exact h9
  have f1' : ¬ nI fl ≤ nI 0 := by have := h.2; exact nI_ge (by omega) (by omega)
  have mA := m_allF (fu := fu) (recm := f_X13_takePartD fu (7 + 1)) (x := nI 0) hf hK hvb h9b h c0 (by
    show f_X13_takePart fu (f_X13_takePartD fu 7) (mw v' a fl) (nI 0) = some (mw v' a fl)
    simp only [f_X13_takePart, f_X13_takePart_0, ↓lm_1, ↓lm_2, ↓lm_3, ↓lm_4, ↓lm_5, ↓lm_6, ↓lm_7, ↓lm_8, ↓lm_9, ↓lm_10, ↓lm_11, li_0, li_1, li_2, li_3, li_4, li_5, li_6, li_7, li_8, li_9, li_10, li_11, li_12, li_13, li_14, li_15, li_16, li_17, li_18, li_19, li_20, li_21, li_22, li_23, li_24, li_25, li_26, li_27, li_28, li_29, li_30, li_31, li_32, li_33, li_34, li_35, li_36, li_37, li_38, li_39, li_40, li_41, li_42, li_43, li_44, li_45, li_46, li_47, li_48, li_49, li_50, li_51, li_52, li_53, li_54, li_55, li_56, li_57, li_58, li_59, li_60, li_61, li_62, li_63, li_64, li_65, li_66, li_96, li_97, li_99, li_100, li_122, li_125, li_126, li_140, li_255, li_256, li_999, li_1000, li_1001, li_1002, li_1100, li_1386, li_1452, li_1518, li_9999, li_1000000, mw_g8, f1', ↓reduceIte])
  rw [mA] at e2
  have q3 : mw v' a fl = mw v3 a3 fl3 := by injection e2
  obtain ⟨rfl, rfl⟩ := mw_inj hK h e3.1 q3
  obtain ⟨f1, f2, ⟨f3, f4, f5, f6⟩, f7, f8, f9, f10, f11⟩ := e3
  obtain ⟨S4, m1, m2, m3, m4, m5⟩ := x5_make (fu := fu) (g0 := g0) (S := S) (S3 := S3) (a := p + 7) (n := m) (u := u) (e1 := 26 + th) e1 f3 f6 (by omega) hm
  exact ⟨S4, m1, by rw [m2 _ (by omega)]; exact f2, by rw [m2 _ hm]; exact ⟨f3, f4⟩, fun b b1 b2 b3 => by rw [m2 b b1, e4 b b2 b3, st_ne _ _ b3], m3⟩
end T
