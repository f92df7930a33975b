/-! ===== gallery: lines of thieves ===== -/
def ndK (K : KT) (a fl : Nat) : Nat × Nat := if 19 ≤ tI K a fl ∧ tI K a fl < 23 then (a + 1, fl) else (a, flf K a fl 1)
theorem x2_kindOf {fu r : Nat} (hr : r < 30) : f_X2_kindOf fu r = some (oI (if 19 ≤ r ∧ r < 23 then some (r - 19) else none)) := by
  have h : (List.range 30).all (fun r => decide (f_X2_kindOf 0 r = some (oI (if 19 ≤ r ∧ r < 23 then some (r - 19) else none)))) = true := by decide +kernel
  exact co_dec (P := fun r => f_X2_kindOf 0 r = some (oI (if 19 ≤ r ∧ r < 23 then some (r - 19) else none))) h hr
def qCo (q : HP) (t : Nat) (x : Int32) : HP := mkq (qn q) (qj q) (qg q) (qo q) (qw q) (qs q) (qh q) (qu q) (upd (qc q) t x) (qt q)
section T
variable {fu p d n a fl j : Nat} {K : KT} {w v : GV} {S : ST} {G : GP} {N : NM}
theorem ndK_f (h : fl ≠ 0) : ndK K a fl = (a, fl) := by
  unfold ndK
  have : tI K a fl = 0 := if_neg (fun q => h q.1)
  rw [if_neg (by omega)]
  unfold flf; rw [if_neg h]
theorem okP_ndK (hK : okK K) (h : okP K a fl) : okP K (ndK K a fl).1 (ndK K a fl).2 := by
  unfold ndK
  split
  · rename_i c
    have := (tI_k (K := K) (a := a) (fl := fl) (i := tI K a fl) (by omega) rfl).2
    exact okP_in hK h (by omega)
  · exact okP_flf hK h (by omega)
theorem ndK_1 (h : (ndK K a fl).2 = 0) : fl = 0 ∧ (ndK K a fl).1 = a + 1 ∧ 19 ≤ tI K a fl ∧ tI K a fl < 23 := by
  unfold ndK at h ⊢
  by_cases q : 19 ≤ tI K a fl ∧ tI K a fl < 23
  · rw [if_pos q]; exact ⟨(tI_k (K := K) (a := a) (fl := fl) (i := tI K a fl) (by omega) rfl).1, rfl, q⟩
  · rw [if_neg q] at h; exact absurd h (flf_pos (by omega))
theorem ndK_le : a ≤ (ndK K a fl).1 := by
  unfold ndK
  split <;> simp only <;> omega
theorem x2_takeKind (hf : 1101 ≤ fu) (hK : okK K) (hw : CB w K) (gw : gC w = 8) (h : okP K a fl) (hS : S (p + 1) = tw w a fl) (h0 : gR (S (p + 6)) 0 = some (p + 1)) : ∃ z, f_X2_takeKind fu S (p + 6) = some (z, st S (p + 1) (tw w (ndK K a fl).1 (ndK K a fl).2)) ∧ ((ndK K a fl).2 = 0 → z = nI (tI K a fl - 19)) := by
  have gc8 : gC (tw w a fl) = 8 := gw
  have wd := x8_wordAt (fu := fu) hf hK hw h
  have t30 : tI K a fl < 30 := tI_lt
  have r30 : (if 1 ≤ tI K a fl ∧ tI K a fl ≤ 25 then tI K a fl else 0) < 30 := by split <;> omega
  have ko := x2_kindOf (fu := fu) r30
  by_cases c : 19 ≤ tI K a fl ∧ tI K a fl < 23
  · have k1 := tI_k (K := K) (a := a) (fl := fl) (i := tI K a fl) (by omega) rfl
    have c' : 1 ≤ tI K a fl ∧ tI K a fl ≤ 25 := by omega
    have sp := x8_step1 (fu := fu) hK hw h
    rw [stp_in k1.1 (by omega)] at sp
    rw [if_pos c', if_pos c] at ko
    rw [if_pos c'] at wd
    have nm1 : ¬ nI (tI K a fl - 19) = mI 1 := nI_nem (by omega) (by omega) (by omega)
    refine ⟨nI (tI K a fl - 19), ?_, fun _ => rfl⟩
    unfold ndK
    rw [if_pos c]
    simp only [f_X2_takeKind, f_X2_takeKind_0, f_X2_takeKind_25, f_X8_stepOrFail, f_X8_stepOrFail_0, ↓lm_1, ↓lm_2, ↓lm_3, ↓lm_4, ↓lm_5, ↓lm_6, ↓lm_7, ↓lm_8, ↓lm_9, ↓lm_10, ↓lm_11, li_0, li_1, li_2, li_3, li_4, li_5, li_6, li_7, li_8, li_9, li_10, li_11, li_12, li_13, li_14, li_15, li_16, li_17, li_18, li_19, li_20, li_21, li_22, li_23, li_24, li_25, li_26, li_27, li_28, li_29, li_30, li_31, li_32, li_33, li_34, li_35, li_36, li_37, li_38, li_39, li_40, li_41, li_42, li_43, li_44, li_45, li_46, li_47, li_48, li_49, li_50, li_51, li_52, li_53, li_54, li_55, li_56, li_57, li_58, li_59, li_60, li_61, li_62, li_63, li_64, li_65, li_66, li_96, li_97, li_99, li_100, li_122, li_125, li_126, li_140, li_255, li_256, li_999, li_1000, li_1001, li_1002, li_1100, li_1386, li_1452, li_1518, li_9999, li_1000000, h0, bd_s, hS, gc8, decide_true, ck_t, wd, t30, ko, oI, nm1, ↓reduceIte, n10, sp, nm_eq]
  · refine ⟨mI 1, ?_, fun q => absurd (ndK_1 q).2.2 c⟩
    have c' : ¬ (19 ≤ (if 1 ≤ tI K a fl ∧ tI K a fl ≤ 25 then tI K a fl else 0) ∧ (if 1 ≤ tI K a fl ∧ tI K a fl ≤ 25 then tI K a fl else 0) < 23) := by split <;> omega
    rw [if_neg c'] at ko
    unfold ndK
    rw [if_neg c]
    generalize (if 1 ≤ tI K a fl ∧ tI K a fl ≤ 25 then tI K a fl else 0) = r at *
    simp only [f_X2_takeKind, f_X2_takeKind_0, f_X2_takeKind_25, f_X8_stepOrFail, f_X8_stepOrFail_0, ↓lm_1, ↓lm_2, ↓lm_3, ↓lm_4, ↓lm_5, ↓lm_6, ↓lm_7, ↓lm_8, ↓lm_9, ↓lm_10, ↓lm_11, li_0, li_1, li_2, li_3, li_4, li_5, li_6, li_7, li_8, li_9, li_10, li_11, li_12, li_13, li_14, li_15, li_16, li_17, li_18, li_19, li_20, li_21, li_22, li_23, li_24, li_25, li_26, li_27, li_28, li_29, li_30, li_31, li_32, li_33, li_34, li_35, li_36, li_37, li_38, li_39, li_40, li_41, li_42, li_43, li_44, li_45, li_46, li_47, li_48, li_49, li_50, li_51, li_52, li_53, li_54, li_55, li_56, li_57, li_58, li_59, li_60, li_61, li_62, li_63, li_64, li_65, li_66, li_96, li_97, li_99, li_100, li_122, li_125, li_126, li_140, li_255, li_256, li_999, li_1000, li_1001, li_1002, li_1100, li_1386, li_1452, li_1518, li_9999, li_1000000, h0, bd_s, hS, gc8, decide_true, ck_t, wd, r30, ko, oI, ↓reduceIte, x8_fail hK hw h, nm_eq]
theorem m_takeOne (hf : 1101 ≤ fu) (hK : okK K) (hv : MB v K) (h9 : WB9 v) (h : okP K a fl) : ∃ z, f_X13_takeOne fu (mw v a fl) (nI 18) (nI 4) = some (z, mw v (ndK K a fl).1 (ndK K a fl).2) ∧ ((ndK K a fl).2 = 0 → z = nI (tI K a fl - 19)) := by
  have n00 : nI 0 ≤ nI 0 := by decide
  have nm1 : ¬ nI 0 ≤ mI 1 := by decide
  have h2 := h.2
  by_cases c0 : fl = 0
  · subst c0
    have wh := m_wordHere (fu := fu) (b := 18) (m := 4) hf hK hv h9 h (by omega)
    simp only [Nat.reduceAdd] at wh
    by_cases c : 19 ≤ tI K a 0 ∧ tI K a 0 < 23
    · rw [if_pos c] at wh
      have nn : nI 0 ≤ nI (tI K a 0 - 19) := nI_le (by omega) (by omega)
      refine ⟨nI (tI K a 0 - 19), ?_, fun _ => rfl⟩
      unfold ndK
      rw [if_pos c]
      simp only [f_X13_takeOne, f_X13_takeOne_0, f_X13_takeOne_17, f_X13_takeOne_34, f_X13_takeOne_51, ↓lm_1, ↓lm_2, ↓lm_3, ↓lm_4, ↓lm_5, ↓lm_6, ↓lm_7, ↓lm_8, ↓lm_9, ↓lm_10, ↓lm_11, li_0, li_1, li_2, li_3, li_4, li_5, li_6, li_7, li_8, li_9, li_10, li_11, li_12, li_13, li_14, li_15, li_16, li_17, li_18, li_19, li_20, li_21, li_22, li_23, li_24, li_25, li_26, li_27, li_28, li_29, li_30, li_31, li_32, li_33, li_34, li_35, li_36, li_37, li_38, li_39, li_40, li_41, li_42, li_43, li_44, li_45, li_46, li_47, li_48, li_49, li_50, li_51, li_52, li_53, li_54, li_55, li_56, li_57, li_58, li_59, li_60, li_61, li_62, li_63, li_64, li_65, li_66, li_96, li_97, li_99, li_100, li_122, li_125, li_126, li_140, li_255, li_256, li_999, li_1000, li_1001, li_1002, li_1100, li_1386, li_1452, li_1518, li_9999, li_1000000, mw_g8, n00, ↓reduceIte, wh, bd_s, oI, nn, mw_g7, nI_add, mw_7, nm_eq]
    · rw [if_neg c] at wh
      have ok1 := okP_flf (x := 1) hK h (by omega)
      have fp := flf_pos (K := K) (a := a) (fl := 0) (x := 1) (by omega)
      have f1 : ¬ nI (flf K a 0 1) ≤ nI 0 := by have := ok1.2; exact nI_ge (by omega) (by omega)
      refine ⟨nI 0, ?_, fun q => absurd (ndK_1 q).2.2 c⟩
      unfold ndK
      rw [if_neg c]
      simp only [f_X13_takeOne, f_X13_takeOne_0, f_X13_takeOne_17, f_X13_takeOne_34, f_X13_takeOne_51, ↓lm_1, ↓lm_2, ↓lm_3, ↓lm_4, ↓lm_5, ↓lm_6, ↓lm_7, ↓lm_8, ↓lm_9, ↓lm_10, ↓lm_11, li_0, li_1, li_2, li_3, li_4, li_5, li_6, li_7, li_8, li_9, li_10, li_11, li_12, li_13, li_14, li_15, li_16, li_17, li_18, li_19, li_20, li_21, li_22, li_23, li_24, li_25, li_26, li_27, li_28, li_29, li_30, li_31, li_32, li_33, li_34, li_35, li_36, li_37, li_38, li_39, li_40, li_41, li_42, li_43, li_44, li_45, li_46, li_47, li_48, li_49, li_50, li_51, li_52, li_53, li_54, li_55, li_56, li_57, li_58, li_59, li_60, li_61, li_62, li_63, li_64, li_65, li_66, li_96, li_97, li_99, li_100, li_122, li_125, li_126, li_140, li_255, li_256, li_999, li_1000, li_1001, li_1002, li_1100, li_1386, li_1452, li_1518, li_9999, li_1000000, mw_g8, n00, ↓reduceIte, wh, bd_s, oI, nm1, m_wrong hK hv h, f1, mw_g7, nI_add, mw_7, nm_eq, Nat.add_zero]
  · have f0 : ¬ nI fl = nI 0 := by rw [nI_eq (by omega) (by omega)]; exact c0
    have f1 : ¬ nI fl ≤ nI 0 := nI_ge (by omega) (by omega)
    rw [ndK_f c0]
    refine ⟨nI 0, ?_, fun q => absurd q c0⟩
    simp only [f_X13_takeOne, f_X13_takeOne_0, f_X13_takeOne_17, f_X13_takeOne_34, f_X13_takeOne_51, ↓lm_1, ↓lm_2, ↓lm_3, ↓lm_4, ↓lm_5, ↓lm_6, ↓lm_7, ↓lm_8, ↓lm_9, ↓lm_10, ↓lm_11, li_0, li_1, li_2, li_3, li_4, li_5, li_6, li_7, li_8, li_9, li_10, li_11, li_12, li_13, li_14, li_15, li_16, li_17, li_18, li_19, li_20, li_21, li_22, li_23, li_24, li_25, li_26, li_27, li_28, li_29, li_30, li_31, li_32, li_33, li_34, li_35, li_36, li_37, li_38, li_39, li_40, li_41, li_42, li_43, li_44, li_45, li_46, li_47, li_48, li_49, li_50, li_51, li_52, li_53, li_54, li_55, li_56, li_57, li_58, li_59, li_60, li_61, li_62, li_63, li_64, li_65, li_66, li_96, li_97, li_99, li_100, li_122, li_125, li_126, li_140, li_255, li_256, li_999, li_1000, li_1001, li_1002, li_1100, li_1386, li_1452, li_1518, li_9999, li_1000000, mw_g8, f0, f1, ↓reduceIte, mw_g7, nI_add, mw_7, nm_eq, Nat.add_zero]
theorem m_takeAfter (hK : okK K) (hv : MB v K) (h9 : WB9 v) (h : okP K a fl) {i hi : Nat} (h29 : i < 29) (hh : hi < 100000) : f_X13_takeAfter fu (mw v a fl) (nI i) (nI 0) (nI hi) = some (if (ndN K (ndW K a fl (i + 1)).1 (ndW K a fl (i + 1)).2 (hi + 1)).2 = 0 then nI (kV K (ndW K a fl (i + 1)).1) else nI 0, mw v (ndN K (ndW K a fl (i + 1)).1 (ndW K a fl (i + 1)).2 (hi + 1)).1 (ndN K (ndW K a fl (i + 1)).1 (ndW K a fl (i + 1)).2 (hi + 1)).2) := by
  have tW := m_takeWord (fu := fu) (i := i) hK hv h9 h h29
  have okw := okP_ndW (i := i + 1) hK h (by omega)
  have tn := m_takeNum (fu := fu) (hi := hi) hK hv okw hh
  simp only [f_X13_takeAfter, f_X13_takeAfter_0, tW, bd_s, tn, bd2_s]
theorem x1_addThief {t : Nat} {x1 : Int64} {x3 x4 x5 x6 : Int32} (h9 : gI (S d) 9 = nI t) (ht : t < 5) (c8 : gC (S (d + 8)) = 3) : f_X1_addThief fu S d x1 x3 x4 x5 x6 = some (st (st S d (sI (sA (sA (sA (sL (S d) 1 t x1) 3 t x3) 4 t x4) 5 t x6) 9 (nI (t + 1)))) (d + 8) (sA (S (d + 8)) 5 t x5)) := by
  have n5 : ¬ nI 5 ≤ nI t := nI_ge ht (by omega)
  have e8 : ∀ y : GV, st S d y (d + 8) = S (d + 8) := fun y => st_ne _ _ (by omega)
  have ed : ∀ y z : GV, st (st S d y) (d + 8) z d = y := fun y z => by rw [st_ne _ _ (by omega), st_same]
  have cm : ∀ x y z : GV, st (st (st S d x) (d + 8) y) d z = st (st S d z) (d + 8) y := fun x y z => by
    rw [st_comm _ _ _ (show d + 8 ≠ d by omega), st_st]
  simp (disch := omega) only [f_X1_addThief, f_X1_addThief_0, ↓lm_1, ↓lm_2, ↓lm_3, ↓lm_4, ↓lm_5, ↓lm_6, ↓lm_7, ↓lm_8, ↓lm_9, ↓lm_10, ↓lm_11, li_0, li_1, li_2, li_3, li_4, li_5, li_6, li_7, li_8, li_9, li_10, li_11, li_12, li_13, li_14, li_15, li_16, li_17, li_18, li_19, li_20, li_21, li_22, li_23, li_24, li_25, li_26, li_27, li_28, li_29, li_30, li_31, li_32, li_33, li_34, li_35, li_36, li_37, li_38, li_39, li_40, li_41, li_42, li_43, li_44, li_45, li_46, li_47, li_48, li_49, li_50, li_51, li_52, li_53, li_54, li_55, li_56, li_57, li_58, li_59, li_60, li_61, li_62, li_63, li_64, li_65, li_66, li_96, li_97, li_99, li_100, li_122, li_125, li_126, li_140, li_255, li_256, li_999, li_1000, li_1001, li_1002, li_1100, li_1386, li_1452, li_1518, li_9999, li_1000000, h9, n5, ↓reduceIte, inb_n, ck_t, nI_clamp, nm_eq, st_same, st_st, gI_sL, gI_sA, e8, c8, decide_true, ed, cm, nI_add]
end T
