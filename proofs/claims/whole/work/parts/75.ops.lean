/-! ===== what is done by hand keeps a hall's picture good; the class's hall does it ===== -/
section MK
variable (n j g : Nat) (o w s h : Nat → Nat) (u c : Nat → Int32) (t : Int32)
theorem qn_mk : qn (mkq n j g o w s h u c t) = n := (id rfl)
theorem qj_mk : qj (mkq n j g o w s h u c t) = j := (id rfl)
theorem qg_mk : qg (mkq n j g o w s h u c t) = g := (id rfl)
theorem qo_mk : qo (mkq n j g o w s h u c t) = o := (id rfl)
theorem qw_mk : qw (mkq n j g o w s h u c t) = w := (id rfl)
theorem qs_mk : qs (mkq n j g o w s h u c t) = s := (id rfl)
theorem qh_mk : qh (mkq n j g o w s h u c t) = h := (id rfl)
theorem qu_mk : qu (mkq n j g o w s h u c t) = u := (id rfl)
theorem qc_mk : qc (mkq n j g o w s h u c t) = c := (id rfl)
theorem qt_mk : qt (mkq n j g o w s h u c t) = t := (id rfl)
end MK
theorem upN_s {f : Nat → Nat} {k x : Nat} : upN f k x k = x := if_pos rfl
theorem upN_n {f : Nat → Nat} {k x j : Nat} (h : j ≠ k) : upN f k x j = f j := if_neg h
theorem p2_256 {s : Nat} (h : s < 8) : 2 ^ s < 256 := Nat.pow_lt_pow_right (a := 2) (by decide) h
section OK
variable {G : GP} {q : HP} {t p s : Nat}
theorem okq_swap (hG : okG G) (hq : okq G q) (ht : t < nt G) (hp : p < qn q) (hh : qh q p = t) : okq G (pswap G q t p) := by
  obtain ⟨⟨a1, a2, a3, a4⟩, b, c, d⟩ := hq
  have h5 := hG.2.1
  have hpj : p ≠ qj q := fun e => by have := (b p hp).2.1.mpr e; omega
  refine ⟨⟨a1, a2, hp, a4⟩, fun x hx => ⟨?_, ?_, ?_⟩, c, d⟩
  · simp only [pswap, qn_mk, qj_mk, qg_mk, qo_mk, qw_mk, qs_mk, qh_mk, qu_mk, qc_mk, qt_mk] at hx ⊢
    split
    · by_cases e : x = qj q
      · rw [e, upN_s]; exact Nat.lt_of_le_of_lt Nat.and_le_left (b _ a3).1
      · rw [upN_n e]; exact (b x hx).1
    · exact (b x hx).1
  · simp only [pswap, qn_mk, qj_mk, qg_mk, qo_mk, qw_mk, qs_mk, qh_mk, qu_mk, qc_mk, qt_mk] at hx ⊢
    by_cases e : x = qj q
    · rw [e, upN_s]; constructor <;> intro h <;> omega
    · rw [upN_n e]
      by_cases e2 : x = p
      · rw [e2, upN_s]; simp
      · rw [upN_n e2]; constructor
        · intro h; exact absurd ((b x hx).2.1.mp h) e
        · intro h; exact absurd h e2
  · simp only [pswap, qn_mk, qj_mk, qg_mk, qo_mk, qw_mk, qs_mk, qh_mk, qu_mk, qc_mk, qt_mk] at hx ⊢
    by_cases e : x = qj q
    · rw [e, upN_s]; exact Or.inl ht
    · rw [upN_n e]
      by_cases e2 : x = p
      · rw [e2, upN_s]; exact Or.inr (Or.inl rfl)
      · rw [upN_n e2]; exact (b x hx).2.2
theorem okq_paint (hG : okG G) (hq : okq G q) (ht : t < nt G) (hp : p < qn q) (hs : s < 8) (h8 : qn q < 8) : okq G (ppaint q t p s) := by
  obtain ⟨⟨a1, a2, a3, a4⟩, b, c, d⟩ := hq
  have h5 := hG.2.1
  refine ⟨⟨by simp only [ppaint, qn_mk, qj_mk, qg_mk, qo_mk, qw_mk, qs_mk, qh_mk, qu_mk, qc_mk, qt_mk]; omega, by simp only [ppaint, qn_mk, qj_mk, qg_mk, qo_mk, qw_mk, qs_mk, qh_mk, qu_mk, qc_mk, qt_mk]; omega, by simp only [ppaint, qn_mk, qj_mk, qg_mk, qo_mk, qw_mk, qs_mk, qh_mk, qu_mk, qc_mk, qt_mk]; omega, a4⟩, fun x hx => ⟨?_, ?_, ?_⟩, fun x h1 hx => ?_, d⟩
  · simp only [ppaint, qn_mk, qj_mk, qg_mk, qo_mk, qw_mk, qs_mk, qh_mk, qu_mk, qc_mk, qt_mk] at hx ⊢
    by_cases e : x = qn q
    · rw [e, upN_s]; exact xor256 (b p hp).1 (p2_256 hs)
    · rw [upN_n e]; exact (b x (by omega)).1
  · simp only [ppaint, qn_mk, qj_mk, qg_mk, qo_mk, qw_mk, qs_mk, qh_mk, qu_mk, qc_mk, qt_mk] at hx ⊢
    by_cases e : x = qn q
    · rw [e, upN_s]; constructor <;> intro h <;> omega
    · rw [upN_n e]; exact (b x (by omega)).2.1
  · simp only [ppaint, qn_mk, qj_mk, qg_mk, qo_mk, qw_mk, qs_mk, qh_mk, qu_mk, qc_mk, qt_mk] at hx ⊢
    by_cases e : x = qn q
    · rw [e, upN_s]; exact Or.inl ht
    · rw [upN_n e]; exact (b x (by omega)).2.2
  · simp only [ppaint, qn_mk, qj_mk, qg_mk, qo_mk, qw_mk, qs_mk, qh_mk, qu_mk, qc_mk, qt_mk] at hx ⊢
    by_cases e : x = qn q
    · rw [e, upN_s, upN_s]; exact ⟨Nat.two_pow_pos s, p2_256 hs, hp⟩
    · rw [upN_n e, upN_n e]; exact c x h1 (by omega)
theorem okq_sell (hG : okG G) (hq : okq G q) (ht : t < nt G) (hp : p < qn q) (hh : qh q p = t) : okq G (psell G q t p) := by
  obtain ⟨⟨a1, a2, a3, a4⟩, b, c, d⟩ := hq
  have h5 := hG.2.1
  have hpj : p ≠ qj q := fun e => by have := (b p hp).2.1.mpr e; omega
  refine ⟨⟨a1, a2, a3, a4⟩, fun x hx => ⟨(b x hx).1, ?_, ?_⟩, c, fun x hx => ?_⟩
  · simp only [psell, qn_mk, qj_mk, qg_mk, qo_mk, qw_mk, qs_mk, qh_mk, qu_mk, qc_mk, qt_mk] at hx ⊢
    by_cases e : x = p
    · rw [e, upN_s]; constructor <;> intro h <;> omega
    · rw [upN_n e]; exact (b x hx).2.1
  · simp only [psell, qn_mk, qj_mk, qg_mk, qo_mk, qw_mk, qs_mk, qh_mk, qu_mk, qc_mk, qt_mk] at hx ⊢
    by_cases e : x = p
    · rw [e, upN_s]; exact Or.inr (Or.inr rfl)
    · rw [upN_n e]; exact (b x hx).2.2
  · simp only [psell, qn_mk, qj_mk, qg_mk, qo_mk, qw_mk, qs_mk, qh_mk, qu_mk, qc_mk, qt_mk]
    rw [pk_un (by omega)]; exact d x hx
theorem okq_guard (hq : okq G q) {h : Nat} (hh : h < 24) : okq G (pguard q h) := by
  obtain ⟨⟨a1, a2, a3, a4⟩, b, c, d⟩ := hq
  have : 2 ^ h < 2 ^ 24 := Nat.pow_lt_pow_right (by decide) hh
  exact ⟨⟨a1, a2, a3, Nat.or_lt_two_pow (n := 24) a4 this⟩, b, c, d⟩
theorem okq_night (hq : okq G q) : okq G (pnight q) := by
  obtain ⟨⟨a1, a2, a3, a4⟩, b, c, d⟩ := hq
  exact ⟨⟨a1, a2, a3, by simp only [pnight, qn_mk, qj_mk, qg_mk, qo_mk, qw_mk, qs_mk, qh_mk, qu_mk, qc_mk, qt_mk]; decide⟩, b, c, d⟩
end OK
section X3
variable {fu a g : Nat} {S : ST} {G : GP} {q : HP} {w : GV} {t p r s : Nat}
theorem x3_isThere_in (hw : CH w q) (hq : okq G q) (hp : p < qn q) : f_X3_isThere fu w (nI p) = some (nI 1) := by
  simp only [f_X3_isThere_16, f_X3_isThere_0, f_X3_isThere, ↓lm_1, ↓lm_2, ↓lm_3, ↓lm_4, ↓lm_5, ↓lm_6, ↓lm_7, ↓lm_8, ↓lm_9, ↓lm_10, ↓lm_11, li_0, li_1, li_2, li_3, li_4, li_5, li_6, li_7, li_8, li_9, li_10, li_11, li_12, li_13, li_14, li_15, li_16, li_17, li_18, li_19, li_20, li_21, li_22, li_23, li_24, li_25, li_26, li_27, li_28, li_29, li_30, li_31, li_32, li_33, li_34, li_35, li_36, li_37, li_38, li_39, li_40, li_41, li_42, li_43, li_44, li_45, li_46, li_47, li_48, li_49, li_50, li_51, li_52, li_53, li_54, li_55, li_56, li_57, li_58, li_59, li_60, li_61, li_62, li_63, li_64, li_65, li_66, li_96, li_97, li_99, li_100, li_122, li_125, li_126, li_140, li_255, li_256, li_999, li_1000, li_1001, li_1002, li_1100, li_1386, li_1452, li_1518, li_9999, li_1000000, hw.2.2.1]
  exact ix_in hp (by have := hq.1.2.1; omega) _ _
theorem x3_isThere_out (hw : CH w q) (hq : okq G q) {x : Int32} (hx : ¬ ∃ j, j < qn q ∧ x = nI j) : f_X3_isThere fu w x = some (nI 0) := by
  simp only [f_X3_isThere_16, f_X3_isThere_0, f_X3_isThere, ↓lm_1, ↓lm_2, ↓lm_3, ↓lm_4, ↓lm_5, ↓lm_6, ↓lm_7, ↓lm_8, ↓lm_9, ↓lm_10, ↓lm_11, li_0, li_1, li_2, li_3, li_4, li_5, li_6, li_7, li_8, li_9, li_10, li_11, li_12, li_13, li_14, li_15, li_16, li_17, li_18, li_19, li_20, li_21, li_22, li_23, li_24, li_25, li_26, li_27, li_28, li_29, li_30, li_31, li_32, li_33, li_34, li_35, li_36, li_37, li_38, li_39, li_40, li_41, li_42, li_43, li_44, li_45, li_46, li_47, li_48, li_49, li_50, li_51, li_52, li_53, li_54, li_55, li_56, li_57, li_58, li_59, li_60, li_61, li_62, li_63, li_64, li_65, li_66, li_96, li_97, li_99, li_100, li_122, li_125, li_126, li_140, li_255, li_256, li_999, li_1000, li_1001, li_1002, li_1100, li_1386, li_1452, li_1518, li_9999, li_1000000, hw.2.2.1]
  exact ix_out hx (by have := hq.1.2.1; omega) _ _
theorem x1_hasThief_in (hg : CG S g G) (hG : okG G) (ht : t < nt G) : f_X1_hasThief fu (S g) (nI t) = some (nI 1) := by
  simp only [f_X1_hasThief_16, f_X1_hasThief_0, f_X1_hasThief, ↓lm_1, ↓lm_2, ↓lm_3, ↓lm_4, ↓lm_5, ↓lm_6, ↓lm_7, ↓lm_8, ↓lm_9, ↓lm_10, ↓lm_11, li_0, li_1, li_2, li_3, li_4, li_5, li_6, li_7, li_8, li_9, li_10, li_11, li_12, li_13, li_14, li_15, li_16, li_17, li_18, li_19, li_20, li_21, li_22, li_23, li_24, li_25, li_26, li_27, li_28, li_29, li_30, li_31, li_32, li_33, li_34, li_35, li_36, li_37, li_38, li_39, li_40, li_41, li_42, li_43, li_44, li_45, li_46, li_47, li_48, li_49, li_50, li_51, li_52, li_53, li_54, li_55, li_56, li_57, li_58, li_59, li_60, li_61, li_62, li_63, li_64, li_65, li_66, li_96, li_97, li_99, li_100, li_122, li_125, li_126, li_140, li_255, li_256, li_999, li_1000, li_1001, li_1002, li_1100, li_1386, li_1452, li_1518, li_9999, li_1000000, hg.2.2.1]
  exact ix_in ht (by have := hG.2.1; omega) _ _
theorem x1_hasThief_out (hg : CG S g G) (hG : okG G) {x : Int32} (hx : ¬ ∃ j, j < nt G ∧ x = nI j) : f_X1_hasThief fu (S g) x = some (nI 0) := by
  simp only [f_X1_hasThief_16, f_X1_hasThief_0, f_X1_hasThief, ↓lm_1, ↓lm_2, ↓lm_3, ↓lm_4, ↓lm_5, ↓lm_6, ↓lm_7, ↓lm_8, ↓lm_9, ↓lm_10, ↓lm_11, li_0, li_1, li_2, li_3, li_4, li_5, li_6, li_7, li_8, li_9, li_10, li_11, li_12, li_13, li_14, li_15, li_16, li_17, li_18, li_19, li_20, li_21, li_22, li_23, li_24, li_25, li_26, li_27, li_28, li_29, li_30, li_31, li_32, li_33, li_34, li_35, li_36, li_37, li_38, li_39, li_40, li_41, li_42, li_43, li_44, li_45, li_46, li_47, li_48, li_49, li_50, li_51, li_52, li_53, li_54, li_55, li_56, li_57, li_58, li_59, li_60, li_61, li_62, li_63, li_64, li_65, li_66, li_96, li_97, li_99, li_100, li_122, li_125, li_126, li_140, li_255, li_256, li_999, li_1000, li_1001, li_1002, li_1100, li_1386, li_1452, li_1518, li_9999, li_1000000, hg.2.2.1]
  exact ix_out hx (by have := hG.2.1; omega) _ _
theorem x1_hasSpot_in (hg : CG S g G) (hG : okG G) (ht : s < ns G) : f_X1_hasSpot fu (S g) (nI s) = some (nI 1) := by
  simp only [f_X1_hasSpot_16, f_X1_hasSpot_0, f_X1_hasSpot, ↓lm_1, ↓lm_2, ↓lm_3, ↓lm_4, ↓lm_5, ↓lm_6, ↓lm_7, ↓lm_8, ↓lm_9, ↓lm_10, ↓lm_11, li_0, li_1, li_2, li_3, li_4, li_5, li_6, li_7, li_8, li_9, li_10, li_11, li_12, li_13, li_14, li_15, li_16, li_17, li_18, li_19, li_20, li_21, li_22, li_23, li_24, li_25, li_26, li_27, li_28, li_29, li_30, li_31, li_32, li_33, li_34, li_35, li_36, li_37, li_38, li_39, li_40, li_41, li_42, li_43, li_44, li_45, li_46, li_47, li_48, li_49, li_50, li_51, li_52, li_53, li_54, li_55, li_56, li_57, li_58, li_59, li_60, li_61, li_62, li_63, li_64, li_65, li_66, li_96, li_97, li_99, li_100, li_122, li_125, li_126, li_140, li_255, li_256, li_999, li_1000, li_1001, li_1002, li_1100, li_1386, li_1452, li_1518, li_9999, li_1000000, hg.2.1]
  exact ix_in ht (by have := hG.1; omega) _ _
theorem x1_hasSpot_out (hg : CG S g G) (hG : okG G) {x : Int32} (hx : ¬ ∃ j, j < ns G ∧ x = nI j) : f_X1_hasSpot fu (S g) x = some (nI 0) := by
  simp only [f_X1_hasSpot_16, f_X1_hasSpot_0, f_X1_hasSpot, ↓lm_1, ↓lm_2, ↓lm_3, ↓lm_4, ↓lm_5, ↓lm_6, ↓lm_7, ↓lm_8, ↓lm_9, ↓lm_10, ↓lm_11, li_0, li_1, li_2, li_3, li_4, li_5, li_6, li_7, li_8, li_9, li_10, li_11, li_12, li_13, li_14, li_15, li_16, li_17, li_18, li_19, li_20, li_21, li_22, li_23, li_24, li_25, li_26, li_27, li_28, li_29, li_30, li_31, li_32, li_33, li_34, li_35, li_36, li_37, li_38, li_39, li_40, li_41, li_42, li_43, li_44, li_45, li_46, li_47, li_48, li_49, li_50, li_51, li_52, li_53, li_54, li_55, li_56, li_57, li_58, li_59, li_60, li_61, li_62, li_63, li_64, li_65, li_66, li_96, li_97, li_99, li_100, li_122, li_125, li_126, li_140, li_255, li_256, li_999, li_1000, li_1001, li_1002, li_1100, li_1386, li_1452, li_1518, li_9999, li_1000000, hg.2.1]
  exact ix_out hx (by have := hG.1; omega) _ _
theorem n10 : ¬ nI 1 = nI 0 := by decide
theorem x3_isHeld_in (hw : CH (S a) q) (hq : okq G q) (hg : CG S g G) (hG : okG G) (ht : t < nt G) (hp : p < qn q) : f_X3_isHeld fu S a g (nI t) (nI p) = some (if qh q p = t then nI 1 else nI 0) := by
  have h8 := hq.1.2.1
  have h5 := hG.2.1
  have hb := (hq.2.1 p hp).2.2
  simp (disch := omega) only [f_X3_isHeld_30, f_X3_isHeld_0, f_X3_isHeld, ↓lm_1, ↓lm_2, ↓lm_3, ↓lm_4, ↓lm_5, ↓lm_6, ↓lm_7, ↓lm_8, ↓lm_9, ↓lm_10, ↓lm_11, li_0, li_1, li_2, li_3, li_4, li_5, li_6, li_7, li_8, li_9, li_10, li_11, li_12, li_13, li_14, li_15, li_16, li_17, li_18, li_19, li_20, li_21, li_22, li_23, li_24, li_25, li_26, li_27, li_28, li_29, li_30, li_31, li_32, li_33, li_34, li_35, li_36, li_37, li_38, li_39, li_40, li_41, li_42, li_43, li_44, li_45, li_46, li_47, li_48, li_49, li_50, li_51, li_52, li_53, li_54, li_55, li_56, li_57, li_58, li_59, li_60, li_61, li_62, li_63, li_64, li_65, li_66, li_96, li_97, li_99, li_100, li_122, li_125, li_126, li_140, li_255, li_256, li_999, li_1000, li_1001, li_1002, li_1100, li_1386, li_1452, li_1518, li_9999, li_1000000, x1_hasThief_in hg hG ht, x3_isThere_in hw hq hp, bd_s, n10, Nat.one_ne_zero, ↓reduceIte, nI_clamp, inb_n, ck_t, (hw.2.2.2.2.2.1 p hp).2.1, nI_eq, ↓reduceIte, Nat.reduceEqDiff, Nat.reduceAdd, Nat.reduceSub, Nat.reduceMul, Nat.reduceLT, Nat.reduceLeDiff, reduceCtorEq, Nat.add_zero, Nat.zero_add, ne_eq, not_true_eq_false, not_false_eq_true, Nat.succ_ne_self, Nat.zero_ne_one, Nat.one_ne_zero, decide_true, decide_false, Bool.false_eq_true, and_true, true_and, and_self, and_false, false_and]
  split <;> rfl
theorem x3_isHeld_out (hw : CH (S a) q) (hq : okq G q) (hg : CG S g G) (hG : okG G) {x y : Int32} (hx : ¬ ((∃ j, j < nt G ∧ x = nI j) ∧ ∃ j, j < qn q ∧ y = nI j)) : f_X3_isHeld fu S a g x y = some (nI 0) := by
  by_cases h : ∃ j, j < nt G ∧ x = nI j
  · obtain ⟨t, ht, rfl⟩ := id h
    have hy : ¬ ∃ j, j < qn q ∧ y = nI j := fun c => hx ⟨h, c⟩
    simp only [f_X3_isHeld_30, f_X3_isHeld_0, f_X3_isHeld, ↓lm_1, ↓lm_2, ↓lm_3, ↓lm_4, ↓lm_5, ↓lm_6, ↓lm_7, ↓lm_8, ↓lm_9, ↓lm_10, ↓lm_11, li_0, li_1, li_2, li_3, li_4, li_5, li_6, li_7, li_8, li_9, li_10, li_11, li_12, li_13, li_14, li_15, li_16, li_17, li_18, li_19, li_20, li_21, li_22, li_23, li_24, li_25, li_26, li_27, li_28, li_29, li_30, li_31, li_32, li_33, li_34, li_35, li_36, li_37, li_38, li_39, li_40, li_41, li_42, li_43, li_44, li_45, li_46, li_47, li_48, li_49, li_50, li_51, li_52, li_53, li_54, li_55, li_56, li_57, li_58, li_59, li_60, li_61, li_62, li_63, li_64, li_65, li_66, li_96, li_97, li_99, li_100, li_122, li_125, li_126, li_140, li_255, li_256, li_999, li_1000, li_1001, li_1002, li_1100, li_1386, li_1452, li_1518, li_9999, li_1000000, x1_hasThief_in hg hG ht, x3_isThere_out hw hq hy, bd_s, n10, Nat.one_ne_zero, ↓reduceIte]
  · simp only [f_X3_isHeld_30, f_X3_isHeld_0, f_X3_isHeld, ↓lm_1, ↓lm_2, ↓lm_3, ↓lm_4, ↓lm_5, ↓lm_6, ↓lm_7, ↓lm_8, ↓lm_9, ↓lm_10, ↓lm_11, li_0, li_1, li_2, li_3, li_4, li_5, li_6, li_7, li_8, li_9, li_10, li_11, li_12, li_13, li_14, li_15, li_16, li_17, li_18, li_19, li_20, li_21, li_22, li_23, li_24, li_25, li_26, li_27, li_28, li_29, li_30, li_31, li_32, li_33, li_34, li_35, li_36, li_37, li_38, li_39, li_40, li_41, li_42, li_43, li_44, li_45, li_46, li_47, li_48, li_49, li_50, li_51, li_52, li_53, li_54, li_55, li_56, li_57, li_58, li_59, li_60, li_61, li_62, li_63, li_64, li_65, li_66, li_96, li_97, li_99, li_100, li_122, li_125, li_126, li_140, li_255, li_256, li_999, li_1000, li_1001, li_1002, li_1100, li_1386, li_1452, li_1518, li_9999, li_1000000, x1_hasThief_out hg hG h, bd_s, ↓reduceIte]
theorem x3_slipsOn (hw : CH w q) (hq : okq G q) (hp : p < qn q) : f_X3_slipsOn fu w (nI p) = some (nI (pcn (qo q p))) := by
  have h8 := hq.1.2.1
  simp (disch := omega) only [f_X3_slipsOn, f_X3_slipsOn_0, ↓lm_1, ↓lm_2, ↓lm_3, ↓lm_4, ↓lm_5, ↓lm_6, ↓lm_7, ↓lm_8, ↓lm_9, ↓lm_10, ↓lm_11, li_0, li_1, li_2, li_3, li_4, li_5, li_6, li_7, li_8, li_9, li_10, li_11, li_12, li_13, li_14, li_15, li_16, li_17, li_18, li_19, li_20, li_21, li_22, li_23, li_24, li_25, li_26, li_27, li_28, li_29, li_30, li_31, li_32, li_33, li_34, li_35, li_36, li_37, li_38, li_39, li_40, li_41, li_42, li_43, li_44, li_45, li_46, li_47, li_48, li_49, li_50, li_51, li_52, li_53, li_54, li_55, li_56, li_57, li_58, li_59, li_60, li_61, li_62, li_63, li_64, li_65, li_66, li_96, li_97, li_99, li_100, li_122, li_125, li_126, li_140, li_255, li_256, li_999, li_1000, li_1001, li_1002, li_1100, li_1386, li_1452, li_1518, li_9999, li_1000000, nI_clamp, inb_n, ck_t, (hw.2.2.2.2.2.1 p hp).1, bc256 (hq.2.1 p hp).1, bd_s]
theorem x3_apart (hw : CH w q) (hq : okq G q) (hp : p < qn q) (hr : r < qn q) : f_X3_apart fu w (nI p) (nI r) = some (nI (pcn (qo q p ^^^ qo q r))) := by
  have h8 := hq.1.2.1
  have b1 := (hq.2.1 p hp).1
  have b2 := (hq.2.1 r hr).1
  simp (disch := omega) only [f_X3_apart, f_X3_apart_0, ↓lm_1, ↓lm_2, ↓lm_3, ↓lm_4, ↓lm_5, ↓lm_6, ↓lm_7, ↓lm_8, ↓lm_9, ↓lm_10, ↓lm_11, li_0, li_1, li_2, li_3, li_4, li_5, li_6, li_7, li_8, li_9, li_10, li_11, li_12, li_13, li_14, li_15, li_16, li_17, li_18, li_19, li_20, li_21, li_22, li_23, li_24, li_25, li_26, li_27, li_28, li_29, li_30, li_31, li_32, li_33, li_34, li_35, li_36, li_37, li_38, li_39, li_40, li_41, li_42, li_43, li_44, li_45, li_46, li_47, li_48, li_49, li_50, li_51, li_52, li_53, li_54, li_55, li_56, li_57, li_58, li_59, li_60, li_61, li_62, li_63, li_64, li_65, li_66, li_96, li_97, li_99, li_100, li_122, li_125, li_126, li_140, li_255, li_256, li_999, li_1000, li_1001, li_1002, li_1100, li_1386, li_1452, li_1518, li_9999, li_1000000, nI_clamp, inb_n, ck_t, (hw.2.2.2.2.2.1 p hp).1, (hw.2.2.2.2.2.1 r hr).1, nI_xorN, bc256 (xor256 b1 b2), bd_s]
theorem lw_st {S : ST} {b : Nat} (h : gC (S b) = 4) (P : Nat → Int32) : lw S (st S b (sAf (S b) 1 P)) := by
  intro x
  by_cases e : x = b
  · subst e; rw [st_same]; exact Or.inr ⟨h, P, rfl⟩
  · rw [st_ne _ _ e]; exact Or.inl rfl
theorem x3_worthOf (hf : 1101 ≤ fu) (hw : CH (S a) q) (hq : okq G q) (hg : CG S g G) (hp : p < qn q) : ∃ S', f_X3_worthOf fu S a g (nI p) = some (wof G q p, S') ∧ lw S S' := by
  have h8 := hq.1.2.1
  rcases hg.2.2.2.2.2.2.1 with ⟨e, d⟩ | ⟨b, op, arg, fr, len, e, hL, hk, d⟩
  · refine ⟨S, ?_, lw_refl S⟩
    simp only [f_X3_worthOf, f_X3_worthOf_0, f_X3_worthOf_41, ↓lm_1, ↓lm_2, ↓lm_3, ↓lm_4, ↓lm_5, ↓lm_6, ↓lm_7, ↓lm_8, ↓lm_9, ↓lm_10, ↓lm_11, li_0, li_1, li_2, li_3, li_4, li_5, li_6, li_7, li_8, li_9, li_10, li_11, li_12, li_13, li_14, li_15, li_16, li_17, li_18, li_19, li_20, li_21, li_22, li_23, li_24, li_25, li_26, li_27, li_28, li_29, li_30, li_31, li_32, li_33, li_34, li_35, li_36, li_37, li_38, li_39, li_40, li_41, li_42, li_43, li_44, li_45, li_46, li_47, li_48, li_49, li_50, li_51, li_52, li_53, li_54, li_55, li_56, li_57, li_58, li_59, li_60, li_61, li_62, li_63, li_64, li_65, li_66, li_96, li_97, li_99, li_100, li_122, li_125, li_126, li_140, li_255, li_256, li_999, li_1000, li_1001, li_1002, li_1100, li_1386, li_1452, li_1518, li_9999, li_1000000, x3_slipsOn hw hq hp, bd_s, e, nm_eq, ↓reduceIte, clw_max, wof, d, wdf]
  · obtain ⟨P, hv⟩ := x4_value (fa := fct (nI (pcn (qo q p))) (nI p) (qu q p) 2) hk hL (Or.inl rfl) hf
    simp only [fct, Nat.one_ne_zero, Nat.reduceEqDiff, ↓reduceIte] at hv
    refine ⟨st S b (sAf (S b) 1 P), ?_, lw_st hL.1 P⟩
    simp (disch := omega) only [f_X3_worthOf, f_X3_worthOf_0, f_X3_worthOf_41, ↓lm_1, ↓lm_2, ↓lm_3, ↓lm_4, ↓lm_5, ↓lm_6, ↓lm_7, ↓lm_8, ↓lm_9, ↓lm_10, ↓lm_11, li_0, li_1, li_2, li_3, li_4, li_5, li_6, li_7, li_8, li_9, li_10, li_11, li_12, li_13, li_14, li_15, li_16, li_17, li_18, li_19, li_20, li_21, li_22, li_23, li_24, li_25, li_26, li_27, li_28, li_29, li_30, li_31, li_32, li_33, li_34, li_35, li_36, li_37, li_38, li_39, li_40, li_41, li_42, li_43, li_44, li_45, li_46, li_47, li_48, li_49, li_50, li_51, li_52, li_53, li_54, li_55, li_56, li_57, li_58, li_59, li_60, li_61, li_62, li_63, li_64, li_65, li_66, li_96, li_97, li_99, li_100, li_122, li_125, li_126, li_140, li_255, li_256, li_999, li_1000, li_1001, li_1002, li_1100, li_1386, li_1452, li_1518, li_9999, li_1000000, x3_slipsOn hw hq hp, bd_s, bd2_s, e, nm_eq, ↓reduceIte, reduceCtorEq, clw_max, wof, hL.1, decide_true, ck_t, nI_clamp, inb_n, (hw.2.2.2.2.2.1 p hp).2.2.1, hv, d]
theorem x3_hardOf (hf : 1101 ≤ fu) (hw : CH (S a) q) (hq : okq G q) (hg : CG S g G) (hp : p < qn q) : ∃ S', f_X3_hardOf fu S a g (nI p) (nI s) = some (hof G q p s, S') ∧ lw S S' := by
  have h8 := hq.1.2.1
  rcases hg.2.2.2.2.2.2.2 with ⟨e, d⟩ | ⟨b, op, arg, fr, len, e, hL, hk, d⟩
  · refine ⟨S, ?_, lw_refl S⟩
    simp only [f_X3_hardOf, f_X3_hardOf_0, ↓lm_1, ↓lm_2, ↓lm_3, ↓lm_4, ↓lm_5, ↓lm_6, ↓lm_7, ↓lm_8, ↓lm_9, ↓lm_10, ↓lm_11, li_0, li_1, li_2, li_3, li_4, li_5, li_6, li_7, li_8, li_9, li_10, li_11, li_12, li_13, li_14, li_15, li_16, li_17, li_18, li_19, li_20, li_21, li_22, li_23, li_24, li_25, li_26, li_27, li_28, li_29, li_30, li_31, li_32, li_33, li_34, li_35, li_36, li_37, li_38, li_39, li_40, li_41, li_42, li_43, li_44, li_45, li_46, li_47, li_48, li_49, li_50, li_51, li_52, li_53, li_54, li_55, li_56, li_57, li_58, li_59, li_60, li_61, li_62, li_63, li_64, li_65, li_66, li_96, li_97, li_99, li_100, li_122, li_125, li_126, li_140, li_255, li_256, li_999, li_1000, li_1001, li_1002, li_1100, li_1386, li_1452, li_1518, li_9999, li_1000000, x3_slipsOn hw hq hp, bd_s, e, nm_eq, ↓reduceIte, hof, d, hdf]
  · obtain ⟨P, hv⟩ := x4_value (fa := fct (nI (pcn (qo q p))) (nI p) (nI s) 3) hk hL (Or.inr rfl) hf
    simp only [fct, Nat.one_ne_zero, Nat.reduceEqDiff, ↓reduceIte] at hv
    refine ⟨st S b (sAf (S b) 1 P), ?_, lw_st hL.1 P⟩
    simp (disch := omega) only [f_X3_hardOf, f_X3_hardOf_0, ↓lm_1, ↓lm_2, ↓lm_3, ↓lm_4, ↓lm_5, ↓lm_6, ↓lm_7, ↓lm_8, ↓lm_9, ↓lm_10, ↓lm_11, li_0, li_1, li_2, li_3, li_4, li_5, li_6, li_7, li_8, li_9, li_10, li_11, li_12, li_13, li_14, li_15, li_16, li_17, li_18, li_19, li_20, li_21, li_22, li_23, li_24, li_25, li_26, li_27, li_28, li_29, li_30, li_31, li_32, li_33, li_34, li_35, li_36, li_37, li_38, li_39, li_40, li_41, li_42, li_43, li_44, li_45, li_46, li_47, li_48, li_49, li_50, li_51, li_52, li_53, li_54, li_55, li_56, li_57, li_58, li_59, li_60, li_61, li_62, li_63, li_64, li_65, li_66, li_96, li_97, li_99, li_100, li_122, li_125, li_126, li_140, li_255, li_256, li_999, li_1000, li_1001, li_1002, li_1100, li_1386, li_1452, li_1518, li_9999, li_1000000, x3_slipsOn hw hq hp, bd_s, bd2_s, e, nm_eq, ↓reduceIte, reduceCtorEq, hof, hL.1, decide_true, ck_t, nI_clamp, inb_n, hv, d]
theorem x3_canComeIn (hw : CH (S a) q) (hg : CG S g G) (hG : okG G) (ht : t < nt G) : (cmi G q t ∧ f_X3_canComeIn fu S a g (nI t) = some (nI 1)) ∨ (¬ cmi G q t ∧ f_X3_canComeIn fu S a g (nI t) = some (nI 0)) := by
  have h5 := hG.2.1
  have hk := (hG.2.2.2.1 t ht).1
  simp (disch := omega) only [f_X3_canComeIn_49, f_X3_canComeIn_45, f_X3_canComeIn_28, f_X3_canComeIn_0, f_X3_canComeIn, ↓lm_1, ↓lm_2, ↓lm_3, ↓lm_4, ↓lm_5, ↓lm_6, ↓lm_7, ↓lm_8, ↓lm_9, ↓lm_10, ↓lm_11, li_0, li_1, li_2, li_3, li_4, li_5, li_6, li_7, li_8, li_9, li_10, li_11, li_12, li_13, li_14, li_15, li_16, li_17, li_18, li_19, li_20, li_21, li_22, li_23, li_24, li_25, li_26, li_27, li_28, li_29, li_30, li_31, li_32, li_33, li_34, li_35, li_36, li_37, li_38, li_39, li_40, li_41, li_42, li_43, li_44, li_45, li_46, li_47, li_48, li_49, li_50, li_51, li_52, li_53, li_54, li_55, li_56, li_57, li_58, li_59, li_60, li_61, li_62, li_63, li_64, li_65, li_66, li_96, li_97, li_99, li_100, li_122, li_125, li_126, li_140, li_255, li_256, li_999, li_1000, li_1001, li_1002, li_1100, li_1386, li_1452, li_1518, li_9999, li_1000000, nI_clamp, inb_n, ck_t, nm_eq, (hg.2.2.2.2.1 t ht).1, (hg.2.2.2.2.1 t ht).2.2, hw.2.2.2.2.1, nI_eq, cmi]
  by_cases h1 : kd G t = 1
  · left
    refine ⟨Or.inl h1, ?_⟩
    rw [h1]; split <;> rfl
  · by_cases h3 : kd G t = 3
    · right
      refine ⟨fun c => c.elim h1 (fun c => c.1 h3), ?_⟩
      rw [if_neg h1, if_pos h3]; split <;> simp only [h1, h3, ↓reduceIte]
    · by_cases hz : nI (hr G t) &&& (nI (qg q) ^^^ mI 1) = nI 0
      · right
        refine ⟨fun c => c.elim h1 (fun c => c.2 hz), ?_⟩
        rw [if_pos hz]; simp only [h1, h3, ↓reduceIte]
      · left
        refine ⟨Or.inr ⟨h3, hz⟩, ?_⟩
        rw [if_neg hz]; simp only [h1, h3, n10, Nat.one_ne_zero, ↓reduceIte]
end X3
