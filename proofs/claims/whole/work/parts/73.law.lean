/-! ===== laws of worth and of what is hard: a row of steps over a pile ===== -/
/-- how high the pile is before step k -/
def tp (op : Nat → Int32) (fr : Nat) : Nat → Nat
  | 0 => 0
  | k + 1 => if op (fr + k) = nI 1 ∨ op (fr + k) = nI 2 then tp op fr k + 1 else if op (fr + k) = nI 3 then tp op fr k else tp op fr k - 1
def bo (o x y : Int32) : Int32 := if o = nI 4 then x + y else if o = nI 5 then x - y else if o = nI 6 then x * y else if o = nI 7 then (if y ≤ x then nI 0 else nI 1) else if o = nI 8 then (if x = y then nI 1 else nI 0) else if o = nI 9 then (if x = nI 0 then nI 0 else if y = nI 0 then nI 0 else nI 1) else (if x = nI 0 then (if y = nI 0 then nI 0 else nI 1) else nI 1)
def rn (op arg fa : Nat → Int32) (fr : Nat) (s0 : Nat → Int32) : Nat → Nat → Int32
  | 0 => s0
  | k + 1 => if op (fr + k) = nI 1 then upd (rn op arg fa fr s0 k) (tp op fr k) (arg (fr + k)) else if op (fr + k) = nI 2 then upd (rn op arg fa fr s0 k) (tp op fr k) (fa (arg (fr + k)).toNatClampNeg) else if op (fr + k) = nI 3 then upd (rn op arg fa fr s0 k) (tp op fr k - 1) (if rn op arg fa fr s0 k (tp op fr k - 1) = nI 0 then nI 1 else nI 0) else upd (rn op arg fa fr s0 k) (tp op fr k - 2) (bo (op (fr + k)) (rn op arg fa fr s0 k (tp op fr k - 2)) (rn op arg fa fr s0 k (tp op fr k - 1)))
def okL (op arg : Nat → Int32) (fr len : Nat) : Prop := 0 < len ∧ len ≤ 1000 ∧ fr + len < 1100 ∧ op (fr + len) = nI 0 ∧ ∀ k, k < len → (op (fr + k) = nI 1 ∧ tp op fr k < 32) ∨ (op (fr + k) = nI 2 ∧ (∃ a, a < 4 ∧ arg (fr + k) = nI a) ∧ tp op fr k < 32) ∨ (op (fr + k) = nI 3 ∧ 1 ≤ tp op fr k) ∨ (∃ o, 4 ≤ o ∧ o ≤ 10 ∧ op (fr + k) = nI o ∧ 2 ≤ tp op fr k)
def lawV (op arg fa : Nat → Int32) (fr len : Nat) : Int32 := rn op arg fa fr (fun _ => nI 0) len 0
section L
variable {op arg fa : Nat → Int32} {fr len : Nat}
theorem tp_le (hk : okL op arg fr len) : ∀ k, k ≤ len → tp op fr k ≤ 32 := by
  intro k
  induction k with
  | zero => intro _; simp [tp]
  | succ k ih =>
    intro h
    have h0 := ih (by omega)
    simp only [tp]
    rcases hk.2.2.2.2 k (by omega) with ⟨e, q⟩ | ⟨e, _, q⟩ | ⟨e, q⟩ | ⟨o, o1, o2, e, q⟩
    · rw [if_pos (Or.inl e)]; omega
    · rw [if_pos (Or.inr e)]; omega
    · split
      · rename_i c; rw [e] at c; rcases c with c | c <;> rw [nI_eq (by omega) (by omega)] at c <;> omega
      · first | omega | (rw [if_pos e]; omega)
    · split
      · rename_i c; rw [e] at c; rcases c with c | c <;> rw [nI_eq (by omega) (by omega)] at c <;> omega
      · split <;> omega
theorem tp_pos (hk : okL op arg fr len) : 1 ≤ tp op fr len := by
  obtain ⟨k, rfl⟩ : ∃ k, len = k + 1 := ⟨len - 1, by have := hk.1; omega⟩
  simp only [tp]
  rcases hk.2.2.2.2 k (by omega) with ⟨e, q⟩ | ⟨e, _, q⟩ | ⟨e, q⟩ | ⟨o, o1, o2, e, q⟩
  · rw [if_pos (Or.inl e)]; omega
  · rw [if_pos (Or.inr e)]; omega
  · split
    · omega
    · first | exact q | (rw [if_pos e]; exact q)
  · split
    · omega
    · split <;> omega
/-- what lay on the pile before doesn't matter -/
theorem rn_any (hk : okL op arg fr len) (s0 s1 : Nat → Int32) : ∀ k, k ≤ len → ∀ i, i < tp op fr k → rn op arg fa fr s0 k i = rn op arg fa fr s1 k i := by
  intro k
  induction k with
  | zero => intro _ i hi; simp [tp] at hi
  | succ k ih =>
    intro h i hi
    have h0 := ih (by omega)
    simp only [tp] at hi
    simp only [rn]
    rcases hk.2.2.2.2 k (by omega) with ⟨e, q⟩ | ⟨e, _, q⟩ | ⟨e, q⟩ | ⟨o, o1, o2, e, q⟩
    · rw [if_pos (Or.inl e)] at hi
      rw [if_pos e, if_pos e]
      by_cases c : i = tp op fr k
      · subst c; rw [pk_us, pk_us]
      · rw [pk_un c, pk_un c]; exact h0 i (by omega)
    · have e1 : ¬ op (fr + k) = nI 1 := by rw [e, nI_eq (by omega) (by omega)]; omega
      rw [if_pos (Or.inr e)] at hi
      rw [if_neg e1, if_neg e1, if_pos e, if_pos e]
      by_cases c : i = tp op fr k
      · subst c; rw [pk_us, pk_us]
      · rw [pk_un c, pk_un c]; exact h0 i (by omega)
    · have e1 : ¬ op (fr + k) = nI 1 := by rw [e, nI_eq (by omega) (by omega)]; omega
      have e2 : ¬ op (fr + k) = nI 2 := by rw [e, nI_eq (by omega) (by omega)]; omega
      rw [if_neg (by intro c; rcases c with c | c <;> contradiction), if_pos e] at hi
      rw [if_neg e1, if_neg e1, if_neg e2, if_neg e2, if_pos e, if_pos e, h0 _ (show tp op fr k - 1 < tp op fr k by omega)]
      by_cases c : i = tp op fr k - 1
      · subst c; rw [pk_us, pk_us]
      · rw [pk_un c, pk_un c]; exact h0 i (by omega)
    · have e1 : ¬ op (fr + k) = nI 1 := by rw [e, nI_eq (by omega) (by omega)]; omega
      have e2 : ¬ op (fr + k) = nI 2 := by rw [e, nI_eq (by omega) (by omega)]; omega
      have e3 : ¬ op (fr + k) = nI 3 := by rw [e, nI_eq (by omega) (by omega)]; omega
      rw [if_neg (by intro c; rcases c with c | c <;> contradiction), if_neg e3] at hi
      rw [if_neg e1, if_neg e1, if_neg e2, if_neg e2, if_neg e3, if_neg e3, h0 _ (show tp op fr k - 1 < tp op fr k by omega), h0 _ (show tp op fr k - 2 < tp op fr k by omega)]
      by_cases c : i = tp op fr k - 2
      · subst c; rw [pk_us, pk_us]
      · rw [pk_un c, pk_un c]; exact h0 i (by omega)
theorem x13_both {fu o : Nat} {x y : Int32} (h1 : 4 ≤ o) (h2 : o ≤ 10) : f_X13_both fu (nI o) x y = some (bo (nI o) x y) := by
  simp only [f_X13_both_96, f_X13_both_86, f_X13_both_0, f_X13_both, ↓lm_1, ↓lm_2, ↓lm_3, ↓lm_4, ↓lm_5, ↓lm_6, ↓lm_7, ↓lm_8, ↓lm_9, ↓lm_10, ↓lm_11, li_0, li_1, li_2, li_3, li_4, li_5, li_6, li_7, li_8, li_9, li_10, li_11, li_12, li_13, li_14, li_15, li_16, li_17, li_18, li_19, li_20, li_21, li_22, li_23, li_24, li_25, li_26, li_27, li_28, li_29, li_30, li_31, li_32, li_33, li_34, li_35, li_36, li_37, li_38, li_39, li_40, li_41, li_42, li_43, li_44, li_45, li_46, li_47, li_48, li_49, li_50, li_51, li_52, li_53, li_54, li_55, li_56, li_57, li_58, li_59, li_60, li_61, li_62, li_63, li_64, li_65, li_66, li_96, li_97, li_99, li_100, li_122, li_125, li_126, li_140, li_255, li_256, li_999, li_1000, li_1001, li_1002, li_1100, li_1386, li_1452, li_1518, li_9999, li_1000000, bo]
  rcases (show o = 4 ∨ o = 5 ∨ o = 6 ∨ o = 7 ∨ o = 8 ∨ o = 9 ∨ o = 10 by omega) with rfl | rfl | rfl | rfl | rfl | rfl | rfl <;> simp (disch := omega) only [nI_eq, ↓reduceIte, Nat.reduceEqDiff, Nat.reduceAdd, Nat.reduceSub, Nat.reduceMul, Nat.reduceLT, Nat.reduceLeDiff, reduceCtorEq, Nat.add_zero, Nat.zero_add, ne_eq, not_true_eq_false, not_false_eq_true, Nat.succ_ne_self, Nat.zero_ne_one, Nat.one_ne_zero, decide_true, decide_false, Bool.false_eq_true, and_true, true_and, and_self, and_false, false_and] <;> (repeat' split) <;> rfl
theorem x13_wpush {fu k : Nat} {v : GV} (hk : okL (gA v 11) (gA v 12) fr len) (hkl : k < len) (rec) (e : gA v 11 (fr + k) = nI 1) (q : tp (gA v 11) fr k < 32) (s : Nat → Int32) : f_X13_worthAt_4s fu rec (nI (tp (gA v 11) fr k)) (nI (fr + k)) (sAf v 23 s) = rec (nI (tp (gA v 11) fr k + 1)) (nI (fr + (k + 1))) (sAf v 23 (upd s (tp (gA v 11) fr k) (gA v 12 (fr + k)))) := by
  have h2 := hk.2.2.1
  simp (disch := omega) only [f_X13_worthAt_134, f_X13_worthAt_100, f_X13_worthAt_64, f_X13_worthAt_33, f_X13_worthAt_4s, f_X13_worthAt_4, f_X13_worthAt_0, f_X13_worthAt, ↓lm_1, ↓lm_2, ↓lm_3, ↓lm_4, ↓lm_5, ↓lm_6, ↓lm_7, ↓lm_8, ↓lm_9, ↓lm_10, ↓lm_11, li_0, li_1, li_2, li_3, li_4, li_5, li_6, li_7, li_8, li_9, li_10, li_11, li_12, li_13, li_14, li_15, li_16, li_17, li_18, li_19, li_20, li_21, li_22, li_23, li_24, li_25, li_26, li_27, li_28, li_29, li_30, li_31, li_32, li_33, li_34, li_35, li_36, li_37, li_38, li_39, li_40, li_41, li_42, li_43, li_44, li_45, li_46, li_47, li_48, li_49, li_50, li_51, li_52, li_53, li_54, li_55, li_56, li_57, li_58, li_59, li_60, li_61, li_62, li_63, li_64, li_65, li_66, li_96, li_97, li_99, li_100, li_122, li_125, li_126, li_140, li_255, li_256, li_999, li_1000, li_1001, li_1002, li_1100, li_1386, li_1452, li_1518, li_9999, li_1000000, e, ↓nm_eq, ck_t, bd_s, bd2_s, st_same, st_ne, gA_sA, gA_sAn, gI_sA, gJ_sA, gL_sA, gR_sA, gQ_sA, gN_sA, gC_sA, gA_sI, gI_sI, gJ_sI, gL_sI, gR_sI, gQ_sI, gN_sI, gC_sI, gA_sAf, gA_sAfn, gI_sAf, gJ_sAf, gL_sAf, gR_sAf, gQ_sAf, gN_sAf, gC_sAf, gA_sL, gI_sL, gL_sL, gL_sLn, gR_sL, gQ_sL, gN_sL, gC_sL, gA_sR, gI_sR, gL_sR, gJ_sR, gR_sR, gQ_sR, gN_sR, gC_sR, gA_sJ, gI_sJ, gL_sJ, gJ_sJ, gR_sJ, gQ_sJ, gN_sJ, gC_sJ, ↓reduceIte, Nat.reduceEqDiff, Nat.reduceAdd, Nat.reduceSub, Nat.reduceMul, Nat.reduceLT, Nat.reduceLeDiff, reduceCtorEq, Nat.add_zero, Nat.zero_add, ne_eq, not_true_eq_false, not_false_eq_true, Nat.succ_ne_self, Nat.zero_ne_one, Nat.one_ne_zero, decide_true, decide_false, Bool.false_eq_true, and_true, true_and, and_self, and_false, false_and, nI_add, nI_clamp, inb_n, nI_leI, nI_ltI, nI_eq, pk_sub, Nat.add_assoc, sA, sAf_sAf]
theorem x13_wfact {fu k : Nat} {v : GV} (hk : okL (gA v 11) (gA v 12) fr len) (hkl : k < len) (rec) (e : gA v 11 (fr + k) = nI 2) {a : Nat} (a4 : a < 4) (ea : gA v 12 (fr + k) = nI a) (q : tp (gA v 11) fr k < 32) (s : Nat → Int32) : f_X13_worthAt_4s fu rec (nI (tp (gA v 11) fr k)) (nI (fr + k)) (sAf v 23 s) = rec (nI (tp (gA v 11) fr k + 1)) (nI (fr + (k + 1))) (sAf v 23 (upd s (tp (gA v 11) fr k) (gA v 22 a))) := by
  have h2 := hk.2.2.1
  simp (disch := omega) only [f_X13_worthAt_134, f_X13_worthAt_100, f_X13_worthAt_64, f_X13_worthAt_33, f_X13_worthAt_4s, f_X13_worthAt_4, f_X13_worthAt_0, f_X13_worthAt, ↓lm_1, ↓lm_2, ↓lm_3, ↓lm_4, ↓lm_5, ↓lm_6, ↓lm_7, ↓lm_8, ↓lm_9, ↓lm_10, ↓lm_11, li_0, li_1, li_2, li_3, li_4, li_5, li_6, li_7, li_8, li_9, li_10, li_11, li_12, li_13, li_14, li_15, li_16, li_17, li_18, li_19, li_20, li_21, li_22, li_23, li_24, li_25, li_26, li_27, li_28, li_29, li_30, li_31, li_32, li_33, li_34, li_35, li_36, li_37, li_38, li_39, li_40, li_41, li_42, li_43, li_44, li_45, li_46, li_47, li_48, li_49, li_50, li_51, li_52, li_53, li_54, li_55, li_56, li_57, li_58, li_59, li_60, li_61, li_62, li_63, li_64, li_65, li_66, li_96, li_97, li_99, li_100, li_122, li_125, li_126, li_140, li_255, li_256, li_999, li_1000, li_1001, li_1002, li_1100, li_1386, li_1452, li_1518, li_9999, li_1000000, e, ea, ↓nm_eq, ck_t, bd_s, bd2_s, st_same, st_ne, gA_sA, gA_sAn, gI_sA, gJ_sA, gL_sA, gR_sA, gQ_sA, gN_sA, gC_sA, gA_sI, gI_sI, gJ_sI, gL_sI, gR_sI, gQ_sI, gN_sI, gC_sI, gA_sAf, gA_sAfn, gI_sAf, gJ_sAf, gL_sAf, gR_sAf, gQ_sAf, gN_sAf, gC_sAf, gA_sL, gI_sL, gL_sL, gL_sLn, gR_sL, gQ_sL, gN_sL, gC_sL, gA_sR, gI_sR, gL_sR, gJ_sR, gR_sR, gQ_sR, gN_sR, gC_sR, gA_sJ, gI_sJ, gL_sJ, gJ_sJ, gR_sJ, gQ_sJ, gN_sJ, gC_sJ, ↓reduceIte, Nat.reduceEqDiff, Nat.reduceAdd, Nat.reduceSub, Nat.reduceMul, Nat.reduceLT, Nat.reduceLeDiff, reduceCtorEq, Nat.add_zero, Nat.zero_add, ne_eq, not_true_eq_false, not_false_eq_true, Nat.succ_ne_self, Nat.zero_ne_one, Nat.one_ne_zero, decide_true, decide_false, Bool.false_eq_true, and_true, true_and, and_self, and_false, false_and, nI_add, nI_clamp, inb_n, nI_leI, nI_ltI, nI_eq, pk_sub, Nat.add_assoc, sA, sAf_sAf]
theorem x13_wnot {fu k : Nat} {v : GV} (hk : okL (gA v 11) (gA v 12) fr len) (hkl : k < len) (rec) (e : gA v 11 (fr + k) = nI 3) (q : 1 ≤ tp (gA v 11) fr k) (s : Nat → Int32) : f_X13_worthAt_4s fu rec (nI (tp (gA v 11) fr k)) (nI (fr + k)) (sAf v 23 s) = rec (nI (tp (gA v 11) fr k)) (nI (fr + (k + 1))) (sAf v 23 (upd s (tp (gA v 11) fr k - 1) (if s (tp (gA v 11) fr k - 1) = nI 0 then nI 1 else nI 0))) := by
  have h2 := hk.2.2.1
  have ht := tp_le hk k (by omega)
  simp (disch := omega) only [f_X13_worthAt_134, f_X13_worthAt_100, f_X13_worthAt_64, f_X13_worthAt_33, f_X13_worthAt_4s, f_X13_worthAt_4, f_X13_worthAt_0, f_X13_worthAt, ↓lm_1, ↓lm_2, ↓lm_3, ↓lm_4, ↓lm_5, ↓lm_6, ↓lm_7, ↓lm_8, ↓lm_9, ↓lm_10, ↓lm_11, li_0, li_1, li_2, li_3, li_4, li_5, li_6, li_7, li_8, li_9, li_10, li_11, li_12, li_13, li_14, li_15, li_16, li_17, li_18, li_19, li_20, li_21, li_22, li_23, li_24, li_25, li_26, li_27, li_28, li_29, li_30, li_31, li_32, li_33, li_34, li_35, li_36, li_37, li_38, li_39, li_40, li_41, li_42, li_43, li_44, li_45, li_46, li_47, li_48, li_49, li_50, li_51, li_52, li_53, li_54, li_55, li_56, li_57, li_58, li_59, li_60, li_61, li_62, li_63, li_64, li_65, li_66, li_96, li_97, li_99, li_100, li_122, li_125, li_126, li_140, li_255, li_256, li_999, li_1000, li_1001, li_1002, li_1100, li_1386, li_1452, li_1518, li_9999, li_1000000, e, ↓nm_eq, ck_t, bd_s, bd2_s, st_same, st_ne, gA_sA, gA_sAn, gI_sA, gJ_sA, gL_sA, gR_sA, gQ_sA, gN_sA, gC_sA, gA_sI, gI_sI, gJ_sI, gL_sI, gR_sI, gQ_sI, gN_sI, gC_sI, gA_sAf, gA_sAfn, gI_sAf, gJ_sAf, gL_sAf, gR_sAf, gQ_sAf, gN_sAf, gC_sAf, gA_sL, gI_sL, gL_sL, gL_sLn, gR_sL, gQ_sL, gN_sL, gC_sL, gA_sR, gI_sR, gL_sR, gJ_sR, gR_sR, gQ_sR, gN_sR, gC_sR, gA_sJ, gI_sJ, gL_sJ, gJ_sJ, gR_sJ, gQ_sJ, gN_sJ, gC_sJ, ↓reduceIte, Nat.reduceEqDiff, Nat.reduceAdd, Nat.reduceSub, Nat.reduceMul, Nat.reduceLT, Nat.reduceLeDiff, reduceCtorEq, Nat.add_zero, Nat.zero_add, ne_eq, not_true_eq_false, not_false_eq_true, Nat.succ_ne_self, Nat.zero_ne_one, Nat.one_ne_zero, decide_true, decide_false, Bool.false_eq_true, and_true, true_and, and_self, and_false, false_and, nI_add, nI_clamp, inb_n, nI_leI, nI_ltI, nI_eq, pk_sub, Nat.add_assoc, sA, sAf_sAf]
  split <;> rfl
theorem x13_wbin {fu k : Nat} {v : GV} (hk : okL (gA v 11) (gA v 12) fr len) (hkl : k < len) (rec) {o : Nat} (o1 : 4 ≤ o) (o2 : o ≤ 10) (e : gA v 11 (fr + k) = nI o) (q : 2 ≤ tp (gA v 11) fr k) (s : Nat → Int32) : f_X13_worthAt_4s fu rec (nI (tp (gA v 11) fr k)) (nI (fr + k)) (sAf v 23 s) = rec (nI (tp (gA v 11) fr k - 1)) (nI (fr + (k + 1))) (sAf v 23 (upd s (tp (gA v 11) fr k - 2) (bo (nI o) (s (tp (gA v 11) fr k - 2)) (s (tp (gA v 11) fr k - 1))))) := by
  have h2 := hk.2.2.1
  have ht := tp_le hk k (by omega)
  have eq : nI (tp (gA v 11) fr k) + mI 1 = nI (tp (gA v 11) fr k - 1) := by
    have := mI_sub1 (tp (gA v 11) fr k - 1)
    rwa [show tp (gA v 11) fr k - 1 + 1 = tp (gA v 11) fr k by omega] at this
  have eq2 : nI (tp (gA v 11) fr k - 1) - nI 1 = nI (tp (gA v 11) fr k - 2) := by rw [pk_sub (by omega), Nat.sub_sub]
  have d1 : ¬ nI o = nI 1 := by rw [nI_eq (by omega) (by omega)]; omega
  have d2 : ¬ nI o = nI 2 := by rw [nI_eq (by omega) (by omega)]; omega
  have d3 : ¬ nI o = nI 3 := by rw [nI_eq (by omega) (by omega)]; omega
  have d0 : ¬ nI o = nI 0 := by rw [nI_eq (by omega) (by omega)]; omega
  simp (disch := omega) only [f_X13_worthAt_4s, f_X13_worthAt_134, ↓lm_1, ↓lm_2, ↓lm_3, ↓lm_4, ↓lm_5, ↓lm_6, ↓lm_7, ↓lm_8, ↓lm_9, ↓lm_10, ↓lm_11, li_0, li_1, li_2, li_3, li_4, li_5, li_6, li_7, li_8, li_9, li_10, li_11, li_12, li_13, li_14, li_15, li_16, li_17, li_18, li_19, li_20, li_21, li_22, li_23, li_24, li_25, li_26, li_27, li_28, li_29, li_30, li_31, li_32, li_33, li_34, li_35, li_36, li_37, li_38, li_39, li_40, li_41, li_42, li_43, li_44, li_45, li_46, li_47, li_48, li_49, li_50, li_51, li_52, li_53, li_54, li_55, li_56, li_57, li_58, li_59, li_60, li_61, li_62, li_63, li_64, li_65, li_66, li_96, li_97, li_99, li_100, li_122, li_125, li_126, li_140, li_255, li_256, li_999, li_1000, li_1001, li_1002, li_1100, li_1386, li_1452, li_1518, li_9999, li_1000000, e, eq, eq2, d0, d1, d2, d3, ↓nm_eq, ck_t, bd_s, bd2_s, st_same, st_ne, gA_sA, gA_sAn, gI_sA, gJ_sA, gL_sA, gR_sA, gQ_sA, gN_sA, gC_sA, gA_sI, gI_sI, gJ_sI, gL_sI, gR_sI, gQ_sI, gN_sI, gC_sI, gA_sAf, gA_sAfn, gI_sAf, gJ_sAf, gL_sAf, gR_sAf, gQ_sAf, gN_sAf, gC_sAf, gA_sL, gI_sL, gL_sL, gL_sLn, gR_sL, gQ_sL, gN_sL, gC_sL, gA_sR, gI_sR, gL_sR, gJ_sR, gR_sR, gQ_sR, gN_sR, gC_sR, gA_sJ, gI_sJ, gL_sJ, gJ_sJ, gR_sJ, gQ_sJ, gN_sJ, gC_sJ, ↓reduceIte, Nat.reduceEqDiff, Nat.reduceAdd, Nat.reduceSub, Nat.reduceMul, Nat.reduceLT, Nat.reduceLeDiff, reduceCtorEq, Nat.add_zero, Nat.zero_add, ne_eq, not_true_eq_false, not_false_eq_true, Nat.succ_ne_self, Nat.zero_ne_one, Nat.one_ne_zero, decide_true, decide_false, Bool.false_eq_true, and_true, true_and, and_self, and_false, false_and, nI_add, nI_clamp, inb_n, Nat.add_assoc, sA, sAf_sAf, x13_both o1 o2]
/-- the model's worthAt -/
theorem x13_worthAt {fu : Nat} {v : GV} (hk : okL (gA v 11) (gA v 12) fr len) (hf : 1101 ≤ fu) : ∃ P, f_X13_worthAt fu v (nI fr) = some (lawV (gA v 11) (gA v 12) (gA v 22) fr len, sAf v 23 P) := by
  obtain ⟨h0, h1, h2, h3, hs⟩ := id hk
  refine ⟨rn (gA v 11) (gA v 12) (gA v 22) fr (gA v 23) len, ?_⟩
  have e0 : f_X13_worthAt fu v (nI fr) = f_X13_worthAt_4 fu fu (nI (tp (gA v 11) fr 0)) (nI (fr + 0)) (sAf v 23 (rn (gA v 11) (gA v 12) (gA v 22) fr (gA v 23) 0)) := by
    simp only [f_X13_worthAt, f_X13_worthAt_0, tp, rn, sAf_self, Nat.add_zero, li_0]
  rw [e0, f_X13_worthAt_4]
  refine for3 _ (fun k => nI (tp (gA v 11) fr k)) (fun k => nI (fr + k)) (fun k => sAf v 23 (rn (gA v 11) (gA v 12) (gA v 22) fr (gA v 23) k)) 0 len _ ?_ ?_ fu (by omega) (by omega)
  · intro rec
    show f_X13_worthAt_4s fu rec (nI (tp (gA v 11) fr len)) (nI (fr + len)) (sAf v 23 (rn (gA v 11) (gA v 12) (gA v 22) fr (gA v 23) len)) = _
    simp (disch := omega) only [f_X13_worthAt_4s, ↓lm_1, ↓lm_2, ↓lm_3, ↓lm_4, ↓lm_5, ↓lm_6, ↓lm_7, ↓lm_8, ↓lm_9, ↓lm_10, ↓lm_11, li_0, li_1, li_2, li_3, li_4, li_5, li_6, li_7, li_8, li_9, li_10, li_11, li_12, li_13, li_14, li_15, li_16, li_17, li_18, li_19, li_20, li_21, li_22, li_23, li_24, li_25, li_26, li_27, li_28, li_29, li_30, li_31, li_32, li_33, li_34, li_35, li_36, li_37, li_38, li_39, li_40, li_41, li_42, li_43, li_44, li_45, li_46, li_47, li_48, li_49, li_50, li_51, li_52, li_53, li_54, li_55, li_56, li_57, li_58, li_59, li_60, li_61, li_62, li_63, li_64, li_65, li_66, li_96, li_97, li_99, li_100, li_122, li_125, li_126, li_140, li_255, li_256, li_999, li_1000, li_1001, li_1002, li_1100, li_1386, li_1452, li_1518, li_9999, li_1000000, ↓nm_eq, ck_t, bd_s, bd2_s, st_same, st_ne, gA_sA, gA_sAn, gI_sA, gJ_sA, gL_sA, gR_sA, gQ_sA, gN_sA, gC_sA, gA_sI, gI_sI, gJ_sI, gL_sI, gR_sI, gQ_sI, gN_sI, gC_sI, gA_sAf, gA_sAfn, gI_sAf, gJ_sAf, gL_sAf, gR_sAf, gQ_sAf, gN_sAf, gC_sAf, gA_sL, gI_sL, gL_sL, gL_sLn, gR_sL, gQ_sL, gN_sL, gC_sL, gA_sR, gI_sR, gL_sR, gJ_sR, gR_sR, gQ_sR, gN_sR, gC_sR, gA_sJ, gI_sJ, gL_sJ, gJ_sJ, gR_sJ, gQ_sJ, gN_sJ, gC_sJ, ↓reduceIte, Nat.reduceEqDiff, Nat.reduceAdd, Nat.reduceSub, Nat.reduceMul, Nat.reduceLT, Nat.reduceLeDiff, reduceCtorEq, Nat.add_zero, Nat.zero_add, ne_eq, not_true_eq_false, not_false_eq_true, Nat.succ_ne_self, Nat.zero_ne_one, Nat.one_ne_zero, decide_true, decide_false, Bool.false_eq_true, and_true, true_and, and_self, and_false, false_and, nI_add, nI_clamp, inb_n, nI_leI, nI_ltI, nI_eq, pk_sub, Nat.add_assoc, h3, lawV]
    rw [rn_any hk (gA v 23) (fun _ => nI 0) len (Nat.le_refl _) 0 (tp_pos hk)]
  · intro k rec _ hkl
    show f_X13_worthAt_4s fu rec (nI (tp (gA v 11) fr k)) (nI (fr + k)) (sAf v 23 (rn (gA v 11) (gA v 12) (gA v 22) fr (gA v 23) k)) = rec (nI (tp (gA v 11) fr (k + 1))) (nI (fr + (k + 1))) (sAf v 23 (rn (gA v 11) (gA v 12) (gA v 22) fr (gA v 23) (k + 1)))
    simp only [rn, tp]
    rcases hs k hkl with ⟨e, q⟩ | ⟨e, ⟨a, a4, ea⟩, q⟩ | ⟨e, q⟩ | ⟨o, o1, o2, e, q⟩
    · rw [x13_wpush hk hkl rec e q, if_pos (Or.inl e), if_pos e]
    · have e1 : ¬ gA v 11 (fr + k) = nI 1 := by rw [e, nI_eq (by omega) (by omega)]; omega
      rw [x13_wfact hk hkl rec e a4 ea q, if_pos (Or.inr e), if_neg e1, if_pos e, ea, nI_clamp (by omega)]
    · have e1 : ¬ gA v 11 (fr + k) = nI 1 := by rw [e, nI_eq (by omega) (by omega)]; omega
      have e2 : ¬ gA v 11 (fr + k) = nI 2 := by rw [e, nI_eq (by omega) (by omega)]; omega
      have e12 : ¬ (gA v 11 (fr + k) = nI 1 ∨ gA v 11 (fr + k) = nI 2) := fun c => c.elim e1 e2
      rw [x13_wnot hk hkl rec e q, if_neg e12, if_pos e, if_neg e1, if_neg e2, if_pos e]
    · have e1 : ¬ gA v 11 (fr + k) = nI 1 := by rw [e, nI_eq (by omega) (by omega)]; omega
      have e2 : ¬ gA v 11 (fr + k) = nI 2 := by rw [e, nI_eq (by omega) (by omega)]; omega
      have e3 : ¬ gA v 11 (fr + k) = nI 3 := by rw [e, nI_eq (by omega) (by omega)]; omega
      have e12 : ¬ (gA v 11 (fr + k) = nI 1 ∨ gA v 11 (fr + k) = nI 2) := fun c => c.elim e1 e2
      rw [x13_wbin hk hkl rec o1 o2 e q, if_neg e12, if_neg e3, if_neg e1, if_neg e2, if_neg e3, e]
end L
/-- a step of the class's law is a step of the model's; th: which fact is the third -/
def csR (th : Nat) (x o a : Int32) : Prop := (o = nI 1 ∧ x = a ∧ ∃ c, c < 10000 ∧ a = nI c) ∨ (o = nI 2 ∧ ((a = nI 0 ∧ x = mI 1) ∨ (a = nI 1 ∧ x = mI 2) ∨ (a = nI th ∧ x = mI 3))) ∨ (o = nI 3 ∧ x = mI 4) ∨ ∃ k m, o = nI k ∧ x = mI m ∧ ((k = 4 ∧ m = 9) ∨ (k = 5 ∧ m = 10) ∨ (k = 6 ∧ m = 11) ∨ (k = 7 ∧ m = 7) ∨ (k = 8 ∧ m = 8) ∨ (k = 9 ∧ m = 5) ∨ (k = 10 ∧ m = 6))
def LC (w : GV) (op arg : Nat → Int32) (fr len th : Nat) : Prop := gC w = 4 ∧ gN w 0 = len ∧ ∀ k, k < len → csR th (gA w 0 k) (op (fr + k)) (arg (fr + k))
section L2
variable {op arg fa : Nat → Int32} {fr len th : Nat} {fu : Nat} {w : GV}
theorem x4_joinedBy {k m : Nat} {x y : Int32} (h : (k = 4 ∧ m = 9) ∨ (k = 5 ∧ m = 10) ∨ (k = 6 ∧ m = 11) ∨ (k = 7 ∧ m = 7) ∨ (k = 8 ∧ m = 8) ∨ (k = 9 ∧ m = 5) ∨ (k = 10 ∧ m = 6)) : f_X4_joinedBy fu (mI m) x y = some (bo (nI k) x y) := by
  simp only [f_X4_joinedBy_62, f_X4_joinedBy_52, f_X4_joinedBy_0, f_X4_joinedBy, ↓lm_1, ↓lm_2, ↓lm_3, ↓lm_4, ↓lm_5, ↓lm_6, ↓lm_7, ↓lm_8, ↓lm_9, ↓lm_10, ↓lm_11, li_0, li_1, li_2, li_3, li_4, li_5, li_6, li_7, li_8, li_9, li_10, li_11, li_12, li_13, li_14, li_15, li_16, li_17, li_18, li_19, li_20, li_21, li_22, li_23, li_24, li_25, li_26, li_27, li_28, li_29, li_30, li_31, li_32, li_33, li_34, li_35, li_36, li_37, li_38, li_39, li_40, li_41, li_42, li_43, li_44, li_45, li_46, li_47, li_48, li_49, li_50, li_51, li_52, li_53, li_54, li_55, li_56, li_57, li_58, li_59, li_60, li_61, li_62, li_63, li_64, li_65, li_66, li_96, li_97, li_99, li_100, li_122, li_125, li_126, li_140, li_255, li_256, li_999, li_1000, li_1001, li_1002, li_1100, li_1386, li_1452, li_1518, li_9999, li_1000000, bo]
  rcases h with ⟨rfl, rfl⟩ | ⟨rfl, rfl⟩ | ⟨rfl, rfl⟩ | ⟨rfl, rfl⟩ | ⟨rfl, rfl⟩ | ⟨rfl, rfl⟩ | ⟨rfl, rfl⟩ <;> simp (disch := omega) only [nI_eq, mI_eq, ↓reduceIte, Nat.reduceEqDiff, Nat.reduceAdd, Nat.reduceSub, Nat.reduceMul, Nat.reduceLT, Nat.reduceLeDiff, reduceCtorEq, Nat.add_zero, Nat.zero_add, ne_eq, not_true_eq_false, not_false_eq_true, Nat.succ_ne_self, Nat.zero_ne_one, Nat.one_ne_zero, decide_true, decide_false, Bool.false_eq_true, and_true, true_and, and_self, and_false, false_and] <;> (repeat' split) <;> rfl
theorem x4_push {i t : Nat} (hw : gN w 0 = len) (hl : len ≤ 1000) (hi : i < len) (rec) (s : Nat → Int32) {x y p q r : Int32} (hx : gA w 0 i = x) (h4 : ¬ x ≤ mI 4) (hy : f_X4_operand fu x p q r = some y) (ht : t < 32) : f_X4_value_6s fu rec p q r (nI t) (nI i) (sAf w 1 s) = rec (nI (t + 1)) (nI (i + 1)) (sAf w 1 (upd s t y)) := by
  have e1 : ¬ nI len ≤ nI i := nI_ge hi (by omega)
  have e2 : ¬ nI 32 ≤ nI t := nI_ge ht (by decide)
  rw [show (nI len : Int32) = Int32.ofNat len from rfl] at e1
  simp (disch := omega) only [f_X4_value_6s, f_X4_value_148, ↓lm_1, ↓lm_2, ↓lm_3, ↓lm_4, ↓lm_5, ↓lm_6, ↓lm_7, ↓lm_8, ↓lm_9, ↓lm_10, ↓lm_11, li_0, li_1, li_2, li_3, li_4, li_5, li_6, li_7, li_8, li_9, li_10, li_11, li_12, li_13, li_14, li_15, li_16, li_17, li_18, li_19, li_20, li_21, li_22, li_23, li_24, li_25, li_26, li_27, li_28, li_29, li_30, li_31, li_32, li_33, li_34, li_35, li_36, li_37, li_38, li_39, li_40, li_41, li_42, li_43, li_44, li_45, li_46, li_47, li_48, li_49, li_50, li_51, li_52, li_53, li_54, li_55, li_56, li_57, li_58, li_59, li_60, li_61, li_62, li_63, li_64, li_65, li_66, li_96, li_97, li_99, li_100, li_122, li_125, li_126, li_140, li_255, li_256, li_999, li_1000, li_1001, li_1002, li_1100, li_1386, li_1452, li_1518, li_9999, li_1000000, hw, hx, e1, e2, h4, hy, ↓nm_eq, ck_t, bd_s, bd2_s, st_same, st_ne, gA_sA, gA_sAn, gI_sA, gJ_sA, gL_sA, gR_sA, gQ_sA, gN_sA, gC_sA, gA_sI, gI_sI, gJ_sI, gL_sI, gR_sI, gQ_sI, gN_sI, gC_sI, gA_sAf, gA_sAfn, gI_sAf, gJ_sAf, gL_sAf, gR_sAf, gQ_sAf, gN_sAf, gC_sAf, gA_sL, gI_sL, gL_sL, gL_sLn, gR_sL, gQ_sL, gN_sL, gC_sL, gA_sR, gI_sR, gL_sR, gJ_sR, gR_sR, gQ_sR, gN_sR, gC_sR, gA_sJ, gI_sJ, gL_sJ, gJ_sJ, gR_sJ, gQ_sJ, gN_sJ, gC_sJ, ↓reduceIte, Nat.reduceEqDiff, Nat.reduceAdd, Nat.reduceSub, Nat.reduceMul, Nat.reduceLT, Nat.reduceLeDiff, reduceCtorEq, Nat.add_zero, Nat.zero_add, ne_eq, not_true_eq_false, not_false_eq_true, Nat.succ_ne_self, Nat.zero_ne_one, Nat.one_ne_zero, decide_true, decide_false, Bool.false_eq_true, and_true, true_and, and_self, and_false, false_and, nI_add, nI_clamp, inb_n, sA, sAf_sAf]
theorem x4_not {i t : Nat} (hw : gN w 0 = len) (hl : len ≤ 1000) (hi : i < len) (rec) (s : Nat → Int32) {p q r : Int32} (hx : gA w 0 i = mI 4) (ht : 1 ≤ t) (ht2 : t ≤ 32) : f_X4_value_6s fu rec p q r (nI t) (nI i) (sAf w 1 s) = rec (nI t) (nI (i + 1)) (sAf w 1 (upd s (t - 1) (if s (t - 1) = nI 0 then nI 1 else nI 0))) := by
  have e1 : ¬ nI len ≤ nI i := nI_ge hi (by omega)
  rw [show (nI len : Int32) = Int32.ofNat len from rfl] at e1
  have e3 : ¬ nI t < nI 1 := nI_nlt ht (by omega)
  have e4 : mI 4 ≤ mI 4 := by decide
  simp (disch := omega) only [f_X4_value_6s, f_X4_value_60, f_X4_value_98, f_X4_value_148, ↓lm_1, ↓lm_2, ↓lm_3, ↓lm_4, ↓lm_5, ↓lm_6, ↓lm_7, ↓lm_8, ↓lm_9, ↓lm_10, ↓lm_11, li_0, li_1, li_2, li_3, li_4, li_5, li_6, li_7, li_8, li_9, li_10, li_11, li_12, li_13, li_14, li_15, li_16, li_17, li_18, li_19, li_20, li_21, li_22, li_23, li_24, li_25, li_26, li_27, li_28, li_29, li_30, li_31, li_32, li_33, li_34, li_35, li_36, li_37, li_38, li_39, li_40, li_41, li_42, li_43, li_44, li_45, li_46, li_47, li_48, li_49, li_50, li_51, li_52, li_53, li_54, li_55, li_56, li_57, li_58, li_59, li_60, li_61, li_62, li_63, li_64, li_65, li_66, li_96, li_97, li_99, li_100, li_122, li_125, li_126, li_140, li_255, li_256, li_999, li_1000, li_1001, li_1002, li_1100, li_1386, li_1452, li_1518, li_9999, li_1000000, hw, hx, e1, e3, e4, ↓nm_eq, ck_t, bd_s, bd2_s, st_same, st_ne, gA_sA, gA_sAn, gI_sA, gJ_sA, gL_sA, gR_sA, gQ_sA, gN_sA, gC_sA, gA_sI, gI_sI, gJ_sI, gL_sI, gR_sI, gQ_sI, gN_sI, gC_sI, gA_sAf, gA_sAfn, gI_sAf, gJ_sAf, gL_sAf, gR_sAf, gQ_sAf, gN_sAf, gC_sAf, gA_sL, gI_sL, gL_sL, gL_sLn, gR_sL, gQ_sL, gN_sL, gC_sL, gA_sR, gI_sR, gL_sR, gJ_sR, gR_sR, gQ_sR, gN_sR, gC_sR, gA_sJ, gI_sJ, gL_sJ, gJ_sJ, gR_sJ, gQ_sJ, gN_sJ, gC_sJ, ↓reduceIte, Nat.reduceEqDiff, Nat.reduceAdd, Nat.reduceSub, Nat.reduceMul, Nat.reduceLT, Nat.reduceLeDiff, reduceCtorEq, Nat.add_zero, Nat.zero_add, ne_eq, not_true_eq_false, not_false_eq_true, Nat.succ_ne_self, Nat.zero_ne_one, Nat.one_ne_zero, decide_true, decide_false, Bool.false_eq_true, and_true, true_and, and_self, and_false, false_and, pk_sub, nI_add, nI_clamp, inb_n, sA, sAf_sAf]
  split <;> rfl
theorem x4_bin {i t k m : Nat} (hw : gN w 0 = len) (hl : len ≤ 1000) (hi : i < len) (rec) (s : Nat → Int32) {p q r : Int32} (hx : gA w 0 i = mI m) (h : (k = 4 ∧ m = 9) ∨ (k = 5 ∧ m = 10) ∨ (k = 6 ∧ m = 11) ∨ (k = 7 ∧ m = 7) ∨ (k = 8 ∧ m = 8) ∨ (k = 9 ∧ m = 5) ∨ (k = 10 ∧ m = 6)) (ht : 2 ≤ t) (ht2 : t ≤ 32) : f_X4_value_6s fu rec p q r (nI t) (nI i) (sAf w 1 s) = rec (nI (t - 1)) (nI (i + 1)) (sAf w 1 (upd s (t - 2) (bo (nI k) (s (t - 2)) (s (t - 1))))) := by
  have e1 : ¬ nI len ≤ nI i := nI_ge hi (by omega)
  rw [show (nI len : Int32) = Int32.ofNat len from rfl] at e1
  have e3 : ¬ nI t < nI 2 := nI_nlt ht (by omega)
  have e4 : mI m ≤ mI 4 := (mI_le (by omega) (by omega)).mpr (by omega)
  have e5 : ¬ mI m = mI 4 := by rw [mI_eq (by omega) (by omega)]; omega
  have e6 : ¬ mI 4 ≤ mI m := by rw [mI_le (by omega) (by omega)]; omega
  have eq : nI t + mI 1 = nI (t - 1) := by
    have := mI_sub1 (t - 1)
    rwa [show t - 1 + 1 = t by omega] at this
  have eq2 : nI (t - 1) - nI 1 = nI (t - 2) := by rw [pk_sub (by omega), Nat.sub_sub]
  simp (disch := omega) only [f_X4_value_6s, f_X4_value_60, f_X4_value_102, f_X4_value_148, ↓lm_1, ↓lm_2, ↓lm_3, ↓lm_4, ↓lm_5, ↓lm_6, ↓lm_7, ↓lm_8, ↓lm_9, ↓lm_10, ↓lm_11, li_0, li_1, li_2, li_3, li_4, li_5, li_6, li_7, li_8, li_9, li_10, li_11, li_12, li_13, li_14, li_15, li_16, li_17, li_18, li_19, li_20, li_21, li_22, li_23, li_24, li_25, li_26, li_27, li_28, li_29, li_30, li_31, li_32, li_33, li_34, li_35, li_36, li_37, li_38, li_39, li_40, li_41, li_42, li_43, li_44, li_45, li_46, li_47, li_48, li_49, li_50, li_51, li_52, li_53, li_54, li_55, li_56, li_57, li_58, li_59, li_60, li_61, li_62, li_63, li_64, li_65, li_66, li_96, li_97, li_99, li_100, li_122, li_125, li_126, li_140, li_255, li_256, li_999, li_1000, li_1001, li_1002, li_1100, li_1386, li_1452, li_1518, li_9999, li_1000000, hw, hx, e1, e3, e4, e5, e6, eq, eq2, x4_joinedBy h, ↓nm_eq, ck_t, bd_s, bd2_s, st_same, st_ne, gA_sA, gA_sAn, gI_sA, gJ_sA, gL_sA, gR_sA, gQ_sA, gN_sA, gC_sA, gA_sI, gI_sI, gJ_sI, gL_sI, gR_sI, gQ_sI, gN_sI, gC_sI, gA_sAf, gA_sAfn, gI_sAf, gJ_sAf, gL_sAf, gR_sAf, gQ_sAf, gN_sAf, gC_sAf, gA_sL, gI_sL, gL_sL, gL_sLn, gR_sL, gQ_sL, gN_sL, gC_sL, gA_sR, gI_sR, gL_sR, gJ_sR, gR_sR, gQ_sR, gN_sR, gC_sR, gA_sJ, gI_sJ, gL_sJ, gJ_sJ, gR_sJ, gQ_sJ, gN_sJ, gC_sJ, ↓reduceIte, Nat.reduceEqDiff, Nat.reduceAdd, Nat.reduceSub, Nat.reduceMul, Nat.reduceLT, Nat.reduceLeDiff, reduceCtorEq, Nat.add_zero, Nat.zero_add, ne_eq, not_true_eq_false, not_false_eq_true, Nat.succ_ne_self, Nat.zero_ne_one, Nat.one_ne_zero, decide_true, decide_false, Bool.false_eq_true, and_true, true_and, and_self, and_false, false_and, nI_add, nI_clamp, inb_n, sA, sAf_sAf]
/-- the class's value of a law -/
theorem x4_value (hk : okL op arg fr len) (hL : LC w op arg fr len th) (hth : th = 2 ∨ th = 3) (hf : 1101 ≤ fu) : ∃ P, f_X4_value fu w (fa 0) (fa 1) (fa th) = some (lawV op arg fa fr len, sAf w 1 P) := by
  obtain ⟨h0, h1, h2, h3, hs⟩ := id hk
  obtain ⟨hc, hw, hcs⟩ := hL
  refine ⟨rn op arg fa fr (gA w 1) len, ?_⟩
  have e0 : f_X4_value fu w (fa 0) (fa 1) (fa th) = f_X4_value_6 fu fu (fa 0) (fa 1) (fa th) (nI (tp op fr 0)) (nI 0) (sAf w 1 (rn op arg fa fr (gA w 1) 0)) := by
    simp only [f_X4_value, f_X4_value_0, tp, rn, sAf_self, li_0]
  rw [e0, f_X4_value_6]
  refine for3 _ (fun k => nI (tp op fr k)) (fun k => nI k) (fun k => sAf w 1 (rn op arg fa fr (gA w 1) k)) 0 len _ ?_ ?_ fu (by omega) (by omega)
  · intro rec
    show f_X4_value_6s fu rec (fa 0) (fa 1) (fa th) (nI (tp op fr len)) (nI len) (sAf w 1 (rn op arg fa fr (gA w 1) len)) = _
    have e1 : Int32.ofNat len ≤ nI len := nI_le (Nat.le_refl _) (by omega)
    simp (disch := omega) only [f_X4_value_6s, ↓lm_1, ↓lm_2, ↓lm_3, ↓lm_4, ↓lm_5, ↓lm_6, ↓lm_7, ↓lm_8, ↓lm_9, ↓lm_10, ↓lm_11, li_0, li_1, li_2, li_3, li_4, li_5, li_6, li_7, li_8, li_9, li_10, li_11, li_12, li_13, li_14, li_15, li_16, li_17, li_18, li_19, li_20, li_21, li_22, li_23, li_24, li_25, li_26, li_27, li_28, li_29, li_30, li_31, li_32, li_33, li_34, li_35, li_36, li_37, li_38, li_39, li_40, li_41, li_42, li_43, li_44, li_45, li_46, li_47, li_48, li_49, li_50, li_51, li_52, li_53, li_54, li_55, li_56, li_57, li_58, li_59, li_60, li_61, li_62, li_63, li_64, li_65, li_66, li_96, li_97, li_99, li_100, li_122, li_125, li_126, li_140, li_255, li_256, li_999, li_1000, li_1001, li_1002, li_1100, li_1386, li_1452, li_1518, li_9999, li_1000000, ↓nm_eq, ck_t, bd_s, bd2_s, st_same, st_ne, gA_sA, gA_sAn, gI_sA, gJ_sA, gL_sA, gR_sA, gQ_sA, gN_sA, gC_sA, gA_sI, gI_sI, gJ_sI, gL_sI, gR_sI, gQ_sI, gN_sI, gC_sI, gA_sAf, gA_sAfn, gI_sAf, gJ_sAf, gL_sAf, gR_sAf, gQ_sAf, gN_sAf, gC_sAf, gA_sL, gI_sL, gL_sL, gL_sLn, gR_sL, gQ_sL, gN_sL, gC_sL, gA_sR, gI_sR, gL_sR, gJ_sR, gR_sR, gQ_sR, gN_sR, gC_sR, gA_sJ, gI_sJ, gL_sJ, gJ_sJ, gR_sJ, gQ_sJ, gN_sJ, gC_sJ, ↓reduceIte, Nat.reduceEqDiff, Nat.reduceAdd, Nat.reduceSub, Nat.reduceMul, Nat.reduceLT, Nat.reduceLeDiff, reduceCtorEq, Nat.add_zero, Nat.zero_add, ne_eq, not_true_eq_false, not_false_eq_true, Nat.succ_ne_self, Nat.zero_ne_one, Nat.one_ne_zero, decide_true, decide_false, Bool.false_eq_true, and_true, true_and, and_self, and_false, false_and, nI_clamp, hw, e1, lawV]
    rw [rn_any hk (gA w 1) (fun _ => nI 0) len (Nat.le_refl _) 0 (tp_pos hk)]
  · intro k rec _ hkl
    show f_X4_value_6s fu rec (fa 0) (fa 1) (fa th) (nI (tp op fr k)) (nI k) (sAf w 1 (rn op arg fa fr (gA w 1) k)) = rec (nI (tp op fr (k + 1))) (nI (k + 1)) (sAf w 1 (rn op arg fa fr (gA w 1) (k + 1)))
    simp only [rn, tp]
    have ht := tp_le hk k (by omega)
    rcases hcs k hkl with ⟨o, x, c, c1, c2⟩ | ⟨o, hx⟩ | ⟨o, x⟩ | ⟨k1, m, o, x, hkm⟩
    · have q : tp op fr k < 32 := by
        rcases hs k hkl with ⟨_, q⟩ | ⟨_, _, q⟩ | ⟨e, _⟩ | ⟨o', o1, o2, e, _⟩
        · exact q
        · exact q
        · rw [o, nI_eq (by omega) (by omega)] at e; omega
        · rw [o, nI_eq (by omega) (by omega)] at e; omega
      rw [x4_push hw h1 hkl rec _ (y := arg (fr + k)) x (by rw [c2]; exact nI_nlem (by omega) (by omega) (by omega)) (by
        rw [c2]
        have d1 : ¬ nI c = mI 3 := nI_nem (by omega) (by omega) (by omega)
        have d2 : ¬ nI c = mI 2 := nI_nem (by omega) (by omega) (by omega)
        have d3 : ¬ nI c = mI 1 := nI_nem (by omega) (by omega) (by omega)
        simp only [f_X4_operand_0, f_X4_operand, ↓lm_1, ↓lm_2, ↓lm_3, ↓lm_4, ↓lm_5, ↓lm_6, ↓lm_7, ↓lm_8, ↓lm_9, ↓lm_10, ↓lm_11, li_0, li_1, li_2, li_3, li_4, li_5, li_6, li_7, li_8, li_9, li_10, li_11, li_12, li_13, li_14, li_15, li_16, li_17, li_18, li_19, li_20, li_21, li_22, li_23, li_24, li_25, li_26, li_27, li_28, li_29, li_30, li_31, li_32, li_33, li_34, li_35, li_36, li_37, li_38, li_39, li_40, li_41, li_42, li_43, li_44, li_45, li_46, li_47, li_48, li_49, li_50, li_51, li_52, li_53, li_54, li_55, li_56, li_57, li_58, li_59, li_60, li_61, li_62, li_63, li_64, li_65, li_66, li_96, li_97, li_99, li_100, li_122, li_125, li_126, li_140, li_255, li_256, li_999, li_1000, li_1001, li_1002, li_1100, li_1386, li_1452, li_1518, li_9999, li_1000000, d1, d2, d3, ↓reduceIte]) q, if_pos (Or.inl o), if_pos o]
    · have o1 : ¬ op (fr + k) = nI 1 := by rw [o, nI_eq (by omega) (by omega)]; omega
      have q : tp op fr k < 32 := by
        rcases hs k hkl with ⟨_, q⟩ | ⟨_, _, q⟩ | ⟨e, _⟩ | ⟨o', o1, o2, e, _⟩
        · exact q
        · exact q
        · rw [o, nI_eq (by omega) (by omega)] at e; omega
        · rw [o, nI_eq (by omega) (by omega)] at e; omega
      have m1 : ¬ mI 1 ≤ mI 4 := by decide
      have m2 : ¬ mI 2 ≤ mI 4 := by decide
      have m3 : ¬ mI 3 ≤ mI 4 := by decide
      rw [if_pos (Or.inr o), if_neg o1, if_pos o]
      rcases hx with ⟨ea, x⟩ | ⟨ea, x⟩ | ⟨ea, x⟩
      · rw [x4_push hw h1 hkl rec _ (y := fa 0) x m1 (by simp (disch := omega) only [f_X4_operand_0, f_X4_operand, ↓lm_1, ↓lm_2, ↓lm_3, ↓lm_4, ↓lm_5, ↓lm_6, ↓lm_7, ↓lm_8, ↓lm_9, ↓lm_10, ↓lm_11, li_0, li_1, li_2, li_3, li_4, li_5, li_6, li_7, li_8, li_9, li_10, li_11, li_12, li_13, li_14, li_15, li_16, li_17, li_18, li_19, li_20, li_21, li_22, li_23, li_24, li_25, li_26, li_27, li_28, li_29, li_30, li_31, li_32, li_33, li_34, li_35, li_36, li_37, li_38, li_39, li_40, li_41, li_42, li_43, li_44, li_45, li_46, li_47, li_48, li_49, li_50, li_51, li_52, li_53, li_54, li_55, li_56, li_57, li_58, li_59, li_60, li_61, li_62, li_63, li_64, li_65, li_66, li_96, li_97, li_99, li_100, li_122, li_125, li_126, li_140, li_255, li_256, li_999, li_1000, li_1001, li_1002, li_1100, li_1386, li_1452, li_1518, li_9999, li_1000000, mI_eq, ↓reduceIte, Nat.reduceEqDiff, Nat.reduceAdd, Nat.reduceSub, Nat.reduceMul, Nat.reduceLT, Nat.reduceLeDiff, reduceCtorEq, Nat.add_zero, Nat.zero_add, ne_eq, not_true_eq_false, not_false_eq_true, Nat.succ_ne_self, Nat.zero_ne_one, Nat.one_ne_zero, decide_true, decide_false, Bool.false_eq_true, and_true, true_and, and_self, and_false, false_and]) q, ea, nI_clamp (by omega)]
      · rw [x4_push hw h1 hkl rec _ (y := fa 1) x m2 (by simp (disch := omega) only [f_X4_operand_0, f_X4_operand, ↓lm_1, ↓lm_2, ↓lm_3, ↓lm_4, ↓lm_5, ↓lm_6, ↓lm_7, ↓lm_8, ↓lm_9, ↓lm_10, ↓lm_11, li_0, li_1, li_2, li_3, li_4, li_5, li_6, li_7, li_8, li_9, li_10, li_11, li_12, li_13, li_14, li_15, li_16, li_17, li_18, li_19, li_20, li_21, li_22, li_23, li_24, li_25, li_26, li_27, li_28, li_29, li_30, li_31, li_32, li_33, li_34, li_35, li_36, li_37, li_38, li_39, li_40, li_41, li_42, li_43, li_44, li_45, li_46, li_47, li_48, li_49, li_50, li_51, li_52, li_53, li_54, li_55, li_56, li_57, li_58, li_59, li_60, li_61, li_62, li_63, li_64, li_65, li_66, li_96, li_97, li_99, li_100, li_122, li_125, li_126, li_140, li_255, li_256, li_999, li_1000, li_1001, li_1002, li_1100, li_1386, li_1452, li_1518, li_9999, li_1000000, mI_eq, ↓reduceIte, Nat.reduceEqDiff, Nat.reduceAdd, Nat.reduceSub, Nat.reduceMul, Nat.reduceLT, Nat.reduceLeDiff, reduceCtorEq, Nat.add_zero, Nat.zero_add, ne_eq, not_true_eq_false, not_false_eq_true, Nat.succ_ne_self, Nat.zero_ne_one, Nat.one_ne_zero, decide_true, decide_false, Bool.false_eq_true, and_true, true_and, and_self, and_false, false_and]) q, ea, nI_clamp (by omega)]
      · rw [x4_push hw h1 hkl rec _ (y := fa th) x m3 (by simp (disch := omega) only [f_X4_operand_0, f_X4_operand, ↓lm_1, ↓lm_2, ↓lm_3, ↓lm_4, ↓lm_5, ↓lm_6, ↓lm_7, ↓lm_8, ↓lm_9, ↓lm_10, ↓lm_11, li_0, li_1, li_2, li_3, li_4, li_5, li_6, li_7, li_8, li_9, li_10, li_11, li_12, li_13, li_14, li_15, li_16, li_17, li_18, li_19, li_20, li_21, li_22, li_23, li_24, li_25, li_26, li_27, li_28, li_29, li_30, li_31, li_32, li_33, li_34, li_35, li_36, li_37, li_38, li_39, li_40, li_41, li_42, li_43, li_44, li_45, li_46, li_47, li_48, li_49, li_50, li_51, li_52, li_53, li_54, li_55, li_56, li_57, li_58, li_59, li_60, li_61, li_62, li_63, li_64, li_65, li_66, li_96, li_97, li_99, li_100, li_122, li_125, li_126, li_140, li_255, li_256, li_999, li_1000, li_1001, li_1002, li_1100, li_1386, li_1452, li_1518, li_9999, li_1000000, mI_eq, ↓reduceIte, Nat.reduceEqDiff, Nat.reduceAdd, Nat.reduceSub, Nat.reduceMul, Nat.reduceLT, Nat.reduceLeDiff, reduceCtorEq, Nat.add_zero, Nat.zero_add, ne_eq, not_true_eq_false, not_false_eq_true, Nat.succ_ne_self, Nat.zero_ne_one, Nat.one_ne_zero, decide_true, decide_false, Bool.false_eq_true, and_true, true_and, and_self, and_false, false_and]) q, ea, nI_clamp (by omega)]
    · have o1 : ¬ op (fr + k) = nI 1 := by rw [o, nI_eq (by omega) (by omega)]; omega
      have o2 : ¬ op (fr + k) = nI 2 := by rw [o, nI_eq (by omega) (by omega)]; omega
      have o12 : ¬ (op (fr + k) = nI 1 ∨ op (fr + k) = nI 2) := fun c => c.elim o1 o2
      have q : 1 ≤ tp op fr k := by
        rcases hs k hkl with ⟨e, _⟩ | ⟨e, _⟩ | ⟨_, q⟩ | ⟨o', o1, o2, e, q⟩
        · exact absurd e o1
        · exact absurd e o2
        · exact q
        · omega
      rw [x4_not hw h1 hkl rec _ x q ht, if_neg o12, if_pos o, if_neg o1, if_neg o2, if_pos o]
    · have o1 : ¬ op (fr + k) = nI 1 := by rw [o, nI_eq (by omega) (by omega)]; omega
      have o2 : ¬ op (fr + k) = nI 2 := by rw [o, nI_eq (by omega) (by omega)]; omega
      have o3 : ¬ op (fr + k) = nI 3 := by rw [o, nI_eq (by omega) (by omega)]; omega
      have o12 : ¬ (op (fr + k) = nI 1 ∨ op (fr + k) = nI 2) := fun c => c.elim o1 o2
      have q : 2 ≤ tp op fr k := by
        rcases hs k hkl with ⟨e, _⟩ | ⟨e, _⟩ | ⟨e, q⟩ | ⟨o', _, _, e, q⟩
        · exact absurd e o1
        · exact absurd e o2
        · exact absurd e o3
        · exact q
      rw [x4_bin hw h1 hkl rec _ x hkm q ht, if_neg o12, if_neg o3, if_neg o1, if_neg o2, if_neg o3, o]
end L2
