/-! ===== tree: class and model go through all rows ===== -/
theorem bs_mono (x : Nat) {a b : Nat} (h : a ≤ b) : bs x a ≤ bs x b := by
  obtain ⟨k, rfl⟩ : ∃ k, b = a + k := ⟨b - a, by omega⟩
  rw [bs_add]; omega
/-- the members, by their places -/
def mmr (X : Nat) : Nat → Nat → Nat
  | 0 => fun _ => 0
  | j + 1 => if bt X j = 1 then upN (mmr X j) (bs X j) j else mmr X j
theorem mmr_lt (X : Nat) : ∀ j i, i < bs X j → mmr X j i < j := by
  intro j
  induction j with
  | zero => intro i h; simp only [bs] at h; omega
  | succ j ih =>
    intro i h
    simp only [bs] at h
    simp only [mmr]
    by_cases c : bt X j = 1
    · rw [if_pos c]
      by_cases e : i = bs X j
      · rw [e, upN_s]; omega
      · rw [upN_n e]; have := ih i (by omega); omega
    · have := bt_lt X j
      rw [if_neg c]; have := ih i (by omega); omega
theorem bt_hi {X n k : Nat} (h : X < 2 ^ n) (hk : n ≤ k) : bt X k = 0 := by
  rw [bt_0]
  exact Nat.testBit_lt_two_pow (Nat.lt_of_lt_of_le h (Nat.pow_le_pow_right (by decide) hk))
theorem mmr_hi {X n : Nat} (h : X < 2 ^ n) : ∀ k, mmr X (n + k) = mmr X n ∧ bs X (n + k) = bs X n := by
  intro k
  induction k with
  | zero => exact ⟨rfl, rfl⟩
  | succ k ih =>
    have e := bt_hi h (show n ≤ n + k by omega)
    refine ⟨?_, ?_⟩
    · show (if bt X (n + k) = 1 then upN (mmr X (n + k)) (bs X (n + k)) (n + k) else mmr X (n + k)) = _
      rw [if_neg (by omega)]; exact ih.1
    · show bs X (n + k) + bt X (n + k) = _
      rw [e]; exact ih.2
/-! what leads back, in the class -/
theorem itk_s {row : Nat → Nat} {k : Nat} : ∀ i e, itk row k (i + 1) e = (if 0 < itk row k i e ∧ itk row k i e < k then row (itk row k i e) else itk row k i e) := by
  intro i
  induction i with
  | zero =>
    intro e
    by_cases h : 0 < e ∧ e < k
    · rw [itk_in h]; exact (if_pos h).symm
    · rw [itk_out h, itk_out h, if_neg h]
  | succ i ih =>
    intro e
    by_cases h : 0 < e ∧ e < k
    · rw [itk_in h, ih, itk_in h]
    · rw [itk_out h, itk_out h, if_neg h]
theorem itk_lt {row : Nat → Nat} {k : Nat} (hr : ∀ j, 1 ≤ j → j < k → row j < 6) : ∀ i e, e < 6 → itk row k i e < 6 := by
  intro i
  induction i with
  | zero => intro e h; exact h
  | succ i ih =>
    intro e h
    by_cases c : 0 < e ∧ e < k
    · rw [itk_in c]; exact ih _ (hr e c.1 c.2)
    · rw [itk_out c]; exact h
theorem x9_leadsBack {fu k e : Nat} {w : GV} {row : Nat → Nat} (hf : 1101 ≤ fu) (hk : k < 6) (he : e < 6) (hr : ∀ j, 1 ≤ j → j < k → row j < 6) (hw : ∀ j, 1 ≤ j → j < k → gA w 1 j = nI (row j)) : f_X9_leadsBack fu w (nI e) (nI k) = some (b01 (lbk row e k)) := by
  have fin : ∀ (x : Nat), x < 6 → (if nI x = nI k then some (nI 1) else some (nI 0)) = some (b01 (Nat.beq x k)) := by
    intro x hx
    rw [nbeq]
    by_cases c : x = k
    · rw [if_pos (by rw [c]), decide_eq_true c]; rfl
    · rw [if_neg (by rw [nI_eq (by omega) (by omega)]; exact c), decide_eq_false c]; rfl
  have key := lpI2 (fun k5 => f_X9_leadsBack_5s fu k5 w (nI k)) (fun i x y => x = nI (itk row k i e) ∧ y = nI i) (fun r => r = some (b01 (lbk row e k))) 6 ?_ ?_ fu 0 (nI e) (nI 0) ⟨rfl, rfl⟩ (by omega) (by omega)
  · obtain ⟨r, hr', e2⟩ := key
    rw [← hr', ← e2]
    simp only [f_X9_leadsBack, f_X9_leadsBack_0, f_X9_leadsBack_5, ↓lm_1, ↓lm_2, ↓lm_3, ↓lm_4, ↓lm_5, ↓lm_6, ↓lm_7, ↓lm_8, ↓lm_9, ↓lm_10, ↓lm_11, li_0, li_1, li_2, li_3, li_4, li_5, li_6, li_7, li_8, li_9, li_10, li_11, li_12, li_13, li_14, li_15, li_16, li_17, li_18, li_19, li_20, li_21, li_22, li_23, li_24, li_25, li_26, li_27, li_28, li_29, li_30, li_31, li_32, li_33, li_34, li_35, li_36, li_37, li_38, li_39, li_40, li_41, li_42, li_43, li_44, li_45, li_46, li_47, li_48, li_49, li_50, li_51, li_52, li_53, li_54, li_55, li_56, li_57, li_58, li_59, li_60, li_61, li_62, li_63, li_64, li_65, li_66, li_96, li_97, li_99, li_100, li_122, li_125, li_126, li_140, li_255, li_256, li_999, li_1000, li_1001, li_1002, li_1100, li_1386, li_1452, li_1518, li_9999, li_1000000]
  · rintro x y ⟨rfl, rfl⟩
    refine ⟨_, rfl, fun rec => ?_⟩
    have e6 : nI 6 ≤ nI 6 := by decide
    simp only [f_X9_leadsBack_5s, f_X9_leadsBack_34, ↓lm_1, ↓lm_2, ↓lm_3, ↓lm_4, ↓lm_5, ↓lm_6, ↓lm_7, ↓lm_8, ↓lm_9, ↓lm_10, ↓lm_11, li_0, li_1, li_2, li_3, li_4, li_5, li_6, li_7, li_8, li_9, li_10, li_11, li_12, li_13, li_14, li_15, li_16, li_17, li_18, li_19, li_20, li_21, li_22, li_23, li_24, li_25, li_26, li_27, li_28, li_29, li_30, li_31, li_32, li_33, li_34, li_35, li_36, li_37, li_38, li_39, li_40, li_41, li_42, li_43, li_44, li_45, li_46, li_47, li_48, li_49, li_50, li_51, li_52, li_53, li_54, li_55, li_56, li_57, li_58, li_59, li_60, li_61, li_62, li_63, li_64, li_65, li_66, li_96, li_97, li_99, li_100, li_122, li_125, li_126, li_140, li_255, li_256, li_999, li_1000, li_1001, li_1002, li_1100, li_1386, li_1452, li_1518, li_9999, li_1000000, e6, ↓reduceIte]
    exact fin _ (itk_lt hr 6 e he)
  · rintro i x y hi ⟨rfl, rfl⟩
    have l := itk_lt hr i e he
    have e6 : ¬ nI 6 ≤ nI i := nI_ge hi (by omega)
    by_cases c : 0 < itk row k i e ∧ itk row k i e < k
    · refine Or.inl ⟨_, _, ⟨rfl, rfl⟩, fun rec => ?_⟩
      have c1 : ¬ nI (itk row k i e) ≤ nI 0 := nI_ge c.1 (by omega)
      have c2 : ¬ nI k ≤ nI (itk row k i e) := nI_ge c.2 (by omega)
      rw [itk_s, if_pos c]
      simp (disch := omega) only [f_X9_leadsBack_5s, ↓lm_1, ↓lm_2, ↓lm_3, ↓lm_4, ↓lm_5, ↓lm_6, ↓lm_7, ↓lm_8, ↓lm_9, ↓lm_10, ↓lm_11, li_0, li_1, li_2, li_3, li_4, li_5, li_6, li_7, li_8, li_9, li_10, li_11, li_12, li_13, li_14, li_15, li_16, li_17, li_18, li_19, li_20, li_21, li_22, li_23, li_24, li_25, li_26, li_27, li_28, li_29, li_30, li_31, li_32, li_33, li_34, li_35, li_36, li_37, li_38, li_39, li_40, li_41, li_42, li_43, li_44, li_45, li_46, li_47, li_48, li_49, li_50, li_51, li_52, li_53, li_54, li_55, li_56, li_57, li_58, li_59, li_60, li_61, li_62, li_63, li_64, li_65, li_66, li_96, li_97, li_99, li_100, li_122, li_125, li_126, li_140, li_255, li_256, li_999, li_1000, li_1001, li_1002, li_1100, li_1386, li_1452, li_1518, li_9999, li_1000000, e6, c1, c2, ↓reduceIte, inb_n, ck_t, nI_clamp, hw _ c.1 c.2, nm_eq, nI_add]
    · refine Or.inr ⟨_, rfl, fun rec => ?_⟩
      have st : itk row k 6 e = itk row k i e := by
        have : ∀ j, itk row k (i + j) e = itk row k i e := by
          intro j
          induction j with
          | zero => rfl
          | succ j ih => rw [← Nat.add_assoc, itk_s, ih, if_neg c]
        have := this (6 - i)
        rwa [show i + (6 - i) = 6 by omega] at this
      have hfin := fin _ l
      rw [lbk, st]
      simp only [f_X9_leadsBack_5s, f_X9_leadsBack_34, ↓lm_1, ↓lm_2, ↓lm_3, ↓lm_4, ↓lm_5, ↓lm_6, ↓lm_7, ↓lm_8, ↓lm_9, ↓lm_10, ↓lm_11, li_0, li_1, li_2, li_3, li_4, li_5, li_6, li_7, li_8, li_9, li_10, li_11, li_12, li_13, li_14, li_15, li_16, li_17, li_18, li_19, li_20, li_21, li_22, li_23, li_24, li_25, li_26, li_27, li_28, li_29, li_30, li_31, li_32, li_33, li_34, li_35, li_36, li_37, li_38, li_39, li_40, li_41, li_42, li_43, li_44, li_45, li_46, li_47, li_48, li_49, li_50, li_51, li_52, li_53, li_54, li_55, li_56, li_57, li_58, li_59, li_60, li_61, li_62, li_63, li_64, li_65, li_66, li_96, li_97, li_99, li_100, li_122, li_125, li_126, li_140, li_255, li_256, li_999, li_1000, li_1001, li_1002, li_1100, li_1386, li_1452, li_1518, li_9999, li_1000000, e6, ↓reduceIte]
      by_cases c1 : itk row k i e = 0
      · rw [c1] at hfin ⊢
        rw [if_pos (show nI 0 ≤ nI 0 by decide)]; exact hfin
      · rw [if_neg (nI_ge (by omega) (by omega)), if_pos (nI_le (by omega) (by omega))]; exact hfin
/-! the class -/
def lst (s : TS) : Nat := s.1.getD 1000
def TC (w : GV) (n : Nat) (mem : Nat → Nat) (k : Nat) (row : Nat → Nat) (s : TS) : Prop := gC w = 9 ∧ gI w 3 = nI n ∧ (∀ i, i < n → gA w 0 i = nI (mem i)) ∧ (∀ j, 1 ≤ j → j < k → gA w 1 j = nI (row j)) ∧ gI w 4 = nI (lst s) ∧ gI w 5 = nI s.2.1 ∧ (s.1 ≠ none → ∀ j, 1 ≤ j → j < n → gA w 2 j = nI (s.2.2 j))
theorem TC_row {w : GV} {n k k' : Nat} {mem row row' : Nat → Nat} {s : TS} (h : TC w n mem k row s) (hk : k' ≤ k) (hr : ∀ j, 1 ≤ j → j < k' → row' j = row j) : TC w n mem k' row' s := by
  obtain ⟨h1, h2, h3, h4, h5, h6, h7⟩ := h
  exact ⟨h1, h2, h3, fun j j1 j2 => by rw [hr j j1 j2]; exact h4 j j1 (by omega), h5, h6, h7⟩
theorem x9_keep {fu n a : Nat} {S : ST} {w : GV} {mem row : Nat → Nat} {s : TS} {sum : Nat} (h6 : n ≤ 6) (hs : sum < 1000) (hok : okS n s) (h : TC w n mem n row s) (hle : sum ≤ lst s) : ∃ w', f_X9_keep fu (st S a w) a (nI sum) = some (st S a w') ∧ TC w' n mem n row (vis row sum s) := by
  obtain ⟨h1, h2, h3, h4, h5, h5b, h7⟩ := h
  have hl : lst s ≤ 1000 := by
    unfold lst
    cases q : s.1 with
    | none => simp
    | some l => have := (hok l q).1; simp; omega
  by_cases c : lst s ≤ sum
  · -- as few
    have e : sum = lst s := by omega
    obtain ⟨l, hl1⟩ : ∃ l, s.1 = some l := by
      cases q : s.1 with
      | none => simp [lst, q] at e; omega
      | some l => exact ⟨l, rfl⟩
    have el : lst s = l := by simp [lst, hl1]
    refine ⟨sI w 5 (nI (s.2.1 + 1)), ?_, ?_⟩
    · have e1 : nI (lst s) ≤ nI sum := nI_le c (by omega)
      simp only [f_X9_keep, f_X9_keep_0, f_X9_keep_33, ↓lm_1, ↓lm_2, ↓lm_3, ↓lm_4, ↓lm_5, ↓lm_6, ↓lm_7, ↓lm_8, ↓lm_9, ↓lm_10, ↓lm_11, li_0, li_1, li_2, li_3, li_4, li_5, li_6, li_7, li_8, li_9, li_10, li_11, li_12, li_13, li_14, li_15, li_16, li_17, li_18, li_19, li_20, li_21, li_22, li_23, li_24, li_25, li_26, li_27, li_28, li_29, li_30, li_31, li_32, li_33, li_34, li_35, li_36, li_37, li_38, li_39, li_40, li_41, li_42, li_43, li_44, li_45, li_46, li_47, li_48, li_49, li_50, li_51, li_52, li_53, li_54, li_55, li_56, li_57, li_58, li_59, li_60, li_61, li_62, li_63, li_64, li_65, li_66, li_96, li_97, li_99, li_100, li_122, li_125, li_126, li_140, li_255, li_256, li_999, li_1000, li_1001, li_1002, li_1100, li_1386, li_1452, li_1518, li_9999, li_1000000, st_same, h5, e1, ↓reduceIte, h5b, nI_add, nm_eq, st_st]
    · have ev : vis row sum s = (some l, s.2.1 + 1, s.2.2) := by
        simp only [vis, hl1]
        rw [if_neg (by omega), if_neg (by omega)]
      rw [ev]
      refine ⟨h1, by rw [gI_sI, if_neg (by decide)]; exact h2, h3, h4, by rw [gI_sI, if_neg (by decide), h5]; simp [lst, hl1], by rw [gI_sI, if_pos rfl], fun _ => h7 (by rw [hl1]; simp)⟩
  · refine ⟨sI (sAf (sI (sI w 4 (nI sum)) 5 (nI 0)) 2 (va_cpy (gA w 1) (gA w 2) 0 0 6)) 5 (nI (0 + 1)), ?_, ?_⟩
    · have e1 : ¬ nI (lst s) ≤ nI sum := nI_ge (by omega) (by omega)
      simp (disch := omega) only [f_X9_keep, f_X9_keep_0, f_X9_keep_33, ↓lm_1, ↓lm_2, ↓lm_3, ↓lm_4, ↓lm_5, ↓lm_6, ↓lm_7, ↓lm_8, ↓lm_9, ↓lm_10, ↓lm_11, li_0, li_1, li_2, li_3, li_4, li_5, li_6, li_7, li_8, li_9, li_10, li_11, li_12, li_13, li_14, li_15, li_16, li_17, li_18, li_19, li_20, li_21, li_22, li_23, li_24, li_25, li_26, li_27, li_28, li_29, li_30, li_31, li_32, li_33, li_34, li_35, li_36, li_37, li_38, li_39, li_40, li_41, li_42, li_43, li_44, li_45, li_46, li_47, li_48, li_49, li_50, li_51, li_52, li_53, li_54, li_55, li_56, li_57, li_58, li_59, li_60, li_61, li_62, li_63, li_64, li_65, li_66, li_96, li_97, li_99, li_100, li_122, li_125, li_126, li_140, li_255, li_256, li_999, li_1000, li_1001, li_1002, li_1100, li_1386, li_1452, li_1518, li_9999, li_1000000, st_same, h5, e1, ↓reduceIte, nI_add, nm_eq, st_st, nI_clamp, gA_sI, gI_sAf, gI_sI]
    · have ev : vis row sum s = (some sum, 1, row) := by
        unfold vis
        cases q : s.1 with
        | none => rfl
        | some l =>
          have el : lst s = l := by simp [lst, q]
          simp only
          rw [if_neg (by omega), if_pos (by omega)]
      rw [ev]
      refine ⟨h1, ?_, ?_, ?_, ?_, ?_, fun _ j j1 j2 => ?_⟩
      · simp only [gI_sI, gI_sAf, ↓reduceIte, Nat.reduceEqDiff, Nat.reduceAdd, Nat.reduceSub, Nat.reduceMul, Nat.reduceLT, Nat.reduceLeDiff, reduceCtorEq, Nat.add_zero, Nat.zero_add, ne_eq, not_true_eq_false, not_false_eq_true, Nat.succ_ne_self, Nat.zero_ne_one, Nat.one_ne_zero, decide_true, decide_false, Bool.false_eq_true, and_true, true_and, and_self, and_false, false_and]; exact h2
      · intro i hi
        simp (disch := omega) only [gA_sI, gA_sAfn]; exact h3 i hi
      · intro j j1 j2
        simp (disch := omega) only [gA_sI, gA_sAfn]; exact h4 j j1 j2
      · simp only [gI_sI, gI_sAf, ↓reduceIte, Nat.reduceEqDiff, Nat.reduceAdd, Nat.reduceSub, Nat.reduceMul, Nat.reduceLT, Nat.reduceLeDiff, reduceCtorEq, Nat.add_zero, Nat.zero_add, ne_eq, not_true_eq_false, not_false_eq_true, Nat.succ_ne_self, Nat.zero_ne_one, Nat.one_ne_zero, decide_true, decide_false, Bool.false_eq_true, and_true, true_and, and_self, and_false, false_and]; rfl
      · simp only [gI_sI, gI_sAf, ↓reduceIte, Nat.reduceEqDiff, Nat.reduceAdd, Nat.reduceSub, Nat.reduceMul, Nat.reduceLT, Nat.reduceLeDiff, reduceCtorEq, Nat.add_zero, Nat.zero_add, ne_eq, not_true_eq_false, not_false_eq_true, Nat.succ_ne_self, Nat.zero_ne_one, Nat.one_ne_zero, decide_true, decide_false, Bool.false_eq_true, and_true, true_and, and_self, and_false, false_and]
      · simp (disch := omega) only [gA_sI, gA_sAf, pk_cpy_in, Nat.sub_zero, Nat.zero_add]; exact h4 j j1 j2
theorem jD_s (fu d : Nat) : f_X9_joinD fu (d + 1) = f_X9_join fu (f_X9_joinD fu d) := (id rfl)
section C
variable {fu a g n : Nat} {S : ST} {q : HP} {G : GP} {mem : Nat → Nat}
def dq (q : HP) (mem : Nat → Nat) (i j : Nat) : Nat := pcn (qo q (mem i) ^^^ qo q (mem j))
theorem x9_join (hf : 1101 ≤ fu) (hq : okq G q) (hw : CH (S g) q) (hag : g ≠ a) (h1 : 1 ≤ n) (h6 : n ≤ 6) (hmem : ∀ i, i < n → mem i < qn q) : ∀ m k d w row sum (s : TS), k + m = n → 1 ≤ k → m < d → sum ≤ 30 * k → (∀ j, 1 ≤ j → j < k → row j < n ∧ lbk row (row j) j = false) → okS n s → TC w n mem k row s → ∃ w', f_X9_joinD fu d (st S a w) a g (nI k) (nI sum) = some (st S a w') ∧ TC w' n mem k row (enm (dq q mem) n m k row sum s) := by
  intro m
  induction m with
  | zero =>
    intro k d w row sum s hk hk1 hd hsum hrow hok hT
    obtain ⟨d, rfl⟩ : ∃ d', d = d' + 1 := ⟨d - 1, by omega⟩
    have hkn : k = n := by omega
    subst hkn
    have hl : lst s ≤ 1000 := by
      unfold lst
      cases q : s.1 with
      | none => simp
      | some l => have := (hok l q).1; simp; omega
    have e4 := hT.2.2.2.2.1
    have e3 := hT.2.1
    have eT : isT row k = true := by
      rw [isT_noL h1 h6 (fun j j1 j2 => (hrow j j1 j2).1)]
      refine (fr1_iff _).mpr (fun j j1 j2 => ?_)
      rw [(hrow j j1 j2).2]; rfl
    simp only [enm, eT, ↓reduceIte]
    by_cases c : sum ≤ lst s
    · obtain ⟨w', k1, k2⟩ := x9_keep (fu := fu) (S := S) (a := a) (sum := sum) h6 (by omega) hok hT c
      refine ⟨w', ?_, k2⟩
      have c1 : nI sum ≤ nI (lst s) := nI_le c (by omega)
      have c2 : nI k ≤ nI k := nI_le (by omega) (by omega)
      rw [jD_s]
      simp only [f_X9_join, f_X9_join_0, f_X9_join_23, ↓lm_1, ↓lm_2, ↓lm_3, ↓lm_4, ↓lm_5, ↓lm_6, ↓lm_7, ↓lm_8, ↓lm_9, ↓lm_10, ↓lm_11, li_0, li_1, li_2, li_3, li_4, li_5, li_6, li_7, li_8, li_9, li_10, li_11, li_12, li_13, li_14, li_15, li_16, li_17, li_18, li_19, li_20, li_21, li_22, li_23, li_24, li_25, li_26, li_27, li_28, li_29, li_30, li_31, li_32, li_33, li_34, li_35, li_36, li_37, li_38, li_39, li_40, li_41, li_42, li_43, li_44, li_45, li_46, li_47, li_48, li_49, li_50, li_51, li_52, li_53, li_54, li_55, li_56, li_57, li_58, li_59, li_60, li_61, li_62, li_63, li_64, li_65, li_66, li_96, li_97, li_99, li_100, li_122, li_125, li_126, li_140, li_255, li_256, li_999, li_1000, li_1001, li_1002, li_1100, li_1386, li_1452, li_1518, li_9999, li_1000000, st_same, e4, c1, ↓reduceIte, e3, c2, k1, bd_s]
    · refine ⟨w, ?_, ?_⟩
      · have c1 : ¬ nI sum ≤ nI (lst s) := nI_ge (by omega) (by omega)
        rw [jD_s]
        simp only [f_X9_join, f_X9_join_0, ↓lm_1, ↓lm_2, ↓lm_3, ↓lm_4, ↓lm_5, ↓lm_6, ↓lm_7, ↓lm_8, ↓lm_9, ↓lm_10, ↓lm_11, li_0, li_1, li_2, li_3, li_4, li_5, li_6, li_7, li_8, li_9, li_10, li_11, li_12, li_13, li_14, li_15, li_16, li_17, li_18, li_19, li_20, li_21, li_22, li_23, li_24, li_25, li_26, li_27, li_28, li_29, li_30, li_31, li_32, li_33, li_34, li_35, li_36, li_37, li_38, li_39, li_40, li_41, li_42, li_43, li_44, li_45, li_46, li_47, li_48, li_49, li_50, li_51, li_52, li_53, li_54, li_55, li_56, li_57, li_58, li_59, li_60, li_61, li_62, li_63, li_64, li_65, li_66, li_96, li_97, li_99, li_100, li_122, li_125, li_126, li_140, li_255, li_256, li_999, li_1000, li_1001, li_1002, li_1100, li_1386, li_1452, li_1518, li_9999, li_1000000, st_same, e4, c1, ↓reduceIte]
      · obtain ⟨l, hl1⟩ : ∃ l, s.1 = some l := by
          cases q : s.1 with
          | none => simp [lst, q] at c; omega
          | some l => exact ⟨l, rfl⟩
        have el : lst s = l := by simp [lst, hl1]
        have ev : vis row sum s = s := by
          simp only [vis, hl1]
          rw [if_pos (by omega)]
        rw [ev]; exact hT
  | succ m ih =>
    intro k d w row sum s hk hk1 hd hsum hrow hok hT
    obtain ⟨d, rfl⟩ : ∃ d', d = d' + 1 := ⟨d - 1, by omega⟩
    have hl : lst s ≤ 1000 := by
      unfold lst
      cases q : s.1 with
      | none => simp
      | some l => have := (hok l q).1; simp; omega
    have e4 := hT.2.2.2.2.1
    have e3 := hT.2.1
    by_cases c : sum ≤ lst s
    · have c1 : nI sum ≤ nI (lst s) := nI_le c (by omega)
      have c2 : ¬ nI n ≤ nI k := nI_ge (by omega) (by omega)
      have c3 : nI k < nI 6 := nI_lt (by omega) (by omega)
      have h8 := hq.1.2.1
      have key := lpI2 (fun k32 => f_X9_join_32s fu (f_X9_joinD fu d) k32 a g (nI k) (nI sum)) (fun e x S' => x = nI e ∧ ∃ w', S' = st S a w' ∧ okS n (enf (fun e s => if e = k then s else enm (dq q mem) n m (k + 1) (upN row k e) (sum + dq q mem k e) s) e s) ∧ TC w' n mem k row (enf (fun e s => if e = k then s else enm (dq q mem) n m (k + 1) (upN row k e) (sum + dq q mem k e) s) e s)) (fun r => ∃ w', r = some (st S a w') ∧ TC w' n mem k row (enm (dq q mem) n (m + 1) k row sum s)) n ?_ ?_ fu 0 (nI 0) (st S a w) ⟨rfl, w, rfl, hok, hT⟩ (by omega) (by omega)
      · obtain ⟨r, ⟨w', k1, k2⟩, e2⟩ := key
        refine ⟨w', ?_, k2⟩
        rw [← k1, ← e2, jD_s]
        simp only [f_X9_join, f_X9_join_0, f_X9_join_32, ↓lm_1, ↓lm_2, ↓lm_3, ↓lm_4, ↓lm_5, ↓lm_6, ↓lm_7, ↓lm_8, ↓lm_9, ↓lm_10, ↓lm_11, li_0, li_1, li_2, li_3, li_4, li_5, li_6, li_7, li_8, li_9, li_10, li_11, li_12, li_13, li_14, li_15, li_16, li_17, li_18, li_19, li_20, li_21, li_22, li_23, li_24, li_25, li_26, li_27, li_28, li_29, li_30, li_31, li_32, li_33, li_34, li_35, li_36, li_37, li_38, li_39, li_40, li_41, li_42, li_43, li_44, li_45, li_46, li_47, li_48, li_49, li_50, li_51, li_52, li_53, li_54, li_55, li_56, li_57, li_58, li_59, li_60, li_61, li_62, li_63, li_64, li_65, li_66, li_96, li_97, li_99, li_100, li_122, li_125, li_126, li_140, li_255, li_256, li_999, li_1000, li_1001, li_1002, li_1100, li_1386, li_1452, li_1518, li_9999, li_1000000, st_same, e4, c1, ↓reduceIte, e3, c2, c3]
      · rintro x S' ⟨rfl, w', rfl, ok', hT'⟩
        refine ⟨_, ⟨w', rfl, hT'⟩, fun rec => ?_⟩
        have e3' := hT'.2.1
        simp (disch := omega) only [f_X9_join_32s, st_same, e3', nI_leI, Nat.le_refl, ↓reduceIte]
      · rintro e x S' he ⟨rfl, w', rfl, ok', hT'⟩
        generalize hs' : enf (fun e s => if e = k then s else enm (dq q mem) n m (k + 1) (upN row k e) (sum + dq q mem k e) s) e s = s' at *
        have e3' := hT'.2.1
        have hle : ¬ nI n ≤ nI e := nI_ge he (by omega)
        have lb := x9_leadsBack (fu := fu) (k := k) (e := e) (w := w') (row := row) hf (by omega) (by omega) (fun j j1 j2 => by have := (hrow j j1 j2).1; omega) hT'.2.2.2.1
        have enx : enf (fun e s => if e = k then s else enm (dq q mem) n m (k + 1) (upN row k e) (sum + dq q mem k e) s) (e + 1) s = (if e = k then s' else enm (dq q mem) n m (k + 1) (upN row k e) (sum + dq q mem k e) s') := by
          rw [enf, hs']
        have lbu : lbk (upN row k e) e k = lbk row e k := lbk_congr (fun j j1 j2 => upN_n (by omega)) e
        cases hb : lbk row e k with
        | true =>
          rw [hb] at lb
          have es : (if e = k then s' else enm (dq q mem) n m (k + 1) (upN row k e) (sum + dq q mem k e) s') = s' := by
            split
            · rfl
            · refine enm_cyc h6 m (k + 1) _ _ s' (by omega) h1 (fun j j1 j2 => ?_) ⟨k, hk1, by omega, ?_⟩
              · by_cases qj : j = k
                · rw [qj, upN_s]; exact he
                · rw [upN_n qj]; exact (hrow j j1 (by omega)).1
              · rw [upN_s, lbu, hb]
          refine Or.inl ⟨nI (e + 1), _, ⟨rfl, w', rfl, ?_, ?_⟩, fun rec => ?_⟩
          · rw [enx, es]; exact ok'
          · rw [enx, es]; exact hT'
          · simp only [f_X9_join_32s, f_X9_join_86, ↓lm_1, ↓lm_2, ↓lm_3, ↓lm_4, ↓lm_5, ↓lm_6, ↓lm_7, ↓lm_8, ↓lm_9, ↓lm_10, ↓lm_11, li_0, li_1, li_2, li_3, li_4, li_5, li_6, li_7, li_8, li_9, li_10, li_11, li_12, li_13, li_14, li_15, li_16, li_17, li_18, li_19, li_20, li_21, li_22, li_23, li_24, li_25, li_26, li_27, li_28, li_29, li_30, li_31, li_32, li_33, li_34, li_35, li_36, li_37, li_38, li_39, li_40, li_41, li_42, li_43, li_44, li_45, li_46, li_47, li_48, li_49, li_50, li_51, li_52, li_53, li_54, li_55, li_56, li_57, li_58, li_59, li_60, li_61, li_62, li_63, li_64, li_65, li_66, li_96, li_97, li_99, li_100, li_122, li_125, li_126, li_140, li_255, li_256, li_999, li_1000, li_1001, li_1002, li_1100, li_1386, li_1452, li_1518, li_9999, li_1000000, st_same, e3', hle, ↓reduceIte, lb, bd_s, b01_t, n10, nm_eq, nI_add]
        | false =>
          rw [hb] at lb
          have hek : e ≠ k := by
            rintro rfl
            rw [lbk, itk_out (by omega), nbeq, decide_eq_true rfl] at hb
            exact absurd hb (by decide)
          have hT2 : TC (sA w' 1 k (nI e)) n mem (k + 1) (upN row k e) s' := by
            obtain ⟨t1, t2, t3, t4, t5, t6, t7⟩ := hT'
            refine ⟨t1, t2, fun i hi => by rw [gA_sAn _ _ _ (by decide)]; exact t3 i hi, fun j j1 j2 => ?_, t5, t6, fun hn j j1 j2 => by rw [gA_sAn _ _ _ (by decide)]; exact t7 hn j j1 j2⟩
            rw [gA_sA]
            by_cases qj : j = k
            · rw [if_pos qj, qj, upN_s]
            · rw [if_neg qj, upN_n qj]; exact t4 j j1 (by omega)
          have dle : dq q mem k e ≤ 30 := pcn30 _
          obtain ⟨w2, k1, k2⟩ := ih (k + 1) d (sA w' 1 k (nI e)) (upN row k e) (sum + dq q mem k e) s' (by omega) (by omega) (by omega) (by omega) (fun j j1 j2 => by
            by_cases qj : j = k
            · rw [qj, upN_s, lbu]; exact ⟨he, hb⟩
            · rw [upN_n qj]
              refine ⟨(hrow j j1 (by omega)).1, ?_⟩
              rw [← (hrow j j1 (by omega)).2]
              exact lbk_congr (fun i i1 i2 => upN_n (by omega)) _) ok' hT2
          have ok2 : okS n (enm (dq q mem) n m (k + 1) (upN row k e) (sum + dq q mem k e) s') := enm_ok (fun i j => pcn30 _) m (k + 1) _ _ s' (by omega) h6 (by omega) (fun j j1 j2 => by
            by_cases qj : j = k
            · rw [qj, upN_s]; exact he
            · rw [upN_n qj]; exact (hrow j j1 (by omega)).1) ok'
          refine Or.inl ⟨nI (e + 1), st S a w2, ⟨rfl, w2, rfl, ?_, ?_⟩, fun rec => ?_⟩
          · rw [enx, if_neg hek]; exact ok2
          · rw [enx, if_neg hek]; exact TC_row k2 (by omega) (fun j j1 j2 => (upN_n (by omega)).symm)
          · have m1 : gA (sA w' 1 k (nI e)) 0 k = nI (mem k) := hT2.2.2.1 k (by omega)
            have m2 : gA (sA w' 1 k (nI e)) 0 e = nI (mem e) := hT2.2.2.1 e he
            have ap := x3_apart (fu := fu) hw hq (hmem k (by omega)) (hmem e he)
            have ap' : f_X3_apart fu (S g) (nI (mem k)) (nI (mem e)) = some (nI (dq q mem k e)) := ap
            simp (disch := omega) only [f_X9_join_32s, f_X9_join_86, ↓lm_1, ↓lm_2, ↓lm_3, ↓lm_4, ↓lm_5, ↓lm_6, ↓lm_7, ↓lm_8, ↓lm_9, ↓lm_10, ↓lm_11, li_0, li_1, li_2, li_3, li_4, li_5, li_6, li_7, li_8, li_9, li_10, li_11, li_12, li_13, li_14, li_15, li_16, li_17, li_18, li_19, li_20, li_21, li_22, li_23, li_24, li_25, li_26, li_27, li_28, li_29, li_30, li_31, li_32, li_33, li_34, li_35, li_36, li_37, li_38, li_39, li_40, li_41, li_42, li_43, li_44, li_45, li_46, li_47, li_48, li_49, li_50, li_51, li_52, li_53, li_54, li_55, li_56, li_57, li_58, li_59, li_60, li_61, li_62, li_63, li_64, li_65, li_66, li_96, li_97, li_99, li_100, li_122, li_125, li_126, li_140, li_255, li_256, li_999, li_1000, li_1001, li_1002, li_1100, li_1386, li_1452, li_1518, li_9999, li_1000000, st_same, e3', hle, ↓reduceIte, lb, bd_s, b01_f, inb_n, ck_t, nI_clamp, nm_eq, st_st, st_ne, m1, m2, ap', nI_add, k1]
    · refine ⟨w, ?_, ?_⟩
      · have c1 : ¬ nI sum ≤ nI (lst s) := nI_ge (by omega) (by omega)
        rw [jD_s]
        simp only [f_X9_join, f_X9_join_0, ↓lm_1, ↓lm_2, ↓lm_3, ↓lm_4, ↓lm_5, ↓lm_6, ↓lm_7, ↓lm_8, ↓lm_9, ↓lm_10, ↓lm_11, li_0, li_1, li_2, li_3, li_4, li_5, li_6, li_7, li_8, li_9, li_10, li_11, li_12, li_13, li_14, li_15, li_16, li_17, li_18, li_19, li_20, li_21, li_22, li_23, li_24, li_25, li_26, li_27, li_28, li_29, li_30, li_31, li_32, li_33, li_34, li_35, li_36, li_37, li_38, li_39, li_40, li_41, li_42, li_43, li_44, li_45, li_46, li_47, li_48, li_49, li_50, li_51, li_52, li_53, li_54, li_55, li_56, li_57, li_58, li_59, li_60, li_61, li_62, li_63, li_64, li_65, li_66, li_96, li_97, li_99, li_100, li_122, li_125, li_126, li_140, li_255, li_256, li_999, li_1000, li_1001, li_1002, li_1100, li_1386, li_1452, li_1518, li_9999, li_1000000, st_same, e4, c1, ↓reduceIte]
      · obtain ⟨l, hl1⟩ : ∃ l, s.1 = some l := by
          cases q : s.1 with
          | none => simp [lst, q] at c; omega
          | some l => exact ⟨l, rfl⟩
        have el : lst s = l := by simp [lst, hl1]
        rw [enm_prune (m + 1) k row sum s l hl1 (by omega)]; exact hT
/-- all trees of the set X -/
def trX (q : HP) (X : Nat) : TS := enm (dq q (mmr X 8)) (bs X 8) (bs X 8 - 1) 1 (fun _ => 0) 0 (none, 0, fun _ => 0)
theorem x9_grow (hf : 1101 ≤ fu) (hq : okq G q) (hw : CH (S g) q) (hag : g ≠ a) (hc : gC (S a) = 9) {X : Nat} (hX : X < 2 ^ qn q) (h1 : 1 ≤ bs X 8) (h6 : bs X 8 ≤ 6) : ∃ w', f_X9_grow fu S a g (nI X) = some (st S a w') ∧ TC w' (bs X 8) (mmr X 8) 1 (fun _ => 0) (trX q X) := by
  have h8 := hq.1.2.1
  have h256 : 2 ^ qn q ≤ 256 := Nat.pow_le_pow_right (n := 2) (by decide) h8
  have e8 := mmr_hi hX (8 - qn q)
  rw [show qn q + (8 - qn q) = 8 by omega] at e8
  have key := lpI2 (fun k7 => f_X9_grow_7s fu k7 a g (nI X)) (fun j x S' => x = nI j ∧ ∃ w', S' = st S a w' ∧ gC w' = 9 ∧ gI w' 3 = nI (bs X j) ∧ ∀ i, i < bs X j → gA w' 0 i = nI (mmr X j i)) (fun r => ∃ w', r = some (st S a w') ∧ TC w' (bs X 8) (mmr X 8) 1 (fun _ => 0) (trX q X)) (qn q) ?_ ?_ fu 0 (nI 0) (st S a (sI (S a) 3 (nI 0))) ⟨rfl, _, rfl, hc, by rw [gI_sI, if_pos rfl]; rfl, fun i hi => by simp only [bs] at hi; omega⟩ (by omega) (by omega)
  · obtain ⟨r, ⟨w', k1, k2⟩, e2⟩ := key
    refine ⟨w', ?_, k2⟩
    rw [← k1, ← e2]
    simp only [f_X9_grow, f_X9_grow_0, f_X9_grow_7, ↓lm_1, ↓lm_2, ↓lm_3, ↓lm_4, ↓lm_5, ↓lm_6, ↓lm_7, ↓lm_8, ↓lm_9, ↓lm_10, ↓lm_11, li_0, li_1, li_2, li_3, li_4, li_5, li_6, li_7, li_8, li_9, li_10, li_11, li_12, li_13, li_14, li_15, li_16, li_17, li_18, li_19, li_20, li_21, li_22, li_23, li_24, li_25, li_26, li_27, li_28, li_29, li_30, li_31, li_32, li_33, li_34, li_35, li_36, li_37, li_38, li_39, li_40, li_41, li_42, li_43, li_44, li_45, li_46, li_47, li_48, li_49, li_50, li_51, li_52, li_53, li_54, li_55, li_56, li_57, li_58, li_59, li_60, li_61, li_62, li_63, li_64, li_65, li_66, li_96, li_97, li_99, li_100, li_122, li_125, li_126, li_140, li_255, li_256, li_999, li_1000, li_1001, li_1002, li_1100, li_1386, li_1452, li_1518, li_9999, li_1000000, nm_eq]
  · rintro x S' ⟨rfl, w', rfl, t1, t2, t3⟩
    rw [← e8.2] at t2 t3
    rw [← e8.1] at t3
    have hT : TC (sI (sI w' 4 (nI 1000)) 5 (nI 0)) (bs X 8) (mmr X 8) 1 (fun _ => 0) (none, 0, fun _ => 0) := by
      refine ⟨t1, ?_, t3, fun j j1 j2 => by omega, ?_, ?_, fun hn => absurd rfl hn⟩
      · simp only [gI_sI, ↓reduceIte, Nat.reduceEqDiff, Nat.reduceAdd, Nat.reduceSub, Nat.reduceMul, Nat.reduceLT, Nat.reduceLeDiff, reduceCtorEq, Nat.add_zero, Nat.zero_add, ne_eq, not_true_eq_false, not_false_eq_true, Nat.succ_ne_self, Nat.zero_ne_one, Nat.one_ne_zero, decide_true, decide_false, Bool.false_eq_true, and_true, true_and, and_self, and_false, false_and]; exact t2
      · simp only [gI_sI, ↓reduceIte, Nat.reduceEqDiff, Nat.reduceAdd, Nat.reduceSub, Nat.reduceMul, Nat.reduceLT, Nat.reduceLeDiff, reduceCtorEq, Nat.add_zero, Nat.zero_add, ne_eq, not_true_eq_false, not_false_eq_true, Nat.succ_ne_self, Nat.zero_ne_one, Nat.one_ne_zero, decide_true, decide_false, Bool.false_eq_true, and_true, true_and, and_self, and_false, false_and]; rfl
      · simp only [gI_sI, ↓reduceIte, Nat.reduceEqDiff, Nat.reduceAdd, Nat.reduceSub, Nat.reduceMul, Nat.reduceLT, Nat.reduceLeDiff, reduceCtorEq, Nat.add_zero, Nat.zero_add, ne_eq, not_true_eq_false, not_false_eq_true, Nat.succ_ne_self, Nat.zero_ne_one, Nat.one_ne_zero, decide_true, decide_false, Bool.false_eq_true, and_true, true_and, and_self, and_false, false_and]
    obtain ⟨w2, k1, k2⟩ := x9_join (fu := fu) (S := S) (a := a) (g := g) (mem := mmr X 8) hf hq hw hag h1 h6 (fun i hi => by rw [e8.1]; exact mmr_lt X (qn q) i (by rw [← e8.2]; exact hi)) (bs X 8 - 1) 1 8 _ (fun _ => 0) 0 (none, 0, fun _ => 0) (by omega) (by omega) (by omega) (by omega) (fun j j1 j2 => by omega) (fun l hl => by cases hl) hT
    refine ⟨_, ⟨w2, rfl, k2⟩, fun rec => ?_⟩
    have eg : gI (S g) 7 = nI (qn q) := hw.2.2.1
    simp (disch := omega) only [f_X9_grow_7s, ↓lm_1, ↓lm_2, ↓lm_3, ↓lm_4, ↓lm_5, ↓lm_6, ↓lm_7, ↓lm_8, ↓lm_9, ↓lm_10, ↓lm_11, li_0, li_1, li_2, li_3, li_4, li_5, li_6, li_7, li_8, li_9, li_10, li_11, li_12, li_13, li_14, li_15, li_16, li_17, li_18, li_19, li_20, li_21, li_22, li_23, li_24, li_25, li_26, li_27, li_28, li_29, li_30, li_31, li_32, li_33, li_34, li_35, li_36, li_37, li_38, li_39, li_40, li_41, li_42, li_43, li_44, li_45, li_46, li_47, li_48, li_49, li_50, li_51, li_52, li_53, li_54, li_55, li_56, li_57, li_58, li_59, li_60, li_61, li_62, li_63, li_64, li_65, li_66, li_96, li_97, li_99, li_100, li_122, li_125, li_126, li_140, li_255, li_256, li_999, li_1000, li_1001, li_1002, li_1100, li_1386, li_1452, li_1518, li_9999, li_1000000, st_ne, eg, nI_leI, Nat.le_refl, ↓reduceIte, nm_eq, st_same, st_st, k1, bd_s]
  · rintro j x S' hj ⟨rfl, w', rfl, t1, t2, t3⟩
    have eg : gI (S g) 7 = nI (qn q) := hw.2.2.1
    have hle : ¬ nI (qn q) ≤ nI j := nI_ge hj (by omega)
    have hb := bt_lt X j
    by_cases c : bt X j = 1
    · have hm : bs X (j + 1) ≤ bs X 8 := bs_mono X (by omega)
      have hs : bs X (j + 1) = bs X j + bt X j := rfl
      have c6 : ¬ nI 6 ≤ nI (bs X j) := nI_ge (by omega) (by omega)
      refine Or.inl ⟨nI (j + 1), st S a (sI (sA w' 0 (bs X j) (nI j)) 3 (nI (bs X j + 1))), ⟨rfl, _, rfl, t1, ?_, fun i hi => ?_⟩, fun rec => ?_⟩
      · rw [gI_sI, if_pos rfl, hs, c]
      · rw [gA_sI, gA_sA]
        simp only [mmr, if_pos c]
        by_cases qi : i = bs X j
        · rw [if_pos qi, qi, upN_s]
        · rw [if_neg qi, upN_n qi]; exact t3 i (by omega)
      · simp (disch := omega) only [f_X9_grow_7s, f_X9_grow_52, ↓lm_1, ↓lm_2, ↓lm_3, ↓lm_4, ↓lm_5, ↓lm_6, ↓lm_7, ↓lm_8, ↓lm_9, ↓lm_10, ↓lm_11, li_0, li_1, li_2, li_3, li_4, li_5, li_6, li_7, li_8, li_9, li_10, li_11, li_12, li_13, li_14, li_15, li_16, li_17, li_18, li_19, li_20, li_21, li_22, li_23, li_24, li_25, li_26, li_27, li_28, li_29, li_30, li_31, li_32, li_33, li_34, li_35, li_36, li_37, li_38, li_39, li_40, li_41, li_42, li_43, li_44, li_45, li_46, li_47, li_48, li_49, li_50, li_51, li_52, li_53, li_54, li_55, li_56, li_57, li_58, li_59, li_60, li_61, li_62, li_63, li_64, li_65, li_66, li_96, li_97, li_99, li_100, li_122, li_125, li_126, li_140, li_255, li_256, li_999, li_1000, li_1001, li_1002, li_1100, li_1386, li_1452, li_1518, li_9999, li_1000000, st_ne, eg, hle, ↓reduceIte, nI_and31, nI_bt, c, n10, st_same, t2, c6, inb_n, ck_t, nI_clamp, nm_eq, st_st, gI_sA, nI_add]
    · have c0 : bt X j = 0 := by omega
      have hs : bs X (j + 1) = bs X j + bt X j := rfl
      refine Or.inl ⟨nI (j + 1), _, ⟨rfl, w', rfl, t1, by rw [hs, c0]; exact t2, fun i hi => ?_⟩, fun rec => ?_⟩
      · simp only [mmr, if_neg c]; exact t3 i (by omega)
      · simp (disch := omega) only [f_X9_grow_7s, f_X9_grow_52, ↓lm_1, ↓lm_2, ↓lm_3, ↓lm_4, ↓lm_5, ↓lm_6, ↓lm_7, ↓lm_8, ↓lm_9, ↓lm_10, ↓lm_11, li_0, li_1, li_2, li_3, li_4, li_5, li_6, li_7, li_8, li_9, li_10, li_11, li_12, li_13, li_14, li_15, li_16, li_17, li_18, li_19, li_20, li_21, li_22, li_23, li_24, li_25, li_26, li_27, li_28, li_29, li_30, li_31, li_32, li_33, li_34, li_35, li_36, li_37, li_38, li_39, li_40, li_41, li_42, li_43, li_44, li_45, li_46, li_47, li_48, li_49, li_50, li_51, li_52, li_53, li_54, li_55, li_56, li_57, li_58, li_59, li_60, li_61, li_62, li_63, li_64, li_65, li_66, li_96, li_97, li_99, li_100, li_122, li_125, li_126, li_140, li_255, li_256, li_999, li_1000, li_1001, li_1002, li_1100, li_1386, li_1452, li_1518, li_9999, li_1000000, st_ne, eg, hle, ↓reduceIte, nI_and31, nI_bt, c0, nm_eq, nI_add]
end C
/-! the model -/
theorem itf_s {row : Nat → Nat} : ∀ i e, itf row (i + 1) e = (if itf row i e = 0 then 0 else row (itf row i e)) := by
  intro i
  induction i with
  | zero =>
    intro e
    by_cases h : 0 < e
    · rw [itf_p h]
      show row e = if e = 0 then 0 else row e
      rw [if_neg (by omega)]
    · have : e = 0 := by omega
      subst this; rfl
  | succ i ih =>
    intro e
    by_cases h : 0 < e
    · rw [itf_p h, ih, itf_p h]
    · have : e = 0 := by omega
      subst this; rw [itf_0, itf_0, if_pos rfl]
theorem itf_lt {row : Nat → Nat} {n : Nat} (hn : ∀ j, 1 ≤ j → j < n → row j < n) : ∀ i e, e < n → itf row i e < n := by
  intro i
  induction i with
  | zero => intro e h; exact h
  | succ i ih =>
    intro e h
    by_cases c : 0 < e
    · rw [itf_p c]; exact ih _ (hn e c h)
    · have : e = 0 := by omega
      subst this; rw [itf_0]; exact h
theorem m_isTree {fu n : Nat} {v : GV} {row : Nat → Nat} (hf : 1101 ≤ fu) (h1 : 1 ≤ n) (h6 : n ≤ 6) (hr : ∀ j, 1 ≤ j → j < n → row j < n) (hv : ∀ j, 1 ≤ j → j < n → gA v 28 j = nI (row j)) : f_X13_isTree fu v (nI n) = some (b01 (isT row n)) := by
  have inner : ∀ (k4 : Int32 → Int32 → Option Int32) k, 1 ≤ k → k < n → f_X13_isTree_19 fu fu k4 v (nI n) (nI k) (nI k) (nI 0) = k4 (b01 (Nat.beq (itf row n k) 0)) (nI (k + 1)) := by
    intro k4 k k1 k2
    rw [f_X13_isTree_19]
    refine for2 _ (fun s => nI (itf row s k)) (fun s => nI s) 0 n _ ?_ ?_ fu (by omega) (by omega)
    · intro rec
      have l := itf_lt hr n k k2
      simp (disch := omega) only [f_X13_isTree_19s, f_X13_isTree_59, ↓lm_1, ↓lm_2, ↓lm_3, ↓lm_4, ↓lm_5, ↓lm_6, ↓lm_7, ↓lm_8, ↓lm_9, ↓lm_10, ↓lm_11, li_0, li_1, li_2, li_3, li_4, li_5, li_6, li_7, li_8, li_9, li_10, li_11, li_12, li_13, li_14, li_15, li_16, li_17, li_18, li_19, li_20, li_21, li_22, li_23, li_24, li_25, li_26, li_27, li_28, li_29, li_30, li_31, li_32, li_33, li_34, li_35, li_36, li_37, li_38, li_39, li_40, li_41, li_42, li_43, li_44, li_45, li_46, li_47, li_48, li_49, li_50, li_51, li_52, li_53, li_54, li_55, li_56, li_57, li_58, li_59, li_60, li_61, li_62, li_63, li_64, li_65, li_66, li_96, li_97, li_99, li_100, li_122, li_125, li_126, li_140, li_255, li_256, li_999, li_1000, li_1001, li_1002, li_1100, li_1386, li_1452, li_1518, li_9999, li_1000000, nI_leI, Nat.le_refl, ↓reduceIte, nI_eq, nm_eq, nI_add]
      rw [nbeq]
      by_cases c : itf row n k = 0
      · rw [if_pos c, decide_eq_true c]; rfl
      · rw [if_neg c, decide_eq_false c]; rfl
    · intro s rec _ hs
      have l := itf_lt hr s k k2
      have hle : ¬ nI n ≤ nI s := nI_ge hs (by omega)
      rw [itf_s]
      by_cases c : itf row s k = 0
      · simp (disch := omega) only [f_X13_isTree_19s, f_X13_isTree_41, ↓lm_1, ↓lm_2, ↓lm_3, ↓lm_4, ↓lm_5, ↓lm_6, ↓lm_7, ↓lm_8, ↓lm_9, ↓lm_10, ↓lm_11, li_0, li_1, li_2, li_3, li_4, li_5, li_6, li_7, li_8, li_9, li_10, li_11, li_12, li_13, li_14, li_15, li_16, li_17, li_18, li_19, li_20, li_21, li_22, li_23, li_24, li_25, li_26, li_27, li_28, li_29, li_30, li_31, li_32, li_33, li_34, li_35, li_36, li_37, li_38, li_39, li_40, li_41, li_42, li_43, li_44, li_45, li_46, li_47, li_48, li_49, li_50, li_51, li_52, li_53, li_54, li_55, li_56, li_57, li_58, li_59, li_60, li_61, li_62, li_63, li_64, li_65, li_66, li_96, li_97, li_99, li_100, li_122, li_125, li_126, li_140, li_255, li_256, li_999, li_1000, li_1001, li_1002, li_1100, li_1386, li_1452, li_1518, li_9999, li_1000000, hle, ↓reduceIte, c, nm_eq, nI_add]
      · have c' : ¬ nI (itf row s k) = nI 0 := by rw [nI_eq (by omega) (by omega)]; exact c
        simp (disch := omega) only [f_X13_isTree_19s, f_X13_isTree_41, ↓lm_1, ↓lm_2, ↓lm_3, ↓lm_4, ↓lm_5, ↓lm_6, ↓lm_7, ↓lm_8, ↓lm_9, ↓lm_10, ↓lm_11, li_0, li_1, li_2, li_3, li_4, li_5, li_6, li_7, li_8, li_9, li_10, li_11, li_12, li_13, li_14, li_15, li_16, li_17, li_18, li_19, li_20, li_21, li_22, li_23, li_24, li_25, li_26, li_27, li_28, li_29, li_30, li_31, li_32, li_33, li_34, li_35, li_36, li_37, li_38, li_39, li_40, li_41, li_42, li_43, li_44, li_45, li_46, li_47, li_48, li_49, li_50, li_51, li_52, li_53, li_54, li_55, li_56, li_57, li_58, li_59, li_60, li_61, li_62, li_63, li_64, li_65, li_66, li_96, li_97, li_99, li_100, li_122, li_125, li_126, li_140, li_255, li_256, li_999, li_1000, li_1001, li_1002, li_1100, li_1386, li_1452, li_1518, li_9999, li_1000000, hle, ↓reduceIte, c, c', inb_n, ck_t, nI_clamp, hv _ (show 1 ≤ itf row s k by omega) l, nm_eq, nI_add]
  have key := lpI2 (fun k4 => f_X13_isTree_4s fu k4 v (nI n)) (fun k x y => x = b01 (fr1 (fun k => Nat.beq (itf row n k) 0) (k + 1)) ∧ y = nI (k + 1)) (fun r => r = some (b01 (isT row n))) (n - 1) ?_ ?_ fu 0 (nI 1) (nI 1) ⟨rfl, rfl⟩ (by omega) (by omega)
  · obtain ⟨r, hr', e2⟩ := key
    rw [← hr', ← e2]
    simp only [f_X13_isTree, f_X13_isTree_0, f_X13_isTree_4, ↓lm_1, ↓lm_2, ↓lm_3, ↓lm_4, ↓lm_5, ↓lm_6, ↓lm_7, ↓lm_8, ↓lm_9, ↓lm_10, ↓lm_11, li_0, li_1, li_2, li_3, li_4, li_5, li_6, li_7, li_8, li_9, li_10, li_11, li_12, li_13, li_14, li_15, li_16, li_17, li_18, li_19, li_20, li_21, li_22, li_23, li_24, li_25, li_26, li_27, li_28, li_29, li_30, li_31, li_32, li_33, li_34, li_35, li_36, li_37, li_38, li_39, li_40, li_41, li_42, li_43, li_44, li_45, li_46, li_47, li_48, li_49, li_50, li_51, li_52, li_53, li_54, li_55, li_56, li_57, li_58, li_59, li_60, li_61, li_62, li_63, li_64, li_65, li_66, li_96, li_97, li_99, li_100, li_122, li_125, li_126, li_140, li_255, li_256, li_999, li_1000, li_1001, li_1002, li_1100, li_1386, li_1452, li_1518, li_9999, li_1000000]
  · rintro x y ⟨rfl, rfl⟩
    refine ⟨_, rfl, fun rec => ?_⟩
    rw [show n - 1 + 1 = n by omega]
    simp (disch := omega) only [f_X13_isTree_4s, f_X13_isTree_66, ↓lm_1, ↓lm_2, ↓lm_3, ↓lm_4, ↓lm_5, ↓lm_6, ↓lm_7, ↓lm_8, ↓lm_9, ↓lm_10, ↓lm_11, li_0, li_1, li_2, li_3, li_4, li_5, li_6, li_7, li_8, li_9, li_10, li_11, li_12, li_13, li_14, li_15, li_16, li_17, li_18, li_19, li_20, li_21, li_22, li_23, li_24, li_25, li_26, li_27, li_28, li_29, li_30, li_31, li_32, li_33, li_34, li_35, li_36, li_37, li_38, li_39, li_40, li_41, li_42, li_43, li_44, li_45, li_46, li_47, li_48, li_49, li_50, li_51, li_52, li_53, li_54, li_55, li_56, li_57, li_58, li_59, li_60, li_61, li_62, li_63, li_64, li_65, li_66, li_96, li_97, li_99, li_100, li_122, li_125, li_126, li_140, li_255, li_256, li_999, li_1000, li_1001, li_1002, li_1100, li_1386, li_1452, li_1518, li_9999, li_1000000, nI_leI, Nat.le_refl, ↓reduceIte]
    rw [← isT]
    cases isT row n
    · rfl
    · rfl
  · rintro k x y hk ⟨rfl, rfl⟩
    have hle : ¬ nI n ≤ nI (k + 1) := nI_ge (by omega) (by omega)
    cases hb : fr1 (fun k => Nat.beq (itf row n k) 0) (k + 1) with
    | true =>
      refine Or.inl ⟨_, _, ⟨rfl, rfl⟩, fun rec => ?_⟩
      have e : fr1 (fun k => Nat.beq (itf row n k) 0) (k + 1 + 1) = Nat.beq (itf row n (k + 1)) 0 := by
        have e0 : Nat.beq (k + 1) 0 = false := rfl
        rw [fr1, hb, e0, Bool.true_and, Bool.false_or]
      rw [e]
      simp only [f_X13_isTree_4s, ↓lm_1, ↓lm_2, ↓lm_3, ↓lm_4, ↓lm_5, ↓lm_6, ↓lm_7, ↓lm_8, ↓lm_9, ↓lm_10, ↓lm_11, li_0, li_1, li_2, li_3, li_4, li_5, li_6, li_7, li_8, li_9, li_10, li_11, li_12, li_13, li_14, li_15, li_16, li_17, li_18, li_19, li_20, li_21, li_22, li_23, li_24, li_25, li_26, li_27, li_28, li_29, li_30, li_31, li_32, li_33, li_34, li_35, li_36, li_37, li_38, li_39, li_40, li_41, li_42, li_43, li_44, li_45, li_46, li_47, li_48, li_49, li_50, li_51, li_52, li_53, li_54, li_55, li_56, li_57, li_58, li_59, li_60, li_61, li_62, li_63, li_64, li_65, li_66, li_96, li_97, li_99, li_100, li_122, li_125, li_126, li_140, li_255, li_256, li_999, li_1000, li_1001, li_1002, li_1100, li_1386, li_1452, li_1518, li_9999, li_1000000, hle, ↓reduceIte, b01_t, n10]
      exact inner rec (k + 1) (by omega) (by omega)
    | false =>
      refine Or.inr ⟨_, rfl, fun rec => ?_⟩
      have e : isT row n = false := by
        cases hT : isT row n
        · rfl
        · have := (fr1_iff n).mp hT
          have : fr1 (fun k => Nat.beq (itf row n k) 0) (k + 1) = true := (fr1_iff (k + 1)).mpr (fun j j1 j2 => this j j1 (by omega))
          rw [hb] at this; exact absurd this (by decide)
      rw [e]
      simp only [f_X13_isTree_4s, f_X13_isTree_66, ↓lm_1, ↓lm_2, ↓lm_3, ↓lm_4, ↓lm_5, ↓lm_6, ↓lm_7, ↓lm_8, ↓lm_9, ↓lm_10, ↓lm_11, li_0, li_1, li_2, li_3, li_4, li_5, li_6, li_7, li_8, li_9, li_10, li_11, li_12, li_13, li_14, li_15, li_16, li_17, li_18, li_19, li_20, li_21, li_22, li_23, li_24, li_25, li_26, li_27, li_28, li_29, li_30, li_31, li_32, li_33, li_34, li_35, li_36, li_37, li_38, li_39, li_40, li_41, li_42, li_43, li_44, li_45, li_46, li_47, li_48, li_49, li_50, li_51, li_52, li_53, li_54, li_55, li_56, li_57, li_58, li_59, li_60, li_61, li_62, li_63, li_64, li_65, li_66, li_96, li_97, li_99, li_100, li_122, li_125, li_126, li_140, li_255, li_256, li_999, li_1000, li_1001, li_1002, li_1100, li_1386, li_1452, li_1518, li_9999, li_1000000, hle, ↓reduceIte, b01_f, isB_0, ck_t]
def TM (v : GV) (n : Nat) (mem : Nat → Nat) (k : Nat) (row : Nat → Nat) (s : TS) : Prop := (∀ i, i < n → gA v 27 i = nI (mem i)) ∧ (∀ j, 1 ≤ j → j < k → gA v 28 j = nI (row j)) ∧ gI v 30 = oI s.1 ∧ (s.1 ≠ none → gI v 31 = nI s.2.1 ∧ ∀ j, 1 ≤ j → j < n → gA v 29 j = nI (s.2.2 j))
theorem TM_row {w : GV} {n k k' : Nat} {mem row row' : Nat → Nat} {s : TS} (h : TM w n mem k row s) (hk : k' ≤ k) (hr : ∀ j, 1 ≤ j → j < k' → row' j = row j) : TM w n mem k' row' s := by
  obtain ⟨h1, h2, h3, h4⟩ := h
  exact ⟨h1, fun j j1 j2 => by rw [hr j j1 j2]; exact h2 j j1 (by omega), h3, h4⟩
theorem m_looks {fu n : Nat} {v v0 : GV} {mem row : Nat → Nat} {s : TS} {sum : Nat} (hf : 1101 ≤ fu) (h1 : 1 ≤ n) (h6 : n ≤ 6) (hs : sum < 1000) (hok : okS n s) (hm : mscr v0 v) (hr : ∀ j, 1 ≤ j → j < n → row j < n) (h : TM v n mem n row s) : ∃ v', f_X13_looksAtTree fu v (nI n) (nI sum) = some v' ∧ mscr v0 v' ∧ TM v' n mem n row (if isT row n = true then vis row sum s else s) := by
  obtain ⟨t1, t2, t3, t4⟩ := id h
  have hT := m_isTree (fu := fu) hf h1 h6 hr t2
  -- a better one
  have better : ∃ v', f_X13_looksAtTree_39 fu v (nI n) (nI sum) = some v' ∧ mscr v0 v' ∧ TM v' n mem n row (some sum, 1, row) := by
    have key := lpI2 (fun k51 => f_X13_looksAtTree_51s fu k51 (nI n)) (fun k x w => x = nI (k + 1) ∧ ∃ f, w = sAf (sI (sI v 30 (nI sum)) 31 (nI 0)) 29 f ∧ ∀ j, 1 ≤ j → j < k + 1 → f j = nI (row j)) (fun r => ∃ v', r = some v' ∧ mscr v0 v' ∧ TM v' n mem n row (some sum, 1, row)) (n - 1) ?_ ?_ fu 0 (nI 1) (sI (sI v 30 (nI sum)) 31 (nI 0)) ⟨rfl, _, (sAf_self _ 29).symm, fun j j1 j2 => by omega⟩ (by omega) (by omega)
    · obtain ⟨r, ⟨v', e, k1, k2⟩, e2⟩ := key
      refine ⟨v', ?_, k1, k2⟩
      rw [← e, ← e2]
      simp only [f_X13_looksAtTree_39, f_X13_looksAtTree_51, ↓lm_1, ↓lm_2, ↓lm_3, ↓lm_4, ↓lm_5, ↓lm_6, ↓lm_7, ↓lm_8, ↓lm_9, ↓lm_10, ↓lm_11, li_0, li_1, li_2, li_3, li_4, li_5, li_6, li_7, li_8, li_9, li_10, li_11, li_12, li_13, li_14, li_15, li_16, li_17, li_18, li_19, li_20, li_21, li_22, li_23, li_24, li_25, li_26, li_27, li_28, li_29, li_30, li_31, li_32, li_33, li_34, li_35, li_36, li_37, li_38, li_39, li_40, li_41, li_42, li_43, li_44, li_45, li_46, li_47, li_48, li_49, li_50, li_51, li_52, li_53, li_54, li_55, li_56, li_57, li_58, li_59, li_60, li_61, li_62, li_63, li_64, li_65, li_66, li_96, li_97, li_99, li_100, li_122, li_125, li_126, li_140, li_255, li_256, li_999, li_1000, li_1001, li_1002, li_1100, li_1386, li_1452, li_1518, li_9999, li_1000000, nm_eq]
    · rintro x w ⟨rfl, f, rfl, hfj⟩
      rw [show n - 1 + 1 = n by omega] at hfj ⊢
      refine ⟨_, ⟨sI (sAf (sI (sI v 30 (nI sum)) 31 (nI 0)) 29 f) 31 (nI (0 + 1)), rfl, ?_, ⟨fun i hi => ?_, fun j j1 j2 => ?_, ?_, fun _ => ⟨?_, fun j j1 j2 => ?_⟩⟩⟩, fun rec => ?_⟩
      · exact mscr_sI (mscr_sAf (mscr_sI (mscr_sI hm (by decide) (by decide) (by decide)) (by decide) (by decide) (by decide)) (by omega)) (by decide) (by decide) (by decide)
      · rw [gA_sI, gA_sAfn _ _ (by decide)]; exact t1 i hi
      · rw [gA_sI, gA_sAfn _ _ (by decide)]; exact t2 j j1 j2
      · simp only [gI_sI, gI_sAf, ↓reduceIte, Nat.reduceEqDiff, Nat.reduceAdd, Nat.reduceSub, Nat.reduceMul, Nat.reduceLT, Nat.reduceLeDiff, reduceCtorEq, Nat.add_zero, Nat.zero_add, ne_eq, not_true_eq_false, not_false_eq_true, Nat.succ_ne_self, Nat.zero_ne_one, Nat.one_ne_zero, decide_true, decide_false, Bool.false_eq_true, and_true, true_and, and_self, and_false, false_and]; rfl
      · simp only [gI_sI, ↓reduceIte, Nat.reduceEqDiff, Nat.reduceAdd, Nat.reduceSub, Nat.reduceMul, Nat.reduceLT, Nat.reduceLeDiff, reduceCtorEq, Nat.add_zero, Nat.zero_add, ne_eq, not_true_eq_false, not_false_eq_true, Nat.succ_ne_self, Nat.zero_ne_one, Nat.one_ne_zero, decide_true, decide_false, Bool.false_eq_true, and_true, true_and, and_self, and_false, false_and]
      · rw [gA_sI, gA_sAf]; exact hfj j j1 j2
      · simp (disch := omega) only [f_X13_looksAtTree_51s, f_X13_looksAtTree_74, ↓lm_1, ↓lm_2, ↓lm_3, ↓lm_4, ↓lm_5, ↓lm_6, ↓lm_7, ↓lm_8, ↓lm_9, ↓lm_10, ↓lm_11, li_0, li_1, li_2, li_3, li_4, li_5, li_6, li_7, li_8, li_9, li_10, li_11, li_12, li_13, li_14, li_15, li_16, li_17, li_18, li_19, li_20, li_21, li_22, li_23, li_24, li_25, li_26, li_27, li_28, li_29, li_30, li_31, li_32, li_33, li_34, li_35, li_36, li_37, li_38, li_39, li_40, li_41, li_42, li_43, li_44, li_45, li_46, li_47, li_48, li_49, li_50, li_51, li_52, li_53, li_54, li_55, li_56, li_57, li_58, li_59, li_60, li_61, li_62, li_63, li_64, li_65, li_66, li_96, li_97, li_99, li_100, li_122, li_125, li_126, li_140, li_255, li_256, li_999, li_1000, li_1001, li_1002, li_1100, li_1386, li_1452, li_1518, li_9999, li_1000000, nI_leI, Nat.le_refl, ↓reduceIte, gI_sAf, gI_sI, nI_add, nm_eq]
    · rintro k x w hk ⟨rfl, f, rfl, hfj⟩
      have hle : ¬ nI n ≤ nI (k + 1) := nI_ge (by omega) (by omega)
      refine Or.inl ⟨nI (k + 1 + 1), sAf (sI (sI v 30 (nI sum)) 31 (nI 0)) 29 (upd f (k + 1) (nI (row (k + 1)))), ⟨rfl, _, rfl, fun j j1 j2 => ?_⟩, fun rec => ?_⟩
      · by_cases q : j = k + 1
        · rw [q, pk_us]
        · rw [pk_un q]; exact hfj j j1 (by omega)
      · have e28 := t2 (k + 1) (by omega) (by omega)
        simp (disch := omega) only [f_X13_looksAtTree_51s, ↓lm_1, ↓lm_2, ↓lm_3, ↓lm_4, ↓lm_5, ↓lm_6, ↓lm_7, ↓lm_8, ↓lm_9, ↓lm_10, ↓lm_11, li_0, li_1, li_2, li_3, li_4, li_5, li_6, li_7, li_8, li_9, li_10, li_11, li_12, li_13, li_14, li_15, li_16, li_17, li_18, li_19, li_20, li_21, li_22, li_23, li_24, li_25, li_26, li_27, li_28, li_29, li_30, li_31, li_32, li_33, li_34, li_35, li_36, li_37, li_38, li_39, li_40, li_41, li_42, li_43, li_44, li_45, li_46, li_47, li_48, li_49, li_50, li_51, li_52, li_53, li_54, li_55, li_56, li_57, li_58, li_59, li_60, li_61, li_62, li_63, li_64, li_65, li_66, li_96, li_97, li_99, li_100, li_122, li_125, li_126, li_140, li_255, li_256, li_999, li_1000, li_1001, li_1002, li_1100, li_1386, li_1452, li_1518, li_9999, li_1000000, hle, ↓reduceIte, inb_n, ck_t, nI_clamp, gA_sAfn, gA_sI, e28, nm_eq, sA, sAf_sAf, gA_sAf, nI_add]
  cases hs1 : s.1 with
  | none =>
    have e30 : gI v 30 = mI 1 := by rw [t3, hs1]; rfl
    have en : mI 1 < nI 0 := by decide
    cases hb : isT row n with
    | true =>
      rw [hb] at hT
      obtain ⟨v', k1, k2, k3⟩ := better
      refine ⟨v', ?_, k2, ?_⟩
      · simp only [f_X13_looksAtTree, f_X13_looksAtTree_0, f_X13_looksAtTree_15, ↓lm_1, ↓lm_2, ↓lm_3, ↓lm_4, ↓lm_5, ↓lm_6, ↓lm_7, ↓lm_8, ↓lm_9, ↓lm_10, ↓lm_11, li_0, li_1, li_2, li_3, li_4, li_5, li_6, li_7, li_8, li_9, li_10, li_11, li_12, li_13, li_14, li_15, li_16, li_17, li_18, li_19, li_20, li_21, li_22, li_23, li_24, li_25, li_26, li_27, li_28, li_29, li_30, li_31, li_32, li_33, li_34, li_35, li_36, li_37, li_38, li_39, li_40, li_41, li_42, li_43, li_44, li_45, li_46, li_47, li_48, li_49, li_50, li_51, li_52, li_53, li_54, li_55, li_56, li_57, li_58, li_59, li_60, li_61, li_62, li_63, li_64, li_65, li_66, li_96, li_97, li_99, li_100, li_122, li_125, li_126, li_140, li_255, li_256, li_999, li_1000, li_1001, li_1002, li_1100, li_1386, li_1452, li_1518, li_9999, li_1000000, e30, en, ↓reduceIte, hT, bd_s, b01_t, n10, k1]
      · rw [if_pos rfl]; simp only [vis, hs1]; exact k3
    | false =>
      rw [hb] at hT
      refine ⟨v, ?_, hm, ?_⟩
      · simp only [f_X13_looksAtTree, f_X13_looksAtTree_0, f_X13_looksAtTree_15, ↓lm_1, ↓lm_2, ↓lm_3, ↓lm_4, ↓lm_5, ↓lm_6, ↓lm_7, ↓lm_8, ↓lm_9, ↓lm_10, ↓lm_11, li_0, li_1, li_2, li_3, li_4, li_5, li_6, li_7, li_8, li_9, li_10, li_11, li_12, li_13, li_14, li_15, li_16, li_17, li_18, li_19, li_20, li_21, li_22, li_23, li_24, li_25, li_26, li_27, li_28, li_29, li_30, li_31, li_32, li_33, li_34, li_35, li_36, li_37, li_38, li_39, li_40, li_41, li_42, li_43, li_44, li_45, li_46, li_47, li_48, li_49, li_50, li_51, li_52, li_53, li_54, li_55, li_56, li_57, li_58, li_59, li_60, li_61, li_62, li_63, li_64, li_65, li_66, li_96, li_97, li_99, li_100, li_122, li_125, li_126, li_140, li_255, li_256, li_999, li_1000, li_1001, li_1002, li_1100, li_1386, li_1452, li_1518, li_9999, li_1000000, e30, en, ↓reduceIte, hT, bd_s, b01_f]
      · rw [if_neg (by decide)]; exact h
  | some l =>
    have hl := (hok l hs1).1
    have e30 : gI v 30 = nI l := by rw [t3, hs1]; rfl
    have en : ¬ nI l < nI 0 := nI_nlt (by omega) (by omega)
    by_cases c : l < sum
    · have c1 : nI l < nI sum := nI_lt c (by omega)
      refine ⟨v, ?_, hm, ?_⟩
      · simp only [f_X13_looksAtTree, f_X13_looksAtTree_0, ↓lm_1, ↓lm_2, ↓lm_3, ↓lm_4, ↓lm_5, ↓lm_6, ↓lm_7, ↓lm_8, ↓lm_9, ↓lm_10, ↓lm_11, li_0, li_1, li_2, li_3, li_4, li_5, li_6, li_7, li_8, li_9, li_10, li_11, li_12, li_13, li_14, li_15, li_16, li_17, li_18, li_19, li_20, li_21, li_22, li_23, li_24, li_25, li_26, li_27, li_28, li_29, li_30, li_31, li_32, li_33, li_34, li_35, li_36, li_37, li_38, li_39, li_40, li_41, li_42, li_43, li_44, li_45, li_46, li_47, li_48, li_49, li_50, li_51, li_52, li_53, li_54, li_55, li_56, li_57, li_58, li_59, li_60, li_61, li_62, li_63, li_64, li_65, li_66, li_96, li_97, li_99, li_100, li_122, li_125, li_126, li_140, li_255, li_256, li_999, li_1000, li_1001, li_1002, li_1100, li_1386, li_1452, li_1518, li_9999, li_1000000, e30, en, c1, ↓reduceIte]
      · have : (if isT row n = true then vis row sum s else s) = s := by
          split
          · simp only [vis, hs1]; rw [if_pos c]
          · rfl
        rw [this]; exact h
    · have c1 : ¬ nI l < nI sum := nI_nlt (by omega) (by omega)
      cases hb : isT row n with
      | true =>
        rw [hb] at hT
        rw [if_pos rfl]
        by_cases c2 : sum < l
        · obtain ⟨v', k1, k2, k3⟩ := better
          have c3 : ¬ nI l ≤ nI sum := nI_ge c2 (by omega)
          refine ⟨v', ?_, k2, ?_⟩
          · simp only [f_X13_looksAtTree, f_X13_looksAtTree_0, f_X13_looksAtTree_15, ↓lm_1, ↓lm_2, ↓lm_3, ↓lm_4, ↓lm_5, ↓lm_6, ↓lm_7, ↓lm_8, ↓lm_9, ↓lm_10, ↓lm_11, li_0, li_1, li_2, li_3, li_4, li_5, li_6, li_7, li_8, li_9, li_10, li_11, li_12, li_13, li_14, li_15, li_16, li_17, li_18, li_19, li_20, li_21, li_22, li_23, li_24, li_25, li_26, li_27, li_28, li_29, li_30, li_31, li_32, li_33, li_34, li_35, li_36, li_37, li_38, li_39, li_40, li_41, li_42, li_43, li_44, li_45, li_46, li_47, li_48, li_49, li_50, li_51, li_52, li_53, li_54, li_55, li_56, li_57, li_58, li_59, li_60, li_61, li_62, li_63, li_64, li_65, li_66, li_96, li_97, li_99, li_100, li_122, li_125, li_126, li_140, li_255, li_256, li_999, li_1000, li_1001, li_1002, li_1100, li_1386, li_1452, li_1518, li_9999, li_1000000, e30, en, c1, c3, ↓reduceIte, hT, bd_s, b01_t, n10, k1]
          · simp only [vis, hs1]; rw [if_neg c, if_pos c2]; exact k3
        · have c3 : nI l ≤ nI sum := nI_le (by omega) (by omega)
          obtain ⟨e31, e29⟩ := t4 (by rw [hs1]; simp)
          refine ⟨sI v 31 (nI (s.2.1 + 1)), ?_, mscr_sI hm (by decide) (by decide) (by decide), ?_⟩
          · simp only [f_X13_looksAtTree, f_X13_looksAtTree_0, f_X13_looksAtTree_15, f_X13_looksAtTree_74, ↓lm_1, ↓lm_2, ↓lm_3, ↓lm_4, ↓lm_5, ↓lm_6, ↓lm_7, ↓lm_8, ↓lm_9, ↓lm_10, ↓lm_11, li_0, li_1, li_2, li_3, li_4, li_5, li_6, li_7, li_8, li_9, li_10, li_11, li_12, li_13, li_14, li_15, li_16, li_17, li_18, li_19, li_20, li_21, li_22, li_23, li_24, li_25, li_26, li_27, li_28, li_29, li_30, li_31, li_32, li_33, li_34, li_35, li_36, li_37, li_38, li_39, li_40, li_41, li_42, li_43, li_44, li_45, li_46, li_47, li_48, li_49, li_50, li_51, li_52, li_53, li_54, li_55, li_56, li_57, li_58, li_59, li_60, li_61, li_62, li_63, li_64, li_65, li_66, li_96, li_97, li_99, li_100, li_122, li_125, li_126, li_140, li_255, li_256, li_999, li_1000, li_1001, li_1002, li_1100, li_1386, li_1452, li_1518, li_9999, li_1000000, e30, en, c1, c3, ↓reduceIte, hT, bd_s, b01_t, n10, e31, nI_add, nm_eq]
          · simp only [vis, hs1]; rw [if_neg c, if_neg c2]
            refine ⟨t1, t2, by rw [gI_sI, if_neg (by decide), e30]; rfl, fun _ => ⟨by rw [gI_sI, if_pos rfl], e29⟩⟩
      | false =>
        rw [hb] at hT
        refine ⟨v, ?_, hm, ?_⟩
        · simp only [f_X13_looksAtTree, f_X13_looksAtTree_0, f_X13_looksAtTree_15, ↓lm_1, ↓lm_2, ↓lm_3, ↓lm_4, ↓lm_5, ↓lm_6, ↓lm_7, ↓lm_8, ↓lm_9, ↓lm_10, ↓lm_11, li_0, li_1, li_2, li_3, li_4, li_5, li_6, li_7, li_8, li_9, li_10, li_11, li_12, li_13, li_14, li_15, li_16, li_17, li_18, li_19, li_20, li_21, li_22, li_23, li_24, li_25, li_26, li_27, li_28, li_29, li_30, li_31, li_32, li_33, li_34, li_35, li_36, li_37, li_38, li_39, li_40, li_41, li_42, li_43, li_44, li_45, li_46, li_47, li_48, li_49, li_50, li_51, li_52, li_53, li_54, li_55, li_56, li_57, li_58, li_59, li_60, li_61, li_62, li_63, li_64, li_65, li_66, li_96, li_97, li_99, li_100, li_122, li_125, li_126, li_140, li_255, li_256, li_999, li_1000, li_1001, li_1002, li_1100, li_1386, li_1452, li_1518, li_9999, li_1000000, e30, en, c1, ↓reduceIte, hT, bd_s, b01_f]
        · rw [if_neg (by decide)]; exact h
theorem tD_s (fu d : Nat) : f_X13_treesD fu (d + 1) = f_X13_trees fu (f_X13_treesD fu d) := (id rfl)
theorem m_trees {fu n : Nat} {v0 : GV} {q : HP} {G : GP} {mem : Nat → Nat} (hf : 1101 ≤ fu) (hq : okq G q) (hh : MH (gA v0 24) q) (h1 : 1 ≤ n) (h6 : n ≤ 6) (hmem : ∀ i, i < n → mem i < qn q) : ∀ m k d v row sum (s : TS), k + m = n → 1 ≤ k → m < d → sum ≤ 30 * k → (∀ j, 1 ≤ j → j < k → row j < n) → okS n s → mscr v0 v → TM v n mem k row s → ∃ v', f_X13_treesD fu d v (nI n) (nI k) (nI sum) = some v' ∧ mscr v0 v' ∧ TM v' n mem k row (enm (dq q mem) n m k row sum s) := by
  intro m
  induction m with
  | zero =>
    intro k d v row sum s hk hk1 hd hsum hrow hok hm hT
    obtain ⟨d, rfl⟩ : ∃ d', d = d' + 1 := ⟨d - 1, by omega⟩
    have hkn : k = n := by omega
    subst hkn
    obtain ⟨v', k1, k2, k3⟩ := m_looks (fu := fu) (sum := sum) hf h1 h6 (by omega) hok hm hrow hT
    refine ⟨v', ?_, k2, k3⟩
    rw [tD_s]
    simp only [f_X13_trees, f_X13_trees_0, ↓reduceIte, k1, bd_s]
  | succ m ih =>
    intro k d v row sum s hk hk1 hd hsum hrow hok hm hT
    obtain ⟨d, rfl⟩ : ∃ d', d = d' + 1 := ⟨d - 1, by omega⟩
    have h8 := hq.1.2.1
    have key := lpI2 (fun k15 => f_X13_trees_15s fu (f_X13_treesD fu d) k15 (nI n) (nI k) (nI sum)) (fun e x w => x = nI e ∧ mscr v0 w ∧ okS n (enf (fun e s => if e = k then s else enm (dq q mem) n m (k + 1) (upN row k e) (sum + dq q mem k e) s) e s) ∧ TM w n mem k row (enf (fun e s => if e = k then s else enm (dq q mem) n m (k + 1) (upN row k e) (sum + dq q mem k e) s) e s)) (fun r => ∃ v', r = some v' ∧ mscr v0 v' ∧ TM v' n mem k row (enm (dq q mem) n (m + 1) k row sum s)) n ?_ ?_ fu 0 (nI 0) v ⟨rfl, hm, hok, hT⟩ (by omega) (by omega)
    · obtain ⟨r, ⟨v', k1, k2⟩, e2⟩ := key
      refine ⟨v', ?_, k2⟩
      have c : ¬ nI k = nI n := by rw [nI_eq (by omega) (by omega)]; omega
      rw [← k1, ← e2, tD_s]
      simp only [f_X13_trees, f_X13_trees_0, f_X13_trees_15, ↓lm_1, ↓lm_2, ↓lm_3, ↓lm_4, ↓lm_5, ↓lm_6, ↓lm_7, ↓lm_8, ↓lm_9, ↓lm_10, ↓lm_11, li_0, li_1, li_2, li_3, li_4, li_5, li_6, li_7, li_8, li_9, li_10, li_11, li_12, li_13, li_14, li_15, li_16, li_17, li_18, li_19, li_20, li_21, li_22, li_23, li_24, li_25, li_26, li_27, li_28, li_29, li_30, li_31, li_32, li_33, li_34, li_35, li_36, li_37, li_38, li_39, li_40, li_41, li_42, li_43, li_44, li_45, li_46, li_47, li_48, li_49, li_50, li_51, li_52, li_53, li_54, li_55, li_56, li_57, li_58, li_59, li_60, li_61, li_62, li_63, li_64, li_65, li_66, li_96, li_97, li_99, li_100, li_122, li_125, li_126, li_140, li_255, li_256, li_999, li_1000, li_1001, li_1002, li_1100, li_1386, li_1452, li_1518, li_9999, li_1000000, c, ↓reduceIte]
    · rintro x w ⟨rfl, hm', ok', hT'⟩
      refine ⟨_, ⟨w, rfl, hm', hT'⟩, fun rec => ?_⟩
      simp (disch := omega) only [f_X13_trees_15s, nI_leI, Nat.le_refl, ↓reduceIte]
    · rintro e x w he ⟨rfl, hm', ok', hT'⟩
      generalize hs' : enf (fun e s => if e = k then s else enm (dq q mem) n m (k + 1) (upN row k e) (sum + dq q mem k e) s) e s = s' at *
      have hle : ¬ nI n ≤ nI e := nI_ge he (by omega)
      have enx : enf (fun e s => if e = k then s else enm (dq q mem) n m (k + 1) (upN row k e) (sum + dq q mem k e) s) (e + 1) s = (if e = k then s' else enm (dq q mem) n m (k + 1) (upN row k e) (sum + dq q mem k e) s') := by
        rw [enf, hs']
      by_cases hek : e = k
      · refine Or.inl ⟨nI (e + 1), w, ⟨rfl, hm', ?_, ?_⟩, fun rec => ?_⟩
        · rw [enx, if_pos hek]; exact ok'
        · rw [enx, if_pos hek]; exact hT'
        · have c : nI e = nI k := by rw [hek]
          simp only [f_X13_trees_15s, f_X13_trees_62, ↓lm_1, ↓lm_2, ↓lm_3, ↓lm_4, ↓lm_5, ↓lm_6, ↓lm_7, ↓lm_8, ↓lm_9, ↓lm_10, ↓lm_11, li_0, li_1, li_2, li_3, li_4, li_5, li_6, li_7, li_8, li_9, li_10, li_11, li_12, li_13, li_14, li_15, li_16, li_17, li_18, li_19, li_20, li_21, li_22, li_23, li_24, li_25, li_26, li_27, li_28, li_29, li_30, li_31, li_32, li_33, li_34, li_35, li_36, li_37, li_38, li_39, li_40, li_41, li_42, li_43, li_44, li_45, li_46, li_47, li_48, li_49, li_50, li_51, li_52, li_53, li_54, li_55, li_56, li_57, li_58, li_59, li_60, li_61, li_62, li_63, li_64, li_65, li_66, li_96, li_97, li_99, li_100, li_122, li_125, li_126, li_140, li_255, li_256, li_999, li_1000, li_1001, li_1002, li_1100, li_1386, li_1452, li_1518, li_9999, li_1000000, hle, if_pos c, ↓reduceIte, nm_eq, nI_add]
      · have hT2 : TM (sA w 28 k (nI e)) n mem (k + 1) (upN row k e) s' := by
          obtain ⟨t1, t2, t3, t4⟩ := hT'
          refine ⟨fun i hi => by rw [gA_sAn _ _ _ (by decide)]; exact t1 i hi, fun j j1 j2 => ?_, t3, fun hn => ⟨(t4 hn).1, fun j j1 j2 => by rw [gA_sAn _ _ _ (by decide)]; exact (t4 hn).2 j j1 j2⟩⟩
          rw [gA_sA]
          by_cases qj : j = k
          · rw [if_pos qj, qj, upN_s]
          · rw [if_neg qj, upN_n qj]; exact t2 j j1 (by omega)
        have hm2 : mscr v0 (sA w 28 k (nI e)) := mscr_sA hm' (by omega)
        have hr2 : ∀ j, 1 ≤ j → j < k + 1 → upN row k e j < n := by
          intro j j1 j2
          by_cases qj : j = k
          · rw [qj, upN_s]; exact he
          · rw [upN_n qj]; exact hrow j j1 (by omega)
        have dle : dq q mem k e ≤ 30 := pcn30 _
        obtain ⟨v2, k1, k2, k3⟩ := ih (k + 1) d (sA w 28 k (nI e)) (upN row k e) (sum + dq q mem k e) s' (by omega) (by omega) (by omega) (by omega) hr2 ok' hm2 hT2
        have ok2 : okS n (enm (dq q mem) n m (k + 1) (upN row k e) (sum + dq q mem k e) s') := enm_ok (fun i j => pcn30 _) m (k + 1) _ _ s' (by omega) h6 (by omega) hr2 ok'
        refine Or.inl ⟨nI (e + 1), v2, ⟨rfl, k2, ?_, ?_⟩, fun rec => ?_⟩
        · rw [enx, if_neg hek]; exact ok2
        · rw [enx, if_neg hek]; exact TM_row k3 (by omega) (fun j j1 j2 => (upN_n (by omega)).symm)
        · have c : ¬ nI e = nI k := by rw [nI_eq (by omega) (by omega)]; exact hek
          have m1 : gA (sA w 28 k (nI e)) 27 k = nI (mem k) := hT2.1 k (by omega)
          have m2 : gA (sA w 28 k (nI e)) 27 e = nI (mem e) := hT2.1 e he
          have hh2 : MH (gA (sA w 28 k (nI e)) 24) q := MH_ext (fun j hj => hm2.2.1 j (by omega)) h8 hh
          have ap : f_X13_distanceOf fu (sA w 28 k (nI e)) (nI (mem k)) (nI (mem e)) = some (nI (dq q mem k e)) := m0_distanceOf hf hh2 hq (hmem k (by omega)) (hmem e he)
          simp (disch := omega) only [f_X13_trees_15s, f_X13_trees_62, ↓lm_1, ↓lm_2, ↓lm_3, ↓lm_4, ↓lm_5, ↓lm_6, ↓lm_7, ↓lm_8, ↓lm_9, ↓lm_10, ↓lm_11, li_0, li_1, li_2, li_3, li_4, li_5, li_6, li_7, li_8, li_9, li_10, li_11, li_12, li_13, li_14, li_15, li_16, li_17, li_18, li_19, li_20, li_21, li_22, li_23, li_24, li_25, li_26, li_27, li_28, li_29, li_30, li_31, li_32, li_33, li_34, li_35, li_36, li_37, li_38, li_39, li_40, li_41, li_42, li_43, li_44, li_45, li_46, li_47, li_48, li_49, li_50, li_51, li_52, li_53, li_54, li_55, li_56, li_57, li_58, li_59, li_60, li_61, li_62, li_63, li_64, li_65, li_66, li_96, li_97, li_99, li_100, li_122, li_125, li_126, li_140, li_255, li_256, li_999, li_1000, li_1001, li_1002, li_1100, li_1386, li_1452, li_1518, li_9999, li_1000000, hle, c, ↓reduceIte, inb_n, ck_t, nI_clamp, nm_eq, m1, m2, ap, bd_s, nI_add, k1]
theorem bits_any {fu : Nat} (hf : 1101 ≤ fu) (x : Int32) : ∃ z, f_X13_bits fu x = some z := by
  have key := lpI2 (fun k => f_X13_bits_4s fu k x) (fun k _ y => y = nI k) (fun r => ∃ z, r = some z) 30 ?_ ?_ fu 0 (nI 0) (nI 0) rfl (by omega) (by omega)
  · obtain ⟨r, ⟨z, h⟩, e⟩ := key
    refine ⟨z, ?_⟩
    rw [← h, ← e]
    simp only [f_X13_bits, f_X13_bits_0, f_X13_bits_4, ↓lm_1, ↓lm_2, ↓lm_3, ↓lm_4, ↓lm_5, ↓lm_6, ↓lm_7, ↓lm_8, ↓lm_9, ↓lm_10, ↓lm_11, li_0, li_1, li_2, li_3, li_4, li_5, li_6, li_7, li_8, li_9, li_10, li_11, li_12, li_13, li_14, li_15, li_16, li_17, li_18, li_19, li_20, li_21, li_22, li_23, li_24, li_25, li_26, li_27, li_28, li_29, li_30, li_31, li_32, li_33, li_34, li_35, li_36, li_37, li_38, li_39, li_40, li_41, li_42, li_43, li_44, li_45, li_46, li_47, li_48, li_49, li_50, li_51, li_52, li_53, li_54, li_55, li_56, li_57, li_58, li_59, li_60, li_61, li_62, li_63, li_64, li_65, li_66, li_96, li_97, li_99, li_100, li_122, li_125, li_126, li_140, li_255, li_256, li_999, li_1000, li_1001, li_1002, li_1100, li_1386, li_1452, li_1518, li_9999, li_1000000]
  · rintro a b rfl
    refine ⟨some a, ⟨a, rfl⟩, fun rec => ?_⟩
    have e : nI 30 ≤ nI 30 := by decide
    simp only [f_X13_bits_4s, ↓lm_1, ↓lm_2, ↓lm_3, ↓lm_4, ↓lm_5, ↓lm_6, ↓lm_7, ↓lm_8, ↓lm_9, ↓lm_10, ↓lm_11, li_0, li_1, li_2, li_3, li_4, li_5, li_6, li_7, li_8, li_9, li_10, li_11, li_12, li_13, li_14, li_15, li_16, li_17, li_18, li_19, li_20, li_21, li_22, li_23, li_24, li_25, li_26, li_27, li_28, li_29, li_30, li_31, li_32, li_33, li_34, li_35, li_36, li_37, li_38, li_39, li_40, li_41, li_42, li_43, li_44, li_45, li_46, li_47, li_48, li_49, li_50, li_51, li_52, li_53, li_54, li_55, li_56, li_57, li_58, li_59, li_60, li_61, li_62, li_63, li_64, li_65, li_66, li_96, li_97, li_99, li_100, li_122, li_125, li_126, li_140, li_255, li_256, li_999, li_1000, li_1001, li_1002, li_1100, li_1386, li_1452, li_1518, li_9999, li_1000000, e, ↓reduceIte]
  · rintro k a b hk rfl
    have e : ¬ nI 30 ≤ nI k := nI_ge hk (by omega)
    refine Or.inl ⟨a + ((x >>> (nI k &&& nI 31)) &&& nI 1), _, rfl, fun rec => ?_⟩
    simp only [f_X13_bits_4s, ↓lm_1, ↓lm_2, ↓lm_3, ↓lm_4, ↓lm_5, ↓lm_6, ↓lm_7, ↓lm_8, ↓lm_9, ↓lm_10, ↓lm_11, li_0, li_1, li_2, li_3, li_4, li_5, li_6, li_7, li_8, li_9, li_10, li_11, li_12, li_13, li_14, li_15, li_16, li_17, li_18, li_19, li_20, li_21, li_22, li_23, li_24, li_25, li_26, li_27, li_28, li_29, li_30, li_31, li_32, li_33, li_34, li_35, li_36, li_37, li_38, li_39, li_40, li_41, li_42, li_43, li_44, li_45, li_46, li_47, li_48, li_49, li_50, li_51, li_52, li_53, li_54, li_55, li_56, li_57, li_58, li_59, li_60, li_61, li_62, li_63, li_64, li_65, li_66, li_96, li_97, li_99, li_100, li_122, li_125, li_126, li_140, li_255, li_256, li_999, li_1000, li_1001, li_1002, li_1100, li_1386, li_1452, li_1518, li_9999, li_1000000, e, ↓reduceIte, nm_eq, nI_add]
theorem r_tree {fu p : Nat} {S : ST} {v : GV} (hf : 1101 ≤ fu) (h : RR p S v) (x y : Int32) : ∃ z S' v', f_X12_tree fu S p x y = some (z, S') ∧ f_X13_tree fu v x y = some (z, v') ∧ RR p S' v' := by
  obtain ⟨A, hA, hC, hM⟩ := h
  obtain ⟨t, d, ln, dl, f, hP, hK⟩ := id hC
  have hno : RR p S (sI v 0 (nI 0)) := RR_q hA hC hM (scr_refl p S) (q1 v)
  have hq := hA.2.1.1
  have h8 := hq.1.2.1
  have h2 := p2n hA
  have hh : MH (gA (sI v 0 (nI 0)) 24) (aQ A).1 := hM.2.2.1.1
  have c25 := hP.1.2.2.2.2.1
  have c9 := hP.1.2.2.1
  by_cases hx : ∃ j, j < 2 ^ qn (aQ A).1 ∧ x = nI j
  · obtain ⟨X, hX, rfl⟩ := hx
    have hX8 : X < 256 := by omega
    have bc := bc256 (fu := fu) hX8
    have ca := c_areThere_in (fu := fu) hA hC hX
    have ma := m_areThere_in (fu := fu) hA hh hX
    have mb := x13_bits (fu := fu) (x := X) (by omega) (by omega)
    have e8 : pcn X = bs X 8 := by
      have := mmr_hi (X := X) (n := 8) (by omega) 22
      exact this.2
    rw [e8] at bc mb
    have hn8 := bs_le X 8
    by_cases c1 : 1 ≤ bs X 8 ∧ bs X 8 ≤ 6
    · have a1 : ¬ nI (bs X 8) < nI 1 := nI_nlt c1.1 (by omega)
      have a2 : ¬ nI 6 < nI (bs X 8) := nI_nlt c1.2 (by omega)
      by_cases hy : ∃ j, j < bs X 8 + 1 ∧ y = nI j
      · obtain ⟨a, ha, rfl⟩ := hy
        have b1 : ¬ nI a < nI 0 := nI_nlt (by omega) (by omega)
        have b2 : nI a ≤ nI (bs X 8) := nI_le (by omega) (by omega)
        obtain ⟨w', k1, k2⟩ := x9_grow (fu := fu) (S := S) (a := p + 25) (g := p + 9) hf hq hK.1.1 (by omega) c25 hX c1.1 c1.2
        -- the model
        have mtr : ∀ v1, mscr v v1 → (∀ i, i < bs X 8 → gA v1 27 i = nI (mmr X 8 i)) → ∃ v', f_X13_treesD fu 8 (sI v1 30 (mI 1)) (nI (bs X 8)) (nI 1) (nI 0) = some v' ∧ mscr v v' ∧ TM v' (bs X 8) (mmr X 8) 1 (fun _ => 0) (trX (aQ A).1 X) := by
          intro v1 hm1 hk1
          have e8' := mmr_hi hX (8 - qn (aQ A).1)
          rw [show qn (aQ A).1 + (8 - qn (aQ A).1) = 8 by omega] at e8'
          exact m_trees (fu := fu) (v0 := v) (mem := mmr X 8) hf hq hM.2.2.1.1 c1.1 c1.2 (fun i hi => by rw [e8'.1]; exact mmr_lt X _ i (by rw [← e8'.2]; exact hi)) (bs X 8 - 1) 1 8 _ (fun _ => 0) 0 (none, 0, fun _ => 0) (by omega) (by omega) (by omega) (by omega) (fun j j1 j2 => by omega) (fun l hl => by cases hl) (mscr_sI hm1 (by decide) (by decide) (by decide)) ⟨hk1, fun j j1 j2 => by omega, by rw [gI_sI, if_pos rfl]; rfl, fun hn => absurd rfl hn⟩
        have ok : okS (bs X 8) (trX (aQ A).1 X) := enm_ok (fun i j => pcn30 _) _ 1 _ _ _ (by omega) c1.2 (by omega) (fun j j1 j2 => by omega) (fun l hl => by cases hl)
        have som : (trX (aQ A).1 X).1 ≠ none := enm_some c1.2 _ 1 _ _ _ (by omega) (by omega) (fun j j1 j2 => rfl)
        obtain ⟨l, hl⟩ : ∃ l, (trX (aQ A).1 X).1 = some l := by
          cases q : (trX (aQ A).1 X).1 with
          | none => exact absurd q som
          | some l => exact ⟨l, rfl⟩
        obtain ⟨ol, ob⟩ := ok l hl
        have key := lpI3 (fun k45 => f_X13_tree_45s fu k45 (nI X) (nI a) (nI (bs X 8))) (fun j x5 y5 w => x5 = nI (bs X j) ∧ y5 = nI j ∧ mscr v w ∧ ∀ i, i < bs X j → gA w 27 i = nI (mmr X j i)) (fun r => ∃ v', r = some (if a = 0 then nI l else if a = 1 then nI (trX (aQ A).1 X).2.1 else nI (mmr X 8 ((trX (aQ A).1 X).2.2 (a - 1))), v') ∧ mscr v v') 8 ?_ ?_ fu 0 (nI 0) (nI 0) (sI v 0 (nI 0)) ⟨rfl, rfl, q1 v, fun i hi => by simp only [bs] at hi; omega⟩ (by omega) (by omega)
        · obtain ⟨r, ⟨v', m1, m2⟩, e2⟩ := key
          refine ⟨if a = 0 then nI l else if a = 1 then nI (trX (aQ A).1 X).2.1 else nI (mmr X 8 ((trX (aQ A).1 X).2.2 (a - 1))), st S (p + 25) w', v', ?_, ?_, RR_q hA hC hM (scr_st (scr_refl p S) (by omega) (by rw [k2.1, c25])) m2⟩
          rotate_left
          · rw [← m1, ← e2]
            simp (disch := omega) only [f_X13_tree, f_X13_tree_0, f_X13_tree_45, ↓lm_1, ↓lm_2, ↓lm_3, ↓lm_4, ↓lm_5, ↓lm_6, ↓lm_7, ↓lm_8, ↓lm_9, ↓lm_10, ↓lm_11, li_0, li_1, li_2, li_3, li_4, li_5, li_6, li_7, li_8, li_9, li_10, li_11, li_12, li_13, li_14, li_15, li_16, li_17, li_18, li_19, li_20, li_21, li_22, li_23, li_24, li_25, li_26, li_27, li_28, li_29, li_30, li_31, li_32, li_33, li_34, li_35, li_36, li_37, li_38, li_39, li_40, li_41, li_42, li_43, li_44, li_45, li_46, li_47, li_48, li_49, li_50, li_51, li_52, li_53, li_54, li_55, li_56, li_57, li_58, li_59, li_60, li_61, li_62, li_63, li_64, li_65, li_66, li_96, li_97, li_99, li_100, li_122, li_125, li_126, li_140, li_255, li_256, li_999, li_1000, li_1001, li_1002, li_1100, li_1386, li_1452, li_1518, li_9999, li_1000000, nm_eq, mb, bd_s, ma, n10, ↓reduceIte, w1_in, w_in]
          · have e4 : gI w' 4 = nI l := by rw [k2.2.2.2.2.1]; simp [lst, hl]
            have jt : 1 < a → f_X9_joinedTo fu w' (nI a - nI 1) = some (nI (mmr X 8 ((trX (aQ A).1 X).2.2 (a - 1)))) := by
              intro h1a
              have hb := ob (a - 1) (by omega) (by omega)
              have d1 : ¬ nI (a - 1) < nI 1 := nI_nlt (by omega) (by omega)
              have d2 : nI (a - 1) < nI (bs X 8) := nI_lt (by omega) (by omega)
              simp (disch := omega) only [f_X9_joinedTo, f_X9_joinedTo_0, ↓lm_1, ↓lm_2, ↓lm_3, ↓lm_4, ↓lm_5, ↓lm_6, ↓lm_7, ↓lm_8, ↓lm_9, ↓lm_10, ↓lm_11, li_0, li_1, li_2, li_3, li_4, li_5, li_6, li_7, li_8, li_9, li_10, li_11, li_12, li_13, li_14, li_15, li_16, li_17, li_18, li_19, li_20, li_21, li_22, li_23, li_24, li_25, li_26, li_27, li_28, li_29, li_30, li_31, li_32, li_33, li_34, li_35, li_36, li_37, li_38, li_39, li_40, li_41, li_42, li_43, li_44, li_45, li_46, li_47, li_48, li_49, li_50, li_51, li_52, li_53, li_54, li_55, li_56, li_57, li_58, li_59, li_60, li_61, li_62, li_63, li_64, li_65, li_66, li_96, li_97, li_99, li_100, li_122, li_125, li_126, li_140, li_255, li_256, li_999, li_1000, li_1001, li_1002, li_1100, li_1386, li_1452, li_1518, li_9999, li_1000000, pk_sub, d1, k2.2.1, d2, ↓reduceIte, inb_n, ck_t, nI_clamp, k2.2.2.2.2.2.2 som (a - 1) (by omega) (by omega), nm_eq, k2.2.2.1 _ hb]
            simp (disch := omega) only [f_X12_tree, f_X12_tree_0, ↓lm_1, ↓lm_2, ↓lm_3, ↓lm_4, ↓lm_5, ↓lm_6, ↓lm_7, ↓lm_8, ↓lm_9, ↓lm_10, ↓lm_11, li_0, li_1, li_2, li_3, li_4, li_5, li_6, li_7, li_8, li_9, li_10, li_11, li_12, li_13, li_14, li_15, li_16, li_17, li_18, li_19, li_20, li_21, li_22, li_23, li_24, li_25, li_26, li_27, li_28, li_29, li_30, li_31, li_32, li_33, li_34, li_35, li_36, li_37, li_38, li_39, li_40, li_41, li_42, li_43, li_44, li_45, li_46, li_47, li_48, li_49, li_50, li_51, li_52, li_53, li_54, li_55, li_56, li_57, li_58, li_59, li_60, li_61, li_62, li_63, li_64, li_65, li_66, li_96, li_97, li_99, li_100, li_122, li_125, li_126, li_140, li_255, li_256, li_999, li_1000, li_1001, li_1002, li_1100, li_1386, li_1452, li_1518, li_9999, li_1000000, bc, bd_s, ca, n10, a1, a2, b1, b2, ↓reduceIte, c25, c9, decide_true, ck_t, k1, st_same, e4, k2.2.2.2.2.2.1, nI_eq, Nat.one_ne_zero]
            by_cases a0 : a = 0
            · rw [if_pos a0, if_pos a0]
            · rw [if_neg a0, if_neg a0]
              by_cases a1' : a = 1
              · rw [if_pos a1', if_pos a1']
              · rw [if_neg a1', if_neg a1', jt (by omega), bd_s]
        · rintro x5 y5 w ⟨rfl, rfl, hm1, hk1⟩
          obtain ⟨v', m1, m2, m3⟩ := mtr w hm1 hk1
          refine ⟨_, ⟨v', rfl, m2⟩, fun rec => ?_⟩
          have e : nI 8 ≤ nI 8 := by decide
          have e30 : gI v' 30 = nI l := by rw [m3.2.2.1, hl]; rfl
          obtain ⟨e31, e29⟩ := m3.2.2.2 som
          simp (disch := omega) only [f_X13_tree_45s, ↓lm_1, ↓lm_2, ↓lm_3, ↓lm_4, ↓lm_5, ↓lm_6, ↓lm_7, ↓lm_8, ↓lm_9, ↓lm_10, ↓lm_11, li_0, li_1, li_2, li_3, li_4, li_5, li_6, li_7, li_8, li_9, li_10, li_11, li_12, li_13, li_14, li_15, li_16, li_17, li_18, li_19, li_20, li_21, li_22, li_23, li_24, li_25, li_26, li_27, li_28, li_29, li_30, li_31, li_32, li_33, li_34, li_35, li_36, li_37, li_38, li_39, li_40, li_41, li_42, li_43, li_44, li_45, li_46, li_47, li_48, li_49, li_50, li_51, li_52, li_53, li_54, li_55, li_56, li_57, li_58, li_59, li_60, li_61, li_62, li_63, li_64, li_65, li_66, li_96, li_97, li_99, li_100, li_122, li_125, li_126, li_140, li_255, li_256, li_999, li_1000, li_1001, li_1002, li_1100, li_1386, li_1452, li_1518, li_9999, li_1000000, e, ↓reduceIte, ↓nm_eq, m1, bd_s, e30, e31, nI_eq]
          by_cases a0 : a = 0
          · rw [if_pos a0, if_pos a0]
          · rw [if_neg a0, if_neg a0]
            by_cases a1' : a = 1
            · rw [if_pos a1', if_pos a1']
            · rw [if_neg a1', if_neg a1']
              have hb := ob (a - 1) (by omega) (by omega)
              simp (disch := omega) only [pk_sub, inb_n, ck_t, nI_clamp, e29 (a - 1) (by omega) (by omega), m3.1 _ hb]
        · rintro j x5 y5 w hj ⟨rfl, rfl, hm1, hk1⟩
          have e : ¬ nI 8 ≤ nI j := nI_ge hj (by omega)
          have hb := bt_lt X j
          have hs : bs X (j + 1) = bs X j + bt X j := rfl
          have hm : bs X (j + 1) ≤ bs X 8 := bs_mono X (by omega)
          by_cases c : bt X j = 1
          · refine Or.inl ⟨nI (bs X (j + 1)), nI (j + 1), sA w 27 (bs X j) (nI j), ⟨rfl, rfl, mscr_sA hm1 (by omega), fun i hi => ?_⟩, fun rec => ?_⟩
            · rw [gA_sA]
              simp only [mmr, if_pos c]
              by_cases qi : i = bs X j
              · rw [if_pos qi, qi, upN_s]
              · rw [if_neg qi, upN_n qi]; exact hk1 i (by omega)
            · rw [hs, c]
              simp (disch := omega) only [f_X13_tree_45s, f_X13_tree_74, ↓lm_1, ↓lm_2, ↓lm_3, ↓lm_4, ↓lm_5, ↓lm_6, ↓lm_7, ↓lm_8, ↓lm_9, ↓lm_10, ↓lm_11, li_0, li_1, li_2, li_3, li_4, li_5, li_6, li_7, li_8, li_9, li_10, li_11, li_12, li_13, li_14, li_15, li_16, li_17, li_18, li_19, li_20, li_21, li_22, li_23, li_24, li_25, li_26, li_27, li_28, li_29, li_30, li_31, li_32, li_33, li_34, li_35, li_36, li_37, li_38, li_39, li_40, li_41, li_42, li_43, li_44, li_45, li_46, li_47, li_48, li_49, li_50, li_51, li_52, li_53, li_54, li_55, li_56, li_57, li_58, li_59, li_60, li_61, li_62, li_63, li_64, li_65, li_66, li_96, li_97, li_99, li_100, li_122, li_125, li_126, li_140, li_255, li_256, li_999, li_1000, li_1001, li_1002, li_1100, li_1386, li_1452, li_1518, li_9999, li_1000000, e, ↓reduceIte, nI_and31, nI_bt, c, inb_n, ck_t, nI_clamp, nm_eq, nI_add]
          · have c0 : bt X j = 0 := by omega
            have n01 : ¬ nI 0 = nI 1 := by decide
            refine Or.inl ⟨nI (bs X (j + 1)), nI (j + 1), w, ⟨rfl, rfl, hm1, fun i hi => ?_⟩, fun rec => ?_⟩
            · simp only [mmr, if_neg c]; exact hk1 i (by omega)
            · rw [hs, c0]
              simp (disch := omega) only [f_X13_tree_45s, f_X13_tree_74, ↓lm_1, ↓lm_2, ↓lm_3, ↓lm_4, ↓lm_5, ↓lm_6, ↓lm_7, ↓lm_8, ↓lm_9, ↓lm_10, ↓lm_11, li_0, li_1, li_2, li_3, li_4, li_5, li_6, li_7, li_8, li_9, li_10, li_11, li_12, li_13, li_14, li_15, li_16, li_17, li_18, li_19, li_20, li_21, li_22, li_23, li_24, li_25, li_26, li_27, li_28, li_29, li_30, li_31, li_32, li_33, li_34, li_35, li_36, li_37, li_38, li_39, li_40, li_41, li_42, li_43, li_44, li_45, li_46, li_47, li_48, li_49, li_50, li_51, li_52, li_53, li_54, li_55, li_56, li_57, li_58, li_59, li_60, li_61, li_62, li_63, li_64, li_65, li_66, li_96, li_97, li_99, li_100, li_122, li_125, li_126, li_140, li_255, li_256, li_999, li_1000, li_1001, li_1002, li_1100, li_1386, li_1452, li_1518, li_9999, li_1000000, e, ↓reduceIte, nI_and31, nI_bt, c0, n01, nm_eq, nI_add, Nat.add_zero]
      · refine ⟨mI 1, S, sI v 0 (nI 0), ?_, ?_, hno⟩
        · simp only [f_X12_tree, f_X12_tree_0, f_X12_tree_33, ↓lm_1, ↓lm_2, ↓lm_3, ↓lm_4, ↓lm_5, ↓lm_6, ↓lm_7, ↓lm_8, ↓lm_9, ↓lm_10, ↓lm_11, li_0, li_1, li_2, li_3, li_4, li_5, li_6, li_7, li_8, li_9, li_10, li_11, li_12, li_13, li_14, li_15, li_16, li_17, li_18, li_19, li_20, li_21, li_22, li_23, li_24, li_25, li_26, li_27, li_28, li_29, li_30, li_31, li_32, li_33, li_34, li_35, li_36, li_37, li_38, li_39, li_40, li_41, li_42, li_43, li_44, li_45, li_46, li_47, li_48, li_49, li_50, li_51, li_52, li_53, li_54, li_55, li_56, li_57, li_58, li_59, li_60, li_61, li_62, li_63, li_64, li_65, li_66, li_96, li_97, li_99, li_100, li_122, li_125, li_126, li_140, li_255, li_256, li_999, li_1000, li_1001, li_1002, li_1100, li_1386, li_1452, li_1518, li_9999, li_1000000, bc, bd_s, ca, n10, a1, a2, ↓reduceIte]
          rcases w0_out (by omega) hy with c | ⟨c, c2⟩
          · rw [if_pos c]
          · rw [if_neg c, if_neg]
            rw [Int32.lt_iff_toInt_lt] at c2
            rw [Int32.le_iff_toInt_le]; omega
        · simp (disch := omega) only [f_X13_tree, f_X13_tree_0, f_X13_tree_37, ↓lm_1, ↓lm_2, ↓lm_3, ↓lm_4, ↓lm_5, ↓lm_6, ↓lm_7, ↓lm_8, ↓lm_9, ↓lm_10, ↓lm_11, li_0, li_1, li_2, li_3, li_4, li_5, li_6, li_7, li_8, li_9, li_10, li_11, li_12, li_13, li_14, li_15, li_16, li_17, li_18, li_19, li_20, li_21, li_22, li_23, li_24, li_25, li_26, li_27, li_28, li_29, li_30, li_31, li_32, li_33, li_34, li_35, li_36, li_37, li_38, li_39, li_40, li_41, li_42, li_43, li_44, li_45, li_46, li_47, li_48, li_49, li_50, li_51, li_52, li_53, li_54, li_55, li_56, li_57, li_58, li_59, li_60, li_61, li_62, li_63, li_64, li_65, li_66, li_96, li_97, li_99, li_100, li_122, li_125, li_126, li_140, li_255, li_256, li_999, li_1000, li_1001, li_1002, li_1100, li_1386, li_1452, li_1518, li_9999, li_1000000, nm_eq, mb, bd_s, ma, n10, ↓reduceIte, w1_in, w_out hy]
    · refine ⟨mI 1, S, sI v 0 (nI 0), ?_, ?_, hno⟩
      · simp only [f_X12_tree, f_X12_tree_0, f_X12_tree_33, ↓lm_1, ↓lm_2, ↓lm_3, ↓lm_4, ↓lm_5, ↓lm_6, ↓lm_7, ↓lm_8, ↓lm_9, ↓lm_10, ↓lm_11, li_0, li_1, li_2, li_3, li_4, li_5, li_6, li_7, li_8, li_9, li_10, li_11, li_12, li_13, li_14, li_15, li_16, li_17, li_18, li_19, li_20, li_21, li_22, li_23, li_24, li_25, li_26, li_27, li_28, li_29, li_30, li_31, li_32, li_33, li_34, li_35, li_36, li_37, li_38, li_39, li_40, li_41, li_42, li_43, li_44, li_45, li_46, li_47, li_48, li_49, li_50, li_51, li_52, li_53, li_54, li_55, li_56, li_57, li_58, li_59, li_60, li_61, li_62, li_63, li_64, li_65, li_66, li_96, li_97, li_99, li_100, li_122, li_125, li_126, li_140, li_255, li_256, li_999, li_1000, li_1001, li_1002, li_1100, li_1386, li_1452, li_1518, li_9999, li_1000000, bc, bd_s, ca, n10, ↓reduceIte]
        by_cases c0 : bs X 8 = 0
        · rw [if_pos (by rw [c0]; decide)]
        · rw [if_neg (nI_nlt (by omega) (by omega)), if_pos (nI_lt (by omega) (by omega))]
      · obtain ⟨_, hwo⟩ := w1_out (fu := fu) (n := 6) (x := nI (bs X 8)) (by omega) (by
          rintro ⟨j, j1, j2, e⟩
          rw [nI_eq (by omega) (by omega)] at e
          exact c1 (by omega))
        simp (disch := omega) only [f_X13_tree, f_X13_tree_0, f_X13_tree_37, ↓lm_1, ↓lm_2, ↓lm_3, ↓lm_4, ↓lm_5, ↓lm_6, ↓lm_7, ↓lm_8, ↓lm_9, ↓lm_10, ↓lm_11, li_0, li_1, li_2, li_3, li_4, li_5, li_6, li_7, li_8, li_9, li_10, li_11, li_12, li_13, li_14, li_15, li_16, li_17, li_18, li_19, li_20, li_21, li_22, li_23, li_24, li_25, li_26, li_27, li_28, li_29, li_30, li_31, li_32, li_33, li_34, li_35, li_36, li_37, li_38, li_39, li_40, li_41, li_42, li_43, li_44, li_45, li_46, li_47, li_48, li_49, li_50, li_51, li_52, li_53, li_54, li_55, li_56, li_57, li_58, li_59, li_60, li_61, li_62, li_63, li_64, li_65, li_66, li_96, li_97, li_99, li_100, li_122, li_125, li_126, li_140, li_255, li_256, li_999, li_1000, li_1001, li_1002, li_1100, li_1386, li_1452, li_1518, li_9999, li_1000000, nm_eq, mb, bd_s, ma, n10, ↓reduceIte, hwo]
  · obtain ⟨z, hz⟩ := bits_any hf x
    refine ⟨mI 1, S, sI v 0 (nI 0), ?_, ?_, hno⟩
    · have : ∃ z, f_J6_bitCount_0f7a4 fu x = some z := ⟨_, rfl⟩
      obtain ⟨z2, hz2⟩ := this
      simp only [f_X12_tree, f_X12_tree_0, f_X12_tree_33, ↓lm_1, ↓lm_2, ↓lm_3, ↓lm_4, ↓lm_5, ↓lm_6, ↓lm_7, ↓lm_8, ↓lm_9, ↓lm_10, ↓lm_11, li_0, li_1, li_2, li_3, li_4, li_5, li_6, li_7, li_8, li_9, li_10, li_11, li_12, li_13, li_14, li_15, li_16, li_17, li_18, li_19, li_20, li_21, li_22, li_23, li_24, li_25, li_26, li_27, li_28, li_29, li_30, li_31, li_32, li_33, li_34, li_35, li_36, li_37, li_38, li_39, li_40, li_41, li_42, li_43, li_44, li_45, li_46, li_47, li_48, li_49, li_50, li_51, li_52, li_53, li_54, li_55, li_56, li_57, li_58, li_59, li_60, li_61, li_62, li_63, li_64, li_65, li_66, li_96, li_97, li_99, li_100, li_122, li_125, li_126, li_140, li_255, li_256, li_999, li_1000, li_1001, li_1002, li_1100, li_1386, li_1452, li_1518, li_9999, li_1000000, hz2, bd_s, c_areThere_out hA hC hx, ↓reduceIte]
    · simp only [f_X13_tree, f_X13_tree_0, f_X13_tree_37, ↓lm_1, ↓lm_2, ↓lm_3, ↓lm_4, ↓lm_5, ↓lm_6, ↓lm_7, ↓lm_8, ↓lm_9, ↓lm_10, ↓lm_11, li_0, li_1, li_2, li_3, li_4, li_5, li_6, li_7, li_8, li_9, li_10, li_11, li_12, li_13, li_14, li_15, li_16, li_17, li_18, li_19, li_20, li_21, li_22, li_23, li_24, li_25, li_26, li_27, li_28, li_29, li_30, li_31, li_32, li_33, li_34, li_35, li_36, li_37, li_38, li_39, li_40, li_41, li_42, li_43, li_44, li_45, li_46, li_47, li_48, li_49, li_50, li_51, li_52, li_53, li_54, li_55, li_56, li_57, li_58, li_59, li_60, li_61, li_62, li_63, li_64, li_65, li_66, li_96, li_97, li_99, li_100, li_122, li_125, li_126, li_140, li_255, li_256, li_999, li_1000, li_1001, li_1002, li_1100, li_1386, li_1452, li_1518, li_9999, li_1000000, nm_eq, hz, bd_s, m_areThere_out hA hh hx, ↓reduceIte]
