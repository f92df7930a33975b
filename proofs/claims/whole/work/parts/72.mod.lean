/-! ===== loops whose states are known in a row; sets of numbers; a block of the model's state ===== -/
theorem for1 {A β : Type} (F : (A → Option β) → A → Option β) (a : Nat → A) (i e : Nat) (r : Option β) (hx : ∀ rec, F rec (a e) = r) (hs : ∀ k rec, i ≤ k → k < e → F rec (a k) = rec (a (k + 1))) : ∀ n, i ≤ e → e - i < n → lq_1 F n (a i) = r := by
  intro n
  induction n generalizing i with
  | zero => intro _ h; omega
  | succ n ih =>
    intro hi hn
    rw [lq1_s]
    by_cases q : i = e
    · subst q; exact hx _
    · rw [hs i _ (Nat.le_refl _) (by omega)]
      exact ih (i + 1) (fun k rec h1 h2 => hs k rec (by omega) h2) (by omega) (by omega)
theorem for2 {A B β : Type} (F : (A → B → Option β) → A → B → Option β) (a : Nat → A) (b : Nat → B) (i e : Nat) (r : Option β) (hx : ∀ rec, F rec (a e) (b e) = r) (hs : ∀ k rec, i ≤ k → k < e → F rec (a k) (b k) = rec (a (k + 1)) (b (k + 1))) : ∀ n, i ≤ e → e - i < n → lq_2 F n (a i) (b i) = r := by
  intro n
  induction n generalizing i with
  | zero => intro _ h; omega
  | succ n ih =>
    intro hi hn
    rw [lq2_s]
    by_cases q : i = e
    · subst q; exact hx _
    · rw [hs i _ (Nat.le_refl _) (by omega)]
      exact ih (i + 1) (fun k rec h1 h2 => hs k rec (by omega) h2) (by omega) (by omega)
theorem for3 {A B C β : Type} (F : (A → B → C → Option β) → A → B → C → Option β) (a : Nat → A) (b : Nat → B) (c : Nat → C) (i e : Nat) (r : Option β) (hx : ∀ rec, F rec (a e) (b e) (c e) = r) (hs : ∀ k rec, i ≤ k → k < e → F rec (a k) (b k) (c k) = rec (a (k + 1)) (b (k + 1)) (c (k + 1))) : ∀ n, i ≤ e → e - i < n → lq_3 F n (a i) (b i) (c i) = r := by
  intro n
  induction n generalizing i with
  | zero => intro _ h; omega
  | succ n ih =>
    intro hi hn
    rw [lq3_s]
    by_cases q : i = e
    · subst q; exact hx _
    · rw [hs i _ (Nat.le_refl _) (by omega)]
      exact ih (i + 1) (fun k rec h1 h2 => hs k rec (by omega) h2) (by omega) (by omega)
theorem for4 {A B C D β : Type} (F : (A → B → C → D → Option β) → A → B → C → D → Option β) (a : Nat → A) (b : Nat → B) (c : Nat → C) (d : Nat → D) (i e : Nat) (r : Option β) (hx : ∀ rec, F rec (a e) (b e) (c e) (d e) = r) (hs : ∀ k rec, i ≤ k → k < e → F rec (a k) (b k) (c k) (d k) = rec (a (k + 1)) (b (k + 1)) (c (k + 1)) (d (k + 1))) : ∀ n, i ≤ e → e - i < n → lq_4 F n (a i) (b i) (c i) (d i) = r := by
  intro n
  induction n generalizing i with
  | zero => intro _ h; omega
  | succ n ih =>
    intro hi hn
    rw [lq4_s]
    by_cases q : i = e
    · subst q; exact hx _
    · rw [hs i _ (Nat.le_refl _) (by omega)]
      exact ih (i + 1) (fun k rec h1 h2 => hs k rec (by omega) h2) (by omega) (by omega)
/-- the set of the numbers under k that are so -/
def setb (P : Nat → Bool) : Nat → Nat
  | 0 => 0
  | k + 1 => if P k = true then setb P k ||| 2 ^ k else setb P k
theorem setb_lt (P : Nat → Bool) (k : Nat) : setb P k < 2 ^ k := by
  induction k with
  | zero => exact Nat.one_pos
  | succ k ih =>
    have h2 : 2 ^ (k + 1) = 2 ^ k + 2 ^ k := by rw [Nat.pow_succ]; omega
    simp only [setb]
    split
    · exact Nat.or_lt_two_pow (by omega) (by omega)
    · omega
theorem setb_congr {P Q : Nat → Bool} {k : Nat} (h : ∀ i, i < k → P i = Q i) : setb P k = setb Q k := by
  induction k with
  | zero => rfl
  | succ k ih => simp only [setb]; rw [ih (fun i hi => h i (by omega)), h k (by omega)]
theorem p2_lt {k n : Nat} (h : k < n) (hn : n ≤ 31) : 2 ^ k < 2147483648 := by
  have : 2 ^ k < 2 ^ 31 := Nat.pow_lt_pow_right (by decide) (by omega)
  omega
theorem setb_lt' (P : Nat → Bool) {k : Nat} (h : k ≤ 31) : setb P k < 2147483648 := by
  have := setb_lt P k
  have : 2 ^ k ≤ 2 ^ 31 := Nat.pow_le_pow_right (by decide) h
  omega
/-- a step of a loop that makes a set -/
theorem setb_step (P : Nat → Bool) {k : Nat} (h : k < 31) : (nI (setb P k) ||| nI (2 ^ k)) = nI (setb P k ||| 2 ^ k) := nI_orN (by have := setb_lt' P (k := k) (by omega); omega) (by have := p2_lt (k := k) (n := 31) h (by decide); omega)
def bk48 (f : Nat → Int32) (b : Nat) (h : Nat → Int32) : Nat → Int32 := fun q => if b ≤ q ∧ q < b + 48 then h (q - b) else f q
def mb (v : GV) (b : Nat) (h : Nat → Int32) : GV := sAf v 24 (bk48 (gA v 24) b h)
theorem mb_rd {v : GV} {b i : Nat} {h : Nat → Int32} (hi : i < 48) : gA (mb v b h) 24 (b + i) = h i := by
  simp only [mb, gA_sAf, bk48]
  rw [if_pos ⟨by omega, by omega⟩, Nat.add_sub_cancel_left]
theorem mb_ro {v : GV} {b q : Nat} {h : Nat → Int32} (hi : q < b ∨ b + 48 ≤ q) : gA (mb v b h) 24 q = gA v 24 q := by
  simp only [mb, gA_sAf, bk48]
  rw [if_neg (by omega)]
theorem mb_A {v : GV} {b k : Nat} {h : Nat → Int32} (hk : k ≠ 24) : gA (mb v b h) k = gA v k := by simp only [mb, gA_sAfn _ _ hk]
theorem mb_I {v : GV} {b k : Nat} {h : Nat → Int32} : gI (mb v b h) k = gI v k := (id rfl)
theorem mb_J {v : GV} {b k : Nat} {h : Nat → Int32} : gJ (mb v b h) k = gJ v k := (id rfl)
theorem mb_L {v : GV} {b k : Nat} {h : Nat → Int32} : gL (mb v b h) k = gL v k := (id rfl)
theorem mb_C {v : GV} {b : Nat} {h : Nat → Int32} : gC (mb v b h) = gC v := (id rfl)
theorem mb_mb {v : GV} {b : Nat} {h h' : Nat → Int32} : mb (mb v b h) b h' = mb v b h' := by
  simp only [mb, sAf_sAf, gA_sAf]
  congr 1
  funext q
  by_cases c : b ≤ q ∧ q < b + 48 <;> simp [bk48, c]
theorem mb_wr {v : GV} {b i : Nat} {h : Nat → Int32} {x : Int32} (hi : i < 48) : sA (mb v b h) 24 (b + i) x = mb v b (upd h i x) := by
  simp only [mb, sA, sAf_sAf, gA_sAf]
  congr 1
  funext q
  by_cases c : b ≤ q ∧ q < b + 48
  · by_cases e : q = b + i
    · subst e; simp [upd, bk48, hi]
    · simp only [upd, bk48, if_neg e, if_pos c]; rw [if_neg (by omega)]
  · have e : q ≠ b + i := by omega
    simp only [upd, bk48, if_neg e, if_neg c]
theorem mb_self {v : GV} {b : Nat} : mb v b (fun k => gA v 24 (b + k)) = v := by
  have : bk48 (gA v 24) b (fun k => gA v 24 (b + k)) = gA v 24 := by
    funext q
    by_cases c : b ≤ q ∧ q < b + 48
    · simp only [bk48, if_pos c]; congr 1; omega
    · simp only [bk48, if_neg c]
  rw [mb, this, sAf_self]
theorem mb_congr {v : GV} {b : Nat} {h h' : Nat → Int32} (e : ∀ k, k < 48 → h k = h' k) : mb v b h = mb v b h' := by
  simp only [mb]
  congr 1
  funext q
  by_cases c : b ≤ q ∧ q < b + 48
  · simp only [bk48, if_pos c]; exact e _ (by omega)
  · simp only [bk48, if_neg c]
theorem mb_sAf {v : GV} {b k : Nat} {h f : Nat → Int32} (hk : k ≠ 24) : sAf (mb v b h) k f = mb (sAf v k f) b h := by
  have : gA (sAf v k f) 24 = gA v 24 := gA_sAfn _ _ (fun q => hk q.symm)
  simp only [mb, this]
  simp only [sAf]
  congr 3
  funext j
  by_cases h1 : j = 24
  · have : j ≠ k := by omega
    subst h1; simp [va_up, this]
  · by_cases h2 : j = k
    · subst h2; simp [va_up, h1]
    · simp [va_up, h1, h2]
theorem mb_sA {v : GV} {b k i : Nat} {h : Nat → Int32} {x : Int32} (hk : k ≠ 24) : sA (mb v b h) k i x = mb (sA v k i x) b h := by
  simp only [sA, mb_A hk]
  exact mb_sAf hk
theorem mb_sI {v : GV} {b k : Nat} {h : Nat → Int32} {x : Int32} : sI (mb v b h) k x = mb (sI v k x) b h := (id rfl)
theorem mb_sJ {v : GV} {b k : Nat} {h : Nat → Int32} {x : Int64} : sJ (mb v b h) k x = mb (sJ v k x) b h := (id rfl)
section M
variable {fu : Nat} {v : GV} {h ga : Nat → Int32} {b : Nat}
theorem x13_bits {x : Nat} (hf : 31 ≤ fu) (hx : x < 1073741824) : f_X13_bits fu (nI x) = some (nI (pcn x)) := by
  simp only [f_X13_bits_4s, f_X13_bits_4, f_X13_bits_0, f_X13_bits]
  refine for2 _ (fun k => nI (bs x k)) (fun k => nI k) 0 30 _ ?_ ?_ fu (by omega) (by omega)
  · intro rec
    simp only [f_X13_bits_4s, f_X13_bits_4, f_X13_bits_0, f_X13_bits, ↓lm_1, ↓lm_2, ↓lm_3, ↓lm_4, ↓lm_5, ↓lm_6, ↓lm_7, ↓lm_8, ↓lm_9, ↓lm_10, ↓lm_11, li_0, li_1, li_2, li_3, li_4, li_5, li_6, li_7, li_8, li_9, li_10, li_11, li_12, li_13, li_14, li_15, li_16, li_17, li_18, li_19, li_20, li_21, li_22, li_23, li_24, li_25, li_26, li_27, li_28, li_29, li_30, li_31, li_32, li_33, li_34, li_35, li_36, li_37, li_38, li_39, li_40, li_41, li_42, li_43, li_44, li_45, li_46, li_47, li_48, li_49, li_50, li_51, li_52, li_53, li_54, li_55, li_56, li_57, li_58, li_59, li_60, li_61, li_62, li_63, li_64, li_65, li_66, li_96, li_97, li_99, li_100, li_122, li_125, li_126, li_140, li_255, li_256, li_999, li_1000, li_1001, li_1002, li_1100, li_1386, li_1452, li_1518, li_9999, li_1000000, ↓reduceIte, Nat.reduceEqDiff, Nat.reduceAdd, Nat.reduceSub, Nat.reduceMul, Nat.reduceLT, Nat.reduceLeDiff, reduceCtorEq, Nat.add_zero, Nat.zero_add, ne_eq, not_true_eq_false, not_false_eq_true, Nat.succ_ne_self, Nat.zero_ne_one, Nat.one_ne_zero, decide_true, decide_false, Bool.false_eq_true, and_true, true_and, and_self, and_false, false_and, pcn]
    rw [if_pos (nI_le (Nat.le_refl _) (by decide))]
  · intro k rec _ hk
    simp (disch := omega) only [f_X13_bits_4s, f_X13_bits_4, f_X13_bits_0, f_X13_bits, ↓lm_1, ↓lm_2, ↓lm_3, ↓lm_4, ↓lm_5, ↓lm_6, ↓lm_7, ↓lm_8, ↓lm_9, ↓lm_10, ↓lm_11, li_0, li_1, li_2, li_3, li_4, li_5, li_6, li_7, li_8, li_9, li_10, li_11, li_12, li_13, li_14, li_15, li_16, li_17, li_18, li_19, li_20, li_21, li_22, li_23, li_24, li_25, li_26, li_27, li_28, li_29, li_30, li_31, li_32, li_33, li_34, li_35, li_36, li_37, li_38, li_39, li_40, li_41, li_42, li_43, li_44, li_45, li_46, li_47, li_48, li_49, li_50, li_51, li_52, li_53, li_54, li_55, li_56, li_57, li_58, li_59, li_60, li_61, li_62, li_63, li_64, li_65, li_66, li_96, li_97, li_99, li_100, li_122, li_125, li_126, li_140, li_255, li_256, li_999, li_1000, li_1001, li_1002, li_1100, li_1386, li_1452, li_1518, li_9999, li_1000000, ↓reduceIte, Nat.reduceEqDiff, Nat.reduceAdd, Nat.reduceSub, Nat.reduceMul, Nat.reduceLT, Nat.reduceLeDiff, reduceCtorEq, Nat.add_zero, Nat.zero_add, ne_eq, not_true_eq_false, not_false_eq_true, Nat.succ_ne_self, Nat.zero_ne_one, Nat.one_ne_zero, decide_true, decide_false, Bool.false_eq_true, and_true, true_and, and_self, and_false, false_and, nm_eq, nI_and31, nI_bt, nI_add, nI_leI, bs]
    rw [if_neg (by omega)]
/-- what hangs, as the model finds it -/
theorem x13_hanging {n j : Nat} (hf : 10 ≤ fu) (hb : b ≤ 1470) (hn : h 2 = nI n) (h8 : n ≤ 8) (hj : j < n) (h5 : h (11 + j) = nI 5) (hu : ∀ k, k < n → h (11 + k) = nI 5 → k = j) : f_X13_hanging fu (mb v b h) (nI b) = some (nI j) := by
  simp only [f_X13_hanging_36, f_X13_hanging_4s, f_X13_hanging_4, f_X13_hanging_0, f_X13_hanging]
  refine for2 _ (fun k => if j < k then nI j else mI 1) (fun k => nI k) 0 n _ ?_ ?_ fu (by omega) (by omega)
  · intro rec
    simp (disch := omega) only [f_X13_hanging_36, f_X13_hanging_4s, f_X13_hanging_4, f_X13_hanging_0, f_X13_hanging, ↓lm_1, ↓lm_2, ↓lm_3, ↓lm_4, ↓lm_5, ↓lm_6, ↓lm_7, ↓lm_8, ↓lm_9, ↓lm_10, ↓lm_11, li_0, li_1, li_2, li_3, li_4, li_5, li_6, li_7, li_8, li_9, li_10, li_11, li_12, li_13, li_14, li_15, li_16, li_17, li_18, li_19, li_20, li_21, li_22, li_23, li_24, li_25, li_26, li_27, li_28, li_29, li_30, li_31, li_32, li_33, li_34, li_35, li_36, li_37, li_38, li_39, li_40, li_41, li_42, li_43, li_44, li_45, li_46, li_47, li_48, li_49, li_50, li_51, li_52, li_53, li_54, li_55, li_56, li_57, li_58, li_59, li_60, li_61, li_62, li_63, li_64, li_65, li_66, li_96, li_97, li_99, li_100, li_122, li_125, li_126, li_140, li_255, li_256, li_999, li_1000, li_1001, li_1002, li_1100, li_1386, li_1452, li_1518, li_9999, li_1000000, ↓nm_eq, ck_t, bd_s, bd2_s, st_same, st_ne, gA_sA, gA_sAn, gI_sA, gJ_sA, gL_sA, gR_sA, gQ_sA, gN_sA, gC_sA, gA_sI, gI_sI, gJ_sI, gL_sI, gR_sI, gQ_sI, gN_sI, gC_sI, gA_sAf, gA_sAfn, gI_sAf, gJ_sAf, gL_sAf, gR_sAf, gQ_sAf, gN_sAf, gC_sAf, gA_sL, gI_sL, gL_sL, gL_sLn, gR_sL, gQ_sL, gN_sL, gC_sL, gA_sR, gI_sR, gL_sR, gJ_sR, gR_sR, gQ_sR, gN_sR, gC_sR, gA_sJ, gI_sJ, gL_sJ, gJ_sJ, gR_sJ, gQ_sJ, gN_sJ, gC_sJ, ↓reduceIte, Nat.reduceEqDiff, Nat.reduceAdd, Nat.reduceSub, Nat.reduceMul, Nat.reduceLT, Nat.reduceLeDiff, reduceCtorEq, Nat.add_zero, Nat.zero_add, ne_eq, not_true_eq_false, not_false_eq_true, Nat.succ_ne_self, Nat.zero_ne_one, Nat.one_ne_zero, decide_true, decide_false, Bool.false_eq_true, and_true, true_and, and_self, and_false, false_and, nI_add, nI_clamp, inb_n, nI_leI, nI_ltI, nI_eq, pk_sub, Nat.add_assoc, mb_rd, hn, Nat.le_refl, if_pos hj]
  · intro k rec _ hk
    simp (disch := omega) only [f_X13_hanging_36, f_X13_hanging_4s, f_X13_hanging_4, f_X13_hanging_0, f_X13_hanging, ↓lm_1, ↓lm_2, ↓lm_3, ↓lm_4, ↓lm_5, ↓lm_6, ↓lm_7, ↓lm_8, ↓lm_9, ↓lm_10, ↓lm_11, li_0, li_1, li_2, li_3, li_4, li_5, li_6, li_7, li_8, li_9, li_10, li_11, li_12, li_13, li_14, li_15, li_16, li_17, li_18, li_19, li_20, li_21, li_22, li_23, li_24, li_25, li_26, li_27, li_28, li_29, li_30, li_31, li_32, li_33, li_34, li_35, li_36, li_37, li_38, li_39, li_40, li_41, li_42, li_43, li_44, li_45, li_46, li_47, li_48, li_49, li_50, li_51, li_52, li_53, li_54, li_55, li_56, li_57, li_58, li_59, li_60, li_61, li_62, li_63, li_64, li_65, li_66, li_96, li_97, li_99, li_100, li_122, li_125, li_126, li_140, li_255, li_256, li_999, li_1000, li_1001, li_1002, li_1100, li_1386, li_1452, li_1518, li_9999, li_1000000, ↓nm_eq, ck_t, bd_s, bd2_s, st_same, st_ne, gA_sA, gA_sAn, gI_sA, gJ_sA, gL_sA, gR_sA, gQ_sA, gN_sA, gC_sA, gA_sI, gI_sI, gJ_sI, gL_sI, gR_sI, gQ_sI, gN_sI, gC_sI, gA_sAf, gA_sAfn, gI_sAf, gJ_sAf, gL_sAf, gR_sAf, gQ_sAf, gN_sAf, gC_sAf, gA_sL, gI_sL, gL_sL, gL_sLn, gR_sL, gQ_sL, gN_sL, gC_sL, gA_sR, gI_sR, gL_sR, gJ_sR, gR_sR, gQ_sR, gN_sR, gC_sR, gA_sJ, gI_sJ, gL_sJ, gJ_sJ, gR_sJ, gQ_sJ, gN_sJ, gC_sJ, ↓reduceIte, Nat.reduceEqDiff, Nat.reduceAdd, Nat.reduceSub, Nat.reduceMul, Nat.reduceLT, Nat.reduceLeDiff, reduceCtorEq, Nat.add_zero, Nat.zero_add, ne_eq, not_true_eq_false, not_false_eq_true, Nat.succ_ne_self, Nat.zero_ne_one, Nat.one_ne_zero, decide_true, decide_false, Bool.false_eq_true, and_true, true_and, and_self, and_false, false_and, nI_add, nI_clamp, inb_n, nI_leI, nI_ltI, nI_eq, pk_sub, Nat.add_assoc, mb_rd, hn]
    rw [if_neg (by omega)]
    by_cases e : k = j
    · subst e
      simp (disch := omega) only [h5, ↓reduceIte, Nat.reduceEqDiff, Nat.reduceAdd, Nat.reduceSub, Nat.reduceMul, Nat.reduceLT, Nat.reduceLeDiff, reduceCtorEq, Nat.add_zero, Nat.zero_add, ne_eq, not_true_eq_false, not_false_eq_true, Nat.succ_ne_self, Nat.zero_ne_one, Nat.one_ne_zero, decide_true, decide_false, Bool.false_eq_true, and_true, true_and, and_self, and_false, false_and, if_pos (Nat.lt_succ_self _)]
    · rw [if_neg (fun q => e (hu k hk q))]
      by_cases c : j < k
      · rw [if_pos c, if_pos (by omega)]
      · rw [if_neg c, if_neg (by omega)]
theorem x13_thieves {nt : Nat} (hg : gA v 10 1 = nI nt) : f_X13_thieves fu v = some (nI nt) := by
  simp (disch := omega) only [f_X13_thieves_0, f_X13_thieves, ↓lm_1, ↓lm_2, ↓lm_3, ↓lm_4, ↓lm_5, ↓lm_6, ↓lm_7, ↓lm_8, ↓lm_9, ↓lm_10, ↓lm_11, li_0, li_1, li_2, li_3, li_4, li_5, li_6, li_7, li_8, li_9, li_10, li_11, li_12, li_13, li_14, li_15, li_16, li_17, li_18, li_19, li_20, li_21, li_22, li_23, li_24, li_25, li_26, li_27, li_28, li_29, li_30, li_31, li_32, li_33, li_34, li_35, li_36, li_37, li_38, li_39, li_40, li_41, li_42, li_43, li_44, li_45, li_46, li_47, li_48, li_49, li_50, li_51, li_52, li_53, li_54, li_55, li_56, li_57, li_58, li_59, li_60, li_61, li_62, li_63, li_64, li_65, li_66, li_96, li_97, li_99, li_100, li_122, li_125, li_126, li_140, li_255, li_256, li_999, li_1000, li_1001, li_1002, li_1100, li_1386, li_1452, li_1518, li_9999, li_1000000, nI_add, nI_clamp, inb_n, nI_leI, nI_ltI, nI_eq, pk_sub, Nat.add_assoc, hg]
theorem x13_spots {ns : Nat} (hg : gA v 10 0 = nI ns) : f_X13_spots fu v = some (nI ns) := by
  simp (disch := omega) only [f_X13_spots_0, f_X13_spots, ↓lm_1, ↓lm_2, ↓lm_3, ↓lm_4, ↓lm_5, ↓lm_6, ↓lm_7, ↓lm_8, ↓lm_9, ↓lm_10, ↓lm_11, li_0, li_1, li_2, li_3, li_4, li_5, li_6, li_7, li_8, li_9, li_10, li_11, li_12, li_13, li_14, li_15, li_16, li_17, li_18, li_19, li_20, li_21, li_22, li_23, li_24, li_25, li_26, li_27, li_28, li_29, li_30, li_31, li_32, li_33, li_34, li_35, li_36, li_37, li_38, li_39, li_40, li_41, li_42, li_43, li_44, li_45, li_46, li_47, li_48, li_49, li_50, li_51, li_52, li_53, li_54, li_55, li_56, li_57, li_58, li_59, li_60, li_61, li_62, li_63, li_64, li_65, li_66, li_96, li_97, li_99, li_100, li_122, li_125, li_126, li_140, li_255, li_256, li_999, li_1000, li_1001, li_1002, li_1100, li_1386, li_1452, li_1518, li_9999, li_1000000, nI_add, nI_clamp, inb_n, nI_leI, nI_ltI, nI_eq, pk_sub, Nat.add_assoc, hg]
theorem x13_experts {ne : Nat} (hg : gA v 10 2 = nI ne) : f_X13_experts fu v = some (nI ne) := by
  simp (disch := omega) only [f_X13_experts_0, f_X13_experts, ↓lm_1, ↓lm_2, ↓lm_3, ↓lm_4, ↓lm_5, ↓lm_6, ↓lm_7, ↓lm_8, ↓lm_9, ↓lm_10, ↓lm_11, li_0, li_1, li_2, li_3, li_4, li_5, li_6, li_7, li_8, li_9, li_10, li_11, li_12, li_13, li_14, li_15, li_16, li_17, li_18, li_19, li_20, li_21, li_22, li_23, li_24, li_25, li_26, li_27, li_28, li_29, li_30, li_31, li_32, li_33, li_34, li_35, li_36, li_37, li_38, li_39, li_40, li_41, li_42, li_43, li_44, li_45, li_46, li_47, li_48, li_49, li_50, li_51, li_52, li_53, li_54, li_55, li_56, li_57, li_58, li_59, li_60, li_61, li_62, li_63, li_64, li_65, li_66, li_96, li_97, li_99, li_100, li_122, li_125, li_126, li_140, li_255, li_256, li_999, li_1000, li_1001, li_1002, li_1100, li_1386, li_1452, li_1518, li_9999, li_1000000, nI_add, nI_clamp, inb_n, nI_leI, nI_ltI, nI_eq, pk_sub, Nat.add_assoc, hg]
theorem x13_thiefOf {t w : Nat} (ht : t < 5) (hw : w < 4) : f_X13_thiefOf fu v (nI t) (nI w) = some (gA v 10 (6 + (4 * t + w))) := by
  simp (disch := omega) only [f_X13_thiefOf_0, f_X13_thiefOf, ↓lm_1, ↓lm_2, ↓lm_3, ↓lm_4, ↓lm_5, ↓lm_6, ↓lm_7, ↓lm_8, ↓lm_9, ↓lm_10, ↓lm_11, li_0, li_1, li_2, li_3, li_4, li_5, li_6, li_7, li_8, li_9, li_10, li_11, li_12, li_13, li_14, li_15, li_16, li_17, li_18, li_19, li_20, li_21, li_22, li_23, li_24, li_25, li_26, li_27, li_28, li_29, li_30, li_31, li_32, li_33, li_34, li_35, li_36, li_37, li_38, li_39, li_40, li_41, li_42, li_43, li_44, li_45, li_46, li_47, li_48, li_49, li_50, li_51, li_52, li_53, li_54, li_55, li_56, li_57, li_58, li_59, li_60, li_61, li_62, li_63, li_64, li_65, li_66, li_96, li_97, li_99, li_100, li_122, li_125, li_126, li_140, li_255, li_256, li_999, li_1000, li_1001, li_1002, li_1100, li_1386, li_1452, li_1518, li_9999, li_1000000, ↓nm_eq, ck_t, bd_s, bd2_s, st_same, st_ne, gA_sA, gA_sAn, gI_sA, gJ_sA, gL_sA, gR_sA, gQ_sA, gN_sA, gC_sA, gA_sI, gI_sI, gJ_sI, gL_sI, gR_sI, gQ_sI, gN_sI, gC_sI, gA_sAf, gA_sAfn, gI_sAf, gJ_sAf, gL_sAf, gR_sAf, gQ_sAf, gN_sAf, gC_sAf, gA_sL, gI_sL, gL_sL, gL_sLn, gR_sL, gQ_sL, gN_sL, gC_sL, gA_sR, gI_sR, gL_sR, gJ_sR, gR_sR, gQ_sR, gN_sR, gC_sR, gA_sJ, gI_sJ, gL_sJ, gJ_sJ, gR_sJ, gQ_sJ, gN_sJ, gC_sJ, ↓reduceIte, Nat.reduceEqDiff, Nat.reduceAdd, Nat.reduceSub, Nat.reduceMul, Nat.reduceLT, Nat.reduceLeDiff, reduceCtorEq, Nat.add_zero, Nat.zero_add, ne_eq, not_true_eq_false, not_false_eq_true, Nat.succ_ne_self, Nat.zero_ne_one, Nat.one_ne_zero, decide_true, decide_false, Bool.false_eq_true, and_true, true_and, and_self, and_false, false_and, nI_mulN, nI_add, nI_clamp, inb_n, nI_leI, nI_ltI, nI_eq, pk_sub, Nat.add_assoc]
end M
