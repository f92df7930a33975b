/-! ===== words, and the tape cut into tokens ===== -/
theorem lcE (x y : Int64) : lg_cmp x y = nI 0 ↔ x = y := by rw [← li_0]; exact lg_cmp_eq x y
theorem lcL (x y : Int64) : lg_cmp x y < nI 0 ↔ x < y := by rw [← li_0]; exact lg_cmp_lt x y
theorem lcLE (x y : Int64) : lg_cmp x y ≤ nI 0 ↔ x ≤ y := by rw [← li_0]; exact lg_cmp_le x y
theorem wdk_lt : ∀ k c, wdk k c = true → c < 32 ^ k := by
  intro k
  induction k with
  | zero => intro c h; simp only [wdk, decide_eq_true_eq] at h; omega
  | succ k ih =>
    intro c h
    simp only [wdk, Bool.or_eq_true, Bool.and_eq_true, decide_eq_true_eq] at h
    rw [Nat.pow_succ]
    rcases h with h | h
    · have := Nat.pow_pos (n := k) (show 0 < 32 by decide); omega
    · have := ih _ h.2; omega
theorem wdk_mono : ∀ k c, wdk k c = true → wdk (k + 1) c = true := by
  intro k
  induction k with
  | zero => intro c h; simp only [wdk, decide_eq_true_eq] at h; subst h; rfl
  | succ k ih =>
    intro c h
    rw [wdk] at h ⊢
    simp only [Bool.or_eq_true, Bool.and_eq_true, decide_eq_true_eq] at h ⊢
    rcases h with h | h
    · exact Or.inl h
    · exact Or.inr ⟨h.1, ih _ h.2⟩
theorem wdk_le {j k c : Nat} (h : wdk j c = true) (hjk : j ≤ k) : wdk k c = true := by
  obtain ⟨d, rfl⟩ : ∃ d, k = j + d := ⟨k - j, by omega⟩
  induction d with
  | zero => exact h
  | succ d ih => exact wdk_mono _ _ (ih (by omega))
theorem cvk_e (k c : Nat) : cvk (k + 1) c = if c = 0 then 0 else 37 * cvk k (c / 32) + c % 32 := (id rfl)
theorem cvk_st : ∀ k c, c < 32 ^ k → cvk (k + 1) c = cvk k c := by
  intro k
  induction k with
  | zero => intro c h; have : c = 0 := by simp only [Nat.pow_zero] at h; omega
            subst this; rfl
  | succ k ih =>
    intro c h
    rw [cvk_e (k + 1) c, cvk_e k c]
    split
    · rfl
    · rw [ih (c / 32) (by rw [Nat.pow_succ] at h; omega)]
theorem cvk_lt : ∀ k c, cvk k c < 37 ^ k := by
  intro k
  induction k with
  | zero => intro c; exact Nat.one_pos
  | succ k ih =>
    intro c
    have hp := Nat.pow_pos (n := k) (show 0 < 37 by decide)
    rw [cvk, Nat.pow_succ]
    split
    · omega
    · have := ih (c / 32); omega
theorem cv_lt (c : Nat) : cv c < 9000000000000000 := Nat.lt_of_lt_of_le (cvk_lt 9 c) (by decide)
theorem cvk_inj : ∀ k a b, wdk k a = true → wdk k b = true → cvk (k + 1) a = cvk (k + 1) b → a = b := by
  intro k
  induction k with
  | zero => intro a b ha hb _; simp only [wdk, decide_eq_true_eq] at ha hb; omega
  | succ k ih =>
    intro a b ha hb h
    simp only [wdk, Bool.or_eq_true, Bool.and_eq_true, decide_eq_true_eq] at ha hb
    rw [cvk_e (k + 1) a, cvk_e (k + 1) b] at h
    by_cases a0 : a = 0
    · rw [if_pos a0] at h
      by_cases b0 : b = 0
      · omega
      · rw [if_neg b0] at h
        rcases hb with hb | hb
        · exact absurd hb b0
        · omega
    · rw [if_neg a0] at h
      rcases ha with ha | ha
      · exact absurd ha a0
      · by_cases b0 : b = 0
        · rw [if_pos b0] at h; omega
        · rw [if_neg b0] at h
          rcases hb with hb | hb
          · exact absurd hb b0
          · have := ih _ _ ha.2 hb.2 (by omega)
            omega
theorem cv_inj {a b : Nat} (ha : wdv a = true) (hb : wdv b = true) : cv a = cv b ↔ a = b := ⟨cvk_inj 8 a b ha hb, fun h => by rw [h]⟩
theorem cv_s {c d : Nat} (h : wdk 7 c = true) (h1 : 1 ≤ d) (h2 : d ≤ 26) : cv (32 * c + d) = 37 * cv c + d := by
  have hl := wdk_lt 7 c h
  have e1 : (32 * c + d) / 32 = c := by omega
  have e2 : (32 * c + d) % 32 = d := by omega
  have e3 : cvk 9 c = cvk 8 c := cvk_st 8 c (by have : (32 : Nat) ^ 7 ≤ 32 ^ 8 := by decide
                                                omega)
  rw [cv, cvk, if_neg (by omega), e1, e2, cv, e3]
theorem wdk_s {k c d : Nat} (h : wdk k c = true) (h1 : 1 ≤ d) (h2 : d ≤ 26) : wdk (k + 1) (32 * c + d) = true := by
  have e1 : (32 * c + d) / 32 = c := by omega
  have e2 : (32 * c + d) % 32 = d := by omega
  rw [wdk, e1, e2, h, decide_eq_true (show 1 ≤ d ∧ d ≤ 26 from ⟨h1, h2⟩)]; simp
/-! the words that mean something -/
def wpN : List Nat := [0, 639476, 21243046, 20293004, 3646931, 52, 114201, 486, 635184, 763528, 193467988, 627891, 24627848, 263748, 20583468, 16819668, 628108, 8029764, 14982420, 17171758, 81284, 624503015602, 2553, 14836, 1476, 498, 20325907, 1253, 284103, 17171557]
theorem wpk_N {i : Nat} (h : i < 30) : wpk.getD i 0 = lN (wpN.getD i 0) := by
  have h2 : (List.range 30).all (fun i => decide (wpk.getD i 0 = lN (wpN.getD i 0))) = true := by decide +kernel
  exact co_dec h2 h
theorem wpN_w {i : Nat} (h : i < 29) : wdv (wpN.getD (i + 1) 0) = true ∧ cv (wpN.getD (i + 1) 0) = wds.getD i 0 := by
  have h2 : (List.range 29).all (fun i => decide (wdv (wpN.getD (i + 1) 0) = true ∧ cv (wpN.getD (i + 1) 0) = wds.getD i 0)) = true := by decide +kernel
  exact co_dec h2 h
theorem wpN_lt {i : Nat} (h : i < 30) : wpN.getD i 0 < 1099511627776 := by
  have h2 : (List.range 30).all (fun i => decide (wpN.getD i 0 < 1099511627776)) = true := by decide +kernel
  exact co_dec h2 h
def wfi (c : Nat) : Nat → Nat → Nat
  | 0, _ => 0
  | m + 1, i => if wpN.getD i 0 = c then i else wfi c m (i + 1)
/-- which word it is -/
def wi (c : Nat) : Nat := wfi c 30 0
theorem wfi_lt (c : Nat) : ∀ m i, i + m ≤ 30 → wfi c m i < 30 ∧ (wfi c m i ≠ 0 → wpN.getD (wfi c m i) 0 = c) := by
  intro m
  induction m with
  | zero => intro i _; exact ⟨by simp [wfi], fun h => absurd rfl h⟩
  | succ m ih =>
    intro i hi
    simp only [wfi]
    by_cases e : wpN.getD i 0 = c
    · rw [if_pos e]; exact ⟨by omega, fun _ => e⟩
    · rw [if_neg e]; exact ih (i + 1) (by omega)
theorem wi_lt (c : Nat) : wi c < 30 := (wfi_lt c 30 0 (by omega)).1
theorem wi_at {i : Nat} (h : i < 30) : wi (wpN.getD i 0) = i := by
  have h2 : (List.range 30).all (fun i => decide (wi (wpN.getD i 0) = i)) = true := by decide +kernel
  exact co_dec h2 h
theorem wi_iff {c i : Nat} (h1 : 1 ≤ i) (h : i < 30) : wi c = i ↔ c = wpN.getD i 0 := by
  constructor
  · intro e
    have := (wfi_lt c 30 0 (by omega)).2
    rw [show wfi c 30 0 = wi c from rfl, e] at this
    exact (this (by omega)).symm
  · intro e; rw [e]; exact wi_at h
theorem x10_of {fu c : Nat} (hf : 1101 ≤ fu) (hc : c < 1099511627776) : f_X10_of fu (lN c) = some (wi c) := by
  have key := lpI1 (fun k2 => f_X10_of_2s fu k2 (lN c)) (fun i y => y = nI i ∧ wfi c (30 - i) i = wi c) (fun r => r = some (wi c)) 30 ?_ ?_ fu 0 (nI 0) ⟨rfl, rfl⟩ (by omega) (by omega)
  · obtain ⟨r, hr, e⟩ := key
    rw [← hr, ← e]
    simp only [f_X10_of, f_X10_of_0, f_X10_of_2, ↓lm_1, ↓lm_2, ↓lm_3, ↓lm_4, ↓lm_5, ↓lm_6, ↓lm_7, ↓lm_8, ↓lm_9, ↓lm_10, ↓lm_11, li_0, li_1, li_2, li_3, li_4, li_5, li_6, li_7, li_8, li_9, li_10, li_11, li_12, li_13, li_14, li_15, li_16, li_17, li_18, li_19, li_20, li_21, li_22, li_23, li_24, li_25, li_26, li_27, li_28, li_29, li_30, li_31, li_32, li_33, li_34, li_35, li_36, li_37, li_38, li_39, li_40, li_41, li_42, li_43, li_44, li_45, li_46, li_47, li_48, li_49, li_50, li_51, li_52, li_53, li_54, li_55, li_56, li_57, li_58, li_59, li_60, li_61, li_62, li_63, li_64, li_65, li_66, li_96, li_97, li_99, li_100, li_122, li_125, li_126, li_140, li_255, li_256, li_999, li_1000, li_1001, li_1002, li_1100, li_1386, li_1452, li_1518, li_9999, li_1000000]
  · rintro y ⟨rfl, h⟩
    refine ⟨_, rfl, fun rec => ?_⟩
    have e : nI 30 ≤ nI 30 := by decide
    have : wi c = 0 := by rw [← h]; rfl
    rw [this]
    simp only [f_X10_of_2s, ↓lm_1, ↓lm_2, ↓lm_3, ↓lm_4, ↓lm_5, ↓lm_6, ↓lm_7, ↓lm_8, ↓lm_9, ↓lm_10, ↓lm_11, li_0, li_1, li_2, li_3, li_4, li_5, li_6, li_7, li_8, li_9, li_10, li_11, li_12, li_13, li_14, li_15, li_16, li_17, li_18, li_19, li_20, li_21, li_22, li_23, li_24, li_25, li_26, li_27, li_28, li_29, li_30, li_31, li_32, li_33, li_34, li_35, li_36, li_37, li_38, li_39, li_40, li_41, li_42, li_43, li_44, li_45, li_46, li_47, li_48, li_49, li_50, li_51, li_52, li_53, li_54, li_55, li_56, li_57, li_58, li_59, li_60, li_61, li_62, li_63, li_64, li_65, li_66, li_96, li_97, li_99, li_100, li_122, li_125, li_126, li_140, li_255, li_256, li_999, li_1000, li_1001, li_1002, li_1100, li_1386, li_1452, li_1518, li_9999, li_1000000, e, ↓reduceIte]
  · rintro i y hi ⟨rfl, h⟩
    have e : ¬ nI 30 ≤ nI i := nI_ge hi (by omega)
    have hw := wpk_N hi
    have hl := wpN_lt hi
    rw [show 30 - i = (30 - (i + 1)) + 1 by omega, wfi] at h
    have c1 : lg_cmp (lN (wpN.getD i 0)) (lN c) = nI 0 ↔ wpN.getD i 0 = c := by rw [lcE, pk_lEQ (by omega) (by omega)]
    by_cases e2 : wpN.getD i 0 = c
    · rw [if_pos e2] at h
      refine Or.inr ⟨_, rfl, fun rec => ?_⟩
      have c2 := c1.mpr e2
      rw [← li_0] at c2
      rw [← h]
      simp (disch := omega) only [f_X10_of_2s, li_30, e, ↓reduceIte, inb_n, ck_t, nI_clamp, hw, c2]
    · rw [if_neg e2] at h
      refine Or.inl ⟨nI (i + 1), ⟨rfl, h⟩, fun rec => ?_⟩
      have c2 : ¬ lg_cmp (lN (wpN.getD i 0)) (lN c) = 0 := by rw [li_0]; exact fun q => e2 (c1.mp q)
      simp (disch := omega) only [f_X10_of_2s, li_30, li_1, e, ↓reduceIte, inb_n, ck_t, nI_clamp, hw, c2, nm_eq, nI_add]
theorem x10_any {fu : Nat} (hf : 1101 ≤ fu) (x : Int64) : ∃ r, r < 30 ∧ f_X10_of fu x = some r := by
  have key := lpI1 (fun k2 => f_X10_of_2s fu k2 x) (fun i y => y = nI i) (fun r => ∃ z, z < 30 ∧ r = some z) 30 ?_ ?_ fu 0 (nI 0) rfl (by omega) (by omega)
  · obtain ⟨r, ⟨z, h1, h2⟩, e⟩ := key
    refine ⟨z, h1, ?_⟩
    rw [← h2, ← e]
    simp only [f_X10_of, f_X10_of_0, f_X10_of_2, ↓lm_1, ↓lm_2, ↓lm_3, ↓lm_4, ↓lm_5, ↓lm_6, ↓lm_7, ↓lm_8, ↓lm_9, ↓lm_10, ↓lm_11, li_0, li_1, li_2, li_3, li_4, li_5, li_6, li_7, li_8, li_9, li_10, li_11, li_12, li_13, li_14, li_15, li_16, li_17, li_18, li_19, li_20, li_21, li_22, li_23, li_24, li_25, li_26, li_27, li_28, li_29, li_30, li_31, li_32, li_33, li_34, li_35, li_36, li_37, li_38, li_39, li_40, li_41, li_42, li_43, li_44, li_45, li_46, li_47, li_48, li_49, li_50, li_51, li_52, li_53, li_54, li_55, li_56, li_57, li_58, li_59, li_60, li_61, li_62, li_63, li_64, li_65, li_66, li_96, li_97, li_99, li_100, li_122, li_125, li_126, li_140, li_255, li_256, li_999, li_1000, li_1001, li_1002, li_1100, li_1386, li_1452, li_1518, li_9999, li_1000000]
  · rintro y rfl
    refine ⟨some 0, ⟨0, by decide, rfl⟩, fun rec => ?_⟩
    have e : nI 30 ≤ nI 30 := by decide
    simp only [f_X10_of_2s, ↓lm_1, ↓lm_2, ↓lm_3, ↓lm_4, ↓lm_5, ↓lm_6, ↓lm_7, ↓lm_8, ↓lm_9, ↓lm_10, ↓lm_11, li_0, li_1, li_2, li_3, li_4, li_5, li_6, li_7, li_8, li_9, li_10, li_11, li_12, li_13, li_14, li_15, li_16, li_17, li_18, li_19, li_20, li_21, li_22, li_23, li_24, li_25, li_26, li_27, li_28, li_29, li_30, li_31, li_32, li_33, li_34, li_35, li_36, li_37, li_38, li_39, li_40, li_41, li_42, li_43, li_44, li_45, li_46, li_47, li_48, li_49, li_50, li_51, li_52, li_53, li_54, li_55, li_56, li_57, li_58, li_59, li_60, li_61, li_62, li_63, li_64, li_65, li_66, li_96, li_97, li_99, li_100, li_122, li_125, li_126, li_140, li_255, li_256, li_999, li_1000, li_1001, li_1002, li_1100, li_1386, li_1452, li_1518, li_9999, li_1000000, e, ↓reduceIte]
  · rintro i y hi rfl
    have e : ¬ nI 30 ≤ nI i := nI_ge hi (by omega)
    by_cases c2 : lg_cmp (wpk.getD i 0) x = 0
    · refine Or.inr ⟨some i, ⟨i, hi, rfl⟩, fun rec => ?_⟩
      simp (disch := omega) only [f_X10_of_2s, li_30, e, ↓reduceIte, inb_n, ck_t, nI_clamp, c2]
    · refine Or.inl ⟨nI (i + 1), rfl, fun rec => ?_⟩
      simp (disch := omega) only [f_X10_of_2s, li_30, li_1, e, ↓reduceIte, inb_n, ck_t, nI_clamp, c2, nm_eq, nI_add]
/-! runs of letters and of digits -/
def rl (P : Nat → Bool) (len : Nat) : Nat → Nat → Nat
  | 0, _ => 0
  | m + 1, k => if k < len ∧ P k = true then 1 + rl P len m (k + 1) else 0
theorem rl_in (P : Nat → Bool) (len : Nat) : ∀ m k j, j < rl P len m k → k + j < len ∧ P (k + j) = true := by
  intro m
  induction m with
  | zero => intro k j h; simp [rl] at h
  | succ m ih =>
    intro k j h
    simp only [rl] at h
    by_cases c : k < len ∧ P k = true
    · rw [if_pos c] at h
      by_cases e : j = 0
      · subst e; exact c
      · have := ih (k + 1) (j - 1) (by omega)
        rwa [show k + 1 + (j - 1) = k + j by omega] at this
    · rw [if_neg c] at h; omega
theorem rl_end (P : Nat → Bool) (len : Nat) : ∀ m k, len ≤ k + m → ¬ (k + rl P len m k < len ∧ P (k + rl P len m k) = true) := by
  intro m
  induction m with
  | zero => intro k h; simp only [rl]; omega
  | succ m ih =>
    intro k h
    simp only [rl]
    by_cases c : k < len ∧ P k = true
    · rw [if_pos c, ← Nat.add_assoc]; exact ih (k + 1) (by omega)
    · rw [if_neg c]; exact c
theorem rl_le (P : Nat → Bool) (len : Nat) : ∀ m k, k ≤ len → k + rl P len m k ≤ len := by
  intro m
  induction m with
  | zero => intro k h; exact h
  | succ m ih =>
    intro k h
    simp only [rl]
    by_cases c : k < len ∧ P k = true
    · rw [if_pos c, ← Nat.add_assoc]; exact ih (k + 1) (by omega)
    · rw [if_neg c]; exact h
def isl (c : Nat) : Bool := decide (97 ≤ c ∧ c ≤ 122)
def isd (c : Nat) : Bool := decide (48 ≤ c ∧ c ≤ 57)
def pkd (T : Nat → Nat) (k : Nat) : Nat → Nat
  | 0 => 0
  | j + 1 => 32 * pkd T k j + (T (k + j) - 96)
def pnd (T : Nat → Nat) (k : Nat) : Nat → Nat
  | 0 => 0
  | j + 1 => 10 * pnd T k j + (T (k + j) - 48)
theorem pkd_w {T : Nat → Nat} {k : Nat} : ∀ j, (∀ i, i < j → isl (T (k + i)) = true) → wdk j (pkd T k j) = true := by
  intro j
  induction j with
  | zero => intro _; rfl
  | succ j ih =>
    intro h
    have := of_decide_eq_true (h j (by omega))
    exact wdk_s (ih (fun i hi => h i (by omega))) (by omega) (by omega)
theorem pnd_lt {T : Nat → Nat} {k : Nat} : ∀ j, (∀ i, i < j → isd (T (k + i)) = true) → pnd T k j < 10 ^ j := by
  intro j
  induction j with
  | zero => intro _; exact Nat.one_pos
  | succ j ih =>
    intro h
    have h1 := of_decide_eq_true (h j (by omega))
    have h2 := ih (fun i hi => h i (by omega))
    simp only [pnd]; rw [Nat.pow_succ]; omega
theorem x8_isLetter {fu c : Nat} (hc : c < 128) : f_X8_isLetter fu (nI c) = some (b01 (isl c)) := by
  simp (disch := omega) only [f_X8_isLetter, f_X8_isLetter_0, f_X8_isLetter_16, ↓lm_1, ↓lm_2, ↓lm_3, ↓lm_4, ↓lm_5, ↓lm_6, ↓lm_7, ↓lm_8, ↓lm_9, ↓lm_10, ↓lm_11, li_0, li_1, li_2, li_3, li_4, li_5, li_6, li_7, li_8, li_9, li_10, li_11, li_12, li_13, li_14, li_15, li_16, li_17, li_18, li_19, li_20, li_21, li_22, li_23, li_24, li_25, li_26, li_27, li_28, li_29, li_30, li_31, li_32, li_33, li_34, li_35, li_36, li_37, li_38, li_39, li_40, li_41, li_42, li_43, li_44, li_45, li_46, li_47, li_48, li_49, li_50, li_51, li_52, li_53, li_54, li_55, li_56, li_57, li_58, li_59, li_60, li_61, li_62, li_63, li_64, li_65, li_66, li_96, li_97, li_99, li_100, li_122, li_125, li_126, li_140, li_255, li_256, li_999, li_1000, li_1001, li_1002, li_1100, li_1386, li_1452, li_1518, li_9999, li_1000000, nI_ltI]
  unfold isl
  by_cases h1 : c < 97
  · rw [if_pos h1, decide_eq_false (by omega)]; rfl
  · rw [if_neg h1]
    by_cases h2 : 122 < c
    · rw [if_pos h2, decide_eq_false (by omega)]; rfl
    · rw [if_neg h2, decide_eq_true (by omega)]; rfl
theorem x8_isDigit {fu c : Nat} (hc : c < 128) : f_X8_isDigit fu (nI c) = some (b01 (isd c)) := by
  simp (disch := omega) only [f_X8_isDigit, f_X8_isDigit_0, f_X8_isDigit_16, ↓lm_1, ↓lm_2, ↓lm_3, ↓lm_4, ↓lm_5, ↓lm_6, ↓lm_7, ↓lm_8, ↓lm_9, ↓lm_10, ↓lm_11, li_0, li_1, li_2, li_3, li_4, li_5, li_6, li_7, li_8, li_9, li_10, li_11, li_12, li_13, li_14, li_15, li_16, li_17, li_18, li_19, li_20, li_21, li_22, li_23, li_24, li_25, li_26, li_27, li_28, li_29, li_30, li_31, li_32, li_33, li_34, li_35, li_36, li_37, li_38, li_39, li_40, li_41, li_42, li_43, li_44, li_45, li_46, li_47, li_48, li_49, li_50, li_51, li_52, li_53, li_54, li_55, li_56, li_57, li_58, li_59, li_60, li_61, li_62, li_63, li_64, li_65, li_66, li_96, li_97, li_99, li_100, li_122, li_125, li_126, li_140, li_255, li_256, li_999, li_1000, li_1001, li_1002, li_1100, li_1386, li_1452, li_1518, li_9999, li_1000000, nI_ltI]
  unfold isd
  by_cases h1 : c < 48
  · rw [if_pos h1, decide_eq_false (by omega)]; rfl
  · rw [if_neg h1]
    by_cases h2 : 57 < c
    · rw [if_pos h2, decide_eq_false (by omega)]; rfl
    · rw [if_neg h2, decide_eq_true (by omega)]; rfl
theorem x13_isLetter {fu c : Nat} (hc : c < 128) : f_X13_isLetter fu (nI c) = some (b01 (isl c)) := by
  simp (disch := omega) only [f_X13_isLetter, f_X13_isLetter_0, f_X13_isLetter_16, ↓lm_1, ↓lm_2, ↓lm_3, ↓lm_4, ↓lm_5, ↓lm_6, ↓lm_7, ↓lm_8, ↓lm_9, ↓lm_10, ↓lm_11, li_0, li_1, li_2, li_3, li_4, li_5, li_6, li_7, li_8, li_9, li_10, li_11, li_12, li_13, li_14, li_15, li_16, li_17, li_18, li_19, li_20, li_21, li_22, li_23, li_24, li_25, li_26, li_27, li_28, li_29, li_30, li_31, li_32, li_33, li_34, li_35, li_36, li_37, li_38, li_39, li_40, li_41, li_42, li_43, li_44, li_45, li_46, li_47, li_48, li_49, li_50, li_51, li_52, li_53, li_54, li_55, li_56, li_57, li_58, li_59, li_60, li_61, li_62, li_63, li_64, li_65, li_66, li_96, li_97, li_99, li_100, li_122, li_125, li_126, li_140, li_255, li_256, li_999, li_1000, li_1001, li_1002, li_1100, li_1386, li_1452, li_1518, li_9999, li_1000000, nI_ltI]
  unfold isl
  by_cases h1 : c < 97
  · rw [if_pos h1, decide_eq_false (by omega)]; rfl
  · rw [if_neg h1]
    by_cases h2 : 122 < c
    · rw [if_pos h2, decide_eq_false (by omega)]; rfl
    · rw [if_neg h2, decide_eq_true (by omega)]; rfl
theorem x13_isDigit {fu c : Nat} (hc : c < 128) : f_X13_isDigit fu (nI c) = some (b01 (isd c)) := by
  simp (disch := omega) only [f_X13_isDigit, f_X13_isDigit_0, f_X13_isDigit_16, ↓lm_1, ↓lm_2, ↓lm_3, ↓lm_4, ↓lm_5, ↓lm_6, ↓lm_7, ↓lm_8, ↓lm_9, ↓lm_10, ↓lm_11, li_0, li_1, li_2, li_3, li_4, li_5, li_6, li_7, li_8, li_9, li_10, li_11, li_12, li_13, li_14, li_15, li_16, li_17, li_18, li_19, li_20, li_21, li_22, li_23, li_24, li_25, li_26, li_27, li_28, li_29, li_30, li_31, li_32, li_33, li_34, li_35, li_36, li_37, li_38, li_39, li_40, li_41, li_42, li_43, li_44, li_45, li_46, li_47, li_48, li_49, li_50, li_51, li_52, li_53, li_54, li_55, li_56, li_57, li_58, li_59, li_60, li_61, li_62, li_63, li_64, li_65, li_66, li_96, li_97, li_99, li_100, li_122, li_125, li_126, li_140, li_255, li_256, li_999, li_1000, li_1001, li_1002, li_1100, li_1386, li_1452, li_1518, li_9999, li_1000000, nI_ltI]
  unfold isd
  by_cases h1 : c < 48
  · rw [if_pos h1, decide_eq_false (by omega)]; rfl
  · rw [if_neg h1]
    by_cases h2 : 57 < c
    · rw [if_pos h2, decide_eq_false (by omega)]; rfl
    · rw [if_neg h2, decide_eq_true (by omega)]; rfl
/-- a sign of the language -/
def isg (c : Nat) : Bool := decide (c = 40 ∨ c = 41 ∨ c = 59 ∨ c = 61 ∨ c = 60 ∨ c = 43 ∨ c = 45 ∨ c = 42)
theorem x13_isSignOf {fu c : Nat} (hc : c < 128) : f_X13_isSignOf fu (nI c) = some (b01 (isg c)) := by
  have h : (List.range 128).all (fun c => decide (f_X13_isSignOf 0 (nI c) = some (b01 (isg c)))) = true := by decide +kernel
  exact co_dec (P := fun c => f_X13_isSignOf 0 (nI c) = some (b01 (isg c))) h hc
theorem sgn_at {i c : Nat} (hi : i < 8) (hc : c < 128) : (sgn.getD i 0 = (nI c).toInt8.toInt32) = (sgn.getD i 0 = nI c) := by
  have h : (List.range 128).all (fun c => decide ((nI c).toInt8.toInt32 = nI c)) = true := by decide +kernel
  rw [co_dec h hc]
theorem x_indexOf {fu c : Nat} (hf : 1101 ≤ fu) (hc : c < 128) : ∃ z, f_J0_indexOf_0f7a4 fu (nI c) = some z ∧ (z < nI 0 ↔ isg c = false) := by
  have h8 : (nI c).toInt8.toInt32 = nI c := by
    have h : (List.range 128).all (fun c => decide ((nI c).toInt8.toInt32 = nI c)) = true := by decide +kernel
    exact co_dec h hc
  have hl : f_J0_length_8abf5 fu = some (nI 8) := by
    have : f_J0_length_8abf5 fu = some ((8 : Int32) >>> ((0 : Int32) &&& 31)) := rfl
    rw [this]; decide
  have hlat : f_J0_isLatin1_aae02 fu = some (nI 1) := by
    have : f_J0_isLatin1_aae02 fu = some (1 : Int32) := rfl
    rw [this]; decide
  have hcan : f_J1_canEncode_9a6ad fu (nI c) = some (nI 1) := by
    have e1 : ¬ nI c < nI 0 := nI_nlt (by omega) (by omega)
    have e2 : ¬ nI 255 < nI c := nI_nlt (by omega) (by omega)
    simp only [f_J1_canEncode_9a6ad, f_J1_canEncode_9a6ad_0, ↓lm_1, ↓lm_2, ↓lm_3, ↓lm_4, ↓lm_5, ↓lm_6, ↓lm_7, ↓lm_8, ↓lm_9, ↓lm_10, ↓lm_11, li_0, li_1, li_2, li_3, li_4, li_5, li_6, li_7, li_8, li_9, li_10, li_11, li_12, li_13, li_14, li_15, li_16, li_17, li_18, li_19, li_20, li_21, li_22, li_23, li_24, li_25, li_26, li_27, li_28, li_29, li_30, li_31, li_32, li_33, li_34, li_35, li_36, li_37, li_38, li_39, li_40, li_41, li_42, li_43, li_44, li_45, li_46, li_47, li_48, li_49, li_50, li_51, li_52, li_53, li_54, li_55, li_56, li_57, li_58, li_59, li_60, li_61, li_62, li_63, li_64, li_65, li_66, li_96, li_97, li_99, li_100, li_122, li_125, li_126, li_140, li_255, li_256, li_999, li_1000, li_1001, li_1002, li_1100, li_1386, li_1452, li_1518, li_9999, li_1000000, e1, e2, ↓reduceIte]
  have hsg : ∀ i, i < 8 → sgn.getD i 0 = nI c → isg c = true := by
    intro i hi e
    have h : (List.range 8).all (fun i => decide ((List.range 128).all (fun c => decide (sgn.getD i 0 = nI c → isg c = true)) = true)) = true := by decide +kernel
    exact co_dec (co_dec h hi) hc e
  have hsn : (∀ i, i < 8 → sgn.getD i 0 ≠ nI c) → isg c = false := by
    intro hn
    have h : (List.range 128).all (fun c => decide (isg c = true → ((List.range 8).any fun i => decide (sgn.getD i 0 = nI c)) = true)) = true := by decide +kernel
    have h2 := co_dec h hc
    cases q : isg c
    · rfl
    · have h3 := h2 q
      rw [List.any_eq_true] at h3
      obtain ⟨i, hi, h4⟩ := h3
      exact absurd (of_decide_eq_true h4) (hn i (List.mem_range.mp hi))
  have key := lpI1 (fun k7 => f_J1_indexOfChar_4cfef_7s fu k7 (nI 8) (nI c)) (fun i y => y = nI i ∧ ∀ j, j < i → sgn.getD j 0 ≠ nI c) (fun r => ∃ z, r = some z ∧ (z < nI 0 ↔ isg c = false)) 8 ?_ ?_ fu 0 (nI 0) ⟨rfl, fun j hj => by omega⟩ (by omega) (by omega)
  · obtain ⟨r, ⟨z, h1, h2⟩, e⟩ := key
    refine ⟨z, ?_, h2⟩
    have n0 : ¬ nI 0 < nI 0 := by decide
    have n8 : ¬ nI 8 < nI 8 := by decide
    have p8 : nI 0 < nI 8 := by decide
    rw [← h1, ← e]
    simp only [f_J0_indexOf_0f7a4, f_J0_indexOf_0f7a4_0, f_J0_indexOf_7cf53, f_J0_indexOf_7cf53_0, f_J1_indexOf_4cfef, f_J1_indexOf_4cfef_0, f_J1_indexOfChar_4cfef, f_J1_indexOfChar_4cfef_0, f_J1_indexOfChar_4cfef_7, ↓lm_1, ↓lm_2, ↓lm_3, ↓lm_4, ↓lm_5, ↓lm_6, ↓lm_7, ↓lm_8, ↓lm_9, ↓lm_10, ↓lm_11, li_0, li_1, li_2, li_3, li_4, li_5, li_6, li_7, li_8, li_9, li_10, li_11, li_12, li_13, li_14, li_15, li_16, li_17, li_18, li_19, li_20, li_21, li_22, li_23, li_24, li_25, li_26, li_27, li_28, li_29, li_30, li_31, li_32, li_33, li_34, li_35, li_36, li_37, li_38, li_39, li_40, li_41, li_42, li_43, li_44, li_45, li_46, li_47, li_48, li_49, li_50, li_51, li_52, li_53, li_54, li_55, li_56, li_57, li_58, li_59, li_60, li_61, li_62, li_63, li_64, li_65, li_66, li_96, li_97, li_99, li_100, li_122, li_125, li_126, li_140, li_255, li_256, li_999, li_1000, li_1001, li_1002, li_1100, li_1386, li_1452, li_1518, li_9999, li_1000000, hlat, bd_s, n10, ↓reduceIte, hl, hcan, n0, n8, p8, nm_eq, h8]
    rw [e, h1]
    rfl
  · rintro y ⟨rfl, h⟩
    refine ⟨some (mI 1), ⟨mI 1, rfl, ?_⟩, fun rec => ?_⟩
    · have : mI 1 < nI 0 := by decide
      simp only [this, true_iff]; exact hsn h
    · have e : nI 8 ≤ nI 8 := by decide
      simp only [f_J1_indexOfChar_4cfef_7s, ↓lm_1, ↓lm_2, ↓lm_3, ↓lm_4, ↓lm_5, ↓lm_6, ↓lm_7, ↓lm_8, ↓lm_9, ↓lm_10, ↓lm_11, li_0, li_1, li_2, li_3, li_4, li_5, li_6, li_7, li_8, li_9, li_10, li_11, li_12, li_13, li_14, li_15, li_16, li_17, li_18, li_19, li_20, li_21, li_22, li_23, li_24, li_25, li_26, li_27, li_28, li_29, li_30, li_31, li_32, li_33, li_34, li_35, li_36, li_37, li_38, li_39, li_40, li_41, li_42, li_43, li_44, li_45, li_46, li_47, li_48, li_49, li_50, li_51, li_52, li_53, li_54, li_55, li_56, li_57, li_58, li_59, li_60, li_61, li_62, li_63, li_64, li_65, li_66, li_96, li_97, li_99, li_100, li_122, li_125, li_126, li_140, li_255, li_256, li_999, li_1000, li_1001, li_1002, li_1100, li_1386, li_1452, li_1518, li_9999, li_1000000, e, ↓reduceIte]
  · rintro i y hi ⟨rfl, h⟩
    have e : ¬ nI 8 ≤ nI i := nI_ge hi (by omega)
    by_cases c2 : sgn.getD i 0 = nI c
    · refine Or.inr ⟨some (nI i), ⟨nI i, rfl, ?_⟩, fun rec => ?_⟩
      · have e1 : ¬ nI i < nI 0 := nI_nlt (by omega) (by omega)
        have := hsg i hi c2
        simp [e1, this]
      · simp (disch := omega) only [f_J1_indexOfChar_4cfef_7s, e, ↓reduceIte, inb_n, ck_t, nI_clamp, c2]
    · refine Or.inl ⟨nI (i + 1), ⟨rfl, fun j hj => ?_⟩, fun rec => ?_⟩
      · by_cases q : j = i
        · rw [q]; exact c2
        · exact h j (by omega)
      · simp (disch := omega) only [f_J1_indexOfChar_4cfef_7s, li_1, e, ↓reduceIte, inb_n, ck_t, nI_clamp, c2, nm_eq, nI_add]
