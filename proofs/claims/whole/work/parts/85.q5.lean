/-! ===== questions: knows, depth, common ===== -/
def alk (q : HP) (s p r : Nat) : Bool := decide ((nI (qo q p) ^^^ nI (qo q r)) &&& nI s = nI 0)
def kal (q : HP) (s X p : Nat) : Nat → Bool
  | 0 => true
  | r + 1 => kal q s X p r && (!(alk q s p r) || decide (bt X r = 1))
theorem kal_iff (q : HP) (s X p : Nat) : ∀ n, kal q s X p n = true ↔ ∀ r, r < n → alk q s p r = true → X.testBit r = true := by
  intro n
  induction n with
  | zero => simp [kal]
  | succ n ih =>
    simp only [kal, Bool.and_eq_true, Bool.or_eq_true, Bool.not_eq_true', decide_eq_true_eq, bt_tb, ih]
    constructor
    · rintro ⟨h1, h2⟩ r hr ha
      by_cases e : r = n
      · subst e
        rcases h2 with h2 | h2
        · rw [ha] at h2; exact absurd h2 (by decide)
        · exact h2
      · exact h1 r (by omega) ha
    · intro h
      refine ⟨fun r hr ha => h r (by omega) ha, ?_⟩
      cases c : alk q s p n
      · exact Or.inl rfl
      · exact Or.inr (h n (by omega) c)
/-- where an expert who sees s knows that it is one of X -/
def knw (q : HP) (s X : Nat) : Nat := setb (fun p => kal q s X p (qn q)) (qn q)
def kne (G : GP) (q : HP) (X : Nat) : Nat → Nat
  | 0 => X
  | e + 1 => kne G q X e &&& knw q (se G e) X
def kit (G : GP) (q : HP) (X : Nat) : Nat → Nat
  | 0 => X
  | k + 1 => kne G q (kit G q X k) (ne G)
theorem kne_sub (G : GP) (q : HP) (X e : Nat) : ∀ j, (kne G q X e).testBit j = true → X.testBit j = true := by
  induction e with
  | zero => intro j h; exact h
  | succ e ih => intro j h; simp only [kne, Nat.testBit_and, Bool.and_eq_true] at h; exact ih j h.1
theorem kne_le (G : GP) (q : HP) (X e : Nat) : kne G q X e ≤ X := by
  induction e with
  | zero => exact Nat.le_refl _
  | succ e ih => exact Nat.le_trans Nat.and_le_left ih
theorem kit_le (G : GP) (q : HP) (X k : Nat) : kit G q X k ≤ X := by
  induction k with
  | zero => exact Nat.le_refl _
  | succ k ih => exact Nat.le_trans (kne_le _ _ _ _) ih
theorem knw_lt (q : HP) (s X : Nat) (h : qn q ≤ 8) : knw q s X < 256 := Nat.lt_of_lt_of_le (setb_lt _ _) (Nat.pow_le_pow_right (n := 2) (by decide) h)
theorem bs_sub {a b : Nat} (h : ∀ j, a.testBit j = true → b.testBit j = true) : ∀ k, bs a k ≤ bs b k := by
  intro k
  induction k with
  | zero => exact Nat.le_refl _
  | succ k ih =>
    simp only [bs]
    rcases bt_01 a k with e | e
    · omega
    · have := (bt_tb b k).mpr (h k ((bt_tb a k).mp e)); omega
theorem bs_lt {a b : Nat} (h : ∀ j, a.testBit j = true → b.testBit j = true) {j : Nat} (h1 : a.testBit j = false) (h2 : b.testBit j = true) : ∀ k, j < k → bs a k < bs b k := by
  intro k
  induction k with
  | zero => intro h; omega
  | succ k ih =>
    intro hk
    simp only [bs]
    by_cases e : j = k
    · subst e
      have := bs_sub h j
      have e1 := (bt_0 a j).mpr h1
      have e2 := (bt_tb b j).mpr h2
      omega
    · have := ih (by omega)
      rcases bt_01 a k with e | e
      · omega
      · have := (bt_tb b k).mpr (h k ((bt_tb a k).mp e)); omega
theorem bs_strict {a b : Nat} (h : ∀ j, a.testBit j = true → b.testBit j = true) (hb : b < 256) (hn : a ≠ b) : bs a 8 < bs b 8 := by
  have hx : ∃ j, a.testBit j ≠ b.testBit j := by
    apply Classical.byContradiction
    intro c
    exact hn (Nat.eq_of_testBit_eq (fun j => Classical.byContradiction fun d => c ⟨j, d⟩))
  obtain ⟨j, hj⟩ := hx
  have h2 : b.testBit j = true := by
    cases c : b.testBit j
    · cases c2 : a.testBit j
      · rw [c, c2] at hj; exact absurd rfl hj
      · rw [h j c2] at c; exact absurd c (by decide)
    · rfl
  have h1 : a.testBit j = false := by
    cases c : a.testBit j
    · rfl
    · rw [c, h2] at hj; exact absurd rfl hj
  have h8 : j < 8 := by
    apply Classical.byContradiction
    intro c
    rw [tb256 hb (by omega)] at h2
    exact absurd h2 (by decide)
  exact bs_lt h h1 h2 8 h8
theorem kit_fix {G : GP} {q : HP} {X : Nat} (hX : X < 256) : ∀ k, kit G q X (k + 1) = kit G q X k ∨ bs (kit G q X (k + 1)) 8 + (k + 1) ≤ 8 := by
  intro k
  induction k with
  | zero =>
    by_cases e : kit G q X 1 = kit G q X 0
    · exact Or.inl e
    · right
      have := bs_strict (kne_sub G q X (ne G)) hX e
      have := bs_le X 8
      simp only [kit]; omega
  | succ k ih =>
    rcases ih with e | e
    · exact Or.inl (congrArg (fun Y => kne G q Y (ne G)) e)
    · by_cases e2 : kit G q X (k + 2) = kit G q X (k + 1)
      · exact Or.inl e2
      · right
        have h1 : kit G q X (k + 1) < 256 := Nat.lt_of_le_of_lt (kit_le _ _ _ _) hX
        have := bs_strict (kne_sub G q (kit G q X (k + 1)) (ne G)) h1 e2
        show bs (kit G q X (k + 2)) 8 + (k + 2) ≤ 8
        have e3 : kit G q X (k + 2) = kne G q (kit G q X (k + 1)) (ne G) := rfl
        rw [e3]; omega
theorem kit_89 {G : GP} {q : HP} {X : Nat} (hX : X < 256) : kit G q X 9 = kit G q X 8 := by
  rcases kit_fix (G := G) (q := q) hX 8 with e | e
  · exact e
  · omega
theorem x3_alike {fu p s : Nat} {w : GV} {q : HP} {G : GP} (hf : 1101 ≤ fu) (hq : okq G q) (hw : CH w q) (hp : p < qn q) : f_X3_alike fu w (nI p) (nI s) = some (nI (setb (alk q s p) (qn q))) := by
  have h8 := hq.1.2.1
  simp only [f_X3_alike, f_X3_alike_0, f_X3_alike_5, ↓lm_1, ↓lm_2, ↓lm_3, ↓lm_4, ↓lm_5, ↓lm_6, ↓lm_7, ↓lm_8, ↓lm_9, ↓lm_10, ↓lm_11, li_0, li_1, li_2, li_3, li_4, li_5, li_6, li_7, li_8, li_9, li_10, li_11, li_12, li_13, li_14, li_15, li_16, li_17, li_18, li_19, li_20, li_21, li_22, li_23, li_24, li_25, li_26, li_27, li_28, li_29, li_30, li_31, li_32, li_33, li_34, li_35, li_36, li_37, li_38, li_39, li_40, li_41, li_42, li_43, li_44, li_45, li_46, li_47, li_48, li_49, li_50, li_51, li_52, li_53, li_54, li_55, li_56, li_57, li_58, li_59, li_60, li_61, li_62, li_63, li_64, li_65, li_66, li_96, li_97, li_99, li_100, li_122, li_125, li_126, li_140, li_255, li_256, li_999, li_1000, li_1001, li_1002, li_1100, li_1386, li_1452, li_1518, li_9999, li_1000000]
  refine for2 _ (fun k => nI (setb (alk q s p) k)) (fun k => nI k) 0 (qn q) _ ?_ ?_ fu (by omega) (by omega)
  · intro rec
    simp (disch := omega) only [f_X3_alike_5s, ↓lm_1, ↓lm_2, ↓lm_3, ↓lm_4, ↓lm_5, ↓lm_6, ↓lm_7, ↓lm_8, ↓lm_9, ↓lm_10, ↓lm_11, li_0, li_1, li_2, li_3, li_4, li_5, li_6, li_7, li_8, li_9, li_10, li_11, li_12, li_13, li_14, li_15, li_16, li_17, li_18, li_19, li_20, li_21, li_22, li_23, li_24, li_25, li_26, li_27, li_28, li_29, li_30, li_31, li_32, li_33, li_34, li_35, li_36, li_37, li_38, li_39, li_40, li_41, li_42, li_43, li_44, li_45, li_46, li_47, li_48, li_49, li_50, li_51, li_52, li_53, li_54, li_55, li_56, li_57, li_58, li_59, li_60, li_61, li_62, li_63, li_64, li_65, li_66, li_96, li_97, li_99, li_100, li_122, li_125, li_126, li_140, li_255, li_256, li_999, li_1000, li_1001, li_1002, li_1100, li_1386, li_1452, li_1518, li_9999, li_1000000, hw.2.2.1, nI_leI, Nat.le_refl, ↓reduceIte]
  · intro k rec _ hk
    have hle : ¬ nI (qn q) ≤ nI k := nI_ge hk (by omega)
    simp (disch := omega) only [f_X3_alike_5s, f_X3_alike_40, ↓lm_1, ↓lm_2, ↓lm_3, ↓lm_4, ↓lm_5, ↓lm_6, ↓lm_7, ↓lm_8, ↓lm_9, ↓lm_10, ↓lm_11, li_0, li_1, li_2, li_3, li_4, li_5, li_6, li_7, li_8, li_9, li_10, li_11, li_12, li_13, li_14, li_15, li_16, li_17, li_18, li_19, li_20, li_21, li_22, li_23, li_24, li_25, li_26, li_27, li_28, li_29, li_30, li_31, li_32, li_33, li_34, li_35, li_36, li_37, li_38, li_39, li_40, li_41, li_42, li_43, li_44, li_45, li_46, li_47, li_48, li_49, li_50, li_51, li_52, li_53, li_54, li_55, li_56, li_57, li_58, li_59, li_60, li_61, li_62, li_63, li_64, li_65, li_66, li_96, li_97, li_99, li_100, li_122, li_125, li_126, li_140, li_255, li_256, li_999, li_1000, li_1001, li_1002, li_1100, li_1386, li_1452, li_1518, li_9999, li_1000000, hw.2.2.1, hle, ↓reduceIte, inb_n, nI_clamp, ck_t, (hw.2.2.2.2.2.1 p hp).1, (hw.2.2.2.2.2.1 k hk).1, nm_eq, nI_add, nI_and31, nI_shl1, setb, alk, decide_eq_true_eq]
    by_cases e : (nI (qo q p) ^^^ nI (qo q k)) &&& nI s = nI 0
    · rw [if_pos e, if_pos e, ← setb_step _ (by omega)]
    · rw [if_neg e, if_neg e]
section Q
variable {fu p : Nat} {S : ST} {v : GV} {A : AP}
theorem c_known (hf : 1101 ≤ fu) (hA : okA A) (hC : RC p S A) {e X : Nat} (he : e < ne (aG A)) (hX : X < 256) : f_X12_known fu S p (nI e) (nI X) = some (nI (knw (aQ A).1 (se (aG A) e) X)) := by
  obtain ⟨t, d, ln, dl, f, hP, hK⟩ := id hC
  have hc := hP.1.2.2.1
  have hct := hP.2.1.1
  have hrt := hP.2.2.2.2.1.1
  have hw := hK.1.1
  have hgc := hK.2.1
  have hG := hA.1
  have he4 := hG.2.2.1
  have hq := hA.2.1.1
  have h8 := hq.1.2.1
  simp only [f_X12_known, f_X12_known_0, f_X12_known_5, ↓lm_1, ↓lm_2, ↓lm_3, ↓lm_4, ↓lm_5, ↓lm_6, ↓lm_7, ↓lm_8, ↓lm_9, ↓lm_10, ↓lm_11, li_0, li_1, li_2, li_3, li_4, li_5, li_6, li_7, li_8, li_9, li_10, li_11, li_12, li_13, li_14, li_15, li_16, li_17, li_18, li_19, li_20, li_21, li_22, li_23, li_24, li_25, li_26, li_27, li_28, li_29, li_30, li_31, li_32, li_33, li_34, li_35, li_36, li_37, li_38, li_39, li_40, li_41, li_42, li_43, li_44, li_45, li_46, li_47, li_48, li_49, li_50, li_51, li_52, li_53, li_54, li_55, li_56, li_57, li_58, li_59, li_60, li_61, li_62, li_63, li_64, li_65, li_66, li_96, li_97, li_99, li_100, li_122, li_125, li_126, li_140, li_255, li_256, li_999, li_1000, li_1001, li_1002, li_1100, li_1386, li_1452, li_1518, li_9999, li_1000000]
  refine for2 _ (fun k => nI (setb (fun p => kal (aQ A).1 (se (aG A) e) X p (qn (aQ A).1)) k)) (fun k => nI k) 0 (qn (aQ A).1) _ ?_ ?_ fu (by omega) (by omega)
  · intro rec
    simp (disch := omega) only [f_X12_known_5s, ↓lm_1, ↓lm_2, ↓lm_3, ↓lm_4, ↓lm_5, ↓lm_6, ↓lm_7, ↓lm_8, ↓lm_9, ↓lm_10, ↓lm_11, li_0, li_1, li_2, li_3, li_4, li_5, li_6, li_7, li_8, li_9, li_10, li_11, li_12, li_13, li_14, li_15, li_16, li_17, li_18, li_19, li_20, li_21, li_22, li_23, li_24, li_25, li_26, li_27, li_28, li_29, li_30, li_31, li_32, li_33, li_34, li_35, li_36, li_37, li_38, li_39, li_40, li_41, li_42, li_43, li_44, li_45, li_46, li_47, li_48, li_49, li_50, li_51, li_52, li_53, li_54, li_55, li_56, li_57, li_58, li_59, li_60, li_61, li_62, li_63, li_64, li_65, li_66, li_96, li_97, li_99, li_100, li_122, li_125, li_126, li_140, li_255, li_256, li_999, li_1000, li_1001, li_1002, li_1100, li_1386, li_1452, li_1518, li_9999, li_1000000, hc, decide_true, ck_t, hw.2.2.1, nI_leI, Nat.le_refl, ↓reduceIte, knw]
  · intro k rec _ hk
    have hle : ¬ nI (qn (aQ A).1) ≤ nI k := nI_ge hk (by omega)
    have hz := setb_lt' (alk (aQ A).1 (se (aG A) e) k) (k := qn (aQ A).1) (by omega)
    have key : nI (setb (alk (aQ A).1 (se (aG A) e) k) (qn (aQ A).1)) &&& (nI X ^^^ mI 1) = nI 0 ↔ kal (aQ A).1 (se (aG A) e) X k (qn (aQ A).1) = true := by
      rw [andn0 hz (by omega), kal_iff]
      constructor
      · intro h r hr ha; exact h r (by rw [tb_setb]; simp [hr, ha])
      · intro h r hr
        rw [tb_setb] at hr
        simp at hr
        exact h r hr.1 hr.2
    simp (disch := omega) only [f_X12_known_5s, f_X12_known_49, ↓lm_1, ↓lm_2, ↓lm_3, ↓lm_4, ↓lm_5, ↓lm_6, ↓lm_7, ↓lm_8, ↓lm_9, ↓lm_10, ↓lm_11, li_0, li_1, li_2, li_3, li_4, li_5, li_6, li_7, li_8, li_9, li_10, li_11, li_12, li_13, li_14, li_15, li_16, li_17, li_18, li_19, li_20, li_21, li_22, li_23, li_24, li_25, li_26, li_27, li_28, li_29, li_30, li_31, li_32, li_33, li_34, li_35, li_36, li_37, li_38, li_39, li_40, li_41, li_42, li_43, li_44, li_45, li_46, li_47, li_48, li_49, li_50, li_51, li_52, li_53, li_54, li_55, li_56, li_57, li_58, li_59, li_60, li_61, li_62, li_63, li_64, li_65, li_66, li_96, li_97, li_99, li_100, li_122, li_125, li_126, li_140, li_255, li_256, li_999, li_1000, li_1001, li_1002, li_1100, li_1386, li_1452, li_1518, li_9999, li_1000000, hc, hrt, hct, decide_true, ck_t, hw.2.2.1, hle, ↓reduceIte, bd_s, inb_n, nI_clamp, hgc.2.2.2.2.2.1 e he, x3_alike hf hq hw hk, key, nm_eq, nI_add, nI_and31, nI_shl1, setb]
    by_cases c : kal (aQ A).1 (se (aG A) e) X k (qn (aQ A).1) = true
    · rw [if_pos c, if_pos c, ← setb_step _ (by omega)]
    · rw [if_neg c, if_neg c]
theorem m_knownBy (hf : 1101 ≤ fu) (hA : okA A) (hh : MH (gA v 24) (aQ A).1) (hg : MG v (aG A)) {e X : Nat} (he : e < ne (aG A)) (hX : X < 256) : f_X13_knownBy fu v (nI e) (nI X) = some (nI (knw (aQ A).1 (se (aG A) e) X)) := by
  have hG := hA.1
  have he4 := hG.2.2.1
  have hq := hA.2.1.1
  have h8 := hq.1.2.1
  simp (disch := omega) only [f_X13_knownBy, f_X13_knownBy_0, f_X13_knownBy_16, ↓lm_1, ↓lm_2, ↓lm_3, ↓lm_4, ↓lm_5, ↓lm_6, ↓lm_7, ↓lm_8, ↓lm_9, ↓lm_10, ↓lm_11, li_0, li_1, li_2, li_3, li_4, li_5, li_6, li_7, li_8, li_9, li_10, li_11, li_12, li_13, li_14, li_15, li_16, li_17, li_18, li_19, li_20, li_21, li_22, li_23, li_24, li_25, li_26, li_27, li_28, li_29, li_30, li_31, li_32, li_33, li_34, li_35, li_36, li_37, li_38, li_39, li_40, li_41, li_42, li_43, li_44, li_45, li_46, li_47, li_48, li_49, li_50, li_51, li_52, li_53, li_54, li_55, li_56, li_57, li_58, li_59, li_60, li_61, li_62, li_63, li_64, li_65, li_66, li_96, li_97, li_99, li_100, li_122, li_125, li_126, li_140, li_255, li_256, li_999, li_1000, li_1001, li_1002, li_1100, li_1386, li_1452, li_1518, li_9999, li_1000000, nI_add, nm_eq, inb_n, ck_t, nI_clamp, hg.2.2.2.2.1 e he]
  refine for2 _ (fun k => nI (setb (fun p => kal (aQ A).1 (se (aG A) e) X p (qn (aQ A).1)) k)) (fun k => nI k) 0 (qn (aQ A).1) _ ?_ ?_ fu (by omega) (by omega)
  · intro rec
    simp (disch := omega) only [f_X13_knownBy_16s, ↓lm_1, ↓lm_2, ↓lm_3, ↓lm_4, ↓lm_5, ↓lm_6, ↓lm_7, ↓lm_8, ↓lm_9, ↓lm_10, ↓lm_11, li_0, li_1, li_2, li_3, li_4, li_5, li_6, li_7, li_8, li_9, li_10, li_11, li_12, li_13, li_14, li_15, li_16, li_17, li_18, li_19, li_20, li_21, li_22, li_23, li_24, li_25, li_26, li_27, li_28, li_29, li_30, li_31, li_32, li_33, li_34, li_35, li_36, li_37, li_38, li_39, li_40, li_41, li_42, li_43, li_44, li_45, li_46, li_47, li_48, li_49, li_50, li_51, li_52, li_53, li_54, li_55, li_56, li_57, li_58, li_59, li_60, li_61, li_62, li_63, li_64, li_65, li_66, li_96, li_97, li_99, li_100, li_122, li_125, li_126, li_140, li_255, li_256, li_999, li_1000, li_1001, li_1002, li_1100, li_1386, li_1452, li_1518, li_9999, li_1000000, nI_clamp, hh.2.2.1, nI_leI, Nat.le_refl, ↓reduceIte, knw]
  · intro k rec _ hk
    have hle : ¬ nI (qn (aQ A).1) ≤ nI k := nI_ge hk (by omega)
    have hz := setb_lt' (fun p => kal (aQ A).1 (se (aG A) e) X p (qn (aQ A).1)) (k := k) (by omega)
    have e1 : f_X13_knownBy_16s fu rec v (nI X) (nI (se (aG A) e)) (nI (setb (fun p => kal (aQ A).1 (se (aG A) e) X p (qn (aQ A).1)) k)) (nI k) = f_X13_knownBy_33 fu fu rec v (nI X) (nI (se (aG A) e)) (nI (setb (fun p => kal (aQ A).1 (se (aG A) e) X p (qn (aQ A).1)) k)) (nI k) (b01 (kal (aQ A).1 (se (aG A) e) X k 0)) (nI 0) := by
      simp (disch := omega) only [f_X13_knownBy_16s, ↓lm_1, ↓lm_2, ↓lm_3, ↓lm_4, ↓lm_5, ↓lm_6, ↓lm_7, ↓lm_8, ↓lm_9, ↓lm_10, ↓lm_11, li_0, li_1, li_2, li_3, li_4, li_5, li_6, li_7, li_8, li_9, li_10, li_11, li_12, li_13, li_14, li_15, li_16, li_17, li_18, li_19, li_20, li_21, li_22, li_23, li_24, li_25, li_26, li_27, li_28, li_29, li_30, li_31, li_32, li_33, li_34, li_35, li_36, li_37, li_38, li_39, li_40, li_41, li_42, li_43, li_44, li_45, li_46, li_47, li_48, li_49, li_50, li_51, li_52, li_53, li_54, li_55, li_56, li_57, li_58, li_59, li_60, li_61, li_62, li_63, li_64, li_65, li_66, li_96, li_97, li_99, li_100, li_122, li_125, li_126, li_140, li_255, li_256, li_999, li_1000, li_1001, li_1002, li_1100, li_1386, li_1452, li_1518, li_9999, li_1000000, nI_clamp, hh.2.2.1, hle, ↓reduceIte, b01, kal]
    show f_X13_knownBy_16s fu rec v (nI X) (nI (se (aG A) e)) (nI (setb (fun p => kal (aQ A).1 (se (aG A) e) X p (qn (aQ A).1)) k)) (nI k) = _
    rw [e1, f_X13_knownBy_33]
    refine for2 _ (fun r => b01 (kal (aQ A).1 (se (aG A) e) X k r)) (fun r => nI r) 0 (qn (aQ A).1) _ ?_ ?_ fu (by omega) (by omega)
    · intro rec2
      simp (disch := omega) only [f_X13_knownBy_33s, f_X13_knownBy_123, ↓lm_1, ↓lm_2, ↓lm_3, ↓lm_4, ↓lm_5, ↓lm_6, ↓lm_7, ↓lm_8, ↓lm_9, ↓lm_10, ↓lm_11, li_0, li_1, li_2, li_3, li_4, li_5, li_6, li_7, li_8, li_9, li_10, li_11, li_12, li_13, li_14, li_15, li_16, li_17, li_18, li_19, li_20, li_21, li_22, li_23, li_24, li_25, li_26, li_27, li_28, li_29, li_30, li_31, li_32, li_33, li_34, li_35, li_36, li_37, li_38, li_39, li_40, li_41, li_42, li_43, li_44, li_45, li_46, li_47, li_48, li_49, li_50, li_51, li_52, li_53, li_54, li_55, li_56, li_57, li_58, li_59, li_60, li_61, li_62, li_63, li_64, li_65, li_66, li_96, li_97, li_99, li_100, li_122, li_125, li_126, li_140, li_255, li_256, li_999, li_1000, li_1001, li_1002, li_1100, li_1386, li_1452, li_1518, li_9999, li_1000000, nI_clamp, hh.2.2.1, nI_leI, Nat.le_refl, ↓reduceIte, nm_eq, nI_add, nI_and31, nI_shl1, setb]
      by_cases c : kal (aQ A).1 (se (aG A) e) X k (qn (aQ A).1) = true
      · simp only [b01, if_pos c, n10, ↓reduceIte]; rw [← setb_step _ (by omega)]
      · simp only [b01, if_neg c, ↓reduceIte]; rw [nI_orN (by omega) (by omega), Nat.or_zero]
    · intro r rec2 _ hr
      have hle2 : ¬ nI (qn (aQ A).1) ≤ nI r := nI_ge hr (by omega)
      have hbt := bt_lt X r
      simp (disch := omega) only [f_X13_knownBy_33s, f_X13_knownBy_73, f_X13_knownBy_95, f_X13_knownBy_99, f_X13_knownBy_100, ↓lm_1, ↓lm_2, ↓lm_3, ↓lm_4, ↓lm_5, ↓lm_6, ↓lm_7, ↓lm_8, ↓lm_9, ↓lm_10, ↓lm_11, li_0, li_1, li_2, li_3, li_4, li_5, li_6, li_7, li_8, li_9, li_10, li_11, li_12, li_13, li_14, li_15, li_16, li_17, li_18, li_19, li_20, li_21, li_22, li_23, li_24, li_25, li_26, li_27, li_28, li_29, li_30, li_31, li_32, li_33, li_34, li_35, li_36, li_37, li_38, li_39, li_40, li_41, li_42, li_43, li_44, li_45, li_46, li_47, li_48, li_49, li_50, li_51, li_52, li_53, li_54, li_55, li_56, li_57, li_58, li_59, li_60, li_61, li_62, li_63, li_64, li_65, li_66, li_96, li_97, li_99, li_100, li_122, li_125, li_126, li_140, li_255, li_256, li_999, li_1000, li_1001, li_1002, li_1100, li_1386, li_1452, li_1518, li_9999, li_1000000, nI_clamp, hh.2.2.1, hle2, ↓reduceIte, nm_eq, nI_add, inb_n, ck_t, (hh.2.2.2.1 k hk).1, (hh.2.2.2.1 r hr).1, nI_and31, nI_bt, nI_eq, kal, alk, Nat.one_ne_zero]
      generalize kal (aQ A).1 (se (aG A) e) X k r = c2
      by_cases c : (nI (qo (aQ A).1 k) ^^^ nI (qo (aQ A).1 r)) &&& nI (se (aG A) e) = nI 0
      · by_cases d : bt X r = 1
        · cases c2 <;> simp [b01, c, d, n10]
        · cases c2 <;> simp [b01, c, d, n10]
      · by_cases d : bt X r = 1
        · cases c2 <;> simp [b01, c, d, n10]
        · cases c2 <;> simp [b01, c, d, n10]
theorem p2n {A : AP} (hA : okA A) : 2 ^ qn (aQ A).1 ≤ 256 := Nat.pow_le_pow_right (n := 2) (by decide) hA.2.1.1.1.2.1
theorem c_areThere_in (hA : okA A) (hC : RC p S A) {X : Nat} (hX : X < 2 ^ qn (aQ A).1) : f_X12_areThere fu S p (nI X) = some (nI 1) := by
  obtain ⟨t, d, ln, dl, f, hP, hK⟩ := id hC
  have h2 := p2n hA
  have h8 := hA.2.1.1.1.2.1
  simp (disch := omega) only [f_X12_areThere, f_X12_areThere_0, f_X12_areThere_21, ↓lm_1, ↓lm_2, ↓lm_3, ↓lm_4, ↓lm_5, ↓lm_6, ↓lm_7, ↓lm_8, ↓lm_9, ↓lm_10, ↓lm_11, li_0, li_1, li_2, li_3, li_4, li_5, li_6, li_7, li_8, li_9, li_10, li_11, li_12, li_13, li_14, li_15, li_16, li_17, li_18, li_19, li_20, li_21, li_22, li_23, li_24, li_25, li_26, li_27, li_28, li_29, li_30, li_31, li_32, li_33, li_34, li_35, li_36, li_37, li_38, li_39, li_40, li_41, li_42, li_43, li_44, li_45, li_46, li_47, li_48, li_49, li_50, li_51, li_52, li_53, li_54, li_55, li_56, li_57, li_58, li_59, li_60, li_61, li_62, li_63, li_64, li_65, li_66, li_96, li_97, li_99, li_100, li_122, li_125, li_126, li_140, li_255, li_256, li_999, li_1000, li_1001, li_1002, li_1100, li_1386, li_1452, li_1518, li_9999, li_1000000, hP.1.2.2.1, decide_true, ck_t, hK.1.1.2.2.1, nI_and31, nI_shl1]
  exact ix_in hX (by omega) _ _
theorem c_areThere_out (hA : okA A) (hC : RC p S A) {x : Int32} (hx : ¬ ∃ j, j < 2 ^ qn (aQ A).1 ∧ x = nI j) : f_X12_areThere fu S p x = some (nI 0) := by
  obtain ⟨t, d, ln, dl, f, hP, hK⟩ := id hC
  have h2 := p2n hA
  have h8 := hA.2.1.1.1.2.1
  simp (disch := omega) only [f_X12_areThere, f_X12_areThere_0, f_X12_areThere_21, ↓lm_1, ↓lm_2, ↓lm_3, ↓lm_4, ↓lm_5, ↓lm_6, ↓lm_7, ↓lm_8, ↓lm_9, ↓lm_10, ↓lm_11, li_0, li_1, li_2, li_3, li_4, li_5, li_6, li_7, li_8, li_9, li_10, li_11, li_12, li_13, li_14, li_15, li_16, li_17, li_18, li_19, li_20, li_21, li_22, li_23, li_24, li_25, li_26, li_27, li_28, li_29, li_30, li_31, li_32, li_33, li_34, li_35, li_36, li_37, li_38, li_39, li_40, li_41, li_42, li_43, li_44, li_45, li_46, li_47, li_48, li_49, li_50, li_51, li_52, li_53, li_54, li_55, li_56, li_57, li_58, li_59, li_60, li_61, li_62, li_63, li_64, li_65, li_66, li_96, li_97, li_99, li_100, li_122, li_125, li_126, li_140, li_255, li_256, li_999, li_1000, li_1001, li_1002, li_1100, li_1386, li_1452, li_1518, li_9999, li_1000000, hP.1.2.2.1, decide_true, ck_t, hK.1.1.2.2.1, nI_and31, nI_shl1]
  exact ix_out hx (by omega) _ _
theorem isB_1 : isB (nI 1) = true := by decide
theorem isB_0 : isB (nI 0) = true := by decide
theorem m_areThere_in (hA : okA A) (hh : MH (gA v 24) (aQ A).1) {X : Nat} (hX : X < 2 ^ qn (aQ A).1) : f_X13_areThere fu v (nI X) = some (nI 1) := by
  have h2 := p2n hA
  have h8 := hA.2.1.1.1.2.1
  have hp := Nat.two_pow_pos (qn (aQ A).1)
  simp (disch := omega) only [f_X13_areThere, f_X13_areThere_0, ↓lm_1, ↓lm_2, ↓lm_3, ↓lm_4, ↓lm_5, ↓lm_6, ↓lm_7, ↓lm_8, ↓lm_9, ↓lm_10, ↓lm_11, li_0, li_1, li_2, li_3, li_4, li_5, li_6, li_7, li_8, li_9, li_10, li_11, li_12, li_13, li_14, li_15, li_16, li_17, li_18, li_19, li_20, li_21, li_22, li_23, li_24, li_25, li_26, li_27, li_28, li_29, li_30, li_31, li_32, li_33, li_34, li_35, li_36, li_37, li_38, li_39, li_40, li_41, li_42, li_43, li_44, li_45, li_46, li_47, li_48, li_49, li_50, li_51, li_52, li_53, li_54, li_55, li_56, li_57, li_58, li_59, li_60, li_61, li_62, li_63, li_64, li_65, li_66, li_96, li_97, li_99, li_100, li_122, li_125, li_126, li_140, li_255, li_256, li_999, li_1000, li_1001, li_1002, li_1100, li_1386, li_1452, li_1518, li_9999, li_1000000, nI_clamp, hh.2.2.1, nI_and31, nI_shl1, pk_sub, w_in, bd_s, isB_1, ck_t]
theorem m_areThere_out (hA : okA A) (hh : MH (gA v 24) (aQ A).1) {x : Int32} (hx : ¬ ∃ j, j < 2 ^ qn (aQ A).1 ∧ x = nI j) : f_X13_areThere fu v x = some (nI 0) := by
  have h2 := p2n hA
  have h8 := hA.2.1.1.1.2.1
  have hp := Nat.two_pow_pos (qn (aQ A).1)
  have hx' : ¬ ∃ j, j < 2 ^ qn (aQ A).1 - 1 + 1 ∧ x = nI j := by
    rw [show 2 ^ qn (aQ A).1 - 1 + 1 = 2 ^ qn (aQ A).1 by omega]; exact hx
  simp (disch := omega) only [f_X13_areThere, f_X13_areThere_0, ↓lm_1, ↓lm_2, ↓lm_3, ↓lm_4, ↓lm_5, ↓lm_6, ↓lm_7, ↓lm_8, ↓lm_9, ↓lm_10, ↓lm_11, li_0, li_1, li_2, li_3, li_4, li_5, li_6, li_7, li_8, li_9, li_10, li_11, li_12, li_13, li_14, li_15, li_16, li_17, li_18, li_19, li_20, li_21, li_22, li_23, li_24, li_25, li_26, li_27, li_28, li_29, li_30, li_31, li_32, li_33, li_34, li_35, li_36, li_37, li_38, li_39, li_40, li_41, li_42, li_43, li_44, li_45, li_46, li_47, li_48, li_49, li_50, li_51, li_52, li_53, li_54, li_55, li_56, li_57, li_58, li_59, li_60, li_61, li_62, li_63, li_64, li_65, li_66, li_96, li_97, li_99, li_100, li_122, li_125, li_126, li_140, li_255, li_256, li_999, li_1000, li_1001, li_1002, li_1100, li_1386, li_1452, li_1518, li_9999, li_1000000, nI_clamp, hh.2.2.1, nI_and31, nI_shl1, pk_sub, w_out hx', bd_s, isB_0, ck_t]
theorem c_knownTo (hf : 1101 ≤ fu) (hA : okA A) (hC : RC p S A) {X k : Nat} (hX : X < 256) (hk : k < 100) : f_X12_knownTo fu S p (nI X) (nI k) = some (nI (kit (aG A) (aQ A).1 X k)) := by
  obtain ⟨t, d, ln, dl, f, hP, hK⟩ := id hC
  have hct := hP.2.1.1
  have hrt := hP.2.2.2.2.1.1
  have hgc := hK.2.1
  have he4 := hA.1.2.2.1
  have h8 := hA.2.1.1.1.2.1
  simp only [f_X12_knownTo, f_X12_knownTo_0, f_X12_knownTo_5, ↓lm_1, ↓lm_2, ↓lm_3, ↓lm_4, ↓lm_5, ↓lm_6, ↓lm_7, ↓lm_8, ↓lm_9, ↓lm_10, ↓lm_11, li_0, li_1, li_2, li_3, li_4, li_5, li_6, li_7, li_8, li_9, li_10, li_11, li_12, li_13, li_14, li_15, li_16, li_17, li_18, li_19, li_20, li_21, li_22, li_23, li_24, li_25, li_26, li_27, li_28, li_29, li_30, li_31, li_32, li_33, li_34, li_35, li_36, li_37, li_38, li_39, li_40, li_41, li_42, li_43, li_44, li_45, li_46, li_47, li_48, li_49, li_50, li_51, li_52, li_53, li_54, li_55, li_56, li_57, li_58, li_59, li_60, li_61, li_62, li_63, li_64, li_65, li_66, li_96, li_97, li_99, li_100, li_122, li_125, li_126, li_140, li_255, li_256, li_999, li_1000, li_1001, li_1002, li_1100, li_1386, li_1452, li_1518, li_9999, li_1000000]
  refine for2 _ (fun i => nI (kit (aG A) (aQ A).1 X i)) (fun i => nI i) 0 k _ ?_ ?_ fu (by omega) (by omega)
  · intro rec
    simp (disch := omega) only [f_X12_knownTo_5s, ↓lm_1, ↓lm_2, ↓lm_3, ↓lm_4, ↓lm_5, ↓lm_6, ↓lm_7, ↓lm_8, ↓lm_9, ↓lm_10, ↓lm_11, li_0, li_1, li_2, li_3, li_4, li_5, li_6, li_7, li_8, li_9, li_10, li_11, li_12, li_13, li_14, li_15, li_16, li_17, li_18, li_19, li_20, li_21, li_22, li_23, li_24, li_25, li_26, li_27, li_28, li_29, li_30, li_31, li_32, li_33, li_34, li_35, li_36, li_37, li_38, li_39, li_40, li_41, li_42, li_43, li_44, li_45, li_46, li_47, li_48, li_49, li_50, li_51, li_52, li_53, li_54, li_55, li_56, li_57, li_58, li_59, li_60, li_61, li_62, li_63, li_64, li_65, li_66, li_96, li_97, li_99, li_100, li_122, li_125, li_126, li_140, li_255, li_256, li_999, li_1000, li_1001, li_1002, li_1100, li_1386, li_1452, li_1518, li_9999, li_1000000, nI_leI, Nat.le_refl, ↓reduceIte]
  · intro i rec _ hi
    have hle : ¬ nI k ≤ nI i := nI_ge hi (by omega)
    have hY : kit (aG A) (aQ A).1 X i < 256 := Nat.lt_of_le_of_lt (kit_le _ _ _ _) hX
    simp (disch := omega) only [f_X12_knownTo_5s, ↓lm_1, ↓lm_2, ↓lm_3, ↓lm_4, ↓lm_5, ↓lm_6, ↓lm_7, ↓lm_8, ↓lm_9, ↓lm_10, ↓lm_11, li_0, li_1, li_2, li_3, li_4, li_5, li_6, li_7, li_8, li_9, li_10, li_11, li_12, li_13, li_14, li_15, li_16, li_17, li_18, li_19, li_20, li_21, li_22, li_23, li_24, li_25, li_26, li_27, li_28, li_29, li_30, li_31, li_32, li_33, li_34, li_35, li_36, li_37, li_38, li_39, li_40, li_41, li_42, li_43, li_44, li_45, li_46, li_47, li_48, li_49, li_50, li_51, li_52, li_53, li_54, li_55, li_56, li_57, li_58, li_59, li_60, li_61, li_62, li_63, li_64, li_65, li_66, li_96, li_97, li_99, li_100, li_122, li_125, li_126, li_140, li_255, li_256, li_999, li_1000, li_1001, li_1002, li_1100, li_1386, li_1452, li_1518, li_9999, li_1000000, hle, ↓reduceIte, f_X12_knownTo_17, kit]
    generalize kit (aG A) (aQ A).1 X i = Y at hY
    refine for2 _ (fun e => nI (kne (aG A) (aQ A).1 Y e)) (fun e => nI e) 0 (ne (aG A)) _ ?_ ?_ fu (by omega) (by omega)
    · intro rec2
      simp (disch := omega) only [f_X12_knownTo_17s, ↓lm_1, ↓lm_2, ↓lm_3, ↓lm_4, ↓lm_5, ↓lm_6, ↓lm_7, ↓lm_8, ↓lm_9, ↓lm_10, ↓lm_11, li_0, li_1, li_2, li_3, li_4, li_5, li_6, li_7, li_8, li_9, li_10, li_11, li_12, li_13, li_14, li_15, li_16, li_17, li_18, li_19, li_20, li_21, li_22, li_23, li_24, li_25, li_26, li_27, li_28, li_29, li_30, li_31, li_32, li_33, li_34, li_35, li_36, li_37, li_38, li_39, li_40, li_41, li_42, li_43, li_44, li_45, li_46, li_47, li_48, li_49, li_50, li_51, li_52, li_53, li_54, li_55, li_56, li_57, li_58, li_59, li_60, li_61, li_62, li_63, li_64, li_65, li_66, li_96, li_97, li_99, li_100, li_122, li_125, li_126, li_140, li_255, li_256, li_999, li_1000, li_1001, li_1002, li_1100, li_1386, li_1452, li_1518, li_9999, li_1000000, hrt, hct, decide_true, ck_t, bd_s, hgc.2.2.2.1, nI_leI, Nat.le_refl, ↓reduceIte, nm_eq, nI_add]
    · intro e rec2 _ he
      have hle2 : ¬ nI (ne (aG A)) ≤ nI e := nI_ge he (by omega)
      have h1 := kne_le (aG A) (aQ A).1 Y e
      have h2 := knw_lt (aQ A).1 (se (aG A) e) Y h8
      simp (disch := omega) only [f_X12_knownTo_17s, ↓lm_1, ↓lm_2, ↓lm_3, ↓lm_4, ↓lm_5, ↓lm_6, ↓lm_7, ↓lm_8, ↓lm_9, ↓lm_10, ↓lm_11, li_0, li_1, li_2, li_3, li_4, li_5, li_6, li_7, li_8, li_9, li_10, li_11, li_12, li_13, li_14, li_15, li_16, li_17, li_18, li_19, li_20, li_21, li_22, li_23, li_24, li_25, li_26, li_27, li_28, li_29, li_30, li_31, li_32, li_33, li_34, li_35, li_36, li_37, li_38, li_39, li_40, li_41, li_42, li_43, li_44, li_45, li_46, li_47, li_48, li_49, li_50, li_51, li_52, li_53, li_54, li_55, li_56, li_57, li_58, li_59, li_60, li_61, li_62, li_63, li_64, li_65, li_66, li_96, li_97, li_99, li_100, li_122, li_125, li_126, li_140, li_255, li_256, li_999, li_1000, li_1001, li_1002, li_1100, li_1386, li_1452, li_1518, li_9999, li_1000000, hrt, hct, decide_true, ck_t, bd_s, hgc.2.2.2.1, hle2, ↓reduceIte, c_known hf hA hC he hY, nm_eq, nI_add, nI_andN, kne]
theorem m_knownByAll (hf : 1101 ≤ fu) (hA : okA A) (hh : MH (gA v 24) (aQ A).1) (hg : MG v (aG A)) {Y : Nat} (hY : Y < 256) : f_X13_knownByAll fu v (nI Y) = some (nI (kne (aG A) (aQ A).1 Y (ne (aG A)))) := by
  have he4 := hA.1.2.2.1
  have h8 := hA.2.1.1.1.2.1
  simp only [f_X13_knownByAll, f_X13_knownByAll_0, f_X13_knownByAll_4, ↓lm_1, ↓lm_2, ↓lm_3, ↓lm_4, ↓lm_5, ↓lm_6, ↓lm_7, ↓lm_8, ↓lm_9, ↓lm_10, ↓lm_11, li_0, li_1, li_2, li_3, li_4, li_5, li_6, li_7, li_8, li_9, li_10, li_11, li_12, li_13, li_14, li_15, li_16, li_17, li_18, li_19, li_20, li_21, li_22, li_23, li_24, li_25, li_26, li_27, li_28, li_29, li_30, li_31, li_32, li_33, li_34, li_35, li_36, li_37, li_38, li_39, li_40, li_41, li_42, li_43, li_44, li_45, li_46, li_47, li_48, li_49, li_50, li_51, li_52, li_53, li_54, li_55, li_56, li_57, li_58, li_59, li_60, li_61, li_62, li_63, li_64, li_65, li_66, li_96, li_97, li_99, li_100, li_122, li_125, li_126, li_140, li_255, li_256, li_999, li_1000, li_1001, li_1002, li_1100, li_1386, li_1452, li_1518, li_9999, li_1000000]
  refine for2 _ (fun e => nI (kne (aG A) (aQ A).1 Y e)) (fun e => nI e) 0 (ne (aG A)) _ ?_ ?_ fu (by omega) (by omega)
  · intro rec2
    simp (disch := omega) only [f_X13_knownByAll_4s, ↓lm_1, ↓lm_2, ↓lm_3, ↓lm_4, ↓lm_5, ↓lm_6, ↓lm_7, ↓lm_8, ↓lm_9, ↓lm_10, ↓lm_11, li_0, li_1, li_2, li_3, li_4, li_5, li_6, li_7, li_8, li_9, li_10, li_11, li_12, li_13, li_14, li_15, li_16, li_17, li_18, li_19, li_20, li_21, li_22, li_23, li_24, li_25, li_26, li_27, li_28, li_29, li_30, li_31, li_32, li_33, li_34, li_35, li_36, li_37, li_38, li_39, li_40, li_41, li_42, li_43, li_44, li_45, li_46, li_47, li_48, li_49, li_50, li_51, li_52, li_53, li_54, li_55, li_56, li_57, li_58, li_59, li_60, li_61, li_62, li_63, li_64, li_65, li_66, li_96, li_97, li_99, li_100, li_122, li_125, li_126, li_140, li_255, li_256, li_999, li_1000, li_1001, li_1002, li_1100, li_1386, li_1452, li_1518, li_9999, li_1000000, x13_experts hg.2.2.1, bd_s, nI_leI, Nat.le_refl, ↓reduceIte]
  · intro e rec2 _ he
    have hle2 : ¬ nI (ne (aG A)) ≤ nI e := nI_ge he (by omega)
    have h1 := kne_le (aG A) (aQ A).1 Y e
    have h2 := knw_lt (aQ A).1 (se (aG A) e) Y h8
    simp (disch := omega) only [f_X13_knownByAll_4s, ↓lm_1, ↓lm_2, ↓lm_3, ↓lm_4, ↓lm_5, ↓lm_6, ↓lm_7, ↓lm_8, ↓lm_9, ↓lm_10, ↓lm_11, li_0, li_1, li_2, li_3, li_4, li_5, li_6, li_7, li_8, li_9, li_10, li_11, li_12, li_13, li_14, li_15, li_16, li_17, li_18, li_19, li_20, li_21, li_22, li_23, li_24, li_25, li_26, li_27, li_28, li_29, li_30, li_31, li_32, li_33, li_34, li_35, li_36, li_37, li_38, li_39, li_40, li_41, li_42, li_43, li_44, li_45, li_46, li_47, li_48, li_49, li_50, li_51, li_52, li_53, li_54, li_55, li_56, li_57, li_58, li_59, li_60, li_61, li_62, li_63, li_64, li_65, li_66, li_96, li_97, li_99, li_100, li_122, li_125, li_126, li_140, li_255, li_256, li_999, li_1000, li_1001, li_1002, li_1100, li_1386, li_1452, li_1518, li_9999, li_1000000, x13_experts hg.2.2.1, bd_s, hle2, ↓reduceIte, m_knownBy hf hA hh hg he hY, nm_eq, nI_add, nI_andN, kne]
theorem r_knows (hf : 1101 ≤ fu) (h : RR p S v) (x y : Int32) : ∃ z v', f_X12_knows fu S p x y = some z ∧ f_X13_knows fu v x y = some (z, v') ∧ RR p S v' := by
  obtain ⟨A, hA, hC, hM⟩ := h
  obtain ⟨t, d, ln, dl, f, hP, hK⟩ := id hC
  have hct := hP.2.1.1
  have hrt := hP.2.2.2.2.1.1
  have hgc := hK.2.1
  have he4 := hA.1.2.2.1
  have h2 := p2n hA
  have hh : MH (gA (sI v 0 (nI 0)) 24) (aQ A).1 := hM.2.2.1.1
  have hg : MG (sI v 0 (nI 0)) (aG A) := hM.2.1
  have hr : RR p S (sI v 0 (nI 0)) := RR_q hA hC hM (scr_refl p S) (mscr_sI (mscr_refl v) (by decide) (by decide) (by decide))
  have key : ∀ e, f_X13_within fu x (nI 0) (nI (ne (aG A)) - nI 1) = e → f_X13_within fu x (nI 0) (nI (ne (aG A)) - nI 1) = e := fun _ h => h
  by_cases hx : ∃ j, j < ne (aG A) ∧ x = nI j
  · obtain ⟨e, he, rfl⟩ := hx
    have hle : ¬ nI (ne (aG A)) ≤ nI e := nI_ge he (by omega)
    have hp0 : ¬ nI e < nI 0 := nI_nlt (by omega) (by omega)
    by_cases hy : ∃ j, j < 2 ^ qn (aQ A).1 ∧ y = nI j
    · obtain ⟨X, hX, rfl⟩ := hy
      refine ⟨nI (knw (aQ A).1 (se (aG A) e) X), _, ?_, ?_, hr⟩
      · simp only [f_X12_knows_28, f_X12_knows_27, f_X12_knows_0, f_X12_knows, ↓lm_1, ↓lm_2, ↓lm_3, ↓lm_4, ↓lm_5, ↓lm_6, ↓lm_7, ↓lm_8, ↓lm_9, ↓lm_10, ↓lm_11, li_0, li_1, li_2, li_3, li_4, li_5, li_6, li_7, li_8, li_9, li_10, li_11, li_12, li_13, li_14, li_15, li_16, li_17, li_18, li_19, li_20, li_21, li_22, li_23, li_24, li_25, li_26, li_27, li_28, li_29, li_30, li_31, li_32, li_33, li_34, li_35, li_36, li_37, li_38, li_39, li_40, li_41, li_42, li_43, li_44, li_45, li_46, li_47, li_48, li_49, li_50, li_51, li_52, li_53, li_54, li_55, li_56, li_57, li_58, li_59, li_60, li_61, li_62, li_63, li_64, li_65, li_66, li_96, li_97, li_99, li_100, li_122, li_125, li_126, li_140, li_255, li_256, li_999, li_1000, li_1001, li_1002, li_1100, li_1386, li_1452, li_1518, li_9999, li_1000000, hp0, hrt, hct, decide_true, ck_t, hgc.2.2.2.1, hle, ↓reduceIte, bd_s, c_areThere_in hA hC hX, n10, c_known hf hA hC he (show X < 256 by omega)]
      · simp (disch := omega) only [f_X13_knows_36, f_X13_knows_0, f_X13_knows, ↓lm_1, ↓lm_2, ↓lm_3, ↓lm_4, ↓lm_5, ↓lm_6, ↓lm_7, ↓lm_8, ↓lm_9, ↓lm_10, ↓lm_11, li_0, li_1, li_2, li_3, li_4, li_5, li_6, li_7, li_8, li_9, li_10, li_11, li_12, li_13, li_14, li_15, li_16, li_17, li_18, li_19, li_20, li_21, li_22, li_23, li_24, li_25, li_26, li_27, li_28, li_29, li_30, li_31, li_32, li_33, li_34, li_35, li_36, li_37, li_38, li_39, li_40, li_41, li_42, li_43, li_44, li_45, li_46, li_47, li_48, li_49, li_50, li_51, li_52, li_53, li_54, li_55, li_56, li_57, li_58, li_59, li_60, li_61, li_62, li_63, li_64, li_65, li_66, li_96, li_97, li_99, li_100, li_122, li_125, li_126, li_140, li_255, li_256, li_999, li_1000, li_1001, li_1002, li_1100, li_1386, li_1452, li_1518, li_9999, li_1000000, nm_eq, x13_experts hg.2.2.1, bd_s, pk_sub, w_in, n10, ↓reduceIte, m_areThere_in hA hh hX, m_knownBy hf hA hh hg he (show X < 256 by omega)]
    · refine ⟨mI 1, _, ?_, ?_, hr⟩
      · simp only [f_X12_knows_28, f_X12_knows_27, f_X12_knows_0, f_X12_knows, ↓lm_1, ↓lm_2, ↓lm_3, ↓lm_4, ↓lm_5, ↓lm_6, ↓lm_7, ↓lm_8, ↓lm_9, ↓lm_10, ↓lm_11, li_0, li_1, li_2, li_3, li_4, li_5, li_6, li_7, li_8, li_9, li_10, li_11, li_12, li_13, li_14, li_15, li_16, li_17, li_18, li_19, li_20, li_21, li_22, li_23, li_24, li_25, li_26, li_27, li_28, li_29, li_30, li_31, li_32, li_33, li_34, li_35, li_36, li_37, li_38, li_39, li_40, li_41, li_42, li_43, li_44, li_45, li_46, li_47, li_48, li_49, li_50, li_51, li_52, li_53, li_54, li_55, li_56, li_57, li_58, li_59, li_60, li_61, li_62, li_63, li_64, li_65, li_66, li_96, li_97, li_99, li_100, li_122, li_125, li_126, li_140, li_255, li_256, li_999, li_1000, li_1001, li_1002, li_1100, li_1386, li_1452, li_1518, li_9999, li_1000000, hp0, hrt, hct, decide_true, ck_t, hgc.2.2.2.1, hle, ↓reduceIte, bd_s, c_areThere_out hA hC hy]
      · simp (disch := omega) only [f_X13_knows_36, f_X13_knows_0, f_X13_knows, ↓lm_1, ↓lm_2, ↓lm_3, ↓lm_4, ↓lm_5, ↓lm_6, ↓lm_7, ↓lm_8, ↓lm_9, ↓lm_10, ↓lm_11, li_0, li_1, li_2, li_3, li_4, li_5, li_6, li_7, li_8, li_9, li_10, li_11, li_12, li_13, li_14, li_15, li_16, li_17, li_18, li_19, li_20, li_21, li_22, li_23, li_24, li_25, li_26, li_27, li_28, li_29, li_30, li_31, li_32, li_33, li_34, li_35, li_36, li_37, li_38, li_39, li_40, li_41, li_42, li_43, li_44, li_45, li_46, li_47, li_48, li_49, li_50, li_51, li_52, li_53, li_54, li_55, li_56, li_57, li_58, li_59, li_60, li_61, li_62, li_63, li_64, li_65, li_66, li_96, li_97, li_99, li_100, li_122, li_125, li_126, li_140, li_255, li_256, li_999, li_1000, li_1001, li_1002, li_1100, li_1386, li_1452, li_1518, li_9999, li_1000000, nm_eq, x13_experts hg.2.2.1, bd_s, pk_sub, w_in, n10, ↓reduceIte, m_areThere_out hA hh hy]
  · refine ⟨mI 1, _, ?_, ?_, hr⟩
    · simp only [f_X12_knows_28, f_X12_knows_27, f_X12_knows_0, f_X12_knows, ↓lm_1, ↓lm_2, ↓lm_3, ↓lm_4, ↓lm_5, ↓lm_6, ↓lm_7, ↓lm_8, ↓lm_9, ↓lm_10, ↓lm_11, li_0, li_1, li_2, li_3, li_4, li_5, li_6, li_7, li_8, li_9, li_10, li_11, li_12, li_13, li_14, li_15, li_16, li_17, li_18, li_19, li_20, li_21, li_22, li_23, li_24, li_25, li_26, li_27, li_28, li_29, li_30, li_31, li_32, li_33, li_34, li_35, li_36, li_37, li_38, li_39, li_40, li_41, li_42, li_43, li_44, li_45, li_46, li_47, li_48, li_49, li_50, li_51, li_52, li_53, li_54, li_55, li_56, li_57, li_58, li_59, li_60, li_61, li_62, li_63, li_64, li_65, li_66, li_96, li_97, li_99, li_100, li_122, li_125, li_126, li_140, li_255, li_256, li_999, li_1000, li_1001, li_1002, li_1100, li_1386, li_1452, li_1518, li_9999, li_1000000, hrt, hct, decide_true, ck_t, hgc.2.2.2.1, ↓reduceIte, bd_s]
      rw [ix_out hx (by omega)]
    · have hw : f_X13_within fu x (nI 0) (nI (ne (aG A)) - nI 1) = some (nI 0) := by
        by_cases c : ne (aG A) = 0
        · rw [c]
          simp only [f_X13_within_14, f_X13_within_0, f_X13_within, ↓lm_1, ↓lm_2, ↓lm_3, ↓lm_4, ↓lm_5, ↓lm_6, ↓lm_7, ↓lm_8, ↓lm_9, ↓lm_10, ↓lm_11, li_0, li_1, li_2, li_3, li_4, li_5, li_6, li_7, li_8, li_9, li_10, li_11, li_12, li_13, li_14, li_15, li_16, li_17, li_18, li_19, li_20, li_21, li_22, li_23, li_24, li_25, li_26, li_27, li_28, li_29, li_30, li_31, li_32, li_33, li_34, li_35, li_36, li_37, li_38, li_39, li_40, li_41, li_42, li_43, li_44, li_45, li_46, li_47, li_48, li_49, li_50, li_51, li_52, li_53, li_54, li_55, li_56, li_57, li_58, li_59, li_60, li_61, li_62, li_63, li_64, li_65, li_66, li_96, li_97, li_99, li_100, li_122, li_125, li_126, li_140, li_255, li_256, li_999, li_1000, li_1001, li_1002, li_1100, li_1386, li_1452, li_1518, li_9999, li_1000000]
          by_cases c2 : x < nI 0
          · rw [if_pos c2]
          · rw [if_neg c2, if_pos]
            have e1 : (nI 0 - nI 1).toInt = -1 := by decide
            have e0 : (nI 0).toInt = 0 := by decide
            rw [Int32.lt_iff_toInt_lt] at c2 ⊢
            omega
        · rw [pk_sub (by omega)]
          exact w_out (by rw [show ne (aG A) - 1 + 1 = ne (aG A) by omega]; exact hx) (by omega)
      simp (disch := omega) only [f_X13_knows_36, f_X13_knows_0, f_X13_knows, ↓lm_1, ↓lm_2, ↓lm_3, ↓lm_4, ↓lm_5, ↓lm_6, ↓lm_7, ↓lm_8, ↓lm_9, ↓lm_10, ↓lm_11, li_0, li_1, li_2, li_3, li_4, li_5, li_6, li_7, li_8, li_9, li_10, li_11, li_12, li_13, li_14, li_15, li_16, li_17, li_18, li_19, li_20, li_21, li_22, li_23, li_24, li_25, li_26, li_27, li_28, li_29, li_30, li_31, li_32, li_33, li_34, li_35, li_36, li_37, li_38, li_39, li_40, li_41, li_42, li_43, li_44, li_45, li_46, li_47, li_48, li_49, li_50, li_51, li_52, li_53, li_54, li_55, li_56, li_57, li_58, li_59, li_60, li_61, li_62, li_63, li_64, li_65, li_66, li_96, li_97, li_99, li_100, li_122, li_125, li_126, li_140, li_255, li_256, li_999, li_1000, li_1001, li_1002, li_1100, li_1386, li_1452, li_1518, li_9999, li_1000000, nm_eq, x13_experts hg.2.2.1, bd_s, hw, ↓reduceIte]
theorem r_depth (hf : 1101 ≤ fu) (h : RR p S v) (x y : Int32) : ∃ z v', f_X12_depth fu S p x y = some z ∧ f_X13_depth fu v x y = some (z, v') ∧ RR p S v' := by
  obtain ⟨A, hA, hC, hM⟩ := h
  have h2 := p2n hA
  have hh : MH (gA (sI v 0 (nI 0)) 24) (aQ A).1 := hM.2.2.1.1
  have hg : MG (sI v 0 (nI 0)) (aG A) := hM.2.1
  have hr : RR p S (sI v 0 (nI 0)) := RR_q hA hC hM (scr_refl p S) (mscr_sI (mscr_refl v) (by decide) (by decide) (by decide))
  by_cases hx : ∃ j, j < 2 ^ qn (aQ A).1 ∧ x = nI j
  · obtain ⟨X, hX, rfl⟩ := hx
    by_cases hy : ∃ j, j < 10 ∧ y = nI j
    · obtain ⟨k, hk, rfl⟩ := hy
      by_cases k0 : k = 0
      · subst k0
        refine ⟨mI 1, _, ?_, ?_, hr⟩
        · have e : nI 0 < nI 1 := by decide
          simp only [f_X12_depth, f_X12_depth_0, f_X12_depth_19, ↓lm_1, ↓lm_2, ↓lm_3, ↓lm_4, ↓lm_5, ↓lm_6, ↓lm_7, ↓lm_8, ↓lm_9, ↓lm_10, ↓lm_11, li_0, li_1, li_2, li_3, li_4, li_5, li_6, li_7, li_8, li_9, li_10, li_11, li_12, li_13, li_14, li_15, li_16, li_17, li_18, li_19, li_20, li_21, li_22, li_23, li_24, li_25, li_26, li_27, li_28, li_29, li_30, li_31, li_32, li_33, li_34, li_35, li_36, li_37, li_38, li_39, li_40, li_41, li_42, li_43, li_44, li_45, li_46, li_47, li_48, li_49, li_50, li_51, li_52, li_53, li_54, li_55, li_56, li_57, li_58, li_59, li_60, li_61, li_62, li_63, li_64, li_65, li_66, li_96, li_97, li_99, li_100, li_122, li_125, li_126, li_140, li_255, li_256, li_999, li_1000, li_1001, li_1002, li_1100, li_1386, li_1452, li_1518, li_9999, li_1000000, c_areThere_in hA hC hX, bd_s, n10, ↓reduceIte, e]
        · have e : nI 0 < nI 1 := by decide
          simp only [f_X13_depth, f_X13_depth_0, f_X13_depth_23, ↓lm_1, ↓lm_2, ↓lm_3, ↓lm_4, ↓lm_5, ↓lm_6, ↓lm_7, ↓lm_8, ↓lm_9, ↓lm_10, ↓lm_11, li_0, li_1, li_2, li_3, li_4, li_5, li_6, li_7, li_8, li_9, li_10, li_11, li_12, li_13, li_14, li_15, li_16, li_17, li_18, li_19, li_20, li_21, li_22, li_23, li_24, li_25, li_26, li_27, li_28, li_29, li_30, li_31, li_32, li_33, li_34, li_35, li_36, li_37, li_38, li_39, li_40, li_41, li_42, li_43, li_44, li_45, li_46, li_47, li_48, li_49, li_50, li_51, li_52, li_53, li_54, li_55, li_56, li_57, li_58, li_59, li_60, li_61, li_62, li_63, li_64, li_65, li_66, li_96, li_97, li_99, li_100, li_122, li_125, li_126, li_140, li_255, li_256, li_999, li_1000, li_1001, li_1002, li_1100, li_1386, li_1452, li_1518, li_9999, li_1000000, nm_eq, m_areThere_in hA hh hX, bd_s, n10, ↓reduceIte, f_X13_within_14, f_X13_within_0, f_X13_within, e]
      · have e1 : ¬ nI k < nI 1 := nI_nlt (by omega) (by omega)
        have e2 : nI k ≤ nI 9 := nI_le (by omega) (by omega)
        have e3 : ¬ nI 9 < nI k := nI_nlt (by omega) (by omega)
        refine ⟨nI (kit (aG A) (aQ A).1 X k), _, ?_, ?_, hr⟩
        · simp only [f_X12_depth, f_X12_depth_0, f_X12_depth_19, ↓lm_1, ↓lm_2, ↓lm_3, ↓lm_4, ↓lm_5, ↓lm_6, ↓lm_7, ↓lm_8, ↓lm_9, ↓lm_10, ↓lm_11, li_0, li_1, li_2, li_3, li_4, li_5, li_6, li_7, li_8, li_9, li_10, li_11, li_12, li_13, li_14, li_15, li_16, li_17, li_18, li_19, li_20, li_21, li_22, li_23, li_24, li_25, li_26, li_27, li_28, li_29, li_30, li_31, li_32, li_33, li_34, li_35, li_36, li_37, li_38, li_39, li_40, li_41, li_42, li_43, li_44, li_45, li_46, li_47, li_48, li_49, li_50, li_51, li_52, li_53, li_54, li_55, li_56, li_57, li_58, li_59, li_60, li_61, li_62, li_63, li_64, li_65, li_66, li_96, li_97, li_99, li_100, li_122, li_125, li_126, li_140, li_255, li_256, li_999, li_1000, li_1001, li_1002, li_1100, li_1386, li_1452, li_1518, li_9999, li_1000000, c_areThere_in hA hC hX, bd_s, n10, ↓reduceIte, e1, e2, c_knownTo hf hA hC (show X < 256 by omega) (show k < 100 by omega)]
        · simp only [f_X13_depth, f_X13_depth_0, f_X13_depth_23, ↓lm_1, ↓lm_2, ↓lm_3, ↓lm_4, ↓lm_5, ↓lm_6, ↓lm_7, ↓lm_8, ↓lm_9, ↓lm_10, ↓lm_11, li_0, li_1, li_2, li_3, li_4, li_5, li_6, li_7, li_8, li_9, li_10, li_11, li_12, li_13, li_14, li_15, li_16, li_17, li_18, li_19, li_20, li_21, li_22, li_23, li_24, li_25, li_26, li_27, li_28, li_29, li_30, li_31, li_32, li_33, li_34, li_35, li_36, li_37, li_38, li_39, li_40, li_41, li_42, li_43, li_44, li_45, li_46, li_47, li_48, li_49, li_50, li_51, li_52, li_53, li_54, li_55, li_56, li_57, li_58, li_59, li_60, li_61, li_62, li_63, li_64, li_65, li_66, li_96, li_97, li_99, li_100, li_122, li_125, li_126, li_140, li_255, li_256, li_999, li_1000, li_1001, li_1002, li_1100, li_1386, li_1452, li_1518, li_9999, li_1000000, nm_eq, m_areThere_in hA hh hX, bd_s, n10, ↓reduceIte, f_X13_within_14, f_X13_within_0, f_X13_within, e1, e3, f_X13_depth_30]
          refine for3 _ (fun i => nI (kit (aG A) (aQ A).1 X i)) (fun i => nI i) (fun _ => sI v 0 (nI 0)) 0 k _ ?_ ?_ fu (by omega) (by omega)
          · intro rec
            simp (disch := omega) only [f_X13_depth_30s, ↓lm_1, ↓lm_2, ↓lm_3, ↓lm_4, ↓lm_5, ↓lm_6, ↓lm_7, ↓lm_8, ↓lm_9, ↓lm_10, ↓lm_11, li_0, li_1, li_2, li_3, li_4, li_5, li_6, li_7, li_8, li_9, li_10, li_11, li_12, li_13, li_14, li_15, li_16, li_17, li_18, li_19, li_20, li_21, li_22, li_23, li_24, li_25, li_26, li_27, li_28, li_29, li_30, li_31, li_32, li_33, li_34, li_35, li_36, li_37, li_38, li_39, li_40, li_41, li_42, li_43, li_44, li_45, li_46, li_47, li_48, li_49, li_50, li_51, li_52, li_53, li_54, li_55, li_56, li_57, li_58, li_59, li_60, li_61, li_62, li_63, li_64, li_65, li_66, li_96, li_97, li_99, li_100, li_122, li_125, li_126, li_140, li_255, li_256, li_999, li_1000, li_1001, li_1002, li_1100, li_1386, li_1452, li_1518, li_9999, li_1000000, nI_leI, Nat.le_refl, ↓reduceIte]
          · intro i rec _ hi
            have hle : ¬ nI k ≤ nI i := nI_ge hi (by omega)
            have hY : kit (aG A) (aQ A).1 X i < 256 := Nat.lt_of_le_of_lt (kit_le _ _ _ _) (show X < 256 by omega)
            simp (disch := omega) only [f_X13_depth_30s, ↓lm_1, ↓lm_2, ↓lm_3, ↓lm_4, ↓lm_5, ↓lm_6, ↓lm_7, ↓lm_8, ↓lm_9, ↓lm_10, ↓lm_11, li_0, li_1, li_2, li_3, li_4, li_5, li_6, li_7, li_8, li_9, li_10, li_11, li_12, li_13, li_14, li_15, li_16, li_17, li_18, li_19, li_20, li_21, li_22, li_23, li_24, li_25, li_26, li_27, li_28, li_29, li_30, li_31, li_32, li_33, li_34, li_35, li_36, li_37, li_38, li_39, li_40, li_41, li_42, li_43, li_44, li_45, li_46, li_47, li_48, li_49, li_50, li_51, li_52, li_53, li_54, li_55, li_56, li_57, li_58, li_59, li_60, li_61, li_62, li_63, li_64, li_65, li_66, li_96, li_97, li_99, li_100, li_122, li_125, li_126, li_140, li_255, li_256, li_999, li_1000, li_1001, li_1002, li_1100, li_1386, li_1452, li_1518, li_9999, li_1000000, hle, ↓reduceIte, m_knownByAll hf hA hh hg hY, bd_s, nm_eq, nI_add, kit]
    · have h3 : y < nI 0 ∨ nI 10 ≤ y := by
        rcases pk_ix y (n := 10) (by omega) with h | h | h
        · exact Or.inl h
        · exact Or.inr h
        · exact absurd h hy
      have a0 : (nI 0).toInt = 0 := by decide
      have a1 : (nI 1).toInt = 1 := by decide
      have a9 : (nI 9).toInt = 9 := by decide
      have a10 : (nI 10).toInt = 10 := by decide
      refine ⟨mI 1, _, ?_, ?_, hr⟩
      · simp only [f_X12_depth, f_X12_depth_0, f_X12_depth_19, ↓lm_1, ↓lm_2, ↓lm_3, ↓lm_4, ↓lm_5, ↓lm_6, ↓lm_7, ↓lm_8, ↓lm_9, ↓lm_10, ↓lm_11, li_0, li_1, li_2, li_3, li_4, li_5, li_6, li_7, li_8, li_9, li_10, li_11, li_12, li_13, li_14, li_15, li_16, li_17, li_18, li_19, li_20, li_21, li_22, li_23, li_24, li_25, li_26, li_27, li_28, li_29, li_30, li_31, li_32, li_33, li_34, li_35, li_36, li_37, li_38, li_39, li_40, li_41, li_42, li_43, li_44, li_45, li_46, li_47, li_48, li_49, li_50, li_51, li_52, li_53, li_54, li_55, li_56, li_57, li_58, li_59, li_60, li_61, li_62, li_63, li_64, li_65, li_66, li_96, li_97, li_99, li_100, li_122, li_125, li_126, li_140, li_255, li_256, li_999, li_1000, li_1001, li_1002, li_1100, li_1386, li_1452, li_1518, li_9999, li_1000000, c_areThere_in hA hC hX, bd_s, n10, ↓reduceIte]
        rw [Int32.lt_iff_toInt_lt, Int32.le_iff_toInt_le] at h3
        simp only [Int32.lt_iff_toInt_lt, Int32.le_iff_toInt_le, a1, a9]
        rcases h3 with h3 | h3
        · rw [if_pos (by omega)]
        · rw [if_neg (by omega), if_neg (by omega)]
      · simp only [f_X13_depth, f_X13_depth_0, f_X13_depth_23, ↓lm_1, ↓lm_2, ↓lm_3, ↓lm_4, ↓lm_5, ↓lm_6, ↓lm_7, ↓lm_8, ↓lm_9, ↓lm_10, ↓lm_11, li_0, li_1, li_2, li_3, li_4, li_5, li_6, li_7, li_8, li_9, li_10, li_11, li_12, li_13, li_14, li_15, li_16, li_17, li_18, li_19, li_20, li_21, li_22, li_23, li_24, li_25, li_26, li_27, li_28, li_29, li_30, li_31, li_32, li_33, li_34, li_35, li_36, li_37, li_38, li_39, li_40, li_41, li_42, li_43, li_44, li_45, li_46, li_47, li_48, li_49, li_50, li_51, li_52, li_53, li_54, li_55, li_56, li_57, li_58, li_59, li_60, li_61, li_62, li_63, li_64, li_65, li_66, li_96, li_97, li_99, li_100, li_122, li_125, li_126, li_140, li_255, li_256, li_999, li_1000, li_1001, li_1002, li_1100, li_1386, li_1452, li_1518, li_9999, li_1000000, nm_eq, m_areThere_in hA hh hX, bd_s, n10, ↓reduceIte, f_X13_within_14, f_X13_within_0, f_X13_within]
        rw [Int32.lt_iff_toInt_lt, Int32.le_iff_toInt_le] at h3
        simp only [Int32.lt_iff_toInt_lt, Int32.le_iff_toInt_le, a1, a9]
        rcases h3 with h3 | h3
        · rw [if_pos (show y.toInt < 1 by omega), bd_s, if_pos rfl]
        · rw [if_neg (show ¬ y.toInt < 1 by omega), if_pos (show 9 < y.toInt by omega), bd_s, if_pos rfl]
  · refine ⟨mI 1, _, ?_, ?_, hr⟩
    · simp only [f_X12_depth, f_X12_depth_0, f_X12_depth_19, ↓lm_1, ↓lm_2, ↓lm_3, ↓lm_4, ↓lm_5, ↓lm_6, ↓lm_7, ↓lm_8, ↓lm_9, ↓lm_10, ↓lm_11, li_0, li_1, li_2, li_3, li_4, li_5, li_6, li_7, li_8, li_9, li_10, li_11, li_12, li_13, li_14, li_15, li_16, li_17, li_18, li_19, li_20, li_21, li_22, li_23, li_24, li_25, li_26, li_27, li_28, li_29, li_30, li_31, li_32, li_33, li_34, li_35, li_36, li_37, li_38, li_39, li_40, li_41, li_42, li_43, li_44, li_45, li_46, li_47, li_48, li_49, li_50, li_51, li_52, li_53, li_54, li_55, li_56, li_57, li_58, li_59, li_60, li_61, li_62, li_63, li_64, li_65, li_66, li_96, li_97, li_99, li_100, li_122, li_125, li_126, li_140, li_255, li_256, li_999, li_1000, li_1001, li_1002, li_1100, li_1386, li_1452, li_1518, li_9999, li_1000000, c_areThere_out hA hC hx, bd_s, ↓reduceIte]
    · simp only [f_X13_depth, f_X13_depth_0, f_X13_depth_23, ↓lm_1, ↓lm_2, ↓lm_3, ↓lm_4, ↓lm_5, ↓lm_6, ↓lm_7, ↓lm_8, ↓lm_9, ↓lm_10, ↓lm_11, li_0, li_1, li_2, li_3, li_4, li_5, li_6, li_7, li_8, li_9, li_10, li_11, li_12, li_13, li_14, li_15, li_16, li_17, li_18, li_19, li_20, li_21, li_22, li_23, li_24, li_25, li_26, li_27, li_28, li_29, li_30, li_31, li_32, li_33, li_34, li_35, li_36, li_37, li_38, li_39, li_40, li_41, li_42, li_43, li_44, li_45, li_46, li_47, li_48, li_49, li_50, li_51, li_52, li_53, li_54, li_55, li_56, li_57, li_58, li_59, li_60, li_61, li_62, li_63, li_64, li_65, li_66, li_96, li_97, li_99, li_100, li_122, li_125, li_126, li_140, li_255, li_256, li_999, li_1000, li_1001, li_1002, li_1100, li_1386, li_1452, li_1518, li_9999, li_1000000, nm_eq, m_areThere_out hA hh hx, bd_s, ↓reduceIte]
theorem r_common (hf : 1101 ≤ fu) (h : RR p S v) (x : Int32) : ∃ z v', f_X12_common fu S p x = some z ∧ f_X13_common fu v x = some (z, v') ∧ RR p S v' := by
  obtain ⟨A, hA, hC, hM⟩ := h
  have h2 := p2n hA
  have hh : MH (gA (sI v 0 (nI 0)) 24) (aQ A).1 := hM.2.2.1.1
  have hg : MG (sI v 0 (nI 0)) (aG A) := hM.2.1
  have hr : RR p S (sI v 0 (nI 0)) := RR_q hA hC hM (scr_refl p S) (mscr_sI (mscr_refl v) (by decide) (by decide) (by decide))
  by_cases hx : ∃ j, j < 2 ^ qn (aQ A).1 ∧ x = nI j
  · obtain ⟨X, hX, rfl⟩ := hx
    refine ⟨nI (kit (aG A) (aQ A).1 X 8), _, ?_, ?_, hr⟩
    · simp only [f_X12_common, f_X12_common_0, ↓lm_1, ↓lm_2, ↓lm_3, ↓lm_4, ↓lm_5, ↓lm_6, ↓lm_7, ↓lm_8, ↓lm_9, ↓lm_10, ↓lm_11, li_0, li_1, li_2, li_3, li_4, li_5, li_6, li_7, li_8, li_9, li_10, li_11, li_12, li_13, li_14, li_15, li_16, li_17, li_18, li_19, li_20, li_21, li_22, li_23, li_24, li_25, li_26, li_27, li_28, li_29, li_30, li_31, li_32, li_33, li_34, li_35, li_36, li_37, li_38, li_39, li_40, li_41, li_42, li_43, li_44, li_45, li_46, li_47, li_48, li_49, li_50, li_51, li_52, li_53, li_54, li_55, li_56, li_57, li_58, li_59, li_60, li_61, li_62, li_63, li_64, li_65, li_66, li_96, li_97, li_99, li_100, li_122, li_125, li_126, li_140, li_255, li_256, li_999, li_1000, li_1001, li_1002, li_1100, li_1386, li_1452, li_1518, li_9999, li_1000000, c_areThere_in hA hC hX, bd_s, n10, ↓reduceIte, c_knownTo hf hA hC (show X < 256 by omega) (show 8 < 100 by omega)]
    · rw [← kit_89 (show X < 256 by omega)]
      simp only [f_X13_common, f_X13_common_0, ↓lm_1, ↓lm_2, ↓lm_3, ↓lm_4, ↓lm_5, ↓lm_6, ↓lm_7, ↓lm_8, ↓lm_9, ↓lm_10, ↓lm_11, li_0, li_1, li_2, li_3, li_4, li_5, li_6, li_7, li_8, li_9, li_10, li_11, li_12, li_13, li_14, li_15, li_16, li_17, li_18, li_19, li_20, li_21, li_22, li_23, li_24, li_25, li_26, li_27, li_28, li_29, li_30, li_31, li_32, li_33, li_34, li_35, li_36, li_37, li_38, li_39, li_40, li_41, li_42, li_43, li_44, li_45, li_46, li_47, li_48, li_49, li_50, li_51, li_52, li_53, li_54, li_55, li_56, li_57, li_58, li_59, li_60, li_61, li_62, li_63, li_64, li_65, li_66, li_96, li_97, li_99, li_100, li_122, li_125, li_126, li_140, li_255, li_256, li_999, li_1000, li_1001, li_1002, li_1100, li_1386, li_1452, li_1518, li_9999, li_1000000, nm_eq, m_areThere_in hA hh hX, bd_s, n10, ↓reduceIte, f_X13_common_19]
      refine for3 _ (fun i => nI (kit (aG A) (aQ A).1 X i)) (fun i => nI i) (fun _ => sI v 0 (nI 0)) 0 9 _ ?_ ?_ fu (by omega) (by omega)
      · intro rec
        have e : nI 8 < nI 9 := by decide
        simp (disch := omega) only [f_X13_common_19s, ↓lm_1, ↓lm_2, ↓lm_3, ↓lm_4, ↓lm_5, ↓lm_6, ↓lm_7, ↓lm_8, ↓lm_9, ↓lm_10, ↓lm_11, li_0, li_1, li_2, li_3, li_4, li_5, li_6, li_7, li_8, li_9, li_10, li_11, li_12, li_13, li_14, li_15, li_16, li_17, li_18, li_19, li_20, li_21, li_22, li_23, li_24, li_25, li_26, li_27, li_28, li_29, li_30, li_31, li_32, li_33, li_34, li_35, li_36, li_37, li_38, li_39, li_40, li_41, li_42, li_43, li_44, li_45, li_46, li_47, li_48, li_49, li_50, li_51, li_52, li_53, li_54, li_55, li_56, li_57, li_58, li_59, li_60, li_61, li_62, li_63, li_64, li_65, li_66, li_96, li_97, li_99, li_100, li_122, li_125, li_126, li_140, li_255, li_256, li_999, li_1000, li_1001, li_1002, li_1100, li_1386, li_1452, li_1518, li_9999, li_1000000, e, ↓reduceIte]
      · intro i rec _ hi
        have hle : ¬ nI 8 < nI i := nI_nlt (by omega) (by omega)
        have hY : kit (aG A) (aQ A).1 X i < 256 := Nat.lt_of_le_of_lt (kit_le _ _ _ _) (show X < 256 by omega)
        simp (disch := omega) only [f_X13_common_19s, ↓lm_1, ↓lm_2, ↓lm_3, ↓lm_4, ↓lm_5, ↓lm_6, ↓lm_7, ↓lm_8, ↓lm_9, ↓lm_10, ↓lm_11, li_0, li_1, li_2, li_3, li_4, li_5, li_6, li_7, li_8, li_9, li_10, li_11, li_12, li_13, li_14, li_15, li_16, li_17, li_18, li_19, li_20, li_21, li_22, li_23, li_24, li_25, li_26, li_27, li_28, li_29, li_30, li_31, li_32, li_33, li_34, li_35, li_36, li_37, li_38, li_39, li_40, li_41, li_42, li_43, li_44, li_45, li_46, li_47, li_48, li_49, li_50, li_51, li_52, li_53, li_54, li_55, li_56, li_57, li_58, li_59, li_60, li_61, li_62, li_63, li_64, li_65, li_66, li_96, li_97, li_99, li_100, li_122, li_125, li_126, li_140, li_255, li_256, li_999, li_1000, li_1001, li_1002, li_1100, li_1386, li_1452, li_1518, li_9999, li_1000000, hle, ↓reduceIte, m_knownByAll hf hA hh hg hY, bd_s, nm_eq, nI_add, kit]
  · refine ⟨mI 1, _, ?_, ?_, hr⟩
    · simp only [f_X12_common, f_X12_common_0, ↓lm_1, ↓lm_2, ↓lm_3, ↓lm_4, ↓lm_5, ↓lm_6, ↓lm_7, ↓lm_8, ↓lm_9, ↓lm_10, ↓lm_11, li_0, li_1, li_2, li_3, li_4, li_5, li_6, li_7, li_8, li_9, li_10, li_11, li_12, li_13, li_14, li_15, li_16, li_17, li_18, li_19, li_20, li_21, li_22, li_23, li_24, li_25, li_26, li_27, li_28, li_29, li_30, li_31, li_32, li_33, li_34, li_35, li_36, li_37, li_38, li_39, li_40, li_41, li_42, li_43, li_44, li_45, li_46, li_47, li_48, li_49, li_50, li_51, li_52, li_53, li_54, li_55, li_56, li_57, li_58, li_59, li_60, li_61, li_62, li_63, li_64, li_65, li_66, li_96, li_97, li_99, li_100, li_122, li_125, li_126, li_140, li_255, li_256, li_999, li_1000, li_1001, li_1002, li_1100, li_1386, li_1452, li_1518, li_9999, li_1000000, c_areThere_out hA hC hx, bd_s, ↓reduceIte]
    · simp only [f_X13_common, f_X13_common_0, ↓lm_1, ↓lm_2, ↓lm_3, ↓lm_4, ↓lm_5, ↓lm_6, ↓lm_7, ↓lm_8, ↓lm_9, ↓lm_10, ↓lm_11, li_0, li_1, li_2, li_3, li_4, li_5, li_6, li_7, li_8, li_9, li_10, li_11, li_12, li_13, li_14, li_15, li_16, li_17, li_18, li_19, li_20, li_21, li_22, li_23, li_24, li_25, li_26, li_27, li_28, li_29, li_30, li_31, li_32, li_33, li_34, li_35, li_36, li_37, li_38, li_39, li_40, li_41, li_42, li_43, li_44, li_45, li_46, li_47, li_48, li_49, li_50, li_51, li_52, li_53, li_54, li_55, li_56, li_57, li_58, li_59, li_60, li_61, li_62, li_63, li_64, li_65, li_66, li_96, li_97, li_99, li_100, li_122, li_125, li_126, li_140, li_255, li_256, li_999, li_1000, li_1001, li_1002, li_1100, li_1386, li_1452, li_1518, li_9999, li_1000000, nm_eq, m_areThere_out hA hh hx, bd_s, ↓reduceIte]
end Q
