/-! ===== questions: joined, fits, ask, price ===== -/
def b01 (b : Bool) : Int32 := if b = true then nI 1 else nI 0
theorem subs_tb (x m : Nat) : x &&& m = m ↔ ∀ j, m.testBit j = true → x.testBit j = true := by
  constructor
  · intro h j hj
    have := congrArg (fun z => Nat.testBit z j) h
    simp only [Nat.testBit_and, hj, Bool.and_true] at this
    exact this
  · intro h
    apply Nat.eq_of_testBit_eq
    intro j
    rw [Nat.testBit_and]
    cases c : m.testBit j
    · simp
    · simp [h j c]
theorem disj_tb (x m : Nat) : x &&& m = 0 ↔ ∀ j, m.testBit j = true → x.testBit j = false := by
  constructor
  · intro h j hj
    have := congrArg (fun z => Nat.testBit z j) h
    simp only [Nat.testBit_and, hj, Bool.and_true, Nat.zero_testBit] at this
    exact this
  · intro h
    apply Nat.eq_of_testBit_eq
    intro j
    rw [Nat.testBit_and, Nat.zero_testBit]
    cases c : m.testBit j
    · simp
    · simp [h j c]
theorem sub_or (x m s : Nat) : x &&& (m ||| 2 ^ s) = m ||| 2 ^ s ↔ x &&& m = m ∧ bt x s = 1 := by
  rw [subs_tb, subs_tb, bt_tb]
  constructor
  · intro h
    refine ⟨fun j hj => h j (by rw [Nat.testBit_or, hj]; rfl), h s (by rw [Nat.testBit_or, Nat.testBit_two_pow]; simp)⟩
  · rintro ⟨h1, h2⟩ j hj
    rw [Nat.testBit_or, Nat.testBit_two_pow] at hj
    cases c : m.testBit j
    · rw [c] at hj; simp at hj; rw [← hj]; exact h2
    · exact h1 j c
theorem dis_or (x m s : Nat) : x &&& (m ||| 2 ^ s) = 0 ↔ x &&& m = 0 ∧ bt x s = 0 := by
  rw [disj_tb, disj_tb, bt_0]
  constructor
  · intro h
    refine ⟨fun j hj => h j (by rw [Nat.testBit_or, hj]; rfl), h s (by rw [Nat.testBit_or, Nat.testBit_two_pow]; simp)⟩
  · rintro ⟨h1, h2⟩ j hj
    rw [Nat.testBit_or, Nat.testBit_two_pow] at hj
    cases c : m.testBit j
    · rw [c] at hj; simp at hj; rw [← hj]; exact h2
    · exact h1 j c
/-- the first k looks are so by x -/
def lkA (l : LK) (x : Nat) : Nat → Bool
  | 0 => true
  | k + 1 => lkA l x k && decide (bt x (l.2.1 k) = l.2.2 k)
theorem lkA_iff {G : GP} {l : LK} (hG : okG G) (hl : okl G l) (x : Nat) : ∀ k, k ≤ l.1 → (lkA l x k = true ↔ x &&& lob l 1 k = lob l 1 k ∧ x &&& lob l 0 k = 0) := by
  intro k
  induction k with
  | zero => intro _; simp [lkA, lob]
  | succ k ih =>
    intro hk
    have ih := ih (by omega)
    have ho := (hl.2 k (by omega)).2
    simp only [lkA, lob, Bool.and_eq_true, decide_eq_true_eq]
    rw [ih]
    by_cases c : l.2.2 k = 1
    · have c0 : ¬ l.2.2 k = 0 := by omega
      rw [if_pos c, if_neg c0, sub_or, c]
      constructor
      · rintro ⟨⟨a, b⟩, d⟩; exact ⟨⟨a, d⟩, b⟩
      · rintro ⟨⟨a, b⟩, d⟩; exact ⟨⟨a, d⟩, b⟩
    · have c0 : l.2.2 k = 0 := by omega
      rw [if_neg c, if_pos c0, dis_or, c0]
      constructor
      · rintro ⟨⟨a, b⟩, d⟩; exact ⟨a, b, d⟩
      · rintro ⟨a, b, d⟩; exact ⟨⟨a, b⟩, d⟩
theorem lob_lt {G : GP} {l : LK} (hG : okG G) (hl : okl G l) (o : Nat) : ∀ k, k ≤ l.1 → lob l o k < 256 := by
  intro k
  induction k with
  | zero => intro _; simp [lob]
  | succ k ih =>
    intro hk
    have ih := ih (by omega)
    have hs := (hl.2 k (by omega)).1
    have := hG.1
    simp only [lob]
    split
    · exact Nat.or_lt_two_pow (n := 8) ih (p2_256 (by omega))
    · exact ih
def fitb (Q : QL) (p : Nat) : Bool := decide (qh Q.1 p ≠ 6) && lkA Q.2 (qo Q.1 p) Q.2.1
theorem fitb_lt (Q : QL) {n : Nat} (h : n ≤ 8) : setb (fitb Q) n < 256 := Nat.lt_of_lt_of_le (setb_lt _ n) (Nat.pow_le_pow_right (n := 2) (by decide) h)
theorem x3_isFitting {fu p : Nat} {w : GV} {Q : QL} {G : GP} (hG : okG G) (hQ : okQ G Q) (hw : CHL w Q) (hp : p < qn Q.1) : f_X3_isFitting fu w (nI p) = some (b01 (fitb Q p)) := by
  have hq := hQ.1
  have h8 := hq.1.2.1
  have h5 := hG.2.1
  have b1 := (hq.2.1 p hp).1
  have hb := (hq.2.1 p hp).2.2
  have l1 := lob_lt hG hQ.2 1 _ (Nat.le_refl _)
  have l0 := lob_lt hG hQ.2 0 _ (Nat.le_refl _)
  have l1' : qo Q.1 p &&& lob Q.2 1 Q.2.1 < 256 := Nat.lt_of_le_of_lt Nat.and_le_left b1
  have l0' : qo Q.1 p &&& lob Q.2 0 Q.2.1 < 256 := Nat.lt_of_le_of_lt Nat.and_le_left b1
  have key := lkA_iff hG hQ.2 (qo Q.1 p) _ (Nat.le_refl _)
  simp (disch := omega) only [f_X3_isFitting_57, f_X3_isFitting_37, f_X3_isFitting_36, f_X3_isFitting_0, f_X3_isFitting, ↓lm_1, ↓lm_2, ↓lm_3, ↓lm_4, ↓lm_5, ↓lm_6, ↓lm_7, ↓lm_8, ↓lm_9, ↓lm_10, ↓lm_11, li_0, li_1, li_2, li_3, li_4, li_5, li_6, li_7, li_8, li_9, li_10, li_11, li_12, li_13, li_14, li_15, li_16, li_17, li_18, li_19, li_20, li_21, li_22, li_23, li_24, li_25, li_26, li_27, li_28, li_29, li_30, li_31, li_32, li_33, li_34, li_35, li_36, li_37, li_38, li_39, li_40, li_41, li_42, li_43, li_44, li_45, li_46, li_47, li_48, li_49, li_50, li_51, li_52, li_53, li_54, li_55, li_56, li_57, li_58, li_59, li_60, li_61, li_62, li_63, li_64, li_65, li_66, li_96, li_97, li_99, li_100, li_122, li_125, li_126, li_140, li_255, li_256, li_999, li_1000, li_1001, li_1002, li_1100, li_1386, li_1452, li_1518, li_9999, li_1000000, inb_n, nI_clamp, ck_t, (hw.1.2.2.2.2.2.1 p hp).1, (hw.1.2.2.2.2.2.1 p hp).2.1, hw.2.2.1, hw.2.2.2, nI_andN, nI_eq, Nat.one_ne_zero, ↓reduceIte, b01, fitb, Bool.and_eq_true, decide_eq_true_eq]
  simp only [key]
  by_cases c1 : qo Q.1 p &&& lob Q.2 1 Q.2.1 = lob Q.2 1 Q.2.1
  · rw [if_pos c1]
    by_cases c0 : qo Q.1 p &&& lob Q.2 0 Q.2.1 = 0
    · rw [if_pos c0]
      by_cases c6 : qh Q.1 p = 6
      · rw [if_pos c6, if_neg (fun c => c.1 c6)]
      · rw [if_neg c6, if_pos ⟨c6, c1, c0⟩]
    · rw [if_neg c0, if_neg (fun c => c0 c.2.2)]
  · rw [if_neg c1, if_neg (fun c => c1 c.2.1)]
theorem x3_joins {fu a b p : Nat} {w : GV} {q : HP} {G : GP} (hq : okq G q) (hw : CH w q) (ha : a < qn q) (hb : b < qn q) (hp : p < qn q) : f_X3_joins fu w (nI a) (nI b) (nI p) = some (if a = p ∨ b = p ∨ (nI (qo q p) ^^^ nI (qo q a)) &&& (nI (qo q p) ^^^ nI (qo q b)) ≠ nI 0 then nI 0 else nI 1) := by
  have h8 := hq.1.2.1
  simp (disch := omega) only [f_X3_joins_56, f_X3_joins_15, f_X3_joins_14, f_X3_joins_0, f_X3_joins, ↓lm_1, ↓lm_2, ↓lm_3, ↓lm_4, ↓lm_5, ↓lm_6, ↓lm_7, ↓lm_8, ↓lm_9, ↓lm_10, ↓lm_11, li_0, li_1, li_2, li_3, li_4, li_5, li_6, li_7, li_8, li_9, li_10, li_11, li_12, li_13, li_14, li_15, li_16, li_17, li_18, li_19, li_20, li_21, li_22, li_23, li_24, li_25, li_26, li_27, li_28, li_29, li_30, li_31, li_32, li_33, li_34, li_35, li_36, li_37, li_38, li_39, li_40, li_41, li_42, li_43, li_44, li_45, li_46, li_47, li_48, li_49, li_50, li_51, li_52, li_53, li_54, li_55, li_56, li_57, li_58, li_59, li_60, li_61, li_62, li_63, li_64, li_65, li_66, li_96, li_97, li_99, li_100, li_122, li_125, li_126, li_140, li_255, li_256, li_999, li_1000, li_1001, li_1002, li_1100, li_1386, li_1452, li_1518, li_9999, li_1000000, inb_n, nI_clamp, ck_t, (hw.2.2.2.2.2.1 p hp).1, (hw.2.2.2.2.2.1 a ha).1, (hw.2.2.2.2.2.1 b hb).1, nI_eq, Nat.one_ne_zero, ↓reduceIte]
  by_cases c1 : a = p
  · rw [if_pos c1, if_pos (Or.inl c1)]
  · rw [if_neg c1]
    by_cases c2 : b = p
    · rw [if_pos c2, if_pos (Or.inr (Or.inl c2))]
    · rw [if_neg c2]
      by_cases c3 : (nI (qo q p) ^^^ nI (qo q a)) &&& (nI (qo q p) ^^^ nI (qo q b)) = nI 0
      · rw [if_pos c3, if_neg (fun c => c.elim c1 (fun c => c.elim c2 (fun c => c c3)))]
      · rw [if_neg c3, if_pos (Or.inr (Or.inr c3))]
theorem oI_none {c : Option Nat} (h : ∀ j, c = some j → j < 1000) : oI c = mI 1 ↔ c = none := by
  cases c with
  | none => simp [oI]
  | some j =>
    have := h j rfl
    have hm : ¬ nI j = mI 1 := nI_nem (by omega) (by omega) (by omega)
    simp [oI, hm]
section Q
variable {fu p : Nat} {S : ST} {v : GV} {A : AP}
theorem c_joined (hf : 1101 ≤ fu) (hA : okA A) (hC : RC p S A) {a b : Nat} (ha : a < qn (aQ A).1) (hb : b < 2) : f_X12_joined fu S p (nI a) (nI b) = some (if b = 0 then nI (jou (aQ A).1 a (qn (aQ A).1)).1 else oI (jou (aQ A).1 a (qn (aQ A).1)).2) := by
  obtain ⟨t, d, ln, dl, f, hP, hK⟩ := id hC
  have hc := hP.1.2.2.1
  have hw := hK.1.1
  have hq := hA.2.1.1
  have h8 := hq.1.2.1
  have e0 : f_X12_joined fu S p (nI a) (nI b) = f_X12_joined_31 fu fu S p (nI a) (nI b) (nI 0) (mI 1) (nI 0) := by
    have h1 : nI b ≤ nI 1 := nI_le (by omega) (by omega)
    have h0 : ¬ nI b < nI 0 := nI_nlt (by omega) (by omega)
    simp (disch := omega) only [f_X12_joined, f_X12_joined_0, ↓lm_1, ↓lm_2, ↓lm_3, ↓lm_4, ↓lm_5, ↓lm_6, ↓lm_7, ↓lm_8, ↓lm_9, ↓lm_10, ↓lm_11, li_0, li_1, li_2, li_3, li_4, li_5, li_6, li_7, li_8, li_9, li_10, li_11, li_12, li_13, li_14, li_15, li_16, li_17, li_18, li_19, li_20, li_21, li_22, li_23, li_24, li_25, li_26, li_27, li_28, li_29, li_30, li_31, li_32, li_33, li_34, li_35, li_36, li_37, li_38, li_39, li_40, li_41, li_42, li_43, li_44, li_45, li_46, li_47, li_48, li_49, li_50, li_51, li_52, li_53, li_54, li_55, li_56, li_57, li_58, li_59, li_60, li_61, li_62, li_63, li_64, li_65, li_66, li_96, li_97, li_99, li_100, li_122, li_125, li_126, li_140, li_255, li_256, li_999, li_1000, li_1001, li_1002, li_1100, li_1386, li_1452, li_1518, li_9999, li_1000000, hc, decide_true, ck_t, x3_isThere_in hw hq ha, bd_s, n10, h0, h1, ↓reduceIte]
  rw [e0, f_X12_joined_31]
  refine for3 _ (fun k => nI (jou (aQ A).1 a k).1) (fun k => oI (jou (aQ A).1 a k).2) (fun k => nI k) 0 (qn (aQ A).1) _ ?_ ?_ fu (by omega) (by omega)
  · intro rec
    simp (disch := omega) only [f_X12_joined_31s, ↓lm_1, ↓lm_2, ↓lm_3, ↓lm_4, ↓lm_5, ↓lm_6, ↓lm_7, ↓lm_8, ↓lm_9, ↓lm_10, ↓lm_11, li_0, li_1, li_2, li_3, li_4, li_5, li_6, li_7, li_8, li_9, li_10, li_11, li_12, li_13, li_14, li_15, li_16, li_17, li_18, li_19, li_20, li_21, li_22, li_23, li_24, li_25, li_26, li_27, li_28, li_29, li_30, li_31, li_32, li_33, li_34, li_35, li_36, li_37, li_38, li_39, li_40, li_41, li_42, li_43, li_44, li_45, li_46, li_47, li_48, li_49, li_50, li_51, li_52, li_53, li_54, li_55, li_56, li_57, li_58, li_59, li_60, li_61, li_62, li_63, li_64, li_65, li_66, li_96, li_97, li_99, li_100, li_122, li_125, li_126, li_140, li_255, li_256, li_999, li_1000, li_1001, li_1002, li_1100, li_1386, li_1452, li_1518, li_9999, li_1000000, hc, decide_true, ck_t, hw.2.2.1, nI_leI, Nat.le_refl, ↓reduceIte, nI_eq]
    split <;> rfl
  · intro k rec _ hk
    have hle : ¬ nI (qn (aQ A).1) ≤ nI k := nI_ge hk (by omega)
    simp (disch := omega) only [f_X12_joined_31s, ↓lm_1, ↓lm_2, ↓lm_3, ↓lm_4, ↓lm_5, ↓lm_6, ↓lm_7, ↓lm_8, ↓lm_9, ↓lm_10, ↓lm_11, li_0, li_1, li_2, li_3, li_4, li_5, li_6, li_7, li_8, li_9, li_10, li_11, li_12, li_13, li_14, li_15, li_16, li_17, li_18, li_19, li_20, li_21, li_22, li_23, li_24, li_25, li_26, li_27, li_28, li_29, li_30, li_31, li_32, li_33, li_34, li_35, li_36, li_37, li_38, li_39, li_40, li_41, li_42, li_43, li_44, li_45, li_46, li_47, li_48, li_49, li_50, li_51, li_52, li_53, li_54, li_55, li_56, li_57, li_58, li_59, li_60, li_61, li_62, li_63, li_64, li_65, li_66, li_96, li_97, li_99, li_100, li_122, li_125, li_126, li_140, li_255, li_256, li_999, li_1000, li_1001, li_1002, li_1100, li_1386, li_1452, li_1518, li_9999, li_1000000, hc, decide_true, ck_t, hw.2.2.1, hle, ↓reduceIte, nm_eq, nI_add, f_X12_joined_49]
    refine for3 _ (fun i => nI (jin (aQ A).1 a k (jou (aQ A).1 a k) i).1) (fun i => oI (jin (aQ A).1 a k (jou (aQ A).1 a k) i).2) (fun i => nI (k + 1 + i)) 0 (qn (aQ A).1 - (k + 1)) _ ?_ ?_ fu (by omega) (by omega)
    · intro rec2
      have hle2 : nI (qn (aQ A).1) ≤ nI (k + 1 + (qn (aQ A).1 - (k + 1))) := nI_le (by omega) (by omega)
      simp (disch := omega) only [f_X12_joined_49s, ↓lm_1, ↓lm_2, ↓lm_3, ↓lm_4, ↓lm_5, ↓lm_6, ↓lm_7, ↓lm_8, ↓lm_9, ↓lm_10, ↓lm_11, li_0, li_1, li_2, li_3, li_4, li_5, li_6, li_7, li_8, li_9, li_10, li_11, li_12, li_13, li_14, li_15, li_16, li_17, li_18, li_19, li_20, li_21, li_22, li_23, li_24, li_25, li_26, li_27, li_28, li_29, li_30, li_31, li_32, li_33, li_34, li_35, li_36, li_37, li_38, li_39, li_40, li_41, li_42, li_43, li_44, li_45, li_46, li_47, li_48, li_49, li_50, li_51, li_52, li_53, li_54, li_55, li_56, li_57, li_58, li_59, li_60, li_61, li_62, li_63, li_64, li_65, li_66, li_96, li_97, li_99, li_100, li_122, li_125, li_126, li_140, li_255, li_256, li_999, li_1000, li_1001, li_1002, li_1100, li_1386, li_1452, li_1518, li_9999, li_1000000, hc, decide_true, ck_t, hw.2.2.1, hle2, ↓reduceIte, nm_eq, nI_add, jou]
    · intro i rec2 _ hi
      have hj := jin_ok (q := (aQ A).1) (p := a) (a := k) (jou_ok (p := a) h8 k (by omega)).1 i (by omega)
      have hj2 := (jou_ok (q := (aQ A).1) (p := a) h8 k (by omega)).2
      have hle2 : ¬ nI (qn (aQ A).1) ≤ nI (k + 1 + i) := nI_ge (by omega) (by omega)
      simp (disch := omega) only [f_X12_joined_49s, f_X12_joined_98, f_X12_joined_100, ↓lm_1, ↓lm_2, ↓lm_3, ↓lm_4, ↓lm_5, ↓lm_6, ↓lm_7, ↓lm_8, ↓lm_9, ↓lm_10, ↓lm_11, li_0, li_1, li_2, li_3, li_4, li_5, li_6, li_7, li_8, li_9, li_10, li_11, li_12, li_13, li_14, li_15, li_16, li_17, li_18, li_19, li_20, li_21, li_22, li_23, li_24, li_25, li_26, li_27, li_28, li_29, li_30, li_31, li_32, li_33, li_34, li_35, li_36, li_37, li_38, li_39, li_40, li_41, li_42, li_43, li_44, li_45, li_46, li_47, li_48, li_49, li_50, li_51, li_52, li_53, li_54, li_55, li_56, li_57, li_58, li_59, li_60, li_61, li_62, li_63, li_64, li_65, li_66, li_96, li_97, li_99, li_100, li_122, li_125, li_126, li_140, li_255, li_256, li_999, li_1000, li_1001, li_1002, li_1100, li_1386, li_1452, li_1518, li_9999, li_1000000, hc, decide_true, ck_t, hw.2.2.1, hle2, ↓reduceIte, nm_eq, nI_add, x3_joins hq hw hk (show k + 1 + i < qn (aQ A).1 by omega) ha, bd_s, nI_mulN, oI_none hj.1.2, jin, jst]
      by_cases c : k = a ∨ k + 1 + i = a ∨ (nI (qo (aQ A).1 a) ^^^ nI (qo (aQ A).1 k)) &&& (nI (qo (aQ A).1 a) ^^^ nI (qo (aQ A).1 (k + 1 + i))) ≠ nI 0
      · simp only [if_pos c, ↓reduceIte]; rfl
      · simp only [if_neg c, n10, ↓reduceIte]
        by_cases e : (jin (aQ A).1 a k (jou (aQ A).1 a k) i).1 = 0
        · rw [if_pos (hj.1.1.mp e), if_pos e, Nat.mul_comm k 8]; rfl
        · rw [if_neg (fun z => e (hj.1.1.mpr z)), if_neg e]; rfl
theorem m_joined (hf : 1101 ≤ fu) (hA : okA A) (hM : RM v A) {a b : Nat} (ha : a < qn (aQ A).1) (hb : b < 2) : f_X13_joined fu v (nI a) (nI b) = some (if b = 0 then nI (jou (aQ A).1 a (qn (aQ A).1)).1 else oI (jou (aQ A).1 a (qn (aQ A).1)).2, sI v 0 (nI 0)) := by
  have hq := hA.2.1.1
  have h8 := hq.1.2.1
  have hh : MH (gA (sI v 0 (nI 0)) 24) (aQ A).1 := hM.2.2.1.1
  have e0 : f_X13_joined fu v (nI a) (nI b) = f_X13_joined_34 fu fu (nI a) (nI b) (nI 0) (mI 1) (nI 0) (sI v 0 (nI 0)) := by
    simp (disch := omega) only [f_X13_joined, f_X13_joined_0, ↓lm_1, ↓lm_2, ↓lm_3, ↓lm_4, ↓lm_5, ↓lm_6, ↓lm_7, ↓lm_8, ↓lm_9, ↓lm_10, ↓lm_11, li_0, li_1, li_2, li_3, li_4, li_5, li_6, li_7, li_8, li_9, li_10, li_11, li_12, li_13, li_14, li_15, li_16, li_17, li_18, li_19, li_20, li_21, li_22, li_23, li_24, li_25, li_26, li_27, li_28, li_29, li_30, li_31, li_32, li_33, li_34, li_35, li_36, li_37, li_38, li_39, li_40, li_41, li_42, li_43, li_44, li_45, li_46, li_47, li_48, li_49, li_50, li_51, li_52, li_53, li_54, li_55, li_56, li_57, li_58, li_59, li_60, li_61, li_62, li_63, li_64, li_65, li_66, li_96, li_97, li_99, li_100, li_122, li_125, li_126, li_140, li_255, li_256, li_999, li_1000, li_1001, li_1002, li_1100, li_1386, li_1452, li_1518, li_9999, li_1000000, nm_eq, m0_isPiece_in hh hq ha, w_in, bd_s, n10, ↓reduceIte]
  rw [e0, f_X13_joined_34]
  refine for4 _ (fun k => nI (jou (aQ A).1 a k).1) (fun k => oI (jou (aQ A).1 a k).2) (fun k => nI k) (fun _ => sI v 0 (nI 0)) 0 (qn (aQ A).1) _ ?_ ?_ fu (by omega) (by omega)
  · intro rec
    simp (disch := omega) only [f_X13_joined_34s, ↓lm_1, ↓lm_2, ↓lm_3, ↓lm_4, ↓lm_5, ↓lm_6, ↓lm_7, ↓lm_8, ↓lm_9, ↓lm_10, ↓lm_11, li_0, li_1, li_2, li_3, li_4, li_5, li_6, li_7, li_8, li_9, li_10, li_11, li_12, li_13, li_14, li_15, li_16, li_17, li_18, li_19, li_20, li_21, li_22, li_23, li_24, li_25, li_26, li_27, li_28, li_29, li_30, li_31, li_32, li_33, li_34, li_35, li_36, li_37, li_38, li_39, li_40, li_41, li_42, li_43, li_44, li_45, li_46, li_47, li_48, li_49, li_50, li_51, li_52, li_53, li_54, li_55, li_56, li_57, li_58, li_59, li_60, li_61, li_62, li_63, li_64, li_65, li_66, li_96, li_97, li_99, li_100, li_122, li_125, li_126, li_140, li_255, li_256, li_999, li_1000, li_1001, li_1002, li_1100, li_1386, li_1452, li_1518, li_9999, li_1000000, nI_clamp, hh.2.2.1, nI_leI, Nat.le_refl, ↓reduceIte, nI_eq]
    split <;> rfl
  · intro k rec _ hk
    have hle : ¬ nI (qn (aQ A).1) ≤ nI k := nI_ge hk (by omega)
    simp (disch := omega) only [f_X13_joined_34s, ↓lm_1, ↓lm_2, ↓lm_3, ↓lm_4, ↓lm_5, ↓lm_6, ↓lm_7, ↓lm_8, ↓lm_9, ↓lm_10, ↓lm_11, li_0, li_1, li_2, li_3, li_4, li_5, li_6, li_7, li_8, li_9, li_10, li_11, li_12, li_13, li_14, li_15, li_16, li_17, li_18, li_19, li_20, li_21, li_22, li_23, li_24, li_25, li_26, li_27, li_28, li_29, li_30, li_31, li_32, li_33, li_34, li_35, li_36, li_37, li_38, li_39, li_40, li_41, li_42, li_43, li_44, li_45, li_46, li_47, li_48, li_49, li_50, li_51, li_52, li_53, li_54, li_55, li_56, li_57, li_58, li_59, li_60, li_61, li_62, li_63, li_64, li_65, li_66, li_96, li_97, li_99, li_100, li_122, li_125, li_126, li_140, li_255, li_256, li_999, li_1000, li_1001, li_1002, li_1100, li_1386, li_1452, li_1518, li_9999, li_1000000, nI_clamp, hh.2.2.1, hle, ↓reduceIte, nm_eq, nI_add, f_X13_joined_51]
    refine for4 _ (fun i => nI (jin (aQ A).1 a k (jou (aQ A).1 a k) i).1) (fun i => oI (jin (aQ A).1 a k (jou (aQ A).1 a k) i).2) (fun i => nI (k + 1 + i)) (fun _ => sI v 0 (nI 0)) 0 (qn (aQ A).1 - (k + 1)) _ ?_ ?_ fu (by omega) (by omega)
    · intro rec2
      have hle2 : nI (qn (aQ A).1) ≤ nI (k + 1 + (qn (aQ A).1 - (k + 1))) := nI_le (by omega) (by omega)
      simp (disch := omega) only [f_X13_joined_51s, ↓lm_1, ↓lm_2, ↓lm_3, ↓lm_4, ↓lm_5, ↓lm_6, ↓lm_7, ↓lm_8, ↓lm_9, ↓lm_10, ↓lm_11, li_0, li_1, li_2, li_3, li_4, li_5, li_6, li_7, li_8, li_9, li_10, li_11, li_12, li_13, li_14, li_15, li_16, li_17, li_18, li_19, li_20, li_21, li_22, li_23, li_24, li_25, li_26, li_27, li_28, li_29, li_30, li_31, li_32, li_33, li_34, li_35, li_36, li_37, li_38, li_39, li_40, li_41, li_42, li_43, li_44, li_45, li_46, li_47, li_48, li_49, li_50, li_51, li_52, li_53, li_54, li_55, li_56, li_57, li_58, li_59, li_60, li_61, li_62, li_63, li_64, li_65, li_66, li_96, li_97, li_99, li_100, li_122, li_125, li_126, li_140, li_255, li_256, li_999, li_1000, li_1001, li_1002, li_1100, li_1386, li_1452, li_1518, li_9999, li_1000000, nI_clamp, hh.2.2.1, hle2, ↓reduceIte, nm_eq, nI_add, jou]
    · intro i rec2 _ hi
      have hj := jin_ok (q := (aQ A).1) (p := a) (a := k) (jou_ok (p := a) h8 k (by omega)).1 i (by omega)
      have hj2 := (jou_ok (q := (aQ A).1) (p := a) h8 k (by omega)).2
      have hle2 : ¬ nI (qn (aQ A).1) ≤ nI (k + 1 + i) := nI_ge (by omega) (by omega)
      simp (disch := omega) only [f_X13_joined_51s, f_X13_joined_135, f_X13_joined_140, ↓lm_1, ↓lm_2, ↓lm_3, ↓lm_4, ↓lm_5, ↓lm_6, ↓lm_7, ↓lm_8, ↓lm_9, ↓lm_10, ↓lm_11, li_0, li_1, li_2, li_3, li_4, li_5, li_6, li_7, li_8, li_9, li_10, li_11, li_12, li_13, li_14, li_15, li_16, li_17, li_18, li_19, li_20, li_21, li_22, li_23, li_24, li_25, li_26, li_27, li_28, li_29, li_30, li_31, li_32, li_33, li_34, li_35, li_36, li_37, li_38, li_39, li_40, li_41, li_42, li_43, li_44, li_45, li_46, li_47, li_48, li_49, li_50, li_51, li_52, li_53, li_54, li_55, li_56, li_57, li_58, li_59, li_60, li_61, li_62, li_63, li_64, li_65, li_66, li_96, li_97, li_99, li_100, li_122, li_125, li_126, li_140, li_255, li_256, li_999, li_1000, li_1001, li_1002, li_1100, li_1386, li_1452, li_1518, li_9999, li_1000000, nI_clamp, hh.2.2.1, hle2, ↓reduceIte, nm_eq, nI_add, inb_n, ck_t, (hh.2.2.2.1 a ha).1, (hh.2.2.2.1 k hk).1, (hh.2.2.2.1 (k + 1 + i) (by omega)).1, nI_eq, nI_mulN, jin, jst]
      by_cases c1 : k = a
      · rw [if_pos c1, if_pos (Or.inl c1)]; rfl
      · rw [if_neg c1]
        by_cases c2 : k + 1 + i = a
        · rw [if_pos c2, if_pos (Or.inr (Or.inl c2))]; rfl
        · rw [if_neg c2]
          by_cases c3 : (nI (qo (aQ A).1 a) ^^^ nI (qo (aQ A).1 k)) &&& (nI (qo (aQ A).1 a) ^^^ nI (qo (aQ A).1 (k + 1 + i))) = nI 0
          · have cn : ¬ (k = a ∨ k + 1 + i = a ∨ (nI (qo (aQ A).1 a) ^^^ nI (qo (aQ A).1 k)) &&& (nI (qo (aQ A).1 a) ^^^ nI (qo (aQ A).1 (k + 1 + i))) ≠ nI 0) := fun c => c.elim c1 (fun c => c.elim c2 (fun c => c c3))
            simp only [if_pos c3, if_neg cn]
            by_cases e : (jin (aQ A).1 a k (jou (aQ A).1 a k) i).1 = 0
            · rw [if_pos e, if_pos e]; rfl
            · rw [if_neg e, if_neg e]; rfl
          · rw [if_neg c3, if_pos (Or.inr (Or.inr c3))]; rfl
theorem r_joined (hf : 1101 ≤ fu) (h : RR p S v) (x y : Int32) : ∃ z v', f_X12_joined fu S p x y = some z ∧ f_X13_joined fu v x y = some (z, v') ∧ RR p S v' := by
  obtain ⟨A, hA, hC, hM⟩ := h
  obtain ⟨t, d, ln, dl, f, hP, hK⟩ := id hC
  have hc := hP.1.2.2.1
  have hw := hK.1.1
  have hq := hA.2.1.1
  have hh : MH (gA (sI v 0 (nI 0)) 24) (aQ A).1 := hM.2.2.1.1
  have hr : RR p S (sI v 0 (nI 0)) := RR_q hA hC hM (scr_refl p S) (mscr_sI (mscr_refl v) (by decide) (by decide) (by decide))
  by_cases hx : ∃ j, j < qn (aQ A).1 ∧ x = nI j
  · obtain ⟨a, ha, rfl⟩ := hx
    by_cases hy : ∃ j, j < 2 ∧ y = nI j
    · obtain ⟨b, hb, rfl⟩ := hy
      exact ⟨_, _, c_joined hf hA hC ha hb, m_joined hf hA hM ha hb, hr⟩
    · refine ⟨mI 2, _, ?_, ?_, hr⟩
      · have h2 : y < nI 0 ∨ ¬ y ≤ nI 1 := by
          rcases pk_ix y (n := 2) (by omega) with h | h | h
          · exact Or.inl h
          · refine Or.inr (fun c => ?_)
            rw [Int32.le_iff_toInt_le] at h c
            have e1 : (nI 2).toInt = 2 := by decide
            have e2 : (nI 1).toInt = 1 := by decide
            omega
          · exact absurd h hy
        simp only [f_X12_joined, f_X12_joined_0, f_X12_joined_20, ↓lm_1, ↓lm_2, ↓lm_3, ↓lm_4, ↓lm_5, ↓lm_6, ↓lm_7, ↓lm_8, ↓lm_9, ↓lm_10, ↓lm_11, li_0, li_1, li_2, li_3, li_4, li_5, li_6, li_7, li_8, li_9, li_10, li_11, li_12, li_13, li_14, li_15, li_16, li_17, li_18, li_19, li_20, li_21, li_22, li_23, li_24, li_25, li_26, li_27, li_28, li_29, li_30, li_31, li_32, li_33, li_34, li_35, li_36, li_37, li_38, li_39, li_40, li_41, li_42, li_43, li_44, li_45, li_46, li_47, li_48, li_49, li_50, li_51, li_52, li_53, li_54, li_55, li_56, li_57, li_58, li_59, li_60, li_61, li_62, li_63, li_64, li_65, li_66, li_96, li_97, li_99, li_100, li_122, li_125, li_126, li_140, li_255, li_256, li_999, li_1000, li_1001, li_1002, li_1100, li_1386, li_1452, li_1518, li_9999, li_1000000, hc, decide_true, ck_t, x3_isThere_in hw hq ha, bd_s, n10, ↓reduceIte]
        rcases h2 with h2 | h2
        · rw [if_pos h2]
        · rw [if_neg h2]; split <;> rfl
      · simp (disch := omega) only [f_X13_joined, f_X13_joined_0, f_X13_joined_23, ↓lm_1, ↓lm_2, ↓lm_3, ↓lm_4, ↓lm_5, ↓lm_6, ↓lm_7, ↓lm_8, ↓lm_9, ↓lm_10, ↓lm_11, li_0, li_1, li_2, li_3, li_4, li_5, li_6, li_7, li_8, li_9, li_10, li_11, li_12, li_13, li_14, li_15, li_16, li_17, li_18, li_19, li_20, li_21, li_22, li_23, li_24, li_25, li_26, li_27, li_28, li_29, li_30, li_31, li_32, li_33, li_34, li_35, li_36, li_37, li_38, li_39, li_40, li_41, li_42, li_43, li_44, li_45, li_46, li_47, li_48, li_49, li_50, li_51, li_52, li_53, li_54, li_55, li_56, li_57, li_58, li_59, li_60, li_61, li_62, li_63, li_64, li_65, li_66, li_96, li_97, li_99, li_100, li_122, li_125, li_126, li_140, li_255, li_256, li_999, li_1000, li_1001, li_1002, li_1100, li_1386, li_1452, li_1518, li_9999, li_1000000, nm_eq, m0_isPiece_in hh hq ha, w_out hy, bd_s, n10, ↓reduceIte]
  · refine ⟨mI 2, _, ?_, ?_, hr⟩
    · simp only [f_X12_joined, f_X12_joined_0, f_X12_joined_20, ↓lm_1, ↓lm_2, ↓lm_3, ↓lm_4, ↓lm_5, ↓lm_6, ↓lm_7, ↓lm_8, ↓lm_9, ↓lm_10, ↓lm_11, li_0, li_1, li_2, li_3, li_4, li_5, li_6, li_7, li_8, li_9, li_10, li_11, li_12, li_13, li_14, li_15, li_16, li_17, li_18, li_19, li_20, li_21, li_22, li_23, li_24, li_25, li_26, li_27, li_28, li_29, li_30, li_31, li_32, li_33, li_34, li_35, li_36, li_37, li_38, li_39, li_40, li_41, li_42, li_43, li_44, li_45, li_46, li_47, li_48, li_49, li_50, li_51, li_52, li_53, li_54, li_55, li_56, li_57, li_58, li_59, li_60, li_61, li_62, li_63, li_64, li_65, li_66, li_96, li_97, li_99, li_100, li_122, li_125, li_126, li_140, li_255, li_256, li_999, li_1000, li_1001, li_1002, li_1100, li_1386, li_1452, li_1518, li_9999, li_1000000, hc, decide_true, ck_t, x3_isThere_out hw hq hx, bd_s, ↓reduceIte]
    · simp only [f_X13_joined, f_X13_joined_0, f_X13_joined_23, ↓lm_1, ↓lm_2, ↓lm_3, ↓lm_4, ↓lm_5, ↓lm_6, ↓lm_7, ↓lm_8, ↓lm_9, ↓lm_10, ↓lm_11, li_0, li_1, li_2, li_3, li_4, li_5, li_6, li_7, li_8, li_9, li_10, li_11, li_12, li_13, li_14, li_15, li_16, li_17, li_18, li_19, li_20, li_21, li_22, li_23, li_24, li_25, li_26, li_27, li_28, li_29, li_30, li_31, li_32, li_33, li_34, li_35, li_36, li_37, li_38, li_39, li_40, li_41, li_42, li_43, li_44, li_45, li_46, li_47, li_48, li_49, li_50, li_51, li_52, li_53, li_54, li_55, li_56, li_57, li_58, li_59, li_60, li_61, li_62, li_63, li_64, li_65, li_66, li_96, li_97, li_99, li_100, li_122, li_125, li_126, li_140, li_255, li_256, li_999, li_1000, li_1001, li_1002, li_1100, li_1386, li_1452, li_1518, li_9999, li_1000000, nm_eq, m0_isPiece_out hh hq hx, bd_s, ↓reduceIte]
theorem c_fits (hf : 1101 ≤ fu) (hA : okA A) (hC : RC p S A) : f_X12_fits fu S p = some (nI (setb (fitb (aQ A)) (qn (aQ A).1))) := by
  obtain ⟨t, d, ln, dl, f, hP, hK⟩ := id hC
  have hc := hP.1.2.2.1
  have hw := hK.1
  have hQ := hA.2.1
  have h8 := hQ.1.1.2.1
  simp only [f_X12_fits, f_X12_fits_0, f_X12_fits_4, ↓lm_1, ↓lm_2, ↓lm_3, ↓lm_4, ↓lm_5, ↓lm_6, ↓lm_7, ↓lm_8, ↓lm_9, ↓lm_10, ↓lm_11, li_0, li_1, li_2, li_3, li_4, li_5, li_6, li_7, li_8, li_9, li_10, li_11, li_12, li_13, li_14, li_15, li_16, li_17, li_18, li_19, li_20, li_21, li_22, li_23, li_24, li_25, li_26, li_27, li_28, li_29, li_30, li_31, li_32, li_33, li_34, li_35, li_36, li_37, li_38, li_39, li_40, li_41, li_42, li_43, li_44, li_45, li_46, li_47, li_48, li_49, li_50, li_51, li_52, li_53, li_54, li_55, li_56, li_57, li_58, li_59, li_60, li_61, li_62, li_63, li_64, li_65, li_66, li_96, li_97, li_99, li_100, li_122, li_125, li_126, li_140, li_255, li_256, li_999, li_1000, li_1001, li_1002, li_1100, li_1386, li_1452, li_1518, li_9999, li_1000000]
  refine for2 _ (fun k => nI (setb (fitb (aQ A)) k)) (fun k => nI k) 0 (qn (aQ A).1) _ ?_ ?_ fu (by omega) (by omega)
  · intro rec
    simp (disch := omega) only [f_X12_fits_4s, ↓lm_1, ↓lm_2, ↓lm_3, ↓lm_4, ↓lm_5, ↓lm_6, ↓lm_7, ↓lm_8, ↓lm_9, ↓lm_10, ↓lm_11, li_0, li_1, li_2, li_3, li_4, li_5, li_6, li_7, li_8, li_9, li_10, li_11, li_12, li_13, li_14, li_15, li_16, li_17, li_18, li_19, li_20, li_21, li_22, li_23, li_24, li_25, li_26, li_27, li_28, li_29, li_30, li_31, li_32, li_33, li_34, li_35, li_36, li_37, li_38, li_39, li_40, li_41, li_42, li_43, li_44, li_45, li_46, li_47, li_48, li_49, li_50, li_51, li_52, li_53, li_54, li_55, li_56, li_57, li_58, li_59, li_60, li_61, li_62, li_63, li_64, li_65, li_66, li_96, li_97, li_99, li_100, li_122, li_125, li_126, li_140, li_255, li_256, li_999, li_1000, li_1001, li_1002, li_1100, li_1386, li_1452, li_1518, li_9999, li_1000000, hc, decide_true, ck_t, hw.1.2.2.1, nI_leI, Nat.le_refl, ↓reduceIte]
  · intro k rec _ hk
    have hle : ¬ nI (qn (aQ A).1) ≤ nI k := nI_ge hk (by omega)
    simp (disch := omega) only [f_X12_fits_4s, f_X12_fits_32, ↓lm_1, ↓lm_2, ↓lm_3, ↓lm_4, ↓lm_5, ↓lm_6, ↓lm_7, ↓lm_8, ↓lm_9, ↓lm_10, ↓lm_11, li_0, li_1, li_2, li_3, li_4, li_5, li_6, li_7, li_8, li_9, li_10, li_11, li_12, li_13, li_14, li_15, li_16, li_17, li_18, li_19, li_20, li_21, li_22, li_23, li_24, li_25, li_26, li_27, li_28, li_29, li_30, li_31, li_32, li_33, li_34, li_35, li_36, li_37, li_38, li_39, li_40, li_41, li_42, li_43, li_44, li_45, li_46, li_47, li_48, li_49, li_50, li_51, li_52, li_53, li_54, li_55, li_56, li_57, li_58, li_59, li_60, li_61, li_62, li_63, li_64, li_65, li_66, li_96, li_97, li_99, li_100, li_122, li_125, li_126, li_140, li_255, li_256, li_999, li_1000, li_1001, li_1002, li_1100, li_1386, li_1452, li_1518, li_9999, li_1000000, hc, decide_true, ck_t, hw.1.2.2.1, hle, ↓reduceIte, x3_isFitting hA.1 hQ hw hk, bd_s, nm_eq, nI_add, nI_and31, nI_shl1, setb, b01]
    by_cases e : fitb (aQ A) k = true
    · simp only [if_pos e, n10, ↓reduceIte]; rw [setb_step _ (by omega)]
    · simp only [if_neg e, ↓reduceIte]
theorem m_fitting (hf : 1101 ≤ fu) (hA : okA A) (hh : MHL (gA v 24) (aQ A)) : f_X13_fitting fu v = some (nI (setb (fitb (aQ A)) (qn (aQ A).1))) := by
  have hQ := hA.2.1
  have h8 := hQ.1.1.2.1
  have h5 := hA.1.2.1
  have hs8 := hA.1.1
  have hl8 := hQ.2.1
  simp only [f_X13_fitting, f_X13_fitting_0, f_X13_fitting_4, ↓lm_1, ↓lm_2, ↓lm_3, ↓lm_4, ↓lm_5, ↓lm_6, ↓lm_7, ↓lm_8, ↓lm_9, ↓lm_10, ↓lm_11, li_0, li_1, li_2, li_3, li_4, li_5, li_6, li_7, li_8, li_9, li_10, li_11, li_12, li_13, li_14, li_15, li_16, li_17, li_18, li_19, li_20, li_21, li_22, li_23, li_24, li_25, li_26, li_27, li_28, li_29, li_30, li_31, li_32, li_33, li_34, li_35, li_36, li_37, li_38, li_39, li_40, li_41, li_42, li_43, li_44, li_45, li_46, li_47, li_48, li_49, li_50, li_51, li_52, li_53, li_54, li_55, li_56, li_57, li_58, li_59, li_60, li_61, li_62, li_63, li_64, li_65, li_66, li_96, li_97, li_99, li_100, li_122, li_125, li_126, li_140, li_255, li_256, li_999, li_1000, li_1001, li_1002, li_1100, li_1386, li_1452, li_1518, li_9999, li_1000000]
  refine for2 _ (fun k => nI (setb (fitb (aQ A)) k)) (fun k => nI k) 0 (qn (aQ A).1) _ ?_ ?_ fu (by omega) (by omega)
  · intro rec
    simp (disch := omega) only [f_X13_fitting_4s, ↓lm_1, ↓lm_2, ↓lm_3, ↓lm_4, ↓lm_5, ↓lm_6, ↓lm_7, ↓lm_8, ↓lm_9, ↓lm_10, ↓lm_11, li_0, li_1, li_2, li_3, li_4, li_5, li_6, li_7, li_8, li_9, li_10, li_11, li_12, li_13, li_14, li_15, li_16, li_17, li_18, li_19, li_20, li_21, li_22, li_23, li_24, li_25, li_26, li_27, li_28, li_29, li_30, li_31, li_32, li_33, li_34, li_35, li_36, li_37, li_38, li_39, li_40, li_41, li_42, li_43, li_44, li_45, li_46, li_47, li_48, li_49, li_50, li_51, li_52, li_53, li_54, li_55, li_56, li_57, li_58, li_59, li_60, li_61, li_62, li_63, li_64, li_65, li_66, li_96, li_97, li_99, li_100, li_122, li_125, li_126, li_140, li_255, li_256, li_999, li_1000, li_1001, li_1002, li_1100, li_1386, li_1452, li_1518, li_9999, li_1000000, nI_clamp, hh.1.2.2.1, nI_leI, Nat.le_refl, ↓reduceIte]
  · intro k rec _ hk
    have hle : ¬ nI (qn (aQ A).1) ≤ nI k := nI_ge hk (by omega)
    have hb := (hQ.1.2.1 k hk).2.2
    have b1 := (hQ.1.2.1 k hk).1
    have hz := setb_lt' (fitb (aQ A)) (k := k) (by omega)
    have e1 : f_X13_fitting_4s fu rec v (nI (setb (fitb (aQ A)) k)) (nI k) = f_X13_fitting_37 fu fu rec v (nI (setb (fitb (aQ A)) k)) (nI k) (b01 (decide (qh (aQ A).1 k ≠ 6) && lkA (aQ A).2 (qo (aQ A).1 k) 0)) (nI 0) := by
      simp (disch := omega) only [f_X13_fitting_4s, f_X13_fitting_33, ↓lm_1, ↓lm_2, ↓lm_3, ↓lm_4, ↓lm_5, ↓lm_6, ↓lm_7, ↓lm_8, ↓lm_9, ↓lm_10, ↓lm_11, li_0, li_1, li_2, li_3, li_4, li_5, li_6, li_7, li_8, li_9, li_10, li_11, li_12, li_13, li_14, li_15, li_16, li_17, li_18, li_19, li_20, li_21, li_22, li_23, li_24, li_25, li_26, li_27, li_28, li_29, li_30, li_31, li_32, li_33, li_34, li_35, li_36, li_37, li_38, li_39, li_40, li_41, li_42, li_43, li_44, li_45, li_46, li_47, li_48, li_49, li_50, li_51, li_52, li_53, li_54, li_55, li_56, li_57, li_58, li_59, li_60, li_61, li_62, li_63, li_64, li_65, li_66, li_96, li_97, li_99, li_100, li_122, li_125, li_126, li_140, li_255, li_256, li_999, li_1000, li_1001, li_1002, li_1100, li_1386, li_1452, li_1518, li_9999, li_1000000, nI_clamp, hh.1.2.2.1, hle, ↓reduceIte, nm_eq, nI_add, inb_n, ck_t, (hh.1.2.2.2.1 k hk).2.1, nI_eq, lkA, b01, Bool.and_true, decide_eq_true_eq]
      by_cases e : qh (aQ A).1 k = 6
      · rw [if_pos e, if_neg (fun c => c e)]
      · rw [if_neg e, if_pos e]
    rw [e1, f_X13_fitting_37]
    refine for2 _ (fun i => b01 (decide (qh (aQ A).1 k ≠ 6) && lkA (aQ A).2 (qo (aQ A).1 k) i)) (fun i => nI i) 0 (aQ A).2.1 _ ?_ ?_ fu (by omega) (by omega)
    · intro rec2
      simp (disch := omega) only [f_X13_fitting_37s, f_X13_fitting_117, ↓lm_1, ↓lm_2, ↓lm_3, ↓lm_4, ↓lm_5, ↓lm_6, ↓lm_7, ↓lm_8, ↓lm_9, ↓lm_10, ↓lm_11, li_0, li_1, li_2, li_3, li_4, li_5, li_6, li_7, li_8, li_9, li_10, li_11, li_12, li_13, li_14, li_15, li_16, li_17, li_18, li_19, li_20, li_21, li_22, li_23, li_24, li_25, li_26, li_27, li_28, li_29, li_30, li_31, li_32, li_33, li_34, li_35, li_36, li_37, li_38, li_39, li_40, li_41, li_42, li_43, li_44, li_45, li_46, li_47, li_48, li_49, li_50, li_51, li_52, li_53, li_54, li_55, li_56, li_57, li_58, li_59, li_60, li_61, li_62, li_63, li_64, li_65, li_66, li_96, li_97, li_99, li_100, li_122, li_125, li_126, li_140, li_255, li_256, li_999, li_1000, li_1001, li_1002, li_1100, li_1386, li_1452, li_1518, li_9999, li_1000000, nI_clamp, hh.2.1, nI_leI, Nat.le_refl, ↓reduceIte, nm_eq, nI_add, nI_and31, nI_shl1, setb]
      show (if b01 (fitb (aQ A) k) = nI 0 then _ else _) = _
      by_cases e : fitb (aQ A) k = true
      · simp only [b01, if_pos e, n10, ↓reduceIte]; rw [setb_step _ (by omega)]
      · simp only [b01, if_neg e, ↓reduceIte]; rw [nI_orN (by omega) (by omega), Nat.or_zero]
    · intro i rec2 _ hi
      have hle2 : ¬ nI (aQ A).2.1 ≤ nI i := nI_ge hi (by omega)
      have hsp := (hQ.2.2 i hi).1
      have hof := (hQ.2.2 i hi).2
      have hbt := bt_lt (qo (aQ A).1 k) ((aQ A).2.2.1 i)
      simp (disch := omega) only [f_X13_fitting_37s, f_X13_fitting_97, f_X13_fitting_98, ↓lm_1, ↓lm_2, ↓lm_3, ↓lm_4, ↓lm_5, ↓lm_6, ↓lm_7, ↓lm_8, ↓lm_9, ↓lm_10, ↓lm_11, li_0, li_1, li_2, li_3, li_4, li_5, li_6, li_7, li_8, li_9, li_10, li_11, li_12, li_13, li_14, li_15, li_16, li_17, li_18, li_19, li_20, li_21, li_22, li_23, li_24, li_25, li_26, li_27, li_28, li_29, li_30, li_31, li_32, li_33, li_34, li_35, li_36, li_37, li_38, li_39, li_40, li_41, li_42, li_43, li_44, li_45, li_46, li_47, li_48, li_49, li_50, li_51, li_52, li_53, li_54, li_55, li_56, li_57, li_58, li_59, li_60, li_61, li_62, li_63, li_64, li_65, li_66, li_96, li_97, li_99, li_100, li_122, li_125, li_126, li_140, li_255, li_256, li_999, li_1000, li_1001, li_1002, li_1100, li_1386, li_1452, li_1518, li_9999, li_1000000, nI_clamp, hh.2.1, hle2, ↓reduceIte, nm_eq, nI_mulN, nI_add, inb_n, ck_t, (hh.1.2.2.2.1 k hk).1, (hh.2.2 i hi).1, (hh.2.2 i hi).2, nI_and31, nI_bt, nI_eq, lkA]
      generalize (decide (qh (aQ A).1 k ≠ 6)) = c1
      generalize lkA (aQ A).2 (qo (aQ A).1 k) i = c2
      by_cases e : bt (qo (aQ A).1 k) ((aQ A).2.2.1 i) = (aQ A).2.2.2 i
      · cases c1 <;> cases c2 <;> simp [b01, e, n10]
      · cases c1 <;> cases c2 <;> simp [b01, e, n10]
theorem r_fits (hf : 1101 ≤ fu) (h : RR p S v) : ∃ z v', f_X12_fits fu S p = some z ∧ f_X13_fits fu v = some (z, v') ∧ RR p S v' := by
  obtain ⟨A, hA, hC, hM⟩ := h
  have hh : MHL (gA (sI v 0 (nI 0)) 24) (aQ A) := hM.2.2.1
  have hr : RR p S (sI v 0 (nI 0)) := RR_q hA hC hM (scr_refl p S) (mscr_sI (mscr_refl v) (by decide) (by decide) (by decide))
  refine ⟨_, _, c_fits hf hA hC, ?_, hr⟩
  simp only [f_X13_fits, f_X13_fits_0, ↓lm_1, ↓lm_2, ↓lm_3, ↓lm_4, ↓lm_5, ↓lm_6, ↓lm_7, ↓lm_8, ↓lm_9, ↓lm_10, ↓lm_11, li_0, li_1, li_2, li_3, li_4, li_5, li_6, li_7, li_8, li_9, li_10, li_11, li_12, li_13, li_14, li_15, li_16, li_17, li_18, li_19, li_20, li_21, li_22, li_23, li_24, li_25, li_26, li_27, li_28, li_29, li_30, li_31, li_32, li_33, li_34, li_35, li_36, li_37, li_38, li_39, li_40, li_41, li_42, li_43, li_44, li_45, li_46, li_47, li_48, li_49, li_50, li_51, li_52, li_53, li_54, li_55, li_56, li_57, li_58, li_59, li_60, li_61, li_62, li_63, li_64, li_65, li_66, li_96, li_97, li_99, li_100, li_122, li_125, li_126, li_140, li_255, li_256, li_999, li_1000, li_1001, li_1002, li_1100, li_1386, li_1452, li_1518, li_9999, li_1000000, nm_eq, m_fitting hf hA hh, bd_s]
end Q
