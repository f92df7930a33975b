/-! ===== questions: distance, piece, thief, count, kin, nearest, meet, joined ===== -/
/-- a number that there may be, or -1 -/
def oI : Option Nat → Int32
  | none => mI 1
  | some j => nI j
theorem bt_or_p2 (x p s : Nat) : bt (x ||| 2 ^ p) s = 1 ↔ bt x s = 1 ∨ p = s := by
  rw [bt_tb, bt_tb, Nat.testBit_or, Nat.testBit_two_pow]
  simp
/-- KIN of p among the first i behind it -/
def kst (q : HP) (p : Nat) : Nat → Nat
  | 0 => 0
  | i + 1 => if bt (kst q p i) (qs q (p + 1 + i)) = 1 ∨ p = qs q (p + 1 + i) then kst q p i ||| 2 ^ (p + 1 + i) else kst q p i
theorem kst_lt (q : HP) (p i : Nat) (h : p + 1 + i ≤ 8) : kst q p i < 256 ∧ bt (kst q p i) p = 0 := by
  induction i with
  | zero => exact ⟨by simp [kst], by simp [kst, bt]⟩
  | succ i ih =>
    have ih := ih (by omega)
    simp only [kst]
    split
    · refine ⟨Nat.or_lt_two_pow (n := 8) ih.1 (p2_256 (by omega)), ?_⟩
      rcases bt_01 (kst q p i ||| 2 ^ (p + 1 + i)) p with e | e
      · exact e
      · rcases (bt_or_p2 _ _ _).mp e with c | c
        · omega
        · omega
    · exact ih
theorem kin_end {a p : Nat} (ha : a < 256) (hp : p < 8) (h : bt a p = 0) : nI (a ||| 2 ^ p) &&& (nI (2 ^ p) ^^^ mI 1) = nI a := by
  have h2 : (List.range 256).all (fun a => decide ((List.range 8).all (fun p => decide (bt a p = 0 → nI (a ||| 2 ^ p) &&& (nI (2 ^ p) ^^^ mI 1) = nI a)) = true)) = true := by decide +kernel
  exact co_dec (co_dec h2 ha) hp h
/-- NEAREST among the first k -/
def nst (q : HP) (p : Nat) : Nat → Option Nat
  | 0 => none
  | k + 1 => if k = p ∨ qh q k = 6 then nst q p k else match nst q p k with
    | none => some k
    | some j => if pcn (qo q p ^^^ qo q j) ≤ pcn (qo q p ^^^ qo q k) then some j else some k
theorem nst_lt (q : HP) (p : Nat) : ∀ k j, nst q p k = some j → j < k := by
  intro k
  induction k with
  | zero => intro j h; simp [nst] at h
  | succ k ih =>
    intro j h
    simp only [nst] at h
    split at h
    · have := ih j h; omega
    · split at h
      · simp at h; omega
      · rename_i i hi
        have := ih i hi
        split at h <;> (simp at h; omega)
def mtc (G : GP) (q : HP) (t e : Nat) : Bool := decide (e ≠ t ∧ nI (hr G e) &&& (nI (hr G t) &&& (nI (qg q) ^^^ mI 1)) ≠ nI 0)
/-- of which two: pairs so far, the first -/
def jst (q : HP) (p a b : Nat) (c : Nat × Option Nat) : Nat × Option Nat := if a = p ∨ b = p ∨ (nI (qo q p) ^^^ nI (qo q a)) &&& (nI (qo q p) ^^^ nI (qo q b)) ≠ nI 0 then c else (c.1 + 1, if c.1 = 0 then some (8 * a + b) else c.2)
def jin (q : HP) (p a : Nat) (c : Nat × Option Nat) : Nat → Nat × Option Nat
  | 0 => c
  | i + 1 => jst q p a (a + 1 + i) (jin q p a c i)
def jou (q : HP) (p : Nat) : Nat → Nat × Option Nat
  | 0 => (0, none)
  | a + 1 => jin q p a (jou q p a) (qn q - (a + 1))
def jok (c : Nat × Option Nat) : Prop := (c.1 = 0 ↔ c.2 = none) ∧ ∀ j, c.2 = some j → j < 1000
theorem jst_ok {q : HP} {p a b : Nat} {c : Nat × Option Nat} (h : jok c) (ha : a < 8) (hb : b < 8) : jok (jst q p a b c) ∧ (jst q p a b c).1 ≤ c.1 + 1 := by
  unfold jst
  split
  · exact ⟨h, by omega⟩
  · refine ⟨⟨?_, ?_⟩, by simp⟩
    · by_cases e : c.1 = 0
      · simp [e]
      · have : ¬ c.2 = none := fun q => e (h.1.mpr q)
        simp [e, this]
    · intro j hj
      by_cases e : c.1 = 0
      · simp [e] at hj; omega
      · simp [e] at hj; exact h.2 j hj
theorem jin_ok {q : HP} {p a : Nat} {c : Nat × Option Nat} (h : jok c) (i : Nat) (hi : a + 1 + i ≤ 8) : jok (jin q p a c i) ∧ (jin q p a c i).1 ≤ c.1 + i := by
  induction i with
  | zero => exact ⟨h, by simp [jin]⟩
  | succ i ih =>
    have ih := ih (by omega)
    have := jst_ok (q := q) (p := p) (a := a) (b := a + 1 + i) ih.1 (by omega) (by omega)
    exact ⟨this.1, by simp only [jin]; omega⟩
theorem jou_ok {q : HP} {p : Nat} (h8 : qn q ≤ 8) (a : Nat) (ha : a ≤ qn q) : jok (jou q p a) ∧ (jou q p a).1 ≤ 8 * a := by
  induction a with
  | zero => exact ⟨⟨by simp [jou], by simp [jou]⟩, by simp [jou]⟩
  | succ a ih =>
    have ih := ih (by omega)
    have := jin_ok (q := q) (p := p) (a := a) ih.1 (qn q - (a + 1)) (by omega)
    exact ⟨this.1, by simp only [jou]; omega⟩
section Q
variable {fu p : Nat} {S : ST} {v : GV}
theorem r_distance (hf : 1101 ≤ fu) (h : RR p S v) (x y : Int32) : ∃ z v', f_X12_distance fu S p x y = some z ∧ f_X13_distance fu v x y = some (z, v') ∧ RR p S v' := by
  obtain ⟨A, hA, hC, hM⟩ := h
  obtain ⟨t, d, ln, dl, f, hP, hK⟩ := id hC
  have hc := hP.1.2.2.1
  have hw := hK.1.1
  have hq := hA.2.1.1
  have hh : MH (gA (sI v 0 (nI 0)) 24) (aQ A).1 := hM.2.2.1.1
  have hr : RR p S (sI v 0 (nI 0)) := RR_q hA hC hM (scr_refl p S) (mscr_sI (mscr_refl v) (by decide) (by decide) (by decide))
  by_cases hx : ∃ j, j < qn (aQ A).1 ∧ x = nI j
  · obtain ⟨a, ha, rfl⟩ := hx
    by_cases hy : ∃ j, j < qn (aQ A).1 ∧ y = nI j
    · obtain ⟨b, hb, rfl⟩ := hy
      refine ⟨nI (pcn (qo (aQ A).1 a ^^^ qo (aQ A).1 b)), _, ?_, ?_, hr⟩
      rotate_left
      · simp only [f_X13_distance_32, f_X13_distance_0, f_X13_distance, ↓lm_1, ↓lm_2, ↓lm_3, ↓lm_4, ↓lm_5, ↓lm_6, ↓lm_7, ↓lm_8, ↓lm_9, ↓lm_10, ↓lm_11, li_0, li_1, li_2, li_3, li_4, li_5, li_6, li_7, li_8, li_9, li_10, li_11, li_12, li_13, li_14, li_15, li_16, li_17, li_18, li_19, li_20, li_21, li_22, li_23, li_24, li_25, li_26, li_27, li_28, li_29, li_30, li_31, li_32, li_33, li_34, li_35, li_36, li_37, li_38, li_39, li_40, li_41, li_42, li_43, li_44, li_45, li_46, li_47, li_48, li_49, li_50, li_51, li_52, li_53, li_54, li_55, li_56, li_57, li_58, li_59, li_60, li_61, li_62, li_63, li_64, li_65, li_66, li_96, li_97, li_99, li_100, li_122, li_125, li_126, li_140, li_255, li_256, li_999, li_1000, li_1001, li_1002, li_1100, li_1386, li_1452, li_1518, li_9999, li_1000000, nm_eq, m0_isPiece_in hh hq ha, m0_isPiece_in hh hq hb, bd_s, n10, ↓reduceIte, m0_distanceOf hf hh hq ha hb]
      · simp only [f_X12_distance_34, f_X12_distance_0, f_X12_distance, ↓lm_1, ↓lm_2, ↓lm_3, ↓lm_4, ↓lm_5, ↓lm_6, ↓lm_7, ↓lm_8, ↓lm_9, ↓lm_10, ↓lm_11, li_0, li_1, li_2, li_3, li_4, li_5, li_6, li_7, li_8, li_9, li_10, li_11, li_12, li_13, li_14, li_15, li_16, li_17, li_18, li_19, li_20, li_21, li_22, li_23, li_24, li_25, li_26, li_27, li_28, li_29, li_30, li_31, li_32, li_33, li_34, li_35, li_36, li_37, li_38, li_39, li_40, li_41, li_42, li_43, li_44, li_45, li_46, li_47, li_48, li_49, li_50, li_51, li_52, li_53, li_54, li_55, li_56, li_57, li_58, li_59, li_60, li_61, li_62, li_63, li_64, li_65, li_66, li_96, li_97, li_99, li_100, li_122, li_125, li_126, li_140, li_255, li_256, li_999, li_1000, li_1001, li_1002, li_1100, li_1386, li_1452, li_1518, li_9999, li_1000000, hc, decide_true, ck_t, x3_isThere_in hw hq ha, x3_isThere_in hw hq hb, bd_s, n10, ↓reduceIte, x3_apart hw hq ha hb]
    · refine ⟨mI 1, _, ?_, ?_, hr⟩
      · simp only [f_X12_distance_34, f_X12_distance_0, f_X12_distance, ↓lm_1, ↓lm_2, ↓lm_3, ↓lm_4, ↓lm_5, ↓lm_6, ↓lm_7, ↓lm_8, ↓lm_9, ↓lm_10, ↓lm_11, li_0, li_1, li_2, li_3, li_4, li_5, li_6, li_7, li_8, li_9, li_10, li_11, li_12, li_13, li_14, li_15, li_16, li_17, li_18, li_19, li_20, li_21, li_22, li_23, li_24, li_25, li_26, li_27, li_28, li_29, li_30, li_31, li_32, li_33, li_34, li_35, li_36, li_37, li_38, li_39, li_40, li_41, li_42, li_43, li_44, li_45, li_46, li_47, li_48, li_49, li_50, li_51, li_52, li_53, li_54, li_55, li_56, li_57, li_58, li_59, li_60, li_61, li_62, li_63, li_64, li_65, li_66, li_96, li_97, li_99, li_100, li_122, li_125, li_126, li_140, li_255, li_256, li_999, li_1000, li_1001, li_1002, li_1100, li_1386, li_1452, li_1518, li_9999, li_1000000, hc, decide_true, ck_t, x3_isThere_in hw hq ha, x3_isThere_out hw hq hy, bd_s, n10, ↓reduceIte]
      · simp only [f_X13_distance_32, f_X13_distance_0, f_X13_distance, ↓lm_1, ↓lm_2, ↓lm_3, ↓lm_4, ↓lm_5, ↓lm_6, ↓lm_7, ↓lm_8, ↓lm_9, ↓lm_10, ↓lm_11, li_0, li_1, li_2, li_3, li_4, li_5, li_6, li_7, li_8, li_9, li_10, li_11, li_12, li_13, li_14, li_15, li_16, li_17, li_18, li_19, li_20, li_21, li_22, li_23, li_24, li_25, li_26, li_27, li_28, li_29, li_30, li_31, li_32, li_33, li_34, li_35, li_36, li_37, li_38, li_39, li_40, li_41, li_42, li_43, li_44, li_45, li_46, li_47, li_48, li_49, li_50, li_51, li_52, li_53, li_54, li_55, li_56, li_57, li_58, li_59, li_60, li_61, li_62, li_63, li_64, li_65, li_66, li_96, li_97, li_99, li_100, li_122, li_125, li_126, li_140, li_255, li_256, li_999, li_1000, li_1001, li_1002, li_1100, li_1386, li_1452, li_1518, li_9999, li_1000000, nm_eq, m0_isPiece_in hh hq ha, m0_isPiece_out hh hq hy, bd_s, n10, ↓reduceIte]
  · refine ⟨mI 1, _, ?_, ?_, hr⟩
    · simp only [f_X12_distance_34, f_X12_distance_0, f_X12_distance, ↓lm_1, ↓lm_2, ↓lm_3, ↓lm_4, ↓lm_5, ↓lm_6, ↓lm_7, ↓lm_8, ↓lm_9, ↓lm_10, ↓lm_11, li_0, li_1, li_2, li_3, li_4, li_5, li_6, li_7, li_8, li_9, li_10, li_11, li_12, li_13, li_14, li_15, li_16, li_17, li_18, li_19, li_20, li_21, li_22, li_23, li_24, li_25, li_26, li_27, li_28, li_29, li_30, li_31, li_32, li_33, li_34, li_35, li_36, li_37, li_38, li_39, li_40, li_41, li_42, li_43, li_44, li_45, li_46, li_47, li_48, li_49, li_50, li_51, li_52, li_53, li_54, li_55, li_56, li_57, li_58, li_59, li_60, li_61, li_62, li_63, li_64, li_65, li_66, li_96, li_97, li_99, li_100, li_122, li_125, li_126, li_140, li_255, li_256, li_999, li_1000, li_1001, li_1002, li_1100, li_1386, li_1452, li_1518, li_9999, li_1000000, hc, decide_true, ck_t, x3_isThere_out hw hq hx, bd_s, n10, ↓reduceIte]
    · simp only [f_X13_distance_32, f_X13_distance_0, f_X13_distance, ↓lm_1, ↓lm_2, ↓lm_3, ↓lm_4, ↓lm_5, ↓lm_6, ↓lm_7, ↓lm_8, ↓lm_9, ↓lm_10, ↓lm_11, li_0, li_1, li_2, li_3, li_4, li_5, li_6, li_7, li_8, li_9, li_10, li_11, li_12, li_13, li_14, li_15, li_16, li_17, li_18, li_19, li_20, li_21, li_22, li_23, li_24, li_25, li_26, li_27, li_28, li_29, li_30, li_31, li_32, li_33, li_34, li_35, li_36, li_37, li_38, li_39, li_40, li_41, li_42, li_43, li_44, li_45, li_46, li_47, li_48, li_49, li_50, li_51, li_52, li_53, li_54, li_55, li_56, li_57, li_58, li_59, li_60, li_61, li_62, li_63, li_64, li_65, li_66, li_96, li_97, li_99, li_100, li_122, li_125, li_126, li_140, li_255, li_256, li_999, li_1000, li_1001, li_1002, li_1100, li_1386, li_1452, li_1518, li_9999, li_1000000, nm_eq, m0_isPiece_out hh hq hx, bd_s, n10, ↓reduceIte]
theorem r_piece (hf : 1101 ≤ fu) (h : RR p S v) (x y : Int32) : ∃ z S' v', f_X12_piece fu S p x y = some (z, S') ∧ f_X13_piece fu v x y = some (z, v') ∧ RR p S' v' := by
  obtain ⟨A, hA, hC, hM⟩ := h
  obtain ⟨t, d, ln, dl, f, hP, hK⟩ := id hC
  have hc := hP.1.2.2.1
  have hct := hP.2.1.1
  have hrt := hP.2.2.2.2.1.1
  have hw := hK.1.1
  have hq := hA.2.1.1
  have h8 := hq.1.2.1
  have hh : MH (gA (sI v 0 (nI 0)) 24) (aQ A).1 := hM.2.2.1.1
  have hg : MG (sI v 0 (nI 0)) (aG A) := hM.2.1
  have hm0 : mscr v (sI v 0 (nI 0)) := mscr_sI (mscr_refl v) (by decide) (by decide) (by decide)
  have hr : RR p S (sI v 0 (nI 0)) := RR_q hA hC hM (scr_refl p S) hm0
  by_cases hx : ∃ j, j < qn (aQ A).1 ∧ x = nI j
  · obtain ⟨a, ha, rfl⟩ := hx
    have e1 := (hw.2.2.2.2.2.1 a ha)
    have e2 := (hh.2.2.2.1 a ha)
    by_cases hy : ∃ j, j < 5 ∧ y = nI j
    · obtain ⟨b, hb, rfl⟩ := hy
      by_cases b4 : b = 4
      · subst b4
        obtain ⟨S', eS, hl⟩ := x3_worthOf hf hw hq hK.2.1 ha
        obtain ⟨F, P, eM⟩ := m0_worthOf hf hg hh hq ha
        refine ⟨wof (aG A) (aQ A).1 a, S', _, ?_, ?_, RR_q hA hC hM (scr_lw hl (by rw [hP.1.1]; decide)) (mscr_mv0 hm0 (F := F) (P := P))⟩
        rotate_left
        · simp (disch := omega) only [f_X13_piece_23, f_X13_piece_0, f_X13_piece, ↓lm_1, ↓lm_2, ↓lm_3, ↓lm_4, ↓lm_5, ↓lm_6, ↓lm_7, ↓lm_8, ↓lm_9, ↓lm_10, ↓lm_11, li_0, li_1, li_2, li_3, li_4, li_5, li_6, li_7, li_8, li_9, li_10, li_11, li_12, li_13, li_14, li_15, li_16, li_17, li_18, li_19, li_20, li_21, li_22, li_23, li_24, li_25, li_26, li_27, li_28, li_29, li_30, li_31, li_32, li_33, li_34, li_35, li_36, li_37, li_38, li_39, li_40, li_41, li_42, li_43, li_44, li_45, li_46, li_47, li_48, li_49, li_50, li_51, li_52, li_53, li_54, li_55, li_56, li_57, li_58, li_59, li_60, li_61, li_62, li_63, li_64, li_65, li_66, li_96, li_97, li_99, li_100, li_122, li_125, li_126, li_140, li_255, li_256, li_999, li_1000, li_1001, li_1002, li_1100, li_1386, li_1452, li_1518, li_9999, li_1000000, nm_eq, m0_isPiece_in hh hq ha, w_in, bd_s, n10, nI_eq, Nat.reduceEqDiff, Nat.one_ne_zero, ↓reduceIte, eM, bd2_s]
        · simp (disch := omega) only [f_X12_piece_0, f_X12_piece, ↓lm_1, ↓lm_2, ↓lm_3, ↓lm_4, ↓lm_5, ↓lm_6, ↓lm_7, ↓lm_8, ↓lm_9, ↓lm_10, ↓lm_11, li_0, li_1, li_2, li_3, li_4, li_5, li_6, li_7, li_8, li_9, li_10, li_11, li_12, li_13, li_14, li_15, li_16, li_17, li_18, li_19, li_20, li_21, li_22, li_23, li_24, li_25, li_26, li_27, li_28, li_29, li_30, li_31, li_32, li_33, li_34, li_35, li_36, li_37, li_38, li_39, li_40, li_41, li_42, li_43, li_44, li_45, li_46, li_47, li_48, li_49, li_50, li_51, li_52, li_53, li_54, li_55, li_56, li_57, li_58, li_59, li_60, li_61, li_62, li_63, li_64, li_65, li_66, li_96, li_97, li_99, li_100, li_122, li_125, li_126, li_140, li_255, li_256, li_999, li_1000, li_1001, li_1002, li_1100, li_1386, li_1452, li_1518, li_9999, li_1000000, hc, decide_true, ck_t, x3_isThere_in hw hq ha, bd_s, n10, nI_eq, Nat.reduceEqDiff, Nat.one_ne_zero, ↓reduceIte, hrt, hct, eS, bd2_s]
      · have h4 : b = 0 ∨ b = 1 ∨ b = 2 ∨ b = 3 := by omega
        refine ⟨if b = 0 then nI (qo (aQ A).1 a) else if b = 1 then nI (qh (aQ A).1 a) else if b = 2 then (if a = 0 then mI 1 else nI (qs (aQ A).1 a)) else qu (aQ A).1 a, _, _, ?_, ?_, hr⟩
        rotate_left
        · rcases h4 with rfl | rfl | rfl | rfl <;> simp (disch := omega) only [f_X13_piece_23, f_X13_piece_0, f_X13_piece, ↓lm_1, ↓lm_2, ↓lm_3, ↓lm_4, ↓lm_5, ↓lm_6, ↓lm_7, ↓lm_8, ↓lm_9, ↓lm_10, ↓lm_11, li_0, li_1, li_2, li_3, li_4, li_5, li_6, li_7, li_8, li_9, li_10, li_11, li_12, li_13, li_14, li_15, li_16, li_17, li_18, li_19, li_20, li_21, li_22, li_23, li_24, li_25, li_26, li_27, li_28, li_29, li_30, li_31, li_32, li_33, li_34, li_35, li_36, li_37, li_38, li_39, li_40, li_41, li_42, li_43, li_44, li_45, li_46, li_47, li_48, li_49, li_50, li_51, li_52, li_53, li_54, li_55, li_56, li_57, li_58, li_59, li_60, li_61, li_62, li_63, li_64, li_65, li_66, li_96, li_97, li_99, li_100, li_122, li_125, li_126, li_140, li_255, li_256, li_999, li_1000, li_1001, li_1002, li_1100, li_1386, li_1452, li_1518, li_9999, li_1000000, nm_eq, m0_isPiece_in hh hq ha, w_in, bd_s, n10, nI_eq, Nat.reduceEqDiff, Nat.one_ne_zero, ↓reduceIte, nI_add, inb_n, ck_t, nI_clamp, e2.1, e2.2.1, e2.2.2.1, e2.2.2.2.1]
        · rcases h4 with rfl | rfl | rfl | rfl <;> simp (disch := omega) only [f_X12_piece_0, f_X12_piece, ↓lm_1, ↓lm_2, ↓lm_3, ↓lm_4, ↓lm_5, ↓lm_6, ↓lm_7, ↓lm_8, ↓lm_9, ↓lm_10, ↓lm_11, li_0, li_1, li_2, li_3, li_4, li_5, li_6, li_7, li_8, li_9, li_10, li_11, li_12, li_13, li_14, li_15, li_16, li_17, li_18, li_19, li_20, li_21, li_22, li_23, li_24, li_25, li_26, li_27, li_28, li_29, li_30, li_31, li_32, li_33, li_34, li_35, li_36, li_37, li_38, li_39, li_40, li_41, li_42, li_43, li_44, li_45, li_46, li_47, li_48, li_49, li_50, li_51, li_52, li_53, li_54, li_55, li_56, li_57, li_58, li_59, li_60, li_61, li_62, li_63, li_64, li_65, li_66, li_96, li_97, li_99, li_100, li_122, li_125, li_126, li_140, li_255, li_256, li_999, li_1000, li_1001, li_1002, li_1100, li_1386, li_1452, li_1518, li_9999, li_1000000, hc, decide_true, ck_t, x3_isThere_in hw hq ha, bd_s, n10, nI_eq, Nat.reduceEqDiff, Nat.one_ne_zero, ↓reduceIte, inb_n, nI_clamp, e1.1, e1.2.1, e1.2.2.1, e1.2.2.2.1]
    · have n0 := ne_of hy (k := 0) (by omega)
      have n1 := ne_of hy (k := 1) (by omega)
      have n2 := ne_of hy (k := 2) (by omega)
      have n3 := ne_of hy (k := 3) (by omega)
      have n4 := ne_of hy (k := 4) (by omega)
      refine ⟨mI 1, S, _, ?_, ?_, hr⟩
      · simp only [f_X12_piece_0, f_X12_piece, ↓lm_1, ↓lm_2, ↓lm_3, ↓lm_4, ↓lm_5, ↓lm_6, ↓lm_7, ↓lm_8, ↓lm_9, ↓lm_10, ↓lm_11, li_0, li_1, li_2, li_3, li_4, li_5, li_6, li_7, li_8, li_9, li_10, li_11, li_12, li_13, li_14, li_15, li_16, li_17, li_18, li_19, li_20, li_21, li_22, li_23, li_24, li_25, li_26, li_27, li_28, li_29, li_30, li_31, li_32, li_33, li_34, li_35, li_36, li_37, li_38, li_39, li_40, li_41, li_42, li_43, li_44, li_45, li_46, li_47, li_48, li_49, li_50, li_51, li_52, li_53, li_54, li_55, li_56, li_57, li_58, li_59, li_60, li_61, li_62, li_63, li_64, li_65, li_66, li_96, li_97, li_99, li_100, li_122, li_125, li_126, li_140, li_255, li_256, li_999, li_1000, li_1001, li_1002, li_1100, li_1386, li_1452, li_1518, li_9999, li_1000000, hc, decide_true, ck_t, x3_isThere_in hw hq ha, bd_s, n10, n0, n1, n2, n3, n4, ↓reduceIte]
      · simp (disch := omega) only [f_X13_piece_23, f_X13_piece_0, f_X13_piece, ↓lm_1, ↓lm_2, ↓lm_3, ↓lm_4, ↓lm_5, ↓lm_6, ↓lm_7, ↓lm_8, ↓lm_9, ↓lm_10, ↓lm_11, li_0, li_1, li_2, li_3, li_4, li_5, li_6, li_7, li_8, li_9, li_10, li_11, li_12, li_13, li_14, li_15, li_16, li_17, li_18, li_19, li_20, li_21, li_22, li_23, li_24, li_25, li_26, li_27, li_28, li_29, li_30, li_31, li_32, li_33, li_34, li_35, li_36, li_37, li_38, li_39, li_40, li_41, li_42, li_43, li_44, li_45, li_46, li_47, li_48, li_49, li_50, li_51, li_52, li_53, li_54, li_55, li_56, li_57, li_58, li_59, li_60, li_61, li_62, li_63, li_64, li_65, li_66, li_96, li_97, li_99, li_100, li_122, li_125, li_126, li_140, li_255, li_256, li_999, li_1000, li_1001, li_1002, li_1100, li_1386, li_1452, li_1518, li_9999, li_1000000, nm_eq, m0_isPiece_in hh hq ha, w_out hy, bd_s, n10, ↓reduceIte]
  · refine ⟨mI 1, S, _, ?_, ?_, hr⟩
    · simp only [f_X12_piece_0, f_X12_piece, ↓lm_1, ↓lm_2, ↓lm_3, ↓lm_4, ↓lm_5, ↓lm_6, ↓lm_7, ↓lm_8, ↓lm_9, ↓lm_10, ↓lm_11, li_0, li_1, li_2, li_3, li_4, li_5, li_6, li_7, li_8, li_9, li_10, li_11, li_12, li_13, li_14, li_15, li_16, li_17, li_18, li_19, li_20, li_21, li_22, li_23, li_24, li_25, li_26, li_27, li_28, li_29, li_30, li_31, li_32, li_33, li_34, li_35, li_36, li_37, li_38, li_39, li_40, li_41, li_42, li_43, li_44, li_45, li_46, li_47, li_48, li_49, li_50, li_51, li_52, li_53, li_54, li_55, li_56, li_57, li_58, li_59, li_60, li_61, li_62, li_63, li_64, li_65, li_66, li_96, li_97, li_99, li_100, li_122, li_125, li_126, li_140, li_255, li_256, li_999, li_1000, li_1001, li_1002, li_1100, li_1386, li_1452, li_1518, li_9999, li_1000000, hc, decide_true, ck_t, x3_isThere_out hw hq hx, bd_s, n10, ↓reduceIte]
    · simp only [f_X13_piece_23, f_X13_piece_0, f_X13_piece, ↓lm_1, ↓lm_2, ↓lm_3, ↓lm_4, ↓lm_5, ↓lm_6, ↓lm_7, ↓lm_8, ↓lm_9, ↓lm_10, ↓lm_11, li_0, li_1, li_2, li_3, li_4, li_5, li_6, li_7, li_8, li_9, li_10, li_11, li_12, li_13, li_14, li_15, li_16, li_17, li_18, li_19, li_20, li_21, li_22, li_23, li_24, li_25, li_26, li_27, li_28, li_29, li_30, li_31, li_32, li_33, li_34, li_35, li_36, li_37, li_38, li_39, li_40, li_41, li_42, li_43, li_44, li_45, li_46, li_47, li_48, li_49, li_50, li_51, li_52, li_53, li_54, li_55, li_56, li_57, li_58, li_59, li_60, li_61, li_62, li_63, li_64, li_65, li_66, li_96, li_97, li_99, li_100, li_122, li_125, li_126, li_140, li_255, li_256, li_999, li_1000, li_1001, li_1002, li_1100, li_1386, li_1452, li_1518, li_9999, li_1000000, nm_eq, m0_isPiece_out hh hq hx, bd_s, n10, ↓reduceIte]
theorem r_thief (hf : 1101 ≤ fu) (h : RR p S v) (x y : Int32) : ∃ z v', f_X12_thief fu S p x y = some z ∧ f_X13_thief fu v x y = some (z, v') ∧ RR p S v' := by
  obtain ⟨A, hA, hC, hM⟩ := h
  obtain ⟨t, d, ln, dl, f, hP, hK⟩ := id hC
  have hc := hP.1.2.2.1
  have hct := hP.2.1.1
  have hrt := hP.2.2.2.2.1.1
  have hw := hK.1.1
  have hq := hA.2.1.1
  have hG := hA.1
  have h5 := hG.2.1
  have hgc := hK.2.1
  have hh : MH (gA (sI v 0 (nI 0)) 24) (aQ A).1 := hM.2.2.1.1
  have hg : MG (sI v 0 (nI 0)) (aG A) := hM.2.1
  have hr0 : RR p S (sI v 0 (nI 0)) := RR_q hA hC hM (scr_refl p S) (mscr_sI (mscr_refl v) (by decide) (by decide) (by decide))
  by_cases hx : ∃ j, j < nt (aG A) ∧ x = nI j
  · obtain ⟨a, ha, rfl⟩ := hx
    have e1 := hgc.2.2.2.2.1 a ha
    by_cases hy : ∃ j, j < 5 ∧ y = nI j
    · obtain ⟨b, hb, rfl⟩ := hy
      have h4 : b = 0 ∨ b = 1 ∨ b = 2 ∨ b = 3 ∨ b = 4 := by omega
      refine ⟨if b = 0 then nI (kd (aG A) a) else if b = 1 then nI (sk (aG A) a) else if b = 2 then qc (aQ A).1 a else if b = 3 then nI (hr (aG A) a) else nI (hasq (aQ A).1 a), _, ?_, ?_, hr0⟩
      rotate_left
      · rcases h4 with rfl | rfl | rfl | rfl | rfl <;> simp (disch := omega) only [f_X13_thief_22, f_X13_thief_0, f_X13_thief, ↓lm_1, ↓lm_2, ↓lm_3, ↓lm_4, ↓lm_5, ↓lm_6, ↓lm_7, ↓lm_8, ↓lm_9, ↓lm_10, ↓lm_11, li_0, li_1, li_2, li_3, li_4, li_5, li_6, li_7, li_8, li_9, li_10, li_11, li_12, li_13, li_14, li_15, li_16, li_17, li_18, li_19, li_20, li_21, li_22, li_23, li_24, li_25, li_26, li_27, li_28, li_29, li_30, li_31, li_32, li_33, li_34, li_35, li_36, li_37, li_38, li_39, li_40, li_41, li_42, li_43, li_44, li_45, li_46, li_47, li_48, li_49, li_50, li_51, li_52, li_53, li_54, li_55, li_56, li_57, li_58, li_59, li_60, li_61, li_62, li_63, li_64, li_65, li_66, li_96, li_97, li_99, li_100, li_122, li_125, li_126, li_140, li_255, li_256, li_999, li_1000, li_1001, li_1002, li_1100, li_1386, li_1452, li_1518, li_9999, li_1000000, nm_eq, m_isThief_in hg hG ha, w_in, bd_s, n10, nI_eq, Nat.reduceEqDiff, Nat.one_ne_zero, Nat.zero_ne_one, ↓reduceIte, nI_add, inb_n, ck_t, nI_clamp, m_kind hg hG ha, m_skill hg hG ha, m_hours hg hG ha, m0_hasOf hf hG hh hq (show a < 100 by omega), hh.2.2.2.2 a (by omega)]
      · rcases h4 with rfl | rfl | rfl | rfl | rfl <;> simp (disch := omega) only [f_X12_thief_0, f_X12_thief, ↓lm_1, ↓lm_2, ↓lm_3, ↓lm_4, ↓lm_5, ↓lm_6, ↓lm_7, ↓lm_8, ↓lm_9, ↓lm_10, ↓lm_11, li_0, li_1, li_2, li_3, li_4, li_5, li_6, li_7, li_8, li_9, li_10, li_11, li_12, li_13, li_14, li_15, li_16, li_17, li_18, li_19, li_20, li_21, li_22, li_23, li_24, li_25, li_26, li_27, li_28, li_29, li_30, li_31, li_32, li_33, li_34, li_35, li_36, li_37, li_38, li_39, li_40, li_41, li_42, li_43, li_44, li_45, li_46, li_47, li_48, li_49, li_50, li_51, li_52, li_53, li_54, li_55, li_56, li_57, li_58, li_59, li_60, li_61, li_62, li_63, li_64, li_65, li_66, li_96, li_97, li_99, li_100, li_122, li_125, li_126, li_140, li_255, li_256, li_999, li_1000, li_1001, li_1002, li_1100, li_1386, li_1452, li_1518, li_9999, li_1000000, hc, hrt, hct, decide_true, ck_t, x1_hasThief_in hgc hG ha, bd_s, n10, nI_eq, Nat.reduceEqDiff, Nat.one_ne_zero, Nat.zero_ne_one, ↓reduceIte, inb_n, nI_clamp, e1.1, e1.2.1, e1.2.2, x3_heldBy hf hG hw hq (show a < 100 by omega), hw.2.2.2.2.2.2 a (by omega)]
    · have n0 := ne_of hy (k := 0) (by omega)
      have n1 := ne_of hy (k := 1) (by omega)
      have n2 := ne_of hy (k := 2) (by omega)
      have n3 := ne_of hy (k := 3) (by omega)
      have n4 := ne_of hy (k := 4) (by omega)
      refine ⟨mI 1, _, ?_, ?_, hr0⟩
      · simp only [f_X12_thief_0, f_X12_thief, ↓lm_1, ↓lm_2, ↓lm_3, ↓lm_4, ↓lm_5, ↓lm_6, ↓lm_7, ↓lm_8, ↓lm_9, ↓lm_10, ↓lm_11, li_0, li_1, li_2, li_3, li_4, li_5, li_6, li_7, li_8, li_9, li_10, li_11, li_12, li_13, li_14, li_15, li_16, li_17, li_18, li_19, li_20, li_21, li_22, li_23, li_24, li_25, li_26, li_27, li_28, li_29, li_30, li_31, li_32, li_33, li_34, li_35, li_36, li_37, li_38, li_39, li_40, li_41, li_42, li_43, li_44, li_45, li_46, li_47, li_48, li_49, li_50, li_51, li_52, li_53, li_54, li_55, li_56, li_57, li_58, li_59, li_60, li_61, li_62, li_63, li_64, li_65, li_66, li_96, li_97, li_99, li_100, li_122, li_125, li_126, li_140, li_255, li_256, li_999, li_1000, li_1001, li_1002, li_1100, li_1386, li_1452, li_1518, li_9999, li_1000000, hrt, hct, decide_true, ck_t, x1_hasThief_in hgc hG ha, bd_s, n10, n0, n1, n2, n3, n4, ↓reduceIte]
      · simp (disch := omega) only [f_X13_thief_22, f_X13_thief_0, f_X13_thief, ↓lm_1, ↓lm_2, ↓lm_3, ↓lm_4, ↓lm_5, ↓lm_6, ↓lm_7, ↓lm_8, ↓lm_9, ↓lm_10, ↓lm_11, li_0, li_1, li_2, li_3, li_4, li_5, li_6, li_7, li_8, li_9, li_10, li_11, li_12, li_13, li_14, li_15, li_16, li_17, li_18, li_19, li_20, li_21, li_22, li_23, li_24, li_25, li_26, li_27, li_28, li_29, li_30, li_31, li_32, li_33, li_34, li_35, li_36, li_37, li_38, li_39, li_40, li_41, li_42, li_43, li_44, li_45, li_46, li_47, li_48, li_49, li_50, li_51, li_52, li_53, li_54, li_55, li_56, li_57, li_58, li_59, li_60, li_61, li_62, li_63, li_64, li_65, li_66, li_96, li_97, li_99, li_100, li_122, li_125, li_126, li_140, li_255, li_256, li_999, li_1000, li_1001, li_1002, li_1100, li_1386, li_1452, li_1518, li_9999, li_1000000, nm_eq, m_isThief_in hg hG ha, w_out hy, bd_s, n10, ↓reduceIte]
  · refine ⟨mI 1, _, ?_, ?_, hr0⟩
    · simp only [f_X12_thief_0, f_X12_thief, ↓lm_1, ↓lm_2, ↓lm_3, ↓lm_4, ↓lm_5, ↓lm_6, ↓lm_7, ↓lm_8, ↓lm_9, ↓lm_10, ↓lm_11, li_0, li_1, li_2, li_3, li_4, li_5, li_6, li_7, li_8, li_9, li_10, li_11, li_12, li_13, li_14, li_15, li_16, li_17, li_18, li_19, li_20, li_21, li_22, li_23, li_24, li_25, li_26, li_27, li_28, li_29, li_30, li_31, li_32, li_33, li_34, li_35, li_36, li_37, li_38, li_39, li_40, li_41, li_42, li_43, li_44, li_45, li_46, li_47, li_48, li_49, li_50, li_51, li_52, li_53, li_54, li_55, li_56, li_57, li_58, li_59, li_60, li_61, li_62, li_63, li_64, li_65, li_66, li_96, li_97, li_99, li_100, li_122, li_125, li_126, li_140, li_255, li_256, li_999, li_1000, li_1001, li_1002, li_1100, li_1386, li_1452, li_1518, li_9999, li_1000000, hrt, hct, decide_true, ck_t, x1_hasThief_out hgc hG hx, bd_s, n10, ↓reduceIte]
    · simp only [f_X13_thief_22, f_X13_thief_0, f_X13_thief, ↓lm_1, ↓lm_2, ↓lm_3, ↓lm_4, ↓lm_5, ↓lm_6, ↓lm_7, ↓lm_8, ↓lm_9, ↓lm_10, ↓lm_11, li_0, li_1, li_2, li_3, li_4, li_5, li_6, li_7, li_8, li_9, li_10, li_11, li_12, li_13, li_14, li_15, li_16, li_17, li_18, li_19, li_20, li_21, li_22, li_23, li_24, li_25, li_26, li_27, li_28, li_29, li_30, li_31, li_32, li_33, li_34, li_35, li_36, li_37, li_38, li_39, li_40, li_41, li_42, li_43, li_44, li_45, li_46, li_47, li_48, li_49, li_50, li_51, li_52, li_53, li_54, li_55, li_56, li_57, li_58, li_59, li_60, li_61, li_62, li_63, li_64, li_65, li_66, li_96, li_97, li_99, li_100, li_122, li_125, li_126, li_140, li_255, li_256, li_999, li_1000, li_1001, li_1002, li_1100, li_1386, li_1452, li_1518, li_9999, li_1000000, nm_eq, m_isThief_out hg hG hx, bd_s, n10, ↓reduceIte]
theorem r_count (hf : 1101 ≤ fu) (h : RR p S v) (x : Int32) : ∃ z v', f_X12_count fu S p x = some z ∧ f_X13_count fu v x = some (z, v') ∧ RR p S v' := by
  obtain ⟨A, hA, hC, hM⟩ := h
  obtain ⟨t, d, ln, dl, f, hP, hK⟩ := id hC
  have hc := hP.1.2.2.1
  have hc1 := hP.1.2.1
  have hct := hP.2.1.1
  have hcl := hP.2.1.2.2.2.2.1
  have hrt := hP.2.2.2.2.1.1
  have hrl := hP.2.2.2.2.1.2.2.1
  have hw := hK.1.1
  have hl := hK.1.2.1
  have hq := hA.2.1.1
  have hG := hA.1
  have hgc := hK.2.1
  have hh : MH (gA (sI v 0 (nI 0)) 24) (aQ A).1 := hM.2.2.1.1
  have hg : MG (sI v 0 (nI 0)) (aG A) := hM.2.1
  have hr : RR p S (sI v 0 (nI 0)) := RR_q hA hC hM (scr_refl p S) (mscr_sI (mscr_refl v) (by decide) (by decide) (by decide))
  have m48 : gA (sI v 0 (nI 0)) 24 48 = nI (aQ A).2.1 := hM.2.2.1.2.1
  have m21 : gA (sI v 0 (nI 0)) 21 0 = nI (aL A).1 := hM.2.2.2.2.2.2.1.1
  have m25 : gI (sI v 0 (nI 0)) 25 = nI (aP A).1 := hM.2.2.2.1.1
  have m2 : gI (sI v 0 (nI 0)) 2 = nI (aT A).1 := hM.2.2.2.2.2.2.2.1.1
  have k17 := hK.2.2.2.2.1.2.2.1
  have k4 := hK.2.2.2.2.2.2.1.1
  have k6 := hK.2.2.2.2.2.2.2.1
  by_cases hx : ∃ j, j < 12 ∧ x = nI j
  · obtain ⟨a, ha, rfl⟩ := hx
    have h4 : a = 0 ∨ a = 1 ∨ a = 2 ∨ a = 3 ∨ a = 4 ∨ a = 5 ∨ a = 6 ∨ a = 7 ∨ a = 8 ∨ a = 9 ∨ a = 10 ∨ a = 11 := by omega
    refine ⟨[nI (ns (aG A)), nI (qn (aQ A).1), nI (nt (aG A)), nI (ne (aG A)), qt (aQ A).1, nI (qj (aQ A).1), csum (qc (aQ A).1) 5, nI (qg (aQ A).1), nI (aL A).1, nI (aQ A).2.1, nI (aP A).1, nI (aT A).1].getD a (nI 0), _, ?_, ?_, hr⟩
    rotate_left
    · rcases h4 with rfl | rfl | rfl | rfl | rfl | rfl | rfl | rfl | rfl | rfl | rfl | rfl <;> simp (disch := omega) only [f_X13_count_0, f_X13_count, ↓lm_1, ↓lm_2, ↓lm_3, ↓lm_4, ↓lm_5, ↓lm_6, ↓lm_7, ↓lm_8, ↓lm_9, ↓lm_10, ↓lm_11, li_0, li_1, li_2, li_3, li_4, li_5, li_6, li_7, li_8, li_9, li_10, li_11, li_12, li_13, li_14, li_15, li_16, li_17, li_18, li_19, li_20, li_21, li_22, li_23, li_24, li_25, li_26, li_27, li_28, li_29, li_30, li_31, li_32, li_33, li_34, li_35, li_36, li_37, li_38, li_39, li_40, li_41, li_42, li_43, li_44, li_45, li_46, li_47, li_48, li_49, li_50, li_51, li_52, li_53, li_54, li_55, li_56, li_57, li_58, li_59, li_60, li_61, li_62, li_63, li_64, li_65, li_66, li_96, li_97, li_99, li_100, li_122, li_125, li_126, li_140, li_255, li_256, li_999, li_1000, li_1001, li_1002, li_1100, li_1386, li_1452, li_1518, li_9999, li_1000000, nm_eq, bd_s, nI_eq, Nat.reduceEqDiff, Nat.one_ne_zero, Nat.zero_ne_one, ↓reduceIte, nI_clamp, x13_spots hg.1, x13_thieves hg.2.1, x13_experts hg.2.2.1, hh.1, hh.2.1, hh.2.2.1, m0_hanging hf hG hh hq, m0_coinsOf hf hg hG hh hq, m48, m21, m25, m2] <;> rfl
    · rcases h4 with rfl | rfl | rfl | rfl | rfl | rfl | rfl | rfl | rfl | rfl | rfl | rfl <;> simp (disch := omega) only [f_X12_count_0, f_X12_count, ↓lm_1, ↓lm_2, ↓lm_3, ↓lm_4, ↓lm_5, ↓lm_6, ↓lm_7, ↓lm_8, ↓lm_9, ↓lm_10, ↓lm_11, li_0, li_1, li_2, li_3, li_4, li_5, li_6, li_7, li_8, li_9, li_10, li_11, li_12, li_13, li_14, li_15, li_16, li_17, li_18, li_19, li_20, li_21, li_22, li_23, li_24, li_25, li_26, li_27, li_28, li_29, li_30, li_31, li_32, li_33, li_34, li_35, li_36, li_37, li_38, li_39, li_40, li_41, li_42, li_43, li_44, li_45, li_46, li_47, li_48, li_49, li_50, li_51, li_52, li_53, li_54, li_55, li_56, li_57, li_58, li_59, li_60, li_61, li_62, li_63, li_64, li_65, li_66, li_96, li_97, li_99, li_100, li_122, li_125, li_126, li_140, li_255, li_256, li_999, li_1000, li_1001, li_1002, li_1100, li_1386, li_1452, li_1518, li_9999, li_1000000, hc, hc1, hrt, hrl, hct, hcl, decide_true, ck_t, bd_s, nI_eq, Nat.reduceEqDiff, Nat.one_ne_zero, Nat.zero_ne_one, ↓reduceIte, hgc.2.1, hgc.2.2.1, hgc.2.2.2.1, hw.2.1, hw.2.2.1, hw.2.2.2.1, hw.2.2.2.2.1, hl, x3_allCoins hf hw, k17, k4, k6] <;> rfl
  · have hn : ∀ k, k < 12 → ¬ x = nI k := fun k hk => ne_of hx hk
    refine ⟨mI 1, _, ?_, ?_, hr⟩
    · simp (disch := omega) only [f_X12_count_0, f_X12_count, ↓lm_1, ↓lm_2, ↓lm_3, ↓lm_4, ↓lm_5, ↓lm_6, ↓lm_7, ↓lm_8, ↓lm_9, ↓lm_10, ↓lm_11, li_0, li_1, li_2, li_3, li_4, li_5, li_6, li_7, li_8, li_9, li_10, li_11, li_12, li_13, li_14, li_15, li_16, li_17, li_18, li_19, li_20, li_21, li_22, li_23, li_24, li_25, li_26, li_27, li_28, li_29, li_30, li_31, li_32, li_33, li_34, li_35, li_36, li_37, li_38, li_39, li_40, li_41, li_42, li_43, li_44, li_45, li_46, li_47, li_48, li_49, li_50, li_51, li_52, li_53, li_54, li_55, li_56, li_57, li_58, li_59, li_60, li_61, li_62, li_63, li_64, li_65, li_66, li_96, li_97, li_99, li_100, li_122, li_125, li_126, li_140, li_255, li_256, li_999, li_1000, li_1001, li_1002, li_1100, li_1386, li_1452, li_1518, li_9999, li_1000000, hn, ↓reduceIte]
    · simp (disch := omega) only [f_X13_count_0, f_X13_count, ↓lm_1, ↓lm_2, ↓lm_3, ↓lm_4, ↓lm_5, ↓lm_6, ↓lm_7, ↓lm_8, ↓lm_9, ↓lm_10, ↓lm_11, li_0, li_1, li_2, li_3, li_4, li_5, li_6, li_7, li_8, li_9, li_10, li_11, li_12, li_13, li_14, li_15, li_16, li_17, li_18, li_19, li_20, li_21, li_22, li_23, li_24, li_25, li_26, li_27, li_28, li_29, li_30, li_31, li_32, li_33, li_34, li_35, li_36, li_37, li_38, li_39, li_40, li_41, li_42, li_43, li_44, li_45, li_46, li_47, li_48, li_49, li_50, li_51, li_52, li_53, li_54, li_55, li_56, li_57, li_58, li_59, li_60, li_61, li_62, li_63, li_64, li_65, li_66, li_96, li_97, li_99, li_100, li_122, li_125, li_126, li_140, li_255, li_256, li_999, li_1000, li_1001, li_1002, li_1100, li_1386, li_1452, li_1518, li_9999, li_1000000, nm_eq, hn, ↓reduceIte]
end Q
