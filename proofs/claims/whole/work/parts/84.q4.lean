/-! ===== questions: ask, price ===== -/
def fo1 (Q : QL) (s p : Nat) : Bool := decide (p < qn Q.1) && (fitb Q p && decide (bt (qo Q.1 p) s = 1))
def fo0 (Q : QL) (s p : Nat) : Bool := decide (p < qn Q.1) && (fitb Q p && decide (bt (qo Q.1 p) s = 0))
theorem cnt_split (Q : QL) (s : Nat) : ∀ k, k ≤ qn Q.1 → cnt (fo1 Q s) k + cnt (fo0 Q s) k = cnt (fitb Q) k := by
  intro k
  induction k with
  | zero => intro _; rfl
  | succ k ih =>
    intro h
    have ih := ih (by omega)
    have hk : k < qn Q.1 := by omega
    simp only [cnt, fo1, fo0, hk, decide_true, Bool.true_and, Bool.and_eq_true, decide_eq_true_eq]
    by_cases c : fitb Q k = true
    · rcases bt_01 (qo Q.1 k) s with e | e
      · simp [c, e]; omega
      · simp [c, e]; omega
    · simp [c]; exact ih
theorem cnt_stop {P : Nat → Bool} {n : Nat} (h : ∀ k, n ≤ k → P k = false) : ∀ d, cnt P (n + d) = cnt P n := by
  intro d
  induction d with
  | zero => rfl
  | succ d ih => rw [← Nat.add_assoc, cnt, h _ (by omega), ih]; rfl
def grt (Q : QL) (s : Nat) : Nat := if cnt (fo1 Q s) (qn Q.1) < cnt (fitb Q) (qn Q.1) - cnt (fo1 Q s) (qn Q.1) then cnt (fitb Q) (qn Q.1) - cnt (fo1 Q s) (qn Q.1) else cnt (fo1 Q s) (qn Q.1)
def ast (Q : QL) : Nat → Option Nat × Nat
  | 0 => (none, cnt (fitb Q) (qn Q.1))
  | s + 1 => if (ast Q s).2 ≤ grt Q s then ast Q s else (some s, grt Q s)
theorem grt_le (Q : QL) (s : Nat) : grt Q s ≤ qn Q.1 := by
  have h1 := cnt_le (fo1 Q s) (qn Q.1)
  have h2 := cnt_le (fitb Q) (qn Q.1)
  unfold grt
  split <;> omega
theorem ast_le (Q : QL) (s : Nat) : (ast Q s).2 ≤ qn Q.1 := by
  induction s with
  | zero => exact cnt_le _ _
  | succ s ih =>
    simp only [ast]
    split
    · exact ih
    · exact grt_le Q s
/-- what those that fit are worth, of the first k -/
def psm (G : GP) (Q : QL) : Nat → Int32
  | 0 => nI 0
  | k + 1 => if k < qn Q.1 ∧ fitb Q k = true then psm G Q k + wof G Q.1 k else psm G Q k
theorem psm_stop (G : GP) (Q : QL) : ∀ d, psm G Q (qn Q.1 + d) = psm G Q (qn Q.1) := by
  intro d
  induction d with
  | zero => rfl
  | succ d ih => rw [← Nat.add_assoc, psm, if_neg (by omega), ih]
section Q
variable {fu p : Nat} {S : ST} {v : GV} {A : AP}
theorem c_greaterPart (hf : 1101 ≤ fu) (hA : okA A) (hC : RC p S A) {s : Nat} (hs : s < 8) : f_X12_greaterPart fu S p (nI s) = some (nI (grt (aQ A) s)) := by
  obtain ⟨t, d, ln, dl, f, hP, hK⟩ := id hC
  have hc := hP.1.2.2.1
  have hw := hK.1
  have hQ := hA.2.1
  have h8 := hQ.1.1.2.1
  simp only [f_X12_greaterPart, f_X12_greaterPart_0, f_X12_greaterPart_7, ↓lm_1, ↓lm_2, ↓lm_3, ↓lm_4, ↓lm_5, ↓lm_6, ↓lm_7, ↓lm_8, ↓lm_9, ↓lm_10, ↓lm_11, li_0, li_1, li_2, li_3, li_4, li_5, li_6, li_7, li_8, li_9, li_10, li_11, li_12, li_13, li_14, li_15, li_16, li_17, li_18, li_19, li_20, li_21, li_22, li_23, li_24, li_25, li_26, li_27, li_28, li_29, li_30, li_31, li_32, li_33, li_34, li_35, li_36, li_37, li_38, li_39, li_40, li_41, li_42, li_43, li_44, li_45, li_46, li_47, li_48, li_49, li_50, li_51, li_52, li_53, li_54, li_55, li_56, li_57, li_58, li_59, li_60, li_61, li_62, li_63, li_64, li_65, li_66, li_96, li_97, li_99, li_100, li_122, li_125, li_126, li_140, li_255, li_256, li_999, li_1000, li_1001, li_1002, li_1100, li_1386, li_1452, li_1518, li_9999, li_1000000]
  refine for3 _ (fun k => nI (cnt (fo1 (aQ A) s) k)) (fun k => nI (cnt (fo0 (aQ A) s) k)) (fun k => nI k) 0 (qn (aQ A).1) _ ?_ ?_ fu (by omega) (by omega)
  · intro rec
    have c1 := cnt_split (aQ A) s _ (Nat.le_refl _)
    have c2 := cnt_le (fitb (aQ A)) (qn (aQ A).1)
    simp (disch := omega) only [f_X12_greaterPart_7s, ↓lm_1, ↓lm_2, ↓lm_3, ↓lm_4, ↓lm_5, ↓lm_6, ↓lm_7, ↓lm_8, ↓lm_9, ↓lm_10, ↓lm_11, li_0, li_1, li_2, li_3, li_4, li_5, li_6, li_7, li_8, li_9, li_10, li_11, li_12, li_13, li_14, li_15, li_16, li_17, li_18, li_19, li_20, li_21, li_22, li_23, li_24, li_25, li_26, li_27, li_28, li_29, li_30, li_31, li_32, li_33, li_34, li_35, li_36, li_37, li_38, li_39, li_40, li_41, li_42, li_43, li_44, li_45, li_46, li_47, li_48, li_49, li_50, li_51, li_52, li_53, li_54, li_55, li_56, li_57, li_58, li_59, li_60, li_61, li_62, li_63, li_64, li_65, li_66, li_96, li_97, li_99, li_100, li_122, li_125, li_126, li_140, li_255, li_256, li_999, li_1000, li_1001, li_1002, li_1100, li_1386, li_1452, li_1518, li_9999, li_1000000, hc, decide_true, ck_t, hw.1.2.2.1, nI_leI, Nat.le_refl, ↓reduceIte, nI_ltI, grt]
    rw [show cnt (fitb (aQ A)) (qn (aQ A).1) - cnt (fo1 (aQ A) s) (qn (aQ A).1) = cnt (fo0 (aQ A) s) (qn (aQ A).1) by omega]
    split <;> rfl
  · intro k rec _ hk
    have hle : ¬ nI (qn (aQ A).1) ≤ nI k := nI_ge hk (by omega)
    have b1 := (hQ.1.2.1 k hk).1
    simp (disch := omega) only [f_X12_greaterPart_7s, f_X12_greaterPart_59, ↓lm_1, ↓lm_2, ↓lm_3, ↓lm_4, ↓lm_5, ↓lm_6, ↓lm_7, ↓lm_8, ↓lm_9, ↓lm_10, ↓lm_11, li_0, li_1, li_2, li_3, li_4, li_5, li_6, li_7, li_8, li_9, li_10, li_11, li_12, li_13, li_14, li_15, li_16, li_17, li_18, li_19, li_20, li_21, li_22, li_23, li_24, li_25, li_26, li_27, li_28, li_29, li_30, li_31, li_32, li_33, li_34, li_35, li_36, li_37, li_38, li_39, li_40, li_41, li_42, li_43, li_44, li_45, li_46, li_47, li_48, li_49, li_50, li_51, li_52, li_53, li_54, li_55, li_56, li_57, li_58, li_59, li_60, li_61, li_62, li_63, li_64, li_65, li_66, li_96, li_97, li_99, li_100, li_122, li_125, li_126, li_140, li_255, li_256, li_999, li_1000, li_1001, li_1002, li_1100, li_1386, li_1452, li_1518, li_9999, li_1000000, hc, decide_true, ck_t, hw.1.2.2.1, hle, ↓reduceIte, x3_isFitting hA.1 hQ hw hk, bd_s, nm_eq, nI_add, inb_n, nI_clamp, (hw.1.2.2.2.2.2.1 k hk).1, nI_and31, nI_bt, cnt, fo1, fo0, hk, Bool.true_and, Bool.and_eq_true, decide_eq_true_eq, b01]
    by_cases e : fitb (aQ A) k = true
    · simp only [if_pos e, n10, ↓reduceIte, e, true_and]
      rcases bt_01 (qo (aQ A).1 k) s with z | z
      · rw [z]; simp [pk_sub, nI_add]
      · rw [z]; simp [pk_sub, nI_add]
    · simp only [if_neg e, ↓reduceIte, e, false_and, Bool.false_eq_true]
theorem bits_fit (hf : 1101 ≤ fu) (hA : okA A) : f_J6_bitCount_0f7a4 fu (nI (setb (fitb (aQ A)) (qn (aQ A).1))) = some (nI (cnt (fitb (aQ A)) (qn (aQ A).1))) ∧ f_X13_bits fu (nI (setb (fitb (aQ A)) (qn (aQ A).1))) = some (nI (cnt (fitb (aQ A)) (qn (aQ A).1))) := by
  have h8 := hA.2.1.1.1.2.1
  have hl := fitb_lt (aQ A) h8
  rw [bc256 hl, x13_bits (by omega) (by omega), pcn_setb _ (by omega)]
  exact ⟨rfl, rfl⟩
theorem ast_lt (Q : QL) : ∀ s j, (ast Q s).1 = some j → j < s := by
  intro s
  induction s with
  | zero => intro j h; simp [ast] at h
  | succ s ih =>
    intro j h
    simp only [ast] at h
    split at h
    · have := ih j h; omega
    · simp at h; omega
theorem r_ask (hf : 1101 ≤ fu) (h : RR p S v) : ∃ z v', f_X12_ask fu S p = some z ∧ f_X13_ask fu v = some (z, v') ∧ RR p S v' := by
  obtain ⟨A, hA, hC, hM⟩ := h
  obtain ⟨t, d, ln, dl, f, hP, hK⟩ := id hC
  have hct := hP.2.1.1
  have hrt := hP.2.2.2.2.1.1
  have hgc := hK.2.1
  have hG := hA.1
  have hs8 := hG.1
  have hQ := hA.2.1
  have h8 := hQ.1.1.2.1
  have hh : MHL (gA (sI v 0 (nI 0)) 24) (aQ A) := hM.2.2.1
  have hg : MG (sI v 0 (nI 0)) (aG A) := hM.2.1
  have hr0 : RR p S (sI v 0 (nI 0)) := RR_q hA hC hM (scr_refl p S) (mscr_sI (mscr_refl v) (by decide) (by decide) (by decide))
  refine ⟨oI (ast (aQ A) (ns (aG A))).1, _, ?_, ?_, hr0⟩
  · simp only [f_X12_ask, f_X12_ask_0, f_X12_ask_12, ↓lm_1, ↓lm_2, ↓lm_3, ↓lm_4, ↓lm_5, ↓lm_6, ↓lm_7, ↓lm_8, ↓lm_9, ↓lm_10, ↓lm_11, li_0, li_1, li_2, li_3, li_4, li_5, li_6, li_7, li_8, li_9, li_10, li_11, li_12, li_13, li_14, li_15, li_16, li_17, li_18, li_19, li_20, li_21, li_22, li_23, li_24, li_25, li_26, li_27, li_28, li_29, li_30, li_31, li_32, li_33, li_34, li_35, li_36, li_37, li_38, li_39, li_40, li_41, li_42, li_43, li_44, li_45, li_46, li_47, li_48, li_49, li_50, li_51, li_52, li_53, li_54, li_55, li_56, li_57, li_58, li_59, li_60, li_61, li_62, li_63, li_64, li_65, li_66, li_96, li_97, li_99, li_100, li_122, li_125, li_126, li_140, li_255, li_256, li_999, li_1000, li_1001, li_1002, li_1100, li_1386, li_1452, li_1518, li_9999, li_1000000, c_fits hf hA hC, bd_s, (bits_fit hf hA).1]
    refine for3 _ (fun s => oI (ast (aQ A) s).1) (fun s => nI (ast (aQ A) s).2) (fun s => nI s) 0 (ns (aG A)) _ ?_ ?_ fu (by omega) (by omega)
    · intro rec
      simp (disch := omega) only [f_X12_ask_12s, ↓lm_1, ↓lm_2, ↓lm_3, ↓lm_4, ↓lm_5, ↓lm_6, ↓lm_7, ↓lm_8, ↓lm_9, ↓lm_10, ↓lm_11, li_0, li_1, li_2, li_3, li_4, li_5, li_6, li_7, li_8, li_9, li_10, li_11, li_12, li_13, li_14, li_15, li_16, li_17, li_18, li_19, li_20, li_21, li_22, li_23, li_24, li_25, li_26, li_27, li_28, li_29, li_30, li_31, li_32, li_33, li_34, li_35, li_36, li_37, li_38, li_39, li_40, li_41, li_42, li_43, li_44, li_45, li_46, li_47, li_48, li_49, li_50, li_51, li_52, li_53, li_54, li_55, li_56, li_57, li_58, li_59, li_60, li_61, li_62, li_63, li_64, li_65, li_66, li_96, li_97, li_99, li_100, li_122, li_125, li_126, li_140, li_255, li_256, li_999, li_1000, li_1001, li_1002, li_1100, li_1386, li_1452, li_1518, li_9999, li_1000000, hrt, hct, decide_true, ck_t, bd_s, hgc.2.1, nI_leI, Nat.le_refl, ↓reduceIte]
    · intro s rec _ hs
      have hle : ¬ nI (ns (aG A)) ≤ nI s := nI_ge hs (by omega)
      have l1 := ast_le (aQ A) s
      have l2 := grt_le (aQ A) s
      simp (disch := omega) only [f_X12_ask_12s, f_X12_ask_41, ↓lm_1, ↓lm_2, ↓lm_3, ↓lm_4, ↓lm_5, ↓lm_6, ↓lm_7, ↓lm_8, ↓lm_9, ↓lm_10, ↓lm_11, li_0, li_1, li_2, li_3, li_4, li_5, li_6, li_7, li_8, li_9, li_10, li_11, li_12, li_13, li_14, li_15, li_16, li_17, li_18, li_19, li_20, li_21, li_22, li_23, li_24, li_25, li_26, li_27, li_28, li_29, li_30, li_31, li_32, li_33, li_34, li_35, li_36, li_37, li_38, li_39, li_40, li_41, li_42, li_43, li_44, li_45, li_46, li_47, li_48, li_49, li_50, li_51, li_52, li_53, li_54, li_55, li_56, li_57, li_58, li_59, li_60, li_61, li_62, li_63, li_64, li_65, li_66, li_96, li_97, li_99, li_100, li_122, li_125, li_126, li_140, li_255, li_256, li_999, li_1000, li_1001, li_1002, li_1100, li_1386, li_1452, li_1518, li_9999, li_1000000, hrt, hct, decide_true, ck_t, bd_s, hgc.2.1, hle, ↓reduceIte, c_greaterPart hf hA hC (show s < 8 by omega), nI_leI, nm_eq, nI_add, ast]
      split <;> rfl
  · simp only [f_X13_ask, f_X13_ask_0, f_X13_ask_20, ↓lm_1, ↓lm_2, ↓lm_3, ↓lm_4, ↓lm_5, ↓lm_6, ↓lm_7, ↓lm_8, ↓lm_9, ↓lm_10, ↓lm_11, li_0, li_1, li_2, li_3, li_4, li_5, li_6, li_7, li_8, li_9, li_10, li_11, li_12, li_13, li_14, li_15, li_16, li_17, li_18, li_19, li_20, li_21, li_22, li_23, li_24, li_25, li_26, li_27, li_28, li_29, li_30, li_31, li_32, li_33, li_34, li_35, li_36, li_37, li_38, li_39, li_40, li_41, li_42, li_43, li_44, li_45, li_46, li_47, li_48, li_49, li_50, li_51, li_52, li_53, li_54, li_55, li_56, li_57, li_58, li_59, li_60, li_61, li_62, li_63, li_64, li_65, li_66, li_96, li_97, li_99, li_100, li_122, li_125, li_126, li_140, li_255, li_256, li_999, li_1000, li_1001, li_1002, li_1100, li_1386, li_1452, li_1518, li_9999, li_1000000, nm_eq, m_fitting hf hA hh, bd_s, (bits_fit hf hA).2]
    refine for4 _ (fun s => oI (ast (aQ A) s).1) (fun s => nI (ast (aQ A) s).2) (fun s => nI s) (fun _ => sI v 0 (nI 0)) 0 (ns (aG A)) _ ?_ ?_ fu (by omega) (by omega)
    · intro rec
      simp (disch := omega) only [f_X13_ask_20s, ↓lm_1, ↓lm_2, ↓lm_3, ↓lm_4, ↓lm_5, ↓lm_6, ↓lm_7, ↓lm_8, ↓lm_9, ↓lm_10, ↓lm_11, li_0, li_1, li_2, li_3, li_4, li_5, li_6, li_7, li_8, li_9, li_10, li_11, li_12, li_13, li_14, li_15, li_16, li_17, li_18, li_19, li_20, li_21, li_22, li_23, li_24, li_25, li_26, li_27, li_28, li_29, li_30, li_31, li_32, li_33, li_34, li_35, li_36, li_37, li_38, li_39, li_40, li_41, li_42, li_43, li_44, li_45, li_46, li_47, li_48, li_49, li_50, li_51, li_52, li_53, li_54, li_55, li_56, li_57, li_58, li_59, li_60, li_61, li_62, li_63, li_64, li_65, li_66, li_96, li_97, li_99, li_100, li_122, li_125, li_126, li_140, li_255, li_256, li_999, li_1000, li_1001, li_1002, li_1100, li_1386, li_1452, li_1518, li_9999, li_1000000, x13_spots hg.1, bd_s, nI_leI, Nat.le_refl, ↓reduceIte]
    · intro s rec _ hs
      have hle : ¬ nI (ns (aG A)) ≤ nI s := nI_ge hs (by omega)
      have l1 := ast_le (aQ A) s
      have l2 := grt_le (aQ A) s
      simp (disch := omega) only [f_X13_ask_20s, ↓lm_1, ↓lm_2, ↓lm_3, ↓lm_4, ↓lm_5, ↓lm_6, ↓lm_7, ↓lm_8, ↓lm_9, ↓lm_10, ↓lm_11, li_0, li_1, li_2, li_3, li_4, li_5, li_6, li_7, li_8, li_9, li_10, li_11, li_12, li_13, li_14, li_15, li_16, li_17, li_18, li_19, li_20, li_21, li_22, li_23, li_24, li_25, li_26, li_27, li_28, li_29, li_30, li_31, li_32, li_33, li_34, li_35, li_36, li_37, li_38, li_39, li_40, li_41, li_42, li_43, li_44, li_45, li_46, li_47, li_48, li_49, li_50, li_51, li_52, li_53, li_54, li_55, li_56, li_57, li_58, li_59, li_60, li_61, li_62, li_63, li_64, li_65, li_66, li_96, li_97, li_99, li_100, li_122, li_125, li_126, li_140, li_255, li_256, li_999, li_1000, li_1001, li_1002, li_1100, li_1386, li_1452, li_1518, li_9999, li_1000000, x13_spots hg.1, bd_s, hle, ↓reduceIte, f_X13_ask_35]
      refine for3 _ (fun k => nI (cnt (fo1 (aQ A) s) k)) (fun k => nI k) (fun _ => sI v 0 (nI 0)) 0 8 _ ?_ ?_ fu (by omega) (by omega)
      · intro rec2
        have e8 : cnt (fo1 (aQ A) s) 8 = cnt (fo1 (aQ A) s) (qn (aQ A).1) := by
          have := cnt_stop (P := fo1 (aQ A) s) (n := qn (aQ A).1) (fun k hk => by simp [fo1, Nat.not_lt.mpr hk]) (8 - qn (aQ A).1)
          rwa [show qn (aQ A).1 + (8 - qn (aQ A).1) = 8 by omega] at this
        have c1 := cnt_split (aQ A) s _ (Nat.le_refl _)
        have c2 := cnt_le (fitb (aQ A)) (qn (aQ A).1)
        simp (disch := omega) only [f_X13_ask_35s, f_X13_ask_110, f_X13_ask_124, f_X13_ask_137, ↓lm_1, ↓lm_2, ↓lm_3, ↓lm_4, ↓lm_5, ↓lm_6, ↓lm_7, ↓lm_8, ↓lm_9, ↓lm_10, ↓lm_11, li_0, li_1, li_2, li_3, li_4, li_5, li_6, li_7, li_8, li_9, li_10, li_11, li_12, li_13, li_14, li_15, li_16, li_17, li_18, li_19, li_20, li_21, li_22, li_23, li_24, li_25, li_26, li_27, li_28, li_29, li_30, li_31, li_32, li_33, li_34, li_35, li_36, li_37, li_38, li_39, li_40, li_41, li_42, li_43, li_44, li_45, li_46, li_47, li_48, li_49, li_50, li_51, li_52, li_53, li_54, li_55, li_56, li_57, li_58, li_59, li_60, li_61, li_62, li_63, li_64, li_65, li_66, li_96, li_97, li_99, li_100, li_122, li_125, li_126, li_140, li_255, li_256, li_999, li_1000, li_1001, li_1002, li_1100, li_1386, li_1452, li_1518, li_9999, li_1000000, (bits_fit hf hA).2, bd_s, nI_leI, Nat.le_refl, ↓reduceIte, e8, pk_sub, nm_eq, nI_add, ast, grt]
        by_cases c : cnt (fo1 (aQ A) s) (qn (aQ A).1) < cnt (fitb (aQ A)) (qn (aQ A).1) - cnt (fo1 (aQ A) s) (qn (aQ A).1)
        · simp (disch := omega) only [if_pos c, if_pos (Nat.le_of_lt c), nI_leI]
          split <;> rfl
        · simp only [if_neg c]
          by_cases c3 : cnt (fo1 (aQ A) s) (qn (aQ A).1) ≤ cnt (fitb (aQ A)) (qn (aQ A).1) - cnt (fo1 (aQ A) s) (qn (aQ A).1)
          · have c4 : cnt (fitb (aQ A)) (qn (aQ A).1) - cnt (fo1 (aQ A) s) (qn (aQ A).1) = cnt (fo1 (aQ A) s) (qn (aQ A).1) := by omega
            simp (disch := omega) only [if_pos c3, c4, nI_leI]
            by_cases c5 : (ast (aQ A) s).2 ≤ cnt (fo1 (aQ A) s) (qn (aQ A).1)
            · simp only [if_pos c5, ite_self]
            · simp only [if_neg c5, ite_self]; rfl
          · simp (disch := omega) only [if_neg c3, nI_leI]
            split <;> rfl
      · intro k rec2 _ hk
        have hle2 : ¬ nI 8 ≤ nI k := nI_ge hk (by omega)
        have hl := fitb_lt (aQ A) h8
        have hbt := bt_lt (setb (fitb (aQ A)) (qn (aQ A).1)) k
        by_cases hkn : k < qn (aQ A).1
        · have b1 := (hQ.1.2.1 k hkn).1
          have hbt2 := bt_lt (qo (aQ A).1 k) s
          simp (disch := omega) only [f_X13_ask_35s, f_X13_ask_76, f_X13_ask_77, ↓lm_1, ↓lm_2, ↓lm_3, ↓lm_4, ↓lm_5, ↓lm_6, ↓lm_7, ↓lm_8, ↓lm_9, ↓lm_10, ↓lm_11, li_0, li_1, li_2, li_3, li_4, li_5, li_6, li_7, li_8, li_9, li_10, li_11, li_12, li_13, li_14, li_15, li_16, li_17, li_18, li_19, li_20, li_21, li_22, li_23, li_24, li_25, li_26, li_27, li_28, li_29, li_30, li_31, li_32, li_33, li_34, li_35, li_36, li_37, li_38, li_39, li_40, li_41, li_42, li_43, li_44, li_45, li_46, li_47, li_48, li_49, li_50, li_51, li_52, li_53, li_54, li_55, li_56, li_57, li_58, li_59, li_60, li_61, li_62, li_63, li_64, li_65, li_66, li_96, li_97, li_99, li_100, li_122, li_125, li_126, li_140, li_255, li_256, li_999, li_1000, li_1001, li_1002, li_1100, li_1386, li_1452, li_1518, li_9999, li_1000000, hle2, ↓reduceIte, nI_and31, nI_bt, nI_eq, nm_eq, nI_add, inb_n, ck_t, nI_clamp, (hh.1.2.2.2.1 k hkn).1, cnt, fo1, hkn, decide_true, Bool.true_and, Bool.and_eq_true, decide_eq_true_eq]
          rw [bt_setb]
          by_cases e : fitb (aQ A) k = true
          · simp only [hkn, e, and_self, ↓reduceIte, true_and]
            split <;> rfl
          · simp only [hkn, e, and_false, ↓reduceIte, false_and, Nat.zero_ne_one]; rfl
        · simp (disch := omega) only [f_X13_ask_35s, f_X13_ask_76, f_X13_ask_77, ↓lm_1, ↓lm_2, ↓lm_3, ↓lm_4, ↓lm_5, ↓lm_6, ↓lm_7, ↓lm_8, ↓lm_9, ↓lm_10, ↓lm_11, li_0, li_1, li_2, li_3, li_4, li_5, li_6, li_7, li_8, li_9, li_10, li_11, li_12, li_13, li_14, li_15, li_16, li_17, li_18, li_19, li_20, li_21, li_22, li_23, li_24, li_25, li_26, li_27, li_28, li_29, li_30, li_31, li_32, li_33, li_34, li_35, li_36, li_37, li_38, li_39, li_40, li_41, li_42, li_43, li_44, li_45, li_46, li_47, li_48, li_49, li_50, li_51, li_52, li_53, li_54, li_55, li_56, li_57, li_58, li_59, li_60, li_61, li_62, li_63, li_64, li_65, li_66, li_96, li_97, li_99, li_100, li_122, li_125, li_126, li_140, li_255, li_256, li_999, li_1000, li_1001, li_1002, li_1100, li_1386, li_1452, li_1518, li_9999, li_1000000, hle2, ↓reduceIte, nI_and31, nI_bt, nI_eq, nm_eq, nI_add, cnt, fo1, hkn, decide_false, Bool.false_and, Bool.false_eq_true]
          rw [bt_setb]
          simp only [hkn, false_and, ↓reduceIte, Nat.zero_ne_one]; rfl
theorem r_price (hf : 1101 ≤ fu) (h : RR p S v) : ∃ z S' v', f_X12_price fu S p = some (z, S') ∧ f_X13_price fu v = some (z, v') ∧ RR p S' v' := by
  obtain ⟨A, hA, hC, hM⟩ := h
  obtain ⟨t, d, ln, dl, f, hP, hK⟩ := id hC
  have hc := hP.1.2.2.1
  have hct := hP.2.1.1
  have hrt := hP.2.2.2.2.1.1
  have hw := hK.1
  have hgc := hK.2.1
  have hG := hA.1
  have hQ := hA.2.1
  have h8 := hQ.1.1.2.1
  have hh : MHL (gA (sI v 0 (nI 0)) 24) (aQ A) := hM.2.2.1
  have hg : MG (sI v 0 (nI 0)) (aG A) := hM.2.1
  have hm0 : mscr v (sI v 0 (nI 0)) := mscr_sI (mscr_refl v) (by decide) (by decide) (by decide)
  have hcl := cnt_le (fitb (aQ A)) (qn (aQ A).1)
  obtain ⟨rC, ⟨S', eC, hlw⟩, eC2⟩ := lpI4 (fun k6 => f_X12_price_6s fu k6 p) (fun k x1 x2 x3 S1 => x1 = psm (aG A) (aQ A) k ∧ x2 = nI (cnt (fitb (aQ A)) k) ∧ x3 = nI k ∧ lw S S1) (fun r => ∃ S1, r = some (if cnt (fitb (aQ A)) (qn (aQ A).1) = 0 then mI 1 else psm (aG A) (aQ A) (qn (aQ A).1) * nI 1000 / nI (cnt (fitb (aQ A)) (qn (aQ A).1)), S1) ∧ lw S S1) (qn (aQ A).1) (by
    rintro x1 x2 x3 S1 ⟨rfl, rfl, rfl, hl⟩
    have e9 := lw_at hl (b := p + 9) (by rw [hc]; decide)
    refine ⟨_, ⟨S1, rfl, hl⟩, fun rec => ?_⟩
    simp (disch := omega) only [f_X12_price_6s, ↓lm_1, ↓lm_2, ↓lm_3, ↓lm_4, ↓lm_5, ↓lm_6, ↓lm_7, ↓lm_8, ↓lm_9, ↓lm_10, ↓lm_11, li_0, li_1, li_2, li_3, li_4, li_5, li_6, li_7, li_8, li_9, li_10, li_11, li_12, li_13, li_14, li_15, li_16, li_17, li_18, li_19, li_20, li_21, li_22, li_23, li_24, li_25, li_26, li_27, li_28, li_29, li_30, li_31, li_32, li_33, li_34, li_35, li_36, li_37, li_38, li_39, li_40, li_41, li_42, li_43, li_44, li_45, li_46, li_47, li_48, li_49, li_50, li_51, li_52, li_53, li_54, li_55, li_56, li_57, li_58, li_59, li_60, li_61, li_62, li_63, li_64, li_65, li_66, li_96, li_97, li_99, li_100, li_122, li_125, li_126, li_140, li_255, li_256, li_999, li_1000, li_1001, li_1002, li_1100, li_1386, li_1452, li_1518, li_9999, li_1000000, e9, hc, decide_true, ck_t, hw.1.2.2.1, nI_leI, Nat.le_refl, ↓reduceIte, nI_eq]
    by_cases c : cnt (fitb (aQ A)) (qn (aQ A).1) = 0
    · rw [if_pos c, if_pos c]
    · rw [if_neg c, if_neg c]
      simp only [c, not_false_eq_true, decide_true, ck_t]) (by
    rintro k x1 x2 x3 S1 hk ⟨rfl, rfl, rfl, hl⟩
    have e9 := lw_at hl (b := p + 9) (by rw [hc]; decide)
    have ep := lw_at hl (b := p) (by rw [hP.1.1]; decide)
    have et := lw_at hl (b := t) (by rw [hct]; decide)
    have hle : ¬ nI (qn (aQ A).1) ≤ nI k := nI_ge hk (by omega)
    have hw1 : CHL (S1 (p + 9)) (aQ A) := by rw [e9]; exact hw
    left
    by_cases c : fitb (aQ A) k = true
    · obtain ⟨S2, e2, hl2⟩ := x3_worthOf (S := S1) hf hw1.1 hQ.1 (CG_lw hgc hl) hk
      refine ⟨_, _, _, S2, ⟨rfl, rfl, rfl, lw_trans hl hl2⟩, fun rec => ?_⟩
      simp (disch := omega) only [f_X12_price_6s, f_X12_price_46, ↓lm_1, ↓lm_2, ↓lm_3, ↓lm_4, ↓lm_5, ↓lm_6, ↓lm_7, ↓lm_8, ↓lm_9, ↓lm_10, ↓lm_11, li_0, li_1, li_2, li_3, li_4, li_5, li_6, li_7, li_8, li_9, li_10, li_11, li_12, li_13, li_14, li_15, li_16, li_17, li_18, li_19, li_20, li_21, li_22, li_23, li_24, li_25, li_26, li_27, li_28, li_29, li_30, li_31, li_32, li_33, li_34, li_35, li_36, li_37, li_38, li_39, li_40, li_41, li_42, li_43, li_44, li_45, li_46, li_47, li_48, li_49, li_50, li_51, li_52, li_53, li_54, li_55, li_56, li_57, li_58, li_59, li_60, li_61, li_62, li_63, li_64, li_65, li_66, li_96, li_97, li_99, li_100, li_122, li_125, li_126, li_140, li_255, li_256, li_999, li_1000, li_1001, li_1002, li_1100, li_1386, li_1452, li_1518, li_9999, li_1000000, hw1.1.1, decide_true, ck_t, hw1.1.2.2.1, hle, ↓reduceIte, x3_isFitting hG hQ hw1 hk, b01, c, bd_s, n10, ep, hrt, et, hct, e2, bd2_s, nm_eq, nI_add, psm, cnt, hk, and_self]
    · refine ⟨_, _, _, S1, ⟨rfl, rfl, rfl, hl⟩, fun rec => ?_⟩
      simp (disch := omega) only [f_X12_price_6s, f_X12_price_46, ↓lm_1, ↓lm_2, ↓lm_3, ↓lm_4, ↓lm_5, ↓lm_6, ↓lm_7, ↓lm_8, ↓lm_9, ↓lm_10, ↓lm_11, li_0, li_1, li_2, li_3, li_4, li_5, li_6, li_7, li_8, li_9, li_10, li_11, li_12, li_13, li_14, li_15, li_16, li_17, li_18, li_19, li_20, li_21, li_22, li_23, li_24, li_25, li_26, li_27, li_28, li_29, li_30, li_31, li_32, li_33, li_34, li_35, li_36, li_37, li_38, li_39, li_40, li_41, li_42, li_43, li_44, li_45, li_46, li_47, li_48, li_49, li_50, li_51, li_52, li_53, li_54, li_55, li_56, li_57, li_58, li_59, li_60, li_61, li_62, li_63, li_64, li_65, li_66, li_96, li_97, li_99, li_100, li_122, li_125, li_126, li_140, li_255, li_256, li_999, li_1000, li_1001, li_1002, li_1100, li_1386, li_1452, li_1518, li_9999, li_1000000, hw1.1.1, decide_true, ck_t, hw1.1.2.2.1, hle, ↓reduceIte, x3_isFitting hG hQ hw1 hk, b01, c, bd_s, nm_eq, nI_add, psm, cnt, and_false, Bool.false_eq_true]) fu 0 (nI 0) (nI 0) (nI 0) S ⟨rfl, rfl, rfl, lw_refl S⟩ (by omega) (by omega)
  obtain ⟨rM, ⟨v', eM, hmv⟩, eM2⟩ := lpI3 (fun k14 => f_X13_price_14s fu k14 (nI (setb (fitb (aQ A)) (qn (aQ A).1)))) (fun k x2 x3 v1 => x2 = psm (aG A) (aQ A) k ∧ x3 = nI k ∧ mscr v v1 ∧ MG v1 (aG A) ∧ gA v1 24 = gA v 24) (fun r => ∃ v1, r = some (if cnt (fitb (aQ A)) (qn (aQ A).1) = 0 then mI 1 else psm (aG A) (aQ A) (qn (aQ A).1) * nI 1000 / nI (cnt (fitb (aQ A)) (qn (aQ A).1)), v1) ∧ mscr v v1) 8 (by
    rintro x2 x3 v1 ⟨rfl, rfl, hm, _, _⟩
    have e8 : psm (aG A) (aQ A) 8 = psm (aG A) (aQ A) (qn (aQ A).1) := by
      have := psm_stop (aG A) (aQ A) (8 - qn (aQ A).1)
      rwa [show qn (aQ A).1 + (8 - qn (aQ A).1) = 8 by omega] at this
    have hl := fitb_lt (aQ A) h8
    have ez : setb (fitb (aQ A)) (qn (aQ A).1) = 0 ↔ cnt (fitb (aQ A)) (qn (aQ A).1) = 0 := by
      rw [← pcn_setb (fitb (aQ A)) (n := qn (aQ A).1) (by omega)]
      have h2 : (List.range 256).all (fun x => decide (x = 0 ↔ pcn x = 0)) = true := by decide +kernel
      exact co_dec h2 hl
    refine ⟨_, ⟨v1, rfl, hm⟩, fun rec => ?_⟩
    simp (disch := omega) only [f_X13_price_14s, ↓lm_1, ↓lm_2, ↓lm_3, ↓lm_4, ↓lm_5, ↓lm_6, ↓lm_7, ↓lm_8, ↓lm_9, ↓lm_10, ↓lm_11, li_0, li_1, li_2, li_3, li_4, li_5, li_6, li_7, li_8, li_9, li_10, li_11, li_12, li_13, li_14, li_15, li_16, li_17, li_18, li_19, li_20, li_21, li_22, li_23, li_24, li_25, li_26, li_27, li_28, li_29, li_30, li_31, li_32, li_33, li_34, li_35, li_36, li_37, li_38, li_39, li_40, li_41, li_42, li_43, li_44, li_45, li_46, li_47, li_48, li_49, li_50, li_51, li_52, li_53, li_54, li_55, li_56, li_57, li_58, li_59, li_60, li_61, li_62, li_63, li_64, li_65, li_66, li_96, li_97, li_99, li_100, li_122, li_125, li_126, li_140, li_255, li_256, li_999, li_1000, li_1001, li_1002, li_1100, li_1386, li_1452, li_1518, li_9999, li_1000000, nI_leI, Nat.le_refl, ↓reduceIte, nI_eq, (bits_fit hf hA).2, bd_s, e8]
    by_cases c : cnt (fitb (aQ A)) (qn (aQ A).1) = 0
    · rw [if_pos c, if_pos (ez.mpr c)]
    · rw [if_neg c, if_neg (fun z => c (ez.mp z))]
      simp only [c, not_false_eq_true, decide_true, ck_t]) (by
    rintro k x2 x3 v1 hk ⟨rfl, rfl, hm, hg1, e24⟩
    have hle2 : ¬ nI 8 ≤ nI k := nI_ge hk (by omega)
    have hl := fitb_lt (aQ A) h8
    have hbt := bt_lt (setb (fitb (aQ A)) (qn (aQ A).1)) k
    have hbs := bt_setb (fitb (aQ A)) (qn (aQ A).1) k
    have hh1 : MH (gA v1 24) (aQ A).1 := by rw [e24]; exact hM.2.2.1.1
    left
    by_cases c : k < qn (aQ A).1 ∧ fitb (aQ A) k = true
    · obtain ⟨F, P, e2⟩ := m0_worthOf hf hg1 hh1 hQ.1 c.1
      rw [if_pos c] at hbs
      refine ⟨_, _, _, ⟨rfl, rfl, mscr_mv0 hm (F := F) (P := P), MG_mv hg1, ?_⟩, fun rec => ?_⟩
      · rw [mv, mb, gA_sAf]
        funext x
        simp only [bk48, gA_sAfn _ _ (show (24 : Nat) ≠ 23 by decide), gA_sAfn _ _ (show (24 : Nat) ≠ 22 by decide)]
        split
        · simp only [Nat.sub_zero]; rw [e24]
        · rw [e24]
      · simp (disch := omega) only [f_X13_price_14s, f_X13_price_40, ↓lm_1, ↓lm_2, ↓lm_3, ↓lm_4, ↓lm_5, ↓lm_6, ↓lm_7, ↓lm_8, ↓lm_9, ↓lm_10, ↓lm_11, li_0, li_1, li_2, li_3, li_4, li_5, li_6, li_7, li_8, li_9, li_10, li_11, li_12, li_13, li_14, li_15, li_16, li_17, li_18, li_19, li_20, li_21, li_22, li_23, li_24, li_25, li_26, li_27, li_28, li_29, li_30, li_31, li_32, li_33, li_34, li_35, li_36, li_37, li_38, li_39, li_40, li_41, li_42, li_43, li_44, li_45, li_46, li_47, li_48, li_49, li_50, li_51, li_52, li_53, li_54, li_55, li_56, li_57, li_58, li_59, li_60, li_61, li_62, li_63, li_64, li_65, li_66, li_96, li_97, li_99, li_100, li_122, li_125, li_126, li_140, li_255, li_256, li_999, li_1000, li_1001, li_1002, li_1100, li_1386, li_1452, li_1518, li_9999, li_1000000, hle2, ↓reduceIte, nI_and31, nI_bt, hbs, e2, bd2_s, nm_eq, nI_add, psm, c, and_self]
    · rw [if_neg c] at hbs
      refine ⟨_, _, _, ⟨rfl, rfl, hm, hg1, e24⟩, fun rec => ?_⟩
      have e0 : psm (aG A) (aQ A) k + nI 0 = psm (aG A) (aQ A) k := Int32.add_zero _
      have n01 : ¬ nI 0 = nI 1 := by decide
      simp (disch := omega) only [f_X13_price_14s, f_X13_price_40, ↓lm_1, ↓lm_2, ↓lm_3, ↓lm_4, ↓lm_5, ↓lm_6, ↓lm_7, ↓lm_8, ↓lm_9, ↓lm_10, ↓lm_11, li_0, li_1, li_2, li_3, li_4, li_5, li_6, li_7, li_8, li_9, li_10, li_11, li_12, li_13, li_14, li_15, li_16, li_17, li_18, li_19, li_20, li_21, li_22, li_23, li_24, li_25, li_26, li_27, li_28, li_29, li_30, li_31, li_32, li_33, li_34, li_35, li_36, li_37, li_38, li_39, li_40, li_41, li_42, li_43, li_44, li_45, li_46, li_47, li_48, li_49, li_50, li_51, li_52, li_53, li_54, li_55, li_56, li_57, li_58, li_59, li_60, li_61, li_62, li_63, li_64, li_65, li_66, li_96, li_97, li_99, li_100, li_122, li_125, li_126, li_140, li_255, li_256, li_999, li_1000, li_1001, li_1002, li_1100, li_1386, li_1452, li_1518, li_9999, li_1000000, hle2, ↓reduceIte, nI_and31, nI_bt, hbs, n01, nm_eq, nI_add, psm, c, e0]) fu 0 (nI 0) (nI 0) (sI v 0 (nI 0)) ⟨rfl, rfl, hm0, hg, rfl⟩ (by omega) (by omega)
  refine ⟨(if cnt (fitb (aQ A)) (qn (aQ A).1) = 0 then mI 1 else psm (aG A) (aQ A) (qn (aQ A).1) * nI 1000 / nI (cnt (fitb (aQ A)) (qn (aQ A).1))), S', v', ?_, ?_, RR_q hA hC hM (scr_lw hlw (by rw [hP.1.1]; decide)) hmv⟩
  rotate_left
  · simp only [f_X13_price, f_X13_price_0, f_X13_price_14, ↓lm_1, ↓lm_2, ↓lm_3, ↓lm_4, ↓lm_5, ↓lm_6, ↓lm_7, ↓lm_8, ↓lm_9, ↓lm_10, ↓lm_11, li_0, li_1, li_2, li_3, li_4, li_5, li_6, li_7, li_8, li_9, li_10, li_11, li_12, li_13, li_14, li_15, li_16, li_17, li_18, li_19, li_20, li_21, li_22, li_23, li_24, li_25, li_26, li_27, li_28, li_29, li_30, li_31, li_32, li_33, li_34, li_35, li_36, li_37, li_38, li_39, li_40, li_41, li_42, li_43, li_44, li_45, li_46, li_47, li_48, li_49, li_50, li_51, li_52, li_53, li_54, li_55, li_56, li_57, li_58, li_59, li_60, li_61, li_62, li_63, li_64, li_65, li_66, li_96, li_97, li_99, li_100, li_122, li_125, li_126, li_140, li_255, li_256, li_999, li_1000, li_1001, li_1002, li_1100, li_1386, li_1452, li_1518, li_9999, li_1000000, nm_eq, m_fitting hf hA hh, bd_s]
    rw [eM2, eM]
  · simp only [f_X12_price, f_X12_price_0, f_X12_price_6, ↓lm_1, ↓lm_2, ↓lm_3, ↓lm_4, ↓lm_5, ↓lm_6, ↓lm_7, ↓lm_8, ↓lm_9, ↓lm_10, ↓lm_11, li_0, li_1, li_2, li_3, li_4, li_5, li_6, li_7, li_8, li_9, li_10, li_11, li_12, li_13, li_14, li_15, li_16, li_17, li_18, li_19, li_20, li_21, li_22, li_23, li_24, li_25, li_26, li_27, li_28, li_29, li_30, li_31, li_32, li_33, li_34, li_35, li_36, li_37, li_38, li_39, li_40, li_41, li_42, li_43, li_44, li_45, li_46, li_47, li_48, li_49, li_50, li_51, li_52, li_53, li_54, li_55, li_56, li_57, li_58, li_59, li_60, li_61, li_62, li_63, li_64, li_65, li_66, li_96, li_97, li_99, li_100, li_122, li_125, li_126, li_140, li_255, li_256, li_999, li_1000, li_1001, li_1002, li_1100, li_1386, li_1452, li_1518, li_9999, li_1000000]
    rw [eC2, eC]
end Q
