/-! ===== the tape cut into tokens, by the class and by the model ===== -/
abbrev KT : Type := Nat × (Nat → Nat) × (Nat → Nat) × (Nat → Nat)
def kN (K : KT) : Nat := K.1
def kK (K : KT) : Nat → Nat := K.2.1
def kP (K : KT) : Nat → Nat := K.2.2.1
def kV (K : KT) : Nat → Nat := K.2.2.2
/-- the class's kind of a token -/
def ckd (k c : Nat) : Nat := if k = 0 then 0 else if k = 1 then (if 1 ≤ wi c ∧ wi c ≤ 25 then 3 else 2) else if k = 2 then 4 else if k = 3 then 5 else 1
def okt (k p c : Nat) : Prop := k ≤ 4 ∧ p ≤ 1000 ∧ (k = 1 → wdv c = true ∧ c ≠ 0) ∧ (k = 2 → c < 10000) ∧ (k = 3 → c < 128)
def CKt (w : GV) (i k p c : Nat) : Prop := gA w 1 i = nI (ckd k c) ∧ gA w 2 i = nI p ∧ (k = 1 ∨ k = 2 ∨ k = 3 → gL w 3 i = lN c)
def MKt (v : GV) (i k p c : Nat) : Prop := gA v 4 i = nI k ∧ gA v 5 i = nI p ∧ (k = 1 ∨ k = 2 ∨ k = 3 → gL v 6 i = lN (if k = 1 then cv c else c))
def okK (K : KT) : Prop := kN K ≤ 1000 ∧ kK K (kN K) = 0 ∧ ∀ i, i ≤ kN K → okt (kK K i) (kP K i) (kV K i) ∧ (i < kN K → kK K i ≠ 0)
def CK (w : GV) (K : KT) (a fl : Nat) : Prop := gC w = 8 ∧ gI w 5 = nI a ∧ gI w 7 = nI fl ∧ ∀ i, i ≤ kN K → CKt w i (kK K i) (kP K i) (kV K i)
def MK (v : GV) (K : KT) (a fl : Nat) : Prop := gI v 7 = nI a ∧ gI v 8 = nI fl ∧ ∀ i, i ≤ kN K → MKt v i (kK K i) (kP K i) (kV K i)
/-- of the model only tokens have changed -/
def mcu (v v' : GV) : Prop := (∀ k, k ≠ 4 → k ≠ 5 → gA v' k = gA v k) ∧ (∀ k, k ≠ 7 → k ≠ 8 → gI v' k = gI v k) ∧ (∀ k, k ≠ 6 → gL v' k = gL v k) ∧ gC v' = gC v
theorem mcu_refl (v : GV) : mcu v v := ⟨fun _ _ _ => rfl, fun _ _ _ => rfl, fun _ _ => rfl, rfl⟩
theorem mcu_trans {v v' w : GV} (h : mcu v v') (k : mcu v' w) : mcu v w := ⟨fun j a b => (k.1 j a b).trans (h.1 j a b), fun j a b => (k.2.1 j a b).trans (h.2.1 j a b), fun j a => (k.2.2.1 j a).trans (h.2.2.1 j a), k.2.2.2.trans h.2.2.2⟩
def tcu (w w' : GV) : Prop := gA w' 0 = gA w 0 ∧ gI w' 6 = gI w 6 ∧ gC w' = gC w
/-- one token more -/
def atk (w : GV) (m : Nat) (x p : Int32) (z : Int64) : GV := sI (sL (sA (sA w 1 m x) 2 m p) 3 m z) 4 (nI (m + 1))
def mtk (v : GV) (m : Nat) (x p : Int32) (z : Int64) : GV := sL (sA (sA v 5 m p) 4 m x) 6 m z
theorem x8_addToken {fu m : Nat} {w : GV} {x p : Int32} {z : Int64} (h : gI w 4 = nI m) (hm : m < 1001) : f_X8_addToken fu w x p z = some (atk w m x p z) := by
  have e : ¬ nI 1001 ≤ nI m := nI_ge hm (by omega)
  simp (disch := omega) only [f_X8_addToken, f_X8_addToken_0, ↓lm_1, ↓lm_2, ↓lm_3, ↓lm_4, ↓lm_5, ↓lm_6, ↓lm_7, ↓lm_8, ↓lm_9, ↓lm_10, ↓lm_11, li_0, li_1, li_2, li_3, li_4, li_5, li_6, li_7, li_8, li_9, li_10, li_11, li_12, li_13, li_14, li_15, li_16, li_17, li_18, li_19, li_20, li_21, li_22, li_23, li_24, li_25, li_26, li_27, li_28, li_29, li_30, li_31, li_32, li_33, li_34, li_35, li_36, li_37, li_38, li_39, li_40, li_41, li_42, li_43, li_44, li_45, li_46, li_47, li_48, li_49, li_50, li_51, li_52, li_53, li_54, li_55, li_56, li_57, li_58, li_59, li_60, li_61, li_62, li_63, li_64, li_65, li_66, li_96, li_97, li_99, li_100, li_122, li_125, li_126, li_140, li_255, li_256, li_999, li_1000, li_1001, li_1002, li_1100, li_1386, li_1452, li_1518, li_9999, li_1000000, h, e, ↓reduceIte, inb_n, ck_t, nI_clamp, nm_eq, gI_sA, gI_sL, nI_add, atk]
theorem atk_t {w : GV} {m i k p c : Nat} {x y : Int32} {z : Int64} (h : CKt w i k p c) (hi : i < m) : CKt (atk w m x y z) i k p c := by
  obtain ⟨h1, h2, h3⟩ := h
  refine ⟨?_, ?_, fun q => ?_⟩
  · rw [atk, gA_sI, gA_sL, gA_sAn _ _ _ (by decide), gA_sA, if_neg (by omega)]; exact h1
  · rw [atk, gA_sI, gA_sL, gA_sA, if_neg (by omega), gA_sAn _ _ _ (by decide)]; exact h2
  · rw [atk, gL_sI, gL_sL, if_neg (by omega)]; exact h3 q
theorem atk_n {w : GV} {m k p c : Nat} {z : Int64} (h : k = 1 ∨ k = 2 ∨ k = 3 → z = lN c) : CKt (atk w m (nI (ckd k c)) (nI p) z) m k p c := by
  refine ⟨?_, ?_, fun q => ?_⟩
  · rw [atk, gA_sI, gA_sL, gA_sAn _ _ _ (by decide), gA_sA, if_pos rfl]
  · rw [atk, gA_sI, gA_sL, gA_sA, if_pos rfl]
  · rw [atk, gL_sI, gL_sL, if_pos rfl]; exact h q
theorem atk_u (w : GV) (m : Nat) (x p : Int32) (z : Int64) : tcu w (atk w m x p z) ∧ gI (atk w m x p z) 4 = nI (m + 1) ∧ gI (atk w m x p z) 5 = gI w 5 ∧ gI (atk w m x p z) 7 = gI w 7 := by
  refine ⟨⟨?_, ?_, rfl⟩, ?_, ?_, ?_⟩
  · rw [atk, gA_sI, gA_sL, gA_sAn _ _ _ (by decide), gA_sAn _ _ _ (by decide)]
  · rw [atk, gI_sI, if_neg (by decide)]; rfl
  · rw [atk, gI_sI, if_pos rfl]
  · rw [atk, gI_sI, if_neg (by decide)]; rfl
  · rw [atk, gI_sI, if_neg (by decide)]; rfl
theorem mtk_t {v : GV} {m i k p c : Nat} {x y : Int32} {z : Int64} (h : MKt v i k p c) (hi : i < m) : MKt (mtk v m x y z) i k p c := by
  obtain ⟨h1, h2, h3⟩ := h
  refine ⟨?_, ?_, fun q => ?_⟩
  · rw [mtk, gA_sL, gA_sA, if_neg (by omega), gA_sAn _ _ _ (by decide)]; exact h1
  · rw [mtk, gA_sL, gA_sAn _ _ _ (by decide), gA_sA, if_neg (by omega)]; exact h2
  · rw [mtk, gL_sL, if_neg (by omega)]; exact h3 q
theorem mtk_n {v : GV} {m k p c : Nat} {z : Int64} (h : k = 1 ∨ k = 2 ∨ k = 3 → z = lN (if k = 1 then cv c else c)) : MKt (mtk v m (nI k) (nI p) z) m k p c := by
  refine ⟨?_, ?_, fun q => ?_⟩
  · rw [mtk, gA_sL, gA_sA, if_pos rfl]
  · rw [mtk, gA_sL, gA_sAn _ _ _ (by decide), gA_sA, if_pos rfl]
  · rw [mtk, gL_sL, if_pos rfl]; exact h q
theorem mtk_u (v : GV) (m : Nat) (x p : Int32) (z : Int64) : mcu v (mtk v m x p z) := by
  refine ⟨fun k a b => ?_, fun k _ _ => rfl, fun k a => ?_, rfl⟩
  · rw [mtk, gA_sL, gA_sAn _ _ _ (by omega), gA_sAn _ _ _ (by omega)]
  · rw [mtk, gL_sLn _ _ _ a]; rfl
theorem l_32 : (32 : Int64) = lN 32 := by decide
theorem l_37 : (37 : Int64) = lN 37 := by decide
theorem l_10 : (10 : Int64) = lN 10 := by decide
theorem l_48 : (48 : Int64) = lN 48 := by decide
theorem wrs_0 {r : Nat} (h : r < 30) : wrs.getD r (nI 0) = nI 0 ↔ ¬ (1 ≤ r ∧ r ≤ 25) := by
  have h2 : (List.range 30).all (fun r => decide (wrs.getD r (nI 0) = nI 0 ↔ ¬ (1 ≤ r ∧ r ≤ 25))) = true := by decide +kernel
  exact co_dec h2 h
section CUT
variable {fu : Nat} {T : TP}
/-- a run of letters, by the class -/
theorem x8_word (hf : 1101 ≤ fu) (hT : okT T) {w : GV} (h6 : gI w 6 = nI T.1) (h0 : ∀ j, j < T.1 → gA w 0 j = nI (T.2 j)) {k m L : Nat} (hk : k < T.1) (h4 : gI w 4 = nI m) (hm : m < 1001) (hL : L = rl (fun i => isl (T.2 i)) T.1 (T.1 - k) k) : ∃ z, (L ≤ 8 → z = lN (pkd T.2 k L)) ∧ f_X8_scanWord fu w (nI k) = some (nI (k + L), atk w m (nI (ckd (if L ≤ 8 then 1 else 4) (pkd T.2 k L))) (nI k) z) := by
  have hle := rl_le (fun i => isl (T.2 i)) T.1 (T.1 - k) k (by omega)
  have hin := rl_in (fun i => isl (T.2 i)) T.1 (T.1 - k) k
  have hend := rl_end (fun i => isl (T.2 i)) T.1 (T.1 - k) k (by omega)
  rw [← hL] at hle hin hend
  have hT1 := hT.1
  have hch : ∀ j, j < T.1 → T.2 j < 128 := fun j hj => by have := hT.2 j hj; omega
  refine ⟨lN (pkd T.2 k L), fun _ => rfl, ?_⟩
  have fin : f_X8_scanWord_45 fu w (nI k) (lN (pkd T.2 k L)) (nI (k + L)) = some (nI (k + L), atk w m (nI (ckd (if L ≤ 8 then 1 else 4) (pkd T.2 k L))) (nI k) (lN (pkd T.2 k L))) := by
    by_cases c : L ≤ 8
    · have hw : wdv (pkd T.2 k L) = true := wdk_le (pkd_w L (fun i hi => (hin i hi).2)) c
      have hl := wdk_lt 8 _ hw
      have c8 : ¬ nI 8 < nI (k + L) - nI k := by rw [pk_sub (by omega), show k + L - k = L by omega]; exact nI_nlt c (by omega)
      have hr := wi_lt (pkd T.2 k L)
      have r0 := wrs_0 hr
      rw [if_pos c]
      simp only [f_X8_scanWord_45, f_X8_scanWord_60, f_X8_scanWord_78, ↓lm_1, ↓lm_2, ↓lm_3, ↓lm_4, ↓lm_5, ↓lm_6, ↓lm_7, ↓lm_8, ↓lm_9, ↓lm_10, ↓lm_11, li_0, li_1, li_2, li_3, li_4, li_5, li_6, li_7, li_8, li_9, li_10, li_11, li_12, li_13, li_14, li_15, li_16, li_17, li_18, li_19, li_20, li_21, li_22, li_23, li_24, li_25, li_26, li_27, li_28, li_29, li_30, li_31, li_32, li_33, li_34, li_35, li_36, li_37, li_38, li_39, li_40, li_41, li_42, li_43, li_44, li_45, li_46, li_47, li_48, li_49, li_50, li_51, li_52, li_53, li_54, li_55, li_56, li_57, li_58, li_59, li_60, li_61, li_62, li_63, li_64, li_65, li_66, li_96, li_97, li_99, li_100, li_122, li_125, li_126, li_140, li_255, li_256, li_999, li_1000, li_1001, li_1002, li_1100, li_1386, li_1452, li_1518, li_9999, li_1000000, x10_of hf (show pkd T.2 k L < 1099511627776 from hl), bd_s, hr, decide_true, ck_t, c8, ↓reduceIte, x8_addToken h4 hm]
      simp only [ckd, Nat.one_ne_zero, ↓reduceIte]
      by_cases q : 1 ≤ wi (pkd T.2 k L) ∧ wi (pkd T.2 k L) ≤ 25
      · rw [if_neg (fun z => r0.mp z q), if_pos q]
      · rw [if_pos (r0.mpr q), if_neg q]
    · obtain ⟨r, hr, er⟩ := x10_any (fu := fu) hf (lN (pkd T.2 k L))
      have c8 : nI 8 < nI (k + L) - nI k := by rw [pk_sub (by omega), show k + L - k = L by omega]; exact nI_lt (by omega) (by omega)
      rw [if_neg c]
      simp only [f_X8_scanWord_45, f_X8_scanWord_60, f_X8_scanWord_78, ↓lm_1, ↓lm_2, ↓lm_3, ↓lm_4, ↓lm_5, ↓lm_6, ↓lm_7, ↓lm_8, ↓lm_9, ↓lm_10, ↓lm_11, li_0, li_1, li_2, li_3, li_4, li_5, li_6, li_7, li_8, li_9, li_10, li_11, li_12, li_13, li_14, li_15, li_16, li_17, li_18, li_19, li_20, li_21, li_22, li_23, li_24, li_25, li_26, li_27, li_28, li_29, li_30, li_31, li_32, li_33, li_34, li_35, li_36, li_37, li_38, li_39, li_40, li_41, li_42, li_43, li_44, li_45, li_46, li_47, li_48, li_49, li_50, li_51, li_52, li_53, li_54, li_55, li_56, li_57, li_58, li_59, li_60, li_61, li_62, li_63, li_64, li_65, li_66, li_96, li_97, li_99, li_100, li_122, li_125, li_126, li_140, li_255, li_256, li_999, li_1000, li_1001, li_1002, li_1100, li_1386, li_1452, li_1518, li_9999, li_1000000, er, bd_s, hr, decide_true, ck_t, c8, ↓reduceIte, x8_addToken h4 hm, ite_self]
      rfl
  have e0 : f_X8_scanWord fu w (nI k) = f_X8_scanWord_5 fu fu (nI k) (lN (pkd T.2 k 0)) (nI (k + 0)) w := by
    simp only [f_X8_scanWord, f_X8_scanWord_0, pkd, Nat.add_zero, ll_0]
  rw [e0, f_X8_scanWord_5, ← fin]
  refine for3 _ (fun j => lN (pkd T.2 k j)) (fun j => nI (k + j)) (fun _ => w) 0 L _ ?_ ?_ fu (by omega) (by omega)
  · intro rec
    by_cases c : k + L < T.1
    · have hnl : isl (T.2 (k + L)) = false := by
        cases q : isl (T.2 (k + L))
        · rfl
        · exact absurd ⟨c, q⟩ hend
      have c1 : ¬ nI T.1 ≤ nI (k + L) := nI_ge c (by omega)
      simp (disch := omega) only [f_X8_scanWord_5s, ↓lm_1, ↓lm_2, ↓lm_3, ↓lm_4, ↓lm_5, ↓lm_6, ↓lm_7, ↓lm_8, ↓lm_9, ↓lm_10, ↓lm_11, li_0, li_1, li_2, li_3, li_4, li_5, li_6, li_7, li_8, li_9, li_10, li_11, li_12, li_13, li_14, li_15, li_16, li_17, li_18, li_19, li_20, li_21, li_22, li_23, li_24, li_25, li_26, li_27, li_28, li_29, li_30, li_31, li_32, li_33, li_34, li_35, li_36, li_37, li_38, li_39, li_40, li_41, li_42, li_43, li_44, li_45, li_46, li_47, li_48, li_49, li_50, li_51, li_52, li_53, li_54, li_55, li_56, li_57, li_58, li_59, li_60, li_61, li_62, li_63, li_64, li_65, li_66, li_96, li_97, li_99, li_100, li_122, li_125, li_126, li_140, li_255, li_256, li_999, li_1000, li_1001, li_1002, li_1100, li_1386, li_1452, li_1518, li_9999, li_1000000, h6, c1, ↓reduceIte, inb_n, ck_t, nI_clamp, h0 _ c, x8_isLetter (hch _ c), hnl, bd_s, b01_f]
    · have c1 : nI T.1 ≤ nI (k + L) := nI_le (by omega) (by omega)
      simp only [f_X8_scanWord_5s, ↓lm_1, ↓lm_2, ↓lm_3, ↓lm_4, ↓lm_5, ↓lm_6, ↓lm_7, ↓lm_8, ↓lm_9, ↓lm_10, ↓lm_11, li_0, li_1, li_2, li_3, li_4, li_5, li_6, li_7, li_8, li_9, li_10, li_11, li_12, li_13, li_14, li_15, li_16, li_17, li_18, li_19, li_20, li_21, li_22, li_23, li_24, li_25, li_26, li_27, li_28, li_29, li_30, li_31, li_32, li_33, li_34, li_35, li_36, li_37, li_38, li_39, li_40, li_41, li_42, li_43, li_44, li_45, li_46, li_47, li_48, li_49, li_50, li_51, li_52, li_53, li_54, li_55, li_56, li_57, li_58, li_59, li_60, li_61, li_62, li_63, li_64, li_65, li_66, li_96, li_97, li_99, li_100, li_122, li_125, li_126, li_140, li_255, li_256, li_999, li_1000, li_1001, li_1002, li_1100, li_1386, li_1452, li_1518, li_9999, li_1000000, h6, c1, ↓reduceIte]
  · intro j rec _ hj
    obtain ⟨a1, a2⟩ := hin j hj
    have a3 := of_decide_eq_true a2
    have c1 : ¬ nI T.1 ≤ nI (k + j) := nI_ge a1 (by omega)
    have ep : f_X10_packedWith fu (lN (pkd T.2 k j)) (nI (T.2 (k + j))) = some (lN (pkd T.2 k (j + 1))) := by
      simp (disch := omega) only [f_X10_packedWith, f_X10_packedWith_0, ↓lm_1, ↓lm_2, ↓lm_3, ↓lm_4, ↓lm_5, ↓lm_6, ↓lm_7, ↓lm_8, ↓lm_9, ↓lm_10, ↓lm_11, li_0, li_1, li_2, li_3, li_4, li_5, li_6, li_7, li_8, li_9, li_10, li_11, li_12, li_13, li_14, li_15, li_16, li_17, li_18, li_19, li_20, li_21, li_22, li_23, li_24, li_25, li_26, li_27, li_28, li_29, li_30, li_31, li_32, li_33, li_34, li_35, li_36, li_37, li_38, li_39, li_40, li_41, li_42, li_43, li_44, li_45, li_46, li_47, li_48, li_49, li_50, li_51, li_52, li_53, li_54, li_55, li_56, li_57, li_58, li_59, li_60, li_61, li_62, li_63, li_64, li_65, li_66, li_96, li_97, li_99, li_100, li_122, li_125, li_126, li_140, li_255, li_256, li_999, li_1000, li_1001, li_1002, li_1100, li_1386, li_1452, li_1518, li_9999, li_1000000, l_32, lN_mul, pk_sub, nI_add, nI_l, lN_add, pkd]
      congr 2; omega
    simp (disch := omega) only [f_X8_scanWord_5s, ↓lm_1, ↓lm_2, ↓lm_3, ↓lm_4, ↓lm_5, ↓lm_6, ↓lm_7, ↓lm_8, ↓lm_9, ↓lm_10, ↓lm_11, li_0, li_1, li_2, li_3, li_4, li_5, li_6, li_7, li_8, li_9, li_10, li_11, li_12, li_13, li_14, li_15, li_16, li_17, li_18, li_19, li_20, li_21, li_22, li_23, li_24, li_25, li_26, li_27, li_28, li_29, li_30, li_31, li_32, li_33, li_34, li_35, li_36, li_37, li_38, li_39, li_40, li_41, li_42, li_43, li_44, li_45, li_46, li_47, li_48, li_49, li_50, li_51, li_52, li_53, li_54, li_55, li_56, li_57, li_58, li_59, li_60, li_61, li_62, li_63, li_64, li_65, li_66, li_96, li_97, li_99, li_100, li_122, li_125, li_126, li_140, li_255, li_256, li_999, li_1000, li_1001, li_1002, li_1100, li_1386, li_1452, li_1518, li_9999, li_1000000, h6, c1, ↓reduceIte, inb_n, ck_t, nI_clamp, h0 _ a1, x8_isLetter (hch _ a1), a2, bd_s, b01_t, n10, ep, nm_eq, nI_add, Nat.add_assoc]
theorem x8_num (hf : 1101 ≤ fu) (hT : okT T) {w : GV} (h6 : gI w 6 = nI T.1) (h0 : ∀ j, j < T.1 → gA w 0 j = nI (T.2 j)) {k m L : Nat} (hk : k < T.1) (h4 : gI w 4 = nI m) (hm : m < 1001) (hL : L = rl (fun i => isd (T.2 i)) T.1 (T.1 - k) k) : f_X8_scanNumber fu w (nI k) = some (nI (k + L), atk w m (nI (ckd (if L ≤ 4 then 2 else 4) (pnd T.2 k L))) (nI k) (lN (pnd T.2 k L))) := by
  have hle := rl_le (fun i => isd (T.2 i)) T.1 (T.1 - k) k (by omega)
  have hin := rl_in (fun i => isd (T.2 i)) T.1 (T.1 - k) k
  have hend := rl_end (fun i => isd (T.2 i)) T.1 (T.1 - k) k (by omega)
  rw [← hL] at hle hin hend
  have hT1 := hT.1
  have hch : ∀ j, j < T.1 → T.2 j < 128 := fun j hj => by have := hT.2 j hj; omega
  have fin : f_X8_scanNumber_51 fu w (nI k) (lN (pnd T.2 k L)) (nI (k + L)) = some (nI (k + L), atk w m (nI (ckd (if L ≤ 4 then 2 else 4) (pnd T.2 k L))) (nI k) (lN (pnd T.2 k L))) := by
    by_cases c : L ≤ 4
    · have c8 : ¬ nI 4 < nI (k + L) - nI k := by rw [pk_sub (by omega), show k + L - k = L by omega]; exact nI_nlt c (by omega)
      rw [if_pos c]
      simp only [f_X8_scanNumber_51, f_X8_scanNumber_65, ↓lm_1, ↓lm_2, ↓lm_3, ↓lm_4, ↓lm_5, ↓lm_6, ↓lm_7, ↓lm_8, ↓lm_9, ↓lm_10, ↓lm_11, li_0, li_1, li_2, li_3, li_4, li_5, li_6, li_7, li_8, li_9, li_10, li_11, li_12, li_13, li_14, li_15, li_16, li_17, li_18, li_19, li_20, li_21, li_22, li_23, li_24, li_25, li_26, li_27, li_28, li_29, li_30, li_31, li_32, li_33, li_34, li_35, li_36, li_37, li_38, li_39, li_40, li_41, li_42, li_43, li_44, li_45, li_46, li_47, li_48, li_49, li_50, li_51, li_52, li_53, li_54, li_55, li_56, li_57, li_58, li_59, li_60, li_61, li_62, li_63, li_64, li_65, li_66, li_96, li_97, li_99, li_100, li_122, li_125, li_126, li_140, li_255, li_256, li_999, li_1000, li_1001, li_1002, li_1100, li_1386, li_1452, li_1518, li_9999, li_1000000, bd_s, c8, ↓reduceIte, x8_addToken h4 hm]
      rfl
    · have c8 : nI 4 < nI (k + L) - nI k := by rw [pk_sub (by omega), show k + L - k = L by omega]; exact nI_lt (by omega) (by omega)
      rw [if_neg c]
      simp only [f_X8_scanNumber_51, f_X8_scanNumber_65, ↓lm_1, ↓lm_2, ↓lm_3, ↓lm_4, ↓lm_5, ↓lm_6, ↓lm_7, ↓lm_8, ↓lm_9, ↓lm_10, ↓lm_11, li_0, li_1, li_2, li_3, li_4, li_5, li_6, li_7, li_8, li_9, li_10, li_11, li_12, li_13, li_14, li_15, li_16, li_17, li_18, li_19, li_20, li_21, li_22, li_23, li_24, li_25, li_26, li_27, li_28, li_29, li_30, li_31, li_32, li_33, li_34, li_35, li_36, li_37, li_38, li_39, li_40, li_41, li_42, li_43, li_44, li_45, li_46, li_47, li_48, li_49, li_50, li_51, li_52, li_53, li_54, li_55, li_56, li_57, li_58, li_59, li_60, li_61, li_62, li_63, li_64, li_65, li_66, li_96, li_97, li_99, li_100, li_122, li_125, li_126, li_140, li_255, li_256, li_999, li_1000, li_1001, li_1002, li_1100, li_1386, li_1452, li_1518, li_9999, li_1000000, bd_s, c8, ↓reduceIte, x8_addToken h4 hm]
      rfl
  have e0 : f_X8_scanNumber fu w (nI k) = f_X8_scanNumber_5 fu fu (nI k) (lN (pnd T.2 k 0)) (nI (k + 0)) w := by
    simp only [f_X8_scanNumber, f_X8_scanNumber_0, pnd, Nat.add_zero, ll_0]
  rw [e0, f_X8_scanNumber_5, ← fin]
  refine for3 _ (fun j => lN (pnd T.2 k j)) (fun j => nI (k + j)) (fun _ => w) 0 L _ ?_ ?_ fu (by omega) (by omega)
  · intro rec
    by_cases c : k + L < T.1
    · have hnl : isd (T.2 (k + L)) = false := by
        cases q : isd (T.2 (k + L))
        · rfl
        · exact absurd ⟨c, q⟩ hend
      have c1 : ¬ nI T.1 ≤ nI (k + L) := nI_ge c (by omega)
      simp (disch := omega) only [f_X8_scanNumber_5s, ↓lm_1, ↓lm_2, ↓lm_3, ↓lm_4, ↓lm_5, ↓lm_6, ↓lm_7, ↓lm_8, ↓lm_9, ↓lm_10, ↓lm_11, li_0, li_1, li_2, li_3, li_4, li_5, li_6, li_7, li_8, li_9, li_10, li_11, li_12, li_13, li_14, li_15, li_16, li_17, li_18, li_19, li_20, li_21, li_22, li_23, li_24, li_25, li_26, li_27, li_28, li_29, li_30, li_31, li_32, li_33, li_34, li_35, li_36, li_37, li_38, li_39, li_40, li_41, li_42, li_43, li_44, li_45, li_46, li_47, li_48, li_49, li_50, li_51, li_52, li_53, li_54, li_55, li_56, li_57, li_58, li_59, li_60, li_61, li_62, li_63, li_64, li_65, li_66, li_96, li_97, li_99, li_100, li_122, li_125, li_126, li_140, li_255, li_256, li_999, li_1000, li_1001, li_1002, li_1100, li_1386, li_1452, li_1518, li_9999, li_1000000, h6, c1, ↓reduceIte, inb_n, ck_t, nI_clamp, h0 _ c, x8_isDigit (hch _ c), hnl, bd_s, b01_f]
    · have c1 : nI T.1 ≤ nI (k + L) := nI_le (by omega) (by omega)
      simp only [f_X8_scanNumber_5s, ↓lm_1, ↓lm_2, ↓lm_3, ↓lm_4, ↓lm_5, ↓lm_6, ↓lm_7, ↓lm_8, ↓lm_9, ↓lm_10, ↓lm_11, li_0, li_1, li_2, li_3, li_4, li_5, li_6, li_7, li_8, li_9, li_10, li_11, li_12, li_13, li_14, li_15, li_16, li_17, li_18, li_19, li_20, li_21, li_22, li_23, li_24, li_25, li_26, li_27, li_28, li_29, li_30, li_31, li_32, li_33, li_34, li_35, li_36, li_37, li_38, li_39, li_40, li_41, li_42, li_43, li_44, li_45, li_46, li_47, li_48, li_49, li_50, li_51, li_52, li_53, li_54, li_55, li_56, li_57, li_58, li_59, li_60, li_61, li_62, li_63, li_64, li_65, li_66, li_96, li_97, li_99, li_100, li_122, li_125, li_126, li_140, li_255, li_256, li_999, li_1000, li_1001, li_1002, li_1100, li_1386, li_1452, li_1518, li_9999, li_1000000, h6, c1, ↓reduceIte]
  · intro j rec _ hj
    obtain ⟨a1, a2⟩ := hin j hj
    have a3 := of_decide_eq_true a2
    have c1 : ¬ nI T.1 ≤ nI (k + j) := nI_ge a1 (by omega)
    have em : pnd T.2 k j * 10 + (T.2 (k + j) - 48) = pnd T.2 k (j + 1) := by simp only [pnd]; omega
    simp (disch := omega) only [f_X8_scanNumber_5s, ↓lm_1, ↓lm_2, ↓lm_3, ↓lm_4, ↓lm_5, ↓lm_6, ↓lm_7, ↓lm_8, ↓lm_9, ↓lm_10, ↓lm_11, li_0, li_1, li_2, li_3, li_4, li_5, li_6, li_7, li_8, li_9, li_10, li_11, li_12, li_13, li_14, li_15, li_16, li_17, li_18, li_19, li_20, li_21, li_22, li_23, li_24, li_25, li_26, li_27, li_28, li_29, li_30, li_31, li_32, li_33, li_34, li_35, li_36, li_37, li_38, li_39, li_40, li_41, li_42, li_43, li_44, li_45, li_46, li_47, li_48, li_49, li_50, li_51, li_52, li_53, li_54, li_55, li_56, li_57, li_58, li_59, li_60, li_61, li_62, li_63, li_64, li_65, li_66, li_96, li_97, li_99, li_100, li_122, li_125, li_126, li_140, li_255, li_256, li_999, li_1000, li_1001, li_1002, li_1100, li_1386, li_1452, li_1518, li_9999, li_1000000, h6, c1, ↓reduceIte, inb_n, ck_t, nI_clamp, h0 _ a1, x8_isDigit (hch _ a1), a2, bd_s, b01_t, n10, l_10, lN_mul, pk_sub, nI_l, lN_add, em, nm_eq, nI_add, Nat.add_assoc]
/-- a run of letters, by the model -/
theorem m_word (hf : 1101 ≤ fu) (hT : okT T) {v : GV} (h3 : gI v 3 = nI T.1) (h0 : ∀ j, j < T.1 → gA v 1 j = nI (T.2 j)) {k m L : Nat} (hk : k < T.1) (hm : m < 1001) (hL : L = rl (fun i => isl (T.2 i)) T.1 (T.1 - k) k) (k17 : Int32 → Int32 → GV → Option GV) : f_X13_cutAll_70 fu fu k17 (nI m) (nI k) (nI k) (lN 0) (sA v 5 m (nI k)) = k17 (nI (m + 1)) (nI (k + L)) (mtk v m (nI (if L ≤ 8 then 1 else 4)) (nI k) (lN (cv (pkd T.2 k (min L 8))))) := by
  have hle := rl_le (fun i => isl (T.2 i)) T.1 (T.1 - k) k (by omega)
  have hin := rl_in (fun i => isl (T.2 i)) T.1 (T.1 - k) k
  have hend := rl_end (fun i => isl (T.2 i)) T.1 (T.1 - k) k (by omega)
  rw [← hL] at hle hin hend
  have hT1 := hT.1
  have hch : ∀ j, j < T.1 → T.2 j < 128 := fun j hj => by have := hT.2 j hj; omega
  have g3 : gI (sA v 5 m (nI k)) 3 = nI T.1 := h3
  have g1 : ∀ j, j < T.1 → gA (sA v 5 m (nI k)) 1 j = nI (T.2 j) := fun j hj => by rw [gA_sAn _ _ _ (by decide)]; exact h0 j hj
  have fin : f_X13_cutAll_129 fu k17 (sA v 5 m (nI k)) (nI m) (nI (k + L)) (nI k) (lN (cv (pkd T.2 k (min L 8)))) = k17 (nI (m + 1)) (nI (k + L)) (mtk v m (nI (if L ≤ 8 then 1 else 4)) (nI k) (lN (cv (pkd T.2 k (min L 8))))) := by
    by_cases c : L ≤ 8
    · have c8 : nI (k + L) - nI k ≤ nI 8 := by rw [pk_sub (by omega), show k + L - k = L by omega]; exact nI_le c (by omega)
      rw [if_pos c]
      simp (disch := omega) only [f_X13_cutAll_129, f_X13_cutAll_148, f_X13_cutAll_265, ↓lm_1, ↓lm_2, ↓lm_3, ↓lm_4, ↓lm_5, ↓lm_6, ↓lm_7, ↓lm_8, ↓lm_9, ↓lm_10, ↓lm_11, li_0, li_1, li_2, li_3, li_4, li_5, li_6, li_7, li_8, li_9, li_10, li_11, li_12, li_13, li_14, li_15, li_16, li_17, li_18, li_19, li_20, li_21, li_22, li_23, li_24, li_25, li_26, li_27, li_28, li_29, li_30, li_31, li_32, li_33, li_34, li_35, li_36, li_37, li_38, li_39, li_40, li_41, li_42, li_43, li_44, li_45, li_46, li_47, li_48, li_49, li_50, li_51, li_52, li_53, li_54, li_55, li_56, li_57, li_58, li_59, li_60, li_61, li_62, li_63, li_64, li_65, li_66, li_96, li_97, li_99, li_100, li_122, li_125, li_126, li_140, li_255, li_256, li_999, li_1000, li_1001, li_1002, li_1100, li_1386, li_1452, li_1518, li_9999, li_1000000, c8, ↓reduceIte, inb_n, ck_t, nI_clamp, nm_eq, nI_add, mtk]
    · have c8 : ¬ nI (k + L) - nI k ≤ nI 8 := by rw [pk_sub (by omega), show k + L - k = L by omega]; exact nI_ge (by omega) (by omega)
      rw [if_neg c]
      simp (disch := omega) only [f_X13_cutAll_129, f_X13_cutAll_148, f_X13_cutAll_265, ↓lm_1, ↓lm_2, ↓lm_3, ↓lm_4, ↓lm_5, ↓lm_6, ↓lm_7, ↓lm_8, ↓lm_9, ↓lm_10, ↓lm_11, li_0, li_1, li_2, li_3, li_4, li_5, li_6, li_7, li_8, li_9, li_10, li_11, li_12, li_13, li_14, li_15, li_16, li_17, li_18, li_19, li_20, li_21, li_22, li_23, li_24, li_25, li_26, li_27, li_28, li_29, li_30, li_31, li_32, li_33, li_34, li_35, li_36, li_37, li_38, li_39, li_40, li_41, li_42, li_43, li_44, li_45, li_46, li_47, li_48, li_49, li_50, li_51, li_52, li_53, li_54, li_55, li_56, li_57, li_58, li_59, li_60, li_61, li_62, li_63, li_64, li_65, li_66, li_96, li_97, li_99, li_100, li_122, li_125, li_126, li_140, li_255, li_256, li_999, li_1000, li_1001, li_1002, li_1100, li_1386, li_1452, li_1518, li_9999, li_1000000, c8, ↓reduceIte, inb_n, ck_t, nI_clamp, nm_eq, nI_add, mtk]
  rw [f_X13_cutAll_70, ← fin]
  have start : ∀ F : Int32 → Int64 → GV → Option GV, F (nI k) (lN 0) (sA v 5 m (nI k)) = F (nI (k + 0)) (lN (cv (pkd T.2 k (min 0 8)))) (sA v 5 m (nI k)) := by
    intro F
    have : cv (pkd T.2 k (min 0 8)) = 0 := by simp [pkd]; rfl
    rw [this, Nat.add_zero]
  rw [start (lq_3 (fun k70 => f_X13_cutAll_70s fu k17 k70 (nI m) (nI k)) fu)]
  refine for3 _ (fun j => nI (k + j)) (fun j => lN (cv (pkd T.2 k (min j 8)))) (fun _ => sA v 5 m (nI k)) 0 L _ ?_ ?_ fu (by omega) (by omega)
  · intro rec
    by_cases c : k + L < T.1
    · have hnl : isl (T.2 (k + L)) = false := by
        cases q : isl (T.2 (k + L))
        · rfl
        · exact absurd ⟨c, q⟩ hend
      have c1 : ¬ nI T.1 ≤ nI (k + L) := nI_ge c (by omega)
      simp (disch := omega) only [f_X13_cutAll_70s, ↓lm_1, ↓lm_2, ↓lm_3, ↓lm_4, ↓lm_5, ↓lm_6, ↓lm_7, ↓lm_8, ↓lm_9, ↓lm_10, ↓lm_11, li_0, li_1, li_2, li_3, li_4, li_5, li_6, li_7, li_8, li_9, li_10, li_11, li_12, li_13, li_14, li_15, li_16, li_17, li_18, li_19, li_20, li_21, li_22, li_23, li_24, li_25, li_26, li_27, li_28, li_29, li_30, li_31, li_32, li_33, li_34, li_35, li_36, li_37, li_38, li_39, li_40, li_41, li_42, li_43, li_44, li_45, li_46, li_47, li_48, li_49, li_50, li_51, li_52, li_53, li_54, li_55, li_56, li_57, li_58, li_59, li_60, li_61, li_62, li_63, li_64, li_65, li_66, li_96, li_97, li_99, li_100, li_122, li_125, li_126, li_140, li_255, li_256, li_999, li_1000, li_1001, li_1002, li_1100, li_1386, li_1452, li_1518, li_9999, li_1000000, g3, c1, ↓reduceIte, inb_n, ck_t, nI_clamp, g1 _ c, x13_isLetter (hch _ c), hnl, bd_s, b01_f]
    · have c1 : nI T.1 ≤ nI (k + L) := nI_le (by omega) (by omega)
      simp only [f_X13_cutAll_70s, ↓lm_1, ↓lm_2, ↓lm_3, ↓lm_4, ↓lm_5, ↓lm_6, ↓lm_7, ↓lm_8, ↓lm_9, ↓lm_10, ↓lm_11, li_0, li_1, li_2, li_3, li_4, li_5, li_6, li_7, li_8, li_9, li_10, li_11, li_12, li_13, li_14, li_15, li_16, li_17, li_18, li_19, li_20, li_21, li_22, li_23, li_24, li_25, li_26, li_27, li_28, li_29, li_30, li_31, li_32, li_33, li_34, li_35, li_36, li_37, li_38, li_39, li_40, li_41, li_42, li_43, li_44, li_45, li_46, li_47, li_48, li_49, li_50, li_51, li_52, li_53, li_54, li_55, li_56, li_57, li_58, li_59, li_60, li_61, li_62, li_63, li_64, li_65, li_66, li_96, li_97, li_99, li_100, li_122, li_125, li_126, li_140, li_255, li_256, li_999, li_1000, li_1001, li_1002, li_1100, li_1386, li_1452, li_1518, li_9999, li_1000000, g3, c1, ↓reduceIte]
  · intro j rec _ hj
    obtain ⟨a1, a2⟩ := hin j hj
    have a3 := of_decide_eq_true a2
    have c1 : ¬ nI T.1 ≤ nI (k + j) := nI_ge a1 (by omega)
    by_cases c8 : 8 ≤ j
    · have e8 : nI 8 ≤ nI (k + j) - nI k := by rw [pk_sub (by omega), show k + j - k = j by omega]; exact nI_le c8 (by omega)
      rw [show min (j + 1) 8 = 8 by omega, show min j 8 = 8 by omega]
      simp (disch := omega) only [f_X13_cutAll_70s, f_X13_cutAll_121, ↓lm_1, ↓lm_2, ↓lm_3, ↓lm_4, ↓lm_5, ↓lm_6, ↓lm_7, ↓lm_8, ↓lm_9, ↓lm_10, ↓lm_11, li_0, li_1, li_2, li_3, li_4, li_5, li_6, li_7, li_8, li_9, li_10, li_11, li_12, li_13, li_14, li_15, li_16, li_17, li_18, li_19, li_20, li_21, li_22, li_23, li_24, li_25, li_26, li_27, li_28, li_29, li_30, li_31, li_32, li_33, li_34, li_35, li_36, li_37, li_38, li_39, li_40, li_41, li_42, li_43, li_44, li_45, li_46, li_47, li_48, li_49, li_50, li_51, li_52, li_53, li_54, li_55, li_56, li_57, li_58, li_59, li_60, li_61, li_62, li_63, li_64, li_65, li_66, li_96, li_97, li_99, li_100, li_122, li_125, li_126, li_140, li_255, li_256, li_999, li_1000, li_1001, li_1002, li_1100, li_1386, li_1452, li_1518, li_9999, li_1000000, g3, c1, ↓reduceIte, inb_n, ck_t, nI_clamp, g1 _ a1, x13_isLetter (hch _ a1), a2, bd_s, b01_t, n10, e8, nm_eq, nI_add, Nat.add_assoc]
    · have e8 : ¬ nI 8 ≤ nI (k + j) - nI k := by rw [pk_sub (by omega), show k + j - k = j by omega]; exact nI_ge (by omega) (by omega)
      rw [show min (j + 1) 8 = j + 1 by omega, show min j 8 = j by omega]
      have er : f_X13_rank fu (nI (T.2 (k + j))) = some (nI (T.2 (k + j) - 96)) := by
        simp (disch := omega) only [f_X13_rank, f_X13_rank_0, ↓lm_1, ↓lm_2, ↓lm_3, ↓lm_4, ↓lm_5, ↓lm_6, ↓lm_7, ↓lm_8, ↓lm_9, ↓lm_10, ↓lm_11, li_0, li_1, li_2, li_3, li_4, li_5, li_6, li_7, li_8, li_9, li_10, li_11, li_12, li_13, li_14, li_15, li_16, li_17, li_18, li_19, li_20, li_21, li_22, li_23, li_24, li_25, li_26, li_27, li_28, li_29, li_30, li_31, li_32, li_33, li_34, li_35, li_36, li_37, li_38, li_39, li_40, li_41, li_42, li_43, li_44, li_45, li_46, li_47, li_48, li_49, li_50, li_51, li_52, li_53, li_54, li_55, li_56, li_57, li_58, li_59, li_60, li_61, li_62, li_63, li_64, li_65, li_66, li_96, li_97, li_99, li_100, li_122, li_125, li_126, li_140, li_255, li_256, li_999, li_1000, li_1001, li_1002, li_1100, li_1386, li_1452, li_1518, li_9999, li_1000000, x13_isLetter (hch _ a1), a2, bd_s, b01_t, n10, ↓reduceIte, pk_sub]
      have ec : 37 * cv (pkd T.2 k j) + (T.2 (k + j) - 96) = cv (pkd T.2 k (j + 1)) := by
        rw [pkd, cv_s (wdk_le (pkd_w j (fun i hi => (hin i (by omega)).2)) (by omega)) (by omega) (by omega)]
      simp (disch := omega) only [f_X13_cutAll_70s, f_X13_cutAll_121, ↓lm_1, ↓lm_2, ↓lm_3, ↓lm_4, ↓lm_5, ↓lm_6, ↓lm_7, ↓lm_8, ↓lm_9, ↓lm_10, ↓lm_11, li_0, li_1, li_2, li_3, li_4, li_5, li_6, li_7, li_8, li_9, li_10, li_11, li_12, li_13, li_14, li_15, li_16, li_17, li_18, li_19, li_20, li_21, li_22, li_23, li_24, li_25, li_26, li_27, li_28, li_29, li_30, li_31, li_32, li_33, li_34, li_35, li_36, li_37, li_38, li_39, li_40, li_41, li_42, li_43, li_44, li_45, li_46, li_47, li_48, li_49, li_50, li_51, li_52, li_53, li_54, li_55, li_56, li_57, li_58, li_59, li_60, li_61, li_62, li_63, li_64, li_65, li_66, li_96, li_97, li_99, li_100, li_122, li_125, li_126, li_140, li_255, li_256, li_999, li_1000, li_1001, li_1002, li_1100, li_1386, li_1452, li_1518, li_9999, li_1000000, g3, c1, ↓reduceIte, inb_n, ck_t, nI_clamp, g1 _ a1, x13_isLetter (hch _ a1), a2, bd_s, b01_t, n10, e8, er, l_37, lN_mul, nI_l, lN_add, ec, nm_eq, nI_add, Nat.add_assoc]
theorem m_num (hf : 1101 ≤ fu) (hT : okT T) {v : GV} (h3 : gI v 3 = nI T.1) (h0 : ∀ j, j < T.1 → gA v 1 j = nI (T.2 j)) {k m L : Nat} (hk : k < T.1) (hm : m < 1001) (hL : L = rl (fun i => isd (T.2 i)) T.1 (T.1 - k) k) (k17 : Int32 → Int32 → GV → Option GV) : f_X13_cutAll_159 fu fu k17 (nI m) (nI k) (nI k) (lN 0) (sA v 5 m (nI k)) = k17 (nI (m + 1)) (nI (k + L)) (mtk v m (nI (if L ≤ 4 then 2 else 4)) (nI k) (lN (pnd T.2 k (min L 4)))) := by
  have hle := rl_le (fun i => isd (T.2 i)) T.1 (T.1 - k) k (by omega)
  have hin := rl_in (fun i => isd (T.2 i)) T.1 (T.1 - k) k
  have hend := rl_end (fun i => isd (T.2 i)) T.1 (T.1 - k) k (by omega)
  rw [← hL] at hle hin hend
  have hT1 := hT.1
  have hch : ∀ j, j < T.1 → T.2 j < 128 := fun j hj => by have := hT.2 j hj; omega
  have g3 : gI (sA v 5 m (nI k)) 3 = nI T.1 := h3
  have g1 : ∀ j, j < T.1 → gA (sA v 5 m (nI k)) 1 j = nI (T.2 j) := fun j hj => by rw [gA_sAn _ _ _ (by decide)]; exact h0 j hj
  have fin : f_X13_cutAll_218 fu k17 (sA v 5 m (nI k)) (nI m) (nI (k + L)) (nI k) (lN (pnd T.2 k (min L 4))) = k17 (nI (m + 1)) (nI (k + L)) (mtk v m (nI (if L ≤ 4 then 2 else 4)) (nI k) (lN (pnd T.2 k (min L 4)))) := by
    by_cases c : L ≤ 4
    · have c8 : nI (k + L) - nI k ≤ nI 4 := by rw [pk_sub (by omega), show k + L - k = L by omega]; exact nI_le c (by omega)
      rw [if_pos c]
      simp (disch := omega) only [f_X13_cutAll_218, f_X13_cutAll_236, f_X13_cutAll_265, ↓lm_1, ↓lm_2, ↓lm_3, ↓lm_4, ↓lm_5, ↓lm_6, ↓lm_7, ↓lm_8, ↓lm_9, ↓lm_10, ↓lm_11, li_0, li_1, li_2, li_3, li_4, li_5, li_6, li_7, li_8, li_9, li_10, li_11, li_12, li_13, li_14, li_15, li_16, li_17, li_18, li_19, li_20, li_21, li_22, li_23, li_24, li_25, li_26, li_27, li_28, li_29, li_30, li_31, li_32, li_33, li_34, li_35, li_36, li_37, li_38, li_39, li_40, li_41, li_42, li_43, li_44, li_45, li_46, li_47, li_48, li_49, li_50, li_51, li_52, li_53, li_54, li_55, li_56, li_57, li_58, li_59, li_60, li_61, li_62, li_63, li_64, li_65, li_66, li_96, li_97, li_99, li_100, li_122, li_125, li_126, li_140, li_255, li_256, li_999, li_1000, li_1001, li_1002, li_1100, li_1386, li_1452, li_1518, li_9999, li_1000000, c8, ↓reduceIte, inb_n, ck_t, nI_clamp, nm_eq, nI_add, mtk]
    · have c8 : ¬ nI (k + L) - nI k ≤ nI 4 := by rw [pk_sub (by omega), show k + L - k = L by omega]; exact nI_ge (by omega) (by omega)
      rw [if_neg c]
      simp (disch := omega) only [f_X13_cutAll_218, f_X13_cutAll_236, f_X13_cutAll_265, ↓lm_1, ↓lm_2, ↓lm_3, ↓lm_4, ↓lm_5, ↓lm_6, ↓lm_7, ↓lm_8, ↓lm_9, ↓lm_10, ↓lm_11, li_0, li_1, li_2, li_3, li_4, li_5, li_6, li_7, li_8, li_9, li_10, li_11, li_12, li_13, li_14, li_15, li_16, li_17, li_18, li_19, li_20, li_21, li_22, li_23, li_24, li_25, li_26, li_27, li_28, li_29, li_30, li_31, li_32, li_33, li_34, li_35, li_36, li_37, li_38, li_39, li_40, li_41, li_42, li_43, li_44, li_45, li_46, li_47, li_48, li_49, li_50, li_51, li_52, li_53, li_54, li_55, li_56, li_57, li_58, li_59, li_60, li_61, li_62, li_63, li_64, li_65, li_66, li_96, li_97, li_99, li_100, li_122, li_125, li_126, li_140, li_255, li_256, li_999, li_1000, li_1001, li_1002, li_1100, li_1386, li_1452, li_1518, li_9999, li_1000000, c8, ↓reduceIte, inb_n, ck_t, nI_clamp, nm_eq, nI_add, mtk]
  rw [f_X13_cutAll_159, ← fin]
  have start : ∀ F : Int32 → Int64 → GV → Option GV, F (nI k) (lN 0) (sA v 5 m (nI k)) = F (nI (k + 0)) (lN (pnd T.2 k (min 0 4))) (sA v 5 m (nI k)) := by
    intro F
    rw [Nat.add_zero]; rfl
  rw [start (lq_3 (fun k159 => f_X13_cutAll_159s fu k17 k159 (nI m) (nI k)) fu)]
  refine for3 _ (fun j => nI (k + j)) (fun j => lN (pnd T.2 k (min j 4))) (fun _ => sA v 5 m (nI k)) 0 L _ ?_ ?_ fu (by omega) (by omega)
  · intro rec
    by_cases c : k + L < T.1
    · have hnl : isd (T.2 (k + L)) = false := by
        cases q : isd (T.2 (k + L))
        · rfl
        · exact absurd ⟨c, q⟩ hend
      have c1 : ¬ nI T.1 ≤ nI (k + L) := nI_ge c (by omega)
      simp (disch := omega) only [f_X13_cutAll_159s, ↓lm_1, ↓lm_2, ↓lm_3, ↓lm_4, ↓lm_5, ↓lm_6, ↓lm_7, ↓lm_8, ↓lm_9, ↓lm_10, ↓lm_11, li_0, li_1, li_2, li_3, li_4, li_5, li_6, li_7, li_8, li_9, li_10, li_11, li_12, li_13, li_14, li_15, li_16, li_17, li_18, li_19, li_20, li_21, li_22, li_23, li_24, li_25, li_26, li_27, li_28, li_29, li_30, li_31, li_32, li_33, li_34, li_35, li_36, li_37, li_38, li_39, li_40, li_41, li_42, li_43, li_44, li_45, li_46, li_47, li_48, li_49, li_50, li_51, li_52, li_53, li_54, li_55, li_56, li_57, li_58, li_59, li_60, li_61, li_62, li_63, li_64, li_65, li_66, li_96, li_97, li_99, li_100, li_122, li_125, li_126, li_140, li_255, li_256, li_999, li_1000, li_1001, li_1002, li_1100, li_1386, li_1452, li_1518, li_9999, li_1000000, g3, c1, ↓reduceIte, inb_n, ck_t, nI_clamp, g1 _ c, x13_isDigit (hch _ c), hnl, bd_s, b01_f]
    · have c1 : nI T.1 ≤ nI (k + L) := nI_le (by omega) (by omega)
      simp only [f_X13_cutAll_159s, ↓lm_1, ↓lm_2, ↓lm_3, ↓lm_4, ↓lm_5, ↓lm_6, ↓lm_7, ↓lm_8, ↓lm_9, ↓lm_10, ↓lm_11, li_0, li_1, li_2, li_3, li_4, li_5, li_6, li_7, li_8, li_9, li_10, li_11, li_12, li_13, li_14, li_15, li_16, li_17, li_18, li_19, li_20, li_21, li_22, li_23, li_24, li_25, li_26, li_27, li_28, li_29, li_30, li_31, li_32, li_33, li_34, li_35, li_36, li_37, li_38, li_39, li_40, li_41, li_42, li_43, li_44, li_45, li_46, li_47, li_48, li_49, li_50, li_51, li_52, li_53, li_54, li_55, li_56, li_57, li_58, li_59, li_60, li_61, li_62, li_63, li_64, li_65, li_66, li_96, li_97, li_99, li_100, li_122, li_125, li_126, li_140, li_255, li_256, li_999, li_1000, li_1001, li_1002, li_1100, li_1386, li_1452, li_1518, li_9999, li_1000000, g3, c1, ↓reduceIte]
  · intro j rec _ hj
    obtain ⟨a1, a2⟩ := hin j hj
    have a3 := of_decide_eq_true a2
    have c1 : ¬ nI T.1 ≤ nI (k + j) := nI_ge a1 (by omega)
    by_cases c8 : 4 ≤ j
    · have e8 : nI 4 ≤ nI (k + j) - nI k := by rw [pk_sub (by omega), show k + j - k = j by omega]; exact nI_le c8 (by omega)
      rw [show min (j + 1) 4 = 4 by omega, show min j 4 = 4 by omega]
      simp (disch := omega) only [f_X13_cutAll_159s, f_X13_cutAll_210, ↓lm_1, ↓lm_2, ↓lm_3, ↓lm_4, ↓lm_5, ↓lm_6, ↓lm_7, ↓lm_8, ↓lm_9, ↓lm_10, ↓lm_11, li_0, li_1, li_2, li_3, li_4, li_5, li_6, li_7, li_8, li_9, li_10, li_11, li_12, li_13, li_14, li_15, li_16, li_17, li_18, li_19, li_20, li_21, li_22, li_23, li_24, li_25, li_26, li_27, li_28, li_29, li_30, li_31, li_32, li_33, li_34, li_35, li_36, li_37, li_38, li_39, li_40, li_41, li_42, li_43, li_44, li_45, li_46, li_47, li_48, li_49, li_50, li_51, li_52, li_53, li_54, li_55, li_56, li_57, li_58, li_59, li_60, li_61, li_62, li_63, li_64, li_65, li_66, li_96, li_97, li_99, li_100, li_122, li_125, li_126, li_140, li_255, li_256, li_999, li_1000, li_1001, li_1002, li_1100, li_1386, li_1452, li_1518, li_9999, li_1000000, g3, c1, ↓reduceIte, inb_n, ck_t, nI_clamp, g1 _ a1, x13_isDigit (hch _ a1), a2, bd_s, b01_t, n10, e8, nm_eq, nI_add, Nat.add_assoc]
    · have e8 : ¬ nI 4 ≤ nI (k + j) - nI k := by rw [pk_sub (by omega), show k + j - k = j by omega]; exact nI_ge (by omega) (by omega)
      rw [show min (j + 1) 4 = j + 1 by omega, show min j 4 = j by omega]
      have ec : lN (10 * pnd T.2 k j + T.2 (k + j)) - lN 48 = lN (pnd T.2 k (j + 1)) := by
        rw [lN_sub (by omega), pnd]; congr 1; omega
      simp (disch := omega) only [f_X13_cutAll_159s, f_X13_cutAll_210, ↓lm_1, ↓lm_2, ↓lm_3, ↓lm_4, ↓lm_5, ↓lm_6, ↓lm_7, ↓lm_8, ↓lm_9, ↓lm_10, ↓lm_11, li_0, li_1, li_2, li_3, li_4, li_5, li_6, li_7, li_8, li_9, li_10, li_11, li_12, li_13, li_14, li_15, li_16, li_17, li_18, li_19, li_20, li_21, li_22, li_23, li_24, li_25, li_26, li_27, li_28, li_29, li_30, li_31, li_32, li_33, li_34, li_35, li_36, li_37, li_38, li_39, li_40, li_41, li_42, li_43, li_44, li_45, li_46, li_47, li_48, li_49, li_50, li_51, li_52, li_53, li_54, li_55, li_56, li_57, li_58, li_59, li_60, li_61, li_62, li_63, li_64, li_65, li_66, li_96, li_97, li_99, li_100, li_122, li_125, li_126, li_140, li_255, li_256, li_999, li_1000, li_1001, li_1002, li_1100, li_1386, li_1452, li_1518, li_9999, li_1000000, g3, c1, ↓reduceIte, inb_n, ck_t, nI_clamp, g1 _ a1, x13_isDigit (hch _ a1), a2, bd_s, b01_t, n10, e8, l_10, l_48, lN_mul, nI_l, lN_add, ec, nm_eq, nI_add, Nat.add_assoc]
end CUT
