/-! ===== mark, look, feed ===== -/
theorem bt_or_ne {x p s : Nat} (h : p ≠ s) : bt (x ||| 2 ^ p) s = bt x s := by
  have h1 := bt_or_p2 x p s
  rcases bt_01 x s with e | e
  · rcases bt_01 (x ||| 2 ^ p) s with e2 | e2
    · omega
    · rcases h1.mp e2 with c | c
      · omega
      · exact absurd c h
  · rw [e]; exact h1.mpr (Or.inl e)
theorem mop_26' {v v' : GV} (h1 : ∀ k, k = 1 ∨ k = 10 ∨ k = 11 ∨ k = 12 ∨ k = 16 ∨ k = 21 ∨ k = 32 → gA v' k = gA v k) (h2 : gI v' 2 = gI v 2) (h3 : gI v' 18 = gI v 18) (h4 : gL v' 9 = gL v 9) (h5 : gL v' 14 = gL v 14) (h6 : gC v' = gC v) : mop v (sAf v' 26 (gA v 26)) := by
  refine ⟨fun k hk => ?_, h2, h3, h4, h5, h6⟩
  by_cases e : k = 26
  · subst e; rw [gA_sAf]
  · rw [gA_sAfn _ _ e]; exact h1 k (by omega)
theorem nar1 : vp_nar .boolean (nI 1) = nI 1 := by decide
theorem bad4 {x : Int32} {n : Nat} (hn : n < 100000) (hx : ¬ ∃ j, j < n ∧ x = nI j) : x < nI 0 ∨ (¬ x < nI 0 ∧ ¬ x < nI n) := by
  by_cases c : x < nI 0
  · exact Or.inl c
  · refine Or.inr ⟨c, fun c2 => ?_⟩
    rcases pk_ix x (n := n) (by omega) with h | h | h
    · exact c h
    · rw [Int32.le_iff_toInt_le] at h
      rw [Int32.lt_iff_toInt_lt] at c2
      omega
    · exact hx h
section H
variable {fu p : Nat} {S : ST} {v : GV}
theorem r_mark (hf : 1101 ≤ fu) (h : RR p S v) (x y : Int32) : ∃ z S' v', f_X12_mark fu S p x y = some (z, S') ∧ f_X13_mark fu v x y = some (z, v') ∧ RR p S' v' := by
  obtain ⟨A, hA, hC, hM⟩ := h
  obtain ⟨t, d, ln, dl, f, hP, hK⟩ := id hC
  obtain ⟨k16, kf, k17, kp⟩ := id hK.2.2.2.2.1
  obtain ⟨k18, km⟩ := id hK.2.2.2.2.2.1
  have hM16 := hA.2.2.2.1.1
  have hc9 := hP.1.2.2.1
  have h8 := hA.2.1.1.1.2.1
  have hl8 := hA.2.1.2.1
  have hno : RR p S (sI v 0 (nI 0)) := RR_q hA hC hM (scr_refl p S) (q1 v)
  by_cases hx : ∃ j, j < 4 ∧ x = nI j
  · obtain ⟨m, hm, rfl⟩ := hx
    have e0 : ¬ nI m < nI 0 := nI_nlt (by omega) (by omega)
    have e4 : nI m < nI 4 := nI_lt (by omega) (by omega)
    have cm := hP.2.2.2.1 m hm
    have p16 : 2 ^ m < 16 := Nat.pow_lt_pow_right (a := 2) (by decide) hm
    have g26 : gA (sI v 0 (nI 0)) 26 m = nI (bt (aM A).1 m) := (hM.2.2.2.2.1 m hm).1
    have hbt := bt_lt (aM A).1 m
    by_cases y0 : y = nI 0
    · subst y0
      have tk := x3_takeAll (fu := fu) (S := S) (a := p + 202 + 7 * m) (g := p + 9) (by omega)
      refine ⟨nI 1, st (st S (p + 202 + 7 * m) (tkA (S (p + 202 + 7 * m)) (S (p + 9)))) p (sI (S p) 18 (nI ((aM A).1 ||| 2 ^ m))), sI (sAf (sA (sI v 0 (nI 0)) 26 m (nI 1)) 24 (va_cpy (gA v 24) (gA v 24) 0 (66 * (1 + m)) 66)) 25 (gI v 25), ?_, ?_, ⟨mkA (aG A) (aQ A) (aP A) ((aM A).1 ||| 2 ^ m, fun k => if k = m then aQ A else (aM A).2 k) (aB A) (aL A) (aT A) (aN A), ?_, ?_, ?_⟩⟩
      · simp (disch := omega) only [f_X12_mark, f_X12_mark_0, ↓lm_1, ↓lm_2, ↓lm_3, ↓lm_4, ↓lm_5, ↓lm_6, ↓lm_7, ↓lm_8, ↓lm_9, ↓lm_10, ↓lm_11, li_0, li_1, li_2, li_3, li_4, li_5, li_6, li_7, li_8, li_9, li_10, li_11, li_12, li_13, li_14, li_15, li_16, li_17, li_18, li_19, li_20, li_21, li_22, li_23, li_24, li_25, li_26, li_27, li_28, li_29, li_30, li_31, li_32, li_33, li_34, li_35, li_36, li_37, li_38, li_39, li_40, li_41, li_42, li_43, li_44, li_45, li_46, li_47, li_48, li_49, li_50, li_51, li_52, li_53, li_54, li_55, li_56, li_57, li_58, li_59, li_60, li_61, li_62, li_63, li_64, li_65, li_66, li_96, li_97, li_99, li_100, li_122, li_125, li_126, li_140, li_255, li_256, li_999, li_1000, li_1001, li_1002, li_1100, li_1386, li_1452, li_1518, li_9999, li_1000000, e0, e4, ↓reduceIte, inb_n, ck_t, nI_clamp, cm.2, bd_s, cm.1, hc9, decide_true, tk, nm_eq, st_ne, k18, nI_and31, nI_shl1, nI_orN]
      · have cp := m_copies (v := sA (sI v 0 (nI 0)) 26 m (nI 1)) hf (a := 0) (b := 66 * (1 + m)) (n := 66) (by omega) (by omega) (by omega) (by omega)
        simp (disch := omega) only [f_X13_mark, f_X13_mark_0, f_X13_mark_29, f_X13_mark_51, f_X13_mark_65, f_X13_mark_83, ↓lm_1, ↓lm_2, ↓lm_3, ↓lm_4, ↓lm_5, ↓lm_6, ↓lm_7, ↓lm_8, ↓lm_9, ↓lm_10, ↓lm_11, li_0, li_1, li_2, li_3, li_4, li_5, li_6, li_7, li_8, li_9, li_10, li_11, li_12, li_13, li_14, li_15, li_16, li_17, li_18, li_19, li_20, li_21, li_22, li_23, li_24, li_25, li_26, li_27, li_28, li_29, li_30, li_31, li_32, li_33, li_34, li_35, li_36, li_37, li_38, li_39, li_40, li_41, li_42, li_43, li_44, li_45, li_46, li_47, li_48, li_49, li_50, li_51, li_52, li_53, li_54, li_55, li_56, li_57, li_58, li_59, li_60, li_61, li_62, li_63, li_64, li_65, li_66, li_96, li_97, li_99, li_100, li_122, li_125, li_126, li_140, li_255, li_256, li_999, li_1000, li_1001, li_1002, li_1100, li_1386, li_1452, li_1518, li_9999, li_1000000, nm_eq, w_in, bd_s, n10, ↓reduceIte, inb_n, ck_t, nI_clamp, nar1, nI_add, nI_mulN, cp]
        rw [gA_sAn _ _ _ (by decide)]; rfl
      · obtain ⟨o1, o2, o3, ⟨o5, o6⟩, o7, o8, o9⟩ := hA
        refine ⟨o1, o2, o3, ⟨Nat.or_lt_two_pow (n := 4) hM16 p16, fun k hk hb => ?_⟩, o7, o8, o9⟩
        simp only [aG_mk, aQ_mk, aP_mk, aM_mk, aB_mk, aL_mk, aT_mk, aN_mk] at hb ⊢
        by_cases e : k = m
        · rw [if_pos e]; exact o2
        · rw [if_neg e]; rw [bt_or_ne (fun c => e c.symm)] at hb; exact o6 k hk hb
      · refine RC_chg (f' := f) hP hK ?_ ?_ ?_ ?_ ?_ ?_ ?_
        · intro b x1 x2 x3 x4
          rw [st_ne _ _ x1, st_ne _ _ (x4 m hm)]; exact Or.inl rfl
        · intro b
          by_cases e : b = p
          · subst e; rw [st_same]; rfl
          · rw [st_ne _ _ e]
            by_cases e2 : b = p + 202 + 7 * m
            · subst e2; rw [st_same, gC_tkA]
            · rw [st_ne _ _ e2]
        · intro k; rw [st_same]; rfl
        · intro k; rw [st_same]; rfl
        · rw [st_ne _ _ (by omega), st_ne _ _ (by omega)]; exact hK.1
        · rw [st_same]
          refine ⟨by rw [gI_sI, if_neg (by decide)]; exact k16, kf, by rw [gI_sI, if_neg (by decide)]; exact k17, fun i hi => ?_⟩
          have hi17 : (f + i) % 17 < 17 := Nat.mod_lt _ (by decide)
          rw [st_ne _ _ (by omega), st_ne _ _ (by omega)]
          exact kp i hi
        · rw [st_same]
          refine ⟨by rw [gI_sI, if_pos rfl], fun k hk hb => ?_⟩
          simp only at hb ⊢
          rw [st_ne _ _ (by omega)]
          by_cases e : k = m
          · subst e; rw [if_pos rfl, st_same]; exact CHL_tkA hK.1 cm.1 h8
          · rw [if_neg e, st_ne _ _ (by omega)]
            rw [bt_or_ne (fun c => e c.symm)] at hb
            exact km k hk hb
      · refine RM_chg hM (mop_26' (fun k hk => ?_) rfl rfl rfl rfl rfl) ?_ ⟨hM.2.2.2.1.1, fun i hi => ?_⟩ (fun k hk => ⟨?_, fun hb => ?_⟩)
        · rw [gA_sI, gA_sAfn _ _ (by omega), gA_sAn _ _ _ (by omega)]; rfl
        · refine MHL_ext (G := aG A) (fun k hk => ?_) hA.2.1 hM.2.2.1
          rw [gA_sI, gA_sAf, pk_cpy_out (by omega)]
        · refine MH_ext (fun k hk => ?_) (hA.2.2.1.2 i hi).1.2.1 (hM.2.2.2.1.2 i hi)
          rw [gA_sI, gA_sAf, pk_cpy_out (by omega)]
        · simp only
          rw [gA_sI, gA_sAfn _ _ (by decide), gA_sA]
          by_cases e : k = m
          · subst e; rw [if_pos rfl, (bt_or_p2 (aM A).1 k k).mpr (Or.inr rfl)]
          · rw [if_neg e, bt_or_ne (fun c => e c.symm)]; exact (hM.2.2.2.2.1 k hk).1
        · simp only at hb ⊢
          by_cases e : k = m
          · subst e; rw [if_pos rfl]
            refine MHL_ext (G := aG A) (fun j hj => ?_) hA.2.1 hM.2.2.1
            rw [gA_sI, gA_sAf, pk_cpy_in (by omega) (by omega)]
            congr 1; omega
          · rw [if_neg e]
            rw [bt_or_ne (fun c => e c.symm)] at hb
            refine MHL_ext (fun j hj => ?_) (hA.2.2.2.1.2 k hk hb) ((hM.2.2.2.2.1 k hk).2 hb)
            rw [gA_sI, gA_sAf, pk_cpy_out (by omega)]
    · by_cases hb : bt (aM A).1 m = 0
      · refine ⟨nI 0, S, sI v 0 (nI 0), ?_, ?_, hno⟩
        · simp (disch := omega) only [f_X12_mark, f_X12_mark_0, ↓lm_1, ↓lm_2, ↓lm_3, ↓lm_4, ↓lm_5, ↓lm_6, ↓lm_7, ↓lm_8, ↓lm_9, ↓lm_10, ↓lm_11, li_0, li_1, li_2, li_3, li_4, li_5, li_6, li_7, li_8, li_9, li_10, li_11, li_12, li_13, li_14, li_15, li_16, li_17, li_18, li_19, li_20, li_21, li_22, li_23, li_24, li_25, li_26, li_27, li_28, li_29, li_30, li_31, li_32, li_33, li_34, li_35, li_36, li_37, li_38, li_39, li_40, li_41, li_42, li_43, li_44, li_45, li_46, li_47, li_48, li_49, li_50, li_51, li_52, li_53, li_54, li_55, li_56, li_57, li_58, li_59, li_60, li_61, li_62, li_63, li_64, li_65, li_66, li_96, li_97, li_99, li_100, li_122, li_125, li_126, li_140, li_255, li_256, li_999, li_1000, li_1001, li_1002, li_1100, li_1386, li_1452, li_1518, li_9999, li_1000000, e0, e4, y0, ↓reduceIte, k18, nI_and31, nI_bt, hb]
        · simp (disch := omega) only [f_X13_mark, f_X13_mark_0, f_X13_mark_27, ↓lm_1, ↓lm_2, ↓lm_3, ↓lm_4, ↓lm_5, ↓lm_6, ↓lm_7, ↓lm_8, ↓lm_9, ↓lm_10, ↓lm_11, li_0, li_1, li_2, li_3, li_4, li_5, li_6, li_7, li_8, li_9, li_10, li_11, li_12, li_13, li_14, li_15, li_16, li_17, li_18, li_19, li_20, li_21, li_22, li_23, li_24, li_25, li_26, li_27, li_28, li_29, li_30, li_31, li_32, li_33, li_34, li_35, li_36, li_37, li_38, li_39, li_40, li_41, li_42, li_43, li_44, li_45, li_46, li_47, li_48, li_49, li_50, li_51, li_52, li_53, li_54, li_55, li_56, li_57, li_58, li_59, li_60, li_61, li_62, li_63, li_64, li_65, li_66, li_96, li_97, li_99, li_100, li_122, li_125, li_126, li_140, li_255, li_256, li_999, li_1000, li_1001, li_1002, li_1100, li_1386, li_1452, li_1518, li_9999, li_1000000, nm_eq, w_in, bd_s, n10, y0, ↓reduceIte, inb_n, ck_t, nI_clamp, g26, hb]
      · have hb1 : bt (aM A).1 m = 1 := by omega
        have okm := hA.2.2.2.1.2 m hm hb1
        have tk := x3_takeAll (fu := fu) (S := S) (a := p + 9) (g := p + 202 + 7 * m) (by omega)
        refine ⟨nI 1, st (st S (p + 9) (tkA (S (p + 9)) (S (p + 202 + 7 * m)))) p (sI (S p) 17 (nI 0)), sI (sAf (sA (sI v 0 (nI 0)) 26 m (nI 1)) 24 (va_cpy (gA v 24) (gA v 24) (66 * (1 + m)) 0 66)) 25 (nI 0), ?_, ?_, ⟨mkA (aG A) ((aM A).2 m) (0, (aP A).2) (aM A) (aB A) (aL A) (aT A) (aN A), ?_, ?_, ?_⟩⟩
        · simp (disch := omega) only [f_X12_mark, f_X12_mark_0, ↓lm_1, ↓lm_2, ↓lm_3, ↓lm_4, ↓lm_5, ↓lm_6, ↓lm_7, ↓lm_8, ↓lm_9, ↓lm_10, ↓lm_11, li_0, li_1, li_2, li_3, li_4, li_5, li_6, li_7, li_8, li_9, li_10, li_11, li_12, li_13, li_14, li_15, li_16, li_17, li_18, li_19, li_20, li_21, li_22, li_23, li_24, li_25, li_26, li_27, li_28, li_29, li_30, li_31, li_32, li_33, li_34, li_35, li_36, li_37, li_38, li_39, li_40, li_41, li_42, li_43, li_44, li_45, li_46, li_47, li_48, li_49, li_50, li_51, li_52, li_53, li_54, li_55, li_56, li_57, li_58, li_59, li_60, li_61, li_62, li_63, li_64, li_65, li_66, li_96, li_97, li_99, li_100, li_122, li_125, li_126, li_140, li_255, li_256, li_999, li_1000, li_1001, li_1002, li_1100, li_1386, li_1452, li_1518, li_9999, li_1000000, e0, e4, y0, ↓reduceIte, k18, nI_and31, nI_bt, hb1, n10, inb_n, ck_t, nI_clamp, cm.2, bd_s, cm.1, hc9, decide_true, tk, nm_eq, st_ne]
        · have cp := m_copies (v := sA (sI v 0 (nI 0)) 26 m (nI 1)) hf (a := 66 * (1 + m)) (b := 0) (n := 66) (by omega) (by omega) (by omega) (by omega)
          simp (disch := omega) only [f_X13_mark, f_X13_mark_0, f_X13_mark_29, f_X13_mark_51, f_X13_mark_65, f_X13_mark_83, ↓lm_1, ↓lm_2, ↓lm_3, ↓lm_4, ↓lm_5, ↓lm_6, ↓lm_7, ↓lm_8, ↓lm_9, ↓lm_10, ↓lm_11, li_0, li_1, li_2, li_3, li_4, li_5, li_6, li_7, li_8, li_9, li_10, li_11, li_12, li_13, li_14, li_15, li_16, li_17, li_18, li_19, li_20, li_21, li_22, li_23, li_24, li_25, li_26, li_27, li_28, li_29, li_30, li_31, li_32, li_33, li_34, li_35, li_36, li_37, li_38, li_39, li_40, li_41, li_42, li_43, li_44, li_45, li_46, li_47, li_48, li_49, li_50, li_51, li_52, li_53, li_54, li_55, li_56, li_57, li_58, li_59, li_60, li_61, li_62, li_63, li_64, li_65, li_66, li_96, li_97, li_99, li_100, li_122, li_125, li_126, li_140, li_255, li_256, li_999, li_1000, li_1001, li_1002, li_1100, li_1386, li_1452, li_1518, li_9999, li_1000000, nm_eq, w_in, bd_s, n10, y0, ↓reduceIte, inb_n, ck_t, nI_clamp, g26, hb1, nar1, nI_add, nI_mulN, cp]
          rw [gA_sAn _ _ _ (by decide)]; rfl
        · obtain ⟨o1, o2, ⟨o3, o4⟩, o5, o7, o8, o9⟩ := hA
          exact ⟨o1, okm, ⟨by simp only [aG_mk, aQ_mk, aP_mk, aM_mk, aB_mk, aL_mk, aT_mk, aN_mk]; omega, fun i hi => by simp only [aG_mk, aQ_mk, aP_mk, aM_mk, aB_mk, aL_mk, aT_mk, aN_mk] at hi; omega⟩, o5, o7, o8, o9⟩
        · refine RC_chg (f' := f) hP hK ?_ ?_ ?_ ?_ ?_ ?_ ?_
          · intro b x1 x2 _ _
            rw [st_ne _ _ x1, st_ne _ _ x2]; exact Or.inl rfl
          · intro b
            by_cases e : b = p
            · subst e; rw [st_same]; rfl
            · rw [st_ne _ _ e]
              by_cases e2 : b = p + 9
              · subst e2; rw [st_same, gC_tkA]
              · rw [st_ne _ _ e2]
          · intro k; rw [st_same]; rfl
          · intro k; rw [st_same]; rfl
          · rw [st_ne _ _ (by omega), st_same]; exact CHL_tkA (km m hm hb1) hc9 okm.1.1.2.1
          · rw [st_same]
            refine ⟨by rw [gI_sI, if_neg (by decide)]; exact k16, kf, by rw [gI_sI, if_pos rfl], fun i hi => ?_⟩
            simp only at hi; omega
          · rw [st_same]
            refine ⟨by rw [gI_sI, if_neg (by decide)]; exact k18, fun k hk hb => ?_⟩
            rw [st_ne _ _ (by omega), st_ne _ _ (by omega)]
            exact km k hk hb
        · refine RM_chg hM (mop_26' (fun k hk => ?_) rfl rfl rfl rfl rfl) ?_ ⟨by rw [gI_sI, if_pos rfl], fun i hi => ?_⟩ (fun k hk => ⟨?_, fun hb => ?_⟩)
          · rw [gA_sI, gA_sAfn _ _ (by omega), gA_sAn _ _ _ (by omega)]; rfl
          · refine MHL_ext (fun k hk => ?_) okm ((hM.2.2.2.2.1 m hm).2 hb1)
            rw [gA_sI, gA_sAf, pk_cpy_in (by omega) (by omega)]
            congr 1
          · simp only at hi; omega
          · rw [gA_sI, gA_sAfn _ _ (by decide), gA_sA]
            by_cases e : k = m
            · subst e; rw [if_pos rfl, hb1]
            · rw [if_neg e]; exact (hM.2.2.2.2.1 k hk).1
          · refine MHL_ext (fun j hj => ?_) (hA.2.2.2.1.2 k hk hb) ((hM.2.2.2.2.1 k hk).2 hb)
            rw [gA_sI, gA_sAf, pk_cpy_out (by omega)]
  · refine ⟨nI 0, S, sI v 0 (nI 0), ?_, ?_, hno⟩
    · simp only [f_X12_mark, f_X12_mark_0, f_X12_mark_9, ↓lm_1, ↓lm_2, ↓lm_3, ↓lm_4, ↓lm_5, ↓lm_6, ↓lm_7, ↓lm_8, ↓lm_9, ↓lm_10, ↓lm_11, li_0, li_1, li_2, li_3, li_4, li_5, li_6, li_7, li_8, li_9, li_10, li_11, li_12, li_13, li_14, li_15, li_16, li_17, li_18, li_19, li_20, li_21, li_22, li_23, li_24, li_25, li_26, li_27, li_28, li_29, li_30, li_31, li_32, li_33, li_34, li_35, li_36, li_37, li_38, li_39, li_40, li_41, li_42, li_43, li_44, li_45, li_46, li_47, li_48, li_49, li_50, li_51, li_52, li_53, li_54, li_55, li_56, li_57, li_58, li_59, li_60, li_61, li_62, li_63, li_64, li_65, li_66, li_96, li_97, li_99, li_100, li_122, li_125, li_126, li_140, li_255, li_256, li_999, li_1000, li_1001, li_1002, li_1100, li_1386, li_1452, li_1518, li_9999, li_1000000]
      rcases bad4 (by omega) hx with c | ⟨c1, c2⟩
      · rw [if_pos c]
      · rw [if_neg c1, if_neg c2]
    · simp (disch := omega) only [f_X13_mark, f_X13_mark_0, f_X13_mark_27, ↓lm_1, ↓lm_2, ↓lm_3, ↓lm_4, ↓lm_5, ↓lm_6, ↓lm_7, ↓lm_8, ↓lm_9, ↓lm_10, ↓lm_11, li_0, li_1, li_2, li_3, li_4, li_5, li_6, li_7, li_8, li_9, li_10, li_11, li_12, li_13, li_14, li_15, li_16, li_17, li_18, li_19, li_20, li_21, li_22, li_23, li_24, li_25, li_26, li_27, li_28, li_29, li_30, li_31, li_32, li_33, li_34, li_35, li_36, li_37, li_38, li_39, li_40, li_41, li_42, li_43, li_44, li_45, li_46, li_47, li_48, li_49, li_50, li_51, li_52, li_53, li_54, li_55, li_56, li_57, li_58, li_59, li_60, li_61, li_62, li_63, li_64, li_65, li_66, li_96, li_97, li_99, li_100, li_122, li_125, li_126, li_140, li_255, li_256, li_999, li_1000, li_1001, li_1002, li_1100, li_1386, li_1452, li_1518, li_9999, li_1000000, nm_eq, w_out hx, bd_s, ↓reduceIte]
theorem lob_up {l : LK} {s o k : Nat} : ∀ j, j ≤ l.1 → lob (l.1 + 1, upN l.2.1 l.1 s, upN l.2.2 l.1 o) k j = lob l k j := by
  intro j
  induction j with
  | zero => intro _; rfl
  | succ j ih =>
    intro hj
    simp only [lob]
    rw [ih (by omega), upN_n (by omega), upN_n (by omega)]
theorem lob_one {l : LK} {s o k : Nat} : lob (l.1 + 1, upN l.2.1 l.1 s, upN l.2.2 l.1 o) k (l.1 + 1) = if o = k then lob l k l.1 ||| 2 ^ s else lob l k l.1 := by
  rw [lob, lob_up _ (Nat.le_refl _)]
  simp only [upN_s]
theorem r_look (hf : 1101 ≤ fu) (h : RR p S v) (x y : Int32) : ∃ z S' v', f_X12_look fu S p x y = some (z, S') ∧ f_X13_look fu v x y = some (z, v') ∧ RR p S' v' := by
  obtain ⟨A, hA, hC, hM⟩ := h
  obtain ⟨t, d, ln, dl, f, hP, hK⟩ := id hC
  have hc9 := hP.1.2.2.1
  have hct := hP.2.1.1
  have hrt := hP.2.2.2.2.1.1
  have hG := hA.1
  have hgc := hK.2.1
  have hl8 := hA.2.1.2.1
  have h8 := hA.2.1.1.1.2.1
  have hg : MG (sI v 0 (nI 0)) (aG A) := hM.2.1
  have hno : RR p S (sI v 0 (nI 0)) := RR_q hA hC hM (scr_refl p S) (q1 v)
  have m48 : gA (sI v 0 (nI 0)) 24 48 = nI (aQ A).2.1 := hM.2.2.1.2.1
  by_cases hx : ∃ j, j < ns (aG A) ∧ x = nI j
  · obtain ⟨s, hs, rfl⟩ := hx
    have hs8 : s < 8 := by have := hG.1; omega
    by_cases c : (aQ A).2.1 < 8
    · have e8 : nI (aQ A).2.1 < nI 8 := nI_lt c (by omega)
      have e8' : ¬ nI (aQ A).2.1 = nI 8 := by rw [nI_eq (by omega) (by omega)]; omega
      have l1 := lob_lt hG hA.2.1.2 1 _ (Nat.le_refl _)
      have l0 := lob_lt hG hA.2.1.2 0 _ (Nat.le_refl _)
      have p2 := p2_256 hs8
      obtain ⟨o, ho, hy⟩ : ∃ o, o < 2 ∧ (y = nI 0 ↔ o = 0) := by
        by_cases e : y = nI 0
        · exact ⟨0, by omega, by simp [e]⟩
        · exact ⟨1, by omega, by simp [e]⟩
      refine ⟨nI 1, st S (p + 9) (if o = 0 then sI (sI (S (p + 9)) 10 (nI ((aQ A).2.1 + 1))) 12 (nI (lob (aQ A).2 0 (aQ A).2.1 ||| 2 ^ s)) else sI (sI (S (p + 9)) 10 (nI ((aQ A).2.1 + 1))) 11 (nI (lob (aQ A).2 1 (aQ A).2.1 ||| 2 ^ s))), sA (sA (sA (sI v 0 (nI 0)) 24 (49 + 2 * (aQ A).2.1) (nI s)) 24 (49 + 2 * (aQ A).2.1 + 1) (nI o)) 24 48 (nI ((aQ A).2.1 + 1)), ?_, ?_, ⟨mkA (aG A) ((aQ A).1, ((aQ A).2.1 + 1, upN (aQ A).2.2.1 (aQ A).2.1 s, upN (aQ A).2.2.2 (aQ A).2.1 o)) (aP A) (aM A) (aB A) (aL A) (aT A) (aN A), ?_, ?_, ?_⟩⟩
      · simp (disch := omega) only [f_X12_look, f_X12_look_0, f_X12_look_75, ↓lm_1, ↓lm_2, ↓lm_3, ↓lm_4, ↓lm_5, ↓lm_6, ↓lm_7, ↓lm_8, ↓lm_9, ↓lm_10, ↓lm_11, li_0, li_1, li_2, li_3, li_4, li_5, li_6, li_7, li_8, li_9, li_10, li_11, li_12, li_13, li_14, li_15, li_16, li_17, li_18, li_19, li_20, li_21, li_22, li_23, li_24, li_25, li_26, li_27, li_28, li_29, li_30, li_31, li_32, li_33, li_34, li_35, li_36, li_37, li_38, li_39, li_40, li_41, li_42, li_43, li_44, li_45, li_46, li_47, li_48, li_49, li_50, li_51, li_52, li_53, li_54, li_55, li_56, li_57, li_58, li_59, li_60, li_61, li_62, li_63, li_64, li_65, li_66, li_96, li_97, li_99, li_100, li_122, li_125, li_126, li_140, li_255, li_256, li_999, li_1000, li_1001, li_1002, li_1100, li_1386, li_1452, li_1518, li_9999, li_1000000, hrt, bd_s, hct, hc9, decide_true, ck_t, x1_hasSpot_in hgc hG hs, n10, ↓reduceIte, hK.1.2.1, e8, nm_eq, nI_add, st_same, st_st, gI_sI, hK.1.2.2.1, hK.1.2.2.2, nI_and31, nI_shl1, nI_orN, ↓reduceIte, Nat.reduceEqDiff, Nat.reduceAdd, Nat.reduceSub, Nat.reduceMul, Nat.reduceLT, Nat.reduceLeDiff, reduceCtorEq, Nat.add_zero, Nat.zero_add, ne_eq, not_true_eq_false, not_false_eq_true, Nat.succ_ne_self, Nat.zero_ne_one, Nat.one_ne_zero, decide_true, decide_false, Bool.false_eq_true, and_true, true_and, and_self, and_false, false_and, hy]
        by_cases e : o = 0
        · rw [if_pos e, if_pos e]
        · rw [if_neg e, if_neg e]
      · have e1 : ¬ (48 : Nat) = 49 + 2 * (aQ A).2.1 := by omega
        have e2 : ¬ (48 : Nat) = 49 + 2 * (aQ A).2.1 + 1 := by omega
        simp (disch := omega) only [f_X13_look, f_X13_look_0, f_X13_look_72, ↓lm_1, ↓lm_2, ↓lm_3, ↓lm_4, ↓lm_5, ↓lm_6, ↓lm_7, ↓lm_8, ↓lm_9, ↓lm_10, ↓lm_11, li_0, li_1, li_2, li_3, li_4, li_5, li_6, li_7, li_8, li_9, li_10, li_11, li_12, li_13, li_14, li_15, li_16, li_17, li_18, li_19, li_20, li_21, li_22, li_23, li_24, li_25, li_26, li_27, li_28, li_29, li_30, li_31, li_32, li_33, li_34, li_35, li_36, li_37, li_38, li_39, li_40, li_41, li_42, li_43, li_44, li_45, li_46, li_47, li_48, li_49, li_50, li_51, li_52, li_53, li_54, li_55, li_56, li_57, li_58, li_59, li_60, li_61, li_62, li_63, li_64, li_65, li_66, li_96, li_97, li_99, li_100, li_122, li_125, li_126, li_140, li_255, li_256, li_999, li_1000, li_1001, li_1002, li_1100, li_1386, li_1452, li_1518, li_9999, li_1000000, nm_eq, m_isSpot_in hg hG hs, bd_s, n10, ↓reduceIte, nI_clamp, m48, e8', nI_mulN, nI_add, inb_n, ck_t, gA_sA, e1, e2, hy]
        rcases (show o = 0 ∨ o = 1 by omega) with e | e <;> subst e <;> simp only [↓reduceIte, Nat.one_ne_zero]
      · obtain ⟨o1, o2, o3, o5, o7, o8, o9⟩ := hA
        refine ⟨o1, ⟨o2.1, by simp only [aG_mk, aQ_mk, aP_mk, aM_mk, aB_mk, aL_mk, aT_mk, aN_mk]; omega, fun i hi => ?_⟩, o3, o5, o7, o8, o9⟩
        simp only [aG_mk, aQ_mk, aP_mk, aM_mk, aB_mk, aL_mk, aT_mk, aN_mk] at hi ⊢
        by_cases e : i = (aQ A).2.1
        · rw [e, upN_s, upN_s]; exact ⟨hs, ho⟩
        · rw [upN_n e, upN_n e]; exact o2.2.2 i (by omega)
      · refine RC_chg (f' := f) hP hK ?_ ?_ ?_ ?_ ?_ ?_ ?_
        · intro b x1 x2 _ _
          rw [st_ne _ _ x2]; exact Or.inl rfl
        · intro b
          by_cases e2 : b = p + 9
          · subst e2; rw [st_same]; split <;> rfl
          · rw [st_ne _ _ e2]
        · intro k; rw [st_ne _ _ (by omega)]
        · intro k; rw [st_ne _ _ (by omega)]
        · rw [st_same]
          refine ⟨?_, ?_, ?_, ?_⟩
          · split
            · exact CH_sI (CH_sI hK.1.1 (by omega) _) (by omega) _
            · exact CH_sI (CH_sI hK.1.1 (by omega) _) (by omega) _
          · split <;> simp only [gI_sI, ↓reduceIte, Nat.reduceEqDiff, Nat.reduceAdd, Nat.reduceSub, Nat.reduceMul, Nat.reduceLT, Nat.reduceLeDiff, reduceCtorEq, Nat.add_zero, Nat.zero_add, ne_eq, not_true_eq_false, not_false_eq_true, Nat.succ_ne_self, Nat.zero_ne_one, Nat.one_ne_zero, decide_true, decide_false, Bool.false_eq_true, and_true, true_and, and_self, and_false, false_and]
          · rw [lob_one]
            by_cases e : o = 0
            · rw [if_pos e, if_neg (by omega)]; simp only [gI_sI, ↓reduceIte, Nat.reduceEqDiff, Nat.reduceAdd, Nat.reduceSub, Nat.reduceMul, Nat.reduceLT, Nat.reduceLeDiff, reduceCtorEq, Nat.add_zero, Nat.zero_add, ne_eq, not_true_eq_false, not_false_eq_true, Nat.succ_ne_self, Nat.zero_ne_one, Nat.one_ne_zero, decide_true, decide_false, Bool.false_eq_true, and_true, true_and, and_self, and_false, false_and]; exact hK.1.2.2.1
            · rw [if_neg e, if_pos (by omega)]; simp only [gI_sI, ↓reduceIte, Nat.reduceEqDiff, Nat.reduceAdd, Nat.reduceSub, Nat.reduceMul, Nat.reduceLT, Nat.reduceLeDiff, reduceCtorEq, Nat.add_zero, Nat.zero_add, ne_eq, not_true_eq_false, not_false_eq_true, Nat.succ_ne_self, Nat.zero_ne_one, Nat.one_ne_zero, decide_true, decide_false, Bool.false_eq_true, and_true, true_and, and_self, and_false, false_and]
          · rw [lob_one]
            by_cases e : o = 0
            · rw [if_pos e, if_pos e]; simp only [gI_sI, ↓reduceIte, Nat.reduceEqDiff, Nat.reduceAdd, Nat.reduceSub, Nat.reduceMul, Nat.reduceLT, Nat.reduceLeDiff, reduceCtorEq, Nat.add_zero, Nat.zero_add, ne_eq, not_true_eq_false, not_false_eq_true, Nat.succ_ne_self, Nat.zero_ne_one, Nat.one_ne_zero, decide_true, decide_false, Bool.false_eq_true, and_true, true_and, and_self, and_false, false_and]
            · rw [if_neg e, if_neg e]; simp only [gI_sI, ↓reduceIte, Nat.reduceEqDiff, Nat.reduceAdd, Nat.reduceSub, Nat.reduceMul, Nat.reduceLT, Nat.reduceLeDiff, reduceCtorEq, Nat.add_zero, Nat.zero_add, ne_eq, not_true_eq_false, not_false_eq_true, Nat.succ_ne_self, Nat.zero_ne_one, Nat.one_ne_zero, decide_true, decide_false, Bool.false_eq_true, and_true, true_and, and_self, and_false, false_and]; exact hK.1.2.2.2
        · rw [st_ne _ _ (by omega)]
          obtain ⟨k16, kf, k17, kp⟩ := id hK.2.2.2.2.1
          refine ⟨k16, kf, k17, fun i hi => ?_⟩
          have hi17 : (f + i) % 17 < 17 := Nat.mod_lt _ (by decide)
          rw [st_ne _ _ (by omega)]; exact kp i hi
        · rw [st_ne _ _ (by omega)]
          refine ⟨hK.2.2.2.2.2.1.1, fun m hm hb => ?_⟩
          rw [st_ne _ _ (by omega)]; exact hK.2.2.2.2.2.1.2 m hm hb
      · have hlow : ∀ z, z ≠ 48 → z ≠ 49 + 2 * (aQ A).2.1 → z ≠ 49 + 2 * (aQ A).2.1 + 1 → gA (sA (sA (sA (sI v 0 (nI 0)) 24 (49 + 2 * (aQ A).2.1) (nI s)) 24 (49 + 2 * (aQ A).2.1 + 1) (nI o)) 24 48 (nI ((aQ A).2.1 + 1))) 24 z = gA v 24 z := by
          intro z z1 z2 z3
          rw [gA_sA, if_neg z1, gA_sA, if_neg z3, gA_sA, if_neg z2]; rfl
        refine RM_chg hM (mop_26 (mop_sA (mop_sA (mop_sA (m1 v) (by omega)) (by omega)) (by omega))) ⟨?_, ?_, fun i hi => ?_⟩ ⟨hM.2.2.2.1.1, fun i hi => ?_⟩ (fun m hm => ⟨?_, fun hb => ?_⟩)
        · exact MH_ext (fun k hk => hlow k (by omega) (by omega) (by omega)) h8 hM.2.2.1.1
        · rw [gA_sA, if_pos rfl]
        · simp only at hi ⊢
          by_cases e : i = (aQ A).2.1
          · rw [e, upN_s, upN_s, gA_sA, if_neg (by omega), gA_sA, if_neg (by omega), gA_sA, if_pos rfl, gA_sA, if_neg (by omega), gA_sA, if_pos rfl]
            exact ⟨rfl, rfl⟩
          · rw [upN_n e, upN_n e, hlow _ (by omega) (by omega) (by omega), hlow _ (by omega) (by omega) (by omega)]
            exact hM.2.2.1.2.2 i (by omega)
        · exact MH_ext (fun k hk => hlow _ (by omega) (by omega) (by omega)) (hA.2.2.1.2 i hi).1.2.1 (hM.2.2.2.1.2 i hi)
        · rw [gA_sAn _ _ _ (by decide), gA_sAn _ _ _ (by decide), gA_sAn _ _ _ (by decide)]; exact (hM.2.2.2.2.1 m hm).1
        · exact MHL_ext (fun k hk => hlow _ (by omega) (by omega) (by omega)) (hA.2.2.2.1.2 m hm hb) ((hM.2.2.2.2.1 m hm).2 hb)
    · have e8 : (aQ A).2.1 = 8 := by omega
      have e8' : ¬ nI 8 < nI 8 := by decide
      refine ⟨nI 0, S, sI v 0 (nI 0), ?_, ?_, hno⟩
      · simp only [f_X12_look, f_X12_look_0, f_X12_look_23, ↓lm_1, ↓lm_2, ↓lm_3, ↓lm_4, ↓lm_5, ↓lm_6, ↓lm_7, ↓lm_8, ↓lm_9, ↓lm_10, ↓lm_11, li_0, li_1, li_2, li_3, li_4, li_5, li_6, li_7, li_8, li_9, li_10, li_11, li_12, li_13, li_14, li_15, li_16, li_17, li_18, li_19, li_20, li_21, li_22, li_23, li_24, li_25, li_26, li_27, li_28, li_29, li_30, li_31, li_32, li_33, li_34, li_35, li_36, li_37, li_38, li_39, li_40, li_41, li_42, li_43, li_44, li_45, li_46, li_47, li_48, li_49, li_50, li_51, li_52, li_53, li_54, li_55, li_56, li_57, li_58, li_59, li_60, li_61, li_62, li_63, li_64, li_65, li_66, li_96, li_97, li_99, li_100, li_122, li_125, li_126, li_140, li_255, li_256, li_999, li_1000, li_1001, li_1002, li_1100, li_1386, li_1452, li_1518, li_9999, li_1000000, hrt, bd_s, hct, hc9, decide_true, ck_t, x1_hasSpot_in hgc hG hs, n10, ↓reduceIte, hK.1.2.1, e8, e8']
      · simp (disch := omega) only [f_X13_look, f_X13_look_0, f_X13_look_25, ↓lm_1, ↓lm_2, ↓lm_3, ↓lm_4, ↓lm_5, ↓lm_6, ↓lm_7, ↓lm_8, ↓lm_9, ↓lm_10, ↓lm_11, li_0, li_1, li_2, li_3, li_4, li_5, li_6, li_7, li_8, li_9, li_10, li_11, li_12, li_13, li_14, li_15, li_16, li_17, li_18, li_19, li_20, li_21, li_22, li_23, li_24, li_25, li_26, li_27, li_28, li_29, li_30, li_31, li_32, li_33, li_34, li_35, li_36, li_37, li_38, li_39, li_40, li_41, li_42, li_43, li_44, li_45, li_46, li_47, li_48, li_49, li_50, li_51, li_52, li_53, li_54, li_55, li_56, li_57, li_58, li_59, li_60, li_61, li_62, li_63, li_64, li_65, li_66, li_96, li_97, li_99, li_100, li_122, li_125, li_126, li_140, li_255, li_256, li_999, li_1000, li_1001, li_1002, li_1100, li_1386, li_1452, li_1518, li_9999, li_1000000, nm_eq, m_isSpot_in hg hG hs, bd_s, n10, ↓reduceIte, nI_clamp, m48, e8]
  · refine ⟨nI 0, S, sI v 0 (nI 0), ?_, ?_, hno⟩
    · simp only [f_X12_look, f_X12_look_0, f_X12_look_23, ↓lm_1, ↓lm_2, ↓lm_3, ↓lm_4, ↓lm_5, ↓lm_6, ↓lm_7, ↓lm_8, ↓lm_9, ↓lm_10, ↓lm_11, li_0, li_1, li_2, li_3, li_4, li_5, li_6, li_7, li_8, li_9, li_10, li_11, li_12, li_13, li_14, li_15, li_16, li_17, li_18, li_19, li_20, li_21, li_22, li_23, li_24, li_25, li_26, li_27, li_28, li_29, li_30, li_31, li_32, li_33, li_34, li_35, li_36, li_37, li_38, li_39, li_40, li_41, li_42, li_43, li_44, li_45, li_46, li_47, li_48, li_49, li_50, li_51, li_52, li_53, li_54, li_55, li_56, li_57, li_58, li_59, li_60, li_61, li_62, li_63, li_64, li_65, li_66, li_96, li_97, li_99, li_100, li_122, li_125, li_126, li_140, li_255, li_256, li_999, li_1000, li_1001, li_1002, li_1100, li_1386, li_1452, li_1518, li_9999, li_1000000, hrt, bd_s, hct, decide_true, ck_t, x1_hasSpot_out hgc hG hx, ↓reduceIte]
    · simp only [f_X13_look, f_X13_look_0, f_X13_look_25, ↓lm_1, ↓lm_2, ↓lm_3, ↓lm_4, ↓lm_5, ↓lm_6, ↓lm_7, ↓lm_8, ↓lm_9, ↓lm_10, ↓lm_11, li_0, li_1, li_2, li_3, li_4, li_5, li_6, li_7, li_8, li_9, li_10, li_11, li_12, li_13, li_14, li_15, li_16, li_17, li_18, li_19, li_20, li_21, li_22, li_23, li_24, li_25, li_26, li_27, li_28, li_29, li_30, li_31, li_32, li_33, li_34, li_35, li_36, li_37, li_38, li_39, li_40, li_41, li_42, li_43, li_44, li_45, li_46, li_47, li_48, li_49, li_50, li_51, li_52, li_53, li_54, li_55, li_56, li_57, li_58, li_59, li_60, li_61, li_62, li_63, li_64, li_65, li_66, li_96, li_97, li_99, li_100, li_122, li_125, li_126, li_140, li_255, li_256, li_999, li_1000, li_1001, li_1002, li_1100, li_1386, li_1452, li_1518, li_9999, li_1000000, nm_eq, m_isSpot_out hg hG hx, bd_s, ↓reduceIte]
end H
/-! the tape: what is fed -/
def app (T : TP) (c : Nat) : TP := if (c = 10 ∨ (32 ≤ c ∧ c ≤ 126)) ∧ T.1 < 1000 then (T.1 + 1, upN T.2 T.1 c) else T
def byt (x : Int64) (k : Nat) : Nat := (x >>> ((nI (8 * k)).toInt64 &&& 63)).toInt32.toBitVec.toNat % 256
def tps (T : TP) (x : Int64) : Nat → TP
  | 0 => T
  | j + 1 => app (tps T x j) (byt x (7 - j))
theorem byt_m (x : Int64) (k : Nat) : (x >>> ((nI (8 * k)).toInt64 &&& 63)).toInt32 &&& nI 255 = nI (byt x k) := pk_and _ 8 (by decide)
theorem by_eq (x : Int64) {k : Nat} (hk : k < 8) : ((x.toUInt64 >>> ((nI (8 * k)).toInt64.toUInt64 &&& Int64.toUInt64 63)).toInt64 &&& (255 : Int64)).toInt32 = (x >>> ((nI (8 * k)).toInt64 &&& 63)).toInt32 &&& nI 255 := by
  have e1 : ((nI (8 * k)).toInt64.toUInt64 &&& Int64.toUInt64 63).toBitVec % 64 = BitVec.ofNat 64 (8 * k) := by
    have h : (List.range 8).all (fun k => decide (((nI (8 * k)).toInt64.toUInt64 &&& Int64.toUInt64 63).toBitVec % 64 = BitVec.ofNat 64 (8 * k))) = true := by decide +kernel
    exact co_dec h hk
  have e2 : ((nI (8 * k)).toInt64 &&& 63).toBitVec.smod 64 = BitVec.ofNat 64 (8 * k) := by
    have h : (List.range 8).all (fun k => decide (((nI (8 * k)).toInt64 &&& 63).toBitVec.smod 64 = BitVec.ofNat 64 (8 * k))) = true := by decide +kernel
    exact co_dec h hk
  have t : (BitVec.ofNat 64 (8 * k)).toNat = 8 * k := by rw [BitVec.toNat_ofNat]; omega
  apply Int32.toBitVec_inj.mp
  apply BitVec.eq_of_getLsbD_eq
  intro i hi
  rw [Int32.toBitVec_and, Int64.toBitVec_toInt32, Int64.toBitVec_toInt32, Int64.toBitVec_and, UInt64.toBitVec_toInt64, UInt64.toBitVec_shiftRight, Int64.toBitVec_shiftRight, e1, e2]
  have h64 : i < 64 := by omega
  have r1 : (nI 255).toBitVec = 255#32 := rfl
  have r2 : (255 : Int64).toBitVec = 255#64 := rfl
  have r3 : x.toUInt64.toBitVec = x.toBitVec := rfl
  rw [r1, r2, r3, BitVec.getLsbD_signExtend, BitVec.getLsbD_and, BitVec.getLsbD_and, BitVec.getLsbD_signExtend]
  simp only [hi, h64, decide_true, Bool.true_and, ↓reduceIte, BitVec.getLsbD_ofNat, BitVec.ushiftRight_eq', BitVec.sshiftRight_eq', t, BitVec.getLsbD_ushiftRight, BitVec.getLsbD_sshiftRight]
  by_cases c : i < 8
  · have h1 : ¬ 64 ≤ i := by omega
    have h2 : 8 * k + i < 64 := by omega
    simp only [h1, h2, decide_false, Bool.not_false, Bool.true_and, ↓reduceIte]
  · have z : Nat.testBit 255 i = false := Nat.testBit_lt_two_pow (Nat.lt_of_lt_of_le (show 255 < 2 ^ 8 by decide) (Nat.pow_le_pow_right (by decide) (by omega)))
    simp only [z, Bool.and_false]
theorem stp8 {j : Nat} (hj : j < 8) : nI (8 * (7 - j)) + mI 8 = if j + 1 < 8 then nI (8 * (7 - (j + 1))) else mI 8 := by
  have h : (List.range 8).all (fun j => decide (nI (8 * (7 - j)) + mI 8 = if j + 1 < 8 then nI (8 * (7 - (j + 1))) else mI 8)) = true := by decide +kernel
  exact co_dec h hj
theorem okT_app {T : TP} {c : Nat} (h : okT T) : okT (app T c) := by
  unfold app
  split
  · rename_i q
    refine ⟨by simp only; omega, fun i hi => ?_⟩
    simp only at hi ⊢
    by_cases e : i = T.1
    · rw [e, upN_s]; exact q.1
    · rw [upN_n e]; exact h.2 i (by omega)
  · exact h
theorem okT_tps {T : TP} {x : Int64} (h : okT T) : ∀ j, okT (tps T x j) := by
  intro j
  induction j with
  | zero => exact h
  | succ j ih => exact okT_app ih
theorem cnar {c : Nat} (hc : c < 256) : vp_nar .char (((nI c).toUInt32 % 65536).toInt32) = nI c := by
  rw [pk_vc, pk_char, pk_tn (by omega)]; congr 1; omega
theorem CT_app {w : GV} {T : TP} {c : Nat} (h : CT w T) (hT : T.1 < 1000) (hc : c = 10 ∨ (32 ≤ c ∧ c ≤ 126)) : CT (sI (sA w 0 T.1 (nI c)) 6 (nI (T.1 + 1))) (app T c) := by
  rw [app, if_pos ⟨hc, hT⟩]
  refine ⟨by rw [gI_sI, if_pos rfl], fun i hi => ?_⟩
  simp only at hi ⊢
  rw [gA_sI, gA_sA]
  by_cases e : i = T.1
  · rw [if_pos e, e, upN_s]
  · rw [if_neg e, upN_n e]; exact h.2 i (by omega)
theorem MT_app {w : GV} {T : TP} {c : Nat} (h : MT w T) (hT : T.1 < 1000) (hc : c = 10 ∨ (32 ≤ c ∧ c ≤ 126)) : MT (sI (sA w 1 T.1 (nI c)) 2 (nI (T.1 + 1))) (app T c) := by
  rw [app, if_pos ⟨hc, hT⟩]
  refine ⟨by rw [gI_sI, if_pos rfl], fun i hi => ?_⟩
  simp only at hi ⊢
  rw [gA_sI, gA_sA]
  by_cases e : i = T.1
  · rw [if_pos e, e, upN_s]
  · rw [if_neg e, upN_n e]; exact h.2 i (by omega)
theorem byt_lt (x : Int64) (k : Nat) : byt x k < 256 := Nat.mod_lt _ (by decide)
theorem app_no {T : TP} {c : Nat} (q : ¬ ((c = 10 ∨ (32 ≤ c ∧ c ≤ 126)) ∧ T.1 < 1000)) : app T c = T := by rw [app, if_neg q]
theorem x8_step {fu j c : Nat} {w : GV} {T : TP} {x : Int64} (hj : j < 8) (hc : gC w = 8) (hw : CT w T) (hT : okT T) (hb : c < 256) (eb : ((x.toUInt64 >>> ((nI (8 * (7 - j))).toInt64.toUInt64 &&& Int64.toUInt64 63)).toInt64 &&& (255 : Int64)).toInt32 = nI c) : ∃ w', gC w' = 8 ∧ CT w' (app T c) ∧ ∀ rec, f_X8_append_3s fu rec x (nI (8 * (7 - j))) w = rec (if j + 1 < 8 then nI (8 * (7 - (j + 1))) else mI 8) w' := by
  have e0 : ¬ nI (8 * (7 - j)) < nI 0 := nI_nlt (by omega) (by omega)
  have hT1 := hT.1
  have e6 : gI w 6 = nI T.1 := hw.1
  by_cases c1 : c = 10 ∨ (32 ≤ c ∧ c ≤ 126)
  · by_cases c2 : T.1 < 1000
    · have c2' : ¬ 1000 ≤ T.1 := by omega
      refine ⟨sI (sA w 0 T.1 (nI c)) 6 (nI (T.1 + 1)), hc, CT_app hw c2 c1, fun rec => ?_⟩
      simp (disch := omega) only [f_X8_append_3s, f_X8_append_38, f_X8_append_42, f_X8_append_43, f_X8_append_84, ↓lm_1, ↓lm_2, ↓lm_3, ↓lm_4, ↓lm_5, ↓lm_6, ↓lm_7, ↓lm_8, ↓lm_9, ↓lm_10, ↓lm_11, li_0, li_1, li_2, li_3, li_4, li_5, li_6, li_7, li_8, li_9, li_10, li_11, li_12, li_13, li_14, li_15, li_16, li_17, li_18, li_19, li_20, li_21, li_22, li_23, li_24, li_25, li_26, li_27, li_28, li_29, li_30, li_31, li_32, li_33, li_34, li_35, li_36, li_37, li_38, li_39, li_40, li_41, li_42, li_43, li_44, li_45, li_46, li_47, li_48, li_49, li_50, li_51, li_52, li_53, li_54, li_55, li_56, li_57, li_58, li_59, li_60, li_61, li_62, li_63, li_64, li_65, li_66, li_96, li_97, li_99, li_100, li_122, li_125, li_126, li_140, li_255, li_256, li_999, li_1000, li_1001, li_1002, li_1100, li_1386, li_1452, li_1518, li_9999, li_1000000, e0, ↓reduceIte, nm_eq, eb, nI_eq, nI_ltI, e6, nI_leI, n10, inb_n, ck_t, nI_clamp, cnar hb, gI_sA, nI_add, stp8 hj, c2', Nat.one_ne_zero]
      by_cases e : c = 10
      · rw [if_pos e]
      · rw [if_neg e, if_neg (by omega), if_neg (by omega)]
    · have c2' : 1000 ≤ T.1 := by omega
      refine ⟨w, hc, by rw [app_no (fun q => c2 q.2)]; exact hw, fun rec => ?_⟩
      simp (disch := omega) only [f_X8_append_3s, f_X8_append_38, f_X8_append_42, f_X8_append_43, f_X8_append_84, ↓lm_1, ↓lm_2, ↓lm_3, ↓lm_4, ↓lm_5, ↓lm_6, ↓lm_7, ↓lm_8, ↓lm_9, ↓lm_10, ↓lm_11, li_0, li_1, li_2, li_3, li_4, li_5, li_6, li_7, li_8, li_9, li_10, li_11, li_12, li_13, li_14, li_15, li_16, li_17, li_18, li_19, li_20, li_21, li_22, li_23, li_24, li_25, li_26, li_27, li_28, li_29, li_30, li_31, li_32, li_33, li_34, li_35, li_36, li_37, li_38, li_39, li_40, li_41, li_42, li_43, li_44, li_45, li_46, li_47, li_48, li_49, li_50, li_51, li_52, li_53, li_54, li_55, li_56, li_57, li_58, li_59, li_60, li_61, li_62, li_63, li_64, li_65, li_66, li_96, li_97, li_99, li_100, li_122, li_125, li_126, li_140, li_255, li_256, li_999, li_1000, li_1001, li_1002, li_1100, li_1386, li_1452, li_1518, li_9999, li_1000000, e0, ↓reduceIte, nm_eq, eb, nI_eq, nI_ltI, e6, nI_leI, n10, nI_clamp, stp8 hj, c2', Nat.one_ne_zero]
      by_cases e : c = 10
      · rw [if_pos e]
      · rw [if_neg e, if_neg (by omega), if_neg (by omega)]
  · refine ⟨w, hc, by rw [app_no (fun q => c1 q.1)]; exact hw, fun rec => ?_⟩
    simp (disch := omega) only [f_X8_append_3s, f_X8_append_38, f_X8_append_42, f_X8_append_43, f_X8_append_84, ↓lm_1, ↓lm_2, ↓lm_3, ↓lm_4, ↓lm_5, ↓lm_6, ↓lm_7, ↓lm_8, ↓lm_9, ↓lm_10, ↓lm_11, li_0, li_1, li_2, li_3, li_4, li_5, li_6, li_7, li_8, li_9, li_10, li_11, li_12, li_13, li_14, li_15, li_16, li_17, li_18, li_19, li_20, li_21, li_22, li_23, li_24, li_25, li_26, li_27, li_28, li_29, li_30, li_31, li_32, li_33, li_34, li_35, li_36, li_37, li_38, li_39, li_40, li_41, li_42, li_43, li_44, li_45, li_46, li_47, li_48, li_49, li_50, li_51, li_52, li_53, li_54, li_55, li_56, li_57, li_58, li_59, li_60, li_61, li_62, li_63, li_64, li_65, li_66, li_96, li_97, li_99, li_100, li_122, li_125, li_126, li_140, li_255, li_256, li_999, li_1000, li_1001, li_1002, li_1100, li_1386, li_1452, li_1518, li_9999, li_1000000, e0, ↓reduceIte, nm_eq, eb, nI_eq, nI_ltI, stp8 hj]
    rw [if_neg (show ¬ c = 10 by omega)]
    by_cases e : c < 32
    · rw [if_pos e]
    · rw [if_neg e, if_pos (by omega)]
theorem x8_append {fu : Nat} {w : GV} {T : TP} {x : Int64} (hf : 1101 ≤ fu) (hc : gC w = 8) (hw : CT w T) (hT : okT T) : ∃ w', f_X8_append fu w x = some w' ∧ gC w' = 8 ∧ CT w' (tps T x 8) := by
  have key := lpI2 (fun k3 => f_X8_append_3s fu k3 x) (fun j a w => a = (if j < 8 then nI (8 * (7 - j)) else mI 8) ∧ gC w = 8 ∧ CT w (tps T x j)) (fun r => ∃ w', r = some w' ∧ gC w' = 8 ∧ CT w' (tps T x 8)) 8 ?_ ?_ fu 0 (nI 56) w ⟨rfl, hc, hw⟩ (by omega) (by omega)
  · obtain ⟨r, ⟨w', e, h⟩, e2⟩ := key
    refine ⟨w', ?_, h⟩
    rw [← e, ← e2]
    simp only [f_X8_append, f_X8_append_0, f_X8_append_3, ↓lm_1, ↓lm_2, ↓lm_3, ↓lm_4, ↓lm_5, ↓lm_6, ↓lm_7, ↓lm_8, ↓lm_9, ↓lm_10, ↓lm_11, li_0, li_1, li_2, li_3, li_4, li_5, li_6, li_7, li_8, li_9, li_10, li_11, li_12, li_13, li_14, li_15, li_16, li_17, li_18, li_19, li_20, li_21, li_22, li_23, li_24, li_25, li_26, li_27, li_28, li_29, li_30, li_31, li_32, li_33, li_34, li_35, li_36, li_37, li_38, li_39, li_40, li_41, li_42, li_43, li_44, li_45, li_46, li_47, li_48, li_49, li_50, li_51, li_52, li_53, li_54, li_55, li_56, li_57, li_58, li_59, li_60, li_61, li_62, li_63, li_64, li_65, li_66, li_96, li_97, li_99, li_100, li_122, li_125, li_126, li_140, li_255, li_256, li_999, li_1000, li_1001, li_1002, li_1100, li_1386, li_1452, li_1518, li_9999, li_1000000]
  · rintro a w ⟨rfl, h1, h2⟩
    refine ⟨_, ⟨w, rfl, h1, h2⟩, fun rec => ?_⟩
    have e : mI 8 < nI 0 := by decide
    rw [if_neg (by omega)]
    simp only [f_X8_append_3s, ↓lm_1, ↓lm_2, ↓lm_3, ↓lm_4, ↓lm_5, ↓lm_6, ↓lm_7, ↓lm_8, ↓lm_9, ↓lm_10, ↓lm_11, li_0, li_1, li_2, li_3, li_4, li_5, li_6, li_7, li_8, li_9, li_10, li_11, li_12, li_13, li_14, li_15, li_16, li_17, li_18, li_19, li_20, li_21, li_22, li_23, li_24, li_25, li_26, li_27, li_28, li_29, li_30, li_31, li_32, li_33, li_34, li_35, li_36, li_37, li_38, li_39, li_40, li_41, li_42, li_43, li_44, li_45, li_46, li_47, li_48, li_49, li_50, li_51, li_52, li_53, li_54, li_55, li_56, li_57, li_58, li_59, li_60, li_61, li_62, li_63, li_64, li_65, li_66, li_96, li_97, li_99, li_100, li_122, li_125, li_126, li_140, li_255, li_256, li_999, li_1000, li_1001, li_1002, li_1100, li_1386, li_1452, li_1518, li_9999, li_1000000, e, ↓reduceIte]
  · rintro j a w hj ⟨rfl, h1, h2⟩
    rw [if_pos hj]
    obtain ⟨w', k1, k2, k3⟩ := x8_step (fu := fu) hj h1 h2 (okT_tps hT j) (byt_lt x (7 - j)) (by rw [by_eq x (by omega), byt_m])
    exact Or.inl ⟨_, w', ⟨rfl, k1, k2⟩, k3⟩
theorem m_lstep {fu j c : Nat} {w : GV} {T : TP} {x : Int64} (hj : j < 8) (hw : MT w T) (hT : okT T) (hb : c < 256) (eb : (x >>> ((nI (8 * (7 - j))).toInt64 &&& 63)).toInt32 &&& nI 255 = nI c) : ∃ w', (∃ g n, w' = sI (sAf w 1 g) 2 n) ∧ MT w' (app T c) ∧ ∀ rec, f_X13_lay_3s fu rec x (nI (8 * (7 - j))) w = rec (if j + 1 < 8 then nI (8 * (7 - (j + 1))) else mI 8) w' := by
  have e0 : ¬ nI (8 * (7 - j)) < nI 0 := nI_nlt (by omega) (by omega)
  have hT1 := hT.1
  have e6 : gI w 2 = nI T.1 := hw.1
  have same : ∃ g n, w = sI (sAf w 1 g) 2 n := by
    refine ⟨gA w 1, gI w 2, ?_⟩
    rw [sAf_self]
    have : va_up w.2.1 2 (gI w 2) = w.2.1 := by
      funext k
      by_cases h : k = 2
      · subst h; simp [va_up, gI]
      · simp [va_up, h]
    simp [sI, this]
  by_cases c1 : c = 10 ∨ (32 ≤ c ∧ c ≤ 126)
  · by_cases c2 : T.1 < 1000
    · have c2' : ¬ 1000 ≤ T.1 := by omega
      refine ⟨sI (sA w 1 T.1 (nI c)) 2 (nI (T.1 + 1)), ⟨_, _, rfl⟩, MT_app hw c2 c1, fun rec => ?_⟩
      simp (disch := omega) only [f_X13_lay_3s, f_X13_lay_38, f_X13_lay_69, ↓lm_1, ↓lm_2, ↓lm_3, ↓lm_4, ↓lm_5, ↓lm_6, ↓lm_7, ↓lm_8, ↓lm_9, ↓lm_10, ↓lm_11, li_0, li_1, li_2, li_3, li_4, li_5, li_6, li_7, li_8, li_9, li_10, li_11, li_12, li_13, li_14, li_15, li_16, li_17, li_18, li_19, li_20, li_21, li_22, li_23, li_24, li_25, li_26, li_27, li_28, li_29, li_30, li_31, li_32, li_33, li_34, li_35, li_36, li_37, li_38, li_39, li_40, li_41, li_42, li_43, li_44, li_45, li_46, li_47, li_48, li_49, li_50, li_51, li_52, li_53, li_54, li_55, li_56, li_57, li_58, li_59, li_60, li_61, li_62, li_63, li_64, li_65, li_66, li_96, li_97, li_99, li_100, li_122, li_125, li_126, li_140, li_255, li_256, li_999, li_1000, li_1001, li_1002, li_1100, li_1386, li_1452, li_1518, li_9999, li_1000000, e0, ↓reduceIte, nm_eq, eb, nI_eq, nI_ltI, e6, nI_leI, n10, inb_n, ck_t, nI_clamp, gI_sA, nI_add, stp8 hj, c2', Nat.one_ne_zero]
      by_cases e : c = 10
      · rw [if_pos e]
      · rw [if_neg e, if_neg (by omega), if_neg (by omega)]
    · have c2' : 1000 ≤ T.1 := by omega
      refine ⟨w, same, by rw [app_no (fun q => c2 q.2)]; exact hw, fun rec => ?_⟩
      simp (disch := omega) only [f_X13_lay_3s, f_X13_lay_38, f_X13_lay_69, ↓lm_1, ↓lm_2, ↓lm_3, ↓lm_4, ↓lm_5, ↓lm_6, ↓lm_7, ↓lm_8, ↓lm_9, ↓lm_10, ↓lm_11, li_0, li_1, li_2, li_3, li_4, li_5, li_6, li_7, li_8, li_9, li_10, li_11, li_12, li_13, li_14, li_15, li_16, li_17, li_18, li_19, li_20, li_21, li_22, li_23, li_24, li_25, li_26, li_27, li_28, li_29, li_30, li_31, li_32, li_33, li_34, li_35, li_36, li_37, li_38, li_39, li_40, li_41, li_42, li_43, li_44, li_45, li_46, li_47, li_48, li_49, li_50, li_51, li_52, li_53, li_54, li_55, li_56, li_57, li_58, li_59, li_60, li_61, li_62, li_63, li_64, li_65, li_66, li_96, li_97, li_99, li_100, li_122, li_125, li_126, li_140, li_255, li_256, li_999, li_1000, li_1001, li_1002, li_1100, li_1386, li_1452, li_1518, li_9999, li_1000000, e0, ↓reduceIte, nm_eq, eb, nI_eq, nI_ltI, e6, nI_leI, n10, nI_clamp, stp8 hj, c2', Nat.one_ne_zero]
      by_cases e : c = 10
      · rw [if_pos e]
      · rw [if_neg e, if_neg (by omega), if_neg (by omega)]
  · refine ⟨w, same, by rw [app_no (fun q => c1 q.1)]; exact hw, fun rec => ?_⟩
    simp (disch := omega) only [f_X13_lay_3s, f_X13_lay_38, f_X13_lay_69, ↓lm_1, ↓lm_2, ↓lm_3, ↓lm_4, ↓lm_5, ↓lm_6, ↓lm_7, ↓lm_8, ↓lm_9, ↓lm_10, ↓lm_11, li_0, li_1, li_2, li_3, li_4, li_5, li_6, li_7, li_8, li_9, li_10, li_11, li_12, li_13, li_14, li_15, li_16, li_17, li_18, li_19, li_20, li_21, li_22, li_23, li_24, li_25, li_26, li_27, li_28, li_29, li_30, li_31, li_32, li_33, li_34, li_35, li_36, li_37, li_38, li_39, li_40, li_41, li_42, li_43, li_44, li_45, li_46, li_47, li_48, li_49, li_50, li_51, li_52, li_53, li_54, li_55, li_56, li_57, li_58, li_59, li_60, li_61, li_62, li_63, li_64, li_65, li_66, li_96, li_97, li_99, li_100, li_122, li_125, li_126, li_140, li_255, li_256, li_999, li_1000, li_1001, li_1002, li_1100, li_1386, li_1452, li_1518, li_9999, li_1000000, e0, ↓reduceIte, nm_eq, eb, nI_eq, nI_ltI, stp8 hj]
    rw [if_neg (show ¬ c = 10 by omega)]
    by_cases e : c < 32
    · rw [if_pos e]
    · rw [if_neg e, if_pos (by omega)]
/-- of the model only the tape has changed -/
def mtp (v v' : GV) : Prop := (∀ k, k ≠ 1 → gA v' k = gA v k) ∧ (∀ k, k ≠ 2 → k ≠ 0 → gI v' k = gI v k) ∧ gL v' = gL v ∧ gC v' = gC v
theorem mtp_trans {v v' w : GV} (h : mtp v v') (k : mtp v' w) : mtp v w := ⟨fun j hj => (k.1 j hj).trans (h.1 j hj), fun j h1 h2 => (k.2.1 j h1 h2).trans (h.2.1 j h1 h2), k.2.2.1.trans h.2.2.1, k.2.2.2.trans h.2.2.2⟩
theorem x13_lay {fu : Nat} {v : GV} {T : TP} {x : Int64} (hf : 1101 ≤ fu) (hw : MT v T) (hT : okT T) : ∃ w', f_X13_lay fu v x = some w' ∧ mtp v w' ∧ MT w' (tps T x 8) := by
  have key := lpI2 (fun k3 => f_X13_lay_3s fu k3 x) (fun j a w => a = (if j < 8 then nI (8 * (7 - j)) else mI 8) ∧ mtp v w ∧ MT w (tps T x j)) (fun r => ∃ w', r = some w' ∧ mtp v w' ∧ MT w' (tps T x 8)) 8 ?_ ?_ fu 0 (nI 56) v ⟨rfl, ⟨fun _ _ => rfl, fun _ _ _ => rfl, rfl, rfl⟩, hw⟩ (by omega) (by omega)
  · obtain ⟨r, ⟨w', e, h⟩, e2⟩ := key
    refine ⟨w', ?_, h⟩
    rw [← e, ← e2]
    simp only [f_X13_lay, f_X13_lay_0, f_X13_lay_3, ↓lm_1, ↓lm_2, ↓lm_3, ↓lm_4, ↓lm_5, ↓lm_6, ↓lm_7, ↓lm_8, ↓lm_9, ↓lm_10, ↓lm_11, li_0, li_1, li_2, li_3, li_4, li_5, li_6, li_7, li_8, li_9, li_10, li_11, li_12, li_13, li_14, li_15, li_16, li_17, li_18, li_19, li_20, li_21, li_22, li_23, li_24, li_25, li_26, li_27, li_28, li_29, li_30, li_31, li_32, li_33, li_34, li_35, li_36, li_37, li_38, li_39, li_40, li_41, li_42, li_43, li_44, li_45, li_46, li_47, li_48, li_49, li_50, li_51, li_52, li_53, li_54, li_55, li_56, li_57, li_58, li_59, li_60, li_61, li_62, li_63, li_64, li_65, li_66, li_96, li_97, li_99, li_100, li_122, li_125, li_126, li_140, li_255, li_256, li_999, li_1000, li_1001, li_1002, li_1100, li_1386, li_1452, li_1518, li_9999, li_1000000]
  · rintro a w ⟨rfl, h1, h2⟩
    refine ⟨_, ⟨w, rfl, h1, h2⟩, fun rec => ?_⟩
    have e : mI 8 < nI 0 := by decide
    rw [if_neg (by omega)]
    simp only [f_X13_lay_3s, ↓lm_1, ↓lm_2, ↓lm_3, ↓lm_4, ↓lm_5, ↓lm_6, ↓lm_7, ↓lm_8, ↓lm_9, ↓lm_10, ↓lm_11, li_0, li_1, li_2, li_3, li_4, li_5, li_6, li_7, li_8, li_9, li_10, li_11, li_12, li_13, li_14, li_15, li_16, li_17, li_18, li_19, li_20, li_21, li_22, li_23, li_24, li_25, li_26, li_27, li_28, li_29, li_30, li_31, li_32, li_33, li_34, li_35, li_36, li_37, li_38, li_39, li_40, li_41, li_42, li_43, li_44, li_45, li_46, li_47, li_48, li_49, li_50, li_51, li_52, li_53, li_54, li_55, li_56, li_57, li_58, li_59, li_60, li_61, li_62, li_63, li_64, li_65, li_66, li_96, li_97, li_99, li_100, li_122, li_125, li_126, li_140, li_255, li_256, li_999, li_1000, li_1001, li_1002, li_1100, li_1386, li_1452, li_1518, li_9999, li_1000000, e, ↓reduceIte]
  · rintro j a w hj ⟨rfl, h1, h2⟩
    rw [if_pos hj]
    obtain ⟨w', ⟨g, n, k1⟩, k2, k3⟩ := m_lstep (fu := fu) hj h2 (okT_tps hT j) (byt_lt x (7 - j)) (byt_m x (7 - j))
    refine Or.inl ⟨_, w', ⟨rfl, mtp_trans h1 ?_, k2⟩, k3⟩
    rw [k1]
    exact ⟨fun k hk => by rw [gA_sI, gA_sAfn _ _ hk], fun k h1 _ => by rw [gI_sI, if_neg h1]; rfl, rfl, rfl⟩
theorem RC_tape {p : Nat} {S : ST} {A : AP} {w : GV} {T : TP} (h : RC p S A) (hc : gC w = 8) (hw : CT w T) : RC p (st S (p + 1) w) (mkA (aG A) (aQ A) (aP A) (aM A) (aB A) (aL A) T (aN A)) := by
  obtain ⟨t, d, ln, dl, f, ⟨⟨a1, a2, a3, a4, a5, a6, a7, a8⟩, ⟨b1, b2, b3, b4, b5, b6⟩, c, m, rr, td, ll, g1, g2, g3, g4⟩, K1, K2, K3, K4, ⟨K5, K6, K7, K8⟩, ⟨K9, K10⟩, K11, K12⟩ := h
  have ne : ∀ b, b ≠ p + 1 → st S (p + 1) w b = S b := fun b hb => st_ne _ _ hb
  have hcc : ∀ b, gC (st S (p + 1) w b) = gC (S b) := by
    intro b
    by_cases e : b = p + 1
    · subst e; rw [st_same, hc, a2]
    · rw [st_ne _ _ e]
  refine ⟨t, d, ln, dl, f, ⟨⟨by rw [hcc]; exact a1, by rw [hcc]; exact a2, by rw [hcc]; exact a3, by rw [hcc]; exact a4, by rw [hcc]; exact a5, by rw [hcc]; exact a6, by rw [hcc]; exact a7, by rw [hcc]; exact a8⟩, ⟨by rw [hcc]; exact b1, by rw [hcc]; exact b2, by rw [hcc]; exact b3, by rw [hcc]; exact b4, by rw [hcc]; exact b5, by rw [hcc]; exact b6⟩, fun i hi => ⟨by rw [hcc]; exact (c i hi).1, by rw [ne p (by omega)]; exact (c i hi).2⟩, fun i hi => ⟨by rw [hcc]; exact (m i hi).1, by rw [ne p (by omega)]; exact (m i hi).2⟩, by rw [ne p (by omega)]; exact rr, td, ll, by rw [ne (p + 6) (by omega)]; exact g1, by rw [ne (p + 6) (by omega)]; exact g2, by rw [ne (p + 7) (by omega)]; exact g3, by rw [ne (p + 7) (by omega)]; exact g4⟩, by rw [ne (p + 9) (by omega)]; exact K1, ?_, by rw [ne t (by omega)]; exact K3, by rw [ne (t + 8) (by omega)]; exact K4, ⟨by rw [ne p (by omega)]; exact K5, K6, by rw [ne p (by omega)]; exact K7, fun i hi => by rw [ne _ (by omega)]; exact K8 i hi⟩, ⟨by rw [ne p (by omega)]; exact K9, fun i hi hb => by rw [ne _ (by omega)]; exact K10 i hi hb⟩, by rw [ne ln (by omega)]; exact K11, by rw [st_same]; exact hw⟩
  refine CG_keep K2 (ne t (by omega)) (fun b hb => Or.inl (ne b ?_))
  rintro rfl; omega
theorem RM_tape {v v' : GV} {A : AP} {T : TP} (h : RM v A) (k : mtp v v') (hT : MT v' T) : RM v' (mkA (aG A) (aQ A) (aP A) (aM A) (aB A) (aL A) T (aN A)) := by
  obtain ⟨h0, h1, h2, ⟨h3, h4⟩, h5, h6, h7, h8, ⟨n, cd, ty, n1, n2, n3⟩, h10, h11⟩ := h
  obtain ⟨k1, k2, k3, k4⟩ := k
  have e24 := k1 24 (by omega)
  have e10 := k1 10 (by omega)
  refine ⟨k4.trans h0, MG_of h1 e10 (k1 11 (by omega)) (k1 12 (by omega)), by rw [e24]; exact h2, ⟨by rw [k2 25 (by omega) (by omega)]; exact h3, fun i hi => by rw [e24]; exact h4 i hi⟩, fun m hm => by rw [k1 26 (by omega), e24]; exact h5 m hm, ?_, ?_, hT, ⟨n, cd, ty, n1, by rw [k2 18 (by omega) (by omega)]; exact n2, fun j hj => by rw [k3, k1 16 (by omega)]; exact n3 j hj⟩, fun i hi => by rw [k3]; exact h10 i hi, fun i hi => by rw [k1 32 (by omega)]; exact h11 i hi⟩
  · rw [MBg, e10]; exact h6
  · rw [MLn, k1 21 (by omega)]; exact h7
theorem r_feed {fu p : Nat} {S : ST} {v : GV} (hf : 1101 ≤ fu) (h : RR p S v) (x y z0 : Int64) : ∃ z S' v', f_X12_feed fu S p x y z0 = some (z, S') ∧ f_X13_feed fu v x y z0 = some (z, v') ∧ RR p S' v' := by
  obtain ⟨A, hA, hC, hM⟩ := h
  obtain ⟨t, d, ln, dl, f, hP, hK⟩ := id hC
  have hc1 := hP.1.2.1
  have hT := hA.2.2.2.2.2.2
  have hct := hK.2.2.2.2.2.2.2
  have hmt : MT (sI v 0 (nI 0)) (aT A) := hM.2.2.2.2.2.2.2.1
  obtain ⟨w1, a1, a2, a3⟩ := x8_append (x := x) hf hc1 hct hT
  obtain ⟨w2, b1, b2, b3⟩ := x8_append (x := y) hf a2 a3 (okT_tps hT 8)
  obtain ⟨w3, c1, c2, c3⟩ := x8_append (x := z0) hf b2 b3 (okT_tps (okT_tps hT 8) 8)
  obtain ⟨v1, d1, d2, d3⟩ := x13_lay (x := x) hf hmt hT
  obtain ⟨v2, e1, e2, e3⟩ := x13_lay (x := y) hf d3 (okT_tps hT 8)
  obtain ⟨v3, f1, f2, f3⟩ := x13_lay (x := z0) hf e3 (okT_tps (okT_tps hT 8) 8)
  have m0 : mtp v (sI v 0 (nI 0)) := ⟨fun _ _ => rfl, fun k _ h0 => by rw [gI_sI, if_neg h0], rfl, rfl⟩
  refine ⟨nI (tps (tps (tps (aT A) x 8) y 8) z0 8).1, st S (p + 1) w3, v3, ?_, ?_, ⟨mkA (aG A) (aQ A) (aP A) (aM A) (aB A) (aL A) (tps (tps (tps (aT A) x 8) y 8) z0 8) (aN A), ?_, RC_tape hC c2 c3, RM_tape hM (mtp_trans (mtp_trans (mtp_trans m0 d2) e2) f2) f3⟩⟩
  · simp only [f_X12_feed, f_X12_feed_0, hc1, decide_true, ck_t, a1, bd_s, nm_eq, st_same, b1, st_st, c1, c3.1]
  · simp only [f_X13_feed, f_X13_feed_0, ↓lm_1, ↓lm_2, ↓lm_3, ↓lm_4, ↓lm_5, ↓lm_6, ↓lm_7, ↓lm_8, ↓lm_9, ↓lm_10, ↓lm_11, li_0, li_1, li_2, li_3, li_4, li_5, li_6, li_7, li_8, li_9, li_10, li_11, li_12, li_13, li_14, li_15, li_16, li_17, li_18, li_19, li_20, li_21, li_22, li_23, li_24, li_25, li_26, li_27, li_28, li_29, li_30, li_31, li_32, li_33, li_34, li_35, li_36, li_37, li_38, li_39, li_40, li_41, li_42, li_43, li_44, li_45, li_46, li_47, li_48, li_49, li_50, li_51, li_52, li_53, li_54, li_55, li_56, li_57, li_58, li_59, li_60, li_61, li_62, li_63, li_64, li_65, li_66, li_96, li_97, li_99, li_100, li_122, li_125, li_126, li_140, li_255, li_256, li_999, li_1000, li_1001, li_1002, li_1100, li_1386, li_1452, li_1518, li_9999, li_1000000, nm_eq, d1, bd_s, e1, f1, f3.1]
  · obtain ⟨o1, o2, o3, o5, o7, o8, o9⟩ := hA
    exact ⟨o1, o2, o3, o5, o7, o8, okT_tps (okT_tps (okT_tps o9 8) 8) 8⟩
