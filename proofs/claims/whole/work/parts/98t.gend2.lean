/-! ===== gallery: names are taken over, the new hall begins ===== -/
section T
variable {fu : Nat} {v : GV}
theorem m_cpN {n : Nat} (hf : 1101 ≤ fu) (h19 : gI v 19 = nI n) (hn : n ≤ 17) : ∃ w, f_X13_gallery_148 fu fu (nI 0) v = (bd (f_X13_begins fu (sI w 18 (nI n))) fun v4 => some (nI 0, v4)) ∧ (∀ k, k ≠ 16 → gA w k = gA v k) ∧ (∀ k, k ≠ 14 → gL w k = gL v k) ∧ (∀ k, gI w k = gI v k) ∧ gC w = gC v ∧ ∀ x, x < n → gL w 14 x = gL v 15 x ∧ gA w 16 x = gA v 17 x := by
  have key := lpI2 (fun k2 => f_X13_gallery_148s fu k2) (fun k y w => y = nI k ∧ (∀ k, k ≠ 16 → gA w k = gA v k) ∧ (∀ k, k ≠ 14 → gL w k = gL v k) ∧ (∀ k, gI w k = gI v k) ∧ gC w = gC v ∧ ∀ x, x < k → gL w 14 x = gL v 15 x ∧ gA w 16 x = gA v 17 x) (fun r => ∃ w, r = (bd (f_X13_begins fu (sI w 18 (nI n))) fun v4 => some (nI 0, v4)) ∧ (∀ k, k ≠ 16 → gA w k = gA v k) ∧ (∀ k, k ≠ 14 → gL w k = gL v k) ∧ (∀ k, gI w k = gI v k) ∧ gC w = gC v ∧ ∀ x, x < n → gL w 14 x = gL v 15 x ∧ gA w 16 x = gA v 17 x) n ?_ ?_ fu 0 (nI 0) v ⟨rfl, fun _ _ => rfl, fun _ _ => rfl, fun _ => rfl, rfl, fun x h1 => by omega⟩ (by omega) (by omega)
  · obtain ⟨r, ⟨w, hr, h⟩, e⟩ := key
    exact ⟨w, by rw [← hr, ← e, f_X13_gallery_148], h⟩
  · rintro y u ⟨rfl, g1, g2, g3, g4, g5⟩
    refine ⟨_, ⟨u, rfl, g1, g2, g3, g4, g5⟩, fun rec => ?_⟩
    simp (disch := omega) only [f_X13_gallery_148s, ↓lm_1, ↓lm_2, ↓lm_3, ↓lm_4, ↓lm_5, ↓lm_6, ↓lm_7, ↓lm_8, ↓lm_9, ↓lm_10, ↓lm_11, li_0, li_1, li_2, li_3, li_4, li_5, li_6, li_7, li_8, li_9, li_10, li_11, li_12, li_13, li_14, li_15, li_16, li_17, li_18, li_19, li_20, li_21, li_22, li_23, li_24, li_25, li_26, li_27, li_28, li_29, li_30, li_31, li_32, li_33, li_34, li_35, li_36, li_37, li_38, li_39, li_40, li_41, li_42, li_43, li_44, li_45, li_46, li_47, li_48, li_49, li_50, li_51, li_52, li_53, li_54, li_55, li_56, li_57, li_58, li_59, li_60, li_61, li_62, li_63, li_64, li_65, li_66, li_96, li_97, li_99, li_100, li_122, li_125, li_126, li_140, li_255, li_256, li_999, li_1000, li_1001, li_1002, li_1100, li_1386, li_1452, li_1518, li_9999, li_1000000, g3 19, h19, nI_leI, Nat.le_refl, ↓reduceIte, nm_eq]
  · rintro k y u hk ⟨rfl, g1, g2, g3, g4, g5⟩
    have hle : ¬ nI n ≤ nI k := nI_ge hk (by omega)
    have e15 : gL u 15 = gL v 15 := g2 15 (by decide)
    have e17 : ∀ (x : Nat) (y : Int64), gA (sL u 14 x y) 17 = gA v 17 := fun x y => g1 17 (by decide)
    refine Or.inl ⟨nI (k + 1), sA (sL u 14 k (gL v 15 k)) 16 k (gA v 17 k), ⟨rfl, fun i hi => ?_, fun i hi => ?_, g3, g4, fun x h1 => ?_⟩, fun rec => ?_⟩
    · rw [gA_sAn _ _ _ hi]; exact g1 i hi
    · show gL (sL u 14 k (gL v 15 k)) i = _
      rw [gL_sLn _ _ _ hi]; exact g2 i hi
    · have z1 : gL (sA (sL u 14 k (gL v 15 k)) 16 k (gA v 17 k)) 14 x = if x = k then gL v 15 k else gL u 14 x := by
        show gL (sL u 14 k (gL v 15 k)) 14 x = _; rw [gL_sL]
      have z2 : gA (sA (sL u 14 k (gL v 15 k)) 16 k (gA v 17 k)) 16 x = if x = k then gA v 17 k else gA u 16 x := by rw [gA_sA]; rfl
      rw [z1, z2]
      by_cases q : x = k
      · rw [if_pos q, if_pos q, q]; exact ⟨rfl, rfl⟩
      · rw [if_neg q, if_neg q]; exact g5 x (by omega)
    · simp (disch := omega) only [f_X13_gallery_148s, ↓lm_1, ↓lm_2, ↓lm_3, ↓lm_4, ↓lm_5, ↓lm_6, ↓lm_7, ↓lm_8, ↓lm_9, ↓lm_10, ↓lm_11, li_0, li_1, li_2, li_3, li_4, li_5, li_6, li_7, li_8, li_9, li_10, li_11, li_12, li_13, li_14, li_15, li_16, li_17, li_18, li_19, li_20, li_21, li_22, li_23, li_24, li_25, li_26, li_27, li_28, li_29, li_30, li_31, li_32, li_33, li_34, li_35, li_36, li_37, li_38, li_39, li_40, li_41, li_42, li_43, li_44, li_45, li_46, li_47, li_48, li_49, li_50, li_51, li_52, li_53, li_54, li_55, li_56, li_57, li_58, li_59, li_60, li_61, li_62, li_63, li_64, li_65, li_66, li_96, li_97, li_99, li_100, li_122, li_125, li_126, li_140, li_255, li_256, li_999, li_1000, li_1001, li_1002, li_1100, li_1386, li_1452, li_1518, li_9999, li_1000000, g3 19, h19, hle, ↓reduceIte, inb_n, ck_t, nI_clamp, nm_eq, e15, e17, nI_add]
theorem m_begins {G : GP} {q : HP} (hf : 1101 ≤ fu) (hG : okG G) (hM : MG v G) (hB : MBg v q) (hq : okB G q) : ∃ w, f_X13_begins fu v = some w ∧ (∀ k, k ≠ 21 → k ≠ 24 → k ≠ 26 → gA w k = gA v k) ∧ (∀ k, k ≠ 25 → gI w k = gI v k) ∧ gL w = gL v ∧ gC w = gC v ∧ MH (gA w 24) q ∧ gA w 24 48 = nI 0 ∧ gA w 21 0 = nI 0 ∧ gI w 25 = nI 0 ∧ ∀ m, m < 4 → gA w 26 m = nI 0 := by
  obtain ⟨h', e1, e2⟩ := m_starts (fu := fu) (b := 0) hf (by omega) hG hM hB hq
  have c48 : (nI 48).toNatClampNeg = 48 := nI_clamp (by omega)
  have c0 : (nI 0).toNatClampNeg = 0 := by decide
  have nb : vp_nar .boolean (nI 0) = nI 0 := by decide
  generalize hu : sI (sA (sA (mb v 0 h') 24 48 (nI 0)) 21 0 (nI 0)) 25 (nI 0) = u0 at *
  have key := lpI2 (fun k2 => f_X13_begins_27s fu k2) (fun k y w => y = nI k ∧ ∃ f, w = sAf u0 26 f ∧ ∀ m, m < k → f m = nI 0) (fun r => ∃ f, r = some (sAf u0 26 f) ∧ ∀ m, m < 4 → f m = nI 0) 4 ?_ ?_ fu 0 (nI 0) u0 ⟨rfl, _, (sAf_self u0 26).symm, fun x h1 => by omega⟩ (by omega) (by omega)
  · obtain ⟨r, ⟨f, hr, h⟩, e⟩ := key
    have A24 : ∀ x, gA u0 24 x = if x = 48 then nI 0 else gA (mb v 0 h') 24 x := fun x => by
      rw [← hu, gA_sI, gA_sAn _ _ _ (by decide), gA_sA]
    refine ⟨sAf u0 26 f, ?_, fun k h1 h2 h3 => ?_, fun k hk => ?_, ?_, ?_, ?_, ?_, ?_, ?_, fun m hm => by rw [gA_sAf]; exact h m hm⟩
    · rw [← hr, ← e]
      simp only [f_X13_begins, f_X13_begins_0, f_X13_begins_27, ↓lm_1, ↓lm_2, ↓lm_3, ↓lm_4, ↓lm_5, ↓lm_6, ↓lm_7, ↓lm_8, ↓lm_9, ↓lm_10, ↓lm_11, li_0, li_1, li_2, li_3, li_4, li_5, li_6, li_7, li_8, li_9, li_10, li_11, li_12, li_13, li_14, li_15, li_16, li_17, li_18, li_19, li_20, li_21, li_22, li_23, li_24, li_25, li_26, li_27, li_28, li_29, li_30, li_31, li_32, li_33, li_34, li_35, li_36, li_37, li_38, li_39, li_40, li_41, li_42, li_43, li_44, li_45, li_46, li_47, li_48, li_49, li_50, li_51, li_52, li_53, li_54, li_55, li_56, li_57, li_58, li_59, li_60, li_61, li_62, li_63, li_64, li_65, li_66, li_96, li_97, li_99, li_100, li_122, li_125, li_126, li_140, li_255, li_256, li_999, li_1000, li_1001, li_1002, li_1100, li_1386, li_1452, li_1518, li_9999, li_1000000, e1, bd_s, c48, c0, nm_eq, hu]
    · rw [gA_sAfn _ _ h3, ← hu, gA_sI, gA_sAn _ _ _ h1, gA_sAn _ _ _ h2, mb_A h2]
    · rw [gI_sAf, ← hu, gI_sI, if_neg hk]; rfl
    · rw [← hu]; rfl
    · rw [← hu]; rfl
    · rw [gA_sAfn _ _ (by decide)]
      have h8 := hq.1.1.2.1
      refine MH_ext (h := h') (fun k hk => ?_) h8 e2
      rw [A24, if_neg (by omega), mb, gA_sAf, bk48, if_pos (by omega)]; rfl
    · rw [gA_sAfn _ _ (by decide), A24, if_pos rfl]
    · rw [gA_sAfn _ _ (by decide), ← hu, gA_sI, gA_sA, if_pos rfl]
    · rw [gI_sAf, ← hu, gI_sI, if_pos rfl]
  · rintro y u ⟨rfl, f, rfl, g2⟩
    have l4 : nI 4 ≤ nI 4 := by decide
    refine ⟨_, ⟨f, rfl, g2⟩, fun rec => ?_⟩
    simp only [f_X13_begins_27s, ↓lm_1, ↓lm_2, ↓lm_3, ↓lm_4, ↓lm_5, ↓lm_6, ↓lm_7, ↓lm_8, ↓lm_9, ↓lm_10, ↓lm_11, li_0, li_1, li_2, li_3, li_4, li_5, li_6, li_7, li_8, li_9, li_10, li_11, li_12, li_13, li_14, li_15, li_16, li_17, li_18, li_19, li_20, li_21, li_22, li_23, li_24, li_25, li_26, li_27, li_28, li_29, li_30, li_31, li_32, li_33, li_34, li_35, li_36, li_37, li_38, li_39, li_40, li_41, li_42, li_43, li_44, li_45, li_46, li_47, li_48, li_49, li_50, li_51, li_52, li_53, li_54, li_55, li_56, li_57, li_58, li_59, li_60, li_61, li_62, li_63, li_64, li_65, li_66, li_96, li_97, li_99, li_100, li_122, li_125, li_126, li_140, li_255, li_256, li_999, li_1000, li_1001, li_1002, li_1100, li_1386, li_1452, li_1518, li_9999, li_1000000, l4, ↓reduceIte]
  · rintro k y u hk ⟨rfl, f, rfl, g2⟩
    have hle : ¬ nI 4 ≤ nI k := nI_ge hk (by omega)
    refine Or.inl ⟨nI (k + 1), sAf u0 26 (upd f k (nI 0)), ⟨rfl, _, rfl, fun x h1 => ?_⟩, fun rec => ?_⟩
    · by_cases q : x = k
      · rw [q, pk_us]
      · rw [pk_un q]; exact g2 x (by omega)
    · simp (disch := omega) only [f_X13_begins_27s, ↓lm_1, ↓lm_2, ↓lm_3, ↓lm_4, ↓lm_5, ↓lm_6, ↓lm_7, ↓lm_8, ↓lm_9, ↓lm_10, ↓lm_11, li_0, li_1, li_2, li_3, li_4, li_5, li_6, li_7, li_8, li_9, li_10, li_11, li_12, li_13, li_14, li_15, li_16, li_17, li_18, li_19, li_20, li_21, li_22, li_23, li_24, li_25, li_26, li_27, li_28, li_29, li_30, li_31, li_32, li_33, li_34, li_35, li_36, li_37, li_38, li_39, li_40, li_41, li_42, li_43, li_44, li_45, li_46, li_47, li_48, li_49, li_50, li_51, li_52, li_53, li_54, li_55, li_56, li_57, li_58, li_59, li_60, li_61, li_62, li_63, li_64, li_65, li_66, li_96, li_97, li_99, li_100, li_122, li_125, li_126, li_140, li_255, li_256, li_999, li_1000, li_1001, li_1002, li_1100, li_1386, li_1452, li_1518, li_9999, li_1000000, hle, ↓reduceIte, inb_n, ck_t, nI_clamp, nm_eq, sA, gA_sAf, sAf_sAf, nb, nI_add]
end T
