/-! ===== gallery: the model takes the draft over ===== -/
section T
variable {fu : Nat} {v : GV}
theorem m_cp70 (hf : 1101 ≤ fu) : ∃ f, f_X13_gallery_71 fu fu (nI 0) v = f_X13_gallery_100 fu fu (nI 0) (sAf v 10 f) ∧ (∀ x, x < 70 → f x = gA v 10 (70 + x)) := by
  have l70 : (70 : Int32) = nI 70 := by decide
  have key := lpI2 (fun k2 => f_X13_gallery_71s fu k2) (fun k y w => y = nI k ∧ ∃ f, w = sAf v 10 f ∧ (∀ x, 70 ≤ x → f x = gA v 10 x) ∧ ∀ x, x < k → f x = gA v 10 (70 + x)) (fun r => ∃ f, r = f_X13_gallery_100 fu fu (nI 0) (sAf v 10 f) ∧ (∀ x, x < 70 → f x = gA v 10 (70 + x))) 70 ?_ ?_ fu 0 (nI 0) v ⟨rfl, _, (sAf_self v 10).symm, fun _ _ => rfl, fun x h1 => by omega⟩ (by omega) (by omega)
  · obtain ⟨r, ⟨f, hr, h⟩, e⟩ := key
    exact ⟨f, by rw [← hr, ← e, f_X13_gallery_71], h⟩
  · rintro y u ⟨rfl, f, rfl, g1, g2⟩
    have l7 : nI 70 ≤ nI 70 := by decide
    refine ⟨_, ⟨f, rfl, g2⟩, fun rec => ?_⟩
    simp only [f_X13_gallery_71s, l70, ↓lm_1, ↓lm_2, ↓lm_3, ↓lm_4, ↓lm_5, ↓lm_6, ↓lm_7, ↓lm_8, ↓lm_9, ↓lm_10, ↓lm_11, li_0, li_1, li_2, li_3, li_4, li_5, li_6, li_7, li_8, li_9, li_10, li_11, li_12, li_13, li_14, li_15, li_16, li_17, li_18, li_19, li_20, li_21, li_22, li_23, li_24, li_25, li_26, li_27, li_28, li_29, li_30, li_31, li_32, li_33, li_34, li_35, li_36, li_37, li_38, li_39, li_40, li_41, li_42, li_43, li_44, li_45, li_46, li_47, li_48, li_49, li_50, li_51, li_52, li_53, li_54, li_55, li_56, li_57, li_58, li_59, li_60, li_61, li_62, li_63, li_64, li_65, li_66, li_96, li_97, li_99, li_100, li_122, li_125, li_126, li_140, li_255, li_256, li_999, li_1000, li_1001, li_1002, li_1100, li_1386, li_1452, li_1518, li_9999, li_1000000, l7, ↓reduceIte]
  · rintro k y u hk ⟨rfl, f, rfl, g1, g2⟩
    have hle : ¬ nI 70 ≤ nI k := nI_ge hk (by omega)
    have e := g1 (70 + k) (by omega)
    refine Or.inl ⟨nI (k + 1), sAf v 10 (upd f k (gA v 10 (70 + k))), ⟨rfl, _, rfl, fun x hx => by rw [pk_un (by omega)]; exact g1 x hx, fun x h1 => ?_⟩, fun rec => ?_⟩
    · by_cases q : x = k
      · rw [q, pk_us]
      · rw [pk_un q]; exact g2 x (by omega)
    · simp (disch := omega) only [f_X13_gallery_71s, l70, ↓lm_1, ↓lm_2, ↓lm_3, ↓lm_4, ↓lm_5, ↓lm_6, ↓lm_7, ↓lm_8, ↓lm_9, ↓lm_10, ↓lm_11, li_0, li_1, li_2, li_3, li_4, li_5, li_6, li_7, li_8, li_9, li_10, li_11, li_12, li_13, li_14, li_15, li_16, li_17, li_18, li_19, li_20, li_21, li_22, li_23, li_24, li_25, li_26, li_27, li_28, li_29, li_30, li_31, li_32, li_33, li_34, li_35, li_36, li_37, li_38, li_39, li_40, li_41, li_42, li_43, li_44, li_45, li_46, li_47, li_48, li_49, li_50, li_51, li_52, li_53, li_54, li_55, li_56, li_57, li_58, li_59, li_60, li_61, li_62, li_63, li_64, li_65, li_66, li_96, li_97, li_99, li_100, li_122, li_125, li_126, li_140, li_255, li_256, li_999, li_1000, li_1001, li_1002, li_1100, li_1386, li_1452, li_1518, li_9999, li_1000000, hle, ↓reduceIte, nI_add, inb_n, ck_t, nI_clamp, nm_eq, sA, gA_sAf, sAf_sAf, e]
theorem m_cpL {c : Nat} (hf : 1101 ≤ fu) (h13 : gI v 13 = nI c) (hc : c ≤ 1000) : ∃ f g, f_X13_gallery_100 fu fu (nI 0) v = f_X13_gallery_148 fu fu (nI 0) (sAf (sAf v 11 f) 12 g) ∧ ∀ x, x < c → f x = gA v 11 (1100 + x) ∧ g x = gA v 12 (1100 + x) := by
  have key := lpI2 (fun k2 => f_X13_gallery_100s fu k2) (fun k y w => y = nI k ∧ ∃ f g, w = sAf (sAf v 11 f) 12 g ∧ (∀ x, 1100 ≤ x → f x = gA v 11 x ∧ g x = gA v 12 x) ∧ ∀ x, x < k → f x = gA v 11 (1100 + x) ∧ g x = gA v 12 (1100 + x)) (fun r => ∃ f g, r = f_X13_gallery_148 fu fu (nI 0) (sAf (sAf v 11 f) 12 g) ∧ ∀ x, x < c → f x = gA v 11 (1100 + x) ∧ g x = gA v 12 (1100 + x)) c ?_ ?_ fu 0 (nI 0) v ⟨rfl, gA v 11, gA v 12, by rw [sAf_self, sAf_self], fun _ _ => ⟨rfl, rfl⟩, fun x h1 => by omega⟩ (by omega) (by omega)
  · obtain ⟨r, ⟨f, g, hr, h⟩, e⟩ := key
    exact ⟨f, g, by rw [← hr, ← e, f_X13_gallery_100], h⟩
  · rintro y u ⟨rfl, f, g, rfl, g1, g2⟩
    refine ⟨_, ⟨f, g, rfl, g2⟩, fun rec => ?_⟩
    simp (disch := omega) only [f_X13_gallery_100s, ↓lm_1, ↓lm_2, ↓lm_3, ↓lm_4, ↓lm_5, ↓lm_6, ↓lm_7, ↓lm_8, ↓lm_9, ↓lm_10, ↓lm_11, li_0, li_1, li_2, li_3, li_4, li_5, li_6, li_7, li_8, li_9, li_10, li_11, li_12, li_13, li_14, li_15, li_16, li_17, li_18, li_19, li_20, li_21, li_22, li_23, li_24, li_25, li_26, li_27, li_28, li_29, li_30, li_31, li_32, li_33, li_34, li_35, li_36, li_37, li_38, li_39, li_40, li_41, li_42, li_43, li_44, li_45, li_46, li_47, li_48, li_49, li_50, li_51, li_52, li_53, li_54, li_55, li_56, li_57, li_58, li_59, li_60, li_61, li_62, li_63, li_64, li_65, li_66, li_96, li_97, li_99, li_100, li_122, li_125, li_126, li_140, li_255, li_256, li_999, li_1000, li_1001, li_1002, li_1100, li_1386, li_1452, li_1518, li_9999, li_1000000, gI_sAf, h13, nI_leI, Nat.le_refl, ↓reduceIte]
  · rintro k y u hk ⟨rfl, f, g, rfl, g1, g2⟩
    have hle : ¬ nI c ≤ nI k := nI_ge hk (by omega)
    obtain ⟨e1, e2⟩ := g1 (1100 + k) (by omega)
    have z1 : gA (sAf (sAf v 11 f) 12 g) 11 = f := by rw [gA_sAfn _ _ (by decide), gA_sAf]
    have z2 : sAf (sAf (sAf v 11 f) 12 g) 11 (upd f k (gA v 11 (1100 + k))) = sAf (sAf v 11 (upd f k (gA v 11 (1100 + k)))) 12 g := by rw [sAf_comm (show (12 : Nat) ≠ 11 by decide), sAf_sAf]
    refine Or.inl ⟨nI (k + 1), sAf (sAf v 11 (upd f k (gA v 11 (1100 + k)))) 12 (upd g k (gA v 12 (1100 + k))), ⟨rfl, _, _, rfl, fun x hx => by rw [pk_un (by omega), pk_un (by omega)]; exact g1 x hx, fun x h1 => ?_⟩, fun rec => ?_⟩
    · by_cases q : x = k
      · rw [q, pk_us, pk_us]; exact ⟨rfl, rfl⟩
      · rw [pk_un q, pk_un q]; exact g2 x (by omega)
    · simp (disch := omega) only [f_X13_gallery_100s, ↓lm_1, ↓lm_2, ↓lm_3, ↓lm_4, ↓lm_5, ↓lm_6, ↓lm_7, ↓lm_8, ↓lm_9, ↓lm_10, ↓lm_11, li_0, li_1, li_2, li_3, li_4, li_5, li_6, li_7, li_8, li_9, li_10, li_11, li_12, li_13, li_14, li_15, li_16, li_17, li_18, li_19, li_20, li_21, li_22, li_23, li_24, li_25, li_26, li_27, li_28, li_29, li_30, li_31, li_32, li_33, li_34, li_35, li_36, li_37, li_38, li_39, li_40, li_41, li_42, li_43, li_44, li_45, li_46, li_47, li_48, li_49, li_50, li_51, li_52, li_53, li_54, li_55, li_56, li_57, li_58, li_59, li_60, li_61, li_62, li_63, li_64, li_65, li_66, li_96, li_97, li_99, li_100, li_122, li_125, li_126, li_140, li_255, li_256, li_999, li_1000, li_1001, li_1002, li_1100, li_1386, li_1452, li_1518, li_9999, li_1000000, gI_sAf, h13, hle, ↓reduceIte, nI_add, inb_n, ck_t, nI_clamp, nm_eq, sA, z1, e1, z2, gA_sAf, sAf_sAf, e2]
end T
