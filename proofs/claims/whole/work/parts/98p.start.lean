/-! ===== gallery: the draft at the start ===== -/
def q00 : HP := mkq 1 0 0 (fun _ => 0) (fun _ => 0) (fun _ => 0) (fun _ => 5) (fun _ => nI 0) (fun _ => nI 0) (nI 0)
def G00 : GP := ((0, 0, 0), fun _ => 0, fun _ => 0, fun _ => 0, fun _ => 0, wdf, hdf)
def N00 : NM := (fun _ => 0, fun _ => 0, fun _ => 0)
theorem okB_00 (G : GP) : okB G q00 := by
  refine ⟨⟨⟨by decide, by decide, by decide, by decide⟩, fun p hp => ?_, fun p h1 hp => ?_, fun t _ => rfl⟩, rfl, rfl, rfl, rfl, fun _ _ => rfl, fun p h1 hp => ?_⟩
  · have hp : p < 1 := hp
    have : p = 0 := by omega
    subst this
    exact ⟨by decide, ⟨fun _ => rfl, fun _ => rfl⟩, Or.inr (Or.inl rfl)⟩
  · have hp : p < 1 := hp
    omega
  · have hp : p < 1 := hp
    omega
def clG (g : GV) : GV := sR (sR (sI (sI (sI g 8 (nI 0)) 9 (nI 0)) 10 (nI 0)) 11 none) 12 none
section T
variable {fu p d n a fl j : Nat} {K : KT} {w v : GV} {S : ST}
theorem x3_clear {h : Nat} (c3 : gC (S h) = 3) : ∃ wh, f_X3_clear fu S h = some (st S h wh) ∧ CHL wh (q00, lk0) := by
  have e0 : (nI 0).toNatClampNeg = 0 := by decide
  refine ⟨sI (sI (sI (sI (sI (sI (sI (sAf (sA (sA (sA (sA (sA (S h) 0 0 (nI 0)) 1 0 (nI 0)) 3 0 (nI 0)) 2 0 (mI 1)) 4 0 (nI 5)) 5 (flA (gA (sA (sA (sA (sA (sA (S h) 0 0 (nI 0)) 1 0 (nI 0)) 3 0 (nI 0)) 2 0 (mI 1)) 4 0 (nI 5)) 5) 5 (nI 0))) 6 (nI 0)) 7 (nI 1)) 8 (nI 0)) 9 (nI 0)) 10 (nI 0)) 11 (nI 0)) 12 (nI 0), ?_, ?_⟩
  · simp only [f_X3_clear, f_X3_clear_0, ↓lm_1, ↓lm_2, ↓lm_3, ↓lm_4, ↓lm_5, ↓lm_6, ↓lm_7, ↓lm_8, ↓lm_9, ↓lm_10, ↓lm_11, li_0, li_1, li_2, li_3, li_4, li_5, li_6, li_7, li_8, li_9, li_10, li_11, li_12, li_13, li_14, li_15, li_16, li_17, li_18, li_19, li_20, li_21, li_22, li_23, li_24, li_25, li_26, li_27, li_28, li_29, li_30, li_31, li_32, li_33, li_34, li_35, li_36, li_37, li_38, li_39, li_40, li_41, li_42, li_43, li_44, li_45, li_46, li_47, li_48, li_49, li_50, li_51, li_52, li_53, li_54, li_55, li_56, li_57, li_58, li_59, li_60, li_61, li_62, li_63, li_64, li_65, li_66, li_96, li_97, li_99, li_100, li_122, li_125, li_126, li_140, li_255, li_256, li_999, li_1000, li_1001, li_1002, li_1100, li_1386, li_1452, li_1518, li_9999, li_1000000, e0, nm_eq, st_same, st_st]
  · refine ⟨⟨c3, ?_, ?_, ?_, ?_, fun r hr => ?_, fun t ht => ?_⟩, ?_, ?_, ?_⟩
    · simp only [gI_sI, Nat.reduceEqDiff, ↓reduceIte] <;> rfl
    · simp only [gI_sI, Nat.reduceEqDiff, ↓reduceIte] <;> rfl
    · simp only [gI_sI, Nat.reduceEqDiff, ↓reduceIte] <;> rfl
    · simp only [gI_sI, Nat.reduceEqDiff, ↓reduceIte] <;> rfl
    · have hr : r < 1 := hr
      have : r = 0 := by omega
      subst this
      simp (disch := decide) only [gA_sI, gA_sAfn, gA_sA, gA_sAn, ↓reduceIte]
      exact ⟨rfl, rfl, rfl, trivial, fun q => absurd rfl q⟩
    · simp only [gA_sI, gA_sAf, flA, if_pos ht]; rfl
    · simp only [gI_sI, Nat.reduceEqDiff, ↓reduceIte] <;> rfl
    · simp only [gI_sI, Nat.reduceEqDiff, ↓reduceIte] <;> rfl
    · simp only [gI_sI, Nat.reduceEqDiff, ↓reduceIte] <;> rfl
theorem x1_clear (c1 : gC (S d) = 1) (c3 : gC (S (d + 8)) = 3) : ∃ wh, f_X1_clear fu S d = some (st (st S d (clG (S d))) (d + 8) wh) ∧ CHL wh (q00, lk0) := by
  have c3' : ∀ y : GV, gC (st S d y (d + 8)) = 3 := fun y => by rw [st_ne _ _ (by omega)]; exact c3
  obtain ⟨wh, e1, e2⟩ := x3_clear (fu := fu) (S := st S d (clG (S d))) (h := d + 8) (c3' _)
  refine ⟨wh, ?_, e2⟩
  simp only [f_X1_clear, f_X1_clear_0, ↓lm_1, ↓lm_2, ↓lm_3, ↓lm_4, ↓lm_5, ↓lm_6, ↓lm_7, ↓lm_8, ↓lm_9, ↓lm_10, ↓lm_11, li_0, li_1, li_2, li_3, li_4, li_5, li_6, li_7, li_8, li_9, li_10, li_11, li_12, li_13, li_14, li_15, li_16, li_17, li_18, li_19, li_20, li_21, li_22, li_23, li_24, li_25, li_26, li_27, li_28, li_29, li_30, li_31, li_32, li_33, li_34, li_35, li_36, li_37, li_38, li_39, li_40, li_41, li_42, li_43, li_44, li_45, li_46, li_47, li_48, li_49, li_50, li_51, li_52, li_53, li_54, li_55, li_56, li_57, li_58, li_59, li_60, li_61, li_62, li_63, li_64, li_65, li_66, li_96, li_97, li_99, li_100, li_122, li_125, li_126, li_140, li_255, li_256, li_999, li_1000, li_1001, li_1002, li_1100, li_1386, li_1452, li_1518, li_9999, li_1000000, nm_eq, st_same, st_st, c3', decide_true, ck_t]
  rw [show sR (sR (sI (sI (sI (S d) 8 (nI 0)) 9 (nI 0)) 10 (nI 0)) 11 none) 12 none = clG (S d) from rfl, e1, bd_s]
theorem m_stands (hf : 1101 ≤ fu) : ∃ f, f_X13_standsAsAlways fu v (70 : Int32) = some (sAf v 10 f) ∧ (∀ x, x < 70 → f x = gA v 10 x) ∧ f 73 = nI 1 ∧ f 74 = mI 1 ∧ f 75 = mI 1 ∧ f 100 = mI 1 ∧ f 103 = nI 5 ∧ ∀ x, 70 ≤ x → x < 140 → x ≠ 73 → x ≠ 74 → x ≠ 75 → x ≠ 100 → x ≠ 103 → f x = nI 0 := by
  have l70 : (70 : Int32) = nI 70 := by decide
  have key := lpI2 (fun k2 => f_X13_standsAsAlways_2s fu k2 (nI 70)) (fun k y w => y = nI k ∧ ∃ f, w = sAf v 10 f ∧ (∀ x, x < 70 → f x = gA v 10 x) ∧ ∀ x, 70 ≤ x → x < 70 + k → f x = nI 0) (fun r => ∃ f, r = some (sAf v 10 f) ∧ (∀ x, x < 70 → f x = gA v 10 x) ∧ f 73 = nI 1 ∧ f 74 = mI 1 ∧ f 75 = mI 1 ∧ f 100 = mI 1 ∧ f 103 = nI 5 ∧ ∀ x, 70 ≤ x → x < 140 → x ≠ 73 → x ≠ 74 → x ≠ 75 → x ≠ 100 → x ≠ 103 → f x = nI 0) 70 ?_ ?_ fu 0 (nI 0) v ⟨rfl, _, (sAf_self v 10).symm, fun _ _ => rfl, fun x h1 h2 => by omega⟩ (by omega) (by omega)
  · obtain ⟨r, ⟨f, hr, h⟩, e⟩ := key
    refine ⟨f, ?_, h⟩
    rw [← hr, ← e]
    simp only [f_X13_standsAsAlways, f_X13_standsAsAlways_0, f_X13_standsAsAlways_2, l70, ↓lm_1, ↓lm_2, ↓lm_3, ↓lm_4, ↓lm_5, ↓lm_6, ↓lm_7, ↓lm_8, ↓lm_9, ↓lm_10, ↓lm_11, li_0, li_1, li_2, li_3, li_4, li_5, li_6, li_7, li_8, li_9, li_10, li_11, li_12, li_13, li_14, li_15, li_16, li_17, li_18, li_19, li_20, li_21, li_22, li_23, li_24, li_25, li_26, li_27, li_28, li_29, li_30, li_31, li_32, li_33, li_34, li_35, li_36, li_37, li_38, li_39, li_40, li_41, li_42, li_43, li_44, li_45, li_46, li_47, li_48, li_49, li_50, li_51, li_52, li_53, li_54, li_55, li_56, li_57, li_58, li_59, li_60, li_61, li_62, li_63, li_64, li_65, li_66, li_96, li_97, li_99, li_100, li_122, li_125, li_126, li_140, li_255, li_256, li_999, li_1000, li_1001, li_1002, li_1100, li_1386, li_1452, li_1518, li_9999, li_1000000]
  · rintro y u ⟨rfl, f, rfl, g1, g2⟩
    have l7 : nI 70 ≤ nI 70 := by decide
    refine ⟨_, ⟨upd (upd (upd (upd (upd f 73 (nI 1)) 74 (mI 1)) 75 (mI 1)) 100 (mI 1)) 103 (nI 5), rfl, fun x hx => ?_, ?_, ?_, ?_, ?_, ?_, fun x h1 h2 h3 h4 h5 h6 h7 => ?_⟩, fun rec => ?_⟩
    · rw [pk_un (by omega), pk_un (by omega), pk_un (by omega), pk_un (by omega), pk_un (by omega)]; exact g1 x hx
    · rw [pk_un (by omega), pk_un (by omega), pk_un (by omega), pk_un (by omega), pk_us]
    · rw [pk_un (by omega), pk_un (by omega), pk_un (by omega), pk_us]
    · rw [pk_un (by omega), pk_un (by omega), pk_us]
    · rw [pk_un (by omega), pk_us]
    · rw [pk_us]
    · rw [pk_un h7, pk_un h6, pk_un h5, pk_un h4, pk_un h3]; exact g2 x h1 (by omega)
    · simp (disch := omega) only [f_X13_standsAsAlways_2s, l70, ↓lm_1, ↓lm_2, ↓lm_3, ↓lm_4, ↓lm_5, ↓lm_6, ↓lm_7, ↓lm_8, ↓lm_9, ↓lm_10, ↓lm_11, li_0, li_1, li_2, li_3, li_4, li_5, li_6, li_7, li_8, li_9, li_10, li_11, li_12, li_13, li_14, li_15, li_16, li_17, li_18, li_19, li_20, li_21, li_22, li_23, li_24, li_25, li_26, li_27, li_28, li_29, li_30, li_31, li_32, li_33, li_34, li_35, li_36, li_37, li_38, li_39, li_40, li_41, li_42, li_43, li_44, li_45, li_46, li_47, li_48, li_49, li_50, li_51, li_52, li_53, li_54, li_55, li_56, li_57, li_58, li_59, li_60, li_61, li_62, li_63, li_64, li_65, li_66, li_96, li_97, li_99, li_100, li_122, li_125, li_126, li_140, li_255, li_256, li_999, li_1000, li_1001, li_1002, li_1100, li_1386, li_1452, li_1518, li_9999, li_1000000, l7, ↓reduceIte, nI_add, inb_n, ck_t, nI_clamp, nm_eq, sA, gA_sAf, sAf_sAf, Nat.reduceAdd]
  · rintro k y u hk ⟨rfl, f, rfl, g1, g2⟩
    have hle : ¬ nI 70 ≤ nI k := nI_ge hk (by omega)
    refine Or.inl ⟨nI (k + 1), sAf v 10 (upd f (70 + k) (nI 0)), ⟨rfl, _, rfl, fun x hx => by rw [pk_un (by omega)]; exact g1 x hx, fun x h1 h2 => ?_⟩, fun rec => ?_⟩
    · by_cases e : x = 70 + k
      · rw [e, pk_us]
      · rw [pk_un e]; exact g2 x h1 (by omega)
    · simp (disch := omega) only [f_X13_standsAsAlways_2s, l70, ↓lm_1, ↓lm_2, ↓lm_3, ↓lm_4, ↓lm_5, ↓lm_6, ↓lm_7, ↓lm_8, ↓lm_9, ↓lm_10, ↓lm_11, li_0, li_1, li_2, li_3, li_4, li_5, li_6, li_7, li_8, li_9, li_10, li_11, li_12, li_13, li_14, li_15, li_16, li_17, li_18, li_19, li_20, li_21, li_22, li_23, li_24, li_25, li_26, li_27, li_28, li_29, li_30, li_31, li_32, li_33, li_34, li_35, li_36, li_37, li_38, li_39, li_40, li_41, li_42, li_43, li_44, li_45, li_46, li_47, li_48, li_49, li_50, li_51, li_52, li_53, li_54, li_55, li_56, li_57, li_58, li_59, li_60, li_61, li_62, li_63, li_64, li_65, li_66, li_96, li_97, li_99, li_100, li_122, li_125, li_126, li_140, li_255, li_256, li_999, li_1000, li_1001, li_1002, li_1100, li_1386, li_1452, li_1518, li_9999, li_1000000, hle, ↓reduceIte, nI_add, inb_n, ck_t, nI_clamp, nm_eq, sA, gA_sAf, sAf_sAf]
end T
