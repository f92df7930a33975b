/-! ===== names that are told ===== -/
def plc (Nm : Nat → Nat) (c : Nat) : Nat → Option Nat
  | 0 => none
  | n + 1 => match plc Nm c n with
    | some j => some j
    | none => if Nm n = c then some n else none
theorem plc_some {Nm : Nat → Nat} {c : Nat} : ∀ n i, plc Nm c n = some i → i < n ∧ Nm i = c := by
  intro n
  induction n with
  | zero => intro i h; cases h
  | succ n ih =>
    intro i h
    simp only [plc] at h
    cases q : plc Nm c n with
    | some j =>
      rw [q] at h; simp only at h; cases h
      have := ih _ q; exact ⟨by omega, this.2⟩
    | none =>
      rw [q] at h; simp only at h
      split at h
      · cases h; rename_i e; exact ⟨by omega, e⟩
      · cases h
theorem plc_none {Nm : Nat → Nat} {c : Nat} : ∀ n, plc Nm c n = none → ∀ i, i < n → Nm i ≠ c := by
  intro n
  induction n with
  | zero => intro _ i h; omega
  | succ n ih =>
    intro h i hi
    simp only [plc] at h
    cases q : plc Nm c n with
    | some j => rw [q] at h; simp only at h; cases h
    | none =>
      rw [q] at h; simp only at h
      split at h
      · cases h
      · by_cases e : i = n
        · subst e; assumption
        · exact ih q i (by omega)
theorem plc_at {Nm : Nat → Nat} {c i : Nat} (h0 : plc Nm c i = none) (h : Nm i = c) : ∀ n, i < n → plc Nm c n = some i := by
  intro n
  induction n with
  | zero => intro h; omega
  | succ n ih =>
    intro hn
    simp only [plc]
    by_cases e : i = n
    · subst e; rw [h0]; simp only [if_pos h]
    · rw [ih (by omega)]
theorem plc_s0 {Nm : Nat → Nat} {c i : Nat} (h0 : plc Nm c i = none) (h : Nm i ≠ c) : plc Nm c (i + 1) = none := by
  simp only [plc]; rw [h0]; simp only [if_neg h]
theorem x1_placeOf {fu g q n c ln : Nat} {S : ST} {Nm : Nat → Nat} (hf : 1101 ≤ fu) (hn : n ≤ ln) (hl : ln ≤ 100) (ha : alen 0 q (S g) = ln) (hN : ∀ i, i < n → gL (S g) q i = lN (Nm i) ∧ Nm i < 1099511627776) (hc : c < 1099511627776) : f_X1_placeOf fu S (lN c) g q (nI n) = some (oI (plc Nm c n)) := by
  have key := lpI1 (fun k3 => f_X1_placeOf_3s fu k3 S g q (lN c) (nI n)) (fun i y => y = nI i ∧ plc Nm c i = none) (fun r => r = some (oI (plc Nm c n))) n ?_ ?_ fu 0 (nI 0) ⟨rfl, rfl⟩ (by omega) (by omega)
  · obtain ⟨r, hr, e⟩ := key
    rw [← hr, ← e]
    simp only [f_X1_placeOf, f_X1_placeOf_0, f_X1_placeOf_3, ↓lm_1, ↓lm_2, ↓lm_3, ↓lm_4, ↓lm_5, ↓lm_6, ↓lm_7, ↓lm_8, ↓lm_9, ↓lm_10, ↓lm_11, li_0, li_1, li_2, li_3, li_4, li_5, li_6, li_7, li_8, li_9, li_10, li_11, li_12, li_13, li_14, li_15, li_16, li_17, li_18, li_19, li_20, li_21, li_22, li_23, li_24, li_25, li_26, li_27, li_28, li_29, li_30, li_31, li_32, li_33, li_34, li_35, li_36, li_37, li_38, li_39, li_40, li_41, li_42, li_43, li_44, li_45, li_46, li_47, li_48, li_49, li_50, li_51, li_52, li_53, li_54, li_55, li_56, li_57, li_58, li_59, li_60, li_61, li_62, li_63, li_64, li_65, li_66, li_96, li_97, li_99, li_100, li_122, li_125, li_126, li_140, li_255, li_256, li_999, li_1000, li_1001, li_1002, li_1100, li_1386, li_1452, li_1518, li_9999, li_1000000]
  · rintro y ⟨rfl, h⟩
    refine ⟨_, rfl, fun rec => ?_⟩
    rw [h]
    simp (disch := omega) only [f_X1_placeOf_3s, f_X1_placeOf_34, ↓lm_1, ↓lm_2, ↓lm_3, ↓lm_4, ↓lm_5, ↓lm_6, ↓lm_7, ↓lm_8, ↓lm_9, ↓lm_10, ↓lm_11, li_0, li_1, li_2, li_3, li_4, li_5, li_6, li_7, li_8, li_9, li_10, li_11, li_12, li_13, li_14, li_15, li_16, li_17, li_18, li_19, li_20, li_21, li_22, li_23, li_24, li_25, li_26, li_27, li_28, li_29, li_30, li_31, li_32, li_33, li_34, li_35, li_36, li_37, li_38, li_39, li_40, li_41, li_42, li_43, li_44, li_45, li_46, li_47, li_48, li_49, li_50, li_51, li_52, li_53, li_54, li_55, li_56, li_57, li_58, li_59, li_60, li_61, li_62, li_63, li_64, li_65, li_66, li_96, li_97, li_99, li_100, li_122, li_125, li_126, li_140, li_255, li_256, li_999, li_1000, li_1001, li_1002, li_1100, li_1386, li_1452, li_1518, li_9999, li_1000000, nI_leI, Nat.le_refl, ↓reduceIte, oI]
  · rintro i y hi ⟨rfl, h⟩
    have hle : ¬ nI n ≤ nI i := nI_ge hi (by omega)
    have hle2 : ¬ Int32.ofNat ln ≤ nI i := nI_ge (show i < ln by omega) (by omega)
    obtain ⟨n1, n2⟩ := hN i hi
    have cm : lg_cmp (lN (Nm i)) (lN c) = nI 0 ↔ Nm i = c := by rw [lcE, pk_lEQ (by omega) (by omega)]
    by_cases e : Nm i = c
    · refine Or.inr ⟨_, rfl, fun rec => ?_⟩
      rw [plc_at h e n hi]
      simp (disch := omega) only [f_X1_placeOf_3s, ↓lm_1, ↓lm_2, ↓lm_3, ↓lm_4, ↓lm_5, ↓lm_6, ↓lm_7, ↓lm_8, ↓lm_9, ↓lm_10, ↓lm_11, li_0, li_1, li_2, li_3, li_4, li_5, li_6, li_7, li_8, li_9, li_10, li_11, li_12, li_13, li_14, li_15, li_16, li_17, li_18, li_19, li_20, li_21, li_22, li_23, li_24, li_25, li_26, li_27, li_28, li_29, li_30, li_31, li_32, li_33, li_34, li_35, li_36, li_37, li_38, li_39, li_40, li_41, li_42, li_43, li_44, li_45, li_46, li_47, li_48, li_49, li_50, li_51, li_52, li_53, li_54, li_55, li_56, li_57, li_58, li_59, li_60, li_61, li_62, li_63, li_64, li_65, li_66, li_96, li_97, li_99, li_100, li_122, li_125, li_126, li_140, li_255, li_256, li_999, li_1000, li_1001, li_1002, li_1100, li_1386, li_1452, li_1518, li_9999, li_1000000, hle, ha, hle2, ↓reduceIte, inb_n, ck_t, nI_clamp, n1, if_pos (cm.mpr e), oI]
    · refine Or.inl ⟨nI (i + 1), ⟨rfl, plc_s0 h e⟩, fun rec => ?_⟩
      simp (disch := omega) only [f_X1_placeOf_3s, ↓lm_1, ↓lm_2, ↓lm_3, ↓lm_4, ↓lm_5, ↓lm_6, ↓lm_7, ↓lm_8, ↓lm_9, ↓lm_10, ↓lm_11, li_0, li_1, li_2, li_3, li_4, li_5, li_6, li_7, li_8, li_9, li_10, li_11, li_12, li_13, li_14, li_15, li_16, li_17, li_18, li_19, li_20, li_21, li_22, li_23, li_24, li_25, li_26, li_27, li_28, li_29, li_30, li_31, li_32, li_33, li_34, li_35, li_36, li_37, li_38, li_39, li_40, li_41, li_42, li_43, li_44, li_45, li_46, li_47, li_48, li_49, li_50, li_51, li_52, li_53, li_54, li_55, li_56, li_57, li_58, li_59, li_60, li_61, li_62, li_63, li_64, li_65, li_66, li_96, li_97, li_99, li_100, li_122, li_125, li_126, li_140, li_255, li_256, li_999, li_1000, li_1001, li_1002, li_1100, li_1386, li_1452, li_1518, li_9999, li_1000000, hle, ha, hle2, ↓reduceIte, inb_n, ck_t, nI_clamp, n1, if_neg (fun z => e (cm.mp z)), nm_eq, nI_add]
/-- names by the model: told ones, or those that are read -/
def NT (v : GV) (r : Bool) (n : Nat) (cd ty : Nat → Nat) : Prop := n ≤ 17 ∧ gI v (if r = true then 19 else 18) = nI n ∧ ∀ k, k < n → gL v (if r = true then 15 else 14) k = lN (cv (cd k)) ∧ gA v (if r = true then 17 else 16) k = nI (ty k) ∧ wdv (cd k) = true
section T
variable {fu : Nat} {K : KT} {w v : GV} {a fl : Nat}
theorem m_find (hf : 1101 ≤ fu) (hK : okK K) (hv : MB v K) (h : okP K a fl) (hk : kK K a = 1) {r : Bool} {n : Nat} {cd ty : Nat → Nat} (hN : NT v r n cd ty) : f_X13_find fu (mw v a fl) (b01 r) = some (match plc cd (kV K a) n with
    | some k => nI (ty k)
    | none => mI 1) := by
  obtain ⟨n17, n18, nt⟩ := hN
  have hn := hK.1
  have h1 := h.1
  obtain ⟨t1, t2, t3⟩ := hv a h1
  have t3 := t3 (Or.inl hk)
  rw [if_pos hk] at t3
  obtain ⟨v1, v2⟩ := (hK.2.2 a h1).1.2.2.1 hk
  have l2 := cv_lt (kV K a)
  have key := lpI1 (fun k2 => f_X13_find_2s fu k2 (mw v a fl) (b01 r)) (fun i y => y = nI i ∧ plc cd (kV K a) i = none) (fun q => q = some (match plc cd (kV K a) n with
    | some k => nI (ty k)
    | none => mI 1)) n ?_ ?_ fu 0 (nI 0) ⟨rfl, rfl⟩ (by omega) (by omega)
  · obtain ⟨q, hr, e⟩ := key
    rw [← hr, ← e]
    simp only [f_X13_find, f_X13_find_0, f_X13_find_2, ↓lm_1, ↓lm_2, ↓lm_3, ↓lm_4, ↓lm_5, ↓lm_6, ↓lm_7, ↓lm_8, ↓lm_9, ↓lm_10, ↓lm_11, li_0, li_1, li_2, li_3, li_4, li_5, li_6, li_7, li_8, li_9, li_10, li_11, li_12, li_13, li_14, li_15, li_16, li_17, li_18, li_19, li_20, li_21, li_22, li_23, li_24, li_25, li_26, li_27, li_28, li_29, li_30, li_31, li_32, li_33, li_34, li_35, li_36, li_37, li_38, li_39, li_40, li_41, li_42, li_43, li_44, li_45, li_46, li_47, li_48, li_49, li_50, li_51, li_52, li_53, li_54, li_55, li_56, li_57, li_58, li_59, li_60, li_61, li_62, li_63, li_64, li_65, li_66, li_96, li_97, li_99, li_100, li_122, li_125, li_126, li_140, li_255, li_256, li_999, li_1000, li_1001, li_1002, li_1100, li_1386, li_1452, li_1518, li_9999, li_1000000]
  · rintro y ⟨rfl, hp⟩
    refine ⟨_, rfl, fun rec => ?_⟩
    rw [hp]
    cases r with
    | true =>
      simp only [↓reduceIte] at n18
      simp (disch := omega) only [f_X13_find_2s, f_X13_find_18, ↓lm_1, ↓lm_2, ↓lm_3, ↓lm_4, ↓lm_5, ↓lm_6, ↓lm_7, ↓lm_8, ↓lm_9, ↓lm_10, ↓lm_11, li_0, li_1, li_2, li_3, li_4, li_5, li_6, li_7, li_8, li_9, li_10, li_11, li_12, li_13, li_14, li_15, li_16, li_17, li_18, li_19, li_20, li_21, li_22, li_23, li_24, li_25, li_26, li_27, li_28, li_29, li_30, li_31, li_32, li_33, li_34, li_35, li_36, li_37, li_38, li_39, li_40, li_41, li_42, li_43, li_44, li_45, li_46, li_47, li_48, li_49, li_50, li_51, li_52, li_53, li_54, li_55, li_56, li_57, li_58, li_59, li_60, li_61, li_62, li_63, li_64, li_65, li_66, li_96, li_97, li_99, li_100, li_122, li_125, li_126, li_140, li_255, li_256, li_999, li_1000, li_1001, li_1002, li_1100, li_1386, li_1452, li_1518, li_9999, li_1000000, b01_t, n10, ↓reduceIte, mw_I, n18, nI_leI, Nat.le_refl]
    | false =>
      simp only [Bool.false_eq_true, ↓reduceIte] at n18
      simp (disch := omega) only [f_X13_find_2s, f_X13_find_18, ↓lm_1, ↓lm_2, ↓lm_3, ↓lm_4, ↓lm_5, ↓lm_6, ↓lm_7, ↓lm_8, ↓lm_9, ↓lm_10, ↓lm_11, li_0, li_1, li_2, li_3, li_4, li_5, li_6, li_7, li_8, li_9, li_10, li_11, li_12, li_13, li_14, li_15, li_16, li_17, li_18, li_19, li_20, li_21, li_22, li_23, li_24, li_25, li_26, li_27, li_28, li_29, li_30, li_31, li_32, li_33, li_34, li_35, li_36, li_37, li_38, li_39, li_40, li_41, li_42, li_43, li_44, li_45, li_46, li_47, li_48, li_49, li_50, li_51, li_52, li_53, li_54, li_55, li_56, li_57, li_58, li_59, li_60, li_61, li_62, li_63, li_64, li_65, li_66, li_96, li_97, li_99, li_100, li_122, li_125, li_126, li_140, li_255, li_256, li_999, li_1000, li_1001, li_1002, li_1100, li_1386, li_1452, li_1518, li_9999, li_1000000, b01_f, ↓reduceIte, mw_I, n18, nI_leI, Nat.le_refl]
  · rintro i y hi ⟨rfl, hp⟩
    have hle : ¬ nI n ≤ nI i := nI_ge hi (by omega)
    obtain ⟨m1, m2, m3⟩ := nt i hi
    have l1 := cv_lt (cd i)
    have cm : lg_cmp (lN (cv (cd i))) (lN (cv (kV K a))) = nI 0 ↔ cd i = kV K a := by rw [lcE, pk_lEQ (by omega) (by omega), cv_inj m3 v1]
    by_cases e : cd i = kV K a
    · refine Or.inr ⟨_, rfl, fun rec => ?_⟩
      rw [plc_at hp e n hi]
      have c0 := cm.mpr e
      cases r with
      | true =>
        simp only [↓reduceIte] at n18 m1 m2
        simp (disch := omega) only [f_X13_find_2s, f_X13_find_18, f_X13_find_40, ↓lm_1, ↓lm_2, ↓lm_3, ↓lm_4, ↓lm_5, ↓lm_6, ↓lm_7, ↓lm_8, ↓lm_9, ↓lm_10, ↓lm_11, li_0, li_1, li_2, li_3, li_4, li_5, li_6, li_7, li_8, li_9, li_10, li_11, li_12, li_13, li_14, li_15, li_16, li_17, li_18, li_19, li_20, li_21, li_22, li_23, li_24, li_25, li_26, li_27, li_28, li_29, li_30, li_31, li_32, li_33, li_34, li_35, li_36, li_37, li_38, li_39, li_40, li_41, li_42, li_43, li_44, li_45, li_46, li_47, li_48, li_49, li_50, li_51, li_52, li_53, li_54, li_55, li_56, li_57, li_58, li_59, li_60, li_61, li_62, li_63, li_64, li_65, li_66, li_96, li_97, li_99, li_100, li_122, li_125, li_126, li_140, li_255, li_256, li_999, li_1000, li_1001, li_1002, li_1100, li_1386, li_1452, li_1518, li_9999, li_1000000, b01_t, n10, ↓reduceIte, mw_I, mw_g7, mw_A, mw_L, n18, hle, inb_n, ck_t, nI_clamp, nm_eq, m1, t3, if_pos c0, m2]
      | false =>
        simp only [Bool.false_eq_true, ↓reduceIte] at n18 m1 m2
        simp (disch := omega) only [f_X13_find_2s, f_X13_find_18, f_X13_find_40, ↓lm_1, ↓lm_2, ↓lm_3, ↓lm_4, ↓lm_5, ↓lm_6, ↓lm_7, ↓lm_8, ↓lm_9, ↓lm_10, ↓lm_11, li_0, li_1, li_2, li_3, li_4, li_5, li_6, li_7, li_8, li_9, li_10, li_11, li_12, li_13, li_14, li_15, li_16, li_17, li_18, li_19, li_20, li_21, li_22, li_23, li_24, li_25, li_26, li_27, li_28, li_29, li_30, li_31, li_32, li_33, li_34, li_35, li_36, li_37, li_38, li_39, li_40, li_41, li_42, li_43, li_44, li_45, li_46, li_47, li_48, li_49, li_50, li_51, li_52, li_53, li_54, li_55, li_56, li_57, li_58, li_59, li_60, li_61, li_62, li_63, li_64, li_65, li_66, li_96, li_97, li_99, li_100, li_122, li_125, li_126, li_140, li_255, li_256, li_999, li_1000, li_1001, li_1002, li_1100, li_1386, li_1452, li_1518, li_9999, li_1000000, b01_f, ↓reduceIte, mw_I, mw_g7, mw_A, mw_L, n18, hle, inb_n, ck_t, nI_clamp, nm_eq, m1, t3, if_pos c0, m2]
    · refine Or.inl ⟨nI (i + 1), ⟨rfl, plc_s0 hp e⟩, fun rec => ?_⟩
      have c0 : ¬ lg_cmp (lN (cv (cd i))) (lN (cv (kV K a))) = nI 0 := fun z => e (cm.mp z)
      cases r with
      | true =>
        simp only [↓reduceIte] at n18 m1 m2
        simp (disch := omega) only [f_X13_find_2s, f_X13_find_18, f_X13_find_40, ↓lm_1, ↓lm_2, ↓lm_3, ↓lm_4, ↓lm_5, ↓lm_6, ↓lm_7, ↓lm_8, ↓lm_9, ↓lm_10, ↓lm_11, li_0, li_1, li_2, li_3, li_4, li_5, li_6, li_7, li_8, li_9, li_10, li_11, li_12, li_13, li_14, li_15, li_16, li_17, li_18, li_19, li_20, li_21, li_22, li_23, li_24, li_25, li_26, li_27, li_28, li_29, li_30, li_31, li_32, li_33, li_34, li_35, li_36, li_37, li_38, li_39, li_40, li_41, li_42, li_43, li_44, li_45, li_46, li_47, li_48, li_49, li_50, li_51, li_52, li_53, li_54, li_55, li_56, li_57, li_58, li_59, li_60, li_61, li_62, li_63, li_64, li_65, li_66, li_96, li_97, li_99, li_100, li_122, li_125, li_126, li_140, li_255, li_256, li_999, li_1000, li_1001, li_1002, li_1100, li_1386, li_1452, li_1518, li_9999, li_1000000, b01_t, n10, ↓reduceIte, mw_I, mw_g7, mw_A, mw_L, n18, hle, inb_n, ck_t, nI_clamp, nm_eq, m1, t3, c0, nI_add]
      | false =>
        simp only [Bool.false_eq_true, ↓reduceIte] at n18 m1 m2
        simp (disch := omega) only [f_X13_find_2s, f_X13_find_18, f_X13_find_40, ↓lm_1, ↓lm_2, ↓lm_3, ↓lm_4, ↓lm_5, ↓lm_6, ↓lm_7, ↓lm_8, ↓lm_9, ↓lm_10, ↓lm_11, li_0, li_1, li_2, li_3, li_4, li_5, li_6, li_7, li_8, li_9, li_10, li_11, li_12, li_13, li_14, li_15, li_16, li_17, li_18, li_19, li_20, li_21, li_22, li_23, li_24, li_25, li_26, li_27, li_28, li_29, li_30, li_31, li_32, li_33, li_34, li_35, li_36, li_37, li_38, li_39, li_40, li_41, li_42, li_43, li_44, li_45, li_46, li_47, li_48, li_49, li_50, li_51, li_52, li_53, li_54, li_55, li_56, li_57, li_58, li_59, li_60, li_61, li_62, li_63, li_64, li_65, li_66, li_96, li_97, li_99, li_100, li_122, li_125, li_126, li_140, li_255, li_256, li_999, li_1000, li_1001, li_1002, li_1100, li_1386, li_1452, li_1518, li_9999, li_1000000, b01_f, ↓reduceIte, mw_I, mw_g7, mw_A, mw_L, n18, hle, inb_n, ck_t, nI_clamp, nm_eq, m1, t3, c0, nI_add]
/-- behind a name that must be told -/
def ndT (K : KT) (a fl : Nat) (Nm : Nat → Nat) (n : Nat) : Nat := if tNm K a fl = true then (match plc Nm (kV K a) n with
    | some _ => fl
    | none => flf K a fl 2) else flf K a fl 1
theorem okP_ndT (hK : okK K) (h : okP K a fl) (Nm : Nat → Nat) (n : Nat) : okP K a (ndT K a fl Nm n) := by
  unfold ndT
  split
  · split
    · exact h
    · exact okP_flf hK h (by omega)
  · exact okP_flf hK h (by omega)
theorem tNm_k (h : tNm K a fl = true) : fl = 0 ∧ kK K a = 1 := ⟨(of_decide_eq_true h).1, (of_decide_eq_true h).2.1⟩
theorem ndT_0 {Nm : Nat → Nat} {n : Nat} (h : ndT K a fl Nm n = 0) : fl = 0 ∧ kK K a = 1 ∧ ∃ i, plc Nm (kV K a) n = some i ∧ i < n ∧ Nm i = kV K a := by
  unfold ndT at h
  cases q : tNm K a fl
  · rw [q] at h; simp only [Bool.false_eq_true, ↓reduceIte] at h; exact absurd h (flf_pos (by omega))
  · have q1 := tNm_k q
    rw [q] at h
    simp only [↓reduceIte] at h
    cases e : plc Nm (kV K a) n with
    | none => rw [e] at h; exact absurd h (flf_pos (by omega))
    | some i => exact ⟨q1.1, q1.2, i, rfl, plc_some n i e⟩
/-- the class looks a name up -/
theorem x1_toldAt {S : ST} {tp g q n ln : Nat} {Nm : Nat → Nat} (hf : 1101 ≤ fu) (hK : okK K) (hw : CB w K) (h : okP K a fl) (hS : S tp = tw w a fl) (hn : n ≤ ln) (hl : ln ≤ 100) (ha : alen 0 q (S g) = ln) (hN : ∀ i, i < n → gL (S g) q i = lN (Nm i) ∧ Nm i < 1099511627776) : f_X1_toldAt fu S tp g q (nI n) = some (oI (if tNm K a fl = true then plc Nm (kV K a) n else none), st S tp (tw w a (ndT K a fl Nm n))) := by
  have hmi : (-1 : Int32) = mI 1 := lm_1
  unfold ndT
  cases qn : tNm K a fl
  · simp only [f_X1_toldAt, f_X1_toldAt_0, f_X1_toldAt_37, ↓lm_1, ↓lm_2, ↓lm_3, ↓lm_4, ↓lm_5, ↓lm_6, ↓lm_7, ↓lm_8, ↓lm_9, ↓lm_10, ↓lm_11, li_0, li_1, li_2, li_3, li_4, li_5, li_6, li_7, li_8, li_9, li_10, li_11, li_12, li_13, li_14, li_15, li_16, li_17, li_18, li_19, li_20, li_21, li_22, li_23, li_24, li_25, li_26, li_27, li_28, li_29, li_30, li_31, li_32, li_33, li_34, li_35, li_36, li_37, li_38, li_39, li_40, li_41, li_42, li_43, li_44, li_45, li_46, li_47, li_48, li_49, li_50, li_51, li_52, li_53, li_54, li_55, li_56, li_57, li_58, li_59, li_60, li_61, li_62, li_63, li_64, li_65, li_66, li_96, li_97, li_99, li_100, li_122, li_125, li_126, li_140, li_255, li_256, li_999, li_1000, li_1001, li_1002, li_1100, li_1386, li_1452, li_1518, li_9999, li_1000000, hS, x8_isName hK hw h, qn, bd_s, b01_f, ↓reduceIte, x8_fail hK hw h, nm_eq, Bool.false_eq_true, oI]
  · have q1 := tNm_k qn
    have v40 := wd40 ((hK.2.2 a h.1).1.2.2.1 q1.2).1
    have e3 := (hw a h.1).2.2 (Or.inl q1.2)
    have po := x1_placeOf (fu := fu) (S := S) (g := g) (q := q) (c := kV K a) hf hn hl ha hN v40
    cases e : plc Nm (kV K a) n with
    | none =>
      rw [e] at po
      simp only [f_X1_toldAt, f_X1_toldAt_0, f_X1_toldAt_37, ↓lm_1, ↓lm_2, ↓lm_3, ↓lm_4, ↓lm_5, ↓lm_6, ↓lm_7, ↓lm_8, ↓lm_9, ↓lm_10, ↓lm_11, li_0, li_1, li_2, li_3, li_4, li_5, li_6, li_7, li_8, li_9, li_10, li_11, li_12, li_13, li_14, li_15, li_16, li_17, li_18, li_19, li_20, li_21, li_22, li_23, li_24, li_25, li_26, li_27, li_28, li_29, li_30, li_31, li_32, li_33, li_34, li_35, li_36, li_37, li_38, li_39, li_40, li_41, li_42, li_43, li_44, li_45, li_46, li_47, li_48, li_49, li_50, li_51, li_52, li_53, li_54, li_55, li_56, li_57, li_58, li_59, li_60, li_61, li_62, li_63, li_64, li_65, li_66, li_96, li_97, li_99, li_100, li_122, li_125, li_126, li_140, li_255, li_256, li_999, li_1000, li_1001, li_1002, li_1100, li_1386, li_1452, li_1518, li_9999, li_1000000, hS, x8_isName hK hw h, qn, bd_s, b01_t, n10, ↓reduceIte, x8_packedA hK h, e3, po, oI, x8_fail hK hw h, nm_eq, e]
    | some i =>
      have hi := (plc_some n i e).1
      rw [e] at po
      have nm1 : ¬ nI i = mI 1 := nI_nem (by omega) (by omega) (by omega)
      simp only [f_X1_toldAt, f_X1_toldAt_0, f_X1_toldAt_37, ↓lm_1, ↓lm_2, ↓lm_3, ↓lm_4, ↓lm_5, ↓lm_6, ↓lm_7, ↓lm_8, ↓lm_9, ↓lm_10, ↓lm_11, li_0, li_1, li_2, li_3, li_4, li_5, li_6, li_7, li_8, li_9, li_10, li_11, li_12, li_13, li_14, li_15, li_16, li_17, li_18, li_19, li_20, li_21, li_22, li_23, li_24, li_25, li_26, li_27, li_28, li_29, li_30, li_31, li_32, li_33, li_34, li_35, li_36, li_37, li_38, li_39, li_40, li_41, li_42, li_43, li_44, li_45, li_46, li_47, li_48, li_49, li_50, li_51, li_52, li_53, li_54, li_55, li_56, li_57, li_58, li_59, li_60, li_61, li_62, li_63, li_64, li_65, li_66, li_96, li_97, li_99, li_100, li_122, li_125, li_126, li_140, li_255, li_256, li_999, li_1000, li_1001, li_1002, li_1100, li_1386, li_1452, li_1518, li_9999, li_1000000, hS, x8_isName hK hw h, qn, bd_s, b01_t, n10, ↓reduceIte, x8_packedA hK h, e3, po, oI, nm1, e]
      rw [← hS, st_self]
/-- what a kind of names has, in the row of all names -/
def knd (n : Nat) (cd ty : Nat → Nat) (Nm : Nat → Nat) (m fr : Nat) : Prop := ∀ c, (∀ i, plc Nm c m = some i → i < 8 ∧ ∃ k, plc cd c n = some k ∧ ty k = fr + i) ∧ (plc Nm c m = none → ∀ k, plc cd c n = some k → ty k < 100 ∧ (ty k < fr ∨ fr + 8 ≤ ty k))
theorem m_toldHere (hf : 1101 ≤ fu) (hK : okK K) (hv : MB v K) (h9 : WB9 v) (h : okP K a fl) {r : Bool} {n m fr : Nat} {cd ty Nm : Nat → Nat} (hN : NT v r n cd ty) (hfr : fr ≤ 20) (hk : knd n cd ty Nm m fr) : f_X13_toldHere fu (mw v a fl) (b01 r) (nI fr) = some (if ndT K a fl Nm m = 0 then oI (plc Nm (kV K a) m) else nI 0, mw v a (ndT K a fl Nm m)) := by
  have h2 := h.2
  have hnn : nI 0 ≤ nI 0 := by decide
  have flt : ∀ x, x ≤ 5 → 1 ≤ x → ¬ nI (flf K a fl x) ≤ nI 0 ∧ ¬ nI (flf K a fl x) = nI 0 := fun x hx h1x => by
    have := (okP_flf hK h hx).2
    have := flf_pos (K := K) (a := a) (fl := fl) h1x
    exact ⟨nI_ge (by omega) (by omega), by rw [nI_eq (by omega) (by omega)]; omega⟩
  unfold ndT
  by_cases c0 : fl = 0
  · cases qn : tNm K a fl
    · obtain ⟨f1, f1'⟩ := flt 1 (by omega) (by omega)
      have fp := flf_pos (K := K) (a := a) (fl := fl) (x := 1) (by omega)
      have w1 := m_wrong (fu := fu) hK hv h 1
      have in1 := m_isName (fu := fu) hf hK hv h9 h
      rw [qn] at in1
      subst c0
      simp only [f_X13_toldHere, f_X13_toldHere_0, f_X13_toldHere_19, f_X13_toldHere_37, f_X13_toldHere_60, ↓lm_1, ↓lm_2, ↓lm_3, ↓lm_4, ↓lm_5, ↓lm_6, ↓lm_7, ↓lm_8, ↓lm_9, ↓lm_10, ↓lm_11, li_0, li_1, li_2, li_3, li_4, li_5, li_6, li_7, li_8, li_9, li_10, li_11, li_12, li_13, li_14, li_15, li_16, li_17, li_18, li_19, li_20, li_21, li_22, li_23, li_24, li_25, li_26, li_27, li_28, li_29, li_30, li_31, li_32, li_33, li_34, li_35, li_36, li_37, li_38, li_39, li_40, li_41, li_42, li_43, li_44, li_45, li_46, li_47, li_48, li_49, li_50, li_51, li_52, li_53, li_54, li_55, li_56, li_57, li_58, li_59, li_60, li_61, li_62, li_63, li_64, li_65, li_66, li_96, li_97, li_99, li_100, li_122, li_125, li_126, li_140, li_255, li_256, li_999, li_1000, li_1001, li_1002, li_1100, li_1386, li_1452, li_1518, li_9999, li_1000000, mw_g8, ↓reduceIte, in1, bd_s, b01_f, w1, f1, f1', fp, Bool.false_eq_true]
    · have q1 := tNm_k qn
      have fi := m_find (fu := fu) (r := r) hf hK hv h q1.2 hN
      have in1 := m_isName (fu := fu) hf hK hv h9 h
      rw [qn] at in1
      obtain ⟨kd1, kd2⟩ := hk (kV K a)
      cases e : plc Nm (kV K a) m with
      | some i =>
        obtain ⟨i8, k, e2, e3⟩ := kd1 i e
        rw [e2] at fi
        simp only [e3] at fi
        have win := w_in (fu := fu) (j := i) (n := 7) (by omega) (by omega)
        have es : nI (fr + i) - nI fr = nI i := by rw [pk_sub (by omega)]; congr 1; omega
        subst c0
        simp only [f_X13_toldHere, f_X13_toldHere_0, f_X13_toldHere_19, f_X13_toldHere_37, f_X13_toldHere_60, ↓lm_1, ↓lm_2, ↓lm_3, ↓lm_4, ↓lm_5, ↓lm_6, ↓lm_7, ↓lm_8, ↓lm_9, ↓lm_10, ↓lm_11, li_0, li_1, li_2, li_3, li_4, li_5, li_6, li_7, li_8, li_9, li_10, li_11, li_12, li_13, li_14, li_15, li_16, li_17, li_18, li_19, li_20, li_21, li_22, li_23, li_24, li_25, li_26, li_27, li_28, li_29, li_30, li_31, li_32, li_33, li_34, li_35, li_36, li_37, li_38, li_39, li_40, li_41, li_42, li_43, li_44, li_45, li_46, li_47, li_48, li_49, li_50, li_51, li_52, li_53, li_54, li_55, li_56, li_57, li_58, li_59, li_60, li_61, li_62, li_63, li_64, li_65, li_66, li_96, li_97, li_99, li_100, li_122, li_125, li_126, li_140, li_255, li_256, li_999, li_1000, li_1001, li_1002, li_1100, li_1386, li_1452, li_1518, li_9999, li_1000000, mw_g8, ↓reduceIte, in1, bd_s, b01_t, n10, hnn, fi, es, win, oI]
      | none =>
        obtain ⟨f1, f1'⟩ := flt 2 (by omega) (by omega)
        have fp := flf_pos (K := K) (a := a) (fl := fl) (x := 2) (by omega)
        have w1 := m_wrong (fu := fu) hK hv h 2
        have out : ∃ z, f_X13_find fu (mw v a fl) (b01 r) = some z ∧ f_X13_within fu (z - nI fr) (nI 0) (nI 7) = some (nI 0) := by
          cases e2 : plc cd (kV K a) n with
          | none =>
            rw [e2] at fi
            refine ⟨_, fi, w_out ?_ (by omega)⟩
            rintro ⟨j, hj, ej⟩
            have := congrArg Int32.toInt ej
            have e4 : (mI 1 - nI fr).toInt = -1 - (fr : Int) := by
              have hh : (List.range 21).all (fun fr => decide ((mI 1 - nI fr).toInt = -1 - (fr : Int))) = true := by decide +kernel
              exact co_dec hh (show fr < 21 by omega)
            rw [e4, nI_toInt (by omega)] at this
            omega
          | some k =>
            obtain ⟨tk1, tk2⟩ := kd2 e k e2
            rw [e2] at fi
            refine ⟨_, fi, w_out ?_ (by omega)⟩
            rintro ⟨j, hj, ej⟩
            have := congrArg Int32.toInt ej
            simp only at this
            rw [pk_sub_toInt (by omega) (by omega), nI_toInt (by omega)] at this
            omega
        obtain ⟨z, z1, z2⟩ := out
        subst c0
        simp only [f_X13_toldHere, f_X13_toldHere_0, f_X13_toldHere_19, f_X13_toldHere_37, f_X13_toldHere_60, ↓lm_1, ↓lm_2, ↓lm_3, ↓lm_4, ↓lm_5, ↓lm_6, ↓lm_7, ↓lm_8, ↓lm_9, ↓lm_10, ↓lm_11, li_0, li_1, li_2, li_3, li_4, li_5, li_6, li_7, li_8, li_9, li_10, li_11, li_12, li_13, li_14, li_15, li_16, li_17, li_18, li_19, li_20, li_21, li_22, li_23, li_24, li_25, li_26, li_27, li_28, li_29, li_30, li_31, li_32, li_33, li_34, li_35, li_36, li_37, li_38, li_39, li_40, li_41, li_42, li_43, li_44, li_45, li_46, li_47, li_48, li_49, li_50, li_51, li_52, li_53, li_54, li_55, li_56, li_57, li_58, li_59, li_60, li_61, li_62, li_63, li_64, li_65, li_66, li_96, li_97, li_99, li_100, li_122, li_125, li_126, li_140, li_255, li_256, li_999, li_1000, li_1001, li_1002, li_1100, li_1386, li_1452, li_1518, li_9999, li_1000000, mw_g8, ↓reduceIte, in1, bd_s, b01_t, n10, hnn, z1, z2, w1, f1, fp]
  · have f0 : ¬ nI fl = nI 0 := by rw [nI_eq (by omega) (by omega)]; exact c0
    have f1 : ¬ nI fl ≤ nI 0 := nI_ge (by omega) (by omega)
    have qn : tNm K a fl = false := decide_eq_false (fun q => c0 q.1)
    have ef : flf K a fl 1 = fl := if_neg c0
    rw [qn, ef]
    simp only [f_X13_toldHere, f_X13_toldHere_0, f_X13_toldHere_19, f_X13_toldHere_37, f_X13_toldHere_60, ↓lm_1, ↓lm_2, ↓lm_3, ↓lm_4, ↓lm_5, ↓lm_6, ↓lm_7, ↓lm_8, ↓lm_9, ↓lm_10, ↓lm_11, li_0, li_1, li_2, li_3, li_4, li_5, li_6, li_7, li_8, li_9, li_10, li_11, li_12, li_13, li_14, li_15, li_16, li_17, li_18, li_19, li_20, li_21, li_22, li_23, li_24, li_25, li_26, li_27, li_28, li_29, li_30, li_31, li_32, li_33, li_34, li_35, li_36, li_37, li_38, li_39, li_40, li_41, li_42, li_43, li_44, li_45, li_46, li_47, li_48, li_49, li_50, li_51, li_52, li_53, li_54, li_55, li_56, li_57, li_58, li_59, li_60, li_61, li_62, li_63, li_64, li_65, li_66, li_96, li_97, li_99, li_100, li_122, li_125, li_126, li_140, li_255, li_256, li_999, li_1000, li_1001, li_1002, li_1100, li_1386, li_1452, li_1518, li_9999, li_1000000, mw_g8, f0, f1, c0, ↓reduceIte, Bool.false_eq_true]
theorem m_takeTold (hf : 1101 ≤ fu) (hK : okK K) (hv : MB v K) (h9 : WB9 v) (h : okP K a fl) {r : Bool} {n m fr : Nat} {cd ty Nm : Nat → Nat} (hN : NT v r n cd ty) (hfr : fr ≤ 20) (hk : knd n cd ty Nm m fr) : f_X13_takeTold fu (mw v a fl) (b01 r) (nI fr) = some (if ndT K a fl Nm m = 0 then oI (plc Nm (kV K a) m) else nI 0, mw v (stp K a (ndT K a fl Nm m)) (ndT K a fl Nm m)) := by
  have ok := (okP_ndT hK h Nm m).2
  by_cases c : ndT K a fl Nm m = 0
  · have q := ndT_0 c
    have e0 : nI 0 ≤ nI 0 := by decide
    have th := m_toldHere (fu := fu) hf hK hv h9 h hN hfr hk
    rw [c] at th ⊢
    simp only [f_X13_takeTold, f_X13_takeTold_0, f_X13_takeTold_24, ↓lm_1, ↓lm_2, ↓lm_3, ↓lm_4, ↓lm_5, ↓lm_6, ↓lm_7, ↓lm_8, ↓lm_9, ↓lm_10, ↓lm_11, li_0, li_1, li_2, li_3, li_4, li_5, li_6, li_7, li_8, li_9, li_10, li_11, li_12, li_13, li_14, li_15, li_16, li_17, li_18, li_19, li_20, li_21, li_22, li_23, li_24, li_25, li_26, li_27, li_28, li_29, li_30, li_31, li_32, li_33, li_34, li_35, li_36, li_37, li_38, li_39, li_40, li_41, li_42, li_43, li_44, li_45, li_46, li_47, li_48, li_49, li_50, li_51, li_52, li_53, li_54, li_55, li_56, li_57, li_58, li_59, li_60, li_61, li_62, li_63, li_64, li_65, li_66, li_96, li_97, li_99, li_100, li_122, li_125, li_126, li_140, li_255, li_256, li_999, li_1000, li_1001, li_1002, li_1100, li_1386, li_1452, li_1518, li_9999, li_1000000, th, bd2_s, mw_g7, mw_g8, e0, ↓reduceIte, nI_add, mw_7, nm_eq, stp_in rfl (show kK K a ≠ 0 by omega)]
  · have e0 : ¬ nI (ndT K a fl Nm m) ≤ nI 0 := nI_ge (by omega) (by omega)
    have es : stp K a (ndT K a fl Nm m) = a := if_neg (fun q => c q.1)
    simp only [f_X13_takeTold, f_X13_takeTold_0, f_X13_takeTold_24, ↓lm_1, ↓lm_2, ↓lm_3, ↓lm_4, ↓lm_5, ↓lm_6, ↓lm_7, ↓lm_8, ↓lm_9, ↓lm_10, ↓lm_11, li_0, li_1, li_2, li_3, li_4, li_5, li_6, li_7, li_8, li_9, li_10, li_11, li_12, li_13, li_14, li_15, li_16, li_17, li_18, li_19, li_20, li_21, li_22, li_23, li_24, li_25, li_26, li_27, li_28, li_29, li_30, li_31, li_32, li_33, li_34, li_35, li_36, li_37, li_38, li_39, li_40, li_41, li_42, li_43, li_44, li_45, li_46, li_47, li_48, li_49, li_50, li_51, li_52, li_53, li_54, li_55, li_56, li_57, li_58, li_59, li_60, li_61, li_62, li_63, li_64, li_65, li_66, li_96, li_97, li_99, li_100, li_122, li_125, li_126, li_140, li_255, li_256, li_999, li_1000, li_1001, li_1002, li_1100, li_1386, li_1452, li_1518, li_9999, li_1000000, m_toldHere hf hK hv h9 h hN hfr hk, bd2_s, mw_g7, mw_g8, e0, ↓reduceIte, mw_same, nm_eq, es]
end T
/-- the row of names shows each kind -/
theorem NR_spot {G : GP} {N : NM} {n : Nat} {cd ty : Nat → Nat} (hG : okG G) (h : NR G N n cd ty) : knd n cd ty N.1 (ns G) 0 := by
  obtain ⟨a1, a2, a3, a4, a5, a6, a7⟩ := h
  have h8 := hG.1
  have h5 := hG.2.1
  intro c
  refine ⟨fun i hi => ?_, fun hn k hk => ?_⟩
  · obtain ⟨i1, i2⟩ := plc_some _ _ hi
    obtain ⟨k, k1, k2, k3⟩ := a3 i i1
    refine ⟨by omega, k, ?_, by omega⟩
    cases e : plc cd c n with
    | none => exact absurd (k2.trans i2) (plc_none _ e k k1)
    | some k' =>
      obtain ⟨b1, b2⟩ := plc_some _ _ e
      rw [a7 k k' k1 b1 (by omega)]
  · obtain ⟨b1, b2⟩ := plc_some _ _ hk
    rcases a6 k b1 with ⟨i, i1, i2, i3⟩ | ⟨i, i1, i2, i3⟩ | ⟨i, i1, i2, i3⟩
    · exact absurd (i3.symm.trans b2) (plc_none _ hn i i1)
    · exact ⟨by omega, by omega⟩
    · exact ⟨by omega, by omega⟩
theorem NR_thief {G : GP} {N : NM} {n : Nat} {cd ty : Nat → Nat} (hG : okG G) (h : NR G N n cd ty) : knd n cd ty N.2.1 (nt G) 20 := by
  obtain ⟨a1, a2, a3, a4, a5, a6, a7⟩ := h
  have h8 := hG.1
  have h5 := hG.2.1
  intro c
  refine ⟨fun i hi => ?_, fun hn k hk => ?_⟩
  · obtain ⟨i1, i2⟩ := plc_some _ _ hi
    obtain ⟨k, k1, k2, k3⟩ := a4 i i1
    refine ⟨by omega, k, ?_, by omega⟩
    cases e : plc cd c n with
    | none => exact absurd (k2.trans i2) (plc_none _ e k k1)
    | some k' =>
      obtain ⟨b1, b2⟩ := plc_some _ _ e
      rw [a7 k k' k1 b1 (by omega)]
  · obtain ⟨b1, b2⟩ := plc_some _ _ hk
    rcases a6 k b1 with ⟨i, i1, i2, i3⟩ | ⟨i, i1, i2, i3⟩ | ⟨i, i1, i2, i3⟩
    · exact ⟨by omega, by omega⟩
    · exact absurd (i3.symm.trans b2) (plc_none _ hn i i1)
    · exact ⟨by omega, by omega⟩
theorem alen_0 (w : GV) : alen 0 0 w = 8 := by
  have : (ds 0 0).2.2.2 = 8 := by decide +kernel
  simp [alen, this]
theorem alen_1 (w : GV) : alen 0 1 w = 5 := by
  have : (ds 0 1).2.2.2 = 5 := by decide +kernel
  simp [alen, this]
theorem alen_2 (w : GV) : alen 0 2 w = 4 := by
  have : (ds 0 2).2.2.2 = 4 := by decide +kernel
  simp [alen, this]
