/-! ===== gallery: a new name; the draft, class and model ===== -/
theorem plc_iff {Nm : Nat → Nat} {c n : Nat} : (plc Nm c n).isSome = true ↔ ∃ i, i < n ∧ Nm i = c := by
  constructor
  · intro h
    cases e : plc Nm c n with
    | none => rw [e] at h; cases h
    | some i => exact ⟨i, plc_some n i e⟩
  · rintro ⟨i, h1, h2⟩
    cases e : plc Nm c n with
    | none => exact absurd h2 (plc_none n e i h1)
    | some i => rfl
def tld (G : GP) (N : NM) (c : Nat) : Bool := (plc N.1 c (ns G)).isSome || (plc N.2.1 c (nt G)).isSome || (plc N.2.2 c (ne G)).isSome
theorem NR_tld {G : GP} {N : NM} {n c : Nat} {cd ty : Nat → Nat} (h : NR G N n cd ty) : (plc cd c n).isSome = tld G N c := by
  obtain ⟨a1, a2, a3, a4, a5, a6, a7⟩ := h
  rw [Bool.eq_iff_iff, tld, Bool.or_eq_true, Bool.or_eq_true, plc_iff, plc_iff, plc_iff, plc_iff]
  constructor
  · rintro ⟨k, k1, k2⟩
    rcases a6 k k1 with ⟨i, i1, _, i3⟩ | ⟨i, i1, _, i3⟩ | ⟨i, i1, _, i3⟩
    · exact Or.inl (Or.inl ⟨i, i1, by rw [← i3]; exact k2⟩)
    · exact Or.inl (Or.inr ⟨i, i1, by rw [← i3]; exact k2⟩)
    · exact Or.inr ⟨i, i1, by rw [← i3]; exact k2⟩
  · rintro ((⟨i, i1, i2⟩ | ⟨i, i1, i2⟩) | ⟨i, i1, i2⟩)
    · obtain ⟨k, k1, k2, _⟩ := a3 i i1; exact ⟨k, k1, by rw [k2]; exact i2⟩
    · obtain ⟨k, k1, k2, _⟩ := a4 i i1; exact ⟨k, k1, by rw [k2]; exact i2⟩
    · obtain ⟨k, k1, k2, _⟩ := a5 i i1; exact ⟨k, k1, by rw [k2]; exact i2⟩
def nw (K : KT) (a fl : Nat) (t : Bool) : Nat × Nat := if tNm K a fl = true then (if t = true then (a, flf K a fl 3) else (a + 1, fl)) else (a, flf K a fl 1)
def addn (v : GV) (n c : Nat) (y : Int32) : GV := sI (sA (sL v 15 n (lN (cv c))) 17 n y) 19 (nI (n + 1))
section T
variable {fu p d a fl : Nat} {K : KT} {w v : GV} {S : ST} {G : GP} {N : NM}
theorem okP_nw (hK : okK K) (h : okP K a fl) (t : Bool) : okP K (nw K a fl t).1 (nw K a fl t).2 := by
  unfold nw
  split
  · rename_i c
    split
    · exact okP_flf hK h (by omega)
    · exact okP_in hK h (by have := (tNm_k c).2; omega)
  · exact okP_flf hK h (by omega)
theorem nw_0 {t : Bool} (h : (nw K a fl t).2 = 0) : fl = 0 ∧ kK K a = 1 ∧ t = false ∧ (nw K a fl t).1 = a + 1 := by
  unfold nw at h ⊢
  by_cases c : tNm K a fl = true
  · rw [if_pos c] at h ⊢
    cases t
    · rw [if_neg (by decide)] at h ⊢; exact ⟨(tNm_k c).1, (tNm_k c).2, rfl, rfl⟩
    · rw [if_pos rfl] at h; exact absurd h (flf_pos (by omega))
  · rw [if_neg c] at h; exact absurd h (flf_pos (by omega))
theorem nw_le {t : Bool} : a ≤ (nw K a fl t).1 := by
  unfold nw
  repeat' split
  all_goals simp only <;> omega
theorem x1_isTold (hf : 1101 ≤ fu) (hG : okG G) {c : Nat} (hc : c < 1099511627776) (g8 : gI (S d) 8 = nI (ns G)) (g9 : gI (S d) 9 = nI (nt G)) (g10 : gI (S d) 10 = nI (ne G)) (hN : CN (S d) G N) (h40 : (∀ i, i < ns G → N.1 i < 1099511627776) ∧ (∀ i, i < nt G → N.2.1 i < 1099511627776) ∧ ∀ i, i < ne G → N.2.2 i < 1099511627776) : f_X1_isTold fu S d (lN c) = some (b01 (tld G N c)) := by
  obtain ⟨s8, t5, e4, _⟩ := hG
  have p1 := x1_placeOf (fu := fu) (S := S) (g := d) (q := 0) (c := c) (n := ns G) (Nm := N.1) hf s8 (by omega) (alen_0 _) (fun i hi => ⟨hN.1 i hi, h40.1 i hi⟩) hc
  have p2 := x1_placeOf (fu := fu) (S := S) (g := d) (q := 1) (c := c) (n := nt G) (Nm := N.2.1) hf t5 (by omega) (alen_1 _) (fun i hi => ⟨hN.2.1 i hi, h40.2.1 i hi⟩) hc
  have p3 := x1_placeOf (fu := fu) (S := S) (g := d) (q := 2) (c := c) (n := ne G) (Nm := N.2.2) hf e4 (by omega) (alen_2 _) (fun i hi => ⟨hN.2.2 i hi, h40.2.2 i hi⟩) hc
  unfold tld
  cases e1 : plc N.1 c (ns G) with
  | some i =>
    have := (plc_some _ _ e1).1
    have nm1 : ¬ nI i = mI 1 := nI_nem (by omega) (by omega) (by omega)
    rw [e1] at p1
    simp only [f_X1_isTold, f_X1_isTold_0, f_X1_isTold_48, ↓lm_1, ↓lm_2, ↓lm_3, ↓lm_4, ↓lm_5, ↓lm_6, ↓lm_7, ↓lm_8, ↓lm_9, ↓lm_10, ↓lm_11, li_0, li_1, li_2, li_3, li_4, li_5, li_6, li_7, li_8, li_9, li_10, li_11, li_12, li_13, li_14, li_15, li_16, li_17, li_18, li_19, li_20, li_21, li_22, li_23, li_24, li_25, li_26, li_27, li_28, li_29, li_30, li_31, li_32, li_33, li_34, li_35, li_36, li_37, li_38, li_39, li_40, li_41, li_42, li_43, li_44, li_45, li_46, li_47, li_48, li_49, li_50, li_51, li_52, li_53, li_54, li_55, li_56, li_57, li_58, li_59, li_60, li_61, li_62, li_63, li_64, li_65, li_66, li_96, li_97, li_99, li_100, li_122, li_125, li_126, li_140, li_255, li_256, li_999, li_1000, li_1001, li_1002, li_1100, li_1386, li_1452, li_1518, li_9999, li_1000000, g8, p1, bd_s, oI, nm1, ↓reduceIte, Option.isSome_some, Bool.true_or, b01_t]
  | none =>
    rw [e1] at p1
    cases e2 : plc N.2.1 c (nt G) with
    | some i =>
      have := (plc_some _ _ e2).1
      have nm1 : ¬ nI i = mI 1 := nI_nem (by omega) (by omega) (by omega)
      rw [e2] at p2
      simp only [f_X1_isTold, f_X1_isTold_0, f_X1_isTold_48, ↓lm_1, ↓lm_2, ↓lm_3, ↓lm_4, ↓lm_5, ↓lm_6, ↓lm_7, ↓lm_8, ↓lm_9, ↓lm_10, ↓lm_11, li_0, li_1, li_2, li_3, li_4, li_5, li_6, li_7, li_8, li_9, li_10, li_11, li_12, li_13, li_14, li_15, li_16, li_17, li_18, li_19, li_20, li_21, li_22, li_23, li_24, li_25, li_26, li_27, li_28, li_29, li_30, li_31, li_32, li_33, li_34, li_35, li_36, li_37, li_38, li_39, li_40, li_41, li_42, li_43, li_44, li_45, li_46, li_47, li_48, li_49, li_50, li_51, li_52, li_53, li_54, li_55, li_56, li_57, li_58, li_59, li_60, li_61, li_62, li_63, li_64, li_65, li_66, li_96, li_97, li_99, li_100, li_122, li_125, li_126, li_140, li_255, li_256, li_999, li_1000, li_1001, li_1002, li_1100, li_1386, li_1452, li_1518, li_9999, li_1000000, g8, g9, p1, p2, bd_s, oI, nm1, ↓reduceIte, Option.isSome_some, Option.isSome_none, Bool.false_or, Bool.true_or, b01_t]
    | none =>
      rw [e2] at p2
      cases e3 : plc N.2.2 c (ne G) with
      | some i =>
        have := (plc_some _ _ e3).1
        have nm1 : ¬ nI i = mI 1 := nI_nem (by omega) (by omega) (by omega)
        rw [e3] at p3
        simp only [f_X1_isTold, f_X1_isTold_0, f_X1_isTold_48, ↓lm_1, ↓lm_2, ↓lm_3, ↓lm_4, ↓lm_5, ↓lm_6, ↓lm_7, ↓lm_8, ↓lm_9, ↓lm_10, ↓lm_11, li_0, li_1, li_2, li_3, li_4, li_5, li_6, li_7, li_8, li_9, li_10, li_11, li_12, li_13, li_14, li_15, li_16, li_17, li_18, li_19, li_20, li_21, li_22, li_23, li_24, li_25, li_26, li_27, li_28, li_29, li_30, li_31, li_32, li_33, li_34, li_35, li_36, li_37, li_38, li_39, li_40, li_41, li_42, li_43, li_44, li_45, li_46, li_47, li_48, li_49, li_50, li_51, li_52, li_53, li_54, li_55, li_56, li_57, li_58, li_59, li_60, li_61, li_62, li_63, li_64, li_65, li_66, li_96, li_97, li_99, li_100, li_122, li_125, li_126, li_140, li_255, li_256, li_999, li_1000, li_1001, li_1002, li_1100, li_1386, li_1452, li_1518, li_9999, li_1000000, g8, g9, g10, p1, p2, p3, bd_s, oI, nm1, ↓reduceIte, Option.isSome_some, Option.isSome_none, Bool.false_or, b01_t]
      | none =>
        rw [e3] at p3
        simp only [f_X1_isTold, f_X1_isTold_0, ↓lm_1, ↓lm_2, ↓lm_3, ↓lm_4, ↓lm_5, ↓lm_6, ↓lm_7, ↓lm_8, ↓lm_9, ↓lm_10, ↓lm_11, li_0, li_1, li_2, li_3, li_4, li_5, li_6, li_7, li_8, li_9, li_10, li_11, li_12, li_13, li_14, li_15, li_16, li_17, li_18, li_19, li_20, li_21, li_22, li_23, li_24, li_25, li_26, li_27, li_28, li_29, li_30, li_31, li_32, li_33, li_34, li_35, li_36, li_37, li_38, li_39, li_40, li_41, li_42, li_43, li_44, li_45, li_46, li_47, li_48, li_49, li_50, li_51, li_52, li_53, li_54, li_55, li_56, li_57, li_58, li_59, li_60, li_61, li_62, li_63, li_64, li_65, li_66, li_96, li_97, li_99, li_100, li_122, li_125, li_126, li_140, li_255, li_256, li_999, li_1000, li_1001, li_1002, li_1100, li_1386, li_1452, li_1518, li_9999, li_1000000, g8, g9, g10, p1, p2, p3, bd_s, oI, ↓reduceIte, Option.isSome_none, Bool.false_or, b01_f]
theorem x2_newName (hf : 1101 ≤ fu) (hK : okK K) (hw : CB w K) (gw : gC w = 8) (h : okP K a fl) (hG : okG G) (hS : S (p + 1) = tw w a fl) (h0 : gR (S (p + 6)) 0 = some (p + 1)) (g8 : gI (S d) 8 = nI (ns G)) (g9 : gI (S d) 9 = nI (nt G)) (g10 : gI (S d) 10 = nI (ne G)) (hN : CN (S d) G N) (h40 : (∀ i, i < ns G → N.1 i < 1099511627776) ∧ (∀ i, i < nt G → N.2.1 i < 1099511627776) ∧ ∀ i, i < ne G → N.2.2 i < 1099511627776) : f_X2_takeNewName fu S (p + 6) d = some (gL w 3 a, st S (p + 1) (tw w (nw K a fl (tld G N (kV K a))).1 (nw K a fl (tld G N (kV K a))).2)) := by
  have gc8 : gC (tw w a fl) = 8 := gw
  have iN := x8_isName (fu := fu) hK hw h
  have pk := x8_packedA (fu := fu) (w := w) hK h
  unfold nw
  cases q : tNm K a fl
  · rw [q] at iN
    rw [if_neg (by decide)]
    simp only [f_X2_takeNewName, f_X2_takeNewName_0, f_X2_takeNewName_50, ↓lm_1, ↓lm_2, ↓lm_3, ↓lm_4, ↓lm_5, ↓lm_6, ↓lm_7, ↓lm_8, ↓lm_9, ↓lm_10, ↓lm_11, li_0, li_1, li_2, li_3, li_4, li_5, li_6, li_7, li_8, li_9, li_10, li_11, li_12, li_13, li_14, li_15, li_16, li_17, li_18, li_19, li_20, li_21, li_22, li_23, li_24, li_25, li_26, li_27, li_28, li_29, li_30, li_31, li_32, li_33, li_34, li_35, li_36, li_37, li_38, li_39, li_40, li_41, li_42, li_43, li_44, li_45, li_46, li_47, li_48, li_49, li_50, li_51, li_52, li_53, li_54, li_55, li_56, li_57, li_58, li_59, li_60, li_61, li_62, li_63, li_64, li_65, li_66, li_96, li_97, li_99, li_100, li_122, li_125, li_126, li_140, li_255, li_256, li_999, li_1000, li_1001, li_1002, li_1100, li_1386, li_1452, li_1518, li_9999, li_1000000, h0, bd_s, hS, gc8, decide_true, ck_t, pk, iN, b01_f, ↓reduceIte, x8_fail hK hw h, nm_eq]
  · rw [q] at iN
    obtain ⟨f0, k1⟩ := tNm_k q
    have v40 := wd40 ((hK.2.2 a h.1).1.2.2.1 k1).1
    have l3 := (hw a h.1).2.2 (Or.inl k1)
    have it := x1_isTold (fu := fu) (S := S) (d := d) (N := N) hf hG v40 g8 g9 g10 hN h40
    rw [← l3] at it
    rw [if_pos rfl]
    cases q2 : tld G N (kV K a)
    · rw [q2] at it
      rw [if_neg (by decide)]
      have sp := x8_step1 (fu := fu) hK hw h
      rw [stp_in f0 (by omega)] at sp
      simp only [f_X2_takeNewName, f_X2_takeNewName_0, f_X2_takeNewName_46, f_X2_takeNewName_50, f_X8_stepOrFail, f_X8_stepOrFail_0, ↓lm_1, ↓lm_2, ↓lm_3, ↓lm_4, ↓lm_5, ↓lm_6, ↓lm_7, ↓lm_8, ↓lm_9, ↓lm_10, ↓lm_11, li_0, li_1, li_2, li_3, li_4, li_5, li_6, li_7, li_8, li_9, li_10, li_11, li_12, li_13, li_14, li_15, li_16, li_17, li_18, li_19, li_20, li_21, li_22, li_23, li_24, li_25, li_26, li_27, li_28, li_29, li_30, li_31, li_32, li_33, li_34, li_35, li_36, li_37, li_38, li_39, li_40, li_41, li_42, li_43, li_44, li_45, li_46, li_47, li_48, li_49, li_50, li_51, li_52, li_53, li_54, li_55, li_56, li_57, li_58, li_59, li_60, li_61, li_62, li_63, li_64, li_65, li_66, li_96, li_97, li_99, li_100, li_122, li_125, li_126, li_140, li_255, li_256, li_999, li_1000, li_1001, li_1002, li_1100, li_1386, li_1452, li_1518, li_9999, li_1000000, h0, bd_s, hS, gc8, decide_true, ck_t, pk, iN, b01_t, b01_f, n10, ↓reduceIte, it, sp, nm_eq]
    · rw [q2] at it
      rw [if_pos rfl]
      simp only [f_X2_takeNewName, f_X2_takeNewName_0, f_X2_takeNewName_46, f_X2_takeNewName_50, f_X8_stepOrFail, f_X8_stepOrFail_0, ↓lm_1, ↓lm_2, ↓lm_3, ↓lm_4, ↓lm_5, ↓lm_6, ↓lm_7, ↓lm_8, ↓lm_9, ↓lm_10, ↓lm_11, li_0, li_1, li_2, li_3, li_4, li_5, li_6, li_7, li_8, li_9, li_10, li_11, li_12, li_13, li_14, li_15, li_16, li_17, li_18, li_19, li_20, li_21, li_22, li_23, li_24, li_25, li_26, li_27, li_28, li_29, li_30, li_31, li_32, li_33, li_34, li_35, li_36, li_37, li_38, li_39, li_40, li_41, li_42, li_43, li_44, li_45, li_46, li_47, li_48, li_49, li_50, li_51, li_52, li_53, li_54, li_55, li_56, li_57, li_58, li_59, li_60, li_61, li_62, li_63, li_64, li_65, li_66, li_96, li_97, li_99, li_100, li_122, li_125, li_126, li_140, li_255, li_256, li_999, li_1000, li_1001, li_1002, li_1100, li_1386, li_1452, li_1518, li_9999, li_1000000, h0, bd_s, hS, gc8, decide_true, ck_t, pk, iN, b01_t, n10, ↓reduceIte, it, x8_fail hK hw h, nm_eq]
theorem m_readName (hf : 1101 ≤ fu) (hK : okK K) (hv : MB v K) (h9 : WB9 v) (h : okP K a 0) (hk : kK K a ≠ 0) (hG : okG G) {n : Nat} {cd ty : Nat → Nat} (hNT : NT v true n cd ty) (hNR : NR G N n cd ty) (y : Int32) : f_X13_readName fu (mw v a 0) y = some (mw (if (nw K (a + 1) 0 (tld G N (kV K (a + 1)))).2 = 0 then addn v n (kV K (a + 1)) y else v) (nw K (a + 1) 0 (tld G N (kV K (a + 1)))).1 (nw K (a + 1) 0 (tld G N (kV K (a + 1)))).2) := by
  have ok1 := okP_in hK h hk
  have mN := m_isName (fu := fu) hf hK hv h9 ok1
  have hN := hK.1
  have h1 := ok1.1
  have bad : ∀ j, 1 ≤ j → j ≤ 5 → ¬ nI (flf K (a + 1) 0 j) = nI 0 := fun j j1 j5 => by
    have := (okP_flf hK ok1 j5).2
    rw [nI_eq (by omega) (by omega)]
    exact flf_pos j1
  have w1 := m_wrong (fu := fu) hK hv ok1 1
  have w3 := m_wrong (fu := fu) hK hv ok1 3
  unfold nw
  cases q : tNm K (a + 1) 0
  · rw [q] at mN
    rw [if_neg (show ¬ false = true by decide), if_neg (flf_pos (by omega))]
    have b1 := bad 1 (by omega) (by omega)
    simp only [f_X13_readName, f_X13_readName_0, f_X13_readName_38, ↓lm_1, ↓lm_2, ↓lm_3, ↓lm_4, ↓lm_5, ↓lm_6, ↓lm_7, ↓lm_8, ↓lm_9, ↓lm_10, ↓lm_11, li_0, li_1, li_2, li_3, li_4, li_5, li_6, li_7, li_8, li_9, li_10, li_11, li_12, li_13, li_14, li_15, li_16, li_17, li_18, li_19, li_20, li_21, li_22, li_23, li_24, li_25, li_26, li_27, li_28, li_29, li_30, li_31, li_32, li_33, li_34, li_35, li_36, li_37, li_38, li_39, li_40, li_41, li_42, li_43, li_44, li_45, li_46, li_47, li_48, li_49, li_50, li_51, li_52, li_53, li_54, li_55, li_56, li_57, li_58, li_59, li_60, li_61, li_62, li_63, li_64, li_65, li_66, li_96, li_97, li_99, li_100, li_122, li_125, li_126, li_140, li_255, li_256, li_999, li_1000, li_1001, li_1002, li_1100, li_1386, li_1452, li_1518, li_9999, li_1000000, mw_g7, nI_add, mw_7, nm_eq, mN, bd_s, b01_f, ↓reduceIte, w1, mw_g8, b1]
  · rw [q] at mN
    obtain ⟨_, k1⟩ := tNm_k q
    have fi := m_find (fu := fu) (r := true) hf hK hv ok1 k1 hNT
    rw [b01_t] at fi
    have tl := NR_tld (c := kV K (a + 1)) hNR
    rw [if_pos (show true = true from rfl)]
    cases e : plc cd (kV K (a + 1)) n with
    | some k =>
      rw [e] at fi tl
      simp only at fi
      rw [← tl]
      have kn := (plc_some _ _ e).1
      have tl40 : ty k ≤ 40 := by
        have s8 := hG.1
        have t5 := hG.2.1
        rcases hNR.2.2.2.2.2.1 k kn with ⟨i, i1, i2, _⟩ | ⟨i, i1, i2, _⟩ | ⟨i, i1, i2, _⟩ <;> omega
      have nl : ¬ nI (ty k) < nI 0 := nI_nlt (by omega) (by omega)
      have b3 := bad 3 (by omega) (by omega)
      rw [Option.isSome_some, if_pos (show true = true from rfl), if_neg (flf_pos (by omega))]
      simp only [f_X13_readName, f_X13_readName_0, f_X13_readName_38, ↓lm_1, ↓lm_2, ↓lm_3, ↓lm_4, ↓lm_5, ↓lm_6, ↓lm_7, ↓lm_8, ↓lm_9, ↓lm_10, ↓lm_11, li_0, li_1, li_2, li_3, li_4, li_5, li_6, li_7, li_8, li_9, li_10, li_11, li_12, li_13, li_14, li_15, li_16, li_17, li_18, li_19, li_20, li_21, li_22, li_23, li_24, li_25, li_26, li_27, li_28, li_29, li_30, li_31, li_32, li_33, li_34, li_35, li_36, li_37, li_38, li_39, li_40, li_41, li_42, li_43, li_44, li_45, li_46, li_47, li_48, li_49, li_50, li_51, li_52, li_53, li_54, li_55, li_56, li_57, li_58, li_59, li_60, li_61, li_62, li_63, li_64, li_65, li_66, li_96, li_97, li_99, li_100, li_122, li_125, li_126, li_140, li_255, li_256, li_999, li_1000, li_1001, li_1002, li_1100, li_1386, li_1452, li_1518, li_9999, li_1000000, mw_g7, nI_add, mw_7, nm_eq, mN, bd_s, b01_t, n10, ↓reduceIte, fi, nl, w3, mw_g8, b3]
    | none =>
      rw [e] at fi tl
      simp only at fi
      rw [← tl]
      have nl : mI 1 < nI 0 := by decide
      obtain ⟨n17, n19, _⟩ := hNT
      simp only [↓reduceIte] at n19
      have l6 := (hv (a + 1) h1).2.2 (Or.inl k1)
      rw [if_pos k1] at l6
      rw [Option.isSome_none, if_neg (show ¬ false = true by decide), if_pos (show ((a + 1 + 1, 0) : Nat × Nat).2 = 0 from rfl)]
      simp (disch := omega) only [f_X13_readName, f_X13_readName_0, f_X13_readName_38, ↓lm_1, ↓lm_2, ↓lm_3, ↓lm_4, ↓lm_5, ↓lm_6, ↓lm_7, ↓lm_8, ↓lm_9, ↓lm_10, ↓lm_11, li_0, li_1, li_2, li_3, li_4, li_5, li_6, li_7, li_8, li_9, li_10, li_11, li_12, li_13, li_14, li_15, li_16, li_17, li_18, li_19, li_20, li_21, li_22, li_23, li_24, li_25, li_26, li_27, li_28, li_29, li_30, li_31, li_32, li_33, li_34, li_35, li_36, li_37, li_38, li_39, li_40, li_41, li_42, li_43, li_44, li_45, li_46, li_47, li_48, li_49, li_50, li_51, li_52, li_53, li_54, li_55, li_56, li_57, li_58, li_59, li_60, li_61, li_62, li_63, li_64, li_65, li_66, li_96, li_97, li_99, li_100, li_122, li_125, li_126, li_140, li_255, li_256, li_999, li_1000, li_1001, li_1002, li_1100, li_1386, li_1452, li_1518, li_9999, li_1000000, mw_g7, nI_add, mw_7, nm_eq, mN, bd_s, b01_t, n10, ↓reduceIte, fi, nl, mw_g8, inb_n, ck_t, nI_clamp, mw_L, l6, mw_I, n19, mw_sL, gI_sL, mw_sA, gI_sA, mw_sI, addn]
end T
/-! the draft -/
def CG0 (g : GV) (G : GP) : Prop := gI g 8 = nI (ns G) ∧ gI g 9 = nI (nt G) ∧ gI g 10 = nI (ne G) ∧ (∀ t, t < nt G → gA g 3 t = nI (kd G t) ∧ gA g 4 t = nI (sk G t) ∧ gA g 5 t = nI (hr G t)) ∧ ∀ e, e < ne G → gA g 6 e = nI (se G e)
def MG0 (v : GV) (G : GP) : Prop := gA v 10 70 = nI (ns G) ∧ gA v 10 71 = nI (nt G) ∧ gA v 10 72 = nI (ne G) ∧ (∀ t, t < nt G → gA v 10 (76 + 4 * t) = nI (kd G t) ∧ gA v 10 (76 + 4 * t + 1) = nI (sk G t) ∧ gA v 10 (76 + 4 * t + 3) = nI (hr G t)) ∧ ∀ e, e < ne G → gA v 10 (96 + e) = nI (se G e)
def MB0 (v : GV) (q : HP) : Prop := gA v 10 73 = nI (qn q) ∧ (∀ p, p < qn q → gA v 10 (100 + 4 * p) = (if p = 0 then mI 1 else nI (qs q p)) ∧ (p ≠ 0 → gA v 10 (100 + 4 * p + 1) = nI (qw q p) ∧ gA v 10 (100 + 4 * p + 2) = nI (fo (qw q p))) ∧ gA v 10 (100 + 4 * p + 3) = nI (qh q p)) ∧ ∀ t, t < 5 → gA v 10 (76 + 4 * t + 2) = qc q t
def DL (S : ST) (v : GV) (c : Nat) (r : Option Nat) (x : Int32) (n j th : Nat) (f dd : Int32 → Int32 → Int32 → Int32) (i : Nat) : Prop := (r = none ∧ x = mI 1 ∧ f = dd ∧ i = 0) ∨ ∃ b fr len, r = some b ∧ x = nI fr ∧ fr + len < c ∧ n ≤ b ∧ b < n + 3 * j ∧ LC (S b) (dO v) (dA v) fr len th ∧ okL (dO v) (dA v) fr len ∧ (∀ x y z, f x y z = lawV (dO v) (dA v) (fct x y z th) fr len) ∧ i = 1
abbrev lk0 : LK := (0, fun _ => 0, fun _ => 0)
def DQ (d n j a : Nat) (S : ST) (v : GV) (G : GP) (N : NM) (q : HP) (nn : Nat) (cd ty : Nat → Nat) (c i1 i2 : Nat) : Prop := okG G ∧ okB G q ∧ CG0 (S d) G ∧ CN (S d) G N ∧ CHL (S (d + 8)) (q, lk0) ∧ MG0 v G ∧ MB0 v q ∧ NR G N nn cd ty ∧ NT v true nn cd ty ∧ (gI v 13 = nI c ∧ c ≤ a) ∧ DL S v c (gR (S d) 11) (gA v 10 74) n j 2 (wo G) wdf i1 ∧ DL S v c (gR (S d) 12) (gA v 10 75) n j 3 (ha G) hdf i2 ∧ j = i1 + i2
def DR (d n j a : Nat) (S : ST) (v : GV) : Prop := ∃ G N q nn cd ty c i1 i2, DQ d n j a S v G N q nn cd ty c i1 i2
/-- what stands whether or not there is a fault -/
def DI (K : KT) (w : GV) (p d n : Nat) (S : ST) (v : GV) (a fl j : Nat) : Prop := okP K a fl ∧ S (p + 1) = tw w a fl ∧ (gC (S (p + 6)) = 2 ∧ gR (S (p + 6)) 0 = some (p + 1)) ∧ (gC (S (p + 7)) = 5 ∧ gR (S (p + 7)) 0 = some (p + 1)) ∧ gC (S d) = 1 ∧ gC (S (d + 8)) = 3 ∧ MB v K ∧ WB9 v ∧ (j = 0 ∨ gC (S (n + 3 * j - 3)) = 4) ∧ j ≤ 3
def GF (p d n : Nat) (S S' : ST) : Prop := ∀ b, b < n → b ≠ p + 1 → b ≠ p + 7 → b ≠ d → b ≠ d + 8 → S' b = S b
def GF0 (p d : Nat) (S S' : ST) : Prop := ∀ b, b ≠ p + 1 → b ≠ d → b ≠ d + 8 → S' b = S b
def GM (v v' : GV) : Prop := (∀ k, k ≠ 10 → k ≠ 11 → k ≠ 12 → k ≠ 17 → gA v' k = gA v k) ∧ (∀ x, x < 70 → gA v' 10 x = gA v 10 x) ∧ (∀ x, x < 1100 → gA v' 11 x = gA v 11 x ∧ gA v' 12 x = gA v 12 x) ∧ (∀ k, k ≠ 13 → k ≠ 19 → k ≠ 20 → gI v' k = gI v k) ∧ (∀ k, k ≠ 15 → gL v' k = gL v k) ∧ gC v' = gC v
theorem GM_refl (v : GV) : GM v v := ⟨fun _ _ _ _ _ => rfl, fun _ _ => rfl, fun _ _ => ⟨rfl, rfl⟩, fun _ _ _ _ => rfl, fun _ _ => rfl, rfl⟩
theorem GM_trans {v v' w : GV} (h : GM v v') (k : GM v' w) : GM v w := ⟨fun j a b c d => (k.1 j a b c d).trans (h.1 j a b c d), fun x a => (k.2.1 x a).trans (h.2.1 x a), fun x a => ⟨(k.2.2.1 x a).1.trans (h.2.2.1 x a).1, (k.2.2.1 x a).2.trans (h.2.2.1 x a).2⟩, fun j a b c => (k.2.2.2.1 j a b c).trans (h.2.2.2.1 j a b c), fun j a => (k.2.2.2.2.1 j a).trans (h.2.2.2.2.1 j a), k.2.2.2.2.2.trans h.2.2.2.2.2⟩
theorem GM_10 {v : GV} {i : Nat} {x : Int32} (h : 70 ≤ i) : GM v (sA v 10 i x) := ⟨fun k h1 _ _ _ => gA_sAn _ _ _ h1, fun y hy => by rw [gA_sA, if_neg (by omega)], fun y _ => ⟨rfl, rfl⟩, fun _ _ _ _ => rfl, fun _ _ => rfl, rfl⟩
theorem GM_addn {v : GV} {n c : Nat} {y : Int32} : GM v (addn v n c y) := by
  refine ⟨fun k h1 h2 h3 h4 => ?_, fun _ _ => rfl, fun _ _ => ⟨rfl, rfl⟩, fun k _ h2 _ => ?_, fun k h1 => ?_, rfl⟩
  · rw [addn, gA_sI, gA_sAn _ _ _ h4]; rfl
  · rw [addn, gI_sI, if_neg h2]; rfl
  · rw [addn]; show gL (sL v 15 n _) k = _; rw [gL_sLn _ _ _ h1]
theorem MB_GM {v v' : GV} {K : KT} (h : MB v K) (k : GM v v') : MB v' K := by
  intro i hi
  obtain ⟨a, b, c⟩ := h i hi
  refine ⟨?_, ?_, fun q => ?_⟩
  · rw [k.1 4 (by decide) (by decide) (by decide) (by decide)]; exact a
  · rw [k.1 5 (by decide) (by decide) (by decide) (by decide)]; exact b
  · rw [k.2.2.2.2.1 6 (by decide)]; exact c q
theorem WB_GM {v v' : GV} (h : WB9 v) (k : GM v v') : WB9 v' := fun i hi => by rw [k.2.2.2.2.1 9 (by decide)]; exact h i hi
theorem rn_ext {op op' arg arg' fa : Nat → Int32} {fr : Nat} {s0 : Nat → Int32} : ∀ k, (∀ j, j < k → op' (fr + j) = op (fr + j)) → (∀ j, j < k → arg' (fr + j) = arg (fr + j)) → rn op' arg' fa fr s0 k = rn op arg fa fr s0 k := by
  intro k
  induction k with
  | zero => intro _ _; rfl
  | succ k ih =>
    intro h1 h2
    simp only [rn]
    rw [h1 k (by omega), h2 k (by omega), tp_ext k (fun j hj => h1 j (by omega)), ih (fun j hj => h1 j (by omega)) (fun j hj => h2 j (by omega))]
theorem lawV_ext {op op' arg arg' fa : Nat → Int32} {fr len : Nat} (h1 : ∀ j, j < len → op' (fr + j) = op (fr + j)) (h2 : ∀ j, j < len → arg' (fr + j) = arg (fr + j)) : lawV op' arg' fa fr len = lawV op arg fa fr len := by
  rw [lawV, lawV, rn_ext len h1 h2]
theorem DL_keep {S S' : ST} {v v' : GV} {c c' n j j' th i : Nat} {r : Option Nat} {x : Int32} {f dd : Int32 → Int32 → Int32 → Int32} (h : DL S v c r x n j th f dd i) (hS : ∀ b, n ≤ b → b < n + 3 * j → S' b = S b) (h1 : ∀ x, x < c → dO v' x = dO v x ∧ dA v' x = dA v x) (hc : c ≤ c') (hj : j ≤ j') : DL S' v' c' r x n j' th f dd i := by
  rcases h with h | ⟨b, fr, len, e1, e2, e3, e4, e5, e6, e7, e8, e9⟩
  · exact Or.inl h
  · have hO : ∀ k, k ≤ len → dO v' (fr + k) = dO v (fr + k) := fun k hk => (h1 _ (by omega)).1
    have hA : ∀ k, k ≤ len → dA v' (fr + k) = dA v (fr + k) := fun k hk => (h1 _ (by omega)).2
    refine Or.inr ⟨b, fr, len, e1, e2, by omega, e4, by omega, ?_, ?_, fun x y z => ?_, e9⟩
    · rw [hS b e4 e5]
      exact ⟨e6.1, e6.2.1, fun k hk => by rw [hO k (by omega), hA k (by omega)]; exact e6.2.2 k hk⟩
    · obtain ⟨l1, l2, l3, l4, l5⟩ := e7
      refine ⟨l1, l2, l3, by rw [hO len (by omega)]; exact l4, fun k hk => ?_⟩
      rw [hO k (by omega), hA k (by omega), tp_ext k (fun j hj => hO j (by omega))]
      exact l5 k hk
    · rw [e8 x y z]
      exact (lawV_ext (fun k hk => hO k (by omega)) (fun k hk => hA k (by omega))).symm
