/-! ===== gallery: hours and spots, each once ===== -/
theorem bs_or {x k : Nat} (h : bt x k = 0) : ∀ n, bs (x ||| 2 ^ k) n = bs x n + if k < n then 1 else 0 := by
  intro n
  induction n with
  | zero => rfl
  | succ n ih =>
    simp only [bs]
    rw [ih]
    by_cases e : k = n
    · subst e
      have := (bt_or_p2 x k k).mpr (Or.inr rfl)
      rw [this, h, if_neg (by omega), if_pos (by omega)]
    · rw [bt_or_ne e]
      by_cases c : k < n
      · rw [if_pos c, if_pos (by omega)]; omega
      · rw [if_neg c, if_neg (by omega)]; omega
theorem pcn_or1 {x k : Nat} (h : bt x k = 0) (hk : k < 30) : pcn (x ||| 2 ^ k) = pcn x + 1 := by
  rw [pcn, bs_or h, if_pos hk]; rfl
theorem pcn_nz {x : Nat} (h : 1 ≤ pcn x) : 0 < x := by
  rcases Nat.eq_zero_or_pos x with e | e
  · subst e; exact absurd h (by decide)
  · exact e
def nO (K : KT) (a fl x k lim : Nat) : Nat × Nat := if bt x k = 1 then (a, flf K a fl 3) else if lim ≤ pcn x then (a, flf K a fl 5) else (stp K a fl, fl)
section T
variable {fu p a fl : Nat} {K : KT} {w v : GV} {S : ST}
theorem okP_nO (hK : okK K) (h : okP K a fl) (x k lim : Nat) : okP K (nO K a fl x k lim).1 (nO K a fl x k lim).2 := by
  unfold nO
  split
  · exact okP_flf hK h (by omega)
  · split
    · exact okP_flf hK h (by omega)
    · exact okP_stp hK h
theorem x2_once (hK : okK K) (hw : CB w K) (gw : gC w = 8) (h : okP K a fl) (hS : S (p + 1) = tw w a fl) (h0 : gR (S (p + 6)) 0 = some (p + 1)) {x k lim : Nat} (hx : x < 16777216) (hk : k < 24) (hl : lim < 30) : f_X2_takeOnce fu S (p + 6) (nI x) (nI (2 ^ k)) (nI lim) = some (st S (p + 1) (tw w (nO K a fl x k lim).1 (nO K a fl x k lim).2)) := by
  have g8 : gC (tw w a fl) = 8 := gw
  have p2 := p2_lt (k := k) (n := 31) (by omega) (by omega)
  have pl := pcn30 x
  have d0 := dis_or x 0 k
  rw [Nat.zero_or, Nat.and_zero] at d0
  have an : nI x &&& nI (2 ^ k) = nI 0 ↔ bt x k = 0 := by
    have : x &&& 2 ^ k ≤ x := Nat.and_le_left
    rw [nI_andN (by omega) (by omega), nI_eq (by omega) (by omega)]; rw [d0]; simp
  unfold nO
  rcases bt_01 x k with b | b
  · have an' := an.mpr b
    rw [if_neg (by omega)]
    by_cases c : lim ≤ pcn x
    · have cl : nI lim ≤ nI (pcn x) := nI_le c (by omega)
      rw [if_pos c]
      simp only [f_X2_takeOnce, f_X2_takeOnce_0, f_X2_takeOnce_34, f_X8_stepOrFail, f_X8_stepOrFail_0, ↓lm_1, ↓lm_2, ↓lm_3, ↓lm_4, ↓lm_5, ↓lm_6, ↓lm_7, ↓lm_8, ↓lm_9, ↓lm_10, ↓lm_11, li_0, li_1, li_2, li_3, li_4, li_5, li_6, li_7, li_8, li_9, li_10, li_11, li_12, li_13, li_14, li_15, li_16, li_17, li_18, li_19, li_20, li_21, li_22, li_23, li_24, li_25, li_26, li_27, li_28, li_29, li_30, li_31, li_32, li_33, li_34, li_35, li_36, li_37, li_38, li_39, li_40, li_41, li_42, li_43, li_44, li_45, li_46, li_47, li_48, li_49, li_50, li_51, li_52, li_53, li_54, li_55, li_56, li_57, li_58, li_59, li_60, li_61, li_62, li_63, li_64, li_65, li_66, li_96, li_97, li_99, li_100, li_122, li_125, li_126, li_140, li_255, li_256, li_999, li_1000, li_1001, li_1002, li_1100, li_1386, li_1452, li_1518, li_9999, li_1000000, if_pos an', h0, bd_s, hS, g8, decide_true, ck_t, bcN hx, cl, ↓reduceIte, x8_fail hK hw h, nm_eq]
    · have cl : ¬ nI lim ≤ nI (pcn x) := nI_ge (by omega) (by omega)
      rw [if_neg c]
      simp only [f_X2_takeOnce, f_X2_takeOnce_0, f_X2_takeOnce_34, f_X8_stepOrFail, f_X8_stepOrFail_0, ↓lm_1, ↓lm_2, ↓lm_3, ↓lm_4, ↓lm_5, ↓lm_6, ↓lm_7, ↓lm_8, ↓lm_9, ↓lm_10, ↓lm_11, li_0, li_1, li_2, li_3, li_4, li_5, li_6, li_7, li_8, li_9, li_10, li_11, li_12, li_13, li_14, li_15, li_16, li_17, li_18, li_19, li_20, li_21, li_22, li_23, li_24, li_25, li_26, li_27, li_28, li_29, li_30, li_31, li_32, li_33, li_34, li_35, li_36, li_37, li_38, li_39, li_40, li_41, li_42, li_43, li_44, li_45, li_46, li_47, li_48, li_49, li_50, li_51, li_52, li_53, li_54, li_55, li_56, li_57, li_58, li_59, li_60, li_61, li_62, li_63, li_64, li_65, li_66, li_96, li_97, li_99, li_100, li_122, li_125, li_126, li_140, li_255, li_256, li_999, li_1000, li_1001, li_1002, li_1100, li_1386, li_1452, li_1518, li_9999, li_1000000, if_pos an', h0, bd_s, hS, g8, decide_true, ck_t, bcN hx, cl, ↓reduceIte, n10, x8_step1 hK hw h, nm_eq]
  · have an' : ¬ nI x &&& nI (2 ^ k) = nI 0 := fun q => by have := an.mp q; omega
    rw [if_pos b]
    simp only [f_X2_takeOnce, f_X2_takeOnce_0, ↓lm_1, ↓lm_2, ↓lm_3, ↓lm_4, ↓lm_5, ↓lm_6, ↓lm_7, ↓lm_8, ↓lm_9, ↓lm_10, ↓lm_11, li_0, li_1, li_2, li_3, li_4, li_5, li_6, li_7, li_8, li_9, li_10, li_11, li_12, li_13, li_14, li_15, li_16, li_17, li_18, li_19, li_20, li_21, li_22, li_23, li_24, li_25, li_26, li_27, li_28, li_29, li_30, li_31, li_32, li_33, li_34, li_35, li_36, li_37, li_38, li_39, li_40, li_41, li_42, li_43, li_44, li_45, li_46, li_47, li_48, li_49, li_50, li_51, li_52, li_53, li_54, li_55, li_56, li_57, li_58, li_59, li_60, li_61, li_62, li_63, li_64, li_65, li_66, li_96, li_97, li_99, li_100, li_122, li_125, li_126, li_140, li_255, li_256, li_999, li_1000, li_1001, li_1002, li_1100, li_1386, li_1452, li_1518, li_9999, li_1000000, if_neg an', h0, bd_s, hS, g8, decide_true, ck_t, x8_fail hK hw h, nm_eq]
/-- one hour -/
def hr1 (K : KT) (a fl x : Nat) : Nat × Nat := if tD K a fl = true then (if kV K a < 24 then nO K a fl x (kV K a) 4 else (a, flf K a fl 4)) else (a, flf K a fl 1)
theorem okP_hr1 (hK : okK K) (h : okP K a fl) (x : Nat) : okP K (hr1 K a fl x).1 (hr1 K a fl x).2 := by
  unfold hr1
  split
  · split
    · exact okP_nO hK h _ _ _
    · exact okP_flf hK h (by omega)
  · exact okP_flf hK h (by omega)
theorem hr1_0 {x : Nat} (h : (hr1 K a fl x).2 = 0) : fl = 0 ∧ kK K a = 2 ∧ kV K a < 24 ∧ bt x (kV K a) = 0 ∧ pcn x < 4 ∧ (hr1 K a fl x).1 = a + 1 := by
  unfold hr1 at h ⊢
  cases q : tD K a fl
  · rw [q] at h; simp only [Bool.false_eq_true, ↓reduceIte] at h; exact absurd h (flf_pos (by omega))
  · obtain ⟨q1, q2⟩ := of_decide_eq_true q
    rw [q] at h
    simp only [↓reduceIte] at h ⊢
    by_cases c : kV K a < 24
    · rw [if_pos c] at h ⊢
      unfold nO at h ⊢
      by_cases b : bt x (kV K a) = 1
      · rw [if_pos b] at h; exact absurd h (flf_pos (by omega))
      · rw [if_neg b] at h ⊢
        by_cases l : 4 ≤ pcn x
        · rw [if_pos l] at h; exact absurd h (flf_pos (by omega))
        · rw [if_neg l]
          have := bt_lt x (kV K a)
          exact ⟨q1, q2, c, by omega, by omega, stp_in q1 (by omega)⟩
    · rw [if_neg c] at h; exact absurd h (flf_pos (by omega))
theorem hr1_le {x : Nat} : a ≤ (hr1 K a fl x).1 := by
  unfold hr1 nO stp
  repeat' split
  all_goals simp only <;> omega
theorem x2_takeHour (hK : okK K) (hw : CB w K) (gw : gC w = 8) (h : okP K a fl) (hS : S (p + 1) = tw w a fl) (h0 : gR (S (p + 6)) 0 = some (p + 1)) {x : Nat} (hx : x < 16777216) : ∃ z, f_X2_takeHour fu S (p + 6) (nI x) = some (z, st S (p + 1) (tw w (hr1 K a fl x).1 (hr1 K a fl x).2)) ∧ ((hr1 K a fl x).2 = 0 → z = nI (2 ^ kV K a)) := by
  have g8 : gC (tw w a fl) = 8 := gw
  have iN := x8_isNumber (fu := fu) hK hw h
  have nu := x8_numberA (fu := fu) (w := w) hK h
  refine ⟨if tD K a fl = true ∧ kV K a < 24 then nI (2 ^ kV K a) else nI 0, ?_, fun q => ?_⟩
  · unfold hr1
    cases q : tD K a fl
    · rw [q] at iN
      rw [if_neg (fun z => by cases z.1), if_neg (by decide)]
      simp only [f_X2_takeHour, f_X2_takeHour_0, ↓lm_1, ↓lm_2, ↓lm_3, ↓lm_4, ↓lm_5, ↓lm_6, ↓lm_7, ↓lm_8, ↓lm_9, ↓lm_10, ↓lm_11, li_0, li_1, li_2, li_3, li_4, li_5, li_6, li_7, li_8, li_9, li_10, li_11, li_12, li_13, li_14, li_15, li_16, li_17, li_18, li_19, li_20, li_21, li_22, li_23, li_24, li_25, li_26, li_27, li_28, li_29, li_30, li_31, li_32, li_33, li_34, li_35, li_36, li_37, li_38, li_39, li_40, li_41, li_42, li_43, li_44, li_45, li_46, li_47, li_48, li_49, li_50, li_51, li_52, li_53, li_54, li_55, li_56, li_57, li_58, li_59, li_60, li_61, li_62, li_63, li_64, li_65, li_66, li_96, li_97, li_99, li_100, li_122, li_125, li_126, li_140, li_255, li_256, li_999, li_1000, li_1001, li_1002, li_1100, li_1386, li_1452, li_1518, li_9999, li_1000000, h0, bd_s, hS, g8, decide_true, ck_t, iN, b01_f, ↓reduceIte, x8_fail hK hw h, nm_eq]
    · rw [q] at iN
      obtain ⟨q1, q2⟩ := of_decide_eq_true q
      have vl := ((hK.2.2 a h.1).1).2.2.2.1 q2
      have l3 := (hw a h.1).2.2 (Or.inr (Or.inl q2))
      rw [l3, lN_i] at nu
      by_cases c : kV K a < 24
      · have c1 : nI (kV K a) < nI 24 := nI_lt c (by omega)
        have sh : nI 1 <<< (nI (kV K a) &&& nI 31) = nI (2 ^ kV K a) := by rw [nI_and31 (by omega), nI_shl1 (by omega)]
        rw [if_pos ⟨rfl, c⟩, if_pos rfl, if_pos c]
        simp only [f_X2_takeHour, f_X2_takeHour_0, ↓lm_1, ↓lm_2, ↓lm_3, ↓lm_4, ↓lm_5, ↓lm_6, ↓lm_7, ↓lm_8, ↓lm_9, ↓lm_10, ↓lm_11, li_0, li_1, li_2, li_3, li_4, li_5, li_6, li_7, li_8, li_9, li_10, li_11, li_12, li_13, li_14, li_15, li_16, li_17, li_18, li_19, li_20, li_21, li_22, li_23, li_24, li_25, li_26, li_27, li_28, li_29, li_30, li_31, li_32, li_33, li_34, li_35, li_36, li_37, li_38, li_39, li_40, li_41, li_42, li_43, li_44, li_45, li_46, li_47, li_48, li_49, li_50, li_51, li_52, li_53, li_54, li_55, li_56, li_57, li_58, li_59, li_60, li_61, li_62, li_63, li_64, li_65, li_66, li_96, li_97, li_99, li_100, li_122, li_125, li_126, li_140, li_255, li_256, li_999, li_1000, li_1001, li_1002, li_1100, li_1386, li_1452, li_1518, li_9999, li_1000000, h0, bd_s, hS, g8, decide_true, ck_t, iN, b01_t, n10, ↓reduceIte, nu, c1, nm_eq, sh, x2_once hK hw gw h hS h0 hx c (lim := 4) (by omega)]
      · have c1 : ¬ nI (kV K a) < nI 24 := nI_nlt (by omega) (by omega)
        rw [if_neg (fun z => c z.2), if_pos rfl, if_neg c]
        simp only [f_X2_takeHour, f_X2_takeHour_0, ↓lm_1, ↓lm_2, ↓lm_3, ↓lm_4, ↓lm_5, ↓lm_6, ↓lm_7, ↓lm_8, ↓lm_9, ↓lm_10, ↓lm_11, li_0, li_1, li_2, li_3, li_4, li_5, li_6, li_7, li_8, li_9, li_10, li_11, li_12, li_13, li_14, li_15, li_16, li_17, li_18, li_19, li_20, li_21, li_22, li_23, li_24, li_25, li_26, li_27, li_28, li_29, li_30, li_31, li_32, li_33, li_34, li_35, li_36, li_37, li_38, li_39, li_40, li_41, li_42, li_43, li_44, li_45, li_46, li_47, li_48, li_49, li_50, li_51, li_52, li_53, li_54, li_55, li_56, li_57, li_58, li_59, li_60, li_61, li_62, li_63, li_64, li_65, li_66, li_96, li_97, li_99, li_100, li_122, li_125, li_126, li_140, li_255, li_256, li_999, li_1000, li_1001, li_1002, li_1100, li_1386, li_1452, li_1518, li_9999, li_1000000, h0, bd_s, hS, g8, decide_true, ck_t, iN, b01_t, n10, ↓reduceIte, nu, c1, nm_eq, x8_fail hK hw h]
  · obtain ⟨q1, q2, q3, _⟩ := hr1_0 q
    rw [if_pos ⟨decide_eq_true ⟨q1, q2⟩, q3⟩]
/-- one hour by the model -/
theorem m_hour (hK : okK K) (hv : MB v K) (h : okP K a 0) {x i : Nat} (hx : x < 16777216) (hi : pcn x = i) (h4 : i ≤ 4) (k4 : Int32 → Int32 → GV → Option (Int32 × GV)) : ∃ z, f_X13_readHours_28 fu k4 (mw v a 0) (nI x) (nI i) = k4 z (nI (i + 1)) (mw v (hr1 K a 0 x).1 (hr1 K a 0 x).2) ∧ ((hr1 K a 0 x).2 = 0 → z = nI (x ||| 2 ^ kV K a)) := by
  have tn := m_takeNum (fu := fu) (hi := 23) hK hv h (by omega)
  simp only [Nat.reduceAdd] at tn
  have hN := hK.1
  have h1 := h.1
  by_cases c : (ndN K a 0 24).2 = 0
  · obtain ⟨_, k2, vl⟩ := ndN_0 c
    have q : tD K a 0 = true := decide_eq_true ⟨rfl, k2⟩
    have e : ndN K a 0 24 = (a + 1, 0) := by unfold ndN; rw [q, if_pos rfl, if_pos vl]
    have hk0 : kK K a ≠ 0 := by omega
    rw [e] at tn
    simp only [↓reduceIte] at tn
    have p2 := p2_lt (k := kV K a) (n := 31) (by omega) (by omega)
    have sh : nI x ||| (nI 1 <<< (nI (kV K a) &&& nI 31)) = nI (x ||| 2 ^ kV K a) := by rw [nI_and31 (by omega), nI_shl1 (by omega), nI_orN (by omega) (by omega)]
    have bt' : (nI x >>> (nI (kV K a) &&& nI 31)) &&& nI 1 = nI (bt x (kV K a)) := by rw [nI_and31 (by omega), nI_bt (by omega) (by omega)]
    refine ⟨nI (x ||| 2 ^ kV K a), ?_, fun _ => rfl⟩
    have sb : nI (a + 1) - nI 1 = nI a := by rw [pk_sub (by omega)]; rfl
    have r1 : hr1 K a 0 x = nO K a 0 x (kV K a) 4 := by unfold hr1; rw [q, if_pos rfl, if_pos vl]
    rw [r1]
    unfold nO
    rcases bt_01 x (kV K a) with b | b
    · rw [if_neg (by omega)]
      have b0 : ¬ nI 0 = nI 1 := by decide
      by_cases c4 : i = 4
      · subst c4
        rw [if_pos (by omega)]
        simp only [f_X13_readHours_28, f_X13_readHours_57, f_X13_readHours_82, f_X13_readHours_85, ↓lm_1, ↓lm_2, ↓lm_3, ↓lm_4, ↓lm_5, ↓lm_6, ↓lm_7, ↓lm_8, ↓lm_9, ↓lm_10, ↓lm_11, li_0, li_1, li_2, li_3, li_4, li_5, li_6, li_7, li_8, li_9, li_10, li_11, li_12, li_13, li_14, li_15, li_16, li_17, li_18, li_19, li_20, li_21, li_22, li_23, li_24, li_25, li_26, li_27, li_28, li_29, li_30, li_31, li_32, li_33, li_34, li_35, li_36, li_37, li_38, li_39, li_40, li_41, li_42, li_43, li_44, li_45, li_46, li_47, li_48, li_49, li_50, li_51, li_52, li_53, li_54, li_55, li_56, li_57, li_58, li_59, li_60, li_61, li_62, li_63, li_64, li_65, li_66, li_96, li_97, li_99, li_100, li_122, li_125, li_126, li_140, li_255, li_256, li_999, li_1000, li_1001, li_1002, li_1100, li_1386, li_1452, li_1518, li_9999, li_1000000, tn, bd2_s, mw_g8, ↓reduceIte, bt', b, b0, mw_g7, sb, mw_7, nm_eq, m_wrong hK hv h, bd_s, sh, nI_add]
      · have i4 : ¬ nI i = nI 4 := by rw [nI_eq (by omega) (by omega)]; exact c4
        rw [if_neg (by omega), stp_in rfl hk0]
        simp only [f_X13_readHours_28, f_X13_readHours_85, ↓lm_1, ↓lm_2, ↓lm_3, ↓lm_4, ↓lm_5, ↓lm_6, ↓lm_7, ↓lm_8, ↓lm_9, ↓lm_10, ↓lm_11, li_0, li_1, li_2, li_3, li_4, li_5, li_6, li_7, li_8, li_9, li_10, li_11, li_12, li_13, li_14, li_15, li_16, li_17, li_18, li_19, li_20, li_21, li_22, li_23, li_24, li_25, li_26, li_27, li_28, li_29, li_30, li_31, li_32, li_33, li_34, li_35, li_36, li_37, li_38, li_39, li_40, li_41, li_42, li_43, li_44, li_45, li_46, li_47, li_48, li_49, li_50, li_51, li_52, li_53, li_54, li_55, li_56, li_57, li_58, li_59, li_60, li_61, li_62, li_63, li_64, li_65, li_66, li_96, li_97, li_99, li_100, li_122, li_125, li_126, li_140, li_255, li_256, li_999, li_1000, li_1001, li_1002, li_1100, li_1386, li_1452, li_1518, li_9999, li_1000000, tn, bd2_s, mw_g8, ↓reduceIte, bt', b, b0, i4, nm_eq, sh, nI_add]
    · rw [if_pos b]
      simp only [f_X13_readHours_28, f_X13_readHours_57, f_X13_readHours_82, f_X13_readHours_85, ↓lm_1, ↓lm_2, ↓lm_3, ↓lm_4, ↓lm_5, ↓lm_6, ↓lm_7, ↓lm_8, ↓lm_9, ↓lm_10, ↓lm_11, li_0, li_1, li_2, li_3, li_4, li_5, li_6, li_7, li_8, li_9, li_10, li_11, li_12, li_13, li_14, li_15, li_16, li_17, li_18, li_19, li_20, li_21, li_22, li_23, li_24, li_25, li_26, li_27, li_28, li_29, li_30, li_31, li_32, li_33, li_34, li_35, li_36, li_37, li_38, li_39, li_40, li_41, li_42, li_43, li_44, li_45, li_46, li_47, li_48, li_49, li_50, li_51, li_52, li_53, li_54, li_55, li_56, li_57, li_58, li_59, li_60, li_61, li_62, li_63, li_64, li_65, li_66, li_96, li_97, li_99, li_100, li_122, li_125, li_126, li_140, li_255, li_256, li_999, li_1000, li_1001, li_1002, li_1100, li_1386, li_1452, li_1518, li_9999, li_1000000, tn, bd2_s, mw_g8, ↓reduceIte, bt', b, mw_g7, sb, mw_7, nm_eq, m_wrong hK hv h, bd_s, sh, nI_add]
  · rw [if_neg c] at tn
    have e : hr1 K a 0 x = ndN K a 0 24 := by
      unfold ndN at c
      unfold hr1 ndN
      cases q : tD K a 0
      · rfl
      · rw [q, if_pos rfl] at c
        rw [if_pos rfl, if_pos rfl]
        by_cases c2 : kV K a < 24
        · rw [if_pos c2] at c; exact absurd rfl c
        · rw [if_neg c2, if_neg c2]
    have ok := (okP_ndN hK h 24).2
    have f0 : ¬ nI (ndN K a 0 24).2 = nI 0 := by rw [nI_eq (by omega) (by omega)]; exact c
    refine ⟨nI x ||| (nI 1 <<< (nI 0 &&& nI 31)), ?_, fun q => by rw [e] at q; exact absurd q c⟩
    rw [e]
    simp only [f_X13_readHours_28, f_X13_readHours_85, ↓lm_1, ↓lm_2, ↓lm_3, ↓lm_4, ↓lm_5, ↓lm_6, ↓lm_7, ↓lm_8, ↓lm_9, ↓lm_10, ↓lm_11, li_0, li_1, li_2, li_3, li_4, li_5, li_6, li_7, li_8, li_9, li_10, li_11, li_12, li_13, li_14, li_15, li_16, li_17, li_18, li_19, li_20, li_21, li_22, li_23, li_24, li_25, li_26, li_27, li_28, li_29, li_30, li_31, li_32, li_33, li_34, li_35, li_36, li_37, li_38, li_39, li_40, li_41, li_42, li_43, li_44, li_45, li_46, li_47, li_48, li_49, li_50, li_51, li_52, li_53, li_54, li_55, li_56, li_57, li_58, li_59, li_60, li_61, li_62, li_63, li_64, li_65, li_66, li_96, li_97, li_99, li_100, li_122, li_125, li_126, li_140, li_255, li_256, li_999, li_1000, li_1001, li_1002, li_1100, li_1386, li_1452, li_1518, li_9999, li_1000000, tn, bd2_s, mw_g8, f0, ↓reduceIte, nm_eq, nI_add]
theorem j_hl (hK : okK K) (hw : CB w K) (gw : gC w = 8) (hv : MB v K) : ∀ r i n1 n2 a fl x z z' (S : ST), i + r = 5 → 1 ≤ i → r < n1 → r < n2 → okP K a fl → S (p + 1) = tw w a fl → gR (S (p + 6)) 0 = some (p + 1) → (fl = 0 → z = nI x ∧ z' = nI x ∧ x < 16777216 ∧ pcn x = i ∧ i ≤ 4) → ∃ a' fl' y y', f_X2_takeHours_8 fu n1 (p + 6) z (nI (i - 1)) S = some (y, st S (p + 1) (tw w a' fl')) ∧ f_X13_readHours_4 fu n2 z' (nI i) (mw v a fl) = some (y', mw v a' fl') ∧ okP K a' fl' ∧ a ≤ a' ∧ (fl' = 0 → fl = 0 ∧ ∃ x', y = nI x' ∧ y' = nI x' ∧ x' < 16777216 ∧ 0 < x') := by
  intro r
  induction r with
  | zero =>
    intro i n1 n2 a fl x z z' S hir hi hn1 hn2 h hS h0 hx
    obtain ⟨n1, rfl⟩ : ∃ k, n1 = k + 1 := ⟨n1 - 1, by omega⟩
    obtain ⟨n2, rfl⟩ : ∃ k, n2 = k + 1 := ⟨n2 - 1, by omega⟩
    have c0 : fl ≠ 0 := fun q => by have := (hx q).2.2.2.2; omega
    have f0 : ¬ nI fl = nI 0 := by have := h.2; rw [nI_eq (by omega) (by omega)]; exact c0
    have i5 : i = 5 := by omega
    subst i5
    refine ⟨a, fl, z, z', ?_, ?_, h, Nat.le_refl _, fun q => absurd q c0⟩
    · rw [← hS, st_self]
      have n44 : nI 4 ≤ nI 4 := by decide
      simp only [f_X2_takeHours_8, lq3_s, f_X2_takeHours_8s, f_X2_takeHours_37, ↓lm_1, ↓lm_2, ↓lm_3, ↓lm_4, ↓lm_5, ↓lm_6, ↓lm_7, ↓lm_8, ↓lm_9, ↓lm_10, ↓lm_11, li_0, li_1, li_2, li_3, li_4, li_5, li_6, li_7, li_8, li_9, li_10, li_11, li_12, li_13, li_14, li_15, li_16, li_17, li_18, li_19, li_20, li_21, li_22, li_23, li_24, li_25, li_26, li_27, li_28, li_29, li_30, li_31, li_32, li_33, li_34, li_35, li_36, li_37, li_38, li_39, li_40, li_41, li_42, li_43, li_44, li_45, li_46, li_47, li_48, li_49, li_50, li_51, li_52, li_53, li_54, li_55, li_56, li_57, li_58, li_59, li_60, li_61, li_62, li_63, li_64, li_65, li_66, li_96, li_97, li_99, li_100, li_122, li_125, li_126, li_140, li_255, li_256, li_999, li_1000, li_1001, li_1002, li_1100, li_1386, li_1452, li_1518, li_9999, li_1000000, Nat.reduceSub, n44, ↓reduceIte]
    · simp only [f_X13_readHours_4, lq3_s, f_X13_readHours_4s, f_X13_readHours_97, ↓lm_1, ↓lm_2, ↓lm_3, ↓lm_4, ↓lm_5, ↓lm_6, ↓lm_7, ↓lm_8, ↓lm_9, ↓lm_10, ↓lm_11, li_0, li_1, li_2, li_3, li_4, li_5, li_6, li_7, li_8, li_9, li_10, li_11, li_12, li_13, li_14, li_15, li_16, li_17, li_18, li_19, li_20, li_21, li_22, li_23, li_24, li_25, li_26, li_27, li_28, li_29, li_30, li_31, li_32, li_33, li_34, li_35, li_36, li_37, li_38, li_39, li_40, li_41, li_42, li_43, li_44, li_45, li_46, li_47, li_48, li_49, li_50, li_51, li_52, li_53, li_54, li_55, li_56, li_57, li_58, li_59, li_60, li_61, li_62, li_63, li_64, li_65, li_66, li_96, li_97, li_99, li_100, li_122, li_125, li_126, li_140, li_255, li_256, li_999, li_1000, li_1001, li_1002, li_1100, li_1386, li_1452, li_1518, li_9999, li_1000000, mw_g8, f0, ↓reduceIte]
  | succ r ih =>
    intro i n1 n2 a fl x z z' S hir hi hn1 hn2 h hS h0 hx
    obtain ⟨n1, rfl⟩ : ∃ k, n1 = k + 1 := ⟨n1 - 1, by omega⟩
    obtain ⟨n2, rfl⟩ : ∃ k, n2 = k + 1 := ⟨n2 - 1, by omega⟩
    have g8 : gC (tw w a fl) = 8 := gw
    have l4 : ¬ nI 4 ≤ nI (i - 1) := nI_ge (by omega) (by omega)
    have iN := x8_isNumber (fu := fu) hK hw h
    by_cases c0 : fl = 0
    · subst c0
      obtain ⟨rfl, rfl, x24, px, i4⟩ := hx rfl
      have t4 := (hv a h.1).1
      have hN := hK.1
      have h1 := h.1
      have kk := (hK.2.2 a h.1).1.1
      have in0 : ¬ nI i = nI 0 := by rw [nI_eq (by omega) (by omega)]; omega
      cases q : tD K a 0
      · rw [q] at iN
        have k2 : ¬ kK K a = 2 := fun e => by have := decide_eq_true (p := (0 : Nat) = 0 ∧ kK K a = 2) ⟨rfl, e⟩; unfold tD at q; rw [this] at q; cases q
        have k2' : ¬ nI (kK K a) = nI 2 := by rw [nI_eq (by omega) (by omega)]; exact k2
        refine ⟨a, 0, nI x, nI x, ?_, ?_, h, Nat.le_refl _, fun _ => ⟨rfl, x, rfl, rfl, x24, pcn_nz (by omega)⟩⟩
        · rw [← hS, st_self]
          simp only [f_X2_takeHours_8, lq3_s, f_X2_takeHours_8s, f_X2_takeHours_37, ↓lm_1, ↓lm_2, ↓lm_3, ↓lm_4, ↓lm_5, ↓lm_6, ↓lm_7, ↓lm_8, ↓lm_9, ↓lm_10, ↓lm_11, li_0, li_1, li_2, li_3, li_4, li_5, li_6, li_7, li_8, li_9, li_10, li_11, li_12, li_13, li_14, li_15, li_16, li_17, li_18, li_19, li_20, li_21, li_22, li_23, li_24, li_25, li_26, li_27, li_28, li_29, li_30, li_31, li_32, li_33, li_34, li_35, li_36, li_37, li_38, li_39, li_40, li_41, li_42, li_43, li_44, li_45, li_46, li_47, li_48, li_49, li_50, li_51, li_52, li_53, li_54, li_55, li_56, li_57, li_58, li_59, li_60, li_61, li_62, li_63, li_64, li_65, li_66, li_96, li_97, li_99, li_100, li_122, li_125, li_126, li_140, li_255, li_256, li_999, li_1000, li_1001, li_1002, li_1100, li_1386, li_1452, li_1518, li_9999, li_1000000, l4, ↓reduceIte, h0, bd_s, hS, g8, decide_true, ck_t, iN, b01_f]
        · simp (disch := omega) only [f_X13_readHours_4, lq3_s, f_X13_readHours_4s, f_X13_readHours_97, ↓lm_1, ↓lm_2, ↓lm_3, ↓lm_4, ↓lm_5, ↓lm_6, ↓lm_7, ↓lm_8, ↓lm_9, ↓lm_10, ↓lm_11, li_0, li_1, li_2, li_3, li_4, li_5, li_6, li_7, li_8, li_9, li_10, li_11, li_12, li_13, li_14, li_15, li_16, li_17, li_18, li_19, li_20, li_21, li_22, li_23, li_24, li_25, li_26, li_27, li_28, li_29, li_30, li_31, li_32, li_33, li_34, li_35, li_36, li_37, li_38, li_39, li_40, li_41, li_42, li_43, li_44, li_45, li_46, li_47, li_48, li_49, li_50, li_51, li_52, li_53, li_54, li_55, li_56, li_57, li_58, li_59, li_60, li_61, li_62, li_63, li_64, li_65, li_66, li_96, li_97, li_99, li_100, li_122, li_125, li_126, li_140, li_255, li_256, li_999, li_1000, li_1001, li_1002, li_1100, li_1386, li_1452, li_1518, li_9999, li_1000000, mw_g7, mw_g8, mw_A, ↓reduceIte, in0, ↓nm_eq, inb_n, ck_t, nI_clamp, t4, k2']
      · rw [q] at iN
        have k2 := (of_decide_eq_true q).2
        obtain ⟨y, e1, e2⟩ := x2_takeHour (fu := fu) hK hw gw h hS h0 x24
        obtain ⟨y', e3, e4⟩ := m_hour (fu := fu) hK hv h x24 px i4 (f_X13_readHours_4 fu n2)
        have ok := okP_hr1 hK h x
        have le := hr1_le (K := K) (a := a) (fl := 0) (x := x)
        have s6 : st S (p + 1) (tw w (hr1 K a 0 x).1 (hr1 K a 0 x).2) (p + 6) = S (p + 6) := st_ne _ _ (by omega)
        obtain ⟨a2, fl2, w1, w2, d1, d2, d3, d4, d5⟩ := ih (i + 1) n1 n2 (hr1 K a 0 x).1 (hr1 K a 0 x).2 (x ||| 2 ^ kV K a) (nI x ||| y) y' (st S (p + 1) (tw w (hr1 K a 0 x).1 (hr1 K a 0 x).2)) (by omega) (by omega) (by omega) (by omega) ok (st_same _ _ _) (by rw [s6]; exact h0) (fun q => by
          obtain ⟨_, _, v24, b0, p4, _⟩ := hr1_0 q
          have p2 := p2_lt (k := kV K a) (n := 31) (by omega) (by omega)
          have p24 : 2 ^ kV K a < 2 ^ 24 := Nat.pow_lt_pow_right (by omega) v24
          refine ⟨by rw [e2 q, nI_orN (by omega) (by omega)], e4 q, Nat.or_lt_two_pow (n := 24) x24 p24, by rw [pcn_or1 b0 (by omega), px], by omega⟩)
        rw [st_st] at d1
        refine ⟨a2, fl2, w1, w2, ?_, ?_, d3, by omega, fun q => ⟨rfl, (d5 q).2⟩⟩
        · rw [← d1]
          have ii : nI (i - 1) + nI 1 = nI (i + 1 - 1) := by rw [nI_add]; congr 1; omega
          simp only [f_X2_takeHours_8, lq3_s, f_X2_takeHours_8s, ↓lm_1, ↓lm_2, ↓lm_3, ↓lm_4, ↓lm_5, ↓lm_6, ↓lm_7, ↓lm_8, ↓lm_9, ↓lm_10, ↓lm_11, li_0, li_1, li_2, li_3, li_4, li_5, li_6, li_7, li_8, li_9, li_10, li_11, li_12, li_13, li_14, li_15, li_16, li_17, li_18, li_19, li_20, li_21, li_22, li_23, li_24, li_25, li_26, li_27, li_28, li_29, li_30, li_31, li_32, li_33, li_34, li_35, li_36, li_37, li_38, li_39, li_40, li_41, li_42, li_43, li_44, li_45, li_46, li_47, li_48, li_49, li_50, li_51, li_52, li_53, li_54, li_55, li_56, li_57, li_58, li_59, li_60, li_61, li_62, li_63, li_64, li_65, li_66, li_96, li_97, li_99, li_100, li_122, li_125, li_126, li_140, li_255, li_256, li_999, li_1000, li_1001, li_1002, li_1100, li_1386, li_1452, li_1518, li_9999, li_1000000, l4, ↓reduceIte, h0, bd_s, hS, g8, decide_true, ck_t, iN, b01_t, n10, e1, bd2_s, nm_eq, ii]
        · rw [← d2, f_X13_readHours_4, lq3_s]
          simp (disch := omega) only [f_X13_readHours_4s, ↓lm_1, ↓lm_2, ↓lm_3, ↓lm_4, ↓lm_5, ↓lm_6, ↓lm_7, ↓lm_8, ↓lm_9, ↓lm_10, ↓lm_11, li_0, li_1, li_2, li_3, li_4, li_5, li_6, li_7, li_8, li_9, li_10, li_11, li_12, li_13, li_14, li_15, li_16, li_17, li_18, li_19, li_20, li_21, li_22, li_23, li_24, li_25, li_26, li_27, li_28, li_29, li_30, li_31, li_32, li_33, li_34, li_35, li_36, li_37, li_38, li_39, li_40, li_41, li_42, li_43, li_44, li_45, li_46, li_47, li_48, li_49, li_50, li_51, li_52, li_53, li_54, li_55, li_56, li_57, li_58, li_59, li_60, li_61, li_62, li_63, li_64, li_65, li_66, li_96, li_97, li_99, li_100, li_122, li_125, li_126, li_140, li_255, li_256, li_999, li_1000, li_1001, li_1002, li_1100, li_1386, li_1452, li_1518, li_9999, li_1000000, mw_g7, mw_g8, mw_A, ↓reduceIte, in0, ↓nm_eq, inb_n, ck_t, nI_clamp, t4, k2]
          exact e3
    · have f0 : ¬ nI fl = nI 0 := by have := h.2; rw [nI_eq (by omega) (by omega)]; exact c0
      have q : tD K a fl = false := decide_eq_false (fun q => c0 q.1)
      rw [q] at iN
      refine ⟨a, fl, z, z', ?_, ?_, h, Nat.le_refl _, fun q => absurd q c0⟩
      · rw [← hS, st_self]
        simp only [f_X2_takeHours_8, lq3_s, f_X2_takeHours_8s, f_X2_takeHours_37, ↓lm_1, ↓lm_2, ↓lm_3, ↓lm_4, ↓lm_5, ↓lm_6, ↓lm_7, ↓lm_8, ↓lm_9, ↓lm_10, ↓lm_11, li_0, li_1, li_2, li_3, li_4, li_5, li_6, li_7, li_8, li_9, li_10, li_11, li_12, li_13, li_14, li_15, li_16, li_17, li_18, li_19, li_20, li_21, li_22, li_23, li_24, li_25, li_26, li_27, li_28, li_29, li_30, li_31, li_32, li_33, li_34, li_35, li_36, li_37, li_38, li_39, li_40, li_41, li_42, li_43, li_44, li_45, li_46, li_47, li_48, li_49, li_50, li_51, li_52, li_53, li_54, li_55, li_56, li_57, li_58, li_59, li_60, li_61, li_62, li_63, li_64, li_65, li_66, li_96, li_97, li_99, li_100, li_122, li_125, li_126, li_140, li_255, li_256, li_999, li_1000, li_1001, li_1002, li_1100, li_1386, li_1452, li_1518, li_9999, li_1000000, l4, ↓reduceIte, h0, bd_s, hS, g8, decide_true, ck_t, iN, b01_f]
      · simp only [f_X13_readHours_4, lq3_s, f_X13_readHours_4s, f_X13_readHours_97, ↓lm_1, ↓lm_2, ↓lm_3, ↓lm_4, ↓lm_5, ↓lm_6, ↓lm_7, ↓lm_8, ↓lm_9, ↓lm_10, ↓lm_11, li_0, li_1, li_2, li_3, li_4, li_5, li_6, li_7, li_8, li_9, li_10, li_11, li_12, li_13, li_14, li_15, li_16, li_17, li_18, li_19, li_20, li_21, li_22, li_23, li_24, li_25, li_26, li_27, li_28, li_29, li_30, li_31, li_32, li_33, li_34, li_35, li_36, li_37, li_38, li_39, li_40, li_41, li_42, li_43, li_44, li_45, li_46, li_47, li_48, li_49, li_50, li_51, li_52, li_53, li_54, li_55, li_56, li_57, li_58, li_59, li_60, li_61, li_62, li_63, li_64, li_65, li_66, li_96, li_97, li_99, li_100, li_122, li_125, li_126, li_140, li_255, li_256, li_999, li_1000, li_1001, li_1002, li_1100, li_1386, li_1452, li_1518, li_9999, li_1000000, mw_g8, f0, ↓reduceIte]
theorem j_hours (hf : 1101 ≤ fu) (hK : okK K) (hw : CB w K) (gw : gC w = 8) (hv : MB v K) (h : okP K a fl) (hS : S (p + 1) = tw w a fl) (h0 : gR (S (p + 6)) 0 = some (p + 1)) : ∃ a' fl' y y', f_X2_takeHours fu S (p + 6) = some (y, st S (p + 1) (tw w a' fl')) ∧ f_X13_readHours fu (mw v a fl) = some (y', mw v a' fl') ∧ okP K a' fl' ∧ a ≤ a' ∧ (fl' = 0 → fl = 0 ∧ ∃ x', y = nI x' ∧ y' = nI x' ∧ x' < 16777216 ∧ 0 < x') := by
  obtain ⟨y, e1, e2⟩ := x2_takeHour (fu := fu) (x := 0) hK hw gw h hS h0 (by omega)
  have ok := okP_hr1 hK h 0
  have le := hr1_le (K := K) (a := a) (fl := fl) (x := 0)
  have s6 : st S (p + 1) (tw w (hr1 K a fl 0).1 (hr1 K a fl 0).2) (p + 6) = S (p + 6) := st_ne _ _ (by omega)
  have p0 : pcn 0 = 0 := by decide
  obtain ⟨fv, rfl⟩ : ∃ k, fu = k + 1 := ⟨fu - 1, by omega⟩
  by_cases c0 : fl = 0
  · subst c0
    obtain ⟨y', e3, e4⟩ := m_hour (fu := fv + 1) (x := 0) (i := 0) hK hv h (by omega) p0 (by omega) (f_X13_readHours_4 (fv + 1) fv)
    obtain ⟨a2, fl2, w1, w2, d1, d2, d3, d4, d5⟩ := j_hl (fu := fv + 1) (p := p) hK hw gw hv 4 1 (fv + 1) fv (hr1 K a 0 0).1 (hr1 K a 0 0).2 (2 ^ kV K a) y y' (st S (p + 1) (tw w (hr1 K a 0 0).1 (hr1 K a 0 0).2)) (by omega) (by omega) (by omega) (by omega) ok (st_same _ _ _) (by rw [s6]; exact h0) (fun q => by
      obtain ⟨_, _, v24, b0, p4, _⟩ := hr1_0 q
      have p24 : 2 ^ kV K a < 2 ^ 24 := Nat.pow_lt_pow_right (by omega) v24
      have po := pcn_or1 b0 (by omega)
      rw [Nat.zero_or] at po
      have e4' := e4 q
      rw [Nat.zero_or] at e4'
      exact ⟨e2 q, e4', p24, by rw [po, p0], by omega⟩)
    rw [st_st] at d1
    refine ⟨a2, fl2, w1, w2, ?_, ?_, d3, by omega, fun q => ⟨rfl, (d5 q).2⟩⟩
    · rw [← d1]
      simp only [f_X2_takeHours, f_X2_takeHours_0, ↓lm_1, ↓lm_2, ↓lm_3, ↓lm_4, ↓lm_5, ↓lm_6, ↓lm_7, ↓lm_8, ↓lm_9, ↓lm_10, ↓lm_11, li_0, li_1, li_2, li_3, li_4, li_5, li_6, li_7, li_8, li_9, li_10, li_11, li_12, li_13, li_14, li_15, li_16, li_17, li_18, li_19, li_20, li_21, li_22, li_23, li_24, li_25, li_26, li_27, li_28, li_29, li_30, li_31, li_32, li_33, li_34, li_35, li_36, li_37, li_38, li_39, li_40, li_41, li_42, li_43, li_44, li_45, li_46, li_47, li_48, li_49, li_50, li_51, li_52, li_53, li_54, li_55, li_56, li_57, li_58, li_59, li_60, li_61, li_62, li_63, li_64, li_65, li_66, li_96, li_97, li_99, li_100, li_122, li_125, li_126, li_140, li_255, li_256, li_999, li_1000, li_1001, li_1002, li_1100, li_1386, li_1452, li_1518, li_9999, li_1000000, e1, bd2_s, Nat.reduceSub]
    · rw [← d2]
      rw [← e3]
      simp only [f_X13_readHours, f_X13_readHours_0, f_X13_readHours_4, lq3_s, f_X13_readHours_4s, ↓lm_1, ↓lm_2, ↓lm_3, ↓lm_4, ↓lm_5, ↓lm_6, ↓lm_7, ↓lm_8, ↓lm_9, ↓lm_10, ↓lm_11, li_0, li_1, li_2, li_3, li_4, li_5, li_6, li_7, li_8, li_9, li_10, li_11, li_12, li_13, li_14, li_15, li_16, li_17, li_18, li_19, li_20, li_21, li_22, li_23, li_24, li_25, li_26, li_27, li_28, li_29, li_30, li_31, li_32, li_33, li_34, li_35, li_36, li_37, li_38, li_39, li_40, li_41, li_42, li_43, li_44, li_45, li_46, li_47, li_48, li_49, li_50, li_51, li_52, li_53, li_54, li_55, li_56, li_57, li_58, li_59, li_60, li_61, li_62, li_63, li_64, li_65, li_66, li_96, li_97, li_99, li_100, li_122, li_125, li_126, li_140, li_255, li_256, li_999, li_1000, li_1001, li_1002, li_1100, li_1386, li_1452, li_1518, li_9999, li_1000000, mw_g8, ↓reduceIte]
  · have f0 : ¬ nI fl = nI 0 := by have := h.2; rw [nI_eq (by omega) (by omega)]; exact c0
    have e : hr1 K a fl 0 = (a, fl) := by
      unfold hr1
      rw [show tD K a fl = false from decide_eq_false (fun q => c0 q.1), if_neg (by decide)]
      unfold flf; rw [if_neg c0]
    rw [e] at e1 ok
    simp only at e1 ok
    obtain ⟨a2, fl2, w1, w2, d1, d2, d3, d4, d5⟩ := j_hl (fu := fv + 1) (p := p) hK hw gw hv 4 1 (fv + 1) fv a fl 0 y (nI 0) (st S (p + 1) (tw w a fl)) (by omega) (by omega) (by omega) (by omega) h (st_same _ _ _) (by rw [st_ne _ _ (by omega)]; exact h0) (fun q => absurd q c0)
    rw [st_st] at d1
    refine ⟨a2, fl2, w1, nI 0, ?_, ?_, d3, d4, fun q => absurd (d5 q).1 c0⟩
    · rw [← d1]
      simp only [f_X2_takeHours, f_X2_takeHours_0, ↓lm_1, ↓lm_2, ↓lm_3, ↓lm_4, ↓lm_5, ↓lm_6, ↓lm_7, ↓lm_8, ↓lm_9, ↓lm_10, ↓lm_11, li_0, li_1, li_2, li_3, li_4, li_5, li_6, li_7, li_8, li_9, li_10, li_11, li_12, li_13, li_14, li_15, li_16, li_17, li_18, li_19, li_20, li_21, li_22, li_23, li_24, li_25, li_26, li_27, li_28, li_29, li_30, li_31, li_32, li_33, li_34, li_35, li_36, li_37, li_38, li_39, li_40, li_41, li_42, li_43, li_44, li_45, li_46, li_47, li_48, li_49, li_50, li_51, li_52, li_53, li_54, li_55, li_56, li_57, li_58, li_59, li_60, li_61, li_62, li_63, li_64, li_65, li_66, li_96, li_97, li_99, li_100, li_122, li_125, li_126, li_140, li_255, li_256, li_999, li_1000, li_1001, li_1002, li_1100, li_1386, li_1452, li_1518, li_9999, li_1000000, e1, bd2_s, Nat.reduceSub]
    · have q2 : some (w2, mw v a2 fl2) = some (nI 0, mw v a fl) := by
        rw [← d2]
        obtain ⟨fw, rfl⟩ : ∃ k, fv = k + 1 := ⟨fv - 1, by omega⟩
        simp only [f_X13_readHours_4, lq3_s, f_X13_readHours_4s, f_X13_readHours_97, ↓lm_1, ↓lm_2, ↓lm_3, ↓lm_4, ↓lm_5, ↓lm_6, ↓lm_7, ↓lm_8, ↓lm_9, ↓lm_10, ↓lm_11, li_0, li_1, li_2, li_3, li_4, li_5, li_6, li_7, li_8, li_9, li_10, li_11, li_12, li_13, li_14, li_15, li_16, li_17, li_18, li_19, li_20, li_21, li_22, li_23, li_24, li_25, li_26, li_27, li_28, li_29, li_30, li_31, li_32, li_33, li_34, li_35, li_36, li_37, li_38, li_39, li_40, li_41, li_42, li_43, li_44, li_45, li_46, li_47, li_48, li_49, li_50, li_51, li_52, li_53, li_54, li_55, li_56, li_57, li_58, li_59, li_60, li_61, li_62, li_63, li_64, li_65, li_66, li_96, li_97, li_99, li_100, li_122, li_125, li_126, li_140, li_255, li_256, li_999, li_1000, li_1001, li_1002, li_1100, li_1386, li_1452, li_1518, li_9999, li_1000000, mw_g8, f0, ↓reduceIte]
      have q3 : mw v a2 fl2 = mw v a fl := by injection q2 with q2; injection q2
      rw [q3]
      simp only [f_X13_readHours, f_X13_readHours_0, f_X13_readHours_4, lq3_s, f_X13_readHours_4s, f_X13_readHours_97, ↓lm_1, ↓lm_2, ↓lm_3, ↓lm_4, ↓lm_5, ↓lm_6, ↓lm_7, ↓lm_8, ↓lm_9, ↓lm_10, ↓lm_11, li_0, li_1, li_2, li_3, li_4, li_5, li_6, li_7, li_8, li_9, li_10, li_11, li_12, li_13, li_14, li_15, li_16, li_17, li_18, li_19, li_20, li_21, li_22, li_23, li_24, li_25, li_26, li_27, li_28, li_29, li_30, li_31, li_32, li_33, li_34, li_35, li_36, li_37, li_38, li_39, li_40, li_41, li_42, li_43, li_44, li_45, li_46, li_47, li_48, li_49, li_50, li_51, li_52, li_53, li_54, li_55, li_56, li_57, li_58, li_59, li_60, li_61, li_62, li_63, li_64, li_65, li_66, li_96, li_97, li_99, li_100, li_122, li_125, li_126, li_140, li_255, li_256, li_999, li_1000, li_1001, li_1002, li_1100, li_1386, li_1452, li_1518, li_9999, li_1000000, mw_g8, f0, ↓reduceIte]
end T
