/-! ===== judged: the hall at the begin, the told lines ===== -/
theorem b01_t : b01 true = nI 1 := (id rfl)
theorem b01_f : b01 false = nI 0 := (id rfl)
section ST
variable {fu b : Nat} {v : GV} {G : GP} {q : HP}
theorem m_st3 (hf : 1101 ≤ fu) (hb : b ≤ 1470) (hG : okG G) (hM : MG v G) (hB : MBg v q) (hq : okq G q) {h : Nat → Int32} (h0 : h 0 = qt q ∧ h 1 = nI (qg q) ∧ h 2 = nI (qn q) ∧ ∀ p, p < qn q → h (3 + p) = nI (qo q p) ∧ h (11 + p) = nI (qh q p) ∧ h (19 + p) = qu q p ∧ h (27 + p) = (if p = 0 then mI 1 else nI (qs q p)) ∧ (p ≠ 0 → h (35 + p) = nI (fo (qw q p)))) (hc : ∀ t, t < 5 → h (43 + t) = nI 0) : ∃ h', f_X13_starts_161 fu fu (nI b) (nI 0) (mb v b h) = some (mb v b h') ∧ MH h' q := by
  have h5 := hG.2.1
  have h8 := hq.1.2.1
  have key := lpI2 (fun k161 => f_X13_starts_161s fu k161 (nI b)) (fun k x w => x = nI k ∧ ∃ g, w = mb v b g ∧ (∀ j, j < 43 → g j = h j) ∧ (∀ t, t < k → g (43 + t) = qc q t) ∧ ∀ t, k ≤ t → t < 5 → g (43 + t) = nI 0) (fun r => ∃ h', r = some (mb v b h') ∧ MH h' q) (nt G) ?_ ?_ fu 0 (nI 0) (mb v b h) ⟨rfl, h, rfl, fun _ _ => rfl, fun t ht => by omega, fun t _ ht => hc t ht⟩ (by omega) (by omega)
  · obtain ⟨r, ⟨h', e, hm⟩, e2⟩ := key
    refine ⟨h', ?_, hm⟩
    rw [← e, ← e2, f_X13_starts_161]
  · rintro x w ⟨rfl, g, rfl, g1, g2, g3⟩
    refine ⟨_, ⟨g, rfl, ?_⟩, fun rec => ?_⟩
    · refine ⟨by rw [g1 _ (by omega)]; exact h0.1, by rw [g1 _ (by omega)]; exact h0.2.1, by rw [g1 _ (by omega)]; exact h0.2.2.1, fun p hp => ?_, fun t ht => ?_⟩
      · rw [g1 _ (by omega), g1 _ (by omega), g1 _ (by omega), g1 _ (by omega), g1 _ (by omega)]
        exact h0.2.2.2 p hp
      · by_cases c : t < nt G
        · exact g2 t c
        · rw [g3 t (by omega) ht]; exact (hq.2.2.2 t (by omega)).symm
    · have e : f_X13_thieves fu (mb v b g) = some (nI (nt G)) := x13_thieves (MG_mb hM).2.1
      simp (disch := omega) only [f_X13_starts_161s, ↓lm_1, ↓lm_2, ↓lm_3, ↓lm_4, ↓lm_5, ↓lm_6, ↓lm_7, ↓lm_8, ↓lm_9, ↓lm_10, ↓lm_11, li_0, li_1, li_2, li_3, li_4, li_5, li_6, li_7, li_8, li_9, li_10, li_11, li_12, li_13, li_14, li_15, li_16, li_17, li_18, li_19, li_20, li_21, li_22, li_23, li_24, li_25, li_26, li_27, li_28, li_29, li_30, li_31, li_32, li_33, li_34, li_35, li_36, li_37, li_38, li_39, li_40, li_41, li_42, li_43, li_44, li_45, li_46, li_47, li_48, li_49, li_50, li_51, li_52, li_53, li_54, li_55, li_56, li_57, li_58, li_59, li_60, li_61, li_62, li_63, li_64, li_65, li_66, li_96, li_97, li_99, li_100, li_122, li_125, li_126, li_140, li_255, li_256, li_999, li_1000, li_1001, li_1002, li_1100, li_1386, li_1452, li_1518, li_9999, li_1000000, e, bd_s, nI_leI, Nat.le_refl, ↓reduceIte]
  · rintro k x w hk ⟨rfl, g, rfl, g1, g2, g3⟩
    have e : f_X13_thieves fu (mb v b g) = some (nI (nt G)) := x13_thieves (MG_mb hM).2.1
    have e2 : f_X13_thiefOf fu (mb v b g) (nI k) (nI 2) = some (qc q k) := by
      rw [x13_thiefOf (by omega) (by omega), mb_A (by decide)]
      exact congrArg some (hB.2.2 k (by omega))
    have hle : ¬ nI (nt G) ≤ nI k := nI_ge hk (by omega)
    refine Or.inl ⟨nI (k + 1), mb v b (upd g (43 + k) (qc q k)), ⟨rfl, _, rfl, fun j hj => ?_, fun t ht => ?_, fun t h1 h2 => ?_⟩, fun rec => ?_⟩
    · rw [pk_un (by omega)]; exact g1 j hj
    · by_cases c : t = k
      · subst c; exact pk_us
      · rw [pk_un (by omega)]; exact g2 t (by omega)
    · rw [pk_un (by omega)]; exact g3 t (by omega) h2
    · simp (disch := omega) only [f_X13_starts_161s, ↓lm_1, ↓lm_2, ↓lm_3, ↓lm_4, ↓lm_5, ↓lm_6, ↓lm_7, ↓lm_8, ↓lm_9, ↓lm_10, ↓lm_11, li_0, li_1, li_2, li_3, li_4, li_5, li_6, li_7, li_8, li_9, li_10, li_11, li_12, li_13, li_14, li_15, li_16, li_17, li_18, li_19, li_20, li_21, li_22, li_23, li_24, li_25, li_26, li_27, li_28, li_29, li_30, li_31, li_32, li_33, li_34, li_35, li_36, li_37, li_38, li_39, li_40, li_41, li_42, li_43, li_44, li_45, li_46, li_47, li_48, li_49, li_50, li_51, li_52, li_53, li_54, li_55, li_56, li_57, li_58, li_59, li_60, li_61, li_62, li_63, li_64, li_65, li_66, li_96, li_97, li_99, li_100, li_122, li_125, li_126, li_140, li_255, li_256, li_999, li_1000, li_1001, li_1002, li_1100, li_1386, li_1452, li_1518, li_9999, li_1000000, e, bd_s, hle, ↓reduceIte, e2, nI_add, Nat.add_assoc, inb_n, ck_t, nI_clamp, nm_eq, mb_wr]
theorem m_st2 (hf : 1101 ≤ fu) (hb : b ≤ 1470) (hG : okG G) (hM : MG v G) (hB : MBg v q) (hq : okB G q) {h : Nat → Int32} (h0 : h 0 = nI 0 ∧ h 1 = nI 0 ∧ h 2 = nI (qn q) ∧ (∀ p, p < 8 → h (19 + p) = nI 0) ∧ ∀ t, t < 5 → h (43 + t) = nI 0) : ∃ h', f_X13_starts_39 fu fu (nI b) (nI 0) (mb v b h) = some (mb v b h') ∧ MH h' q := by
  obtain ⟨hq0, j0, g0, t0, o0, u0, x0⟩ := hq
  have h8 := hq0.1.2.1
  have key := lpI2 (fun k39 => f_X13_starts_39s fu k39 (nI b)) (fun k x w => x = nI k ∧ ∃ g, w = mb v b g ∧ (g 0 = nI 0 ∧ g 1 = nI 0 ∧ g 2 = nI (qn q) ∧ (∀ p, p < 8 → g (19 + p) = nI 0) ∧ ∀ t, t < 5 → g (43 + t) = nI 0) ∧ ∀ p, p < k → g (3 + p) = nI (qo q p) ∧ g (11 + p) = nI (qh q p) ∧ g (27 + p) = (if p = 0 then mI 1 else nI (qs q p)) ∧ (p ≠ 0 → g (35 + p) = nI (fo (qw q p)))) (fun r => ∃ h', r = some (mb v b h') ∧ MH h' q) (qn q) ?_ ?_ fu 0 (nI 0) (mb v b h) ⟨rfl, h, rfl, h0, fun t ht => by omega⟩ (by omega) (by omega)
  · obtain ⟨r, ⟨h', e, hm⟩, e2⟩ := key
    refine ⟨h', ?_, hm⟩
    rw [← e, ← e2, f_X13_starts_39]
  · rintro x w ⟨rfl, g, rfl, ⟨g1, g2, g3, g4, g5⟩, g6⟩
    obtain ⟨h', e', hm⟩ := m_st3 (h := g) hf hb hG hM hB hq0 ⟨by rw [t0]; exact g1, by rw [g0]; exact g2, g3, fun p hp => ⟨(g6 p hp).1, (g6 p hp).2.1, by rw [u0 p hp]; exact g4 p (by omega), (g6 p hp).2.2⟩⟩ g5
    refine ⟨_, ⟨h', e', hm⟩, fun rec => ?_⟩
    have e3 : gA (mb v b g) 10 3 = nI (qn q) := by rw [mb_A (by decide)]; exact hB.1
    simp (disch := omega) only [f_X13_starts_39s, ↓lm_1, ↓lm_2, ↓lm_3, ↓lm_4, ↓lm_5, ↓lm_6, ↓lm_7, ↓lm_8, ↓lm_9, ↓lm_10, ↓lm_11, li_0, li_1, li_2, li_3, li_4, li_5, li_6, li_7, li_8, li_9, li_10, li_11, li_12, li_13, li_14, li_15, li_16, li_17, li_18, li_19, li_20, li_21, li_22, li_23, li_24, li_25, li_26, li_27, li_28, li_29, li_30, li_31, li_32, li_33, li_34, li_35, li_36, li_37, li_38, li_39, li_40, li_41, li_42, li_43, li_44, li_45, li_46, li_47, li_48, li_49, li_50, li_51, li_52, li_53, li_54, li_55, li_56, li_57, li_58, li_59, li_60, li_61, li_62, li_63, li_64, li_65, li_66, li_96, li_97, li_99, li_100, li_122, li_125, li_126, li_140, li_255, li_256, li_999, li_1000, li_1001, li_1002, li_1100, li_1386, li_1452, li_1518, li_9999, li_1000000, nI_clamp, e3, nI_leI, Nat.le_refl, ↓reduceIte]
  · rintro k x w hk ⟨rfl, g, rfl, ⟨g1, g2, g3, g4, g5⟩, g6⟩
    have e3 : gA (mb v b g) 10 3 = nI (qn q) := by rw [mb_A (by decide)]; exact hB.1
    have hle : ¬ nI (qn q) ≤ nI k := nI_ge hk (by omega)
    obtain ⟨b1, b2, b3⟩ := hB.2.1 k hk
    by_cases c : k = 0
    · subst c
      simp only [Nat.mul_zero, Nat.add_zero, Nat.zero_add, ↓reduceIte] at b1 b3
      refine Or.inl ⟨nI (0 + 1), mb v b (upd (upd (upd (upd g 27 (mI 1)) 3 (nI 0)) 35 (gA v 10 32)) 11 (nI (qh q 0))), ⟨rfl, _, rfl, ⟨?_, ?_, ?_, fun p hp => ?_, fun t ht => ?_⟩, fun p hp => ?_⟩, fun rec => ?_⟩
      · rw [pk_un (by omega), pk_un (by omega), pk_un (by omega), pk_un (by omega)]; exact g1
      · rw [pk_un (by omega), pk_un (by omega), pk_un (by omega), pk_un (by omega)]; exact g2
      · rw [pk_un (by omega), pk_un (by omega), pk_un (by omega), pk_un (by omega)]; exact g3
      · rw [pk_un (by omega), pk_un (by omega), pk_un (by omega), pk_un (by omega)]; exact g4 p hp
      · rw [pk_un (by omega), pk_un (by omega), pk_un (by omega), pk_un (by omega)]; exact g5 t ht
      · have e : p = 0 := by omega
        subst e
        refine ⟨?_, ?_, ?_, fun c => absurd rfl c⟩
        · rw [pk_un (by omega), pk_un (by omega), Nat.add_zero, pk_us, o0]
        · rw [Nat.add_zero, pk_us]
        · rw [pk_un (by omega), pk_un (by omega), pk_un (by omega), Nat.add_zero, pk_us, if_pos rfl]
      · simp (disch := omega) only [f_X13_starts_39s, f_X13_starts_114, ↓lm_1, ↓lm_2, ↓lm_3, ↓lm_4, ↓lm_5, ↓lm_6, ↓lm_7, ↓lm_8, ↓lm_9, ↓lm_10, ↓lm_11, li_0, li_1, li_2, li_3, li_4, li_5, li_6, li_7, li_8, li_9, li_10, li_11, li_12, li_13, li_14, li_15, li_16, li_17, li_18, li_19, li_20, li_21, li_22, li_23, li_24, li_25, li_26, li_27, li_28, li_29, li_30, li_31, li_32, li_33, li_34, li_35, li_36, li_37, li_38, li_39, li_40, li_41, li_42, li_43, li_44, li_45, li_46, li_47, li_48, li_49, li_50, li_51, li_52, li_53, li_54, li_55, li_56, li_57, li_58, li_59, li_60, li_61, li_62, li_63, li_64, li_65, li_66, li_96, li_97, li_99, li_100, li_122, li_125, li_126, li_140, li_255, li_256, li_999, li_1000, li_1001, li_1002, li_1100, li_1386, li_1452, li_1518, li_9999, li_1000000, nI_clamp, e3, hle, ↓reduceIte, nm_eq, nI_mulN, nI_add, Nat.add_assoc, Nat.mul_zero, Nat.add_zero, inb_n, ck_t, mb_A, b1, b3, mb_wr, Nat.reduceAdd, Nat.zero_add]
    · obtain ⟨b4, b5⟩ := b2 c
      rw [if_neg c] at b1
      have hs := (hq0.2.2.1 k (by omega) hk).2.2
      have hx := x0 k (by omega) hk
      have bo := (hq0.2.1 (qs q k) (by omega)).1
      have bw := (hq0.2.2.1 k (by omega) hk).2.1
      have c' : ¬ nI k = nI 0 := by rw [nI_eq (by omega) (by omega)]; exact c
      rw [Nat.add_assoc] at b4 b5 b3
      refine Or.inl ⟨nI (k + 1), mb v b (upd (upd (upd (upd g (27 + k) (nI (qs q k))) (3 + k) (nI (qo q k))) (35 + k) (nI (fo (qw q k)))) (11 + k) (nI (qh q k))), ⟨rfl, _, rfl, ⟨?_, ?_, ?_, fun p hp => ?_, fun t ht => ?_⟩, fun p hp => ?_⟩, fun rec => ?_⟩
      · rw [pk_un (by omega), pk_un (by omega), pk_un (by omega), pk_un (by omega)]; exact g1
      · rw [pk_un (by omega), pk_un (by omega), pk_un (by omega), pk_un (by omega)]; exact g2
      · rw [pk_un (by omega), pk_un (by omega), pk_un (by omega), pk_un (by omega)]; exact g3
      · rw [pk_un (by omega), pk_un (by omega), pk_un (by omega), pk_un (by omega)]; exact g4 p hp
      · rw [pk_un (by omega), pk_un (by omega), pk_un (by omega), pk_un (by omega)]; exact g5 t ht
      · by_cases e : p = k
        · subst e
          refine ⟨?_, pk_us, ?_, fun _ => ?_⟩
          · rw [pk_un (by omega), pk_un (by omega), pk_us]
          · rw [pk_un (by omega), pk_un (by omega), pk_un (by omega), pk_us, if_neg c]
          · rw [pk_un (by omega), pk_us]
        · have hp' : p < k := by omega
          rw [pk_un (by omega), pk_un (by omega), pk_un (by omega), pk_un (by omega), pk_un (by omega), pk_un (by omega), pk_un (by omega), pk_un (by omega), pk_un (by omega), pk_un (by omega), pk_un (by omega), pk_un (by omega), pk_un (by omega), pk_un (by omega), pk_un (by omega), pk_un (by omega)]
          exact g6 p hp'
      · have r1 : upd g (27 + k) (nI (qs q k)) (3 + qs q k) = nI (qo q (qs q k)) := by rw [pk_un (by omega)]; exact (g6 _ hs).1
        simp (disch := omega) only [f_X13_starts_39s, f_X13_starts_114, ↓lm_1, ↓lm_2, ↓lm_3, ↓lm_4, ↓lm_5, ↓lm_6, ↓lm_7, ↓lm_8, ↓lm_9, ↓lm_10, ↓lm_11, li_0, li_1, li_2, li_3, li_4, li_5, li_6, li_7, li_8, li_9, li_10, li_11, li_12, li_13, li_14, li_15, li_16, li_17, li_18, li_19, li_20, li_21, li_22, li_23, li_24, li_25, li_26, li_27, li_28, li_29, li_30, li_31, li_32, li_33, li_34, li_35, li_36, li_37, li_38, li_39, li_40, li_41, li_42, li_43, li_44, li_45, li_46, li_47, li_48, li_49, li_50, li_51, li_52, li_53, li_54, li_55, li_56, li_57, li_58, li_59, li_60, li_61, li_62, li_63, li_64, li_65, li_66, li_96, li_97, li_99, li_100, li_122, li_125, li_126, li_140, li_255, li_256, li_999, li_1000, li_1001, li_1002, li_1100, li_1386, li_1452, li_1518, li_9999, li_1000000, nI_clamp, e3, hle, c', ↓reduceIte, nm_eq, nI_mulN, nI_add, Nat.add_assoc, inb_n, ck_t, mb_A, b1, b4, b5, b3, mb_wr, mb_rd, r1, nI_xorN, ← hx]
theorem m_starts (hf : 1101 ≤ fu) (hb : b ≤ 1470) (hG : okG G) (hM : MG v G) (hB : MBg v q) (hq : okB G q) : ∃ h', f_X13_starts fu v (nI b) = some (mb v b h') ∧ MH h' q := by
  have key := lpI2 (fun k2 => f_X13_starts_2s fu k2 (nI b)) (fun k x w => x = nI k ∧ ∃ g, w = mb v b g ∧ ∀ j, j < k → g j = nI 0) (fun r => ∃ h', r = some (mb v b h') ∧ MH h' q) 48 ?_ ?_ fu 0 (nI 0) v ⟨rfl, _, mb_self.symm, fun t ht => by omega⟩ (by omega) (by omega)
  · obtain ⟨r, ⟨h', e, hm⟩, e2⟩ := key
    refine ⟨h', ?_, hm⟩
    rw [← e, ← e2]
    simp only [f_X13_starts, f_X13_starts_0, f_X13_starts_2, ↓lm_1, ↓lm_2, ↓lm_3, ↓lm_4, ↓lm_5, ↓lm_6, ↓lm_7, ↓lm_8, ↓lm_9, ↓lm_10, ↓lm_11, li_0, li_1, li_2, li_3, li_4, li_5, li_6, li_7, li_8, li_9, li_10, li_11, li_12, li_13, li_14, li_15, li_16, li_17, li_18, li_19, li_20, li_21, li_22, li_23, li_24, li_25, li_26, li_27, li_28, li_29, li_30, li_31, li_32, li_33, li_34, li_35, li_36, li_37, li_38, li_39, li_40, li_41, li_42, li_43, li_44, li_45, li_46, li_47, li_48, li_49, li_50, li_51, li_52, li_53, li_54, li_55, li_56, li_57, li_58, li_59, li_60, li_61, li_62, li_63, li_64, li_65, li_66, li_96, li_97, li_99, li_100, li_122, li_125, li_126, li_140, li_255, li_256, li_999, li_1000, li_1001, li_1002, li_1100, li_1386, li_1452, li_1518, li_9999, li_1000000]
  · rintro x w ⟨rfl, g, rfl, g1⟩
    have h8 := hq.1.1.2.1
    obtain ⟨h', e', hm⟩ := m_st2 (h := upd g 2 (nI (qn q))) hf hb hG hM hB hq ⟨by rw [pk_un (by omega)]; exact g1 _ (by omega), by rw [pk_un (by omega)]; exact g1 _ (by omega), pk_us, fun p hp => by rw [pk_un (by omega)]; exact g1 _ (by omega), fun p hp => by rw [pk_un (by omega)]; exact g1 _ (by omega)⟩
    refine ⟨_, ⟨h', e', hm⟩, fun rec => ?_⟩
    have e3 : gA (mb v b g) 10 3 = nI (qn q) := by rw [mb_A (by decide)]; exact hB.1
    simp (disch := omega) only [f_X13_starts_2s, ↓lm_1, ↓lm_2, ↓lm_3, ↓lm_4, ↓lm_5, ↓lm_6, ↓lm_7, ↓lm_8, ↓lm_9, ↓lm_10, ↓lm_11, li_0, li_1, li_2, li_3, li_4, li_5, li_6, li_7, li_8, li_9, li_10, li_11, li_12, li_13, li_14, li_15, li_16, li_17, li_18, li_19, li_20, li_21, li_22, li_23, li_24, li_25, li_26, li_27, li_28, li_29, li_30, li_31, li_32, li_33, li_34, li_35, li_36, li_37, li_38, li_39, li_40, li_41, li_42, li_43, li_44, li_45, li_46, li_47, li_48, li_49, li_50, li_51, li_52, li_53, li_54, li_55, li_56, li_57, li_58, li_59, li_60, li_61, li_62, li_63, li_64, li_65, li_66, li_96, li_97, li_99, li_100, li_122, li_125, li_126, li_140, li_255, li_256, li_999, li_1000, li_1001, li_1002, li_1100, li_1386, li_1452, li_1518, li_9999, li_1000000, nI_leI, Nat.le_refl, ↓reduceIte, nI_clamp, e3, nm_eq, nI_add, inb_n, ck_t, mb_wr]
  · rintro k x w hk ⟨rfl, g, rfl, g1⟩
    have hle : ¬ nI 48 ≤ nI k := nI_ge hk (by omega)
    refine Or.inl ⟨nI (k + 1), mb v b (upd g k (nI 0)), ⟨rfl, _, rfl, fun j hj => ?_⟩, fun rec => ?_⟩
    · by_cases e : j = k
      · subst e; exact pk_us
      · rw [pk_un e]; exact g1 j (by omega)
    · simp (disch := omega) only [f_X13_starts_2s, ↓lm_1, ↓lm_2, ↓lm_3, ↓lm_4, ↓lm_5, ↓lm_6, ↓lm_7, ↓lm_8, ↓lm_9, ↓lm_10, ↓lm_11, li_0, li_1, li_2, li_3, li_4, li_5, li_6, li_7, li_8, li_9, li_10, li_11, li_12, li_13, li_14, li_15, li_16, li_17, li_18, li_19, li_20, li_21, li_22, li_23, li_24, li_25, li_26, li_27, li_28, li_29, li_30, li_31, li_32, li_33, li_34, li_35, li_36, li_37, li_38, li_39, li_40, li_41, li_42, li_43, li_44, li_45, li_46, li_47, li_48, li_49, li_50, li_51, li_52, li_53, li_54, li_55, li_56, li_57, li_58, li_59, li_60, li_61, li_62, li_63, li_64, li_65, li_66, li_96, li_97, li_99, li_100, li_122, li_125, li_126, li_140, li_255, li_256, li_999, li_1000, li_1001, li_1002, li_1100, li_1386, li_1452, li_1518, li_9999, li_1000000, hle, ↓reduceIte, nm_eq, nI_add, inb_n, ck_t, nI_clamp, mb_wr]
end ST
section J
variable {fu a g ln : Nat} {S : ST} {w : GV} {G : GP} {q : HP} {L : LN}
/-- a block of the model, as a picture of a hall -/
def BH (w : GV) (b : Nat) (q : HP) : Prop := MH (fun k => gA w 24 (b + k)) q
theorem BH_mb {v : GV} {b : Nat} {h : Nat → Int32} (h8 : qn q ≤ 8) (m : MH h q) : BH (mb v b h) b q := MH_ext (fun k hk => mb_rd hk) h8 m
theorem BH_mv {v : GV} {b : Nat} {F P h : Nat → Int32} (h8 : qn q ≤ 8) (m : MH h q) : BH (mv v b F P h) b q := BH_mb h8 m
/-- a told line, by the class and by the model -/
theorem j_line (hf : 1101 ≤ fu) (hG : okG G) (hq : okq G q) (hw : CH (S a) q) (hg : CG S g G) (hMG : MG w G) (hB : BH w 1386 q) (hL : okLn G L) (hC : CLn (S ln) L) (hM : MLn w L) {k : Nat} (hk : k < L.1) : ∃ r q' S' w', okq G q' ∧ f_X6_playLine fu S ln (nI k) a g = some (b01 r, S') ∧ fra a S S' ∧ CH (S' a) q' ∧ f_X13_does fu w (nI (1 + 4 * k)) = some (b01 r, w') ∧ mscr w w' ∧ BH w' 1386 q' := by
  have h30 := hL.1
  obtain ⟨l1, l2, l3, l4⟩ := hL.2 k hk
  obtain ⟨c1, c2, c3, c4⟩ := hC.2 k hk
  obtain ⟨m1, m2, m3, m4⟩ := hM.2 k hk
  have h8 := hq.1.2.1
  have hj := hq.1.2.2.1
  have hg24 := hq.1.2.2.2
  have hself : mb w 1386 (fun k => gA w 24 (1386 + k)) = w := mb_self
  have i1 : 1 + 4 * k + 1 < 250 := by omega
  have same : mscr w w := mscr_refl w
  generalize hl : L.2 k = l at *
  obtain ⟨vb, th, n, s⟩ := l
  simp only at l1 l2 l3 l4 c1 c2 c3 c4 m1 m2 m3 m4
  rcases (show vb = 0 ∨ vb = 1 ∨ vb = 2 ∨ vb = 3 ∨ vb = 4 by omega) with rfl | rfl | rfl | rfl | rfl
  · -- steal
    obtain ⟨ht, hn8⟩ := l2 (by omega)
    have c2 := c2 (by omega)
    have c3 := c3 (by omega)
    have m2 := m2 (by omega)
    by_cases hp : n < qn q
    · have ms := m_maySteal_in (fu := fu) (v := w) (b := 1386) (by omega) hMG hG hB hq ht hp
      rw [hself] at ms
      rcases x3_swap (fu := fu) hw hq hg hG ht hp with ⟨e1, e2, S', e3, e4, e5⟩ | ⟨e1, e3⟩
      · rcases ms with ⟨_, em⟩ | ⟨e, _⟩
        · obtain ⟨h', es, eh⟩ := m_steals (v := w) (b := 1386) hf (by omega) hMG hG hB hq ht hp e1
          rw [hself] at es
          have ok := okq_swap hG hq ht hp e1
          have hz : ¬ nI (qj q) = mI 1 := nI_nem (by omega) (by omega) (by omega)
          refine ⟨true, _, S', mb w 1386 h', ok, ?_, e4, e5, ?_, mscr_mb same (by omega), BH_mb ok.1.2.1 eh⟩
          · simp (disch := omega) only [f_X6_playLine, f_X6_playLine_0, ↓lm_1, ↓lm_2, ↓lm_3, ↓lm_4, ↓lm_5, ↓lm_6, ↓lm_7, ↓lm_8, ↓lm_9, ↓lm_10, ↓lm_11, li_0, li_1, li_2, li_3, li_4, li_5, li_6, li_7, li_8, li_9, li_10, li_11, li_12, li_13, li_14, li_15, li_16, li_17, li_18, li_19, li_20, li_21, li_22, li_23, li_24, li_25, li_26, li_27, li_28, li_29, li_30, li_31, li_32, li_33, li_34, li_35, li_36, li_37, li_38, li_39, li_40, li_41, li_42, li_43, li_44, li_45, li_46, li_47, li_48, li_49, li_50, li_51, li_52, li_53, li_54, li_55, li_56, li_57, li_58, li_59, li_60, li_61, li_62, li_63, li_64, li_65, li_66, li_96, li_97, li_99, li_100, li_122, li_125, li_126, li_140, li_255, li_256, li_999, li_1000, li_1001, li_1002, li_1100, li_1386, li_1452, li_1518, li_9999, li_1000000, inb_n, ck_t, ↓nm_eq, nI_clamp, c1, c2, c3, ↓reduceIte, e3, bd2_s, hz, b01_t]
          · simp (disch := omega) only [f_X13_does, f_X13_does_0, f_X13_does_46, f_X13_does_136, f_X13_does_151, f_X13_doesSo, f_X13_doesSo_0, ↓lm_1, ↓lm_2, ↓lm_3, ↓lm_4, ↓lm_5, ↓lm_6, ↓lm_7, ↓lm_8, ↓lm_9, ↓lm_10, ↓lm_11, li_0, li_1, li_2, li_3, li_4, li_5, li_6, li_7, li_8, li_9, li_10, li_11, li_12, li_13, li_14, li_15, li_16, li_17, li_18, li_19, li_20, li_21, li_22, li_23, li_24, li_25, li_26, li_27, li_28, li_29, li_30, li_31, li_32, li_33, li_34, li_35, li_36, li_37, li_38, li_39, li_40, li_41, li_42, li_43, li_44, li_45, li_46, li_47, li_48, li_49, li_50, li_51, li_52, li_53, li_54, li_55, li_56, li_57, li_58, li_59, li_60, li_61, li_62, li_63, li_64, li_65, li_66, li_96, li_97, li_99, li_100, li_122, li_125, li_126, li_140, li_255, li_256, li_999, li_1000, li_1001, li_1002, li_1100, li_1386, li_1452, li_1518, li_9999, li_1000000, nI_add, inb_n, ck_t, ↓nm_eq, nI_clamp, m1, m2.1, m2.2, nI_eq, Nat.reduceEqDiff, ↓reduceIte, em, bd_s, n10, es, bd2_s, isB_1, b01_t]
        · exact absurd ⟨e1, e2⟩ e
      · rcases ms with ⟨e, _⟩ | ⟨_, em⟩
        · exact absurd e e1
        · refine ⟨false, q, S, w, hq, ?_, fra_refl _ _, hw, ?_, same, hB⟩
          · simp (disch := omega) only [f_X6_playLine, f_X6_playLine_0, ↓lm_1, ↓lm_2, ↓lm_3, ↓lm_4, ↓lm_5, ↓lm_6, ↓lm_7, ↓lm_8, ↓lm_9, ↓lm_10, ↓lm_11, li_0, li_1, li_2, li_3, li_4, li_5, li_6, li_7, li_8, li_9, li_10, li_11, li_12, li_13, li_14, li_15, li_16, li_17, li_18, li_19, li_20, li_21, li_22, li_23, li_24, li_25, li_26, li_27, li_28, li_29, li_30, li_31, li_32, li_33, li_34, li_35, li_36, li_37, li_38, li_39, li_40, li_41, li_42, li_43, li_44, li_45, li_46, li_47, li_48, li_49, li_50, li_51, li_52, li_53, li_54, li_55, li_56, li_57, li_58, li_59, li_60, li_61, li_62, li_63, li_64, li_65, li_66, li_96, li_97, li_99, li_100, li_122, li_125, li_126, li_140, li_255, li_256, li_999, li_1000, li_1001, li_1002, li_1100, li_1386, li_1452, li_1518, li_9999, li_1000000, inb_n, ck_t, ↓nm_eq, nI_clamp, c1, c2, c3, ↓reduceIte, e3, bd2_s, b01_f]
          · simp (disch := omega) only [f_X13_does, f_X13_does_0, f_X13_does_46, f_X13_does_136, f_X13_does_151, ↓lm_1, ↓lm_2, ↓lm_3, ↓lm_4, ↓lm_5, ↓lm_6, ↓lm_7, ↓lm_8, ↓lm_9, ↓lm_10, ↓lm_11, li_0, li_1, li_2, li_3, li_4, li_5, li_6, li_7, li_8, li_9, li_10, li_11, li_12, li_13, li_14, li_15, li_16, li_17, li_18, li_19, li_20, li_21, li_22, li_23, li_24, li_25, li_26, li_27, li_28, li_29, li_30, li_31, li_32, li_33, li_34, li_35, li_36, li_37, li_38, li_39, li_40, li_41, li_42, li_43, li_44, li_45, li_46, li_47, li_48, li_49, li_50, li_51, li_52, li_53, li_54, li_55, li_56, li_57, li_58, li_59, li_60, li_61, li_62, li_63, li_64, li_65, li_66, li_96, li_97, li_99, li_100, li_122, li_125, li_126, li_140, li_255, li_256, li_999, li_1000, li_1001, li_1002, li_1100, li_1386, li_1452, li_1518, li_9999, li_1000000, nI_add, inb_n, ck_t, ↓nm_eq, nI_clamp, m1, m2.1, m2.2, nI_eq, Nat.reduceEqDiff, ↓reduceIte, em, bd_s, isB_0, b01_f]
    · have hy : ¬ ∃ j, j < qn q ∧ nI n = nI j := by
        rintro ⟨j, hj, e⟩; rw [nI_eq (by omega) (by omega)] at e; omega
      have e3 := x3_swap_out (fu := fu) hw hq hg hG (x := nI th) (y := nI n) (fun c => hy c.2)
      have em := m_maySteal_out (fu := fu) (v := w) (b := 1386) (by omega) hMG hG hB hq ht hy
      rw [hself] at em
      refine ⟨false, q, S, w, hq, ?_, fra_refl _ _, hw, ?_, same, hB⟩
      · simp (disch := omega) only [f_X6_playLine, f_X6_playLine_0, ↓lm_1, ↓lm_2, ↓lm_3, ↓lm_4, ↓lm_5, ↓lm_6, ↓lm_7, ↓lm_8, ↓lm_9, ↓lm_10, ↓lm_11, li_0, li_1, li_2, li_3, li_4, li_5, li_6, li_7, li_8, li_9, li_10, li_11, li_12, li_13, li_14, li_15, li_16, li_17, li_18, li_19, li_20, li_21, li_22, li_23, li_24, li_25, li_26, li_27, li_28, li_29, li_30, li_31, li_32, li_33, li_34, li_35, li_36, li_37, li_38, li_39, li_40, li_41, li_42, li_43, li_44, li_45, li_46, li_47, li_48, li_49, li_50, li_51, li_52, li_53, li_54, li_55, li_56, li_57, li_58, li_59, li_60, li_61, li_62, li_63, li_64, li_65, li_66, li_96, li_97, li_99, li_100, li_122, li_125, li_126, li_140, li_255, li_256, li_999, li_1000, li_1001, li_1002, li_1100, li_1386, li_1452, li_1518, li_9999, li_1000000, inb_n, ck_t, ↓nm_eq, nI_clamp, c1, c2, c3, ↓reduceIte, e3, bd2_s, b01_f]
      · simp (disch := omega) only [f_X13_does, f_X13_does_0, f_X13_does_46, f_X13_does_136, f_X13_does_151, ↓lm_1, ↓lm_2, ↓lm_3, ↓lm_4, ↓lm_5, ↓lm_6, ↓lm_7, ↓lm_8, ↓lm_9, ↓lm_10, ↓lm_11, li_0, li_1, li_2, li_3, li_4, li_5, li_6, li_7, li_8, li_9, li_10, li_11, li_12, li_13, li_14, li_15, li_16, li_17, li_18, li_19, li_20, li_21, li_22, li_23, li_24, li_25, li_26, li_27, li_28, li_29, li_30, li_31, li_32, li_33, li_34, li_35, li_36, li_37, li_38, li_39, li_40, li_41, li_42, li_43, li_44, li_45, li_46, li_47, li_48, li_49, li_50, li_51, li_52, li_53, li_54, li_55, li_56, li_57, li_58, li_59, li_60, li_61, li_62, li_63, li_64, li_65, li_66, li_96, li_97, li_99, li_100, li_122, li_125, li_126, li_140, li_255, li_256, li_999, li_1000, li_1001, li_1002, li_1100, li_1386, li_1452, li_1518, li_9999, li_1000000, nI_add, inb_n, ck_t, ↓nm_eq, nI_clamp, m1, m2.1, m2.2, nI_eq, Nat.reduceEqDiff, ↓reduceIte, em, bd_s, isB_0, b01_f]
  · -- paint
    obtain ⟨ht, hn8⟩ := l2 (by omega)
    have hs := l3 rfl
    have hs8 : s < 8 := by have := hG.1; omega
    have c2 := c2 (by omega)
    have c3 := c3 (by omega)
    have c4 := c4 rfl
    have m2 := m2 (by omega)
    have m4 := m4 rfl
    by_cases hp : n < qn q
    · obtain ⟨F, P, ms⟩ := m_mayPaint (fu := fu) (v := w) (b := 1386) (s := s) hf (by omega) hMG hG hB hq ht hp
      rw [hself] at ms
      rcases x3_copyOf (fu := fu) hf hw hq hg hG ht hp hs with ⟨e1, S', e3, e4, e5⟩ | ⟨e1, S', e3, e4⟩
      · rcases ms with ⟨_, em⟩ | ⟨e, _⟩
        · have hB2 : MH (fun k => gA (mv w 1386 F P (fun k => gA w 24 (1386 + k))) 24 (1386 + k)) q := BH_mv h8 hB
          obtain ⟨h', es, eh⟩ := m_paints (fu := fu) (v := mv w 1386 F P (fun k => gA w 24 (1386 + k))) (b := 1386) (t := th) (by omega) hG hB2 hq hp e1.1 hs8
          rw [mb_self] at es
          have ok := okq_paint hG hq ht hp hs8 e1.1
          have hz : ¬ nI (qn q) = mI 1 := nI_nem (by omega) (by omega) (by omega)
          refine ⟨true, _, S', mb (mv w 1386 F P (fun k => gA w 24 (1386 + k))) 1386 h', ok, ?_, e4, e5, ?_, mscr_mb (mscr_mv same (by omega)) (by omega), BH_mb ok.1.2.1 eh⟩
          rotate_left
          · simp (disch := omega) only [f_X13_does, f_X13_does_0, f_X13_does_46, f_X13_does_136, f_X13_does_151, f_X13_doesSo, f_X13_doesSo_0, ↓lm_1, ↓lm_2, ↓lm_3, ↓lm_4, ↓lm_5, ↓lm_6, ↓lm_7, ↓lm_8, ↓lm_9, ↓lm_10, ↓lm_11, li_0, li_1, li_2, li_3, li_4, li_5, li_6, li_7, li_8, li_9, li_10, li_11, li_12, li_13, li_14, li_15, li_16, li_17, li_18, li_19, li_20, li_21, li_22, li_23, li_24, li_25, li_26, li_27, li_28, li_29, li_30, li_31, li_32, li_33, li_34, li_35, li_36, li_37, li_38, li_39, li_40, li_41, li_42, li_43, li_44, li_45, li_46, li_47, li_48, li_49, li_50, li_51, li_52, li_53, li_54, li_55, li_56, li_57, li_58, li_59, li_60, li_61, li_62, li_63, li_64, li_65, li_66, li_96, li_97, li_99, li_100, li_122, li_125, li_126, li_140, li_255, li_256, li_999, li_1000, li_1001, li_1002, li_1100, li_1386, li_1452, li_1518, li_9999, li_1000000, nI_add, inb_n, ck_t, ↓nm_eq, nI_clamp, m1, m2.1, m2.2, m4, nI_eq, Nat.reduceEqDiff, Nat.one_ne_zero, ↓reduceIte, em, bd_s, n10, es, bd2_s, isB_1, b01_t]
          · simp (disch := omega) only [f_X6_playLine, f_X6_playLine_0, ↓lm_1, ↓lm_2, ↓lm_3, ↓lm_4, ↓lm_5, ↓lm_6, ↓lm_7, ↓lm_8, ↓lm_9, ↓lm_10, ↓lm_11, li_0, li_1, li_2, li_3, li_4, li_5, li_6, li_7, li_8, li_9, li_10, li_11, li_12, li_13, li_14, li_15, li_16, li_17, li_18, li_19, li_20, li_21, li_22, li_23, li_24, li_25, li_26, li_27, li_28, li_29, li_30, li_31, li_32, li_33, li_34, li_35, li_36, li_37, li_38, li_39, li_40, li_41, li_42, li_43, li_44, li_45, li_46, li_47, li_48, li_49, li_50, li_51, li_52, li_53, li_54, li_55, li_56, li_57, li_58, li_59, li_60, li_61, li_62, li_63, li_64, li_65, li_66, li_96, li_97, li_99, li_100, li_122, li_125, li_126, li_140, li_255, li_256, li_999, li_1000, li_1001, li_1002, li_1100, li_1386, li_1452, li_1518, li_9999, li_1000000, inb_n, ck_t, ↓nm_eq, nI_clamp, c1, c2, c3, c4, nI_eq, Nat.one_ne_zero, ↓reduceIte, e3, bd2_s, hz, b01_t]
        · exact absurd e1 e
      · rcases ms with ⟨e, _⟩ | ⟨_, em⟩
        · exact absurd e e1
        · refine ⟨false, q, S', mv w 1386 F P (fun k => gA w 24 (1386 + k)), hq, ?_, fra_lw e4, ?_, ?_, mscr_mv same (by omega), BH_mv h8 hB⟩
          rotate_left
          · rw [lw_at e4 (by rw [hw.1]; decide)]; exact hw
          · simp (disch := omega) only [f_X13_does, f_X13_does_0, f_X13_does_46, f_X13_does_136, f_X13_does_151, ↓lm_1, ↓lm_2, ↓lm_3, ↓lm_4, ↓lm_5, ↓lm_6, ↓lm_7, ↓lm_8, ↓lm_9, ↓lm_10, ↓lm_11, li_0, li_1, li_2, li_3, li_4, li_5, li_6, li_7, li_8, li_9, li_10, li_11, li_12, li_13, li_14, li_15, li_16, li_17, li_18, li_19, li_20, li_21, li_22, li_23, li_24, li_25, li_26, li_27, li_28, li_29, li_30, li_31, li_32, li_33, li_34, li_35, li_36, li_37, li_38, li_39, li_40, li_41, li_42, li_43, li_44, li_45, li_46, li_47, li_48, li_49, li_50, li_51, li_52, li_53, li_54, li_55, li_56, li_57, li_58, li_59, li_60, li_61, li_62, li_63, li_64, li_65, li_66, li_96, li_97, li_99, li_100, li_122, li_125, li_126, li_140, li_255, li_256, li_999, li_1000, li_1001, li_1002, li_1100, li_1386, li_1452, li_1518, li_9999, li_1000000, nI_add, inb_n, ck_t, ↓nm_eq, nI_clamp, m1, m2.1, m2.2, m4, nI_eq, Nat.reduceEqDiff, Nat.one_ne_zero, ↓reduceIte, em, bd2_s, isB_0, b01_f]
          · simp (disch := omega) only [f_X6_playLine, f_X6_playLine_0, ↓lm_1, ↓lm_2, ↓lm_3, ↓lm_4, ↓lm_5, ↓lm_6, ↓lm_7, ↓lm_8, ↓lm_9, ↓lm_10, ↓lm_11, li_0, li_1, li_2, li_3, li_4, li_5, li_6, li_7, li_8, li_9, li_10, li_11, li_12, li_13, li_14, li_15, li_16, li_17, li_18, li_19, li_20, li_21, li_22, li_23, li_24, li_25, li_26, li_27, li_28, li_29, li_30, li_31, li_32, li_33, li_34, li_35, li_36, li_37, li_38, li_39, li_40, li_41, li_42, li_43, li_44, li_45, li_46, li_47, li_48, li_49, li_50, li_51, li_52, li_53, li_54, li_55, li_56, li_57, li_58, li_59, li_60, li_61, li_62, li_63, li_64, li_65, li_66, li_96, li_97, li_99, li_100, li_122, li_125, li_126, li_140, li_255, li_256, li_999, li_1000, li_1001, li_1002, li_1100, li_1386, li_1452, li_1518, li_9999, li_1000000, inb_n, ck_t, ↓nm_eq, nI_clamp, c1, c2, c3, c4, nI_eq, Nat.one_ne_zero, ↓reduceIte, e3, bd2_s, b01_f]
    · have hy : ¬ ∃ j, j < qn q ∧ nI n = nI j := by
        rintro ⟨j, hj, e⟩; rw [nI_eq (by omega) (by omega)] at e; omega
      have e3 := x3_copyOf_out (fu := fu) hw hq hg hG (x := nI th) (y := nI n) (z := nI s) (fun c => hy c.2.1)
      have em := m_mayPaint_out (fu := fu) (v := w) (b := 1386) (by omega) hB hq (x := nI th) (z := nI s) hy
      rw [hself] at em
      refine ⟨false, q, S, w, hq, ?_, fra_refl _ _, hw, ?_, same, hB⟩
      · simp (disch := omega) only [f_X6_playLine, f_X6_playLine_0, ↓lm_1, ↓lm_2, ↓lm_3, ↓lm_4, ↓lm_5, ↓lm_6, ↓lm_7, ↓lm_8, ↓lm_9, ↓lm_10, ↓lm_11, li_0, li_1, li_2, li_3, li_4, li_5, li_6, li_7, li_8, li_9, li_10, li_11, li_12, li_13, li_14, li_15, li_16, li_17, li_18, li_19, li_20, li_21, li_22, li_23, li_24, li_25, li_26, li_27, li_28, li_29, li_30, li_31, li_32, li_33, li_34, li_35, li_36, li_37, li_38, li_39, li_40, li_41, li_42, li_43, li_44, li_45, li_46, li_47, li_48, li_49, li_50, li_51, li_52, li_53, li_54, li_55, li_56, li_57, li_58, li_59, li_60, li_61, li_62, li_63, li_64, li_65, li_66, li_96, li_97, li_99, li_100, li_122, li_125, li_126, li_140, li_255, li_256, li_999, li_1000, li_1001, li_1002, li_1100, li_1386, li_1452, li_1518, li_9999, li_1000000, inb_n, ck_t, ↓nm_eq, nI_clamp, c1, c2, c3, c4, nI_eq, Nat.one_ne_zero, ↓reduceIte, e3, bd2_s, b01_f]
      · simp (disch := omega) only [f_X13_does, f_X13_does_0, f_X13_does_46, f_X13_does_136, f_X13_does_151, ↓lm_1, ↓lm_2, ↓lm_3, ↓lm_4, ↓lm_5, ↓lm_6, ↓lm_7, ↓lm_8, ↓lm_9, ↓lm_10, ↓lm_11, li_0, li_1, li_2, li_3, li_4, li_5, li_6, li_7, li_8, li_9, li_10, li_11, li_12, li_13, li_14, li_15, li_16, li_17, li_18, li_19, li_20, li_21, li_22, li_23, li_24, li_25, li_26, li_27, li_28, li_29, li_30, li_31, li_32, li_33, li_34, li_35, li_36, li_37, li_38, li_39, li_40, li_41, li_42, li_43, li_44, li_45, li_46, li_47, li_48, li_49, li_50, li_51, li_52, li_53, li_54, li_55, li_56, li_57, li_58, li_59, li_60, li_61, li_62, li_63, li_64, li_65, li_66, li_96, li_97, li_99, li_100, li_122, li_125, li_126, li_140, li_255, li_256, li_999, li_1000, li_1001, li_1002, li_1100, li_1386, li_1452, li_1518, li_9999, li_1000000, nI_add, inb_n, ck_t, ↓nm_eq, nI_clamp, m1, m2.1, m2.2, m4, nI_eq, Nat.reduceEqDiff, Nat.one_ne_zero, ↓reduceIte, em, bd2_s, isB_0, b01_f]
  · -- sell
    obtain ⟨ht, hn8⟩ := l2 (by omega)
    have c2 := c2 (by omega)
    have c3 := c3 (by omega)
    have m2 := m2 (by omega)
    by_cases hp : n < qn q
    · have em := m_hasIt_in (fu := fu) (v := w) (b := 1386) (by omega) hB hq hG ht hp
      rw [hself] at em
      rcases x3_sale (fu := fu) hf hw hq hg hG ht hp with ⟨e1, S', e3, e4, e5⟩ | ⟨e1, e3⟩
      · rw [if_pos e1] at em
        obtain ⟨F, P, h', es, eh⟩ := m_sells (v := w) (b := 1386) hf (by omega) hMG hG hB hq ht hp
        rw [hself] at es
        have ok := okq_sell hG hq ht hp e1
        have hz : ¬ wof G q n = mI 1 := clw_ne _
        refine ⟨true, _, S', mv w 1386 F P h', ok, ?_, e4, e5, ?_, mscr_mv same (by omega), BH_mv ok.1.2.1 eh⟩
        · simp (disch := omega) only [f_X6_playLine, f_X6_playLine_0, ↓lm_1, ↓lm_2, ↓lm_3, ↓lm_4, ↓lm_5, ↓lm_6, ↓lm_7, ↓lm_8, ↓lm_9, ↓lm_10, ↓lm_11, li_0, li_1, li_2, li_3, li_4, li_5, li_6, li_7, li_8, li_9, li_10, li_11, li_12, li_13, li_14, li_15, li_16, li_17, li_18, li_19, li_20, li_21, li_22, li_23, li_24, li_25, li_26, li_27, li_28, li_29, li_30, li_31, li_32, li_33, li_34, li_35, li_36, li_37, li_38, li_39, li_40, li_41, li_42, li_43, li_44, li_45, li_46, li_47, li_48, li_49, li_50, li_51, li_52, li_53, li_54, li_55, li_56, li_57, li_58, li_59, li_60, li_61, li_62, li_63, li_64, li_65, li_66, li_96, li_97, li_99, li_100, li_122, li_125, li_126, li_140, li_255, li_256, li_999, li_1000, li_1001, li_1002, li_1100, li_1386, li_1452, li_1518, li_9999, li_1000000, inb_n, ck_t, ↓nm_eq, nI_clamp, c1, c2, c3, nI_eq, Nat.reduceEqDiff, ↓reduceIte, e3, bd2_s, hz, b01_t]
        · simp (disch := omega) only [f_X13_does, f_X13_does_0, f_X13_does_46, f_X13_does_136, f_X13_does_151, f_X13_doesSo, f_X13_doesSo_0, ↓lm_1, ↓lm_2, ↓lm_3, ↓lm_4, ↓lm_5, ↓lm_6, ↓lm_7, ↓lm_8, ↓lm_9, ↓lm_10, ↓lm_11, li_0, li_1, li_2, li_3, li_4, li_5, li_6, li_7, li_8, li_9, li_10, li_11, li_12, li_13, li_14, li_15, li_16, li_17, li_18, li_19, li_20, li_21, li_22, li_23, li_24, li_25, li_26, li_27, li_28, li_29, li_30, li_31, li_32, li_33, li_34, li_35, li_36, li_37, li_38, li_39, li_40, li_41, li_42, li_43, li_44, li_45, li_46, li_47, li_48, li_49, li_50, li_51, li_52, li_53, li_54, li_55, li_56, li_57, li_58, li_59, li_60, li_61, li_62, li_63, li_64, li_65, li_66, li_96, li_97, li_99, li_100, li_122, li_125, li_126, li_140, li_255, li_256, li_999, li_1000, li_1001, li_1002, li_1100, li_1386, li_1452, li_1518, li_9999, li_1000000, nI_add, inb_n, ck_t, ↓nm_eq, nI_clamp, m1, m2.1, m2.2, nI_eq, Nat.reduceEqDiff, ↓reduceIte, em, bd_s, n10, es, bd2_s, isB_1, b01_t]
      · rw [if_neg e1] at em
        refine ⟨false, q, S, w, hq, ?_, fra_refl _ _, hw, ?_, same, hB⟩
        · simp (disch := omega) only [f_X6_playLine, f_X6_playLine_0, ↓lm_1, ↓lm_2, ↓lm_3, ↓lm_4, ↓lm_5, ↓lm_6, ↓lm_7, ↓lm_8, ↓lm_9, ↓lm_10, ↓lm_11, li_0, li_1, li_2, li_3, li_4, li_5, li_6, li_7, li_8, li_9, li_10, li_11, li_12, li_13, li_14, li_15, li_16, li_17, li_18, li_19, li_20, li_21, li_22, li_23, li_24, li_25, li_26, li_27, li_28, li_29, li_30, li_31, li_32, li_33, li_34, li_35, li_36, li_37, li_38, li_39, li_40, li_41, li_42, li_43, li_44, li_45, li_46, li_47, li_48, li_49, li_50, li_51, li_52, li_53, li_54, li_55, li_56, li_57, li_58, li_59, li_60, li_61, li_62, li_63, li_64, li_65, li_66, li_96, li_97, li_99, li_100, li_122, li_125, li_126, li_140, li_255, li_256, li_999, li_1000, li_1001, li_1002, li_1100, li_1386, li_1452, li_1518, li_9999, li_1000000, inb_n, ck_t, ↓nm_eq, nI_clamp, c1, c2, c3, nI_eq, Nat.reduceEqDiff, ↓reduceIte, e3, bd2_s, b01_f]
        · simp (disch := omega) only [f_X13_does, f_X13_does_0, f_X13_does_46, f_X13_does_136, f_X13_does_151, ↓lm_1, ↓lm_2, ↓lm_3, ↓lm_4, ↓lm_5, ↓lm_6, ↓lm_7, ↓lm_8, ↓lm_9, ↓lm_10, ↓lm_11, li_0, li_1, li_2, li_3, li_4, li_5, li_6, li_7, li_8, li_9, li_10, li_11, li_12, li_13, li_14, li_15, li_16, li_17, li_18, li_19, li_20, li_21, li_22, li_23, li_24, li_25, li_26, li_27, li_28, li_29, li_30, li_31, li_32, li_33, li_34, li_35, li_36, li_37, li_38, li_39, li_40, li_41, li_42, li_43, li_44, li_45, li_46, li_47, li_48, li_49, li_50, li_51, li_52, li_53, li_54, li_55, li_56, li_57, li_58, li_59, li_60, li_61, li_62, li_63, li_64, li_65, li_66, li_96, li_97, li_99, li_100, li_122, li_125, li_126, li_140, li_255, li_256, li_999, li_1000, li_1001, li_1002, li_1100, li_1386, li_1452, li_1518, li_9999, li_1000000, nI_add, inb_n, ck_t, ↓nm_eq, nI_clamp, m1, m2.1, m2.2, nI_eq, Nat.reduceEqDiff, ↓reduceIte, em, bd_s, isB_0, b01_f]
    · have hy : ¬ ∃ j, j < qn q ∧ nI n = nI j := by
        rintro ⟨j, hj, e⟩; rw [nI_eq (by omega) (by omega)] at e; omega
      have e3 := x3_sale_out (fu := fu) hw hq hg hG (x := nI th) (y := nI n) (fun c => hy c.2)
      have em := m_hasIt_out (fu := fu) (v := w) (b := 1386) (by omega) hB hq (x := nI th) hy
      rw [hself] at em
      refine ⟨false, q, S, w, hq, ?_, fra_refl _ _, hw, ?_, same, hB⟩
      · simp (disch := omega) only [f_X6_playLine, f_X6_playLine_0, ↓lm_1, ↓lm_2, ↓lm_3, ↓lm_4, ↓lm_5, ↓lm_6, ↓lm_7, ↓lm_8, ↓lm_9, ↓lm_10, ↓lm_11, li_0, li_1, li_2, li_3, li_4, li_5, li_6, li_7, li_8, li_9, li_10, li_11, li_12, li_13, li_14, li_15, li_16, li_17, li_18, li_19, li_20, li_21, li_22, li_23, li_24, li_25, li_26, li_27, li_28, li_29, li_30, li_31, li_32, li_33, li_34, li_35, li_36, li_37, li_38, li_39, li_40, li_41, li_42, li_43, li_44, li_45, li_46, li_47, li_48, li_49, li_50, li_51, li_52, li_53, li_54, li_55, li_56, li_57, li_58, li_59, li_60, li_61, li_62, li_63, li_64, li_65, li_66, li_96, li_97, li_99, li_100, li_122, li_125, li_126, li_140, li_255, li_256, li_999, li_1000, li_1001, li_1002, li_1100, li_1386, li_1452, li_1518, li_9999, li_1000000, inb_n, ck_t, ↓nm_eq, nI_clamp, c1, c2, c3, nI_eq, Nat.reduceEqDiff, ↓reduceIte, e3, bd2_s, b01_f]
      · simp (disch := omega) only [f_X13_does, f_X13_does_0, f_X13_does_46, f_X13_does_136, f_X13_does_151, ↓lm_1, ↓lm_2, ↓lm_3, ↓lm_4, ↓lm_5, ↓lm_6, ↓lm_7, ↓lm_8, ↓lm_9, ↓lm_10, ↓lm_11, li_0, li_1, li_2, li_3, li_4, li_5, li_6, li_7, li_8, li_9, li_10, li_11, li_12, li_13, li_14, li_15, li_16, li_17, li_18, li_19, li_20, li_21, li_22, li_23, li_24, li_25, li_26, li_27, li_28, li_29, li_30, li_31, li_32, li_33, li_34, li_35, li_36, li_37, li_38, li_39, li_40, li_41, li_42, li_43, li_44, li_45, li_46, li_47, li_48, li_49, li_50, li_51, li_52, li_53, li_54, li_55, li_56, li_57, li_58, li_59, li_60, li_61, li_62, li_63, li_64, li_65, li_66, li_96, li_97, li_99, li_100, li_122, li_125, li_126, li_140, li_255, li_256, li_999, li_1000, li_1001, li_1002, li_1100, li_1386, li_1452, li_1518, li_9999, li_1000000, nI_add, inb_n, ck_t, ↓nm_eq, nI_clamp, m1, m2.1, m2.2, nI_eq, Nat.reduceEqDiff, ↓reduceIte, em, bd_s, isB_0, b01_f]
  · -- guard
    have h24 := l4 rfl
    have c3 := c3 (by omega)
    have m3 := m3 rfl
    have e3 := x3_setGuard (fu := fu) hw hq h24
    have hbt := bt_lt (qg q) n
    have w1 : gA w 24 1387 = nI (qg q) := hB.2.1
    have li : (1387 : Int32) = nI 1387 := by decide
    by_cases c : bt (qg q) n = 0
    · rw [if_pos c] at e3
      have ok := okq_guard hq h24
      have es : sA w 24 1387 (nI (qg q ||| 2 ^ n)) = mb w 1386 (upd (fun k => gA w 24 (1386 + k)) 1 (nI (qg q ||| 2 ^ n))) := by
        have := mb_wr (v := w) (b := 1386) (i := 1) (h := fun k => gA w 24 (1386 + k)) (x := nI (qg q ||| 2 ^ n)) (by omega)
        rwa [mb_self] at this
      have p2 : 2 ^ n < 2 ^ 24 := Nat.pow_lt_pow_right (by decide) h24
      refine ⟨true, _, st S a (sI (S a) 9 (nI (qg q ||| 2 ^ n))), mb w 1386 (upd (fun k => gA w 24 (1386 + k)) 1 (nI (qg q ||| 2 ^ n))), ok, ?_, fra_st (fra_refl _ _) rfl (fun k hk => by rw [gI_sI, if_neg (by omega)]), by rw [st_same]; exact CH_guard hw n, ?_, mscr_mb same (by omega), BH_mb ok.1.2.1 (MH_guard hB h8 n)⟩
      · simp (disch := omega) only [f_X6_playLine, f_X6_playLine_0, ↓lm_1, ↓lm_2, ↓lm_3, ↓lm_4, ↓lm_5, ↓lm_6, ↓lm_7, ↓lm_8, ↓lm_9, ↓lm_10, ↓lm_11, li_0, li_1, li_2, li_3, li_4, li_5, li_6, li_7, li_8, li_9, li_10, li_11, li_12, li_13, li_14, li_15, li_16, li_17, li_18, li_19, li_20, li_21, li_22, li_23, li_24, li_25, li_26, li_27, li_28, li_29, li_30, li_31, li_32, li_33, li_34, li_35, li_36, li_37, li_38, li_39, li_40, li_41, li_42, li_43, li_44, li_45, li_46, li_47, li_48, li_49, li_50, li_51, li_52, li_53, li_54, li_55, li_56, li_57, li_58, li_59, li_60, li_61, li_62, li_63, li_64, li_65, li_66, li_96, li_97, li_99, li_100, li_122, li_125, li_126, li_140, li_255, li_256, li_999, li_1000, li_1001, li_1002, li_1100, li_1386, li_1452, li_1518, li_9999, li_1000000, inb_n, ck_t, ↓nm_eq, nI_clamp, c1, c3, nI_eq, Nat.reduceEqDiff, ↓reduceIte, e3, bd2_s, isB_1, b01_t]
      · simp (disch := omega) only [f_X13_does, f_X13_does_0, f_X13_does_46, f_X13_does_134, f_X13_does_136, f_X13_does_151, f_X13_doesSo, f_X13_doesSo_0, ↓lm_1, ↓lm_2, ↓lm_3, ↓lm_4, ↓lm_5, ↓lm_6, ↓lm_7, ↓lm_8, ↓lm_9, ↓lm_10, ↓lm_11, li_0, li_1, li_2, li_3, li_4, li_5, li_6, li_7, li_8, li_9, li_10, li_11, li_12, li_13, li_14, li_15, li_16, li_17, li_18, li_19, li_20, li_21, li_22, li_23, li_24, li_25, li_26, li_27, li_28, li_29, li_30, li_31, li_32, li_33, li_34, li_35, li_36, li_37, li_38, li_39, li_40, li_41, li_42, li_43, li_44, li_45, li_46, li_47, li_48, li_49, li_50, li_51, li_52, li_53, li_54, li_55, li_56, li_57, li_58, li_59, li_60, li_61, li_62, li_63, li_64, li_65, li_66, li_96, li_97, li_99, li_100, li_122, li_125, li_126, li_140, li_255, li_256, li_999, li_1000, li_1001, li_1002, li_1100, li_1386, li_1452, li_1518, li_9999, li_1000000, li, nI_add, inb_n, ck_t, ↓nm_eq, nI_clamp, m1, m3, nI_eq, Nat.reduceEqDiff, ↓reduceIte, w1, nI_and31, nI_bt, c, nI_shl1, nI_orN, es, bd_s, n10, Nat.one_ne_zero, isB_1, b01_t]
    · rw [if_neg c] at e3
      have c1' : bt (qg q) n = 1 := by omega
      refine ⟨false, q, S, w, hq, ?_, fra_refl _ _, hw, ?_, same, hB⟩
      · simp (disch := omega) only [f_X6_playLine, f_X6_playLine_0, ↓lm_1, ↓lm_2, ↓lm_3, ↓lm_4, ↓lm_5, ↓lm_6, ↓lm_7, ↓lm_8, ↓lm_9, ↓lm_10, ↓lm_11, li_0, li_1, li_2, li_3, li_4, li_5, li_6, li_7, li_8, li_9, li_10, li_11, li_12, li_13, li_14, li_15, li_16, li_17, li_18, li_19, li_20, li_21, li_22, li_23, li_24, li_25, li_26, li_27, li_28, li_29, li_30, li_31, li_32, li_33, li_34, li_35, li_36, li_37, li_38, li_39, li_40, li_41, li_42, li_43, li_44, li_45, li_46, li_47, li_48, li_49, li_50, li_51, li_52, li_53, li_54, li_55, li_56, li_57, li_58, li_59, li_60, li_61, li_62, li_63, li_64, li_65, li_66, li_96, li_97, li_99, li_100, li_122, li_125, li_126, li_140, li_255, li_256, li_999, li_1000, li_1001, li_1002, li_1100, li_1386, li_1452, li_1518, li_9999, li_1000000, inb_n, ck_t, ↓nm_eq, nI_clamp, c1, c3, nI_eq, Nat.reduceEqDiff, ↓reduceIte, e3, bd2_s, isB_0, b01_f, st_self]
      · simp (disch := omega) only [f_X13_does, f_X13_does_0, f_X13_does_46, f_X13_does_134, f_X13_does_136, f_X13_does_151, ↓lm_1, ↓lm_2, ↓lm_3, ↓lm_4, ↓lm_5, ↓lm_6, ↓lm_7, ↓lm_8, ↓lm_9, ↓lm_10, ↓lm_11, li_0, li_1, li_2, li_3, li_4, li_5, li_6, li_7, li_8, li_9, li_10, li_11, li_12, li_13, li_14, li_15, li_16, li_17, li_18, li_19, li_20, li_21, li_22, li_23, li_24, li_25, li_26, li_27, li_28, li_29, li_30, li_31, li_32, li_33, li_34, li_35, li_36, li_37, li_38, li_39, li_40, li_41, li_42, li_43, li_44, li_45, li_46, li_47, li_48, li_49, li_50, li_51, li_52, li_53, li_54, li_55, li_56, li_57, li_58, li_59, li_60, li_61, li_62, li_63, li_64, li_65, li_66, li_96, li_97, li_99, li_100, li_122, li_125, li_126, li_140, li_255, li_256, li_999, li_1000, li_1001, li_1002, li_1100, li_1386, li_1452, li_1518, li_9999, li_1000000, li, nI_add, inb_n, ck_t, ↓nm_eq, nI_clamp, m1, m3, nI_eq, Nat.reduceEqDiff, ↓reduceIte, w1, nI_and31, nI_bt, c1', Nat.one_ne_zero, isB_0, b01_f]
  · -- night
    obtain ⟨w7, e7, ch7, l7⟩ := x3_passNight (fu := fu) hw hq
    obtain ⟨h', es, eh⟩ := m_passes (v := w) (b := 1386) hf (by omega) hG hB hq
    rw [hself] at es
    have ok := okq_night hq
    refine ⟨true, _, st S a w7, mb w 1386 h', ok, ?_, fra_st (fra_refl _ _) (by rw [ch7.1, hw.1]) l7, by rw [st_same]; exact ch7, ?_, mscr_mb same (by omega), BH_mb ok.1.2.1 eh⟩
    · simp (disch := omega) only [f_X6_playLine, f_X6_playLine_0, ↓lm_1, ↓lm_2, ↓lm_3, ↓lm_4, ↓lm_5, ↓lm_6, ↓lm_7, ↓lm_8, ↓lm_9, ↓lm_10, ↓lm_11, li_0, li_1, li_2, li_3, li_4, li_5, li_6, li_7, li_8, li_9, li_10, li_11, li_12, li_13, li_14, li_15, li_16, li_17, li_18, li_19, li_20, li_21, li_22, li_23, li_24, li_25, li_26, li_27, li_28, li_29, li_30, li_31, li_32, li_33, li_34, li_35, li_36, li_37, li_38, li_39, li_40, li_41, li_42, li_43, li_44, li_45, li_46, li_47, li_48, li_49, li_50, li_51, li_52, li_53, li_54, li_55, li_56, li_57, li_58, li_59, li_60, li_61, li_62, li_63, li_64, li_65, li_66, li_96, li_97, li_99, li_100, li_122, li_125, li_126, li_140, li_255, li_256, li_999, li_1000, li_1001, li_1002, li_1100, li_1386, li_1452, li_1518, li_9999, li_1000000, inb_n, ck_t, ↓nm_eq, nI_clamp, c1, nI_eq, Nat.reduceEqDiff, ↓reduceIte, e7, bd_s, b01_t]
    · simp (disch := omega) only [f_X13_does, f_X13_does_0, f_X13_does_46, f_X13_does_136, f_X13_does_151, f_X13_doesSo, f_X13_doesSo_0, ↓lm_1, ↓lm_2, ↓lm_3, ↓lm_4, ↓lm_5, ↓lm_6, ↓lm_7, ↓lm_8, ↓lm_9, ↓lm_10, ↓lm_11, li_0, li_1, li_2, li_3, li_4, li_5, li_6, li_7, li_8, li_9, li_10, li_11, li_12, li_13, li_14, li_15, li_16, li_17, li_18, li_19, li_20, li_21, li_22, li_23, li_24, li_25, li_26, li_27, li_28, li_29, li_30, li_31, li_32, li_33, li_34, li_35, li_36, li_37, li_38, li_39, li_40, li_41, li_42, li_43, li_44, li_45, li_46, li_47, li_48, li_49, li_50, li_51, li_52, li_53, li_54, li_55, li_56, li_57, li_58, li_59, li_60, li_61, li_62, li_63, li_64, li_65, li_66, li_96, li_97, li_99, li_100, li_122, li_125, li_126, li_140, li_255, li_256, li_999, li_1000, li_1001, li_1002, li_1100, li_1386, li_1452, li_1518, li_9999, li_1000000, nI_add, inb_n, ck_t, ↓nm_eq, nI_clamp, m1, nI_eq, Nat.reduceEqDiff, Nat.one_ne_zero, n10, ↓reduceIte, es, bd_s, isB_1, b01_t]
end J
section J
variable {fu p t ln : Nat} {S : ST} {v : GV} {A : AP}
theorem MLn_mscr {v v' : GV} {L : LN} (h : MLn v L) (k : mscr v v') : MLn v' L := by rw [MLn, k.1 21 (by omega)]; exact h
theorem MG_mscr {v v' : GV} {G : GP} (h : MG v G) (k : mscr v v') : MG v' G := MG_of h (k.1 10 (by omega)) (k.1 11 (by omega)) (k.1 12 (by omega))
/-- all told lines -/
theorem j_lines (hf : 1101 ≤ fu) (hA : okA A) (a : Nat) (ha : a < 3) : ∀ m k, k + m = (aL A).1 → ∀ n1 n2, m < n1 → m < n2 → ∀ (S : ST) (w : GV) (q : HP) (o : Option Nat), (∀ j, o = some j → j < 30) → okq (aG A) q → CH (S (p + 16)) q → CG S t (aG A) → CLn (S ln) (aL A) → gC (S ln) = 6 → ln ≠ p + 16 → MG w (aG A) → MLn w (aL A) → BH w 1386 q → ∃ z S' w' q' o', okq (aG A) q' ∧ f_X6_play_5 fu n1 ln (p + 16) t (oI o) (nI k) S = some (oI o', S') ∧ fra (p + 16) S S' ∧ CH (S' (p + 16)) q' ∧ z = (if a = 0 then oI o' else if a = 1 then nI (qj q') else csum (qc q') 5) ∧ f_X13_judged_28 fu n2 (nI a) (oI o) (nI k) w = some (z, w') ∧ mscr w w' := by
  intro m
  induction m with
  | zero =>
    intro k hk n1 n2 h1 h2 S w q o ho hq hw hg hC hc6 hne hM hL hB
    obtain ⟨n1, rfl⟩ : ∃ n, n1 = n + 1 := ⟨n1 - 1, by omega⟩
    obtain ⟨n2, rfl⟩ : ∃ n, n2 = n + 1 := ⟨n2 - 1, by omega⟩
    have h30 := hA.2.2.2.2.2.1.1
    have hkk : k = (aL A).1 := by omega
    subst hkk
    have hself : mb w 1386 (fun k => gA w 24 (1386 + k)) = w := mb_self
    refine ⟨_, S, w, q, o, hq, ?_, fra_refl _ _, hw, rfl, ?_, mscr_refl w⟩
    · simp (disch := omega) only [f_X6_play_5, lq3_s, f_X6_play_5s, f_X6_play_46, hC.1, nI_leI, Nat.le_refl, ↓reduceIte]
    · have eh := m_hanging (fu := fu) (v := w) (b := 1386) hf (by omega) hA.1 hB hq
      have ec := m_coinsOf (fu := fu) (v := w) (b := 1386) hf (by omega) hM hA.1 hB hq
      rw [hself] at eh ec
      simp (disch := omega) only [f_X13_judged_28, lq3_s, f_X13_judged_28s, ↓lm_1, ↓lm_2, ↓lm_3, ↓lm_4, ↓lm_5, ↓lm_6, ↓lm_7, ↓lm_8, ↓lm_9, ↓lm_10, ↓lm_11, li_0, li_1, li_2, li_3, li_4, li_5, li_6, li_7, li_8, li_9, li_10, li_11, li_12, li_13, li_14, li_15, li_16, li_17, li_18, li_19, li_20, li_21, li_22, li_23, li_24, li_25, li_26, li_27, li_28, li_29, li_30, li_31, li_32, li_33, li_34, li_35, li_36, li_37, li_38, li_39, li_40, li_41, li_42, li_43, li_44, li_45, li_46, li_47, li_48, li_49, li_50, li_51, li_52, li_53, li_54, li_55, li_56, li_57, li_58, li_59, li_60, li_61, li_62, li_63, li_64, li_65, li_66, li_96, li_97, li_99, li_100, li_122, li_125, li_126, li_140, li_255, li_256, li_999, li_1000, li_1001, li_1002, li_1100, li_1386, li_1452, li_1518, li_9999, li_1000000, nI_clamp, hL.1, nI_leI, Nat.le_refl, ↓reduceIte, nI_eq, eh, ec, bd_s]
      by_cases a0 : a = 0
      · rw [if_pos a0, if_pos a0]
      · rw [if_neg a0, if_neg a0]
        by_cases a1 : a = 1
        · rw [if_pos a1, if_pos a1]
        · rw [if_neg a1, if_neg a1]
  | succ m ih =>
    intro k hk n1 n2 h1 h2 S w q o ho hq hw hg hC hc6 hne hM hL hB
    obtain ⟨n1, rfl⟩ : ∃ n, n1 = n + 1 := ⟨n1 - 1, by omega⟩
    obtain ⟨n2, rfl⟩ : ∃ n, n2 = n + 1 := ⟨n2 - 1, by omega⟩
    have h30 := hA.2.2.2.2.2.1.1
    have hkl : k < (aL A).1 := by omega
    obtain ⟨r, q', S', w', ok, e1, f1, c1, e2, m2, b2⟩ := j_line (fu := fu) hf hA.1 hq hw hg hM hB hA.2.2.2.2.2.1 hC hL hkl
    have hw3 : gC (S (p + 16)) = 3 := hw.1
    have eln : S' ln = S ln := fra_at f1 hne (by rw [hc6]; decide)
    have hl1 : ¬ nI (aL A).1 ≤ nI k := nI_ge hkl (by omega)
    have hl2 : ¬ nI 30 ≤ nI k := nI_ge (by omega) (by omega)
    obtain ⟨o2, ho2, hoe⟩ : ∃ o2 : Option Nat, (∀ j, o2 = some j → j < 30) ∧ o2 = if r = false ∧ o = none then some k else o := by
      refine ⟨_, ?_, rfl⟩
      intro j hj
      by_cases c : r = false ∧ o = none
      · rw [if_pos c] at hj; cases hj; omega
      · rw [if_neg c] at hj; exact ho j hj
    obtain ⟨z, S2, w2, q2, o3, k1, k2, k3, k4, k5, k6, k7⟩ := ih (k + 1) (by omega) n1 n2 (by omega) (by omega) S' w' q' o2 ho2 ok c1 (CG_fra hg f1 hw3) (by rw [eln]; exact hC) (by rw [eln]; exact hc6) hne (MG_mscr hM m2) (MLn_mscr hL m2) b2
    refine ⟨z, S2, w2, q2, o3, k1, ?_, fra_trans f1 k3, k4, k5, ?_, mscr_trans m2 k7⟩
    · rw [← k2]
      simp (disch := omega) only [f_X6_play_5, lq3_s, f_X6_play_5s, f_X6_play_40, ↓lm_1, ↓lm_2, ↓lm_3, ↓lm_4, ↓lm_5, ↓lm_6, ↓lm_7, ↓lm_8, ↓lm_9, ↓lm_10, ↓lm_11, li_0, li_1, li_2, li_3, li_4, li_5, li_6, li_7, li_8, li_9, li_10, li_11, li_12, li_13, li_14, li_15, li_16, li_17, li_18, li_19, li_20, li_21, li_22, li_23, li_24, li_25, li_26, li_27, li_28, li_29, li_30, li_31, li_32, li_33, li_34, li_35, li_36, li_37, li_38, li_39, li_40, li_41, li_42, li_43, li_44, li_45, li_46, li_47, li_48, li_49, li_50, li_51, li_52, li_53, li_54, li_55, li_56, li_57, li_58, li_59, li_60, li_61, li_62, li_63, li_64, li_65, li_66, li_96, li_97, li_99, li_100, li_122, li_125, li_126, li_140, li_255, li_256, li_999, li_1000, li_1001, li_1002, li_1100, li_1386, li_1452, li_1518, li_9999, li_1000000, hC.1, hl1, hl2, ↓reduceIte, e1, bd2_s, nm_eq, nI_add]
      cases r with
      | false =>
        cases o with
        | none => simp only [b01_f, oI, ↓reduceIte, hoe, and_self]
        | some j =>
          have hm : ¬ nI j = mI 1 := nI_nem (by have := ho j rfl; omega) (by omega) (by omega)
          simp only [b01_f, oI, hm, ↓reduceIte, hoe, reduceCtorEq, and_false]
      | true => simp only [b01_t, n10, ↓reduceIte, hoe, Bool.true_eq_false, false_and]
    · rw [← k6]
      simp (disch := omega) only [f_X13_judged_28, lq3_s, f_X13_judged_28s, f_X13_judged_62, f_X13_judged_63, ↓lm_1, ↓lm_2, ↓lm_3, ↓lm_4, ↓lm_5, ↓lm_6, ↓lm_7, ↓lm_8, ↓lm_9, ↓lm_10, ↓lm_11, li_0, li_1, li_2, li_3, li_4, li_5, li_6, li_7, li_8, li_9, li_10, li_11, li_12, li_13, li_14, li_15, li_16, li_17, li_18, li_19, li_20, li_21, li_22, li_23, li_24, li_25, li_26, li_27, li_28, li_29, li_30, li_31, li_32, li_33, li_34, li_35, li_36, li_37, li_38, li_39, li_40, li_41, li_42, li_43, li_44, li_45, li_46, li_47, li_48, li_49, li_50, li_51, li_52, li_53, li_54, li_55, li_56, li_57, li_58, li_59, li_60, li_61, li_62, li_63, li_64, li_65, li_66, li_96, li_97, li_99, li_100, li_122, li_125, li_126, li_140, li_255, li_256, li_999, li_1000, li_1001, li_1002, li_1100, li_1386, li_1452, li_1518, li_9999, li_1000000, nI_clamp, hL.1, hl1, ↓reduceIte, nI_mulN, nI_add, e2, bd2_s, nm_eq]
      cases r with
      | false =>
        cases o with
        | none =>
          have hm : ¬ nI 0 ≤ mI 1 := by decide
          simp only [b01_f, oI, hm, ↓reduceIte, hoe, and_self]
        | some j =>
          have hm : nI 0 ≤ nI j := nI_le (by omega) (by have := ho j rfl; omega)
          simp only [b01_f, oI, hm, ↓reduceIte, hoe, reduceCtorEq, and_false]
      | true => simp only [b01_t, n10, ↓reduceIte, hoe, Bool.true_eq_false, false_and]
theorem r_judged (hf : 1101 ≤ fu) (h : RR p S v) (x : Int32) : ∃ z S' v', f_X12_judged fu S p x = some (z, S') ∧ f_X13_judged fu v x = some (z, v') ∧ RR p S' v' := by
  obtain ⟨A, hA, hC, hM⟩ := h
  obtain ⟨t, d, ln, dl, f, hP, hK⟩ := id hC
  have c16 := hP.1.2.2.2.1
  have hct := hP.2.1.1
  have hct8 := hP.2.1.2.2.1
  have hcl := hP.2.1.2.2.2.2.1
  have hrt := hP.2.2.2.2.1.1
  have hrl := hP.2.2.2.2.1.2.2.1
  have td := hP.2.2.2.2.2.1
  have ll := hP.2.2.2.2.2.2.1
  have hB := hA.2.2.2.2.1
  have h30 := hA.2.2.2.2.2.1.1
  have hg : MG (sI v 0 (nI 0)) (aG A) := hM.2.1
  have hmb : MBg (sI v 0 (nI 0)) (aB A) := hM.2.2.2.2.2.1
  by_cases hx : ∃ j, j < 3 ∧ x = nI j
  · obtain ⟨a, ha, rfl⟩ := hx
    have x0 : ¬ nI a < nI 0 := nI_nlt (by omega) (by omega)
    have x2 : nI a ≤ nI 2 := nI_le (by omega) (by omega)
    have tk := x3_takeAll (fu := fu) (S := S) (a := p + 16) (g := t + 8) (by omega)
    generalize hS8 : st S (p + 16) (tkA (S (p + 16)) (S (t + 8))) = S8 at *
    have s16 : S8 (p + 16) = tkA (S (p + 16)) (S (t + 8)) := by rw [← hS8, st_same]
    have sne : ∀ b, b ≠ p + 16 → S8 b = S b := fun b hb => by rw [← hS8, st_ne _ _ hb]
    have ch8 : CHL (S8 (p + 16)) (aB A, (0, fun _ => 0, fun _ => 0)) := by
      rw [s16]; exact CHL_tkA hK.2.2.2.1 c16 hB.1.1.2.1
    have hgc8 : CG S8 t (aG A) := by
      refine CG_keep hK.2.1 (sne t (by omega)) (fun b hb => Or.inl (sne b ?_))
      rintro rfl; omega
    obtain ⟨h', es, hmh⟩ := m_starts (fu := fu) (v := sI v 0 (nI 0)) (b := 1386) hf (by omega) hA.1 hg hmb hB
    obtain ⟨z, S2, w2, q2, o3, k1, k2, k3, k4, k5, k6, k7⟩ := j_lines (p := p) (t := t) (ln := ln) hf hA a ha (aL A).1 0 (by omega) fu fu (by omega) (by omega) S8 (mb (sI v 0 (nI 0)) 1386 h') (aB A) none (by intro j hj; cases hj) hB.1 ch8.1 hgc8 (by rw [sne ln (by omega)]; exact hK.2.2.2.2.2.2.1) (by rw [sne ln (by omega)]; exact hcl) (by omega) (MG_mb hg) (MLn_mscr hM.2.2.2.2.2.2.1 (mscr_mb (q1 v) (by omega))) (BH_mb hB.1.1.2.1 hmh)
    have sc : scr p S S2 := by
      have s0 : scr p S S8 := by rw [← hS8]; exact scr_st (scr_refl p S) (Or.inl rfl) (by rw [gC_tkA])
      exact scr_fra s0 k3 (Or.inl rfl) (by rw [sne p (by omega), hP.1.1]; decide)
    refine ⟨z, S2, w2, ?_, ?_, RR_q hA hC hM sc (mscr_trans (mscr_mb (q1 v) (by omega)) k7)⟩
    · have ep : S8 p = S p := sne p (by omega)
      have et : S8 t = S t := sne t (by omega)
      have el : S8 ln = S ln := sne ln (by omega)
      have hz : (if nI a = nI 0 then some (oI o3, S2) else if nI a = nI 1 then some (nI (qj q2), S2) else some (csum (qc q2) 5, S2)) = some (z, S2) := by
        rw [k5]
        simp (disch := omega) only [nI_eq]
        by_cases a0 : a = 0
        · rw [if_pos a0, if_pos a0]
        · rw [if_neg a0, if_neg a0]
          by_cases a1 : a = 1
          · rw [if_pos a1, if_pos a1]
          · rw [if_neg a1, if_neg a1]
      have kp : f_X6_play fu S8 ln (p + 16) t = some (oI o3, S2) := by
        rw [← k2]
        simp only [f_X6_play, f_X6_play_0, ↓lm_1, ↓lm_2, ↓lm_3, ↓lm_4, ↓lm_5, ↓lm_6, ↓lm_7, ↓lm_8, ↓lm_9, ↓lm_10, ↓lm_11, li_0, li_1, li_2, li_3, li_4, li_5, li_6, li_7, li_8, li_9, li_10, li_11, li_12, li_13, li_14, li_15, li_16, li_17, li_18, li_19, li_20, li_21, li_22, li_23, li_24, li_25, li_26, li_27, li_28, li_29, li_30, li_31, li_32, li_33, li_34, li_35, li_36, li_37, li_38, li_39, li_40, li_41, li_42, li_43, li_44, li_45, li_46, li_47, li_48, li_49, li_50, li_51, li_52, li_53, li_54, li_55, li_56, li_57, li_58, li_59, li_60, li_61, li_62, li_63, li_64, li_65, li_66, li_96, li_97, li_99, li_100, li_122, li_125, li_126, li_140, li_255, li_256, li_999, li_1000, li_1001, li_1002, li_1100, li_1386, li_1452, li_1518, li_9999, li_1000000, oI]
      simp only [f_X12_judged, f_X12_judged_0, ↓lm_1, ↓lm_2, ↓lm_3, ↓lm_4, ↓lm_5, ↓lm_6, ↓lm_7, ↓lm_8, ↓lm_9, ↓lm_10, ↓lm_11, li_0, li_1, li_2, li_3, li_4, li_5, li_6, li_7, li_8, li_9, li_10, li_11, li_12, li_13, li_14, li_15, li_16, li_17, li_18, li_19, li_20, li_21, li_22, li_23, li_24, li_25, li_26, li_27, li_28, li_29, li_30, li_31, li_32, li_33, li_34, li_35, li_36, li_37, li_38, li_39, li_40, li_41, li_42, li_43, li_44, li_45, li_46, li_47, li_48, li_49, li_50, li_51, li_52, li_53, li_54, li_55, li_56, li_57, li_58, li_59, li_60, li_61, li_62, li_63, li_64, li_65, li_66, li_96, li_97, li_99, li_100, li_122, li_125, li_126, li_140, li_255, li_256, li_999, li_1000, li_1001, li_1002, li_1100, li_1386, li_1452, li_1518, li_9999, li_1000000, x0, x2, ↓reduceIte, c16, hct, hct8, decide_true, ck_t, hrt, bd_s, tk, ep, hrl, el, hcl, et, kp, bd2_s, k4.2.2.2.1, x3_allCoins hf k4]
      exact hz
    · rw [← k6]
      simp (disch := omega) only [f_X13_judged, f_X13_judged_0, ↓lm_1, ↓lm_2, ↓lm_3, ↓lm_4, ↓lm_5, ↓lm_6, ↓lm_7, ↓lm_8, ↓lm_9, ↓lm_10, ↓lm_11, li_0, li_1, li_2, li_3, li_4, li_5, li_6, li_7, li_8, li_9, li_10, li_11, li_12, li_13, li_14, li_15, li_16, li_17, li_18, li_19, li_20, li_21, li_22, li_23, li_24, li_25, li_26, li_27, li_28, li_29, li_30, li_31, li_32, li_33, li_34, li_35, li_36, li_37, li_38, li_39, li_40, li_41, li_42, li_43, li_44, li_45, li_46, li_47, li_48, li_49, li_50, li_51, li_52, li_53, li_54, li_55, li_56, li_57, li_58, li_59, li_60, li_61, li_62, li_63, li_64, li_65, li_66, li_96, li_97, li_99, li_100, li_122, li_125, li_126, li_140, li_255, li_256, li_999, li_1000, li_1001, li_1002, li_1100, li_1386, li_1452, li_1518, li_9999, li_1000000, nm_eq, w_in, bd_s, n10, ↓reduceIte, es, oI]
  · have h3 := bad4 (n := 3) (by omega) hx
    refine ⟨mI 2, S, sI v 0 (nI 0), ?_, ?_, RR_q hA hC hM (scr_refl p S) (q1 v)⟩
    · simp only [f_X12_judged, f_X12_judged_0, f_X12_judged_9, ↓lm_1, ↓lm_2, ↓lm_3, ↓lm_4, ↓lm_5, ↓lm_6, ↓lm_7, ↓lm_8, ↓lm_9, ↓lm_10, ↓lm_11, li_0, li_1, li_2, li_3, li_4, li_5, li_6, li_7, li_8, li_9, li_10, li_11, li_12, li_13, li_14, li_15, li_16, li_17, li_18, li_19, li_20, li_21, li_22, li_23, li_24, li_25, li_26, li_27, li_28, li_29, li_30, li_31, li_32, li_33, li_34, li_35, li_36, li_37, li_38, li_39, li_40, li_41, li_42, li_43, li_44, li_45, li_46, li_47, li_48, li_49, li_50, li_51, li_52, li_53, li_54, li_55, li_56, li_57, li_58, li_59, li_60, li_61, li_62, li_63, li_64, li_65, li_66, li_96, li_97, li_99, li_100, li_122, li_125, li_126, li_140, li_255, li_256, li_999, li_1000, li_1001, li_1002, li_1100, li_1386, li_1452, li_1518, li_9999, li_1000000]
      rcases h3 with c | ⟨c1, c2⟩
      · rw [if_pos c]
      · rw [if_neg c1, if_neg]
        intro c
        have a2 : (nI 2).toInt = 2 := by decide
        have a3 : (nI 3).toInt = 3 := by decide
        rw [Int32.le_iff_toInt_le] at c
        rw [Int32.lt_iff_toInt_lt] at c2
        omega
    · simp (disch := omega) only [f_X13_judged, f_X13_judged_0, ↓lm_1, ↓lm_2, ↓lm_3, ↓lm_4, ↓lm_5, ↓lm_6, ↓lm_7, ↓lm_8, ↓lm_9, ↓lm_10, ↓lm_11, li_0, li_1, li_2, li_3, li_4, li_5, li_6, li_7, li_8, li_9, li_10, li_11, li_12, li_13, li_14, li_15, li_16, li_17, li_18, li_19, li_20, li_21, li_22, li_23, li_24, li_25, li_26, li_27, li_28, li_29, li_30, li_31, li_32, li_33, li_34, li_35, li_36, li_37, li_38, li_39, li_40, li_41, li_42, li_43, li_44, li_45, li_46, li_47, li_48, li_49, li_50, li_51, li_52, li_53, li_54, li_55, li_56, li_57, li_58, li_59, li_60, li_61, li_62, li_63, li_64, li_65, li_66, li_96, li_97, li_99, li_100, li_122, li_125, li_126, li_140, li_255, li_256, li_999, li_1000, li_1001, li_1002, li_1100, li_1386, li_1452, li_1518, li_9999, li_1000000, nm_eq, w_out hx, bd_s, ↓reduceIte]
end J
