/-! ===== all tokens ===== -/
section CUT
variable {fu : Nat} {T : TP}
theorem rl_pos {P : Nat → Bool} {len k : Nat} (hk : k < len) (h : P k = true) : 1 ≤ rl P len (len - k) k := by
  obtain ⟨m, hm⟩ : ∃ m, len - k = m + 1 := ⟨len - k - 1, by omega⟩
  rw [hm, rl, if_pos ⟨hk, h⟩]; omega
/-- the token that begins at k, by the class and by the model -/
theorem cut_tok (hf : 1101 ≤ fu) (hT : okT T) {w v : GV} (h6 : gI w 6 = nI T.1) (h0 : ∀ j, j < T.1 → gA w 0 j = nI (T.2 j)) (h3 : gI v 3 = nI T.1) (h1 : ∀ j, j < T.1 → gA v 1 j = nI (T.2 j)) {k m : Nat} (hk : k < T.1) (h4 : gI w 4 = nI m) (hm : m < 1001) (hb : T.2 k ≠ 10 ∧ T.2 k ≠ 32) : ∃ kd c e z z', k < e ∧ e ≤ T.1 ∧ okt kd k c ∧ kd ≠ 0 ∧ (kd = 1 ∨ kd = 2 ∨ kd = 3 → z = lN c) ∧ (kd = 1 ∨ kd = 2 ∨ kd = 3 → z' = lN (if kd = 1 then cv c else c)) ∧ f_X8_scan fu w (nI k) = some (nI e, atk w m (nI (ckd kd c)) (nI k) z) ∧ ∀ k17, f_X13_cutAll_17s fu k17 (nI m) (nI k) v = k17 (nI (m + 1)) (nI e) (mtk v m (nI kd) (nI k) z') := by
  have hT1 := hT.1
  have hc := hT.2 k hk
  have hc128 : T.2 k < 128 := by omega
  have c1 : ¬ nI T.1 ≤ nI k := nI_ge hk (by omega)
  have b10 : ¬ nI (T.2 k) = nI 10 := by rw [nI_eq (by omega) (by omega)]; exact hb.1
  have b32 : ¬ nI (T.2 k) = nI 32 := by rw [nI_eq (by omega) (by omega)]; exact hb.2
  cases hl : isl (T.2 k) with
  | true =>
    have hle := rl_le (fun i => isl (T.2 i)) T.1 (T.1 - k) k (by omega)
    have hpos := rl_pos (P := fun i => isl (T.2 i)) hk hl
    have hin := rl_in (fun i => isl (T.2 i)) T.1 (T.1 - k) k
    obtain ⟨z, hz, es⟩ := x8_word (fu := fu) (w := w) (m := m) hf hT h6 h0 hk h4 hm rfl
    have em := m_word (fu := fu) (v := v) (m := m) hf hT h3 h1 hk hm rfl
    generalize rl (fun i => isl (T.2 i)) T.1 (T.1 - k) k = L at *
    refine ⟨if L ≤ 8 then 1 else 4, pkd T.2 k L, k + L, z, lN (cv (pkd T.2 k (min L 8))), by omega, hle, ?_, by split <;> decide, fun q => ?_, fun q => ?_, ?_, fun k17 => ?_⟩
    · refine ⟨by split <;> decide, by omega, fun q => ?_, fun q => ?_, fun q => ?_⟩
      · have c8 : L ≤ 8 := by
          apply Classical.byContradiction
          intro z; rw [if_neg z] at q; omega
        refine ⟨wdk_le (pkd_w L (fun i hi => (hin i hi).2)) c8, ?_⟩
        obtain ⟨j, rfl⟩ : ∃ j, L = j + 1 := ⟨L - 1, by omega⟩
        have := of_decide_eq_true (hin j (by omega)).2
        simp only [pkd]; omega
      · split at q <;> omega
      · split at q <;> omega
    · refine hz ?_
      apply Classical.byContradiction
      intro z; rw [if_neg z] at q; omega
    · have c8 : L ≤ 8 := by
        apply Classical.byContradiction
        intro z; rw [if_neg z] at q; omega
      rw [if_pos c8, if_pos rfl, show min L 8 = L by omega]
    · simp (disch := omega) only [f_X8_scan, f_X8_scan_0, ↓lm_1, ↓lm_2, ↓lm_3, ↓lm_4, ↓lm_5, ↓lm_6, ↓lm_7, ↓lm_8, ↓lm_9, ↓lm_10, ↓lm_11, li_0, li_1, li_2, li_3, li_4, li_5, li_6, li_7, li_8, li_9, li_10, li_11, li_12, li_13, li_14, li_15, li_16, li_17, li_18, li_19, li_20, li_21, li_22, li_23, li_24, li_25, li_26, li_27, li_28, li_29, li_30, li_31, li_32, li_33, li_34, li_35, li_36, li_37, li_38, li_39, li_40, li_41, li_42, li_43, li_44, li_45, li_46, li_47, li_48, li_49, li_50, li_51, li_52, li_53, li_54, li_55, li_56, li_57, li_58, li_59, li_60, li_61, li_62, li_63, li_64, li_65, li_66, li_96, li_97, li_99, li_100, li_122, li_125, li_126, li_140, li_255, li_256, li_999, li_1000, li_1001, li_1002, li_1100, li_1386, li_1452, li_1518, li_9999, li_1000000, inb_n, ck_t, nI_clamp, ↓nm_eq, h0 k hk, x8_isLetter hc128, hl, b01_t, bd_s, n10, ↓reduceIte, es, bd2_s]
    · have em' := em k17
      simp (disch := omega) only [f_X13_cutAll_17s, ↓lm_1, ↓lm_2, ↓lm_3, ↓lm_4, ↓lm_5, ↓lm_6, ↓lm_7, ↓lm_8, ↓lm_9, ↓lm_10, ↓lm_11, li_0, li_1, li_2, li_3, li_4, li_5, li_6, li_7, li_8, li_9, li_10, li_11, li_12, li_13, li_14, li_15, li_16, li_17, li_18, li_19, li_20, li_21, li_22, li_23, li_24, li_25, li_26, li_27, li_28, li_29, li_30, li_31, li_32, li_33, li_34, li_35, li_36, li_37, li_38, li_39, li_40, li_41, li_42, li_43, li_44, li_45, li_46, li_47, li_48, li_49, li_50, li_51, li_52, li_53, li_54, li_55, li_56, li_57, li_58, li_59, li_60, li_61, li_62, li_63, li_64, li_65, li_66, li_96, li_97, li_99, li_100, li_122, li_125, li_126, li_140, li_255, li_256, li_999, li_1000, li_1001, li_1002, li_1100, li_1386, li_1452, li_1518, li_9999, li_1000000, h3, c1, ↓reduceIte, inb_n, ck_t, nI_clamp, ↓nm_eq, h1 k hk, b10, b32, x13_isLetter hc128, hl, b01_t, bd_s, n10, ll_0]
      exact em'
  | false =>
    cases hd : isd (T.2 k) with
    | true =>
      have hle := rl_le (fun i => isd (T.2 i)) T.1 (T.1 - k) k (by omega)
      have hpos := rl_pos (P := fun i => isd (T.2 i)) hk hd
      have hin := rl_in (fun i => isd (T.2 i)) T.1 (T.1 - k) k
      have es := x8_num (fu := fu) (w := w) (m := m) hf hT h6 h0 hk h4 hm rfl
      have em := m_num (fu := fu) (v := v) (m := m) hf hT h3 h1 hk hm rfl
      generalize rl (fun i => isd (T.2 i)) T.1 (T.1 - k) k = L at *
      refine ⟨if L ≤ 4 then 2 else 4, pnd T.2 k L, k + L, _, lN (pnd T.2 k (min L 4)), by omega, hle, ?_, by split <;> decide, fun q => rfl, fun q => ?_, ?_, fun k17 => ?_⟩
      · refine ⟨by split <;> decide, by omega, fun q => ?_, fun q => ?_, fun q => ?_⟩
        · split at q <;> omega
        · have c8 : L ≤ 4 := by
            apply Classical.byContradiction
            intro z; rw [if_neg z] at q; omega
          have h1 := pnd_lt L (fun i hi => (hin i hi).2)
          have h2 : 10 ^ L ≤ 10 ^ 4 := Nat.pow_le_pow_right (by decide) c8
          have h4 : (10 : Nat) ^ 4 = 10000 := by decide
          omega
        · split at q <;> omega
      · have c8 : L ≤ 4 := by
          apply Classical.byContradiction
          intro z; rw [if_neg z] at q; omega
        rw [if_pos c8, if_neg (by decide), show min L 4 = L by omega]
      · simp (disch := omega) only [f_X8_scan, f_X8_scan_0, ↓lm_1, ↓lm_2, ↓lm_3, ↓lm_4, ↓lm_5, ↓lm_6, ↓lm_7, ↓lm_8, ↓lm_9, ↓lm_10, ↓lm_11, li_0, li_1, li_2, li_3, li_4, li_5, li_6, li_7, li_8, li_9, li_10, li_11, li_12, li_13, li_14, li_15, li_16, li_17, li_18, li_19, li_20, li_21, li_22, li_23, li_24, li_25, li_26, li_27, li_28, li_29, li_30, li_31, li_32, li_33, li_34, li_35, li_36, li_37, li_38, li_39, li_40, li_41, li_42, li_43, li_44, li_45, li_46, li_47, li_48, li_49, li_50, li_51, li_52, li_53, li_54, li_55, li_56, li_57, li_58, li_59, li_60, li_61, li_62, li_63, li_64, li_65, li_66, li_96, li_97, li_99, li_100, li_122, li_125, li_126, li_140, li_255, li_256, li_999, li_1000, li_1001, li_1002, li_1100, li_1386, li_1452, li_1518, li_9999, li_1000000, inb_n, ck_t, nI_clamp, ↓nm_eq, h0 k hk, x8_isLetter hc128, x8_isDigit hc128, hl, hd, b01_t, b01_f, bd_s, n10, ↓reduceIte, es, bd2_s]
      · have em' := em k17
        simp (disch := omega) only [f_X13_cutAll_17s, ↓lm_1, ↓lm_2, ↓lm_3, ↓lm_4, ↓lm_5, ↓lm_6, ↓lm_7, ↓lm_8, ↓lm_9, ↓lm_10, ↓lm_11, li_0, li_1, li_2, li_3, li_4, li_5, li_6, li_7, li_8, li_9, li_10, li_11, li_12, li_13, li_14, li_15, li_16, li_17, li_18, li_19, li_20, li_21, li_22, li_23, li_24, li_25, li_26, li_27, li_28, li_29, li_30, li_31, li_32, li_33, li_34, li_35, li_36, li_37, li_38, li_39, li_40, li_41, li_42, li_43, li_44, li_45, li_46, li_47, li_48, li_49, li_50, li_51, li_52, li_53, li_54, li_55, li_56, li_57, li_58, li_59, li_60, li_61, li_62, li_63, li_64, li_65, li_66, li_96, li_97, li_99, li_100, li_122, li_125, li_126, li_140, li_255, li_256, li_999, li_1000, li_1001, li_1002, li_1100, li_1386, li_1452, li_1518, li_9999, li_1000000, h3, c1, ↓reduceIte, inb_n, ck_t, nI_clamp, ↓nm_eq, h1 k hk, b10, b32, x13_isLetter hc128, x13_isDigit hc128, hl, hd, b01_t, b01_f, bd_s, n10, ll_0]
        exact em'
    | false =>
      obtain ⟨y, ey, hy⟩ := x_indexOf (fu := fu) hf hc128
      have lz : (nI (T.2 k)).toInt64 = lN (T.2 k) := nI_l (by omega)
      have at' : ∀ x, f_X8_scan_48 fu w (nI k) (nI (T.2 k)) x = some (nI (k + 1), atk w m x (nI k) (lN (T.2 k))) := by
        intro x
        simp only [f_X8_scan_48, ↓lm_1, ↓lm_2, ↓lm_3, ↓lm_4, ↓lm_5, ↓lm_6, ↓lm_7, ↓lm_8, ↓lm_9, ↓lm_10, ↓lm_11, li_0, li_1, li_2, li_3, li_4, li_5, li_6, li_7, li_8, li_9, li_10, li_11, li_12, li_13, li_14, li_15, li_16, li_17, li_18, li_19, li_20, li_21, li_22, li_23, li_24, li_25, li_26, li_27, li_28, li_29, li_30, li_31, li_32, li_33, li_34, li_35, li_36, li_37, li_38, li_39, li_40, li_41, li_42, li_43, li_44, li_45, li_46, li_47, li_48, li_49, li_50, li_51, li_52, li_53, li_54, li_55, li_56, li_57, li_58, li_59, li_60, li_61, li_62, li_63, li_64, li_65, li_66, li_96, li_97, li_99, li_100, li_122, li_125, li_126, li_140, li_255, li_256, li_999, li_1000, li_1001, li_1002, li_1100, li_1386, li_1452, li_1518, li_9999, li_1000000, lz, x8_addToken h4 hm, bd_s, nI_add]
      cases hg : isg (T.2 k) with
      | true =>
        rw [hg] at hy
        have hy' : ¬ y < nI 0 := fun q => absurd (hy.mp q) (by decide)
        refine ⟨3, T.2 k, k + 1, lN (T.2 k), lN (T.2 k), by omega, by omega, ⟨by decide, by omega, fun q => by omega, fun q => by omega, fun _ => hc128⟩, by decide, fun _ => rfl, fun _ => rfl, ?_, fun k17 => ?_⟩
        · simp (disch := omega) only [f_X8_scan, f_X8_scan_0, ↓lm_1, ↓lm_2, ↓lm_3, ↓lm_4, ↓lm_5, ↓lm_6, ↓lm_7, ↓lm_8, ↓lm_9, ↓lm_10, ↓lm_11, li_0, li_1, li_2, li_3, li_4, li_5, li_6, li_7, li_8, li_9, li_10, li_11, li_12, li_13, li_14, li_15, li_16, li_17, li_18, li_19, li_20, li_21, li_22, li_23, li_24, li_25, li_26, li_27, li_28, li_29, li_30, li_31, li_32, li_33, li_34, li_35, li_36, li_37, li_38, li_39, li_40, li_41, li_42, li_43, li_44, li_45, li_46, li_47, li_48, li_49, li_50, li_51, li_52, li_53, li_54, li_55, li_56, li_57, li_58, li_59, li_60, li_61, li_62, li_63, li_64, li_65, li_66, li_96, li_97, li_99, li_100, li_122, li_125, li_126, li_140, li_255, li_256, li_999, li_1000, li_1001, li_1002, li_1100, li_1386, li_1452, li_1518, li_9999, li_1000000, inb_n, ck_t, nI_clamp, ↓nm_eq, h0 k hk, x8_isLetter hc128, x8_isDigit hc128, hl, hd, b01_f, bd_s, ↓reduceIte, ey, hy', at']
          rfl
        · simp (disch := omega) only [f_X13_cutAll_17s, f_X13_cutAll_261, f_X13_cutAll_265, ↓lm_1, ↓lm_2, ↓lm_3, ↓lm_4, ↓lm_5, ↓lm_6, ↓lm_7, ↓lm_8, ↓lm_9, ↓lm_10, ↓lm_11, li_0, li_1, li_2, li_3, li_4, li_5, li_6, li_7, li_8, li_9, li_10, li_11, li_12, li_13, li_14, li_15, li_16, li_17, li_18, li_19, li_20, li_21, li_22, li_23, li_24, li_25, li_26, li_27, li_28, li_29, li_30, li_31, li_32, li_33, li_34, li_35, li_36, li_37, li_38, li_39, li_40, li_41, li_42, li_43, li_44, li_45, li_46, li_47, li_48, li_49, li_50, li_51, li_52, li_53, li_54, li_55, li_56, li_57, li_58, li_59, li_60, li_61, li_62, li_63, li_64, li_65, li_66, li_96, li_97, li_99, li_100, li_122, li_125, li_126, li_140, li_255, li_256, li_999, li_1000, li_1001, li_1002, li_1100, li_1386, li_1452, li_1518, li_9999, li_1000000, h3, c1, ↓reduceIte, inb_n, ck_t, nI_clamp, ↓nm_eq, h1 k hk, b10, b32, x13_isLetter hc128, x13_isDigit hc128, x13_isSignOf hc128, hl, hd, hg, b01_t, b01_f, bd_s, n10, lz, nI_add, mtk]
      | false =>
        rw [hg] at hy
        have hy' : y < nI 0 := hy.mpr rfl
        refine ⟨4, T.2 k, k + 1, lN (T.2 k), lN (T.2 k), by omega, by omega, ⟨by decide, by omega, fun q => by omega, fun q => by omega, fun q => by omega⟩, by decide, fun _ => rfl, fun _ => rfl, ?_, fun k17 => ?_⟩
        · simp (disch := omega) only [f_X8_scan, f_X8_scan_0, ↓lm_1, ↓lm_2, ↓lm_3, ↓lm_4, ↓lm_5, ↓lm_6, ↓lm_7, ↓lm_8, ↓lm_9, ↓lm_10, ↓lm_11, li_0, li_1, li_2, li_3, li_4, li_5, li_6, li_7, li_8, li_9, li_10, li_11, li_12, li_13, li_14, li_15, li_16, li_17, li_18, li_19, li_20, li_21, li_22, li_23, li_24, li_25, li_26, li_27, li_28, li_29, li_30, li_31, li_32, li_33, li_34, li_35, li_36, li_37, li_38, li_39, li_40, li_41, li_42, li_43, li_44, li_45, li_46, li_47, li_48, li_49, li_50, li_51, li_52, li_53, li_54, li_55, li_56, li_57, li_58, li_59, li_60, li_61, li_62, li_63, li_64, li_65, li_66, li_96, li_97, li_99, li_100, li_122, li_125, li_126, li_140, li_255, li_256, li_999, li_1000, li_1001, li_1002, li_1100, li_1386, li_1452, li_1518, li_9999, li_1000000, inb_n, ck_t, nI_clamp, ↓nm_eq, h0 k hk, x8_isLetter hc128, x8_isDigit hc128, hl, hd, b01_f, bd_s, ↓reduceIte, ey, hy', at']
          rfl
        · simp (disch := omega) only [f_X13_cutAll_17s, f_X13_cutAll_261, f_X13_cutAll_265, ↓lm_1, ↓lm_2, ↓lm_3, ↓lm_4, ↓lm_5, ↓lm_6, ↓lm_7, ↓lm_8, ↓lm_9, ↓lm_10, ↓lm_11, li_0, li_1, li_2, li_3, li_4, li_5, li_6, li_7, li_8, li_9, li_10, li_11, li_12, li_13, li_14, li_15, li_16, li_17, li_18, li_19, li_20, li_21, li_22, li_23, li_24, li_25, li_26, li_27, li_28, li_29, li_30, li_31, li_32, li_33, li_34, li_35, li_36, li_37, li_38, li_39, li_40, li_41, li_42, li_43, li_44, li_45, li_46, li_47, li_48, li_49, li_50, li_51, li_52, li_53, li_54, li_55, li_56, li_57, li_58, li_59, li_60, li_61, li_62, li_63, li_64, li_65, li_66, li_96, li_97, li_99, li_100, li_122, li_125, li_126, li_140, li_255, li_256, li_999, li_1000, li_1001, li_1002, li_1100, li_1386, li_1452, li_1518, li_9999, li_1000000, h3, c1, ↓reduceIte, inb_n, ck_t, nI_clamp, ↓nm_eq, h1 k hk, b10, b32, x13_isLetter hc128, x13_isDigit hc128, x13_isSignOf hc128, hl, hd, hg, b01_f, bd_s, lz, nI_add, mtk]
theorem cut_all (hf : 1101 ≤ fu) (hT : okT T) : ∀ r k i m (kd pl vl : Nat → Nat) (w v : GV) n1 n2, T.1 - k ≤ r → k ≤ T.1 → m ≤ k → i ≤ k → T.1 - k < n1 → T.1 - k < n2 → gC w = 8 → gI w 6 = nI T.1 → (∀ j, j < T.1 → gA w 0 j = nI (T.2 j)) → gI w 4 = nI m → gI w 5 = nI 0 → gI w 7 = nI 0 → gI v 3 = nI T.1 → (∀ j, j < T.1 → gA v 1 j = nI (T.2 j)) → (∀ j, j < m → CKt w j (kd j) (pl j) (vl j) ∧ MKt v j (kd j) (pl j) (vl j) ∧ okt (kd j) (pl j) (vl j) ∧ kd j ≠ 0) → ∃ K w' v', f_X8_open_19 fu n1 (nI k) (nI i) w = some w' ∧ f_X13_cutAll_17 fu n2 (nI m) (nI k) v = some v' ∧ okK K ∧ CK w' K 0 0 ∧ MK v' K 0 0 ∧ tcu w w' ∧ mcu v v' := by
  have hT1 := hT.1
  intro r
  induction r with
  | zero =>
    intro k i m kd pl vl w v n1 n2 hr hk hmk hik hn1 hn2 hc h6 h0 h4 h5 h7 h3 h1 hp
    obtain ⟨n1, rfl⟩ : ∃ n, n1 = n + 1 := ⟨n1 - 1, by omega⟩
    obtain ⟨n2, rfl⟩ : ∃ n, n2 = n + 1 := ⟨n2 - 1, by omega⟩
    have hkk : k = T.1 := by omega
    subst hkk
    have u := atk_u w m (nI 0) (nI T.1) (lN 0)
    refine ⟨(m, upN kd m 0, upN pl m T.1, vl), atk w m (nI 0) (nI T.1) (lN 0), sI (sI (sA (sA v 4 m (nI 0)) 5 m (nI T.1)) 7 (nI 0)) 8 (nI 0), ?_, ?_, ⟨?_, ?_, fun j hj => ?_⟩, ⟨hc, ?_, ?_, fun j hj => ?_⟩, ⟨?_, ?_, fun j hj => ?_⟩, u.1, ?_⟩
    · have c1 : nI T.1 ≤ nI T.1 := nI_le (by omega) (by omega)
      simp only [f_X8_open_19, lq3_s, f_X8_open_19s, f_X8_open_64, ↓lm_1, ↓lm_2, ↓lm_3, ↓lm_4, ↓lm_5, ↓lm_6, ↓lm_7, ↓lm_8, ↓lm_9, ↓lm_10, ↓lm_11, li_0, li_1, li_2, li_3, li_4, li_5, li_6, li_7, li_8, li_9, li_10, li_11, li_12, li_13, li_14, li_15, li_16, li_17, li_18, li_19, li_20, li_21, li_22, li_23, li_24, li_25, li_26, li_27, li_28, li_29, li_30, li_31, li_32, li_33, li_34, li_35, li_36, li_37, li_38, li_39, li_40, li_41, li_42, li_43, li_44, li_45, li_46, li_47, li_48, li_49, li_50, li_51, li_52, li_53, li_54, li_55, li_56, li_57, li_58, li_59, li_60, li_61, li_62, li_63, li_64, li_65, li_66, li_96, li_97, li_99, li_100, li_122, li_125, li_126, li_140, li_255, li_256, li_999, li_1000, li_1001, li_1002, li_1100, li_1386, li_1452, li_1518, li_9999, li_1000000, h6, c1, ↓reduceIte, ll_0, x8_addToken h4 (show m < 1001 by omega), bd_s, ite_self]
    · have c1 : nI T.1 ≤ nI T.1 := nI_le (by omega) (by omega)
      simp (disch := omega) only [f_X13_cutAll_17, lq3_s, f_X13_cutAll_17s, ↓lm_1, ↓lm_2, ↓lm_3, ↓lm_4, ↓lm_5, ↓lm_6, ↓lm_7, ↓lm_8, ↓lm_9, ↓lm_10, ↓lm_11, li_0, li_1, li_2, li_3, li_4, li_5, li_6, li_7, li_8, li_9, li_10, li_11, li_12, li_13, li_14, li_15, li_16, li_17, li_18, li_19, li_20, li_21, li_22, li_23, li_24, li_25, li_26, li_27, li_28, li_29, li_30, li_31, li_32, li_33, li_34, li_35, li_36, li_37, li_38, li_39, li_40, li_41, li_42, li_43, li_44, li_45, li_46, li_47, li_48, li_49, li_50, li_51, li_52, li_53, li_54, li_55, li_56, li_57, li_58, li_59, li_60, li_61, li_62, li_63, li_64, li_65, li_66, li_96, li_97, li_99, li_100, li_122, li_125, li_126, li_140, li_255, li_256, li_999, li_1000, li_1001, li_1002, li_1100, li_1386, li_1452, li_1518, li_9999, li_1000000, h3, c1, ↓reduceIte, inb_n, ck_t, nI_clamp, nm_eq, gI_sA]
    · show m ≤ 1000; omega
    · show upN kd m 0 m = 0; exact upN_s
    · have hj : j ≤ m := hj
      show okt (upN kd m 0 j) (upN pl m T.1 j) (vl j) ∧ (j < m → upN kd m 0 j ≠ 0)
      by_cases e : j = m
      · subst e; rw [upN_s, upN_s]; exact ⟨⟨by decide, by omega, fun q => by omega, fun q => by omega, fun q => by omega⟩, fun q => by omega⟩
      · rw [upN_n e, upN_n e]; exact ⟨(hp j (by omega)).2.2.1, fun _ => (hp j (by omega)).2.2.2⟩
    · rw [u.2.2.1]; exact h5
    · rw [u.2.2.2]; exact h7
    · have hj : j ≤ m := hj
      show CKt (atk w m (nI 0) (nI T.1) (lN 0)) j (upN kd m 0 j) (upN pl m T.1 j) (vl j)
      by_cases e : j = m
      · subst e; rw [upN_s, upN_s]; exact atk_n (k := 0) (fun q => by omega)
      · rw [upN_n e, upN_n e]; exact atk_t (hp j (by omega)).1 (by omega)
    · rw [gI_sI, if_neg (by decide), gI_sI, if_pos rfl]
    · rw [gI_sI, if_pos rfl]
    · have hj : j ≤ m := hj
      show MKt _ j (upN kd m 0 j) (upN pl m T.1 j) (vl j)
      by_cases e : j = m
      · subst e
        rw [upN_s, upN_s]
        refine ⟨?_, ?_, fun q => by omega⟩
        · rw [gA_sI, gA_sI, gA_sAn _ _ _ (by decide), gA_sA, if_pos rfl]
        · rw [gA_sI, gA_sI, gA_sA, if_pos rfl]
      · rw [upN_n e, upN_n e]
        obtain ⟨a1, a2, a3⟩ := (hp j (by omega)).2.1
        refine ⟨?_, ?_, a3⟩
        · rw [gA_sI, gA_sI, gA_sAn _ _ _ (by decide), gA_sA, if_neg e]; exact a1
        · rw [gA_sI, gA_sI, gA_sA, if_neg e, gA_sAn _ _ _ (by decide)]; exact a2
    · refine ⟨fun x a b => ?_, fun x a b => ?_, fun x a => rfl, rfl⟩
      · rw [gA_sI, gA_sI, gA_sAn _ _ _ (by omega), gA_sAn _ _ _ (by omega)]
      · rw [gI_sI, if_neg b, gI_sI, if_neg a]; rfl
  | succ r ih =>
    intro k i m kd pl vl w v n1 n2 hr hk hmk hik hn1 hn2 hc h6 h0 h4 h5 h7 h3 h1 hp
    by_cases hkk : k = T.1
    · exact ih k i m kd pl vl w v n1 n2 (by omega) hk hmk hik hn1 hn2 hc h6 h0 h4 h5 h7 h3 h1 hp
    · obtain ⟨n1, rfl⟩ : ∃ n, n1 = n + 1 := ⟨n1 - 1, by omega⟩
      obtain ⟨n2, rfl⟩ : ∃ n, n2 = n + 1 := ⟨n2 - 1, by omega⟩
      have hkl : k < T.1 := by omega
      have hch := hT.2 k hkl
      have c1 : ¬ nI T.1 ≤ nI k := nI_ge hkl (by omega)
      have c2 : ¬ nI 1000 ≤ nI i := nI_ge (by omega) (by omega)
      by_cases hb : T.2 k = 10 ∨ T.2 k = 32
      · obtain ⟨K, w', v', k1, k2, k3⟩ := ih (k + 1) (i + 1) m kd pl vl w v n1 n2 (by omega) (by omega) (by omega) (by omega) (by omega) (by omega) hc h6 h0 h4 h5 h7 h3 h1 hp
        refine ⟨K, w', v', ?_, ?_, k3⟩
        · have eb : f_X8_isBlank fu (nI (T.2 k)) = some (nI 1) := by
            simp (disch := omega) only [f_X8_isBlank, f_X8_isBlank_0, f_X8_isBlank_12, ↓lm_1, ↓lm_2, ↓lm_3, ↓lm_4, ↓lm_5, ↓lm_6, ↓lm_7, ↓lm_8, ↓lm_9, ↓lm_10, ↓lm_11, li_0, li_1, li_2, li_3, li_4, li_5, li_6, li_7, li_8, li_9, li_10, li_11, li_12, li_13, li_14, li_15, li_16, li_17, li_18, li_19, li_20, li_21, li_22, li_23, li_24, li_25, li_26, li_27, li_28, li_29, li_30, li_31, li_32, li_33, li_34, li_35, li_36, li_37, li_38, li_39, li_40, li_41, li_42, li_43, li_44, li_45, li_46, li_47, li_48, li_49, li_50, li_51, li_52, li_53, li_54, li_55, li_56, li_57, li_58, li_59, li_60, li_61, li_62, li_63, li_64, li_65, li_66, li_96, li_97, li_99, li_100, li_122, li_125, li_126, li_140, li_255, li_256, li_999, li_1000, li_1001, li_1002, li_1100, li_1386, li_1452, li_1518, li_9999, li_1000000, nI_eq]
            rcases hb with e | e
            · rw [if_pos e]
            · rw [if_neg (by omega), if_pos e]
          rw [← k1]
          simp (disch := omega) only [f_X8_open_19, lq3_s, f_X8_open_19s, f_X8_open_57, ↓lm_1, ↓lm_2, ↓lm_3, ↓lm_4, ↓lm_5, ↓lm_6, ↓lm_7, ↓lm_8, ↓lm_9, ↓lm_10, ↓lm_11, li_0, li_1, li_2, li_3, li_4, li_5, li_6, li_7, li_8, li_9, li_10, li_11, li_12, li_13, li_14, li_15, li_16, li_17, li_18, li_19, li_20, li_21, li_22, li_23, li_24, li_25, li_26, li_27, li_28, li_29, li_30, li_31, li_32, li_33, li_34, li_35, li_36, li_37, li_38, li_39, li_40, li_41, li_42, li_43, li_44, li_45, li_46, li_47, li_48, li_49, li_50, li_51, li_52, li_53, li_54, li_55, li_56, li_57, li_58, li_59, li_60, li_61, li_62, li_63, li_64, li_65, li_66, li_96, li_97, li_99, li_100, li_122, li_125, li_126, li_140, li_255, li_256, li_999, li_1000, li_1001, li_1002, li_1100, li_1386, li_1452, li_1518, li_9999, li_1000000, h6, c1, c2, ↓reduceIte, inb_n, ck_t, nI_clamp, h0 k hkl, eb, bd_s, n10, nI_add, nm_eq]
        · rw [← k2]
          simp (disch := omega) only [f_X13_cutAll_17, lq3_s, f_X13_cutAll_17s, f_X13_cutAll_44, ↓lm_1, ↓lm_2, ↓lm_3, ↓lm_4, ↓lm_5, ↓lm_6, ↓lm_7, ↓lm_8, ↓lm_9, ↓lm_10, ↓lm_11, li_0, li_1, li_2, li_3, li_4, li_5, li_6, li_7, li_8, li_9, li_10, li_11, li_12, li_13, li_14, li_15, li_16, li_17, li_18, li_19, li_20, li_21, li_22, li_23, li_24, li_25, li_26, li_27, li_28, li_29, li_30, li_31, li_32, li_33, li_34, li_35, li_36, li_37, li_38, li_39, li_40, li_41, li_42, li_43, li_44, li_45, li_46, li_47, li_48, li_49, li_50, li_51, li_52, li_53, li_54, li_55, li_56, li_57, li_58, li_59, li_60, li_61, li_62, li_63, li_64, li_65, li_66, li_96, li_97, li_99, li_100, li_122, li_125, li_126, li_140, li_255, li_256, li_999, li_1000, li_1001, li_1002, li_1100, li_1386, li_1452, li_1518, li_9999, li_1000000, h3, c1, ↓reduceIte, inb_n, ck_t, nI_clamp, ↓nm_eq, h1 k hkl, nI_eq, nI_add]
          rcases hb with e | e
          · rw [if_pos e]
          · rw [if_neg (by omega), if_pos e]
      · obtain ⟨kd', c, e, z, z', t1, t2, t3, t4, t5, t6, t7, t8⟩ := cut_tok (fu := fu) (m := m) hf hT h6 h0 h3 h1 hkl h4 (by omega) ⟨fun q => hb (Or.inl q), fun q => hb (Or.inr q)⟩
        have u := atk_u w m (nI (ckd kd' c)) (nI k) z
        have mu := mtk_u v m (nI kd') (nI k) z'
        obtain ⟨K, w', v', k1, k2, k3, k4, k5, k6, k7⟩ := ih e (i + 1) (m + 1) (upN kd m kd') (upN pl m k) (upN vl m c) (atk w m (nI (ckd kd' c)) (nI k) z) (mtk v m (nI kd') (nI k) z') n1 n2 (by omega) (by omega) (by omega) (by omega) (by omega) (by omega) (by rw [u.1.2.2]; exact hc) (by rw [u.1.2.1]; exact h6) (fun j hj => by rw [u.1.1]; exact h0 j hj) u.2.1 (by rw [u.2.2.1]; exact h5) (by rw [u.2.2.2]; exact h7) (by rw [mu.2.1 3 (by decide) (by decide)]; exact h3) (fun j hj => by rw [mu.1 1 (by decide) (by decide)]; exact h1 j hj) (fun j hj => by
          by_cases q : j = m
          · subst q; rw [upN_s, upN_s, upN_s]; exact ⟨atk_n t5, mtk_n t6, t3, t4⟩
          · rw [upN_n q, upN_n q, upN_n q]
            obtain ⟨a1, a2, a3⟩ := hp j (by omega)
            exact ⟨atk_t a1 (by omega), mtk_t a2 (by omega), a3⟩)
        refine ⟨K, w', v', ?_, ?_, k3, k4, k5, ⟨k6.1.trans u.1.1, k6.2.1.trans u.1.2.1, k6.2.2.trans u.1.2.2⟩, mcu_trans mu k7⟩
        · have eb : f_X8_isBlank fu (nI (T.2 k)) = some (nI 0) := by
            simp (disch := omega) only [f_X8_isBlank, f_X8_isBlank_0, f_X8_isBlank_12, ↓lm_1, ↓lm_2, ↓lm_3, ↓lm_4, ↓lm_5, ↓lm_6, ↓lm_7, ↓lm_8, ↓lm_9, ↓lm_10, ↓lm_11, li_0, li_1, li_2, li_3, li_4, li_5, li_6, li_7, li_8, li_9, li_10, li_11, li_12, li_13, li_14, li_15, li_16, li_17, li_18, li_19, li_20, li_21, li_22, li_23, li_24, li_25, li_26, li_27, li_28, li_29, li_30, li_31, li_32, li_33, li_34, li_35, li_36, li_37, li_38, li_39, li_40, li_41, li_42, li_43, li_44, li_45, li_46, li_47, li_48, li_49, li_50, li_51, li_52, li_53, li_54, li_55, li_56, li_57, li_58, li_59, li_60, li_61, li_62, li_63, li_64, li_65, li_66, li_96, li_97, li_99, li_100, li_122, li_125, li_126, li_140, li_255, li_256, li_999, li_1000, li_1001, li_1002, li_1100, li_1386, li_1452, li_1518, li_9999, li_1000000, nI_eq]
            rw [if_neg (fun q => hb (Or.inl q)), if_neg (fun q => hb (Or.inr q))]
          rw [← k1]
          simp (disch := omega) only [f_X8_open_19, lq3_s, f_X8_open_19s, f_X8_open_57, ↓lm_1, ↓lm_2, ↓lm_3, ↓lm_4, ↓lm_5, ↓lm_6, ↓lm_7, ↓lm_8, ↓lm_9, ↓lm_10, ↓lm_11, li_0, li_1, li_2, li_3, li_4, li_5, li_6, li_7, li_8, li_9, li_10, li_11, li_12, li_13, li_14, li_15, li_16, li_17, li_18, li_19, li_20, li_21, li_22, li_23, li_24, li_25, li_26, li_27, li_28, li_29, li_30, li_31, li_32, li_33, li_34, li_35, li_36, li_37, li_38, li_39, li_40, li_41, li_42, li_43, li_44, li_45, li_46, li_47, li_48, li_49, li_50, li_51, li_52, li_53, li_54, li_55, li_56, li_57, li_58, li_59, li_60, li_61, li_62, li_63, li_64, li_65, li_66, li_96, li_97, li_99, li_100, li_122, li_125, li_126, li_140, li_255, li_256, li_999, li_1000, li_1001, li_1002, li_1100, li_1386, li_1452, li_1518, li_9999, li_1000000, h6, c1, c2, ↓reduceIte, inb_n, ck_t, nI_clamp, h0 k hkl, eb, bd_s, t7, bd2_s, nI_add, nm_eq]
        · rw [← k2, f_X13_cutAll_17, lq3_s, t8]
          rfl
/-- both cut the tape alike -/
theorem cut (hf : 1101 ≤ fu) (hT : okT T) {w v : GV} (hc : gC w = 8) (hC : CT w T) (hM : MT v T) : ∃ K w' v', f_X8_open fu w = some w' ∧ f_X13_cutAll fu v = some v' ∧ okK K ∧ CK w' K 0 0 ∧ MK v' K 0 0 ∧ tcu w w' ∧ mcu (sI (sI v 3 (nI T.1)) 2 (nI 0)) v' := by
  obtain ⟨K, w', v', k1, k2, k3, k4, k5, k6, k7⟩ := cut_all (fu := fu) hf hT T.1 0 0 0 (fun _ => 0) (fun _ => 0) (fun _ => 0) (sI (sI (sI w 4 (nI 0)) 5 (nI 0)) 7 (nI 0)) (sI (sI v 3 (nI T.1)) 2 (nI 0)) fu fu (by omega) (by omega) (by omega) (by omega) (by have := hT.1; omega) (by have := hT.1; omega) hc (by simp only [gI_sI, ↓reduceIte, Nat.reduceEqDiff, Nat.reduceAdd, Nat.reduceSub, Nat.reduceMul, Nat.reduceLT, Nat.reduceLeDiff, reduceCtorEq, Nat.add_zero, Nat.zero_add, ne_eq, not_true_eq_false, not_false_eq_true, Nat.succ_ne_self, Nat.zero_ne_one, Nat.one_ne_zero, decide_true, decide_false, Bool.false_eq_true, and_true, true_and, and_self, and_false, false_and]; exact hC.1) hC.2 (by simp only [gI_sI, ↓reduceIte, Nat.reduceEqDiff, Nat.reduceAdd, Nat.reduceSub, Nat.reduceMul, Nat.reduceLT, Nat.reduceLeDiff, reduceCtorEq, Nat.add_zero, Nat.zero_add, ne_eq, not_true_eq_false, not_false_eq_true, Nat.succ_ne_self, Nat.zero_ne_one, Nat.one_ne_zero, decide_true, decide_false, Bool.false_eq_true, and_true, true_and, and_self, and_false, false_and]) (by simp only [gI_sI, ↓reduceIte, Nat.reduceEqDiff, Nat.reduceAdd, Nat.reduceSub, Nat.reduceMul, Nat.reduceLT, Nat.reduceLeDiff, reduceCtorEq, Nat.add_zero, Nat.zero_add, ne_eq, not_true_eq_false, not_false_eq_true, Nat.succ_ne_self, Nat.zero_ne_one, Nat.one_ne_zero, decide_true, decide_false, Bool.false_eq_true, and_true, true_and, and_self, and_false, false_and]) (by simp only [gI_sI, ↓reduceIte, Nat.reduceEqDiff, Nat.reduceAdd, Nat.reduceSub, Nat.reduceMul, Nat.reduceLT, Nat.reduceLeDiff, reduceCtorEq, Nat.add_zero, Nat.zero_add, ne_eq, not_true_eq_false, not_false_eq_true, Nat.succ_ne_self, Nat.zero_ne_one, Nat.one_ne_zero, decide_true, decide_false, Bool.false_eq_true, and_true, true_and, and_self, and_false, false_and]) (by simp only [gI_sI, ↓reduceIte, Nat.reduceEqDiff, Nat.reduceAdd, Nat.reduceSub, Nat.reduceMul, Nat.reduceLT, Nat.reduceLeDiff, reduceCtorEq, Nat.add_zero, Nat.zero_add, ne_eq, not_true_eq_false, not_false_eq_true, Nat.succ_ne_self, Nat.zero_ne_one, Nat.one_ne_zero, decide_true, decide_false, Bool.false_eq_true, and_true, true_and, and_self, and_false, false_and]) hM.2 (fun j hj => by omega)
  refine ⟨K, w', v', ?_, ?_, k3, k4, k5, ⟨k6.1, ?_, k6.2.2⟩, k7⟩
  · rw [← k1]
    simp only [f_X8_open, f_X8_open_0, ↓lm_1, ↓lm_2, ↓lm_3, ↓lm_4, ↓lm_5, ↓lm_6, ↓lm_7, ↓lm_8, ↓lm_9, ↓lm_10, ↓lm_11, li_0, li_1, li_2, li_3, li_4, li_5, li_6, li_7, li_8, li_9, li_10, li_11, li_12, li_13, li_14, li_15, li_16, li_17, li_18, li_19, li_20, li_21, li_22, li_23, li_24, li_25, li_26, li_27, li_28, li_29, li_30, li_31, li_32, li_33, li_34, li_35, li_36, li_37, li_38, li_39, li_40, li_41, li_42, li_43, li_44, li_45, li_46, li_47, li_48, li_49, li_50, li_51, li_52, li_53, li_54, li_55, li_56, li_57, li_58, li_59, li_60, li_61, li_62, li_63, li_64, li_65, li_66, li_96, li_97, li_99, li_100, li_122, li_125, li_126, li_140, li_255, li_256, li_999, li_1000, li_1001, li_1002, li_1100, li_1386, li_1452, li_1518, li_9999, li_1000000, nm_eq]
  · rw [← k2]
    simp only [f_X13_cutAll, f_X13_cutAll_0, ↓lm_1, ↓lm_2, ↓lm_3, ↓lm_4, ↓lm_5, ↓lm_6, ↓lm_7, ↓lm_8, ↓lm_9, ↓lm_10, ↓lm_11, li_0, li_1, li_2, li_3, li_4, li_5, li_6, li_7, li_8, li_9, li_10, li_11, li_12, li_13, li_14, li_15, li_16, li_17, li_18, li_19, li_20, li_21, li_22, li_23, li_24, li_25, li_26, li_27, li_28, li_29, li_30, li_31, li_32, li_33, li_34, li_35, li_36, li_37, li_38, li_39, li_40, li_41, li_42, li_43, li_44, li_45, li_46, li_47, li_48, li_49, li_50, li_51, li_52, li_53, li_54, li_55, li_56, li_57, li_58, li_59, li_60, li_61, li_62, li_63, li_64, li_65, li_66, li_96, li_97, li_99, li_100, li_122, li_125, li_126, li_140, li_255, li_256, li_999, li_1000, li_1001, li_1002, li_1100, li_1386, li_1452, li_1518, li_9999, li_1000000, nm_eq, hM.1]
  · rw [k6.2.1]; simp only [gI_sI, ↓reduceIte, Nat.reduceEqDiff, Nat.reduceAdd, Nat.reduceSub, Nat.reduceMul, Nat.reduceLT, Nat.reduceLeDiff, reduceCtorEq, Nat.add_zero, Nat.zero_add, ne_eq, not_true_eq_false, not_false_eq_true, Nat.succ_ne_self, Nat.zero_ne_one, Nat.one_ne_zero, decide_true, decide_false, Bool.false_eq_true, and_true, true_and, and_self, and_false, false_and]
end CUT
