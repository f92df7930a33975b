/-! ===== slips: by chance; how many bits of a larger number ===== -/
def chn (sp : Nat) (c : Nat → Int32) (j : Nat) : Int32 := (if j = 0 then nI 0 else c (j - 1) * nI (sp - (j - 1)) / nI sp) + (if j = sp then nI 0 else c (j + 1) * nI (j + 1) / nI sp)
def chs (sp : Nat) : Nat → Nat → Int32
  | 0 => fun j => if j = 0 then nI 1000000 else nI 0
  | k + 1 => chn sp (chs sp k)
theorem z_add (x : Int32) : nI 0 + x = x := Int32.zero_add x
theorem add_z (x : Int32) : x + nI 0 = x := Int32.add_zero x
theorem scr_p {p : Nat} {S S' : ST} (h : scr p S S') {w : GV} (hc : gC w = gC (S' p)) (hI : ∀ k, gI w k = gI (S' p) k) (hR : ∀ k, gR w k = gR (S' p) k) (hQ : ∀ k, gQ w k = gQ (S' p) k) : scr p S (st S' p w) := by
  refine ⟨fun b h1 h2 h3 h4 h5 h6 => ?_, fun b => ?_, fun k => ?_, fun k => ?_, fun k => ?_⟩
  · rw [st_ne _ _ h1]; exact h.1 b h1 h2 h3 h4 h5 h6
  · by_cases e : b = p
    · subst e; rw [st_same, hc]; exact h.2.1 b
    · rw [st_ne _ _ e]; exact h.2.1 b
  · rw [st_same, hI]; exact h.2.2.1 k
  · rw [st_same, hR]; exact h.2.2.2.1 k
  · rw [st_same, hQ]; exact h.2.2.2.2 k
section C
variable {fu p sp : Nat} {S : ST}
/-- what is shared out after the first m -/
def shr (sp : Nat) (c : Nat → Int32) (m j : Nat) : Int32 := (if 1 ≤ j ∧ j ≤ sp ∧ j ≤ m then c (j - 1) * nI (sp - (j - 1)) / nI sp else nI 0) + (if j + 1 < m ∧ j + 1 ≤ sp then c (j + 1) * nI (j + 1) / nI sp else nI 0)
theorem shr_end {c : Nat → Int32} {j : Nat} (hj : j ≤ sp) (h1 : 1 ≤ sp) : shr sp c (sp + 1) j = chn sp c j := by
  unfold shr chn
  by_cases e : j = 0
  · rw [if_pos e, if_neg (by omega)]
    by_cases e2 : j = sp
    · omega
    · rw [if_neg e2, if_pos (by omega)]
  · rw [if_neg e, if_pos (by omega)]
    by_cases e2 : j = sp
    · rw [if_pos e2, if_neg (by omega)]
    · rw [if_neg e2, if_pos (by omega)]
theorem c_share (hf : 1101 ≤ fu) (h1 : 1 ≤ sp) (h8 : sp ≤ 8) {c N0 : Nat → Int32} {w : GV} (hw : S p = sAf (sAf w 10 c) 11 N0) : ∃ C N, f_X12_shareChances fu S p (nI sp) = some (st S p (sAf (sAf w 10 C) 11 N)) ∧ ∀ j, j ≤ sp → C j = chn sp c j := by
  have key := lpI2 (fun k10 => f_X12_shareChances_10s fu k10 p (nI sp)) (fun m x S' => x = nI m ∧ ∃ N, S' = st S p (sAf (sAf w 10 c) 11 N) ∧ ∀ j, j < 9 → N j = shr sp c m j) (fun r => ∃ C N, r = some (st S p (sAf (sAf w 10 C) 11 N)) ∧ ∀ j, j ≤ sp → C j = chn sp c j) (sp + 1) ?_ ?_ fu 0 (nI 0) (st S p (sAf (sAf w 10 c) 11 (flA N0 9 (nI 0)))) ⟨rfl, _, rfl, fun j hj => ?_⟩ (by omega) (by omega)
  · obtain ⟨r, ⟨C, N, e, h⟩, e2⟩ := key
    refine ⟨C, N, ?_, h⟩
    rw [← e, ← e2]
    simp only [f_X12_shareChances, f_X12_shareChances_0, f_X12_shareChances_10, ↓lm_1, ↓lm_2, ↓lm_3, ↓lm_4, ↓lm_5, ↓lm_6, ↓lm_7, ↓lm_8, ↓lm_9, ↓lm_10, ↓lm_11, li_0, li_1, li_2, li_3, li_4, li_5, li_6, li_7, li_8, li_9, li_10, li_11, li_12, li_13, li_14, li_15, li_16, li_17, li_18, li_19, li_20, li_21, li_22, li_23, li_24, li_25, li_26, li_27, li_28, li_29, li_30, li_31, li_32, li_33, li_34, li_35, li_36, li_37, li_38, li_39, li_40, li_41, li_42, li_43, li_44, li_45, li_46, li_47, li_48, li_49, li_50, li_51, li_52, li_53, li_54, li_55, li_56, li_57, li_58, li_59, li_60, li_61, li_62, li_63, li_64, li_65, li_66, li_96, li_97, li_99, li_100, li_122, li_125, li_126, li_140, li_255, li_256, li_999, li_1000, li_1001, li_1002, li_1100, li_1386, li_1452, li_1518, li_9999, li_1000000, nm_eq, hw, sAf_sAf, gA_sAf]
  · rintro x S' ⟨rfl, N, rfl, hN⟩
    refine ⟨_, ⟨va_cpy N c 0 0 9, N, rfl, fun j hj => ?_⟩, fun rec => ?_⟩
    · rw [pk_cpy_in (by omega) (by omega), Nat.sub_zero, Nat.zero_add, hN j (by omega), shr_end hj h1]
    · have e : nI sp < nI (sp + 1) := nI_lt (by omega) (by omega)
      have cm : sAf (sAf (sAf w 10 c) 11 N) 10 (va_cpy N c 0 0 9) = sAf (sAf w 10 (va_cpy N c 0 0 9)) 11 N := by
        rw [sAf_comm (show (11 : Nat) ≠ 10 by decide), sAf_sAf]
      simp (disch := omega) only [f_X12_shareChances_10s, ↓lm_1, ↓lm_2, ↓lm_3, ↓lm_4, ↓lm_5, ↓lm_6, ↓lm_7, ↓lm_8, ↓lm_9, ↓lm_10, ↓lm_11, li_0, li_1, li_2, li_3, li_4, li_5, li_6, li_7, li_8, li_9, li_10, li_11, li_12, li_13, li_14, li_15, li_16, li_17, li_18, li_19, li_20, li_21, li_22, li_23, li_24, li_25, li_26, li_27, li_28, li_29, li_30, li_31, li_32, li_33, li_34, li_35, li_36, li_37, li_38, li_39, li_40, li_41, li_42, li_43, li_44, li_45, li_46, li_47, li_48, li_49, li_50, li_51, li_52, li_53, li_54, li_55, li_56, li_57, li_58, li_59, li_60, li_61, li_62, li_63, li_64, li_65, li_66, li_96, li_97, li_99, li_100, li_122, li_125, li_126, li_140, li_255, li_256, li_999, li_1000, li_1001, li_1002, li_1100, li_1386, li_1452, li_1518, li_9999, li_1000000, e, ↓reduceIte, st_same, st_st, nm_eq, nI_clamp, gA_sAf, gA_sAfn, cm]
  · rintro m x S' hm ⟨rfl, N, rfl, hN⟩
    have e1 : ¬ nI sp < nI m := nI_nlt (by omega) (by omega)
    have e0 : ¬ nI sp = nI 0 := by rw [nI_eq (by omega) (by omega)]; omega
    refine Or.inl ⟨nI (m + 1), st S p (sAf (sAf w 10 c) 11 (if m = 0 then upd N (m + 1) (N (m + 1) + c m * nI (sp - m) / nI sp) else if m = sp then upd N (m - 1) (N (m - 1) + c m * nI m / nI sp) else upd (upd N (m + 1) (N (m + 1) + c m * nI (sp - m) / nI sp)) (m - 1) (N (m - 1) + c m * nI m / nI sp))), ⟨rfl, _, rfl, fun j hj => ?_⟩, fun rec => ?_⟩
    · have hNm := hN (m + 1)
      by_cases a0 : m = 0
      · rw [if_pos a0]
        by_cases b : j = m + 1
        · rw [b, pk_us, hNm (by omega)]
          simp only [shr]
          rw [if_neg (by omega), if_neg (by omega), if_pos (by omega), if_neg (by omega), z_add, z_add, add_z, Nat.add_sub_cancel]
        · rw [pk_un b, hN j hj]
          simp only [shr]
          rw [if_neg (by omega), if_neg (by omega), if_neg (by omega), if_neg (by omega)]
      · rw [if_neg a0]
        have hNp := hN (m - 1) (by omega)
        have hmm : shr sp c m (m - 1) + c m * nI m / nI sp = shr sp c (m + 1) (m - 1) := by
          simp only [shr]
          rw [if_neg (show ¬ (m - 1 + 1 < m ∧ m - 1 + 1 ≤ sp) by omega), if_pos (show m - 1 + 1 < m + 1 ∧ m - 1 + 1 ≤ sp by omega), add_z, show m - 1 + 1 = m by omega]
          congr 1
          by_cases q : 1 ≤ m - 1
          · rw [if_pos (by omega), if_pos (by omega)]
          · rw [if_neg (by omega), if_neg (by omega)]
        have other : ∀ j, j ≠ m + 1 → j ≠ m - 1 → shr sp c m j = shr sp c (m + 1) j := by
          intro j q1 q2
          simp only [shr]
          congr 1
          · by_cases q : 1 ≤ j ∧ j ≤ sp ∧ j ≤ m
            · rw [if_pos q, if_pos (by omega)]
            · rw [if_neg q, if_neg (by omega)]
          · by_cases q : j + 1 < m ∧ j + 1 ≤ sp
            · rw [if_pos q, if_pos (by omega)]
            · rw [if_neg q, if_neg (by omega)]
        by_cases a1 : m = sp
        · rw [if_pos a1]
          by_cases b : j = m - 1
          · rw [b, pk_us, hNp, hmm]
          · rw [pk_un b, hN j hj]
            by_cases b2 : j = m + 1
            · subst b2
              simp only [shr]
              rw [if_neg (by omega), if_neg (by omega), if_neg (by omega), if_neg (by omega)]
            · exact other j b2 b
        · rw [if_neg a1]
          by_cases b : j = m - 1
          · rw [b, pk_us, hNp, hmm]
          · rw [pk_un b]
            by_cases b2 : j = m + 1
            · rw [b2, pk_us, hNm (by omega)]
              simp only [shr]
              rw [if_neg (by omega), if_neg (by omega), if_pos (by omega), if_neg (by omega), z_add, z_add, add_z, Nat.add_sub_cancel]
            · rw [pk_un b2, hN j hj]; exact other j b2 b
    · by_cases a0 : m = 0
      · subst a0
        have f1 : ¬ nI sp ≤ nI 0 := nI_ge (by omega) (by omega)
        have f2 : nI 0 ≤ nI 0 := by decide
        simp (disch := omega) only [f_X12_shareChances_10s, f_X12_shareChances_43, f_X12_shareChances_68, ↓lm_1, ↓lm_2, ↓lm_3, ↓lm_4, ↓lm_5, ↓lm_6, ↓lm_7, ↓lm_8, ↓lm_9, ↓lm_10, ↓lm_11, li_0, li_1, li_2, li_3, li_4, li_5, li_6, li_7, li_8, li_9, li_10, li_11, li_12, li_13, li_14, li_15, li_16, li_17, li_18, li_19, li_20, li_21, li_22, li_23, li_24, li_25, li_26, li_27, li_28, li_29, li_30, li_31, li_32, li_33, li_34, li_35, li_36, li_37, li_38, li_39, li_40, li_41, li_42, li_43, li_44, li_45, li_46, li_47, li_48, li_49, li_50, li_51, li_52, li_53, li_54, li_55, li_56, li_57, li_58, li_59, li_60, li_61, li_62, li_63, li_64, li_65, li_66, li_96, li_97, li_99, li_100, li_122, li_125, li_126, li_140, li_255, li_256, li_999, li_1000, li_1001, li_1002, li_1100, li_1386, li_1452, li_1518, li_9999, li_1000000, e1, e0, f1, f2, ↓reduceIte, nm_eq, nI_add, inb_n, ck_t, not_false_eq_true, decide_true, st_same, st_st, nI_clamp, gA_sAf, gA_sAfn, pk_sub, sA, sAf_sAf, Nat.zero_add]
      · have f2 : ¬ nI m ≤ nI 0 := nI_ge (by omega) (by omega)
        by_cases a1 : m = sp
        · subst a1
          have f1 : nI m ≤ nI m := nI_le (by omega) (by omega)
          simp (disch := omega) only [f_X12_shareChances_10s, f_X12_shareChances_43, f_X12_shareChances_68, ↓lm_1, ↓lm_2, ↓lm_3, ↓lm_4, ↓lm_5, ↓lm_6, ↓lm_7, ↓lm_8, ↓lm_9, ↓lm_10, ↓lm_11, li_0, li_1, li_2, li_3, li_4, li_5, li_6, li_7, li_8, li_9, li_10, li_11, li_12, li_13, li_14, li_15, li_16, li_17, li_18, li_19, li_20, li_21, li_22, li_23, li_24, li_25, li_26, li_27, li_28, li_29, li_30, li_31, li_32, li_33, li_34, li_35, li_36, li_37, li_38, li_39, li_40, li_41, li_42, li_43, li_44, li_45, li_46, li_47, li_48, li_49, li_50, li_51, li_52, li_53, li_54, li_55, li_56, li_57, li_58, li_59, li_60, li_61, li_62, li_63, li_64, li_65, li_66, li_96, li_97, li_99, li_100, li_122, li_125, li_126, li_140, li_255, li_256, li_999, li_1000, li_1001, li_1002, li_1100, li_1386, li_1452, li_1518, li_9999, li_1000000, e1, e0, f1, f2, a0, ↓reduceIte, nm_eq, nI_add, inb_n, ck_t, not_false_eq_true, decide_true, st_same, st_st, nI_clamp, gA_sAf, gA_sAfn, pk_sub, sA, sAf_sAf]
        · have f1 : ¬ nI sp ≤ nI m := nI_ge (by omega) (by omega)
          have nu : upd N (m + 1) (N (m + 1) + c m * nI (sp - m) / nI sp) (m - 1) = N (m - 1) := pk_un (by omega)
          simp (disch := omega) only [f_X12_shareChances_10s, f_X12_shareChances_43, f_X12_shareChances_68, ↓lm_1, ↓lm_2, ↓lm_3, ↓lm_4, ↓lm_5, ↓lm_6, ↓lm_7, ↓lm_8, ↓lm_9, ↓lm_10, ↓lm_11, li_0, li_1, li_2, li_3, li_4, li_5, li_6, li_7, li_8, li_9, li_10, li_11, li_12, li_13, li_14, li_15, li_16, li_17, li_18, li_19, li_20, li_21, li_22, li_23, li_24, li_25, li_26, li_27, li_28, li_29, li_30, li_31, li_32, li_33, li_34, li_35, li_36, li_37, li_38, li_39, li_40, li_41, li_42, li_43, li_44, li_45, li_46, li_47, li_48, li_49, li_50, li_51, li_52, li_53, li_54, li_55, li_56, li_57, li_58, li_59, li_60, li_61, li_62, li_63, li_64, li_65, li_66, li_96, li_97, li_99, li_100, li_122, li_125, li_126, li_140, li_255, li_256, li_999, li_1000, li_1001, li_1002, li_1100, li_1386, li_1452, li_1518, li_9999, li_1000000, e1, e0, f1, f2, a0, a1, ↓reduceIte, nm_eq, nI_add, inb_n, ck_t, not_false_eq_true, decide_true, st_same, st_st, nI_clamp, gA_sAf, gA_sAfn, pk_sub, sA, sAf_sAf, nu]
  · simp only [flA, if_pos hj, shr]
    rw [if_neg (by omega), if_neg (by omega), z_add]
theorem c_slips (hf : 1101 ≤ fu) (h1 : 1 ≤ sp) (h8 : sp ≤ 8) {n o : Nat} (hn : n ≤ 30) (ho : o ≤ sp) : ∃ S', f_X12_slips fu S p (nI n) (nI sp) (nI o) = some (chs sp n o, S') ∧ scr p S S' := by
  have key := lpI2 (fun k64 => f_X12_slips_64s fu k64 p (nI n) (nI sp) (nI o)) (fun k x S' => x = nI k ∧ ∃ C N, S' = st S p (sAf (sAf (S p) 10 C) 11 N) ∧ ∀ j, j ≤ sp → C j = chs sp k j) (fun r => ∃ S', r = some (chs sp n o, S') ∧ scr p S S') n ?_ ?_ fu 0 (nI 0) (st S p (sAf (sAf (S p) 10 (upd (flA (gA (S p) 10) 9 (nI 0)) 0 (nI 1000000))) 11 (gA (S p) 11))) ⟨rfl, _, _, rfl, fun j hj => ?_⟩ (by omega) (by omega)
  · obtain ⟨r, ⟨S', e, h⟩, e2⟩ := key
    refine ⟨S', ?_, h⟩
    rw [← e, ← e2]
    have a1 : ¬ nI n < nI 0 := nI_nlt (by omega) (by omega)
    have a2 : ¬ nI 30 < nI n := nI_nlt (by omega) (by omega)
    have b1 : ¬ nI sp < nI 1 := nI_nlt (by omega) (by omega)
    have b2 : ¬ nI 8 < nI sp := nI_nlt (by omega) (by omega)
    have c1 : ¬ nI o < nI 0 := nI_nlt (by omega) (by omega)
    have c2 : nI o ≤ nI sp := nI_le (by omega) (by omega)
    have e11 : ∀ C : Nat → Int32, sAf (sAf (S p) 10 C) 11 (gA (S p) 11) = sAf (S p) 10 C := by
      intro C
      have : gA (S p) 11 = gA (sAf (S p) 10 C) 11 := (gA_sAfn _ _ (by decide)).symm
      rw [this, sAf_self]
    simp (disch := omega) only [f_X12_slips, f_X12_slips_0, f_X12_slips_26, f_X12_slips_64, ↓lm_1, ↓lm_2, ↓lm_3, ↓lm_4, ↓lm_5, ↓lm_6, ↓lm_7, ↓lm_8, ↓lm_9, ↓lm_10, ↓lm_11, li_0, li_1, li_2, li_3, li_4, li_5, li_6, li_7, li_8, li_9, li_10, li_11, li_12, li_13, li_14, li_15, li_16, li_17, li_18, li_19, li_20, li_21, li_22, li_23, li_24, li_25, li_26, li_27, li_28, li_29, li_30, li_31, li_32, li_33, li_34, li_35, li_36, li_37, li_38, li_39, li_40, li_41, li_42, li_43, li_44, li_45, li_46, li_47, li_48, li_49, li_50, li_51, li_52, li_53, li_54, li_55, li_56, li_57, li_58, li_59, li_60, li_61, li_62, li_63, li_64, li_65, li_66, li_96, li_97, li_99, li_100, li_122, li_125, li_126, li_140, li_255, li_256, li_999, li_1000, li_1001, li_1002, li_1100, li_1386, li_1452, li_1518, li_9999, li_1000000, a1, a2, b1, b2, c1, c2, n10, ↓reduceIte, nm_eq, st_same, st_st, nI_clamp, sA, sAf_sAf, gA_sAf, e11]
  · rintro x S' ⟨rfl, C, N, rfl, hC⟩
    refine ⟨_, ⟨st S p (sAf (sAf (S p) 10 C) 11 N), rfl, scr_p (scr_refl p S) rfl (fun _ => rfl) (fun _ => rfl) (fun _ => rfl)⟩, fun rec => ?_⟩
    · simp (disch := omega) only [f_X12_slips_64s, nI_leI, Nat.le_refl, ↓reduceIte, inb_n, ck_t, nI_clamp, st_same, gA_sAf, gA_sAfn, hC]
  · rintro k x S' hk ⟨rfl, C, N, rfl, hC⟩
    obtain ⟨C', N', e, h⟩ := c_share (S := st S p (sAf (sAf (S p) 10 C) 11 N)) hf h1 h8 (st_same _ _ _)
    have hle : ¬ nI n ≤ nI k := nI_ge hk (by omega)
    refine Or.inl ⟨nI (k + 1), st S p (sAf (sAf (S p) 10 C') 11 N'), ⟨rfl, _, _, rfl, fun j hj => ?_⟩, fun rec => ?_⟩
    · rw [h j hj]
      simp only [chs, chn]
      congr 1
      · by_cases q : j = 0
        · rw [if_pos q, if_pos q]
        · rw [if_neg q, if_neg q, hC (j - 1) (by omega)]
      · by_cases q : j = sp
        · rw [if_pos q, if_pos q]
        · rw [if_neg q, if_neg q, hC (j + 1) (by omega)]
    · rw [st_st] at e
      simp only [f_X12_slips_64s, ↓lm_1, ↓lm_2, ↓lm_3, ↓lm_4, ↓lm_5, ↓lm_6, ↓lm_7, ↓lm_8, ↓lm_9, ↓lm_10, ↓lm_11, li_0, li_1, li_2, li_3, li_4, li_5, li_6, li_7, li_8, li_9, li_10, li_11, li_12, li_13, li_14, li_15, li_16, li_17, li_18, li_19, li_20, li_21, li_22, li_23, li_24, li_25, li_26, li_27, li_28, li_29, li_30, li_31, li_32, li_33, li_34, li_35, li_36, li_37, li_38, li_39, li_40, li_41, li_42, li_43, li_44, li_45, li_46, li_47, li_48, li_49, li_50, li_51, li_52, li_53, li_54, li_55, li_56, li_57, li_58, li_59, li_60, li_61, li_62, li_63, li_64, li_65, li_66, li_96, li_97, li_99, li_100, li_122, li_125, li_126, li_140, li_255, li_256, li_999, li_1000, li_1001, li_1002, li_1100, li_1386, li_1452, li_1518, li_9999, li_1000000, hle, ↓reduceIte, e, bd_s, nm_eq, nI_add]
  · simp only [chs]
    by_cases q : j = 0
    · rw [q, pk_us, if_pos rfl]
    · rw [pk_un q, if_neg q]; exact if_pos (by omega)
end C
section M
variable {fu sp : Nat} {v : GV}
def fil (X N : Nat → Int32) (m : Nat) : Nat → Int32 := fun j => if j < m then X j else N j
theorem fil_0 (X N : Nat → Int32) : fil X N 0 = N := by funext j; exact if_neg (by omega)
theorem fil_s (X N : Nat → Int32) (m : Nat) : upd (fil X N m) m (X m) = fil X N (m + 1) := by
  funext j
  by_cases e : j = m
  · subst e; rw [pk_us]; exact (if_pos (by omega)).symm
  · rw [pk_un e]
    by_cases c : j < m
    · rw [fil, fil, if_pos c, if_pos (by omega)]
    · rw [fil, fil, if_neg c, if_neg (by omega)]
theorem m_scopy (hf : 1101 ≤ fu) (h1 : 1 ≤ sp) (h8 : sp ≤ 8) {x y : Int32} (k74 : Int32 → GV → Option (Int32 × GV)) (k : Nat) (C N X : Nat → Int32) (w : GV) (hX : ∀ j, j ≤ sp → X j = chn sp C j) : f_X13_slips_83 fu fu k74 x (nI sp) y (nI k) (nI 0) (sAf (sAf w 38 C) 39 N) = k74 (nI (k + 1)) (sAf (sAf w 38 (fil X C (sp + 1))) 39 (fil X N (sp + 1))) := by
  have e0 : ¬ nI sp = nI 0 := by rw [nI_eq (by omega) (by omega)]; omega
  have el : nI sp < nI (sp + 1) := nI_lt (by omega) (by omega)
  have last : f_X13_slips_163 fu fu k74 x (nI sp) y (nI k) (nI 0) (sAf (sAf w 38 C) 39 (fil X N (sp + 1))) = k74 (nI (k + 1)) (sAf (sAf w 38 (fil X C (sp + 1))) 39 (fil X N (sp + 1))) := by
    rw [f_X13_slips_163, ← fil_0 X C]
    refine for2 _ (fun m => nI m) (fun m => sAf (sAf w 38 (fil X C m)) 39 (fil X N (sp + 1))) 0 (sp + 1) _ ?_ ?_ fu (by omega) (by omega)
    · intro rec
      simp only [f_X13_slips_163s, ↓lm_1, ↓lm_2, ↓lm_3, ↓lm_4, ↓lm_5, ↓lm_6, ↓lm_7, ↓lm_8, ↓lm_9, ↓lm_10, ↓lm_11, li_0, li_1, li_2, li_3, li_4, li_5, li_6, li_7, li_8, li_9, li_10, li_11, li_12, li_13, li_14, li_15, li_16, li_17, li_18, li_19, li_20, li_21, li_22, li_23, li_24, li_25, li_26, li_27, li_28, li_29, li_30, li_31, li_32, li_33, li_34, li_35, li_36, li_37, li_38, li_39, li_40, li_41, li_42, li_43, li_44, li_45, li_46, li_47, li_48, li_49, li_50, li_51, li_52, li_53, li_54, li_55, li_56, li_57, li_58, li_59, li_60, li_61, li_62, li_63, li_64, li_65, li_66, li_96, li_97, li_99, li_100, li_122, li_125, li_126, li_140, li_255, li_256, li_999, li_1000, li_1001, li_1002, li_1100, li_1386, li_1452, li_1518, li_9999, li_1000000, el, ↓reduceIte, nm_eq, nI_add, fil_0]
    · intro m rec _ hm
      have e : ¬ nI sp < nI m := nI_nlt (by omega) (by omega)
      have cm : ∀ f, sAf (sAf (sAf w 38 (fil X C m)) 39 (fil X N (sp + 1))) 38 f = sAf (sAf w 38 f) 39 (fil X N (sp + 1)) := by
        intro f
        rw [sAf_comm (show (39 : Nat) ≠ 38 by decide), sAf_sAf]
      have eN : fil X N (sp + 1) m = X m := if_pos hm
      simp (disch := omega) only [f_X13_slips_163s, ↓lm_1, ↓lm_2, ↓lm_3, ↓lm_4, ↓lm_5, ↓lm_6, ↓lm_7, ↓lm_8, ↓lm_9, ↓lm_10, ↓lm_11, li_0, li_1, li_2, li_3, li_4, li_5, li_6, li_7, li_8, li_9, li_10, li_11, li_12, li_13, li_14, li_15, li_16, li_17, li_18, li_19, li_20, li_21, li_22, li_23, li_24, li_25, li_26, li_27, li_28, li_29, li_30, li_31, li_32, li_33, li_34, li_35, li_36, li_37, li_38, li_39, li_40, li_41, li_42, li_43, li_44, li_45, li_46, li_47, li_48, li_49, li_50, li_51, li_52, li_53, li_54, li_55, li_56, li_57, li_58, li_59, li_60, li_61, li_62, li_63, li_64, li_65, li_66, li_96, li_97, li_99, li_100, li_122, li_125, li_126, li_140, li_255, li_256, li_999, li_1000, li_1001, li_1002, li_1100, li_1386, li_1452, li_1518, li_9999, li_1000000, e, ↓reduceIte, nm_eq, nI_add, inb_n, ck_t, nI_clamp, gA_sAf, gA_sAfn, sA, cm, eN, fil_s]
  rw [f_X13_slips_83]
  conv => lhs; rw [← fil_0 X N]
  refine for2 _ (fun m => nI m) (fun m => sAf (sAf w 38 C) 39 (fil X N m)) 0 (sp + 1) _ ?_ ?_ fu (by omega) (by omega)
  · intro rec
    simp only [f_X13_slips_83s, ↓lm_1, ↓lm_2, ↓lm_3, ↓lm_4, ↓lm_5, ↓lm_6, ↓lm_7, ↓lm_8, ↓lm_9, ↓lm_10, ↓lm_11, li_0, li_1, li_2, li_3, li_4, li_5, li_6, li_7, li_8, li_9, li_10, li_11, li_12, li_13, li_14, li_15, li_16, li_17, li_18, li_19, li_20, li_21, li_22, li_23, li_24, li_25, li_26, li_27, li_28, li_29, li_30, li_31, li_32, li_33, li_34, li_35, li_36, li_37, li_38, li_39, li_40, li_41, li_42, li_43, li_44, li_45, li_46, li_47, li_48, li_49, li_50, li_51, li_52, li_53, li_54, li_55, li_56, li_57, li_58, li_59, li_60, li_61, li_62, li_63, li_64, li_65, li_66, li_96, li_97, li_99, li_100, li_122, li_125, li_126, li_140, li_255, li_256, li_999, li_1000, li_1001, li_1002, li_1100, li_1386, li_1452, li_1518, li_9999, li_1000000, el, ↓reduceIte]
    exact last
  · intro m rec _ hm
    have e : ¬ nI sp < nI m := nI_nlt (by omega) (by omega)
    have fs := fil_s X N m
    rw [hX m (by omega)] at fs
    rw [← fs, chn]
    by_cases a0 : m = 0
    · subst a0
      have e2 : ¬ nI 0 = nI sp := fun q => e0 q.symm
      have e3 : ¬ 0 = sp := by omega
      simp (disch := omega) only [f_X13_slips_83s, f_X13_slips_116, f_X13_slips_152, ↓lm_1, ↓lm_2, ↓lm_3, ↓lm_4, ↓lm_5, ↓lm_6, ↓lm_7, ↓lm_8, ↓lm_9, ↓lm_10, ↓lm_11, li_0, li_1, li_2, li_3, li_4, li_5, li_6, li_7, li_8, li_9, li_10, li_11, li_12, li_13, li_14, li_15, li_16, li_17, li_18, li_19, li_20, li_21, li_22, li_23, li_24, li_25, li_26, li_27, li_28, li_29, li_30, li_31, li_32, li_33, li_34, li_35, li_36, li_37, li_38, li_39, li_40, li_41, li_42, li_43, li_44, li_45, li_46, li_47, li_48, li_49, li_50, li_51, li_52, li_53, li_54, li_55, li_56, li_57, li_58, li_59, li_60, li_61, li_62, li_63, li_64, li_65, li_66, li_96, li_97, li_99, li_100, li_122, li_125, li_126, li_140, li_255, li_256, li_999, li_1000, li_1001, li_1002, li_1100, li_1386, li_1452, li_1518, li_9999, li_1000000, e, e0, e2, e3, ↓reduceIte, nm_eq, nI_add, inb_n, ck_t, not_false_eq_true, decide_true, nI_clamp, gA_sAf, gA_sAfn, sA, sAf_sAf, Nat.zero_add]
    · have e2 : ¬ nI m = nI 0 := by rw [nI_eq (by omega) (by omega)]; exact a0
      have e4 : sp - m + 1 = sp - (m - 1) := by omega
      by_cases a1 : m = sp
      · have e5 : nI m = nI sp := by rw [a1]
        rw [if_neg a0, if_pos a1]
        simp (disch := omega) only [f_X13_slips_83s, f_X13_slips_116, f_X13_slips_152, ↓lm_1, ↓lm_2, ↓lm_3, ↓lm_4, ↓lm_5, ↓lm_6, ↓lm_7, ↓lm_8, ↓lm_9, ↓lm_10, ↓lm_11, li_0, li_1, li_2, li_3, li_4, li_5, li_6, li_7, li_8, li_9, li_10, li_11, li_12, li_13, li_14, li_15, li_16, li_17, li_18, li_19, li_20, li_21, li_22, li_23, li_24, li_25, li_26, li_27, li_28, li_29, li_30, li_31, li_32, li_33, li_34, li_35, li_36, li_37, li_38, li_39, li_40, li_41, li_42, li_43, li_44, li_45, li_46, li_47, li_48, li_49, li_50, li_51, li_52, li_53, li_54, li_55, li_56, li_57, li_58, li_59, li_60, li_61, li_62, li_63, li_64, li_65, li_66, li_96, li_97, li_99, li_100, li_122, li_125, li_126, li_140, li_255, li_256, li_999, li_1000, li_1001, li_1002, li_1100, li_1386, li_1452, li_1518, li_9999, li_1000000, e, e0, e2, if_pos e5, ↓reduceIte, nm_eq, nI_add, pk_sub, e4, inb_n, ck_t, not_false_eq_true, decide_true, nI_clamp, gA_sAf, gA_sAfn, sA, sAf_sAf]
      · have e5 : ¬ nI m = nI sp := by rw [nI_eq (by omega) (by omega)]; exact a1
        rw [if_neg a0, if_neg a1]
        simp (disch := omega) only [f_X13_slips_83s, f_X13_slips_116, f_X13_slips_152, ↓lm_1, ↓lm_2, ↓lm_3, ↓lm_4, ↓lm_5, ↓lm_6, ↓lm_7, ↓lm_8, ↓lm_9, ↓lm_10, ↓lm_11, li_0, li_1, li_2, li_3, li_4, li_5, li_6, li_7, li_8, li_9, li_10, li_11, li_12, li_13, li_14, li_15, li_16, li_17, li_18, li_19, li_20, li_21, li_22, li_23, li_24, li_25, li_26, li_27, li_28, li_29, li_30, li_31, li_32, li_33, li_34, li_35, li_36, li_37, li_38, li_39, li_40, li_41, li_42, li_43, li_44, li_45, li_46, li_47, li_48, li_49, li_50, li_51, li_52, li_53, li_54, li_55, li_56, li_57, li_58, li_59, li_60, li_61, li_62, li_63, li_64, li_65, li_66, li_96, li_97, li_99, li_100, li_122, li_125, li_126, li_140, li_255, li_256, li_999, li_1000, li_1001, li_1002, li_1100, li_1386, li_1452, li_1518, li_9999, li_1000000, e, e0, e2, e5, ↓reduceIte, nm_eq, nI_add, pk_sub, e4, inb_n, ck_t, not_false_eq_true, decide_true, nI_clamp, gA_sAf, gA_sAfn, sA, sAf_sAf]
theorem chn_congr {c d : Nat → Int32} (h : ∀ j, j ≤ sp → c j = d j) {j : Nat} (hj : j ≤ sp) : chn sp c j = chn sp d j := by
  simp only [chn]
  congr 1
  · by_cases q : j = 0
    · rw [if_pos q, if_pos q]
    · rw [if_neg q, if_neg q, h (j - 1) (by omega)]
  · by_cases q : j = sp
    · rw [if_pos q, if_pos q]
    · rw [if_neg q, if_neg q, h (j + 1) (by omega)]
theorem m_slips (hf : 1101 ≤ fu) (h1 : 1 ≤ sp) (h8 : sp ≤ 8) {n o : Nat} (hn : n ≤ 30) (ho : o ≤ sp) : ∃ v', f_X13_slips fu v (nI n) (nI sp) (nI o) = some (chs sp n o, v') ∧ mscr v v' := by
  have all : ∀ C N : Nat → Int32, (∀ j, j ≤ sp → C j = chs sp 0 j) → ∃ v', f_X13_slips_74 fu fu (nI n) (nI sp) (nI o) (nI 0) (sAf (sAf (sI v 0 (nI 0)) 38 C) 39 N) = some (chs sp n o, v') ∧ mscr v v' := by
    intro C N hC
    have key := lpI2 (fun k74 => f_X13_slips_74s fu k74 (nI n) (nI sp) (nI o)) (fun k x w => x = nI k ∧ ∃ C N, w = sAf (sAf (sI v 0 (nI 0)) 38 C) 39 N ∧ ∀ j, j ≤ sp → C j = chs sp k j) (fun r => ∃ v', r = some (chs sp n o, v') ∧ mscr v v') n ?_ ?_ fu 0 (nI 0) (sAf (sAf (sI v 0 (nI 0)) 38 C) 39 N) ⟨rfl, _, _, rfl, hC⟩ (by omega) (by omega)
    · obtain ⟨r, ⟨v', e, h⟩, e2⟩ := key
      exact ⟨v', by rw [← e, ← e2, f_X13_slips_74], h⟩
    · rintro x w ⟨rfl, C, N, rfl, h⟩
      refine ⟨_, ⟨sAf (sAf (sI v 0 (nI 0)) 38 C) 39 N, rfl, mscr_sAf (mscr_sAf (q1 v) (by omega)) (by omega)⟩, fun rec => ?_⟩
      simp (disch := omega) only [f_X13_slips_74s, nI_leI, Nat.le_refl, ↓reduceIte, inb_n, ck_t, nI_clamp, gA_sAf, gA_sAfn, h]
    · rintro k x w hk ⟨rfl, C, N, rfl, h⟩
      have hle : ¬ nI n ≤ nI k := nI_ge hk (by omega)
      refine Or.inl ⟨nI (k + 1), sAf (sAf (sI v 0 (nI 0)) 38 (fil (chs sp (k + 1)) C (sp + 1))) 39 (fil (chs sp (k + 1)) N (sp + 1)), ⟨rfl, _, _, rfl, fun j hj => ?_⟩, fun rec => ?_⟩
      · exact if_pos (by omega)
      · simp only [f_X13_slips_74s, ↓lm_1, ↓lm_2, ↓lm_3, ↓lm_4, ↓lm_5, ↓lm_6, ↓lm_7, ↓lm_8, ↓lm_9, ↓lm_10, ↓lm_11, li_0, li_1, li_2, li_3, li_4, li_5, li_6, li_7, li_8, li_9, li_10, li_11, li_12, li_13, li_14, li_15, li_16, li_17, li_18, li_19, li_20, li_21, li_22, li_23, li_24, li_25, li_26, li_27, li_28, li_29, li_30, li_31, li_32, li_33, li_34, li_35, li_36, li_37, li_38, li_39, li_40, li_41, li_42, li_43, li_44, li_45, li_46, li_47, li_48, li_49, li_50, li_51, li_52, li_53, li_54, li_55, li_56, li_57, li_58, li_59, li_60, li_61, li_62, li_63, li_64, li_65, li_66, li_96, li_97, li_99, li_100, li_122, li_125, li_126, li_140, li_255, li_256, li_999, li_1000, li_1001, li_1002, li_1100, li_1386, li_1452, li_1518, li_9999, li_1000000, hle, ↓reduceIte]
        exact m_scopy hf h1 h8 rec k C N (chs sp (k + 1)) _ (fun j hj => (chn_congr h hj).symm)
  obtain ⟨v', e', h'⟩ := all (fil (chs sp 0) (gA v 38) 10) (gA v 39) (fun j hj => if_pos (by omega))
  refine ⟨v', ?_, h'⟩
  have s39 : sAf (sAf (sI v 0 (nI 0)) 38 (fil (chs sp 0) (gA v 38) 10)) 39 (gA v 39) = sAf (sI v 0 (nI 0)) 38 (fil (chs sp 0) (gA v 38) 10) := by
    have : gA v 39 = gA (sAf (sI v 0 (nI 0)) 38 (fil (chs sp 0) (gA v 38) 10)) 39 := by rw [gA_sAfn _ _ (by decide)]; rfl
    rw [this, sAf_self]
  rw [s39] at e'
  have lp : f_X13_slips_39 fu fu (nI n) (nI sp) (nI o) (nI 0) (sI v 0 (nI 0)) = some (chs sp n o, v') := by
    have s0 : sI v 0 (nI 0) = sAf (sI v 0 (nI 0)) 38 (fil (chs sp 0) (gA v 38) 0) := by
      rw [fil_0]; exact (sAf_self (sI v 0 (nI 0)) 38).symm
    rw [f_X13_slips_39]
    conv => lhs; rw [s0]
    refine for2 _ (fun m => nI m) (fun m => sAf (sI v 0 (nI 0)) 38 (fil (chs sp 0) (gA v 38) m)) 0 10 _ ?_ ?_ fu (by omega) (by omega)
    · intro rec
      have e : nI 10 ≤ nI 10 := by decide
      simp only [f_X13_slips_39s, ↓lm_1, ↓lm_2, ↓lm_3, ↓lm_4, ↓lm_5, ↓lm_6, ↓lm_7, ↓lm_8, ↓lm_9, ↓lm_10, ↓lm_11, li_0, li_1, li_2, li_3, li_4, li_5, li_6, li_7, li_8, li_9, li_10, li_11, li_12, li_13, li_14, li_15, li_16, li_17, li_18, li_19, li_20, li_21, li_22, li_23, li_24, li_25, li_26, li_27, li_28, li_29, li_30, li_31, li_32, li_33, li_34, li_35, li_36, li_37, li_38, li_39, li_40, li_41, li_42, li_43, li_44, li_45, li_46, li_47, li_48, li_49, li_50, li_51, li_52, li_53, li_54, li_55, li_56, li_57, li_58, li_59, li_60, li_61, li_62, li_63, li_64, li_65, li_66, li_96, li_97, li_99, li_100, li_122, li_125, li_126, li_140, li_255, li_256, li_999, li_1000, li_1001, li_1002, li_1100, li_1386, li_1452, li_1518, li_9999, li_1000000, e, ↓reduceIte]
      exact e'
    · intro m rec _ hm
      have e : ¬ nI 10 ≤ nI m := nI_ge hm (by omega)
      have fs := fil_s (chs sp 0) (gA v 38) m
      rw [← fs]
      simp (disch := omega) only [f_X13_slips_39s, f_X13_slips_64, ↓lm_1, ↓lm_2, ↓lm_3, ↓lm_4, ↓lm_5, ↓lm_6, ↓lm_7, ↓lm_8, ↓lm_9, ↓lm_10, ↓lm_11, li_0, li_1, li_2, li_3, li_4, li_5, li_6, li_7, li_8, li_9, li_10, li_11, li_12, li_13, li_14, li_15, li_16, li_17, li_18, li_19, li_20, li_21, li_22, li_23, li_24, li_25, li_26, li_27, li_28, li_29, li_30, li_31, li_32, li_33, li_34, li_35, li_36, li_37, li_38, li_39, li_40, li_41, li_42, li_43, li_44, li_45, li_46, li_47, li_48, li_49, li_50, li_51, li_52, li_53, li_54, li_55, li_56, li_57, li_58, li_59, li_60, li_61, li_62, li_63, li_64, li_65, li_66, li_96, li_97, li_99, li_100, li_122, li_125, li_126, li_140, li_255, li_256, li_999, li_1000, li_1001, li_1002, li_1100, li_1386, li_1452, li_1518, li_9999, li_1000000, e, ↓reduceIte, nI_eq, nm_eq, nI_add, inb_n, ck_t, nI_clamp, sA, sAf_sAf, gA_sAf, chs]
      by_cases q : m = 0
      · rw [if_pos q, if_pos q]
      · rw [if_neg q, if_neg q]
  rw [← lp]
  simp (disch := omega) only [f_X13_slips, f_X13_slips_0, ↓lm_1, ↓lm_2, ↓lm_3, ↓lm_4, ↓lm_5, ↓lm_6, ↓lm_7, ↓lm_8, ↓lm_9, ↓lm_10, ↓lm_11, li_0, li_1, li_2, li_3, li_4, li_5, li_6, li_7, li_8, li_9, li_10, li_11, li_12, li_13, li_14, li_15, li_16, li_17, li_18, li_19, li_20, li_21, li_22, li_23, li_24, li_25, li_26, li_27, li_28, li_29, li_30, li_31, li_32, li_33, li_34, li_35, li_36, li_37, li_38, li_39, li_40, li_41, li_42, li_43, li_44, li_45, li_46, li_47, li_48, li_49, li_50, li_51, li_52, li_53, li_54, li_55, li_56, li_57, li_58, li_59, li_60, li_61, li_62, li_63, li_64, li_65, li_66, li_96, li_97, li_99, li_100, li_122, li_125, li_126, li_140, li_255, li_256, li_999, li_1000, li_1001, li_1002, li_1100, li_1386, li_1452, li_1518, li_9999, li_1000000, nm_eq, w_in, w1_in, bd_s, n10, ↓reduceIte]
end M
theorem r_slips {fu p : Nat} {S : ST} {v : GV} (hf : 1101 ≤ fu) (h : RR p S v) (x y x3 : Int32) : ∃ z S' v', f_X12_slips fu S p x y x3 = some (z, S') ∧ f_X13_slips fu v x y x3 = some (z, v') ∧ RR p S' v' := by
  obtain ⟨A, hA, hC, hM⟩ := h
  have hno : RR p S (sI v 0 (nI 0)) := RR_q hA hC hM (scr_refl p S) (q1 v)
  by_cases hx : ∃ j, j < 30 + 1 ∧ x = nI j
  · obtain ⟨n, hn, rfl⟩ := hx
    have a1 : ¬ nI n < nI 0 := nI_nlt (by omega) (by omega)
    have a2 : ¬ nI 30 < nI n := nI_nlt (by omega) (by omega)
    by_cases hy : ∃ j, 1 ≤ j ∧ j ≤ 8 ∧ y = nI j
    · obtain ⟨sp, hs1, hs8, rfl⟩ := hy
      have b1 : ¬ nI sp < nI 1 := nI_nlt (by omega) (by omega)
      have b2 : ¬ nI 8 < nI sp := nI_nlt (by omega) (by omega)
      by_cases hz : ∃ j, j < sp + 1 ∧ x3 = nI j
      · obtain ⟨o, ho, rfl⟩ := hz
        obtain ⟨S', c1, c2⟩ := c_slips (S := S) (p := p) hf hs1 hs8 (show n ≤ 30 by omega) (show o ≤ sp by omega)
        obtain ⟨v', m1, m2⟩ := m_slips (v := v) hf hs1 hs8 (show n ≤ 30 by omega) (show o ≤ sp by omega)
        exact ⟨_, S', v', c1, m1, RR_q hA hC hM c2 m2⟩
      · refine ⟨mI 1, S, sI v 0 (nI 0), ?_, ?_, hno⟩
        · simp only [f_X12_slips, f_X12_slips_0, f_X12_slips_26, f_X12_slips_42, ↓lm_1, ↓lm_2, ↓lm_3, ↓lm_4, ↓lm_5, ↓lm_6, ↓lm_7, ↓lm_8, ↓lm_9, ↓lm_10, ↓lm_11, li_0, li_1, li_2, li_3, li_4, li_5, li_6, li_7, li_8, li_9, li_10, li_11, li_12, li_13, li_14, li_15, li_16, li_17, li_18, li_19, li_20, li_21, li_22, li_23, li_24, li_25, li_26, li_27, li_28, li_29, li_30, li_31, li_32, li_33, li_34, li_35, li_36, li_37, li_38, li_39, li_40, li_41, li_42, li_43, li_44, li_45, li_46, li_47, li_48, li_49, li_50, li_51, li_52, li_53, li_54, li_55, li_56, li_57, li_58, li_59, li_60, li_61, li_62, li_63, li_64, li_65, li_66, li_96, li_97, li_99, li_100, li_122, li_125, li_126, li_140, li_255, li_256, li_999, li_1000, li_1001, li_1002, li_1100, li_1386, li_1452, li_1518, li_9999, li_1000000, a1, a2, b1, b2, n10, ↓reduceIte]
          rcases w0_out (by omega) hz with c | ⟨c, c2⟩
          · rw [if_pos c]
          · rw [if_neg c, if_neg]
            rw [Int32.lt_iff_toInt_lt] at c2
            rw [Int32.le_iff_toInt_le]; omega
        · simp (disch := omega) only [f_X13_slips, f_X13_slips_0, f_X13_slips_34, ↓lm_1, ↓lm_2, ↓lm_3, ↓lm_4, ↓lm_5, ↓lm_6, ↓lm_7, ↓lm_8, ↓lm_9, ↓lm_10, ↓lm_11, li_0, li_1, li_2, li_3, li_4, li_5, li_6, li_7, li_8, li_9, li_10, li_11, li_12, li_13, li_14, li_15, li_16, li_17, li_18, li_19, li_20, li_21, li_22, li_23, li_24, li_25, li_26, li_27, li_28, li_29, li_30, li_31, li_32, li_33, li_34, li_35, li_36, li_37, li_38, li_39, li_40, li_41, li_42, li_43, li_44, li_45, li_46, li_47, li_48, li_49, li_50, li_51, li_52, li_53, li_54, li_55, li_56, li_57, li_58, li_59, li_60, li_61, li_62, li_63, li_64, li_65, li_66, li_96, li_97, li_99, li_100, li_122, li_125, li_126, li_140, li_255, li_256, li_999, li_1000, li_1001, li_1002, li_1100, li_1386, li_1452, li_1518, li_9999, li_1000000, nm_eq, w_in, w1_in, w_out hz, bd_s, n10, ↓reduceIte]
    · obtain ⟨ho, hwo⟩ := w1_out (fu := fu) (by omega) hy
      refine ⟨mI 1, S, sI v 0 (nI 0), ?_, ?_, hno⟩
      · simp only [f_X12_slips, f_X12_slips_0, f_X12_slips_25, f_X12_slips_26, f_X12_slips_42, ↓lm_1, ↓lm_2, ↓lm_3, ↓lm_4, ↓lm_5, ↓lm_6, ↓lm_7, ↓lm_8, ↓lm_9, ↓lm_10, ↓lm_11, li_0, li_1, li_2, li_3, li_4, li_5, li_6, li_7, li_8, li_9, li_10, li_11, li_12, li_13, li_14, li_15, li_16, li_17, li_18, li_19, li_20, li_21, li_22, li_23, li_24, li_25, li_26, li_27, li_28, li_29, li_30, li_31, li_32, li_33, li_34, li_35, li_36, li_37, li_38, li_39, li_40, li_41, li_42, li_43, li_44, li_45, li_46, li_47, li_48, li_49, li_50, li_51, li_52, li_53, li_54, li_55, li_56, li_57, li_58, li_59, li_60, li_61, li_62, li_63, li_64, li_65, li_66, li_96, li_97, li_99, li_100, li_122, li_125, li_126, li_140, li_255, li_256, li_999, li_1000, li_1001, li_1002, li_1100, li_1386, li_1452, li_1518, li_9999, li_1000000, a1, a2, ↓reduceIte]
        by_cases c : y < nI 1
        · rw [if_pos c]
        · rw [if_neg c]
          rcases ho with h | h
          · exact absurd h c
          · rw [if_pos h]
      · simp (disch := omega) only [f_X13_slips, f_X13_slips_0, f_X13_slips_34, ↓lm_1, ↓lm_2, ↓lm_3, ↓lm_4, ↓lm_5, ↓lm_6, ↓lm_7, ↓lm_8, ↓lm_9, ↓lm_10, ↓lm_11, li_0, li_1, li_2, li_3, li_4, li_5, li_6, li_7, li_8, li_9, li_10, li_11, li_12, li_13, li_14, li_15, li_16, li_17, li_18, li_19, li_20, li_21, li_22, li_23, li_24, li_25, li_26, li_27, li_28, li_29, li_30, li_31, li_32, li_33, li_34, li_35, li_36, li_37, li_38, li_39, li_40, li_41, li_42, li_43, li_44, li_45, li_46, li_47, li_48, li_49, li_50, li_51, li_52, li_53, li_54, li_55, li_56, li_57, li_58, li_59, li_60, li_61, li_62, li_63, li_64, li_65, li_66, li_96, li_97, li_99, li_100, li_122, li_125, li_126, li_140, li_255, li_256, li_999, li_1000, li_1001, li_1002, li_1100, li_1386, li_1452, li_1518, li_9999, li_1000000, nm_eq, w_in, hwo, bd_s, n10, ↓reduceIte]
  · refine ⟨mI 1, S, sI v 0 (nI 0), ?_, ?_, hno⟩
    · simp only [f_X12_slips, f_X12_slips_0, f_X12_slips_25, f_X12_slips_26, f_X12_slips_42, ↓lm_1, ↓lm_2, ↓lm_3, ↓lm_4, ↓lm_5, ↓lm_6, ↓lm_7, ↓lm_8, ↓lm_9, ↓lm_10, ↓lm_11, li_0, li_1, li_2, li_3, li_4, li_5, li_6, li_7, li_8, li_9, li_10, li_11, li_12, li_13, li_14, li_15, li_16, li_17, li_18, li_19, li_20, li_21, li_22, li_23, li_24, li_25, li_26, li_27, li_28, li_29, li_30, li_31, li_32, li_33, li_34, li_35, li_36, li_37, li_38, li_39, li_40, li_41, li_42, li_43, li_44, li_45, li_46, li_47, li_48, li_49, li_50, li_51, li_52, li_53, li_54, li_55, li_56, li_57, li_58, li_59, li_60, li_61, li_62, li_63, li_64, li_65, li_66, li_96, li_97, li_99, li_100, li_122, li_125, li_126, li_140, li_255, li_256, li_999, li_1000, li_1001, li_1002, li_1100, li_1386, li_1452, li_1518, li_9999, li_1000000, ↓reduceIte]
      rcases w0_out (by omega) hx with c | ⟨c, c2⟩
      · rw [if_pos c]
      · rw [if_neg c, if_pos c2]
    · simp (disch := omega) only [f_X13_slips, f_X13_slips_0, f_X13_slips_34, ↓lm_1, ↓lm_2, ↓lm_3, ↓lm_4, ↓lm_5, ↓lm_6, ↓lm_7, ↓lm_8, ↓lm_9, ↓lm_10, ↓lm_11, li_0, li_1, li_2, li_3, li_4, li_5, li_6, li_7, li_8, li_9, li_10, li_11, li_12, li_13, li_14, li_15, li_16, li_17, li_18, li_19, li_20, li_21, li_22, li_23, li_24, li_25, li_26, li_27, li_28, li_29, li_30, li_31, li_32, li_33, li_34, li_35, li_36, li_37, li_38, li_39, li_40, li_41, li_42, li_43, li_44, li_45, li_46, li_47, li_48, li_49, li_50, li_51, li_52, li_53, li_54, li_55, li_56, li_57, li_58, li_59, li_60, li_61, li_62, li_63, li_64, li_65, li_66, li_96, li_97, li_99, li_100, li_122, li_125, li_126, li_140, li_255, li_256, li_999, li_1000, li_1001, li_1002, li_1100, li_1386, li_1452, li_1518, li_9999, li_1000000, nm_eq, w_out hx, bd_s, ↓reduceIte]
/-! bits of a number under 2^24, by the bytes -/
theorem and3 (x m : Nat) : x &&& m = ((x % 256) &&& (m % 256)) + 256 * (((x / 256) % 256) &&& ((m / 256) % 256)) + 65536 * ((x / 65536) &&& (m / 65536)) := by
  have h1 : (x &&& m) / 256 = x / 256 &&& m / 256 := Nat.and_div_two_pow (n := 8)
  have h2 : (x &&& m) % 256 = (x % 256) &&& (m % 256) := Nat.and_mod_two_pow (n := 8)
  have h3 : (x / 256 &&& m / 256) / 256 = x / 256 / 256 &&& m / 256 / 256 := Nat.and_div_two_pow (n := 8)
  have h4 : (x / 256 &&& m / 256) % 256 = (x / 256 % 256) &&& (m / 256 % 256) := Nat.and_mod_two_pow (n := 8)
  rw [Nat.div_div_eq_div_mul, Nat.div_div_eq_div_mul] at h3
  rw [← h2, ← h4, ← h1, ← h3, ← h1]
  omega
def t1 (a : Nat) : Nat := a - (a / 2 &&& 85)
def t2 (a : Nat) : Nat := (a &&& 51) + (a / 4 &&& 51)
def t3 (a : Nat) : Nat := (a + a / 16) &&& 15
theorem tA {a : Nat} (h : a < 256) : (a / 2 &&& 85) ≤ a ∧ (a / 2 + 128 * 1 &&& 85) = (a / 2 &&& 85) ∧ (a / 2 &&& 21845) = (a / 2 &&& 85) ∧ t2 (t1 a) ≤ 68 ∧ t2 (t1 a) % 16 ≤ 4 ∧ t3 (t2 (t1 a)) = pcn a ∧ pcn a ≤ 8 := by
  have h : (List.range 256).all (fun a => decide ((a / 2 &&& 85) ≤ a ∧ (a / 2 + 128 * 1 &&& 85) = (a / 2 &&& 85) ∧ (a / 2 &&& 21845) = (a / 2 &&& 85) ∧ t2 (t1 a) ≤ 68 ∧ t2 (t1 a) % 16 ≤ 4 ∧ t3 (t2 (t1 a)) = pcn a ∧ pcn a ≤ 8)) = true := by decide +kernel
  exact co_dec h ‹_›
theorem tB {a : Nat} (h : a < 256) : ((List.range 4).all fun e => decide ((a / 4 + 64 * e &&& 51) = (a / 4 &&& 51))) = true ∧ (a &&& 13107) = (a &&& 51) ∧ (a / 4 &&& 13107) = (a / 4 &&& 51) := by
  have h : (List.range 256).all (fun a => decide (((List.range 4).all fun e => decide ((a / 4 + 64 * e &&& 51) = (a / 4 &&& 51))) = true ∧ (a &&& 13107) = (a &&& 51) ∧ (a / 4 &&& 13107) = (a / 4 &&& 51))) = true := by decide +kernel
  exact co_dec h ‹_›
theorem and15 (v e : Nat) : v + 16 * e &&& 15 = v &&& 15 := by
  rw [show (15 : Nat) = 2 ^ 4 - 1 from rfl, Nat.and_two_pow_sub_one_eq_mod, Nat.and_two_pow_sub_one_eq_mod]; omega
theorem and3855 {v : Nat} (h : v < 256) : v &&& 3855 = v &&& 15 := by
  have h : (List.range 256).all (fun v => decide (v &&& 3855 = v &&& 15)) = true := by decide +kernel
  exact co_dec h ‹_›
def sw5 (y : Nat) : Nat := (y + y / 256 + (y + y / 256) / 65536) &&& 63
def sw3 (y : Nat) : Nat := (y + y / 16) &&& 252645135
def sw2 (y : Nat) : Nat := (y &&& 858993459) + (y / 4 &&& 858993459)
def sw1 (x : Nat) : Nat := x - (x / 2 &&& 1431655765)
theorem sw1_b {a b c : Nat} (ha : a < 256) (hb : b < 256) (hc : c < 256) : sw1 (a + 256 * b + 65536 * c) = t1 a + 256 * t1 b + 65536 * t1 c := by
  obtain ⟨a1, a2, a3, _⟩ := tA ha
  obtain ⟨b1, b2, b3, _⟩ := tA hb
  obtain ⟨c1, c2, c3, _⟩ := tA hc
  have e0 : (a + 256 * b + 65536 * c) / 2 % 256 = a / 2 + 128 * (b % 2) := by omega
  have e1 : (a + 256 * b + 65536 * c) / 2 / 256 % 256 = b / 2 + 128 * (c % 2) := by omega
  have e2 : (a + 256 * b + 65536 * c) / 2 / 65536 = c / 2 := by omega
  have k1 : (a / 2 + 128 * (b % 2) &&& 85) = (a / 2 &&& 85) := by
    rcases (show b % 2 = 0 ∨ b % 2 = 1 by omega) with q | q
    · rw [q, Nat.mul_zero, Nat.add_zero]
    · rw [q]; exact a2
  have k2 : (b / 2 + 128 * (c % 2) &&& 85) = (b / 2 &&& 85) := by
    rcases (show c % 2 = 0 ∨ c % 2 = 1 by omega) with q | q
    · rw [q, Nat.mul_zero, Nat.add_zero]
    · rw [q]; exact b2
  rw [sw1, and3, e0, e1, e2]
  simp only [Nat.reduceMod, Nat.reduceDiv]
  rw [k1, k2, c3]
  simp only [t1]
  omega
theorem sw2_b {a b c : Nat} (ha : a < 256) (hb : b < 256) (hc : c < 256) : sw2 (a + 256 * b + 65536 * c) = t2 a + 256 * t2 b + 65536 * t2 c := by
  obtain ⟨a1, a2, a3⟩ := tB ha
  obtain ⟨b1, b2, b3⟩ := tB hb
  obtain ⟨c1, c2, c3⟩ := tB hc
  have k1 : (a / 4 + 64 * (b % 4) &&& 51) = (a / 4 &&& 51) := co_dec a1 (Nat.mod_lt _ (by decide))
  have k2 : (b / 4 + 64 * (c % 4) &&& 51) = (b / 4 &&& 51) := co_dec b1 (Nat.mod_lt _ (by decide))
  have d0 : (a + 256 * b + 65536 * c) % 256 = a := by omega
  have d1 : (a + 256 * b + 65536 * c) / 256 % 256 = b := by omega
  have d2 : (a + 256 * b + 65536 * c) / 65536 = c := by omega
  have e0 : (a + 256 * b + 65536 * c) / 4 % 256 = a / 4 + 64 * (b % 4) := by omega
  have e1 : (a + 256 * b + 65536 * c) / 4 / 256 % 256 = b / 4 + 64 * (c % 4) := by omega
  have e2 : (a + 256 * b + 65536 * c) / 4 / 65536 = c / 4 := by omega
  rw [sw2, and3, and3 ((a + 256 * b + 65536 * c) / 4), d0, d1, d2, e0, e1, e2]
  simp only [Nat.reduceMod, Nat.reduceDiv]
  rw [k1, k2, c2, c3]
  simp only [t2]
  omega
theorem sw3_b {a b c : Nat} (ha : a ≤ 68) (hb : b ≤ 68) (hc : c ≤ 68) (hb4 : b % 16 ≤ 4) (hc4 : c % 16 ≤ 4) : sw3 (a + 256 * b + 65536 * c) = t3 a + 256 * t3 b + 65536 * t3 c := by
  generalize hy : a + 256 * b + 65536 * c = y
  have e0 : (y + y / 16) % 256 = (a + a / 16) + 16 * (b % 16) := by omega
  have e1 : (y + y / 16) / 256 % 256 = (b + b / 16) + 16 * (c % 16) := by omega
  have e2 : (y + y / 16) / 65536 = c + c / 16 := by omega
  rw [sw3, and3, e0, e1, e2]
  simp only [Nat.reduceMod, Nat.reduceDiv]
  rw [and15, and15, and3855 (by omega)]
  rfl
theorem sw5_b {a b c : Nat} (ha : a ≤ 8) (hb : b ≤ 8) (hc : c ≤ 8) : sw5 (a + 256 * b + 65536 * c) = a + b + c := by
  generalize hy : a + 256 * b + 65536 * c = y
  have g1 : y / 256 = b + 256 * c := by omega
  have g2 : (y + (b + 256 * c)) / 65536 = c := by omega
  rw [sw5, show (63 : Nat) = 2 ^ 6 - 1 from rfl, Nat.and_two_pow_sub_one_eq_mod, g1, g2]
  omega
theorem bs_add (x m : Nat) : ∀ k, bs x (m + k) = bs x m + bs (x / 2 ^ m) k := by
  intro k
  induction k with
  | zero => rfl
  | succ k ih =>
    have e : bt x (m + k) = bt (x / 2 ^ m) k := by
      simp only [bt]
      rw [Nat.pow_add, Nat.div_div_eq_div_mul]
    show bs x (m + k) + bt x (m + k) = bs x m + (bs (x / 2 ^ m) k + bt (x / 2 ^ m) k)
    rw [ih, e]; omega
theorem bs_mod (x m : Nat) : ∀ k, k ≤ m → bs (x % 2 ^ m) k = bs x k := by
  intro k
  induction k with
  | zero => intro _; rfl
  | succ k ih =>
    intro hk
    have e : bt (x % 2 ^ m) k = bt x k := by
      have h1 := bt_tb (x % 2 ^ m) k
      have h2 := bt_tb x k
      rw [Nat.testBit_mod_two_pow] at h1
      have h3 : (decide (k < m) && x.testBit k) = x.testBit k := by simp [show k < m by omega]
      rw [h3] at h1
      cases hT : x.testBit k
      · rw [hT] at h1 h2
        rcases bt_01 (x % 2 ^ m) k with q | q
        · rcases bt_01 x k with r | r
          · omega
          · exact absurd (h2.mp r) (by decide)
        · exact absurd (h1.mp q) (by decide)
      · rw [h1.mpr hT, h2.mpr hT]
    simp only [bs]; rw [ih (by omega), e]
theorem bs_z : ∀ k, bs 0 k = 0 := by
  intro k
  induction k with
  | zero => rfl
  | succ k ih => simp only [bs]; rw [ih, bt, Nat.zero_div]
theorem pcn_b {a b c : Nat} (ha : a < 256) (hb : b < 256) (hc : c < 256) : pcn (a + 256 * b + 65536 * c) = pcn a + pcn b + pcn c := by
  have one : ∀ a, a < 256 → pcn a = bs a 8 := by
    intro a ha
    rw [pcn, bs_add a 8 22, show a / 2 ^ 8 = 0 by omega, bs_z]; rfl
  rw [one a ha, one b hb, one c hc, pcn, bs_add _ 8 22, bs_add _ 8 14]
  have e1 : bs (a + 256 * b + 65536 * c) 8 = bs a 8 := by
    rw [← bs_mod _ 8 8 (Nat.le_refl _)]; congr 1; omega
  have e2 : bs ((a + 256 * b + 65536 * c) / 2 ^ 8) 8 = bs b 8 := by
    rw [← bs_mod _ 8 8 (Nat.le_refl _)]; congr 1; omega
  have e3 : (a + 256 * b + 65536 * c) / 2 ^ 8 / 2 ^ 8 = c := by omega
  rw [e1, e2, e3, bs_add c 8 6, show c / 2 ^ 8 = 0 by omega, bs_z]; omega
theorem sw_all {x : Nat} (hx : x < 16777216) : sw5 (sw3 (sw2 (sw1 x))) = pcn x := by
  have ha : x % 256 < 256 := Nat.mod_lt _ (by decide)
  have hb : x / 256 % 256 < 256 := Nat.mod_lt _ (by decide)
  have hc : x / 65536 < 256 := by omega
  have e : x = x % 256 + 256 * (x / 256 % 256) + 65536 * (x / 65536) := by omega
  generalize x % 256 = a at *
  generalize x / 256 % 256 = b at *
  generalize x / 65536 = c at *
  subst e
  obtain ⟨_, _, _, a4, a5, a6, a7⟩ := tA ha
  obtain ⟨_, _, _, b4, b5, b6, b7⟩ := tA hb
  obtain ⟨_, _, _, c4, c5, c6, c7⟩ := tA hc
  have l : ∀ a, a < 256 → t1 a < 256 := fun a h => Nat.lt_of_le_of_lt (Nat.sub_le _ _) h
  rw [sw1_b ha hb hc, sw2_b (l a ha) (l b hb) (l c hc), sw3_b a4 b4 c4 b5 c5, a6, b6, c6, sw5_b a7 b7 c7, pcn_b ha hb hc]
theorem us1 {n : Nat} (h : n < 4294967296) : ((nI n).toUInt32 >>> ((nI 1).toUInt32 &&& (nI 31).toUInt32)).toInt32 = nI (n / 2) := pk_ushrN h _ 1 (by decide)
theorem us2 {n : Nat} (h : n < 4294967296) : ((nI n).toUInt32 >>> ((nI 2).toUInt32 &&& (nI 31).toUInt32)).toInt32 = nI (n / 4) := pk_ushrN h _ 2 (by decide)
theorem us4 {n : Nat} (h : n < 4294967296) : ((nI n).toUInt32 >>> ((nI 4).toUInt32 &&& (nI 31).toUInt32)).toInt32 = nI (n / 16) := pk_ushrN h _ 4 (by decide)
theorem us8 {n : Nat} (h : n < 4294967296) : ((nI n).toUInt32 >>> ((nI 8).toUInt32 &&& (nI 31).toUInt32)).toInt32 = nI (n / 256) := pk_ushrN h _ 8 (by decide)
theorem us16 {n : Nat} (h : n < 4294967296) : ((nI n).toUInt32 >>> ((nI 16).toUInt32 &&& (nI 31).toUInt32)).toInt32 = nI (n / 65536) := pk_ushrN h _ 16 (by decide)
theorem bcN {fu x : Nat} (hx : x < 16777216) : f_J6_bitCount_0f7a4 fu (nI x) = some (nI (pcn x)) := by
  have k1 : (1431655765 : Int32) = nI 1431655765 := by decide
  have k2 : (858993459 : Int32) = nI 858993459 := by decide
  have k3 : (252645135 : Int32) = nI 252645135 := by decide
  have k5 : (63 : Int32) = nI 63 := by decide
  have s1 : (x / 2 &&& 1431655765) ≤ x := Nat.le_trans Nat.and_le_left (Nat.div_le_self _ _)
  have l1 : sw1 x < 16777216 := Nat.lt_of_le_of_lt (Nat.sub_le _ _) hx
  have l2 : sw2 (sw1 x) < 2147483648 := by
    have a1 : (sw1 x &&& 858993459) ≤ sw1 x := Nat.and_le_left
    have a2 : (sw1 x / 4 &&& 858993459) ≤ sw1 x / 4 := Nat.and_le_left
    unfold sw2; omega
  have l3 : sw3 (sw2 (sw1 x)) ≤ 252645135 := Nat.and_le_right
  have e1 : nI x - (nI (x / 2) &&& nI 1431655765) = nI (sw1 x) := by rw [nI_andN (by omega) (by omega), pk_sub s1]; rfl
  have e2 : (nI (sw1 x) &&& nI 858993459) + (nI (sw1 x / 4) &&& nI 858993459) = nI (sw2 (sw1 x)) := by rw [nI_andN (by omega) (by omega), nI_andN (by omega) (by omega), nI_add]; rfl
  have e3 : nI (sw2 (sw1 x) + sw2 (sw1 x) / 16) &&& nI 252645135 = nI (sw3 (sw2 (sw1 x))) := by rw [nI_andN (by omega) (by omega)]; rfl
  generalize hg : sw3 (sw2 (sw1 x)) = y at *
  have e5 : (nI (y + y / 256) + nI ((y + y / 256) / 65536)) &&& nI 63 = nI (pcn x) := by
    rw [nI_add, nI_andN (by omega) (by omega), ← sw_all hx, hg]; rfl
  simp (disch := omega) only [f_J6_bitCount_0f7a4, f_J6_bitCount_0f7a4_0, ↓lm_1, ↓lm_2, ↓lm_3, ↓lm_4, ↓lm_5, ↓lm_6, ↓lm_7, ↓lm_8, ↓lm_9, ↓lm_10, ↓lm_11, li_0, li_1, li_2, li_3, li_4, li_5, li_6, li_7, li_8, li_9, li_10, li_11, li_12, li_13, li_14, li_15, li_16, li_17, li_18, li_19, li_20, li_21, li_22, li_23, li_24, li_25, li_26, li_27, li_28, li_29, li_30, li_31, li_32, li_33, li_34, li_35, li_36, li_37, li_38, li_39, li_40, li_41, li_42, li_43, li_44, li_45, li_46, li_47, li_48, li_49, li_50, li_51, li_52, li_53, li_54, li_55, li_56, li_57, li_58, li_59, li_60, li_61, li_62, li_63, li_64, li_65, li_66, li_96, li_97, li_99, li_100, li_122, li_125, li_126, li_140, li_255, li_256, li_999, li_1000, li_1001, li_1002, li_1100, li_1386, li_1452, li_1518, li_9999, li_1000000, k1, k2, k3, k5, nm_eq, us1, us2, us4, us8, us16, e1, e2, e3, nI_add]
  rw [nI_add] at e5
  rw [e5]
