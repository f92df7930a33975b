/-! ===== the class's hall: STEAL, PAINT, SELL, GUARD, NIGHT, and halls copied ===== -/
section X3
variable {fu a g : Nat} {S : ST} {G : GP} {q : HP} {w : GV} {t p r s : Nat}
theorem CH_swap (hw : CH w q) (hG : okG G) (hq : okq G q) (ht : t < nt G) (hp : p < qn q) (hh : qh q p = t) : CH (if kd G t = 2 then sA (sI (sA (sA w 4 p (nI 5)) 4 (qj q) (nI t)) 8 (nI p)) 0 (qj q) (nI (qo q (qj q) &&& (qo q (qj q) - 1))) else sI (sA (sA w 4 p (nI 5)) 4 (qj q) (nI t)) 8 (nI p)) (pswap G q t p) := by
  obtain ⟨c0, c1, c2, c3, c4, c5, c6⟩ := hw
  have key : ∀ (o : Nat → Nat) (w' : GV), (∀ x, x < qn q → gA w' 0 x = nI (o x)) → (∀ k, k ≠ 0 → gA w' k = gA (sA (sA w 4 p (nI 5)) 4 (qj q) (nI t)) k) → (∀ k, gI w' k = gI (sI w 8 (nI p)) k) → gC w' = 3 → CH w' (mkq (qn q) p (qg q) o (qw q) (qs q) (upN (upN (qh q) p 5) (qj q) t) (qu q) (qc q) (qt q)) := by
    intro o w' h0 hA hI hC
    refine ⟨hC, ?_, ?_, ?_, ?_, fun x hx => ⟨h0 x hx, ?_, ?_, ?_, fun hz => ?_⟩, fun x hx => ?_⟩
    · rw [hI]; exact c1
    · rw [hI]; exact c2
    · rw [hI]; exact gI_sI w 8 8 (nI p)
    · rw [hI]; exact c4
    · rw [hA 4 (by decide), gA_sA, gA_sA]
      simp only [qn_mk, qj_mk, qg_mk, qo_mk, qw_mk, qs_mk, qh_mk, qu_mk, qc_mk, qt_mk, upN]
      by_cases e : x = qj q
      · rw [if_pos e, if_pos e]
      · rw [if_neg e, if_neg e]
        by_cases e2 : x = p
        · rw [if_pos e2, if_pos e2]
        · rw [if_neg e2, if_neg e2]; exact (c5 x hx).2.1
    · rw [hA 3 (by decide), gA_sAn _ _ _ (by decide), gA_sAn _ _ _ (by decide)]; exact (c5 x hx).2.2.1
    · rw [hA 2 (by decide), gA_sAn _ _ _ (by decide), gA_sAn _ _ _ (by decide)]; exact (c5 x hx).2.2.2.1
    · rw [hA 1 (by decide), gA_sAn _ _ _ (by decide), gA_sAn _ _ _ (by decide)]; exact (c5 x hx).2.2.2.2 hz
    · rw [hA 5 (by decide), gA_sAn _ _ _ (by decide), gA_sAn _ _ _ (by decide)]; exact c6 x hx
  have ho : ∀ x, x < qn q → gA (sI (sA (sA w 4 p (nI 5)) 4 (qj q) (nI t)) 8 (nI p)) 0 x = nI (qo q x) := by
    intro x hx
    rw [gA_sI, gA_sAn _ _ _ (by decide), gA_sAn _ _ _ (by decide)]; exact (c5 x hx).1
  by_cases k2 : kd G t = 2
  · simp only [pswap, k2, ↓reduceIte]
    refine key _ _ (fun x hx => ?_) (fun k hk => ?_) (fun k => ?_) c0
    · rw [gA_sA]
      by_cases e : x = qj q
      · rw [if_pos e, e, upN_s]
      · rw [if_neg e, upN_n e]; exact ho x hx
    · rw [gA_sAn _ _ _ hk]; rfl
    · rfl
  · simp only [pswap, k2, ↓reduceIte]
    exact key _ _ ho (fun k hk => rfl) (fun k => rfl) c0
theorem gI_swap (w : GV) (p j : Nat) (x y z : Int32) {k : Nat} (hk : 10 ≤ k) : gI (sI (sA (sA w 4 p x) 4 j y) 8 z) k = gI w k := by
  rw [gI_sI, if_neg (by omega)]; rfl
theorem x3_swap (hw : CH (S a) q) (hq : okq G q) (hg : CG S g G) (hG : okG G) (ht : t < nt G) (hp : p < qn q) : (qh q p = t ∧ cmi G q t ∧ ∃ S', f_X3_swap fu S a g (nI t) (nI p) = some (nI (qj q), S') ∧ fra a S S' ∧ CH (S' a) (pswap G q t p)) ∨ (¬ (qh q p = t ∧ cmi G q t) ∧ f_X3_swap fu S a g (nI t) (nI p) = some (mI 1, S)) := by
  have h8 := hq.1.2.1
  have h5 := hG.2.1
  have hj := hq.1.2.2.1
  have hga : g ≠ a := fun e => by have h1 := hg.1; have h2 := hw.1; rw [e, h2] at h1; exact absurd h1 (by decide)
  by_cases hh : qh q p = t
  · rcases x3_canComeIn (fu := fu) hw hg hG ht with ⟨hc, e⟩ | ⟨hc, e⟩
    · left
      have hk := (hG.2.2.2.1 t ht).1
      refine ⟨hh, hc, st S a (if kd G t = 2 then sA (sI (sA (sA (S a) 4 p (nI 5)) 4 (qj q) (nI t)) 8 (nI p)) 0 (qj q) (nI (qo q (qj q) &&& (qo q (qj q) - 1))) else sI (sA (sA (S a) 4 p (nI 5)) 4 (qj q) (nI t)) 8 (nI p)), ?_, ?_, ?_⟩
      · have eo : gA (sI (sA (sA (S a) 4 p (nI 5)) 4 (qj q) (nI t)) 8 (nI p)) 0 (qj q) = nI (qo q (qj q)) := by
          rw [gA_sI, gA_sAn _ _ _ (by decide), gA_sAn _ _ _ (by decide)]; exact (hw.2.2.2.2.2.1 _ hj).1
        simp (disch := omega) only [f_X3_swap_76, f_X3_swap_19, f_X3_swap_0, f_X3_swap, ↓lm_1, ↓lm_2, ↓lm_3, ↓lm_4, ↓lm_5, ↓lm_6, ↓lm_7, ↓lm_8, ↓lm_9, ↓lm_10, ↓lm_11, li_0, li_1, li_2, li_3, li_4, li_5, li_6, li_7, li_8, li_9, li_10, li_11, li_12, li_13, li_14, li_15, li_16, li_17, li_18, li_19, li_20, li_21, li_22, li_23, li_24, li_25, li_26, li_27, li_28, li_29, li_30, li_31, li_32, li_33, li_34, li_35, li_36, li_37, li_38, li_39, li_40, li_41, li_42, li_43, li_44, li_45, li_46, li_47, li_48, li_49, li_50, li_51, li_52, li_53, li_54, li_55, li_56, li_57, li_58, li_59, li_60, li_61, li_62, li_63, li_64, li_65, li_66, li_96, li_97, li_99, li_100, li_122, li_125, li_126, li_140, li_255, li_256, li_999, li_1000, li_1001, li_1002, li_1100, li_1386, li_1452, li_1518, li_9999, li_1000000, x3_isHeld_in hw hq hg hG ht hp, hh, e, bd_s, n10, Nat.one_ne_zero, ↓reduceIte, nm_eq, hw.2.2.2.1, nI_clamp, inb_n, ck_t, st_same, st_st, st_ne _ _ hga, (hg.2.2.2.2.1 t ht).1, nI_eq, eo, mend (hq.2.1 _ hj).1]
        split <;> rfl
      · refine fra_st (fra_refl a S) ?_ ?_
        · split <;> rfl
        · intro k hk
          split
          · exact gI_swap _ _ _ _ _ _ hk
          · exact gI_swap _ _ _ _ _ _ hk
      · rw [st_same]; exact CH_swap hw hG hq ht hp hh
    · right
      refine ⟨fun c => hc c.2, ?_⟩
      simp only [f_X3_swap_76, f_X3_swap_19, f_X3_swap_0, f_X3_swap, ↓lm_1, ↓lm_2, ↓lm_3, ↓lm_4, ↓lm_5, ↓lm_6, ↓lm_7, ↓lm_8, ↓lm_9, ↓lm_10, ↓lm_11, li_0, li_1, li_2, li_3, li_4, li_5, li_6, li_7, li_8, li_9, li_10, li_11, li_12, li_13, li_14, li_15, li_16, li_17, li_18, li_19, li_20, li_21, li_22, li_23, li_24, li_25, li_26, li_27, li_28, li_29, li_30, li_31, li_32, li_33, li_34, li_35, li_36, li_37, li_38, li_39, li_40, li_41, li_42, li_43, li_44, li_45, li_46, li_47, li_48, li_49, li_50, li_51, li_52, li_53, li_54, li_55, li_56, li_57, li_58, li_59, li_60, li_61, li_62, li_63, li_64, li_65, li_66, li_96, li_97, li_99, li_100, li_122, li_125, li_126, li_140, li_255, li_256, li_999, li_1000, li_1001, li_1002, li_1100, li_1386, li_1452, li_1518, li_9999, li_1000000, x3_isHeld_in hw hq hg hG ht hp, hh, e, bd_s, n10, Nat.one_ne_zero, ↓reduceIte]
  · right
    refine ⟨fun c => hh c.1, ?_⟩
    simp only [f_X3_swap_76, f_X3_swap_19, f_X3_swap_0, f_X3_swap, ↓lm_1, ↓lm_2, ↓lm_3, ↓lm_4, ↓lm_5, ↓lm_6, ↓lm_7, ↓lm_8, ↓lm_9, ↓lm_10, ↓lm_11, li_0, li_1, li_2, li_3, li_4, li_5, li_6, li_7, li_8, li_9, li_10, li_11, li_12, li_13, li_14, li_15, li_16, li_17, li_18, li_19, li_20, li_21, li_22, li_23, li_24, li_25, li_26, li_27, li_28, li_29, li_30, li_31, li_32, li_33, li_34, li_35, li_36, li_37, li_38, li_39, li_40, li_41, li_42, li_43, li_44, li_45, li_46, li_47, li_48, li_49, li_50, li_51, li_52, li_53, li_54, li_55, li_56, li_57, li_58, li_59, li_60, li_61, li_62, li_63, li_64, li_65, li_66, li_96, li_97, li_99, li_100, li_122, li_125, li_126, li_140, li_255, li_256, li_999, li_1000, li_1001, li_1002, li_1100, li_1386, li_1452, li_1518, li_9999, li_1000000, x3_isHeld_in hw hq hg hG ht hp, hh, bd_s, ↓reduceIte]
theorem x3_swap_out (hw : CH (S a) q) (hq : okq G q) (hg : CG S g G) (hG : okG G) {x y : Int32} (hx : ¬ ((∃ j, j < nt G ∧ x = nI j) ∧ ∃ j, j < qn q ∧ y = nI j)) : f_X3_swap fu S a g x y = some (mI 1, S) := by
  simp only [f_X3_swap_76, f_X3_swap_19, f_X3_swap_0, f_X3_swap, ↓lm_1, ↓lm_2, ↓lm_3, ↓lm_4, ↓lm_5, ↓lm_6, ↓lm_7, ↓lm_8, ↓lm_9, ↓lm_10, ↓lm_11, li_0, li_1, li_2, li_3, li_4, li_5, li_6, li_7, li_8, li_9, li_10, li_11, li_12, li_13, li_14, li_15, li_16, li_17, li_18, li_19, li_20, li_21, li_22, li_23, li_24, li_25, li_26, li_27, li_28, li_29, li_30, li_31, li_32, li_33, li_34, li_35, li_36, li_37, li_38, li_39, li_40, li_41, li_42, li_43, li_44, li_45, li_46, li_47, li_48, li_49, li_50, li_51, li_52, li_53, li_54, li_55, li_56, li_57, li_58, li_59, li_60, li_61, li_62, li_63, li_64, li_65, li_66, li_96, li_97, li_99, li_100, li_122, li_125, li_126, li_140, li_255, li_256, li_999, li_1000, li_1001, li_1002, li_1100, li_1386, li_1452, li_1518, li_9999, li_1000000, x3_isHeld_out hw hq hg hG hx, bd_s, ↓reduceIte]
theorem CH_sell (hw : CH w q) (ht : t < 5) : CH (sA (sA w 5 t (qc q t + wof G q p)) 4 p (nI 6)) (psell G q t p) := by
  obtain ⟨c0, c1, c2, c3, c4, c5, c6⟩ := hw
  refine ⟨c0, c1, c2, c3, c4, fun x hx => ⟨?_, ?_, ?_, ?_, fun hz => ?_⟩, fun x hx => ?_⟩
  · rw [gA_sAn _ _ _ (by decide), gA_sAn _ _ _ (by decide)]; exact (c5 x hx).1
  · rw [gA_sA, gA_sAn _ _ _ (by decide)]
    simp only [psell, qn_mk, qj_mk, qg_mk, qo_mk, qw_mk, qs_mk, qh_mk, qu_mk, qc_mk, qt_mk, upN]
    by_cases e : x = p
    · rw [if_pos e, if_pos e]
    · rw [if_neg e, if_neg e]; exact (c5 x hx).2.1
  · rw [gA_sAn _ _ _ (by decide), gA_sAn _ _ _ (by decide)]; exact (c5 x hx).2.2.1
  · rw [gA_sAn _ _ _ (by decide), gA_sAn _ _ _ (by decide)]; exact (c5 x hx).2.2.2.1
  · rw [gA_sAn _ _ _ (by decide), gA_sAn _ _ _ (by decide)]; exact (c5 x hx).2.2.2.2 hz
  · rw [gA_sAn _ _ _ (by decide), gA_sA]
    simp only [psell, qn_mk, qj_mk, qg_mk, qo_mk, qw_mk, qs_mk, qh_mk, qu_mk, qc_mk, qt_mk, upd]
    by_cases e : x = t
    · rw [if_pos e, if_pos e]
    · rw [if_neg e, if_neg e]; exact c6 x hx
theorem x3_sale (hf : 1101 ≤ fu) (hw : CH (S a) q) (hq : okq G q) (hg : CG S g G) (hG : okG G) (ht : t < nt G) (hp : p < qn q) : (qh q p = t ∧ ∃ S', f_X3_sale fu S a g (nI t) (nI p) = some (wof G q p, S') ∧ fra a S S' ∧ CH (S' a) (psell G q t p)) ∨ (¬ qh q p = t ∧ f_X3_sale fu S a g (nI t) (nI p) = some (mI 1, S)) := by
  have h8 := hq.1.2.1
  have h5 := hG.2.1
  by_cases hh : qh q p = t
  · left
    obtain ⟨S1, e, hl⟩ := x3_worthOf hf hw hq hg hp
    have ea := lw_at hl (b := a) (by rw [hw.1]; decide)
    refine ⟨hh, st S1 a (sA (sA (S a) 5 t (qc q t + wof G q p)) 4 p (nI 6)), ?_, ?_, ?_⟩
    · simp (disch := omega) only [f_X3_sale, f_X3_sale_0, ↓lm_1, ↓lm_2, ↓lm_3, ↓lm_4, ↓lm_5, ↓lm_6, ↓lm_7, ↓lm_8, ↓lm_9, ↓lm_10, ↓lm_11, li_0, li_1, li_2, li_3, li_4, li_5, li_6, li_7, li_8, li_9, li_10, li_11, li_12, li_13, li_14, li_15, li_16, li_17, li_18, li_19, li_20, li_21, li_22, li_23, li_24, li_25, li_26, li_27, li_28, li_29, li_30, li_31, li_32, li_33, li_34, li_35, li_36, li_37, li_38, li_39, li_40, li_41, li_42, li_43, li_44, li_45, li_46, li_47, li_48, li_49, li_50, li_51, li_52, li_53, li_54, li_55, li_56, li_57, li_58, li_59, li_60, li_61, li_62, li_63, li_64, li_65, li_66, li_96, li_97, li_99, li_100, li_122, li_125, li_126, li_140, li_255, li_256, li_999, li_1000, li_1001, li_1002, li_1100, li_1386, li_1452, li_1518, li_9999, li_1000000, x3_isHeld_in hw hq hg hG ht hp, hh, e, bd_s, bd2_s, n10, Nat.one_ne_zero, ↓reduceIte, nm_eq, nI_clamp, inb_n, ck_t, st_same, st_st, ea, hw.2.2.2.2.2.2 t (by omega)]
    · exact fra_st (fra_lw hl) (by rw [ea]; rfl) (fun k _ => by rw [ea]; rfl)
    · rw [st_same]; exact CH_sell hw (by omega)
  · right
    refine ⟨hh, ?_⟩
    simp only [f_X3_sale, f_X3_sale_0, ↓lm_1, ↓lm_2, ↓lm_3, ↓lm_4, ↓lm_5, ↓lm_6, ↓lm_7, ↓lm_8, ↓lm_9, ↓lm_10, ↓lm_11, li_0, li_1, li_2, li_3, li_4, li_5, li_6, li_7, li_8, li_9, li_10, li_11, li_12, li_13, li_14, li_15, li_16, li_17, li_18, li_19, li_20, li_21, li_22, li_23, li_24, li_25, li_26, li_27, li_28, li_29, li_30, li_31, li_32, li_33, li_34, li_35, li_36, li_37, li_38, li_39, li_40, li_41, li_42, li_43, li_44, li_45, li_46, li_47, li_48, li_49, li_50, li_51, li_52, li_53, li_54, li_55, li_56, li_57, li_58, li_59, li_60, li_61, li_62, li_63, li_64, li_65, li_66, li_96, li_97, li_99, li_100, li_122, li_125, li_126, li_140, li_255, li_256, li_999, li_1000, li_1001, li_1002, li_1100, li_1386, li_1452, li_1518, li_9999, li_1000000, x3_isHeld_in hw hq hg hG ht hp, hh, bd_s, ↓reduceIte]
theorem x3_sale_out (hw : CH (S a) q) (hq : okq G q) (hg : CG S g G) (hG : okG G) {x y : Int32} (hx : ¬ ((∃ j, j < nt G ∧ x = nI j) ∧ ∃ j, j < qn q ∧ y = nI j)) : f_X3_sale fu S a g x y = some (mI 1, S) := by
  simp only [f_X3_sale, f_X3_sale_0, ↓lm_1, ↓lm_2, ↓lm_3, ↓lm_4, ↓lm_5, ↓lm_6, ↓lm_7, ↓lm_8, ↓lm_9, ↓lm_10, ↓lm_11, li_0, li_1, li_2, li_3, li_4, li_5, li_6, li_7, li_8, li_9, li_10, li_11, li_12, li_13, li_14, li_15, li_16, li_17, li_18, li_19, li_20, li_21, li_22, li_23, li_24, li_25, li_26, li_27, li_28, li_29, li_30, li_31, li_32, li_33, li_34, li_35, li_36, li_37, li_38, li_39, li_40, li_41, li_42, li_43, li_44, li_45, li_46, li_47, li_48, li_49, li_50, li_51, li_52, li_53, li_54, li_55, li_56, li_57, li_58, li_59, li_60, li_61, li_62, li_63, li_64, li_65, li_66, li_96, li_97, li_99, li_100, li_122, li_125, li_126, li_140, li_255, li_256, li_999, li_1000, li_1001, li_1002, li_1100, li_1386, li_1452, li_1518, li_9999, li_1000000, x3_isHeld_out hw hq hg hG hx, bd_s, ↓reduceIte]
/-- a piece more -/
def padd (q : HP) (of sl t : Nat) : HP := mkq (qn q + 1) (qj q) (qg q) (upN (qo q) (qn q) (qo q of ^^^ sl)) (upN (qw q) (qn q) sl) (upN (qs q) (qn q) of) (upN (qh q) (qn q) t) (upd (qu q) (qn q) (nI 0)) (qc q) (qt q)
theorem x3_addPiece (hw : CH w q) (hq : okq G q) (h8 : qn q < 8) (hp : p < qn q) (hs : s < 256) : ∃ w', f_X3_addPiece fu w (nI p) (nI s) (nI t) = some w' ∧ CH w' (padd q p s t) ∧ (∀ k, 10 ≤ k → gI w' k = gI w k) := by
  have b1 := (hq.2.1 p hp).1
  have e8 : ¬ nI 8 ≤ nI (qn q) := nI_ge h8 (by decide)
  have h1 := hq.1.1
  refine ⟨sI (sA (sA (sA (sA (sA w 0 (qn q) (nI (qo q p ^^^ s))) 1 (qn q) (nI s)) 2 (qn q) (nI p)) 3 (qn q) (nI 0)) 4 (qn q) (nI t)) 7 (nI (qn q + 1)), ?_, ?_, ?_⟩
  · simp (disch := omega) only [f_X3_addPiece, f_X3_addPiece_0, ↓lm_1, ↓lm_2, ↓lm_3, ↓lm_4, ↓lm_5, ↓lm_6, ↓lm_7, ↓lm_8, ↓lm_9, ↓lm_10, ↓lm_11, li_0, li_1, li_2, li_3, li_4, li_5, li_6, li_7, li_8, li_9, li_10, li_11, li_12, li_13, li_14, li_15, li_16, li_17, li_18, li_19, li_20, li_21, li_22, li_23, li_24, li_25, li_26, li_27, li_28, li_29, li_30, li_31, li_32, li_33, li_34, li_35, li_36, li_37, li_38, li_39, li_40, li_41, li_42, li_43, li_44, li_45, li_46, li_47, li_48, li_49, li_50, li_51, li_52, li_53, li_54, li_55, li_56, li_57, li_58, li_59, li_60, li_61, li_62, li_63, li_64, li_65, li_66, li_96, li_97, li_99, li_100, li_122, li_125, li_126, li_140, li_255, li_256, li_999, li_1000, li_1001, li_1002, li_1100, li_1386, li_1452, li_1518, li_9999, li_1000000, hw.2.2.1, e8, x3_isThere_in hw hq hp, bd_s, n10, Nat.one_ne_zero, ↓reduceIte, nm_eq, nI_clamp, inb_n, ck_t, (hw.2.2.2.2.2.1 p hp).1, nI_xorN, gI_sA, nI_add]
  · obtain ⟨c0, c1, c2, c3, c4, c5, c6⟩ := hw
    refine ⟨c0, c1, ?_, c3, c4, fun x hx => ?_, fun x hx => ?_⟩
    · rw [gI_sI, if_pos rfl]; rfl
    · simp only [padd, qn_mk, qj_mk, qg_mk, qo_mk, qw_mk, qs_mk, qh_mk, qu_mk, qc_mk, qt_mk] at hx
      simp (disch := decide) only [padd, qn_mk, qj_mk, qg_mk, qo_mk, qw_mk, qs_mk, qh_mk, qu_mk, qc_mk, qt_mk, upN, upd, gA_sI, gA_sA, gA_sAn]
      by_cases e : x = qn q
      · have e0 : ¬ x = 0 := by omega
        simp only [if_pos e, if_neg e0, implies_true, and_self]
      · simp only [if_neg e]; exact c5 x (by omega)
    · simp (disch := decide) only [padd, qn_mk, qj_mk, qg_mk, qo_mk, qw_mk, qs_mk, qh_mk, qu_mk, qc_mk, qt_mk, gA_sI, gA_sAn]; exact c6 x hx
  · intro k hk
    rw [gI_sI, if_neg (by omega)]; rfl
theorem x3_copyOf (hf : 1101 ≤ fu) (hw : CH (S a) q) (hq : okq G q) (hg : CG S g G) (hG : okG G) (ht : t < nt G) (hp : p < qn q) (hs : s < ns G) : (cpa G q t p s ∧ ∃ S', f_X3_copyOf fu S a g (nI t) (nI p) (nI s) = some (nI (qn q), S') ∧ fra a S S' ∧ CH (S' a) (ppaint q t p s)) ∨ (¬ cpa G q t p s ∧ ∃ S', f_X3_copyOf fu S a g (nI t) (nI p) (nI s) = some (mI 1, S') ∧ lw S S') := by
  have h8 := hq.1.2.1
  have h5 := hG.2.1
  have hs8 := hG.1
  have hk := (hG.2.2.2.1 t ht).1
  have hb := (hq.2.1 p hp).2.2
  by_cases c8 : qn q < 8
  · have e8 : nI (qn q) < nI 8 := by rw [nI_ltI (by omega) (by omega)]; exact c8
    have e51 : f_X3_copyOf fu S a g (nI t) (nI p) (nI s) = f_X3_copyOf_51 fu S a g (nI t) (nI p) (nI s) (nI (if kd G t = 3 then 5 else t)) := by
      simp (disch := omega) only [f_X3_copyOf, f_X3_copyOf_0, f_X3_copyOf_34, ↓lm_1, ↓lm_2, ↓lm_3, ↓lm_4, ↓lm_5, ↓lm_6, ↓lm_7, ↓lm_8, ↓lm_9, ↓lm_10, ↓lm_11, li_0, li_1, li_2, li_3, li_4, li_5, li_6, li_7, li_8, li_9, li_10, li_11, li_12, li_13, li_14, li_15, li_16, li_17, li_18, li_19, li_20, li_21, li_22, li_23, li_24, li_25, li_26, li_27, li_28, li_29, li_30, li_31, li_32, li_33, li_34, li_35, li_36, li_37, li_38, li_39, li_40, li_41, li_42, li_43, li_44, li_45, li_46, li_47, li_48, li_49, li_50, li_51, li_52, li_53, li_54, li_55, li_56, li_57, li_58, li_59, li_60, li_61, li_62, li_63, li_64, li_65, li_66, li_96, li_97, li_99, li_100, li_122, li_125, li_126, li_140, li_255, li_256, li_999, li_1000, li_1001, li_1002, li_1100, li_1386, li_1452, li_1518, li_9999, li_1000000, hw.2.2.1, e8, x3_isThere_in hw hq hp, x1_hasThief_in hg hG ht, x1_hasSpot_in hg hG hs, bd_s, n10, Nat.one_ne_zero, ↓reduceIte, ck_t, inb_n, nI_clamp, (hg.2.2.2.2.1 t ht).1, nI_eq]
      split <;> rfl
    rw [e51]
    generalize hT : (if kd G t = 3 then 5 else t) = T
    have hT8 : T < 8 := by rw [← hT]; split <;> omega
    by_cases hh : qh q p = T
    · obtain ⟨S1, e, hl⟩ := x3_hardOf (s := s) hf hw hq hg hp
      have ea := lw_at hl (b := a) (by rw [hw.1]; decide)
      by_cases hc : hof G q p s ≤ nI (sk G t)
      · left
        refine ⟨⟨c8, by rw [hT]; exact hh, hc⟩, ?_⟩
        obtain ⟨w', e2, hw', hk'⟩ := x3_addPiece (fu := fu) (t := t) hw hq c8 hp (p2_256 (s := s) (by omega))
        refine ⟨st S1 a w', ?_, ?_, ?_⟩
        · have e7 : gI w' 7 - nI 1 = nI (qn q) := by
            rw [hw'.2.2.1]; simp only [padd, qn_mk, qj_mk, qg_mk, qo_mk, qw_mk, qs_mk, qh_mk, qu_mk, qc_mk, qt_mk]; rw [pk_sub (by omega)]; rfl
          simp (disch := omega) only [f_X3_copyOf_51, ↓lm_1, ↓lm_2, ↓lm_3, ↓lm_4, ↓lm_5, ↓lm_6, ↓lm_7, ↓lm_8, ↓lm_9, ↓lm_10, ↓lm_11, li_0, li_1, li_2, li_3, li_4, li_5, li_6, li_7, li_8, li_9, li_10, li_11, li_12, li_13, li_14, li_15, li_16, li_17, li_18, li_19, li_20, li_21, li_22, li_23, li_24, li_25, li_26, li_27, li_28, li_29, li_30, li_31, li_32, li_33, li_34, li_35, li_36, li_37, li_38, li_39, li_40, li_41, li_42, li_43, li_44, li_45, li_46, li_47, li_48, li_49, li_50, li_51, li_52, li_53, li_54, li_55, li_56, li_57, li_58, li_59, li_60, li_61, li_62, li_63, li_64, li_65, li_66, li_96, li_97, li_99, li_100, li_122, li_125, li_126, li_140, li_255, li_256, li_999, li_1000, li_1001, li_1002, li_1100, li_1386, li_1452, li_1518, li_9999, li_1000000, nI_clamp, inb_n, ck_t, (hw.2.2.2.2.2.1 p hp).2.1, hh, e, bd_s, bd2_s, ↓reduceIte, (hg.2.2.2.2.1 t ht).2.1, hc, ea, nI_and31, nI_shl1, e2, nm_eq, st_same, e7]
        · exact fra_st (fra_lw hl) (by rw [hw'.1, ea, hw.1]) (fun k hk2 => by rw [ea]; exact hk' k hk2)
        · rw [st_same]; exact hw'
      · right
        refine ⟨fun c => hc c.2.2, S1, ?_, hl⟩
        simp (disch := omega) only [f_X3_copyOf_51, f_X3_copyOf_81, ↓lm_1, ↓lm_2, ↓lm_3, ↓lm_4, ↓lm_5, ↓lm_6, ↓lm_7, ↓lm_8, ↓lm_9, ↓lm_10, ↓lm_11, li_0, li_1, li_2, li_3, li_4, li_5, li_6, li_7, li_8, li_9, li_10, li_11, li_12, li_13, li_14, li_15, li_16, li_17, li_18, li_19, li_20, li_21, li_22, li_23, li_24, li_25, li_26, li_27, li_28, li_29, li_30, li_31, li_32, li_33, li_34, li_35, li_36, li_37, li_38, li_39, li_40, li_41, li_42, li_43, li_44, li_45, li_46, li_47, li_48, li_49, li_50, li_51, li_52, li_53, li_54, li_55, li_56, li_57, li_58, li_59, li_60, li_61, li_62, li_63, li_64, li_65, li_66, li_96, li_97, li_99, li_100, li_122, li_125, li_126, li_140, li_255, li_256, li_999, li_1000, li_1001, li_1002, li_1100, li_1386, li_1452, li_1518, li_9999, li_1000000, nI_clamp, inb_n, ck_t, (hw.2.2.2.2.2.1 p hp).2.1, hh, e, bd_s, bd2_s, ↓reduceIte, (hg.2.2.2.2.1 t ht).2.1, hc]
    · right
      refine ⟨fun c => hh (by rw [← hT]; exact c.2.1), S, ?_, lw_refl S⟩
      simp (disch := omega) only [f_X3_copyOf_51, f_X3_copyOf_81, ↓lm_1, ↓lm_2, ↓lm_3, ↓lm_4, ↓lm_5, ↓lm_6, ↓lm_7, ↓lm_8, ↓lm_9, ↓lm_10, ↓lm_11, li_0, li_1, li_2, li_3, li_4, li_5, li_6, li_7, li_8, li_9, li_10, li_11, li_12, li_13, li_14, li_15, li_16, li_17, li_18, li_19, li_20, li_21, li_22, li_23, li_24, li_25, li_26, li_27, li_28, li_29, li_30, li_31, li_32, li_33, li_34, li_35, li_36, li_37, li_38, li_39, li_40, li_41, li_42, li_43, li_44, li_45, li_46, li_47, li_48, li_49, li_50, li_51, li_52, li_53, li_54, li_55, li_56, li_57, li_58, li_59, li_60, li_61, li_62, li_63, li_64, li_65, li_66, li_96, li_97, li_99, li_100, li_122, li_125, li_126, li_140, li_255, li_256, li_999, li_1000, li_1001, li_1002, li_1100, li_1386, li_1452, li_1518, li_9999, li_1000000, nI_clamp, inb_n, ck_t, (hw.2.2.2.2.2.1 p hp).2.1, nI_eq, hh, ↓reduceIte]
  · right
    refine ⟨fun c => c8 c.1, S, ?_, lw_refl S⟩
    have e8 : ¬ nI (qn q) < nI 8 := nI_nlt (by omega) (by omega)
    simp (disch := omega) only [f_X3_copyOf, f_X3_copyOf_0, f_X3_copyOf_34, ↓lm_1, ↓lm_2, ↓lm_3, ↓lm_4, ↓lm_5, ↓lm_6, ↓lm_7, ↓lm_8, ↓lm_9, ↓lm_10, ↓lm_11, li_0, li_1, li_2, li_3, li_4, li_5, li_6, li_7, li_8, li_9, li_10, li_11, li_12, li_13, li_14, li_15, li_16, li_17, li_18, li_19, li_20, li_21, li_22, li_23, li_24, li_25, li_26, li_27, li_28, li_29, li_30, li_31, li_32, li_33, li_34, li_35, li_36, li_37, li_38, li_39, li_40, li_41, li_42, li_43, li_44, li_45, li_46, li_47, li_48, li_49, li_50, li_51, li_52, li_53, li_54, li_55, li_56, li_57, li_58, li_59, li_60, li_61, li_62, li_63, li_64, li_65, li_66, li_96, li_97, li_99, li_100, li_122, li_125, li_126, li_140, li_255, li_256, li_999, li_1000, li_1001, li_1002, li_1100, li_1386, li_1452, li_1518, li_9999, li_1000000, hw.2.2.1, e8, x3_isThere_in hw hq hp, x1_hasThief_in hg hG ht, x1_hasSpot_in hg hG hs, bd_s, n10, Nat.one_ne_zero, ↓reduceIte]
theorem x3_copyOf_out (hw : CH (S a) q) (hq : okq G q) (hg : CG S g G) (hG : okG G) {x y z : Int32} (hx : ¬ ((∃ j, j < nt G ∧ x = nI j) ∧ (∃ j, j < qn q ∧ y = nI j) ∧ ∃ j, j < ns G ∧ z = nI j)) : f_X3_copyOf fu S a g x y z = some (mI 1, S) := by
  by_cases h1 : ∃ j, j < nt G ∧ x = nI j
  · by_cases h2 : ∃ j, j < qn q ∧ y = nI j
    · obtain ⟨t, ht, rfl⟩ := id h1
      obtain ⟨p, hp, rfl⟩ := id h2
      simp only [f_X3_copyOf, f_X3_copyOf_0, f_X3_copyOf_34, ↓lm_1, ↓lm_2, ↓lm_3, ↓lm_4, ↓lm_5, ↓lm_6, ↓lm_7, ↓lm_8, ↓lm_9, ↓lm_10, ↓lm_11, li_0, li_1, li_2, li_3, li_4, li_5, li_6, li_7, li_8, li_9, li_10, li_11, li_12, li_13, li_14, li_15, li_16, li_17, li_18, li_19, li_20, li_21, li_22, li_23, li_24, li_25, li_26, li_27, li_28, li_29, li_30, li_31, li_32, li_33, li_34, li_35, li_36, li_37, li_38, li_39, li_40, li_41, li_42, li_43, li_44, li_45, li_46, li_47, li_48, li_49, li_50, li_51, li_52, li_53, li_54, li_55, li_56, li_57, li_58, li_59, li_60, li_61, li_62, li_63, li_64, li_65, li_66, li_96, li_97, li_99, li_100, li_122, li_125, li_126, li_140, li_255, li_256, li_999, li_1000, li_1001, li_1002, li_1100, li_1386, li_1452, li_1518, li_9999, li_1000000, x3_isThere_in hw hq hp, x1_hasThief_in hg hG ht, x1_hasSpot_out hg hG (fun c => hx ⟨h1, h2, c⟩), bd_s, n10, Nat.one_ne_zero, ↓reduceIte]
    · obtain ⟨t, ht, rfl⟩ := id h1
      simp only [f_X3_copyOf, f_X3_copyOf_0, f_X3_copyOf_34, ↓lm_1, ↓lm_2, ↓lm_3, ↓lm_4, ↓lm_5, ↓lm_6, ↓lm_7, ↓lm_8, ↓lm_9, ↓lm_10, ↓lm_11, li_0, li_1, li_2, li_3, li_4, li_5, li_6, li_7, li_8, li_9, li_10, li_11, li_12, li_13, li_14, li_15, li_16, li_17, li_18, li_19, li_20, li_21, li_22, li_23, li_24, li_25, li_26, li_27, li_28, li_29, li_30, li_31, li_32, li_33, li_34, li_35, li_36, li_37, li_38, li_39, li_40, li_41, li_42, li_43, li_44, li_45, li_46, li_47, li_48, li_49, li_50, li_51, li_52, li_53, li_54, li_55, li_56, li_57, li_58, li_59, li_60, li_61, li_62, li_63, li_64, li_65, li_66, li_96, li_97, li_99, li_100, li_122, li_125, li_126, li_140, li_255, li_256, li_999, li_1000, li_1001, li_1002, li_1100, li_1386, li_1452, li_1518, li_9999, li_1000000, x3_isThere_out hw hq h2, x1_hasThief_in hg hG ht, bd_s, n10, Nat.one_ne_zero, ↓reduceIte]
  · simp only [f_X3_copyOf, f_X3_copyOf_0, f_X3_copyOf_34, ↓lm_1, ↓lm_2, ↓lm_3, ↓lm_4, ↓lm_5, ↓lm_6, ↓lm_7, ↓lm_8, ↓lm_9, ↓lm_10, ↓lm_11, li_0, li_1, li_2, li_3, li_4, li_5, li_6, li_7, li_8, li_9, li_10, li_11, li_12, li_13, li_14, li_15, li_16, li_17, li_18, li_19, li_20, li_21, li_22, li_23, li_24, li_25, li_26, li_27, li_28, li_29, li_30, li_31, li_32, li_33, li_34, li_35, li_36, li_37, li_38, li_39, li_40, li_41, li_42, li_43, li_44, li_45, li_46, li_47, li_48, li_49, li_50, li_51, li_52, li_53, li_54, li_55, li_56, li_57, li_58, li_59, li_60, li_61, li_62, li_63, li_64, li_65, li_66, li_96, li_97, li_99, li_100, li_122, li_125, li_126, li_140, li_255, li_256, li_999, li_1000, li_1001, li_1002, li_1100, li_1386, li_1452, li_1518, li_9999, li_1000000, x1_hasThief_out hg hG h1, bd_s, ↓reduceIte]
theorem x3_setGuard (hw : CH w q) (hq : okq G q) {h : Nat} (hh : h < 24) : f_X3_setGuard fu w (nI h) = some (if bt (qg q) h = 0 then (nI 1, sI w 9 (nI (qg q ||| 2 ^ h))) else (nI 0, w)) := by
  have hg := hq.1.2.2.2
  have hb := bt_lt (qg q) h
  have h24 : 2 ^ h < 16777216 := Nat.pow_lt_pow_right (a := 2) (by decide) hh
  simp (disch := omega) only [f_X3_setGuard, f_X3_setGuard_0, f_X3_setGuard_21, ↓lm_1, ↓lm_2, ↓lm_3, ↓lm_4, ↓lm_5, ↓lm_6, ↓lm_7, ↓lm_8, ↓lm_9, ↓lm_10, ↓lm_11, li_0, li_1, li_2, li_3, li_4, li_5, li_6, li_7, li_8, li_9, li_10, li_11, li_12, li_13, li_14, li_15, li_16, li_17, li_18, li_19, li_20, li_21, li_22, li_23, li_24, li_25, li_26, li_27, li_28, li_29, li_30, li_31, li_32, li_33, li_34, li_35, li_36, li_37, li_38, li_39, li_40, li_41, li_42, li_43, li_44, li_45, li_46, li_47, li_48, li_49, li_50, li_51, li_52, li_53, li_54, li_55, li_56, li_57, li_58, li_59, li_60, li_61, li_62, li_63, li_64, li_65, li_66, li_96, li_97, li_99, li_100, li_122, li_125, li_126, li_140, li_255, li_256, li_999, li_1000, li_1001, li_1002, li_1100, li_1386, li_1452, li_1518, li_9999, li_1000000, hw.2.2.2.2.1, nI_and31, nI_bt, nI_eq, nI_shl1, nI_orN, nm_eq]
  rw [ix_in hh (by omega)]
  split <;> rfl
theorem x3_setGuard_out {x : Int32} (hx : ¬ ∃ j, j < 24 ∧ x = nI j) : f_X3_setGuard fu w x = some (nI 0, w) := by
  simp only [f_X3_setGuard, f_X3_setGuard_0, f_X3_setGuard_21, ↓lm_1, ↓lm_2, ↓lm_3, ↓lm_4, ↓lm_5, ↓lm_6, ↓lm_7, ↓lm_8, ↓lm_9, ↓lm_10, ↓lm_11, li_0, li_1, li_2, li_3, li_4, li_5, li_6, li_7, li_8, li_9, li_10, li_11, li_12, li_13, li_14, li_15, li_16, li_17, li_18, li_19, li_20, li_21, li_22, li_23, li_24, li_25, li_26, li_27, li_28, li_29, li_30, li_31, li_32, li_33, li_34, li_35, li_36, li_37, li_38, li_39, li_40, li_41, li_42, li_43, li_44, li_45, li_46, li_47, li_48, li_49, li_50, li_51, li_52, li_53, li_54, li_55, li_56, li_57, li_58, li_59, li_60, li_61, li_62, li_63, li_64, li_65, li_66, li_96, li_97, li_99, li_100, li_122, li_125, li_126, li_140, li_255, li_256, li_999, li_1000, li_1001, li_1002, li_1100, li_1386, li_1452, li_1518, li_9999, li_1000000]
  exact ix_out hx (by omega) _ _
theorem CH_guard (hw : CH w q) (h : Nat) : CH (sI w 9 (nI (qg q ||| 2 ^ h))) (pguard q h) := by
  obtain ⟨c0, c1, c2, c3, c4, c5, c6⟩ := hw
  exact ⟨c0, c1, c2, c3, by rw [gI_sI, if_pos rfl]; rfl, c5, c6⟩
theorem x3_passNight (hw : CH w q) (hq : okq G q) : ∃ w', f_X3_passNight fu w = some w' ∧ CH w' (pnight q) ∧ (∀ k, 10 ≤ k → gI w' k = gI w k) := by
  have h8 := hq.1.2.1
  have hj := hq.1.2.2.1
  refine ⟨sI (sI (sA w 3 (qj q) (qu q (qj q) + nI 1)) 9 (nI 0)) 6 (qt q + nI 1), ?_, ?_, ?_⟩
  · simp (disch := omega) only [f_X3_passNight, f_X3_passNight_0, ↓lm_1, ↓lm_2, ↓lm_3, ↓lm_4, ↓lm_5, ↓lm_6, ↓lm_7, ↓lm_8, ↓lm_9, ↓lm_10, ↓lm_11, li_0, li_1, li_2, li_3, li_4, li_5, li_6, li_7, li_8, li_9, li_10, li_11, li_12, li_13, li_14, li_15, li_16, li_17, li_18, li_19, li_20, li_21, li_22, li_23, li_24, li_25, li_26, li_27, li_28, li_29, li_30, li_31, li_32, li_33, li_34, li_35, li_36, li_37, li_38, li_39, li_40, li_41, li_42, li_43, li_44, li_45, li_46, li_47, li_48, li_49, li_50, li_51, li_52, li_53, li_54, li_55, li_56, li_57, li_58, li_59, li_60, li_61, li_62, li_63, li_64, li_65, li_66, li_96, li_97, li_99, li_100, li_122, li_125, li_126, li_140, li_255, li_256, li_999, li_1000, li_1001, li_1002, li_1100, li_1386, li_1452, li_1518, li_9999, li_1000000, hw.2.2.2.1, nm_eq, nI_clamp, inb_n, ck_t, (hw.2.2.2.2.2.1 _ hj).2.2.1, gI_sI, gI_sA, Nat.reduceEqDiff, ↓reduceIte, hw.2.1]
  · obtain ⟨c0, c1, c2, c3, c4, c5, c6⟩ := hw
    refine ⟨c0, ?_, c2, c3, ?_, fun x hx => ?_, fun x hx => ?_⟩
    · rw [gI_sI, if_pos rfl]; rfl
    · rw [gI_sI, if_neg (by decide), gI_sI, if_pos rfl]; rfl
    · simp (disch := decide) only [pnight, qn_mk, qj_mk, qg_mk, qo_mk, qw_mk, qs_mk, qh_mk, qu_mk, qc_mk, qt_mk, upd, gA_sI, gA_sA, gA_sAn]
      by_cases e : x = qj q
      · simp only [if_pos e]; have := c5 x hx; exact ⟨this.1, this.2.1, trivial, this.2.2.2.1, this.2.2.2.2⟩
      · simp only [if_neg e]; exact c5 x hx
    · simp (disch := decide) only [pnight, qn_mk, qj_mk, qg_mk, qo_mk, qw_mk, qs_mk, qh_mk, qu_mk, qc_mk, qt_mk, gA_sI, gA_sAn]; exact c6 x hx
  · intro k hk
    rw [gI_sI, if_neg (by omega), gI_sI, if_neg (by omega)]; rfl
end X3
