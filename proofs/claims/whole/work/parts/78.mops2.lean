/-! ===== the model: STEAL, PAINT, SELL, NIGHT on a block; who has which; coins ===== -/
section M
variable {fu b : Nat} {v : GV} {h : Nat → Int32} {G : GP} {q : HP} {t p r s : Nat}
theorem MH_swap (hh : MH h q) (hG : okG G) (hq : okq G q) (ht : t < nt G) (hp : p < qn q) (hw : qh q p = t) : MH (if kd G t = 2 then upd (upd (upd h (11 + p) (nI 5)) (11 + qj q) (nI t)) (3 + qj q) (nI (qo q (qj q) &&& (qo q (qj q) - 1))) else upd (upd h (11 + p) (nI 5)) (11 + qj q) (nI t)) (pswap G q t p) := by
  obtain ⟨c1, c2, c3, c4, c5⟩ := hh
  have h8 := hq.1.2.1
  have hj := hq.1.2.2.1
  have key : ∀ (o : Nat → Nat) (h' : Nat → Int32), (∀ x, x < qn q → h' (3 + x) = nI (o x)) → (∀ k, (k < 3 ∨ 11 ≤ k) → h' k = upd (upd h (11 + p) (nI 5)) (11 + qj q) (nI t) k) → MH h' (mkq (qn q) p (qg q) o (qw q) (qs q) (upN (upN (qh q) p 5) (qj q) t) (qu q) (qc q) (qt q)) := by
    intro o h' h0 hA
    refine ⟨?_, ?_, ?_, fun x hx => ⟨h0 x hx, ?_, ?_, ?_, fun hz => ?_⟩, fun x hx => ?_⟩
    · rw [hA 0 (by omega), pk_un (by omega), pk_un (by omega)]; exact c1
    · rw [hA 1 (by omega), pk_un (by omega), pk_un (by omega)]; exact c2
    · rw [hA 2 (by omega), pk_un (by omega), pk_un (by omega)]; exact c3
    · rw [hA _ (by omega)]
      simp only [qn_mk, qj_mk, qg_mk, qo_mk, qw_mk, qs_mk, qh_mk, qu_mk, qc_mk, qt_mk] at hx ⊢
      simp only [upN, upd]
      by_cases e : x = qj q
      · rw [if_pos (by omega), if_pos e]
      · rw [if_neg (by omega), if_neg e]
        by_cases e2 : x = p
        · rw [if_pos (by omega), if_pos e2]
        · rw [if_neg (by omega), if_neg e2]; exact (c4 x hx).2.1
    · simp only [qn_mk, qj_mk, qg_mk, qo_mk, qw_mk, qs_mk, qh_mk, qu_mk, qc_mk, qt_mk] at hx ⊢
      rw [hA _ (by omega), pk_un (by omega), pk_un (by omega)]; exact (c4 x hx).2.2.1
    · simp only [qn_mk, qj_mk, qg_mk, qo_mk, qw_mk, qs_mk, qh_mk, qu_mk, qc_mk, qt_mk] at hx ⊢
      rw [hA _ (by omega), pk_un (by omega), pk_un (by omega)]; exact (c4 x hx).2.2.2.1
    · simp only [qn_mk, qj_mk, qg_mk, qo_mk, qw_mk, qs_mk, qh_mk, qu_mk, qc_mk, qt_mk] at hx ⊢
      rw [hA _ (by omega), pk_un (by omega), pk_un (by omega)]; exact (c4 x hx).2.2.2.2 hz
    · rw [hA _ (by omega), pk_un (by omega), pk_un (by omega)]; exact c5 x hx
  by_cases k2 : kd G t = 2
  · simp only [pswap, k2, ↓reduceIte]
    refine key _ _ (fun x hx => ?_) (fun k hk => ?_)
    · by_cases e : x = qj q
      · rw [e, pk_us, upN_s]
      · rw [pk_un (by omega), upN_n e, pk_un (by omega), pk_un (by omega)]; exact (c4 x hx).1
    · rw [pk_un (by omega)]
  · simp only [pswap, k2, ↓reduceIte]
    refine key _ _ (fun x hx => ?_) (fun k hk => rfl)
    rw [pk_un (by omega), pk_un (by omega)]; exact (c4 x hx).1
theorem m_maySteal_by (hb : b ≤ 1470) (hM : MG v G) (hG : okG G) (hh : MH h q) (ht : t < nt G) {x y : Int32} (hi : f_X13_hasIt fu (mb v b h) (nI b) (nI t) y = some x) (x01 : x = nI 0 ∨ x = nI 1) : (cmi G q t ∧ f_X13_maySteal fu (mb v b h) (nI b) (nI t) y = some x) ∨ (¬ cmi G q t ∧ f_X13_maySteal fu (mb v b h) (nI b) (nI t) y = some (nI 0)) := by
  have h5 := hG.2.1
  have hk := (hG.2.2.2.1 t ht).1
  have hM' := MG_mb (b := b) (h := h) hM
  have last : (if x = nI 0 then some (nI 0) else some (nI 1)) = some x := by
    rcases x01 with rfl | rfl
    · rw [if_pos rfl]
    · rw [if_neg n10]
  by_cases h1 : kd G t = 1
  · left
    refine ⟨Or.inl h1, ?_⟩
    simp (disch := omega) only [f_X13_maySteal_66, f_X13_maySteal_39, f_X13_maySteal_34, f_X13_maySteal_0, f_X13_maySteal, ↓lm_1, ↓lm_2, ↓lm_3, ↓lm_4, ↓lm_5, ↓lm_6, ↓lm_7, ↓lm_8, ↓lm_9, ↓lm_10, ↓lm_11, li_0, li_1, li_2, li_3, li_4, li_5, li_6, li_7, li_8, li_9, li_10, li_11, li_12, li_13, li_14, li_15, li_16, li_17, li_18, li_19, li_20, li_21, li_22, li_23, li_24, li_25, li_26, li_27, li_28, li_29, li_30, li_31, li_32, li_33, li_34, li_35, li_36, li_37, li_38, li_39, li_40, li_41, li_42, li_43, li_44, li_45, li_46, li_47, li_48, li_49, li_50, li_51, li_52, li_53, li_54, li_55, li_56, li_57, li_58, li_59, li_60, li_61, li_62, li_63, li_64, li_65, li_66, li_96, li_97, li_99, li_100, li_122, li_125, li_126, li_140, li_255, li_256, li_999, li_1000, li_1001, li_1002, li_1100, li_1386, li_1452, li_1518, li_9999, li_1000000, m_kind hM' hG ht, m_hours hM' hG ht, h1, bd_s, nI_eq, Nat.reduceEqDiff, ↓reduceIte, hi, n10, last]
  · by_cases h3 : kd G t = 3
    · right
      refine ⟨fun c => c.elim h1 (fun c => c.1 h3), ?_⟩
      simp (disch := omega) only [f_X13_maySteal_66, f_X13_maySteal_39, f_X13_maySteal_34, f_X13_maySteal_0, f_X13_maySteal, ↓lm_1, ↓lm_2, ↓lm_3, ↓lm_4, ↓lm_5, ↓lm_6, ↓lm_7, ↓lm_8, ↓lm_9, ↓lm_10, ↓lm_11, li_0, li_1, li_2, li_3, li_4, li_5, li_6, li_7, li_8, li_9, li_10, li_11, li_12, li_13, li_14, li_15, li_16, li_17, li_18, li_19, li_20, li_21, li_22, li_23, li_24, li_25, li_26, li_27, li_28, li_29, li_30, li_31, li_32, li_33, li_34, li_35, li_36, li_37, li_38, li_39, li_40, li_41, li_42, li_43, li_44, li_45, li_46, li_47, li_48, li_49, li_50, li_51, li_52, li_53, li_54, li_55, li_56, li_57, li_58, li_59, li_60, li_61, li_62, li_63, li_64, li_65, li_66, li_96, li_97, li_99, li_100, li_122, li_125, li_126, li_140, li_255, li_256, li_999, li_1000, li_1001, li_1002, li_1100, li_1386, li_1452, li_1518, li_9999, li_1000000, m_kind hM' hG ht, m_hours hM' hG ht, h3, bd_s, nI_eq, Nat.reduceEqDiff, ↓reduceIte, nI_add, nm_eq, inb_n, ck_t, nI_clamp, mb_rd, hh.2.1]
      split <;> rfl
    · by_cases hz : nI (hr G t) &&& (nI (qg q) ^^^ mI 1) = nI 0
      · right
        refine ⟨fun c => c.elim h1 (fun c => c.2 hz), ?_⟩
        simp (disch := omega) only [f_X13_maySteal_66, f_X13_maySteal_39, f_X13_maySteal_34, f_X13_maySteal_0, f_X13_maySteal, ↓lm_1, ↓lm_2, ↓lm_3, ↓lm_4, ↓lm_5, ↓lm_6, ↓lm_7, ↓lm_8, ↓lm_9, ↓lm_10, ↓lm_11, li_0, li_1, li_2, li_3, li_4, li_5, li_6, li_7, li_8, li_9, li_10, li_11, li_12, li_13, li_14, li_15, li_16, li_17, li_18, li_19, li_20, li_21, li_22, li_23, li_24, li_25, li_26, li_27, li_28, li_29, li_30, li_31, li_32, li_33, li_34, li_35, li_36, li_37, li_38, li_39, li_40, li_41, li_42, li_43, li_44, li_45, li_46, li_47, li_48, li_49, li_50, li_51, li_52, li_53, li_54, li_55, li_56, li_57, li_58, li_59, li_60, li_61, li_62, li_63, li_64, li_65, li_66, li_96, li_97, li_99, li_100, li_122, li_125, li_126, li_140, li_255, li_256, li_999, li_1000, li_1001, li_1002, li_1100, li_1386, li_1452, li_1518, li_9999, li_1000000, m_kind hM' hG ht, m_hours hM' hG ht, h1, h3, bd_s, nI_eq, ↓reduceIte, nI_add, nm_eq, inb_n, ck_t, nI_clamp, mb_rd, hh.2.1, hz]
      · left
        refine ⟨Or.inr ⟨h3, hz⟩, ?_⟩
        simp (disch := omega) only [f_X13_maySteal_66, f_X13_maySteal_39, f_X13_maySteal_34, f_X13_maySteal_0, f_X13_maySteal, ↓lm_1, ↓lm_2, ↓lm_3, ↓lm_4, ↓lm_5, ↓lm_6, ↓lm_7, ↓lm_8, ↓lm_9, ↓lm_10, ↓lm_11, li_0, li_1, li_2, li_3, li_4, li_5, li_6, li_7, li_8, li_9, li_10, li_11, li_12, li_13, li_14, li_15, li_16, li_17, li_18, li_19, li_20, li_21, li_22, li_23, li_24, li_25, li_26, li_27, li_28, li_29, li_30, li_31, li_32, li_33, li_34, li_35, li_36, li_37, li_38, li_39, li_40, li_41, li_42, li_43, li_44, li_45, li_46, li_47, li_48, li_49, li_50, li_51, li_52, li_53, li_54, li_55, li_56, li_57, li_58, li_59, li_60, li_61, li_62, li_63, li_64, li_65, li_66, li_96, li_97, li_99, li_100, li_122, li_125, li_126, li_140, li_255, li_256, li_999, li_1000, li_1001, li_1002, li_1100, li_1386, li_1452, li_1518, li_9999, li_1000000, m_kind hM' hG ht, m_hours hM' hG ht, h1, h3, bd_s, nI_eq, ↓reduceIte, nI_add, nm_eq, inb_n, ck_t, nI_clamp, mb_rd, hh.2.1, hz, hi, n10, Nat.one_ne_zero, ↓reduceIte, last]
theorem m_maySteal_in (hb : b ≤ 1470) (hM : MG v G) (hG : okG G) (hh : MH h q) (hq : okq G q) (ht : t < nt G) (hp : p < qn q) : ((qh q p = t ∧ cmi G q t) ∧ f_X13_maySteal fu (mb v b h) (nI b) (nI t) (nI p) = some (nI 1)) ∨ (¬ (qh q p = t ∧ cmi G q t) ∧ f_X13_maySteal fu (mb v b h) (nI b) (nI t) (nI p) = some (nI 0)) := by
  have hi := m_hasIt_in (fu := fu) (v := v) hb hh hq hG ht hp
  by_cases e : qh q p = t
  · rw [if_pos e] at hi
    rcases m_maySteal_by hb hM hG hh ht hi (Or.inr rfl) with ⟨c, d⟩ | ⟨c, d⟩
    · exact Or.inl ⟨⟨e, c⟩, d⟩
    · exact Or.inr ⟨fun k => c k.2, d⟩
  · rw [if_neg e] at hi
    rcases m_maySteal_by hb hM hG hh ht hi (Or.inl rfl) with ⟨c, d⟩ | ⟨c, d⟩
    · exact Or.inr ⟨fun k => e k.1, d⟩
    · exact Or.inr ⟨fun k => e k.1, d⟩
theorem m_maySteal_out (hb : b ≤ 1470) (hM : MG v G) (hG : okG G) (hh : MH h q) (hq : okq G q) (ht : t < nt G) {y : Int32} (hx : ¬ ∃ j, j < qn q ∧ y = nI j) : f_X13_maySteal fu (mb v b h) (nI b) (nI t) y = some (nI 0) := by
  have hi := m_hasIt_out (fu := fu) (v := v) (x := nI t) hb hh hq hx
  rcases m_maySteal_by hb hM hG hh ht hi (Or.inl rfl) with ⟨c, d⟩ | ⟨c, d⟩
  · exact d
  · exact d
theorem m_steals (hf : 1101 ≤ fu) (hb : b ≤ 1470) (hM : MG v G) (hG : okG G) (hh : MH h q) (hq : okq G q) (ht : t < nt G) (hp : p < qn q) (hw : qh q p = t) : ∃ h', f_X13_steals fu (mb v b h) (nI b) (nI t) (nI p) = some (nI (qj q), mb v b h') ∧ MH h' (pswap G q t p) := by
  have h8 := hq.1.2.1
  have h5 := hG.2.1
  have hj := hq.1.2.2.1
  have hk := (hG.2.2.2.1 t ht).1
  have h3 : upd (upd h (11 + p) (nI 5)) (11 + qj q) (nI t) (3 + qj q) = nI (qo q (qj q)) := by
    rw [pk_un (by omega), pk_un (by omega)]; exact (hh.2.2.2.1 _ hj).1
  refine ⟨_, ?_, MH_swap hh hG hq ht hp hw⟩
  have hM' := fun h' => MG_mb (b := b) (h := h') hM
  simp (disch := omega) only [f_X13_steals_73, f_X13_steals_0, f_X13_steals, ↓lm_1, ↓lm_2, ↓lm_3, ↓lm_4, ↓lm_5, ↓lm_6, ↓lm_7, ↓lm_8, ↓lm_9, ↓lm_10, ↓lm_11, li_0, li_1, li_2, li_3, li_4, li_5, li_6, li_7, li_8, li_9, li_10, li_11, li_12, li_13, li_14, li_15, li_16, li_17, li_18, li_19, li_20, li_21, li_22, li_23, li_24, li_25, li_26, li_27, li_28, li_29, li_30, li_31, li_32, li_33, li_34, li_35, li_36, li_37, li_38, li_39, li_40, li_41, li_42, li_43, li_44, li_45, li_46, li_47, li_48, li_49, li_50, li_51, li_52, li_53, li_54, li_55, li_56, li_57, li_58, li_59, li_60, li_61, li_62, li_63, li_64, li_65, li_66, li_96, li_97, li_99, li_100, li_122, li_125, li_126, li_140, li_255, li_256, li_999, li_1000, li_1001, li_1002, li_1100, li_1386, li_1452, li_1518, li_9999, li_1000000, m_hanging hf hb hG hh hq, bd_s, nI_add, nm_eq, inb_n, ck_t, nI_clamp, Nat.add_assoc, mb_wr, mb_rd, m_kind (hM' _) hG ht, nI_eq, h3, mend (hq.2.1 _ hj).1]
  split <;> rfl
theorem MH_paint (hh : MH h q) (hq : okq G q) (h8 : qn q < 8) (hs : s < 8) : MH (upd (upd (upd (upd (upd (upd h (3 + qn q) (nI (qo q p ^^^ 2 ^ s))) (11 + qn q) (nI t)) (19 + qn q) (nI 0)) (27 + qn q) (nI p)) (35 + qn q) (nI s)) 2 (nI (qn q + 1))) (ppaint q t p s) := by
  obtain ⟨c1, c2, c3, c4, c5⟩ := hh
  have h1 := hq.1.1
  refine ⟨?_, ?_, ?_, fun x hx => ?_, fun x hx => ?_⟩
  · simp (disch := omega) only [pk_un]; exact c1
  · simp (disch := omega) only [pk_un]; exact c2
  · rw [pk_us]; rfl
  · simp only [ppaint, qn_mk, qj_mk, qg_mk, qo_mk, qw_mk, qs_mk, qh_mk, qu_mk, qc_mk, qt_mk] at hx
    simp only [ppaint, qn_mk, qj_mk, qg_mk, qo_mk, qw_mk, qs_mk, qh_mk, qu_mk, qc_mk, qt_mk]
    by_cases e : x = qn q
    · rw [e]
      refine ⟨?_, ?_, ?_, ?_, fun _ => ?_⟩
      · rw [upN_s]; simp (disch := omega) only [pk_un, pk_us]
      · rw [upN_s]; simp (disch := omega) only [pk_un, pk_us]
      · simp (disch := omega) only [pk_un, pk_us]
      · rw [upN_s, if_neg (by omega)]; simp (disch := omega) only [pk_un, pk_us]
      · rw [upN_s, fo_p2 hs]; simp (disch := omega) only [pk_un, pk_us]
    · have := c4 x (by omega)
      simp (disch := omega) only [pk_un, upN_n]; exact this
  · simp (disch := omega) only [pk_un]; exact c5 x hx
theorem m_mayPaint (hf : 1101 ≤ fu) (hb : b ≤ 1470) (hM : MG v G) (hG : okG G) (hh : MH h q) (hq : okq G q) (ht : t < nt G) (hp : p < qn q) : ∃ F P, (cpa G q t p s ∧ f_X13_mayPaint fu (mb v b h) (nI b) (nI t) (nI p) (nI s) = some (nI 1, mv v b F P h)) ∨ (¬ cpa G q t p s ∧ f_X13_mayPaint fu (mb v b h) (nI b) (nI t) (nI p) (nI s) = some (nI 0, mv v b F P h)) := by
  have h8 := hq.1.2.1
  have h5 := hG.2.1
  have hk := (hG.2.2.2.1 t ht).1
  have hc := (hq.2.1 p hp).2.2
  have hM' := MG_mb (b := b) (h := h) hM
  have e1 : f_X13_mayPaint fu (mb v b h) (nI b) (nI t) (nI p) (nI s) = f_X13_mayPaint_35 fu (mb v b h) (nI b) (nI t) (nI p) (nI s) (nI (qh q p)) (nI (if kd G t = 3 then 5 else t)) := by
    simp (disch := omega) only [f_X13_mayPaint, f_X13_mayPaint_0, ↓lm_1, ↓lm_2, ↓lm_3, ↓lm_4, ↓lm_5, ↓lm_6, ↓lm_7, ↓lm_8, ↓lm_9, ↓lm_10, ↓lm_11, li_0, li_1, li_2, li_3, li_4, li_5, li_6, li_7, li_8, li_9, li_10, li_11, li_12, li_13, li_14, li_15, li_16, li_17, li_18, li_19, li_20, li_21, li_22, li_23, li_24, li_25, li_26, li_27, li_28, li_29, li_30, li_31, li_32, li_33, li_34, li_35, li_36, li_37, li_38, li_39, li_40, li_41, li_42, li_43, li_44, li_45, li_46, li_47, li_48, li_49, li_50, li_51, li_52, li_53, li_54, li_55, li_56, li_57, li_58, li_59, li_60, li_61, li_62, li_63, li_64, li_65, li_66, li_96, li_97, li_99, li_100, li_122, li_125, li_126, li_140, li_255, li_256, li_999, li_1000, li_1001, li_1002, li_1100, li_1386, li_1452, li_1518, li_9999, li_1000000, m_isPiece_in hb hh hq hp, m_kind hM' hG ht, bd_s, n10, Nat.one_ne_zero, ↓reduceIte, nI_add, nm_eq, inb_n, ck_t, nI_clamp, Nat.add_assoc, mb_rd, (hh.2.2.2.1 p hp).2.1, nI_eq]
    split <;> rfl
  rw [e1]
  generalize hT : (if kd G t = 3 then 5 else t) = T
  have hT8 : T < 8 := by rw [← hT]; split <;> omega
  by_cases hw : qh q p = T
  · by_cases c8 : qn q < 8
    · obtain ⟨F, P, e⟩ := m_hardOf (s := s) hf hb hM hh hq hp
      refine ⟨F, P, ?_⟩
      have e8 : ¬ nI 8 ≤ nI (qn q) := nI_ge c8 (by omega)
      by_cases hl : hof G q p s ≤ nI (sk G t)
      · left
        refine ⟨⟨c8, by rw [hT]; exact hw, hl⟩, ?_⟩
        have hl' : ¬ nI (sk G t) < hof G q p s := Int32.not_lt.mpr hl
        simp (disch := omega) only [f_X13_mayPaint_35, f_X13_mayPaint_43, f_X13_mayPaint_84, ↓lm_1, ↓lm_2, ↓lm_3, ↓lm_4, ↓lm_5, ↓lm_6, ↓lm_7, ↓lm_8, ↓lm_9, ↓lm_10, ↓lm_11, li_0, li_1, li_2, li_3, li_4, li_5, li_6, li_7, li_8, li_9, li_10, li_11, li_12, li_13, li_14, li_15, li_16, li_17, li_18, li_19, li_20, li_21, li_22, li_23, li_24, li_25, li_26, li_27, li_28, li_29, li_30, li_31, li_32, li_33, li_34, li_35, li_36, li_37, li_38, li_39, li_40, li_41, li_42, li_43, li_44, li_45, li_46, li_47, li_48, li_49, li_50, li_51, li_52, li_53, li_54, li_55, li_56, li_57, li_58, li_59, li_60, li_61, li_62, li_63, li_64, li_65, li_66, li_96, li_97, li_99, li_100, li_122, li_125, li_126, li_140, li_255, li_256, li_999, li_1000, li_1001, li_1002, li_1100, li_1386, li_1452, li_1518, li_9999, li_1000000, hw, ↓reduceIte, n10, Nat.one_ne_zero, nI_add, nm_eq, inb_n, ck_t, nI_clamp, mb_rd, hh.2.2.1, e8, m_skill hM' hG ht, bd_s, e, bd2_s, hl']
      · right
        refine ⟨fun c => hl c.2.2, ?_⟩
        have hl' : nI (sk G t) < hof G q p s := Int32.not_le.mp hl
        simp (disch := omega) only [f_X13_mayPaint_35, f_X13_mayPaint_43, f_X13_mayPaint_84, ↓lm_1, ↓lm_2, ↓lm_3, ↓lm_4, ↓lm_5, ↓lm_6, ↓lm_7, ↓lm_8, ↓lm_9, ↓lm_10, ↓lm_11, li_0, li_1, li_2, li_3, li_4, li_5, li_6, li_7, li_8, li_9, li_10, li_11, li_12, li_13, li_14, li_15, li_16, li_17, li_18, li_19, li_20, li_21, li_22, li_23, li_24, li_25, li_26, li_27, li_28, li_29, li_30, li_31, li_32, li_33, li_34, li_35, li_36, li_37, li_38, li_39, li_40, li_41, li_42, li_43, li_44, li_45, li_46, li_47, li_48, li_49, li_50, li_51, li_52, li_53, li_54, li_55, li_56, li_57, li_58, li_59, li_60, li_61, li_62, li_63, li_64, li_65, li_66, li_96, li_97, li_99, li_100, li_122, li_125, li_126, li_140, li_255, li_256, li_999, li_1000, li_1001, li_1002, li_1100, li_1386, li_1452, li_1518, li_9999, li_1000000, hw, ↓reduceIte, n10, Nat.one_ne_zero, nI_add, nm_eq, inb_n, ck_t, nI_clamp, mb_rd, hh.2.2.1, e8, m_skill hM' hG ht, bd_s, e, bd2_s, hl']
    · refine ⟨gA v 22, gA v 23, Or.inr ⟨fun c => c8 c.1, ?_⟩⟩
      have e8 : nI 8 ≤ nI (qn q) := nI_le (by omega) (by omega)
      rw [mv_self]
      simp (disch := omega) only [f_X13_mayPaint_35, f_X13_mayPaint_43, f_X13_mayPaint_84, ↓lm_1, ↓lm_2, ↓lm_3, ↓lm_4, ↓lm_5, ↓lm_6, ↓lm_7, ↓lm_8, ↓lm_9, ↓lm_10, ↓lm_11, li_0, li_1, li_2, li_3, li_4, li_5, li_6, li_7, li_8, li_9, li_10, li_11, li_12, li_13, li_14, li_15, li_16, li_17, li_18, li_19, li_20, li_21, li_22, li_23, li_24, li_25, li_26, li_27, li_28, li_29, li_30, li_31, li_32, li_33, li_34, li_35, li_36, li_37, li_38, li_39, li_40, li_41, li_42, li_43, li_44, li_45, li_46, li_47, li_48, li_49, li_50, li_51, li_52, li_53, li_54, li_55, li_56, li_57, li_58, li_59, li_60, li_61, li_62, li_63, li_64, li_65, li_66, li_96, li_97, li_99, li_100, li_122, li_125, li_126, li_140, li_255, li_256, li_999, li_1000, li_1001, li_1002, li_1100, li_1386, li_1452, li_1518, li_9999, li_1000000, hw, ↓reduceIte, n10, Nat.one_ne_zero, nI_add, nm_eq, inb_n, ck_t, nI_clamp, mb_rd, hh.2.2.1, e8]
  · refine ⟨gA v 22, gA v 23, Or.inr ⟨fun c => hw (by rw [← hT]; exact c.2.1), ?_⟩⟩
    rw [mv_self]
    simp (disch := omega) only [f_X13_mayPaint_35, f_X13_mayPaint_42, f_X13_mayPaint_43, f_X13_mayPaint_84, ↓lm_1, ↓lm_2, ↓lm_3, ↓lm_4, ↓lm_5, ↓lm_6, ↓lm_7, ↓lm_8, ↓lm_9, ↓lm_10, ↓lm_11, li_0, li_1, li_2, li_3, li_4, li_5, li_6, li_7, li_8, li_9, li_10, li_11, li_12, li_13, li_14, li_15, li_16, li_17, li_18, li_19, li_20, li_21, li_22, li_23, li_24, li_25, li_26, li_27, li_28, li_29, li_30, li_31, li_32, li_33, li_34, li_35, li_36, li_37, li_38, li_39, li_40, li_41, li_42, li_43, li_44, li_45, li_46, li_47, li_48, li_49, li_50, li_51, li_52, li_53, li_54, li_55, li_56, li_57, li_58, li_59, li_60, li_61, li_62, li_63, li_64, li_65, li_66, li_96, li_97, li_99, li_100, li_122, li_125, li_126, li_140, li_255, li_256, li_999, li_1000, li_1001, li_1002, li_1100, li_1386, li_1452, li_1518, li_9999, li_1000000, nI_eq, hw, ↓reduceIte]
theorem m_mayPaint_out (hb : b ≤ 1470) (hh : MH h q) (hq : okq G q) {x y z : Int32} (hx : ¬ ∃ j, j < qn q ∧ y = nI j) : f_X13_mayPaint fu (mb v b h) (nI b) x y z = some (nI 0, mb v b h) := by
  simp only [f_X13_mayPaint, f_X13_mayPaint_0, f_X13_mayPaint_42, f_X13_mayPaint_43, f_X13_mayPaint_84, ↓lm_1, ↓lm_2, ↓lm_3, ↓lm_4, ↓lm_5, ↓lm_6, ↓lm_7, ↓lm_8, ↓lm_9, ↓lm_10, ↓lm_11, li_0, li_1, li_2, li_3, li_4, li_5, li_6, li_7, li_8, li_9, li_10, li_11, li_12, li_13, li_14, li_15, li_16, li_17, li_18, li_19, li_20, li_21, li_22, li_23, li_24, li_25, li_26, li_27, li_28, li_29, li_30, li_31, li_32, li_33, li_34, li_35, li_36, li_37, li_38, li_39, li_40, li_41, li_42, li_43, li_44, li_45, li_46, li_47, li_48, li_49, li_50, li_51, li_52, li_53, li_54, li_55, li_56, li_57, li_58, li_59, li_60, li_61, li_62, li_63, li_64, li_65, li_66, li_96, li_97, li_99, li_100, li_122, li_125, li_126, li_140, li_255, li_256, li_999, li_1000, li_1001, li_1002, li_1100, li_1386, li_1452, li_1518, li_9999, li_1000000, m_isPiece_out hb hh hq hx, bd_s, ↓reduceIte]
theorem m_paints (hb : b ≤ 1470) (hG : okG G) (hh : MH h q) (hq : okq G q) (hp : p < qn q) (h8 : qn q < 8) (hs : s < 8) : ∃ h', f_X13_paints fu (mb v b h) (nI b) (nI t) (nI p) (nI s) = some (nI (qn q), mb v b h') ∧ MH h' (ppaint q t p s) := by
  have b1 := (hq.2.1 p hp).1
  have b2 := p2_256 hs
  refine ⟨_, ?_, MH_paint (p := p) (t := t) hh hq h8 hs⟩
  have e2 : upd (upd (upd (upd (upd h (3 + qn q) (nI (qo q p ^^^ 2 ^ s))) (11 + qn q) (nI t)) (19 + qn q) (nI 0)) (27 + qn q) (nI p)) (35 + qn q) (nI s) 2 = nI (qn q) := by
    simp (disch := omega) only [pk_un]; exact hh.2.2.1
  simp (disch := omega) only [f_X13_paints, f_X13_paints_0, ↓lm_1, ↓lm_2, ↓lm_3, ↓lm_4, ↓lm_5, ↓lm_6, ↓lm_7, ↓lm_8, ↓lm_9, ↓lm_10, ↓lm_11, li_0, li_1, li_2, li_3, li_4, li_5, li_6, li_7, li_8, li_9, li_10, li_11, li_12, li_13, li_14, li_15, li_16, li_17, li_18, li_19, li_20, li_21, li_22, li_23, li_24, li_25, li_26, li_27, li_28, li_29, li_30, li_31, li_32, li_33, li_34, li_35, li_36, li_37, li_38, li_39, li_40, li_41, li_42, li_43, li_44, li_45, li_46, li_47, li_48, li_49, li_50, li_51, li_52, li_53, li_54, li_55, li_56, li_57, li_58, li_59, li_60, li_61, li_62, li_63, li_64, li_65, li_66, li_96, li_97, li_99, li_100, li_122, li_125, li_126, li_140, li_255, li_256, li_999, li_1000, li_1001, li_1002, li_1100, li_1386, li_1452, li_1518, li_9999, li_1000000, nI_add, nm_eq, inb_n, ck_t, nI_clamp, Nat.add_assoc, mb_rd, hh.2.2.1, (hh.2.2.2.1 p hp).1, nI_and31, nI_shl1, nI_xorN, mb_wr, e2]
theorem MH_sell (hh : MH h q) (hq : okq G q) (ht : t < 5) (hp : p < qn q) : MH (upd (upd h (11 + p) (nI 6)) (43 + t) (qc q t + wof G q p)) (psell G q t p) := by
  obtain ⟨c1, c2, c3, c4, c5⟩ := hh
  have h8 := hq.1.2.1
  refine ⟨?_, ?_, ?_, fun x hx => ?_, fun x hx => ?_⟩
  · simp (disch := omega) only [pk_un]; exact c1
  · simp (disch := omega) only [pk_un]; exact c2
  · simp (disch := omega) only [pk_un]; exact c3
  · simp only [psell, qn_mk, qj_mk, qg_mk, qo_mk, qw_mk, qs_mk, qh_mk, qu_mk, qc_mk, qt_mk] at hx ⊢
    simp (disch := omega) only [pk_un]
    have := c4 x hx
    by_cases e : x = p
    · subst e
      rw [pk_us, upN_s]; exact ⟨this.1, rfl, this.2.2.1, this.2.2.2.1, this.2.2.2.2⟩
    · rw [pk_un (by omega), upN_n e]; exact this
  · simp only [psell, qn_mk, qj_mk, qg_mk, qo_mk, qw_mk, qs_mk, qh_mk, qu_mk, qc_mk, qt_mk]
    by_cases e : x = t
    · subst e; rw [pk_us, pk_us]
    · rw [pk_un (by omega), pk_un (by omega), pk_un e]; exact c5 x hx
theorem m_sells (hf : 1101 ≤ fu) (hb : b ≤ 1470) (hM : MG v G) (hG : okG G) (hh : MH h q) (hq : okq G q) (ht : t < nt G) (hp : p < qn q) : ∃ F P h', f_X13_sells fu (mb v b h) (nI b) (nI t) (nI p) = some (wof G q p, mv v b F P h') ∧ MH h' (psell G q t p) := by
  have h8 := hq.1.2.1
  have h5 := hG.2.1
  obtain ⟨F, P, e⟩ := m_worthOf hf hb hM hh hq hp
  refine ⟨F, P, _, ?_, MH_sell (G := G) hh hq (show t < 5 by omega) hp⟩
  have ec : upd h (11 + p) (nI 6) (43 + t) = qc q t := by rw [pk_un (by omega)]; exact hh.2.2.2.2 t (by omega)
  simp (disch := omega) only [f_X13_sells, f_X13_sells_0, ↓lm_1, ↓lm_2, ↓lm_3, ↓lm_4, ↓lm_5, ↓lm_6, ↓lm_7, ↓lm_8, ↓lm_9, ↓lm_10, ↓lm_11, li_0, li_1, li_2, li_3, li_4, li_5, li_6, li_7, li_8, li_9, li_10, li_11, li_12, li_13, li_14, li_15, li_16, li_17, li_18, li_19, li_20, li_21, li_22, li_23, li_24, li_25, li_26, li_27, li_28, li_29, li_30, li_31, li_32, li_33, li_34, li_35, li_36, li_37, li_38, li_39, li_40, li_41, li_42, li_43, li_44, li_45, li_46, li_47, li_48, li_49, li_50, li_51, li_52, li_53, li_54, li_55, li_56, li_57, li_58, li_59, li_60, li_61, li_62, li_63, li_64, li_65, li_66, li_96, li_97, li_99, li_100, li_122, li_125, li_126, li_140, li_255, li_256, li_999, li_1000, li_1001, li_1002, li_1100, li_1386, li_1452, li_1518, li_9999, li_1000000, e, bd2_s, nI_add, nm_eq, inb_n, ck_t, nI_clamp, Nat.add_assoc, mv, mb_wr, mb_rd, ec]
theorem m_passes (hf : 1101 ≤ fu) (hb : b ≤ 1470) (hG : okG G) (hh : MH h q) (hq : okq G q) : ∃ h', f_X13_passes fu (mb v b h) (nI b) = some (mb v b h') ∧ MH h' (pnight q) := by
  have h8 := hq.1.2.1
  have hj := hq.1.2.2.1
  refine ⟨upd (upd (upd h (19 + qj q) (qu q (qj q) + nI 1)) 1 (nI 0)) 0 (qt q + nI 1), ?_, ?_⟩
  · have e0 : upd (upd h (19 + qj q) (qu q (qj q) + nI 1)) 1 (nI 0) 0 = qt q := by rw [pk_un (by omega), pk_un (by omega)]; exact hh.1
    simp (disch := omega) only [f_X13_passes, f_X13_passes_0, ↓lm_1, ↓lm_2, ↓lm_3, ↓lm_4, ↓lm_5, ↓lm_6, ↓lm_7, ↓lm_8, ↓lm_9, ↓lm_10, ↓lm_11, li_0, li_1, li_2, li_3, li_4, li_5, li_6, li_7, li_8, li_9, li_10, li_11, li_12, li_13, li_14, li_15, li_16, li_17, li_18, li_19, li_20, li_21, li_22, li_23, li_24, li_25, li_26, li_27, li_28, li_29, li_30, li_31, li_32, li_33, li_34, li_35, li_36, li_37, li_38, li_39, li_40, li_41, li_42, li_43, li_44, li_45, li_46, li_47, li_48, li_49, li_50, li_51, li_52, li_53, li_54, li_55, li_56, li_57, li_58, li_59, li_60, li_61, li_62, li_63, li_64, li_65, li_66, li_96, li_97, li_99, li_100, li_122, li_125, li_126, li_140, li_255, li_256, li_999, li_1000, li_1001, li_1002, li_1100, li_1386, li_1452, li_1518, li_9999, li_1000000, m_hanging hf hb hG hh hq, bd_s, nI_add, nm_eq, inb_n, ck_t, nI_clamp, Nat.add_assoc, mb_wr, mb_rd, (hh.2.2.2.1 _ hj).2.2.1, e0]
  · obtain ⟨c1, c2, c3, c4, c5⟩ := hh
    refine ⟨?_, ?_, ?_, fun x hx => ?_, fun x hx => ?_⟩
    · rw [pk_us]; rfl
    · rw [pk_un (by omega), pk_us]; rfl
    · rw [pk_un (by omega), pk_un (by omega), pk_un (by omega)]; exact c3
    · simp only [pnight, qn_mk, qj_mk, qg_mk, qo_mk, qw_mk, qs_mk, qh_mk, qu_mk, qc_mk, qt_mk] at hx ⊢
      simp (disch := omega) only [pk_un]
      have := c4 x hx
      by_cases e : x = qj q
      · subst e
        rw [pk_us, pk_us]; exact ⟨this.1, this.2.1, rfl, this.2.2.2.1, this.2.2.2.2⟩
      · rw [pk_un (by omega), pk_un e]; exact this
    · simp (disch := omega) only [pk_un]; exact c5 x hx
/-- who has which, as a set -/
def hasq (q : HP) (t : Nat) : Nat := setb (fun p => decide (qh q p = t)) (qn q)
theorem m_hasOf (hf : 1101 ≤ fu) (hb : b ≤ 1470) (hG : okG G) (hh : MH h q) (hq : okq G q) (ht : t < 100) : f_X13_hasOf fu (mb v b h) (nI b) (nI t) = some (nI (hasq q t)) := by
  have h8 := hq.1.2.1
  have h5 := hG.2.1
  simp only [f_X13_hasOf, f_X13_hasOf_0, f_X13_hasOf_5, ↓lm_1, ↓lm_2, ↓lm_3, ↓lm_4, ↓lm_5, ↓lm_6, ↓lm_7, ↓lm_8, ↓lm_9, ↓lm_10, ↓lm_11, li_0, li_1, li_2, li_3, li_4, li_5, li_6, li_7, li_8, li_9, li_10, li_11, li_12, li_13, li_14, li_15, li_16, li_17, li_18, li_19, li_20, li_21, li_22, li_23, li_24, li_25, li_26, li_27, li_28, li_29, li_30, li_31, li_32, li_33, li_34, li_35, li_36, li_37, li_38, li_39, li_40, li_41, li_42, li_43, li_44, li_45, li_46, li_47, li_48, li_49, li_50, li_51, li_52, li_53, li_54, li_55, li_56, li_57, li_58, li_59, li_60, li_61, li_62, li_63, li_64, li_65, li_66, li_96, li_97, li_99, li_100, li_122, li_125, li_126, li_140, li_255, li_256, li_999, li_1000, li_1001, li_1002, li_1100, li_1386, li_1452, li_1518, li_9999, li_1000000]
  refine for2 _ (fun k => nI (setb (fun p => decide (qh q p = t)) k)) (fun k => nI k) 0 (qn q) _ ?_ ?_ fu (by omega) (by omega)
  · intro rec
    simp (disch := omega) only [f_X13_hasOf_5s, ↓lm_1, ↓lm_2, ↓lm_3, ↓lm_4, ↓lm_5, ↓lm_6, ↓lm_7, ↓lm_8, ↓lm_9, ↓lm_10, ↓lm_11, li_0, li_1, li_2, li_3, li_4, li_5, li_6, li_7, li_8, li_9, li_10, li_11, li_12, li_13, li_14, li_15, li_16, li_17, li_18, li_19, li_20, li_21, li_22, li_23, li_24, li_25, li_26, li_27, li_28, li_29, li_30, li_31, li_32, li_33, li_34, li_35, li_36, li_37, li_38, li_39, li_40, li_41, li_42, li_43, li_44, li_45, li_46, li_47, li_48, li_49, li_50, li_51, li_52, li_53, li_54, li_55, li_56, li_57, li_58, li_59, li_60, li_61, li_62, li_63, li_64, li_65, li_66, li_96, li_97, li_99, li_100, li_122, li_125, li_126, li_140, li_255, li_256, li_999, li_1000, li_1001, li_1002, li_1100, li_1386, li_1452, li_1518, li_9999, li_1000000, nI_add, nm_eq, inb_n, ck_t, nI_clamp, mb_rd, hh.2.2.1, nI_leI, Nat.le_refl, ↓reduceIte, hasq]
  · intro k rec _ hk
    have hc := (hq.2.1 k hk).2.2
    simp (disch := omega) only [f_X13_hasOf_5s, f_X13_hasOf_43, ↓lm_1, ↓lm_2, ↓lm_3, ↓lm_4, ↓lm_5, ↓lm_6, ↓lm_7, ↓lm_8, ↓lm_9, ↓lm_10, ↓lm_11, li_0, li_1, li_2, li_3, li_4, li_5, li_6, li_7, li_8, li_9, li_10, li_11, li_12, li_13, li_14, li_15, li_16, li_17, li_18, li_19, li_20, li_21, li_22, li_23, li_24, li_25, li_26, li_27, li_28, li_29, li_30, li_31, li_32, li_33, li_34, li_35, li_36, li_37, li_38, li_39, li_40, li_41, li_42, li_43, li_44, li_45, li_46, li_47, li_48, li_49, li_50, li_51, li_52, li_53, li_54, li_55, li_56, li_57, li_58, li_59, li_60, li_61, li_62, li_63, li_64, li_65, li_66, li_96, li_97, li_99, li_100, li_122, li_125, li_126, li_140, li_255, li_256, li_999, li_1000, li_1001, li_1002, li_1100, li_1386, li_1452, li_1518, li_9999, li_1000000, nI_add, nm_eq, inb_n, ck_t, nI_clamp, mb_rd, hh.2.2.1, nI_leI, Nat.add_assoc, (hh.2.2.2.1 k hk).2.1, nI_eq, nI_and31, nI_shl1]
    rw [if_neg (by omega)]
    simp only [setb, decide_eq_true_eq]
    by_cases e : qh q k = t
    · rw [if_pos e, if_pos e, setb_step _ (by omega)]
    · rw [if_neg e, if_neg e, nI_orN (by have := setb_lt' (fun p => decide (qh q p = t)) (k := k) (by omega); omega) (by omega), Nat.or_zero]
theorem x3_heldBy {w : GV} (hf : 1101 ≤ fu) (hG : okG G) (hw : CH w q) (hq : okq G q) (ht : t < 100) : f_X3_heldBy fu w (nI t) = some (nI (hasq q t)) := by
  have h8 := hq.1.2.1
  have h5 := hG.2.1
  simp only [f_X3_heldBy, f_X3_heldBy_0, f_X3_heldBy_4, ↓lm_1, ↓lm_2, ↓lm_3, ↓lm_4, ↓lm_5, ↓lm_6, ↓lm_7, ↓lm_8, ↓lm_9, ↓lm_10, ↓lm_11, li_0, li_1, li_2, li_3, li_4, li_5, li_6, li_7, li_8, li_9, li_10, li_11, li_12, li_13, li_14, li_15, li_16, li_17, li_18, li_19, li_20, li_21, li_22, li_23, li_24, li_25, li_26, li_27, li_28, li_29, li_30, li_31, li_32, li_33, li_34, li_35, li_36, li_37, li_38, li_39, li_40, li_41, li_42, li_43, li_44, li_45, li_46, li_47, li_48, li_49, li_50, li_51, li_52, li_53, li_54, li_55, li_56, li_57, li_58, li_59, li_60, li_61, li_62, li_63, li_64, li_65, li_66, li_96, li_97, li_99, li_100, li_122, li_125, li_126, li_140, li_255, li_256, li_999, li_1000, li_1001, li_1002, li_1100, li_1386, li_1452, li_1518, li_9999, li_1000000]
  refine for2 _ (fun k => nI (setb (fun p => decide (qh q p = t)) k)) (fun k => nI k) 0 (qn q) _ ?_ ?_ fu (by omega) (by omega)
  · intro rec
    simp (disch := omega) only [f_X3_heldBy_4s, ↓lm_1, ↓lm_2, ↓lm_3, ↓lm_4, ↓lm_5, ↓lm_6, ↓lm_7, ↓lm_8, ↓lm_9, ↓lm_10, ↓lm_11, li_0, li_1, li_2, li_3, li_4, li_5, li_6, li_7, li_8, li_9, li_10, li_11, li_12, li_13, li_14, li_15, li_16, li_17, li_18, li_19, li_20, li_21, li_22, li_23, li_24, li_25, li_26, li_27, li_28, li_29, li_30, li_31, li_32, li_33, li_34, li_35, li_36, li_37, li_38, li_39, li_40, li_41, li_42, li_43, li_44, li_45, li_46, li_47, li_48, li_49, li_50, li_51, li_52, li_53, li_54, li_55, li_56, li_57, li_58, li_59, li_60, li_61, li_62, li_63, li_64, li_65, li_66, li_96, li_97, li_99, li_100, li_122, li_125, li_126, li_140, li_255, li_256, li_999, li_1000, li_1001, li_1002, li_1100, li_1386, li_1452, li_1518, li_9999, li_1000000, hw.2.2.1, nI_leI, Nat.le_refl, ↓reduceIte, hasq]
  · intro k rec _ hk
    have hc := (hq.2.1 k hk).2.2
    simp (disch := omega) only [f_X3_heldBy_4s, f_X3_heldBy_28, ↓lm_1, ↓lm_2, ↓lm_3, ↓lm_4, ↓lm_5, ↓lm_6, ↓lm_7, ↓lm_8, ↓lm_9, ↓lm_10, ↓lm_11, li_0, li_1, li_2, li_3, li_4, li_5, li_6, li_7, li_8, li_9, li_10, li_11, li_12, li_13, li_14, li_15, li_16, li_17, li_18, li_19, li_20, li_21, li_22, li_23, li_24, li_25, li_26, li_27, li_28, li_29, li_30, li_31, li_32, li_33, li_34, li_35, li_36, li_37, li_38, li_39, li_40, li_41, li_42, li_43, li_44, li_45, li_46, li_47, li_48, li_49, li_50, li_51, li_52, li_53, li_54, li_55, li_56, li_57, li_58, li_59, li_60, li_61, li_62, li_63, li_64, li_65, li_66, li_96, li_97, li_99, li_100, li_122, li_125, li_126, li_140, li_255, li_256, li_999, li_1000, li_1001, li_1002, li_1100, li_1386, li_1452, li_1518, li_9999, li_1000000, nI_add, nm_eq, inb_n, ck_t, nI_clamp, hw.2.2.1, nI_leI, (hw.2.2.2.2.2.1 k hk).2.1, nI_eq, nI_and31, nI_shl1]
    rw [if_neg (by omega)]
    simp only [setb, decide_eq_true_eq]
    by_cases e : qh q k = t
    · rw [if_pos e, if_pos e, setb_step _ (by omega)]
    · rw [if_neg e, if_neg e]
/-- coins of the first k -/
def csum (c : Nat → Int32) : Nat → Int32
  | 0 => nI 0
  | k + 1 => csum c k + c k
theorem csum_z {c : Nat → Int32} {n : Nat} (h : ∀ t, n ≤ t → c t = nI 0) : ∀ k, csum c (n + k) = csum c n := by
  intro k
  induction k with
  | zero => rfl
  | succ k ih => rw [← Nat.add_assoc, csum, ih, h _ (by omega)]; exact Int32.add_zero _
theorem m_coinsOf (hf : 1101 ≤ fu) (hb : b ≤ 1470) (hM : MG v G) (hG : okG G) (hh : MH h q) (hq : okq G q) : f_X13_coinsOf fu (mb v b h) (nI b) = some (csum (qc q) 5) := by
  have h5 := hG.2.1
  have hM' := MG_mb (b := b) (h := h) hM
  have e5 : csum (qc q) 5 = csum (qc q) (nt G) := by
    have := csum_z hq.2.2.2 (5 - nt G)
    rwa [show nt G + (5 - nt G) = 5 by omega] at this
  rw [e5]
  simp only [f_X13_coinsOf, f_X13_coinsOf_0, f_X13_coinsOf_4, ↓lm_1, ↓lm_2, ↓lm_3, ↓lm_4, ↓lm_5, ↓lm_6, ↓lm_7, ↓lm_8, ↓lm_9, ↓lm_10, ↓lm_11, li_0, li_1, li_2, li_3, li_4, li_5, li_6, li_7, li_8, li_9, li_10, li_11, li_12, li_13, li_14, li_15, li_16, li_17, li_18, li_19, li_20, li_21, li_22, li_23, li_24, li_25, li_26, li_27, li_28, li_29, li_30, li_31, li_32, li_33, li_34, li_35, li_36, li_37, li_38, li_39, li_40, li_41, li_42, li_43, li_44, li_45, li_46, li_47, li_48, li_49, li_50, li_51, li_52, li_53, li_54, li_55, li_56, li_57, li_58, li_59, li_60, li_61, li_62, li_63, li_64, li_65, li_66, li_96, li_97, li_99, li_100, li_122, li_125, li_126, li_140, li_255, li_256, li_999, li_1000, li_1001, li_1002, li_1100, li_1386, li_1452, li_1518, li_9999, li_1000000]
  refine for2 _ (fun k => csum (qc q) k) (fun k => nI k) 0 (nt G) _ ?_ ?_ fu (by omega) (by omega)
  · intro rec
    simp (disch := omega) only [f_X13_coinsOf_4s, ↓lm_1, ↓lm_2, ↓lm_3, ↓lm_4, ↓lm_5, ↓lm_6, ↓lm_7, ↓lm_8, ↓lm_9, ↓lm_10, ↓lm_11, li_0, li_1, li_2, li_3, li_4, li_5, li_6, li_7, li_8, li_9, li_10, li_11, li_12, li_13, li_14, li_15, li_16, li_17, li_18, li_19, li_20, li_21, li_22, li_23, li_24, li_25, li_26, li_27, li_28, li_29, li_30, li_31, li_32, li_33, li_34, li_35, li_36, li_37, li_38, li_39, li_40, li_41, li_42, li_43, li_44, li_45, li_46, li_47, li_48, li_49, li_50, li_51, li_52, li_53, li_54, li_55, li_56, li_57, li_58, li_59, li_60, li_61, li_62, li_63, li_64, li_65, li_66, li_96, li_97, li_99, li_100, li_122, li_125, li_126, li_140, li_255, li_256, li_999, li_1000, li_1001, li_1002, li_1100, li_1386, li_1452, li_1518, li_9999, li_1000000, x13_thieves hM'.2.1, bd_s, nI_leI, Nat.le_refl, ↓reduceIte]
  · intro k rec _ hk
    simp (disch := omega) only [f_X13_coinsOf_4s, ↓lm_1, ↓lm_2, ↓lm_3, ↓lm_4, ↓lm_5, ↓lm_6, ↓lm_7, ↓lm_8, ↓lm_9, ↓lm_10, ↓lm_11, li_0, li_1, li_2, li_3, li_4, li_5, li_6, li_7, li_8, li_9, li_10, li_11, li_12, li_13, li_14, li_15, li_16, li_17, li_18, li_19, li_20, li_21, li_22, li_23, li_24, li_25, li_26, li_27, li_28, li_29, li_30, li_31, li_32, li_33, li_34, li_35, li_36, li_37, li_38, li_39, li_40, li_41, li_42, li_43, li_44, li_45, li_46, li_47, li_48, li_49, li_50, li_51, li_52, li_53, li_54, li_55, li_56, li_57, li_58, li_59, li_60, li_61, li_62, li_63, li_64, li_65, li_66, li_96, li_97, li_99, li_100, li_122, li_125, li_126, li_140, li_255, li_256, li_999, li_1000, li_1001, li_1002, li_1100, li_1386, li_1452, li_1518, li_9999, li_1000000, x13_thieves hM'.2.1, bd_s, nI_leI, nI_add, nm_eq, inb_n, ck_t, nI_clamp, Nat.add_assoc, mb_rd, hh.2.2.2.2 k (by omega)]
    rw [if_neg (by omega)]; rfl
theorem x3_allCoins {w : GV} (hf : 1101 ≤ fu) (hw : CH w q) : f_X3_allCoins fu w = some (csum (qc q) 5) := by
  simp only [f_X3_allCoins, f_X3_allCoins_0, f_X3_allCoins_4, ↓lm_1, ↓lm_2, ↓lm_3, ↓lm_4, ↓lm_5, ↓lm_6, ↓lm_7, ↓lm_8, ↓lm_9, ↓lm_10, ↓lm_11, li_0, li_1, li_2, li_3, li_4, li_5, li_6, li_7, li_8, li_9, li_10, li_11, li_12, li_13, li_14, li_15, li_16, li_17, li_18, li_19, li_20, li_21, li_22, li_23, li_24, li_25, li_26, li_27, li_28, li_29, li_30, li_31, li_32, li_33, li_34, li_35, li_36, li_37, li_38, li_39, li_40, li_41, li_42, li_43, li_44, li_45, li_46, li_47, li_48, li_49, li_50, li_51, li_52, li_53, li_54, li_55, li_56, li_57, li_58, li_59, li_60, li_61, li_62, li_63, li_64, li_65, li_66, li_96, li_97, li_99, li_100, li_122, li_125, li_126, li_140, li_255, li_256, li_999, li_1000, li_1001, li_1002, li_1100, li_1386, li_1452, li_1518, li_9999, li_1000000]
  refine for2 _ (fun k => csum (qc q) k) (fun k => nI k) 0 5 _ ?_ ?_ fu (by omega) (by omega)
  · intro rec
    simp (disch := omega) only [f_X3_allCoins_4s, ↓lm_1, ↓lm_2, ↓lm_3, ↓lm_4, ↓lm_5, ↓lm_6, ↓lm_7, ↓lm_8, ↓lm_9, ↓lm_10, ↓lm_11, li_0, li_1, li_2, li_3, li_4, li_5, li_6, li_7, li_8, li_9, li_10, li_11, li_12, li_13, li_14, li_15, li_16, li_17, li_18, li_19, li_20, li_21, li_22, li_23, li_24, li_25, li_26, li_27, li_28, li_29, li_30, li_31, li_32, li_33, li_34, li_35, li_36, li_37, li_38, li_39, li_40, li_41, li_42, li_43, li_44, li_45, li_46, li_47, li_48, li_49, li_50, li_51, li_52, li_53, li_54, li_55, li_56, li_57, li_58, li_59, li_60, li_61, li_62, li_63, li_64, li_65, li_66, li_96, li_97, li_99, li_100, li_122, li_125, li_126, li_140, li_255, li_256, li_999, li_1000, li_1001, li_1002, li_1100, li_1386, li_1452, li_1518, li_9999, li_1000000, nI_leI, Nat.le_refl, ↓reduceIte]
  · intro k rec _ hk
    simp (disch := omega) only [f_X3_allCoins_4s, ↓lm_1, ↓lm_2, ↓lm_3, ↓lm_4, ↓lm_5, ↓lm_6, ↓lm_7, ↓lm_8, ↓lm_9, ↓lm_10, ↓lm_11, li_0, li_1, li_2, li_3, li_4, li_5, li_6, li_7, li_8, li_9, li_10, li_11, li_12, li_13, li_14, li_15, li_16, li_17, li_18, li_19, li_20, li_21, li_22, li_23, li_24, li_25, li_26, li_27, li_28, li_29, li_30, li_31, li_32, li_33, li_34, li_35, li_36, li_37, li_38, li_39, li_40, li_41, li_42, li_43, li_44, li_45, li_46, li_47, li_48, li_49, li_50, li_51, li_52, li_53, li_54, li_55, li_56, li_57, li_58, li_59, li_60, li_61, li_62, li_63, li_64, li_65, li_66, li_96, li_97, li_99, li_100, li_122, li_125, li_126, li_140, li_255, li_256, li_999, li_1000, li_1001, li_1002, li_1100, li_1386, li_1452, li_1518, li_9999, li_1000000, nI_leI, nI_add, nm_eq, inb_n, ck_t, nI_clamp, hw.2.2.2.2.2.2 k hk]
    rw [if_neg (by omega)]; rfl
end M
