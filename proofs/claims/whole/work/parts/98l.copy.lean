/-! ===== gallery: lines of copies ===== -/
theorem m_firstAny {fu : Nat} (hf : 1101 ≤ fu) (x : Int32) : ∃ z, f_X13_firstOf fu x = some z := by
  have key := lpI1 (fun k2 => f_X13_firstOf_2s fu k2 x) (fun k y => y = nI k) (fun r => ∃ z, r = some z) 29 ?_ ?_ fu 0 (nI 0) rfl (by omega) (by omega)
  · obtain ⟨r, ⟨z, hz⟩, e⟩ := key
    refine ⟨z, ?_⟩
    rw [← hz, ← e]
    simp only [f_X13_firstOf, f_X13_firstOf_0, f_X13_firstOf_2, ↓lm_1, ↓lm_2, ↓lm_3, ↓lm_4, ↓lm_5, ↓lm_6, ↓lm_7, ↓lm_8, ↓lm_9, ↓lm_10, ↓lm_11, li_0, li_1, li_2, li_3, li_4, li_5, li_6, li_7, li_8, li_9, li_10, li_11, li_12, li_13, li_14, li_15, li_16, li_17, li_18, li_19, li_20, li_21, li_22, li_23, li_24, li_25, li_26, li_27, li_28, li_29, li_30, li_31, li_32, li_33, li_34, li_35, li_36, li_37, li_38, li_39, li_40, li_41, li_42, li_43, li_44, li_45, li_46, li_47, li_48, li_49, li_50, li_51, li_52, li_53, li_54, li_55, li_56, li_57, li_58, li_59, li_60, li_61, li_62, li_63, li_64, li_65, li_66, li_96, li_97, li_99, li_100, li_122, li_125, li_126, li_140, li_255, li_256, li_999, li_1000, li_1001, li_1002, li_1100, li_1386, li_1452, li_1518, li_9999, li_1000000]
  · rintro y rfl
    refine ⟨_, ⟨nI 29, rfl⟩, fun rec => ?_⟩
    have : nI 29 ≤ nI 29 := by decide
    simp only [f_X13_firstOf_2s, f_X13_firstOf_22, ↓lm_1, ↓lm_2, ↓lm_3, ↓lm_4, ↓lm_5, ↓lm_6, ↓lm_7, ↓lm_8, ↓lm_9, ↓lm_10, ↓lm_11, li_0, li_1, li_2, li_3, li_4, li_5, li_6, li_7, li_8, li_9, li_10, li_11, li_12, li_13, li_14, li_15, li_16, li_17, li_18, li_19, li_20, li_21, li_22, li_23, li_24, li_25, li_26, li_27, li_28, li_29, li_30, li_31, li_32, li_33, li_34, li_35, li_36, li_37, li_38, li_39, li_40, li_41, li_42, li_43, li_44, li_45, li_46, li_47, li_48, li_49, li_50, li_51, li_52, li_53, li_54, li_55, li_56, li_57, li_58, li_59, li_60, li_61, li_62, li_63, li_64, li_65, li_66, li_96, li_97, li_99, li_100, li_122, li_125, li_126, li_140, li_255, li_256, li_999, li_1000, li_1001, li_1002, li_1100, li_1386, li_1452, li_1518, li_9999, li_1000000, this, ↓reduceIte]
  · rintro k y hk rfl
    have hle : ¬ nI 29 ≤ nI k := nI_ge hk (by omega)
    by_cases c : (x >>> (nI k &&& nI 31)) &&& nI 1 = nI 0
    · refine Or.inl ⟨nI (k + 1), rfl, fun rec => ?_⟩
      simp only [f_X13_firstOf_2s, ↓lm_1, ↓lm_2, ↓lm_3, ↓lm_4, ↓lm_5, ↓lm_6, ↓lm_7, ↓lm_8, ↓lm_9, ↓lm_10, ↓lm_11, li_0, li_1, li_2, li_3, li_4, li_5, li_6, li_7, li_8, li_9, li_10, li_11, li_12, li_13, li_14, li_15, li_16, li_17, li_18, li_19, li_20, li_21, li_22, li_23, li_24, li_25, li_26, li_27, li_28, li_29, li_30, li_31, li_32, li_33, li_34, li_35, li_36, li_37, li_38, li_39, li_40, li_41, li_42, li_43, li_44, li_45, li_46, li_47, li_48, li_49, li_50, li_51, li_52, li_53, li_54, li_55, li_56, li_57, li_58, li_59, li_60, li_61, li_62, li_63, li_64, li_65, li_66, li_96, li_97, li_99, li_100, li_122, li_125, li_126, li_140, li_255, li_256, li_999, li_1000, li_1001, li_1002, li_1100, li_1386, li_1452, li_1518, li_9999, li_1000000, hle, ↓reduceIte, if_pos c, nm_eq, nI_add]
    · refine Or.inr ⟨_, ⟨nI k, rfl⟩, fun rec => ?_⟩
      simp only [f_X13_firstOf_2s, f_X13_firstOf_22, ↓lm_1, ↓lm_2, ↓lm_3, ↓lm_4, ↓lm_5, ↓lm_6, ↓lm_7, ↓lm_8, ↓lm_9, ↓lm_10, ↓lm_11, li_0, li_1, li_2, li_3, li_4, li_5, li_6, li_7, li_8, li_9, li_10, li_11, li_12, li_13, li_14, li_15, li_16, li_17, li_18, li_19, li_20, li_21, li_22, li_23, li_24, li_25, li_26, li_27, li_28, li_29, li_30, li_31, li_32, li_33, li_34, li_35, li_36, li_37, li_38, li_39, li_40, li_41, li_42, li_43, li_44, li_45, li_46, li_47, li_48, li_49, li_50, li_51, li_52, li_53, li_54, li_55, li_56, li_57, li_58, li_59, li_60, li_61, li_62, li_63, li_64, li_65, li_66, li_96, li_97, li_99, li_100, li_122, li_125, li_126, li_140, li_255, li_256, li_999, li_1000, li_1001, li_1002, li_1100, li_1386, li_1452, li_1518, li_9999, li_1000000, hle, ↓reduceIte, if_neg c]
theorem okB_padd {G : GP} {q : HP} {o s t : Nat} (h : okB G q) (hG : okG G) (h8 : qn q < 8) (ho : o < qn q) (hs : s < 256) (h0 : 0 < s) (ht : t < nt G) : okB G (padd q o s t) := by
  obtain ⟨⟨⟨b1, b2, b3, b4⟩, b5, b6, b7⟩, c1, c2, c3, c4, c5, c6⟩ := h
  have t5 := hG.2.1
  refine ⟨⟨⟨by show 1 ≤ qn q + 1; omega, by show qn q + 1 ≤ 8; omega, by show qj q < qn q + 1; omega, b4⟩, fun r hr => ?_, fun r r1 hr => ?_, b7⟩, c1, c2, c3, ?_, fun r hr => ?_, fun r r1 hr => ?_⟩
  · have hr : r < qn q + 1 := hr
    show upN (qo q) (qn q) (qo q o ^^^ s) r < 256 ∧ (upN (qh q) (qn q) t r = 5 ↔ r = qj q) ∧ (upN (qh q) (qn q) t r < nt G ∨ upN (qh q) (qn q) t r = 5 ∨ upN (qh q) (qn q) t r = 6)
    by_cases e : r = qn q
    · rw [e, upN_s, upN_s]
      exact ⟨Nat.xor_lt_two_pow (n := 8) (b5 o ho).1 hs, ⟨fun z => by omega, fun z => by omega⟩, Or.inl ht⟩
    · rw [upN_n e, upN_n e]; exact b5 r (by omega)
  · have hr : r < qn q + 1 := hr
    show 0 < upN (qw q) (qn q) s r ∧ upN (qw q) (qn q) s r < 256 ∧ upN (qs q) (qn q) o r < r
    by_cases e : r = qn q
    · rw [e, upN_s, upN_s]; exact ⟨h0, hs, ho⟩
    · rw [upN_n e, upN_n e]; exact b6 r r1 (by omega)
  · show upN (qo q) (qn q) (qo q o ^^^ s) 0 = 0
    rw [upN_n (by omega)]; exact c4
  · have hr : r < qn q + 1 := hr
    show upd (qu q) (qn q) (nI 0) r = nI 0
    by_cases e : r = qn q
    · rw [e, pk_us]
    · rw [pk_un e]; exact c5 r (by omega)
  · have hr : r < qn q + 1 := hr
    show upN (qo q) (qn q) (qo q o ^^^ s) r = upN (qo q) (qn q) (qo q o ^^^ s) (upN (qs q) (qn q) o r) ^^^ upN (qw q) (qn q) s r
    by_cases e : r = qn q
    · rw [e, upN_s, upN_s, upN_s, upN_n (by omega)]
    · have := (b6 r r1 (by omega)).2.2
      rw [upN_n e, upN_n e, upN_n e, upN_n (by omega)]; exact c6 r r1 (by omega)
section T
variable {fu p d n a fl j : Nat} {K : KT} {w v : GV} {S : ST} {G : GP} {N : NM}
theorem ndT_f {Nm : Nat → Nat} {m : Nat} (h : fl ≠ 0) : ndT K a fl Nm m = fl := by
  unfold ndT
  rw [show tNm K a fl = false from decide_eq_false (fun q => h q.1), if_neg (by decide)]
  unfold flf; rw [if_neg h]
theorem rdT_f {Nm : Nat → Nat} {m : Nat} (h : fl ≠ 0) : rdT K a fl Nm m = (a, fl) := by
  unfold rdT
  rw [ndT_f h]
  unfold stp; rw [if_neg (fun q => h q.1)]
theorem rdT_le {Nm : Nat → Nat} {m : Nat} : a ≤ (rdT K a fl Nm m).1 := by
  unfold rdT stp
  simp only
  split <;> omega
theorem l_copy (hf : 1101 ≤ fu) (hK : okK K) (hw : CB w K) (gw : gC w = 8) (hd : d = p + 43 ∨ d = p + 58) (hn : p + 223 < n) (hI : DI K w p d n S v a 0 j) (hk : kK K a ≠ 0) (hR : DR d n j a S v) : ∃ S' v' a' fl', f_X2_readCopy fu S (p + 6) d = some S' ∧ (bd (f_X13_readCopy fu (mw v a 0)) fun v6 => f_X13_takeSign fu v6 (nI 59)) = some (mw v' a' fl') ∧ DI K w p d n S' v' a' fl' j ∧ GF0 p d S S' ∧ GM v v' ∧ (fl' = 0 → a < a' ∧ DR d n j a' S' v') := by
  obtain ⟨G, N, q, nn, cd, ty, c, i1, i2, hG, hB, hCG, hCN, hCH, hMG, hMB, hNR, hNT, hc, hL1, hL2, hj⟩ := hR
  obtain ⟨ok, s1, ⟨c6, r6⟩, _, cd1, cd8, hv, h9, _, _⟩ := id hI
  obtain ⟨h40a, h40b, _⟩ := NR_40 hNR
  have gc8 : ∀ a fl, gC (tw w a fl) = 8 := fun _ _ => gw
  have s8 := hG.1
  have t5 := hG.2.1
  have e4 := hG.2.2.1
  have S6 : ∀ y : GV, st S (p + 1) y (p + 6) = S (p + 6) := fun y => st_ne _ _ (by omega)
  have Sd : ∀ y : GV, st S (p + 1) y d = S d := fun y => st_ne _ _ (by omega)
  have Sd8 : ∀ y : GV, st S (p + 1) y (d + 8) = S (d + 8) := fun y => st_ne _ _ (by omega)
  have c73 : (73 : Int32).toNatClampNeg = 73 := by decide
  have hdp : d ≠ p + 1 := by omega
  have hs1 : ∀ i, i < ns G → gL (S d) 0 i = lN (N.1 i) ∧ N.1 i < 1099511627776 := fun i hi => ⟨hCN.1 i hi, h40a i hi⟩
  have hs2 : ∀ i, i < nt G → gL (S d) 1 i = lN (N.2.1 i) ∧ N.2.1 i < 1099511627776 := fun i hi => ⟨hCN.2.1 i hi, h40b i hi⟩
  have g7 := hCH.1.2.2.1
  have m73 := hMB.1
  have q8 := hB.1.1.2.1
  have q1 := hB.1.1.1
  simp only at g7
  by_cases c8 : qn q = 8
  · have ok5 := okP_flf (x := 5) hK ok (by omega)
    have fp := flf_pos (K := K) (a := a) (fl := 0) (x := 5) (by omega)
    have f5 : ¬ nI (flf K a 0 5) = nI 0 := by have := ok5.2; rw [nI_eq (by omega) (by omega)]; exact fp
    have r6' : gR (st S (p + 1) (tw w a (flf K a 0 5)) (p + 6)) 0 = some (p + 1) := by rw [S6]; exact r6
    have nW7 := x8_needW (fu := fu) (i := 7) hK hw ok5 (by omega) (by omega)
    have nW8 := x8_needW (fu := fu) (i := 8) hK hw ok5 (by omega) (by omega)
    have nW9 := x8_needW (fu := fu) (i := 9) hK hw ok5 (by omega) (by omega)
    rw [ndW_f (by omega) fp] at nW7 nW8 nW9
    obtain ⟨zn, tn1, _⟩ := x8_takeNum (fu := fu) (lim := 8) hK hw ok5 (by omega)
    rw [ndN_f fp] at tn1
    obtain ⟨y, sps⟩ := j_spotsF (fu := fu) (p := p) (d := d) (v := v) (lim := 3) (S := st S (p + 1) (tw w a (flf K a 0 5))) hf hK hw gw hv h9 hG hNT hNR (by omega) (by omega) hdp ok5 fp (st_same _ _ _) r6' (by rw [Sd]; exact hCG.1) (by rw [Sd]; exact hs1)
    rw [st_st] at sps
    have tt := x1_takeThief (fu := fu) (p := p) (t := d) (S := st S (p + 1) (tw w a (flf K a 0 5))) (N := N) hf hK hw ok5 hG (st_same _ _ _) (by rw [Sd]; exact hCG.2.1) hdp (by rw [Sd]; exact hs2)
    rw [rdT_f fp, st_st] at tt
    have nd := x8_need1 (fu := fu) (c := 59) hK hw ok5 (by omega)
    have mt := m_takeSign (fu := fu) (c := 59) hK hv ok5 (by omega)
    rw [ndS_f fp] at nd mt
    simp only at nW7 nW8 nW9 tn1 tt nd mt
    rw [c8] at g7 m73
    refine ⟨st S (p + 1) (tw w a (flf K a 0 5)), v, a, flf K a 0 5, ?_, ?_, DI_t hd hn hI ok5 (GM_refl v), fun b h1 _ _ => st_ne _ _ h1, GM_refl v, fun z => absurd z fp⟩
    · have n88 : nI 8 ≤ nI 8 := by decide
      simp only [f_X2_readCopy, f_X2_readCopy_0, f_X2_readCopy_21, f_X8_stepOrFail, f_X8_stepOrFail_0, ↓lm_1, ↓lm_2, ↓lm_3, ↓lm_4, ↓lm_5, ↓lm_6, ↓lm_7, ↓lm_8, ↓lm_9, ↓lm_10, ↓lm_11, li_0, li_1, li_2, li_3, li_4, li_5, li_6, li_7, li_8, li_9, li_10, li_11, li_12, li_13, li_14, li_15, li_16, li_17, li_18, li_19, li_20, li_21, li_22, li_23, li_24, li_25, li_26, li_27, li_28, li_29, li_30, li_31, li_32, li_33, li_34, li_35, li_36, li_37, li_38, li_39, li_40, li_41, li_42, li_43, li_44, li_45, li_46, li_47, li_48, li_49, li_50, li_51, li_52, li_53, li_54, li_55, li_56, li_57, li_58, li_59, li_60, li_61, li_62, li_63, li_64, li_65, li_66, li_96, li_97, li_99, li_100, li_122, li_125, li_126, li_140, li_255, li_256, li_999, li_1000, li_1001, li_1002, li_1100, li_1386, li_1452, li_1518, li_9999, li_1000000, r6, bd_s, s1, gc8, decide_true, ck_t, cd8, Sd8, g7, n88, ↓reduceIte, x8_fail hK hw ok, nm_eq, bd2_s, S6, st_same, nW7, nW8, nW9, tn1, sps, tt, nd, st_st, tw_g7, f5]
    · simp only [f_X13_readCopy, f_X13_readCopy_0, ↓lm_1, ↓lm_2, ↓lm_3, ↓lm_4, ↓lm_5, ↓lm_6, ↓lm_7, ↓lm_8, ↓lm_9, ↓lm_10, ↓lm_11, li_0, li_1, li_2, li_3, li_4, li_5, li_6, li_7, li_8, li_9, li_10, li_11, li_12, li_13, li_14, li_15, li_16, li_17, li_18, li_19, li_20, li_21, li_22, li_23, li_24, li_25, li_26, li_27, li_28, li_29, li_30, li_31, li_32, li_33, li_34, li_35, li_36, li_37, li_38, li_39, li_40, li_41, li_42, li_43, li_44, li_45, li_46, li_47, li_48, li_49, li_50, li_51, li_52, li_53, li_54, li_55, li_56, li_57, li_58, li_59, li_60, li_61, li_62, li_63, li_64, li_65, li_66, li_96, li_97, li_99, li_100, li_122, li_125, li_126, li_140, li_255, li_256, li_999, li_1000, li_1001, li_1002, li_1100, li_1386, li_1452, li_1518, li_9999, li_1000000, c73, mw_A, m73, nm_eq, ↓reduceIte, m_wrong hK hv ok, bd_s, mt]
  · have ok1 := okP_in hK ok hk
    have sp := x8_step1 (fu := fu) hK hw ok
    rw [stp_in rfl hk] at sp
    have n88 : ¬ nI 8 ≤ nI (qn q) := nI_ge (by omega) (by omega)
    have n8e : ¬ nI (qn q) = nI 8 := by rw [nI_eq (by omega) (by omega)]; exact c8
    -- of which
    have nW7 := x8_needW (fu := fu) (i := 7) hK hw ok1 (by omega) (by omega)
    have ta1 := m_takeAfter (fu := fu) (v := v) (i := 6) (hi := qn q - 1) hK hv h9 ok1 (by omega) (by omega)
    simp only [Nat.reduceAdd, Nat.sub_add_cancel q1] at ta1
    have ok2 := okP_ndW (i := 7) hK ok1 (by omega)
    have w21 := ndW_1 (K := K) (a := a + 1) (fl := 0) (i := 7) (by omega)
    have w2l := ndW_le (K := K) (a := a + 1) (fl := 0) (i := 7)
    generalize ndW K (a + 1) 0 7 = R2 at *
    obtain ⟨a2, fl2⟩ := R2
    simp only at nW7 ta1 ok2 w21 w2l
    obtain ⟨zn, tn1, tn12⟩ := x8_takeNum (fu := fu) (lim := qn q) hK hw ok2 (by omega)
    have ok3 := okP_ndN hK ok2 (qn q)
    have n30 := ndN_0 (K := K) (a := a2) (fl := fl2) (lim := qn q)
    have n3l := ndN_le (K := K) (a := a2) (fl := fl2) (lim := qn q)
    generalize hyn : (if (ndN K a2 fl2 (qn q)).2 = 0 then nI (kV K a2) else nI 0) = yn at *
    generalize ndN K a2 fl2 (qn q) = R3 at *
    obtain ⟨a3, fl3⟩ := R3
    simp only at ta1 tn1 tn12 ok3 n30 n3l hyn
    have gm1 : GM v (sA v 10 (100 + 4 * qn q) yn) := GM_10 (by omega)
    -- the slips
    have nW8 := x8_needW (fu := fu) (i := 8) hK hw ok3 (by omega) (by omega)
    have tW8 := m_takeWord (fu := fu) (v := sA v 10 (100 + 4 * qn q) yn) (i := 7) hK (MB_GM hv gm1) (WB_GM h9 gm1) ok3 (by omega)
    simp only [Nat.reduceAdd] at tW8
    have ok4 := okP_ndW (i := 8) hK ok3 (by omega)
    have w41 := ndW_1 (K := K) (a := a3) (fl := fl3) (i := 8) (by omega)
    have w4l := ndW_le (K := K) (a := a3) (fl := fl3) (i := 8)
    generalize ndW K a3 fl3 8 = R4 at *
    obtain ⟨a4, fl4⟩ := R4
    simp only at nW8 tW8 ok4 w41 w4l
    obtain ⟨a5, fl5, zs, ys, sp1, sp2, ok5, le5, sp3⟩ := j_spots (fu := fu) (p := p) (d := d) (v := sA v 10 (100 + 4 * qn q) yn) (lim := 3) (S := st S (p + 1) (tw w a4 fl4)) hf hK hw gw (MB_GM hv gm1) (WB_GM h9 gm1) hG (NT_GM10 hNT) hNR (by omega) (by omega) hdp ok4 (st_same _ _ _) (by rw [S6]; exact r6) (by rw [Sd]; exact hCG.1) (by rw [Sd]; exact hs1)
    rw [st_st] at sp1
    obtain ⟨zf, fo1⟩ := m_firstAny (fu := fu) hf ys
    generalize hv2 : sA (sA (sA v 10 (100 + 4 * qn q) yn) 10 (100 + 4 * qn q + 1) ys) 10 (100 + 4 * qn q + 2) zf = v2 at *
    have gm2 : GM v v2 := by rw [← hv2]; exact GM_trans (GM_trans gm1 (GM_10 (by omega))) (GM_10 (by omega))
    have hNT2 : NT v2 true nn cd ty := by rw [← hv2]; exact NT_GM10 (NT_GM10 (NT_GM10 hNT))
    -- who has it
    have nW9 := x8_needW (fu := fu) (i := 9) hK hw ok5 (by omega) (by omega)
    have tW9 := m_takeWord (fu := fu) (v := v2) (i := 8) hK (MB_GM hv gm2) (WB_GM h9 gm2) ok5 (by omega)
    simp only [Nat.reduceAdd] at tW9
    have ok6 := okP_ndW (i := 9) hK ok5 (by omega)
    have w61 := ndW_1 (K := K) (a := a5) (fl := fl5) (i := 9) (by omega)
    have w6l := ndW_le (K := K) (a := a5) (fl := fl5) (i := 9)
    generalize ndW K a5 fl5 9 = R6 at *
    obtain ⟨a6, fl6⟩ := R6
    simp only at nW9 tW9 ok6 w61 w6l
    have tt := x1_takeThief (fu := fu) (p := p) (t := d) (S := st S (p + 1) (tw w a6 fl6)) (N := N) hf hK hw ok6 hG (st_same _ _ _) (by rw [Sd]; exact hCG.2.1) hdp (by rw [Sd]; exact hs2)
    rw [st_st] at tt
    have mt' := m_takeTold (fu := fu) (v := v2) (r := true) hf hK (MB_GM hv gm2) (WB_GM h9 gm2) ok6 hNT2 (fr := 20) (by omega) (NR_thief hG hNR)
    rw [b01_t] at mt'
    have ok7 := okP_rdT hK ok6 N.2.1 (nt G)
    have r0 : (rdT K a6 fl6 N.2.1 (nt G)).2 = ndT K a6 fl6 N.2.1 (nt G) := rfl
    have r1 : (rdT K a6 fl6 N.2.1 (nt G)).1 = stp K a6 (ndT K a6 fl6 N.2.1 (nt G)) := rfl
    rw [← r1, ← r0] at mt'
    generalize hT1 : oI (if tNm K a6 fl6 = true then plc N.2.1 (kV K a6) (nt G) else none) = z1 at *
    generalize hM1 : (if (rdT K a6 fl6 N.2.1 (nt G)).2 = 0 then oI (plc N.2.1 (kV K a6) (nt G)) else nI 0) = y1 at *
    have f1 : (rdT K a6 fl6 N.2.1 (nt G)).2 = 0 → fl6 = 0 ∧ ∃ i, i < nt G ∧ z1 = nI i ∧ y1 = nI i := by
      intro q
      have q' : ndT K a6 fl6 N.2.1 (nt G) = 0 := q
      obtain ⟨b1, b2, i, b3, b4, b5⟩ := ndT_0 q'
      have tn := ndT_tn q'
      refine ⟨b1, i, b4, ?_, ?_⟩
      · rw [← hT1, if_pos tn, b3]; rfl
      · rw [← hM1, if_pos q, b3]; rfl
    have rl := rdT_le (K := K) (a := a6) (fl := fl6) (Nm := N.2.1) (m := nt G)
    generalize rdT K a6 fl6 N.2.1 (nt G) = R7 at *
    obtain ⟨a7, fl7⟩ := R7
    simp only at tt mt' ok7 f1 rl
    have nd := x8_need1 (fu := fu) (c := 59) hK hw ok7 (by omega)
    have gm5 : GM v (sA (sA v2 10 (100 + 4 * qn q + 3) y1) 10 73 (nI (qn q + 1))) := GM_trans gm2 (GM_trans (GM_10 (by omega)) (GM_10 (by omega)))
    have mt := m_takeSign (fu := fu) (v := sA (sA v2 10 (100 + 4 * qn q + 3) y1) 10 73 (nI (qn q + 1))) (c := 59) hK (MB_GM hv gm5) ok7 (by omega)
    have okF := okP_ndS hK ok7 59
    have nd0 := ndS_1 (K := K) (a := a7) (fl := fl7) (c := 59)
    have ndl := ndS_le (K := K) (a := a7) (fl := fl7) (c := 59)
    generalize ndS K a7 fl7 59 = Q at *
    obtain ⟨a9, fl9⟩ := Q
    simp only at nd mt okF nd0 ndl
    have v2o : ∀ x, x ≠ 100 + 4 * qn q → x ≠ 100 + 4 * qn q + 1 → x ≠ 100 + 4 * qn q + 2 → gA v2 10 x = gA v 10 x := fun x h1 h2 h3 => by
      rw [← hv2, gA_sA, if_neg h3, gA_sA, if_neg h2, gA_sA, if_neg h1]
    have md : (bd (f_X13_readCopy fu (mw v a 0)) fun v6 => f_X13_takeSign fu v6 (nI 59)) = some (mw (sA (sA v2 10 (100 + 4 * qn q + 3) y1) 10 73 (nI (qn q + 1))) a9 fl9) := by
      have o : gA (sA v2 10 (100 + 4 * qn q + 3) y1) 10 73 = nI (qn q) := by rw [gA_sA, if_neg (by omega), v2o _ (by omega) (by omega) (by omega)]; exact m73
      have o1 : gA (sA (sA v 10 (100 + 4 * qn q) yn) 10 (100 + 4 * qn q + 1) ys) 10 (100 + 4 * qn q + 1) = ys := by rw [gA_sA, if_pos rfl]
      simp (disch := omega) only [f_X13_readCopy, f_X13_readCopy_0, ↓lm_1, ↓lm_2, ↓lm_3, ↓lm_4, ↓lm_5, ↓lm_6, ↓lm_7, ↓lm_8, ↓lm_9, ↓lm_10, ↓lm_11, li_0, li_1, li_2, li_3, li_4, li_5, li_6, li_7, li_8, li_9, li_10, li_11, li_12, li_13, li_14, li_15, li_16, li_17, li_18, li_19, li_20, li_21, li_22, li_23, li_24, li_25, li_26, li_27, li_28, li_29, li_30, li_31, li_32, li_33, li_34, li_35, li_36, li_37, li_38, li_39, li_40, li_41, li_42, li_43, li_44, li_45, li_46, li_47, li_48, li_49, li_50, li_51, li_52, li_53, li_54, li_55, li_56, li_57, li_58, li_59, li_60, li_61, li_62, li_63, li_64, li_65, li_66, li_96, li_97, li_99, li_100, li_122, li_125, li_126, li_140, li_255, li_256, li_999, li_1000, li_1001, li_1002, li_1100, li_1386, li_1452, li_1518, li_9999, li_1000000, c73, mw_A, m73, nm_eq, n8e, ↓reduceIte, mw_g7, mw_7, nI_add, nI_mulN, pk_sub, ta1, bd_s, bd2_s, inb_n, ck_t, nI_clamp, mw_sA, tW8, sp2, o1, fo1, hv2, tW9, mt', o, mt]
    by_cases z : fl9 = 0
    · subst z
      obtain ⟨z1', z2, z3⟩ := nd0 rfl
      subst z1'
      obtain ⟨z4, th, th5, rfl, rfl⟩ := f1 rfl
      subst z4
      obtain ⟨z5, z6⟩ := w61 rfl
      subst z5
      obtain ⟨z7, x, rfl, rfl, x256, x0⟩ := sp3 rfl
      subst z7
      obtain ⟨z10, z11⟩ := w41 rfl
      subst z10
      obtain ⟨z12, z13, z14⟩ := n30 rfl
      subst z12
      have zn' := tn12 rfl
      rw [if_pos rfl] at hyn
      subst zn' hyn
      have fo2 := m_firstOf (fu := fu) (x := x) hf x256 (by omega)
      rw [fo2] at fo1
      injection fo1 with fo1
      subst fo1
      obtain ⟨w', ap1, ap2, ap3⟩ := x3_addPiece (fu := fu) (w := S (d + 8)) (q := q) (G := G) (p := kV K a2) (s := x) (t := th) hCH.1 hB.1 (by omega) z14 x256
      generalize kV K a2 = o' at *
      refine ⟨st (st S (p + 1) (tw w a9 0)) (d + 8) w', sA (sA v2 10 (100 + 4 * qn q + 3) (nI th)) 10 73 (nI (qn q + 1)), a9, 0, ?_, md, ?_, fun b h1 _ h3 => by rw [st_ne _ _ h3, st_ne _ _ h1], gm5, fun _ => ⟨by omega, ?_⟩⟩
      · simp (disch := omega) only [f_X2_readCopy, f_X2_readCopy_0, f_X2_readCopy_21, f_X8_stepOrFail, f_X8_stepOrFail_0, ↓lm_1, ↓lm_2, ↓lm_3, ↓lm_4, ↓lm_5, ↓lm_6, ↓lm_7, ↓lm_8, ↓lm_9, ↓lm_10, ↓lm_11, li_0, li_1, li_2, li_3, li_4, li_5, li_6, li_7, li_8, li_9, li_10, li_11, li_12, li_13, li_14, li_15, li_16, li_17, li_18, li_19, li_20, li_21, li_22, li_23, li_24, li_25, li_26, li_27, li_28, li_29, li_30, li_31, li_32, li_33, li_34, li_35, li_36, li_37, li_38, li_39, li_40, li_41, li_42, li_43, li_44, li_45, li_46, li_47, li_48, li_49, li_50, li_51, li_52, li_53, li_54, li_55, li_56, li_57, li_58, li_59, li_60, li_61, li_62, li_63, li_64, li_65, li_66, li_96, li_97, li_99, li_100, li_122, li_125, li_126, li_140, li_255, li_256, li_999, li_1000, li_1001, li_1002, li_1100, li_1386, li_1452, li_1518, li_9999, li_1000000, r6, bd_s, s1, gc8, decide_true, ck_t, cd8, Sd8, g7, n88, n10, ↓reduceIte, sp, nm_eq, bd2_s, S6, st_same, nW7, tn1, nW8, sp1, nW9, tt, nd, st_st, tw_g7, ap1]
      · refine DI_of hd hn hI okF ?_ (fun b h1 _ h3 => by rw [st_ne _ _ h3, st_ne _ _ h1]) ?_ ?_ gm5
        · rw [st_ne _ _ (by omega), st_same]
        · rw [st_ne _ _ (by omega), st_ne _ _ (by omega)]; exact cd1
        · rw [st_same]; exact ap2.1
      · have o : ∀ y, y ≠ 73 → y ≠ 100 + 4 * qn q → y ≠ 100 + 4 * qn q + 1 → y ≠ 100 + 4 * qn q + 2 → y ≠ 100 + 4 * qn q + 3 → gA (sA (sA v2 10 (100 + 4 * qn q + 3) (nI th)) 10 73 (nI (qn q + 1))) 10 y = gA v 10 y := fun y h1 h2 h3 h4 h5 => by rw [gA_sA, if_neg h1, gA_sA, if_neg h5, v2o y h2 h3 h4]
        have Sdd : st (st S (p + 1) (tw w a9 0)) (d + 8) w' d = S d := by rw [st_ne _ _ (by omega), st_ne _ _ (by omega)]
        refine ⟨G, N, padd q o' x th, nn, cd, ty, c, i1, i2, hG, okB_padd hB hG (by omega) z14 x256 x0 th5, ?_, ?_, ?_, ?_, ?_, hNR, NT_GM10 (NT_GM10 hNT2), ⟨?_, by omega⟩, ?_, ?_, hj⟩
        · rw [Sdd]; exact hCG
        · rw [Sdd]; exact hCN
        · rw [st_same]
          obtain ⟨_, b2, b3, b4⟩ := hCH
          exact ⟨ap2, by rw [ap3 10 (by omega)]; exact b2, by rw [ap3 11 (by omega)]; exact b3, by rw [ap3 12 (by omega)]; exact b4⟩
        · obtain ⟨b1, b2, b3, b4, b5⟩ := hMG
          refine ⟨by rw [o _ (by omega) (by omega) (by omega) (by omega) (by omega)]; exact b1, by rw [o _ (by omega) (by omega) (by omega) (by omega) (by omega)]; exact b2, by rw [o _ (by omega) (by omega) (by omega) (by omega) (by omega)]; exact b3, fun t ht => ?_, fun e he => ?_⟩
          · rw [o _ (by omega) (by omega) (by omega) (by omega) (by omega), o _ (by omega) (by omega) (by omega) (by omega) (by omega), o _ (by omega) (by omega) (by omega) (by omega) (by omega)]; exact b4 t ht
          · rw [o _ (by omega) (by omega) (by omega) (by omega) (by omega)]; exact b5 e he
        · obtain ⟨b1, b2, b3⟩ := hMB
          refine ⟨by rw [gA_sA, if_pos rfl]; rfl, fun r hr => ?_, fun t ht => by rw [o _ (by omega) (by omega) (by omega) (by omega) (by omega)]; exact b3 t ht⟩
          have hr : r < qn q + 1 := hr
          show _ = (if r = 0 then mI 1 else nI (upN (qs q) (qn q) o' r)) ∧ (r ≠ 0 → _ = nI (upN (qw q) (qn q) x r) ∧ _ = nI (fo (upN (qw q) (qn q) x r))) ∧ _ = nI (upN (qh q) (qn q) th r)
          by_cases e : r = qn q
          · rw [e, upN_s, upN_s, upN_s, if_neg (by omega)]
            refine ⟨?_, fun _ => ⟨?_, ?_⟩, ?_⟩
            · rw [gA_sA, if_neg (by omega), gA_sA, if_neg (by omega), ← hv2, gA_sA, if_neg (by omega), gA_sA, if_neg (by omega), gA_sA, if_pos rfl]
            · rw [gA_sA, if_neg (by omega), gA_sA, if_neg (by omega), ← hv2, gA_sA, if_neg (by omega), gA_sA, if_pos rfl]
            · rw [gA_sA, if_neg (by omega), gA_sA, if_neg (by omega), ← hv2, gA_sA, if_pos rfl]
            · rw [gA_sA, if_neg (by omega), gA_sA, if_pos rfl]
          · rw [upN_n e, upN_n e, upN_n e, o _ (by omega) (by omega) (by omega) (by omega) (by omega), o _ (by omega) (by omega) (by omega) (by omega) (by omega), o _ (by omega) (by omega) (by omega) (by omega) (by omega), o _ (by omega) (by omega) (by omega) (by omega) (by omega)]; exact b2 r (by omega)
        · rw [← hv2]; exact hc.1
        · rw [Sdd, o 74 (by omega) (by omega) (by omega) (by omega) (by omega)]
          refine DL_keep hL1 (fun b b1 _ => by rw [st_ne _ _ (by omega), st_ne _ _ (by omega)]) (fun x _ => ?_) (Nat.le_refl _) (Nat.le_refl _)
          rw [← hv2]; exact ⟨rfl, rfl⟩
        · rw [Sdd, o 75 (by omega) (by omega) (by omega) (by omega) (by omega)]
          refine DL_keep hL2 (fun b b1 _ => by rw [st_ne _ _ (by omega), st_ne _ _ (by omega)]) (fun x _ => ?_) (Nat.le_refl _) (Nat.le_refl _)
          rw [← hv2]; exact ⟨rfl, rfl⟩
    · have fz : ¬ nI fl9 = nI 0 := by have := okF.2; rw [nI_eq (by omega) (by omega)]; exact z
      refine ⟨st S (p + 1) (tw w a9 fl9), sA (sA v2 10 (100 + 4 * qn q + 3) y1) 10 73 (nI (qn q + 1)), a9, fl9, ?_, md, DI_t hd hn hI okF gm5, fun b h1 _ _ => st_ne _ _ h1, gm5, fun q => absurd q z⟩
      simp (disch := omega) only [f_X2_readCopy, f_X2_readCopy_0, f_X2_readCopy_21, f_X8_stepOrFail, f_X8_stepOrFail_0, ↓lm_1, ↓lm_2, ↓lm_3, ↓lm_4, ↓lm_5, ↓lm_6, ↓lm_7, ↓lm_8, ↓lm_9, ↓lm_10, ↓lm_11, li_0, li_1, li_2, li_3, li_4, li_5, li_6, li_7, li_8, li_9, li_10, li_11, li_12, li_13, li_14, li_15, li_16, li_17, li_18, li_19, li_20, li_21, li_22, li_23, li_24, li_25, li_26, li_27, li_28, li_29, li_30, li_31, li_32, li_33, li_34, li_35, li_36, li_37, li_38, li_39, li_40, li_41, li_42, li_43, li_44, li_45, li_46, li_47, li_48, li_49, li_50, li_51, li_52, li_53, li_54, li_55, li_56, li_57, li_58, li_59, li_60, li_61, li_62, li_63, li_64, li_65, li_66, li_96, li_97, li_99, li_100, li_122, li_125, li_126, li_140, li_255, li_256, li_999, li_1000, li_1001, li_1002, li_1100, li_1386, li_1452, li_1518, li_9999, li_1000000, r6, bd_s, s1, gc8, decide_true, ck_t, cd8, Sd8, g7, n88, n10, ↓reduceIte, sp, nm_eq, bd2_s, S6, st_same, nW7, tn1, nW8, sp1, nW9, tt, nd, st_st, tw_g7, fz]
end T
