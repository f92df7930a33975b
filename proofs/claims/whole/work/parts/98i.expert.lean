/-! ===== gallery: lines of experts ===== -/
theorem mw_inj {v v' : GV} {K : KT} {a fl a' fl' : Nat} (hK : okK K) (h : okP K a fl) (h' : okP K a' fl') (e : mw v a fl = mw v' a' fl') : a = a' ∧ fl = fl' := by
  have e7 := congrArg (fun z => gI z 7) e
  have e8 := congrArg (fun z => gI z 8) e
  simp only [mw_g7, mw_g8] at e7 e8
  have := hK.1
  obtain ⟨h1, h2⟩ := h
  obtain ⟨h3, h4⟩ := h'
  rw [nI_eq (by omega) (by omega)] at e7 e8
  exact ⟨e7, e8⟩
section T
variable {fu p d n a fl j : Nat} {K : KT} {w v : GV} {S : ST} {G : GP} {N : NM}
theorem j_spotsF (hf : 1101 ≤ fu) (hK : okK K) (hw : CB w K) (gw : gC w = 8) (hv : MB v K) (h9 : WB9 v) (hG : okG G) {n : Nat} {cd ty : Nat → Nat} (hNT : NT v true n cd ty) (hNR : NR G N n cd ty) {lim : Nat} (hl1 : 1 ≤ lim) (hl : lim < 30) (hdp : d ≠ p + 1) (h : okP K a fl) (c0 : fl ≠ 0) (hS : S (p + 1) = tw w a fl) (h0 : gR (S (p + 6)) 0 = some (p + 1)) (hg : gI (S d) 8 = nI (ns G)) (hs1 : ∀ i, i < ns G → gL (S d) 0 i = lN (N.1 i) ∧ N.1 i < 1099511627776) : ∃ y, f_X2_takeSpots fu S (p + 6) d (nI lim) = some (y, st S (p + 1) (tw w a fl)) := by
  obtain ⟨a', fl', y, y', e1, e2, e3, _⟩ := j_spots (fu := fu) (p := p) (d := d) (v := v) (lim := lim) hf hK hw gw hv h9 hG hNT hNR hl1 hl hdp h hS h0 hg hs1
  obtain ⟨fv, rfl⟩ : ∃ k, fu = k + 1 := ⟨fu - 1, by omega⟩
  have f0 : ¬ nI fl = nI 0 := by have := h.2; rw [nI_eq (by omega) (by omega)]; exact c0
  have q : f_X13_readSpots (fv + 1) (mw v a fl) (nI lim) = some (nI 0, mw v a fl) := by
    simp only [f_X13_readSpots, f_X13_readSpots_0, f_X13_readSpots_4, lq3_s, f_X13_readSpots_4s, f_X13_readSpots_105, ↓lm_1, ↓lm_2, ↓lm_3, ↓lm_4, ↓lm_5, ↓lm_6, ↓lm_7, ↓lm_8, ↓lm_9, ↓lm_10, ↓lm_11, li_0, li_1, li_2, li_3, li_4, li_5, li_6, li_7, li_8, li_9, li_10, li_11, li_12, li_13, li_14, li_15, li_16, li_17, li_18, li_19, li_20, li_21, li_22, li_23, li_24, li_25, li_26, li_27, li_28, li_29, li_30, li_31, li_32, li_33, li_34, li_35, li_36, li_37, li_38, li_39, li_40, li_41, li_42, li_43, li_44, li_45, li_46, li_47, li_48, li_49, li_50, li_51, li_52, li_53, li_54, li_55, li_56, li_57, li_58, li_59, li_60, li_61, li_62, li_63, li_64, li_65, li_66, li_96, li_97, li_99, li_100, li_122, li_125, li_126, li_140, li_255, li_256, li_999, li_1000, li_1001, li_1002, li_1100, li_1386, li_1452, li_1518, li_9999, li_1000000, mw_g8, f0, ↓reduceIte]
  rw [q] at e2
  have q3 : mw v a fl = mw v a' fl' := by injection e2 with q2; injection q2
  obtain ⟨rfl, rfl⟩ := mw_inj hK h e3 q3
  exact ⟨y, e1⟩
theorem j_hoursF (hf : 1101 ≤ fu) (hK : okK K) (hw : CB w K) (gw : gC w = 8) (hv : MB v K) (h : okP K a fl) (c0 : fl ≠ 0) (hS : S (p + 1) = tw w a fl) (h0 : gR (S (p + 6)) 0 = some (p + 1)) : ∃ y, f_X2_takeHours fu S (p + 6) = some (y, st S (p + 1) (tw w a fl)) := by
  obtain ⟨a', fl', y, y', e1, e2, e3, _⟩ := j_hours (fu := fu) (p := p) (v := v) hf hK hw gw hv h hS h0
  obtain ⟨fv, rfl⟩ : ∃ k, fu = k + 1 := ⟨fu - 1, by omega⟩
  have f0 : ¬ nI fl = nI 0 := by have := h.2; rw [nI_eq (by omega) (by omega)]; exact c0
  have q : f_X13_readHours (fv + 1) (mw v a fl) = some (nI 0, mw v a fl) := by
    simp only [f_X13_readHours, f_X13_readHours_0, f_X13_readHours_4, lq3_s, f_X13_readHours_4s, f_X13_readHours_97, ↓lm_1, ↓lm_2, ↓lm_3, ↓lm_4, ↓lm_5, ↓lm_6, ↓lm_7, ↓lm_8, ↓lm_9, ↓lm_10, ↓lm_11, li_0, li_1, li_2, li_3, li_4, li_5, li_6, li_7, li_8, li_9, li_10, li_11, li_12, li_13, li_14, li_15, li_16, li_17, li_18, li_19, li_20, li_21, li_22, li_23, li_24, li_25, li_26, li_27, li_28, li_29, li_30, li_31, li_32, li_33, li_34, li_35, li_36, li_37, li_38, li_39, li_40, li_41, li_42, li_43, li_44, li_45, li_46, li_47, li_48, li_49, li_50, li_51, li_52, li_53, li_54, li_55, li_56, li_57, li_58, li_59, li_60, li_61, li_62, li_63, li_64, li_65, li_66, li_96, li_97, li_99, li_100, li_122, li_125, li_126, li_140, li_255, li_256, li_999, li_1000, li_1001, li_1002, li_1100, li_1386, li_1452, li_1518, li_9999, li_1000000, mw_g8, f0, ↓reduceIte]
  rw [q] at e2
  have q3 : mw v a fl = mw v a' fl' := by injection e2 with q2; injection q2
  obtain ⟨rfl, rfl⟩ := mw_inj hK h e3 q3
  exact ⟨y, e1⟩
theorem ndW_f {i : Nat} (h1 : 1 ≤ i) (h : fl ≠ 0) : ndW K a fl i = (a, fl) := by
  unfold ndW
  rw [if_neg (fun q => h (tI_k h1 q).1)]
  unfold flf; rw [if_neg h]
theorem ndW_1 {i : Nat} (h1 : 1 ≤ i) (h : (ndW K a fl i).2 = 0) : fl = 0 ∧ (ndW K a fl i).1 = a + 1 := by
  unfold ndW at h ⊢
  by_cases q : tI K a fl = i
  · rw [if_pos q]; exact ⟨(tI_k h1 q).1, rfl⟩
  · rw [if_neg q] at h; exact absurd h (flf_pos (by omega))
theorem ndW_le {i : Nat} : a ≤ (ndW K a fl i).1 := by
  unfold ndW
  split <;> simp only <;> omega
theorem ndN_f {lim : Nat} (h : fl ≠ 0) : ndN K a fl lim = (a, fl) := by
  unfold ndN
  rw [show tD K a fl = false from decide_eq_false (fun q => h q.1), if_neg (by decide)]
  unfold flf; rw [if_neg h]
theorem ndN_le {lim : Nat} : a ≤ (ndN K a fl lim).1 := by
  unfold ndN
  repeat' split
  all_goals simp only <;> omega
theorem l_expert (hf : 1101 ≤ fu) (hK : okK K) (hw : CB w K) (gw : gC w = 8) (hd : d = p + 43 ∨ d = p + 58) (hn : p + 223 < n) (hI : DI K w p d n S v a 0 j) (hk : kK K a ≠ 0) (hR : DR d n j a S v) : ∃ S' v' a' fl', f_X2_readExpert fu S (p + 6) d = some S' ∧ (bd (f_X13_readExpert fu (mw v a 0)) fun v6 => f_X13_takeSign fu v6 (nI 59)) = some (mw v' a' fl') ∧ DI K w p d n S' v' a' fl' j ∧ GF0 p d S S' ∧ GM v v' ∧ (fl' = 0 → a < a' ∧ DR d n j a' S' v') := by
  obtain ⟨G, N, q, nn, cd, ty, c, i1, i2, hG, hB, hCG, hCN, hCH, hMG, hMB, hNR, hNT, hc, hL1, hL2, hj⟩ := hR
  obtain ⟨ok, s1, ⟨c6, r6⟩, _, cd1, cd8, hv, h9, _, _⟩ := id hI
  have h40 := NR_40 hNR
  have gc8 : ∀ a fl, gC (tw w a fl) = 8 := fun _ _ => gw
  have s8 := hG.1
  have t5 := hG.2.1
  have e4 := hG.2.2.1
  have S6 : ∀ y : GV, st S (p + 1) y (p + 6) = S (p + 6) := fun y => st_ne _ _ (by omega)
  have Sd : ∀ y : GV, st S (p + 1) y d = S d := fun y => st_ne _ _ (by omega)
  have c72 : (72 : Int32).toNatClampNeg = 72 := by decide
  have hdp : d ≠ p + 1 := by omega
  have hs1 : ∀ i, i < ns G → gL (S d) 0 i = lN (N.1 i) ∧ N.1 i < 1099511627776 := fun i hi => ⟨hCN.1 i hi, h40.1 i hi⟩
  have g10 := hCG.2.2.1
  have m72 := hMG.2.2.1
  by_cases c8 : ne G = 4
  · have ok5 := okP_flf (x := 5) hK ok (by omega)
    have fp := flf_pos (K := K) (a := a) (fl := 0) (x := 5) (by omega)
    have f5 : ¬ nI (flf K a 0 5) = nI 0 := by have := ok5.2; rw [nI_eq (by omega) (by omega)]; exact fp
    have nn1 := x2_newName (fu := fu) (p := p) (d := d) (S := st S (p + 1) (tw w a (flf K a 0 5))) (N := N) hf hK hw gw ok5 hG (st_same _ _ _) (by rw [S6]; exact r6) (by rw [Sd]; exact hCG.1) (by rw [Sd]; exact hCG.2.1) (by rw [Sd]; exact hCG.2.2.1) (by rw [Sd]; exact hCN) h40
    rw [nw_f fp, st_st] at nn1
    have nW := x8_needW (fu := fu) (i := 11) hK hw ok5 (by omega) (by omega)
    rw [ndW_f (by omega) fp] at nW
    obtain ⟨y, sps⟩ := j_spotsF (fu := fu) (p := p) (d := d) (v := v) (lim := 4) (S := st S (p + 1) (tw w a (flf K a 0 5))) hf hK hw gw hv h9 hG hNT hNR (by omega) (by omega) hdp ok5 fp (st_same _ _ _) (by rw [S6]; exact r6) (by rw [Sd]; exact hCG.1) (by rw [Sd]; exact hs1)
    rw [st_st] at sps
    have nd := x8_need1 (fu := fu) (c := 59) hK hw ok5 (by omega)
    have mt := m_takeSign (fu := fu) (c := 59) hK hv ok5 (by omega)
    rw [ndS_f fp] at nd mt
    simp only at nn1 nW nd mt
    rw [c8] at g10 m72
    refine ⟨st S (p + 1) (tw w a (flf K a 0 5)), v, a, flf K a 0 5, ?_, ?_, DI_t hd hn hI ok5 (GM_refl v), fun b h1 _ _ => st_ne _ _ h1, GM_refl v, fun z => absurd z fp⟩
    · have n88 : nI 4 ≤ nI 4 := by decide
      simp only [f_X2_readExpert, f_X2_readExpert_0, f_X2_readExpert_17, f_X8_stepOrFail, f_X8_stepOrFail_0, ↓lm_1, ↓lm_2, ↓lm_3, ↓lm_4, ↓lm_5, ↓lm_6, ↓lm_7, ↓lm_8, ↓lm_9, ↓lm_10, ↓lm_11, li_0, li_1, li_2, li_3, li_4, li_5, li_6, li_7, li_8, li_9, li_10, li_11, li_12, li_13, li_14, li_15, li_16, li_17, li_18, li_19, li_20, li_21, li_22, li_23, li_24, li_25, li_26, li_27, li_28, li_29, li_30, li_31, li_32, li_33, li_34, li_35, li_36, li_37, li_38, li_39, li_40, li_41, li_42, li_43, li_44, li_45, li_46, li_47, li_48, li_49, li_50, li_51, li_52, li_53, li_54, li_55, li_56, li_57, li_58, li_59, li_60, li_61, li_62, li_63, li_64, li_65, li_66, li_96, li_97, li_99, li_100, li_122, li_125, li_126, li_140, li_255, li_256, li_999, li_1000, li_1001, li_1002, li_1100, li_1386, li_1452, li_1518, li_9999, li_1000000, r6, bd_s, s1, gc8, decide_true, ck_t, g10, n88, ↓reduceIte, x8_fail hK hw ok, nm_eq, nn1, bd2_s, S6, st_same, nW, sps, nd, st_st, tw_g7, f5]
    · simp only [f_X13_readExpert, f_X13_readExpert_0, ↓lm_1, ↓lm_2, ↓lm_3, ↓lm_4, ↓lm_5, ↓lm_6, ↓lm_7, ↓lm_8, ↓lm_9, ↓lm_10, ↓lm_11, li_0, li_1, li_2, li_3, li_4, li_5, li_6, li_7, li_8, li_9, li_10, li_11, li_12, li_13, li_14, li_15, li_16, li_17, li_18, li_19, li_20, li_21, li_22, li_23, li_24, li_25, li_26, li_27, li_28, li_29, li_30, li_31, li_32, li_33, li_34, li_35, li_36, li_37, li_38, li_39, li_40, li_41, li_42, li_43, li_44, li_45, li_46, li_47, li_48, li_49, li_50, li_51, li_52, li_53, li_54, li_55, li_56, li_57, li_58, li_59, li_60, li_61, li_62, li_63, li_64, li_65, li_66, li_96, li_97, li_99, li_100, li_122, li_125, li_126, li_140, li_255, li_256, li_999, li_1000, li_1001, li_1002, li_1100, li_1386, li_1452, li_1518, li_9999, li_1000000, c72, mw_A, m72, nm_eq, ↓reduceIte, m_wrong hK hv ok, bd_s, mt]
  · have ok1 := okP_in hK ok hk
    have sp := x8_step1 (fu := fu) hK hw ok
    rw [stp_in rfl hk] at sp
    have nn1 := x2_newName (fu := fu) (p := p) (d := d) (S := st S (p + 1) (tw w (a + 1) 0)) (N := N) hf hK hw gw ok1 hG (st_same _ _ _) (by rw [S6]; exact r6) (by rw [Sd]; exact hCG.1) (by rw [Sd]; exact hCG.2.1) (by rw [Sd]; exact hCG.2.2.1) (by rw [Sd]; exact hCN) h40
    rw [st_st] at nn1
    have rn1 := m_readName (fu := fu) hf hK hv h9 ok hk hG hNT hNR (nI 40)
    have okn := okP_nw hK ok1 (tld G N (kV K (a + 1)))
    have nw0 := nw_0 (K := K) (a := a + 1) (fl := 0) (t := tld G N (kV K (a + 1)))
    have nwl := nw_le (K := K) (a := a + 1) (fl := 0) (t := tld G N (kV K (a + 1)))
    generalize nw K (a + 1) 0 (tld G N (kV K (a + 1))) = R at *
    obtain ⟨a1, fl1⟩ := R
    simp only at nn1 rn1 okn nw0 nwl
    have n88 : ¬ nI 4 ≤ nI (ne G) := nI_ge (by omega) (by omega)
    have n8e : ¬ nI (ne G) = nI 4 := by rw [nI_eq (by omega) (by omega)]; exact c8
    have gm1 : GM v (if fl1 = 0 then addn v nn (kV K (a + 1)) (nI 40) else v) := by
      split
      · exact GM_addn
      · exact GM_refl v
    have a10 : gA (if fl1 = 0 then addn v nn (kV K (a + 1)) (nI 40) else v) 10 = gA v 10 := by
      split <;> rfl
    have okE : ∀ s, s < 256 → okG (gpE G s) := fun s hs => ⟨s8, t5, by show ne G + 1 ≤ 4; omega, hG.2.2.2.1, fun e he => by
      have he : e < ne G + 1 := he
      show upN (se G) (ne G) s e < 256
      by_cases q : e = ne G
      · rw [q, upN_s]; exact hs
      · rw [upN_n q]; exact hG.2.2.2.2 e (by omega)⟩
    have ex : ∃ G' N' n' cd' ty', okG G' ∧ NT (if fl1 = 0 then addn v nn (kV K (a + 1)) (nI 40) else v) true n' cd' ty' ∧ NR G' N' n' cd' ty' ∧ ns G' = ns G ∧ N'.1 = N.1 := by
      by_cases z : fl1 = 0
      · obtain ⟨_, y2, y3, y4⟩ := nw0 z
        have wdc := ((hK.2.2 (a + 1) ok1.1).1.2.2.1 y2).1
        rw [if_pos z]
        have := hNR.1
        exact ⟨gpE G 1, _, _, _, _, okE 1 (by omega), NT_add hNT (by omega) wdc, NR_e hNR wdc y3, rfl, rfl⟩
      · rw [if_neg z]
        exact ⟨G, N, nn, cd, ty, hG, hNT, hNR, rfl, rfl⟩
    generalize hv1 : (if fl1 = 0 then addn v nn (kV K (a + 1)) (nI 40) else v) = v1 at *
    have hvb := MB_GM hv gm1
    have h9b := WB_GM h9 gm1
    -- the word
    have nW := x8_needW (fu := fu) (i := 11) hK hw okn (by omega) (by omega)
    have tW := m_takeWord (fu := fu) (i := 10) hK hvb h9b okn (by omega)
    simp only [Nat.reduceAdd] at tW
    have okw := okP_ndW (i := 11) hK okn (by omega)
    have nW1 := ndW_1 (K := K) (a := a1) (fl := fl1) (i := 11) (by omega)
    have nWl := ndW_le (K := K) (a := a1) (fl := fl1) (i := 11)
    generalize ndW K a1 fl1 11 = R2 at *
    obtain ⟨a2, fl2⟩ := R2
    simp only at nW tW okw nW1 nWl
    -- the spots
    obtain ⟨G', N', n', cd', ty', x1, x2, x3, x4, x5⟩ := ex
    obtain ⟨a3, fl3, y, y', sp1, sp2, ok3, le3, sp3⟩ := j_spots (fu := fu) (p := p) (d := d) (v := v1) (lim := 4) (S := st S (p + 1) (tw w a2 fl2)) hf hK hw gw hvb h9b x1 x2 x3 (by omega) (by omega) hdp okw (st_same _ _ _) (by rw [S6]; exact r6) (by rw [Sd, x4]; exact hCG.1) (by rw [Sd, x4, x5]; exact hs1)
    rw [st_st] at sp1
    have nd := x8_need1 (fu := fu) (c := 59) hK hw ok3 (by omega)
    have gm2 : GM v (sA (sA v1 10 (96 + ne G) y') 10 72 (nI (ne G + 1))) := GM_trans gm1 (GM_trans (GM_10 (by omega)) (GM_10 (by omega)))
    have mt := m_takeSign (fu := fu) (v := sA (sA v1 10 (96 + ne G) y') 10 72 (nI (ne G + 1))) (c := 59) hK (MB_GM hv gm2) ok3 (by omega)
    have okF := okP_ndS hK ok3 59
    have nd0 := ndS_1 (K := K) (a := a3) (fl := fl3) (c := 59)
    have ndl := ndS_le (K := K) (a := a3) (fl := fl3) (c := 59)
    generalize ndS K a3 fl3 59 = Q at *
    obtain ⟨a4, fl4⟩ := Q
    simp only at nd mt okF nd0 ndl
    have md : (bd (f_X13_readExpert fu (mw v a 0)) fun v6 => f_X13_takeSign fu v6 (nI 59)) = some (mw (sA (sA v1 10 (96 + ne G) y') 10 72 (nI (ne G + 1))) a4 fl4) := by
      have o : gA (sA v1 10 (96 + ne G) y') 10 72 = nI (ne G) := by rw [gA_sA, if_neg (by omega), a10]; exact m72
      simp (disch := omega) only [f_X13_readExpert, f_X13_readExpert_0, ↓lm_1, ↓lm_2, ↓lm_3, ↓lm_4, ↓lm_5, ↓lm_6, ↓lm_7, ↓lm_8, ↓lm_9, ↓lm_10, ↓lm_11, li_0, li_1, li_2, li_3, li_4, li_5, li_6, li_7, li_8, li_9, li_10, li_11, li_12, li_13, li_14, li_15, li_16, li_17, li_18, li_19, li_20, li_21, li_22, li_23, li_24, li_25, li_26, li_27, li_28, li_29, li_30, li_31, li_32, li_33, li_34, li_35, li_36, li_37, li_38, li_39, li_40, li_41, li_42, li_43, li_44, li_45, li_46, li_47, li_48, li_49, li_50, li_51, li_52, li_53, li_54, li_55, li_56, li_57, li_58, li_59, li_60, li_61, li_62, li_63, li_64, li_65, li_66, li_96, li_97, li_99, li_100, li_122, li_125, li_126, li_140, li_255, li_256, li_999, li_1000, li_1001, li_1002, li_1100, li_1386, li_1452, li_1518, li_9999, li_1000000, c72, mw_A, m72, nm_eq, n8e, ↓reduceIte, rn1, bd_s, tW, sp2, bd2_s, nI_add, inb_n, ck_t, nI_clamp, mw_sA, o, mt]
    by_cases z : fl4 = 0
    · subst z
      obtain ⟨z1, z2, z3⟩ := nd0 rfl
      subst z1
      obtain ⟨z4, x, rfl, rfl, x256, x0⟩ := sp3 rfl
      subst z4
      obtain ⟨z5, z6⟩ := nW1 rfl
      subst z5
      obtain ⟨_, y2, y3, y4⟩ := nw0 rfl
      rw [if_pos rfl] at hv1
      have l3 := (hw (a + 1) ok1.1).2.2 (Or.inl y2)
      have wdc := ((hK.2.2 (a + 1) ok1.1).1.2.2.1 y2).1
      refine ⟨st (st S (p + 1) (tw w a4 0)) d (sI (sA (sL (S d) 2 (ne G) (lN (kV K (a + 1)))) 6 (ne G) (nI x)) 10 (nI (ne G + 1))), sA (sA v1 10 (96 + ne G) (nI x)) 10 72 (nI (ne G + 1)), a4, 0, ?_, md, ?_, fun b h1 h2 _ => by rw [st_ne _ _ h2, st_ne _ _ h1], gm2, fun _ => ⟨by omega, ?_⟩⟩
      · simp (disch := omega) only [f_X2_readExpert, f_X2_readExpert_0, f_X2_readExpert_17, f_X8_stepOrFail, f_X8_stepOrFail_0, f_X1_addExpert, f_X1_addExpert_0, ↓lm_1, ↓lm_2, ↓lm_3, ↓lm_4, ↓lm_5, ↓lm_6, ↓lm_7, ↓lm_8, ↓lm_9, ↓lm_10, ↓lm_11, li_0, li_1, li_2, li_3, li_4, li_5, li_6, li_7, li_8, li_9, li_10, li_11, li_12, li_13, li_14, li_15, li_16, li_17, li_18, li_19, li_20, li_21, li_22, li_23, li_24, li_25, li_26, li_27, li_28, li_29, li_30, li_31, li_32, li_33, li_34, li_35, li_36, li_37, li_38, li_39, li_40, li_41, li_42, li_43, li_44, li_45, li_46, li_47, li_48, li_49, li_50, li_51, li_52, li_53, li_54, li_55, li_56, li_57, li_58, li_59, li_60, li_61, li_62, li_63, li_64, li_65, li_66, li_96, li_97, li_99, li_100, li_122, li_125, li_126, li_140, li_255, li_256, li_999, li_1000, li_1001, li_1002, li_1100, li_1386, li_1452, li_1518, li_9999, li_1000000, r6, bd_s, s1, gc8, decide_true, ck_t, g10, n88, n10, ↓reduceIte, sp, nm_eq, nn1, bd2_s, S6, st_same, nW, sp1, nd, st_st, tw_g7, Sd, l3, inb_n, nI_clamp, gI_sL, gI_sA, nI_add]
      · refine DI_of hd hn hI okF ?_ (fun b h1 h2 _ => by rw [st_ne _ _ h2, st_ne _ _ h1]) ?_ ?_ gm2
        · rw [st_ne _ _ (by omega), st_same]
        · rw [st_same]; exact cd1
        · rw [st_ne _ _ (by omega), st_ne _ _ (by omega)]; exact cd8
      · have o : ∀ y, y ≠ 72 → y ≠ 96 + ne G → gA (sA (sA v1 10 (96 + ne G) (nI x)) 10 72 (nI (ne G + 1))) 10 y = gA v 10 y := fun y h1 h2 => by rw [gA_sA, if_neg h1, gA_sA, if_neg h2, a10]
        refine ⟨gpE G x, (N.1, N.2.1, upN N.2.2 (ne G) (kV K (a + 1))), q, nn + 1, upN cd nn (kV K (a + 1)), upN ty nn 40, c, i1, i2, okE x x256, hB, ?_, ?_, ?_, ?_, ?_, NR_e hNR wdc y3, ?_, ⟨?_, by omega⟩, ?_, ?_, hj⟩
        · rw [st_same]
          obtain ⟨b1, b2, _, b4, b5⟩ := hCG
          refine ⟨b1, b2, by rw [gI_sI, if_pos rfl]; rfl, b4, fun e he => ?_⟩
          have he : e < ne G + 1 := he
          show gA (sA (sL (S d) 2 (ne G) (lN (kV K (a + 1)))) 6 (ne G) (nI x)) 6 e = nI (upN (se G) (ne G) x e)
          rw [gA_sA]
          by_cases q : e = ne G
          · rw [if_pos q, q, upN_s]
          · rw [if_neg q, upN_n q]; exact b5 e (by omega)
        · rw [st_same]
          obtain ⟨b1, b2, b3⟩ := hCN
          refine ⟨b1, b2, fun i hi => ?_⟩
          have hi : i < ne G + 1 := hi
          show gL (sL (S d) 2 (ne G) (lN (kV K (a + 1)))) 2 i = lN (upN N.2.2 (ne G) (kV K (a + 1)) i)
          rw [gL_sL]
          by_cases e : i = ne G
          · rw [if_pos e, e, upN_s]
          · rw [if_neg e, upN_n e]; exact b3 i (by omega)
        · rw [st_ne _ _ (by omega), st_ne _ _ (by omega)]; exact hCH
        · obtain ⟨b1, b2, b3, b4, b5⟩ := hMG
          refine ⟨by rw [o _ (by omega) (by omega)]; exact b1, by rw [o _ (by omega) (by omega)]; exact b2, by rw [gA_sA, if_pos rfl]; rfl, fun t ht => ?_, fun e he => ?_⟩
          · have ht : t < nt G := ht
            rw [o _ (by omega) (by omega), o _ (by omega) (by omega), o _ (by omega) (by omega)]; exact b4 t ht
          · have he : e < ne G + 1 := he
            show _ = nI (upN (se G) (ne G) x e)
            by_cases q : e = ne G
            · rw [q, upN_s, gA_sA, if_neg (by omega), gA_sA, if_pos rfl]
            · rw [upN_n q, o _ (by omega) (by omega)]; exact b5 e (by omega)
        · obtain ⟨b1, b2, b3⟩ := hMB
          refine ⟨by rw [o _ (by omega) (by omega)]; exact b1, fun r hr => ?_, fun t ht => by rw [o _ (by omega) (by omega)]; exact b3 t ht⟩
          rw [o _ (by omega) (by omega), o _ (by omega) (by omega), o _ (by omega) (by omega), o _ (by omega) (by omega)]; exact b2 r hr
        · rw [← hv1]
          have := hNR.1
          exact NT_GM10 (NT_GM10 (NT_add hNT (by omega) wdc))
        · rw [← hv1]; exact hc.1
        · rw [st_same, o 74 (by omega) (by omega)]
          refine DL_keep hL1 (fun b b1 _ => by rw [st_ne _ _ (by omega), st_ne _ _ (by omega)]) (fun x _ => ?_) (Nat.le_refl _) (Nat.le_refl _)
          rw [← hv1]; exact ⟨rfl, rfl⟩
        · rw [st_same, o 75 (by omega) (by omega)]
          refine DL_keep hL2 (fun b b1 _ => by rw [st_ne _ _ (by omega), st_ne _ _ (by omega)]) (fun x _ => ?_) (Nat.le_refl _) (Nat.le_refl _)
          rw [← hv1]; exact ⟨rfl, rfl⟩
    · have fz : ¬ nI fl4 = nI 0 := by have := okF.2; rw [nI_eq (by omega) (by omega)]; exact z
      refine ⟨st S (p + 1) (tw w a4 fl4), sA (sA v1 10 (96 + ne G) y') 10 72 (nI (ne G + 1)), a4, fl4, ?_, md, DI_t hd hn hI okF gm2, fun b h1 _ _ => st_ne _ _ h1, gm2, fun q => absurd q z⟩
      simp (disch := omega) only [f_X2_readExpert, f_X2_readExpert_0, f_X2_readExpert_17, f_X8_stepOrFail, f_X8_stepOrFail_0, ↓lm_1, ↓lm_2, ↓lm_3, ↓lm_4, ↓lm_5, ↓lm_6, ↓lm_7, ↓lm_8, ↓lm_9, ↓lm_10, ↓lm_11, li_0, li_1, li_2, li_3, li_4, li_5, li_6, li_7, li_8, li_9, li_10, li_11, li_12, li_13, li_14, li_15, li_16, li_17, li_18, li_19, li_20, li_21, li_22, li_23, li_24, li_25, li_26, li_27, li_28, li_29, li_30, li_31, li_32, li_33, li_34, li_35, li_36, li_37, li_38, li_39, li_40, li_41, li_42, li_43, li_44, li_45, li_46, li_47, li_48, li_49, li_50, li_51, li_52, li_53, li_54, li_55, li_56, li_57, li_58, li_59, li_60, li_61, li_62, li_63, li_64, li_65, li_66, li_96, li_97, li_99, li_100, li_122, li_125, li_126, li_140, li_255, li_256, li_999, li_1000, li_1001, li_1002, li_1100, li_1386, li_1452, li_1518, li_9999, li_1000000, r6, bd_s, s1, gc8, decide_true, ck_t, g10, n88, n10, ↓reduceIte, sp, nm_eq, nn1, bd2_s, S6, st_same, nW, sp1, nd, st_st, tw_g7, fz]
end T
