/-! ===== gallery: a whole line of a thief ===== -/
section T
variable {fu p d n a fl j : Nat} {K : KT} {w v : GV} {S : ST} {G : GP} {N : NM}
theorem l_thief (hf : 1101 ≤ fu) (hK : okK K) (hw : CB w K) (gw : gC w = 8) (hd : d = p + 43 ∨ d = p + 58) (hn : p + 223 < n) (hI : DI K w p d n S v a 0 j) (hk : kK K a ≠ 0) (hR : DR d n j a S v) : ∃ S' v' a' fl', f_X2_readThief fu S (p + 6) d = some S' ∧ (bd (f_X13_readThief fu (mw v a 0)) fun v6 => f_X13_takeSign fu v6 (nI 59)) = some (mw v' a' fl') ∧ DI K w p d n S' v' a' fl' j ∧ GF0 p d S S' ∧ GM v v' ∧ (fl' = 0 → a < a' ∧ DR d n j a' S' v') := by
  obtain ⟨G, N, q, nn, cd, ty, c, i1, i2, hG, hB, hCG, hCN, hCH, hMG, hMB, hNR, hNT, hc, hL1, hL2, hj⟩ := hR
  obtain ⟨ok, s1, ⟨c6, r6⟩, _, cd1, cd8, hv, h9, _, _⟩ := id hI
  have h40 := NR_40 hNR
  have gc8 : ∀ a fl, gC (tw w a fl) = 8 := fun _ _ => gw
  have s8 := hG.1
  have t5 := hG.2.1
  have e4 := hG.2.2.1
  have S6 : ∀ y : GV, st S (p + 1) y (p + 6) = S (p + 6) := fun y => st_ne _ _ (by omega)
  have Sd : ∀ y : GV, st S (p + 1) y d = S d := fun y => st_ne _ _ (by omega)
  have Sd8 : ∀ y : GV, st S (p + 1) y (d + 8) = S (d + 8) := fun y => st_ne _ _ (by omega)
  have c71 : (71 : Int32).toNatClampNeg = 71 := by decide
  have l76 : (76 : Int32) = nI 76 := by decide
  have g9 := hCG.2.1
  have m71 := hMG.2.1
  by_cases c8 : nt G = 5
  · have ok5 := okP_flf (x := 5) hK ok (by omega)
    have fp := flf_pos (K := K) (a := a) (fl := 0) (x := 5) (by omega)
    have f5 : ¬ nI (flf K a 0 5) = nI 0 := by have := ok5.2; rw [nI_eq (by omega) (by omega)]; exact fp
    have r6' : gR (st S (p + 1) (tw w a (flf K a 0 5)) (p + 6)) 0 = some (p + 1) := by rw [S6]; exact r6
    have nn1 := x2_newName (fu := fu) (p := p) (d := d) (S := st S (p + 1) (tw w a (flf K a 0 5))) (N := N) hf hK hw gw ok5 hG (st_same _ _ _) r6' (by rw [Sd]; exact hCG.1) (by rw [Sd]; exact hCG.2.1) (by rw [Sd]; exact hCG.2.2.1) (by rw [Sd]; exact hCN) h40
    rw [nw_f fp, st_st] at nn1
    obtain ⟨zk, tk, _⟩ := x2_takeKind (fu := fu) (p := p) (S := st S (p + 1) (tw w a (flf K a 0 5))) hf hK hw gw ok5 (st_same _ _ _) r6'
    rw [ndK_f fp, st_st] at tk
    have nW3 := x8_needW (fu := fu) (i := 3) hK hw ok5 (by omega) (by omega)
    have nW4 := x8_needW (fu := fu) (i := 4) hK hw ok5 (by omega) (by omega)
    have nW5 := x8_needW (fu := fu) (i := 5) hK hw ok5 (by omega) (by omega)
    rw [ndW_f (by omega) fp] at nW3 nW4 nW5
    obtain ⟨zn, tn1, _⟩ := x8_takeNum (fu := fu) (lim := 100) hK hw ok5 (by omega)
    obtain ⟨zm, tn2, _⟩ := x8_takeNum (fu := fu) (lim := 1000) hK hw ok5 (by omega)
    rw [ndN_f fp] at tn1 tn2
    obtain ⟨y, hrs⟩ := j_hoursF (fu := fu) (p := p) (v := v) (S := st S (p + 1) (tw w a (flf K a 0 5))) hf hK hw gw hv ok5 fp (st_same _ _ _) r6'
    rw [st_st] at hrs
    have nd := x8_need1 (fu := fu) (c := 59) hK hw ok5 (by omega)
    have mt := m_takeSign (fu := fu) (c := 59) hK hv ok5 (by omega)
    rw [ndS_f fp] at nd mt
    simp only at nn1 tk nW3 nW4 nW5 tn1 tn2 nd mt
    rw [c8] at g9 m71
    refine ⟨st S (p + 1) (tw w a (flf K a 0 5)), v, a, flf K a 0 5, ?_, ?_, DI_t hd hn hI ok5 (GM_refl v), fun b h1 _ _ => st_ne _ _ h1, GM_refl v, fun z => absurd z fp⟩
    · have n88 : nI 5 ≤ nI 5 := by decide
      simp only [f_X2_readThief, f_X2_readThief_0, f_X2_readThief_17, f_X8_stepOrFail, f_X8_stepOrFail_0, ↓lm_1, ↓lm_2, ↓lm_3, ↓lm_4, ↓lm_5, ↓lm_6, ↓lm_7, ↓lm_8, ↓lm_9, ↓lm_10, ↓lm_11, li_0, li_1, li_2, li_3, li_4, li_5, li_6, li_7, li_8, li_9, li_10, li_11, li_12, li_13, li_14, li_15, li_16, li_17, li_18, li_19, li_20, li_21, li_22, li_23, li_24, li_25, li_26, li_27, li_28, li_29, li_30, li_31, li_32, li_33, li_34, li_35, li_36, li_37, li_38, li_39, li_40, li_41, li_42, li_43, li_44, li_45, li_46, li_47, li_48, li_49, li_50, li_51, li_52, li_53, li_54, li_55, li_56, li_57, li_58, li_59, li_60, li_61, li_62, li_63, li_64, li_65, li_66, li_96, li_97, li_99, li_100, li_122, li_125, li_126, li_140, li_255, li_256, li_999, li_1000, li_1001, li_1002, li_1100, li_1386, li_1452, li_1518, li_9999, li_1000000, r6, bd_s, s1, gc8, decide_true, ck_t, g9, n88, ↓reduceIte, x8_fail hK hw ok, nm_eq, nn1, bd2_s, S6, st_same, tk, nW3, nW4, nW5, tn1, tn2, hrs, nd, st_st, tw_g7, f5]
    · simp only [f_X13_readThief, f_X13_readThief_0, ↓lm_1, ↓lm_2, ↓lm_3, ↓lm_4, ↓lm_5, ↓lm_6, ↓lm_7, ↓lm_8, ↓lm_9, ↓lm_10, ↓lm_11, li_0, li_1, li_2, li_3, li_4, li_5, li_6, li_7, li_8, li_9, li_10, li_11, li_12, li_13, li_14, li_15, li_16, li_17, li_18, li_19, li_20, li_21, li_22, li_23, li_24, li_25, li_26, li_27, li_28, li_29, li_30, li_31, li_32, li_33, li_34, li_35, li_36, li_37, li_38, li_39, li_40, li_41, li_42, li_43, li_44, li_45, li_46, li_47, li_48, li_49, li_50, li_51, li_52, li_53, li_54, li_55, li_56, li_57, li_58, li_59, li_60, li_61, li_62, li_63, li_64, li_65, li_66, li_96, li_97, li_99, li_100, li_122, li_125, li_126, li_140, li_255, li_256, li_999, li_1000, li_1001, li_1002, li_1100, li_1386, li_1452, li_1518, li_9999, li_1000000, c71, mw_A, m71, nm_eq, ↓reduceIte, m_wrong hK hv ok, bd_s, mt]
  · have ok1 := okP_in hK ok hk
    have sp := x8_step1 (fu := fu) hK hw ok
    rw [stp_in rfl hk] at sp
    have nn1 := x2_newName (fu := fu) (p := p) (d := d) (S := st S (p + 1) (tw w (a + 1) 0)) (N := N) hf hK hw gw ok1 hG (st_same _ _ _) (by rw [S6]; exact r6) (by rw [Sd]; exact hCG.1) (by rw [Sd]; exact hCG.2.1) (by rw [Sd]; exact hCG.2.2.1) (by rw [Sd]; exact hCN) h40
    rw [st_st] at nn1
    have rn1 := m_readName (fu := fu) hf hK hv h9 ok hk hG hNT hNR (nI (20 + nt G))
    have okn := okP_nw hK ok1 (tld G N (kV K (a + 1)))
    have nw0 := nw_0 (K := K) (a := a + 1) (fl := 0) (t := tld G N (kV K (a + 1)))
    have nwl := nw_le (K := K) (a := a + 1) (fl := 0) (t := tld G N (kV K (a + 1)))
    generalize nw K (a + 1) 0 (tld G N (kV K (a + 1))) = R at *
    obtain ⟨a1, fl1⟩ := R
    simp only at nn1 rn1 okn nw0 nwl
    have n88 : ¬ nI 5 ≤ nI (nt G) := nI_ge (by omega) (by omega)
    have n8e : ¬ nI (nt G) = nI 5 := by rw [nI_eq (by omega) (by omega)]; exact c8
    have gm1 : GM v (if fl1 = 0 then addn v nn (kV K (a + 1)) (nI (20 + nt G)) else v) := by
      split
      · exact GM_addn
      · exact GM_refl v
    have a10 : gA (if fl1 = 0 then addn v nn (kV K (a + 1)) (nI (20 + nt G)) else v) 10 = gA v 10 := by
      split <;> rfl
    generalize hv1 : (if fl1 = 0 then addn v nn (kV K (a + 1)) (nI (20 + nt G)) else v) = v1 at *
    -- the kind
    obtain ⟨zk, tk, tk2⟩ := x2_takeKind (fu := fu) (p := p) (S := st S (p + 1) (tw w a1 fl1)) hf hK hw gw okn (st_same _ _ _) (by rw [S6]; exact r6)
    rw [st_st] at tk
    obtain ⟨yk, mk1, mk2⟩ := m_takeOne (fu := fu) (v := v1) hf hK (MB_GM hv gm1) (WB_GM h9 gm1) okn
    have okk := okP_ndK hK okn
    have nk1 := ndK_1 (K := K) (a := a1) (fl := fl1)
    have nkl := ndK_le (K := K) (a := a1) (fl := fl1)
    generalize ndK K a1 fl1 = R2 at *
    obtain ⟨a2, fl2⟩ := R2
    simp only at tk tk2 mk1 mk2 okk nk1 nkl
    have gm2 : GM v (sA v1 10 (76 + 4 * nt G) yk) := GM_trans gm1 (GM_10 (by omega))
    -- the skill
    have nW3 := x8_needW (fu := fu) (i := 3) hK hw okk (by omega) (by omega)
    have ta1 := m_takeAfter (fu := fu) (v := sA v1 10 (76 + 4 * nt G) yk) (i := 2) (hi := 99) hK (MB_GM hv gm2) (WB_GM h9 gm2) okk (by omega) (by omega)
    simp only [Nat.reduceAdd] at ta1
    have ok3 := okP_ndW (i := 3) hK okk (by omega)
    have w31 := ndW_1 (K := K) (a := a2) (fl := fl2) (i := 3) (by omega)
    have w3l := ndW_le (K := K) (a := a2) (fl := fl2) (i := 3)
    generalize ndW K a2 fl2 3 = R3 at *
    obtain ⟨a3, fl3⟩ := R3
    simp only at nW3 ta1 ok3 w31 w3l
    obtain ⟨zn, tn1, tn12⟩ := x8_takeNum (fu := fu) (lim := 100) hK hw ok3 (by omega)
    have ok4 := okP_ndN hK ok3 100
    have n40 := ndN_0 (K := K) (a := a3) (fl := fl3) (lim := 100)
    have n4l := ndN_le (K := K) (a := a3) (fl := fl3) (lim := 100)
    generalize hyn : (if (ndN K a3 fl3 100).2 = 0 then nI (kV K a3) else nI 0) = yn at *
    generalize ndN K a3 fl3 100 = R4 at *
    obtain ⟨a4, fl4⟩ := R4
    simp only at ta1 tn1 tn12 ok4 n40 n4l hyn
    have gm3 : GM v (sA (sA v1 10 (76 + 4 * nt G) yk) 10 (76 + 4 * nt G + 1) yn) := GM_trans gm2 (GM_10 (by omega))
    -- the coins
    have nW4 := x8_needW (fu := fu) (i := 4) hK hw ok4 (by omega) (by omega)
    have ta2 := m_takeAfter (fu := fu) (v := sA (sA v1 10 (76 + 4 * nt G) yk) 10 (76 + 4 * nt G + 1) yn) (i := 3) (hi := 999) hK (MB_GM hv gm3) (WB_GM h9 gm3) ok4 (by omega) (by omega)
    simp only [Nat.reduceAdd] at ta2
    have ok5 := okP_ndW (i := 4) hK ok4 (by omega)
    have w51 := ndW_1 (K := K) (a := a4) (fl := fl4) (i := 4) (by omega)
    have w5l := ndW_le (K := K) (a := a4) (fl := fl4) (i := 4)
    generalize ndW K a4 fl4 4 = R5 at *
    obtain ⟨a5, fl5⟩ := R5
    simp only at nW4 ta2 ok5 w51 w5l
    obtain ⟨zm, tn2, tn22⟩ := x8_takeNum (fu := fu) (lim := 1000) hK hw ok5 (by omega)
    have ok6 := okP_ndN hK ok5 1000
    have n60 := ndN_0 (K := K) (a := a5) (fl := fl5) (lim := 1000)
    have n6l := ndN_le (K := K) (a := a5) (fl := fl5) (lim := 1000)
    generalize hym : (if (ndN K a5 fl5 1000).2 = 0 then nI (kV K a5) else nI 0) = ym at *
    generalize ndN K a5 fl5 1000 = R6 at *
    obtain ⟨a6, fl6⟩ := R6
    simp only at ta2 tn2 tn22 ok6 n60 n6l hym
    generalize hv4 : sA (sA (sA v1 10 (76 + 4 * nt G) yk) 10 (76 + 4 * nt G + 1) yn) 10 (76 + 4 * nt G + 2) ym = v4 at *
    have gm4 : GM v v4 := by rw [← hv4]; exact GM_trans gm3 (GM_10 (by omega))
    -- the hours
    have nW5 := x8_needW (fu := fu) (i := 5) hK hw ok6 (by omega) (by omega)
    have tW := m_takeWord (fu := fu) (v := v4) (i := 4) hK (MB_GM hv gm4) (WB_GM h9 gm4) ok6 (by omega)
    simp only [Nat.reduceAdd] at tW
    have ok7 := okP_ndW (i := 5) hK ok6 (by omega)
    have w71 := ndW_1 (K := K) (a := a6) (fl := fl6) (i := 5) (by omega)
    have w7l := ndW_le (K := K) (a := a6) (fl := fl6) (i := 5)
    generalize ndW K a6 fl6 5 = R7 at *
    obtain ⟨a7, fl7⟩ := R7
    simp only at nW5 tW ok7 w71 w7l
    obtain ⟨a8, fl8, zh, yh, hr1, hr2, ok8, le8, hr3⟩ := j_hours (fu := fu) (p := p) (v := v4) (S := st S (p + 1) (tw w a7 fl7)) hf hK hw gw (MB_GM hv gm4) ok7 (st_same _ _ _) (by rw [S6]; exact r6)
    rw [st_st] at hr1
    have nd := x8_need1 (fu := fu) (c := 59) hK hw ok8 (by omega)
    have gm5 : GM v (sA (sA v4 10 (76 + 4 * nt G + 3) yh) 10 71 (nI (nt G + 1))) := GM_trans gm4 (GM_trans (GM_10 (by omega)) (GM_10 (by omega)))
    have mt := m_takeSign (fu := fu) (v := sA (sA v4 10 (76 + 4 * nt G + 3) yh) 10 71 (nI (nt G + 1))) (c := 59) hK (MB_GM hv gm5) ok8 (by omega)
    have okF := okP_ndS hK ok8 59
    have nd0 := ndS_1 (K := K) (a := a8) (fl := fl8) (c := 59)
    have ndl := ndS_le (K := K) (a := a8) (fl := fl8) (c := 59)
    generalize ndS K a8 fl8 59 = Q at *
    obtain ⟨a9, fl9⟩ := Q
    simp only at nd mt okF nd0 ndl
    have v4o : ∀ x, x ≠ 76 + 4 * nt G → x ≠ 76 + 4 * nt G + 1 → x ≠ 76 + 4 * nt G + 2 → gA v4 10 x = gA v 10 x := fun x h1 h2 h3 => by
      rw [← hv4, gA_sA, if_neg h3, gA_sA, if_neg h2, gA_sA, if_neg h1, a10]
    have md : (bd (f_X13_readThief fu (mw v a 0)) fun v6 => f_X13_takeSign fu v6 (nI 59)) = some (mw (sA (sA v4 10 (76 + 4 * nt G + 3) yh) 10 71 (nI (nt G + 1))) a9 fl9) := by
      have o : gA (sA v4 10 (76 + 4 * nt G + 3) yh) 10 71 = nI (nt G) := by rw [gA_sA, if_neg (by omega), v4o _ (by omega) (by omega) (by omega)]; exact m71
      simp (disch := omega) only [f_X13_readThief, f_X13_readThief_0, l76, ↓lm_1, ↓lm_2, ↓lm_3, ↓lm_4, ↓lm_5, ↓lm_6, ↓lm_7, ↓lm_8, ↓lm_9, ↓lm_10, ↓lm_11, li_0, li_1, li_2, li_3, li_4, li_5, li_6, li_7, li_8, li_9, li_10, li_11, li_12, li_13, li_14, li_15, li_16, li_17, li_18, li_19, li_20, li_21, li_22, li_23, li_24, li_25, li_26, li_27, li_28, li_29, li_30, li_31, li_32, li_33, li_34, li_35, li_36, li_37, li_38, li_39, li_40, li_41, li_42, li_43, li_44, li_45, li_46, li_47, li_48, li_49, li_50, li_51, li_52, li_53, li_54, li_55, li_56, li_57, li_58, li_59, li_60, li_61, li_62, li_63, li_64, li_65, li_66, li_96, li_97, li_99, li_100, li_122, li_125, li_126, li_140, li_255, li_256, li_999, li_1000, li_1001, li_1002, li_1100, li_1386, li_1452, li_1518, li_9999, li_1000000, c71, mw_A, m71, nm_eq, n8e, ↓reduceIte, nI_add, nI_mulN, rn1, bd_s, mk1, bd2_s, inb_n, ck_t, nI_clamp, mw_sA, ta1, ta2, hv4, tW, hr2, o, mt]
    by_cases z : fl9 = 0
    · subst z
      obtain ⟨z1, z2, z3⟩ := nd0 rfl
      subst z1
      obtain ⟨z4, x, rfl, rfl, x24, x0⟩ := hr3 rfl
      subst z4
      obtain ⟨z5, z6⟩ := w71 rfl
      subst z5
      obtain ⟨z7, z8, z9⟩ := n60 rfl
      subst z7
      obtain ⟨z10, z11⟩ := w51 rfl
      subst z10
      obtain ⟨z12, z13, z14⟩ := n40 rfl
      subst z12
      obtain ⟨z15, z16⟩ := w31 rfl
      subst z15
      obtain ⟨z17, z18, z19, z20⟩ := nk1 rfl
      subst z17
      obtain ⟨_, y2, y3, y4⟩ := nw0 rfl
      have zk' := tk2 rfl
      have yk' := mk2 rfl
      have zn' := tn12 rfl
      have zm' := tn22 rfl
      rw [if_pos rfl] at hv1 hyn hym
      subst zk' yk' zn' zm' hyn hym
      have l3 := (hw (a + 1) ok1.1).2.2 (Or.inl y2)
      have wdc := ((hK.2.2 (a + 1) ok1.1).1.2.2.1 y2).1
      have at' := x1_addThief (fu := fu) (S := st S (p + 1) (tw w a9 0)) (d := d) (t := nt G) (x1 := lN (kV K (a + 1))) (x3 := nI (tI K a1 0 - 19)) (x4 := nI (kV K a3)) (x5 := nI (kV K a5)) (x6 := nI x) (by rw [Sd]; exact g9) (by omega) (by rw [Sd8]; exact cd8)
      rw [Sd, Sd8] at at'
      generalize hk' : tI K a1 0 - 19 = kn at *
      generalize hs' : kV K a3 = sn at *
      generalize hc' : kV K a5 = cn at *
      generalize hwd : sI (sA (sA (sA (sL (S d) 1 (nt G) (lN (kV K (a + 1)))) 3 (nt G) (nI kn)) 4 (nt G) (nI sn)) 5 (nt G) (nI x)) 9 (nI (nt G + 1)) = wd at *
      have kn4 : kn < 4 := by omega
      refine ⟨st (st (st S (p + 1) (tw w a9 0)) d wd) (d + 8) (sA (S (d + 8)) 5 (nt G) (nI cn)), sA (sA v4 10 (76 + 4 * nt G + 3) (nI x)) 10 71 (nI (nt G + 1)), a9, 0, ?_, md, ?_, fun b h1 h2 h3 => by rw [st_ne _ _ h3, st_ne _ _ h2, st_ne _ _ h1], gm5, fun _ => ⟨by omega, ?_⟩⟩
      · simp (disch := omega) only [f_X2_readThief, f_X2_readThief_0, f_X2_readThief_17, f_X8_stepOrFail, f_X8_stepOrFail_0, ↓lm_1, ↓lm_2, ↓lm_3, ↓lm_4, ↓lm_5, ↓lm_6, ↓lm_7, ↓lm_8, ↓lm_9, ↓lm_10, ↓lm_11, li_0, li_1, li_2, li_3, li_4, li_5, li_6, li_7, li_8, li_9, li_10, li_11, li_12, li_13, li_14, li_15, li_16, li_17, li_18, li_19, li_20, li_21, li_22, li_23, li_24, li_25, li_26, li_27, li_28, li_29, li_30, li_31, li_32, li_33, li_34, li_35, li_36, li_37, li_38, li_39, li_40, li_41, li_42, li_43, li_44, li_45, li_46, li_47, li_48, li_49, li_50, li_51, li_52, li_53, li_54, li_55, li_56, li_57, li_58, li_59, li_60, li_61, li_62, li_63, li_64, li_65, li_66, li_96, li_97, li_99, li_100, li_122, li_125, li_126, li_140, li_255, li_256, li_999, li_1000, li_1001, li_1002, li_1100, li_1386, li_1452, li_1518, li_9999, li_1000000, r6, bd_s, s1, gc8, decide_true, ck_t, g9, n88, n10, ↓reduceIte, sp, nm_eq, nn1, bd2_s, S6, st_same, tk, nW3, tn1, nW4, tn2, nW5, hr1, nd, st_st, tw_g7, Sd, l3, at']
      · refine DI_of hd hn hI okF ?_ (fun b h1 h2 h3 => by rw [st_ne _ _ h3, st_ne _ _ h2, st_ne _ _ h1]) ?_ ?_ gm5
        · rw [st_ne _ _ (by omega), st_ne _ _ (by omega), st_same]
        · rw [st_ne _ _ (by omega), st_same, ← hwd]; exact cd1
        · rw [st_same]; exact cd8
      · have o : ∀ y, y ≠ 71 → y ≠ 76 + 4 * nt G → y ≠ 76 + 4 * nt G + 1 → y ≠ 76 + 4 * nt G + 2 → y ≠ 76 + 4 * nt G + 3 → gA (sA (sA v4 10 (76 + 4 * nt G + 3) (nI x)) 10 71 (nI (nt G + 1))) 10 y = gA v 10 y := fun y h1 h2 h3 h4 h5 => by rw [gA_sA, if_neg h1, gA_sA, if_neg h5, v4o y h2 h3 h4]
        have Sdd : st (st (st S (p + 1) (tw w a9 0)) d wd) (d + 8) (sA (S (d + 8)) 5 (nt G) (nI cn)) d = wd := by rw [st_ne _ _ (by omega), st_same]
        refine ⟨gpT G kn sn x, (N.1, upN N.2.1 (nt G) (kV K (a + 1)), N.2.2), qCo q (nt G) (nI cn), nn + 1, upN cd nn (kV K (a + 1)), upN ty nn (20 + nt G), c, i1, i2, ⟨s8, by show nt G + 1 ≤ 5; omega, e4, fun t ht => ?_, hG.2.2.2.2⟩, ?_, ?_, ?_, ?_, ?_, ?_, NR_t hNR wdc y3, ?_, ⟨?_, by omega⟩, ?_, ?_, hj⟩
        · have ht : t < nt G + 1 := ht
          show upN (kd G) (nt G) kn t < 4 ∧ upN (sk G) (nt G) sn t < 100 ∧ 0 < upN (hr G) (nt G) x t ∧ upN (hr G) (nt G) x t < 16777216
          by_cases e : t = nt G
          · rw [e, upN_s, upN_s, upN_s]; exact ⟨kn4, z14, x0, x24⟩
          · rw [upN_n e, upN_n e, upN_n e]; exact hG.2.2.2.1 t (by omega)
        · obtain ⟨⟨b1, b2, b3, b4⟩, b5⟩ := hB
          refine ⟨⟨b1, fun r hr => ?_, b3, fun t ht => ?_⟩, b5⟩
          · obtain ⟨k1, k2, k3⟩ := b2 r hr
            refine ⟨k1, k2, ?_⟩
            rcases k3 with k3 | k3
            · exact Or.inl (Nat.lt_succ_of_lt k3)
            · exact Or.inr k3
          · have ht : nt G + 1 ≤ t := ht
            show upd (qc q) (nt G) (nI cn) t = nI 0
            rw [pk_un (by omega)]; exact b4 t (by omega)
        · rw [Sdd, ← hwd]
          obtain ⟨b1, b2, b3, b4, b5⟩ := hCG
          refine ⟨b1, by rw [gI_sI, if_pos rfl]; rfl, b3, fun t ht => ?_, b5⟩
          have ht : t < nt G + 1 := ht
          have e3' : ∀ z1 z2 z3 : Int32, gA (sI (sA (sA (sA (sL (S d) 1 (nt G) (lN (kV K (a + 1)))) 3 (nt G) z1) 4 (nt G) z2) 5 (nt G) z3) 9 (nI (nt G + 1))) 3 t = if t = nt G then z1 else gA (S d) 3 t := fun z1 z2 z3 => by
            rw [gA_sI, gA_sAn _ _ _ (by decide), gA_sAn _ _ _ (by decide), gA_sA]; rfl
          have e4' : ∀ z1 z2 z3 : Int32, gA (sI (sA (sA (sA (sL (S d) 1 (nt G) (lN (kV K (a + 1)))) 3 (nt G) z1) 4 (nt G) z2) 5 (nt G) z3) 9 (nI (nt G + 1))) 4 t = if t = nt G then z2 else gA (S d) 4 t := fun z1 z2 z3 => by
            rw [gA_sI, gA_sAn _ _ _ (by decide), gA_sA, gA_sAn _ _ _ (by decide)]; rfl
          have e5' : ∀ z1 z2 z3 : Int32, gA (sI (sA (sA (sA (sL (S d) 1 (nt G) (lN (kV K (a + 1)))) 3 (nt G) z1) 4 (nt G) z2) 5 (nt G) z3) 9 (nI (nt G + 1))) 5 t = if t = nt G then z3 else gA (S d) 5 t := fun z1 z2 z3 => by
            rw [gA_sI, gA_sA, gA_sAn _ _ _ (by decide), gA_sAn _ _ _ (by decide)]; rfl
          rw [e3', e4', e5']
          show _ = nI (upN (kd G) (nt G) kn t) ∧ _ = nI (upN (sk G) (nt G) sn t) ∧ _ = nI (upN (hr G) (nt G) x t)
          by_cases e : t = nt G
          · rw [if_pos e, if_pos e, if_pos e, e, upN_s, upN_s, upN_s]; exact ⟨rfl, rfl, rfl⟩
          · rw [if_neg e, if_neg e, if_neg e, upN_n e, upN_n e, upN_n e]; exact b4 t (by omega)
        · rw [Sdd, ← hwd]
          obtain ⟨b1, b2, b3⟩ := hCN
          refine ⟨b1, fun i hi => ?_, b3⟩
          have hi : i < nt G + 1 := hi
          show gL (sL (S d) 1 (nt G) (lN (kV K (a + 1)))) 1 i = lN (upN N.2.1 (nt G) (kV K (a + 1)) i)
          rw [gL_sL]
          by_cases e : i = nt G
          · rw [if_pos e, e, upN_s]
          · rw [if_neg e, upN_n e]; exact b2 i (by omega)
        · rw [st_same]
          obtain ⟨⟨b1, b2, b3, b4, b5, b6, b7⟩, b8⟩ := hCH
          refine ⟨⟨b1, b2, b3, b4, b5, b6, fun t ht => ?_⟩, b8⟩
          show gA (sA (S (d + 8)) 5 (nt G) (nI cn)) 5 t = upd (qc q) (nt G) (nI cn) t
          rw [gA_sA]
          by_cases e : t = nt G
          · rw [if_pos e, e, pk_us]
          · rw [if_neg e, pk_un e]; exact b7 t ht
        · obtain ⟨b1, b2, b3, b4, b5⟩ := hMG
          refine ⟨by rw [o _ (by omega) (by omega) (by omega) (by omega) (by omega)]; exact b1, by rw [gA_sA, if_pos rfl]; rfl, by rw [o _ (by omega) (by omega) (by omega) (by omega) (by omega)]; exact b3, fun t ht => ?_, fun e he => ?_⟩
          · have ht : t < nt G + 1 := ht
            show _ = nI (upN (kd G) (nt G) kn t) ∧ _ = nI (upN (sk G) (nt G) sn t) ∧ _ = nI (upN (hr G) (nt G) x t)
            by_cases e : t = nt G
            · rw [e, upN_s, upN_s, upN_s]
              refine ⟨?_, ?_, ?_⟩
              · rw [gA_sA, if_neg (by omega), gA_sA, if_neg (by omega), ← hv4, gA_sA, if_neg (by omega), gA_sA, if_neg (by omega), gA_sA, if_pos rfl]
              · rw [gA_sA, if_neg (by omega), gA_sA, if_neg (by omega), ← hv4, gA_sA, if_neg (by omega), gA_sA, if_pos rfl]
              · rw [gA_sA, if_neg (by omega), gA_sA, if_pos rfl]
            · rw [upN_n e, upN_n e, upN_n e, o _ (by omega) (by omega) (by omega) (by omega) (by omega), o _ (by omega) (by omega) (by omega) (by omega) (by omega), o _ (by omega) (by omega) (by omega) (by omega) (by omega)]; exact b4 t (by omega)
          · have he : e < ne G := he
            rw [o _ (by omega) (by omega) (by omega) (by omega) (by omega)]; exact b5 e he
        · obtain ⟨b1, b2, b3⟩ := hMB
          refine ⟨by rw [o _ (by omega) (by omega) (by omega) (by omega) (by omega)]; exact b1, fun r hr => ?_, fun t ht => ?_⟩
          · rw [o _ (by omega) (by omega) (by omega) (by omega) (by omega), o _ (by omega) (by omega) (by omega) (by omega) (by omega), o _ (by omega) (by omega) (by omega) (by omega) (by omega), o _ (by omega) (by omega) (by omega) (by omega) (by omega)]; exact b2 r hr
          · show _ = upd (qc q) (nt G) (nI cn) t
            by_cases e : t = nt G
            · rw [e, pk_us, gA_sA, if_neg (by omega), gA_sA, if_neg (by omega), ← hv4, gA_sA, if_pos rfl]
            · rw [pk_un e, o _ (by omega) (by omega) (by omega) (by omega) (by omega)]; exact b3 t ht
        · rw [← hv4, ← hv1]
          have := hNR.1
          exact NT_GM10 (NT_GM10 (NT_GM10 (NT_GM10 (NT_GM10 (NT_add hNT (by omega) wdc)))))
        · rw [← hv4, ← hv1]; exact hc.1
        · have e11 : gR wd 11 = gR (S d) 11 := by rw [← hwd]; rfl
          rw [Sdd, e11, o 74 (by omega) (by omega) (by omega) (by omega) (by omega)]
          refine DL_keep hL1 (fun b b1 _ => by rw [st_ne _ _ (by omega), st_ne _ _ (by omega), st_ne _ _ (by omega)]) (fun x _ => ?_) (Nat.le_refl _) (Nat.le_refl _)
          rw [← hv4, ← hv1]; exact ⟨rfl, rfl⟩
        · have e12 : gR wd 12 = gR (S d) 12 := by rw [← hwd]; rfl
          rw [Sdd, e12, o 75 (by omega) (by omega) (by omega) (by omega) (by omega)]
          refine DL_keep hL2 (fun b b1 _ => by rw [st_ne _ _ (by omega), st_ne _ _ (by omega), st_ne _ _ (by omega)]) (fun x _ => ?_) (Nat.le_refl _) (Nat.le_refl _)
          rw [← hv4, ← hv1]; exact ⟨rfl, rfl⟩
    · have fz : ¬ nI fl9 = nI 0 := by have := okF.2; rw [nI_eq (by omega) (by omega)]; exact z
      refine ⟨st S (p + 1) (tw w a9 fl9), sA (sA v4 10 (76 + 4 * nt G + 3) yh) 10 71 (nI (nt G + 1)), a9, fl9, ?_, md, DI_t hd hn hI okF gm5, fun b h1 _ _ => st_ne _ _ h1, gm5, fun q => absurd q z⟩
      simp (disch := omega) only [f_X2_readThief, f_X2_readThief_0, f_X2_readThief_17, f_X8_stepOrFail, f_X8_stepOrFail_0, ↓lm_1, ↓lm_2, ↓lm_3, ↓lm_4, ↓lm_5, ↓lm_6, ↓lm_7, ↓lm_8, ↓lm_9, ↓lm_10, ↓lm_11, li_0, li_1, li_2, li_3, li_4, li_5, li_6, li_7, li_8, li_9, li_10, li_11, li_12, li_13, li_14, li_15, li_16, li_17, li_18, li_19, li_20, li_21, li_22, li_23, li_24, li_25, li_26, li_27, li_28, li_29, li_30, li_31, li_32, li_33, li_34, li_35, li_36, li_37, li_38, li_39, li_40, li_41, li_42, li_43, li_44, li_45, li_46, li_47, li_48, li_49, li_50, li_51, li_52, li_53, li_54, li_55, li_56, li_57, li_58, li_59, li_60, li_61, li_62, li_63, li_64, li_65, li_66, li_96, li_97, li_99, li_100, li_122, li_125, li_126, li_140, li_255, li_256, li_999, li_1000, li_1001, li_1002, li_1100, li_1386, li_1452, li_1518, li_9999, li_1000000, r6, bd_s, s1, gc8, decide_true, ck_t, g9, n88, n10, ↓reduceIte, sp, nm_eq, nn1, bd2_s, S6, st_same, tk, nW3, tn1, nW4, tn2, nW5, hr1, nd, st_st, tw_g7, fz]
end T
