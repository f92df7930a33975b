/-! ===== gallery: lines of laws ===== -/
def gpW (G : GP) (f : Int32 → Int32 → Int32 → Int32) : GP := ((ns G, nt G, ne G), kd G, sk G, hr G, se G, f, ha G)
def gpH (G : GP) (f : Int32 → Int32 → Int32 → Int32) : GP := ((ns G, nt G, ne G), kd G, sk G, hr G, se G, wo G, f)
theorem DL_i {S : ST} {v : GV} {c n j th i : Nat} {r : Option Nat} {x : Int32} {f dd : Int32 → Int32 → Int32 → Int32} (h : DL S v c r x n j th f dd i) : i ≤ 1 := by
  rcases h with h | ⟨b, fr, len, e1, e2, e3, e4, e5, e6, e7, e8, e9⟩
  · have := h.2.2.2; omega
  · omega
theorem DR_j {d n j a : Nat} {S : ST} {v : GV} (h : DR d n j a S v) : j ≤ 2 := by
  obtain ⟨G, N, q, nn, cd, ty, c, i1, i2, hG, hB, hCG, hCN, hCH, hMG, hMB, hNR, hNT, hc, hL1, hL2, hj⟩ := h
  have := DL_i hL1
  have := DL_i hL2
  omega
theorem GM_MF {c : Nat} {v v' : GV} (h : MF c v v') : GM v v' := ⟨fun k _ h2 h3 _ => h.1 k h2 h3, fun x _ => by rw [h.1 10 (by decide) (by decide)], fun x hx => h.2.1 x (by omega), fun k h1 _ _ => h.2.2.1 k h1, fun k _ => by rw [h.2.2.2.1], h.2.2.2.2⟩
theorem GM_20 {v : GV} {x : Int32} : GM v (sI v 20 x) := ⟨fun _ _ _ _ _ => rfl, fun _ _ => rfl, fun _ _ => ⟨rfl, rfl⟩, fun k _ _ h => by rw [gI_sI, if_neg h], fun _ _ => rfl, rfl⟩
section T
variable {fu p d n a fl j : Nat} {g0 : GG} {K : KT} {w v : GV} {S : ST}
theorem l_worth (hf : 1101 ≤ fu) (hK : okK K) (hw : CB w K) (gw : gC w = 8) (hd : d = p + 43 ∨ d = p + 58) (hn : p + 223 < n) (hI : DI K w p d n S v a 0 j) (htI : tI K a 0 = 12) (hR : DR d n j a S v) : ∃ S' v' a' fl', f_X2_readWorth fu g0 S (p + 6) d (n + 3 * j) = some S' ∧ (bd (f_X13_readLaw fu (mw v a 0)) fun v6 => f_X13_takeSign fu v6 (nI 59)) = some (mw v' a' fl') ∧ DI K w p d n S' v' a' fl' (j + 1) ∧ GF p d n S S' ∧ GM v v' ∧ (fl' = 0 → a < a' ∧ DR d n (j + 1) a' S' v') := by
  have j2 := DR_j hR
  obtain ⟨G, N, q, nn, cd, ty, c, i1, i2, hG, hB, hCG, hCN, hCH, hMG, hMB, hNR, hNT, hc, hL1, hL2, hj⟩ := hR
  obtain ⟨ok, s1, ⟨c6, r6⟩, h5, cd1, cd8, hv, h9, _, _⟩ := id hI
  have gc8 : ∀ a fl, gC (tw w a fl) = 8 := fun _ _ => gw
  have hk1 := (tI_k (by omega) htI).2
  have hk : kK K a ≠ 0 := by omega
  have l1 := DL_i hL1
  have l2 := DL_i hL2
  have S6 : ∀ y : GV, st S (p + 1) y (p + 6) = S (p + 6) := fun y => st_ne _ _ (by omega)
  have S7 : ∀ y : GV, st S (p + 1) y (p + 7) = S (p + 7) := fun y => st_ne _ _ (by omega)
  have Sd : ∀ y : GV, st S (p + 1) y d = S d := fun y => st_ne _ _ (by omega)
  have l74 : (74 : Int32) = nI 74 := by decide
  have e67 : p + 6 + 1 = p + 7 := rfl
  have wh := m_wordHere (fu := fu) (b := 11) (m := 2) hf hK hv h9 ok (by omega)
  rw [htI] at wh
  simp only [Nat.reduceAdd, Nat.reduceLeDiff, Nat.reduceLT, and_self, ↓reduceIte, Nat.reduceSub, oI] at wh
  have n00 : nI 0 ≤ nI 0 := by decide
  have n0z : nI 0 ≤ nI 0 := by decide
  have nR : nI 0 = nI 0 := by decide
  rcases hL1 with ⟨r11, x74, fdd, i0⟩ | ⟨b0, fr0, len0, r11, x74, hlt, _, _, _, _, _, i0⟩
  · -- not told yet
    have ok1 := okP_in hK ok hk
    have sp := x8_step1 (fu := fu) hK hw ok
    rw [stp_in rfl hk] at sp
    have gm0 : GM v (sI (sA v 10 74 (nI c)) 20 (nI (3 + 2 ^ 2))) := GM_trans (GM_10 (by omega)) GM_20
    obtain ⟨S4, v6, a3, fl3, u, e1, e2, e3, e4, e5, e6, e7, e8, e9, e10, e11⟩ := law_core (fu := fu) (p := p) (c := c) (m := n + 3 * j) (g0 := g0) (th := 2) (S := st S (p + 1) (tw w (a + 1) 0)) (v := sI (sA v 10 74 (nI c)) 20 (nI (3 + 2 ^ 2))) hf hK hw gw (by omega) ok1 (st_same _ _ _) (by rw [S7]; exact h5) (MB_GM hv gm0) (WB_GM h9 gm0) hc.1 (by rw [gI_sI, if_pos rfl]) (by have := hc.2; omega) (by omega)
    simp only [Nat.reduceAdd] at e1
    have gm1 : GM v v6 := GM_trans gm0 (GM_MF e8)
    have S4d : S4 d = S d := by rw [e6 d (by omega) (by omega) (by omega), Sd]
    have S46 : S4 (p + 6) = S (p + 6) := by rw [e6 _ (by omega) (by omega) (by omega), S6]
    have S48 : S4 (d + 8) = S (d + 8) := by rw [e6 _ (by omega) (by omega) (by omega), st_ne _ _ (by omega)]
    have nd := x8_need1 (fu := fu) (c := 59) hK hw e3 (by omega)
    have mt := m_takeSign (fu := fu) (v := v6) (c := 59) hK (MB_GM hv gm1) e3 (by omega)
    have okF := okP_ndS hK e3 59
    have nd0 := ndS_1 (K := K) (a := a3) (fl := fl3) (c := 59)
    have ndl := ndS_le (K := K) (a := a3) (fl := fl3) (c := 59)
    generalize ndS K a3 fl3 59 = Q at *
    obtain ⟨a4, fl4⟩ := Q
    simp only at nd mt okF nd0 ndl
    have o1 : ∀ y : GV, st S4 d y (p + 6) = S (p + 6) := fun y => by rw [st_ne _ _ (by omega)]; exact S46
    have o2 : ∀ y : GV, st S4 d y (p + 1) = tw w a3 fl3 := fun y => by rw [st_ne _ _ (by omega)]; exact e4
    have o3 : ∀ y : GV, st S4 d y (n + 3 * j) = S4 (n + 3 * j) := fun y => st_ne _ _ (by omega)
    refine ⟨st (st S4 d (sR (S d) 11 (some (n + 3 * j)))) (p + 1) (tw w a4 fl4), v6, a4, fl4, ?_, ?_, ?_, ?_, gm1, fun z => ?_⟩
    · simp only [f_X2_readWorth, f_X8_stepOrFail, f_X8_stepOrFail_0, ↓lm_1, ↓lm_2, ↓lm_3, ↓lm_4, ↓lm_5, ↓lm_6, ↓lm_7, ↓lm_8, ↓lm_9, ↓lm_10, ↓lm_11, li_0, li_1, li_2, li_3, li_4, li_5, li_6, li_7, li_8, li_9, li_10, li_11, li_12, li_13, li_14, li_15, li_16, li_17, li_18, li_19, li_20, li_21, li_22, li_23, li_24, li_25, li_26, li_27, li_28, li_29, li_30, li_31, li_32, li_33, li_34, li_35, li_36, li_37, li_38, li_39, li_40, li_41, li_42, li_43, li_44, li_45, li_46, li_47, li_48, li_49, li_50, li_51, li_52, li_53, li_54, li_55, li_56, li_57, li_58, li_59, li_60, li_61, li_62, li_63, li_64, li_65, li_66, li_96, li_97, li_99, li_100, li_122, li_125, li_126, li_140, li_255, li_256, li_999, li_1000, li_1001, li_1002, li_1100, li_1386, li_1452, li_1518, li_9999, li_1000000, r6, bd_s, s1, gc8, decide_true, ck_t, r11, ↓reduceIte, n10, sp, nm_eq, e67, S7, h5.1, e1, S4d, cd1, o1, c6, o2, o3, e7, nd]
    · have m1 : mI 1 < nI 0 := by decide
      simp (disch := omega) only [f_X13_readLaw, f_X13_readLaw_0, f_X13_readLaw_37, f_X13_readLaw_80, l74, ↓lm_1, ↓lm_2, ↓lm_3, ↓lm_4, ↓lm_5, ↓lm_6, ↓lm_7, ↓lm_8, ↓lm_9, ↓lm_10, ↓lm_11, li_0, li_1, li_2, li_3, li_4, li_5, li_6, li_7, li_8, li_9, li_10, li_11, li_12, li_13, li_14, li_15, li_16, li_17, li_18, li_19, li_20, li_21, li_22, li_23, li_24, li_25, li_26, li_27, li_28, li_29, li_30, li_31, li_32, li_33, li_34, li_35, li_36, li_37, li_38, li_39, li_40, li_41, li_42, li_43, li_44, li_45, li_46, li_47, li_48, li_49, li_50, li_51, li_52, li_53, li_54, li_55, li_56, li_57, li_58, li_59, li_60, li_61, li_62, li_63, li_64, li_65, li_66, li_96, li_97, li_99, li_100, li_122, li_125, li_126, li_140, li_255, li_256, li_999, li_1000, li_1001, li_1002, li_1100, li_1386, li_1452, li_1518, li_9999, li_1000000, wh, bd_s, n00, ↓reduceIte, nI_add, nm_eq, inb_n, ck_t, nI_clamp, mw_A, x74, m1, mw_g8, n0z, mw_g7, mw_7, mw_I, hc.1, mw_sA, mw_sI, nR, Nat.add_zero, Nat.reduceAdd]
      have e2' := e2
      simp only [Nat.reducePow, Nat.reduceAdd] at e2'
      cases qq : f_X13_all fu (f_X13_takePartD fu 8) (mw (sI (sA v 10 74 (nI c)) 20 (nI 7)) (a + 1) 0) (nI 0) with
      | none => rw [qq] at e2'; cases e2'
      | some v3 =>
        rw [qq, bd_s] at e2'
        simp only [bd_s, e2', mt]
    · refine ⟨okF, st_same _ _ _, ?_, ?_, ?_, ?_, MB_GM hv gm1, WB_GM h9 gm1, Or.inr ?_, by omega⟩
      · rw [st_ne _ _ (by omega), st_ne _ _ (by omega), S46]; exact ⟨c6, r6⟩
      · rw [st_ne _ _ (by omega), st_ne _ _ (by omega)]; exact e5
      · rw [st_ne _ _ (by omega), st_same]; exact cd1
      · rw [st_ne _ _ (by omega), st_ne _ _ (by omega), S48]; exact cd8
      · have : n + 3 * (j + 1) - 3 = n + 3 * j := by omega
        rw [this, st_ne _ _ (by omega), st_ne _ _ (by omega)]; exact e7
    · intro b b1 b2 b3 b4 b5
      rw [st_ne _ _ b2, st_ne _ _ b4, e6 b (by omega) b2 b3, st_ne _ _ b2]
    · obtain ⟨z1, z2, z3⟩ := nd0 z
      obtain ⟨y1, y2, y3⟩ := e11 z1
      have hcl := hc.2
      have Dd : st (st S4 d (sR (S d) 11 (some (n + 3 * j)))) (p + 1) (tw w a4 fl4) d = sR (S d) 11 (some (n + 3 * j)) := by rw [st_ne _ _ (by omega), st_same]
      have v10 : ∀ x, x ≠ 74 → gA v6 10 x = gA v 10 x := fun x hx => by
        rw [e8.1 10 (by decide) (by decide), gA_sI, gA_sA, if_neg hx]
      refine ⟨by omega, gpW G (fun x y z => lawV (dO v6) (dA v6) (fct x y z 2) c u), N, q, nn, cd, ty, c + u + 1, 1, i2, hG, hB, ?_, ?_, ?_, ?_, ?_, hNR, ?_, ⟨e9, by omega⟩, ?_, ?_, by omega⟩
      · rw [Dd]; exact hCG
      · rw [Dd]; exact hCN
      · rw [st_ne _ _ (by omega), st_ne _ _ (by omega), S48]; exact hCH
      · obtain ⟨b1, b2, b3, b4, b5⟩ := hMG
        refine ⟨by rw [v10 _ (by omega)]; exact b1, by rw [v10 _ (by omega)]; exact b2, by rw [v10 _ (by omega)]; exact b3, fun t ht => ?_, fun e he => by rw [v10 _ (by omega)]; exact b5 e he⟩
        rw [v10 _ (by omega), v10 _ (by omega), v10 _ (by omega)]; exact b4 t ht
      · obtain ⟨b1, b2, b3⟩ := hMB
        refine ⟨by rw [v10 _ (by omega)]; exact b1, fun r hr => ?_, fun t ht => by rw [v10 _ (by omega)]; exact b3 t ht⟩
        rw [v10 _ (by omega), v10 _ (by omega), v10 _ (by omega), v10 _ (by omega)]; exact b2 r hr
      · obtain ⟨b1, b2, b3⟩ := hNT
        simp only [↓reduceIte] at b2 b3
        refine ⟨b1, ?_, fun k hk => ?_⟩
        · simp only [↓reduceIte]; rw [e8.2.2.1 19 (by decide), gI_sI, if_neg (by decide)]; exact b2
        · simp only [↓reduceIte]; rw [e8.2.2.2.1, e8.1 17 (by decide) (by decide)]; exact b3 k hk
      · rw [Dd, gR_sR, if_pos rfl]
        have x7 : gA v6 10 74 = nI c := by rw [e8.1 10 (by decide) (by decide), gA_sI, gA_sA, if_pos rfl]
        rw [x7]
        refine Or.inr ⟨n + 3 * j, c, u, rfl, rfl, by omega, by omega, by omega, ?_, y3, fun _ _ _ => rfl, rfl⟩
        rw [st_ne _ _ (by omega), st_ne _ _ (by omega)]; exact y2
      · rw [Dd, gR_sR, if_neg (by decide), v10 _ (by omega)]
        refine DL_keep hL2 (fun b b1 b2 => ?_) (fun x hx => ?_) (by omega) (by omega)
        · rw [st_ne _ _ (by omega), st_ne _ _ (by omega), e6 b (by omega) (by omega) (by omega), st_ne _ _ (by omega)]
        · have := e8.2.1 (1100 + x) (by omega)
          exact ⟨this.1, this.2⟩
  · -- told before
    have hcl := hc.2
    have ok3 := okP_flf (x := 3) hK ok (by omega)
    have fp := flf_pos (K := K) (a := a) (fl := 0) (x := 3) (by omega)
    have f3 : ¬ nI (flf K a 0 3) ≤ nI 0 := by have := ok3.2; exact nI_ge (by omega) (by omega)
    obtain ⟨S4, e1, e4, e5, e6, e7⟩ := law_fail (fu := fu) (p := p) (m := n + 3 * j) (g0 := g0) (th := 2) (S := st S (p + 1) (tw w a (flf K a 0 3))) (v := v) hf hK hw gw (by omega) ok3 fp (by omega) (st_same _ _ _) (by rw [S7]; exact h5) hv h9 (by omega)
    simp only [Nat.reduceAdd] at e1
    have S4d : S4 d = S d := by rw [e6 d (by omega) (by omega) (by omega), Sd]
    have S46 : S4 (p + 6) = S (p + 6) := by rw [e6 _ (by omega) (by omega) (by omega), S6]
    have S48 : S4 (d + 8) = S (d + 8) := by rw [e6 _ (by omega) (by omega) (by omega), st_ne _ _ (by omega)]
    have nd := x8_need1 (fu := fu) (c := 59) hK hw ok3 (by omega)
    have mt := m_takeSign (fu := fu) (v := v) (c := 59) hK hv ok3 (by omega)
    rw [ndS_f fp] at nd mt
    simp only at nd mt
    have o1 : ∀ y : GV, st S4 d y (p + 6) = S (p + 6) := fun y => by rw [st_ne _ _ (by omega)]; exact S46
    have o2 : ∀ y : GV, st S4 d y (p + 1) = tw w a (flf K a 0 3) := fun y => by rw [st_ne _ _ (by omega)]; exact e4
    have o3 : ∀ y : GV, st S4 d y (n + 3 * j) = S4 (n + 3 * j) := fun y => st_ne _ _ (by omega)
    refine ⟨st (st S4 d (sR (S d) 11 (some (n + 3 * j)))) (p + 1) (tw w a (flf K a 0 3)), v, a, flf K a 0 3, ?_, ?_, ?_, ?_, GM_refl v, fun z => absurd z fp⟩
    · simp only [f_X2_readWorth, f_X8_stepOrFail, f_X8_stepOrFail_0, ↓lm_1, ↓lm_2, ↓lm_3, ↓lm_4, ↓lm_5, ↓lm_6, ↓lm_7, ↓lm_8, ↓lm_9, ↓lm_10, ↓lm_11, li_0, li_1, li_2, li_3, li_4, li_5, li_6, li_7, li_8, li_9, li_10, li_11, li_12, li_13, li_14, li_15, li_16, li_17, li_18, li_19, li_20, li_21, li_22, li_23, li_24, li_25, li_26, li_27, li_28, li_29, li_30, li_31, li_32, li_33, li_34, li_35, li_36, li_37, li_38, li_39, li_40, li_41, li_42, li_43, li_44, li_45, li_46, li_47, li_48, li_49, li_50, li_51, li_52, li_53, li_54, li_55, li_56, li_57, li_58, li_59, li_60, li_61, li_62, li_63, li_64, li_65, li_66, li_96, li_97, li_99, li_100, li_122, li_125, li_126, li_140, li_255, li_256, li_999, li_1000, li_1001, li_1002, li_1100, li_1386, li_1452, li_1518, li_9999, li_1000000, r6, bd_s, s1, gc8, decide_true, ck_t, r11, reduceCtorEq, ↓reduceIte, x8_fail hK hw ok, nm_eq, e67, S7, h5.1, e1, S4d, cd1, o1, c6, o2, o3, e7, nd]
    · have kl := hK.1
      have al := ok.1
      have m1 : ¬ nI fr0 < nI 0 := nI_nlt (by omega) (by omega)
      simp (disch := omega) only [f_X13_readLaw, f_X13_readLaw_0, f_X13_readLaw_37, l74, ↓lm_1, ↓lm_2, ↓lm_3, ↓lm_4, ↓lm_5, ↓lm_6, ↓lm_7, ↓lm_8, ↓lm_9, ↓lm_10, ↓lm_11, li_0, li_1, li_2, li_3, li_4, li_5, li_6, li_7, li_8, li_9, li_10, li_11, li_12, li_13, li_14, li_15, li_16, li_17, li_18, li_19, li_20, li_21, li_22, li_23, li_24, li_25, li_26, li_27, li_28, li_29, li_30, li_31, li_32, li_33, li_34, li_35, li_36, li_37, li_38, li_39, li_40, li_41, li_42, li_43, li_44, li_45, li_46, li_47, li_48, li_49, li_50, li_51, li_52, li_53, li_54, li_55, li_56, li_57, li_58, li_59, li_60, li_61, li_62, li_63, li_64, li_65, li_66, li_96, li_97, li_99, li_100, li_122, li_125, li_126, li_140, li_255, li_256, li_999, li_1000, li_1001, li_1002, li_1100, li_1386, li_1452, li_1518, li_9999, li_1000000, wh, bd_s, n00, ↓reduceIte, nI_add, nm_eq, inb_n, ck_t, nI_clamp, mw_A, x74, m1, m_wrong hK hv ok, mw_g8, f3, mt, Nat.add_zero, Nat.reduceAdd]
    · refine ⟨ok3, st_same _ _ _, ?_, ?_, ?_, ?_, hv, h9, Or.inr ?_, by omega⟩
      · rw [st_ne _ _ (by omega), st_ne _ _ (by omega), S46]; exact ⟨c6, r6⟩
      · rw [st_ne _ _ (by omega), st_ne _ _ (by omega)]; exact e5
      · rw [st_ne _ _ (by omega), st_same]; exact cd1
      · rw [st_ne _ _ (by omega), st_ne _ _ (by omega), S48]; exact cd8
      · have : n + 3 * (j + 1) - 3 = n + 3 * j := by omega
        rw [this, st_ne _ _ (by omega), st_ne _ _ (by omega)]; exact e7
    · intro b b1 b2 b3 b4 b5
      rw [st_ne _ _ b2, st_ne _ _ b4, e6 b (by omega) b2 b3, st_ne _ _ b2]
theorem l_hard (hf : 1101 ≤ fu) (hK : okK K) (hw : CB w K) (gw : gC w = 8) (hd : d = p + 43 ∨ d = p + 58) (hn : p + 223 < n) (hI : DI K w p d n S v a 0 j) (htI : tI K a 0 = 13) (hR : DR d n j a S v) : ∃ S' v' a' fl', f_X2_readHard fu g0 S (p + 6) d (n + 3 * j) = some S' ∧ (bd (f_X13_readLaw fu (mw v a 0)) fun v6 => f_X13_takeSign fu v6 (nI 59)) = some (mw v' a' fl') ∧ DI K w p d n S' v' a' fl' (j + 1) ∧ GF p d n S S' ∧ GM v v' ∧ (fl' = 0 → a < a' ∧ DR d n (j + 1) a' S' v') := by
  have j2 := DR_j hR
  obtain ⟨G, N, q, nn, cd, ty, c, i1, i2, hG, hB, hCG, hCN, hCH, hMG, hMB, hNR, hNT, hc, hL1, hL2, hj⟩ := hR
  obtain ⟨ok, s1, ⟨c6, r6⟩, h5, cd1, cd8, hv, h9, _, _⟩ := id hI
  have gc8 : ∀ a fl, gC (tw w a fl) = 8 := fun _ _ => gw
  have hk1 := (tI_k (by omega) htI).2
  have hk : kK K a ≠ 0 := by omega
  have l1 := DL_i hL1
  have l2 := DL_i hL2
  have S6 : ∀ y : GV, st S (p + 1) y (p + 6) = S (p + 6) := fun y => st_ne _ _ (by omega)
  have S7 : ∀ y : GV, st S (p + 1) y (p + 7) = S (p + 7) := fun y => st_ne _ _ (by omega)
  have Sd : ∀ y : GV, st S (p + 1) y d = S d := fun y => st_ne _ _ (by omega)
  have l74 : (74 : Int32) = nI 74 := by decide
  have e67 : p + 6 + 1 = p + 7 := rfl
  have wh := m_wordHere (fu := fu) (b := 11) (m := 2) hf hK hv h9 ok (by omega)
  rw [htI] at wh
  simp only [Nat.reduceAdd, Nat.reduceLeDiff, Nat.reduceLT, and_self, ↓reduceIte, Nat.reduceSub, oI] at wh
  have n00 : nI 0 ≤ nI 1 := by decide
  have n0z : nI 0 ≤ nI 0 := by decide
  have nR : ¬ nI 1 = nI 0 := by decide
  rcases hL2 with ⟨r11, x74, fdd, i0⟩ | ⟨b0, fr0, len0, r11, x74, hlt, _, _, _, _, _, i0⟩
  · -- not told yet
    have ok1 := okP_in hK ok hk
    have sp := x8_step1 (fu := fu) hK hw ok
    rw [stp_in rfl hk] at sp
    have gm0 : GM v (sI (sA v 10 75 (nI c)) 20 (nI (3 + 2 ^ 3))) := GM_trans (GM_10 (by omega)) GM_20
    obtain ⟨S4, v6, a3, fl3, u, e1, e2, e3, e4, e5, e6, e7, e8, e9, e10, e11⟩ := law_core (fu := fu) (p := p) (c := c) (m := n + 3 * j) (g0 := g0) (th := 3) (S := st S (p + 1) (tw w (a + 1) 0)) (v := sI (sA v 10 75 (nI c)) 20 (nI (3 + 2 ^ 3))) hf hK hw gw (by omega) ok1 (st_same _ _ _) (by rw [S7]; exact h5) (MB_GM hv gm0) (WB_GM h9 gm0) hc.1 (by rw [gI_sI, if_pos rfl]) (by have := hc.2; omega) (by omega)
    simp only [Nat.reduceAdd] at e1
    have gm1 : GM v v6 := GM_trans gm0 (GM_MF e8)
    have S4d : S4 d = S d := by rw [e6 d (by omega) (by omega) (by omega), Sd]
    have S46 : S4 (p + 6) = S (p + 6) := by rw [e6 _ (by omega) (by omega) (by omega), S6]
    have S48 : S4 (d + 8) = S (d + 8) := by rw [e6 _ (by omega) (by omega) (by omega), st_ne _ _ (by omega)]
    have nd := x8_need1 (fu := fu) (c := 59) hK hw e3 (by omega)
    have mt := m_takeSign (fu := fu) (v := v6) (c := 59) hK (MB_GM hv gm1) e3 (by omega)
    have okF := okP_ndS hK e3 59
    have nd0 := ndS_1 (K := K) (a := a3) (fl := fl3) (c := 59)
    have ndl := ndS_le (K := K) (a := a3) (fl := fl3) (c := 59)
    generalize ndS K a3 fl3 59 = Q at *
    obtain ⟨a4, fl4⟩ := Q
    simp only at nd mt okF nd0 ndl
    have o1 : ∀ y : GV, st S4 d y (p + 6) = S (p + 6) := fun y => by rw [st_ne _ _ (by omega)]; exact S46
    have o2 : ∀ y : GV, st S4 d y (p + 1) = tw w a3 fl3 := fun y => by rw [st_ne _ _ (by omega)]; exact e4
    have o3 : ∀ y : GV, st S4 d y (n + 3 * j) = S4 (n + 3 * j) := fun y => st_ne _ _ (by omega)
    refine ⟨st (st S4 d (sR (S d) 12 (some (n + 3 * j)))) (p + 1) (tw w a4 fl4), v6, a4, fl4, ?_, ?_, ?_, ?_, gm1, fun z => ?_⟩
    · simp only [f_X2_readHard, f_X8_stepOrFail, f_X8_stepOrFail_0, ↓lm_1, ↓lm_2, ↓lm_3, ↓lm_4, ↓lm_5, ↓lm_6, ↓lm_7, ↓lm_8, ↓lm_9, ↓lm_10, ↓lm_11, li_0, li_1, li_2, li_3, li_4, li_5, li_6, li_7, li_8, li_9, li_10, li_11, li_12, li_13, li_14, li_15, li_16, li_17, li_18, li_19, li_20, li_21, li_22, li_23, li_24, li_25, li_26, li_27, li_28, li_29, li_30, li_31, li_32, li_33, li_34, li_35, li_36, li_37, li_38, li_39, li_40, li_41, li_42, li_43, li_44, li_45, li_46, li_47, li_48, li_49, li_50, li_51, li_52, li_53, li_54, li_55, li_56, li_57, li_58, li_59, li_60, li_61, li_62, li_63, li_64, li_65, li_66, li_96, li_97, li_99, li_100, li_122, li_125, li_126, li_140, li_255, li_256, li_999, li_1000, li_1001, li_1002, li_1100, li_1386, li_1452, li_1518, li_9999, li_1000000, r6, bd_s, s1, gc8, decide_true, ck_t, r11, ↓reduceIte, n10, sp, nm_eq, e67, S7, h5.1, e1, S4d, cd1, o1, c6, o2, o3, e7, nd]
    · have m1 : mI 1 < nI 0 := by decide
      simp (disch := omega) only [f_X13_readLaw, f_X13_readLaw_0, f_X13_readLaw_37, f_X13_readLaw_80, l74, ↓lm_1, ↓lm_2, ↓lm_3, ↓lm_4, ↓lm_5, ↓lm_6, ↓lm_7, ↓lm_8, ↓lm_9, ↓lm_10, ↓lm_11, li_0, li_1, li_2, li_3, li_4, li_5, li_6, li_7, li_8, li_9, li_10, li_11, li_12, li_13, li_14, li_15, li_16, li_17, li_18, li_19, li_20, li_21, li_22, li_23, li_24, li_25, li_26, li_27, li_28, li_29, li_30, li_31, li_32, li_33, li_34, li_35, li_36, li_37, li_38, li_39, li_40, li_41, li_42, li_43, li_44, li_45, li_46, li_47, li_48, li_49, li_50, li_51, li_52, li_53, li_54, li_55, li_56, li_57, li_58, li_59, li_60, li_61, li_62, li_63, li_64, li_65, li_66, li_96, li_97, li_99, li_100, li_122, li_125, li_126, li_140, li_255, li_256, li_999, li_1000, li_1001, li_1002, li_1100, li_1386, li_1452, li_1518, li_9999, li_1000000, wh, bd_s, n00, ↓reduceIte, nI_add, nm_eq, inb_n, ck_t, nI_clamp, mw_A, x74, m1, mw_g8, n0z, mw_g7, mw_7, mw_I, hc.1, mw_sA, mw_sI, nR, Nat.add_zero, Nat.reduceAdd]
      have e2' := e2
      simp only [Nat.reducePow, Nat.reduceAdd] at e2'
      cases qq : f_X13_all fu (f_X13_takePartD fu 8) (mw (sI (sA v 10 75 (nI c)) 20 (nI 11)) (a + 1) 0) (nI 0) with
      | none => rw [qq] at e2'; cases e2'
      | some v3 =>
        rw [qq, bd_s] at e2'
        simp only [bd_s, e2', mt]
    · refine ⟨okF, st_same _ _ _, ?_, ?_, ?_, ?_, MB_GM hv gm1, WB_GM h9 gm1, Or.inr ?_, by omega⟩
      · rw [st_ne _ _ (by omega), st_ne _ _ (by omega), S46]; exact ⟨c6, r6⟩
      · rw [st_ne _ _ (by omega), st_ne _ _ (by omega)]; exact e5
      · rw [st_ne _ _ (by omega), st_same]; exact cd1
      · rw [st_ne _ _ (by omega), st_ne _ _ (by omega), S48]; exact cd8
      · have : n + 3 * (j + 1) - 3 = n + 3 * j := by omega
        rw [this, st_ne _ _ (by omega), st_ne _ _ (by omega)]; exact e7
    · intro b b1 b2 b3 b4 b5
      rw [st_ne _ _ b2, st_ne _ _ b4, e6 b (by omega) b2 b3, st_ne _ _ b2]
    · obtain ⟨z1, z2, z3⟩ := nd0 z
      obtain ⟨y1, y2, y3⟩ := e11 z1
      have hcl := hc.2
      have Dd : st (st S4 d (sR (S d) 12 (some (n + 3 * j)))) (p + 1) (tw w a4 fl4) d = sR (S d) 12 (some (n + 3 * j)) := by rw [st_ne _ _ (by omega), st_same]
      have v10 : ∀ x, x ≠ 75 → gA v6 10 x = gA v 10 x := fun x hx => by
        rw [e8.1 10 (by decide) (by decide), gA_sI, gA_sA, if_neg hx]
      refine ⟨by omega, gpH G (fun x y z => lawV (dO v6) (dA v6) (fct x y z 3) c u), N, q, nn, cd, ty, c + u + 1, i1, 1, hG, hB, ?_, ?_, ?_, ?_, ?_, hNR, ?_, ⟨e9, by omega⟩, ?_, ?_, by omega⟩
      · rw [Dd]; exact hCG
      · rw [Dd]; exact hCN
      · rw [st_ne _ _ (by omega), st_ne _ _ (by omega), S48]; exact hCH
      · obtain ⟨b1, b2, b3, b4, b5⟩ := hMG
        refine ⟨by rw [v10 _ (by omega)]; exact b1, by rw [v10 _ (by omega)]; exact b2, by rw [v10 _ (by omega)]; exact b3, fun t ht => ?_, fun e he => by rw [v10 _ (by omega)]; exact b5 e he⟩
        rw [v10 _ (by omega), v10 _ (by omega), v10 _ (by omega)]; exact b4 t ht
      · obtain ⟨b1, b2, b3⟩ := hMB
        refine ⟨by rw [v10 _ (by omega)]; exact b1, fun r hr => ?_, fun t ht => by rw [v10 _ (by omega)]; exact b3 t ht⟩
        rw [v10 _ (by omega), v10 _ (by omega), v10 _ (by omega), v10 _ (by omega)]; exact b2 r hr
      · obtain ⟨b1, b2, b3⟩ := hNT
        simp only [↓reduceIte] at b2 b3
        refine ⟨b1, ?_, fun k hk => ?_⟩
        · simp only [↓reduceIte]; rw [e8.2.2.1 19 (by decide), gI_sI, if_neg (by decide)]; exact b2
        · simp only [↓reduceIte]; rw [e8.2.2.2.1, e8.1 17 (by decide) (by decide)]; exact b3 k hk
      · rw [Dd, gR_sR, if_neg (by decide), v10 _ (by omega)]
        refine DL_keep hL1 (fun b b1 b2 => ?_) (fun x hx => ?_) (by omega) (by omega)
        · rw [st_ne _ _ (by omega), st_ne _ _ (by omega), e6 b (by omega) (by omega) (by omega), st_ne _ _ (by omega)]
        · have := e8.2.1 (1100 + x) (by omega)
          exact ⟨this.1, this.2⟩
      · rw [Dd, gR_sR, if_pos rfl]
        have x7 : gA v6 10 75 = nI c := by rw [e8.1 10 (by decide) (by decide), gA_sI, gA_sA, if_pos rfl]
        rw [x7]
        refine Or.inr ⟨n + 3 * j, c, u, rfl, rfl, by omega, by omega, by omega, ?_, y3, fun _ _ _ => rfl, rfl⟩
        rw [st_ne _ _ (by omega), st_ne _ _ (by omega)]; exact y2
  · -- told before
    have hcl := hc.2
    have ok3 := okP_flf (x := 3) hK ok (by omega)
    have fp := flf_pos (K := K) (a := a) (fl := 0) (x := 3) (by omega)
    have f3 : ¬ nI (flf K a 0 3) ≤ nI 0 := by have := ok3.2; exact nI_ge (by omega) (by omega)
    obtain ⟨S4, e1, e4, e5, e6, e7⟩ := law_fail (fu := fu) (p := p) (m := n + 3 * j) (g0 := g0) (th := 3) (S := st S (p + 1) (tw w a (flf K a 0 3))) (v := v) hf hK hw gw (by omega) ok3 fp (by omega) (st_same _ _ _) (by rw [S7]; exact h5) hv h9 (by omega)
    simp only [Nat.reduceAdd] at e1
    have S4d : S4 d = S d := by rw [e6 d (by omega) (by omega) (by omega), Sd]
    have S46 : S4 (p + 6) = S (p + 6) := by rw [e6 _ (by omega) (by omega) (by omega), S6]
    have S48 : S4 (d + 8) = S (d + 8) := by rw [e6 _ (by omega) (by omega) (by omega), st_ne _ _ (by omega)]
    have nd := x8_need1 (fu := fu) (c := 59) hK hw ok3 (by omega)
    have mt := m_takeSign (fu := fu) (v := v) (c := 59) hK hv ok3 (by omega)
    rw [ndS_f fp] at nd mt
    simp only at nd mt
    have o1 : ∀ y : GV, st S4 d y (p + 6) = S (p + 6) := fun y => by rw [st_ne _ _ (by omega)]; exact S46
    have o2 : ∀ y : GV, st S4 d y (p + 1) = tw w a (flf K a 0 3) := fun y => by rw [st_ne _ _ (by omega)]; exact e4
    have o3 : ∀ y : GV, st S4 d y (n + 3 * j) = S4 (n + 3 * j) := fun y => st_ne _ _ (by omega)
    refine ⟨st (st S4 d (sR (S d) 12 (some (n + 3 * j)))) (p + 1) (tw w a (flf K a 0 3)), v, a, flf K a 0 3, ?_, ?_, ?_, ?_, GM_refl v, fun z => absurd z fp⟩
    · simp only [f_X2_readHard, f_X8_stepOrFail, f_X8_stepOrFail_0, ↓lm_1, ↓lm_2, ↓lm_3, ↓lm_4, ↓lm_5, ↓lm_6, ↓lm_7, ↓lm_8, ↓lm_9, ↓lm_10, ↓lm_11, li_0, li_1, li_2, li_3, li_4, li_5, li_6, li_7, li_8, li_9, li_10, li_11, li_12, li_13, li_14, li_15, li_16, li_17, li_18, li_19, li_20, li_21, li_22, li_23, li_24, li_25, li_26, li_27, li_28, li_29, li_30, li_31, li_32, li_33, li_34, li_35, li_36, li_37, li_38, li_39, li_40, li_41, li_42, li_43, li_44, li_45, li_46, li_47, li_48, li_49, li_50, li_51, li_52, li_53, li_54, li_55, li_56, li_57, li_58, li_59, li_60, li_61, li_62, li_63, li_64, li_65, li_66, li_96, li_97, li_99, li_100, li_122, li_125, li_126, li_140, li_255, li_256, li_999, li_1000, li_1001, li_1002, li_1100, li_1386, li_1452, li_1518, li_9999, li_1000000, r6, bd_s, s1, gc8, decide_true, ck_t, r11, reduceCtorEq, ↓reduceIte, x8_fail hK hw ok, nm_eq, e67, S7, h5.1, e1, S4d, cd1, o1, c6, o2, o3, e7, nd]
    · have kl := hK.1
      have al := ok.1
      have m1 : ¬ nI fr0 < nI 0 := nI_nlt (by omega) (by omega)
      simp (disch := omega) only [f_X13_readLaw, f_X13_readLaw_0, f_X13_readLaw_37, l74, ↓lm_1, ↓lm_2, ↓lm_3, ↓lm_4, ↓lm_5, ↓lm_6, ↓lm_7, ↓lm_8, ↓lm_9, ↓lm_10, ↓lm_11, li_0, li_1, li_2, li_3, li_4, li_5, li_6, li_7, li_8, li_9, li_10, li_11, li_12, li_13, li_14, li_15, li_16, li_17, li_18, li_19, li_20, li_21, li_22, li_23, li_24, li_25, li_26, li_27, li_28, li_29, li_30, li_31, li_32, li_33, li_34, li_35, li_36, li_37, li_38, li_39, li_40, li_41, li_42, li_43, li_44, li_45, li_46, li_47, li_48, li_49, li_50, li_51, li_52, li_53, li_54, li_55, li_56, li_57, li_58, li_59, li_60, li_61, li_62, li_63, li_64, li_65, li_66, li_96, li_97, li_99, li_100, li_122, li_125, li_126, li_140, li_255, li_256, li_999, li_1000, li_1001, li_1002, li_1100, li_1386, li_1452, li_1518, li_9999, li_1000000, wh, bd_s, n00, ↓reduceIte, nI_add, nm_eq, inb_n, ck_t, nI_clamp, mw_A, x74, m1, m_wrong hK hv ok, mw_g8, f3, mt, Nat.add_zero, Nat.reduceAdd]
    · refine ⟨ok3, st_same _ _ _, ?_, ?_, ?_, ?_, hv, h9, Or.inr ?_, by omega⟩
      · rw [st_ne _ _ (by omega), st_ne _ _ (by omega), S46]; exact ⟨c6, r6⟩
      · rw [st_ne _ _ (by omega), st_ne _ _ (by omega)]; exact e5
      · rw [st_ne _ _ (by omega), st_same]; exact cd1
      · rw [st_ne _ _ (by omega), st_ne _ _ (by omega), S48]; exact cd8
      · have : n + 3 * (j + 1) - 3 = n + 3 * j := by omega
        rw [this, st_ne _ _ (by omega), st_ne _ _ (by omega)]; exact e7
    · intro b b1 b2 b3 b4 b5
      rw [st_ne _ _ b2, st_ne _ _ b4, e6 b (by omega) b2 b3, st_ne _ _ b2]
end T
