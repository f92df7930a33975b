/-! ===== gallery ===== -/
theorem GMc_mw {v v' : GV} {a fl : Nat} (h : GMc v v') : GMc v (mw v' a fl) := by
  obtain ⟨k1, k10, k11, kI, k2, kL, kC⟩ := h
  exact ⟨k1, k10, k11, fun k h1 h2 h3 h4 h5 h6 h7 h8 => by rw [mw_I _ _ _ h4 h5]; exact kI k h1 h2 h3 h4 h5 h6 h7 h8, by rw [mw_I _ _ _ (by decide) (by decide)]; exact k2, kL, kC⟩
theorem r_gallery {fu p n : Nat} {g0 : GG} {S : ST} {v : GV} (hf : 1101 ≤ fu) (h : RR p S v) (hfr : ∀ b, n ≤ b → gC (S b) = 0) : ∃ z S' v', f_X12_gallery fu g0 S p n = some (z, S') ∧ f_X13_gallery fu v = some (z, v') ∧ RR p S' v' := by
  obtain ⟨A, hA, hC, hM⟩ := h
  obtain ⟨t, d, ln, dl, f, hP, hK⟩ := id hC
  have hn : p + 223 < n := by
    have := (hP.2.2.2.1 3 (by omega)).1
    rcases Nat.lt_or_ge (p + 202 + 7 * 3) n with q | q
    · omega
    · have z := hfr _ q; omega
  obtain ⟨K, w, S1, v1, a, fl, j, k3, gw, e1, e2, hI, hF, hGM, hDR⟩ := j_gread (fu := fu) (g0 := g0) hf hA hP hK hM hn
  obtain ⟨ok, s1, ⟨c6, r6⟩, h7, cd1, cd8, hv, h9, hl, j3⟩ := id hI
  obtain ⟨⟨a1, a2, a3, a4, a5, a6, a7, a8⟩, ⟨b1, b2, b3, b4, b5, b6⟩, c, m, ⟨r1, r2, r3, r4⟩, td, ll, g1, g2, g3, g4⟩ := id hP
  generalize hS7 : st S1 (p + 1) (sI (tw w a fl) 6 (nI 0)) = S7 at *
  have S7o : ∀ b, b ≠ p + 1 → S7 b = S1 b := fun b hb => by rw [← hS7, st_ne _ _ hb]
  have S7a : S7 (p + 1) = sI (tw w a fl) 6 (nI 0) := by rw [← hS7, st_same]
  have S7n : ∀ b, b < n → b ≠ p + 1 → b ≠ p + 7 → b ≠ d → b ≠ d + 8 → S7 b = S b := fun b q1 q2 q3 q4 q5 => by rw [S7o b q2, hF b q1 q2 q3 q4 q5]
  by_cases c0 : fl = 0
  · subst c0
    obtain ⟨G, N, q, nn, cd, ty, cc, i1, i2, hDQ⟩ := hDR rfl
    have hN := k3.1
    have hal := ok.1
    obtain ⟨w', d1, d2, d3, d4, d5, d6, d7, d8, d9, d10, d11, d12⟩ := m_gend (fu := fu) hf (by omega) hDQ
    obtain ⟨hG, hB, hCG, hCN, hCH, hMG, hMB, hNR, hNT, hc, hL1, hL2, hj⟩ := hDQ
    have q8 := hB.1.1.2.1
    have o : ∀ b, b < p + 224 → b ≠ p + 1 → b ≠ p + 7 → b ≠ d → b ≠ d + 8 → S7 b = S b := fun b q1 q2 q3 q4 q5 => S7n b (by omega) q2 q3 q4 q5
    have o0 := o p (by omega) (by omega) (by omega) (by omega) (by omega)
    have o9 := o (p + 9) (by omega) (by omega) (by omega) (by omega) (by omega)
    have ol := o ln (by omega) (by omega) (by omega) (by omega) (by omega)
    have od : S7 d = S1 d := S7o d (by omega)
    have od8 : S7 (d + 8) = S1 (d + 8) := S7o (d + 8) (by omega)
    generalize hP9 : sR (sR (S p) 12 (some d)) 13 (some t) = P9
    have gP12 : gR P9 12 = some d := by rw [← hP9, gR_sR, if_neg (by decide), gR_sR, if_pos rfl]
    have gP13 : gR P9 13 = some t := by rw [← hP9, gR_sR, if_pos rfl]
    have gP14 : gR P9 14 = some ln := by rw [← hP9, gR_sR, if_neg (by decide), gR_sR, if_neg (by decide)]; exact r3
    have gP15 : gR P9 15 = some dl := by rw [← hP9, gR_sR, if_neg (by decide), gR_sR, if_neg (by decide)]; exact r4
    have gPQ : ∀ k, gQ P9 k = gQ (S p) k := fun k => by rw [← hP9]; rfl
    have gPI : ∀ k, gI P9 k = gI (S p) k := fun k => by rw [← hP9]; rfl
    have gPC : gC P9 = 11 := by rw [← hP9]; exact a1
    have x1 : st S7 p P9 (p + 9) = S (p + 9) := by rw [st_ne _ _ (by omega)]; exact o9
    have x2 : st S7 p P9 d = S1 d := by rw [st_ne _ _ (by omega)]; exact od
    have x3 : st S7 p P9 (d + 8) = S1 (d + 8) := by rw [st_ne _ _ (by omega)]; exact od8
    have ta := x3_takeAll (fu := fu) (S := st S7 p P9) (a := p + 9) (g := d + 8) (by omega)
    rw [x1, x3] at ta
    generalize hH : tkA (S (p + 9)) (S1 (d + 8)) = H at *
    have cH : CHL H (q, lk0) := by rw [← hH]; exact CHL_tkA hCH a3 q8
    have y1 : st (st S7 p P9) (p + 9) H p = P9 := by rw [st_ne _ _ (by omega), st_same]
    have y2 : st (st S7 p P9) (p + 9) H ln = S ln := by rw [st_ne _ _ (by omega), st_ne _ _ (by omega)]; exact ol
    have y3 : ∀ L : GV, st (st (st S7 p P9) (p + 9) H) ln L p = P9 := fun L => by rw [st_ne _ _ (by omega)]; exact y1
    have cls : f_X12_gallery fu g0 S p n = some (nI 0, st (st (st (st S7 p P9) (p + 9) H) ln (sI (S ln) 4 (nI 0))) p (sI (sI P9 17 (nI 0)) 18 (nI 0))) := by
      simp only [f_X12_gallery, f_X12_startAnew, f_X12_startAnew_0, ↓lm_1, ↓lm_2, ↓lm_3, ↓lm_4, ↓lm_5, ↓lm_6, ↓lm_7, ↓lm_8, ↓lm_9, ↓lm_10, ↓lm_11, li_0, li_1, li_2, li_3, li_4, li_5, li_6, li_7, li_8, li_9, li_10, li_11, li_12, li_13, li_14, li_15, li_16, li_17, li_18, li_19, li_20, li_21, li_22, li_23, li_24, li_25, li_26, li_27, li_28, li_29, li_30, li_31, li_32, li_33, li_34, li_35, li_36, li_37, li_38, li_39, li_40, li_41, li_42, li_43, li_44, li_45, li_46, li_47, li_48, li_49, li_50, li_51, li_52, li_53, li_54, li_55, li_56, li_57, li_58, li_59, li_60, li_61, li_62, li_63, li_64, li_65, li_66, li_96, li_97, li_99, li_100, li_122, li_125, li_126, li_140, li_255, li_256, li_999, li_1000, li_1001, li_1002, li_1100, li_1386, li_1452, li_1518, li_9999, li_1000000, g1, decide_true, ck_t, r2, bd_s, b2, e1, bd2_s, nm_eq, ↓reduceIte, o0, a1, r1, st_same, st_st, hP9, x1, a3, gP12, x2, cd1, x3, cd8, ta, y1, gP14, y2, b5, y3]
    generalize hFF : st (st (st (st S7 p P9) (p + 9) H) ln (sI (S ln) 4 (nI 0))) p (sI (sI P9 17 (nI 0)) 18 (nI 0)) = F at *
    have Fp : F p = sI (sI P9 17 (nI 0)) 18 (nI 0) := by rw [← hFF, st_same]
    have F9 : F (p + 9) = H := by rw [← hFF, st_ne _ _ (by omega), st_ne _ _ (by omega), st_same]
    have Fl : F ln = sI (S ln) 4 (nI 0) := by rw [← hFF, st_ne _ _ (by omega), st_same]
    have Fo : ∀ b, b ≠ p → b ≠ p + 9 → b ≠ ln → F b = S7 b := fun b q1 q2 q3 => by rw [← hFF, st_ne _ _ q1, st_ne _ _ q3, st_ne _ _ q2, st_ne _ _ q1]
    have Fd : F d = S1 d := by rw [Fo _ (by omega) (by omega) (by omega)]; exact od
    have Fd8 : F (d + 8) = S1 (d + 8) := by rw [Fo _ (by omega) (by omega) (by omega)]; exact od8
    have Fs : ∀ b, b < p + 224 → b ≠ p → b ≠ p + 9 → b ≠ ln → b ≠ p + 1 → b ≠ p + 7 → b ≠ d → b ≠ d + 8 → F b = S b := fun b q0 q1 q2 q3 q4 q5 q6 q7 => by rw [Fo b q1 q2 q3]; exact o b q0 q4 q5 q6 q7
    have Fn : ∀ b, n ≤ b → b < n + 3 * j → F b = S1 b := fun b q1 _ => by rw [Fo b (by omega) (by omega) (by omega)]; exact S7o b (by omega)
    have F7 : F (p + 7) = S1 (p + 7) := by rw [Fo _ (by omega) (by omega) (by omega)]; exact S7o _ (by omega)
    refine ⟨nI 0, F, w', cls, by rw [e2, d1], mkA G (q, lk0) (0, (aP A).2) (0, (aM A).2) q (0, (aL A).2) (0, (aT A).2) N, ?_, ?_, ?_⟩
    · refine ⟨hG, ⟨hB.1, Nat.zero_le _, fun i hi => absurd hi (Nat.not_lt_zero _)⟩, ⟨Nat.zero_le _, fun i hi => absurd hi (Nat.not_lt_zero _)⟩, ⟨by show (0 : Nat) < 16; omega, fun m _ hb => ?_⟩, hB, ⟨Nat.zero_le _, fun i hi => absurd hi (Nat.not_lt_zero _)⟩, ⟨Nat.zero_le _, fun i hi => absurd hi (Nat.not_lt_zero _)⟩⟩
      have hb : bt 0 m = 1 := hb
      unfold bt at hb; rw [Nat.zero_div] at hb; omega
    · refine ⟨d, t, ln, dl, f, ⟨⟨by rw [Fp]; exact gPC, ?_, by rw [F9]; exact cH.1.1, ?_, ?_, ?_, ?_, ?_⟩, ⟨by rw [Fd]; exact cd1, ?_, by rw [Fd8]; exact cd8, ?_, by rw [Fl]; exact b5, ?_⟩, fun i hi => ⟨?_, ?_⟩, fun i hi => ⟨?_, ?_⟩, ⟨by rw [Fp]; exact gP12, by rw [Fp]; exact gP13, by rw [Fp]; exact gP14, by rw [Fp]; exact gP15⟩, by omega, ll, ?_, ?_, by rw [F7]; exact h7.1, by rw [F7]; exact h7.2⟩, by rw [F9]; exact cH, ?_, by rw [Fd]; exact hCN, by rw [Fd8]; exact hCH, ⟨?_, hK.2.2.2.2.1.2.1, ?_, fun i hi => absurd hi (Nat.not_lt_zero _)⟩, ⟨?_, fun m _ hb => ?_⟩, ⟨?_, fun i hi => absurd hi (Nat.not_lt_zero _)⟩, ⟨?_, fun i hi => absurd hi (Nat.not_lt_zero _)⟩⟩
      · rw [Fo _ (by omega) (by omega) (by omega), S7a]; exact gw
      · rw [Fs _ (by omega) (by omega) (by omega) (by omega) (by omega) (by omega) (by omega) (by omega)]; exact a4
      · rw [Fs _ (by omega) (by omega) (by omega) (by omega) (by omega) (by omega) (by omega) (by omega)]; exact a5
      · rw [Fs _ (by omega) (by omega) (by omega) (by omega) (by omega) (by omega) (by omega) (by omega)]; exact a6
      · rw [Fs _ (by omega) (by omega) (by omega) (by omega) (by omega) (by omega) (by omega) (by omega)]; exact a7
      · rw [Fs _ (by omega) (by omega) (by omega) (by omega) (by omega) (by omega) (by omega) (by omega)]; exact a8
      · rw [Fs _ (by omega) (by omega) (by omega) (by omega) (by omega) (by omega) (by omega) (by omega)]; exact b1
      · rw [Fs _ (by omega) (by omega) (by omega) (by omega) (by omega) (by omega) (by omega) (by omega)]; exact b3
      · rw [Fs _ (by omega) (by omega) (by omega) (by omega) (by omega) (by omega) (by omega) (by omega)]; exact b6
      · rw [Fs _ (by omega) (by omega) (by omega) (by omega) (by omega) (by omega) (by omega) (by omega)]; exact (c i hi).1
      · rw [Fp]; show gQ P9 4 i = _; rw [gPQ]; exact (c i hi).2
      · rw [Fs _ (by omega) (by omega) (by omega) (by omega) (by omega) (by omega) (by omega) (by omega)]; exact (m i hi).1
      · rw [Fp]; show gQ P9 5 i = _; rw [gPQ]; exact (m i hi).2
      · rw [Fs _ (by omega) (by omega) (by omega) (by omega) (by omega) (by omega) (by omega) (by omega)]; exact g1
      · rw [Fs _ (by omega) (by omega) (by omega) (by omega) (by omega) (by omega) (by omega) (by omega)]; exact g2
      · show CG F d G
        rw [CG, Fd]
        obtain ⟨z1, z2, z3, z4, z5⟩ := hCG
        exact ⟨cd1, z1, z2, z3, z4, z5, DL_CL hL1 Fn, DL_CL hL2 Fn⟩
      · rw [Fp, gI_sI, if_neg (by decide), gI_sI, if_neg (by decide), gPI]; exact hK.2.2.2.2.1.1
      · rw [Fp, gI_sI, if_neg (by decide), gI_sI, if_pos rfl]; rfl
      · rw [Fp, gI_sI, if_pos rfl]; rfl
      · have hb : bt 0 m = 1 := hb
        unfold bt at hb; rw [Nat.zero_div] at hb; omega
      · rw [Fl, gI_sI, if_pos rfl]; rfl
      · rw [Fo _ (by omega) (by omega) (by omega), S7a, gI_sI, if_pos rfl]; rfl
    · obtain ⟨z0, _, _, _, _, _, _, _, _, z9, z10⟩ := hM
      refine ⟨d2.trans (hGM.2.2.2.2.2.2.trans z0), d3, d4, ⟨d5, fun i hi => absurd hi (Nat.not_lt_zero _)⟩, fun m hm => ⟨?_, fun hb => ?_⟩, d7, ⟨d8, fun i hi => absurd hi (Nat.not_lt_zero _)⟩, ⟨d9.trans hGM.2.2.2.2.1, fun i hi => absurd hi (Nat.not_lt_zero _)⟩, d10, fun i hi => by rw [d11 i, hGM.2.2.2.2.2.1 9 (by decide) (by decide)]; exact z9 i hi, fun i hi => by rw [d12, hGM.1 32 (by decide) (by decide) (by decide) (by decide) (by decide) (by decide)]; exact z10 i hi⟩
      · rw [d6 m hm]
        show nI 0 = nI (bt 0 m)
        unfold bt; rw [Nat.zero_div]
      · have hb : bt 0 m = 1 := hb
        unfold bt at hb; rw [Nat.zero_div] at hb; omega
  · have f0 : ¬ nI fl = nI 0 := by have := ok.2; rw [nI_eq (by omega) (by omega)]; exact c0
    have f1 : ¬ nI fl ≤ nI 0 := by have := ok.2; exact nI_ge (by omega) (by omega)
    refine ⟨nI fl, S7, mw v1 a fl, ?_, ?_, mkA (aG A) (aQ A) (aP A) (aM A) (aB A) (aL A) (0, (aT A).2) (aN A), ?_, ?_, RM_gf hA hM (GMc_mw hGM)⟩
    · simp only [f_X12_gallery, ↓lm_1, ↓lm_2, ↓lm_3, ↓lm_4, ↓lm_5, ↓lm_6, ↓lm_7, ↓lm_8, ↓lm_9, ↓lm_10, ↓lm_11, li_0, li_1, li_2, li_3, li_4, li_5, li_6, li_7, li_8, li_9, li_10, li_11, li_12, li_13, li_14, li_15, li_16, li_17, li_18, li_19, li_20, li_21, li_22, li_23, li_24, li_25, li_26, li_27, li_28, li_29, li_30, li_31, li_32, li_33, li_34, li_35, li_36, li_37, li_38, li_39, li_40, li_41, li_42, li_43, li_44, li_45, li_46, li_47, li_48, li_49, li_50, li_51, li_52, li_53, li_54, li_55, li_56, li_57, li_58, li_59, li_60, li_61, li_62, li_63, li_64, li_65, li_66, li_96, li_97, li_99, li_100, li_122, li_125, li_126, li_140, li_255, li_256, li_999, li_1000, li_1001, li_1002, li_1100, li_1386, li_1452, li_1518, li_9999, li_1000000, g1, decide_true, ck_t, r2, bd_s, b2, e1, bd2_s, nm_eq, f0, ↓reduceIte]
    · rw [e2]
      simp only [f_X13_gallery_57, ↓lm_1, ↓lm_2, ↓lm_3, ↓lm_4, ↓lm_5, ↓lm_6, ↓lm_7, ↓lm_8, ↓lm_9, ↓lm_10, ↓lm_11, li_0, li_1, li_2, li_3, li_4, li_5, li_6, li_7, li_8, li_9, li_10, li_11, li_12, li_13, li_14, li_15, li_16, li_17, li_18, li_19, li_20, li_21, li_22, li_23, li_24, li_25, li_26, li_27, li_28, li_29, li_30, li_31, li_32, li_33, li_34, li_35, li_36, li_37, li_38, li_39, li_40, li_41, li_42, li_43, li_44, li_45, li_46, li_47, li_48, li_49, li_50, li_51, li_52, li_53, li_54, li_55, li_56, li_57, li_58, li_59, li_60, li_61, li_62, li_63, li_64, li_65, li_66, li_96, li_97, li_99, li_100, li_122, li_125, li_126, li_140, li_255, li_256, li_999, li_1000, li_1001, li_1002, li_1100, li_1386, li_1452, li_1518, li_9999, li_1000000, mw_g8, f1, ↓reduceIte]
    · obtain ⟨o1, o2, o3, o5, o7, o8, o9⟩ := hA
      exact ⟨o1, o2, o3, o5, o7, o8, ⟨Nat.zero_le _, fun i hi => absurd hi (Nat.not_lt_zero _)⟩⟩
    · refine RC_gf hP hK hn hfr S7n (by rw [S7a]; exact gw) ?_ ?_ ?_ (by rw [S7a, gI_sI, if_pos rfl])
      · rw [S7o _ (by omega)]; exact h7
      · rw [S7o _ (by omega)]; exact cd1
      · rw [S7o _ (by omega)]; exact cd8
