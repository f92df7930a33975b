/-! ===== gallery: all lines ===== -/
theorem bd_line {X : Option GV} {T : GV → Option GV} {z : GV} {β : Type} (h : (bd X fun v6 => T v6) = some z) (km : GV → Option β) : (bd (bd X fun x => some x) fun v6 => bd (T v6) fun v8 => km v8) = km z := by
  cases X with
  | none => cases h
  | some x =>
    rw [bd_s] at h
    rw [bd_s, bd_s, h, bd_s]
theorem GF_0 {p d n : Nat} {S S' : ST} (h : GF0 p d S S') : GF p d n S S' := fun b _ h1 _ h3 h4 => h b h1 h3 h4
theorem GF_refl (p d n : Nat) (S : ST) : GF p d n S S := fun _ _ _ _ _ _ => rfl
theorem GF_trans {p d n : Nat} {S S' T : ST} (h : GF p d n S S') (k : GF p d n S' T) : GF p d n S T := fun b h0 h1 h2 h3 h4 => (k b h0 h1 h2 h3 h4).trans (h b h0 h1 h2 h3 h4)
section T
variable {fu p d n a fl j i : Nat} {g0 : GG} {K : KT} {w v : GV} {S : ST}
theorem lwr_t (h : j = 0 ∨ gC (S (n + 3 * j - 3)) = 4) : lwr S n j = true := by
  simp only [lwr, Bool.or_eq_true, decide_eq_true_eq]; exact h
theorem j_gclose (hd : d = p + 43 ∨ d = p + 58) (hn : p + 223 < n) (gw : gC w = 8) (hI : DI K w p d n S v a fl j) : f_X2_read_146 fu n S (p + 6) j = some (nI fl, st S (p + 1) (sI (tw w a fl) 6 (nI 0)), j) := by
  obtain ⟨ok, s1, ⟨c6, r6⟩, _, cd1, cd8, hv, h9, hl, j3⟩ := hI
  have gc8 : gC (tw w a fl) = 8 := gw
  have g7 : gI (sI (tw w a fl) 6 (nI 0)) 7 = nI fl := by rw [gI_sI, if_neg (by decide), tw_g7]
  have lw' : lwr (st S (p + 1) (sI (tw w a fl) 6 (nI 0))) n j = true := by
    apply lwr_t
    rcases hl with e | e
    · exact Or.inl e
    · by_cases j0 : j = 0
      · exact Or.inl j0
      · exact Or.inr (by rw [st_ne _ _ (by omega)]; exact e)
  simp only [f_X2_read_146, f_X8_close, f_X8_close_0, ↓lm_1, ↓lm_2, ↓lm_3, ↓lm_4, ↓lm_5, ↓lm_6, ↓lm_7, ↓lm_8, ↓lm_9, ↓lm_10, ↓lm_11, li_0, li_1, li_2, li_3, li_4, li_5, li_6, li_7, li_8, li_9, li_10, li_11, li_12, li_13, li_14, li_15, li_16, li_17, li_18, li_19, li_20, li_21, li_22, li_23, li_24, li_25, li_26, li_27, li_28, li_29, li_30, li_31, li_32, li_33, li_34, li_35, li_36, li_37, li_38, li_39, li_40, li_41, li_42, li_43, li_44, li_45, li_46, li_47, li_48, li_49, li_50, li_51, li_52, li_53, li_54, li_55, li_56, li_57, li_58, li_59, li_60, li_61, li_62, li_63, li_64, li_65, li_66, li_96, li_97, li_99, li_100, li_122, li_125, li_126, li_140, li_255, li_256, li_999, li_1000, li_1001, li_1002, li_1100, li_1386, li_1452, li_1518, li_9999, li_1000000, c6, decide_true, ck_t, j3, r6, bd_s, s1, gc8, nm_eq, g7, bd2_s, lw']
theorem j_gstop (hK : okK K) (hw : CB w K) (gw : gC w = 8) (hd : d = p + 43 ∨ d = p + 58) (hn : p + 223 < n) (hI : DI K w p d n S v a fl j) (h : fl ≠ 0 ∨ kK K a = 0) {n1 n2 : Nat} (h1 : 0 < n1) (h2 : 0 < n2) (x : Int32) : f_X2_read_13 fu g0 n (p + 6) d n1 x S j = some (nI fl, st S (p + 1) (sI (tw w a fl) 6 (nI 0)), j) ∧ f_X13_gallery_25 fu n2 (mw v a fl) = f_X13_gallery_57 fu (mw v a fl) := by
  have cl := j_gclose (fu := fu) hd hn gw hI
  obtain ⟨ok, s1, ⟨c6, r6⟩, _, cd1, cd8, hv, h9, hl, j3⟩ := hI
  obtain ⟨n1, rfl⟩ : ∃ k, n1 = k + 1 := ⟨n1 - 1, by omega⟩
  obtain ⟨n2, rfl⟩ : ∃ k, n2 = k + 1 := ⟨n2 - 1, by omega⟩
  have gc8 : gC (tw w a fl) = 8 := gw
  have go := x8_goesOn (fu := fu) hK hw ok
  rw [decide_eq_false (fun q => by rcases h with h | h; exact h q.1; exact q.2 h)] at go
  constructor
  · simp only [f_X2_read_13, lq3_s, f_X2_read_13s, ↓lm_1, ↓lm_2, ↓lm_3, ↓lm_4, ↓lm_5, ↓lm_6, ↓lm_7, ↓lm_8, ↓lm_9, ↓lm_10, ↓lm_11, li_0, li_1, li_2, li_3, li_4, li_5, li_6, li_7, li_8, li_9, li_10, li_11, li_12, li_13, li_14, li_15, li_16, li_17, li_18, li_19, li_20, li_21, li_22, li_23, li_24, li_25, li_26, li_27, li_28, li_29, li_30, li_31, li_32, li_33, li_34, li_35, li_36, li_37, li_38, li_39, li_40, li_41, li_42, li_43, li_44, li_45, li_46, li_47, li_48, li_49, li_50, li_51, li_52, li_53, li_54, li_55, li_56, li_57, li_58, li_59, li_60, li_61, li_62, li_63, li_64, li_65, li_66, li_96, li_97, li_99, li_100, li_122, li_125, li_126, li_140, li_255, li_256, li_999, li_1000, li_1001, li_1002, li_1100, li_1386, li_1452, li_1518, li_9999, li_1000000, c6, cd1, decide_true, ck_t, j3, r6, bd_s, s1, gc8, go, b01_f, ↓reduceIte, ite_self, cl]
  · by_cases c0 : fl = 0
    · subst c0
      have k0 : kK K a = 0 := by rcases h with h | h; exact absurd rfl h; exact h
      have t4 := (hv a ok.1).1
      have hN := hK.1
      have h1 := ok.1
      simp (disch := omega) only [f_X13_gallery_25, lq1_s, f_X13_gallery_25s, ↓lm_1, ↓lm_2, ↓lm_3, ↓lm_4, ↓lm_5, ↓lm_6, ↓lm_7, ↓lm_8, ↓lm_9, ↓lm_10, ↓lm_11, li_0, li_1, li_2, li_3, li_4, li_5, li_6, li_7, li_8, li_9, li_10, li_11, li_12, li_13, li_14, li_15, li_16, li_17, li_18, li_19, li_20, li_21, li_22, li_23, li_24, li_25, li_26, li_27, li_28, li_29, li_30, li_31, li_32, li_33, li_34, li_35, li_36, li_37, li_38, li_39, li_40, li_41, li_42, li_43, li_44, li_45, li_46, li_47, li_48, li_49, li_50, li_51, li_52, li_53, li_54, li_55, li_56, li_57, li_58, li_59, li_60, li_61, li_62, li_63, li_64, li_65, li_66, li_96, li_97, li_99, li_100, li_122, li_125, li_126, li_140, li_255, li_256, li_999, li_1000, li_1001, li_1002, li_1100, li_1386, li_1452, li_1518, li_9999, li_1000000, mw_g8, ↓reduceIte, mw_g7, ↓nm_eq, inb_n, ck_t, nI_clamp, mw_A, t4, k0]
    · have f0 : ¬ nI fl = nI 0 := by have := ok.2; rw [nI_eq (by omega) (by omega)]; exact c0
      simp only [f_X13_gallery_25, lq1_s, f_X13_gallery_25s, ↓lm_1, ↓lm_2, ↓lm_3, ↓lm_4, ↓lm_5, ↓lm_6, ↓lm_7, ↓lm_8, ↓lm_9, ↓lm_10, ↓lm_11, li_0, li_1, li_2, li_3, li_4, li_5, li_6, li_7, li_8, li_9, li_10, li_11, li_12, li_13, li_14, li_15, li_16, li_17, li_18, li_19, li_20, li_21, li_22, li_23, li_24, li_25, li_26, li_27, li_28, li_29, li_30, li_31, li_32, li_33, li_34, li_35, li_36, li_37, li_38, li_39, li_40, li_41, li_42, li_43, li_44, li_45, li_46, li_47, li_48, li_49, li_50, li_51, li_52, li_53, li_54, li_55, li_56, li_57, li_58, li_59, li_60, li_61, li_62, li_63, li_64, li_65, li_66, li_96, li_97, li_99, li_100, li_122, li_125, li_126, li_140, li_255, li_256, li_999, li_1000, li_1001, li_1002, li_1100, li_1386, li_1452, li_1518, li_9999, li_1000000, mw_g8, f0, ↓reduceIte]
theorem j_gline (hf : 1101 ≤ fu) (hK : okK K) (hw : CB w K) (gw : gC w = 8) (hd : d = p + 43 ∨ d = p + 58) (hn : p + 223 < n) (hi : i < 1000) (hk : kK K a ≠ 0) (hI : DI K w p d n S v a 0 j) (hR : DR d n j a S v) : ∃ S1 v1 a1 fl1 j1, (∀ k, f_X2_read_13s fu g0 n (p + 6) d k (nI i) S j = k (nI (i + 1)) S1 j1) ∧ (∀ km, f_X13_gallery_25s fu km (mw v a 0) = km (mw v1 a1 fl1)) ∧ DI K w p d n S1 v1 a1 fl1 j1 ∧ GF p d n S S1 ∧ GM v v1 ∧ (fl1 = 0 → a < a1 ∧ DR d n j1 a1 S1 v1) := by
  have j2 := DR_j hR
  obtain ⟨ok, s1, ⟨c6, r6⟩, h5, cd1, cd8, hv, h9, hl, j3⟩ := id hI
  have hN := hK.1
  have h1 := ok.1
  have t4 := (hv a h1).1
  have kk := (hK.2.2 a h1).1.1
  have gc8 : gC (tw w a 0) = 8 := gw
  have li : ¬ nI 1000 ≤ nI i := nI_ge hi (by omega)
  have go := x8_goesOn (fu := fu) hK hw ok
  rw [decide_eq_true (show (0 : Nat) = 0 ∧ kK K a ≠ 0 from ⟨rfl, hk⟩)] at go
  have wd := x8_wordAt (fu := fu) hf hK hw ok
  have t30 : tI K a 0 < 30 := tI_lt
  have k0 : ¬ nI (kK K a) = nI 0 := by rw [nI_eq (by omega) (by omega)]; exact hk
  have lwj := lwr_t (S := S) (n := n) (j := j) hl
  have li' : ¬ (1000 : Int32) ≤ nI i := by rw [li_1000]; exact li
  have n10' : ¬ nI 1 = (0 : Int32) := by decide
  have ad : nI i + (1 : Int32) = nI (i + 1) := by rw [li_1, nI_add]
  have j3' : j < 3 := by omega
  -- the model's line
  have iw : ∀ x, x < 29 → f_X13_isWord fu (mw v a 0) (nI x) = some (b01 (decide (tI K a 0 = x + 1))) := fun x hx => m_isWord (fu := fu) hK hv h9 ok hx
  have i0 := iw 0 (by omega)
  have i1 := iw 1 (by omega)
  have i5 := iw 5 (by omega)
  have i9 := iw 9 (by omega)
  simp only [Nat.reduceAdd] at i0 i1 i5 i9
  have md : ∀ (km : GV → Option (Int32 × GV)), f_X13_gallery_25s fu km (mw v a 0) = (bd (f_X13_readLine fu (mw v a 0)) fun v6 => bd (f_X13_takeSign fu v6 (nI 59)) fun v8 => km v8) := by
    intro km
    simp (disch := omega) only [f_X13_gallery_25s, ↓lm_1, ↓lm_2, ↓lm_3, ↓lm_4, ↓lm_5, ↓lm_6, ↓lm_7, ↓lm_8, ↓lm_9, ↓lm_10, ↓lm_11, li_0, li_1, li_2, li_3, li_4, li_5, li_6, li_7, li_8, li_9, li_10, li_11, li_12, li_13, li_14, li_15, li_16, li_17, li_18, li_19, li_20, li_21, li_22, li_23, li_24, li_25, li_26, li_27, li_28, li_29, li_30, li_31, li_32, li_33, li_34, li_35, li_36, li_37, li_38, li_39, li_40, li_41, li_42, li_43, li_44, li_45, li_46, li_47, li_48, li_49, li_50, li_51, li_52, li_53, li_54, li_55, li_56, li_57, li_58, li_59, li_60, li_61, li_62, li_63, li_64, li_65, li_66, li_96, li_97, li_99, li_100, li_122, li_125, li_126, li_140, li_255, li_256, li_999, li_1000, li_1001, li_1002, li_1100, li_1386, li_1452, li_1518, li_9999, li_1000000, mw_g8, ↓reduceIte, mw_g7, ↓nm_eq, inb_n, ck_t, nI_clamp, mw_A, t4, k0]
  have dist : ∀ x y, tI K a 0 = x → x ≠ y → decide (tI K a 0 = y) = false := fun x y h1 h2 => decide_eq_false (by omega)
  by_cases q1 : tI K a 0 = 1
  · obtain ⟨S', v', a', fl', e1, e2, e3, e4, e5, e6⟩ := l_spot (fu := fu) hf hK hw gw hd hn hI hk hR
    refine ⟨S', v', a', fl', j, fun k => ?_, fun km => ?_, e3, GF_0 e4, e5, e6⟩
    · rw [q1] at wd
      have sm : smp.getD (nI 1).toNatClampNeg 0 = (1 : Int32) := by decide
      have ib : inb (nI 1) 30 = true := by decide
      simp only [f_X2_read_13s, c6, cd1, decide_true, ck_t, j3, li', ↓reduceIte, r6, bd_s, s1, gc8, go, b01_t, n10', wd, Nat.le_refl, Nat.reduceLeDiff, and_self, Nat.reduceLT, ib, ↓nm_eq, sm, e1, ad]
    · rw [md, decide_eq_true q1] at *
      have := bd_line e2 km
      simpa only [f_X13_readLine, f_X13_readLine_0, ↓lm_1, ↓lm_2, ↓lm_3, ↓lm_4, ↓lm_5, ↓lm_6, ↓lm_7, ↓lm_8, ↓lm_9, ↓lm_10, ↓lm_11, li_0, li_1, li_2, li_3, li_4, li_5, li_6, li_7, li_8, li_9, li_10, li_11, li_12, li_13, li_14, li_15, li_16, li_17, li_18, li_19, li_20, li_21, li_22, li_23, li_24, li_25, li_26, li_27, li_28, li_29, li_30, li_31, li_32, li_33, li_34, li_35, li_36, li_37, li_38, li_39, li_40, li_41, li_42, li_43, li_44, li_45, li_46, li_47, li_48, li_49, li_50, li_51, li_52, li_53, li_54, li_55, li_56, li_57, li_58, li_59, li_60, li_61, li_62, li_63, li_64, li_65, li_66, li_96, li_97, li_99, li_100, li_122, li_125, li_126, li_140, li_255, li_256, li_999, li_1000, li_1001, li_1002, li_1100, li_1386, li_1452, li_1518, li_9999, li_1000000, i0, bd_s, b01_t, n10, ↓reduceIte] using this
  rw [decide_eq_false q1] at i0
  by_cases q2 : tI K a 0 = 2
  · obtain ⟨S', v', a', fl', e1, e2, e3, e4, e5, e6⟩ := l_thief (fu := fu) hf hK hw gw hd hn hI hk hR
    refine ⟨S', v', a', fl', j, fun k => ?_, fun km => ?_, e3, GF_0 e4, e5, e6⟩
    · rw [q2] at wd
      have sm : smp.getD (nI 2).toNatClampNeg 0 = (2 : Int32) := by decide
      have ib : inb (nI 2) 30 = true := by decide
      have n1 : ¬ (2 : Int32) = 1 := by decide
      simp only [f_X2_read_13s, c6, cd1, decide_true, ck_t, j3, li', ↓reduceIte, r6, bd_s, s1, gc8, go, b01_t, n10', wd, Nat.le_refl, Nat.reduceLeDiff, and_self, Nat.reduceLT, ib, ↓nm_eq, sm, n1, e1, ad]
    · rw [decide_eq_true q2] at i1
      rw [md]
      have := bd_line e2 km
      simpa only [f_X13_readLine, f_X13_readLine_0, ↓lm_1, ↓lm_2, ↓lm_3, ↓lm_4, ↓lm_5, ↓lm_6, ↓lm_7, ↓lm_8, ↓lm_9, ↓lm_10, ↓lm_11, li_0, li_1, li_2, li_3, li_4, li_5, li_6, li_7, li_8, li_9, li_10, li_11, li_12, li_13, li_14, li_15, li_16, li_17, li_18, li_19, li_20, li_21, li_22, li_23, li_24, li_25, li_26, li_27, li_28, li_29, li_30, li_31, li_32, li_33, li_34, li_35, li_36, li_37, li_38, li_39, li_40, li_41, li_42, li_43, li_44, li_45, li_46, li_47, li_48, li_49, li_50, li_51, li_52, li_53, li_54, li_55, li_56, li_57, li_58, li_59, li_60, li_61, li_62, li_63, li_64, li_65, li_66, li_96, li_97, li_99, li_100, li_122, li_125, li_126, li_140, li_255, li_256, li_999, li_1000, li_1001, li_1002, li_1100, li_1386, li_1452, li_1518, li_9999, li_1000000, i0, i1, bd_s, b01_t, b01_f, n10, ↓reduceIte] using this
  rw [decide_eq_false q2] at i1
  by_cases q6 : tI K a 0 = 6
  · obtain ⟨S', v', a', fl', e1, e2, e3, e4, e5, e6⟩ := l_copy (fu := fu) hf hK hw gw hd hn hI hk hR
    refine ⟨S', v', a', fl', j, fun k => ?_, fun km => ?_, e3, GF_0 e4, e5, e6⟩
    · rw [q6] at wd
      have sm : smp.getD (nI 6).toNatClampNeg 0 = (3 : Int32) := by decide
      have ib : inb (nI 6) 30 = true := by decide
      have n1 : ¬ (3 : Int32) = 1 := by decide
      have n2 : ¬ (3 : Int32) = 2 := by decide
      simp only [f_X2_read_13s, c6, cd1, decide_true, ck_t, j3, li', ↓reduceIte, r6, bd_s, s1, gc8, go, b01_t, n10', wd, Nat.le_refl, Nat.reduceLeDiff, and_self, Nat.reduceLT, ib, ↓nm_eq, sm, n1, n2, e1, ad]
    · rw [decide_eq_true q6] at i5
      rw [md]
      have := bd_line e2 km
      simpa only [f_X13_readLine, f_X13_readLine_0, ↓lm_1, ↓lm_2, ↓lm_3, ↓lm_4, ↓lm_5, ↓lm_6, ↓lm_7, ↓lm_8, ↓lm_9, ↓lm_10, ↓lm_11, li_0, li_1, li_2, li_3, li_4, li_5, li_6, li_7, li_8, li_9, li_10, li_11, li_12, li_13, li_14, li_15, li_16, li_17, li_18, li_19, li_20, li_21, li_22, li_23, li_24, li_25, li_26, li_27, li_28, li_29, li_30, li_31, li_32, li_33, li_34, li_35, li_36, li_37, li_38, li_39, li_40, li_41, li_42, li_43, li_44, li_45, li_46, li_47, li_48, li_49, li_50, li_51, li_52, li_53, li_54, li_55, li_56, li_57, li_58, li_59, li_60, li_61, li_62, li_63, li_64, li_65, li_66, li_96, li_97, li_99, li_100, li_122, li_125, li_126, li_140, li_255, li_256, li_999, li_1000, li_1001, li_1002, li_1100, li_1386, li_1452, li_1518, li_9999, li_1000000, i0, i1, i5, bd_s, b01_t, b01_f, n10, ↓reduceIte] using this
  rw [decide_eq_false q6] at i5
  by_cases q10 : tI K a 0 = 10
  · obtain ⟨S', v', a', fl', e1, e2, e3, e4, e5, e6⟩ := l_expert (fu := fu) hf hK hw gw hd hn hI hk hR
    refine ⟨S', v', a', fl', j, fun k => ?_, fun km => ?_, e3, GF_0 e4, e5, e6⟩
    · rw [q10] at wd
      have sm : smp.getD (nI 10).toNatClampNeg 0 = (4 : Int32) := by decide
      have ib : inb (nI 10) 30 = true := by decide
      have n1 : ¬ (4 : Int32) = 1 := by decide
      have n2 : ¬ (4 : Int32) = 2 := by decide
      have n3 : ¬ (4 : Int32) = 3 := by decide
      simp only [f_X2_read_13s, c6, cd1, decide_true, ck_t, j3, li', ↓reduceIte, r6, bd_s, s1, gc8, go, b01_t, n10', wd, Nat.le_refl, Nat.reduceLeDiff, and_self, Nat.reduceLT, ib, ↓nm_eq, sm, n1, n2, n3, e1, ad]
    · rw [decide_eq_true q10] at i9
      rw [md]
      have := bd_line e2 km
      simpa only [f_X13_readLine, f_X13_readLine_0, ↓lm_1, ↓lm_2, ↓lm_3, ↓lm_4, ↓lm_5, ↓lm_6, ↓lm_7, ↓lm_8, ↓lm_9, ↓lm_10, ↓lm_11, li_0, li_1, li_2, li_3, li_4, li_5, li_6, li_7, li_8, li_9, li_10, li_11, li_12, li_13, li_14, li_15, li_16, li_17, li_18, li_19, li_20, li_21, li_22, li_23, li_24, li_25, li_26, li_27, li_28, li_29, li_30, li_31, li_32, li_33, li_34, li_35, li_36, li_37, li_38, li_39, li_40, li_41, li_42, li_43, li_44, li_45, li_46, li_47, li_48, li_49, li_50, li_51, li_52, li_53, li_54, li_55, li_56, li_57, li_58, li_59, li_60, li_61, li_62, li_63, li_64, li_65, li_66, li_96, li_97, li_99, li_100, li_122, li_125, li_126, li_140, li_255, li_256, li_999, li_1000, li_1001, li_1002, li_1100, li_1386, li_1452, li_1518, li_9999, li_1000000, i0, i1, i5, i9, bd_s, b01_t, b01_f, n10, ↓reduceIte] using this
  rw [decide_eq_false q10] at i9
  by_cases q12 : tI K a 0 = 12
  · obtain ⟨S', v', a', fl', e1, e2, e3, e4, e5, e6⟩ := l_worth (fu := fu) (g0 := g0) hf hK hw gw hd hn hI q12 hR
    refine ⟨S', v', a', fl', j + 1, fun k => ?_, fun km => ?_, e3, e4, e5, e6⟩
    · rw [q12] at wd
      have sm : smp.getD (nI 12).toNatClampNeg 0 = (5 : Int32) := by decide
      have ib : inb (nI 12) 30 = true := by decide
      have n1 : ¬ (5 : Int32) = 1 := by decide
      have n2 : ¬ (5 : Int32) = 2 := by decide
      have n3 : ¬ (5 : Int32) = 3 := by decide
      have n4 : ¬ (5 : Int32) = 4 := by decide
      simp only [f_X2_read_13s, c6, cd1, decide_true, ck_t, j3, j3', lwj, li', ↓reduceIte, r6, bd_s, s1, gc8, go, b01_t, n10', wd, Nat.le_refl, Nat.reduceLeDiff, and_self, Nat.reduceLT, ib, ↓nm_eq, sm, n1, n2, n3, n4, e1, ad]
    · rw [md]
      have := bd_line e2 km
      simpa only [f_X13_readLine, f_X13_readLine_0, ↓lm_1, ↓lm_2, ↓lm_3, ↓lm_4, ↓lm_5, ↓lm_6, ↓lm_7, ↓lm_8, ↓lm_9, ↓lm_10, ↓lm_11, li_0, li_1, li_2, li_3, li_4, li_5, li_6, li_7, li_8, li_9, li_10, li_11, li_12, li_13, li_14, li_15, li_16, li_17, li_18, li_19, li_20, li_21, li_22, li_23, li_24, li_25, li_26, li_27, li_28, li_29, li_30, li_31, li_32, li_33, li_34, li_35, li_36, li_37, li_38, li_39, li_40, li_41, li_42, li_43, li_44, li_45, li_46, li_47, li_48, li_49, li_50, li_51, li_52, li_53, li_54, li_55, li_56, li_57, li_58, li_59, li_60, li_61, li_62, li_63, li_64, li_65, li_66, li_96, li_97, li_99, li_100, li_122, li_125, li_126, li_140, li_255, li_256, li_999, li_1000, li_1001, li_1002, li_1100, li_1386, li_1452, li_1518, li_9999, li_1000000, i0, i1, i5, i9, bd_s, b01_f, ↓reduceIte] using this
  by_cases q13 : tI K a 0 = 13
  · obtain ⟨S', v', a', fl', e1, e2, e3, e4, e5, e6⟩ := l_hard (fu := fu) (g0 := g0) hf hK hw gw hd hn hI q13 hR
    refine ⟨S', v', a', fl', j + 1, fun k => ?_, fun km => ?_, e3, e4, e5, e6⟩
    · rw [q13] at wd
      have sm : smp.getD (nI 13).toNatClampNeg 0 = (6 : Int32) := by decide
      have ib : inb (nI 13) 30 = true := by decide
      have n1 : ¬ (6 : Int32) = 1 := by decide
      have n2 : ¬ (6 : Int32) = 2 := by decide
      have n3 : ¬ (6 : Int32) = 3 := by decide
      have n4 : ¬ (6 : Int32) = 4 := by decide
      have n5 : ¬ (6 : Int32) = 5 := by decide
      simp only [f_X2_read_13s, c6, cd1, decide_true, ck_t, j3, j3', lwj, li', ↓reduceIte, r6, bd_s, s1, gc8, go, b01_t, n10', wd, Nat.le_refl, Nat.reduceLeDiff, and_self, Nat.reduceLT, ib, ↓nm_eq, sm, n1, n2, n3, n4, n5, e1, ad]
    · rw [md]
      have := bd_line e2 km
      simpa only [f_X13_readLine, f_X13_readLine_0, ↓lm_1, ↓lm_2, ↓lm_3, ↓lm_4, ↓lm_5, ↓lm_6, ↓lm_7, ↓lm_8, ↓lm_9, ↓lm_10, ↓lm_11, li_0, li_1, li_2, li_3, li_4, li_5, li_6, li_7, li_8, li_9, li_10, li_11, li_12, li_13, li_14, li_15, li_16, li_17, li_18, li_19, li_20, li_21, li_22, li_23, li_24, li_25, li_26, li_27, li_28, li_29, li_30, li_31, li_32, li_33, li_34, li_35, li_36, li_37, li_38, li_39, li_40, li_41, li_42, li_43, li_44, li_45, li_46, li_47, li_48, li_49, li_50, li_51, li_52, li_53, li_54, li_55, li_56, li_57, li_58, li_59, li_60, li_61, li_62, li_63, li_64, li_65, li_66, li_96, li_97, li_99, li_100, li_122, li_125, li_126, li_140, li_255, li_256, li_999, li_1000, li_1001, li_1002, li_1100, li_1386, li_1452, li_1518, li_9999, li_1000000, i0, i1, i5, i9, bd_s, b01_f, ↓reduceIte] using this
  -- no line begins so
  have ok1 := okP_flf (x := 1) hK ok (by omega)
  have fp := flf_pos (K := K) (a := a) (fl := 0) (x := 1) (by omega)
  have f1 : ¬ nI (flf K a 0 1) ≤ nI 0 := by have := ok1.2; exact nI_ge (by omega) (by omega)
  refine ⟨st S (p + 1) (tw w a (flf K a 0 1)), v, a, flf K a 0 1, j, fun k => ?_, fun km => ?_, DI_t hd hn hI ok1 (GM_refl v), fun b _ b1 _ _ _ => st_ne _ _ b1, GM_refl v, fun z => absurd z fp⟩
  · have w30 : (if 1 ≤ tI K a 0 ∧ tI K a 0 ≤ 25 then tI K a 0 else 0) < 30 := by split <;> omega
    have smn : ∀ w, w < 30 → w ≠ 1 → w ≠ 2 → w ≠ 6 → w ≠ 10 → w ≠ 12 → w ≠ 13 → (¬ smp.getD w 0 = nI 1) ∧ (¬ smp.getD w 0 = nI 2) ∧ (¬ smp.getD w 0 = nI 3) ∧ (¬ smp.getD w 0 = nI 4) ∧ (¬ smp.getD w 0 = nI 5) ∧ ¬ smp.getD w 0 = nI 6 := by
      intro w hw a1 a2 a3 a4 a5 a6
      have h : (List.range 30).all (fun w => decide (w ≠ 1 → w ≠ 2 → w ≠ 6 → w ≠ 10 → w ≠ 12 → w ≠ 13 → (¬ smp.getD w 0 = nI 1) ∧ (¬ smp.getD w 0 = nI 2) ∧ (¬ smp.getD w 0 = nI 3) ∧ (¬ smp.getD w 0 = nI 4) ∧ (¬ smp.getD w 0 = nI 5) ∧ ¬ smp.getD w 0 = nI 6)) = true := by decide +kernel
      exact co_dec (P := fun w => w ≠ 1 → w ≠ 2 → w ≠ 6 → w ≠ 10 → w ≠ 12 → w ≠ 13 → (¬ smp.getD w 0 = nI 1) ∧ (¬ smp.getD w 0 = nI 2) ∧ (¬ smp.getD w 0 = nI 3) ∧ (¬ smp.getD w 0 = nI 4) ∧ (¬ smp.getD w 0 = nI 5) ∧ ¬ smp.getD w 0 = nI 6) h hw a1 a2 a3 a4 a5 a6
    obtain ⟨u1, u2, u3, u4, u5, u6⟩ := smn (if 1 ≤ tI K a 0 ∧ tI K a 0 ≤ 25 then tI K a 0 else 0) w30 (by split <;> omega) (by split <;> omega) (by split <;> omega) (by split <;> omega) (by split <;> omega) (by split <;> omega)
    generalize (if 1 ≤ tI K a 0 ∧ tI K a 0 ≤ 25 then tI K a 0 else 0) = W at *
    have ib : inb (nI W) 30 = true := inb_n w30 (by omega)
    have wc : (nI W).toNatClampNeg = W := nI_clamp (by omega)
    have fa := x8_fail (fu := fu) hK hw ok 1
    rw [← li_1] at fa
    rw [← li_1] at u1
    rw [← li_2] at u2
    rw [← li_3] at u3
    rw [← li_4] at u4
    rw [← li_5] at u5
    rw [← li_6] at u6
    simp only [f_X2_read_13s, c6, cd1, decide_true, ck_t, j3, li', ↓reduceIte, r6, bd_s, s1, gc8, go, b01_t, n10', wd, w30, ib, wc, ↓nm_eq, u1, u2, u3, u4, u5, u6, fa, ad]
  · have wh := m_wordHere (fu := fu) (b := 11) (m := 2) hf hK hv h9 ok (by omega)
    simp only [Nat.reduceAdd] at wh
    rw [if_neg (by omega)] at wh
    have mt := m_takeSign (fu := fu) (v := v) (c := 59) hK hv ok1 (by omega)
    rw [ndS_f fp] at mt
    have nm1 : ¬ nI 0 ≤ mI 1 := by decide
    rw [md]
    simp only [f_X13_readLine, f_X13_readLine_0, f_X13_readLaw, f_X13_readLaw_0, f_X13_readLaw_37, ↓lm_1, ↓lm_2, ↓lm_3, ↓lm_4, ↓lm_5, ↓lm_6, ↓lm_7, ↓lm_8, ↓lm_9, ↓lm_10, ↓lm_11, li_0, li_1, li_2, li_3, li_4, li_5, li_6, li_7, li_8, li_9, li_10, li_11, li_12, li_13, li_14, li_15, li_16, li_17, li_18, li_19, li_20, li_21, li_22, li_23, li_24, li_25, li_26, li_27, li_28, li_29, li_30, li_31, li_32, li_33, li_34, li_35, li_36, li_37, li_38, li_39, li_40, li_41, li_42, li_43, li_44, li_45, li_46, li_47, li_48, li_49, li_50, li_51, li_52, li_53, li_54, li_55, li_56, li_57, li_58, li_59, li_60, li_61, li_62, li_63, li_64, li_65, li_66, li_96, li_97, li_99, li_100, li_122, li_125, li_126, li_140, li_255, li_256, li_999, li_1000, li_1001, li_1002, li_1100, li_1386, li_1452, li_1518, li_9999, li_1000000, i0, i1, i5, i9, bd_s, b01_f, ↓reduceIte, wh, oI, nm1, m_wrong hK hv ok, mw_g8, f1, mt]
theorem j_glines (hf : 1101 ≤ fu) (hK : okK K) (hw : CB w K) (gw : gC w = 8) (hd : d = p + 43 ∨ d = p + 58) (hn : p + 223 < n) : ∀ r i n1 n2 a fl j (S : ST) (v : GV), a + r = 1001 → r < n1 → r < n2 → (fl = 0 → i ≤ a) → DI K w p d n S v a fl j → (fl = 0 → DR d n j a S v) → ∃ S' v' a' fl' j', f_X2_read_13 fu g0 n (p + 6) d n1 (nI i) S j = some (nI fl', st S' (p + 1) (sI (tw w a' fl') 6 (nI 0)), j') ∧ f_X13_gallery_25 fu n2 (mw v a fl) = f_X13_gallery_57 fu (mw v' a' fl') ∧ DI K w p d n S' v' a' fl' j' ∧ GF p d n S S' ∧ GM v v' ∧ (fl' = 0 → DR d n j' a' S' v') := by
  intro r
  induction r using Nat.strongRecOn with
  | _ r ih =>
    intro i n1 n2 a fl j S v har hn1 hn2 hi hI hR
    by_cases st' : fl ≠ 0 ∨ kK K a = 0
    · obtain ⟨e1, e2⟩ := j_gstop (fu := fu) (g0 := g0) (n1 := n1) (n2 := n2) hK hw gw hd hn hI st' (by omega) (by omega) (nI i)
      exact ⟨S, v, a, fl, j, e1, e2, hI, GF_refl p d n S, GM_refl v, hR⟩
    · have f0 : fl = 0 := Classical.byContradiction fun q => st' (Or.inl q)
      subst f0
      have hk : kK K a ≠ 0 := fun q => st' (Or.inr q)
      have ha := hI.1.1
      have hN := hK.1
      have hlt : a < kN K := by
        rcases Nat.lt_or_ge a (kN K) with q | q
        · exact q
        · have : a = kN K := by omega
          rw [this, hK.2.1] at hk; exact absurd rfl hk
      have hia := hi rfl
      obtain ⟨n1, rfl⟩ : ∃ k, n1 = k + 1 := ⟨n1 - 1, by omega⟩
      obtain ⟨n2, rfl⟩ : ∃ k, n2 = k + 1 := ⟨n2 - 1, by omega⟩
      obtain ⟨S1, v1, a1, fl1, j1, e1, e2, e3, e4, e5, e6⟩ := j_gline (fu := fu) (g0 := g0) (i := i) hf hK hw gw hd hn (by omega) hk hI (hR rfl)
      have a1l := e3.1.1
      rw [f_X2_read_13, lq3_s, f_X13_gallery_25, lq1_s, e1, e2]
      by_cases z : fl1 = 0
      · obtain ⟨z1, z2⟩ := e6 z
        obtain ⟨S2, v2, a2, fl2, j2, d1, d2, d3, d4, d5, d6⟩ := ih (1001 - a1) (by omega) (i + 1) n1 n2 a1 fl1 j1 S1 v1 (by omega) (by omega) (by omega) (fun _ => by omega) e3 (fun _ => z2)
        exact ⟨S2, v2, a2, fl2, j2, d1, d2, d3, GF_trans e4 d4, GM_trans e5 d5, d6⟩
      · obtain ⟨d1, d2⟩ := j_gstop (fu := fu) (g0 := g0) (n1 := n1) (n2 := n2) hK hw gw hd hn e3 (Or.inl z) (by omega) (by omega) (nI (i + 1))
        exact ⟨S1, v1, a1, fl1, j1, d1, d2, e3, e4, e5, fun q => absurd q z⟩
end T
