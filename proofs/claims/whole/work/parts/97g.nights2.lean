/-! ===== nights: all lines, and what becomes of them ===== -/
theorem ndS_0 {K : KT} {a fl c : Nat} (h : (ndS K a fl c).2 = 0) : fl = 0 := by
  unfold ndS at h
  split at h
  · rename_i q; exact (tS_k q).1
  · exact absurd h (flf_pos (by omega))
theorem ndS_f {K : KT} {a fl c : Nat} (h : fl ≠ 0) : ndS K a fl c = (a, fl) := by
  unfold ndS
  rw [if_neg (fun q => h (tS_k q).1), flf, if_neg h]
section L
variable {fu p t dl : Nat} {K : KT} {w : GV} {G : GP} {N : NM}
/-- one line -/
theorem j_rline (hf : 1101 ≤ fu) (hK : okK K) (hw : CB w K) (hG : okG G) {n m a : Nat} {cd ty : Nat → Nat} {v : GV} {S : ST} {f : Nat → Nat × Nat × Nat × Nat} (hv : MB v K) (h9 : WB9 v) (h : okP K a 0) (hk0 : kK K a ≠ 0) (hNT : NT v false n cd ty) (hNR : NR G N n cd ty) (hS : S (p + 1) = tw w a 0) (g8 : gI (S t) 8 = nI (ns G)) (g9 : gI (S t) 9 = nI (nt G)) (hn1 : ∀ i, i < ns G → gL (S t) 0 i = lN (N.1 i) ∧ N.1 i < 1099511627776) (hn2 : ∀ i, i < nt G → gL (S t) 1 i = lN (N.2.1 i) ∧ N.2.1 i < 1099511627776) (htp : t ≠ p + 1) (hdp : dl ≠ p + 1) (htd : t ≠ dl) (hm : m ≤ 30) (h4 : gI (S dl) 4 = nI m) (hC : CLs (S dl) m f) (hM : MLs v m f) (hL : okLs G m f) : ∃ a' fl' m' wd v' f', okP K a' fl' ∧ f_X6_readLine fu S dl (p + 1) t = some (st (st S (p + 1) (tw w a' fl')) dl wd) ∧ gC wd = gC (S dl) ∧ mln v v' ∧ (∀ k11, f_X13_nights_11s fu k11 (nI m) (mw v a 0) = k11 (nI m') (mw v' a' fl')) ∧ (fl' = 0 → m' = m + 1 ∧ m < 30 ∧ gI wd 4 = nI m' ∧ CLs wd m' f' ∧ MLs v' m' f' ∧ okLs G m' f') := by
  have hn := hK.1
  have h1 := h.1
  have hkk := (hK.2.2 a h1).1.1
  have tl := tI_lt (K := K) (a := a) (fl := 0)
  have wa := x8_wordAt (fu := fu) hf hK hw h
  have wh := m_wordHere (fu := fu) (v := v) hf hK hv h9 h (b := 13) (m := 5) (by omega)
  have k0 : ¬ nI (kK K a) = nI 0 := by rw [nI_eq (by omega) (by omega)]; exact hk0
  have t4 := (hv a h1).1
  -- the class's word is the model's
  have vo : ∃ r1, r1 < 30 ∧ f_X8_word fu (tw w a 0) = some r1 ∧ f_X6_verbOf fu r1 = some (oI (if 14 ≤ tI K a 0 ∧ tI K a 0 < 19 then some (tI K a 0 - 14) else none)) := by
    by_cases c : 1 ≤ tI K a 0 ∧ tI K a 0 ≤ 25
    · rw [if_pos c] at wa
      exact ⟨_, tl, wa, x6_verbOf tl⟩
    · rw [if_neg c] at wa
      refine ⟨0, by omega, wa, ?_⟩
      rw [x6_verbOf (by omega), if_neg (by omega), if_neg (by omega)]
  obtain ⟨r1, r30, e1, e2⟩ := vo
  have nocs : ∀ x, 1 ≤ x → x ≤ 5 → ∀ v0 : GV, MB v0 K → f_X13_takeSign fu (mw v0 a (flf K a 0 x)) (nI 59) = some (mw v0 a (flf K a 0 x)) := by
    intro x x1 x5 v0 hv0
    have := m_takeSign (fu := fu) hK hv0 (okP_flf hK h x5) (c := 59) (by omega)
    rwa [ndS_f (flf_pos x1)] at this
  by_cases c : 14 ≤ tI K a 0 ∧ tI K a 0 < 19
  · rw [if_pos c] at e2
    have whc : f_X13_wordHere fu (mw v a 0) (nI 13) (nI 5) = some (nI (tI K a 0 - 14)) := by
      rw [wh, if_pos (by omega)]; rfl
    have nn : nI 0 ≤ nI (tI K a 0 - 14) := nI_le (by omega) (by omega)
    have nm1 : ¬ nI (tI K a 0 - 14) = mI 1 := nI_nem (by omega) (by omega) (by omega)
    by_cases c30 : m = 30
    · subst c30
      have l30 : ¬ nI 30 < nI 30 := by decide
      refine ⟨a, flf K a 0 5, 30, S dl, v, f, okP_flf hK h (by omega), ?_, rfl, mln_refl v, fun k11 => ?_, fun q => absurd q (flf_pos (by omega))⟩
      · simp only [f_X6_readLine, f_X6_readLine_0, ↓lm_1, ↓lm_2, ↓lm_3, ↓lm_4, ↓lm_5, ↓lm_6, ↓lm_7, ↓lm_8, ↓lm_9, ↓lm_10, ↓lm_11, li_0, li_1, li_2, li_3, li_4, li_5, li_6, li_7, li_8, li_9, li_10, li_11, li_12, li_13, li_14, li_15, li_16, li_17, li_18, li_19, li_20, li_21, li_22, li_23, li_24, li_25, li_26, li_27, li_28, li_29, li_30, li_31, li_32, li_33, li_34, li_35, li_36, li_37, li_38, li_39, li_40, li_41, li_42, li_43, li_44, li_45, li_46, li_47, li_48, li_49, li_50, li_51, li_52, li_53, li_54, li_55, li_56, li_57, li_58, li_59, li_60, li_61, li_62, li_63, li_64, li_65, li_66, li_96, li_97, li_99, li_100, li_122, li_125, li_126, li_140, li_255, li_256, li_999, li_1000, li_1001, li_1002, li_1100, li_1386, li_1452, li_1518, li_9999, li_1000000, hS, e1, bd_s, r30, decide_true, ck_t, e2, oI, nm1, ↓reduceIte, h4, l30, x8_fail hK hw h, nm_eq]
        rw [show S dl = st S (p + 1) (tw w a (flf K a 0 5)) dl from (st_ne _ _ hdp).symm, st_self]
      · simp (disch := omega) only [f_X13_nights_11s, f_X13_nights_100, ↓lm_1, ↓lm_2, ↓lm_3, ↓lm_4, ↓lm_5, ↓lm_6, ↓lm_7, ↓lm_8, ↓lm_9, ↓lm_10, ↓lm_11, li_0, li_1, li_2, li_3, li_4, li_5, li_6, li_7, li_8, li_9, li_10, li_11, li_12, li_13, li_14, li_15, li_16, li_17, li_18, li_19, li_20, li_21, li_22, li_23, li_24, li_25, li_26, li_27, li_28, li_29, li_30, li_31, li_32, li_33, li_34, li_35, li_36, li_37, li_38, li_39, li_40, li_41, li_42, li_43, li_44, li_45, li_46, li_47, li_48, li_49, li_50, li_51, li_52, li_53, li_54, li_55, li_56, li_57, li_58, li_59, li_60, li_61, li_62, li_63, li_64, li_65, li_66, li_96, li_97, li_99, li_100, li_122, li_125, li_126, li_140, li_255, li_256, li_999, li_1000, li_1001, li_1002, li_1100, li_1386, li_1452, li_1518, li_9999, li_1000000, mw_g7, mw_g8, mw_A, ↓reduceIte, ↓nm_eq, inb_n, ck_t, nI_clamp, t4, k0, whc, bd_s, nn, m_wrong hK hv h, nocs 5 (by omega) (by omega) v hv]
    · have hm30 : m < 30 := by omega
      have l30 : nI m < nI 30 := nI_lt hm30 (by omega)
      have ne30 : ¬ nI m = nI 30 := by rw [nI_eq (by omega) (by omega)]; exact c30
      have okA := okP_in hK h hk0
      have S1 : ∀ x y : GV, st (st S (p + 1) x) dl y (p + 1) = x := fun x y => by rw [st_ne _ _ (fun q => hdp q.symm), st_same]
      have S2 : ∀ x : GV, st S (p + 1) x dl = S dl := fun x => st_ne _ _ hdp
      have St : ∀ x y : GV, st (st S (p + 1) x) dl y t = S t := fun x y => by rw [st_ne _ _ htd, st_ne _ _ htp]
      have v1k : mln v (sA v 21 (125 + 4 * m) (nI (tI K a 0 - 14))) := mln_sA (by omega)
      obtain ⟨a2, fl2, x1, x2, x3, wd, v2, b1, b2, b3, b4, b5, b5', b6, b7, b8, b9⟩ := j_rest (fu := fu) (p := p) (t := t) (dl := dl) (m := m) (a := a + 1) (fl := 0) (v := sA v 21 (125 + 4 * m) (nI (tI K a 0 - 14))) (S := st (st S (p + 1) (tw w (a + 1) 0)) dl (sA (S dl) 0 m (nI (tI K a 0 - 14)))) (N := N) hf hK hw (MB_mln hv v1k) (WB_mln h9 v1k) okA hG (NT_mln hNT v1k) hNR (S1 _ _) (by rw [St]; exact g8) (by rw [St]; exact g9) (by rw [St]; exact hn1) (by rw [St]; exact hn2) htp hdp htd hm30 (by rw [st_same]; exact h4) (vb := tI K a 0 - 14) (by omega)
      rw [st_same] at b3 b5 b5'
      have cm : ∀ x y z : GV, st (st (st S (p + 1) x) dl y) (p + 1) z = st (st S (p + 1) z) dl y := by
        intro x y z
        rw [st_comm _ _ _ hdp, st_st]
      have okF := okP_ndS hK b1 59
      refine ⟨(ndS K a2 fl2 59).1, (ndS K a2 fl2 59).2, m + 1, sI wd 4 (nI (m + 1)), v2, fun i => if i = m then (tI K a 0 - 14, x1, x2, x3) else f i, okF, ?_, b3, mln_trans v1k b7, fun k11 => ?_, fun q => ?_⟩
      · have sp := x8_step1 (fu := fu) hK hw h
        rw [stp_in rfl hk0] at sp
        have nd := x8_need1 (fu := fu) hK hw b1 (c := 59) (by omega)
        simp (disch := omega) only [f_X6_readLine, f_X6_readLine_0, ↓lm_1, ↓lm_2, ↓lm_3, ↓lm_4, ↓lm_5, ↓lm_6, ↓lm_7, ↓lm_8, ↓lm_9, ↓lm_10, ↓lm_11, li_0, li_1, li_2, li_3, li_4, li_5, li_6, li_7, li_8, li_9, li_10, li_11, li_12, li_13, li_14, li_15, li_16, li_17, li_18, li_19, li_20, li_21, li_22, li_23, li_24, li_25, li_26, li_27, li_28, li_29, li_30, li_31, li_32, li_33, li_34, li_35, li_36, li_37, li_38, li_39, li_40, li_41, li_42, li_43, li_44, li_45, li_46, li_47, li_48, li_49, li_50, li_51, li_52, li_53, li_54, li_55, li_56, li_57, li_58, li_59, li_60, li_61, li_62, li_63, li_64, li_65, li_66, li_96, li_97, li_99, li_100, li_122, li_125, li_126, li_140, li_255, li_256, li_999, li_1000, li_1001, li_1002, li_1100, li_1386, li_1452, li_1518, li_9999, li_1000000, hS, e1, bd_s, r30, decide_true, ck_t, e2, oI, nm1, ↓reduceIte, h4, l30, sp, nm_eq, S2, inb_n, nI_clamp, b2, cm, st_st, S1, nd, st_same, b4, nI_add]
      · have ts := m_takeSign (fu := fu) (v := v2) hK (MB_mln (MB_mln hv v1k) b7) b1 (c := 59) (by omega)
        simp (disch := omega) only [f_X13_nights_11s, f_X13_nights_100, ↓lm_1, ↓lm_2, ↓lm_3, ↓lm_4, ↓lm_5, ↓lm_6, ↓lm_7, ↓lm_8, ↓lm_9, ↓lm_10, ↓lm_11, li_0, li_1, li_2, li_3, li_4, li_5, li_6, li_7, li_8, li_9, li_10, li_11, li_12, li_13, li_14, li_15, li_16, li_17, li_18, li_19, li_20, li_21, li_22, li_23, li_24, li_25, li_26, li_27, li_28, li_29, li_30, li_31, li_32, li_33, li_34, li_35, li_36, li_37, li_38, li_39, li_40, li_41, li_42, li_43, li_44, li_45, li_46, li_47, li_48, li_49, li_50, li_51, li_52, li_53, li_54, li_55, li_56, li_57, li_58, li_59, li_60, li_61, li_62, li_63, li_64, li_65, li_66, li_96, li_97, li_99, li_100, li_122, li_125, li_126, li_140, li_255, li_256, li_999, li_1000, li_1001, li_1002, li_1100, li_1386, li_1452, li_1518, li_9999, li_1000000, mw_g7, mw_g8, mw_A, ↓reduceIte, ↓nm_eq, inb_n, ck_t, nI_clamp, t4, k0, whc, bd_s, nn, ne30, nI_add, mw_7, nI_mulN, mw_sA, b6, ts]
      · have f2 := ndS_0 q
        obtain ⟨_, d1, d2, d3, d4⟩ := b9 f2
        refine ⟨rfl, hm30, by rw [gI_sI, if_pos rfl], fun i hi => ?_, fun i hi => ?_, fun i hi => ?_⟩
        · by_cases e : i = m
          · subst e
            simp only [↓reduceIte, gA_sI]
            refine ⟨?_, fun q => (d1 q).2.2.1, d2, fun q => (d4 q).2.1⟩
            rw [b5', gA_sA, if_pos rfl]
          · simp only [if_neg e, gA_sI]
            obtain ⟨c1, c2, c3, c4⟩ := hC i (by omega)
            rw [b5 0 i e, b5 1 i e, b5 2 i e, b5 3 i e, gA_sA, if_neg e, gA_sAn _ _ _ (by decide), gA_sAn _ _ _ (by decide), gA_sAn _ _ _ (by decide)]
            exact ⟨c1, c2, c3, c4⟩
        · by_cases e : i = m
          · subst e
            simp only [↓reduceIte]
            refine ⟨?_, fun q => ⟨(d1 q).2.2.2.1, (d1 q).2.2.2.2⟩, fun q => (d3 q).2, fun q => (d4 q).2.2⟩
            rw [b8 _ (by omega), gA_sA, if_pos rfl]
          · simp only [if_neg e]
            obtain ⟨c1, c2, c3, c4⟩ := hM i (by omega)
            have hx : ∀ x, x < 125 + 4 * m → gA v2 21 x = gA v 21 x := fun x hx => by rw [b8 x (by omega), gA_sA, if_neg (by omega)]
            rw [hx _ (by omega), hx _ (by omega), hx _ (by omega), hx _ (by omega)]
            exact ⟨c1, c2, c3, c4⟩
        · by_cases e : i = m
          · subst e
            simp only [↓reduceIte]
            exact ⟨by omega, fun q => ⟨(d1 q).1, (d1 q).2.1⟩, fun q => (d4 q).1, fun q => (d3 q).1⟩
          · simp only [if_neg e]; exact hL i (by omega)
  · rw [if_neg c] at e2
    have whc : f_X13_wordHere fu (mw v a 0) (nI 13) (nI 5) = some (mI 1) := by
      rw [wh, if_neg (by omega)]; rfl
    have nn : ¬ nI 0 ≤ mI 1 := by decide
    refine ⟨a, flf K a 0 1, m, S dl, v, f, okP_flf hK h (by omega), ?_, rfl, mln_refl v, fun k11 => ?_, fun q => absurd q (flf_pos (by omega))⟩
    · simp only [f_X6_readLine, f_X6_readLine_0, ↓lm_1, ↓lm_2, ↓lm_3, ↓lm_4, ↓lm_5, ↓lm_6, ↓lm_7, ↓lm_8, ↓lm_9, ↓lm_10, ↓lm_11, li_0, li_1, li_2, li_3, li_4, li_5, li_6, li_7, li_8, li_9, li_10, li_11, li_12, li_13, li_14, li_15, li_16, li_17, li_18, li_19, li_20, li_21, li_22, li_23, li_24, li_25, li_26, li_27, li_28, li_29, li_30, li_31, li_32, li_33, li_34, li_35, li_36, li_37, li_38, li_39, li_40, li_41, li_42, li_43, li_44, li_45, li_46, li_47, li_48, li_49, li_50, li_51, li_52, li_53, li_54, li_55, li_56, li_57, li_58, li_59, li_60, li_61, li_62, li_63, li_64, li_65, li_66, li_96, li_97, li_99, li_100, li_122, li_125, li_126, li_140, li_255, li_256, li_999, li_1000, li_1001, li_1002, li_1100, li_1386, li_1452, li_1518, li_9999, li_1000000, hS, e1, bd_s, r30, decide_true, ck_t, e2, oI, ↓reduceIte, x8_fail hK hw h, nm_eq]
      rw [show S dl = st S (p + 1) (tw w a (flf K a 0 1)) dl from (st_ne _ _ hdp).symm, st_self]
    · simp (disch := omega) only [f_X13_nights_11s, f_X13_nights_100, ↓lm_1, ↓lm_2, ↓lm_3, ↓lm_4, ↓lm_5, ↓lm_6, ↓lm_7, ↓lm_8, ↓lm_9, ↓lm_10, ↓lm_11, li_0, li_1, li_2, li_3, li_4, li_5, li_6, li_7, li_8, li_9, li_10, li_11, li_12, li_13, li_14, li_15, li_16, li_17, li_18, li_19, li_20, li_21, li_22, li_23, li_24, li_25, li_26, li_27, li_28, li_29, li_30, li_31, li_32, li_33, li_34, li_35, li_36, li_37, li_38, li_39, li_40, li_41, li_42, li_43, li_44, li_45, li_46, li_47, li_48, li_49, li_50, li_51, li_52, li_53, li_54, li_55, li_56, li_57, li_58, li_59, li_60, li_61, li_62, li_63, li_64, li_65, li_66, li_96, li_97, li_99, li_100, li_122, li_125, li_126, li_140, li_255, li_256, li_999, li_1000, li_1001, li_1002, li_1100, li_1386, li_1452, li_1518, li_9999, li_1000000, mw_g7, mw_g8, mw_A, ↓reduceIte, ↓nm_eq, inb_n, ck_t, nI_clamp, t4, k0, whc, bd_s, nn, m_wrong hK hv h, nocs 1 (by omega) (by omega) v hv]
/-- all lines -/
theorem j_rlines (hf : 1101 ≤ fu) (hK : okK K) (hw : CB w K) (hG : okG G) {n : Nat} {cd ty : Nat → Nat} (hNR : NR G N n cd ty) (htp : t ≠ p + 1) (hdp : dl ≠ p + 1) (htd : t ≠ dl) : ∀ r m n1 n2 a fl (v : GV) (S : ST) (f : Nat → Nat × Nat × Nat × Nat), m + r = 31 → r + 1 < n1 → r + 1 < n2 → MB v K → WB9 v → okP K a fl → NT v false n cd ty → S (p + 1) = tw w a fl → gI (S t) 8 = nI (ns G) → gI (S t) 9 = nI (nt G) → (∀ i, i < ns G → gL (S t) 0 i = lN (N.1 i) ∧ N.1 i < 1099511627776) → (∀ i, i < nt G → gL (S t) 1 i = lN (N.2.1 i) ∧ N.2.1 i < 1099511627776) → (fl = 0 → m ≤ 30 ∧ gI (S dl) 4 = nI m ∧ CLs (S dl) m f ∧ MLs v m f ∧ okLs G m f) → ∀ line, (fl = 0 → line = nI m) → ∃ a' fl' m' wd v' f', okP K a' fl' ∧ f_X6_read_11 fu n1 dl (p + 1) t line S = f_X6_read_36 fu (st (st S (p + 1) (tw w a' fl')) dl wd) dl (p + 1) t ∧ gC wd = gC (S dl) ∧ mln v v' ∧ (∀ x1, (fl = 0 → x1 = nI m) → (fl ≠ 0 → True) → ∃ x1', (fl' = 0 → x1' = nI m') ∧ f_X13_nights_11 fu n2 x1 (mw v a fl) = f_X13_nights_109 fu (mw v' a' fl') x1') ∧ (fl' = 0 → m' ≤ 30 ∧ gI wd 4 = nI m' ∧ CLs wd m' f' ∧ MLs v' m' f' ∧ okLs G m' f') := by
  intro r
  induction r with
  | zero =>
    intro m n1 n2 a fl v S f hmr hn1 hn2 hv h9 h hNT hS g8 g9 hs1 hs2 h0 line hline
    obtain ⟨n1, rfl⟩ : ∃ k, n1 = k + 1 := ⟨n1 - 1, by omega⟩
    obtain ⟨n2, rfl⟩ : ∃ k, n2 = k + 1 := ⟨n2 - 1, by omega⟩
    have c0 : fl ≠ 0 := fun q => by have := (h0 q).1; omega
    have f0 : ¬ nI fl = nI 0 := by have := h.2; rw [nI_eq (by omega) (by omega)]; exact c0
    have go := x8_goesOn (fu := fu) hK hw h
    rw [decide_eq_false (fun q => c0 q.1)] at go
    refine ⟨a, fl, 0, S dl, v, f, h, ?_, rfl, mln_refl v, fun x1 _ _ => ⟨x1, fun q => absurd q c0, ?_⟩, fun q => absurd q c0⟩
    · rw [show S dl = st S (p + 1) (tw w a fl) dl from (st_ne _ _ hdp).symm, st_self, ← hS, st_self]
      simp only [f_X6_read_11, lq2_s, f_X6_read_11s, ↓lm_1, ↓lm_2, ↓lm_3, ↓lm_4, ↓lm_5, ↓lm_6, ↓lm_7, ↓lm_8, ↓lm_9, ↓lm_10, ↓lm_11, li_0, li_1, li_2, li_3, li_4, li_5, li_6, li_7, li_8, li_9, li_10, li_11, li_12, li_13, li_14, li_15, li_16, li_17, li_18, li_19, li_20, li_21, li_22, li_23, li_24, li_25, li_26, li_27, li_28, li_29, li_30, li_31, li_32, li_33, li_34, li_35, li_36, li_37, li_38, li_39, li_40, li_41, li_42, li_43, li_44, li_45, li_46, li_47, li_48, li_49, li_50, li_51, li_52, li_53, li_54, li_55, li_56, li_57, li_58, li_59, li_60, li_61, li_62, li_63, li_64, li_65, li_66, li_96, li_97, li_99, li_100, li_122, li_125, li_126, li_140, li_255, li_256, li_999, li_1000, li_1001, li_1002, li_1100, li_1386, li_1452, li_1518, li_9999, li_1000000, hS, go, bd_s, b01_f, ↓reduceIte, ite_self]
    · simp only [f_X13_nights_11, lq2_s, f_X13_nights_11s, ↓lm_1, ↓lm_2, ↓lm_3, ↓lm_4, ↓lm_5, ↓lm_6, ↓lm_7, ↓lm_8, ↓lm_9, ↓lm_10, ↓lm_11, li_0, li_1, li_2, li_3, li_4, li_5, li_6, li_7, li_8, li_9, li_10, li_11, li_12, li_13, li_14, li_15, li_16, li_17, li_18, li_19, li_20, li_21, li_22, li_23, li_24, li_25, li_26, li_27, li_28, li_29, li_30, li_31, li_32, li_33, li_34, li_35, li_36, li_37, li_38, li_39, li_40, li_41, li_42, li_43, li_44, li_45, li_46, li_47, li_48, li_49, li_50, li_51, li_52, li_53, li_54, li_55, li_56, li_57, li_58, li_59, li_60, li_61, li_62, li_63, li_64, li_65, li_66, li_96, li_97, li_99, li_100, li_122, li_125, li_126, li_140, li_255, li_256, li_999, li_1000, li_1001, li_1002, li_1100, li_1386, li_1452, li_1518, li_9999, li_1000000, mw_g8, f0, ↓reduceIte]
  | succ r ih =>
    intro m n1 n2 a fl v S f hmr hn1 hn2 hv h9 h hNT hS g8 g9 hs1 hs2 h0 line hline
    obtain ⟨n1, rfl⟩ : ∃ k, n1 = k + 1 := ⟨n1 - 1, by omega⟩
    obtain ⟨n2, rfl⟩ : ∃ k, n2 = k + 1 := ⟨n2 - 1, by omega⟩
    have go := x8_goesOn (fu := fu) hK hw h
    by_cases c0 : fl = 0
    · subst c0
      obtain ⟨m30, h4, hC, hM, hL⟩ := h0 rfl
      have hl := hline rfl
      subst hl
      have t4 := (hv a h.1).1
      have hkk := (hK.2.2 a h.1).1.1
      have hn := hK.1
      have h1 := h.1
      have l30 : ¬ nI 30 < nI m := nI_nlt m30 (by omega)
      by_cases ck0 : kK K a = 0
      · rw [decide_eq_false (fun q => q.2 ck0)] at go
        refine ⟨a, 0, m, S dl, v, f, h, ?_, rfl, mln_refl v, fun x1 hx _ => ⟨x1, hx, ?_⟩, fun _ => ⟨m30, h4, hC, hM, hL⟩⟩
        · rw [show S dl = st S (p + 1) (tw w a 0) dl from (st_ne _ _ hdp).symm, st_self, ← hS, st_self]
          simp only [f_X6_read_11, lq2_s, f_X6_read_11s, ↓lm_1, ↓lm_2, ↓lm_3, ↓lm_4, ↓lm_5, ↓lm_6, ↓lm_7, ↓lm_8, ↓lm_9, ↓lm_10, ↓lm_11, li_0, li_1, li_2, li_3, li_4, li_5, li_6, li_7, li_8, li_9, li_10, li_11, li_12, li_13, li_14, li_15, li_16, li_17, li_18, li_19, li_20, li_21, li_22, li_23, li_24, li_25, li_26, li_27, li_28, li_29, li_30, li_31, li_32, li_33, li_34, li_35, li_36, li_37, li_38, li_39, li_40, li_41, li_42, li_43, li_44, li_45, li_46, li_47, li_48, li_49, li_50, li_51, li_52, li_53, li_54, li_55, li_56, li_57, li_58, li_59, li_60, li_61, li_62, li_63, li_64, li_65, li_66, li_96, li_97, li_99, li_100, li_122, li_125, li_126, li_140, li_255, li_256, li_999, li_1000, li_1001, li_1002, li_1100, li_1386, li_1452, li_1518, li_9999, li_1000000, l30, hS, go, bd_s, b01_f, ↓reduceIte]
        · simp (disch := omega) only [f_X13_nights_11, lq2_s, f_X13_nights_11s, ↓lm_1, ↓lm_2, ↓lm_3, ↓lm_4, ↓lm_5, ↓lm_6, ↓lm_7, ↓lm_8, ↓lm_9, ↓lm_10, ↓lm_11, li_0, li_1, li_2, li_3, li_4, li_5, li_6, li_7, li_8, li_9, li_10, li_11, li_12, li_13, li_14, li_15, li_16, li_17, li_18, li_19, li_20, li_21, li_22, li_23, li_24, li_25, li_26, li_27, li_28, li_29, li_30, li_31, li_32, li_33, li_34, li_35, li_36, li_37, li_38, li_39, li_40, li_41, li_42, li_43, li_44, li_45, li_46, li_47, li_48, li_49, li_50, li_51, li_52, li_53, li_54, li_55, li_56, li_57, li_58, li_59, li_60, li_61, li_62, li_63, li_64, li_65, li_66, li_96, li_97, li_99, li_100, li_122, li_125, li_126, li_140, li_255, li_256, li_999, li_1000, li_1001, li_1002, li_1100, li_1386, li_1452, li_1518, li_9999, li_1000000, mw_g7, mw_g8, mw_A, ↓reduceIte, ↓nm_eq, inb_n, ck_t, nI_clamp, t4, ck0]
      · rw [decide_eq_true (show (0 : Nat) = 0 ∧ kK K a ≠ 0 from ⟨rfl, ck0⟩)] at go
        obtain ⟨a2, fl2, m2, wd, v2, f2, b1, b2, b3, b4, b5, b6⟩ := j_rline (fu := fu) (p := p) (t := t) (dl := dl) hf hK hw hG hv h9 h ck0 hNT hNR hS g8 g9 hs1 hs2 htp hdp htd m30 h4 hC hM hL
        have St : ∀ x y : GV, st (st S (p + 1) x) dl y t = S t := fun x y => by rw [st_ne _ _ htd, st_ne _ _ htp]
        have S1 : ∀ x y : GV, st (st S (p + 1) x) dl y (p + 1) = x := fun x y => by rw [st_ne _ _ (fun q => hdp q.symm), st_same]
        obtain ⟨a3, fl3, m3, wd3, v3, f3, d1, d2, d3, d4, d5, d6⟩ := ih (m + 1) n1 n2 a2 fl2 v2 (st (st S (p + 1) (tw w a2 fl2)) dl wd) f2 (by omega) (by omega) (by omega) (MB_mln hv b4) (WB_mln h9 b4) b1 (NT_mln hNT b4) (S1 _ _) (by rw [St]; exact g8) (by rw [St]; exact g9) (by rw [St]; exact hs1) (by rw [St]; exact hs2) (fun q => by
          obtain ⟨e1, e2, e3⟩ := b6 q
          subst e1
          rw [st_same]; exact ⟨by omega, e3⟩) (nI m + nI 1) (fun _ => nI_add _ _)
        have cm : ∀ x y z : GV, st (st (st S (p + 1) x) dl y) (p + 1) z = st (st S (p + 1) z) dl y := by
          intro x y z
          rw [st_comm _ _ _ hdp, st_st]
        rw [cm, st_st] at d2
        rw [st_same] at d3
        refine ⟨a3, fl3, m3, wd3, v3, f3, d1, ?_, d3.trans b3, mln_trans b4 d4, fun x1 hx _ => ?_, d6⟩
        · rw [← d2]
          simp only [f_X6_read_11, lq2_s, f_X6_read_11s, ↓lm_1, ↓lm_2, ↓lm_3, ↓lm_4, ↓lm_5, ↓lm_6, ↓lm_7, ↓lm_8, ↓lm_9, ↓lm_10, ↓lm_11, li_0, li_1, li_2, li_3, li_4, li_5, li_6, li_7, li_8, li_9, li_10, li_11, li_12, li_13, li_14, li_15, li_16, li_17, li_18, li_19, li_20, li_21, li_22, li_23, li_24, li_25, li_26, li_27, li_28, li_29, li_30, li_31, li_32, li_33, li_34, li_35, li_36, li_37, li_38, li_39, li_40, li_41, li_42, li_43, li_44, li_45, li_46, li_47, li_48, li_49, li_50, li_51, li_52, li_53, li_54, li_55, li_56, li_57, li_58, li_59, li_60, li_61, li_62, li_63, li_64, li_65, li_66, li_96, li_97, li_99, li_100, li_122, li_125, li_126, li_140, li_255, li_256, li_999, li_1000, li_1001, li_1002, li_1100, li_1386, li_1452, li_1518, li_9999, li_1000000, l30, hS, go, bd_s, b01_t, n10, ↓reduceIte, b2, nm_eq]
        · have := hx rfl
          subst this
          obtain ⟨x1', y1, y2⟩ := d5 (nI m2) (fun q => by rw [(b6 q).1]) (fun _ => trivial)
          refine ⟨x1', y1, ?_⟩
          rw [← y2, f_X13_nights_11, lq2_s, b5]; rfl
    · have f0 : ¬ nI fl = nI 0 := by have := h.2; rw [nI_eq (by omega) (by omega)]; exact c0
      rw [decide_eq_false (fun q => c0 q.1)] at go
      refine ⟨a, fl, 0, S dl, v, f, h, ?_, rfl, mln_refl v, fun x1 _ _ => ⟨x1, fun q => absurd q c0, ?_⟩, fun q => absurd q c0⟩
      · rw [show S dl = st S (p + 1) (tw w a fl) dl from (st_ne _ _ hdp).symm, st_self, ← hS, st_self]
        simp only [f_X6_read_11, lq2_s, f_X6_read_11s, ↓lm_1, ↓lm_2, ↓lm_3, ↓lm_4, ↓lm_5, ↓lm_6, ↓lm_7, ↓lm_8, ↓lm_9, ↓lm_10, ↓lm_11, li_0, li_1, li_2, li_3, li_4, li_5, li_6, li_7, li_8, li_9, li_10, li_11, li_12, li_13, li_14, li_15, li_16, li_17, li_18, li_19, li_20, li_21, li_22, li_23, li_24, li_25, li_26, li_27, li_28, li_29, li_30, li_31, li_32, li_33, li_34, li_35, li_36, li_37, li_38, li_39, li_40, li_41, li_42, li_43, li_44, li_45, li_46, li_47, li_48, li_49, li_50, li_51, li_52, li_53, li_54, li_55, li_56, li_57, li_58, li_59, li_60, li_61, li_62, li_63, li_64, li_65, li_66, li_96, li_97, li_99, li_100, li_122, li_125, li_126, li_140, li_255, li_256, li_999, li_1000, li_1001, li_1002, li_1100, li_1386, li_1452, li_1518, li_9999, li_1000000, hS, go, bd_s, b01_f, ↓reduceIte, ite_self]
      · simp only [f_X13_nights_11, lq2_s, f_X13_nights_11s, ↓lm_1, ↓lm_2, ↓lm_3, ↓lm_4, ↓lm_5, ↓lm_6, ↓lm_7, ↓lm_8, ↓lm_9, ↓lm_10, ↓lm_11, li_0, li_1, li_2, li_3, li_4, li_5, li_6, li_7, li_8, li_9, li_10, li_11, li_12, li_13, li_14, li_15, li_16, li_17, li_18, li_19, li_20, li_21, li_22, li_23, li_24, li_25, li_26, li_27, li_28, li_29, li_30, li_31, li_32, li_33, li_34, li_35, li_36, li_37, li_38, li_39, li_40, li_41, li_42, li_43, li_44, li_45, li_46, li_47, li_48, li_49, li_50, li_51, li_52, li_53, li_54, li_55, li_56, li_57, li_58, li_59, li_60, li_61, li_62, li_63, li_64, li_65, li_66, li_96, li_97, li_99, li_100, li_122, li_125, li_126, li_140, li_255, li_256, li_999, li_1000, li_1001, li_1002, li_1100, li_1386, li_1452, li_1518, li_9999, li_1000000, mw_g8, f0, ↓reduceIte]
end L
/-- the tape is empty, lines may be new -/
theorem RC_lines {p t d ln dl f ln' dl' : Nat} {S S' : ST} {A : AP} {L : LN} (hP : RP p t d ln dl S) (hK : RK p t ln f S A) (hll : (ln' = ln ∧ dl' = dl) ∨ (ln' = dl ∧ dl' = ln))
    (h1 : ∀ b, b ≠ p → b ≠ p + 1 → b ≠ dl → S' b = S b) (h2 : ∀ b, gC (S' b) = gC (S b)) (hr : gR (S' p) 12 = gR (S p) 12 ∧ gR (S' p) 13 = gR (S p) 13 ∧ gR (S' p) 14 = some ln' ∧ gR (S' p) 15 = some dl') (hq : ∀ k, gQ (S' p) k = gQ (S p) k) (hi : ∀ k, gI (S' p) k = gI (S p) k) (hL : CLn (S' ln') L) (h6 : gI (S' (p + 1)) 6 = nI 0) : RC p S' (mkA (aG A) (aQ A) (aP A) (aM A) (aB A) L (0, (aT A).2) (aN A)) := by
  obtain ⟨⟨a1, a2, a3, a4, a5, a6, a7, a8⟩, ⟨b1, b2, b3, b4, b5, b6⟩, c, m, ⟨r1, r2, r3, r4⟩, td, ll, g1, g2, g3, g4⟩ := hP
  obtain ⟨K1, K2, K3, K4, ⟨K5, K6, K7, K8⟩, ⟨K9, K10⟩, K11, K12⟩ := hK
  have at' : ∀ b, b ≠ p → b ≠ p + 1 → b ≠ dl → S' b = S b := h1
  refine ⟨t, d, ln', dl', f, ⟨⟨by rw [h2]; exact a1, by rw [h2]; exact a2, by rw [h2]; exact a3, by rw [h2]; exact a4, by rw [h2]; exact a5, by rw [h2]; exact a6, by rw [h2]; exact a7, by rw [h2]; exact a8⟩, ⟨by rw [h2]; exact b1, by rw [h2]; exact b2, by rw [h2]; exact b3, by rw [h2]; exact b4, ?_, ?_⟩, fun i hi => ⟨by rw [h2]; exact (c i hi).1, by rw [hq]; exact (c i hi).2⟩, fun i hi => ⟨by rw [h2]; exact (m i hi).1, by rw [hq]; exact (m i hi).2⟩, ⟨by rw [hr.1]; exact r1, by rw [hr.2.1]; exact r2, hr.2.2.1, hr.2.2.2⟩, td, by omega, by rw [at' (p + 6) (by omega) (by omega) (by omega)]; exact g1, by rw [at' (p + 6) (by omega) (by omega) (by omega)]; exact g2, by rw [at' (p + 7) (by omega) (by omega) (by omega)]; exact g3, by rw [at' (p + 7) (by omega) (by omega) (by omega)]; exact g4⟩, by rw [at' (p + 9) (by omega) (by omega) (by omega)]; exact K1, CG_keep K2 (at' t (by omega) (by omega) (by omega)) (fun b hb => Or.inl (at' b ?_ ?_ ?_)), by rw [at' t (by omega) (by omega) (by omega)]; exact K3, by rw [at' (t + 8) (by omega) (by omega) (by omega)]; exact K4, ⟨by rw [hi]; exact K5, K6, by rw [hi]; exact K7, fun i hi => by rw [at' _ (by omega) (by omega) (by omega)]; exact K8 i hi⟩, ⟨by rw [hi]; exact K9, fun i hi hb => by rw [at' _ (by omega) (by omega) (by omega)]; exact K10 i hi hb⟩, hL, ⟨h6, fun i hi => by have : i < 0 := hi; omega⟩⟩
  · rcases hll with ⟨e, _⟩ | ⟨e, _⟩ <;> (rw [h2, e]; assumption)
  · rcases hll with ⟨_, e⟩ | ⟨_, e⟩ <;> (rw [h2, e]; assumption)
  · rintro rfl; omega
  · rintro rfl; omega
  · rintro rfl; omega
theorem RM_lines {v v' : GV} {A : AP} {L : LN} (h : RM v A) (k1 : ∀ k, k ≠ 4 → k ≠ 5 → k ≠ 21 → gA v' k = gA v k) (k2 : gI v' 18 = gI v 18 ∧ gI v' 25 = gI v 25) (k3 : ∀ k, k ≠ 6 → gL v' k = gL v k) (k4 : gC v' = gC v) (h2 : gI v' 2 = nI 0) (hL : MLn v' L) : RM v' (mkA (aG A) (aQ A) (aP A) (aM A) (aB A) L (0, (aT A).2) (aN A)) := by
  obtain ⟨h0, h1, hh2, ⟨h3, h4⟩, h5, h6, h7, h8, ⟨n, cd, ty, n1, n2, n3⟩, h10, h11⟩ := h
  have e24 := k1 24 (by omega) (by omega) (by omega)
  have e10 := k1 10 (by omega) (by omega) (by omega)
  refine ⟨k4.trans h0, MG_of h1 e10 (k1 11 (by omega) (by omega) (by omega)) (k1 12 (by omega) (by omega) (by omega)), by rw [e24]; exact hh2, ⟨by rw [k2.2]; exact h3, fun i hi => by rw [e24]; exact h4 i hi⟩, fun m hm => by rw [k1 26 (by omega) (by omega) (by omega), e24]; exact h5 m hm, ?_, hL, ⟨h2, fun i hi => by have : i < 0 := hi; omega⟩, ⟨n, cd, ty, n1, by rw [k2.1]; exact n2, fun j hj => by rw [k3 14 (by decide), k1 16 (by omega) (by omega) (by omega)]; exact n3 j hj⟩, fun i hi => by rw [k3 9 (by decide)]; exact h10 i hi, fun i hi => by rw [k1 32 (by omega) (by omega) (by omega)]; exact h11 i hi⟩
  rw [MBg, e10]; exact h6
theorem MN_NT {v : GV} {G : GP} {N : NM} (hG : okG G) (h : MN v G N) : ∃ n cd ty, NR G N n cd ty ∧ NT v false n cd ty := by
  obtain ⟨n, cd, ty, n1, n2, n3⟩ := h
  have h8 := hG.1
  have h5 := hG.2.1
  have h4 := hG.2.2.1
  refine ⟨n, cd, ty, n1, by have := n1.1; omega, by simpa using n2, fun k hk => ?_⟩
  have := n3 k hk
  exact ⟨by simpa using this.1, by simpa using this.2, n1.2.1 k hk⟩
theorem NR_40 {G : GP} {N : NM} {n : Nat} {cd ty : Nat → Nat} (h : NR G N n cd ty) : (∀ i, i < ns G → N.1 i < 1099511627776) ∧ (∀ i, i < nt G → N.2.1 i < 1099511627776) ∧ ∀ i, i < ne G → N.2.2 i < 1099511627776 := by
  obtain ⟨a1, a2, a3, a4, a5, a6, a7⟩ := h
  refine ⟨fun i hi => ?_, fun i hi => ?_, fun i hi => ?_⟩
  · obtain ⟨k, k1, k2, _⟩ := a3 i hi; rw [← k2]; exact wd40 (a2 k k1)
  · obtain ⟨k, k1, k2, _⟩ := a4 i hi; rw [← k2]; exact wd40 (a2 k k1)
  · obtain ⟨k, k1, k2, _⟩ := a5 i hi; rw [← k2]; exact wd40 (a2 k k1)
theorem CK_tw {w : GV} {K : KT} (h : CK w K 0 0) : CB w K ∧ tw w 0 0 = w := by
  refine ⟨h.2.2.2, ?_⟩
  have e5 := h.2.1
  have e7 := h.2.2.1
  have a : sI w 5 (nI 0) = w := by rw [← e5]; exact sI_self w 5
  have b : sI w 7 (nI 0) = w := by rw [← e7]; exact sI_self w 7
  rw [tw, a, b]
theorem MK_mw {v : GV} {K : KT} (h : MK v K 0 0) : MB v K ∧ mw v 0 0 = v := by
  refine ⟨h.2.2, ?_⟩
  have e7 := h.1
  have e8 := h.2.1
  have a : sI v 7 (nI 0) = v := by rw [← e7]; exact sI_self v 7
  have b : sI v 8 (nI 0) = v := by rw [← e8]; exact sI_self v 8
  rw [mw, a, b]
theorem m_lcopy {fu n : Nat} {v : GV} (hf : 1101 ≤ fu) (hn : n ≤ 30) : ∃ f, f_X13_nights_130 fu fu (nI n) (nI 0) v = some (nI 0, sAf v 21 f) ∧ f 0 = gA v 21 0 ∧ ∀ k, k < 4 * n → f (1 + k) = gA v 21 (125 + k) := by
  have key := lpI2 (fun k130 => f_X13_nights_130s fu k130 (nI n)) (fun k y w => y = nI k ∧ ∃ f, w = sAf v 21 f ∧ f 0 = gA v 21 0 ∧ (∀ x, 121 ≤ x → f x = gA v 21 x) ∧ ∀ j, j < k → f (1 + j) = gA v 21 (125 + j)) (fun r => ∃ f, r = some (nI 0, sAf v 21 f) ∧ f 0 = gA v 21 0 ∧ ∀ k, k < 4 * n → f (1 + k) = gA v 21 (125 + k)) (4 * n) ?_ ?_ fu 0 (nI 0) v ⟨rfl, _, (sAf_self v 21).symm, rfl, fun _ _ => rfl, fun j hj => by omega⟩ (by omega) (by omega)
  · obtain ⟨r, ⟨f, e, h⟩, e2⟩ := key
    exact ⟨f, by rw [← e, ← e2, f_X13_nights_130], h⟩
  · rintro y w ⟨rfl, f, rfl, g1, g2, g3⟩
    refine ⟨_, ⟨f, rfl, g1, g3⟩, fun rec => ?_⟩
    simp (disch := omega) only [f_X13_nights_130s, ↓lm_1, ↓lm_2, ↓lm_3, ↓lm_4, ↓lm_5, ↓lm_6, ↓lm_7, ↓lm_8, ↓lm_9, ↓lm_10, ↓lm_11, li_0, li_1, li_2, li_3, li_4, li_5, li_6, li_7, li_8, li_9, li_10, li_11, li_12, li_13, li_14, li_15, li_16, li_17, li_18, li_19, li_20, li_21, li_22, li_23, li_24, li_25, li_26, li_27, li_28, li_29, li_30, li_31, li_32, li_33, li_34, li_35, li_36, li_37, li_38, li_39, li_40, li_41, li_42, li_43, li_44, li_45, li_46, li_47, li_48, li_49, li_50, li_51, li_52, li_53, li_54, li_55, li_56, li_57, li_58, li_59, li_60, li_61, li_62, li_63, li_64, li_65, li_66, li_96, li_97, li_99, li_100, li_122, li_125, li_126, li_140, li_255, li_256, li_999, li_1000, li_1001, li_1002, li_1100, li_1386, li_1452, li_1518, li_9999, li_1000000, nI_mulN, nI_leI, Nat.le_refl, ↓reduceIte]
  · rintro k y w hk ⟨rfl, f, rfl, g1, g2, g3⟩
    have hle : ¬ nI (4 * n) ≤ nI k := nI_ge hk (by omega)
    have e := g2 (125 + k) (by omega)
    refine Or.inl ⟨nI (k + 1), sAf v 21 (upd f (1 + k) (gA v 21 (125 + k))), ⟨rfl, _, rfl, by rw [pk_un (by omega)]; exact g1, fun x hx => by rw [pk_un (by omega)]; exact g2 x hx, fun j hj => ?_⟩, fun rec => ?_⟩
    · by_cases q : j = k
      · rw [q, pk_us]
      · rw [pk_un (by omega)]; exact g3 j (by omega)
    · simp (disch := omega) only [f_X13_nights_130s, ↓lm_1, ↓lm_2, ↓lm_3, ↓lm_4, ↓lm_5, ↓lm_6, ↓lm_7, ↓lm_8, ↓lm_9, ↓lm_10, ↓lm_11, li_0, li_1, li_2, li_3, li_4, li_5, li_6, li_7, li_8, li_9, li_10, li_11, li_12, li_13, li_14, li_15, li_16, li_17, li_18, li_19, li_20, li_21, li_22, li_23, li_24, li_25, li_26, li_27, li_28, li_29, li_30, li_31, li_32, li_33, li_34, li_35, li_36, li_37, li_38, li_39, li_40, li_41, li_42, li_43, li_44, li_45, li_46, li_47, li_48, li_49, li_50, li_51, li_52, li_53, li_54, li_55, li_56, li_57, li_58, li_59, li_60, li_61, li_62, li_63, li_64, li_65, li_66, li_96, li_97, li_99, li_100, li_122, li_125, li_126, li_140, li_255, li_256, li_999, li_1000, li_1001, li_1002, li_1100, li_1386, li_1452, li_1518, li_9999, li_1000000, nI_mulN, hle, ↓reduceIte, nI_add, nm_eq, inb_n, ck_t, nI_clamp, gA_sAf, e, sA, sAf_sAf]
theorem r_nights {fu p : Nat} {S : ST} {v : GV} (hf : 1101 ≤ fu) (h : RR p S v) : ∃ z S' v', f_X12_nights fu S p = some (z, S') ∧ f_X13_nights fu v = some (z, v') ∧ RR p S' v' := by
  obtain ⟨A, hA, hC, hM⟩ := h
  obtain ⟨t, d, ln, dl, f, hP, hK⟩ := id hC
  have hG := hA.1
  have hT := hA.2.2.2.2.2.2
  have c1 := hP.1.2.1
  have cp := hP.1.1
  have hct := hP.2.1.1
  have cln := hP.2.1.2.2.2.2.1
  have cdl := hP.2.1.2.2.2.2.2
  have hrt := hP.2.2.2.2.1.1
  have hrl := hP.2.2.2.2.1.2.2.1
  have hrd := hP.2.2.2.2.1.2.2.2
  have td := hP.2.2.2.2.2.1
  have ll := hP.2.2.2.2.2.2.1
  have hMT : MT (sI v 0 (nI 0)) (aT A) := hM.2.2.2.2.2.2.2.1
  obtain ⟨K, w, v1, k1, k2, k3, k4, k5, k6, k7⟩ := cut (fu := fu) hf hT c1 hK.2.2.2.2.2.2.2 hMT
  obtain ⟨cb, etw⟩ := CK_tw k4
  obtain ⟨mbb, emw⟩ := MK_mw k5
  obtain ⟨n, cd, ty, hNR, hNT⟩ := MN_NT hG hM.2.2.2.2.2.2.2.2.1
  obtain ⟨n40a, n40b, n40c⟩ := NR_40 hNR
  have hCN := hK.2.2.1
  -- frames of the model up to here
  have fA : ∀ k, k ≠ 4 → k ≠ 5 → gA v1 k = gA v k := fun k a b => by rw [k7.1 k a b]; rfl
  have fI : ∀ k, k ≠ 0 → k ≠ 2 → k ≠ 3 → k ≠ 7 → k ≠ 8 → gI v1 k = gI v k := fun k a0 a b c e => by
    rw [k7.2.1 k c e, gI_sI, if_neg a, gI_sI, if_neg b, gI_sI, if_neg a0]
  have fL : ∀ k, k ≠ 6 → gL v1 k = gL v k := fun k a => by rw [k7.2.2.1 k a]; rfl
  have NT1 : NT v1 false n cd ty := by
    refine ⟨hNT.1, ?_, fun j hj => ?_⟩
    · have := hNT.2.1; simp only [Bool.false_eq_true, ↓reduceIte] at this ⊢
      rw [fI 18 (by decide) (by decide) (by decide) (by decide) (by decide)]; exact this
    · have := hNT.2.2 j hj; simp only [Bool.false_eq_true, ↓reduceIte] at this ⊢
      rw [fL 14 (by decide), fA 16 (by decide) (by decide)]; exact this
  have W1 : WB9 v1 := fun i hi => by rw [fL 9 (by decide)]; exact hM.2.2.2.2.2.2.2.2.2.1 i hi
  have htp : t ≠ p + 1 := by omega
  have hdp : dl ≠ p + 1 := by omega
  have htd : t ≠ dl := by omega
  -- the state in which lines are read
  obtain ⟨a', fl', m', wd, v2, f', e1, e2, e3, e4, e5, e6⟩ := j_rlines (fu := fu) (p := p) (t := t) (dl := dl) (N := aN A) hf k3 cb hG hNR htp hdp htd 31 0 fu fu 0 0 v1 (st (st S dl (sI (S dl) 4 (nI 0))) (p + 1) w) (fun _ => (0, 0, 0, 0)) (by omega) (by omega) (by omega) mbb W1 ⟨by omega, by omega⟩ NT1 (by rw [st_same, etw]) (by rw [st_ne _ _ htp, st_ne _ _ htd]; exact hK.2.1.2.1) (by rw [st_ne _ _ htp, st_ne _ _ htd]; exact hK.2.1.2.2.1) (by rw [st_ne _ _ htp, st_ne _ _ htd]; exact fun i hi => ⟨hCN.1 i hi, n40a i hi⟩) (by rw [st_ne _ _ htp, st_ne _ _ htd]; exact fun i hi => ⟨hCN.2.1 i hi, n40b i hi⟩) (fun _ => ⟨by omega, by rw [st_ne _ _ hdp, st_same, gI_sI, if_pos rfl], fun i hi => by omega, fun i hi => by omega, fun i hi => by omega⟩) (nI 0) (fun _ => rfl)
  obtain ⟨x1', y1, y2⟩ := e5 (nI 0) (fun _ => rfl) (fun _ => trivial)
  rw [emw] at y2
  -- S behind the reading
  have ss : st (st (st (st S dl (sI (S dl) 4 (nI 0))) (p + 1) w) (p + 1) (tw w a' fl')) dl wd = st (st S (p + 1) (tw w a' fl')) dl wd := by
    rw [st_st, st_comm _ _ _ hdp, st_st]
  rw [ss] at e2
  rw [st_ne _ _ hdp, st_same] at e3
  have cls : f_X6_read fu S dl (p + 1) t = some (nI fl', st (st S (p + 1) (sI (tw w a' fl') 6 (nI 0))) dl wd) := by
    have e2' := e2
    rw [f_X6_read_36] at e2'
    have S1 : st (st S (p + 1) (tw w a' fl')) dl wd (p + 1) = tw w a' fl' := by rw [st_ne _ _ (fun q => hdp q.symm), st_same]
    have g7 : gI (sI (tw w a' fl') 6 (nI 0)) 7 = nI fl' := by rw [gI_sI, if_neg (by decide), tw_g7]
    have cm : st (st (st S (p + 1) (tw w a' fl')) dl wd) (p + 1) (sI (tw w a' fl') 6 (nI 0)) = st (st S (p + 1) (sI (tw w a' fl') 6 (nI 0))) dl wd := by
      rw [st_comm _ _ _ hdp, st_st]
    simp only [f_X8_close, f_X8_close_0, ↓lm_1, ↓lm_2, ↓lm_3, ↓lm_4, ↓lm_5, ↓lm_6, ↓lm_7, ↓lm_8, ↓lm_9, ↓lm_10, ↓lm_11, li_0, li_1, li_2, li_3, li_4, li_5, li_6, li_7, li_8, li_9, li_10, li_11, li_12, li_13, li_14, li_15, li_16, li_17, li_18, li_19, li_20, li_21, li_22, li_23, li_24, li_25, li_26, li_27, li_28, li_29, li_30, li_31, li_32, li_33, li_34, li_35, li_36, li_37, li_38, li_39, li_40, li_41, li_42, li_43, li_44, li_45, li_46, li_47, li_48, li_49, li_50, li_51, li_52, li_53, li_54, li_55, li_56, li_57, li_58, li_59, li_60, li_61, li_62, li_63, li_64, li_65, li_66, li_96, li_97, li_99, li_100, li_122, li_125, li_126, li_140, li_255, li_256, li_999, li_1000, li_1001, li_1002, li_1100, li_1386, li_1452, li_1518, li_9999, li_1000000, S1, nm_eq, g7, bd2_s, cm] at e2'
    have o1 : st S dl (sI (S dl) 4 (nI 0)) (p + 1) = S (p + 1) := st_ne _ _ (fun q => hdp q.symm)
    rw [← e2']
    simp only [f_X6_read, f_X6_read_0, ↓lm_1, ↓lm_2, ↓lm_3, ↓lm_4, ↓lm_5, ↓lm_6, ↓lm_7, ↓lm_8, ↓lm_9, ↓lm_10, ↓lm_11, li_0, li_1, li_2, li_3, li_4, li_5, li_6, li_7, li_8, li_9, li_10, li_11, li_12, li_13, li_14, li_15, li_16, li_17, li_18, li_19, li_20, li_21, li_22, li_23, li_24, li_25, li_26, li_27, li_28, li_29, li_30, li_31, li_32, li_33, li_34, li_35, li_36, li_37, li_38, li_39, li_40, li_41, li_42, li_43, li_44, li_45, li_46, li_47, li_48, li_49, li_50, li_51, li_52, li_53, li_54, li_55, li_56, li_57, li_58, li_59, li_60, li_61, li_62, li_63, li_64, li_65, li_66, li_96, li_97, li_99, li_100, li_122, li_125, li_126, li_140, li_255, li_256, li_999, li_1000, li_1001, li_1002, li_1100, li_1386, li_1452, li_1518, li_9999, li_1000000, nm_eq, o1, k1, bd_s]
  have h8 := e1.2
  have gw : gC w = 8 := k4.1
  have pd : p ≠ dl := by omega
  have ld : ln ≠ dl := by omega
  have lp : ln ≠ p + 1 := by omega
  generalize hS7 : st (st S (p + 1) (sI (tw w a' fl') 6 (nI 0))) dl wd = S7 at *
  have s7p : S7 p = S p := by rw [← hS7, st_ne _ _ pd, st_ne _ _ (by omega)]
  have s7t : S7 t = S t := by rw [← hS7, st_ne _ _ htd, st_ne _ _ htp]
  have s7l : S7 ln = S ln := by rw [← hS7, st_ne _ _ ld, st_ne _ _ lp]
  have s7d : S7 dl = wd := by rw [← hS7, st_same]
  have s71 : S7 (p + 1) = sI (tw w a' fl') 6 (nI 0) := by rw [← hS7, st_ne _ _ (fun q => hdp q.symm), st_same]
  have s7o : ∀ b, b ≠ p + 1 → b ≠ dl → S7 b = S b := fun b h1 h2 => by rw [← hS7, st_ne _ _ h2, st_ne _ _ h1]
  have s7C : ∀ b, gC (S7 b) = gC (S b) := by
    intro b
    by_cases q1 : b = dl
    · subst q1; rw [s7d]; exact e3
    · by_cases q2 : b = p + 1
      · subst q2; rw [s71, c1]; exact gw
      · rw [s7o b q2 q1]
  have pre : ∀ r, (r = f_X12_nights fu S p) → r = (if nI fl' = nI 0 then some (nI fl', st S7 p (sR (sR (S p) 14 (some dl)) 15 (some ln))) else some (nI fl', S7)) := by
    intro r hr
    rw [hr]
    have u1 : gR (sR (S p) 14 (some dl)) 15 = some dl := by rw [gR_sR, if_neg (by decide)]; exact hrd
    simp only [f_X12_nights, f_X12_nights_0, f_X12_nights_38, ↓lm_1, ↓lm_2, ↓lm_3, ↓lm_4, ↓lm_5, ↓lm_6, ↓lm_7, ↓lm_8, ↓lm_9, ↓lm_10, ↓lm_11, li_0, li_1, li_2, li_3, li_4, li_5, li_6, li_7, li_8, li_9, li_10, li_11, li_12, li_13, li_14, li_15, li_16, li_17, li_18, li_19, li_20, li_21, li_22, li_23, li_24, li_25, li_26, li_27, li_28, li_29, li_30, li_31, li_32, li_33, li_34, li_35, li_36, li_37, li_38, li_39, li_40, li_41, li_42, li_43, li_44, li_45, li_46, li_47, li_48, li_49, li_50, li_51, li_52, li_53, li_54, li_55, li_56, li_57, li_58, li_59, li_60, li_61, li_62, li_63, li_64, li_65, li_66, li_96, li_97, li_99, li_100, li_122, li_125, li_126, li_140, li_255, li_256, li_999, li_1000, li_1001, li_1002, li_1100, li_1386, li_1452, li_1518, li_9999, li_1000000, hrd, bd_s, cdl, c1, decide_true, ck_t, hrt, hct, cls, bd2_s, s7p, hrl, s7C, cln, nm_eq, st_same, st_st]
  have mod : f_X13_nights fu v = f_X13_nights_109 fu (mw v2 a' fl') x1' := by
    rw [← y2]
    simp only [f_X13_nights, f_X13_nights_0, ↓lm_1, ↓lm_2, ↓lm_3, ↓lm_4, ↓lm_5, ↓lm_6, ↓lm_7, ↓lm_8, ↓lm_9, ↓lm_10, ↓lm_11, li_0, li_1, li_2, li_3, li_4, li_5, li_6, li_7, li_8, li_9, li_10, li_11, li_12, li_13, li_14, li_15, li_16, li_17, li_18, li_19, li_20, li_21, li_22, li_23, li_24, li_25, li_26, li_27, li_28, li_29, li_30, li_31, li_32, li_33, li_34, li_35, li_36, li_37, li_38, li_39, li_40, li_41, li_42, li_43, li_44, li_45, li_46, li_47, li_48, li_49, li_50, li_51, li_52, li_53, li_54, li_55, li_56, li_57, li_58, li_59, li_60, li_61, li_62, li_63, li_64, li_65, li_66, li_96, li_97, li_99, li_100, li_122, li_125, li_126, li_140, li_255, li_256, li_999, li_1000, li_1001, li_1002, li_1100, li_1386, li_1452, li_1518, li_9999, li_1000000, nm_eq, k2, bd_s]
  -- frames of the model behind the reading
  have mA : ∀ k, k ≠ 4 → k ≠ 5 → k ≠ 21 → gA (mw v2 a' fl') k = gA v k := fun k a b c => by rw [mw_A, e4.1 k c, fA k a b]
  have mL : ∀ k, k ≠ 6 → gL (mw v2 a' fl') k = gL v k := fun k a => by rw [mw_L, e4.2.2.2.1, fL k a]
  have mI2 : gI (mw v2 a' fl') 18 = gI v 18 ∧ gI (mw v2 a' fl') 25 = gI v 25 := ⟨by rw [mw_I _ _ _ (by decide) (by decide), e4.2.2.1, fI 18 (by decide) (by decide) (by decide) (by decide) (by decide)], by rw [mw_I _ _ _ (by decide) (by decide), e4.2.2.1, fI 25 (by decide) (by decide) (by decide) (by decide) (by decide)]⟩
  have mC : gC (mw v2 a' fl') = gC v := e4.2.2.2.2.trans k7.2.2.2
  have m2 : gI (mw v2 a' fl') 2 = nI 0 := by
    rw [mw_I _ _ _ (by decide) (by decide), e4.2.2.1, k7.2.1 2 (by decide) (by decide), gI_sI, if_pos rfl]
  have low : ∀ x, x < 125 → gA (mw v2 a' fl') 21 x = gA v 21 x := fun x hx => by rw [mw_A, e4.2.1 x hx, fA 21 (by decide) (by decide)]
  by_cases c0 : fl' = 0
  · obtain ⟨m30, w4, w5, w6, w7⟩ := e6 c0
    have hx := y1 c0
    subst hx
    subst c0
    obtain ⟨g, q1', q2', q3'⟩ := m_lcopy (fu := fu) (n := m') (v := sA (mw v2 a' 0) 21 0 (nI m')) hf m30
    rw [gA_sA, if_pos rfl] at q2'
    have g125 : ∀ k, k < 4 * m' → g (1 + k) = gA v2 21 (125 + k) := fun k hk => by rw [q3' k hk, gA_sA, if_neg (by omega), mw_A]
    refine ⟨nI 0, st S7 p (sR (sR (S p) 14 (some dl)) 15 (some ln)), sAf (sA (mw v2 a' 0) 21 0 (nI m')) 21 g, ?_, ?_, ⟨mkA (aG A) (aQ A) (aP A) (aM A) (aB A) (m', f') (0, (aT A).2) (aN A), ?_, ?_, ?_⟩⟩
    · rw [pre _ rfl, if_pos rfl]
    · rw [mod]
      have e00 : nI 0 ≤ nI 0 := by decide
      simp (disch := omega) only [f_X13_nights_109, ↓lm_1, ↓lm_2, ↓lm_3, ↓lm_4, ↓lm_5, ↓lm_6, ↓lm_7, ↓lm_8, ↓lm_9, ↓lm_10, ↓lm_11, li_0, li_1, li_2, li_3, li_4, li_5, li_6, li_7, li_8, li_9, li_10, li_11, li_12, li_13, li_14, li_15, li_16, li_17, li_18, li_19, li_20, li_21, li_22, li_23, li_24, li_25, li_26, li_27, li_28, li_29, li_30, li_31, li_32, li_33, li_34, li_35, li_36, li_37, li_38, li_39, li_40, li_41, li_42, li_43, li_44, li_45, li_46, li_47, li_48, li_49, li_50, li_51, li_52, li_53, li_54, li_55, li_56, li_57, li_58, li_59, li_60, li_61, li_62, li_63, li_64, li_65, li_66, li_96, li_97, li_99, li_100, li_122, li_125, li_126, li_140, li_255, li_256, li_999, li_1000, li_1001, li_1002, li_1100, li_1386, li_1452, li_1518, li_9999, li_1000000, mw_g8, e00, ↓reduceIte, nI_clamp, nm_eq, q1']
    · obtain ⟨o1, o2, o3, o5, o7, o8, o9⟩ := hA
      exact ⟨o1, o2, o3, o5, o7, ⟨m30, w7⟩, ⟨Nat.zero_le _, fun i hi => by have : i < 0 := hi; omega⟩⟩
    · refine RC_lines (ln' := dl) (dl' := ln) hP hK (Or.inr ⟨rfl, rfl⟩) (fun b b1 b2 b3 => by rw [st_ne _ _ b1]; exact s7o b b2 b3) (fun b => ?_) ⟨?_, ?_, ?_, ?_⟩ (fun k => by rw [st_same]; rfl) (fun k => by rw [st_same]; rfl) ?_ ?_
      · by_cases q : b = p
        · subst q; rw [st_same]; rfl
        · rw [st_ne _ _ q]; exact s7C b
      · rw [st_same, gR_sR, if_neg (by decide), gR_sR, if_neg (by decide)]
      · rw [st_same, gR_sR, if_neg (by decide), gR_sR, if_neg (by decide)]
      · rw [st_same, gR_sR, if_neg (by decide), gR_sR, if_pos rfl]
      · rw [st_same, gR_sR, if_pos rfl]
      · rw [st_ne _ _ (fun q => pd q.symm), s7d]; exact ⟨w4, w5⟩
      · rw [st_ne _ _ (by omega), s71, gI_sI, if_pos rfl]
    · refine RM_lines hM (fun k a b c => ?_) mI2 (fun k a => mL k a) mC m2 ⟨?_, fun i hi => ?_⟩
      · rw [gA_sAfn _ _ c, gA_sAn _ _ _ c]; exact mA k a b c
      · rw [gA_sAf]; exact q2'
      · have hi : i < m' := hi
        obtain ⟨z1, z2, z3, z4⟩ := w6 i hi
        rw [gA_sAf]
        have i0 := g125 (4 * i) (by omega)
        have i1 := g125 (4 * i + 1) (by omega)
        have i2 := g125 (4 * i + 2) (by omega)
        have i3 := g125 (4 * i + 3) (by omega)
        have j0 : 1 + 4 * i + 1 = 1 + (4 * i + 1) := by omega
        have j1 : 1 + 4 * i + 2 = 1 + (4 * i + 2) := by omega
        have j2 : 1 + 4 * i + 3 = 1 + (4 * i + 3) := by omega
        have l1 : 126 + 4 * i = 125 + (4 * i + 1) := by omega
        have l2 : 126 + 4 * i + 1 = 125 + (4 * i + 2) := by omega
        have l3 : 126 + 4 * i + 2 = 125 + (4 * i + 3) := by omega
        rw [j0, j1, j2, i0, i1, i2, i3, ← l1, ← l2, ← l3]
        exact ⟨z1, z2, z3, z4⟩
  · have f0 : ¬ nI fl' = nI 0 := by rw [nI_eq (by omega) (by omega)]; exact c0
    have f1 : ¬ nI fl' ≤ nI 0 := nI_ge (by omega) (by omega)
    refine ⟨nI fl', S7, mw v2 a' fl', ?_, ?_, ⟨mkA (aG A) (aQ A) (aP A) (aM A) (aB A) (aL A) (0, (aT A).2) (aN A), ?_, ?_, ?_⟩⟩
    · rw [pre _ rfl, if_neg f0]
    · rw [mod]
      simp only [f_X13_nights_109, ↓lm_1, ↓lm_2, ↓lm_3, ↓lm_4, ↓lm_5, ↓lm_6, ↓lm_7, ↓lm_8, ↓lm_9, ↓lm_10, ↓lm_11, li_0, li_1, li_2, li_3, li_4, li_5, li_6, li_7, li_8, li_9, li_10, li_11, li_12, li_13, li_14, li_15, li_16, li_17, li_18, li_19, li_20, li_21, li_22, li_23, li_24, li_25, li_26, li_27, li_28, li_29, li_30, li_31, li_32, li_33, li_34, li_35, li_36, li_37, li_38, li_39, li_40, li_41, li_42, li_43, li_44, li_45, li_46, li_47, li_48, li_49, li_50, li_51, li_52, li_53, li_54, li_55, li_56, li_57, li_58, li_59, li_60, li_61, li_62, li_63, li_64, li_65, li_66, li_96, li_97, li_99, li_100, li_122, li_125, li_126, li_140, li_255, li_256, li_999, li_1000, li_1001, li_1002, li_1100, li_1386, li_1452, li_1518, li_9999, li_1000000, mw_g8, f1, ↓reduceIte]
    · obtain ⟨o1, o2, o3, o5, o7, o8, o9⟩ := hA
      exact ⟨o1, o2, o3, o5, o7, o8, ⟨Nat.zero_le _, fun i hi => by have : i < 0 := hi; omega⟩⟩
    · refine RC_lines (ln' := ln) (dl' := dl) hP hK (Or.inl ⟨rfl, rfl⟩) (fun b b1 b2 b3 => s7o b b2 b3) s7C ⟨by rw [s7p], by rw [s7p], by rw [s7p]; exact hrl, by rw [s7p]; exact hrd⟩ (fun k => by rw [s7p]) (fun k => by rw [s7p]) ?_ ?_
      · rw [s7l]; exact hK.2.2.2.2.2.2.1
      · rw [s71, gI_sI, if_pos rfl]
    · refine RM_lines hM mA mI2 mL mC m2 ?_
      obtain ⟨l0, l1⟩ := hM.2.2.2.2.2.2.1
      have l30 := hA.2.2.2.2.2.1.1
      refine ⟨by rw [low 0 (by omega)]; exact l0, fun i hi => ?_⟩
      rw [low _ (by omega), low _ (by omega), low _ (by omega), low _ (by omega)]
      exact l1 i hi
