/-! ===== gallery: what was read becomes the gallery ===== -/
theorem DL_CL {S S' : ST} {v : GV} {c n j th i : Nat} {r : Option Nat} {x : Int32} {f dd : Int32 → Int32 → Int32 → Int32} (h : DL S v c r x n j th f dd i) (hS : ∀ b, n ≤ b → b < n + 3 * j → S' b = S b) : CL S' r th f dd := by
  rcases h with h | ⟨b, fr, len, e1, e2, e3, e4, e5, e6, e7, e8, e9⟩
  · exact Or.inl ⟨h.1, h.2.2.1⟩
  · exact Or.inr ⟨b, dO v, dA v, fr, len, e1, by rw [hS b e4 e5]; exact e6, e7, e8⟩
theorem csR_2 {th : Nat} {x o a : Int32} (h : csR th x o a) (e : o = nI 2) : a = nI 0 ∨ a = nI 1 ∨ a = nI th := by
  rcases h with ⟨h1, _⟩ | ⟨_, h2⟩ | ⟨h1, _⟩ | ⟨k, m, h1, _, h2⟩
  · rw [e] at h1; exact absurd h1 (by decide)
  · rcases h2 with h2 | h2 | h2
    · exact Or.inl h2.1
    · exact Or.inr (Or.inl h2.1)
    · exact Or.inr (Or.inr h2.1)
  · rw [e] at h1; exact absurd h1 (by decide)
  · rw [e, nI_eq (by omega) (by omega)] at h1; omega
theorem DL_ML {S : ST} {v u : GV} {c n j th i : Nat} {r : Option Nat} {x : Int32} {f dd : Int32 → Int32 → Int32 → Int32} (h : DL S v c r x n j th f dd i) (e : ∀ x, x < c → gA u 11 x = dO v x ∧ gA u 12 x = dA v x) : ML u x th f dd := by
  rcases h with h | ⟨b, fr, len, e1, e2, e3, e4, e5, e6, e7, e8, e9⟩
  · exact Or.inl ⟨h.2.1, h.2.2.1⟩
  · have hO : ∀ k, k ≤ len → gA u 11 (fr + k) = dO v (fr + k) := fun k hk => (e _ (by omega)).1
    have hA : ∀ k, k ≤ len → gA u 12 (fr + k) = dA v (fr + k) := fun k hk => (e _ (by omega)).2
    refine Or.inr ⟨fr, len, e2, ?_, fun k hk q => ?_, fun x y z => ?_⟩
    · obtain ⟨l1, l2, l3, l4, l5⟩ := e7
      refine ⟨l1, l2, l3, by rw [hO len (Nat.le_refl _)]; exact l4, fun k hk => ?_⟩
      rw [hO k (by omega), hA k (by omega), tp_ext k (fun j hj => hO j (by omega))]
      exact l5 k hk
    · rw [hO k (by omega)] at q
      rw [hA k (by omega)]; exact csR_2 (e6.2.2 k hk) q
    · rw [e8 x y z]
      exact (lawV_ext (fun k hk => hO k (by omega)) (fun k hk => hA k (by omega))).symm
theorem m_gend {fu d n j a : Nat} {S : ST} {v : GV} {G : GP} {N : NM} {q : HP} {nn : Nat} {cd ty : Nat → Nat} {c i1 i2 : Nat} (hf : 1101 ≤ fu) (ha : a ≤ 1000) (h : DQ d n j a S v G N q nn cd ty c i1 i2) : ∃ w, f_X13_gallery_57 fu (mw v a 0) = some (nI 0, w) ∧ gC w = gC v ∧ MG w G ∧ MHL (gA w 24) (q, lk0) ∧ gI w 25 = nI 0 ∧ (∀ m, m < 4 → gA w 26 m = nI 0) ∧ MBg w q ∧ gA w 21 0 = nI 0 ∧ gI w 2 = gI v 2 ∧ MN w G N ∧ (∀ i, gL w 9 i = gL v 9 i) ∧ gA w 32 = gA v 32 := by
  obtain ⟨hG, hB, hCG, hCN, hCH, hMG, hMB, hNR, hNT, hc, hL1, hL2, hj⟩ := h
  have s8 := hG.1
  have t5 := hG.2.1
  have e4 := hG.2.2.1
  have q8 := hB.1.1.2.1
  have n00 : nI 0 ≤ nI 0 := by decide
  obtain ⟨f, c1, c2⟩ := m_cp70 (fu := fu) (v := mw v a 0) hf
  have u13 : gI (sAf (mw v a 0) 10 f) 13 = nI c := by rw [gI_sAf, mw_I _ _ _ (by decide) (by decide)]; exact hc.1
  obtain ⟨f2, g2, c3, c4⟩ := m_cpL (fu := fu) (v := sAf (mw v a 0) 10 f) (c := c) hf u13 (by have := hc.2; omega)
  have hn17 := hNT.1
  have n19 := hNT.2.1
  simp only [↓reduceIte] at n19
  obtain ⟨w3, c5, c6, c7, c8, c9, c10⟩ := m_cpN (fu := fu) (v := sAf (sAf (sAf (mw v a 0) 10 f) 11 f2) 12 g2) (n := nn) hf (by rw [gI_sAf, gI_sAf, gI_sAf, mw_I _ _ _ (by decide) (by decide)]; exact n19) hn17
  have A10 : gA w3 10 = f := by rw [c6 10 (by decide), gA_sAfn _ _ (by decide), gA_sAfn _ _ (by decide), gA_sAf]
  have A11 : gA w3 11 = f2 := by rw [c6 11 (by decide), gA_sAfn _ _ (by decide), gA_sAf]
  have A12 : gA w3 12 = g2 := by rw [c6 12 (by decide), gA_sAf]
  have f70 : ∀ x, x < 70 → f x = gA v 10 (70 + x) := c2
  have law : ∀ x, x < c → gA (sI w3 18 (nI nn)) 11 x = dO v x ∧ gA (sI w3 18 (nI nn)) 12 x = dA v x := fun x hx => by
    rw [gA_sI, gA_sI, A11, A12]; exact c4 x hx
  have mg : MG (sI w3 18 (nI nn)) G := by
    obtain ⟨b1, b2, b3, b4, b5⟩ := hMG
    refine ⟨by rw [gA_sI, A10, f70 _ (by omega)]; exact b1, by rw [gA_sI, A10, f70 _ (by omega)]; exact b2, by rw [gA_sI, A10, f70 _ (by omega)]; exact b3, fun t ht => ?_, fun e he => ?_, ?_, ?_⟩
    · rw [gA_sI, A10, f70 _ (by omega), f70 _ (by omega), f70 _ (by omega), show 70 + (6 + 4 * t) = 76 + 4 * t by omega, show 70 + (6 + (4 * t + 1)) = 76 + 4 * t + 1 by omega, show 70 + (6 + (4 * t + 3)) = 76 + 4 * t + 3 by omega]; exact b4 t ht
    · rw [gA_sI, A10, f70 _ (by omega), show 70 + (26 + e) = 96 + e by omega]; exact b5 e he
    · rw [gA_sI, A10, f70 _ (by omega)]; exact DL_ML hL1 law
    · rw [gA_sI, A10, f70 _ (by omega)]; exact DL_ML hL2 law
  have mbg : MBg (sI w3 18 (nI nn)) q := by
    obtain ⟨b1, b2, b3⟩ := hMB
    refine ⟨by rw [gA_sI, A10, f70 _ (by omega)]; exact b1, fun r hr => ?_, fun t ht => ?_⟩
    · rw [gA_sI, A10, f70 _ (by omega), f70 _ (by omega), f70 _ (by omega), f70 _ (by omega), show 70 + (30 + 4 * r) = 100 + 4 * r by omega, show 70 + (30 + 4 * r + 1) = 100 + 4 * r + 1 by omega, show 70 + (30 + 4 * r + 2) = 100 + 4 * r + 2 by omega, show 70 + (30 + 4 * r + 3) = 100 + 4 * r + 3 by omega]; exact b2 r hr
    · rw [gA_sI, A10, f70 _ (by omega), show 70 + (6 + (4 * t + 2)) = 76 + 4 * t + 2 by omega]; exact b3 t ht
  obtain ⟨w, d1, d2, d3, d4, d5, d6, d7, d8, d9, d10⟩ := m_begins (fu := fu) (v := sI w3 18 (nI nn)) hf hG mg mbg hB
  refine ⟨w, ?_, ?_, MG_of mg (d2 10 (by decide) (by decide) (by decide)) (d2 11 (by decide) (by decide) (by decide)) (d2 12 (by decide) (by decide) (by decide)), ⟨d6, d7, fun i hi => absurd hi (Nat.not_lt_zero _)⟩, d9, d10, ?_, d8, ?_, ⟨nn, cd, ty, hNR, ?_, fun k hk => ?_⟩, fun i => ?_, ?_⟩
  · simp only [f_X13_gallery_57, ↓lm_1, ↓lm_2, ↓lm_3, ↓lm_4, ↓lm_5, ↓lm_6, ↓lm_7, ↓lm_8, ↓lm_9, ↓lm_10, ↓lm_11, li_0, li_1, li_2, li_3, li_4, li_5, li_6, li_7, li_8, li_9, li_10, li_11, li_12, li_13, li_14, li_15, li_16, li_17, li_18, li_19, li_20, li_21, li_22, li_23, li_24, li_25, li_26, li_27, li_28, li_29, li_30, li_31, li_32, li_33, li_34, li_35, li_36, li_37, li_38, li_39, li_40, li_41, li_42, li_43, li_44, li_45, li_46, li_47, li_48, li_49, li_50, li_51, li_52, li_53, li_54, li_55, li_56, li_57, li_58, li_59, li_60, li_61, li_62, li_63, li_64, li_65, li_66, li_96, li_97, li_99, li_100, li_122, li_125, li_126, li_140, li_255, li_256, li_999, li_1000, li_1001, li_1002, li_1100, li_1386, li_1452, li_1518, li_9999, li_1000000, mw_g8, n00, ↓reduceIte, c1, c3, c5, d1, bd_s]
  · rw [d5]; exact c9
  · rw [MBg, d2 10 (by decide) (by decide) (by decide)]; exact mbg
  · rw [d3 2 (by decide), gI_sI, if_neg (by decide), c8 2, gI_sAf, gI_sAf, gI_sAf, mw_I _ _ _ (by decide) (by decide)]
  · rw [d3 18 (by decide), gI_sI, if_pos rfl]
  · obtain ⟨z1, z2, _⟩ := hNT.2.2 k hk
    simp only [↓reduceIte] at z1 z2
    rw [d4, d2 16 (by decide) (by decide) (by decide)]
    exact ⟨(c10 k hk).1.trans z1, (c10 k hk).2.trans z2⟩
  · rw [d4]
    show gL w3 9 i = _
    rw [c7 9 (by decide)]; rfl
  · rw [d2 32 (by decide) (by decide) (by decide), gA_sI, c6 32 (by decide), gA_sAfn _ _ (by decide), gA_sAfn _ _ (by decide), gA_sAfn _ _ (by decide)]; rfl
